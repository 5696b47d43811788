/-! new cells; the class's rows that grow -/
section ALR
variable {G : zk_G} {h : zk_H}
theorem al_nx (e : zk_E) (n : Nat) : zk_nx G (zk_al h e n) = zk_nx G h + 1 := by unfold zk_nx zk_al; simp; omega
theorem al_rd0 (e : zk_E) (n : Nat) {a : Nat} (ha : a < zk_nx G h) : zk_rd G (zk_al h e n) a = zk_rd G h a := by
  unfold zk_rd zk_al
  unfold zk_nx at ha
  dsimp only
  split
  · rfl
  · rw [List.getElem?_append_left (by omega)]
theorem al_rd1 (e : zk_E) (n : Nat) : zk_rd G (zk_al h e n) (zk_nx G h) = some e := by
  unfold zk_rd zk_al zk_nx
  dsimp only
  rw [if_neg (by omega), List.getElem?_append_right (by omega)]
  simp
theorem wr_rd1 {a : Nat} (e : zk_E) (h1 : G.1 ≤ a) (h2 : a < zk_nx G h) : zk_rd G (zk_wr G h a e) a = some e := by
  unfold zk_rd zk_wr
  unfold zk_nx at h2
  dsimp only
  rw [if_neg (by omega), List.getElem?_set_self (by omega)]
theorem wr_rd0 {a b : Nat} (e : zk_E) (h1 : G.1 ≤ a) (hn : a ≠ b) : zk_rd G (zk_wr G h a e) b = zk_rd G h b := by
  unfold zk_rd zk_wr
  dsimp only
  split
  · rfl
  · rw [List.getElem?_set_ne (by omega)]
theorem wr_nx (a : Nat) (e : zk_E) : zk_nx G (zk_wr G h a e) = zk_nx G h := by unfold zk_nx zk_wr; simp
theorem wr_al (e e' : zk_E) (n : Nat) : zk_wr G (zk_al h e n) (zk_nx G h) e' = zk_al h e' n := by
  unfold zk_wr zk_al zk_nx
  dsimp only
  rw [show G.1 + h.1.length - G.1 = h.1.length by omega, List.set_append_right _ _ (Nat.le_refl _)]
  simp
theorem rd_lt {a : Nat} {e : zk_E} (hr : zk_rd G h a = some e) : G.1 ≤ a ∧ a < zk_nx G h := by
  unfold zk_rd at hr
  unfold zk_nx
  split at hr
  · cases hr
  · have := (List.getElem?_eq_some_iff.mp hr).1
    omega
theorem c_copyOf {a n0 : Nat} {f : Nat → Int32} (hr : zk_rd G h a = some (.inl (0, n0, .inl f))) (m : Int) (hm : (n0 : Int) < m ∧ m ≤ 65536) (Q : Option Value → zk_H → Prop) : zk_wp G 204 0 [some (.ref a), some (.int (iz m)), none] [] h Q ↔ Q (some (.ref (zk_nx G h))) (zk_al h (.inl (0, m.toNat, .inl (fun x => if x < n0 then f x else iz 0))) m.toNat) := by
  refine zk_eq ?_ Q
  have hl := rd_lt hr
  have an := zk_an_f (zk_ar_rd hr)
  have e1 := iz_toInt (z := m) (by omega) (by omega)
  generalize hH : zk_al h (.inl (0, m.toNat, .inl (fun _ => iz 0))) m.toNat = h1
  have hr1 : zk_rd G h1 a = some (.inl (0, n0, .inl f)) := by rw [← hH, al_rd0 _ _ hl.2, hr]
  have hr2 : zk_rd G h1 (zk_nx G h) = some (.inl (0, m.toNat, .inl (fun _ => iz 0))) := by rw [← hH, al_rd1]
  have an1 := zk_an_f (zk_ar_rd hr1)
  have mn := c_mn G h1 (n0 : Int) m (by omega) (by omega)
  simp (disch := first | omega | assumption | (simp; done)) only [u_204_0, u_204_1, u_204_2, u_204_3, u_204_6, u_204_13, u_204_14, u_204_15, u_204_17, u_204_17N, u_204_18, u_204_19, u_204_20, u_204_21, u_204_22, u_204_23, u_204_24, u_204_25, u_204_31, u_204_32, true_or, or_true, zk_li1_s, zk_ll1_s, zk_la1_r, zk_la1_n, zk_lg0, zk_lgs, zk_co_n, zk_co_i, zk_co_r, zk_co_u, zk_co_l, zk_l1_0, zk_l1_1, zk_l1_s, zk_l2_0, zk_l2_1, zk_l2_s, zk_sm0, zk_smi, zk_smr, zk_smn, zk_sml, zk_fi, zk_fz, zk_fo, zk_fn, zk_fa, zk_ts, zk_tn, zk_cases, true_and, and_true, List.getElem?_cons_zero, List.getElem?_cons_succ, List.length_cons, List.length_nil, Nat.reduceAdd, Nat.reduceLT, Nat.reduceLeDiff, List.set_cons_zero, List.set_cons_succ, va_rf, iz_lit, iz_inj, an, an1, e1, hH, mn]
  refine ⟨fun _ => ⟨by omega, ?_⟩, fun c => absurd c (by omega)⟩
  rw [show min (n0 : Int) m = n0 by omega]
  have e0 := iz_toInt (z := 0) (by omega) (by omega)
  have en := iz_toInt (z := (n0 : Int)) (by omega) (by omega)
  rw [u_204_28 G _ _ h1 _ (iz n0) (iz 0) (iz 0) (zk_nx G h) a n0 m.toNat f (fun _ => iz 0) hr1 hr2 ⟨by omega, by omega, by omega, by omega, by omega, by decide⟩]
  rw [← hH, wr_al, e0, en]
  simp (disch := first | omega | assumption | (simp; done)) only [u_204_0, u_204_1, u_204_2, u_204_3, u_204_6, u_204_13, u_204_14, u_204_15, u_204_17, u_204_17N, u_204_18, u_204_19, u_204_20, u_204_21, u_204_22, u_204_23, u_204_24, u_204_25, u_204_28, u_204_31, u_204_32, true_or, or_true, zk_li1_s, zk_ll1_s, zk_la1_r, zk_la1_n, zk_lg0, zk_lgs, zk_co_n, zk_co_i, zk_co_r, zk_co_u, zk_co_l, zk_l1_0, zk_l1_1, zk_l1_s, zk_l2_0, zk_l2_1, zk_l2_s, zk_sm0, zk_smi, zk_smr, zk_smn, zk_sml, zk_fi, zk_fz, zk_fo, zk_fn, zk_fa, zk_ts, zk_tn, zk_cases, true_and, and_true, List.getElem?_cons_zero, List.getElem?_cons_succ, List.length_cons, List.length_nil, Nat.reduceAdd, Nat.reduceLT, Nat.reduceLeDiff, List.set_cons_zero, List.set_cons_succ, va_rf]
  congr 6
  funext x
  unfold va_cpy
  simp
end ALR
def cI (s : mS) (nz nj : Int) : Prop := (s 1 0 = nz ∧ s 80 0 = nz ∧ s 10 0 = nj ∧ s 81 0 = nj) ∧ ∀ j, 0 ≤ j → j < nj → 0 ≤ s 11 j ∧ s 11 j < nz
def wI (s : mS) (p : Int) : Prop := 0 ≤ s 100 p ∧ s 100 p ≤ s 102 p ∧ (1 ≤ s 102 p ∧ (s 102 p = rlim p ∨ s 102 p % 8 = 0)) ∧ s 102 p ≤ rlim p ∧ ∀ k, s 100 p ≤ k → k < 600 → s 101 (600 * p + k) = 0
def rad (s : mS) (p v : Int) : mS := if s 100 p < rlim p then up (up (if s 100 p < s 102 p then s else up s 102 p (min (rlim p) (2 * s 100 p))) 101 (600 * p + s 100 p) v) 100 p (s 100 p + 1) else s
/-- the room of the class's rows -/
def csn (s : mS) : Nat → Int
  | 0 => 0
  | n + 1 => csn s n + s 102 n
def cs (s : mS) : Int := csn s 81
theorem csn_of {s s' : mS} : ∀ n : Nat, (∀ i : Nat, i < n → s' 102 i = s 102 i) → csn s' n = csn s n := by
  intro n
  induction n with
  | zero => intro _; rfl
  | succ n ih => intro h; show csn s' n + s' 102 n = csn s n + s 102 n; rw [ih (fun i hi => h i (by omega)), h n (by omega)]
theorem cs_of {s s' : mS} (h : ∀ z, s' 102 z = s 102 z) : cs s' = cs s := csn_of 81 (fun i _ => h i)
theorem csn_up (s : mS) (p : Nat) (v : Int) : ∀ n : Nat, p < n → csn (up s 102 p v) n = csn s n + v - s 102 p := by
  intro n
  induction n with
  | zero => intro h; omega
  | succ n ih =>
    intro h
    show csn (up s 102 p v) n + up s 102 p v 102 n = csn s n + s 102 n + v - s 102 p
    by_cases c : p = n
    · subst c
      rw [up_e, csn_of p (s := s) (fun i hi => by rw [up_z, if_neg (by omega)])]
      omega
    · rw [up_z, if_neg (by omega), ih (by omega)]
      omega
theorem cs_up (s : mS) {p : Int} (hp : 0 ≤ p ∧ p < 81) (v : Int) : cs (up s 102 p v) = cs s + v - s 102 p := by
  obtain ⟨q, rfl⟩ : ∃ q : Nat, p = q := ⟨p.toNat, by omega⟩
  exact csn_up s q v 81 (by omega)
/-- the class's cells, moved or grown; all others as they were -/
def xE (G : zk_G) (nz nj : Int) (B : zk_H) (ad : Int → Nat) (nz' nj' : Int) (B' : zk_H) (ad' : Int → Nat) (d : Int) : Prop := hxo G B' nz' nj' ad' ∧ (∀ a, a < zk_nx G B → (∀ r, Ux nz nj r → ad r ≠ a) → zk_rd G B' a = zk_rd G B a ∧ ∀ r, Ux nz' nj' r → ad' r ≠ a) ∧ zk_nx G B ≤ zk_nx G B' ∧ (zk_nx G B' : Int) ≤ zk_nx G B + d ∧ (B'.2 : Int) ≤ B.2 + 5 * d
theorem rlim_r (p : Int) : 3 ≤ rlim p ∧ rlim p ≤ 512 := by unfold rlim; split <;> (try split) <;> (try split) <;> (try split) <;> omega
theorem rlim_c {p : Int} : rlim p = 3 ∨ rlim p = 6 ∨ rlim p = 8 ∨ rlim p = 11 ∨ rlim p = 20 ∨ rlim p = 512 := by unfold rlim; split <;> (try split) <;> (try split) <;> (try split) <;> omega
section ROWS
variable {G : zk_G} {B : zk_H} {nz nj : Int} {ad : Int → Nat}
theorem xE_r (hB : hxo G B nz nj ad) : xE G nz nj B ad nz nj B ad 0 := ⟨hB, fun a _ h => ⟨rfl, h⟩, by omega, by omega, by omega⟩
theorem xE_t {B1 B2 : zk_H} {n1 n2 n1' n2' : Int} {ad1 ad2 : Int → Nat} {d d' : Int} (h1 : xE G nz nj B ad n1 n2 B1 ad1 d) (h2 : xE G n1 n2 B1 ad1 n1' n2' B2 ad2 d') : xE G nz nj B ad n1' n2' B2 ad2 (d + d') := by
  obtain ⟨a1, a2, a3, a4, a5⟩ := h1
  obtain ⟨b1, b2, b3, b4, b5⟩ := h2
  refine ⟨b1, fun a ha hr => ?_, by omega, by omega, by omega⟩
  obtain ⟨q1, q2⟩ := a2 a ha hr
  obtain ⟨q3, q4⟩ := b2 a (by omega) q2
  exact ⟨by rw [q3, q1], q4⟩
theorem hx_self {h : zk_H} {s : mS} (hr : ∀ r, Ux nz nj r → zk_rd G h (ad r) = some (ccl ad s r)) (hi : ∀ r r', Ux nz nj r → Ux nz nj r' → ad r = ad r' → r = r') : hx G h nz nj ad s = h := by
  unfold hx
  apply ov_id
  intro a e hc
  by_cases q : ∃ r, Ux nz nj r ∧ ad r = a
  · obtain ⟨r, r1, rfl⟩ := q
    unfold cxo at hc
    have q : ∃ r', Ux nz nj r' ∧ ad r' = ad r := ⟨r, r1, rfl⟩
    rw [dif_pos q] at hc
    have h2 := Classical.choose_spec q
    rw [hi _ _ h2.1 r1 h2.2] at hc
    rw [hr r r1]
    exact hc
  · rw [cxo_out s (fun r h1 h2 => q ⟨r, h1, h2⟩)] at hc
    cases hc
theorem ref_ok (r : Int) (hr : Ux 3 12 r) (ha : aro r = false) : ∀ q ∈ (cfs r).2, q.1 = 1 → (400 ≤ q.2.2 → q.2.2 = r + 100) ∧ (10 ≤ q.2.2 → q.2.2 ≤ 71 → r = 6) := by
  have key : ∀ n : Nat, n < 500 → (uxb 3 12 (n : Int) && !aro (n : Int)) = true → ((cfs (n : Int)).2.all (fun q => !(q.1 == 1) || (decide (400 ≤ q.2.2 → q.2.2 = (n : Int) + 100) && decide (10 ≤ q.2.2 → q.2.2 ≤ 71 → (n : Int) = 6)))) = true := by decide +kernel
  have hh := (Ux_iff 3 12 r).mp hr
  have k := key r.toNat (by omega)
  rw [show ((r.toNat : Nat) : Int) = r by omega] at k
  have hr2 : uxb 3 12 r = true := hr
  rw [hr2, ha] at k
  have k2 := k rfl
  rw [List.all_eq_true] at k2
  intro q hq hc
  have k3 := k2 q hq
  rw [hc] at k3
  simp at k3
  exact ⟨fun a => by omega, fun a b => by omega⟩
theorem zof_ok (r : Int) (hr : Ux 3 12 r) (ha : aro r = false) : ∀ q ∈ (cfs r).2, q.1 = 2 → q.2.1 = 11 ∧ q.2.2 = r - 240 ∧ 240 ≤ r ∧ r < 252 := by
  have key : ∀ n : Nat, n < 500 → (uxb 3 12 (n : Int) && !aro (n : Int)) = true → ((cfs (n : Int)).2.all (fun q => !(q.1 == 2) || (decide (q.2.1 = 11) && decide (q.2.2 = (n : Int) - 240) && decide (240 ≤ (n : Int)) && decide ((n : Int) < 252)))) = true := by decide +kernel
  have hh := (Ux_iff 3 12 r).mp hr
  have k := key r.toNat (by omega)
  rw [show ((r.toNat : Nat) : Int) = r by omega] at k
  have hr2 : uxb 3 12 r = true := hr
  rw [hr2, ha] at k
  have k2 := k rfl
  rw [List.all_eq_true] at k2
  intro q hq hc
  have k3 := k2 q hq
  rw [hc] at k3
  simpa [and_assoc] using k3
theorem ccl_ad {ad' : Int → Nat} {s : mS} (hn : 0 ≤ nz ∧ nz ≤ 3 ∧ 0 ≤ nj ∧ nj ≤ 12) (hc : cI s nz nj) {t : Int} (ht : 400 ≤ t) (he : ∀ q, q ≠ t → ad' q = ad q) {r : Int} (hr : Ux nz nj r) (hrt : r ≠ t - 100) : ccl ad' s r = ccl ad s r := by
  unfold ccl
  have hU := (Ux_iff _ _ _).mp hr
  obtain ⟨⟨i1, i2, i3, i4⟩, i5⟩ := hc
  by_cases ha : aro r = true
  · rw [if_pos ha, if_pos ha]
    unfold cca
    have e1 : (fun x : Nat => if (x : Int) < s 80 0 then some (ad' (200 + x)) else none) = fun x : Nat => if (x : Int) < s 80 0 then some (ad (200 + x)) else none := by
      funext x
      by_cases c : (x : Int) < s 80 0
      · rw [if_pos c, if_pos c, he _ (by omega)]
      · rw [if_neg c, if_neg c]
    have e2 : (fun x : Nat => if (x : Int) < s 81 0 then some (ad' (220 + x)) else none) = fun x : Nat => if (x : Int) < s 81 0 then some (ad (220 + x)) else none := by
      funext x
      by_cases c : (x : Int) < s 81 0
      · rw [if_pos c, if_pos c, he _ (by omega)]
      · rw [if_neg c, if_neg c]
    have e3 : (fun x : Nat => if x < 36 then some (ad' (100 + x)) else none) = fun x : Nat => if x < 36 then some (ad (100 + x)) else none := by
      funext x
      by_cases c : x < 36
      · rw [if_pos c, if_pos c, he _ (by omega)]
      · rw [if_neg c, if_neg c]
    have e4 : (fun x : Nat => if x < 60 then some (ad' (10 + x)) else none) = fun x : Nat => if x < 60 then some (ad (10 + x)) else none := by
      funext x
      by_cases c : x < 60
      · rw [if_pos c, if_pos c, he _ (by omega)]
      · rw [if_neg c, if_neg c]
    rw [e1, e2, e3, e4]
  · rw [if_neg ha, if_neg ha]
    have ha' : aro r = false := by simpa using ha
    congr 2
    apply List.map_congr_left
    intro q hq
    have h1 := ref_ok r (Ux_mono hn hr) ha' q hq
    have h2 := zof_ok r (Ux_mono hn hr) ha' q hq
    unfold cv
    by_cases c0 : q.1 = 0
    · rw [if_pos c0, if_pos c0]
    rw [if_neg c0, if_neg c0]
    by_cases c1 : q.1 = 1
    · rw [if_pos c1, if_pos c1, he _ (fun w => hrt (by have := (h1 c1).1 (by omega); omega))]
    rw [if_neg c1, if_neg c1]
    by_cases c2 : q.1 = 2
    · obtain ⟨q1, q2, q3, q4⟩ := h2 c2
      have := i5 (r - 240) (by omega) (by omega)
      rw [if_pos c2, if_pos c2, he _ (by rw [q1, q2]; omega)]
    rw [if_neg c2, if_neg c2]
theorem add_tail (hB : hxo G B nz nj ad) {s : mS} {p : Int} (hp : (0 ≤ p ∧ p < 3 * nz) ∨ (9 ≤ p ∧ p < 9 + 6 * nj)) (h0 : 0 ≤ s 100 p) (h1 : s 100 p < s 102 p) (h2 : s 102 p ≤ rlim p) (v : Int) (Q : Option Value → zk_H → Prop) : zk_wp G 18 49 [some (.ref (ad (300 + p))), some (.int (iz v))] [] (hx G B nz nj ad s) Q ↔ Q (some (.int 1)) (hx G B nz nj ad (up (up s 101 (600 * p + s 100 p) v) 100 p (s 100 p + 1))) := by
  refine zk_eq ?_ Q
  have hn := hB.1
  have hl := rlim_r p
  have r1 := xr_it hB s p hp
  have hU : Ux nz nj (400 + p) := (Ux_iff _ _ _).mpr (by omega)
  have si := zk_si_f r1
  have e1 := iz_toInt (z := s 100 p) (by omega) (by omega)
  have w : zk_wr G (hx G B nz nj ad s) (ad (400 + p)) (.inl (0, (s 102 p).toNat, .inl (upd (fun x : Nat => if x < 600 then iz (s 101 (600 * p + x)) else iz 0) (s 100 p).toNat (iz v)))) = hx G B nz nj ad (up s 101 (600 * p + s 100 p) v) := by
    rw [← hx_wr hB s (up s 101 (600 * p + s 100 p) v) hU (fun q q1 q2 => ccl_up (Ux_mono hB.1 q1) (fun w => q2 (by rw [← w]; simp [own]; omega)))]
    congr 1
    unfold ccl
    rw [if_pos (aro_t (by omega))]
    unfold cca
    rw [if_neg (by omega), if_neg (by omega), if_neg (by omega), if_neg (by omega), if_neg (by omega), if_neg (by omega), if_neg (by omega), if_neg (by omega), show 400 + p - 400 = p by omega, up_k _ _ _ _ (by decide)]
    congr 4
    funext x
    rw [upd_ap, up_z]
    by_cases c : x = (s 100 p).toNat
    · rw [if_pos c, if_pos (by omega), if_pos (by omega)]
    · rw [if_neg c]
      by_cases c2 : x < 600
      · rw [if_pos c2, if_pos c2, if_neg (by omega)]
      · rw [if_neg c2, if_neg c2]
  have e2 : up s 101 (600 * p + s 100 p) v 100 p = s 100 p := up_k _ _ _ _ (by decide)
  simp (disch := first | omega | assumption | (simp; done)) only [u_18_0, u_18_1, u_18_4, u_18_5, u_18_8, u_18_11, u_18_12, u_18_13, u_18_14, u_18_17, u_18_18, u_18_21, u_18_22, u_18_25, u_18_26, u_18_27, u_18_30, u_18_31, u_18_34, u_18_35, u_18_36, u_18_39, u_18_40, u_18_43, u_18_46, u_18_49, u_18_50, u_18_53, u_18_54, u_18_57, u_18_58, u_18_59, u_18_60i, u_18_60r, u_18_60n, u_18_61, u_18_64, u_18_65, u_18_66, u_18_69, u_18_70, true_or, or_true, zk_li1_s, zk_ll1_s, zk_la1_r, zk_la1_n, zk_lg0, zk_lgs, zk_co_n, zk_co_i, zk_co_r, zk_co_u, zk_co_l, zk_l1_0, zk_l1_1, zk_l1_s, zk_l2_0, zk_l2_1, zk_l2_s, zk_sm0, zk_smi, zk_smr, zk_smn, zk_sml, zk_fi, zk_fz, zk_fo, zk_fn, zk_fa, zk_ts, zk_tn, zk_cases, true_and, and_true, List.getElem?_cons_zero, List.getElem?_cons_succ, List.length_cons, List.length_nil, Nat.reduceAdd, Nat.reduceLT, Nat.reduceLeDiff, List.set_cons_zero, List.set_cons_succ, va_rf, xg_ro_0 hB, xg_ro_1 hB, xg_ro_2 hB, xp_ro_2 hB, xi_ro hB, si, e1, w, iz_lit, iz_add, e2]
  all_goals ((repeat' (first | exact trivial | exact ⟨rfl, rfl⟩ | rfl | apply And.intro | intro _)) <;> first | omega | (exfalso; omega) | contradiction | (exfalso; simp_all; done) | trace_state)
theorem c_add (hB : hxo G B nz nj ad) {s : mS} (hc : cI s nz nj) {p : Int} (hp : (0 ≤ p ∧ p < 3 * nz) ∨ (9 ≤ p ∧ p < 9 + 6 * nj)) (hw : wI s p) (h4 : s 100 p ≤ 409) (v : Int) : ∃ B' ad', xE G nz nj B ad nz nj B' ad' (cs (rad s p v) - cs s) ∧ (∀ q, q < 400 → ad' q = ad q) ∧ ∀ Q : Option Value → zk_H → Prop, zk_wp G 18 0 [some (.ref (ad (300 + p))), some (.int (iz v))] [] (hx G B nz nj ad s) Q ↔ Q (some (.int (iz (if s 100 p < rlim p then 1 else 0)))) (hx G B' nz nj ad' (rad s p v)) := by
  have hn := hB.1
  have hl := rlim_r p
  obtain ⟨w1, w2, w3, w4, w5⟩ := hw
  have r1 := xr_it hB s p hp
  have an := zk_an_f (zk_ar_rd r1)
  rcases Int.lt_or_le (s 100 p) (rlim p) with c1 | c1
  · rcases Int.lt_or_le (s 100 p) (s 102 p) with c2 | c2
    · have ecs : cs (rad s p v) = cs s := by
        unfold rad
        rw [if_pos c1, if_pos c2]
        exact cs_of (fun z => by rw [up_k _ _ _ _ (by decide), up_k _ _ _ _ (by decide)])
      refine ⟨B, ad, ⟨hB, fun a _ h => ⟨rfl, h⟩, by omega, by omega, by omega⟩, fun _ _ => rfl, fun Q => ?_⟩
      have tl := add_tail hB hp w1 c2 w4 v
      unfold rad
      rw [if_pos c1, if_pos c1, if_pos c2]
      refine zk_eq ?_ Q
      simp (disch := first | omega | assumption | (simp; done)) only [u_18_0, u_18_1, u_18_4, u_18_5, u_18_8, u_18_11, u_18_12, u_18_13, u_18_14, u_18_17, u_18_18, u_18_21, u_18_22, u_18_26, u_18_27, u_18_30, u_18_31, u_18_34, u_18_35, u_18_36, u_18_39, u_18_40, u_18_43, u_18_46, u_18_50, u_18_53, u_18_54, u_18_57, u_18_58, u_18_59, u_18_60i, u_18_60r, u_18_60n, u_18_61, u_18_64, u_18_65, u_18_66, u_18_69, u_18_70, true_or, or_true, zk_li1_s, zk_ll1_s, zk_la1_r, zk_la1_n, zk_lg0, zk_lgs, zk_co_n, zk_co_i, zk_co_r, zk_co_u, zk_co_l, zk_l1_0, zk_l1_1, zk_l1_s, zk_l2_0, zk_l2_1, zk_l2_s, zk_sm0, zk_smi, zk_smr, zk_smn, zk_sml, zk_fi, zk_fz, zk_fo, zk_fn, zk_fa, zk_ts, zk_tn, zk_cases, true_and, and_true, List.getElem?_cons_zero, List.getElem?_cons_succ, List.length_cons, List.length_nil, Nat.reduceAdd, Nat.reduceLT, Nat.reduceLeDiff, List.set_cons_zero, List.set_cons_succ, va_rf, xg_ro_0 hB, xg_ro_1 hB, xg_ro_2 hB, xi_ro hB, an, iz_lit, iz_lt, tl]
      all_goals ((repeat' (first | exact trivial | exact ⟨rfl, rfl⟩ | rfl | apply And.intro | intro _)) <;> first | omega | (exfalso; omega) | contradiction | (exfalso; simp_all; done) | trace_state)
    · have cp := c_copyOf r1 (min (rlim p) (2 * s 100 p)) (by omega)
      have mn := c_mn G (hx G B nz nj ad s) (rlim p) (2 * s 100 p) (by omega) (by omega)
      generalize hm : min (rlim p) (2 * s 100 p) = m at *
      generalize he : (.inl (0, m.toNat, .inl (fun x : Nat => if x < (s 102 p).toNat then (if x < 600 then iz (s 101 (600 * p + x)) else iz 0) else iz 0)) : zk_E) = e at *
      generalize hX : zk_nx G (hx G B nz nj ad s) = X at *
      have hX2 : zk_nx G B = X := by rw [← hX]; exact (ov_nx _ _ _).symm
      have hrow := x_ro hB s p hp
      have hrl := rd_lt hrow
      have hrow2 : zk_rd G (zk_al (hx G B nz nj ad s) e m.toNat) (ad (300 + p)) = some (.inr (4, [.int (iz (rlim p)), .ref (ad (400 + p)), .int (iz (s 100 p))])) := by rw [al_rd0 _ _ hrl.2, hrow]
      generalize hH : zk_wr G (zk_al (hx G B nz nj ad s) e m.toNat) (ad (300 + p)) (.inr (4, [.int (iz (rlim p)), .ref X, .int (iz (s 100 p))])) = H
      generalize hA : (fun q => if q = 400 + p then X else ad q) = ad'
      have hA1 : ad' (400 + p) = X := by rw [← hA]; exact if_pos rfl
      have hA2 : ∀ q, q ≠ 400 + p → ad' q = ad q := fun q c => by rw [← hA]; exact if_neg c
      have hlt : ∀ r, Ux nz nj r → G.1 ≤ ad r ∧ ad r < X := fun r hr => by have := hB.2.1 r hr; omega
      have hinj : ∀ r r', Ux nz nj r → Ux nz nj r' → ad' r = ad' r' → r = r' := by
        intro r r' q1 q2 q3
        by_cases d1 : r = 400 + p
        · by_cases d2 : r' = 400 + p
          · rw [d1, d2]
          · rw [d1, hA1, hA2 r' d2] at q3
            have := hlt r' q2
            omega
        · by_cases d2 : r' = 400 + p
          · rw [d2, hA1, hA2 r d1] at q3
            have := hlt r q1
            omega
          · rw [hA2 r d1, hA2 r' d2] at q3
            exact hB.2.2 r r' q1 q2 q3
      have hU3 : Ux nz nj (300 + p) := (Ux_iff _ _ _).mpr (by omega)
      have hU4 : Ux nz nj (400 + p) := (Ux_iff _ _ _).mpr (by omega)
      have hnH : zk_nx G H = X + 1 := by rw [← hH, wr_nx, al_nx, hX]
      have hself : hx G H nz nj ad' (up s 102 p m) = H := by
        refine hx_self (fun r hr => ?_) hinj
        by_cases d1 : r = 400 + p
        · rw [d1, hA1, ← hH, wr_rd0 _ (hlt _ hU3).1 (by have := (hlt _ hU3).2; omega), ← hX, al_rd1, ← he]
          unfold ccl
          rw [if_pos (aro_t (by omega))]
          unfold cca
          rw [if_neg (by omega), if_neg (by omega), if_neg (by omega), if_neg (by omega), if_neg (by omega), if_neg (by omega), if_neg (by omega), if_neg (by omega), show 400 + p - 400 = p by omega, up_e]
          congr 5
          funext x
          rw [up_k _ _ _ _ (by decide)]
          by_cases d2 : x < (s 102 p).toNat
          · rw [if_pos d2]
          · rw [if_neg d2]
            by_cases d3 : x < 600
            · rw [if_pos d3, w5 x (by omega) (by omega)]
            · rw [if_neg d3]
        · rw [hA2 r d1]
          by_cases d2 : r = 300 + p
          · rw [d2, ← hH, wr_rd1 _ (hlt _ hU3).1 (by rw [al_nx, hX]; have := (hlt _ hU3).2; omega)]
            unfold ccl
            rw [if_neg (by rw [aro_f (by omega)]; decide), cfs_ro p (by omega)]
            show _ = some (Sum.inr (4, [Value.int (iz (rlim p)), Value.ref (ad' (400 + p)), Value.int (iz (up s 102 p m 100 p))]))
            rw [hA1, up_k _ _ _ _ (by decide)]
          · rw [← hH, wr_rd0 _ (hlt _ hU3).1 (fun q => d2 (hB.2.2 _ _ hr hU3 q.symm)), al_rd0 _ _ (by rw [hX]; exact (hlt _ hr).2), hx_rd hB s hr]
            rw [ccl_up (Ux_mono hn hr) (by simp [own]; omega), ccl_ad hn hc (t := 400 + p) (by omega) hA2 hr (by omega)]
      have hB' : hxo G H nz nj ad' := by
        refine ⟨hn, fun r hr => ?_, hinj⟩
        rw [hnH]
        by_cases d1 : r = 400 + p
        · rw [d1, hA1]
          have := (hlt _ hU3); omega
        · rw [hA2 r d1]
          have := (hlt _ hr); omega
      have ecs : cs (rad s p v) = cs s + m - s 102 p := by
        unfold rad
        rw [if_pos c1, if_neg (by omega), hm, ← cs_up s (by omega) m]
        exact cs_of (fun z => by rw [up_k _ _ _ _ (by decide), up_k _ _ _ _ (by decide)])
      refine ⟨H, ad', ⟨hB', fun a ha h => ⟨?_, fun r hr => ?_⟩, by omega, by omega, ?_⟩, fun q hq => hA2 q (by omega), fun Q => ?_⟩
      · rw [← hH, wr_rd0 _ (hlt _ hU3).1 (h _ hU3), al_rd0 _ _ (by omega)]
        exact ov_rd0 (cxo_out s h)
      · by_cases d1 : r = 400 + p
        · rw [d1, hA1]; omega
        · rw [hA2 r d1]; exact h r hr
      · rw [← hH]
        show (((hx G B nz nj ad s).2 + m.toNat : Nat) : Int) ≤ _
        show ((B.2 + m.toNat : Nat) : Int) ≤ _
        rw [ecs]
        have := rlim_c (p := p)
        omega
      · have tl := add_tail hB' (s := up s 102 p m) hp (by rw [up_k _ _ _ _ (by decide)]; omega) (by rw [up_k _ _ _ _ (by decide), up_e]; omega) (by rw [up_e]; omega) v
        rw [up_k _ _ _ _ (by decide), hself, hA2 (300 + p) (by omega)] at tl
        unfold rad
        rw [if_pos c1, if_pos c1, if_neg (by omega), hm]
        refine zk_eq ?_ Q
        simp (disch := first | omega | assumption | (simp; done)) only [u_18_0, u_18_1, u_18_4, u_18_5, u_18_8, u_18_11, u_18_12, u_18_13, u_18_14, u_18_17, u_18_18, u_18_21, u_18_22, u_18_25, u_18_26, u_18_27, u_18_30, u_18_31, u_18_34, u_18_35, u_18_36, u_18_39, u_18_40, u_18_43, u_18_46, u_18_50, u_18_53, u_18_54, u_18_57, u_18_58, u_18_59, u_18_60i, u_18_60r, u_18_60n, u_18_61, u_18_64, u_18_65, u_18_66, u_18_69, u_18_70, true_or, or_true, zk_li1_s, zk_ll1_s, zk_la1_r, zk_la1_n, zk_lg0, zk_lgs, zk_co_n, zk_co_i, zk_co_r, zk_co_u, zk_co_l, zk_l1_0, zk_l1_1, zk_l1_s, zk_l2_0, zk_l2_1, zk_l2_s, zk_sm0, zk_smi, zk_smr, zk_smn, zk_sml, zk_fi, zk_fz, zk_fo, zk_fn, zk_fa, zk_ts, zk_tn, zk_cases, true_and, and_true, List.getElem?_cons_zero, List.getElem?_cons_succ, List.length_cons, List.length_nil, Nat.reduceAdd, Nat.reduceLT, Nat.reduceLeDiff, List.set_cons_zero, List.set_cons_succ, va_rf, xg_ro_0 hB, xg_ro_1 hB, xg_ro_2 hB, xi_ro hB, an, iz_lit, iz_lt, iz_mul, mn, cp, zk_og_f hrow2, zk_op_f hrow2, hH, tl]
        all_goals ((repeat' (first | exact trivial | exact ⟨rfl, rfl⟩ | rfl | apply And.intro | intro _)) <;> first | omega | (exfalso; omega) | contradiction | (exfalso; simp_all; done) | trace_state)
  · have ecs : cs (rad s p v) = cs s := by unfold rad; rw [if_neg (by omega)]
    refine ⟨B, ad, ⟨hB, fun a _ h => ⟨rfl, h⟩, by omega, by omega, by omega⟩, fun _ _ => rfl, fun Q => ?_⟩
    unfold rad
    rw [if_neg (by omega), if_neg (by omega)]
    refine zk_eq ?_ Q
    simp (disch := first | omega | assumption | (simp; done)) only [u_18_0, u_18_1, u_18_4, u_18_5, u_18_8, u_18_11, u_18_12, u_18_14, u_18_17, u_18_18, u_18_21, u_18_22, u_18_25, u_18_26, u_18_27, u_18_30, u_18_31, u_18_34, u_18_35, u_18_36, u_18_39, u_18_40, u_18_43, u_18_46, u_18_49, u_18_50, u_18_53, u_18_54, u_18_57, u_18_58, u_18_59, u_18_60i, u_18_60r, u_18_60n, u_18_61, u_18_64, u_18_65, u_18_66, u_18_69, u_18_70, true_or, or_true, zk_li1_s, zk_ll1_s, zk_la1_r, zk_la1_n, zk_lg0, zk_lgs, zk_co_n, zk_co_i, zk_co_r, zk_co_u, zk_co_l, zk_l1_0, zk_l1_1, zk_l1_s, zk_l2_0, zk_l2_1, zk_l2_s, zk_sm0, zk_smi, zk_smr, zk_smn, zk_sml, zk_fi, zk_fz, zk_fo, zk_fn, zk_fa, zk_ts, zk_tn, zk_cases, true_and, and_true, List.getElem?_cons_zero, List.getElem?_cons_succ, List.length_cons, List.length_nil, Nat.reduceAdd, Nat.reduceLT, Nat.reduceLeDiff, List.set_cons_zero, List.set_cons_succ, va_rf, xg_ro_0 hB, xg_ro_2 hB, xi_ro hB, iz_lit, iz_lt]
    all_goals ((repeat' (first | exact trivial | exact ⟨rfl, rfl⟩ | rfl | apply And.intro | intro _)) <;> first | omega | (exfalso; omega) | contradiction | (exfalso; simp_all; done) | trace_state)
end ROWS
