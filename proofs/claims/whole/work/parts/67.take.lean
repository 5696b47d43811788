/-! taking a letter out of the row -/
def prm (n i q : Int) : Int := if q = 61 then i else if i ≤ q ∧ q < n - 1 then q + 1 else if q = n - 1 then 61 else q
def ctak (s : mS) (i : Int) : mS := fun k z => if k = 53 then (if z = 0 then s 53 0 - 1 else s 53 z) else if k = 54 then s 54 (8 * prm (s 53 0) i (z / 8) + z % 8) else s k z
def adt (ad : Int → Nat) (n i : Int) : Int → Nat := fun r => if 10 ≤ r ∧ r ≤ 71 then ad (10 + prm n i (r - 10)) else ad r
theorem prm_r {n i q : Int} (hi : 0 ≤ i ∧ i < n) (hn : n ≤ 60) (hq : 0 ≤ q ∧ q ≤ 61) : 0 ≤ prm n i q ∧ prm n i q ≤ 61 := by unfold prm; split <;> (try split) <;> (try split) <;> omega
theorem prm_inj {n i q q' : Int} (hi : 0 ≤ i ∧ i < n) (hn : n ≤ 60) (h : prm n i q = prm n i q') (hq : 0 ≤ q ∧ q ≤ 61) (hq' : 0 ≤ q' ∧ q' ≤ 61) : q = q' := by
  unfold prm at h
  split at h <;> split at h <;> (try split at h) <;> (try split at h) <;> (try split at h) <;> (try split at h) <;> omega
theorem prm_60 {n i : Int} (hi : 0 ≤ i ∧ i < n) (hn : n ≤ 60) : prm n i 60 = 60 := by unfold prm; rw [if_neg (by omega), if_neg (by omega), if_neg (by omega)]
theorem prm_61 (n i : Int) : prm n i 61 = i := by unfold prm; rw [if_pos rfl]
theorem ctak_k (s : mS) (i : Int) (k : Nat) (z : Int) (h : k ≠ 53) (h1 : k ≠ 54) : ctak s i k z = s k z := by unfold ctak; rw [if_neg h, if_neg h1]
theorem ctak_53 (s : mS) (i : Int) : ctak s i 53 0 = s 53 0 - 1 := rfl
theorem ctak_54 (s : mS) (i q k : Int) (hk : 0 ≤ k ∧ k < 8) : ctak s i 54 (8 * q + k) = s 54 (8 * prm (s 53 0) i q + k) := by
  show s 54 (8 * prm (s 53 0) i ((8 * q + k) / 8) + (8 * q + k) % 8) = _
  rw [show (8 * q + k) / 8 = q by omega, show (8 * q + k) % 8 = k by omega]
section TAKE
variable {G : zk_G} {B : zk_H} {nz nj : Int} {ad : Int → Nat}
theorem cfs_no (r : Int) (hr : Ux 3 12 r) (ha : aro r = false) (h6 : r ≠ 6) (h10 : ¬ (10 ≤ r ∧ r ≤ 71)) (h0 : r ≠ 0) : ∀ q ∈ (cfs r).2, (q.1 = 0 ∨ q.1 = 2 → q.2.1 ≠ 53 ∧ q.2.1 ≠ 54) := by
  intro q hq hc
  have := own_ok r hr ha q hq hc
  constructor
  · intro e
    rw [e] at this
    simp [own] at this
    omega
  · intro e
    rw [e] at this
    have hh := (Ux_iff 3 12 r).mp hr
    have key : ∀ n : Nat, n < 500 → (uxb 3 12 (n : Int) && !aro (n : Int)) = true → ((cfs (n : Int)).2.all (fun q => !(q.2.1 == 54) || decide (10 ≤ (n : Int) ∧ (n : Int) ≤ 71))) = true := by decide +kernel
    have k := key r.toNat (by omega)
    rw [show ((r.toNat : Nat) : Int) = r by omega] at k
    have hr2 : uxb 3 12 r = true := hr
    rw [hr2, ha] at k
    have k2 := k rfl
    rw [List.all_eq_true] at k2
    have k3 := k2 q hq
    rw [e] at k3
    simp at k3
    omega
theorem ccl_tak (hn : 0 ≤ nz ∧ nz ≤ 3 ∧ 0 ≤ nj ∧ nj ≤ 12) {s : mS} (hc : cI s nz nj) {i : Int} {r : Int} (hr : Ux nz nj r) (h6 : r ≠ 6) (h7 : r ≠ 7) (h10 : ¬ (10 ≤ r ∧ r ≤ 71)) : ccl (adt ad (s 53 0) i) (ctak s i) r = ccl ad s r := by
  unfold ccl
  have hU := (Ux_iff _ _ _).mp hr
  obtain ⟨⟨i1, i2, i3, i4⟩, i5⟩ := hc
  have ea : ∀ q, ¬ (10 ≤ q ∧ q ≤ 71) → adt ad (s 53 0) i q = ad q := fun q hq => if_neg hq
  by_cases ha : aro r = true
  · rw [if_pos ha, if_pos ha]
    unfold cca
    rw [ctak_k _ _ _ _ (by decide) (by decide), ctak_k _ _ _ _ (by decide) (by decide), ctak_k _ _ _ _ (by decide) (by decide)]
    have e1 : (fun x : Nat => if (x : Int) < s 80 0 then some (adt ad (s 53 0) i (200 + x)) else none) = fun x : Nat => if (x : Int) < s 80 0 then some (ad (200 + x)) else none := by
      funext x; rw [ea _ (by omega)]
    have e2 : (fun x : Nat => if (x : Int) < s 81 0 then some (adt ad (s 53 0) i (220 + x)) else none) = fun x : Nat => if (x : Int) < s 81 0 then some (ad (220 + x)) else none := by
      funext x; rw [ea _ (by omega)]
    have e3 : (fun x : Nat => if x < 36 then some (adt ad (s 53 0) i (100 + x)) else none) = fun x : Nat => if x < 36 then some (ad (100 + x)) else none := by
      funext x; rw [ea _ (by omega)]
    have e5 : (fun x : Nat => iz (ctak s i 42 x)) = fun x : Nat => iz (s 42 x) := by
      funext x; rw [ctak_k _ _ _ _ (by decide) (by decide)]
    have e6 : (fun x : Nat => iz (ctak s i 43 x)) = fun x : Nat => iz (s 43 x) := by
      funext x; rw [ctak_k _ _ _ _ (by decide) (by decide)]
    have e7 : (fun x : Nat => if x < 20 then iz (ctak s i 60 (20 * (r - 210) + x)) else iz 0) = fun x : Nat => if x < 20 then iz (s 60 (20 * (r - 210) + x)) else iz 0 := by
      funext x; rw [ctak_k _ _ _ _ (by decide) (by decide)]
    have e8 : (fun x : Nat => if x < 5 then lz (ctak s i (12 + x) (r - 260)) else 0) = fun x : Nat => if x < 5 then lz (s (12 + x) (r - 260)) else 0 := by
      funext x
      by_cases c : x < 5
      · rw [if_pos c, if_pos c, ctak_k _ _ _ _ (by omega) (by omega)]
      · rw [if_neg c, if_neg c]
    have e9 : (fun x : Nat => if x < 600 then iz (ctak s i 101 (600 * (r - 400) + x)) else iz 0) = fun x : Nat => if x < 600 then iz (s 101 (600 * (r - 400) + x)) else iz 0 := by
      funext x; rw [ctak_k _ _ _ _ (by decide) (by decide)]
    rw [e1, e2, e3, e5, e6, e7, e8, e9, if_neg h7, if_neg h7]
  · rw [if_neg ha, if_neg ha]
    have ha' : aro r = false := by simpa using ha
    congr 2
    apply List.map_congr_left
    intro q hq
    have h1 := ref_ok r (Ux_mono hn hr) ha' q hq
    have h2 := zof_ok r (Ux_mono hn hr) ha' q hq
    unfold cv
    have nk : q.1 = 0 ∨ q.1 = 2 → q.2.1 ≠ 53 ∧ q.2.1 ≠ 54 := by
      by_cases c0 : r = 0
      · subst c0
        intro hc
        have := own_ok 0 (Ux_mono hn hr) ha' q hq hc
        have key : ((cfs 0).2.all (fun q => !(q.2.1 == 53) && !(q.2.1 == 54))) = true := by decide +kernel
        rw [List.all_eq_true] at key
        have := key q hq
        simpa using this
      · exact cfs_no r (Ux_mono hn hr) ha' h6 h10 c0 q hq
    by_cases c0 : q.1 = 0
    · rw [if_pos c0, if_pos c0, ctak_k _ _ _ _ (nk (Or.inl c0)).1 (nk (Or.inl c0)).2]
    rw [if_neg c0, if_neg c0]
    by_cases c1 : q.1 = 1
    · rw [if_pos c1, if_pos c1, ea _ (fun w => h6 ((h1 c1).2 w.1 w.2))]
    rw [if_neg c1, if_neg c1]
    by_cases c2 : q.1 = 2
    · obtain ⟨q1, q2, q3, q4⟩ := h2 c2
      have := i5 (r - 240) (by omega) (by omega)
      rw [if_pos c2, if_pos c2, ctak_k _ _ _ _ (nk (Or.inr c2)).1 (nk (Or.inr c2)).2, ea _ (by rw [q1, q2]; omega)]
    rw [if_neg c2, if_neg c2]
theorem c_take0 (hB : hxo G B nz nj ad) (s : mS) (hs : 0 ≤ s 53 0 ∧ s 53 0 ≤ 60) (i : Int) (hr : -2147483648 ≤ i ∧ i ≤ 2147483647) (hi : ¬ (0 ≤ i ∧ i < s 53 0)) (Q : Option Value → zk_H → Prop) : zk_wp G 10 0 [some (.ref (ad 6)), some (.int (iz i)), none, none] [] (hx G B nz nj ad s) Q ↔ Q (some .null) (hx G B nz nj ad s) := by
  refine zk_eq ?_ Q
  have la := c_latt0 hB s hs i hr hi
  simp (disch := first | omega | assumption | (simp; done)) only [u_10_0, u_10_1, u_10_2, u_10_5, u_10_5N, u_10_6, u_10_7, u_10_7N, u_10_10, u_10_11, u_10_11N, u_10_13, u_10_14, u_10_15, u_10_16, u_10_17, u_10_18, u_10_21, u_10_24, u_10_25, u_10_26, u_10_27, u_10_29, u_10_32, u_10_33, u_10_36, u_10_37, u_10_38, u_10_41, u_10_42, u_10_43, u_10_44, u_10_45, u_10_46, u_10_49, u_10_52, u_10_53i, u_10_53r, u_10_53n, u_10_54, u_10_57, u_10_58, u_10_59, u_10_62, u_10_63, u_10_66, u_10_67, u_10_70, u_10_71, u_10_74, u_10_75, u_10_76, u_10_77, u_10_80, u_10_81, u_10_81N, true_or, or_true, zk_li1_s, zk_ll1_s, zk_la1_r, zk_la1_n, zk_lg0, zk_lgs, zk_co_n, zk_co_i, zk_co_r, zk_co_u, zk_co_l, zk_l1_0, zk_l1_1, zk_l1_s, zk_l2_0, zk_l2_1, zk_l2_s, zk_sm0, zk_smi, zk_smr, zk_smn, zk_sml, zk_fi, zk_fz, zk_fo, zk_fn, zk_fa, zk_ts, zk_tn, zk_cases, true_and, and_true, List.getElem?_cons_zero, List.getElem?_cons_succ, List.length_cons, List.length_nil, Nat.reduceAdd, Nat.reduceLT, Nat.reduceLeDiff, List.set_cons_zero, List.set_cons_succ, va_rf, xi_ls hB, la]
  all_goals ((repeat' (first | exact trivial | exact ⟨rfl, rfl⟩ | rfl | apply And.intro | intro _)) <;> first | omega | (exfalso; omega) | contradiction | (exfalso; simp_all; done) | trace_state)
theorem c_take (hB : hxo G B nz nj ad) {s : mS} (hc : cI s nz nj) (hs : 0 ≤ s 53 0 ∧ s 53 0 ≤ 60) (i : Int) (hi : 0 ≤ i ∧ i < s 53 0) : ∃ B' ad', xE G nz nj B ad nz nj B' ad' 0 ∧ (∀ q, ¬ (10 ≤ q ∧ q ≤ 71) → ad' q = ad q) ∧ ∀ Q : Option Value → zk_H → Prop, zk_wp G 10 0 [some (.ref (ad 6)), some (.int (iz i)), none, none] [] (hx G B nz nj ad s) Q ↔ Q (some (.ref (ad' (10 + 61)))) (hx G B' nz nj ad' (ctak s i)) := by
  have hn := hB.1
  generalize hN : s 53 0 = n at *
  have la := c_latt hB s (by omega) i (by omega)
  have hls := x_ls hB s
  rw [hN] at hls
  have U6 : Ux nz nj 6 := (Ux_iff _ _ _).mpr (by omega)
  have U7 : Ux nz nj 7 := (Ux_iff _ _ _).mpr (by omega)
  have UL : ∀ q : Int, 0 ≤ q → q ≤ 61 → Ux nz nj (10 + q) := fun q q1 q2 => (Ux_iff _ _ _).mpr (by omega)
  have nxe : zk_nx G (hx G B nz nj ad s) = zk_nx G B := ov_nx _ _ _
  have lt6 := hB.2.1 6 U6
  have lt7 := hB.2.1 7 U7
  have n67 : ad 7 ≠ ad 6 := fun q => absurd (hB.2.2 _ _ U7 U6 q) (by decide)
  have nl7 : ∀ q : Int, 0 ≤ q → q ≤ 61 → ad 7 ≠ ad (10 + q) := fun q q1 q2 e => absurd (hB.2.2 _ _ U7 (UL q q1 q2) e) (by omega)
  have nl6 : ∀ q : Int, 0 ≤ q → q ≤ 61 → ad 6 ≠ ad (10 + q) := fun q q1 q2 e => absurd (hB.2.2 _ _ U6 (UL q q1 q2) e) (by omega)
  generalize hh0 : hx G B nz nj ad s = h0 at *
  -- the row's cell
  have hrow : zk_rd G h0 (ad 7) = some (.inl (4, 60, .inr (.inr (.inr (.inr (fun x : Nat => if x < 60 then some (ad (10 + x)) else none)))))) := by
    rw [← hh0]; exact hx_arr hB s U7 (by decide)
  have hlet : ∀ q : Int, 0 ≤ q → q ≤ 61 → ∃ fs, zk_rd G h0 (ad (10 + q)) = some (.inr (1, fs)) := fun q q1 q2 => ⟨_, by rw [← hh0]; exact x_le hB s q (by omega)⟩
  let gk : Int → Nat → Option Nat := fun k x => if x < 60 then some (ad (10 + (if i ≤ (x : Int) ∧ (x : Int) < k then (x : Int) + 1 else x))) else none
  let cell : Int → zk_E := fun k => .inl (4, 60, .inr (.inr (.inr (.inr (gk k)))))
  let hk : Int → zk_H := fun k => zk_wr G h0 (ad 7) (cell k)
  have hk7 : ∀ k, zk_rd G (hk k) (ad 7) = some (cell k) := fun k => wr_rd1 _ lt7.1 (by omega)
  have hk6 : ∀ k, zk_rd G (hk k) (ad 6) = some (.inr (2, [.ref (ad 7), .ref (ad (10 + 60)), .ref (ad (10 + 61)), .int (iz n), .int (iz (s 51 0))])) := fun k => by
    show zk_rd G (zk_wr G h0 (ad 7) (cell k)) (ad 6) = _
    rw [wr_rd0 _ lt7.1 n67, hls]
  have hkl : ∀ k (q : Int), 0 ≤ q → q ≤ 61 → ∃ fs, zk_rd G (hk k) (ad (10 + q)) = some (.inr (1, fs)) := fun k q q1 q2 => by
    show ∃ fs, zk_rd G (zk_wr G h0 (ad 7) (cell k)) (ad (10 + q)) = _
    rw [wr_rd0 _ lt7.1 (nl7 q q1 q2)]
    exact hlet q q1 q2
  have hki : hk i = h0 := by
    show zk_wr G h0 (ad 7) (cell i) = h0
    have e : cell i = .inl (4, 60, .inr (.inr (.inr (.inr (fun x : Nat => if x < 60 then some (ad (10 + x)) else none))))) := by
      show (Sum.inl (4, 60, Sum.inr (Sum.inr (Sum.inr (Sum.inr (gk i))))) : zk_E) = _
      congr 7
      funext x
      show (if x < 60 then some (ad (10 + (if i ≤ (x : Int) ∧ (x : Int) < i then (x : Int) + 1 else x))) else none) = _
      rw [if_neg (by omega : ¬ (i ≤ (x : Int) ∧ (x : Int) < i))]
    rw [e]
    unfold zk_wr
    unfold zk_rd at hrow
    rw [if_neg (by omega)] at hrow
    have := List.getElem?_eq_some_iff.mp hrow
    obtain ⟨p, l⟩ := h0
    congr 1
    apply List.ext_getElem?
    intro y
    by_cases cy : ad 7 - G.1 = y
    · subst cy
      rw [List.getElem?_set_self this.1]
      exact hrow.symm
    · rw [List.getElem?_set_ne cy]
  -- what comes behind the loop
  let L1 : zk_E := .inr (2, [.ref (ad 7), .ref (ad (10 + 60)), .ref (ad (10 + 61)), .int (iz (n - 1)), .int (iz (s 51 0))])
  let C2 : zk_E := .inl (4, 60, .inr (.inr (.inr (.inr (va_up (gk (n - 1)) (n - 1).toNat (some (ad (10 + 61))))))))
  let L2 : zk_E := .inr (2, [.ref (ad 7), .ref (ad (10 + 60)), .ref (ad (10 + i)), .int (iz (n - 1)), .int (iz (s 51 0))])
  let h2 : zk_H := zk_wr G (hk (n - 1)) (ad 6) L1
  let h3 : zk_H := zk_wr G h2 (ad 7) C2
  let h4 : zk_H := zk_wr G h3 (ad 6) L2
  have nk : zk_nx G (hk (n - 1)) = zk_nx G B := by show zk_nx G (zk_wr G h0 (ad 7) _) = _; rw [wr_nx, nxe]
  have n2 : zk_nx G h2 = zk_nx G B := by show zk_nx G (zk_wr G (hk (n - 1)) (ad 6) L1) = _; rw [wr_nx, nk]
  have n3 : zk_nx G h3 = zk_nx G B := by show zk_nx G (zk_wr G h2 (ad 7) C2) = _; rw [wr_nx, n2]
  have n4 : zk_nx G h4 = zk_nx G B := by show zk_nx G (zk_wr G h3 (ad 6) L2) = _; rw [wr_nx, n3]
  have r26 : zk_rd G h2 (ad 6) = some L1 := wr_rd1 _ lt6.1 (by omega)
  have r27 : zk_rd G h2 (ad 7) = some (cell (n - 1)) := by show zk_rd G (zk_wr G (hk (n - 1)) (ad 6) L1) (ad 7) = _; rw [wr_rd0 _ lt6.1 (fun q => n67 q.symm), hk7]
  obtain ⟨f61, hf61⟩ := hkl (n - 1) 61 (by omega) (by omega)
  have r2l : zk_rd G h2 (ad (10 + 61)) = some (.inr (1, f61)) := by show zk_rd G (zk_wr G (hk (n - 1)) (ad 6) L1) (ad (10 + 61)) = _; rw [wr_rd0 _ lt6.1 (nl6 61 (by omega) (by omega)), hf61]
  have r36 : zk_rd G h3 (ad 6) = some L1 := by show zk_rd G (zk_wr G h2 (ad 7) C2) (ad 6) = _; rw [wr_rd0 _ lt7.1 n67, r26]
  have run : ∀ P : Option Value → zk_H → Prop, P (some (.ref (ad (10 + i)))) h4 → zk_wp G 10 0 [some (.ref (ad 6)), some (.int (iz i)), none, none] [] h0 P := by
    intro P hP
    have sa2 := zk_sa_f r27 r2l
    have o6 := zk_og_f (hk6 (n - 1))
    have p6 := zk_op_f (hk6 (n - 1))
    have ic6 := zk_ic_rd (hk6 (n - 1))
    have o26 := zk_og_f r26
    have o36 := zk_og_f r36
    have p36 := zk_op_f r36
    have last : zk_wp G 10 14 [some (.ref (ad 6)), some (.int (iz i)), some (.ref (ad (10 + i))), some (.int (iz (n - 1)))] [] (hk (n - 1)) P := by
      rw [u_10_14]
      have e1 : iz n - iz 1 = iz (n - 1) := iz_sub _ _
      have w2 : zk_wr G (hk (n - 1)) (ad 6) (.inr (2, [.ref (ad 7), .ref (ad (10 + 60)), .ref (ad (10 + 61)), .int (iz (n - 1)), .int (iz (s 51 0))])) = h2 := rfl
      have e2 := iz_toInt (z := n - 1) (by omega) (by omega)
      have w3 : zk_wr G h2 (ad 7) (.inl (4, 60, .inr (.inr (.inr (.inr (va_up (gk (n - 1)) (n - 1).toNat (some (ad (10 + 61))))))))) = h3 := rfl
      have w4 : zk_wr G h3 (ad 6) (.inr (2, [.ref (ad 7), .ref (ad (10 + 60)), .ref (ad (10 + i)), .int (iz (n - 1)), .int (iz (s 51 0))])) = h4 := rfl
      simp (disch := first | omega | assumption | (simp; done)) only [u_10_0, u_10_1, u_10_2, u_10_5, u_10_5N, u_10_6, u_10_7, u_10_7N, u_10_10, u_10_11, u_10_11N, u_10_12, u_10_13, u_10_15, u_10_16, u_10_17, u_10_18, u_10_21, u_10_25, u_10_26, u_10_27, u_10_29, u_10_32, u_10_33, u_10_36, u_10_37, u_10_38, u_10_41, u_10_42, u_10_43, u_10_44, u_10_45, u_10_46, u_10_49, u_10_52, u_10_53i, u_10_53r, u_10_53n, u_10_54, u_10_57, u_10_58, u_10_59, u_10_62, u_10_63, u_10_66, u_10_67, u_10_70, u_10_71, u_10_74, u_10_75, u_10_76, u_10_77, u_10_80, u_10_81, u_10_81N, true_or, or_true, zk_li1_s, zk_ll1_s, zk_la1_r, zk_la1_n, zk_lg0, zk_lgs, zk_co_n, zk_co_i, zk_co_r, zk_co_u, zk_co_l, zk_l1_0, zk_l1_1, zk_l1_s, zk_l2_0, zk_l2_1, zk_l2_s, zk_sm0, zk_smi, zk_smr, zk_smn, zk_sml, zk_fi, zk_fz, zk_fo, zk_fn, zk_fa, zk_ts, zk_tn, zk_cases, true_and, and_true, List.getElem?_cons_zero, List.getElem?_cons_succ, List.length_cons, List.length_nil, Nat.reduceAdd, Nat.reduceLT, Nat.reduceLeDiff, List.set_cons_zero, List.set_cons_succ, va_rf, o6, p6, iz_lit, iz_add, iz_le, iz_sub, w2, o26, sa2, e2, w3, o36, p36, w4]
      exact ⟨fun _ => ⟨⟨by omega, by omega⟩, by decide, hP⟩, fun c => absurd c (by omega)⟩
    have loop : ∀ (q : Nat) (k : Int), i ≤ k → k + q = n - 1 → zk_wp G 10 14 [some (.ref (ad 6)), some (.int (iz i)), some (.ref (ad (10 + i))), some (.int (iz k))] [] (hk k) P := by
      intro q
      induction q with
      | zero =>
        intro k k1 k2
        rw [show k = n - 1 by omega]
        exact last
      | succ q ih =>
        intro k k1 k2
        obtain ⟨f1, hf1⟩ := hkl k (k + 1) (by omega) (by omega)
        have og := zk_og_f (hk6 k)
        have aa := zk_aa_f (hk7 k)
        have sa := zk_sa_f (hk7 k) hf1
        have e1 := iz_toInt (z := k) (by omega) (by omega)
        have e2 := iz_toInt (z := k + 1) (by omega) (by omega)
        have g1 : gk k (k + 1).toNat = some (ad (10 + (k + 1))) := by
          show (if (k + 1).toNat < 60 then some (ad (10 + (if i ≤ (((k + 1).toNat : Nat) : Int) ∧ (((k + 1).toNat : Nat) : Int) < k then (((k + 1).toNat : Nat) : Int) + 1 else (((k + 1).toNat : Nat) : Int)))) else none) = _
          rw [if_pos (by omega), if_neg (by omega), show (((k + 1).toNat : Nat) : Int) = k + 1 by omega]
        have w1 : zk_wr G (hk k) (ad 7) (.inl (4, 60, .inr (.inr (.inr (.inr (va_up (gk k) k.toNat (some (ad (10 + (k + 1))))))))) ) = hk (k + 1) := by
          show zk_wr G (zk_wr G h0 (ad 7) (cell k)) (ad 7) _ = zk_wr G h0 (ad 7) (cell (k + 1))
          unfold zk_wr
          dsimp only
          rw [List.set_set]
          congr 2
          show (Sum.inl (4, 60, Sum.inr (Sum.inr (Sum.inr (Sum.inr (va_up (gk k) k.toNat (some (ad (10 + (k + 1))))))))) : zk_E) = Sum.inl (4, 60, Sum.inr (Sum.inr (Sum.inr (Sum.inr (gk (k + 1))))))
          congr 7
          funext x
          show va_up (gk k) k.toNat (some (ad (10 + (k + 1)))) x = (if x < 60 then some (ad (10 + (if i ≤ (x : Int) ∧ (x : Int) < k + 1 then (x : Int) + 1 else x))) else none)
          unfold va_up
          by_cases cx : x = k.toNat
          · rw [if_pos cx, if_pos (by omega), if_pos (by omega), show (x : Int) + 1 = k + 1 by omega]
          · rw [if_neg cx]
            show (if x < 60 then some (ad (10 + (if i ≤ (x : Int) ∧ (x : Int) < k then (x : Int) + 1 else x))) else none) = _
            by_cases c2 : i ≤ (x : Int) ∧ (x : Int) < k
            · rw [if_pos c2, if_pos (by omega : i ≤ (x : Int) ∧ (x : Int) < k + 1)]
            · rw [if_neg c2, if_neg (by omega : ¬ (i ≤ (x : Int) ∧ (x : Int) < k + 1))]
        rw [u_10_14]
        simp (disch := first | omega | assumption | (simp; done)) only [u_10_0, u_10_1, u_10_2, u_10_5, u_10_5N, u_10_6, u_10_7, u_10_7N, u_10_10, u_10_11, u_10_11N, u_10_12, u_10_13, u_10_15, u_10_16, u_10_17, u_10_18, u_10_21, u_10_24, u_10_25, u_10_26, u_10_27, u_10_29, u_10_32, u_10_33, u_10_36, u_10_37, u_10_38, u_10_41, u_10_42, u_10_43, u_10_44, u_10_45, u_10_46, u_10_49, u_10_53i, u_10_53r, u_10_53n, u_10_54, u_10_57, u_10_58, u_10_59, u_10_62, u_10_63, u_10_66, u_10_67, u_10_70, u_10_71, u_10_74, u_10_75, u_10_76, u_10_77, u_10_80, u_10_81, u_10_81N, true_or, or_true, zk_li1_s, zk_ll1_s, zk_la1_r, zk_la1_n, zk_lg0, zk_lgs, zk_co_n, zk_co_i, zk_co_r, zk_co_u, zk_co_l, zk_l1_0, zk_l1_1, zk_l1_s, zk_l2_0, zk_l2_1, zk_l2_s, zk_sm0, zk_smi, zk_smr, zk_smn, zk_sml, zk_fi, zk_fz, zk_fo, zk_fn, zk_fa, zk_ts, zk_tn, zk_cases, true_and, and_true, List.getElem?_cons_zero, List.getElem?_cons_succ, List.length_cons, List.length_nil, Nat.reduceAdd, Nat.reduceLT, Nat.reduceLeDiff, List.set_cons_zero, List.set_cons_succ, va_rf, og, iz_lit, iz_add, iz_le, aa, e1, e2, g1, sa, w1]
        exact ⟨fun c => absurd c (by omega), fun _ => ⟨fun c => absurd c (by omega), fun _ => ⟨⟨by omega, by omega⟩, ⟨by omega, by omega⟩, by decide, ih (k + 1) (by omega) (by omega)⟩⟩⟩
    simp (disch := first | omega | assumption | (simp; done)) only [u_10_0, u_10_1, u_10_2, u_10_5, u_10_5N, u_10_6, u_10_7, u_10_7N, u_10_10, u_10_11, u_10_11N, u_10_12, u_10_13, u_10_15, u_10_16, u_10_17, u_10_18, u_10_21, u_10_24, u_10_25, u_10_26, u_10_27, u_10_29, u_10_32, u_10_33, u_10_36, u_10_37, u_10_38, u_10_41, u_10_42, u_10_43, u_10_44, u_10_45, u_10_46, u_10_49, u_10_52, u_10_53i, u_10_53r, u_10_53n, u_10_54, u_10_57, u_10_58, u_10_59, u_10_62, u_10_63, u_10_66, u_10_67, u_10_70, u_10_71, u_10_74, u_10_75, u_10_76, u_10_77, u_10_80, u_10_81, u_10_81N, true_or, or_true, zk_li1_s, zk_ll1_s, zk_la1_r, zk_la1_n, zk_lg0, zk_lgs, zk_co_n, zk_co_i, zk_co_r, zk_co_u, zk_co_l, zk_l1_0, zk_l1_1, zk_l1_s, zk_l2_0, zk_l2_1, zk_l2_s, zk_sm0, zk_smi, zk_smr, zk_smn, zk_sml, zk_fi, zk_fz, zk_fo, zk_fn, zk_fa, zk_ts, zk_tn, zk_cases, true_and, and_true, List.getElem?_cons_zero, List.getElem?_cons_succ, List.length_cons, List.length_nil, Nat.reduceAdd, Nat.reduceLT, Nat.reduceLeDiff, List.set_cons_zero, List.set_cons_succ, va_rf, la]
    refine ⟨⟨_, hls⟩, ?_⟩
    have := loop (n - 1 - i).toNat i (by omega) (by omega)
    rw [hki] at this
    exact this
  have hinj : ∀ r r', Ux nz nj r → Ux nz nj r' → adt ad n i r = adt ad n i r' → r = r' := by
    intro r r' q1 q2 q3
    unfold adt at q3
    by_cases d1 : 10 ≤ r ∧ r ≤ 71
    · rw [if_pos d1] at q3
      have p1 := prm_r hi hs.2 (q := r - 10) (by omega)
      by_cases d2 : 10 ≤ r' ∧ r' ≤ 71
      · rw [if_pos d2] at q3
        have p2 := prm_r hi hs.2 (q := r' - 10) (by omega)
        have := hB.2.2 _ _ (UL _ p1.1 p1.2) (UL _ p2.1 p2.2) q3
        have := prm_inj hi hs.2 (q := r - 10) (q' := r' - 10) (by omega) (by omega) (by omega)
        omega
      · rw [if_neg d2] at q3
        have := hB.2.2 _ _ (UL _ p1.1 p1.2) q2 q3
        omega
    · rw [if_neg d1] at q3
      by_cases d2 : 10 ≤ r' ∧ r' ≤ 71
      · rw [if_pos d2] at q3
        have p2 := prm_r hi hs.2 (q := r' - 10) (by omega)
        have := hB.2.2 _ _ q1 (UL _ p2.1 p2.2) q3
        omega
      · rw [if_neg d2] at q3
        exact hB.2.2 _ _ q1 q2 q3
  have ea : ∀ q, ¬ (10 ≤ q ∧ q ≤ 71) → adt ad n i q = ad q := fun q hq => if_neg hq
  have eb : ∀ q : Int, 0 ≤ q → q ≤ 61 → adt ad n i (10 + q) = ad (10 + prm n i q) := fun q q1 q2 => by
    unfold adt
    rw [if_pos (by omega), show 10 + q - 10 = q by omega]
  -- cells off 6 and 7
  have r4 : ∀ a, a ≠ ad 6 → a ≠ ad 7 → zk_rd G h4 a = zk_rd G h0 a := by
    intro a a6 a7
    show zk_rd G (zk_wr G (zk_wr G (zk_wr G (zk_wr G h0 (ad 7) (cell (n - 1))) (ad 6) L1) (ad 7) C2) (ad 6) L2) a = _
    rw [wr_rd0 _ lt6.1 (fun q => a6 q.symm), wr_rd0 _ lt7.1 (fun q => a7 q.symm), wr_rd0 _ lt6.1 (fun q => a6 q.symm), wr_rd0 _ lt7.1 (fun q => a7 q.symm)]
  have r46 : zk_rd G h4 (ad 6) = some L2 := wr_rd1 _ lt6.1 (by omega)
  have r47 : zk_rd G h4 (ad 7) = some C2 := by
    show zk_rd G (zk_wr G h3 (ad 6) L2) (ad 7) = _
    rw [wr_rd0 _ lt6.1 (fun q => n67 q.symm)]
    exact wr_rd1 _ lt7.1 (by omega)
  have hrd : ∀ r, Ux nz nj r → zk_rd G h0 (ad r) = some (ccl ad s r) := fun r hr => by rw [← hh0]; exact hx_rd hB s hr
  have hself : hx G h4 nz nj (adt ad n i) (ctak s i) = h4 := by
    refine hx_self (fun r hr => ?_) hinj
    have hU := (Ux_iff _ _ _).mp hr
    by_cases d6 : r = 6
    · subst d6
      rw [ea 6 (by omega), r46]
      show some L2 = some (Sum.inr (2, [Value.ref (adt ad n i 7), Value.ref (adt ad n i (10 + 60)), Value.ref (adt ad n i (10 + 61)), Value.int (iz (ctak s i 53 0)), Value.int (iz (ctak s i 51 0))]))
      rw [ea 7 (by omega), eb 60 (by omega) (by omega), eb 61 (by omega) (by omega), prm_60 hi hs.2, prm_61, ctak_53, ctak_k _ _ _ _ (by decide) (by decide), hN]
    · by_cases d7 : r = 7
      · subst d7
        rw [ea 7 (by omega), r47]
        show some C2 = some (Sum.inl (4, 60, Sum.inr (Sum.inr (Sum.inr (Sum.inr (fun x : Nat => if x < 60 then some (adt ad n i (10 + x)) else none))))))
        show some (Sum.inl (4, 60, Sum.inr (Sum.inr (Sum.inr (Sum.inr (va_up (gk (n - 1)) (n - 1).toNat (some (ad (10 + 61)))))))) : zk_E) = _
        congr 8
        funext x
        unfold va_up
        by_cases cx : x = (n - 1).toNat
        · rw [if_pos cx, if_pos (by omega), eb x (by omega) (by omega)]
          unfold prm
          rw [if_neg (by omega), if_neg (by omega), if_pos (by omega)]
        · rw [if_neg cx]
          show (if x < 60 then some (ad (10 + (if i ≤ (x : Int) ∧ (x : Int) < n - 1 then (x : Int) + 1 else x))) else none) = _
          by_cases c60 : x < 60
          · rw [if_pos c60, if_pos c60, eb x (by omega) (by omega)]
            unfold prm
            rw [if_neg (by omega : ¬ (x : Int) = 61)]
            by_cases c2 : i ≤ (x : Int) ∧ (x : Int) < n - 1
            · rw [if_pos c2, if_pos c2]
            · rw [if_neg c2, if_neg c2, if_neg (by omega)]
          · rw [if_neg c60, if_neg c60]
      · by_cases dl : 10 ≤ r ∧ r ≤ 71
        · obtain ⟨q, rfl⟩ : ∃ q, r = 10 + q := ⟨r - 10, by omega⟩
          have pr := prm_r hi hs.2 (q := q) (by omega)
          rw [eb q (by omega) (by omega), r4 _ (fun e => nl6 _ pr.1 pr.2 e.symm) (fun e => nl7 _ pr.1 pr.2 e.symm), ← hh0, x_le hB s (prm n i q) (by omega)]
          unfold ccl
          rw [if_neg (by rw [aro_f (by omega)]; decide), cfs_le q (by omega)]
          show _ = some (Sum.inr (1, [Value.int (iz (ctak s i 54 (8 * q))), Value.int (iz (ctak s i 54 (8 * q + 1))), Value.int (iz (ctak s i 54 (8 * q + 2))), Value.int (iz (ctak s i 54 (8 * q + 3))), Value.int (iz (ctak s i 54 (8 * q + 4))), Value.int (iz (ctak s i 54 (8 * q + 5))), Value.int (iz (ctak s i 54 (8 * q + 6))), Value.int (iz (ctak s i 54 (8 * q + 7)))]))
          have e0 := ctak_54 s i q 0 (by omega)
          rw [Int.add_zero, Int.add_zero] at e0
          rw [e0, ctak_54 s i q 1 (by omega), ctak_54 s i q 2 (by omega), ctak_54 s i q 3 (by omega), ctak_54 s i q 4 (by omega), ctak_54 s i q 5 (by omega), ctak_54 s i q 6 (by omega), ctak_54 s i q 7 (by omega), hN]
        · rw [ea r dl, r4 _ (fun e => d6 (hB.2.2 _ _ hr U6 e)) (fun e => d7 (hB.2.2 _ _ hr U7 e)), hrd r hr]
          have := ccl_tak (ad := ad) hn hc (i := i) hr d6 d7 dl
          rw [hN] at this
          rw [this]
  refine ⟨h4, adt ad n i, ⟨⟨hn, fun r hr => ?_, hinj⟩, fun a ha hr => ⟨?_, fun r hr2 => ?_⟩, by omega, by omega, ?_⟩, ea, fun Q => ?_⟩
  · rw [n4]
    by_cases dl : 10 ≤ r ∧ r ≤ 71
    · obtain ⟨q, rfl⟩ : ∃ q, r = 10 + q := ⟨r - 10, by omega⟩
      have pr := prm_r hi hs.2 (q := q) (by omega)
      rw [eb q (by omega) (by omega)]
      exact hB.2.1 _ (UL _ pr.1 pr.2)
    · rw [ea r dl]
      exact hB.2.1 _ hr
  · rw [r4 a (fun e => hr 6 U6 e.symm) (fun e => hr 7 U7 e.symm), ← hh0]
    exact hx_out s hr
  · by_cases dl : 10 ≤ r ∧ r ≤ 71
    · obtain ⟨q, rfl⟩ : ∃ q, r = 10 + q := ⟨r - 10, by omega⟩
      have pr := prm_r hi hs.2 (q := q) (by omega)
      rw [eb q (by omega) (by omega)]
      exact hr _ (UL _ pr.1 pr.2)
    · rw [ea r dl]
      exact hr _ hr2
  · show (h0.2 : Int) ≤ _
    rw [← hh0]
    show (B.2 : Int) ≤ _
    omega
  · rw [hself, eb 61 (by omega) (by omega), prm_61]
    refine zk_eq (run _ ⟨rfl, rfl⟩) Q
end TAKE
