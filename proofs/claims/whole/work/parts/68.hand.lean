/-! handing a letter over, in the class -/
theorem rad_k (s : mS) (p v : Int) (k : Nat) (z : Int) (h : k ≠ 100) (h1 : k ≠ 101) (h2 : k ≠ 102) : rad s p v k z = s k z := by
  unfold rad
  split
  · rw [up_k _ _ _ _ h, up_k _ _ _ _ h1]
    split
    · rfl
    · exact up_k _ _ _ _ h2
  · rfl
theorem rad_p (s : mS) (p v q : Int) (hq : q ≠ p) (k : Nat) (h : k = 100 ∨ k = 102) : rad s p v k q = s k q := by
  unfold rad
  rcases h with rfl | rfl
  · split
    · rw [up_z, if_neg hq, up_k _ _ _ _ (by decide)]
      split
      · rfl
      · exact up_k _ _ _ _ (by decide)
    · rfl
  · split
    · rw [up_k _ _ _ _ (by decide), up_k _ _ _ _ (by decide)]
      split
      · rfl
      · rw [up_z, if_neg hq]
    · rfl
theorem rad_q (s : mS) (p v z : Int) (hz : z ≠ 600 * p + s 100 p) : rad s p v 101 z = s 101 z := by
  unfold rad
  split
  · rw [up_k _ _ _ _ (by decide), up_z, if_neg hz]
    split
    · rfl
    · exact up_k _ _ _ _ (by decide)
  · rfl
theorem wI_rad {s : mS} {p q v : Int} (hw : wI s q) (hq : q ≠ p) (hp : 0 ≤ s 100 p ∧ s 100 p < 600) : wI (rad s p v) q := by
  obtain ⟨w1, w2, w3, w4, w5⟩ := hw
  unfold wI
  rw [rad_p s p v q hq 100 (Or.inl rfl), rad_p s p v q hq 102 (Or.inr rfl)]
  refine ⟨w1, w2, w3, w4, fun k k1 k2 => ?_⟩
  rw [rad_q s p v _ (by omega)]
  exact w5 k k1 k2
theorem wI_rad1 {s : mS} {p v : Int} (hw : wI s p) : wI (rad s p v) p := by
  have hl := rlim_r p
  have hw' := hw
  obtain ⟨w1, w2, w3, w4, w5⟩ := hw
  by_cases c : s 100 p < rlim p
  · have e1 : rad s p v 100 p = s 100 p + 1 := by unfold rad; rw [if_pos c, up_e]
    have e2 : rad s p v 102 p = if s 100 p < s 102 p then s 102 p else min (rlim p) (2 * s 100 p) := by
      unfold rad
      rw [if_pos c, up_k _ _ _ _ (by decide), up_k _ _ _ _ (by decide)]
      split
      · rfl
      · rw [up_e]
    unfold wI
    rw [e1, e2]
    refine ⟨by omega, by split <;> omega, by split <;> omega, by split <;> omega, fun k k1 k2 => ?_⟩
    rw [rad_q s p v _ (by omega)]
    exact w5 k (by omega) k2
  · unfold rad
    rw [if_neg c]
    exact hw'
theorem xr_rad {s : mS} {p q v : Int} (hq : q ≠ p) (hp : 0 ≤ s 100 p ∧ s 100 p < 600) (hl : s 100 q ≤ 512) : xr (rad s p v) q = xr s q := by
  unfold xr
  rw [rad_p s p v q hq 100 (Or.inl rfl)]
  exact rl_congr (fun k k1 k2 => rad_q s p v _ (by omega))
theorem xr_rad1 {s : mS} {p v : Int} (hw : 0 ≤ s 100 p) (c : s 100 p < rlim p) : xr (rad s p v) p = xr s p ++ [v] := by
  unfold xr
  have e1 : rad s p v 100 p = s 100 p + 1 := by unfold rad; rw [if_pos c, up_e]
  rw [e1, rl_succ _ hw]
  have e2 : rad s p v 101 (600 * p + s 100 p) = v := by unfold rad; rw [if_pos c, up_k _ _ _ _ (by decide), up_e]
  rw [e2]
  congr 1
  exact rl_congr (fun k k1 k2 => rad_q s p v _ (by omega))
theorem cI_of {s s' : mS} {nz nj : Int} (hc : cI s nz nj) (h : ∀ k z, k = 1 ∨ k = 80 ∨ k = 10 ∨ k = 81 ∨ k = 11 → s' k z = s k z) : cI s' nz nj := by
  obtain ⟨⟨i1, i2, i3, i4⟩, i5⟩ := hc
  unfold cI
  rw [h 1 0 (by simp), h 80 0 (by simp), h 10 0 (by simp), h 81 0 (by simp)]
  refine ⟨⟨i1, i2, i3, i4⟩, fun j j1 j2 => ?_⟩
  rw [h 11 j (by simp)]
  exact i5 j j1 j2
def lgd (s : mS) (j : Int) : Int := gz (xr s (14 + 6 * j)) (s 100 (14 + 6 * j) - 1)
def lmn (s : mS) (j : Int) : Int := if s 100 (13 + 6 * j) = 0 then -1 else gz (xr s (13 + 6 * j)) (s 100 (13 + 6 * j) - 1)
def ctk (s : mS) (j v g : Int) : mS := if lgd s j < g ∧ lmn s j < v then rad (rad s (13 + 6 * j) v) (14 + 6 * j) g else s
def chd (s : mS) (j v g : Int) : mS := if lgd s j < g ∧ lmn s j < v then ctk s j v g else up s 52 0 (s 52 0 + 1)
theorem gz_rg {s : mS} (hr : rg s) (p k : Int) : -2147483648 ≤ gz (xr s p) k ∧ gz (xr s p) k ≤ 2147483647 := by
  unfold gz
  split
  · by_cases c : k.toNat < (xr s p).length
    · rw [List.getD_eq_getElem?_getD, List.getElem?_eq_getElem c]
      have hm : (xr s p)[k.toNat] ∈ xr s p := List.getElem_mem c
      generalize (xr s p)[k.toNat] = x at *
      unfold xr at hm
      obtain ⟨t, -, -, e⟩ := mem_rl.mp hm
      show -2147483648 ≤ x ∧ x ≤ 2147483647
      rw [← e]
      exact rg_of hr 101 _
    · rw [List.getD_eq_getElem?_getD, List.getElem?_eq_none (by omega)]
      show -2147483648 ≤ (0 : Int) ∧ (0 : Int) ≤ 2147483647
      omega
  · omega
theorem crep_k (s : mS) (kd a u g : Int) (k : Nat) (z : Int) (h : k ≠ 54) (h1 : k ≠ 51) (h2 : k ≠ 53) : crep s kd a u g k z = s k z := csnd_k _ _ _ _ _ _ _ _ _ _ _ h h1 h2
/-- what handing over leaves alone -/
def hfr (k : Nat) : Bool := !([30, 31, 32, 33, 35, 36, 45, 51, 53, 54, 62, 64, 65, 66].contains k)
theorem hfr_n {k : Nat} (h : hfr k = true) : k ≠ 30 ∧ k ≠ 31 ∧ k ≠ 32 ∧ k ≠ 33 ∧ k ≠ 35 ∧ k ≠ 36 ∧ k ≠ 45 ∧ k ≠ 51 ∧ k ≠ 53 ∧ k ≠ 54 ∧ k ≠ 62 ∧ k ≠ 64 ∧ k ≠ 65 ∧ k ≠ 66 := by
  refine ⟨?_, ?_, ?_, ?_, ?_, ?_, ?_, ?_, ?_, ?_, ?_, ?_, ?_, ?_⟩ <;> (intro e; rw [e] at h; revert h; decide)
theorem cask_k (s : mS) (i : Int) (k : Nat) (z : Int) (h : hfr k = true) : cask s i k z = s k z := by
  obtain ⟨h30, h31, h32, h33, h35, h36, h45, h51, h53, h54, h62, h64, h65, h66⟩ := hfr_n h
  unfold cask; split
  · rw [crep_k _ _ _ _ _ _ _ h54 h51 h53, up_k _ _ _ _ h30]
  · rw [crep_k _ _ _ _ _ _ _ h54 h51 h53]
theorem cwri_k (s : mS) (i : Int) (k : Nat) (z : Int) (h : hfr k = true) : cwri s i k z = s k z := by
  obtain ⟨h30, h31, h32, h33, h35, h36, h45, h51, h53, h54, h62, h64, h65, h66⟩ := hfr_n h
  unfold cwri; split
  · rw [crep_k _ _ _ _ _ _ _ h54 h51 h53, cacc_k _ _ _ _ _ _ _ h31 h32 h33, up_k _ _ _ _ h30]
  · rw [crep_k _ _ _ _ _ _ _ h54 h51 h53]
theorem crd_k (s : mS) (i l : Int) (k : Nat) (z : Int) (h : hfr k = true) : crd s i l k z = s k z := by
  obtain ⟨h30, h31, h32, h33, h35, h36, h45, h51, h53, h54, h62, h64, h65, h66⟩ := hfr_n h
  unfold crd; split
  · rw [up_k _ _ _ _ h65, up_k _ _ _ _ h64]
  · rfl
theorem cfin_k (s : mS) (i j : Int) (k : Nat) (z : Int) (h : hfr k = true) : cfin s i j k z = s k z := by
  obtain ⟨h30, h31, h32, h33, h35, h36, h45, h51, h53, h54, h62, h64, h65, h66⟩ := hfr_n h
  unfold cfin; split
  · rw [cend_k _ _ _ _ h36 h35 h66]
    unfold cfi2
    split
    · exact cfi1_k _ _ _ _ _ h45
    · rw [csnd_k _ _ _ _ _ _ _ _ _ _ _ h54 h51 h53]
      exact cfi1_k _ _ _ _ _ h45
  · rfl
theorem cref_k (s : mS) (i l : Int) (k : Nat) (z : Int) (h : hfr k = true) : cref s i l k z = s k z := by
  obtain ⟨h30, h31, h32, h33, h35, h36, h45, h51, h53, h54, h62, h64, h65, h66⟩ := hfr_n h
  unfold cref; split
  · rw [cend_k _ _ _ _ h36 h35 h66, up_k _ _ _ _ h62]
  · rw [up_k _ _ _ _ h62]
theorem cs_chd (s : mS) (j v g : Int) : cs (chd s j v g) = cs (ctk s j v g) := by
  unfold chd ctk
  split
  · rfl
  · exact cs_of (fun z => up_k _ _ _ _ (by decide))
def hret (s : mS) (to j : Int) : Int := if s 54 (8 * 61) = 1 ∧ s 42 to = 0 ∧ s 36 (12 * to + j) = 1 ∧ s 35 (12 * to + j) = s 54 (8 * 61 + 4) then 1 else 0
def hst (s : mS) (to j : Int) : mS := if s 54 (8 * 61) = 5 then (if s 43 to = 0 then chd s j (s 54 (8 * 61 + 5)) (s 54 (8 * 61 + 4)) else s) else if s 42 to ≠ 0 then s else if s 54 (8 * 61) = 0 then cask s (12 * to + j) else if s 54 (8 * 61) = 1 then (if s 36 (12 * to + j) = 1 ∧ s 35 (12 * to + j) = s 54 (8 * 61 + 4) then crd s (12 * to + j) 61 else s) else if s 54 (8 * 61) = 2 then cwri s (12 * to + j) else if s 54 (8 * 61) = 3 then cfin s (12 * to + j) j else cref s (12 * to + j) 61
theorem hst_k (s : mS) (to j : Int) (k5 : s 54 (8 * 61) ≠ 5) (k : Nat) (z : Int) (h : hfr k = true) : hst s to j k z = s k z := by
  unfold hst
  rw [if_neg k5]
  split
  · rfl
  split
  · exact cask_k _ _ _ _ h
  split
  · split
    · exact crd_k _ _ _ _ _ h
    · rfl
  split
  · exact cwri_k _ _ _ _ h
  split
  · exact cfin_k _ _ _ _ _ h
  · exact cref_k _ _ _ _ _ h
section HAND
variable {G : zk_G} {B : zk_H} {nz nj : Int} {ad : Int → Nat}
theorem c_takes (hB : hxo G B nz nj ad) {s : mS} (hr : rg s) (hc : cI s nz nj) (j v g : Int) (hj : 0 ≤ j ∧ j < nj) (w13 : wI s (13 + 6 * j)) (w14 : wI s (14 + 6 * j)) (l13 : s 100 (13 + 6 * j) ≤ 409) (l14 : s 100 (14 + 6 * j) ≤ 409) (hv : -2147483648 ≤ v ∧ v ≤ 2147483647) (hg : -2147483648 ≤ g ∧ g ≤ 2147483647) : ∃ B' ad', xE G nz nj B ad nz nj B' ad' (cs (ctk s j v g) - cs s) ∧ (∀ q, q < 400 → ad' q = ad q) ∧ ∀ Q : Option Value → zk_H → Prop, zk_wp G 2 0 [some (.ref (ad (220 + j))), some (.int (iz v)), some (.int (iz g)), none] [] (hx G B nz nj ad s) Q ↔ Q (some (.int (iz (if lgd s j < g ∧ lmn s j < v then 1 else 0)))) (hx G B' nz nj ad' (ctk s j v g)) := by
  have hn := hB.1
  have p13 : (0 ≤ 13 + 6 * j ∧ 13 + 6 * j < 3 * nz) ∨ (9 ≤ 13 + 6 * j ∧ 13 + 6 * j < 9 + 6 * nj) := by omega
  have p14 : (0 ≤ 14 + 6 * j ∧ 14 + 6 * j < 3 * nz) ∨ (9 ≤ 14 + 6 * j ∧ 14 + 6 * j < 9 + 6 * nj) := by omega
  obtain ⟨-, -, -, -, r13, r14⟩ := rlim_j hj.1
  have b14 := w14.1
  have b13 := w13.1
  have at1 := c_rowAt hB p14 w14 (s 100 (14 + 6 * j) - 1) (by omega)
  have lm := c_latM hB j hj w13
  have at2 : ∀ Q, zk_wp G 19 0 [some (.ref (ad (300 + (14 + 6 * j)))), some (.int (iz (s 100 (14 + 6 * j) - 1)))] [] (hx G B nz nj ad s) Q ↔ Q (some (.int (iz (lgd s j)))) (hx G B nz nj ad s) := at1
  have lm2 : ∀ Q, zk_wp G 1 0 [some (.ref (ad (220 + j)))] [] (hx G B nz nj ad s) Q ↔ Q (some (.int (iz (lmn s j)))) (hx G B nz nj ad s) := lm
  have g1 : -2147483648 ≤ lgd s j ∧ lgd s j ≤ 2147483647 := gz_rg hr _ _
  have g2 : -2147483648 ≤ lmn s j ∧ lmn s j ≤ 2147483647 := by
    unfold lmn; split
    · omega
    · exact gz_rg hr _ _
  unfold ctk
  by_cases c : lgd s j < g ∧ lmn s j < v
  · rw [if_pos c, if_pos c]
    obtain ⟨B1, ad1, x1, x2, x3⟩ := c_add hB hc p13 w13 l13 v
    have hB1 := x1.1
    have hc1 : cI (rad s (13 + 6 * j) v) nz nj := cI_of hc (fun k z hk => rad_k _ _ _ _ _ (by omega) (by omega) (by omega))
    have w14b : wI (rad s (13 + 6 * j) v) (14 + 6 * j) := wI_rad w14 (by omega) (by omega)
    obtain ⟨B2, ad2, y1, y2, y3⟩ := c_add hB1 hc1 p14 w14b (by rw [rad_p s _ v _ (by omega) 100 (Or.inl rfl)]; exact l14) g
    have e14 : rad s (13 + 6 * j) v 100 (14 + 6 * j) = s 100 (14 + 6 * j) := rad_p s _ v _ (by omega) 100 (Or.inl rfl)
    rw [if_pos (by omega)] at x3
    rw [e14, if_pos (by omega)] at y3
    rw [x2 (300 + (14 + 6 * j)) (by omega)] at y3
    refine ⟨B2, ad2, by have := xE_t x1 y1; rw [show cs (rad s (13 + 6 * j) v) - cs s + (cs (rad (rad s (13 + 6 * j) v) (14 + 6 * j) g) - cs (rad s (13 + 6 * j) v)) = cs (rad (rad s (13 + 6 * j) v) (14 + 6 * j) g) - cs s by omega] at this; exact this, fun q hq => by rw [y2 q hq, x2 q hq], fun Q => ?_⟩
    refine zk_eq ?_ Q
    have o1 := xg_jo_2 hB1 (rad s (13 + 6 * j) v) j hj
    rw [x2 (220 + j) (by omega), x2 (300 + (14 + 6 * j)) (by omega)] at o1
    have ic1 := xi_ro hB1 (rad s (13 + 6 * j) v) (14 + 6 * j) p14
    rw [x2 (300 + (14 + 6 * j)) (by omega)] at ic1
    simp (disch := first | omega | assumption | (simp; done)) only [u_2_0, u_2_1, u_2_4, u_2_5, u_2_8, u_2_11, u_2_12, u_2_13, u_2_16, u_2_17, u_2_18, u_2_19, u_2_22, u_2_23, u_2_24, u_2_27, u_2_30, u_2_31, u_2_32, u_2_33, u_2_36, u_2_37, u_2_40, u_2_43, u_2_44, u_2_47, u_2_48, u_2_51, u_2_54, u_2_55, u_2_58, u_2_59, true_or, or_true, zk_li1_s, zk_ll1_s, zk_la1_r, zk_la1_n, zk_lg0, zk_lgs, zk_co_n, zk_co_i, zk_co_r, zk_co_u, zk_co_l, zk_l1_0, zk_l1_1, zk_l1_s, zk_l2_0, zk_l2_1, zk_l2_s, zk_sm0, zk_smi, zk_smr, zk_smn, zk_sml, zk_fi, zk_fz, zk_fo, zk_fn, zk_fa, zk_ts, zk_tn, zk_cases, true_and, and_true, List.getElem?_cons_zero, List.getElem?_cons_succ, List.length_cons, List.length_nil, Nat.reduceAdd, Nat.reduceLT, Nat.reduceLeDiff, List.set_cons_zero, List.set_cons_succ, va_rf, xi_jo hB, xg_jo_0 hB, xg_jo_1 hB, xg_jo_2 hB, xg_jo_3 hB, xp_jo_3 hB, xg_jo_4 hB, xp_jo_4 hB, xg_jo_5 hB, xp_jo_5 hB, xg_jo_6 hB, xp_jo_6 hB, xg_jo_7 hB, xp_jo_7 hB, xg_jo_8 hB, xp_jo_8 hB, xi_ro hB, xg_ro_0 hB, xg_ro_1 hB, xg_ro_2 hB, xp_ro_2 hB, iz_lit, iz_inj, iz_le, iz_lt, iz_sub, at2, lm2, x3, o1, ic1, y3]
    all_goals ((repeat' (first | exact trivial | exact ⟨rfl, rfl⟩ | rfl | apply And.intro | intro _)) <;> first | omega | (exfalso; omega) | contradiction | (exfalso; simp_all; done) | trace_state)
  · rw [if_neg c, if_neg c]
    refine ⟨B, ad, ⟨hB, fun a _ h => ⟨rfl, h⟩, by omega, by omega, by omega⟩, fun _ _ => rfl, fun Q => ?_⟩
    refine zk_eq ?_ Q
    simp (disch := first | omega | assumption | (simp; done)) only [u_2_0, u_2_1, u_2_4, u_2_5, u_2_8, u_2_11, u_2_12, u_2_13, u_2_16, u_2_17, u_2_18, u_2_19, u_2_22, u_2_23, u_2_24, u_2_27, u_2_30, u_2_31, u_2_33, u_2_36, u_2_37, u_2_40, u_2_43, u_2_44, u_2_47, u_2_48, u_2_51, u_2_54, u_2_55, u_2_58, u_2_59, true_or, or_true, zk_li1_s, zk_ll1_s, zk_la1_r, zk_la1_n, zk_lg0, zk_lgs, zk_co_n, zk_co_i, zk_co_r, zk_co_u, zk_co_l, zk_l1_0, zk_l1_1, zk_l1_s, zk_l2_0, zk_l2_1, zk_l2_s, zk_sm0, zk_smi, zk_smr, zk_smn, zk_sml, zk_fi, zk_fz, zk_fo, zk_fn, zk_fa, zk_ts, zk_tn, zk_cases, true_and, and_true, List.getElem?_cons_zero, List.getElem?_cons_succ, List.length_cons, List.length_nil, Nat.reduceAdd, Nat.reduceLT, Nat.reduceLeDiff, List.set_cons_zero, List.set_cons_succ, va_rf, xi_jo hB, xg_jo_0 hB, xg_jo_1 hB, xg_jo_2 hB, xg_jo_3 hB, xp_jo_3 hB, xg_jo_4 hB, xp_jo_4 hB, xg_jo_5 hB, xp_jo_5 hB, xg_jo_6 hB, xp_jo_6 hB, xg_jo_7 hB, xp_jo_7 hB, xg_jo_8 hB, xp_jo_8 hB, xi_ro hB, xg_ro_0 hB, xg_ro_1 hB, xg_ro_2 hB, xp_ro_2 hB, iz_lit, iz_le, iz_lt, iz_sub, at2, lm2]
    all_goals ((repeat' (first | exact trivial | exact ⟨rfl, rfl⟩ | rfl | apply And.intro | intro _)) <;> first | omega | (exfalso; omega) | contradiction | (exfalso; simp_all; done) | trace_state)
theorem c_desk (hB : hxo G B nz nj ad) {s : mS} (hr : rg s) (hc : cI s nz nj) (j : Int) (hj : 0 ≤ j ∧ j < nj) (w13 : wI s (13 + 6 * j)) (w14 : wI s (14 + 6 * j)) (l13 : s 100 (13 + 6 * j) ≤ 409) (l14 : s 100 (14 + 6 * j) ≤ 409) (hd : 0 ≤ s 54 (8 * 61 + 2) ∧ s 54 (8 * 61 + 2) < 2) : ∃ B' ad', xE G nz nj B ad nz nj B' ad' (cs (if s 43 (s 54 (8 * 61 + 2)) = 0 then chd s j (s 54 (8 * 61 + 5)) (s 54 (8 * 61 + 4)) else s) - cs s) ∧ (∀ q, q < 400 → ad' q = ad q) ∧ ∀ Q : Option Value → zk_H → Prop, zk_wp G 91 0 [some (.ref (ad 0)), some (.ref (ad (10 + 61))), some (.ref (ad (220 + j)))] [] (hx G B nz nj ad s) Q ↔ Q none (hx G B' nz nj ad' (if s 43 (s 54 (8 * 61 + 2)) = 0 then chd s j (s 54 (8 * 61 + 5)) (s 54 (8 * 61 + 4)) else s)) := by
  have hn := hB.1
  have q1 := rg_of hr 54 (8 * 61 + 5)
  have q2 := rg_of hr 54 (8 * 61 + 4)
  have q3 := rg_of hr 43 (s 54 (8 * 61 + 2))
  have dk := c_isDesk (G := G) (hx G B nz nj ad s) (s 54 (8 * 61 + 2)) (by omega)
  rw [if_pos hd] at dk
  by_cases c : s 43 (s 54 (8 * 61 + 2)) = 0
  · rw [if_pos c]
    obtain ⟨B', ad', x1, x2, x3⟩ := c_takes hB hr hc j (s 54 (8 * 61 + 5)) (s 54 (8 * 61 + 4)) hj w13 w14 l13 l14 q1 q2
    refine ⟨B', ad', by rw [cs_chd]; exact x1, x2, fun Q => ?_⟩
    refine zk_eq ?_ Q
    unfold chd
    have hB' := x1.1
    by_cases c2 : lgd s j < s 54 (8 * 61 + 4) ∧ lmn s j < s 54 (8 * 61 + 5)
    · rw [if_pos c2] at x3 ⊢
      simp (disch := first | omega | assumption | (simp; done)) only [u_91_0, u_91_1, u_91_1N, u_91_4, u_91_5, u_91_8, u_91_11, u_91_14, u_91_15, u_91_18, u_91_19, u_91_22, u_91_23, u_91_26, u_91_27, u_91_28, u_91_29, u_91_32, u_91_33, u_91_36, u_91_39, u_91_43i, u_91_43r, u_91_43n, u_91_44, u_91_47, u_91_48, u_91_49, u_91_52, true_or, or_true, zk_li1_s, zk_ll1_s, zk_la1_r, zk_la1_n, zk_lg0, zk_lgs, zk_co_n, zk_co_i, zk_co_r, zk_co_u, zk_co_l, zk_l1_0, zk_l1_1, zk_l1_s, zk_l2_0, zk_l2_1, zk_l2_s, zk_sm0, zk_smi, zk_smr, zk_smn, zk_sml, zk_fi, zk_fz, zk_fo, zk_fn, zk_fa, zk_ts, zk_tn, zk_cases, true_and, and_true, List.getElem?_cons_zero, List.getElem?_cons_succ, List.length_cons, List.length_nil, Nat.reduceAdd, Nat.reduceLT, Nat.reduceLeDiff, List.set_cons_zero, List.set_cons_succ, va_rf, xi_tk hB, xg_tk_0 hB, xg_tk_1 hB, xg_tk_2 hB, xg_tk_3 hB, xg_tk_4 hB, xg_tk_5 hB, xg_tk_6 hB, xp_tk_6 hB, xg_tk_7 hB, xp_tk_7 hB, xg_tk_8 hB, xp_tk_8 hB, xg_tk_9 hB, xp_tk_9 hB, xi_le hB, xg_le_0 hB, xp_le_0 hB, xg_le_1 hB, xp_le_1 hB, xg_le_2 hB, xp_le_2 hB, xg_le_3 hB, xp_le_3 hB, xg_le_4 hB, xp_le_4 hB, xg_le_5 hB, xp_le_5 hB, xg_le_6 hB, xp_le_6 hB, xg_le_7 hB, xp_le_7 hB, xz_dd hB, xw_dd hB, xi_jo hB, iz_lit, iz_inj, dk, x3]
      all_goals ((repeat' (first | exact trivial | exact ⟨rfl, rfl⟩ | rfl | apply And.intro | intro _)) <;> first | omega | (exfalso; omega) | contradiction | (exfalso; simp_all; done) | trace_state)
    · rw [if_neg c2] at x3 ⊢
      have e0 : ctk s j (s 54 (8 * 61 + 5)) (s 54 (8 * 61 + 4)) = s := by unfold ctk; rw [if_neg c2]
      rw [e0] at x3
      have o1 := xg_tk_9 hB' s
      rw [x2 0 (by omega)] at o1
      have o2 := xp_tk_9 hB' s (s 52 0 + 1)
      rw [x2 0 (by omega)] at o2
      simp (disch := first | omega | assumption | (simp; done)) only [u_91_0, u_91_1, u_91_1N, u_91_4, u_91_5, u_91_8, u_91_11, u_91_14, u_91_15, u_91_18, u_91_19, u_91_22, u_91_23, u_91_26, u_91_27, u_91_28, u_91_29, u_91_32, u_91_33, u_91_36, u_91_39, u_91_42, u_91_43i, u_91_43r, u_91_43n, u_91_44, u_91_47, u_91_48, u_91_49, u_91_52, true_or, or_true, zk_li1_s, zk_ll1_s, zk_la1_r, zk_la1_n, zk_lg0, zk_lgs, zk_co_n, zk_co_i, zk_co_r, zk_co_u, zk_co_l, zk_l1_0, zk_l1_1, zk_l1_s, zk_l2_0, zk_l2_1, zk_l2_s, zk_sm0, zk_smi, zk_smr, zk_smn, zk_sml, zk_fi, zk_fz, zk_fo, zk_fn, zk_fa, zk_ts, zk_tn, zk_cases, true_and, and_true, List.getElem?_cons_zero, List.getElem?_cons_succ, List.length_cons, List.length_nil, Nat.reduceAdd, Nat.reduceLT, Nat.reduceLeDiff, List.set_cons_zero, List.set_cons_succ, va_rf, xi_tk hB, xg_tk_0 hB, xg_tk_1 hB, xg_tk_2 hB, xg_tk_3 hB, xg_tk_4 hB, xg_tk_5 hB, xg_tk_6 hB, xp_tk_6 hB, xg_tk_7 hB, xp_tk_7 hB, xg_tk_8 hB, xp_tk_8 hB, xg_tk_9 hB, xp_tk_9 hB, xi_le hB, xg_le_0 hB, xp_le_0 hB, xg_le_1 hB, xp_le_1 hB, xg_le_2 hB, xp_le_2 hB, xg_le_3 hB, xp_le_3 hB, xg_le_4 hB, xp_le_4 hB, xg_le_5 hB, xp_le_5 hB, xg_le_6 hB, xp_le_6 hB, xg_le_7 hB, xp_le_7 hB, xz_dd hB, xw_dd hB, xi_jo hB, iz_lit, iz_inj, iz_add, dk, x3, o1, o2]
      all_goals ((repeat' (first | exact trivial | exact ⟨rfl, rfl⟩ | rfl | apply And.intro | intro _)) <;> first | omega | (exfalso; omega) | contradiction | (exfalso; simp_all; done) | trace_state)
  · rw [if_neg c]
    refine ⟨B, ad, ⟨hB, fun a _ h => ⟨rfl, h⟩, by omega, by omega, by omega⟩, fun _ _ => rfl, fun Q => ?_⟩
    refine zk_eq ?_ Q
    simp (disch := first | omega | assumption | (simp; done)) only [u_91_0, u_91_1, u_91_1N, u_91_4, u_91_5, u_91_8, u_91_11, u_91_14, u_91_15, u_91_18, u_91_19, u_91_22, u_91_23, u_91_26, u_91_28, u_91_29, u_91_32, u_91_33, u_91_36, u_91_39, u_91_42, u_91_43i, u_91_43r, u_91_43n, u_91_44, u_91_47, u_91_48, u_91_49, u_91_52, true_or, or_true, zk_li1_s, zk_ll1_s, zk_la1_r, zk_la1_n, zk_lg0, zk_lgs, zk_co_n, zk_co_i, zk_co_r, zk_co_u, zk_co_l, zk_l1_0, zk_l1_1, zk_l1_s, zk_l2_0, zk_l2_1, zk_l2_s, zk_sm0, zk_smi, zk_smr, zk_smn, zk_sml, zk_fi, zk_fz, zk_fo, zk_fn, zk_fa, zk_ts, zk_tn, zk_cases, true_and, and_true, List.getElem?_cons_zero, List.getElem?_cons_succ, List.length_cons, List.length_nil, Nat.reduceAdd, Nat.reduceLT, Nat.reduceLeDiff, List.set_cons_zero, List.set_cons_succ, va_rf, xi_tk hB, xg_tk_0 hB, xg_tk_1 hB, xg_tk_2 hB, xg_tk_3 hB, xg_tk_4 hB, xg_tk_5 hB, xg_tk_6 hB, xp_tk_6 hB, xg_tk_7 hB, xp_tk_7 hB, xg_tk_8 hB, xp_tk_8 hB, xg_tk_9 hB, xp_tk_9 hB, xi_le hB, xg_le_0 hB, xp_le_0 hB, xg_le_1 hB, xp_le_1 hB, xg_le_2 hB, xp_le_2 hB, xg_le_3 hB, xp_le_3 hB, xg_le_4 hB, xp_le_4 hB, xg_le_5 hB, xp_le_5 hB, xg_le_6 hB, xp_le_6 hB, xg_le_7 hB, xp_le_7 hB, xz_dd hB, xw_dd hB, xi_jo hB, iz_lit, iz_inj, dk]
    all_goals ((repeat' (first | exact trivial | exact ⟨rfl, rfl⟩ | rfl | apply And.intro | intro _)) <;> first | omega | (exfalso; omega) | contradiction | (exfalso; simp_all; done) | trace_state)
theorem c_hand (hB : hxo G B nz nj ad) {s : mS} (hr : rg s) (hc : cI s nz nj) (hs : 0 ≤ s 53 0 ∧ s 53 0 ≤ 60) (to j : Int) (e2 : s 54 (8 * 61 + 2) = to) (e3 : s 54 (8 * 61 + 3) = j) (hk : 0 ≤ s 54 (8 * 61) ∧ s 54 (8 * 61) ≤ 5) (hj : 0 ≤ j ∧ j < nj) (ht : 0 ≤ to ∧ to < 3) (hd : s 54 (8 * 61) = 5 → to < 2) (w13 : wI s (13 + 6 * j)) (w14 : wI s (14 + 6 * j)) (l13 : s 100 (13 + 6 * j) ≤ 409) (l14 : s 100 (14 + 6 * j) ≤ 409) : ∃ B' ad', xE G nz nj B ad nz nj B' ad' (cs (hst s to j) - cs s) ∧ (∀ q, q < 400 → ad' q = ad q) ∧ ∀ Q : Option Value → zk_H → Prop, zk_wp G 90 0 [some (.ref (ad 0)), some (.ref (ad (10 + 61))), none, none] [] (hx G B nz nj ad s) Q ↔ Q (some (.int (iz (hret s to j)))) (hx G B' nz nj ad' (hst s to j)) := by
  have hn := hB.1
  have ja := c_jobAt hB hc j hj
  have ro := c_regOf hB hc to j ht hj
  have hi : 0 ≤ 12 * to + j ∧ 12 * to + j < 36 := by omega
  have q42 := rg_of hr 42 to
  by_cases k5 : s 54 (8 * 61) = 5
  · unfold hst hret
    rw [if_pos k5, if_neg (show ¬ (s 54 (8 * 61) = 1 ∧ s 42 to = 0 ∧ s 36 (12 * to + j) = 1 ∧ s 35 (12 * to + j) = s 54 (8 * 61 + 4)) by omega)]
    obtain ⟨B', ad', x1, x2, x3⟩ := c_desk hB hr hc j hj w13 w14 l13 l14 (by omega)
    rw [e2] at x3 x1
    refine ⟨B', ad', x1, x2, fun Q => ?_⟩
    clear x1
    refine zk_eq ?_ Q
    simp (disch := first | omega | assumption | (simp; done)) only [u_90_0, u_90_1, u_90_2, u_90_5, u_90_8, u_90_8N, u_90_9, u_90_10, u_90_13, u_90_14, u_90_17, u_90_18, u_90_19, u_90_20, u_90_23, u_90_24, u_90_26, u_90_27, u_90_30, u_90_31, u_90_34, u_90_37, u_90_37N, u_90_38, u_90_39, u_90_39N, u_90_42, u_90_43, u_90_43N, u_90_46, u_90_47, u_90_50, u_90_51, u_90_54, u_90_55, u_90_58, u_90_59, u_90_60, u_90_61, u_90_64, u_90_96, u_90_97, u_90_98, u_90_99, u_90_102, u_90_105, u_90_106, u_90_109, u_90_110, u_90_113, u_90_114, u_90_115, u_90_116, u_90_117, u_90_120, u_90_123, u_90_124, u_90_125, u_90_126, u_90_127, u_90_130, u_90_133, u_90_136, u_90_137, u_90_138, u_90_141, u_90_142, true_or, or_true, zk_li1_s, zk_ll1_s, zk_la1_r, zk_la1_n, zk_lg0, zk_lgs, zk_co_n, zk_co_i, zk_co_r, zk_co_u, zk_co_l, zk_l1_0, zk_l1_1, zk_l1_s, zk_l2_0, zk_l2_1, zk_l2_s, zk_sm0, zk_smi, zk_smr, zk_smn, zk_sml, zk_fi, zk_fz, zk_fo, zk_fn, zk_fa, zk_ts, zk_tn, zk_cases, true_and, and_true, List.getElem?_cons_zero, List.getElem?_cons_succ, List.length_cons, List.length_nil, Nat.reduceAdd, Nat.reduceLT, Nat.reduceLeDiff, List.set_cons_zero, List.set_cons_succ, va_rf, xi_le hB, xg_le_0 hB, xp_le_0 hB, xg_le_1 hB, xp_le_1 hB, xg_le_2 hB, xp_le_2 hB, xg_le_3 hB, xp_le_3 hB, xg_le_4 hB, xp_le_4 hB, xg_le_5 hB, xp_le_5 hB, xg_le_6 hB, xp_le_6 hB, xg_le_7 hB, xp_le_7 hB, xi_tk hB, e2, e3, ja, iz_lit, iz_inj, x3]
    all_goals ((repeat' (first | exact trivial | exact ⟨rfl, rfl⟩ | rfl | apply And.intro | intro _)) <;> first | omega | (exfalso; omega) | contradiction | (exfalso; simp_all; done) | trace_state)
  · have hx0 : xE G nz nj B ad nz nj B ad (cs (hst s to j) - cs s) := by
      rw [show cs (hst s to j) = cs s from cs_of (fun z => hst_k s to j k5 102 z rfl)]
      exact ⟨hB, fun a _ h => ⟨rfl, h⟩, by omega, by omega, by omega⟩
    refine ⟨B, ad, hx0, fun _ _ => rfl, fun Q => ?_⟩
    clear hx0
    refine zk_eq ?_ Q
    unfold hst hret
    rw [if_neg k5]
    by_cases d : s 42 to = 0
    · rw [if_neg (by omega : ¬ s 42 to ≠ 0)]
      have kc : s 54 (8 * 61) = 0 ∨ s 54 (8 * 61) = 1 ∨ s 54 (8 * 61) = 2 ∨ s 54 (8 * 61) = 3 ∨ s 54 (8 * 61) = 4 := by omega
      rcases kc with k | k | k | k | k
      · have t := iz_toInt (z := 0) (by omega) (by omega)
        rw [k, if_neg (by omega), if_pos rfl]
        have f := c_ask hB hr hs (12 * to + j) hi
        simp (disch := first | omega | assumption | (simp; done)) only [u_90_0, u_90_1, u_90_2, u_90_5, u_90_8, u_90_8N, u_90_9, u_90_10, u_90_13, u_90_14, u_90_18, u_90_19, u_90_20, u_90_23, u_90_24, u_90_25, u_90_26, u_90_27, u_90_30, u_90_31, u_90_34, u_90_37, u_90_37N, u_90_38, u_90_39, u_90_39N, u_90_42, u_90_43, u_90_43N, u_90_46, u_90_47, u_90_50, u_90_51, u_90_54, u_90_55, u_90_58, u_90_59, u_90_60, u_90_61, u_90_64, u_90_96, u_90_97, u_90_98, u_90_99, u_90_102, u_90_106, u_90_109, u_90_110, u_90_113, u_90_115, u_90_116, u_90_117, u_90_120, u_90_124, u_90_125, u_90_126, u_90_127, u_90_130, u_90_133, u_90_137, u_90_138, u_90_141, u_90_142, true_or, or_true, zk_li1_s, zk_ll1_s, zk_la1_r, zk_la1_n, zk_lg0, zk_lgs, zk_co_n, zk_co_i, zk_co_r, zk_co_u, zk_co_l, zk_l1_0, zk_l1_1, zk_l1_s, zk_l2_0, zk_l2_1, zk_l2_s, zk_sm0, zk_smi, zk_smr, zk_smn, zk_sml, zk_fi, zk_fz, zk_fo, zk_fn, zk_fa, zk_ts, zk_tn, zk_cases, true_and, and_true, List.getElem?_cons_zero, List.getElem?_cons_succ, List.length_cons, List.length_nil, Nat.reduceAdd, Nat.reduceLT, Nat.reduceLeDiff, List.set_cons_zero, List.set_cons_succ, va_rf, xi_tk hB, xg_tk_0 hB, xg_tk_1 hB, xg_tk_2 hB, xg_tk_3 hB, xg_tk_4 hB, xg_tk_5 hB, xg_tk_6 hB, xp_tk_6 hB, xg_tk_7 hB, xp_tk_7 hB, xg_tk_8 hB, xp_tk_8 hB, xg_tk_9 hB, xp_tk_9 hB, xi_le hB, xg_le_0 hB, xp_le_0 hB, xg_le_1 hB, xp_le_1 hB, xg_le_2 hB, xp_le_2 hB, xg_le_3 hB, xp_le_3 hB, xg_le_4 hB, xp_le_4 hB, xg_le_5 hB, xp_le_5 hB, xg_le_6 hB, xp_le_6 hB, xg_le_7 hB, xp_le_7 hB, xi_re hB, xg_re_0 hB, xg_re_1 hB, xp_re_1 hB, xg_re_2 hB, xp_re_2 hB, xg_re_3 hB, xp_re_3 hB, xg_re_4 hB, xp_re_4 hB, xg_re_5 hB, xp_re_5 hB, xz_sd hB, xw_sd hB, xi_ru hB, xi_jo hB, e2, e3, ja, ro, iz_lit, iz_inj, k, d, f, t]
        all_goals ((repeat' (first | exact trivial | exact ⟨rfl, rfl⟩ | rfl | apply And.intro | intro _)) <;> first | omega | (exfalso; omega) | contradiction | (exfalso; simp_all; done) | trace_state)
      · have t := iz_toInt (z := 1) (by omega) (by omega)
        have f := c_reads hB hr (12 * to + j) 61 hi (by omega)
        have ek : (s 54 (8 * 61) = 1 ∧ s 42 to = 0 ∧ s 36 (12 * to + j) = 1 ∧ s 35 (12 * to + j) = s 54 (8 * 61 + 4)) ↔ (s 36 (12 * to + j) = 1 ∧ s 35 (12 * to + j) = s 54 (8 * 61 + 4)) := ⟨fun q => q.2.2, fun q => ⟨k, d, q⟩⟩
        rw [if_neg (by omega : ¬ s 54 (8 * 61) = 0), if_pos k]
        by_cases cr : s 36 (12 * to + j) = 1 ∧ s 35 (12 * to + j) = s 54 (8 * 61 + 4)
        · rw [if_pos (ek.mpr cr), if_pos cr]
          rw [if_pos cr, if_pos cr] at f
          simp (disch := first | omega | assumption | (simp; done)) only [u_90_0, u_90_1, u_90_2, u_90_5, u_90_8, u_90_8N, u_90_9, u_90_10, u_90_13, u_90_14, u_90_18, u_90_19, u_90_20, u_90_23, u_90_24, u_90_25, u_90_26, u_90_27, u_90_30, u_90_31, u_90_34, u_90_37, u_90_37N, u_90_38, u_90_39, u_90_39N, u_90_42, u_90_43, u_90_43N, u_90_46, u_90_47, u_90_50, u_90_51, u_90_54, u_90_55, u_90_58, u_90_59, u_90_60, u_90_61, u_90_64, u_90_97, u_90_98, u_90_99, u_90_102, u_90_105, u_90_106, u_90_109, u_90_110, u_90_113, u_90_115, u_90_116, u_90_117, u_90_120, u_90_124, u_90_125, u_90_126, u_90_127, u_90_130, u_90_133, u_90_137, u_90_138, u_90_141, u_90_142, true_or, or_true, zk_li1_s, zk_ll1_s, zk_la1_r, zk_la1_n, zk_lg0, zk_lgs, zk_co_n, zk_co_i, zk_co_r, zk_co_u, zk_co_l, zk_l1_0, zk_l1_1, zk_l1_s, zk_l2_0, zk_l2_1, zk_l2_s, zk_sm0, zk_smi, zk_smr, zk_smn, zk_sml, zk_fi, zk_fz, zk_fo, zk_fn, zk_fa, zk_ts, zk_tn, zk_cases, true_and, and_true, List.getElem?_cons_zero, List.getElem?_cons_succ, List.length_cons, List.length_nil, Nat.reduceAdd, Nat.reduceLT, Nat.reduceLeDiff, List.set_cons_zero, List.set_cons_succ, va_rf, xi_tk hB, xg_tk_0 hB, xg_tk_1 hB, xg_tk_2 hB, xg_tk_3 hB, xg_tk_4 hB, xg_tk_5 hB, xg_tk_6 hB, xp_tk_6 hB, xg_tk_7 hB, xp_tk_7 hB, xg_tk_8 hB, xp_tk_8 hB, xg_tk_9 hB, xp_tk_9 hB, xi_le hB, xg_le_0 hB, xp_le_0 hB, xg_le_1 hB, xp_le_1 hB, xg_le_2 hB, xp_le_2 hB, xg_le_3 hB, xp_le_3 hB, xg_le_4 hB, xp_le_4 hB, xg_le_5 hB, xp_le_5 hB, xg_le_6 hB, xp_le_6 hB, xg_le_7 hB, xp_le_7 hB, xi_re hB, xg_re_0 hB, xg_re_1 hB, xp_re_1 hB, xg_re_2 hB, xp_re_2 hB, xg_re_3 hB, xp_re_3 hB, xg_re_4 hB, xp_re_4 hB, xg_re_5 hB, xp_re_5 hB, xz_sd hB, xw_sd hB, xi_ru hB, e2, e3, ja, ro, iz_lit, iz_inj, k, d, f, t]
          all_goals ((repeat' (first | exact trivial | exact ⟨rfl, rfl⟩ | rfl | apply And.intro | intro _)) <;> first | omega | (exfalso; omega) | contradiction | (exfalso; simp_all; done) | trace_state)
        · rw [if_neg (fun q => cr (ek.mp q)), if_neg cr]
          rw [if_neg cr, if_neg cr] at f
          simp (disch := first | omega | assumption | (simp; done)) only [u_90_0, u_90_1, u_90_2, u_90_5, u_90_8, u_90_8N, u_90_9, u_90_10, u_90_13, u_90_14, u_90_18, u_90_19, u_90_20, u_90_23, u_90_24, u_90_25, u_90_26, u_90_27, u_90_30, u_90_31, u_90_34, u_90_37, u_90_37N, u_90_38, u_90_39, u_90_39N, u_90_42, u_90_43, u_90_43N, u_90_46, u_90_47, u_90_50, u_90_51, u_90_54, u_90_55, u_90_58, u_90_59, u_90_60, u_90_61, u_90_64, u_90_97, u_90_98, u_90_99, u_90_102, u_90_105, u_90_106, u_90_109, u_90_110, u_90_113, u_90_115, u_90_116, u_90_117, u_90_120, u_90_124, u_90_125, u_90_126, u_90_127, u_90_130, u_90_133, u_90_137, u_90_138, u_90_141, u_90_142, true_or, or_true, zk_li1_s, zk_ll1_s, zk_la1_r, zk_la1_n, zk_lg0, zk_lgs, zk_co_n, zk_co_i, zk_co_r, zk_co_u, zk_co_l, zk_l1_0, zk_l1_1, zk_l1_s, zk_l2_0, zk_l2_1, zk_l2_s, zk_sm0, zk_smi, zk_smr, zk_smn, zk_sml, zk_fi, zk_fz, zk_fo, zk_fn, zk_fa, zk_ts, zk_tn, zk_cases, true_and, and_true, List.getElem?_cons_zero, List.getElem?_cons_succ, List.length_cons, List.length_nil, Nat.reduceAdd, Nat.reduceLT, Nat.reduceLeDiff, List.set_cons_zero, List.set_cons_succ, va_rf, xi_tk hB, xg_tk_0 hB, xg_tk_1 hB, xg_tk_2 hB, xg_tk_3 hB, xg_tk_4 hB, xg_tk_5 hB, xg_tk_6 hB, xp_tk_6 hB, xg_tk_7 hB, xp_tk_7 hB, xg_tk_8 hB, xp_tk_8 hB, xg_tk_9 hB, xp_tk_9 hB, xi_le hB, xg_le_0 hB, xp_le_0 hB, xg_le_1 hB, xp_le_1 hB, xg_le_2 hB, xp_le_2 hB, xg_le_3 hB, xp_le_3 hB, xg_le_4 hB, xp_le_4 hB, xg_le_5 hB, xp_le_5 hB, xg_le_6 hB, xp_le_6 hB, xg_le_7 hB, xp_le_7 hB, xi_re hB, xg_re_0 hB, xg_re_1 hB, xp_re_1 hB, xg_re_2 hB, xp_re_2 hB, xg_re_3 hB, xp_re_3 hB, xg_re_4 hB, xp_re_4 hB, xg_re_5 hB, xp_re_5 hB, xz_sd hB, xw_sd hB, xi_ru hB, e2, e3, ja, ro, iz_lit, iz_inj, k, d, f, t]
          all_goals ((repeat' (first | exact trivial | exact ⟨rfl, rfl⟩ | rfl | apply And.intro | intro _)) <;> first | omega | (exfalso; omega) | contradiction | (exfalso; simp_all; done) | trace_state)
      · have t := iz_toInt (z := 2) (by omega) (by omega)
        rw [k, if_neg (by omega), if_neg (by omega), if_neg (by omega), if_pos rfl]
        have f := c_wri hB hr hs (12 * to + j) hi
        simp (disch := first | omega | assumption | (simp; done)) only [u_90_0, u_90_1, u_90_2, u_90_5, u_90_8, u_90_8N, u_90_9, u_90_10, u_90_13, u_90_14, u_90_18, u_90_19, u_90_20, u_90_23, u_90_24, u_90_25, u_90_26, u_90_27, u_90_30, u_90_31, u_90_34, u_90_37, u_90_37N, u_90_38, u_90_39, u_90_39N, u_90_42, u_90_43, u_90_43N, u_90_46, u_90_47, u_90_50, u_90_51, u_90_54, u_90_55, u_90_58, u_90_59, u_90_60, u_90_61, u_90_64, u_90_97, u_90_98, u_90_99, u_90_102, u_90_106, u_90_109, u_90_110, u_90_113, u_90_114, u_90_115, u_90_116, u_90_117, u_90_120, u_90_124, u_90_125, u_90_126, u_90_127, u_90_130, u_90_133, u_90_137, u_90_138, u_90_141, u_90_142, true_or, or_true, zk_li1_s, zk_ll1_s, zk_la1_r, zk_la1_n, zk_lg0, zk_lgs, zk_co_n, zk_co_i, zk_co_r, zk_co_u, zk_co_l, zk_l1_0, zk_l1_1, zk_l1_s, zk_l2_0, zk_l2_1, zk_l2_s, zk_sm0, zk_smi, zk_smr, zk_smn, zk_sml, zk_fi, zk_fz, zk_fo, zk_fn, zk_fa, zk_ts, zk_tn, zk_cases, true_and, and_true, List.getElem?_cons_zero, List.getElem?_cons_succ, List.length_cons, List.length_nil, Nat.reduceAdd, Nat.reduceLT, Nat.reduceLeDiff, List.set_cons_zero, List.set_cons_succ, va_rf, xi_tk hB, xg_tk_0 hB, xg_tk_1 hB, xg_tk_2 hB, xg_tk_3 hB, xg_tk_4 hB, xg_tk_5 hB, xg_tk_6 hB, xp_tk_6 hB, xg_tk_7 hB, xp_tk_7 hB, xg_tk_8 hB, xp_tk_8 hB, xg_tk_9 hB, xp_tk_9 hB, xi_le hB, xg_le_0 hB, xp_le_0 hB, xg_le_1 hB, xp_le_1 hB, xg_le_2 hB, xp_le_2 hB, xg_le_3 hB, xp_le_3 hB, xg_le_4 hB, xp_le_4 hB, xg_le_5 hB, xp_le_5 hB, xg_le_6 hB, xp_le_6 hB, xg_le_7 hB, xp_le_7 hB, xi_re hB, xg_re_0 hB, xg_re_1 hB, xp_re_1 hB, xg_re_2 hB, xp_re_2 hB, xg_re_3 hB, xp_re_3 hB, xg_re_4 hB, xp_re_4 hB, xg_re_5 hB, xp_re_5 hB, xz_sd hB, xw_sd hB, xi_ru hB, xi_jo hB, e2, e3, ja, ro, iz_lit, iz_inj, k, d, f, t]
        all_goals ((repeat' (first | exact trivial | exact ⟨rfl, rfl⟩ | rfl | apply And.intro | intro _)) <;> first | omega | (exfalso; omega) | contradiction | (exfalso; simp_all; done) | trace_state)
      · have t := iz_toInt (z := 3) (by omega) (by omega)
        rw [k, if_neg (by omega), if_neg (by omega), if_neg (by omega), if_neg (by omega), if_pos rfl]
        have f := c_fin hB hr hs (12 * to + j) j hi hj (by omega)
        simp (disch := first | omega | assumption | (simp; done)) only [u_90_0, u_90_1, u_90_2, u_90_5, u_90_8, u_90_8N, u_90_9, u_90_10, u_90_13, u_90_14, u_90_18, u_90_19, u_90_20, u_90_23, u_90_24, u_90_25, u_90_26, u_90_27, u_90_30, u_90_31, u_90_34, u_90_37, u_90_37N, u_90_38, u_90_39, u_90_39N, u_90_42, u_90_43, u_90_43N, u_90_46, u_90_47, u_90_50, u_90_51, u_90_54, u_90_55, u_90_58, u_90_59, u_90_60, u_90_61, u_90_64, u_90_97, u_90_98, u_90_99, u_90_102, u_90_106, u_90_109, u_90_110, u_90_113, u_90_115, u_90_116, u_90_117, u_90_120, u_90_123, u_90_124, u_90_125, u_90_126, u_90_127, u_90_130, u_90_133, u_90_137, u_90_138, u_90_141, u_90_142, true_or, or_true, zk_li1_s, zk_ll1_s, zk_la1_r, zk_la1_n, zk_lg0, zk_lgs, zk_co_n, zk_co_i, zk_co_r, zk_co_u, zk_co_l, zk_l1_0, zk_l1_1, zk_l1_s, zk_l2_0, zk_l2_1, zk_l2_s, zk_sm0, zk_smi, zk_smr, zk_smn, zk_sml, zk_fi, zk_fz, zk_fo, zk_fn, zk_fa, zk_ts, zk_tn, zk_cases, true_and, and_true, List.getElem?_cons_zero, List.getElem?_cons_succ, List.length_cons, List.length_nil, Nat.reduceAdd, Nat.reduceLT, Nat.reduceLeDiff, List.set_cons_zero, List.set_cons_succ, va_rf, xi_tk hB, xg_tk_0 hB, xg_tk_1 hB, xg_tk_2 hB, xg_tk_3 hB, xg_tk_4 hB, xg_tk_5 hB, xg_tk_6 hB, xp_tk_6 hB, xg_tk_7 hB, xp_tk_7 hB, xg_tk_8 hB, xp_tk_8 hB, xg_tk_9 hB, xp_tk_9 hB, xi_le hB, xg_le_0 hB, xp_le_0 hB, xg_le_1 hB, xp_le_1 hB, xg_le_2 hB, xp_le_2 hB, xg_le_3 hB, xp_le_3 hB, xg_le_4 hB, xp_le_4 hB, xg_le_5 hB, xp_le_5 hB, xg_le_6 hB, xp_le_6 hB, xg_le_7 hB, xp_le_7 hB, xi_re hB, xg_re_0 hB, xg_re_1 hB, xp_re_1 hB, xg_re_2 hB, xp_re_2 hB, xg_re_3 hB, xp_re_3 hB, xg_re_4 hB, xp_re_4 hB, xg_re_5 hB, xp_re_5 hB, xz_sd hB, xw_sd hB, xi_ru hB, xi_jo hB, e2, e3, ja, ro, iz_lit, iz_inj, k, d, f, t]
        all_goals ((repeat' (first | exact trivial | exact ⟨rfl, rfl⟩ | rfl | apply And.intro | intro _)) <;> first | omega | (exfalso; omega) | contradiction | (exfalso; simp_all; done) | trace_state)
      · have t := iz_toInt (z := 4) (by omega) (by omega)
        rw [k, if_neg (by omega), if_neg (by omega), if_neg (by omega), if_neg (by omega), if_neg (by omega)]
        have f := c_beRef hB hr (12 * to + j) 61 hi (by omega)
        simp (disch := first | omega | assumption | (simp; done)) only [u_90_0, u_90_1, u_90_2, u_90_5, u_90_8, u_90_8N, u_90_9, u_90_10, u_90_13, u_90_14, u_90_18, u_90_19, u_90_20, u_90_23, u_90_24, u_90_25, u_90_26, u_90_27, u_90_30, u_90_31, u_90_34, u_90_37, u_90_37N, u_90_38, u_90_39, u_90_39N, u_90_42, u_90_43, u_90_43N, u_90_46, u_90_47, u_90_50, u_90_51, u_90_54, u_90_55, u_90_58, u_90_59, u_90_60, u_90_61, u_90_64, u_90_97, u_90_98, u_90_99, u_90_102, u_90_106, u_90_109, u_90_110, u_90_113, u_90_115, u_90_116, u_90_117, u_90_120, u_90_124, u_90_125, u_90_126, u_90_127, u_90_130, u_90_133, u_90_136, u_90_137, u_90_138, u_90_141, u_90_142, true_or, or_true, zk_li1_s, zk_ll1_s, zk_la1_r, zk_la1_n, zk_lg0, zk_lgs, zk_co_n, zk_co_i, zk_co_r, zk_co_u, zk_co_l, zk_l1_0, zk_l1_1, zk_l1_s, zk_l2_0, zk_l2_1, zk_l2_s, zk_sm0, zk_smi, zk_smr, zk_smn, zk_sml, zk_fi, zk_fz, zk_fo, zk_fn, zk_fa, zk_ts, zk_tn, zk_cases, true_and, and_true, List.getElem?_cons_zero, List.getElem?_cons_succ, List.length_cons, List.length_nil, Nat.reduceAdd, Nat.reduceLT, Nat.reduceLeDiff, List.set_cons_zero, List.set_cons_succ, va_rf, xi_tk hB, xg_tk_0 hB, xg_tk_1 hB, xg_tk_2 hB, xg_tk_3 hB, xg_tk_4 hB, xg_tk_5 hB, xg_tk_6 hB, xp_tk_6 hB, xg_tk_7 hB, xp_tk_7 hB, xg_tk_8 hB, xp_tk_8 hB, xg_tk_9 hB, xp_tk_9 hB, xi_le hB, xg_le_0 hB, xp_le_0 hB, xg_le_1 hB, xp_le_1 hB, xg_le_2 hB, xp_le_2 hB, xg_le_3 hB, xp_le_3 hB, xg_le_4 hB, xp_le_4 hB, xg_le_5 hB, xp_le_5 hB, xg_le_6 hB, xp_le_6 hB, xg_le_7 hB, xp_le_7 hB, xi_re hB, xg_re_0 hB, xg_re_1 hB, xp_re_1 hB, xg_re_2 hB, xp_re_2 hB, xg_re_3 hB, xp_re_3 hB, xg_re_4 hB, xp_re_4 hB, xg_re_5 hB, xp_re_5 hB, xz_sd hB, xw_sd hB, xi_ru hB, xi_jo hB, e2, e3, ja, ro, iz_lit, iz_inj, k, d, f, t]
        all_goals ((repeat' (first | exact trivial | exact ⟨rfl, rfl⟩ | rfl | apply And.intro | intro _)) <;> first | omega | (exfalso; omega) | contradiction | (exfalso; simp_all; done) | trace_state)
    · rw [if_pos d, if_neg (by omega)]
      simp (disch := first | omega | assumption | (simp; done)) only [u_90_0, u_90_1, u_90_2, u_90_5, u_90_8, u_90_8N, u_90_9, u_90_10, u_90_13, u_90_14, u_90_18, u_90_19, u_90_20, u_90_23, u_90_24, u_90_25, u_90_26, u_90_27, u_90_30, u_90_31, u_90_34, u_90_37, u_90_37N, u_90_38, u_90_39, u_90_39N, u_90_42, u_90_43, u_90_43N, u_90_46, u_90_47, u_90_50, u_90_51, u_90_54, u_90_55, u_90_58, u_90_59, u_90_61, u_90_64, u_90_96, u_90_97, u_90_98, u_90_99, u_90_102, u_90_105, u_90_106, u_90_109, u_90_110, u_90_113, u_90_114, u_90_115, u_90_116, u_90_117, u_90_120, u_90_123, u_90_124, u_90_125, u_90_126, u_90_127, u_90_130, u_90_133, u_90_136, u_90_137, u_90_138, u_90_141, u_90_142, true_or, or_true, zk_li1_s, zk_ll1_s, zk_la1_r, zk_la1_n, zk_lg0, zk_lgs, zk_co_n, zk_co_i, zk_co_r, zk_co_u, zk_co_l, zk_l1_0, zk_l1_1, zk_l1_s, zk_l2_0, zk_l2_1, zk_l2_s, zk_sm0, zk_smi, zk_smr, zk_smn, zk_sml, zk_fi, zk_fz, zk_fo, zk_fn, zk_fa, zk_ts, zk_tn, zk_cases, true_and, and_true, List.getElem?_cons_zero, List.getElem?_cons_succ, List.length_cons, List.length_nil, Nat.reduceAdd, Nat.reduceLT, Nat.reduceLeDiff, List.set_cons_zero, List.set_cons_succ, va_rf, xi_tk hB, xg_tk_0 hB, xg_tk_1 hB, xg_tk_2 hB, xg_tk_3 hB, xg_tk_4 hB, xg_tk_5 hB, xg_tk_6 hB, xp_tk_6 hB, xg_tk_7 hB, xp_tk_7 hB, xg_tk_8 hB, xp_tk_8 hB, xg_tk_9 hB, xp_tk_9 hB, xi_le hB, xg_le_0 hB, xp_le_0 hB, xg_le_1 hB, xp_le_1 hB, xg_le_2 hB, xp_le_2 hB, xg_le_3 hB, xp_le_3 hB, xg_le_4 hB, xp_le_4 hB, xg_le_5 hB, xp_le_5 hB, xg_le_6 hB, xp_le_6 hB, xg_le_7 hB, xp_le_7 hB, xi_re hB, xg_re_0 hB, xg_re_1 hB, xp_re_1 hB, xg_re_2 hB, xp_re_2 hB, xg_re_3 hB, xp_re_3 hB, xg_re_4 hB, xp_re_4 hB, xg_re_5 hB, xp_re_5 hB, xz_sd hB, xw_sd hB, e2, e3, ja, ro, iz_lit, iz_inj]
      all_goals ((repeat' (first | exact trivial | exact ⟨rfl, rfl⟩ | rfl | apply And.intro | intro _)) <;> first | omega | (exfalso; omega) | contradiction | (exfalso; simp_all; done) | trace_state)
end HAND
