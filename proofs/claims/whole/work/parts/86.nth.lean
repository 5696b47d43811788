/-! jobs' rows made longer, in general -/
def jl (m : mS) (j r : Int) : List Int := if r = 0 then nwOf m j else if r = 1 then nnOf m j else if r = 2 then exOf m j else if r = 3 then xtOf m j else if r = 4 then efOf m j else egOf m j
theorem jR_get {s m : mS} {j : Int} (h : jR s m j) (r : Int) (hr : 0 ≤ r ∧ r < 6) : xr s (9 + 6 * j + r) = jl m j r ∧ wI s (9 + 6 * j + r) := by
  obtain ⟨⟨a1, a2, a3, a4, a5, a6⟩, -, w1, w2, w3, w4, w5, w6⟩ := h
  have : r = 0 ∨ r = 1 ∨ r = 2 ∨ r = 3 ∨ r = 4 ∨ r = 5 := by omega
  rcases this with rfl | rfl | rfl | rfl | rfl | rfl
  · rw [show 9 + 6 * j + 0 = 9 + 6 * j by omega]; exact ⟨a1, w1⟩
  · rw [show 9 + 6 * j + 1 = 10 + 6 * j by omega]; exact ⟨a2, w2⟩
  · rw [show 9 + 6 * j + 2 = 11 + 6 * j by omega]; exact ⟨a3, w3⟩
  · rw [show 9 + 6 * j + 3 = 12 + 6 * j by omega]; exact ⟨a4, w4⟩
  · rw [show 9 + 6 * j + 4 = 13 + 6 * j by omega]; exact ⟨a5, w5⟩
  · rw [show 9 + 6 * j + 5 = 14 + 6 * j by omega]; exact ⟨a6, w6⟩
theorem jR_mk {s m : mS} {j : Int} (h : ∀ r, 0 ≤ r → r < 6 → xr s (9 + 6 * j + r) = jl m j r ∧ wI s (9 + 6 * j + r)) (e : ∀ k, (11 ≤ k ∧ k ≤ 16) ∨ k = 22 → s k j = m k j) : jR s m j := by
  have h0 := h 0 (by omega) (by omega)
  have h1 := h 1 (by omega) (by omega)
  have h2 := h 2 (by omega) (by omega)
  have h3 := h 3 (by omega) (by omega)
  have h4 := h 4 (by omega) (by omega)
  have h5 := h 5 (by omega) (by omega)
  rw [show 9 + 6 * j + 0 = 9 + 6 * j by omega] at h0
  rw [show 9 + 6 * j + 1 = 10 + 6 * j by omega] at h1
  rw [show 9 + 6 * j + 2 = 11 + 6 * j by omega] at h2
  rw [show 9 + 6 * j + 3 = 12 + 6 * j by omega] at h3
  rw [show 9 + 6 * j + 4 = 13 + 6 * j by omega] at h4
  rw [show 9 + 6 * j + 5 = 14 + 6 * j by omega] at h5
  exact ⟨⟨h0.1, h1.1, h2.1, h3.1, h4.1, h5.1⟩, ⟨e 11 (by omega), e 12 (by omega), e 13 (by omega), e 14 (by omega), e 15 (by omega), e 16 (by omega), e 22 (by omega)⟩, h0.2, h1.2, h2.2, h3.2, h4.2, h5.2⟩
theorem wI_512 {s : mS} {q : Int} (hq : wI s q) : 0 ≤ s 100 q ∧ s 100 q ≤ 512 := by have := rlim_r q; have := hq.1; have := hq.2.1; have := hq.2.2.2.1; omega
/-- one row of a job made longer -/
theorem REL_add {s m m' : mS} (hR : REL s m) (hM : MC m) {j r v : Int} (hj : 0 ≤ j ∧ j < m 10 0) (hr : 0 ≤ r ∧ r < 6) (hl : s 100 (9 + 6 * j + r) < rlim (9 + 6 * j + r)) (hv : -2147483648 ≤ v ∧ v ≤ 2147483647) (hm : ∀ k z, ¬ ((17 ≤ k ∧ k ≤ 21) ∨ k = 28 ∨ k = 29 ∨ (46 ≤ k ∧ k ≤ 50)) → m' k z = m k z) (hL : ∀ j' r', 0 ≤ j' → j' < m 10 0 → 0 ≤ r' → r' < 6 → jl m' j' r' = if j' = j ∧ r' = r then jl m j r ++ [v] else jl m j' r') : REL (rad s (9 + 6 * j + r) v) m' := by
  have h1 := hM.2.2.1
  have h10 := hM.2.2.2.1
  have w := (jR_get (hR.2.2.2.2.1 j hj.1 hj.2).1 r hr).2
  have np : 0 ≤ s 100 (9 + 6 * j + r) ∧ s 100 (9 + 6 * j + r) < 600 := by have := wI_512 w; omega
  refine REL_rows hR ⟨fun k z a b c d => rad_k _ _ _ _ _ a b c, fun k z q => hm k z (by omega)⟩ ?_ ?_ ?_ (rad_rg hR.2.2.2.2.2.2 np.1 hv)
  · intro z a b
    rw [hm 1 0 (by omega)] at b
    refine zR_rad (hR.2.2.2.1 z a b) np ⟨by omega, by omega, by omega⟩ ⟨?_, ?_, ?_, hm 5 z (by omega)⟩
    · unfold ssOf; simp only [hm 2 _ (by omega), hm 3 _ (by omega)]
    · unfold osOf; simp only [hm 2 _ (by omega), hm 4 _ (by omega)]
    · unfold hsOf; simp only [hm 5 _ (by omega), hm 6 _ (by omega)]
  · intro j' a b
    have jr := (hR.2.2.2.2.1 j' a b).1
    refine jR_mk (fun r' r1 r2 => ?_) (fun k hk => ?_)
    · obtain ⟨g1, g2⟩ := jR_get jr r' ⟨r1, r2⟩
      rw [hL j' r' a b r1 r2]
      by_cases c : j' = j ∧ r' = r
      · obtain ⟨rfl, rfl⟩ := c
        rw [if_pos ⟨rfl, rfl⟩, xr_rad1 np.1 hl, g1]
        exact ⟨rfl, wI_rad1 g2⟩
      · rw [if_neg c, xr_rad (by omega) np (wI_512 g2).2, g1]
        exact ⟨rfl, wI_rad g2 (by omega) np⟩
    · rw [rad_k _ _ _ _ _ (by omega) (by omega) (by omega), hm k j' (by omega)]
      refine hR.1 k j' ?_
      have : k = 11 ∨ k = 12 ∨ k = 13 ∨ k = 14 ∨ k = 15 ∨ k = 16 ∨ k = 22 := by omega
      rcases this with rfl | rfl | rfl | rfl | rfl | rfl | rfl <;> rfl
  · intro p hp
    rw [rad_102 (by omega)]
    exact hR.2.2.2.2.2.1.2.2 p hp
/-- two rows of a job made longer -/
theorem REL_add2 {s m m' : mS} (hR : REL s m) (hM : MC m) {j r1 v1 r2 v2 : Int} (hj : 0 ≤ j ∧ j < m 10 0) (hr1 : 0 ≤ r1 ∧ r1 < 6) (hr2 : 0 ≤ r2 ∧ r2 < 6) (hne : r1 ≠ r2) (hl1 : s 100 (9 + 6 * j + r1) < rlim (9 + 6 * j + r1)) (hl2 : s 100 (9 + 6 * j + r2) < rlim (9 + 6 * j + r2)) (hv1 : -2147483648 ≤ v1 ∧ v1 ≤ 2147483647) (hv2 : -2147483648 ≤ v2 ∧ v2 ≤ 2147483647) (hm : ∀ k z, ¬ ((17 ≤ k ∧ k ≤ 21) ∨ k = 28 ∨ k = 29 ∨ (46 ≤ k ∧ k ≤ 50)) → m' k z = m k z) (hL : ∀ j' r', 0 ≤ j' → j' < m 10 0 → 0 ≤ r' → r' < 6 → jl m' j' r' = if j' = j ∧ r' = r1 then jl m j r1 ++ [v1] else if j' = j ∧ r' = r2 then jl m j r2 ++ [v2] else jl m j' r') : REL (rad (rad s (9 + 6 * j + r1) v1) (9 + 6 * j + r2) v2) m' := by
  have h1 := hM.2.2.1
  have h10 := hM.2.2.2.1
  have w1 := (jR_get (hR.2.2.2.2.1 j hj.1 hj.2).1 r1 hr1).2
  have w2 := (jR_get (hR.2.2.2.2.1 j hj.1 hj.2).1 r2 hr2).2
  have np1 : 0 ≤ s 100 (9 + 6 * j + r1) ∧ s 100 (9 + 6 * j + r1) < 600 := by have := wI_512 w1; omega
  have e2 : rad s (9 + 6 * j + r1) v1 100 (9 + 6 * j + r2) = s 100 (9 + 6 * j + r2) := rad_p s _ v1 _ (by omega) 100 (Or.inl rfl)
  have np2 : 0 ≤ rad s (9 + 6 * j + r1) v1 100 (9 + 6 * j + r2) ∧ rad s (9 + 6 * j + r1) v1 100 (9 + 6 * j + r2) < 600 := by rw [e2]; have := wI_512 w2; omega
  refine REL_rows hR ⟨fun k z a b c d => by rw [rad_k _ _ _ _ _ a b c, rad_k _ _ _ _ _ a b c], fun k z q => hm k z (by omega)⟩ ?_ ?_ ?_ (rad_rg (rad_rg hR.2.2.2.2.2.2 np1.1 hv1) np2.1 hv2)
  · intro z a b
    rw [hm 1 0 (by omega)] at b
    have s1 : zR (rad s (9 + 6 * j + r1) v1) m z := zR_rad (hR.2.2.2.1 z a b) np1 ⟨by omega, by omega, by omega⟩ ⟨rfl, rfl, rfl, rfl⟩
    refine zR_rad s1 np2 ⟨by omega, by omega, by omega⟩ ⟨?_, ?_, ?_, hm 5 z (by omega)⟩
    · unfold ssOf; simp only [hm 2 _ (by omega), hm 3 _ (by omega)]
    · unfold osOf; simp only [hm 2 _ (by omega), hm 4 _ (by omega)]
    · unfold hsOf; simp only [hm 5 _ (by omega), hm 6 _ (by omega)]
  · intro j' a b
    have jr := (hR.2.2.2.2.1 j' a b).1
    refine jR_mk (fun r' q1 q2 => ?_) (fun k hk => ?_)
    · obtain ⟨g1, g2⟩ := jR_get jr r' ⟨q1, q2⟩
      rw [hL j' r' a b q1 q2]
      by_cases c : j' = j ∧ r' = r1
      · obtain ⟨rfl, rfl⟩ := c
        have l1 := wI_rad1 (v := v1) g2
        rw [if_pos ⟨rfl, rfl⟩, xr_rad (by omega) np2 (wI_512 l1).2, xr_rad1 np1.1 hl1, g1]
        exact ⟨rfl, wI_rad l1 (by omega) np2⟩
      · rw [if_neg c]
        have l1 := wI_rad (v := v1) g2 (show 9 + 6 * j' + r' ≠ 9 + 6 * j + r1 by omega) np1
        have x1 := xr_rad (v := v1) (show 9 + 6 * j' + r' ≠ 9 + 6 * j + r1 by omega) np1 (wI_512 g2).2
        by_cases c2 : j' = j ∧ r' = r2
        · obtain ⟨rfl, rfl⟩ := c2
          rw [if_pos ⟨rfl, rfl⟩, xr_rad1 np2.1 (by rw [e2]; exact hl2), x1, g1]
          exact ⟨rfl, wI_rad1 l1⟩
        · rw [if_neg c2, xr_rad (by omega) np2 (wI_512 l1).2, x1, g1]
          exact ⟨rfl, wI_rad l1 (by omega) np2⟩
    · rw [rad_k _ _ _ _ _ (by omega) (by omega) (by omega), rad_k _ _ _ _ _ (by omega) (by omega) (by omega), hm k j' (by omega)]
      refine hR.1 k j' ?_
      have : k = 11 ∨ k = 12 ∨ k = 13 ∨ k = 14 ∨ k = 15 ∨ k = 16 ∨ k = 22 := by omega
      rcases this with rfl | rfl | rfl | rfl | rfl | rfl | rfl <;> rfl
  · intro p hp
    rw [rad_102 (by omega), rad_102 (by omega)]
    exact hR.2.2.2.2.2.1.2.2 p hp
section NTH
variable {G : zk_G} {B : zk_H} {ad : Int → Nat} {s m : mS}
theorem k_nth (hB : hxo G B (m 1 0) (m 10 0) ad) (hR : REL s m) (hM : MC m) (j w n : Int) (hj : -2147483648 ≤ j ∧ j ≤ 2147483647) (hw : -2147483648 ≤ w ∧ w ≤ 2147483647) (hn : -2147483648 ≤ n ∧ n ≤ 2147483647) : (¬ nthOk m j w n → CC G B ad s m 73 [some (.int (iz j)), some (.int (iz w)), some (.int (iz n)), none] (-1) m) ∧ (nthOk m j w n → m 17 j = 3 → CC G B ad s m 73 [some (.int (iz j)), some (.int (iz w)), some (.int (iz n)), none] (-3) m) ∧ (nthOk m j w n → m 17 j ≠ 3 → CC G B ad s m 73 [some (.int (iz j)), some (.int (iz w)), some (.int (iz n)), none] (m 17 j + 1) (up (up (up m 18 (3 * j + m 17 j) w) 19 (3 * j + m 17 j) n) 17 j (m 17 j + 1))) := by
  have hc := rel_cI hR hM
  have h10 := hM.2.2.2.1
  unfold nthOk
  by_cases c1 : 0 ≤ j ∧ j < m 10 0
  · have ja := c_jobAt hB hc j c1
    have jr := (hR.2.2.2.2.1 j c1.1 c1.2).1
    have w9 := jr.2.2.1
    have w10 := jr.2.2.2.1
    have b17 := (mc_j hM c1).2.2.2.2.2.2.2.1
    have l9 : s 100 (9 + 6 * j) = m 17 j := by have h1 := xr_len w9; rw [jr.1.1] at h1; rw [← h1]; exact rl_len _ b17.1
    have l10 : s 100 (10 + 6 * j) = m 17 j := by have h1 := xr_len w10; rw [jr.1.2.1] at h1; rw [← h1]; exact rl_len _ b17.1
    obtain ⟨q9, q10, -⟩ := rlim_j c1.1
    obtain ⟨B1, ad1, x1, x2, x3⟩ := c_add hB hc (p := 10 + 6 * j) (by omega) w10 (by omega) n
    have hB1 := x1.1
    have np : 0 ≤ s 100 (10 + 6 * j) ∧ s 100 (10 + 6 * j) < 600 := by omega
    have hc1 : cI (rad s (10 + 6 * j) n) (m 1 0) (m 10 0) := cI_of hc (fun k z hk => rad_k _ _ _ _ _ (by omega) (by omega) (by omega))
    have e9 : rad s (10 + 6 * j) n 100 (9 + 6 * j) = s 100 (9 + 6 * j) := rad_p s _ n _ (by omega) 100 (Or.inl rfl)
    obtain ⟨B2, ad2, y1, y2, y3⟩ := c_countWith hB1 hc1 (p := 9 + 6 * j) (by omega) (wI_rad w9 (by omega) np) (by rw [e9]; omega) w
    rw [x2 (300 + (9 + 6 * j)) (by omega), e9, l9, q9] at y3
    rw [l10, q10] at x3
    have xx := xE_t x1 y1
    rw [show cs (rad s (10 + 6 * j) n) - cs s + (cs (rad (rad s (10 + 6 * j) n) (9 + 6 * j) w) - cs (rad s (10 + 6 * j) n)) = cs (rad (rad s (10 + 6 * j) n) (9 + 6 * j) w) - cs s by omega] at xx
    have hP : (0 ≤ w ∧ w ≤ 6) ∧ (1 ≤ n ∧ n ≤ 6) → ∀ Q : Option Value → zk_H → Prop, zk_wp G 73 0 [some (.ref (ad 0)), some (.int (iz j)), some (.int (iz w)), some (.int (iz n)), none] [] (hx G B (m 1 0) (m 10 0) ad s) Q ↔ Q (some (.int (iz (if m 17 j < 3 then m 17 j + 1 else -3)))) (hx G B2 (m 1 0) (m 10 0) ad2 (rad (rad s (10 + 6 * j) n) (9 + 6 * j) w)) := by
      intro c2 Q
      refine zk_eq ?_ Q
      have o1 := xg_rr_2 hB1 (rad s (10 + 6 * j) n) j c1
      rw [x2 (240 + j) (by omega), x2 (300 + (9 + 6 * j)) (by omega)] at o1
      have ic1 := xi_ro hB1 (rad s (10 + 6 * j) n) (9 + 6 * j) (by omega)
      rw [x2 (300 + (9 + 6 * j)) (by omega)] at ic1
      clear x1 xx y1
      have an : ∀ Q, zk_wp G 24 0 [some (.ref (ad (240 + j))), some (.int (iz w)), some (.int (iz n))] [] (hx G B (m 1 0) (m 10 0) ad s) Q ↔ Q (some (.int (iz (if m 17 j < 3 then m 17 j + 1 else -3)))) (hx G B2 (m 1 0) (m 10 0) ad2 (rad (rad s (10 + 6 * j) n) (9 + 6 * j) w)) := by
        intro Q
        refine zk_eq ?_ Q
        simp (disch := first | omega | assumption | (simp; done)) only [u_24_0, u_24_1, u_24_4, u_24_5, u_24_8i, u_24_8r, u_24_8n, u_24_9, u_24_10, u_24_13, u_24_14, u_24_17, true_or, or_true, zk_li1_s, zk_ll1_s, zk_la1_r, zk_la1_n, zk_lg0, zk_lgs, zk_co_n, zk_co_i, zk_co_r, zk_co_u, zk_co_l, zk_l1_0, zk_l1_1, zk_l1_s, zk_l2_0, zk_l2_1, zk_l2_s, zk_sm0, zk_smi, zk_smr, zk_smn, zk_sml, zk_fi, zk_fz, zk_fo, zk_fn, zk_fa, zk_ts, zk_tn, zk_cases, true_and, and_true, List.getElem?_cons_zero, List.getElem?_cons_succ, List.length_cons, List.length_nil, Nat.reduceAdd, Nat.reduceLT, Nat.reduceLeDiff, List.set_cons_zero, List.set_cons_succ, va_rf, xi_rr hB, xg_rr_0 hB, xg_rr_1 hB, xg_rr_2 hB, xg_rr_3 hB, xg_rr_4 hB, xg_rr_5 hB, xg_rr_6 hB, xp_rr_6 hB, xi_ro hB, x3, o1, ic1, y3]
      simp (disch := first | omega | assumption | (simp; done)) only [u_73_0, u_73_1, u_73_2, u_73_5, u_73_5N, u_73_7, u_73_9, u_73_9N, u_73_12, u_73_13, u_73_16, u_73_17, u_73_19, u_73_22, u_73_23, u_73_24, u_73_27, u_73_28, u_73_30, u_73_34, u_73_35, u_73_37, u_73_40, u_73_41, u_73_42, u_73_45, true_or, or_true, zk_li1_s, zk_ll1_s, zk_la1_r, zk_la1_n, zk_lg0, zk_lgs, zk_co_n, zk_co_i, zk_co_r, zk_co_u, zk_co_l, zk_l1_0, zk_l1_1, zk_l1_s, zk_l2_0, zk_l2_1, zk_l2_s, zk_sm0, zk_smi, zk_smr, zk_smn, zk_sml, zk_fi, zk_fz, zk_fo, zk_fn, zk_fa, zk_ts, zk_tn, zk_cases, true_and, and_true, List.getElem?_cons_zero, List.getElem?_cons_succ, List.length_cons, List.length_nil, Nat.reduceAdd, Nat.reduceLT, Nat.reduceLeDiff, List.set_cons_zero, List.set_cons_succ, va_rf, xi_tk hB, xg_tk_0 hB, xg_tk_1 hB, xg_tk_2 hB, xg_tk_3 hB, xg_tk_4 hB, xg_tk_5 hB, xg_tk_6 hB, xp_tk_6 hB, xg_tk_7 hB, xp_tk_7 hB, xg_tk_8 hB, xp_tk_8 hB, xg_tk_9 hB, xp_tk_9 hB, xi_jo hB, xg_jo_0 hB, xg_jo_1 hB, xg_jo_2 hB, xg_jo_3 hB, xp_jo_3 hB, xg_jo_4 hB, xp_jo_4 hB, xg_jo_5 hB, xp_jo_5 hB, xg_jo_6 hB, xp_jo_6 hB, xg_jo_7 hB, xp_jo_7 hB, xg_jo_8 hB, xp_jo_8 hB, xi_rr hB, iz_lit, iz_lt, iz_le, ja, an]
      all_goals ((repeat' (first | exact trivial | exact ⟨rfl, rfl⟩ | rfl | apply And.intro | intro _)) <;> first | omega | (exfalso; omega) | contradiction | (exfalso; simp_all; done) | trace_state)
    refine ⟨fun c => CC_q hB hR (fun Q => zk_eq ?_ Q), fun c c3 => ?_, fun c c3 => ?_⟩
    · clear x1 xx y1
      simp (disch := first | omega | assumption | (simp; done)) only [u_73_0, u_73_1, u_73_2, u_73_5, u_73_5N, u_73_7, u_73_9, u_73_9N, u_73_12, u_73_13, u_73_16, u_73_17, u_73_19, u_73_22, u_73_23, u_73_24, u_73_27, u_73_28, u_73_30, u_73_33, u_73_34, u_73_37, u_73_40, u_73_41, u_73_42, u_73_45, true_or, or_true, zk_li1_s, zk_ll1_s, zk_la1_r, zk_la1_n, zk_lg0, zk_lgs, zk_co_n, zk_co_i, zk_co_r, zk_co_u, zk_co_l, zk_l1_0, zk_l1_1, zk_l1_s, zk_l2_0, zk_l2_1, zk_l2_s, zk_sm0, zk_smi, zk_smr, zk_smn, zk_sml, zk_fi, zk_fz, zk_fo, zk_fn, zk_fa, zk_ts, zk_tn, zk_cases, true_and, and_true, List.getElem?_cons_zero, List.getElem?_cons_succ, List.length_cons, List.length_nil, Nat.reduceAdd, Nat.reduceLT, Nat.reduceLeDiff, List.set_cons_zero, List.set_cons_succ, va_rf, xi_tk hB, iz_lit, iz_neg, iz_lt, iz_le, ja]
      all_goals ((repeat' (first | exact trivial | exact ⟨rfl, rfl⟩ | rfl | apply And.intro | intro _)) <;> first | omega | (exfalso; omega) | contradiction | (exfalso; simp_all; done) | trace_state)
    · have hP2 := hP c.2
      rw [if_neg (by omega)] at hP2
      have r1 : rad s (10 + 6 * j) n = s := by unfold rad; rw [if_neg (by omega)]
      rw [r1] at hP2 xx
      have r2 : rad s (9 + 6 * j) w = s := by unfold rad; rw [if_neg (by omega)]
      rw [r2] at hP2 xx
      exact CC_x xx (by rw [y2 0 (by omega), x2 0 (by omega)]) hR rfl rfl hP2
    · have hP2 := hP c.2
      rw [if_pos (by omega)] at hP2
      refine CC_x xx (by rw [y2 0 (by omega), x2 0 (by omega)]) ?_ (by simp (disch := first | omega | assumption | (simp; done)) only [up_k]) (by simp (disch := first | omega | assumption | (simp; done)) only [up_k]) hP2
      have um : ∀ k z, k ≠ 17 → k ≠ 18 → k ≠ 19 → up (up (up m 18 (3 * j + m 17 j) w) 19 (3 * j + m 17 j) n) 17 j (m 17 j + 1) k z = m k z := fun k z a b c => by rw [up_k _ _ _ _ a, up_k _ _ _ _ c, up_k _ _ _ _ b]
      have RA := REL_add2 (r1 := 1) (v1 := n) (r2 := 0) (v2 := w) (m' := up (up (up m 18 (3 * j + m 17 j) w) 19 (3 * j + m 17 j) n) 17 j (m 17 j + 1)) hR hM c1 (by omega) (by omega) (by omega) (by rw [show 9 + 6 * j + 1 = 10 + 6 * j by omega]; omega) (by rw [show 9 + 6 * j + 0 = 9 + 6 * j by omega]; omega) hn hw (fun k z q => um k z (by omega) (by omega) (by omega)) (fun j' r' a b r1 r2 => ?_)
      · rw [show 9 + 6 * j + 1 = 10 + 6 * j by omega, show 9 + 6 * j + 0 = 9 + 6 * j by omega] at RA
        exact RA
      · have jb := (mc_j hM (j := j') ⟨a, b⟩).2.2.2.2.2.2.2.1
        have f3 : exOf (up (up (up m 18 (3 * j + m 17 j) w) 19 (3 * j + m 17 j) n) 17 j (m 17 j + 1)) j' = exOf m j' := by unfold exOf; simp only [um 20 _ (by decide) (by decide) (by decide), um 21 _ (by decide) (by decide) (by decide)]
        have f4 : xtOf (up (up (up m 18 (3 * j + m 17 j) w) 19 (3 * j + m 17 j) n) 17 j (m 17 j + 1)) j' = xtOf m j' := by unfold xtOf; simp only [um 28 _ (by decide) (by decide) (by decide), um 29 _ (by decide) (by decide) (by decide)]
        have f5 : efOf (up (up (up m 18 (3 * j + m 17 j) w) 19 (3 * j + m 17 j) n) 17 j (m 17 j + 1)) j' = efOf m j' := by unfold efOf; simp only [um 46 _ (by decide) (by decide) (by decide), um 47 _ (by decide) (by decide) (by decide)]
        have f6 : egOf (up (up (up m 18 (3 * j + m 17 j) w) 19 (3 * j + m 17 j) n) 17 j (m 17 j + 1)) j' = egOf m j' := by unfold egOf; simp only [um 46 _ (by decide) (by decide) (by decide), um 48 _ (by decide) (by decide) (by decide)]
        have rc : r' = 0 ∨ r' = 1 ∨ r' = 2 ∨ r' = 3 ∨ r' = 4 ∨ r' = 5 := by omega
        unfold jl
        rcases rc with rfl | rfl | rfl | rfl | rfl | rfl
        · rw [if_pos rfl, if_neg (by omega : ¬ (j' = j ∧ (0 : Int) = 1)), if_pos rfl, if_pos rfl]
          unfold nwOf
          by_cases cj : j' = j
          · subst cj
            rw [if_pos ⟨rfl, rfl⟩, up_e, rl_succ _ b17.1, up_k _ _ _ _ (by decide), up_k _ _ _ _ (by decide), up_e]
            congr 1
            refine rl_congr (fun k k1 k2 => ?_)
            rw [up_k _ _ _ _ (by decide), up_k _ _ _ _ (by decide), up_z, if_neg (by omega)]
          · rw [if_neg (fun q => cj q.1), up_z, if_neg cj, up_k _ _ _ _ (by decide), up_k _ _ _ _ (by decide)]
            refine rl_congr (fun k k1 k2 => ?_)
            rw [up_k _ _ _ _ (by decide), up_k _ _ _ _ (by decide), up_z, if_neg (by omega)]
        · rw [if_neg (by omega), if_pos rfl, if_neg (by omega : ¬ (1 : Int) = 0), if_pos rfl, if_neg (by omega : ¬ (1 : Int) = 0), if_pos rfl]
          unfold nnOf
          by_cases cj : j' = j
          · subst cj
            rw [if_pos ⟨rfl, rfl⟩, up_e, rl_succ _ b17.1, up_k _ _ _ _ (by decide), up_e]
            congr 1
            refine rl_congr (fun k k1 k2 => ?_)
            rw [up_k _ _ _ _ (by decide), up_z, if_neg (by omega), up_k _ _ _ _ (by decide)]
          · rw [if_neg (fun q => cj q.1), if_neg (by omega : ¬ (j' = j ∧ (1 : Int) = 0)), up_z, if_neg cj, up_k _ _ _ _ (by decide), up_k _ _ _ _ (by decide), if_pos (rfl : (1 : Int) = 1)]
            refine rl_congr (fun k k1 k2 => ?_)
            rw [up_k _ _ _ _ (by decide), up_z, if_neg (by omega), up_k _ _ _ _ (by decide)]
        · simp [f3]
        · simp [f4]
        · simp [f5]
        · simp [f6]
  · have ja := c_jobAt0 hB hc j hj c1
    refine ⟨fun c => CC_q hB hR (fun Q => zk_eq ?_ Q), fun c => absurd c.1 c1, fun c => absurd c.1 c1⟩
    simp (disch := first | omega | assumption | (simp; done)) only [u_73_0, u_73_1, u_73_2, u_73_5, u_73_5N, u_73_7, u_73_9, u_73_9N, u_73_13, u_73_16, u_73_17, u_73_19, u_73_22, u_73_23, u_73_24, u_73_27, u_73_28, u_73_30, u_73_33, u_73_34, u_73_37, u_73_40, u_73_41, u_73_42, u_73_45, true_or, or_true, zk_li1_s, zk_ll1_s, zk_la1_r, zk_la1_n, zk_lg0, zk_lgs, zk_co_n, zk_co_i, zk_co_r, zk_co_u, zk_co_l, zk_l1_0, zk_l1_1, zk_l1_s, zk_l2_0, zk_l2_1, zk_l2_s, zk_sm0, zk_smi, zk_smr, zk_smn, zk_sml, zk_fi, zk_fz, zk_fo, zk_fn, zk_fa, zk_ts, zk_tn, zk_cases, true_and, and_true, List.getElem?_cons_zero, List.getElem?_cons_succ, List.length_cons, List.length_nil, Nat.reduceAdd, Nat.reduceLT, Nat.reduceLeDiff, List.set_cons_zero, List.set_cons_succ, va_rf, xi_tk hB, iz_lit, iz_neg, ja]
    all_goals ((repeat' (first | exact trivial | exact ⟨rfl, rfl⟩ | rfl | apply And.intro | intro _)) <;> first | omega | (exfalso; omega) | contradiction | (exfalso; simp_all; done) | trace_state)
end NTH
