/-! rows that a call makes longer -/
theorem zR_rad {s m m' : mS} {z p v : Int} (h : zR s m z) (hp : 0 ≤ s 100 p ∧ s 100 p < 600) (h3 : 3 * z ≠ p ∧ 3 * z + 1 ≠ p ∧ 3 * z + 2 ≠ p) (e : ssOf m' z = ssOf m z ∧ osOf m' z = osOf m z ∧ hsOf m' z = hsOf m z ∧ m' 5 z = m 5 z) : zR (rad s p v) m' z := by
  obtain ⟨⟨a1, a2, a3⟩, b, w1, w2, w3⟩ := h
  obtain ⟨e1, e2, e3, e4⟩ := e
  have l : ∀ q, wI s q → s 100 q ≤ 512 := fun q hq => by have := rlim_r q; have := hq.2.1; have := hq.2.2.2.1; omega
  refine ⟨⟨?_, ?_, ?_⟩, ?_, wI_rad w1 h3.1 hp, wI_rad w2 h3.2.1 hp, wI_rad w3 h3.2.2 hp⟩
  · rw [xr_rad h3.1 hp (l _ w1), a1, e1]
  · rw [xr_rad h3.2.1 hp (l _ w2), a2, e2]
  · rw [xr_rad h3.2.2 hp (l _ w3), a3, e3]
  · intro k k1 k2
    rw [e4] at k2
    rw [rad_k _ _ _ _ _ (by decide) (by decide) (by decide), e3]
    exact b k k1 k2
theorem jR_rad {s m m' : mS} {j p v : Int} (h : jR s m j) (hp : 0 ≤ s 100 p ∧ s 100 p < 600) (h3 : ¬ (9 + 6 * j ≤ p ∧ p ≤ 14 + 6 * j)) (e : nwOf m' j = nwOf m j ∧ nnOf m' j = nnOf m j ∧ exOf m' j = exOf m j ∧ xtOf m' j = xtOf m j ∧ efOf m' j = efOf m j ∧ egOf m' j = egOf m j) (e2 : ∀ k, (11 ≤ k ∧ k ≤ 16) ∨ k = 22 → m' k j = m k j) : jR (rad s p v) m' j := by
  obtain ⟨⟨a1, a2, a3, a4, a5, a6⟩, ⟨c1, c2, c3, c4, c5, c6, c7⟩, w1, w2, w3, w4, w5, w6⟩ := h
  obtain ⟨d1, d2, d3, d4, d5, d6⟩ := e
  have l : ∀ q, wI s q → s 100 q ≤ 512 := fun q hq => by have := rlim_r q; have := hq.2.1; have := hq.2.2.2.1; omega
  refine ⟨⟨?_, ?_, ?_, ?_, ?_, ?_⟩, ⟨?_, ?_, ?_, ?_, ?_, ?_, ?_⟩, wI_rad w1 (by omega) hp, wI_rad w2 (by omega) hp, wI_rad w3 (by omega) hp, wI_rad w4 (by omega) hp, wI_rad w5 (by omega) hp, wI_rad w6 (by omega) hp⟩
  · rw [xr_rad (by omega) hp (l _ w1), a1, d1]
  · rw [xr_rad (by omega) hp (l _ w2), a2, d2]
  · rw [xr_rad (by omega) hp (l _ w3), a3, d3]
  · rw [xr_rad (by omega) hp (l _ w4), a4, d4]
  · rw [xr_rad (by omega) hp (l _ w5), a5, d5]
  · rw [xr_rad (by omega) hp (l _ w6), a6, d6]
  · rw [rad_k _ _ _ _ _ (by decide) (by decide) (by decide), e2 11 (by omega), c1]
  · rw [rad_k _ _ _ _ _ (by decide) (by decide) (by decide), e2 12 (by omega), c2]
  · rw [rad_k _ _ _ _ _ (by decide) (by decide) (by decide), e2 13 (by omega), c3]
  · rw [rad_k _ _ _ _ _ (by decide) (by decide) (by decide), e2 14 (by omega), c4]
  · rw [rad_k _ _ _ _ _ (by decide) (by decide) (by decide), e2 15 (by omega), c5]
  · rw [rad_k _ _ _ _ _ (by decide) (by decide) (by decide), e2 16 (by omega), c6]
  · rw [rad_k _ _ _ _ _ (by decide) (by decide) (by decide), e2 22 (by omega), c7]
theorem rad_rg {s : mS} (hr : rg s) {p v : Int} (hp : 0 ≤ s 100 p) (hv : -2147483648 ≤ v ∧ v ≤ 2147483647) : rg (rad s p v) := by
  have hl := rlim_r p
  unfold rad
  split
  · refine rg_up (rg_up ?_ _ _ hv) _ _ (by omega)
    split
    · exact hr
    · exact rg_up hr _ _ (by omega)
  · exact hr
/-- all but rows of the class, all but the calendar's fields of the model -/
def rest (s s' m m' : mS) : Prop := (∀ k z, k ≠ 100 → k ≠ 101 → k ≠ 102 → k ≠ 60 → s' k z = s k z) ∧ (∀ k z, ¬ ((2 ≤ k ∧ k ≤ 6) ∨ (17 ≤ k ∧ k ≤ 21) ∨ k = 28 ∨ k = 29 ∨ (46 ≤ k ∧ k ≤ 50)) → m' k z = m k z)
theorem REL_rows {s s' m m' : mS} (hR : REL s m) (h : rest s s' m m') (hz : RZO s' m') (hj : ∀ j, 0 ≤ j → j < m 10 0 → jR s' m' j) (ho : ∀ p, ¬ ((0 ≤ p ∧ p < 3 * m 1 0) ∨ (9 ≤ p ∧ p < 9 + 6 * m 10 0)) → s' 102 p = 0) (hr : rg s') : REL s' m' := by
  obtain ⟨r1, r2, r3, r4, r5, r6, r7⟩ := hR
  obtain ⟨hs, hm⟩ := h
  have h10 : m' 10 0 = m 10 0 := hm 10 0 (by omega)
  have h1 : m' 1 0 = m 1 0 := hm 1 0 (by omega)
  refine ⟨?_, ?_, ?_, hz, ?_, ?_, hr⟩
  · intro k z hk
    have key : ∀ k : Nat, shd k = true → k ≠ 100 ∧ k ≠ 101 ∧ k ≠ 102 ∧ k ≠ 60 ∧ ¬ ((2 ≤ k ∧ k ≤ 6) ∨ (17 ≤ k ∧ k ≤ 21) ∨ k = 28 ∨ k = 29 ∨ (46 ≤ k ∧ k ≤ 50)) := by
      intro k hk
      unfold shd at hk
      simp at hk
      omega
    obtain ⟨a1, a2, a3, a4, a5⟩ := key k hk
    rw [hs k z a1 a2 a3 a4, hm k z a5]
    exact r1 k z hk
  · intro z a b
    rw [hm 53 0 (by omega)] at b
    rw [hs 54 z (by decide) (by decide) (by decide) (by decide), hm 54 z (by omega)]
    exact r2 z a b
  · intro i i1 i2
    obtain ⟨a, b, c, d⟩ := r3 i i1 i2
    refine ⟨runR_of a (fun k k1 k2 => hs k i (by omega) (by omega) (by omega) (by omega)) (fun k k1 k2 => hm k i (by omega)), ?_, ?_, ?_⟩
    · rw [hs 62 i (by decide) (by decide) (by decide) (by decide), hm 30 i (by omega), hm 34 i (by omega)]; exact b
    · rw [hs 62 i (by decide) (by decide) (by decide) (by decide)]; exact c
    · rw [hs 62 i (by decide) (by decide) (by decide) (by decide), h10]; exact d
  · intro j a b
    rw [h10] at b
    refine ⟨hj j a b, ?_⟩
    rw [hs 61 j (by decide) (by decide) (by decide) (by decide), awO_of (fun z => hm 27 z (by omega)) (fun z => hm 26 z (by omega))]
    exact (r5 j a b).2
  · unfold ROT
    rw [h1, h10, hs 80 0 (by decide) (by decide) (by decide) (by decide), hs 81 0 (by decide) (by decide) (by decide) (by decide)]
    exact ⟨r6.1, r6.2.1, ho⟩
theorem rad_102 {s : mS} {p v q : Int} (hq : q ≠ p) : rad s p v 102 q = s 102 q := rad_p s p v q hq 102 (Or.inr rfl)
section LONG
variable {G : zk_G} {B : zk_H} {ad : Int → Nat} {s m : mS}
theorem CC_x {B' : zk_H} {ad' : Int → Nat} {s' m' : mS} (hx' : xE G (m 1 0) (m 10 0) B ad (m 1 0) (m 10 0) B' ad' (cs s' - cs s)) (h0 : ad' 0 = ad 0) (hR : REL s' m') (h1 : m' 1 0 = m 1 0) (h10 : m' 10 0 = m 10 0) {y : Nat} {args : zk_L} {v : Int} (h : ∀ Q : Option Value → zk_H → Prop, zk_wp G y 0 (some (.ref (ad 0)) :: args) [] (hx G B (m 1 0) (m 10 0) ad s) Q ↔ Q (some (.int (iz v))) (hx G B' (m 1 0) (m 10 0) ad' s')) : CC G B ad s m y args v m' := by
  refine ⟨B', ad', s', ?_, h0, hR, ?_⟩
  · rw [h1, h10]; exact hx'
  · rw [h1, h10]; exact h
theorem k_except (hB : hxo G B (m 1 0) (m 10 0) ad) (hR : REL s m) (hM : MC m) (j t : Int) (hj : -2147483648 ≤ j ∧ j ≤ 2147483647) (ht : -2147483648 ≤ t ∧ t ≤ 2147483647) : CC G B ad s m 74 [some (.int (iz j)), some (.int (iz t)), none] (v_exc m j t) (f_exc m j t) := by
  have hc := rel_cI hR hM
  have im := c_isMin (G := G) (hx G B (m 1 0) (m 10 0) ad s) t ht
  have h10 := hM.2.2.2.1
  unfold v_exc f_exc
  by_cases c1 : 0 ≤ j ∧ j < m 10 0
  · have ja := c_jobAt hB hc j c1
    by_cases c2 : 0 ≤ t ∧ t ≤ 21038399
    · rw [if_pos ⟨c1, c2⟩]
      rw [if_pos c2] at im
      obtain ⟨jr, -⟩ := hR.2.2.2.2.1 j c1.1 c1.2
      have w := jr.2.2.2.2.1
      have ex := jr.1.2.2.1
      have jI1 := mc_j hM c1
      have b20 := jI1.2.2.2.2.2.2.2.2.1
      have len : s 100 (11 + 6 * j) = m 20 j := by
        have h1 := xr_len w
        rw [ex] at h1
        rw [← h1]
        exact rl_len _ b20.1
      obtain ⟨-, -, l3, -⟩ := rlim_j c1.1
      have pv : (0 ≤ 11 + 6 * j ∧ 11 + 6 * j < 3 * m 1 0) ∨ (9 ≤ 11 + 6 * j ∧ 11 + 6 * j < 9 + 6 * m 10 0) := by omega
      obtain ⟨B', ad', x1, x2, x3⟩ := c_countWith hB hc pv w (by omega) t
      rw [l3, len] at x3
      have hP : ∀ Q : Option Value → zk_H → Prop, zk_wp G 74 0 [some (.ref (ad 0)), some (.int (iz j)), some (.int (iz t)), none] [] (hx G B (m 1 0) (m 10 0) ad s) Q ↔ Q (some (.int (iz (if m 20 j < 6 then m 20 j + 1 else -3)))) (hx G B' (m 1 0) (m 10 0) ad' (rad s (11 + 6 * j) t)) := by
        intro Q
        refine zk_eq ?_ Q
        have ax : ∀ Q, zk_wp G 25 0 [some (.ref (ad (240 + j))), some (.int (iz t))] [] (hx G B (m 1 0) (m 10 0) ad s) Q ↔ Q (some (.int (iz (if m 20 j < 6 then m 20 j + 1 else -3)))) (hx G B' (m 1 0) (m 10 0) ad' (rad s (11 + 6 * j) t)) := by
          intro Q
          refine zk_eq ?_ Q
          clear x1
          simp (disch := first | omega | assumption | (simp; done)) only [u_25_0, u_25_1, u_25_4, u_25_5, u_25_8, true_or, or_true, zk_li1_s, zk_ll1_s, zk_la1_r, zk_la1_n, zk_lg0, zk_lgs, zk_co_n, zk_co_i, zk_co_r, zk_co_u, zk_co_l, zk_l1_0, zk_l1_1, zk_l1_s, zk_l2_0, zk_l2_1, zk_l2_s, zk_sm0, zk_smi, zk_smr, zk_smn, zk_sml, zk_fi, zk_fz, zk_fo, zk_fn, zk_fa, zk_ts, zk_tn, zk_cases, true_and, and_true, List.getElem?_cons_zero, List.getElem?_cons_succ, List.length_cons, List.length_nil, Nat.reduceAdd, Nat.reduceLT, Nat.reduceLeDiff, List.set_cons_zero, List.set_cons_succ, va_rf, xi_rr hB, xg_rr_0 hB, xg_rr_1 hB, xg_rr_2 hB, xg_rr_3 hB, xg_rr_4 hB, xg_rr_5 hB, xg_rr_6 hB, xp_rr_6 hB, xi_ro hB, x3]
        clear x1
        simp (disch := first | omega | assumption | (simp; done)) only [u_74_0, u_74_1, u_74_2, u_74_5, u_74_5N, u_74_6, u_74_7, u_74_7N, u_74_10, u_74_11, u_74_14, u_74_18, u_74_19, u_74_20, u_74_23, u_74_24, u_74_27, true_or, or_true, zk_li1_s, zk_ll1_s, zk_la1_r, zk_la1_n, zk_lg0, zk_lgs, zk_co_n, zk_co_i, zk_co_r, zk_co_u, zk_co_l, zk_l1_0, zk_l1_1, zk_l1_s, zk_l2_0, zk_l2_1, zk_l2_s, zk_sm0, zk_smi, zk_smr, zk_smn, zk_sml, zk_fi, zk_fz, zk_fo, zk_fn, zk_fa, zk_ts, zk_tn, zk_cases, true_and, and_true, List.getElem?_cons_zero, List.getElem?_cons_succ, List.length_cons, List.length_nil, Nat.reduceAdd, Nat.reduceLT, Nat.reduceLeDiff, List.set_cons_zero, List.set_cons_succ, va_rf, xi_tk hB, xg_tk_0 hB, xg_tk_1 hB, xg_tk_2 hB, xg_tk_3 hB, xg_tk_4 hB, xg_tk_5 hB, xg_tk_6 hB, xp_tk_6 hB, xg_tk_7 hB, xp_tk_7 hB, xg_tk_8 hB, xp_tk_8 hB, xg_tk_9 hB, xp_tk_9 hB, xi_jo hB, xg_jo_0 hB, xg_jo_1 hB, xg_jo_2 hB, xg_jo_3 hB, xp_jo_3 hB, xg_jo_4 hB, xp_jo_4 hB, xg_jo_5 hB, xp_jo_5 hB, xg_jo_6 hB, xp_jo_6 hB, xg_jo_7 hB, xp_jo_7 hB, xg_jo_8 hB, xp_jo_8 hB, xi_rr hB, iz_lit, iz_inj, ja, im, ax]
        all_goals ((repeat' (first | exact trivial | exact ⟨rfl, rfl⟩ | rfl | apply And.intro | intro _)) <;> first | omega | (exfalso; omega) | contradiction | (exfalso; simp_all; done) | trace_state)
      by_cases c3 : m 20 j = 6
      · rw [if_pos c3, if_neg (fun q => q.2 c3)]
        rw [if_neg (by omega)] at hP
        have e : rad s (11 + 6 * j) t = s := by unfold rad; rw [if_neg (by omega)]
        rw [e] at hP x1
        exact CC_x x1 (x2 0 (by omega)) hR rfl rfl hP
      · rw [if_neg c3, if_pos ⟨⟨c1, c2⟩, c3⟩]
        rw [if_pos (by omega)] at hP
        refine CC_x x1 (x2 0 (by omega)) ?_ (by rw [up_k _ _ _ _ (by decide), up_k _ _ _ _ (by decide)]) (by rw [up_k _ _ _ _ (by decide), up_k _ _ _ _ (by decide)]) hP
        have hw0 := w.1
        have np : 0 ≤ s 100 (11 + 6 * j) ∧ s 100 (11 + 6 * j) < 600 := by omega
        have um : ∀ k z, k ≠ 20 → k ≠ 21 → up (up m 21 (6 * j + m 20 j) t) 20 j (m 20 j + 1) k z = m k z := fun k z a b => by rw [up_k _ _ _ _ a, up_k _ _ _ _ b]
        refine REL_rows hR ⟨fun k z a b c d => rad_k _ _ _ _ _ a b c, fun k z q => um k z (by omega) (by omega)⟩ ?_ ?_ ?_ (rad_rg hR.2.2.2.2.2.2 np.1 (by omega))
        · intro z a b
          rw [um 1 0 (by decide) (by decide)] at b
          have h1 := hM.2.2.1
          refine zR_rad (hR.2.2.2.1 z a b) np ⟨by omega, by omega, by omega⟩ ⟨?_, ?_, ?_, um 5 z (by decide) (by decide)⟩
          · unfold ssOf; simp only [um 2 _ (by decide) (by decide), um 3 _ (by decide) (by decide)]
          · unfold osOf; simp only [um 2 _ (by decide) (by decide), um 4 _ (by decide) (by decide)]
          · unfold hsOf; simp only [um 5 _ (by decide) (by decide), um 6 _ (by decide) (by decide)]
        · intro j' a b
          have jr' := (hR.2.2.2.2.1 j' a b).1
          have f1 : nwOf (up (up m 21 (6 * j + m 20 j) t) 20 j (m 20 j + 1)) j' = nwOf m j' := by unfold nwOf; simp only [um 17 _ (by decide) (by decide), um 18 _ (by decide) (by decide)]
          have f2 : nnOf (up (up m 21 (6 * j + m 20 j) t) 20 j (m 20 j + 1)) j' = nnOf m j' := by unfold nnOf; simp only [um 17 _ (by decide) (by decide), um 19 _ (by decide) (by decide)]
          have f4 : xtOf (up (up m 21 (6 * j + m 20 j) t) 20 j (m 20 j + 1)) j' = xtOf m j' := by unfold xtOf; simp only [um 28 _ (by decide) (by decide), um 29 _ (by decide) (by decide)]
          have f5 : efOf (up (up m 21 (6 * j + m 20 j) t) 20 j (m 20 j + 1)) j' = efOf m j' := by unfold efOf; simp only [um 46 _ (by decide) (by decide), um 47 _ (by decide) (by decide)]
          have f6 : egOf (up (up m 21 (6 * j + m 20 j) t) 20 j (m 20 j + 1)) j' = egOf m j' := by unfold egOf; simp only [um 46 _ (by decide) (by decide), um 48 _ (by decide) (by decide)]
          by_cases cj : j' = j
          · subst cj
            obtain ⟨⟨a1, a2, a3, a4, a5, a6⟩, ⟨d1, d2, d3, d4, d5, d6, d7⟩, w1, w2, w3, w4, w5, w6⟩ := jr'
            have l : ∀ q, wI s q → s 100 q ≤ 512 := fun q hq => by have := rlim_r q; have := hq.2.1; have := hq.2.2.2.1; omega
            refine ⟨⟨?_, ?_, ?_, ?_, ?_, ?_⟩, ⟨?_, ?_, ?_, ?_, ?_, ?_, ?_⟩, wI_rad w1 (by omega) np, wI_rad w2 (by omega) np, wI_rad1 w3, wI_rad w4 (by omega) np, wI_rad w5 (by omega) np, wI_rad w6 (by omega) np⟩
            · rw [xr_rad (by omega) np (l _ w1), a1, f1]
            · rw [xr_rad (by omega) np (l _ w2), a2, f2]
            · rw [xr_rad1 hw0 (by omega), a3]
              unfold exOf
              rw [up_e, rl_succ _ b20.1, up_k _ _ _ _ (by decide), up_e]
              congr 1
              refine rl_congr (fun k k1 k2 => ?_)
              rw [up_k _ _ _ _ (by decide), up_z, if_neg (by omega)]
            · rw [xr_rad (by omega) np (l _ w4), a4, f4]
            · rw [xr_rad (by omega) np (l _ w5), a5, f5]
            · rw [xr_rad (by omega) np (l _ w6), a6, f6]
            · rw [rad_k _ _ _ _ _ (by decide) (by decide) (by decide), um 11 _ (by decide) (by decide), d1]
            · rw [rad_k _ _ _ _ _ (by decide) (by decide) (by decide), um 12 _ (by decide) (by decide), d2]
            · rw [rad_k _ _ _ _ _ (by decide) (by decide) (by decide), um 13 _ (by decide) (by decide), d3]
            · rw [rad_k _ _ _ _ _ (by decide) (by decide) (by decide), um 14 _ (by decide) (by decide), d4]
            · rw [rad_k _ _ _ _ _ (by decide) (by decide) (by decide), um 15 _ (by decide) (by decide), d5]
            · rw [rad_k _ _ _ _ _ (by decide) (by decide) (by decide), um 16 _ (by decide) (by decide), d6]
            · rw [rad_k _ _ _ _ _ (by decide) (by decide) (by decide), um 22 _ (by decide) (by decide), d7]
          · have jb := (mc_j hM (j := j') ⟨a, b⟩).2.2.2.2.2.2.2.2.1
            have f3 : exOf (up (up m 21 (6 * j + m 20 j) t) 20 j (m 20 j + 1)) j' = exOf m j' := by
              unfold exOf
              rw [up_z, if_neg cj, up_k _ _ _ _ (by decide)]
              refine rl_congr (fun k k1 k2 => ?_)
              rw [up_k _ _ _ _ (by decide), up_z, if_neg (by omega)]
            exact jR_rad jr' np (by omega) ⟨f1, f2, f3, f4, f5, f6⟩ (fun k hk => um k j' (by omega) (by omega))
        · intro p hp
          rw [rad_102 (by omega)]
          exact hR.2.2.2.2.2.1.2.2 p hp
    · rw [if_neg (fun q => c2 q.2), if_neg (fun q => c2 q.1.2)]
      rw [if_neg c2] at im
      refine CC_q hB hR (fun Q => zk_eq ?_ Q)
      simp (disch := first | omega | assumption | (simp; done)) only [u_74_0, u_74_1, u_74_2, u_74_5, u_74_5N, u_74_6, u_74_7, u_74_7N, u_74_10, u_74_11, u_74_14, u_74_17, u_74_18, u_74_20, u_74_23, u_74_24, u_74_27, true_or, or_true, zk_li1_s, zk_ll1_s, zk_la1_r, zk_la1_n, zk_lg0, zk_lgs, zk_co_n, zk_co_i, zk_co_r, zk_co_u, zk_co_l, zk_l1_0, zk_l1_1, zk_l1_s, zk_l2_0, zk_l2_1, zk_l2_s, zk_sm0, zk_smi, zk_smr, zk_smn, zk_sml, zk_fi, zk_fz, zk_fo, zk_fn, zk_fa, zk_ts, zk_tn, zk_cases, true_and, and_true, List.getElem?_cons_zero, List.getElem?_cons_succ, List.length_cons, List.length_nil, Nat.reduceAdd, Nat.reduceLT, Nat.reduceLeDiff, List.set_cons_zero, List.set_cons_succ, va_rf, xi_tk hB, iz_lit, iz_neg, iz_inj, ja, im]
      all_goals ((repeat' (first | exact trivial | exact ⟨rfl, rfl⟩ | rfl | apply And.intro | intro _)) <;> first | omega | (exfalso; omega) | contradiction | (exfalso; simp_all; done) | trace_state)
  · rw [if_neg (fun q => c1 q.1), if_neg (fun q => c1 q.1.1)]
    have ja := c_jobAt0 hB hc j hj c1
    refine CC_q hB hR (fun Q => zk_eq ?_ Q)
    simp (disch := first | omega | assumption | (simp; done)) only [u_74_0, u_74_1, u_74_2, u_74_5, u_74_5N, u_74_6, u_74_7, u_74_7N, u_74_11, u_74_14, u_74_17, u_74_18, u_74_20, u_74_23, u_74_24, u_74_27, true_or, or_true, zk_li1_s, zk_ll1_s, zk_la1_r, zk_la1_n, zk_lg0, zk_lgs, zk_co_n, zk_co_i, zk_co_r, zk_co_u, zk_co_l, zk_l1_0, zk_l1_1, zk_l1_s, zk_l2_0, zk_l2_1, zk_l2_s, zk_sm0, zk_smi, zk_smr, zk_smn, zk_sml, zk_fi, zk_fz, zk_fo, zk_fn, zk_fa, zk_ts, zk_tn, zk_cases, true_and, and_true, List.getElem?_cons_zero, List.getElem?_cons_succ, List.length_cons, List.length_nil, Nat.reduceAdd, Nat.reduceLT, Nat.reduceLeDiff, List.set_cons_zero, List.set_cons_succ, va_rf, xi_tk hB, iz_lit, iz_neg, ja]
    all_goals ((repeat' (first | exact trivial | exact ⟨rfl, rfl⟩ | rfl | apply And.intro | intro _)) <;> first | omega | (exfalso; omega) | contradiction | (exfalso; simp_all; done) | trace_state)
end LONG
