/-! the class's holiday -/
theorem waf_r (hs : List Int) {d : Int} (hd : -90000 ≤ d ∧ d ≤ 90000) : -2147483648 ≤ wafter hs d ∧ wafter hs d ≤ 2147483647 := by
  rcases wafter_r hs d with h | ⟨h1, h2, -⟩ <;> omega
section HOL
variable {G : zk_G} {B : zk_H} {nz nj : Int} {ad : Int → Nat}
theorem addH_loop (hB : hxo G B nz nj ad) {s : mS} {z : Int} (hz : 0 ≤ z ∧ z < nz) (w1 : wI s (3 * z)) (w2 : wI s (3 * z + 1)) (w3 : wI s (3 * z + 2)) (hh : ∀ x ∈ xr s (3 * z + 2), 0 ≤ x ∧ x ≤ 14609) (hn20 : s 100 (3 * z + 2) ≤ 20) (d : Int) (P : Option Value → zk_H → Prop) (hP : P (some (.int (iz 1))) (hx G B nz nj ad (mvs s z (xr s (3 * z + 2)) (s 100 (3 * z + 2))))) : zk_wp G 47 15 [some (.ref (ad (200 + z))), some (.int (iz d)), some (.int (iz 0))] [] (hx G B nz nj ad s) P := by
  have hn := hB.1
  have w30 := w3.1
  have loop : ∀ (q : Nat) (k : Int), 0 ≤ k → k + q = s 100 (3 * z + 2) → zk_wp G 47 15 [some (.ref (ad (200 + z))), some (.int (iz d)), some (.int (iz k))] [] (hx G B nz nj ad (mvs s z (xr s (3 * z + 2)) k)) P := by
    intro q
    have v100 : ∀ k y, mvs s z (xr s (3 * z + 2)) k 100 y = s 100 y := fun k y => mvs_k _ _ _ _ _ _ (by decide)
    have v101 : ∀ k y, mvs s z (xr s (3 * z + 2)) k 101 y = s 101 y := fun k y => mvs_k _ _ _ _ _ _ (by decide)
    have v102 : ∀ k y, mvs s z (xr s (3 * z + 2)) k 102 y = s 102 y := fun k y => mvs_k _ _ _ _ _ _ (by decide)
    induction q with
    | zero =>
      intro k k0 kq
      have e : k = s 100 (3 * z + 2) := by omega
      subst e
      rw [u_47_15]
      simp (disch := first | omega | assumption | (simp; done)) only [u_47_0, u_47_1, u_47_4, u_47_5, u_47_8, u_47_11, u_47_12, u_47_13, u_47_14, u_47_16, u_47_17, u_47_20, u_47_23, u_47_27, u_47_29, u_47_32, u_47_33, u_47_36, u_47_37, u_47_38, u_47_39, u_47_42, u_47_43, u_47_46, u_47_49, u_47_50, u_47_53, u_47_56, u_47_57, true_or, or_true, zk_li1_s, zk_ll1_s, zk_la1_r, zk_la1_n, zk_lg0, zk_lgs, zk_co_n, zk_co_i, zk_co_r, zk_co_u, zk_co_l, zk_l1_0, zk_l1_1, zk_l1_s, zk_l2_0, zk_l2_1, zk_l2_s, zk_sm0, zk_smi, zk_smr, zk_smn, zk_sml, zk_fi, zk_fz, zk_fo, zk_fn, zk_fa, zk_ts, zk_tn, zk_cases, true_and, and_true, List.getElem?_cons_zero, List.getElem?_cons_succ, List.length_cons, List.length_nil, Nat.reduceAdd, Nat.reduceLT, Nat.reduceLeDiff, List.set_cons_zero, List.set_cons_succ, va_rf, xi_zo hB, xg_zo_0 hB, xg_zo_1 hB, xg_zo_2 hB, xg_zo_3 hB, xi_ro hB, xg_ro_0 hB, xg_ro_1 hB, xg_ro_2 hB, xp_ro_2 hB, iz_lit, iz_le, v100]
      (repeat' (first | exact hP | apply And.intro | intro _)) <;> first | omega | (exfalso; omega) | contradiction | exact absurd trivial (by assumption) | (exfalso; simp_all; done)
    | succ q ih =>
      intro k k0 kq
      have w1' := (wI_of (p := 3 * z) (v100 k) (v101 k) (v102 k)).mpr w1
      have w2' := (wI_of (p := 3 * z + 1) (v100 k) (v101 k) (v102 k)).mpr w2
      have w3' := (wI_of (p := 3 * z + 2) (v100 k) (v101 k) (v102 k)).mpr w3
      have zn := x_znq hB hz w1' w2' w3'
      have xe : xr (mvs s z (xr s (3 * z + 2)) k) (3 * z + 2) = xr s (3 * z + 2) := xr_of (v100 k) (v101 k)
      rw [xe] at zn
      have icz := znp_ic zn
      have at1 := c_rowAt hB (p := 3 * z + 2) (by omega) w3' k (by omega)
      rw [xe] at at1
      have gm : gz (xr s (3 * z + 2)) k ∈ xr s (3 * z + 2) := gz_mem_iff.mpr ⟨k.toNat, by have := xr_len w3; omega, by rw [show ((k.toNat : Nat) : Int) = k by omega]⟩
      have gr := hh _ gm
      have wa := c_wafter zn hh (gz (xr s (3 * z + 2)) k) (by omega)
      have wm := xw_mt hB (mvs s z (xr s (3 * z + 2)) k) z hz k (by omega) (wafter (xr s (3 * z + 2)) (gz (xr s (3 * z + 2)) k))
      rw [mvs_s s z _ k k0] at wm
      have nx := ih (k + 1) (by omega) (by omega)
      rw [u_47_15]
      simp (disch := first | omega | assumption | (simp; done)) only [u_47_0, u_47_1, u_47_4, u_47_5, u_47_8, u_47_11, u_47_12, u_47_13, u_47_14, u_47_16, u_47_17, u_47_20, u_47_23, u_47_26, u_47_27, u_47_29, u_47_32, u_47_33, u_47_36, u_47_37, u_47_38, u_47_39, u_47_42, u_47_43, u_47_46, u_47_49, u_47_50, u_47_53, u_47_57, true_or, or_true, zk_li1_s, zk_ll1_s, zk_la1_r, zk_la1_n, zk_lg0, zk_lgs, zk_co_n, zk_co_i, zk_co_r, zk_co_u, zk_co_l, zk_l1_0, zk_l1_1, zk_l1_s, zk_l2_0, zk_l2_1, zk_l2_s, zk_sm0, zk_smi, zk_smr, zk_smn, zk_sml, zk_fi, zk_fz, zk_fo, zk_fn, zk_fa, zk_ts, zk_tn, zk_cases, true_and, and_true, List.getElem?_cons_zero, List.getElem?_cons_succ, List.length_cons, List.length_nil, Nat.reduceAdd, Nat.reduceLT, Nat.reduceLeDiff, List.set_cons_zero, List.set_cons_succ, va_rf, xi_zo hB, xg_zo_0 hB, xg_zo_1 hB, xg_zo_2 hB, xg_zo_3 hB, xi_ro hB, xg_ro_0 hB, xg_ro_1 hB, xg_ro_2 hB, xp_ro_2 hB, icz, iz_lit, iz_le, iz_add, v100, at1, wa, wm]
      (repeat' (first | exact nx | apply And.intro | intro _)) <;> first | omega | (exfalso; omega) | contradiction | exact absurd trivial (by assumption) | (exfalso; simp_all; done)
  have l0 := loop (s 100 (3 * z + 2)).toNat 0 (by omega) (by omega)
  have e0 : mvs s z (xr s (3 * z + 2)) 0 = s := by funext c y; unfold mvs; rw [if_neg (by omega)]
  rw [e0] at l0
  exact l0
end HOL
section HOL2
variable {G : zk_G} {B : zk_H} {ad : Int → Nat} {s m : mS}
theorem k_holiday (hB : hxo G B (m 1 0) (m 10 0) ad) (hR : REL s m) (hM : MC m) (z d : Int) (hz : -2147483648 ≤ z ∧ z ≤ 2147483647) (hd : -2147483648 ≤ d ∧ d ≤ 2147483647) : CC G B ad s m 65 [some (.int (iz z)), some (.int (iz d)), none] (v_hol m z d) (f_hol m z d) := by
  have hc := rel_cI hR hM
  have h1 := hM.2.2.1
  unfold v_hol f_hol
  by_cases c1 : 0 ≤ z ∧ z < m 1 0
  · have za := c_zoneAt hB hc z c1
    have zn := rel_zn hB hR z c1
    have icz := znp_ic zn
    have zi := mc_z hM c1
    have hh := zi.2.2.2.2.2
    have b5 := zi.2.2.1
    by_cases c2 : 0 ≤ d ∧ d ≤ 14609
    · rw [if_pos ⟨c1, c2⟩]
      have ih := c_isHol zn hh d hd
      by_cases c3 : d ∈ hsOf m z
      · rw [if_pos c3, if_neg (fun q => q.2.1 c3)]
        rw [if_pos c3] at ih
        refine CC_q hB hR (fun Q => zk_eq ?_ Q)
        simp (disch := first | omega | assumption | (simp; done)) only [u_65_0, u_65_1, u_65_2, u_65_5, u_65_5N, u_65_6, u_65_7, u_65_7N, u_65_10, u_65_11, u_65_14, u_65_15, u_65_18, u_65_22, u_65_23, u_65_24, u_65_25, u_65_28, u_65_31, u_65_32, u_65_34, u_65_35, u_65_38, u_65_41, u_65_42, u_65_45, u_65_47, true_or, or_true, zk_li1_s, zk_ll1_s, zk_la1_r, zk_la1_n, zk_lg0, zk_lgs, zk_co_n, zk_co_i, zk_co_r, zk_co_u, zk_co_l, zk_l1_0, zk_l1_1, zk_l1_s, zk_l2_0, zk_l2_1, zk_l2_s, zk_sm0, zk_smi, zk_smr, zk_smn, zk_sml, zk_fi, zk_fz, zk_fo, zk_fn, zk_fa, zk_ts, zk_tn, zk_cases, true_and, and_true, List.getElem?_cons_zero, List.getElem?_cons_succ, List.length_cons, List.length_nil, Nat.reduceAdd, Nat.reduceLT, Nat.reduceLeDiff, List.set_cons_zero, List.set_cons_succ, va_rf, xi_tk hB, iz_lit, iz_neg, iz_inj, iz_lt, iz_le, za, icz, ih]
        all_goals ((repeat' (first | exact trivial | exact ⟨rfl, rfl⟩ | rfl | apply And.intro | intro _)) <;> first | omega | (exfalso; omega) | contradiction | (exfalso; simp_all; done) | trace_state)
      · rw [if_neg c3]
        rw [if_neg c3] at ih
        obtain ⟨⟨r1, r2, r3⟩, r4, w1, w2, w3⟩ := hR.2.2.2.1 z c1.1 c1.2
        obtain ⟨q1, q2, q3⟩ := rlim_z (z := z) (by omega)
        have l3 : s 100 (3 * z + 2) = m 5 z := by have h := xr_len w3; rw [r3] at h; rw [← h]; exact rl_len _ (by omega)
        obtain ⟨B1, ad1, x1, x2, x3⟩ := c_add hB hc (p := 3 * z + 2) (by omega) w3 (by omega) d
        have hB1 := x1.1
        rw [l3, q3] at x3
        by_cases c4 : m 5 z = 20
        · rw [if_pos c4, if_neg (fun q => q.2.2 c4)]
          rw [if_neg (by omega)] at x3
          have ra : rad s (3 * z + 2) d = s := by unfold rad; rw [if_neg (by omega)]
          rw [ra] at x3 x1
          have aH : ∀ Q, zk_wp G 47 0 [some (.ref (ad (200 + z))), some (.int (iz d)), none] [] (hx G B (m 1 0) (m 10 0) ad s) Q ↔ Q (some (.int (iz 0))) (hx G B1 (m 1 0) (m 10 0) ad1 s) := by
            intro Q
            refine zk_eq ?_ Q
            clear x1
            simp (disch := first | omega | assumption | (simp; done)) only [u_47_0, u_47_1, u_47_4, u_47_5, u_47_8, u_47_11, u_47_12, u_47_14, u_47_15, u_47_16, u_47_17, u_47_20, u_47_23, u_47_26, u_47_27, u_47_29, u_47_32, u_47_33, u_47_36, u_47_37, u_47_38, u_47_39, u_47_42, u_47_43, u_47_46, u_47_49, u_47_50, u_47_53, u_47_56, u_47_57, true_or, or_true, zk_li1_s, zk_ll1_s, zk_la1_r, zk_la1_n, zk_lg0, zk_lgs, zk_co_n, zk_co_i, zk_co_r, zk_co_u, zk_co_l, zk_l1_0, zk_l1_1, zk_l1_s, zk_l2_0, zk_l2_1, zk_l2_s, zk_sm0, zk_smi, zk_smr, zk_smn, zk_sml, zk_fi, zk_fz, zk_fo, zk_fn, zk_fa, zk_ts, zk_tn, zk_cases, true_and, and_true, List.getElem?_cons_zero, List.getElem?_cons_succ, List.length_cons, List.length_nil, Nat.reduceAdd, Nat.reduceLT, Nat.reduceLeDiff, List.set_cons_zero, List.set_cons_succ, va_rf, xi_zo hB, xg_zo_0 hB, xg_zo_1 hB, xg_zo_2 hB, xg_zo_3 hB, xi_ro hB, iz_lit, iz_inj, x3]
            all_goals ((repeat' (first | exact trivial | exact ⟨rfl, rfl⟩ | rfl | apply And.intro | intro _)) <;> first | omega | (exfalso; omega) | contradiction | (exfalso; simp_all; done) | trace_state)
          refine CC_x x1 (x2 0 (by omega)) hR rfl rfl (fun Q => zk_eq ?_ Q)
          clear x1
          simp (disch := first | omega | assumption | (simp; done)) only [u_65_0, u_65_1, u_65_2, u_65_5, u_65_5N, u_65_6, u_65_7, u_65_7N, u_65_10, u_65_11, u_65_14, u_65_15, u_65_18, u_65_22, u_65_23, u_65_24, u_65_25, u_65_28, u_65_32, u_65_33, u_65_34, u_65_35, u_65_38, u_65_42, u_65_45, u_65_47, true_or, or_true, zk_li1_s, zk_ll1_s, zk_la1_r, zk_la1_n, zk_lg0, zk_lgs, zk_co_n, zk_co_i, zk_co_r, zk_co_u, zk_co_l, zk_l1_0, zk_l1_1, zk_l1_s, zk_l2_0, zk_l2_1, zk_l2_s, zk_sm0, zk_smi, zk_smr, zk_smn, zk_sml, zk_fi, zk_fz, zk_fo, zk_fn, zk_fa, zk_ts, zk_tn, zk_cases, true_and, and_true, List.getElem?_cons_zero, List.getElem?_cons_succ, List.length_cons, List.length_nil, Nat.reduceAdd, Nat.reduceLT, Nat.reduceLeDiff, List.set_cons_zero, List.set_cons_succ, va_rf, xi_tk hB, iz_lit, iz_neg, iz_inj, iz_lt, iz_le, za, icz, ih, aH]
          all_goals ((repeat' (first | exact trivial | exact ⟨rfl, rfl⟩ | rfl | apply And.intro | intro _)) <;> first | omega | (exfalso; omega) | contradiction | (exfalso; simp_all; done) | trace_state)
        · rw [if_neg c4, if_pos ⟨⟨c1, c2⟩, c3, c4⟩]
          rw [if_pos (by omega)] at x3
          have np : 0 ≤ s 100 (3 * z + 2) ∧ s 100 (3 * z + 2) < 600 := by omega
          have lim : s 100 (3 * z + 2) < rlim (3 * z + 2) := by omega
          have xe : xr (rad s (3 * z + 2) d) (3 * z + 2) = hsOf m z ++ [d] := by rw [xr_rad1 np.1 lim, r3]
          have le1 : rad s (3 * z + 2) d 100 (3 * z + 2) = m 5 z + 1 := by unfold rad; rw [if_pos lim, up_e, l3]
          have hh2 : ∀ x ∈ hsOf m z ++ [d], 0 ≤ x ∧ x ≤ 14609 := by
            intro x hx
            rw [List.mem_append, List.mem_singleton] at hx
            rcases hx with q | q
            · exact hh x q
            · omega
          have v1 := wI_rad (v := d) w1 (show 3 * z ≠ 3 * z + 2 by omega) np
          have v2 := wI_rad (v := d) w2 (show 3 * z + 1 ≠ 3 * z + 2 by omega) np
          have v3 := wI_rad1 (v := d) w3
          have lp := fun P hP => addH_loop (s := rad s (3 * z + 2) d) hB1 c1 v1 v2 v3 (by rw [xe]; exact hh2) (by rw [le1]; omega) d P hP
          rw [xe, le1, x2 (200 + z) (by omega)] at lp
          have aH : ∀ Q, zk_wp G 47 0 [some (.ref (ad (200 + z))), some (.int (iz d)), none] [] (hx G B (m 1 0) (m 10 0) ad s) Q ↔ Q (some (.int (iz 1))) (hx G B1 (m 1 0) (m 10 0) ad1 (mvs (rad s (3 * z + 2) d) z (hsOf m z ++ [d]) (m 5 z + 1))) := by
            intro Q
            refine zk_eq ?_ Q
            clear x1
            have l1 := lp (fun (r : Option Value) (h' : zk_H) => r = some (.int (iz 1)) ∧ h' = hx G B1 (m 1 0) (m 10 0) ad1 (mvs (rad s (3 * z + 2) d) z (hsOf m z ++ [d]) (m 5 z + 1))) ⟨rfl, rfl⟩
            simp (disch := first | omega | assumption | (simp; done)) only [u_47_0, u_47_1, u_47_4, u_47_5, u_47_8, u_47_11, u_47_12, u_47_13, u_47_14, u_47_16, u_47_17, u_47_20, u_47_23, u_47_26, u_47_27, u_47_29, u_47_32, u_47_33, u_47_36, u_47_37, u_47_38, u_47_39, u_47_42, u_47_43, u_47_46, u_47_49, u_47_50, u_47_53, u_47_56, u_47_57, true_or, or_true, zk_li1_s, zk_ll1_s, zk_la1_r, zk_la1_n, zk_lg0, zk_lgs, zk_co_n, zk_co_i, zk_co_r, zk_co_u, zk_co_l, zk_l1_0, zk_l1_1, zk_l1_s, zk_l2_0, zk_l2_1, zk_l2_s, zk_sm0, zk_smi, zk_smr, zk_smn, zk_sml, zk_fi, zk_fz, zk_fo, zk_fn, zk_fa, zk_ts, zk_tn, zk_cases, true_and, and_true, List.getElem?_cons_zero, List.getElem?_cons_succ, List.length_cons, List.length_nil, Nat.reduceAdd, Nat.reduceLT, Nat.reduceLeDiff, List.set_cons_zero, List.set_cons_succ, va_rf, xi_zo hB, xg_zo_0 hB, xg_zo_1 hB, xg_zo_2 hB, xg_zo_3 hB, xi_ro hB, iz_lit, iz_inj, x3]
            (repeat' (first | exact l1 | apply And.intro | intro _)) <;> first | omega | (exfalso; omega) | contradiction | exact absurd trivial (by assumption) | (exfalso; simp_all; done)
          have um : ∀ k y, k ≠ 5 → k ≠ 6 → up (up m 6 (20 * z + m 5 z) d) 5 z (m 5 z + 1) k y = m k y := fun k y a b => by rw [up_k _ _ _ _ a, up_k _ _ _ _ b]
          refine CC_x (by rw [show cs (mvs (rad s (3 * z + 2) d) z (hsOf m z ++ [d]) (m 5 z + 1)) = cs (rad s (3 * z + 2) d) from cs_of (fun y => mvs_k _ _ _ _ _ _ (by decide))]; exact x1) (x2 0 (by omega)) ?_ (um 1 0 (by decide) (by decide)) (um 10 0 (by decide) (by decide)) (fun Q => zk_eq ?_ Q)
          · have mk : ∀ k y, k ≠ 60 → mvs (rad s (3 * z + 2) d) z (hsOf m z ++ [d]) (m 5 z + 1) k y = rad s (3 * z + 2) d k y := fun k y h => mvs_k _ _ _ _ _ _ h
            have f1 : ∀ z', ssOf (up (up m 6 (20 * z + m 5 z) d) 5 z (m 5 z + 1)) z' = ssOf m z' := fun z' => by unfold ssOf; simp only [um 2 _ (by decide) (by decide), um 3 _ (by decide) (by decide)]
            have f2 : ∀ z', osOf (up (up m 6 (20 * z + m 5 z) d) 5 z (m 5 z + 1)) z' = osOf m z' := fun z' => by unfold osOf; simp only [um 2 _ (by decide) (by decide), um 4 _ (by decide) (by decide)]
            refine REL_rows hR ⟨fun k y a b c e => by rw [mk k y e, rad_k _ _ _ _ _ a b c], fun k y q => um k y (by omega) (by omega)⟩ ?_ ?_ ?_ ?_
            · intro z' a b
              rw [um 1 0 (by decide) (by decide)] at b
              have zi' := mc_z hM (z := z') ⟨a, b⟩
              have b5' := zi'.2.2.1
              have zr' := hR.2.2.2.1 z' a b
              by_cases cz : z' = z
              · subst cz
                have f3 : hsOf (up (up m 6 (20 * z' + m 5 z') d) 5 z' (m 5 z' + 1)) z' = hsOf m z' ++ [d] := by
                  unfold hsOf
                  rw [up_e, rl_succ _ (by omega), up_k _ _ _ _ (by decide), up_e]
                  congr 1
                  refine rl_congr (fun k k1 k2 => ?_)
                  rw [up_k _ _ _ _ (by decide), up_z, if_neg (by omega)]
                have g1 : ∀ y, mvs (rad s (3 * z' + 2) d) z' (hsOf m z' ++ [d]) (m 5 z' + 1) 100 y = rad s (3 * z' + 2) d 100 y := fun y => mk 100 y (by decide)
                have g2 : ∀ y, mvs (rad s (3 * z' + 2) d) z' (hsOf m z' ++ [d]) (m 5 z' + 1) 101 y = rad s (3 * z' + 2) d 101 y := fun y => mk 101 y (by decide)
                have g3 : ∀ y, mvs (rad s (3 * z' + 2) d) z' (hsOf m z' ++ [d]) (m 5 z' + 1) 102 y = rad s (3 * z' + 2) d 102 y := fun y => mk 102 y (by decide)
                refine ⟨⟨?_, ?_, ?_⟩, ?_, (wI_of g1 g2 g3).mpr v1, (wI_of g1 g2 g3).mpr v2, (wI_of g1 g2 g3).mpr v3⟩
                · rw [xr_of g1 g2, xr_rad (by omega) np (wI_512 w1).2, r1, f1]
                · rw [xr_of g1 g2, xr_rad (by omega) np (wI_512 w2).2, r2, f2]
                · rw [xr_of g1 g2, xe, f3]
                · intro k k1 k2
                  rw [up_e] at k2
                  rw [f3]
                  unfold mvs
                  rw [if_pos ⟨rfl, by omega, by omega⟩, show 20 * z' + k - 20 * z' = k by omega]
              · have f3 : hsOf (up (up m 6 (20 * z + m 5 z) d) 5 z (m 5 z + 1)) z' = hsOf m z' := by
                  unfold hsOf
                  rw [up_z, if_neg cz, up_k _ _ _ _ (by decide)]
                  refine rl_congr (fun k k1 k2 => ?_)
                  rw [up_k _ _ _ _ (by decide), up_z, if_neg (by omega)]
                have s1 : zR (rad s (3 * z + 2) d) (up (up m 6 (20 * z + m 5 z) d) 5 z (m 5 z + 1)) z' := zR_rad zr' np ⟨by omega, by omega, by omega⟩ ⟨f1 z', f2 z', f3, by rw [up_z, if_neg cz, up_k _ _ _ _ (by decide)]⟩
                obtain ⟨⟨p1, p2, p3⟩, p4, p5, p6, p7⟩ := s1
                have g1 : ∀ y, mvs (rad s (3 * z + 2) d) z (hsOf m z ++ [d]) (m 5 z + 1) 100 y = rad s (3 * z + 2) d 100 y := fun y => mk 100 y (by decide)
                have g2 : ∀ y, mvs (rad s (3 * z + 2) d) z (hsOf m z ++ [d]) (m 5 z + 1) 101 y = rad s (3 * z + 2) d 101 y := fun y => mk 101 y (by decide)
                have g3 : ∀ y, mvs (rad s (3 * z + 2) d) z (hsOf m z ++ [d]) (m 5 z + 1) 102 y = rad s (3 * z + 2) d 102 y := fun y => mk 102 y (by decide)
                refine ⟨⟨?_, ?_, ?_⟩, ?_, (wI_of g1 g2 g3).mpr p5, (wI_of g1 g2 g3).mpr p6, (wI_of g1 g2 g3).mpr p7⟩
                · rw [xr_of g1 g2, p1]
                · rw [xr_of g1 g2, p2]
                · rw [xr_of g1 g2, p3]
                · intro k k1 k2
                  have k3 := k2
                  rw [up_z, if_neg cz, up_k _ _ _ _ (by decide)] at k3
                  rw [← p4 k k1 k2]
                  unfold mvs
                  rw [if_neg (by omega)]
            · intro j a b
              have jr := (hR.2.2.2.2.1 j a b).1
              have s1 : jR (rad s (3 * z + 2) d) m j := jR_rad jr np (by omega) ⟨rfl, rfl, rfl, rfl, rfl, rfl⟩ (fun k hk => rfl)
              refine jR_of s1 (fun y => mk 100 y (by decide)) (fun y => mk 101 y (by decide)) (fun y => mk 102 y (by decide)) (fun k y q => um k y (by omega) (by omega)) (fun k q => ?_)
              rw [mk k j (by omega), rad_k _ _ _ _ _ (by omega) (by omega) (by omega), um k j (by omega) (by omega)]
              refine hR.1 k j ?_
              have : k = 11 ∨ k = 12 ∨ k = 13 ∨ k = 14 ∨ k = 15 ∨ k = 16 ∨ k = 22 := by omega
              rcases this with rfl | rfl | rfl | rfl | rfl | rfl | rfl <;> rfl
            · intro p hp
              rw [mk 102 p (by decide), rad_102 (by omega)]
              exact hR.2.2.2.2.2.1.2.2 p hp
            · have rr := rad_rg hR.2.2.2.2.2.2 np.1 hd
              intro k y a b
              unfold mvs
              split
              · rename_i q
                refine waf_r _ ?_
                have hlen : ((hsOf m z ++ [d]).length : Int) = m 5 z + 1 := by
                  rw [List.length_append]
                  have : ((hsOf m z).length : Int) = m 5 z := rl_len _ (by omega)
                  simp
                  omega
                have gm : gz (hsOf m z ++ [d]) (y - 20 * z) ∈ hsOf m z ++ [d] := gz_mem_iff.mpr ⟨(y - 20 * z).toNat, by omega, by rw [show (((y - 20 * z).toNat : Nat) : Int) = y - 20 * z by omega]⟩
                have := hh2 _ gm
                omega
              · exact rr k y a b
          · clear x1
            simp (disch := first | omega | assumption | (simp; done)) only [u_65_0, u_65_1, u_65_2, u_65_5, u_65_5N, u_65_6, u_65_7, u_65_7N, u_65_10, u_65_11, u_65_14, u_65_15, u_65_18, u_65_22, u_65_23, u_65_24, u_65_25, u_65_28, u_65_32, u_65_33, u_65_34, u_65_35, u_65_38, u_65_41, u_65_42, u_65_47, true_or, or_true, zk_li1_s, zk_ll1_s, zk_la1_r, zk_la1_n, zk_lg0, zk_lgs, zk_co_n, zk_co_i, zk_co_r, zk_co_u, zk_co_l, zk_l1_0, zk_l1_1, zk_l1_s, zk_l2_0, zk_l2_1, zk_l2_s, zk_sm0, zk_smi, zk_smr, zk_smn, zk_sml, zk_fi, zk_fz, zk_fo, zk_fn, zk_fa, zk_ts, zk_tn, zk_cases, true_and, and_true, List.getElem?_cons_zero, List.getElem?_cons_succ, List.length_cons, List.length_nil, Nat.reduceAdd, Nat.reduceLT, Nat.reduceLeDiff, List.set_cons_zero, List.set_cons_succ, va_rf, xi_tk hB, iz_lit, iz_neg, iz_inj, iz_lt, iz_le, za, icz, ih, aH]
            all_goals ((repeat' (first | exact trivial | exact ⟨rfl, rfl⟩ | rfl | apply And.intro | intro _)) <;> first | omega | (exfalso; omega) | contradiction | (exfalso; simp_all; done) | trace_state)
    · rw [if_neg (fun q => c2 q.2), if_neg (fun q => c2 q.1.2)]
      refine CC_q hB hR (fun Q => zk_eq ?_ Q)
      simp (disch := first | omega | assumption | (simp; done)) only [u_65_0, u_65_1, u_65_2, u_65_5, u_65_5N, u_65_6, u_65_7, u_65_7N, u_65_10, u_65_11, u_65_14, u_65_15, u_65_18, u_65_21, u_65_22, u_65_24, u_65_25, u_65_28, u_65_31, u_65_32, u_65_33, u_65_34, u_65_35, u_65_38, u_65_41, u_65_42, u_65_45, u_65_47, true_or, or_true, zk_li1_s, zk_ll1_s, zk_la1_r, zk_la1_n, zk_lg0, zk_lgs, zk_co_n, zk_co_i, zk_co_r, zk_co_u, zk_co_l, zk_l1_0, zk_l1_1, zk_l1_s, zk_l2_0, zk_l2_1, zk_l2_s, zk_sm0, zk_smi, zk_smr, zk_smn, zk_sml, zk_fi, zk_fz, zk_fo, zk_fn, zk_fa, zk_ts, zk_tn, zk_cases, true_and, and_true, List.getElem?_cons_zero, List.getElem?_cons_succ, List.length_cons, List.length_nil, Nat.reduceAdd, Nat.reduceLT, Nat.reduceLeDiff, List.set_cons_zero, List.set_cons_succ, va_rf, xi_tk hB, iz_lit, iz_neg, iz_lt, iz_le, za]
      all_goals ((repeat' (first | exact trivial | exact ⟨rfl, rfl⟩ | rfl | apply And.intro | intro _)) <;> first | omega | (exfalso; omega) | contradiction | (exfalso; simp_all; done) | trace_state)
  · rw [if_neg (fun q => c1 q.1), if_neg (fun q => c1 q.1.1)]
    have za := c_zoneAt0 hB hc z hz c1
    refine CC_q hB hR (fun Q => zk_eq ?_ Q)
    simp (disch := first | omega | assumption | (simp; done)) only [u_65_0, u_65_1, u_65_2, u_65_5, u_65_5N, u_65_6, u_65_7, u_65_7N, u_65_11, u_65_14, u_65_15, u_65_18, u_65_21, u_65_22, u_65_24, u_65_25, u_65_28, u_65_31, u_65_32, u_65_33, u_65_34, u_65_35, u_65_38, u_65_41, u_65_42, u_65_45, u_65_47, true_or, or_true, zk_li1_s, zk_ll1_s, zk_la1_r, zk_la1_n, zk_lg0, zk_lgs, zk_co_n, zk_co_i, zk_co_r, zk_co_u, zk_co_l, zk_l1_0, zk_l1_1, zk_l1_s, zk_l2_0, zk_l2_1, zk_l2_s, zk_sm0, zk_smi, zk_smr, zk_smn, zk_sml, zk_fi, zk_fz, zk_fo, zk_fn, zk_fa, zk_ts, zk_tn, zk_cases, true_and, and_true, List.getElem?_cons_zero, List.getElem?_cons_succ, List.length_cons, List.length_nil, Nat.reduceAdd, Nat.reduceLT, Nat.reduceLeDiff, List.set_cons_zero, List.set_cons_succ, va_rf, xi_tk hB, iz_lit, iz_neg, za]
    all_goals ((repeat' (first | exact trivial | exact ⟨rfl, rfl⟩ | rfl | apply And.intro | intro _)) <;> first | omega | (exfalso; omega) | contradiction | (exfalso; simp_all; done) | trace_state)
end HOL2
