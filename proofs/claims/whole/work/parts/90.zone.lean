/-! the class's shift and holiday -/
section ZON
variable {G : zk_G} {B : zk_H} {nz nj : Int} {ad : Int → Nat}
theorem x_znq (hB : hxo G B nz nj ad) {s : mS} {z : Int} (hz : 0 ≤ z ∧ z < nz) (w1 : wI s (3 * z)) (w2 : wI s (3 * z + 1)) (w3 : wI s (3 * z + 2)) : znp G (hx G B nz nj ad s) (ad (200 + z)) (xr s (3 * z)) (xr s (3 * z + 1)) (xr s (3 * z + 2)) (fun x : Nat => if x < 20 then iz (s 60 (20 * z + x)) else iz 0) := by
  have hn := hB.1
  obtain ⟨l1, l2, l3⟩ := rlim_z (z := z) (by omega)
  have t1 := x_rwz hB (p := 3 * z) (by omega) w1
  have t2 := x_rwz hB (p := 3 * z + 1) (by omega) w2
  have t3 := x_rwz hB (p := 3 * z + 2) (by omega) w3
  rw [l1] at t1
  rw [l2] at t2
  rw [l3] at t3
  exact ⟨_, _, _, _, _, _, _, _, _, _, x_zo hB s z hz, t1, t2, t3, xr_mt hB s z hz⟩
theorem xw_mt (hB : hxo G B nz nj ad) (s : mS) (z : Int) (hz : 0 ≤ z ∧ z < nz) (k : Int) (hk : 0 ≤ k ∧ k < 20) (v : Int) (P : zk_H → Prop) : zk_si G (hx G B nz nj ad s) (ad (210 + z)) (iz k) (iz v) P ↔ P (hx G B nz nj ad (up s 60 (20 * z + k) v)) := by
  have hn := hB.1
  have hr : Ux nz nj (210 + z) := (Ux_iff _ _ _).mpr (by omega)
  have h1 := xr_mt hB s z hz
  have hown : own 60 (20 * z + k) = 210 + z := by simp [own]; omega
  have e : (Sum.inl (0, 20, Sum.inl (upd (fun x : Nat => if x < 20 then iz (s 60 (20 * z + x)) else iz 0) k.toNat (iz v))) : zk_E) = ccl ad (up s 60 (20 * z + k) v) (210 + z) := by
    unfold ccl
    rw [if_pos (aro_t (by omega))]
    unfold cca
    rw [if_neg (by omega), if_neg (by omega), if_neg (by omega), if_neg (by omega), if_neg (by omega), if_neg (by omega), if_pos (by omega), show 210 + z - 210 = z by omega]
    congr 4
    funext x
    rw [upd_ap, up_z]
    by_cases c : x = k.toNat
    · rw [if_pos c, if_pos (by omega), if_pos (by omega)]
    · rw [if_neg c]
      by_cases c2 : x < 20
      · rw [if_pos c2, if_pos c2, if_neg (by omega)]
      · rw [if_neg c2, if_neg c2]
  rw [zk_si_f h1, iz_toInt (by omega) (by omega), e, hx_wr hB s _ hr (fun q q1 q2 => ccl_up (Ux_mono hB.1 q1) (fun w => q2 (by rw [← w, hown])))]
  exact ⟨fun q => q.2, fun q => ⟨hk, q⟩⟩
theorem c_latShift (hB : hxo G B nz nj ad) {s : mS} {z : Int} (hz : 0 ≤ z ∧ z < nz) (w1 : wI s (3 * z)) (h1 : 1 ≤ s 100 (3 * z)) (Q : Option Value → zk_H → Prop) : zk_wp G 43 0 [some (.ref (ad (200 + z)))] [] (hx G B nz nj ad s) Q ↔ Q (some (.int (iz (if s 100 (3 * z) = 1 then -1 else gz (xr s (3 * z)) (s 100 (3 * z) - 1))))) (hx G B nz nj ad s) := by
  refine zk_eq ?_ Q
  have hn := hB.1
  have w5 := wI_512 w1
  have at1 := c_rowAt hB (p := 3 * z) (by omega) w1 (s 100 (3 * z) - 1) (by omega)
  have sc : ∀ Q, zk_wp G 44 0 [some (.ref (ad (200 + z)))] [] (hx G B nz nj ad s) Q ↔ Q (some (.int (iz (s 100 (3 * z) - 1)))) (hx G B nz nj ad s) := by
    intro Q
    refine zk_eq ?_ Q
    simp (disch := first | omega | assumption | (simp; done)) only [u_44_0, u_44_1, u_44_4, u_44_7, u_44_8, u_44_9, true_or, or_true, zk_li1_s, zk_ll1_s, zk_la1_r, zk_la1_n, zk_lg0, zk_lgs, zk_co_n, zk_co_i, zk_co_r, zk_co_u, zk_co_l, zk_l1_0, zk_l1_1, zk_l1_s, zk_l2_0, zk_l2_1, zk_l2_s, zk_sm0, zk_smi, zk_smr, zk_smn, zk_sml, zk_fi, zk_fz, zk_fo, zk_fn, zk_fa, zk_ts, zk_tn, zk_cases, true_and, and_true, List.getElem?_cons_zero, List.getElem?_cons_succ, List.length_cons, List.length_nil, Nat.reduceAdd, Nat.reduceLT, Nat.reduceLeDiff, List.set_cons_zero, List.set_cons_succ, va_rf, xi_zo hB, xg_zo_0 hB, xg_zo_1 hB, xg_zo_2 hB, xg_zo_3 hB, xi_ro hB, xg_ro_0 hB, xg_ro_1 hB, xg_ro_2 hB, xp_ro_2 hB, iz_lit, iz_sub]
  by_cases c : s 100 (3 * z) = 1
  · rw [if_pos c]
    simp (disch := first | omega | assumption | (simp; done)) only [u_43_0, u_43_1, u_43_4, u_43_7, u_43_8, u_43_12, u_43_15, u_43_16, u_43_19, u_43_22, u_43_23, u_43_24, u_43_27, true_or, or_true, zk_li1_s, zk_ll1_s, zk_la1_r, zk_la1_n, zk_lg0, zk_lgs, zk_co_n, zk_co_i, zk_co_r, zk_co_u, zk_co_l, zk_l1_0, zk_l1_1, zk_l1_s, zk_l2_0, zk_l2_1, zk_l2_s, zk_sm0, zk_smi, zk_smr, zk_smn, zk_sml, zk_fi, zk_fz, zk_fo, zk_fn, zk_fa, zk_ts, zk_tn, zk_cases, true_and, and_true, List.getElem?_cons_zero, List.getElem?_cons_succ, List.length_cons, List.length_nil, Nat.reduceAdd, Nat.reduceLT, Nat.reduceLeDiff, List.set_cons_zero, List.set_cons_succ, va_rf, xi_zo hB, xg_zo_0 hB, xg_zo_1 hB, xg_zo_2 hB, xg_zo_3 hB, iz_lit, iz_neg, iz_inj, sc]
    all_goals ((repeat' (first | exact trivial | exact ⟨rfl, rfl⟩ | rfl | apply And.intro | intro _)) <;> first | omega | (exfalso; omega) | contradiction | (exfalso; simp_all; done) | trace_state)
  · rw [if_neg c]
    simp (disch := first | omega | assumption | (simp; done)) only [u_43_0, u_43_1, u_43_4, u_43_8, u_43_11, u_43_12, u_43_15, u_43_16, u_43_19, u_43_22, u_43_23, u_43_24, u_43_27, true_or, or_true, zk_li1_s, zk_ll1_s, zk_la1_r, zk_la1_n, zk_lg0, zk_lgs, zk_co_n, zk_co_i, zk_co_r, zk_co_u, zk_co_l, zk_l1_0, zk_l1_1, zk_l1_s, zk_l2_0, zk_l2_1, zk_l2_s, zk_sm0, zk_smi, zk_smr, zk_smn, zk_sml, zk_fi, zk_fz, zk_fo, zk_fn, zk_fa, zk_ts, zk_tn, zk_cases, true_and, and_true, List.getElem?_cons_zero, List.getElem?_cons_succ, List.length_cons, List.length_nil, Nat.reduceAdd, Nat.reduceLT, Nat.reduceLeDiff, List.set_cons_zero, List.set_cons_succ, va_rf, xi_zo hB, xg_zo_0 hB, xg_zo_1 hB, xg_zo_2 hB, xg_zo_3 hB, xi_ro hB, xg_ro_0 hB, xg_ro_1 hB, xg_ro_2 hB, xp_ro_2 hB, iz_lit, iz_neg, iz_inj, iz_sub, sc, at1]
    all_goals ((repeat' (first | exact trivial | exact ⟨rfl, rfl⟩ | rfl | apply And.intro | intro _)) <;> first | omega | (exfalso; omega) | contradiction | (exfalso; simp_all; done) | trace_state)
end ZON
def mvs (s : mS) (z : Int) (hs : List Int) (x : Int) : mS := fun c y => if c = 60 ∧ 20 * z ≤ y ∧ y < 20 * z + x then wafter hs (gz hs (y - 20 * z)) else s c y
theorem mvs_s (s : mS) (z : Int) (hs : List Int) (x : Int) (hx : 0 ≤ x) : up (mvs s z hs x) 60 (20 * z + x) (wafter hs (gz hs x)) = mvs s z hs (x + 1) := by
  funext c y
  unfold mvs up
  dsimp only
  by_cases h1 : c = 60
  · subst h1
    rw [if_pos rfl]
    by_cases h2 : y = 20 * z + x
    · subst h2
      rw [if_pos rfl, if_pos ⟨rfl, by omega, by omega⟩, show 20 * z + x - 20 * z = x by omega]
    · rw [if_neg h2]
      by_cases h3 : 20 * z ≤ y ∧ y < 20 * z + x
      · rw [if_pos ⟨rfl, h3⟩, if_pos ⟨rfl, by omega, by omega⟩]
      · rw [if_neg (fun q => h3 q.2), if_neg (fun q => h3 ⟨q.2.1, by omega⟩)]
  · rw [if_neg h1, if_neg (fun q => h1 q.1), if_neg (fun q => h1 q.1)]
theorem mvs_k (s : mS) (z : Int) (hs : List Int) (x : Int) (c : Nat) (y : Int) (h : c ≠ 60) : mvs s z hs x c y = s c y := by unfold mvs; rw [if_neg (fun q => h q.1)]
section ZON2
variable {G : zk_G} {B : zk_H} {ad : Int → Nat} {s m : mS}
theorem k_shift (hB : hxo G B (m 1 0) (m 10 0) ad) (hR : REL s m) (hM : MC m) (z t o : Int) (hz : -2147483648 ≤ z ∧ z ≤ 2147483647) (ht : -2147483648 ≤ t ∧ t ≤ 2147483647) (ho : -2147483648 ≤ o ∧ o ≤ 2147483647) : (¬ shOk m z t o → CC G B ad s m 62 [some (.int (iz z)), some (.int (iz t)), some (.int (iz o)), none] (-1) m) ∧ (shOk m z t o → (0 < m 2 z ∧ t ≤ m 3 (10 * z + m 2 z - 1)) → CC G B ad s m 62 [some (.int (iz z)), some (.int (iz t)), some (.int (iz o)), none] (-2) m) ∧ (shOk m z t o → ¬ (0 < m 2 z ∧ t ≤ m 3 (10 * z + m 2 z - 1)) → m 2 z = 10 → CC G B ad s m 62 [some (.int (iz z)), some (.int (iz t)), some (.int (iz o)), none] (-3) m) ∧ (shGo m z t o → CC G B ad s m 62 [some (.int (iz z)), some (.int (iz t)), some (.int (iz o)), none] (m 2 z + 1) (up (up (up m 3 (10 * z + m 2 z) t) 4 (10 * z + m 2 z) o) 2 z (m 2 z + 1))) := by
  have hc := rel_cI hR hM
  have im := c_isMin (G := G) (hx G B (m 1 0) (m 10 0) ad s) t ht
  have h1 := hM.2.2.1
  unfold shGo shOk
  by_cases c1 : 0 ≤ z ∧ z < m 1 0
  · have za := c_zoneAt hB hc z c1
    have zi := mc_z hM c1
    have b2 := zi.2.1
    have zr := hR.2.2.2.1 z c1.1 c1.2
    obtain ⟨⟨r1, r2, r3⟩, -, w1, w2, w3⟩ := zr
    have sl := ss_len zi
    have l1 : s 100 (3 * z) = m 2 z + 1 := by have h := xr_len w1; rw [r1] at h; omega
    have l2 : s 100 (3 * z + 1) = m 2 z + 1 := by have h := xr_len w2; rw [r2] at h; rw [← h]; exact rl_len _ (by omega)
    have ls := c_latShift hB c1 w1 (by omega)
    have icz : zk_ic G (hx G B (m 1 0) (m 10 0) ad s) (ad (200 + z)) 7 ↔ True := xi_zo hB s z c1
    have lv : (if s 100 (3 * z) = 1 then (-1 : Int) else gz (xr s (3 * z)) (s 100 (3 * z) - 1)) = if m 2 z = 0 then -1 else m 3 (10 * z + m 2 z - 1) := by
      rw [l1, r1]
      by_cases c0 : m 2 z = 0
      · rw [if_pos (by omega), if_pos c0]
      · rw [if_neg (by omega), if_neg c0]
        unfold ssOf
        rw [gz_rl _ (by omega) (by omega), if_neg (by omega)]
        congr 1
        omega
    rw [lv] at ls
    have lr : -2147483648 ≤ (if m 2 z = 0 then (-1 : Int) else m 3 (10 * z + m 2 z - 1)) ∧ (if m 2 z = 0 then (-1 : Int) else m 3 (10 * z + m 2 z - 1)) ≤ 2147483647 := by
      split
      · omega
      · exact rg_of hM.1 3 _
    have le : (t ≤ (if m 2 z = 0 then (-1 : Int) else m 3 (10 * z + m 2 z - 1)) ∧ 0 ≤ t) → (0 < m 2 z ∧ t ≤ m 3 (10 * z + m 2 z - 1)) := by
      intro q
      by_cases c0 : m 2 z = 0
      · rw [if_pos c0] at q; omega
      · rw [if_neg c0] at q; exact ⟨by omega, q.1⟩
    have le2 : (0 < m 2 z ∧ t ≤ m 3 (10 * z + m 2 z - 1)) → t ≤ (if m 2 z = 0 then (-1 : Int) else m 3 (10 * z + m 2 z - 1)) := by
      intro q
      rw [if_neg (by omega)]
      exact q.2
    generalize hL : (if m 2 z = 0 then (-1 : Int) else m 3 (10 * z + m 2 z - 1)) = L at *
    obtain ⟨q1, q2, q3⟩ := rlim_z (z := z) (by omega)
    obtain ⟨B1, ad1, x1, x2, x3⟩ := c_add hB hc (p := 3 * z) (by omega) w1 (by omega) t
    have hB1 := x1.1
    have np1 : 0 ≤ s 100 (3 * z) ∧ s 100 (3 * z) < 600 := by omega
    have hc1 : cI (rad s (3 * z) t) (m 1 0) (m 10 0) := cI_of hc (fun k z hk => rad_k _ _ _ _ _ (by omega) (by omega) (by omega))
    have e2 : rad s (3 * z) t 100 (3 * z + 1) = s 100 (3 * z + 1) := rad_p s _ t _ (by omega) 100 (Or.inl rfl)
    obtain ⟨B2, ad2, y1, y2, y3⟩ := c_add hB1 hc1 (p := 3 * z + 1) (by omega) (wI_rad w2 (by omega) np1) (by rw [e2]; omega) o
    rw [x2 (300 + (3 * z + 1)) (by omega), e2, l2, q2] at y3
    rw [l1, q1] at x3
    have xx := xE_t x1 y1
    rw [show cs (rad s (3 * z) t) - cs s + (cs (rad (rad s (3 * z) t) (3 * z + 1) o) - cs (rad s (3 * z) t)) = cs (rad (rad s (3 * z) t) (3 * z + 1) o) - cs s by omega] at xx
    have hB2 := y1.1
    refine ⟨fun c => ?_, fun c c2 => ?_, fun c c2 c3 => ?_, fun c => ?_⟩
    · refine CC_q hB hR (fun Q => zk_eq ?_ Q)
      clear x1 xx y1
      simp (disch := first | omega | assumption | (simp; done)) only [u_62_0, u_62_1, u_62_2, u_62_5, u_62_5N, u_62_7, u_62_9, u_62_9N, u_62_12, u_62_13, u_62_16, u_62_19, u_62_20, u_62_23, u_62_26, u_62_27, u_62_30, u_62_33, u_62_34, u_62_36, u_62_38, u_62_41, u_62_44, u_62_46, u_62_47, u_62_49, u_62_50, u_62_51, u_62_54, u_62_57, u_62_59, u_62_62, u_62_65, u_62_67, true_or, or_true, zk_li1_s, zk_ll1_s, zk_la1_r, zk_la1_n, zk_lg0, zk_lgs, zk_co_n, zk_co_i, zk_co_r, zk_co_u, zk_co_l, zk_l1_0, zk_l1_1, zk_l1_s, zk_l2_0, zk_l2_1, zk_l2_s, zk_sm0, zk_smi, zk_smr, zk_smn, zk_sml, zk_fi, zk_fz, zk_fo, zk_fn, zk_fa, zk_ts, zk_tn, zk_cases, true_and, and_true, List.getElem?_cons_zero, List.getElem?_cons_succ, List.length_cons, List.length_nil, Nat.reduceAdd, Nat.reduceLT, Nat.reduceLeDiff, List.set_cons_zero, List.set_cons_succ, va_rf, xi_tk hB, iz_lit, iz_neg, iz_inj, iz_lt, iz_le, za, im, ii_0]
      all_goals ((repeat' (first | exact trivial | exact ⟨rfl, rfl⟩ | rfl | apply And.intro | intro _)) <;> first | omega | (exfalso; omega) | contradiction | (exfalso; simp_all; done) | trace_state)
    · obtain ⟨-, a2, a3⟩ := c
      rw [if_pos a2] at im
      have := le2 c2
      refine CC_q hB hR (fun Q => zk_eq ?_ Q)
      clear x1 xx y1
      simp (disch := first | omega | assumption | (simp; done)) only [u_62_0, u_62_1, u_62_2, u_62_5, u_62_5N, u_62_7, u_62_9, u_62_9N, u_62_12, u_62_13, u_62_16, u_62_19, u_62_20, u_62_23, u_62_26, u_62_27, u_62_30, u_62_34, u_62_35, u_62_36, u_62_38, u_62_41, u_62_44, u_62_46, u_62_49, u_62_50, u_62_51, u_62_54, u_62_57, u_62_59, u_62_62, u_62_65, u_62_67, true_or, or_true, zk_li1_s, zk_ll1_s, zk_la1_r, zk_la1_n, zk_lg0, zk_lgs, zk_co_n, zk_co_i, zk_co_r, zk_co_u, zk_co_l, zk_l1_0, zk_l1_1, zk_l1_s, zk_l2_0, zk_l2_1, zk_l2_s, zk_sm0, zk_smi, zk_smr, zk_smn, zk_sml, zk_fi, zk_fz, zk_fo, zk_fn, zk_fa, zk_ts, zk_tn, zk_cases, true_and, and_true, List.getElem?_cons_zero, List.getElem?_cons_succ, List.length_cons, List.length_nil, Nat.reduceAdd, Nat.reduceLT, Nat.reduceLeDiff, List.set_cons_zero, List.set_cons_succ, va_rf, xi_tk hB, iz_lit, iz_neg, iz_inj, iz_lt, iz_le, za, im, icz, ls]
      all_goals ((repeat' (first | exact trivial | exact ⟨rfl, rfl⟩ | rfl | apply And.intro | intro _)) <;> first | omega | (exfalso; omega) | contradiction | (exfalso; simp_all; done) | trace_state)
    · obtain ⟨-, a2, a3⟩ := c
      rw [if_pos a2] at im
      have nl : ¬ t ≤ L := fun q => c2 (le ⟨q, a2.1⟩)
      rw [if_neg (by omega)] at x3
      have ra : rad s (3 * z) t = s := by unfold rad; rw [if_neg (by omega)]
      rw [ra] at x3 x1
      have aS : ∀ Q, zk_wp G 45 0 [some (.ref (ad (200 + z))), some (.int (iz t)), some (.int (iz o))] [] (hx G B (m 1 0) (m 10 0) ad s) Q ↔ Q (some (.int (iz 0))) (hx G B1 (m 1 0) (m 10 0) ad1 s) := by
        intro Q
        refine zk_eq ?_ Q
        clear x1 xx y1
        simp (disch := first | omega | assumption | (simp; done)) only [u_45_0, u_45_1, u_45_4, u_45_5, u_45_8, u_45_12, u_45_15, u_45_16, u_45_19, u_45_22, u_45_23, u_45_26, u_45_27, true_or, or_true, zk_li1_s, zk_ll1_s, zk_la1_r, zk_la1_n, zk_lg0, zk_lgs, zk_co_n, zk_co_i, zk_co_r, zk_co_u, zk_co_l, zk_l1_0, zk_l1_1, zk_l1_s, zk_l2_0, zk_l2_1, zk_l2_s, zk_sm0, zk_smi, zk_smr, zk_smn, zk_sml, zk_fi, zk_fz, zk_fo, zk_fn, zk_fa, zk_ts, zk_tn, zk_cases, true_and, and_true, List.getElem?_cons_zero, List.getElem?_cons_succ, List.length_cons, List.length_nil, Nat.reduceAdd, Nat.reduceLT, Nat.reduceLeDiff, List.set_cons_zero, List.set_cons_succ, va_rf, xi_zo hB, xg_zo_0 hB, xg_zo_1 hB, xg_zo_2 hB, xg_zo_3 hB, xi_ro hB, iz_lit, iz_inj, x3]
        all_goals ((repeat' (first | exact trivial | exact ⟨rfl, rfl⟩ | rfl | apply And.intro | intro _)) <;> first | omega | (exfalso; omega) | contradiction | (exfalso; simp_all; done) | trace_state)
      refine CC_x x1 (x2 0 (by omega)) hR rfl rfl (fun Q => zk_eq ?_ Q)
      clear x1 xx y1
      simp (disch := first | omega | assumption | (simp; done)) only [u_62_0, u_62_1, u_62_2, u_62_5, u_62_5N, u_62_7, u_62_9, u_62_9N, u_62_12, u_62_13, u_62_16, u_62_19, u_62_20, u_62_23, u_62_26, u_62_27, u_62_30, u_62_34, u_62_35, u_62_36, u_62_38, u_62_41, u_62_46, u_62_47, u_62_49, u_62_50, u_62_51, u_62_54, u_62_59, u_62_62, u_62_65, u_62_67, true_or, or_true, zk_li1_s, zk_ll1_s, zk_la1_r, zk_la1_n, zk_lg0, zk_lgs, zk_co_n, zk_co_i, zk_co_r, zk_co_u, zk_co_l, zk_l1_0, zk_l1_1, zk_l1_s, zk_l2_0, zk_l2_1, zk_l2_s, zk_sm0, zk_smi, zk_smr, zk_smn, zk_sml, zk_fi, zk_fz, zk_fo, zk_fn, zk_fa, zk_ts, zk_tn, zk_cases, true_and, and_true, List.getElem?_cons_zero, List.getElem?_cons_succ, List.length_cons, List.length_nil, Nat.reduceAdd, Nat.reduceLT, Nat.reduceLeDiff, List.set_cons_zero, List.set_cons_succ, va_rf, xi_tk hB, iz_lit, iz_neg, iz_inj, iz_lt, iz_le, za, im, icz, ls, aS]
      all_goals ((repeat' (first | exact trivial | exact ⟨rfl, rfl⟩ | rfl | apply And.intro | intro _)) <;> first | omega | (exfalso; omega) | contradiction | (exfalso; simp_all; done) | trace_state)
    · obtain ⟨⟨-, a2, a3⟩, c2, c3⟩ := c
      rw [if_pos a2] at im
      have nl : ¬ t ≤ L := fun q => c2 (le ⟨q, a2.1⟩)
      rw [if_pos (by omega)] at x3 y3
      have o1 := xg_zo_1 hB1 (rad s (3 * z) t) z c1
      rw [x2 (200 + z) (by omega), x2 (300 + (3 * z + 1)) (by omega)] at o1
      have ic1 := xi_ro hB1 (rad s (3 * z) t) (3 * z + 1) (by omega)
      rw [x2 (300 + (3 * z + 1)) (by omega)] at ic1
      have aS : ∀ Q, zk_wp G 45 0 [some (.ref (ad (200 + z))), some (.int (iz t)), some (.int (iz o))] [] (hx G B (m 1 0) (m 10 0) ad s) Q ↔ Q (some (.int (iz 1))) (hx G B2 (m 1 0) (m 10 0) ad2 (rad (rad s (3 * z) t) (3 * z + 1) o)) := by
        intro Q
        refine zk_eq ?_ Q
        clear x1 xx y1
        simp (disch := first | omega | assumption | (simp; done)) only [u_45_0, u_45_1, u_45_4, u_45_5, u_45_8, u_45_11, u_45_12, u_45_15, u_45_16, u_45_19, u_45_22, u_45_23, u_45_26, u_45_27, true_or, or_true, zk_li1_s, zk_ll1_s, zk_la1_r, zk_la1_n, zk_lg0, zk_lgs, zk_co_n, zk_co_i, zk_co_r, zk_co_u, zk_co_l, zk_l1_0, zk_l1_1, zk_l1_s, zk_l2_0, zk_l2_1, zk_l2_s, zk_sm0, zk_smi, zk_smr, zk_smn, zk_sml, zk_fi, zk_fz, zk_fo, zk_fn, zk_fa, zk_ts, zk_tn, zk_cases, true_and, and_true, List.getElem?_cons_zero, List.getElem?_cons_succ, List.length_cons, List.length_nil, Nat.reduceAdd, Nat.reduceLT, Nat.reduceLeDiff, List.set_cons_zero, List.set_cons_succ, va_rf, xi_zo hB, xg_zo_0 hB, xg_zo_1 hB, xg_zo_2 hB, xg_zo_3 hB, xi_ro hB, iz_lit, iz_inj, x3, o1, ic1, y3]
        all_goals ((repeat' (first | exact trivial | exact ⟨rfl, rfl⟩ | rfl | apply And.intro | intro _)) <;> first | omega | (exfalso; omega) | contradiction | (exfalso; simp_all; done) | trace_state)
      have np2 : 0 ≤ rad s (3 * z) t 100 (3 * z + 1) ∧ rad s (3 * z) t 100 (3 * z + 1) < 600 := by rw [e2]; omega
      have e100 : rad (rad s (3 * z) t) (3 * z + 1) o 100 (3 * z) = m 2 z + 2 := by
        rw [rad_p _ _ _ _ (by omega) 100 (Or.inl rfl)]
        unfold rad
        rw [if_pos (by omega), up_e, l1]
        omega
      have sc : ∀ Q, zk_wp G 44 0 [some (.ref (ad (200 + z)))] [] (hx G B2 (m 1 0) (m 10 0) ad2 (rad (rad s (3 * z) t) (3 * z + 1) o)) Q ↔ Q (some (.int (iz (m 2 z + 1)))) (hx G B2 (m 1 0) (m 10 0) ad2 (rad (rad s (3 * z) t) (3 * z + 1) o)) := by
        intro Q
        refine zk_eq ?_ Q
        have g1 := xg_zo_0 hB2 (rad (rad s (3 * z) t) (3 * z + 1) o) z c1
        have g2 := xg_ro_2 hB2 (rad (rad s (3 * z) t) (3 * z + 1) o) (3 * z) (by omega)
        rw [y2 (200 + z) (by omega), x2 (200 + z) (by omega), y2 (300 + 3 * z) (by omega), x2 (300 + 3 * z) (by omega)] at g1
        rw [y2 (300 + 3 * z) (by omega), x2 (300 + 3 * z) (by omega), e100] at g2
        have e : m 2 z + 2 - 1 = m 2 z + 1 := by omega
        clear x1 xx y1
        simp (disch := first | omega | assumption | (simp; done)) only [u_44_0, u_44_1, u_44_4, u_44_7, u_44_8, u_44_9, true_or, or_true, zk_li1_s, zk_ll1_s, zk_la1_r, zk_la1_n, zk_lg0, zk_lgs, zk_co_n, zk_co_i, zk_co_r, zk_co_u, zk_co_l, zk_l1_0, zk_l1_1, zk_l1_s, zk_l2_0, zk_l2_1, zk_l2_s, zk_sm0, zk_smi, zk_smr, zk_smn, zk_sml, zk_fi, zk_fz, zk_fo, zk_fn, zk_fa, zk_ts, zk_tn, zk_cases, true_and, and_true, List.getElem?_cons_zero, List.getElem?_cons_succ, List.length_cons, List.length_nil, Nat.reduceAdd, Nat.reduceLT, Nat.reduceLeDiff, List.set_cons_zero, List.set_cons_succ, va_rf, g1, g2, iz_lit, iz_sub, e]
      have ic2 : zk_ic G (hx G B2 (m 1 0) (m 10 0) ad2 (rad (rad s (3 * z) t) (3 * z + 1) o)) (ad (200 + z)) 7 ↔ True := by
        have := xi_zo hB2 (rad (rad s (3 * z) t) (3 * z + 1) o) z c1
        rw [y2 (200 + z) (by omega), x2 (200 + z) (by omega)] at this
        exact this
      have um : ∀ k y, k ≠ 2 → k ≠ 3 → k ≠ 4 → up (up (up m 3 (10 * z + m 2 z) t) 4 (10 * z + m 2 z) o) 2 z (m 2 z + 1) k y = m k y := fun k y a b c => by rw [up_k _ _ _ _ a, up_k _ _ _ _ c, up_k _ _ _ _ b]
      refine CC_x xx (by rw [y2 0 (by omega), x2 0 (by omega)]) ?_ (um 1 0 (by decide) (by decide) (by decide)) (um 10 0 (by decide) (by decide) (by decide)) (fun Q => zk_eq ?_ Q)
      · refine REL_rows hR ⟨fun k y a b c d => by rw [rad_k _ _ _ _ _ a b c, rad_k _ _ _ _ _ a b c], fun k y q => um k y (by omega) (by omega) (by omega)⟩ ?_ ?_ ?_ (rad_rg (rad_rg hR.2.2.2.2.2.2 np1.1 ht) np2.1 ho)
        · intro z' a b
          rw [um 1 0 (by decide) (by decide) (by decide)] at b
          have zi' := mc_z hM (z := z') ⟨a, b⟩
          have b2' := zi'.2.1
          have zr' := hR.2.2.2.1 z' a b
          have f3 : hsOf (up (up (up m 3 (10 * z + m 2 z) t) 4 (10 * z + m 2 z) o) 2 z (m 2 z + 1)) z' = hsOf m z' := by unfold hsOf; simp only [um 5 _ (by decide) (by decide) (by decide), um 6 _ (by decide) (by decide) (by decide)]
          by_cases cz : z' = z
          · subst cz
            obtain ⟨⟨p1, p2, p3⟩, p4, v1, v2, v3⟩ := zr'
            have lA := wI_rad1 (v := t) v1
            have lB := wI_rad (v := t) v2 (show 3 * z' + 1 ≠ 3 * z' by omega) np1
            have lC := wI_rad (v := t) v3 (show 3 * z' + 2 ≠ 3 * z' by omega) np1
            have f1 : ssOf (up (up (up m 3 (10 * z' + m 2 z') t) 4 (10 * z' + m 2 z') o) 2 z' (m 2 z' + 1)) z' = ssOf m z' ++ [t] := by
              unfold ssOf
              rw [up_e, rl_succ _ (by omega), if_neg (by omega), up_k _ _ _ _ (by decide), up_k _ _ _ _ (by decide), show 10 * z' + (m 2 z' + 1) - 1 = 10 * z' + m 2 z' by omega, up_e]
              congr 1
              refine rl_congr (fun k k1 k2 => ?_)
              by_cases ck : k = 0
              · rw [if_pos ck, if_pos ck]
              · rw [if_neg ck, if_neg ck, up_k _ _ _ _ (by decide), up_k _ _ _ _ (by decide), up_z, if_neg (by omega)]
            have f2 : osOf (up (up (up m 3 (10 * z' + m 2 z') t) 4 (10 * z' + m 2 z') o) 2 z' (m 2 z' + 1)) z' = osOf m z' ++ [o] := by
              unfold osOf
              rw [up_e, rl_succ _ (by omega), if_neg (by omega), up_k _ _ _ _ (by decide), show 10 * z' + (m 2 z' + 1) - 1 = 10 * z' + m 2 z' by omega, up_e]
              congr 1
              refine rl_congr (fun k k1 k2 => ?_)
              by_cases ck : k = 0
              · rw [if_pos ck, if_pos ck]
              · rw [if_neg ck, if_neg ck, up_k _ _ _ _ (by decide), up_z, if_neg (by omega), up_k _ _ _ _ (by decide)]
            refine ⟨⟨?_, ?_, ?_⟩, ?_, wI_rad lA (by omega) np2, wI_rad1 lB, wI_rad lC (by omega) np2⟩
            · rw [xr_rad (by omega) np2 (wI_512 lA).2, xr_rad1 np1.1 (by omega), p1, f1]
            · rw [xr_rad1 np2.1 (by rw [e2]; omega), xr_rad (by omega) np1 (wI_512 v2).2, p2, f2]
            · rw [xr_rad (by omega) np2 (wI_512 lC).2, xr_rad (by omega) np1 (wI_512 v3).2, p3, f3]
            · intro k k1 k2
              rw [um 5 _ (by decide) (by decide) (by decide)] at k2
              rw [rad_k _ _ _ _ _ (by decide) (by decide) (by decide), rad_k _ _ _ _ _ (by decide) (by decide) (by decide), f3]
              exact p4 k k1 k2
          · have s1 : zR (rad s (3 * z) t) m z' := zR_rad zr' np1 ⟨by omega, by omega, by omega⟩ ⟨rfl, rfl, rfl, rfl⟩
            refine zR_rad s1 np2 ⟨by omega, by omega, by omega⟩ ⟨?_, ?_, f3, um 5 z' (by decide) (by decide) (by decide)⟩
            · unfold ssOf
              rw [up_z, if_neg cz, up_k _ _ _ _ (by decide), up_k _ _ _ _ (by decide)]
              refine rl_congr (fun k k1 k2 => ?_)
              by_cases ck : k = 0
              · rw [if_pos ck, if_pos ck]
              · rw [if_neg ck, if_neg ck, up_k _ _ _ _ (by decide), up_k _ _ _ _ (by decide), up_z, if_neg (by omega)]
            · unfold osOf
              rw [up_z, if_neg cz, up_k _ _ _ _ (by decide), up_k _ _ _ _ (by decide)]
              refine rl_congr (fun k k1 k2 => ?_)
              by_cases ck : k = 0
              · rw [if_pos ck, if_pos ck]
              · rw [if_neg ck, if_neg ck, up_k _ _ _ _ (by decide), up_z, if_neg (by omega), up_k _ _ _ _ (by decide)]
        · intro j a b
          have jr := (hR.2.2.2.2.1 j a b).1
          have s1 : jR (rad s (3 * z) t) m j := jR_rad jr np1 (by omega) ⟨rfl, rfl, rfl, rfl, rfl, rfl⟩ (fun k hk => rfl)
          refine jR_rad s1 np2 (by omega) ⟨?_, ?_, ?_, ?_, ?_, ?_⟩ (fun k hk => um k j (by omega) (by omega) (by omega))
          · unfold nwOf; simp only [um 17 _ (by decide) (by decide) (by decide), um 18 _ (by decide) (by decide) (by decide)]
          · unfold nnOf; simp only [um 17 _ (by decide) (by decide) (by decide), um 19 _ (by decide) (by decide) (by decide)]
          · unfold exOf; simp only [um 20 _ (by decide) (by decide) (by decide), um 21 _ (by decide) (by decide) (by decide)]
          · unfold xtOf; simp only [um 28 _ (by decide) (by decide) (by decide), um 29 _ (by decide) (by decide) (by decide)]
          · unfold efOf; simp only [um 46 _ (by decide) (by decide) (by decide), um 47 _ (by decide) (by decide) (by decide)]
          · unfold egOf; simp only [um 46 _ (by decide) (by decide) (by decide), um 48 _ (by decide) (by decide) (by decide)]
        · intro p hp
          rw [rad_102 (by omega), rad_102 (by omega)]
          exact hR.2.2.2.2.2.1.2.2 p hp
      · clear x1 xx y1
        simp (disch := first | omega | assumption | (simp; done)) only [u_62_0, u_62_1, u_62_2, u_62_5, u_62_5N, u_62_7, u_62_9, u_62_9N, u_62_12, u_62_13, u_62_16, u_62_19, u_62_20, u_62_23, u_62_26, u_62_27, u_62_30, u_62_34, u_62_35, u_62_36, u_62_38, u_62_41, u_62_46, u_62_47, u_62_49, u_62_50, u_62_51, u_62_54, u_62_57, u_62_59, u_62_62, u_62_67, true_or, or_true, zk_li1_s, zk_ll1_s, zk_la1_r, zk_la1_n, zk_lg0, zk_lgs, zk_co_n, zk_co_i, zk_co_r, zk_co_u, zk_co_l, zk_l1_0, zk_l1_1, zk_l1_s, zk_l2_0, zk_l2_1, zk_l2_s, zk_sm0, zk_smi, zk_smr, zk_smn, zk_sml, zk_fi, zk_fz, zk_fo, zk_fn, zk_fa, zk_ts, zk_tn, zk_cases, true_and, and_true, List.getElem?_cons_zero, List.getElem?_cons_succ, List.length_cons, List.length_nil, Nat.reduceAdd, Nat.reduceLT, Nat.reduceLeDiff, List.set_cons_zero, List.set_cons_succ, va_rf, xi_tk hB, iz_lit, iz_neg, iz_inj, iz_lt, iz_le, za, im, icz, ls, aS, ic2, sc]
        all_goals ((repeat' (first | exact trivial | exact ⟨rfl, rfl⟩ | rfl | apply And.intro | intro _)) <;> first | omega | (exfalso; omega) | contradiction | (exfalso; simp_all; done) | trace_state)
  · have za := c_zoneAt0 hB hc z hz c1
    refine ⟨fun c => CC_q hB hR (fun Q => zk_eq ?_ Q), fun c => absurd c.1 c1, fun c => absurd c.1 c1, fun c => absurd c.1.1 c1⟩
    simp (disch := first | omega | assumption | (simp; done)) only [u_62_0, u_62_1, u_62_2, u_62_5, u_62_5N, u_62_7, u_62_9, u_62_9N, u_62_13, u_62_16, u_62_19, u_62_20, u_62_23, u_62_26, u_62_27, u_62_30, u_62_33, u_62_34, u_62_36, u_62_38, u_62_41, u_62_44, u_62_46, u_62_47, u_62_49, u_62_50, u_62_51, u_62_54, u_62_57, u_62_59, u_62_62, u_62_65, u_62_67, true_or, or_true, zk_li1_s, zk_ll1_s, zk_la1_r, zk_la1_n, zk_lg0, zk_lgs, zk_co_n, zk_co_i, zk_co_r, zk_co_u, zk_co_l, zk_l1_0, zk_l1_1, zk_l1_s, zk_l2_0, zk_l2_1, zk_l2_s, zk_sm0, zk_smi, zk_smr, zk_smn, zk_sml, zk_fi, zk_fz, zk_fo, zk_fn, zk_fa, zk_ts, zk_tn, zk_cases, true_and, and_true, List.getElem?_cons_zero, List.getElem?_cons_succ, List.length_cons, List.length_nil, Nat.reduceAdd, Nat.reduceLT, Nat.reduceLeDiff, List.set_cons_zero, List.set_cons_succ, va_rf, xi_tk hB, iz_lit, iz_neg, za]
    all_goals ((repeat' (first | exact trivial | exact ⟨rfl, rfl⟩ | rfl | apply And.intro | intro _)) <;> first | omega | (exfalso; omega) | contradiction | (exfalso; simp_all; done) | trace_state)
end ZON2
