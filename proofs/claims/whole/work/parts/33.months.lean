theorem c_startOf (G : zk_G) (hG : GS G) (h : zk_H) (m : Int) (hd : -100000 ≤ m ∧ m ≤ 100000) (Q : Option Value → zk_H → Prop) : zk_wp G 196 0 [some (.int (iz m))] [] h Q ↔ Q (some (.int (iz (stOf m)))) h := by
  obtain ⟨g1, -, ⟨f, g2, g3⟩, -⟩ := hG
  have fm := c_fmk G 48 (by omega)
  have fd := c_fdk G 48 (by omega)
  have ha := zk_ar_ro (h := h) g1 g2
  have e1 : (iz (m % 48)).toInt = m % 48 := iz_toInt (by omega) (by omega)
  have e2 := st4_ok (m % 48).toNat (by omega)
  have e3 := g3 (m % 48).toNat (by omega)
  simp (disch := omega) only [u_196_0, u_196_1, u_196_3, u_196_6, u_196_9, u_196_10, u_196_13, u_196_14, u_196_16, u_196_19, u_196_20, u_196_21, true_or, or_true, zk_li1_s, zk_ll1_s, zk_la1_r, zk_la1_n, zk_lg0, zk_lgs, zk_co_n, zk_co_i, zk_co_r, zk_co_u, zk_co_l, zk_l1_0, zk_l1_1, zk_l1_s, zk_l2_0, zk_l2_1, zk_l2_s, zk_sm0, zk_smi, zk_smr, zk_smn, zk_sml, zk_fi, zk_fz, zk_fo, zk_fn, zk_fa, zk_ts, zk_tn, zk_og, zk_op, zk_ai, zk_aj, zk_az, zk_aa, zk_an, zk_si, zk_sz1, zk_sl1, zk_sa1, zk_cases, true_and, and_true, List.getElem?_cons_zero, List.getElem?_cons_succ, List.length_cons, List.length_nil, Nat.reduceAdd, Nat.reduceLT, Nat.reduceLeDiff, List.set_cons_zero, List.set_cons_succ, va_rf, iz_lit, fd, iz_mul, fm, ha, e1]
  rw [e3, e2.1, iz_add]
  unfold stOf
  rw [Int.mul_comm 1461]
  exact ⟨And.right, fun q => ⟨by omega, q⟩⟩
theorem c_monthOf (G : zk_G) (hG : GS G) (h : zk_H) (d : Int) (hd : -100000 ≤ d ∧ d ≤ 100000) (Q : Option Value → zk_H → Prop) : zk_wp G 193 0 [some (.int (iz d)), none, none] [] h Q ↔ Q (some (.int (iz (moOf d)))) h := by
  obtain ⟨g1, -, ⟨f, g2, g3⟩, -⟩ := hG
  have fm := c_fmk G 1461 (by omega)
  have fd := c_fdk G 1461 (by omega)
  have ha := zk_ar_ro (h := h) g1 g2
  refine zk_eq ?_ Q
  obtain ⟨r, hr, hr2⟩ : ∃ r : Nat, d % 1461 = (r : Int) ∧ r < 1461 := ⟨(d % 1461).toNat, by omega, by omega⟩
  obtain ⟨p1, p2, p3, p4⟩ := mo4_ok r hr2
  have hmo : moOf d = 48 * (d / 1461) + mo4 r := by unfold moOf; rw [hr]; rfl
  have loop : ∀ (k m : Nat), m + k = mo4 r → zk_wp G 193 13 [some (.int (iz d)), some (.int (iz r)), some (.int (iz m))] [] h (fun q h' => q = some (.int (iz (moOf d))) ∧ h' = h) := by
    intro k
    induction k with
    | zero =>
      intro m hm
      rw [u_193_13]
      have e3 : (iz ((m : Int) + 1)).toInt = m + 1 := iz_toInt (by omega) (by omega)
      simp (disch := first | omega | assumption | (simp; done)) only [u_193_0, u_193_1, u_193_4, u_193_7, u_193_8, u_193_9, u_193_11, u_193_12, u_193_14, u_193_15, u_193_16, u_193_18, u_193_21, u_193_24, u_193_25, u_193_26, u_193_27, u_193_28, u_193_29, u_193_32, u_193_35, u_193_38, u_193_39, u_193_42, u_193_45, u_193_47, u_193_48, u_193_49, u_193_50, true_or, or_true, zk_li1_s, zk_ll1_s, zk_la1_r, zk_la1_n, zk_lg0, zk_lgs, zk_co_n, zk_co_i, zk_co_r, zk_co_u, zk_co_l, zk_l1_0, zk_l1_1, zk_l1_s, zk_l2_0, zk_l2_1, zk_l2_s, zk_sm0, zk_smi, zk_smr, zk_smn, zk_sml, zk_fi, zk_fz, zk_fo, zk_fn, zk_fa, zk_ts, zk_tn, zk_og, zk_op, zk_ai, zk_aj, zk_az, zk_aa, zk_an, zk_si, zk_sz1, zk_sl1, zk_sa1, zk_cases, true_and, and_true, List.getElem?_cons_zero, List.getElem?_cons_succ, List.length_cons, List.length_nil, Nat.reduceAdd, Nat.reduceLT, Nat.reduceLeDiff, List.set_cons_zero, List.set_cons_succ, va_rf, iz_lit, iz_add, iz_mul, iz_le, iz_lt, fd, ha, e3]
      have e4 : d / 1461 * 48 + (m : Int) = moOf d := by rw [hmo]; omega
      rw [e4]
      refine ⟨fun _ => rfl, fun c => ⟨by omega, fun _ => rfl, fun c2 => ?_⟩⟩
      have e5 : ((m : Int) + 1).toNat = m + 1 := by omega
      obtain ⟨s1, s2, s3⟩ := st4_ok (m + 1) (by omega)
      rw [e5, g3 _ (by omega), s1, iz_lt (by omega) (by omega)] at c2
      have := (p4 m (by omega)).mp (by omega)
      omega
    | succ k ih =>
      intro m hm
      rw [u_193_13]
      have e3 : (iz ((m : Int) + 1)).toInt = m + 1 := iz_toInt (by omega) (by omega)
      simp (disch := first | omega | assumption | (simp; done)) only [u_193_0, u_193_1, u_193_4, u_193_7, u_193_8, u_193_9, u_193_11, u_193_12, u_193_14, u_193_15, u_193_16, u_193_18, u_193_21, u_193_24, u_193_25, u_193_26, u_193_27, u_193_28, u_193_29, u_193_32, u_193_35, u_193_38, u_193_39, u_193_42, u_193_45, u_193_47, u_193_48, u_193_49, u_193_50, true_or, or_true, zk_li1_s, zk_ll1_s, zk_la1_r, zk_la1_n, zk_lg0, zk_lgs, zk_co_n, zk_co_i, zk_co_r, zk_co_u, zk_co_l, zk_l1_0, zk_l1_1, zk_l1_s, zk_l2_0, zk_l2_1, zk_l2_s, zk_sm0, zk_smi, zk_smr, zk_smn, zk_sml, zk_fi, zk_fz, zk_fo, zk_fn, zk_fa, zk_ts, zk_tn, zk_og, zk_op, zk_ai, zk_aj, zk_az, zk_aa, zk_an, zk_si, zk_sz1, zk_sl1, zk_sa1, zk_cases, true_and, and_true, List.getElem?_cons_zero, List.getElem?_cons_succ, List.length_cons, List.length_nil, Nat.reduceAdd, Nat.reduceLT, Nat.reduceLeDiff, List.set_cons_zero, List.set_cons_succ, va_rf, iz_lit, iz_add, iz_mul, iz_le, iz_lt, fd, ha, e3]
      have e5 : ((m : Int) + 1).toNat = m + 1 := by omega
      obtain ⟨s1, s2, s3⟩ := st4_ok (m + 1) (by omega)
      have s4 := (p4 m (by omega)).mpr (by omega)
      refine ⟨fun c => absurd c (by omega), fun c => ⟨by omega, fun c2 => ?_, fun c2 => ?_⟩⟩
      · rw [e5, g3 _ (by omega), s1, iz_lt (by omega) (by omega)] at c2
        omega
      · exact ih (m + 1) (by omega)
  have hz31 : ¬ iz 31 = (0 : Int32) := by decide
  simp (disch := first | omega | assumption | (simp; done)) only [u_193_0, u_193_1, u_193_4, u_193_7, u_193_8, u_193_9, u_193_11, u_193_12, u_193_14, u_193_15, u_193_16, u_193_18, u_193_21, u_193_24, u_193_25, u_193_26, u_193_27, u_193_28, u_193_29, u_193_32, u_193_35, u_193_38, u_193_39, u_193_42, u_193_45, u_193_47, u_193_48, u_193_49, u_193_50, true_or, or_true, zk_li1_s, zk_ll1_s, zk_la1_r, zk_la1_n, zk_lg0, zk_lgs, zk_co_n, zk_co_i, zk_co_r, zk_co_u, zk_co_l, zk_l1_0, zk_l1_1, zk_l1_s, zk_l2_0, zk_l2_1, zk_l2_s, zk_sm0, zk_smi, zk_smr, zk_smn, zk_sml, zk_fi, zk_fz, zk_fo, zk_fn, zk_fa, zk_ts, zk_tn, zk_og, zk_op, zk_ai, zk_aj, zk_az, zk_aa, zk_an, zk_si, zk_sz1, zk_sl1, zk_sa1, zk_cases, true_and, and_true, List.getElem?_cons_zero, List.getElem?_cons_succ, List.length_cons, List.length_nil, Nat.reduceAdd, Nat.reduceLT, Nat.reduceLeDiff, List.set_cons_zero, List.set_cons_succ, va_rf, iz_lit, fm, hr, iz_div]
  have e6 : (r : Int) / 31 = ((r / 31 : Nat) : Int) := by omega
  rw [e6]
  exact loop (mo4 r - r / 31) (r / 31) (by omega)
