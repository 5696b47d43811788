/-! the class's runNow, mask, day -/
theorem u_69_94 (G : zk_G) (L : zk_L) (st : List Value) (h : zk_H) (Q : Option Value → zk_H → Prop) (x : Int32) : zk_wp G 69 94 L (.int x :: st) h Q ↔ ((x.toInt = 4 → zk_wp G 69 120 L st h Q) ∧ (x.toInt = 5 → zk_wp G 69 135 L st h Q) ∧ (x.toInt ≠ 4 ∧ x.toInt ≠ 5 → zk_wp G 69 150 L st h Q)) := by
  have hft : zk_ft 69 94 = some (.lookupswitch 56 #[(4, 26), (5, 41)], 26) := by decide +kernel
  have hjo : ∀ (o : Int) (t : Nat), Op.lookupswitch.offset [(4, 26), (5, 41)] 56 x.toInt = o → (94 : Int) + o = t → zk_jump (.lookupswitch 56 #[(4, 26), (5, 41)]) 26 94 (.int x :: st) = some (t, st) := by
    intro o t ho ht
    unfold zk_jump
    dsimp only
    rw [if_pos (by decide)]
    show (zk_tg 94 (Op.lookupswitch.offset [(4, 26), (5, 41)] 56 x.toInt)).map (fun t => (t, st)) = _
    rw [ho, zi_tg ht]
    rfl
  by_cases c4 : x.toInt = 4
  · have e1 := hjo 26 120 (by rw [Op.lookupswitch.offset_cons, if_pos c4.symm]) (by decide)
    rw [zi_jump hft rfl rfl e1]
    exact ⟨fun q => ⟨fun _ => q, fun c => absurd c (by omega), fun c => absurd c4 c.1⟩, fun q => q.1 c4⟩
  · by_cases c5 : x.toInt = 5
    · have e1 := hjo 41 135 (by rw [Op.lookupswitch.offset_cons, if_neg (fun q => c4 q.symm), Op.lookupswitch.offset_cons, if_pos c5.symm]) (by decide)
      rw [zi_jump hft rfl rfl e1]
      exact ⟨fun q => ⟨fun c => absurd c c4, fun _ => q, fun c => absurd c5 c.2⟩, fun q => q.2.1 c5⟩
    · have e1 := hjo 56 150 (by rw [Op.lookupswitch.offset_cons, if_neg (fun q => c4 q.symm), Op.lookupswitch.offset_cons, if_neg (fun q => c5 q.symm), Op.lookupswitch.offset_nil]) (by decide)
      rw [zi_jump hft rfl rfl e1]
      exact ⟨fun q => ⟨fun c => absurd c c4, fun c => absurd c c5, fun _ => q⟩, fun q => q.2.2 ⟨c4, c5⟩⟩
section RUNN
variable {G : zk_G} {B : zk_H} {ad : Int → Nat} {s m : mS}
theorem c_highest (hB : hxo G B (m 1 0) (m 10 0) ad) (hR : REL s m) (hM : MC m) (hP : MP m) (j : Int) (hj : 0 ≤ j ∧ j < m 10 0) (Q : Option Value → zk_H → Prop) : zk_wp G 83 0 [some (.ref (ad 0)), some (.int (iz j)), none, none, none] [] (hx G B (m 1 0) (m 10 0) ad s) Q ↔ Q (some (.int (iz (mst3 m j)))) (hx G B (m 1 0) (m 10 0) ad s) := by
  refine zk_eq ?_ Q
  have hc := rel_cI hR hM
  have h10 := hM.2.2.2.1
  generalize hQ : (fun (r : Option Value) (h' : zk_H) => r = some (.int (iz (mst3 m j))) ∧ h' = hx G B (m 1 0) (m 10 0) ad s) = P
  have step : ∀ (sc a : Int) (o : Option Value), 0 ≤ sc → sc < 3 → (-1 ≤ a ∧ a ≤ 21038399) → (∀ o, zk_wp G 83 4 [some (.ref (ad 0)), some (.int (iz j)), some (.int (iz (max a (m 32 (12 * sc + j))))), some (.int (iz (sc + 1))), o] [] (hx G B (m 1 0) (m 10 0) ad s) P) → zk_wp G 83 4 [some (.ref (ad 0)), some (.int (iz j)), some (.int (iz a)), some (.int (iz sc)), o] [] (hx G B (m 1 0) (m 10 0) ad s) P := by
    intro sc a o s0 s3 ha nx
    have ro := c_regOf hB hc sc j ⟨s0, s3⟩ hj
    have e := rel_k hR 32 (12 * sc + j)
    obtain ⟨-, -, i32, -⟩ := hP.1 (12 * sc + j) (by omega) (by omega)
    have mx := c_mx G (hx G B (m 1 0) (m 10 0) ad s) a (m 32 (12 * sc + j)) (by omega) (by omega)
    rw [u_83_4]
    simp (disch := first | omega | assumption | (simp; done)) only [u_83_0, u_83_1, u_83_2, u_83_3, u_83_5, u_83_6, u_83_9, u_83_10, u_83_11, u_83_12, u_83_15, u_83_15N, u_83_17, u_83_19, u_83_19N, u_83_22, u_83_23, u_83_25, u_83_28, u_83_31, u_83_32, u_83_35, u_83_38, u_83_39, true_or, or_true, zk_li1_s, zk_ll1_s, zk_la1_r, zk_la1_n, zk_lg0, zk_lgs, zk_co_n, zk_co_i, zk_co_r, zk_co_u, zk_co_l, zk_l1_0, zk_l1_1, zk_l1_s, zk_l2_0, zk_l2_1, zk_l2_s, zk_sm0, zk_smi, zk_smr, zk_smn, zk_sml, zk_fi, zk_fz, zk_fo, zk_fn, zk_fa, zk_ts, zk_tn, zk_cases, true_and, and_true, List.getElem?_cons_zero, List.getElem?_cons_succ, List.length_cons, List.length_nil, Nat.reduceAdd, Nat.reduceLT, Nat.reduceLeDiff, List.set_cons_zero, List.set_cons_succ, va_rf, xi_re hB, xg_re_0 hB, xg_re_1 hB, xp_re_1 hB, xg_re_2 hB, xp_re_2 hB, xg_re_3 hB, xp_re_3 hB, xg_re_4 hB, xp_re_4 hB, xg_re_5 hB, xp_re_5 hB, xi_tk hB, iz_lit, iz_le, iz_add, ro, e, mx]
    (repeat' (first | exact nx _ | apply And.intro | intro _)) <;> first | omega | (exfalso; omega) | contradiction | exact absurd trivial (by assumption) | (exfalso; simp_all; done)
  have b0 := (hP.1 (12 * 0 + j) (by omega) (by omega)).2.2.1
  have b1 := (hP.1 (12 * (0 + 1) + j) (by omega) (by omega)).2.2.1
  have b2 := (hP.1 (12 * (0 + 1 + 1) + j) (by omega) (by omega)).2.2.1
  simp (disch := first | omega | assumption | (simp; done)) only [u_83_0, u_83_1, u_83_2, u_83_3, u_83_5, u_83_6, u_83_9, u_83_10, u_83_11, u_83_12, u_83_15, u_83_15N, u_83_17, u_83_19, u_83_19N, u_83_22, u_83_23, u_83_25, u_83_28, u_83_31, u_83_32, u_83_35, u_83_38, u_83_39, true_or, or_true, zk_li1_s, zk_ll1_s, zk_la1_r, zk_la1_n, zk_lg0, zk_lgs, zk_co_n, zk_co_i, zk_co_r, zk_co_u, zk_co_l, zk_l1_0, zk_l1_1, zk_l1_s, zk_l2_0, zk_l2_1, zk_l2_s, zk_sm0, zk_smi, zk_smr, zk_smn, zk_sml, zk_fi, zk_fz, zk_fo, zk_fn, zk_fa, zk_ts, zk_tn, zk_cases, true_and, and_true, List.getElem?_cons_zero, List.getElem?_cons_succ, List.length_cons, List.length_nil, Nat.reduceAdd, Nat.reduceLT, Nat.reduceLeDiff, List.set_cons_zero, List.set_cons_succ, va_rf, iz_lit, iz_neg]
  refine step 0 (-1) _ (by omega) (by omega) (by omega) (fun o => ?_)
  refine step (0 + 1) _ _ (by omega) (by omega) (by omega) (fun o => ?_)
  refine step (0 + 1 + 1) _ _ (by omega) (by omega) (by omega) (fun o => ?_)
  rw [u_83_4]
  simp (disch := first | omega | assumption | (simp; done)) only [u_83_0, u_83_1, u_83_2, u_83_3, u_83_5, u_83_6, u_83_10, u_83_11, u_83_12, u_83_15, u_83_15N, u_83_17, u_83_19, u_83_19N, u_83_22, u_83_23, u_83_25, u_83_28, u_83_31, u_83_32, u_83_35, u_83_38, u_83_39, true_or, or_true, zk_li1_s, zk_ll1_s, zk_la1_r, zk_la1_n, zk_lg0, zk_lgs, zk_co_n, zk_co_i, zk_co_r, zk_co_u, zk_co_l, zk_l1_0, zk_l1_1, zk_l1_s, zk_l2_0, zk_l2_1, zk_l2_s, zk_sm0, zk_smi, zk_smr, zk_smn, zk_sml, zk_fi, zk_fz, zk_fo, zk_fn, zk_fa, zk_ts, zk_tn, zk_cases, true_and, and_true, List.getElem?_cons_zero, List.getElem?_cons_succ, List.length_cons, List.length_nil, Nat.reduceAdd, Nat.reduceLT, Nat.reduceLeDiff, List.set_cons_zero, List.set_cons_succ, va_rf, iz_lit, iz_le]
  have hPP : P (some (.int (iz (max (max (max (-1) (m 32 (12 * 0 + j))) (m 32 (12 * (0 + 1) + j))) (m 32 (12 * (0 + 1 + 1) + j)))))) (hx G B (m 1 0) (m 10 0) ad s) := by
    rw [← hQ]
    refine ⟨?_, rfl⟩
    congr 3
    unfold mst3
    rw [show 12 * 0 + j = j by omega, show 12 * (0 + 1) + j = 12 + j by omega, show 12 * (0 + 1 + 1) + j = 24 + j by omega] at *
    omega
  (repeat' (first | exact hPP | apply And.intro | intro _)) <;> first | omega | (exfalso; omega) | contradiction | exact absurd trivial (by assumption) | (exfalso; simp_all; done)
theorem lmn_m (hR : REL s m) (hM : MC m) {j : Int} (hj : 0 ≤ j ∧ j < m 10 0) : lmn s j = if m 46 j = 0 then -1 else m 47 (300 * j + (m 46 j - 1)) := by
  have jr := (hR.2.2.2.2.1 j hj.1 hj.2).1
  have e13 := jr.1.2.2.2.2.1
  have w13 := jr.2.2.2.2.2.2.1
  have hE := (hM.2.2.2.2.2.1 j hj.1 (by have := hM.2.2.2.1; omega)).2.1
  have hE1 := hE.1
  have len : s 100 (13 + 6 * j) = m 46 j := by
    have h1 := xr_len w13
    rw [e13] at h1
    rw [← h1]
    exact rl_len _ hE.1.1
  unfold lmn
  rw [len, e13]
  by_cases c : m 46 j = 0
  · rw [if_pos c, if_pos c]
  · rw [if_neg c, if_neg c]
    unfold efOf
    exact gz_rl _ (by omega) (by omega)
theorem bh_iff (hM : MC m) (hE : ME m) {j : Int} (hj : 0 ≤ j ∧ j < 12) : bhB m j = true ↔ m 0 0 ≤ (if m 46 j = 0 then -1 else m 47 (300 * j + (m 46 j - 1))) := by
  have h0 := hM.2.1
  have e1 := (hM.2.2.2.2.2.1 j hj.1 hj.2).2.1.1
  obtain ⟨o1, -, -⟩ := hE j hj.1 hj.2
  unfold bhB
  rw [bol_t]
  constructor
  · rintro ⟨i, i1, i2, i3⟩
    rw [if_neg (by omega)]
    by_cases c : i = m 46 j - 1
    · rw [← c]; exact i3
    · have := o1 i (m 46 j - 1) i1 (by omega) (by omega)
      omega
  · intro h
    by_cases c : m 46 j = 0
    · rw [if_pos c] at h; omega
    · rw [if_neg c] at h
      exact ⟨m 46 j - 1, by omega, by omega, h⟩
theorem k_runNow (hB : hxo G B (m 1 0) (m 10 0) ad) (hG : GS G) (hR : REL s m) (hM : MC m) (hP : MP m) (hE : ME m) (j : Int) (hj : -2147483648 ≤ j ∧ j ≤ 2147483647) : CC G B ad s m 82 [some (.int (iz j)), none, none] (v_rn m j) (f_rn m j) := by
  have hc := rel_cI hR hM
  have h10 := hM.2.2.2.1
  unfold v_rn f_rn
  by_cases c1 : 0 ≤ j ∧ j < m 10 0
  · have ja := c_jobAt hB hc j c1
    have hi := c_highest hB hR hM hP j c1
    have h0 := hM.2.1
    have e0 := rel_k hR 0 0
    obtain ⟨a1, a2, a3, a4, a5⟩ := rel_A hR hM j c1.1 c1.2
    have b0 := (hP.1 j (by omega) (by omega)).2.2.1
    have b1 := (hP.1 (12 + j) (by omega) (by omega)).2.2.1
    have b2 := (hP.1 (24 + j) (by omega) (by omega)).2.2.1
    have m3 : -1 ≤ mst3 m j ∧ mst3 m j ≤ 21038399 := by unfold mst3; omega
    obtain ⟨w, w1, w2⟩ := x_firstDue hB hG c1 a1 a2 a4 a5 (mst3 m j + 1) (m 0 0) (by omega) (by omega)
    have ffe := ffd_eq w1
    have wr : w = 2147483647 ∨ (0 ≤ w ∧ w ≤ 21038399) := by rcases w1 with ⟨e, -⟩ | ⟨e1, e2, -⟩ <;> omega
    have w13 := a4.2.2.2.2.2.2.1
    have lm0 := c_latM hB j c1 w13
    have lm : ∀ Q, zk_wp G 1 0 [some (.ref (ad (220 + j)))] [] (hx G B (m 1 0) (m 10 0) ad s) Q ↔ Q (some (.int (iz (lmn s j)))) (hx G B (m 1 0) (m 10 0) ad s) := lm0
    have g2 : -2147483648 ≤ lmn s j ∧ lmn s j ≤ 2147483647 := by
      unfold lmn; split
      · omega
      · exact gz_rg hR.2.2.2.2.2.2 _ _
    have bh := bh_iff hM hE (j := j) (by omega)
    rw [← lmn_m hR hM c1] at bh
    rw [if_pos c1, ffe]
    by_cases cb : bhB m j = true ∨ w ≠ 2147483647
    · rw [if_pos cb, if_neg (fun q => q.2.1 cb)]
      refine CC_q hB hR (fun Q => zk_eq ?_ Q)
      by_cases cw : w = 2147483647
      · have cl : m 0 0 ≤ lmn s j := bh.mp (cb.resolve_right (fun q => q cw))
        simp (disch := first | omega | assumption | (simp; done)) only [u_82_0, u_82_1, u_82_2, u_82_5, u_82_5N, u_82_6, u_82_7, u_82_7N, u_82_11, u_82_12, u_82_13, u_82_16, u_82_17, u_82_18, u_82_21, u_82_22, u_82_23, u_82_24, u_82_27, u_82_30, u_82_32, u_82_35, u_82_36, u_82_39, u_82_40, u_82_41, u_82_42, u_82_45, u_82_46, u_82_49, u_82_50, u_82_53, u_82_56, u_82_58, u_82_60, u_82_63, u_82_64, u_82_67, u_82_70, true_or, or_true, zk_li1_s, zk_ll1_s, zk_la1_r, zk_la1_n, zk_lg0, zk_lgs, zk_co_n, zk_co_i, zk_co_r, zk_co_u, zk_co_l, zk_l1_0, zk_l1_1, zk_l1_s, zk_l2_0, zk_l2_1, zk_l2_s, zk_sm0, zk_smi, zk_smr, zk_smn, zk_sml, zk_fi, zk_fz, zk_fo, zk_fn, zk_fa, zk_ts, zk_tn, zk_cases, true_and, and_true, List.getElem?_cons_zero, List.getElem?_cons_succ, List.length_cons, List.length_nil, Nat.reduceAdd, Nat.reduceLT, Nat.reduceLeDiff, List.set_cons_zero, List.set_cons_succ, va_rf, xi_tk hB, xg_tk_0 hB, xg_tk_1 hB, xg_tk_2 hB, xg_tk_3 hB, xg_tk_4 hB, xg_tk_5 hB, xg_tk_6 hB, xp_tk_6 hB, xg_tk_7 hB, xp_tk_7 hB, xg_tk_8 hB, xp_tk_8 hB, xg_tk_9 hB, xp_tk_9 hB, xi_jo hB, xg_jo_0 hB, xg_jo_1 hB, xg_jo_2 hB, xg_jo_3 hB, xp_jo_3 hB, xg_jo_4 hB, xp_jo_4 hB, xg_jo_5 hB, xp_jo_5 hB, xg_jo_6 hB, xp_jo_6 hB, xg_jo_7 hB, xp_jo_7 hB, xg_jo_8 hB, xp_jo_8 hB, xi_rr hB, iz_lit, iz_neg, iz_inj, iz_lt, iz_add, ja, hi, e0, w2, lm]
        all_goals ((repeat' (first | exact trivial | exact ⟨rfl, rfl⟩ | rfl | apply And.intro | intro _)) <;> first | omega | (exfalso; omega) | contradiction | (exfalso; simp_all; done) | trace_state)
      · simp (disch := first | omega | assumption | (simp; done)) only [u_82_0, u_82_1, u_82_2, u_82_5, u_82_5N, u_82_6, u_82_7, u_82_7N, u_82_11, u_82_12, u_82_13, u_82_16, u_82_17, u_82_18, u_82_21, u_82_22, u_82_23, u_82_24, u_82_27, u_82_30, u_82_32, u_82_35, u_82_36, u_82_39, u_82_40, u_82_41, u_82_42, u_82_46, u_82_49, u_82_50, u_82_53, u_82_56, u_82_58, u_82_60, u_82_63, u_82_64, u_82_67, u_82_70, true_or, or_true, zk_li1_s, zk_ll1_s, zk_la1_r, zk_la1_n, zk_lg0, zk_lgs, zk_co_n, zk_co_i, zk_co_r, zk_co_u, zk_co_l, zk_l1_0, zk_l1_1, zk_l1_s, zk_l2_0, zk_l2_1, zk_l2_s, zk_sm0, zk_smi, zk_smr, zk_smn, zk_sml, zk_fi, zk_fz, zk_fo, zk_fn, zk_fa, zk_ts, zk_tn, zk_cases, true_and, and_true, List.getElem?_cons_zero, List.getElem?_cons_succ, List.length_cons, List.length_nil, Nat.reduceAdd, Nat.reduceLT, Nat.reduceLeDiff, List.set_cons_zero, List.set_cons_succ, va_rf, xi_tk hB, xg_tk_0 hB, xg_tk_1 hB, xg_tk_2 hB, xg_tk_3 hB, xg_tk_4 hB, xg_tk_5 hB, xg_tk_6 hB, xp_tk_6 hB, xg_tk_7 hB, xp_tk_7 hB, xg_tk_8 hB, xp_tk_8 hB, xg_tk_9 hB, xp_tk_9 hB, xi_jo hB, xg_jo_0 hB, xg_jo_1 hB, xg_jo_2 hB, xg_jo_3 hB, xp_jo_3 hB, xg_jo_4 hB, xp_jo_4 hB, xg_jo_5 hB, xp_jo_5 hB, xg_jo_6 hB, xp_jo_6 hB, xg_jo_7 hB, xp_jo_7 hB, xg_jo_8 hB, xp_jo_8 hB, xi_rr hB, iz_lit, iz_neg, iz_inj, iz_lt, iz_add, ja, hi, e0, w2]
        all_goals ((repeat' (first | exact trivial | exact ⟨rfl, rfl⟩ | rfl | apply And.intro | intro _)) <;> first | omega | (exfalso; omega) | contradiction | (exfalso; simp_all; done) | trace_state)
    · rw [if_neg cb]
      have cw : w = 2147483647 := Classical.not_not.mp (fun q => cb (Or.inr q))
      have cl : ¬ m 0 0 ≤ lmn s j := fun q => cb (Or.inl (bh.mpr q))
      have b28 := a2.2.2.2.2.2.2.2.2.2.1
      have w12 := a4.2.2.2.2.2.1
      have l12 : s 100 (12 + 6 * j) = m 28 j := by have h1 := xr_len w12; rw [a4.1.2.2.2.1] at h1; rw [← h1]; exact rl_len _ b28.1
      obtain ⟨-, -, -, q12, -⟩ := rlim_j c1.1
      obtain ⟨B', ad', x1, x2, x3⟩ := c_countWith hB hc (p := 12 + 6 * j) (by omega) w12 (by omega) (m 0 0)
      rw [q12, l12] at x3
      have hPP : ∀ Q : Option Value → zk_H → Prop, zk_wp G 82 0 [some (.ref (ad 0)), some (.int (iz j)), none, none] [] (hx G B (m 1 0) (m 10 0) ad s) Q ↔ Q (some (.int (iz (if m 28 j < 8 then m 28 j + 1 else -3)))) (hx G B' (m 1 0) (m 10 0) ad' (rad s (12 + 6 * j) (m 0 0))) := by
        intro Q
        refine zk_eq ?_ Q
        clear x1
        have ax : ∀ Q, zk_wp G 35 0 [some (.ref (ad (240 + j))), some (.int (iz (m 0 0)))] [] (hx G B (m 1 0) (m 10 0) ad s) Q ↔ Q (some (.int (iz (if m 28 j < 8 then m 28 j + 1 else -3)))) (hx G B' (m 1 0) (m 10 0) ad' (rad s (12 + 6 * j) (m 0 0))) := by
          intro Q
          refine zk_eq ?_ Q
          simp (disch := first | omega | assumption | (simp; done)) only [u_35_0, u_35_1, u_35_4, u_35_5, u_35_8, true_or, or_true, zk_li1_s, zk_ll1_s, zk_la1_r, zk_la1_n, zk_lg0, zk_lgs, zk_co_n, zk_co_i, zk_co_r, zk_co_u, zk_co_l, zk_l1_0, zk_l1_1, zk_l1_s, zk_l2_0, zk_l2_1, zk_l2_s, zk_sm0, zk_smi, zk_smr, zk_smn, zk_sml, zk_fi, zk_fz, zk_fo, zk_fn, zk_fa, zk_ts, zk_tn, zk_cases, true_and, and_true, List.getElem?_cons_zero, List.getElem?_cons_succ, List.length_cons, List.length_nil, Nat.reduceAdd, Nat.reduceLT, Nat.reduceLeDiff, List.set_cons_zero, List.set_cons_succ, va_rf, xi_rr hB, xg_rr_0 hB, xg_rr_1 hB, xg_rr_2 hB, xg_rr_3 hB, xg_rr_4 hB, xg_rr_5 hB, xg_rr_6 hB, xp_rr_6 hB, xi_ro hB, x3]
        simp (disch := first | omega | assumption | (simp; done)) only [u_82_0, u_82_1, u_82_2, u_82_5, u_82_5N, u_82_6, u_82_7, u_82_7N, u_82_11, u_82_12, u_82_13, u_82_16, u_82_17, u_82_18, u_82_21, u_82_22, u_82_23, u_82_24, u_82_27, u_82_30, u_82_32, u_82_35, u_82_36, u_82_39, u_82_40, u_82_41, u_82_42, u_82_45, u_82_46, u_82_49, u_82_50, u_82_53, u_82_58, u_82_59, u_82_60, u_82_63, u_82_64, u_82_67, u_82_70, true_or, or_true, zk_li1_s, zk_ll1_s, zk_la1_r, zk_la1_n, zk_lg0, zk_lgs, zk_co_n, zk_co_i, zk_co_r, zk_co_u, zk_co_l, zk_l1_0, zk_l1_1, zk_l1_s, zk_l2_0, zk_l2_1, zk_l2_s, zk_sm0, zk_smi, zk_smr, zk_smn, zk_sml, zk_fi, zk_fz, zk_fo, zk_fn, zk_fa, zk_ts, zk_tn, zk_cases, true_and, and_true, List.getElem?_cons_zero, List.getElem?_cons_succ, List.length_cons, List.length_nil, Nat.reduceAdd, Nat.reduceLT, Nat.reduceLeDiff, List.set_cons_zero, List.set_cons_succ, va_rf, xi_tk hB, xg_tk_0 hB, xg_tk_1 hB, xg_tk_2 hB, xg_tk_3 hB, xg_tk_4 hB, xg_tk_5 hB, xg_tk_6 hB, xp_tk_6 hB, xg_tk_7 hB, xp_tk_7 hB, xg_tk_8 hB, xp_tk_8 hB, xg_tk_9 hB, xp_tk_9 hB, xi_jo hB, xg_jo_0 hB, xg_jo_1 hB, xg_jo_2 hB, xg_jo_3 hB, xp_jo_3 hB, xg_jo_4 hB, xp_jo_4 hB, xg_jo_5 hB, xp_jo_5 hB, xg_jo_6 hB, xp_jo_6 hB, xg_jo_7 hB, xp_jo_7 hB, xg_jo_8 hB, xp_jo_8 hB, xi_rr hB, iz_lit, iz_neg, iz_inj, iz_lt, iz_add, ja, hi, e0, w2, lm, ax]
        all_goals ((repeat' (first | exact trivial | exact ⟨rfl, rfl⟩ | rfl | apply And.intro | intro _)) <;> first | omega | (exfalso; omega) | contradiction | (exfalso; simp_all; done) | trace_state)
      by_cases c8 : m 28 j = 8
      · rw [if_pos c8, if_neg (fun q => q.2.2 c8)]
        rw [if_neg (by omega)] at hPP
        have r1 : rad s (12 + 6 * j) (m 0 0) = s := by unfold rad; rw [if_neg (by omega)]
        rw [r1] at hPP x1
        exact CC_x x1 (x2 0 (by omega)) hR rfl rfl hPP
      · rw [if_neg c8, if_pos ⟨c1, cb, c8⟩]
        rw [if_pos (by omega)] at hPP
        refine CC_x x1 (x2 0 (by omega)) ?_ (by simp (disch := first | omega | assumption | (simp; done)) only [up_k]) (by simp (disch := first | omega | assumption | (simp; done)) only [up_k]) hPP
        have um : ∀ k z, k ≠ 28 → k ≠ 29 → up (up m 29 (8 * j + m 28 j) (m 0 0)) 28 j (m 28 j + 1) k z = m k z := fun k z a b => by rw [up_k _ _ _ _ a, up_k _ _ _ _ b]
        have RA := REL_add (r := 3) (v := m 0 0) (m' := up (up m 29 (8 * j + m 28 j) (m 0 0)) 28 j (m 28 j + 1)) hR hM c1 (by omega) (by rw [show 9 + 6 * j + 3 = 12 + 6 * j by omega]; omega) (by omega) (fun k z q => um k z (by omega) (by omega)) (fun j' r' a b r1 r2 => ?_)
        · rw [show 9 + 6 * j + 3 = 12 + 6 * j by omega] at RA
          exact RA
        · have jb := (mc_j hM (j := j') ⟨a, b⟩).2.2.2.2.2.2.2.2.2.1
          have f1 : nwOf (up (up m 29 (8 * j + m 28 j) (m 0 0)) 28 j (m 28 j + 1)) j' = nwOf m j' := by unfold nwOf; simp only [um 17 _ (by decide) (by decide), um 18 _ (by decide) (by decide)]
          have f2 : nnOf (up (up m 29 (8 * j + m 28 j) (m 0 0)) 28 j (m 28 j + 1)) j' = nnOf m j' := by unfold nnOf; simp only [um 17 _ (by decide) (by decide), um 19 _ (by decide) (by decide)]
          have f3 : exOf (up (up m 29 (8 * j + m 28 j) (m 0 0)) 28 j (m 28 j + 1)) j' = exOf m j' := by unfold exOf; simp only [um 20 _ (by decide) (by decide), um 21 _ (by decide) (by decide)]
          have f5 : efOf (up (up m 29 (8 * j + m 28 j) (m 0 0)) 28 j (m 28 j + 1)) j' = efOf m j' := by unfold efOf; simp only [um 46 _ (by decide) (by decide), um 47 _ (by decide) (by decide)]
          have f6 : egOf (up (up m 29 (8 * j + m 28 j) (m 0 0)) 28 j (m 28 j + 1)) j' = egOf m j' := by unfold egOf; simp only [um 46 _ (by decide) (by decide), um 48 _ (by decide) (by decide)]
          have rc : r' = 0 ∨ r' = 1 ∨ r' = 2 ∨ r' = 3 ∨ r' = 4 ∨ r' = 5 := by omega
          unfold jl
          rcases rc with rfl | rfl | rfl | rfl | rfl | rfl
          · simp [f1]
          · simp [f2]
          · simp [f3]
          · simp only [show ¬ ((3 : Int) = 0) by omega, show ¬ ((3 : Int) = 1) by omega, show ¬ ((3 : Int) = 2) by omega, if_false, if_true, and_true]
            unfold xtOf
            by_cases cj : j' = j
            · subst cj
              rw [if_pos rfl, up_e, rl_succ _ b28.1, up_k _ _ _ _ (by decide), up_e]
              congr 1
              refine rl_congr (fun k k1 k2 => ?_)
              rw [up_k _ _ _ _ (by decide), up_z, if_neg (by omega)]
            · rw [if_neg cj, up_z, if_neg cj, up_k _ _ _ _ (by decide)]
              refine rl_congr (fun k k1 k2 => ?_)
              rw [up_k _ _ _ _ (by decide), up_z, if_neg (by omega)]
          · simp [f5]
          · simp [f6]
  · rw [if_neg c1, if_neg (fun q => c1 q.1)]
    have ja := c_jobAt0 hB hc j hj c1
    refine CC_q hB hR (fun Q => zk_eq ?_ Q)
    simp (disch := first | omega | assumption | (simp; done)) only [u_82_0, u_82_1, u_82_2, u_82_5, u_82_5N, u_82_6, u_82_7, u_82_7N, u_82_10, u_82_11, u_82_13, u_82_16, u_82_17, u_82_18, u_82_21, u_82_22, u_82_23, u_82_24, u_82_27, u_82_30, u_82_32, u_82_35, u_82_36, u_82_39, u_82_40, u_82_41, u_82_42, u_82_45, u_82_46, u_82_49, u_82_50, u_82_53, u_82_56, u_82_58, u_82_59, u_82_60, u_82_63, u_82_64, u_82_67, u_82_70, true_or, or_true, zk_li1_s, zk_ll1_s, zk_la1_r, zk_la1_n, zk_lg0, zk_lgs, zk_co_n, zk_co_i, zk_co_r, zk_co_u, zk_co_l, zk_l1_0, zk_l1_1, zk_l1_s, zk_l2_0, zk_l2_1, zk_l2_s, zk_sm0, zk_smi, zk_smr, zk_smn, zk_sml, zk_fi, zk_fz, zk_fo, zk_fn, zk_fa, zk_ts, zk_tn, zk_cases, true_and, and_true, List.getElem?_cons_zero, List.getElem?_cons_succ, List.length_cons, List.length_nil, Nat.reduceAdd, Nat.reduceLT, Nat.reduceLeDiff, List.set_cons_zero, List.set_cons_succ, va_rf, xi_tk hB, iz_lit, iz_neg, ja]
    all_goals ((repeat' (first | exact trivial | exact ⟨rfl, rfl⟩ | rfl | apply And.intro | intro _)) <;> first | omega | (exfalso; omega) | contradiction | (exfalso; simp_all; done) | trace_state)
theorem k_day (hB : hxo G B (m 1 0) (m 10 0) ad) (hG : GS G) (hR : REL s m) (hM : MC m) (z d w : Int) (hz : -2147483648 ≤ z ∧ z ≤ 2147483647) (hd : -2147483648 ≤ d ∧ d ≤ 2147483647) (hw : -2147483648 ≤ w ∧ w ≤ 2147483647) : CC G B ad s m 69 [some (.int (iz z)), some (.int (iz d)), some (.int (iz w)), none, none] (v_day m z d w) m := by
  refine CC_q hB hR (fun Q => zk_eq ?_ Q)
  have hc := rel_cI hR hM
  unfold v_day
  by_cases c : -1000 ≤ d ∧ d ≤ 20000
  · rw [if_pos c]
    have mo := c_monthOf G hG (hx G B (m 1 0) (m 10 0) ad s) d (by omega)
    have mr := moOf_r (d := d) (by omega)
    have sr := stOf_r (m := moOf d) (by omega)
    have t := iz_toInt (z := w) (by omega) (by omega)
    have cw : w = 0 ∨ w = 1 ∨ w = 2 ∨ w = 3 ∨ (w < 0 ∨ 3 < w) := by omega
    rcases cw with rfl | rfl | rfl | rfl | cw
    · rw [if_pos rfl]
      have ye := c_year G (hx G B (m 1 0) (m 10 0) ad s) (moOf d) (by omega)
      simp (disch := first | omega | assumption | (simp; done)) only [u_69_0, u_69_1, u_69_4, u_69_7, u_69_8, u_69_11, u_69_15, u_69_16, u_69_17, u_69_20, u_69_22, u_69_23, u_69_52, u_69_54, u_69_57, u_69_60, u_69_63, u_69_65, u_69_67, u_69_70, u_69_71, u_69_72, u_69_73, u_69_75, u_69_78, u_69_80, u_69_81, u_69_84, u_69_84N, u_69_86, u_69_88, u_69_88N, u_69_91, u_69_92, u_69_93, u_69_120, u_69_122, u_69_123, u_69_126, u_69_129, u_69_130, u_69_133, u_69_134, u_69_135, u_69_137, u_69_138, u_69_141, u_69_144, u_69_145, u_69_148, u_69_149, u_69_150, u_69_151, true_or, or_true, zk_li1_s, zk_ll1_s, zk_la1_r, zk_la1_n, zk_lg0, zk_lgs, zk_co_n, zk_co_i, zk_co_r, zk_co_u, zk_co_l, zk_l1_0, zk_l1_1, zk_l1_s, zk_l2_0, zk_l2_1, zk_l2_s, zk_sm0, zk_smi, zk_smr, zk_smn, zk_sml, zk_fi, zk_fz, zk_fo, zk_fn, zk_fa, zk_ts, zk_tn, zk_cases, true_and, and_true, List.getElem?_cons_zero, List.getElem?_cons_succ, List.length_cons, List.length_nil, Nat.reduceAdd, Nat.reduceLT, Nat.reduceLeDiff, List.set_cons_zero, List.set_cons_succ, va_rf, iz_lit, iz_neg, iz_lt, iz_le, mo, ye, t]
      all_goals ((repeat' (first | exact trivial | exact ⟨rfl, rfl⟩ | rfl | apply And.intro | intro _)) <;> first | omega | (exfalso; omega) | contradiction | (exfalso; simp_all; done) | trace_state)
    · rw [if_neg (by omega), if_pos rfl]
      have ye := c_myear G (hx G B (m 1 0) (m 10 0) ad s) (moOf d) (by omega)
      simp (disch := first | omega | assumption | (simp; done)) only [u_69_0, u_69_1, u_69_4, u_69_7, u_69_8, u_69_11, u_69_15, u_69_16, u_69_17, u_69_20, u_69_22, u_69_23, u_69_54, u_69_57, u_69_58, u_69_60, u_69_63, u_69_65, u_69_67, u_69_70, u_69_71, u_69_72, u_69_73, u_69_75, u_69_78, u_69_80, u_69_81, u_69_84, u_69_84N, u_69_86, u_69_88, u_69_88N, u_69_91, u_69_92, u_69_93, u_69_120, u_69_122, u_69_123, u_69_126, u_69_129, u_69_130, u_69_133, u_69_134, u_69_135, u_69_137, u_69_138, u_69_141, u_69_144, u_69_145, u_69_148, u_69_149, u_69_150, u_69_151, true_or, or_true, zk_li1_s, zk_ll1_s, zk_la1_r, zk_la1_n, zk_lg0, zk_lgs, zk_co_n, zk_co_i, zk_co_r, zk_co_u, zk_co_l, zk_l1_0, zk_l1_1, zk_l1_s, zk_l2_0, zk_l2_1, zk_l2_s, zk_sm0, zk_smi, zk_smr, zk_smn, zk_sml, zk_fi, zk_fz, zk_fo, zk_fn, zk_fa, zk_ts, zk_tn, zk_cases, true_and, and_true, List.getElem?_cons_zero, List.getElem?_cons_succ, List.length_cons, List.length_nil, Nat.reduceAdd, Nat.reduceLT, Nat.reduceLeDiff, List.set_cons_zero, List.set_cons_succ, va_rf, iz_lit, iz_neg, iz_lt, iz_le, mo, ye, t]
      all_goals ((repeat' (first | exact trivial | exact ⟨rfl, rfl⟩ | rfl | apply And.intro | intro _)) <;> first | omega | (exfalso; omega) | contradiction | (exfalso; simp_all; done) | trace_state)
    · rw [if_neg (by omega), if_neg (by omega), if_pos rfl]
      have ye := c_startOf G hG (hx G B (m 1 0) (m 10 0) ad s) (moOf d) (by omega)
      simp (disch := first | omega | assumption | (simp; done)) only [u_69_0, u_69_1, u_69_4, u_69_7, u_69_8, u_69_11, u_69_15, u_69_16, u_69_17, u_69_20, u_69_22, u_69_23, u_69_54, u_69_57, u_69_60, u_69_63, u_69_64, u_69_65, u_69_67, u_69_70, u_69_71, u_69_72, u_69_73, u_69_75, u_69_78, u_69_80, u_69_81, u_69_84, u_69_84N, u_69_86, u_69_88, u_69_88N, u_69_91, u_69_92, u_69_93, u_69_120, u_69_122, u_69_123, u_69_126, u_69_129, u_69_130, u_69_133, u_69_134, u_69_135, u_69_137, u_69_138, u_69_141, u_69_144, u_69_145, u_69_148, u_69_149, u_69_150, u_69_151, true_or, or_true, zk_li1_s, zk_ll1_s, zk_la1_r, zk_la1_n, zk_lg0, zk_lgs, zk_co_n, zk_co_i, zk_co_r, zk_co_u, zk_co_l, zk_l1_0, zk_l1_1, zk_l1_s, zk_l2_0, zk_l2_1, zk_l2_s, zk_sm0, zk_smi, zk_smr, zk_smn, zk_sml, zk_fi, zk_fz, zk_fo, zk_fn, zk_fa, zk_ts, zk_tn, zk_cases, true_and, and_true, List.getElem?_cons_zero, List.getElem?_cons_succ, List.length_cons, List.length_nil, Nat.reduceAdd, Nat.reduceLT, Nat.reduceLeDiff, List.set_cons_zero, List.set_cons_succ, va_rf, iz_lit, iz_neg, iz_lt, iz_le, iz_sub, iz_add, mo, ye, t]
      all_goals ((repeat' (first | exact trivial | exact ⟨rfl, rfl⟩ | rfl | apply And.intro | intro _)) <;> first | omega | (exfalso; omega) | contradiction | (exfalso; simp_all; done) | trace_state)
    · rw [if_neg (by omega), if_neg (by omega), if_neg (by omega), if_pos rfl]
      have ye := c_wd G (hx G B (m 1 0) (m 10 0) ad s) d (by omega)
      have ed : (d + 5) % 7 = wdn d := rfl
      rw [ed] at ye
      simp (disch := first | omega | assumption | (simp; done)) only [u_69_0, u_69_1, u_69_4, u_69_7, u_69_8, u_69_11, u_69_15, u_69_16, u_69_17, u_69_20, u_69_22, u_69_23, u_69_54, u_69_57, u_69_60, u_69_63, u_69_65, u_69_67, u_69_70, u_69_71, u_69_72, u_69_73, u_69_74, u_69_75, u_69_78, u_69_80, u_69_81, u_69_84, u_69_84N, u_69_86, u_69_88, u_69_88N, u_69_91, u_69_92, u_69_93, u_69_120, u_69_122, u_69_123, u_69_126, u_69_129, u_69_130, u_69_133, u_69_134, u_69_135, u_69_137, u_69_138, u_69_141, u_69_144, u_69_145, u_69_148, u_69_149, u_69_150, u_69_151, true_or, or_true, zk_li1_s, zk_ll1_s, zk_la1_r, zk_la1_n, zk_lg0, zk_lgs, zk_co_n, zk_co_i, zk_co_r, zk_co_u, zk_co_l, zk_l1_0, zk_l1_1, zk_l1_s, zk_l2_0, zk_l2_1, zk_l2_s, zk_sm0, zk_smi, zk_smr, zk_smn, zk_sml, zk_fi, zk_fz, zk_fo, zk_fn, zk_fa, zk_ts, zk_tn, zk_cases, true_and, and_true, List.getElem?_cons_zero, List.getElem?_cons_succ, List.length_cons, List.length_nil, Nat.reduceAdd, Nat.reduceLT, Nat.reduceLeDiff, List.set_cons_zero, List.set_cons_succ, va_rf, iz_lit, iz_neg, iz_lt, iz_le, mo, ye, t]
      all_goals ((repeat' (first | exact trivial | exact ⟨rfl, rfl⟩ | rfl | apply And.intro | intro _)) <;> first | omega | (exfalso; omega) | contradiction | (exfalso; simp_all; done) | trace_state)
    · rw [if_neg (by omega), if_neg (by omega), if_neg (by omega), if_neg (by omega)]
      by_cases cz : 0 ≤ z ∧ z < m 1 0
      · rw [if_pos cz]
        have za := c_zoneAt hB hc z cz
        have zn := rel_zn hB hR z cz
        have icz := znp_ic zn
        have zi := mc_z hM cz
        by_cases c4 : w = 4
        · rw [if_pos c4]
          have ih := c_isHol zn zi.2.2.2.2.2 d (by omega)
          by_cases ch : d ∈ hsOf m z
          · rw [if_pos ch] at ih
            rw [decide_eq_true ch]
            have e1 : bi true = 1 := rfl
            rw [e1]
            simp (disch := first | omega | assumption | (simp; done)) only [u_69_0, u_69_1, u_69_4, u_69_7, u_69_8, u_69_11, u_69_15, u_69_16, u_69_17, u_69_20, u_69_22, u_69_23, u_69_54, u_69_57, u_69_60, u_69_63, u_69_65, u_69_67, u_69_70, u_69_71, u_69_72, u_69_73, u_69_75, u_69_78, u_69_79, u_69_80, u_69_81, u_69_84, u_69_84N, u_69_86, u_69_88, u_69_88N, u_69_92, u_69_93, u_69_120, u_69_122, u_69_123, u_69_126, u_69_129, u_69_130, u_69_133, u_69_134, u_69_137, u_69_138, u_69_141, u_69_144, u_69_145, u_69_148, u_69_149, u_69_151, true_or, or_true, zk_li1_s, zk_ll1_s, zk_la1_r, zk_la1_n, zk_lg0, zk_lgs, zk_co_n, zk_co_i, zk_co_r, zk_co_u, zk_co_l, zk_l1_0, zk_l1_1, zk_l1_s, zk_l2_0, zk_l2_1, zk_l2_s, zk_sm0, zk_smi, zk_smr, zk_smn, zk_sml, zk_fi, zk_fz, zk_fo, zk_fn, zk_fa, zk_ts, zk_tn, zk_cases, true_and, and_true, List.getElem?_cons_zero, List.getElem?_cons_succ, List.length_cons, List.length_nil, Nat.reduceAdd, Nat.reduceLT, Nat.reduceLeDiff, List.set_cons_zero, List.set_cons_succ, va_rf, xi_tk hB, iz_lit, iz_neg, iz_inj, iz_lt, iz_le, mo, za, icz, ih, t, u_69_94]
            all_goals ((repeat' (first | exact trivial | exact ⟨rfl, rfl⟩ | rfl | apply And.intro | intro _)) <;> first | omega | (exfalso; omega) | contradiction | (exfalso; simp_all; done) | trace_state)
          · rw [if_neg ch] at ih
            rw [decide_eq_false ch]
            have e1 : bi false = 0 := rfl
            rw [e1]
            simp (disch := first | omega | assumption | (simp; done)) only [u_69_0, u_69_1, u_69_4, u_69_7, u_69_8, u_69_11, u_69_15, u_69_16, u_69_17, u_69_20, u_69_22, u_69_23, u_69_54, u_69_57, u_69_60, u_69_63, u_69_65, u_69_67, u_69_70, u_69_71, u_69_72, u_69_73, u_69_75, u_69_78, u_69_79, u_69_80, u_69_81, u_69_84, u_69_84N, u_69_86, u_69_88, u_69_88N, u_69_92, u_69_93, u_69_120, u_69_122, u_69_123, u_69_126, u_69_129, u_69_130, u_69_133, u_69_134, u_69_137, u_69_138, u_69_141, u_69_144, u_69_145, u_69_148, u_69_149, u_69_151, true_or, or_true, zk_li1_s, zk_ll1_s, zk_la1_r, zk_la1_n, zk_lg0, zk_lgs, zk_co_n, zk_co_i, zk_co_r, zk_co_u, zk_co_l, zk_l1_0, zk_l1_1, zk_l1_s, zk_l2_0, zk_l2_1, zk_l2_s, zk_sm0, zk_smi, zk_smr, zk_smn, zk_sml, zk_fi, zk_fz, zk_fo, zk_fn, zk_fa, zk_ts, zk_tn, zk_cases, true_and, and_true, List.getElem?_cons_zero, List.getElem?_cons_succ, List.length_cons, List.length_nil, Nat.reduceAdd, Nat.reduceLT, Nat.reduceLeDiff, List.set_cons_zero, List.set_cons_succ, va_rf, xi_tk hB, iz_lit, iz_neg, iz_inj, iz_lt, iz_le, mo, za, icz, ih, t, u_69_94]
            all_goals ((repeat' (first | exact trivial | exact ⟨rfl, rfl⟩ | rfl | apply And.intro | intro _)) <;> first | omega | (exfalso; omega) | contradiction | (exfalso; simp_all; done) | trace_state)
        · rw [if_neg c4]
          by_cases c5 : w = 5
          · rw [if_pos c5]
            have ih := c_isWork zn zi.2.2.2.2.2 d (by omega)
            by_cases ch : wkd (hsOf m z) d = true
            · rw [if_pos ch] at ih
              rw [ch]
              have e1 : bi true = 1 := rfl
              rw [e1]
              simp (disch := first | omega | assumption | (simp; done)) only [u_69_0, u_69_1, u_69_4, u_69_7, u_69_8, u_69_11, u_69_15, u_69_16, u_69_17, u_69_20, u_69_22, u_69_23, u_69_54, u_69_57, u_69_60, u_69_63, u_69_65, u_69_67, u_69_70, u_69_71, u_69_72, u_69_73, u_69_75, u_69_78, u_69_79, u_69_80, u_69_81, u_69_84, u_69_84N, u_69_86, u_69_88, u_69_88N, u_69_92, u_69_93, u_69_122, u_69_123, u_69_126, u_69_129, u_69_130, u_69_133, u_69_134, u_69_135, u_69_137, u_69_138, u_69_141, u_69_144, u_69_145, u_69_148, u_69_149, u_69_151, true_or, or_true, zk_li1_s, zk_ll1_s, zk_la1_r, zk_la1_n, zk_lg0, zk_lgs, zk_co_n, zk_co_i, zk_co_r, zk_co_u, zk_co_l, zk_l1_0, zk_l1_1, zk_l1_s, zk_l2_0, zk_l2_1, zk_l2_s, zk_sm0, zk_smi, zk_smr, zk_smn, zk_sml, zk_fi, zk_fz, zk_fo, zk_fn, zk_fa, zk_ts, zk_tn, zk_cases, true_and, and_true, List.getElem?_cons_zero, List.getElem?_cons_succ, List.length_cons, List.length_nil, Nat.reduceAdd, Nat.reduceLT, Nat.reduceLeDiff, List.set_cons_zero, List.set_cons_succ, va_rf, xi_tk hB, iz_lit, iz_neg, iz_inj, iz_lt, iz_le, mo, za, icz, ih, t, u_69_94]
              all_goals ((repeat' (first | exact trivial | exact ⟨rfl, rfl⟩ | rfl | apply And.intro | intro _)) <;> first | omega | (exfalso; omega) | contradiction | (exfalso; simp_all; done) | trace_state)
            · rw [if_neg ch] at ih
              have ch' : wkd (hsOf m z) d = false := by simpa using ch
              rw [ch']
              have e1 : bi false = 0 := rfl
              rw [e1]
              simp (disch := first | omega | assumption | (simp; done)) only [u_69_0, u_69_1, u_69_4, u_69_7, u_69_8, u_69_11, u_69_15, u_69_16, u_69_17, u_69_20, u_69_22, u_69_23, u_69_54, u_69_57, u_69_60, u_69_63, u_69_65, u_69_67, u_69_70, u_69_71, u_69_72, u_69_73, u_69_75, u_69_78, u_69_79, u_69_80, u_69_81, u_69_84, u_69_84N, u_69_86, u_69_88, u_69_88N, u_69_92, u_69_93, u_69_122, u_69_123, u_69_126, u_69_129, u_69_130, u_69_133, u_69_134, u_69_135, u_69_137, u_69_138, u_69_141, u_69_144, u_69_145, u_69_148, u_69_149, u_69_151, true_or, or_true, zk_li1_s, zk_ll1_s, zk_la1_r, zk_la1_n, zk_lg0, zk_lgs, zk_co_n, zk_co_i, zk_co_r, zk_co_u, zk_co_l, zk_l1_0, zk_l1_1, zk_l1_s, zk_l2_0, zk_l2_1, zk_l2_s, zk_sm0, zk_smi, zk_smr, zk_smn, zk_sml, zk_fi, zk_fz, zk_fo, zk_fn, zk_fa, zk_ts, zk_tn, zk_cases, true_and, and_true, List.getElem?_cons_zero, List.getElem?_cons_succ, List.length_cons, List.length_nil, Nat.reduceAdd, Nat.reduceLT, Nat.reduceLeDiff, List.set_cons_zero, List.set_cons_succ, va_rf, xi_tk hB, iz_lit, iz_neg, iz_inj, iz_lt, iz_le, mo, za, icz, ih, t, u_69_94]
              all_goals ((repeat' (first | exact trivial | exact ⟨rfl, rfl⟩ | rfl | apply And.intro | intro _)) <;> first | omega | (exfalso; omega) | contradiction | (exfalso; simp_all; done) | trace_state)
          · rw [if_neg c5]
            simp (disch := first | omega | assumption | (simp; done)) only [u_69_0, u_69_1, u_69_4, u_69_7, u_69_8, u_69_11, u_69_15, u_69_16, u_69_17, u_69_20, u_69_22, u_69_23, u_69_54, u_69_57, u_69_60, u_69_63, u_69_65, u_69_67, u_69_70, u_69_71, u_69_72, u_69_73, u_69_75, u_69_78, u_69_79, u_69_80, u_69_81, u_69_84, u_69_84N, u_69_86, u_69_88, u_69_88N, u_69_92, u_69_93, u_69_122, u_69_123, u_69_126, u_69_129, u_69_130, u_69_133, u_69_134, u_69_137, u_69_138, u_69_141, u_69_144, u_69_145, u_69_148, u_69_149, u_69_150, u_69_151, true_or, or_true, zk_li1_s, zk_ll1_s, zk_la1_r, zk_la1_n, zk_lg0, zk_lgs, zk_co_n, zk_co_i, zk_co_r, zk_co_u, zk_co_l, zk_l1_0, zk_l1_1, zk_l1_s, zk_l2_0, zk_l2_1, zk_l2_s, zk_sm0, zk_smi, zk_smr, zk_smn, zk_sml, zk_fi, zk_fz, zk_fo, zk_fn, zk_fa, zk_ts, zk_tn, zk_cases, true_and, and_true, List.getElem?_cons_zero, List.getElem?_cons_succ, List.length_cons, List.length_nil, Nat.reduceAdd, Nat.reduceLT, Nat.reduceLeDiff, List.set_cons_zero, List.set_cons_succ, va_rf, xi_tk hB, iz_lit, iz_neg, iz_inj, iz_lt, iz_le, mo, za, t, u_69_94]
            all_goals ((repeat' (first | exact trivial | exact ⟨rfl, rfl⟩ | rfl | apply And.intro | intro _)) <;> first | omega | (exfalso; omega) | contradiction | (exfalso; simp_all; done) | trace_state)
      · rw [if_neg cz]
        have za := c_zoneAt0 hB hc z hz cz
        simp (disch := first | omega | assumption | (simp; done)) only [u_69_0, u_69_1, u_69_4, u_69_7, u_69_8, u_69_11, u_69_15, u_69_16, u_69_17, u_69_20, u_69_22, u_69_23, u_69_54, u_69_57, u_69_60, u_69_63, u_69_65, u_69_67, u_69_70, u_69_71, u_69_72, u_69_73, u_69_75, u_69_78, u_69_79, u_69_80, u_69_81, u_69_84, u_69_84N, u_69_86, u_69_88, u_69_88N, u_69_91, u_69_92, u_69_120, u_69_122, u_69_123, u_69_126, u_69_129, u_69_130, u_69_133, u_69_134, u_69_135, u_69_137, u_69_138, u_69_141, u_69_144, u_69_145, u_69_148, u_69_149, u_69_150, u_69_151, true_or, or_true, zk_li1_s, zk_ll1_s, zk_la1_r, zk_la1_n, zk_lg0, zk_lgs, zk_co_n, zk_co_i, zk_co_r, zk_co_u, zk_co_l, zk_l1_0, zk_l1_1, zk_l1_s, zk_l2_0, zk_l2_1, zk_l2_s, zk_sm0, zk_smi, zk_smr, zk_smn, zk_sml, zk_fi, zk_fz, zk_fo, zk_fn, zk_fa, zk_ts, zk_tn, zk_cases, true_and, and_true, List.getElem?_cons_zero, List.getElem?_cons_succ, List.length_cons, List.length_nil, Nat.reduceAdd, Nat.reduceLT, Nat.reduceLeDiff, List.set_cons_zero, List.set_cons_succ, va_rf, xi_tk hB, iz_lit, iz_neg, iz_inj, iz_lt, iz_le, mo, za, t]
        all_goals ((repeat' (first | exact trivial | exact ⟨rfl, rfl⟩ | rfl | apply And.intro | intro _)) <;> first | omega | (exfalso; omega) | contradiction | (exfalso; simp_all; done) | trace_state)
  · rw [if_neg c]
    simp (disch := first | omega | assumption | (simp; done)) only [u_69_0, u_69_1, u_69_4, u_69_7, u_69_8, u_69_11, u_69_14, u_69_15, u_69_17, u_69_20, u_69_22, u_69_23, u_69_52, u_69_54, u_69_57, u_69_58, u_69_60, u_69_63, u_69_64, u_69_65, u_69_67, u_69_70, u_69_71, u_69_72, u_69_73, u_69_74, u_69_75, u_69_78, u_69_79, u_69_80, u_69_81, u_69_84, u_69_84N, u_69_86, u_69_88, u_69_88N, u_69_91, u_69_92, u_69_93, u_69_120, u_69_122, u_69_123, u_69_126, u_69_129, u_69_130, u_69_133, u_69_134, u_69_135, u_69_137, u_69_138, u_69_141, u_69_144, u_69_145, u_69_148, u_69_149, u_69_150, u_69_151, true_or, or_true, zk_li1_s, zk_ll1_s, zk_la1_r, zk_la1_n, zk_lg0, zk_lgs, zk_co_n, zk_co_i, zk_co_r, zk_co_u, zk_co_l, zk_l1_0, zk_l1_1, zk_l1_s, zk_l2_0, zk_l2_1, zk_l2_s, zk_sm0, zk_smi, zk_smr, zk_smn, zk_sml, zk_fi, zk_fz, zk_fo, zk_fn, zk_fa, zk_ts, zk_tn, zk_cases, true_and, and_true, List.getElem?_cons_zero, List.getElem?_cons_succ, List.length_cons, List.length_nil, Nat.reduceAdd, Nat.reduceLT, Nat.reduceLeDiff, List.set_cons_zero, List.set_cons_succ, va_rf, iz_lit, iz_neg, iz_lt, iz_le]
    all_goals ((repeat' (first | exact trivial | exact ⟨rfl, rfl⟩ | rfl | apply And.intro | intro _)) <;> first | omega | (exfalso; omega) | contradiction | (exfalso; simp_all; done) | trace_state)
end RUNN
