/-! the model's day, mask, between, runNow -/
def v_day (m : mS) (z d w : Int) : Int := if -1000 ≤ d ∧ d ≤ 20000 then (if w = 0 then 2000 + moOf d / 12 else if w = 1 then moOf d % 12 + 1 else if w = 2 then d - stOf (moOf d) + 1 else if w = 3 then wdn d else if 0 ≤ z ∧ z < m 1 0 then (if w = 4 then bi (decide (d ∈ hsOf m z)) else if w = 5 then bi (wkd (hsOf m z) d) else -1) else -1) else -1
theorem zI_dt {m : mS} {z d : Int} (h : zI m z) : zI (dt m d) z := (dtx_zI (dtx_dt m d) z).mpr h
section MCALL4
variable {G : zk_G} {B : zk_H} {M : Nat}
theorem d_day (hB : hpo G B M) {m : mS} (h1 : 0 ≤ m 1 0 ∧ m 1 0 ≤ 3) (hZ : ∀ z, 0 ≤ z → z < 3 → zI m z) (z d w : Int) (hz : -2147483648 ≤ z ∧ z ≤ 2147483647) (hd : -2147483648 ≤ d ∧ d ≤ 2147483647) (hw : -2147483648 ≤ w ∧ w ≤ 2147483647) : ∃ m', dtx m m' ∧ ∀ Q : Option Value → zk_H → Prop, zk_wp G 128 0 [some (.ref M), some (.int (iz z)), some (.int (iz d)), some (.int (iz w))] [] (hp G B M m) Q ↔ Q (some (.int (iz (v_day m z d w)))) (hp G B M m') := by
  have ic := hp_ic hB
  have iz1 := d_isZone hB h1 z hz
  have in1 := d_in (G := G) (hp G B M m) d (-1000) 20000 hd (by omega) (by omega)
  have in2 := d_in (G := G) (hp G B M m) w 0 5 hw (by omega) (by omega)
  unfold v_day
  by_cases c : -1000 ≤ d ∧ d ≤ 20000
  · rw [if_pos c]
    rw [if_pos c] at in1
    have da := d_date hB m d c
    obtain ⟨a1, a2, a3, -, -⟩ := agree_p c
    have e7 : dt m d 7 0 = 2000 + moOf d / 12 := by unfold dt; rw [up_e, a3]
    have e8 : dt m d 8 0 = moOf d % 12 + 1 := by unfold dt; rw [up_k _ _ _ _ (by decide), up_e, a2]
    have e9 : dt m d 9 0 = d - stOf (moOf d) + 1 := by unfold dt; rw [up_k _ _ _ _ (by decide), up_k _ _ _ _ (by decide), up_e, a1]
    have cw : w = 0 ∨ w = 1 ∨ w = 2 ∨ w = 3 ∨ w = 4 ∨ w = 5 ∨ (w < 0 ∨ 5 < w) := by omega
    rcases cw with rfl | rfl | rfl | rfl | rfl | rfl | cw
    · have t := iz_toInt (z := 0) (by omega) (by omega)
      refine ⟨dt m d, dtx_dt m d, fun Q => zk_eq ?_ Q⟩
      rw [if_pos rfl]
      rw [if_pos (by omega)] at in2
      simp (disch := first | omega | assumption | (simp; done)) only [u_128_0, u_128_1, u_128_4, u_128_7, u_128_10, u_128_13, u_128_14, u_128_15, u_128_16, u_128_19, u_128_22, u_128_23, u_128_24, u_128_28, u_128_29, u_128_32, u_128_36, u_128_37, u_128_38, u_128_39, u_128_42, u_128_43, u_128_76, u_128_77, u_128_80, u_128_82, u_128_85, u_128_87, u_128_90, u_128_92, u_128_95, u_128_97, u_128_98, u_128_99, u_128_102, u_128_105, u_128_106, u_128_109, u_128_110, u_128_112, u_128_113, u_128_114, u_128_117, u_128_120, u_128_121, u_128_124, u_128_125, true_or, or_true, zk_li1_s, zk_ll1_s, zk_la1_r, zk_la1_n, zk_lg0, zk_lgs, zk_co_n, zk_co_i, zk_co_r, zk_co_u, zk_co_l, zk_l1_0, zk_l1_1, zk_l1_s, zk_l2_0, zk_l2_1, zk_l2_s, zk_sm0, zk_smi, zk_smr, zk_smn, zk_sml, zk_fi, zk_fz, zk_fo, zk_fn, zk_fa, zk_ts, zk_tn, zk_cases, true_and, and_true, List.getElem?_cons_zero, List.getElem?_cons_succ, List.length_cons, List.length_nil, Nat.reduceAdd, Nat.reduceLT, Nat.reduceLeDiff, List.set_cons_zero, List.set_cons_succ, va_rf, ic, iz_lit, iz_neg, iz_inj, iz_le, in1, in2, da, mg_7 hB, mw_7 hB, e7, t]
      all_goals ((repeat' (first | exact trivial | exact ⟨rfl, rfl⟩ | rfl | apply And.intro | intro _)) <;> first | omega | (exfalso; omega) | contradiction | (exfalso; simp_all; done) | trace_state)
    · have t := iz_toInt (z := 1) (by omega) (by omega)
      refine ⟨dt m d, dtx_dt m d, fun Q => zk_eq ?_ Q⟩
      rw [if_neg (by omega), if_pos rfl]
      rw [if_pos (by omega)] at in2
      simp (disch := first | omega | assumption | (simp; done)) only [u_128_0, u_128_1, u_128_4, u_128_7, u_128_10, u_128_13, u_128_14, u_128_15, u_128_16, u_128_19, u_128_22, u_128_23, u_128_24, u_128_28, u_128_29, u_128_32, u_128_36, u_128_37, u_128_38, u_128_39, u_128_42, u_128_43, u_128_77, u_128_80, u_128_81, u_128_82, u_128_85, u_128_87, u_128_90, u_128_92, u_128_95, u_128_97, u_128_98, u_128_99, u_128_102, u_128_105, u_128_106, u_128_109, u_128_110, u_128_112, u_128_113, u_128_114, u_128_117, u_128_120, u_128_121, u_128_124, u_128_125, true_or, or_true, zk_li1_s, zk_ll1_s, zk_la1_r, zk_la1_n, zk_lg0, zk_lgs, zk_co_n, zk_co_i, zk_co_r, zk_co_u, zk_co_l, zk_l1_0, zk_l1_1, zk_l1_s, zk_l2_0, zk_l2_1, zk_l2_s, zk_sm0, zk_smi, zk_smr, zk_smn, zk_sml, zk_fi, zk_fz, zk_fo, zk_fn, zk_fa, zk_ts, zk_tn, zk_cases, true_and, and_true, List.getElem?_cons_zero, List.getElem?_cons_succ, List.length_cons, List.length_nil, Nat.reduceAdd, Nat.reduceLT, Nat.reduceLeDiff, List.set_cons_zero, List.set_cons_succ, va_rf, ic, iz_lit, iz_neg, iz_inj, iz_le, in1, in2, da, mg_8 hB, mw_8 hB, e8, t]
      all_goals ((repeat' (first | exact trivial | exact ⟨rfl, rfl⟩ | rfl | apply And.intro | intro _)) <;> first | omega | (exfalso; omega) | contradiction | (exfalso; simp_all; done) | trace_state)
    · have t := iz_toInt (z := 2) (by omega) (by omega)
      refine ⟨dt m d, dtx_dt m d, fun Q => zk_eq ?_ Q⟩
      rw [if_neg (by omega), if_neg (by omega), if_pos rfl]
      rw [if_pos (by omega)] at in2
      simp (disch := first | omega | assumption | (simp; done)) only [u_128_0, u_128_1, u_128_4, u_128_7, u_128_10, u_128_13, u_128_14, u_128_15, u_128_16, u_128_19, u_128_22, u_128_23, u_128_24, u_128_28, u_128_29, u_128_32, u_128_36, u_128_37, u_128_38, u_128_39, u_128_42, u_128_43, u_128_77, u_128_80, u_128_82, u_128_85, u_128_86, u_128_87, u_128_90, u_128_92, u_128_95, u_128_97, u_128_98, u_128_99, u_128_102, u_128_105, u_128_106, u_128_109, u_128_110, u_128_112, u_128_113, u_128_114, u_128_117, u_128_120, u_128_121, u_128_124, u_128_125, true_or, or_true, zk_li1_s, zk_ll1_s, zk_la1_r, zk_la1_n, zk_lg0, zk_lgs, zk_co_n, zk_co_i, zk_co_r, zk_co_u, zk_co_l, zk_l1_0, zk_l1_1, zk_l1_s, zk_l2_0, zk_l2_1, zk_l2_s, zk_sm0, zk_smi, zk_smr, zk_smn, zk_sml, zk_fi, zk_fz, zk_fo, zk_fn, zk_fa, zk_ts, zk_tn, zk_cases, true_and, and_true, List.getElem?_cons_zero, List.getElem?_cons_succ, List.length_cons, List.length_nil, Nat.reduceAdd, Nat.reduceLT, Nat.reduceLeDiff, List.set_cons_zero, List.set_cons_succ, va_rf, ic, iz_lit, iz_neg, iz_inj, iz_le, in1, in2, da, mg_9 hB, mw_9 hB, e9, t]
      all_goals ((repeat' (first | exact trivial | exact ⟨rfl, rfl⟩ | rfl | apply And.intro | intro _)) <;> first | omega | (exfalso; omega) | contradiction | (exfalso; simp_all; done) | trace_state)
    · have t := iz_toInt (z := 3) (by omega) (by omega)
      refine ⟨dt m d, dtx_dt m d, fun Q => zk_eq ?_ Q⟩
      rw [if_neg (by omega), if_neg (by omega), if_neg (by omega), if_pos rfl]
      rw [if_pos (by omega)] at in2
      have wd := d_wd (G := G) (hp G B M (dt m d)) d (by omega)
      simp (disch := first | omega | assumption | (simp; done)) only [u_128_0, u_128_1, u_128_4, u_128_7, u_128_10, u_128_13, u_128_14, u_128_15, u_128_16, u_128_19, u_128_22, u_128_23, u_128_24, u_128_28, u_128_29, u_128_32, u_128_36, u_128_37, u_128_38, u_128_39, u_128_42, u_128_43, u_128_77, u_128_80, u_128_82, u_128_85, u_128_87, u_128_90, u_128_91, u_128_92, u_128_95, u_128_97, u_128_98, u_128_99, u_128_102, u_128_105, u_128_106, u_128_109, u_128_110, u_128_112, u_128_113, u_128_114, u_128_117, u_128_120, u_128_121, u_128_124, u_128_125, true_or, or_true, zk_li1_s, zk_ll1_s, zk_la1_r, zk_la1_n, zk_lg0, zk_lgs, zk_co_n, zk_co_i, zk_co_r, zk_co_u, zk_co_l, zk_l1_0, zk_l1_1, zk_l1_s, zk_l2_0, zk_l2_1, zk_l2_s, zk_sm0, zk_smi, zk_smr, zk_smn, zk_sml, zk_fi, zk_fz, zk_fo, zk_fn, zk_fa, zk_ts, zk_tn, zk_cases, true_and, and_true, List.getElem?_cons_zero, List.getElem?_cons_succ, List.length_cons, List.length_nil, Nat.reduceAdd, Nat.reduceLT, Nat.reduceLeDiff, List.set_cons_zero, List.set_cons_succ, va_rf, ic, iz_lit, iz_neg, iz_inj, iz_le, in1, in2, da, wd, t]
      all_goals ((repeat' (first | exact trivial | exact ⟨rfl, rfl⟩ | rfl | apply And.intro | intro _)) <;> first | omega | (exfalso; omega) | contradiction | (exfalso; simp_all; done) | trace_state)
    · rw [if_neg (by omega), if_neg (by omega), if_neg (by omega), if_neg (by omega)]
      rw [if_pos (by omega)] at in2
      by_cases cz : 0 ≤ z ∧ z < m 1 0
      · have t := iz_toInt (z := 4) (by omega) (by omega)
        refine ⟨dt m d, dtx_dt m d, fun Q => zk_eq ?_ Q⟩
        rw [if_pos cz, if_pos rfl]
        rw [if_pos cz] at iz1
        have ih := d_isHol hB (zI_dt (d := d) (hZ z (by omega) (by omega))) d (by omega)
        rw [dtx_hs (dtx_dt m d)] at ih
        by_cases ch : d ∈ hsOf m z
        · rw [decide_eq_true ch] at ih ⊢
          simp (disch := first | omega | assumption | (simp; done)) only [u_128_0, u_128_1, u_128_4, u_128_7, u_128_10, u_128_13, u_128_14, u_128_15, u_128_16, u_128_19, u_128_22, u_128_23, u_128_24, u_128_27, u_128_28, u_128_29, u_128_32, u_128_36, u_128_37, u_128_38, u_128_39, u_128_42, u_128_43, u_128_77, u_128_80, u_128_82, u_128_85, u_128_87, u_128_90, u_128_92, u_128_95, u_128_96, u_128_97, u_128_98, u_128_99, u_128_102, u_128_105, u_128_106, u_128_109, u_128_110, u_128_112, u_128_113, u_128_114, u_128_117, u_128_120, u_128_121, u_128_124, u_128_125, true_or, or_true, zk_li1_s, zk_ll1_s, zk_la1_r, zk_la1_n, zk_lg0, zk_lgs, zk_co_n, zk_co_i, zk_co_r, zk_co_u, zk_co_l, zk_l1_0, zk_l1_1, zk_l1_s, zk_l2_0, zk_l2_1, zk_l2_s, zk_sm0, zk_smi, zk_smr, zk_smn, zk_sml, zk_fi, zk_fz, zk_fo, zk_fn, zk_fa, zk_ts, zk_tn, zk_cases, true_and, and_true, List.getElem?_cons_zero, List.getElem?_cons_succ, List.length_cons, List.length_nil, Nat.reduceAdd, Nat.reduceLT, Nat.reduceLeDiff, List.set_cons_zero, List.set_cons_succ, va_rf, ic, iz_lit, iz_neg, iz_inj, iz_le, in1, in2, da, iz1, ih, bi_0, t]
          all_goals ((repeat' (first | exact trivial | exact ⟨rfl, rfl⟩ | rfl | apply And.intro | intro _)) <;> first | omega | (exfalso; omega) | contradiction | (exfalso; simp_all; done) | trace_state)
        · rw [decide_eq_false ch] at ih ⊢
          simp (disch := first | omega | assumption | (simp; done)) only [u_128_0, u_128_1, u_128_4, u_128_7, u_128_10, u_128_13, u_128_14, u_128_15, u_128_16, u_128_19, u_128_22, u_128_23, u_128_24, u_128_27, u_128_28, u_128_29, u_128_32, u_128_36, u_128_37, u_128_38, u_128_39, u_128_42, u_128_43, u_128_77, u_128_80, u_128_82, u_128_85, u_128_87, u_128_90, u_128_92, u_128_95, u_128_96, u_128_97, u_128_98, u_128_99, u_128_102, u_128_105, u_128_106, u_128_109, u_128_110, u_128_112, u_128_113, u_128_114, u_128_117, u_128_120, u_128_121, u_128_124, u_128_125, true_or, or_true, zk_li1_s, zk_ll1_s, zk_la1_r, zk_la1_n, zk_lg0, zk_lgs, zk_co_n, zk_co_i, zk_co_r, zk_co_u, zk_co_l, zk_l1_0, zk_l1_1, zk_l1_s, zk_l2_0, zk_l2_1, zk_l2_s, zk_sm0, zk_smi, zk_smr, zk_smn, zk_sml, zk_fi, zk_fz, zk_fo, zk_fn, zk_fa, zk_ts, zk_tn, zk_cases, true_and, and_true, List.getElem?_cons_zero, List.getElem?_cons_succ, List.length_cons, List.length_nil, Nat.reduceAdd, Nat.reduceLT, Nat.reduceLeDiff, List.set_cons_zero, List.set_cons_succ, va_rf, ic, iz_lit, iz_neg, iz_inj, iz_le, in1, in2, da, iz1, ih, bi_0, t]
          all_goals ((repeat' (first | exact trivial | exact ⟨rfl, rfl⟩ | rfl | apply And.intro | intro _)) <;> first | omega | (exfalso; omega) | contradiction | (exfalso; simp_all; done) | trace_state)
      · refine ⟨m, dtx_r m, fun Q => zk_eq ?_ Q⟩
        rw [if_neg cz]
        rw [if_neg cz] at iz1
        simp (disch := first | omega | assumption | (simp; done)) only [u_128_0, u_128_1, u_128_4, u_128_7, u_128_10, u_128_13, u_128_14, u_128_15, u_128_16, u_128_19, u_128_22, u_128_23, u_128_24, u_128_27, u_128_28, u_128_29, u_128_32, u_128_35, u_128_36, u_128_38, u_128_39, u_128_42, u_128_43, u_128_76, u_128_77, u_128_80, u_128_81, u_128_82, u_128_85, u_128_86, u_128_87, u_128_90, u_128_91, u_128_92, u_128_95, u_128_96, u_128_97, u_128_98, u_128_99, u_128_102, u_128_105, u_128_106, u_128_109, u_128_110, u_128_111, u_128_112, u_128_113, u_128_114, u_128_117, u_128_120, u_128_121, u_128_124, u_128_125, true_or, or_true, zk_li1_s, zk_ll1_s, zk_la1_r, zk_la1_n, zk_lg0, zk_lgs, zk_co_n, zk_co_i, zk_co_r, zk_co_u, zk_co_l, zk_l1_0, zk_l1_1, zk_l1_s, zk_l2_0, zk_l2_1, zk_l2_s, zk_sm0, zk_smi, zk_smr, zk_smn, zk_sml, zk_fi, zk_fz, zk_fo, zk_fn, zk_fa, zk_ts, zk_tn, zk_cases, true_and, and_true, List.getElem?_cons_zero, List.getElem?_cons_succ, List.length_cons, List.length_nil, Nat.reduceAdd, Nat.reduceLT, Nat.reduceLeDiff, List.set_cons_zero, List.set_cons_succ, va_rf, ic, iz_lit, iz_neg, iz_inj, iz_le, in1, in2, iz1]
        all_goals ((repeat' (first | exact trivial | exact ⟨rfl, rfl⟩ | rfl | apply And.intro | intro _)) <;> first | omega | (exfalso; omega) | contradiction | (exfalso; simp_all; done) | trace_state)
    · rw [if_neg (by omega), if_neg (by omega), if_neg (by omega), if_neg (by omega)]
      rw [if_pos (by omega)] at in2
      by_cases cz : 0 ≤ z ∧ z < m 1 0
      · have t := iz_toInt (z := 5) (by omega) (by omega)
        refine ⟨dt m d, dtx_dt m d, fun Q => zk_eq ?_ Q⟩
        rw [if_pos cz, if_neg (by omega), if_pos rfl]
        rw [if_pos cz] at iz1
        have ih := d_isWork hB (zI_dt (d := d) (hZ z (by omega) (by omega))) d (by omega)
        rw [dtx_hs (dtx_dt m d)] at ih
        by_cases ch : wkd (hsOf m z) d = true
        · rw [ch] at ih ⊢
          simp (disch := first | omega | assumption | (simp; done)) only [u_128_0, u_128_1, u_128_4, u_128_7, u_128_10, u_128_13, u_128_14, u_128_15, u_128_16, u_128_19, u_128_22, u_128_23, u_128_24, u_128_27, u_128_28, u_128_29, u_128_32, u_128_36, u_128_37, u_128_38, u_128_39, u_128_42, u_128_43, u_128_77, u_128_80, u_128_82, u_128_85, u_128_87, u_128_90, u_128_92, u_128_95, u_128_97, u_128_98, u_128_99, u_128_102, u_128_105, u_128_106, u_128_109, u_128_110, u_128_111, u_128_112, u_128_113, u_128_114, u_128_117, u_128_120, u_128_121, u_128_124, u_128_125, true_or, or_true, zk_li1_s, zk_ll1_s, zk_la1_r, zk_la1_n, zk_lg0, zk_lgs, zk_co_n, zk_co_i, zk_co_r, zk_co_u, zk_co_l, zk_l1_0, zk_l1_1, zk_l1_s, zk_l2_0, zk_l2_1, zk_l2_s, zk_sm0, zk_smi, zk_smr, zk_smn, zk_sml, zk_fi, zk_fz, zk_fo, zk_fn, zk_fa, zk_ts, zk_tn, zk_cases, true_and, and_true, List.getElem?_cons_zero, List.getElem?_cons_succ, List.length_cons, List.length_nil, Nat.reduceAdd, Nat.reduceLT, Nat.reduceLeDiff, List.set_cons_zero, List.set_cons_succ, va_rf, ic, iz_lit, iz_neg, iz_inj, iz_le, in1, in2, da, iz1, ih, bi_0, t]
          all_goals ((repeat' (first | exact trivial | exact ⟨rfl, rfl⟩ | rfl | apply And.intro | intro _)) <;> first | omega | (exfalso; omega) | contradiction | (exfalso; simp_all; done) | trace_state)
        · have ch' : wkd (hsOf m z) d = false := by simpa using ch
          rw [ch'] at ih ⊢
          simp (disch := first | omega | assumption | (simp; done)) only [u_128_0, u_128_1, u_128_4, u_128_7, u_128_10, u_128_13, u_128_14, u_128_15, u_128_16, u_128_19, u_128_22, u_128_23, u_128_24, u_128_27, u_128_28, u_128_29, u_128_32, u_128_36, u_128_37, u_128_38, u_128_39, u_128_42, u_128_43, u_128_77, u_128_80, u_128_82, u_128_85, u_128_87, u_128_90, u_128_92, u_128_95, u_128_97, u_128_98, u_128_99, u_128_102, u_128_105, u_128_106, u_128_109, u_128_110, u_128_111, u_128_112, u_128_113, u_128_114, u_128_117, u_128_120, u_128_121, u_128_124, u_128_125, true_or, or_true, zk_li1_s, zk_ll1_s, zk_la1_r, zk_la1_n, zk_lg0, zk_lgs, zk_co_n, zk_co_i, zk_co_r, zk_co_u, zk_co_l, zk_l1_0, zk_l1_1, zk_l1_s, zk_l2_0, zk_l2_1, zk_l2_s, zk_sm0, zk_smi, zk_smr, zk_smn, zk_sml, zk_fi, zk_fz, zk_fo, zk_fn, zk_fa, zk_ts, zk_tn, zk_cases, true_and, and_true, List.getElem?_cons_zero, List.getElem?_cons_succ, List.length_cons, List.length_nil, Nat.reduceAdd, Nat.reduceLT, Nat.reduceLeDiff, List.set_cons_zero, List.set_cons_succ, va_rf, ic, iz_lit, iz_neg, iz_inj, iz_le, in1, in2, da, iz1, ih, bi_0, t]
          all_goals ((repeat' (first | exact trivial | exact ⟨rfl, rfl⟩ | rfl | apply And.intro | intro _)) <;> first | omega | (exfalso; omega) | contradiction | (exfalso; simp_all; done) | trace_state)
      · refine ⟨m, dtx_r m, fun Q => zk_eq ?_ Q⟩
        rw [if_neg cz]
        rw [if_neg cz] at iz1
        simp (disch := first | omega | assumption | (simp; done)) only [u_128_0, u_128_1, u_128_4, u_128_7, u_128_10, u_128_13, u_128_14, u_128_15, u_128_16, u_128_19, u_128_22, u_128_23, u_128_24, u_128_27, u_128_28, u_128_29, u_128_32, u_128_35, u_128_36, u_128_38, u_128_39, u_128_42, u_128_43, u_128_76, u_128_77, u_128_80, u_128_81, u_128_82, u_128_85, u_128_86, u_128_87, u_128_90, u_128_91, u_128_92, u_128_95, u_128_96, u_128_97, u_128_98, u_128_99, u_128_102, u_128_105, u_128_106, u_128_109, u_128_110, u_128_111, u_128_112, u_128_113, u_128_114, u_128_117, u_128_120, u_128_121, u_128_124, u_128_125, true_or, or_true, zk_li1_s, zk_ll1_s, zk_la1_r, zk_la1_n, zk_lg0, zk_lgs, zk_co_n, zk_co_i, zk_co_r, zk_co_u, zk_co_l, zk_l1_0, zk_l1_1, zk_l1_s, zk_l2_0, zk_l2_1, zk_l2_s, zk_sm0, zk_smi, zk_smr, zk_smn, zk_sml, zk_fi, zk_fz, zk_fo, zk_fn, zk_fa, zk_ts, zk_tn, zk_cases, true_and, and_true, List.getElem?_cons_zero, List.getElem?_cons_succ, List.length_cons, List.length_nil, Nat.reduceAdd, Nat.reduceLT, Nat.reduceLeDiff, List.set_cons_zero, List.set_cons_succ, va_rf, ic, iz_lit, iz_neg, iz_inj, iz_le, in1, in2, iz1]
        all_goals ((repeat' (first | exact trivial | exact ⟨rfl, rfl⟩ | rfl | apply And.intro | intro _)) <;> first | omega | (exfalso; omega) | contradiction | (exfalso; simp_all; done) | trace_state)
    · refine ⟨m, dtx_r m, fun Q => zk_eq ?_ Q⟩
      rw [if_neg (by omega), if_neg (by omega), if_neg (by omega), if_neg (by omega)]
      rw [if_neg (by omega)] at in2
      have e : (if 0 ≤ z ∧ z < m 1 0 then (if w = 4 then bi (decide (d ∈ hsOf m z)) else if w = 5 then bi (wkd (hsOf m z) d) else -1) else -1) = -1 := by
        rw [if_neg (by omega : ¬ w = 4), if_neg (by omega : ¬ w = 5)]; split <;> rfl
      rw [e]
      simp (disch := first | omega | assumption | (simp; done)) only [u_128_0, u_128_1, u_128_4, u_128_7, u_128_10, u_128_13, u_128_14, u_128_15, u_128_16, u_128_19, u_128_23, u_128_24, u_128_27, u_128_28, u_128_29, u_128_32, u_128_35, u_128_36, u_128_38, u_128_39, u_128_42, u_128_43, u_128_76, u_128_77, u_128_80, u_128_81, u_128_82, u_128_85, u_128_86, u_128_87, u_128_90, u_128_91, u_128_92, u_128_95, u_128_96, u_128_97, u_128_98, u_128_99, u_128_102, u_128_105, u_128_106, u_128_109, u_128_110, u_128_111, u_128_112, u_128_113, u_128_114, u_128_117, u_128_120, u_128_121, u_128_124, u_128_125, true_or, or_true, zk_li1_s, zk_ll1_s, zk_la1_r, zk_la1_n, zk_lg0, zk_lgs, zk_co_n, zk_co_i, zk_co_r, zk_co_u, zk_co_l, zk_l1_0, zk_l1_1, zk_l1_s, zk_l2_0, zk_l2_1, zk_l2_s, zk_sm0, zk_smi, zk_smr, zk_smn, zk_sml, zk_fi, zk_fz, zk_fo, zk_fn, zk_fa, zk_ts, zk_tn, zk_cases, true_and, and_true, List.getElem?_cons_zero, List.getElem?_cons_succ, List.length_cons, List.length_nil, Nat.reduceAdd, Nat.reduceLT, Nat.reduceLeDiff, List.set_cons_zero, List.set_cons_succ, va_rf, ic, iz_lit, iz_neg, iz_inj, iz_le, in1, in2]
      all_goals ((repeat' (first | exact trivial | exact ⟨rfl, rfl⟩ | rfl | apply And.intro | intro _)) <;> first | omega | (exfalso; omega) | contradiction | (exfalso; simp_all; done) | trace_state)
  · refine ⟨m, dtx_r m, fun Q => zk_eq ?_ Q⟩
    rw [if_neg c]
    rw [if_neg c] at in1
    simp (disch := first | omega | assumption | (simp; done)) only [u_128_0, u_128_1, u_128_4, u_128_7, u_128_10, u_128_14, u_128_15, u_128_16, u_128_19, u_128_22, u_128_23, u_128_24, u_128_27, u_128_28, u_128_29, u_128_32, u_128_35, u_128_36, u_128_38, u_128_39, u_128_42, u_128_43, u_128_76, u_128_77, u_128_80, u_128_81, u_128_82, u_128_85, u_128_86, u_128_87, u_128_90, u_128_91, u_128_92, u_128_95, u_128_96, u_128_97, u_128_98, u_128_99, u_128_102, u_128_105, u_128_106, u_128_109, u_128_110, u_128_111, u_128_112, u_128_113, u_128_114, u_128_117, u_128_120, u_128_121, u_128_124, u_128_125, true_or, or_true, zk_li1_s, zk_ll1_s, zk_la1_r, zk_la1_n, zk_lg0, zk_lgs, zk_co_n, zk_co_i, zk_co_r, zk_co_u, zk_co_l, zk_l1_0, zk_l1_1, zk_l1_s, zk_l2_0, zk_l2_1, zk_l2_s, zk_sm0, zk_smi, zk_smr, zk_smn, zk_sml, zk_fi, zk_fz, zk_fo, zk_fn, zk_fa, zk_ts, zk_tn, zk_cases, true_and, and_true, List.getElem?_cons_zero, List.getElem?_cons_succ, List.length_cons, List.length_nil, Nat.reduceAdd, Nat.reduceLT, Nat.reduceLeDiff, List.set_cons_zero, List.set_cons_succ, va_rf, ic, iz_lit, iz_neg, iz_inj, in1]
    all_goals ((repeat' (first | exact trivial | exact ⟨rfl, rfl⟩ | rfl | apply And.intro | intro _)) <;> first | omega | (exfalso; omega) | contradiction | (exfalso; simp_all; done) | trace_state)
theorem d_bits (h : zk_H) {n : Nat} (hn : n < 2 ^ 63) (Q : Option Value → zk_H → Prop) : zk_wp G 135 0 [some (.long (lN n)), none, none, none] [] h Q ↔ Q (some (.int (iz (popA n 64 : Nat)))) h := by
  refine zk_eq ?_ Q
  generalize hQ : (fun (r : Option Value) (h' : zk_H) => r = some (.int (iz (popA n 64 : Nat))) ∧ h' = h) = P
  have loop : ∀ (q k : Nat), k + q = 64 → zk_wp G 135 4 [some (.long (lN n)), none, some (.int (iz (popA n k : Nat))), some (.int (iz k))] [] h P := by
    intro q
    induction q with
    | zero =>
      intro k hk
      rw [u_135_4]
      simp (disch := first | omega | assumption | (simp; done)) only [u_135_0, u_135_1, u_135_2, u_135_3, u_135_5, u_135_7, u_135_11, u_135_12, u_135_13, u_135_14, u_135_15, u_135_16, u_135_17, u_135_18, u_135_19, u_135_22, u_135_25, u_135_26, true_or, or_true, zk_li1_s, zk_ll1_s, zk_la1_r, zk_la1_n, zk_lg0, zk_lgs, zk_co_n, zk_co_i, zk_co_r, zk_co_u, zk_co_l, zk_l1_0, zk_l1_1, zk_l1_s, zk_l2_0, zk_l2_1, zk_l2_s, zk_sm0, zk_smi, zk_smr, zk_smn, zk_sml, zk_fi, zk_fz, zk_fo, zk_fn, zk_fa, zk_ts, zk_tn, zk_cases, true_and, and_true, List.getElem?_cons_zero, List.getElem?_cons_succ, List.length_cons, List.length_nil, Nat.reduceAdd, Nat.reduceLT, Nat.reduceLeDiff, List.set_cons_zero, List.set_cons_succ, va_rf, iz_lit, iz_le]
      refine ⟨fun _ => ?_, fun c => absurd c (by omega)⟩
      rw [← hQ, show k = 64 by omega]
      exact ⟨rfl, rfl⟩
    | succ q ih =>
      intro k hk
      have nx := ih (k + 1) (by omega)
      have e1 : (popA n (k + 1) : Nat) = popA n k + n / 2 ^ k % 2 := rfl
      rw [e1, show (((k + 1 : Nat)) : Int) = (k : Int) + 1 by omega, show ((popA n k + n / 2 ^ k % 2 : Nat) : Int) = (popA n k : Int) + ((n / 2 ^ k % 2 : Nat) : Int) by omega] at nx
      have sh := lN_shr (n := n) (k := k) hn (by omega)
      rw [nI_iz] at sh
      have a1 := wb_a1 (n := n / 2 ^ k) (Nat.lt_of_le_of_lt (Nat.div_le_self _ _) (by omega))
      have m2 : n / 2 ^ k % 2 < 2 := Nat.mod_lt _ (by decide)
      have l2 : (lN (n / 2 ^ k % 2)).toInt32 = iz ((n / 2 ^ k % 2 : Nat) : Int) := by rw [← lz_lN]; exact l2i_lz (by omega)
      rw [u_135_4]
      simp (disch := first | omega | assumption | (simp; done)) only [u_135_0, u_135_1, u_135_2, u_135_3, u_135_5, u_135_7, u_135_10, u_135_11, u_135_12, u_135_13, u_135_14, u_135_15, u_135_16, u_135_17, u_135_18, u_135_19, u_135_22, u_135_25, u_135_26, true_or, or_true, zk_li1_s, zk_ll1_s, zk_la1_r, zk_la1_n, zk_lg0, zk_lgs, zk_co_n, zk_co_i, zk_co_r, zk_co_u, zk_co_l, zk_l1_0, zk_l1_1, zk_l1_s, zk_l2_0, zk_l2_1, zk_l2_s, zk_sm0, zk_smi, zk_smr, zk_smn, zk_sml, zk_fi, zk_fz, zk_fo, zk_fn, zk_fa, zk_ts, zk_tn, zk_cases, true_and, and_true, List.getElem?_cons_zero, List.getElem?_cons_succ, List.length_cons, List.length_nil, Nat.reduceAdd, Nat.reduceLT, Nat.reduceLeDiff, List.set_cons_zero, List.set_cons_succ, va_rf, iz_lit, iz_le, iz_add]
      refine ⟨fun c => absurd c (by omega), fun _ => ?_⟩
      first
        | (rw [sh, a1, l2, iz_add]; exact nx)
        | trace_state
  simp (disch := first | omega | assumption | (simp; done)) only [u_135_0, u_135_1, u_135_2, u_135_3, u_135_5, u_135_7, u_135_10, u_135_11, u_135_12, u_135_13, u_135_14, u_135_15, u_135_16, u_135_17, u_135_18, u_135_19, u_135_22, u_135_25, u_135_26, true_or, or_true, zk_li1_s, zk_ll1_s, zk_la1_r, zk_la1_n, zk_lg0, zk_lgs, zk_co_n, zk_co_i, zk_co_r, zk_co_u, zk_co_l, zk_l1_0, zk_l1_1, zk_l1_s, zk_l2_0, zk_l2_1, zk_l2_s, zk_sm0, zk_smi, zk_smr, zk_smn, zk_sml, zk_fi, zk_fz, zk_fo, zk_fn, zk_fa, zk_ts, zk_tn, zk_cases, true_and, and_true, List.getElem?_cons_zero, List.getElem?_cons_succ, List.length_cons, List.length_nil, Nat.reduceAdd, Nat.reduceLT, Nat.reduceLeDiff, List.set_cons_zero, List.set_cons_succ, va_rf, iz_lit]
  exact loop 64 0 (by omega)
end MCALL4
