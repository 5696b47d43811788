/-! a new object of the class -/
def le0 : zk_E := .inr (1, [.int (iz 0), .int (iz 0), .int (iz 0), .int (iz 0), .int (iz 0), .int (iz 0), .int (iz 0), .int (iz 0)])
def lro (A i : Nat) : zk_E := .inl (4, 60, .inr (.inr (.inr (.inr (fun x => if x < i then some (A + 4 + x) else none)))))
def lob (A : Nat) : zk_E := .inr (2, [.ref (A + 1), .ref (A + 2), .ref (A + 3), .int (iz 0), .int (iz 0)])
def LPA (G : zk_G) (h : zk_H) (A i : Nat) (H : zk_H) : Prop := zk_nx G H = A + 4 + i ∧ H.2 = h.2 + 81 + 8 * i ∧ (∀ a, a < A → zk_rd G H a = zk_rd G h a) ∧ zk_rd G H A = some (lob A) ∧ zk_rd G H (A + 1) = some (lro A i) ∧ zk_rd G H (A + 2) = some le0 ∧ zk_rd G H (A + 3) = some le0 ∧ ∀ q, q < i → zk_rd G H (A + 4 + q) = some le0
section INI
variable {G : zk_G}
theorem c_leinit (H : zk_H) (a : Nat) (Q : Option Value → zk_H → Prop) : zk_wp G 5 0 [some (.ref a)] [] H Q ↔ Q none H := by
  refine zk_eq ?_ Q
  simp (disch := first | omega | assumption | (simp; done)) only [u_5_0, u_5_1, u_5_4, true_or, or_true, zk_li1_s, zk_ll1_s, zk_la1_r, zk_la1_n, zk_lg0, zk_lgs, zk_co_n, zk_co_i, zk_co_r, zk_co_u, zk_co_l, zk_l1_0, zk_l1_1, zk_l1_s, zk_l2_0, zk_l2_1, zk_l2_s, zk_sm0, zk_smi, zk_smr, zk_smn, zk_sml, zk_fi, zk_fz, zk_fo, zk_fn, zk_fa, zk_ts, zk_tn, zk_cases, true_and, and_true, List.getElem?_cons_zero, List.getElem?_cons_succ, List.length_cons, List.length_nil, Nat.reduceAdd, Nat.reduceLT, Nat.reduceLeDiff, List.set_cons_zero, List.set_cons_succ, va_rf]
  all_goals ((repeat' (first | exact trivial | exact ⟨rfl, rfl⟩ | rfl | apply And.intro | intro _)) <;> first | omega | (exfalso; omega) | contradiction | (exfalso; simp_all; done) | trace_state)
theorem LPA_s {h H : zk_H} {A i : Nat} (hA : G.1 ≤ A) (hP : LPA G h A i H) : LPA G h A (i + 1) (zk_wr G (zk_al H le0 8) (A + 1) (lro A (i + 1))) := by
  obtain ⟨p1, p2, p3, p4, p5, p6, p7, p8⟩ := hP
  have g1 : G.1 ≤ A + 1 := by omega
  refine ⟨by rw [wr_nx, al_nx, p1]; omega, ?_, fun a ha => ?_, ?_, ?_, ?_, ?_, fun q hq => ?_⟩
  · show H.2 + 8 = _
    rw [p2]; omega
  · rw [wr_rd0 _ g1 (by omega), al_rd0 _ _ (by rw [p1]; omega), p3 a ha]
  · rw [wr_rd0 _ g1 (by omega), al_rd0 _ _ (by rw [p1]; omega), p4]
  · rw [wr_rd1 _ g1 (by rw [al_nx, p1]; omega)]
  · rw [wr_rd0 _ g1 (by omega), al_rd0 _ _ (by rw [p1]; omega), p6]
  · rw [wr_rd0 _ g1 (by omega), al_rd0 _ _ (by rw [p1]; omega), p7]
  · rw [wr_rd0 _ g1 (by omega)]
    by_cases c : q = i
    · rw [c, ← p1, al_rd1]
    · rw [al_rd0 _ _ (by rw [p1]; omega), p8 q (by omega)]
theorem c_lloop (h : zk_H) (A : Nat) (hA : G.1 ≤ A) : ∀ (q i : Nat) (H : zk_H), i + q = 60 → LPA G h A i H → ∃ H', LPA G h A 60 H' ∧ ∀ P : Option Value → zk_H → Prop, P none H' → zk_wp G 8 37 [some (.ref A), some (.int (iz i))] [] H P := by
  intro q
  induction q with
  | zero =>
    intro i H hi hP
    have ei : i = 60 := by omega
    subst ei
    refine ⟨H, hP, fun P p => ?_⟩
    rw [u_8_37]
    simp (disch := first | omega | assumption | (simp; done)) only [u_8_0, u_8_1, u_8_4, u_8_5, u_8_7, u_8_10, u_8_13, u_8_14, u_8_17i, u_8_17r, u_8_17n, u_8_18, u_8_21, u_8_24, u_8_25, u_8_28i, u_8_28r, u_8_28n, u_8_29, u_8_32, u_8_35, u_8_36, u_8_38, u_8_40, u_8_44, u_8_47, u_8_48, u_8_51i, u_8_51r, u_8_51n, u_8_52, u_8_55, u_8_56, u_8_59, u_8_62, true_or, or_true, zk_li1_s, zk_ll1_s, zk_la1_r, zk_la1_n, zk_lg0, zk_lgs, zk_co_n, zk_co_i, zk_co_r, zk_co_u, zk_co_l, zk_l1_0, zk_l1_1, zk_l1_s, zk_l2_0, zk_l2_1, zk_l2_s, zk_sm0, zk_smi, zk_smr, zk_smn, zk_sml, zk_fi, zk_fz, zk_fo, zk_fn, zk_fa, zk_ts, zk_tn, zk_cases, true_and, and_true, List.getElem?_cons_zero, List.getElem?_cons_succ, List.length_cons, List.length_nil, Nat.reduceAdd, Nat.reduceLT, Nat.reduceLeDiff, List.set_cons_zero, List.set_cons_succ, va_rf, iz_lit, iz_le]
    (repeat' (first | exact p | apply And.intro | intro _)) <;> first | omega | (exfalso; omega) | contradiction | exact absurd trivial (by assumption) | (exfalso; simp_all; done)
  | succ q ih =>
    intro i H hi hP
    obtain ⟨H', y1, y2⟩ := ih (i + 1) _ (by omega) (LPA_s hA hP)
    refine ⟨H', y1, fun P p => ?_⟩
    have nx := y2 P p
    rw [show (((i + 1 : Nat)) : Int) = (i : Int) + 1 by omega] at nx
    obtain ⟨p1, p2, p3, p4, p5, p6, p7, p8⟩ := hP
    have r4 : zk_rd G H A = some (.inr (2, [.ref (A + 1), .ref (A + 2), .ref (A + 3), .int (iz 0), .int (iz 0)])) := p4
    have r5 : zk_rd G (zk_al H le0 8) (A + 1) = some (.inl (4, 60, .inr (.inr (.inr (.inr (fun x => if x < i then some (A + 4 + x) else none)))))) := by rw [al_rd0 _ _ (by rw [p1]; omega), p5]; rfl
    have rv : zk_rd G (zk_al H le0 8) (A + 4 + i) = some (.inr (1, [.int (iz 0), .int (iz 0), .int (iz 0), .int (iz 0), .int (iz 0), .int (iz 0), .int (iz 0), .int (iz 0)])) := by rw [← p1, al_rd1]; rfl
    have sa := zk_sa_f r5 rv
    have ei := iz_toInt (z := (i : Int)) (by omega) (by omega)
    have ev : (.inl (4, 60, .inr (.inr (.inr (.inr (va_up (fun x => if x < i then some (A + 4 + x) else none) (i : Int).toNat (some (A + 4 + i)))))))  : zk_E) = lro A (i + 1) := by
      unfold lro
      congr 7
      funext x
      unfold va_up
      by_cases c : x = (i : Int).toNat
      · rw [if_pos c, if_pos (by omega), show x = i by omega]
      · rw [if_neg c]
        dsimp only
        by_cases c2 : x < i
        · rw [if_pos c2, if_pos (by omega)]
        · rw [if_neg c2, if_neg (by omega)]
    have el : (.inr (1, [.int (iz 0), .int (iz 0), .int (iz 0), .int (iz 0), .int (iz 0), .int (iz 0), .int (iz 0), .int (iz 0)]) : zk_E) = le0 := rfl
    have ini := fun H a Q => c_leinit (G := G) H a Q
    have ac : (1 = zk_ac 4) = True := eq_true rfl
    rw [u_8_37]
    simp (disch := first | omega | assumption | (simp; done)) only [u_8_0, u_8_1, u_8_4, u_8_5, u_8_7, u_8_10, u_8_13, u_8_14, u_8_17i, u_8_17r, u_8_17n, u_8_18, u_8_21, u_8_24, u_8_25, u_8_28i, u_8_28r, u_8_28n, u_8_29, u_8_32, u_8_35, u_8_36, u_8_38, u_8_40, u_8_43, u_8_44, u_8_47, u_8_48, u_8_51i, u_8_51r, u_8_51n, u_8_52, u_8_55, u_8_56, u_8_59, true_or, or_true, zk_li1_s, zk_ll1_s, zk_la1_r, zk_la1_n, zk_lg0, zk_lgs, zk_co_n, zk_co_i, zk_co_r, zk_co_u, zk_co_l, zk_l1_0, zk_l1_1, zk_l1_s, zk_l2_0, zk_l2_1, zk_l2_s, zk_sm0, zk_smi, zk_smr, zk_smn, zk_sml, zk_fi, zk_fz, zk_fo, zk_fn, zk_fa, zk_ts, zk_tn, zk_cases, true_and, and_true, List.getElem?_cons_zero, List.getElem?_cons_succ, List.length_cons, List.length_nil, Nat.reduceAdd, Nat.reduceLT, Nat.reduceLeDiff, List.set_cons_zero, List.set_cons_succ, va_rf, zk_og_f r4, zk_op_f r4, iz_lit, iz_le, iz_add, el, p1, ini, sa, ac, ei, ev]
    (repeat' (first | exact nx | apply And.intro | intro _)) <;> first | omega | (exfalso; omega) | contradiction | exact absurd trivial (by assumption) | (exfalso; simp_all; done)
theorem c_linit (h : zk_H) : ∃ H, LPA G h (zk_nx G h) 60 H ∧ ∀ Q : Option Value → zk_H → Prop, zk_wp G 8 0 [some (.ref (zk_nx G h)), none] [] (ap h [.inr (2, [.null, .null, .null, .int (iz 0), .int (iz 0)])] 5) Q ↔ Q none H := by
  have hA : G.1 ≤ zk_nx G h := zk_nx_ge
  have l0 : LPA G h (zk_nx G h) 0 (ap h [.inr (2, [.ref (zk_nx G h + 1), .ref (zk_nx G h + 2), .ref (zk_nx G h + 3), .int (iz 0), .int (iz 0)]), .inl (4, 60, .inr (.inr (.inr (.inr (fun _ => none))))), .inr (1, [.int (iz 0), .int (iz 0), .int (iz 0), .int (iz 0), .int (iz 0), .int (iz 0), .int (iz 0), .int (iz 0)]), .inr (1, [.int (iz 0), .int (iz 0), .int (iz 0), .int (iz 0), .int (iz 0), .int (iz 0), .int (iz 0), .int (iz 0)])] 81) := by
    refine ⟨by rw [ap_nx]; rfl, rfl, fun a ha => ap_rdo _ _ _ ha, by rw [ap_rdz]; rfl, ?_, by rw [ap_rd]; rfl, by rw [ap_rd]; rfl, fun q hq => absurd hq (by omega)⟩
    rw [ap_rd]
    show some _ = some _
    unfold lro
    congr 7
  obtain ⟨H, y1, y2⟩ := c_lloop h (zk_nx G h) hA 60 0 _ (by omega) l0
  refine ⟨H, y1, fun Q => zk_eq ?_ Q⟩
  have nx := y2 (fun r h' => r = none ∧ h' = H) ⟨rfl, rfl⟩
  have e60 := iz_toInt (z := 60) (by omega) (by omega)
  have t60 : (60 : Int).toNat = 60 := rfl
  have ini := fun H a Q => c_leinit (G := G) H a Q
  simp (disch := first | omega | assumption | (simp; done)) only [u_8_0, u_8_1, u_8_4, u_8_5, u_8_7, u_8_10, u_8_13, u_8_14, u_8_17i, u_8_17r, u_8_17n, u_8_18, u_8_21, u_8_24, u_8_25, u_8_28i, u_8_28r, u_8_28n, u_8_29, u_8_32, u_8_35, u_8_36, u_8_38, u_8_40, u_8_43, u_8_44, u_8_47, u_8_48, u_8_51i, u_8_51r, u_8_51n, u_8_52, u_8_55, u_8_56, u_8_59, u_8_62, true_or, or_true, zk_li1_s, zk_ll1_s, zk_la1_r, zk_la1_n, zk_lg0, zk_lgs, zk_co_n, zk_co_i, zk_co_r, zk_co_u, zk_co_l, zk_l1_0, zk_l1_1, zk_l1_s, zk_l2_0, zk_l2_1, zk_l2_s, zk_sm0, zk_smi, zk_smr, zk_smn, zk_sml, zk_fi, zk_fz, zk_fo, zk_fn, zk_fa, zk_ts, zk_tn, zk_og, zk_op, zk_ai, zk_aj, zk_az, zk_aa, zk_an, zk_si, zk_sz1, zk_sl1, zk_sa1, zk_cases, true_and, and_true, List.getElem?_cons_zero, List.getElem?_cons_succ, List.length_cons, List.length_nil, Nat.reduceAdd, Nat.reduceLT, Nat.reduceLeDiff, List.set_cons_zero, List.set_cons_succ, va_rf, ap_al, ap_nx, ap_rd, ap_rdz, ap_wr, ap_wrz, ap_ic, List.cons_append, List.nil_append, iz_lit, e60, t60, ini]
  (repeat' (first | exact nx | apply And.intro | intro _)) <;> first | omega | (exfalso; omega) | contradiction | exact absurd trivial (by assumption) | (exfalso; simp_all; done)
end INI
