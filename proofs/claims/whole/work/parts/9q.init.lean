/-! a new object of the class: registers; the whole -/
def rgo (A i : Nat) : zk_E := .inl (5, 36, .inr (.inr (.inr (.inr (fun x => if x < i then some (A + 70 + 2 * x) else none)))))
def tko (A : Nat) : zk_E := .inr (8, [.ref (A + 1), .ref (A + 2), .ref (A + 3), .ref (A + 4), .ref (A + 5), .ref (A + 6), .int (iz 0), .int (iz 0), .int (iz 0), .int (iz 0)])
def reo (a : Nat) : zk_E := .inr (3, [.ref a, .int (iz 0), .int (iz 0), .int (iz (-1)), .int (iz 0), .int (iz 0)])
def ruo : zk_E := .inr (6, [.int (iz 0), .int (iz 0), .int (iz 0), .int (iz 0), .int (iz 0), .int (iz 2147483647), .int (iz 0)])
def RPA (G : zk_G) (h : zk_H) (A i : Nat) (H : zk_H) : Prop := zk_nx G H = A + 70 + 2 * i ∧ H.2 = h.2 + 13 * i ∧ (∀ a, a < A + 70 → a ≠ A + 3 → zk_rd G H a = zk_rd G h a) ∧ zk_rd G H A = some (tko A) ∧ zk_rd G H (A + 3) = some (rgo A i) ∧ ∀ q, q < i → zk_rd G H (A + 70 + 2 * q) = some (reo (A + 71 + 2 * q)) ∧ zk_rd G H (A + 71 + 2 * q) = some ruo
section INI2
variable {G : zk_G}
theorem c_ruinit (h : zk_H) (l : List zk_E) (n : Nat) (Q : Option Value → zk_H → Prop) : zk_wp G 37 0 [some (.ref (zk_nx G h + l.length))] [] (ap h (l ++ [.inr (6, [.int (iz 0), .int (iz 0), .int (iz 0), .int (iz 0), .int (iz 0), .int (iz 0), .int (iz 0)])]) n) Q ↔ Q none (ap h (l ++ [ruo]) n) := by
  refine zk_eq ?_ Q
  have r0 : zk_rd G (ap h (l ++ [.inr (6, [.int (iz 0), .int (iz 0), .int (iz 0), .int (iz 0), .int (iz 0), .int (iz 0), .int (iz 0)])]) n) (zk_nx G h + l.length) = some (.inr (6, [.int (iz 0), .int (iz 0), .int (iz 0), .int (iz 0), .int (iz 0), .int (iz 0), .int (iz 0)])) := by rw [ap_rd]; simp
  have w0 := zk_wr_id r0
  have w1 : zk_wr G (ap h (l ++ [.inr (6, [.int (iz 0), .int (iz 0), .int (iz 0), .int (iz 0), .int (iz 0), .int (iz 0), .int (iz 0)])]) n) (zk_nx G h + l.length) (.inr (6, [.int (iz 0), .int (iz 0), .int (iz 0), .int (iz 0), .int (iz 0), .int (iz 2147483647), .int (iz 0)])) = ap h (l ++ [ruo]) n := by rw [ap_wr]; simp [ruo]
  generalize zk_nx G h + l.length = a at *
  generalize ap h (l ++ [.inr (6, [.int (iz 0), .int (iz 0), .int (iz 0), .int (iz 0), .int (iz 0), .int (iz 0), .int (iz 0)])]) n = H at *
  simp (disch := first | omega | assumption | (simp; done)) only [u_37_0, u_37_1, u_37_4, u_37_5, u_37_6, u_37_9, u_37_10, u_37_12, u_37_15, true_or, or_true, zk_li1_s, zk_ll1_s, zk_la1_r, zk_la1_n, zk_lg0, zk_lgs, zk_co_n, zk_co_i, zk_co_r, zk_co_u, zk_co_l, zk_l1_0, zk_l1_1, zk_l1_s, zk_l2_0, zk_l2_1, zk_l2_s, zk_sm0, zk_smi, zk_smr, zk_smn, zk_sml, zk_fi, zk_fz, zk_fo, zk_fn, zk_fa, zk_ts, zk_tn, zk_cases, true_and, and_true, List.getElem?_cons_zero, List.getElem?_cons_succ, List.length_cons, List.length_nil, Nat.reduceAdd, Nat.reduceLT, Nat.reduceLeDiff, List.set_cons_zero, List.set_cons_succ, va_rf, zk_og_f r0, zk_op_f r0, iz_lit, w0, w1]
  all_goals ((repeat' (first | exact trivial | exact ⟨rfl, rfl⟩ | rfl | apply And.intro | intro _)) <;> first | omega | (exfalso; omega) | contradiction | (exfalso; simp_all; done) | trace_state)
theorem c_reinit (h : zk_H) (Q : Option Value → zk_H → Prop) : zk_wp G 12 0 [some (.ref (zk_nx G h))] [] (ap h [.inr (3, [.null, .int (iz 0), .int (iz 0), .int (iz 0), .int (iz 0), .int (iz 0)])] 6) Q ↔ Q none (ap h [reo (zk_nx G h + 1), ruo] 13) := by
  refine zk_eq ?_ Q
  have c1 : ∀ Q, zk_wp G 37 0 [some (.ref (zk_nx G h + 1))] [] (ap h [.inr (3, [.null, .int (iz 0), .int (iz 0), .int (iz 0), .int (iz 0), .int (iz 0)]), .inr (6, [.int (iz 0), .int (iz 0), .int (iz 0), .int (iz 0), .int (iz 0), .int (iz 0), .int (iz 0)])] 13) Q ↔ Q none (ap h [.inr (3, [.null, .int (iz 0), .int (iz 0), .int (iz 0), .int (iz 0), .int (iz 0)]), ruo] 13) := fun Q => c_ruinit h [.inr (3, [.null, .int (iz 0), .int (iz 0), .int (iz 0), .int (iz 0), .int (iz 0)])] 13 Q
  unfold reo
  simp (disch := first | omega | assumption | (simp; done)) only [u_12_0, u_12_1, u_12_4, u_12_5, u_12_8i, u_12_8r, u_12_8n, u_12_9, u_12_12, u_12_15, u_12_16, u_12_17, u_12_20, true_or, or_true, zk_li1_s, zk_ll1_s, zk_la1_r, zk_la1_n, zk_lg0, zk_lgs, zk_co_n, zk_co_i, zk_co_r, zk_co_u, zk_co_l, zk_l1_0, zk_l1_1, zk_l1_s, zk_l2_0, zk_l2_1, zk_l2_s, zk_sm0, zk_smi, zk_smr, zk_smn, zk_sml, zk_fi, zk_fz, zk_fo, zk_fn, zk_fa, zk_ts, zk_tn, zk_og, zk_op, zk_ai, zk_aj, zk_az, zk_aa, zk_an, zk_si, zk_sz1, zk_sl1, zk_sa1, zk_cases, true_and, and_true, List.getElem?_cons_zero, List.getElem?_cons_succ, List.length_cons, List.length_nil, Nat.reduceAdd, Nat.reduceLT, Nat.reduceLeDiff, List.set_cons_zero, List.set_cons_succ, va_rf, ap_al, ap_nx, ap_rd, ap_rdz, ap_wr, ap_wrz, ap_ic, List.cons_append, List.nil_append, iz_lit, iz_neg, c1]
  all_goals ((repeat' (first | exact trivial | exact ⟨rfl, rfl⟩ | rfl | apply And.intro | intro _)) <;> first | omega | (exfalso; omega) | contradiction | (exfalso; simp_all; done) | trace_state)
theorem RPA_s {h H : zk_H} {A i : Nat} (hA : G.1 ≤ A) (hP : RPA G h A i H) : RPA G h A (i + 1) (zk_wr G (ap H [reo (A + 71 + 2 * i), ruo] 13) (A + 3) (rgo A (i + 1))) := by
  obtain ⟨p1, p2, p3, p4, p5, p6⟩ := hP
  have g1 : G.1 ≤ A + 3 := by omega
  refine ⟨by rw [wr_nx, ap_nx, p1]; simp; omega, ?_, fun a ha hn => ?_, ?_, ?_, fun q hq => ?_⟩
  · show H.2 + 13 = _
    rw [p2]; omega
  · rw [wr_rd0 _ g1 (fun e => hn e.symm), ap_rdo _ _ _ (by rw [p1]; omega), p3 a ha hn]
  · rw [wr_rd0 _ g1 (by omega), ap_rdo _ _ _ (by rw [p1]; omega), p4]
  · rw [wr_rd1 _ g1 (by rw [ap_nx, p1]; omega)]
  · rw [wr_rd0 _ g1 (by omega), wr_rd0 _ g1 (by omega)]
    by_cases c : q = i
    · subst c
      rw [show A + 70 + 2 * q = zk_nx G H by rw [p1], ap_rdz, show A + 71 + 2 * q = zk_nx G H + 1 by rw [p1]; omega, ap_rd]
      exact ⟨rfl, rfl⟩
    · rw [ap_rdo _ _ _ (by rw [p1]; omega), ap_rdo _ _ _ (by rw [p1]; omega)]
      exact p6 q (by omega)
theorem c_rloop (h : zk_H) (A : Nat) (hA : G.1 ≤ A) : ∀ (q i : Nat) (H : zk_H), i + q = 36 → RPA G h A i H → ∃ H', RPA G h A 36 H' ∧ ∀ P : Option Value → zk_H → Prop, P none H' → zk_wp G 60 57 [some (.ref A), some (.int (iz i))] [] H P := by
  intro q
  induction q with
  | zero =>
    intro i H hi hP
    have ei : i = 36 := by omega
    subst ei
    refine ⟨H, hP, fun P p => ?_⟩
    obtain ⟨p1, p2, p3, p4, p5, p6⟩ := hP
    have r4 : zk_rd G H A = some (.inr (8, [.ref (A + 1), .ref (A + 2), .ref (A + 3), .ref (A + 4), .ref (A + 5), .ref (A + 6), .int (iz 0), .int (iz 0), .int (iz 0), .int (iz 0)])) := p4
    have r5 : zk_rd G H (A + 3) = some (.inl (5, 36, .inr (.inr (.inr (.inr (fun x => if x < 36 then some (A + 70 + 2 * x) else none)))))) := p5
    have an := zk_an_f (zk_ar_rd r5)
    rw [u_60_57]
    simp (disch := first | omega | assumption | (simp; done)) only [u_60_0, u_60_1, u_60_4, u_60_5, u_60_6, u_60_9, u_60_12, u_60_13, u_60_15, u_60_18, u_60_21, u_60_22, u_60_24, u_60_27, u_60_30, u_60_31, u_60_32, u_60_34, u_60_37, u_60_38, u_60_39, u_60_41, u_60_44, u_60_45, u_60_48i, u_60_48r, u_60_48n, u_60_49, u_60_52, u_60_55, u_60_56, u_60_58, u_60_59, u_60_62, u_60_63, u_60_67, u_60_70, u_60_71, u_60_74i, u_60_74r, u_60_74n, u_60_75, u_60_78, u_60_79, u_60_82, u_60_85, true_or, or_true, zk_li1_s, zk_ll1_s, zk_la1_r, zk_la1_n, zk_lg0, zk_lgs, zk_co_n, zk_co_i, zk_co_r, zk_co_u, zk_co_l, zk_l1_0, zk_l1_1, zk_l1_s, zk_l2_0, zk_l2_1, zk_l2_s, zk_sm0, zk_smi, zk_smr, zk_smn, zk_sml, zk_fi, zk_fz, zk_fo, zk_fn, zk_fa, zk_ts, zk_tn, zk_cases, true_and, and_true, List.getElem?_cons_zero, List.getElem?_cons_succ, List.length_cons, List.length_nil, Nat.reduceAdd, Nat.reduceLT, Nat.reduceLeDiff, List.set_cons_zero, List.set_cons_succ, va_rf, zk_og_f r4, zk_op_f r4, an, iz_lit, iz_le]
    (repeat' (first | exact p | apply And.intro | intro _)) <;> first | omega | (exfalso; omega) | contradiction | exact absurd trivial (by assumption) | (exfalso; simp_all; done)
  | succ q ih =>
    intro i H hi hP
    obtain ⟨H', y1, y2⟩ := ih (i + 1) _ (by omega) (RPA_s hA hP)
    refine ⟨H', y1, fun P p => ?_⟩
    have nx := y2 P p
    rw [show (((i + 1 : Nat)) : Int) = (i : Int) + 1 by omega] at nx
    obtain ⟨p1, p2, p3, p4, p5, p6⟩ := hP
    have r4 : zk_rd G H A = some (.inr (8, [.ref (A + 1), .ref (A + 2), .ref (A + 3), .ref (A + 4), .ref (A + 5), .ref (A + 6), .int (iz 0), .int (iz 0), .int (iz 0), .int (iz 0)])) := p4
    have r5 : zk_rd G H (A + 3) = some (.inl (5, 36, .inr (.inr (.inr (.inr (fun x => if x < i then some (A + 70 + 2 * x) else none)))))) := p5
    have an := zk_an_f (zk_ar_rd r5)
    have ini := fun Q => c_reinit (G := G) H Q
    have a1 : zk_al H (.inr (3, [.null, .int (iz 0), .int (iz 0), .int (iz 0), .int (iz 0), .int (iz 0)])) 6 = ap H [.inr (3, [.null, .int (iz 0), .int (iz 0), .int (iz 0), .int (iz 0), .int (iz 0)])] 6 := rfl
    have r6 : zk_rd G (ap H [reo (A + 71 + 2 * i), ruo] 13) (A + 3) = some (.inl (5, 36, .inr (.inr (.inr (.inr (fun x => if x < i then some (A + 70 + 2 * x) else none)))))) := by rw [ap_rdo _ _ _ (by rw [p1]; omega), p5]; rfl
    have rv : zk_rd G (ap H [reo (A + 71 + 2 * i), ruo] 13) (A + 70 + 2 * i) = some (.inr (3, [.ref (A + 71 + 2 * i), .int (iz 0), .int (iz 0), .int (iz (-1)), .int (iz 0), .int (iz 0)])) := by rw [show A + 70 + 2 * i = zk_nx G H by rw [p1], ap_rdz]; rfl
    rw [show zk_nx G H + 1 = A + 71 + 2 * i by rw [p1]; omega] at ini
    rw [p1] at ini
    have sa := zk_sa_f r6 rv
    have ei := iz_toInt (z := (i : Int)) (by omega) (by omega)
    have ev : (.inl (5, 36, .inr (.inr (.inr (.inr (va_up (fun x => if x < i then some (A + 70 + 2 * x) else none) (i : Int).toNat (some (A + 70 + 2 * i)))))))  : zk_E) = rgo A (i + 1) := by
      unfold rgo
      congr 7
      funext x
      unfold va_up
      by_cases c : x = (i : Int).toNat
      · rw [if_pos c, if_pos (by omega), show x = i by omega]
      · rw [if_neg c]
        dsimp only
        by_cases c2 : x < i
        · rw [if_pos c2, if_pos (by omega)]
        · rw [if_neg c2, if_neg (by omega)]
    have ac : (3 = zk_ac 5) = True := eq_true rfl
    rw [u_60_57]
    simp (disch := first | omega | assumption | (simp; done)) only [u_60_0, u_60_1, u_60_4, u_60_5, u_60_6, u_60_9, u_60_12, u_60_13, u_60_15, u_60_18, u_60_21, u_60_22, u_60_24, u_60_27, u_60_30, u_60_31, u_60_32, u_60_34, u_60_37, u_60_38, u_60_39, u_60_41, u_60_44, u_60_45, u_60_48i, u_60_48r, u_60_48n, u_60_49, u_60_52, u_60_55, u_60_56, u_60_58, u_60_59, u_60_62, u_60_63, u_60_66, u_60_67, u_60_70, u_60_71, u_60_74i, u_60_74r, u_60_74n, u_60_75, u_60_78, u_60_79, u_60_82, true_or, or_true, zk_li1_s, zk_ll1_s, zk_la1_r, zk_la1_n, zk_lg0, zk_lgs, zk_co_n, zk_co_i, zk_co_r, zk_co_u, zk_co_l, zk_l1_0, zk_l1_1, zk_l1_s, zk_l2_0, zk_l2_1, zk_l2_s, zk_sm0, zk_smi, zk_smr, zk_smn, zk_sml, zk_fi, zk_fz, zk_fo, zk_fn, zk_fa, zk_ts, zk_tn, zk_cases, true_and, and_true, List.getElem?_cons_zero, List.getElem?_cons_succ, List.length_cons, List.length_nil, Nat.reduceAdd, Nat.reduceLT, Nat.reduceLeDiff, List.set_cons_zero, List.set_cons_succ, va_rf, zk_og_f r4, zk_op_f r4, an, iz_lit, iz_le, iz_add, p1, a1, ini, sa, ac, ei, ev]
    (repeat' (first | exact nx | apply And.intro | intro _)) <;> first | omega | (exfalso; omega) | contradiction | exact absurd trivial (by assumption) | (exfalso; simp_all; done)
/-- the heap of a new object at A, behind h0 -/
def TKI (G : zk_G) (h0 : zk_H) (A : Nat) (H : zk_H) : Prop := zk_nx G H = A + 142 ∧ H.2 = h0.2 + 1095 ∧ (∀ a, a < A → zk_rd G H a = zk_rd G h0 a) ∧ (zk_rd G H A = some (tko A) ∧ zk_rd G H (A + 1) = some (.inl (6, 3, .inr (.inr (.inr (.inr (fun _ => none)))))) ∧ zk_rd G H (A + 2) = some (.inl (3, 12, .inr (.inr (.inr (.inr (fun _ => none)))))) ∧ zk_rd G H (A + 3) = some (rgo A 36) ∧ zk_rd G H (A + 4) = some (.inl (2, 3, .inl (fun _ => iz 0))) ∧ zk_rd G H (A + 5) = some (.inl (2, 2, .inl (fun _ => iz 0)))) ∧ (zk_rd G H (A + 6) = some (lob (A + 6)) ∧ zk_rd G H (A + 7) = some (lro (A + 6) 60) ∧ zk_rd G H (A + 8) = some le0 ∧ zk_rd G H (A + 9) = some le0 ∧ ∀ q, q < 60 → zk_rd G H (A + 10 + q) = some le0) ∧ ∀ q, q < 36 → zk_rd G H (A + 70 + 2 * q) = some (reo (A + 71 + 2 * q)) ∧ zk_rd G H (A + 71 + 2 * q) = some ruo
theorem c_tinit (h0 : zk_H) : ∃ H, TKI G h0 (zk_nx G h0) H ∧ ∀ Q : Option Value → zk_H → Prop, zk_wp G 60 0 [some (.ref (zk_nx G h0)), none] [] (ap h0 [.inr (8, [.null, .null, .null, .null, .null, .null, .int (iz 0), .int (iz 0), .int (iz 0), .int (iz 0)])] 10) Q ↔ Q none H := by
  have hA : G.1 ≤ zk_nx G h0 := zk_nx_ge
  generalize hh : ap h0 [.inr (8, [.ref (zk_nx G h0 + 1), .ref (zk_nx G h0 + 2), .ref (zk_nx G h0 + 3), .ref (zk_nx G h0 + 4), .ref (zk_nx G h0 + 5), .null, .int (iz 0), .int (iz 0), .int (iz 0), .int (iz 0)]), .inl (6, 3, .inr (.inr (.inr (.inr (fun _ => none))))), .inl (3, 12, .inr (.inr (.inr (.inr (fun _ => none))))), .inl (5, 36, .inr (.inr (.inr (.inr (fun _ => none))))), .inl (2, 3, .inl (fun _ => iz 0)), .inl (2, 2, .inl (fun _ => iz 0))] 66 = h1
  have n1 : zk_nx G h1 = zk_nx G h0 + 6 := by rw [← hh, ap_nx]; rfl
  obtain ⟨H1, l1, l2⟩ := c_linit (G := G) h1
  rw [n1] at l1 l2
  obtain ⟨p1, p2, p3, p4, p5, p6, p7, p8⟩ := l1
  have rh : ∀ i : Nat, i < 6 → zk_rd G H1 (zk_nx G h0 + i) = ([.inr (8, [.ref (zk_nx G h0 + 1), .ref (zk_nx G h0 + 2), .ref (zk_nx G h0 + 3), .ref (zk_nx G h0 + 4), .ref (zk_nx G h0 + 5), .null, .int (iz 0), .int (iz 0), .int (iz 0), .int (iz 0)]), .inl (6, 3, .inr (.inr (.inr (.inr (fun _ => none))))), .inl (3, 12, .inr (.inr (.inr (.inr (fun _ => none))))), .inl (5, 36, .inr (.inr (.inr (.inr (fun _ => none))))), .inl (2, 3, .inl (fun _ => iz 0)), .inl (2, 2, .inl (fun _ => iz 0))] : List zk_E)[i]? := fun i hi => by
    rw [p3 _ (by omega), ← hh, ap_rd]
  have r0 : zk_rd G H1 (zk_nx G h0) = some (.inr (8, [.ref (zk_nx G h0 + 1), .ref (zk_nx G h0 + 2), .ref (zk_nx G h0 + 3), .ref (zk_nx G h0 + 4), .ref (zk_nx G h0 + 5), .null, .int (iz 0), .int (iz 0), .int (iz 0), .int (iz 0)])) := rh 0 (by omega)
  have w0 : zk_wr G H1 (zk_nx G h0) (.inr (8, [.ref (zk_nx G h0 + 1), .ref (zk_nx G h0 + 2), .ref (zk_nx G h0 + 3), .ref (zk_nx G h0 + 4), .ref (zk_nx G h0 + 5), .ref (zk_nx G h0 + 6), .int (iz 0), .int (iz 0), .int (iz 0), .int (iz 0)])) = zk_wr G H1 (zk_nx G h0) (tko (zk_nx G h0)) := rfl
  have hP0 : RPA G (zk_wr G H1 (zk_nx G h0) (tko (zk_nx G h0))) (zk_nx G h0) 0 (zk_wr G H1 (zk_nx G h0) (tko (zk_nx G h0))) := by
    refine ⟨by rw [wr_nx, p1], rfl, fun a _ _ => rfl, by rw [wr_rd1 _ hA (by rw [p1]; omega)], ?_, fun q hq => absurd hq (by omega)⟩
    rw [wr_rd0 _ hA (by omega), rh 3 (by omega)]
    show some _ = some _
    unfold rgo
    congr 7
  obtain ⟨H, y1, y2⟩ := c_rloop _ (zk_nx G h0) hA 36 0 _ (by omega) hP0
  refine ⟨H, ?_, fun Q => zk_eq ?_ Q⟩
  · obtain ⟨q1, q2, q3, q4, q5, q6⟩ := y1
    have o : ∀ a, a < zk_nx G h0 + 70 → a ≠ zk_nx G h0 + 3 → a ≠ zk_nx G h0 → zk_rd G H a = zk_rd G H1 a := fun a h1 h2 h3 => by
      rw [q3 a h1 h2, wr_rd0 _ hA (fun e => h3 e.symm)]
    refine ⟨by rw [q1], ?_, fun a ha => ?_, ⟨q4, ?_, ?_, q5, ?_, ?_⟩, ⟨?_, ?_, ?_, ?_, fun q hq => ?_⟩, q6⟩
    · rw [q2]
      show H1.2 + 13 * 36 = _
      rw [p2, ← hh]
      show h0.2 + 66 + 81 + 8 * 60 + 13 * 36 = _
      omega
    · rw [o a (by omega) (by omega) (by omega), p3 a (by omega), ← hh, ap_rdo _ _ _ ha]
    · rw [o _ (by omega) (by omega) (by omega), rh 1 (by omega)]; rfl
    · rw [o _ (by omega) (by omega) (by omega), rh 2 (by omega)]; rfl
    · rw [o _ (by omega) (by omega) (by omega), rh 4 (by omega)]; rfl
    · rw [o _ (by omega) (by omega) (by omega), rh 5 (by omega)]; rfl
    · rw [o _ (by omega) (by omega) (by omega), p4]
    · rw [o _ (by omega) (by omega) (by omega), p5]
    · rw [o _ (by omega) (by omega) (by omega), p6]
    · rw [o _ (by omega) (by omega) (by omega), p7]
    · rw [o _ (by omega) (by omega) (by omega), show zk_nx G h0 + 10 + q = zk_nx G h0 + 6 + 4 + q by omega, p8 q hq]
  · have nx := y2 (fun r h' => r = none ∧ h' = H) ⟨rfl, rfl⟩
    have e3 := iz_toInt (z := 3) (by omega) (by omega)
    have e12 := iz_toInt (z := 12) (by omega) (by omega)
    have e36 := iz_toInt (z := 36) (by omega) (by omega)
    have e2 := iz_toInt (z := 2) (by omega) (by omega)
    have t3 : (3 : Int).toNat = 3 := rfl
    have t12 : (12 : Int).toNat = 12 := rfl
    have t36 : (36 : Int).toNat = 36 := rfl
    have t2 : (2 : Int).toNat = 2 := rfl
    have a1 : zk_al h1 (.inr (2, [.null, .null, .null, .int (iz 0), .int (iz 0)])) 5 = ap h1 [.inr (2, [.null, .null, .null, .int (iz 0), .int (iz 0)])] 5 := rfl
    have st2 : ∀ o, zk_wp G 60 44 [some (.ref (zk_nx G h0)), o] [] h1 (fun r h' => r = none ∧ h' = H) := by
      intro o
      simp (disch := first | omega | assumption | (simp; done)) only [u_60_12, u_60_13, u_60_15, u_60_18, u_60_21, u_60_22, u_60_24, u_60_27, u_60_30, u_60_31, u_60_32, u_60_34, u_60_37, u_60_38, u_60_39, u_60_41, u_60_44, u_60_45, u_60_48i, u_60_48r, u_60_48n, u_60_49, u_60_52, u_60_55, u_60_56, u_60_58, u_60_59, u_60_62, u_60_63, u_60_66, u_60_67, u_60_70, u_60_71, u_60_74i, u_60_74r, u_60_74n, u_60_75, u_60_78, u_60_79, u_60_82, u_60_85, true_or, or_true, zk_li1_s, zk_ll1_s, zk_la1_r, zk_la1_n, zk_lg0, zk_lgs, zk_co_n, zk_co_i, zk_co_r, zk_co_u, zk_co_l, zk_l1_0, zk_l1_1, zk_l1_s, zk_l2_0, zk_l2_1, zk_l2_s, zk_sm0, zk_smi, zk_smr, zk_smn, zk_sml, zk_fi, zk_fz, zk_fo, zk_fn, zk_fa, zk_ts, zk_tn, zk_cases, true_and, and_true, List.getElem?_cons_zero, List.getElem?_cons_succ, List.length_cons, List.length_nil, Nat.reduceAdd, Nat.reduceLT, Nat.reduceLeDiff, List.set_cons_zero, List.set_cons_succ, va_rf, zk_og_f r0, zk_op_f r0, iz_lit, n1, a1, l2, w0]
      (repeat' (first | exact nx | apply And.intro | intro _)) <;> first | omega | (exfalso; omega) | contradiction | exact absurd trivial (by assumption) | (exfalso; simp_all; done)
    have s2 := st2 none
    simp (disch := first | omega | assumption | (simp; done)) only [u_60_0, u_60_1, u_60_4, u_60_5, u_60_6, u_60_9, u_60_12, u_60_13, u_60_15, u_60_18, u_60_21, u_60_22, u_60_24, u_60_27, u_60_30, u_60_31, u_60_32, u_60_34, u_60_37, u_60_38, u_60_39, u_60_41, u_60_48i, u_60_48r, u_60_48n, u_60_49, u_60_52, u_60_55, u_60_56, u_60_57, u_60_58, u_60_59, u_60_62, u_60_63, u_60_66, u_60_67, u_60_70, u_60_71, u_60_74i, u_60_74r, u_60_74n, u_60_75, u_60_78, u_60_79, u_60_82, u_60_85, true_or, or_true, zk_li1_s, zk_ll1_s, zk_la1_r, zk_la1_n, zk_lg0, zk_lgs, zk_co_n, zk_co_i, zk_co_r, zk_co_u, zk_co_l, zk_l1_0, zk_l1_1, zk_l1_s, zk_l2_0, zk_l2_1, zk_l2_s, zk_sm0, zk_smi, zk_smr, zk_smn, zk_sml, zk_fi, zk_fz, zk_fo, zk_fn, zk_fa, zk_ts, zk_tn, zk_og, zk_op, zk_ai, zk_aj, zk_az, zk_aa, zk_an, zk_si, zk_sz1, zk_sl1, zk_sa1, zk_cases, true_and, and_true, List.getElem?_cons_zero, List.getElem?_cons_succ, List.length_cons, List.length_nil, Nat.reduceAdd, Nat.reduceLT, Nat.reduceLeDiff, List.set_cons_zero, List.set_cons_succ, va_rf, ap_al, ap_nx, ap_rd, ap_rdz, ap_wr, ap_wrz, ap_ic, List.cons_append, List.nil_append, iz_lit, e3, e12, e36, e2, t3, t12, t36, t2, hh]
    (repeat' (first | exact s2 | apply And.intro | intro _)) <;> first | omega | (exfalso; omega) | contradiction | exact absurd trivial (by assumption) | (exfalso; simp_all; done)
end INI2
