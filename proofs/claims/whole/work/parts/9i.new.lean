/-! new cells behind a heap -/
def ap (h : zk_H) (l : List zk_E) (n : Nat) : zk_H := (h.1 ++ l, h.2 + n)
section APP
variable {G : zk_G}
theorem ap_al (h : zk_H) (l : List zk_E) (n : Nat) (e : zk_E) (k : Nat) : zk_al (ap h l n) e k = ap h (l ++ [e]) (n + k) := by
  unfold zk_al ap
  simp [Nat.add_assoc]
theorem al_ap (h : zk_H) (e : zk_E) (k : Nat) : zk_al h e k = ap h [e] k := rfl
theorem ap_nx (h : zk_H) (l : List zk_E) (n : Nat) : zk_nx G (ap h l n) = zk_nx G h + l.length := by
  unfold zk_nx ap
  simp [Nat.add_assoc]
theorem ap_rd (h : zk_H) (l : List zk_E) (n i : Nat) : zk_rd G (ap h l n) (zk_nx G h + i) = l[i]? := by
  unfold zk_rd ap zk_nx
  dsimp only
  rw [if_neg (by omega), List.getElem?_append_right (by omega)]
  congr 1
  omega
theorem ap_rdz (h : zk_H) (l : List zk_E) (n : Nat) : zk_rd G (ap h l n) (zk_nx G h) = l[0]? := ap_rd h l n 0
theorem ap_rdo (h : zk_H) (l : List zk_E) (n : Nat) {a : Nat} (ha : a < zk_nx G h) : zk_rd G (ap h l n) a = zk_rd G h a := by
  unfold zk_rd ap
  unfold zk_nx at ha
  dsimp only
  split
  · rfl
  · rw [List.getElem?_append_left (by omega)]
theorem ap_wr (h : zk_H) (l : List zk_E) (n i : Nat) (e : zk_E) : zk_wr G (ap h l n) (zk_nx G h + i) e = ap h (l.set i e) n := by
  unfold zk_wr ap zk_nx
  dsimp only
  rw [List.set_append_right _ _ (by omega)]
  congr 3
  omega
theorem ap_wrz (h : zk_H) (l : List zk_E) (n : Nat) (e : zk_E) : zk_wr G (ap h l n) (zk_nx G h) e = ap h (l.set 0 e) n := ap_wr h l n 0 e
theorem ap_wro (h : zk_H) (l : List zk_E) (n : Nat) {a : Nat} (e : zk_E) (h1 : G.1 ≤ a) (ha : a < zk_nx G h) : zk_wr G (ap h l n) a e = ap (zk_wr G h a e) l n := by
  unfold zk_wr ap
  unfold zk_nx at ha
  dsimp only
  rw [List.set_append_left _ _ (by omega)]
theorem ap_ar (h : zk_H) (l : List zk_E) (n i : Nat) : zk_ar G (ap h l n) (zk_nx G h + i) = match l[i]? with
    | some (.inl x) => some x
    | _ => none := by
  unfold zk_ar ap zk_nx
  dsimp only
  rw [if_neg (by omega), List.getElem?_append_right (by omega), show G.1 + h.1.length + i - G.1 - h.1.length = i by omega]
  cases l[i]? with
  | none => rfl
  | some e => cases e <;> rfl
theorem ap_ic (h : zk_H) (l : List zk_E) (n i ci : Nat) : zk_ic G (ap h l n) (zk_nx G h + i) ci ↔ (match l[i]? with
    | some (.inr (cj, _)) => cj = ci
    | _ => False) := by
  unfold zk_ic
  rw [ap_rd]
  split
  · rename_i cj fs e
    rw [e]
    constructor
    · rintro ⟨fs', q⟩; cases q; rfl
    · rintro rfl; exact ⟨_, rfl⟩
  · rename_i q
    constructor
    · rintro ⟨fs', e⟩; exact q _ _ e
    · intro f; exact f.elim
theorem zf_upd : upd (fun _ => iz 0) (iz 0).toInt.toNat (iz 0) = fun _ => iz 0 := by
  funext x
  rw [upd_ap]
  split <;> rfl
theorem c_row (h : zk_H) (l : List zk_E) (n k : Nat) (L : Int) (hL : 1 ≤ L ∧ L ≤ 60000) (hk : (k : Int) = min L 8) (Q : Option Value → zk_H → Prop) : zk_wp G 17 0 [some (.ref (zk_nx G h + l.length)), some (.int (iz L))] [] (ap h (l ++ [.inr (4, [.int (iz 0), .null, .int (iz 0)])]) n) Q ↔ Q none (ap h (l ++ [.inr (4, [.int (iz L), .ref (zk_nx G h + l.length + 1), .int (iz 0)]), .inl (0, k, .inl (fun _ => iz 0))]) (n + k)) := by
  refine zk_eq ?_ Q
  have mx := fun H => c_mx G H L 1 (by omega) (by omega)
  have mn := fun H => c_mn G H L 8 (by omega) (by omega)
  have e1 := iz_toInt (z := min L 8) (by omega) (by omega)
  have kt : (min L 8).toNat = k := by omega
  have g0 : (l ++ [(.inr (4, [.int (iz 0), .null, .int (iz 0)]) : zk_E)])[l.length]? = some (.inr (4, [.int (iz 0), .null, .int (iz 0)])) := by simp
  have r0 : zk_rd G (ap h (l ++ [.inr (4, [.int (iz 0), .null, .int (iz 0)])]) n) (zk_nx G h + l.length) = some (.inr (4, [.int (iz 0), .null, .int (iz 0)])) := by rw [ap_rd, g0]
  have w0 : zk_wr G (ap h (l ++ [.inr (4, [.int (iz 0), .null, .int (iz 0)])]) n) (zk_nx G h + l.length) (.inr (4, [.int (iz L), .null, .int (iz 0)])) = ap h (l ++ [.inr (4, [.int (iz L), .null, .int (iz 0)])]) n := by rw [ap_wr]; simp
  have r1 : zk_rd G (ap h (l ++ [.inr (4, [.int (iz L), .null, .int (iz 0)])]) n) (zk_nx G h + l.length) = some (.inr (4, [.int (iz L), .null, .int (iz 0)])) := by rw [ap_rd]; simp
  have n1 : zk_nx G (ap h (l ++ [.inr (4, [.int (iz L), .null, .int (iz 0)])]) n) = zk_nx G h + l.length + 1 := by rw [ap_nx]; simp [Nat.add_assoc]
  have a1 : zk_al (ap h (l ++ [.inr (4, [.int (iz L), .null, .int (iz 0)])]) n) (.inl (0, k, .inl (fun _ => iz 0))) k = ap h (l ++ [.inr (4, [.int (iz L), .null, .int (iz 0)]), .inl (0, k, .inl (fun _ => iz 0))]) (n + k) := by rw [ap_al]; simp
  have r2 : zk_rd G (ap h (l ++ [.inr (4, [.int (iz L), .null, .int (iz 0)]), .inl (0, k, .inl (fun _ => iz 0))]) (n + k)) (zk_nx G h + l.length) = some (.inr (4, [.int (iz L), .null, .int (iz 0)])) := by rw [ap_rd]; simp
  have w2 : zk_wr G (ap h (l ++ [.inr (4, [.int (iz L), .null, .int (iz 0)]), .inl (0, k, .inl (fun _ => iz 0))]) (n + k)) (zk_nx G h + l.length) (.inr (4, [.int (iz L), .ref (zk_nx G h + l.length + 1), .int (iz 0)])) = ap h (l ++ [.inr (4, [.int (iz L), .ref (zk_nx G h + l.length + 1), .int (iz 0)]), .inl (0, k, .inl (fun _ => iz 0))]) (n + k) := by rw [ap_wr]; simp
  rw [show max L 1 = L by omega] at mx
  generalize zk_nx G h + l.length = a at *
  simp (disch := first | omega | assumption | (simp; done)) only [u_17_0, u_17_1, u_17_4, u_17_5, u_17_6, u_17_7, u_17_10, u_17_13, u_17_14, u_17_15, u_17_18, u_17_20, u_17_23, u_17_25, u_17_28, true_or, or_true, zk_li1_s, zk_ll1_s, zk_la1_r, zk_la1_n, zk_lg0, zk_lgs, zk_co_n, zk_co_i, zk_co_r, zk_co_u, zk_co_l, zk_l1_0, zk_l1_1, zk_l1_s, zk_l2_0, zk_l2_1, zk_l2_s, zk_sm0, zk_smi, zk_smr, zk_smn, zk_sml, zk_fi, zk_fz, zk_fo, zk_fn, zk_fa, zk_ts, zk_tn, zk_cases, true_and, and_true, List.getElem?_cons_zero, List.getElem?_cons_succ, List.length_cons, List.length_nil, Nat.reduceAdd, Nat.reduceLT, Nat.reduceLeDiff, List.set_cons_zero, List.set_cons_succ, va_rf, zk_og_f r0, zk_op_f r0, zk_og_f r1, zk_op_f r1, zk_og_f r2, zk_op_f r2, iz_lit, mx, mn, e1, kt, w0, n1, a1, w2]
  all_goals ((repeat' (first | exact trivial | exact ⟨rfl, rfl⟩ | rfl | apply And.intro | intro _)) <;> first | omega | (exfalso; omega) | contradiction | (exfalso; simp_all; done) | trace_state)
theorem c_radd (h : zk_H) (l : List zk_E) (n i k : Nat) (L : Int) (hL : 1 ≤ L ∧ L ≤ 60000) (hk : 1 ≤ k ∧ k ≤ 60000) (h0 : l[i]? = some (.inr (4, [.int (iz L), .ref (zk_nx G h + (i + 1)), .int (iz 0)]))) (h1 : l[i + 1]? = some (.inl (0, k, .inl (fun _ => iz 0)))) (Q : Option Value → zk_H → Prop) : zk_wp G 18 0 [some (.ref (zk_nx G h + i)), some (.int (iz 0))] [] (ap h l n) Q ↔ Q (some (.int (iz 1))) (ap h (l.set i (.inr (4, [.int (iz L), .ref (zk_nx G h + (i + 1)), .int (iz 1)]))) n) := by
  refine zk_eq ?_ Q
  have r0 : zk_rd G (ap h l n) (zk_nx G h + i) = some (.inr (4, [.int (iz L), .ref (zk_nx G h + (i + 1)), .int (iz 0)])) := by rw [ap_rd, h0]
  have r1 : zk_rd G (ap h l n) (zk_nx G h + (i + 1)) = some (.inl (0, k, .inl (fun _ => iz 0))) := by rw [ap_rd, h1]
  have an := zk_an_f (zk_ar_rd r1)
  have si := zk_si_f r1
  have w1 := zk_wr_id r1
  have w0 := ap_wr (G := G) h l n i (.inr (4, [.int (iz L), .ref (zk_nx G h + (i + 1)), .int (iz 1)]))
  have e0 := iz_toInt (z := 0) (by omega) (by omega)
  have z0 : upd (fun _ => iz 0) (0 : Int).toNat (iz 0) = fun _ => iz 0 := by funext x; rw [upd_ap]; split <;> rfl
  have a1 : (0 : Int) + 1 = 1 := rfl
  simp (disch := first | omega | assumption | (simp; done)) only [u_18_0, u_18_1, u_18_4, u_18_5, u_18_8, u_18_12, u_18_13, u_18_14, u_18_17, u_18_18, u_18_21, u_18_22, u_18_26, u_18_27, u_18_30, u_18_31, u_18_34, u_18_35, u_18_36, u_18_39, u_18_40, u_18_43, u_18_46, u_18_49, u_18_50, u_18_53, u_18_54, u_18_57, u_18_58, u_18_59, u_18_60i, u_18_60r, u_18_60n, u_18_61, u_18_64, u_18_65, u_18_66, u_18_69, u_18_70, true_or, or_true, zk_li1_s, zk_ll1_s, zk_la1_r, zk_la1_n, zk_lg0, zk_lgs, zk_co_n, zk_co_i, zk_co_r, zk_co_u, zk_co_l, zk_l1_0, zk_l1_1, zk_l1_s, zk_l2_0, zk_l2_1, zk_l2_s, zk_sm0, zk_smi, zk_smr, zk_smn, zk_sml, zk_fi, zk_fz, zk_fo, zk_fn, zk_fa, zk_ts, zk_tn, zk_cases, true_and, and_true, List.getElem?_cons_zero, List.getElem?_cons_succ, List.length_cons, List.length_nil, Nat.reduceAdd, Nat.reduceLT, Nat.reduceLeDiff, List.set_cons_zero, List.set_cons_succ, va_rf, zk_og_f r0, zk_op_f r0, an, si, iz_lit, iz_lt, iz_le, iz_add, e0, z0, w1, a1, w0]
  all_goals ((repeat' (first | exact trivial | exact ⟨rfl, rfl⟩ | rfl | apply And.intro | intro _)) <;> first | omega | (exfalso; omega) | contradiction | (exfalso; simp_all; done) | trace_state)
def zcl (X : Nat) : List zk_E := [.inr (7, [.ref (X + 1), .ref (X + 3), .ref (X + 5), .ref (X + 7)]), .inr (4, [.int (iz 11), .ref (X + 2), .int (iz 1)]), .inl (0, 8, .inl (fun _ => iz 0)), .inr (4, [.int (iz 11), .ref (X + 4), .int (iz 1)]), .inl (0, 8, .inl (fun _ => iz 0)), .inr (4, [.int (iz 20), .ref (X + 6), .int (iz 0)]), .inl (0, 8, .inl (fun _ => iz 0)), .inl (0, 20, .inl (fun _ => iz 0))]
theorem c_zinit (h : zk_H) (Q : Option Value → zk_H → Prop) : zk_wp G 42 0 [some (.ref (zk_nx G h))] [] (ap h [.inr (7, [.null, .null, .null, .null])] 4) Q ↔ Q none (ap h (zcl (zk_nx G h)) 57) := by
  refine zk_eq ?_ Q
  have c1 : ∀ Q, zk_wp G 17 0 [some (.ref (zk_nx G h + 1)), some (.int (iz 11))] [] (ap h [.inr (7, [.null, .null, .null, .null]), .inr (4, [.int (iz 0), .null, .int (iz 0)])] 7) Q ↔ Q none (ap h [.inr (7, [.null, .null, .null, .null]), .inr (4, [.int (iz 11), .ref (zk_nx G h + 2), .int (iz 0)]), .inl (0, 8, .inl (fun _ => iz 0))] 15) := fun Q => c_row h [.inr (7, [.null, .null, .null, .null])] 7 8 11 (by omega) (by omega) Q
  have c2 : ∀ Q, zk_wp G 17 0 [some (.ref (zk_nx G h + 3)), some (.int (iz 11))] [] (ap h [.inr (7, [.ref (zk_nx G h + 1), .null, .null, .null]), .inr (4, [.int (iz 11), .ref (zk_nx G h + 2), .int (iz 0)]), .inl (0, 8, .inl (fun _ => iz 0)), .inr (4, [.int (iz 0), .null, .int (iz 0)])] 18) Q ↔ Q none (ap h [.inr (7, [.ref (zk_nx G h + 1), .null, .null, .null]), .inr (4, [.int (iz 11), .ref (zk_nx G h + 2), .int (iz 0)]), .inl (0, 8, .inl (fun _ => iz 0)), .inr (4, [.int (iz 11), .ref (zk_nx G h + 4), .int (iz 0)]), .inl (0, 8, .inl (fun _ => iz 0))] 26) := fun Q => c_row h [.inr (7, [.ref (zk_nx G h + 1), .null, .null, .null]), .inr (4, [.int (iz 11), .ref (zk_nx G h + 2), .int (iz 0)]), .inl (0, 8, .inl (fun _ => iz 0))] 18 8 11 (by omega) (by omega) Q
  have c3 : ∀ Q, zk_wp G 17 0 [some (.ref (zk_nx G h + 5)), some (.int (iz 20))] [] (ap h [.inr (7, [.ref (zk_nx G h + 1), .ref (zk_nx G h + 3), .null, .null]), .inr (4, [.int (iz 11), .ref (zk_nx G h + 2), .int (iz 0)]), .inl (0, 8, .inl (fun _ => iz 0)), .inr (4, [.int (iz 11), .ref (zk_nx G h + 4), .int (iz 0)]), .inl (0, 8, .inl (fun _ => iz 0)), .inr (4, [.int (iz 0), .null, .int (iz 0)])] 29) Q ↔ Q none (ap h [.inr (7, [.ref (zk_nx G h + 1), .ref (zk_nx G h + 3), .null, .null]), .inr (4, [.int (iz 11), .ref (zk_nx G h + 2), .int (iz 0)]), .inl (0, 8, .inl (fun _ => iz 0)), .inr (4, [.int (iz 11), .ref (zk_nx G h + 4), .int (iz 0)]), .inl (0, 8, .inl (fun _ => iz 0)), .inr (4, [.int (iz 20), .ref (zk_nx G h + 6), .int (iz 0)]), .inl (0, 8, .inl (fun _ => iz 0))] 37) := fun Q => c_row h [.inr (7, [.ref (zk_nx G h + 1), .ref (zk_nx G h + 3), .null, .null]), .inr (4, [.int (iz 11), .ref (zk_nx G h + 2), .int (iz 0)]), .inl (0, 8, .inl (fun _ => iz 0)), .inr (4, [.int (iz 11), .ref (zk_nx G h + 4), .int (iz 0)]), .inl (0, 8, .inl (fun _ => iz 0))] 29 8 20 (by omega) (by omega) Q
  have d1 := fun Q => c_radd (G := G) h [.inr (7, [.ref (zk_nx G h + 1), .ref (zk_nx G h + 3), .ref (zk_nx G h + 5), .ref (zk_nx G h + 7)]), .inr (4, [.int (iz 11), .ref (zk_nx G h + 2), .int (iz 0)]), .inl (0, 8, .inl (fun _ => iz 0)), .inr (4, [.int (iz 11), .ref (zk_nx G h + 4), .int (iz 0)]), .inl (0, 8, .inl (fun _ => iz 0)), .inr (4, [.int (iz 20), .ref (zk_nx G h + 6), .int (iz 0)]), .inl (0, 8, .inl (fun _ => iz 0)), .inl (0, 20, .inl (fun _ => iz 0))] 57 1 8 11 (by omega) (by omega) rfl rfl Q
  have d2 := fun Q => c_radd (G := G) h [.inr (7, [.ref (zk_nx G h + 1), .ref (zk_nx G h + 3), .ref (zk_nx G h + 5), .ref (zk_nx G h + 7)]), .inr (4, [.int (iz 11), .ref (zk_nx G h + 2), .int (iz 1)]), .inl (0, 8, .inl (fun _ => iz 0)), .inr (4, [.int (iz 11), .ref (zk_nx G h + 4), .int (iz 0)]), .inl (0, 8, .inl (fun _ => iz 0)), .inr (4, [.int (iz 20), .ref (zk_nx G h + 6), .int (iz 0)]), .inl (0, 8, .inl (fun _ => iz 0)), .inl (0, 20, .inl (fun _ => iz 0))] 57 3 8 11 (by omega) (by omega) rfl rfl Q
  have e20 := iz_toInt (z := 20) (by omega) (by omega)
  have t20 : (20 : Int).toNat = 20 := rfl
  unfold zcl
  simp (disch := first | omega | assumption | (simp; done)) only [u_42_0, u_42_1, u_42_4, u_42_5, u_42_8i, u_42_8r, u_42_8n, u_42_9, u_42_11, u_42_14, u_42_17, u_42_18, u_42_21i, u_42_21r, u_42_21n, u_42_22, u_42_24, u_42_27, u_42_30, u_42_31, u_42_34i, u_42_34r, u_42_34n, u_42_35, u_42_37, u_42_40, u_42_43, u_42_44, u_42_46, u_42_48, u_42_51, u_42_52, u_42_55, u_42_56, u_42_59i, u_42_59r, u_42_59n, u_42_60, u_42_61, u_42_64, u_42_65, u_42_68i, u_42_68r, u_42_68n, u_42_69, true_or, or_true, zk_li1_s, zk_ll1_s, zk_la1_r, zk_la1_n, zk_lg0, zk_lgs, zk_co_n, zk_co_i, zk_co_r, zk_co_u, zk_co_l, zk_l1_0, zk_l1_1, zk_l1_s, zk_l2_0, zk_l2_1, zk_l2_s, zk_sm0, zk_smi, zk_smr, zk_smn, zk_sml, zk_fi, zk_fz, zk_fo, zk_fn, zk_fa, zk_ts, zk_tn, zk_og, zk_op, zk_ai, zk_aj, zk_az, zk_aa, zk_an, zk_si, zk_sz1, zk_sl1, zk_sa1, zk_cases, true_and, and_true, List.getElem?_cons_zero, List.getElem?_cons_succ, List.length_cons, List.length_nil, Nat.reduceAdd, Nat.reduceLT, Nat.reduceLeDiff, List.set_cons_zero, List.set_cons_succ, va_rf, ap_al, ap_nx, ap_rd, ap_rdz, ap_wr, ap_wrz, ap_ic, List.cons_append, List.nil_append, iz_lit, e20, t20, c1, c2, c3, d1, d2]
  all_goals ((repeat' (first | exact trivial | exact ⟨rfl, rfl⟩ | rfl | apply And.intro | intro _)) <;> first | omega | (exfalso; omega) | contradiction | (exfalso; simp_all; done) | trace_state)
end APP
