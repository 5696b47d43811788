/-! Row, read only -/
/-- a Row object at a, its array at it (cap places): it holds xs, its limit is lim -/
def rwp (G : zk_G) (h : zk_H) (a it : Nat) (lim : Int32) (cap : Nat) (xs : List Int32) : Prop := zk_rd G h a = some (.inr (4, [.int lim, .ref it, .int (nI xs.length)])) ∧ xs.length ≤ cap ∧ cap ≤ 512 ∧ ∃ f : Nat → Int32, zk_rd G h it = some (.inl (0, cap, .inl f)) ∧ ∀ i, i < xs.length → f i = xs.getD i 0
def rAt (xs : List Int32) (i : Int32) : Int32 := if 0 ≤ i.toInt ∧ i.toInt < xs.length then xs.getD i.toInt.toNat 0 else 0
theorem c_at {G : zk_G} {h : zk_H} {a it cap : Nat} {lim : Int32} {xs : List Int32} (hr : rwp G h a it lim cap xs) (i : Int32) (Q : Option Value → zk_H → Prop) : zk_wp G 19 0 [some (.ref a), some (.int i)] [] h Q ↔ Q (some (.int (rAt xs i))) h := by
  obtain ⟨h1, h2, h3, f, h4, h5⟩ := hr
  have h6 := zk_ar_rd h4
  refine zk_eq ?_ Q
  simp only [u_19_0, u_19_1, u_19_4, u_19_5, u_19_6, u_19_9, u_19_12, u_19_13, u_19_14, u_19_17, u_19_18, u_19_21, u_19_22, u_19_25, u_19_26, u_19_27, u_19_30, u_19_31, true_or, or_true, zk_li1_s, zk_ll1_s, zk_la1_r, zk_la1_n, zk_lg0, zk_lgs, zk_co_n, zk_co_i, zk_co_r, zk_co_u, zk_co_l, zk_l1_0, zk_l1_1, zk_l1_s, zk_l2_0, zk_l2_1, zk_l2_s, zk_sm0, zk_smi, zk_smr, zk_smn, zk_sml, zk_fi, zk_fz, zk_fo, zk_fn, zk_fa, zk_ts, zk_tn, zk_og, zk_op, zk_ai, zk_aj, zk_az, zk_aa, zk_an, zk_si, zk_sz1, zk_sl1, zk_sa1, zk_cases, true_and, and_true, List.getElem?_cons_zero, List.getElem?_cons_succ, List.length_cons, List.length_nil, Nat.reduceAdd, Nat.reduceLT, Nat.reduceLeDiff, List.set_cons_zero, List.set_cons_succ, va_rf, h1, h6]
  have e0 : (0 : Int32).toInt = 0 := rfl
  have e1 : (nI xs.length).toInt = xs.length := nI_toInt (by omega)
  have e2 : (Int32.ofNat cap).toInt = cap := nI_toInt (n := cap) (by omega)
  simp only [i_lt, i_le, e0, e1, e2]
  unfold rAt
  refine ⟨fun c => ?_, fun c => ⟨fun d => ?_, fun d => ⟨fun g => ?_, fun g => ⟨by omega, ?_⟩⟩⟩⟩
  · rw [if_neg (by omega)]
  · rw [if_neg (by omega)]
  · omega
  · rw [if_pos (by omega), h5 _ (by omega)]
theorem mem_gd {xs : List Int32} {x : Int32} : x ∈ xs ↔ ∃ i, i < xs.length ∧ xs.getD i 0 = x := by
  constructor
  · intro h
    obtain ⟨i, hi, e⟩ := List.mem_iff_getElem.mp h
    exact ⟨i, hi, by rw [List.getD_eq_getElem?_getD, List.getElem?_eq_getElem hi]; exact e⟩
  · rintro ⟨i, hi, e⟩
    rw [List.getD_eq_getElem?_getD, List.getElem?_eq_getElem hi] at e
    exact List.mem_iff_getElem.mpr ⟨i, hi, e⟩
/-- Row.has -/
theorem c_has {G : zk_G} {h : zk_H} {a it cap : Nat} {lim : Int32} {xs : List Int32} (hr : rwp G h a it lim cap xs) (x : Int32) (Q : Option Value → zk_H → Prop) : zk_wp G 20 0 [some (.ref a), some (.int x), none] [] h Q ↔ Q (some (.int (if x ∈ xs then 1 else 0))) h := by
  obtain ⟨h1, h2, h3, f, h4, h5⟩ := hr
  have h6 := zk_ar_rd h4
  refine zk_eq ?_ Q
  have e1 : (nI xs.length).toInt = xs.length := nI_toInt (by omega)
  have e2 : (Int32.ofNat cap).toInt = cap := nI_toInt (n := cap) (by omega)
  have loop : ∀ (m j : Nat), j + m = xs.length → (∀ i, i < j → ¬ xs.getD i 0 = x) → zk_wp G 20 2 [some (.ref a), some (.int x), some (.int (nI j))] [] h (fun r h' => r = some (.int (if x ∈ xs then 1 else 0)) ∧ h' = h) := by
    intro m
    induction m with
    | zero =>
      intro j hj hn
      have e3 : (nI j).toInt = j := nI_toInt (by omega)
      rw [u_20_2]
      simp only [u_20_0, u_20_1, u_20_3, u_20_4, u_20_7, u_20_10, u_20_11, u_20_12, u_20_15, u_20_16, u_20_19, u_20_20, u_20_23, u_20_24, u_20_25, u_20_26, u_20_29, u_20_30, u_20_31, u_20_34, u_20_37, u_20_38, true_or, or_true, zk_li1_s, zk_ll1_s, zk_la1_r, zk_la1_n, zk_lg0, zk_lgs, zk_co_n, zk_co_i, zk_co_r, zk_co_u, zk_co_l, zk_l1_0, zk_l1_1, zk_l1_s, zk_l2_0, zk_l2_1, zk_l2_s, zk_sm0, zk_smi, zk_smr, zk_smn, zk_sml, zk_fi, zk_fz, zk_fo, zk_fn, zk_fa, zk_ts, zk_tn, zk_og, zk_op, zk_ai, zk_aj, zk_az, zk_aa, zk_an, zk_si, zk_sz1, zk_sl1, zk_sa1, zk_cases, true_and, and_true, List.getElem?_cons_zero, List.getElem?_cons_succ, List.length_cons, List.length_nil, Nat.reduceAdd, Nat.reduceLT, Nat.reduceLeDiff, List.set_cons_zero, List.set_cons_succ, va_rf, h1, h6, i_le, e1, e2, e3]
      refine ⟨fun _ => ?_, fun c => absurd c (by omega)⟩
      rw [if_neg]
      rw [mem_gd]
      rintro ⟨i, hi, e⟩
      exact hn i (by omega) e
    | succ m ih =>
      intro j hj hn
      have e3 : (nI j).toInt = j := nI_toInt (by omega)
      rw [u_20_2]
      simp only [u_20_0, u_20_1, u_20_3, u_20_4, u_20_7, u_20_10, u_20_11, u_20_12, u_20_15, u_20_16, u_20_19, u_20_20, u_20_23, u_20_24, u_20_25, u_20_26, u_20_29, u_20_30, u_20_31, u_20_34, u_20_37, u_20_38, true_or, or_true, zk_li1_s, zk_ll1_s, zk_la1_r, zk_la1_n, zk_lg0, zk_lgs, zk_co_n, zk_co_i, zk_co_r, zk_co_u, zk_co_l, zk_l1_0, zk_l1_1, zk_l1_s, zk_l2_0, zk_l2_1, zk_l2_s, zk_sm0, zk_smi, zk_smr, zk_smn, zk_sml, zk_fi, zk_fz, zk_fo, zk_fn, zk_fa, zk_ts, zk_tn, zk_og, zk_op, zk_ai, zk_aj, zk_az, zk_aa, zk_an, zk_si, zk_sz1, zk_sl1, zk_sa1, zk_cases, true_and, and_true, List.getElem?_cons_zero, List.getElem?_cons_succ, List.length_cons, List.length_nil, Nat.reduceAdd, Nat.reduceLT, Nat.reduceLeDiff, List.set_cons_zero, List.set_cons_succ, va_rf, h1, h6, i_le, e1, e2, e3, nI_1]
      refine ⟨fun c => absurd c (by omega), fun _ => ⟨fun c => absurd c (by omega), fun _ => ⟨by omega, fun c => ?_, fun c => ?_⟩⟩⟩
      · refine ih (j + 1) (by omega) (fun i hi => ?_)
        rcases Nat.lt_or_ge i j with q | q
        · exact hn i q
        · have : i = j := by omega
          subst this
          rw [← h5 i (by omega)]
          exact c
      · rw [if_pos]
        rw [mem_gd]
        exact ⟨j, by omega, by rw [← h5 j (by omega)]; exact c⟩
  simp only [u_20_0, u_20_1, u_20_3, u_20_4, u_20_7, u_20_10, u_20_11, u_20_12, u_20_15, u_20_16, u_20_19, u_20_20, u_20_23, u_20_24, u_20_25, u_20_26, u_20_29, u_20_30, u_20_31, u_20_34, u_20_37, u_20_38, true_or, or_true, zk_li1_s, zk_ll1_s, zk_la1_r, zk_la1_n, zk_lg0, zk_lgs, zk_co_n, zk_co_i, zk_co_r, zk_co_u, zk_co_l, zk_l1_0, zk_l1_1, zk_l1_s, zk_l2_0, zk_l2_1, zk_l2_s, zk_sm0, zk_smi, zk_smr, zk_smn, zk_sml, zk_fi, zk_fz, zk_fo, zk_fn, zk_fa, zk_ts, zk_tn, zk_og, zk_op, zk_ai, zk_aj, zk_az, zk_aa, zk_an, zk_si, zk_sz1, zk_sl1, zk_sa1, zk_cases, true_and, and_true, List.getElem?_cons_zero, List.getElem?_cons_succ, List.length_cons, List.length_nil, Nat.reduceAdd, Nat.reduceLT, Nat.reduceLeDiff, List.set_cons_zero, List.set_cons_succ, va_rf]
  exact loop xs.length 0 (by omega) (fun i hi => by omega)
