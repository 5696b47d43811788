/-! Rule.lastDue -/
def lsP (D : Int → Bool) (a b v : Int) : Prop := (v = 2147483647 ∧ ∀ l, a ≤ l → l ≤ b → D l = false) ∨ (a ≤ v ∧ v ≤ b ∧ D v = true ∧ ∀ l, v < l → l ≤ b → D l = false)
section LDU
variable {G : zk_G} {h : zk_H} {a za : Nat} {ms : Nat → Nat} {nw nn ex xt : List Int} {way : Int} {ss os hs : List Int} {mv : Nat → Int32}
theorem c_lastDue (hp : rup G h a za ms nw nn ex xt way) (hk : rok ms nw nn ex xt way) (hz : znp G h za ss os hs mv) (zo : zok ss os) (zs : zsr ss) (hh : ∀ x ∈ hs, 0 ≤ x ∧ x ≤ 14609) (hl : hs.length ≤ 20) (hv : mvok hs mv) (hG : GS G) (fr to : Int) (hfr : 0 ≤ fr ∧ fr ≤ 30000000) (hto : -30000000 ≤ to ∧ to ≤ 21038399) : ∃ v : Int, lsP (dueB ss os hs ms nw nn ex xt way) fr to v ∧ ∀ Q : Option Value → zk_H → Prop, zk_wp G 36 0 [some (.ref a), some (.int (iz fr)), some (.int (iz to)), none, none, none, none, none] [] h Q ↔ Q (some (.int (iz v))) h := by
  have ica := rup_ic hp
  have fd := c_firstDue hp hk hz zo zs hh hl hv hG
  generalize hD : dueB ss os hs ms nw nn ex xt way = D at *
  suffices hw : zk_wp G 36 0 [some (.ref a), some (.int (iz fr)), some (.int (iz to)), none, none, none, none, none] [] h (fun r h' => h' = h ∧ ∃ v : Int, lsP D fr to v ∧ r = some (.int (iz v))) by
    obtain ⟨r0, h0, ⟨rfl, v, b1, rfl⟩, b3⟩ := zk_some hw
    exact ⟨v, b1, b3⟩
  generalize hQ : (fun (r : Option Value) (h' : zk_H) => h' = h ∧ ∃ v : Int, lsP D fr to v ∧ r = some (.int (iz v))) = Q
  have hz2 : ¬ iz 2 = (0 : Int32) := by decide
  have loop : ∀ (n : Nat) (t la hi : Int) (o6 o7 : Option Value), t + n = 32 → 0 ≤ t → fr ≤ la → la ≤ hi → hi ≤ to → D la = true → (∀ l, hi < l → l ≤ to → D l = false) → hi - la < 2 ^ n → zk_wp G 36 13 [some (.ref a), some (.int (iz fr)), some (.int (iz to)), some (.int (iz la)), some (.int (iz hi)), some (.int (iz t)), o6, o7] [] h Q := by
    intro n
    induction n with
    | zero =>
      intro t la hi o6 o7 h1 h2 h3 h4 h5 h6 h7 h8
      rw [u_36_13]
      simp (disch := first | omega | assumption | (simp; done)) only [u_36_0, u_36_1, u_36_2, u_36_3, u_36_6, u_36_7, u_36_8, u_36_10, u_36_11, u_36_15, u_36_17, u_36_20, u_36_21, u_36_23, u_36_27, u_36_29, u_36_30, u_36_31, u_36_32, u_36_33, u_36_34, u_36_35, u_36_36, u_36_38, u_36_39, u_36_41, u_36_43, u_36_46, u_36_48, u_36_50, u_36_52, u_36_55, u_36_57, u_36_58, u_36_59, u_36_61, u_36_64, u_36_66, u_36_67, u_36_70, u_36_73, u_36_74, true_or, or_true, zk_li1_s, zk_ll1_s, zk_la1_r, zk_la1_n, zk_lg0, zk_lgs, zk_co_n, zk_co_i, zk_co_r, zk_co_u, zk_co_l, zk_l1_0, zk_l1_1, zk_l1_s, zk_l2_0, zk_l2_1, zk_l2_s, zk_sm0, zk_smi, zk_smr, zk_smn, zk_sml, zk_fi, zk_fz, zk_fo, zk_fn, zk_fa, zk_ts, zk_tn, zk_cases, true_and, and_true, List.getElem?_cons_zero, List.getElem?_cons_succ, List.length_cons, List.length_nil, Nat.reduceAdd, Nat.reduceLT, Nat.reduceLeDiff, List.set_cons_zero, List.set_cons_succ, va_rf, iz_lit, iz_le]
      have e : la = hi := by omega
      refine ⟨fun _ => ?_, fun c => absurd c (by omega)⟩
      rw [← hQ]
      exact ⟨rfl, la, Or.inr ⟨h3, by omega, h6, fun l l1 l2 => h7 l (by omega) l2⟩, rfl⟩
    | succ n ih =>
      intro t la hi o6 o7 h1 h2 h3 h4 h5 h6 h7 h8
      rw [u_36_13]
      by_cases c : la = hi
      · simp (disch := first | omega | assumption | (simp; done)) only [u_36_0, u_36_1, u_36_2, u_36_3, u_36_6, u_36_7, u_36_8, u_36_10, u_36_11, u_36_15, u_36_17, u_36_20, u_36_21, u_36_23, u_36_27, u_36_29, u_36_30, u_36_31, u_36_32, u_36_33, u_36_34, u_36_35, u_36_36, u_36_38, u_36_39, u_36_41, u_36_43, u_36_46, u_36_48, u_36_50, u_36_52, u_36_55, u_36_57, u_36_58, u_36_59, u_36_61, u_36_64, u_36_66, u_36_67, u_36_70, u_36_73, u_36_74, true_or, or_true, zk_li1_s, zk_ll1_s, zk_la1_r, zk_la1_n, zk_lg0, zk_lgs, zk_co_n, zk_co_i, zk_co_r, zk_co_u, zk_co_l, zk_l1_0, zk_l1_1, zk_l1_s, zk_l2_0, zk_l2_1, zk_l2_s, zk_sm0, zk_smi, zk_smr, zk_smn, zk_sml, zk_fi, zk_fz, zk_fo, zk_fn, zk_fa, zk_ts, zk_tn, zk_cases, true_and, and_true, List.getElem?_cons_zero, List.getElem?_cons_succ, List.length_cons, List.length_nil, Nat.reduceAdd, Nat.reduceLT, Nat.reduceLeDiff, List.set_cons_zero, List.set_cons_succ, va_rf, iz_lit, iz_le]
        refine ⟨fun c => absurd c (by omega), fun _ => ⟨fun _ => ?_, fun c => absurd c (by omega)⟩⟩
        rw [← hQ]
        exact ⟨rfl, la, Or.inr ⟨h3, by omega, h6, fun l l1 l2 => h7 l (by omega) l2⟩, rfl⟩
      · obtain ⟨w, hw, fd1⟩ := fd (la + (hi - la + 1) / 2) hi (by omega) (by omega)
        have wr : -2147483648 ≤ w ∧ w ≤ 2147483647 := by rcases hw with ⟨q, -⟩ | ⟨q1, q2, -⟩ <;> omega
        have hp2 : (2 : Int) ^ (n + 1) = 2 * 2 ^ n := by rw [Int.pow_succ, Int.mul_comm]
        rw [hp2] at h8
        simp (disch := first | omega | assumption | (simp; done)) only [u_36_0, u_36_1, u_36_2, u_36_3, u_36_6, u_36_7, u_36_8, u_36_10, u_36_11, u_36_15, u_36_17, u_36_20, u_36_21, u_36_23, u_36_26, u_36_27, u_36_29, u_36_30, u_36_31, u_36_32, u_36_33, u_36_34, u_36_35, u_36_36, u_36_38, u_36_39, u_36_41, u_36_43, u_36_46, u_36_48, u_36_50, u_36_52, u_36_55, u_36_57, u_36_58, u_36_59, u_36_61, u_36_64, u_36_66, u_36_67, u_36_70, u_36_73, u_36_74, true_or, or_true, zk_li1_s, zk_ll1_s, zk_la1_r, zk_la1_n, zk_lg0, zk_lgs, zk_co_n, zk_co_i, zk_co_r, zk_co_u, zk_co_l, zk_l1_0, zk_l1_1, zk_l1_s, zk_l2_0, zk_l2_1, zk_l2_s, zk_sm0, zk_smi, zk_smr, zk_smn, zk_sml, zk_fi, zk_fz, zk_fo, zk_fn, zk_fa, zk_ts, zk_tn, zk_cases, true_and, and_true, List.getElem?_cons_zero, List.getElem?_cons_succ, List.length_cons, List.length_nil, Nat.reduceAdd, Nat.reduceLT, Nat.reduceLeDiff, List.set_cons_zero, List.set_cons_succ, va_rf, ica, iz_lit, iz_le, iz_add, iz_sub, iz_div, iz_inj, fd1]
        refine ⟨fun c => absurd c (by omega), fun _ => ⟨fun c => absurd c (by omega), fun _ => ⟨fun e => ?_, fun e => ?_⟩⟩⟩
        · rcases hw with ⟨q, -⟩ | ⟨q1, q2, q3, q4⟩
          · exact absurd q e
          · exact ih (t + 1) w hi _ _ (by omega) (by omega) (by omega) (by omega) h5 q3 h7 (by omega)
        · rcases hw with ⟨q, q2⟩ | ⟨q1, q2, -⟩
          · refine ih (t + 1) la _ _ _ (by omega) (by omega) h3 (by omega) (by omega) h6 (fun l l1 l2 => ?_) (by omega)
            rcases Int.lt_or_le hi l with z | z
            · exact h7 l z l2
            · exact q2 l (by omega) z
          · omega
  obtain ⟨w, hw, fd1⟩ := fd fr to hfr hto
  simp (disch := first | omega | assumption | (simp; done)) only [u_36_0, u_36_1, u_36_2, u_36_3, u_36_6, u_36_7, u_36_8, u_36_10, u_36_11, u_36_15, u_36_17, u_36_20, u_36_21, u_36_23, u_36_26, u_36_27, u_36_29, u_36_30, u_36_31, u_36_32, u_36_33, u_36_34, u_36_35, u_36_36, u_36_38, u_36_39, u_36_41, u_36_43, u_36_46, u_36_48, u_36_50, u_36_52, u_36_55, u_36_57, u_36_58, u_36_59, u_36_61, u_36_64, u_36_66, u_36_67, u_36_70, u_36_73, u_36_74, true_or, or_true, zk_li1_s, zk_ll1_s, zk_la1_r, zk_la1_n, zk_lg0, zk_lgs, zk_co_n, zk_co_i, zk_co_r, zk_co_u, zk_co_l, zk_l1_0, zk_l1_1, zk_l1_s, zk_l2_0, zk_l2_1, zk_l2_s, zk_sm0, zk_smi, zk_smr, zk_smn, zk_sml, zk_fi, zk_fz, zk_fo, zk_fn, zk_fa, zk_ts, zk_tn, zk_cases, true_and, and_true, List.getElem?_cons_zero, List.getElem?_cons_succ, List.length_cons, List.length_nil, Nat.reduceAdd, Nat.reduceLT, Nat.reduceLeDiff, List.set_cons_zero, List.set_cons_succ, va_rf, ica, iz_lit, fd1]
  rcases hw with ⟨q, q2⟩ | ⟨q1, q2, q3, q4⟩
  · subst q
    rw [u_36_13]
    simp (disch := first | omega | assumption | (simp; done)) only [u_36_0, u_36_1, u_36_2, u_36_3, u_36_6, u_36_7, u_36_8, u_36_10, u_36_11, u_36_15, u_36_17, u_36_20, u_36_21, u_36_23, u_36_27, u_36_29, u_36_30, u_36_31, u_36_32, u_36_33, u_36_34, u_36_35, u_36_36, u_36_38, u_36_39, u_36_41, u_36_43, u_36_46, u_36_48, u_36_50, u_36_52, u_36_55, u_36_57, u_36_58, u_36_59, u_36_61, u_36_64, u_36_66, u_36_67, u_36_70, u_36_73, u_36_74, true_or, or_true, zk_li1_s, zk_ll1_s, zk_la1_r, zk_la1_n, zk_lg0, zk_lgs, zk_co_n, zk_co_i, zk_co_r, zk_co_u, zk_co_l, zk_l1_0, zk_l1_1, zk_l1_s, zk_l2_0, zk_l2_1, zk_l2_s, zk_sm0, zk_smi, zk_smr, zk_smn, zk_sml, zk_fi, zk_fz, zk_fo, zk_fn, zk_fa, zk_ts, zk_tn, zk_cases, true_and, and_true, List.getElem?_cons_zero, List.getElem?_cons_succ, List.length_cons, List.length_nil, Nat.reduceAdd, Nat.reduceLT, Nat.reduceLeDiff, List.set_cons_zero, List.set_cons_succ, va_rf, iz_lit, iz_le]
    refine ⟨fun c => absurd c (by omega), fun _ => ⟨fun _ => ?_, fun c => absurd c (by omega)⟩⟩
    rw [← hQ]
    exact ⟨rfl, _, Or.inl ⟨rfl, q2⟩, rfl⟩
  · have h32 : (2 : Int) ^ 32 = 4294967296 := by decide
    exact loop 32 0 w to _ _ (by omega) (by omega) q1 q2 (by omega) q3 (fun l l1 l2 => by omega) (by omega)
end LDU
