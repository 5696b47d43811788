/-! Rule.nextFitting -/
theorem onS_in {ms : Nat → Nat} {nw nn hs : List Int} {way m d : Int} (h1 : stOf m ≤ d) (h2 : d < stOf (m + 1)) : onS ms nw nn hs way d = (fbit ms nw nn m (stOf m) (stOf (m + 1) - stOf m) (d - stOf m + 1).toNat && (decide (way = 0) || !decide (d ∈ hs))) := by
  unfold onS
  rw [fitD_in h1 h2]
section NF
variable {G : zk_G} {h : zk_H} {a za : Nat} {ms : Nat → Nat} {nw nn ex xt : List Int} {way : Int} {ss os hs : List Int} {mv : Nat → Int32}
def nfP (on : Int → Bool) (fr to v : Int) : Prop := (v = 2147483647 ∧ ∀ d, fr ≤ d → d ≤ to → on d = false) ∨ (fr ≤ v ∧ v ≤ 16000 ∧ on v = true ∧ ∀ d, fr ≤ d → d < v → on d = false)
theorem c_nextFit (hp : rup G h a za ms nw nn ex xt way) (hk : rok ms nw nn ex xt way) (hz : znp G h za ss os hs mv) (hh : ∀ x ∈ hs, 0 ≤ x ∧ x ≤ 14609) (hG : GS G) (fr to : Int) (hfr : -2 ≤ fr ∧ fr ≤ 15000) (hto : -5 ≤ to ∧ to ≤ 14700) : ∃ v : Int, nfP (onS ms nw nn hs way) fr to v ∧ ∀ Q : Option Value → zk_H → Prop, zk_wp G 32 0 [some (.ref a), some (.int (iz fr)), some (.int (iz to)), none, none, none, none, none, none] [] h Q ↔ Q (some (.int (iz v))) h := by
  have icz := znp_ic hz
  have ica := rup_ic hp
  have hbt := c_hbits hz hh
  have fit := c_fitting hp hk
  have hway : 0 ≤ way ∧ way ≤ 2 := ⟨hk.2.2.2.2.2.2.2.2.2.2.2.2.2.1, hk.2.2.2.2.2.2.2.2.2.2.2.2.2.2.1⟩
  obtain ⟨am, a1, i1, c1, a2, i2, c2, a3, i3, c3, a4, i4, c4, fm, p1, -⟩ := hp
  have mo := c_monthOf G hG h
  have so := c_startOf G hG h
  have nb := c_notBelow G h
  have lw := c_lowest G h
  suffices hw : zk_wp G 32 0 [some (.ref a), some (.int (iz fr)), some (.int (iz to)), none, none, none, none, none, none] [] h (fun r h' => h' = h ∧ ∃ v : Int, nfP (onS ms nw nn hs way) fr to v ∧ r = some (.int (iz v))) by
    obtain ⟨r0, h0, ⟨rfl, v, b1, rfl⟩, b3⟩ := zk_some hw
    exact ⟨v, b1, b3⟩
  generalize hQ : (fun (r : Option Value) (h' : zk_H) => h' = h ∧ ∃ v : Int, nfP (onS ms nw nn hs way) fr to v ∧ r = some (.int (iz v))) = Q
  obtain ⟨m1, m2⟩ := moOf_sp fr
  have m3 := moOf_r (d := fr) (by omega)
  generalize hm0 : moOf fr = m0 at *
  have far : stOf (m0 + 500) > to := by
    have e1 : m0 + 500 = (m0 + 20) + 48 * 10 := by omega
    have e2 := stOf_48 (m0 + 20) 10
    have e3 := stOf_add m0 20
    have e4 := (stOf_len m0)
    rw [e1, e2]
    have e5 : (((20 : Nat) : Int)) = 20 := rfl
    rw [e5] at e3
    omega
  have loop : ∀ (n : Nat) (t : Int) (o6 o7 o8 : Option Value), t + n = 500 → 0 ≤ t → (∀ d, fr ≤ d → d < stOf (m0 + t) → onS ms nw nn hs way d = false) → zk_wp G 32 14 [some (.ref a), some (.int (iz fr)), some (.int (iz to)), some (.int (iz (m0 + t))), some (.int (iz (stOf (m0 + t)))), some (.int (iz t)), o6, o7, o8] [] h Q := by
    intro n
    induction n with
    | zero =>
      intro t o6 o7 o8 ht h0 hd
      rw [u_32_14]
      simp (disch := first | omega | assumption | (simp; done)) only [u_32_0, u_32_1, u_32_4, u_32_5, u_32_6, u_32_9, u_32_11, u_32_12, u_32_16, u_32_19, u_32_22, u_32_24, u_32_25, u_32_28, u_32_29, u_32_30, u_32_31, u_32_34, u_32_36, u_32_37, u_32_38, u_32_40, u_32_42, u_32_44, u_32_45, u_32_48, u_32_50, u_32_52, u_32_53, u_32_54, u_32_57, u_32_58, u_32_61, u_32_64, u_32_66, u_32_67, u_32_70, u_32_72, u_32_75, u_32_78, u_32_79, u_32_80, u_32_84, u_32_85, u_32_88, u_32_90, u_32_91, u_32_93, u_32_94, u_32_95, u_32_96, u_32_99, u_32_103, u_32_104, u_32_105, u_32_108, u_32_110, u_32_112, u_32_115, u_32_116, u_32_117, u_32_118, u_32_119, u_32_122, u_32_124, u_32_126, u_32_129, u_32_132, u_32_134, true_or, or_true, zk_li1_s, zk_ll1_s, zk_la1_r, zk_la1_n, zk_lg0, zk_lgs, zk_co_n, zk_co_i, zk_co_r, zk_co_u, zk_co_l, zk_l1_0, zk_l1_1, zk_l1_s, zk_l2_0, zk_l2_1, zk_l2_s, zk_sm0, zk_smi, zk_smr, zk_smn, zk_sml, zk_fi, zk_fz, zk_fo, zk_fn, zk_fa, zk_ts, zk_tn, zk_cases, true_and, and_true, List.getElem?_cons_zero, List.getElem?_cons_succ, List.length_cons, List.length_nil, Nat.reduceAdd, Nat.reduceLT, Nat.reduceLeDiff, List.set_cons_zero, List.set_cons_succ, va_rf, iz_lit, iz_le, iz_lt]
      refine ⟨fun _ => ?_, fun c => absurd c (by omega)⟩
      have e : t = 500 := by omega
      subst e
      rw [← hQ]
      exact ⟨rfl, _, Or.inl ⟨rfl, fun d d1 d2 => hd d d1 (by omega)⟩, rfl⟩
    | succ n ih =>
      intro t o6 o7 o8 ht h0 hd
      have ln := stOf_len (m0 + t)
      have sr := stOf_r (m := m0 + t) (by omega)
      have sr2 := stOf_r (m := m0 + t + 1) (by omega)
      have hfm : fr < stOf (m0 + t + 1) := by
        rcases Int.lt_or_le 0 t with q | q
        · have := stOf_lt (show m0 < m0 + t + 1 by omega); omega
        · have : t = 0 := by omega
          subst this
          simpa using m2
      obtain ⟨B, hB, hBb, hfit⟩ := fit (m0 + t) (stOf (m0 + t)) (stOf (m0 + t + 1) - stOf (m0 + t)) (by omega) (by omega) (by omega)
      rcases Int.lt_or_le to (stOf (m0 + t)) with hst | hst
      · rw [u_32_14]
        simp (disch := first | omega | assumption | (simp; done)) only [u_32_0, u_32_1, u_32_4, u_32_5, u_32_6, u_32_9, u_32_11, u_32_12, u_32_16, u_32_19, u_32_22, u_32_24, u_32_25, u_32_29, u_32_30, u_32_31, u_32_34, u_32_36, u_32_37, u_32_38, u_32_40, u_32_42, u_32_44, u_32_45, u_32_48, u_32_50, u_32_52, u_32_53, u_32_54, u_32_57, u_32_58, u_32_61, u_32_64, u_32_66, u_32_67, u_32_70, u_32_72, u_32_75, u_32_78, u_32_79, u_32_80, u_32_84, u_32_85, u_32_88, u_32_90, u_32_91, u_32_93, u_32_94, u_32_95, u_32_96, u_32_99, u_32_103, u_32_104, u_32_105, u_32_108, u_32_110, u_32_112, u_32_115, u_32_116, u_32_117, u_32_118, u_32_119, u_32_122, u_32_124, u_32_126, u_32_129, u_32_132, u_32_134, true_or, or_true, zk_li1_s, zk_ll1_s, zk_la1_r, zk_la1_n, zk_lg0, zk_lgs, zk_co_n, zk_co_i, zk_co_r, zk_co_u, zk_co_l, zk_l1_0, zk_l1_1, zk_l1_s, zk_l2_0, zk_l2_1, zk_l2_s, zk_sm0, zk_smi, zk_smr, zk_smn, zk_sml, zk_fi, zk_fz, zk_fo, zk_fn, zk_fa, zk_ts, zk_tn, zk_cases, true_and, and_true, List.getElem?_cons_zero, List.getElem?_cons_succ, List.length_cons, List.length_nil, Nat.reduceAdd, Nat.reduceLT, Nat.reduceLeDiff, List.set_cons_zero, List.set_cons_succ, va_rf, iz_lit, iz_le, iz_lt]
        refine ⟨fun c => absurd c (by omega), fun _ => ⟨fun _ => ?_, fun c => absurd c (by omega)⟩⟩
        rw [← hQ]
        exact ⟨rfl, _, Or.inl ⟨rfl, fun d d1 d2 => hd d d1 (by omega)⟩, rfl⟩
      -- the bits that are left
      have last : ∀ F : Nat, F < 2 ^ 32 → (∀ i, F.testBit i = (B.testBit i && (decide (way = 0) || !decide ((stOf (m0 + t) + i - 1) ∈ hs)) && decide (fr ≤ stOf (m0 + t) + i - 1))) → zk_wp G 32 101 [some (.ref a), some (.int (iz fr)), some (.int (iz to)), some (.int (iz (m0 + t))), some (.int (iz (stOf (m0 + t)))), some (.int (iz t)), some (.int (iz (stOf (m0 + t + 1)))), some (.long (lN F)), none] [] h Q := by
        intro F hF hFb
        rw [u_32_101]
        have hF63 : F < 2 ^ 63 := by omega
        simp (disch := first | omega | assumption | (simp; done)) only [u_32_0, u_32_1, u_32_4, u_32_5, u_32_6, u_32_9, u_32_11, u_32_12, u_32_16, u_32_19, u_32_22, u_32_24, u_32_25, u_32_28, u_32_29, u_32_30, u_32_31, u_32_34, u_32_36, u_32_37, u_32_38, u_32_40, u_32_42, u_32_44, u_32_45, u_32_48, u_32_50, u_32_52, u_32_53, u_32_54, u_32_57, u_32_58, u_32_61, u_32_64, u_32_66, u_32_67, u_32_70, u_32_72, u_32_75, u_32_78, u_32_79, u_32_80, u_32_84, u_32_85, u_32_88, u_32_90, u_32_91, u_32_93, u_32_94, u_32_95, u_32_96, u_32_99, u_32_103, u_32_104, u_32_105, u_32_108, u_32_110, u_32_112, u_32_115, u_32_116, u_32_117, u_32_118, u_32_119, u_32_122, u_32_124, u_32_126, u_32_129, u_32_132, u_32_134, true_or, or_true, zk_li1_s, zk_ll1_s, zk_la1_r, zk_la1_n, zk_lg0, zk_lgs, zk_co_n, zk_co_i, zk_co_r, zk_co_u, zk_co_l, zk_l1_0, zk_l1_1, zk_l1_s, zk_l2_0, zk_l2_1, zk_l2_s, zk_sm0, zk_smi, zk_smr, zk_smn, zk_sml, zk_fi, zk_fz, zk_fo, zk_fn, zk_fa, zk_ts, zk_tn, zk_cases, true_and, and_true, List.getElem?_cons_zero, List.getElem?_cons_succ, List.length_cons, List.length_nil, Nat.reduceAdd, Nat.reduceLT, Nat.reduceLeDiff, List.set_cons_zero, List.set_cons_succ, va_rf, iz_lit, iz_add, iz_sub, ljt0, lg_zi, lw]
        have hday : ∀ d, stOf (m0 + t) ≤ d → d < stOf (m0 + t + 1) → fr ≤ d → onS ms nw nn hs way d = F.testBit (d - stOf (m0 + t) + 1).toNat := by
          intro d d1 d2 d3
          rw [onS_in d1 d2, hFb, hBb]
          have e1 : stOf (m0 + t) + (((d - stOf (m0 + t) + 1).toNat : Nat) : Int) - 1 = d := by omega
          rw [e1]
          have e2 : decide (fr ≤ d) = true := by simp; exact d3
          rw [e2, Bool.and_true]
        refine ⟨fun c => ?_, fun c => ?_⟩
        · have e : m0 + t + 1 = m0 + (t + 1) := by omega
          rw [e]
          refine ih (t + 1) _ _ _ (by omega) (by omega) (fun d d1 d2 => ?_)
          rcases Int.lt_or_le d (stOf (m0 + t)) with q | q
          · exact hd d d1 q
          · rw [← e] at d2
            rw [hday d q d2 d1, z_bit c]
        · rw [← hQ]
          obtain ⟨l1, l2, l3⟩ := low_sp c (show F < 2 ^ 64 by omega)
          generalize low F = L at *
          have l4 := l2
          rw [hFb, hBb] at l4
          simp only [Bool.and_eq_true, decide_eq_true_eq] at l4
          have l5 := l4.1.1
          unfold fbit at l5
          simp only [Bool.and_eq_true, decide_eq_true_eq] at l5
          have l6 := l5.1.1.1
          have l7 := l5.1.1.2
          have l8 := l4.2
          refine ⟨rfl, stOf (m0 + t) + L - 1, Or.inr ⟨l8, ?_, ?_, fun d d1 d2 => ?_⟩, rfl⟩
          · omega
          · rw [hday _ (by omega) (by omega) l8]
            have : (stOf (m0 + t) + (L : Int) - 1 - stOf (m0 + t) + 1).toNat = L := by omega
            rw [this]; exact l2
          · rcases Int.lt_or_le d (stOf (m0 + t)) with q | q
            · exact hd d d1 q
            · rw [hday d q (by omega) d1]
              exact l3 _ (by omega)
      have mid : ∀ E : Nat, E < 2 ^ 32 → (∀ i, E.testBit i = (B.testBit i && (decide (way = 0) || !decide ((stOf (m0 + t) + i - 1) ∈ hs)))) → zk_wp G 32 82 [some (.ref a), some (.int (iz fr)), some (.int (iz to)), some (.int (iz (m0 + t))), some (.int (iz (stOf (m0 + t)))), some (.int (iz t)), some (.int (iz (stOf (m0 + t + 1)))), some (.long (lN E)), none] [] h Q := by
        intro E hE hEb
        rw [u_32_82]
        have hE63 : E < 2 ^ 63 := by omega
        rcases Int.lt_or_le (stOf (m0 + t)) fr with hc | hc
        case inr =>
          simp (disch := first | omega | assumption | (simp; done)) only [u_32_0, u_32_1, u_32_4, u_32_5, u_32_6, u_32_9, u_32_11, u_32_12, u_32_16, u_32_19, u_32_22, u_32_24, u_32_25, u_32_28, u_32_29, u_32_30, u_32_31, u_32_34, u_32_36, u_32_37, u_32_38, u_32_40, u_32_42, u_32_44, u_32_45, u_32_48, u_32_50, u_32_52, u_32_53, u_32_54, u_32_57, u_32_58, u_32_61, u_32_64, u_32_66, u_32_67, u_32_70, u_32_72, u_32_75, u_32_78, u_32_79, u_32_80, u_32_84, u_32_85, u_32_90, u_32_91, u_32_93, u_32_94, u_32_95, u_32_96, u_32_99, u_32_103, u_32_104, u_32_105, u_32_108, u_32_110, u_32_112, u_32_115, u_32_116, u_32_117, u_32_118, u_32_119, u_32_122, u_32_124, u_32_126, u_32_129, u_32_132, u_32_134, true_or, or_true, zk_li1_s, zk_ll1_s, zk_la1_r, zk_la1_n, zk_lg0, zk_lgs, zk_co_n, zk_co_i, zk_co_r, zk_co_u, zk_co_l, zk_l1_0, zk_l1_1, zk_l1_s, zk_l2_0, zk_l2_1, zk_l2_s, zk_sm0, zk_smi, zk_smr, zk_smn, zk_sml, zk_fi, zk_fz, zk_fo, zk_fn, zk_fa, zk_ts, zk_tn, zk_cases, true_and, and_true, List.getElem?_cons_zero, List.getElem?_cons_succ, List.length_cons, List.length_nil, Nat.reduceAdd, Nat.reduceLT, Nat.reduceLeDiff, List.set_cons_zero, List.set_cons_succ, va_rf, iz_lit, iz_le]
          refine ⟨fun _ => ?_, fun c => absurd c (by omega)⟩
          refine last E hE (fun i => ?_)
          rw [hEb]
          rcases Nat.eq_zero_or_pos i with q | q
          · subst q
            rw [hBb]
            unfold fbit
            simp
          · have : decide (fr ≤ stOf (m0 + t) + (i : Int) - 1) = true := by simp; omega
            rw [this, Bool.and_true]
        case inl =>
          simp (disch := first | omega | assumption | (simp; done)) only [u_32_0, u_32_1, u_32_4, u_32_5, u_32_6, u_32_9, u_32_11, u_32_12, u_32_16, u_32_19, u_32_22, u_32_24, u_32_25, u_32_28, u_32_29, u_32_30, u_32_31, u_32_34, u_32_36, u_32_37, u_32_38, u_32_40, u_32_42, u_32_44, u_32_45, u_32_48, u_32_50, u_32_52, u_32_53, u_32_54, u_32_57, u_32_58, u_32_61, u_32_64, u_32_66, u_32_67, u_32_70, u_32_72, u_32_75, u_32_78, u_32_79, u_32_80, u_32_84, u_32_85, u_32_88, u_32_90, u_32_91, u_32_93, u_32_94, u_32_95, u_32_96, u_32_99, u_32_103, u_32_104, u_32_105, u_32_108, u_32_110, u_32_112, u_32_115, u_32_116, u_32_117, u_32_118, u_32_119, u_32_122, u_32_124, u_32_126, u_32_129, u_32_132, u_32_134, true_or, or_true, zk_li1_s, zk_ll1_s, zk_la1_r, zk_la1_n, zk_lg0, zk_lgs, zk_co_n, zk_co_i, zk_co_r, zk_co_u, zk_co_l, zk_l1_0, zk_l1_1, zk_l1_s, zk_l2_0, zk_l2_1, zk_l2_s, zk_sm0, zk_smi, zk_smr, zk_smn, zk_sml, zk_fi, zk_fz, zk_fo, zk_fn, zk_fa, zk_ts, zk_tn, zk_cases, true_and, and_true, List.getElem?_cons_zero, List.getElem?_cons_succ, List.length_cons, List.length_nil, Nat.reduceAdd, Nat.reduceLT, Nat.reduceLeDiff, List.set_cons_zero, List.set_cons_succ, va_rf, iz_lit, iz_add, iz_sub, iz_le, nb]
          refine ⟨fun c => absurd c (by omega), fun _ => ?_⟩
          refine last _ (Nat.lt_of_le_of_lt (nbel_le _ _) hE) (fun i => ?_)
          rw [nbel_bit, hEb, Bool.and_comm]
          congr 1
          congr 1
          apply propext
          omega
      rw [u_32_14]
      have hB63 : B < 2 ^ 63 := by omega
      simp (disch := first | omega | assumption | (simp; done)) only [u_32_0, u_32_1, u_32_4, u_32_5, u_32_6, u_32_9, u_32_11, u_32_12, u_32_16, u_32_19, u_32_22, u_32_24, u_32_25, u_32_28, u_32_29, u_32_30, u_32_31, u_32_34, u_32_36, u_32_37, u_32_38, u_32_40, u_32_42, u_32_44, u_32_45, u_32_48, u_32_50, u_32_52, u_32_53, u_32_54, u_32_57, u_32_58, u_32_61, u_32_64, u_32_66, u_32_67, u_32_70, u_32_72, u_32_75, u_32_78, u_32_79, u_32_80, u_32_84, u_32_85, u_32_88, u_32_90, u_32_91, u_32_93, u_32_94, u_32_95, u_32_96, u_32_99, u_32_103, u_32_104, u_32_105, u_32_108, u_32_110, u_32_112, u_32_115, u_32_116, u_32_117, u_32_118, u_32_119, u_32_122, u_32_124, u_32_126, u_32_129, u_32_132, u_32_134, true_or, or_true, zk_li1_s, zk_ll1_s, zk_la1_r, zk_la1_n, zk_lg0, zk_lgs, zk_co_n, zk_co_i, zk_co_r, zk_co_u, zk_co_l, zk_l1_0, zk_l1_1, zk_l1_s, zk_l2_0, zk_l2_1, zk_l2_s, zk_sm0, zk_smi, zk_smr, zk_smn, zk_sml, zk_fi, zk_fz, zk_fo, zk_fn, zk_fa, zk_ts, zk_tn, zk_cases, true_and, and_true, List.getElem?_cons_zero, List.getElem?_cons_succ, List.length_cons, List.length_nil, Nat.reduceAdd, Nat.reduceLT, Nat.reduceLeDiff, List.set_cons_zero, List.set_cons_succ, va_rf, zk_og_f p1, zk_op_f p1, ica, icz, iz_lit, iz_add, iz_sub, iz_le, iz_lt, so, hfit, ljt0, lg_zi, iz_inj, hbt]
      refine ⟨fun c => absurd c (by omega), fun _ => ⟨fun c => ?_, fun c => ⟨fun z => ?_, fun z => ⟨fun w => ?_, fun w => ?_⟩⟩⟩⟩
      · exact absurd c (by omega)
      · refine mid B hB (fun i => ?_)
        rw [z_bit z]
        rfl
      · refine mid B hB (fun i => ?_)
        have : decide (way = 0) = true := by simp; exact w
        rw [this, Bool.true_or, Bool.and_true]
      · obtain ⟨E, hE, hEb, hEe⟩ := w_andn hB (hbits_lt hs (stOf (m0 + t)))
        have hEe2 : lN B &&& (lN (hbits hs (stOf (m0 + t))) ^^^ -1) = lN E := hEe
        rw [hEe2]
        refine mid E hE (fun i => ?_)
        have e0 : decide (way = 0) = false := by simp; exact w
        rw [hEb, e0, Bool.false_or]
        rcases Bool.eq_false_or_eq_true (B.testBit i) with q | q
        · rw [q]
          have q2 := q
          rw [hBb] at q2
          unfold fbit at q2
          simp only [Bool.and_eq_true, decide_eq_true_eq] at q2
          rw [hbits_bit hs _ i (by omega) (by omega)]
        · rw [q]; rfl
  simp (disch := first | omega | assumption | (simp; done)) only [u_32_0, u_32_1, u_32_4, u_32_5, u_32_6, u_32_9, u_32_11, u_32_12, u_32_16, u_32_19, u_32_22, u_32_24, u_32_25, u_32_28, u_32_29, u_32_30, u_32_31, u_32_34, u_32_36, u_32_37, u_32_38, u_32_40, u_32_42, u_32_44, u_32_45, u_32_48, u_32_50, u_32_52, u_32_53, u_32_54, u_32_57, u_32_58, u_32_61, u_32_64, u_32_66, u_32_67, u_32_70, u_32_72, u_32_75, u_32_78, u_32_79, u_32_80, u_32_84, u_32_85, u_32_88, u_32_90, u_32_91, u_32_93, u_32_94, u_32_95, u_32_96, u_32_99, u_32_103, u_32_104, u_32_105, u_32_108, u_32_110, u_32_112, u_32_115, u_32_116, u_32_117, u_32_118, u_32_119, u_32_122, u_32_124, u_32_126, u_32_129, u_32_132, u_32_134, true_or, or_true, zk_li1_s, zk_ll1_s, zk_la1_r, zk_la1_n, zk_lg0, zk_lgs, zk_co_n, zk_co_i, zk_co_r, zk_co_u, zk_co_l, zk_l1_0, zk_l1_1, zk_l1_s, zk_l2_0, zk_l2_1, zk_l2_s, zk_sm0, zk_smi, zk_smr, zk_smn, zk_sml, zk_fi, zk_fz, zk_fo, zk_fn, zk_fa, zk_ts, zk_tn, zk_cases, true_and, and_true, List.getElem?_cons_zero, List.getElem?_cons_succ, List.length_cons, List.length_nil, Nat.reduceAdd, Nat.reduceLT, Nat.reduceLeDiff, List.set_cons_zero, List.set_cons_succ, va_rf, iz_lit, mo, so, hm0]
  have := loop 500 0 none none none (by omega) (by omega) (fun d d1 d2 => by rw [Int.add_zero] at d2; omega)
  rw [Int.add_zero] at this
  exact this
end NF
