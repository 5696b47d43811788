/-! Rule.nextLocal -/
def onD (ms : Nat → Nat) (nw nn hs : List Int) (way d : Int) : Bool := onS ms nw nn hs way d || (decide (way = 2) && movD ms nw nn hs d)
/-- a LOCAL minute that masks and days name -/
def locP (ms : Nat → Nat) (nw nn hs : List Int) (way l : Int) : Bool := onD ms nw nn hs way (l / 1440) && tok ms (l % 1440)
/-- v is the first of a .. b, or there is none -/
def fsP (D : Int → Bool) (a b v : Int) : Prop := (v = 2147483647 ∧ ∀ l, a ≤ l → l ≤ b → D l = false) ∨ (a ≤ v ∧ v ≤ b ∧ D v = true ∧ ∀ l, a ≤ l → l < v → D l = false)
theorem ntime_sp {ms : Nat → Nat} {t : Int} (ht : 0 ≤ t ∧ t < 1440) : (ntime ms t = 2147483647 ∧ ∀ j, t ≤ j → j < 1440 → tok ms j = false) ∨ (t ≤ ntime ms t ∧ ntime ms t < 1440 ∧ tok ms (ntime ms t) = true ∧ ∀ j, t ≤ j → j < ntime ms t → tok ms j = false) := by
  unfold ntime
  rcases lf_sp (P := tok ms) (1440 - t).toNat t with ⟨q1, q2⟩ | ⟨q1, q2, q3, q4⟩
  · exact Or.inl ⟨q1, fun j j1 j2 => q2 j j1 (by omega)⟩
  · exact Or.inr ⟨q1, by omega, q3, q4⟩
theorem tok_some {ms : Nat → Nat} (h0 : ms 0 < 2 ^ 60) (h1 : ms 1 < 2 ^ 24) (n0 : ms 0 ≠ 0) (n1 : ms 1 ≠ 0) : ∃ t : Int, 0 ≤ t ∧ t < 1440 ∧ tok ms t = true := by
  obtain ⟨l1, l2, -⟩ := low_sp n0 (by omega)
  obtain ⟨r1, r2, -⟩ := low_sp n1 (by omega)
  have l3 := tb_lt h0 l2
  have r3 := tb_lt h1 r2
  refine ⟨low (ms 1) * 60 + low (ms 0), by omega, by omega, ?_⟩
  unfold tok
  have e1 : ((low (ms 1) : Int) * 60 + (low (ms 0) : Int)) / 60 = low (ms 1) := by omega
  have e2 : ((low (ms 1) : Int) * 60 + (low (ms 0) : Int)) % 60 = low (ms 0) := by omega
  rw [e1, e2]
  show ((ms 1).testBit (low (ms 1)) && (ms 0).testBit (low (ms 0))) = true
  rw [l2, r2]
  rfl
section NL
variable {G : zk_G} {h : zk_H} {a za : Nat} {ms : Nat → Nat} {nw nn ex xt : List Int} {way : Int} {ss os hs : List Int} {mv : Nat → Int32}
theorem c_nextLocal (hp : rup G h a za ms nw nn ex xt way) (hk : rok ms nw nn ex xt way) (hz : znp G h za ss os hs mv) (hh : ∀ x ∈ hs, 0 ≤ x ∧ x ≤ 14609) (hl : hs.length ≤ 20) (hv : mvok hs mv) (hG : GS G) (n0 : ms 0 ≠ 0) (n1 : ms 1 ≠ 0) (fr to : Int) (hfr : -2000 ≤ fr ∧ fr ≤ 21041000) (hto : -2000 ≤ to ∧ to ≤ 21041000) : ∃ v : Int, fsP (locP ms nw nn hs way) fr to v ∧ ∀ Q : Option Value → zk_H → Prop, zk_wp G 28 0 [some (.ref a), some (.int (iz fr)), some (.int (iz to)), none, none, none, none, none, none] [] h Q ↔ Q (some (.int (iz v))) h := by
  have ica := rup_ic hp
  have nf := c_nextFit hp hk hz hh hG
  have nm := c_nextMov hp hk hz hh hl hv hG
  have nt := c_nextTime hp hk
  have fd := c_fdk G 1440 (by omega) h
  have mn := c_mn G h
  have hway : 0 ≤ way ∧ way ≤ 2 := ⟨hk.2.2.2.2.2.2.2.2.2.2.2.2.2.1, hk.2.2.2.2.2.2.2.2.2.2.2.2.2.2.1⟩
  obtain ⟨s0, s1, s2, s3⟩ := tok_some hk.1 hk.2.1 n0 n1
  have T0 := ntime_sp (ms := ms) (t := 0) (by omega)
  have T0' : 0 ≤ ntime ms 0 ∧ ntime ms 0 < 1440 ∧ tok ms (ntime ms 0) = true ∧ ∀ j, 0 ≤ j → j < ntime ms 0 → tok ms j = false := by
    rcases T0 with ⟨q1, q2⟩ | q
    · rw [q2 s0 s1 s2] at s3; cases s3
    · exact q
  have T1 := ntime_sp (ms := ms) (t := fr % 1440) (by omega)
  obtain ⟨am, a1, i1, c1, a2, i2, c2, a3, i3, c3, a4, i4, c4, fm, p1, -⟩ := hp
  suffices hw : zk_wp G 28 0 [some (.ref a), some (.int (iz fr)), some (.int (iz to)), none, none, none, none, none, none] [] h (fun r h' => h' = h ∧ ∃ v : Int, fsP (locP ms nw nn hs way) fr to v ∧ r = some (.int (iz v))) by
    obtain ⟨r0, h0, ⟨rfl, v, b1, rfl⟩, b3⟩ := zk_some hw
    exact ⟨v, b1, b3⟩
  generalize hQ : (fun (r : Option Value) (h' : zk_H) => h' = h ∧ ∃ v : Int, fsP (locP ms nw nn hs way) fr to v ∧ r = some (.int (iz v))) = Q
  have hT : 0 ≤ ntime ms (fr % 1440) ∧ ntime ms (fr % 1440) ≤ 2147483647 := by omega
  generalize hTn : ntime ms (fr % 1440) = T at *
  generalize hT0 : ntime ms 0 = U at *
  generalize hd0 : fr / 1440 = d0 at *
  generalize hd1 : to / 1440 = d1 at *
  -- with the day found
  have fin : ∀ (F on : Int) (o8 : Option Value), (T = 2147483647 ∧ F = d0 + 1 ∨ T < 1440 ∧ F = d0) → -2 ≤ on ∧ on ≤ 2147483647 → (∀ d, F ≤ d → d ≤ d1 → d < on → onD ms nw nn hs way d = false) → (on ≤ d1 → F ≤ on ∧ onD ms nw nn hs way on = true) → zk_wp G 28 77 [some (.ref a), some (.int (iz fr)), some (.int (iz to)), some (.int (iz d0)), some (.int (iz d1)), some (.int (iz T)), some (.int (iz F)), some (.int (iz on)), o8] [] h Q := by
    intro F on o8 hF hon H1 H2
    have before : ∀ l, fr ≤ l → l / 1440 < F → tok ms (l % 1440) = false := by
      intro l l1 l2
      rcases hF with ⟨f1, f2⟩ | ⟨f1, f2⟩
      · rcases T1 with ⟨-, t2⟩ | ⟨t1, t2, -⟩
        · exact t2 _ (by omega) (by omega)
        · omega
      · omega
    have none1 : ∀ l, fr ≤ l → l ≤ to → l / 1440 < on → locP ms nw nn hs way l = false := by
      intro l l1 l2 l3
      unfold locP
      rcases Int.lt_or_le (l / 1440) F with q | q
      · rw [before l l1 q, Bool.and_false]
      · rw [H1 _ q (by omega) l3, Bool.false_and]
    rw [u_28_77]
    rcases Int.lt_or_le d1 on with hc | hc
    · simp (disch := first | omega | assumption | (simp; done)) only [u_28_0, u_28_1, u_28_4, u_28_7, u_28_8, u_28_9, u_28_12, u_28_15, u_28_17, u_28_18, u_28_19, u_28_20, u_28_23, u_28_24, u_28_25, u_28_28, u_28_30, u_28_32, u_28_34, u_28_37, u_28_38, u_28_39, u_28_40, u_28_43, u_28_44, u_28_46, u_28_47, u_28_49, u_28_51, u_28_54, u_28_56, u_28_57, u_28_60, u_28_61, u_28_64, u_28_66, u_28_67, u_28_69, u_28_72, u_28_75, u_28_79, u_28_81, u_28_84, u_28_86, u_28_89, u_28_92, u_28_93, u_28_95, u_28_96, u_28_99, u_28_101, u_28_104, u_28_105, u_28_106, u_28_109, u_28_110, u_28_112, u_28_114, u_28_115, u_28_118, u_28_120, u_28_123, u_28_125, true_or, or_true, zk_li1_s, zk_ll1_s, zk_la1_r, zk_la1_n, zk_lg0, zk_lgs, zk_co_n, zk_co_i, zk_co_r, zk_co_u, zk_co_l, zk_l1_0, zk_l1_1, zk_l1_s, zk_l2_0, zk_l2_1, zk_l2_s, zk_sm0, zk_smi, zk_smr, zk_smn, zk_sml, zk_fi, zk_fz, zk_fo, zk_fn, zk_fa, zk_ts, zk_tn, zk_cases, true_and, and_true, List.getElem?_cons_zero, List.getElem?_cons_succ, List.length_cons, List.length_nil, Nat.reduceAdd, Nat.reduceLT, Nat.reduceLeDiff, List.set_cons_zero, List.set_cons_succ, va_rf, iz_lit, iz_le]
      refine ⟨fun c => absurd c (by omega), fun _ => ?_⟩
      rw [← hQ]
      exact ⟨rfl, _, Or.inl ⟨rfl, fun l l1 l2 => none1 l l1 l2 (by omega)⟩, rfl⟩
    · obtain ⟨H3, H4⟩ := H2 hc
      have U0 := T0'.1
      have U1 := T0'.2.1
      have nt0 := nt 0 (by omega)
      rw [hT0] at nt0
      have done : ∀ w : Int, 0 ≤ w → w < 1440 → tok ms w = true → (∀ j, (on = d0 → fr % 1440 ≤ j) → 0 ≤ j → j < w → tok ms j = false) → (on = d0 → fr % 1440 ≤ w) → fsP (locP ms nw nn hs way) fr to (if on * 1440 + w ≤ to then on * 1440 + w else 2147483647) := by
        intro w w1 w2 w3 w4 w5
        have e1 : (on * 1440 + w) / 1440 = on := by omega
        have e2 : (on * 1440 + w) % 1440 = w := by omega
        have hlow : ∀ l, fr ≤ l → l ≤ to → l < on * 1440 + w → locP ms nw nn hs way l = false := by
          intro l l1 l2 l3
          rcases Int.lt_or_le (l / 1440) on with q | q
          · exact none1 l l1 l2 q
          · unfold locP
            rw [w4 (l % 1440) (by omega) (by omega) (by omega), Bool.and_false]
        by_cases c : on * 1440 + w ≤ to
        · rw [if_pos c]
          refine Or.inr ⟨by omega, c, ?_, fun l l1 l2 => hlow l l1 (by omega) l2⟩
          unfold locP
          rw [e1, e2, H4, w3]
          rfl
        · rw [if_neg c]
          exact Or.inl ⟨rfl, fun l l1 l2 => hlow l l1 l2 (by omega)⟩
      by_cases hon0 : on = d0
      · have hT2 : T < 1440 := by omega
        obtain ⟨t1, -, t3, t4⟩ : fr % 1440 ≤ T ∧ T < 1440 ∧ tok ms T = true ∧ ∀ j, fr % 1440 ≤ j → j < T → tok ms j = false := by
          rcases T1 with ⟨q, -⟩ | q
          · omega
          · exact q
        have dn := done T (by omega) hT2 t3 (fun j j1 j2 j3 => t4 j (j1 hon0) j3) (fun _ => t1)
        simp (disch := first | omega | assumption | (simp; done)) only [u_28_0, u_28_1, u_28_4, u_28_7, u_28_8, u_28_9, u_28_12, u_28_15, u_28_17, u_28_18, u_28_19, u_28_20, u_28_23, u_28_24, u_28_25, u_28_28, u_28_30, u_28_32, u_28_34, u_28_37, u_28_38, u_28_39, u_28_40, u_28_43, u_28_44, u_28_46, u_28_47, u_28_49, u_28_51, u_28_54, u_28_56, u_28_57, u_28_60, u_28_61, u_28_64, u_28_66, u_28_67, u_28_69, u_28_72, u_28_75, u_28_79, u_28_81, u_28_84, u_28_86, u_28_87, u_28_89, u_28_92, u_28_93, u_28_95, u_28_96, u_28_99, u_28_101, u_28_104, u_28_105, u_28_106, u_28_109, u_28_110, u_28_112, u_28_114, u_28_115, u_28_118, u_28_120, u_28_123, u_28_125, true_or, or_true, zk_li1_s, zk_ll1_s, zk_la1_r, zk_la1_n, zk_lg0, zk_lgs, zk_co_n, zk_co_i, zk_co_r, zk_co_u, zk_co_l, zk_l1_0, zk_l1_1, zk_l1_s, zk_l2_0, zk_l2_1, zk_l2_s, zk_sm0, zk_smi, zk_smr, zk_smn, zk_sml, zk_fi, zk_fz, zk_fo, zk_fn, zk_fa, zk_ts, zk_tn, zk_cases, true_and, and_true, List.getElem?_cons_zero, List.getElem?_cons_succ, List.length_cons, List.length_nil, Nat.reduceAdd, Nat.reduceLT, Nat.reduceLeDiff, List.set_cons_zero, List.set_cons_succ, va_rf, iz_lit, iz_le, iz_lt, iz_inj, iz_mul, iz_add, ica, nt0]
        refine ⟨fun _ => ⟨fun c => absurd hon0 (by omega), fun _ => ⟨fun c => ?_, fun c => ?_⟩⟩, fun c => absurd c (by omega)⟩
        · rw [if_neg (by omega)] at dn
          rw [← hQ]
          exact ⟨rfl, _, dn, rfl⟩
        · rw [if_pos (by omega)] at dn
          rw [← hQ]
          exact ⟨rfl, _, dn, rfl⟩
      · have dn := done U U0 U1 T0'.2.2.1 (fun j j1 j2 j3 => T0'.2.2.2 j j2 j3) (fun q => absurd q hon0)
        have hTr : -2147483648 ≤ T ∧ T ≤ 2147483647 := by omega
        simp (disch := first | omega | assumption | (simp; done)) only [u_28_0, u_28_1, u_28_4, u_28_7, u_28_8, u_28_9, u_28_12, u_28_15, u_28_17, u_28_18, u_28_19, u_28_20, u_28_23, u_28_24, u_28_25, u_28_28, u_28_30, u_28_32, u_28_34, u_28_37, u_28_38, u_28_39, u_28_40, u_28_43, u_28_44, u_28_46, u_28_47, u_28_49, u_28_51, u_28_54, u_28_56, u_28_57, u_28_60, u_28_61, u_28_64, u_28_66, u_28_67, u_28_69, u_28_72, u_28_75, u_28_79, u_28_81, u_28_84, u_28_86, u_28_87, u_28_89, u_28_92, u_28_93, u_28_95, u_28_96, u_28_99, u_28_101, u_28_104, u_28_105, u_28_106, u_28_109, u_28_110, u_28_112, u_28_114, u_28_115, u_28_118, u_28_120, u_28_123, u_28_125, true_or, or_true, zk_li1_s, zk_ll1_s, zk_la1_r, zk_la1_n, zk_lg0, zk_lgs, zk_co_n, zk_co_i, zk_co_r, zk_co_u, zk_co_l, zk_l1_0, zk_l1_1, zk_l1_s, zk_l2_0, zk_l2_1, zk_l2_s, zk_sm0, zk_smi, zk_smr, zk_smn, zk_sml, zk_fi, zk_fz, zk_fo, zk_fn, zk_fa, zk_ts, zk_tn, zk_cases, true_and, and_true, List.getElem?_cons_zero, List.getElem?_cons_succ, List.length_cons, List.length_nil, Nat.reduceAdd, Nat.reduceLT, Nat.reduceLeDiff, List.set_cons_zero, List.set_cons_succ, va_rf, iz_lit, iz_le, iz_lt, iz_inj, iz_mul, iz_add, ica, nt0]
        refine ⟨fun _ => ⟨fun _ => ⟨fun c => ?_, fun c => ?_⟩, fun c => absurd c hon0⟩, fun c => absurd c (by omega)⟩
        · rw [if_neg (by omega)] at dn
          rw [← hQ]
          exact ⟨rfl, _, dn, rfl⟩
        · rw [if_pos (by omega)] at dn
          rw [← hQ]
          exact ⟨rfl, _, dn, rfl⟩
  have mid : ∀ F : Int, (T = 2147483647 ∧ F = d0 + 1 ∨ T < 1440 ∧ F = d0) → zk_wp G 28 46 [some (.ref a), some (.int (iz fr)), some (.int (iz to)), some (.int (iz d0)), some (.int (iz d1)), some (.int (iz T)), some (.int (iz F)), none, none] [] h Q := by
    intro F hF
    obtain ⟨v1, hv1, nf1⟩ := nf F d1 (by omega) (by omega)
    obtain ⟨v2, hv2, nm1⟩ := nm F (by omega)
    have r1 : -2 ≤ v1 ∧ v1 ≤ 2147483647 := by rcases hv1 with ⟨q, -⟩ | ⟨q1, q2, -⟩ <;> omega
    have r2 : -2 ≤ v2 ∧ v2 ≤ 2147483647 := by rcases hv2 with ⟨q, -⟩ | ⟨q1, q2, -⟩ <;> omega
    rw [u_28_46]
    simp (disch := first | omega | assumption | (simp; done)) only [u_28_0, u_28_1, u_28_4, u_28_7, u_28_8, u_28_9, u_28_12, u_28_15, u_28_17, u_28_18, u_28_19, u_28_20, u_28_23, u_28_24, u_28_25, u_28_28, u_28_30, u_28_32, u_28_34, u_28_37, u_28_38, u_28_39, u_28_40, u_28_43, u_28_44, u_28_47, u_28_49, u_28_51, u_28_54, u_28_56, u_28_57, u_28_60, u_28_61, u_28_64, u_28_66, u_28_67, u_28_69, u_28_72, u_28_75, u_28_79, u_28_81, u_28_84, u_28_86, u_28_87, u_28_89, u_28_92, u_28_93, u_28_95, u_28_96, u_28_99, u_28_101, u_28_104, u_28_105, u_28_106, u_28_109, u_28_110, u_28_112, u_28_114, u_28_115, u_28_118, u_28_120, u_28_123, u_28_125, true_or, or_true, zk_li1_s, zk_ll1_s, zk_la1_r, zk_la1_n, zk_lg0, zk_lgs, zk_co_n, zk_co_i, zk_co_r, zk_co_u, zk_co_l, zk_l1_0, zk_l1_1, zk_l1_s, zk_l2_0, zk_l2_1, zk_l2_s, zk_sm0, zk_smi, zk_smr, zk_smn, zk_sml, zk_fi, zk_fz, zk_fo, zk_fn, zk_fa, zk_ts, zk_tn, zk_cases, true_and, and_true, List.getElem?_cons_zero, List.getElem?_cons_succ, List.length_cons, List.length_nil, Nat.reduceAdd, Nat.reduceLT, Nat.reduceLeDiff, List.set_cons_zero, List.set_cons_succ, va_rf, zk_og_f p1, zk_op_f p1, iz_lit, iz_inj, ica, nf1, nm1, mn]
    have A1 : ∀ d, F ≤ d → d ≤ d1 → d < v1 → onS ms nw nn hs way d = false := by
      intro d e1 e2 e3
      rcases hv1 with ⟨-, q⟩ | ⟨-, -, -, q⟩
      · exact q d e1 e2
      · exact q d e1 e3
    have A2 : v1 ≤ d1 → F ≤ v1 ∧ onS ms nw nn hs way v1 = true := by
      intro e
      rcases hv1 with ⟨q, -⟩ | ⟨q1, -, q2, -⟩
      · omega
      · exact ⟨q1, q2⟩
    have B1 : ∀ d, F ≤ d → d ≤ d1 → d < v2 → movD ms nw nn hs d = false := by
      intro d e1 e2 e3
      rcases hv2 with ⟨-, q⟩ | ⟨-, -, -, q⟩
      · exact q d e1 (by omega)
      · exact q d e1 e3
    have B2 : v2 ≤ d1 → F ≤ v2 ∧ movD ms nw nn hs v2 = true := by
      intro e
      rcases hv2 with ⟨q, -⟩ | ⟨q1, -, q2, -⟩
      · omega
      · exact ⟨q1, q2⟩
    refine ⟨fun c => ?_, fun c => ?_⟩
    · have cw : decide (way = 2) = false := by simp; exact c
      refine fin F v1 _ hF r1 (fun d e1 e2 e3 => ?_) (fun e => ⟨(A2 e).1, ?_⟩)
      · unfold onD; rw [cw, A1 d e1 e2 e3]; rfl
      · unfold onD; rw [(A2 e).2]; rfl
    · have cw : decide (way = 2) = true := by simp; exact c
      refine fin F (min v1 v2) _ hF (by omega) (fun d e1 e2 e3 => ?_) (fun e => ⟨?_, ?_⟩)
      · unfold onD; rw [A1 d e1 e2 (by omega), B1 d e1 e2 (by omega), Bool.and_false]; rfl
      · rcases Int.le_total v1 v2 with q | q
        · have := (A2 (by omega)).1; omega
        · have := (B2 (by omega)).1; omega
      · unfold onD
        rcases Int.le_total v1 v2 with q | q
        · rw [Int.min_eq_left q, (A2 (by omega)).2]; rfl
        · rw [Int.min_eq_right q, (B2 (by omega)).2, cw, Bool.and_true, Bool.or_true]
  have e9 : fr - d0 * 1440 = fr % 1440 := by omega
  have nt1 := nt (fr % 1440) (by omega)
  rw [hTn] at nt1
  simp (disch := first | omega | assumption | (simp; done)) only [u_28_0, u_28_1, u_28_4, u_28_7, u_28_8, u_28_9, u_28_12, u_28_15, u_28_17, u_28_18, u_28_19, u_28_20, u_28_23, u_28_24, u_28_25, u_28_28, u_28_30, u_28_32, u_28_34, u_28_37, u_28_38, u_28_39, u_28_40, u_28_43, u_28_44, u_28_47, u_28_49, u_28_51, u_28_54, u_28_56, u_28_57, u_28_60, u_28_61, u_28_64, u_28_66, u_28_67, u_28_69, u_28_72, u_28_75, u_28_77, u_28_79, u_28_81, u_28_84, u_28_86, u_28_87, u_28_89, u_28_92, u_28_93, u_28_95, u_28_96, u_28_99, u_28_101, u_28_104, u_28_105, u_28_106, u_28_109, u_28_110, u_28_112, u_28_114, u_28_115, u_28_118, u_28_120, u_28_123, u_28_125, true_or, or_true, zk_li1_s, zk_ll1_s, zk_la1_r, zk_la1_n, zk_lg0, zk_lgs, zk_co_n, zk_co_i, zk_co_r, zk_co_u, zk_co_l, zk_l1_0, zk_l1_1, zk_l1_s, zk_l2_0, zk_l2_1, zk_l2_s, zk_sm0, zk_smi, zk_smr, zk_smn, zk_sml, zk_fi, zk_fz, zk_fo, zk_fn, zk_fa, zk_ts, zk_tn, zk_cases, true_and, and_true, List.getElem?_cons_zero, List.getElem?_cons_succ, List.length_cons, List.length_nil, Nat.reduceAdd, Nat.reduceLT, Nat.reduceLeDiff, List.set_cons_zero, List.set_cons_succ, va_rf, iz_lit, iz_inj, fd, hd0, hd1, iz_mul, iz_sub, iz_add, e9, ica, nt1]
  refine ⟨fun c => ?_, fun c => ?_⟩
  · exact mid d0 (by omega)
  · exact mid (d0 + 1) (by omega)
end NL
