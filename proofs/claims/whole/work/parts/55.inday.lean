/-! the model's search in a day -/
theorem zmom_mono {ss os : List Int} (zo : zok ss os) (zs : zsr ss) {l l' : Int} (h1 : zloc ss os 0 ≤ l) (h2 : l ≤ l') : zmom ss os l ≤ zmom ss os l' := by
  have h3 : zloc ss os 0 ≤ l' := by omega
  rcases zmom_r zo zs l with q | q
  · have a := (mom_ge zo zs h1 (m0 := 21038400) (by omega)).mp (by omega)
    have b := (mom_ge zo zs h3 (m0 := 21038400) (by omega)).mpr (by omega)
    rcases zmom_r zo zs l' with w | w <;> omega
  · have a := (mom_ge zo zs h1 (m0 := zmom ss os l) (by omega)).mp (by omega)
    exact (mom_ge zo zs h3 (m0 := zmom ss os l) (by omega)).mpr (by omega)
def idP (ss os ex : List Int) (ms : Nat → Nat) (L0 to d r : Int) : Prop := (0 ≤ r ∧ ∃ l, L0 ≤ l ∧ 1440 * d ≤ l ∧ l < 1440 * d + 1440 ∧ tok ms (l % 1440) = true ∧ zmom ss os l = r ∧ r ≤ to ∧ ¬ r ∈ ex ∧ ∀ l', L0 ≤ l' → 1440 * d ≤ l' → l' < l → tok ms (l' % 1440) = true → zmom ss os l' ∈ ex) ∨ (r = -1 ∧ ∃ l, L0 ≤ l ∧ 1440 * d ≤ l ∧ l < 1440 * d + 1440 ∧ to < zmom ss os l ∧ ∀ l', L0 ≤ l' → 1440 * d ≤ l' → l' < l → tok ms (l' % 1440) = true → zmom ss os l' ∈ ex) ∨ (r = -2 ∧ ∀ l', L0 ≤ l' → 1440 * d ≤ l' → l' < 1440 * d + 1440 → tok ms (l' % 1440) = true → zmom ss os l' ∈ ex)
section MID
variable {G : zk_G} {B : zk_H} {M : Nat}
theorem d_inDay (hB : hpo G B M) {m : mS} {j : Int} (hj : jI m j) (d L0 to : Int) (hd : -10 ≤ d ∧ d ≤ 14700) (hL : -2000 ≤ L0 ∧ L0 ≤ 21042000) (ht : 0 ≤ to ∧ to ≤ 21038399) : ∃ r, idP (ssOf m (m 11 j)) (osOf m (m 11 j)) (exOf m j) (msOf m j) L0 to d r ∧ ∀ Q : Option Value → zk_H → Prop, zk_wp G 154 0 [some (.ref M), some (.int (iz j)), some (.int (iz d)), some (.int (iz L0)), some (.int (iz to)), none, none, none, none, none] [] (hp G B M m) Q ↔ Q (some (.int (iz r))) (hp G B M m) := by
  have ic := hp_ic hB
  have zi := hj.2.1
  have j1 := hj.1
  have zr := zi.1
  have zo := zi.2.2.2.1
  have zs := zi.2.2.2.2.1
  have mo := d_momentOf hB zi
  have exc := d_isExc hB hj
  have m12 : 0 ≤ m 12 j ∧ m 12 j < 2 ^ 60 := hj.2.2.1
  have m13 : 0 ≤ m 13 j ∧ m 13 j < 2 ^ 24 := hj.2.2.2.1
  have dn := d_down (G := G) (hp G B M m)
  have mx := d_more (G := G) (hp G B M m)
  suffices hw : zk_wp G 154 0 [some (.ref M), some (.int (iz j)), some (.int (iz d)), some (.int (iz L0)), some (.int (iz to)), none, none, none, none, none] [] (hp G B M m) (fun q h' => ∃ r, idP (ssOf m (m 11 j)) (osOf m (m 11 j)) (exOf m j) (msOf m j) L0 to d r ∧ q = some (.int (iz r)) ∧ h' = hp G B M m) by
    obtain ⟨r0, h0, ⟨r, b1, rfl, rfl⟩, b3⟩ := zk_some hw
    exact ⟨r, b1, b3⟩
  generalize hQ : (fun (q : Option Value) (h' : zk_H) => ∃ r, idP (ssOf m (m 11 j)) (osOf m (m 11 j)) (exOf m j) (msOf m j) L0 to d r ∧ q = some (.int (iz r)) ∧ h' = hp G B M m) = Q
  have tk : ∀ h k : Int, 0 ≤ h → h < 24 → 0 ≤ k → k < 60 → tok (msOf m j) ((1440 * d + 60 * h + k) % 1440) = ((m 13 j).toNat.testBit h.toNat && (m 12 j).toNat.testBit k.toNat) := by
    intro h k h1 h2 k1 k2
    unfold tok
    have e1 : (1440 * d + 60 * h + k) % 1440 / 60 = h := by omega
    have e2 : (1440 * d + 60 * h + k) % 1440 % 60 = k := by omega
    rw [e1, e2]
    rfl
  generalize hss : ssOf m (m 11 j) = ss at *
  generalize hos : osOf m (m 11 j) = os at *
  have inner : ∀ (f : Nat) (h : Int), (∀ h', h < h' → h' ≤ 24 → (∀ l', L0 ≤ l' → 1440 * d ≤ l' → l' < 1440 * d + 60 * h' → tok (msOf m j) (l' % 1440) = true → zmom ss os l' ∈ exOf m j) → ∀ o7 o8 o9 : Option Value, zk_wp G 154 26 [some (.ref M), some (.int (iz j)), some (.int (iz d)), some (.int (iz L0)), some (.int (iz to)), some (.int (iz (m 11 j))), some (.int (iz h')), o7, o8, o9] [] (hp G B M m) Q) → 0 ≤ h → h < 24 → ∀ (k : Int) (o8 o9 : Option Value), 0 ≤ k → k + f = 60 → (∀ l', L0 ≤ l' → 1440 * d ≤ l' → l' < 1440 * d + 60 * h + k → tok (msOf m j) (l' % 1440) = true → zmom ss os l' ∈ exOf m j) → zk_wp G 154 36 [some (.ref M), some (.int (iz j)), some (.int (iz d)), some (.int (iz L0)), some (.int (iz to)), some (.int (iz (m 11 j))), some (.int (iz h)), some (.int (iz k)), o8, o9] [] (hp G B M m) Q := by
    intro f h nexth h1 h2
    induction f with
    | zero =>
      intro k o8 o9 k1 k2 hI
      rw [u_154_36]
      simp (disch := first | omega | assumption | (simp; done)) only [u_154_0, u_154_1, u_154_4, u_154_5, u_154_6, u_154_8, u_154_9, u_154_10, u_154_11, u_154_14, u_154_15, u_154_16, u_154_18, u_154_21, u_154_24, u_154_28, u_154_30, u_154_33, u_154_34, u_154_38, u_154_40, u_154_44, u_154_47, u_154_48, u_154_49, u_154_51, u_154_52, u_154_53, u_154_54, u_154_55, u_154_58, u_154_59, u_154_62, u_154_63, u_154_65, u_154_67, u_154_68, u_154_69, u_154_71, u_154_72, u_154_74, u_154_75, u_154_78, u_154_79, u_154_80, u_154_82, u_154_83, u_154_84, u_154_85, u_154_86, u_154_87, u_154_90, u_154_92, u_154_93, u_154_96, u_154_97, u_154_99, u_154_101, u_154_104, u_154_106, u_154_108, u_154_111, u_154_113, u_154_115, u_154_118, u_154_119, u_154_120, u_154_121, u_154_122, u_154_124, u_154_127, u_154_130, u_154_132, u_154_133, u_154_136, u_154_139, u_154_142, u_154_145, u_154_147, true_or, or_true, zk_li1_s, zk_ll1_s, zk_la1_r, zk_la1_n, zk_lg0, zk_lgs, zk_co_n, zk_co_i, zk_co_r, zk_co_u, zk_co_l, zk_l1_0, zk_l1_1, zk_l1_s, zk_l2_0, zk_l2_1, zk_l2_s, zk_sm0, zk_smi, zk_smr, zk_smn, zk_sml, zk_fi, zk_fz, zk_fo, zk_fn, zk_fa, zk_ts, zk_tn, zk_cases, true_and, and_true, List.getElem?_cons_zero, List.getElem?_cons_succ, List.length_cons, List.length_nil, Nat.reduceAdd, Nat.reduceLT, Nat.reduceLeDiff, List.set_cons_zero, List.set_cons_succ, va_rf, iz_lit, iz_le, iz_add]
      refine ⟨fun _ => ?_, fun c => absurd c (by omega)⟩
      exact nexth (h + 1) (by omega) (by omega) (fun l' a b c e => hI l' a b (by omega) e) _ _ _
    | succ f ih =>
      intro k o8 o9 k1 k2 hI
      have tkk := tk h k h1 h2 k1 (by omega)
      have ih1 := ih (k + 1)
      rw [u_154_36]
      have eL : d * 1440 + 60 * h + k = 1440 * d + 60 * h + k := by omega
      have mo1 := mo (1440 * d + 60 * h + k) (by omega)
      have zr1 := zmom_r zo zs (1440 * d + 60 * h + k)
      generalize hv : zmom ss os (1440 * d + 60 * h + k) = v at *
      have nr : -9 ≤ nof v ∧ nof v ≤ 21038399 := by unfold nof; split <;> omega
      have nf : (nof v < 0 ↔ v = 2147483647) ∧ (0 ≤ nof v → nof v = v) := by unfold nof; split <;> omega
      have ex1 := exc (nof v) (by omega)
      simp (disch := first | omega | assumption | (simp; done)) only [u_154_0, u_154_1, u_154_4, u_154_5, u_154_6, u_154_8, u_154_9, u_154_10, u_154_11, u_154_14, u_154_15, u_154_16, u_154_18, u_154_21, u_154_24, u_154_28, u_154_30, u_154_33, u_154_34, u_154_38, u_154_40, u_154_43, u_154_44, u_154_47, u_154_48, u_154_49, u_154_51, u_154_52, u_154_53, u_154_54, u_154_55, u_154_58, u_154_59, u_154_62, u_154_63, u_154_65, u_154_67, u_154_68, u_154_69, u_154_71, u_154_72, u_154_74, u_154_75, u_154_78, u_154_79, u_154_80, u_154_82, u_154_83, u_154_84, u_154_85, u_154_86, u_154_87, u_154_90, u_154_92, u_154_93, u_154_96, u_154_97, u_154_99, u_154_101, u_154_104, u_154_106, u_154_108, u_154_111, u_154_113, u_154_115, u_154_118, u_154_119, u_154_120, u_154_121, u_154_122, u_154_124, u_154_127, u_154_130, u_154_132, u_154_133, u_154_136, u_154_139, u_154_142, u_154_145, u_154_147, true_or, or_true, zk_li1_s, zk_ll1_s, zk_la1_r, zk_la1_n, zk_lg0, zk_lgs, zk_co_n, zk_co_i, zk_co_r, zk_co_u, zk_co_l, zk_l1_0, zk_l1_1, zk_l1_s, zk_l2_0, zk_l2_1, zk_l2_s, zk_sm0, zk_smi, zk_smr, zk_smn, zk_sml, zk_fi, zk_fz, zk_fo, zk_fn, zk_fa, zk_ts, zk_tn, zk_cases, true_and, and_true, List.getElem?_cons_zero, List.getElem?_cons_succ, List.length_cons, List.length_nil, Nat.reduceAdd, Nat.reduceLT, Nat.reduceLeDiff, List.set_cons_zero, List.set_cons_succ, va_rf, ic, iz_lit, iz_neg, iz_le, iz_lt, iz_mul, iz_add, eL, mg_12 hB, mr_12 hB, mw_12 hB, mg_13 hB, mr_13 hB, mw_13 hB, i_bit, ljt1, l_bit, l_bit1, bi_0, bi_1, mo1, ex1]
      -- the rest of the hour
      have skip : (tok (msOf m j) ((1440 * d + 60 * h + k) % 1440) = true → L0 ≤ 1440 * d + 60 * h + k → v ∈ exOf m j) → ∀ o8 o9 : Option Value, zk_wp G 154 36 [some (.ref M), some (.int (iz j)), some (.int (iz d)), some (.int (iz L0)), some (.int (iz to)), some (.int (iz (m 11 j))), some (.int (iz h)), some (.int (iz (k + 1))), o8, o9] [] (hp G B M m) Q := by
        intro hs o8 o9
        refine ih1 o8 o9 (by omega) (by omega) (fun l' a b c e => ?_)
        rcases Int.lt_or_le l' (1440 * d + 60 * h + k) with q | q
        · exact hI l' a b q e
        · have : l' = 1440 * d + 60 * h + k := by omega
          subst this
          rw [hv]
          exact hs e a
      refine ⟨fun c => absurd c (by omega), fun _ => ⟨fun c => ?_, fun c => ⟨fun c2 => ?_, fun c2 => ⟨fun c3 => ?_, fun c3 => ⟨fun c4 => ?_, fun c4 => ⟨fun c5 => ⟨fun c6 => ?_, fun c6 => ?_⟩, fun c5 => ?_⟩⟩⟩⟩⟩⟩
      · refine nexth (h + 1) (by omega) (by omega) (fun l' a b c9 e => ?_) _ _ _
        rcases Int.lt_or_le l' (1440 * d + 60 * h + k) with q | q
        · exact hI l' a b q e
        · exfalso
          have := tk h (l' - (1440 * d + 60 * h)) h1 h2 (by omega) (by omega)
          rw [show 1440 * d + 60 * h + (l' - (1440 * d + 60 * h)) = l' by omega, e] at this
          have c' : (m 13 j).toNat.testBit h.toNat = false := by simpa using c
          rw [c'] at this
          cases this
      · refine skip (fun q _ => ?_) _ _
        rw [tkk] at q
        have c' : (m 12 j).toNat.testBit k.toNat = false := by simpa using c2
        rw [c', Bool.and_false] at q
        cases q
      · refine skip (fun _ q => by omega) _ _
      · rw [← hQ]
        have hn := nf.1.mp (by omega)
        exact ⟨-1, Or.inr (Or.inl ⟨rfl, 1440 * d + 60 * h + k, by omega, by omega, by omega, by omega, fun l' a b c9 e => hI l' a b c9 e⟩), rfl, rfl⟩
      · refine skip (fun _ _ => ?_) _ _
        have := nf.2 (by omega)
        rw [this] at c6
        rcases Bool.eq_false_or_eq_true (decide (v ∈ exOf m j)) with q | q
        · exact of_decide_eq_true q
        · exact absurd q c6
      · rw [← hQ]
        have hn := nf.2 (by omega)
        rw [hn] at c6 c5 ⊢
        refine ⟨v, Or.inl ⟨by omega, 1440 * d + 60 * h + k, by omega, by omega, by omega, ?_, hv, by omega, of_decide_eq_false c6, fun l' a b c9 e => hI l' a b c9 e⟩, rfl, rfl⟩
        rw [tkk, c, c2]
        rfl
      · rw [← hQ]
        have hn := nf.2 (by omega)
        rw [hn] at c5
        exact ⟨-1, Or.inr (Or.inl ⟨rfl, 1440 * d + 60 * h + k, by omega, by omega, by omega, by omega, fun l' a b c9 e => hI l' a b c9 e⟩), rfl, rfl⟩
  have outer : ∀ (n : Nat) (h : Int) (o7 o8 o9 : Option Value), 0 ≤ h → h ≤ 24 → 24 - h ≤ n → (∀ l', L0 ≤ l' → 1440 * d ≤ l' → l' < 1440 * d + 60 * h → tok (msOf m j) (l' % 1440) = true → zmom ss os l' ∈ exOf m j) → zk_wp G 154 26 [some (.ref M), some (.int (iz j)), some (.int (iz d)), some (.int (iz L0)), some (.int (iz to)), some (.int (iz (m 11 j))), some (.int (iz h)), o7, o8, o9] [] (hp G B M m) Q := by
    intro n
    induction n with
    | zero =>
      intro h o7 o8 o9 h1 h2 h3 hI
      rw [u_154_26]
      simp (disch := first | omega | assumption | (simp; done)) only [u_154_0, u_154_1, u_154_4, u_154_5, u_154_6, u_154_8, u_154_9, u_154_10, u_154_11, u_154_14, u_154_15, u_154_16, u_154_18, u_154_21, u_154_24, u_154_28, u_154_30, u_154_34, u_154_38, u_154_40, u_154_43, u_154_44, u_154_47, u_154_48, u_154_49, u_154_51, u_154_52, u_154_53, u_154_54, u_154_55, u_154_58, u_154_59, u_154_62, u_154_63, u_154_65, u_154_67, u_154_68, u_154_69, u_154_71, u_154_72, u_154_74, u_154_75, u_154_78, u_154_79, u_154_80, u_154_82, u_154_83, u_154_84, u_154_85, u_154_86, u_154_87, u_154_90, u_154_92, u_154_93, u_154_96, u_154_97, u_154_99, u_154_101, u_154_104, u_154_106, u_154_108, u_154_111, u_154_113, u_154_115, u_154_118, u_154_119, u_154_120, u_154_121, u_154_122, u_154_124, u_154_127, u_154_130, u_154_132, u_154_133, u_154_136, u_154_139, u_154_142, u_154_145, u_154_147, true_or, or_true, zk_li1_s, zk_ll1_s, zk_la1_r, zk_la1_n, zk_lg0, zk_lgs, zk_co_n, zk_co_i, zk_co_r, zk_co_u, zk_co_l, zk_l1_0, zk_l1_1, zk_l1_s, zk_l2_0, zk_l2_1, zk_l2_s, zk_sm0, zk_smi, zk_smr, zk_smn, zk_sml, zk_fi, zk_fz, zk_fo, zk_fn, zk_fa, zk_ts, zk_tn, zk_cases, true_and, and_true, List.getElem?_cons_zero, List.getElem?_cons_succ, List.length_cons, List.length_nil, Nat.reduceAdd, Nat.reduceLT, Nat.reduceLeDiff, List.set_cons_zero, List.set_cons_succ, va_rf, iz_lit, iz_le, iz_neg]
      refine ⟨fun _ => ?_, fun c => absurd c (by omega)⟩
      rw [← hQ]
      exact ⟨-2, Or.inr (Or.inr ⟨rfl, fun l' a b c e => hI l' a b (by omega) e⟩), rfl, rfl⟩
    | succ n ih =>
      intro h o7 o8 o9 h1 h2 h3 hI
      rw [u_154_26]
      simp (disch := first | omega | assumption | (simp; done)) only [u_154_0, u_154_1, u_154_4, u_154_5, u_154_6, u_154_8, u_154_9, u_154_10, u_154_11, u_154_14, u_154_15, u_154_16, u_154_18, u_154_21, u_154_24, u_154_28, u_154_30, u_154_33, u_154_34, u_154_38, u_154_40, u_154_43, u_154_44, u_154_47, u_154_48, u_154_49, u_154_51, u_154_52, u_154_53, u_154_54, u_154_55, u_154_58, u_154_59, u_154_62, u_154_63, u_154_65, u_154_67, u_154_68, u_154_69, u_154_71, u_154_72, u_154_74, u_154_75, u_154_78, u_154_79, u_154_80, u_154_82, u_154_83, u_154_84, u_154_85, u_154_86, u_154_87, u_154_90, u_154_92, u_154_93, u_154_96, u_154_97, u_154_99, u_154_101, u_154_104, u_154_106, u_154_108, u_154_111, u_154_113, u_154_115, u_154_118, u_154_119, u_154_120, u_154_121, u_154_122, u_154_124, u_154_127, u_154_130, u_154_132, u_154_133, u_154_136, u_154_139, u_154_142, u_154_145, u_154_147, true_or, or_true, zk_li1_s, zk_ll1_s, zk_la1_r, zk_la1_n, zk_lg0, zk_lgs, zk_co_n, zk_co_i, zk_co_r, zk_co_u, zk_co_l, zk_l1_0, zk_l1_1, zk_l1_s, zk_l2_0, zk_l2_1, zk_l2_s, zk_sm0, zk_smi, zk_smr, zk_smn, zk_sml, zk_fi, zk_fz, zk_fo, zk_fn, zk_fa, zk_ts, zk_tn, zk_cases, true_and, and_true, List.getElem?_cons_zero, List.getElem?_cons_succ, List.length_cons, List.length_nil, Nat.reduceAdd, Nat.reduceLT, Nat.reduceLeDiff, List.set_cons_zero, List.set_cons_succ, va_rf, iz_lit, iz_le, iz_neg]
      refine ⟨fun _ => ?_, fun c => ?_⟩
      · rw [← hQ]
        exact ⟨-2, Or.inr (Or.inr ⟨rfl, fun l' a b c e => hI l' a b (by omega) e⟩), rfl, rfl⟩
      · exact inner 60 h (fun h' a b hh o7 o8 o9 => ih h' o7 o8 o9 (by omega) b (by omega) hh) h1 (by omega) 0 _ _ (by omega) (by omega) (fun l' a b c e => hI l' a b (by omega) e)
  simp (disch := first | omega | assumption | (simp; done)) only [u_154_0, u_154_1, u_154_4, u_154_5, u_154_6, u_154_8, u_154_9, u_154_10, u_154_11, u_154_14, u_154_15, u_154_16, u_154_18, u_154_21, u_154_24, u_154_28, u_154_30, u_154_33, u_154_34, u_154_36, u_154_38, u_154_40, u_154_43, u_154_44, u_154_47, u_154_48, u_154_49, u_154_51, u_154_52, u_154_53, u_154_54, u_154_55, u_154_58, u_154_59, u_154_62, u_154_63, u_154_65, u_154_67, u_154_68, u_154_69, u_154_71, u_154_72, u_154_74, u_154_75, u_154_78, u_154_79, u_154_80, u_154_82, u_154_83, u_154_84, u_154_85, u_154_86, u_154_87, u_154_90, u_154_92, u_154_93, u_154_96, u_154_97, u_154_99, u_154_101, u_154_104, u_154_106, u_154_108, u_154_111, u_154_113, u_154_115, u_154_118, u_154_119, u_154_120, u_154_121, u_154_122, u_154_124, u_154_127, u_154_130, u_154_132, u_154_133, u_154_136, u_154_139, u_154_142, u_154_145, u_154_147, true_or, or_true, zk_li1_s, zk_ll1_s, zk_la1_r, zk_la1_n, zk_lg0, zk_lgs, zk_co_n, zk_co_i, zk_co_r, zk_co_u, zk_co_l, zk_l1_0, zk_l1_1, zk_l1_s, zk_l2_0, zk_l2_1, zk_l2_s, zk_sm0, zk_smi, zk_smr, zk_smn, zk_sml, zk_fi, zk_fz, zk_fo, zk_fn, zk_fa, zk_ts, zk_tn, zk_cases, true_and, and_true, List.getElem?_cons_zero, List.getElem?_cons_succ, List.length_cons, List.length_nil, Nat.reduceAdd, Nat.reduceLT, Nat.reduceLeDiff, List.set_cons_zero, List.set_cons_succ, va_rf, iz_lit, iz_mul, iz_sub, mg_11 hB, mr_11 hB, mw_11 hB, dn, mx]
  have start : ∀ h : Int, 0 ≤ h → (h = 0 ∨ 60 * h ≤ L0 - d * 1440) → h ≤ 24 → zk_wp G 154 26 [some (.ref M), some (.int (iz j)), some (.int (iz d)), some (.int (iz L0)), some (.int (iz to)), some (.int (iz (m 11 j))), some (.int (iz h)), none, none, none] [] (hp G B M m) Q := by
    intro h h1 h2 h3
    exact outer 24 h _ _ _ h1 h3 (by omega) (fun l' a b c e => by omega)
  rcases Int.lt_or_le 24 (max 0 ((L0 - d * 1440) / 60)) with q | q
  · rw [u_154_26]
    simp (disch := first | omega | assumption | (simp; done)) only [u_154_0, u_154_1, u_154_4, u_154_5, u_154_6, u_154_8, u_154_9, u_154_10, u_154_11, u_154_14, u_154_15, u_154_16, u_154_18, u_154_21, u_154_24, u_154_28, u_154_30, u_154_34, u_154_38, u_154_40, u_154_43, u_154_44, u_154_47, u_154_48, u_154_49, u_154_51, u_154_52, u_154_53, u_154_54, u_154_55, u_154_58, u_154_59, u_154_62, u_154_63, u_154_65, u_154_67, u_154_68, u_154_69, u_154_71, u_154_72, u_154_74, u_154_75, u_154_78, u_154_79, u_154_80, u_154_82, u_154_83, u_154_84, u_154_85, u_154_86, u_154_87, u_154_90, u_154_92, u_154_93, u_154_96, u_154_97, u_154_99, u_154_101, u_154_104, u_154_106, u_154_108, u_154_111, u_154_113, u_154_115, u_154_118, u_154_119, u_154_120, u_154_121, u_154_122, u_154_124, u_154_127, u_154_130, u_154_132, u_154_133, u_154_136, u_154_139, u_154_142, u_154_145, u_154_147, true_or, or_true, zk_li1_s, zk_ll1_s, zk_la1_r, zk_la1_n, zk_lg0, zk_lgs, zk_co_n, zk_co_i, zk_co_r, zk_co_u, zk_co_l, zk_l1_0, zk_l1_1, zk_l1_s, zk_l2_0, zk_l2_1, zk_l2_s, zk_sm0, zk_smi, zk_smr, zk_smn, zk_sml, zk_fi, zk_fz, zk_fo, zk_fn, zk_fa, zk_ts, zk_tn, zk_cases, true_and, and_true, List.getElem?_cons_zero, List.getElem?_cons_succ, List.length_cons, List.length_nil, Nat.reduceAdd, Nat.reduceLT, Nat.reduceLeDiff, List.set_cons_zero, List.set_cons_succ, va_rf, iz_lit, iz_le, iz_neg]
    refine ⟨fun _ => ?_, fun c => absurd c (by omega)⟩
    rw [← hQ]
    exact ⟨-2, Or.inr (Or.inr ⟨rfl, fun l' a b c e => by omega⟩), rfl, rfl⟩
  · exact start _ (by omega) (by omega) q
end MID
