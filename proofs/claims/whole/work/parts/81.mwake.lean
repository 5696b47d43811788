/-! the model's after and wake -/
def afB (m : mS) (j o : Int) : Bool := (rcR (fun k => awO m k) (m 10 0).toNat (2 ^ o.toNat) 12).testBit j.toNat || (awO m j).testBit o.toNat
def afO (m : mS) (j o : Int) : Prop := (0 ≤ j ∧ j < m 10 0) ∧ (0 ≤ o ∧ o < m 10 0)
def wkB (m : mS) (sc n : Int) (f : Int) : Bool := decide (m 25 n = 0) && (decide (0 < m 35 (12 * sc + n)) || decide (f ≠ 2147483647))
noncomputable def wkO (m : mS) (sc n : Int) : Bool := wkB m sc n (ffd (dueJ m n) (m 32 (12 * sc + n) + 1) (m 0 0))
noncomputable def wks (m : mS) (sc : Int) : Nat → mS
  | 0 => m
  | n + 1 => if wkO (wks m sc n) sc n = true then mbgn (wks m sc n) sc n else wks m sc n
noncomputable def wkc (m : mS) (sc : Int) : Nat → Int
  | 0 => 0
  | n + 1 => if wkO (wks m sc n) sc n = true then wkc m sc n + 1 else wkc m sc n
theorem mbg0_z (m : mS) (i b : Int) (k : Nat) (z : Int) (hz : z ≠ i) : mbg0 m i b k z = m k z := by
  unfold mbg0
  rw [up_ne _ _ (fun q => hz q.2), up_ne _ _ (fun q => hz q.2), up_ne _ _ (fun q => hz q.2), up_ne _ _ (fun q => hz q.2), up_ne _ _ (fun q => hz q.2), up_ne _ _ (fun q => hz q.2), up_ne _ _ (fun q => hz q.2), up_ne _ _ (fun q => hz q.2), up_ne _ _ (fun q => hz q.2)]
theorem mbg0_k (m : mS) (i b : Int) (k : Nat) (z : Int) (h : k < 30 ∨ (31 ≤ k ∧ k ≤ 33) ∨ 42 ≤ k) : mbg0 m i b k z = m k z := by
  unfold mbg0
  rw [up_k _ _ _ _ (by omega), up_k _ _ _ _ (by omega), up_k _ _ _ _ (by omega), up_k _ _ _ _ (by omega), up_k _ _ _ _ (by omega), up_k _ _ _ _ (by omega), up_k _ _ _ _ (by omega), up_k _ _ _ _ (by omega), up_k _ _ _ _ (by omega)]
theorem mbgn_z (m : mS) (sc j : Int) (k : Nat) (z : Int) (hz : z ≠ 12 * sc + j) (h : k ≠ 54) (h1 : k ≠ 51) (h2 : k ≠ 53) : mbgn m sc j k z = m k z := by
  unfold mbgn
  rw [msto_k _ _ _ _ _ _ _ _ _ h h1 h2, mbg0_z _ _ _ _ _ hz]
theorem mbgn_k (m : mS) (sc j : Int) (k : Nat) (z : Int) (hk : k < 30 ∨ (31 ≤ k ∧ k ≤ 33) ∨ 42 ≤ k) (h : k ≠ 54) (h1 : k ≠ 51) (h2 : k ≠ 53) : mbgn m sc j k z = m k z := by
  unfold mbgn
  rw [msto_k _ _ _ _ _ _ _ _ _ h h1 h2, mbg0_k _ _ _ _ _ hk]
theorem mbgn_sz {m : mS} (hs : 0 ≤ m 53 0 ∧ m 53 0 ≤ 60) (sc j : Int) : 0 ≤ mbgn m sc j 53 0 ∧ mbgn m sc j 53 0 ≤ 60 := by
  unfold mbgn
  refine msto_sz ?_ _ _ _ _ _ _
  rw [mbg0_k _ _ _ _ _ (by omega)]
  exact hs
theorem wks_k (m : mS) (sc : Int) (k : Nat) (z : Int) (hk : k < 30 ∨ (31 ≤ k ∧ k ≤ 33) ∨ 42 ≤ k) (h : k ≠ 54) (h1 : k ≠ 51) (h2 : k ≠ 53) : ∀ n, wks m sc n k z = m k z := by
  intro n
  induction n with
  | zero => rfl
  | succ n ih =>
    unfold wks
    split
    · rw [mbgn_k _ _ _ _ _ hk h h1 h2, ih]
    · exact ih
theorem wks_z (m : mS) (sc : Int) (k : Nat) (h : k ≠ 54) (h1 : k ≠ 51) (h2 : k ≠ 53) : ∀ (n : Nat) (z : Int), (z < 12 * sc ∨ 12 * sc + n ≤ z) → wks m sc n k z = m k z := by
  intro n
  induction n with
  | zero => intro z _; rfl
  | succ n ih =>
    intro z hz
    unfold wks
    split
    · rw [mbgn_z _ _ _ _ _ (by omega) h h1 h2, ih z (by omega)]
    · exact ih z (by omega)
theorem wks_sz {m : mS} (hs : 0 ≤ m 53 0 ∧ m 53 0 ≤ 60) (sc : Int) : ∀ n, 0 ≤ wks m sc n 53 0 ∧ wks m sc n 53 0 ≤ 60 := by
  intro n
  induction n with
  | zero => exact hs
  | succ n ih =>
    unfold wks
    split
    · exact mbgn_sz ih _ _
    · exact ih
theorem wks_cfg (m : mS) (sc : Int) (n : Nat) : cfg m (wks m sc n) := by
  intro k z q
  refine wks_k m sc k z ?_ ?_ ?_ ?_ n
  · unfold cfc at q; simp at q; omega
  · intro e; rw [e] at q; revert q; decide
  · intro e; rw [e] at q; revert q; decide
  · intro e; rw [e] at q; revert q; decide
theorem dtx_bg0 {m m' : mS} (h : dtx m m') (i b : Int) : dtx (mbg0 m i b) (mbg0 m' i b) := by
  unfold mbg0
  rw [h 31 i (by decide) (by decide) (by decide), h 32 i (by decide) (by decide) (by decide), h 33 i (by decide) (by decide) (by decide)]
  exact dtx_up (dtx_up (dtx_up (dtx_up (dtx_up (dtx_up (dtx_up (dtx_up (dtx_up h _ _ _) _ _ _) _ _ _) _ _ _) _ _ _) _ _ _) _ _ _) _ _ _) _ _ _
theorem dtx_bgn {m m' : mS} (h : dtx m m') (sc j : Int) : dtx (mbgn m sc j) (mbgn m' sc j) := by
  unfold mbgn
  rw [h 34 _ (by decide) (by decide) (by decide), h 30 _ (by decide) (by decide) (by decide)]
  exact dtx_sto (dtx_bg0 h _ _) _ _ _ _ _ _
theorem wkc_r (m : mS) (sc : Int) : ∀ n : Nat, 0 ≤ wkc m sc n ∧ wkc m sc n ≤ n := by
  intro n
  induction n with
  | zero => unfold wkc; omega
  | succ n ih => unfold wkc; split <;> omega
section MWAK
variable {G : zk_G} {B : zk_H} {M : Nat}
theorem d_after (hB : hpo G B M) {m : mS} (h10 : 0 ≤ m 10 0 ∧ m 10 0 ≤ 12) (hO : o3I m) (j o : Int) (hj : -2147483648 ≤ j ∧ j ≤ 2147483647) (ho : -2147483648 ≤ o ∧ o ≤ 2147483647) (Q : Option Value → zk_H → Prop) : (¬ afO m j o → (zk_wp G 140 0 [some (.ref M), some (.int (iz j)), some (.int (iz o)), none, none] [] (hp G B M m) Q ↔ Q (some (.int (iz (-1)))) (hp G B M m))) ∧ (afO m j o → afB m j o = true → (zk_wp G 140 0 [some (.ref M), some (.int (iz j)), some (.int (iz o)), none, none] [] (hp G B M m) Q ↔ Q (some (.int (iz (-2)))) (hp G B M m))) ∧ (afO m j o → afB m j o = false → m 26 j = 3 → (zk_wp G 140 0 [some (.ref M), some (.int (iz j)), some (.int (iz o)), none, none] [] (hp G B M m) Q ↔ Q (some (.int (iz (-3)))) (hp G B M m))) ∧ (afO m j o → afB m j o = false → m 26 j ≠ 3 → (zk_wp G 140 0 [some (.ref M), some (.int (iz j)), some (.int (iz o)), none, none] [] (hp G B M m) Q ↔ Q (some (.int (iz (m 26 j + 1)))) (hp G B M (up (up m 27 (3 * j + m 26 j) o) 26 j (m 26 j + 1))))) := by
  have ic := hp_ic hB
  have ij := d_isJob hB h10 j hj
  have io := d_isJob hB h10 o ho
  by_cases c : afO m j o
  · obtain ⟨c1, c2⟩ := c
    rw [if_pos c1] at ij
    rw [if_pos c2] at io
    have wf := d_waitsFor hB h10 hO o j (by omega) (by omega)
    obtain ⟨ok1, ok2⟩ := hO j (by omega) (by omega)
    have ok3 : ∀ i : Nat, i < (m 26 j).toNat → 0 ≤ m 27 (3 * j + i) ∧ m 27 (3 * j + i) < 12 := fun i hi => ok2 i (by omega) (by omega)
    have key : ∀ (P : Option Value → zk_H → Prop), (∀ o4, zk_wp G 140 70 [some (.ref M), some (.int (iz j)), some (.int (iz o)), some (.int (iz (bi (afB m j o)))), o4] [] (hp G B M m) P) → zk_wp G 140 0 [some (.ref M), some (.int (iz j)), some (.int (iz o)), none, none] [] (hp G B M m) P := by
      intro P hP
      have loop : ∀ (q i : Nat) (b : Bool), (i : Int) + q = m 26 j → b = ((rcR (fun k => awO m k) (m 10 0).toNat (2 ^ o.toNat) 12).testBit j.toNat || (awN m j i).testBit o.toNat) → zk_wp G 140 28 [some (.ref M), some (.int (iz j)), some (.int (iz o)), some (.int (iz (bi b))), some (.int (iz i))] [] (hp G B M m) P := by
        intro q
        induction q with
        | zero =>
          intro i b hi hb
          have e : b = afB m j o := by rw [hb]; unfold afB awO; rw [show (m 26 j).toNat = i by omega]
          have p1 := hP (some (.int (iz i)))
          rw [← e] at p1
          rw [u_140_28]
          simp (disch := first | omega | assumption | (simp; done)) only [u_140_0, u_140_1, u_140_2, u_140_5, u_140_8, u_140_9, u_140_10, u_140_13, u_140_16, u_140_17, u_140_18, u_140_19, u_140_20, u_140_21, u_140_24, u_140_25, u_140_26, u_140_30, u_140_31, u_140_34, u_140_35, u_140_36, u_140_40, u_140_43, u_140_44, u_140_47, u_140_48, u_140_49, u_140_50, u_140_52, u_140_53, u_140_54, u_140_55, u_140_58, u_140_59, u_140_62, u_140_63, u_140_64, u_140_67, u_140_71, u_140_74, u_140_76, u_140_77, u_140_78, u_140_81, u_140_82, u_140_83, u_140_84, u_140_87, u_140_89, u_140_90, u_140_91, u_140_94, u_140_95, u_140_96, u_140_97, u_140_98, u_140_101, u_140_102, u_140_103, u_140_104, u_140_105, u_140_106, u_140_107, u_140_110, u_140_111, u_140_112, u_140_113, u_140_114, u_140_115, u_140_116, u_140_117, u_140_120, u_140_121, u_140_122, true_or, or_true, zk_li1_s, zk_ll1_s, zk_la1_r, zk_la1_n, zk_lg0, zk_lgs, zk_co_n, zk_co_i, zk_co_r, zk_co_u, zk_co_l, zk_l1_0, zk_l1_1, zk_l1_s, zk_l2_0, zk_l2_1, zk_l2_s, zk_sm0, zk_smi, zk_smr, zk_smn, zk_sml, zk_fi, zk_fz, zk_fo, zk_fn, zk_fa, zk_ts, zk_tn, zk_cases, true_and, and_true, List.getElem?_cons_zero, List.getElem?_cons_succ, List.length_cons, List.length_nil, Nat.reduceAdd, Nat.reduceLT, Nat.reduceLeDiff, List.set_cons_zero, List.set_cons_succ, va_rf, iz_lit, iz_le, mg_26 hB, mr_26 hB, mw_26 hB]
          (repeat' (first | exact p1 | apply And.intro | intro _)) <;> first | omega | (exfalso; omega) | contradiction | exact absurd trivial (by assumption) | (exfalso; simp_all; done)
        | succ q ih =>
          intro i b hi hb
          have b27 := ok2 i (by omega) (by omega)
          have st : ∀ b2 : Bool, (b2 = true ↔ (b = true ∨ m 27 (3 * j + i) = o)) → b2 = ((rcR (fun k => awO m k) (m 10 0).toNat (2 ^ o.toNat) 12).testBit j.toNat || (awN m j (i + 1)).testBit o.toNat) := by
            intro b2 h2
            rw [Bool.eq_iff_iff, h2, hb]
            have e1 : awN m j (i + 1) = awN m j i ||| 2 ^ (m 27 (3 * j + i)).toNat := rfl
            rw [e1, Nat.testBit_or, Nat.testBit_two_pow, Bool.or_eq_true, Bool.or_eq_true, Bool.or_eq_true, decide_eq_true_iff]
            have e2 : ((m 27 (3 * j + i)).toNat = o.toNat) ↔ (m 27 (3 * j + i) = o) := by omega
            rw [e2, or_assoc]
          rw [u_140_28]
          by_cases cb : b = true
          · have nx := ih (i + 1) true (by omega) (st true (by simp [cb]))
            rw [show (((i + 1 : Nat)) : Int) = (i : Int) + 1 by omega] at nx
            have e1 : bi true = 1 := rfl
            rw [cb]
            rw [e1] at nx ⊢
            simp (disch := first | omega | assumption | (simp; done)) only [u_140_0, u_140_1, u_140_2, u_140_5, u_140_8, u_140_9, u_140_10, u_140_13, u_140_16, u_140_17, u_140_18, u_140_19, u_140_20, u_140_21, u_140_24, u_140_25, u_140_26, u_140_30, u_140_31, u_140_34, u_140_35, u_140_36, u_140_39, u_140_40, u_140_44, u_140_47, u_140_48, u_140_49, u_140_50, u_140_52, u_140_53, u_140_54, u_140_55, u_140_58, u_140_59, u_140_62, u_140_63, u_140_64, u_140_67, u_140_71, u_140_74, u_140_76, u_140_77, u_140_78, u_140_81, u_140_82, u_140_83, u_140_84, u_140_87, u_140_89, u_140_90, u_140_91, u_140_94, u_140_95, u_140_96, u_140_97, u_140_98, u_140_101, u_140_102, u_140_103, u_140_104, u_140_105, u_140_106, u_140_107, u_140_110, u_140_111, u_140_112, u_140_113, u_140_114, u_140_115, u_140_116, u_140_117, u_140_120, u_140_121, u_140_122, true_or, or_true, zk_li1_s, zk_ll1_s, zk_la1_r, zk_la1_n, zk_lg0, zk_lgs, zk_co_n, zk_co_i, zk_co_r, zk_co_u, zk_co_l, zk_l1_0, zk_l1_1, zk_l1_s, zk_l2_0, zk_l2_1, zk_l2_s, zk_sm0, zk_smi, zk_smr, zk_smn, zk_sml, zk_fi, zk_fz, zk_fo, zk_fn, zk_fa, zk_ts, zk_tn, zk_cases, true_and, and_true, List.getElem?_cons_zero, List.getElem?_cons_succ, List.length_cons, List.length_nil, Nat.reduceAdd, Nat.reduceLT, Nat.reduceLeDiff, List.set_cons_zero, List.set_cons_succ, va_rf, iz_lit, iz_inj, iz_le, iz_add, mg_26 hB, mr_26 hB, mw_26 hB]
            (repeat' (first | exact nx | apply And.intro | intro _)) <;> first | omega | (exfalso; omega) | contradiction | exact absurd trivial (by assumption) | (exfalso; simp_all; done)
          · have cb' : b = false := by simpa using cb
            have e0 : bi false = 0 := rfl
            have e1 : bi true = 1 := rfl
            rw [cb', e0]
            by_cases cm : m 27 (3 * j + i) = o
            · have nx := ih (i + 1) true (by omega) (st true (by simp [cm]))
              rw [show (((i + 1 : Nat)) : Int) = (i : Int) + 1 by omega, e1] at nx
              simp (disch := first | omega | assumption | (simp; done)) only [u_140_0, u_140_1, u_140_2, u_140_5, u_140_8, u_140_9, u_140_10, u_140_13, u_140_16, u_140_17, u_140_18, u_140_19, u_140_20, u_140_21, u_140_24, u_140_25, u_140_26, u_140_30, u_140_31, u_140_34, u_140_35, u_140_36, u_140_39, u_140_40, u_140_43, u_140_44, u_140_47, u_140_48, u_140_49, u_140_50, u_140_52, u_140_53, u_140_54, u_140_55, u_140_58, u_140_59, u_140_62, u_140_63, u_140_64, u_140_67, u_140_71, u_140_74, u_140_76, u_140_77, u_140_78, u_140_81, u_140_82, u_140_83, u_140_84, u_140_87, u_140_89, u_140_90, u_140_91, u_140_94, u_140_95, u_140_96, u_140_97, u_140_98, u_140_101, u_140_102, u_140_103, u_140_104, u_140_105, u_140_106, u_140_107, u_140_110, u_140_111, u_140_112, u_140_113, u_140_114, u_140_115, u_140_116, u_140_117, u_140_120, u_140_121, u_140_122, true_or, or_true, zk_li1_s, zk_ll1_s, zk_la1_r, zk_la1_n, zk_lg0, zk_lgs, zk_co_n, zk_co_i, zk_co_r, zk_co_u, zk_co_l, zk_l1_0, zk_l1_1, zk_l1_s, zk_l2_0, zk_l2_1, zk_l2_s, zk_sm0, zk_smi, zk_smr, zk_smn, zk_sml, zk_fi, zk_fz, zk_fo, zk_fn, zk_fa, zk_ts, zk_tn, zk_cases, true_and, and_true, List.getElem?_cons_zero, List.getElem?_cons_succ, List.length_cons, List.length_nil, Nat.reduceAdd, Nat.reduceLT, Nat.reduceLeDiff, List.set_cons_zero, List.set_cons_succ, va_rf, iz_lit, iz_inj, iz_le, iz_mul, iz_add, mg_26 hB, mr_26 hB, mw_26 hB, mg_27 hB, mr_27 hB, mw_27 hB]
              (repeat' (first | exact nx | apply And.intro | intro _)) <;> first | omega | (exfalso; omega) | contradiction | exact absurd trivial (by assumption) | (exfalso; simp_all; done)
            · have nx := ih (i + 1) false (by omega) (st false (by simp [cb', cm]))
              rw [show (((i + 1 : Nat)) : Int) = (i : Int) + 1 by omega, e0] at nx
              simp (disch := first | omega | assumption | (simp; done)) only [u_140_0, u_140_1, u_140_2, u_140_5, u_140_8, u_140_9, u_140_10, u_140_13, u_140_16, u_140_17, u_140_18, u_140_19, u_140_20, u_140_21, u_140_24, u_140_25, u_140_26, u_140_30, u_140_31, u_140_34, u_140_35, u_140_36, u_140_39, u_140_40, u_140_43, u_140_44, u_140_47, u_140_48, u_140_49, u_140_50, u_140_52, u_140_53, u_140_54, u_140_55, u_140_58, u_140_59, u_140_62, u_140_63, u_140_64, u_140_67, u_140_71, u_140_74, u_140_76, u_140_77, u_140_78, u_140_81, u_140_82, u_140_83, u_140_84, u_140_87, u_140_89, u_140_90, u_140_91, u_140_94, u_140_95, u_140_96, u_140_97, u_140_98, u_140_101, u_140_102, u_140_103, u_140_104, u_140_105, u_140_106, u_140_107, u_140_110, u_140_111, u_140_112, u_140_113, u_140_114, u_140_115, u_140_116, u_140_117, u_140_120, u_140_121, u_140_122, true_or, or_true, zk_li1_s, zk_ll1_s, zk_la1_r, zk_la1_n, zk_lg0, zk_lgs, zk_co_n, zk_co_i, zk_co_r, zk_co_u, zk_co_l, zk_l1_0, zk_l1_1, zk_l1_s, zk_l2_0, zk_l2_1, zk_l2_s, zk_sm0, zk_smi, zk_smr, zk_smn, zk_sml, zk_fi, zk_fz, zk_fo, zk_fn, zk_fa, zk_ts, zk_tn, zk_cases, true_and, and_true, List.getElem?_cons_zero, List.getElem?_cons_succ, List.length_cons, List.length_nil, Nat.reduceAdd, Nat.reduceLT, Nat.reduceLeDiff, List.set_cons_zero, List.set_cons_succ, va_rf, iz_lit, iz_inj, iz_le, iz_mul, iz_add, mg_26 hB, mr_26 hB, mw_26 hB, mg_27 hB, mr_27 hB, mw_27 hB]
              (repeat' (first | exact nx | apply And.intro | intro _)) <;> first | omega | (exfalso; omega) | contradiction | exact absurd trivial (by assumption) | (exfalso; simp_all; done)
      have l0 := loop (m 26 j).toNat 0 _ (by omega) rfl
      have e0 : (awN m j 0).testBit o.toNat = false := by show (0 : Nat).testBit _ = false; exact Nat.zero_testBit _
      rw [e0, Bool.or_false] at l0
      simp (disch := first | omega | assumption | (simp; done)) only [u_140_0, u_140_1, u_140_2, u_140_5, u_140_8, u_140_9, u_140_10, u_140_13, u_140_17, u_140_18, u_140_19, u_140_20, u_140_21, u_140_24, u_140_25, u_140_26, u_140_30, u_140_31, u_140_34, u_140_35, u_140_36, u_140_39, u_140_40, u_140_43, u_140_44, u_140_47, u_140_48, u_140_49, u_140_50, u_140_52, u_140_53, u_140_54, u_140_55, u_140_58, u_140_59, u_140_62, u_140_63, u_140_64, u_140_67, u_140_70, u_140_71, u_140_74, u_140_76, u_140_77, u_140_78, u_140_81, u_140_82, u_140_83, u_140_84, u_140_87, u_140_89, u_140_90, u_140_91, u_140_94, u_140_95, u_140_96, u_140_97, u_140_98, u_140_101, u_140_102, u_140_103, u_140_104, u_140_105, u_140_106, u_140_107, u_140_110, u_140_111, u_140_112, u_140_113, u_140_114, u_140_115, u_140_116, u_140_117, u_140_120, u_140_121, u_140_122, true_or, or_true, zk_li1_s, zk_ll1_s, zk_la1_r, zk_la1_n, zk_lg0, zk_lgs, zk_co_n, zk_co_i, zk_co_r, zk_co_u, zk_co_l, zk_l1_0, zk_l1_1, zk_l1_s, zk_l2_0, zk_l2_1, zk_l2_s, zk_sm0, zk_smi, zk_smr, zk_smn, zk_sml, zk_fi, zk_fz, zk_fo, zk_fn, zk_fa, zk_ts, zk_tn, zk_cases, true_and, and_true, List.getElem?_cons_zero, List.getElem?_cons_succ, List.length_cons, List.length_nil, Nat.reduceAdd, Nat.reduceLT, Nat.reduceLeDiff, List.set_cons_zero, List.set_cons_succ, va_rf, ic, iz_lit, iz_inj, ij, io, wf]
      (repeat' (first | exact l0 | apply And.intro | intro _)) <;> first | omega | (exfalso; omega) | contradiction | exact absurd trivial (by assumption) | (exfalso; simp_all; done)
    refine ⟨fun q => absurd ⟨c1, c2⟩ q, fun _ cb => zk_eq (key _ (fun o4 => ?_)) Q, fun _ cb c3 => zk_eq (key _ (fun o4 => ?_)) Q, fun _ cb c3 => zk_eq (key _ (fun o4 => ?_)) Q⟩
    · rw [cb]
      have e1 : bi true = 1 := rfl
      rw [e1, u_140_70]
      simp (disch := first | omega | assumption | (simp; done)) only [u_140_0, u_140_1, u_140_2, u_140_5, u_140_8, u_140_9, u_140_10, u_140_13, u_140_16, u_140_17, u_140_18, u_140_19, u_140_20, u_140_21, u_140_24, u_140_25, u_140_26, u_140_28, u_140_30, u_140_31, u_140_34, u_140_35, u_140_36, u_140_39, u_140_40, u_140_43, u_140_44, u_140_47, u_140_48, u_140_49, u_140_50, u_140_52, u_140_53, u_140_54, u_140_55, u_140_58, u_140_59, u_140_62, u_140_63, u_140_64, u_140_67, u_140_71, u_140_74, u_140_76, u_140_78, u_140_81, u_140_82, u_140_83, u_140_84, u_140_87, u_140_89, u_140_90, u_140_91, u_140_94, u_140_95, u_140_96, u_140_97, u_140_98, u_140_101, u_140_102, u_140_103, u_140_104, u_140_105, u_140_106, u_140_107, u_140_110, u_140_111, u_140_112, u_140_113, u_140_114, u_140_115, u_140_116, u_140_117, u_140_120, u_140_121, u_140_122, true_or, or_true, zk_li1_s, zk_ll1_s, zk_la1_r, zk_la1_n, zk_lg0, zk_lgs, zk_co_n, zk_co_i, zk_co_r, zk_co_u, zk_co_l, zk_l1_0, zk_l1_1, zk_l1_s, zk_l2_0, zk_l2_1, zk_l2_s, zk_sm0, zk_smi, zk_smr, zk_smn, zk_sml, zk_fi, zk_fz, zk_fo, zk_fn, zk_fa, zk_ts, zk_tn, zk_cases, true_and, and_true, List.getElem?_cons_zero, List.getElem?_cons_succ, List.length_cons, List.length_nil, Nat.reduceAdd, Nat.reduceLT, Nat.reduceLeDiff, List.set_cons_zero, List.set_cons_succ, va_rf, iz_lit, iz_neg, iz_inj]
      all_goals ((repeat' (first | exact trivial | exact ⟨rfl, rfl⟩ | rfl | apply And.intro | intro _)) <;> first | omega | (exfalso; omega) | contradiction | (exfalso; simp_all; done) | trace_state)
    · rw [cb]
      have e1 : bi false = 0 := rfl
      rw [e1, u_140_70]
      simp (disch := first | omega | assumption | (simp; done)) only [u_140_0, u_140_1, u_140_2, u_140_5, u_140_8, u_140_9, u_140_10, u_140_13, u_140_16, u_140_17, u_140_18, u_140_19, u_140_20, u_140_21, u_140_24, u_140_25, u_140_26, u_140_28, u_140_30, u_140_31, u_140_34, u_140_35, u_140_36, u_140_39, u_140_40, u_140_43, u_140_44, u_140_47, u_140_48, u_140_49, u_140_50, u_140_52, u_140_53, u_140_54, u_140_55, u_140_58, u_140_59, u_140_62, u_140_63, u_140_64, u_140_67, u_140_71, u_140_76, u_140_77, u_140_78, u_140_81, u_140_82, u_140_83, u_140_84, u_140_87, u_140_89, u_140_91, u_140_94, u_140_95, u_140_96, u_140_97, u_140_98, u_140_101, u_140_102, u_140_103, u_140_104, u_140_105, u_140_106, u_140_107, u_140_110, u_140_111, u_140_112, u_140_113, u_140_114, u_140_115, u_140_116, u_140_117, u_140_120, u_140_121, u_140_122, true_or, or_true, zk_li1_s, zk_ll1_s, zk_la1_r, zk_la1_n, zk_lg0, zk_lgs, zk_co_n, zk_co_i, zk_co_r, zk_co_u, zk_co_l, zk_l1_0, zk_l1_1, zk_l1_s, zk_l2_0, zk_l2_1, zk_l2_s, zk_sm0, zk_smi, zk_smr, zk_smn, zk_sml, zk_fi, zk_fz, zk_fo, zk_fn, zk_fa, zk_ts, zk_tn, zk_cases, true_and, and_true, List.getElem?_cons_zero, List.getElem?_cons_succ, List.length_cons, List.length_nil, Nat.reduceAdd, Nat.reduceLT, Nat.reduceLeDiff, List.set_cons_zero, List.set_cons_succ, va_rf, iz_lit, iz_neg, iz_inj, mg_26 hB, mr_26 hB, mw_26 hB]
      all_goals ((repeat' (first | exact trivial | exact ⟨rfl, rfl⟩ | rfl | apply And.intro | intro _)) <;> first | omega | (exfalso; omega) | contradiction | (exfalso; simp_all; done) | trace_state)
    · rw [cb]
      have e1 : bi false = 0 := rfl
      rw [e1, u_140_70]
      simp (disch := first | omega | assumption | (simp; done)) only [u_140_0, u_140_1, u_140_2, u_140_5, u_140_8, u_140_9, u_140_10, u_140_13, u_140_16, u_140_17, u_140_18, u_140_19, u_140_20, u_140_21, u_140_24, u_140_25, u_140_26, u_140_28, u_140_30, u_140_31, u_140_34, u_140_35, u_140_36, u_140_39, u_140_40, u_140_43, u_140_44, u_140_47, u_140_48, u_140_49, u_140_50, u_140_52, u_140_53, u_140_54, u_140_55, u_140_58, u_140_59, u_140_62, u_140_63, u_140_64, u_140_67, u_140_71, u_140_76, u_140_77, u_140_78, u_140_81, u_140_82, u_140_83, u_140_84, u_140_89, u_140_90, u_140_91, u_140_94, u_140_95, u_140_96, u_140_97, u_140_98, u_140_101, u_140_102, u_140_103, u_140_104, u_140_105, u_140_106, u_140_107, u_140_110, u_140_111, u_140_112, u_140_113, u_140_114, u_140_115, u_140_116, u_140_117, u_140_120, u_140_121, u_140_122, true_or, or_true, zk_li1_s, zk_ll1_s, zk_la1_r, zk_la1_n, zk_lg0, zk_lgs, zk_co_n, zk_co_i, zk_co_r, zk_co_u, zk_co_l, zk_l1_0, zk_l1_1, zk_l1_s, zk_l2_0, zk_l2_1, zk_l2_s, zk_sm0, zk_smi, zk_smr, zk_smn, zk_sml, zk_fi, zk_fz, zk_fo, zk_fn, zk_fa, zk_ts, zk_tn, zk_cases, true_and, and_true, List.getElem?_cons_zero, List.getElem?_cons_succ, List.length_cons, List.length_nil, Nat.reduceAdd, Nat.reduceLT, Nat.reduceLeDiff, List.set_cons_zero, List.set_cons_succ, va_rf, iz_lit, iz_neg, iz_inj, iz_mul, iz_add, mg_26 hB, mr_26 hB, mw_26 hB, mg_27 hB, mr_27 hB, mw_27 hB, up_b, Nat.reduceEqDiff, eq_self, if_true, if_false, reduceIte]
      all_goals ((repeat' (first | exact trivial | exact ⟨rfl, rfl⟩ | rfl | apply And.intro | intro _)) <;> first | omega | (exfalso; omega) | contradiction | (exfalso; simp_all; done) | trace_state)
  · refine ⟨fun _ => zk_eq ?_ Q, fun q => absurd q c, fun q => absurd q c, fun q => absurd q c⟩
    unfold afO at c
    simp (disch := first | omega | assumption | (simp; done)) only [u_140_0, u_140_1, u_140_2, u_140_5, u_140_8, u_140_9, u_140_10, u_140_13, u_140_16, u_140_17, u_140_19, u_140_20, u_140_21, u_140_24, u_140_25, u_140_26, u_140_28, u_140_30, u_140_31, u_140_34, u_140_35, u_140_36, u_140_39, u_140_40, u_140_43, u_140_44, u_140_47, u_140_48, u_140_49, u_140_50, u_140_52, u_140_53, u_140_54, u_140_55, u_140_58, u_140_59, u_140_62, u_140_63, u_140_64, u_140_67, u_140_70, u_140_71, u_140_74, u_140_76, u_140_77, u_140_78, u_140_81, u_140_82, u_140_83, u_140_84, u_140_87, u_140_89, u_140_90, u_140_91, u_140_94, u_140_95, u_140_96, u_140_97, u_140_98, u_140_101, u_140_102, u_140_103, u_140_104, u_140_105, u_140_106, u_140_107, u_140_110, u_140_111, u_140_112, u_140_113, u_140_114, u_140_115, u_140_116, u_140_117, u_140_120, u_140_121, u_140_122, true_or, or_true, zk_li1_s, zk_ll1_s, zk_la1_r, zk_la1_n, zk_lg0, zk_lgs, zk_co_n, zk_co_i, zk_co_r, zk_co_u, zk_co_l, zk_l1_0, zk_l1_1, zk_l1_s, zk_l2_0, zk_l2_1, zk_l2_s, zk_sm0, zk_smi, zk_smr, zk_smn, zk_sml, zk_fi, zk_fz, zk_fo, zk_fn, zk_fa, zk_ts, zk_tn, zk_cases, true_and, and_true, List.getElem?_cons_zero, List.getElem?_cons_succ, List.length_cons, List.length_nil, Nat.reduceAdd, Nat.reduceLT, Nat.reduceLeDiff, List.set_cons_zero, List.set_cons_succ, va_rf, ic, iz_lit, iz_neg, iz_inj, ij, io, ii_0]
    all_goals ((repeat' (first | exact trivial | exact ⟨rfl, rfl⟩ | rfl | apply And.intro | intro _)) <;> first | omega | (exfalso; omega) | contradiction | (exfalso; simp_all; done) | trace_state)
noncomputable def v_wake (m : mS) (sc : Int) : Int := if 0 ≤ sc ∧ sc ≤ 2 then (if m 42 sc = 0 then wkc m sc (m 10 0).toNat else -2) else -1
noncomputable def f_wake (m : mS) (sc : Int) : mS := if (0 ≤ sc ∧ sc ≤ 2) ∧ m 42 sc = 0 then wks m sc (m 10 0).toNat else m
theorem d_wake (hB : hpo G B M) {m : mS} (hr : rg m) (h10 : 0 ≤ m 10 0 ∧ m 10 0 ≤ 12) (hs : 0 ≤ m 53 0 ∧ m 53 0 ≤ 60) (h0 : 0 ≤ m 0 0 ∧ m 0 0 ≤ 21038399) (hJ : ∀ j, 0 ≤ j → j < 12 → jI m j) (hI : ∀ i, 0 ≤ i → i < 36 → (0 ≤ m 30 i ∧ m 30 i ≤ 100000) ∧ (0 ≤ m 34 i ∧ m 34 i ≤ 100000) ∧ (-1 ≤ m 32 i ∧ m 32 i ≤ 21038399)) (sc : Int) (hsc : -2147483648 ≤ sc ∧ sc ≤ 2147483647) : ∃ m', dtx (f_wake m sc) m' ∧ ∀ Q : Option Value → zk_H → Prop, zk_wp G 159 0 [some (.ref M), some (.int (iz sc)), none, none, none] [] (hp G B M m) Q ↔ Q (some (.int (iz (v_wake m sc)))) (hp G B M m') := by
  have ic := hp_ic hB
  have in1 := d_in (G := G) (hp G B M m) sc 0 2 hsc (by omega) (by omega)
  have q42 := rg_of hr 42 sc
  unfold f_wake v_wake
  by_cases c : 0 ≤ sc ∧ sc ≤ 2
  · rw [if_pos c]
    rw [if_pos c] at in1
    by_cases c2 : m 42 sc = 0
    · rw [if_pos c2, if_pos ⟨c, c2⟩]
      suffices hw : zk_wp G 159 0 [some (.ref M), some (.int (iz sc)), none, none, none] [] (hp G B M m) (fun r h' => ∃ m', dtx (wks m sc (m 10 0).toNat) m' ∧ r = some (.int (iz (wkc m sc (m 10 0).toNat))) ∧ h' = hp G B M m') by
        obtain ⟨r0, h0, ⟨m', b1, rfl, rfl⟩, b3⟩ := zk_some hw
        exact ⟨m', b1, b3⟩
      generalize hQ : (fun (r : Option Value) (h' : zk_H) => ∃ m', dtx (wks m sc (m 10 0).toNat) m' ∧ r = some (.int (iz (wkc m sc (m 10 0).toNat))) ∧ h' = hp G B M m') = P
      have loop : ∀ (q n : Nat) (t : mS) (o4 : Option Value), (n : Int) + q = m 10 0 → dtx (wks m sc n) t → zk_wp G 159 27 [some (.ref M), some (.int (iz sc)), some (.int (iz (wkc m sc n))), some (.int (iz n)), o4] [] (hp G B M t) P := by
        intro q
        induction q with
        | zero =>
          intro n t o4 hn ht
          have y : ∀ k z, k ≠ 7 → k ≠ 8 → k ≠ 9 → t k z = wks m sc n k z := ht
          have e10 : wks m sc n 10 0 = m 10 0 := wks_k m sc 10 0 (by omega) (by decide) (by decide) (by decide) n
          rw [u_159_27]
          simp (disch := first | omega | assumption | (simp; done)) only [u_159_0, u_159_1, u_159_2, u_159_3, u_159_6, u_159_9, u_159_10, u_159_11, u_159_12, u_159_15, u_159_16, u_159_17, u_159_20, u_159_22, u_159_23, u_159_24, u_159_25, u_159_26, u_159_28, u_159_29, u_159_32, u_159_37, u_159_38, u_159_39, u_159_40, u_159_41, u_159_43, u_159_44, u_159_47, u_159_48, u_159_49, u_159_52, u_159_53, u_159_56, u_159_58, u_159_59, u_159_62, u_159_63, u_159_64, u_159_65, u_159_68, u_159_70, u_159_71, u_159_72, u_159_73, u_159_74, u_159_77, u_159_80, u_159_83, u_159_84, u_159_85, u_159_86, u_159_89, u_159_92, u_159_95, u_159_98, u_159_99, true_or, or_true, zk_li1_s, zk_ll1_s, zk_la1_r, zk_la1_n, zk_lg0, zk_lgs, zk_co_n, zk_co_i, zk_co_r, zk_co_u, zk_co_l, zk_l1_0, zk_l1_1, zk_l1_s, zk_l2_0, zk_l2_1, zk_l2_s, zk_sm0, zk_smi, zk_smr, zk_smn, zk_sml, zk_fi, zk_fz, zk_fo, zk_fn, zk_fa, zk_ts, zk_tn, zk_cases, true_and, and_true, List.getElem?_cons_zero, List.getElem?_cons_succ, List.length_cons, List.length_nil, Nat.reduceAdd, Nat.reduceLT, Nat.reduceLeDiff, List.set_cons_zero, List.set_cons_succ, va_rf, iz_lit, iz_le, mg_10 hB, mw_10 hB, y, e10]
          refine ⟨fun _ => ?_, fun q => absurd q (by omega)⟩
          rw [← hQ, show (m 10 0).toNat = n by omega]
          exact ⟨t, ht, rfl, rfl⟩
        | succ q ih =>
          intro n t o4 hn ht
          have y : ∀ k z, k ≠ 7 → k ≠ 8 → k ≠ 9 → t k z = wks m sc n k z := ht
          have kk : ∀ k z, (k < 30 ∨ (31 ≤ k ∧ k ≤ 33) ∨ 42 ≤ k) → k ≠ 54 → k ≠ 51 → k ≠ 53 → wks m sc n k z = m k z := fun k z a b c d => wks_k m sc k z a b c d n
          have e10 := kk 10 0 (by omega) (by decide) (by decide) (by decide)
          have e0 := kk 0 0 (by omega) (by decide) (by decide) (by decide)
          have e25 := kk 25 n (by omega) (by decide) (by decide) (by decide)
          have e32 := kk 32 (12 * sc + n) (by omega) (by decide) (by decide) (by decide)
          have e35 : wks m sc n 35 (12 * sc + n) = m 35 (12 * sc + n) := wks_z m sc 35 (by decide) (by decide) (by decide) n _ (by omega)
          have e30 : wks m sc n 30 (12 * sc + n) = m 30 (12 * sc + n) := wks_z m sc 30 (by decide) (by decide) (by decide) n _ (by omega)
          have e34 : wks m sc n 34 (12 * sc + n) = m 34 (12 * sc + n) := wks_z m sc 34 (by decide) (by decide) (by decide) n _ (by omega)
          obtain ⟨i30, i34, i32⟩ := hI (12 * sc + n) (by omega) (by omega)
          have q25 := rg_of hr 25 n
          have q35 := rg_of hr 35 (12 * sc + n)
          have cft : cfg m t := cfg_t (wks_cfg m sc n) (cfg_dtx ht)
          obtain ⟨t2, w, w1, w2, w3⟩ := d_dueFrom hB ((cfg_jI cft n).mpr (hJ n (by omega) (by omega))) (m 32 (12 * sc + n) + 1) (m 0 0) (by omega) (by omega)
          have wr : w = 2147483647 ∨ (0 ≤ w ∧ w ≤ 21038399) := by rcases w2 with ⟨e, -⟩ | ⟨e1, e2, -⟩ <;> omega
          have wo : wkO (wks m sc n) sc n = wkB m sc n w := by
            unfold wkO wkB
            rw [cfg_due (cfg_s (cfg_dtx ht)) , e25, e35, e32, e0, ffd_eq w2]
          have nw : nef w < 0 ↔ w = 2147483647 := nef_lt (by omega)
          have nwr : -1 ≤ nef w ∧ nef w ≤ 21038399 := by unfold nef; split <;> omega
          have sz := wks_sz hs sc n
          have nx0 := fun (t' : mS) (o4 : Option Value) (hb : wkB m sc n w = false) (h' : dtx (wks m sc n) t') => ih (n + 1) t' o4 (by omega) (by unfold wks; rw [wo, hb]; exact h')
          have nx1 := fun (t' : mS) (o4 : Option Value) (hb : wkB m sc n w = true) (h' : dtx (wks m sc n) t') => ih (n + 1) (mbgn t' sc n) o4 (by omega) (by unfold wks; rw [wo, if_pos hb]; exact dtx_bgn h' sc n)
          have c0 : wkB m sc n w = false → wkc m sc (n + 1) = wkc m sc n := fun hb => by show (if wkO (wks m sc n) sc n = true then wkc m sc n + 1 else wkc m sc n) = _; rw [wo, hb]; rfl
          have c1 : wkB m sc n w = true → wkc m sc (n + 1) = wkc m sc n + 1 := fun hb => by show (if wkO (wks m sc n) sc n = true then wkc m sc n + 1 else wkc m sc n) = _; rw [wo, if_pos hb]
          rw [show (((n + 1 : Nat)) : Int) = (n : Int) + 1 by omega] at nx0 nx1
          have bgt := fun (t' : mS) (h' : dtx (wks m sc n) t') => d_begins hB (m := t') (by rw [h' 53 0 (by decide) (by decide) (by decide)]; exact sz) sc n (by omega) (by omega) (by rw [h' 30 _ (by decide) (by decide) (by decide), e30]; exact i30) (by rw [h' 34 _ (by decide) (by decide) (by decide), e34]; exact i34)
          rw [u_159_27]
          by_cases p25 : m 25 n = 0
          · by_cases p35 : 0 < m 35 (12 * sc + n)
            · have hb : wkB m sc n w = true := by unfold wkB; rw [decide_eq_true p25, decide_eq_true p35]; rfl
              have nx := fun o4 => nx1 t o4 hb ht
              rw [c1 hb] at nx
              have bg := bgt t ht
              simp (disch := first | omega | assumption | (simp; done)) only [u_159_0, u_159_1, u_159_2, u_159_3, u_159_6, u_159_9, u_159_10, u_159_11, u_159_12, u_159_15, u_159_16, u_159_17, u_159_20, u_159_22, u_159_23, u_159_24, u_159_25, u_159_26, u_159_28, u_159_29, u_159_32, u_159_35, u_159_37, u_159_38, u_159_39, u_159_40, u_159_41, u_159_43, u_159_44, u_159_47, u_159_48, u_159_49, u_159_52, u_159_53, u_159_56, u_159_58, u_159_59, u_159_63, u_159_64, u_159_65, u_159_68, u_159_70, u_159_71, u_159_72, u_159_73, u_159_74, u_159_77, u_159_80, u_159_83, u_159_84, u_159_85, u_159_86, u_159_89, u_159_92, u_159_95, u_159_98, u_159_99, true_or, or_true, zk_li1_s, zk_ll1_s, zk_la1_r, zk_la1_n, zk_lg0, zk_lgs, zk_co_n, zk_co_i, zk_co_r, zk_co_u, zk_co_l, zk_l1_0, zk_l1_1, zk_l1_s, zk_l2_0, zk_l2_1, zk_l2_s, zk_sm0, zk_smi, zk_smr, zk_smn, zk_sml, zk_fi, zk_fz, zk_fo, zk_fn, zk_fa, zk_ts, zk_tn, zk_cases, true_and, and_true, List.getElem?_cons_zero, List.getElem?_cons_succ, List.length_cons, List.length_nil, Nat.reduceAdd, Nat.reduceLT, Nat.reduceLeDiff, List.set_cons_zero, List.set_cons_succ, va_rf, ic, iz_lit, iz_inj, iz_le, iz_lt, iz_mul, iz_add, mg_10 hB, mw_10 hB, mg_25 hB, mr_25 hB, mw_25 hB, mg_35 hB, mr_35 hB, mw_35 hB, y, e10, e25, e35, bg]
              (repeat' (first | exact nx _ | apply And.intro | intro _)) <;> first | omega | (exfalso; omega) | contradiction | exact absurd trivial (by assumption) | (exfalso; simp_all; done)
            · by_cases pw : w = 2147483647
              · have hb : wkB m sc n w = false := by unfold wkB; rw [decide_eq_true p25, decide_eq_false p35, pw]; rfl
                have nx := fun o4 => nx0 t2 o4 hb (dtx_t ht w1)
                rw [c0 hb] at nx
                simp (disch := first | omega | assumption | (simp; done)) only [u_159_0, u_159_1, u_159_2, u_159_3, u_159_6, u_159_9, u_159_10, u_159_11, u_159_12, u_159_15, u_159_16, u_159_17, u_159_20, u_159_22, u_159_23, u_159_24, u_159_25, u_159_26, u_159_28, u_159_29, u_159_32, u_159_35, u_159_37, u_159_38, u_159_39, u_159_40, u_159_41, u_159_43, u_159_44, u_159_47, u_159_48, u_159_49, u_159_52, u_159_53, u_159_56, u_159_58, u_159_59, u_159_62, u_159_63, u_159_64, u_159_65, u_159_68, u_159_70, u_159_71, u_159_72, u_159_73, u_159_74, u_159_77, u_159_80, u_159_84, u_159_85, u_159_86, u_159_89, u_159_92, u_159_95, u_159_98, u_159_99, true_or, or_true, zk_li1_s, zk_ll1_s, zk_la1_r, zk_la1_n, zk_lg0, zk_lgs, zk_co_n, zk_co_i, zk_co_r, zk_co_u, zk_co_l, zk_l1_0, zk_l1_1, zk_l1_s, zk_l2_0, zk_l2_1, zk_l2_s, zk_sm0, zk_smi, zk_smr, zk_smn, zk_sml, zk_fi, zk_fz, zk_fo, zk_fn, zk_fa, zk_ts, zk_tn, zk_cases, true_and, and_true, List.getElem?_cons_zero, List.getElem?_cons_succ, List.length_cons, List.length_nil, Nat.reduceAdd, Nat.reduceLT, Nat.reduceLeDiff, List.set_cons_zero, List.set_cons_succ, va_rf, ic, iz_lit, iz_inj, iz_le, iz_lt, iz_mul, iz_add, mg_0 hB, mw_0 hB, mg_10 hB, mw_10 hB, mg_25 hB, mr_25 hB, mw_25 hB, mg_32 hB, mr_32 hB, mw_32 hB, mg_35 hB, mr_35 hB, mw_35 hB, y, e0, e10, e25, e32, e35, w3]
                (repeat' (first | exact nx _ | apply And.intro | intro _)) <;> first | omega | (exfalso; omega) | contradiction | exact absurd trivial (by assumption) | (exfalso; simp_all; done)
              · have hb : wkB m sc n w = true := by unfold wkB; rw [decide_eq_true p25, decide_eq_true pw, Bool.or_true]; rfl
                have nx := fun o4 => nx1 t2 o4 hb (dtx_t ht w1)
                rw [c1 hb] at nx
                have bg := bgt t2 (dtx_t ht w1)
                simp (disch := first | omega | assumption | (simp; done)) only [u_159_0, u_159_1, u_159_2, u_159_3, u_159_6, u_159_9, u_159_10, u_159_11, u_159_12, u_159_15, u_159_16, u_159_17, u_159_20, u_159_22, u_159_23, u_159_24, u_159_25, u_159_26, u_159_28, u_159_29, u_159_32, u_159_35, u_159_37, u_159_38, u_159_39, u_159_40, u_159_41, u_159_43, u_159_44, u_159_47, u_159_48, u_159_49, u_159_52, u_159_53, u_159_56, u_159_58, u_159_59, u_159_62, u_159_63, u_159_64, u_159_65, u_159_68, u_159_70, u_159_71, u_159_72, u_159_73, u_159_74, u_159_77, u_159_80, u_159_83, u_159_84, u_159_85, u_159_86, u_159_89, u_159_92, u_159_95, u_159_98, u_159_99, true_or, or_true, zk_li1_s, zk_ll1_s, zk_la1_r, zk_la1_n, zk_lg0, zk_lgs, zk_co_n, zk_co_i, zk_co_r, zk_co_u, zk_co_l, zk_l1_0, zk_l1_1, zk_l1_s, zk_l2_0, zk_l2_1, zk_l2_s, zk_sm0, zk_smi, zk_smr, zk_smn, zk_sml, zk_fi, zk_fz, zk_fo, zk_fn, zk_fa, zk_ts, zk_tn, zk_cases, true_and, and_true, List.getElem?_cons_zero, List.getElem?_cons_succ, List.length_cons, List.length_nil, Nat.reduceAdd, Nat.reduceLT, Nat.reduceLeDiff, List.set_cons_zero, List.set_cons_succ, va_rf, ic, iz_lit, iz_inj, iz_le, iz_lt, iz_mul, iz_add, mg_0 hB, mw_0 hB, mg_10 hB, mw_10 hB, mg_25 hB, mr_25 hB, mw_25 hB, mg_32 hB, mr_32 hB, mw_32 hB, mg_35 hB, mr_35 hB, mw_35 hB, y, e0, e10, e25, e32, e35, w3, bg]
                (repeat' (first | exact nx _ | apply And.intro | intro _)) <;> first | omega | (exfalso; omega) | contradiction | exact absurd trivial (by assumption) | (exfalso; simp_all; done)
          · have hb : wkB m sc n w = false := by unfold wkB; rw [decide_eq_false p25]; rfl
            have nx := fun o4 => nx0 t o4 hb ht
            rw [c0 hb] at nx
            simp (disch := first | omega | assumption | (simp; done)) only [u_159_0, u_159_1, u_159_2, u_159_3, u_159_6, u_159_9, u_159_10, u_159_11, u_159_12, u_159_15, u_159_16, u_159_17, u_159_20, u_159_22, u_159_23, u_159_24, u_159_25, u_159_26, u_159_28, u_159_29, u_159_32, u_159_35, u_159_37, u_159_38, u_159_39, u_159_40, u_159_41, u_159_43, u_159_44, u_159_47, u_159_48, u_159_49, u_159_53, u_159_56, u_159_58, u_159_59, u_159_62, u_159_63, u_159_64, u_159_65, u_159_68, u_159_70, u_159_71, u_159_72, u_159_73, u_159_74, u_159_77, u_159_80, u_159_83, u_159_84, u_159_85, u_159_86, u_159_89, u_159_92, u_159_95, u_159_98, u_159_99, true_or, or_true, zk_li1_s, zk_ll1_s, zk_la1_r, zk_la1_n, zk_lg0, zk_lgs, zk_co_n, zk_co_i, zk_co_r, zk_co_u, zk_co_l, zk_l1_0, zk_l1_1, zk_l1_s, zk_l2_0, zk_l2_1, zk_l2_s, zk_sm0, zk_smi, zk_smr, zk_smn, zk_sml, zk_fi, zk_fz, zk_fo, zk_fn, zk_fa, zk_ts, zk_tn, zk_cases, true_and, and_true, List.getElem?_cons_zero, List.getElem?_cons_succ, List.length_cons, List.length_nil, Nat.reduceAdd, Nat.reduceLT, Nat.reduceLeDiff, List.set_cons_zero, List.set_cons_succ, va_rf, ic, iz_lit, iz_inj, iz_le, iz_lt, iz_mul, iz_add, mg_10 hB, mw_10 hB, mg_25 hB, mr_25 hB, mw_25 hB, y, e10, e25]
            (repeat' (first | exact nx _ | apply And.intro | intro _)) <;> first | omega | (exfalso; omega) | contradiction | exact absurd trivial (by assumption) | (exfalso; simp_all; done)
      have l0 := fun o4 => loop (m 10 0).toNat 0 m o4 (by omega) (dtx_r m)
      simp (disch := first | omega | assumption | (simp; done)) only [u_159_0, u_159_1, u_159_2, u_159_3, u_159_6, u_159_9, u_159_10, u_159_11, u_159_12, u_159_15, u_159_16, u_159_17, u_159_20, u_159_22, u_159_23, u_159_24, u_159_25, u_159_26, u_159_28, u_159_29, u_159_32, u_159_35, u_159_37, u_159_38, u_159_39, u_159_40, u_159_41, u_159_43, u_159_44, u_159_47, u_159_48, u_159_49, u_159_52, u_159_53, u_159_56, u_159_58, u_159_59, u_159_62, u_159_63, u_159_64, u_159_65, u_159_68, u_159_70, u_159_71, u_159_72, u_159_73, u_159_74, u_159_77, u_159_80, u_159_83, u_159_84, u_159_85, u_159_86, u_159_89, u_159_92, u_159_95, u_159_98, u_159_99, true_or, or_true, zk_li1_s, zk_ll1_s, zk_la1_r, zk_la1_n, zk_lg0, zk_lgs, zk_co_n, zk_co_i, zk_co_r, zk_co_u, zk_co_l, zk_l1_0, zk_l1_1, zk_l1_s, zk_l2_0, zk_l2_1, zk_l2_s, zk_sm0, zk_smi, zk_smr, zk_smn, zk_sml, zk_fi, zk_fz, zk_fo, zk_fn, zk_fa, zk_ts, zk_tn, zk_cases, true_and, and_true, List.getElem?_cons_zero, List.getElem?_cons_succ, List.length_cons, List.length_nil, Nat.reduceAdd, Nat.reduceLT, Nat.reduceLeDiff, List.set_cons_zero, List.set_cons_succ, va_rf, ic, iz_lit, iz_neg, iz_inj, in1, mg_42 hB, mr_42 hB, mw_42 hB]
      (repeat' (first | exact l0 _ | apply And.intro | intro _)) <;> first | omega | (exfalso; omega) | contradiction | exact absurd trivial (by assumption) | (exfalso; simp_all; done)
    · rw [if_neg c2, if_neg (fun q => c2 q.2)]
      refine ⟨m, dtx_r m, fun Q => zk_eq ?_ Q⟩
      simp (disch := first | omega | assumption | (simp; done)) only [u_159_0, u_159_1, u_159_2, u_159_3, u_159_6, u_159_9, u_159_10, u_159_11, u_159_12, u_159_15, u_159_16, u_159_17, u_159_20, u_159_22, u_159_24, u_159_25, u_159_26, u_159_27, u_159_28, u_159_29, u_159_32, u_159_35, u_159_37, u_159_38, u_159_39, u_159_40, u_159_41, u_159_43, u_159_44, u_159_47, u_159_48, u_159_49, u_159_52, u_159_53, u_159_56, u_159_58, u_159_59, u_159_62, u_159_63, u_159_64, u_159_65, u_159_68, u_159_70, u_159_71, u_159_72, u_159_73, u_159_74, u_159_77, u_159_80, u_159_83, u_159_84, u_159_85, u_159_86, u_159_89, u_159_92, u_159_95, u_159_98, u_159_99, true_or, or_true, zk_li1_s, zk_ll1_s, zk_la1_r, zk_la1_n, zk_lg0, zk_lgs, zk_co_n, zk_co_i, zk_co_r, zk_co_u, zk_co_l, zk_l1_0, zk_l1_1, zk_l1_s, zk_l2_0, zk_l2_1, zk_l2_s, zk_sm0, zk_smi, zk_smr, zk_smn, zk_sml, zk_fi, zk_fz, zk_fo, zk_fn, zk_fa, zk_ts, zk_tn, zk_cases, true_and, and_true, List.getElem?_cons_zero, List.getElem?_cons_succ, List.length_cons, List.length_nil, Nat.reduceAdd, Nat.reduceLT, Nat.reduceLeDiff, List.set_cons_zero, List.set_cons_succ, va_rf, ic, iz_lit, iz_neg, iz_inj, in1, mg_42 hB, mr_42 hB, mw_42 hB]
      all_goals ((repeat' (first | exact trivial | exact ⟨rfl, rfl⟩ | rfl | apply And.intro | intro _)) <;> first | omega | (exfalso; omega) | contradiction | (exfalso; simp_all; done) | trace_state)
  · rw [if_neg c, if_neg (fun q => c q.1)]
    rw [if_neg c] at in1
    refine ⟨m, dtx_r m, fun Q => zk_eq ?_ Q⟩
    simp (disch := first | omega | assumption | (simp; done)) only [u_159_0, u_159_1, u_159_2, u_159_3, u_159_6, u_159_9, u_159_10, u_159_12, u_159_15, u_159_16, u_159_17, u_159_20, u_159_22, u_159_23, u_159_24, u_159_25, u_159_26, u_159_27, u_159_28, u_159_29, u_159_32, u_159_35, u_159_37, u_159_38, u_159_39, u_159_40, u_159_41, u_159_43, u_159_44, u_159_47, u_159_48, u_159_49, u_159_52, u_159_53, u_159_56, u_159_58, u_159_59, u_159_62, u_159_63, u_159_64, u_159_65, u_159_68, u_159_70, u_159_71, u_159_72, u_159_73, u_159_74, u_159_77, u_159_80, u_159_83, u_159_84, u_159_85, u_159_86, u_159_89, u_159_92, u_159_95, u_159_98, u_159_99, true_or, or_true, zk_li1_s, zk_ll1_s, zk_la1_r, zk_la1_n, zk_lg0, zk_lgs, zk_co_n, zk_co_i, zk_co_r, zk_co_u, zk_co_l, zk_l1_0, zk_l1_1, zk_l1_s, zk_l2_0, zk_l2_1, zk_l2_s, zk_sm0, zk_smi, zk_smr, zk_smn, zk_sml, zk_fi, zk_fz, zk_fo, zk_fn, zk_fa, zk_ts, zk_tn, zk_cases, true_and, and_true, List.getElem?_cons_zero, List.getElem?_cons_succ, List.length_cons, List.length_nil, Nat.reduceAdd, Nat.reduceLT, Nat.reduceLeDiff, List.set_cons_zero, List.set_cons_succ, va_rf, ic, iz_lit, iz_neg, iz_inj, in1]
    all_goals ((repeat' (first | exact trivial | exact ⟨rfl, rfl⟩ | rfl | apply And.intro | intro _)) <;> first | omega | (exfalso; omega) | contradiction | (exfalso; simp_all; done) | trace_state)
end MWAK
