/-! the model's after -/
def awN (m : mS) (j : Int) : Nat → Nat
  | 0 => 0
  | n + 1 => awN m j n ||| 2 ^ (m 27 (3 * j + n)).toNat
def awO (m : mS) (j : Int) : Nat := awN m j (m 26 j).toNat
def rc1 (aw : Nat → Nat) (r : Nat) : Nat → Nat
  | 0 => r
  | n + 1 => if (rc1 aw r n).testBit n = true then rc1 aw r n ||| aw n else rc1 aw r n
def rcR (aw : Nat → Nat) (nj : Nat) (r : Nat) : Nat → Nat
  | 0 => r
  | n + 1 => rc1 aw (rcR aw nj r n) nj
/-- whom jobs wait for, as numbers -/
def o3I (m : mS) : Prop := ∀ j, 0 ≤ j → j < 12 → (0 ≤ m 26 j ∧ m 26 j ≤ 3) ∧ ∀ i, 0 ≤ i → i < m 26 j → 0 ≤ m 27 (3 * j + i) ∧ m 27 (3 * j + i) < 12
theorem awN_lt {m : mS} {j : Int} : ∀ n : Nat, (∀ i : Nat, i < n → 0 ≤ m 27 (3 * j + i) ∧ m 27 (3 * j + i) < 12) → awN m j n < 4096 := by
  intro n
  induction n with
  | zero => intro _; exact Nat.zero_lt_succ _
  | succ n ih =>
    intro h
    have h1 := ih (fun i hi => h i (by omega))
    have h2 := h n (by omega)
    unfold awN
    exact Nat.or_lt_two_pow (n := 12) (by omega) (Nat.pow_lt_pow_right (by decide) (by omega))
theorem awO_lt {m : mS} (h : o3I m) {j : Int} (hj : 0 ≤ j ∧ j < 12) : awO m j < 4096 := by
  have := h j hj.1 hj.2
  exact awN_lt _ (fun i hi => this.2 i (by omega) (by omega))
theorem awN_bit {m : mS} {j : Int} (o : Nat) : ∀ n : Nat, (∀ i : Nat, i < n → 0 ≤ m 27 (3 * j + i) ∧ m 27 (3 * j + i) < 12) → ((awN m j n).testBit o = true ↔ ∃ i : Nat, i < n ∧ m 27 (3 * j + i) = o) := by
  intro n
  induction n with
  | zero => intro _; unfold awN; simp
  | succ n ih =>
    intro h
    have h1 := ih (fun i hi => h i (by omega))
    have h2 := h n (by omega)
    unfold awN
    rw [Nat.testBit_or, Bool.or_eq_true, h1, Nat.testBit_two_pow, decide_eq_true_iff]
    constructor
    · rintro (⟨i, i1, i2⟩ | q)
      · exact ⟨i, by omega, i2⟩
      · exact ⟨n, by omega, by omega⟩
    · rintro ⟨i, i1, i2⟩
      by_cases c : i = n
      · right; rw [c] at i2; omega
      · left; exact ⟨i, by omega, i2⟩
theorem rc1_lt {aw : Nat → Nat} {r : Nat} (hr : r < 4096) : ∀ n : Nat, (∀ i, i < n → aw i < 4096) → rc1 aw r n < 4096 := by
  intro n
  induction n with
  | zero => intro _; exact hr
  | succ n ih =>
    intro h
    have h1 := ih (fun i hi => h i (by omega))
    unfold rc1
    split
    · exact Nat.or_lt_two_pow (n := 12) (by omega) (h n (by omega))
    · exact h1
theorem rcR_lt {aw : Nat → Nat} {r nj : Nat} (hr : r < 4096) (h : ∀ i, i < nj → aw i < 4096) : ∀ n : Nat, rcR aw nj r n < 4096 := by
  intro n
  induction n with
  | zero => exact hr
  | succ n ih => unfold rcR; exact rc1_lt ih nj h
section MAFT
variable {G : zk_G} {B : zk_H} {M : Nat}
theorem d_waitsFor (hB : hpo G B M) {m : mS} (h10 : 0 ≤ m 10 0 ∧ m 10 0 ≤ 12) (hO : o3I m) (j o : Int) (hj : 0 ≤ j ∧ j < 12) (ho : 0 ≤ o ∧ o < 12) (Q : Option Value → zk_H → Prop) : zk_wp G 141 0 [some (.ref M), some (.int (iz j)), some (.int (iz o)), none, none, none, none] [] (hp G B M m) Q ↔ Q (some (.int (iz (bi ((rcR (fun k => awO m k) (m 10 0).toNat (2 ^ j.toNat) 12).testBit o.toNat))))) (hp G B M m) := by
  refine zk_eq ?_ Q
  generalize hQ : (fun (r : Option Value) (h' : zk_H) => r = some (.int (iz (bi ((rcR (fun k => awO m k) (m 10 0).toNat (2 ^ j.toNat) 12).testBit o.toNat)))) ∧ h' = hp G B M m) = P
  have hA : ∀ i : Nat, i < (m 10 0).toNat → awO m i < 4096 := fun i hi => awO_lt hO (by omega)
  have h2j : 2 ^ j.toNat < 4096 := Nat.pow_lt_pow_right (a := 2) (n := 12) (by decide) (by omega)
  have lr : ∀ (q r : Nat) (o5 o6 : Option Value), r + q = 12 → zk_wp G 141 7 [some (.ref M), some (.int (iz j)), some (.int (iz o)), some (.int (iz (rcR (fun k => awO m k) (m 10 0).toNat (2 ^ j.toNat) r : Nat))), some (.int (iz r)), o5, o6] [] (hp G B M m) P := by
    intro q
    induction q with
    | zero =>
      intro r o5 o6 hr
      have rl := rcR_lt (r := 2 ^ j.toNat) h2j hA r
      have ib := i_bit (x := ((rcR (fun k => awO m k) (m 10 0).toNat (2 ^ j.toNat) r : Nat) : Int)) (k := o) (by omega) (by omega)
      rw [Int.toNat_natCast] at ib
      have hr12 : r = 12 := by omega
      subst hr12
      rw [u_141_7]
      generalize hx : (rcR (fun k => awO m k) (m 10 0).toNat (2 ^ j.toNat) 12) = x at *
      by_cases cb : x.testBit o.toNat = true
      · rw [cb] at ib hQ
        have hP : P (some (.int (iz 1))) (hp G B M m) := by rw [← hQ]; exact ⟨rfl, rfl⟩
        have e1 : bi true = 1 := rfl
        rw [e1] at ib
        simp (disch := first | omega | assumption | (simp; done)) only [u_141_0, u_141_1, u_141_2, u_141_3, u_141_4, u_141_5, u_141_9, u_141_11, u_141_15, u_141_17, u_141_19, u_141_20, u_141_23, u_141_26, u_141_27, u_141_29, u_141_31, u_141_32, u_141_35, u_141_37, u_141_38, u_141_41, u_141_42, u_141_44, u_141_45, u_141_46, u_141_47, u_141_48, u_141_51, u_141_52, u_141_53, u_141_54, u_141_57, u_141_58, u_141_60, u_141_61, u_141_63, u_141_64, u_141_65, u_141_66, u_141_67, u_141_68, u_141_71, u_141_74, u_141_77, u_141_80, u_141_83, u_141_86, u_141_87, u_141_88, u_141_89, u_141_90, u_141_91, u_141_92, u_141_95, u_141_96, u_141_99, u_141_100, true_or, or_true, zk_li1_s, zk_ll1_s, zk_la1_r, zk_la1_n, zk_lg0, zk_lgs, zk_co_n, zk_co_i, zk_co_r, zk_co_u, zk_co_l, zk_l1_0, zk_l1_1, zk_l1_s, zk_l2_0, zk_l2_1, zk_l2_s, zk_sm0, zk_smi, zk_smr, zk_smn, zk_sml, zk_fi, zk_fz, zk_fo, zk_fn, zk_fa, zk_ts, zk_tn, zk_cases, true_and, and_true, List.getElem?_cons_zero, List.getElem?_cons_succ, List.length_cons, List.length_nil, Nat.reduceAdd, Nat.reduceLT, Nat.reduceLeDiff, List.set_cons_zero, List.set_cons_succ, va_rf, iz_lit, iz_le, iz_inj, ib]
        (repeat' (first | exact hP | apply And.intro | intro _)) <;> first | omega | (exfalso; omega) | contradiction | exact absurd trivial (by assumption) | (exfalso; simp_all; done)
      · have cb' : x.testBit o.toNat = false := by simpa using cb
        rw [cb'] at ib hQ
        have hP : P (some (.int (iz 0))) (hp G B M m) := by rw [← hQ]; exact ⟨rfl, rfl⟩
        have e1 : bi false = 0 := rfl
        rw [e1] at ib
        simp (disch := first | omega | assumption | (simp; done)) only [u_141_0, u_141_1, u_141_2, u_141_3, u_141_4, u_141_5, u_141_9, u_141_11, u_141_15, u_141_17, u_141_19, u_141_20, u_141_23, u_141_26, u_141_27, u_141_29, u_141_31, u_141_32, u_141_35, u_141_37, u_141_38, u_141_41, u_141_42, u_141_44, u_141_45, u_141_46, u_141_47, u_141_48, u_141_51, u_141_52, u_141_53, u_141_54, u_141_57, u_141_58, u_141_60, u_141_61, u_141_63, u_141_64, u_141_65, u_141_66, u_141_67, u_141_68, u_141_71, u_141_74, u_141_77, u_141_80, u_141_83, u_141_86, u_141_87, u_141_88, u_141_89, u_141_90, u_141_91, u_141_92, u_141_95, u_141_96, u_141_99, u_141_100, true_or, or_true, zk_li1_s, zk_ll1_s, zk_la1_r, zk_la1_n, zk_lg0, zk_lgs, zk_co_n, zk_co_i, zk_co_r, zk_co_u, zk_co_l, zk_l1_0, zk_l1_1, zk_l1_s, zk_l2_0, zk_l2_1, zk_l2_s, zk_sm0, zk_smi, zk_smr, zk_smn, zk_sml, zk_fi, zk_fz, zk_fo, zk_fn, zk_fa, zk_ts, zk_tn, zk_cases, true_and, and_true, List.getElem?_cons_zero, List.getElem?_cons_succ, List.length_cons, List.length_nil, Nat.reduceAdd, Nat.reduceLT, Nat.reduceLeDiff, List.set_cons_zero, List.set_cons_succ, va_rf, iz_lit, iz_le, iz_inj, ib]
        (repeat' (first | exact hP | apply And.intro | intro _)) <;> first | omega | (exfalso; omega) | contradiction | exact absurd trivial (by assumption) | (exfalso; simp_all; done)
    | succ q ih =>
      intro r o5 o6 hr
      have rl := rcR_lt (r := 2 ^ j.toNat) h2j hA r
      have nx := fun o5 o6 => ih (r + 1) o5 o6 (by omega)
      have e1 : rcR (fun k => awO m k) (m 10 0).toNat (2 ^ j.toNat) (r + 1) = rc1 (fun k => awO m k) (rcR (fun k => awO m k) (m 10 0).toNat (2 ^ j.toNat) r) (m 10 0).toNat := rfl
      rw [e1] at nx
      generalize rcR (fun k => awO m k) (m 10 0).toNat (2 ^ j.toNat) r = x at *
      have lk : ∀ (q k : Nat) (o6 : Option Value), (k : Int) + q = m 10 0 → zk_wp G 141 17 [some (.ref M), some (.int (iz j)), some (.int (iz o)), some (.int (iz (rc1 (fun k => awO m k) x k : Nat))), some (.int (iz r)), some (.int (iz k)), o6] [] (hp G B M m) P := by
        intro q
        induction q with
        | zero =>
          intro k o6 hk
          have n1 := nx (some (.int (iz k))) o6
          rw [show (m 10 0).toNat = k by omega, show (((r + 1 : Nat)) : Int) = (r : Int) + 1 by omega] at n1
          rw [u_141_17]
          simp (disch := first | omega | assumption | (simp; done)) only [u_141_0, u_141_1, u_141_2, u_141_3, u_141_4, u_141_5, u_141_9, u_141_11, u_141_14, u_141_15, u_141_19, u_141_20, u_141_23, u_141_27, u_141_29, u_141_31, u_141_32, u_141_35, u_141_37, u_141_38, u_141_41, u_141_42, u_141_44, u_141_45, u_141_46, u_141_47, u_141_48, u_141_51, u_141_52, u_141_53, u_141_54, u_141_57, u_141_58, u_141_60, u_141_61, u_141_63, u_141_64, u_141_65, u_141_66, u_141_67, u_141_68, u_141_71, u_141_74, u_141_77, u_141_80, u_141_83, u_141_86, u_141_87, u_141_88, u_141_89, u_141_90, u_141_91, u_141_92, u_141_95, u_141_96, u_141_99, u_141_100, true_or, or_true, zk_li1_s, zk_ll1_s, zk_la1_r, zk_la1_n, zk_lg0, zk_lgs, zk_co_n, zk_co_i, zk_co_r, zk_co_u, zk_co_l, zk_l1_0, zk_l1_1, zk_l1_s, zk_l2_0, zk_l2_1, zk_l2_s, zk_sm0, zk_smi, zk_smr, zk_smn, zk_sml, zk_fi, zk_fz, zk_fo, zk_fn, zk_fa, zk_ts, zk_tn, zk_cases, true_and, and_true, List.getElem?_cons_zero, List.getElem?_cons_succ, List.length_cons, List.length_nil, Nat.reduceAdd, Nat.reduceLT, Nat.reduceLeDiff, List.set_cons_zero, List.set_cons_succ, va_rf, iz_lit, iz_le, iz_add, mg_10 hB, mw_10 hB]
          (repeat' (first | exact n1 | apply And.intro | intro _)) <;> first | omega | (exfalso; omega) | contradiction | exact absurd trivial (by assumption) | (exfalso; simp_all; done)
        | succ q ih2 =>
          intro k o6 hk
          obtain ⟨ok1, ok2⟩ := hO k (by omega) (by omega)
          have yl := rc1_lt (aw := fun k => awO m k) (r := x) rl k (fun i hi => hA i (by omega))
          have al := awO_lt hO (j := k) (by omega)
          have n2 := fun o6 => ih2 (k + 1) o6 (by omega)
          have e2 : rc1 (fun k => awO m k) x (k + 1) = if (rc1 (fun k => awO m k) x k).testBit k = true then rc1 (fun k => awO m k) x k ||| awO m k else rc1 (fun k => awO m k) x k := rfl
          rw [e2, show (((k + 1 : Nat)) : Int) = (k : Int) + 1 by omega] at n2
          generalize rc1 (fun k => awO m k) x k = y at *
          have nk : ∀ (w : Nat) (o6 : Option Value), (if y.testBit k = true then y ||| awO m k else y) = w → zk_wp G 141 74 [some (.ref M), some (.int (iz j)), some (.int (iz o)), some (.int (iz w)), some (.int (iz r)), some (.int (iz k)), o6] [] (hp G B M m) P := by
            intro w o6 hw
            have n3 := n2 o6
            rw [hw] at n3
            rw [u_141_74]
            simp (disch := first | omega | assumption | (simp; done)) only [u_141_0, u_141_1, u_141_2, u_141_3, u_141_4, u_141_5, u_141_7, u_141_9, u_141_11, u_141_14, u_141_15, u_141_19, u_141_20, u_141_23, u_141_26, u_141_27, u_141_29, u_141_31, u_141_32, u_141_35, u_141_37, u_141_38, u_141_41, u_141_42, u_141_44, u_141_45, u_141_46, u_141_47, u_141_48, u_141_51, u_141_52, u_141_53, u_141_54, u_141_57, u_141_58, u_141_60, u_141_61, u_141_63, u_141_64, u_141_65, u_141_66, u_141_67, u_141_68, u_141_71, u_141_77, u_141_80, u_141_83, u_141_86, u_141_87, u_141_88, u_141_89, u_141_90, u_141_91, u_141_92, u_141_95, u_141_96, u_141_99, u_141_100, true_or, or_true, zk_li1_s, zk_ll1_s, zk_la1_r, zk_la1_n, zk_lg0, zk_lgs, zk_co_n, zk_co_i, zk_co_r, zk_co_u, zk_co_l, zk_l1_0, zk_l1_1, zk_l1_s, zk_l2_0, zk_l2_1, zk_l2_s, zk_sm0, zk_smi, zk_smr, zk_smn, zk_sml, zk_fi, zk_fz, zk_fo, zk_fn, zk_fa, zk_ts, zk_tn, zk_cases, true_and, and_true, List.getElem?_cons_zero, List.getElem?_cons_succ, List.length_cons, List.length_nil, Nat.reduceAdd, Nat.reduceLT, Nat.reduceLeDiff, List.set_cons_zero, List.set_cons_succ, va_rf, iz_lit, iz_add]
            exact n3
          by_cases cb : y.testBit k = true
          · have li : ∀ (q i : Nat), (i : Int) + q = m 26 k → zk_wp G 141 29 [some (.ref M), some (.int (iz j)), some (.int (iz o)), some (.int (iz (y ||| awN m k i : Nat))), some (.int (iz r)), some (.int (iz k)), some (.int (iz i))] [] (hp G B M m) P := by
              intro q
              induction q with
              | zero =>
                intro i hi
                have n4 := nk (y ||| awN m k i) (some (.int (iz i))) (by rw [if_pos cb]; unfold awO; rw [show (m 26 k).toNat = i by omega])
                rw [u_141_29]
                simp (disch := first | omega | assumption | (simp; done)) only [u_141_0, u_141_1, u_141_2, u_141_3, u_141_4, u_141_5, u_141_7, u_141_9, u_141_11, u_141_14, u_141_15, u_141_17, u_141_19, u_141_20, u_141_23, u_141_26, u_141_27, u_141_31, u_141_32, u_141_35, u_141_37, u_141_38, u_141_42, u_141_44, u_141_45, u_141_46, u_141_47, u_141_48, u_141_51, u_141_52, u_141_53, u_141_54, u_141_57, u_141_58, u_141_60, u_141_61, u_141_63, u_141_64, u_141_65, u_141_66, u_141_67, u_141_68, u_141_71, u_141_77, u_141_80, u_141_83, u_141_86, u_141_87, u_141_88, u_141_89, u_141_90, u_141_91, u_141_92, u_141_95, u_141_96, u_141_99, u_141_100, true_or, or_true, zk_li1_s, zk_ll1_s, zk_la1_r, zk_la1_n, zk_lg0, zk_lgs, zk_co_n, zk_co_i, zk_co_r, zk_co_u, zk_co_l, zk_l1_0, zk_l1_1, zk_l1_s, zk_l2_0, zk_l2_1, zk_l2_s, zk_sm0, zk_smi, zk_smr, zk_smn, zk_sml, zk_fi, zk_fz, zk_fo, zk_fn, zk_fa, zk_ts, zk_tn, zk_cases, true_and, and_true, List.getElem?_cons_zero, List.getElem?_cons_succ, List.length_cons, List.length_nil, Nat.reduceAdd, Nat.reduceLT, Nat.reduceLeDiff, List.set_cons_zero, List.set_cons_succ, va_rf, iz_lit, iz_le, mg_26 hB, mr_26 hB, mw_26 hB]
                (repeat' (first | exact n4 | apply And.intro | intro _)) <;> first | omega | (exfalso; omega) | contradiction | exact absurd trivial (by assumption) | (exfalso; simp_all; done)
              | succ q ih3 =>
                intro i hi
                have b27 := ok2 i (by omega) (by omega)
                have wl := awN_lt (m := m) (j := k) i (fun t ht => ok2 t (by omega) (by omega))
                have zl : (y ||| awN m k i) < 4096 := Nat.or_lt_two_pow (n := 12) (by omega) (by omega)
                have p12 : 2 ^ (m 27 (3 * k + i)).toNat < 4096 := Nat.pow_lt_pow_right (a := 2) (n := 12) (by decide) (by omega)
                have n5 := ih3 (i + 1) (by omega)
                have e3 : (y ||| awN m k (i + 1)) = (y ||| awN m k i) ||| 2 ^ (m 27 (3 * k + i)).toNat := by
                  show (y ||| (awN m k i ||| 2 ^ (m 27 (3 * k + i)).toNat)) = _
                  rw [Nat.or_assoc]
                rw [e3, show (((i + 1 : Nat)) : Int) = (i : Int) + 1 by omega] at n5
                have ib := i_bit (x := ((y ||| awN m k i : Nat) : Int)) (k := k) (by omega) (by omega)
                rw [Int.toNat_natCast, Int.toNat_natCast, Nat.testBit_or, cb, Bool.true_or] at ib
                have e1 : bi true = 1 := rfl
                rw [e1] at ib
                have zo := z_or zl p12
                have sh := z_shl (i := m 27 (3 * k + i)) (by omega)
                rw [u_141_29]
                simp (disch := first | omega | assumption | (simp; done)) only [u_141_0, u_141_1, u_141_2, u_141_3, u_141_4, u_141_5, u_141_7, u_141_9, u_141_11, u_141_14, u_141_15, u_141_17, u_141_19, u_141_20, u_141_23, u_141_26, u_141_27, u_141_31, u_141_32, u_141_35, u_141_37, u_141_38, u_141_41, u_141_42, u_141_44, u_141_45, u_141_46, u_141_47, u_141_48, u_141_51, u_141_52, u_141_53, u_141_54, u_141_57, u_141_58, u_141_60, u_141_61, u_141_63, u_141_64, u_141_65, u_141_66, u_141_67, u_141_68, u_141_71, u_141_77, u_141_80, u_141_83, u_141_86, u_141_87, u_141_88, u_141_89, u_141_90, u_141_91, u_141_92, u_141_95, u_141_96, u_141_99, u_141_100, true_or, or_true, zk_li1_s, zk_ll1_s, zk_la1_r, zk_la1_n, zk_lg0, zk_lgs, zk_co_n, zk_co_i, zk_co_r, zk_co_u, zk_co_l, zk_l1_0, zk_l1_1, zk_l1_s, zk_l2_0, zk_l2_1, zk_l2_s, zk_sm0, zk_smi, zk_smr, zk_smn, zk_sml, zk_fi, zk_fz, zk_fo, zk_fn, zk_fa, zk_ts, zk_tn, zk_cases, true_and, and_true, List.getElem?_cons_zero, List.getElem?_cons_succ, List.length_cons, List.length_nil, Nat.reduceAdd, Nat.reduceLT, Nat.reduceLeDiff, List.set_cons_zero, List.set_cons_succ, va_rf, iz_lit, iz_le, iz_inj, iz_mul, iz_add, mg_26 hB, mr_26 hB, mw_26 hB, mg_27 hB, mr_27 hB, mw_27 hB, ib, sh, zo]
                (repeat' (first | exact n5 | apply And.intro | intro _)) <;> first | omega | (exfalso; omega) | contradiction | exact absurd trivial (by assumption) | (exfalso; simp_all; done)
            have l0 := li (m 26 k).toNat 0 (by omega)
            have e0 : (y ||| awN m k 0) = y := Nat.or_zero y
            rw [e0] at l0
            rw [u_141_17]
            simp (disch := first | omega | assumption | (simp; done)) only [u_141_0, u_141_1, u_141_2, u_141_3, u_141_4, u_141_5, u_141_7, u_141_9, u_141_11, u_141_14, u_141_15, u_141_19, u_141_20, u_141_23, u_141_26, u_141_27, u_141_31, u_141_32, u_141_35, u_141_37, u_141_38, u_141_41, u_141_42, u_141_44, u_141_45, u_141_46, u_141_47, u_141_48, u_141_51, u_141_52, u_141_53, u_141_54, u_141_57, u_141_58, u_141_60, u_141_61, u_141_63, u_141_64, u_141_65, u_141_66, u_141_67, u_141_68, u_141_71, u_141_74, u_141_77, u_141_80, u_141_83, u_141_86, u_141_87, u_141_88, u_141_89, u_141_90, u_141_91, u_141_92, u_141_95, u_141_96, u_141_99, u_141_100, true_or, or_true, zk_li1_s, zk_ll1_s, zk_la1_r, zk_la1_n, zk_lg0, zk_lgs, zk_co_n, zk_co_i, zk_co_r, zk_co_u, zk_co_l, zk_l1_0, zk_l1_1, zk_l1_s, zk_l2_0, zk_l2_1, zk_l2_s, zk_sm0, zk_smi, zk_smr, zk_smn, zk_sml, zk_fi, zk_fz, zk_fo, zk_fn, zk_fa, zk_ts, zk_tn, zk_cases, true_and, and_true, List.getElem?_cons_zero, List.getElem?_cons_succ, List.length_cons, List.length_nil, Nat.reduceAdd, Nat.reduceLT, Nat.reduceLeDiff, List.set_cons_zero, List.set_cons_succ, va_rf, iz_lit, iz_le, mg_10 hB, mw_10 hB]
            (repeat' (first | exact l0 | apply And.intro | intro _)) <;> first | omega | (exfalso; omega) | contradiction | exact absurd trivial (by assumption) | (exfalso; simp_all; done)
          · have cb' : y.testBit k = false := by simpa using cb
            have n4 := fun o6 => nk y o6 (by rw [if_neg cb])
            have ib := i_bit (x := ((y : Nat) : Int)) (k := k) (by omega) (by omega)
            rw [Int.toNat_natCast, Int.toNat_natCast, cb'] at ib
            have e1 : bi false = 0 := rfl
            rw [e1] at ib
            rw [u_141_17]
            by_cases c26 : m 26 k = 0
            · simp (disch := first | omega | assumption | (simp; done)) only [u_141_0, u_141_1, u_141_2, u_141_3, u_141_4, u_141_5, u_141_7, u_141_9, u_141_11, u_141_14, u_141_15, u_141_19, u_141_20, u_141_23, u_141_26, u_141_27, u_141_29, u_141_31, u_141_32, u_141_35, u_141_37, u_141_38, u_141_42, u_141_44, u_141_45, u_141_46, u_141_47, u_141_48, u_141_51, u_141_52, u_141_53, u_141_54, u_141_57, u_141_58, u_141_60, u_141_61, u_141_63, u_141_64, u_141_65, u_141_66, u_141_67, u_141_68, u_141_71, u_141_77, u_141_80, u_141_83, u_141_86, u_141_87, u_141_88, u_141_89, u_141_90, u_141_91, u_141_92, u_141_95, u_141_96, u_141_99, u_141_100, true_or, or_true, zk_li1_s, zk_ll1_s, zk_la1_r, zk_la1_n, zk_lg0, zk_lgs, zk_co_n, zk_co_i, zk_co_r, zk_co_u, zk_co_l, zk_l1_0, zk_l1_1, zk_l1_s, zk_l2_0, zk_l2_1, zk_l2_s, zk_sm0, zk_smi, zk_smr, zk_smn, zk_sml, zk_fi, zk_fz, zk_fo, zk_fn, zk_fa, zk_ts, zk_tn, zk_cases, true_and, and_true, List.getElem?_cons_zero, List.getElem?_cons_succ, List.length_cons, List.length_nil, Nat.reduceAdd, Nat.reduceLT, Nat.reduceLeDiff, List.set_cons_zero, List.set_cons_succ, va_rf, iz_lit, iz_le, mg_10 hB, mw_10 hB, mg_26 hB, mr_26 hB, mw_26 hB]
              (repeat' (first | exact n4 _ | apply And.intro | intro _)) <;> first | omega | (exfalso; omega) | contradiction | exact absurd trivial (by assumption) | (exfalso; simp_all; done)
            · simp (disch := first | omega | assumption | (simp; done)) only [u_141_0, u_141_1, u_141_2, u_141_3, u_141_4, u_141_5, u_141_7, u_141_9, u_141_11, u_141_14, u_141_15, u_141_19, u_141_20, u_141_23, u_141_26, u_141_27, u_141_29, u_141_31, u_141_32, u_141_35, u_141_37, u_141_38, u_141_41, u_141_42, u_141_44, u_141_45, u_141_46, u_141_47, u_141_48, u_141_52, u_141_53, u_141_54, u_141_57, u_141_58, u_141_60, u_141_61, u_141_63, u_141_64, u_141_65, u_141_66, u_141_67, u_141_68, u_141_71, u_141_77, u_141_80, u_141_83, u_141_86, u_141_87, u_141_88, u_141_89, u_141_90, u_141_91, u_141_92, u_141_95, u_141_96, u_141_99, u_141_100, true_or, or_true, zk_li1_s, zk_ll1_s, zk_la1_r, zk_la1_n, zk_lg0, zk_lgs, zk_co_n, zk_co_i, zk_co_r, zk_co_u, zk_co_l, zk_l1_0, zk_l1_1, zk_l1_s, zk_l2_0, zk_l2_1, zk_l2_s, zk_sm0, zk_smi, zk_smr, zk_smn, zk_sml, zk_fi, zk_fz, zk_fo, zk_fn, zk_fa, zk_ts, zk_tn, zk_cases, true_and, and_true, List.getElem?_cons_zero, List.getElem?_cons_succ, List.length_cons, List.length_nil, Nat.reduceAdd, Nat.reduceLT, Nat.reduceLeDiff, List.set_cons_zero, List.set_cons_succ, va_rf, iz_lit, iz_le, iz_inj, mg_10 hB, mw_10 hB, mg_26 hB, mr_26 hB, mw_26 hB, ib]
              (repeat' (first | exact n4 _ | apply And.intro | intro _)) <;> first | omega | (exfalso; omega) | contradiction | exact absurd trivial (by assumption) | (exfalso; simp_all; done)
      have l0 := lk (m 10 0).toNat 0 o6 (by omega)
      have e0 : rc1 (fun k => awO m k) x 0 = x := rfl
      rw [e0] at l0
      rw [u_141_7]
      simp (disch := first | omega | assumption | (simp; done)) only [u_141_0, u_141_1, u_141_2, u_141_3, u_141_4, u_141_5, u_141_9, u_141_11, u_141_14, u_141_15, u_141_19, u_141_20, u_141_23, u_141_26, u_141_27, u_141_29, u_141_31, u_141_32, u_141_35, u_141_37, u_141_38, u_141_41, u_141_42, u_141_44, u_141_45, u_141_46, u_141_47, u_141_48, u_141_51, u_141_52, u_141_53, u_141_54, u_141_57, u_141_58, u_141_60, u_141_61, u_141_63, u_141_64, u_141_65, u_141_66, u_141_67, u_141_68, u_141_71, u_141_74, u_141_77, u_141_80, u_141_83, u_141_86, u_141_87, u_141_88, u_141_89, u_141_90, u_141_91, u_141_92, u_141_95, u_141_96, u_141_99, u_141_100, true_or, or_true, zk_li1_s, zk_ll1_s, zk_la1_r, zk_la1_n, zk_lg0, zk_lgs, zk_co_n, zk_co_i, zk_co_r, zk_co_u, zk_co_l, zk_l1_0, zk_l1_1, zk_l1_s, zk_l2_0, zk_l2_1, zk_l2_s, zk_sm0, zk_smi, zk_smr, zk_smn, zk_sml, zk_fi, zk_fz, zk_fo, zk_fn, zk_fa, zk_ts, zk_tn, zk_cases, true_and, and_true, List.getElem?_cons_zero, List.getElem?_cons_succ, List.length_cons, List.length_nil, Nat.reduceAdd, Nat.reduceLT, Nat.reduceLeDiff, List.set_cons_zero, List.set_cons_succ, va_rf, iz_lit, iz_le]
      (repeat' (first | exact l0 | apply And.intro | intro _)) <;> first | omega | (exfalso; omega) | contradiction | exact absurd trivial (by assumption) | (exfalso; simp_all; done)
  have sh := z_shl (i := j) hj
  simp (disch := first | omega | assumption | (simp; done)) only [u_141_0, u_141_1, u_141_2, u_141_3, u_141_4, u_141_5, u_141_9, u_141_11, u_141_14, u_141_15, u_141_17, u_141_19, u_141_20, u_141_23, u_141_26, u_141_27, u_141_29, u_141_31, u_141_32, u_141_35, u_141_37, u_141_38, u_141_41, u_141_42, u_141_44, u_141_45, u_141_46, u_141_47, u_141_48, u_141_51, u_141_52, u_141_53, u_141_54, u_141_57, u_141_58, u_141_60, u_141_61, u_141_63, u_141_64, u_141_65, u_141_66, u_141_67, u_141_68, u_141_71, u_141_74, u_141_77, u_141_80, u_141_83, u_141_86, u_141_87, u_141_88, u_141_89, u_141_90, u_141_91, u_141_92, u_141_95, u_141_96, u_141_99, u_141_100, true_or, or_true, zk_li1_s, zk_ll1_s, zk_la1_r, zk_la1_n, zk_lg0, zk_lgs, zk_co_n, zk_co_i, zk_co_r, zk_co_u, zk_co_l, zk_l1_0, zk_l1_1, zk_l1_s, zk_l2_0, zk_l2_1, zk_l2_s, zk_sm0, zk_smi, zk_smr, zk_smn, zk_sml, zk_fi, zk_fz, zk_fo, zk_fn, zk_fa, zk_ts, zk_tn, zk_cases, true_and, and_true, List.getElem?_cons_zero, List.getElem?_cons_succ, List.length_cons, List.length_nil, Nat.reduceAdd, Nat.reduceLT, Nat.reduceLeDiff, List.set_cons_zero, List.set_cons_succ, va_rf, iz_lit, sh]
  exact lr 12 0 _ _ (by omega)
end MAFT
