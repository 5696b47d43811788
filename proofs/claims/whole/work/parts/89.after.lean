/-! the class's after -/
theorem REL_aw {s m m' : mS} (hR : REL s m) {j x : Int} (hx : 0 ≤ x ∧ x < 4096) (hm : ∀ k z, k ≠ 26 → k ≠ 27 → m' k z = m k z) (ha : ∀ j', 0 ≤ j' → j' < m 10 0 → ((awO m' j' : Nat) : Int) = if j' = j then x else ((awO m j' : Nat) : Int)) : REL (up s 61 j x) m' := by
  obtain ⟨r1, r2, r3, r4, r5, r6, r7⟩ := hR
  have h1 := hm 1 0 (by decide) (by decide)
  have h10 := hm 10 0 (by decide) (by decide)
  have us : ∀ c z', c ≠ 61 → up s 61 j x c z' = s c z' := fun c z' h => up_k _ _ _ _ h
  refine ⟨?_, ?_, ?_, ?_, ?_, ?_, rg_up r7 _ _ (by omega)⟩
  · intro k z hk
    rw [us k z (by intro e; rw [e] at hk; revert hk; decide), hm k z (by intro e; rw [e] at hk; revert hk; decide) (by intro e; rw [e] at hk; revert hk; decide)]
    exact r1 k z hk
  · intro z a b
    rw [hm 53 0 (by decide) (by decide)] at b
    rw [us 54 _ (by decide), hm 54 _ (by decide) (by decide)]
    exact r2 z a b
  · intro i i1 i2
    obtain ⟨a, b, c, d⟩ := r3 i i1 i2
    refine ⟨runR_of a (fun k k1 k2 => us k i (by omega)) (fun k k1 k2 => hm k i (by omega) (by omega)), ?_, ?_, ?_⟩
    · rw [us 62 i (by decide), hm 30 i (by decide) (by decide), hm 34 i (by decide) (by decide)]; exact b
    · rw [us 62 i (by decide)]; exact c
    · rw [us 62 i (by decide), h10]; exact d
  · intro z a b
    rw [h1] at b
    refine zR_of (r4 z a b) (fun z => us 100 z (by decide)) (fun z => us 101 z (by decide)) (fun z => us 102 z (by decide)) (fun z => us 60 z (by decide)) ?_
    intro k z q
    exact hm k z (by intro e; rw [e] at q; revert q; decide) (by intro e; rw [e] at q; revert q; decide)
  · intro j' a b
    rw [h10] at b
    obtain ⟨c1, c2⟩ := r5 j' a b
    refine ⟨jR_of c1 (fun z => us 100 z (by decide)) (fun z => us 101 z (by decide)) (fun z => us 102 z (by decide)) (fun k z q => hm k z (by omega) (by omega)) (fun k q => ?_), ?_⟩
    · rw [us k j' (by omega), hm k j' (by omega) (by omega)]
      refine r1 k j' ?_
      have : k = 11 ∨ k = 12 ∨ k = 13 ∨ k = 14 ∨ k = 15 ∨ k = 16 ∨ k = 22 := by omega
      rcases this with rfl | rfl | rfl | rfl | rfl | rfl | rfl <;> rfl
    · rw [ha j' a b, up_z]
      split
      · rfl
      · exact c2
  · unfold ROT
    rw [h1, h10, us 80 0 (by decide), us 81 0 (by decide)]
    refine ⟨r6.1, r6.2.1, fun p hp => ?_⟩
    rw [us 102 p (by decide)]
    exact r6.2.2 p hp
theorem rc1_of {a b : Nat → Nat} {r : Nat} : ∀ n : Nat, (∀ i, i < n → a i = b i) → rc1 a r n = rc1 b r n := by
  intro n
  induction n with
  | zero => intro _; rfl
  | succ n ih =>
    intro h
    unfold rc1
    rw [ih (fun i hi => h i (by omega)), h n (by omega)]
theorem awO_up {m : mS} (hO : o3I m) {j o : Int} (hj : 0 ≤ j ∧ j < 12) (hn : m 26 j ≠ 3) (j' : Int) (hj' : 0 ≤ j' ∧ j' < 12) : awO (up (up m 27 (3 * j + m 26 j) o) 26 j (m 26 j + 1)) j' = if j' = j then awO m j ||| 2 ^ o.toNat else awO m j' := by
  obtain ⟨k1, k2⟩ := hO j hj.1 hj.2
  obtain ⟨l1, l2⟩ := hO j' hj'.1 hj'.2
  have nn : ∀ (x : Int) (n : Nat), (∀ i : Nat, i < n → 3 * x + (i : Int) ≠ 3 * j + m 26 j) → awN (up (up m 27 (3 * j + m 26 j) o) 26 j (m 26 j + 1)) x n = awN m x n := by
    intro x n
    induction n with
    | zero => intro _; rfl
    | succ n ih =>
      intro h
      show awN _ x n ||| 2 ^ (up (up m 27 (3 * j + m 26 j) o) 26 j (m 26 j + 1) 27 (3 * x + n)).toNat = awN m x n ||| 2 ^ (m 27 (3 * x + n)).toNat
      rw [ih (fun i hi => h i (by omega)), up_k _ _ _ _ (by decide), up_z, if_neg (h n (by omega))]
  unfold awO
  rw [up_z]
  by_cases c : j' = j
  · subst c
    rw [if_pos rfl, if_pos rfl, show (m 26 j' + 1).toNat = (m 26 j').toNat + 1 by omega]
    show awN _ j' (m 26 j').toNat ||| 2 ^ (up (up m 27 (3 * j' + m 26 j') o) 26 j' (m 26 j' + 1) 27 (3 * j' + ((m 26 j').toNat : Nat))).toNat = _
    rw [nn j' _ (fun i hi => by omega), show (((m 26 j').toNat : Nat) : Int) = m 26 j' by omega, up_k _ _ _ _ (by decide), up_e]
  · rw [if_neg c, if_neg c, up_k _ _ _ _ (by decide)]
    exact nn j' _ (fun i hi => by omega)
section AFT
variable {G : zk_G} {B : zk_H} {ad : Int → Nat} {s m : mS}
theorem c_reaches (hB : hxo G B (m 1 0) (m 10 0) ad) (hR : REL s m) (hM : MC m) (j o : Int) (hj : 0 ≤ j ∧ j < 12) (ho : 0 ≤ o ∧ o < 12) (Q : Option Value → zk_H → Prop) : zk_wp G 78 0 [some (.ref (ad 0)), some (.int (iz j)), some (.int (iz o)), none, none, none, none] [] (hx G B (m 1 0) (m 10 0) ad s) Q ↔ Q (some (.int (iz (bi ((rcR (fun k => awO m k) (m 10 0).toNat (2 ^ j.toNat) 12).testBit o.toNat))))) (hx G B (m 1 0) (m 10 0) ad s) := by
  refine zk_eq ?_ Q
  have hc := rel_cI hR hM
  have h10 := hM.2.2.2.1
  have hO := hM.2.2.2.2.2.2
  have e10 := rel_k hR 10 0
  generalize hQ : (fun (r : Option Value) (h' : zk_H) => r = some (.int (iz (bi ((rcR (fun k => awO m k) (m 10 0).toNat (2 ^ j.toNat) 12).testBit o.toNat)))) ∧ h' = hx G B (m 1 0) (m 10 0) ad s) = P
  have hA : ∀ i : Nat, i < (m 10 0).toNat → awO m i < 4096 := fun i hi => awO_lt hO (by omega)
  have h2j : 2 ^ j.toNat < 4096 := Nat.pow_lt_pow_right (a := 2) (n := 12) (by decide) (by omega)
  have lr : ∀ (q r : Nat) (o5 o6 : Option Value), r + q = 12 → zk_wp G 78 7 [some (.ref (ad 0)), some (.int (iz j)), some (.int (iz o)), some (.int (iz (rcR (fun k => awO m k) (m 10 0).toNat (2 ^ j.toNat) r : Nat))), some (.int (iz r)), o5, o6] [] (hx G B (m 1 0) (m 10 0) ad s) P := by
    intro q
    induction q with
    | zero =>
      intro r o5 o6 hr
      have rl := rcR_lt (r := 2 ^ j.toNat) h2j hA r
      have ib := i_bit (x := ((rcR (fun k => awO m k) (m 10 0).toNat (2 ^ j.toNat) r : Nat) : Int)) (k := o) (by omega) (by omega)
      rw [Int.toNat_natCast] at ib
      have hr12 : r = 12 := by omega
      subst hr12
      rw [u_78_7]
      generalize hxx : (rcR (fun k => awO m k) (m 10 0).toNat (2 ^ j.toNat) 12) = x at *
      by_cases cb : x.testBit o.toNat = true
      · rw [cb] at ib hQ
        have hP : P (some (.int (iz 1))) (hx G B (m 1 0) (m 10 0) ad s) := by rw [← hQ]; exact ⟨rfl, rfl⟩
        have e1 : bi true = 1 := rfl
        rw [e1] at ib
        simp (disch := first | omega | assumption | (simp; done)) only [u_78_0, u_78_1, u_78_2, u_78_3, u_78_4, u_78_5, u_78_9, u_78_11, u_78_15, u_78_17, u_78_19, u_78_20, u_78_23, u_78_26, u_78_27, u_78_29, u_78_32, u_78_32N, u_78_34, u_78_36, u_78_36N, u_78_39, u_78_40, u_78_42, u_78_43, u_78_44, u_78_45, u_78_48, u_78_49, u_78_51, u_78_54, u_78_55, u_78_56, u_78_59, u_78_62, u_78_65, u_78_68, u_78_69, u_78_70, u_78_71, u_78_72, u_78_73, u_78_76, u_78_77, u_78_80, u_78_81, true_or, or_true, zk_li1_s, zk_ll1_s, zk_la1_r, zk_la1_n, zk_lg0, zk_lgs, zk_co_n, zk_co_i, zk_co_r, zk_co_u, zk_co_l, zk_l1_0, zk_l1_1, zk_l1_s, zk_l2_0, zk_l2_1, zk_l2_s, zk_sm0, zk_smi, zk_smr, zk_smn, zk_sml, zk_fi, zk_fz, zk_fo, zk_fn, zk_fa, zk_ts, zk_tn, zk_cases, true_and, and_true, List.getElem?_cons_zero, List.getElem?_cons_succ, List.length_cons, List.length_nil, Nat.reduceAdd, Nat.reduceLT, Nat.reduceLeDiff, List.set_cons_zero, List.set_cons_succ, va_rf, iz_lit, iz_le, iz_inj, ib]
        (repeat' (first | exact hP | apply And.intro | intro _)) <;> first | omega | (exfalso; omega) | contradiction | exact absurd trivial (by assumption) | (exfalso; simp_all; done)
      · have cb' : x.testBit o.toNat = false := by simpa using cb
        rw [cb'] at ib hQ
        have hP : P (some (.int (iz 0))) (hx G B (m 1 0) (m 10 0) ad s) := by rw [← hQ]; exact ⟨rfl, rfl⟩
        have e1 : bi false = 0 := rfl
        rw [e1] at ib
        simp (disch := first | omega | assumption | (simp; done)) only [u_78_0, u_78_1, u_78_2, u_78_3, u_78_4, u_78_5, u_78_9, u_78_11, u_78_15, u_78_17, u_78_19, u_78_20, u_78_23, u_78_26, u_78_27, u_78_29, u_78_32, u_78_32N, u_78_34, u_78_36, u_78_36N, u_78_39, u_78_40, u_78_42, u_78_43, u_78_44, u_78_45, u_78_48, u_78_49, u_78_51, u_78_54, u_78_55, u_78_56, u_78_59, u_78_62, u_78_65, u_78_68, u_78_69, u_78_70, u_78_71, u_78_72, u_78_73, u_78_76, u_78_77, u_78_80, u_78_81, true_or, or_true, zk_li1_s, zk_ll1_s, zk_la1_r, zk_la1_n, zk_lg0, zk_lgs, zk_co_n, zk_co_i, zk_co_r, zk_co_u, zk_co_l, zk_l1_0, zk_l1_1, zk_l1_s, zk_l2_0, zk_l2_1, zk_l2_s, zk_sm0, zk_smi, zk_smr, zk_smn, zk_sml, zk_fi, zk_fz, zk_fo, zk_fn, zk_fa, zk_ts, zk_tn, zk_cases, true_and, and_true, List.getElem?_cons_zero, List.getElem?_cons_succ, List.length_cons, List.length_nil, Nat.reduceAdd, Nat.reduceLT, Nat.reduceLeDiff, List.set_cons_zero, List.set_cons_succ, va_rf, iz_lit, iz_le, iz_inj, ib]
        (repeat' (first | exact hP | apply And.intro | intro _)) <;> first | omega | (exfalso; omega) | contradiction | exact absurd trivial (by assumption) | (exfalso; simp_all; done)
    | succ q ih =>
      intro r o5 o6 hr
      have rl := rcR_lt (r := 2 ^ j.toNat) h2j hA r
      have nx := fun o5 o6 => ih (r + 1) o5 o6 (by omega)
      have e1 : rcR (fun k => awO m k) (m 10 0).toNat (2 ^ j.toNat) (r + 1) = rc1 (fun k => awO m k) (rcR (fun k => awO m k) (m 10 0).toNat (2 ^ j.toNat) r) (m 10 0).toNat := rfl
      rw [e1] at nx
      generalize rcR (fun k => awO m k) (m 10 0).toNat (2 ^ j.toNat) r = x at *
      have lk : ∀ (q k : Nat) (o6 : Option Value), (k : Int) + q = m 10 0 → zk_wp G 78 17 [some (.ref (ad 0)), some (.int (iz j)), some (.int (iz o)), some (.int (iz (rc1 (fun k => awO m k) x k : Nat))), some (.int (iz r)), some (.int (iz k)), o6] [] (hx G B (m 1 0) (m 10 0) ad s) P := by
        intro q
        induction q with
        | zero =>
          intro k o6 hk
          have n1 := nx (some (.int (iz k))) o6
          rw [show (m 10 0).toNat = k by omega, show (((r + 1 : Nat)) : Int) = (r : Int) + 1 by omega] at n1
          rw [u_78_17]
          simp (disch := first | omega | assumption | (simp; done)) only [u_78_0, u_78_1, u_78_2, u_78_3, u_78_4, u_78_5, u_78_9, u_78_11, u_78_14, u_78_15, u_78_19, u_78_20, u_78_23, u_78_27, u_78_29, u_78_32, u_78_32N, u_78_34, u_78_36, u_78_36N, u_78_39, u_78_40, u_78_42, u_78_43, u_78_44, u_78_45, u_78_48, u_78_49, u_78_51, u_78_54, u_78_55, u_78_56, u_78_59, u_78_62, u_78_65, u_78_68, u_78_69, u_78_70, u_78_71, u_78_72, u_78_73, u_78_76, u_78_77, u_78_80, u_78_81, true_or, or_true, zk_li1_s, zk_ll1_s, zk_la1_r, zk_la1_n, zk_lg0, zk_lgs, zk_co_n, zk_co_i, zk_co_r, zk_co_u, zk_co_l, zk_l1_0, zk_l1_1, zk_l1_s, zk_l2_0, zk_l2_1, zk_l2_s, zk_sm0, zk_smi, zk_smr, zk_smn, zk_sml, zk_fi, zk_fz, zk_fo, zk_fn, zk_fa, zk_ts, zk_tn, zk_cases, true_and, and_true, List.getElem?_cons_zero, List.getElem?_cons_succ, List.length_cons, List.length_nil, Nat.reduceAdd, Nat.reduceLT, Nat.reduceLeDiff, List.set_cons_zero, List.set_cons_succ, va_rf, xi_tk hB, xg_tk_0 hB, xg_tk_1 hB, xg_tk_2 hB, xg_tk_3 hB, xg_tk_4 hB, xg_tk_5 hB, xg_tk_6 hB, xp_tk_6 hB, xg_tk_7 hB, xp_tk_7 hB, xg_tk_8 hB, xp_tk_8 hB, xg_tk_9 hB, xp_tk_9 hB, iz_lit, iz_le, iz_add, e10]
          (repeat' (first | exact n1 | apply And.intro | intro _)) <;> first | omega | (exfalso; omega) | contradiction | exact absurd trivial (by assumption) | (exfalso; simp_all; done)
        | succ q ih2 =>
          intro k o6 hk
          have yl := rc1_lt (aw := fun k => awO m k) (r := x) rl k (fun i hi => hA i (by omega))
          have al := awO_lt hO (j := k) (by omega)
          have n2 := fun o6 => ih2 (k + 1) o6 (by omega)
          have e2 : rc1 (fun k => awO m k) x (k + 1) = if (rc1 (fun k => awO m k) x k).testBit k = true then rc1 (fun k => awO m k) x k ||| awO m k else rc1 (fun k => awO m k) x k := rfl
          rw [e2, show (((k + 1 : Nat)) : Int) = (k : Int) + 1 by omega] at n2
          generalize rc1 (fun k => awO m k) x k = y at *
          have ja := c_jobAt hB hc k (by omega)
          have e61 := (hR.2.2.2.2.1 k (by omega) (by omega)).2
          have ib := i_bit (x := ((y : Nat) : Int)) (k := k) (by omega) (by omega)
          rw [Int.toNat_natCast, Int.toNat_natCast] at ib
          have zo := z_or yl al
          rw [u_78_17]
          by_cases cb : y.testBit k = true
          · rw [if_pos cb] at n2
            rw [cb] at ib
            have e1 : bi true = 1 := rfl
            rw [e1] at ib
            simp (disch := first | omega | assumption | (simp; done)) only [u_78_0, u_78_1, u_78_2, u_78_3, u_78_4, u_78_5, u_78_7, u_78_9, u_78_11, u_78_14, u_78_15, u_78_19, u_78_20, u_78_23, u_78_26, u_78_27, u_78_29, u_78_32, u_78_32N, u_78_34, u_78_36, u_78_36N, u_78_39, u_78_40, u_78_42, u_78_43, u_78_44, u_78_45, u_78_48, u_78_49, u_78_51, u_78_54, u_78_55, u_78_56, u_78_59, u_78_62, u_78_65, u_78_68, u_78_69, u_78_70, u_78_71, u_78_72, u_78_73, u_78_76, u_78_77, u_78_80, u_78_81, true_or, or_true, zk_li1_s, zk_ll1_s, zk_la1_r, zk_la1_n, zk_lg0, zk_lgs, zk_co_n, zk_co_i, zk_co_r, zk_co_u, zk_co_l, zk_l1_0, zk_l1_1, zk_l1_s, zk_l2_0, zk_l2_1, zk_l2_s, zk_sm0, zk_smi, zk_smr, zk_smn, zk_sml, zk_fi, zk_fz, zk_fo, zk_fn, zk_fa, zk_ts, zk_tn, zk_cases, true_and, and_true, List.getElem?_cons_zero, List.getElem?_cons_succ, List.length_cons, List.length_nil, Nat.reduceAdd, Nat.reduceLT, Nat.reduceLeDiff, List.set_cons_zero, List.set_cons_succ, va_rf, xi_tk hB, xg_tk_0 hB, xg_tk_1 hB, xg_tk_2 hB, xg_tk_3 hB, xg_tk_4 hB, xg_tk_5 hB, xg_tk_6 hB, xp_tk_6 hB, xg_tk_7 hB, xp_tk_7 hB, xg_tk_8 hB, xp_tk_8 hB, xg_tk_9 hB, xp_tk_9 hB, xi_jo hB, xg_jo_0 hB, xg_jo_1 hB, xg_jo_2 hB, xg_jo_3 hB, xp_jo_3 hB, xg_jo_4 hB, xp_jo_4 hB, xg_jo_5 hB, xp_jo_5 hB, xg_jo_6 hB, xp_jo_6 hB, xg_jo_7 hB, xp_jo_7 hB, xg_jo_8 hB, xp_jo_8 hB, iz_lit, iz_le, iz_inj, iz_add, e10, ja, ib, e61, zo]
            (repeat' (first | exact n2 _ | apply And.intro | intro _)) <;> first | omega | (exfalso; omega) | contradiction | exact absurd trivial (by assumption) | (exfalso; simp_all; done)
          · rw [if_neg cb] at n2
            have cb' : y.testBit k = false := by simpa using cb
            rw [cb'] at ib
            have e1 : bi false = 0 := rfl
            rw [e1] at ib
            simp (disch := first | omega | assumption | (simp; done)) only [u_78_0, u_78_1, u_78_2, u_78_3, u_78_4, u_78_5, u_78_7, u_78_9, u_78_11, u_78_14, u_78_15, u_78_19, u_78_20, u_78_23, u_78_26, u_78_27, u_78_29, u_78_32, u_78_32N, u_78_34, u_78_36, u_78_36N, u_78_39, u_78_40, u_78_42, u_78_43, u_78_44, u_78_45, u_78_49, u_78_51, u_78_54, u_78_55, u_78_56, u_78_59, u_78_62, u_78_65, u_78_68, u_78_69, u_78_70, u_78_71, u_78_72, u_78_73, u_78_76, u_78_77, u_78_80, u_78_81, true_or, or_true, zk_li1_s, zk_ll1_s, zk_la1_r, zk_la1_n, zk_lg0, zk_lgs, zk_co_n, zk_co_i, zk_co_r, zk_co_u, zk_co_l, zk_l1_0, zk_l1_1, zk_l1_s, zk_l2_0, zk_l2_1, zk_l2_s, zk_sm0, zk_smi, zk_smr, zk_smn, zk_sml, zk_fi, zk_fz, zk_fo, zk_fn, zk_fa, zk_ts, zk_tn, zk_cases, true_and, and_true, List.getElem?_cons_zero, List.getElem?_cons_succ, List.length_cons, List.length_nil, Nat.reduceAdd, Nat.reduceLT, Nat.reduceLeDiff, List.set_cons_zero, List.set_cons_succ, va_rf, xi_tk hB, xg_tk_0 hB, xg_tk_1 hB, xg_tk_2 hB, xg_tk_3 hB, xg_tk_4 hB, xg_tk_5 hB, xg_tk_6 hB, xp_tk_6 hB, xg_tk_7 hB, xp_tk_7 hB, xg_tk_8 hB, xp_tk_8 hB, xg_tk_9 hB, xp_tk_9 hB, xi_jo hB, xg_jo_0 hB, xg_jo_1 hB, xg_jo_2 hB, xg_jo_3 hB, xp_jo_3 hB, xg_jo_4 hB, xp_jo_4 hB, xg_jo_5 hB, xp_jo_5 hB, xg_jo_6 hB, xp_jo_6 hB, xg_jo_7 hB, xp_jo_7 hB, xg_jo_8 hB, xp_jo_8 hB, iz_lit, iz_le, iz_inj, iz_add, e10, ja, ib]
            (repeat' (first | exact n2 _ | apply And.intro | intro _)) <;> first | omega | (exfalso; omega) | contradiction | exact absurd trivial (by assumption) | (exfalso; simp_all; done)
      have l0 := lk (m 10 0).toNat 0 o6 (by omega)
      have e0 : rc1 (fun k => awO m k) x 0 = x := rfl
      rw [e0] at l0
      rw [u_78_7]
      simp (disch := first | omega | assumption | (simp; done)) only [u_78_0, u_78_1, u_78_2, u_78_3, u_78_4, u_78_5, u_78_9, u_78_11, u_78_14, u_78_15, u_78_19, u_78_20, u_78_23, u_78_26, u_78_27, u_78_29, u_78_32, u_78_32N, u_78_34, u_78_36, u_78_36N, u_78_39, u_78_40, u_78_42, u_78_43, u_78_44, u_78_45, u_78_48, u_78_49, u_78_51, u_78_54, u_78_55, u_78_56, u_78_59, u_78_62, u_78_65, u_78_68, u_78_69, u_78_70, u_78_71, u_78_72, u_78_73, u_78_76, u_78_77, u_78_80, u_78_81, true_or, or_true, zk_li1_s, zk_ll1_s, zk_la1_r, zk_la1_n, zk_lg0, zk_lgs, zk_co_n, zk_co_i, zk_co_r, zk_co_u, zk_co_l, zk_l1_0, zk_l1_1, zk_l1_s, zk_l2_0, zk_l2_1, zk_l2_s, zk_sm0, zk_smi, zk_smr, zk_smn, zk_sml, zk_fi, zk_fz, zk_fo, zk_fn, zk_fa, zk_ts, zk_tn, zk_cases, true_and, and_true, List.getElem?_cons_zero, List.getElem?_cons_succ, List.length_cons, List.length_nil, Nat.reduceAdd, Nat.reduceLT, Nat.reduceLeDiff, List.set_cons_zero, List.set_cons_succ, va_rf, iz_lit, iz_le]
      (repeat' (first | exact l0 | apply And.intro | intro _)) <;> first | omega | (exfalso; omega) | contradiction | exact absurd trivial (by assumption) | (exfalso; simp_all; done)
  have sh := z_shl (i := j) hj
  simp (disch := first | omega | assumption | (simp; done)) only [u_78_0, u_78_1, u_78_2, u_78_3, u_78_4, u_78_5, u_78_9, u_78_11, u_78_14, u_78_15, u_78_17, u_78_19, u_78_20, u_78_23, u_78_26, u_78_27, u_78_29, u_78_32, u_78_32N, u_78_34, u_78_36, u_78_36N, u_78_39, u_78_40, u_78_42, u_78_43, u_78_44, u_78_45, u_78_48, u_78_49, u_78_51, u_78_54, u_78_55, u_78_56, u_78_59, u_78_62, u_78_65, u_78_68, u_78_69, u_78_70, u_78_71, u_78_72, u_78_73, u_78_76, u_78_77, u_78_80, u_78_81, true_or, or_true, zk_li1_s, zk_ll1_s, zk_la1_r, zk_la1_n, zk_lg0, zk_lgs, zk_co_n, zk_co_i, zk_co_r, zk_co_u, zk_co_l, zk_l1_0, zk_l1_1, zk_l1_s, zk_l2_0, zk_l2_1, zk_l2_s, zk_sm0, zk_smi, zk_smr, zk_smn, zk_sml, zk_fi, zk_fz, zk_fo, zk_fn, zk_fa, zk_ts, zk_tn, zk_cases, true_and, and_true, List.getElem?_cons_zero, List.getElem?_cons_succ, List.length_cons, List.length_nil, Nat.reduceAdd, Nat.reduceLT, Nat.reduceLeDiff, List.set_cons_zero, List.set_cons_succ, va_rf, iz_lit, sh]
  exact lr 12 0 _ _ (by omega)
theorem k_after (hB : hxo G B (m 1 0) (m 10 0) ad) (hR : REL s m) (hM : MC m) (j o : Int) (hj : -2147483648 ≤ j ∧ j ≤ 2147483647) (ho : -2147483648 ≤ o ∧ o ≤ 2147483647) : (¬ afO m j o → CC G B ad s m 77 [some (.int (iz j)), some (.int (iz o)), none] (-1) m) ∧ (afO m j o → afB m j o = true → CC G B ad s m 77 [some (.int (iz j)), some (.int (iz o)), none] (-2) m) ∧ (afO m j o → afB m j o = false → m 26 j = 3 → CC G B ad s m 77 [some (.int (iz j)), some (.int (iz o)), none] (-3) m) ∧ (afO m j o → afB m j o = false → m 26 j ≠ 3 → CC G B ad s m 77 [some (.int (iz j)), some (.int (iz o)), none] (m 26 j + 1) (up (up m 27 (3 * j + m 26 j) o) 26 j (m 26 j + 1))) := by
  have hc := rel_cI hR hM
  have h10 := hM.2.2.2.1
  have hO := hM.2.2.2.2.2.2
  unfold afO
  by_cases c1 : 0 ≤ j ∧ j < m 10 0
  · have ja := c_jobAt hB hc j c1
    by_cases c2 : 0 ≤ o ∧ o < m 10 0
    · have jo := c_jobAt hB hc o c2
      have re := c_reaches hB hR hM o j (by omega) (by omega)
      have e61 := (hR.2.2.2.2.1 j c1.1 c1.2).2
      have al := awO_lt hO (j := j) (by omega)
      have ib := i_bit (x := ((awO m j : Nat) : Int)) (k := o) (by omega) (by omega)
      rw [Int.toNat_natCast] at ib
      have pc := (hM.2.2.2.2.2.1 j c1.1 (by omega)).2.2.1.2.2.2
      have bp := bc32_pop (awO m j) al
      rw [pc] at bp
      have b26 := (hO j c1.1 (by omega)).1
      have bc := c_bc32 G (hx G B (m 1 0) (m 10 0) ad s) (iz ((awO m j : Nat) : Int))
      rw [bp] at bc
      have afe : afB m j o = ((rcR (fun k => awO m k) (m 10 0).toNat (2 ^ o.toNat) 12).testBit j.toNat || (awO m j).testBit o.toNat) := rfl
      refine ⟨fun c => absurd ⟨c1, c2⟩ c, fun _ cb => CC_q hB hR (fun Q => zk_eq ?_ Q), fun _ cb c3 => CC_q hB hR (fun Q => zk_eq ?_ Q), fun _ cb c3 => ?_⟩
      · rw [afe, Bool.or_eq_true] at cb
        by_cases cr : (rcR (fun k => awO m k) (m 10 0).toNat (2 ^ o.toNat) 12).testBit j.toNat = true
        · rw [cr] at re
          simp (disch := first | omega | assumption | (simp; done)) only [u_77_0, u_77_1, u_77_2, u_77_5, u_77_5N, u_77_6, u_77_7, u_77_7N, u_77_10, u_77_11, u_77_12, u_77_15, u_77_15N, u_77_19, u_77_20, u_77_21, u_77_22, u_77_23, u_77_26, u_77_30, u_77_33, u_77_34, u_77_35, u_77_36, u_77_37, u_77_40, u_77_42, u_77_44, u_77_47, u_77_50, u_77_51, u_77_54, u_77_56, u_77_57, u_77_58i, u_77_58r, u_77_58n, u_77_59, u_77_62, u_77_63, u_77_64, u_77_65, u_77_66, u_77_69, u_77_70, u_77_73, u_77_76, true_or, or_true, zk_li1_s, zk_ll1_s, zk_la1_r, zk_la1_n, zk_lg0, zk_lgs, zk_co_n, zk_co_i, zk_co_r, zk_co_u, zk_co_l, zk_l1_0, zk_l1_1, zk_l1_s, zk_l2_0, zk_l2_1, zk_l2_s, zk_sm0, zk_smi, zk_smr, zk_smn, zk_sml, zk_fi, zk_fz, zk_fo, zk_fn, zk_fa, zk_ts, zk_tn, zk_cases, true_and, and_true, List.getElem?_cons_zero, List.getElem?_cons_succ, List.length_cons, List.length_nil, Nat.reduceAdd, Nat.reduceLT, Nat.reduceLeDiff, List.set_cons_zero, List.set_cons_succ, va_rf, xi_tk hB, xg_tk_0 hB, xg_tk_1 hB, xg_tk_2 hB, xg_tk_3 hB, xg_tk_4 hB, xg_tk_5 hB, xg_tk_6 hB, xp_tk_6 hB, xg_tk_7 hB, xp_tk_7 hB, xg_tk_8 hB, xp_tk_8 hB, xg_tk_9 hB, xp_tk_9 hB, xi_jo hB, xg_jo_0 hB, xg_jo_1 hB, xg_jo_2 hB, xg_jo_3 hB, xp_jo_3 hB, xg_jo_4 hB, xp_jo_4 hB, xg_jo_5 hB, xp_jo_5 hB, xg_jo_6 hB, xp_jo_6 hB, xg_jo_7 hB, xp_jo_7 hB, xg_jo_8 hB, xp_jo_8 hB, iz_lit, iz_neg, iz_inj, bi_0, ja, jo, re]
          all_goals ((repeat' (first | exact trivial | exact ⟨rfl, rfl⟩ | rfl | apply And.intro | intro _)) <;> first | omega | (exfalso; omega) | contradiction | (exfalso; simp_all; done) | trace_state)
        · have cr' : (rcR (fun k => awO m k) (m 10 0).toNat (2 ^ o.toNat) 12).testBit j.toNat = false := by simpa using cr
          have cb2 := cb.resolve_left cr
          rw [cr'] at re
          rw [cb2] at ib
          have e1 : bi true = 1 := rfl
          rw [e1] at ib
          simp (disch := first | omega | assumption | (simp; done)) only [u_77_0, u_77_1, u_77_2, u_77_5, u_77_5N, u_77_6, u_77_7, u_77_7N, u_77_10, u_77_11, u_77_12, u_77_15, u_77_15N, u_77_19, u_77_20, u_77_21, u_77_22, u_77_23, u_77_26, u_77_29, u_77_30, u_77_33, u_77_34, u_77_35, u_77_36, u_77_37, u_77_40, u_77_42, u_77_44, u_77_47, u_77_50, u_77_51, u_77_54, u_77_56, u_77_57, u_77_58i, u_77_58r, u_77_58n, u_77_59, u_77_62, u_77_63, u_77_64, u_77_65, u_77_66, u_77_69, u_77_70, u_77_73, u_77_76, true_or, or_true, zk_li1_s, zk_ll1_s, zk_la1_r, zk_la1_n, zk_lg0, zk_lgs, zk_co_n, zk_co_i, zk_co_r, zk_co_u, zk_co_l, zk_l1_0, zk_l1_1, zk_l1_s, zk_l2_0, zk_l2_1, zk_l2_s, zk_sm0, zk_smi, zk_smr, zk_smn, zk_sml, zk_fi, zk_fz, zk_fo, zk_fn, zk_fa, zk_ts, zk_tn, zk_cases, true_and, and_true, List.getElem?_cons_zero, List.getElem?_cons_succ, List.length_cons, List.length_nil, Nat.reduceAdd, Nat.reduceLT, Nat.reduceLeDiff, List.set_cons_zero, List.set_cons_succ, va_rf, xi_tk hB, xg_tk_0 hB, xg_tk_1 hB, xg_tk_2 hB, xg_tk_3 hB, xg_tk_4 hB, xg_tk_5 hB, xg_tk_6 hB, xp_tk_6 hB, xg_tk_7 hB, xp_tk_7 hB, xg_tk_8 hB, xp_tk_8 hB, xg_tk_9 hB, xp_tk_9 hB, xi_jo hB, xg_jo_0 hB, xg_jo_1 hB, xg_jo_2 hB, xg_jo_3 hB, xp_jo_3 hB, xg_jo_4 hB, xp_jo_4 hB, xg_jo_5 hB, xp_jo_5 hB, xg_jo_6 hB, xp_jo_6 hB, xg_jo_7 hB, xp_jo_7 hB, xg_jo_8 hB, xp_jo_8 hB, iz_lit, iz_neg, iz_inj, bi_0, ja, jo, re, e61, ib]
          all_goals ((repeat' (first | exact trivial | exact ⟨rfl, rfl⟩ | rfl | apply And.intro | intro _)) <;> first | omega | (exfalso; omega) | contradiction | (exfalso; simp_all; done) | trace_state)
      · rw [afe, Bool.or_eq_false_iff] at cb
        rw [cb.1] at re
        rw [cb.2] at ib
        have e1 : bi false = 0 := rfl
        rw [e1] at ib
        simp (disch := first | omega | assumption | (simp; done)) only [u_77_0, u_77_1, u_77_2, u_77_5, u_77_5N, u_77_6, u_77_7, u_77_7N, u_77_10, u_77_11, u_77_12, u_77_15, u_77_15N, u_77_19, u_77_20, u_77_21, u_77_22, u_77_23, u_77_26, u_77_29, u_77_30, u_77_33, u_77_34, u_77_35, u_77_36, u_77_37, u_77_42, u_77_43, u_77_44, u_77_47, u_77_50, u_77_51, u_77_54, u_77_56, u_77_58i, u_77_58r, u_77_58n, u_77_59, u_77_62, u_77_63, u_77_64, u_77_65, u_77_66, u_77_69, u_77_70, u_77_73, u_77_76, true_or, or_true, zk_li1_s, zk_ll1_s, zk_la1_r, zk_la1_n, zk_lg0, zk_lgs, zk_co_n, zk_co_i, zk_co_r, zk_co_u, zk_co_l, zk_l1_0, zk_l1_1, zk_l1_s, zk_l2_0, zk_l2_1, zk_l2_s, zk_sm0, zk_smi, zk_smr, zk_smn, zk_sml, zk_fi, zk_fz, zk_fo, zk_fn, zk_fa, zk_ts, zk_tn, zk_cases, true_and, and_true, List.getElem?_cons_zero, List.getElem?_cons_succ, List.length_cons, List.length_nil, Nat.reduceAdd, Nat.reduceLT, Nat.reduceLeDiff, List.set_cons_zero, List.set_cons_succ, va_rf, xi_tk hB, xg_tk_0 hB, xg_tk_1 hB, xg_tk_2 hB, xg_tk_3 hB, xg_tk_4 hB, xg_tk_5 hB, xg_tk_6 hB, xp_tk_6 hB, xg_tk_7 hB, xp_tk_7 hB, xg_tk_8 hB, xp_tk_8 hB, xg_tk_9 hB, xp_tk_9 hB, xi_jo hB, xg_jo_0 hB, xg_jo_1 hB, xg_jo_2 hB, xg_jo_3 hB, xp_jo_3 hB, xg_jo_4 hB, xp_jo_4 hB, xg_jo_5 hB, xp_jo_5 hB, xg_jo_6 hB, xp_jo_6 hB, xg_jo_7 hB, xp_jo_7 hB, xg_jo_8 hB, xp_jo_8 hB, iz_lit, iz_neg, iz_inj, iz_lt, bi_0, ja, jo, re, e61, ib, bc]
        all_goals ((repeat' (first | exact trivial | exact ⟨rfl, rfl⟩ | rfl | apply And.intro | intro _)) <;> first | omega | (exfalso; omega) | contradiction | (exfalso; simp_all; done) | trace_state)
      · rw [afe, Bool.or_eq_false_iff] at cb
        rw [cb.1] at re
        rw [cb.2] at ib
        have e1 : bi false = 0 := rfl
        rw [e1] at ib
        have p12 : 2 ^ o.toNat < 4096 := Nat.pow_lt_pow_right (a := 2) (n := 12) (by decide) (by omega)
        have xl : (awO m j ||| 2 ^ o.toNat) < 4096 := Nat.or_lt_two_pow (n := 12) al p12
        have zo := z_or al p12
        have sh := z_shl (i := o) (by omega)
        have pa := pop_add (awO m j) al o.toNat (by omega) cb.2
        have bp2 := bc32_pop (awO m j ||| 2 ^ o.toNat) xl
        rw [pa, show ((popA (awO m j) 12 + 1 : Nat) : Int) = ((popA (awO m j) 12 : Nat) : Int) + 1 by omega, pc] at bp2
        have bc2 := c_bc32 G (hx G B (m 1 0) (m 10 0) ad (up s 61 j ((awO m j ||| 2 ^ o.toNat : Nat) : Int))) (iz ((awO m j ||| 2 ^ o.toNat : Nat) : Int))
        rw [bp2] at bc2
        have RA : REL (up s 61 j ((awO m j ||| 2 ^ o.toNat : Nat) : Int)) (up (up m 27 (3 * j + m 26 j) o) 26 j (m 26 j + 1)) := by
          refine REL_aw hR (by omega) (fun k z a b => by rw [up_k _ _ _ _ a, up_k _ _ _ _ b]) (fun j' a b => ?_)
          rw [awO_up hO (by omega) c3 j' (by omega)]
          split <;> rfl
        refine CC_u hB RA (by rw [up_k _ _ _ _ (by decide), up_k _ _ _ _ (by decide)]) (by rw [up_k _ _ _ _ (by decide), up_k _ _ _ _ (by decide)]) (cs_u _ _ _ _ (by decide)) (fun Q => zk_eq ?_ Q)
        clear RA bp bp2 pa
        simp (disch := first | omega | assumption | (simp; done)) only [u_77_0, u_77_1, u_77_2, u_77_5, u_77_5N, u_77_6, u_77_7, u_77_7N, u_77_10, u_77_11, u_77_12, u_77_15, u_77_15N, u_77_19, u_77_20, u_77_21, u_77_22, u_77_23, u_77_26, u_77_29, u_77_30, u_77_33, u_77_34, u_77_35, u_77_36, u_77_37, u_77_42, u_77_43, u_77_44, u_77_47, u_77_50, u_77_51, u_77_56, u_77_57, u_77_58i, u_77_58r, u_77_58n, u_77_59, u_77_62, u_77_63, u_77_64, u_77_65, u_77_66, u_77_69, u_77_70, u_77_73, u_77_76, true_or, or_true, zk_li1_s, zk_ll1_s, zk_la1_r, zk_la1_n, zk_lg0, zk_lgs, zk_co_n, zk_co_i, zk_co_r, zk_co_u, zk_co_l, zk_l1_0, zk_l1_1, zk_l1_s, zk_l2_0, zk_l2_1, zk_l2_s, zk_sm0, zk_smi, zk_smr, zk_smn, zk_sml, zk_fi, zk_fz, zk_fo, zk_fn, zk_fa, zk_ts, zk_tn, zk_cases, true_and, and_true, List.getElem?_cons_zero, List.getElem?_cons_succ, List.length_cons, List.length_nil, Nat.reduceAdd, Nat.reduceLT, Nat.reduceLeDiff, List.set_cons_zero, List.set_cons_succ, va_rf, xi_tk hB, xg_tk_0 hB, xg_tk_1 hB, xg_tk_2 hB, xg_tk_3 hB, xg_tk_4 hB, xg_tk_5 hB, xg_tk_6 hB, xp_tk_6 hB, xg_tk_7 hB, xp_tk_7 hB, xg_tk_8 hB, xp_tk_8 hB, xg_tk_9 hB, xp_tk_9 hB, xi_jo hB, xg_jo_0 hB, xg_jo_1 hB, xg_jo_2 hB, xg_jo_3 hB, xp_jo_3 hB, xg_jo_4 hB, xp_jo_4 hB, xg_jo_5 hB, xp_jo_5 hB, xg_jo_6 hB, xp_jo_6 hB, xg_jo_7 hB, xp_jo_7 hB, xg_jo_8 hB, xp_jo_8 hB, iz_lit, iz_neg, iz_inj, iz_lt, bi_0, ja, jo, re, e61, ib, bc, sh, zo, up_e, bc2]
        all_goals ((repeat' (first | exact trivial | exact ⟨rfl, rfl⟩ | rfl | apply And.intro | intro _)) <;> first | omega | (exfalso; omega) | contradiction | (exfalso; simp_all; done) | trace_state)
    · have jo := c_jobAt0 hB hc o ho c2
      refine ⟨fun _ => CC_q hB hR (fun Q => zk_eq ?_ Q), fun c => absurd c.2 c2, fun c => absurd c.2 c2, fun c => absurd c.2 c2⟩
      simp (disch := first | omega | assumption | (simp; done)) only [u_77_0, u_77_1, u_77_2, u_77_5, u_77_5N, u_77_6, u_77_7, u_77_7N, u_77_10, u_77_11, u_77_12, u_77_15, u_77_15N, u_77_18, u_77_19, u_77_21, u_77_22, u_77_23, u_77_26, u_77_29, u_77_30, u_77_33, u_77_34, u_77_35, u_77_36, u_77_37, u_77_40, u_77_42, u_77_43, u_77_44, u_77_47, u_77_50, u_77_51, u_77_54, u_77_56, u_77_57, u_77_58i, u_77_58r, u_77_58n, u_77_59, u_77_62, u_77_63, u_77_64, u_77_65, u_77_66, u_77_69, u_77_70, u_77_73, u_77_76, true_or, or_true, zk_li1_s, zk_ll1_s, zk_la1_r, zk_la1_n, zk_lg0, zk_lgs, zk_co_n, zk_co_i, zk_co_r, zk_co_u, zk_co_l, zk_l1_0, zk_l1_1, zk_l1_s, zk_l2_0, zk_l2_1, zk_l2_s, zk_sm0, zk_smi, zk_smr, zk_smn, zk_sml, zk_fi, zk_fz, zk_fo, zk_fn, zk_fa, zk_ts, zk_tn, zk_cases, true_and, and_true, List.getElem?_cons_zero, List.getElem?_cons_succ, List.length_cons, List.length_nil, Nat.reduceAdd, Nat.reduceLT, Nat.reduceLeDiff, List.set_cons_zero, List.set_cons_succ, va_rf, xi_tk hB, iz_lit, iz_neg, ja, jo]
      all_goals ((repeat' (first | exact trivial | exact ⟨rfl, rfl⟩ | rfl | apply And.intro | intro _)) <;> first | omega | (exfalso; omega) | contradiction | (exfalso; simp_all; done) | trace_state)
  · have ja := c_jobAt0 hB hc j hj c1
    refine ⟨fun _ => CC_q hB hR (fun Q => zk_eq ?_ Q), fun c => absurd c.1 c1, fun c => absurd c.1 c1, fun c => absurd c.1 c1⟩
    simp (disch := first | omega | assumption | (simp; done)) only [u_77_0, u_77_1, u_77_2, u_77_5, u_77_5N, u_77_6, u_77_7, u_77_7N, u_77_11, u_77_12, u_77_15, u_77_15N, u_77_18, u_77_19, u_77_21, u_77_22, u_77_23, u_77_26, u_77_29, u_77_30, u_77_33, u_77_34, u_77_35, u_77_36, u_77_37, u_77_40, u_77_42, u_77_43, u_77_44, u_77_47, u_77_50, u_77_51, u_77_54, u_77_56, u_77_57, u_77_58i, u_77_58r, u_77_58n, u_77_59, u_77_62, u_77_63, u_77_64, u_77_65, u_77_66, u_77_69, u_77_70, u_77_73, u_77_76, true_or, or_true, zk_li1_s, zk_ll1_s, zk_la1_r, zk_la1_n, zk_lg0, zk_lgs, zk_co_n, zk_co_i, zk_co_r, zk_co_u, zk_co_l, zk_l1_0, zk_l1_1, zk_l1_s, zk_l2_0, zk_l2_1, zk_l2_s, zk_sm0, zk_smi, zk_smr, zk_smn, zk_sml, zk_fi, zk_fz, zk_fo, zk_fn, zk_fa, zk_ts, zk_tn, zk_cases, true_and, and_true, List.getElem?_cons_zero, List.getElem?_cons_succ, List.length_cons, List.length_nil, Nat.reduceAdd, Nat.reduceLT, Nat.reduceLeDiff, List.set_cons_zero, List.set_cons_succ, va_rf, xi_tk hB, iz_lit, iz_neg, ja]
    all_goals ((repeat' (first | exact trivial | exact ⟨rfl, rfl⟩ | rfl | apply And.intro | intro _)) <;> first | omega | (exfalso; omega) | contradiction | (exfalso; simp_all; done) | trace_state)
end AFT
