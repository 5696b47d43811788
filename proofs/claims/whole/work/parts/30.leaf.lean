/-! leaves: Math, bits -/
theorem lg_neg (a b : Int64) : lg_cmp a b < 0 ↔ a < b := by
  have h := lg_cmp_ge a b
  have e1 : lg_cmp a b < 0 ↔ ¬ 0 ≤ lg_cmp a b := by rw [Int32.not_le]
  rw [e1, h, Int64.not_le]
theorem c_max (G : zk_G) (h : zk_H) (a b : Int32) (Q : Option Value → zk_H → Prop) : zk_wp G 197 0 [some (.int a), some (.int b)] [] h Q ↔ Q (some (.int (if a < b then b else a))) h := by
  refine zk_eq ?_ Q
  simp only [u_197_0, u_197_1, u_197_2, u_197_5, u_197_6, u_197_9, u_197_10, true_or, or_true, zk_li1_s, zk_ll1_s, zk_la1_r, zk_la1_n, zk_lg0, zk_lgs, zk_co_n, zk_co_i, zk_co_r, zk_co_u, zk_co_l, zk_l1_0, zk_l1_1, zk_l1_s, zk_l2_0, zk_l2_1, zk_l2_s, zk_sm0, zk_smi, zk_smr, zk_smn, zk_sml, zk_fi, zk_fz, zk_fo, zk_fn, zk_fa, zk_ts, zk_tn, zk_og, zk_op, zk_ai, zk_aj, zk_az, zk_aa, zk_an, zk_si, zk_sz1, zk_sl1, zk_sa1, zk_cases, true_and, and_true, List.getElem?_cons_zero, List.getElem?_cons_succ, List.length_cons, List.length_nil, Nat.reduceAdd, Nat.reduceLT, Nat.reduceLeDiff, List.set_cons_zero, List.set_cons_succ, va_rf]
  refine ⟨fun c => ?_, fun c => ?_⟩ <;> simp [c]
theorem c_min (G : zk_G) (h : zk_H) (a b : Int32) (Q : Option Value → zk_H → Prop) : zk_wp G 198 0 [some (.int a), some (.int b)] [] h Q ↔ Q (some (.int (if b < a then b else a))) h := by
  refine zk_eq ?_ Q
  simp only [u_198_0, u_198_1, u_198_2, u_198_5, u_198_6, u_198_9, u_198_10, true_or, or_true, zk_li1_s, zk_ll1_s, zk_la1_r, zk_la1_n, zk_lg0, zk_lgs, zk_co_n, zk_co_i, zk_co_r, zk_co_u, zk_co_l, zk_l1_0, zk_l1_1, zk_l1_s, zk_l2_0, zk_l2_1, zk_l2_s, zk_sm0, zk_smi, zk_smr, zk_smn, zk_sml, zk_fi, zk_fz, zk_fo, zk_fn, zk_fa, zk_ts, zk_tn, zk_og, zk_op, zk_ai, zk_aj, zk_az, zk_aa, zk_an, zk_si, zk_sz1, zk_sl1, zk_sa1, zk_cases, true_and, and_true, List.getElem?_cons_zero, List.getElem?_cons_succ, List.length_cons, List.length_nil, Nat.reduceAdd, Nat.reduceLT, Nat.reduceLeDiff, List.set_cons_zero, List.set_cons_succ, va_rf]
  refine ⟨fun c => ?_, fun c => ?_⟩ <;> simp [c]
theorem c_maxl (G : zk_G) (h : zk_H) (a b : Int64) (Q : Option Value → zk_H → Prop) : zk_wp G 200 0 [some (.long a), none, some (.long b), none] [] h Q ↔ Q (some (.long (if a < b then b else a))) h := by
  refine zk_eq ?_ Q
  simp only [u_200_0, u_200_1, u_200_2, u_200_3, u_200_6, u_200_7, u_200_10, u_200_11, true_or, or_true, zk_li1_s, zk_ll1_s, zk_la1_r, zk_la1_n, zk_lg0, zk_lgs, zk_co_n, zk_co_i, zk_co_r, zk_co_u, zk_co_l, zk_l1_0, zk_l1_1, zk_l1_s, zk_l2_0, zk_l2_1, zk_l2_s, zk_sm0, zk_smi, zk_smr, zk_smn, zk_sml, zk_fi, zk_fz, zk_fo, zk_fn, zk_fa, zk_ts, zk_tn, zk_og, zk_op, zk_ai, zk_aj, zk_az, zk_aa, zk_an, zk_si, zk_sz1, zk_sl1, zk_sa1, zk_cases, true_and, and_true, List.getElem?_cons_zero, List.getElem?_cons_succ, List.length_cons, List.length_nil, Nat.reduceAdd, Nat.reduceLT, Nat.reduceLeDiff, List.set_cons_zero, List.set_cons_succ, va_rf, lg_neg]
  refine ⟨fun c => ?_, fun c => ?_⟩ <;> simp [c]
theorem fm_math {a b : Int} (hb : 0 < b) : a % b = (if 0 ≤ a then a.tmod b else if a.tmod b = 0 then a.tmod b else a.tmod b + b) := by
  have h := Int.tmod_eq_emod (a := a) (b := b)
  have hn : (b.natAbs : Int) = b := by omega
  by_cases h0 : 0 ≤ a
  · rw [if_pos h0]; rw [if_pos (Or.inl h0)] at h; omega
  · rw [if_neg h0]
    by_cases hd : b ∣ a
    · rw [if_pos (Or.inr hd)] at h
      have : a % b = 0 := Int.emod_eq_zero_of_dvd hd
      rw [if_pos (by omega)]; omega
    · rw [if_neg (by rintro (q | q) <;> contradiction)] at h
      have : a % b ≠ 0 := fun q => hd (Int.dvd_of_emod_eq_zero q)
      have h2 := Int.emod_lt_of_pos a hb
      rw [if_neg (by omega)]; omega
theorem fd_math {a b : Int} (hb : 0 < b) : a / b = (if 0 ≤ a then a.tdiv b else if a.tdiv b * b = a then a.tdiv b else a.tdiv b - 1) := by
  have h := Int.tdiv_eq_ediv (a := a) (b := b)
  have hs : b.sign = 1 := Int.sign_eq_one_of_pos hb
  by_cases h0 : 0 ≤ a
  · rw [if_pos h0]; rw [if_pos (Or.inl h0)] at h; omega
  · rw [if_neg h0]
    by_cases hd : b ∣ a
    · rw [if_pos (Or.inr hd)] at h
      have h1 : a.tdiv b = a / b := by omega
      rw [h1, if_pos (Int.ediv_mul_cancel hd)]
    · rw [if_neg (by rintro (q | q) <;> contradiction), hs] at h
      have h1 : a.tdiv b = a / b + 1 := by omega
      rw [if_neg]
      · omega
      · intro q
        exact hd ⟨a.tdiv b, by rw [Int.mul_comm]; exact q.symm⟩
theorem c_fmod (G : zk_G) (h : zk_H) (a b : Int32) (hb : 0 < b.toInt) (Q : Option Value → zk_H → Prop) : zk_wp G 199 0 [some (.int a), some (.int b), none] [] h Q ↔ Q (some (.int (iz (a.toInt % b.toInt)))) h := by
  refine zk_eq ?_ Q
  have hne : ¬ b = 0 := by rintro rfl; exact absurd hb (by decide)
  have hr := i_rem (a := a) hb
  have hm := Int.emod_nonneg a.toInt (show b.toInt ≠ 0 by omega)
  have hm2 := Int.emod_lt_of_pos a.toInt hb
  have hb2 := i_hi b
  have hmath := fm_math (a := a.toInt) hb
  have h0 : (0 : Int32).toInt = 0 := rfl
  simp only [u_199_0, u_199_1, u_199_2, u_199_3, u_199_4, u_199_5, u_199_6, u_199_7, u_199_10, u_199_11, u_199_14, u_199_15, u_199_16, u_199_17, u_199_18, u_199_19, true_or, or_true, zk_li1_s, zk_ll1_s, zk_la1_r, zk_la1_n, zk_lg0, zk_lgs, zk_co_n, zk_co_i, zk_co_r, zk_co_u, zk_co_l, zk_l1_0, zk_l1_1, zk_l1_s, zk_l2_0, zk_l2_1, zk_l2_s, zk_sm0, zk_smi, zk_smr, zk_smn, zk_sml, zk_fi, zk_fz, zk_fo, zk_fn, zk_fa, zk_ts, zk_tn, zk_og, zk_op, zk_ai, zk_aj, zk_az, zk_aa, zk_an, zk_si, zk_sz1, zk_sl1, zk_sa1, zk_cases, true_and, and_true, List.getElem?_cons_zero, List.getElem?_cons_succ, List.length_cons, List.length_nil, Nat.reduceAdd, Nat.reduceLT, Nat.reduceLeDiff, List.set_cons_zero, List.set_cons_succ, va_rf, hne, not_false_eq_true]
  generalize hq : a - a / b * b = q at *
  have hb3 := tmod_bounds (a := a.toInt) hb
  refine ⟨fun c => ?_, fun c => ⟨fun d => ?_, fun d => ?_⟩⟩
  · rw [i_xneg hb] at c
    rw [if_pos c] at hmath
    rw [iz_eq (hr.trans hmath.symm)]
  · rw [i_xneg hb] at c
    have d2 : a.toInt.tmod b.toInt = 0 := by rw [← hr, d]; rfl
    rw [if_neg c, if_pos d2] at hmath
    rw [iz_eq (hr.trans hmath.symm)]
  · rw [i_xneg hb] at c
    have d2 : ¬ a.toInt.tmod b.toInt = 0 := fun z => d (i_eq.mpr (hr.trans z))
    rw [if_neg c, if_neg d2] at hmath
    have e1 : (q + b).toInt = a.toInt % b.toInt := by
      rw [i_add] <;> omega
    rw [iz_eq e1]
theorem c_fdiv (G : zk_G) (h : zk_H) (a b : Int32) (hb : 0 < b.toInt) (Q : Option Value → zk_H → Prop) : zk_wp G 201 0 [some (.int a), some (.int b), none] [] h Q ↔ Q (some (.int (iz (a.toInt / b.toInt)))) h := by
  refine zk_eq ?_ Q
  have hne : ¬ b = 0 := by rintro rfl; exact absurd hb (by decide)
  have hd := i_div (a := a) hb
  have hmath := fd_math (a := a.toInt) hb
  have hr := i_rem (a := a) hb
  have hrm := tmod_bounds (a := a.toInt) hb
  have hb2 := i_hi b
  have h1 := i_lo a
  have h2 := i_hi a
  have hml : (a / b * b).toInt = a.toInt.tdiv b.toInt * b.toInt := by
    have key : a.toInt.tdiv b.toInt * b.toInt = a.toInt - a.toInt.tmod b.toInt := by
      have := Int.tdiv_mul_add_tmod a.toInt b.toInt
      omega
    have hq : -2147483648 ≤ a.toInt - a.toInt.tmod b.toInt ∧ a.toInt - a.toInt.tmod b.toInt ≤ 2147483647 := by
      rcases Int.le_total 0 a.toInt with h0 | h0
      · have := Int.tmod_nonneg b.toInt h0
        omega
      · have e1 : a.toInt.tmod b.toInt = -((-a.toInt).tmod b.toInt) := by rw [Int.neg_tmod, Int.neg_neg]
        have := Int.tmod_nonneg b.toInt (show 0 ≤ -a.toInt by omega)
        omega
    rw [i_mul] <;> rw [hd, key]
    · exact hq.1
    · exact hq.2
  have hge : -2147483648 < a.toInt.tdiv b.toInt ∨ a.toInt.tdiv b.toInt * b.toInt = a.toInt := by
    rcases Int.lt_or_le (-2147483648) (a.toInt.tdiv b.toInt) with q | q
    · exact Or.inl q
    · right
      have e0 := i_lo (a / b)
      rw [hd] at e0
      have e1 : a.toInt.tdiv b.toInt = -2147483648 := by omega
      have e2 := hml
      rw [e1] at e2
      have e3 := i_lo (a / b * b)
      rw [e2] at e3
      have e4 : b.toInt = 1 := by omega
      rw [e4, Int.tdiv_one, Int.mul_one]
  simp only [u_201_0, u_201_1, u_201_2, u_201_3, u_201_4, u_201_5, u_201_6, u_201_7, u_201_10, u_201_11, u_201_12, u_201_13, u_201_14, u_201_17, u_201_18, u_201_19, u_201_20, u_201_21, u_201_22, true_or, or_true, zk_li1_s, zk_ll1_s, zk_la1_r, zk_la1_n, zk_lg0, zk_lgs, zk_co_n, zk_co_i, zk_co_r, zk_co_u, zk_co_l, zk_l1_0, zk_l1_1, zk_l1_s, zk_l2_0, zk_l2_1, zk_l2_s, zk_sm0, zk_smi, zk_smr, zk_smn, zk_sml, zk_fi, zk_fz, zk_fo, zk_fn, zk_fa, zk_ts, zk_tn, zk_og, zk_op, zk_ai, zk_aj, zk_az, zk_aa, zk_an, zk_si, zk_sz1, zk_sl1, zk_sa1, zk_cases, true_and, and_true, List.getElem?_cons_zero, List.getElem?_cons_succ, List.length_cons, List.length_nil, Nat.reduceAdd, Nat.reduceLT, Nat.reduceLeDiff, List.set_cons_zero, List.set_cons_succ, va_rf, hne, not_false_eq_true]
  generalize hq : a / b = q at *
  refine ⟨fun c => ?_, fun c => ⟨fun d => ?_, fun d => ?_⟩⟩
  · rw [i_xneg hb] at c
    rw [if_pos c] at hmath
    rw [iz_eq (hd.trans hmath.symm)]
  · rw [i_xneg hb] at c
    have d2 : a.toInt.tdiv b.toInt * b.toInt = a.toInt := by rw [← hml, d]
    rw [if_neg c, if_pos d2] at hmath
    rw [iz_eq (hd.trans hmath.symm)]
  · rw [i_xneg hb] at c
    have d2 : ¬ a.toInt.tdiv b.toInt * b.toInt = a.toInt := fun z => d (i_eq.mpr (hml.trans z))
    rw [if_neg c, if_neg d2] at hmath
    have h01 : (1 : Int32).toInt = 1 := rfl
    have e1 : (q - 1).toInt = a.toInt / b.toInt := by
      rcases hge with z | z
      · have := i_hi q
        rw [i_sub] <;> rw [h01] <;> omega
      · exact absurd z d2
    have e2 : q + -1 = q - 1 := by
      apply Int32.toInt_inj.mp
      rw [Int32.toInt_add, Int32.toInt_sub]
      rfl
    first | rw [iz_eq e1] | (rw [e2, iz_eq e1])
theorem iz_lit (n : Nat) : (OfNat.ofNat n : Int32) = iz (OfNat.ofNat n : Int) := by
  show Int32.ofNat n = Int32.ofInt (n : Int)
  rfl
theorem c_fmk (G : zk_G) (k : Int) (hk : 0 < k ∧ k ≤ 2147483647) (h : zk_H) (z : Int) (hz : -2147483648 ≤ z ∧ z ≤ 2147483647) (Q : Option Value → zk_H → Prop) : zk_wp G 199 0 [some (.int (iz z)), some (.int (iz k)), none] [] h Q ↔ Q (some (.int (iz (z % k)))) h := by
  have e1 : (iz k).toInt = k := iz_toInt (by omega) (by omega)
  have e2 : (iz z).toInt = z := iz_toInt (by omega) (by omega)
  have := c_fmod G h (iz z) (iz k) (by omega) Q
  rw [e1, e2] at this
  exact this
theorem c_fdk (G : zk_G) (k : Int) (hk : 0 < k ∧ k ≤ 2147483647) (h : zk_H) (z : Int) (hz : -2147483648 ≤ z ∧ z ≤ 2147483647) (Q : Option Value → zk_H → Prop) : zk_wp G 201 0 [some (.int (iz z)), some (.int (iz k)), none] [] h Q ↔ Q (some (.int (iz (z / k)))) h := by
  have e1 : (iz k).toInt = k := iz_toInt (by omega) (by omega)
  have e2 : (iz z).toInt = z := iz_toInt (by omega) (by omega)
  have := c_fdiv G h (iz z) (iz k) (by omega) Q
  rw [e1, e2] at this
  exact this
theorem iz_div {a b : Int} (ha : 0 ≤ a ∧ a ≤ 2147483647) (hb : 0 < b ∧ b ≤ 2147483647) : iz a / iz b = iz (a / b) := by
  apply iz_eq
  have e1 : (iz b).toInt = b := iz_toInt (by omega) (by omega)
  have e2 : (iz a).toInt = a := iz_toInt (by omega) (by omega)
  rw [i_div (by omega), e1, e2, Int.tdiv_eq_ediv_of_nonneg ha.1]
