/-! lowest bits -/
def bcF (x0 : Int64) : Int32 :=
  let x1 := x0 - ((x0.toUInt64 >>> ((1 : Int32).toInt64.toUInt64 &&& Int64.toUInt64 63)).toInt64 &&& 6148914691236517205)
  let x2 := (x1 &&& 3689348814741910323) + ((x1.toUInt64 >>> ((2 : Int32).toInt64.toUInt64 &&& Int64.toUInt64 63)).toInt64 &&& 3689348814741910323)
  let x3 := (x2 + (x2.toUInt64 >>> ((4 : Int32).toInt64.toUInt64 &&& Int64.toUInt64 63)).toInt64) &&& 1085102592571150095
  let x4 := x3 + (x3.toUInt64 >>> ((8 : Int32).toInt64.toUInt64 &&& Int64.toUInt64 63)).toInt64
  let x5 := x4 + (x4.toUInt64 >>> ((16 : Int32).toInt64.toUInt64 &&& Int64.toUInt64 63)).toInt64
  let x6 := x5 + (x5.toUInt64 >>> ((32 : Int32).toInt64.toUInt64 &&& Int64.toUInt64 63)).toInt64
  x6.toInt32 &&& 127
theorem c_bc (G : zk_G) (h : zk_H) (x : Int64) (Q : Option Value → zk_H → Prop) : zk_wp G 203 0 [some (.long x), none] [] h Q ↔ Q (some (.int (bcF x))) h := by
  simp only [u_203_0, u_203_1, u_203_2, u_203_3, u_203_4, u_203_7, u_203_8, u_203_9, u_203_10, u_203_11, u_203_14, u_203_15, u_203_16, u_203_17, u_203_18, u_203_21, u_203_22, u_203_23, u_203_24, u_203_25, u_203_26, u_203_27, u_203_28, u_203_29, u_203_32, u_203_33, u_203_34, u_203_35, u_203_36, u_203_38, u_203_39, u_203_40, u_203_41, u_203_42, u_203_43, u_203_45, u_203_46, u_203_47, u_203_48, u_203_49, u_203_50, u_203_52, u_203_53, u_203_54, u_203_55, u_203_56, u_203_57, u_203_59, u_203_60, true_or, or_true, zk_li1_s, zk_ll1_s, zk_la1_r, zk_la1_n, zk_lg0, zk_lgs, zk_co_n, zk_co_i, zk_co_r, zk_co_u, zk_co_l, zk_l1_0, zk_l1_1, zk_l1_s, zk_l2_0, zk_l2_1, zk_l2_s, zk_sm0, zk_smi, zk_smr, zk_smn, zk_sml, zk_fi, zk_fz, zk_fo, zk_fn, zk_fa, zk_ts, zk_tn, zk_cases, true_and, and_true, List.getElem?_cons_zero, List.getElem?_cons_succ, List.length_cons, List.length_nil, Nat.reduceAdd, Nat.reduceLT, Nat.reduceLeDiff, List.set_cons_zero, List.set_cons_succ, va_rf]
  rfl
theorem bc_pow : ∀ k : Nat, k < 64 → bcF (lN (2 ^ k - 1)) = iz k := by decide +kernel
/-- the lowest bit of a number -/
def lowA (n : Nat) : Nat → Nat → Nat
  | 0, i => i
  | f + 1, i => if n.testBit i then i else lowA n f (i + 1)
def low (n : Nat) : Nat := lowA n 64 0
theorem lowA_sp (n : Nat) : ∀ (f i : Nat), (∃ j, i ≤ j ∧ j < i + f ∧ n.testBit j = true) → i ≤ lowA n f i ∧ lowA n f i < i + f ∧ n.testBit (lowA n f i) = true ∧ ∀ j, i ≤ j → j < lowA n f i → n.testBit j = false := by
  intro f
  induction f with
  | zero => rintro i ⟨j, h1, h2, -⟩; omega
  | succ f ih =>
    rintro i ⟨j, h1, h2, h3⟩
    unfold lowA
    by_cases c : n.testBit i = true
    · rw [if_pos c]
      exact ⟨Nat.le_refl _, by omega, c, fun j a b => by omega⟩
    · rw [if_neg c]
      have hji : j ≠ i := by rintro rfl; exact c h3
      obtain ⟨r1, r2, r3, r4⟩ := ih (i + 1) ⟨j, by omega, by omega, h3⟩
      refine ⟨by omega, by omega, r3, fun j a b => ?_⟩
      rcases Nat.lt_or_ge i j with q | q
      · exact r4 j (by omega) b
      · have : j = i := by omega
        subst this
        simpa using c
theorem low_sp {n : Nat} (h0 : n ≠ 0) (h1 : n < 2 ^ 64) : low n < 64 ∧ n.testBit (low n) = true ∧ ∀ j, j < low n → n.testBit j = false := by
  obtain ⟨j, hj⟩ := Nat.exists_testBit_of_ne_zero h0
  have hj64 : j < 64 := by
    rcases Nat.lt_or_ge j 64 with q | q
    · exact q
    · rw [Nat.testBit_lt_two_pow (Nat.lt_of_lt_of_le h1 (Nat.pow_le_pow_right (by decide) q))] at hj
      cases hj
  obtain ⟨r1, r2, r3, r4⟩ := lowA_sp n 64 0 ⟨j, by omega, by omega, hj⟩
  exact ⟨by unfold low; omega, r3, fun j a => r4 j (by omega) a⟩
theorem low_iso {n : Nat} (h0 : n ≠ 0) (h1 : n < 2 ^ 64) : lN n &&& -(lN n) = lN (2 ^ low n) := by
  obtain ⟨r1, r2, r3⟩ := low_sp h0 h1
  apply wb_inj
  rw [Int64.toBitVec_and, Int64.toBitVec_neg, wb_tb, wb_tb]
  apply BitVec.eq_of_getLsbD_eq
  intro i hi
  rw [BitVec.getLsbD_and, BitVec.getLsbD_neg, BitVec.getLsbD_ofNat, BitVec.getLsbD_ofNat]
  simp only [hi, decide_true, Bool.true_and]
  rw [Nat.testBit_two_pow]
  by_cases hil : i = low n
  · subst hil
    have : ¬ ∃ j, j < low n ∧ (BitVec.ofNat 64 n).getLsbD j = true := by
      rintro ⟨j, hj, e⟩
      rw [BitVec.getLsbD_ofNat, r3 j hj] at e
      simp at e
    simp [r2, this]
  · have e1 : decide (low n = i) = false := by simp; omega
    rw [e1]
    by_cases hlt : i < low n
    · simp [r3 i hlt]
    · have : ∃ j, j < i ∧ (BitVec.ofNat 64 n).getLsbD j = true := ⟨low n, by omega, by rw [BitVec.getLsbD_ofNat, r2]; simp [r1]⟩
      simp only [this, decide_true]
      cases n.testBit i <;> rfl
theorem lN_sub1 {n : Nat} (h : 1 ≤ n) : lN n - lN 1 = lN (n - 1) := lN_sub h
theorem low_0 : low 0 = 64 := by decide
theorem bc_all : bcF ((lN 0 &&& -(lN 0)) - lN 1) = iz 64 := by decide +kernel
theorem c_lowest (G : zk_G) (h : zk_H) (n : Nat) (h1 : n < 2 ^ 63) (Q : Option Value → zk_H → Prop) : zk_wp G 31 0 [some (.long (lN n)), none] [] h Q ↔ Q (some (.int (iz (low n)))) h := by
  have t := c_bc G h
  have h2 : n < 2 ^ 64 := by omega
  simp only [u_31_0, u_31_1, u_31_2, u_31_3, u_31_4, u_31_5, u_31_6, u_31_9, true_or, or_true, zk_li1_s, zk_ll1_s, zk_la1_r, zk_la1_n, zk_lg0, zk_lgs, zk_co_n, zk_co_i, zk_co_r, zk_co_u, zk_co_l, zk_l1_0, zk_l1_1, zk_l1_s, zk_l2_0, zk_l2_1, zk_l2_s, zk_sm0, zk_smi, zk_smr, zk_smn, zk_sml, zk_fi, zk_fz, zk_fo, zk_fn, zk_fa, zk_ts, zk_tn, zk_cases, true_and, and_true, List.getElem?_cons_zero, List.getElem?_cons_succ, List.length_cons, List.length_nil, Nat.reduceAdd, Nat.reduceLT, Nat.reduceLeDiff, List.set_cons_zero, List.set_cons_succ, va_rf, t, ljt1]
  by_cases h0 : n = 0
  · subst h0
    rw [bc_all, low_0]
    rfl
  · rw [low_iso h0 h2, lN_sub1 Nat.one_le_two_pow, bc_pow _ (low_sp h0 h2).1]
def nbel (n k : Nat) : Nat := n / 2 ^ k * 2 ^ k
theorem nbel_le (n k : Nat) : nbel n k ≤ n := Nat.div_mul_le_self n _
theorem nbel_bit (n k i : Nat) : (nbel n k).testBit i = (decide (k ≤ i) && n.testBit i) := by
  unfold nbel
  rw [Nat.testBit_mul_two_pow, Nat.testBit_div_two_pow]
  by_cases c : k ≤ i
  · simp [c]
  · simp [c]
theorem c_notBelow (G : zk_G) (h : zk_H) (n : Nat) (k : Int) (hn : n < 2 ^ 63) (hk : 0 ≤ k ∧ k < 64) (Q : Option Value → zk_H → Prop) : zk_wp G 30 0 [some (.long (lN n)), none, some (.int (iz k))] [] h Q ↔ Q (some (.long (lN (nbel n k.toNat)))) h := by
  simp only [u_30_0, u_30_1, u_30_2, u_30_3, u_30_4, u_30_5, true_or, or_true, zk_li1_s, zk_ll1_s, zk_la1_r, zk_la1_n, zk_lg0, zk_lgs, zk_co_n, zk_co_i, zk_co_r, zk_co_u, zk_co_l, zk_l1_0, zk_l1_1, zk_l1_s, zk_l2_0, zk_l2_1, zk_l2_s, zk_sm0, zk_smi, zk_smr, zk_smn, zk_sml, zk_fi, zk_fz, zk_fo, zk_fn, zk_fa, zk_ts, zk_tn, zk_cases, true_and, and_true, List.getElem?_cons_zero, List.getElem?_cons_succ, List.length_cons, List.length_nil, Nat.reduceAdd, Nat.reduceLT, Nat.reduceLeDiff, List.set_cons_zero, List.set_cons_succ, va_rf, wz_ushr (show n < 2 ^ 64 by omega) hk, wz_shl _ hk]
  rfl
