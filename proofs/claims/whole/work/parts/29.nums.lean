/-! whole numbers in 32 bits -/
def iz (z : Int) : Int32 := Int32.ofInt z
theorem bm_id {z : Int} (h1 : -2147483648 ≤ z) (h2 : z ≤ 2147483647) : z.bmod (2 ^ 32) = z := by
  unfold Int.bmod
  simp only
  split <;> omega
theorem iz_toInt {z : Int} (h1 : -2147483648 ≤ z) (h2 : z ≤ 2147483647) : (iz z).toInt = z := by
  unfold iz
  rw [Int32.toInt_ofInt]
  exact bm_id h1 h2
theorem i_lo (x : Int32) : -2147483648 ≤ x.toInt := by have := Int32.le_toInt x; simpa using this
theorem i_hi (x : Int32) : x.toInt ≤ 2147483647 := by have := Int32.toInt_lt x; omega
theorem iz_of (x : Int32) : iz x.toInt = x := by
  apply Int32.toInt_inj.mp
  exact iz_toInt (i_lo x) (i_hi x)
theorem iz_eq {x : Int32} {z : Int} (h : x.toInt = z) : x = iz z := by rw [← h, iz_of]
theorem i_add {a b : Int32} (h1 : -2147483648 ≤ a.toInt + b.toInt) (h2 : a.toInt + b.toInt ≤ 2147483647) : (a + b).toInt = a.toInt + b.toInt := by
  rw [Int32.toInt_add]
  exact bm_id h1 h2
theorem i_sub {a b : Int32} (h1 : -2147483648 ≤ a.toInt - b.toInt) (h2 : a.toInt - b.toInt ≤ 2147483647) : (a - b).toInt = a.toInt - b.toInt := by
  rw [Int32.toInt_sub]
  exact bm_id h1 h2
theorem i_mul {a b : Int32} (h1 : -2147483648 ≤ a.toInt * b.toInt) (h2 : a.toInt * b.toInt ≤ 2147483647) : (a * b).toInt = a.toInt * b.toInt := by
  rw [Int32.toInt_mul]
  exact bm_id h1 h2
theorem i_lt {a b : Int32} : a < b ↔ a.toInt < b.toInt := Int32.lt_iff_toInt_lt
theorem i_le {a b : Int32} : a ≤ b ↔ a.toInt ≤ b.toInt := Int32.le_iff_toInt_le
theorem i_eq {a b : Int32} : a = b ↔ a.toInt = b.toInt := Int32.toInt_inj.symm
theorem iz_add (a b : Int) : iz a + iz b = iz (a + b) := by unfold iz; rw [Int32.ofInt_add]
theorem iz_sub (a b : Int) : iz a - iz b = iz (a - b) := by unfold iz; rw [Int32.ofInt_sub]
theorem iz_mul (a b : Int) : iz a * iz b = iz (a * b) := by unfold iz; rw [Int32.ofInt_mul]
theorem iz_lt {a b : Int} (h1 : -2147483648 ≤ a ∧ a ≤ 2147483647) (h2 : -2147483648 ≤ b ∧ b ≤ 2147483647) : iz a < iz b ↔ a < b := by rw [i_lt, iz_toInt h1.1 h1.2, iz_toInt h2.1 h2.2]
theorem iz_le {a b : Int} (h1 : -2147483648 ≤ a ∧ a ≤ 2147483647) (h2 : -2147483648 ≤ b ∧ b ≤ 2147483647) : iz a ≤ iz b ↔ a ≤ b := by rw [i_le, iz_toInt h1.1 h1.2, iz_toInt h2.1 h2.2]
theorem iz_inj {a b : Int} (h1 : -2147483648 ≤ a ∧ a ≤ 2147483647) (h2 : -2147483648 ≤ b ∧ b ≤ 2147483647) : iz a = iz b ↔ a = b := by rw [i_eq, iz_toInt h1.1 h1.2, iz_toInt h2.1 h2.2]
theorem nI_iz (n : Nat) : nI n = iz n := rfl
theorem i_div {a b : Int32} (hb : 0 < b.toInt) : (a / b).toInt = a.toInt.tdiv b.toInt := by
  rw [Int32.toInt_div]
  have h1 := i_lo a
  have h2 := i_hi a
  have h3 : -2147483648 ≤ a.toInt.tdiv b.toInt ∧ a.toInt.tdiv b.toInt ≤ 2147483647 := by
    rcases Int.le_total 0 a.toInt with h0 | h0
    · have e1 := Int.tdiv_nonneg h0 (Int.le_of_lt hb)
      have e2 := Int.tdiv_le_self b.toInt h0
      omega
    · have e0 : a.toInt.tdiv b.toInt = -((-a.toInt).tdiv b.toInt) := by rw [Int.neg_tdiv, Int.neg_neg]
      have e1 := Int.tdiv_nonneg (show 0 ≤ -a.toInt by omega) (Int.le_of_lt hb)
      have e2 := Int.tdiv_le_self b.toInt (show 0 ≤ -a.toInt by omega)
      omega
  exact bm_id h3.1 h3.2
theorem i_rem {a b : Int32} (hb : 0 < b.toInt) : (a - a / b * b).toInt = a.toInt.tmod b.toInt := by
  have hd := i_div (a := a) hb
  have h1 := i_lo a
  have h2 := i_hi a
  have key : a.toInt.tdiv b.toInt * b.toInt = a.toInt - a.toInt.tmod b.toInt := by
    have := Int.tdiv_mul_add_tmod a.toInt b.toInt
    omega
  have hm := tmod_bounds (a := a.toInt) hb
  have hb2 := i_hi b
  have hr : -2147483648 ≤ a.toInt - a.toInt.tmod b.toInt ∧ a.toInt - a.toInt.tmod b.toInt ≤ 2147483647 := by
    rcases Int.le_total 0 a.toInt with h0 | h0
    · have := Int.tmod_nonneg b.toInt h0
      omega
    · have e1 : a.toInt.tmod b.toInt = -((-a.toInt).tmod b.toInt) := by rw [Int.neg_tmod, Int.neg_neg]
      have := Int.tmod_nonneg b.toInt (show 0 ≤ -a.toInt by omega)
      omega
  have e1 : (a / b * b).toInt = a.toInt - a.toInt.tmod b.toInt := by
    rw [i_mul] <;> rw [hd, key]
    · exact hr.1
    · exact hr.2
  rw [i_sub, e1]
  · omega
  · rw [e1]; omega
  · rw [e1]; omega
theorem i_xneg {a b : Int32} (hb : 0 < b.toInt) : 0 ≤ a ^^^ b ↔ 0 ≤ a.toInt := by
  have h0 : (0 : Int32).toInt = 0 := rfl
  rw [i_le, h0]
  have e1 : ∀ x : Int32, 0 ≤ x.toInt ↔ x.toBitVec.msb = false := by
    intro x
    have := BitVec.msb_eq_toInt (x := x.toBitVec)
    rw [this]
    show 0 ≤ x.toBitVec.toInt ↔ _
    simp
  rw [e1, e1]
  have e2 : (a ^^^ b).toBitVec = a.toBitVec ^^^ b.toBitVec := rfl
  rw [e2, BitVec.msb_xor]
  have e3 : b.toBitVec.msb = false := (e1 b).mp (Int.le_of_lt hb)
  rw [e3]
  simp
