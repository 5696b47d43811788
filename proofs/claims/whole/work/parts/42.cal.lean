/-! months and days -/
theorem st4_step : ∀ m, m < 47 → 28 ≤ st4 (m + 1) - st4 m ∧ st4 (m + 1) - st4 m ≤ 31 := by
  have : (List.range 47).all (fun m => decide (28 ≤ st4 (m + 1) - st4 m) && decide (st4 (m + 1) - st4 m ≤ 31)) = true := by decide +kernel
  intro m hm
  have h1 := List.all_eq_true.mp this m (List.mem_range.mpr hm)
  simpa using h1
theorem st4_0 : st4 0 = 0 := rfl
theorem st4_47 : st4 47 = 1430 := rfl
theorem stOf_len (m : Int) : 28 ≤ stOf (m + 1) - stOf m ∧ stOf (m + 1) - stOf m ≤ 31 := by
  unfold stOf
  by_cases c : m % 48 = 47
  · have e1 : (m + 1) / 48 = m / 48 + 1 := by omega
    have e2 : (m + 1) % 48 = 0 := by omega
    rw [e1, e2, c]
    show 28 ≤ 1461 * (m / 48 + 1) + st4 0 - (1461 * (m / 48) + st4 47) ∧ _
    have := st4_47
    have := st4_0
    constructor
    · omega
    · show 1461 * (m / 48 + 1) + st4 0 - (1461 * (m / 48) + st4 47) ≤ 31
      omega
  · have e1 : (m + 1) / 48 = m / 48 := by omega
    have e2 : ((m + 1) % 48).toNat = (m % 48).toNat + 1 := by omega
    rw [e1, e2]
    have := st4_step (m % 48).toNat (by omega)
    omega
theorem stOf_48 (m : Int) (k : Int) : stOf (m + 48 * k) = stOf m + 1461 * k := by
  unfold stOf
  have e1 : (m + 48 * k) / 48 = m / 48 + k := by omega
  have e2 : (m + 48 * k) % 48 = m % 48 := by omega
  rw [e1, e2]
  omega
theorem stOf_add (m : Int) : ∀ n : Nat, stOf m + 28 * n ≤ stOf (m + n) := by
  intro n
  induction n with
  | zero => simp
  | succ n ih =>
    have := stOf_len (m + n)
    have e : m + ((n + 1 : Nat) : Int) = m + n + 1 := by omega
    rw [e]
    omega
theorem stOf_lt {m m' : Int} (h : m < m') : stOf (m + 1) ≤ stOf m' := by
  have := stOf_add (m + 1) (m' - (m + 1)).toNat
  have e : m + 1 + (((m' - (m + 1)).toNat : Nat) : Int) = m' := by omega
  rw [e] at this
  omega
theorem moOf_sp (d : Int) : stOf (moOf d) ≤ d ∧ d < stOf (moOf d + 1) := by
  obtain ⟨r, hr, hr2⟩ : ∃ r : Nat, d % 1461 = (r : Int) ∧ r < 1461 := ⟨(d % 1461).toNat, by omega, by omega⟩
  obtain ⟨p1, p2, p3, p4⟩ := mo4_ok r hr2
  have hmo : moOf d = 48 * (d / 1461) + mo4 r := by unfold moOf; rw [hr]; rfl
  have e1 : moOf d / 48 = d / 1461 := by omega
  have e2 : (moOf d % 48).toNat = mo4 r := by omega
  have hd : d = 1461 * (d / 1461) + r := by omega
  constructor
  · unfold stOf
    rw [e1, e2]
    omega
  · by_cases c : mo4 r = 47
    · have e3 : (moOf d + 1) / 48 = d / 1461 + 1 := by omega
      have e4 : ((moOf d + 1) % 48).toNat = 0 := by omega
      unfold stOf
      rw [e3, e4, st4_0]
      omega
    · have e3 : (moOf d + 1) / 48 = d / 1461 := by omega
      have e4 : ((moOf d + 1) % 48).toNat = mo4 r + 1 := by omega
      unfold stOf
      rw [e3, e4]
      have := (p4 (mo4 r) (by omega))
      omega
theorem moOf_eq {d m : Int} (h1 : stOf m ≤ d) (h2 : d < stOf (m + 1)) : moOf d = m := by
  obtain ⟨a, b⟩ := moOf_sp d
  rcases Int.lt_or_le (moOf d) m with q | q
  · have := stOf_lt q; omega
  · rcases Int.lt_or_le m (moOf d) with q2 | q2
    · have := stOf_lt q2; omega
    · omega
theorem moOf_r {d : Int} (h : -2000 ≤ d ∧ d ≤ 30000) : -100 ≤ moOf d ∧ moOf d ≤ 1100 := by
  have hr := mo4_ok (d % 1461).toNat (by omega)
  unfold moOf
  omega
theorem stOf_r {m : Int} (h : -200 ≤ m ∧ m ≤ 2000) : -7500 ≤ stOf m ∧ stOf m ≤ 70000 := by
  have := st4_ok (m % 48).toNat (by omega)
  unfold stOf
  omega
/-- a day FITS -/
def fitD (ms : Nat → Nat) (nw nn : List Int) (d : Int) : Bool := fbit ms nw nn (moOf d) (stOf (moOf d)) (stOf (moOf d + 1) - stOf (moOf d)) (d - stOf (moOf d) + 1).toNat
def onS (ms : Nat → Nat) (nw nn hs : List Int) (way d : Int) : Bool := fitD ms nw nn d && (decide (way = 0) || !decide (d ∈ hs))
theorem fitD_in {ms : Nat → Nat} {nw nn : List Int} {m d : Int} (h1 : stOf m ≤ d) (h2 : d < stOf (m + 1)) : fitD ms nw nn d = fbit ms nw nn m (stOf m) (stOf (m + 1) - stOf m) (d - stOf m + 1).toNat := by
  unfold fitD
  rw [moOf_eq h1 h2]
theorem hb_bit (st : Int) : ∀ (hs : List Int) (acc i : Nat), (hs.foldl (hbF st) acc).testBit i = (acc.testBit i || hs.any (fun x => decide (0 ≤ x - st ∧ x - st < 31 ∧ (i : Int) = x - st + 1))) := by
  intro hs
  induction hs with
  | nil => intro acc i; simp
  | cons x hs ih =>
    intro acc i
    rw [List.foldl_cons, ih, List.any_cons, ← Bool.or_assoc]
    congr 1
    unfold hbF
    split
    next c =>
      rw [Nat.testBit_or, Nat.testBit_two_pow]
      congr 1
      congr 1
      apply propext
      omega
    next c =>
      have : decide (0 ≤ x - st ∧ x - st < 31 ∧ (i : Int) = x - st + 1) = false := by simp; omega
      rw [this, Bool.or_false]
theorem hbits_bit (hs : List Int) (st : Int) (i : Nat) (h1 : 1 ≤ i) (h2 : i ≤ 31) : (hbits hs st).testBit i = decide ((st + i - 1) ∈ hs) := by
  unfold hbits
  rw [hb_bit]
  simp only [Nat.zero_testBit, Bool.false_or]
  rw [Bool.eq_iff_iff]
  simp only [List.any_eq_true, decide_eq_true_eq]
  constructor
  · rintro ⟨x, hx, a, b, c⟩
    have : st + i - 1 = x := by omega
    rw [this]; exact hx
  · intro hx
    exact ⟨_, hx, by omega, by omega, by omega⟩
theorem hbits_lt (hs : List Int) (st : Int) : hbits hs st < 2 ^ 33 := by
  unfold hbits
  have : ∀ (l : List Int) (acc : Nat), acc < 2 ^ 33 → l.foldl (hbF st) acc < 2 ^ 33 := by
    intro l
    induction l with
    | nil => intro acc h; exact h
    | cons x l ih => intro acc h; exact ih _ (hbF_lt h)
  exact this hs 0 (by decide)
theorem w_andn {B C : Nat} (hB : B < 2 ^ 32) (hC : C < 2 ^ 33) : ∃ E : Nat, E < 2 ^ 32 ∧ (∀ i, E.testBit i = (B.testBit i && !C.testBit i)) ∧ lN B &&& (lN C ^^^ (-1)) = lN E := by
  refine ⟨B &&& (2 ^ 64 - (C + 1)), Nat.lt_of_le_of_lt Nat.and_le_left hB, fun i => ?_, ?_⟩
  · rw [Nat.testBit_and, Nat.testBit_two_pow_sub_succ (by omega)]
    rcases Nat.lt_or_ge i 64 with q | q
    · simp [q]
    · rw [Nat.testBit_lt_two_pow (Nat.lt_of_lt_of_le hB (Nat.pow_le_pow_right (by decide) (by omega : 32 ≤ i)))]
      simp
  · have e : lN C ^^^ (-1) = lN (2 ^ 64 - (C + 1)) := by
      apply wb_inj
      rw [Int64.toBitVec_xor, wb_tb, wb_tb]
      apply BitVec.eq_of_getLsbD_eq
      intro i hi
      rw [BitVec.getLsbD_xor, BitVec.getLsbD_ofNat, BitVec.getLsbD_ofNat, Nat.testBit_two_pow_sub_succ (by omega)]
      have e1 : (Int64.toBitVec (-1)).getLsbD i = true := by
        have : ∀ i, i < 64 → (Int64.toBitVec (-1)).getLsbD i = true := by decide +kernel
        exact this i hi
      rw [e1]
      simp [hi]
    rw [e, wb_and (by omega) (by omega)]
