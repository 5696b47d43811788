/-! the days of a month that FIT, as bits -/
theorem zk_some {G : zk_G} {h : zk_H} {y pc : Nat} {L : zk_L} {st : List Value} {Q0 : Option Value → zk_H → Prop} (hw : zk_wp G y pc L st h Q0) : ∃ r0 h0, Q0 r0 h0 ∧ ∀ Q : Option Value → zk_H → Prop, zk_wp G y pc L st h Q ↔ Q r0 h0 := by
  obtain ⟨n, r, h', e, q⟩ := hw
  exact ⟨r, h', q, zk_eq ⟨n, r, h', e, rfl, rfl⟩⟩
theorem us_bit {n : Nat} {e : Int} (hn : n < 2 ^ 63) (he : 0 ≤ e ∧ e < 64) : ((lN n).toUInt64 >>> ((iz e).toInt64.toUInt64 &&& Int64.toUInt64 63)).toInt64 &&& lN 1 = lN (n / 2 ^ e.toNat % 2) := by
  rw [wz_ushr (by omega) he]
  exact wb_a1 (Nat.lt_of_le_of_lt (Nat.div_le_self _ _) (by omega))
theorem ev7 : ∀ j, (541098242 : Nat).testBit j = decide (j % 7 = 1 ∧ j ≤ 29) := by
  intro j
  rcases Nat.lt_or_ge j 30 with q | q
  · have : ∀ j, j < 30 → (541098242 : Nat).testBit j = decide (j % 7 = 1 ∧ j ≤ 29) := by decide +kernel
    exact this j q
  · rw [Nat.testBit_lt_two_pow (Nat.lt_of_lt_of_le (by decide : (541098242 : Nat) < 2 ^ 30) (Nat.pow_le_pow_right (by decide) q))]
    simp
    omega
def nthd (w n st len : Int) : Int := (w + 7 - (st + 5) % 7) % 7 + 1 + 7 * ((if n = 6 then (if (w + 7 - (st + 5) % 7) % 7 + 1 + 28 ≤ len then 5 else 4) else n) - 1)
def fday (ms : Nat → Nat) (nw nn : List Int) (st len : Int) (i : Nat) : Bool := ((ms 2).testBit i && (ms 4).testBit (((st + i - 1 + 5) % 7).toNat)) || (List.range nw.length).any (fun k => decide ((i : Int) = nthd (gz nw k) (gz nn k) st len))
def fbit (ms : Nat → Nat) (nw nn : List Int) (mi st len : Int) (i : Nat) : Bool := decide (1 ≤ i) && decide ((i : Int) ≤ len) && (ms 3).testBit (mi % 12 + 1).toNat && fday ms nw nn st len i
def fP1 (ms : Nat → Nat) (fw : Int) (k : Nat) (acc : Nat) : Prop := acc < 2 ^ 40 ∧ ∀ i, i ≤ 31 → acc.testBit i = (decide (1 ≤ i) && decide ((i - 1) % 7 < k) && (ms 4).testBit ((fw + ((i - 1) % 7 : Nat)) % 7).toNat)
def fP2 (ms : Nat → Nat) (nw nn : List Int) (st len : Int) (k : Nat) (acc : Nat) : Prop := acc < 2 ^ 40 ∧ ∀ i, 1 ≤ i → i ≤ 31 → acc.testBit i = (((ms 2).testBit i && (ms 4).testBit (((st + i - 1 + 5) % 7).toNat)) || (List.range k).any (fun j => decide ((i : Int) = nthd (gz nw j) (gz nn j) st len)))
theorem or_40 {a b : Nat} (ha : a < 2 ^ 40) (hb : b < 2 ^ 40) : a ||| b < 2 ^ 40 := Nat.or_lt_two_pow ha hb
theorem nthd_r {w n st len : Int} (hw : 0 ≤ w ∧ w ≤ 6) (hn : 1 ≤ n ∧ n ≤ 6) : 1 ≤ nthd w n st len ∧ nthd w n st len ≤ 35 := by
  unfold nthd
  split
  · split <;> omega
  · omega
theorem fP1_step {ms : Nat → Nat} {fw : Int} {k acc : Nat} (hk : k < 7) (hf : 0 ≤ fw ∧ fw < 7) (hp : fP1 ms fw k acc) : ((ms 4).testBit ((fw + k) % 7).toNat = false → fP1 ms fw (k + 1) acc) ∧ ((ms 4).testBit ((fw + k) % 7).toNat = true → fP1 ms fw (k + 1) (acc ||| 541098242 * 2 ^ k)) := by
  obtain ⟨h1, h2⟩ := hp
  refine ⟨fun c => ⟨h1, fun i hi => ?_⟩, fun c => ⟨or_40 h1 ?_, fun i hi => ?_⟩⟩
  · rw [h2 i hi]
    by_cases e : (i - 1) % 7 = k
    · rw [e, c]; simp
    · have : decide ((i - 1) % 7 < k) = decide ((i - 1) % 7 < k + 1) := by congr 1; apply propext; omega
      rw [this]
  · have : 2 ^ k ≤ 2 ^ 6 := Nat.pow_le_pow_right (by decide) (by omega)
    have : 541098242 * 2 ^ k ≤ 541098242 * 2 ^ 6 := Nat.mul_le_mul_left _ this
    have : (541098242 : Nat) * 2 ^ 6 < 2 ^ 40 := by decide
    omega
  · rw [Nat.testBit_or, h2 i hi, Nat.testBit_mul_two_pow, ev7]
    by_cases i1 : 1 ≤ i
    · by_cases e : (i - 1) % 7 = k
      · have e1 : decide (k ≤ i) = true := by simp; omega
        have e2 : decide ((i - k) % 7 = 1 ∧ i - k ≤ 29) = true := by simp; omega
        rw [e1, e2, e, c]
        simp [i1]
      · have e2 : (decide (k ≤ i) && decide ((i - k) % 7 = 1 ∧ i - k ≤ 29)) = false := by
          simp only [Bool.and_eq_false_iff, decide_eq_false_iff_not]
          omega
        rw [e2, Bool.or_false]
        have : decide ((i - 1) % 7 < k) = decide ((i - 1) % 7 < k + 1) := by congr 1; apply propext; omega
        rw [this]
    · have e0 : i = 0 := by omega
      subst e0
      simp
theorem fP1_end {ms : Nat → Nat} {nw nn : List Int} {st len : Int} {acc : Nat} (h2 : ms 2 < 2 ^ 32) (hp : fP1 ms ((st + 5) % 7) 7 acc) : fP2 ms nw nn st len 0 (acc &&& ms 2) := by
  obtain ⟨h1, h3⟩ := hp
  refine ⟨Nat.lt_of_le_of_lt Nat.and_le_left h1, fun i i1 i2 => ?_⟩
  rw [Nat.testBit_and, h3 i i2]
  have e1 : decide ((i - 1) % 7 < 7) = true := by simp; omega
  have e2 : ((st + 5) % 7 + ((i - 1) % 7 : Nat)) % 7 = (st + i - 1 + 5) % 7 := by omega
  rw [e1, e2]
  simp [i1]
  rw [Bool.and_comm]
theorem fP2_step {ms : Nat → Nat} {nw nn : List Int} {st len : Int} {k acc : Nat} (hr : 1 ≤ nthd (gz nw k) (gz nn k) st len ∧ nthd (gz nw k) (gz nn k) st len ≤ 35) (hp : fP2 ms nw nn st len k acc) : fP2 ms nw nn st len (k + 1) (acc ||| 2 ^ (nthd (gz nw k) (gz nn k) st len).toNat) := by
  obtain ⟨h1, h3⟩ := hp
  refine ⟨or_40 h1 (Nat.pow_lt_pow_right (by decide) (by omega)), fun i i1 i2 => ?_⟩
  rw [Nat.testBit_or, h3 i i1 i2, Nat.testBit_two_pow, List.range_succ, List.any_append]
  have e : decide ((nthd (gz nw k) (gz nn k) st len).toNat = i) = decide ((i : Int) = nthd (gz nw k) (gz nn k) st len) := by congr 1; apply propext; omega
  rw [e]
  simp [Bool.or_assoc]
theorem fP2_end {ms : Nat → Nat} {nw nn : List Int} {mi st len : Int} {acc : Nat} (hl : 28 ≤ len ∧ len ≤ 31) (hm : (ms 3).testBit (mi % 12 + 1).toNat = true) (hm2 : ms 2 < 2 ^ 32) (h0 : (ms 2).testBit 0 = false) (ha : acc.testBit 0 = false) (hp : fP2 ms nw nn st len nw.length acc) : ∀ i, (acc % 2 ^ (len.toNat + 1)).testBit i = fbit ms nw nn mi st len i := by
  intro i
  obtain ⟨h1, h3⟩ := hp
  rw [Nat.testBit_mod_two_pow]
  unfold fbit fday
  rw [hm]
  by_cases i1 : 1 ≤ i
  · by_cases i2 : (i : Int) ≤ len
    · rw [h3 i i1 (by omega)]
      have e1 : decide (i < len.toNat + 1) = true := by simp; omega
      rw [e1]
      simp [i1, i2]
    · have e1 : decide (i < len.toNat + 1) = false := by simp; omega
      rw [e1]
      simp [i2]
  · have e0 : i = 0 := by omega
    subst e0
    rw [ha]
    simp
