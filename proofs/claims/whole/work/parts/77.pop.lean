/-! counting bits -/
def popA (n : Nat) : Nat → Nat
  | 0 => 0
  | k + 1 => popA n k + n / 2 ^ k % 2
theorem popA_add (n a : Nat) : ∀ b, popA n (a + b) = popA n a + popA (n / 2 ^ a) b := by
  intro b
  induction b with
  | zero => rfl
  | succ b ih =>
    show popA n (a + b) + n / 2 ^ (a + b) % 2 = popA n a + (popA (n / 2 ^ a) b + n / 2 ^ a / 2 ^ b % 2)
    rw [ih, Nat.div_div_eq_div_mul, ← Nat.pow_add]
    omega
theorem popA_8 (n : Nat) : popA n 8 = popA (n % 256) 8 := by
  unfold popA popA popA popA popA popA popA popA popA
  simp only [Nat.reducePow]
  omega
theorem popA_le (n : Nat) : ∀ k, popA n k ≤ k := by
  intro k
  induction k with
  | zero => exact Nat.le_refl _
  | succ k ih => unfold popA; have := Nat.mod_lt (n / 2 ^ k) (show 0 < 2 by decide); omega
def bsn : List Nat → Nat
  | [] => 0
  | a :: l => a + 256 * bsn l
theorem and_b {a c q d : Nat} (ha : a < 256) (hc : c < 256) : (a + 256 * q) &&& (c + 256 * d) = (a &&& c) + 256 * (q &&& d) := by
  have h1 : ((a + 256 * q) &&& (c + 256 * d)) % 2 ^ 8 = ((a + 256 * q) % 2 ^ 8) &&& ((c + 256 * d) % 2 ^ 8) := Nat.and_mod_two_pow
  have h2 : ((a + 256 * q) &&& (c + 256 * d)) / 2 ^ 8 = ((a + 256 * q) / 2 ^ 8) &&& ((c + 256 * d) / 2 ^ 8) := Nat.and_div_two_pow
  rw [show (a + 256 * q) % 2 ^ 8 = a by omega, show (c + 256 * d) % 2 ^ 8 = c by omega] at h1
  rw [show (a + 256 * q) / 2 ^ 8 = q by omega, show (c + 256 * d) / 2 ^ 8 = d by omega] at h2
  rw [← h1, ← h2]
  omega
def f1 (a : Nat) : Nat := a - (a / 2 &&& 85)
def f2 (a : Nat) : Nat := (a &&& 51) + (a / 4 &&& 51)
def f3 (a : Nat) : Nat := (a + a / 16) &&& 15
theorem b_1 : ∀ a, a < 256 → (a / 2 &&& 85 ≤ a ∧ f1 a < 256) ∧ ∀ r, r < 2 → (a / 2 + 128 * r) &&& 85 = a / 2 &&& 85 := by decide +kernel
theorem b_2 : ∀ a, a < 256 → f2 a < 256 ∧ ∀ r, r < 4 → (a / 4 + 64 * r) &&& 51 = a / 4 &&& 51 := by decide +kernel
theorem b_3 : ∀ a, a < 256 → f2 (f1 a) ≤ 68 ∧ f2 (f1 a) % 16 ≤ 4 ∧ f3 (f2 (f1 a)) = popA a 8 := by decide +kernel
theorem b_4 : ∀ a, a < 69 → ∀ r, r < 5 → (a + a / 16 + 16 * r) &&& 15 = f3 a := by decide +kernel
def mmn (m : Nat) : Nat → Nat
  | 0 => 0
  | k + 1 => m + 256 * mmn m k
theorem s_1 : ∀ l : List Nat, (∀ a ∈ l, a < 256) → (bsn l / 2 &&& mmn 85 l.length) ≤ bsn l ∧ bsn l - (bsn l / 2 &&& mmn 85 l.length) = bsn (l.map f1) := by
  intro l
  induction l with
  | nil => intro _; exact ⟨Nat.zero_le _, rfl⟩
  | cons a l ih =>
    intro h
    have ha := h a (List.mem_cons_self ..)
    obtain ⟨i1, i2⟩ := ih (fun b hb => h b (List.mem_cons_of_mem _ hb))
    obtain ⟨⟨b1, b2⟩, b3⟩ := b_1 a ha
    show ((a + 256 * bsn l) / 2 &&& (85 + 256 * mmn 85 l.length)) ≤ a + 256 * bsn l ∧ a + 256 * bsn l - ((a + 256 * bsn l) / 2 &&& (85 + 256 * mmn 85 l.length)) = f1 a + 256 * bsn (l.map f1)
    rw [show (a + 256 * bsn l) / 2 = (a / 2 + 128 * (bsn l % 2)) + 256 * (bsn l / 2) by omega, and_b (by omega) (by decide), b3 _ (Nat.mod_lt _ (by decide)), ← i2]
    unfold f1
    omega
theorem s_2 : ∀ l : List Nat, (∀ a ∈ l, a < 256) → (bsn l &&& mmn 51 l.length) + (bsn l / 4 &&& mmn 51 l.length) = bsn (l.map f2) := by
  intro l
  induction l with
  | nil => intro _; rfl
  | cons a l ih =>
    intro h
    have ha := h a (List.mem_cons_self ..)
    have i2 := ih (fun b hb => h b (List.mem_cons_of_mem _ hb))
    obtain ⟨b2, b3⟩ := b_2 a ha
    show ((a + 256 * bsn l) &&& (51 + 256 * mmn 51 l.length)) + ((a + 256 * bsn l) / 4 &&& (51 + 256 * mmn 51 l.length)) = f2 a + 256 * bsn (l.map f2)
    rw [show (a + 256 * bsn l) / 4 = (a / 4 + 64 * (bsn l % 4)) + 256 * (bsn l / 4) by omega, and_b (by omega) (by decide), and_b (by omega) (by decide), b3 _ (Nat.mod_lt _ (by decide)), ← i2]
    unfold f2
    omega
theorem s_3 : ∀ l : List Nat, (∀ a ∈ l, a ≤ 68 ∧ a % 16 ≤ 4) → bsn l % 16 ≤ 4 ∧ ((bsn l + bsn l / 16) &&& mmn 15 l.length) = bsn (l.map f3) := by
  intro l
  induction l with
  | nil => intro _; exact ⟨Nat.zero_le _, rfl⟩
  | cons a l ih =>
    intro h
    obtain ⟨ha, ha2⟩ := h a (List.mem_cons_self ..)
    obtain ⟨i1, i2⟩ := ih (fun b hb => h b (List.mem_cons_of_mem _ hb))
    refine ⟨by show (a + 256 * bsn l) % 16 ≤ 4; omega, ?_⟩
    show ((a + 256 * bsn l) + (a + 256 * bsn l) / 16 &&& (15 + 256 * mmn 15 l.length)) = f3 a + 256 * bsn (l.map f3)
    rw [show (a + 256 * bsn l) + (a + 256 * bsn l) / 16 = (a + a / 16 + 16 * (bsn l % 16)) + 256 * (bsn l + bsn l / 16) by omega, and_b (by omega) (by decide), b_4 a (by omega) _ (by omega), i2]
theorem bytes (n : Nat) (h : n < 2 ^ 64) : n = bsn [n % 256, n / 256 % 256, n / 65536 % 256, n / 16777216 % 256, n / 4294967296 % 256, n / 1099511627776 % 256, n / 281474976710656 % 256, n / 72057594037927936 % 256] := by
  have e0 : n = n % 256 + 256 * (n / 256) := by omega
  have e1 : n / 256 = n / 256 % 256 + 256 * (n / 65536) := by omega
  have e2 : n / 65536 = n / 65536 % 256 + 256 * (n / 16777216) := by omega
  have e3 : n / 16777216 = n / 16777216 % 256 + 256 * (n / 4294967296) := by omega
  have e4 : n / 4294967296 = n / 4294967296 % 256 + 256 * (n / 1099511627776) := by omega
  have e5 : n / 1099511627776 = n / 1099511627776 % 256 + 256 * (n / 281474976710656) := by omega
  have e6 : n / 281474976710656 = n / 281474976710656 % 256 + 256 * (n / 72057594037927936) := by omega
  have e7 : n / 72057594037927936 = n / 72057594037927936 % 256 := by omega
  unfold bsn bsn bsn bsn bsn bsn bsn bsn bsn
  rw [Nat.mul_zero, Nat.add_zero, ← e7, ← e6, ← e5, ← e4, ← e3, ← e2, ← e1]
  exact e0
theorem pop_b (n : Nat) : popA n 64 = popA (n % 256) 8 + popA (n / 256 % 256) 8 + popA (n / 65536 % 256) 8 + popA (n / 16777216 % 256) 8 + popA (n / 4294967296 % 256) 8 + popA (n / 1099511627776 % 256) 8 + popA (n / 281474976710656 % 256) 8 + popA (n / 72057594037927936 % 256) 8 := by
  have e : ∀ x k, popA x (8 + k) = popA (x % 256) 8 + popA (x / 256) k := fun x k => by rw [popA_add, popA_8]
  have d1 : n / 256 / 256 = n / 65536 := by omega
  have d2 : n / 65536 / 256 = n / 16777216 := by omega
  have d3 : n / 16777216 / 256 = n / 4294967296 := by omega
  have d4 : n / 4294967296 / 256 = n / 1099511627776 := by omega
  have d5 : n / 1099511627776 / 256 = n / 281474976710656 := by omega
  have d6 : n / 281474976710656 / 256 = n / 72057594037927936 := by omega
  have h1 := e n 56
  have h2 := e (n / 256) 48
  have h3 := e (n / 65536) 40
  have h4 := e (n / 16777216) 32
  have h5 := e (n / 4294967296) 24
  have h6 := e (n / 1099511627776) 16
  have h7 := e (n / 281474976710656) 8
  have h8 := popA_8 (n / 72057594037927936)
  rw [d1] at h2
  rw [d2] at h3
  rw [d3] at h4
  rw [d4] at h5
  rw [d5] at h6
  rw [d6] at h7
  simp only [Nat.reduceAdd] at h1 h2 h3 h4 h5 h6 h7
  omega
theorem l2i_and {n : Nat} (h : n < 2 ^ 64) : (lN n).toInt32 &&& 127 = iz ((n % 128 : Nat) : Int) := by
  apply Int32.toBitVec_inj.mp
  rw [Int32.toBitVec_and, ← nI_iz]
  have e0 : (lN n).toInt32.toBitVec = (BitVec.ofNat 64 n).setWidth 32 := by
    show (BitVec.ofNat 64 n).signExtend 32 = _
    exact BitVec.signExtend_eq_setWidth_of_le _ (by decide)
  rw [e0]
  show (BitVec.ofNat 64 n).setWidth 32 &&& 127#32 = BitVec.ofNat 32 (n % 128)
  apply BitVec.eq_of_toNat_eq
  rw [BitVec.toNat_and, BitVec.toNat_setWidth, BitVec.toNat_ofNat, BitVec.toNat_ofNat, BitVec.toNat_ofNat]
  have e : (n % 2 ^ 64 % 2 ^ 32 &&& 127 % 2 ^ 32) = n % 2 ^ 64 % 2 ^ 32 % 2 ^ 7 := Nat.and_two_pow_sub_one_eq_mod _ 7
  rw [e]
  omega
theorem fold8 {r0 r1 r2 r3 r4 r5 r6 r7 T0 T1 T2 T3 T4 T5 T6 T7 : Nat} (h0 : T0 = r0 + 256 * T1) (h1 : T1 = r1 + 256 * T2) (h2 : T2 = r2 + 256 * T3) (h3 : T3 = r3 + 256 * T4) (h4 : T4 = r4 + 256 * T5) (h5 : T5 = r5 + 256 * T6) (h6 : T6 = r6 + 256 * T7) (h7 : T7 = r7) (p0 : r0 ≤ 8) (p1 : r1 ≤ 8) (p2 : r2 ≤ 8) (p3 : r3 ≤ 8) (p4 : r4 ≤ 8) (p5 : r5 ≤ 8) (p6 : r6 ≤ 8) (p7 : r7 ≤ 8) : T0 / 256 = T1 ∧ (T0 + T1) / 65536 = T2 + T3 ∧ (T0 + T1 + (T2 + T3)) / 4294967296 = T4 + T5 + (T6 + T7) ∧ (T0 + T1 + (T2 + T3) + (T4 + T5 + (T6 + T7))) % 128 = r0 + r1 + r2 + r3 + r4 + r5 + r6 + r7 ∧ T0 < 2 ^ 60 ∧ T1 < 2 ^ 52 ∧ T2 < 2 ^ 44 ∧ T3 < 2 ^ 36 ∧ T4 < 2 ^ 28 ∧ T5 < 2 ^ 20 ∧ T6 < 2 ^ 12 := by
  have l6 : T6 < 2 ^ 12 := by clear h0 h1 h2 h3 h4 h5; omega
  have l5 : T5 < 2 ^ 20 := by clear h0 h1 h2 h3 h4 h6; omega
  have l4 : T4 < 2 ^ 28 := by clear h0 h1 h2 h3 h5 h6; omega
  have l3 : T3 < 2 ^ 36 := by clear h0 h1 h2 h4 h5 h6; omega
  have l2 : T2 < 2 ^ 44 := by clear h0 h1 h3 h4 h5 h6; omega
  have l1 : T1 < 2 ^ 52 := by clear h0 h2 h3 h4 h5 h6; omega
  have l0 : T0 < 2 ^ 60 := by clear h1 h2 h3 h4 h5 h6; omega
  refine ⟨by clear h1 h2 h3 h4 h5 h6; omega, ?_, ?_, ?_, l0, l1, l2, l3, l4, l5, l6⟩
  · have e : T0 + T1 = (r0 + r1) + 256 * (r1 + r2) + 65536 * (T2 + T3) := by clear h3 h4 h5 h6 h7; omega
    rw [e]
    clear h0 h1 h2 h3 h4 h5 h6 h7 e
    omega
  · have e : T0 + T1 + (T2 + T3) = (r0 + r1 + r2 + r3) + 256 * (r1 + r2 + r3 + r4) + 65536 * (r2 + r3 + r4 + r5) + 16777216 * (r3 + r4 + r5 + r6) + 4294967296 * (T4 + T5 + (T6 + T7)) := by omega
    rw [e]
    clear h0 h1 h2 h3 h4 h5 h6 h7 e
    omega
  · have e : T0 + T1 + (T2 + T3) + (T4 + T5 + (T6 + T7)) = (r0 + r1 + r2 + r3 + r4 + r5 + r6 + r7) + 128 * (2 * (T1 + T2 + T3 + T4 + T5 + T6 + T7)) := by omega
    rw [e]
    clear h0 h1 h2 h3 h4 h5 h6 h7 e
    omega
theorem lN_ad (a b : Nat) : lN a + lN b = lN (a + b) := by rw [← lz_lN, ← lz_lN, ← lz_lN]; unfold lz; rw [← Int64.ofInt_add]; rfl
theorem swar {a0 a1 a2 a3 a4 a5 a6 a7 n : Nat} (h : n < 2 ^ 64) (hb : n = bsn [a0, a1, a2, a3, a4, a5, a6, a7]) (l256 : ∀ a ∈ [a0, a1, a2, a3, a4, a5, a6, a7], a < 256) : bcF (lN n) = iz ((popA a0 8 + popA a1 8 + popA a2 8 + popA a3 8 + popA a4 8 + popA a5 8 + popA a6 8 + popA a7 8 : Nat) : Int) := by
  obtain ⟨s1, s2⟩ := s_1 _ l256
  have l256' : ∀ a ∈ ([a0, a1, a2, a3, a4, a5, a6, a7].map f1), a < 256 := by
    intro a ha
    obtain ⟨b, hb1, rfl⟩ := List.mem_map.mp ha
    exact (b_1 b (l256 b hb1)).1.2
  have s3 := s_2 _ l256'
  have l68 : ∀ a ∈ (([a0, a1, a2, a3, a4, a5, a6, a7].map f1).map f2), a ≤ 68 ∧ a % 16 ≤ 4 := by
    intro a ha
    rw [List.map_map] at ha
    obtain ⟨b, hb1, rfl⟩ := List.mem_map.mp ha
    have := b_3 b (l256 b hb1)
    exact ⟨this.1, this.2.1⟩
  obtain ⟨-, s4⟩ := s_3 _ l68
  have e85 : mmn 85 8 = 6148914691236517205 := rfl
  have e51 : mmn 51 8 = 3689348814741910323 := rfl
  have e15 : mmn 15 8 = 1085102592571150095 := rfl
  simp only [List.length_map, List.length_cons, List.length_nil, Nat.reduceAdd, e85, e51, e15] at s1 s2 s3 s4
  rw [← hb] at s1 s2
  have key : bsn ((([a0, a1, a2, a3, a4, a5, a6, a7].map f1).map f2).map f3) = bsn [popA a0 8, popA a1 8, popA a2 8, popA a3 8, popA a4 8, popA a5 8, popA a6 8, popA a7 8] := by
    show bsn [f3 (f2 (f1 a0)), f3 (f2 (f1 a1)), f3 (f2 (f1 a2)), f3 (f2 (f1 a3)), f3 (f2 (f1 a4)), f3 (f2 (f1 a5)), f3 (f2 (f1 a6)), f3 (f2 (f1 a7))] = _
    rw [(b_3 a0 (l256 a0 (by simp))).2.2, (b_3 a1 (l256 a1 (by simp))).2.2, (b_3 a2 (l256 a2 (by simp))).2.2, (b_3 a3 (l256 a3 (by simp))).2.2, (b_3 a4 (l256 a4 (by simp))).2.2, (b_3 a5 (l256 a5 (by simp))).2.2, (b_3 a6 (l256 a6 (by simp))).2.2, (b_3 a7 (l256 a7 (by simp))).2.2]
  rw [key] at s4
  generalize bsn ([a0, a1, a2, a3, a4, a5, a6, a7].map f1) = y1 at s2 s3
  generalize bsn (([a0, a1, a2, a3, a4, a5, a6, a7].map f1).map f2) = y2 at s3 s4
  have p0 := popA_le a0 8
  have p1 := popA_le a1 8
  have p2 := popA_le a2 8
  have p3 := popA_le a3 8
  have p4 := popA_le a4 8
  have p5 := popA_le a5 8
  have p6 := popA_le a6 8
  have p7 := popA_le a7 8
  clear key l68 l256' l256 hb
  generalize popA a0 8 = r0 at *
  generalize popA a1 8 = r1 at *
  generalize popA a2 8 = r2 at *
  generalize popA a3 8 = r3 at *
  generalize popA a4 8 = r4 at *
  generalize popA a5 8 = r5 at *
  generalize popA a6 8 = r6 at *
  generalize popA a7 8 = r7 at *
  have fo := fold8 (r0 := r0) (r1 := r1) (r2 := r2) (r3 := r3) (r4 := r4) (r5 := r5) (r6 := r6) (r7 := r7) (T0 := bsn [r0, r1, r2, r3, r4, r5, r6, r7]) (T1 := bsn [r1, r2, r3, r4, r5, r6, r7]) (T2 := bsn [r2, r3, r4, r5, r6, r7]) (T3 := bsn [r3, r4, r5, r6, r7]) (T4 := bsn [r4, r5, r6, r7]) (T5 := bsn [r5, r6, r7]) (T6 := bsn [r6, r7]) (T7 := bsn [r7]) rfl rfl rfl rfl rfl rfl rfl rfl p0 p1 p2 p3 p4 p5 p6 p7
  have t7 : bsn [r7] ≤ 8 := p7
  generalize bsn [r0, r1, r2, r3, r4, r5, r6, r7] = T0 at *
  generalize bsn [r1, r2, r3, r4, r5, r6, r7] = T1 at *
  generalize bsn [r2, r3, r4, r5, r6, r7] = T2 at *
  generalize bsn [r3, r4, r5, r6, r7] = T3 at *
  generalize bsn [r4, r5, r6, r7] = T4 at *
  generalize bsn [r5, r6, r7] = T5 at *
  generalize bsn [r6, r7] = T6 at *
  generalize bsn [r7] = T7 at *
  obtain ⟨g1, g2, g3, g4, l0, l1, l2, l3, l4, l5, l6⟩ := fo
  clear p0 p1 p2 p3 p4 p5 p6 p7
  have y1l : y1 < 2 ^ 64 := by rw [← s2]; exact Nat.lt_of_le_of_lt (Nat.sub_le _ _) h
  have r51 : (y1 &&& 3689348814741910323) ≤ 3689348814741910323 := Nat.and_le_right
  have r51b : (y1 / 4 &&& 3689348814741910323) ≤ 3689348814741910323 := Nat.and_le_right
  have y2l : y2 ≤ 7378697629483820646 := by rw [← s3]; exact Nat.add_le_add r51 r51b
  unfold bcF
  dsimp only
  have sh : ∀ (x k : Nat), x < 2 ^ 64 → k < 64 → ((lN x).toUInt64 >>> ((nI k).toInt64.toUInt64 &&& Int64.toUInt64 63)).toInt64 = lN (x / 2 ^ k) := fun x k hx hk => wb_shr hx hk
  have c1 : (6148914691236517205 : Int64) = lN 6148914691236517205 := rfl
  have c2 : (3689348814741910323 : Int64) = lN 3689348814741910323 := rfl
  have c3 : (1085102592571150095 : Int64) = lN 1085102592571150095 := rfl
  have q1 : ((1 : Int32)) = nI 1 := rfl
  have q2 : ((2 : Int32)) = nI 2 := rfl
  have q4 : ((4 : Int32)) = nI 4 := rfl
  have q8 : ((8 : Int32)) = nI 8 := rfl
  have q16 : ((16 : Int32)) = nI 16 := rfl
  have q32 : ((32 : Int32)) = nI 32 := rfl
  rw [q1, q2, q4, q8, q16, q32, c1, c2, c3]
  have st1 : lN n - (((lN n).toUInt64 >>> ((nI 1).toInt64.toUInt64 &&& Int64.toUInt64 63)).toInt64 &&& lN 6148914691236517205) = lN y1 := by
    rw [sh n 1 h (by decide), wb_and (Nat.lt_of_le_of_lt (Nat.div_le_self _ _) h) (by decide), Nat.pow_one, lN_sub s1, s2]
  rw [st1]
  have st2 : (lN y1 &&& lN 3689348814741910323) + (((lN y1).toUInt64 >>> ((nI 2).toInt64.toUInt64 &&& Int64.toUInt64 63)).toInt64 &&& lN 3689348814741910323) = lN y2 := by
    rw [sh y1 2 y1l (by decide), wb_and y1l (by decide), wb_and (Nat.lt_of_le_of_lt (Nat.div_le_self _ _) y1l) (by decide), lN_ad]
    rw [show (2 : Nat) ^ 2 = 4 from rfl, s3]
  rw [st2]
  clear st1 st2 s1 s2 s3 r51 r51b y1l
  have st3 : (lN y2 + ((lN y2).toUInt64 >>> ((nI 4).toInt64.toUInt64 &&& Int64.toUInt64 63)).toInt64) &&& lN 1085102592571150095 = lN T0 := by
    rw [sh y2 4 (by omega) (by decide), lN_ad, wb_and (by omega) (by decide), show (2 : Nat) ^ 4 = 16 from rfl, s4]
  rw [st3]
  clear st3 s4 y2l
  rw [sh T0 8 (by omega) (by decide), lN_ad, show (2 : Nat) ^ 8 = 256 from rfl, g1]
  rw [sh (T0 + T1) 16 (by omega) (by decide), lN_ad, show (2 : Nat) ^ 16 = 65536 from rfl, g2]
  rw [sh (T0 + T1 + (T2 + T3)) 32 (by omega) (by decide), lN_ad, show (2 : Nat) ^ 32 = 4294967296 from rfl, g3]
  rw [l2i_and (by omega), g4]
theorem bc_pop {n : Nat} (h : n < 2 ^ 64) : bcF (lN n) = iz ((popA n 64 : Nat) : Int) := by
  rw [pop_b]
  refine swar h (bytes n h) ?_
  intro a ha
  simp only [List.mem_cons, List.not_mem_nil, or_false] at ha
  rcases ha with rfl | rfl | rfl | rfl | rfl | rfl | rfl | rfl <;> exact Nat.mod_lt _ (by decide)
