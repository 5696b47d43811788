/-! the next time of a day -/
def lf (P : Int → Bool) : Nat → Int → Int
  | 0, _ => 2147483647
  | n + 1, k => if P k then k else lf P n (k + 1)
theorem lf_eq {P : Int → Bool} : ∀ (n : Nat) (k v : Int), k ≤ v → v < k + n → P v = true → (∀ j, k ≤ j → j < v → P j = false) → lf P n k = v := by
  intro n
  induction n with
  | zero => intro k v h1 h2; omega
  | succ n ih =>
    intro k v h1 h2 h3 h4
    unfold lf
    by_cases c : P k = true
    · rw [if_pos c]
      rcases Int.lt_or_le k v with q | q
      · have := h4 k (by omega) q
        rw [c] at this; cases this
      · omega
    · rw [if_neg c]
      have : k ≠ v := by rintro rfl; exact c h3
      exact ih (k + 1) v (by omega) (by omega) h3 (fun j a b => h4 j (by omega) b)
theorem lf_far {P : Int → Bool} : ∀ (n : Nat) (k : Int), (∀ j, k ≤ j → j < k + n → P j = false) → lf P n k = 2147483647 := by
  intro n
  induction n with
  | zero => intro k h; rfl
  | succ n ih =>
    intro k h
    unfold lf
    rw [if_neg (by rw [h k (by omega) (by omega)]; decide)]
    exact ih (k + 1) (fun j a b => h j (by omega) (by omega))
theorem lf_sp {P : Int → Bool} : ∀ (n : Nat) (k : Int), (lf P n k = 2147483647 ∧ ∀ j, k ≤ j → j < k + n → P j = false) ∨ (k ≤ lf P n k ∧ lf P n k < k + n ∧ P (lf P n k) = true ∧ ∀ j, k ≤ j → j < lf P n k → P j = false) := by
  intro n
  induction n with
  | zero => intro k; exact Or.inl ⟨rfl, fun j a b => by omega⟩
  | succ n ih =>
    intro k
    unfold lf
    by_cases c : P k = true
    · rw [if_pos c]; exact Or.inr ⟨by omega, by omega, c, fun j a b => by omega⟩
    · rw [if_neg c]
      have hk : P k = false := by simpa using c
      rcases ih (k + 1) with ⟨e, r⟩ | ⟨r1, r2, r3, r4⟩
      · refine Or.inl ⟨e, fun j a b => ?_⟩
        rcases Int.lt_or_le k j with q | q
        · exact r j (by omega) (by omega)
        · rw [show j = k by omega]; exact hk
      · refine Or.inr ⟨by omega, by omega, r3, fun j a b => ?_⟩
        rcases Int.lt_or_le k j with q | q
        · exact r4 j (by omega) b
        · rw [show j = k by omega]; exact hk
def tok (ms : Nat → Nat) (t : Int) : Bool := (ms 1).testBit (t / 60).toNat && (ms 0).testBit (t % 60).toNat
def ntime (ms : Nat → Nat) (t : Int) : Int := lf (tok ms) (1440 - t).toNat t
theorem rem_id (a b : Int) : a - a / b * b = a % b := by rw [Int.emod_def, Int.mul_comm]
theorem bit_z (n k : Nat) : n / 2 ^ k % 2 = 0 ↔ n.testBit k = false := by
  rw [Nat.testBit_eq_decide_div_mod_eq]
  simp
theorem tb_lt {n k i : Nat} (h : n < 2 ^ k) (hb : n.testBit i = true) : i < k := by
  rcases Nat.lt_or_ge i k with q | q
  · exact q
  · rw [Nat.testBit_lt_two_pow (Nat.lt_of_lt_of_le h (Nat.pow_le_pow_right (by decide) q))] at hb
    cases hb
theorem nz_bit {n i : Nat} (hb : n.testBit i = true) : n ≠ 0 := by
  rintro rfl
  simp at hb
theorem z_bit {n : Nat} (h : n = 0) (i : Nat) : n.testBit i = false := by rw [h, Nat.zero_testBit]
theorem lg_zi (n : Nat) (h : n < 2 ^ 63) : lg_cmp (lN n) (lN 0) = iz 0 ↔ n = 0 := lg_z n h
theorem nt_far {ms : Nat → Nat} {t : Int} (ht : 0 ≤ t ∧ t < 1440) (hm1 : ms 1 < 2 ^ 24) (hm0 : ms 0 < 2 ^ 60) (h1 : (ms 1).testBit (t / 60).toNat = false ∨ nbel (ms 0) (t % 60).toNat = 0) (h2 : nbel (ms 1) (t / 60 + 1).toNat = 0 ∨ ms 0 = 0) : ntime ms t = 2147483647 := by
  unfold ntime
  apply lf_far
  intro j j1 j2
  unfold tok
  rcases Bool.eq_false_or_eq_true ((ms 1).testBit (j / 60).toNat && (ms 0).testBit (j % 60).toNat) with c | c
  · exfalso
    rw [Bool.and_eq_true] at c
    obtain ⟨b1, b2⟩ := c
    by_cases hh : j / 60 = t / 60
    · rcases h1 with h1 | h1
      · rw [hh, h1] at b1; cases b1
      · have := z_bit h1 (j % 60).toNat
        rw [nbel_bit, b2, Bool.and_true] at this
        simp at this
        omega
    · rcases h2 with h2 | h2
      · have := z_bit h2 (j / 60).toNat
        rw [nbel_bit, b1, Bool.and_true] at this
        simp at this
        omega
      · rw [z_bit h2] at b2; cases b2
  · exact c
theorem nt_same {ms : Nat → Nat} {t : Int} (ht : 0 ≤ t ∧ t < 1440) (hm0 : ms 0 < 2 ^ 60) (h1 : (ms 1).testBit (t / 60).toNat = true) (h2 : nbel (ms 0) (t % 60).toNat ≠ 0) : ntime ms t = t / 60 * 60 + low (nbel (ms 0) (t % 60).toNat) := by
  have hlt : nbel (ms 0) (t % 60).toNat < 2 ^ 60 := Nat.lt_of_le_of_lt (nbel_le _ _) hm0
  obtain ⟨l1, l2, l3⟩ := low_sp h2 (by omega)
  have l4 := tb_lt hlt l2
  rw [nbel_bit] at l2
  simp only [Bool.and_eq_true, decide_eq_true_eq] at l2
  have e1 : (t / 60 * 60 + (low (nbel (ms 0) (t % 60).toNat) : Int)) / 60 = t / 60 := by omega
  have e2 : (t / 60 * 60 + (low (nbel (ms 0) (t % 60).toNat) : Int)) % 60 = low (nbel (ms 0) (t % 60).toNat) := by omega
  unfold ntime
  apply lf_eq
  · omega
  · omega
  · unfold tok
    rw [e1, e2, h1, Bool.true_and]
    exact l2.2
  · intro j j1 j2
    unfold tok
    have hj : j / 60 = t / 60 := by omega
    have := l3 (j % 60).toNat (by omega)
    rw [nbel_bit] at this
    have hd : decide ((t % 60).toNat ≤ (j % 60).toNat) = true := by simp; omega
    rw [hd, Bool.true_and] at this
    rw [this, Bool.and_false]
theorem nt_later {ms : Nat → Nat} {t : Int} (ht : 0 ≤ t ∧ t < 1440) (hm1 : ms 1 < 2 ^ 24) (hm0 : ms 0 < 2 ^ 60) (h1 : (ms 1).testBit (t / 60).toNat = false ∨ nbel (ms 0) (t % 60).toNat = 0) (h2 : nbel (ms 1) (t / 60 + 1).toNat ≠ 0) (h3 : ms 0 ≠ 0) : ntime ms t = low (nbel (ms 1) (t / 60 + 1).toNat) * 60 + low (ms 0) := by
  have hlt : nbel (ms 1) (t / 60 + 1).toNat < 2 ^ 24 := Nat.lt_of_le_of_lt (nbel_le _ _) hm1
  obtain ⟨l1, l2, l3⟩ := low_sp h2 (by omega)
  obtain ⟨r1, r2, r3⟩ := low_sp h3 (by omega)
  have l4 := tb_lt hlt l2
  have r4 := tb_lt hm0 r2
  rw [nbel_bit] at l2
  simp only [Bool.and_eq_true, decide_eq_true_eq] at l2
  generalize hA : low (nbel (ms 1) (t / 60 + 1).toNat) = A at *
  generalize hB : low (ms 0) = B at *
  have e1 : ((A : Int) * 60 + (B : Int)) / 60 = A := by omega
  have e2 : ((A : Int) * 60 + (B : Int)) % 60 = B := by omega
  unfold ntime
  apply lf_eq
  · omega
  · omega
  · unfold tok
    rw [e1, e2]
    show ((ms 1).testBit A && (ms 0).testBit B) = true
    rw [l2.2, r2]
    rfl
  · intro j j1 j2
    unfold tok
    rcases Bool.eq_false_or_eq_true ((ms 1).testBit (j / 60).toNat && (ms 0).testBit (j % 60).toNat) with c | c
    · exfalso
      rw [Bool.and_eq_true] at c
      obtain ⟨b1, b2⟩ := c
      by_cases hh : j / 60 = t / 60
      · rcases h1 with h1 | h1
        · rw [hh, h1] at b1; cases b1
        · have := z_bit h1 (j % 60).toNat
          rw [nbel_bit, b2, Bool.and_true] at this
          simp at this
          omega
      · by_cases hh2 : j / 60 = A
        · have := r3 (j % 60).toNat (by omega)
          rw [b2] at this; cases this
        · have := l3 (j / 60).toNat (by omega)
          rw [nbel_bit, b1, Bool.and_true] at this
          simp at this
          omega
    · exact c
section RT
variable {G : zk_G} {h : zk_H} {a za : Nat} {ms : Nat → Nat} {nw nn ex xt : List Int} {way : Int}
theorem c_nextTime (hp : rup G h a za ms nw nn ex xt way) (hk : rok ms nw nn ex xt way) (t : Int) (ht : 0 ≤ t ∧ t < 1440) (Q : Option Value → zk_H → Prop) : zk_wp G 29 0 [some (.ref a), some (.int (iz t)), none, none, none, none, none] [] h Q ↔ Q (some (.int (iz (ntime ms t)))) h := by
  obtain ⟨am, a1, i1, c1, a2, i2, c2, a3, i3, c3, a4, i4, c4, fm, p1, p2, p3, p4, p5, p6, p7⟩ := hp
  obtain ⟨k0, k1, k2, k3, k4, k5, k6, -⟩ := hk
  have q2 := zk_ar_rd p2
  have d0 : (iz 0).toInt = 0 := rfl
  have d1 : (iz 1).toInt = 1 := rfl
  have f0 := p3 0 (by decide)
  have f1 := p3 1 (by decide)
  have n0 : (0 : Int).toNat = 0 := rfl
  have n1 : (1 : Int).toNat = 1 := rfl
  have hz60 : ¬ iz 60 = (0 : Int32) := by decide
  have nb := c_notBelow G h
  have lo := c_lowest G h
  have us : ∀ n : Nat, n < 2 ^ 63 → ((lN n).toUInt64 >>> ((iz (t / 60)).toInt64.toUInt64 &&& Int64.toUInt64 63)).toInt64 &&& lN 1 = lN (n / 2 ^ (t / 60).toNat % 2) := by
    intro n hn
    rw [wz_ushr (by omega) (by omega)]
    exact wb_a1 (Nat.lt_of_le_of_lt (Nat.div_le_self _ _) (by omega))
  refine zk_eq ?_ Q
  have hm0 : ms 0 < 2 ^ 63 := by omega
  have hm1 : ms 1 < 2 ^ 63 := by omega
  have hn0 : nbel (ms 0) (t % 60).toNat < 2 ^ 63 := Nat.lt_of_le_of_lt (nbel_le _ _) hm0
  have hn1 : nbel (ms 1) (t / 60 + 1).toNat < 2 ^ 63 := Nat.lt_of_le_of_lt (nbel_le _ _) hm1
  have hlt : ms 1 / 2 ^ (t / 60).toNat % 2 < 2 ^ 63 := by omega
  simp (disch := first | omega | assumption | (simp; done)) only [u_29_0, u_29_1, u_29_3, u_29_4, u_29_5, u_29_6, u_29_9, u_29_10, u_29_11, u_29_12, u_29_14, u_29_15, u_29_18, u_29_19, u_29_20, u_29_23, u_29_24, u_29_25, u_29_26, u_29_27, u_29_28, u_29_29, u_29_30, u_29_31, u_29_34, u_29_35, u_29_36, u_29_37, u_29_40, u_29_41, u_29_43, u_29_44, u_29_45, u_29_48, u_29_49, u_29_50, u_29_51, u_29_54, u_29_55, u_29_56, u_29_57, u_29_58, u_29_59, u_29_62, u_29_64, u_29_66, u_29_67, u_29_68, u_29_71, u_29_72, u_29_75, u_29_76, u_29_77, u_29_78, u_29_79, u_29_82, u_29_84, u_29_85, u_29_87, u_29_90, u_29_92, u_29_93, u_29_94, u_29_97, u_29_98, u_29_99, u_29_102, u_29_103, true_or, or_true, zk_li1_s, zk_ll1_s, zk_la1_r, zk_la1_n, zk_lg0, zk_lgs, zk_co_n, zk_co_i, zk_co_r, zk_co_u, zk_co_l, zk_l1_0, zk_l1_1, zk_l1_s, zk_l2_0, zk_l2_1, zk_l2_s, zk_sm0, zk_smi, zk_smr, zk_smn, zk_sml, zk_fi, zk_fz, zk_fo, zk_fn, zk_fa, zk_ts, zk_tn, zk_cases, true_and, and_true, List.getElem?_cons_zero, List.getElem?_cons_succ, List.length_cons, List.length_nil, Nat.reduceAdd, Nat.reduceLT, Nat.reduceLeDiff, List.set_cons_zero, List.set_cons_succ, va_rf, zk_og_f p1, zk_op_f p1, zk_aj_f q2, iz_lit, iz_div, iz_mul, iz_sub, iz_add, rem_id, d0, d1, n0, n1, f0, f1, nb, ljt0, ljt1, us, lg_zi, lo, bit_z]
  have i5 : (0 : Int) ≤ 0 ∧ (0 : Int) < ((5 : Nat) : Int) := by omega
  have i6 : (0 : Int) ≤ 1 ∧ (1 : Int) < ((5 : Nat) : Int) := by omega
  simp only [i5, i6, true_and]
  refine ⟨fun c1 => ⟨fun c2 => ?_, fun c2 => ⟨fun c3 => ?_, fun c3 => ?_⟩⟩, fun c1 => ⟨fun c4 => ⟨fun c2 => ?_, fun c2 => ⟨fun c3 => ?_, fun c3 => ?_⟩⟩, fun c4 => ?_⟩⟩
  · rw [nt_far ht k1 k0 (Or.inl c1) (Or.inl c2)]
  · rw [nt_later ht k1 k0 (Or.inl c1) c2 c3]
  · rw [nt_far ht k1 k0 (Or.inl c1) (Or.inr c3)]
  · rw [nt_far ht k1 k0 (Or.inr c4) (Or.inl c2)]
  · rw [nt_later ht k1 k0 (Or.inr c4) c2 c3]
  · rw [nt_far ht k1 k0 (Or.inr c4) (Or.inr c3)]
  · rw [nt_same ht k0 (by simpa using c1) c4]
end RT
