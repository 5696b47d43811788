/-! the model's days: holidays, weekdays, fits -/
def bi (b : Bool) : Int := if b then 1 else 0
theorem bi_0 (b : Bool) : iz (bi b) = iz 0 ↔ b = false := by cases b <;> simp [bi] <;> decide
theorem bi_1 (b : Bool) : iz (bi b) = iz 1 ↔ b = true := by cases b <;> simp [bi] <;> decide
theorem bi_or (b : Bool) : (b = false ∨ b = true) ↔ True := by cases b <;> simp
theorem bi_r (b : Bool) : 0 ≤ bi b ∧ bi b ≤ 1 := by cases b <;> simp [bi]
theorem ii_0 (p : Prop) [Decidable p] : iz (if p then 1 else 0) = iz 0 ↔ ¬ p := by by_cases c : p <;> simp [c] <;> decide
theorem ii_1 (p : Prop) [Decidable p] : iz (if p then 1 else 0) = iz 1 ↔ p := by by_cases c : p <;> simp [c] <;> decide
theorem sm5 : ∀ n, n < 32 → ((nI n &&& 31).toBitVec.smod 32).toNat = n := by decide +kernel
theorem sm6 : ∀ n, n < 64 → (((nI n).toInt64 &&& 63).toBitVec.smod 64).toNat = n := by decide +kernel
theorem i_a1 (n : Nat) (h : n < 2 ^ 31) : nI n &&& (1 : Int32) = nI (n % 2) := by
  have := pk_andN (n := n) (by omega) (m := 1) 1 (by decide)
  simpa using this
theorem md_bit (n k : Nat) : ((n / 2 ^ k % 2 : Nat) : Int) = bi (n.testBit k) := by
  have h := Nat.testBit_eq_decide_div_mod_eq (x := n) (i := k)
  rw [h]
  unfold bi
  have : n / 2 ^ k % 2 < 2 := Nat.mod_lt _ (by decide)
  by_cases c : n / 2 ^ k % 2 = 1
  · rw [c]; simp
  · have : n / 2 ^ k % 2 = 0 := by omega
    rw [this]; simp
theorem i_bit {x k : Int} (hx : 0 ≤ x ∧ x < 2147483648) (hk : 0 ≤ k ∧ k < 32) : iz x >>> (iz k &&& iz 31) &&& iz 1 = iz (bi (x.toNat.testBit k.toNat)) := by
  have e1 : iz x = nI x.toNat := by rw [nI_iz]; congr 1; omega
  have e2 : iz k = nI k.toNat := by rw [nI_iz]; congr 1; omega
  rw [e1, e2]
  show nI x.toNat >>> (nI k.toNat &&& 31) &&& 1 = _
  have hx2 : x.toNat < 2 ^ 31 := by omega
  rw [pk_shrN hx2 _ k.toNat (sm5 k.toNat (by omega)), i_a1 _ (Nat.lt_of_le_of_lt (Nat.div_le_self _ _) hx2), nI_iz, md_bit]
theorem lz_lN (n : Nat) : lz (n : Int) = lN n := rfl
theorem lN_shr {n k : Nat} (h : n < 2 ^ 63) (hk : k < 64) : lN n >>> ((nI k).toInt64 &&& 63) = lN (n / 2 ^ k) := by
  apply Int64.toInt_inj.mp
  have hd : n / 2 ^ k ≤ n := Nat.div_le_self _ _
  have e : (lN n >>> ((nI k).toInt64 &&& 63)).toInt = (lN n).toInt >>> k := by
    have h6 := sm6 k hk
    show ((lN n).toBitVec.sshiftRight (((nI k).toInt64 &&& 63).toBitVec.smod 64).toNat).toInt = _
    rw [h6, BitVec.toInt_sshiftRight]
    rfl
  have h9 : -9223372036854775808 ≤ ((n / 2 ^ k : Nat) : Int) ∧ ((n / 2 ^ k : Nat) : Int) ≤ 9223372036854775807 := by
    generalize n / 2 ^ k = q at *
    omega
  rw [e, ← lz_lN, ← lz_lN, lz_toInt (by omega) (by omega), lz_toInt h9.1 h9.2, Int.shiftRight_eq_div_pow]
  rfl
theorem l_bit {x k : Int} (hx : 0 ≤ x ∧ x < 9223372036854775808) (hk : 0 ≤ k ∧ k < 64) : lz x >>> ((iz k).toInt64 &&& 63) &&& lN 1 = lN (if x.toNat.testBit k.toNat then 1 else 0) := by
  have e1 : lz x = lN x.toNat := by rw [← lz_lN]; congr 1; omega
  have e2 : iz k = nI k.toNat := by rw [nI_iz]; congr 1; omega
  rw [e1, e2, lN_shr (by omega) (by omega)]
  have e3 := wb_a1 (n := x.toNat / 2 ^ k.toNat) (Nat.lt_of_le_of_lt (Nat.div_le_self _ _) (by omega))
  rw [show (lN 1) = (1 : Int64) from rfl, e3]
  congr 1
  have := md_bit x.toNat k.toNat
  unfold bi at this
  split at this
  next c => rw [if_pos c]; omega
  next c => rw [if_neg c]; omega
theorem l_bit1 (b : Bool) : lg_cmp (lN (if b then 1 else 0)) (lN 1) = iz 0 ↔ b = true := by cases b <;> decide
def msOf (m : mS) (j : Int) : Nat → Nat := fun i => (m (12 + i) j).toNat
def nwOf (m : mS) (j : Int) : List Int := rl (m 17 j) (fun k => m 18 (3 * j + k))
def nnOf (m : mS) (j : Int) : List Int := rl (m 17 j) (fun k => m 19 (3 * j + k))
def exOf (m : mS) (j : Int) : List Int := rl (m 20 j) (fun k => m 21 (6 * j + k))
def xtOf (m : mS) (j : Int) : List Int := rl (m 28 j) (fun k => m 29 (8 * j + k))
/-- what is always so of a job -/
def jI (m : mS) (j : Int) : Prop := (0 ≤ j ∧ j < 12) ∧ zI m (m 11 j) ∧ (0 ≤ m 12 j ∧ m 12 j < 2 ^ 60) ∧ (0 ≤ m 13 j ∧ m 13 j < 2 ^ 24) ∧ (0 ≤ m 14 j ∧ m 14 j < 2 ^ 32) ∧ (0 ≤ m 15 j ∧ m 15 j < 2 ^ 13) ∧ (0 ≤ m 16 j ∧ m 16 j < 2 ^ 7) ∧ (0 ≤ m 17 j ∧ m 17 j ≤ 3) ∧ (0 ≤ m 20 j ∧ m 20 j ≤ 6) ∧ (0 ≤ m 28 j ∧ m 28 j ≤ 8) ∧ (0 ≤ m 22 j ∧ m 22 j ≤ 2) ∧ rok (msOf m j) (nwOf m j) (nnOf m j) (exOf m j) (xtOf m j) (m 22 j)
theorem mem_rl1 {n : Int} (f : Int → Int) (k : Int) (h : 0 ≤ k) (x : Int) : x ∈ rl (k + 1) f ↔ x ∈ rl k f ∨ f k = x := by
  rw [rl_succ f h, List.mem_append, List.mem_singleton]
  exact or_congr Iff.rfl eq_comm
section MF
variable {G : zk_G} {B : zk_H} {M : Nat}
theorem d_isHol (hB : hpo G B M) {m : mS} {z : Int} (hz : zI m z) (d : Int) (hd : -2147483648 ≤ d ∧ d ≤ 2147483647) (Q : Option Value → zk_H → Prop) : zk_wp G 119 0 [some (.ref M), some (.int (iz z)), some (.int (iz d)), none, none] [] (hp G B M m) Q ↔ Q (some (.int (iz (bi (decide (d ∈ hsOf m z)))))) (hp G B M m) := by
  refine zk_eq ?_ Q
  obtain ⟨h1, h2, h3, zo, zs, hh⟩ := hz
  have loop : ∀ (n : Nat) (k : Int) (b : Bool), 0 ≤ k → k + n = m 5 z → b = decide (d ∈ rl k (fun k => m 6 (20 * z + k))) → zk_wp G 119 5 [some (.ref M), some (.int (iz z)), some (.int (iz d)), some (.int (iz (bi b))), some (.int (iz k))] [] (hp G B M m) (fun r h' => r = some (.int (iz (bi (decide (d ∈ hsOf m z))))) ∧ h' = hp G B M m) := by
    intro n
    induction n with
    | zero =>
      intro k b hk hn hb
      rw [u_119_5]
      simp (disch := first | omega | assumption | (simp; done)) only [u_119_0, u_119_1, u_119_2, u_119_3, u_119_7, u_119_8, u_119_11, u_119_12, u_119_13, u_119_17, u_119_20, u_119_21, u_119_24, u_119_26, u_119_27, u_119_28, u_119_30, u_119_31, u_119_32, u_119_33, u_119_36, u_119_37, u_119_40, u_119_41, u_119_42, u_119_45, u_119_48, u_119_49, true_or, or_true, zk_li1_s, zk_ll1_s, zk_la1_r, zk_la1_n, zk_lg0, zk_lgs, zk_co_n, zk_co_i, zk_co_r, zk_co_u, zk_co_l, zk_l1_0, zk_l1_1, zk_l1_s, zk_l2_0, zk_l2_1, zk_l2_s, zk_sm0, zk_smi, zk_smr, zk_smn, zk_sml, zk_fi, zk_fz, zk_fo, zk_fn, zk_fa, zk_ts, zk_tn, zk_cases, true_and, and_true, List.getElem?_cons_zero, List.getElem?_cons_succ, List.length_cons, List.length_nil, Nat.reduceAdd, Nat.reduceLT, Nat.reduceLeDiff, List.set_cons_zero, List.set_cons_succ, va_rf, iz_lit, iz_le, mg_5 hB, mr_5 hB, mw_5 hB, bi_0, bi_1, bi_or]
      refine ⟨fun _ => ?_, fun c => absurd c (by omega)⟩
      rw [hb]
      unfold hsOf
      rw [show m 5 z = k by omega]
    | succ n ih =>
      intro k b hk hn hb
      have hx := hh (m 6 (20 * z + k)) (by unfold hsOf; rw [mem_rl]; exact ⟨k, hk, by omega, rfl⟩)
      rw [u_119_5]
      simp (disch := first | omega | assumption | (simp; done)) only [u_119_0, u_119_1, u_119_2, u_119_3, u_119_7, u_119_8, u_119_11, u_119_12, u_119_13, u_119_16, u_119_17, u_119_20, u_119_21, u_119_24, u_119_26, u_119_27, u_119_28, u_119_30, u_119_31, u_119_32, u_119_33, u_119_36, u_119_37, u_119_40, u_119_41, u_119_42, u_119_45, u_119_48, u_119_49, true_or, or_true, zk_li1_s, zk_ll1_s, zk_la1_r, zk_la1_n, zk_lg0, zk_lgs, zk_co_n, zk_co_i, zk_co_r, zk_co_u, zk_co_l, zk_l1_0, zk_l1_1, zk_l1_s, zk_l2_0, zk_l2_1, zk_l2_s, zk_sm0, zk_smi, zk_smr, zk_smn, zk_sml, zk_fi, zk_fz, zk_fo, zk_fn, zk_fa, zk_ts, zk_tn, zk_cases, true_and, and_true, List.getElem?_cons_zero, List.getElem?_cons_succ, List.length_cons, List.length_nil, Nat.reduceAdd, Nat.reduceLT, Nat.reduceLeDiff, List.set_cons_zero, List.set_cons_succ, va_rf, iz_lit, iz_le, iz_mul, iz_add, mg_5 hB, mr_5 hB, mw_5 hB, mg_6 hB, mr_6 hB, mw_6 hB, bi_0, bi_1, iz_inj]
      have hm := mem_rl1 (n := 0) (fun k => m 6 (20 * z + k)) k hk d
      refine ⟨fun c => absurd c (by omega), fun _ => ⟨fun c => ?_, fun c => ⟨fun c2 => ?_, fun c2 => ?_⟩⟩⟩
      · refine ih (k + 1) true (by omega) (by omega) ?_
        have c' : b = true := by simpa using c
        rw [hb] at c'
        rw [eq_comm, decide_eq_true_iff, hm]
        exact Or.inl (of_decide_eq_true c')
      · refine ih (k + 1) false (by omega) (by omega) ?_
        rw [hb] at c
        rw [eq_comm, decide_eq_false_iff_not, hm]
        rintro (q | q)
        · exact of_decide_eq_false c q
        · exact c2 q
      · refine ih (k + 1) true (by omega) (by omega) ?_
        rw [eq_comm, decide_eq_true_iff, hm]
        exact Or.inr c2
  simp (disch := first | omega | assumption | (simp; done)) only [u_119_0, u_119_1, u_119_2, u_119_3, u_119_7, u_119_8, u_119_11, u_119_12, u_119_13, u_119_16, u_119_17, u_119_20, u_119_21, u_119_24, u_119_26, u_119_27, u_119_28, u_119_30, u_119_31, u_119_32, u_119_33, u_119_36, u_119_37, u_119_40, u_119_41, u_119_42, u_119_45, u_119_48, u_119_49, true_or, or_true, zk_li1_s, zk_ll1_s, zk_la1_r, zk_la1_n, zk_lg0, zk_lgs, zk_co_n, zk_co_i, zk_co_r, zk_co_u, zk_co_l, zk_l1_0, zk_l1_1, zk_l1_s, zk_l2_0, zk_l2_1, zk_l2_s, zk_sm0, zk_smi, zk_smr, zk_smn, zk_sml, zk_fi, zk_fz, zk_fo, zk_fn, zk_fa, zk_ts, zk_tn, zk_cases, true_and, and_true, List.getElem?_cons_zero, List.getElem?_cons_succ, List.length_cons, List.length_nil, Nat.reduceAdd, Nat.reduceLT, Nat.reduceLeDiff, List.set_cons_zero, List.set_cons_succ, va_rf, iz_lit]
  exact loop (m 5 z).toNat 0 false (by omega) (by omega) (by simp [rl])
theorem d_isExc (hB : hpo G B M) {m : mS} {j : Int} (hz : jI m j) (d : Int) (hd : -2147483648 ≤ d ∧ d ≤ 2147483647) (Q : Option Value → zk_H → Prop) : zk_wp G 155 0 [some (.ref M), some (.int (iz j)), some (.int (iz d)), none, none] [] (hp G B M m) Q ↔ Q (some (.int (iz (bi (decide (d ∈ exOf m j)))))) (hp G B M m) := by
  refine zk_eq ?_ Q
  obtain ⟨h1, -, -, -, -, -, -, -, h3, -, -, hr⟩ := hz
  have hh := hr.2.2.2.2.2.2.2.2.2.2.1
  have loop : ∀ (n : Nat) (k : Int) (b : Bool), 0 ≤ k → k + n = m 20 j → b = decide (d ∈ rl k (fun k => m 21 (6 * j + k))) → zk_wp G 155 5 [some (.ref M), some (.int (iz j)), some (.int (iz d)), some (.int (iz (bi b))), some (.int (iz k))] [] (hp G B M m) (fun r h' => r = some (.int (iz (bi (decide (d ∈ exOf m j))))) ∧ h' = hp G B M m) := by
    intro n
    induction n with
    | zero =>
      intro k b hk hn hb
      rw [u_155_5]
      simp (disch := first | omega | assumption | (simp; done)) only [u_155_0, u_155_1, u_155_2, u_155_3, u_155_7, u_155_8, u_155_11, u_155_12, u_155_13, u_155_17, u_155_20, u_155_21, u_155_24, u_155_26, u_155_27, u_155_28, u_155_30, u_155_31, u_155_32, u_155_33, u_155_36, u_155_37, u_155_40, u_155_41, u_155_42, u_155_45, u_155_48, u_155_49, true_or, or_true, zk_li1_s, zk_ll1_s, zk_la1_r, zk_la1_n, zk_lg0, zk_lgs, zk_co_n, zk_co_i, zk_co_r, zk_co_u, zk_co_l, zk_l1_0, zk_l1_1, zk_l1_s, zk_l2_0, zk_l2_1, zk_l2_s, zk_sm0, zk_smi, zk_smr, zk_smn, zk_sml, zk_fi, zk_fz, zk_fo, zk_fn, zk_fa, zk_ts, zk_tn, zk_cases, true_and, and_true, List.getElem?_cons_zero, List.getElem?_cons_succ, List.length_cons, List.length_nil, Nat.reduceAdd, Nat.reduceLT, Nat.reduceLeDiff, List.set_cons_zero, List.set_cons_succ, va_rf, iz_lit, iz_le, mg_20 hB, mr_20 hB, mw_20 hB, bi_0, bi_1, bi_or]
      refine ⟨fun _ => ?_, fun c => absurd c (by omega)⟩
      rw [hb]
      unfold exOf
      rw [show m 20 j = k by omega]
    | succ n ih =>
      intro k b hk hn hb
      have hx := hh (m 21 (6 * j + k)) (by unfold exOf; rw [mem_rl]; exact ⟨k, hk, by omega, rfl⟩)
      rw [u_155_5]
      simp (disch := first | omega | assumption | (simp; done)) only [u_155_0, u_155_1, u_155_2, u_155_3, u_155_7, u_155_8, u_155_11, u_155_12, u_155_13, u_155_16, u_155_17, u_155_20, u_155_21, u_155_24, u_155_26, u_155_27, u_155_28, u_155_30, u_155_31, u_155_32, u_155_33, u_155_36, u_155_37, u_155_40, u_155_41, u_155_42, u_155_45, u_155_48, u_155_49, true_or, or_true, zk_li1_s, zk_ll1_s, zk_la1_r, zk_la1_n, zk_lg0, zk_lgs, zk_co_n, zk_co_i, zk_co_r, zk_co_u, zk_co_l, zk_l1_0, zk_l1_1, zk_l1_s, zk_l2_0, zk_l2_1, zk_l2_s, zk_sm0, zk_smi, zk_smr, zk_smn, zk_sml, zk_fi, zk_fz, zk_fo, zk_fn, zk_fa, zk_ts, zk_tn, zk_cases, true_and, and_true, List.getElem?_cons_zero, List.getElem?_cons_succ, List.length_cons, List.length_nil, Nat.reduceAdd, Nat.reduceLT, Nat.reduceLeDiff, List.set_cons_zero, List.set_cons_succ, va_rf, iz_lit, iz_le, iz_mul, iz_add, mg_20 hB, mr_20 hB, mw_20 hB, mg_21 hB, mr_21 hB, mw_21 hB, bi_0, bi_1, iz_inj]
      have hm := mem_rl1 (n := 0) (fun k => m 21 (6 * j + k)) k hk d
      refine ⟨fun c => absurd c (by omega), fun _ => ⟨fun c => ?_, fun c => ⟨fun c2 => ?_, fun c2 => ?_⟩⟩⟩
      · refine ih (k + 1) true (by omega) (by omega) ?_
        have c' : b = true := by simpa using c
        rw [hb] at c'
        rw [eq_comm, decide_eq_true_iff, hm]
        exact Or.inl (of_decide_eq_true c')
      · refine ih (k + 1) false (by omega) (by omega) ?_
        rw [hb] at c
        rw [eq_comm, decide_eq_false_iff_not, hm]
        rintro (q | q)
        · exact of_decide_eq_false c q
        · exact c2 q
      · refine ih (k + 1) true (by omega) (by omega) ?_
        rw [eq_comm, decide_eq_true_iff, hm]
        exact Or.inr c2
  simp (disch := first | omega | assumption | (simp; done)) only [u_155_0, u_155_1, u_155_2, u_155_3, u_155_7, u_155_8, u_155_11, u_155_12, u_155_13, u_155_16, u_155_17, u_155_20, u_155_21, u_155_24, u_155_26, u_155_27, u_155_28, u_155_30, u_155_31, u_155_32, u_155_33, u_155_36, u_155_37, u_155_40, u_155_41, u_155_42, u_155_45, u_155_48, u_155_49, true_or, or_true, zk_li1_s, zk_ll1_s, zk_la1_r, zk_la1_n, zk_lg0, zk_lgs, zk_co_n, zk_co_i, zk_co_r, zk_co_u, zk_co_l, zk_l1_0, zk_l1_1, zk_l1_s, zk_l2_0, zk_l2_1, zk_l2_s, zk_sm0, zk_smi, zk_smr, zk_smn, zk_sml, zk_fi, zk_fz, zk_fo, zk_fn, zk_fa, zk_ts, zk_tn, zk_cases, true_and, and_true, List.getElem?_cons_zero, List.getElem?_cons_succ, List.length_cons, List.length_nil, Nat.reduceAdd, Nat.reduceLT, Nat.reduceLeDiff, List.set_cons_zero, List.set_cons_succ, va_rf, iz_lit]
  exact loop (m 20 j).toNat 0 false (by omega) (by omega) (by simp [rl])
theorem d_wd (h : zk_H) (d : Int) (hd : -100000 ≤ d ∧ d ≤ 100000) (Q : Option Value → zk_H → Prop) : zk_wp G 130 0 [some (.int (iz d)), none] [] h Q ↔ Q (some (.int (iz (wdn d)))) h := by
  refine zk_eq ?_ Q
  have e1 : (iz 7).toInt = 7 := rfl
  have e2 : (iz (d + 5)).toInt = d + 5 := iz_toInt (by omega) (by omega)
  have hr : iz (d + 5) - iz (d + 5) / iz 7 * iz 7 = iz ((d + 5).tmod 7) := by
    apply iz_eq
    rw [i_rem (by omega), e1, e2]
  have hne : ¬ iz 7 = (0 : Int32) := by decide
  have hm := tmod_bounds (a := d + 5) (show (0 : Int) < 7 by omega)
  have hmath := fm_math (a := d + 5) (b := 7) (by omega)
  have hp : 0 ≤ d + 5 → 0 ≤ (d + 5).tmod 7 := fun q => Int.tmod_nonneg 7 q
  have hn : ¬ 0 ≤ d + 5 → (d + 5).tmod 7 ≤ 0 := by
    intro q
    have e1 : (d + 5).tmod 7 = -((-(d + 5)).tmod 7) := by rw [Int.neg_tmod, Int.neg_neg]
    have := Int.tmod_nonneg 7 (show 0 ≤ -(d + 5) by omega)
    omega
  simp (disch := first | omega | assumption | (simp; done)) only [u_130_0, u_130_1, u_130_2, u_130_3, u_130_5, u_130_6, u_130_7, u_130_8, u_130_11, u_130_12, u_130_14, u_130_15, u_130_18, u_130_19, true_or, or_true, zk_li1_s, zk_ll1_s, zk_la1_r, zk_la1_n, zk_lg0, zk_lgs, zk_co_n, zk_co_i, zk_co_r, zk_co_u, zk_co_l, zk_l1_0, zk_l1_1, zk_l1_s, zk_l2_0, zk_l2_1, zk_l2_s, zk_sm0, zk_smi, zk_smr, zk_smn, zk_sml, zk_fi, zk_fz, zk_fo, zk_fn, zk_fa, zk_ts, zk_tn, zk_cases, true_and, and_true, List.getElem?_cons_zero, List.getElem?_cons_succ, List.length_cons, List.length_nil, Nat.reduceAdd, Nat.reduceLT, Nat.reduceLeDiff, List.set_cons_zero, List.set_cons_succ, va_rf, hne, not_false_eq_true, hr, iz_le, iz_lit, iz_add]
  unfold wdn
  rw [hmath]
  refine ⟨fun c => ?_, fun c => ?_⟩
  · split
    next q => trivial
    next q =>
      have := hn q
      rw [if_pos (by omega)]
  · rw [if_neg (fun q => c (hp q)), if_neg (by omega)]
theorem d_isWork (hB : hpo G B M) {m : mS} {z : Int} (hz : zI m z) (d : Int) (hd : -100000 ≤ d ∧ d ≤ 100000) (Q : Option Value → zk_H → Prop) : zk_wp G 131 0 [some (.ref M), some (.int (iz z)), some (.int (iz d))] [] (hp G B M m) Q ↔ Q (some (.int (iz (bi (wkd (hsOf m z) d))))) (hp G B M m) := by
  refine zk_eq ?_ Q
  have t1 := d_isHol hB hz d (by omega)
  have t2 := d_wd (G := G) (hp G B M m) d hd
  have ic := hp_ic hB
  have hw : 0 ≤ wdn d ∧ wdn d < 7 := by unfold wdn; omega
  simp (disch := first | omega | assumption | (simp; done)) only [u_131_0, u_131_1, u_131_4, u_131_5, u_131_8, u_131_9, u_131_10, u_131_11, u_131_14, u_131_17, u_131_18, u_131_21, u_131_22, true_or, or_true, zk_li1_s, zk_ll1_s, zk_la1_r, zk_la1_n, zk_lg0, zk_lgs, zk_co_n, zk_co_i, zk_co_r, zk_co_u, zk_co_l, zk_l1_0, zk_l1_1, zk_l1_s, zk_l2_0, zk_l2_1, zk_l2_s, zk_sm0, zk_smi, zk_smr, zk_smn, zk_sml, zk_fi, zk_fz, zk_fo, zk_fn, zk_fa, zk_ts, zk_tn, zk_cases, true_and, and_true, List.getElem?_cons_zero, List.getElem?_cons_succ, List.length_cons, List.length_nil, Nat.reduceAdd, Nat.reduceLT, Nat.reduceLeDiff, List.set_cons_zero, List.set_cons_succ, va_rf, ic, t1, t2, iz_lit, iz_le, bi_0]
  unfold wkd
  by_cases c1 : wdn d < 5
  · by_cases c2 : d ∈ hsOf m z
    · simp [c1, c2, bi]
    · simp [c1, c2, bi]
      intro q
      omega
  · simp [c1, bi]
theorem d_never (hB : hpo G B M) {m : mS} {j : Int} (hz : jI m j) (Q : Option Value → zk_H → Prop) : zk_wp G 146 0 [some (.ref M), some (.int (iz j))] [] (hp G B M m) Q ↔ Q (some (.int (iz (bi (emp (msOf m j) (nwOf m j)))))) (hp G B M m) := by
  refine zk_eq ?_ Q
  obtain ⟨h1, -, m0, m1, m2, m3, m4, h2, -⟩ := hz
  have l0 : lz (m 12 j) = lN (msOf m j 0) := by rw [← lz_lN]; congr 1; show _ = ((m 12 j).toNat : Int); omega
  have l2 : lz (m 14 j) = lN (msOf m j 2) := by rw [← lz_lN]; congr 1; show _ = ((m 14 j).toNat : Int); omega
  have b0 : msOf m j 0 < 2 ^ 63 := by show (m 12 j).toNat < _; omega
  have b2 : msOf m j 2 < 2 ^ 63 := by show (m 14 j).toNat < _; omega
  have e1 : m 13 j = 0 ↔ msOf m j 1 = 0 := by show _ ↔ (m 13 j).toNat = 0; omega
  have e3 : m 15 j = 0 ↔ msOf m j 3 = 0 := by show _ ↔ (m 15 j).toNat = 0; omega
  have e4 : m 16 j = 0 ↔ msOf m j 4 = 0 := by show _ ↔ (m 16 j).toNat = 0; omega
  have hl := rl_len (fun k => m 18 (3 * j + k)) h2.1
  have e5 : m 17 j = 0 ↔ (nwOf m j).length = 0 := by unfold nwOf; omega
  simp (disch := first | omega | assumption | (simp; done)) only [u_146_0, u_146_1, u_146_4, u_146_5, u_146_6, u_146_7, u_146_8, u_146_11, u_146_12, u_146_15, u_146_16, u_146_17, u_146_20, u_146_21, u_146_24, u_146_25, u_146_26, u_146_29, u_146_30, u_146_33, u_146_34, u_146_35, u_146_36, u_146_37, u_146_40, u_146_41, u_146_44, u_146_45, u_146_46, u_146_49, u_146_50, u_146_53, u_146_54, u_146_55, u_146_58, u_146_59, u_146_62, u_146_63, true_or, or_true, zk_li1_s, zk_ll1_s, zk_la1_r, zk_la1_n, zk_lg0, zk_lgs, zk_co_n, zk_co_i, zk_co_r, zk_co_u, zk_co_l, zk_l1_0, zk_l1_1, zk_l1_s, zk_l2_0, zk_l2_1, zk_l2_s, zk_sm0, zk_smi, zk_smr, zk_smn, zk_sml, zk_fi, zk_fz, zk_fo, zk_fn, zk_fa, zk_ts, zk_tn, zk_cases, true_and, and_true, List.getElem?_cons_zero, List.getElem?_cons_succ, List.length_cons, List.length_nil, Nat.reduceAdd, Nat.reduceLT, Nat.reduceLeDiff, List.set_cons_zero, List.set_cons_succ, va_rf, iz_lit, mg_12 hB, mr_12 hB, mw_12 hB, mg_13 hB, mr_13 hB, mw_13 hB, mg_14 hB, mr_14 hB, mw_14 hB, mg_15 hB, mr_15 hB, mw_15 hB, mg_16 hB, mr_16 hB, mw_16 hB, mg_17 hB, mr_17 hB, mw_17 hB, iz_inj, l0, l2, ljt0, lg_zi, e1, e3, e4, e5]
  unfold emp
  by_cases z0 : msOf m j 0 = 0 <;> by_cases z1 : msOf m j 1 = 0 <;> by_cases z2 : msOf m j 2 = 0 <;> by_cases z3 : msOf m j 3 = 0 <;> by_cases z4 : msOf m j 4 = 0 <;> by_cases z5 : (nwOf m j).length = 0 <;> simp [z0, z1, z2, z3, z4, z5, bi]
theorem d_leap (h : zk_H) (y : Int) (hy : 0 ≤ y ∧ y ≤ 10000) (Q : Option Value → zk_H → Prop) : zk_wp G 153 0 [some (.int (iz y))] [] h Q ↔ Q (some (.int (iz (bi (leapB y))))) h := by
  refine zk_eq ?_ Q
  have n1 : ¬ iz 4 = (0 : Int32) := by decide
  have n2 : ¬ iz 100 = (0 : Int32) := by decide
  have n3 : ¬ iz 400 = (0 : Int32) := by decide
  simp (disch := first | omega | assumption | (simp; done)) only [u_153_0, u_153_1, u_153_2, u_153_3, u_153_6, u_153_7, u_153_9, u_153_10, u_153_13, u_153_14, u_153_17, u_153_18, u_153_21, u_153_22, u_153_25, u_153_26, true_or, or_true, zk_li1_s, zk_ll1_s, zk_la1_r, zk_la1_n, zk_lg0, zk_lgs, zk_co_n, zk_co_i, zk_co_r, zk_co_u, zk_co_l, zk_l1_0, zk_l1_1, zk_l1_s, zk_l2_0, zk_l2_1, zk_l2_s, zk_sm0, zk_smi, zk_smr, zk_smn, zk_sml, zk_fi, zk_fz, zk_fo, zk_fn, zk_fa, zk_ts, zk_tn, zk_cases, true_and, and_true, List.getElem?_cons_zero, List.getElem?_cons_succ, List.length_cons, List.length_nil, Nat.reduceAdd, Nat.reduceLT, Nat.reduceLeDiff, List.set_cons_zero, List.set_cons_succ, va_rf, iz_lit, iz_div, iz_mul, iz_sub, rem_id, iz_inj]
  unfold leapB
  by_cases c1 : y % 4 = 0 <;> by_cases c2 : y % 100 = 0 <;> by_cases c3 : y % 400 = 0 <;> simp [c1, c2, c3, bi]
theorem d_daysOf (h : zk_H) (y mo : Int) (hy : 0 ≤ y ∧ y ≤ 10000) (hm : 0 ≤ mo ∧ mo ≤ 100) (Q : Option Value → zk_H → Prop) : zk_wp G 152 0 [some (.int (iz y)), some (.int (iz mo))] [] h Q ↔ Q (some (.int (iz (dLen y mo)))) h := by
  refine zk_eq ?_ Q
  have t := d_leap (G := G) h y hy
  simp (disch := first | omega | assumption | (simp; done)) only [u_152_0, u_152_1, u_152_2, u_152_5, u_152_6, u_152_9, u_152_12, u_152_14, u_152_17, u_152_19, u_152_22, u_152_23, u_152_24, u_152_27, u_152_28, u_152_30, u_152_33, u_152_34, u_152_36, u_152_39, u_152_40, u_152_42, u_152_45, u_152_47, u_152_50, u_152_52, true_or, or_true, zk_li1_s, zk_ll1_s, zk_la1_r, zk_la1_n, zk_lg0, zk_lgs, zk_co_n, zk_co_i, zk_co_r, zk_co_u, zk_co_l, zk_l1_0, zk_l1_1, zk_l1_s, zk_l2_0, zk_l2_1, zk_l2_s, zk_sm0, zk_smi, zk_smr, zk_smn, zk_sml, zk_fi, zk_fz, zk_fo, zk_fn, zk_fa, zk_ts, zk_tn, zk_cases, true_and, and_true, List.getElem?_cons_zero, List.getElem?_cons_succ, List.length_cons, List.length_nil, Nat.reduceAdd, Nat.reduceLT, Nat.reduceLeDiff, List.set_cons_zero, List.set_cons_succ, va_rf, iz_lit, iz_inj, t, bi_0]
  unfold dLen
  by_cases c1 : mo = 2
  · cases hb : leapB y <;> simp [c1]
  · by_cases c2 : mo = 4 <;> by_cases c3 : mo = 6 <;> by_cases c4 : mo = 9 <;> by_cases c5 : mo = 11 <;> simp [c1, c2, c3, c4, c5]
end MF
