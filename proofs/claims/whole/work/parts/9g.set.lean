/-! settings of jobs -/
theorem rg_up2 {m : mS} (h : rg m) (k : Nat) (z v : Int) (hk : k = 12 ∨ k = 14) : rg (up m k z v) := by
  intro k' z' a b
  rw [up_k _ _ _ _ (by omega)]
  exact h k' z' a b
theorem MC_mask {m : mS} (hM : MC m) {j : Int} (hj : 0 ≤ j ∧ j < m 10 0) (k : Nat) (v : Int) (hv : (k = 12 ∧ 0 ≤ v ∧ v < 2 ^ 60) ∨ (k = 13 ∧ 0 ≤ v ∧ v < 2 ^ 24) ∨ (k = 14 ∧ 0 ≤ v ∧ v < 2 ^ 32 ∧ v.toNat.testBit 0 = false) ∨ (k = 15 ∧ 0 ≤ v ∧ v < 2 ^ 13) ∨ (k = 16 ∧ 0 ≤ v ∧ v < 2 ^ 7)) : MC (up m k j v) := by
  have c10 := hM.2.2.2.1
  have hk : 12 ≤ k ∧ k ≤ 16 := by omega
  have u : ∀ k' z, k' < 12 ∨ 17 ≤ k' → up m k j v k' z = m k' z := fun k' z q => up_k _ _ _ _ (by omega)
  obtain ⟨jI0, -, cJ0, -, e0⟩ := hM.2.2.2.2.2.1 j hj.1 (by omega)
  have o0 := hM.2.2.2.2.2.2 j hj.1 (by omega)
  have aw : awO (up m k j v) j = awO m j := awO_of (fun z => u 27 z (by omega)) (fun z => u 26 z (by omega))
  have hr : rg (up m k j v) := by
    rcases hv with ⟨q, -⟩ | ⟨q, a, b⟩ | ⟨q, -⟩ | ⟨q, a, b⟩ | ⟨q, a, b⟩
    · exact rg_up2 hM.1 k j v (by omega)
    · exact rg_up hM.1 _ _ (by omega)
    · exact rg_up2 hM.1 k j v (by omega)
    · exact rg_up hM.1 _ _ (by omega)
    · exact rg_up hM.1 _ _ (by omega)
  have l1 : nwOf (up m k j v) j = nwOf m j := by unfold nwOf; simp only [u 17 _ (Or.inr (by decide)), u 18 _ (Or.inr (by decide))]
  have l2 : nnOf (up m k j v) j = nnOf m j := by unfold nnOf; simp only [u 17 _ (Or.inr (by decide)), u 19 _ (Or.inr (by decide))]
  have l3 : exOf (up m k j v) j = exOf m j := by unfold exOf; simp only [u 20 _ (Or.inr (by decide)), u 21 _ (Or.inr (by decide))]
  have l4 : xtOf (up m k j v) j = xtOf m j := by unfold xtOf; simp only [u 28 _ (Or.inr (by decide)), u 29 _ (Or.inr (by decide))]
  refine MC_jb hM hr hj (fun k' z q => up_k _ _ _ _ (by omega)) (fun k' z q _ => up_ne _ _ (by omega)) (fun k' z q _ => up_k _ _ _ _ (by omega)) (fun z _ => u 21 z (by omega)) (fun z _ => u 29 z (by omega)) ?_ ?_ ?_
  · obtain ⟨a1, a2, a3, a4, a5, a6, a7, a8, a9, a10, a11, r0, r1, r2, r3, r4, r⟩ := jI0
    unfold msOf at r0 r1 r2 r3 r4
    unfold jI
    rw [l1, l2, l3, l4, u 11 _ (by omega), u 17 _ (by omega), u 20 _ (by omega), u 28 _ (by omega), u 22 _ (by omega)]
    have z := zI_cfg (m := m) (m' := up m k j v) (fun k' z _ _ => u k' z (by omega)) _ a2
    obtain ⟨r5, r6, r7, r8, r9, r10, r11, r12, r13, r14, r15⟩ := r
    unfold msOf at r15
    rcases hv with ⟨rfl, q⟩ | ⟨rfl, q⟩ | ⟨rfl, q1, q2, q3⟩ | ⟨rfl, q⟩ | ⟨rfl, q⟩
    · refine ⟨a1, z, ?_, ?_, ?_, ?_, ?_, a8, a9, a10, a11, ?_, ?_, ?_, ?_, ?_, r5, r6, r7, r8, r9, r10, r11, r12, r13, r14, ?_⟩ <;> (try unfold msOf) <;> simp only [up_b, Nat.reduceEqDiff, eq_self, if_true, if_false, reduceIte, Nat.reduceAdd, Nat.add_zero] <;> first | assumption | omega
    · refine ⟨a1, z, ?_, ?_, ?_, ?_, ?_, a8, a9, a10, a11, ?_, ?_, ?_, ?_, ?_, r5, r6, r7, r8, r9, r10, r11, r12, r13, r14, ?_⟩ <;> (try unfold msOf) <;> simp only [up_b, Nat.reduceEqDiff, eq_self, if_true, if_false, reduceIte, Nat.reduceAdd, Nat.add_zero] <;> first | assumption | omega
    · refine ⟨a1, z, ?_, ?_, ?_, ?_, ?_, a8, a9, a10, a11, ?_, ?_, ?_, ?_, ?_, r5, r6, r7, r8, r9, r10, r11, r12, r13, r14, ?_⟩ <;> (try unfold msOf) <;> simp only [up_b, Nat.reduceEqDiff, eq_self, if_true, if_false, reduceIte, Nat.reduceAdd, Nat.add_zero] <;> first | assumption | omega
    · refine ⟨a1, z, ?_, ?_, ?_, ?_, ?_, a8, a9, a10, a11, ?_, ?_, ?_, ?_, ?_, r5, r6, r7, r8, r9, r10, r11, r12, r13, r14, ?_⟩ <;> (try unfold msOf) <;> simp only [up_b, Nat.reduceEqDiff, eq_self, if_true, if_false, reduceIte, Nat.reduceAdd, Nat.add_zero] <;> first | assumption | omega
    · refine ⟨a1, z, ?_, ?_, ?_, ?_, ?_, a8, a9, a10, a11, ?_, ?_, ?_, ?_, ?_, r5, r6, r7, r8, r9, r10, r11, r12, r13, r14, ?_⟩ <;> (try unfold msOf) <;> simp only [up_b, Nat.reduceEqDiff, eq_self, if_true, if_false, reduceIte, Nat.reduceAdd, Nat.add_zero] <;> first | assumption | omega
  · unfold cJ
    rw [aw, u 23 _ (by omega), u 24 _ (by omega), u 25 _ (by omega), u 26 _ (by omega)]
    exact cJ0
  · rw [u 26 _ (by omega)]
    refine ⟨o0.1, fun i i0 i1 => ?_⟩
    rw [u 27 _ (by omega)]
    exact ⟨(o0.2 i i0 i1).1, (e0 hj.2).2 i i0 i1⟩
theorem MC_fmask {m : mS} (hM : MC m) (j f : Int) (n : Nat) : MC (f_mask m j f n) := by
  unfold f_mask
  split
  · rename_i c
    obtain ⟨cj, cf⟩ := c
    have key : ∀ x y : Nat, n &&& x ≤ x := fun x _ => Nat.and_le_right
    have hf : f = 0 ∨ f = 1 ∨ f = 2 ∨ f = 3 ∨ f = 4 := by omega
    rcases hf with rfl | rfl | rfl | rfl | rfl
    · have := key (mkf 0) 0
      have e : mkf 0 = 1152921504606846975 := rfl
      refine MC_mask hM cj (12 + (0 : Int).toNat) _ (Or.inl ⟨rfl, by omega, by omega⟩)
    · have := key (mkf 1) 0
      have e : mkf 1 = 16777215 := rfl
      refine MC_mask hM cj (12 + (1 : Int).toNat) _ (Or.inr (Or.inl ⟨rfl, by omega, by omega⟩))
    · have := key (mkf 2) 0
      have e : mkf 2 = 4294967294 := rfl
      refine MC_mask hM cj (12 + (2 : Int).toNat) _ (Or.inr (Or.inr (Or.inl ⟨rfl, by omega, by omega, ?_⟩)))
      rw [Int.toNat_natCast, e, Nat.testBit_and]
      have : (4294967294 : Nat).testBit 0 = false := by decide
      rw [this, Bool.and_false]
    · have := key (mkf 3) 0
      have e : mkf 3 = 8190 := rfl
      refine MC_mask hM cj (12 + (3 : Int).toNat) _ (Or.inr (Or.inr (Or.inr (Or.inl ⟨rfl, by omega, by omega⟩))))
    · have := key (mkf 4) 0
      have e : mkf 4 = 127 := rfl
      refine MC_mask hM cj (12 + (4 : Int).toNat) _ (Or.inr (Or.inr (Or.inr (Or.inr ⟨rfl, by omega, by omega⟩))))
  · exact hM
/-- a change of a job that leaves whom it waits for -/
theorem MC_jc {m m' : mS} (hM : MC m) (hr : rg m') {j0 : Int} (hj : 0 ≤ j0 ∧ j0 < m 10 0) (hk : ∀ k z, k < 12 ∨ (12 ≤ k ∧ k ≤ 16) ∨ k = 26 ∨ k = 27 ∨ 30 ≤ k → m' k z = m k z) (hs1 : ∀ k z, z ≠ j0 → k = 17 ∨ k = 20 ∨ (22 ≤ k ∧ k ≤ 25) ∨ k = 28 → m' k z = m k z) (hs3 : ∀ k z, k = 18 ∨ k = 19 → z < 3 * j0 ∨ 3 * j0 + 3 ≤ z → m' k z = m k z) (hs6 : ∀ z, z < 6 * j0 ∨ 6 * j0 + 6 ≤ z → m' 21 z = m 21 z) (hs8 : ∀ z, z < 8 * j0 ∨ 8 * j0 + 8 ≤ z → m' 29 z = m 29 z) (h17 : 0 ≤ m' 17 j0 ∧ m' 17 j0 ≤ 3) (h20 : 0 ≤ m' 20 j0 ∧ m' 20 j0 ≤ 6) (h28 : 0 ≤ m' 28 j0 ∧ m' 28 j0 ≤ 8) (h22 : 0 ≤ m' 22 j0 ∧ m' 22 j0 ≤ 2) (hnw : ∀ x ∈ nwOf m' j0, 0 ≤ x ∧ x ≤ 6) (hnn : ∀ x ∈ nnOf m' j0, 1 ≤ x ∧ x ≤ 6) (hex : ∀ x ∈ exOf m' j0, 0 ≤ x ∧ x ≤ 21038399) (hxt : ∀ x ∈ xtOf m' j0, 0 ≤ x ∧ x ≤ 21038399) (h23 : 0 ≤ m' 23 j0 ∧ m' 23 j0 ≤ 2) (h24 : 0 ≤ m' 24 j0 ∧ m' 24 j0 ≤ 1440) (h25 : m' 25 j0 = 0 ∨ m' 25 j0 = 1) : MC m' := by
  have c10 := hM.2.2.2.1
  obtain ⟨jI0, -, cJ0, -, e0⟩ := hM.2.2.2.2.2.1 j0 hj.1 (by omega)
  have o0 := hM.2.2.2.2.2.2 j0 hj.1 (by omega)
  have aw : awO m' j0 = awO m j0 := awO_of (fun z => hk 27 z (by omega)) (fun z => hk 26 z (by omega))
  refine MC_jb hM hr hj (fun k z q => hk k z (by omega)) (fun k z q r => ?_) (fun k z q r => ?_) hs6 hs8 ?_ ?_ ?_
  · by_cases c : k ≤ 16 ∨ k = 26
    · exact hk k z (by omega)
    · exact hs1 k z q (by omega)
  · by_cases c : k = 27
    · exact hk k z (by omega)
    · exact hs3 k z (by omega) r
  · obtain ⟨a1, a2, a3, a4, a5, a6, a7, a8, a9, a10, a11, r0, r1, r2, r3, r4, r5, r6, r7, r8, r9, r10, r11, r12, r13, r14, r15⟩ := jI0
    have ms : ∀ i : Nat, i ≤ 4 → msOf m' j0 i = msOf m j0 i := fun i hi => by unfold msOf; rw [hk (12 + i) j0 (by omega)]
    have ln : ((nwOf m' j0).length : Int) = m' 17 j0 := rl_len _ h17.1
    have lm : ((nnOf m' j0).length : Int) = m' 17 j0 := rl_len _ h17.1
    have le : ((exOf m' j0).length : Int) = m' 20 j0 := rl_len _ h20.1
    have lx : ((xtOf m' j0).length : Int) = m' 28 j0 := rl_len _ h28.1
    unfold jI
    rw [hk 11 _ (by omega), hk 12 _ (by omega), hk 13 _ (by omega), hk 14 _ (by omega), hk 15 _ (by omega), hk 16 _ (by omega)]
    refine ⟨a1, zI_cfg (m := m) (m' := m') (fun k z _ _ => hk k z (by omega)) _ a2, a3, a4, a5, a6, a7, h17, h20, h28, h22, ?_⟩
    unfold rok
    rw [ms 0 (by omega), ms 1 (by omega), ms 2 (by omega), ms 3 (by omega), ms 4 (by omega)]
    exact ⟨r0, r1, r2, r3, r4, by omega, by omega, hnw, hnn, by omega, hex, by omega, hxt, h22.1, h22.2, r15⟩
  · unfold cJ
    rw [aw, hk 26 _ (by omega)]
    exact ⟨h23, h24, h25, cJ0.2.2.2⟩
  · rw [hk 26 _ (by omega)]
    refine ⟨o0.1, fun i i0 i1 => ?_⟩
    rw [hk 27 _ (by omega)]
    exact ⟨(o0.2 i i0 i1).1, (e0 hj.2).2 i i0 i1⟩
theorem mc_l {m : mS} (hM : MC m) {j : Int} (hj : 0 ≤ j ∧ j < m 10 0) : ((0 ≤ m 17 j ∧ m 17 j ≤ 3) ∧ (0 ≤ m 20 j ∧ m 20 j ≤ 6) ∧ (0 ≤ m 28 j ∧ m 28 j ≤ 8) ∧ (0 ≤ m 22 j ∧ m 22 j ≤ 2)) ∧ ((∀ x ∈ nwOf m j, 0 ≤ x ∧ x ≤ 6) ∧ (∀ x ∈ nnOf m j, 1 ≤ x ∧ x ≤ 6) ∧ (∀ x ∈ exOf m j, 0 ≤ x ∧ x ≤ 21038399) ∧ (∀ x ∈ xtOf m j, 0 ≤ x ∧ x ≤ 21038399)) ∧ ((0 ≤ m 23 j ∧ m 23 j ≤ 2) ∧ (0 ≤ m 24 j ∧ m 24 j ≤ 1440) ∧ (m 25 j = 0 ∨ m 25 j = 1)) := by
  have c10 := hM.2.2.2.1
  obtain ⟨jI0, -, cJ0, -, -⟩ := hM.2.2.2.2.2.1 j hj.1 (by omega)
  obtain ⟨a1, a2, a3, a4, a5, a6, a7, a8, a9, a10, a11, r0, r1, r2, r3, r4, r5, r6, r7, r8, r9, r10, r11, r12, r13, r14, r15⟩ := jI0
  exact ⟨⟨a8, a9, a10, a11⟩, ⟨r7, r8, r10, r12⟩, cJ0.1, cJ0.2.1, cJ0.2.2.1⟩
theorem MC_one {m : mS} (hM : MC m) {j : Int} (hj : 0 ≤ j ∧ j < m 10 0) (k : Nat) (v : Int) (hv : (k = 22 ∧ 0 ≤ v ∧ v ≤ 2) ∨ (k = 23 ∧ 0 ≤ v ∧ v ≤ 2) ∨ (k = 24 ∧ 0 ≤ v ∧ v ≤ 1440) ∨ (k = 25 ∧ (v = 0 ∨ v = 1))) : MC (up m k j v) := by
  obtain ⟨⟨a1, a2, a3, a4⟩, ⟨b1, b2, b3, b4⟩, d1, d2, d3⟩ := mc_l hM hj
  have hk : 22 ≤ k ∧ k ≤ 25 := by omega
  have u : ∀ k' z, k' ≠ k → up m k j v k' z = m k' z := fun k' z q => up_k _ _ _ _ q
  refine MC_jc hM (rg_up hM.1 _ _ (by omega)) hj (fun k' z q => u k' z (by omega)) (fun k' z q _ => up_ne _ _ (by omega)) (fun k' z q _ => u k' z (by omega)) (fun z _ => u 21 z (by omega)) (fun z _ => u 29 z (by omega)) (by rw [u 17 _ (by omega)]; exact a1) (by rw [u 20 _ (by omega)]; exact a2) (by rw [u 28 _ (by omega)]; exact a3) ?_ ?_ ?_ ?_ ?_ ?_ ?_ ?_
  · rcases hv with ⟨rfl, q⟩ | ⟨rfl, q⟩ | ⟨rfl, q⟩ | ⟨rfl, q⟩
    · rw [up_e]; exact q
    all_goals (rw [u 22 _ (by decide)]; exact a4)
  · rw [show nwOf (up m k j v) j = nwOf m j by unfold nwOf; rw [u 17 _ (by omega)]; exact rl_congr (fun x _ _ => u 18 _ (by omega))]; exact b1
  · rw [show nnOf (up m k j v) j = nnOf m j by unfold nnOf; rw [u 17 _ (by omega)]; exact rl_congr (fun x _ _ => u 19 _ (by omega))]; exact b2
  · rw [show exOf (up m k j v) j = exOf m j by unfold exOf; rw [u 20 _ (by omega)]; exact rl_congr (fun x _ _ => u 21 _ (by omega))]; exact b3
  · rw [show xtOf (up m k j v) j = xtOf m j by unfold xtOf; rw [u 28 _ (by omega)]; exact rl_congr (fun x _ _ => u 29 _ (by omega))]; exact b4
  · rcases hv with ⟨rfl, q⟩ | ⟨rfl, q⟩ | ⟨rfl, q⟩ | ⟨rfl, q⟩
    · rw [u 23 _ (by decide)]; exact d1
    · rw [up_e]; exact q
    all_goals (rw [u 23 _ (by decide)]; exact d1)
  · rcases hv with ⟨rfl, q⟩ | ⟨rfl, q⟩ | ⟨rfl, q⟩ | ⟨rfl, q⟩
    · rw [u 24 _ (by decide)]; exact d2
    · rw [u 24 _ (by decide)]; exact d2
    · rw [up_e]; exact q
    · rw [u 24 _ (by decide)]; exact d2
  · rcases hv with ⟨rfl, q⟩ | ⟨rfl, q⟩ | ⟨rfl, q⟩ | ⟨rfl, q⟩
    · rw [u 25 _ (by decide)]; exact d3
    · rw [u 25 _ (by decide)]; exact d3
    · rw [u 25 _ (by decide)]; exact d3
    · rw [up_e]; exact q
theorem rl_up {m : mS} {n c v : Int} {k : Nat} {P : Int → Prop} (hv : P v) (h : ∀ x ∈ rl n (fun i => m k (c + i)), P x) (x : Int) (hx : x ∈ rl (n + 1) (fun i => if c + i = c + n then v else m k (c + i))) : P x := by
  rw [mem_rl] at hx
  obtain ⟨i, i0, i1, rfl⟩ := hx
  split
  · exact hv
  · refine h _ ?_
    rw [mem_rl]
    exact ⟨i, i0, by omega, rfl⟩
theorem MC_nth {m : mS} (hM : MC m) {j w n : Int} (h : nthOk m j w n) (h3 : m 17 j ≠ 3) : MC (up (up (up m 18 (3 * j + m 17 j) w) 19 (3 * j + m 17 j) n) 17 j (m 17 j + 1)) := by
  obtain ⟨hj, hw, hn⟩ := h
  obtain ⟨⟨a1, a2, a3, a4⟩, ⟨b1, b2, b3, b4⟩, d1, d2, d3⟩ := mc_l hM hj
  have hr := rg_up (rg_up (rg_up hM.1 18 (3 * j + m 17 j) (v := w) (by omega)) 19 (3 * j + m 17 j) (v := n) (by omega)) 17 j (v := m 17 j + 1) (by omega)
  have u : ∀ k z, k ≠ 17 → k ≠ 18 → k ≠ 19 → up (up (up m 18 (3 * j + m 17 j) w) 19 (3 * j + m 17 j) n) 17 j (m 17 j + 1) k z = m k z := fun k z q r s => by rw [up_k _ _ _ _ q, up_k _ _ _ _ s, up_k _ _ _ _ r]
  have u17 : ∀ z, up (up (up m 18 (3 * j + m 17 j) w) 19 (3 * j + m 17 j) n) 17 j (m 17 j + 1) 17 z = if z = j then m 17 j + 1 else m 17 z := fun z => by rw [up_z, up_k _ _ _ _ (by decide), up_k _ _ _ _ (by decide)]
  have u18 : ∀ z, up (up (up m 18 (3 * j + m 17 j) w) 19 (3 * j + m 17 j) n) 17 j (m 17 j + 1) 18 z = if z = 3 * j + m 17 j then w else m 18 z := fun z => by rw [up_k _ _ _ _ (by decide), up_k _ _ _ _ (by decide), up_z]
  have u19 : ∀ z, up (up (up m 18 (3 * j + m 17 j) w) 19 (3 * j + m 17 j) n) 17 j (m 17 j + 1) 19 z = if z = 3 * j + m 17 j then n else m 19 z := fun z => by rw [up_k _ _ _ _ (by decide), up_z, up_k _ _ _ _ (by decide)]
  generalize up (up (up m 18 (3 * j + m 17 j) w) 19 (3 * j + m 17 j) n) 17 j (m 17 j + 1) = m' at *
  refine MC_jc hM hr hj (fun k z q => u k z (by omega) (by omega) (by omega)) (fun k z q r => ?_) (fun k z q r => ?_) (fun z _ => u 21 z (by decide) (by decide) (by decide)) (fun z _ => u 29 z (by decide) (by decide) (by decide)) (by rw [u17, if_pos rfl]; omega) (by rw [u 20 _ (by decide) (by decide) (by decide)]; exact a2) (by rw [u 28 _ (by decide) (by decide) (by decide)]; exact a3) (by rw [u 22 _ (by decide) (by decide) (by decide)]; exact a4) ?_ ?_ ?_ ?_ (by rw [u 23 _ (by decide) (by decide) (by decide)]; exact d1) (by rw [u 24 _ (by decide) (by decide) (by decide)]; exact d2) (by rw [u 25 _ (by decide) (by decide) (by decide)]; exact d3)
  · by_cases c : k = 17
    · subst c; rw [u17, if_neg q]
    · exact u k z c (by omega) (by omega)
  · rcases q with rfl | rfl
    · rw [u18, if_neg (by omega)]
    · rw [u19, if_neg (by omega)]
  · unfold nwOf
    simp only [u17, u18, if_true]
    exact rl_up hw b1
  · unfold nnOf
    simp only [u17, u19, if_true]
    exact rl_up hn b2
  · rw [show exOf m' j = exOf m j by unfold exOf; rw [u 20 _ (by decide) (by decide) (by decide)]; exact rl_congr (fun x _ _ => u 21 _ (by decide) (by decide) (by decide))]; exact b3
  · rw [show xtOf m' j = xtOf m j by unfold xtOf; rw [u 28 _ (by decide) (by decide) (by decide)]; exact rl_congr (fun x _ _ => u 29 _ (by decide) (by decide) (by decide))]; exact b4
theorem MC_exc {m : mS} (hM : MC m) {j t : Int} (hj : 0 ≤ j ∧ j < m 10 0) (ht : 0 ≤ t ∧ t ≤ 21038399) (h6 : m 20 j ≠ 6) : MC (up (up m 21 (6 * j + m 20 j) t) 20 j (m 20 j + 1)) := by
  obtain ⟨⟨a1, a2, a3, a4⟩, ⟨b1, b2, b3, b4⟩, d1, d2, d3⟩ := mc_l hM hj
  have hr := rg_up (rg_up hM.1 21 (6 * j + m 20 j) (v := t) (by omega)) 20 j (v := m 20 j + 1) (by omega)
  have u : ∀ k z, k ≠ 20 → k ≠ 21 → up (up m 21 (6 * j + m 20 j) t) 20 j (m 20 j + 1) k z = m k z := fun k z q r => by rw [up_k _ _ _ _ q, up_k _ _ _ _ r]
  have u20 : ∀ z, up (up m 21 (6 * j + m 20 j) t) 20 j (m 20 j + 1) 20 z = if z = j then m 20 j + 1 else m 20 z := fun z => by rw [up_z, up_k _ _ _ _ (by decide)]
  have u21 : ∀ z, up (up m 21 (6 * j + m 20 j) t) 20 j (m 20 j + 1) 21 z = if z = 6 * j + m 20 j then t else m 21 z := fun z => by rw [up_k _ _ _ _ (by decide), up_z]
  generalize up (up m 21 (6 * j + m 20 j) t) 20 j (m 20 j + 1) = m' at *
  refine MC_jc hM hr hj (fun k z q => u k z (by omega) (by omega)) (fun k z q r => ?_) (fun k z q r => u k z (by omega) (by omega)) (fun z _ => by rw [u21, if_neg (by omega)]) (fun z _ => u 29 z (by decide) (by decide)) (by rw [u 17 _ (by decide) (by decide)]; exact a1) (by rw [u20, if_pos rfl]; omega) (by rw [u 28 _ (by decide) (by decide)]; exact a3) (by rw [u 22 _ (by decide) (by decide)]; exact a4) ?_ ?_ ?_ ?_ (by rw [u 23 _ (by decide) (by decide)]; exact d1) (by rw [u 24 _ (by decide) (by decide)]; exact d2) (by rw [u 25 _ (by decide) (by decide)]; exact d3)
  · by_cases c : k = 20
    · subst c; rw [u20, if_neg q]
    · exact u k z c (by omega)
  · rw [show nwOf m' j = nwOf m j by unfold nwOf; rw [u 17 _ (by decide) (by decide)]; exact rl_congr (fun x _ _ => u 18 _ (by decide) (by decide))]; exact b1
  · rw [show nnOf m' j = nnOf m j by unfold nnOf; rw [u 17 _ (by decide) (by decide)]; exact rl_congr (fun x _ _ => u 19 _ (by decide) (by decide))]; exact b2
  · unfold exOf
    simp only [u20, u21, if_true]
    exact rl_up ht b3
  · rw [show xtOf m' j = xtOf m j by unfold xtOf; rw [u 28 _ (by decide) (by decide)]; exact rl_congr (fun x _ _ => u 29 _ (by decide) (by decide))]; exact b4
theorem MC_ext {m : mS} (hM : MC m) {j t : Int} (hj : 0 ≤ j ∧ j < m 10 0) (ht : 0 ≤ t ∧ t ≤ 21038399) (h8 : m 28 j ≠ 8) : MC (up (up m 29 (8 * j + m 28 j) t) 28 j (m 28 j + 1)) := by
  obtain ⟨⟨a1, a2, a3, a4⟩, ⟨b1, b2, b3, b4⟩, d1, d2, d3⟩ := mc_l hM hj
  have hr := rg_up (rg_up hM.1 29 (8 * j + m 28 j) (v := t) (by omega)) 28 j (v := m 28 j + 1) (by omega)
  have u : ∀ k z, k ≠ 28 → k ≠ 29 → up (up m 29 (8 * j + m 28 j) t) 28 j (m 28 j + 1) k z = m k z := fun k z q r => by rw [up_k _ _ _ _ q, up_k _ _ _ _ r]
  have u28 : ∀ z, up (up m 29 (8 * j + m 28 j) t) 28 j (m 28 j + 1) 28 z = if z = j then m 28 j + 1 else m 28 z := fun z => by rw [up_z, up_k _ _ _ _ (by decide)]
  have u29 : ∀ z, up (up m 29 (8 * j + m 28 j) t) 28 j (m 28 j + 1) 29 z = if z = 8 * j + m 28 j then t else m 29 z := fun z => by rw [up_k _ _ _ _ (by decide), up_z]
  generalize up (up m 29 (8 * j + m 28 j) t) 28 j (m 28 j + 1) = m' at *
  refine MC_jc hM hr hj (fun k z q => u k z (by omega) (by omega)) (fun k z q r => ?_) (fun k z q r => u k z (by omega) (by omega)) (fun z _ => u 21 z (by decide) (by decide)) (fun z _ => by rw [u29, if_neg (by omega)]) (by rw [u 17 _ (by decide) (by decide)]; exact a1) (by rw [u 20 _ (by decide) (by decide)]; exact a2) (by rw [u28, if_pos rfl]; omega) (by rw [u 22 _ (by decide) (by decide)]; exact a4) ?_ ?_ ?_ ?_ (by rw [u 23 _ (by decide) (by decide)]; exact d1) (by rw [u 24 _ (by decide) (by decide)]; exact d2) (by rw [u 25 _ (by decide) (by decide)]; exact d3)
  · by_cases c : k = 28
    · subst c; rw [u28, if_neg q]
    · exact u k z c (by omega)
  · rw [show nwOf m' j = nwOf m j by unfold nwOf; rw [u 17 _ (by decide) (by decide)]; exact rl_congr (fun x _ _ => u 18 _ (by decide) (by decide))]; exact b1
  · rw [show nnOf m' j = nnOf m j by unfold nnOf; rw [u 17 _ (by decide) (by decide)]; exact rl_congr (fun x _ _ => u 19 _ (by decide) (by decide))]; exact b2
  · rw [show exOf m' j = exOf m j by unfold exOf; rw [u 20 _ (by decide) (by decide)]; exact rl_congr (fun x _ _ => u 21 _ (by decide) (by decide))]; exact b3
  · unfold xtOf
    simp only [u28, u29, if_true]
    exact rl_up ht b4
theorem MC_after {m : mS} (hM : MC m) {j o : Int} (h : afO m j o) (hb : afB m j o = false) (h3 : m 26 j ≠ 3) : MC (up (up m 27 (3 * j + m 26 j) o) 26 j (m 26 j + 1)) := by
  obtain ⟨hj, ho⟩ := h
  have c10 := hM.2.2.2.1
  obtain ⟨jI0, -, cJ0, -, e0⟩ := hM.2.2.2.2.2.1 j hj.1 (by omega)
  have o3 := hM.2.2.2.2.2.2
  have o0 := o3 j hj.1 (by omega)
  have hr := rg_up (rg_up hM.1 27 (3 * j + m 26 j) (v := o) (by omega)) 26 j (v := m 26 j + 1) (by omega)
  have au := awO_up o3 (j := j) (o := o) (by omega) h3 j (by omega)
  rw [if_pos rfl] at au
  have u : ∀ k z, k ≠ 26 → k ≠ 27 → up (up m 27 (3 * j + m 26 j) o) 26 j (m 26 j + 1) k z = m k z := fun k z q r => by rw [up_k _ _ _ _ q, up_k _ _ _ _ r]
  have u26 : ∀ z, up (up m 27 (3 * j + m 26 j) o) 26 j (m 26 j + 1) 26 z = if z = j then m 26 j + 1 else m 26 z := fun z => by rw [up_z, up_k _ _ _ _ (by decide)]
  have u27 : ∀ z, up (up m 27 (3 * j + m 26 j) o) 26 j (m 26 j + 1) 27 z = if z = 3 * j + m 26 j then o else m 27 z := fun z => by rw [up_k _ _ _ _ (by decide), up_z]
  generalize up (up m 27 (3 * j + m 26 j) o) 26 j (m 26 j + 1) = m' at *
  have tb : (awO m j).testBit o.toNat = false := by
    unfold afB at hb
    rw [Bool.or_eq_false_iff] at hb
    exact hb.2
  have al := awO_lt o3 (j := j) (by omega)
  have pa := pop_add (awO m j) al o.toNat (by omega) tb
  refine MC_jb hM hr hj (fun k z q => u k z (by omega) (by omega)) (fun k z q r => ?_) (fun k z q r => ?_) (fun z _ => u 21 z (by decide) (by decide)) (fun z _ => u 29 z (by decide) (by decide)) ?_ ?_ ?_
  · by_cases c : k = 26
    · subst c; rw [u26, if_neg q]
    · exact u k z c (by omega)
  · by_cases c : k = 27
    · subst c; rw [u27, if_neg (by omega)]
    · exact u k z (by omega) c
  · exact jI_same jI0 (zI_cfg (m := m) (m' := m') (fun k z _ _ => u k z (by omega) (by omega))) (fun k q => u k j (by omega) (by omega)) (by unfold nwOf; rw [u 17 _ (by decide) (by decide)]; exact rl_congr (fun x _ _ => u 18 _ (by decide) (by decide))) (by unfold nnOf; rw [u 17 _ (by decide) (by decide)]; exact rl_congr (fun x _ _ => u 19 _ (by decide) (by decide))) (by unfold exOf; rw [u 20 _ (by decide) (by decide)]; exact rl_congr (fun x _ _ => u 21 _ (by decide) (by decide))) (by unfold xtOf; rw [u 28 _ (by decide) (by decide)]; exact rl_congr (fun x _ _ => u 29 _ (by decide) (by decide)))
  · unfold cJ
    rw [au, u 23 _ (by decide) (by decide), u 24 _ (by decide) (by decide), u 25 _ (by decide) (by decide), u26, if_pos rfl, pa]
    exact ⟨cJ0.1, cJ0.2.1, cJ0.2.2.1, by have := cJ0.2.2.2; omega⟩
  · rw [u26, if_pos rfl]
    refine ⟨by have := o0.1; omega, fun i i0 i1 => ?_⟩
    rw [u27]
    split
    · exact ho
    · exact ⟨(o0.2 i i0 (by omega)).1, (e0 hj.2).2 i i0 (by omega)⟩
