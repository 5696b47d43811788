/-! one letter handed over, on both sides -/
theorem umN_bit (m : mS) (w : Nat) (mi : Int) (t : Nat) : ∀ n, (umN m w mi n).testBit t = (decide (t < n) && (w.testBit t && mwB m t mi)) := by
  intro n
  induction n with
  | zero => unfold umN; simp
  | succ n ih =>
    unfold umN
    by_cases c : (w.testBit n && mwB m n mi) = true
    · rw [if_pos c, Nat.testBit_or, ih, Nat.testBit_two_pow]
      by_cases ct : t = n
      · subst ct
        rw [c]
        simp
      · rw [decide_eq_false (show ¬ n = t by omega), Bool.or_false]
        congr 1
        rw [decide_eq_decide]
        omega
    · rw [if_neg c, ih]
      by_cases ct : t = n
      · subst ct
        have c' : (w.testBit t && mwB m t mi) = false := by simpa using c
        rw [c', Bool.and_false, Bool.and_false]
      · congr 1
        rw [decide_eq_decide]
        omega
theorem uwN_bit {m : mS} {j v : Int} (t : Nat) : ∀ n : Nat, (∀ i : Nat, i < n → 0 ≤ m 27 (3 * j + i) ∧ m 27 (3 * j + i) < 12) → ((uwN m j v n).testBit t = true ↔ (∃ i : Nat, i < n ∧ m 27 (3 * j + i) = t) ∧ mwB m t v = true) := by
  intro n
  induction n with
  | zero => intro _; unfold uwN; simp
  | succ n ih =>
    intro h
    have h1 := ih (fun i hi => h i (by omega))
    have h2 := h n (by omega)
    unfold uwN
    rw [Nat.testBit_or, Bool.or_eq_true, h1]
    constructor
    · rintro (⟨⟨i, i1, i2⟩, q⟩ | q)
      · exact ⟨⟨i, by omega, i2⟩, q⟩
      · by_cases c : mwB m (m 27 (3 * j + n)) v = true
        · rw [if_pos c, Nat.testBit_two_pow, decide_eq_true_iff] at q
          have e : m 27 (3 * j + n) = (t : Int) := by omega
          rw [e] at c
          exact ⟨⟨n, by omega, e⟩, c⟩
        · rw [if_neg c, Nat.zero_testBit] at q; cases q
    · rintro ⟨⟨i, i1, i2⟩, q⟩
      by_cases c : i = n
      · right
        rw [c] at i2
        rw [i2, if_pos q, Nat.testBit_two_pow, decide_eq_true_iff]
        omega
      · left; exact ⟨⟨i, by omega, i2⟩, q⟩
theorem um_uw {m : mS} (hM : MC m) {j : Int} (hj : 0 ≤ j ∧ j < m 10 0) (v : Int) : umN m (awO m j) v (m 10 0).toNat = uwN m j v (m 26 j).toNat := by
  have h10 := hM.2.2.2.1
  obtain ⟨k1, k2⟩ := hM.2.2.2.2.2.2 j hj.1 (by omega)
  have k3 := ((hM.2.2.2.2.2.1 j hj.1 (by omega)).2.2.2.2 hj.2).2
  have rr : ∀ i : Nat, i < (m 26 j).toNat → 0 ≤ m 27 (3 * j + i) ∧ m 27 (3 * j + i) < 12 := fun i hi => k2 i (by omega) (by omega)
  apply Nat.eq_of_testBit_eq
  intro t
  rw [Bool.eq_iff_iff, umN_bit, uwN_bit t _ rr, Bool.and_eq_true, Bool.and_eq_true, decide_eq_true_iff]
  have ab := awN_bit t _ rr
  show (t < (m 10 0).toNat ∧ (awN m j (m 26 j).toNat).testBit t = true ∧ mwB m t v = true) ↔ _
  rw [ab]
  constructor
  · rintro ⟨-, a, b⟩; exact ⟨a, b⟩
  · rintro ⟨⟨i, i1, i2⟩, b⟩
    have := k3 i (by omega) (by omega)
    exact ⟨by omega, ⟨i, i1, i2⟩, b⟩
theorem mw_of {m m' : mS} (h : cfg m m') (h46 : ∀ z, m' 46 z = m 46 z) (h47 : ∀ z, m' 47 z = m 47 z) (j mi : Int) : mwB m' j mi = mwB m j mi := by
  unfold mwB dsB pcP
  simp only [cfg_ss h, cfg_os h, cfg_due h, h46, h47, h 11 _ rfl, h 2 _ rfl]
theorem uwN_of {m m' : mS} (h : cfg m m') (h46 : ∀ z, m' 46 z = m 46 z) (h47 : ∀ z, m' 47 z = m 47 z) (h27 : ∀ z, m' 27 z = m 27 z) (j v : Int) : ∀ n, uwN m' j v n = uwN m j v n := by
  intro n
  induction n with
  | zero => rfl
  | succ n ih => unfold uwN; rw [ih, h27, mw_of h h46 h47]
theorem REL_dec {s m : mS} (hR : REL s m) (hH : RH s m) (hM : MC m) (hP : MP m) (h51 : m 51 0 ≤ 1900000000) {sc j : Int} (hsc : 0 ≤ sc ∧ sc < 3) (hj : 0 ≤ j ∧ j < m 10 0) (h1 : m 36 (12 * sc + j) = 1) (hF : ffd (dueJ m j) (mrd m (12 * sc + j) 38 (12 * sc + j) + 1) (m 0 0) = 2147483647 ∨ (0 ≤ ffd (dueJ m j) (mrd m (12 * sc + j) 38 (12 * sc + j) + 1) (m 0 0) ∧ ffd (dueJ m j) (mrd m (12 * sc + j) 38 (12 * sc + j) + 1) (m 0 0) ≤ 21038399)) (hV : dmin m m j (mrd m (12 * sc + j) 38 (12 * sc + j)) = 2147483647 ∨ (0 ≤ dmin m m j (mrd m (12 * sc + j) 38 (12 * sc + j)) ∧ dmin m m j (mrd m (12 * sc + j) 38 (12 * sc + j)) ≤ 21038399)) (h39 : -2147483648 ≤ mrd m (12 * sc + j) 39 (12 * sc + j) ∧ mrd m (12 * sc + j) 39 (12 * sc + j) ≤ 2000000000) : REL (cdec (crd s (12 * sc + j) 61) m sc j (m 10 0)) (mdec (mrd m (12 * sc + j)) sc j) := by
  have h10 := hM.2.2.2.1
  have hi : 0 ≤ 12 * sc + j ∧ 12 * sc + j < 36 := by omega
  obtain ⟨d1, d2⟩ := rd_eq hR hH hi h1
  have hr := hM.1
  unfold cdec mdec
  rw [d1]
  have cf := mrd_cfg m (12 * sc + j)
  have k0 : ∀ k z, k ≠ 37 → k ≠ 38 → k ≠ 39 → mrd m (12 * sc + j) k z = m k z := fun k z a b c => mrd_k _ _ _ _ a b c
  have s0 : ∀ k z, shd k = true → crd s (12 * sc + j) 61 k z = m k z := fun k z h => by
    rw [crd_z _ _ _ _ _ (Or.inr ⟨by intro e; rw [e] at h; revert h; decide, by intro e; rw [e] at h; revert h; decide⟩)]
    exact hR.1 k z h
  have s61 : crd s (12 * sc + j) 61 61 j = awO m j := by
    rw [crd_z _ _ _ _ _ (Or.inr ⟨by decide, by decide⟩)]
    exact (hR.2.2.2.2.1 j hj.1 hj.2).2
  have le : lat (crd s (12 * sc + j) 61) j = lat m j := by unfold lat; rw [s0 23 j rfl, s0 24 j rfl]
  have lm : lat (mrd m (12 * sc + j)) j = lat m j := by unfold lat; rw [k0 23 j (by decide) (by decide) (by decide), k0 24 j (by decide) (by decide) (by decide)]
  have de : ∀ u, dmin (crd s (12 * sc + j) 61) m j u = dmin m m j u := fun u => by unfold dmin; rw [le, s0 23 j rfl, s0 0 0 rfl]
  have dm : ∀ u, dmin (mrd m (12 * sc + j)) (mrd m (12 * sc + j)) j u = dmin m m j u := fun u => by unfold dmin; rw [lm, cfg_due cf, k0 23 j (by decide) (by decide) (by decide), k0 0 0 (by decide) (by decide) (by decide)]
  rw [de, dm, cfg_due cf, s0 0 0 rfl, k0 0 0 (by decide) (by decide) (by decide)]
  generalize hu0 : mrd m (12 * sc + j) 38 (12 * sc + j) = u at *
  generalize hfi : ffd (dueJ m j) (u + 1) (m 0 0) = first at *
  generalize hmi : dmin m m j u = mi at *
  have ue : dunm (crd s (12 * sc + j) 61) m j mi (m 10 0) = munm (mrd m (12 * sc + j)) j mi := by
    unfold dunm munm
    rw [s61, Int.toNat_natCast, k0 26 j (by decide) (by decide) (by decide), uwN_of cf (fun z => k0 46 z (by decide) (by decide) (by decide)) (fun z => k0 47 z (by decide) (by decide) (by decide)) (fun z => k0 27 z (by decide) (by decide) (by decide)), um_uw hM hj]
  have ur : 0 ≤ munm (mrd m (12 * sc + j)) j mi ∧ munm (mrd m (12 * sc + j)) j mi < 4096 := by
    rw [← ue]
    unfold dunm
    split
    · omega
    · have ul := umN_lt m (crd s (12 * sc + j) 61 61 j).toNat mi (m 10 0).toNat (by omega)
      have u12 : (2 : Nat) ^ (m 10 0).toNat ≤ 2 ^ 12 := Nat.pow_le_pow_right (by decide) (by omega)
      omega
  rw [ue]
  generalize munm (mrd m (12 * sc + j)) j mi = un at *
  unfold cdec2 mdec2
  rw [s0 25 j rfl, s0 35 _ rfl, s0 30 _ rfl, s0 0 0 rfl, k0 25 j (by decide) (by decide) (by decide), k0 35 _ (by decide) (by decide) (by decide), k0 30 _ (by decide) (by decide) (by decide), k0 0 0 (by decide) (by decide) (by decide)]
  by_cases c : un ≠ 0 ∨ first = 2147483647 ∨ m 25 j ≠ 0 ∨ m 35 (12 * sc + j) < m 30 (12 * sc + j)
  · rw [if_pos c, if_pos c]
    exact REL_decA hR _ j un (by omega)
  · rw [if_neg c, if_neg c]
    have hf1 : first ≠ 2147483647 := fun q => c (Or.inr (Or.inl q))
    have RB := REL_decB hR hH hi h1 j un mi first (by omega) hV hf1 (by omega) hM.2.1 h39 hr
    unfold cwr
    obtain ⟨q1, q2, q3, q4, q5, q6⟩ := cclm_rd (up (crd s (12 * sc + j) 61) 44 j un) (12 * sc + j) mi (m 0 0) (if first < mi then 1 else 0)
    have t35 : cclm (up (crd s (12 * sc + j) 61) 44 j un) (12 * sc + j) mi (m 0 0) (if first < mi then 1 else 0) 35 (12 * sc + j) = m 35 (12 * sc + j) := by
      rw [q6 35 _ (by omega), up_k _ _ _ _ (by decide), s0 35 _ rfl]
    rw [up_k _ _ _ _ (by decide), d2] at q5
    rw [t35, q4, q5]
    have km : ∀ k, k ≠ 44 → k ≠ 41 → k ≠ 40 → k ≠ 36 → k ≠ 31 → k ≠ 32 → k ≠ 33 → k ≠ 37 → k ≠ 38 → k ≠ 39 → ∀ z U g, mcl0 (mrd m (12 * sc + j)) (12 * sc + j) j first mi un U g k z = m k z := by
      intro k a1 a2 a3 a4 a5 a6 a7 a8 a9 a10 z U g
      unfold mcl0
      rw [up_k _ _ _ _ a7, up_k _ _ _ _ a6, up_k _ _ _ _ a5, up_k _ _ _ _ a4, up_k _ _ _ _ a3, up_k _ _ _ _ a2, up_k _ _ _ _ a1, k0 k z a8 a9 a10]
    have hU : -2147483648 ≤ (if mi = 2147483647 then m 0 0 else mi) ∧ (if mi = 2147483647 then m 0 0 else mi) ≤ 2147483647 := by have := hM.2.1; split <;> omega
    have hg : -2147483648 ≤ (if mi = 2147483647 then mrd m (12 * sc + j) 39 (12 * sc + j) else mrd m (12 * sc + j) 39 (12 * sc + j) + 1) ∧ (if mi = 2147483647 then mrd m (12 * sc + j) 39 (12 * sc + j) else mrd m (12 * sc + j) 39 (12 * sc + j) + 1) ≤ 2147483647 := by split <;> omega
    exact (REL_sto RB (by rw [km 53 (by decide) (by decide) (by decide) (by decide) (by decide) (by decide) (by decide) (by decide) (by decide) (by decide)]; exact hP.2.1) (by rw [km 51 (by decide) (by decide) (by decide) (by decide) (by decide) (by decide) (by decide) (by decide) (by decide) (by decide)]; exact h51) 2 sc j (m 35 (12 * sc + j)) _ _ (by omega) (by omega) (by omega) (rg_of hr 35 _) hU hg).1
theorem REL_tk {s m : mS} (hR : REL s m) (hH : RH s m) (hM : MC m) (hE : ME m) (h52 : m 52 0 ≤ 2000000000) {j d : Int} (hj : 0 ≤ j ∧ j < m 10 0) (h46 : m 46 j ≤ 298) : REL (if s 43 d = 0 then chd s j (s 54 (8 * 61 + 5)) (s 54 (8 * 61 + 4)) else s) (mtk m d j) := by
  have h10 := hM.2.2.2.1
  have hr := hM.1
  have h4 := hH 4 (by omega) (by omega)
  have h5 := hH 5 (by omega) (by omega)
  unfold mtk
  rw [hR.1 43 d rfl, h4, h5]
  by_cases c : m 43 d = 0
  · rw [if_pos c, if_neg (by omega)]
    obtain ⟨e1, e2, e3⟩ := hE j hj.1 (by omega)
    have eI1 := (hM.2.2.2.2.2.1 j hj.1 (by omega)).2.1.1
    have jr := (hR.2.2.2.2.1 j hj.1 hj.2).1
    have w13 := jr.2.2.2.2.2.2.1
    have w14 := jr.2.2.2.2.2.2.2
    have l13 : s 100 (13 + 6 * j) = m 46 j := by have h1 := xr_len w13; rw [jr.1.2.2.2.2.1] at h1; rw [← h1]; exact rl_len _ eI1.1
    have l14 : s 100 (14 + 6 * j) = m 46 j := by have h1 := xr_len w14; rw [jr.1.2.2.2.2.2] at h1; rw [← h1]; exact rl_len _ eI1.1
    have lg : lgd s j = m 50 j := by
      unfold lgd
      rw [l14, jr.1.2.2.2.2.2, e3]
      by_cases c0 : m 46 j = 0
      · rw [if_pos c0, c0]; rfl
      · rw [if_neg c0]
        unfold egOf
        exact gz_rl _ (by omega) (by omega)
    have lm : lmn s j = m 49 j := by rw [lmn_m hR hM hj, e2]
    unfold chd ctk
    rw [lg, lm]
    by_cases c2 : m 50 j < m 55 4 ∧ m 49 j < m 55 5
    · rw [if_pos c2, if_pos c2, if_pos c2]
      obtain ⟨-, -, -, -, q13, q14⟩ := rlim_j hj.1
      have um : ∀ k z, ¬ (46 ≤ k ∧ k ≤ 50) → up (up (up (up (up m 50 j (m 55 4)) 49 j (m 55 5)) 47 (300 * j + m 46 j) (m 55 5)) 48 (300 * j + m 46 j) (m 55 4)) 46 j (m 46 j + 1) k z = m k z := fun k z h => by
        rw [up_k _ _ _ _ (by omega), up_k _ _ _ _ (by omega), up_k _ _ _ _ (by omega), up_k _ _ _ _ (by omega), up_k _ _ _ _ (by omega)]
      have RA := REL_add2 (r1 := 4) (v1 := m 55 5) (r2 := 5) (v2 := m 55 4) (m' := up (up (up (up (up m 50 j (m 55 4)) 49 j (m 55 5)) 47 (300 * j + m 46 j) (m 55 5)) 48 (300 * j + m 46 j) (m 55 4)) 46 j (m 46 j + 1)) hR hM hj (by omega) (by omega) (by omega) (by rw [show 9 + 6 * j + 4 = 13 + 6 * j by omega]; omega) (by rw [show 9 + 6 * j + 5 = 14 + 6 * j by omega]; omega) (rg_of hr 55 5) (rg_of hr 55 4) (fun k z q => um k z (by omega)) (fun j' r' a b r1 r2 => ?_)
      · rw [show 9 + 6 * j + 4 = 13 + 6 * j by omega, show 9 + 6 * j + 5 = 14 + 6 * j by omega] at RA
        exact RA
      · have jb := (hM.2.2.2.2.2.1 j' a (by omega)).2.1.1
        generalize hm' : up (up (up (up (up m 50 j (m 55 4)) 49 j (m 55 5)) 47 (300 * j + m 46 j) (m 55 5)) 48 (300 * j + m 46 j) (m 55 4)) 46 j (m 46 j + 1) = m' at *
        have m46 : ∀ z, m' 46 z = if z = j then m 46 j + 1 else m 46 z := fun z => by
          rw [← hm', up_z]
          split
          · rfl
          · rw [up_k _ _ _ _ (by decide), up_k _ _ _ _ (by decide), up_k _ _ _ _ (by decide), up_k _ _ _ _ (by decide)]
        have m47 : ∀ z, m' 47 z = if z = 300 * j + m 46 j then m 55 5 else m 47 z := fun z => by
          rw [← hm', up_k _ _ _ _ (by decide), up_k _ _ _ _ (by decide), up_z, up_k _ _ _ _ (by decide), up_k _ _ _ _ (by decide)]
        have m48 : ∀ z, m' 48 z = if z = 300 * j + m 46 j then m 55 4 else m 48 z := fun z => by
          rw [← hm', up_k _ _ _ _ (by decide), up_z, up_k _ _ _ _ (by decide), up_k _ _ _ _ (by decide), up_k _ _ _ _ (by decide)]
        have f1 : nwOf m' j' = nwOf m j' := by unfold nwOf; simp only [um 17 _ (by omega), um 18 _ (by omega)]
        have f2 : nnOf m' j' = nnOf m j' := by unfold nnOf; simp only [um 17 _ (by omega), um 19 _ (by omega)]
        have f3 : exOf m' j' = exOf m j' := by unfold exOf; simp only [um 20 _ (by omega), um 21 _ (by omega)]
        have f4 : xtOf m' j' = xtOf m j' := by unfold xtOf; simp only [um 28 _ (by omega), um 29 _ (by omega)]
        have f5 : efOf m' j' = if j' = j then efOf m j ++ [m 55 5] else efOf m j' := by
          unfold efOf
          rw [m46]
          by_cases cj : j' = j
          · subst cj
            rw [if_pos rfl, if_pos rfl, rl_succ _ eI1.1, m47, if_pos rfl]
            congr 1
            refine rl_congr (fun k k1 k2 => ?_)
            rw [m47, if_neg (by omega)]
          · rw [if_neg cj, if_neg cj]
            refine rl_congr (fun k k1 k2 => ?_)
            rw [m47, if_neg (by omega)]
        have f6 : egOf m' j' = if j' = j then egOf m j ++ [m 55 4] else egOf m j' := by
          unfold egOf
          rw [m46]
          by_cases cj : j' = j
          · subst cj
            rw [if_pos rfl, if_pos rfl, rl_succ _ eI1.1, m48, if_pos rfl]
            congr 1
            refine rl_congr (fun k k1 k2 => ?_)
            rw [m48, if_neg (by omega)]
          · rw [if_neg cj, if_neg cj]
            refine rl_congr (fun k k1 k2 => ?_)
            rw [m48, if_neg (by omega)]
        have rc : r' = 0 ∨ r' = 1 ∨ r' = 2 ∨ r' = 3 ∨ r' = 4 ∨ r' = 5 := by omega
        unfold jl
        rcases rc with rfl | rfl | rfl | rfl | rfl | rfl
        · simp [f1]
        · simp [f2]
        · simp [f3]
        · simp [f4]
        · simp [f5]
        · simp [f6]
    · rw [if_neg c2, if_neg c2, hR.1 52 0 rfl]
      have q52 := rg_of hr 52 0
      exact REL_up hR 52 0 _ rfl (by decide) (by omega)
  · rw [if_neg c, if_pos c]
    exact hR
