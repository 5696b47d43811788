/-! settings keep what is always so -/
theorem zI_same {m m' : mS} {z : Int} (h : zI m z) (h2 : m' 2 z = m 2 z) (h5 : m' 5 z = m 5 z) (h3 : ∀ k, 0 ≤ k → k < 10 → m' 3 (10 * z + k) = m 3 (10 * z + k)) (h4 : ∀ k, 0 ≤ k → k < 10 → m' 4 (10 * z + k) = m 4 (10 * z + k)) (h6 : ∀ k, 0 ≤ k → k < 20 → m' 6 (20 * z + k) = m 6 (20 * z + k)) : zI m' z := by
  have b2 := h.2.1
  have b5 := h.2.2.1
  have e1 : ssOf m' z = ssOf m z := by
    unfold ssOf
    rw [h2]
    refine rl_congr (fun k k0 k1 => ?_)
    by_cases c : k = 0
    · rw [if_pos c, if_pos c]
    · rw [if_neg c, if_neg c, show 10 * z + k - 1 = 10 * z + (k - 1) by omega, h3 _ (by omega) (by omega)]
  have e2 : osOf m' z = osOf m z := by
    unfold osOf
    rw [h2]
    refine rl_congr (fun k k0 k1 => ?_)
    by_cases c : k = 0
    · rw [if_pos c, if_pos c]
    · rw [if_neg c, if_neg c, show 10 * z + k - 1 = 10 * z + (k - 1) by omega, h4 _ (by omega) (by omega)]
  have e3 : hsOf m' z = hsOf m z := by
    unfold hsOf
    rw [h5]
    exact rl_congr (fun k k0 k1 => h6 k k0 (by omega))
  unfold zI
  rw [e1, e2, e3, h2, h5]
  exact h
theorem zI_cfg {m m' : mS} (h : ∀ k z, 2 ≤ k → k ≤ 6 → m' k z = m k z) (z : Int) (hz : zI m z) : zI m' z :=
  zI_same hz (h 2 z (by omega) (by omega)) (h 5 z (by omega) (by omega)) (fun k _ _ => h 3 _ (by omega) (by omega)) (fun k _ _ => h 4 _ (by omega) (by omega)) (fun k _ _ => h 6 _ (by omega) (by omega))
theorem jI_same {m m' : mS} {j : Int} (h : jI m j) (hz : ∀ z, zI m z → zI m' z) (h1 : ∀ k, (11 ≤ k ∧ k ≤ 17) ∨ k = 20 ∨ k = 22 ∨ k = 28 → m' k j = m k j) (l1 : nwOf m' j = nwOf m j) (l2 : nnOf m' j = nnOf m j) (l3 : exOf m' j = exOf m j) (l4 : xtOf m' j = xtOf m j) : jI m' j := by
  have ms : msOf m' j 0 = msOf m j 0 ∧ msOf m' j 1 = msOf m j 1 ∧ msOf m' j 2 = msOf m j 2 ∧ msOf m' j 3 = msOf m j 3 ∧ msOf m' j 4 = msOf m j 4 := by
    unfold msOf
    exact ⟨by rw [h1 12 (by omega)], by rw [h1 13 (by omega)], by rw [h1 14 (by omega)], by rw [h1 15 (by omega)], by rw [h1 16 (by omega)]⟩
  unfold jI
  rw [l1, l2, l3, l4, rok_ms _ _ _ _ _ ms, h1 11 (by omega), h1 12 (by omega), h1 13 (by omega), h1 14 (by omega), h1 15 (by omega), h1 16 (by omega), h1 17 (by omega), h1 20 (by omega), h1 28 (by omega), h1 22 (by omega)]
  exact ⟨h.1, hz _ h.2.1, h.2.2⟩
theorem eI_same {m m' : mS} {j : Int} (h : eI m j) (hk : ∀ k z, 46 ≤ k → k ≤ 47 → m' k z = m k z) : eI m' j := by
  unfold eI
  rw [hk 46 j (by omega) (by omega)]
  refine ⟨h.1, fun i i1 i2 => ?_⟩
  rw [hk 47 _ (by omega) (by omega)]
  exact h.2 i i1 i2
/-- a change of a zone that is there -/
theorem MC_zn {m m' : mS} (hM : MC m) (hr : rg m') (hk : ∀ k z, k < 2 ∨ 7 ≤ k → m' k z = m k z) (hz : ∀ z, zI m z → zI m' z) (h0 : ∀ z, m 1 0 ≤ z → z < 3 → m' 2 z = m 2 z ∧ m' 5 z = m 5 z) : MC m' := by
  obtain ⟨-, c0, c1, c10, cz, cj, co⟩ := hM
  have e0 := hk 0 0 (by omega)
  have e1 := hk 1 0 (by omega)
  have e10 := hk 10 0 (by omega)
  have aw : ∀ j, awO m' j = awO m j := fun j => awO_of (fun z => hk 27 z (by omega)) (fun z => hk 26 z (by omega))
  unfold MC
  rw [e0, e1, e10]
  refine ⟨hr, c0, c1, c10, fun z z0 z1 => ?_, fun j j0 j1 => ?_, fun j j0 j1 => ?_⟩
  · obtain ⟨a, b⟩ := cz z z0 z1
    refine ⟨hz z a, fun q => ?_⟩
    obtain ⟨r1, r2⟩ := h0 z q z1
    rw [r1, r2]; exact b q
  · obtain ⟨a, b, c, d, e⟩ := cj j j0 j1
    refine ⟨jI_same a hz (fun k q => hk k j (by omega)) (by unfold nwOf; simp only [hk 17 _ (Or.inr (by decide)), hk 18 _ (Or.inr (by decide))]) (by unfold nnOf; simp only [hk 17 _ (Or.inr (by decide)), hk 19 _ (Or.inr (by decide))]) (by unfold exOf; simp only [hk 20 _ (Or.inr (by decide)), hk 21 _ (Or.inr (by decide))]) (by unfold xtOf; simp only [hk 28 _ (Or.inr (by decide)), hk 29 _ (Or.inr (by decide))]), eI_same b (fun k z _ _ => hk k z (by omega)), ?_, fun q => ?_, fun q => ?_⟩
    · unfold cJ
      rw [aw, hk 23 _ (by omega), hk 24 _ (by omega), hk 25 _ (by omega), hk 26 _ (by omega)]
      exact c
    · unfold zJ
      rw [hk 12 _ (by omega), hk 13 _ (by omega), hk 14 _ (by omega), hk 15 _ (by omega), hk 16 _ (by omega), hk 17 _ (by omega), hk 20 _ (by omega), hk 28 _ (by omega), hk 22 _ (by omega), hk 23 _ (by omega), hk 24 _ (by omega), hk 25 _ (by omega), hk 26 _ (by omega), hk 44 _ (by omega), hk 45 _ (by omega), hk 46 _ (by omega)]
      exact d q
    · rw [hk 11 _ (by omega), hk 26 _ (by omega)]
      refine ⟨(e q).1, fun i i0 i1 => ?_⟩
      rw [hk 27 _ (by omega)]
      exact (e q).2 i i0 i1
  · rw [hk 26 _ (by omega)]
    refine ⟨(co j j0 j1).1, fun i i0 i1 => ?_⟩
    rw [hk 27 _ (by omega)]
    exact (co j j0 j1).2 i i0 i1
/-- a change of one job that is there -/
theorem MC_jb {m m' : mS} (hM : MC m) (hr : rg m') {j0 : Int} (hj : 0 ≤ j0 ∧ j0 < m 10 0) (hk : ∀ k z, k < 12 ∨ 30 ≤ k → m' k z = m k z) (hs1 : ∀ k z, z ≠ j0 → (12 ≤ k ∧ k ≤ 17) ∨ k = 20 ∨ (22 ≤ k ∧ k ≤ 26) ∨ k = 28 → m' k z = m k z) (hs3 : ∀ k z, k = 18 ∨ k = 19 ∨ k = 27 → z < 3 * j0 ∨ 3 * j0 + 3 ≤ z → m' k z = m k z) (hs6 : ∀ z, z < 6 * j0 ∨ 6 * j0 + 6 ≤ z → m' 21 z = m 21 z) (hs8 : ∀ z, z < 8 * j0 ∨ 8 * j0 + 8 ≤ z → m' 29 z = m 29 z) (hJ : jI m' j0) (hC : cJ m' j0) (hO : (0 ≤ m' 26 j0 ∧ m' 26 j0 ≤ 3) ∧ ∀ i, 0 ≤ i → i < m' 26 j0 → 0 ≤ m' 27 (3 * j0 + i) ∧ m' 27 (3 * j0 + i) < m 10 0) : MC m' := by
  obtain ⟨-, c0, c1, c10, cz, cj, co⟩ := hM
  have e0 := hk 0 0 (by omega)
  have e1 := hk 1 0 (by omega)
  have e10 := hk 10 0 (by omega)
  have hz := zI_cfg (m := m) (m' := m') (fun k z _ _ => hk k z (by omega))
  unfold MC
  rw [e0, e1, e10]
  refine ⟨hr, c0, c1, c10, fun z z0 z1 => ?_, fun j jj0 jj1 => ?_, fun j jj0 jj1 => ?_⟩
  · obtain ⟨a, b⟩ := cz z z0 z1
    rw [hk 2 z (by omega), hk 5 z (by omega)]
    exact ⟨hz z a, b⟩
  · obtain ⟨a, b, c, d, e⟩ := cj j jj0 jj1
    have co3 := (co j jj0 jj1).1
    have b17 := a.2.2.2.2.2.2.2.1
    have b20 := a.2.2.2.2.2.2.2.2.1
    have b28 := a.2.2.2.2.2.2.2.2.2.1
    by_cases cx : j = j0
    · subst cx
      refine ⟨hJ, eI_same b (fun k z _ _ => hk k z (by omega)), hC, fun q => absurd q (by omega), fun q => ⟨by rw [hk 11 _ (by omega)]; exact (e q).1, fun i i0 i1 => (hO.2 i i0 i1).2⟩⟩
    · have f := fun k q => hs1 k j cx q
      refine ⟨jI_same a hz (fun k q => ?_) ?_ ?_ ?_ ?_, eI_same b (fun k z _ _ => hk k z (by omega)), ?_, fun q => ?_, fun q => ?_⟩
      · by_cases c11 : k = 11
        · exact hk k j (by omega)
        · exact f k (by omega)
      · unfold nwOf; rw [f 17 (by omega)]; exact rl_congr (fun k k0 k1 => hs3 18 _ (by omega) (by omega))
      · unfold nnOf; rw [f 17 (by omega)]; exact rl_congr (fun k k0 k1 => hs3 19 _ (by omega) (by omega))
      · unfold exOf; rw [f 20 (by omega)]; exact rl_congr (fun k k0 k1 => hs6 _ (by omega))
      · unfold xtOf; rw [f 28 (by omega)]; exact rl_congr (fun k k0 k1 => hs8 _ (by omega))
      · have aw : awO m' j = awO m j := by
          unfold awO
          rw [f 26 (by omega)]
          have : ∀ n : Nat, (n : Int) ≤ 3 → awN m' j n = awN m j n := by
            intro n
            induction n with
            | zero => intro _; rfl
            | succ n ih =>
              intro hn
              show awN m' j n ||| 2 ^ (m' 27 (3 * j + n)).toNat = awN m j n ||| 2 ^ (m 27 (3 * j + n)).toNat
              rw [ih (by omega), hs3 27 _ (by omega) (by omega)]
          exact this _ (by omega)
        unfold cJ
        rw [aw, f 23 (by omega), f 24 (by omega), f 25 (by omega), f 26 (by omega)]
        exact c
      · unfold zJ
        rw [f 12 (by omega), f 13 (by omega), f 14 (by omega), f 15 (by omega), f 16 (by omega), f 17 (by omega), f 20 (by omega), f 28 (by omega), f 22 (by omega), f 23 (by omega), f 24 (by omega), f 25 (by omega), f 26 (by omega), hk 44 _ (by omega), hk 45 _ (by omega), hk 46 _ (by omega)]
        exact d q
      · rw [hk 11 _ (by omega), f 26 (by omega)]
        refine ⟨(e q).1, fun i i0 i1 => ?_⟩
        rw [hs3 27 _ (by omega) (by omega)]
        exact (e q).2 i i0 i1
  · by_cases cx : j = j0
    · subst cx
      exact ⟨hO.1, fun i i0 i1 => by have := hO.2 i i0 i1; omega⟩
    · have co3 := (co j jj0 jj1).1
      rw [hs1 26 j cx (by omega)]
      refine ⟨co3, fun i i0 i1 => ?_⟩
      rw [hs3 27 _ (by omega) (by omega)]
      exact (co j jj0 jj1).2 i i0 i1
theorem MC_now {m : mS} (hM : MC m) {t : Int} (ht : 0 ≤ t ∧ t ≤ 21038399) : MC (up m 0 0 t) := by
  have hk : ∀ k z, k ≠ 0 → up m 0 0 t k z = m k z := fun k z q => up_k _ _ _ _ q
  have hr := rg_up hM.1 0 0 (v := t) (by omega)
  obtain ⟨-, c0, c1, c10, cz, cj, co⟩ := hM
  have cf : cfg m (up m 0 0 t) := fun k z q => hk k z (by intro e; rw [e] at q; revert q; decide)
  unfold MC
  rw [up_e, hk 1 0 (by decide), hk 10 0 (by decide)]
  have aw : ∀ j, awO (up m 0 0 t) j = awO m j := fun j => awO_of (fun z => hk 27 z (by decide)) (fun z => hk 26 z (by decide))
  refine ⟨hr, ht, c1, c10, fun z z0 z1 => ?_, fun j j0 j1 => ?_, fun j j0 j1 => ?_⟩
  · rw [hk 2 z (by decide), hk 5 z (by decide), cfg_zI cf]
    exact cz z z0 z1
  · rw [cfg_jI cf, hk 11 j (by decide), hk 26 j (by decide)]
    obtain ⟨a, b, c, d, e⟩ := cj j j0 j1
    refine ⟨a, eI_same b (fun k z _ _ => hk k z (by omega)), ?_, fun q => ?_, fun q => ⟨(e q).1, fun i i0 i1 => ?_⟩⟩
    · unfold cJ
      rw [aw, hk 23 _ (by decide), hk 24 _ (by decide), hk 25 _ (by decide), hk 26 _ (by decide)]
      exact c
    · unfold zJ
      rw [hk 12 _ (by decide), hk 13 _ (by decide), hk 14 _ (by decide), hk 15 _ (by decide), hk 16 _ (by decide), hk 17 _ (by decide), hk 20 _ (by decide), hk 28 _ (by decide), hk 22 _ (by decide), hk 23 _ (by decide), hk 24 _ (by decide), hk 25 _ (by decide), hk 26 _ (by decide), hk 44 _ (by decide), hk 45 _ (by decide), hk 46 _ (by decide)]
      exact d q
    · rw [hk 27 _ (by decide)]; exact (e q).2 i i0 i1
  · rw [hk 26 _ (by decide)]
    refine ⟨(co j j0 j1).1, fun i i0 i1 => ?_⟩
    rw [hk 27 _ (by decide)]
    exact (co j j0 j1).2 i i0 i1
theorem MC_zone {m : mS} (hM : MC m) (h3 : m 1 0 ≠ 3) : MC (up m 1 0 (m 1 0 + 1)) := by
  have hk : ∀ k z, k ≠ 1 → up m 1 0 (m 1 0 + 1) k z = m k z := fun k z q => up_k _ _ _ _ q
  have hr := rg_up hM.1 1 0 (v := m 1 0 + 1) (by have := hM.2.2.1; omega)
  obtain ⟨-, c0, c1, c10, cz, cj, co⟩ := hM
  have cf : cfg m (up m 1 0 (m 1 0 + 1)) := fun k z q => hk k z (by intro e; rw [e] at q; revert q; decide)
  unfold MC
  rw [up_e, hk 0 0 (by decide), hk 10 0 (by decide)]
  have aw : ∀ j, awO (up m 1 0 (m 1 0 + 1)) j = awO m j := fun j => awO_of (fun z => hk 27 z (by decide)) (fun z => hk 26 z (by decide))
  refine ⟨hr, c0, by omega, c10, fun z z0 z1 => ?_, fun j j0 j1 => ?_, fun j j0 j1 => ?_⟩
  · rw [hk 2 z (by decide), hk 5 z (by decide), cfg_zI cf]
    exact ⟨(cz z z0 z1).1, fun q => (cz z z0 z1).2 (by omega)⟩
  · rw [cfg_jI cf, hk 11 j (by decide), hk 26 j (by decide)]
    obtain ⟨a, b, c, d, e⟩ := cj j j0 j1
    refine ⟨a, eI_same b (fun k z _ _ => hk k z (by omega)), ?_, fun q => ?_, fun q => ⟨by have := (e q).1; omega, fun i i0 i1 => ?_⟩⟩
    · unfold cJ
      rw [aw, hk 23 _ (by decide), hk 24 _ (by decide), hk 25 _ (by decide), hk 26 _ (by decide)]
      exact c
    · unfold zJ
      rw [hk 12 _ (by decide), hk 13 _ (by decide), hk 14 _ (by decide), hk 15 _ (by decide), hk 16 _ (by decide), hk 17 _ (by decide), hk 20 _ (by decide), hk 28 _ (by decide), hk 22 _ (by decide), hk 23 _ (by decide), hk 24 _ (by decide), hk 25 _ (by decide), hk 26 _ (by decide), hk 44 _ (by decide), hk 45 _ (by decide), hk 46 _ (by decide)]
      exact d q
    · rw [hk 27 _ (by decide)]; exact (e q).2 i i0 i1
  · rw [hk 26 _ (by decide)]
    refine ⟨(co j j0 j1).1, fun i i0 i1 => ?_⟩
    rw [hk 27 _ (by decide)]
    exact (co j j0 j1).2 i i0 i1
theorem MC_job {m : mS} (hM : MC m) (h12 : m 10 0 ≠ 12) {z : Int} (hz : 0 ≤ z ∧ z < m 1 0) : MC (up (up m 11 (m 10 0) z) 10 0 (m 10 0 + 1)) := by
  have hk : ∀ k y, k ≠ 10 → ¬ (k = 11 ∧ y = m 10 0) → up (up m 11 (m 10 0) z) 10 0 (m 10 0 + 1) k y = m k y := fun k y q r => by rw [up_k _ _ _ _ q, up_ne _ _ r]
  have c10 := hM.2.2.2.1
  have c1 := hM.2.2.1
  have hr := rg_up (rg_up hM.1 11 (m 10 0) (v := z) (by omega)) 10 0 (v := m 10 0 + 1) (by omega)
  have e11 : up (up m 11 (m 10 0) z) 10 0 (m 10 0 + 1) 11 (m 10 0) = z := by rw [up_k _ _ _ _ (by decide), up_e]
  obtain ⟨-, c0, -, -, cz, cj, co⟩ := hM
  have e10 : up (up m 11 (m 10 0) z) 10 0 (m 10 0 + 1) 10 0 = m 10 0 + 1 := up_e _ _ _ _
  generalize hm' : up (up m 11 (m 10 0) z) 10 0 (m 10 0 + 1) = m' at *
  have hzz := zI_cfg (m := m) (m' := m') (fun k y a b => hk k y (by omega) (by omega))
  have aw : ∀ j, awO m' j = awO m j := fun j => awO_of (fun y => hk 27 y (by decide) (by omega)) (fun y => hk 26 y (by decide) (by omega))
  unfold MC
  rw [e10, hk 0 0 (by decide) (by omega), hk 1 0 (by decide) (by omega)]
  refine ⟨hr, c0, c1, by omega, fun y y0 y1 => ?_, fun j j0 j1 => ?_, fun j j0 j1 => ?_⟩
  · rw [hk 2 y (by decide) (by omega), hk 5 y (by decide) (by omega)]
    exact ⟨hzz y (cz y y0 y1).1, (cz y y0 y1).2⟩
  · obtain ⟨a, b, c, d, e⟩ := cj j j0 j1
    have ll : nwOf m' j = nwOf m j ∧ nnOf m' j = nnOf m j ∧ exOf m' j = exOf m j ∧ xtOf m' j = xtOf m j := by
      unfold nwOf nnOf exOf xtOf
      rw [hk 17 _ (by decide) (by omega), hk 20 _ (by decide) (by omega), hk 28 _ (by decide) (by omega)]
      exact ⟨rl_congr (fun k _ _ => hk 18 _ (by decide) (by omega)), rl_congr (fun k _ _ => hk 19 _ (by decide) (by omega)), rl_congr (fun k _ _ => hk 21 _ (by decide) (by omega)), rl_congr (fun k _ _ => hk 29 _ (by decide) (by omega))⟩
    have ms : msOf m' j 0 = msOf m j 0 ∧ msOf m' j 1 = msOf m j 1 ∧ msOf m' j 2 = msOf m j 2 ∧ msOf m' j 3 = msOf m j 3 ∧ msOf m' j 4 = msOf m j 4 := by
      unfold msOf
      exact ⟨by rw [hk 12 _ (by decide) (by omega)], by rw [hk 13 _ (by decide) (by omega)], by rw [hk 14 _ (by decide) (by omega)], by rw [hk 15 _ (by decide) (by omega)], by rw [hk 16 _ (by decide) (by omega)]⟩
    refine ⟨?_, eI_same b (fun k y _ _ => hk k y (by omega) (by omega)), ?_, fun q => ?_, fun q => ?_⟩
    · unfold jI
      rw [ll.1, ll.2.1, ll.2.2.1, ll.2.2.2, rok_ms _ _ _ _ _ ms, hk 12 _ (by decide) (by omega), hk 13 _ (by decide) (by omega), hk 14 _ (by decide) (by omega), hk 15 _ (by decide) (by omega), hk 16 _ (by decide) (by omega), hk 17 _ (by decide) (by omega), hk 20 _ (by decide) (by omega), hk 28 _ (by decide) (by omega), hk 22 _ (by decide) (by omega)]
      refine ⟨a.1, ?_, a.2.2⟩
      by_cases cx : j = m 10 0
      · rw [cx, e11]; exact hzz z (cz z hz.1 (by omega)).1
      · rw [hk 11 j (by decide) (by omega)]; exact hzz _ a.2.1
    · unfold cJ
      rw [aw, hk 23 _ (by decide) (by omega), hk 24 _ (by decide) (by omega), hk 25 _ (by decide) (by omega), hk 26 _ (by decide) (by omega)]
      exact c
    · unfold zJ
      rw [hk 12 _ (by decide) (by omega), hk 13 _ (by decide) (by omega), hk 14 _ (by decide) (by omega), hk 15 _ (by decide) (by omega), hk 16 _ (by decide) (by omega), hk 17 _ (by decide) (by omega), hk 20 _ (by decide) (by omega), hk 28 _ (by decide) (by omega), hk 22 _ (by decide) (by omega), hk 23 _ (by decide) (by omega), hk 24 _ (by decide) (by omega), hk 25 _ (by decide) (by omega), hk 26 _ (by decide) (by omega), hk 44 _ (by decide) (by omega), hk 45 _ (by decide) (by omega), hk 46 _ (by decide) (by omega)]
      exact d (by omega)
    · rw [hk 26 _ (by decide) (by omega)]
      by_cases cx : j = m 10 0
      · have z26 := (d (by omega)).2.1.2.2.2.2.2.2.2
        rw [cx, e11]
        rw [cx] at z26
        exact ⟨hz.2, fun i i0 i1 => absurd i1 (by omega)⟩
      · rw [hk 11 j (by decide) (by omega)]
        refine ⟨(e (by omega)).1, fun i i0 i1 => ?_⟩
        rw [hk 27 _ (by decide) (by omega)]
        have := (e (by omega)).2 i i0 i1
        omega
  · rw [hk 26 _ (by decide) (by omega)]
    refine ⟨(co j j0 j1).1, fun i i0 i1 => ?_⟩
    rw [hk 27 _ (by decide) (by omega)]
    exact (co j j0 j1).2 i i0 i1
theorem MC_shift {m : mS} (hM : MC m) {z t o : Int} (h : shGo m z t o) : MC (up (up (up m 3 (10 * z + m 2 z) t) 4 (10 * z + m 2 z) o) 2 z (m 2 z + 1)) := by
  obtain ⟨⟨hz, ht, ho⟩, hn, h10⟩ := h
  have c1 := hM.2.2.1
  have zi := (hM.2.2.2.2.1 z hz.1 (by omega)).1
  have b2 := zi.2.1
  have um : ∀ k y, k ≠ 2 → k ≠ 3 → k ≠ 4 → up (up (up m 3 (10 * z + m 2 z) t) 4 (10 * z + m 2 z) o) 2 z (m 2 z + 1) k y = m k y := fun k y a b c => by rw [up_k _ _ _ _ a, up_k _ _ _ _ c, up_k _ _ _ _ b]
  have u2 : ∀ y, up (up (up m 3 (10 * z + m 2 z) t) 4 (10 * z + m 2 z) o) 2 z (m 2 z + 1) 2 y = if y = z then m 2 z + 1 else m 2 y := fun y => by rw [up_z, up_k _ _ _ _ (by decide), up_k _ _ _ _ (by decide)]
  have u3 : ∀ y, up (up (up m 3 (10 * z + m 2 z) t) 4 (10 * z + m 2 z) o) 2 z (m 2 z + 1) 3 y = if y = 10 * z + m 2 z then t else m 3 y := fun y => by rw [up_k _ _ _ _ (by decide), up_k _ _ _ _ (by decide), up_z]
  have u4 : ∀ y, up (up (up m 3 (10 * z + m 2 z) t) 4 (10 * z + m 2 z) o) 2 z (m 2 z + 1) 4 y = if y = 10 * z + m 2 z then o else m 4 y := fun y => by rw [up_k _ _ _ _ (by decide), up_z, up_k _ _ _ _ (by decide)]
  have hr := rg_up (rg_up (rg_up hM.1 3 (10 * z + m 2 z) (v := t) (by omega)) 4 (10 * z + m 2 z) (v := o) (by omega)) 2 z (v := m 2 z + 1) (by omega)
  generalize up (up (up m 3 (10 * z + m 2 z) t) 4 (10 * z + m 2 z) o) 2 z (m 2 z + 1) = m' at *
  refine MC_zn hM hr (fun k y q => um k y (by omega) (by omega) (by omega)) (fun y hy => ?_) (fun y y0 y1 => ?_)
  · have yr := hy.1
    have y2 := hy.2.1
    by_cases cy : y = z
    · subst cy
      obtain ⟨-, -, i3, i4, i5, i6⟩ := hy
      obtain ⟨o1, o2, o3, o4, o5⟩ := i4
      have s3 : ∀ k, 0 ≤ k → k ≤ m 2 y → gz (ssOf m y) k = if k = 0 then 0 else m 3 (10 * y + k - 1) := fun k a b => gz_ss ⟨a, b⟩
      have s4 : ∀ k, 0 ≤ k → k ≤ m 2 y → gz (osOf m y) k = if k = 0 then 0 else m 4 (10 * y + k - 1) := fun k a b => gz_os ⟨a, b⟩
      have e2 : m' 2 y = m 2 y + 1 := by rw [u2, if_pos rfl]
      have g3 : ∀ k, 0 ≤ k → k ≤ m 2 y + 1 → gz (ssOf m' y) k = if k = m 2 y + 1 then t else gz (ssOf m y) k := by
        intro k a b
        rw [gz_ss ⟨a, by omega⟩]
        by_cases ck : k = m 2 y + 1
        · rw [if_neg (by omega), if_pos ck, u3, if_pos (by omega)]
        · rw [if_neg ck, s3 k a (by omega)]
          by_cases c0 : k = 0
          · rw [if_pos c0, if_pos c0]
          · rw [if_neg c0, if_neg c0, u3, if_neg (by omega)]
      have ls : ((ssOf m' y).length : Int) = m 2 y + 2 := by unfold ssOf; rw [rl_len _ (by omega), e2]; omega
      have lo : ((osOf m' y).length : Int) = m 2 y + 2 := by unfold osOf; rw [rl_len _ (by omega), e2]; omega
      refine ⟨yr, by rw [e2]; omega, by rw [um 5 y (by decide) (by decide) (by decide)]; exact i3, ⟨by omega, by omega, by omega, ?_, ?_⟩, ⟨?_, ?_⟩, ?_⟩
      · refine gz_all (fun x hx => ?_) (by omega)
        unfold ssOf at hx
        rw [mem_rl] at hx
        obtain ⟨k, k0, k1, rfl⟩ := hx
        rw [e2] at k1
        by_cases c0 : k = 0
        · rw [if_pos c0]; omega
        · rw [if_neg c0, u3]
          split
          · exact ht
          · have := o4 k
            rw [s3 k k0 (by omega), if_neg c0] at this
            exact this
      · refine gz_all (fun x hx => ?_) (by omega)
        unfold osOf at hx
        rw [mem_rl] at hx
        obtain ⟨k, k0, k1, rfl⟩ := hx
        rw [e2] at k1
        by_cases c0 : k = 0
        · rw [if_pos c0]; omega
        · rw [if_neg c0, u4]
          split
          · exact ho
          · have := o5 k
            rw [s4 k k0 (by omega), if_neg c0] at this
            exact this
      · rw [g3 0 (by omega) (by omega), if_neg (by omega)]; exact i5.1
      · intro k hk
        rw [g3 k (by omega) (by omega), g3 (k + 1) (by omega) (by omega), if_neg (by omega)]
        by_cases ck : (k : Int) + 1 = m 2 y + 1
        · rw [if_pos ck]
          by_cases c0 : m 2 y = 0
          · rw [show (k : Int) = 0 by omega, i5.1]; omega
          · rw [s3 k (by omega) (by omega), if_neg (by omega), show 10 * y + (k : Int) - 1 = 10 * y + m 2 y - 1 by omega]
            rcases Int.lt_or_le (m 3 (10 * y + m 2 y - 1)) t with q | q
            · omega
            · exact absurd ⟨by omega, q⟩ hn
        · rw [if_neg ck]
          have l1 : ((ssOf m y).length : Int) = m 2 y + 1 := by unfold ssOf; rw [rl_len _ (by omega)]
          exact i5.2 k (by omega)
      · have : hsOf m' y = hsOf m y := by
          unfold hsOf
          rw [um 5 y (by decide) (by decide) (by decide)]
          exact rl_congr (fun k _ _ => um 6 _ (by decide) (by decide) (by decide))
        rw [this]; exact i6
    · exact zI_same hy (by rw [u2, if_neg cy]) (um 5 _ (by decide) (by decide) (by decide)) (fun k k0 k1 => by rw [u3, if_neg (by omega)]) (fun k k0 k1 => by rw [u4, if_neg (by omega)]) (fun k _ _ => um 6 _ (by decide) (by decide) (by decide))
  · exact ⟨by rw [u2, if_neg (by omega)], um 5 _ (by decide) (by decide) (by decide)⟩
theorem MC_hol {m : mS} (hM : MC m) {z d : Int} (hz : 0 ≤ z ∧ z < m 1 0) (hd : 0 ≤ d ∧ d ≤ 14609) (h20 : m 5 z ≠ 20) : MC (up (up m 6 (20 * z + m 5 z) d) 5 z (m 5 z + 1)) := by
  have c1 := hM.2.2.1
  have zi := (hM.2.2.2.2.1 z hz.1 (by omega)).1
  have b5 := zi.2.2.1
  have um : ∀ k y, k ≠ 5 → k ≠ 6 → up (up m 6 (20 * z + m 5 z) d) 5 z (m 5 z + 1) k y = m k y := fun k y a b => by rw [up_k _ _ _ _ a, up_k _ _ _ _ b]
  have u5 : ∀ y, up (up m 6 (20 * z + m 5 z) d) 5 z (m 5 z + 1) 5 y = if y = z then m 5 z + 1 else m 5 y := fun y => by rw [up_z, up_k _ _ _ _ (by decide)]
  have u6 : ∀ y, up (up m 6 (20 * z + m 5 z) d) 5 z (m 5 z + 1) 6 y = if y = 20 * z + m 5 z then d else m 6 y := fun y => by rw [up_k _ _ _ _ (by decide), up_z]
  have hr := rg_up (rg_up hM.1 6 (20 * z + m 5 z) (v := d) (by omega)) 5 z (v := m 5 z + 1) (by omega)
  generalize up (up m 6 (20 * z + m 5 z) d) 5 z (m 5 z + 1) = m' at *
  refine MC_zn hM hr (fun k y q => um k y (by omega) (by omega)) (fun y hy => ?_) (fun y y0 y1 => ?_)
  · have yr := hy.1
    have y5 := hy.2.2.1
    by_cases cy : y = z
    · subst cy
      obtain ⟨-, i2, i3, i4, i5, i6⟩ := hy
      have e1 : ssOf m' y = ssOf m y := by unfold ssOf; simp only [um 2 _ (by decide) (by decide), um 3 _ (by decide) (by decide)]
      have e2 : osOf m' y = osOf m y := by unfold osOf; simp only [um 2 _ (by decide) (by decide), um 4 _ (by decide) (by decide)]
      refine ⟨yr, by rw [um 2 y (by decide) (by decide)]; exact i2, by rw [u5, if_pos rfl]; omega, by rw [e1, e2]; exact i4, by rw [e1]; exact i5, fun x hx => ?_⟩
      unfold hsOf at hx
      rw [mem_rl, u5, if_pos rfl] at hx
      obtain ⟨k, k0, k1, rfl⟩ := hx
      rw [u6]
      split
      · exact hd
      · refine i6 _ ?_
        unfold hsOf
        rw [mem_rl]
        exact ⟨k, k0, by omega, rfl⟩
    · exact zI_same hy (um 2 _ (by decide) (by decide)) (by rw [u5, if_neg cy]) (fun k _ _ => um 3 _ (by decide) (by decide)) (fun k _ _ => um 4 _ (by decide) (by decide)) (fun k k0 k1 => by rw [u6, if_neg (by omega)])
  · exact ⟨um 2 _ (by decide) (by decide), by rw [u5, if_neg (by omega)]⟩
