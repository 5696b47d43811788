/-! deliveries of the class beside the model's -/
def RH (s m : mS) : Prop := ∀ k, 0 ≤ k → k < 8 → s 54 (8 * 61 + k) = m 55 k
theorem REL_30 {s m : mS} (hR : REL s m) (i b : Int) (hb : m 30 i ≤ b) (hb2 : -2147483648 ≤ b ∧ b ≤ 2147483647) : REL (up s 30 i b) (up m 30 i b) := by
  have us : ∀ c z', c ≠ 30 → up s 30 i b c z' = s c z' := fun c z' h => up_k _ _ _ _ h
  have um : ∀ c z', c ≠ 30 → up m 30 i b c z' = m c z' := fun c z' h => up_k _ _ _ _ h
  refine REL_prot hR (fun k z q => us k z (by unfold pk at q; omega)) (fun k z q => um k z (by unfold pk at q; omega)) ?_ ?_ ?_ (rg_up hR.2.2.2.2.2.2 _ _ hb2)
  · intro k z _ hk
    unfold up
    rw [hR.1 k z hk]
  · intro z a c
    rw [um 53 0 (by decide)] at c
    rw [us 54 z (by decide), um 54 z (by decide)]
    exact hR.2.1 z a c
  · intro i' i1 i2
    obtain ⟨a, b', c, d⟩ := hR.2.2.1 i' i1 i2
    refine ⟨runR_of a (fun k k1 k2 => us k i' (by omega)) (fun k k1 k2 => um k i' (by omega)), ?_, by rw [us 62 i' (by decide)]; exact c, by rw [us 62 i' (by decide), um 10 0 (by decide)]; exact d⟩
    rw [us 62 i' (by decide), um 34 i' (by decide), up_z]
    split
    · rename_i q; rw [q] at b'; rw [q]; omega
    · exact b'
theorem REL_ask {s m : mS} (hR : REL s m) (hH : RH s m) (hs : 0 ≤ m 53 0 ∧ m 53 0 ≤ 60) (h51 : m 51 0 ≤ 2000000000) (hr : rg m) (i : Int) : REL (cask s i) (mask m (m 55 1) i (m 55 2) (m 55 3) (m 55 4)) := by
  have h1 := hH 1 (by omega) (by omega)
  have h2 := hH 2 (by omega) (by omega)
  have h3 := hH 3 (by omega) (by omega)
  have h4 := hH 4 (by omega) (by omega)
  have e30 := hR.1 30 i rfl
  unfold cask mask
  rw [e30, h4, hR.1 31 i rfl, hR.1 32 i rfl, hR.1 33 i rfl]
  by_cases c : m 30 i < m 55 4
  · rw [if_pos c, if_pos c]
    unfold crep
    rw [up_k _ _ _ _ (by decide), up_k _ _ _ _ (by decide), up_k _ _ _ _ (by decide), up_k _ _ _ _ (by decide), h1, h2, h3, h4]
    refine REL_snd (REL_30 hR i _ (by omega) (rg_of hr 55 4)) (by rw [up_k _ _ _ _ (by decide)]; exact hs) (by rw [up_k _ _ _ _ (by decide)]; exact h51) _ _ _ _ _ _ _ _ (by omega) (rg_of hr 55 2) (rg_of hr 55 1) (rg_of hr 55 3) (rg_of hr 55 4) (rg_of hr 31 i) (rg_of hr 32 i) (rg_of hr 33 i)
  · rw [if_neg c, if_neg c]
    unfold crep
    rw [h1, h2, h3, h4]
    exact REL_snd hR hs h51 _ _ _ _ _ _ _ _ (by omega) (rg_of hr 55 2) (rg_of hr 55 1) (rg_of hr 55 3) (rg_of hr 55 4) (rg_of hr 30 i) (by omega) (by omega)
theorem REL_wri {s m : mS} (hR : REL s m) (hH : RH s m) (hs : 0 ≤ m 53 0 ∧ m 53 0 ≤ 60) (h51 : m 51 0 ≤ 2000000000) (hr : rg m) (i : Int) : REL (cwri s i) (mwri m (m 55 1) i (m 55 2) (m 55 3) (m 55 4)) := by
  have h1 := hH 1 (by omega) (by omega)
  have h2 := hH 2 (by omega) (by omega)
  have h3 := hH 3 (by omega) (by omega)
  have h4 := hH 4 (by omega) (by omega)
  have h5 := hH 5 (by omega) (by omega)
  have h7 := hH 7 (by omega) (by omega)
  have e30 := hR.1 30 i rfl
  unfold cwri mwri
  rw [e30, h4, h5, h7]
  by_cases c : m 30 i ≤ m 55 4
  · rw [if_pos c, if_pos c]
    unfold crep
    rw [cacc_k _ _ _ _ _ _ _ (by decide) (by decide) (by decide), cacc_k _ _ _ _ _ _ _ (by decide) (by decide) (by decide), cacc_k _ _ _ _ _ _ _ (by decide) (by decide) (by decide), cacc_k _ _ _ _ _ _ _ (by decide) (by decide) (by decide), up_k _ _ _ _ (by decide), up_k _ _ _ _ (by decide), up_k _ _ _ _ (by decide), up_k _ _ _ _ (by decide), h1, h2, h3, h4]
    have R0 := REL_30 hR i (m 55 4) c (rg_of hr 55 4)
    have R1 := REL_up (REL_up (REL_up R0 31 i (m 55 4) rfl (by decide) (Or.inr (Or.inr (rg_of hr 55 4)))) 32 i (m 55 5) rfl (by decide) (Or.inr (Or.inr (rg_of hr 55 5)))) 33 i (m 55 7) rfl (by decide) (Or.inr (Or.inr (rg_of hr 55 7)))
    exact REL_snd R1 (by simp (disch := first | omega | assumption | (simp; done)) only [up_k]; exact hs) (by simp (disch := first | omega | assumption | (simp; done)) only [up_k]; exact h51) _ _ _ _ _ _ _ _ (by omega) (rg_of hr 55 2) (rg_of hr 55 1) (rg_of hr 55 3) (rg_of hr 55 4) (by omega) (by omega) (by omega)
  · rw [if_neg c, if_neg c]
    unfold crep
    rw [h1, h2, h3, h4]
    exact REL_snd hR hs h51 _ _ _ _ _ _ _ _ (by omega) (rg_of hr 55 2) (rg_of hr 55 1) (rg_of hr 55 3) (rg_of hr 55 4) (rg_of hr 30 i) (by omega) (by omega)
theorem REL_ref {s m : mS} (hR : REL s m) (hH : RH s m) (hr : rg m) (i : Int) (hi : 0 ≤ i ∧ i < 36) (hI : rI m i) (h4p : 0 < m 55 4) (h5p : 0 ≤ m 55 5 ∧ m 55 5 ≤ 100000) (hn : i % 12 < m 10 0) : REL (cref s i 61) (mref m i) := by
  have h4 := hH 4 (by omega) (by omega)
  have h5 := hH 5 (by omega) (by omega)
  have e35 := hR.1 35 i rfl
  have e36 := hR.1 36 i rfl
  have R0 : REL (up s 62 i (max (s 62 i) (m 55 5))) (up m 34 i (max (m 34 i) (m 55 5))) := by
    obtain ⟨-, -, c0, -⟩ := hR.2.2.1 i hi.1 hi.2
    refine REL_prot hR (fun k z q => up_k _ _ _ _ (by unfold pk at q; omega)) (fun k z q => up_k _ _ _ _ (by unfold pk at q; omega)) ?_ ?_ ?_ (rg_up hR.2.2.2.2.2.2 _ _ (by omega))
    · intro k z _ hk
      rw [up_k _ _ _ _ (by intro e; rw [e] at hk; revert hk; decide), up_k _ _ _ _ (by intro e; rw [e] at hk; revert hk; decide)]
      exact hR.1 k z hk
    · intro z a b
      rw [up_k _ _ _ _ (by decide)] at b
      rw [up_k _ _ _ _ (by decide), up_k _ _ _ _ (by decide)]
      exact hR.2.1 z a b
    · intro i' i1 i2
      obtain ⟨a, b, c, d⟩ := hR.2.2.1 i' i1 i2
      refine ⟨runR_of a (fun k k1 k2 => up_k _ _ _ _ (by omega)) (fun k k1 k2 => up_k _ _ _ _ (by omega)), ?_, ?_, ?_⟩
      · rw [up_z, up_z, up_k _ _ _ _ (by decide)]
        by_cases q : i' = i
        · rw [if_pos q, if_pos q]; rw [q] at b ⊢; omega
        · rw [if_neg q, if_neg q]; exact b
      · rw [up_z]
        by_cases q : i' = i
        · rw [if_pos q]; rw [q] at c; omega
        · rw [if_neg q]; exact c
      · intro q
        rw [up_k _ _ _ _ (by decide)] at q
        rw [up_z, if_neg (by intro e; rw [e] at q; omega)]
        exact d q
  unfold cref mref
  rw [h4, h5, e35, e36]
  obtain ⟨-, -, -, -, -, a6, -⟩ := hI
  by_cases c : m 35 i = m 55 4
  · rw [if_pos ⟨fun q => by have := a6.mp q; omega, c⟩, if_pos c]
    exact REL_end R0 i
  · rw [if_neg (fun q => c q.2), if_neg c]
    exact R0
theorem up_same (m : mS) (k : Nat) (z : Int) : up m k z (m k z) = m := by
  funext k' z'
  unfold up
  by_cases c : k' = k
  · rw [if_pos c]
    by_cases c2 : z' = z
    · rw [if_pos c2, c, c2]
    · rw [if_neg c2]
  · rw [if_neg c]
theorem REL_fin {s m : mS} (hR : REL s m) (hH : RH s m) (hs : 0 ≤ m 53 0 ∧ m 53 0 ≤ 60) (h51 : m 51 0 ≤ 2000000000) (h45 : m 45 (m 55 3) ≤ 2000000000) (hr : rg m) (hi : 0 ≤ 12 * m 55 2 + m 55 3 ∧ 12 * m 55 2 + m 55 3 < 36) (hI : rI m (12 * m 55 2 + m 55 3)) (h39 : m 39 (12 * m 55 2 + m 55 3) ≤ 2000000000) : REL (cfin s (12 * m 55 2 + m 55 3) (m 55 3)) (mfin m (m 55 2) (m 55 3)) := by
  have h2 := hH 2 (by omega) (by omega)
  have h3 := hH 3 (by omega) (by omega)
  have h4 := hH 4 (by omega) (by omega)
  unfold cfin mfin
  rw [hR.1 36 _ rfl, hR.1 35 _ rfl, h4]
  generalize hx0 : 12 * m 55 2 + m 55 3 = i at *
  by_cases c : m 36 i = 2 ∧ m 35 i = m 55 4
  · rw [if_pos c, if_pos ⟨c.2, c.1⟩]
    obtain ⟨-, -, r2⟩ := (hR.2.2.1 i hi.1 hi.2).1
    obtain ⟨f1, f2, f3⟩ := r2 c.1
    refine REL_end ?_ i
    have q45 := rg_of hr 45 (m 55 3)
    have R1 : REL (cfi1 s i (m 55 3)) (mfi1 m i (m 55 3)) := by
      unfold cfi1 mfi1
      rw [f3]
      by_cases c1 : m 41 i = 0
      · rw [if_pos c1, if_pos c1, Int.add_zero, up_same]; exact hR
      · rw [if_neg c1, if_neg c1, hR.1 45 _ rfl]
        exact REL_up hR 45 _ _ rfl (by decide) (by omega)
    have ks : ∀ k z, k ≠ 45 → cfi1 s i (m 55 3) k z = s k z := fun k z h => cfi1_k _ _ _ _ _ h
    have km : ∀ k z, k ≠ 45 → mfi1 m i (m 55 3) k z = m k z := fun k z h => up_k _ _ _ _ h
    unfold cfi2 mfi2
    rw [ks 66 i (by decide), ks 65 i (by decide), ks 54 _ (by decide), ks 54 _ (by decide), km 40 i (by decide), km 39 i (by decide), h2, h3]
    obtain ⟨-, -, -, -, -, -, -, a8, -⟩ := hI
    by_cases c9 : m 40 i = -9
    · rw [if_pos (f1 c9), if_pos c9]
      exact R1
    · obtain ⟨g1, g2⟩ := f2 c9
      rw [if_neg (by omega), if_neg c9, g1, g2]
      have q39 := rg_of hr 39 i
      have q3 := rg_of hr 55 3
      exact REL_snd R1 (by rw [km 53 0 (by decide)]; exact hs) (by rw [km 51 0 (by decide)]; exact h51) _ _ _ _ _ _ _ _ (by omega) (rg_of hr 55 2) (by omega) (rg_of hr 55 3) (by omega) (rg_of hr 40 i) (by omega) (by omega)
  · rw [if_neg c, if_neg (fun q => c ⟨q.2, q.1⟩)]
    exact hR
