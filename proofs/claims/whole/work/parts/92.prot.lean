/-! letters and runs of the class beside the model's -/
/-- the codes that the protocol changes -/
def pk (k : Nat) : Prop := (30 ≤ k ∧ k ≤ 45) ∨ (49 ≤ k ∧ k ≤ 55) ∨ (62 ≤ k ∧ k ≤ 67)
theorem REL_prot {s s' m m' : mS} (hR : REL s m) (hs : ∀ k z, ¬ pk k → s' k z = s k z) (hm : ∀ k z, ¬ pk k → m' k z = m k z) (h1 : ∀ k z, pk k → shd k = true → s' k z = m' k z) (h2 : RLE s' m') (h3 : RRU s' m') (hr : rg s') : REL s' m' := by
  obtain ⟨r1, r2, r3, r4, r5, r6, r7⟩ := hR
  unfold pk at hs hm h1
  have e1 := hm 1 0 (by omega)
  have e10 := hm 10 0 (by omega)
  refine ⟨?_, h2, h3, ?_, ?_, ?_, hr⟩
  · intro k z hk
    by_cases c : (30 ≤ k ∧ k ≤ 45) ∨ (49 ≤ k ∧ k ≤ 55) ∨ (62 ≤ k ∧ k ≤ 67)
    · exact h1 k z c hk
    · rw [hs k z c, hm k z c]
      exact r1 k z hk
  · intro z a b
    rw [e1] at b
    refine zR_of (r4 z a b) (fun z => hs 100 z (by omega)) (fun z => hs 101 z (by omega)) (fun z => hs 102 z (by omega)) (fun z => hs 60 z (by omega)) ?_
    intro k z q
    refine hm k z ?_
    unfold cfc at q
    simp at q
    omega
  · intro j a b
    rw [e10] at b
    obtain ⟨c1, c2⟩ := r5 j a b
    refine ⟨jR_of c1 (fun z => hs 100 z (by omega)) (fun z => hs 101 z (by omega)) (fun z => hs 102 z (by omega)) (fun k z q => hm k z (by omega)) (fun k q => ?_), ?_⟩
    · rw [hs k j (by omega), hm k j (by omega)]
      refine r1 k j ?_
      have : k = 11 ∨ k = 12 ∨ k = 13 ∨ k = 14 ∨ k = 15 ∨ k = 16 ∨ k = 22 := by omega
      rcases this with rfl | rfl | rfl | rfl | rfl | rfl | rfl <;> rfl
    · rw [hs 61 j (by omega), awO_of (fun z => hm 27 z (by omega)) (fun z => hm 26 z (by omega))]; exact c2
  · unfold ROT
    rw [e1, e10, hs 80 0 (by omega), hs 81 0 (by omega)]
    refine ⟨r6.1, r6.2.1, fun p hp => ?_⟩
    rw [hs 102 p (by omega)]
    exact r6.2.2 p hp
theorem RRU_of {s s' m m' : mS} (h : RRU s m) (hs : ∀ k z, 62 ≤ k → k ≤ 67 → s' k z = s k z) (hm : ∀ k z, (34 ≤ k ∧ k ≤ 41) ∨ k = 30 ∨ k = 10 → m' k z = m k z) : RRU s' m' := by
  intro i i1 i2
  obtain ⟨a, b, c, d⟩ := h i i1 i2
  refine ⟨runR_of a (fun k k1 k2 => hs k i (by omega) (by omega)) (fun k k1 k2 => hm k i (by omega)), ?_, ?_, ?_⟩
  · rw [hs 62 i (by omega) (by omega), hm 30 i (by omega), hm 34 i (by omega)]; exact b
  · rw [hs 62 i (by omega) (by omega)]; exact c
  · rw [hs 62 i (by omega) (by omega), hm 10 0 (by omega)]; exact d
theorem ir_z : -2147483648 ≤ (0 : Int) ∧ (0 : Int) ≤ 2147483647 := by omega
theorem csnd_54 {s : mS} (hs : 0 ≤ s 53 0 ∧ s 53 0 < 60) (kd fr to j b a u g z : Int) : csnd s kd fr to j b a u g 54 z = if z = 8 * s 53 0 then kd else if z = 8 * s 53 0 + 1 then fr else if z = 8 * s 53 0 + 2 then to else if z = 8 * s 53 0 + 3 then j else if z = 8 * s 53 0 + 4 then b else if z = 8 * s 53 0 + 5 then a else if z = 8 * s 53 0 + 6 then u else if z = 8 * s 53 0 + 7 then g else s 54 z := by
  unfold csnd csay cps cri cad
  rw [if_pos hs.2, if_pos hs.2]
  simp only [up_z]
  rw [up_k _ _ _ _ (by decide)]
  by_cases c0 : z = 8 * s 53 0
  · rw [if_neg (by omega), if_neg (by omega), if_neg (by omega), if_neg (by omega), if_neg (by omega), if_neg (by omega), if_neg (by omega), if_pos c0, if_pos c0]
  by_cases c1 : z = 8 * s 53 0 + 1
  · rw [if_neg (by omega), if_neg (by omega), if_neg (by omega), if_neg (by omega), if_neg (by omega), if_neg (by omega), if_pos c1, if_neg c0, if_pos c1]
  by_cases c2 : z = 8 * s 53 0 + 2
  · rw [if_neg (by omega), if_neg (by omega), if_neg (by omega), if_neg (by omega), if_neg (by omega), if_pos c2, if_neg c0, if_neg c1, if_pos c2]
  by_cases c3 : z = 8 * s 53 0 + 3
  · rw [if_neg (by omega), if_neg (by omega), if_neg (by omega), if_neg (by omega), if_pos c3, if_neg c0, if_neg c1, if_neg c2, if_pos c3]
  by_cases c4 : z = 8 * s 53 0 + 4
  · rw [if_neg (by omega), if_neg (by omega), if_neg (by omega), if_pos c4, if_neg c0, if_neg c1, if_neg c2, if_neg c3, if_pos c4]
  by_cases c5 : z = 8 * s 53 0 + 5
  · rw [if_neg (by omega), if_neg (by omega), if_pos c5, if_neg c0, if_neg c1, if_neg c2, if_neg c3, if_neg c4, if_pos c5]
  by_cases c6 : z = 8 * s 53 0 + 6
  · rw [if_neg (by omega), if_pos c6, if_neg c0, if_neg c1, if_neg c2, if_neg c3, if_neg c4, if_neg c5, if_pos c6]
  by_cases c7 : z = 8 * s 53 0 + 7
  · rw [if_pos c7, if_neg c0, if_neg c1, if_neg c2, if_neg c3, if_neg c4, if_neg c5, if_neg c6, if_pos c7]
  rw [if_neg c7, if_neg c6, if_neg c5, if_neg c4, if_neg c3, if_neg c2, if_neg c1, if_neg c0, if_neg c0, if_neg c1, if_neg c2, if_neg c3, if_neg c4, if_neg c5, if_neg c6, if_neg c7]
theorem msnd_54 {m : mS} (hs : m 53 0 ≠ 60) (kd fr to j b a u g z : Int) : msnd m kd fr to j b a u g 54 z = if z = 8 * m 53 0 then kd else if z = 8 * m 53 0 + 1 then fr else if z = 8 * m 53 0 + 2 then to else if z = 8 * m 53 0 + 3 then j else if z = 8 * m 53 0 + 4 then b else if z = 8 * m 53 0 + 5 then a else if z = 8 * m 53 0 + 6 then u else if z = 8 * m 53 0 + 7 then g else m 54 z := by
  unfold msnd
  rw [if_neg hs, up_k _ _ _ _ (by decide)]
  simp only [up_z]
  by_cases c0 : z = 8 * m 53 0
  · rw [if_neg (by omega), if_neg (by omega), if_neg (by omega), if_neg (by omega), if_neg (by omega), if_neg (by omega), if_neg (by omega), if_pos c0, if_pos c0]
  by_cases c1 : z = 8 * m 53 0 + 1
  · rw [if_neg (by omega), if_neg (by omega), if_neg (by omega), if_neg (by omega), if_neg (by omega), if_neg (by omega), if_pos c1, if_neg c0, if_pos c1]
  by_cases c2 : z = 8 * m 53 0 + 2
  · rw [if_neg (by omega), if_neg (by omega), if_neg (by omega), if_neg (by omega), if_neg (by omega), if_pos c2, if_neg c0, if_neg c1, if_pos c2]
  by_cases c3 : z = 8 * m 53 0 + 3
  · rw [if_neg (by omega), if_neg (by omega), if_neg (by omega), if_neg (by omega), if_pos c3, if_neg c0, if_neg c1, if_neg c2, if_pos c3]
  by_cases c4 : z = 8 * m 53 0 + 4
  · rw [if_neg (by omega), if_neg (by omega), if_neg (by omega), if_pos c4, if_neg c0, if_neg c1, if_neg c2, if_neg c3, if_pos c4]
  by_cases c5 : z = 8 * m 53 0 + 5
  · rw [if_neg (by omega), if_neg (by omega), if_pos c5, if_neg c0, if_neg c1, if_neg c2, if_neg c3, if_neg c4, if_pos c5]
  by_cases c6 : z = 8 * m 53 0 + 6
  · rw [if_neg (by omega), if_pos c6, if_neg c0, if_neg c1, if_neg c2, if_neg c3, if_neg c4, if_neg c5, if_pos c6]
  by_cases c7 : z = 8 * m 53 0 + 7
  · rw [if_pos c7, if_neg c0, if_neg c1, if_neg c2, if_neg c3, if_neg c4, if_neg c5, if_neg c6, if_pos c7]
  rw [if_neg c7, if_neg c6, if_neg c5, if_neg c4, if_neg c3, if_neg c2, if_neg c1, if_neg c0, if_neg c0, if_neg c1, if_neg c2, if_neg c3, if_neg c4, if_neg c5, if_neg c6, if_neg c7]
theorem REL_snd {s m : mS} (hR : REL s m) (hs : 0 ≤ m 53 0 ∧ m 53 0 ≤ 60) (h51 : m 51 0 ≤ 2000000000) (kd fr to j b a u g : Int) (v1 : -2147483648 ≤ kd ∧ kd ≤ 2147483647) (v2 : -2147483648 ≤ fr ∧ fr ≤ 2147483647) (v3 : -2147483648 ≤ to ∧ to ≤ 2147483647) (v4 : -2147483648 ≤ j ∧ j ≤ 2147483647) (v5 : -2147483648 ≤ b ∧ b ≤ 2147483647) (v6 : -2147483648 ≤ a ∧ a ≤ 2147483647) (v7 : -2147483648 ≤ u ∧ u ≤ 2147483647) (v8 : -2147483648 ≤ g ∧ g ≤ 2147483647) : REL (csnd s kd fr to j b a u g) (msnd m kd fr to j b a u g) := by
  have e53 := rel_k hR 53 0
  have e51 := rel_k hR 51 0
  have r7 := hR.2.2.2.2.2.2
  have q51 := rg_of r7 51 0
  have ks : ∀ k z, k ≠ 54 → k ≠ 51 → k ≠ 53 → csnd s kd fr to j b a u g k z = s k z := fun k z h h1 h2 => csnd_k _ _ _ _ _ _ _ _ _ _ _ h h1 h2
  have km : ∀ k z, k ≠ 54 → k ≠ 51 → k ≠ 53 → msnd m kd fr to j b a u g k z = m k z := fun k z h h1 h2 => msnd_k _ _ _ _ _ _ _ _ _ _ _ h h1 h2
  have rgs : rg (csnd s kd fr to j b a u g) := by
    unfold csnd csay cps
    refine rg_up (rg_up (rg_up (rg_up ?_ _ _ v5) _ _ v6) _ _ v7) _ _ v8
    split
    · unfold cad
      exact rg_up (rg_up (rg_up (rg_up (rg_up r7 _ _ (by omega)) _ _ v1) _ _ v2) _ _ v3) _ _ v4
    · exact rg_up r7 _ _ (by omega)
  refine REL_prot hR (fun k z q => ks k z (by unfold pk at q; omega) (by unfold pk at q; omega) (by unfold pk at q; omega)) (fun k z q => km k z (by unfold pk at q; omega) (by unfold pk at q; omega) (by unfold pk at q; omega)) ?_ ?_ (RRU_of hR.2.2.1 (fun k z a b => ks k z (by omega) (by omega) (by omega)) (fun k z q => km k z (by omega) (by omega) (by omega))) rgs
  · intro k z _ hk
    by_cases c54 : k = 54
    · rw [c54] at hk; exact absurd hk (by decide)
    by_cases c53 : k = 53
    · subst c53
      by_cases cz : z = 0
      · subst cz
        rw [csnd_53, msnd_53, e53]
        by_cases c : m 53 0 = 60
        · rw [if_neg (by omega), if_pos c, c]
        · rw [if_pos (by omega), if_neg c]
      · unfold csnd msnd
        rw [csay_k _ _ _ _ _ _ _ _ (by decide)]
        unfold cps
        rw [e53]
        by_cases c : m 53 0 = 60
        · rw [if_neg (by omega), if_pos c, up_k _ _ _ _ (by decide), up_k _ _ _ _ (by decide)]
          exact rel_k hR 53 z
        · rw [if_pos (by omega), if_neg c, cad_k _ _ _ _ _ _ _ _ (by decide), up_z, if_neg cz, up_z, if_neg cz]
          simp (disch := first | omega | assumption | (simp; done)) only [up_k]
          exact rel_k hR 53 z
    by_cases c51 : k = 51
    · subst c51
      unfold csnd msnd
      rw [csay_k _ _ _ _ _ _ _ _ (by decide)]
      unfold cps
      rw [e53]
      by_cases c : m 53 0 = 60
      · rw [if_neg (by omega), if_pos c, up_z, up_z, e51]
        split
        · rfl
        · exact rel_k hR 51 z
      · rw [if_pos (by omega), if_neg c, cad_k _ _ _ _ _ _ _ _ (by decide), up_k _ _ _ _ (by decide)]
        simp (disch := first | omega | assumption | (simp; done)) only [up_k]
        exact rel_k hR 51 z
    rw [ks k z c54 c51 c53, km k z c54 c51 c53]
    exact hR.1 k z hk
  · intro z z0 z1
    rw [msnd_53] at z1
    by_cases c : m 53 0 = 60
    · rw [if_pos c] at z1
      have es : csnd s kd fr to j b a u g 54 z = s 54 z := by
        unfold csnd csay cps cri
        rw [e53, if_neg (by omega), if_neg (by omega), up_ne _ _ (by omega), up_ne _ _ (by omega), up_ne _ _ (by omega), up_ne _ _ (by omega), up_k _ _ _ _ (by decide)]
      have em : msnd m kd fr to j b a u g 54 z = m 54 z := by
        unfold msnd
        rw [if_pos c, up_k _ _ _ _ (by decide)]
      rw [es, em]
      exact hR.2.1 z z0 (by omega)
    · rw [if_neg c] at z1
      rw [csnd_54 (by omega), msnd_54 c, e53]
      by_cases cz : z < 8 * m 53 0
      · rw [hR.2.1 z z0 cz]
      · have : z = 8 * m 53 0 ∨ z = 8 * m 53 0 + 1 ∨ z = 8 * m 53 0 + 2 ∨ z = 8 * m 53 0 + 3 ∨ z = 8 * m 53 0 + 4 ∨ z = 8 * m 53 0 + 5 ∨ z = 8 * m 53 0 + 6 ∨ z = 8 * m 53 0 + 7 := by omega
        rcases this with q | q | q | q | q | q | q | q
        · rw [if_pos q, if_pos q]
        · rw [if_neg (by omega), if_pos q, if_neg (by omega), if_pos q]
        · rw [if_neg (by omega), if_neg (by omega), if_pos q, if_neg (by omega), if_neg (by omega), if_pos q]
        · rw [if_neg (by omega), if_neg (by omega), if_neg (by omega), if_pos q, if_neg (by omega), if_neg (by omega), if_neg (by omega), if_pos q]
        · rw [if_neg (by omega), if_neg (by omega), if_neg (by omega), if_neg (by omega), if_pos q, if_neg (by omega), if_neg (by omega), if_neg (by omega), if_neg (by omega), if_pos q]
        · rw [if_neg (by omega), if_neg (by omega), if_neg (by omega), if_neg (by omega), if_neg (by omega), if_pos q, if_neg (by omega), if_neg (by omega), if_neg (by omega), if_neg (by omega), if_neg (by omega), if_pos q]
        · rw [if_neg (by omega), if_neg (by omega), if_neg (by omega), if_neg (by omega), if_neg (by omega), if_neg (by omega), if_pos q, if_neg (by omega), if_neg (by omega), if_neg (by omega), if_neg (by omega), if_neg (by omega), if_neg (by omega), if_pos q]
        · rw [if_neg (by omega), if_neg (by omega), if_neg (by omega), if_neg (by omega), if_neg (by omega), if_neg (by omega), if_neg (by omega), if_pos q, if_neg (by omega), if_neg (by omega), if_neg (by omega), if_neg (by omega), if_neg (by omega), if_neg (by omega), if_neg (by omega), if_pos q]
theorem REL_end {s m : mS} (hR : REL s m) (i : Int) : REL (cend s i) (mend m i) := by
  have r7 := hR.2.2.2.2.2.2
  have ks : ∀ k z, k ≠ 36 → k ≠ 35 → k ≠ 66 → cend s i k z = s k z := fun k z h h1 h2 => cend_k s i k z h h1 h2
  have km : ∀ k z, k ≠ 35 → k ≠ 36 → k ≠ 40 → mend m i k z = m k z := fun k z h h1 h2 => by unfold mend; rw [up_k _ _ _ _ h2, up_k _ _ _ _ h1, up_k _ _ _ _ h]
  have s36 : ∀ z, cend s i 36 z = if z = i then 0 else s 36 z := fun z => by unfold cend; rw [up_k _ _ _ _ (by decide), up_k _ _ _ _ (by decide), up_z]
  have s35 : ∀ z, cend s i 35 z = if z = i then 0 else s 35 z := fun z => by unfold cend; rw [up_k _ _ _ _ (by decide), up_z, up_k _ _ _ _ (by decide)]
  have s66 : ∀ z, cend s i 66 z = if z = i then 2147483647 else s 66 z := fun z => by unfold cend; rw [up_z, up_k _ _ _ _ (by decide), up_k _ _ _ _ (by decide)]
  have m36 : ∀ z, mend m i 36 z = if z = i then 0 else m 36 z := fun z => by unfold mend; rw [up_k _ _ _ _ (by decide), up_z, up_k _ _ _ _ (by decide)]
  have m35 : ∀ z, mend m i 35 z = if z = i then 0 else m 35 z := fun z => by unfold mend; rw [up_k _ _ _ _ (by decide), up_k _ _ _ _ (by decide), up_z]
  have m40 : ∀ z, mend m i 40 z = if z = i then -9 else m 40 z := fun z => by unfold mend; rw [up_z, up_k _ _ _ _ (by decide), up_k _ _ _ _ (by decide)]
  refine REL_prot hR (fun k z q => ks k z (by unfold pk at q; omega) (by unfold pk at q; omega) (by unfold pk at q; omega)) (fun k z q => km k z (by unfold pk at q; omega) (by unfold pk at q; omega) (by unfold pk at q; omega)) ?_ ?_ ?_ ?_
  · intro k z _ hk
    by_cases c36 : k = 36
    · subst c36; rw [s36, m36, hR.1 36 z rfl]
    by_cases c35 : k = 35
    · subst c35; rw [s35, m35, hR.1 35 z rfl]
    have c66 : k ≠ 66 := by intro e; rw [e] at hk; revert hk; decide
    have c40 : k ≠ 40 := by intro e; rw [e] at hk; revert hk; decide
    rw [ks k z c36 c35 c66, km k z c35 c36 c40]
    exact hR.1 k z hk
  · intro z a b
    rw [km 53 0 (by decide) (by decide) (by decide)] at b
    rw [ks 54 z (by decide) (by decide) (by decide), km 54 z (by decide) (by decide) (by decide)]
    exact hR.2.1 z a b
  · intro i' i1 i2
    obtain ⟨a, b, c, d⟩ := hR.2.2.1 i' i1 i2
    refine ⟨?_, ?_, ?_, ?_⟩
    · by_cases ci : i' = i
      · unfold runR
        rw [m36, s66, if_pos ci, if_pos ci]
        exact ⟨fun _ => rfl, fun q => absurd q (by omega), fun q => absurd q (by omega)⟩
      · refine runR_of a (fun k k1 k2 => ?_) (fun k k1 k2 => ?_)
        · by_cases c66 : k = 66
          · subst c66; rw [s66, if_neg ci]
          · exact ks k i' (by omega) (by omega) c66
        · by_cases c36 : k = 36
          · subst c36; rw [m36, if_neg ci]
          by_cases c40 : k = 40
          · subst c40; rw [m40, if_neg ci]
          · exact km k i' (by omega) c36 c40
    · rw [ks 62 i' (by decide) (by decide) (by decide), km 30 i' (by decide) (by decide) (by decide), km 34 i' (by decide) (by decide) (by decide)]; exact b
    · rw [ks 62 i' (by decide) (by decide) (by decide)]; exact c
    · rw [ks 62 i' (by decide) (by decide) (by decide), km 10 0 (by decide) (by decide) (by decide)]; exact d
  · unfold cend
    exact rg_up (rg_up (rg_up r7 _ _ (by omega)) _ _ (by omega)) _ _ (by omega)
theorem REL_take {s m : mS} (hR : REL s m) (hs : 0 ≤ m 53 0 ∧ m 53 0 ≤ 60) {i : Int} (hi : 0 ≤ i ∧ i < m 53 0) : REL (ctak s i) (mrem m i) ∧ ∀ k, 0 ≤ k → k < 8 → ctak s i 54 (8 * 61 + k) = mrem m i 55 k := by
  have e53 := rel_k hR 53 0
  have r7 := hR.2.2.2.2.2.2
  have ks : ∀ k z, k ≠ 53 → k ≠ 54 → ctak s i k z = s k z := fun k z h h1 => ctak_k s i k z h h1
  have km : ∀ k z, k ≠ 53 → k ≠ 54 → k ≠ 55 → mrem m i k z = m k z := fun k z h h1 h2 => by
    unfold mrem mrl
    rw [if_neg (fun q => h1 q.1), if_neg (fun q => h q.1), if_neg (fun q => h2 q.1)]
  have m53 : mrem m i 53 0 = m 53 0 - 1 := by unfold mrem mrl; rw [if_neg (by omega), if_pos ⟨rfl, rfl⟩]
  constructor
  · refine REL_prot hR (fun k z q => ks k z (by unfold pk at q; omega) (by unfold pk at q; omega)) (fun k z q => km k z (by unfold pk at q; omega) (by unfold pk at q; omega) (by unfold pk at q; omega)) ?_ ?_ (RRU_of hR.2.2.1 (fun k z a b => ks k z (by omega) (by omega)) (fun k z q => km k z (by omega) (by omega) (by omega))) ?_
    · intro k z _ hk
      by_cases c53 : k = 53
      · subst c53
        by_cases cz : z = 0
        · subst cz; rw [ctak_53, m53, e53]
        · have e1 : ctak s i 53 z = s 53 z := by unfold ctak; rw [if_pos rfl, if_neg cz]
          have e2 : mrem m i 53 z = m 53 z := by unfold mrem mrl; rw [if_neg (by omega), if_neg (by omega), if_neg (by omega)]
          rw [e1, e2]
          exact hR.1 53 z rfl
      · have c54 : k ≠ 54 := by intro e; rw [e] at hk; revert hk; decide
        have c55 : k ≠ 55 := by intro e; rw [e] at hk; revert hk; decide
        rw [ks k z c53 c54, km k z c53 c54 c55]
        exact hR.1 k z hk
    · intro z z0 z1
      rw [m53] at z1
      have e1 : ctak s i 54 z = s 54 (8 * prm (s 53 0) i (z / 8) + z % 8) := rfl
      rw [e1, e53]
      unfold mrem mrl prm
      by_cases c : 8 * i ≤ z
      · rw [if_neg (by omega), if_pos (by omega), if_pos ⟨rfl, c, z1⟩, show 8 * (z / 8 + 1) + z % 8 = z + 8 by omega]
        exact hR.2.1 _ (by omega) (by omega)
      · rw [if_neg (by omega), if_neg (by omega), if_neg (by omega), if_neg (by omega), if_neg (by omega), if_neg (by omega), show 8 * (z / 8) + z % 8 = z by omega]
        exact hR.2.1 _ (by omega) (by omega)
    · intro k z a b
      by_cases c53 : k = 53
      · subst c53
        have q := rg_of r7 53 z
        unfold ctak
        rw [if_pos rfl]
        split
        · omega
        · exact q
      · by_cases c54 : k = 54
        · subst c54; exact rg_of r7 54 _
        · rw [ks k z c53 c54]; exact r7 k z a b
  · intro k k0 k1
    rw [ctak_54 s i 61 k ⟨k0, k1⟩, prm_61]
    unfold mrem mrl
    rw [if_neg (by omega), if_neg (by omega), if_pos ⟨rfl, k0, k1⟩]
    exact hR.2.1 _ (by omega) (by omega)
