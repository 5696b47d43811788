/-! decisions of the class beside the model's -/
theorem crd_z (s : mS) (i l : Int) (k : Nat) (z : Int) (h : z ≠ i ∨ (k ≠ 64 ∧ k ≠ 65)) : crd s i l k z = s k z := by
  unfold crd; split
  · rw [up_ne _ _ (by omega), up_ne _ _ (by omega)]
  · rfl
theorem mrd_z (m : mS) (i : Int) (k : Nat) (z : Int) (h : z ≠ i ∨ (k ≠ 37 ∧ k ≠ 38 ∧ k ≠ 39)) : mrd m i k z = m k z := by
  unfold mrd; split
  · rw [up_ne _ _ (by omega), up_ne _ _ (by omega), up_ne _ _ (by omega)]
  · rfl
theorem rd_eq {s m : mS} (hR : REL s m) (hH : RH s m) {i : Int} (hi : 0 ≤ i ∧ i < 36) (h1 : m 36 i = 1) : crd s i 61 64 i = mrd m i 38 i ∧ crd s i 61 65 i = mrd m i 39 i := by
  obtain ⟨-, r1, -⟩ := (hR.2.2.1 i hi.1 hi.2).1
  obtain ⟨f1, f2, f3, f4, f5⟩ := r1 h1
  have h5 := hH 5 (by omega) (by omega)
  have h6 := hH 6 (by omega) (by omega)
  have h7 := hH 7 (by omega) (by omega)
  unfold crd mrd
  rw [f1, h5, h6, h7]
  by_cases c : m 37 i < m 55 5
  · rw [if_pos c, if_pos c]
    constructor
    · rw [up_k _ _ _ _ (by decide), up_e, up_k _ _ _ _ (by decide), up_e]
    · rw [up_e, up_e]
  · rw [if_neg c, if_neg c]
    exact ⟨f2, f3⟩
theorem crd_rg {s : mS} (h : rg s) (i l : Int) : rg (crd s i l) := by
  unfold crd; split
  · exact rg_up (rg_up h _ _ (rg_of h 54 _)) _ _ (rg_of h 54 _)
  · exact h
theorem REL_decA {s m : mS} (hR : REL s m) (i j un : Int) (hu : -2147483648 ≤ un ∧ un ≤ 2147483647) : REL (cend (up (crd s i 61) 44 j un) i) (mend (up (mrd m i) 44 j un) i) := by
  have ks : ∀ k z, z ≠ i ∨ (k ≠ 36 ∧ k ≠ 35 ∧ k ≠ 66 ∧ k ≠ 64 ∧ k ≠ 65) → k ≠ 44 → cend (up (crd s i 61) 44 j un) i k z = s k z := by
    intro k z h h44
    unfold cend
    rw [up_ne _ _ (by omega), up_ne _ _ (by omega), up_ne _ _ (by omega), up_k _ _ _ _ h44, crd_z s i 61 k z (by omega)]
  have km : ∀ k z, z ≠ i ∨ (k ≠ 35 ∧ k ≠ 36 ∧ k ≠ 40 ∧ k ≠ 37 ∧ k ≠ 38 ∧ k ≠ 39) → k ≠ 44 → mend (up (mrd m i) 44 j un) i k z = m k z := by
    intro k z h h44
    unfold mend
    rw [up_ne _ _ (by omega), up_ne _ _ (by omega), up_ne _ _ (by omega), up_k _ _ _ _ h44, mrd_z m i k z (by omega)]
  have s36 : cend (up (crd s i 61) 44 j un) i 36 i = 0 := by unfold cend; rw [up_k _ _ _ _ (by decide), up_k _ _ _ _ (by decide), up_e]
  have s35 : cend (up (crd s i 61) 44 j un) i 35 i = 0 := by unfold cend; rw [up_k _ _ _ _ (by decide), up_e]
  have s66 : cend (up (crd s i 61) 44 j un) i 66 i = 2147483647 := by unfold cend; rw [up_e]
  have m36 : mend (up (mrd m i) 44 j un) i 36 i = 0 := by unfold mend; rw [up_k _ _ _ _ (by decide), up_e]
  have m35 : mend (up (mrd m i) 44 j un) i 35 i = 0 := by unfold mend; rw [up_k _ _ _ _ (by decide), up_k _ _ _ _ (by decide), up_e]
  have s44 : ∀ z, cend (up (crd s i 61) 44 j un) i 44 z = if z = j then un else s 44 z := fun z => by
    unfold cend; rw [up_k _ _ _ _ (by decide), up_k _ _ _ _ (by decide), up_k _ _ _ _ (by decide), up_z, crd_z s i 61 44 z (by omega)]
  have m44 : ∀ z, mend (up (mrd m i) 44 j un) i 44 z = if z = j then un else m 44 z := fun z => by
    unfold mend; rw [up_k _ _ _ _ (by decide), up_k _ _ _ _ (by decide), up_k _ _ _ _ (by decide), up_z, mrd_z m i 44 z (by omega)]
  refine REL_prot hR (fun k z q => ks k z (by unfold pk at q; omega) (by unfold pk at q; omega)) (fun k z q => km k z (by unfold pk at q; omega) (by unfold pk at q; omega)) ?_ ?_ ?_ ?_
  · intro k z _ hk
    by_cases c44 : k = 44
    · subst c44; rw [s44, m44, hR.1 44 z rfl]
    by_cases cz : z = i
    · subst cz
      by_cases c36 : k = 36
      · subst c36; rw [s36, m36]
      by_cases c35 : k = 35
      · subst c35; rw [s35, m35]
      have hk2 : k ≠ 66 ∧ k ≠ 64 ∧ k ≠ 65 ∧ k ≠ 40 ∧ k ≠ 37 ∧ k ≠ 38 ∧ k ≠ 39 := by
        refine ⟨?_, ?_, ?_, ?_, ?_, ?_, ?_⟩ <;> (intro e; rw [e] at hk; revert hk; decide)
      rw [ks k z (by omega) c44, km k z (by omega) c44]
      exact hR.1 k z hk
    · rw [ks k z (Or.inl cz) c44, km k z (Or.inl cz) c44]
      exact hR.1 k z hk
  · intro z a b
    rw [km 53 0 (by omega) (by decide)] at b
    rw [ks 54 z (by omega) (by decide), km 54 z (by omega) (by decide)]
    exact hR.2.1 z a b
  · intro i' i1 i2
    obtain ⟨a, b, c, d⟩ := hR.2.2.1 i' i1 i2
    refine ⟨?_, ?_, ?_, ?_⟩
    · by_cases ci : i' = i
      · subst ci
        unfold runR
        rw [m36, s66]
        exact ⟨fun _ => rfl, fun q => absurd q (by omega), fun q => absurd q (by omega)⟩
      · exact runR_of a (fun k k1 k2 => ks k i' (Or.inl ci) (by omega)) (fun k k1 k2 => km k i' (Or.inl ci) (by omega))
    · rw [ks 62 i' (by omega) (by decide), km 30 i' (by omega) (by decide), km 34 i' (by omega) (by decide)]; exact b
    · rw [ks 62 i' (by omega) (by decide)]; exact c
    · rw [ks 62 i' (by omega) (by decide), km 10 0 (by omega) (by decide)]; exact d
  · unfold cend
    exact rg_up (rg_up (rg_up (rg_up (crd_rg hR.2.2.2.2.2.2 i 61) _ _ hu) _ _ (by omega)) _ _ (by omega)) _ _ (by omega)
theorem cclm_rd (t : mS) (i mi nw ov : Int) : cclm t i mi nw ov 36 i = 2 ∧ cclm t i mi nw ov 66 i = mi ∧ cclm t i mi nw ov 67 i = ov ∧ cclm t i mi nw ov 64 i = (if mi = 2147483647 then nw else mi) ∧ cclm t i mi nw ov 65 i = (if mi = 2147483647 then t 65 i else t 65 i + 1) ∧ ∀ k z, z ≠ i ∨ (k ≠ 36 ∧ k ≠ 66 ∧ k ≠ 67 ∧ k ≠ 64 ∧ k ≠ 65) → cclm t i mi nw ov k z = t k z := by
  unfold cclm
  by_cases c : mi = 2147483647
  · rw [if_pos c, if_pos c, if_pos c]
    refine ⟨?_, ?_, ?_, ?_, ?_, fun k z h => ?_⟩
    · rw [up_k _ _ _ _ (by decide), up_k _ _ _ _ (by decide), up_k _ _ _ _ (by decide), up_e]
    · rw [up_k _ _ _ _ (by decide), up_k _ _ _ _ (by decide), up_e]
    · rw [up_k _ _ _ _ (by decide), up_e]
    · rw [up_e]
    · rw [up_k _ _ _ _ (by decide), up_k _ _ _ _ (by decide), up_k _ _ _ _ (by decide), up_k _ _ _ _ (by decide)]
    · rw [up_ne _ _ (by omega), up_ne _ _ (by omega), up_ne _ _ (by omega), up_ne _ _ (by omega)]
  · rw [if_neg c, if_neg c, if_neg c]
    refine ⟨?_, ?_, ?_, ?_, ?_, fun k z h => ?_⟩
    · rw [up_k _ _ _ _ (by decide), up_k _ _ _ _ (by decide), up_k _ _ _ _ (by decide), up_k _ _ _ _ (by decide), up_e]
    · rw [up_k _ _ _ _ (by decide), up_k _ _ _ _ (by decide), up_k _ _ _ _ (by decide), up_e]
    · rw [up_k _ _ _ _ (by decide), up_k _ _ _ _ (by decide), up_e]
    · rw [up_k _ _ _ _ (by decide), up_e]
    · rw [up_e]
    · rw [up_ne _ _ (by omega), up_ne _ _ (by omega), up_ne _ _ (by omega), up_ne _ _ (by omega), up_ne _ _ (by omega)]
theorem REL_decB {s m : mS} (hR : REL s m) (hH : RH s m) {i : Int} (hi : 0 ≤ i ∧ i < 36) (h1 : m 36 i = 1) (j un mi first : Int) (hu : -2147483648 ≤ un ∧ un ≤ 2147483647) (hmi : mi = 2147483647 ∨ (0 ≤ mi ∧ mi ≤ 21038399)) (hf : first ≠ 2147483647) (hfr : first ≤ 21038399) (h0 : 0 ≤ m 0 0 ∧ m 0 0 ≤ 21038399) (h39 : -2147483648 ≤ mrd m i 39 i ∧ mrd m i 39 i ≤ 2000000000) (hr : rg m) : REL (cacc (cclm (up (crd s i 61) 44 j un) i mi (m 0 0) (if first < mi then 1 else 0)) i (m 35 i) (if mi = 2147483647 then m 0 0 else mi) (if mi = 2147483647 then mrd m i 39 i else mrd m i 39 i + 1)) (mcl0 (mrd m i) i j first mi un (if mi = 2147483647 then m 0 0 else mi) (if mi = 2147483647 then mrd m i 39 i else mrd m i 39 i + 1)) := by
  obtain ⟨d1, d2⟩ := rd_eq hR hH hi h1
  generalize hU : (if mi = 2147483647 then m 0 0 else mi) = U
  generalize hg : (if mi = 2147483647 then mrd m i 39 i else mrd m i 39 i + 1) = g
  have hUr : -2147483648 ≤ U ∧ U ≤ 2147483647 := by rw [← hU]; split <;> omega
  have hgr : -2147483648 ≤ g ∧ g ≤ 2147483647 := by rw [← hg]; split <;> omega
  obtain ⟨q1, q2, q3, q4, q5, q6⟩ := cclm_rd (up (crd s i 61) 44 j un) i mi (m 0 0) (if first < mi then 1 else 0)
  rw [up_k _ _ _ _ (by decide), d2] at q5
  rw [hg] at q5
  generalize hT : cclm (up (crd s i 61) 44 j un) i mi (m 0 0) (if first < mi then 1 else 0) = T at *
  have ks : ∀ k z, z ≠ i ∨ (k ≠ 36 ∧ k ≠ 66 ∧ k ≠ 67 ∧ k ≠ 64 ∧ k ≠ 65 ∧ k ≠ 31 ∧ k ≠ 32 ∧ k ≠ 33) → k ≠ 44 → cacc T i (m 35 i) U g k z = s k z := by
    intro k z h h44
    unfold cacc
    rw [up_ne _ _ (by omega), up_ne _ _ (by omega), up_ne _ _ (by omega), q6 k z (by omega), up_k _ _ _ _ h44, crd_z s i 61 k z (by omega)]
  have kc : ∀ k, k ≠ 31 → k ≠ 32 → k ≠ 33 → cacc T i (m 35 i) U g k i = T k i := fun k a b c => cacc_k _ _ _ _ _ _ _ a b c
  have km : ∀ k z, z ≠ i ∨ (k ≠ 41 ∧ k ≠ 40 ∧ k ≠ 36 ∧ k ≠ 31 ∧ k ≠ 32 ∧ k ≠ 33 ∧ k ≠ 37 ∧ k ≠ 38 ∧ k ≠ 39) → k ≠ 44 → mcl0 (mrd m i) i j first mi un U g k z = m k z := by
    intro k z h h44
    unfold mcl0
    rw [up_ne _ _ (by omega), up_ne _ _ (by omega), up_ne _ _ (by omega), up_ne _ _ (by omega), up_ne _ _ (by omega), up_ne _ _ (by omega), up_k _ _ _ _ h44, mrd_z m i k z (by omega)]
  have s31 : cacc T i (m 35 i) U g 31 i = m 35 i := by unfold cacc; rw [up_k _ _ _ _ (by decide), up_k _ _ _ _ (by decide), up_e]
  have s32 : cacc T i (m 35 i) U g 32 i = U := by unfold cacc; rw [up_k _ _ _ _ (by decide), up_e]
  have s33 : cacc T i (m 35 i) U g 33 i = g := by unfold cacc; rw [up_e]
  have m33 : mcl0 (mrd m i) i j first mi un U g 33 i = g := by unfold mcl0; rw [up_e]
  have m32 : mcl0 (mrd m i) i j first mi un U g 32 i = U := by unfold mcl0; rw [up_k _ _ _ _ (by decide), up_e]
  have m31 : mcl0 (mrd m i) i j first mi un U g 31 i = m 35 i := by unfold mcl0; rw [up_k _ _ _ _ (by decide), up_k _ _ _ _ (by decide), up_e, mrd_z m i 35 i (by omega)]
  have m36 : mcl0 (mrd m i) i j first mi un U g 36 i = 2 := by unfold mcl0; rw [up_k _ _ _ _ (by decide), up_k _ _ _ _ (by decide), up_k _ _ _ _ (by decide), up_e]
  have m40 : mcl0 (mrd m i) i j first mi un U g 40 i = nof mi := by unfold mcl0; rw [up_k _ _ _ _ (by decide), up_k _ _ _ _ (by decide), up_k _ _ _ _ (by decide), up_k _ _ _ _ (by decide), up_e]
  have m41 : mcl0 (mrd m i) i j first mi un U g 41 i = if mi = 2147483647 ∨ first < mi then 1 else 0 := by unfold mcl0; rw [up_k _ _ _ _ (by decide), up_k _ _ _ _ (by decide), up_k _ _ _ _ (by decide), up_k _ _ _ _ (by decide), up_k _ _ _ _ (by decide), up_e]
  have m39 : mcl0 (mrd m i) i j first mi un U g 39 i = mrd m i 39 i := by unfold mcl0; rw [up_k _ _ _ _ (by decide), up_k _ _ _ _ (by decide), up_k _ _ _ _ (by decide), up_k _ _ _ _ (by decide), up_k _ _ _ _ (by decide), up_k _ _ _ _ (by decide), up_k _ _ _ _ (by decide)]
  have s44 : ∀ z, cacc T i (m 35 i) U g 44 z = if z = j then un else s 44 z := fun z => by
    rw [cacc_k _ _ _ _ _ _ _ (by decide) (by decide) (by decide), q6 44 z (by omega), up_z, crd_z s i 61 44 z (by omega)]
  have m44 : ∀ z, mcl0 (mrd m i) i j first mi un U g 44 z = if z = j then un else m 44 z := fun z => by
    unfold mcl0; rw [up_k _ _ _ _ (by decide), up_k _ _ _ _ (by decide), up_k _ _ _ _ (by decide), up_k _ _ _ _ (by decide), up_k _ _ _ _ (by decide), up_k _ _ _ _ (by decide), up_z, mrd_z m i 44 z (by omega)]
  refine REL_prot hR (fun k z q => ks k z (by unfold pk at q; omega) (by unfold pk at q; omega)) (fun k z q => km k z (by unfold pk at q; omega) (by unfold pk at q; omega)) ?_ ?_ ?_ ?_
  · intro k z _ hk
    by_cases c44 : k = 44
    · subst c44; rw [s44, m44, hR.1 44 z rfl]
    by_cases cz : z = i
    · subst cz
      by_cases c36 : k = 36
      · subst c36; rw [kc 36 (by decide) (by decide) (by decide), q1, m36]
      by_cases c31 : k = 31
      · subst c31; rw [s31, m31]
      by_cases c32 : k = 32
      · subst c32; rw [s32, m32]
      by_cases c33 : k = 33
      · subst c33; rw [s33, m33]
      have hk2 : k ≠ 66 ∧ k ≠ 64 ∧ k ≠ 65 ∧ k ≠ 67 ∧ k ≠ 40 ∧ k ≠ 37 ∧ k ≠ 38 ∧ k ≠ 39 ∧ k ≠ 41 := by
        refine ⟨?_, ?_, ?_, ?_, ?_, ?_, ?_, ?_, ?_⟩ <;> (intro e; rw [e] at hk; revert hk; decide)
      rw [ks k z (by omega) c44, km k z (by omega) c44]
      exact hR.1 k z hk
    · rw [ks k z (Or.inl cz) c44, km k z (Or.inl cz) c44]
      exact hR.1 k z hk
  · intro z a b
    rw [km 53 0 (by omega) (by decide)] at b
    rw [ks 54 z (by omega) (by decide), km 54 z (by omega) (by decide)]
    exact hR.2.1 z a b
  · intro i' i1 i2
    obtain ⟨a, b, c, d⟩ := hR.2.2.1 i' i1 i2
    refine ⟨?_, ?_, ?_, ?_⟩
    · by_cases ci : i' = i
      · subst ci
        unfold runR
        rw [m36, m40, m39, m41, kc 66 (by decide) (by decide) (by decide), kc 65 (by decide) (by decide) (by decide), kc 67 (by decide) (by decide) (by decide), q2, q3, q5]
        refine ⟨fun q => absurd q (by omega), fun q => absurd q (by omega), fun _ => ⟨?_, ?_, ?_⟩⟩
        · intro q
          unfold nof at q
          split at q
          · assumption
          · omega
        · intro q
          unfold nof at q ⊢
          by_cases cm : mi = 2147483647
          · rw [if_pos cm] at q; exact absurd rfl q
          · rw [if_neg cm, ← hg, if_neg cm]
            exact ⟨rfl, rfl⟩
        · by_cases cm : mi = 2147483647
          · rw [if_pos (by omega), if_pos (Or.inl cm)]
          · by_cases cf : first < mi
            · rw [if_pos cf, if_pos (Or.inr cf)]
            · rw [if_neg cf, if_neg (by omega)]
      · exact runR_of a (fun k k1 k2 => ks k i' (Or.inl ci) (by omega)) (fun k k1 k2 => km k i' (Or.inl ci) (by omega))
    · rw [ks 62 i' (by omega) (by decide), km 30 i' (by omega) (by decide), km 34 i' (by omega) (by decide)]; exact b
    · rw [ks 62 i' (by omega) (by decide)]; exact c
    · rw [ks 62 i' (by omega) (by decide), km 10 0 (by omega) (by decide)]; exact d
  · rw [← hT]
    unfold cacc cclm
    have rt : rg (up (crd s i 61) 44 j un) := rg_up (crd_rg hR.2.2.2.2.2.2 i 61) _ _ hu
    have h65 : up (crd s i 61) 44 j un 65 i = mrd m i 39 i := by rw [up_k _ _ _ _ (by decide), d2]
    have ovr : -2147483648 ≤ (if first < mi then (1 : Int) else 0) ∧ (if first < mi then (1 : Int) else 0) ≤ 2147483647 := by split <;> omega
    refine rg_up (rg_up (rg_up ?_ _ _ (rg_of hr 35 i)) _ _ hUr) _ _ hgr
    split
    · exact rg_up (rg_up (rg_up (rg_up rt _ _ (by omega)) _ _ (by omega)) _ _ ovr) _ _ (by omega)
    · exact rg_up (rg_up (rg_up (rg_up (rg_up rt _ _ (by omega)) _ _ (by omega)) _ _ ovr) _ _ (by omega)) _ _ (by rw [h65]; omega)
