/-! one letter, to the end -/
noncomputable def dst (s m : mS) (to j nj : Int) : mS := if hret s to j = 1 then cdec (hst s to j) m to j nj else hst s to j
/-- bounds that keep the numbers small -/
def BI (m : mS) : Prop := m 51 0 ≤ 1000000000 ∧ m 52 0 ≤ 1000000000 ∧ (∀ j, 0 ≤ j → j < 12 → m 45 j ≤ 1000000000) ∧ (∀ i, 0 ≤ i → i < 36 → m 39 i ≤ 1000000000) ∧ m 55 7 ≤ 1000000000
theorem mrd_39 {m : mS} (hr : rg m) (hb : BI m) (i : Int) (hi : 0 ≤ i ∧ i < 36) : -2147483648 ≤ mrd m i 39 i ∧ mrd m i 39 i ≤ 2000000000 := by
  obtain ⟨-, -, -, b4, b5⟩ := hb
  unfold mrd
  split
  · rw [up_e]
    have := rg_of hr 55 7
    omega
  · have := rg_of hr 39 i
    have := b4 i hi.1 hi.2
    omega
theorem REL_step {s m : mS} (hR : REL s m) (hH : RH s m) (hM : MC m) (hP : MP m) (hE : ME m) (hB : BI m) (hL : lI m (fun k => m 55 k)) (h46 : m 46 (m 55 3) ≤ 298) (hF : m 55 0 = 1 → ffd (dueJ m (m 55 3)) (mrd m (12 * m 55 2 + m 55 3) 38 (12 * m 55 2 + m 55 3) + 1) (m 0 0) = 2147483647 ∨ (0 ≤ ffd (dueJ m (m 55 3)) (mrd m (12 * m 55 2 + m 55 3) 38 (12 * m 55 2 + m 55 3) + 1) (m 0 0) ∧ ffd (dueJ m (m 55 3)) (mrd m (12 * m 55 2 + m 55 3) 38 (12 * m 55 2 + m 55 3) + 1) (m 0 0) ≤ 21038399)) (hV : m 55 0 = 1 → dmin m m (m 55 3) (mrd m (12 * m 55 2 + m 55 3) 38 (12 * m 55 2 + m 55 3)) = 2147483647 ∨ (0 ≤ dmin m m (m 55 3) (mrd m (12 * m 55 2 + m 55 3) 38 (12 * m 55 2 + m 55 3)) ∧ dmin m m (m 55 3) (mrd m (12 * m 55 2 + m 55 3) 38 (12 * m 55 2 + m 55 3)) ≤ 21038399)) : REL (dst s m (m 55 2) (m 55 3) (m 10 0)) (mdel m (m 55 2) (m 55 3)) := by
  have h10 := hM.2.2.2.1
  have hr := hM.1
  have hs := hP.2.1
  obtain ⟨b1, b2, b3, b4, b5⟩ := hB
  obtain ⟨l0, l1, l2, l3, l4, l5, l6, l7, l8⟩ := hL
  dsimp only at l0 l1 l2 l3 l4 l5 l6 l7 l8
  have g0 := hH 0 (by omega) (by omega)
  rw [Int.add_zero] at g0
  have g4 := hH 4 (by omega) (by omega)
  have hi : 0 ≤ 12 * m 55 2 + m 55 3 ∧ 12 * m 55 2 + m 55 3 < 36 := by omega
  have rI0 := hP.1 _ hi.1 hi.2
  unfold dst hret hst mdel
  rw [g0, g4, hR.1 42 _ rfl, hR.1 36 _ rfl, hR.1 35 _ rfl]
  have z10 : ¬ ((0 : Int) = 1) := by omega
  by_cases k5 : m 55 0 = 5
  · have n1 : ¬ (m 55 0 = 1 ∧ m 42 (m 55 2) = 0 ∧ m 36 (12 * m 55 2 + m 55 3) = 1 ∧ m 35 (12 * m 55 2 + m 55 3) = m 55 4) := by omega
    simp only [if_neg n1, if_neg z10, if_pos k5]
    rw [← g4]
    exact REL_tk hR hH hM hE (by omega) ⟨l4.1, l4.2⟩ h46
  · by_cases kd : m 42 (m 55 2) = 0
    · have kd' : ¬ (m 42 (m 55 2) ≠ 0) := fun q => q kd
      have kc : m 55 0 = 0 ∨ m 55 0 = 1 ∨ m 55 0 = 2 ∨ m 55 0 = 3 ∨ m 55 0 = 4 := by omega
      rcases kc with k | k | k | k | k
      · have n1 : ¬ (m 55 0 = 1 ∧ m 42 (m 55 2) = 0 ∧ m 36 (12 * m 55 2 + m 55 3) = 1 ∧ m 35 (12 * m 55 2 + m 55 3) = m 55 4) := by omega
        simp only [if_neg n1, if_neg z10, if_neg k5, if_neg kd', if_pos k]
        exact REL_ask hR hH hs (by omega) hr _
      · have n0 : ¬ (m 55 0 = 0) := by omega
        by_cases kr : m 36 (12 * m 55 2 + m 55 3) = 1 ∧ m 35 (12 * m 55 2 + m 55 3) = m 55 4
        · have n1 : (m 55 0 = 1 ∧ m 42 (m 55 2) = 0 ∧ m 36 (12 * m 55 2 + m 55 3) = 1 ∧ m 35 (12 * m 55 2 + m 55 3) = m 55 4) := ⟨k, kd, kr⟩
          simp only [if_pos n1, if_neg k5, if_neg kd', if_neg n0, if_pos k, if_pos kr, if_true]
          unfold mprm
          rw [if_pos ⟨kr.2, kr.1⟩]
          exact REL_dec hR hH hM hP (by omega) l2 ⟨l4.1, l4.2⟩ kr.1 (hF k) (hV k) (mrd_39 hr ⟨b1, b2, b3, b4, b5⟩ _ hi)
        · have n1 : ¬ (m 55 0 = 1 ∧ m 42 (m 55 2) = 0 ∧ m 36 (12 * m 55 2 + m 55 3) = 1 ∧ m 35 (12 * m 55 2 + m 55 3) = m 55 4) := fun q => kr q.2.2
          simp only [if_neg n1, if_neg z10, if_neg k5, if_neg kd', if_neg n0, if_pos k, if_neg kr]
          unfold mprm
          rw [if_neg (fun q => kr ⟨q.2, q.1⟩)]
          exact hR
      · have n0 : ¬ (m 55 0 = 0) := by omega
        have n2 : ¬ (m 55 0 = 1) := by omega
        have n1 : ¬ (m 55 0 = 1 ∧ m 42 (m 55 2) = 0 ∧ m 36 (12 * m 55 2 + m 55 3) = 1 ∧ m 35 (12 * m 55 2 + m 55 3) = m 55 4) := by omega
        simp only [if_neg n1, if_neg z10, if_neg k5, if_neg kd', if_neg n0, if_neg n2, if_pos k]
        exact REL_wri hR hH hs (by omega) hr _
      · have n0 : ¬ (m 55 0 = 0) := by omega
        have n2 : ¬ (m 55 0 = 1) := by omega
        have n3 : ¬ (m 55 0 = 2) := by omega
        have n1 : ¬ (m 55 0 = 1 ∧ m 42 (m 55 2) = 0 ∧ m 36 (12 * m 55 2 + m 55 3) = 1 ∧ m 35 (12 * m 55 2 + m 55 3) = m 55 4) := by omega
        simp only [if_neg n1, if_neg z10, if_neg k5, if_neg kd', if_neg n0, if_neg n2, if_neg n3, if_pos k]
        exact REL_fin hR hH hs (by omega) (by have := b3 (m 55 3) l4.1 (by omega); omega) hr hi rI0 (by have := b4 (12 * m 55 2 + m 55 3) hi.1 hi.2; omega)
      · have n0 : ¬ (m 55 0 = 0) := by omega
        have n2 : ¬ (m 55 0 = 1) := by omega
        have n3 : ¬ (m 55 0 = 2) := by omega
        have n4 : ¬ (m 55 0 = 3) := by omega
        have n1 : ¬ (m 55 0 = 1 ∧ m 42 (m 55 2) = 0 ∧ m 36 (12 * m 55 2 + m 55 3) = 1 ∧ m 35 (12 * m 55 2 + m 55 3) = m 55 4) := by omega
        simp only [if_neg n1, if_neg z10, if_neg k5, if_neg kd', if_neg n0, if_neg n2, if_neg n3, if_neg n4]
        exact REL_ref hR hH hr _ hi rI0 (l5 (by omega)).1 (l6 k) (by omega)
    · have n1 : ¬ (m 55 0 = 1 ∧ m 42 (m 55 2) = 0 ∧ m 36 (12 * m 55 2 + m 55 3) = 1 ∧ m 35 (12 * m 55 2 + m 55 3) = m 55 4) := fun q => kd q.2.1
      have kd' : m 42 (m 55 2) ≠ 0 := kd
      simp only [if_neg n1, if_neg z10, if_neg k5, if_pos kd']
      exact hR
theorem crep_t {s : mS} (hs : 0 ≤ s 53 0 ∧ s 53 0 ≤ 60) (kd a u g z : Int) (hz : 488 ≤ z) : crep s kd a u g 54 z = s 54 z := csnd_t hs _ _ _ _ _ _ _ _ _ hz
theorem rad_54 (s : mS) (p v z : Int) : rad s p v 54 z = s 54 z := rad_k _ _ _ _ _ (by decide) (by decide) (by decide)
theorem hst_t {s : mS} (hs : 0 ≤ s 53 0 ∧ s 53 0 ≤ 60) (to j z : Int) (hz : 488 ≤ z) : hst s to j 54 z = s 54 z := by
  unfold hst
  split
  · split
    · unfold chd ctk
      split
      · rw [rad_54, rad_54]
      · rw [up_k _ _ _ _ (by decide)]
    · rfl
  split
  · rfl
  split
  · unfold cask
    split
    · rw [crep_t (by rw [up_k _ _ _ _ (by decide)]; exact hs) _ _ _ _ _ hz, up_k _ _ _ _ (by decide)]
    · exact crep_t hs _ _ _ _ _ hz
  split
  · split
    · exact crd_z _ _ _ _ _ (Or.inr ⟨by decide, by decide⟩)
    · rfl
  split
  · unfold cwri
    split
    · rw [crep_t (by rw [cacc_k _ _ _ _ _ _ _ (by decide) (by decide) (by decide), up_k _ _ _ _ (by decide)]; exact hs) _ _ _ _ _ hz, cacc_k _ _ _ _ _ _ _ (by decide) (by decide) (by decide), up_k _ _ _ _ (by decide)]
    · exact crep_t hs _ _ _ _ _ hz
  split
  · unfold cfin
    split
    · rw [cend_k _ _ _ _ (by decide) (by decide) (by decide)]
      unfold cfi2
      split
      · exact cfi1_k _ _ _ _ _ (by decide)
      · rw [csnd_t (by rw [cfi1_k _ _ _ _ _ (by decide)]; exact hs) _ _ _ _ _ _ _ _ _ hz]
        exact cfi1_k _ _ _ _ _ (by decide)
    · rfl
  · unfold cref
    split
    · rw [cend_k _ _ _ _ (by decide) (by decide) (by decide), up_k _ _ _ _ (by decide)]
    · rw [up_k _ _ _ _ (by decide)]
theorem cst1_t {s : mS} (hs : 0 ≤ s 53 0 ∧ s 53 0 ≤ 60) (kd fr j b a g to z : Int) (hz : 488 ≤ z) : cst1 s kd fr j b a g to 54 z = s 54 z := by
  unfold cst1; split
  · rfl
  · exact csnd_t hs _ _ _ _ _ _ _ _ _ hz
theorem csto_t {s : mS} (hs : 0 ≤ s 53 0 ∧ s 53 0 ≤ 60) (kd fr j b a g z : Int) (hz : 488 ≤ z) : csto s kd fr j b a g 54 z = s 54 z := by
  unfold csto
  rw [cst1_t (cst1_sz (cst1_sz hs _ _ _ _ _ _ _) _ _ _ _ _ _ _) _ _ _ _ _ _ _ _ hz, cst1_t (cst1_sz hs _ _ _ _ _ _ _) _ _ _ _ _ _ _ _ hz, cst1_t hs _ _ _ _ _ _ _ _ hz]
theorem cdec_k {s m : mS} {sc j nj : Int} (hs : 0 ≤ s 53 0 ∧ s 53 0 ≤ 60) : (∀ z, 488 ≤ z → cdec s m sc j nj 54 z = s 54 z) ∧ ∀ z, cdec s m sc j nj 102 z = s 102 z := by
  unfold cdec cdec2
  split
  · exact ⟨fun z hz => by rw [cend_k _ _ _ _ (by decide) (by decide) (by decide), up_k _ _ _ _ (by decide)], fun z => by rw [cend_k _ _ _ _ (by decide) (by decide) (by decide), up_k _ _ _ _ (by decide)]⟩
  · unfold cwr
    obtain ⟨-, -, -, -, -, q6⟩ := cclm_rd (up s 44 j (dunm s m j (dmin s m j (s 64 (12 * sc + j))) nj)) (12 * sc + j) (dmin s m j (s 64 (12 * sc + j))) (s 0 0) (if ffd (dueJ m j) (s 64 (12 * sc + j) + 1) (s 0 0) < dmin s m j (s 64 (12 * sc + j)) then 1 else 0)
    constructor
    · intro z hz
      rw [csto_t (by rw [cacc_k _ _ _ _ _ _ _ (by decide) (by decide) (by decide), q6 53 0 (by omega), up_k _ _ _ _ (by decide)]; exact hs) _ _ _ _ _ _ _ hz, cacc_k _ _ _ _ _ _ _ (by decide) (by decide) (by decide), q6 54 z (by omega), up_k _ _ _ _ (by decide)]
    · intro z
      rw [csto_k _ _ _ _ _ _ _ _ _ (by decide) (by decide) (by decide), cacc_k _ _ _ _ _ _ _ (by decide) (by decide) (by decide), q6 102 z (by omega), up_k _ _ _ _ (by decide)]
