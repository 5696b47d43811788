/-! what moment and highest-before mean -/
def zsr (ss : List Int) : Prop := gz ss 0 = 0 ∧ ∀ k : Nat, k + 1 < ss.length → gz ss k ≤ gz ss ((k : Int) + 1)
def zst (ss : List Int) (k : Nat) : Int := if k < ss.length then gz ss k else 21038400
theorem zend_st (ss : List Int) (k : Nat) : zend ss k = zst ss (k + 1) - 1 := by
  unfold zend zst
  by_cases c : k + 1 < ss.length
  · rw [if_pos (by omega), if_pos c]
    rfl
  · rw [if_neg (by omega), if_neg c]
    rfl
theorem zst_mono {ss os : List Int} (hz : zok ss os) (hs : zsr ss) (k : Nat) : zst ss k ≤ zst ss (k + 1) := by
  unfold zst
  have := hz.2.2.2.1 k
  by_cases c : k + 1 < ss.length
  · rw [if_pos (by omega), if_pos c]
    have := hs.2 k c
    simpa using this
  · rw [if_neg c]
    split <;> omega
theorem zst_le {ss os : List Int} (hz : zok ss os) (hs : zsr ss) {k j : Nat} (h : k ≤ j) : zst ss k ≤ zst ss j := by
  induction h with
  | refl => exact Int.le_refl _
  | step _ ih => exact Int.le_trans ih (zst_mono hz hs _)
theorem zst_in {ss : List Int} {k : Nat} (h : k < ss.length) : zst ss k = gz ss k := by unfold zst; rw [if_pos h]
theorem zoA_st {ss os : List Int} (m : Int) : ∀ (n k : Nat) (acc : Int), k + n = ss.length → m < zst ss k → m ≤ 21038399 → zoA ss os m n k acc = acc := by
  intro n k acc h1 h2 h3
  cases n with
  | zero => rfl
  | succ n =>
    unfold zoA
    rw [zst_in (by omega)] at h2
    rw [if_neg (by omega)]
theorem zoA_at {ss os : List Int} (hz : zok ss os) (hs : zsr ss) (m : Int) (hm : m ≤ 21038399) : ∀ (n k : Nat) (acc : Int) (j : Nat), k + n = ss.length → k ≤ j → j < ss.length → zst ss j ≤ m → m < zst ss (j + 1) → zoA ss os m n k acc = gz os j := by
  intro n
  induction n with
  | zero => intro k acc j h1 h2 h3; omega
  | succ n ih =>
    intro k acc j h1 h2 h3 h4 h5
    unfold zoA
    have h6 := zst_le hz hs h2
    rw [zst_in (show k < ss.length by omega)] at h6
    rw [if_pos (by omega)]
    have ek : ((k : Int) + 1) = ((k + 1 : Nat) : Int) := by omega
    rw [ek]
    rcases Nat.lt_or_ge k j with q | q
    · exact ih (k + 1) _ j (by omega) (by omega) h3 h4 h5
    · have : k = j := by omega
      subst this
      exact zoA_st m n (k + 1) _ (by omega) h5 hm
theorem zloc_at {ss os : List Int} (hz : zok ss os) (hs : zsr ss) {m : Int} {j : Nat} (hj : j < ss.length) (h1 : zst ss j ≤ m) (h2 : m < zst ss (j + 1)) (hm : m ≤ 21038399) : zloc ss os m = m + gz os j := by
  unfold zloc zoff
  have := zoA_at hz hs m hm ss.length 0 0 j (by omega) (by omega) hj h1 h2
  rw [show (((0 : Nat) : Int)) = 0 from rfl] at this
  rw [this]
theorem zpiece {ss : List Int} (m : Int) (hm : m ≤ 21038399) : ∀ (n k : Nat), k + n = ss.length → zst ss k ≤ m → ∃ j, k ≤ j ∧ j < ss.length ∧ zst ss j ≤ m ∧ m < zst ss (j + 1) := by
  intro n
  induction n with
  | zero =>
    intro k h1 h2
    unfold zst at h2
    rw [if_neg (by omega)] at h2
    omega
  | succ n ih =>
    intro k h1 h2
    rcases Int.lt_or_le m (zst ss (k + 1)) with q | q
    · exact ⟨k, by omega, by omega, h2, q⟩
    · obtain ⟨j, j1, j2⟩ := ih (k + 1) (by omega) q
      exact ⟨j, by omega, j2⟩
theorem zmoA_sp {ss os : List Int} (hz : zok ss os) (hs : zsr ss) (l : Int) : ∀ (n k : Nat), k + n = ss.length → (∀ m, 0 ≤ m → m ≤ 21038399 → m < zst ss k → zloc ss os m < l) → fsP (fun m => decide (l ≤ zloc ss os m)) 0 21038399 (zmoA ss os l n k) := by
  intro n
  induction n with
  | zero =>
    intro k h1 h2
    refine Or.inl ⟨rfl, fun m m1 m2 => ?_⟩
    have : zst ss k = 21038400 := by unfold zst; rw [if_neg (by omega)]
    have := h2 m m1 m2 (by omega)
    simp
    omega
  | succ n ih =>
    intro k h1 h2
    unfold zmoA
    have z1 := hz.2.2.2.1 k
    have z2 := zend_r hz k
    have z3 := zend_st ss k
    have z4 := zst_in (show k < ss.length by omega)
    split
    next c =>
      refine Or.inr ⟨by omega, by omega, ?_, fun m m1 m2 => ?_⟩
      · have := zloc_at hz hs (m := max (gz ss k) (l - gz os k)) (j := k) (by omega) (by omega) (by omega) (by omega)
        simp
        omega
      · simp
        rcases Int.lt_or_le m (gz ss k) with q | q
        · exact h2 m m1 (by omega) (by omega)
        · have := zloc_at hz hs (m := m) (j := k) (by omega) (by omega) (by omega) (by omega)
          omega
    next c =>
      have ek : ((k : Int) + 1) = ((k + 1 : Nat) : Int) := by omega
      rw [ek]
      refine ih (k + 1) (by omega) (fun m m1 m2 m3 => ?_)
      rcases Int.lt_or_le m (gz ss k) with q | q
      · exact h2 m m1 (by omega) (by omega)
      · have := zloc_at hz hs (m := m) (j := k) (by omega) (by omega) (by omega) (by omega)
        omega
theorem zmom_sp {ss os : List Int} (hz : zok ss os) (hs : zsr ss) {l : Int} (hl : zloc ss os 0 ≤ l) : fsP (fun m => decide (l ≤ zloc ss os m)) 0 21038399 (zmom ss os l) := by
  unfold zmom
  rw [if_neg (by omega)]
  have hl1 := hz.2.1
  refine zmoA_sp hz hs l ss.length 0 (by omega) (fun m m1 m2 m3 => ?_)
  rw [zst_in (by omega)] at m3
  have := hs.1
  rw [show (((0 : Nat) : Int)) = 0 from rfl] at m3
  omega
theorem zhA_sp {ss os : List Int} (hz : zok ss os) (hs : zsr ss) (m0 l : Int) : ∀ (n k : Nat) (acc : Int), k + n = ss.length → (l ≤ zhA ss os m0 n k acc ↔ (l ≤ acc ∨ ∃ m, zst ss k ≤ m ∧ m ≤ 21038399 ∧ m < m0 ∧ l ≤ zloc ss os m)) := by
  intro n
  induction n with
  | zero =>
    intro k acc h1
    have : zst ss k = 21038400 := by unfold zst; rw [if_neg (by omega)]
    unfold zhA
    constructor
    · exact Or.inl
    · rintro (q | ⟨m, m1, m2, -⟩)
      · exact q
      · omega
  | succ n ih =>
    intro k acc h1
    unfold zhA
    have ek : ((k : Int) + 1) = ((k + 1 : Nat) : Int) := by omega
    rw [ek, ih (k + 1) _ (by omega)]
    have z3 := zend_st ss k
    have z4 := zst_in (show k < ss.length by omega)
    have z5 := zst_mono hz hs k
    have z6 := zend_r hz k
    constructor
    · rintro (q | ⟨m, m1, m2, m3, m4⟩)
      · split at q
        next c =>
          rcases Int.le_total (min (zend ss k) (m0 - 1) + gz os k) acc with w | w
          · left; omega
          · right
            refine ⟨min (zend ss k) (m0 - 1), by omega, by omega, by omega, ?_⟩
            rw [zloc_at hz hs (m := min (zend ss k) (m0 - 1)) (j := k) (by omega) (by omega) (by omega) (by omega)]
            omega
        next c => left; exact q
      · right; exact ⟨m, by omega, m2, m3, m4⟩
    · rintro (q | ⟨m, m1, m2, m3, m4⟩)
      · left; split <;> omega
      · rcases Int.lt_or_le m (zst ss (k + 1)) with w | w
        · left
          have := zloc_at hz hs (m := m) (j := k) (by omega) (by omega) (by omega) (by omega)
          rw [if_pos (by omega)]
          omega
        · right; exact ⟨m, w, m2, m3, m4⟩
theorem zhb_sp {ss os : List Int} (hz : zok ss os) (hs : zsr ss) (m0 l : Int) : l ≤ zhb ss os m0 ↔ (l < zloc ss os 0 ∨ ∃ m, 0 ≤ m ∧ m ≤ 21038399 ∧ m < m0 ∧ l ≤ zloc ss os m) := by
  unfold zhb
  have hl1 := hz.2.1
  have := zhA_sp hz hs m0 l ss.length 0 (zloc ss os 0 - 1) (by omega)
  rw [show (((0 : Nat) : Int)) = 0 from rfl] at this
  rw [this, zst_in (by omega), show (((0 : Nat) : Int)) = 0 from rfl, hs.1]
  constructor
  · rintro (q | q)
    · left; omega
    · exact Or.inr q
  · rintro (q | q)
    · left; omega
    · exact Or.inr q
/-- a LOCAL minute's moment is not below a minute: it is above what is highest before -/
theorem mom_ge {ss os : List Int} (hz : zok ss os) (hs : zsr ss) {l m0 : Int} (hl : zloc ss os 0 ≤ l) (h0 : 0 ≤ m0 ∧ m0 ≤ 21038400) : m0 ≤ zmom ss os l ↔ zhb ss os m0 < l := by
  have e : zhb ss os m0 < l ↔ ¬ l ≤ zhb ss os m0 := by omega
  rw [e, zhb_sp hz hs]
  rcases zmom_sp hz hs hl with ⟨q1, q2⟩ | ⟨q1, q2, q3, q4⟩
  · constructor
    · rintro - (w | ⟨m, m1, m2, m3, m4⟩)
      · omega
      · have := q2 m m1 m2
        simp at this
        omega
    · intro _; omega
  · simp at q3
    constructor
    · rintro w (v | ⟨m, m1, m2, m3, m4⟩)
      · omega
      · have := q4 m m1 (by omega)
        simp at this
        omega
    · intro w
      rcases Int.lt_or_le (zmom ss os l) m0 with v | v
      · exact absurd (Or.inr ⟨_, q1, q2, v, q3⟩) w
      · exact v
theorem zhb_r {ss os : List Int} (hz : zok ss os) (hs : zsr ss) {m0 : Int} : zloc ss os 0 - 1 ≤ zhb ss os m0 ∧ zhb ss os m0 ≤ 21039239 := by
  constructor
  · rw [zhb_sp hz hs]; left; omega
  · rcases Int.lt_or_le 21039239 (zhb ss os m0) with q | q
    · have := (zhb_sp hz hs m0 21039240).mp (by omega)
      have r0 := zoff_r hz 0
      rcases this with w | ⟨m, m1, m2, m3, m4⟩
      · unfold zloc at w; omega
      · have := zoff_r hz m
        unfold zloc at m4; omega
    · exact q
theorem zmom_r {ss os : List Int} (hz : zok ss os) (hs : zsr ss) (l : Int) : zmom ss os l = 2147483647 ∨ (0 ≤ zmom ss os l ∧ zmom ss os l ≤ 21038399) := by
  rcases Int.lt_or_le l (zloc ss os 0) with q | q
  · left; unfold zmom; rw [if_pos q]
  · rcases zmom_sp hz hs q with ⟨q1, q2⟩ | ⟨q1, q2, q3, q4⟩
    · exact Or.inl q1
    · exact Or.inr ⟨q1, q2⟩
