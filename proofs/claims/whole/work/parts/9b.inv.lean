/-! what is always so: numbers that stay small -/
def kr (b gj : Int) (m : mS) (i j : Int) : Prop := (0 ≤ m 30 i ∧ m 30 i ≤ b) ∧ (0 ≤ m 34 i ∧ m 34 i ≤ b) ∧ m 31 i ≤ b ∧ (-1 ≤ m 32 i ∧ m 32 i ≤ 21038399) ∧ (-1 ≤ m 38 i ∧ m 38 i ≤ 21038399) ∧ (m 36 i = 0 ∨ m 36 i = 1 ∨ m 36 i = 2) ∧ (m 36 i = 0 ↔ m 35 i = 0) ∧ (0 ≤ m 35 i ∧ m 35 i ≤ b) ∧ (m 40 i = -9 ∨ (0 ≤ m 40 i ∧ m 40 i ≤ 21038399)) ∧ (m 10 0 ≤ j → m 35 i = 0 ∧ m 34 i = 0) ∧ m 33 i ≤ gj ∧ m 39 i ≤ gj ∧ (m 36 i = 2 → m 40 i ≠ -9 → m 39 i + 1 ≤ gj)
def KR (b : Int) (g : Int → Int) (m : mS) : Prop := ∀ sc j, 0 ≤ sc → sc < 3 → 0 ≤ j → j < 12 → kr b (g j) m (12 * sc + j) j
/-- a letter; e = 1: it lay in the row before the flow began -/
def kl (b : Int) (g p : Int → Int) (m : mS) (e k0 k1 k2 k3 k4 k5 k6 k7 : Int) : Prop := ((0 ≤ k0 ∧ k0 ≤ 5) ∧ (0 ≤ k1 ∧ k1 < 3) ∧ (0 ≤ k2 ∧ k2 < 3) ∧ (k0 = 5 → k2 < 2) ∧ (0 ≤ k3 ∧ k3 < m 10 0) ∧ (k0 ≠ 5 → 0 < k4 ∧ k4 ≤ b) ∧ (k0 = 4 → 0 ≤ k5 ∧ k5 ≤ b) ∧ (k0 = 1 → -1 ≤ k6 ∧ k6 ≤ 21038399) ∧ (k0 = 2 ∨ k0 = 5 → 0 ≤ k5 ∧ k5 ≤ 21038399)) ∧ (k0 = 0 → e = 1 ∧ k4 ≤ m 30 (12 * k1 + k3)) ∧ (k0 = 1 → k4 ≤ m 30 (12 * k2 + k3) ∧ k5 ≤ b ∧ k7 ≤ g k3 ∧ k7 + e ≤ p k3 ∧ (m 36 (12 * k2 + k3) = 1 → m 35 (12 * k2 + k3) = k4 → m 39 (12 * k2 + k3) + e ≤ p k3)) ∧ (k0 = 2 → k7 ≤ g k3) ∧ (k0 = 5 → k4 ≤ g k3) ∧ k7 ≤ 1000000000
def ea (a l : Int) : Int := if l < a then 1 else 0
def KL (b : Int) (g p : Int → Int) (a : Int) (m : mS) : Prop := (0 ≤ m 53 0 ∧ m 53 0 ≤ 60) ∧ ∀ l, 0 ≤ l → l < m 53 0 → kl b g p m (ea a l) (m 54 (8 * l)) (m 54 (8 * l + 1)) (m 54 (8 * l + 2)) (m 54 (8 * l + 3)) (m 54 (8 * l + 4)) (m 54 (8 * l + 5)) (m 54 (8 * l + 6)) (m 54 (8 * l + 7))
def KS (b : Int) (g p : Int → Int) (a c : Int) (m : mS) : Prop := rg m ∧ KR b g m ∧ KL b g p a m ∧ m 51 0 ≤ c ∧ m 10 0 ≤ 12
def a1 (x : Int) : Int := if x = 1 then 1 else 0
def ask (m : mS) (j : Int) : Int := a1 (m 36 j) + a1 (m 36 (12 + j)) + a1 (m 36 (24 + j))
def le12 (g g' : Int → Int) : Prop := ∀ j, 0 ≤ j → j < 12 → g j ≤ g' j
theorem le12_r (g : Int → Int) : le12 g g := fun _ _ _ => Int.le_refl _
theorem kr_mono {b b' g g' : Int} {m : mS} {i j : Int} (h : kr b g m i j) (hb : b ≤ b') (hg : g ≤ g') : kr b' g' m i j := by
  obtain ⟨q1, q2, q3, q4, q5, q6, q7, q8, q9, q10, q11, q12, q13⟩ := h
  exact ⟨by omega, by omega, by omega, q4, q5, q6, q7, by omega, q9, q10, by omega, by omega, fun x y => by have := q13 x y; omega⟩
theorem kr_of {b g : Int} {m m' : mS} {i j : Int} (h : kr b g m i j) (hk : ∀ k, 30 ≤ k → k ≤ 41 → m' k i = m k i) (e10 : m 10 0 ≤ m' 10 0) : kr b g m' i j := by
  unfold kr
  rw [hk 30 (by omega) (by omega), hk 34 (by omega) (by omega), hk 31 (by omega) (by omega), hk 32 (by omega) (by omega), hk 38 (by omega) (by omega), hk 36 (by omega) (by omega), hk 35 (by omega) (by omega), hk 40 (by omega) (by omega), hk 33 (by omega) (by omega), hk 39 (by omega) (by omega)]
  obtain ⟨q1, q2, q3, q4, q5, q6, q7, q8, q9, q10, q11, q12, q13⟩ := h
  exact ⟨q1, q2, q3, q4, q5, q6, q7, q8, q9, fun q => q10 (by omega), q11, q12, q13⟩
theorem KR_one {b : Int} {g g' : Int → Int} {m m' : mS} (h : KR b g m) (gg : le12 g g') {sc0 j0 : Int} (hs : 0 ≤ sc0 ∧ sc0 < 3) (hj : 0 ≤ j0 ∧ j0 < 12) (hk : ∀ k z, 30 ≤ k → k ≤ 41 → z ≠ 12 * sc0 + j0 → m' k z = m k z) (e10 : m 10 0 ≤ m' 10 0) (h1 : kr b (g' j0) m' (12 * sc0 + j0) j0) : KR b g' m' := by
  intro sc j a1 a2 a3 a4
  by_cases c : 12 * sc + j = 12 * sc0 + j0
  · have e1 : sc = sc0 := by omega
    have e2 : j = j0 := by omega
    rw [e1, e2]; exact h1
  · exact kr_of (kr_mono (h sc j a1 a2 a3 a4) (Int.le_refl _) (gg j a3 a4)) (fun k k1 k2 => hk k _ k1 k2 c) e10
theorem KR_of {b : Int} {g g' : Int → Int} {m m' : mS} (h : KR b g m) (gg : le12 g g') (hk : ∀ k z, 30 ≤ k → k ≤ 41 → m' k z = m k z) (e10 : m 10 0 ≤ m' 10 0) : KR b g' m' := by
  intro sc j a1 a2 a3 a4
  exact kr_of (kr_mono (h sc j a1 a2 a3 a4) (Int.le_refl _) (gg j a3 a4)) (fun k k1 k2 => hk k _ k1 k2) e10
theorem kl_of {b b' : Int} {g g' p : Int → Int} {m m' : mS} {e k0 k1 k2 k3 k4 k5 k6 k7 : Int} (h : kl b g p m e k0 k1 k2 k3 k4 k5 k6 k7) (hb : b ≤ b') (h12 : m 10 0 ≤ 12) (e10 : m 10 0 ≤ m' 10 0) (gg : le12 g g') (h30 : ∀ i, m 30 i ≤ m' 30 i) (hr : ∀ i, m' 36 i = 1 → m 36 i = 1 ∧ m' 35 i = m 35 i ∧ m' 39 i = m 39 i) : kl b' g' p m' e k0 k1 k2 k3 k4 k5 k6 k7 := by
  obtain ⟨⟨q0, q1, q2, q3, q4, q5, q6, q7, q8⟩, a0, a1, a2, a5, a7⟩ := h
  have g3 := gg k3 q4.1 (by omega)
  refine ⟨⟨q0, q1, q2, q3, ⟨q4.1, by omega⟩, fun k => by have := q5 k; omega, fun k => by have := q6 k; omega, q7, q8⟩, fun k => ⟨(a0 k).1, ?_⟩, fun k => ?_, fun k => ?_, fun k => ?_, a7⟩
  · have := (a0 k).2; have := h30 (12 * k1 + k3); omega
  · obtain ⟨c1, c2, c3, c4, c5⟩ := a1 k
    refine ⟨by have := h30 (12 * k2 + k3); omega, by omega, by omega, c4, fun x y => ?_⟩
    obtain ⟨d1, d2, d3⟩ := hr _ x
    rw [d3]; exact c5 d1 (by rw [← d2]; exact y)
  · have := a2 k; omega
  · have := a5 k; omega
theorem KL_of {b b' : Int} {g g' p : Int → Int} {a : Int} {m m' : mS} (h : KL b g p a m) (hb : b ≤ b') (h12 : m 10 0 ≤ 12) (e10 : m 10 0 ≤ m' 10 0) (gg : le12 g g') (h30 : ∀ i, m 30 i ≤ m' 30 i) (hr : ∀ i, m' 36 i = 1 → m 36 i = 1 ∧ m' 35 i = m 35 i ∧ m' 39 i = m 39 i) (e53 : m' 53 0 = m 53 0) (e54 : ∀ z, m' 54 z = m 54 z) : KL b' g' p a m' := by
  refine ⟨by rw [e53]; exact h.1, fun l l0 l1 => ?_⟩
  rw [e53] at l1
  rw [e54, e54, e54, e54, e54, e54, e54, e54]
  exact kl_of (h.2 l l0 l1) hb h12 e10 gg h30 hr
theorem msnd_l {m : mS} (kd fr to j b a u g : Int) {l k : Int} (hl : l < m 53 0) (h0 : 0 ≤ k) (h8 : k < 8) : msnd m kd fr to j b a u g 54 (8 * l + k) = m 54 (8 * l + k) := by
  by_cases c : m 53 0 = 60
  · unfold msnd; rw [if_pos c, up_k _ _ _ _ (by decide)]
  · rw [msnd_54 c, if_neg (by omega), if_neg (by omega), if_neg (by omega), if_neg (by omega), if_neg (by omega), if_neg (by omega), if_neg (by omega), if_neg (by omega)]
theorem rg_snd {m : mS} (hr : rg m) (hs : 0 ≤ m 53 0 ∧ m 53 0 ≤ 60) (h51 : m 51 0 ≤ 2000000000) {kd fr to j b a u g : Int} (v1 : -2147483648 ≤ kd ∧ kd ≤ 2147483647) (v2 : -2147483648 ≤ fr ∧ fr ≤ 2147483647) (v3 : -2147483648 ≤ to ∧ to ≤ 2147483647) (v4 : -2147483648 ≤ j ∧ j ≤ 2147483647) (v5 : -2147483648 ≤ b ∧ b ≤ 2147483647) (v6 : -2147483648 ≤ a ∧ a ≤ 2147483647) (v7 : -2147483648 ≤ u ∧ u ≤ 2147483647) (v8 : -2147483648 ≤ g ∧ g ≤ 2147483647) : rg (msnd m kd fr to j b a u g) := by
  have := rg_of hr 51 0
  unfold msnd
  split
  · exact rg_up hr _ _ (by omega)
  · exact rg_up (rg_up (rg_up (rg_up (rg_up (rg_up (rg_up (rg_up (rg_up hr _ _ v1) _ _ v2) _ _ v3) _ _ v4) _ _ v5) _ _ v6) _ _ v7) _ _ v8) _ _ (by omega)
theorem KS_snd {b : Int} {g p : Int → Int} {a c : Int} {m : mS} (h : KS b g p a c m) (hc : c ≤ 2000000000) {kd fr to j bt x u gd : Int} (hn : kl b g p m (ea a (m 53 0)) kd fr to j bt x u gd) (v5 : -2147483648 ≤ bt ∧ bt ≤ 2147483647) (v6 : -2147483648 ≤ x ∧ x ≤ 2147483647) (v7 : -2147483648 ≤ u ∧ u ≤ 2147483647) (v8 : -2147483648 ≤ gd ∧ gd ≤ 2147483647) : KS b g p a (c + 1) (msnd m kd fr to j bt x u gd) := by
  obtain ⟨hr, hR, hL, h51, h12⟩ := h
  have k : ∀ k z, k ≠ 54 → k ≠ 51 → k ≠ 53 → msnd m kd fr to j bt x u gd k z = m k z := fun k z a b c => msnd_k _ _ _ _ _ _ _ _ _ _ _ a b c
  have e10 := k 10 0 (by decide) (by decide) (by decide)
  have hs := hL.1
  obtain ⟨⟨q0, q1, q2, q3, q4, -⟩, -⟩ := id hn
  refine ⟨rg_snd hr hs (by omega) (by omega) (by omega) (by omega) (by omega) v5 v6 v7 v8, KR_of hR (le12_r g) (fun k' z r s => k k' z (by omega) (by omega) (by omega)) (by omega), ⟨msnd_sz hs _ _ _ _ _ _ _ _, fun l l0 l1 => ?_⟩, by rw [msnd_51]; split <;> omega, by omega⟩
  have kk : ∀ {e k0 k1 k2 k3 k4 k5 k6 k7 : Int}, kl b g p m e k0 k1 k2 k3 k4 k5 k6 k7 → kl b g p (msnd m kd fr to j bt x u gd) e k0 k1 k2 k3 k4 k5 k6 k7 := fun hh => kl_of hh (Int.le_refl _) h12 (by omega) (le12_r g) (fun i => by rw [k 30 i (by decide) (by decide) (by decide)]; omega) (fun i hi => by
    rw [k 36 i (by decide) (by decide) (by decide)] at hi
    exact ⟨hi, k 35 i (by decide) (by decide) (by decide), k 39 i (by decide) (by decide) (by decide)⟩)
  by_cases cl : l < m 53 0
  · have f := fun k h0 h8 => msnd_l (m := m) kd fr to j bt x u gd (l := l) (k := k) cl h0 h8
    have f0 := f 0 (by omega) (by omega)
    rw [Int.add_zero] at f0
    rw [f0, f 1 (by omega) (by omega), f 2 (by omega) (by omega), f 3 (by omega) (by omega), f 4 (by omega) (by omega), f 5 (by omega) (by omega), f 6 (by omega) (by omega), f 7 (by omega) (by omega)]
    exact kk (hL.2 l l0 cl)
  · rw [msnd_53] at l1
    have c60 : m 53 0 ≠ 60 := by intro q; rw [if_pos q] at l1; omega
    rw [if_neg c60] at l1
    have el : l = m 53 0 := by omega
    have f := fun z => msnd_54 (m := m) c60 kd fr to j bt x u gd z
    subst el
    rw [f, f, f, f, f, f, f, f]
    rw [if_pos rfl]
    rw [if_neg (by omega), if_pos rfl]
    rw [if_neg (by omega), if_neg (by omega), if_pos rfl]
    rw [if_neg (by omega), if_neg (by omega), if_neg (by omega), if_pos rfl]
    rw [if_neg (by omega), if_neg (by omega), if_neg (by omega), if_neg (by omega), if_pos rfl]
    rw [if_neg (by omega), if_neg (by omega), if_neg (by omega), if_neg (by omega), if_neg (by omega), if_pos rfl]
    rw [if_neg (by omega), if_neg (by omega), if_neg (by omega), if_neg (by omega), if_neg (by omega), if_neg (by omega), if_pos rfl]
    rw [if_neg (by omega), if_neg (by omega), if_neg (by omega), if_neg (by omega), if_neg (by omega), if_neg (by omega), if_neg (by omega), if_pos rfl]
    exact kk hn
theorem KS_mono {b : Int} {g p : Int → Int} {a c c' : Int} {m : mS} (h : KS b g p a c m) (hc : c ≤ c') : KS b g p a c' m := by
  obtain ⟨hr, hR, hL, h51, h12⟩ := h
  exact ⟨hr, hR, hL, by omega, h12⟩
/-- a change of one register and its run -/
theorem KS_reg {b : Int} {g g' p : Int → Int} {a c : Int} {m m' : mS} (h : KS b g p a c m) (gg : le12 g g') {sc j : Int} (hs : 0 ≤ sc ∧ sc < 3) (hj : 0 ≤ j ∧ j < 12) (hr : rg m') (hz : ∀ k z, 30 ≤ k → k ≤ 41 → z ≠ 12 * sc + j → m' k z = m k z) (hk : ∀ k z, k = 10 ∨ k = 51 ∨ k = 53 ∨ k = 54 → m' k z = m k z) (h1 : kr b (g' j) m' (12 * sc + j) j) (h30 : m 30 (12 * sc + j) ≤ m' 30 (12 * sc + j)) (h36 : m' 36 (12 * sc + j) = 1 → m 36 (12 * sc + j) = 1 ∧ m' 35 (12 * sc + j) = m 35 (12 * sc + j) ∧ m' 39 (12 * sc + j) = m 39 (12 * sc + j)) : KS b g' p a c m' := by
  obtain ⟨-, hR, hL, h51, h12⟩ := h
  have e10 := hk 10 0 (by omega)
  refine ⟨hr, KR_one hR gg hs hj hz (by omega) h1, KL_of hL (Int.le_refl _) h12 (by omega) gg (fun i => ?_) (fun i hi => ?_) (hk 53 0 (by omega)) (fun z => hk 54 z (by omega)), by rw [hk 51 0 (by omega)]; exact h51, by omega⟩
  · by_cases c : i = 12 * sc + j
    · rw [c]; exact h30
    · rw [hz 30 i (by omega) (by omega) c]; omega
  · by_cases c : i = 12 * sc + j
    · rw [c] at hi ⊢; exact h36 hi
    · rw [hz 36 i (by omega) (by omega) c] at hi
      exact ⟨hi, hz 35 i (by omega) (by omega) c, hz 39 i (by omega) (by omega) c⟩
theorem KS_k {b : Int} {g p : Int → Int} {a c c' : Int} {m m' : mS} (h : KS b g p a c m) (hr : rg m') (hk : ∀ k z, k = 10 ∨ (30 ≤ k ∧ k ≤ 41) ∨ k = 53 ∨ k = 54 → m' k z = m k z) (h51 : m' 51 0 ≤ c') : KS b g p a c' m' := by
  obtain ⟨-, hR, hL, -, h12⟩ := h
  have e10 := hk 10 0 (by omega)
  exact ⟨hr, KR_of hR (le12_r g) (fun k z a b => hk k z (by omega)) (by omega), KL_of hL (Int.le_refl _) h12 (by omega) (le12_r g) (fun i => by rw [hk 30 i (by omega)]; omega) (fun i hi => by
    rw [hk 36 i (by omega)] at hi
    exact ⟨hi, hk 35 i (by omega), hk 39 i (by omega)⟩) (hk 53 0 (by omega)) (fun z => hk 54 z (by omega)), h51, by omega⟩
theorem msnd_53le {m : mS} (hs : m 53 0 ≤ 60) (kd fr to j b a u g : Int) : m 53 0 ≤ msnd m kd fr to j b a u g 53 0 := by rw [msnd_53]; split <;> omega
theorem KS_st1 {b : Int} {g p : Int → Int} {a c : Int} {m : mS} (h : KS b g p a c m) (hc : c ≤ 1900000000) {kd fr j bt x gd to : Int} (hn : to ≠ fr → kl b g p m (ea a (m 53 0)) kd fr to j bt x 0 gd) (v5 : -2147483648 ≤ bt ∧ bt ≤ 2147483647) (v6 : -2147483648 ≤ x ∧ x ≤ 2147483647) (v8 : -2147483648 ≤ gd ∧ gd ≤ 2147483647) : KS b g p a (c + 1) (mst1 m kd fr j bt x gd to) ∧ m 53 0 ≤ mst1 m kd fr j bt x gd to 53 0 := by
  unfold mst1
  split
  · exact ⟨KS_mono h (by omega), by omega⟩
  · rename_i q
    exact ⟨KS_snd h (by omega) (hn q) v5 v6 (by omega) v8, msnd_53le h.2.2.1.1.2 _ _ _ _ _ _ _ _⟩
theorem kl_k {b : Int} {g p : Int → Int} {m m' : mS} {e k0 k1 k2 k3 k4 k5 k6 k7 : Int} (h : kl b g p m e k0 k1 k2 k3 k4 k5 k6 k7) (hk : ∀ k z, k = 10 ∨ (30 ≤ k ∧ k ≤ 41) → m' k z = m k z) : kl b g p m' e k0 k1 k2 k3 k4 k5 k6 k7 := by
  unfold kl
  rw [hk 10 0 (by omega), hk 30 _ (by omega), hk 30 _ (by omega), hk 36 _ (by omega), hk 35 _ (by omega), hk 39 _ (by omega)]
  exact h
theorem KS_sto {b : Int} {g p : Int → Int} {a c e : Int} {m : mS} (h : KS b g p a c m) (hc : c ≤ 1000000000) {kd fr j bt x gd : Int} (he : ∀ l, m 53 0 ≤ l → l ≤ 60 → ea a l = e) (hn : ∀ to, 0 ≤ to → to < 3 → to ≠ fr → kl b g p m e kd fr to j bt x 0 gd) (v5 : -2147483648 ≤ bt ∧ bt ≤ 2147483647) (v6 : -2147483648 ≤ x ∧ x ≤ 2147483647) (v8 : -2147483648 ≤ gd ∧ gd ≤ 2147483647) : KS b g p a (c + 3) (msto m kd fr j bt x gd) ∧ m 53 0 ≤ msto m kd fr j bt x gd 53 0 := by
  have s0 := h.2.2.1.1
  obtain ⟨h1, l1⟩ := KS_st1 h (by omega) (kd := kd) (fr := fr) (j := j) (bt := bt) (x := x) (gd := gd) (to := 0) (fun q => by rw [he _ (by omega) (by omega)]; exact hn 0 (by omega) (by omega) q) v5 v6 v8
  have s1 := h1.2.2.1.1
  obtain ⟨h2, l2⟩ := KS_st1 h1 (by omega) (kd := kd) (fr := fr) (j := j) (bt := bt) (x := x) (gd := gd) (to := 1) (fun q => by
    rw [he _ (by omega) (by omega)]
    exact kl_k (hn 1 (by omega) (by omega) q) (fun k z r => mst1_k _ _ _ _ _ _ _ _ _ _ (by omega) (by omega) (by omega))) v5 v6 v8
  have s2 := h2.2.2.1.1
  obtain ⟨h3, l3⟩ := KS_st1 h2 (by omega) (kd := kd) (fr := fr) (j := j) (bt := bt) (x := x) (gd := gd) (to := 2) (fun q => by
    rw [he _ (by omega) (by omega)]
    exact kl_k (kl_k (hn 2 (by omega) (by omega) q) (fun k z r => mst1_k _ _ _ _ _ _ _ _ _ _ (by omega) (by omega) (by omega))) (fun k z r => mst1_k _ _ _ _ _ _ _ _ _ _ (by omega) (by omega) (by omega))) v5 v6 v8
  refine ⟨KS_mono h3 (by omega), ?_⟩
  show m 53 0 ≤ mst1 (mst1 (mst1 m kd fr j bt x gd 0) kd fr j bt x gd 1) kd fr j bt x gd 2 53 0
  omega
theorem ask_le {m m' : mS} (h : ∀ z, m' 36 z = 1 → m 36 z = 1) (j : Int) : ask m' j ≤ ask m j := by
  have q : ∀ z, a1 (m' 36 z) ≤ a1 (m 36 z) := by
    intro z
    unfold a1
    split
    · rename_i c; rw [if_pos (h z c)]; omega
    · split <;> omega
  have := q j
  have := q (12 + j)
  have := q (24 + j)
  unfold ask
  omega
theorem ask_lt {m m' : mS} (h : ∀ z, m' 36 z = 1 → m 36 z = 1) {sc j : Int} (hs : 0 ≤ sc ∧ sc < 3) (h1 : m 36 (12 * sc + j) = 1) (h2 : m' 36 (12 * sc + j) ≠ 1) : ask m' j + 1 ≤ ask m j := by
  have q : ∀ z, a1 (m' 36 z) ≤ a1 (m 36 z) := by
    intro z
    unfold a1
    split
    · rename_i c; rw [if_pos (h z c)]; omega
    · split <;> omega
  have q0 : a1 (m' 36 (12 * sc + j)) + 1 ≤ a1 (m 36 (12 * sc + j)) := by unfold a1; rw [if_neg h2, if_pos h1]; omega
  have := q j
  have := q (12 + j)
  have := q (24 + j)
  unfold ask
  have cs : sc = 0 ∨ sc = 1 ∨ sc = 2 := by omega
  rcases cs with rfl | rfl | rfl
  · rw [show 12 * 0 + j = j by omega] at q0; omega
  · rw [show 12 * 1 + j = 12 + j by omega] at q0; omega
  · rw [show 12 * 2 + j = 24 + j by omega] at q0; omega
