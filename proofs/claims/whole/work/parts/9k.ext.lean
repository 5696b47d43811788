/-! more roles -/
theorem xr_loc {s s' : mS} {p : Int} (h100 : s' 100 p = s 100 p) (h101 : ∀ k, 0 ≤ k → k < 600 → s' 101 (600 * p + k) = s 101 (600 * p + k)) (hw : s 100 p ≤ 600) : xr s' p = xr s p := by
  unfold xr
  rw [h100]
  exact rl_congr (fun k k0 k1 => h101 k k0 (by omega))
theorem wI_loc {s s' : mS} {p : Int} (h100 : s' 100 p = s 100 p) (h102 : s' 102 p = s 102 p) (h101 : ∀ k, 0 ≤ k → k < 600 → s' 101 (600 * p + k) = s 101 (600 * p + k)) (w : wI s p) : wI s' p := by
  obtain ⟨w1, w2, w3, w4, w5⟩ := w
  unfold wI
  rw [h100, h102]
  refine ⟨w1, w2, w3, w4, fun k k0 k1 => ?_⟩
  rw [h101 k (by omega) k1]
  exact w5 k k0 k1
theorem wI_600 {s : mS} {p : Int} (w : wI s p) : s 100 p ≤ 600 := by
  obtain ⟨w1, w2, w3, w4, w5⟩ := w
  have := rlim_r p
  omega
theorem zR_loc {s s' m m' : mS} {z : Int} (h : zR s m z) (hI : zI m z) (hp : ∀ p, 3 * z ≤ p → p < 3 * z + 3 → s' 100 p = s 100 p ∧ s' 102 p = s 102 p ∧ ∀ k, 0 ≤ k → k < 600 → s' 101 (600 * p + k) = s 101 (600 * p + k)) (h60 : ∀ k, 0 ≤ k → k < 20 → s' 60 (20 * z + k) = s 60 (20 * z + k)) (c : ∀ k y, 2 ≤ k → k ≤ 6 → m' k y = m k y) : zR s' m' z := by
  obtain ⟨⟨r1, r2, r3⟩, r4, w1, w2, w3⟩ := h
  obtain ⟨a1, a2, a3⟩ := hp (3 * z) (by omega) (by omega)
  obtain ⟨b1, b2, b3⟩ := hp (3 * z + 1) (by omega) (by omega)
  obtain ⟨c1, c2, c3⟩ := hp (3 * z + 2) (by omega) (by omega)
  have e1 : ssOf m' z = ssOf m z := by unfold ssOf; simp only [c 2 _ (by decide) (by decide), c 3 _ (by decide) (by decide)]
  have e2 : osOf m' z = osOf m z := by unfold osOf; simp only [c 2 _ (by decide) (by decide), c 4 _ (by decide) (by decide)]
  have e3 : hsOf m' z = hsOf m z := by unfold hsOf; simp only [c 5 _ (by decide) (by decide), c 6 _ (by decide) (by decide)]
  have b5 := hI.2.2.1
  unfold zR
  rw [e1, e2, e3, xr_loc a1 a3 (wI_600 w1), xr_loc b1 b3 (wI_600 w2), xr_loc c1 c3 (wI_600 w3), c 5 _ (by decide) (by decide)]
  refine ⟨⟨r1, r2, r3⟩, fun k k0 k1 => ?_, wI_loc a1 a2 a3 w1, wI_loc b1 b2 b3 w2, wI_loc c1 c2 c3 w3⟩
  rw [h60 k k0 (by omega)]
  exact r4 k k0 k1
theorem jR_loc {s s' m m' : mS} {j : Int} (h : jR s m j) (hp : ∀ p, 9 + 6 * j ≤ p → p < 15 + 6 * j → s' 100 p = s 100 p ∧ s' 102 p = s 102 p ∧ ∀ k, 0 ≤ k → k < 600 → s' 101 (600 * p + k) = s 101 (600 * p + k)) (c : jc m m') (e : ∀ k, (11 ≤ k ∧ k ≤ 16) ∨ k = 22 → s' k j = m' k j) : jR s' m' j := by
  obtain ⟨⟨r1, r2, r3, r4, r5, r6⟩, -, w1, w2, w3, w4, w5, w6⟩ := h
  have q := fun (t : Int) (t0 : 0 ≤ t) (t6 : t < 6) => hp (9 + 6 * j + t) (by omega) (by omega)
  obtain ⟨a1, a2, a3⟩ := hp (9 + 6 * j) (by omega) (by omega)
  obtain ⟨b1, b2, b3⟩ := hp (10 + 6 * j) (by omega) (by omega)
  obtain ⟨c1, c2, c3⟩ := hp (11 + 6 * j) (by omega) (by omega)
  obtain ⟨d1, d2, d3⟩ := hp (12 + 6 * j) (by omega) (by omega)
  obtain ⟨f1, f2, f3⟩ := hp (13 + 6 * j) (by omega) (by omega)
  obtain ⟨g1, g2, g3⟩ := hp (14 + 6 * j) (by omega) (by omega)
  have l1 : nwOf m' j = nwOf m j := by unfold nwOf; simp only [c 17 _ (by omega), c 18 _ (by omega)]
  have l2 : nnOf m' j = nnOf m j := by unfold nnOf; simp only [c 17 _ (by omega), c 19 _ (by omega)]
  have l3 : exOf m' j = exOf m j := by unfold exOf; simp only [c 20 _ (by omega), c 21 _ (by omega)]
  have l4 : xtOf m' j = xtOf m j := by unfold xtOf; simp only [c 28 _ (by omega), c 29 _ (by omega)]
  have l5 : efOf m' j = efOf m j := by unfold efOf; simp only [c 46 _ (by omega), c 47 _ (by omega)]
  have l6 : egOf m' j = egOf m j := by unfold egOf; simp only [c 46 _ (by omega), c 48 _ (by omega)]
  unfold jR
  rw [l1, l2, l3, l4, l5, l6, xr_loc a1 a3 (wI_600 w1), xr_loc b1 b3 (wI_600 w2), xr_loc c1 c3 (wI_600 w3), xr_loc d1 d3 (wI_600 w4), xr_loc f1 f3 (wI_600 w5), xr_loc g1 g3 (wI_600 w6)]
  exact ⟨⟨r1, r2, r3, r4, r5, r6⟩, ⟨e 11 (by omega), e 12 (by omega), e 13 (by omega), e 14 (by omega), e 15 (by omega), e 16 (by omega), e 22 (by omega)⟩, wI_loc a1 a2 a3 w1, wI_loc b1 b2 b3 w2, wI_loc c1 c2 c3 w3, wI_loc d1 d2 d3 w4, wI_loc f1 f2 f3 w5, wI_loc g1 g2 g3 w6⟩
theorem ref_cl {nz nj r : Int} (hn : 0 ≤ nz ∧ nz ≤ 3 ∧ 0 ≤ nj ∧ nj ≤ 12) (hr : Ux nz nj r) (ha : aro r = false) : ∀ q ∈ (cfs r).2, q.1 = 1 → Ux nz nj q.2.2 := by
  have hr' := (Ux_iff _ _ _).mp hr
  have ha' : ¬ ((1 ≤ r ∧ r ≤ 5) ∨ r = 7 ∨ (210 ≤ r ∧ r < 213) ∨ (260 ≤ r ∧ r < 272) ∨ (400 ≤ r ∧ r < 481)) := of_decide_eq_false ha
  intro q hq h1
  rw [Ux_iff]
  unfold cfs at hq
  repeat' split at hq
  all_goals (simp only [List.mem_cons, List.not_mem_nil, or_false] at hq)
  all_goals (rcases hq with e | hq)
  all_goals (repeat' (rcases hq with e | hq))
  all_goals (first | (subst e; dsimp only at h1 ⊢; omega) | (dsimp only at h1 ⊢; omega))
theorem ccl_ext {nz nj : Int} {ad ad' : Int → Nat} {s s' : mS} {r : Int} (hn : 0 ≤ nz ∧ nz ≤ 3 ∧ 0 ≤ nj ∧ nj ≤ 12) (hr : Ux nz nj r) (hA : ∀ q, Ux nz nj q → ad' q = ad q) (hs : ∀ k z, own k z = r → s' k z = s k z) (h11 : ∀ j, 0 ≤ j → j < nj → 0 ≤ s 11 j ∧ s 11 j < nz) (h80 : s 80 0 = nz) (h81 : s 81 0 = nj) : ccl ad' s' r = ccl ad s r := by
  have hr' := (Ux_iff _ _ _).mp hr
  have hr3 := Ux_mono hn hr
  unfold ccl
  by_cases ha : aro r = true
  · rw [if_pos ha, if_pos ha]
    have ha' : (1 ≤ r ∧ r ≤ 5) ∨ r = 7 ∨ (210 ≤ r ∧ r < 213) ∨ (260 ≤ r ∧ r < 272) ∨ (400 ≤ r ∧ r < 481) := of_decide_eq_true ha
    unfold cca
    by_cases c1 : r = 1
    · rw [if_pos c1, if_pos c1, hs 80 0 (by rw [c1]; simp [own])]
      have : (fun x : Nat => if (x : Int) < s 80 0 then some (ad' (200 + x)) else none) = fun x : Nat => if (x : Int) < s 80 0 then some (ad (200 + x)) else none := by
        funext x
        by_cases cx : (x : Int) < s 80 0
        · rw [if_pos cx, if_pos cx, hA _ ((Ux_iff _ _ _).mpr (by omega))]
        · rw [if_neg cx, if_neg cx]
      rw [this]
    rw [if_neg c1, if_neg c1]
    by_cases c2 : r = 2
    · rw [if_pos c2, if_pos c2, hs 81 0 (by rw [c2]; simp [own])]
      have : (fun x : Nat => if (x : Int) < s 81 0 then some (ad' (220 + x)) else none) = fun x : Nat => if (x : Int) < s 81 0 then some (ad (220 + x)) else none := by
        funext x
        by_cases cx : (x : Int) < s 81 0
        · rw [if_pos cx, if_pos cx, hA _ ((Ux_iff _ _ _).mpr (by omega))]
        · rw [if_neg cx, if_neg cx]
      rw [this]
    rw [if_neg c2, if_neg c2]
    by_cases c3 : r = 3
    · rw [if_pos c3, if_pos c3]
      have : (fun x : Nat => if x < 36 then some (ad' (100 + x)) else none) = fun x : Nat => if x < 36 then some (ad (100 + x)) else none := by
        funext x
        by_cases cx : x < 36
        · rw [if_pos cx, if_pos cx, hA _ ((Ux_iff _ _ _).mpr (by omega))]
        · rw [if_neg cx, if_neg cx]
      rw [this]
    rw [if_neg c3, if_neg c3]
    by_cases c7 : r = 7
    · rw [if_pos c7, if_pos c7]
      have : (fun x : Nat => if x < 60 then some (ad' (10 + x)) else none) = fun x : Nat => if x < 60 then some (ad (10 + x)) else none := by
        funext x
        by_cases cx : x < 60
        · rw [if_pos cx, if_pos cx, hA _ ((Ux_iff _ _ _).mpr (by omega))]
        · rw [if_neg cx, if_neg cx]
      rw [this]
    rw [if_neg c7, if_neg c7]
    by_cases c4 : r = 4
    · rw [if_pos c4, if_pos c4]
      have : (fun x : Nat => iz (s' 42 x)) = fun x : Nat => iz (s 42 x) := by
        funext x
        rw [hs 42 x (by rw [c4]; simp [own])]
      rw [this]
    rw [if_neg c4, if_neg c4]
    by_cases c5 : r = 5
    · rw [if_pos c5, if_pos c5]
      have : (fun x : Nat => iz (s' 43 x)) = fun x : Nat => iz (s 43 x) := by
        funext x
        rw [hs 43 x (by rw [c5]; simp [own])]
      rw [this]
    rw [if_neg c5, if_neg c5]
    by_cases c6 : r < 213
    · rw [if_pos c6, if_pos c6]
      have : (fun x : Nat => if x < 20 then iz (s' 60 (20 * (r - 210) + x)) else iz 0) = fun x : Nat => if x < 20 then iz (s 60 (20 * (r - 210) + x)) else iz 0 := by
        funext x
        by_cases cx : x < 20
        · rw [if_pos cx, if_pos cx, hs 60 _ (by simp [own]; omega)]
        · rw [if_neg cx, if_neg cx]
      rw [this]
    rw [if_neg c6, if_neg c6]
    by_cases c8 : r < 272
    · rw [if_pos c8, if_pos c8]
      have : (fun x : Nat => if x < 5 then lz (s' (12 + x) (r - 260)) else 0) = fun x : Nat => if x < 5 then lz (s (12 + x) (r - 260)) else 0 := by
        funext x
        by_cases cx : x < 5
        · rw [if_pos cx, if_pos cx]
          have : x = 0 ∨ x = 1 ∨ x = 2 ∨ x = 3 ∨ x = 4 := by omega
          rcases this with rfl | rfl | rfl | rfl | rfl <;> rw [hs _ _ (by simp [own]; omega)]
        · rw [if_neg cx, if_neg cx]
      rw [this]
    rw [if_neg c8, if_neg c8]
    have e1 : s' 102 (r - 400) = s 102 (r - 400) := hs 102 _ (by simp [own]; omega)
    have e2 : (fun x : Nat => if x < 600 then iz (s' 101 (600 * (r - 400) + x)) else iz 0) = fun x : Nat => if x < 600 then iz (s 101 (600 * (r - 400) + x)) else iz 0 := by
      funext x
      by_cases cx : x < 600
      · rw [if_pos cx, if_pos cx, hs 101 _ (by simp [own]; omega)]
      · rw [if_neg cx, if_neg cx]
    rw [e1, e2]
  · rw [if_neg ha, if_neg ha]
    have ha' : aro r = false := by simpa using ha
    congr 2
    apply List.map_congr_left
    intro q hq
    have hq2 := own_ok r hr3 ha' q hq
    have hq3 := ref_cl hn hr ha' q hq
    have hq4 := zof_ok r hr3 ha' q hq
    unfold cv
    by_cases c0 : q.1 = 0
    · rw [if_pos c0, if_pos c0, hs _ _ (hq2 (Or.inl c0))]
    · rw [if_neg c0, if_neg c0]
      by_cases c1 : q.1 = 1
      · rw [if_pos c1, if_pos c1, hA _ (hq3 c1)]
      · rw [if_neg c1, if_neg c1]
        by_cases c2 : q.1 = 2
        · rw [if_pos c2, if_pos c2, hs _ _ (hq2 (Or.inr c2))]
          obtain ⟨o1, o2, o3, o4⟩ := hq4 c2
          rw [o1, o2]
          have := h11 (r - 240) (by omega) (by omega)
          rw [hA _ ((Ux_iff _ _ _).mpr (by omega))]
        · rw [if_neg c2, if_neg c2]
