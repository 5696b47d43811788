/-! what is due hangs on the calendar's fields alone -/
def cfc (k : Nat) : Bool := (decide (2 ≤ k) && decide (k ≤ 6)) || (decide (11 ≤ k) && decide (k ≤ 22)) || decide (k = 28) || decide (k = 29)
def cfg (m m' : mS) : Prop := ∀ k z, cfc k = true → m' k z = m k z
theorem cfg_r (m : mS) : cfg m m := fun _ _ _ => rfl
theorem cfg_t {a b c : mS} (h1 : cfg a b) (h2 : cfg b c) : cfg a c := fun k z q => by rw [h2 k z q, h1 k z q]
theorem cfg_s {a b : mS} (h1 : cfg a b) : cfg b a := fun k z q => (h1 k z q).symm
theorem cfg_up {m m' : mS} (h : cfg m m') (k : Nat) (z v : Int) (hk : cfc k = false) : cfg m (up m' k z v) := by
  intro k' z' q
  rw [up_k _ _ _ _ (by intro e; rw [e, hk] at q; cases q), h k' z' q]
theorem cfg_dtx {m m' : mS} (h : dtx m m') : cfg m m' := by
  intro k z q
  refine h k z ?_ ?_ ?_ <;> (intro e; rw [e] at q; revert q; decide)
section CFG
variable {m m' : mS} (h : cfg m m')
theorem cfg_ss (h : cfg m m') : ssOf m' = ssOf m := by funext z; unfold ssOf; simp only [h 2 _ rfl, h 3 _ rfl]
theorem cfg_os (h : cfg m m') : osOf m' = osOf m := by funext z; unfold osOf; simp only [h 2 _ rfl, h 4 _ rfl]
theorem cfg_hs (h : cfg m m') : hsOf m' = hsOf m := by funext z; unfold hsOf; simp only [h 5 _ rfl, h 6 _ rfl]
theorem cfg_nw (h : cfg m m') : nwOf m' = nwOf m := by funext z; unfold nwOf; simp only [h 17 _ rfl, h 18 _ rfl]
theorem cfg_nn (h : cfg m m') : nnOf m' = nnOf m := by funext z; unfold nnOf; simp only [h 17 _ rfl, h 19 _ rfl]
theorem cfg_ex (h : cfg m m') : exOf m' = exOf m := by funext z; unfold exOf; simp only [h 20 _ rfl, h 21 _ rfl]
theorem cfg_xt (h : cfg m m') : xtOf m' = xtOf m := by funext z; unfold xtOf; simp only [h 28 _ rfl, h 29 _ rfl]
theorem cfg_ms (h : cfg m m') (j : Int) : msOf m' j 0 = msOf m j 0 ∧ msOf m' j 1 = msOf m j 1 ∧ msOf m' j 2 = msOf m j 2 ∧ msOf m' j 3 = msOf m j 3 ∧ msOf m' j 4 = msOf m j 4 := by
  unfold msOf
  refine ⟨?_, ?_, ?_, ?_, ?_⟩
  · rw [h 12 j rfl]
  · show (m' 13 j).toNat = (m 13 j).toNat; rw [h 13 j rfl]
  · show (m' 14 j).toNat = (m 14 j).toNat; rw [h 14 j rfl]
  · show (m' 15 j).toNat = (m 15 j).toNat; rw [h 15 j rfl]
  · show (m' 16 j).toNat = (m 16 j).toNat; rw [h 16 j rfl]
theorem locP_ms {ms ms' : Nat → Nat} (nw nn hs : List Int) (way : Int) (e : ms' 0 = ms 0 ∧ ms' 1 = ms 1 ∧ ms' 2 = ms 2 ∧ ms' 3 = ms 3 ∧ ms' 4 = ms 4) : locP ms' nw nn hs way = locP ms nw nn hs way := by
  obtain ⟨e0, e1, e2, e3, e4⟩ := e
  funext l
  unfold locP onD onS movD fitD fbit fday tok
  simp only [e0, e1, e2, e3, e4]
theorem rok_ms {ms ms' : Nat → Nat} (nw nn ex xt : List Int) (way : Int) (e : ms' 0 = ms 0 ∧ ms' 1 = ms 1 ∧ ms' 2 = ms 2 ∧ ms' 3 = ms 3 ∧ ms' 4 = ms 4) : rok ms' nw nn ex xt way ↔ rok ms nw nn ex xt way := by
  obtain ⟨e0, e1, e2, e3, e4⟩ := e
  unfold rok
  rw [e0, e1, e2, e3, e4]
theorem cfg_zI (h : cfg m m') (z : Int) : zI m' z ↔ zI m z := by
  unfold zI
  rw [cfg_ss h, cfg_os h, cfg_hs h, h 2 _ rfl, h 5 _ rfl]
theorem cfg_jI (h : cfg m m') (j : Int) : jI m' j ↔ jI m j := by
  unfold jI
  rw [cfg_zI h, cfg_nw h, cfg_nn h, cfg_ex h, cfg_xt h, rok_ms _ _ _ _ _ (cfg_ms h j), h 11 _ rfl, h 12 _ rfl, h 13 _ rfl, h 14 _ rfl, h 15 _ rfl, h 16 _ rfl, h 17 _ rfl, h 20 _ rfl, h 28 _ rfl, h 22 _ rfl]
theorem cfg_due (h : cfg m m') : dueJ m' = dueJ m := by
  funext j
  unfold dueJ dueB
  rw [cfg_ss h, cfg_os h, cfg_hs h, cfg_nw h, cfg_nn h, cfg_ex h, cfg_xt h, locP_ms _ _ _ _ (cfg_ms h j), h 11 _ rfl, h 22 _ rfl]
end CFG
