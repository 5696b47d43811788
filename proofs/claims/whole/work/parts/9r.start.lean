/-! the start -/
def sI : mS := fun k z => if k = 32 ∧ 0 ≤ z ∧ z < 36 then -1 else if k = 66 ∧ 0 ≤ z ∧ z < 36 then 2147483647 else 0
def mI : mS := fun k z => if k = 32 ∧ 0 ≤ z ∧ z < 36 then -1 else if k = 49 ∧ 0 ≤ z ∧ z < 12 then -1 else 0
theorem sI_0 (k : Nat) (z : Int) (h : k ≠ 32) (h1 : k ≠ 66) : sI k z = 0 := by unfold sI; rw [if_neg (by omega), if_neg (by omega)]
theorem mI_0 (k : Nat) (z : Int) (h : k ≠ 32) (h1 : k ≠ 49) : mI k z = 0 := by unfold mI; rw [if_neg (by omega), if_neg (by omega)]
theorem sI_66 (z : Int) (h : 0 ≤ z ∧ z < 36) : sI 66 z = 2147483647 := by unfold sI; rw [if_neg (by omega), if_pos ⟨rfl, h⟩]
theorem sI_32 (z : Int) (h : 0 ≤ z ∧ z < 36) : sI 32 z = -1 := by unfold sI; rw [if_pos ⟨rfl, h⟩]
theorem mI_32 (z : Int) (h : 0 ≤ z ∧ z < 36) : mI 32 z = -1 := by unfold mI; rw [if_pos ⟨rfl, h⟩]
theorem mI_49 (z : Int) (h : 0 ≤ z ∧ z < 12) : mI 49 z = -1 := by unfold mI; rw [if_neg (by omega), if_pos ⟨rfl, h⟩]
theorem rg_sI : rg sI := by
  intro k z _ _
  unfold sI
  split
  · omega
  split <;> omega
theorem rg_mI : rg mI := by
  intro k z _ _
  unfold mI
  split
  · omega
  split <;> omega
theorem REL_I : REL sI mI := by
  refine ⟨?_, ?_, ?_, ?_, ?_, ⟨rfl, rfl, fun p _ => rfl⟩, rg_sI⟩
  · intro k z hk
    have h1 : k ≠ 66 := by intro e; rw [e] at hk; revert hk; decide
    have h2 : k ≠ 49 := by intro e; rw [e] at hk; revert hk; decide
    unfold sI mI
    rw [if_neg (show ¬ (k = 66 ∧ 0 ≤ z ∧ z < 36) by omega), if_neg (show ¬ (k = 49 ∧ 0 ≤ z ∧ z < 12) by omega)]
  · intro z a b
    rw [mI_0 53 0 (by decide) (by decide)] at b
    omega
  · intro i i0 i1
    refine ⟨⟨fun _ => sI_66 i ⟨i0, i1⟩, fun q => ?_, fun q => ?_⟩, ?_, ?_, fun _ => sI_0 62 i (by decide) (by decide)⟩
    · rw [mI_0 36 i (by decide) (by decide)] at q; omega
    · rw [mI_0 36 i (by decide) (by decide)] at q; omega
    · rw [sI_0 62 i (by decide) (by decide), mI_0 34 i (by decide) (by decide)]
    · rw [sI_0 62 i (by decide) (by decide)]; omega
  · intro z a b
    rw [mI_0 1 0 (by decide) (by decide)] at b
    omega
  · intro j a b
    rw [mI_0 10 0 (by decide) (by decide)] at b
    omega
theorem zI_I (z : Int) (hz : 0 ≤ z ∧ z < 3) : zI mI z := by
  have e1 : ssOf mI z = [0] := by
    unfold ssOf
    rw [mI_0 2 z (by decide) (by decide)]
    rfl
  have e2 : osOf mI z = [0] := by
    unfold osOf
    rw [mI_0 2 z (by decide) (by decide)]
    rfl
  have e3 : hsOf mI z = [] := by
    unfold hsOf
    rw [mI_0 5 z (by decide) (by decide)]
    rfl
  have g : ∀ k, gz [0] k = 0 := by
    intro k
    have := gz_all (xs := [0]) (lo := 0) (hi := 0) (fun x hx => by simp at hx; omega) (by omega) k
    omega
  unfold zI zok zsr
  rw [e1, e2, e3, mI_0 2 z (by decide) (by decide), mI_0 5 z (by decide) (by decide)]
  refine ⟨hz, by omega, by omega, ⟨rfl, by simp, by simp, fun k => by rw [g]; omega, fun k => by rw [g]; omega⟩, ⟨g 0, fun k hk => by rw [g, g]; omega⟩, fun x hx => by simp at hx⟩
theorem MC_I : MC mI := by
  have z0 : ∀ k z, k ≠ 32 → k ≠ 49 → mI k z = 0 := mI_0
  have aw : ∀ j, awO mI j = 0 := fun j => by
    unfold awO
    rw [z0 26 j (by decide) (by decide)]
    rfl
  refine ⟨rg_mI, by rw [z0 0 0 (by decide) (by decide)]; omega, by rw [z0 1 0 (by decide) (by decide)]; omega, by rw [z0 10 0 (by decide) (by decide)]; omega, fun z a b => ⟨zI_I z ⟨a, b⟩, fun _ => ⟨z0 2 z (by decide) (by decide), z0 5 z (by decide) (by decide)⟩⟩, fun j a b => ⟨?_, ?_, ?_, fun _ => ?_, fun q => ?_⟩, fun j a b => ?_⟩
  · have ln : nwOf mI j = [] := by unfold nwOf; rw [z0 17 j (by decide) (by decide)]; rfl
    have lm : nnOf mI j = [] := by unfold nnOf; rw [z0 17 j (by decide) (by decide)]; rfl
    have le : exOf mI j = [] := by unfold exOf; rw [z0 20 j (by decide) (by decide)]; rfl
    have lx : xtOf mI j = [] := by unfold xtOf; rw [z0 28 j (by decide) (by decide)]; rfl
    have ms : ∀ i : Nat, i < 5 → msOf mI j i = 0 := fun i hi => by unfold msOf; rw [z0 (12 + i) j (by omega) (by omega)]; rfl
    unfold jI rok
    rw [ln, lm, le, lx, ms 0 (by omega), ms 1 (by omega), ms 2 (by omega), ms 3 (by omega), ms 4 (by omega), z0 11 j (by decide) (by decide), z0 12 j (by decide) (by decide), z0 13 j (by decide) (by decide), z0 14 j (by decide) (by decide), z0 15 j (by decide) (by decide), z0 16 j (by decide) (by decide), z0 17 j (by decide) (by decide), z0 20 j (by decide) (by decide), z0 28 j (by decide) (by decide), z0 22 j (by decide) (by decide)]
    refine ⟨⟨a, b⟩, zI_I 0 (by omega), by omega, by omega, by omega, by omega, by omega, by omega, by omega, by omega, by omega, by omega, by omega, by omega, by omega, by omega, rfl, by simp, by simp, by simp, by simp, by simp, by simp, by simp, by omega, by omega, by simp⟩
  · unfold eI
    rw [z0 46 j (by decide) (by decide)]
    exact ⟨by omega, fun i i0 i1 => absurd i1 (by omega)⟩
  · unfold cJ
    rw [aw, z0 23 j (by decide) (by decide), z0 24 j (by decide) (by decide), z0 25 j (by decide) (by decide), z0 26 j (by decide) (by decide)]
    exact ⟨by omega, by omega, Or.inl rfl, by decide⟩
  · unfold zJ
    refine ⟨⟨?_, ?_, ?_, ?_, ?_⟩, ⟨?_, ?_, ?_, ?_, ?_, ?_, ?_, ?_⟩, ?_, ?_, ?_⟩ <;> exact z0 _ _ (by decide) (by decide)
  · rw [z0 10 0 (by decide) (by decide)] at q; omega
  · rw [z0 26 j (by decide) (by decide)]
    exact ⟨by omega, fun i i0 i1 => absurd i1 (by omega)⟩
theorem INV_I : INV 0 mI := by
  have z0 : ∀ k z, k ≠ 32 → k ≠ 49 → mI k z = 0 := mI_0
  refine ⟨0, 0, 0, 0, fun _ => 0, fun _ => 0, ⟨MC_I, fun j a b => ?_, ⟨rg_mI, fun sc j a b c d => ?_, ⟨by rw [z0 53 0 (by decide) (by decide)]; omega, fun l l0 l1 => ?_⟩, by rw [z0 51 0 (by decide) (by decide)]; omega, by rw [z0 10 0 (by decide) (by decide)]; omega⟩, ⟨by rw [z0 52 0 (by decide) (by decide)]; omega, fun j a b => by rw [z0 45 j (by decide) (by decide)]; omega, fun z => Or.inl (z0 42 z (by decide) (by decide)), fun z => Or.inl (z0 43 z (by decide) (by decide))⟩, fun j a b => ?_⟩, by omega, by omega, fun j a b => ?_, by omega⟩
  · unfold eO
    rw [z0 46 j (by decide) (by decide), mI_49 j ⟨a, b⟩, z0 50 j (by decide) (by decide), if_pos rfl, if_pos rfl]
    exact ⟨fun i k i0 i1 i2 => absurd i2 (by omega), rfl, rfl⟩
  · unfold kr
    rw [z0 30 _ (by decide) (by decide), z0 34 _ (by decide) (by decide), z0 31 _ (by decide) (by decide), mI_32 _ (by omega), z0 38 _ (by decide) (by decide), z0 36 _ (by decide) (by decide), z0 35 _ (by decide) (by decide), z0 40 _ (by decide) (by decide), z0 33 _ (by decide) (by decide), z0 39 _ (by decide) (by decide)]
    exact ⟨by omega, by omega, by omega, by omega, by omega, by omega, by omega, by omega, by omega, fun _ => ⟨rfl, rfl⟩, Int.le_refl _, Int.le_refl _, fun q => absurd q (by omega)⟩
  · rw [z0 53 0 (by decide) (by decide)] at l1; omega
  · rw [z0 46 j (by decide) (by decide), z0 50 j (by decide) (by decide)]; exact ⟨Int.le_refl _, Int.le_refl _⟩
  · have : ask mI j = 0 := by
      unfold ask a1
      rw [z0 36 _ (by decide) (by decide), z0 36 _ (by decide) (by decide), z0 36 _ (by decide) (by decide)]
      rfl
    rw [this]
    exact ⟨Int.le_refl _, Int.le_refl _, Int.le_refl _⟩
/-- where the cells of a new object lie -/
def adI (A : Nat) : Int → Nat := fun r => if r ≤ 69 then A + r.toNat else if r ≤ 71 then A + (r - 62).toNat else if r < 140 then A + 70 + 2 * (r - 100).toNat else A + 71 + 2 * (r - 140).toNat
theorem TK_hx {G : zk_G} {h0 H : zk_H} {A : Nat} (hA : G.1 ≤ A) (hT : TKI G h0 A H) : hx G H 0 0 (adI A) sI = H ∧ hxo G H 0 0 (adI A) := by
  obtain ⟨t1, t2, t3, ⟨a0, a1, a2, a3, a4, a5⟩, ⟨b6, b7, b8, b9, b10⟩, t6⟩ := hT
  have z0 : ∀ k z, k ≠ 32 → k ≠ 66 → sI k z = 0 := sI_0
  have hinj : ∀ r r', Ux 0 0 r → Ux 0 0 r' → adI A r = adI A r' → r = r' := by
    intro r r' q1 q2 q3
    have q1' := (Ux_iff _ _ _).mp q1
    have q2' := (Ux_iff _ _ _).mp q2
    unfold adI at q3
    split at q3 <;> split at q3 <;> (try split at q3) <;> (try split at q3) <;> (try split at q3) <;> (try split at q3) <;> omega
  have obj : ∀ r, ¬ ((1 ≤ r ∧ r ≤ 5) ∨ r = 7 ∨ (210 ≤ r ∧ r < 213) ∨ (260 ≤ r ∧ r < 272) ∨ (400 ≤ r ∧ r < 481)) → ccl (adI A) sI r = .inr ((cfs r).1, (cfs r).2.map (cv (adI A) sI)) := fun r h => by unfold ccl; rw [if_neg (by rw [aro_f h]; decide)]
  refine ⟨hx_self (fun r hr => ?_) hinj, by omega, fun r hr => ?_, hinj⟩
  · have hr' := (Ux_iff _ _ _).mp hr
    by_cases c0 : r = 0
    · subst c0
      show zk_rd G H (A + 0) = some (Sum.inr (8, [.ref (A + 1), .ref (A + 2), .ref (A + 3), .ref (A + 4), .ref (A + 5), .ref (A + 6), .int (iz (sI 1 0)), .int (iz (sI 10 0)), .int (iz (sI 0 0)), .int (iz (sI 52 0))]))
      rw [z0 1 0 (by decide) (by decide), z0 10 0 (by decide) (by decide), z0 0 0 (by decide) (by decide), z0 52 0 (by decide) (by decide), Nat.add_zero, a0]
      rfl
    by_cases c1 : r = 1
    · subst c1
      show zk_rd G H (A + 1) = _
      rw [a1]
      unfold ccl
      rw [if_pos (aro_t (by omega))]
      unfold cca
      rw [if_pos rfl, z0 80 0 (by decide) (by decide)]
      congr 7
    by_cases c2 : r = 2
    · subst c2
      show zk_rd G H (A + 2) = _
      rw [a2]
      unfold ccl
      rw [if_pos (aro_t (by omega))]
      unfold cca
      rw [if_neg c1, if_pos rfl, z0 81 0 (by decide) (by decide)]
      congr 7
    by_cases c3 : r = 3
    · subst c3
      show zk_rd G H (A + 3) = _
      rw [a3]
      unfold ccl
      rw [if_pos (aro_t (by omega))]
      unfold cca rgo
      rw [if_neg c1, if_neg c2, if_pos rfl]
      congr 8
      funext x
      by_cases cx : x < 36
      · rw [if_pos cx, if_pos cx]
        congr 1
        unfold adI
        rw [if_neg (by omega), if_neg (by omega), if_pos (by omega)]
        omega
      · rw [if_neg cx, if_neg cx]
    by_cases c4 : r = 4
    · subst c4
      show zk_rd G H (A + 4) = _
      rw [a4]
      unfold ccl
      rw [if_pos (aro_t (by omega))]
      unfold cca
      rw [if_neg c1, if_neg c2, if_neg c3, if_neg (by omega), if_pos rfl]
      rfl
    by_cases c5 : r = 5
    · subst c5
      show zk_rd G H (A + 5) = _
      rw [a5]
      unfold ccl
      rw [if_pos (aro_t (by omega))]
      unfold cca
      rw [if_neg c1, if_neg c2, if_neg c3, if_neg (by omega), if_neg c4, if_pos rfl]
      rfl
    by_cases c6 : r = 6
    · subst c6
      show zk_rd G H (A + 6) = some (Sum.inr (2, [.ref (A + 7), .ref (A + 8), .ref (A + 9), .int (iz (sI 53 0)), .int (iz (sI 51 0))]))
      rw [z0 53 0 (by decide) (by decide), z0 51 0 (by decide) (by decide), b6]
      rfl
    by_cases c7 : r = 7
    · subst c7
      show zk_rd G H (A + 7) = _
      rw [b7]
      unfold ccl
      rw [if_pos (aro_t (by omega))]
      unfold cca lro
      rw [if_neg c1, if_neg c2, if_neg c3, if_pos rfl]
      congr 8
      funext x
      by_cases cx : x < 60
      · rw [if_pos cx, if_pos cx]
        congr 1
        unfold adI
        rw [if_pos (by omega)]
        omega
      · rw [if_neg cx, if_neg cx]
    by_cases cl : r ≤ 71
    · have ec : ccl (adI A) sI r = le0 := by
        have cz : cfs r = (1, [(0, 54, 8 * (r - 10)), (0, 54, 8 * (r - 10) + 1), (0, 54, 8 * (r - 10) + 2), (0, 54, 8 * (r - 10) + 3), (0, 54, 8 * (r - 10) + 4), (0, 54, 8 * (r - 10) + 5), (0, 54, 8 * (r - 10) + 6), (0, 54, 8 * (r - 10) + 7)]) := by
          unfold cfs
          rw [if_neg c0, if_neg c6, if_pos (by omega)]
        rw [obj r (by omega), cz]
        rfl
      rw [ec]
      unfold adI
      by_cases cl2 : r ≤ 69
      · rw [if_pos cl2, show A + r.toNat = A + 10 + (r.toNat - 10) by omega]
        exact b10 _ (by omega)
      · rw [if_neg cl2, if_pos cl]
        have : r = 70 ∨ r = 71 := by omega
        rcases this with rfl | rfl
        · exact b8
        · exact b9
    by_cases cr : r < 136
    · have cz : cfs r = (3, [(1, 0, 140 + (r - 100)), (0, 30, r - 100), (0, 31, r - 100), (0, 32, r - 100), (0, 33, r - 100), (0, 62, r - 100)]) := by
        unfold cfs
        rw [if_neg c0, if_neg c6, if_neg (by omega), if_pos cr]
      have ea : adI A r = A + 70 + 2 * (r - 100).toNat := by unfold adI; rw [if_neg (by omega), if_neg cl, if_pos (by omega)]
      have eb : adI A (140 + (r - 100)) = A + 71 + 2 * (r - 100).toNat := by unfold adI; rw [if_neg (by omega), if_neg (by omega), if_neg (by omega)]; omega
      rw [obj r (by omega), cz, ea, (t6 _ (by omega)).1]
      show some (reo _) = some (Sum.inr (3, [.ref (adI A (140 + (r - 100))), .int (iz (sI 30 (r - 100))), .int (iz (sI 31 (r - 100))), .int (iz (sI 32 (r - 100))), .int (iz (sI 33 (r - 100))), .int (iz (sI 62 (r - 100)))]))
      rw [eb, z0 30 _ (by decide) (by decide), z0 31 _ (by decide) (by decide), sI_32 _ (by omega), z0 33 _ (by decide) (by decide), z0 62 _ (by decide) (by decide)]
      rfl
    · have cz : cfs r = (6, [(0, 36, r - 140), (0, 35, r - 140), (0, 63, r - 140), (0, 64, r - 140), (0, 65, r - 140), (0, 66, r - 140), (0, 67, r - 140)]) := by
        unfold cfs
        rw [if_neg c0, if_neg c6, if_neg (by omega), if_neg cr, if_pos (by omega)]
      have ea : adI A r = A + 71 + 2 * (r - 140).toNat := by unfold adI; rw [if_neg (by omega), if_neg cl, if_neg (by omega)]
      rw [obj r (by omega), cz, ea, (t6 _ (by omega)).2]
      show some ruo = some (Sum.inr (6, [.int (iz (sI 36 (r - 140))), .int (iz (sI 35 (r - 140))), .int (iz (sI 63 (r - 140))), .int (iz (sI 64 (r - 140))), .int (iz (sI 65 (r - 140))), .int (iz (sI 66 (r - 140))), .int (iz (sI 67 (r - 140)))]))
      rw [z0 36 _ (by decide) (by decide), z0 35 _ (by decide) (by decide), z0 63 _ (by decide) (by decide), z0 64 _ (by decide) (by decide), z0 65 _ (by decide) (by decide), sI_66 _ (by omega), z0 67 _ (by decide) (by decide)]
      rfl
  · have hr' := (Ux_iff _ _ _).mp hr
    rw [t1]
    unfold adI
    split
    · omega
    split
    · omega
    split <;> omega
