/-! the class's job -/
def jns (s : mS) (nj z : Int) : mS := fun k y => if (k = 10 ∨ k = 81) ∧ y = 0 then nj + 1 else if k = 11 ∧ y = nj then z else if ((12 ≤ k ∧ k ≤ 16) ∨ (22 ≤ k ∧ k ≤ 25) ∨ k = 61 ∨ k = 44 ∨ k = 45) ∧ y = nj then 0 else if k = 100 ∧ 9 + 6 * nj ≤ y ∧ y < 15 + 6 * nj then 0 else if k = 101 ∧ 5400 + 3600 * nj ≤ y ∧ y < 9000 + 3600 * nj then 0 else if k = 102 ∧ 9 + 6 * nj ≤ y ∧ y < 15 + 6 * nj then min (rlim y) 8 else s k y
theorem jns_o (s : mS) (nj z : Int) (k : Nat) (y : Int) (h1 : ¬ ((k = 10 ∨ k = 81) ∧ y = 0)) (h2 : ¬ ((k = 11 ∨ (12 ≤ k ∧ k ≤ 16) ∨ (22 ≤ k ∧ k ≤ 25) ∨ k = 61 ∨ k = 44 ∨ k = 45) ∧ y = nj)) (h3 : ¬ ((k = 100 ∨ k = 102) ∧ 9 + 6 * nj ≤ y ∧ y < 15 + 6 * nj)) (h4 : ¬ (k = 101 ∧ 5400 + 3600 * nj ≤ y ∧ y < 9000 + 3600 * nj)) : jns s nj z k y = s k y := by
  unfold jns
  rw [if_neg h1, if_neg (by omega), if_neg (by omega), if_neg (by omega), if_neg h4, if_neg (by omega)]
theorem jns_10 (s : mS) (nj z : Int) (k : Nat) (h : k = 10 ∨ k = 81) : jns s nj z k 0 = nj + 1 := by unfold jns; rw [if_pos ⟨h, rfl⟩]
theorem jns_11 (s : mS) (nj z : Int) : jns s nj z 11 nj = z := by unfold jns; rw [if_neg (by omega), if_pos ⟨rfl, rfl⟩]
theorem jns_z (s : mS) (nj z : Int) (k : Nat) (h : (12 ≤ k ∧ k ≤ 16) ∨ (22 ≤ k ∧ k ≤ 25) ∨ k = 61 ∨ k = 44 ∨ k = 45) : jns s nj z k nj = 0 := by unfold jns; rw [if_neg (by omega), if_neg (by omega), if_pos ⟨h, rfl⟩]
theorem jns_100 (s : mS) (nj z y : Int) (h : 9 + 6 * nj ≤ y ∧ y < 15 + 6 * nj) : jns s nj z 100 y = 0 := by unfold jns; rw [if_neg (by omega), if_neg (by omega), if_neg (by omega), if_pos ⟨rfl, h⟩]
theorem jns_101 (s : mS) (nj z y : Int) (h : 5400 + 3600 * nj ≤ y ∧ y < 9000 + 3600 * nj) : jns s nj z 101 y = 0 := by unfold jns; rw [if_neg (by omega), if_neg (by omega), if_neg (by omega), if_neg (by omega), if_pos ⟨rfl, h⟩]
theorem jns_102 (s : mS) (nj z y : Int) (h : 9 + 6 * nj ≤ y ∧ y < 15 + 6 * nj) : jns s nj z 102 y = min (rlim y) 8 := by unfold jns; rw [if_neg (by omega), if_neg (by omega), if_neg (by omega), if_neg (by omega), if_neg (by omega), if_pos ⟨rfl, h⟩]
def ajx (ad : Int → Nat) (nj : Int) (X : Nat) : Int → Nat := fun r => if r = 220 + nj then X else if r = 240 + nj then X + 1 else if r = 260 + nj then X + 2 else if 309 + 6 * nj ≤ r ∧ r < 315 + 6 * nj then X + 3 + 2 * (r - 309 - 6 * nj).toNat else if 409 + 6 * nj ≤ r ∧ r < 415 + 6 * nj then X + 4 + 2 * (r - 409 - 6 * nj).toNat else ad r
def roj (nj : Int) (i : Nat) : Int := if i = 0 then 220 + nj else if i = 1 then 240 + nj else if i = 2 then 260 + nj else if i % 2 = 1 then 309 + 6 * nj + ((i - 3) / 2 : Nat) else 409 + 6 * nj + ((i - 4) / 2 : Nat)
theorem ajx_c {ad : Int → Nat} {nz nj : Int} {X : Nat} (hn : 0 ≤ nz ∧ nz ≤ 3 ∧ 0 ≤ nj ∧ nj < 12) {r : Int} (hr : Ux nz (nj + 1) r) : (∃ i : Nat, i < 15 ∧ ajx ad nj X r = X + i ∧ r = roj nj i) ∨ (Ux nz nj r ∧ ajx ad nj X r = ad r) := by
  have hr' := (Ux_iff _ _ _).mp hr
  unfold ajx roj
  by_cases c1 : r = 220 + nj
  · left; exact ⟨0, by omega, by rw [if_pos c1]; rfl, by rw [if_pos rfl]; exact c1⟩
  by_cases c2 : r = 240 + nj
  · left; exact ⟨1, by omega, by rw [if_neg c1, if_pos c2], by rw [if_neg (by omega), if_pos rfl]; exact c2⟩
  by_cases c2' : r = 260 + nj
  · left; exact ⟨2, by omega, by rw [if_neg c1, if_neg c2, if_pos c2'], by rw [if_neg (by omega), if_neg (by omega), if_pos rfl]; exact c2'⟩
  by_cases c3 : 309 + 6 * nj ≤ r ∧ r < 315 + 6 * nj
  · left
    refine ⟨3 + 2 * (r - 309 - 6 * nj).toNat, by omega, by rw [if_neg c1, if_neg c2, if_neg c2', if_pos c3]; omega, ?_⟩
    rw [if_neg (by omega), if_neg (by omega), if_neg (by omega), if_pos (by omega)]
    omega
  by_cases c4 : 409 + 6 * nj ≤ r ∧ r < 415 + 6 * nj
  · left
    refine ⟨4 + 2 * (r - 409 - 6 * nj).toNat, by omega, by rw [if_neg c1, if_neg c2, if_neg c2', if_neg c3, if_pos c4]; omega, ?_⟩
    rw [if_neg (by omega), if_neg (by omega), if_neg (by omega), if_neg (by omega)]
    omega
  · right
    exact ⟨(Ux_iff _ _ _).mpr (by omega), by rw [if_neg c1, if_neg c2, if_neg c2', if_neg c3, if_neg c4]⟩
theorem ajx_o {ad : Int → Nat} {nz nj : Int} {X : Nat} (hn : 0 ≤ nz ∧ nz ≤ 3 ∧ 0 ≤ nj ∧ nj < 12) {r : Int} (hr : Ux nz nj r) : ajx ad nj X r = ad r := by
  have hr' := (Ux_iff _ _ _).mp hr
  unfold ajx
  rw [if_neg (by omega), if_neg (by omega), if_neg (by omega), if_neg (by omega), if_neg (by omega)]
theorem rlim_jj {j : Int} (hj : 0 ≤ j) : rlim (9 + 6 * j) = 3 ∧ rlim (10 + 6 * j) = 3 ∧ rlim (11 + 6 * j) = 6 ∧ rlim (12 + 6 * j) = 8 ∧ rlim (13 + 6 * j) = 512 ∧ rlim (14 + 6 * j) = 512 := rlim_j hj
/-- what a new job's cells say -/
theorem jcl_ok {ad : Int → Nat} {s : mS} {nz nj z : Int} {X : Nat} (hn : 0 ≤ nz ∧ nz ≤ 3 ∧ 0 ≤ nj ∧ nj < 12) (hz : 0 ≤ z ∧ z < nz) (i : Nat) (hi : i < 15) : (jcl X (ad (200 + z)))[i]? = some (ccl (ajx ad nj X) (jns s nj z) (roj nj i)) := by
  obtain ⟨l1, l2, l3, l4, l5, l6⟩ := rlim_jj (j := nj) (by omega)
  have a : ∀ p, 9 + 6 * nj ≤ p → p < 15 + 6 * nj → ajx ad nj X (300 + p) = X + 3 + 2 * (p - 9 - 6 * nj).toNat := fun p p0 p1 => by
    unfold ajx; rw [if_neg (by omega), if_neg (by omega), if_neg (by omega), if_pos (by omega)]; omega
  have b : ∀ p, 9 + 6 * nj ≤ p → p < 15 + 6 * nj → ajx ad nj X (400 + p) = X + 4 + 2 * (p - 9 - 6 * nj).toNat := fun p p0 p1 => by
    unfold ajx; rw [if_neg (by omega), if_neg (by omega), if_neg (by omega), if_neg (by omega), if_pos (by omega)]; omega
  have a240 : ajx ad nj X (240 + nj) = X + 1 := by unfold ajx; rw [if_neg (by omega), if_pos rfl]
  have a260 : ajx ad nj X (260 + nj) = X + 2 := by unfold ajx; rw [if_neg (by omega), if_neg (by omega), if_pos rfl]
  have a200 : ajx ad nj X (200 + z) = ad (200 + z) := ajx_o hn ((Ux_iff _ _ _).mpr (by omega))
  have obj : ∀ r, ¬ ((1 ≤ r ∧ r ≤ 5) ∨ r = 7 ∨ (210 ≤ r ∧ r < 213) ∨ (260 ≤ r ∧ r < 272) ∨ (400 ≤ r ∧ r < 481)) → ccl (ajx ad nj X) (jns s nj z) r = .inr ((cfs r).1, (cfs r).2.map (cv (ajx ad nj X) (jns s nj z))) := fun r h => by unfold ccl; rw [if_neg (by rw [aro_f h]; decide)]
  have row : ∀ p, 0 ≤ p → p < 81 → cfs (300 + p) = (4, [(3, 0, rlim p), (1, 0, 400 + p), (0, 100, p)]) := fun p p0 p1 => by
    unfold cfs
    rw [if_neg (by omega), if_neg (by omega), if_neg (by omega), if_neg (by omega), if_neg (by omega), if_neg (by omega), if_neg (by omega), if_neg (by omega), show 300 + p - 300 = p by omega]
  have arr : ∀ p, 9 + 6 * nj ≤ p → p < 15 + 6 * nj → ccl (ajx ad nj X) (jns s nj z) (400 + p) = .inl (0, (min (rlim p) 8).toNat, .inl (fun _ => iz 0)) := fun p p0 p1 => by
    unfold ccl
    rw [if_pos (aro_t (by omega))]
    unfold cca
    rw [if_neg (by omega), if_neg (by omega), if_neg (by omega), if_neg (by omega), if_neg (by omega), if_neg (by omega), if_neg (by omega), if_neg (by omega), show 400 + p - 400 = p by omega, jns_102 s nj z p ⟨p0, p1⟩]
    have : (fun x : Nat => if x < 600 then iz (jns s nj z 101 (600 * p + x)) else iz 0) = fun _ => iz 0 := by
      funext x
      split
      · rw [jns_101 s nj z _ (by omega)]
      · rfl
    rw [this]
  have rw' : ∀ p, 9 + 6 * nj ≤ p → p < 15 + 6 * nj → ccl (ajx ad nj X) (jns s nj z) (300 + p) = .inr (4, [.int (iz (rlim p)), .ref (ajx ad nj X (400 + p)), .int (iz 0)]) := fun p p0 p1 => by
    rw [obj _ (by omega), row p (by omega) (by omega), ← jns_100 s nj z p ⟨p0, p1⟩]
    rfl
  have t : ∀ x y : Int, x = y → x.toNat = y.toNat := fun x y e => by rw [e]
  have rr : ∀ (k : Nat) (p L : Int), 9 + 6 * nj ≤ p → p < 15 + 6 * nj → rlim p = L → (p - 9 - 6 * nj).toNat = k → roj nj (3 + 2 * k) = 300 + p → some (ccl (ajx ad nj X) (jns s nj z) (roj nj (3 + 2 * k))) = some (Sum.inr (4, [.int (iz L), .ref (X + (4 + 2 * k)), .int (iz 0)])) := by
    intro k p L p0 p1 pl pk pe
    rw [pe, rw' p p0 p1, pl, b p p0 p1, pk, Nat.add_assoc]
  have ra : ∀ (k : Nat) (p L : Int) (n : Nat), 9 + 6 * nj ≤ p → p < 15 + 6 * nj → rlim p = L → (min L 8).toNat = n → roj nj (4 + 2 * k) = 400 + p → some (ccl (ajx ad nj X) (jns s nj z) (roj nj (4 + 2 * k))) = some (Sum.inl (0, n, .inl (fun _ => iz 0))) := by
    intro k p L n p0 p1 pl pn pe
    rw [pe, arr p p0 p1, pl, pn]
  have hc : i = 0 ∨ i = 1 ∨ i = 2 ∨ i = 3 ∨ i = 4 ∨ i = 5 ∨ i = 6 ∨ i = 7 ∨ i = 8 ∨ i = 9 ∨ i = 10 ∨ i = 11 ∨ i = 12 ∨ i = 13 ∨ i = 14 := by omega
  rcases hc with rfl | rfl | rfl | rfl | rfl | rfl | rfl | rfl | rfl | rfl | rfl | rfl | rfl | rfl | rfl
  · have e : roj nj 0 = 220 + nj := rfl
    have cz : cfs (220 + nj) = (0, [(1, 0, 240 + nj), (1, 0, 300 + (13 + 6 * nj)), (1, 0, 300 + (14 + 6 * nj)), (0, 23, nj), (0, 24, nj), (0, 25, nj), (0, 61, nj), (0, 44, nj), (0, 45, nj)]) := by
      unfold cfs
      rw [if_neg (by omega), if_neg (by omega), if_neg (by omega), if_neg (by omega), if_neg (by omega), if_neg (by omega), if_pos (by omega), show 220 + nj - 220 = nj by omega]
    rw [e, obj _ (by omega), cz]
    show some _ = some (Sum.inr (0, [Value.ref (ajx ad nj X (240 + nj)), Value.ref (ajx ad nj X (300 + (13 + 6 * nj))), Value.ref (ajx ad nj X (300 + (14 + 6 * nj))), Value.int (iz (jns s nj z 23 nj)), Value.int (iz (jns s nj z 24 nj)), Value.int (iz (jns s nj z 25 nj)), Value.int (iz (jns s nj z 61 nj)), Value.int (iz (jns s nj z 44 nj)), Value.int (iz (jns s nj z 45 nj))]))
    rw [a240, a _ (by omega) (by omega), a _ (by omega) (by omega), jns_z _ _ _ _ (by omega), jns_z _ _ _ _ (by omega), jns_z _ _ _ _ (by omega), jns_z _ _ _ _ (by omega), jns_z _ _ _ _ (by omega), jns_z _ _ _ _ (by omega), show (13 + 6 * nj - 9 - 6 * nj).toNat = 4 by omega, show (14 + 6 * nj - 9 - 6 * nj).toNat = 5 by omega]
    try rfl
  · have e : roj nj 1 = 240 + nj := rfl
    have cz : cfs (240 + nj) = (5, [(2, 11, nj), (1, 0, 260 + nj), (1, 0, 300 + (9 + 6 * nj)), (1, 0, 300 + (10 + 6 * nj)), (1, 0, 300 + (11 + 6 * nj)), (1, 0, 300 + (12 + 6 * nj)), (0, 22, nj)]) := by
      unfold cfs
      rw [if_neg (by omega), if_neg (by omega), if_neg (by omega), if_neg (by omega), if_neg (by omega), if_neg (by omega), if_neg (by omega), if_pos (by omega), show 240 + nj - 240 = nj by omega]
    rw [e, obj _ (by omega), cz]
    show some _ = some (Sum.inr (5, [Value.ref (ajx ad nj X (200 + jns s nj z 11 nj)), Value.ref (ajx ad nj X (260 + nj)), Value.ref (ajx ad nj X (300 + (9 + 6 * nj))), Value.ref (ajx ad nj X (300 + (10 + 6 * nj))), Value.ref (ajx ad nj X (300 + (11 + 6 * nj))), Value.ref (ajx ad nj X (300 + (12 + 6 * nj))), Value.int (iz (jns s nj z 22 nj))]))
    rw [jns_11, a200, a260, a _ (by omega) (by omega), a _ (by omega) (by omega), a _ (by omega) (by omega), a _ (by omega) (by omega), jns_z _ _ _ _ (by omega), show (9 + 6 * nj - 9 - 6 * nj).toNat = 0 by omega, show (10 + 6 * nj - 9 - 6 * nj).toNat = 1 by omega, show (11 + 6 * nj - 9 - 6 * nj).toNat = 2 by omega, show (12 + 6 * nj - 9 - 6 * nj).toNat = 3 by omega]
    try rfl
  · have e : roj nj 2 = 260 + nj := rfl
    rw [e]
    unfold ccl
    rw [if_pos (aro_t (by omega))]
    unfold cca
    rw [if_neg (by omega), if_neg (by omega), if_neg (by omega), if_neg (by omega), if_neg (by omega), if_neg (by omega), if_neg (by omega), if_pos (by omega), show 260 + nj - 260 = nj by omega]
    have : (fun x : Nat => if x < 5 then lz (jns s nj z (12 + x) nj) else 0) = fun _ => 0 := by
      funext x
      split
      · rw [jns_z s nj z (12 + x) (by omega)]; rfl
      · rfl
    rw [this]
    rfl
  · rw [rr 0 (9 + 6 * nj) 3 (by omega) (by omega) l1 (by omega) (by show 309 + 6 * nj + ((0 : Nat) : Int) = _; omega)]; rfl
  · rw [ra 0 (9 + 6 * nj) 3 3 (by omega) (by omega) l1 (by omega) (by show 409 + 6 * nj + ((0 : Nat) : Int) = _; omega)]; rfl
  · rw [rr 1 (10 + 6 * nj) 3 (by omega) (by omega) l2 (by omega) (by show 309 + 6 * nj + ((1 : Nat) : Int) = _; omega)]; rfl
  · rw [ra 1 (10 + 6 * nj) 3 3 (by omega) (by omega) l2 (by omega) (by show 409 + 6 * nj + ((1 : Nat) : Int) = _; omega)]; rfl
  · rw [rr 2 (11 + 6 * nj) 6 (by omega) (by omega) l3 (by omega) (by show 309 + 6 * nj + ((2 : Nat) : Int) = _; omega)]; rfl
  · rw [ra 2 (11 + 6 * nj) 6 6 (by omega) (by omega) l3 (by omega) (by show 409 + 6 * nj + ((2 : Nat) : Int) = _; omega)]; rfl
  · rw [rr 3 (12 + 6 * nj) 8 (by omega) (by omega) l4 (by omega) (by show 309 + 6 * nj + ((3 : Nat) : Int) = _; omega)]; rfl
  · rw [ra 3 (12 + 6 * nj) 8 8 (by omega) (by omega) l4 (by omega) (by show 409 + 6 * nj + ((3 : Nat) : Int) = _; omega)]; rfl
  · rw [rr 4 (13 + 6 * nj) 512 (by omega) (by omega) l5 (by omega) (by show 309 + 6 * nj + ((4 : Nat) : Int) = _; omega)]; rfl
  · rw [ra 4 (13 + 6 * nj) 512 8 (by omega) (by omega) l5 (by omega) (by show 409 + 6 * nj + ((4 : Nat) : Int) = _; omega)]; rfl
  · rw [rr 5 (14 + 6 * nj) 512 (by omega) (by omega) l6 (by omega) (by show 309 + 6 * nj + ((5 : Nat) : Int) = _; omega)]; rfl
  · rw [ra 5 (14 + 6 * nj) 512 8 (by omega) (by omega) l6 (by omega) (by show 409 + 6 * nj + ((5 : Nat) : Int) = _; omega)]; rfl
theorem REL_job {s m : mS} (hR : REL s m) (hM : MC m) (h12 : m 10 0 ≠ 12) {z : Int} (hz : 0 ≤ z ∧ z < m 1 0) : REL (jns s (m 10 0) z) (up (up m 11 (m 10 0) z) 10 0 (m 10 0 + 1)) ∧ cs (jns s (m 10 0) z) = cs s + 36 := by
  have c1 := hM.2.2.1
  have c10 := hM.2.2.2.1
  have uk : ∀ k y, k ≠ 10 → ¬ (k = 11 ∧ y = m 10 0) → up (up m 11 (m 10 0) z) 10 0 (m 10 0 + 1) k y = m k y := fun k y q r => by rw [up_k _ _ _ _ q, up_ne _ _ r]
  have u11 : up (up m 11 (m 10 0) z) 10 0 (m 10 0 + 1) 11 (m 10 0) = z := by rw [up_k _ _ _ _ (by decide), up_e]
  have u10 : up (up m 11 (m 10 0) z) 10 0 (m 10 0 + 1) 10 0 = m 10 0 + 1 := up_e _ _ _ _
  have u10z : ∀ y, y ≠ 0 → up (up m 11 (m 10 0) z) 10 0 (m 10 0 + 1) 10 y = m 10 y := fun y hy => by rw [up_ne _ _ (fun q => hy q.2), up_k _ _ _ _ (by decide)]
  have zj := (hM.2.2.2.2.2.1 (m 10 0) (by omega) (by omega)).2.2.2.1 (by omega)
  generalize up (up m 11 (m 10 0) z) 10 0 (m 10 0 + 1) = m' at *
  obtain ⟨r1, r2, r3, r4, r5, r6, r7⟩ := hR
  have o := fun k y h1 h2 h3 h4 => jns_o s (m 10 0) z k y h1 h2 h3 h4
  have zk : ∀ k, (12 ≤ k ∧ k ≤ 16) ∨ (22 ≤ k ∧ k ≤ 25) ∨ k = 44 ∨ k = 45 → m k (m 10 0) = 0 := by
    intro k hk
    obtain ⟨⟨b1, b2, b3, b4, b5⟩, ⟨b6, b7, b8, b9, b10, b11, b12, b13⟩, b14, b15, b16⟩ := zj
    have : k = 12 ∨ k = 13 ∨ k = 14 ∨ k = 15 ∨ k = 16 ∨ k = 22 ∨ k = 23 ∨ k = 24 ∨ k = 25 ∨ k = 44 ∨ k = 45 := by omega
    rcases this with rfl | rfl | rfl | rfl | rfl | rfl | rfl | rfl | rfl | rfl | rfl <;> assumption
  have sh : ∀ k y, shd k = true → jns s (m 10 0) z k y = m' k y := by
    intro k y hk
    by_cases ck : k = 10
    · subst ck
      by_cases cy : y = 0
      · subst cy; rw [jns_10 _ _ _ _ (Or.inl rfl), u10]
      · rw [o 10 y (by omega) (by omega) (by omega) (by omega), u10z y cy]; exact r1 10 y rfl
    by_cases c11 : k = 11 ∧ y = m 10 0
    · obtain ⟨rfl, rfl⟩ := c11
      rw [jns_11, u11]
    rw [uk k y ck c11]
    by_cases cn : ((12 ≤ k ∧ k ≤ 16) ∨ (22 ≤ k ∧ k ≤ 25) ∨ k = 44 ∨ k = 45) ∧ y = m 10 0
    · obtain ⟨cn1, rfl⟩ := cn
      rw [jns_z _ _ _ _ (by omega), zk k cn1]
    · have hk2 : k ≠ 81 ∧ k ≠ 100 ∧ k ≠ 101 ∧ k ≠ 102 ∧ k ≠ 61 := by
        refine ⟨?_, ?_, ?_, ?_, ?_⟩ <;> (intro e; rw [e] at hk; revert hk; decide)
      rw [o k y (by omega) (by omega) (by omega) (by omega)]
      exact r1 k y hk
  constructor
  · refine ⟨sh, ?_, ?_, ?_, ?_, ?_, ?_⟩
    · intro y a b
      rw [uk 53 0 (by decide) (by omega)] at b
      rw [o 54 y (by omega) (by omega) (by omega) (by omega), uk 54 y (by decide) (by omega)]
      exact r2 y a b
    · intro i i0 i1
      obtain ⟨q1, q2, q3, q4⟩ := r3 i i0 i1
      have e62 := o 62 i (by omega) (by omega) (by omega) (by omega)
      refine ⟨runR_of q1 (fun k k1 k2 => o k i (by omega) (by omega) (by omega) (by omega)) (fun k k1 k2 => uk k i (by omega) (by omega)), ?_, ?_, ?_⟩
      · rw [e62, uk 30 i (by decide) (by omega), uk 34 i (by decide) (by omega)]; exact q2
      · rw [e62]; exact q3
      · rw [e62, u10]; intro q; exact q4 (by omega)
    · intro y a b
      rw [uk 1 0 (by decide) (by omega)] at b
      have c5 := hM.2.2.2.2.1 y a (by omega)
      exact zR_loc (r4 y a b) c5.1 (fun p p0 p1 => ⟨o 100 p (by omega) (by omega) (by omega) (by omega), o 102 p (by omega) (by omega) (by omega) (by omega), fun k k0 k1 => o 101 _ (by omega) (by omega) (by omega) (by omega)⟩) (fun k k0 k1 => o 60 _ (by omega) (by omega) (by omega) (by omega)) (fun k y' a b => uk k y' (by omega) (by omega))
    · intro j a b
      rw [u10] at b
      have ek : ∀ k, (11 ≤ k ∧ k ≤ 16) ∨ k = 22 → jns s (m 10 0) z k j = m' k j := fun k q => by
        refine sh k j ?_
        have : k = 11 ∨ k = 12 ∨ k = 13 ∨ k = 14 ∨ k = 15 ∨ k = 16 ∨ k = 22 := by omega
        rcases this with rfl | rfl | rfl | rfl | rfl | rfl | rfl <;> rfl
      have aw : awO m' j = awO m j := awO_of (fun y => uk 27 y (by decide) (by omega)) (fun y => uk 26 y (by decide) (by omega))
      by_cases cj : j = m 10 0
      · subst cj
        obtain ⟨l1, l2, l3, l4, l5, l6⟩ := rlim_jj (j := m 10 0) (by omega)
        have xe : ∀ p, 9 + 6 * m 10 0 ≤ p → p < 15 + 6 * m 10 0 → xr (jns s (m 10 0) z) p = [] := by
          intro p p0 p1
          unfold xr
          rw [jns_100 _ _ _ _ ⟨p0, p1⟩]
          rfl
        have wz : ∀ p, 9 + 6 * m 10 0 ≤ p → p < 15 + 6 * m 10 0 → wI (jns s (m 10 0) z) p := by
          intro p p0 p1
          have lc := rlim_c (p := p)
          unfold wI
          rw [jns_100 _ _ _ _ ⟨p0, p1⟩, jns_102 _ _ _ _ ⟨p0, p1⟩]
          refine ⟨by omega, by omega, by omega, by omega, fun k k0 k1 => ?_⟩
          rw [jns_101 _ _ _ _ (by omega)]
        obtain ⟨-, ⟨z17, z20, z28, -, -, -, -, z26⟩, -, -, z46⟩ := zj
        refine ⟨⟨⟨?_, ?_, ?_, ?_, ?_, ?_⟩, ⟨ek 11 (by omega), ek 12 (by omega), ek 13 (by omega), ek 14 (by omega), ek 15 (by omega), ek 16 (by omega), ek 22 (by omega)⟩, wz _ (by omega) (by omega), wz _ (by omega) (by omega), wz _ (by omega) (by omega), wz _ (by omega) (by omega), wz _ (by omega) (by omega), wz _ (by omega) (by omega)⟩, ?_⟩
        · rw [xe _ (by omega) (by omega)]; unfold nwOf; rw [uk 17 _ (by decide) (by omega), z17]; rfl
        · rw [xe _ (by omega) (by omega)]; unfold nnOf; rw [uk 17 _ (by decide) (by omega), z17]; rfl
        · rw [xe _ (by omega) (by omega)]; unfold exOf; rw [uk 20 _ (by decide) (by omega), z20]; rfl
        · rw [xe _ (by omega) (by omega)]; unfold xtOf; rw [uk 28 _ (by decide) (by omega), z28]; rfl
        · rw [xe _ (by omega) (by omega)]; unfold efOf; rw [uk 46 _ (by decide) (by omega), z46]; rfl
        · rw [xe _ (by omega) (by omega)]; unfold egOf; rw [uk 46 _ (by decide) (by omega), z46]; rfl
        · rw [jns_z _ _ _ _ (by omega), aw]
          unfold awO
          rw [z26]
          rfl
      · obtain ⟨q1, q2⟩ := r5 j a (by omega)
        refine ⟨jR_loc q1 (fun p p0 p1 => ⟨o 100 p (by omega) (by omega) (by omega) (by omega), o 102 p (by omega) (by omega) (by omega) (by omega), fun k k0 k1 => o 101 _ (by omega) (by omega) (by omega) (by omega)⟩) (fun k y q => uk k y (by omega) (by omega)) ek, ?_⟩
        rw [o 61 j (by omega) (by omega) (by omega) (by omega), aw]; exact q2
    · unfold ROT
      rw [u10, uk 1 0 (by decide) (by omega), jns_10 _ _ _ _ (Or.inr rfl), o 80 0 (by omega) (by omega) (by omega) (by omega)]
      refine ⟨r6.1, rfl, fun p hp => ?_⟩
      rw [o 102 p (by omega) (by omega) (by omega) (by omega)]
      exact r6.2.2 p (by omega)
    · intro k y a b
      have := rlim_r y
      unfold jns
      split
      · omega
      split
      · omega
      split
      · omega
      split
      · omega
      split
      · omega
      split
      · omega
      · exact r7 k y a b
  · have z0 := fun p h => r6.2.2 p h
    obtain ⟨l1, l2, l3, l4, l5, l6⟩ := rlim_jj (j := m 10 0) (by omega)
    have e : cs (jns s (m 10 0) z) = cs (up (up (up (up (up (up s 102 (9 + 6 * m 10 0) 3) 102 (10 + 6 * m 10 0) 3) 102 (11 + 6 * m 10 0) 6) 102 (12 + 6 * m 10 0) 8) 102 (13 + 6 * m 10 0) 8) 102 (14 + 6 * m 10 0) 8) := by
      refine cs_of (fun y => ?_)
      by_cases c : 9 + 6 * m 10 0 ≤ y ∧ y < 15 + 6 * m 10 0
      · rw [jns_102 _ _ _ _ c]
        have : y = 9 + 6 * m 10 0 ∨ y = 10 + 6 * m 10 0 ∨ y = 11 + 6 * m 10 0 ∨ y = 12 + 6 * m 10 0 ∨ y = 13 + 6 * m 10 0 ∨ y = 14 + 6 * m 10 0 := by omega
        rcases this with q | q | q | q | q | q
        · rw [q, up_ne _ _ (by omega), up_ne _ _ (by omega), up_ne _ _ (by omega), up_ne _ _ (by omega), up_ne _ _ (by omega), up_e, l1]; rfl
        · rw [q, up_ne _ _ (by omega), up_ne _ _ (by omega), up_ne _ _ (by omega), up_ne _ _ (by omega), up_e, l2]; rfl
        · rw [q, up_ne _ _ (by omega), up_ne _ _ (by omega), up_ne _ _ (by omega), up_e, l3]; rfl
        · rw [q, up_ne _ _ (by omega), up_ne _ _ (by omega), up_e, l4]; rfl
        · rw [q, up_ne _ _ (by omega), up_e, l5]; rfl
        · rw [q, up_e, l6]; rfl
      · rw [up_ne _ _ (by omega), up_ne _ _ (by omega), up_ne _ _ (by omega), up_ne _ _ (by omega), up_ne _ _ (by omega), up_ne _ _ (by omega), o 102 y (by omega) (by omega) (by omega) (by omega)]
    rw [e]
    repeat rw [cs_up _ (by omega)]
    repeat rw [up_ne _ _ (by omega)]
    rw [z0 _ (by omega), z0 _ (by omega), z0 _ (by omega), z0 _ (by omega), z0 _ (by omega), z0 _ (by omega)]
    omega
