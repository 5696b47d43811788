/-! the class's zone -/
def zns (s : mS) (nz : Int) : mS := fun k z => if (k = 1 ∨ k = 80) ∧ z = 0 then nz + 1 else if k = 100 ∧ 3 * nz ≤ z ∧ z < 3 * nz + 3 then (if z < 3 * nz + 2 then 1 else 0) else if k = 101 ∧ 1800 * nz ≤ z ∧ z < 1800 * nz + 1800 then 0 else if k = 102 ∧ 3 * nz ≤ z ∧ z < 3 * nz + 3 then 8 else if k = 60 ∧ 20 * nz ≤ z ∧ z < 20 * nz + 20 then 0 else s k z
theorem zns_o (s : mS) (nz : Int) (k : Nat) (z : Int) (h1 : ¬ ((k = 1 ∨ k = 80) ∧ z = 0)) (h2 : ¬ ((k = 100 ∨ k = 102) ∧ 3 * nz ≤ z ∧ z < 3 * nz + 3)) (h3 : ¬ (k = 101 ∧ 1800 * nz ≤ z ∧ z < 1800 * nz + 1800)) (h4 : ¬ (k = 60 ∧ 20 * nz ≤ z ∧ z < 20 * nz + 20)) : zns s nz k z = s k z := by
  unfold zns
  rw [if_neg h1, if_neg (by omega), if_neg h3, if_neg (by omega), if_neg h4]
theorem zns_1 (s : mS) (nz : Int) (k : Nat) (h : k = 1 ∨ k = 80) : zns s nz k 0 = nz + 1 := by unfold zns; rw [if_pos ⟨h, rfl⟩]
theorem zns_100 (s : mS) (nz z : Int) (h : 3 * nz ≤ z ∧ z < 3 * nz + 3) : zns s nz 100 z = if z < 3 * nz + 2 then 1 else 0 := by unfold zns; rw [if_neg (by omega), if_pos ⟨rfl, h⟩]
theorem zns_101 (s : mS) (nz z : Int) (h : 1800 * nz ≤ z ∧ z < 1800 * nz + 1800) : zns s nz 101 z = 0 := by unfold zns; rw [if_neg (by omega), if_neg (by omega), if_pos ⟨rfl, h⟩]
theorem zns_102 (s : mS) (nz z : Int) (h : 3 * nz ≤ z ∧ z < 3 * nz + 3) : zns s nz 102 z = 8 := by unfold zns; rw [if_neg (by omega), if_neg (by omega), if_neg (by omega), if_pos ⟨rfl, h⟩]
theorem zns_60 (s : mS) (nz z : Int) (h : 20 * nz ≤ z ∧ z < 20 * nz + 20) : zns s nz 60 z = 0 := by unfold zns; rw [if_neg (by omega), if_neg (by omega), if_neg (by omega), if_neg (by omega), if_pos ⟨rfl, h⟩]
def adz (ad : Int → Nat) (nz : Int) (X : Nat) : Int → Nat := fun r => if r = 200 + nz then X else if r = 210 + nz then X + 7 else if 300 + 3 * nz ≤ r ∧ r < 303 + 3 * nz then X + 1 + 2 * (r - 300 - 3 * nz).toNat else if 400 + 3 * nz ≤ r ∧ r < 403 + 3 * nz then X + 2 + 2 * (r - 400 - 3 * nz).toNat else ad r
def roz (nz : Int) (i : Nat) : Int := if i = 0 then 200 + nz else if i = 7 then 210 + nz else if i % 2 = 1 then 300 + 3 * nz + ((i - 1) / 2 : Nat) else 400 + 3 * nz + ((i - 2) / 2 : Nat)
theorem adz_c {ad : Int → Nat} {nz nj : Int} {X : Nat} (hn : 0 ≤ nz ∧ nz < 3 ∧ 0 ≤ nj ∧ nj ≤ 12) {r : Int} (hr : Ux (nz + 1) nj r) : (∃ i : Nat, i < 8 ∧ adz ad nz X r = X + i ∧ r = roz nz i) ∨ (Ux nz nj r ∧ adz ad nz X r = ad r) := by
  have hr' := (Ux_iff _ _ _).mp hr
  unfold adz roz
  by_cases c1 : r = 200 + nz
  · left; exact ⟨0, by omega, by rw [if_pos c1]; rfl, by rw [if_pos rfl]; exact c1⟩
  by_cases c2 : r = 210 + nz
  · left; exact ⟨7, by omega, by rw [if_neg c1, if_pos c2], by rw [if_neg (by omega), if_pos rfl]; exact c2⟩
  by_cases c3 : 300 + 3 * nz ≤ r ∧ r < 303 + 3 * nz
  · left
    refine ⟨1 + 2 * (r - 300 - 3 * nz).toNat, by omega, by rw [if_neg c1, if_neg c2, if_pos c3]; omega, ?_⟩
    rw [if_neg (by omega), if_neg (by omega), if_pos (by omega)]
    omega
  by_cases c4 : 400 + 3 * nz ≤ r ∧ r < 403 + 3 * nz
  · left
    refine ⟨2 + 2 * (r - 400 - 3 * nz).toNat, by omega, by rw [if_neg c1, if_neg c2, if_neg c3, if_pos c4]; omega, ?_⟩
    rw [if_neg (by omega), if_neg (by omega), if_neg (by omega)]
    omega
  · right
    exact ⟨(Ux_iff _ _ _).mpr (by omega), by rw [if_neg c1, if_neg c2, if_neg c3, if_neg c4]⟩
theorem adz_o {ad : Int → Nat} {nz nj : Int} {X : Nat} (hn : 0 ≤ nz ∧ nz < 3 ∧ 0 ≤ nj ∧ nj ≤ 12) {r : Int} (hr : Ux nz nj r) : adz ad nz X r = ad r := by
  have hr' := (Ux_iff _ _ _).mp hr
  unfold adz
  rw [if_neg (by omega), if_neg (by omega), if_neg (by omega), if_neg (by omega)]
theorem rlim_zz {z : Int} (hz : 0 ≤ z ∧ z < 3) : rlim (3 * z) = 11 ∧ rlim (3 * z + 1) = 11 ∧ rlim (3 * z + 2) = 20 := by
  have : z = 0 ∨ z = 1 ∨ z = 2 := by omega
  rcases this with rfl | rfl | rfl <;> decide
/-- what a new zone's cells say -/
theorem zcl_ok {ad : Int → Nat} {s : mS} {nz : Int} {X : Nat} (hn : 0 ≤ nz ∧ nz < 3) (i : Nat) (hi : i < 8) : (zcl X)[i]? = some (ccl (adz ad nz X) (zns s nz) (roz nz i)) := by
  obtain ⟨l1, l2, l3⟩ := rlim_zz (z := nz) (by omega)
  have a0 : adz ad nz X (300 + 3 * nz) = X + 1 := by unfold adz; rw [if_neg (by omega), if_neg (by omega), if_pos (by omega)]; omega
  have a1 : adz ad nz X (300 + (3 * nz + 1)) = X + 3 := by unfold adz; rw [if_neg (by omega), if_neg (by omega), if_pos (by omega)]; omega
  have a2 : adz ad nz X (300 + (3 * nz + 2)) = X + 5 := by unfold adz; rw [if_neg (by omega), if_neg (by omega), if_pos (by omega)]; omega
  have b0 : adz ad nz X (400 + 3 * nz) = X + 2 := by unfold adz; rw [if_neg (by omega), if_neg (by omega), if_neg (by omega), if_pos (by omega)]; omega
  have b1 : adz ad nz X (400 + (3 * nz + 1)) = X + 4 := by unfold adz; rw [if_neg (by omega), if_neg (by omega), if_neg (by omega), if_pos (by omega)]; omega
  have b2 : adz ad nz X (400 + (3 * nz + 2)) = X + 6 := by unfold adz; rw [if_neg (by omega), if_neg (by omega), if_neg (by omega), if_pos (by omega)]; omega
  have a7 : adz ad nz X (210 + nz) = X + 7 := by unfold adz; rw [if_neg (by omega), if_pos rfl]
  have obj : ∀ r, ¬ ((1 ≤ r ∧ r ≤ 5) ∨ r = 7 ∨ (210 ≤ r ∧ r < 213) ∨ (260 ≤ r ∧ r < 272) ∨ (400 ≤ r ∧ r < 481)) → ccl (adz ad nz X) (zns s nz) r = .inr ((cfs r).1, (cfs r).2.map (cv (adz ad nz X) (zns s nz))) := fun r h => by unfold ccl; rw [if_neg (by rw [aro_f h]; decide)]
  have row : ∀ p, 0 ≤ p → p < 9 → cfs (300 + p) = (4, [(3, 0, rlim p), (1, 0, 400 + p), (0, 100, p)]) := fun p p0 p1 => by
    unfold cfs
    rw [if_neg (by omega), if_neg (by omega), if_neg (by omega), if_neg (by omega), if_neg (by omega), if_neg (by omega), if_neg (by omega), if_neg (by omega), show 300 + p - 300 = p by omega]
  have arr : ∀ p, 3 * nz ≤ p → p < 3 * nz + 3 → ccl (adz ad nz X) (zns s nz) (400 + p) = .inl (0, 8, .inl (fun _ => iz 0)) := fun p p0 p1 => by
    unfold ccl
    rw [if_pos (aro_t (by omega))]
    unfold cca
    rw [if_neg (by omega), if_neg (by omega), if_neg (by omega), if_neg (by omega), if_neg (by omega), if_neg (by omega), if_neg (by omega), if_neg (by omega), show 400 + p - 400 = p by omega, zns_102 s nz p ⟨p0, p1⟩]
    have : (fun x : Nat => if x < 600 then iz (zns s nz 101 (600 * p + x)) else iz 0) = fun _ => iz 0 := by
      funext x
      split
      · rw [zns_101 s nz _ (by omega)]
      · rfl
    rw [this]
    rfl
  have rw' : ∀ p, 3 * nz ≤ p → p < 3 * nz + 3 → ccl (adz ad nz X) (zns s nz) (300 + p) = .inr (4, [.int (iz (rlim p)), .ref (adz ad nz X (400 + p)), .int (iz (if p < 3 * nz + 2 then 1 else 0))]) := fun p p0 p1 => by
    rw [obj _ (by omega), row p (by omega) (by omega), ← zns_100 s nz p ⟨p0, p1⟩]
    rfl
  have hc : i = 0 ∨ i = 1 ∨ i = 2 ∨ i = 3 ∨ i = 4 ∨ i = 5 ∨ i = 6 ∨ i = 7 := by omega
  rcases hc with rfl | rfl | rfl | rfl | rfl | rfl | rfl | rfl
  · have e : roz nz 0 = 200 + nz := rfl
    have cz : cfs (200 + nz) = (7, [(1, 0, 300 + 3 * nz), (1, 0, 300 + (3 * nz + 1)), (1, 0, 300 + (3 * nz + 2)), (1, 0, 210 + nz)]) := by
      unfold cfs
      rw [if_neg (by omega), if_neg (by omega), if_neg (by omega), if_neg (by omega), if_neg (by omega), if_pos (by omega), show 200 + nz - 200 = nz by omega]
    rw [e, obj _ (by omega), cz]
    show some _ = some (Sum.inr (7, [Value.ref (adz ad nz X (300 + 3 * nz)), Value.ref (adz ad nz X (300 + (3 * nz + 1))), Value.ref (adz ad nz X (300 + (3 * nz + 2))), Value.ref (adz ad nz X (210 + nz))]))
    rw [a0, a1, a2, a7]
    try rfl
  · have e : roz nz 1 = 300 + 3 * nz := by show 300 + 3 * nz + ((0 : Nat) : Int) = _; omega
    rw [e, rw' _ (by omega) (by omega), l1, b0, if_pos (by omega)]
    rfl
  · have e : roz nz 2 = 400 + 3 * nz := by show 400 + 3 * nz + ((0 : Nat) : Int) = _; omega
    rw [e, arr _ (by omega) (by omega)]
    rfl
  · have e : roz nz 3 = 300 + (3 * nz + 1) := by show 300 + 3 * nz + ((1 : Nat) : Int) = _; omega
    rw [e, rw' _ (by omega) (by omega), l2, b1, if_pos (by omega)]
    rfl
  · have e : roz nz 4 = 400 + (3 * nz + 1) := by show 400 + 3 * nz + ((1 : Nat) : Int) = _; omega
    rw [e, arr _ (by omega) (by omega)]
    rfl
  · have e : roz nz 5 = 300 + (3 * nz + 2) := by show 300 + 3 * nz + ((2 : Nat) : Int) = _; omega
    rw [e, rw' _ (by omega) (by omega), l3, b2, if_neg (by omega)]
    rfl
  · have e : roz nz 6 = 400 + (3 * nz + 2) := by show 400 + 3 * nz + ((2 : Nat) : Int) = _; omega
    rw [e, arr _ (by omega) (by omega)]
    rfl
  · have e : roz nz 7 = 210 + nz := rfl
    rw [e]
    unfold ccl
    rw [if_pos (aro_t (by omega))]
    unfold cca
    rw [if_neg (by omega), if_neg (by omega), if_neg (by omega), if_neg (by omega), if_neg (by omega), if_neg (by omega), if_pos (by omega), show 210 + nz - 210 = nz by omega]
    have : (fun x : Nat => if x < 20 then iz (zns s nz 60 (20 * nz + x)) else iz 0) = fun _ => iz 0 := by
      funext x
      split
      · rw [zns_60 s nz _ (by omega)]
      · rfl
    rw [this]
    rfl
theorem REL_zone {s m : mS} (hR : REL s m) (hM : MC m) (h3 : m 1 0 ≠ 3) : REL (zns s (m 1 0)) (up m 1 0 (m 1 0 + 1)) ∧ cs (zns s (m 1 0)) = cs s + 24 := by
  have c1 := hM.2.2.1
  have c10 := hM.2.2.2.1
  have uk : ∀ k z, k ≠ 1 → up m 1 0 (m 1 0 + 1) k z = m k z := fun k z q => up_k _ _ _ _ q
  obtain ⟨r1, r2, r3, r4, r5, r6, r7⟩ := hR
  have o := fun k z h1 h2 h3 h4 => zns_o s (m 1 0) k z h1 h2 h3 h4
  have ok : ∀ k z, k ≠ 1 → k ≠ 80 → k ≠ 100 → k ≠ 101 → k ≠ 102 → k ≠ 60 → zns s (m 1 0) k z = s k z := fun k z a b c d e f => o k z (by omega) (by omega) (by omega) (by omega)
  constructor
  · refine ⟨?_, ?_, RRU_of r3 (fun k z a b => ok k z (by omega) (by omega) (by omega) (by omega) (by omega) (by omega)) (fun k z q => uk k z (by omega)), ?_, ?_, ?_, ?_⟩
    · intro k z hk
      by_cases ck : k = 1
      · subst ck
        by_cases cz : z = 0
        · subst cz; rw [zns_1 _ _ _ (Or.inl rfl), up_e]
        · rw [o 1 z (by omega) (by omega) (by omega) (by omega), up_ne _ _ (by omega)]; exact r1 1 z rfl
      · have hk2 : k ≠ 80 ∧ k ≠ 100 ∧ k ≠ 101 ∧ k ≠ 102 ∧ k ≠ 60 := by
          refine ⟨?_, ?_, ?_, ?_, ?_⟩ <;> (intro e; rw [e] at hk; revert hk; decide)
        rw [ok k z ck hk2.1 hk2.2.1 hk2.2.2.1 hk2.2.2.2.1 hk2.2.2.2.2, uk k z ck]
        exact r1 k z hk
    · intro z a b
      rw [uk 53 0 (by decide)] at b
      rw [ok 54 z (by decide) (by decide) (by decide) (by decide) (by decide) (by decide), uk 54 z (by decide)]
      exact r2 z a b
    · intro z a b
      rw [up_e] at b
      have c5 := hM.2.2.2.2.1 z a (by omega)
      by_cases cz : z = m 1 0
      · obtain ⟨z2, z5⟩ := c5.2 (by omega)
        obtain ⟨l1, l2, l3⟩ := rlim_zz (z := m 1 0) (by omega)
        have e1 : ssOf (up m 1 0 (m 1 0 + 1)) z = [0] := by
          unfold ssOf
          rw [uk 2 z (by decide), z2]
          rfl
        have e2 : osOf (up m 1 0 (m 1 0 + 1)) z = [0] := by
          unfold osOf
          rw [uk 2 z (by decide), z2]
          rfl
        have e3 : hsOf (up m 1 0 (m 1 0 + 1)) z = [] := by
          unfold hsOf
          rw [uk 5 z (by decide), z5]
          rfl
        have wz : ∀ p, 3 * m 1 0 ≤ p → p < 3 * m 1 0 + 3 → 11 ≤ rlim p → wI (zns s (m 1 0)) p := by
          intro p p0 p1 pl
          unfold wI
          rw [zns_100 _ _ _ ⟨p0, p1⟩, zns_102 _ _ _ ⟨p0, p1⟩]
          refine ⟨by split <;> omega, by split <;> omega, by omega, by omega, fun k k0 k1 => ?_⟩
          have : 0 ≤ k := by
            have : (0 : Int) ≤ (if p < 3 * m 1 0 + 2 then 1 else 0) := by split <;> omega
            omega
          rw [zns_101 _ _ _ (by omega)]
        have x1 : ∀ p, 3 * m 1 0 ≤ p → p < 3 * m 1 0 + 2 → xr (zns s (m 1 0)) p = [0] := by
          intro p p0 p1
          unfold xr
          rw [zns_100 _ _ _ ⟨p0, by omega⟩, if_pos p1]
          show [zns s (m 1 0) 101 (600 * p + ((0 : Nat) : Int))] = [0]
          rw [zns_101 _ _ _ (by omega)]
        have x0 : xr (zns s (m 1 0)) (3 * m 1 0 + 2) = [] := by
          unfold xr
          rw [zns_100 _ _ _ (by omega), if_neg (by omega)]
          rfl
        rw [cz]
        rw [cz] at e1 e2 e3
        refine ⟨⟨by rw [e1, x1 _ (by omega) (by omega)], by rw [e2, x1 _ (by omega) (by omega)], by rw [e3, x0]⟩, fun k k0 k1 => ?_, wz _ (by omega) (by omega) (by omega), wz _ (by omega) (by omega) (by omega), wz _ (by omega) (by omega) (by omega)⟩
        rw [uk 5 _ (by decide), ← cz, z5] at k1
        omega
      · refine zR_loc (r4 z a (by omega)) c5.1 (fun p p0 p1 => ⟨o 100 p (by omega) (by omega) (by omega) (by omega), o 102 p (by omega) (by omega) (by omega) (by omega), fun k k0 k1 => o 101 _ (by omega) (by omega) (by omega) (by omega)⟩) (fun k k0 k1 => o 60 _ (by omega) (by omega) (by omega) (by omega)) (fun k y a b => uk k y (by omega))
    · intro j a b
      rw [uk 10 0 (by decide)] at b
      obtain ⟨q1, q2⟩ := r5 j a b
      refine ⟨jR_loc q1 (fun p p0 p1 => ⟨o 100 p (by omega) (by omega) (by omega) (by omega), o 102 p (by omega) (by omega) (by omega) (by omega), fun k k0 k1 => o 101 _ (by omega) (by omega) (by omega) (by omega)⟩) (fun k y q => uk k y (by omega)) (fun k q => ?_), ?_⟩
      · rw [ok k j (by omega) (by omega) (by omega) (by omega) (by omega) (by omega), uk k j (by omega)]
        refine r1 k j ?_
        have : k = 11 ∨ k = 12 ∨ k = 13 ∨ k = 14 ∨ k = 15 ∨ k = 16 ∨ k = 22 := by omega
        rcases this with rfl | rfl | rfl | rfl | rfl | rfl | rfl <;> rfl
      · rw [ok 61 j (by decide) (by decide) (by decide) (by decide) (by decide) (by decide), awO_of (fun z => uk 27 z (by decide)) (fun z => uk 26 z (by decide))]; exact q2
    · unfold ROT
      rw [up_e, uk 10 0 (by decide), zns_1 _ _ _ (Or.inr rfl), ok 81 0 (by decide) (by decide) (by decide) (by decide) (by decide) (by decide)]
      refine ⟨rfl, r6.2.1, fun p hp => ?_⟩
      rw [o 102 p (by omega) (by omega) (by omega) (by omega)]
      exact r6.2.2 p (by omega)
    · intro k z a b
      unfold zns
      split
      · omega
      split
      · split <;> omega
      split
      · omega
      split
      · omega
      split
      · omega
      · exact r7 k z a b
  · have z0 := fun p h => r6.2.2 p h
    have e : cs (zns s (m 1 0)) = cs (up (up (up s 102 (3 * m 1 0) 8) 102 (3 * m 1 0 + 1) 8) 102 (3 * m 1 0 + 2) 8) := by
      refine cs_of (fun z => ?_)
      by_cases c : 3 * m 1 0 ≤ z ∧ z < 3 * m 1 0 + 3
      · rw [zns_102 _ _ _ c]
        have : z = 3 * m 1 0 ∨ z = 3 * m 1 0 + 1 ∨ z = 3 * m 1 0 + 2 := by omega
        rcases this with q | q | q
        · rw [q, up_ne _ _ (by omega), up_ne _ _ (by omega), up_e]
        · rw [q, up_ne _ _ (by omega), up_e]
        · rw [q, up_e]
      · rw [up_ne _ _ (by omega), up_ne _ _ (by omega), up_ne _ _ (by omega), o 102 z (by omega) (by omega) (by omega) (by omega)]
    rw [e, cs_up _ (by omega), cs_up _ (by omega), cs_up _ (by omega), up_ne _ _ (by omega), up_ne _ _ (by omega), up_ne _ _ (by omega), z0 _ (by omega), z0 _ (by omega), z0 _ (by omega)]
    omega
