/-! overlays; the model's cells as a function of its state -/
def upo (c : Nat → Option zk_E) (a : Nat) (e : zk_E) : Nat → Option zk_E := fun b => if b = a then some e else c b
def ov (G : zk_G) (h : zk_H) (c : Nat → Option zk_E) : zk_H := (h.1.mapIdx (fun i e => (c (G.1 + i)).getD e), h.2)
theorem ov_rd (G : zk_G) (h : zk_H) (c : Nat → Option zk_E) (a : Nat) : zk_rd G (ov G h c) a = (zk_rd G h a).map (fun e => (c a).getD e) := by
  unfold zk_rd ov
  dsimp only
  split
  next => rfl
  next hlt => rw [List.getElem?_mapIdx, show G.1 + (a - G.1) = a by omega]
theorem ov_rd1 {G : zk_G} {h : zk_H} {c : Nat → Option zk_E} {a : Nat} {e : zk_E} (h1 : G.1 ≤ a) (h2 : a < zk_nx G h) (hc : c a = some e) : zk_rd G (ov G h c) a = some e := by
  rw [ov_rd, hc]
  unfold zk_rd
  unfold zk_nx at h2
  rw [if_neg (by omega), List.getElem?_eq_getElem (by omega)]
  rfl
theorem ov_rd0 {G : zk_G} {h : zk_H} {c : Nat → Option zk_E} {a : Nat} (hc : c a = none) : zk_rd G (ov G h c) a = zk_rd G h a := by
  rw [ov_rd, hc]
  cases zk_rd G h a <;> rfl
theorem ov_wr {G : zk_G} {h : zk_H} {c : Nat → Option zk_E} {a : Nat} {e : zk_E} (h1 : G.1 ≤ a) : zk_wr G (ov G h c) a e = ov G h (upo c a e) := by
  unfold zk_wr ov
  dsimp only
  congr 1
  apply List.ext_getElem?
  intro i
  rw [List.getElem?_mapIdx]
  by_cases hi : i = a - G.1
  · subst hi
    rw [List.getElem?_set_self']
    rw [List.getElem?_mapIdx]
    unfold upo
    rw [show G.1 + (a - G.1) = a by omega, if_pos rfl]
    cases h.1[a - G.1]? <;> rfl
  · rw [List.getElem?_set_ne (fun q => hi q.symm), List.getElem?_mapIdx]
    unfold upo
    rw [if_neg (by omega)]
theorem ov_nx (G : zk_G) (h : zk_H) (c : Nat → Option zk_E) : zk_nx G (ov G h c) = zk_nx G h := by unfold zk_nx ov; rw [List.length_mapIdx]
theorem ov_id {G : zk_G} {h : zk_H} {c : Nat → Option zk_E} (hc : ∀ a e, c a = some e → zk_rd G h a = some e) : ov G h c = h := by
  unfold ov
  obtain ⟨l, n⟩ := h
  dsimp only
  congr 1
  apply List.ext_getElem?
  intro i
  rw [List.getElem?_mapIdx]
  cases hi : l[i]? with
  | none => rfl
  | some e =>
    cases hc2 : c (G.1 + i) with
    | none => rfl
    | some e2 =>
      have := hc _ _ hc2
      unfold zk_rd at this
      rw [if_neg (by omega), show G.1 + i - G.1 = i by omega] at this
      dsimp only at this
      rw [hi] at this
      rw [this]
      rfl
abbrev mS : Type := Nat → Int → Int
def up (m : mS) (k : Nat) (z v : Int) : mS := fun k' z' => if k' = k then (if z' = z then v else m k' z') else m k' z'
theorem up_k (m : mS) {k k' : Nat} (z v z' : Int) (h : k' ≠ k) : up m k z v k' z' = m k' z' := by unfold up; rw [if_neg h]
theorem up_e (m : mS) (k : Nat) (z v : Int) : up m k z v k z = v := by unfold up; rw [if_pos rfl, if_pos rfl]
theorem up_z (m : mS) (k : Nat) (z v z' : Int) : up m k z v k z' = if z' = z then v else m k z' := by unfold up; rw [if_pos rfl]
theorem upd_ap (f : Nat → Int32) (i j : Nat) (x : Int32) : upd f i x j = if j = i then x else f j := by first | rfl | (unfold upd; rfl) | simp [upd]
def mar (i : Nat) : Nat × Nat × Nat := ([(0, 0, 0), (2, 0, 3), (3, 0, 30), (4, 0, 30), (5, 0, 3), (6, 0, 60), (11, 0, 12), (12, 1, 12), (13, 0, 12), (14, 1, 12), (15, 0, 12), (16, 0, 12), (17, 0, 12), (18, 0, 36), (19, 0, 36), (20, 0, 12), (21, 0, 72), (22, 0, 12), (23, 0, 12), (24, 0, 12), (25, 2, 12), (26, 0, 12), (27, 0, 36), (28, 0, 12), (29, 0, 96), (30, 0, 36), (31, 0, 36), (32, 0, 36), (33, 0, 36), (34, 0, 36), (35, 0, 36), (36, 0, 36), (37, 0, 36), (38, 0, 36), (39, 0, 36), (40, 0, 36), (41, 2, 36), (42, 2, 3), (43, 2, 2), (44, 0, 12), (45, 0, 12), (46, 0, 12), (47, 0, 3600), (48, 0, 3600), (49, 0, 12), (50, 0, 12), (54, 0, 480), (55, 0, 8)] : List (Nat × Nat × Nat)).getD i (0, 0, 0)
def mfa (k : Nat) : Nat := [0, 0, 1, 2, 3, 4, 5, 0, 0, 0, 0, 6, 7, 8, 9, 10, 11, 12, 13, 14, 15, 16, 17, 18, 19, 20, 21, 22, 23, 24, 25, 26, 27, 28, 29, 30, 31, 32, 33, 34, 35, 36, 37, 38, 39, 40, 41, 42, 43, 44, 45, 0, 0, 0, 46, 47].getD k 0
def mval (M : Nat) (m : mS) (k : Nat) : Value := if mfa k = 0 then .int (iz (m k 0)) else .ref (M + mfa k)
def mcl (M : Nat) (m : mS) (i : Nat) : zk_E := if i = 0 then .inr (9, (List.range 56).map (mval M m)) else .inl ((mar i).2.1, (mar i).2.2, if (mar i).2.1 = 1 then .inr (.inl (fun x => lz (m (mar i).1 x))) else .inl (fun x => iz (m (mar i).1 x)))
def mc (M : Nat) (m : mS) : Nat → Option zk_E := fun a => if M ≤ a ∧ a < M + 48 then some (mcl M m (a - M)) else none
def hp (G : zk_G) (B : zk_H) (M : Nat) (m : mS) : zk_H := ov G B (mc M m)
def hpo (G : zk_G) (B : zk_H) (M : Nat) : Prop := G.1 ≤ M ∧ M + 48 ≤ zk_nx G B
theorem mar_ok (i : Nat) (h1 : 1 ≤ i) (h2 : i < 48) : mfa (mar i).1 = i ∧ (mar i).2.2 ≤ 3600 ∧ (mar i).2.1 ≤ 2 := by
  have : ∀ i, i < 48 → (1 ≤ i → mfa (mar i).1 = i ∧ (mar i).2.2 ≤ 3600 ∧ (mar i).2.1 ≤ 2) := by decide +kernel
  exact this i h2 h1
section HPM
variable {G : zk_G} {B : zk_H} {M : Nat}
theorem mc_in {m : mS} {i : Nat} (hi : i < 48) : mc M m (M + i) = some (mcl M m i) := by
  unfold mc
  rw [if_pos (by omega), Nat.add_sub_cancel_left]
theorem hp_rd (hB : hpo G B M) (m : mS) (i : Nat) (hi : i < 48) : zk_rd G (hp G B M m) (M + i) = some (mcl M m i) := ov_rd1 (by have := hB.1; omega) (by have := hB.2; omega) (mc_in hi)
theorem hp_out (m : mS) {a : Nat} (ha : a < M ∨ M + 48 ≤ a) : zk_rd G (hp G B M m) a = zk_rd G B a := by
  apply ov_rd0
  unfold mc
  rw [if_neg (by omega)]
theorem hp_wr (hB : hpo G B M) (m m' : mS) (i : Nat) (hi : i < 48) (h2 : ∀ j, j < 48 → j ≠ i → mcl M m' j = mcl M m j) : zk_wr G (hp G B M m) (M + i) (mcl M m' i) = hp G B M m' := by
  unfold hp
  rw [ov_wr (by have := hB.1; omega)]
  congr 1
  funext b
  unfold upo
  by_cases c : b = M + i
  · subst c; rw [if_pos rfl, mc_in hi]
  · rw [if_neg c]
    unfold mc
    by_cases c2 : M ≤ b ∧ b < M + 48
    · rw [if_pos c2, if_pos c2, h2 (b - M) (by omega) (by omega)]
    · rw [if_neg c2, if_neg c2]
theorem hp_og (hB : hpo G B M) (m : mS) (k : Nat) (hk : k < 56) (P : Value → Prop) : zk_og G (hp G B M m) M 9 k P ↔ P (mval M m k) := by
  have h1 := hp_rd hB m 0 (by decide)
  rw [Nat.add_zero] at h1
  have h2 : mcl M m 0 = .inr (9, (List.range 56).map (mval M m)) := rfl
  rw [h2] at h1
  rw [zk_og_f h1, List.getElem?_map, List.getElem?_range hk]
  rfl
theorem hp_ic (hB : hpo G B M) (m : mS) : zk_ic G (hp G B M m) M 9 ↔ True := by
  have h1 := hp_rd hB m 0 (by decide)
  rw [Nat.add_zero] at h1
  exact zk_ic_rd h1
theorem hp_op (hB : hpo G B M) (m : mS) (k : Nat) (hk : k < 56) (hf : mfa k = 0) (v : Int) (P : zk_H → Prop) : zk_op G (hp G B M m) M 9 k .int (.int (iz v)) P ↔ P (hp G B M (up m k 0 v)) := by
  have h1 := hp_rd hB m 0 (by decide)
  have h2 : mcl M m 0 = .inr (9, (List.range 56).map (mval M m)) := rfl
  have h3 : (Sum.inr (9, ((List.range 56).map (mval M m)).set k (.int (iz v))) : zk_E) = mcl M (up m k 0 v) 0 := by
    show _ = Sum.inr (9, (List.range 56).map (mval M (up m k 0 v)))
    congr 2
    apply List.ext_getElem?
    intro i
    by_cases hi : i < 56
    · rw [List.getElem?_set]
      by_cases c : k = i
      · subst c
        rw [if_pos rfl, if_pos (by simpa using hk), List.getElem?_map, List.getElem?_range hk]
        show some _ = some (mval M (up m k 0 v) k)
        unfold mval
        rw [if_pos hf, up_e]
      · rw [if_neg c, List.getElem?_map, List.getElem?_map, List.getElem?_range hi]
        show some _ = some _
        unfold mval
        rw [up_k _ _ _ _ (fun q => c q.symm)]
    · rw [List.getElem?_eq_none (by simp; omega), List.getElem?_eq_none (by simp; omega)]
  have h4 := hp_wr hB m (up m k 0 v) 0 (by decide) (fun j hj hj2 => by
    unfold mcl
    rw [if_neg hj2, if_neg hj2]
    have h5 := (mar_ok j (by omega) hj).1
    have h6 : (mar j).1 ≠ k := by rintro rfl; omega
    have h7 : up m k 0 v (mar j).1 = m (mar j).1 := by funext z; exact up_k _ _ _ _ h6
    rw [h7])
  rw [Nat.add_zero] at h1 h4
  rw [h2] at h1
  rw [zk_op_f h1, h3, h4]
  exact ⟨fun q => q.2.2, fun q => ⟨by simpa using hk, rfl, q⟩⟩
theorem mcl_up {m : mS} {i : Nat} {z v : Int} (hi : 1 ≤ i ∧ i < 48) (j : Nat) (hj : j < 48) (hji : j ≠ i) : mcl M (up m (mar i).1 z v) j = mcl M m j := by
  have h0 := (mar_ok i hi.1 hi.2).1
  by_cases c : j = 0
  · subst c
    show Sum.inr (9, (List.range 56).map (mval M (up m (mar i).1 z v))) = Sum.inr (9, (List.range 56).map (mval M m))
    congr 2
    apply List.map_congr_left
    intro k hk
    unfold mval
    by_cases c2 : mfa k = 0
    · rw [if_pos c2, if_pos c2, up_k _ _ _ _ (by rintro rfl; omega)]
    · rw [if_neg c2, if_neg c2]
  · unfold mcl
    rw [if_neg c, if_neg c]
    have h5 := (mar_ok j (by omega) hj).1
    have h6 : (mar j).1 ≠ (mar i).1 := by intro q; rw [q] at h5; omega
    have h7 : up m (mar i).1 z v (mar j).1 = m (mar j).1 := by funext z; exact up_k _ _ _ _ h6
    rw [h7]
theorem hp_ai (hB : hpo G B M) (m : mS) (i k n : Nat) (hi : 1 ≤ i ∧ i < 48) (he : mar i = (k, 0, n)) (z : Int) (hz : 0 ≤ z ∧ z < n) (P : Int32 → Prop) : zk_ai G (hp G B M m) (M + i) (iz z) P ↔ P (iz (m k z)) := by
  have h1 := zk_ar_rd (show zk_rd G (hp G B M m) (M + i) = some (.inl (0, n, .inl (fun x => iz (m k x)))) by
    rw [hp_rd hB m i hi.2]
    unfold mcl
    rw [if_neg (by omega), he]
    rfl)
  have h2 := (mar_ok i hi.1 hi.2).2.1
  rw [he] at h2
  dsimp only at h2
  rw [zk_ai_f h1, iz_toInt (by omega) (by omega)]
  have e : ((z.toNat : Nat) : Int) = z := by omega
  rw [e]
  exact ⟨And.right, fun q => ⟨hz, q⟩⟩
theorem hp_az (hB : hpo G B M) (m : mS) (i k n : Nat) (hi : 1 ≤ i ∧ i < 48) (he : mar i = (k, 2, n)) (z : Int) (hz : 0 ≤ z ∧ z < n) (P : Int32 → Prop) : zk_az G (hp G B M m) (M + i) (iz z) P ↔ P (iz (m k z)) := by
  have h1 : zk_rd G (hp G B M m) (M + i) = some (.inl (2, n, .inl (fun x => iz (m k x)))) := by
    rw [hp_rd hB m i hi.2]
    unfold mcl
    rw [if_neg (by omega), he]
    rfl
  have h2 := (mar_ok i hi.1 hi.2).2.1
  rw [he] at h2
  dsimp only at h2
  rw [zk_az_f h1, iz_toInt (by omega) (by omega)]
  have e : ((z.toNat : Nat) : Int) = z := by omega
  rw [e]
  exact ⟨And.right, fun q => ⟨hz, q⟩⟩
theorem hp_aj (hB : hpo G B M) (m : mS) (i k n : Nat) (hi : 1 ≤ i ∧ i < 48) (he : mar i = (k, 1, n)) (z : Int) (hz : 0 ≤ z ∧ z < n) (P : Int64 → Prop) : zk_aj G (hp G B M m) (M + i) (iz z) P ↔ P (lz (m k z)) := by
  have h1 := zk_ar_rd (show zk_rd G (hp G B M m) (M + i) = some (.inl (1, n, .inr (.inl (fun x => lz (m k x))))) by
    rw [hp_rd hB m i hi.2]
    unfold mcl
    rw [if_neg (by omega), he]
    rfl)
  have h2 := (mar_ok i hi.1 hi.2).2.1
  rw [he] at h2
  dsimp only at h2
  rw [zk_aj_f h1, iz_toInt (by omega) (by omega)]
  have e : ((z.toNat : Nat) : Int) = z := by omega
  rw [e]
  exact ⟨And.right, fun q => ⟨hz, q⟩⟩
theorem upd_up (m : mS) (k : Nat) {z v : Int} (hz : 0 ≤ z) : upd (fun x : Nat => iz (m k x)) z.toNat (iz v) = fun x : Nat => iz (up m k z v k x) := by
  funext x
  rw [upd_ap, up_z]
  by_cases c : x = z.toNat
  · rw [if_pos c, if_pos (by omega)]
  · rw [if_neg c, if_neg (by omega)]
theorem updL_up (m : mS) (k : Nat) {z v : Int} (hz : 0 ≤ z) : vp_updL (fun x : Nat => lz (m k x)) z.toNat (lz v) = fun x : Nat => lz (up m k z v k x) := by
  funext x
  unfold vp_updL
  rw [up_z]
  by_cases c : x = z.toNat
  · rw [if_pos c, if_pos (by omega)]
  · rw [if_neg c, if_neg (by omega)]
theorem hp_si (hB : hpo G B M) (m : mS) (i k n : Nat) (hi : 1 ≤ i ∧ i < 48) (he : mar i = (k, 0, n)) (z v : Int) (hz : 0 ≤ z ∧ z < n) (P : zk_H → Prop) : zk_si G (hp G B M m) (M + i) (iz z) (iz v) P ↔ P (hp G B M (up m k z v)) := by
  have h1 : zk_rd G (hp G B M m) (M + i) = some (.inl (0, n, .inl (fun x => iz (m k x)))) := by
    rw [hp_rd hB m i hi.2]
    unfold mcl
    rw [if_neg (by omega), he]
    rfl
  have h2 := (mar_ok i hi.1 hi.2).2.1
  rw [he] at h2
  dsimp only at h2
  have h3 := hp_wr hB m (up m k z v) i hi.2 (fun j hj hji => by have := mcl_up (M := M) (m := m) (z := z) (v := v) hi j hj hji; rw [he] at this; exact this)
  have h4 : mcl M (up m k z v) i = .inl (0, n, .inl (fun x => iz (up m k z v k x))) := by
    unfold mcl
    rw [if_neg (by omega), he]
    rfl
  rw [zk_si_f h1, iz_toInt (by omega) (by omega), upd_up m k hz.1, ← h4, h3]
  exact ⟨And.right, fun q => ⟨hz, q⟩⟩
theorem hp_sz (hB : hpo G B M) (m : mS) (i k n : Nat) (hi : 1 ≤ i ∧ i < 48) (he : mar i = (k, 2, n)) (z v : Int) (hz : 0 ≤ z ∧ z < n) (hv : v = 0 ∨ v = 1) (P : zk_H → Prop) : zk_sz1 G (hp G B M m) (M + i) (iz z) (iz v) P ↔ P (hp G B M (up m k z v)) := by
  have h1 : zk_rd G (hp G B M m) (M + i) = some (.inl (2, n, .inl (fun x => iz (m k x)))) := by
    rw [hp_rd hB m i hi.2]
    unfold mcl
    rw [if_neg (by omega), he]
    rfl
  have h2 := (mar_ok i hi.1 hi.2).2.1
  rw [he] at h2
  dsimp only at h2
  have h3 := hp_wr hB m (up m k z v) i hi.2 (fun j hj hji => by have := mcl_up (M := M) (m := m) (z := z) (v := v) hi j hj hji; rw [he] at this; exact this)
  have h4 : mcl M (up m k z v) i = .inl (2, n, .inl (fun x => iz (up m k z v k x))) := by
    unfold mcl
    rw [if_neg (by omega), he]
    rfl
  rw [zk_sz_f h1, iz_toInt (by omega) (by omega), upd_up m k hz.1, ← h4, h3]
  refine ⟨fun q => q.2.2, fun q => ⟨hz, ?_, q⟩⟩
  rcases hv with rfl | rfl
  · exact Or.inl rfl
  · exact Or.inr rfl
theorem hp_sl (hB : hpo G B M) (m : mS) (i k n : Nat) (hi : 1 ≤ i ∧ i < 48) (he : mar i = (k, 1, n)) (z v : Int) (hz : 0 ≤ z ∧ z < n) (P : zk_H → Prop) : zk_sl1 G (hp G B M m) (M + i) (iz z) (lz v) P ↔ P (hp G B M (up m k z v)) := by
  have h1 : zk_rd G (hp G B M m) (M + i) = some (.inl (1, n, .inr (.inl (fun x => lz (m k x))))) := by
    rw [hp_rd hB m i hi.2]
    unfold mcl
    rw [if_neg (by omega), he]
    rfl
  have h2 := (mar_ok i hi.1 hi.2).2.1
  rw [he] at h2
  dsimp only at h2
  have h3 := hp_wr hB m (up m k z v) i hi.2 (fun j hj hji => by have := mcl_up (M := M) (m := m) (z := z) (v := v) hi j hj hji; rw [he] at this; exact this)
  have h4 : mcl M (up m k z v) i = .inl (1, n, .inr (.inl (fun x => lz (up m k z v k x)))) := by
    unfold mcl
    rw [if_neg (by omega), he]
    rfl
  rw [zk_sl_f h1, iz_toInt (by omega) (by omega), updL_up m k hz.1, ← h4, h3]
  exact ⟨And.right, fun q => ⟨hz, q⟩⟩
theorem mg_0 (hB : hpo G B M) (m : mS) (P : Value → Prop) : zk_og G (hp G B M m) M 9 0 P ↔ P (.int (iz (m 0 0))) := hp_og hB m 0 (by decide) P
theorem mw_0 (hB : hpo G B M) (m : mS) (v : Int) (P : zk_H → Prop) : zk_op G (hp G B M m) M 9 0 .int (.int (iz v)) P ↔ P (hp G B M (up m 0 0 v)) := hp_op hB m 0 (by decide) (by decide) v P
theorem mg_1 (hB : hpo G B M) (m : mS) (P : Value → Prop) : zk_og G (hp G B M m) M 9 1 P ↔ P (.int (iz (m 1 0))) := hp_og hB m 1 (by decide) P
theorem mw_1 (hB : hpo G B M) (m : mS) (v : Int) (P : zk_H → Prop) : zk_op G (hp G B M m) M 9 1 .int (.int (iz v)) P ↔ P (hp G B M (up m 1 0 v)) := hp_op hB m 1 (by decide) (by decide) v P
theorem mg_2 (hB : hpo G B M) (m : mS) (P : Value → Prop) : zk_og G (hp G B M m) M 9 2 P ↔ P (.ref (M + 1)) := hp_og hB m 2 (by decide) P
theorem mr_2 (hB : hpo G B M) (m : mS) (z : Int) (hz : 0 ≤ z ∧ z < 3) (P : Int32 → Prop) : zk_ai G (hp G B M m) (M + 1) (iz z) P ↔ P (iz (m 2 z)) := hp_ai hB m 1 2 3 (by decide) rfl z hz P
theorem mw_2 (hB : hpo G B M) (m : mS) (z v : Int) (hz : 0 ≤ z ∧ z < 3) (P : zk_H → Prop) : zk_si G (hp G B M m) (M + 1) (iz z) (iz v) P ↔ P (hp G B M (up m 2 z v)) := hp_si hB m 1 2 3 (by decide) rfl z v hz P
theorem mg_3 (hB : hpo G B M) (m : mS) (P : Value → Prop) : zk_og G (hp G B M m) M 9 3 P ↔ P (.ref (M + 2)) := hp_og hB m 3 (by decide) P
theorem mr_3 (hB : hpo G B M) (m : mS) (z : Int) (hz : 0 ≤ z ∧ z < 30) (P : Int32 → Prop) : zk_ai G (hp G B M m) (M + 2) (iz z) P ↔ P (iz (m 3 z)) := hp_ai hB m 2 3 30 (by decide) rfl z hz P
theorem mw_3 (hB : hpo G B M) (m : mS) (z v : Int) (hz : 0 ≤ z ∧ z < 30) (P : zk_H → Prop) : zk_si G (hp G B M m) (M + 2) (iz z) (iz v) P ↔ P (hp G B M (up m 3 z v)) := hp_si hB m 2 3 30 (by decide) rfl z v hz P
theorem mg_4 (hB : hpo G B M) (m : mS) (P : Value → Prop) : zk_og G (hp G B M m) M 9 4 P ↔ P (.ref (M + 3)) := hp_og hB m 4 (by decide) P
theorem mr_4 (hB : hpo G B M) (m : mS) (z : Int) (hz : 0 ≤ z ∧ z < 30) (P : Int32 → Prop) : zk_ai G (hp G B M m) (M + 3) (iz z) P ↔ P (iz (m 4 z)) := hp_ai hB m 3 4 30 (by decide) rfl z hz P
theorem mw_4 (hB : hpo G B M) (m : mS) (z v : Int) (hz : 0 ≤ z ∧ z < 30) (P : zk_H → Prop) : zk_si G (hp G B M m) (M + 3) (iz z) (iz v) P ↔ P (hp G B M (up m 4 z v)) := hp_si hB m 3 4 30 (by decide) rfl z v hz P
theorem mg_5 (hB : hpo G B M) (m : mS) (P : Value → Prop) : zk_og G (hp G B M m) M 9 5 P ↔ P (.ref (M + 4)) := hp_og hB m 5 (by decide) P
theorem mr_5 (hB : hpo G B M) (m : mS) (z : Int) (hz : 0 ≤ z ∧ z < 3) (P : Int32 → Prop) : zk_ai G (hp G B M m) (M + 4) (iz z) P ↔ P (iz (m 5 z)) := hp_ai hB m 4 5 3 (by decide) rfl z hz P
theorem mw_5 (hB : hpo G B M) (m : mS) (z v : Int) (hz : 0 ≤ z ∧ z < 3) (P : zk_H → Prop) : zk_si G (hp G B M m) (M + 4) (iz z) (iz v) P ↔ P (hp G B M (up m 5 z v)) := hp_si hB m 4 5 3 (by decide) rfl z v hz P
theorem mg_6 (hB : hpo G B M) (m : mS) (P : Value → Prop) : zk_og G (hp G B M m) M 9 6 P ↔ P (.ref (M + 5)) := hp_og hB m 6 (by decide) P
theorem mr_6 (hB : hpo G B M) (m : mS) (z : Int) (hz : 0 ≤ z ∧ z < 60) (P : Int32 → Prop) : zk_ai G (hp G B M m) (M + 5) (iz z) P ↔ P (iz (m 6 z)) := hp_ai hB m 5 6 60 (by decide) rfl z hz P
theorem mw_6 (hB : hpo G B M) (m : mS) (z v : Int) (hz : 0 ≤ z ∧ z < 60) (P : zk_H → Prop) : zk_si G (hp G B M m) (M + 5) (iz z) (iz v) P ↔ P (hp G B M (up m 6 z v)) := hp_si hB m 5 6 60 (by decide) rfl z v hz P
theorem mg_7 (hB : hpo G B M) (m : mS) (P : Value → Prop) : zk_og G (hp G B M m) M 9 7 P ↔ P (.int (iz (m 7 0))) := hp_og hB m 7 (by decide) P
theorem mw_7 (hB : hpo G B M) (m : mS) (v : Int) (P : zk_H → Prop) : zk_op G (hp G B M m) M 9 7 .int (.int (iz v)) P ↔ P (hp G B M (up m 7 0 v)) := hp_op hB m 7 (by decide) (by decide) v P
theorem mg_8 (hB : hpo G B M) (m : mS) (P : Value → Prop) : zk_og G (hp G B M m) M 9 8 P ↔ P (.int (iz (m 8 0))) := hp_og hB m 8 (by decide) P
theorem mw_8 (hB : hpo G B M) (m : mS) (v : Int) (P : zk_H → Prop) : zk_op G (hp G B M m) M 9 8 .int (.int (iz v)) P ↔ P (hp G B M (up m 8 0 v)) := hp_op hB m 8 (by decide) (by decide) v P
theorem mg_9 (hB : hpo G B M) (m : mS) (P : Value → Prop) : zk_og G (hp G B M m) M 9 9 P ↔ P (.int (iz (m 9 0))) := hp_og hB m 9 (by decide) P
theorem mw_9 (hB : hpo G B M) (m : mS) (v : Int) (P : zk_H → Prop) : zk_op G (hp G B M m) M 9 9 .int (.int (iz v)) P ↔ P (hp G B M (up m 9 0 v)) := hp_op hB m 9 (by decide) (by decide) v P
theorem mg_10 (hB : hpo G B M) (m : mS) (P : Value → Prop) : zk_og G (hp G B M m) M 9 10 P ↔ P (.int (iz (m 10 0))) := hp_og hB m 10 (by decide) P
theorem mw_10 (hB : hpo G B M) (m : mS) (v : Int) (P : zk_H → Prop) : zk_op G (hp G B M m) M 9 10 .int (.int (iz v)) P ↔ P (hp G B M (up m 10 0 v)) := hp_op hB m 10 (by decide) (by decide) v P
theorem mg_11 (hB : hpo G B M) (m : mS) (P : Value → Prop) : zk_og G (hp G B M m) M 9 11 P ↔ P (.ref (M + 6)) := hp_og hB m 11 (by decide) P
theorem mr_11 (hB : hpo G B M) (m : mS) (z : Int) (hz : 0 ≤ z ∧ z < 12) (P : Int32 → Prop) : zk_ai G (hp G B M m) (M + 6) (iz z) P ↔ P (iz (m 11 z)) := hp_ai hB m 6 11 12 (by decide) rfl z hz P
theorem mw_11 (hB : hpo G B M) (m : mS) (z v : Int) (hz : 0 ≤ z ∧ z < 12) (P : zk_H → Prop) : zk_si G (hp G B M m) (M + 6) (iz z) (iz v) P ↔ P (hp G B M (up m 11 z v)) := hp_si hB m 6 11 12 (by decide) rfl z v hz P
theorem mg_12 (hB : hpo G B M) (m : mS) (P : Value → Prop) : zk_og G (hp G B M m) M 9 12 P ↔ P (.ref (M + 7)) := hp_og hB m 12 (by decide) P
theorem mr_12 (hB : hpo G B M) (m : mS) (z : Int) (hz : 0 ≤ z ∧ z < 12) (P : Int64 → Prop) : zk_aj G (hp G B M m) (M + 7) (iz z) P ↔ P (lz (m 12 z)) := hp_aj hB m 7 12 12 (by decide) rfl z hz P
theorem mw_12 (hB : hpo G B M) (m : mS) (z v : Int) (hz : 0 ≤ z ∧ z < 12) (P : zk_H → Prop) : zk_sl1 G (hp G B M m) (M + 7) (iz z) (lz v) P ↔ P (hp G B M (up m 12 z v)) := hp_sl hB m 7 12 12 (by decide) rfl z v hz P
theorem mg_13 (hB : hpo G B M) (m : mS) (P : Value → Prop) : zk_og G (hp G B M m) M 9 13 P ↔ P (.ref (M + 8)) := hp_og hB m 13 (by decide) P
theorem mr_13 (hB : hpo G B M) (m : mS) (z : Int) (hz : 0 ≤ z ∧ z < 12) (P : Int32 → Prop) : zk_ai G (hp G B M m) (M + 8) (iz z) P ↔ P (iz (m 13 z)) := hp_ai hB m 8 13 12 (by decide) rfl z hz P
theorem mw_13 (hB : hpo G B M) (m : mS) (z v : Int) (hz : 0 ≤ z ∧ z < 12) (P : zk_H → Prop) : zk_si G (hp G B M m) (M + 8) (iz z) (iz v) P ↔ P (hp G B M (up m 13 z v)) := hp_si hB m 8 13 12 (by decide) rfl z v hz P
theorem mg_14 (hB : hpo G B M) (m : mS) (P : Value → Prop) : zk_og G (hp G B M m) M 9 14 P ↔ P (.ref (M + 9)) := hp_og hB m 14 (by decide) P
theorem mr_14 (hB : hpo G B M) (m : mS) (z : Int) (hz : 0 ≤ z ∧ z < 12) (P : Int64 → Prop) : zk_aj G (hp G B M m) (M + 9) (iz z) P ↔ P (lz (m 14 z)) := hp_aj hB m 9 14 12 (by decide) rfl z hz P
theorem mw_14 (hB : hpo G B M) (m : mS) (z v : Int) (hz : 0 ≤ z ∧ z < 12) (P : zk_H → Prop) : zk_sl1 G (hp G B M m) (M + 9) (iz z) (lz v) P ↔ P (hp G B M (up m 14 z v)) := hp_sl hB m 9 14 12 (by decide) rfl z v hz P
theorem mg_15 (hB : hpo G B M) (m : mS) (P : Value → Prop) : zk_og G (hp G B M m) M 9 15 P ↔ P (.ref (M + 10)) := hp_og hB m 15 (by decide) P
theorem mr_15 (hB : hpo G B M) (m : mS) (z : Int) (hz : 0 ≤ z ∧ z < 12) (P : Int32 → Prop) : zk_ai G (hp G B M m) (M + 10) (iz z) P ↔ P (iz (m 15 z)) := hp_ai hB m 10 15 12 (by decide) rfl z hz P
theorem mw_15 (hB : hpo G B M) (m : mS) (z v : Int) (hz : 0 ≤ z ∧ z < 12) (P : zk_H → Prop) : zk_si G (hp G B M m) (M + 10) (iz z) (iz v) P ↔ P (hp G B M (up m 15 z v)) := hp_si hB m 10 15 12 (by decide) rfl z v hz P
theorem mg_16 (hB : hpo G B M) (m : mS) (P : Value → Prop) : zk_og G (hp G B M m) M 9 16 P ↔ P (.ref (M + 11)) := hp_og hB m 16 (by decide) P
theorem mr_16 (hB : hpo G B M) (m : mS) (z : Int) (hz : 0 ≤ z ∧ z < 12) (P : Int32 → Prop) : zk_ai G (hp G B M m) (M + 11) (iz z) P ↔ P (iz (m 16 z)) := hp_ai hB m 11 16 12 (by decide) rfl z hz P
theorem mw_16 (hB : hpo G B M) (m : mS) (z v : Int) (hz : 0 ≤ z ∧ z < 12) (P : zk_H → Prop) : zk_si G (hp G B M m) (M + 11) (iz z) (iz v) P ↔ P (hp G B M (up m 16 z v)) := hp_si hB m 11 16 12 (by decide) rfl z v hz P
theorem mg_17 (hB : hpo G B M) (m : mS) (P : Value → Prop) : zk_og G (hp G B M m) M 9 17 P ↔ P (.ref (M + 12)) := hp_og hB m 17 (by decide) P
theorem mr_17 (hB : hpo G B M) (m : mS) (z : Int) (hz : 0 ≤ z ∧ z < 12) (P : Int32 → Prop) : zk_ai G (hp G B M m) (M + 12) (iz z) P ↔ P (iz (m 17 z)) := hp_ai hB m 12 17 12 (by decide) rfl z hz P
theorem mw_17 (hB : hpo G B M) (m : mS) (z v : Int) (hz : 0 ≤ z ∧ z < 12) (P : zk_H → Prop) : zk_si G (hp G B M m) (M + 12) (iz z) (iz v) P ↔ P (hp G B M (up m 17 z v)) := hp_si hB m 12 17 12 (by decide) rfl z v hz P
theorem mg_18 (hB : hpo G B M) (m : mS) (P : Value → Prop) : zk_og G (hp G B M m) M 9 18 P ↔ P (.ref (M + 13)) := hp_og hB m 18 (by decide) P
theorem mr_18 (hB : hpo G B M) (m : mS) (z : Int) (hz : 0 ≤ z ∧ z < 36) (P : Int32 → Prop) : zk_ai G (hp G B M m) (M + 13) (iz z) P ↔ P (iz (m 18 z)) := hp_ai hB m 13 18 36 (by decide) rfl z hz P
theorem mw_18 (hB : hpo G B M) (m : mS) (z v : Int) (hz : 0 ≤ z ∧ z < 36) (P : zk_H → Prop) : zk_si G (hp G B M m) (M + 13) (iz z) (iz v) P ↔ P (hp G B M (up m 18 z v)) := hp_si hB m 13 18 36 (by decide) rfl z v hz P
theorem mg_19 (hB : hpo G B M) (m : mS) (P : Value → Prop) : zk_og G (hp G B M m) M 9 19 P ↔ P (.ref (M + 14)) := hp_og hB m 19 (by decide) P
theorem mr_19 (hB : hpo G B M) (m : mS) (z : Int) (hz : 0 ≤ z ∧ z < 36) (P : Int32 → Prop) : zk_ai G (hp G B M m) (M + 14) (iz z) P ↔ P (iz (m 19 z)) := hp_ai hB m 14 19 36 (by decide) rfl z hz P
theorem mw_19 (hB : hpo G B M) (m : mS) (z v : Int) (hz : 0 ≤ z ∧ z < 36) (P : zk_H → Prop) : zk_si G (hp G B M m) (M + 14) (iz z) (iz v) P ↔ P (hp G B M (up m 19 z v)) := hp_si hB m 14 19 36 (by decide) rfl z v hz P
theorem mg_20 (hB : hpo G B M) (m : mS) (P : Value → Prop) : zk_og G (hp G B M m) M 9 20 P ↔ P (.ref (M + 15)) := hp_og hB m 20 (by decide) P
theorem mr_20 (hB : hpo G B M) (m : mS) (z : Int) (hz : 0 ≤ z ∧ z < 12) (P : Int32 → Prop) : zk_ai G (hp G B M m) (M + 15) (iz z) P ↔ P (iz (m 20 z)) := hp_ai hB m 15 20 12 (by decide) rfl z hz P
theorem mw_20 (hB : hpo G B M) (m : mS) (z v : Int) (hz : 0 ≤ z ∧ z < 12) (P : zk_H → Prop) : zk_si G (hp G B M m) (M + 15) (iz z) (iz v) P ↔ P (hp G B M (up m 20 z v)) := hp_si hB m 15 20 12 (by decide) rfl z v hz P
theorem mg_21 (hB : hpo G B M) (m : mS) (P : Value → Prop) : zk_og G (hp G B M m) M 9 21 P ↔ P (.ref (M + 16)) := hp_og hB m 21 (by decide) P
theorem mr_21 (hB : hpo G B M) (m : mS) (z : Int) (hz : 0 ≤ z ∧ z < 72) (P : Int32 → Prop) : zk_ai G (hp G B M m) (M + 16) (iz z) P ↔ P (iz (m 21 z)) := hp_ai hB m 16 21 72 (by decide) rfl z hz P
theorem mw_21 (hB : hpo G B M) (m : mS) (z v : Int) (hz : 0 ≤ z ∧ z < 72) (P : zk_H → Prop) : zk_si G (hp G B M m) (M + 16) (iz z) (iz v) P ↔ P (hp G B M (up m 21 z v)) := hp_si hB m 16 21 72 (by decide) rfl z v hz P
theorem mg_22 (hB : hpo G B M) (m : mS) (P : Value → Prop) : zk_og G (hp G B M m) M 9 22 P ↔ P (.ref (M + 17)) := hp_og hB m 22 (by decide) P
theorem mr_22 (hB : hpo G B M) (m : mS) (z : Int) (hz : 0 ≤ z ∧ z < 12) (P : Int32 → Prop) : zk_ai G (hp G B M m) (M + 17) (iz z) P ↔ P (iz (m 22 z)) := hp_ai hB m 17 22 12 (by decide) rfl z hz P
theorem mw_22 (hB : hpo G B M) (m : mS) (z v : Int) (hz : 0 ≤ z ∧ z < 12) (P : zk_H → Prop) : zk_si G (hp G B M m) (M + 17) (iz z) (iz v) P ↔ P (hp G B M (up m 22 z v)) := hp_si hB m 17 22 12 (by decide) rfl z v hz P
theorem mg_23 (hB : hpo G B M) (m : mS) (P : Value → Prop) : zk_og G (hp G B M m) M 9 23 P ↔ P (.ref (M + 18)) := hp_og hB m 23 (by decide) P
theorem mr_23 (hB : hpo G B M) (m : mS) (z : Int) (hz : 0 ≤ z ∧ z < 12) (P : Int32 → Prop) : zk_ai G (hp G B M m) (M + 18) (iz z) P ↔ P (iz (m 23 z)) := hp_ai hB m 18 23 12 (by decide) rfl z hz P
theorem mw_23 (hB : hpo G B M) (m : mS) (z v : Int) (hz : 0 ≤ z ∧ z < 12) (P : zk_H → Prop) : zk_si G (hp G B M m) (M + 18) (iz z) (iz v) P ↔ P (hp G B M (up m 23 z v)) := hp_si hB m 18 23 12 (by decide) rfl z v hz P
theorem mg_24 (hB : hpo G B M) (m : mS) (P : Value → Prop) : zk_og G (hp G B M m) M 9 24 P ↔ P (.ref (M + 19)) := hp_og hB m 24 (by decide) P
theorem mr_24 (hB : hpo G B M) (m : mS) (z : Int) (hz : 0 ≤ z ∧ z < 12) (P : Int32 → Prop) : zk_ai G (hp G B M m) (M + 19) (iz z) P ↔ P (iz (m 24 z)) := hp_ai hB m 19 24 12 (by decide) rfl z hz P
theorem mw_24 (hB : hpo G B M) (m : mS) (z v : Int) (hz : 0 ≤ z ∧ z < 12) (P : zk_H → Prop) : zk_si G (hp G B M m) (M + 19) (iz z) (iz v) P ↔ P (hp G B M (up m 24 z v)) := hp_si hB m 19 24 12 (by decide) rfl z v hz P
theorem mg_25 (hB : hpo G B M) (m : mS) (P : Value → Prop) : zk_og G (hp G B M m) M 9 25 P ↔ P (.ref (M + 20)) := hp_og hB m 25 (by decide) P
theorem mr_25 (hB : hpo G B M) (m : mS) (z : Int) (hz : 0 ≤ z ∧ z < 12) (P : Int32 → Prop) : zk_az G (hp G B M m) (M + 20) (iz z) P ↔ P (iz (m 25 z)) := hp_az hB m 20 25 12 (by decide) rfl z hz P
theorem mw_25 (hB : hpo G B M) (m : mS) (z v : Int) (hz : 0 ≤ z ∧ z < 12) (hv : v = 0 ∨ v = 1) (P : zk_H → Prop) : zk_sz1 G (hp G B M m) (M + 20) (iz z) (iz v) P ↔ P (hp G B M (up m 25 z v)) := hp_sz hB m 20 25 12 (by decide) rfl z v hz hv P
theorem mg_26 (hB : hpo G B M) (m : mS) (P : Value → Prop) : zk_og G (hp G B M m) M 9 26 P ↔ P (.ref (M + 21)) := hp_og hB m 26 (by decide) P
theorem mr_26 (hB : hpo G B M) (m : mS) (z : Int) (hz : 0 ≤ z ∧ z < 12) (P : Int32 → Prop) : zk_ai G (hp G B M m) (M + 21) (iz z) P ↔ P (iz (m 26 z)) := hp_ai hB m 21 26 12 (by decide) rfl z hz P
theorem mw_26 (hB : hpo G B M) (m : mS) (z v : Int) (hz : 0 ≤ z ∧ z < 12) (P : zk_H → Prop) : zk_si G (hp G B M m) (M + 21) (iz z) (iz v) P ↔ P (hp G B M (up m 26 z v)) := hp_si hB m 21 26 12 (by decide) rfl z v hz P
theorem mg_27 (hB : hpo G B M) (m : mS) (P : Value → Prop) : zk_og G (hp G B M m) M 9 27 P ↔ P (.ref (M + 22)) := hp_og hB m 27 (by decide) P
theorem mr_27 (hB : hpo G B M) (m : mS) (z : Int) (hz : 0 ≤ z ∧ z < 36) (P : Int32 → Prop) : zk_ai G (hp G B M m) (M + 22) (iz z) P ↔ P (iz (m 27 z)) := hp_ai hB m 22 27 36 (by decide) rfl z hz P
theorem mw_27 (hB : hpo G B M) (m : mS) (z v : Int) (hz : 0 ≤ z ∧ z < 36) (P : zk_H → Prop) : zk_si G (hp G B M m) (M + 22) (iz z) (iz v) P ↔ P (hp G B M (up m 27 z v)) := hp_si hB m 22 27 36 (by decide) rfl z v hz P
theorem mg_28 (hB : hpo G B M) (m : mS) (P : Value → Prop) : zk_og G (hp G B M m) M 9 28 P ↔ P (.ref (M + 23)) := hp_og hB m 28 (by decide) P
theorem mr_28 (hB : hpo G B M) (m : mS) (z : Int) (hz : 0 ≤ z ∧ z < 12) (P : Int32 → Prop) : zk_ai G (hp G B M m) (M + 23) (iz z) P ↔ P (iz (m 28 z)) := hp_ai hB m 23 28 12 (by decide) rfl z hz P
theorem mw_28 (hB : hpo G B M) (m : mS) (z v : Int) (hz : 0 ≤ z ∧ z < 12) (P : zk_H → Prop) : zk_si G (hp G B M m) (M + 23) (iz z) (iz v) P ↔ P (hp G B M (up m 28 z v)) := hp_si hB m 23 28 12 (by decide) rfl z v hz P
theorem mg_29 (hB : hpo G B M) (m : mS) (P : Value → Prop) : zk_og G (hp G B M m) M 9 29 P ↔ P (.ref (M + 24)) := hp_og hB m 29 (by decide) P
theorem mr_29 (hB : hpo G B M) (m : mS) (z : Int) (hz : 0 ≤ z ∧ z < 96) (P : Int32 → Prop) : zk_ai G (hp G B M m) (M + 24) (iz z) P ↔ P (iz (m 29 z)) := hp_ai hB m 24 29 96 (by decide) rfl z hz P
theorem mw_29 (hB : hpo G B M) (m : mS) (z v : Int) (hz : 0 ≤ z ∧ z < 96) (P : zk_H → Prop) : zk_si G (hp G B M m) (M + 24) (iz z) (iz v) P ↔ P (hp G B M (up m 29 z v)) := hp_si hB m 24 29 96 (by decide) rfl z v hz P
theorem mg_30 (hB : hpo G B M) (m : mS) (P : Value → Prop) : zk_og G (hp G B M m) M 9 30 P ↔ P (.ref (M + 25)) := hp_og hB m 30 (by decide) P
theorem mr_30 (hB : hpo G B M) (m : mS) (z : Int) (hz : 0 ≤ z ∧ z < 36) (P : Int32 → Prop) : zk_ai G (hp G B M m) (M + 25) (iz z) P ↔ P (iz (m 30 z)) := hp_ai hB m 25 30 36 (by decide) rfl z hz P
theorem mw_30 (hB : hpo G B M) (m : mS) (z v : Int) (hz : 0 ≤ z ∧ z < 36) (P : zk_H → Prop) : zk_si G (hp G B M m) (M + 25) (iz z) (iz v) P ↔ P (hp G B M (up m 30 z v)) := hp_si hB m 25 30 36 (by decide) rfl z v hz P
theorem mg_31 (hB : hpo G B M) (m : mS) (P : Value → Prop) : zk_og G (hp G B M m) M 9 31 P ↔ P (.ref (M + 26)) := hp_og hB m 31 (by decide) P
theorem mr_31 (hB : hpo G B M) (m : mS) (z : Int) (hz : 0 ≤ z ∧ z < 36) (P : Int32 → Prop) : zk_ai G (hp G B M m) (M + 26) (iz z) P ↔ P (iz (m 31 z)) := hp_ai hB m 26 31 36 (by decide) rfl z hz P
theorem mw_31 (hB : hpo G B M) (m : mS) (z v : Int) (hz : 0 ≤ z ∧ z < 36) (P : zk_H → Prop) : zk_si G (hp G B M m) (M + 26) (iz z) (iz v) P ↔ P (hp G B M (up m 31 z v)) := hp_si hB m 26 31 36 (by decide) rfl z v hz P
theorem mg_32 (hB : hpo G B M) (m : mS) (P : Value → Prop) : zk_og G (hp G B M m) M 9 32 P ↔ P (.ref (M + 27)) := hp_og hB m 32 (by decide) P
theorem mr_32 (hB : hpo G B M) (m : mS) (z : Int) (hz : 0 ≤ z ∧ z < 36) (P : Int32 → Prop) : zk_ai G (hp G B M m) (M + 27) (iz z) P ↔ P (iz (m 32 z)) := hp_ai hB m 27 32 36 (by decide) rfl z hz P
theorem mw_32 (hB : hpo G B M) (m : mS) (z v : Int) (hz : 0 ≤ z ∧ z < 36) (P : zk_H → Prop) : zk_si G (hp G B M m) (M + 27) (iz z) (iz v) P ↔ P (hp G B M (up m 32 z v)) := hp_si hB m 27 32 36 (by decide) rfl z v hz P
theorem mg_33 (hB : hpo G B M) (m : mS) (P : Value → Prop) : zk_og G (hp G B M m) M 9 33 P ↔ P (.ref (M + 28)) := hp_og hB m 33 (by decide) P
theorem mr_33 (hB : hpo G B M) (m : mS) (z : Int) (hz : 0 ≤ z ∧ z < 36) (P : Int32 → Prop) : zk_ai G (hp G B M m) (M + 28) (iz z) P ↔ P (iz (m 33 z)) := hp_ai hB m 28 33 36 (by decide) rfl z hz P
theorem mw_33 (hB : hpo G B M) (m : mS) (z v : Int) (hz : 0 ≤ z ∧ z < 36) (P : zk_H → Prop) : zk_si G (hp G B M m) (M + 28) (iz z) (iz v) P ↔ P (hp G B M (up m 33 z v)) := hp_si hB m 28 33 36 (by decide) rfl z v hz P
theorem mg_34 (hB : hpo G B M) (m : mS) (P : Value → Prop) : zk_og G (hp G B M m) M 9 34 P ↔ P (.ref (M + 29)) := hp_og hB m 34 (by decide) P
theorem mr_34 (hB : hpo G B M) (m : mS) (z : Int) (hz : 0 ≤ z ∧ z < 36) (P : Int32 → Prop) : zk_ai G (hp G B M m) (M + 29) (iz z) P ↔ P (iz (m 34 z)) := hp_ai hB m 29 34 36 (by decide) rfl z hz P
theorem mw_34 (hB : hpo G B M) (m : mS) (z v : Int) (hz : 0 ≤ z ∧ z < 36) (P : zk_H → Prop) : zk_si G (hp G B M m) (M + 29) (iz z) (iz v) P ↔ P (hp G B M (up m 34 z v)) := hp_si hB m 29 34 36 (by decide) rfl z v hz P
theorem mg_35 (hB : hpo G B M) (m : mS) (P : Value → Prop) : zk_og G (hp G B M m) M 9 35 P ↔ P (.ref (M + 30)) := hp_og hB m 35 (by decide) P
theorem mr_35 (hB : hpo G B M) (m : mS) (z : Int) (hz : 0 ≤ z ∧ z < 36) (P : Int32 → Prop) : zk_ai G (hp G B M m) (M + 30) (iz z) P ↔ P (iz (m 35 z)) := hp_ai hB m 30 35 36 (by decide) rfl z hz P
theorem mw_35 (hB : hpo G B M) (m : mS) (z v : Int) (hz : 0 ≤ z ∧ z < 36) (P : zk_H → Prop) : zk_si G (hp G B M m) (M + 30) (iz z) (iz v) P ↔ P (hp G B M (up m 35 z v)) := hp_si hB m 30 35 36 (by decide) rfl z v hz P
theorem mg_36 (hB : hpo G B M) (m : mS) (P : Value → Prop) : zk_og G (hp G B M m) M 9 36 P ↔ P (.ref (M + 31)) := hp_og hB m 36 (by decide) P
theorem mr_36 (hB : hpo G B M) (m : mS) (z : Int) (hz : 0 ≤ z ∧ z < 36) (P : Int32 → Prop) : zk_ai G (hp G B M m) (M + 31) (iz z) P ↔ P (iz (m 36 z)) := hp_ai hB m 31 36 36 (by decide) rfl z hz P
theorem mw_36 (hB : hpo G B M) (m : mS) (z v : Int) (hz : 0 ≤ z ∧ z < 36) (P : zk_H → Prop) : zk_si G (hp G B M m) (M + 31) (iz z) (iz v) P ↔ P (hp G B M (up m 36 z v)) := hp_si hB m 31 36 36 (by decide) rfl z v hz P
theorem mg_37 (hB : hpo G B M) (m : mS) (P : Value → Prop) : zk_og G (hp G B M m) M 9 37 P ↔ P (.ref (M + 32)) := hp_og hB m 37 (by decide) P
theorem mr_37 (hB : hpo G B M) (m : mS) (z : Int) (hz : 0 ≤ z ∧ z < 36) (P : Int32 → Prop) : zk_ai G (hp G B M m) (M + 32) (iz z) P ↔ P (iz (m 37 z)) := hp_ai hB m 32 37 36 (by decide) rfl z hz P
theorem mw_37 (hB : hpo G B M) (m : mS) (z v : Int) (hz : 0 ≤ z ∧ z < 36) (P : zk_H → Prop) : zk_si G (hp G B M m) (M + 32) (iz z) (iz v) P ↔ P (hp G B M (up m 37 z v)) := hp_si hB m 32 37 36 (by decide) rfl z v hz P
theorem mg_38 (hB : hpo G B M) (m : mS) (P : Value → Prop) : zk_og G (hp G B M m) M 9 38 P ↔ P (.ref (M + 33)) := hp_og hB m 38 (by decide) P
theorem mr_38 (hB : hpo G B M) (m : mS) (z : Int) (hz : 0 ≤ z ∧ z < 36) (P : Int32 → Prop) : zk_ai G (hp G B M m) (M + 33) (iz z) P ↔ P (iz (m 38 z)) := hp_ai hB m 33 38 36 (by decide) rfl z hz P
theorem mw_38 (hB : hpo G B M) (m : mS) (z v : Int) (hz : 0 ≤ z ∧ z < 36) (P : zk_H → Prop) : zk_si G (hp G B M m) (M + 33) (iz z) (iz v) P ↔ P (hp G B M (up m 38 z v)) := hp_si hB m 33 38 36 (by decide) rfl z v hz P
theorem mg_39 (hB : hpo G B M) (m : mS) (P : Value → Prop) : zk_og G (hp G B M m) M 9 39 P ↔ P (.ref (M + 34)) := hp_og hB m 39 (by decide) P
theorem mr_39 (hB : hpo G B M) (m : mS) (z : Int) (hz : 0 ≤ z ∧ z < 36) (P : Int32 → Prop) : zk_ai G (hp G B M m) (M + 34) (iz z) P ↔ P (iz (m 39 z)) := hp_ai hB m 34 39 36 (by decide) rfl z hz P
theorem mw_39 (hB : hpo G B M) (m : mS) (z v : Int) (hz : 0 ≤ z ∧ z < 36) (P : zk_H → Prop) : zk_si G (hp G B M m) (M + 34) (iz z) (iz v) P ↔ P (hp G B M (up m 39 z v)) := hp_si hB m 34 39 36 (by decide) rfl z v hz P
theorem mg_40 (hB : hpo G B M) (m : mS) (P : Value → Prop) : zk_og G (hp G B M m) M 9 40 P ↔ P (.ref (M + 35)) := hp_og hB m 40 (by decide) P
theorem mr_40 (hB : hpo G B M) (m : mS) (z : Int) (hz : 0 ≤ z ∧ z < 36) (P : Int32 → Prop) : zk_ai G (hp G B M m) (M + 35) (iz z) P ↔ P (iz (m 40 z)) := hp_ai hB m 35 40 36 (by decide) rfl z hz P
theorem mw_40 (hB : hpo G B M) (m : mS) (z v : Int) (hz : 0 ≤ z ∧ z < 36) (P : zk_H → Prop) : zk_si G (hp G B M m) (M + 35) (iz z) (iz v) P ↔ P (hp G B M (up m 40 z v)) := hp_si hB m 35 40 36 (by decide) rfl z v hz P
theorem mg_41 (hB : hpo G B M) (m : mS) (P : Value → Prop) : zk_og G (hp G B M m) M 9 41 P ↔ P (.ref (M + 36)) := hp_og hB m 41 (by decide) P
theorem mr_41 (hB : hpo G B M) (m : mS) (z : Int) (hz : 0 ≤ z ∧ z < 36) (P : Int32 → Prop) : zk_az G (hp G B M m) (M + 36) (iz z) P ↔ P (iz (m 41 z)) := hp_az hB m 36 41 36 (by decide) rfl z hz P
theorem mw_41 (hB : hpo G B M) (m : mS) (z v : Int) (hz : 0 ≤ z ∧ z < 36) (hv : v = 0 ∨ v = 1) (P : zk_H → Prop) : zk_sz1 G (hp G B M m) (M + 36) (iz z) (iz v) P ↔ P (hp G B M (up m 41 z v)) := hp_sz hB m 36 41 36 (by decide) rfl z v hz hv P
theorem mg_42 (hB : hpo G B M) (m : mS) (P : Value → Prop) : zk_og G (hp G B M m) M 9 42 P ↔ P (.ref (M + 37)) := hp_og hB m 42 (by decide) P
theorem mr_42 (hB : hpo G B M) (m : mS) (z : Int) (hz : 0 ≤ z ∧ z < 3) (P : Int32 → Prop) : zk_az G (hp G B M m) (M + 37) (iz z) P ↔ P (iz (m 42 z)) := hp_az hB m 37 42 3 (by decide) rfl z hz P
theorem mw_42 (hB : hpo G B M) (m : mS) (z v : Int) (hz : 0 ≤ z ∧ z < 3) (hv : v = 0 ∨ v = 1) (P : zk_H → Prop) : zk_sz1 G (hp G B M m) (M + 37) (iz z) (iz v) P ↔ P (hp G B M (up m 42 z v)) := hp_sz hB m 37 42 3 (by decide) rfl z v hz hv P
theorem mg_43 (hB : hpo G B M) (m : mS) (P : Value → Prop) : zk_og G (hp G B M m) M 9 43 P ↔ P (.ref (M + 38)) := hp_og hB m 43 (by decide) P
theorem mr_43 (hB : hpo G B M) (m : mS) (z : Int) (hz : 0 ≤ z ∧ z < 2) (P : Int32 → Prop) : zk_az G (hp G B M m) (M + 38) (iz z) P ↔ P (iz (m 43 z)) := hp_az hB m 38 43 2 (by decide) rfl z hz P
theorem mw_43 (hB : hpo G B M) (m : mS) (z v : Int) (hz : 0 ≤ z ∧ z < 2) (hv : v = 0 ∨ v = 1) (P : zk_H → Prop) : zk_sz1 G (hp G B M m) (M + 38) (iz z) (iz v) P ↔ P (hp G B M (up m 43 z v)) := hp_sz hB m 38 43 2 (by decide) rfl z v hz hv P
theorem mg_44 (hB : hpo G B M) (m : mS) (P : Value → Prop) : zk_og G (hp G B M m) M 9 44 P ↔ P (.ref (M + 39)) := hp_og hB m 44 (by decide) P
theorem mr_44 (hB : hpo G B M) (m : mS) (z : Int) (hz : 0 ≤ z ∧ z < 12) (P : Int32 → Prop) : zk_ai G (hp G B M m) (M + 39) (iz z) P ↔ P (iz (m 44 z)) := hp_ai hB m 39 44 12 (by decide) rfl z hz P
theorem mw_44 (hB : hpo G B M) (m : mS) (z v : Int) (hz : 0 ≤ z ∧ z < 12) (P : zk_H → Prop) : zk_si G (hp G B M m) (M + 39) (iz z) (iz v) P ↔ P (hp G B M (up m 44 z v)) := hp_si hB m 39 44 12 (by decide) rfl z v hz P
theorem mg_45 (hB : hpo G B M) (m : mS) (P : Value → Prop) : zk_og G (hp G B M m) M 9 45 P ↔ P (.ref (M + 40)) := hp_og hB m 45 (by decide) P
theorem mr_45 (hB : hpo G B M) (m : mS) (z : Int) (hz : 0 ≤ z ∧ z < 12) (P : Int32 → Prop) : zk_ai G (hp G B M m) (M + 40) (iz z) P ↔ P (iz (m 45 z)) := hp_ai hB m 40 45 12 (by decide) rfl z hz P
theorem mw_45 (hB : hpo G B M) (m : mS) (z v : Int) (hz : 0 ≤ z ∧ z < 12) (P : zk_H → Prop) : zk_si G (hp G B M m) (M + 40) (iz z) (iz v) P ↔ P (hp G B M (up m 45 z v)) := hp_si hB m 40 45 12 (by decide) rfl z v hz P
theorem mg_46 (hB : hpo G B M) (m : mS) (P : Value → Prop) : zk_og G (hp G B M m) M 9 46 P ↔ P (.ref (M + 41)) := hp_og hB m 46 (by decide) P
theorem mr_46 (hB : hpo G B M) (m : mS) (z : Int) (hz : 0 ≤ z ∧ z < 12) (P : Int32 → Prop) : zk_ai G (hp G B M m) (M + 41) (iz z) P ↔ P (iz (m 46 z)) := hp_ai hB m 41 46 12 (by decide) rfl z hz P
theorem mw_46 (hB : hpo G B M) (m : mS) (z v : Int) (hz : 0 ≤ z ∧ z < 12) (P : zk_H → Prop) : zk_si G (hp G B M m) (M + 41) (iz z) (iz v) P ↔ P (hp G B M (up m 46 z v)) := hp_si hB m 41 46 12 (by decide) rfl z v hz P
theorem mg_47 (hB : hpo G B M) (m : mS) (P : Value → Prop) : zk_og G (hp G B M m) M 9 47 P ↔ P (.ref (M + 42)) := hp_og hB m 47 (by decide) P
theorem mr_47 (hB : hpo G B M) (m : mS) (z : Int) (hz : 0 ≤ z ∧ z < 3600) (P : Int32 → Prop) : zk_ai G (hp G B M m) (M + 42) (iz z) P ↔ P (iz (m 47 z)) := hp_ai hB m 42 47 3600 (by decide) rfl z hz P
theorem mw_47 (hB : hpo G B M) (m : mS) (z v : Int) (hz : 0 ≤ z ∧ z < 3600) (P : zk_H → Prop) : zk_si G (hp G B M m) (M + 42) (iz z) (iz v) P ↔ P (hp G B M (up m 47 z v)) := hp_si hB m 42 47 3600 (by decide) rfl z v hz P
theorem mg_48 (hB : hpo G B M) (m : mS) (P : Value → Prop) : zk_og G (hp G B M m) M 9 48 P ↔ P (.ref (M + 43)) := hp_og hB m 48 (by decide) P
theorem mr_48 (hB : hpo G B M) (m : mS) (z : Int) (hz : 0 ≤ z ∧ z < 3600) (P : Int32 → Prop) : zk_ai G (hp G B M m) (M + 43) (iz z) P ↔ P (iz (m 48 z)) := hp_ai hB m 43 48 3600 (by decide) rfl z hz P
theorem mw_48 (hB : hpo G B M) (m : mS) (z v : Int) (hz : 0 ≤ z ∧ z < 3600) (P : zk_H → Prop) : zk_si G (hp G B M m) (M + 43) (iz z) (iz v) P ↔ P (hp G B M (up m 48 z v)) := hp_si hB m 43 48 3600 (by decide) rfl z v hz P
theorem mg_49 (hB : hpo G B M) (m : mS) (P : Value → Prop) : zk_og G (hp G B M m) M 9 49 P ↔ P (.ref (M + 44)) := hp_og hB m 49 (by decide) P
theorem mr_49 (hB : hpo G B M) (m : mS) (z : Int) (hz : 0 ≤ z ∧ z < 12) (P : Int32 → Prop) : zk_ai G (hp G B M m) (M + 44) (iz z) P ↔ P (iz (m 49 z)) := hp_ai hB m 44 49 12 (by decide) rfl z hz P
theorem mw_49 (hB : hpo G B M) (m : mS) (z v : Int) (hz : 0 ≤ z ∧ z < 12) (P : zk_H → Prop) : zk_si G (hp G B M m) (M + 44) (iz z) (iz v) P ↔ P (hp G B M (up m 49 z v)) := hp_si hB m 44 49 12 (by decide) rfl z v hz P
theorem mg_50 (hB : hpo G B M) (m : mS) (P : Value → Prop) : zk_og G (hp G B M m) M 9 50 P ↔ P (.ref (M + 45)) := hp_og hB m 50 (by decide) P
theorem mr_50 (hB : hpo G B M) (m : mS) (z : Int) (hz : 0 ≤ z ∧ z < 12) (P : Int32 → Prop) : zk_ai G (hp G B M m) (M + 45) (iz z) P ↔ P (iz (m 50 z)) := hp_ai hB m 45 50 12 (by decide) rfl z hz P
theorem mw_50 (hB : hpo G B M) (m : mS) (z v : Int) (hz : 0 ≤ z ∧ z < 12) (P : zk_H → Prop) : zk_si G (hp G B M m) (M + 45) (iz z) (iz v) P ↔ P (hp G B M (up m 50 z v)) := hp_si hB m 45 50 12 (by decide) rfl z v hz P
theorem mg_51 (hB : hpo G B M) (m : mS) (P : Value → Prop) : zk_og G (hp G B M m) M 9 51 P ↔ P (.int (iz (m 51 0))) := hp_og hB m 51 (by decide) P
theorem mw_51 (hB : hpo G B M) (m : mS) (v : Int) (P : zk_H → Prop) : zk_op G (hp G B M m) M 9 51 .int (.int (iz v)) P ↔ P (hp G B M (up m 51 0 v)) := hp_op hB m 51 (by decide) (by decide) v P
theorem mg_52 (hB : hpo G B M) (m : mS) (P : Value → Prop) : zk_og G (hp G B M m) M 9 52 P ↔ P (.int (iz (m 52 0))) := hp_og hB m 52 (by decide) P
theorem mw_52 (hB : hpo G B M) (m : mS) (v : Int) (P : zk_H → Prop) : zk_op G (hp G B M m) M 9 52 .int (.int (iz v)) P ↔ P (hp G B M (up m 52 0 v)) := hp_op hB m 52 (by decide) (by decide) v P
theorem mg_53 (hB : hpo G B M) (m : mS) (P : Value → Prop) : zk_og G (hp G B M m) M 9 53 P ↔ P (.int (iz (m 53 0))) := hp_og hB m 53 (by decide) P
theorem mw_53 (hB : hpo G B M) (m : mS) (v : Int) (P : zk_H → Prop) : zk_op G (hp G B M m) M 9 53 .int (.int (iz v)) P ↔ P (hp G B M (up m 53 0 v)) := hp_op hB m 53 (by decide) (by decide) v P
theorem mg_54 (hB : hpo G B M) (m : mS) (P : Value → Prop) : zk_og G (hp G B M m) M 9 54 P ↔ P (.ref (M + 46)) := hp_og hB m 54 (by decide) P
theorem mr_54 (hB : hpo G B M) (m : mS) (z : Int) (hz : 0 ≤ z ∧ z < 480) (P : Int32 → Prop) : zk_ai G (hp G B M m) (M + 46) (iz z) P ↔ P (iz (m 54 z)) := hp_ai hB m 46 54 480 (by decide) rfl z hz P
theorem mw_54 (hB : hpo G B M) (m : mS) (z v : Int) (hz : 0 ≤ z ∧ z < 480) (P : zk_H → Prop) : zk_si G (hp G B M m) (M + 46) (iz z) (iz v) P ↔ P (hp G B M (up m 54 z v)) := hp_si hB m 46 54 480 (by decide) rfl z v hz P
theorem mg_55 (hB : hpo G B M) (m : mS) (P : Value → Prop) : zk_og G (hp G B M m) M 9 55 P ↔ P (.ref (M + 47)) := hp_og hB m 55 (by decide) P
theorem mr_55 (hB : hpo G B M) (m : mS) (z : Int) (hz : 0 ≤ z ∧ z < 8) (P : Int32 → Prop) : zk_ai G (hp G B M m) (M + 47) (iz z) P ↔ P (iz (m 55 z)) := hp_ai hB m 47 55 8 (by decide) rfl z hz P
theorem mw_55 (hB : hpo G B M) (m : mS) (z v : Int) (hz : 0 ≤ z ∧ z < 8) (P : zk_H → Prop) : zk_si G (hp G B M m) (M + 47) (iz z) (iz v) P ↔ P (hp G B M (up m 55 z v)) := hp_si hB m 47 55 8 (by decide) rfl z v hz P
end HPM
