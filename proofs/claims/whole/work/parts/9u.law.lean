/-! both in one heap -/
theorem ov_comm {G : zk_G} {B : zk_H} {c1 c2 : Nat → Option zk_E} (hd : ∀ a, c1 a = none ∨ c2 a = none) : ov G (ov G B c1) c2 = ov G (ov G B c2) c1 := by
  unfold ov
  dsimp only
  congr 1
  apply List.ext_getElem?
  intro i
  rw [List.getElem?_mapIdx, List.getElem?_mapIdx, List.getElem?_mapIdx, List.getElem?_mapIdx]
  cases B.1[i]? with
  | none => rfl
  | some e =>
    rcases hd (G.1 + i) with q | q
    · simp [q]
    · simp [q]
def LW (G : zk_G) (n : Int) (x M : Nat) (h : zk_H) : Prop := ∃ (B : zk_H) (ad : Int → Nat) (s m : mS), h = hx G (hp G B M m) (m 1 0) (m 10 0) ad s ∧ hxo G (hp G B M m) (m 1 0) (m 10 0) ad ∧ hpo G B M ∧ (∀ r, Ux (m 1 0) (m 10 0) r → ad r < M ∨ M + 48 ≤ ad r) ∧ ad 0 = x ∧ REL s m ∧ INV n m ∧ (zk_nx G B : Int) ≤ G.1 + 190 + cs s ∧ (B.2 : Int) ≤ 9906 + 5 * cs s
theorem hp_self {G : zk_G} {B : zk_H} {M : Nat} {m : mS} (h : ∀ i, i < 48 → zk_rd G B (M + i) = some (mcl M m i)) : hp G B M m = B := by
  unfold hp
  apply ov_id
  intro a e hc
  unfold mc at hc
  by_cases c : M ≤ a ∧ a < M + 48
  · rw [if_pos c] at hc
    have := h (a - M) (by omega)
    rw [show M + (a - M) = a by omega] at this
    rw [this]; exact hc
  · rw [if_neg c] at hc; cases hc
theorem cs_le {s m : mS} (hR : REL s m) (hM : MC m) : cs s ≤ 41472 := by
  have c1 := hM.2.2.1
  have c10 := hM.2.2.2.1
  have key : ∀ p : Nat, p < 81 → s 102 p ≤ 512 := by
    intro p hp
    have lr := rlim_r p
    have wl : wI s p → s 102 p ≤ 512 := fun w => by
      obtain ⟨w1, w2, w3, w4, w5⟩ := w
      omega
    by_cases cz : (p : Int) < 3 * m 1 0
    · obtain ⟨-, -, w1, w2, w3⟩ := hR.2.2.2.1 ((p : Int) / 3) (by omega) (by omega)
      have : (p : Int) % 3 = 0 ∨ (p : Int) % 3 = 1 ∨ (p : Int) % 3 = 2 := by omega
      rcases this with q | q | q
      · rw [show 3 * ((p : Int) / 3) = p by omega] at w1; exact wl w1
      · rw [show 3 * ((p : Int) / 3) + 1 = p by omega] at w2; exact wl w2
      · rw [show 3 * ((p : Int) / 3) + 2 = p by omega] at w3; exact wl w3
    · by_cases cj : 9 ≤ (p : Int) ∧ (p : Int) < 9 + 6 * m 10 0
      · obtain ⟨⟨-, -, w1, w2, w3, w4, w5, w6⟩, -⟩ := hR.2.2.2.2.1 (((p : Int) - 9) / 6) (by omega) (by omega)
        have : ((p : Int) - 9) % 6 = 0 ∨ ((p : Int) - 9) % 6 = 1 ∨ ((p : Int) - 9) % 6 = 2 ∨ ((p : Int) - 9) % 6 = 3 ∨ ((p : Int) - 9) % 6 = 4 ∨ ((p : Int) - 9) % 6 = 5 := by omega
        rcases this with q | q | q | q | q | q
        · rw [show 9 + 6 * (((p : Int) - 9) / 6) = p by omega] at w1; exact wl w1
        · rw [show 10 + 6 * (((p : Int) - 9) / 6) = p by omega] at w2; exact wl w2
        · rw [show 11 + 6 * (((p : Int) - 9) / 6) = p by omega] at w3; exact wl w3
        · rw [show 12 + 6 * (((p : Int) - 9) / 6) = p by omega] at w4; exact wl w4
        · rw [show 13 + 6 * (((p : Int) - 9) / 6) = p by omega] at w5; exact wl w5
        · rw [show 14 + 6 * (((p : Int) - 9) / 6) = p by omega] at w6; exact wl w6
      · rw [hR.2.2.2.2.2.1.2.2 p (by omega)]; omega
  have sum : ∀ n : Nat, n ≤ 81 → csn s n ≤ 512 * n := by
    intro n
    induction n with
    | zero => intro _; show (0 : Int) ≤ _; omega
    | succ n ih =>
      intro hn
      have h1 := ih (by omega)
      have h2 := key n (by omega)
      show csn s n + s 102 n ≤ _
      omega
  have := sum 81 (by omega)
  unfold cs
  omega
theorem LW_size {G : zk_G} {n : Int} {x M : Nat} {h : zk_H} (hL : LW G n x M h) (hn : 0 ≤ n ∧ n ≤ 512) : h.1.length ≤ 600000 ∧ h.2 ≤ 7302249 := by
  obtain ⟨B, ad, s, m, rfl, hB, hP, hd, hx0, hR, hI, z1, z2⟩ := hL
  have hM := (INV_IV hI hn).1.1
  have cl := cs_le hR hM
  generalize cs s = c at *
  have n1 : zk_nx G (hx G (hp G B M m) (m 1 0) (m 10 0) ad s) = zk_nx G B := by
    unfold hx hp
    rw [ov_nx, ov_nx]
  have n2 : (hx G (hp G B M m) (m 1 0) (m 10 0) ad s).2 = B.2 := rfl
  rw [n2]
  unfold zk_nx at n1 z1
  omega
theorem lw_step {G : zk_G} {n : Int} {M : Nat} {B : zk_H} {ad : Int → Nat} {s m : mS} (hB : hxo G (hp G B M m) (m 1 0) (m 10 0) ad) (hP : hpo G B M) (hd : ∀ r, Ux (m 1 0) (m 10 0) r → ad r < M ∨ M + 48 ≤ ad r) (z1 : (zk_nx G B : Int) ≤ G.1 + 190 + cs s) (z2 : (B.2 : Int) ≤ 9906 + 5 * cs s) (hn : 0 ≤ n ∧ n ≤ 511) {y ym : Nat} {as ms : zk_L} (hPR : PR G n B M ad s m y as ym ms) : ∃ v h1 h2, LW G (n + 1) (ad 0) M h2 ∧ (zk_ic G h1 M 9 ↔ True) ∧ (∀ Q : Option Value → zk_H → Prop, zk_wp G y 0 (some (.ref (ad 0)) :: as) [] (hx G (hp G B M m) (m 1 0) (m 10 0) ad s) Q ↔ Q (some (.int (iz v))) h1) ∧ (∀ Q : Option Value → zk_H → Prop, zk_wp G ym 0 (some (.ref M) :: ms) [] h1 Q ↔ Q (some (.int (iz v))) h2) := by
  obtain ⟨v, m', ⟨B', ad', s', xe, a0, RR, hw⟩, hD, hI⟩ := hPR
  obtain ⟨e1, e2, e3, e4, e5⟩ := xe
  have n0 : zk_nx G (hp G B M m) = zk_nx G B := ov_nx _ _ _
  have sl0 : (hp G B M m).2 = B.2 := rfl
  have fr : ∀ i, i < 48 → zk_rd G B' (M + i) = some (mcl M m i) ∧ ∀ r, Ux (m' 1 0) (m' 10 0) r → ad' r ≠ M + i := by
    intro i hi
    obtain ⟨q1, q2⟩ := e2 (M + i) (by rw [n0]; have := hP.2; omega) (fun r hr q => by have := hd r hr; omega)
    exact ⟨by rw [q1, hp_rd hP m i hi], q2⟩
  have dj : ∀ r, Ux (m' 1 0) (m' 10 0) r → ad' r < M ∨ M + 48 ≤ ad' r := by
    intro r hr
    rcases Nat.lt_or_ge (ad' r) M with q | q
    · exact Or.inl q
    · rcases Nat.lt_or_ge (ad' r) (M + 48) with q' | q'
      · exact absurd (show ad' r = M + (ad' r - M) by omega) ((fr (ad' r - M) (by omega)).2 r hr)
      · exact Or.inr q'
  have n1 : zk_nx G (hx G B' (m' 1 0) (m' 10 0) ad' s') = zk_nx G B' := ov_nx _ _ _
  have hP' : hpo G B' M := ⟨hP.1, by have := hP.2; omega⟩
  have hP1 : hpo G (hx G B' (m' 1 0) (m' 10 0) ad' s') M := ⟨hP.1, by rw [n1]; exact hP'.2⟩
  have rd1 : ∀ i, i < 48 → zk_rd G (hx G B' (m' 1 0) (m' 10 0) ad' s') (M + i) = some (mcl M m i) := fun i hi => by
    rw [hx_out s' (fun r hr => (fr i hi).2 r hr), (fr i hi).1]
  have self := hp_self rd1
  obtain ⟨m2, d1, w2⟩ := hD _ hP1
  have hM' := (INV_IV hI (by omega)).1.1
  obtain ⟨m3, d2, r3, q3⟩ := d_nrm (G := G) (M := M) hM'.1 d1
  rw [self] at w2
  have k1 := d2 1 0 (by decide) (by decide) (by decide)
  have k10 := d2 10 0 (by decide) (by decide) (by decide)
  have ic : zk_ic G (hx G B' (m' 1 0) (m' 10 0) ad' s') M 9 ↔ True := by
    have := rd1 0 (by omega)
    rw [Nat.add_zero] at this
    exact zk_ic_rd this
  have comm : hp G (hx G B' (m' 1 0) (m' 10 0) ad' s') M m2 = hx G (hp G B' M m3) (m' 1 0) (m' 10 0) ad' s' := by
    rw [← q3]
    unfold hp hx
    apply ov_comm
    intro a
    by_cases c : M ≤ a ∧ a < M + 48
    · left
      refine cxo_out s' (fun r hr e => ?_)
      have := dj r hr
      omega
    · right
      unfold mc
      rw [if_neg c]
  have csd : ((cs s' - cs s) : Int) = cs s' - cs s := rfl
  refine ⟨v, hx G B' (m' 1 0) (m' 10 0) ad' s', hx G (hp G B' M m3) (m' 1 0) (m' 10 0) ad' s', ?_, ic, hw, fun Q => ?_⟩
  · refine ⟨B', ad', s', m3, by rw [k1, k10], ?_, hP', ?_, a0, REL_dtx RR d2, INV_dtx hI d2 r3, ?_, ?_⟩
    · rw [k1, k10]
      have n2 : zk_nx G (hp G B' M m3) = zk_nx G B' := ov_nx _ _ _
      exact ⟨e1.1, fun r hr => by rw [n2]; exact e1.2.1 r hr, e1.2.2⟩
    · rw [k1, k10]; exact dj
    · generalize cs s' = c' at *
      generalize cs s = c at *
      omega
    · generalize cs s' = c' at *
      generalize cs s = c at *
      omega
  · rw [w2 Q, comm]
