/-! the calls that deliver, begin and end, and the numbers -/
theorem KL_rem {b : Int} {g p : Int → Int} {a a' : Int} {m : mS} (h : KL b g p a m) {i : Int} (hi : 0 ≤ i ∧ i < m 53 0) (he : ∀ l, 0 ≤ l → l < m 53 0 - 1 → ea a' l = ea a (if i ≤ l then l + 1 else l)) : KL b g p a' (mrem m i) := by
  have k : ∀ k z, k ≠ 53 → k ≠ 54 → k ≠ 55 → mrem m i k z = m k z := fun k z a b c => mrem_k m i k z a b c
  refine ⟨by rw [mrem_53]; have := h.1; omega, fun l l0 l1 => ?_⟩
  rw [mrem_53] at l1
  have f := fun k k0 k8 => mrem_54 m i l k l1 k0 k8
  have f0 := f 0 (by omega) (by omega)
  rw [Int.add_zero, Int.add_zero] at f0
  rw [he l l0 l1, f0, f 1 (by omega) (by omega), f 2 (by omega) (by omega), f 3 (by omega) (by omega), f 4 (by omega) (by omega), f 5 (by omega) (by omega), f 6 (by omega) (by omega), f 7 (by omega) (by omega)]
  exact kl_k (h.2 _ (by split <;> omega) (by split <;> omega)) (fun k' z q => k k' z (by omega) (by omega) (by omega))
theorem KK_rem {b : Int} {g p : Int → Int} {a a' c : Int} {m : mS} (h : KK b g p a c m) {i : Int} (hi : 0 ≤ i ∧ i < m 53 0) (he : ∀ l, 0 ≤ l → l < m 53 0 - 1 → ea a' l = ea a (if i ≤ l then l + 1 else l)) : KK b g p a' c (mrem m i) ∧ kl b g p (mrem m i) (ea a i) (mrem m i 55 0) (mrem m i 55 1) (mrem m i 55 2) (mrem m i 55 3) (mrem m i 55 4) (mrem m i 55 5) (mrem m i 55 6) (mrem m i 55 7) := by
  obtain ⟨hM, hE, ⟨hr, hR, hL, h51, h12⟩, ⟨c52, c45, c42, c43⟩, kE⟩ := h
  have k : ∀ k z, k ≠ 53 → k ≠ 54 → k ≠ 55 → mrem m i k z = m k z := fun k z a b c => mrem_k m i k z a b c
  have hM' := MC_rem hM hL.1.1 i
  refine ⟨⟨hM', fun j a b => eO_of (hE j a b) (fun k' z q r => k k' z (by omega) (by omega) (by omega)), ⟨hM'.1, KR_of hR (le12_r g) (fun k' z q r => k k' z (by omega) (by omega) (by omega)) (by rw [k 10 0 (by decide) (by decide) (by decide)]; omega), KL_rem hL hi he, by rw [k 51 0 (by decide) (by decide) (by decide)]; exact h51, by rw [k 10 0 (by decide) (by decide) (by decide)]; exact h12⟩, ⟨by rw [k 52 0 (by decide) (by decide) (by decide)]; exact c52, fun j a b => by rw [k 45 j (by decide) (by decide) (by decide)]; exact c45 j a b, fun z => by rw [k 42 z (by decide) (by decide) (by decide)]; exact c42 z, fun z => by rw [k 43 z (by decide) (by decide) (by decide)]; exact c43 z⟩, fun j a b => by rw [k 46 j (by decide) (by decide) (by decide), k 50 j (by decide) (by decide) (by decide)]; exact kE j a b⟩, ?_⟩
  have f := fun k k0 k8 => mrem_55 m i k k0 k8
  have f0 := f 0 (by omega) (by omega)
  rw [Int.add_zero] at f0
  rw [f0, f 1 (by omega) (by omega), f 2 (by omega) (by omega), f 3 (by omega) (by omega), f 4 (by omega) (by omega), f 5 (by omega) (by omega), f 6 (by omega) (by omega), f 7 (by omega) (by omega)]
  exact kl_k (hL.2 i hi.1 hi.2) (fun k' z q => k k' z (by omega) (by omega) (by omega))
theorem ask_rem (m : mS) (i j : Int) : ask (mrem m i) j = ask m j := by
  unfold ask
  rw [mrem_k m i 36 _ (by decide) (by decide) (by decide), mrem_k m i 36 _ (by decide) (by decide) (by decide), mrem_k m i 36 _ (by decide) (by decide) (by decide)]
theorem ask_0 (m : mS) (j : Int) : 0 ≤ ask m j := by
  have q : ∀ x, 0 ≤ a1 x := fun x => by unfold a1; split <;> omega
  have := q (m 36 j)
  have := q (m 36 (12 + j))
  have := q (m 36 (24 + j))
  unfold ask
  omega
/-- what was new is old when the call has ended -/
theorem KL_fin {b : Int} {g p : Int → Int} {a : Int} {m : mS} (h : KL b g p a m) : KL b g (fun j => p j + 1) 100 m := by
  refine ⟨h.1, fun l l0 l1 => ?_⟩
  have e1 : ea 100 l = 1 := by unfold ea; rw [if_pos (by have := h.1; omega)]
  have e2 : ea a l = 0 ∨ ea a l = 1 := by unfold ea; split <;> omega
  rw [e1]
  obtain ⟨q, x0, x1, x2, x5, x7⟩ := h.2 l l0 l1
  refine ⟨q, fun k => ⟨rfl, (x0 k).2⟩, fun k => ?_, x2, x5, x7⟩
  obtain ⟨y1, y2, y3, y4, y5⟩ := x1 k
  refine ⟨y1, y2, y3, ?_, fun u v => ?_⟩
  · show m 54 (8 * l + 7) + 1 ≤ p (m 54 (8 * l + 3)) + 1
    omega
  · have := y5 u v
    show m 39 (12 * m 54 (8 * l + 2) + m 54 (8 * l + 3)) + 1 ≤ p (m 54 (8 * l + 3)) + 1
    omega
theorem KL_beg {b : Int} {g p : Int → Int} {a : Int} {m : mS} (h : KL b g p 100 m) (ha : m 53 0 ≤ a) : KL b g p a m := by
  refine ⟨h.1, fun l l0 l1 => ?_⟩
  have e1 : ea 100 l = ea a l := by unfold ea; rw [if_pos (by have := h.1; omega), if_pos (by omega)]
  rw [← e1]
  exact h.2 l l0 l1
theorem KK_fin {b : Int} {g p : Int → Int} {a c : Int} {m : mS} (h : KK b g p a c m) : KK b g (fun j => p j + 1) 100 c m := by
  obtain ⟨hM, hE, ⟨hr, hR, hL, h51, h12⟩, hC, kE⟩ := h
  exact ⟨hM, hE, ⟨hr, hR, KL_fin hL, h51, h12⟩, hC, kE⟩
theorem KK_beg {b : Int} {g p : Int → Int} {a c : Int} {m : mS} (h : KK b g p 100 c m) (ha : m 53 0 ≤ a) : KK b g p a c m := by
  obtain ⟨hM, hE, ⟨hr, hR, hL, h51, h12⟩, hC, kE⟩ := h
  exact ⟨hM, hE, ⟨hr, hR, KL_beg hL ha, h51, h12⟩, hC, kE⟩
theorem KK_sp {b : Int} {g p : Int → Int} {a a' c : Int} {m : mS} (h : KK b g p a c m) (hc : c ≤ 100000000) (hb : 0 ≤ b ∧ b ≤ 90000) {i : Int} (hi : 0 ≤ i ∧ i < m 53 0) (ha : a' ≤ m 53 0 - 1) (he : ∀ l, 0 ≤ l → l < m 53 0 - 1 → ea a' l = ea a (if i ≤ l then l + 1 else l)) (hg : ∀ j, 0 ≤ j → j < 12 → g j ≤ p j + 1 - ea a i ∧ g j ≤ 298) : ∃ g', le12 g g' ∧ (∀ j, 0 ≤ j → j < 12 → g' j ≤ p j + 1 - ea a i ∧ g' j + ask (msp m i) j ≤ g j + ask m j) ∧ KK b g' p a' (c + 3) (msp m i) ∧ m 53 0 - 1 ≤ msp m i 53 0 := by
  obtain ⟨k1, k2⟩ := KK_rem h hi he
  have e2 : ea a i = 0 ∨ ea a i = 1 := by unfold ea; split <;> omega
  obtain ⟨g', z1, z2, z3, z4⟩ := KK_del k1 hc hb (by rw [mrem_53]; exact ha) e2 hg k2
  rw [mrem_53] at z4
  refine ⟨g', z1, fun j a b => ?_, z3, z4⟩
  have := z2 j a b
  rw [ask_rem] at this
  exact this
theorem KK_deliver {b : Int} {g p : Int → Int} {c : Int} {m : mS} (h : KK b g p 100 c m) (hc : c ≤ 100000000) (hb : 0 ≤ b ∧ b ≤ 90000) {i : Int} (hi : 0 ≤ i ∧ i < m 53 0) (hg : ∀ j, 0 ≤ j → j < 12 → g j ≤ p j ∧ g j ≤ 298) : ∃ g', le12 g g' ∧ (∀ j, 0 ≤ j → j < 12 → g' j ≤ p j + 1 ∧ g' j + ask (msp m i) j ≤ g j + ask m j) ∧ KK b g' (fun j => p j + 1) 100 (c + 3) (msp m i) := by
  have s := h.2.2.1.2.2.1.1
  have e1 : ∀ l, l < 60 → ea 100 l = 1 := fun l hl => by unfold ea; rw [if_pos (by omega)]
  obtain ⟨g', z1, z2, z3, z4⟩ := KK_sp (a' := m 53 0 - 1) h hc hb hi (by omega) (fun l l0 l1 => by
    rw [e1 _ (by split <;> omega)]
    unfold ea; rw [if_pos l1]) (fun j a b => by have := hg j a b; rw [e1 i (by omega)]; omega)
  refine ⟨g', z1, fun j a b => ?_, KK_fin z3⟩
  have := z2 j a b
  rw [e1 i (by omega)] at this
  omega
theorem KK_fls {b : Int} {g p : Int → Int} {c : Int} {m : mS} (h : KK b g p 100 c m) (hc : c ≤ 90000000) (hb : 0 ≤ b ∧ b ≤ 90000) (hg : ∀ j, 0 ≤ j → j < 12 → g j ≤ p j) {w d : Int} (hw : ∀ j, 0 ≤ j → j < 12 → g j + ask m j ≤ w ∧ p j ≤ d) (hwd : w + d ≤ 520) : ∀ n : Nat, n ≤ 50 → ∃ g' a, le12 g g' ∧ (∀ j, 0 ≤ j → j < 12 → g' j ≤ p j + 1 - ea a 0 ∧ g' j + ask (fls m n) j ≤ g j + ask m j) ∧ KK b g' p a (c + 3 * n) (fls m n) ∧ 0 ≤ a ∧ a ≤ fls m n 53 0 := by
  intro n
  induction n with
  | zero =>
    intro _
    have s := h.2.2.1.2.2.1.1
    refine ⟨g, m 53 0, le12_r g, fun j a b => ⟨?_, Int.le_refl _⟩, ?_, s.1, Int.le_refl _⟩
    · have := hg j a b
      unfold ea
      split <;> omega
    · have := KK_beg h (Int.le_refl (m 53 0))
      rw [show c + 3 * ((0 : Nat) : Int) = c by omega]
      exact this
  | succ n ih =>
    intro hn
    obtain ⟨g1, a, y1, y2, y3, y4, y5⟩ := ih (by omega)
    have e : fls m (n + 1) = if 0 < fls m n 53 0 then msp (fls m n) 0 else fls m n := rfl
    by_cases c0 : 0 < fls m n 53 0
    · rw [e, if_pos c0]
      obtain ⟨g', z1, z2, z3, z4⟩ := KK_sp (a' := max (a - 1) 0) y3 (by omega) hb (i := 0) ⟨by omega, c0⟩ (by omega) (fun l l0 l1 => by
        rw [if_pos l0]
        unfold ea
        by_cases ca : l + 1 < a
        · rw [if_pos ca, if_pos (by omega)]
        · rw [if_neg ca, if_neg (by omega)]) (fun j j0 j1 => by
          have q1 := y2 j j0 j1
          have q2 := hw j j0 j1
          have q3 := ask_0 (fls m n) j
          have q4 : 0 ≤ ea a 0 := by unfold ea; split <;> omega
          omega)
      refine ⟨g', max (a - 1) 0, fun j j0 j1 => Int.le_trans (y1 j j0 j1) (z1 j j0 j1), fun j j0 j1 => ?_, ?_, by omega, by omega⟩
      · have q1 := z2 j j0 j1
        have q2 := y2 j j0 j1
        have q3 : ea (max (a - 1) 0) 0 ≤ ea a 0 := by unfold ea; split <;> split <;> omega
        omega
      · rw [show c + 3 * ((n + 1 : Nat) : Int) = c + 3 * n + 3 by omega]
        exact z3
    · rw [e, if_neg c0]
      refine ⟨g1, a, y1, y2, ?_, y4, y5⟩
      obtain ⟨hM, hE, hS, ⟨c52, c45, c42⟩, kE⟩ := y3
      exact ⟨hM, hE, KS_mono hS (by omega), ⟨by omega, fun j a b => by have := c45 j a b; omega, c42⟩, kE⟩
theorem KK_mono {b : Int} {g p : Int → Int} {a c c' : Int} {m : mS} (h : KK b g p a c m) (hc : c ≤ c') : KK b g p a c' m := by
  obtain ⟨hM, hE, hS, ⟨c52, c45, c42⟩, kE⟩ := h
  exact ⟨hM, hE, KS_mono hS (by omega), ⟨by omega, fun j a b => by have := c45 j a b; omega, c42⟩, kE⟩
/-- settings -/
theorem KK_set {b : Int} {g p : Int → Int} {a c : Int} {m m' : mS} (h : KK b g p a c m) (hM' : MC m') (hk : ∀ k z, 30 ≤ k → k ≠ 42 → k ≠ 43 → m' k z = m k z) (h10 : m 10 0 ≤ m' 10 0) (h42 : ∀ z, m' 42 z = 0 ∨ m' 42 z = 1) (h43 : ∀ z, m' 43 z = 0 ∨ m' 43 z = 1) : KK b g p a c m' := by
  obtain ⟨hM, hE, ⟨hr, hR, hL, h51, h12⟩, ⟨c52, c45, c42, c43⟩, kE⟩ := h
  refine ⟨hM', fun j a b => eO_of (hE j a b) (fun k z q r => hk k z (by omega) (by omega) (by omega)), ⟨hM'.1, KR_of hR (le12_r g) (fun k z q r => hk k z (by omega) (by omega) (by omega)) h10, KL_of hL (Int.le_refl _) h12 h10 (le12_r g) (fun i => by rw [hk 30 i (by omega) (by omega) (by omega)]; omega) (fun i hi => ?_) (hk 53 0 (by omega) (by omega) (by omega)) (fun z => hk 54 z (by omega) (by omega) (by omega)), by rw [hk 51 0 (by omega) (by omega) (by omega)]; exact h51, hM'.2.2.2.1.2⟩, ⟨by rw [hk 52 0 (by omega) (by omega) (by omega)]; exact c52, fun j a b => by rw [hk 45 j (by omega) (by omega) (by omega)]; exact c45 j a b, h42, h43⟩, fun j a b => by rw [hk 46 j (by omega) (by omega) (by omega), hk 50 j (by omega) (by omega) (by omega)]; exact kE j a b⟩
  rw [hk 36 i (by omega) (by omega) (by omega)] at hi
  exact ⟨hi, hk 35 i (by omega) (by omega) (by omega), hk 39 i (by omega) (by omega) (by omega)⟩
theorem KK_dtx {b : Int} {g p : Int → Int} {a c : Int} {m m' : mS} (h : KK b g p a c m) (hd : dtx m m') (hr : rg m') : KK b g p a c m' :=
  KK_set h (MC_dtx h.1 hd hr) (fun k z q _ _ => hd k z (by omega) (by omega) (by omega)) (by rw [hd 10 0 (by decide) (by decide) (by decide)]; omega) (fun z => by rw [hd 42 z (by decide) (by decide) (by decide)]; exact h.2.2.2.1.2.2.1 z) (fun z => by rw [hd 43 z (by decide) (by decide) (by decide)]; exact h.2.2.2.1.2.2.2 z)
theorem kl_bg {b b' : Int} {g p : Int → Int} {m m' : mS} {e k0 k1 k2 k3 k4 k5 k6 k7 : Int} (h : kl b g p m e k0 k1 k2 k3 k4 k5 k6 k7) (hb : b ≤ b') (e10 : m' 10 0 = m 10 0) (m30 : ∀ i, m 30 i ≤ m' 30 i) {i0 : Int} (hz : ∀ k z, z ≠ i0 → m' k z = m k z) (h35 : m 30 i0 < m' 35 i0) : kl b' g p m' e k0 k1 k2 k3 k4 k5 k6 k7 := by
  obtain ⟨⟨p0, p1, p2, p3, p4, p5, p6, p7, p8⟩, x0, x1, x2, x5, x7⟩ := h
  refine ⟨⟨p0, p1, p2, p3, by rw [e10]; exact p4, fun q => ⟨(p5 q).1, Int.le_trans (p5 q).2 hb⟩, fun q => ⟨(p6 q).1, Int.le_trans (p6 q).2 hb⟩, p7, p8⟩, fun q => ⟨(x0 q).1, Int.le_trans (x0 q).2 (m30 _)⟩, fun q => ?_, x2, x5, x7⟩
  obtain ⟨y1, y2, y3, y4, y5⟩ := x1 q
  refine ⟨Int.le_trans y1 (m30 _), Int.le_trans y2 hb, y3, y4, fun u v => ?_⟩
  by_cases ci : 12 * k2 + k3 = i0
  · rw [ci] at v y1
    exfalso
    clear p0 p1 p2 p3 p4 p5 p6 p7 p8 x0 x1 x2 x5 x7 y2 y3 y4 y5 u m30 hz e10
    omega
  · rw [hz 39 _ ci]
    rw [hz 36 _ ci] at u
    rw [hz 35 _ ci] at v
    exact y5 u v
/-- a run begins -/
theorem KS_bgn {b : Int} {g p : Int → Int} {c : Int} {m : mS} (h : KS b g p 100 c m) (hc : c ≤ 1000000000) (hb : 0 ≤ b ∧ b ≤ 90000) {sc j : Int} (hs : 0 ≤ sc ∧ sc < 3) (hj : 0 ≤ j ∧ j < m 10 0) (hg : g j ≤ 1000) : KS (b + 5) g p 100 (c + 3) (mbgn m sc j) := by
  obtain ⟨hr, hR, hL, h51, h12⟩ := id h
  obtain ⟨q1, q2, q3, q4, q5, q6, q7, q8, q9, q10, q11, q12, q13⟩ := hR sc j hs.1 hs.2 hj.1 (by omega)
  have mr := mbal_r sc (max (m 34 (12 * sc + j)) (m 30 (12 * sc + j))) hs (by omega)
  unfold mbgn
  generalize mbal sc (max (m 34 (12 * sc + j)) (m 30 (12 * sc + j))) = bt at *
  have z := fun k z hz => mbg0_z m (12 * sc + j) bt k z hz
  have k := fun k z hk => mbg0_k m (12 * sc + j) bt k z hk
  have d30 : mbg0 m (12 * sc + j) bt 30 (12 * sc + j) = bt := by unfold mbg0; simp only [up_b, Nat.reduceEqDiff, eq_self, if_true, if_false, reduceIte]
  have d34 : mbg0 m (12 * sc + j) bt 34 (12 * sc + j) = bt := by unfold mbg0; simp only [up_b, Nat.reduceEqDiff, eq_self, if_true, if_false, reduceIte]
  have d35 : mbg0 m (12 * sc + j) bt 35 (12 * sc + j) = bt := by unfold mbg0; simp only [up_b, Nat.reduceEqDiff, eq_self, if_true, if_false, reduceIte]
  have d36 : mbg0 m (12 * sc + j) bt 36 (12 * sc + j) = 1 := by unfold mbg0; simp only [up_b, Nat.reduceEqDiff, eq_self, if_true, if_false, reduceIte]
  have d38 : mbg0 m (12 * sc + j) bt 38 (12 * sc + j) = m 32 (12 * sc + j) := by unfold mbg0; simp only [up_b, Nat.reduceEqDiff, eq_self, if_true, if_false, reduceIte]
  have d39 : mbg0 m (12 * sc + j) bt 39 (12 * sc + j) = m 33 (12 * sc + j) := by unfold mbg0; simp only [up_b, Nat.reduceEqDiff, eq_self, if_true, if_false, reduceIte]
  have d40 : mbg0 m (12 * sc + j) bt 40 (12 * sc + j) = -9 := by unfold mbg0; simp only [up_b, Nat.reduceEqDiff, eq_self, if_true, if_false, reduceIte]
  have e10 := k 10 0 (by omega)
  have e53 := k 53 0 (by omega)
  have hr0 : rg (mbg0 m (12 * sc + j) bt) := by
    unfold mbg0
    exact rg_up (rg_up (rg_up (rg_up (rg_up (rg_up (rg_up (rg_up (rg_up hr _ _ (by omega)) _ _ (by omega)) _ _ (by omega)) _ _ (by omega)) _ _ (by omega)) _ _ (by omega)) _ _ (rg_of hr 31 _)) _ _ (rg_of hr 32 _)) _ _ (rg_of hr 33 _)
  have m30 : ∀ i, m 30 i ≤ mbg0 m (12 * sc + j) bt 30 i := fun i => by
    by_cases c : i = 12 * sc + j
    · rw [c, d30]; omega
    · rw [z 30 i c]; omega
  have K0 : KS (b + 5) g p 100 c (mbg0 m (12 * sc + j) bt) := by
    refine ⟨hr0, ?_, ⟨by rw [e53]; exact hL.1, fun l l0 l1 => ?_⟩, by rw [k 51 0 (by omega)]; exact h51, by rw [e10]; exact h12⟩
    · refine KR_one (m := m) (g := g) (fun s x a1 a2 a3 a4 => kr_mono (hR s x a1 a2 a3 a4) (by omega) (Int.le_refl _)) (le12_r g) hs (by omega) (fun k' z' _ _ hz => z k' z' hz) (by omega) ?_
      unfold kr
      rw [d30, d34, k 31 _ (by omega), k 32 _ (by omega), k 33 _ (by omega), d35, d36, d38, d39, d40, e10]
      exact ⟨by omega, by omega, by omega, q4, q4, by omega, by omega, by omega, by omega, fun q => absurd q (by omega), q11, q11, fun q => absurd q (by omega)⟩
    · rw [e53] at l1
      rw [k 54 _ (by omega), k 54 _ (by omega), k 54 _ (by omega), k 54 _ (by omega), k 54 _ (by omega), k 54 _ (by omega), k 54 _ (by omega), k 54 _ (by omega)]
      exact kl_bg (hL.2 l l0 l1) (by omega) e10 m30 (i0 := 12 * sc + j) z (by rw [d35]; omega)
  refine (KS_sto (e := 1) K0 hc (fun l l1 l2 => by unfold ea; rw [if_pos (by omega)]) (fun t t0 t1 tn => ?_) (by omega) (by omega) (by omega)).1
  unfold kl
  rw [e10, d30]
  exact ⟨⟨by omega, by omega, by omega, by omega, hj, fun _ => by omega, by omega, by omega, by omega⟩, fun _ => by omega, fun q => absurd q (by omega), fun q => absurd q (by omega), fun q => absurd q (by omega), by omega⟩
theorem KK_bgn {b : Int} {g p : Int → Int} {c : Int} {m : mS} (h : KK b g p 100 c m) (hc : c ≤ 1000000000) (hb : 0 ≤ b ∧ b ≤ 90000) {sc j : Int} (hs : 0 ≤ sc ∧ sc < 3) (hj : 0 ≤ j ∧ j < m 10 0) (hg : g j ≤ 1000) : KK (b + 5) g p 100 (c + 3) (mbgn m sc j) := by
  obtain ⟨hM, hE, hS, ⟨c52, c45, c42, c43⟩, kE⟩ := h
  have hS' := KS_bgn hS hc hb hs hj hg
  have n : ∀ k z, k < 30 ∨ (42 ≤ k ∧ k ≤ 50) ∨ k = 52 → mbgn m sc j k z = m k z := fun k z q => mbgn_k m sc j k z (by omega) (by omega) (by omega) (by omega)
  exact ⟨MC_of hM hS'.1 (fun k z q => by
      by_cases c : k ≤ 52
      · exact n k z (by omega)
      · exact mbgn_k m sc j k z (by omega) (by omega) (by omega) (by omega)) (fun k z q _ => n k z (by omega)), fun x a b => eO_of (hE x a b) (fun k z q r => n k z (by omega)), hS', ⟨by rw [n 52 0 (by omega)]; omega, fun x a b => by rw [n 45 x (by omega)]; have := c45 x a b; omega, fun z => by rw [n 42 z (by omega)]; exact c42 z, fun z => by rw [n 43 z (by omega)]; exact c43 z⟩, fun x a b => by rw [n 46 x (by omega), n 50 x (by omega)]; exact kE x a b⟩
theorem ask_bgn {m : mS} {sc j : Int} (hs : 0 ≤ sc ∧ sc < 3) (hj : 0 ≤ j ∧ j < 12) : ∀ x, 0 ≤ x → x < 12 → ask (mbgn m sc j) x ≤ ask m x + (if x = j then 1 else 0) := by
  intro x x0 x1
  have q : ∀ z, z ≠ 12 * sc + j → mbgn m sc j 36 z = m 36 z := fun z hz => mbgn_z m sc j 36 z hz (by decide) (by decide) (by decide)
  have r : ∀ y, 0 ≤ a1 y ∧ a1 y ≤ 1 := fun y => by unfold a1; split <;> omega
  unfold ask
  have cs : sc = 0 ∨ sc = 1 ∨ sc = 2 := by omega
  by_cases cx : x = j
  · rw [if_pos cx]
    have r0 := r (mbgn m sc j 36 x)
    have r1 := r (mbgn m sc j 36 (12 + x))
    have r2 := r (mbgn m sc j 36 (24 + x))
    have s0 := r (m 36 x)
    have s1 := r (m 36 (12 + x))
    have s2 := r (m 36 (24 + x))
    rcases cs with rfl | rfl | rfl
    · rw [q (12 + x) (by omega), q (24 + x) (by omega)]; omega
    · rw [q x (by omega), q (24 + x) (by omega)]; omega
    · rw [q x (by omega), q (12 + x) (by omega)]; omega
  · rw [if_neg cx, q x (by omega), q (12 + x) (by omega), q (24 + x) (by omega)]
    omega
theorem KK_wks {b : Int} {g p : Int → Int} {c : Int} {m : mS} (h : KK b g p 100 c m) (hc : c ≤ 100000000) (hb : 0 ≤ b ∧ b ≤ 80000) {sc : Int} (hs : 0 ≤ sc ∧ sc < 3) (hg : ∀ j, 0 ≤ j → j < 12 → g j ≤ 1000) : ∀ n : Nat, (n : Int) ≤ m 10 0 → KK (b + 5 * n) g p 100 (c + 3 * n) (wks m sc n) ∧ ∀ x, 0 ≤ x → x < 12 → ask (wks m sc n) x ≤ ask m x + (if x < n then 1 else 0) := by
  intro n
  have h12 := h.2.2.1.2.2.2.2
  induction n with
  | zero =>
    intro _
    refine ⟨?_, fun x a b => ?_⟩
    · rw [show b + 5 * ((0 : Nat) : Int) = b by omega, show c + 3 * ((0 : Nat) : Int) = c by omega]; exact h
    · show ask m x ≤ _
      split <;> omega
  | succ n ih =>
    intro hn
    obtain ⟨i1, i2⟩ := ih (by omega)
    have e2 : wks m sc (n + 1) = if wkO (wks m sc n) sc n = true then mbgn (wks m sc n) sc n else wks m sc n := rfl
    have e10 : wks m sc n 10 0 = m 10 0 := wks_k m sc 10 0 (by omega) (by decide) (by decide) (by decide) n
    rw [e2, show b + 5 * ((n + 1 : Nat) : Int) = b + 5 * n + 5 by omega, show c + 3 * ((n + 1 : Nat) : Int) = c + 3 * n + 3 by omega]
    split
    · refine ⟨KK_bgn i1 (by omega) (by omega) hs (by rw [e10]; omega) (hg n (by omega) (by omega)), fun x a b => ?_⟩
      have q1 := ask_bgn (m := wks m sc n) hs (j := n) (by omega) x a b
      have q2 := i2 x a b
      by_cases cx : x = n
      · rw [if_pos cx] at q1
        rw [if_neg (by omega)] at q2
        rw [if_pos (by omega)]
        omega
      · rw [if_neg cx] at q1
        by_cases cy : x < n
        · rw [if_pos cy] at q2
          rw [if_pos (by omega)]
          omega
        · rw [if_neg cy] at q2
          split <;> omega
    · refine ⟨?_, fun x a b => ?_⟩
      · have i3 := KK_mono i1 (show c + 3 * (n : Int) ≤ c + 3 * n + 3 by omega)
        obtain ⟨hM, hE, ⟨hr, hR, hL, h51, h12⟩, hC, kE⟩ := i3
        exact ⟨hM, hE, ⟨hr, fun s x a1 a2 a3 a4 => kr_mono (hR s x a1 a2 a3 a4) (by omega) (Int.le_refl _), KL_of hL (by omega) h12 (Int.le_refl _) (le12_r g) (fun _ => Int.le_refl _) (fun _ q => ⟨q, rfl, rfl⟩) rfl (fun _ => rfl), h51, h12⟩, hC, kE⟩
      · have q2 := i2 x a b
        by_cases cy : x < n
        · rw [if_pos cy] at q2
          rw [if_pos (by omega)]
          omega
        · rw [if_neg cy] at q2
          split <;> omega
theorem KK_b {b b' : Int} {g p : Int → Int} {a c : Int} {m : mS} (h : KK b g p a c m) (hb : b ≤ b') : KK b' g p a c m := by
  obtain ⟨hM, hE, ⟨hr, hR, hL, h51, h12⟩, hC, kE⟩ := h
  exact ⟨hM, hE, ⟨hr, fun s x a1 a2 a3 a4 => kr_mono (hR s x a1 a2 a3 a4) (by omega) (Int.le_refl _), KL_of hL (by omega) h12 (Int.le_refl _) (le12_r g) (fun _ => Int.le_refl _) (fun _ q => ⟨q, rfl, rfl⟩) rfl (fun _ => rfl), h51, h12⟩, hC, kE⟩
/-- crash -/
theorem KK_crash {b : Int} {g p : Int → Int} {c : Int} {m : mS} (h : KK b g p 100 c m) (hb : 0 ≤ b) {sc : Int} (hs : 0 ≤ sc ∧ sc ≤ 2) : KK b g p 100 c (mcr (up m 42 sc 1) sc (12 * sc + 12)) ∧ ∀ z, mcr (up m 42 sc 1) sc (12 * sc + 12) 36 z = 1 → m 36 z = 1 := by
  obtain ⟨hM, hE, ⟨hr, hR, hL, h51, h12⟩, ⟨c52, c45, c42, c43⟩, kE⟩ := h
  have n : ∀ k z, k ≠ 34 → k ≠ 35 → k ≠ 36 → k ≠ 40 → k ≠ 42 → mcr (up m 42 sc 1) sc (12 * sc + 12) k z = m k z := by
    intro k z a1 a2 a3 a4 a5
    unfold mcr
    split
    · rw [if_neg (show ¬ (k = 34 ∨ k = 35 ∨ k = 36) by omega), up_k _ _ _ _ a5]
    · rw [up_k _ _ _ _ a5]
  have o : ∀ k z, ¬ (12 * sc ≤ z ∧ z < 12 * sc + 12) → k ≠ 42 → mcr (up m 42 sc 1) sc (12 * sc + 12) k z = m k z := by
    intro k z a1 a2
    unfold mcr
    rw [if_neg a1, up_k _ _ _ _ a2]
  have e0 : ∀ k z, (12 * sc ≤ z ∧ z < 12 * sc + 12) → k = 34 ∨ k = 35 ∨ k = 36 → mcr (up m 42 sc 1) sc (12 * sc + 12) k z = 0 := by
    intro k z a1 a2
    unfold mcr
    rw [if_pos a1, if_pos a2]
  have e40 : ∀ z, (12 * sc ≤ z ∧ z < 12 * sc + 12) → mcr (up m 42 sc 1) sc (12 * sc + 12) 40 z = -9 := by
    intro z a1
    unfold mcr
    rw [if_pos a1, if_neg (by omega), if_pos rfl]
  have e42 : ∀ z, mcr (up m 42 sc 1) sc (12 * sc + 12) 42 z = if z = sc then 1 else m 42 z := by
    intro z
    unfold mcr
    split
    · rw [if_neg (by omega), if_neg (by omega), up_z]
    · rw [up_z]
  generalize mcr (up m 42 sc 1) sc (12 * sc + 12) = m' at *
  have hr' : rg m' := by
    intro k z a b
    by_cases ci : 12 * sc ≤ z ∧ z < 12 * sc + 12
    · by_cases c0 : k = 34 ∨ k = 35 ∨ k = 36
      · rw [e0 k z ci c0]; omega
      · by_cases c4 : k = 40
        · subst c4; rw [e40 z ci]; omega
        · by_cases c2 : k = 42
          · subst c2; rw [e42]; split
            · omega
            · exact hr 42 z a b
          · rw [n k z (by omega) (by omega) (by omega) c4 c2]; exact hr k z a b
    · by_cases c2 : k = 42
      · subst c2; rw [e42]; split
        · omega
        · exact hr 42 z a b
      · rw [o k z ci c2]; exact hr k z a b
  have z36 : ∀ z, m' 36 z = 1 → ¬ (12 * sc ≤ z ∧ z < 12 * sc + 12) := by
    intro z hz ci
    rw [e0 36 z ci (by omega)] at hz
    omega
  have e10 := n 10 0 (by decide) (by decide) (by decide) (by decide) (by decide)
  refine ⟨⟨MC_of hM hr' (fun k z q => n k z (by omega) (by omega) (by omega) (by omega) (by omega)) (fun k z q _ => n k z (by omega) (by omega) (by omega) (by omega) (by omega)), fun x a b => eO_of (hE x a b) (fun k z q r => n k z (by omega) (by omega) (by omega) (by omega) (by omega)), ⟨hr', fun s x a1 a2 a3 a4 => ?_, KL_of hL (Int.le_refl _) h12 (by omega) (le12_r g) (fun i => by rw [n 30 i (by decide) (by decide) (by decide) (by decide) (by decide)]; omega) (fun i hi => ?_) (n 53 0 (by decide) (by decide) (by decide) (by decide) (by decide)) (fun z => n 54 z (by decide) (by decide) (by decide) (by decide) (by decide)), by rw [n 51 0 (by decide) (by decide) (by decide) (by decide) (by decide)]; exact h51, by rw [e10]; exact h12⟩, ⟨by rw [n 52 0 (by decide) (by decide) (by decide) (by decide) (by decide)]; exact c52, fun x a b => by rw [n 45 x (by decide) (by decide) (by decide) (by decide) (by decide)]; exact c45 x a b, fun z => ?_, fun z => by rw [n 43 z (by decide) (by decide) (by decide) (by decide) (by decide)]; exact c43 z⟩, fun x a b => by rw [n 46 x (by decide) (by decide) (by decide) (by decide) (by decide), n 50 x (by decide) (by decide) (by decide) (by decide) (by decide)]; exact kE x a b⟩, fun z hz => ?_⟩
  · by_cases ci : 12 * sc ≤ 12 * s + x ∧ 12 * s + x < 12 * sc + 12
    · obtain ⟨q1, q2, q3, q4, q5, q6, q7, q8, q9, q10, q11, q12, q13⟩ := hR s x a1 a2 a3 a4
      unfold kr
      rw [e0 34 _ ci (by omega), e0 35 _ ci (by omega), e0 36 _ ci (by omega), e40 _ ci, n 30 _ (by decide) (by decide) (by decide) (by decide) (by decide), n 31 _ (by decide) (by decide) (by decide) (by decide) (by decide), n 32 _ (by decide) (by decide) (by decide) (by decide) (by decide), n 33 _ (by decide) (by decide) (by decide) (by decide) (by decide), n 38 _ (by decide) (by decide) (by decide) (by decide) (by decide), n 39 _ (by decide) (by decide) (by decide) (by decide) (by decide)]
      exact ⟨q1, by omega, q3, q4, q5, by omega, by omega, by omega, by omega, fun _ => by omega, q11, q12, fun q => absurd q (by omega)⟩
    · exact kr_of (hR s x a1 a2 a3 a4) (fun k k1 k2 => o k _ ci (by omega)) (by omega)
  · have ci := z36 i hi
    rw [o 36 i ci (by decide)] at hi
    exact ⟨hi, o 35 i ci (by decide), o 39 i ci (by decide)⟩
  · rw [e42]; split
    · omega
    · exact c42 z
  · have ci := z36 z hz
    rw [o 36 z ci (by decide)] at hz
    exact hz
theorem KK_lose {b : Int} {g p : Int → Int} {c : Int} {m : mS} (h : KK b g p 100 c m) {i : Int} (hi : 0 ≤ i ∧ i < m 53 0) : KK b g p 100 c (mrem m i) := by
  have s := h.2.2.1.2.2.1.1
  exact (KK_rem h hi (fun l l0 l1 => by unfold ea; rw [if_pos (by omega), if_pos (by split <;> omega)])).1
theorem KK_twin {b : Int} {g p : Int → Int} {c : Int} {m : mS} (h : KK b g p 100 c m) (hc : c ≤ 1000000000) {i : Int} (hi : 0 ≤ i ∧ i < m 53 0) (h60 : m 53 0 ≠ 60) : KK b g p 100 (c + 1) (up (mtw m i 8) 53 0 (m 53 0 + 1)) ∧ ∀ z, up (mtw m i 8) 53 0 (m 53 0 + 1) 36 z = m 36 z := by
  obtain ⟨hM, hE, hS, ⟨c52, c45, c42, c43⟩, kE⟩ := h
  have s := hS.2.2.1.1
  rw [twin_eq (by omega)]
  have e1 : ∀ l, l < 100 → ea 100 l = 1 := fun l hl => by unfold ea; rw [if_pos hl]
  have hh := hS.2.2.1.2 i hi.1 hi.2
  rw [e1 i (by omega)] at hh
  have hr := hS.1
  have hS' := KS_snd hS (by omega) (kd := m 54 (8 * i)) (fr := m 54 (8 * i + 1)) (to := m 54 (8 * i + 2)) (j := m 54 (8 * i + 3)) (bt := m 54 (8 * i + 4)) (x := m 54 (8 * i + 5)) (u := m 54 (8 * i + 6)) (gd := m 54 (8 * i + 7)) (by rw [e1 _ (by omega)]; exact hh) (rg_of hr 54 _) (rg_of hr 54 _) (rg_of hr 54 _) (rg_of hr 54 _)
  have n : ∀ k z, k ≠ 54 → k ≠ 51 → k ≠ 53 → msnd m (m 54 (8 * i)) (m 54 (8 * i + 1)) (m 54 (8 * i + 2)) (m 54 (8 * i + 3)) (m 54 (8 * i + 4)) (m 54 (8 * i + 5)) (m 54 (8 * i + 6)) (m 54 (8 * i + 7)) k z = m k z := fun k z a b c => msnd_k _ _ _ _ _ _ _ _ _ _ _ a b c
  exact ⟨⟨MC_of hM hS'.1 (fun k z q => n k z (by omega) (by omega) (by omega)) (fun k z q _ => n k z (by omega) (by omega) (by omega)), fun x a b => eO_of (hE x a b) (fun k z q r => n k z (by omega) (by omega) (by omega)), hS', ⟨by rw [n 52 0 (by decide) (by decide) (by decide)]; omega, fun x a b => by rw [n 45 x (by decide) (by decide) (by decide)]; have := c45 x a b; omega, fun z => by rw [n 42 z (by decide) (by decide) (by decide)]; exact c42 z, fun z => by rw [n 43 z (by decide) (by decide) (by decide)]; exact c43 z⟩, fun x a b => by rw [n 46 x (by decide) (by decide) (by decide), n 50 x (by decide) (by decide) (by decide)]; exact kE x a b⟩, fun z => n 36 z (by decide) (by decide) (by decide)⟩
