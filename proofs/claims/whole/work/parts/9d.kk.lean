/-! all that is always so -/
def KC (c : Int) (m : mS) : Prop := m 52 0 ≤ c ∧ (∀ j, 0 ≤ j → j < 12 → m 45 j ≤ c) ∧ (∀ z, m 42 z = 0 ∨ m 42 z = 1) ∧ (∀ z, m 43 z = 0 ∨ m 43 z = 1)
def KE (g : Int → Int) (m : mS) : Prop := ∀ j, 0 ≤ j → j < 12 → m 46 j ≤ m 50 j ∧ m 50 j ≤ g j
def KK (b : Int) (g p : Int → Int) (a c : Int) (m : mS) : Prop := MC m ∧ ME m ∧ KS b g p a c m ∧ KC c m ∧ KE g m
theorem KK_IV {b : Int} {g p : Int → Int} {a c : Int} {m : mS} (h : KK b g p a c m) (hb : b ≤ 100000) (hc : c ≤ 1000000000) (hg : ∀ j, 0 ≤ j → j < 12 → g j ≤ 298) : IV m := by
  obtain ⟨hM, hE, ⟨hr, hR, hL, h51, h12⟩, ⟨c52, c45, c42, c43⟩, kE⟩ := h
  have hi : ∀ i, 0 ≤ i → i < 36 → kr b (g (i % 12)) m i (i % 12) := fun i i0 i1 => by
    have := hR (i / 12) (i % 12) (by omega) (by omega) (by omega) (by omega)
    rw [show 12 * (i / 12) + i % 12 = i by omega] at this
    exact this
  refine ⟨hM, ⟨fun i i0 i1 => ?_, hL.1, fun l l0 l1 => ?_, c42, c43⟩, hE, ⟨by omega, by omega, fun j a b => by have := c45 j a b; omega, fun i a b => ?_⟩, fun j a b => ?_, fun l l0 l1 => ?_⟩
  · obtain ⟨q1, q2, q3, q4, q5, q6, q7, q8, q9, q10, q11, q12, q13⟩ := hi i i0 i1
    exact ⟨by omega, by omega, q4, q5, q6, q7, q8.1, q9, q10⟩
  · obtain ⟨⟨q0, q1, q2, q3, q4, q5, q6, q7, q8⟩, -⟩ := hL.2 l l0 l1
    unfold lI
    dsimp only
    rw [Int.add_zero]
    exact ⟨q0, q1, q2, q3, q4, fun k => by have := q5 k; omega, fun k => by have := q6 k; omega, q7, q8⟩
  · obtain ⟨q1, q2, q3, q4, q5, q6, q7, q8, q9, q10, q11, q12, q13⟩ := hi i a b
    have := hg (i % 12) (by omega) (by omega)
    omega
  · have := kE j a b
    have := hg j a b
    omega
  · exact (hL.2 l l0 l1).2.2.2.2.2
theorem mdel_n {m : mS} {to j : Int} (h5 : m 55 0 ≠ 5) (k : Nat) (z : Int) (h : k < 30 ∨ k = 42 ∨ k = 43 ∨ (46 ≤ k ∧ k ≤ 50) ∨ k = 52 ∨ 55 ≤ k ∨ ((k = 44 ∨ k = 45) ∧ z ≠ j)) : mdel m to j k z = m k z := by
  unfold mdel
  rw [if_neg h5]
  split
  · rfl
  split
  · unfold mask
    split
    · rw [msnd_k _ _ _ _ _ _ _ _ _ _ _ (by omega) (by omega) (by omega), up_ne _ _ (by omega)]
    · rw [msnd_k _ _ _ _ _ _ _ _ _ _ _ (by omega) (by omega) (by omega)]
  split
  · unfold mprm
    split
    · unfold mdec mdec2
      split
      · unfold mend
        rw [up_ne _ _ (by omega), up_ne _ _ (by omega), up_ne _ _ (by omega), up_ne _ _ (by omega), mrd_k _ _ _ _ (by omega) (by omega) (by omega)]
      · unfold mcl0
        rw [msto_k _ _ _ _ _ _ _ _ _ (by omega) (by omega) (by omega), up_ne _ _ (by omega), up_ne _ _ (by omega), up_ne _ _ (by omega), up_ne _ _ (by omega), up_ne _ _ (by omega), up_ne _ _ (by omega), up_ne _ _ (by omega), mrd_k _ _ _ _ (by omega) (by omega) (by omega)]
    · rfl
  split
  · unfold mwri
    split
    · rw [msnd_k _ _ _ _ _ _ _ _ _ _ _ (by omega) (by omega) (by omega), up_ne _ _ (by omega), up_ne _ _ (by omega), up_ne _ _ (by omega), up_ne _ _ (by omega)]
    · rw [msnd_k _ _ _ _ _ _ _ _ _ _ _ (by omega) (by omega) (by omega)]
  split
  · unfold mfin
    split
    · unfold mend
      rw [up_ne _ _ (by omega), up_ne _ _ (by omega), up_ne _ _ (by omega)]
      unfold mfi2
      split
      · unfold mfi1; rw [up_ne _ _ (by omega)]
      · rw [msnd_k _ _ _ _ _ _ _ _ _ _ _ (by omega) (by omega) (by omega)]
        unfold mfi1; rw [up_ne _ _ (by omega)]
    · rfl
  · unfold mref
    split
    · unfold mend
      rw [up_ne _ _ (by omega), up_ne _ _ (by omega), up_ne _ _ (by omega), up_ne _ _ (by omega)]
    · rw [up_ne _ _ (by omega)]
theorem mdel_45 {m : mS} {to j : Int} (h5 : m 55 0 ≠ 5) : mdel m to j 45 j ≤ m 45 j + 1 := by
  unfold mdel
  rw [if_neg h5]
  split
  · omega
  split
  · unfold mask
    split
    · rw [msnd_k _ _ _ _ _ _ _ _ _ _ _ (by decide) (by decide) (by decide), up_k _ _ _ _ (by decide)]; omega
    · rw [msnd_k _ _ _ _ _ _ _ _ _ _ _ (by decide) (by decide) (by decide)]; omega
  split
  · unfold mprm
    split
    · unfold mdec mdec2
      split
      · unfold mend
        rw [up_k _ _ _ _ (by decide), up_k _ _ _ _ (by decide), up_k _ _ _ _ (by decide), up_k _ _ _ _ (by decide), mrd_k _ _ _ _ (by decide) (by decide) (by decide)]; omega
      · unfold mcl0
        rw [msto_k _ _ _ _ _ _ _ _ _ (by decide) (by decide) (by decide), up_k _ _ _ _ (by decide), up_k _ _ _ _ (by decide), up_k _ _ _ _ (by decide), up_k _ _ _ _ (by decide), up_k _ _ _ _ (by decide), up_k _ _ _ _ (by decide), up_k _ _ _ _ (by decide), mrd_k _ _ _ _ (by decide) (by decide) (by decide)]; omega
    · omega
  split
  · unfold mwri
    split
    · rw [msnd_k _ _ _ _ _ _ _ _ _ _ _ (by decide) (by decide) (by decide), up_k _ _ _ _ (by decide), up_k _ _ _ _ (by decide), up_k _ _ _ _ (by decide), up_k _ _ _ _ (by decide)]; omega
    · rw [msnd_k _ _ _ _ _ _ _ _ _ _ _ (by decide) (by decide) (by decide)]; omega
  split
  · unfold mfin
    split
    · unfold mend
      rw [up_k _ _ _ _ (by decide), up_k _ _ _ _ (by decide), up_k _ _ _ _ (by decide)]
      have f1 : mfi1 m (12 * to + j) j 45 j ≤ m 45 j + 1 := by unfold mfi1; rw [up_e]; split <;> omega
      unfold mfi2
      split
      · exact f1
      · rw [msnd_k _ _ _ _ _ _ _ _ _ _ _ (by decide) (by decide) (by decide)]; exact f1
    · omega
  · unfold mref
    split
    · unfold mend
      rw [up_k _ _ _ _ (by decide), up_k _ _ _ _ (by decide), up_k _ _ _ _ (by decide), up_k _ _ _ _ (by decide)]; omega
    · rw [up_k _ _ _ _ (by decide)]; omega
theorem MC_of2 {m m' : mS} (h : MC m) (hr : rg m') (hk : ∀ k z, ¬ ((30 ≤ k ∧ k ≤ 55) ∨ (7 ≤ k ∧ k ≤ 9)) → m' k z = m k z) (h4 : ∀ k z, k = 44 ∨ k = 45 ∨ k = 46 → m 10 0 ≤ z → m' k z = m k z) (he : ∀ j, 0 ≤ j → j < 12 → eI m' j) : MC m' := by
  obtain ⟨-, c0, c1, c10, cz, cj, co⟩ := h
  have e0 := hk 0 0 (by omega)
  have e1 := hk 1 0 (by omega)
  have e10 := hk 10 0 (by omega)
  have cf : cfg m m' := by
    intro k z q
    refine hk k z ?_
    unfold cfc at q
    simp at q
    omega
  have f : ∀ k z, 11 ≤ k → k ≤ 29 → m' k z = m k z := fun k z a b => hk k z (by omega)
  have aw : ∀ j, awO m' j = awO m j := fun j => awO_of (fun z => f 27 z (by omega) (by omega)) (fun z => f 26 z (by omega) (by omega))
  unfold MC
  rw [e0, e1, e10]
  refine ⟨hr, c0, c1, c10, ?_, ?_, ?_⟩
  · intro z z1 z2
    obtain ⟨a, b⟩ := cz z z1 z2
    rw [hk 2 z (by omega), hk 5 z (by omega)]
    exact ⟨(cfg_zI cf z).mpr a, b⟩
  · intro j j1 j2
    obtain ⟨a, b, c, d, e⟩ := cj j j1 j2
    refine ⟨(cfg_jI cf j).mpr a, he j j1 j2, ?_, ?_, ?_⟩
    · unfold cJ
      rw [aw j, f 23 j (by omega) (by omega), f 24 j (by omega) (by omega), f 25 j (by omega) (by omega), f 26 j (by omega) (by omega)]
      exact c
    · intro q
      have z := d q
      unfold zJ
      rw [f 12 j (by omega) (by omega), f 13 j (by omega) (by omega), f 14 j (by omega) (by omega), f 15 j (by omega) (by omega), f 16 j (by omega) (by omega), f 17 j (by omega) (by omega), f 20 j (by omega) (by omega), f 28 j (by omega) (by omega), f 22 j (by omega) (by omega), f 23 j (by omega) (by omega), f 24 j (by omega) (by omega), f 25 j (by omega) (by omega), f 26 j (by omega) (by omega), h4 44 j (by omega) q, h4 45 j (by omega) q, h4 46 j (by omega) q]
      exact z
    · intro q
      rw [f 11 j (by omega) (by omega), f 26 j (by omega) (by omega)]
      refine ⟨(e q).1, fun i i1 i2 => ?_⟩
      rw [f 27 _ (by omega) (by omega)]
      exact (e q).2 i i1 i2
  · intro j j1 j2
    rw [f 26 j (by omega) (by omega)]
    refine ⟨(co j j1 j2).1, fun i i1 i2 => ?_⟩
    rw [f 27 _ (by omega) (by omega)]
    exact (co j j1 j2).2 i i1 i2
theorem KK_tk {b : Int} {g p : Int → Int} {a c : Int} {m : mS} (h : KK b g p a c m) (hc : c ≤ 1000000000) {to j : Int} (hj : 0 ≤ j ∧ j < m 10 0) (h4 : m 55 4 ≤ g j) (h5 : 0 ≤ m 55 5 ∧ m 55 5 ≤ 21038399) (hg : g j ≤ 298) : KK b g p a (c + 1) (mtk m to j) ∧ m 53 0 ≤ mtk m to j 53 0 ∧ ∀ z, mtk m to j 36 z = m 36 z := by
  obtain ⟨hM, hE, hS, ⟨c52, c45, c42, c43⟩, kE⟩ := id h
  have h10 := hM.2.2.2.1
  have hr := hM.1
  have h51 := hS.2.2.2.1
  unfold mtk
  split
  · exact ⟨⟨hM, hE, KS_mono hS (by omega), ⟨by omega, fun j a b => by have := c45 j a b; omega, c42, c43⟩, kE⟩, by omega, fun _ => rfl⟩
  split
  · rename_i cd ct
    have eJ := (hM.2.2.2.2.2.1 j hj.1 (by omega)).2.1
    have kJ := kE j hj.1 (by omega)
    obtain ⟨o1, o2, o3⟩ := hE j hj.1 (by omega)
    generalize hm' : up (up (up (up (up m 50 j (m 55 4)) 49 j (m 55 5)) 47 (300 * j + m 46 j) (m 55 5)) 48 (300 * j + m 46 j) (m 55 4)) 46 j (m 46 j + 1) = m'
    have um : ∀ k z, ¬ (46 ≤ k ∧ k ≤ 50) → m' k z = m k z := fun k z h => by
      rw [← hm', up_k _ _ _ _ (by omega), up_k _ _ _ _ (by omega), up_k _ _ _ _ (by omega), up_k _ _ _ _ (by omega), up_k _ _ _ _ (by omega)]
    have m46 : ∀ z, m' 46 z = if z = j then m 46 j + 1 else m 46 z := fun z => by
      rw [← hm', up_z]
      split
      · rfl
      · rw [up_k _ _ _ _ (by decide), up_k _ _ _ _ (by decide), up_k _ _ _ _ (by decide), up_k _ _ _ _ (by decide)]
    have m47 : ∀ z, m' 47 z = if z = 300 * j + m 46 j then m 55 5 else m 47 z := fun z => by
      rw [← hm', up_k _ _ _ _ (by decide), up_k _ _ _ _ (by decide), up_z, up_k _ _ _ _ (by decide), up_k _ _ _ _ (by decide)]
    have m48 : ∀ z, m' 48 z = if z = 300 * j + m 46 j then m 55 4 else m 48 z := fun z => by
      rw [← hm', up_k _ _ _ _ (by decide), up_z, up_k _ _ _ _ (by decide), up_k _ _ _ _ (by decide), up_k _ _ _ _ (by decide)]
    have m49 : ∀ z, m' 49 z = if z = j then m 55 5 else m 49 z := fun z => by
      rw [← hm', up_k _ _ _ _ (by decide), up_k _ _ _ _ (by decide), up_k _ _ _ _ (by decide), up_z, up_k _ _ _ _ (by decide)]
    have m50 : ∀ z, m' 50 z = if z = j then m 55 4 else m 50 z := fun z => by
      rw [← hm', up_k _ _ _ _ (by decide), up_k _ _ _ _ (by decide), up_k _ _ _ _ (by decide), up_k _ _ _ _ (by decide), up_z]
    have hr' : rg m' := by
      rw [← hm']
      exact rg_up (rg_up (rg_up (rg_up (rg_up hr _ _ (rg_of hr 55 4)) _ _ (rg_of hr 55 5)) _ _ (rg_of hr 55 5)) _ _ (rg_of hr 55 4)) _ _ (by have := eJ.1; omega)
    refine ⟨⟨MC_of2 hM hr' (fun k z q => um k z (by omega)) (fun k z q hz => ?_) (fun x x0 x1 => ?_), fun x x0 x1 => ?_, KS_k hS hr' (fun k z q => um k z (by omega)) (by rw [um 51 0 (by omega)]; omega), ⟨by rw [um 52 0 (by omega)]; omega, fun x a b => by rw [um 45 x (by omega)]; have := c45 x a b; omega, fun z => by rw [um 42 z (by omega)]; exact c42 z, fun z => by rw [um 43 z (by omega)]; exact c43 z⟩, fun x x0 x1 => ?_⟩, by rw [um 53 0 (by omega)]; omega, fun z => um 36 z (by omega)⟩
    · by_cases c46 : k = 46
      · subst c46; rw [m46, if_neg (by omega)]
      · exact um k z (by omega)
    · have eX := (hM.2.2.2.2.2.1 x x0 x1).2.1
      unfold eI
      rw [m46]
      by_cases cx : x = j
      · rw [if_pos cx]
        refine ⟨by have := eJ.1; omega, fun i i0 i1 => ?_⟩
        rw [m47]
        split
        · exact h5
        · rw [cx]; exact eJ.2 i i0 (by omega)
      · rw [if_neg cx]
        refine ⟨eX.1, fun i i0 i1 => ?_⟩
        have := eX.1
        have := eJ.1
        rw [m47, if_neg (by omega)]
        exact eX.2 i i0 i1
    · obtain ⟨x1', x2, x3⟩ := hE x x0 x1
      have eX := (hM.2.2.2.2.2.1 x x0 x1).2.1.1
      have eJ1 := eJ.1
      unfold eO
      rw [m46, m49, m50]
      by_cases cx : x = j
      · rw [if_pos cx, if_pos cx, if_pos cx, if_neg (by omega), if_neg (by omega)]
        rw [cx]
        refine ⟨fun i k i0 ik k1 => ?_, by rw [m47, if_pos (by omega)], by rw [m48, if_pos (by omega)]⟩
        rw [m47, if_neg (by omega), m47]
        by_cases ck : k = m 46 j
        · rw [if_pos (by omega)]
          have e49 : m 49 j = m 47 (300 * j + (m 46 j - 1)) := by rw [o2, if_neg (by omega)]
          by_cases ci : i = m 46 j - 1
          · rw [ci, ← e49]; exact ct.2
          · have := o1 i (m 46 j - 1) i0 (by omega) (by omega)
            rw [← e49] at this
            omega
        · rw [if_neg (by omega)]
          exact o1 i k i0 ik (by omega)
      · rw [if_neg cx, if_neg cx, if_neg cx]
        refine ⟨fun i k i0 ik k1 => ?_, ?_, ?_⟩
        · rw [m47, if_neg (by omega), m47, if_neg (by omega)]
          exact x1' i k i0 ik k1
        · rw [x2]
          by_cases c0 : m 46 x = 0
          · rw [if_pos c0, if_pos c0]
          · rw [if_neg c0, if_neg c0, m47, if_neg (by omega)]
        · rw [x3]
          by_cases c0 : m 46 x = 0
          · rw [if_pos c0, if_pos c0]
          · rw [if_neg c0, if_neg c0, m48, if_neg (by omega)]
    · rw [m46, m50]
      by_cases cx : x = j
      · rw [if_pos cx, if_pos cx, cx]; omega
      · rw [if_neg cx, if_neg cx]; exact kE x x0 x1
  · have uk : ∀ k z, k ≠ 52 → up m 52 0 (m 52 0 + 1) k z = m k z := fun k z q => up_k _ _ _ _ q
    have q52 := rg_of hr 52 0
    have hr' := rg_up hr 52 0 (v := m 52 0 + 1) (by omega)
    refine ⟨⟨MC_of hM hr' (fun k z q => uk k z (by omega)) (fun k z q _ => uk k z (by omega)), fun x x0 x1 => eO_of (hE x x0 x1) (fun k z a b => uk k z (by omega)), KS_k hS hr' (fun k z q => uk k z (by omega)) (by rw [uk 51 0 (by decide)]; omega), ⟨by rw [up_e]; omega, fun x a b => by rw [uk 45 x (by decide)]; have := c45 x a b; omega, fun z => by rw [uk 42 z (by decide)]; exact c42 z, fun z => by rw [uk 43 z (by decide)]; exact c43 z⟩, fun x x0 x1 => by rw [uk 46 x (by decide), uk 50 x (by decide)]; exact kE x x0 x1⟩, by rw [uk 53 0 (by decide)]; omega, fun z => uk 36 z (by decide)⟩
/-- one letter -/
theorem KK_del {b : Int} {g p : Int → Int} {a c e : Int} {m : mS} (h : KK b g p a c m) (hc : c ≤ 100000000) (hb : 0 ≤ b ∧ b ≤ 90000) (ha : a ≤ m 53 0) (he : e = 0 ∨ e = 1) (hg : ∀ j, 0 ≤ j → j < 12 → g j ≤ p j + 1 - e ∧ g j ≤ 298) (hh : kl b g p m e (m 55 0) (m 55 1) (m 55 2) (m 55 3) (m 55 4) (m 55 5) (m 55 6) (m 55 7)) : ∃ g', le12 g g' ∧ (∀ j, 0 ≤ j → j < 12 → g' j ≤ p j + 1 - e ∧ g' j + ask (mdel m (m 55 2) (m 55 3)) j ≤ g j + ask m j) ∧ KK b g' p a (c + 3) (mdel m (m 55 2) (m 55 3)) ∧ m 53 0 ≤ mdel m (m 55 2) (m 55 3) 53 0 := by
  obtain ⟨⟨q0, q1, q2, q3, q4, q5, q6, q7, q8⟩, x0, x1, x2, x5, x7⟩ := hh
  obtain ⟨hM, hE, hS, ⟨c52, c45, c42, c43⟩, kE⟩ := id h
  have h10 := hM.2.2.2.1
  have j12 : 0 ≤ m 55 3 ∧ m 55 3 < 12 := by omega
  have hgj := hg (m 55 3) j12.1 j12.2
  by_cases k5 : m 55 0 = 5
  · have e1 : mdel m (m 55 2) (m 55 3) = mtk m (m 55 2) (m 55 3) := by unfold mdel; rw [if_pos k5]
    rw [e1]
    obtain ⟨y1, y2, y3⟩ := KK_tk h (by omega) (to := m 55 2) (j := m 55 3) q4 (x5 k5) (q8 (Or.inr k5)) hgj.2
    refine ⟨g, le12_r g, fun x a b => ⟨(hg x a b).1, ?_⟩, ?_, y2⟩
    · have := ask_le (m := m) (m' := mtk m (m 55 2) (m 55 3)) (fun z hz => by rw [y3] at hz; exact hz) x
      omega
    · obtain ⟨z1, z2, z3, ⟨z4, z5, z6⟩, z7⟩ := y1
      exact ⟨z1, z2, KS_mono z3 (by omega), ⟨by omega, fun x a b => by have := z5 x a b; omega, z6⟩, z7⟩
  · have key : (∃ g', le12 g g' ∧ (∀ j, 0 ≤ j → j < 12 → g' j ≤ p j + 1 - e ∧ g' j + ask (mdel m (m 55 2) (m 55 3)) j ≤ g j + ask m j) ∧ KS b g' p a (c + 3) (mdel m (m 55 2) (m 55 3)) ∧ m 53 0 ≤ mdel m (m 55 2) (m 55 3) 53 0) := by
      have same : ∀ m', KS b g p a (c + 3) m' → (∀ z, m' 36 z = 1 → m 36 z = 1) → m 53 0 ≤ m' 53 0 → ∃ g', le12 g g' ∧ (∀ j, 0 ≤ j → j < 12 → g' j ≤ p j + 1 - e ∧ g' j + ask m' j ≤ g j + ask m j) ∧ KS b g' p a (c + 3) m' ∧ m 53 0 ≤ m' 53 0 := by
        intro m' k1 k2 k3
        exact ⟨g, le12_r g, fun x a b => ⟨(hg x a b).1, by have := ask_le k2 x; omega⟩, k1, k3⟩
      unfold mdel
      rw [if_neg k5]
      split
      · exact same m (KS_mono hS (by omega)) (fun _ q => q) (by omega)
      split
      · rename_i k0
        obtain ⟨y0, y1⟩ := x0 k0
        have q5' := q5 k5
        obtain ⟨z1, z2⟩ := KS_ask hS (by omega) (by omega) (to := m 55 2) (j := m 55 3) (fr := m 55 1) (bt := m 55 4) q2 q4 q1 q5' y1 (by omega) ha
        refine same _ (KS_mono z1 (by omega)) (fun z hz => ?_) z2
        unfold mask at hz
        split at hz
        · rw [msnd_k _ _ _ _ _ _ _ _ _ _ _ (by decide) (by decide) (by decide), up_k _ _ _ _ (by decide)] at hz; exact hz
        · rw [msnd_k _ _ _ _ _ _ _ _ _ _ _ (by decide) (by decide) (by decide)] at hz; exact hz
      split
      · rename_i k0 k1
        obtain ⟨y1, y2, y3, y4, y5⟩ := x1 k1
        obtain ⟨g', z1, z2, z3, z4, z5, z6, z7⟩ := KS_prm (e := e) hS hM (by omega) (by omega) (to := m 55 2) (j := m 55 3) q2 q4 ha (q7 k1) y3 y4 y5 ⟨hgj.1, by omega⟩
        refine ⟨g', z1, fun x a b => ?_, z6, z7⟩
        by_cases cx : x = m 55 3
        · rw [cx]; exact ⟨z3, z4⟩
        · rw [z2 x cx]
          exact ⟨(hg x a b).1, by have := ask_le z5 x; omega⟩
      split
      · rename_i k0 k1 k2
        have q5' := q5 k5
        obtain ⟨z1, z2⟩ := KS_wri hS (by omega) (by omega) (to := m 55 2) (j := m 55 3) (fr := m 55 1) (bt := m 55 4) q2 q4 q1 q5' (q8 (Or.inl k2)) (x2 k2)
        refine same _ (KS_mono z1 (by omega)) (fun z hz => ?_) z2
        unfold mwri at hz
        split at hz
        · rw [msnd_k _ _ _ _ _ _ _ _ _ _ _ (by decide) (by decide) (by decide), up_k _ _ _ _ (by decide), up_k _ _ _ _ (by decide), up_k _ _ _ _ (by decide), up_k _ _ _ _ (by decide)] at hz; exact hz
        · rw [msnd_k _ _ _ _ _ _ _ _ _ _ _ (by decide) (by decide) (by decide)] at hz; exact hz
      split
      · rename_i k0 k1 k2 k3
        obtain ⟨z1, z2⟩ := KS_fin hS (by omega) hb.1 (to := m 55 2) (j := m 55 3) q2 q4 (by have := c45 _ j12.1 j12.2; omega) (by omega)
        refine same _ (KS_mono z1 (by omega)) (fun z hz => ?_) z2
        unfold mfin at hz
        split at hz
        · unfold mend at hz
          rw [up_k _ _ _ _ (by decide), up_z, up_k _ _ _ _ (by decide)] at hz
          split at hz
          · omega
          · unfold mfi2 at hz
            split at hz
            · unfold mfi1 at hz; rw [up_k _ _ _ _ (by decide)] at hz; exact hz
            · rw [msnd_k _ _ _ _ _ _ _ _ _ _ _ (by decide) (by decide) (by decide)] at hz
              unfold mfi1 at hz; rw [up_k _ _ _ _ (by decide)] at hz; exact hz
        · exact hz
      · rename_i k0 k1 k2 k3
        have z1 := KS_ref hS (to := m 55 2) (j := m 55 3) q2 q4 hb.1 (q6 (by omega))
        refine same _ (KS_mono z1 (by omega)) (fun z hz => ?_) ?_
        · unfold mref at hz
          split at hz
          · unfold mend at hz
            rw [up_k _ _ _ _ (by decide), up_z, up_k _ _ _ _ (by decide), up_k _ _ _ _ (by decide)] at hz
            split at hz
            · omega
            · exact hz
          · rw [up_k _ _ _ _ (by decide)] at hz; exact hz
        · unfold mref
          split
          · unfold mend; simp only [up_b, Nat.reduceEqDiff, eq_self, if_true, if_false, reduceIte]; omega
          · simp only [up_b, Nat.reduceEqDiff, eq_self, if_true, if_false, reduceIte]; omega
    obtain ⟨g', z1, z2, z3, z4⟩ := key
    have n := fun k z q => mdel_n (m := m) (to := m 55 2) (j := m 55 3) k5 k z q
    refine ⟨g', z1, z2, ⟨MC_of hM z3.1 (fun k z q => n k z (by omega)) (fun k z q hz => n k z (by omega)), fun x a b => eO_of (hE x a b) (fun k z q r => n k z (by omega)), z3, ⟨?_, fun x a b => ?_, fun z => by rw [n 42 z (by omega)]; exact c42 z, fun z => by rw [n 43 z (by omega)]; exact c43 z⟩, fun x a b => ?_⟩, z4⟩
    · rw [n 52 0 (by omega)]; omega
    · have h1 := c45 x a b
      by_cases cx : x = m 55 3
      · have h2 := mdel_45 (m := m) (to := m 55 2) (j := m 55 3) k5
        rw [cx] at h1 ⊢
        omega
      · rw [n 45 x (by omega)]; omega
    · rw [n 46 x (by omega), n 50 x (by omega)]
      have := kE x a b
      have := z1 x a b
      omega
