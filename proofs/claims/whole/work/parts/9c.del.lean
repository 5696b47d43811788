/-! one letter, and the numbers -/
theorem ea_0 {a l : Int} (h : a ≤ l) : ea a l = 0 := by unfold ea; rw [if_neg (by omega)]
theorem KS_ask {b : Int} {g p : Int → Int} {a c : Int} {m : mS} (h : KS b g p a c m) (hc : c ≤ 1000000000) (hb : b ≤ 100000) {to j fr bt : Int} (ht : 0 ≤ to ∧ to < 3) (hj : 0 ≤ j ∧ j < m 10 0) (hfr : 0 ≤ fr ∧ fr < 3) (hbt : 0 < bt ∧ bt ≤ b) (hq : bt ≤ m 30 (12 * fr + j)) (hg : g j ≤ p j ∧ g j ≤ 1000) (ha : a ≤ m 53 0) : KS b g p a (c + 1) (mask m fr (12 * to + j) to j bt) ∧ m 53 0 ≤ mask m fr (12 * to + j) to j bt 53 0 := by
  have h12 := h.2.2.2.2
  have hr := h.1
  have s0 := h.2.2.1.1
  obtain ⟨q1, q2, q3, q4, q5, q6, q7, q8, q9, q10, q11, q12, q13⟩ := h.2.1 to j ht.1 ht.2 hj.1 (by omega)
  obtain ⟨r1, r2, r3, r4, r5, r6, r7, r8, r9, r10, r11, r12, r13⟩ := h.2.1 fr j hfr.1 hfr.2 hj.1 (by omega)
  unfold mask
  split
  · rename_i cb
    have h0 : KS b g p a c (up m 30 (12 * to + j) bt) := by
      refine KS_reg h (le12_r g) (sc := to) (j := j) ht (by omega) (rg_up hr _ _ (by omega)) (fun k z _ _ hz => up_ne _ _ (fun q => hz q.2)) (fun k z q => up_k _ _ _ _ (by omega)) ?_ (by rw [up_e]; omega) (fun q => ?_)
      · unfold kr
        simp only [up_b, Nat.reduceEqDiff, eq_self, if_true, if_false, reduceIte]
        exact ⟨by omega, q2, q3, q4, q5, q6, q7, q8, q9, q10, q11, q12, q13⟩
      · simp only [up_b, Nat.reduceEqDiff, eq_self, if_true, if_false, reduceIte] at q ⊢
        exact ⟨q, trivial, trivial⟩
    refine ⟨KS_snd h0 (by omega) ?_ (by omega) (rg_of hr 31 _) (rg_of hr 32 _) (rg_of hr 33 _), ?_⟩
    · rw [ea_0 (by rw [up_k _ _ _ _ (by decide)]; exact ha)]
      unfold kl
      simp only [up_b, Nat.reduceEqDiff, eq_self, if_true, if_false, reduceIte]
      refine ⟨⟨by omega, by omega, by omega, by omega, by omega, fun _ => by omega, by omega, fun _ => by omega, by omega⟩, fun k => absurd k (by omega), fun _ => ⟨by split <;> omega, by omega, by omega, by omega, fun _ _ => by omega⟩, fun k => absurd k (by omega), fun k => absurd k (by omega), by omega⟩
    · have := msnd_53le (m := up m 30 (12 * to + j) bt) (by rw [up_k _ _ _ _ (by decide)]; omega) 1 to fr j bt (m 31 (12 * to + j)) (m 32 (12 * to + j)) (m 33 (12 * to + j))
      rw [up_k _ _ _ _ (by decide)] at this
      exact this
  · refine ⟨KS_snd h (by omega) ?_ (by omega) (rg_of hr 30 _) (by omega) (by omega), msnd_53le (by omega) _ _ _ _ _ _ _ _⟩
    refine ⟨⟨by omega, by omega, by omega, by omega, by omega, fun _ => by omega, fun _ => by omega, by omega, by omega⟩, fun k => absurd k (by omega), fun k => absurd k (by omega), fun k => absurd k (by omega), fun k => absurd k (by omega), by omega⟩
theorem KS_wri {b : Int} {g p : Int → Int} {a c : Int} {m : mS} (h : KS b g p a c m) (hc : c ≤ 1000000000) (hb : b ≤ 100000) {to j fr bt : Int} (ht : 0 ≤ to ∧ to < 3) (hj : 0 ≤ j ∧ j < m 10 0) (hfr : 0 ≤ fr ∧ fr < 3) (hbt : 0 < bt ∧ bt ≤ b) (h5 : 0 ≤ m 55 5 ∧ m 55 5 ≤ 21038399) (h7 : m 55 7 ≤ g j) : KS b g p a (c + 1) (mwri m fr (12 * to + j) to j bt) ∧ m 53 0 ≤ mwri m fr (12 * to + j) to j bt 53 0 := by
  have h12 := h.2.2.2.2
  have hr := h.1
  have s0 := h.2.2.1.1
  obtain ⟨q1, q2, q3, q4, q5, q6, q7, q8, q9, q10, q11, q12, q13⟩ := h.2.1 to j ht.1 ht.2 hj.1 (by omega)
  unfold mwri
  split
  · rename_i cb
    have h0 : KS b g p a c (up (up (up (up m 30 (12 * to + j) bt) 31 (12 * to + j) bt) 32 (12 * to + j) (m 55 5)) 33 (12 * to + j) (m 55 7)) := by
      refine KS_reg h (le12_r g) (sc := to) (j := j) ht (by omega) (rg_up (rg_up (rg_up (rg_up hr _ _ (by omega)) _ _ (by omega)) _ _ (by omega)) _ _ (rg_of hr 55 7)) (fun k z _ _ hz => by rw [up_ne _ _ (fun q => hz q.2), up_ne _ _ (fun q => hz q.2), up_ne _ _ (fun q => hz q.2), up_ne _ _ (fun q => hz q.2)]) (fun k z q => by rw [up_k _ _ _ _ (by omega), up_k _ _ _ _ (by omega), up_k _ _ _ _ (by omega), up_k _ _ _ _ (by omega)]) ?_ (by simp only [up_b, Nat.reduceEqDiff, eq_self, if_true, if_false, reduceIte]; omega) (fun q => ?_)
      · unfold kr
        simp only [up_b, Nat.reduceEqDiff, eq_self, if_true, if_false, reduceIte]
        exact ⟨by omega, q2, by omega, by omega, q5, q6, q7, q8, q9, q10, h7, q12, q13⟩
      · simp only [up_b, Nat.reduceEqDiff, eq_self, if_true, if_false, reduceIte] at q ⊢
        exact ⟨q, trivial, trivial⟩
    refine ⟨KS_snd h0 (by omega) ?_ (by omega) (by omega) (by omega) (by omega), ?_⟩
    · unfold kl
      simp only [up_b, Nat.reduceEqDiff, eq_self, if_true, if_false, reduceIte]
      refine ⟨⟨by omega, by omega, by omega, by omega, by omega, fun _ => by omega, by omega, by omega, by omega⟩, fun k => absurd k (by omega), fun k => absurd k (by omega), fun k => absurd k (by omega), fun k => absurd k (by omega), by omega⟩
    · have := msnd_53le (m := up (up (up (up m 30 (12 * to + j) bt) 31 (12 * to + j) bt) 32 (12 * to + j) (m 55 5)) 33 (12 * to + j) (m 55 7)) (by simp only [up_b, Nat.reduceEqDiff, eq_self, if_true, if_false, reduceIte]; omega) 3 to fr j bt 0 0 0
      simp only [up_b, Nat.reduceEqDiff, eq_self, if_true, if_false, reduceIte] at this
      exact this
  · refine ⟨KS_snd h (by omega) ?_ (by omega) (rg_of hr 30 _) (by omega) (by omega), msnd_53le (by omega) _ _ _ _ _ _ _ _⟩
    refine ⟨⟨by omega, by omega, by omega, by omega, by omega, fun _ => by omega, fun _ => by omega, by omega, by omega⟩, fun k => absurd k (by omega), fun k => absurd k (by omega), fun k => absurd k (by omega), fun k => absurd k (by omega), by omega⟩
theorem KS_end {b : Int} {g p : Int → Int} {a c : Int} {m : mS} (h : KS b g p a c m) {to j : Int} (ht : 0 ≤ to ∧ to < 3) (hj : 0 ≤ j ∧ j < m 10 0) (hb : 0 ≤ b) : KS b g p a c (mend m (12 * to + j)) := by
  have h12 := h.2.2.2.2
  have hr := h.1
  obtain ⟨q1, q2, q3, q4, q5, q6, q7, q8, q9, q10, q11, q12, q13⟩ := h.2.1 to j ht.1 ht.2 hj.1 (by omega)
  unfold mend
  refine KS_reg h (le12_r g) (sc := to) (j := j) ht (by omega) (rg_up (rg_up (rg_up hr _ _ (by omega)) _ _ (by omega)) _ _ (by omega)) (fun k z _ _ hz => by rw [up_ne _ _ (fun q => hz q.2), up_ne _ _ (fun q => hz q.2), up_ne _ _ (fun q => hz q.2)]) (fun k z q => by rw [up_k _ _ _ _ (by omega), up_k _ _ _ _ (by omega), up_k _ _ _ _ (by omega)]) ?_ (by simp only [up_b, Nat.reduceEqDiff, eq_self, if_true, if_false, reduceIte]; omega) (fun q => ?_)
  · unfold kr
    simp only [up_b, Nat.reduceEqDiff, eq_self, if_true, if_false, reduceIte]
    exact ⟨q1, q2, q3, q4, q5, (by first | omega | (simp; done) | (simp; omega)), (by first | omega | (simp; done) | (simp; omega)), (by first | omega | (simp; done) | (simp; omega)), (by first | omega | (simp; done) | (simp; omega)), fun q => absurd q (by omega), q11, q12, fun q => absurd q (by omega)⟩
  · simp only [up_b, Nat.reduceEqDiff, eq_self, if_true, if_false, reduceIte] at q
    omega
theorem KS_ref {b : Int} {g p : Int → Int} {a c : Int} {m : mS} (h : KS b g p a c m) {to j : Int} (ht : 0 ≤ to ∧ to < 3) (hj : 0 ≤ j ∧ j < m 10 0) (hb : 0 ≤ b) (h5 : 0 ≤ m 55 5 ∧ m 55 5 ≤ b) : KS b g p a c (mref m (12 * to + j)) := by
  have h12 := h.2.2.2.2
  have hr := h.1
  obtain ⟨q1, q2, q3, q4, q5, q6, q7, q8, q9, q10, q11, q12, q13⟩ := h.2.1 to j ht.1 ht.2 hj.1 (by omega)
  have q55 := rg_of hr 55 5
  have q34 := rg_of hr 34 (12 * to + j)
  have h0 : KS b g p a c (up m 34 (12 * to + j) (max (m 34 (12 * to + j)) (m 55 5))) := by
    refine KS_reg h (le12_r g) (sc := to) (j := j) ht (by omega) (rg_up hr _ _ (by omega)) (fun k z _ _ hz => up_ne _ _ (fun q => hz q.2)) (fun k z q => up_k _ _ _ _ (by omega)) ?_ (by simp only [up_b, Nat.reduceEqDiff, eq_self, if_true, if_false, reduceIte]; omega) (fun q => ?_)
    · unfold kr
      simp only [up_b, Nat.reduceEqDiff, eq_self, if_true, if_false, reduceIte]
      exact ⟨q1, by omega, q3, q4, q5, q6, q7, q8, q9, fun q => absurd q (by omega), q11, q12, q13⟩
    · simp only [up_b, Nat.reduceEqDiff, eq_self, if_true, if_false, reduceIte] at q ⊢
      exact ⟨q, trivial, trivial⟩
  unfold mref
  split
  · exact KS_end h0 ht (by rw [up_k _ _ _ _ (by decide)]; exact hj) hb
  · exact h0
theorem KS_fin {b : Int} {g p : Int → Int} {a c : Int} {m : mS} (h : KS b g p a c m) (hc : c ≤ 1000000000) (hb : 0 ≤ b) {to j : Int} (ht : 0 ≤ to ∧ to < 3) (hj : 0 ≤ j ∧ j < m 10 0) (h45 : m 45 j ≤ 1000000000) (hg : g j ≤ 1000) : KS b g p a (c + 1) (mfin m to j) ∧ m 53 0 ≤ mfin m to j 53 0 := by
  have h12 := h.2.2.2.2
  have hr := h.1
  have s0 := h.2.2.1.1
  obtain ⟨q1, q2, q3, q4, q5, q6, q7, q8, q9, q10, q11, q12, q13⟩ := h.2.1 to j ht.1 ht.2 hj.1 (by omega)
  have q45 := rg_of hr 45 j
  unfold mfin
  split
  · rename_i cf
    have h1 : KS b g p a c (mfi1 m (12 * to + j) j) := by
      unfold mfi1
      refine KS_k h (rg_up hr _ _ (by split <;> omega)) (fun k z q => up_k _ _ _ _ (by omega)) (by rw [up_k _ _ _ _ (by decide)]; exact h.2.2.2.1)
    have k1 : ∀ k z, k ≠ 45 → mfi1 m (12 * to + j) j k z = m k z := fun k z q => up_k _ _ _ _ q
    have h2 : KS b g p a (c + 1) (mfi2 (mfi1 m (12 * to + j) j) to (12 * to + j) j) ∧ m 53 0 ≤ mfi2 (mfi1 m (12 * to + j) j) to (12 * to + j) j 53 0 := by
      unfold mfi2
      rw [k1 40 _ (by decide), k1 39 _ (by decide)]
      split
      · exact ⟨KS_mono h1 (by omega), by rw [k1 53 _ (by decide)]; omega⟩
      · rename_i c9
        have q39 := rg_of hr 39 (12 * to + j)
        have gg := q13 cf.2 c9
        refine ⟨KS_snd h1 (by omega) ?_ (by omega) (rg_of hr 40 _) (by omega) (by omega), ?_⟩
        · unfold kl
          rw [k1 10 _ (by decide)]
          refine ⟨⟨by omega, by omega, by omega, by omega, by omega, by omega, by omega, by omega, fun _ => by omega⟩, fun k => absurd k (by omega), fun k => absurd k (by omega), fun k => absurd k (by omega), fun _ => by omega, by omega⟩
        · have := msnd_53le (m := mfi1 m (12 * to + j) j) (by rw [k1 53 _ (by decide)]; omega) 5 to (j % 2) j (m 39 (12 * to + j) + 1) (m 40 (12 * to + j)) 0 0
          rw [k1 53 _ (by decide)] at this
          exact this
    have e10 : mfi2 (mfi1 m (12 * to + j) j) to (12 * to + j) j 10 0 = m 10 0 := by
      unfold mfi2
      split
      · exact k1 10 0 (by decide)
      · rw [msnd_k _ _ _ _ _ _ _ _ _ _ _ (by decide) (by decide) (by decide), k1 10 0 (by decide)]
    refine ⟨KS_end h2.1 ht (by rw [e10]; exact hj) hb, ?_⟩
    unfold mend
    simp only [up_b, Nat.reduceEqDiff, eq_self, if_true, if_false, reduceIte]
    exact h2.2
  · exact ⟨KS_mono h (by omega), by omega⟩
theorem munm_r {m : mS} (hO : o3I m) {j : Int} (hj : 0 ≤ j ∧ j < 12) (v : Int) : 0 ≤ munm m j v ∧ munm m j v < 4096 := by
  unfold munm
  split
  · omega
  · have k := hO j hj.1 hj.2
    have := uwN_lt (m := m) (j := j) (v := v) (m 26 j).toNat (fun i hi => k.2 i (by omega) (by omega))
    omega
theorem KS_rd {b : Int} {g p : Int → Int} {a c : Int} {m : mS} (hr : rg m) (to j : Int) (x : kr b (g j) m (12 * to + j) j) (h6 : -1 ≤ m 55 6 ∧ m 55 6 ≤ 21038399) (h7 : m 55 7 ≤ g j) : (-1 ≤ mrd m (12 * to + j) 38 (12 * to + j) ∧ mrd m (12 * to + j) 38 (12 * to + j) ≤ 21038399) ∧ mrd m (12 * to + j) 39 (12 * to + j) ≤ g j ∧ (mrd m (12 * to + j) 39 (12 * to + j) = m 39 (12 * to + j) ∨ mrd m (12 * to + j) 39 (12 * to + j) = m 55 7) := by
  obtain ⟨q1, q2, q3, q4, q5, q6, q7, q8, q9, q10, q11, q12, q13⟩ := x
  unfold mrd
  split
  · simp only [up_b, Nat.reduceEqDiff, eq_self, if_true, if_false, reduceIte]
    exact ⟨h6, h7, Or.inr trivial⟩
  · exact ⟨q5, q12, Or.inl rfl⟩
theorem KS_prm {b : Int} {g p : Int → Int} {a c e : Int} {m : mS} (h : KS b g p a c m) (hM : MC m) (hc : c ≤ 1000000000) (hb : 0 ≤ b ∧ b ≤ 100000) {to j : Int} (ht : 0 ≤ to ∧ to < 3) (hj : 0 ≤ j ∧ j < m 10 0) (ha : a ≤ m 53 0) (h6 : -1 ≤ m 55 6 ∧ m 55 6 ≤ 21038399) (h7 : m 55 7 ≤ g j) (hp : m 55 7 + e ≤ p j) (hm : m 36 (12 * to + j) = 1 → m 35 (12 * to + j) = m 55 4 → m 39 (12 * to + j) + e ≤ p j) (hg : g j ≤ p j + 1 - e ∧ g j ≤ 1000) : ∃ g', le12 g g' ∧ (∀ x, x ≠ j → g' x = g x) ∧ g' j ≤ p j + 1 - e ∧ g' j + ask (mprm m to j) j ≤ g j + ask m j ∧ (∀ z, mprm m to j 36 z = 1 → m 36 z = 1) ∧ KS b g' p a (c + 3) (mprm m to j) ∧ m 53 0 ≤ mprm m to j 53 0 := by
  have h12 := h.2.2.2.2
  have hr := h.1
  have s0 := h.2.2.1.1
  have kx := h.2.1 to j ht.1 ht.2 hj.1 (by omega)
  obtain ⟨q1, q2, q3, q4, q5, q6, q7, q8, q9, q10, q11, q12, q13⟩ := id kx
  obtain ⟨d1, d2, d3⟩ := KS_rd (g := g) (p := p) (a := a) (c := c) hr to j kx h6 h7
  have h0 := hM.2.1
  have j12 : 0 ≤ j ∧ j < 12 := by omega
  unfold mprm
  by_cases cr : m 35 (12 * to + j) = m 55 4 ∧ m 36 (12 * to + j) = 1
  · rw [if_pos cr]
    have hm1 := hm cr.2 cr.1
    have mz : ∀ k z, z ≠ 12 * to + j ∨ (k ≠ 37 ∧ k ≠ 38 ∧ k ≠ 39) → mrd m (12 * to + j) k z = m k z := fun k z q => mrd_z m _ k z q
    have rr := mrd_rg hr (12 * to + j)
    have o3 : o3I (mrd m (12 * to + j)) := by
      intro x x0 x1
      rw [mz 26 _ (by omega)]
      refine ⟨(hM.2.2.2.2.2.2 x x0 x1).1, fun i i0 i1 => ?_⟩
      rw [mz 27 _ (by omega)]
      exact (hM.2.2.2.2.2.2 x x0 x1).2 i i0 i1
    unfold mdec
    have fr := ffd_r (dueJ (mrd m (12 * to + j)) j) (mrd m (12 * to + j) 38 (12 * to + j) + 1) (mrd m (12 * to + j) 0 0)
    have dr := dmin_r (mrd m (12 * to + j)) (mrd m (12 * to + j)) j (mrd m (12 * to + j) 38 (12 * to + j)) d1.1 (by rw [mz 0 0 (by omega)]; exact h0.2)
    generalize ffd (dueJ (mrd m (12 * to + j)) j) (mrd m (12 * to + j) 38 (12 * to + j) + 1) (mrd m (12 * to + j) 0 0) = first at *
    generalize dmin (mrd m (12 * to + j)) (mrd m (12 * to + j)) j (mrd m (12 * to + j) 38 (12 * to + j)) = v at *
    have ur := munm_r o3 j12 v
    generalize munm (mrd m (12 * to + j)) j v = w at *
    unfold mdec2
    by_cases cw : w ≠ 0 ∨ first = 2147483647 ∨ mrd m (12 * to + j) 25 j ≠ 0 ∨ mrd m (12 * to + j) 35 (12 * to + j) < mrd m (12 * to + j) 30 (12 * to + j)
    · rw [if_pos cw]
      have e36 : mend (up (mrd m (12 * to + j)) 44 j w) (12 * to + j) 36 (12 * to + j) = 0 := by unfold mend; simp only [up_b, Nat.reduceEqDiff, eq_self, if_true, if_false, reduceIte]
      have z36 : ∀ z, mend (up (mrd m (12 * to + j)) 44 j w) (12 * to + j) 36 z = 1 → m 36 z = 1 := by
        intro z hz
        by_cases cz : z = 12 * to + j
        · rw [cz, e36] at hz; omega
        · unfold mend at hz
          rw [up_ne _ _ (fun q => cz q.2), up_ne _ _ (fun q => cz q.2), up_ne _ _ (fun q => cz q.2), up_k _ _ _ _ (by decide), mz 36 z (Or.inl cz)] at hz
          exact hz
      refine ⟨g, le12_r g, fun _ _ => rfl, hg.1, ?_, z36, ?_, ?_⟩
      · have := ask_le z36 j; omega
      · refine KS_mono (c := c) ?_ (by omega)
        unfold mend
        refine KS_reg h (le12_r g) (sc := to) (j := j) ht j12 (rg_up (rg_up (rg_up (rg_up rr _ _ (by omega)) _ _ (by omega)) _ _ (by omega)) _ _ (by omega)) (fun k z k1 k2 hz => by rw [up_ne _ _ (fun q => hz q.2), up_ne _ _ (fun q => hz q.2), up_ne _ _ (fun q => hz q.2), up_k _ _ _ _ (by omega), mz k z (Or.inl hz)]) (fun k z q => by rw [up_k _ _ _ _ (by omega), up_k _ _ _ _ (by omega), up_k _ _ _ _ (by omega), up_k _ _ _ _ (by omega), mz k z (by omega)]) ?_ (by simp only [up_b, Nat.reduceEqDiff, eq_self, if_true, if_false, reduceIte]; rw [mz 30 _ (by omega)]; omega) (fun q => ?_)
        · unfold kr
          simp only [up_b, Nat.reduceEqDiff, eq_self, if_true, if_false, reduceIte]
          rw [mz 30 _ (by omega), mz 34 _ (by omega), mz 31 _ (by omega), mz 32 _ (by omega), mz 33 _ (by omega), mz 10 _ (by omega)]
          exact ⟨q1, q2, q3, q4, d1, (by first | omega | (simp; done) | (simp; omega)), (by first | omega | (simp; done) | (simp; omega)), (by first | omega | (simp; done) | (simp; omega)), (by first | omega | (simp; done) | (simp; omega)), fun q => absurd q (by omega), q11, d2, fun q => absurd q (by omega)⟩
        · simp only [up_b, Nat.reduceEqDiff, eq_self, if_true, if_false, reduceIte] at q
          omega
      · unfold mend
        simp only [up_b, Nat.reduceEqDiff, eq_self, if_true, if_false, reduceIte]
        rw [mz 53 _ (by omega)]
        omega
    · rw [if_neg cw]
      rw [mz 35 _ (by omega), mz 0 0 (by omega)]
      have hU : 0 ≤ (if v = 2147483647 then m 0 0 else v) ∧ (if v = 2147483647 then m 0 0 else v) ≤ 21038399 := by split <;> omega
      have q39 := rg_of rr 39 (12 * to + j)
      have hgn : (if v = 2147483647 then mrd m (12 * to + j) 39 (12 * to + j) else mrd m (12 * to + j) 39 (12 * to + j) + 1) ≤ mrd m (12 * to + j) 39 (12 * to + j) + 1 ∧ mrd m (12 * to + j) 39 (12 * to + j) ≤ (if v = 2147483647 then mrd m (12 * to + j) 39 (12 * to + j) else mrd m (12 * to + j) 39 (12 * to + j) + 1) := by split <;> omega
      have hv9 : nof v = -9 ∨ (0 ≤ nof v ∧ nof v ≤ 21038399) := by unfold nof; split <;> omega
      generalize (if v = 2147483647 then m 0 0 else v) = U at *
      generalize (if v = 2147483647 then mrd m (12 * to + j) 39 (12 * to + j) else mrd m (12 * to + j) 39 (12 * to + j) + 1) = gn at *
      have hov : -2147483648 ≤ (if v = 2147483647 ∨ first < v then (1 : Int) else 0) ∧ (if v = 2147483647 ∨ first < v then (1 : Int) else 0) ≤ 2147483647 := by split <;> omega
      have e36 : mcl0 (mrd m (12 * to + j)) (12 * to + j) j first v w U gn 36 (12 * to + j) = 2 := by unfold mcl0; simp only [up_b, Nat.reduceEqDiff, eq_self, if_true, if_false, reduceIte]
      have s36 : ∀ z, msto (mcl0 (mrd m (12 * to + j)) (12 * to + j) j first v w U gn) 2 to j (m 35 (12 * to + j)) U gn 36 z = mcl0 (mrd m (12 * to + j)) (12 * to + j) j first v w U gn 36 z := fun z => msto_k _ _ _ _ _ _ _ _ _ (by decide) (by decide) (by decide)
      have z36 : ∀ z, msto (mcl0 (mrd m (12 * to + j)) (12 * to + j) j first v w U gn) 2 to j (m 35 (12 * to + j)) U gn 36 z = 1 → m 36 z = 1 := by
        intro z hz
        rw [s36] at hz
        by_cases cz : z = 12 * to + j
        · rw [cz, e36] at hz; omega
        · unfold mcl0 at hz
          rw [up_ne _ _ (fun q => cz q.2), up_ne _ _ (fun q => cz q.2), up_ne _ _ (fun q => cz q.2), up_ne _ _ (fun q => cz q.2), up_ne _ _ (fun q => cz q.2), up_ne _ _ (fun q => cz q.2), up_k _ _ _ _ (by decide), mz 36 z (Or.inl cz)] at hz
          exact hz
      have g1 : (fun x => if x = j then max (g j) (mrd m (12 * to + j) 39 (12 * to + j) + 1) else g x) j = max (g j) (mrd m (12 * to + j) 39 (12 * to + j) + 1) := by dsimp only; rw [if_pos rfl]
      have g2 : le12 g (fun x => if x = j then max (g j) (mrd m (12 * to + j) 39 (12 * to + j) + 1) else g x) := by
        intro x _ _
        dsimp only
        split
        · rename_i q; rw [q]; omega
        · omega
      have g3 : ∀ x, x ≠ j → (fun x => if x = j then max (g j) (mrd m (12 * to + j) 39 (12 * to + j) + 1) else g x) x = g x := fun x hx => by dsimp only; rw [if_neg hx]
      generalize (fun x => if x = j then max (g j) (mrd m (12 * to + j) 39 (12 * to + j) + 1) else g x) = g' at *
      have gb : g' j ≤ p j + 1 - e := by rw [g1]; rcases d3 with d | d <;> rw [d] <;> omega
      have KC0 : KS b g' p a c (mcl0 (mrd m (12 * to + j)) (12 * to + j) j first v w U gn) := by
        unfold mcl0
        refine KS_reg h g2 (sc := to) (j := j) ht j12 (rg_up (rg_up (rg_up (rg_up (rg_up (rg_up (rg_up rr _ _ (by omega)) _ _ hov) _ _ (by omega)) _ _ (by omega)) _ _ (rg_of rr 35 _)) _ _ (by omega)) _ _ (by omega)) (fun k z k1 k2 hz => by rw [up_ne _ _ (fun q => hz q.2), up_ne _ _ (fun q => hz q.2), up_ne _ _ (fun q => hz q.2), up_ne _ _ (fun q => hz q.2), up_ne _ _ (fun q => hz q.2), up_ne _ _ (fun q => hz q.2), up_k _ _ _ _ (by omega), mz k z (Or.inl hz)]) (fun k z q => by rw [up_k _ _ _ _ (by omega), up_k _ _ _ _ (by omega), up_k _ _ _ _ (by omega), up_k _ _ _ _ (by omega), up_k _ _ _ _ (by omega), up_k _ _ _ _ (by omega), up_k _ _ _ _ (by omega), mz k z (by omega)]) ?_ (by simp only [up_b, Nat.reduceEqDiff, eq_self, if_true, if_false, reduceIte]; rw [mz 30 _ (by omega)]; omega) (fun q => ?_)
        · unfold kr
          simp only [up_b, Nat.reduceEqDiff, eq_self, if_true, if_false, reduceIte]
          rw [mz 30 _ (by omega), mz 34 _ (by omega), mz 35 _ (by omega), mz 10 _ (by omega)]
          exact ⟨q1, q2, q8.2, by omega, d1, (by first | omega | (simp; done) | (simp; omega)), (by first | omega | (simp; done) | (simp; omega)), q8, hv9, fun q => absurd q (by omega), by omega, by omega, fun _ _ => by omega⟩
        · simp only [up_b, Nat.reduceEqDiff, eq_self, if_true, if_false, reduceIte] at q
          omega
      have k53 : mcl0 (mrd m (12 * to + j)) (12 * to + j) j first v w U gn 53 0 = m 53 0 := by unfold mcl0; simp only [up_b, Nat.reduceEqDiff, eq_self, if_true, if_false, reduceIte]; rw [mz 53 _ (by omega)]
      have k10 : mcl0 (mrd m (12 * to + j)) (12 * to + j) j first v w U gn 10 0 = m 10 0 := by unfold mcl0; simp only [up_b, Nat.reduceEqDiff, eq_self, if_true, if_false, reduceIte]; rw [mz 10 _ (by omega)]
      have q35 : 0 < m 35 (12 * to + j) := by
        rcases Int.lt_or_le 0 (m 35 (12 * to + j)) with x | x
        · exact x
        · have := q7.mpr (by omega); omega
      obtain ⟨KF, kf⟩ := KS_sto (e := 0) (kd := 2) (fr := to) (j := j) (bt := m 35 (12 * to + j)) (x := U) (gd := gn) KC0 hc (fun l l1 l2 => ea_0 (by omega)) (fun t t0 t1 tn => by
        unfold kl
        rw [k10]
        refine ⟨⟨by omega, by omega, by omega, by omega, by omega, fun _ => by omega, by omega, by omega, fun _ => by omega⟩, fun k => absurd k (by omega), fun k => absurd k (by omega), fun _ => by omega, fun k => absurd k (by omega), by omega⟩) (rg_of hr 35 _) (by omega) (by omega)
      rw [k53] at kf
      refine ⟨g', g2, g3, gb, ?_, z36, KF, kf⟩
      have := ask_lt z36 ht cr.2 (by rw [s36, e36]; omega)
      rw [g1]
      rcases d3 with d | d <;> rw [d] <;> omega
  · rw [if_neg cr]
    exact ⟨g, le12_r g, fun _ _ => rfl, hg.1, by omega, fun _ q => q, KS_mono h (by omega), by omega⟩
