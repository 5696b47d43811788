/-! the model's deliver and flow -/
theorem fs_exi (D : Int → Bool) : ∀ (n : Nat) (a b : Int), b + 1 - a ≤ n → ∃ v, fsP D a b v := by
  intro n
  induction n with
  | zero => intro a b h; exact ⟨2147483647, Or.inl ⟨rfl, fun l l1 l2 => by omega⟩⟩
  | succ n ih =>
    intro a b h
    by_cases c : a ≤ b
    · cases hd : D a with
      | true => exact ⟨a, Or.inr ⟨by omega, c, hd, fun l l1 l2 => by omega⟩⟩
      | false =>
        obtain ⟨v, hv⟩ := ih (a + 1) b (by omega)
        refine ⟨v, ?_⟩
        rcases hv with ⟨e, q⟩ | ⟨p1, p2, p3, p4⟩
        · refine Or.inl ⟨e, fun l l1 l2 => ?_⟩
          by_cases cl : l = a
          · rw [cl]; exact hd
          · exact q l (by omega) l2
        · refine Or.inr ⟨by omega, p2, p3, fun l l1 l2 => ?_⟩
          by_cases cl : l = a
          · rw [cl]; exact hd
          · exact p4 l (by omega) l2
    · exact ⟨2147483647, Or.inl ⟨rfl, fun l l1 l2 => by omega⟩⟩
theorem ls_exi (D : Int → Bool) : ∀ (n : Nat) (a b : Int), b + 1 - a ≤ n → ∃ v, lsP D a b v := by
  intro n
  induction n with
  | zero => intro a b h; exact ⟨2147483647, Or.inl ⟨rfl, fun l l1 l2 => by omega⟩⟩
  | succ n ih =>
    intro a b h
    by_cases c : a ≤ b
    · cases hd : D b with
      | true => exact ⟨b, Or.inr ⟨c, by omega, hd, fun l l1 l2 => by omega⟩⟩
      | false =>
        obtain ⟨v, hv⟩ := ih a (b - 1) (by omega)
        refine ⟨v, ?_⟩
        rcases hv with ⟨e, q⟩ | ⟨p1, p2, p3, p4⟩
        · refine Or.inl ⟨e, fun l l1 l2 => ?_⟩
          by_cases cl : l = b
          · rw [cl]; exact hd
          · exact q l l1 (by omega)
        · refine Or.inr ⟨p1, by omega, p3, fun l l1 l2 => ?_⟩
          by_cases cl : l = b
          · rw [cl]; exact hd
          · exact p4 l l1 (by omega)
    · exact ⟨2147483647, Or.inl ⟨rfl, fun l l1 l2 => by omega⟩⟩
theorem ffd_r (D : Int → Bool) (a b : Int) : ffd D a b = 2147483647 ∨ (a ≤ ffd D a b ∧ ffd D a b ≤ b) := by
  obtain ⟨v, hv⟩ := fs_exi D (b + 1 - a).toNat a b (by omega)
  rw [ffd_eq hv]
  rcases hv with ⟨e, -⟩ | ⟨p1, p2, -, -⟩
  · exact Or.inl e
  · exact Or.inr ⟨p1, p2⟩
theorem lld_r (D : Int → Bool) (a b : Int) : lld D a b = 2147483647 ∨ (a ≤ lld D a b ∧ lld D a b ≤ b) := by
  obtain ⟨v, hv⟩ := ls_exi D (b + 1 - a).toNat a b (by omega)
  rw [lld_eq hv]
  rcases hv with ⟨e, -⟩ | ⟨p1, p2, -, -⟩
  · exact Or.inl e
  · exact Or.inr ⟨p1, p2⟩
theorem dmin_r (s m : mS) (j u : Int) (hu : -1 ≤ u) (h0 : s 0 0 ≤ 21038399) : dmin s m j u = 2147483647 ∨ (0 ≤ dmin s m j u ∧ dmin s m j u ≤ 21038399) := by
  unfold dmin
  split
  · rcases lld_r (dueJ m j) (max (u + 1) (s 0 0 - lat s j)) (s 0 0) with h | h
    · exact Or.inl h
    · right; omega
  · rcases ffd_r (dueJ m j) (max (u + 1) (s 0 0 - lat s j)) (s 0 0) with h | h
    · exact Or.inl h
    · right; omega
-- letters taken out
theorem mrem_k (m : mS) (i : Int) (k : Nat) (z : Int) (h : k ≠ 53) (h1 : k ≠ 54) (h2 : k ≠ 55) : mrem m i k z = m k z := by
  unfold mrem mrl
  rw [if_neg (fun q => h1 q.1), if_neg (fun q => h q.1), if_neg (fun q => h2 q.1)]
theorem mrem_53 (m : mS) (i : Int) : mrem m i 53 0 = m 53 0 - 1 := by unfold mrem mrl; rw [if_neg (by omega), if_pos ⟨rfl, rfl⟩]
theorem mrem_55 (m : mS) (i k : Int) (h : 0 ≤ k) (h1 : k < 8) : mrem m i 55 k = m 54 (8 * i + k) := by
  unfold mrem mrl; rw [if_neg (by omega), if_neg (by omega), if_pos ⟨rfl, h, h1⟩]
theorem mrem_54 (m : mS) (i l k : Int) (hl : l < m 53 0 - 1) (h : 0 ≤ k) (h1 : k < 8) : mrem m i 54 (8 * l + k) = m 54 (8 * (if i ≤ l then l + 1 else l) + k) := by
  unfold mrem mrl
  by_cases c : i ≤ l
  · rw [if_pos ⟨rfl, by omega, by omega⟩, if_pos c, show 8 * l + k + 8 = 8 * (l + 1) + k by omega]
  · rw [if_neg (by omega), if_neg (by omega), if_neg (by omega), if_neg c]
theorem rg_rem {m : mS} (hr : rg m) (hs : 0 ≤ m 53 0) (i : Int) : rg (mrem m i) := by
  intro k z a b
  unfold mrem mrl
  split
  · exact rg_of hr 54 _
  · split
    · have := rg_of hr 53 0; omega
    · split
      · exact rg_of hr 54 _
      · exact hr k z a b
theorem dtx_rem {m m' : mS} (h : dtx m m') (i : Int) : dtx (mrem m i) (mrem m' i) := by
  have y : ∀ k z, k ≠ 7 → k ≠ 8 → k ≠ 9 → m' k z = m k z := h
  intro k z a b c
  unfold mrem mrl
  rw [y 53 0 (by decide) (by decide) (by decide), y 54 _ (by decide) (by decide) (by decide), y 54 _ (by decide) (by decide) (by decide), y k z a b c]
theorem dtx_rd {m m' : mS} (h : dtx m m') (i : Int) : dtx (mrd m i) (mrd m' i) := by
  have y : ∀ k z, k ≠ 7 → k ≠ 8 → k ≠ 9 → m' k z = m k z := h
  unfold mrd
  simp (disch := first | omega | assumption | (simp; done)) only [y]
  split
  · exact dtx_up (dtx_up (dtx_up h _ _ _) _ _ _) _ _ _
  · exact h
theorem dtx_dec {m m' : mS} (h : dtx m m') (sc j : Int) : dtx (mdec m sc j) (mdec m' sc j) := by
  have y : ∀ k z, k ≠ 7 → k ≠ 8 → k ≠ 9 → m' k z = m k z := h
  unfold mdec
  have e1 : dmin m' m' j (m' 38 (12 * sc + j)) = dmin m m j (m 38 (12 * sc + j)) := by
    unfold dmin lat
    rw [dtx_due h]
    simp (disch := first | omega | assumption | (simp; done)) only [y]
  have e2 : ∀ v, munm m' j v = munm m j v := by
    intro v
    unfold munm
    rw [y 26 j (by decide) (by decide) (by decide), uwN_of (cfg_dtx h) (fun z => y 46 z (by decide) (by decide) (by decide)) (fun z => y 47 z (by decide) (by decide) (by decide)) (fun z => y 27 z (by decide) (by decide) (by decide))]
  rw [e1, e2, dtx_due h, y 38 _ (by decide) (by decide) (by decide), y 0 0 (by decide) (by decide) (by decide)]
  exact dtx_dec2 h _ _ _ _ _
theorem dtx_del {m m' : mS} (h : dtx m m') (to j : Int) : dtx (mdel m to j) (mdel m' to j) := by
  have y : ∀ k z, k ≠ 7 → k ≠ 8 → k ≠ 9 → m' k z = m k z := h
  unfold mdel
  rw [y 55 0 (by decide) (by decide) (by decide), y 42 to (by decide) (by decide) (by decide), y 55 1 (by decide) (by decide) (by decide), y 55 4 (by decide) (by decide) (by decide)]
  split
  · unfold mtk
    simp (disch := first | omega | assumption | (simp; done)) only [y]
    split
    · exact h
    · split
      · exact dtx_up (dtx_up (dtx_up (dtx_up (dtx_up h _ _ _) _ _ _) _ _ _) _ _ _) _ _ _
      · exact dtx_up h _ _ _
  split
  · exact h
  split
  · unfold mask
    simp (disch := first | omega | assumption | (simp; done)) only [y]
    split
    · exact dtx_snd (dtx_up h _ _ _) _ _ _ _ _ _ _ _
    · exact dtx_snd h _ _ _ _ _ _ _ _
  split
  · unfold mprm
    simp (disch := first | omega | assumption | (simp; done)) only [y]
    split
    · exact dtx_dec (dtx_rd h _) _ _
    · exact h
  split
  · unfold mwri
    simp (disch := first | omega | assumption | (simp; done)) only [y]
    split
    · exact dtx_snd (dtx_up (dtx_up (dtx_up (dtx_up h _ _ _) _ _ _) _ _ _) _ _ _) _ _ _ _ _ _ _ _
    · exact dtx_snd h _ _ _ _ _ _ _ _
  split
  · unfold mfin
    simp (disch := first | omega | assumption | (simp; done)) only [y]
    split
    · refine dtx_end ?_ _
      have h1 : dtx (mfi1 m (12 * to + j) j) (mfi1 m' (12 * to + j) j) := by
        unfold mfi1
        simp (disch := first | omega | assumption | (simp; done)) only [y]
        exact dtx_up h _ _ _
      have y1 : ∀ k z, k ≠ 7 → k ≠ 8 → k ≠ 9 → mfi1 m' (12 * to + j) j k z = mfi1 m (12 * to + j) j k z := h1
      unfold mfi2
      simp (disch := first | omega | assumption | (simp; done)) only [y1]
      split
      · exact h1
      · exact dtx_snd h1 _ _ _ _ _ _ _ _
    · exact h
  · unfold mref
    simp (disch := first | omega | assumption | (simp; done)) only [y]
    split
    · exact dtx_end (dtx_up h _ _ _) _
    · exact dtx_up h _ _ _
noncomputable def msp (m : mS) (i : Int) : mS := mdel (mrem m i) (mrem m i 55 2) (mrem m i 55 3)
theorem dtx_sp {m m' : mS} (h : dtx m m') (i : Int) : dtx (msp m i) (msp m' i) := by
  have h1 := dtx_rem h i
  unfold msp
  rw [h1 55 2 (by decide) (by decide) (by decide), h1 55 3 (by decide) (by decide) (by decide)]
  exact dtx_del h1 _ _
-- what the settings' facts rest on
theorem MC_of {m m' : mS} (h : MC m) (hr : rg m') (hk : ∀ k z, ¬ ((30 ≤ k ∧ k ≤ 45) ∨ (49 ≤ k ∧ k ≤ 55) ∨ (7 ≤ k ∧ k ≤ 9)) → m' k z = m k z) (h4 : ∀ k z, k = 44 ∨ k = 45 → m 10 0 ≤ z → m' k z = m k z) : MC m' := by
  obtain ⟨-, c0, c1, c10, cz, cj, co⟩ := h
  have e0 := hk 0 0 (by omega)
  have e1 := hk 1 0 (by omega)
  have e10 := hk 10 0 (by omega)
  have cf : cfg m m' := by
    intro k z q
    refine hk k z ?_
    unfold cfc at q
    simp at q
    omega
  have f : ∀ k z, 11 ≤ k → k ≤ 29 → m' k z = m k z := fun k z a b => hk k z (by omega)
  have aw : ∀ j, awO m' j = awO m j := fun j => awO_of (fun z => f 27 z (by omega) (by omega)) (fun z => f 26 z (by omega) (by omega))
  unfold MC
  rw [e0, e1, e10]
  refine ⟨hr, c0, c1, c10, ?_, ?_, ?_⟩
  · intro z z1 z2
    obtain ⟨a, b⟩ := cz z z1 z2
    rw [hk 2 z (by omega), hk 5 z (by omega)]
    exact ⟨(cfg_zI cf z).mpr a, b⟩
  · intro j j1 j2
    obtain ⟨a, b, c, d, e⟩ := cj j j1 j2
    refine ⟨(cfg_jI cf j).mpr a, ?_, ?_, ?_, ?_⟩
    · unfold eI
      rw [hk 46 j (by omega)]
      refine ⟨b.1, fun i i1 i2 => ?_⟩
      rw [hk 47 _ (by omega)]
      exact b.2 i i1 i2
    · unfold cJ
      rw [aw j, f 23 j (by omega) (by omega), f 24 j (by omega) (by omega), f 25 j (by omega) (by omega), f 26 j (by omega) (by omega)]
      exact c
    · intro q
      have z := d q
      unfold zJ
      rw [f 12 j (by omega) (by omega), f 13 j (by omega) (by omega), f 14 j (by omega) (by omega), f 15 j (by omega) (by omega), f 16 j (by omega) (by omega), f 17 j (by omega) (by omega), f 20 j (by omega) (by omega), f 28 j (by omega) (by omega), f 22 j (by omega) (by omega), f 23 j (by omega) (by omega), f 24 j (by omega) (by omega), f 25 j (by omega) (by omega), f 26 j (by omega) (by omega), h4 44 j (Or.inl rfl) q, h4 45 j (Or.inr rfl) q, hk 46 j (by omega)]
      exact z
    · intro q
      rw [f 11 j (by omega) (by omega), f 26 j (by omega) (by omega)]
      refine ⟨(e q).1, fun i i1 i2 => ?_⟩
      rw [f 27 _ (by omega) (by omega)]
      exact (e q).2 i i1 i2
  · intro j j1 j2
    rw [f 26 j (by omega) (by omega)]
    refine ⟨(co j j1 j2).1, fun i i1 i2 => ?_⟩
    rw [f 27 _ (by omega) (by omega)]
    exact (co j j1 j2).2 i i1 i2
theorem MC_dtx {m m' : mS} (hM : MC m) (h : dtx m m') (hr : rg m') : MC m' :=
  MC_of hM hr (fun k z q => h k z (by omega) (by omega) (by omega)) (fun k z q _ => h k z (by omega) (by omega) (by omega))
theorem lI_of {m m' : mS} {f f' : Int → Int} (h10 : m' 10 0 = m 10 0) (h : ∀ k, 0 ≤ k → k < 8 → f' k = f k) (hl : lI m f) : lI m' f' := by
  unfold lI
  rw [h 0 (by omega) (by omega), h 1 (by omega) (by omega), h 2 (by omega) (by omega), h 3 (by omega) (by omega), h 4 (by omega) (by omega), h 5 (by omega) (by omega), h 6 (by omega) (by omega), h10]
  exact hl
theorem rI_of {m m' : mS} {i : Int} (h : rI m i) (hk : ∀ k z, (30 ≤ k ∧ k ≤ 40) ∨ k = 10 → m' k z = m k z) : rI m' i := by
  unfold rI
  rw [hk 30 i (by omega), hk 34 i (by omega), hk 32 i (by omega), hk 38 i (by omega), hk 36 i (by omega), hk 35 i (by omega), hk 40 i (by omega), hk 10 0 (by omega)]
  exact h
theorem MC_rem {m : mS} (hM : MC m) (hs : 0 ≤ m 53 0) (i : Int) : MC (mrem m i) :=
  MC_of hM (rg_rem hM.1 hs i) (fun k z q => mrem_k m i k z (by omega) (by omega) (by omega)) (fun k z q _ => mrem_k m i k z (by omega) (by omega) (by omega))
theorem MP_rem {m : mS} (hP : MP m) {i : Int} (hi : 0 ≤ i ∧ i < m 53 0) : MP (mrem m i) ∧ lI (mrem m i) (fun k => mrem m i 55 k) := by
  obtain ⟨p1, p2, p3, p4, p5⟩ := hP
  have e10 := mrem_k m i 10 0 (by decide) (by decide) (by decide)
  refine ⟨⟨fun x x1 x2 => rI_of (p1 x x1 x2) (fun k z q => mrem_k m i k z (by omega) (by omega) (by omega)), by rw [mrem_53]; omega, ?_, ?_, ?_⟩, ?_⟩
  · intro l l0 l1
    rw [mrem_53] at l1
    exact lI_of e10 (fun k k0 k8 => mrem_54 m i l k l1 k0 k8) (p3 (if i ≤ l then l + 1 else l) (by split <;> omega) (by split <;> omega))
  · intro z; rw [mrem_k m i 42 z (by decide) (by decide) (by decide)]; exact p4 z
  · intro z; rw [mrem_k m i 43 z (by decide) (by decide) (by decide)]; exact p5 z
  · exact lI_of e10 (fun k k0 k8 => mrem_55 m i k k0 k8) (p3 i hi.1 hi.2)
theorem MP_dtx {m m' : mS} (hP : MP m) (h : dtx m m') : MP m' := by
  obtain ⟨p1, p2, p3, p4, p5⟩ := hP
  have y : ∀ k z, k ≠ 7 → k ≠ 8 → k ≠ 9 → m' k z = m k z := h
  have e53 := y 53 0 (by decide) (by decide) (by decide)
  refine ⟨fun x x1 x2 => rI_of (p1 x x1 x2) (fun k z q => y k z (by omega) (by omega) (by omega)), by rw [e53]; exact p2, ?_, ?_, ?_⟩
  · intro l l0 l1
    rw [e53] at l1
    exact lI_of (y 10 0 (by decide) (by decide) (by decide)) (fun k _ _ => y 54 _ (by decide) (by decide) (by decide)) (p3 l l0 l1)
  · intro z; rw [y 42 z (by decide) (by decide) (by decide)]; exact p4 z
  · intro z; rw [y 43 z (by decide) (by decide) (by decide)]; exact p5 z
noncomputable def fls (m : mS) : Nat → mS
  | 0 => m
  | n + 1 => if 0 < fls m n 53 0 then msp (fls m n) 0 else fls m n
noncomputable def flc (m : mS) : Nat → Int
  | 0 => 0
  | n + 1 => if 0 < fls m n 53 0 then flc m n + 1 else flc m n
theorem fls_stop {m : mS} {d : Nat} (h : ¬ 0 < fls m d 53 0) : ∀ n : Nat, fls m (d + n) = fls m d ∧ flc m (d + n) = flc m d := by
  intro n
  induction n with
  | zero => exact ⟨rfl, rfl⟩
  | succ n ih =>
    have e1 : fls m (d + n + 1) = if 0 < fls m (d + n) 53 0 then msp (fls m (d + n)) 0 else fls m (d + n) := rfl
    have e2 : flc m (d + n + 1) = if 0 < fls m (d + n) 53 0 then flc m (d + n) + 1 else flc m (d + n) := rfl
    rw [ih.1, if_neg h] at e1 e2
    exact ⟨e1, by rw [← ih.2]; exact e2⟩
section MFLO
variable {G : zk_G} {B : zk_H} {M : Nat}
theorem hp_eq {m m' : mS} (h : dtx m m') (h2 : ∀ k z, iz (m' k z) = iz (m k z)) : hp G B M m' = hp G B M m := by
  unfold hp
  congr 1
  funext a
  unfold mc
  by_cases c : M ≤ a ∧ a < M + 48
  · rw [if_pos c, if_pos c]
    congr 1
    unfold mcl
    by_cases c0 : a - M = 0
    · rw [if_pos c0, if_pos c0]
      have e : mval M m' = mval M m := by funext k; unfold mval; rw [h2]
      rw [e]
    · rw [if_neg c0, if_neg c0]
      obtain ⟨o1, -, -⟩ := mar_ok (a - M) (by omega) (by omega)
      have n7 : (mar (a - M)).1 ≠ 7 := by intro q; rw [q] at o1; exact c0 (by rw [← o1]; rfl)
      have n8 : (mar (a - M)).1 ≠ 8 := by intro q; rw [q] at o1; exact c0 (by rw [← o1]; rfl)
      have n9 : (mar (a - M)).1 ≠ 9 := by intro q; rw [q] at o1; exact c0 (by rw [← o1]; rfl)
      have e : m' (mar (a - M)).1 = m (mar (a - M)).1 := by funext z; exact h _ z n7 n8 n9
      rw [e]
  · rw [if_neg c, if_neg c]
theorem d_nrm {X m' : mS} (hX : rg X) (h : dtx X m') : ∃ m'', dtx X m'' ∧ rg m'' ∧ ∀ B, hp G B M m'' = hp G B M m' := by
  refine ⟨fun k z => if k = 7 ∨ k = 8 ∨ k = 9 then (iz (m' k z)).toInt else X k z, ?_, ?_, ?_⟩
  · intro k z a b c
    show (if k = 7 ∨ k = 8 ∨ k = 9 then (iz (m' k z)).toInt else X k z) = _
    rw [if_neg (by omega)]
  · intro k z a b
    show _ ≤ (if k = 7 ∨ k = 8 ∨ k = 9 then (iz (m' k z)).toInt else X k z) ∧ (if k = 7 ∨ k = 8 ∨ k = 9 then (iz (m' k z)).toInt else X k z) ≤ _
    split
    · exact ⟨i_lo _, i_hi _⟩
    · exact hX k z a b
  · intro B
    refine hp_eq ?_ ?_
    · intro k z a b c
      show (if k = 7 ∨ k = 8 ∨ k = 9 then (iz (m' k z)).toInt else X k z) = _
      rw [if_neg (by omega), h k z a b c]
    · intro k z
      show iz (if k = 7 ∨ k = 8 ∨ k = 9 then (iz (m' k z)).toInt else X k z) = _
      split
      · exact iz_of _
      · rw [h k z (by omega) (by omega) (by omega)]
theorem d_del (hB : hpo G B M) {m : mS} (hM : MC m) (hP : MP m) (hL : lI m (fun k => m 55 k)) : ∃ m', dtx (mdel m (m 55 2) (m 55 3)) m' ∧ ∀ Q : Option Value → zk_H → Prop, zk_wp G 165 0 [some (.ref M), none, none] [] (hp G B M m) Q ↔ Q none (hp G B M m') := by
  obtain ⟨l0, l1, l2, l3, l4, l5, l6, l7, l8⟩ := hL
  dsimp only at l0 l1 l2 l3 l4 l5 l6 l7 l8
  have h10 := hM.2.2.2.1
  obtain ⟨a, b, c, -, e⟩ := hM.2.2.2.2.2.1 (m 55 3) l4.1 (by omega)
  have o3 := hM.2.2.2.2.2.2
  have hO : oI m (m 55 3) := by
    obtain ⟨k1, k2⟩ := o3 (m 55 3) l4.1 (by omega)
    refine ⟨k1, fun i i1 i2 => ⟨k2 i i1 i2, ?_⟩⟩
    obtain ⟨q1, q2⟩ := k2 i i1 i2
    obtain ⟨x1, x2, -⟩ := hM.2.2.2.2.2.1 _ q1 q2
    exact ⟨x1, x2⟩
  exact d_delivers hB hM.1 rfl rfl l0 l2 l3 a hO ⟨b.1.1, by have := b.1.2; omega⟩ hP.2.1 (hP.1 _ (by omega) (by omega)).2.2.2.1 l7 hM.2.1 c.2.1
theorem d_del2 (hB : hpo G B M) {m mm : mS} (hM : MC m) (hP : MP m) (hL : lI m (fun k => m 55 k)) (hd : dtx m mm) : ∃ m', dtx (mdel m (m 55 2) (m 55 3)) m' ∧ ∀ Q : Option Value → zk_H → Prop, zk_wp G 165 0 [some (.ref M), none, none] [] (hp G B M mm) Q ↔ Q none (hp G B M m') := by
  obtain ⟨m2, a1, a2, a3⟩ := d_nrm (G := G) (M := M) hM.1 hd
  obtain ⟨m', b1, b2⟩ := d_del hB (MC_dtx hM a1 a2) (MP_dtx hP a1) (lI_of (a1 10 0 (by decide) (by decide) (by decide)) (fun k _ _ => a1 55 k (by decide) (by decide) (by decide)) hL)
  rw [a1 55 2 (by decide) (by decide) (by decide), a1 55 3 (by decide) (by decide) (by decide)] at b1
  refine ⟨m', dtx_t (dtx_del a1 _ _) b1, fun Q => ?_⟩
  rw [← a3 B]
  exact b2 Q
def v_del (m : mS) (i : Int) : Int := if 0 ≤ i ∧ i < m 53 0 then m 54 (8 * i) else -1
noncomputable def f_del (m : mS) (i : Int) : mS := if 0 ≤ i ∧ i < m 53 0 then msp m i else m
theorem d_deliver (hB : hpo G B M) {m : mS} (hM : MC m) (hP : MP m) (i : Int) (hi : -2147483648 ≤ i ∧ i ≤ 2147483647) : ∃ m', dtx (f_del m i) m' ∧ ∀ Q : Option Value → zk_H → Prop, zk_wp G 162 0 [some (.ref M), some (.int (iz i)), none] [] (hp G B M m) Q ↔ Q (some (.int (iz (v_del m i)))) (hp G B M m') := by
  have ic := hp_ic hB
  have il := d_isLet hB hP.2.1 i hi
  unfold v_del f_del
  by_cases c : 0 ≤ i ∧ i < m 53 0
  · rw [if_pos c, if_pos c]
    rw [if_pos c] at il
    have rm := d_removes hB hP.2.1 i c
    obtain ⟨P1, L1⟩ := MP_rem hP c
    obtain ⟨m', x1, x2⟩ := d_del hB (MC_rem hM hP.2.1.1 i) P1 L1
    refine ⟨m', x1, fun Q => zk_eq ?_ Q⟩
    simp (disch := first | omega | assumption | (simp; done)) only [u_162_0, u_162_1, u_162_2, u_162_5, u_162_9, u_162_10, u_162_11, u_162_12, u_162_15, u_162_16, u_162_17, u_162_20, u_162_21, true_or, or_true, zk_li1_s, zk_ll1_s, zk_la1_r, zk_la1_n, zk_lg0, zk_lgs, zk_co_n, zk_co_i, zk_co_r, zk_co_u, zk_co_l, zk_l1_0, zk_l1_1, zk_l1_s, zk_l2_0, zk_l2_1, zk_l2_s, zk_sm0, zk_smi, zk_smr, zk_smn, zk_sml, zk_fi, zk_fz, zk_fo, zk_fn, zk_fa, zk_ts, zk_tn, zk_cases, true_and, and_true, List.getElem?_cons_zero, List.getElem?_cons_succ, List.length_cons, List.length_nil, Nat.reduceAdd, Nat.reduceLT, Nat.reduceLeDiff, List.set_cons_zero, List.set_cons_succ, va_rf, ic, iz_lit, iz_inj, il, rm, x2]
    all_goals ((repeat' (first | exact trivial | exact ⟨rfl, rfl⟩ | rfl | apply And.intro | intro _)) <;> first | omega | (exfalso; omega) | contradiction | (exfalso; simp_all; done) | trace_state)
  · rw [if_neg c, if_neg c]
    rw [if_neg c] at il
    refine ⟨m, dtx_r m, fun Q => zk_eq ?_ Q⟩
    simp (disch := first | omega | assumption | (simp; done)) only [u_162_0, u_162_1, u_162_2, u_162_5, u_162_8, u_162_9, u_162_11, u_162_12, u_162_15, u_162_16, u_162_17, u_162_20, u_162_21, true_or, or_true, zk_li1_s, zk_ll1_s, zk_la1_r, zk_la1_n, zk_lg0, zk_lgs, zk_co_n, zk_co_i, zk_co_r, zk_co_u, zk_co_l, zk_l1_0, zk_l1_1, zk_l1_s, zk_l2_0, zk_l2_1, zk_l2_s, zk_sm0, zk_smi, zk_smr, zk_smn, zk_sml, zk_fi, zk_fz, zk_fo, zk_fn, zk_fa, zk_ts, zk_tn, zk_cases, true_and, and_true, List.getElem?_cons_zero, List.getElem?_cons_succ, List.length_cons, List.length_nil, Nat.reduceAdd, Nat.reduceLT, Nat.reduceLeDiff, List.set_cons_zero, List.set_cons_succ, va_rf, ic, iz_lit, iz_neg, iz_inj, il]
    all_goals ((repeat' (first | exact trivial | exact ⟨rfl, rfl⟩ | rfl | apply And.intro | intro _)) <;> first | omega | (exfalso; omega) | contradiction | (exfalso; simp_all; done) | trace_state)
noncomputable def v_flow (m : mS) (n : Int) : Int := if 1 ≤ n ∧ n ≤ 50 then flc m n.toNat else -1
noncomputable def f_flow (m : mS) (n : Int) : mS := if 1 ≤ n ∧ n ≤ 50 then fls m n.toNat else m
theorem d_flow (hB : hpo G B M) {m : mS} (n : Int) (hn : -2147483648 ≤ n ∧ n ≤ 2147483647) (hI : ∀ k : Nat, (k : Int) ≤ 50 → MC (fls m k) ∧ MP (fls m k)) : ∃ m', dtx (f_flow m n) m' ∧ ∀ Q : Option Value → zk_H → Prop, zk_wp G 179 0 [some (.ref M), some (.int (iz n)), none, none] [] (hp G B M m) Q ↔ Q (some (.int (iz (v_flow m n)))) (hp G B M m') := by
  have ic := hp_ic hB
  have im := d_in (G := G) (hp G B M m) n 1 50 (by omega) (by omega) (by omega)
  unfold v_flow f_flow
  by_cases c : 1 ≤ n ∧ n ≤ 50
  · rw [if_pos c, if_pos c]
    rw [if_pos c] at im
    have loop : ∀ (q d : Nat) (mm : mS), (d : Int) + q = n → dtx (fls m d) mm → flc m d = d → ∃ m', dtx (fls m n.toNat) m' ∧ ∀ (o3 : Option Value) (P : Option Value → zk_H → Prop), P (some (.int (iz (flc m n.toNat)))) (hp G B M m') → zk_wp G 179 14 [some (.ref M), some (.int (iz n)), some (.int (iz d)), o3] [] (hp G B M mm) P := by
      intro q
      induction q with
      | zero =>
        intro d mm hd hm hc
        have en : n.toNat = d := by omega
        refine ⟨mm, by rw [en]; exact hm, fun o3 P hP => ?_⟩
        rw [en, hc] at hP
        rw [u_179_14]
        simp (disch := first | omega | assumption | (simp; done)) only [u_179_0, u_179_1, u_179_2, u_179_4, u_179_7, u_179_10, u_179_11, u_179_12, u_179_13, u_179_15, u_179_16, u_179_20, u_179_23, u_179_26, u_179_27, u_179_28, u_179_31, u_179_32, u_179_33, u_179_36, u_179_39, u_179_42, u_179_43, true_or, or_true, zk_li1_s, zk_ll1_s, zk_la1_r, zk_la1_n, zk_lg0, zk_lgs, zk_co_n, zk_co_i, zk_co_r, zk_co_u, zk_co_l, zk_l1_0, zk_l1_1, zk_l1_s, zk_l2_0, zk_l2_1, zk_l2_s, zk_sm0, zk_smi, zk_smr, zk_smn, zk_sml, zk_fi, zk_fz, zk_fo, zk_fn, zk_fa, zk_ts, zk_tn, zk_cases, true_and, and_true, List.getElem?_cons_zero, List.getElem?_cons_succ, List.length_cons, List.length_nil, Nat.reduceAdd, Nat.reduceLT, Nat.reduceLeDiff, List.set_cons_zero, List.set_cons_succ, va_rf, iz_lit, iz_le]
        (repeat' (first | exact hP | apply And.intro | intro _)) <;> first | omega | (exfalso; omega) | contradiction | exact absurd trivial (by assumption) | (exfalso; simp_all; done)
      | succ q ih =>
        intro d mm hd hm hc
        obtain ⟨hM0, hP0⟩ := hI d (by omega)
        have y : ∀ k z, k ≠ 7 → k ≠ 8 → k ≠ 9 → mm k z = fls m d k z := hm
        have e53 := y 53 0 (by decide) (by decide) (by decide)
        have hP1 := MP_dtx hP0 hm
        have q53 := hP1.2.1
        by_cases c0 : 0 < fls m d 53 0
        · obtain ⟨P1, L1⟩ := MP_rem hP0 (i := 0) (by omega)
          have dr := dtx_rem hm 0
          have rm := d_removes hB q53 0 (by omega)
          obtain ⟨m1, x1, x2⟩ := d_del2 hB (MC_rem hM0 (by omega) 0) P1 L1 dr
          have s1 : fls m (d + 1) = msp (fls m d) 0 := by show (if 0 < fls m d 53 0 then msp (fls m d) 0 else fls m d) = _; rw [if_pos c0]
          have s2 : flc m (d + 1) = flc m d + 1 := by show (if 0 < fls m d 53 0 then flc m d + 1 else flc m d) = _; rw [if_pos c0]
          obtain ⟨m', y1, y2⟩ := ih (d + 1) m1 (by omega) (by rw [s1]; exact x1) (by rw [s2, hc]; omega)
          refine ⟨m', y1, fun o3 P hP => ?_⟩
          have nx := y2 (some (.int (iz (mm 54 (8 * 0))))) P hP
          rw [show (((d + 1 : Nat)) : Int) = (d : Int) + 1 by omega] at nx
          rw [u_179_14]
          simp (disch := first | omega | assumption | (simp; done)) only [u_179_0, u_179_1, u_179_2, u_179_4, u_179_7, u_179_10, u_179_11, u_179_12, u_179_13, u_179_15, u_179_16, u_179_19, u_179_20, u_179_23, u_179_26, u_179_27, u_179_28, u_179_31, u_179_32, u_179_33, u_179_36, u_179_39, u_179_43, true_or, or_true, zk_li1_s, zk_ll1_s, zk_la1_r, zk_la1_n, zk_lg0, zk_lgs, zk_co_n, zk_co_i, zk_co_r, zk_co_u, zk_co_l, zk_l1_0, zk_l1_1, zk_l1_s, zk_l2_0, zk_l2_1, zk_l2_s, zk_sm0, zk_smi, zk_smr, zk_smn, zk_sml, zk_fi, zk_fz, zk_fo, zk_fn, zk_fa, zk_ts, zk_tn, zk_cases, true_and, and_true, List.getElem?_cons_zero, List.getElem?_cons_succ, List.length_cons, List.length_nil, Nat.reduceAdd, Nat.reduceLT, Nat.reduceLeDiff, List.set_cons_zero, List.set_cons_succ, va_rf, ic, iz_lit, iz_le, iz_lt, iz_add, mg_53 hB, mw_53 hB, rm, x2]
          (repeat' (first | exact nx | apply And.intro | intro _)) <;> first | omega | (exfalso; omega) | contradiction | exact absurd trivial (by assumption) | (exfalso; simp_all; done)
        · obtain ⟨f1, f2⟩ := fls_stop c0 (q + 1)
          have en : n.toNat = d + (q + 1) := by omega
          refine ⟨mm, by rw [en, f1]; exact hm, fun o3 P hP => ?_⟩
          rw [en, f2, hc] at hP
          rw [u_179_14]
          simp (disch := first | omega | assumption | (simp; done)) only [u_179_0, u_179_1, u_179_2, u_179_4, u_179_7, u_179_10, u_179_11, u_179_12, u_179_13, u_179_15, u_179_16, u_179_19, u_179_20, u_179_23, u_179_27, u_179_28, u_179_31, u_179_32, u_179_33, u_179_36, u_179_39, u_179_42, u_179_43, true_or, or_true, zk_li1_s, zk_ll1_s, zk_la1_r, zk_la1_n, zk_lg0, zk_lgs, zk_co_n, zk_co_i, zk_co_r, zk_co_u, zk_co_l, zk_l1_0, zk_l1_1, zk_l1_s, zk_l2_0, zk_l2_1, zk_l2_s, zk_sm0, zk_smi, zk_smr, zk_smn, zk_sml, zk_fi, zk_fz, zk_fo, zk_fn, zk_fa, zk_ts, zk_tn, zk_cases, true_and, and_true, List.getElem?_cons_zero, List.getElem?_cons_succ, List.length_cons, List.length_nil, Nat.reduceAdd, Nat.reduceLT, Nat.reduceLeDiff, List.set_cons_zero, List.set_cons_succ, va_rf, ic, iz_lit, iz_le, iz_lt, mg_53 hB, mw_53 hB]
          (repeat' (first | exact hP | apply And.intro | intro _)) <;> first | omega | (exfalso; omega) | contradiction | exact absurd trivial (by assumption) | (exfalso; simp_all; done)
    obtain ⟨m', y1, y2⟩ := loop n.toNat 0 m (by omega) (dtx_r m) rfl
    refine ⟨m', y1, fun Q => zk_eq ?_ Q⟩
    have nx := fun o3 => y2 o3 (fun r h' => r = some (.int (iz (flc m n.toNat))) ∧ h' = hp G B M m') ⟨rfl, rfl⟩
    simp (disch := first | omega | assumption | (simp; done)) only [u_179_0, u_179_1, u_179_2, u_179_4, u_179_7, u_179_11, u_179_12, u_179_13, u_179_15, u_179_16, u_179_19, u_179_20, u_179_23, u_179_26, u_179_27, u_179_28, u_179_31, u_179_32, u_179_33, u_179_36, u_179_39, u_179_42, u_179_43, true_or, or_true, zk_li1_s, zk_ll1_s, zk_la1_r, zk_la1_n, zk_lg0, zk_lgs, zk_co_n, zk_co_i, zk_co_r, zk_co_u, zk_co_l, zk_l1_0, zk_l1_1, zk_l1_s, zk_l2_0, zk_l2_1, zk_l2_s, zk_sm0, zk_smi, zk_smr, zk_smn, zk_sml, zk_fi, zk_fz, zk_fo, zk_fn, zk_fa, zk_ts, zk_tn, zk_cases, true_and, and_true, List.getElem?_cons_zero, List.getElem?_cons_succ, List.length_cons, List.length_nil, Nat.reduceAdd, Nat.reduceLT, Nat.reduceLeDiff, List.set_cons_zero, List.set_cons_succ, va_rf, ic, iz_lit, iz_inj, im]
    (repeat' (first | exact nx _ | apply And.intro | intro _)) <;> first | omega | (exfalso; omega) | contradiction | exact absurd trivial (by assumption) | (exfalso; simp_all; done)
  · rw [if_neg c, if_neg c]
    rw [if_neg c] at im
    refine ⟨m, dtx_r m, fun Q => zk_eq ?_ Q⟩
    simp (disch := first | omega | assumption | (simp; done)) only [u_179_0, u_179_1, u_179_2, u_179_4, u_179_7, u_179_10, u_179_11, u_179_13, u_179_14, u_179_15, u_179_16, u_179_19, u_179_20, u_179_23, u_179_26, u_179_27, u_179_28, u_179_31, u_179_32, u_179_33, u_179_36, u_179_39, u_179_42, u_179_43, true_or, or_true, zk_li1_s, zk_ll1_s, zk_la1_r, zk_la1_n, zk_lg0, zk_lgs, zk_co_n, zk_co_i, zk_co_r, zk_co_u, zk_co_l, zk_l1_0, zk_l1_1, zk_l1_s, zk_l2_0, zk_l2_1, zk_l2_s, zk_sm0, zk_smi, zk_smr, zk_smn, zk_sml, zk_fi, zk_fz, zk_fo, zk_fn, zk_fa, zk_ts, zk_tn, zk_cases, true_and, and_true, List.getElem?_cons_zero, List.getElem?_cons_succ, List.length_cons, List.length_nil, Nat.reduceAdd, Nat.reduceLT, Nat.reduceLeDiff, List.set_cons_zero, List.set_cons_succ, va_rf, ic, iz_lit, iz_neg, iz_inj, im]
    all_goals ((repeat' (first | exact trivial | exact ⟨rfl, rfl⟩ | rfl | apply And.intro | intro _)) <;> first | omega | (exfalso; omega) | contradiction | (exfalso; simp_all; done) | trace_state)
end MFLO
