/-! what is always so, after n calls -/
def INV (n : Int) (m : mS) : Prop := ∃ (b c w d : Int) (g p : Int → Int), KK b g p 100 c m ∧ (0 ≤ b ∧ b ≤ 60 * n) ∧ c ≤ 200 * n ∧ (∀ j, 0 ≤ j → j < 12 → g j ≤ p j ∧ p j ≤ d ∧ g j + ask m j ≤ w) ∧ w + d ≤ n
theorem INV_IV {n : Int} {m : mS} (h : INV n m) (hn : 0 ≤ n ∧ n ≤ 512) : IV m ∧ ∀ i, 0 ≤ i → i < 36 → m 30 i ≤ 90000 ∧ m 34 i ≤ 90000 := by
  obtain ⟨b, c, w, d, g, p, hK, hb, hc, hg, hw⟩ := h
  refine ⟨KK_IV hK (by omega) (by omega) (fun j a b => ?_), fun i a b => ?_⟩
  · have := hg j a b
    have := ask_0 m j
    omega
  · have := hK.2.2.1.2.1 (i / 12) (i % 12) (by omega) (by omega) (by omega) (by omega)
    rw [show 12 * (i / 12) + i % 12 = i by omega] at this
    obtain ⟨q1, q2, -⟩ := this
    omega
theorem INV_same {n : Int} {m : mS} (h : INV n m) : INV (n + 1) m := by
  obtain ⟨b, c, w, d, g, p, hK, hb, hc, hg, hw⟩ := h
  exact ⟨b, c, w, d, g, p, hK, by omega, by omega, hg, by omega⟩
theorem INV_dtx {n : Int} {m m' : mS} (h : INV n m) (hd : dtx m m') (hr : rg m') : INV n m' := by
  obtain ⟨b, c, w, d, g, p, hK, hb, hc, hg, hw⟩ := h
  refine ⟨b, c, w, d, g, p, KK_dtx hK hd hr, hb, hc, fun j j0 j1 => ?_, hw⟩
  have : ask m' j = ask m j := by unfold ask; rw [hd 36 _ (by decide) (by decide) (by decide), hd 36 _ (by decide) (by decide) (by decide), hd 36 _ (by decide) (by decide) (by decide)]
  rw [this]
  exact hg j j0 j1
theorem INV_set {n : Int} {m m' : mS} (h : INV n m) (hM' : MC m') (hk : ∀ k z, 30 ≤ k → k ≠ 42 → k ≠ 43 → m' k z = m k z) (h10 : m 10 0 ≤ m' 10 0) (h42 : (∀ z, m 42 z = 0 ∨ m 42 z = 1) → ∀ z, m' 42 z = 0 ∨ m' 42 z = 1) (h43 : (∀ z, m 43 z = 0 ∨ m 43 z = 1) → ∀ z, m' 43 z = 0 ∨ m' 43 z = 1) : INV (n + 1) m' := by
  obtain ⟨b, c, w, d, g, p, hK, hb, hc, hg, hw⟩ := h
  refine ⟨b, c, w, d, g, p, KK_set hK hM' hk h10 (h42 hK.2.2.2.1.2.2.1) (h43 hK.2.2.2.1.2.2.2), by omega, by omega, fun j j0 j1 => ?_, by omega⟩
  have : ask m' j = ask m j := by unfold ask; rw [hk 36 _ (by decide) (by decide) (by decide), hk 36 _ (by decide) (by decide) (by decide), hk 36 _ (by decide) (by decide) (by decide)]
  rw [this]
  exact hg j j0 j1
/-- settings below 30 -/
theorem INV_low {n : Int} {m m' : mS} (h : INV n m) (hM' : MC m → MC m') (hk : ∀ k z, 30 ≤ k → m' k z = m k z) (h10 : m 10 0 ≤ m' 10 0) : INV (n + 1) m' := by
  have hM : MC m := by obtain ⟨b, c, w, d, g, p, hK, -⟩ := h; exact hK.1
  exact INV_set h (hM' hM) (fun k z a _ _ => hk k z a) h10 (fun q z => by rw [hk 42 z (by omega)]; exact q z) (fun q z => by rw [hk 43 z (by omega)]; exact q z)
theorem INV_zone {n : Int} {m : mS} (h : INV n m) : INV (n + 1) (f_zone m) := by
  unfold f_zone
  split
  · exact INV_same h
  · rename_i c
    exact INV_low h (fun hM => MC_zone hM c) (fun k z a => up_k _ _ _ _ (by omega)) (by rw [up_k _ _ _ _ (by decide)]; omega)
theorem INV_shift {n : Int} {m : mS} (h : INV n m) {z t o : Int} (hs : shGo m z t o) : INV (n + 1) (up (up (up m 3 (10 * z + m 2 z) t) 4 (10 * z + m 2 z) o) 2 z (m 2 z + 1)) :=
  INV_low h (fun hM => MC_shift hM hs) (fun k y a => by rw [up_k _ _ _ _ (by omega), up_k _ _ _ _ (by omega), up_k _ _ _ _ (by omega)]) (by rw [up_k _ _ _ _ (by decide), up_k _ _ _ _ (by decide), up_k _ _ _ _ (by decide)]; omega)
theorem INV_hol {n : Int} {m : mS} (h : INV n m) (z d : Int) : INV (n + 1) (f_hol m z d) := by
  unfold f_hol
  split
  · rename_i c
    exact INV_low h (fun hM => MC_hol hM c.1.1 c.1.2 c.2.2) (fun k y a => by rw [up_k _ _ _ _ (by omega), up_k _ _ _ _ (by omega)]) (by rw [up_k _ _ _ _ (by decide), up_k _ _ _ _ (by decide)]; omega)
  · exact INV_same h
theorem INV_job {n : Int} {m : mS} (h : INV n m) (z : Int) : INV (n + 1) (f_job m z) := by
  unfold f_job
  split
  · rename_i c
    exact INV_low h (fun hM => MC_job hM c.2 c.1) (fun k y a => by rw [up_k _ _ _ _ (by omega), up_k _ _ _ _ (by omega)]) (by rw [up_e]; omega)
  · exact INV_same h
theorem INV_mask {n : Int} {m : mS} (h : INV n m) (j f : Int) (x : Nat) : INV (n + 1) (f_mask m j f x) := by
  refine INV_low h (fun hM => MC_fmask hM j f x) (fun k y a => ?_) ?_
  · unfold f_mask
    split
    · rw [up_k _ _ _ _ (by omega)]
    · rfl
  · unfold f_mask
    split
    · rw [up_k _ _ _ _ (by omega)]; omega
    · omega
theorem INV_nth {n : Int} {m : mS} (h : INV n m) {j w x : Int} (hs : nthOk m j w x) (h3 : m 17 j ≠ 3) : INV (n + 1) (up (up (up m 18 (3 * j + m 17 j) w) 19 (3 * j + m 17 j) x) 17 j (m 17 j + 1)) :=
  INV_low h (fun hM => MC_nth hM hs h3) (fun k y a => by rw [up_k _ _ _ _ (by omega), up_k _ _ _ _ (by omega), up_k _ _ _ _ (by omega)]) (by rw [up_k _ _ _ _ (by decide), up_k _ _ _ _ (by decide), up_k _ _ _ _ (by decide)]; omega)
theorem INV_exc {n : Int} {m : mS} (h : INV n m) (j t : Int) : INV (n + 1) (f_exc m j t) := by
  unfold f_exc
  split
  · rename_i c
    exact INV_low h (fun hM => MC_exc hM c.1.1 c.1.2 c.2) (fun k y a => by rw [up_k _ _ _ _ (by omega), up_k _ _ _ _ (by omega)]) (by rw [up_k _ _ _ _ (by decide), up_k _ _ _ _ (by decide)]; omega)
  · exact INV_same h
theorem INV_one {n : Int} {m : mS} (h : INV n m) {j : Int} (hj : 0 ≤ j ∧ j < m 10 0) (k : Nat) (v : Int) (hv : (k = 22 ∧ 0 ≤ v ∧ v ≤ 2) ∨ (k = 23 ∧ 0 ≤ v ∧ v ≤ 2) ∨ (k = 24 ∧ 0 ≤ v ∧ v ≤ 1440) ∨ (k = 25 ∧ (v = 0 ∨ v = 1))) : INV (n + 1) (up m k j v) :=
  INV_low h (fun hM => MC_one hM hj k v hv) (fun k' y a => up_k _ _ _ _ (by omega)) (by rw [up_k _ _ _ _ (by omega)]; omega)
theorem INV_catch {n : Int} {m : mS} (h : INV n m) {j w l : Int} (hj : 0 ≤ j ∧ j < m 10 0) (hw : 0 ≤ w ∧ w ≤ 2) (hl : 0 ≤ l ∧ l ≤ 1440) : INV (n + 1) (up (up m 23 j w) 24 j l) :=
  INV_low h (fun hM => MC_one (MC_one hM hj 23 w (by omega)) (by rw [up_k _ _ _ _ (by decide)]; exact hj) 24 l (by omega)) (fun k' y a => by rw [up_k _ _ _ _ (by omega), up_k _ _ _ _ (by omega)]) (by rw [up_k _ _ _ _ (by decide), up_k _ _ _ _ (by decide)]; omega)
theorem INV_after {n : Int} {m : mS} (h : INV n m) {j o : Int} (ha : afO m j o) (hb : afB m j o = false) (h3 : m 26 j ≠ 3) : INV (n + 1) (up (up m 27 (3 * j + m 26 j) o) 26 j (m 26 j + 1)) :=
  INV_low h (fun hM => MC_after hM ha hb h3) (fun k' y a => by rw [up_k _ _ _ _ (by omega), up_k _ _ _ _ (by omega)]) (by rw [up_k _ _ _ _ (by decide), up_k _ _ _ _ (by decide)]; omega)
theorem INV_rn {n : Int} {m : mS} (h : INV n m) (j : Int) : INV (n + 1) (f_rn m j) := by
  unfold f_rn
  split
  · rename_i c
    exact INV_low h (fun hM => MC_ext hM c.1 hM.2.1 c.2.2) (fun k y a => by rw [up_k _ _ _ _ (by omega), up_k _ _ _ _ (by omega)]) (by rw [up_k _ _ _ _ (by decide), up_k _ _ _ _ (by decide)]; omega)
  · exact INV_same h
theorem INV_now {n : Int} {m : mS} (h : INV n m) {t : Int} (ht : 0 ≤ t ∧ t ≤ 21038399) : INV (n + 1) (up m 0 0 t) :=
  INV_low h (fun hM => MC_now hM ht) (fun k' y a => up_k _ _ _ _ (by omega)) (by rw [up_k _ _ _ _ (by omega)]; omega)
theorem INV_sd {n : Int} {m : mS} (h : INV n m) (k : Nat) (z v : Int) (hk : k = 42 ∨ k = 43) (hv : v = 0 ∨ v = 1) : INV (n + 1) (up m k z v) := by
  have hM : MC m := by obtain ⟨b, c, w, d, g, p, hK, -⟩ := h; exact hK.1
  refine INV_set h (MC_of hM (rg_up hM.1 _ _ (by omega)) (fun k' y q => up_k _ _ _ _ (by omega)) (fun k' y q _ => up_k _ _ _ _ (by omega))) (fun k' y a b c => up_k _ _ _ _ (by omega)) (by rw [up_k _ _ _ _ (by omega)]; omega) (fun q y => ?_) (fun q y => ?_)
  · rcases hk with rfl | rfl
    · rw [up_z]; split
      · exact hv
      · exact q y
    · rw [up_k _ _ _ _ (by decide)]; exact q y
  · rcases hk with rfl | rfl
    · rw [up_k _ _ _ _ (by decide)]; exact q y
    · rw [up_z]; split
      · exact hv
      · exact q y
theorem INV_wake {n : Int} {m : mS} (h : INV n m) (hn : 0 ≤ n ∧ n ≤ 512) (sc : Int) : INV (n + 1) (f_wake m sc) := by
  unfold f_wake
  split
  · rename_i cs
    obtain ⟨b, c, w, d, g, p, hK, hb, hc, hg, hw⟩ := h
    have h10 := hK.1.2.2.2.1
    obtain ⟨K1, K2⟩ := KK_wks hK (by omega) (by omega) (sc := sc) (by omega) (fun j a b => by
      have := hg j a b
      have := ask_0 m j
      omega) (m 10 0).toNat (by omega)
    refine ⟨b + 5 * ((m 10 0).toNat : Nat), c + 3 * ((m 10 0).toNat : Nat), w + 1, d, g, p, K1, by omega, by omega, fun j a b => ?_, by omega⟩
    have q1 := hg j a b
    have q2 := K2 j a b
    have q3 : (if j < ((m 10 0).toNat : Nat) then (1 : Int) else 0) ≤ 1 := by split <;> omega
    omega
  · exact INV_same h
theorem INV_del {n : Int} {m : mS} (h : INV n m) (hn : 0 ≤ n ∧ n ≤ 512) (i : Int) : INV (n + 1) (f_del m i) := by
  unfold f_del
  split
  · rename_i ci
    obtain ⟨b, c, w, d, g, p, hK, hb, hc, hg, hw⟩ := h
    obtain ⟨g', z1, z2, z3⟩ := KK_deliver hK (by omega) (by omega) ci (fun j a b => by
      have := hg j a b
      have := ask_0 m j
      omega)
    refine ⟨b, c + 3, w, d + 1, g', fun j => p j + 1, z3, by omega, by omega, fun j a b => ?_, by omega⟩
    have q1 := hg j a b
    have q2 := z2 j a b
    show g' j ≤ p j + 1 ∧ p j + 1 ≤ d + 1 ∧ _
    omega
  · exact INV_same h
theorem INV_flow {n : Int} {m : mS} (h : INV n m) (hn : 0 ≤ n ∧ n ≤ 512) : (∀ k : Nat, (k : Int) ≤ 50 → IV (fls m k)) ∧ ∀ x, INV (n + 1) (f_flow m x) := by
  obtain ⟨b, c, w, d, g, p, hK, hb, hc, hg, hw⟩ := id h
  have key := KK_fls hK (by omega) (by omega) (fun j a b => (hg j a b).1) (w := w) (d := d) (fun j a b => ⟨(hg j a b).2.2, (hg j a b).2.1⟩) (by omega)
  refine ⟨fun k hk => ?_, fun x => ?_⟩
  · obtain ⟨g', a, z1, z2, z3, z4, z5⟩ := key k (by omega)
    refine KK_IV z3 (by omega) (by omega) (fun j j0 j1 => ?_)
    have q1 := z2 j j0 j1
    have q2 := hg j j0 j1
    have q3 := ask_0 (fls m k) j
    have q4 : 0 ≤ ea a 0 := by unfold ea; split <;> omega
    omega
  · unfold f_flow
    split
    · rename_i cx
      obtain ⟨g', a, z1, z2, z3, z4, z5⟩ := key x.toNat (by omega)
      refine ⟨b, c + 3 * (x.toNat : Nat), w, d + 1, g', fun j => p j + 1, KK_fin z3, by omega, by omega, fun j j0 j1 => ?_, by omega⟩
      have q1 := z2 j j0 j1
      have q2 := hg j j0 j1
      have q4 : 0 ≤ ea a 0 := by unfold ea; split <;> omega
      show g' j ≤ p j + 1 ∧ p j + 1 ≤ d + 1 ∧ _
      omega
    · exact INV_same h
theorem INV_lose {n : Int} {m : mS} (h : INV n m) (i : Int) : INV (n + 1) (if 0 ≤ i ∧ i < m 53 0 then mrem m i else m) := by
  split
  · rename_i ci
    obtain ⟨b, c, w, d, g, p, hK, hb, hc, hg, hw⟩ := h
    refine ⟨b, c, w, d, g, p, KK_lose hK ci, by omega, by omega, fun j a b => ?_, by omega⟩
    rw [ask_rem]
    exact hg j a b
  · exact INV_same h
theorem INV_twin {n : Int} {m : mS} (h : INV n m) (hn : 0 ≤ n ∧ n ≤ 512) (i : Int) : INV (n + 1) (f_twin m i) := by
  unfold f_twin
  split
  · rename_i ci
    obtain ⟨b, c, w, d, g, p, hK, hb, hc, hg, hw⟩ := h
    obtain ⟨z1, z2⟩ := KK_twin hK (by omega) ci.1 ci.2
    refine ⟨b, c + 1, w, d, g, p, z1, by omega, by omega, fun j a b => ?_, by omega⟩
    have : ask (up (mtw m i 8) 53 0 (m 53 0 + 1)) j = ask m j := by unfold ask; rw [z2, z2, z2]
    rw [this]
    exact hg j a b
  · exact INV_same h
theorem INV_crash {n : Int} {m : mS} (h : INV n m) (sc : Int) : INV (n + 1) (f_crash m sc) := by
  unfold f_crash
  split
  · rename_i ci
    obtain ⟨b, c, w, d, g, p, hK, hb, hc, hg, hw⟩ := h
    obtain ⟨z1, z2⟩ := KK_crash hK hb.1 ci.1
    refine ⟨b, c, w, d, g, p, z1, by omega, by omega, fun j a b => ?_, by omega⟩
    have q1 := hg j a b
    have q2 := ask_le z2 j
    omega
  · exact INV_same h
