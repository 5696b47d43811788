/-! rules: the heap and calls -/
def zk_og (G : zk_G) (h : zk_H) (a ci k : Nat) (P : Value → Prop) : Prop := match zk_rd G h a with
  | some (.inr (cj, fs)) => cj = ci ∧ (match fs[k]? with
    | some v => P v
    | none => False)
  | _ => False
def zk_op (G : zk_G) (h : zk_H) (a ci k : Nat) (ty : FieldType) (v : Value) (P : zk_H → Prop) : Prop := match zk_rd G h a with
  | some (.inr (cj, fs)) => cj = ci ∧ k < fs.length ∧ zk_fit ty v = true ∧ P (zk_wr G h a (.inr (ci, fs.set k v)))
  | _ => False
def zk_ai (G : zk_G) (h : zk_H) (a : Nat) (i : Int32) (P : Int32 → Prop) : Prop := match zk_ar G h a with
  | some (0, n, .inl f) => (0 ≤ i.toInt ∧ i.toInt < n) ∧ P (f i.toInt.toNat)
  | _ => False
def zk_aj (G : zk_G) (h : zk_H) (a : Nat) (i : Int32) (P : Int64 → Prop) : Prop := match zk_ar G h a with
  | some (1, n, .inr (.inl f)) => (0 ≤ i.toInt ∧ i.toInt < n) ∧ P (f i.toInt.toNat)
  | _ => False
def zk_az (G : zk_G) (h : zk_H) (a : Nat) (i : Int32) (P : Int32 → Prop) : Prop := match zk_rd G h a with
  | some (.inl (2, n, .inl f)) => (0 ≤ i.toInt ∧ i.toInt < n) ∧ P (f i.toInt.toNat)
  | _ => False
def zk_aa (G : zk_G) (h : zk_H) (a : Nat) (i : Int32) (P : Value → Prop) : Prop := match zk_rd G h a with
  | some (.inl (t, n, .inr (.inr (.inr (.inr f))))) => (0 ≤ i.toInt ∧ i.toInt < n) ∧ (3 ≤ t ∧ t ≤ 6) ∧ P (va_rf (f i.toInt.toNat))
  | _ => False
def zk_an (G : zk_G) (h : zk_H) (a : Nat) (P : Int32 → Prop) : Prop := match zk_ar G h a with
  | some (t, x) => t ≤ 6 ∧ P (Int32.ofNat x.1)
  | none => False
def zk_si (G : zk_G) (h : zk_H) (a : Nat) (i x : Int32) (P : zk_H → Prop) : Prop := match zk_rd G h a with
  | some (.inl (0, n, .inl f)) => (0 ≤ i.toInt ∧ i.toInt < n) ∧ P (zk_wr G h a (.inl (0, n, .inl (upd f i.toInt.toNat x))))
  | _ => False
def zk_sz1 (G : zk_G) (h : zk_H) (a : Nat) (i x : Int32) (P : zk_H → Prop) : Prop := match zk_rd G h a with
  | some (.inl (2, n, .inl f)) => (0 ≤ i.toInt ∧ i.toInt < n) ∧ (x = 0 ∨ x = 1) ∧ P (zk_wr G h a (.inl (2, n, .inl (upd f i.toInt.toNat x))))
  | _ => False
def zk_sl1 (G : zk_G) (h : zk_H) (a : Nat) (i : Int32) (x : Int64) (P : zk_H → Prop) : Prop := match zk_rd G h a with
  | some (.inl (1, n, .inr (.inl f))) => (0 ≤ i.toInt ∧ i.toInt < n) ∧ P (zk_wr G h a (.inl (1, n, .inr (.inl (vp_updL f i.toInt.toNat x)))))
  | _ => False
def zk_sa1 (G : zk_G) (h : zk_H) (a : Nat) (i : Int32) (v : Nat) (P : zk_H → Prop) : Prop := match zk_rd G h a, zk_rd G h v with
  | some (.inl (t, n, .inr (.inr (.inr (.inr f))))), some (.inr (ci, _)) => (0 ≤ i.toInt ∧ i.toInt < n) ∧ (3 ≤ t ∧ t ≤ 6 ∧ ci = zk_ac t) ∧ P (zk_wr G h a (.inl (t, n, .inr (.inr (.inr (.inr (va_up f i.toInt.toNat (some v))))))))
  | _, _ => False
def zk_ic (G : zk_G) (h : zk_H) (b ci : Nat) : Prop := ∃ fs, zk_rd G h b = some (.inr (ci, fs))
def zk_cases (x : Int) (lo : Int) (tl : List Nat) (P : Nat → Prop) : Prop := match tl with
  | [] => True
  | t :: ts => (x = lo → P t) ∧ zk_cases x (lo + 1) ts P
theorem zk_inb_iff {i : Int32} {n : Nat} : zk_inb i n = true ↔ (0 ≤ i.toInt ∧ i.toInt < n) := by
  unfold zk_inb
  simp only [Bool.and_eq_true, decide_eq_true_eq]
section ZKU
variable {y pc pc' : Nat}
theorem zu_heap {ins : Instr} {len : Nat} {G : zk_G} {L : zk_L} {st : List Value} {h : zk_H} {Q : Option Value → zk_H → Prop} (hft : zk_ft y pc = some (ins, len)) (h1 : zk_inv G y ins st h = none) (h2 : zk_ret (zk_rt y) ins len st = none) (h3 : zk_jump ins len pc st = none) (h5 : zk_pure ins L st = none) (hl : len = zk_len ins) : zk_wp G y pc L st h Q ↔ (match zk_heap G (zk_c y) (zk_ini y) (zk_lev y) ins st h with
  | some (st', h') => zk_wp G y (pc + len) L st' h' Q
  | none => False) := by
  rw [zk_wp_iff hft]
  unfold zk_wpI
  rw [h1]
  dsimp only
  rw [h2]
  dsimp only
  rw [h3]
  dsimp only
  cases zk_heap G (zk_c y) (zk_ini y) (zk_lev y) ins st h with
  | none =>
    dsimp only
    rw [h5]
  | some q => exact ⟨And.right, And.intro hl⟩
theorem zu_get (y pc pc' i : Nat) (nest : Bool) (ci k : Nat) (hft : zk_ft y pc = some (.getfield i, 3)) (hf : zk_fl (zk_c y) i = some (nest, ci, k)) (hp : pc + 3 = pc') : ∀ (G : zk_G) (L : zk_L) (st : List Value) (h : zk_H) (Q : Option Value → zk_H → Prop) (a : Nat), zk_wp G y pc L (.ref a :: st) h Q ↔ zk_og G h a ci k (fun v => zk_wp G y pc' L (v :: st) h Q) := by
  intro G L st h Q a
  subst hp
  rw [zu_heap hft rfl rfl rfl rfl rfl]
  unfold zk_heap zk_og
  dsimp only
  rw [hf]
  dsimp only
  cases zk_rd G h a with
  | none => exact Iff.rfl
  | some e =>
    cases e with
    | inl x => exact Iff.rfl
    | inr q =>
      obtain ⟨cj, fs⟩ := q
      dsimp only
      by_cases hc : cj = ci
      · rw [if_pos hc]
        cases fs[k]? with
        | none => simp [hc]
        | some v => simp [hc]
      · rw [if_neg hc]
        simp [hc]
theorem zu_put (y pc pc' i : Nat) (nest : Bool) (ci k : Nat) (ty : FieldType) (hft : zk_ft y pc = some (.putfield i, 3)) (hf : zk_fl (zk_c y) i = some (nest, ci, k)) (hpm : zk_pm (zk_c y) (zk_ini y) nest ci k = true) (hty : zk_ty ci k = ty) (hp : pc + 3 = pc') : ∀ (G : zk_G) (L : zk_L) (st : List Value) (h : zk_H) (Q : Option Value → zk_H → Prop) (a : Nat) (v : Value), zk_wp G y pc L (v :: .ref a :: st) h Q ↔ zk_op G h a ci k ty v (fun h' => zk_wp G y pc' L st h' Q) := by
  intro G L st h Q a v
  subst hp
  subst hty
  rw [zu_heap hft rfl rfl rfl rfl rfl]
  unfold zk_heap zk_op
  dsimp only
  rw [hf]
  dsimp only
  cases zk_rd G h a with
  | none => exact Iff.rfl
  | some e =>
    cases e with
    | inl x => exact Iff.rfl
    | inr q =>
      obtain ⟨cj, fs⟩ := q
      dsimp only
      by_cases hc : cj = ci
      · rw [if_pos hc]
        by_cases hk : k < fs.length
        · rw [if_pos hk, if_pos hpm]
          by_cases hfit : zk_fit (zk_ty ci k) v = true
          · rw [if_pos hfit]
            simp [hc, hk, hfit, zk_len]
          · rw [if_neg hfit]
            simp [hfit]
        · rw [if_neg hk]
          simp [hk]
      · rw [if_neg hc]
        simp [hc]
theorem zu_iaload (y pc pc' : Nat) (hft : zk_ft y pc = some (.iaload, 1)) (hp : pc + 1 = pc') : ∀ (G : zk_G) (L : zk_L) (st : List Value) (h : zk_H) (Q : Option Value → zk_H → Prop) (i : Int32) (a : Nat), zk_wp G y pc L (.int i :: .ref a :: st) h Q ↔ zk_ai G h a i (fun v => zk_wp G y pc' L (.int v :: st) h Q) := by
  intro G L st h Q i a
  subst hp
  rw [zu_heap hft rfl rfl rfl rfl rfl]
  unfold zk_heap zk_ai
  dsimp only
  split
  next st' h' hh =>
    split at hh
    next n f ha =>
      split at hh
      next hi => cases hh; rw [ha]; exact ⟨fun q => ⟨zk_inb_iff.mp hi, q⟩, And.right⟩
      next => cases hh
    next => cases hh
  next hh =>
    split at hh
    next n f ha =>
      split at hh
      next hi => cases hh
      next hi => rw [ha]; exact ⟨False.elim, fun q => hi (zk_inb_iff.mpr q.1)⟩
    next hn =>
      split
      next n f ha => exact absurd ha (hn n f)
      next => exact Iff.rfl
theorem zu_laload (y pc pc' : Nat) (hft : zk_ft y pc = some (.laload, 1)) (hp : pc + 1 = pc') : ∀ (G : zk_G) (L : zk_L) (st : List Value) (h : zk_H) (Q : Option Value → zk_H → Prop) (i : Int32) (a : Nat), zk_wp G y pc L (.int i :: .ref a :: st) h Q ↔ zk_aj G h a i (fun v => zk_wp G y pc' L (.long v :: st) h Q) := by
  intro G L st h Q i a
  subst hp
  rw [zu_heap hft rfl rfl rfl rfl rfl]
  unfold zk_heap zk_aj
  dsimp only
  split
  next st' h' hh =>
    split at hh
    next n f ha =>
      split at hh
      next hi => cases hh; rw [ha]; exact ⟨fun q => ⟨zk_inb_iff.mp hi, q⟩, And.right⟩
      next => cases hh
    next => cases hh
  next hh =>
    split at hh
    next n f ha =>
      split at hh
      next hi => cases hh
      next hi => rw [ha]; exact ⟨False.elim, fun q => hi (zk_inb_iff.mpr q.1)⟩
    next hn =>
      split
      next n f ha => exact absurd ha (hn n f)
      next => exact Iff.rfl
theorem zu_baload (y pc pc' : Nat) (hft : zk_ft y pc = some (.baload, 1)) (hp : pc + 1 = pc') : ∀ (G : zk_G) (L : zk_L) (st : List Value) (h : zk_H) (Q : Option Value → zk_H → Prop) (i : Int32) (a : Nat), zk_wp G y pc L (.int i :: .ref a :: st) h Q ↔ zk_az G h a i (fun v => zk_wp G y pc' L (.int v :: st) h Q) := by
  intro G L st h Q i a
  subst hp
  rw [zu_heap hft rfl rfl rfl rfl rfl]
  unfold zk_heap zk_az
  dsimp only
  split
  next st' h' hh =>
    split at hh
    next n f ha =>
      split at hh
      next hi => cases hh; rw [ha]; exact ⟨fun q => ⟨zk_inb_iff.mp hi, q⟩, And.right⟩
      next => cases hh
    next => cases hh
  next hh =>
    split at hh
    next n f ha =>
      split at hh
      next hi => cases hh
      next hi => rw [ha]; exact ⟨False.elim, fun q => hi (zk_inb_iff.mpr q.1)⟩
    next hn =>
      split
      next n f ha => exact absurd ha (hn n f)
      next => exact Iff.rfl
theorem zu_aaload (y pc pc' : Nat) (hft : zk_ft y pc = some (.aaload, 1)) (hp : pc + 1 = pc') : ∀ (G : zk_G) (L : zk_L) (st : List Value) (h : zk_H) (Q : Option Value → zk_H → Prop) (i : Int32) (a : Nat), zk_wp G y pc L (.int i :: .ref a :: st) h Q ↔ zk_aa G h a i (fun v => zk_wp G y pc' L (v :: st) h Q) := by
  intro G L st h Q i a
  subst hp
  rw [zu_heap hft rfl rfl rfl rfl rfl]
  unfold zk_heap zk_aa
  dsimp only
  split
  next st' h' hh =>
    split at hh
    next t n f ha =>
      split at hh
      next hi =>
        split at hh
        next ht => cases hh; rw [ha]; exact ⟨fun q => ⟨zk_inb_iff.mp hi, ht, q⟩, fun q => q.2.2⟩
        next => cases hh
      next => cases hh
    next => cases hh
  next hh =>
    split at hh
    next t n f ha =>
      split at hh
      next hi =>
        split at hh
        next => cases hh
        next ht => rw [ha]; exact ⟨False.elim, fun q => ht q.2.1⟩
      next hi => rw [ha]; exact ⟨False.elim, fun q => hi (zk_inb_iff.mpr q.1)⟩
    next hn =>
      split
      next t n f ha => exact absurd ha (hn t n f)
      next => exact Iff.rfl
theorem zu_alen (y pc pc' : Nat) (hft : zk_ft y pc = some (.arraylength, 1)) (hp : pc + 1 = pc') : ∀ (G : zk_G) (L : zk_L) (st : List Value) (h : zk_H) (Q : Option Value → zk_H → Prop) (a : Nat), zk_wp G y pc L (.ref a :: st) h Q ↔ zk_an G h a (fun v => zk_wp G y pc' L (.int v :: st) h Q) := by
  intro G L st h Q a
  subst hp
  rw [zu_heap hft rfl rfl rfl rfl rfl]
  unfold zk_heap zk_an
  dsimp only
  cases zk_ar G h a with
  | none => exact Iff.rfl
  | some q =>
    obtain ⟨t, x⟩ := q
    dsimp only
    by_cases ht : t ≤ 6
    · rw [if_pos ht]; exact ⟨fun q => ⟨ht, q⟩, And.right⟩
    · rw [if_neg ht]; exact ⟨False.elim, fun q => ht q.1⟩
theorem zu_iastore (y pc pc' : Nat) (hft : zk_ft y pc = some (.iastore, 1)) (hp : pc + 1 = pc') : ∀ (G : zk_G) (L : zk_L) (st : List Value) (h : zk_H) (Q : Option Value → zk_H → Prop) (x i : Int32) (a : Nat), zk_wp G y pc L (.int x :: .int i :: .ref a :: st) h Q ↔ zk_si G h a i x (fun h' => zk_wp G y pc' L st h' Q) := by
  intro G L st h Q x i a
  subst hp
  rw [zu_heap hft rfl rfl rfl rfl rfl]
  unfold zk_heap zk_si
  dsimp only
  split
  next st' h' hh =>
    split at hh
    next n f ha =>
      split at hh
      next hi => cases hh; rw [ha]; exact ⟨fun q => ⟨zk_inb_iff.mp hi, q⟩, And.right⟩
      next => cases hh
    next => cases hh
  next hh =>
    split at hh
    next n f ha =>
      split at hh
      next hi => cases hh
      next hi => rw [ha]; exact ⟨False.elim, fun q => hi (zk_inb_iff.mpr q.1)⟩
    next hn =>
      split
      next n f ha => exact absurd ha (hn n f)
      next => exact Iff.rfl
theorem zu_bastore (y pc pc' : Nat) (hft : zk_ft y pc = some (.bastore, 1)) (hp : pc + 1 = pc') : ∀ (G : zk_G) (L : zk_L) (st : List Value) (h : zk_H) (Q : Option Value → zk_H → Prop) (x i : Int32) (a : Nat), zk_wp G y pc L (.int x :: .int i :: .ref a :: st) h Q ↔ zk_sz1 G h a i x (fun h' => zk_wp G y pc' L st h' Q) := by
  intro G L st h Q x i a
  subst hp
  rw [zu_heap hft rfl rfl rfl rfl rfl]
  unfold zk_heap zk_sz1
  dsimp only
  split
  next st' h' hh =>
    split at hh
    next n f ha =>
      split at hh
      next hi =>
        split at hh
        next hx => cases hh; rw [ha]; exact ⟨fun q => ⟨zk_inb_iff.mp hi, hx, q⟩, fun q => q.2.2⟩
        next => cases hh
      next => cases hh
    next => cases hh
  next hh =>
    split at hh
    next n f ha =>
      split at hh
      next hi =>
        split at hh
        next => cases hh
        next hx => rw [ha]; exact ⟨False.elim, fun q => hx q.2.1⟩
      next hi => rw [ha]; exact ⟨False.elim, fun q => hi (zk_inb_iff.mpr q.1)⟩
    next hn =>
      split
      next n f ha => exact absurd ha (hn n f)
      next => exact Iff.rfl
theorem zu_lastore (y pc pc' : Nat) (hft : zk_ft y pc = some (.lastore, 1)) (hp : pc + 1 = pc') : ∀ (G : zk_G) (L : zk_L) (st : List Value) (h : zk_H) (Q : Option Value → zk_H → Prop) (x : Int64) (i : Int32) (a : Nat), zk_wp G y pc L (.long x :: .int i :: .ref a :: st) h Q ↔ zk_sl1 G h a i x (fun h' => zk_wp G y pc' L st h' Q) := by
  intro G L st h Q x i a
  subst hp
  rw [zu_heap hft rfl rfl rfl rfl rfl]
  unfold zk_heap zk_sl1
  dsimp only
  split
  next st' h' hh =>
    split at hh
    next n f ha =>
      split at hh
      next hi => cases hh; rw [ha]; exact ⟨fun q => ⟨zk_inb_iff.mp hi, q⟩, And.right⟩
      next => cases hh
    next => cases hh
  next hh =>
    split at hh
    next n f ha =>
      split at hh
      next hi => cases hh
      next hi => rw [ha]; exact ⟨False.elim, fun q => hi (zk_inb_iff.mpr q.1)⟩
    next hn =>
      split
      next n f ha => exact absurd ha (hn n f)
      next => exact Iff.rfl
theorem zu_aastore (y pc pc' : Nat) (hft : zk_ft y pc = some (.aastore, 1)) (hp : pc + 1 = pc') : ∀ (G : zk_G) (L : zk_L) (st : List Value) (h : zk_H) (Q : Option Value → zk_H → Prop) (v : Nat) (i : Int32) (a : Nat), zk_wp G y pc L (.ref v :: .int i :: .ref a :: st) h Q ↔ zk_sa1 G h a i v (fun h' => zk_wp G y pc' L st h' Q) := by
  intro G L st h Q v i a
  subst hp
  rw [zu_heap hft rfl rfl rfl rfl rfl]
  unfold zk_heap zk_sa1
  dsimp only
  split
  next st' h' hh =>
    split at hh
    next t n f ci vs ha hv =>
      split at hh
      next hi =>
        split at hh
        next ht => cases hh; rw [ha, hv]; exact ⟨fun q => ⟨zk_inb_iff.mp hi, ht, q⟩, fun q => q.2.2⟩
        next => cases hh
      next => cases hh
    next => cases hh
  next hh =>
    split at hh
    next t n f ci vs ha hv =>
      split at hh
      next hi =>
        split at hh
        next => cases hh
        next ht => rw [ha, hv]; exact ⟨False.elim, fun q => ht q.2.1⟩
      next hi => rw [ha, hv]; exact ⟨False.elim, fun q => hi (zk_inb_iff.mpr q.1)⟩
    next hn =>
      split
      next t n f ci vs ha hv => exact (hn t n f ci vs ha hv).elim
      next => exact Iff.rfl
theorem zu_new (y pc pc' i ci N : Nat) (df : List Value) (hft : zk_ft y pc = some (.new i, 3)) (hk : zk_kc (zk_c y) i = some ci) (hd : zk_df ci = df) (hN : zk_N ci = N) (hp : pc + 3 = pc') : ∀ (G : zk_G) (L : zk_L) (st : List Value) (h : zk_H) (Q : Option Value → zk_H → Prop), zk_wp G y pc L st h Q ↔ zk_wp G y pc' L (.ref (zk_nx G h) :: st) (zk_al h (.inr (ci, df)) N) Q := by
  intro G L st h Q
  subst hp hd hN
  rw [zu_heap hft rfl rfl rfl rfl rfl]
  unfold zk_heap
  dsimp only
  rw [hk]
theorem zu_newi (y pc pc' : Nat) (hft : zk_ft y pc = some (.newarray .int, 2)) (hp : pc + 2 = pc') : ∀ (G : zk_G) (L : zk_L) (st : List Value) (h : zk_H) (Q : Option Value → zk_H → Prop) (n : Int32), zk_wp G y pc L (.int n :: st) h Q ↔ ((0 ≤ n.toInt ∧ n.toInt ≤ 65536) ∧ zk_wp G y pc' L (.ref (zk_nx G h) :: st) (zk_al h (.inl (0, n.toInt.toNat, .inl (fun _ => 0))) n.toInt.toNat) Q) := by
  intro G L st h Q n
  subst hp
  rw [zu_heap hft rfl rfl rfl rfl rfl]
  unfold zk_heap
  dsimp only
  by_cases hc : 0 ≤ n.toInt ∧ n.toInt ≤ 65536
  · rw [if_pos hc]; exact ⟨fun q => ⟨hc, q⟩, And.right⟩
  · rw [if_neg hc]; exact ⟨False.elim, fun q => hc q.1⟩
theorem zu_newj (y pc pc' : Nat) (hft : zk_ft y pc = some (.newarray .long, 2)) (hp : pc + 2 = pc') : ∀ (G : zk_G) (L : zk_L) (st : List Value) (h : zk_H) (Q : Option Value → zk_H → Prop) (n : Int32), zk_wp G y pc L (.int n :: st) h Q ↔ ((0 ≤ n.toInt ∧ n.toInt ≤ 65536) ∧ zk_wp G y pc' L (.ref (zk_nx G h) :: st) (zk_al h (.inl (1, n.toInt.toNat, .inr (.inl (fun _ => 0)))) n.toInt.toNat) Q) := by
  intro G L st h Q n
  subst hp
  rw [zu_heap hft rfl rfl rfl rfl rfl]
  unfold zk_heap
  dsimp only
  by_cases hc : 0 ≤ n.toInt ∧ n.toInt ≤ 65536
  · rw [if_pos hc]; exact ⟨fun q => ⟨hc, q⟩, And.right⟩
  · rw [if_neg hc]; exact ⟨False.elim, fun q => hc q.1⟩
theorem zu_newz (y pc pc' : Nat) (hft : zk_ft y pc = some (.newarray .boolean, 2)) (hp : pc + 2 = pc') : ∀ (G : zk_G) (L : zk_L) (st : List Value) (h : zk_H) (Q : Option Value → zk_H → Prop) (n : Int32), zk_wp G y pc L (.int n :: st) h Q ↔ ((0 ≤ n.toInt ∧ n.toInt ≤ 65536) ∧ zk_wp G y pc' L (.ref (zk_nx G h) :: st) (zk_al h (.inl (2, n.toInt.toNat, .inl (fun _ => 0))) n.toInt.toNat) Q) := by
  intro G L st h Q n
  subst hp
  rw [zu_heap hft rfl rfl rfl rfl rfl]
  unfold zk_heap
  dsimp only
  by_cases hc : 0 ≤ n.toInt ∧ n.toInt ≤ 65536
  · rw [if_pos hc]; exact ⟨fun q => ⟨hc, q⟩, And.right⟩
  · rw [if_neg hc]; exact ⟨False.elim, fun q => hc q.1⟩
theorem zu_anew (y pc pc' i ci t : Nat) (hft : zk_ft y pc = some (.anewarray i, 3)) (hk : zk_kc (zk_c y) i = some ci) (ht : zk_at ci = some t) (hp : pc + 3 = pc') : ∀ (G : zk_G) (L : zk_L) (st : List Value) (h : zk_H) (Q : Option Value → zk_H → Prop) (n : Int32), zk_wp G y pc L (.int n :: st) h Q ↔ ((0 ≤ n.toInt ∧ n.toInt ≤ 65536) ∧ zk_wp G y pc' L (.ref (zk_nx G h) :: st) (zk_al h (.inl (t, n.toInt.toNat, .inr (.inr (.inr (.inr (fun _ => none)))))) n.toInt.toNat) Q) := by
  intro G L st h Q n
  subst hp
  rw [zu_heap hft rfl rfl rfl rfl rfl]
  unfold zk_heap
  dsimp only
  rw [hk]
  dsimp only
  rw [ht]
  dsimp only
  by_cases hc : 0 ≤ n.toInt ∧ n.toInt ≤ 65536
  · rw [if_pos hc]; exact ⟨fun q => ⟨hc, q⟩, And.right⟩
  · rw [if_neg hc]; exact ⟨False.elim, fun q => hc q.1⟩
theorem zu_gets0 (y pc pc' : Nat) (hft : zk_ft y pc = some (.getstatic 15, 3)) (hc : zk_c y = 10) (hp : pc + 3 = pc') : ∀ (G : zk_G) (L : zk_L) (st : List Value) (h : zk_H) (Q : Option Value → zk_H → Prop), zk_wp G y pc L st h Q ↔ zk_wp G y pc' L (.ref (G.2.2 0) :: st) h Q := by
  intro G L st h Q
  subst hp
  rw [zu_heap hft rfl rfl rfl rfl rfl]
  unfold zk_heap
  dsimp only
  rw [if_pos ⟨hc, rfl⟩]
theorem zu_gets1 (y pc pc' : Nat) (hft : zk_ft y pc = some (.getstatic 41, 3)) (hc : zk_c y = 5) (hp : pc + 3 = pc') : ∀ (G : zk_G) (L : zk_L) (st : List Value) (h : zk_H) (Q : Option Value → zk_H → Prop), zk_wp G y pc L st h Q ↔ zk_wp G y pc' L (.ref (G.2.2 1) :: st) h Q := by
  intro G L st h Q
  subst hp
  rw [zu_heap hft rfl rfl rfl rfl rfl]
  unfold zk_heap
  dsimp only
  rw [if_neg (by rw [hc]; decide), if_pos ⟨hc, rfl⟩]
theorem zu_obj (y pc pc' i : Nat) (hft : zk_ft y pc = some (.invokespecial i, 3)) (ho : zk_ob (zk_c y) i = true) (hm : zk_mk (zk_c y) i = none) (hv : 1 ≤ zk_lev y) (hp : pc + 3 = pc') : ∀ (G : zk_G) (L : zk_L) (st : List Value) (h : zk_H) (Q : Option Value → zk_H → Prop) (a : Nat), zk_wp G y pc L (.ref a :: st) h Q ↔ (zk_sum st ≤ 8 ∧ zk_wp G y pc' L st h Q) := by
  intro G L st h Q a
  subst hp
  have e1 : zk_inv G y (.invokespecial i) (.ref a :: st) h = none := by unfold zk_inv; dsimp only; rw [hm]
  rw [zu_heap hft e1 rfl rfl rfl rfl]
  unfold zk_heap
  dsimp only
  by_cases hs : zk_sum st ≤ 8
  · rw [if_pos ⟨ho, hs, hv⟩]; exact ⟨fun q => ⟨hs, q⟩, And.right⟩
  · rw [if_neg (fun q => hs q.2.1)]; exact ⟨False.elim, fun q => hs q.1⟩
theorem zu_inv {ins : Instr} {G : zk_G} {L : zk_L} {st : List Value} {h : zk_H} {Q : Option Value → zk_H → Prop} (hft : zk_ft y pc = some (ins, 3)) {yc : Nat} {As rest : List Value} (hi : zk_inv G y ins st h = some (yc, As, rest)) {E : zk_L} (hE : zk_ent (zk_ml yc) As = E) : zk_wp G y pc L st h Q ↔ zk_wp G yc 0 E [] h (fun r h' => zk_wp G y (pc + 3) L (r.toList ++ rest) h' Q) := by
  subst hE
  rw [zk_wp_iff hft]
  unfold zk_wpI
  rw [hi]
  exact ⟨And.right, And.intro rfl⟩
theorem zu_virt {i yc ci : Nat} {G : zk_G} {L : zk_L} {st stk : List Value} {h : zk_H} {Q : Option Value → zk_H → Prop} {b : Nat} {As : List Value} {E : zk_L} (hft : zk_ft y pc = some (.invokevirtual i, 3)) (hm : zk_mk (zk_c y) i = some (0, yc)) (hn : zk_na yc = As.length) (hl : zk_lev yc < zk_lev y) (hs : (lg_sl (.ref b :: As)).length ≤ zk_ml yc) (hc : zk_c yc = ci) (hst : stk = As.reverse ++ .ref b :: st) (hE : zk_ent (zk_ml yc) (.ref b :: As) = E) (hp : pc + 3 = pc') : zk_wp G y pc L stk h Q ↔ (zk_ic G h b ci ∧ zk_sum st ≤ 8 ∧ zk_wp G yc 0 E [] h (fun r h' => zk_wp G y pc' L (r.toList ++ st) h' Q)) := by
  subst hp
  have e1 : stk.drop (zk_na yc) = .ref b :: st := by rw [hst, hn, ← List.length_reverse, List.drop_left]
  have e2 : (stk.take (zk_na yc)).reverse = As := by rw [hst, hn, ← List.length_reverse, List.take_left, List.reverse_reverse]
  have key : zk_inv G y (.invokevirtual i) stk h = (match zk_rd G h b with
        | some (.inr (cj, _)) => if cj = zk_c yc ∧ zk_fr y yc (.ref b :: As) st then some (yc, .ref b :: As, st) else none
        | _ => none) := by
    unfold zk_inv
    simp [hm, e1, e2]
    cases zk_rd G h b with
    | none => rfl
    | some z =>
      cases z with
      | inl _ => rfl
      | inr _ => rfl
  have hfr : zk_sum st ≤ 8 → zk_fr y yc (.ref b :: As) st = true := by
    intro h8
    unfold zk_fr
    simp only [Bool.and_eq_true, decide_eq_true_eq]
    exact ⟨⟨hl, hs⟩, h8⟩
  by_cases g : zk_ic G h b ci ∧ zk_sum st ≤ 8
  · obtain ⟨⟨fs, hr⟩, g2⟩ := g
    have hi : zk_inv G y (.invokevirtual i) stk h = some (yc, .ref b :: As, st) := by
      rw [key, hr]
      dsimp only
      rw [if_pos ⟨hc.symm, hfr g2⟩]
    exact (zu_inv hft hi hE).trans ⟨fun q => ⟨⟨fs, hr⟩, g2, q⟩, fun q => q.2.2⟩
  · have hi : zk_inv G y (.invokevirtual i) stk h = none := by
      rw [key]
      split
      next cj fs hr =>
        split
        next hcc =>
          refine absurd ⟨⟨fs, ?_⟩, (zk_fr_sp hcc.2).2.2⟩ g
          rw [hr, hcc.1, hc]
        next => rfl
      next => rfl
    rw [zu_heap hft hi rfl rfl rfl rfl]
    exact ⟨False.elim, fun q => g ⟨q.1, q.2.1⟩⟩
theorem zu_stat {i yc : Nat} {G : zk_G} {L : zk_L} {st stk : List Value} {h : zk_H} {Q : Option Value → zk_H → Prop} {As : List Value} {E : zk_L} (hft : zk_ft y pc = some (.invokestatic i, 3)) (hm : zk_mk (zk_c y) i = some (1, yc)) (hne : ¬ (zk_c y = 15 ∧ i = 150)) (hn : zk_na yc = As.length) (hl : zk_lev yc < zk_lev y) (hs : (lg_sl As).length ≤ zk_ml yc) (hst : stk = As.reverse ++ st) (hE : zk_ent (zk_ml yc) As = E) (hp : pc + 3 = pc') : zk_wp G y pc L stk h Q ↔ (zk_sum st ≤ 8 ∧ zk_wp G yc 0 E [] h (fun r h' => zk_wp G y pc' L (r.toList ++ st) h' Q)) := by
  subst hp
  have e1 : stk.drop (zk_na yc) = st := by rw [hst, hn, ← List.length_reverse, List.drop_left]
  have e2 : (stk.take (zk_na yc)).reverse = As := by rw [hst, hn, ← List.length_reverse, List.take_left, List.reverse_reverse]
  have e3 : zk_na yc ≤ stk.length := by rw [hst, hn, List.length_append, List.length_reverse]; omega
  have key : zk_inv G y (.invokestatic i) stk h = (if zk_na yc ≤ stk.length ∧ zk_fr y yc As st then some (yc, As, st) else none) := by
    unfold zk_inv
    simp [hm, e1, e2]
  by_cases g : zk_sum st ≤ 8
  · have hi : zk_inv G y (.invokestatic i) stk h = some (yc, As, st) := by
      rw [key, if_pos]
      refine ⟨e3, ?_⟩
      unfold zk_fr
      simp only [Bool.and_eq_true, decide_eq_true_eq]
      exact ⟨⟨hl, hs⟩, g⟩
    exact (zu_inv hft hi hE).trans ⟨fun q => ⟨g, q⟩, And.right⟩
  · have hi : zk_inv G y (.invokestatic i) stk h = none := by
      rw [key, if_neg]
      exact fun q => g (zk_fr_sp q.2).2.2
    rw [zu_heap hft hi rfl rfl rfl rfl]
    have e4 : zk_heap G (zk_c y) (zk_ini y) (zk_lev y) (.invokestatic i) stk h = none := by
      unfold zk_heap
      dsimp only
      rw [if_neg hne]
    rw [e4]
    exact ⟨False.elim, fun q => g q.1⟩
theorem zu_spec {i k yc : Nat} {G : zk_G} {L : zk_L} {st stk : List Value} {h : zk_H} {Q : Option Value → zk_H → Prop} {b : Nat} {As : List Value} {E : zk_L} (hft : zk_ft y pc = some (.invokespecial i, 3)) (hm : zk_mk (zk_c y) i = some (k, yc)) (hk : 2 ≤ k) (hob : zk_ob (zk_c y) i = false) (hn : zk_na yc = As.length) (hl : zk_lev yc < zk_lev y) (hs : (lg_sl (.ref b :: As)).length ≤ zk_ml yc) (hst : stk = As.reverse ++ .ref b :: st) (hE : zk_ent (zk_ml yc) (.ref b :: As) = E) (hp : pc + 3 = pc') : zk_wp G y pc L stk h Q ↔ (zk_sum st ≤ 8 ∧ zk_wp G yc 0 E [] h (fun r h' => zk_wp G y pc' L (r.toList ++ st) h' Q)) := by
  subst hp
  have e1 : stk.drop (zk_na yc) = .ref b :: st := by rw [hst, hn, ← List.length_reverse, List.drop_left]
  have e2 : (stk.take (zk_na yc)).reverse = As := by rw [hst, hn, ← List.length_reverse, List.take_left, List.reverse_reverse]
  have key : zk_inv G y (.invokespecial i) stk h = (if 2 ≤ k ∧ zk_fr y yc (.ref b :: As) st then some (yc, .ref b :: As, st) else none) := by
    unfold zk_inv
    dsimp only
    rw [hm]
    dsimp only
    rw [e1]
    dsimp only
    rw [e2]
  by_cases g : zk_sum st ≤ 8
  · have hi : zk_inv G y (.invokespecial i) stk h = some (yc, .ref b :: As, st) := by
      rw [key, if_pos]
      refine ⟨hk, ?_⟩
      unfold zk_fr
      simp only [Bool.and_eq_true, decide_eq_true_eq]
      exact ⟨⟨hl, hs⟩, g⟩
    exact (zu_inv hft hi hE).trans ⟨fun q => ⟨g, q⟩, And.right⟩
  · have hi : zk_inv G y (.invokespecial i) stk h = none := by
      rw [key, if_neg]
      exact fun q => g (zk_fr_sp q.2).2.2
    rw [zu_heap hft hi rfl rfl rfl rfl]
    have e4 : zk_heap G (zk_c y) (zk_ini y) (zk_lev y) (.invokespecial i) stk h = none := by
      unfold zk_heap
      dsimp only
      split
      next => rw [if_neg]; rw [hob]; exact fun q => by cases q.1
      next => rfl
    rw [e4]
    exact ⟨False.elim, fun q => g q.1⟩
theorem zu_copy (y pc pc' : Nat) (hft : zk_ft y pc = some (.invokestatic 150, 3)) (hc : zk_c y = 15) (hm : zk_mk (zk_c y) 150 = none) (hv : 1 ≤ zk_lev y) (hp : pc + 3 = pc') : ∀ (G : zk_G) (L : zk_L) (st : List Value) (h : zk_H) (Q : Option Value → zk_H → Prop) (n dp sp : Int32) (a b n0 n1 : Nat) (f g : Nat → Int32), zk_rd G h b = some (.inl (0, n0, .inl f)) → zk_rd G h a = some (.inl (0, n1, .inl g)) → 0 ≤ sp.toInt ∧ 0 ≤ dp.toInt ∧ 0 ≤ n.toInt ∧ sp.toInt + n.toInt ≤ n0 ∧ dp.toInt + n.toInt ≤ n1 ∧ zk_sum st ≤ 8 → (zk_wp G y pc L (.int n :: .int dp :: .ref a :: .int sp :: .ref b :: st) h Q ↔ zk_wp G y pc' L st (zk_wr G h a (.inl (0, n1, .inl (va_cpy f g sp.toInt.toNat dp.toInt.toNat n.toInt.toNat)))) Q) := by
  intro G L st h Q n dp sp a b n0 n1 f g hb ha hq
  subst hp
  have e1 : zk_inv G y (.invokestatic 150) (.int n :: .int dp :: .ref a :: .int sp :: .ref b :: st) h = none := by unfold zk_inv; dsimp only; rw [hm]
  rw [zu_heap hft e1 rfl rfl rfl rfl]
  have e4 : zk_heap G (zk_c y) (zk_ini y) (zk_lev y) (.invokestatic 150) (.int n :: .int dp :: .ref a :: .int sp :: .ref b :: st) h = some (st, zk_wr G h a (.inl (0, n1, .inl (va_cpy f g sp.toInt.toNat dp.toInt.toNat n.toInt.toNat)))) := by
    unfold zk_heap
    simp only [hc, and_self, if_true, hb, ha]
    rw [if_pos ⟨hq.1, hq.2.1, hq.2.2.1, hq.2.2.2.1, hq.2.2.2.2.1, hq.2.2.2.2.2, hv⟩]
    rfl
  rw [e4]
theorem zk_cases_sp {P : Nat → Prop} {x : Int} : ∀ (tl : List Nat) (lo : Int), zk_cases x lo tl P ↔ (∀ (j t : Nat), tl[j]? = some t → x = lo + j → P t) := by
  intro tl
  induction tl with
  | nil => intro lo; unfold zk_cases; simp
  | cons t ts ih =>
    intro lo
    unfold zk_cases
    rw [ih]
    constructor
    · rintro ⟨h1, h2⟩ j u hj hx
      cases j with
      | zero => cases hj; exact h1 (by simpa using hx)
      | succ j => exact h2 j u hj (by omega)
    · intro hh
      exact ⟨fun hx => hh 0 t rfl (by simpa using hx), fun j u hj hx => hh (j + 1) u hj (by omega)⟩
theorem zu_tsw (y pc td : Nat) (dflt lo hi : Int) (offs : Array Int) (len : Nat) (tl : List Nat) (hft : zk_ft y pc = some (.tableswitch dflt lo hi offs, len)) (hd : (pc : Int) + dflt = (td : Int)) (ht : offs.toList.map (fun z => (pc : Int) + z) = tl.map (fun z : Nat => (z : Int))) (hh : hi = lo + (tl.length : Int) - 1) : ∀ (G : zk_G) (L : zk_L) (st : List Value) (h : zk_H) (Q : Option Value → zk_H → Prop) (x : Int32), zk_wp G y pc L (.int x :: st) h Q ↔ ((x.toInt < lo ∨ hi < x.toInt → zk_wp G y td L st h Q) ∧ zk_cases x.toInt lo tl (fun t => zk_wp G y t L st h Q)) := by
  intro G L st h Q x
  rw [zk_cases_sp]
  by_cases hc : x.toInt < lo ∨ hi < x.toInt
  · have e1 : zk_jump (.tableswitch dflt lo hi offs) len pc (.int x :: st) = some (td, st) := by
      unfold zk_jump
      dsimp only
      rw [if_pos hc, zi_tg hd]
      rfl
    rw [zi_jump hft rfl rfl e1]
    refine ⟨fun q => ⟨fun _ => q, fun j t hj hx => ?_⟩, fun q => q.1 hc⟩
    have := (List.getElem?_eq_some_iff.mp hj).1
    omega
  · have hlen : offs.toList.length = tl.length := by
      have := congrArg List.length ht
      simpa using this
    have hj : (x.toInt - lo).toNat < tl.length := by omega
    have hjo : (x.toInt - lo).toNat < offs.toList.length := by omega
    have ht2 := congrArg (fun l => l[(x.toInt - lo).toNat]?) ht
    simp only [List.getElem?_map, List.getElem?_eq_getElem hj, List.getElem?_eq_getElem hjo, Option.map_some, Option.some.injEq] at ht2
    have e0 : offs[(x.toInt - lo).toNat]? = some (offs.toList[(x.toInt - lo).toNat]) := by
      rw [← Array.getElem?_toList, List.getElem?_eq_getElem hjo]
    have e1 : zk_jump (.tableswitch dflt lo hi offs) len pc (.int x :: st) = some (tl[(x.toInt - lo).toNat], st) := by
      unfold zk_jump
      dsimp only
      rw [if_neg hc, e0]
      dsimp only
      rw [zi_tg ht2]
      rfl
    rw [zi_jump hft rfl rfl e1]
    constructor
    · intro q
      refine ⟨fun n => absurd n hc, fun j t hjt hx => ?_⟩
      have hjj : j = (x.toInt - lo).toNat := by omega
      subst hjj
      rw [List.getElem?_eq_getElem hj] at hjt
      cases hjt
      exact q
    · intro q
      exact q.2 (x.toInt - lo).toNat _ (List.getElem?_eq_getElem hj) (by omega)
end ZKU
