/-! the heap's rows out of a fact on it -/
section ZKF
variable {G : zk_G} {h : zk_H} {a : Nat}
theorem zk_og_f {ci : Nat} {fs : List Value} (hr : zk_rd G h a = some (.inr (ci, fs))) : ∀ (k : Nat) (P : Value → Prop), zk_og G h a ci k P ↔ (match fs[k]? with
  | some v => P v
  | none => False) := by
  intro k P
  unfold zk_og
  rw [hr]
  exact ⟨And.right, fun q => ⟨rfl, q⟩⟩
theorem zk_op_f {ci : Nat} {fs : List Value} (hr : zk_rd G h a = some (.inr (ci, fs))) : ∀ (k : Nat) (ty : FieldType) (v : Value) (P : zk_H → Prop), zk_op G h a ci k ty v P ↔ (k < fs.length ∧ zk_fit ty v = true ∧ P (zk_wr G h a (.inr (ci, fs.set k v)))) := by
  intro k ty v P
  unfold zk_op
  rw [hr]
  exact ⟨And.right, fun q => ⟨rfl, q⟩⟩
theorem zk_ai_f {n : Nat} {f : Nat → Int32} (hr : zk_ar G h a = some (0, n, .inl f)) : ∀ (i : Int32) (P : Int32 → Prop), zk_ai G h a i P ↔ ((0 ≤ i.toInt ∧ i.toInt < n) ∧ P (f i.toInt.toNat)) := by
  intro i P
  unfold zk_ai
  rw [hr]
  exact Iff.rfl
theorem zk_an_f {t n : Nat} {x : (Nat → Int32) ⊕ (Nat → Int64) ⊕ (Nat → UInt32) ⊕ (Nat → UInt64) ⊕ (Nat → Option Nat)} (hr : zk_ar G h a = some (t, n, x)) : ∀ (P : Int32 → Prop), zk_an G h a P ↔ (t ≤ 6 ∧ P (iz n)) := by
  intro P
  unfold zk_an
  rw [hr]
  rfl
theorem zk_aj_f {n : Nat} {f : Nat → Int64} (hr : zk_ar G h a = some (1, n, .inr (.inl f))) : ∀ (i : Int32) (P : Int64 → Prop), zk_aj G h a i P ↔ ((0 ≤ i.toInt ∧ i.toInt < n) ∧ P (f i.toInt.toNat)) := by
  intro i P
  unfold zk_aj
  rw [hr]
  exact Iff.rfl
theorem zk_az_f {n : Nat} {f : Nat → Int32} (hr : zk_rd G h a = some (.inl (2, n, .inl f))) : ∀ (i : Int32) (P : Int32 → Prop), zk_az G h a i P ↔ ((0 ≤ i.toInt ∧ i.toInt < n) ∧ P (f i.toInt.toNat)) := by
  intro i P
  unfold zk_az
  rw [hr]
  exact Iff.rfl
theorem zk_aa_f {t n : Nat} {f : Nat → Option Nat} (hr : zk_rd G h a = some (.inl (t, n, .inr (.inr (.inr (.inr f)))))) : ∀ (i : Int32) (P : Value → Prop), zk_aa G h a i P ↔ ((0 ≤ i.toInt ∧ i.toInt < n) ∧ (3 ≤ t ∧ t ≤ 6) ∧ P (va_rf (f i.toInt.toNat))) := by
  intro i P
  unfold zk_aa
  rw [hr]
theorem zk_si_f {n : Nat} {f : Nat → Int32} (hr : zk_rd G h a = some (.inl (0, n, .inl f))) : ∀ (i x : Int32) (P : zk_H → Prop), zk_si G h a i x P ↔ ((0 ≤ i.toInt ∧ i.toInt < n) ∧ P (zk_wr G h a (.inl (0, n, .inl (upd f i.toInt.toNat x))))) := by
  intro i x P
  unfold zk_si
  rw [hr]
  exact Iff.rfl
theorem zk_sz_f {n : Nat} {f : Nat → Int32} (hr : zk_rd G h a = some (.inl (2, n, .inl f))) : ∀ (i x : Int32) (P : zk_H → Prop), zk_sz1 G h a i x P ↔ ((0 ≤ i.toInt ∧ i.toInt < n) ∧ (x = 0 ∨ x = 1) ∧ P (zk_wr G h a (.inl (2, n, .inl (upd f i.toInt.toNat x))))) := by
  intro i x P
  unfold zk_sz1
  rw [hr]
  exact Iff.rfl
theorem zk_sl_f {n : Nat} {f : Nat → Int64} (hr : zk_rd G h a = some (.inl (1, n, .inr (.inl f)))) : ∀ (i : Int32) (x : Int64) (P : zk_H → Prop), zk_sl1 G h a i x P ↔ ((0 ≤ i.toInt ∧ i.toInt < n) ∧ P (zk_wr G h a (.inl (1, n, .inr (.inl (vp_updL f i.toInt.toNat x)))))) := by
  intro i x P
  unfold zk_sl1
  rw [hr]
  exact Iff.rfl
theorem zk_sa_f {t n ci v : Nat} {fs : List Value} {f : Nat → Option Nat} (hr : zk_rd G h a = some (.inl (t, n, .inr (.inr (.inr (.inr f)))))) (hv : zk_rd G h v = some (.inr (ci, fs))) : ∀ (i : Int32) (P : zk_H → Prop), zk_sa1 G h a i v P ↔ ((0 ≤ i.toInt ∧ i.toInt < n) ∧ (3 ≤ t ∧ t ≤ 6 ∧ ci = zk_ac t) ∧ P (zk_wr G h a (.inl (t, n, .inr (.inr (.inr (.inr (va_up f i.toInt.toNat (some v))))))))) := by
  intro i P
  unfold zk_sa1
  rw [hr, hv]
end ZKF
