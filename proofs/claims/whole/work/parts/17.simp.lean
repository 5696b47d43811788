/-! rows for the rewriting program -/
theorem zk_lg0 (o : Option Value) (L : zk_L) : zk_lget (o :: L) 0 = o := by cases o <;> rfl
theorem zk_lgs (o : Option Value) (L : zk_L) (i : Nat) : zk_lget (o :: L) (i + 1) = zk_lget L i := rfl
theorem zk_li1_s (x : Int32) (P : Int32 → Prop) : zk_li1 (some (.int x)) P ↔ P x := Iff.rfl
theorem zk_ll1_s (x : Int64) (P : Int64 → Prop) : zk_ll1 (some (.long x)) P ↔ P x := Iff.rfl
theorem zk_la1_r (x : Nat) (P : Value → Prop) : zk_la1 (some (.ref x)) P ↔ P (.ref x) := Iff.rfl
theorem zk_la1_n (P : Value → Prop) : zk_la1 (some .null) P ↔ P .null := Iff.rfl
def zk_co (o : Option Value) : Option Value := match o with
  | some v => if v.category = 2 then none else some v
  | none => none
theorem zk_co_n : zk_co none = none := rfl
theorem zk_co_i (x : Int32) : zk_co (some (.int x)) = some (.int x) := rfl
theorem zk_co_r (x : Nat) : zk_co (some (.ref x)) = some (.ref x) := rfl
theorem zk_co_u : zk_co (some .null) = some .null := rfl
theorem zk_co_l (x : Int64) : zk_co (some (.long x)) = none := rfl
theorem zk_l1_0 (o : Option Value) (L : zk_L) (v : Value) : zk_l1 (o :: L) 0 v = some v :: L := rfl
theorem zk_cl_1 (o : Option Value) (L : zk_L) : zk_cl (o :: L) 1 = zk_co o :: L := by
  cases o with
  | none => rfl
  | some w =>
    show (if w.category = 2 then (some w :: L).set 0 none else some w :: L) = (if w.category = 2 then none else some w) :: L
    split <;> rfl
theorem zk_l1_1 (o p : Option Value) (L : zk_L) (v : Value) : zk_l1 (o :: p :: L) 1 v = zk_co o :: some v :: L := by
  unfold zk_l1
  rw [zk_cl_1]
  rfl
theorem zk_l1_s (o p : Option Value) (L : zk_L) (i : Nat) (v : Value) : zk_l1 (o :: p :: L) (i + 2) v = o :: zk_l1 (p :: L) (i + 1) v := by
  unfold zk_l1 zk_cl
  dsimp only
  rw [zk_lgs]
  cases zk_lget (p :: L) i with
  | none => rfl
  | some w =>
    dsimp only
    split <;> rfl
theorem zk_l2_0 (o p : Option Value) (L : zk_L) (v : Value) : zk_l2 (o :: p :: L) 0 v = some v :: none :: L := rfl
theorem zk_l2_1 (o p q : Option Value) (L : zk_L) (v : Value) : zk_l2 (o :: p :: q :: L) 1 v = zk_co o :: some v :: none :: L := by
  unfold zk_l2
  rw [zk_cl_1]
  rfl
theorem zk_l2_s (o p : Option Value) (L : zk_L) (i : Nat) (v : Value) : zk_l2 (o :: p :: L) (i + 2) v = o :: zk_l2 (p :: L) (i + 1) v := by
  unfold zk_l2 zk_cl
  dsimp only
  rw [zk_lgs]
  cases zk_lget (p :: L) i with
  | none => rfl
  | some w =>
    dsimp only
    split <;> rfl
theorem zk_sm0 : zk_sum [] = 0 := rfl
theorem zk_smi (x : Int32) (st : List Value) : zk_sum (.int x :: st) = 1 + zk_sum st := by simp [zk_sum, Value.category]
theorem zk_smr (x : Nat) (st : List Value) : zk_sum (.ref x :: st) = 1 + zk_sum st := by simp [zk_sum, Value.category]
theorem zk_smn (st : List Value) : zk_sum (.null :: st) = 1 + zk_sum st := by simp [zk_sum, Value.category]
theorem zk_sml (x : Int64) (st : List Value) : zk_sum (.long x :: st) = 2 + zk_sum st := by simp [zk_sum, Value.category]
theorem zk_fi (x : Int32) : zk_fit .int (.int x) = true := rfl
theorem zk_fz (x : Int32) : zk_fit .boolean (.int x) = true ↔ (x = 0 ∨ x = 1) := by unfold zk_fit; exact decide_eq_true_iff
theorem zk_fo (n : String) (x : Nat) : zk_fit (.object n) (.ref x) = true := rfl
theorem zk_fn (n : String) : zk_fit (.object n) .null = true := rfl
theorem zk_fa (t : FieldType) (x : Nat) : zk_fit (.array t) (.ref x) = true := rfl
theorem zk_ts (v : Value) (st : List Value) : (some v).toList ++ st = v :: st := rfl
theorem zk_tn (st : List Value) : (none : Option Value).toList ++ st = st := rfl
section ZKX
variable {G : zk_G} {h : zk_H} {a b : Nat}
theorem zk_ar_rd {x : Nat × vp_A} (hr : zk_rd G h a = some (.inl x)) : zk_ar G h a = some x := by
  unfold zk_rd at hr
  unfold zk_ar
  split at hr
  next => cases hr
  next hlt => rw [if_neg hlt, hr]
theorem zk_ar_ro {x : Nat × vp_A} (hl : a < G.1) (hr : G.2.1 a = some x) : zk_ar G h a = some x := by
  unfold zk_ar
  rw [if_pos hl, hr]
theorem zk_ic_rd {ci : Nat} {fs : List Value} (hr : zk_rd G h a = some (.inr (ci, fs))) : zk_ic G h a ci ↔ True := iff_true_intro ⟨fs, hr⟩
theorem zk_rd_wr {e0 e : zk_E} (hr : zk_rd G h a = some e0) : zk_rd G (zk_wr G h a e) a = some e := by
  unfold zk_rd at hr ⊢
  split at hr
  next => cases hr
  next hlt =>
    rw [if_neg hlt]
    have := (List.getElem?_eq_some_iff.mp hr).1
    exact List.getElem?_set_self this
theorem zk_rd_wn {e : zk_E} (hne : b ≠ a) (hb : G.1 ≤ a) : zk_rd G (zk_wr G h a e) b = zk_rd G h b := by
  unfold zk_rd zk_wr
  dsimp only
  split
  next => rfl
  next hlt => rw [List.getElem?_set_ne (by omega)]
theorem zk_rd_ge {e : zk_E} (hr : zk_rd G h a = some e) : G.1 ≤ a := by
  unfold zk_rd at hr
  split at hr
  next => cases hr
  next hlt => exact Nat.not_lt.mp hlt
theorem zk_rd_lt {e : zk_E} (hr : zk_rd G h a = some e) : a < zk_nx G h := by
  have h1 := zk_rd_ge hr
  unfold zk_rd at hr
  split at hr
  next => cases hr
  next hlt =>
    have := (List.getElem?_eq_some_iff.mp hr).1
    unfold zk_nx
    omega
theorem zk_rd_al {e : zk_E} {n : Nat} : zk_rd G (zk_al h e n) (zk_nx G h) = some e := by
  unfold zk_rd zk_al zk_nx
  dsimp only
  rw [if_neg (by omega), Nat.add_sub_cancel_left]
  simp
theorem zk_rd_an {e e1 : zk_E} {n : Nat} (hr : zk_rd G h a = some e1) : zk_rd G (zk_al h e n) a = some e1 := by
  have h1 := zk_rd_lt hr
  have h2 := zk_rd_ge hr
  unfold zk_rd at hr ⊢
  unfold zk_nx at h1
  rw [if_neg (by omega)] at hr ⊢
  unfold zk_al
  dsimp only
  rw [List.getElem?_append_left (by omega)]
  exact hr
theorem zk_wr_wr {e e1 : zk_E} : zk_wr G (zk_wr G h a e) a e1 = zk_wr G h a e1 := by
  unfold zk_wr
  dsimp only
  rw [List.set_set]
theorem zk_wr_id {e : zk_E} (hr : zk_rd G h a = some e) : zk_wr G h a e = h := by
  unfold zk_rd at hr
  split at hr
  next => cases hr
  next hlt =>
    unfold zk_wr
    obtain ⟨l, n⟩ := h
    dsimp only at hr ⊢
    have hl := (List.getElem?_eq_some_iff.mp hr)
    obtain ⟨h1, h2⟩ := hl
    have : l.set (a - G.1) e = l := by rw [← h2]; exact List.set_getElem_self h1
    rw [this]
theorem zk_nx_wr {e : zk_E} : zk_nx G (zk_wr G h a e) = zk_nx G h := by unfold zk_nx zk_wr; rw [List.length_set]
theorem zk_nx_al {e : zk_E} {n : Nat} : zk_nx G (zk_al h e n) = zk_nx G h + 1 := by unfold zk_nx zk_al; simp; omega
theorem zk_nx_ge : G.1 ≤ zk_nx G h := Nat.le_add_right _ _
/-- two runs from one place end alike -/
theorem zk_eq {y pc : Nat} {L : zk_L} {st : List Value} {r0 : Option Value} {h0 : zk_H} (hw : zk_wp G y pc L st h (fun r h' => r = r0 ∧ h' = h0)) (Q : Option Value → zk_H → Prop) : zk_wp G y pc L st h Q ↔ Q r0 h0 := by
  constructor
  · rintro ⟨n, r, h', e, q⟩
    obtain ⟨n2, r2, h2, e2, rfl, rfl⟩ := hw
    have e3 := zk_ex_le (Nat.le_max_left n n2) e
    have e4 := zk_ex_le (Nat.le_max_right n n2) e2
    rw [e3] at e4
    cases e4
    exact q
  · intro q
    exact zk_wp_mono hw (fun r h' hq => by rw [hq.1, hq.2]; exact q)
theorem zk_LE {L L' : zk_L} (hl : L'.length = L.length) (hs : ∀ i v, zk_lget L' i = some v → zk_lget L i = some v) : L'.length = L.length ∧ ∀ i v, zk_lget L' i = some v → zk_lget L i = some v := ⟨hl, hs⟩
end ZKX
