section ZKB
variable {p : Program} {l : Launch} {e : Env} {R : Room} {s : State} {m : MethodId} {args : Array Value} {below : List Frame} {meth : Method} {c : Code} {H : Heap} {locs : List Loc} {cells slots : Nat} {Q : State → Prop} {cc : ByteArray} {pc nL : Nat} {ls : Array Slot} {rest st st' : List Value} {G : zk_G} {D : va_G} {dA : Nat → Nat} {h h' : zk_H}
theorem zk_go {mc ms : Nat} {st0 : List Value} {a : Array Value} {rc : Option Value} {hc : zk_H} (hr : va_Run p l e R s m args below meth c H locs cells slots mc ms (F0 m pc ls st0) rest (zk_Qc G D dA rc hc a) (fun q => G.1 ≤ q)) (hF : va_S (fun q => G.1 ≤ q) s.heap H locs)
    (kk : zk_K p l e R s m args below meth c Q G D dA hc (cells + mc) (slots + ms) (F0 m (pc + 3) ls (rc.toList ++ rest))) : W p l e R s m args below meth c H locs cells slots Q (F0 m pc ls st0) := by
  intro T hT X
  obtain ⟨v, st₀, t, T', L, h0, X', hL, e1, e2, ⟨hv, hp, hz, hk⟩, stp⟩ := hr T hT X
  cases hv
  rw [h0] at hz hk
  obtain ⟨t2, a1, b1⟩ := kk T'.heap (locs ++ L) (by rw [e1]; exact hp)
    ⟨Nat.le_trans hF.1 (by rw [e1]; exact hz), fun q h1 h2 => by rw [e1, hk q (Nat.lt_of_lt_of_le h1 hF.1) h2]; exact hF.2.1 q h1 h2, fun q hq => by
      rcases List.mem_append.mp hq with h | h
      · exact hF.2.2 q h
      · exact hL q h⟩ T' rfl X'
  exact ⟨t2, stp t2 a1, b1⟩
theorem zk_ret_ok {Qc : Array Value → State → Outcome → State → Prop} {free : Addr → Prop} (hx : p.tables.exec = Jvm.exec) (hb : c.code = cc) {rt : Option FieldType} (hr : meth.sig.returnType = rt) (hlk : meth.locks = false) {ins : Instr} {len : Nat} (hd : decode cc pc = .ok (ins, len)) {r : Option Value} (h : zk_ret rt ins len st = some r)
    (hq : ∀ t : State, t.heap = H → s.WarmedH t.vm → Qc args s (.returned r) t) (hf : ∀ q ∈ locs, free q.base) : W p l e R s m args below meth c H locs cells slots (MQ below Qc args s cells slots free) (F0 m pc ls st) := by
  cases ins
  case ireturn =>
    dsimp only [zk_ret] at h
    split at h
    next v =>
      split at h
      next hl => subst hl; cases h; exact W.iret hx hb hr hq hf hd hlk
      next => cases h
    next v =>
      split at h
      next hl =>
        subst hl
        split at h
        next hv => cases h; exact W.zret hx hb hr (by rcases hv with rfl | rfl <;> decide) hq hf hd hlk
        next => cases h
      next => cases h
    next => cases h
  case lreturn =>
    dsimp only [zk_ret] at h
    split at h
    next v =>
      split at h
      next hl => subst hl; cases h; exact W.lret hx hb hr hq hf hd hlk
      next => cases h
    next => cases h
  case areturn =>
    dsimp only [zk_ret] at h
    split at h
    next n a =>
      split at h
      next hl => subst hl; cases h; exact W.aret hx hb hr (Or.inl ⟨_, rfl⟩) (Or.inr ⟨_, rfl⟩) hq hf hd hlk
      next => cases h
    next n =>
      split at h
      next hl => subst hl; cases h; exact W.aret hx hb hr (Or.inl ⟨_, rfl⟩) (Or.inl rfl) hq hf hd hlk
      next => cases h
    next t a =>
      split at h
      next hl => subst hl; cases h; exact W.aret hx hb hr (Or.inr ⟨_, rfl⟩) (Or.inr ⟨_, rfl⟩) hq hf hd hlk
      next => cases h
    next => cases h
  case return_ =>
    dsimp only [zk_ret] at h
    split at h
    next =>
      split at h
      next hl => subst hl; cases h; exact W.vret hx hb hr hq hf hd hlk
      next => cases h
    next => cases h
  all_goals (exact nomatch h)
end ZKB
theorem zk_sl_len : ∀ (vs : List Value), (zk_sl vs).length = (lg_sl vs).length := by
  intro vs
  induction vs with
  | nil => rfl
  | cons v vs ih =>
    unfold zk_sl lg_sl
    rw [List.flatMap_cons]
    by_cases hc : v.category = 2
    · rw [if_pos hc, if_pos hc]
      simp only [List.length_cons, List.length_append]
      have e : (vs.flatMap fun v => if v.category = 2 then [Slot.val v, Slot.second] else [Slot.val v]).length = (lg_sl vs).length := rfl
      rw [e, ih]
      simp
      omega
    · rw [if_neg hc, if_neg hc]
      simp only [List.length_cons, List.length_append]
      have e : (vs.flatMap fun v => if v.category = 2 then [Slot.val v, Slot.second] else [Slot.val v]).length = (lg_sl vs).length := rfl
      rw [e, ih]
      simp
      omega
theorem zk_lget_app {L : zk_L} {n i : Nat} {v : Value} (h : zk_lget (L ++ List.replicate n none) i = some v) : zk_lget L i = some v := by
  unfold zk_lget at h ⊢
  rcases Nat.lt_or_ge i L.length with h1 | h1
  · rw [List.getElem?_append_left h1] at h
    exact h
  · rw [List.getElem?_append_right h1, List.getElem?_replicate] at h
    split at h
    next x hx => split at hx <;> cases hx
    next => cases h
theorem zk_sl_get : ∀ (vs : List Value) (k i : Nat) (v : Value), zk_lget (zk_sl vs) i = some v → (k + i, v) ∈ lv_args k vs := by
  intro vs
  induction vs with
  | nil => intro k i v h; unfold zk_lget zk_sl at h; simp at h
  | cons w vs ih =>
    intro k i v h
    unfold zk_sl at h
    unfold lv_args
    by_cases hc : w.category = 2
    · rw [if_pos hc] at h ⊢
      match i, h with
      | 0, h => cases h; exact List.mem_cons_self
      | 1, h => cases h
      | i + 2, h =>
        have := ih (k + 2) i v h
        rw [show k + (i + 2) = k + 2 + i by omega]
        exact List.mem_cons_of_mem _ this
    · rw [if_neg hc] at h ⊢
      match i, h with
      | 0, h => cases h; exact List.mem_cons_self
      | i + 1, h =>
        have := ih (k + 1) i v h
        rw [show k + (i + 1) = k + 1 + i by omega]
        exact List.mem_cons_of_mem _ this
theorem zk_ent_has {ml : Nat} {vs : List Value} {ls : Array Slot} (hl : lv_has ls ml (lv_args 0 vs)) : lv_has ls ml (zk_lv (zk_ent ml vs)) := by
  refine zk_has_sub hl ?_
  rintro ⟨i, v⟩ hq
  rw [zk_lv_mem] at hq
  have := zk_sl_get vs 0 i v (zk_lget_app hq)
  rw [Nat.zero_add] at this
  exact this
theorem zk_ent_len {ml : Nat} {vs : List Value} (h : (lg_sl vs).length ≤ ml) : (zk_ent ml vs).length = ml := by
  unfold zk_ent
  rw [List.length_append, List.length_replicate]
  have := zk_sl_len vs
  omega
/-- what is said of n steps of fuel: the body of any method goes as the small machine says -/
def zk_BW (l : Launch) (G : zk_G) (D : va_G) (dA : Nat → Nat) (n : Nat) : Prop :=
  ∀ (y : Nat) (p : Program) (e : Env) (R : Room) (s : State) (m : MethodId) (args : Array Value) (below : List Frame) (meth : Method) (c : Code) (Q : State → Prop),
    p.tables.exec = Jvm.exec → c.code = zk_bc y → c.maxLocals = zk_ml y → s.vm.findClass (zk_cn (zk_c y)) = some m.cls → (∀ w ∈ zk_tbl, w.before args s = true) → (zk_ini y = true → meth.name = "<init>") → zk_S G D dA s → zk_lev y ≤ R.frames → 40 * zk_lev y ≤ R.locals →
    ∀ (pc : Nat) (L : zk_L) (st : List Value) (h : zk_H) (H : Heap) (locs : List Loc) (ls : Array Slot) (cells slots : Nat) (r : Option Value) (h' : zk_H), zk_ex n G y pc L st h = some (r, h') → lv_has ls (zk_ml y) (zk_lv L) → L.length = zk_ml y → zk_P G D dA h H → va_S (fun q => G.1 ≤ q) s.heap H locs → cells + (h'.1.length - h.1.length) ≤ R.cells → slots + (h'.2 - h.2) ≤ R.slots →
    (∀ (pc : Nat) (ls : Array Slot) (st : List Value) (H : Heap) (locs : List Loc) (ins : Instr) (len : Nat), decode (zk_bc y) pc = .ok (ins, len) → zk_ret (zk_rt y) ins len st = some r → zk_P G D dA h' H → va_S (fun q => G.1 ≤ q) s.heap H locs → W p l e R s m args below meth c H locs (cells + (h'.1.length - h.1.length)) (slots + (h'.2 - h.2)) Q (F0 m pc ls st)) →
    W p l e R s m args below meth c H locs cells slots Q (F0 m pc ls st)
theorem zk_met {l : Launch} {G : zk_G} {D : va_G} {dA : Nat → Nat} {n : Nat} (ih : zk_BW l G D dA n) {y : Nat} {q : zk_Row} (hy : zk_MT0[y]? = some q) {As : List Value} {h h' : zk_H} {r : Option Value} (hex : zk_ex n G y 0 (zk_ent (zk_ml y) As) [] h = some (r, h')) (hlen : (lg_sl As).length ≤ zk_ml y) :
    Met l (zk_row y).1 (zk_wy y) (zk_rm y (h'.1.length - h.1.length) (h'.2 - h.2)) (zk_Pc G D dA As h) (zk_Qc G D dA r h') (h'.1.length - h.1.length) (h'.2 - h.2) (fun q => G.1 ≤ q) := by
  obtain ⟨hrow, hok⟩ := zk_row_at hy
  obtain ⟨o1, o2, o3, o4, o5, o6, o7⟩ := hok
  refine zk_ofW (cc := zk_bc y) (maxL := zk_ml y) (ret := zk_rt y) (by rw [hrow]; exact o2) rfl ?_
  intro p e s m args below meth c s₁ B hml hv
  obtain ⟨rfl, hS, hP⟩ := hv
  have hts : ∀ w ∈ zk_tbl, w.before As.toArray s = true := fun w hw => atoms_spec (ws := zk_wy y) B.pre w (List.mem_cons_of_mem _ hw)
  have hown0 : s.vm.findClass (zk_row y).1.cls = some m.cls := findClass_of_methodNamed B.named
  have hown : s.vm.findClass (zk_cn (zk_c y)) = some m.cls := by
    have e1 : (zk_row y).1.cls = zk_cn (zk_c y) := by unfold zk_c; rw [hrow]; exact o3
    rw [← e1]; exact hown0
  have hin : zk_ini y = true → meth.name = "<init>" := fun hi => by
    rw [(name_of_methodNamed B.named B.method).1]
    unfold zk_ini at hi
    simpa using hi
  have hl := lv_entry As hlen
  rw [lg_entry_eq]
  generalize (lg_sl As ++ List.replicate (zk_ml y - (lg_sl As).length) Slot.unset).toArray = ls at hl ⊢
  refine ih y p e _ s m As.toArray below meth c _ B.exec B.bytes hml hown hts hin hS (Nat.le_refl _) (Nat.le_refl _) 0 _ [] h s.heap [] ls 0 0 r h' hex (zk_ent_has hl) (zk_ent_len hlen) hP va_S.rf (by rw [Nat.zero_add]; exact Nat.le_refl _) (by rw [Nat.zero_add]; exact Nat.le_refl _) ?_
  intro pc ls st H locs ins len hd hret hP' hF'
  rw [Nat.zero_add, Nat.zero_add]
  exact zk_ret_ok B.exec B.bytes B.returns B.notSynchronized hd hret (fun t ht hW => ⟨rfl, by rw [ht]; exact hP', hF'.F ht⟩) hF'.2.2
