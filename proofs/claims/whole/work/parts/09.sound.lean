/-! runs of the small machine are runs of the JVM -/
theorem zk_ofW {l : Launch} {y : MethodName} {ws ws' : List Cond} {rm : Room} {Pc : Array Value → State → Prop} {Qc : Array Value → State → Outcome → State → Prop} {mc ms : Nat} {free : Addr → Prop} {cc : ByteArray} {maxL : Nat} {ret : Option FieldType}
    (hy : plainFor y = true) (hw : ws = Cond.code y cc maxL ret :: ws')
    (body : ∀ p e s m args below meth c s₁, BodyLoose p l y (headSpec ws rm) cc maxL ret e s m args below meth c s₁ → c.maxLocals = maxL → Pc args s →
      W p l e (headSpec ws rm).room s m args below meth c s.heap [] 0 0 (MQ below Qc args s mc ms free) (entryFrame m args maxL)) : Met l y ws rm Pc Qc mc ms free := by
  refine MetFree.of_bodySF (code := cc) (maxLocals := maxL) (ret := ret) hy ?_ ?_
  · intro args s m h hn
    obtain ⟨meth, c, h1, h2, h3, h4, h5, h6, -, -⟩ := Cond.code_spec hn (atoms_spec (ws := ws) h _ (by rw [hw]; exact List.mem_cons_self))
    exact ⟨meth, c, h1, h2, h3, h4, h5, h6⟩
  · intro p e s m args below meth c s₁ B hml hP _
    have hh0 : s₁.heap = s.heap := by rw [B.state]; rfl
    obtain ⟨t, a1, o, b1, b2, b3⟩ := body p e s m args below meth c s₁ B hml hP s₁ hh0 (Stand.of_body B)
    exact ⟨t, o, a1, b1, b2, ⟨b3.1, b3.2⟩⟩
def zk_Pc (G : zk_G) (D : va_G) (dA : Nat → Nat) (As : List Value) (h : zk_H) : Array Value → State → Prop := va_Pc As (fun U => zk_S G D dA U ∧ zk_P G D dA h U.heap)
def zk_Qc (G : zk_G) (D : va_G) (dA : Nat → Nat) (r : Option Value) (h' : zk_H) : Array Value → State → Outcome → State → Prop := fun _ st o t => o = .returned r ∧ zk_P G D dA h' t.heap ∧ va_F (fun q => G.1 ≤ q) st t
def zk_rm (y mc ms : Nat) : Room := { frames := zk_lev y, cells := mc, slots := ms, locals := 40 * zk_lev y }
def zk_wy (y : Nat) : List Cond := .code (zk_row y).1 (zk_bc y) (zk_ml y) (zk_rt y) :: zk_tbl
theorem zk_goodIn {ws : List Cond} (h : ∀ w ∈ ws, w ∈ zk_tbl) : GoodIn zk_tbl ws := fun w hw => ⟨h w hw, good_of_word (List.mem_filter.mp (h w hw)).2⟩
theorem zk_blind {G : zk_G} {D : va_G} {dA : Nat → Nat} {As : List Value} {h : zk_H} : FrameBlind (zk_Pc G D dA As h) := fun a U g mk q => ⟨q.1, zk_S_calling q.2.1, q.2.2⟩
theorem zk_row_at {y : Nat} {r : zk_Row} (h : zk_MT0[y]? = some r) : zk_row y = r ∧ zk_okM r := by
  constructor
  · unfold zk_row zk_MT
    have hl := (List.getElem?_eq_some_iff.mp h).1
    rw [List.getD_eq_getElem?_getD, List.getElem?_append_left hl, h]
    rfl
  · exact zk_MT0_ok r (List.mem_of_getElem? h)
theorem zk_small : zk_MT0.all (fun r => decide (r.2.2.1 ≤ 21)) = true := by decide +kernel
theorem zk_ml_le {y : Nat} {r : zk_Row} (h : zk_MT0[y]? = some r) : zk_ml y ≤ 21 := by
  have h1 := List.all_eq_true.mp zk_small r (List.mem_of_getElem? h)
  unfold zk_ml
  rw [(zk_row_at h).1]
  simpa using h1
theorem zk_mk_sp {c i k yc : Nat} (h : zk_mk c i = some (k, yc)) : ∃ r, zk_MT0[yc]? = some r ∧
    ((k = 0 ∧ Cond.methodLink (zk_cn c) i r.1 ∈ lw_tbl ∧ Cond.instanceMethod r.1 ∈ lw_tbl ∧ Cond.selects r.1.cls r.1 r.1 ∈ lw_tbl ∧ r.2.2.2.2.1 < 10) ∨
     (k = 1 ∧ Cond.methodLink (zk_cn c) i r.1 ∈ lw_tbl ∧ Cond.static r.1 ∈ lw_tbl) ∨
     (k = 2 ∧ Cond.methodLink (zk_cn c) i r.1 ∈ lw_tbl ∧ Cond.instanceMethod r.1 ∈ lw_tbl ∧ r.1.name = "<init>" ∧ r.2.2.2.1 = none) ∨
     (3 ≤ k ∧ Cond.methodLinkNest (zk_cn c) i r.1 "TickKeeper" ∈ lw_tbl ∧ Cond.instanceMethod r.1 ∈ lw_tbl ∧ r.1.name = "<init>" ∧ r.2.2.2.1 = none)) := by
  unfold zk_mk at h
  cases hf : zk_ML.find? (fun q => q.1 == c && q.2.1 == i) with
  | none => rw [hf] at h; cases h
  | some q =>
    rw [hf] at h
    have hp := List.find?_some hf
    have hm := List.mem_of_find?_eq_some hf
    have h1 := List.all_eq_true.mp zk_ML_ok q hm
    obtain ⟨q1, q2, q3, q4, q5, q6, q7⟩ := q
    cases h
    simp only [Bool.and_eq_true, beq_iff_eq] at hp
    obtain ⟨rfl, rfl⟩ := hp
    unfold zk_mw at h1
    dsimp only at h1
    cases hr : zk_MT0[q4]? with
    | none => rw [hr] at h1; cases h1
    | some r =>
      rw [hr] at h1
      refine ⟨r, rfl, ?_⟩
      dsimp only at h1
      match q3, h1 with
      | 0, h1 =>
        simp only [Bool.and_eq_true, decide_eq_true_eq] at h1
        exact Or.inl ⟨rfl, List.mem_of_getElem? h1.1.1.1, List.mem_of_getElem? h1.1.1.2, List.mem_of_getElem? h1.1.2, h1.2⟩
      | 1, h1 =>
        simp only [Bool.and_eq_true, decide_eq_true_eq] at h1
        exact Or.inr (Or.inl ⟨rfl, List.mem_of_getElem? h1.1, List.mem_of_getElem? h1.2⟩)
      | 2, h1 =>
        simp only [Bool.and_eq_true, decide_eq_true_eq] at h1
        exact Or.inr (Or.inr (Or.inl ⟨rfl, List.mem_of_getElem? h1.1.1.1, List.mem_of_getElem? h1.1.1.2, h1.1.2, h1.2⟩))
      | n + 3, h1 =>
        simp only [Bool.and_eq_true, decide_eq_true_eq] at h1
        exact Or.inr (Or.inr (Or.inr ⟨by show 3 ≤ n + 3; omega, List.mem_of_getElem? h1.1.1.1, List.mem_of_getElem? h1.1.1.2, h1.1.2, h1.2⟩))
theorem zk_ft_sp {y pc : Nat} {ins : Instr} {len : Nat} (h : zk_ft y pc = some (ins, len)) : decode (zk_bc y) pc = .ok (ins, len) := by
  unfold zk_ft at h
  split at h
  next q hq => cases h; exact hq
  next => cases h
theorem zk_heap_mono {G : zk_G} {c : Nat} {ini : Bool} {lv : Nat} {ins : Instr} {st st' : List Value} {h h' : zk_H} (hh : zk_heap G c ini lv ins st h = some (st', h')) : h.1.length ≤ h'.1.length ∧ h.2 ≤ h'.2 := by
  have w : ∀ a x, h.1.length ≤ (zk_wr G h a x).1.length ∧ h.2 ≤ (zk_wr G h a x).2 := fun a x => ⟨by unfold zk_wr; rw [List.length_set]; exact Nat.le_refl _, Nat.le_refl _⟩
  have al : ∀ x n, h.1.length ≤ (zk_al h x n).1.length ∧ h.2 ≤ (zk_al h x n).2 := fun x n => ⟨by unfold zk_al; simp, by unfold zk_al; simp⟩
  have rf : h.1.length ≤ h.1.length ∧ h.2 ≤ h.2 := ⟨Nat.le_refl _, Nat.le_refl _⟩
  unfold zk_heap at hh
  split at hh
  all_goals first
    | (cases hh; done)
    | skip
  all_goals repeat' split at hh
  all_goals first
    | (cases hh; done)
    | (cases hh; exact rf)
    | (cases hh; exact w _ _)
    | (cases hh; exact al _ _)
    | (simp only [Option.map_eq_some_iff] at hh; obtain ⟨_, _, hh⟩ := hh; cases hh; exact rf)
theorem zk_mono {G : zk_G} : ∀ (n y pc : Nat) (L : zk_L) (st : List Value) (h : zk_H) (r : Option Value) (h' : zk_H), zk_ex n G y pc L st h = some (r, h') → h.1.length ≤ h'.1.length ∧ h.2 ≤ h'.2 := by
  intro n
  induction n with
  | zero => intro y pc L st h r h' hh; cases hh
  | succ n ih =>
    intro y pc L st h r h' hh
    unfold zk_ex at hh
    split at hh
    next => cases hh
    next ins len hft =>
      split at hh
      next yc As rest hinv =>
        split at hh
        next =>
          split at hh
          next r1 h1 h2 =>
            have a1 := ih _ _ _ _ _ _ _ h2
            have a2 := ih _ _ _ _ _ _ _ hh
            exact ⟨Nat.le_trans a1.1 a2.1, Nat.le_trans a1.2 a2.2⟩
          next => cases hh
        next => cases hh
      next =>
        split at hh
        next => cases hh; exact ⟨Nat.le_refl _, Nat.le_refl _⟩
        next =>
          split at hh
          next => exact ih _ _ _ _ _ _ _ hh
          next =>
            split at hh
            next st1 h1 hp =>
              split at hh
              next =>
                have a1 := zk_heap_mono hp
                have a2 := ih _ _ _ _ _ _ _ hh
                exact ⟨Nat.le_trans a1.1 a2.1, Nat.le_trans a1.2 a2.2⟩
              next => cases hh
            next =>
              split at hh
              next =>
                split at hh
                next => exact ih _ _ _ _ _ _ _ hh
                next => cases hh
              next => cases hh
