/-! the small machine's heap in the JVM's -/
def zk_tr (dA : Nat → Nat) (e : zk_E) : va_E := match e with
  | .inl x => .inl (dA x.1, x.2)
  | .inr o => .inr o
def zk_wl (b0 : Nat) (dA : Nat → Nat) (cs : List zk_E) : va_W := cs.mapIdx (fun k e => (b0 + k, zk_tr dA e))
theorem zk_wl_at {b0 : Nat} {dA : Nat → Nat} {cs : List zk_E} {k : Nat} : (zk_wl b0 dA cs)[k]? = (cs[k]?).map (fun e => (b0 + k, zk_tr dA e)) := by
  unfold zk_wl
  rw [List.getElem?_mapIdx]
theorem zk_wl_set {b0 : Nat} {dA : Nat → Nat} {cs : List zk_E} {k : Nat} {e : zk_E} : (zk_wl b0 dA cs).set k (b0 + k, zk_tr dA e) = zk_wl b0 dA (cs.set k e) := by
  apply List.ext_getElem?
  intro j
  rw [zk_wl_at, List.getElem?_set, List.getElem?_set]
  have hlen : (zk_wl b0 dA cs).length = cs.length := by unfold zk_wl; rw [List.length_mapIdx]
  rw [hlen, zk_wl_at]
  by_cases hk : k = j
  · subst hk
    simp only [if_true]
    by_cases hl : k < cs.length
    · simp [hl]
    · simp [hl]
  · simp [hk]
theorem zk_wl_len {b0 : Nat} {dA : Nat → Nat} {cs : List zk_E} : (zk_wl b0 dA cs).length = cs.length := by unfold zk_wl; rw [List.length_mapIdx]
theorem zk_wl_app {b0 : Nat} {dA : Nat → Nat} {cs : List zk_E} {e : zk_E} : zk_wl b0 dA (cs ++ [e]) = zk_wl b0 dA cs ++ [(b0 + cs.length, zk_tr dA e)] := by
  unfold zk_wl
  rw [List.mapIdx_append]
  simp
theorem zk_wl_D {b0 : Nat} {dA : Nat → Nat} {cs : List zk_E} : va_D (fun q => b0 ≤ q) (zk_wl b0 dA cs) := by
  constructor
  · intro i j x y hi hj hxy
    rw [zk_wl_at] at hi hj
    cases h1 : cs[i]? with
    | none => rw [h1] at hi; cases hi
    | some e1 =>
      cases h2 : cs[j]? with
      | none => rw [h2] at hj; cases hj
      | some e2 =>
        rw [h1] at hi; rw [h2] at hj
        cases hi; cases hj
        dsimp only at hxy
        omega
  · intro k q hk
    rw [zk_wl_at] at hk
    cases h1 : cs[k]? with
    | none => rw [h1] at hk; cases hk
    | some e1 =>
      rw [h1] at hk
      cases hk
      exact Nat.le_add_right _ _
def zk_tys (dA : Nat → Nat) : List (ClassId × FieldType) := [(dA 0, .int), (dA 1, .long), (dA 2, .boolean), (dA 3, .object (zk_cn 0)), (dA 4, .object (zk_cn 1)), (dA 5, .object (zk_cn 3)), (dA 6, .object (zk_cn 7))]
def zk_tbl : List Cond := lw_tbl.filter goodWord
theorem zk_tb {w : Cond} (h : w ∈ lw_tbl) (hg : goodWord w = true) : w ∈ zk_tbl := List.mem_filter.mpr ⟨h, hg⟩
def zk_isN (w : Cond) : Bool := match w with
  | .fieldLinkNest .. => true
  | .methodLinkNest .. => true
  | _ => false
def zk_AOok (U : State) : Prop := va_AO (zk_cn 0) U ∧ va_AO (zk_cn 1) U ∧ va_AO (zk_cn 3) U ∧ va_AO (zk_cn 7) U
/-- what holds of a state's tables and of what it never changes -/
def zk_S (G : zk_G) (D : va_G) (dA : Nat → Nat) (U : State) : Prop :=
  va_K D zk_CL (zk_tys dA) U ∧ (∀ w ∈ lw_tbl, zk_isN w = true → va_Nw w U) ∧ zk_AOok U ∧
  va_Z "TickKeeper$Dates" "STARTS" "[I" (.ref (G.2.2 0)) (fun q => G.1 ≤ q) U U.heap ∧ va_Z "TickKeeper$Rule" "ALL_BITS" "[J" (.ref (G.2.2 1)) (fun q => G.1 ≤ q) U U.heap ∧
  (∀ a t x, G.2.1 a = some (t, x) → (∃ n f, t = 0 ∧ x = (n, .inl f) ∧ va_T .int a n (fun j => .int (f j)) (fun q => G.1 ≤ q) U U.heap) ∨ (∃ n f, t = 1 ∧ x = (n, .inr (.inl f)) ∧ va_T .long a n (fun j => .long (f j)) (fun q => G.1 ≤ q) U U.heap))
theorem zk_Nw_moved {w : Cond} (hw : zk_isN w = true) {u U : State} (hW : u.WarmedH U.vm) (h : va_Nw w u) : va_Nw w U := by
  cases w
  case fieldLinkNest => exact va_Nw.warmF hW h
  case methodLinkNest => exact va_Nw.warmM hW h
  all_goals (exact nomatch hw)
theorem zk_Nw_same {w : Cond} (hw : zk_isN w = true) {u U : State} (he : u.vm = U.vm) (h : va_Nw w u) : va_Nw w U := by
  cases w
  case fieldLinkNest => exact va_Nw.same rfl he h
  case methodLinkNest => exact va_Nw.same rfl he h
  all_goals (exact nomatch hw)
theorem zk_S_moved {G : zk_G} {D : va_G} {dA : Nat → Nat} {u U : State} (hW : u.WarmedH U.vm) (hq : ∀ a : Nat, a < u.heap.size → ¬ G.1 ≤ a → U.heap[a]? = u.heap[a]?) (h : zk_S G D dA u) : zk_S G D dA U := by
  obtain ⟨h1, h2, ⟨h3, h4, h5, h6⟩, h7, h8, h9⟩ := h
  refine ⟨va_K.moved hW.alike h1, fun w hw hn => zk_Nw_moved hn hW (h2 w hw hn), ⟨va_AO.moved hW.alike h3, va_AO.moved hW.alike h4, va_AO.moved hW.alike h5, va_AO.moved hW.alike h6⟩, va_Z.kept (va_Z.moved hW.alike h7) hq, va_Z.kept (va_Z.moved hW.alike h8) hq, fun a t x hx => ?_⟩
  rcases h9 a t x hx with ⟨n, f, e1, e2, e3⟩ | ⟨n, f, e1, e2, e3⟩
  · exact Or.inl ⟨n, f, e1, e2, va_T.kept (va_T.moved hW.alike e3) hq⟩
  · exact Or.inr ⟨n, f, e1, e2, va_T.kept (va_T.moved hW.alike e3) hq⟩
theorem zk_S_calling {G : zk_G} {D : va_G} {dA : Nat → Nat} {U : State} {g : JFrame} {mk : MethodId} {a : Array Value} (h : zk_S G D dA U) : zk_S G D dA (U.calling g mk a) := by
  obtain ⟨h1, h2, ⟨h3, h4, h5, h6⟩, h7, h8, h9⟩ := h
  have hv : U.vm.Alike (U.calling g mk a).vm := Vm.Alike.refl U.vm
  refine ⟨va_K.moved hv h1, fun w hw hn => zk_Nw_same (u := U) (U := U.calling g mk a) hn rfl (h2 w hw hn), ⟨va_AO.moved hv h3, va_AO.moved hv h4, va_AO.moved hv h5, va_AO.moved hv h6⟩, va_Z.moved hv h7, va_Z.moved hv h8, fun b t x hx => ?_⟩
  rcases h9 b t x hx with ⟨n, f, e1, e2, e3⟩ | ⟨n, f, e1, e2, e3⟩
  · exact Or.inl ⟨n, f, e1, e2, va_T.moved hv e3⟩
  · exact Or.inr ⟨n, f, e1, e2, va_T.moved hv e3⟩
def zk_P (G : zk_G) (D : va_G) (dA : Nat → Nat) (h : zk_H) (H : Heap) : Prop := va_P D zk_CL (zk_wl G.1 dA h.1) H ∧ H.size = G.1 + h.1.length
theorem zk_rd_at {G : zk_G} {dA : Nat → Nat} {h : zk_H} {a : Nat} {e : zk_E} (hr : zk_rd G h a = some e) : (zk_wl G.1 dA h.1)[a - G.1]? = some (a, zk_tr dA e) ∧ G.1 ≤ a ∧ G.1 + (a - G.1) = a := by
  unfold zk_rd at hr
  split at hr
  next => cases hr
  next hlt =>
    have hle : G.1 ≤ a := Nat.not_lt.mp hlt
    have e1 : G.1 + (a - G.1) = a := by omega
    refine ⟨?_, hle, e1⟩
    rw [zk_wl_at, hr, Option.map_some, e1]
theorem zk_wr_wl {G : zk_G} {dA : Nat → Nat} {h : zk_H} {a : Nat} {e : zk_E} (ha : G.1 + (a - G.1) = a) : (zk_wl G.1 dA h.1).set (a - G.1) (a, zk_tr dA e) = zk_wl G.1 dA (zk_wr G h a e).1 := by
  unfold zk_wr
  rw [← zk_wl_set, ha]
theorem zk_CL_at {ci : Nat} (h : ci < 10) : zk_CL[ci]? = some (zk_cn ci, zk_T ci, zk_N ci) := by
  unfold zk_CL
  rw [List.getElem?_map, List.getElem?_range h, Option.map_some]
theorem zk_ws_in {ci : Nat} (h : ci < 10) : (∀ w ∈ u_ws (zk_cn ci) (zk_T ci) (zk_N ci), w ∈ zk_tbl) ∧ Cond.instantiable (zk_cn ci) (zk_N ci) ∈ zk_tbl ∧ Cond.initialized (zk_cn ci) ∈ zk_tbl := by
  have h1 := List.all_eq_true.mp zk_ws_ok ci (List.mem_range.mpr h)
  simp only [Bool.and_eq_true, decide_eq_true_eq] at h1
  obtain ⟨⟨h2, h3⟩, h4⟩ := h1
  refine ⟨fun w hw => zk_tb (by have := List.all_eq_true.mp h2 w hw; simpa using this) ?_, zk_tb h3 rfl, zk_tb h4 rfl⟩
  unfold u_ws at hw
  obtain ⟨k, -, rfl⟩ := List.mem_map.mp hw
  unfold u_lay
  split <;> rfl
theorem zk_ty_at {ci k : Nat} (h : ci < 10) (hk : k < zk_N ci) : parseFieldDescriptor (zk_T ci k).2.2.1 = some (zk_ty ci k) ∧ (zk_T ci k).1 = zk_cn ci := by
  have h1 := List.all_eq_true.mp (List.all_eq_true.mp zk_ty_ok ci (List.mem_range.mpr h)) k (List.mem_range.mpr hk)
  simp only [Bool.and_eq_true, decide_eq_true_eq] at h1
  exact h1
theorem zk_nm_at {ci : Nat} (h : ci < 10) : ∀ a, a < zk_N ci → ∀ b, b < zk_N ci → a ≠ b → (zk_T ci a).2.1 ≠ (zk_T ci b).2.1 := by
  intro a ha b hb hne
  have h1 := List.all_eq_true.mp (List.all_eq_true.mp (List.all_eq_true.mp zk_nm_ok ci (List.mem_range.mpr h)) a (List.mem_range.mpr ha)) b (List.mem_range.mpr hb)
  simp only [Bool.or_eq_true, decide_eq_true_eq] at h1
  rcases h1 with h1 | h1
  · exact absurd h1 hne
  · exact h1
theorem zk_fl_sp {c i : Nat} {nest : Bool} {ci k : Nat} (h : zk_fl c i = some (nest, ci, k)) : (if nest then Cond.fieldLinkNest (zk_cn c) i (zk_T ci k).1 (zk_T ci k).2.1 (zk_T ci k).2.2.1 "TickKeeper" else Cond.fieldLink (zk_cn c) i (zk_T ci k).1 (zk_T ci k).2.1 (zk_T ci k).2.2.1) ∈ lw_tbl ∧ ci < 10 ∧ k < zk_N ci := by
  unfold zk_fl at h
  cases hf : zk_FL.find? (fun q => q.1 == c && q.2.1 == i) with
  | none => rw [hf] at h; cases h
  | some q =>
    rw [hf] at h
    have hp := List.find?_some hf
    have hm := List.mem_of_find?_eq_some hf
    have h1 := List.all_eq_true.mp zk_FL_ok q hm
    obtain ⟨q1, q2, q3, q4, q5, q6⟩ := q
    cases h
    simp only [Bool.and_eq_true, decide_eq_true_eq, beq_iff_eq] at hp h1
    obtain ⟨rfl, rfl⟩ := hp
    exact ⟨List.mem_of_getElem? h1.1.1, h1.1.2, h1.2⟩
theorem zk_kc_sp {c i ci : Nat} (h : zk_kc c i = some ci) : Cond.classLink (zk_cn c) i (zk_cn ci) ∈ zk_tbl ∧ ci < 10 := by
  unfold zk_kc at h
  cases hf : zk_KC.find? (fun q => q.1 == c && q.2.1 == i) with
  | none => rw [hf] at h; cases h
  | some q =>
    rw [hf] at h
    have hp := List.find?_some hf
    have hm := List.mem_of_find?_eq_some hf
    have h1 := List.all_eq_true.mp zk_KC_ok q hm
    obtain ⟨q1, q2, q3, q4⟩ := q
    cases h
    simp only [Bool.and_eq_true, decide_eq_true_eq, beq_iff_eq] at hp h1
    obtain ⟨rfl, rfl⟩ := hp
    exact ⟨zk_tb (List.mem_of_getElem? h1.1) rfl, h1.2⟩
theorem zk_ki_sp {c i : Nat} {v : Int32} (h : zk_ki c i = some v) : Cond.constant (zk_cn c) i v ∈ zk_tbl := by
  unfold zk_ki at h
  cases hf : zk_KI.find? (fun q => q.1 == c && q.2.1 == i) with
  | none => rw [hf] at h; cases h
  | some q =>
    rw [hf] at h
    have hp := List.find?_some hf
    have hm := List.mem_of_find?_eq_some hf
    have h1 := List.all_eq_true.mp zk_KI_ok q hm
    obtain ⟨q1, q2, q3, q4⟩ := q
    cases h
    simp only [Bool.and_eq_true, decide_eq_true_eq, beq_iff_eq] at hp h1
    obtain ⟨rfl, rfl⟩ := hp
    exact zk_tb (List.mem_of_getElem? h1) rfl
theorem zk_kl_sp {c i : Nat} {v : Int64} (h : zk_kl c i = some v) : Cond.constantLong (zk_cn c) i v ∈ zk_tbl := by
  unfold zk_kl at h
  cases hf : zk_KL.find? (fun q => q.1 == c && q.2.1 == i) with
  | none => rw [hf] at h; cases h
  | some q =>
    rw [hf] at h
    have hp := List.find?_some hf
    have hm := List.mem_of_find?_eq_some hf
    have h1 := List.all_eq_true.mp zk_KL_ok q hm
    obtain ⟨q1, q2, q3, q4⟩ := q
    cases h
    simp only [Bool.and_eq_true, decide_eq_true_eq, beq_iff_eq] at hp h1
    obtain ⟨rfl, rfl⟩ := hp
    exact zk_tb (List.mem_of_getElem? h1) rfl
theorem zk_ob_sp {c i : Nat} (h : zk_ob c i = true) : Cond.methodLink (zk_cn c) i Lib.objectInit ∈ zk_tbl := by
  unfold zk_ob at h
  cases hf : zk_OL.find? (fun q => q.1 == c && q.2.1 == i) with
  | none => rw [hf] at h; cases h
  | some q =>
    have hp := List.find?_some hf
    have hm := List.mem_of_find?_eq_some hf
    have h1 := List.all_eq_true.mp zk_OL_ok q hm
    obtain ⟨q1, q2, q3⟩ := q
    simp only [Bool.and_eq_true, decide_eq_true_eq, beq_iff_eq] at hp h1
    obtain ⟨rfl, rfl⟩ := hp
    exact zk_tb (List.mem_of_getElem? h1) rfl
theorem zk_fit_sp {ty : FieldType} {v : Value} (h : zk_fit ty v = true) : narrow ty v = v ∧ fits ty v = true := by
  unfold zk_fit at h
  split at h
  next => exact ⟨rfl, rfl⟩
  next x =>
    have h1 := of_decide_eq_true h
    rcases h1 with rfl | rfl <;> exact ⟨by decide, by decide⟩
  next => exact ⟨rfl, rfl⟩
  next => exact ⟨rfl, rfl⟩
  next => exact ⟨rfl, rfl⟩
  next => cases h
theorem zk_in_vp {i : Int32} {n : Nat} (h : zk_inb i n = true) : vp_in i n := by
  unfold zk_inb at h
  simp only [Bool.and_eq_true, decide_eq_true_eq] at h
  exact vp_in_iff.mpr h
