/-! the small machine's locals and its instructions without heap are the JVM's -/
def zk_lv (L : zk_L) : List (Nat × Value) := (List.range L.length).filterMap fun i => (zk_lget L i).map (fun v => (i, v))
theorem zk_lget_lt {L : zk_L} {i : Nat} {v : Value} (h : zk_lget L i = some v) : i < L.length := by
  unfold zk_lget at h
  rcases Nat.lt_or_ge i L.length with h1 | h1
  · exact h1
  · rw [List.getElem?_eq_none h1] at h
    cases h
theorem zk_lv_mem {L : zk_L} {i : Nat} {v : Value} : (i, v) ∈ zk_lv L ↔ zk_lget L i = some v := by
  unfold zk_lv
  rw [List.mem_filterMap]
  constructor
  · rintro ⟨j, -, hj⟩
    cases hg : zk_lget L j with
    | none => rw [hg] at hj; cases hj
    | some w => rw [hg] at hj; cases hj; exact hg
  · intro h
    exact ⟨i, List.mem_range.mpr (zk_lget_lt h), by rw [h]; rfl⟩
theorem zk_has_at {ls : Array Slot} {nL : Nat} {L : zk_L} (hl : lv_has ls nL (zk_lv L)) {i : Nat} {v : Value} (hg : zk_lget L i = some v) : ls[i]? = some (.val v) := hl.2.2 (i, v) (zk_lv_mem.mpr hg)
theorem zk_has_sub {ls : Array Slot} {nL : Nat} {l l' : List (Nat × Value)} (h : lv_has ls nL l) (hs : ∀ q ∈ l', q ∈ l) : lv_has ls nL l' := ⟨h.1, h.2.1, fun q hq => h.2.2 q (hs q hq)⟩
theorem zk_lget_set {L : zk_L} {i j : Nat} {o : Option Value} {v : Value} (h : zk_lget (L.set i o) j = some v) : (j = i ∧ o = some v) ∨ (j ≠ i ∧ zk_lget L j = some v) := by
  by_cases hj : j = i
  · subst hj
    left
    refine ⟨rfl, ?_⟩
    have hlt := zk_lget_lt h
    rw [List.length_set] at hlt
    unfold zk_lget at h
    rw [List.getElem?_set_self hlt] at h
    cases o with
    | none => cases h
    | some w => cases h; rfl
  · right
    refine ⟨hj, ?_⟩
    unfold zk_lget at h ⊢
    rw [List.getElem?_set_ne (Ne.symm hj)] at h
    exact h
theorem zk_cl_get {L : zk_L} {i j : Nat} {v : Value} (h : zk_lget (zk_cl L i) j = some v) : zk_lget L j = some v ∧ ¬ (j + 1 = i ∧ v.category = 2) := by
  unfold zk_cl at h
  cases i with
  | zero => exact ⟨h, fun q => by omega⟩
  | succ n =>
    dsimp only at h
    cases hg : zk_lget L n with
    | none =>
      rw [hg] at h
      refine ⟨h, fun q => ?_⟩
      have : j = n := by omega
      subst this
      rw [hg] at h; cases h
    | some w =>
      rw [hg] at h
      dsimp only at h
      by_cases hc : w.category = 2
      · rw [if_pos hc] at h
        rcases zk_lget_set h with ⟨-, h2⟩ | ⟨h1, h2⟩
        · cases h2
        · exact ⟨h2, fun q => h1 (by omega)⟩
      · rw [if_neg hc] at h
        refine ⟨h, fun q => ?_⟩
        have : j = n := by omega
        subst this
        rw [hg] at h
        cases h
        exact hc q.2
theorem zk_cl_len {L : zk_L} {i : Nat} : (zk_cl L i).length = L.length := by
  unfold zk_cl
  cases i with
  | zero => rfl
  | succ n =>
    dsimp only
    cases zk_lget L n with
    | none => rfl
    | some w =>
      dsimp only
      split
      · rw [List.length_set]
      · rfl
theorem zk_l1_len {L : zk_L} {i : Nat} {x : Value} : (zk_l1 L i x).length = L.length := by unfold zk_l1; rw [List.length_set, zk_cl_len]
theorem zk_l2_len {L : zk_L} {i : Nat} {x : Value} : (zk_l2 L i x).length = L.length := by unfold zk_l2; rw [List.length_set, List.length_set, zk_cl_len]
theorem zk_l1_sub {L : zk_L} {i : Nat} {x : Value} : ∀ q ∈ zk_lv (zk_l1 L i x), q ∈ (i, x) :: (zk_lv L).filter (fun q => !(q.1 == i) && !(q.1 + 1 == i && q.2.category == 2)) := by
  rintro ⟨j, v⟩ hq
  rw [zk_lv_mem] at hq
  rcases zk_lget_set hq with ⟨h1, h2⟩ | ⟨h1, h2⟩
  · cases h2; subst h1; exact List.mem_cons_self
  · obtain ⟨h3, h4⟩ := zk_cl_get h2
    refine List.mem_cons_of_mem _ (List.mem_filter.mpr ⟨zk_lv_mem.mpr h3, ?_⟩)
    simp only [Bool.and_eq_true, Bool.not_eq_true', beq_eq_false_iff_ne, ne_eq, Bool.and_eq_false_imp, beq_iff_eq]
    exact ⟨h1, fun a b => h4 ⟨a, b⟩⟩
theorem zk_l2_sub {L : zk_L} {i : Nat} {x : Value} : ∀ q ∈ zk_lv (zk_l2 L i x), q ∈ (i, x) :: (zk_lv L).filter (fun q => !(q.1 == i) && (!(q.1 == i + 1) && !(q.1 + 1 == i && q.2.category == 2))) := by
  rintro ⟨j, v⟩ hq
  rw [zk_lv_mem] at hq
  rcases zk_lget_set hq with ⟨-, h2⟩ | ⟨h0, hq⟩
  · cases h2
  rcases zk_lget_set hq with ⟨h1, h2⟩ | ⟨h1, h2⟩
  · cases h2; subst h1; exact List.mem_cons_self
  · obtain ⟨h3, h4⟩ := zk_cl_get h2
    refine List.mem_cons_of_mem _ (List.mem_filter.mpr ⟨zk_lv_mem.mpr h3, ?_⟩)
    simp only [Bool.and_eq_true, Bool.not_eq_true', beq_eq_false_iff_ne, ne_eq, Bool.and_eq_false_imp, beq_iff_eq]
    exact ⟨h1, h0, fun a b => h4 ⟨a, b⟩⟩
-- what the helpers say
theorem zk_ldi_sp {L L' : zk_L} {st st' : List Value} {i : Nat} (h : zk_ldi L st i = some (L', st')) : ∃ x, zk_lget L i = some (.int x) ∧ L' = L ∧ st' = .int x :: st := by
  unfold zk_ldi at h
  split at h
  next x hg => cases h; exact ⟨x, hg, rfl, rfl⟩
  next => cases h
theorem zk_ldl_sp {L L' : zk_L} {st st' : List Value} {i : Nat} (h : zk_ldl L st i = some (L', st')) : ∃ x, zk_lget L i = some (.long x) ∧ L' = L ∧ st' = .long x :: st := by
  unfold zk_ldl at h
  split at h
  next x hg => cases h; exact ⟨x, hg, rfl, rfl⟩
  next => cases h
theorem zk_lda_sp {L L' : zk_L} {st st' : List Value} {i : Nat} (h : zk_lda L st i = some (L', st')) : (∃ x, zk_lget L i = some (.ref x) ∧ L' = L ∧ st' = .ref x :: st) ∨ (zk_lget L i = some .null ∧ L' = L ∧ st' = .null :: st) := by
  unfold zk_lda at h
  split at h
  next x hg => cases h; exact Or.inl ⟨x, hg, rfl, rfl⟩
  next hg => cases h; exact Or.inr ⟨hg, rfl, rfl⟩
  next => cases h
theorem zk_sti_sp {L L' : zk_L} {st st' : List Value} {i : Nat} (h : zk_sti L st i = some (L', st')) : ∃ x r, st = .int x :: r ∧ i < L.length ∧ L' = zk_l1 L i (.int x) ∧ st' = r := by
  unfold zk_sti at h
  split at h
  next x r =>
    split at h
    next hi => cases h; exact ⟨x, _, rfl, hi, rfl, rfl⟩
    next => cases h
  next => cases h
theorem zk_stl_sp {L L' : zk_L} {st st' : List Value} {i : Nat} (h : zk_stl L st i = some (L', st')) : ∃ x r, st = .long x :: r ∧ i + 1 < L.length ∧ L' = zk_l2 L i (.long x) ∧ st' = r := by
  unfold zk_stl at h
  split at h
  next x r =>
    split at h
    next hi => cases h; exact ⟨x, _, rfl, hi, rfl, rfl⟩
    next => cases h
  next => cases h
theorem zk_sta_sp {L L' : zk_L} {st st' : List Value} {i : Nat} (h : zk_sta L st i = some (L', st')) : (∃ x r, st = .ref x :: r ∧ i < L.length ∧ L' = zk_l1 L i (.ref x) ∧ st' = r) ∨ (∃ r, st = .null :: r ∧ i < L.length ∧ L' = zk_l1 L i .null ∧ st' = r) := by
  unfold zk_sta at h
  split at h
  next x r =>
    split at h
    next hi => cases h; exact Or.inl ⟨x, _, rfl, hi, rfl, rfl⟩
    next => cases h
  next r =>
    split at h
    next hi => cases h; exact Or.inr ⟨_, rfl, hi, rfl, rfl⟩
    next => cases h
  next => cases h
theorem zk_ii_sp {f : Int32 → Int32 → Int32} {L L' : zk_L} {st st' : List Value} (h : zk_ii f L st = some (L', st')) : ∃ x y r, st = .int y :: .int x :: r ∧ L' = L ∧ st' = .int (f x y) :: r := by
  unfold zk_ii at h
  split at h
  next y x r => cases h; exact ⟨x, y, _, rfl, rfl, rfl⟩
  next => cases h
theorem zk_id_sp {f : Int32 → Int32 → Int32} {L L' : zk_L} {st st' : List Value} (h : zk_id f L st = some (L', st')) : ∃ x y r, st = .int y :: .int x :: r ∧ ¬ y = 0 ∧ L' = L ∧ st' = .int (f x y) :: r := by
  unfold zk_id at h
  split at h
  next y x r =>
    split at h
    next => cases h
    next hy => cases h; exact ⟨x, y, _, rfl, hy, rfl, rfl⟩
  next => cases h
theorem zk_ll_sp {f : Int64 → Int64 → Int64} {L L' : zk_L} {st st' : List Value} (h : zk_ll f L st = some (L', st')) : ∃ x y r, st = .long y :: .long x :: r ∧ L' = L ∧ st' = .long (f x y) :: r := by
  unfold zk_ll at h
  split at h
  next y x r => cases h; exact ⟨x, y, _, rfl, rfl, rfl⟩
  next => cases h
theorem zk_li_sp {f : Int64 → Int32 → Int64} {L L' : zk_L} {st st' : List Value} (h : zk_li f L st = some (L', st')) : ∃ x y r, st = .int y :: .long x :: r ∧ L' = L ∧ st' = .long (f x y) :: r := by
  unfold zk_li at h
  split at h
  next y x r => cases h; exact ⟨x, y, _, rfl, rfl, rfl⟩
  next => cases h
section ZKP
variable {p : Program} {l : Launch} {e : Env} {R : Room} {s : State} {m : MethodId} {args : Array Value} {below : List Frame} {meth : Method} {c : Code} {H : Heap} {locs : List Loc} {cells slots : Nat} {Q : State → Prop} {cc : ByteArray} {pc nL : Nat} {ls : Array Slot} {L L' : zk_L} {st st' : List Value}
theorem zk_pure_ok (hx : p.tables.exec = Jvm.exec) (hb : c.code = cc) {ins : Instr} (hd : decode cc pc = .ok (ins, zk_len ins)) (h : zk_pure ins L st = some (L', st')) (hl : lv_has ls nL (zk_lv L)) (hL : L.length = nL)
    (k : ∀ ls' : Array Slot, lv_has ls' nL (zk_lv L') → L'.length = nL → W p l e R s m args below meth c H locs cells slots Q (F0 m (pc + zk_len ins) ls' st')) : W p l e R s m args below meth c H locs cells slots Q (F0 m pc ls st) := by
  cases ins
  case aconst_null => cases h; exact lv_null hx hb hd (k ls hl hL)
  case iconst n => cases h; exact lv_iconst hx hb hd rfl (k ls hl hL)
  case bipush n => cases h; exact lv_bipush hx hb hd rfl (k ls hl hL)
  case sipush n => cases h; exact lv_sipush hx hb hd rfl (k ls hl hL)
  case lconst n => cases h; exact lv_lconst hx hb hd rfl (k ls hl hL)
  case iload i => obtain ⟨x, hg, rfl, rfl⟩ := zk_ldi_sp h; exact lv_iload hx hb hd (zk_has_at hl hg) (k ls hl hL)
  case iload_n i => obtain ⟨x, hg, rfl, rfl⟩ := zk_ldi_sp h; exact lv_iload_n hx hb hd rfl (zk_has_at hl hg) (k ls hl hL)
  case lload i => obtain ⟨x, hg, rfl, rfl⟩ := zk_ldl_sp h; exact lv_lload hx hb hd (zk_has_at hl hg) (k ls hl hL)
  case lload_n i => obtain ⟨x, hg, rfl, rfl⟩ := zk_ldl_sp h; exact lv_lload_n hx hb hd rfl (zk_has_at hl hg) (k ls hl hL)
  case aload i =>
    rcases zk_lda_sp h with ⟨x, hg, rfl, rfl⟩ | ⟨hg, rfl, rfl⟩
    · exact lv_aload hx hb hd (zk_has_at hl hg) (k ls hl hL)
    · exact lv_aloadN hx hb hd (zk_has_at hl hg) (k ls hl hL)
  case aload_n i =>
    rcases zk_lda_sp h with ⟨x, hg, rfl, rfl⟩ | ⟨hg, rfl, rfl⟩
    · exact lv_aload_n hx hb hd rfl (zk_has_at hl hg) (k ls hl hL)
    · exact lv_aload_nN hx hb hd rfl (zk_has_at hl hg) (k ls hl hL)
  case istore i => obtain ⟨x, r, rfl, hi, rfl, rfl⟩ := zk_sti_sp h; exact lv_istore hx hb hd hl (by rw [← hL]; exact hi) rfl (fun ls' hl' => k ls' (zk_has_sub hl' zk_l1_sub) (zk_l1_len.trans hL))
  case istore_n i => obtain ⟨x, r, rfl, hi, rfl, rfl⟩ := zk_sti_sp h; exact lv_istore_n hx hb hd rfl hl (by rw [← hL]; exact hi) rfl (fun ls' hl' => k ls' (zk_has_sub hl' zk_l1_sub) (zk_l1_len.trans hL))
  case lstore i => obtain ⟨x, r, rfl, hi, rfl, rfl⟩ := zk_stl_sp h; exact lv_lstore hx hb hd hl (by rw [← hL]; exact hi) rfl (fun ls' hl' => k ls' (zk_has_sub hl' zk_l2_sub) (zk_l2_len.trans hL))
  case lstore_n i => obtain ⟨x, r, rfl, hi, rfl, rfl⟩ := zk_stl_sp h; exact lv_lstore_n hx hb hd rfl hl (by rw [← hL]; exact hi) rfl (fun ls' hl' => k ls' (zk_has_sub hl' zk_l2_sub) (zk_l2_len.trans hL))
  case astore i =>
    rcases zk_sta_sp h with ⟨x, r, rfl, hi, rfl, rfl⟩ | ⟨r, rfl, hi, rfl, rfl⟩
    · exact lv_astore hx hb hd hl (by rw [← hL]; exact hi) rfl (fun ls' hl' => k ls' (zk_has_sub hl' zk_l1_sub) (zk_l1_len.trans hL))
    · exact lv_astoreN hx hb hd hl (by rw [← hL]; exact hi) rfl (fun ls' hl' => k ls' (zk_has_sub hl' zk_l1_sub) (zk_l1_len.trans hL))
  case astore_n i =>
    rcases zk_sta_sp h with ⟨x, r, rfl, hi, rfl, rfl⟩ | ⟨r, rfl, hi, rfl, rfl⟩
    · exact lv_astore_n hx hb hd rfl hl (by rw [← hL]; exact hi) rfl (fun ls' hl' => k ls' (zk_has_sub hl' zk_l1_sub) (zk_l1_len.trans hL))
    · exact lv_astore_nN hx hb hd rfl hl (by rw [← hL]; exact hi) rfl (fun ls' hl' => k ls' (zk_has_sub hl' zk_l1_sub) (zk_l1_len.trans hL))
  case iinc i n =>
    dsimp only [zk_pure] at h
    split at h
    next x hg =>
      cases h
      obtain ⟨j, hj⟩ := List.getElem?_of_mem (zk_lv_mem.mpr hg)
      exact lv_iinc hx hb hd hl hj rfl (by rw [← hL]; exact zk_lget_lt hg) rfl (fun ls' hl' => k ls' (zk_has_sub hl' zk_l1_sub) (zk_l1_len.trans hL))
    next => cases h
  case pop =>
    dsimp only [zk_pure] at h
    split at h
    next v r =>
      split at h
      next hc => cases h; exact lv_pop hx hb hd hc (k ls hl hL)
      next => cases h
    next => cases h
  case dup =>
    dsimp only [zk_pure] at h
    split at h
    next v r =>
      split at h
      next hc => cases h; exact lv_dup hx hb hd hc (k ls hl hL)
      next => cases h
    next => cases h
  case dup2 =>
    dsimp only [zk_pure] at h
    split at h
    next v w r =>
      split at h
      next hc =>
        split at h
        next hd2 => cases h; exact lv_dup2_11 hx hb hd hc hd2 (k ls hl hL)
        next => cases h
      next => cases h
    next => cases h
  case iadd => obtain ⟨x, y, r, rfl, rfl, rfl⟩ := zk_ii_sp h; exact lv_iadd hx hb hd (k ls hl hL)
  case isub => obtain ⟨x, y, r, rfl, rfl, rfl⟩ := zk_ii_sp h; exact lv_isub hx hb hd (k ls hl hL)
  case imul => obtain ⟨x, y, r, rfl, rfl, rfl⟩ := zk_ii_sp h; exact lv_imul hx hb hd (k ls hl hL)
  case iand => obtain ⟨x, y, r, rfl, rfl, rfl⟩ := zk_ii_sp h; exact lv_iand hx hb hd (k ls hl hL)
  case ior => obtain ⟨x, y, r, rfl, rfl, rfl⟩ := zk_ii_sp h; exact lv_ior hx hb hd (k ls hl hL)
  case ixor => obtain ⟨x, y, r, rfl, rfl, rfl⟩ := zk_ii_sp h; exact lv_ixor hx hb hd (k ls hl hL)
  case idiv => obtain ⟨x, y, r, rfl, hy, rfl, rfl⟩ := zk_id_sp h; exact lv_idiv hx hb hd hy (k ls hl hL)
  case irem => obtain ⟨x, y, r, rfl, hy, rfl, rfl⟩ := zk_id_sp h; exact lv_irem hx hb hd hy (k ls hl hL)
  case ishl => obtain ⟨x, y, r, rfl, rfl, rfl⟩ := zk_ii_sp h; exact lv_ishl hx hb hd (k ls hl hL)
  case ishr => obtain ⟨x, y, r, rfl, rfl, rfl⟩ := zk_ii_sp h; exact lv_ishr hx hb hd (k ls hl hL)
  case iushr => obtain ⟨x, y, r, rfl, rfl, rfl⟩ := zk_ii_sp h; exact lv_iushr hx hb hd rfl (k ls hl hL)
  case ladd => obtain ⟨x, y, r, rfl, rfl, rfl⟩ := zk_ll_sp h; exact lv_ladd hx hb hd (k ls hl hL)
  case lsub => obtain ⟨x, y, r, rfl, rfl, rfl⟩ := zk_ll_sp h; exact lv_lsub hx hb hd (k ls hl hL)
  case land => obtain ⟨x, y, r, rfl, rfl, rfl⟩ := zk_ll_sp h; exact lv_land hx hb hd (k ls hl hL)
  case lor => obtain ⟨x, y, r, rfl, rfl, rfl⟩ := zk_ll_sp h; exact lv_lor hx hb hd (k ls hl hL)
  case lxor => obtain ⟨x, y, r, rfl, rfl, rfl⟩ := zk_ll_sp h; exact lv_lxor hx hb hd (k ls hl hL)
  case lneg =>
    dsimp only [zk_pure] at h
    split at h
    next x r => cases h; exact lv_lneg hx hb hd (k ls hl hL)
    next => cases h
  case lshl => obtain ⟨x, y, r, rfl, rfl, rfl⟩ := zk_li_sp h; exact lv_lshl hx hb hd rfl (k ls hl hL)
  case lshr => obtain ⟨x, y, r, rfl, rfl, rfl⟩ := zk_li_sp h; exact lv_lshr hx hb hd rfl (k ls hl hL)
  case lushr => obtain ⟨x, y, r, rfl, rfl, rfl⟩ := zk_li_sp h; exact lv_lushr hx hb hd rfl (k ls hl hL)
  case lcmp =>
    dsimp only [zk_pure] at h
    split at h
    next y x r => cases h; exact W.lcmp hx hb hd (k ls hl hL)
    next => cases h
  case i2l =>
    dsimp only [zk_pure] at h
    split at h
    next x r => cases h; exact lv_i2l hx hb hd rfl (k ls hl hL)
    next => cases h
  case l2i =>
    dsimp only [zk_pure] at h
    split at h
    next x r => cases h; exact lv_l2i hx hb hd rfl (k ls hl hL)
    next => cases h
  all_goals (exact nomatch h)
end ZKP
