/-! rules for runs of the small machine, an instruction each -/
section ZKR
variable {G : zk_G} {y pc : Nat} {L : zk_L} {st : List Value} {h : zk_H} {Q : Option Value → zk_H → Prop}
theorem zi_pure {ins : Instr} {len : Nat} {L' : zk_L} {st st' : List Value} (hft : zk_ft y pc = some (ins, len)) (h1 : zk_inv G y ins st h = none) (h2 : zk_ret (zk_rt y) ins len st = none) (h3 : zk_jump ins len pc st = none) (h4 : zk_heap G (zk_c y) (zk_ini y) (zk_lev y) ins st h = none) (h5 : zk_pure ins L st = some (L', st')) (hl : len = zk_len ins) : zk_wp G y pc L st h Q ↔ zk_wp G y (pc + len) L' st' h Q := by
  rw [zk_wp_iff hft]
  unfold zk_wpI
  rw [h1]
  dsimp only
  rw [h2]
  dsimp only
  rw [h3]
  dsimp only
  rw [h4]
  dsimp only
  rw [h5]
  exact ⟨And.right, And.intro hl⟩
theorem zi_heap {ins : Instr} {len : Nat} {st st' : List Value} {h' : zk_H} (hft : zk_ft y pc = some (ins, len)) (h1 : zk_inv G y ins st h = none) (h2 : zk_ret (zk_rt y) ins len st = none) (h3 : zk_jump ins len pc st = none) (h4 : zk_heap G (zk_c y) (zk_ini y) (zk_lev y) ins st h = some (st', h')) (hl : len = zk_len ins) : zk_wp G y pc L st h Q ↔ zk_wp G y (pc + len) L st' h' Q := by
  rw [zk_wp_iff hft]
  unfold zk_wpI
  rw [h1]
  dsimp only
  rw [h2]
  dsimp only
  rw [h3]
  dsimp only
  rw [h4]
  exact ⟨And.right, And.intro hl⟩
theorem zi_jump {ins : Instr} {len pc' : Nat} {st st' : List Value} (hft : zk_ft y pc = some (ins, len)) (h1 : zk_inv G y ins st h = none) (h2 : zk_ret (zk_rt y) ins len st = none) (h3 : zk_jump ins len pc st = some (pc', st')) : zk_wp G y pc L st h Q ↔ zk_wp G y pc' L st' h Q := by
  rw [zk_wp_iff hft]
  unfold zk_wpI
  rw [h1]
  dsimp only
  rw [h2]
  dsimp only
  rw [h3]
theorem zi_ret {ins : Instr} {len : Nat} {st : List Value} {r : Option Value} (hft : zk_ft y pc = some (ins, len)) (h1 : zk_inv G y ins st h = none) (h2 : zk_ret (zk_rt y) ins len st = some r) : zk_wp G y pc L st h Q ↔ Q r h := by
  rw [zk_wp_iff hft]
  unfold zk_wpI
  rw [h1]
  dsimp only
  rw [h2]
-- constants
theorem zi_iconst {n : Int} {v : Int32} (hft : zk_ft y pc = some (.iconst n, 1)) (hv : Int32.ofInt n = v) : zk_wp G y pc L st h Q ↔ zk_wp G y (pc + 1) L (.int v :: st) h Q := by subst hv; exact zi_pure hft rfl rfl rfl rfl rfl rfl
theorem zi_bipush {n : Int} {v : Int32} (hft : zk_ft y pc = some (.bipush n, 2)) (hv : (Int8.ofInt n).toInt32 = v) : zk_wp G y pc L st h Q ↔ zk_wp G y (pc + 2) L (.int v :: st) h Q := by subst hv; exact zi_pure hft rfl rfl rfl rfl rfl rfl
theorem zi_sipush {n : Int} {v : Int32} (hft : zk_ft y pc = some (.sipush n, 3)) (hv : (Int16.ofInt n).toInt32 = v) : zk_wp G y pc L st h Q ↔ zk_wp G y (pc + 3) L (.int v :: st) h Q := by subst hv; exact zi_pure hft rfl rfl rfl rfl rfl rfl
theorem zi_lconst {n : Fin 2} {v : Int64} (hft : zk_ft y pc = some (.lconst n, 1)) (hv : Int64.ofNat (n : Nat) = v) : zk_wp G y pc L st h Q ↔ zk_wp G y (pc + 1) L (.long v :: st) h Q := by subst hv; exact zi_pure hft rfl rfl rfl rfl rfl rfl
theorem zi_null (hft : zk_ft y pc = some (.aconst_null, 1)) : zk_wp G y pc L st h Q ↔ zk_wp G y (pc + 1) L (.null :: st) h Q := zi_pure hft rfl rfl rfl rfl rfl rfl
theorem zi_ldc {i : Nat} {v : Int32} (hft : zk_ft y pc = some (.ldc i, 2)) (hv : zk_ki (zk_c y) i = some v) : zk_wp G y pc L st h Q ↔ zk_wp G y (pc + 2) L (.int v :: st) h Q := zi_heap hft rfl rfl rfl (by show (zk_ki (zk_c y) i).map _ = _; rw [hv]; rfl) rfl
theorem zi_ldcw {i : Nat} {v : Int32} (hft : zk_ft y pc = some (.ldc_w i, 3)) (hv : zk_ki (zk_c y) i = some v) : zk_wp G y pc L st h Q ↔ zk_wp G y (pc + 3) L (.int v :: st) h Q := zi_heap hft rfl rfl rfl (by show (zk_ki (zk_c y) i).map _ = _; rw [hv]; rfl) rfl
theorem zi_ldc2 {i : Nat} {v : Int64} (hft : zk_ft y pc = some (.ldc2_w i, 3)) (hv : zk_kl (zk_c y) i = some v) : zk_wp G y pc L st h Q ↔ zk_wp G y (pc + 3) L (.long v :: st) h Q := zi_heap hft rfl rfl rfl (by show (zk_kl (zk_c y) i).map _ = _; rw [hv]; rfl) rfl
-- locals
theorem zi_iload {i : Nat} {x : Int32} (hft : zk_ft y pc = some (.iload i, 2)) (hg : zk_lget L i = some (.int x)) : zk_wp G y pc L st h Q ↔ zk_wp G y (pc + 2) L (.int x :: st) h Q := zi_pure hft rfl rfl rfl rfl (by show zk_ldi L st i = _; unfold zk_ldi; rw [hg]) rfl
theorem zi_iload_n {k : Fin 4} {x : Int32} (hft : zk_ft y pc = some (.iload_n k, 1)) (hg : zk_lget L (k : Nat) = some (.int x)) : zk_wp G y pc L st h Q ↔ zk_wp G y (pc + 1) L (.int x :: st) h Q := zi_pure hft rfl rfl rfl rfl (by show zk_ldi L st k = _; unfold zk_ldi; rw [hg]) rfl
theorem zi_lload {i : Nat} {x : Int64} (hft : zk_ft y pc = some (.lload i, 2)) (hg : zk_lget L i = some (.long x)) : zk_wp G y pc L st h Q ↔ zk_wp G y (pc + 2) L (.long x :: st) h Q := zi_pure hft rfl rfl rfl rfl (by show zk_ldl L st i = _; unfold zk_ldl; rw [hg]) rfl
theorem zi_lload_n {k : Fin 4} {x : Int64} (hft : zk_ft y pc = some (.lload_n k, 1)) (hg : zk_lget L (k : Nat) = some (.long x)) : zk_wp G y pc L st h Q ↔ zk_wp G y (pc + 1) L (.long x :: st) h Q := zi_pure hft rfl rfl rfl rfl (by show zk_ldl L st k = _; unfold zk_ldl; rw [hg]) rfl
theorem zi_aload {i : Nat} {x : Nat} (hft : zk_ft y pc = some (.aload i, 2)) (hg : zk_lget L i = some (.ref x)) : zk_wp G y pc L st h Q ↔ zk_wp G y (pc + 2) L (.ref x :: st) h Q := zi_pure hft rfl rfl rfl rfl (by show zk_lda L st i = _; unfold zk_lda; rw [hg]) rfl
theorem zi_aload_n {k : Fin 4} {x : Nat} (hft : zk_ft y pc = some (.aload_n k, 1)) (hg : zk_lget L (k : Nat) = some (.ref x)) : zk_wp G y pc L st h Q ↔ zk_wp G y (pc + 1) L (.ref x :: st) h Q := zi_pure hft rfl rfl rfl rfl (by show zk_lda L st k = _; unfold zk_lda; rw [hg]) rfl
theorem zi_aloadN {i : Nat} (hft : zk_ft y pc = some (.aload i, 2)) (hg : zk_lget L i = some .null) : zk_wp G y pc L st h Q ↔ zk_wp G y (pc + 2) L (.null :: st) h Q := zi_pure hft rfl rfl rfl rfl (by show zk_lda L st i = _; unfold zk_lda; rw [hg]) rfl
theorem zi_aload_nN {k : Fin 4} (hft : zk_ft y pc = some (.aload_n k, 1)) (hg : zk_lget L (k : Nat) = some .null) : zk_wp G y pc L st h Q ↔ zk_wp G y (pc + 1) L (.null :: st) h Q := zi_pure hft rfl rfl rfl rfl (by show zk_lda L st k = _; unfold zk_lda; rw [hg]) rfl
theorem zi_istore {i : Nat} {x : Int32} (hft : zk_ft y pc = some (.istore i, 2)) (hi : i < L.length) : zk_wp G y pc L (.int x :: st) h Q ↔ zk_wp G y (pc + 2) (zk_l1 L i (.int x)) st h Q := zi_pure hft rfl rfl rfl rfl (by simp [zk_pure, zk_sti, hi]) rfl
theorem zi_istore_n {k : Fin 4} {x : Int32} (hft : zk_ft y pc = some (.istore_n k, 1)) (hi : (k : Nat) < L.length) : zk_wp G y pc L (.int x :: st) h Q ↔ zk_wp G y (pc + 1) (zk_l1 L (k : Nat) (.int x)) st h Q := zi_pure hft rfl rfl rfl rfl (by simp [zk_pure, zk_sti, hi]) rfl
theorem zi_lstore {i : Nat} {x : Int64} (hft : zk_ft y pc = some (.lstore i, 2)) (hi : i + 1 < L.length) : zk_wp G y pc L (.long x :: st) h Q ↔ zk_wp G y (pc + 2) (zk_l2 L i (.long x)) st h Q := zi_pure hft rfl rfl rfl rfl (by simp [zk_pure, zk_stl, hi]) rfl
theorem zi_lstore_n {k : Fin 4} {x : Int64} (hft : zk_ft y pc = some (.lstore_n k, 1)) (hi : (k : Nat) + 1 < L.length) : zk_wp G y pc L (.long x :: st) h Q ↔ zk_wp G y (pc + 1) (zk_l2 L (k : Nat) (.long x)) st h Q := zi_pure hft rfl rfl rfl rfl (by simp [zk_pure, zk_stl, hi]) rfl
theorem zi_astore {i : Nat} {x : Nat} (hft : zk_ft y pc = some (.astore i, 2)) (hi : i < L.length) : zk_wp G y pc L (.ref x :: st) h Q ↔ zk_wp G y (pc + 2) (zk_l1 L i (.ref x)) st h Q := zi_pure hft rfl rfl rfl rfl (by simp [zk_pure, zk_sta, hi]) rfl
theorem zi_astore_n {k : Fin 4} {x : Nat} (hft : zk_ft y pc = some (.astore_n k, 1)) (hi : (k : Nat) < L.length) : zk_wp G y pc L (.ref x :: st) h Q ↔ zk_wp G y (pc + 1) (zk_l1 L (k : Nat) (.ref x)) st h Q := zi_pure hft rfl rfl rfl rfl (by simp [zk_pure, zk_sta, hi]) rfl
theorem zi_astoreN {i : Nat} (hft : zk_ft y pc = some (.astore i, 2)) (hi : i < L.length) : zk_wp G y pc L (.null :: st) h Q ↔ zk_wp G y (pc + 2) (zk_l1 L i .null) st h Q := zi_pure hft rfl rfl rfl rfl (by simp [zk_pure, zk_sta, hi]) rfl
theorem zi_astore_nN {k : Fin 4} (hft : zk_ft y pc = some (.astore_n k, 1)) (hi : (k : Nat) < L.length) : zk_wp G y pc L (.null :: st) h Q ↔ zk_wp G y (pc + 1) (zk_l1 L (k : Nat) .null) st h Q := zi_pure hft rfl rfl rfl rfl (by simp [zk_pure, zk_sta, hi]) rfl
theorem zi_iinc {i : Nat} {n : Int} {k x : Int32} (hft : zk_ft y pc = some (.iinc i n, 3)) (hk : Int32.ofInt n = k) (hg : zk_lget L i = some (.int x)) : zk_wp G y pc L st h Q ↔ zk_wp G y (pc + 3) (zk_l1 L i (.int (x + k))) st h Q := by
  subst hk
  exact zi_pure hft rfl rfl rfl rfl (by simp [zk_pure, hg]) rfl
-- the stack, numbers
theorem zi_pop {v : Value} (hft : zk_ft y pc = some (.pop, 1)) (hc : v.category = 1) : zk_wp G y pc L (v :: st) h Q ↔ zk_wp G y (pc + 1) L st h Q := zi_pure hft rfl rfl rfl rfl (by show (if v.category = 1 then _ else _) = _; exact if_pos hc) rfl
theorem zi_dup {v : Value} (hft : zk_ft y pc = some (.dup, 1)) (hc : v.category = 1) : zk_wp G y pc L (v :: st) h Q ↔ zk_wp G y (pc + 1) L (v :: v :: st) h Q := zi_pure hft rfl rfl rfl rfl (by show (if v.category = 1 then _ else _) = _; exact if_pos hc) rfl
theorem zi_dup2 {v w : Value} (hft : zk_ft y pc = some (.dup2, 1)) (hc : v.category = 1) (hd : w.category = 1) : zk_wp G y pc L (v :: w :: st) h Q ↔ zk_wp G y (pc + 1) L (v :: w :: v :: w :: st) h Q := zi_pure hft rfl rfl rfl rfl (by show (if v.category = 1 then (if w.category = 1 then _ else _) else _) = _; rw [if_pos hc, if_pos hd]) rfl
theorem zi_iadd {a b : Int32} (hft : zk_ft y pc = some (.iadd, 1)) : zk_wp G y pc L (.int b :: .int a :: st) h Q ↔ zk_wp G y (pc + 1) L (.int (a + b) :: st) h Q := zi_pure hft rfl rfl rfl rfl rfl rfl
theorem zi_isub {a b : Int32} (hft : zk_ft y pc = some (.isub, 1)) : zk_wp G y pc L (.int b :: .int a :: st) h Q ↔ zk_wp G y (pc + 1) L (.int (a - b) :: st) h Q := zi_pure hft rfl rfl rfl rfl rfl rfl
theorem zi_imul {a b : Int32} (hft : zk_ft y pc = some (.imul, 1)) : zk_wp G y pc L (.int b :: .int a :: st) h Q ↔ zk_wp G y (pc + 1) L (.int (a * b) :: st) h Q := zi_pure hft rfl rfl rfl rfl rfl rfl
theorem zi_iand {a b : Int32} (hft : zk_ft y pc = some (.iand, 1)) : zk_wp G y pc L (.int b :: .int a :: st) h Q ↔ zk_wp G y (pc + 1) L (.int (a &&& b) :: st) h Q := zi_pure hft rfl rfl rfl rfl rfl rfl
theorem zi_ior {a b : Int32} (hft : zk_ft y pc = some (.ior, 1)) : zk_wp G y pc L (.int b :: .int a :: st) h Q ↔ zk_wp G y (pc + 1) L (.int (a ||| b) :: st) h Q := zi_pure hft rfl rfl rfl rfl rfl rfl
theorem zi_ixor {a b : Int32} (hft : zk_ft y pc = some (.ixor, 1)) : zk_wp G y pc L (.int b :: .int a :: st) h Q ↔ zk_wp G y (pc + 1) L (.int (a ^^^ b) :: st) h Q := zi_pure hft rfl rfl rfl rfl rfl rfl
theorem zi_idiv {a b : Int32} (hft : zk_ft y pc = some (.idiv, 1)) (hb : ¬ b = 0) : zk_wp G y pc L (.int b :: .int a :: st) h Q ↔ zk_wp G y (pc + 1) L (.int (a / b) :: st) h Q := zi_pure hft rfl rfl rfl rfl (by simp [zk_pure, zk_id, hb]) rfl
theorem zi_irem {a b : Int32} (hft : zk_ft y pc = some (.irem, 1)) (hb : ¬ b = 0) : zk_wp G y pc L (.int b :: .int a :: st) h Q ↔ zk_wp G y (pc + 1) L (.int (a - a / b * b) :: st) h Q := zi_pure hft rfl rfl rfl rfl (by simp [zk_pure, zk_id, hb]) rfl
theorem zi_ishl {a b : Int32} (hft : zk_ft y pc = some (.ishl, 1)) : zk_wp G y pc L (.int b :: .int a :: st) h Q ↔ zk_wp G y (pc + 1) L (.int (a <<< (b &&& 31)) :: st) h Q := zi_pure hft rfl rfl rfl rfl rfl rfl
theorem zi_ishr {a b : Int32} (hft : zk_ft y pc = some (.ishr, 1)) : zk_wp G y pc L (.int b :: .int a :: st) h Q ↔ zk_wp G y (pc + 1) L (.int (a >>> (b &&& 31)) :: st) h Q := zi_pure hft rfl rfl rfl rfl rfl rfl
theorem zi_iushr {a b : Int32} (hft : zk_ft y pc = some (.iushr, 1)) : zk_wp G y pc L (.int b :: .int a :: st) h Q ↔ zk_wp G y (pc + 1) L (.int (a.toUInt32 >>> (b.toUInt32 &&& Int32.toUInt32 31)).toInt32 :: st) h Q := zi_pure hft rfl rfl rfl rfl rfl rfl
theorem zi_ladd {a b : Int64} (hft : zk_ft y pc = some (.ladd, 1)) : zk_wp G y pc L (.long b :: .long a :: st) h Q ↔ zk_wp G y (pc + 1) L (.long (a + b) :: st) h Q := zi_pure hft rfl rfl rfl rfl rfl rfl
theorem zi_lsub {a b : Int64} (hft : zk_ft y pc = some (.lsub, 1)) : zk_wp G y pc L (.long b :: .long a :: st) h Q ↔ zk_wp G y (pc + 1) L (.long (a - b) :: st) h Q := zi_pure hft rfl rfl rfl rfl rfl rfl
theorem zi_land {a b : Int64} (hft : zk_ft y pc = some (.land, 1)) : zk_wp G y pc L (.long b :: .long a :: st) h Q ↔ zk_wp G y (pc + 1) L (.long (a &&& b) :: st) h Q := zi_pure hft rfl rfl rfl rfl rfl rfl
theorem zi_lor {a b : Int64} (hft : zk_ft y pc = some (.lor, 1)) : zk_wp G y pc L (.long b :: .long a :: st) h Q ↔ zk_wp G y (pc + 1) L (.long (a ||| b) :: st) h Q := zi_pure hft rfl rfl rfl rfl rfl rfl
theorem zi_lxor {a b : Int64} (hft : zk_ft y pc = some (.lxor, 1)) : zk_wp G y pc L (.long b :: .long a :: st) h Q ↔ zk_wp G y (pc + 1) L (.long (a ^^^ b) :: st) h Q := zi_pure hft rfl rfl rfl rfl rfl rfl
theorem zi_lneg {a : Int64} (hft : zk_ft y pc = some (.lneg, 1)) : zk_wp G y pc L (.long a :: st) h Q ↔ zk_wp G y (pc + 1) L (.long (-a) :: st) h Q := zi_pure hft rfl rfl rfl rfl rfl rfl
theorem zi_lshl {a : Int64} {b : Int32} (hft : zk_ft y pc = some (.lshl, 1)) : zk_wp G y pc L (.int b :: .long a :: st) h Q ↔ zk_wp G y (pc + 1) L (.long (a <<< (b.toInt64 &&& 63)) :: st) h Q := zi_pure hft rfl rfl rfl rfl rfl rfl
theorem zi_lshr {a : Int64} {b : Int32} (hft : zk_ft y pc = some (.lshr, 1)) : zk_wp G y pc L (.int b :: .long a :: st) h Q ↔ zk_wp G y (pc + 1) L (.long (a >>> (b.toInt64 &&& 63)) :: st) h Q := zi_pure hft rfl rfl rfl rfl rfl rfl
theorem zi_lushr {a : Int64} {b : Int32} (hft : zk_ft y pc = some (.lushr, 1)) : zk_wp G y pc L (.int b :: .long a :: st) h Q ↔ zk_wp G y (pc + 1) L (.long (a.toUInt64 >>> (b.toInt64.toUInt64 &&& Int64.toUInt64 63)).toInt64 :: st) h Q := zi_pure hft rfl rfl rfl rfl rfl rfl
theorem zi_lcmp {a b : Int64} (hft : zk_ft y pc = some (.lcmp, 1)) : zk_wp G y pc L (.long b :: .long a :: st) h Q ↔ zk_wp G y (pc + 1) L (.int (lg_cmp a b) :: st) h Q := zi_pure hft rfl rfl rfl rfl rfl rfl
theorem zi_i2l {a : Int32} (hft : zk_ft y pc = some (.i2l, 1)) : zk_wp G y pc L (.int a :: st) h Q ↔ zk_wp G y (pc + 1) L (.long a.toInt64 :: st) h Q := zi_pure hft rfl rfl rfl rfl rfl rfl
theorem zi_l2i {a : Int64} (hft : zk_ft y pc = some (.l2i, 1)) : zk_wp G y pc L (.long a :: st) h Q ↔ zk_wp G y (pc + 1) L (.int a.toInt32 :: st) h Q := zi_pure hft rfl rfl rfl rfl rfl rfl
-- jumps
theorem zi_tg {pc : Nat} {off : Int} {t : Nat} (ht : (pc : Int) + off = (t : Int)) : zk_tg pc off = some t := by
  unfold zk_tg
  rw [ht]
  rw [if_pos (Int.natCast_nonneg t)]
  simp
theorem zi_goto {off : Int} {t : Nat} (hft : zk_ft y pc = some (.goto off, 3)) (ht : (pc : Int) + off = (t : Int)) : zk_wp G y pc L st h Q ↔ zk_wp G y t L st h Q := zi_jump hft rfl rfl (by simp [zk_jump, zi_tg ht])
theorem zi_br {A B : Prop} {c : Bool} {C : Prop} (hc : c = true ↔ C) {t u : Nat × List Value} {P : Nat × List Value → Prop} (ha : A ↔ P t) (hb : B ↔ P u) : P (if c then t else u) ↔ ((C → A) ∧ (¬ C → B)) := by
  by_cases h : c = true
  · rw [if_pos h]
    have hC := hc.mp h
    exact ⟨fun x => ⟨fun _ => ha.mpr x, fun n => absurd hC n⟩, fun x => ha.mp (x.1 hC)⟩
  · rw [if_neg h]
    have hC : ¬ C := fun q => h (hc.mpr q)
    exact ⟨fun x => ⟨fun n => absurd n hC, fun _ => hb.mpr x⟩, fun x => hb.mp (x.2 hC)⟩
theorem zi_c2 {k : ClassFile.Cond} {a b : Int32} : zk_c2b k a b = true ↔ zk_c2 k a b := by
  cases k <;> simp [zk_c2b, zk_c2]
theorem zi_if {k : ClassFile.Cond} {off : Int} {t : Nat} {x : Int32} (hft : zk_ft y pc = some (.ifCond k off, 3)) (ht : (pc : Int) + off = (t : Int)) : zk_wp G y pc L (.int x :: st) h Q ↔ ((zk_c2 k x 0 → zk_wp G y t L st h Q) ∧ (¬ zk_c2 k x 0 → zk_wp G y (pc + 3) L st h Q)) := by
  refine (zi_jump (pc' := (if zk_c2b k x 0 then (t, st) else (pc + 3, st)).1) (st' := (if zk_c2b k x 0 then (t, st) else (pc + 3, st)).2) hft rfl rfl ?_).trans ?_
  · simp [zk_jump, zi_tg ht]
  · exact zi_br (P := fun q => zk_wp G y q.1 L q.2 h Q) zi_c2 Iff.rfl Iff.rfl
theorem zi_icmp {k : ClassFile.Cond} {off : Int} {t : Nat} {a b : Int32} (hft : zk_ft y pc = some (.if_icmp k off, 3)) (ht : (pc : Int) + off = (t : Int)) : zk_wp G y pc L (.int b :: .int a :: st) h Q ↔ ((zk_c2 k a b → zk_wp G y t L st h Q) ∧ (¬ zk_c2 k a b → zk_wp G y (pc + 3) L st h Q)) := by
  refine (zi_jump (pc' := (if zk_c2b k a b then (t, st) else (pc + 3, st)).1) (st' := (if zk_c2b k a b then (t, st) else (pc + 3, st)).2) hft rfl rfl ?_).trans ?_
  · simp [zk_jump, zi_tg ht]
  · exact zi_br (P := fun q => zk_wp G y q.1 L q.2 h Q) zi_c2 Iff.rfl Iff.rfl
theorem zi_ifnull {off : Int} {a : Nat} (hft : zk_ft y pc = some (.ifnull off, 3)) : zk_wp G y pc L (.ref a :: st) h Q ↔ zk_wp G y (pc + 3) L st h Q := zi_jump hft rfl rfl rfl
theorem zi_ifnullN {off : Int} {t : Nat} (hft : zk_ft y pc = some (.ifnull off, 3)) (ht : (pc : Int) + off = (t : Int)) : zk_wp G y pc L (.null :: st) h Q ↔ zk_wp G y t L st h Q := zi_jump hft rfl rfl (by simp [zk_jump, zi_tg ht])
theorem zi_ifnonnull {off : Int} {a t : Nat} (hft : zk_ft y pc = some (.ifnonnull off, 3)) (ht : (pc : Int) + off = (t : Int)) : zk_wp G y pc L (.ref a :: st) h Q ↔ zk_wp G y t L st h Q := zi_jump hft rfl rfl (by simp [zk_jump, zi_tg ht])
theorem zi_ifnonnullN {off : Int} (hft : zk_ft y pc = some (.ifnonnull off, 3)) : zk_wp G y pc L (.null :: st) h Q ↔ zk_wp G y (pc + 3) L st h Q := zi_jump hft rfl rfl rfl
-- ends
theorem zi_iret {v : Int32} (hft : zk_ft y pc = some (.ireturn, 1)) (hr : zk_rt y = some .int) : zk_wp G y pc L [.int v] h Q ↔ Q (some (.int v)) h := zi_ret hft rfl (by rw [hr]; rfl)
theorem zi_zret {v : Int32} (hft : zk_ft y pc = some (.ireturn, 1)) (hr : zk_rt y = some .boolean) (hv : v = 0 ∨ v = 1) : zk_wp G y pc L [.int v] h Q ↔ Q (some (.int v)) h := zi_ret hft rfl (by rw [hr]; simp [zk_ret, hv])
theorem zi_lret {v : Int64} (hft : zk_ft y pc = some (.lreturn, 1)) (hr : zk_rt y = some .long) : zk_wp G y pc L [.long v] h Q ↔ Q (some (.long v)) h := zi_ret hft rfl (by rw [hr]; rfl)
theorem zi_aret {a : Nat} {n : String} (hft : zk_ft y pc = some (.areturn, 1)) (hr : zk_rt y = some (.object n)) : zk_wp G y pc L [.ref a] h Q ↔ Q (some (.ref a)) h := zi_ret hft rfl (by rw [hr]; rfl)
theorem zi_aretN {n : String} (hft : zk_ft y pc = some (.areturn, 1)) (hr : zk_rt y = some (.object n)) : zk_wp G y pc L [.null] h Q ↔ Q (some .null) h := zi_ret hft rfl (by rw [hr]; rfl)
theorem zi_aretA {a : Nat} {t : FieldType} (hft : zk_ft y pc = some (.areturn, 1)) (hr : zk_rt y = some (.array t)) : zk_wp G y pc L [.ref a] h Q ↔ Q (some (.ref a)) h := zi_ret hft rfl (by rw [hr]; rfl)
theorem zi_vret (hft : zk_ft y pc = some (.return_, 1)) (hr : zk_rt y = none) : zk_wp G y pc L [] h Q ↔ Q none h := zi_ret hft rfl (by rw [hr]; rfl)
end ZKR
