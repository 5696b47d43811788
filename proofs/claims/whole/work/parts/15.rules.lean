/-! the rules once more, for use by a rewriting program: numbers first, then all else under a quantifier -/
theorem zu_iadd (y pc pc' : Nat) (hft : zk_ft y pc = some (.iadd, 1)) (hp : pc + 1 = pc') : ∀ (G : zk_G) (L : zk_L) (st : List Value) (h : zk_H) (Q : Option Value → zk_H → Prop) (a b : Int32), zk_wp G y pc L (.int b :: .int a :: st) h Q ↔ zk_wp G y pc' L (.int (a + b) :: st) h Q := by intros; subst hp; exact zi_iadd hft
theorem zu_isub (y pc pc' : Nat) (hft : zk_ft y pc = some (.isub, 1)) (hp : pc + 1 = pc') : ∀ (G : zk_G) (L : zk_L) (st : List Value) (h : zk_H) (Q : Option Value → zk_H → Prop) (a b : Int32), zk_wp G y pc L (.int b :: .int a :: st) h Q ↔ zk_wp G y pc' L (.int (a - b) :: st) h Q := by intros; subst hp; exact zi_isub hft
theorem zu_imul (y pc pc' : Nat) (hft : zk_ft y pc = some (.imul, 1)) (hp : pc + 1 = pc') : ∀ (G : zk_G) (L : zk_L) (st : List Value) (h : zk_H) (Q : Option Value → zk_H → Prop) (a b : Int32), zk_wp G y pc L (.int b :: .int a :: st) h Q ↔ zk_wp G y pc' L (.int (a * b) :: st) h Q := by intros; subst hp; exact zi_imul hft
theorem zu_iand (y pc pc' : Nat) (hft : zk_ft y pc = some (.iand, 1)) (hp : pc + 1 = pc') : ∀ (G : zk_G) (L : zk_L) (st : List Value) (h : zk_H) (Q : Option Value → zk_H → Prop) (a b : Int32), zk_wp G y pc L (.int b :: .int a :: st) h Q ↔ zk_wp G y pc' L (.int (a &&& b) :: st) h Q := by intros; subst hp; exact zi_iand hft
theorem zu_ior (y pc pc' : Nat) (hft : zk_ft y pc = some (.ior, 1)) (hp : pc + 1 = pc') : ∀ (G : zk_G) (L : zk_L) (st : List Value) (h : zk_H) (Q : Option Value → zk_H → Prop) (a b : Int32), zk_wp G y pc L (.int b :: .int a :: st) h Q ↔ zk_wp G y pc' L (.int (a ||| b) :: st) h Q := by intros; subst hp; exact zi_ior hft
theorem zu_ixor (y pc pc' : Nat) (hft : zk_ft y pc = some (.ixor, 1)) (hp : pc + 1 = pc') : ∀ (G : zk_G) (L : zk_L) (st : List Value) (h : zk_H) (Q : Option Value → zk_H → Prop) (a b : Int32), zk_wp G y pc L (.int b :: .int a :: st) h Q ↔ zk_wp G y pc' L (.int (a ^^^ b) :: st) h Q := by intros; subst hp; exact zi_ixor hft
theorem zu_ishl (y pc pc' : Nat) (hft : zk_ft y pc = some (.ishl, 1)) (hp : pc + 1 = pc') : ∀ (G : zk_G) (L : zk_L) (st : List Value) (h : zk_H) (Q : Option Value → zk_H → Prop) (a b : Int32), zk_wp G y pc L (.int b :: .int a :: st) h Q ↔ zk_wp G y pc' L (.int (a <<< (b &&& 31)) :: st) h Q := by intros; subst hp; exact zi_ishl hft
theorem zu_ishr (y pc pc' : Nat) (hft : zk_ft y pc = some (.ishr, 1)) (hp : pc + 1 = pc') : ∀ (G : zk_G) (L : zk_L) (st : List Value) (h : zk_H) (Q : Option Value → zk_H → Prop) (a b : Int32), zk_wp G y pc L (.int b :: .int a :: st) h Q ↔ zk_wp G y pc' L (.int (a >>> (b &&& 31)) :: st) h Q := by intros; subst hp; exact zi_ishr hft
theorem zu_iushr (y pc pc' : Nat) (hft : zk_ft y pc = some (.iushr, 1)) (hp : pc + 1 = pc') : ∀ (G : zk_G) (L : zk_L) (st : List Value) (h : zk_H) (Q : Option Value → zk_H → Prop) (a b : Int32), zk_wp G y pc L (.int b :: .int a :: st) h Q ↔ zk_wp G y pc' L (.int ((a.toUInt32 >>> (b.toUInt32 &&& Int32.toUInt32 31)).toInt32) :: st) h Q := by intros; subst hp; exact zi_iushr hft
theorem zu_ladd (y pc pc' : Nat) (hft : zk_ft y pc = some (.ladd, 1)) (hp : pc + 1 = pc') : ∀ (G : zk_G) (L : zk_L) (st : List Value) (h : zk_H) (Q : Option Value → zk_H → Prop) (a b : Int64), zk_wp G y pc L (.long b :: .long a :: st) h Q ↔ zk_wp G y pc' L (.long (a + b) :: st) h Q := by intros; subst hp; exact zi_ladd hft
theorem zu_lsub (y pc pc' : Nat) (hft : zk_ft y pc = some (.lsub, 1)) (hp : pc + 1 = pc') : ∀ (G : zk_G) (L : zk_L) (st : List Value) (h : zk_H) (Q : Option Value → zk_H → Prop) (a b : Int64), zk_wp G y pc L (.long b :: .long a :: st) h Q ↔ zk_wp G y pc' L (.long (a - b) :: st) h Q := by intros; subst hp; exact zi_lsub hft
theorem zu_land (y pc pc' : Nat) (hft : zk_ft y pc = some (.land, 1)) (hp : pc + 1 = pc') : ∀ (G : zk_G) (L : zk_L) (st : List Value) (h : zk_H) (Q : Option Value → zk_H → Prop) (a b : Int64), zk_wp G y pc L (.long b :: .long a :: st) h Q ↔ zk_wp G y pc' L (.long (a &&& b) :: st) h Q := by intros; subst hp; exact zi_land hft
theorem zu_lor (y pc pc' : Nat) (hft : zk_ft y pc = some (.lor, 1)) (hp : pc + 1 = pc') : ∀ (G : zk_G) (L : zk_L) (st : List Value) (h : zk_H) (Q : Option Value → zk_H → Prop) (a b : Int64), zk_wp G y pc L (.long b :: .long a :: st) h Q ↔ zk_wp G y pc' L (.long (a ||| b) :: st) h Q := by intros; subst hp; exact zi_lor hft
theorem zu_lxor (y pc pc' : Nat) (hft : zk_ft y pc = some (.lxor, 1)) (hp : pc + 1 = pc') : ∀ (G : zk_G) (L : zk_L) (st : List Value) (h : zk_H) (Q : Option Value → zk_H → Prop) (a b : Int64), zk_wp G y pc L (.long b :: .long a :: st) h Q ↔ zk_wp G y pc' L (.long (a ^^^ b) :: st) h Q := by intros; subst hp; exact zi_lxor hft
theorem zu_lshl (y pc pc' : Nat) (hft : zk_ft y pc = some (.lshl, 1)) (hp : pc + 1 = pc') : ∀ (G : zk_G) (L : zk_L) (st : List Value) (h : zk_H) (Q : Option Value → zk_H → Prop) (a : Int64) (b : Int32), zk_wp G y pc L (.int b :: .long a :: st) h Q ↔ zk_wp G y pc' L (.long (a <<< (b.toInt64 &&& 63)) :: st) h Q := by intros; subst hp; exact zi_lshl hft
theorem zu_lshr (y pc pc' : Nat) (hft : zk_ft y pc = some (.lshr, 1)) (hp : pc + 1 = pc') : ∀ (G : zk_G) (L : zk_L) (st : List Value) (h : zk_H) (Q : Option Value → zk_H → Prop) (a : Int64) (b : Int32), zk_wp G y pc L (.int b :: .long a :: st) h Q ↔ zk_wp G y pc' L (.long (a >>> (b.toInt64 &&& 63)) :: st) h Q := by intros; subst hp; exact zi_lshr hft
theorem zu_lushr (y pc pc' : Nat) (hft : zk_ft y pc = some (.lushr, 1)) (hp : pc + 1 = pc') : ∀ (G : zk_G) (L : zk_L) (st : List Value) (h : zk_H) (Q : Option Value → zk_H → Prop) (a : Int64) (b : Int32), zk_wp G y pc L (.int b :: .long a :: st) h Q ↔ zk_wp G y pc' L (.long ((a.toUInt64 >>> (b.toInt64.toUInt64 &&& Int64.toUInt64 63)).toInt64) :: st) h Q := by intros; subst hp; exact zi_lushr hft
theorem zu_lneg (y pc pc' : Nat) (hft : zk_ft y pc = some (.lneg, 1)) (hp : pc + 1 = pc') : ∀ (G : zk_G) (L : zk_L) (st : List Value) (h : zk_H) (Q : Option Value → zk_H → Prop) (a : Int64), zk_wp G y pc L (.long a :: st) h Q ↔ zk_wp G y pc' L (.long (-a) :: st) h Q := by intros; subst hp; exact zi_lneg hft
theorem zu_lcmp (y pc pc' : Nat) (hft : zk_ft y pc = some (.lcmp, 1)) (hp : pc + 1 = pc') : ∀ (G : zk_G) (L : zk_L) (st : List Value) (h : zk_H) (Q : Option Value → zk_H → Prop) (a b : Int64), zk_wp G y pc L (.long b :: .long a :: st) h Q ↔ zk_wp G y pc' L (.int (lg_cmp a b) :: st) h Q := by intros; subst hp; exact zi_lcmp hft
theorem zu_i2l (y pc pc' : Nat) (hft : zk_ft y pc = some (.i2l, 1)) (hp : pc + 1 = pc') : ∀ (G : zk_G) (L : zk_L) (st : List Value) (h : zk_H) (Q : Option Value → zk_H → Prop) (a : Int32), zk_wp G y pc L (.int a :: st) h Q ↔ zk_wp G y pc' L (.long a.toInt64 :: st) h Q := by intros; subst hp; exact zi_i2l hft
theorem zu_l2i (y pc pc' : Nat) (hft : zk_ft y pc = some (.l2i, 1)) (hp : pc + 1 = pc') : ∀ (G : zk_G) (L : zk_L) (st : List Value) (h : zk_H) (Q : Option Value → zk_H → Prop) (a : Int64), zk_wp G y pc L (.long a :: st) h Q ↔ zk_wp G y pc' L (.int a.toInt32 :: st) h Q := by intros; subst hp; exact zi_l2i hft
theorem zu_null (y pc pc' : Nat) (hft : zk_ft y pc = some (.aconst_null, 1)) (hp : pc + 1 = pc') : ∀ (G : zk_G) (L : zk_L) (st : List Value) (h : zk_H) (Q : Option Value → zk_H → Prop) , zk_wp G y pc L (st) h Q ↔ zk_wp G y pc' L (.null :: st) h Q := by intros; subst hp; exact zi_null hft
theorem zu_iconst (y pc pc' : Nat) (n : Int) (v : Int32) (hv : Int32.ofInt n = v) (hft : zk_ft y pc = some (.iconst n, 1)) (hp : pc + 1 = pc') : ∀ (G : zk_G) (L : zk_L) (st : List Value) (h : zk_H) (Q : Option Value → zk_H → Prop) , zk_wp G y pc L (st) h Q ↔ zk_wp G y pc' L (.int v :: st) h Q := by intros; subst hp; exact zi_iconst hft hv
theorem zu_bipush (y pc pc' : Nat) (n : Int) (v : Int32) (hv : (Int8.ofInt n).toInt32 = v) (hft : zk_ft y pc = some (.bipush n, 2)) (hp : pc + 2 = pc') : ∀ (G : zk_G) (L : zk_L) (st : List Value) (h : zk_H) (Q : Option Value → zk_H → Prop) , zk_wp G y pc L (st) h Q ↔ zk_wp G y pc' L (.int v :: st) h Q := by intros; subst hp; exact zi_bipush hft hv
theorem zu_sipush (y pc pc' : Nat) (n : Int) (v : Int32) (hv : (Int16.ofInt n).toInt32 = v) (hft : zk_ft y pc = some (.sipush n, 3)) (hp : pc + 3 = pc') : ∀ (G : zk_G) (L : zk_L) (st : List Value) (h : zk_H) (Q : Option Value → zk_H → Prop) , zk_wp G y pc L (st) h Q ↔ zk_wp G y pc' L (.int v :: st) h Q := by intros; subst hp; exact zi_sipush hft hv
theorem zu_lconst (y pc pc' : Nat) (n : Fin 2) (v : Int64) (hv : Int64.ofNat (n : Nat) = v) (hft : zk_ft y pc = some (.lconst n, 1)) (hp : pc + 1 = pc') : ∀ (G : zk_G) (L : zk_L) (st : List Value) (h : zk_H) (Q : Option Value → zk_H → Prop) , zk_wp G y pc L (st) h Q ↔ zk_wp G y pc' L (.long v :: st) h Q := by intros; subst hp; exact zi_lconst hft hv
theorem zu_ldc (y pc pc' : Nat) (i : Nat) (v : Int32) (hv : zk_ki (zk_c y) i = some v) (hft : zk_ft y pc = some (.ldc i, 2)) (hp : pc + 2 = pc') : ∀ (G : zk_G) (L : zk_L) (st : List Value) (h : zk_H) (Q : Option Value → zk_H → Prop) , zk_wp G y pc L (st) h Q ↔ zk_wp G y pc' L (.int v :: st) h Q := by intros; subst hp; exact zi_ldc hft hv
theorem zu_ldcw (y pc pc' : Nat) (i : Nat) (v : Int32) (hv : zk_ki (zk_c y) i = some v) (hft : zk_ft y pc = some (.ldc_w i, 3)) (hp : pc + 3 = pc') : ∀ (G : zk_G) (L : zk_L) (st : List Value) (h : zk_H) (Q : Option Value → zk_H → Prop) , zk_wp G y pc L (st) h Q ↔ zk_wp G y pc' L (.int v :: st) h Q := by intros; subst hp; exact zi_ldcw hft hv
theorem zu_ldc2 (y pc pc' : Nat) (i : Nat) (v : Int64) (hv : zk_kl (zk_c y) i = some v) (hft : zk_ft y pc = some (.ldc2_w i, 3)) (hp : pc + 3 = pc') : ∀ (G : zk_G) (L : zk_L) (st : List Value) (h : zk_H) (Q : Option Value → zk_H → Prop) , zk_wp G y pc L (st) h Q ↔ zk_wp G y pc' L (.long v :: st) h Q := by intros; subst hp; exact zi_ldc2 hft hv
theorem zu_idiv (y pc pc' : Nat) (hft : zk_ft y pc = some (.idiv, 1)) (hp : pc + 1 = pc') : ∀ (G : zk_G) (L : zk_L) (st : List Value) (h : zk_H) (Q : Option Value → zk_H → Prop) (a b : Int32), ¬ b = 0 → (zk_wp G y pc L (.int b :: .int a :: st) h Q ↔ zk_wp G y pc' L (.int (a / b) :: st) h Q) := by intros; subst hp; exact zi_idiv hft (by assumption)
theorem zu_irem (y pc pc' : Nat) (hft : zk_ft y pc = some (.irem, 1)) (hp : pc + 1 = pc') : ∀ (G : zk_G) (L : zk_L) (st : List Value) (h : zk_H) (Q : Option Value → zk_H → Prop) (a b : Int32), ¬ b = 0 → (zk_wp G y pc L (.int b :: .int a :: st) h Q ↔ zk_wp G y pc' L (.int (a - a / b * b) :: st) h Q) := by intros; subst hp; exact zi_irem hft (by assumption)
theorem zu_pop_i (y pc pc' : Nat) (hft : zk_ft y pc = some (.pop, 1)) (hp : pc + 1 = pc') : ∀ (G : zk_G) (L : zk_L) (st : List Value) (h : zk_H) (Q : Option Value → zk_H → Prop) (a : Int32), zk_wp G y pc L (.int a :: st) h Q ↔ zk_wp G y pc' L (st) h Q := by intros; subst hp; exact zi_pop hft rfl
theorem zu_dup_i (y pc pc' : Nat) (hft : zk_ft y pc = some (.dup, 1)) (hp : pc + 1 = pc') : ∀ (G : zk_G) (L : zk_L) (st : List Value) (h : zk_H) (Q : Option Value → zk_H → Prop) (a : Int32), zk_wp G y pc L (.int a :: st) h Q ↔ zk_wp G y pc' L (.int a :: .int a :: st) h Q := by intros; subst hp; exact zi_dup hft rfl
theorem zu_pop_r (y pc pc' : Nat) (hft : zk_ft y pc = some (.pop, 1)) (hp : pc + 1 = pc') : ∀ (G : zk_G) (L : zk_L) (st : List Value) (h : zk_H) (Q : Option Value → zk_H → Prop) (a : Nat), zk_wp G y pc L (.ref a :: st) h Q ↔ zk_wp G y pc' L (st) h Q := by intros; subst hp; exact zi_pop hft rfl
theorem zu_dup_r (y pc pc' : Nat) (hft : zk_ft y pc = some (.dup, 1)) (hp : pc + 1 = pc') : ∀ (G : zk_G) (L : zk_L) (st : List Value) (h : zk_H) (Q : Option Value → zk_H → Prop) (a : Nat), zk_wp G y pc L (.ref a :: st) h Q ↔ zk_wp G y pc' L (.ref a :: .ref a :: st) h Q := by intros; subst hp; exact zi_dup hft rfl
theorem zu_pop_n (y pc pc' : Nat) (hft : zk_ft y pc = some (.pop, 1)) (hp : pc + 1 = pc') : ∀ (G : zk_G) (L : zk_L) (st : List Value) (h : zk_H) (Q : Option Value → zk_H → Prop) , zk_wp G y pc L (.null :: st) h Q ↔ zk_wp G y pc' L (st) h Q := by intros; subst hp; exact zi_pop hft rfl
theorem zu_dup_n (y pc pc' : Nat) (hft : zk_ft y pc = some (.dup, 1)) (hp : pc + 1 = pc') : ∀ (G : zk_G) (L : zk_L) (st : List Value) (h : zk_H) (Q : Option Value → zk_H → Prop) , zk_wp G y pc L (.null :: st) h Q ↔ zk_wp G y pc' L (.null :: .null :: st) h Q := by intros; subst hp; exact zi_dup hft rfl
theorem zu_dup2 (y pc pc' : Nat) (hft : zk_ft y pc = some (.dup2, 1)) (hp : pc + 1 = pc') : ∀ (G : zk_G) (L : zk_L) (st : List Value) (h : zk_H) (Q : Option Value → zk_H → Prop) (a : Int32) (b : Nat), zk_wp G y pc L (.int a :: .ref b :: st) h Q ↔ zk_wp G y pc' L (.int a :: .ref b :: .int a :: .ref b :: st) h Q := by intros; subst hp; exact zi_dup2 hft rfl rfl
def zk_li1 (o : Option Value) (P : Int32 → Prop) : Prop := match o with
  | some (.int x) => P x
  | _ => False
def zk_ll1 (o : Option Value) (P : Int64 → Prop) : Prop := match o with
  | some (.long x) => P x
  | _ => False
def zk_la1 (o : Option Value) (P : Value → Prop) : Prop := match o with
  | some (.ref x) => P (.ref x)
  | some .null => P .null
  | _ => False
theorem zu_iload (y pc pc' : Nat) (i : Nat) (hft : zk_ft y pc = some (.iload i, 2)) (hp : pc + 2 = pc') : ∀ (G : zk_G) (L : zk_L) (st : List Value) (h : zk_H) (Q : Option Value → zk_H → Prop), zk_wp G y pc L st h Q ↔ zk_li1 (zk_lget L i) (fun v => zk_wp G y pc' L (.int v :: st) h Q) := by
  intro G L st h Q
  subst hp
  rw [zk_wp_iff hft]
  show zk_wpI G y (.iload i) 2 pc L st h Q ↔ _
  have e1 : zk_pure (.iload i) L st = zk_ldi L st i := rfl
  unfold zk_wpI
  show (match zk_pure (.iload i) L st with
    | some (L', st') => 2 = zk_len (.iload i) ∧ zk_wp G y (pc + 2) L' st' h Q
    | none => False) ↔ _
  rw [e1]
  unfold zk_ldi zk_li1
  cases zk_lget L i with
  | none => exact Iff.rfl
  | some v =>
    cases v <;> first | exact Iff.rfl | exact ⟨And.right, And.intro rfl⟩
theorem zu_iload_n (y pc pc' : Nat) (k : Fin 4) (i : Nat) (hk : (k : Nat) = i) (hft : zk_ft y pc = some (.iload_n k, 1)) (hp : pc + 1 = pc') : ∀ (G : zk_G) (L : zk_L) (st : List Value) (h : zk_H) (Q : Option Value → zk_H → Prop), zk_wp G y pc L st h Q ↔ zk_li1 (zk_lget L i) (fun v => zk_wp G y pc' L (.int v :: st) h Q) := by
  intro G L st h Q
  subst hp
  subst hk
  rw [zk_wp_iff hft]
  show zk_wpI G y (.iload_n k) 1 pc L st h Q ↔ _
  have e1 : zk_pure (.iload_n k) L st = zk_ldi L st (k : Nat) := rfl
  unfold zk_wpI
  show (match zk_pure (.iload_n k) L st with
    | some (L', st') => 1 = zk_len (.iload_n k) ∧ zk_wp G y (pc + 1) L' st' h Q
    | none => False) ↔ _
  rw [e1]
  unfold zk_ldi zk_li1
  cases zk_lget L (k : Nat) with
  | none => exact Iff.rfl
  | some v =>
    cases v <;> first | exact Iff.rfl | exact ⟨And.right, And.intro rfl⟩
theorem zu_lload (y pc pc' : Nat) (i : Nat) (hft : zk_ft y pc = some (.lload i, 2)) (hp : pc + 2 = pc') : ∀ (G : zk_G) (L : zk_L) (st : List Value) (h : zk_H) (Q : Option Value → zk_H → Prop), zk_wp G y pc L st h Q ↔ zk_ll1 (zk_lget L i) (fun v => zk_wp G y pc' L (.long v :: st) h Q) := by
  intro G L st h Q
  subst hp
  rw [zk_wp_iff hft]
  show zk_wpI G y (.lload i) 2 pc L st h Q ↔ _
  have e1 : zk_pure (.lload i) L st = zk_ldl L st i := rfl
  unfold zk_wpI
  show (match zk_pure (.lload i) L st with
    | some (L', st') => 2 = zk_len (.lload i) ∧ zk_wp G y (pc + 2) L' st' h Q
    | none => False) ↔ _
  rw [e1]
  unfold zk_ldl zk_ll1
  cases zk_lget L i with
  | none => exact Iff.rfl
  | some v =>
    cases v <;> first | exact Iff.rfl | exact ⟨And.right, And.intro rfl⟩
theorem zu_lload_n (y pc pc' : Nat) (k : Fin 4) (i : Nat) (hk : (k : Nat) = i) (hft : zk_ft y pc = some (.lload_n k, 1)) (hp : pc + 1 = pc') : ∀ (G : zk_G) (L : zk_L) (st : List Value) (h : zk_H) (Q : Option Value → zk_H → Prop), zk_wp G y pc L st h Q ↔ zk_ll1 (zk_lget L i) (fun v => zk_wp G y pc' L (.long v :: st) h Q) := by
  intro G L st h Q
  subst hp
  subst hk
  rw [zk_wp_iff hft]
  show zk_wpI G y (.lload_n k) 1 pc L st h Q ↔ _
  have e1 : zk_pure (.lload_n k) L st = zk_ldl L st (k : Nat) := rfl
  unfold zk_wpI
  show (match zk_pure (.lload_n k) L st with
    | some (L', st') => 1 = zk_len (.lload_n k) ∧ zk_wp G y (pc + 1) L' st' h Q
    | none => False) ↔ _
  rw [e1]
  unfold zk_ldl zk_ll1
  cases zk_lget L (k : Nat) with
  | none => exact Iff.rfl
  | some v =>
    cases v <;> first | exact Iff.rfl | exact ⟨And.right, And.intro rfl⟩
theorem zu_aload (y pc pc' : Nat) (i : Nat) (hft : zk_ft y pc = some (.aload i, 2)) (hp : pc + 2 = pc') : ∀ (G : zk_G) (L : zk_L) (st : List Value) (h : zk_H) (Q : Option Value → zk_H → Prop), zk_wp G y pc L st h Q ↔ zk_la1 (zk_lget L i) (fun v => zk_wp G y pc' L (v :: st) h Q) := by
  intro G L st h Q
  subst hp
  rw [zk_wp_iff hft]
  show zk_wpI G y (.aload i) 2 pc L st h Q ↔ _
  have e1 : zk_pure (.aload i) L st = zk_lda L st i := rfl
  unfold zk_wpI
  show (match zk_pure (.aload i) L st with
    | some (L', st') => 2 = zk_len (.aload i) ∧ zk_wp G y (pc + 2) L' st' h Q
    | none => False) ↔ _
  rw [e1]
  unfold zk_lda zk_la1
  cases zk_lget L i with
  | none => exact Iff.rfl
  | some v =>
    cases v <;> first | exact Iff.rfl | exact ⟨And.right, And.intro rfl⟩
theorem zu_aload_n (y pc pc' : Nat) (k : Fin 4) (i : Nat) (hk : (k : Nat) = i) (hft : zk_ft y pc = some (.aload_n k, 1)) (hp : pc + 1 = pc') : ∀ (G : zk_G) (L : zk_L) (st : List Value) (h : zk_H) (Q : Option Value → zk_H → Prop), zk_wp G y pc L st h Q ↔ zk_la1 (zk_lget L i) (fun v => zk_wp G y pc' L (v :: st) h Q) := by
  intro G L st h Q
  subst hp
  subst hk
  rw [zk_wp_iff hft]
  show zk_wpI G y (.aload_n k) 1 pc L st h Q ↔ _
  have e1 : zk_pure (.aload_n k) L st = zk_lda L st (k : Nat) := rfl
  unfold zk_wpI
  show (match zk_pure (.aload_n k) L st with
    | some (L', st') => 1 = zk_len (.aload_n k) ∧ zk_wp G y (pc + 1) L' st' h Q
    | none => False) ↔ _
  rw [e1]
  unfold zk_lda zk_la1
  cases zk_lget L (k : Nat) with
  | none => exact Iff.rfl
  | some v =>
    cases v <;> first | exact Iff.rfl | exact ⟨And.right, And.intro rfl⟩
theorem zu_istore (y pc pc' : Nat) (i : Nat) (hft : zk_ft y pc = some (.istore i, 2)) (hp : pc + 2 = pc') : ∀ (G : zk_G) (L : zk_L) (st : List Value) (h : zk_H) (Q : Option Value → zk_H → Prop) (a : Int32), i < L.length → (zk_wp G y pc L (.int a :: st) h Q ↔ zk_wp G y pc' (zk_l1 L i (.int a)) st h Q) := by intro G L st h Q a hi; subst hp; exact zi_istore hft hi
theorem zu_istore_n (y pc pc' : Nat) (k : Fin 4) (i : Nat) (hk : (k : Nat) = i) (hft : zk_ft y pc = some (.istore_n k, 1)) (hp : pc + 1 = pc') : ∀ (G : zk_G) (L : zk_L) (st : List Value) (h : zk_H) (Q : Option Value → zk_H → Prop) (a : Int32), i < L.length → (zk_wp G y pc L (.int a :: st) h Q ↔ zk_wp G y pc' (zk_l1 L i (.int a)) st h Q) := by intro G L st h Q a hi; subst hp; subst hk; exact zi_istore_n hft hi
theorem zu_lstore (y pc pc' : Nat) (i : Nat) (hft : zk_ft y pc = some (.lstore i, 2)) (hp : pc + 2 = pc') : ∀ (G : zk_G) (L : zk_L) (st : List Value) (h : zk_H) (Q : Option Value → zk_H → Prop) (a : Int64), i + 1 < L.length → (zk_wp G y pc L (.long a :: st) h Q ↔ zk_wp G y pc' (zk_l2 L i (.long a)) st h Q) := by intro G L st h Q a hi; subst hp; exact zi_lstore hft hi
theorem zu_lstore_n (y pc pc' : Nat) (k : Fin 4) (i : Nat) (hk : (k : Nat) = i) (hft : zk_ft y pc = some (.lstore_n k, 1)) (hp : pc + 1 = pc') : ∀ (G : zk_G) (L : zk_L) (st : List Value) (h : zk_H) (Q : Option Value → zk_H → Prop) (a : Int64), i + 1 < L.length → (zk_wp G y pc L (.long a :: st) h Q ↔ zk_wp G y pc' (zk_l2 L i (.long a)) st h Q) := by intro G L st h Q a hi; subst hp; subst hk; exact zi_lstore_n hft hi
theorem zu_astore (y pc pc' : Nat) (i : Nat) (hft : zk_ft y pc = some (.astore i, 2)) (hp : pc + 2 = pc') : ∀ (G : zk_G) (L : zk_L) (st : List Value) (h : zk_H) (Q : Option Value → zk_H → Prop) (a : Nat), i < L.length → (zk_wp G y pc L (.ref a :: st) h Q ↔ zk_wp G y pc' (zk_l1 L i (.ref a)) st h Q) := by intro G L st h Q a hi; subst hp; exact zi_astore hft hi
theorem zu_astoreN (y pc pc' : Nat) (i : Nat) (hft : zk_ft y pc = some (.astore i, 2)) (hp : pc + 2 = pc') : ∀ (G : zk_G) (L : zk_L) (st : List Value) (h : zk_H) (Q : Option Value → zk_H → Prop), i < L.length → (zk_wp G y pc L (.null :: st) h Q ↔ zk_wp G y pc' (zk_l1 L i .null) st h Q) := by intro G L st h Q hi; subst hp; exact zi_astoreN hft hi
theorem zu_astore_n (y pc pc' : Nat) (k : Fin 4) (i : Nat) (hk : (k : Nat) = i) (hft : zk_ft y pc = some (.astore_n k, 1)) (hp : pc + 1 = pc') : ∀ (G : zk_G) (L : zk_L) (st : List Value) (h : zk_H) (Q : Option Value → zk_H → Prop) (a : Nat), i < L.length → (zk_wp G y pc L (.ref a :: st) h Q ↔ zk_wp G y pc' (zk_l1 L i (.ref a)) st h Q) := by intro G L st h Q a hi; subst hp; subst hk; exact zi_astore_n hft hi
theorem zu_astore_nN (y pc pc' : Nat) (k : Fin 4) (i : Nat) (hk : (k : Nat) = i) (hft : zk_ft y pc = some (.astore_n k, 1)) (hp : pc + 1 = pc') : ∀ (G : zk_G) (L : zk_L) (st : List Value) (h : zk_H) (Q : Option Value → zk_H → Prop), i < L.length → (zk_wp G y pc L (.null :: st) h Q ↔ zk_wp G y pc' (zk_l1 L i .null) st h Q) := by intro G L st h Q hi; subst hp; subst hk; exact zi_astore_nN hft hi
theorem zu_iinc (y pc pc' : Nat) (i : Nat) (n : Int) (k : Int32) (hk : Int32.ofInt n = k) (hft : zk_ft y pc = some (.iinc i n, 3)) (hp : pc + 3 = pc') : ∀ (G : zk_G) (L : zk_L) (st : List Value) (h : zk_H) (Q : Option Value → zk_H → Prop), zk_wp G y pc L st h Q ↔ zk_li1 (zk_lget L i) (fun v => zk_wp G y pc' (zk_l1 L i (.int (v + k))) st h Q) := by
  intro G L st h Q
  subst hp
  cases hg : zk_lget L i with
  | none =>
    rw [zk_wp_iff hft]
    unfold zk_wpI
    show (match zk_pure (.iinc i n) L st with
    | some (L', st') => 3 = zk_len (.iinc i n) ∧ zk_wp G y (pc + 3) L' st' h Q
    | none => False) ↔ _
    simp [zk_pure, hg, zk_li1]
  | some v =>
    cases v
    case int x => exact zi_iinc hft hk hg
    all_goals
      rw [zk_wp_iff hft]
      unfold zk_wpI
      show (match zk_pure (.iinc i n) L st with
      | some (L', st') => 3 = zk_len (.iinc i n) ∧ zk_wp G y (pc + 3) L' st' h Q
      | none => False) ↔ _
      simp [zk_pure, hg, zk_li1]
theorem zu_goto (y pc pc' : Nat) (off : Int) (hft : zk_ft y pc = some (.goto off, 3)) (hp : (pc : Int) + off = (pc' : Int)) : ∀ (G : zk_G) (L : zk_L) (st : List Value) (h : zk_H) (Q : Option Value → zk_H → Prop), zk_wp G y pc L st h Q ↔ zk_wp G y pc' L st h Q := by intros; exact zi_goto hft hp
theorem zu_icmp_eq (y pc t pc' : Nat) (off : Int) (hft : zk_ft y pc = some (.if_icmp .eq off, 3)) (ht : (pc : Int) + off = (t : Int)) (hp : pc + 3 = pc') : ∀ (G : zk_G) (L : zk_L) (st : List Value) (h : zk_H) (Q : Option Value → zk_H → Prop) (a b : Int32), zk_wp G y pc L (.int b :: .int a :: st) h Q ↔ ((a = b → zk_wp G y t L st h Q) ∧ (¬ (a = b) → zk_wp G y pc' L st h Q)) := by intro G L st h Q a b; subst hp; exact zi_icmp hft ht
theorem zu_if_eq (y pc t pc' : Nat) (off : Int) (hft : zk_ft y pc = some (.ifCond .eq off, 3)) (ht : (pc : Int) + off = (t : Int)) (hp : pc + 3 = pc') : ∀ (G : zk_G) (L : zk_L) (st : List Value) (h : zk_H) (Q : Option Value → zk_H → Prop) (a : Int32), zk_wp G y pc L (.int a :: st) h Q ↔ ((a = 0 → zk_wp G y t L st h Q) ∧ (¬ (a = 0) → zk_wp G y pc' L st h Q)) := by intro G L st h Q a; subst hp; exact zi_if hft ht
theorem zu_icmp_ne (y pc t pc' : Nat) (off : Int) (hft : zk_ft y pc = some (.if_icmp .ne off, 3)) (ht : (pc : Int) + off = (t : Int)) (hp : pc + 3 = pc') : ∀ (G : zk_G) (L : zk_L) (st : List Value) (h : zk_H) (Q : Option Value → zk_H → Prop) (a b : Int32), zk_wp G y pc L (.int b :: .int a :: st) h Q ↔ ((¬ a = b → zk_wp G y t L st h Q) ∧ (a = b → zk_wp G y pc' L st h Q)) := by intro G L st h Q a b; subst hp; refine (zi_icmp hft ht).trans ?_; show ((¬ a = b → _) ∧ (¬ ¬ a = b → _)) ↔ _; rw [Decidable.not_not]
theorem zu_if_ne (y pc t pc' : Nat) (off : Int) (hft : zk_ft y pc = some (.ifCond .ne off, 3)) (ht : (pc : Int) + off = (t : Int)) (hp : pc + 3 = pc') : ∀ (G : zk_G) (L : zk_L) (st : List Value) (h : zk_H) (Q : Option Value → zk_H → Prop) (a : Int32), zk_wp G y pc L (.int a :: st) h Q ↔ ((¬ a = 0 → zk_wp G y t L st h Q) ∧ (a = 0 → zk_wp G y pc' L st h Q)) := by intro G L st h Q a; subst hp; refine (zi_if hft ht).trans ?_; show ((¬ a = 0 → _) ∧ (¬ ¬ a = 0 → _)) ↔ _; rw [Decidable.not_not]
theorem zu_icmp_lt (y pc t pc' : Nat) (off : Int) (hft : zk_ft y pc = some (.if_icmp .lt off, 3)) (ht : (pc : Int) + off = (t : Int)) (hp : pc + 3 = pc') : ∀ (G : zk_G) (L : zk_L) (st : List Value) (h : zk_H) (Q : Option Value → zk_H → Prop) (a b : Int32), zk_wp G y pc L (.int b :: .int a :: st) h Q ↔ ((a < b → zk_wp G y t L st h Q) ∧ (¬ (a < b) → zk_wp G y pc' L st h Q)) := by intro G L st h Q a b; subst hp; exact zi_icmp hft ht
theorem zu_if_lt (y pc t pc' : Nat) (off : Int) (hft : zk_ft y pc = some (.ifCond .lt off, 3)) (ht : (pc : Int) + off = (t : Int)) (hp : pc + 3 = pc') : ∀ (G : zk_G) (L : zk_L) (st : List Value) (h : zk_H) (Q : Option Value → zk_H → Prop) (a : Int32), zk_wp G y pc L (.int a :: st) h Q ↔ ((a < 0 → zk_wp G y t L st h Q) ∧ (¬ (a < 0) → zk_wp G y pc' L st h Q)) := by intro G L st h Q a; subst hp; exact zi_if hft ht
theorem zu_icmp_ge (y pc t pc' : Nat) (off : Int) (hft : zk_ft y pc = some (.if_icmp .ge off, 3)) (ht : (pc : Int) + off = (t : Int)) (hp : pc + 3 = pc') : ∀ (G : zk_G) (L : zk_L) (st : List Value) (h : zk_H) (Q : Option Value → zk_H → Prop) (a b : Int32), zk_wp G y pc L (.int b :: .int a :: st) h Q ↔ ((b ≤ a → zk_wp G y t L st h Q) ∧ (¬ (b ≤ a) → zk_wp G y pc' L st h Q)) := by intro G L st h Q a b; subst hp; exact zi_icmp hft ht
theorem zu_if_ge (y pc t pc' : Nat) (off : Int) (hft : zk_ft y pc = some (.ifCond .ge off, 3)) (ht : (pc : Int) + off = (t : Int)) (hp : pc + 3 = pc') : ∀ (G : zk_G) (L : zk_L) (st : List Value) (h : zk_H) (Q : Option Value → zk_H → Prop) (a : Int32), zk_wp G y pc L (.int a :: st) h Q ↔ ((0 ≤ a → zk_wp G y t L st h Q) ∧ (¬ (0 ≤ a) → zk_wp G y pc' L st h Q)) := by intro G L st h Q a; subst hp; exact zi_if hft ht
theorem zu_icmp_gt (y pc t pc' : Nat) (off : Int) (hft : zk_ft y pc = some (.if_icmp .gt off, 3)) (ht : (pc : Int) + off = (t : Int)) (hp : pc + 3 = pc') : ∀ (G : zk_G) (L : zk_L) (st : List Value) (h : zk_H) (Q : Option Value → zk_H → Prop) (a b : Int32), zk_wp G y pc L (.int b :: .int a :: st) h Q ↔ ((b < a → zk_wp G y t L st h Q) ∧ (¬ (b < a) → zk_wp G y pc' L st h Q)) := by intro G L st h Q a b; subst hp; exact zi_icmp hft ht
theorem zu_if_gt (y pc t pc' : Nat) (off : Int) (hft : zk_ft y pc = some (.ifCond .gt off, 3)) (ht : (pc : Int) + off = (t : Int)) (hp : pc + 3 = pc') : ∀ (G : zk_G) (L : zk_L) (st : List Value) (h : zk_H) (Q : Option Value → zk_H → Prop) (a : Int32), zk_wp G y pc L (.int a :: st) h Q ↔ ((0 < a → zk_wp G y t L st h Q) ∧ (¬ (0 < a) → zk_wp G y pc' L st h Q)) := by intro G L st h Q a; subst hp; exact zi_if hft ht
theorem zu_icmp_le (y pc t pc' : Nat) (off : Int) (hft : zk_ft y pc = some (.if_icmp .le off, 3)) (ht : (pc : Int) + off = (t : Int)) (hp : pc + 3 = pc') : ∀ (G : zk_G) (L : zk_L) (st : List Value) (h : zk_H) (Q : Option Value → zk_H → Prop) (a b : Int32), zk_wp G y pc L (.int b :: .int a :: st) h Q ↔ ((a ≤ b → zk_wp G y t L st h Q) ∧ (¬ (a ≤ b) → zk_wp G y pc' L st h Q)) := by intro G L st h Q a b; subst hp; exact zi_icmp hft ht
theorem zu_if_le (y pc t pc' : Nat) (off : Int) (hft : zk_ft y pc = some (.ifCond .le off, 3)) (ht : (pc : Int) + off = (t : Int)) (hp : pc + 3 = pc') : ∀ (G : zk_G) (L : zk_L) (st : List Value) (h : zk_H) (Q : Option Value → zk_H → Prop) (a : Int32), zk_wp G y pc L (.int a :: st) h Q ↔ ((a ≤ 0 → zk_wp G y t L st h Q) ∧ (¬ (a ≤ 0) → zk_wp G y pc' L st h Q)) := by intro G L st h Q a; subst hp; exact zi_if hft ht
theorem zu_ifnull (y pc pc' : Nat) (off : Int) (hft : zk_ft y pc = some (.ifnull off, 3)) (hp : pc + 3 = pc') : ∀ (G : zk_G) (L : zk_L) (st : List Value) (h : zk_H) (Q : Option Value → zk_H → Prop) (a : Nat), zk_wp G y pc L (.ref a :: st) h Q ↔ zk_wp G y pc' L st h Q := by intros; subst hp; exact zi_ifnull hft
theorem zu_ifnullN (y pc pc' : Nat) (off : Int) (hft : zk_ft y pc = some (.ifnull off, 3)) (hp : (pc : Int) + off = (pc' : Int)) : ∀ (G : zk_G) (L : zk_L) (st : List Value) (h : zk_H) (Q : Option Value → zk_H → Prop), zk_wp G y pc L (.null :: st) h Q ↔ zk_wp G y pc' L st h Q := by intros; exact zi_ifnullN hft hp
theorem zu_ifnonnull (y pc pc' : Nat) (off : Int) (hft : zk_ft y pc = some (.ifnonnull off, 3)) (hp : (pc : Int) + off = (pc' : Int)) : ∀ (G : zk_G) (L : zk_L) (st : List Value) (h : zk_H) (Q : Option Value → zk_H → Prop) (a : Nat), zk_wp G y pc L (.ref a :: st) h Q ↔ zk_wp G y pc' L st h Q := by intros; exact zi_ifnonnull hft hp
theorem zu_ifnonnullN (y pc pc' : Nat) (off : Int) (hft : zk_ft y pc = some (.ifnonnull off, 3)) (hp : pc + 3 = pc') : ∀ (G : zk_G) (L : zk_L) (st : List Value) (h : zk_H) (Q : Option Value → zk_H → Prop), zk_wp G y pc L (.null :: st) h Q ↔ zk_wp G y pc' L st h Q := by intros; subst hp; exact zi_ifnonnullN hft
theorem zu_iret (y pc : Nat) (hft : zk_ft y pc = some (.ireturn, 1)) (hr : zk_rt y = some .int) : ∀ (G : zk_G) (L : zk_L) (h : zk_H) (Q : Option Value → zk_H → Prop) (v : Int32), zk_wp G y pc L [.int v] h Q ↔ Q (some (.int v)) h := by intros; exact zi_iret hft hr
theorem zu_zret (y pc : Nat) (hft : zk_ft y pc = some (.ireturn, 1)) (hr : zk_rt y = some .boolean) : ∀ (G : zk_G) (L : zk_L) (h : zk_H) (Q : Option Value → zk_H → Prop) (v : Int32), zk_wp G y pc L [.int v] h Q ↔ ((v = 0 ∨ v = 1) ∧ Q (some (.int v)) h) := by
  intro G L h Q v
  by_cases hv : v = 0 ∨ v = 1
  · exact (zi_zret hft hr hv).trans ⟨fun q => ⟨hv, q⟩, And.right⟩
  · rw [zk_wp_iff hft]
    unfold zk_wpI
    rw [hr]
    simp [zk_inv, zk_ret, hv, zk_jump, zk_heap, zk_pure]
theorem zu_lret (y pc : Nat) (hft : zk_ft y pc = some (.lreturn, 1)) (hr : zk_rt y = some .long) : ∀ (G : zk_G) (L : zk_L) (h : zk_H) (Q : Option Value → zk_H → Prop) (v : Int64), zk_wp G y pc L [.long v] h Q ↔ Q (some (.long v)) h := by intros; exact zi_lret hft hr
theorem zu_aret (y pc : Nat) (n : String) (hft : zk_ft y pc = some (.areturn, 1)) (hr : zk_rt y = some (.object n)) : ∀ (G : zk_G) (L : zk_L) (h : zk_H) (Q : Option Value → zk_H → Prop) (a : Nat), zk_wp G y pc L [.ref a] h Q ↔ Q (some (.ref a)) h := by intros; exact zi_aret hft hr
theorem zu_aretN (y pc : Nat) (n : String) (hft : zk_ft y pc = some (.areturn, 1)) (hr : zk_rt y = some (.object n)) : ∀ (G : zk_G) (L : zk_L) (h : zk_H) (Q : Option Value → zk_H → Prop), zk_wp G y pc L [.null] h Q ↔ Q (some .null) h := by intros; exact zi_aretN hft hr
theorem zu_aretA (y pc : Nat) (t : FieldType) (hft : zk_ft y pc = some (.areturn, 1)) (hr : zk_rt y = some (.array t)) : ∀ (G : zk_G) (L : zk_L) (h : zk_H) (Q : Option Value → zk_H → Prop) (a : Nat), zk_wp G y pc L [.ref a] h Q ↔ Q (some (.ref a)) h := by intros; exact zi_aretA hft hr
theorem zu_vret (y pc : Nat) (hft : zk_ft y pc = some (.return_, 1)) (hr : zk_rt y = none) : ∀ (G : zk_G) (L : zk_L) (h : zk_H) (Q : Option Value → zk_H → Prop), zk_wp G y pc L [] h Q ↔ Q none h := by intros; exact zi_vret hft hr
