/-! A SMALL MACHINE over the claim's own tables: a function of fuel. Its runs are runs of the JVM (part 04). -/
abbrev zk_E : Type := (Nat × vp_A) ⊕ (Nat × List Value)
abbrev zk_H : Type := List zk_E × Nat
/-- the ground: the first own address; arrays that are only read; where the arrays of the statics lie -/
abbrev zk_G : Type := Nat × (Nat → Option (Nat × vp_A)) × (Nat → Nat)
abbrev zk_L : Type := List (Option Value)
def zk_rd (G : zk_G) (h : zk_H) (a : Nat) : Option zk_E := if a < G.1 then none else h.1[a - G.1]?
def zk_wr (G : zk_G) (h : zk_H) (a : Nat) (e : zk_E) : zk_H := (h.1.set (a - G.1) e, h.2)
def zk_nx (G : zk_G) (h : zk_H) : Nat := G.1 + h.1.length
def zk_al (h : zk_H) (e : zk_E) (n : Nat) : zk_H := (h.1 ++ [e], h.2 + n)
def zk_ar (G : zk_G) (h : zk_H) (a : Nat) : Option (Nat × vp_A) := if a < G.1 then G.2.1 a else match h.1[a - G.1]? with
  | some (.inl x) => some x
  | _ => none
-- methods
def zk_row (y : Nat) : zk_Row := zk_MT.getD y zk_r0
def zk_bc (y : Nat) : ByteArray := (zk_row y).2.1
def zk_ml (y : Nat) : Nat := (zk_row y).2.2.1
def zk_rt (y : Nat) : Option FieldType := (zk_row y).2.2.2.1
def zk_c (y : Nat) : Nat := (zk_row y).2.2.2.2.1
def zk_na (y : Nat) : Nat := (zk_row y).2.2.2.2.2.1
def zk_lev (y : Nat) : Nat := (zk_row y).2.2.2.2.2.2
def zk_ini (y : Nat) : Bool := (zk_row y).1.name == "<init>"
def zk_ft (y pc : Nat) : Option (Instr × Nat) := match decode (zk_bc y) pc with
  | .ok q => some q
  | .error _ => none
def zk_fl (c i : Nat) : Option (Bool × Nat × Nat) := (zk_FL.find? (fun q => q.1 == c && q.2.1 == i)).map (fun q => (q.2.2.1, q.2.2.2.1, q.2.2.2.2.1))
def zk_mk (c i : Nat) : Option (Nat × Nat) := (zk_ML.find? (fun q => q.1 == c && q.2.1 == i)).map (fun q => (q.2.2.1, q.2.2.2.1))
def zk_ob (c i : Nat) : Bool := (zk_OL.find? (fun q => q.1 == c && q.2.1 == i)).isSome
def zk_ki (c i : Nat) : Option Int32 := (zk_KI.find? (fun q => q.1 == c && q.2.1 == i)).map (fun q => q.2.2.1)
def zk_kl (c i : Nat) : Option Int64 := (zk_KL.find? (fun q => q.1 == c && q.2.1 == i)).map (fun q => q.2.2.1)
def zk_kc (c i : Nat) : Option Nat := (zk_KC.find? (fun q => q.1 == c && q.2.1 == i)).map (fun q => q.2.2.1)
-- arrays: 0 int, 1 long, 2 boolean, 3 Job, 4 Letter, 5 Register, 6 Zone
def zk_ac (t : Nat) : Nat := match t with
  | 3 => 0
  | 4 => 1
  | 5 => 3
  | _ => 7
def zk_at (ci : Nat) : Option Nat := match ci with
  | 0 => some 3
  | 1 => some 4
  | 3 => some 5
  | 7 => some 6
  | _ => none
-- locals
def zk_lget (L : zk_L) (i : Nat) : Option Value := match L[i]? with
  | some (some v) => some v
  | _ => none
def zk_cl (L : zk_L) (i : Nat) : zk_L := match i with
  | 0 => L
  | j + 1 => match zk_lget L j with
    | some v => if v.category = 2 then L.set j none else L
    | none => L
def zk_l1 (L : zk_L) (i : Nat) (v : Value) : zk_L := (zk_cl L i).set i (some v)
def zk_l2 (L : zk_L) (i : Nat) (v : Value) : zk_L := ((zk_cl L i).set i (some v)).set (i + 1) none
def zk_ldi (L : zk_L) (st : List Value) (i : Nat) : Option (zk_L × List Value) := match zk_lget L i with
  | some (.int x) => some (L, .int x :: st)
  | _ => none
def zk_ldl (L : zk_L) (st : List Value) (i : Nat) : Option (zk_L × List Value) := match zk_lget L i with
  | some (.long x) => some (L, .long x :: st)
  | _ => none
def zk_lda (L : zk_L) (st : List Value) (i : Nat) : Option (zk_L × List Value) := match zk_lget L i with
  | some (.ref x) => some (L, .ref x :: st)
  | some .null => some (L, .null :: st)
  | _ => none
def zk_sti (L : zk_L) (st : List Value) (i : Nat) : Option (zk_L × List Value) := match st with
  | .int x :: r => if i < L.length then some (zk_l1 L i (.int x), r) else none
  | _ => none
def zk_stl (L : zk_L) (st : List Value) (i : Nat) : Option (zk_L × List Value) := match st with
  | .long x :: r => if i + 1 < L.length then some (zk_l2 L i (.long x), r) else none
  | _ => none
def zk_sta (L : zk_L) (st : List Value) (i : Nat) : Option (zk_L × List Value) := match st with
  | .ref x :: r => if i < L.length then some (zk_l1 L i (.ref x), r) else none
  | .null :: r => if i < L.length then some (zk_l1 L i .null, r) else none
  | _ => none
def zk_ii (f : Int32 → Int32 → Int32) (L : zk_L) (st : List Value) : Option (zk_L × List Value) := match st with
  | .int y :: .int x :: r => some (L, .int (f x y) :: r)
  | _ => none
def zk_id (f : Int32 → Int32 → Int32) (L : zk_L) (st : List Value) : Option (zk_L × List Value) := match st with
  | .int y :: .int x :: r => if y = 0 then none else some (L, .int (f x y) :: r)
  | _ => none
def zk_ll (f : Int64 → Int64 → Int64) (L : zk_L) (st : List Value) : Option (zk_L × List Value) := match st with
  | .long y :: .long x :: r => some (L, .long (f x y) :: r)
  | _ => none
def zk_li (f : Int64 → Int32 → Int64) (L : zk_L) (st : List Value) : Option (zk_L × List Value) := match st with
  | .int y :: .long x :: r => some (L, .long (f x y) :: r)
  | _ => none
def zk_len (ins : Instr) : Nat := match ins with
  | .bipush _ | .iload _ | .lload _ | .aload _ | .istore _ | .lstore _ | .astore _ | .newarray _ | .ldc _ => 2
  | .sipush _ | .iinc _ _ | .getfield _ | .putfield _ | .getstatic _ | .new _ | .anewarray _ | .ldc_w _ | .ldc2_w _ | .invokespecial _ | .invokestatic _ | .invokevirtual _ => 3
  | _ => 1
def zk_pure (ins : Instr) (L : zk_L) (st : List Value) : Option (zk_L × List Value) := match ins with
  | .aconst_null => some (L, .null :: st)
  | .iconst n => some (L, .int (Int32.ofInt n) :: st)
  | .bipush n => some (L, .int (Int8.ofInt n).toInt32 :: st)
  | .sipush n => some (L, .int (Int16.ofInt n).toInt32 :: st)
  | .lconst n => some (L, .long (Int64.ofNat (n : Nat)) :: st)
  | .iload i => zk_ldi L st i
  | .iload_n k => zk_ldi L st (k : Nat)
  | .lload i => zk_ldl L st i
  | .lload_n k => zk_ldl L st (k : Nat)
  | .aload i => zk_lda L st i
  | .aload_n k => zk_lda L st (k : Nat)
  | .istore i => zk_sti L st i
  | .istore_n k => zk_sti L st (k : Nat)
  | .lstore i => zk_stl L st i
  | .lstore_n k => zk_stl L st (k : Nat)
  | .astore i => zk_sta L st i
  | .astore_n k => zk_sta L st (k : Nat)
  | .iinc i n => match zk_lget L i with
    | some (.int x) => some (zk_l1 L i (.int (x + Int32.ofInt n)), st)
    | _ => none
  | .pop => match st with
    | v :: r => if v.category = 1 then some (L, r) else none
    | _ => none
  | .dup => match st with
    | v :: r => if v.category = 1 then some (L, v :: v :: r) else none
    | _ => none
  | .dup2 => match st with
    | v :: w :: r => if v.category = 1 then (if w.category = 1 then some (L, v :: w :: v :: w :: r) else none) else none
    | _ => none
  | .iadd => zk_ii (fun x y => x + y) L st
  | .isub => zk_ii (fun x y => x - y) L st
  | .imul => zk_ii (fun x y => x * y) L st
  | .iand => zk_ii (fun x y => x &&& y) L st
  | .ior => zk_ii (fun x y => x ||| y) L st
  | .ixor => zk_ii (fun x y => x ^^^ y) L st
  | .idiv => zk_id (fun x y => x / y) L st
  | .irem => zk_id (fun x y => x - x / y * y) L st
  | .ishl => zk_ii (fun x y => x <<< (y &&& 31)) L st
  | .ishr => zk_ii (fun x y => x >>> (y &&& 31)) L st
  | .iushr => zk_ii (fun x y => (x.toUInt32 >>> (y.toUInt32 &&& Int32.toUInt32 31)).toInt32) L st
  | .ladd => zk_ll (fun x y => x + y) L st
  | .lsub => zk_ll (fun x y => x - y) L st
  | .land => zk_ll (fun x y => x &&& y) L st
  | .lor => zk_ll (fun x y => x ||| y) L st
  | .lxor => zk_ll (fun x y => x ^^^ y) L st
  | .lneg => match st with
    | .long x :: r => some (L, .long (-x) :: r)
    | _ => none
  | .lshl => zk_li (fun x y => x <<< (y.toInt64 &&& 63)) L st
  | .lshr => zk_li (fun x y => x >>> (y.toInt64 &&& 63)) L st
  | .lushr => zk_li (fun x y => (x.toUInt64 >>> (y.toInt64.toUInt64 &&& Int64.toUInt64 63)).toInt64) L st
  | .lcmp => match st with
    | .long y :: .long x :: r => some (L, .int (lg_cmp x y) :: r)
    | _ => none
  | .i2l => match st with
    | .int x :: r => some (L, .long x.toInt64 :: r)
    | _ => none
  | .l2i => match st with
    | .long x :: r => some (L, .int x.toInt32 :: r)
    | _ => none
  | _ => none
-- jumps
def zk_c2 (c : ClassFile.Cond) (x y : Int32) : Prop := match c with
  | .eq => x = y
  | .ne => ¬ x = y
  | .lt => x < y
  | .ge => y ≤ x
  | .gt => y < x
  | .le => x ≤ y
def zk_c2b (c : ClassFile.Cond) (x y : Int32) : Bool := match c with
  | .eq => decide (x = y)
  | .ne => !decide (x = y)
  | .lt => decide (x < y)
  | .ge => decide (y ≤ x)
  | .gt => decide (y < x)
  | .le => decide (x ≤ y)
def zk_tg (pc : Nat) (off : Int) : Option Nat := if 0 ≤ (pc : Int) + off then some ((pc : Int) + off).toNat else none
def zk_jump (ins : Instr) (len pc : Nat) (st : List Value) : Option (Nat × List Value) := match ins with
  | .goto off => if len = 3 then (zk_tg pc off).map (fun t => (t, st)) else none
  | .ifCond c off => if len = 3 then (match st with
    | .int x :: r => (zk_tg pc off).map (fun t => if zk_c2b c x 0 then (t, r) else (pc + 3, r))
    | _ => none) else none
  | .if_icmp c off => if len = 3 then (match st with
    | .int y :: .int x :: r => (zk_tg pc off).map (fun t => if zk_c2b c x y then (t, r) else (pc + 3, r))
    | _ => none) else none
  | .ifnull off => if len = 3 then (match st with
    | .ref _ :: r => some (pc + 3, r)
    | .null :: r => (zk_tg pc off).map (fun t => (t, r))
    | _ => none) else none
  | .ifnonnull off => if len = 3 then (match st with
    | .ref _ :: r => (zk_tg pc off).map (fun t => (t, r))
    | .null :: r => some (pc + 3, r)
    | _ => none) else none
  | .tableswitch dflt lo hi offs => match st with
    | .int x :: r => if x.toInt < lo ∨ hi < x.toInt then (zk_tg pc dflt).map (fun t => (t, r)) else (match offs[(x.toInt - lo).toNat]? with
      | some off => (zk_tg pc off).map (fun t => (t, r))
      | none => none)
    | _ => none
  | .lookupswitch dflt ps => match st with
    | .int x :: r => if (ps.toList.zip (ps.toList.drop 1)).all (fun (a, next) => a.1 < next.1) = true then (zk_tg pc (Op.lookupswitch.offset ps.toList dflt x.toInt)).map (fun t => (t, r)) else none
    | _ => none
  | _ => none
-- ends
def zk_ret (rt : Option FieldType) (ins : Instr) (len : Nat) (st : List Value) : Option (Option Value) := match ins with
  | .ireturn => match rt, st with
    | some .int, [.int v] => if len = 1 then some (some (.int v)) else none
    | some .boolean, [.int v] => if len = 1 then (if v = 0 ∨ v = 1 then some (some (.int v)) else none) else none
    | _, _ => none
  | .lreturn => match rt, st with
    | some .long, [.long v] => if len = 1 then some (some (.long v)) else none
    | _, _ => none
  | .areturn => match rt, st with
    | some (.object _), [.ref a] => if len = 1 then some (some (.ref a)) else none
    | some (.object _), [.null] => if len = 1 then some (some .null) else none
    | some (.array _), [.ref a] => if len = 1 then some (some (.ref a)) else none
    | _, _ => none
  | .return_ => match rt, st with
    | none, [] => if len = 1 then some none else none
    | _, _ => none
  | _ => none
-- the heap
def zk_in (i : Int32) (n : Nat) : Prop := 0 ≤ i.toInt ∧ i.toInt < n
def zk_inb (i : Int32) (n : Nat) : Bool := decide (0 ≤ i.toInt) && decide (i.toInt < n)
def zk_fit (ty : FieldType) (v : Value) : Bool := match ty, v with
  | .int, .int _ => true
  | .boolean, .int x => decide (x = 0 ∨ x = 1)
  | .object _, .ref _ => true
  | .object _, .null => true
  | .array _, .ref _ => true
  | _, _ => false
def zk_pm (c : Nat) (ini : Bool) (nest : Bool) (ci k : Nat) : Bool := if (zk_T ci k).2.2.2 then ini && decide (c = ci) && !nest else true
def zk_df (ci : Nat) : List Value := (zk_tyl.getD ci []).map defaultValue
def zk_sum (st : List Value) : Nat := (st.map fun v => v.category).sum
def zk_heap (G : zk_G) (c : Nat) (ini : Bool) (lv : Nat) (ins : Instr) (st : List Value) (h : zk_H) : Option (List Value × zk_H) := match ins with
  | .getfield i => match zk_fl c i, st with
    | some (_, ci, k), .ref a :: r => match zk_rd G h a with
      | some (.inr (cj, fs)) => if cj = ci then (fs[k]?).map (fun v => (v :: r, h)) else none
      | _ => none
    | _, _ => none
  | .putfield i => match zk_fl c i, st with
    | some (nest, ci, k), v :: .ref a :: r => match zk_rd G h a with
      | some (.inr (cj, fs)) => if cj = ci then (if k < fs.length then (if zk_pm c ini nest ci k then (if zk_fit (zk_ty ci k) v then some (r, zk_wr G h a (.inr (ci, fs.set k v))) else none) else none) else none) else none
      | _ => none
    | _, _ => none
  | .getstatic i => if c = 10 ∧ i = 15 then some (.ref (G.2.2 0) :: st, h) else if c = 5 ∧ i = 41 then some (.ref (G.2.2 1) :: st, h) else none
  | .ldc i => (zk_ki c i).map (fun v => (.int v :: st, h))
  | .ldc_w i => (zk_ki c i).map (fun v => (.int v :: st, h))
  | .ldc2_w i => (zk_kl c i).map (fun v => (.long v :: st, h))
  | .iaload => match st with
    | .int i :: .ref a :: r => match zk_ar G h a with
      | some (0, n, .inl f) => if zk_inb i n then some (.int (f i.toNatClampNeg) :: r, h) else none
      | _ => none
    | _ => none
  | .baload => match st with
    | .int i :: .ref a :: r => match zk_rd G h a with
      | some (.inl (2, n, .inl f)) => if zk_inb i n then some (.int (f i.toNatClampNeg) :: r, h) else none
      | _ => none
    | _ => none
  | .laload => match st with
    | .int i :: .ref a :: r => match zk_ar G h a with
      | some (1, n, .inr (.inl f)) => if zk_inb i n then some (.long (f i.toNatClampNeg) :: r, h) else none
      | _ => none
    | _ => none
  | .aaload => match st with
    | .int i :: .ref a :: r => match zk_rd G h a with
      | some (.inl (t, n, .inr (.inr (.inr (.inr f))))) => if zk_inb i n then (if 3 ≤ t ∧ t ≤ 6 then some (va_rf (f i.toNatClampNeg) :: r, h) else none) else none
      | _ => none
    | _ => none
  | .arraylength => match st with
    | .ref a :: r => match zk_ar G h a with
      | some (t, x) => if t ≤ 6 then some (.int (Int32.ofNat x.1) :: r, h) else none
      | _ => none
    | _ => none
  | .iastore => match st with
    | .int x :: .int i :: .ref a :: r => match zk_rd G h a with
      | some (.inl (0, n, .inl f)) => if zk_inb i n then some (r, zk_wr G h a (.inl (0, n, .inl (upd f i.toNatClampNeg x)))) else none
      | _ => none
    | _ => none
  | .bastore => match st with
    | .int x :: .int i :: .ref a :: r => match zk_rd G h a with
      | some (.inl (2, n, .inl f)) => if zk_inb i n then (if x = 0 ∨ x = 1 then some (r, zk_wr G h a (.inl (2, n, .inl (upd f i.toNatClampNeg x)))) else none) else none
      | _ => none
    | _ => none
  | .lastore => match st with
    | .long x :: .int i :: .ref a :: r => match zk_rd G h a with
      | some (.inl (1, n, .inr (.inl f))) => if zk_inb i n then some (r, zk_wr G h a (.inl (1, n, .inr (.inl (vp_updL f i.toNatClampNeg x))))) else none
      | _ => none
    | _ => none
  | .aastore => match st with
    | .ref v :: .int i :: .ref a :: r => match zk_rd G h a, zk_rd G h v with
      | some (.inl (t, n, .inr (.inr (.inr (.inr f))))), some (.inr (ci, _)) => if zk_inb i n then (if 3 ≤ t ∧ t ≤ 6 ∧ ci = zk_ac t then some (r, zk_wr G h a (.inl (t, n, .inr (.inr (.inr (.inr (va_up f i.toNatClampNeg (some v)))))))) else none) else none
      | _, _ => none
    | _ => none
  | .new i => match zk_kc c i with
    | some ci => some (.ref (zk_nx G h) :: st, zk_al h (.inr (ci, zk_df ci)) (zk_N ci))
    | none => none
  | .newarray t => match t, st with
    | .int, .int n :: r => if 0 ≤ n.toInt ∧ n.toInt ≤ 65536 then some (.ref (zk_nx G h) :: r, zk_al h (.inl (0, n.toNatClampNeg, .inl (fun _ => 0))) n.toNatClampNeg) else none
    | .long, .int n :: r => if 0 ≤ n.toInt ∧ n.toInt ≤ 65536 then some (.ref (zk_nx G h) :: r, zk_al h (.inl (1, n.toNatClampNeg, .inr (.inl (fun _ => 0)))) n.toNatClampNeg) else none
    | .boolean, .int n :: r => if 0 ≤ n.toInt ∧ n.toInt ≤ 65536 then some (.ref (zk_nx G h) :: r, zk_al h (.inl (2, n.toNatClampNeg, .inl (fun _ => 0))) n.toNatClampNeg) else none
    | _, _ => none
  | .anewarray i => match zk_kc c i, st with
    | some ci, .int n :: r => match zk_at ci with
      | some t => if 0 ≤ n.toInt ∧ n.toInt ≤ 65536 then some (.ref (zk_nx G h) :: r, zk_al h (.inl (t, n.toNatClampNeg, .inr (.inr (.inr (.inr (fun _ => none)))))) n.toNatClampNeg) else none
      | none => none
    | _, _ => none
  | .invokespecial i => match st with
    | .ref _ :: r => if zk_ob c i ∧ zk_sum r ≤ 8 ∧ 1 ≤ lv then some (r, h) else none
    | _ => none
  | .invokestatic i => if c = 15 ∧ i = 150 then (match st with
    | .int n :: .int dp :: .ref a :: .int sp :: .ref b :: r => match zk_rd G h b, zk_rd G h a with
      | some (.inl (0, n0, .inl f)), some (.inl (0, n1, .inl g)) => if 0 ≤ sp.toInt ∧ 0 ≤ dp.toInt ∧ 0 ≤ n.toInt ∧ sp.toInt + n.toInt ≤ n0 ∧ dp.toInt + n.toInt ≤ n1 ∧ zk_sum r ≤ 8 ∧ 1 ≤ lv then some (r, zk_wr G h a (.inl (0, n1, .inl (va_cpy f g sp.toNatClampNeg dp.toNatClampNeg n.toNatClampNeg)))) else none
      | _, _ => none
    | _ => none) else none
  | _ => none
-- calls
def zk_sl (vs : List Value) : zk_L := match vs with
  | [] => []
  | v :: vs => if v.category = 2 then some v :: none :: zk_sl vs else some v :: zk_sl vs
def zk_ent (ml : Nat) (vs : List Value) : zk_L := zk_sl vs ++ List.replicate (ml - (zk_sl vs).length) none
def zk_fr (y yc : Nat) (As rest : List Value) : Bool := decide (zk_lev yc < zk_lev y) && decide ((lg_sl As).length ≤ zk_ml yc) && decide (zk_sum rest ≤ 8)
def zk_inv (G : zk_G) (y : Nat) (ins : Instr) (st : List Value) (h : zk_H) : Option (Nat × List Value × List Value) := match ins with
  | .invokevirtual i => match zk_mk (zk_c y) i with
    | some (0, yc) => match st.drop (zk_na yc) with
      | .ref b :: rest => match zk_rd G h b with
        | some (.inr (ci, _)) => if ci = zk_c yc ∧ zk_fr y yc (.ref b :: (st.take (zk_na yc)).reverse) rest then some (yc, .ref b :: (st.take (zk_na yc)).reverse, rest) else none
        | _ => none
      | _ => none
    | _ => none
  | .invokestatic i => match zk_mk (zk_c y) i with
    | some (1, yc) => if zk_na yc ≤ st.length ∧ zk_fr y yc ((st.take (zk_na yc)).reverse) (st.drop (zk_na yc)) then some (yc, (st.take (zk_na yc)).reverse, st.drop (zk_na yc)) else none
    | _ => none
  | .invokespecial i => match zk_mk (zk_c y) i with
    | some (k, yc) => match st.drop (zk_na yc) with
      | .ref b :: rest => if 2 ≤ k ∧ zk_fr y yc (.ref b :: (st.take (zk_na yc)).reverse) rest then some (yc, .ref b :: (st.take (zk_na yc)).reverse, rest) else none
      | _ => none
    | _ => none
  | _ => none
def zk_ex : Nat → zk_G → Nat → Nat → zk_L → List Value → zk_H → Option (Option Value × zk_H)
  | 0, _, _, _, _, _, _ => none
  | n + 1, G, y, pc, L, st, h => match zk_ft y pc with
    | none => none
    | some (ins, len) => match zk_inv G y ins st h with
      | some (yc, As, rest) => if len = 3 then (match zk_ex n G yc 0 (zk_ent (zk_ml yc) As) [] h with
        | some (r, h') => zk_ex n G y (pc + 3) L (r.toList ++ rest) h'
        | none => none) else none
      | none => match zk_ret (zk_rt y) ins len st with
        | some r => some (r, h)
        | none => match zk_jump ins len pc st with
          | some (pc', st') => zk_ex n G y pc' L st' h
          | none => match zk_heap G (zk_c y) (zk_ini y) (zk_lev y) ins st h with
            | some (st', h') => if len = zk_len ins then zk_ex n G y (pc + len) L st' h' else none
            | none => match zk_pure ins L st with
              | some (L', st') => if len = zk_len ins then zk_ex n G y (pc + len) L' st' h else none
              | none => none
