/-! from a run of the small machine to the law's own run -/
def zk_stl2 : List Int32 := [0, 31, 60, 91, 121, 152, 182, 213, 244, 274, 305, 335, 366, 397, 425, 456, 486, 517, 547, 578, 609, 639, 670, 700, 731, 762, 790, 821, 851, 882, 912, 943, 974, 1004, 1035, 1065, 1096, 1127, 1155, 1186, 1216, 1247, 1277, 1308, 1339, 1369, 1400, 1430]
def zk_starts (j : Nat) : Int32 := zk_stl2.getD j 0
def zk_btl : List Int64 := [0xFFFFFFFFFFFFFFF, 0xFFFFFF, 0xFFFFFFFE, 0x1FFE, 0x7F]
def zk_bits (j : Nat) : Int64 := zk_btl.getD j 0
/-- the ground on which the law runs -/
def zk_Gok (G : zk_G) (b L : Nat) (xs : Nat → Int32) : Prop := b < G.1 ∧ G.2.2 0 < G.1 ∧ G.2.2 1 < G.1 ∧ G.2.1 b = some (0, L, .inl xs) ∧ (∃ f, G.2.1 (G.2.2 0) = some (0, 48, .inl f) ∧ ∀ j, j < 48 → f j = zk_starts j) ∧ (∃ f, G.2.1 (G.2.2 1) = some (1, 5, .inr (.inl f)) ∧ ∀ j, j < 5 → f j = zk_bits j)
abbrev zk_t0 : Term := .static "TickKeeper$Dates" "STARTS" "[I"
abbrev zk_t1 : Term := .static "TickKeeper$Rule" "ALL_BITS" "[J"
theorem zk_e0 : (List.range 48).all (fun j => decide (Cond.eq (.elem zk_t0 (.int (Int32.ofNat j))) (.int (zk_starts j)) ∈ flatC (Jvm.Cond.and given_1 narrow_1))) = true := by decide +kernel
theorem zk_e1 : (List.range 5).all (fun j => decide (Cond.eq (.elem zk_t1 (.int (Int32.ofNat j))) (.long (zk_bits j)) ∈ flatC (Jvm.Cond.and given_1 narrow_1))) = true := by decide +kernel
theorem zk_arr_ne {U : State} {cell : Cell} (h1 : U.isArrayOf cell .int) (h2 : U.isArrayOf cell .long) : False := by
  obtain ⟨-, k1, e1, c1, g1⟩ := h1
  obtain ⟨-, k2, e2, c2, g2⟩ := h2
  rw [e1] at e2
  cases e2
  rw [g1] at g2
  cases g2
theorem zk_kinds {s : State} {args : Array Value} (hts : ∀ w ∈ lw_tbl, w.before args s = true) : ∃ (D : va_G) (dA : Nat → Nat), va_K D zk_CL (zk_tys dA) s := by
  have h1 : ∀ ci : Nat, ∃ q : ClassId × (Nat → Nat), ci < 10 → u_Kn s (zk_cn ci) (zk_T ci) (zk_N ci) q.1 q.2 := by
    intro ci
    by_cases hci : ci < 10
    · obtain ⟨w1, w2, w3⟩ := zk_ws_in hci
      obtain ⟨a, b, h⟩ := u_known (C := zk_cn ci) (T := zk_T ci) (N := zk_N ci) (n := zk_N ci) hts (fun w hw => (List.mem_filter.mp (w1 w hw)).1) (hts _ (List.mem_filter.mp w2).1)
      exact ⟨(a, b), fun _ => h⟩
    · exact ⟨(0, fun _ => 0), fun q => absurd q hci⟩
  obtain ⟨f, hf⟩ := Classical.axiomOfChoice h1
  have h2 : ∀ t : Nat, ∃ cA : Nat, ∀ ty, (zk_tys (fun _ => cA))[t]? = some (cA, ty) → ArrOfT s cA ty ∧ va_RA s cA ty := by
    have prim : ∀ ty, Cond.arrayClass ty ∈ lw_tbl → (∀ cA, va_RA s cA ty ↔ s.vm.findClass ("[" ++ ty.toString) = some cA) → ∃ cA : Nat, ArrOfT s cA ty ∧ va_RA s cA ty := by
      intro ty hw hra
      obtain ⟨cA, k, comp, g1, g2, g3⟩ := Cond.arrayClass_spec (hts _ hw)
      exact ⟨cA, fun n z => ⟨fun k h => (by cases h), k, g2, comp, g3⟩, (hra cA).mpr g1⟩
    have obj : ∀ C, Cond.arrayOver (.object C) ∈ lw_tbl → ∃ cA : Nat, ArrOfT s cA (.object C) ∧ va_RA s cA (.object C) := by
      intro C hw
      obtain ⟨comp, cA, k, g1, -, g2, g3, g4⟩ := Cond.arrayOver_spec (hts _ hw)
      exact ⟨cA, fun n z => ⟨fun k h => (by cases h), k, g2, comp, g3⟩, k, comp, g2, g3, g1, g4⟩
    intro t
    match t with
    | 0 => obtain ⟨cA, g⟩ := prim .int (by decide +kernel) (fun _ => Iff.rfl); exact ⟨cA, fun ty h => by cases h; exact g⟩
    | 1 => obtain ⟨cA, g⟩ := prim .long (by decide +kernel) (fun _ => Iff.rfl); exact ⟨cA, fun ty h => by cases h; exact g⟩
    | 2 => obtain ⟨cA, g⟩ := prim .boolean (by decide +kernel) (fun _ => Iff.rfl); exact ⟨cA, fun ty h => by cases h; exact g⟩
    | 3 => obtain ⟨cA, g⟩ := obj (zk_cn 0) (by decide +kernel); exact ⟨cA, fun ty h => by cases h; exact g⟩
    | 4 => obtain ⟨cA, g⟩ := obj (zk_cn 1) (by decide +kernel); exact ⟨cA, fun ty h => by cases h; exact g⟩
    | 5 => obtain ⟨cA, g⟩ := obj (zk_cn 3) (by decide +kernel); exact ⟨cA, fun ty h => by cases h; exact g⟩
    | 6 => obtain ⟨cA, g⟩ := obj (zk_cn 7) (by decide +kernel); exact ⟨cA, fun ty h => by cases h; exact g⟩
    | t + 7 => exact ⟨0, fun ty h => by cases h⟩
  obtain ⟨dA, hA⟩ := Classical.axiomOfChoice h2
  refine ⟨(fun ci => (f ci).1, fun ci => (f ci).2), dA, ?_, ?_⟩
  · intro ci q hq
    have hl : ci < 10 := by
      have := (List.getElem?_eq_some_iff.mp hq).1
      unfold zk_CL at this
      simpa using this
    rw [zk_CL_at hl] at hq
    cases hq
    exact hf ci hl
  · intro t q hq
    match t, hq with
    | 0, hq => cases hq; exact hA 0 _ rfl
    | 1, hq => cases hq; exact hA 1 _ rfl
    | 2, hq => cases hq; exact hA 2 _ rfl
    | 3, hq => cases hq; exact hA 3 _ rfl
    | 4, hq => cases hq; exact hA 4 _ rfl
    | 5, hq => cases hq; exact hA 5 _ rfl
    | 6, hq => cases hq; exact hA 6 _ rfl
    | t + 7, hq => cases hq
/-! THE CLAIM OUT OF ONE WALK OF THE LAW'S BODY. Your part is whole_start (and what it stands on); all else here is the same for every law, but numbers. -/
def R_law : String := "TickKeeperLaw"
def lw_P (b : Addr) (xs : List Int32) (args : Array Value) (s : State) : Prop := args = #[.ref b] ∧ s.IntsAt b xs ∧ xs.length ≤ 2560 ∧ (Jvm.Cond.and given_1 narrow_1).before args s = true
def lw_Q (_ : Array Value) (s : State) (o : Outcome) (t : State) : Prop := o = .returned (some (.int 1)) ∧ Framed s o t [] 600000 7302249
def lw_Z (below : List Frame) (a : Array Value) (s : State) : State → Prop := fun t => ∃ o, t.status = .running ∧ Ended t below o ∧ lw_Q a s o t
/-- the law's own end, with 1 on the stack, nothing written that was there before, its room as the claim has it -/
theorem lw_ret {p : Program} {l : Launch} {e : Env} {s : State} {m : MethodId} {below : List Frame} {meth : Method} {c : Code} {b : Nat} (hx : p.tables.exec = Jvm.exec) (hb : c.code = code) (hr : meth.sig.returnType = ret) (hlocks : meth.locks = false) {pc : Nat} {H : Heap} {ls : Array Slot} (hdg : decode code pc = .ok (.ireturn, 1)) : W p l e room_1 s m #[Value.ref b] below meth c H [] 600000 7302249 (lw_Z below #[Value.ref b] s) (F0 m pc ls [.int 1]) := by
  intro T hT X
  obtain ⟨fs, hret, hrun, hended, hW, hframe⟩ := X.leave (v := some (.int 1)) (hlocks := hlocks) (fun h => by rw [hr] at h; cases h)
  have hmeth' : T.vm.method? m = some meth := X.method'
  refine ⟨T.setFrames fs, ?_, .returned (some (.int 1)), hrun, hended, rfl, ⟨_, rfl⟩, hW, hframe⟩
  jvm_step X.here [X.here.top, hx, hb, hdg, hmeth', hr, ret, narrow_b1]
  (try refine ⟨rfl, ?_⟩); (try refine ⟨rfl, ?_⟩)
  first | (intro acts; rw [hret _ acts rfl rfl rfl]) | rw [hret _ _ rfl rfl rfl]
  exact Steps.refl _
/-- what holds at the law's entry: the machine, the code, the tables' words (any of lw_tbl by 'hts w (by decide +kernel)'), the script of L ints xs at the cell b, what the Statement gives of the start (any of its parts by flat_of_before) -/
def lw_At (p : Program) (s : State) (m : MethodId) (meth : Method) (c : Code) (b L : Nat) (xs : Nat → Int32) : Prop :=
  p.tables.exec = Jvm.exec ∧ c.code = code ∧ meth.sig.returnType = ret ∧ c.maxLocals = 4 ∧ s.vm.findClass R_law = some m.cls ∧ (∀ w ∈ lw_tbl, w.before #[Value.ref b] s = true) ∧ va_X b L xs s s.heap ∧ b < s.heap.size ∧ meth.locks = false ∧ (Jvm.Cond.and given_1 narrow_1).before #[Value.ref b] s = true
set_option maxHeartbeats 4000000 in
theorem zk_whole {p : Program} {e : Env} {s : State} {m : MethodId} {below : List Frame} {meth : Method} {c : Code} (l : Launch) {b L : Nat} {xs : Nat → Int32} (hL : L ≤ 2560) (C0 : lw_At p s m meth c b L xs)
    (goal : ∀ G : zk_G, zk_Gok G b L xs → ∃ (n : Nat) (h' : zk_H), zk_ex n G 205 0 (zk_ent 4 [.ref b]) [] ([], 0) = some (some (.int 1), h') ∧ h'.1.length ≤ 600000 ∧ h'.2 ≤ 7302249) :
    W p l e room_1 s m #[Value.ref b] below meth c s.heap [] 0 0 (lw_Z below #[Value.ref b] s) (entryFrame m ([Value.ref b] : List Value).toArray 4) := by
  obtain ⟨hx, hb, hr, hml, hown, hts, hX, hbl, hlocks, hgv⟩ := id C0
  have hA : ∀ a : Nat, a < s.heap.size → ¬ (fun q : Nat => s.heap.size ≤ q) a := fun a h q => Nat.lt_irrefl _ (Nat.lt_of_lt_of_le h q)
  have hfl := flat_of_before _ hgv
  obtain ⟨D, dA, hK⟩ := zk_kinds hts
  obtain ⟨t0, ht0, hT0⟩ := va_Tof (tm := zk_t0) (ty := .int) (N := 48) (f := fun j => .int (zk_starts j)) (A := fun q : Nat => s.heap.size ≤ q) (by decide) (hfl _ (by decide +kernel)) (va_eqt (hfl _ (by decide +kernel))) (fun j hj => va_eqt (hfl _ (by
    have := List.all_eq_true.mp zk_e0 j (List.mem_range.mpr hj)
    simpa using this))) hA
  obtain ⟨t1, ht1, hT1⟩ := va_Tof (tm := zk_t1) (ty := .long) (N := 5) (f := fun j => .long (zk_bits j)) (A := fun q : Nat => s.heap.size ≤ q) (by decide) (hfl _ (by decide +kernel)) (va_eqt (hfl _ (by decide +kernel))) (fun j hj => va_eqtl (hfl _ (by
    have := List.all_eq_true.mp zk_e1 j (List.mem_range.mpr hj)
    simpa using this))) hA
  have hZ0 : va_Z "TickKeeper$Dates" "STARTS" "[I" (.ref t0) (fun q : Nat => s.heap.size ≤ q) s s.heap := va_Zof (hts _ (by decide +kernel)) (hts _ (by decide +kernel)) ht0 hA
  have hZ1 : va_Z "TickKeeper$Rule" "ALL_BITS" "[J" (.ref t1) (fun q : Nat => s.heap.size ≤ q) s s.heap := va_Zof (hts _ (by decide +kernel)) (hts _ (by decide +kernel)) ht1 hA
  have hTb : va_T .int b L (fun j => .int (xs j)) (fun q : Nat => s.heap.size ≤ q) s s.heap := by
    obtain ⟨scr, g1, g2, g3, g4, g5⟩ := hX
    exact ⟨scr, g1, g2, g3, Nat.le_of_eq g4.symm, by rw [g4], g5, hA b hbl⟩
  have l0 : t0 < s.heap.size := by obtain ⟨c0, g, -⟩ := hT0; exact (Array.getElem?_eq_some_iff.mp g).1
  have l1 : t1 < s.heap.size := by obtain ⟨c1, g, -⟩ := hT1; exact (Array.getElem?_eq_some_iff.mp g).1
  have n01 : t0 ≠ t1 := by
    rintro rfl
    obtain ⟨c0, g0, g1, -⟩ := hT0
    obtain ⟨c1, k0, k1, -⟩ := hT1
    rw [g0] at k0
    cases k0
    exact zk_arr_ne g1 k1
  have nb1 : b ≠ t1 := by
    rintro rfl
    obtain ⟨c0, g0, g1, -⟩ := hTb
    obtain ⟨c1, k0, k1, -⟩ := hT1
    rw [g0] at k0
    cases k0
    exact zk_arr_ne g1 k1
  let ro : Nat → Option (Nat × vp_A) := fun a => if a = b then some (0, L, .inl xs) else if a = t0 then some (0, 48, .inl zk_starts) else if a = t1 then some (1, 5, .inr (.inl zk_bits)) else none
  let sa : Nat → Nat := fun k => if k = 0 then t0 else t1
  have hG : zk_Gok (s.heap.size, ro, sa) b L xs := by
    refine ⟨hbl, l0, l1, by simp [ro], ?_, ⟨zk_bits, by simp [ro, sa, Ne.symm nb1, Ne.symm n01], fun _ _ => rfl⟩⟩
    by_cases hbt : b = t0
    · subst hbt
      obtain ⟨c0, g0, g1, g2, g3, g4, g5, g6⟩ := hT0
      obtain ⟨scr, k1, k2, k3, k4, k5⟩ := hX
      rw [g0] at k1
      cases k1
      have hL48 : L = 48 := by
        rw [k4] at g4 g3
        have e1 : (nI L).toInt = (nI 48).toInt := congrArg Int32.toInt g4
        rw [nI_toInt (by omega), nI_toInt (by decide)] at e1
        omega
      subst hL48
      refine ⟨xs, by simp [ro, sa], fun j hj => ?_⟩
      have e1 := k5 j hj
      rw [g5 j hj] at e1
      exact (Value.int.inj (Option.some.inj e1)).symm
    · exact ⟨zk_starts, by simp [ro, sa, Ne.symm hbt], fun _ _ => rfl⟩
  obtain ⟨n, h', hex, hc, hs⟩ := goal _ hG
  have hS : zk_S (s.heap.size, ro, sa) D dA s := by
    refine ⟨hK, fun w hw hn => ?_, ⟨va_AO.of (hts (.arrayOver (.object (zk_cn 0))) (by decide +kernel)), va_AO.of (hts (.arrayOver (.object (zk_cn 1))) (by decide +kernel)), va_AO.of (hts (.arrayOver (.object (zk_cn 3))) (by decide +kernel)), va_AO.of (hts (.arrayOver (.object (zk_cn 7))) (by decide +kernel))⟩, hZ0, hZ1, ?_⟩
    · have := hts w hw
      cases w
      case fieldLinkNest => exact va_Nw.of rfl this
      case methodLinkNest => exact va_Nw.of rfl this
      all_goals (exact nomatch hn)
    · intro a t x hx
      dsimp only [ro] at hx
      split at hx
      next ha => cases hx; subst ha; exact Or.inl ⟨_, _, rfl, rfl, hTb⟩
      next =>
        split at hx
        next ha => cases hx; subst ha; exact Or.inl ⟨_, _, rfl, rfl, hT0⟩
        next =>
          split at hx
          next ha => cases hx; subst ha; exact Or.inr ⟨_, _, rfl, rfl, hT1⟩
          next => cases hx
  have hl := lv_entry ([.ref b]) (n := 4) (Nat.le_of_ble_eq_true rfl)
  rw [lg_entry_eq]
  generalize (lg_sl ([.ref b]) ++ List.replicate (4 - (lg_sl ([.ref b])).length) Slot.unset).toArray = ls at hl ⊢
  refine zk_body l (s.heap.size, ro, sa) D dA n 205 p e room_1 s m #[Value.ref b] below meth c _ hx hb hml hown (fun w hw => hts w (List.mem_filter.mp hw).1) (fun q => absurd q (by decide +kernel)) hS (by decide +kernel) (by decide +kernel) 0 (zk_ent 4 [.ref b]) [] ([], 0) s.heap [] ls 0 0 _ h' hex (zk_ent_has hl) rfl ⟨fun k q hk => (nomatch hk), rfl⟩ va_S.rf (by simp only [List.length_nil, Nat.sub_zero, Nat.zero_add]; exact hc) (by simp only [Nat.sub_zero, Nat.zero_add]; exact hs) ?_
  intro pc ls st H locs ins len hd hret hP' hF'
  have hi : ins = .ireturn ∧ len = 1 ∧ st = [.int 1] := by
    unfold zk_ret at hret
    split at hret
    next =>
      split at hret
      next h1 => exact absurd h1 (by decide +kernel)
      next v h1 =>
        split at hret
        next hl1 =>
          split at hret
          next => cases hret; exact ⟨rfl, hl1, rfl⟩
          next => cases hret
        next => cases hret
      next => cases hret
    next =>
      split at hret
      next h1 => exact absurd h1 (by decide +kernel)
      next => cases hret
    next =>
      split at hret
      next n0 a0 h1 => exact absurd h1 (fun q => by cases q)
      next n0 h1 => exact absurd h1 (fun q => by cases q)
      next n0 a0 h1 => exact absurd h1 (fun q => by cases q)
      next => cases hret
    next =>
      split at hret
      next h1 => exact absurd h1 (by decide +kernel)
      next => cases hret
    next => cases hret
  obtain ⟨rfl, rfl, rfl⟩ := hi
  refine va_forget (fun q hq => hF'.2.2 q hq) ?_
  refine W.widen (k := 600000) (n := 7302249) (by simp only [List.length_nil, Nat.sub_zero, Nat.zero_add]; exact hc) (by simp only [Nat.sub_zero, Nat.zero_add]; exact hs) ?_
  exact lw_ret hx hb hr hlocks hd
