section ZKA
variable {p : Program} {l : Launch} {e : Env} {R : Room} {s : State} {m : MethodId} {args : Array Value} {below : List Frame} {meth : Method} {c : Code} {H : Heap} {locs : List Loc} {cells slots : Nat} {Q : State → Prop} {cc : ByteArray} {pc nL : Nat} {ls : Array Slot} {rest st st' : List Value} {G : zk_G} {D : va_G} {dA : Nat → Nat} {h h' : zk_H} {cy : Nat} {a : Nat} {i : Int32}
theorem zk_ar_sp {t : Nat} {x : vp_A} (ha : zk_ar G h a = some (t, x)) : (a < G.1 ∧ G.2.1 a = some (t, x)) ∨ zk_rd G h a = some (.inl (t, x)) := by
  unfold zk_ar at ha
  split at ha
  next hlt => exact Or.inl ⟨hlt, ha⟩
  next hlt =>
    right
    unfold zk_rd
    rw [if_neg hlt]
    split at ha
    next y hy => cases ha; exact hy
    next => cases ha
theorem zk_T_H {ty : FieldType} {n : Nat} {f : Nat → Value} (hF : va_S (fun q => G.1 ≤ q) s.heap H locs) (hT : va_T ty a n f (fun q => G.1 ≤ q) s s.heap) : va_T ty a n f (fun q => G.1 ≤ q) s H := va_T.kept hT (fun b h1 h2 => hF.2.1 b h1 h2)
theorem zk_iald_ok (hx : p.tables.exec = Jvm.exec) (hb : c.code = cc) (hS : zk_S G D dA s) (hP : zk_P G D dA h H) (hF : va_S (fun q => G.1 ≤ q) s.heap H locs) {n : Nat} {f : Nat → Int32} (ha : zk_ar G h a = some (0, n, .inl f)) (hi : zk_inb i n = true) (hd : decode cc pc = .ok (.iaload, 1))
    (kk : W p l e R s m args below meth c H locs cells slots Q (F0 m (pc + 1) ls (.int (f i.toNatClampNeg) :: rest))) : W p l e R s m args below meth c H locs cells slots Q (F0 m pc ls (.int i :: .ref a :: rest)) := by
  have hin := zk_in_vp hi
  rcases zk_ar_sp ha with ⟨h1, h2⟩ | hr
  · rcases hS.2.2.2.2.2 a _ _ h2 with ⟨n', f', -, e2, hT⟩ | ⟨n', f', e1, -, -⟩
    · cases e2
      obtain ⟨cell, t1, t2, t3, t4, t5, t6, t7⟩ := zk_T_H hF hT
      have hlt : i.toNatClampNeg < n := Nat.not_le.mp fun q => hin (Or.inr q)
      exact W.iald (v := .int (f i.toNatClampNeg)) hx hb t1 t2 t3 (fun q => hin (q.imp id (fun q => Nat.le_trans t4 q))) (t6 _ hlt) rfl rfl hd kk
    · exact absurd e1 (by decide)
  · obtain ⟨q1, q2, q3⟩ := zk_rd_at (dA := dA) hr
    exact va_iald hx hb hS.1 hP.1 _ 0 q1 rfl hin hd kk
theorem zk_lald_ok (hx : p.tables.exec = Jvm.exec) (hb : c.code = cc) (hS : zk_S G D dA s) (hP : zk_P G D dA h H) (hF : va_S (fun q => G.1 ≤ q) s.heap H locs) {n : Nat} {f : Nat → Int64} (ha : zk_ar G h a = some (1, n, .inr (.inl f))) (hi : zk_inb i n = true) (hd : decode cc pc = .ok (.laload, 1))
    (kk : W p l e R s m args below meth c H locs cells slots Q (F0 m (pc + 1) ls (.long (f i.toNatClampNeg) :: rest))) : W p l e R s m args below meth c H locs cells slots Q (F0 m pc ls (.int i :: .ref a :: rest)) := by
  have hin := zk_in_vp hi
  rcases zk_ar_sp ha with ⟨h1, h2⟩ | hr
  · rcases hS.2.2.2.2.2 a _ _ h2 with ⟨n', f', e1, -, -⟩ | ⟨n', f', -, e2, hT⟩
    · exact absurd e1 (by decide)
    · cases e2
      obtain ⟨cell, t1, t2, t3, t4, t5, t6, t7⟩ := zk_T_H hF hT
      have hlt : i.toNatClampNeg < n := Nat.not_le.mp fun q => hin (Or.inr q)
      exact W.lald (v := .long (f i.toNatClampNeg)) hx hb t1 t2 t3 (fun q => hin (q.imp id (fun q => Nat.le_trans t4 q))) (t6 _ hlt) rfl rfl hd kk
  · obtain ⟨q1, q2, q3⟩ := zk_rd_at (dA := dA) hr
    exact va_lald hx hb hS.1 hP.1 _ 1 q1 rfl hin hd kk
theorem zk_alen_ok (hx : p.tables.exec = Jvm.exec) (hb : c.code = cc) (hS : zk_S G D dA s) (hP : zk_P G D dA h H) (hF : va_S (fun q => G.1 ≤ q) s.heap H locs) {t : Nat} {x : vp_A} (ht : t ≤ 6) (ha : zk_ar G h a = some (t, x)) (hd : decode cc pc = .ok (.arraylength, 1))
    (kk : W p l e R s m args below meth c H locs cells slots Q (F0 m (pc + 1) ls (.int (Int32.ofNat x.1) :: rest))) : W p l e R s m args below meth c H locs cells slots Q (F0 m pc ls (.ref a :: rest)) := by
  rcases zk_ar_sp ha with ⟨h1, h2⟩ | hr
  · rcases hS.2.2.2.2.2 a _ _ h2 with ⟨n', f', -, e2, hT⟩ | ⟨n', f', -, e2, hT⟩
    · cases e2
      obtain ⟨cell, t1, t2, t3, t4, t5, t6, t7⟩ := zk_T_H hF hT
      exact W.alen hx hb t1 t2 t5 rfl rfl hd kk
    · cases e2
      obtain ⟨cell, t1, t2, t3, t4, t5, t6, t7⟩ := zk_T_H hF hT
      exact W.alen hx hb t1 t2 t5 rfl rfl hd kk
  · obtain ⟨q1, q2, q3⟩ := zk_rd_at (dA := dA) hr
    obtain ⟨ty, hty⟩ : ∃ ty, (zk_tys dA)[t]? = some (dA t, ty) := by
      rcases (show t = 0 ∨ t = 1 ∨ t = 2 ∨ t = 3 ∨ t = 4 ∨ t = 5 ∨ t = 6 by omega) with rfl | rfl | rfl | rfl | rfl | rfl | rfl <;> exact ⟨_, rfl⟩
    exact va_alen hx hb hS.1 hP.1 _ t q1 hty rfl hd kk
theorem zk_K0 {g : JFrame} (hP : zk_P G D dA h H) (hF : va_S (fun q => G.1 ≤ q) s.heap H locs) (kk : zk_K p l e R s m args below meth c Q G D dA h (cells + (h.1.length - h.1.length)) (slots + (h.2 - h.2)) g) : W p l e R s m args below meth c H locs cells slots Q g := by
  have := kk H locs hP hF
  rw [Nat.sub_self, Nat.sub_self, Nat.add_zero, Nat.add_zero] at this
  exact this
theorem zk_K1 {g : JFrame} {x : zk_E} (kk : zk_K p l e R s m args below meth c Q G D dA (zk_wr G h a x) (cells + ((zk_wr G h a x).1.length - h.1.length)) (slots + ((zk_wr G h a x).2 - h.2)) g) : zk_K p l e R s m args below meth c Q G D dA (zk_wr G h a x) cells slots g := by
  have e1 : cells + ((zk_wr G h a x).1.length - h.1.length) = cells := by rw [zk_wr_len]; omega
  have e2 : slots + ((zk_wr G h a x).2 - h.2) = slots := by show slots + (h.2 - h.2) = slots; omega
  rw [e1, e2] at kk
  exact kk
theorem zk_al1 {x : zk_E} {n : Nat} : (zk_al h x n).1.length - h.1.length = 1 ∧ (zk_al h x n).2 - h.2 = n := by
  unfold zk_al
  constructor
  · simp
  · simp
theorem zk_heap_ok (hx : p.tables.exec = Jvm.exec) (hb : c.code = cc) (hml : c.maxLocals = nL) (hsz : ls.size = nL) (hown : s.vm.findClass (zk_cn cy) = some m.cls) (hts : ∀ w ∈ zk_tbl, w.before args s = true) (hS : zk_S G D dA s) (hP : zk_P G D dA h H) (hF : va_S (fun q => G.1 ≤ q) s.heap H locs) {ini : Bool} (hini : ini = true → meth.name = "<init>") {lv : Nat} (hfr : lv ≤ R.frames) (hlo : 40 * lv ≤ R.locals) {ins : Instr} (hd : decode cc pc = .ok (ins, zk_len ins)) (hh : zk_heap G cy ini lv ins st h = some (st', h'))
    (hRc : cells + (h'.1.length - h.1.length) ≤ R.cells) (hRs : slots + (h'.2 - h.2) ≤ R.slots)
    (kk : zk_K p l e R s m args below meth c Q G D dA h' (cells + (h'.1.length - h.1.length)) (slots + (h'.2 - h.2)) (F0 m (pc + zk_len ins) ls st')) : W p l e R s m args below meth c H locs cells slots Q (F0 m pc ls st) := by
  cases ins
  case getfield ix =>
    dsimp only [zk_heap] at hh
    split at hh
    next nest ci k a r hf =>
      split at hh
      next cj fs hr =>
        split at hh
        next hc =>
          subst hc
          cases hv : fs[k]? with
          | none => rw [hv] at hh; cases hh
          | some v =>
            rw [hv] at hh
            cases hh
            exact zk_get_ok hx hb hown hts hS hP hf hr hv hd (zk_K0 hP hF kk)
        next => cases hh
      next => cases hh
    next => cases hh
  case putfield ix =>
    dsimp only [zk_heap] at hh
    split at hh
    next nest ci k v a r hf =>
      split at hh
      next cj fs hr =>
        split at hh
        next hc =>
          subst hc
          split at hh
          next hl =>
            split at hh
            next hpm =>
              split at hh
              next hfit =>
                cases hh
                exact zk_put_ok hx hb hown hts hS hP hF hini hf hr hl hpm hfit hd (zk_K1 kk)
              next => cases hh
            next => cases hh
          next => cases hh
        next => cases hh
      next => cases hh
    next => cases hh
  case getstatic ix =>
    dsimp only [zk_heap] at hh
    split at hh
    next hc =>
      obtain ⟨rfl, rfl⟩ := hc
      cases hh
      exact va_gets hx hb hS.2.2.2.1 hF hown (hts (.fieldLink (zk_cn 10) 15 "TickKeeper$Dates" "STARTS" "[I") (zk_tb (List.mem_of_getElem? (i := 425) (by decide +kernel)) rfl)) (fun _ z => z) hd (zk_K0 hP hF kk)
    next =>
      split at hh
      next hc =>
        obtain ⟨rfl, rfl⟩ := hc
        cases hh
        exact va_gets hx hb hS.2.2.2.2.1 hF hown (hts (.fieldLink (zk_cn 5) 41 "TickKeeper$Rule" "ALL_BITS" "[J") (zk_tb (List.mem_of_getElem? (i := 531) (by decide +kernel)) rfl)) (fun _ z => z) hd (zk_K0 hP hF kk)
      next => cases hh
  case ldc ix =>
    dsimp only [zk_heap] at hh
    cases hk : zk_ki cy ix with
    | none => rw [hk] at hh; cases hh
    | some v => rw [hk] at hh; cases hh; exact lv_ldc hx hb hown (hts _ (zk_ki_sp hk)) hd (zk_K0 hP hF kk)
  case ldc_w ix =>
    dsimp only [zk_heap] at hh
    cases hk : zk_ki cy ix with
    | none => rw [hk] at hh; cases hh
    | some v => rw [hk] at hh; cases hh; exact lv_ldcw hx hb hown (hts _ (zk_ki_sp hk)) hd (zk_K0 hP hF kk)
  case ldc2_w ix =>
    dsimp only [zk_heap] at hh
    cases hk : zk_kl cy ix with
    | none => rw [hk] at hh; cases hh
    | some v => rw [hk] at hh; cases hh; exact lv_ldc2 hx hb hown (hts _ (zk_kl_sp hk)) hd (zk_K0 hP hF kk)
  case iaload =>
    dsimp only [zk_heap] at hh
    split at hh
    next i a r =>
      split at hh
      next n f ha =>
        split at hh
        next hi => cases hh; exact zk_iald_ok hx hb hS hP hF ha hi hd (zk_K0 hP hF kk)
        next => cases hh
      next => cases hh
    next => cases hh
  case baload =>
    dsimp only [zk_heap] at hh
    split at hh
    next i a r =>
      split at hh
      next n f ha =>
        split at hh
        next hi =>
          cases hh
          obtain ⟨q1, q2, q3⟩ := zk_rd_at (dA := dA) ha
          exact va_zald hx hb hS.1 hP.1 _ 2 q1 rfl (zk_in_vp hi) hd (zk_K0 hP hF kk)
        next => cases hh
      next => cases hh
    next => cases hh
  case laload =>
    dsimp only [zk_heap] at hh
    split at hh
    next i a r =>
      split at hh
      next n f ha =>
        split at hh
        next hi => cases hh; exact zk_lald_ok hx hb hS hP hF ha hi hd (zk_K0 hP hF kk)
        next => cases hh
      next => cases hh
    next => cases hh
  case aaload =>
    dsimp only [zk_heap] at hh
    split at hh
    next i a r =>
      split at hh
      next t n f ha =>
        split at hh
        next hi =>
          split at hh
          next ht =>
            cases hh
            obtain ⟨q1, q2, q3⟩ := zk_rd_at (dA := dA) ha
            exact va_aldq hx hb hS.1 hP.1 _ t q1 (zk_tys_at ht.1 ht.2).1 (zk_in_vp hi) hd (zk_K0 hP hF kk)
          next => cases hh
        next => cases hh
      next => cases hh
    next => cases hh
  case arraylength =>
    dsimp only [zk_heap] at hh
    split at hh
    next a r =>
      split at hh
      next t x ha =>
        split at hh
        next ht => cases hh; exact zk_alen_ok hx hb hS hP hF ht ha hd (zk_K0 hP hF kk)
        next => cases hh
      next => cases hh
    next => cases hh
  case iastore =>
    dsimp only [zk_heap] at hh
    split at hh
    next x i a r =>
      split at hh
      next n f ha =>
        split at hh
        next hi => cases hh; exact zk_iast_ok hx hb hS hP hF ha hi hd (zk_K1 kk)
        next => cases hh
      next => cases hh
    next => cases hh
  case bastore =>
    dsimp only [zk_heap] at hh
    split at hh
    next x i a r =>
      split at hh
      next n f ha =>
        split at hh
        next hi =>
          split at hh
          next hx1 => cases hh; exact zk_zast_ok hx hb hS hP hF hx1 ha hi hd (zk_K1 kk)
          next => cases hh
        next => cases hh
      next => cases hh
    next => cases hh
  case lastore =>
    dsimp only [zk_heap] at hh
    split at hh
    next x i a r =>
      split at hh
      next n f ha =>
        split at hh
        next hi => cases hh; exact zk_last_ok hx hb hS hP hF ha hi hd (zk_K1 kk)
        next => cases hh
      next => cases hh
    next => cases hh
  case aastore =>
    dsimp only [zk_heap] at hh
    split at hh
    next v i a r =>
      split at hh
      next t n f ci vs ha hv =>
        split at hh
        next hi =>
          split at hh
          next ht =>
            obtain ⟨h3, h6, rfl⟩ := ht
            cases hh
            exact zk_aast_ok hx hb hS hP hF h3 h6 ha hv hi hd (zk_K1 kk)
          next => cases hh
        next => cases hh
      next => cases hh
    next => cases hh
  case new ix =>
    dsimp only [zk_heap] at hh
    split at hh
    next ci hk =>
      cases hh
      rw [zk_al1.1, zk_al1.2] at *
      exact zk_new_ok hx hb hown hts hS hP hF hk hRc hRs hd kk
    next => cases hh
  case newarray t =>
    dsimp only [zk_heap] at hh
    split at hh
    next n r =>
      split at hh
      next hn =>
        cases hh
        rw [zk_al1.1, zk_al1.2] at *
        exact zk_newa_ok hx hb hts hS hP hF hn.1 hn.2 (t := 0) (ty := .int) rfl (zk_tb (by decide +kernel) rfl) rfl (fun cA h1 h2 => Option.some.inj (h2.symm.trans h1)) (by decide) rfl hRc hRs hd kk
      next => cases hh
    next n r =>
      split at hh
      next hn =>
        cases hh
        rw [zk_al1.1, zk_al1.2] at *
        exact zk_newa_ok hx hb hts hS hP hF hn.1 hn.2 (t := 1) (ty := .long) rfl (zk_tb (by decide +kernel) rfl) rfl (fun cA h1 h2 => Option.some.inj (h2.symm.trans h1)) (by decide) rfl hRc hRs hd kk
      next => cases hh
    next n r =>
      split at hh
      next hn =>
        cases hh
        rw [zk_al1.1, zk_al1.2] at *
        exact zk_newa_ok hx hb hts hS hP hF hn.1 hn.2 (t := 2) (ty := .boolean) rfl (zk_tb (by decide +kernel) rfl) rfl (fun cA h1 h2 => Option.some.inj (h2.symm.trans h1)) (by decide) rfl hRc hRs hd kk
      next => cases hh
    next => cases hh
  case anewarray ix =>
    dsimp only [zk_heap] at hh
    split at hh
    next ci n r hk =>
      split at hh
      next t ht =>
        split at hh
        next hn =>
          cases hh
          rw [zk_al1.1, zk_al1.2] at *
          exact zk_anew_ok hx hb hown hts hS hP hF hn.1 hn.2 hk ht hRc hRs hd kk
        next => cases hh
      next => cases hh
    next => cases hh
  case invokespecial ix =>
    dsimp only [zk_heap] at hh
    split at hh
    next a r =>
      split at hh
      next hc =>
        cases hh
        obtain ⟨h1, h2, h3⟩ := hc
        refine W.objInit hx hb hown (hts _ (zk_ob_sp h1)) (hts _ (zk_tb (by decide +kernel) rfl)) (hts (.code Lib.objectInit ⟨#[0xb1]⟩ 1 none) (zk_tb (by decide +kernel) rfl)) rfl (by rw [hml]; exact hsz) rfl hd (by omega) ?_ (zk_K0 hP hF kk)
        have h9 : 12 + 8 ≤ R.locals := by omega
        show 2 * 0 + zk_sum _ + 12 ≤ R.locals
        omega
      next => cases hh
    next => cases hh
  case invokestatic ix =>
    dsimp only [zk_heap] at hh
    split at hh
    next hc =>
      obtain ⟨rfl, rfl⟩ := hc
      split at hh
      next n dp a sp b r =>
        split at hh
        next n0 f n1 g hr0 hr1 =>
          split at hh
          next hq =>
            obtain ⟨h1, h2, h3, h4, h5, h6, h7⟩ := hq
            cases hh
            exact zk_copy_ok hx hb (by rw [hml, hsz]) hown hts hS hP hF hr0 hr1 h1 h2 h3 h4 h5 (by omega) (by omega) hd (zk_K1 kk)
          next => cases hh
        next => cases hh
      next => cases hh
    next => cases hh
  all_goals (exact nomatch hh)
end ZKA
