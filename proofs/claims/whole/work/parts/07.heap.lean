/-! the small machine's instructions on the heap are the JVM's -/
section ZKH
variable {p : Program} {l : Launch} {e : Env} {R : Room} {s : State} {m : MethodId} {args : Array Value} {below : List Frame} {meth : Method} {c : Code} {H : Heap} {locs : List Loc} {cells slots : Nat} {Q : State → Prop} {cc : ByteArray} {pc : Nat} {ls : Array Slot} {rest st' : List Value} {G : zk_G} {D : va_G} {dA : Nat → Nat} {h h' : zk_H} {cy : Nat} {a : Nat} {i : Int32}
/-- the rest of a run, behind an instruction that ends with h' -/
def zk_K (p : Program) (l : Launch) (e : Env) (R : Room) (s : State) (m : MethodId) (args : Array Value) (below : List Frame) (meth : Method) (c : Code) (Q : State → Prop) (G : zk_G) (D : va_G) (dA : Nat → Nat) (h' : zk_H) (cells slots : Nat) (g : JFrame) : Prop :=
  ∀ (H' : Heap) (locs' : List Loc), zk_P G D dA h' H' → va_S (fun q => G.1 ≤ q) s.heap H' locs' → W p l e R s m args below meth c H' locs' cells slots Q g
theorem zk_get_ok (hx : p.tables.exec = Jvm.exec) (hb : c.code = cc) (hown : s.vm.findClass (zk_cn cy) = some m.cls) (hts : ∀ w ∈ zk_tbl, w.before args s = true) (hS : zk_S G D dA s) (hP : zk_P G D dA h H) {ix : Nat} {nest : Bool} {ci k : Nat} (hf : zk_fl cy ix = some (nest, ci, k)) {fs : List Value} (hr : zk_rd G h a = some (.inr (ci, fs))) {v : Value} (hv : fs[k]? = some v) (hd : decode cc pc = .ok (.getfield ix, 3))
    (kk : W p l e R s m args below meth c H locs cells slots Q (F0 m (pc + 3) ls (v :: rest))) : W p l e R s m args below meth c H locs cells slots Q (F0 m pc ls (.ref a :: rest)) := by
  obtain ⟨h1, h2, h3⟩ := zk_fl_sp hf
  obtain ⟨q1, q2, q3⟩ := zk_rd_at (dA := dA) hr
  cases nest with
  | true => exact va_getN hx hb hts (zk_ws_in h2).1 hown hS.1 hP.1 _ q1 (zk_CL_at h2) k h3 (va_Nw.use rfl (hS.2.1 _ h1 rfl)) (fun _ z => z) hv hd kk
  | false => exact va_get hx hb hts (zk_ws_in h2).1 hown hS.1 hP.1 _ q1 (zk_CL_at h2) k h3 (hts _ (zk_tb h1 rfl)) (fun _ z => z) hv hd kk
theorem zk_wr_len {x : zk_E} : (zk_wr G h a x).1.length = h.1.length := by unfold zk_wr; rw [List.length_set]
theorem zk_wr_P (hP : zk_P G D dA h H) {x0 x : zk_E} (hr : zk_rd G h a = some x0) {H1 : Heap} (he : va_at D zk_CL (a, zk_tr dA x) H1) (z : H1.size = H.size) (oq : ∀ q : Nat, q ≠ a → H1[q]? = H[q]?) : zk_P G D dA (zk_wr G h a x) H1 := by
  obtain ⟨q1, q2, q3⟩ := zk_rd_at (dA := dA) hr
  refine ⟨?_, by rw [z, hP.2, zk_wr_len]⟩
  rw [← zk_wr_wl q3]
  exact hP.1.set zk_wl_D q1 he oq
theorem zk_wr_F (hF : va_S (fun q => G.1 ≤ q) s.heap H locs) {x0 : zk_E} (hr : zk_rd G h a = some x0) {H1 : Heap} {k : Nat} (z : H1.size = H.size) (oq : ∀ q : Nat, q ≠ a → H1[q]? = H[q]?) : va_S (fun q => G.1 ≤ q) s.heap H1 (locs ++ [⟨a, k⟩]) := hF.put z oq (zk_rd_at (dA := fun _ => 0) hr).2.1
theorem zk_put_ok (hx : p.tables.exec = Jvm.exec) (hb : c.code = cc) (hown : s.vm.findClass (zk_cn cy) = some m.cls) (hts : ∀ w ∈ zk_tbl, w.before args s = true) (hS : zk_S G D dA s) (hP : zk_P G D dA h H) (hF : va_S (fun q => G.1 ≤ q) s.heap H locs) {ini : Bool} (hini : ini = true → meth.name = "<init>") {ix : Nat} {nest : Bool} {ci k : Nat} (hf : zk_fl cy ix = some (nest, ci, k)) {fs : List Value} (hr : zk_rd G h a = some (.inr (ci, fs))) {v : Value} (hl : k < fs.length) (hpm : zk_pm cy ini nest ci k = true) (hfit : zk_fit (zk_ty ci k) v = true) (hd : decode cc pc = .ok (.putfield ix, 3))
    (kk : zk_K p l e R s m args below meth c Q G D dA (zk_wr G h a (.inr (ci, fs.set k v))) cells slots (F0 m (pc + 3) ls rest)) : W p l e R s m args below meth c H locs cells slots Q (F0 m pc ls (v :: .ref a :: rest)) := by
  obtain ⟨h1, h2, h3⟩ := zk_fl_sp hf
  obtain ⟨q1, q2, q3⟩ := zk_rd_at (dA := dA) hr
  obtain ⟨f1, f2⟩ := zk_fit_sp hfit
  obtain ⟨t1, t2⟩ := zk_ty_at h2 h3
  have hty : ∀ k, k < zk_N ci → parseFieldDescriptor (zk_T ci k).2.2.1 = some (zk_ty ci k) := fun k hk => (zk_ty_at h2 hk).1
  have hin := (zk_ws_in h2).1
  have hap := va_apart (own := zk_cn cy) hts hin (zk_ty ci) hty (zk_nm_at h2) hS.1 (zk_CL_at h2)
  obtain ⟨r, g1, cell, c1, c2, c3, c4⟩ := hP.1 _ _ q1
  have hr2 : r = (zk_cn ci, zk_T ci, zk_N ci) := Option.some.inj (g1.symm.trans (zk_CL_at h2))
  subst hr2
  obtain ⟨hSl, hfc, kC, hkC, hkind⟩ := hS.1.1 ci _ (zk_CL_at h2)
  obtain ⟨cf, kf, fi, f, hi, hsl⟩ := hSl k h3
  have hst := (u_facts hfc hkC (u_lays hts hin h3) hi).1
  have hlay := hts _ (hin _ (u_in_lay h3))
  have hlt : f.slot < cell.slots.size := by rw [hsl]; exact k2_hasslot (c4 k h3)
  have fin : ∀ H' : Heap, H'[a]? = some (cell.setSlot f.slot v) → H'.size = H.size → (∀ q, q ≠ a → H'[q]? = H[q]?) → W p l e R s m args below meth c H' (locs ++ [⟨a, f.slot⟩]) cells slots Q (F0 m (pc + 3) ls rest) := by
    intro H' e1 e2 e3
    rw [hsl] at e1
    exact kk H' _ (zk_wr_P hP hr ⟨_, zk_CL_at h2, t_OB.to (V := updV (vp_V fs) k v) ⟨_, e1, c2, c3, t_set c4 hap h3 v⟩ (fun j _ => vp_updV_set hl v j)⟩ e2 e3) (zk_wr_F hF hr e2 e3)
  unfold u_lay at hlay
  unfold zk_pm at hpm
  by_cases hfin : (zk_T ci k).2.2.2 = true
  · rw [if_pos hfin] at hlay hpm
    simp only [Bool.and_eq_true, decide_eq_true_eq, Bool.not_eq_true'] at hpm
    obtain ⟨⟨p1, p2⟩, p3⟩ := hpm
    subst p2
    subst p3
    have hcf : m.cls = cf := by
      obtain ⟨_, _, c', _, _, _, -, -, hf', -, -, -, hown2, -⟩ := Cond.laysFinal_spec hlay
      have e1 : c' = cf := by have := hi.symm.trans hf'; simp at this; exact this.1.symm
      rw [t2] at hown2
      rw [← e1]; exact Option.some.inj (hown.symm.trans hown2)
    exact W.putFinK hx hb hown (hts _ (zk_tb h1 rfl)) hi hst hcf (hini p1) (by rw [c2]; exact u_fits hfc hkC hkind (Or.inr hlay) hi t1 f1 f2) c1 c3 hlt rfl rfl hd fin
  · rw [if_neg hfin] at hlay
    have h6 := u_store hfc hkC hkind hlay hi t1 f1 f2
    cases nest with
    | true => exact va_WputK hx hb (f := f) hown (va_Nw.use rfl (hS.2.1 _ h1 rfl)) hi hst (by rw [c2]; exact h6) c1 c3 hlt rfl rfl hd fin
    | false => exact W.putK hx hb (f := f) ⟨hown, hts _ (zk_tb h1 rfl), ⟨_, _, _, hi⟩, hst⟩ (by rw [c2]; exact h6) c1 c3 hlt rfl rfl hd fin
theorem zk_sz {cA n : Nat} {f : Nat → Value} (hin : vp_in i n) : ¬ (i < 0 ∨ (arrV cA n f).slots.size ≤ i.toNatClampNeg) := by rw [arrV_size]; exact hin
theorem zk_iast_ok (hx : p.tables.exec = Jvm.exec) (hb : c.code = cc) (hS : zk_S G D dA s) (hP : zk_P G D dA h H) (hF : va_S (fun q => G.1 ≤ q) s.heap H locs) {n : Nat} {f : Nat → Int32} {x : Int32} (hr : zk_rd G h a = some (.inl (0, n, .inl f))) (hi : zk_inb i n = true) (hd : decode cc pc = .ok (.iastore, 1))
    (kk : zk_K p l e R s m args below meth c Q G D dA (zk_wr G h a (.inl (0, n, .inl (upd f i.toNatClampNeg x)))) cells slots (F0 m (pc + 1) ls rest)) : W p l e R s m args below meth c H locs cells slots Q (F0 m pc ls (.int x :: .int i :: .ref a :: rest)) := by
  obtain ⟨q1, q2, q3⟩ := zk_rd_at (dA := dA) hr
  refine W.iast hx hb (hP.1 _ _ q1) ((hS.1.2 0 _ rfl).1 n (fun j => .int (f j))) (fun q => by cases q) (zk_sz (zk_in_vp hi)) rfl rfl hd fun H1 e z oq => ?_
  refine kk H1 _ (zk_wr_P hP hr ?_ z oq) (zk_wr_F hF hr z oq)
  show H1[a]? = some (vp_cell (dA 0) (n, .inl (upd f i.toNatClampNeg x)))
  rw [e]
  show some ((vp_cell (dA 0) (n, .inl f)).setSlot _ _) = _
  rw [vp_cell_i, vp_cell_i, arrV_store]
  congr 2
  funext q
  by_cases hq : q = i.toNatClampNeg
  · subst hq; simp [updV, upd]
  · simp [updV, upd, hq]
theorem zk_zast_ok (hx : p.tables.exec = Jvm.exec) (hb : c.code = cc) (hS : zk_S G D dA s) (hP : zk_P G D dA h H) (hF : va_S (fun q => G.1 ≤ q) s.heap H locs) {n : Nat} {f : Nat → Int32} {x : Int32} (hx1 : x = 0 ∨ x = 1) (hr : zk_rd G h a = some (.inl (2, n, .inl f))) (hi : zk_inb i n = true) (hd : decode cc pc = .ok (.bastore, 1))
    (kk : zk_K p l e R s m args below meth c Q G D dA (zk_wr G h a (.inl (2, n, .inl (upd f i.toNatClampNeg x)))) cells slots (F0 m (pc + 1) ls rest)) : W p l e R s m args below meth c H locs cells slots Q (F0 m pc ls (.int x :: .int i :: .ref a :: rest)) := by
  obtain ⟨q1, q2, q3⟩ := zk_rd_at (dA := dA) hr
  have hn : narrow .boolean (.int x) = .int x := by rcases hx1 with rfl | rfl <;> decide
  refine W.zast hx hb (hP.1 _ _ q1) ((hS.1.2 2 _ rfl).1 n (fun j => .int (f j))) (fun q => by cases q) (zk_sz (zk_in_vp hi)) rfl rfl hd fun H1 e z oq => ?_
  refine kk H1 _ (zk_wr_P hP hr ?_ z oq) (zk_wr_F hF hr z oq)
  show H1[a]? = some (vp_cell (dA 2) (n, .inl (upd f i.toNatClampNeg x)))
  rw [e, hn]
  show some ((vp_cell (dA 2) (n, .inl f)).setSlot _ _) = _
  rw [vp_cell_i, vp_cell_i, arrV_store]
  congr 2
  funext q
  by_cases hq : q = i.toNatClampNeg
  · subst hq; simp [updV, upd]
  · simp [updV, upd, hq]
theorem zk_last_ok (hx : p.tables.exec = Jvm.exec) (hb : c.code = cc) (hS : zk_S G D dA s) (hP : zk_P G D dA h H) (hF : va_S (fun q => G.1 ≤ q) s.heap H locs) {n : Nat} {f : Nat → Int64} {x : Int64} (hr : zk_rd G h a = some (.inl (1, n, .inr (.inl f)))) (hi : zk_inb i n = true) (hd : decode cc pc = .ok (.lastore, 1))
    (kk : zk_K p l e R s m args below meth c Q G D dA (zk_wr G h a (.inl (1, n, .inr (.inl (vp_updL f i.toNatClampNeg x))))) cells slots (F0 m (pc + 1) ls rest)) : W p l e R s m args below meth c H locs cells slots Q (F0 m pc ls (.long x :: .int i :: .ref a :: rest)) := by
  obtain ⟨q1, q2, q3⟩ := zk_rd_at (dA := dA) hr
  refine W.last hx hb (hP.1 _ _ q1) ((hS.1.2 1 _ rfl).1 n (fun j => .long (f j))) (fun q => by cases q) (zk_sz (zk_in_vp hi)) rfl rfl hd fun H1 e z oq => ?_
  refine kk H1 _ (zk_wr_P hP hr ?_ z oq) (zk_wr_F hF hr z oq)
  show H1[a]? = some (vp_cell (dA 1) (n, .inr (.inl (vp_updL f i.toNatClampNeg x))))
  rw [e]
  show some ((vp_cell (dA 1) (n, .inr (.inl f))).setSlot _ _) = _
  rw [vp_cell_l, vp_cell_l, arrV_store]
  congr 2
  funext q
  by_cases hq : q = i.toNatClampNeg
  · subst hq; simp [updV, vp_updL]
  · simp [updV, vp_updL, hq]
theorem zk_tys_at {t : Nat} (h3 : 3 ≤ t) (h6 : t ≤ 6) : (zk_tys dA)[t]? = some (dA t, .object (zk_cn (zk_ac t))) ∧ zk_ac t < 10 := by
  rcases (show t = 3 ∨ t = 4 ∨ t = 5 ∨ t = 6 by omega) with rfl | rfl | rfl | rfl <;> exact ⟨rfl, by decide⟩
theorem zk_aast_ok (hx : p.tables.exec = Jvm.exec) (hb : c.code = cc) (hS : zk_S G D dA s) (hP : zk_P G D dA h H) (hF : va_S (fun q => G.1 ≤ q) s.heap H locs) {t n v : Nat} {f : Nat → Option Nat} {vs : List Value} (h3 : 3 ≤ t) (h6 : t ≤ 6) (hr : zk_rd G h a = some (.inl (t, n, .inr (.inr (.inr (.inr f)))))) (hv : zk_rd G h v = some (.inr (zk_ac t, vs))) (hi : zk_inb i n = true) (hd : decode cc pc = .ok (.aastore, 1))
    (kk : zk_K p l e R s m args below meth c Q G D dA (zk_wr G h a (.inl (t, n, .inr (.inr (.inr (.inr (va_up f i.toNatClampNeg (some v)))))))) cells slots (F0 m (pc + 1) ls rest)) : W p l e R s m args below meth c H locs cells slots Q (F0 m pc ls (.ref v :: .int i :: .ref a :: rest)) := by
  obtain ⟨q1, q2, q3⟩ := zk_rd_at (dA := dA) hr
  obtain ⟨v1, v2, v3⟩ := zk_rd_at (dA := dA) hv
  obtain ⟨t1, t2⟩ := zk_tys_at (dA := dA) h3 h6
  have hin := zk_in_vp hi
  have hlt : i.toNatClampNeg < n := Nat.not_le.mp fun q => hin (Or.inr q)
  have h0 : ¬ i < 0 := fun q => hin (Or.inl q)
  obtain ⟨r', hr', cellV, g1, g2, g3, -⟩ := hP.1 _ _ v1
  have hcls := (hS.1.1 _ _ (zk_CL_at t2)).2
  obtain ⟨kA, comp, k1, k2, k3, -⟩ := (hS.1.2 _ _ t1).2
  have hcomp : comp = D.1 (zk_ac t) := Option.some.inj (k3.symm.trans hcls.1)
  subst hcomp
  obtain ⟨kC, hkC, -⟩ := hcls.2
  refine W.aast hx hb (hP.1 _ _ q1) (fun q h => by cases h) (fun h => by cases h) k1 k2 rfl hkC ⟨h0, by show _ < (arrV _ _ _).slots.size; rw [arrV_size]; exact hlt⟩ g1 (fun q h => by rw [g3] at h; cases h) (by rw [g2]; exact hkC) (by rw [g2]; exact va_assign hcls) rfl rfl hd fun H1 e z oq => ?_
  refine kk H1 _ (zk_wr_P hP hr ?_ z oq) (zk_wr_F hF hr z oq)
  show H1[a]? = some (vp_cell (dA t) (n, .inr (.inr (.inr (.inr (va_up f i.toNatClampNeg (some v)))))))
  rw [e]
  show some ((vp_cell (dA t) (n, .inr (.inr (.inr (.inr f))))).setSlot _ _) = _
  rw [vp_cell_q, vp_cell_q, arrV_store]
  congr 2
  funext q
  by_cases hq : q = i.toNatClampNeg
  · subst hq; simp [updV, va_up, va_rf]
  · simp [updV, va_up, hq]
theorem zk_al_P (hP : zk_P G D dA h H) {x : zk_E} {n : Nat} {H1 : Heap} (he : va_at D zk_CL (zk_nx G h, zk_tr dA x) H1) (z : H1.size = H.size + 1) (oq : ∀ q : Nat, q < H.size → H1[q]? = H[q]?) : zk_P G D dA (zk_al h x n) H1 := by
  refine ⟨?_, by rw [z, hP.2]; unfold zk_al; simp; omega⟩
  show va_P D zk_CL (zk_wl G.1 dA (h.1 ++ [x])) H1
  rw [zk_wl_app]
  refine (hP.1.kept (fun k q hk => oq q.1 ((hP.1 k q hk).lt))).app (fun k q hk => ?_)
  have hz : k < 1 := (List.getElem?_eq_some_iff.mp hk).1
  rw [show k = 0 by omega] at hk
  cases hk
  exact he
theorem zk_al_F (hF : va_S (fun q => G.1 ≤ q) s.heap H locs) {H1 : Heap} (z : H1.size = H.size + 1) (oq : ∀ q : Nat, q < H.size → H1[q]? = H[q]?) : va_S (fun q => G.1 ≤ q) s.heap H1 locs := ⟨Nat.le_trans hF.1 (by omega), fun q h1 h2 => (oq q (Nat.lt_of_lt_of_le h1 hF.1)).trans (hF.2.1 q h1 h2), hF.2.2⟩
theorem zk_df_at {ci j : Nat} (h : ci < 10) (hj : j < zk_N ci) : defaultValue (zk_ty ci j) = vp_V (zk_df ci) j := by
  have hl : (zk_tyl.getD ci []).length = zk_N ci := by
    have : (List.range 10).all (fun ci => decide ((zk_tyl.getD ci []).length = zk_N ci)) = true := by decide +kernel
    have h1 := List.all_eq_true.mp this ci (List.mem_range.mpr h)
    simpa using h1
  rw [← hl] at hj
  unfold zk_ty vp_V zk_df
  generalize zk_tyl.getD ci [] = tl at hj
  simp [List.getD, List.getElem?_eq_getElem hj]
theorem zk_new_ok (hx : p.tables.exec = Jvm.exec) (hb : c.code = cc) (hown : s.vm.findClass (zk_cn cy) = some m.cls) (hts : ∀ w ∈ zk_tbl, w.before args s = true) (hS : zk_S G D dA s) (hP : zk_P G D dA h H) (hF : va_S (fun q => G.1 ≤ q) s.heap H locs) {ix ci : Nat} (hk : zk_kc cy ix = some ci) (hRc : cells + 1 ≤ R.cells) (hRs : slots + zk_N ci ≤ R.slots) (hd : decode cc pc = .ok (.new ix, 3))
    (kk : zk_K p l e R s m args below meth c Q G D dA (zk_al h (.inr (ci, zk_df ci)) (zk_N ci)) (cells + 1) (slots + zk_N ci) (F0 m (pc + 3) ls (.ref (zk_nx G h) :: rest))) : W p l e R s m args below meth c H locs cells slots Q (F0 m pc ls rest) := by
  obtain ⟨h1, h2⟩ := zk_kc_sp hk
  obtain ⟨w1, w2, w3⟩ := zk_ws_in h2
  have hKn := hS.1.1 ci _ (zk_CL_at h2)
  refine W.newcK hx hb hown (hts _ h1) (hts _ w2) (hts _ w3) rfl hd hRc hRs hKn.2.1 hP.2 fun H1 kC hkC e1 z1 o1 => ?_
  have hty : ∀ k, k < zk_N ci → parseFieldDescriptor (zk_T ci k).2.2.1 = some (zk_ty ci k) := fun k hk => (zk_ty_at h2 hk).1
  refine kk H1 locs (zk_al_P hP ⟨_, zk_CL_at h2, (u_born (zk_ty ci) hts w1 hKn hkC e1 hty).to (fun j hj => ?_)⟩ (by rw [z1, hP.2]) (fun q hq => o1 q (by rw [← hP.2]; exact hq))) (zk_al_F hF (by rw [z1, hP.2]) (fun q hq => o1 q (by rw [← hP.2]; exact hq)))
  exact zk_df_at h2 hj
theorem zk_nn {n : Int32} (h : 0 ≤ n.toInt) : ¬ n < 0 := by
  intro q
  have := Int32.lt_iff_toInt_lt.mp q
  simp at this
  omega
theorem zk_cn1 {n : Int32} (h : n.toInt ≤ 65536) : n.toNatClampNeg ≤ 65536 := by
  show n.toInt.toNat ≤ 65536
  omega
theorem zk_newa_ok (hx : p.tables.exec = Jvm.exec) (hb : c.code = cc) (hts : ∀ w ∈ zk_tbl, w.before args s = true) (hS : zk_S G D dA s) (hP : zk_P G D dA h H) (hF : va_S (fun q => G.1 ≤ q) s.heap H locs) {n : Int32} (hn : 0 ≤ n.toInt) (hn2 : n.toInt ≤ 65536) {aty : ArrayType} {ty : FieldType} {t : Nat} {x : vp_A} (hty : newarray.typeOf aty = ty) (hw : Cond.arrayClass ty ∈ zk_tbl) (ht : (zk_tys dA)[t]? = some (dA t, ty)) (hra : ∀ cA : ClassId, va_RA s (dA t) ty → s.vm.findClass ("[" ++ ty.toString) = some cA → cA = dA t) (hbt : componentBytes ty ≤ 8) (hcell : vp_cell (dA t) x = arrV (dA t) n.toNatClampNeg (fun _ => defaultValue ty)) (hRc : cells + 1 ≤ R.cells) (hRs : slots + n.toNatClampNeg ≤ R.slots) (hd : decode cc pc = .ok (.newarray aty, 2))
    (kk : zk_K p l e R s m args below meth c Q G D dA (zk_al h (.inl (t, x)) n.toNatClampNeg) (cells + 1) (slots + n.toNatClampNeg) (F0 m (pc + 2) ls (.ref (zk_nx G h) :: rest))) : W p l e R s m args below meth c H locs cells slots Q (F0 m pc ls (.int n :: rest)) := by
  subst hty
  have hb2 : n.toNatClampNeg * componentBytes (newarray.typeOf aty) ≤ 536870912 := by
    have h1 := zk_cn1 hn2
    have h2 := Nat.mul_le_mul h1 hbt
    omega
  refine va_newaK hx hb (hts _ hw) rfl hd rfl (zk_nn hn) rfl hb2 hRc hRs hP.2 fun H1 cA e1 z1 o1 hAr hNm => ?_
  have hcA : cA = dA t := hra cA (hS.1.2 _ _ ht).2 hNm
  subst hcA
  refine kk H1 locs (zk_al_P hP ?_ (by rw [z1, hP.2]) (fun q hq => o1 q (by rw [← hP.2]; exact hq))) (zk_al_F hF (by rw [z1, hP.2]) (fun q hq => o1 q (by rw [← hP.2]; exact hq)))
  show H1[zk_nx G h]? = some (vp_cell (dA t) x)
  rw [hcell]
  exact e1
theorem zk_anew_ok (hx : p.tables.exec = Jvm.exec) (hb : c.code = cc) (hown : s.vm.findClass (zk_cn cy) = some m.cls) (hts : ∀ w ∈ zk_tbl, w.before args s = true) (hS : zk_S G D dA s) (hP : zk_P G D dA h H) (hF : va_S (fun q => G.1 ≤ q) s.heap H locs) {n : Int32} (hn : 0 ≤ n.toInt) (hn2 : n.toInt ≤ 65536) {ix ci t : Nat} (hk : zk_kc cy ix = some ci) (ht : zk_at ci = some t) (hRc : cells + 1 ≤ R.cells) (hRs : slots + n.toNatClampNeg ≤ R.slots) (hd : decode cc pc = .ok (.anewarray ix, 3))
    (kk : zk_K p l e R s m args below meth c Q G D dA (zk_al h (.inl (t, n.toNatClampNeg, .inr (.inr (.inr (.inr (fun _ => none)))))) n.toNatClampNeg) (cells + 1) (slots + n.toNatClampNeg) (F0 m (pc + 3) ls (.ref (zk_nx G h) :: rest))) : W p l e R s m args below meth c H locs cells slots Q (F0 m pc ls (.int n :: rest)) := by
  obtain ⟨h1, h2⟩ := zk_kc_sp hk
  obtain ⟨hao, htt⟩ : va_AO (zk_cn ci) s ∧ (zk_tys dA)[t]? = some (dA t, .object (zk_cn ci)) := by
    obtain ⟨a0, a1, a3, a7⟩ := hS.2.2.1
    unfold zk_at at ht
    split at ht
    next => cases ht; exact ⟨a0, rfl⟩
    next => cases ht; exact ⟨a1, rfl⟩
    next => cases ht; exact ⟨a3, rfl⟩
    next => cases ht; exact ⟨a7, rfl⟩
    next => cases ht
  have hb2 : n.toNatClampNeg * 4 ≤ 536870912 := by
    have h1 := zk_cn1 hn2
    omega
  refine W.anew hx hb hown (hts _ h1) (va_AO.use hao) rfl hd rfl (zk_nn hn) hb2 hRc hRs fun cA kA comp f1 f2 f3 f4 => ?_
  generalize hH1 : H.push ({ cls := cA, slots := Array.replicate n.toNatClampNeg .null, vm := .none } : Cell) = H1
  have z1 : H1.size = H.size + 1 := by rw [← hH1, Array.size_push]
  have e1 : H1[H.size]? = some (arrV cA n.toNatClampNeg (fun _ => .null)) := by rw [← hH1, Array.getElem?_push_size, ← arrV_new]
  have o1 : ∀ q : Nat, q < H.size → H1[q]? = H[q]? := fun q hq => by rw [← hH1, Array.getElem?_push, if_neg (Nat.ne_of_lt hq)]
  obtain ⟨kA', comp', k1, k2, k3, k4⟩ := (hS.1.2 _ _ htt).2
  have hcA : cA = dA t := Option.some.inj (f1.symm.trans k4)
  subst hcA
  have hnx : zk_nx G h = H.size := hP.2.symm
  rw [← hnx]
  refine kk H1 locs (zk_al_P hP ?_ z1 o1) (zk_al_F hF z1 o1)
  show H1[zk_nx G h]? = some (vp_cell (dA t) (n.toNatClampNeg, .inr (.inr (.inr (.inr (fun _ => none))))))
  rw [vp_cell_q, hnx]
  exact e1
theorem zk_copy_ok (hx : p.tables.exec = Jvm.exec) (hb : c.code = cc) (hml : c.maxLocals = ls.size) (hown : s.vm.findClass "java/util/Arrays" = some m.cls) (hts : ∀ w ∈ zk_tbl, w.before args s = true) (hS : zk_S G D dA s) (hP : zk_P G D dA h H) (hF : va_S (fun q => G.1 ≤ q) s.heap H locs) {b n0 n1 : Nat} {f g : Nat → Int32} {sp dp n : Int32} (hr0 : zk_rd G h b = some (.inl (0, n0, .inl f))) (hr1 : zk_rd G h a = some (.inl (0, n1, .inl g))) (h1 : 0 ≤ sp.toInt) (h2 : 0 ≤ dp.toInt) (h3 : 0 ≤ n.toInt) (h4 : sp.toInt + n.toInt ≤ n0) (h5 : dp.toInt + n.toInt ≤ n1) (hfr : 1 ≤ R.frames) (hlo : zk_sum rest + 18 ≤ R.locals) (hd : decode cc pc = .ok (.invokestatic 150, 3))
    (kk : zk_K p l e R s m args below meth c Q G D dA (zk_wr G h a (.inl (0, n1, .inl (va_cpy f g sp.toNatClampNeg dp.toNatClampNeg n.toNatClampNeg)))) cells slots (F0 m (pc + 3) ls rest)) : W p l e R s m args below meth c H locs cells slots Q (F0 m pc ls (.int n :: .int dp :: .ref a :: .int sp :: .ref b :: rest)) := by
  obtain ⟨q1, q2, q3⟩ := zk_rd_at (dA := dA) hr0
  obtain ⟨p1, p2, p3⟩ := zk_rd_at (dA := dA) hr1
  have nn : ∀ z : Int32, 0 ≤ z.toInt → z.toInt = (z.toNatClampNeg : Int) := fun z hz => by
    show z.toInt = ((z.toInt.toNat : Nat) : Int)
    omega
  have hc0 : H[b]? = some (vp_cell (dA 0) (n0, .inl f)) := hP.1 _ _ q1
  have hc1 : H[a]? = some (vp_cell (dA 0) (n1, .inl g)) := hP.1 _ _ p1
  have hw1 : (Cond.methodLink "java/util/Arrays" 150 arraycopyName).before args s = true := hts _ (zk_tb (List.mem_of_getElem? (i := 310) (by decide +kernel)) rfl)
  have hw2 : (Cond.native arraycopyName).before args s = true := hts _ (zk_tb (by decide +kernel) rfl)
  have hw3 : (Cond.static arraycopyName).before args s = true := hts _ (zk_tb (by decide +kernel) rfl)
  have hw4 : (Cond.initialized "java/lang/System").before args s = true := hts _ (zk_tb (by decide +kernel) rfl)
  have hsp : sp.toNatClampNeg + n.toNatClampNeg ≤ n0 := by have := nn sp h1; have := nn n h3; omega
  intro T hT X
  obtain ⟨-, k0, hk0, cm0, hkk0⟩ := (hS.1.2 0 _ rfl).1 n0 (fun j => .int (f j))
  obtain ⟨-, k1, hk1, cm1, hkk1⟩ := (hS.1.2 0 _ rfl).1 n1 (fun j => .int (g j))
  obtain ⟨vm', X', step⟩ := X.arraycopy hx hown hw1 hw2 hw3 hw4 (src := b) (dst := a) (cs := vp_cell (dA 0) (n0, .inl f)) (cd := vp_cell (dA 0) (n1, .inl g)) (srcPos := sp) (destPos := dp) (n := n) (by rw [hT]; exact hc0) (by rw [hT]; exact hc1)
    (fun _ h => by cases h) (fun _ h => by cases h) (fun h => by cases h) (fun h => by cases h) hk0 hk1 hkk0 hkk1 (by simp [refKind]) (zk_nn h1) (zk_nn h2) (zk_nn h3)
    (by show ¬ _ > ((arrV (dA 0) n0 (fun j => .int (f j))).slots.size : Int); rw [arrV_size]; omega)
    (by show ¬ _ > ((arrV (dA 0) n1 (fun j => .int (g j))).slots.size : Int); rw [arrV_size]; omega)
    (fun vm₁ _ i hi => by
      have e : (vp_cell (dA 0) (n0, .inl f)).slots.getD (sp.toNatClampNeg + i) .null = .int (f (sp.toNatClampNeg + i)) := by
        show (arrV (dA 0) n0 (fun j => .int (f j))).slots.getD _ _ = _
        rw [Array.getD_eq_getD_getElem?, arrV_read _ _ (by omega)]
        rfl
      refine ⟨?_, ?_⟩
      · rw [e]
        rfl
      · rw [e]
        exact trivial)
    (g := F0 m pc ls (.int n :: .int dp :: .ref a :: .int sp :: .ref b :: rest)) rfl (by rw [hml]) (rest := rest) rfl (by rw [hb]; exact hd) hfr (by
      show 2 * 0 + (rest.map fun v => v.category).sum + (nativeFrameWords "java/lang/System" "arraycopy" 5 + 11) ≤ _
      have e2 : nativeFrameWords "java/lang/System" "arraycopy" 5 = 7 := by decide +kernel
      rw [e2]
      have e3 : (rest.map fun v => v.category).sum + 18 ≤ R.locals := hlo
      omega)
  have e1 : copied (vp_cell (dA 0) (n0, .inl f)) (vp_cell (dA 0) (n1, .inl g)) sp dp n = vp_cell (dA 0) (n1, .inl (va_cpy f g sp.toNatClampNeg dp.toNatClampNeg n.toNatClampNeg)) := va_copied (fun z => .int z) (dA 0) (dA 0) f g hsp
  rw [e1] at X' step
  have hl : a < H.size := (Array.getElem?_eq_some_iff.mp hc1).1
  have hheap : ((T.setVm vm').setCell a (vp_cell (dA 0) (n1, .inl (va_cpy f g sp.toNatClampNeg dp.toNatClampNeg n.toNatClampNeg)))).heap = H.setIfInBounds a (vp_cell (dA 0) (n1, .inl (va_cpy f g sp.toNatClampNeg dp.toNatClampNeg n.toNatClampNeg))) := by rw [← hT]; rfl
  have oq : ∀ q : Nat, q ≠ a → (H.setIfInBounds a (vp_cell (dA 0) (n1, .inl (va_cpy f g sp.toNatClampNeg dp.toNatClampNeg n.toNatClampNeg))))[q]? = H[q]? := fun q hq => by simp [Array.getElem?_setIfInBounds, Ne.symm hq]
  obtain ⟨t, a1, b1⟩ := kk _ _ (zk_wr_P hP hr1 (show (H.setIfInBounds a _)[a]? = some _ by simp [Array.getElem?_setIfInBounds, hl, zk_tr]) (by simp) oq) ⟨by simp; exact hF.1, fun q g1 g2 => by
      rw [oq q (fun e => g2 (by rw [e]; exact p2))]
      exact hF.2.1 q g1 g2, fun q hq => by
      rcases List.mem_append.mp hq with h | h
      · exact hF.2.2 q h
      · obtain ⟨z, -, hz⟩ := List.mem_map.mp h
        rw [← hz]
        exact p2⟩ _ hheap X'
  exact ⟨t, step t a1, b1⟩
end ZKH
