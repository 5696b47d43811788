/-! settings of the class beside the model's -/
theorem xr_of {s s' : mS} {p : Int} (h1 : ∀ z, s' 100 z = s 100 z) (h2 : ∀ z, s' 101 z = s 101 z) : xr s' p = xr s p := by
  unfold xr; simp only [h1, h2]
theorem wI_of {s s' : mS} {p : Int} (h1 : ∀ z, s' 100 z = s 100 z) (h2 : ∀ z, s' 101 z = s 101 z) (h3 : ∀ z, s' 102 z = s 102 z) : wI s' p ↔ wI s p := by
  unfold wI; simp only [h1, h2, h3]
theorem zR_of {s s' m m' : mS} {z : Int} (h : zR s m z) (h1 : ∀ z, s' 100 z = s 100 z) (h2 : ∀ z, s' 101 z = s 101 z) (h3 : ∀ z, s' 102 z = s 102 z) (h4 : ∀ z, s' 60 z = s 60 z) (c : cfg m m') : zR s' m' z := by
  unfold zR at *
  simp only [xr_of h1 h2, wI_of h1 h2 h3, h4, cfg_ss c, cfg_os c, cfg_hs c, c 5 _ rfl]
  exact h
/-- the model's fields that a job's rows stand for -/
def jc (m m' : mS) : Prop := ∀ k z, (17 ≤ k ∧ k ≤ 21) ∨ k = 28 ∨ k = 29 ∨ (46 ≤ k ∧ k ≤ 48) → m' k z = m k z
theorem jR_of {s s' m m' : mS} {j : Int} (h : jR s m j) (h1 : ∀ z, s' 100 z = s 100 z) (h2 : ∀ z, s' 101 z = s 101 z) (h3 : ∀ z, s' 102 z = s 102 z) (c : jc m m') (e : ∀ k, (11 ≤ k ∧ k ≤ 16) ∨ k = 22 → s' k j = m' k j) : jR s' m' j := by
  obtain ⟨a, -, b⟩ := h
  have n1 : nwOf m' j = nwOf m j := by unfold nwOf; simp only [c 17 _ (by omega), c 18 _ (by omega)]
  have n2 : nnOf m' j = nnOf m j := by unfold nnOf; simp only [c 17 _ (by omega), c 19 _ (by omega)]
  have n3 : exOf m' j = exOf m j := by unfold exOf; simp only [c 20 _ (by omega), c 21 _ (by omega)]
  have n4 : xtOf m' j = xtOf m j := by unfold xtOf; simp only [c 28 _ (by omega), c 29 _ (by omega)]
  have n5 : efOf m' j = efOf m j := by unfold efOf; simp only [c 46 _ (by omega), c 47 _ (by omega)]
  have n6 : egOf m' j = egOf m j := by unfold egOf; simp only [c 46 _ (by omega), c 48 _ (by omega)]
  refine ⟨?_, ⟨e 11 (by omega), e 12 (by omega), e 13 (by omega), e 14 (by omega), e 15 (by omega), e 16 (by omega), e 22 (by omega)⟩, ?_⟩
  · simp only [xr_of h1 h2, n1, n2, n3, n4, n5, n6]
    exact a
  · simp only [wI_of h1 h2 h3]
    exact b
theorem awN_of {m m' : mS} {j : Int} (h : ∀ z, m' 27 z = m 27 z) : ∀ n, awN m' j n = awN m j n := by
  intro n
  induction n with
  | zero => rfl
  | succ n ih => unfold awN; rw [ih, h]
theorem awO_of {m m' : mS} {j : Int} (h : ∀ z, m' 27 z = m 27 z) (h2 : ∀ z, m' 26 z = m 26 z) : awO m' j = awO m j := by
  unfold awO; rw [h2, awN_of h]
theorem runR_of {s s' m m' : mS} {i : Int} (h : runR s m i) (hs : ∀ k, 63 ≤ k → k ≤ 67 → s' k i = s k i) (hm : ∀ k, 36 ≤ k → k ≤ 41 → m' k i = m k i) : runR s' m' i := by
  unfold runR at *
  rw [hs 63 (by omega) (by omega), hs 64 (by omega) (by omega), hs 65 (by omega) (by omega), hs 66 (by omega) (by omega), hs 67 (by omega) (by omega), hm 36 (by omega) (by omega), hm 37 (by omega) (by omega), hm 38 (by omega) (by omega), hm 39 (by omega) (by omega), hm 40 (by omega) (by omega), hm 41 (by omega) (by omega)]
  exact h
theorem REL_up {s m : mS} (hR : REL s m) (k : Nat) (z v : Int) (hk : shd k = true) (hn : k ≠ 1 ∧ k ≠ 10 ∧ k ≠ 30 ∧ k ≠ 36 ∧ k ≠ 53) (hv : k = 12 ∨ k = 14 ∨ (-2147483648 ≤ v ∧ v ≤ 2147483647)) : REL (up s k z v) (up m k z v) := by
  obtain ⟨r1, r2, r3, r4, r5, r6, r7⟩ := hR
  obtain ⟨n1, n10, n30, n36, n53⟩ := hn
  have no : ∀ c, shd c = false → c ≠ k := fun c hc e => by rw [e, hk] at hc; cases hc
  have us : ∀ c z', c ≠ k → up s k z v c z' = s c z' := fun c z' h => up_k _ _ _ _ h
  have um : ∀ c z', c ≠ k → up m k z v c z' = m c z' := fun c z' h => up_k _ _ _ _ h
  have rsh : RSH (up s k z v) (up m k z v) := by
    intro c z' hc
    unfold up
    rw [r1 c z' hc]
  refine ⟨rsh, ?_, ?_, ?_, ?_, ?_, ?_⟩
  · intro z' a b
    rw [um 53 0 (fun e => n53 e.symm)] at b
    rw [us 54 _ (no 54 rfl), um 54 _ (no 54 rfl)]
    exact r2 z' a b
  · intro i i1 i2
    obtain ⟨a, b, c, d⟩ := r3 i i1 i2
    refine ⟨runR_of a (fun c h1 h2 => us c i (no c ?_)) (fun c h1 h2 => um c i ?_), ?_, ?_, ?_⟩
    · have : c = 63 ∨ c = 64 ∨ c = 65 ∨ c = 66 ∨ c = 67 := by omega
      rcases this with rfl | rfl | rfl | rfl | rfl <;> rfl
    · have : c = 36 ∨ c = 37 ∨ c = 38 ∨ c = 39 ∨ c = 40 ∨ c = 41 := by omega
      rcases this with rfl | rfl | rfl | rfl | rfl | rfl
      · exact fun e => n36 e.symm
      all_goals exact no _ rfl
    · rw [us 62 i (no 62 rfl), um 30 i (fun e => n30 e.symm), um 34 i (no 34 rfl)]
      exact b
    · rw [us 62 i (no 62 rfl)]
      exact c
    · rw [us 62 i (no 62 rfl), um 10 0 (fun e => n10 e.symm)]
      exact d
  · intro z' a b
    rw [um 1 0 (fun e => n1 e.symm)] at b
    unfold zR
    have c : ∀ c z', (2 ≤ c ∧ c ≤ 6) → up m k z v c z' = m c z' := fun c z' h => um c z' (no c (by
      have : c = 2 ∨ c = 3 ∨ c = 4 ∨ c = 5 ∨ c = 6 := by omega
      rcases this with rfl | rfl | rfl | rfl | rfl <;> rfl))
    have e1 : ssOf (up m k z v) = ssOf m := by funext y; unfold ssOf; simp only [c 2 _ (by omega), c 3 _ (by omega)]
    have e2 : osOf (up m k z v) = osOf m := by funext y; unfold osOf; simp only [c 2 _ (by omega), c 4 _ (by omega)]
    have e3 : hsOf (up m k z v) = hsOf m := by funext y; unfold hsOf; simp only [c 5 _ (by omega), c 6 _ (by omega)]
    have f1 : ∀ z', up s k z v 100 z' = s 100 z' := fun z' => us 100 z' (no 100 rfl)
    have f2 : ∀ z', up s k z v 101 z' = s 101 z' := fun z' => us 101 z' (no 101 rfl)
    have f3 : ∀ z', up s k z v 102 z' = s 102 z' := fun z' => us 102 z' (no 102 rfl)
    have f4 : ∀ z', up s k z v 60 z' = s 60 z' := fun z' => us 60 z' (no 60 rfl)
    simp only [xr_of f1 f2, wI_of f1 f2 f3, f4, e1, e2, e3, c 5 _ (by omega : 2 ≤ 5 ∧ 5 ≤ 6)]
    exact r4 z' a b
  · intro j a b
    rw [um 10 0 (fun e => n10 e.symm)] at b
    obtain ⟨c1, c2⟩ := r5 j a b
    have nn : ∀ c, (17 ≤ c ∧ c ≤ 21) ∨ c = 28 ∨ c = 29 ∨ (46 ≤ c ∧ c ≤ 48) → c ≠ k := by
      intro c h
      refine no c ?_
      have : c = 17 ∨ c = 18 ∨ c = 19 ∨ c = 20 ∨ c = 21 ∨ c = 28 ∨ c = 29 ∨ c = 46 ∨ c = 47 ∨ c = 48 := by omega
      rcases this with rfl | rfl | rfl | rfl | rfl | rfl | rfl | rfl | rfl | rfl <;> rfl
    refine ⟨jR_of c1 (fun z' => us 100 z' (no 100 rfl)) (fun z' => us 101 z' (no 101 rfl)) (fun z' => us 102 z' (no 102 rfl)) (fun c z' h => um c z' (nn c h)) (fun c h => rsh c j ?_), ?_⟩
    · have : c = 11 ∨ c = 12 ∨ c = 13 ∨ c = 14 ∨ c = 15 ∨ c = 16 ∨ c = 22 := by omega
      rcases this with rfl | rfl | rfl | rfl | rfl | rfl | rfl <;> rfl
    · rw [us 61 j (no 61 rfl), awO_of (fun z' => um 27 z' (no 27 rfl)) (fun z' => um 26 z' (no 26 rfl))]
      exact c2
  · obtain ⟨a, b, c⟩ := r6
    refine ⟨?_, ?_, fun p hp => ?_⟩
    · rw [us 80 0 (no 80 rfl), um 1 0 (fun e => n1 e.symm)]; exact a
    · rw [us 81 0 (no 81 rfl), um 10 0 (fun e => n10 e.symm)]; exact b
    · rw [um 1 0 (fun e => n1 e.symm), um 10 0 (fun e => n10 e.symm)] at hp
      rw [us 102 p (no 102 rfl)]
      exact c p hp
  · intro c z' h1 h2
    unfold up
    by_cases e : c = k
    · rw [if_pos e]
      split
      · rcases hv with q | q | q
        · omega
        · omega
        · exact q
      · exact r7 c z' h1 h2
    · rw [if_neg e]
      exact r7 c z' h1 h2
theorem REL_dtx {s m m' : mS} (hR : REL s m) (h : dtx m m') : REL s m' := by
  have y : ∀ k z, k ≠ 7 → k ≠ 8 → k ≠ 9 → m' k z = m k z := h
  obtain ⟨r1, r2, r3, r4, r5, r6, r7⟩ := hR
  have h10 := y 10 0 (by decide) (by decide) (by decide)
  have h1 := y 1 0 (by decide) (by decide) (by decide)
  refine ⟨?_, ?_, ?_, ?_, ?_, ?_, r7⟩
  · intro k z hk
    rw [y k z (by intro e; rw [e] at hk; revert hk; decide) (by intro e; rw [e] at hk; revert hk; decide) (by intro e; rw [e] at hk; revert hk; decide)]
    exact r1 k z hk
  · intro z a b
    rw [y 53 0 (by decide) (by decide) (by decide)] at b
    rw [y 54 z (by decide) (by decide) (by decide)]
    exact r2 z a b
  · intro i i1 i2
    obtain ⟨a, b, c, d⟩ := r3 i i1 i2
    refine ⟨runR_of a (fun _ _ _ => rfl) (fun k k1 k2 => y k i (by omega) (by omega) (by omega)), ?_, c, ?_⟩
    · rw [y 30 i (by decide) (by decide) (by decide), y 34 i (by decide) (by decide) (by decide)]; exact b
    · rw [h10]; exact d
  · intro z a b
    rw [h1] at b
    exact zR_of (r4 z a b) (fun _ => rfl) (fun _ => rfl) (fun _ => rfl) (fun _ => rfl) (cfg_dtx h)
  · intro j a b
    rw [h10] at b
    obtain ⟨c1, c2⟩ := r5 j a b
    refine ⟨jR_of c1 (fun _ => rfl) (fun _ => rfl) (fun _ => rfl) (fun k z q => y k z (by omega) (by omega) (by omega)) (fun k q => ?_), ?_⟩
    · rw [y k j (by omega) (by omega) (by omega)]
      refine r1 k j ?_
      have : k = 11 ∨ k = 12 ∨ k = 13 ∨ k = 14 ∨ k = 15 ∨ k = 16 ∨ k = 22 := by omega
      rcases this with rfl | rfl | rfl | rfl | rfl | rfl | rfl <;> rfl
    · rw [awO_of (fun z => y 27 z (by decide) (by decide) (by decide)) (fun z => y 26 z (by decide) (by decide) (by decide))]; exact c2
  · unfold ROT
    rw [h1, h10]
    exact r6
section SET
variable {G : zk_G} {B : zk_H} {ad : Int → Nat} {s m : mS}
theorem CC_u (hB : hxo G B (m 1 0) (m 10 0) ad) {s' m' : mS} (hR : REL s' m') (h1 : m' 1 0 = m 1 0) (h10 : m' 10 0 = m 10 0) (hcs : cs s' = cs s) {y : Nat} {args : zk_L} {v : Int} (h : ∀ Q : Option Value → zk_H → Prop, zk_wp G y 0 (some (.ref (ad 0)) :: args) [] (hx G B (m 1 0) (m 10 0) ad s) Q ↔ Q (some (.int (iz v))) (hx G B (m 1 0) (m 10 0) ad s')) : CC G B ad s m y args v m' := by
  refine ⟨B, ad, s', ?_, rfl, hR, ?_⟩
  · rw [hcs, Int.sub_self, h1, h10]
    exact xE_r hB
  · rw [h1, h10]
    exact h
theorem cs_u (s : mS) (k : Nat) (z v : Int) (hk : k ≠ 102) : cs (up s k z v) = cs s := cs_of (fun p => up_k _ _ _ _ (fun e => hk e.symm))
theorem k_now (hB : hxo G B (m 1 0) (m 10 0) ad) (hR : REL s m) (t : Int) (ht : -2147483648 ≤ t ∧ t ≤ 2147483647) : CC G B ad s m 86 [some (.int (iz t))] (if 0 ≤ t ∧ t ≤ 21038399 then (if t < m 0 0 then -2 else 1) else -1) (if (0 ≤ t ∧ t ≤ 21038399) ∧ ¬ t < m 0 0 then up m 0 0 t else m) := by
  have im := c_isMin (G := G) (hx G B (m 1 0) (m 10 0) ad s) t ht
  have e0 := rel_k hR 0 0
  have q := rg_of hR.2.2.2.2.2.2 0 0
  rw [e0] at q
  by_cases c : 0 ≤ t ∧ t ≤ 21038399
  · rw [if_pos c] at im
    by_cases c2 : t < m 0 0
    · rw [if_pos c, if_pos c2, if_neg (fun q => q.2 c2)]
      refine CC_q hB hR (fun Q => zk_eq ?_ Q)
      simp (disch := first | omega | assumption | (simp; done)) only [u_86_0, u_86_1, u_86_4, u_86_7, u_86_8, u_86_9, u_86_10, u_86_11, u_86_14, u_86_17, u_86_19, u_86_21, u_86_22, u_86_25, u_86_26, true_or, or_true, zk_li1_s, zk_ll1_s, zk_la1_r, zk_la1_n, zk_lg0, zk_lgs, zk_co_n, zk_co_i, zk_co_r, zk_co_u, zk_co_l, zk_l1_0, zk_l1_1, zk_l1_s, zk_l2_0, zk_l2_1, zk_l2_s, zk_sm0, zk_smi, zk_smr, zk_smn, zk_sml, zk_fi, zk_fz, zk_fo, zk_fn, zk_fa, zk_ts, zk_tn, zk_cases, true_and, and_true, List.getElem?_cons_zero, List.getElem?_cons_succ, List.length_cons, List.length_nil, Nat.reduceAdd, Nat.reduceLT, Nat.reduceLeDiff, List.set_cons_zero, List.set_cons_succ, va_rf, xi_tk hB, xg_tk_0 hB, xg_tk_1 hB, xg_tk_2 hB, xg_tk_3 hB, xg_tk_4 hB, xg_tk_5 hB, xg_tk_6 hB, xp_tk_6 hB, xg_tk_7 hB, xp_tk_7 hB, xg_tk_8 hB, xp_tk_8 hB, xg_tk_9 hB, xp_tk_9 hB, iz_lit, iz_neg, iz_inj, iz_le, im, e0]
      all_goals ((repeat' (first | exact trivial | exact ⟨rfl, rfl⟩ | rfl | apply And.intro | intro _)) <;> first | omega | (exfalso; omega) | contradiction | (exfalso; simp_all; done) | trace_state)
    · rw [if_pos c, if_neg c2, if_pos ⟨c, c2⟩]
      refine CC_u hB (REL_up hR 0 0 t rfl (by decide) (by omega)) (up_k _ _ _ _ (by decide)) (up_k _ _ _ _ (by decide)) (cs_u _ _ _ _ (by decide)) (fun Q => zk_eq ?_ Q)
      simp (disch := first | omega | assumption | (simp; done)) only [u_86_0, u_86_1, u_86_4, u_86_7, u_86_8, u_86_9, u_86_10, u_86_11, u_86_14, u_86_19, u_86_20, u_86_21, u_86_22, u_86_25, u_86_26, true_or, or_true, zk_li1_s, zk_ll1_s, zk_la1_r, zk_la1_n, zk_lg0, zk_lgs, zk_co_n, zk_co_i, zk_co_r, zk_co_u, zk_co_l, zk_l1_0, zk_l1_1, zk_l1_s, zk_l2_0, zk_l2_1, zk_l2_s, zk_sm0, zk_smi, zk_smr, zk_smn, zk_sml, zk_fi, zk_fz, zk_fo, zk_fn, zk_fa, zk_ts, zk_tn, zk_cases, true_and, and_true, List.getElem?_cons_zero, List.getElem?_cons_succ, List.length_cons, List.length_nil, Nat.reduceAdd, Nat.reduceLT, Nat.reduceLeDiff, List.set_cons_zero, List.set_cons_succ, va_rf, xi_tk hB, xg_tk_0 hB, xg_tk_1 hB, xg_tk_2 hB, xg_tk_3 hB, xg_tk_4 hB, xg_tk_5 hB, xg_tk_6 hB, xp_tk_6 hB, xg_tk_7 hB, xp_tk_7 hB, xg_tk_8 hB, xp_tk_8 hB, xg_tk_9 hB, xp_tk_9 hB, iz_lit, iz_neg, iz_inj, iz_le, im, e0]
      all_goals ((repeat' (first | exact trivial | exact ⟨rfl, rfl⟩ | rfl | apply And.intro | intro _)) <;> first | omega | (exfalso; omega) | contradiction | (exfalso; simp_all; done) | trace_state)
  · rw [if_neg c, if_neg (fun q => c q.1)]
    rw [if_neg c] at im
    refine CC_q hB hR (fun Q => zk_eq ?_ Q)
    simp (disch := first | omega | assumption | (simp; done)) only [u_86_0, u_86_1, u_86_4, u_86_7, u_86_8, u_86_10, u_86_11, u_86_14, u_86_17, u_86_19, u_86_20, u_86_21, u_86_22, u_86_25, u_86_26, true_or, or_true, zk_li1_s, zk_ll1_s, zk_la1_r, zk_la1_n, zk_lg0, zk_lgs, zk_co_n, zk_co_i, zk_co_r, zk_co_u, zk_co_l, zk_l1_0, zk_l1_1, zk_l1_s, zk_l2_0, zk_l2_1, zk_l2_s, zk_sm0, zk_smi, zk_smr, zk_smn, zk_sml, zk_fi, zk_fz, zk_fo, zk_fn, zk_fa, zk_ts, zk_tn, zk_cases, true_and, and_true, List.getElem?_cons_zero, List.getElem?_cons_succ, List.length_cons, List.length_nil, Nat.reduceAdd, Nat.reduceLT, Nat.reduceLeDiff, List.set_cons_zero, List.set_cons_succ, va_rf, iz_lit, iz_neg, iz_inj, im]
    all_goals ((repeat' (first | exact trivial | exact ⟨rfl, rfl⟩ | rfl | apply And.intro | intro _)) <;> first | omega | (exfalso; omega) | contradiction | (exfalso; simp_all; done) | trace_state)
theorem k_restart (hB : hxo G B (m 1 0) (m 10 0) ad) (hR : REL s m) (i : Int) (hi : -2147483648 ≤ i ∧ i ≤ 2147483647) : CC G B ad s m 104 [some (.int (iz i))] (if 0 ≤ i ∧ i ≤ 2 then (if m 42 i = 0 then -2 else 1) else -1) (if (0 ≤ i ∧ i ≤ 2) ∧ ¬ m 42 i = 0 then up m 42 i 0 else m) := by
  have im := c_isSch (G := G) (hx G B (m 1 0) (m 10 0) ad s) i hi
  have e := rel_k hR 42 i
  have q := rg_of hR.2.2.2.2.2.2 42 i
  rw [e] at q
  by_cases c : 0 ≤ i ∧ i ≤ 2
  · rw [if_pos (by omega)] at im
    by_cases c2 : m 42 i = 0
    · rw [if_pos c, if_pos c2, if_neg (fun q => q.2 c2)]
      refine CC_q hB hR (fun Q => zk_eq ?_ Q)
      simp (disch := first | omega | assumption | (simp; done)) only [u_104_0, u_104_1, u_104_4, u_104_7, u_104_8, u_104_9, u_104_10, u_104_13, u_104_14, u_104_15, u_104_18, u_104_20, u_104_22, u_104_25, u_104_26, u_104_27, u_104_28, u_104_29, true_or, or_true, zk_li1_s, zk_ll1_s, zk_la1_r, zk_la1_n, zk_lg0, zk_lgs, zk_co_n, zk_co_i, zk_co_r, zk_co_u, zk_co_l, zk_l1_0, zk_l1_1, zk_l1_s, zk_l2_0, zk_l2_1, zk_l2_s, zk_sm0, zk_smi, zk_smr, zk_smn, zk_sml, zk_fi, zk_fz, zk_fo, zk_fn, zk_fa, zk_ts, zk_tn, zk_cases, true_and, and_true, List.getElem?_cons_zero, List.getElem?_cons_succ, List.length_cons, List.length_nil, Nat.reduceAdd, Nat.reduceLT, Nat.reduceLeDiff, List.set_cons_zero, List.set_cons_succ, va_rf, xi_tk hB, xg_tk_0 hB, xg_tk_1 hB, xg_tk_2 hB, xg_tk_3 hB, xg_tk_4 hB, xg_tk_5 hB, xg_tk_6 hB, xp_tk_6 hB, xg_tk_7 hB, xp_tk_7 hB, xg_tk_8 hB, xp_tk_8 hB, xg_tk_9 hB, xp_tk_9 hB, xz_sd hB, xw_sd hB, iz_lit, iz_neg, iz_inj, im, e]
      all_goals ((repeat' (first | exact trivial | exact ⟨rfl, rfl⟩ | rfl | apply And.intro | intro _)) <;> first | omega | (exfalso; omega) | contradiction | (exfalso; simp_all; done) | trace_state)
    · rw [if_pos c, if_neg c2, if_pos ⟨c, c2⟩]
      refine CC_u hB (REL_up hR 42 i 0 rfl (by decide) (by omega)) (up_k _ _ _ _ (by decide)) (up_k _ _ _ _ (by decide)) (cs_u _ _ _ _ (by decide)) (fun Q => zk_eq ?_ Q)
      simp (disch := first | omega | assumption | (simp; done)) only [u_104_0, u_104_1, u_104_4, u_104_7, u_104_8, u_104_9, u_104_10, u_104_13, u_104_14, u_104_15, u_104_20, u_104_21, u_104_22, u_104_25, u_104_26, u_104_27, u_104_28, u_104_29, true_or, or_true, zk_li1_s, zk_ll1_s, zk_la1_r, zk_la1_n, zk_lg0, zk_lgs, zk_co_n, zk_co_i, zk_co_r, zk_co_u, zk_co_l, zk_l1_0, zk_l1_1, zk_l1_s, zk_l2_0, zk_l2_1, zk_l2_s, zk_sm0, zk_smi, zk_smr, zk_smn, zk_sml, zk_fi, zk_fz, zk_fo, zk_fn, zk_fa, zk_ts, zk_tn, zk_cases, true_and, and_true, List.getElem?_cons_zero, List.getElem?_cons_succ, List.length_cons, List.length_nil, Nat.reduceAdd, Nat.reduceLT, Nat.reduceLeDiff, List.set_cons_zero, List.set_cons_succ, va_rf, xi_tk hB, xg_tk_0 hB, xg_tk_1 hB, xg_tk_2 hB, xg_tk_3 hB, xg_tk_4 hB, xg_tk_5 hB, xg_tk_6 hB, xp_tk_6 hB, xg_tk_7 hB, xp_tk_7 hB, xg_tk_8 hB, xp_tk_8 hB, xg_tk_9 hB, xp_tk_9 hB, xz_sd hB, xw_sd hB, iz_lit, iz_neg, iz_inj, im, e]
      all_goals ((repeat' (first | exact trivial | exact ⟨rfl, rfl⟩ | rfl | apply And.intro | intro _)) <;> first | omega | (exfalso; omega) | contradiction | (exfalso; simp_all; done) | trace_state)
  · rw [if_neg c, if_neg (fun q => c q.1)]
    rw [if_neg (by omega)] at im
    refine CC_q hB hR (fun Q => zk_eq ?_ Q)
    simp (disch := first | omega | assumption | (simp; done)) only [u_104_0, u_104_1, u_104_4, u_104_7, u_104_8, u_104_10, u_104_13, u_104_14, u_104_15, u_104_18, u_104_20, u_104_21, u_104_22, u_104_25, u_104_26, u_104_27, u_104_28, u_104_29, true_or, or_true, zk_li1_s, zk_ll1_s, zk_la1_r, zk_la1_n, zk_lg0, zk_lgs, zk_co_n, zk_co_i, zk_co_r, zk_co_u, zk_co_l, zk_l1_0, zk_l1_1, zk_l1_s, zk_l2_0, zk_l2_1, zk_l2_s, zk_sm0, zk_smi, zk_smr, zk_smn, zk_sml, zk_fi, zk_fz, zk_fo, zk_fn, zk_fa, zk_ts, zk_tn, zk_cases, true_and, and_true, List.getElem?_cons_zero, List.getElem?_cons_succ, List.length_cons, List.length_nil, Nat.reduceAdd, Nat.reduceLT, Nat.reduceLeDiff, List.set_cons_zero, List.set_cons_succ, va_rf, iz_lit, iz_neg, iz_inj, im]
    all_goals ((repeat' (first | exact trivial | exact ⟨rfl, rfl⟩ | rfl | apply And.intro | intro _)) <;> first | omega | (exfalso; omega) | contradiction | (exfalso; simp_all; done) | trace_state)
theorem k_desk (hB : hxo G B (m 1 0) (m 10 0) ad) (hR : REL s m) (i b : Int) (hi : -2147483648 ≤ i ∧ i ≤ 2147483647) (hb : b = 0 ∨ b = 1) : CC G B ad s m 105 [some (.int (iz i)), some (.int (iz b)), none] (if 0 ≤ i ∧ i ≤ 1 then (if m 43 i = 0 then 0 else 1) else -1) (if 0 ≤ i ∧ i ≤ 1 then up m 43 i b else m) := by
  have im := c_isDesk (G := G) (hx G B (m 1 0) (m 10 0) ad s) i hi
  have e := rel_k hR 43 i
  have q := rg_of hR.2.2.2.2.2.2 43 i
  rw [e] at q
  by_cases c : 0 ≤ i ∧ i ≤ 1
  · rw [if_pos (by omega)] at im
    rw [if_pos c, if_pos c]
    refine CC_u hB (REL_up hR 43 i b rfl (by decide) (by omega)) (up_k _ _ _ _ (by decide)) (up_k _ _ _ _ (by decide)) (cs_u _ _ _ _ (by decide)) (fun Q => zk_eq ?_ Q)
    by_cases c2 : m 43 i = 0
    · rw [if_pos c2]
      simp (disch := first | omega | assumption | (simp; done)) only [u_105_0, u_105_1, u_105_4, u_105_8, u_105_9, u_105_10, u_105_13, u_105_14, u_105_15, u_105_18, u_105_19, u_105_22, u_105_23, u_105_24, u_105_25, u_105_28, u_105_29, u_105_30, u_105_31, u_105_32, true_or, or_true, zk_li1_s, zk_ll1_s, zk_la1_r, zk_la1_n, zk_lg0, zk_lgs, zk_co_n, zk_co_i, zk_co_r, zk_co_u, zk_co_l, zk_l1_0, zk_l1_1, zk_l1_s, zk_l2_0, zk_l2_1, zk_l2_s, zk_sm0, zk_smi, zk_smr, zk_smn, zk_sml, zk_fi, zk_fz, zk_fo, zk_fn, zk_fa, zk_ts, zk_tn, zk_cases, true_and, and_true, List.getElem?_cons_zero, List.getElem?_cons_succ, List.length_cons, List.length_nil, Nat.reduceAdd, Nat.reduceLT, Nat.reduceLeDiff, List.set_cons_zero, List.set_cons_succ, va_rf, xi_tk hB, xg_tk_0 hB, xg_tk_1 hB, xg_tk_2 hB, xg_tk_3 hB, xg_tk_4 hB, xg_tk_5 hB, xg_tk_6 hB, xp_tk_6 hB, xg_tk_7 hB, xp_tk_7 hB, xg_tk_8 hB, xp_tk_8 hB, xg_tk_9 hB, xp_tk_9 hB, xz_dd hB, xw_dd hB, iz_lit, iz_neg, iz_inj, im, e]
      all_goals ((repeat' (first | exact trivial | exact ⟨rfl, rfl⟩ | rfl | apply And.intro | intro _)) <;> first | omega | (exfalso; omega) | contradiction | (exfalso; simp_all; done) | trace_state)
    · rw [if_neg c2]
      simp (disch := first | omega | assumption | (simp; done)) only [u_105_0, u_105_1, u_105_4, u_105_8, u_105_9, u_105_10, u_105_13, u_105_14, u_105_15, u_105_18, u_105_19, u_105_22, u_105_23, u_105_24, u_105_25, u_105_28, u_105_29, u_105_30, u_105_31, u_105_32, true_or, or_true, zk_li1_s, zk_ll1_s, zk_la1_r, zk_la1_n, zk_lg0, zk_lgs, zk_co_n, zk_co_i, zk_co_r, zk_co_u, zk_co_l, zk_l1_0, zk_l1_1, zk_l1_s, zk_l2_0, zk_l2_1, zk_l2_s, zk_sm0, zk_smi, zk_smr, zk_smn, zk_sml, zk_fi, zk_fz, zk_fo, zk_fn, zk_fa, zk_ts, zk_tn, zk_cases, true_and, and_true, List.getElem?_cons_zero, List.getElem?_cons_succ, List.length_cons, List.length_nil, Nat.reduceAdd, Nat.reduceLT, Nat.reduceLeDiff, List.set_cons_zero, List.set_cons_succ, va_rf, xi_tk hB, xg_tk_0 hB, xg_tk_1 hB, xg_tk_2 hB, xg_tk_3 hB, xg_tk_4 hB, xg_tk_5 hB, xg_tk_6 hB, xp_tk_6 hB, xg_tk_7 hB, xp_tk_7 hB, xg_tk_8 hB, xp_tk_8 hB, xg_tk_9 hB, xp_tk_9 hB, xz_dd hB, xw_dd hB, iz_lit, iz_neg, iz_inj, im, e]
      all_goals ((repeat' (first | exact trivial | exact ⟨rfl, rfl⟩ | rfl | apply And.intro | intro _)) <;> first | omega | (exfalso; omega) | contradiction | (exfalso; simp_all; done) | trace_state)
  · rw [if_neg c, if_neg c]
    rw [if_neg (by omega)] at im
    refine CC_q hB hR (fun Q => zk_eq ?_ Q)
    simp (disch := first | omega | assumption | (simp; done)) only [u_105_0, u_105_1, u_105_4, u_105_7, u_105_8, u_105_10, u_105_13, u_105_14, u_105_15, u_105_18, u_105_19, u_105_22, u_105_23, u_105_24, u_105_25, u_105_28, u_105_29, u_105_30, u_105_31, u_105_32, true_or, or_true, zk_li1_s, zk_ll1_s, zk_la1_r, zk_la1_n, zk_lg0, zk_lgs, zk_co_n, zk_co_i, zk_co_r, zk_co_u, zk_co_l, zk_l1_0, zk_l1_1, zk_l1_s, zk_l2_0, zk_l2_1, zk_l2_s, zk_sm0, zk_smi, zk_smr, zk_smn, zk_sml, zk_fi, zk_fz, zk_fo, zk_fn, zk_fa, zk_ts, zk_tn, zk_cases, true_and, and_true, List.getElem?_cons_zero, List.getElem?_cons_succ, List.length_cons, List.length_nil, Nat.reduceAdd, Nat.reduceLT, Nat.reduceLeDiff, List.set_cons_zero, List.set_cons_succ, va_rf, iz_lit, iz_neg, iz_inj, im]
    all_goals ((repeat' (first | exact trivial | exact ⟨rfl, rfl⟩ | rfl | apply And.intro | intro _)) <;> first | omega | (exfalso; omega) | contradiction | (exfalso; simp_all; done) | trace_state)
theorem k_onHol (hB : hxo G B (m 1 0) (m 10 0) ad) (hR : REL s m) (hM : MC m) (j w : Int) (hj : -2147483648 ≤ j ∧ j ≤ 2147483647) (hw : -2147483648 ≤ w ∧ w ≤ 2147483647) : CC G B ad s m 75 [some (.int (iz j)), some (.int (iz w)), none, none] (if (0 ≤ j ∧ j < m 10 0) ∧ (0 ≤ w ∧ w ≤ 2) then m 22 j else -1) (if (0 ≤ j ∧ j < m 10 0) ∧ (0 ≤ w ∧ w ≤ 2) then up m 22 j w else m) := by
  have hc := rel_cI hR hM
  have e := rel_k hR 22 j
  by_cases c1 : 0 ≤ j ∧ j < m 10 0
  · have ja := c_jobAt hB hc j c1
    by_cases c2 : 0 ≤ w ∧ w ≤ 2
    · rw [if_pos ⟨c1, c2⟩, if_pos ⟨c1, c2⟩]
      refine CC_u hB (REL_up hR 22 j w rfl (by decide) (by omega)) (up_k _ _ _ _ (by decide)) (up_k _ _ _ _ (by decide)) (cs_u _ _ _ _ (by decide)) (fun Q => zk_eq ?_ Q)
      simp (disch := first | omega | assumption | (simp; done)) only [u_75_0, u_75_1, u_75_2, u_75_5, u_75_5N, u_75_6, u_75_7, u_75_7N, u_75_10, u_75_11, u_75_14, u_75_15, u_75_16, u_75_20, u_75_21, u_75_22, u_75_25, u_75_28, u_75_30, u_75_31, u_75_34, u_75_35, u_75_38, u_75_40, true_or, or_true, zk_li1_s, zk_ll1_s, zk_la1_r, zk_la1_n, zk_lg0, zk_lgs, zk_co_n, zk_co_i, zk_co_r, zk_co_u, zk_co_l, zk_l1_0, zk_l1_1, zk_l1_s, zk_l2_0, zk_l2_1, zk_l2_s, zk_sm0, zk_smi, zk_smr, zk_smn, zk_sml, zk_fi, zk_fz, zk_fo, zk_fn, zk_fa, zk_ts, zk_tn, zk_cases, true_and, and_true, List.getElem?_cons_zero, List.getElem?_cons_succ, List.length_cons, List.length_nil, Nat.reduceAdd, Nat.reduceLT, Nat.reduceLeDiff, List.set_cons_zero, List.set_cons_succ, va_rf, xi_tk hB, xg_tk_0 hB, xg_tk_1 hB, xg_tk_2 hB, xg_tk_3 hB, xg_tk_4 hB, xg_tk_5 hB, xg_tk_6 hB, xp_tk_6 hB, xg_tk_7 hB, xp_tk_7 hB, xg_tk_8 hB, xp_tk_8 hB, xg_tk_9 hB, xp_tk_9 hB, xi_jo hB, xg_jo_0 hB, xg_jo_1 hB, xg_jo_2 hB, xg_jo_3 hB, xp_jo_3 hB, xg_jo_4 hB, xp_jo_4 hB, xg_jo_5 hB, xp_jo_5 hB, xg_jo_6 hB, xp_jo_6 hB, xg_jo_7 hB, xp_jo_7 hB, xg_jo_8 hB, xp_jo_8 hB, xi_rr hB, xg_rr_0 hB, xg_rr_1 hB, xg_rr_2 hB, xg_rr_3 hB, xg_rr_4 hB, xg_rr_5 hB, xg_rr_6 hB, xp_rr_6 hB, iz_lit, iz_lt, iz_le, ja, e]
      all_goals ((repeat' (first | exact trivial | exact ⟨rfl, rfl⟩ | rfl | apply And.intro | intro _)) <;> first | omega | (exfalso; omega) | contradiction | (exfalso; simp_all; done) | trace_state)
    · rw [if_neg (fun q => c2 q.2), if_neg (fun q => c2 q.2)]
      refine CC_q hB hR (fun Q => zk_eq ?_ Q)
      simp (disch := first | omega | assumption | (simp; done)) only [u_75_0, u_75_1, u_75_2, u_75_5, u_75_5N, u_75_6, u_75_7, u_75_7N, u_75_10, u_75_11, u_75_14, u_75_15, u_75_16, u_75_19, u_75_20, u_75_22, u_75_25, u_75_28, u_75_30, u_75_31, u_75_34, u_75_35, u_75_38, u_75_40, true_or, or_true, zk_li1_s, zk_ll1_s, zk_la1_r, zk_la1_n, zk_lg0, zk_lgs, zk_co_n, zk_co_i, zk_co_r, zk_co_u, zk_co_l, zk_l1_0, zk_l1_1, zk_l1_s, zk_l2_0, zk_l2_1, zk_l2_s, zk_sm0, zk_smi, zk_smr, zk_smn, zk_sml, zk_fi, zk_fz, zk_fo, zk_fn, zk_fa, zk_ts, zk_tn, zk_cases, true_and, and_true, List.getElem?_cons_zero, List.getElem?_cons_succ, List.length_cons, List.length_nil, Nat.reduceAdd, Nat.reduceLT, Nat.reduceLeDiff, List.set_cons_zero, List.set_cons_succ, va_rf, xi_tk hB, iz_lit, iz_neg, iz_lt, iz_le, ja]
      all_goals ((repeat' (first | exact trivial | exact ⟨rfl, rfl⟩ | rfl | apply And.intro | intro _)) <;> first | omega | (exfalso; omega) | contradiction | (exfalso; simp_all; done) | trace_state)
  · rw [if_neg (fun q => c1 q.1), if_neg (fun q => c1 q.1)]
    have ja := c_jobAt0 hB hc j hj c1
    refine CC_q hB hR (fun Q => zk_eq ?_ Q)
    simp (disch := first | omega | assumption | (simp; done)) only [u_75_0, u_75_1, u_75_2, u_75_5, u_75_5N, u_75_6, u_75_7, u_75_7N, u_75_11, u_75_14, u_75_15, u_75_16, u_75_19, u_75_20, u_75_22, u_75_25, u_75_28, u_75_30, u_75_31, u_75_34, u_75_35, u_75_38, u_75_40, true_or, or_true, zk_li1_s, zk_ll1_s, zk_la1_r, zk_la1_n, zk_lg0, zk_lgs, zk_co_n, zk_co_i, zk_co_r, zk_co_u, zk_co_l, zk_l1_0, zk_l1_1, zk_l1_s, zk_l2_0, zk_l2_1, zk_l2_s, zk_sm0, zk_smi, zk_smr, zk_smn, zk_sml, zk_fi, zk_fz, zk_fo, zk_fn, zk_fa, zk_ts, zk_tn, zk_cases, true_and, and_true, List.getElem?_cons_zero, List.getElem?_cons_succ, List.length_cons, List.length_nil, Nat.reduceAdd, Nat.reduceLT, Nat.reduceLeDiff, List.set_cons_zero, List.set_cons_succ, va_rf, xi_tk hB, iz_lit, iz_neg, ja]
    all_goals ((repeat' (first | exact trivial | exact ⟨rfl, rfl⟩ | rfl | apply And.intro | intro _)) <;> first | omega | (exfalso; omega) | contradiction | (exfalso; simp_all; done) | trace_state)
theorem k_catch (hB : hxo G B (m 1 0) (m 10 0) ad) (hR : REL s m) (hM : MC m) (j w l : Int) (hj : -2147483648 ≤ j ∧ j ≤ 2147483647) (hw : -2147483648 ≤ w ∧ w ≤ 2147483647) (hl : -2147483648 ≤ l ∧ l ≤ 2147483647) : CC G B ad s m 76 [some (.int (iz j)), some (.int (iz w)), some (.int (iz l)), none] (if (0 ≤ j ∧ j < m 10 0) ∧ (0 ≤ w ∧ w ≤ 2) ∧ (0 ≤ l ∧ l ≤ 1440) then 1 else -1) (if (0 ≤ j ∧ j < m 10 0) ∧ (0 ≤ w ∧ w ≤ 2) ∧ (0 ≤ l ∧ l ≤ 1440) then up (up m 23 j w) 24 j l else m) := by
  have hc := rel_cI hR hM
  by_cases c1 : 0 ≤ j ∧ j < m 10 0
  · have ja := c_jobAt hB hc j c1
    by_cases c2 : (0 ≤ w ∧ w ≤ 2) ∧ (0 ≤ l ∧ l ≤ 1440)
    · rw [if_pos ⟨c1, c2⟩, if_pos ⟨c1, c2⟩]
      refine CC_u hB (REL_up (REL_up hR 23 j w rfl (by decide) (by omega)) 24 j l rfl (by decide) (by omega)) (by rw [up_k _ _ _ _ (by decide), up_k _ _ _ _ (by decide)]) (by rw [up_k _ _ _ _ (by decide), up_k _ _ _ _ (by decide)]) (by rw [cs_u _ _ _ _ (by decide), cs_u _ _ _ _ (by decide)]) (fun Q => zk_eq ?_ Q)
      simp (disch := first | omega | assumption | (simp; done)) only [u_76_0, u_76_1, u_76_2, u_76_5, u_76_5N, u_76_7, u_76_9, u_76_9N, u_76_12, u_76_13, u_76_16, u_76_17, u_76_18, u_76_21, u_76_22, u_76_25, u_76_26, u_76_29, u_76_33, u_76_34, u_76_36, u_76_37, u_76_40, u_76_42, u_76_43, u_76_46, u_76_47, true_or, or_true, zk_li1_s, zk_ll1_s, zk_la1_r, zk_la1_n, zk_lg0, zk_lgs, zk_co_n, zk_co_i, zk_co_r, zk_co_u, zk_co_l, zk_l1_0, zk_l1_1, zk_l1_s, zk_l2_0, zk_l2_1, zk_l2_s, zk_sm0, zk_smi, zk_smr, zk_smn, zk_sml, zk_fi, zk_fz, zk_fo, zk_fn, zk_fa, zk_ts, zk_tn, zk_cases, true_and, and_true, List.getElem?_cons_zero, List.getElem?_cons_succ, List.length_cons, List.length_nil, Nat.reduceAdd, Nat.reduceLT, Nat.reduceLeDiff, List.set_cons_zero, List.set_cons_succ, va_rf, xi_tk hB, xg_tk_0 hB, xg_tk_1 hB, xg_tk_2 hB, xg_tk_3 hB, xg_tk_4 hB, xg_tk_5 hB, xg_tk_6 hB, xp_tk_6 hB, xg_tk_7 hB, xp_tk_7 hB, xg_tk_8 hB, xp_tk_8 hB, xg_tk_9 hB, xp_tk_9 hB, xi_jo hB, xg_jo_0 hB, xg_jo_1 hB, xg_jo_2 hB, xg_jo_3 hB, xp_jo_3 hB, xg_jo_4 hB, xp_jo_4 hB, xg_jo_5 hB, xp_jo_5 hB, xg_jo_6 hB, xp_jo_6 hB, xg_jo_7 hB, xp_jo_7 hB, xg_jo_8 hB, xp_jo_8 hB, iz_lit, iz_lt, iz_le, ja]
      all_goals ((repeat' (first | exact trivial | exact ⟨rfl, rfl⟩ | rfl | apply And.intro | intro _)) <;> first | omega | (exfalso; omega) | contradiction | (exfalso; simp_all; done) | trace_state)
    · rw [if_neg (fun q => c2 q.2), if_neg (fun q => c2 q.2)]
      refine CC_q hB hR (fun Q => zk_eq ?_ Q)
      simp (disch := first | omega | assumption | (simp; done)) only [u_76_0, u_76_1, u_76_2, u_76_5, u_76_5N, u_76_7, u_76_9, u_76_9N, u_76_12, u_76_13, u_76_16, u_76_17, u_76_18, u_76_21, u_76_22, u_76_25, u_76_26, u_76_29, u_76_32, u_76_33, u_76_36, u_76_37, u_76_40, u_76_42, u_76_43, u_76_46, u_76_47, true_or, or_true, zk_li1_s, zk_ll1_s, zk_la1_r, zk_la1_n, zk_lg0, zk_lgs, zk_co_n, zk_co_i, zk_co_r, zk_co_u, zk_co_l, zk_l1_0, zk_l1_1, zk_l1_s, zk_l2_0, zk_l2_1, zk_l2_s, zk_sm0, zk_smi, zk_smr, zk_smn, zk_sml, zk_fi, zk_fz, zk_fo, zk_fn, zk_fa, zk_ts, zk_tn, zk_cases, true_and, and_true, List.getElem?_cons_zero, List.getElem?_cons_succ, List.length_cons, List.length_nil, Nat.reduceAdd, Nat.reduceLT, Nat.reduceLeDiff, List.set_cons_zero, List.set_cons_succ, va_rf, xi_tk hB, iz_lit, iz_neg, iz_lt, iz_le, ja]
      all_goals ((repeat' (first | exact trivial | exact ⟨rfl, rfl⟩ | rfl | apply And.intro | intro _)) <;> first | omega | (exfalso; omega) | contradiction | (exfalso; simp_all; done) | trace_state)
  · rw [if_neg (fun q => c1 q.1), if_neg (fun q => c1 q.1)]
    have ja := c_jobAt0 hB hc j hj c1
    refine CC_q hB hR (fun Q => zk_eq ?_ Q)
    simp (disch := first | omega | assumption | (simp; done)) only [u_76_0, u_76_1, u_76_2, u_76_5, u_76_5N, u_76_7, u_76_9, u_76_9N, u_76_13, u_76_16, u_76_17, u_76_18, u_76_21, u_76_22, u_76_25, u_76_26, u_76_29, u_76_32, u_76_33, u_76_36, u_76_37, u_76_40, u_76_42, u_76_43, u_76_46, u_76_47, true_or, or_true, zk_li1_s, zk_ll1_s, zk_la1_r, zk_la1_n, zk_lg0, zk_lgs, zk_co_n, zk_co_i, zk_co_r, zk_co_u, zk_co_l, zk_l1_0, zk_l1_1, zk_l1_s, zk_l2_0, zk_l2_1, zk_l2_s, zk_sm0, zk_smi, zk_smr, zk_smn, zk_sml, zk_fi, zk_fz, zk_fo, zk_fn, zk_fa, zk_ts, zk_tn, zk_cases, true_and, and_true, List.getElem?_cons_zero, List.getElem?_cons_succ, List.length_cons, List.length_nil, Nat.reduceAdd, Nat.reduceLT, Nat.reduceLeDiff, List.set_cons_zero, List.set_cons_succ, va_rf, xi_tk hB, iz_lit, iz_neg, ja]
    all_goals ((repeat' (first | exact trivial | exact ⟨rfl, rfl⟩ | rfl | apply And.intro | intro _)) <;> first | omega | (exfalso; omega) | contradiction | (exfalso; simp_all; done) | trace_state)
theorem k_pause (hB : hxo G B (m 1 0) (m 10 0) ad) (hR : REL s m) (hM : MC m) (j b : Int) (hj : -2147483648 ≤ j ∧ j ≤ 2147483647) (hb : b = 0 ∨ b = 1) : CC G B ad s m 79 [some (.int (iz j)), some (.int (iz b)), none, none] (if 0 ≤ j ∧ j < m 10 0 then (if m 25 j = 0 then 0 else 1) else -1) (if 0 ≤ j ∧ j < m 10 0 then up m 25 j b else m) := by
  have hc := rel_cI hR hM
  have e := rel_k hR 25 j
  have q := rg_of hM.1 25 j
  by_cases c1 : 0 ≤ j ∧ j < m 10 0
  · have ja := c_jobAt hB hc j c1
    rw [if_pos c1, if_pos c1]
    refine CC_u hB (REL_up hR 25 j b rfl (by decide) (by omega)) (up_k _ _ _ _ (by decide)) (up_k _ _ _ _ (by decide)) (cs_u _ _ _ _ (by decide)) (fun Q => zk_eq ?_ Q)
    by_cases c2 : m 25 j = 0
    · rw [if_pos c2]
      simp (disch := first | omega | assumption | (simp; done)) only [u_79_0, u_79_1, u_79_2, u_79_5, u_79_5N, u_79_6, u_79_7, u_79_7N, u_79_11, u_79_12, u_79_13, u_79_16, u_79_19, u_79_20, u_79_23, u_79_24, u_79_26, u_79_27, u_79_28, u_79_31, u_79_33, true_or, or_true, zk_li1_s, zk_ll1_s, zk_la1_r, zk_la1_n, zk_lg0, zk_lgs, zk_co_n, zk_co_i, zk_co_r, zk_co_u, zk_co_l, zk_l1_0, zk_l1_1, zk_l1_s, zk_l2_0, zk_l2_1, zk_l2_s, zk_sm0, zk_smi, zk_smr, zk_smn, zk_sml, zk_fi, zk_fz, zk_fo, zk_fn, zk_fa, zk_ts, zk_tn, zk_cases, true_and, and_true, List.getElem?_cons_zero, List.getElem?_cons_succ, List.length_cons, List.length_nil, Nat.reduceAdd, Nat.reduceLT, Nat.reduceLeDiff, List.set_cons_zero, List.set_cons_succ, va_rf, xi_tk hB, xg_tk_0 hB, xg_tk_1 hB, xg_tk_2 hB, xg_tk_3 hB, xg_tk_4 hB, xg_tk_5 hB, xg_tk_6 hB, xp_tk_6 hB, xg_tk_7 hB, xp_tk_7 hB, xg_tk_8 hB, xp_tk_8 hB, xg_tk_9 hB, xp_tk_9 hB, xi_jo hB, xg_jo_0 hB, xg_jo_1 hB, xg_jo_2 hB, xg_jo_3 hB, xp_jo_3 hB, xg_jo_4 hB, xp_jo_4 hB, xg_jo_5 hB, xp_jo_5 hB, xg_jo_6 hB, xp_jo_6 hB, xg_jo_7 hB, xp_jo_7 hB, xg_jo_8 hB, xp_jo_8 hB, iz_lit, iz_inj, ja, e]
      all_goals ((repeat' (first | exact trivial | exact ⟨rfl, rfl⟩ | rfl | apply And.intro | intro _)) <;> first | omega | (exfalso; omega) | contradiction | (exfalso; simp_all; done) | trace_state)
    · rw [if_neg c2]
      simp (disch := first | omega | assumption | (simp; done)) only [u_79_0, u_79_1, u_79_2, u_79_5, u_79_5N, u_79_6, u_79_7, u_79_7N, u_79_11, u_79_12, u_79_13, u_79_16, u_79_19, u_79_20, u_79_23, u_79_24, u_79_26, u_79_27, u_79_28, u_79_31, u_79_33, true_or, or_true, zk_li1_s, zk_ll1_s, zk_la1_r, zk_la1_n, zk_lg0, zk_lgs, zk_co_n, zk_co_i, zk_co_r, zk_co_u, zk_co_l, zk_l1_0, zk_l1_1, zk_l1_s, zk_l2_0, zk_l2_1, zk_l2_s, zk_sm0, zk_smi, zk_smr, zk_smn, zk_sml, zk_fi, zk_fz, zk_fo, zk_fn, zk_fa, zk_ts, zk_tn, zk_cases, true_and, and_true, List.getElem?_cons_zero, List.getElem?_cons_succ, List.length_cons, List.length_nil, Nat.reduceAdd, Nat.reduceLT, Nat.reduceLeDiff, List.set_cons_zero, List.set_cons_succ, va_rf, xi_tk hB, xg_tk_0 hB, xg_tk_1 hB, xg_tk_2 hB, xg_tk_3 hB, xg_tk_4 hB, xg_tk_5 hB, xg_tk_6 hB, xp_tk_6 hB, xg_tk_7 hB, xp_tk_7 hB, xg_tk_8 hB, xp_tk_8 hB, xg_tk_9 hB, xp_tk_9 hB, xi_jo hB, xg_jo_0 hB, xg_jo_1 hB, xg_jo_2 hB, xg_jo_3 hB, xp_jo_3 hB, xg_jo_4 hB, xp_jo_4 hB, xg_jo_5 hB, xp_jo_5 hB, xg_jo_6 hB, xp_jo_6 hB, xg_jo_7 hB, xp_jo_7 hB, xg_jo_8 hB, xp_jo_8 hB, iz_lit, iz_inj, ja, e]
      all_goals ((repeat' (first | exact trivial | exact ⟨rfl, rfl⟩ | rfl | apply And.intro | intro _)) <;> first | omega | (exfalso; omega) | contradiction | (exfalso; simp_all; done) | trace_state)
  · rw [if_neg c1, if_neg c1]
    have ja := c_jobAt0 hB hc j hj c1
    refine CC_q hB hR (fun Q => zk_eq ?_ Q)
    simp (disch := first | omega | assumption | (simp; done)) only [u_79_0, u_79_1, u_79_2, u_79_5, u_79_5N, u_79_6, u_79_7, u_79_7N, u_79_10, u_79_11, u_79_13, u_79_16, u_79_19, u_79_20, u_79_23, u_79_24, u_79_26, u_79_27, u_79_28, u_79_31, u_79_33, true_or, or_true, zk_li1_s, zk_ll1_s, zk_la1_r, zk_la1_n, zk_lg0, zk_lgs, zk_co_n, zk_co_i, zk_co_r, zk_co_u, zk_co_l, zk_l1_0, zk_l1_1, zk_l1_s, zk_l2_0, zk_l2_1, zk_l2_s, zk_sm0, zk_smi, zk_smr, zk_smn, zk_sml, zk_fi, zk_fz, zk_fo, zk_fn, zk_fa, zk_ts, zk_tn, zk_cases, true_and, and_true, List.getElem?_cons_zero, List.getElem?_cons_succ, List.length_cons, List.length_nil, Nat.reduceAdd, Nat.reduceLT, Nat.reduceLeDiff, List.set_cons_zero, List.set_cons_succ, va_rf, xi_tk hB, iz_lit, iz_neg, ja]
    all_goals ((repeat' (first | exact trivial | exact ⟨rfl, rfl⟩ | rfl | apply And.intro | intro _)) <;> first | omega | (exfalso; omega) | contradiction | (exfalso; simp_all; done) | trace_state)
end SET
