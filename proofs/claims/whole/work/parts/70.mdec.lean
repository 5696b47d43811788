/-! the model's waits, claims and decisions -/
theorem dtx_up {m m' : mS} (h : dtx m m') (k : Nat) (z v : Int) : dtx (up m k z v) (up m' k z v) := by
  intro k' z' a b c
  unfold up
  rw [h k' z' a b c]
theorem dtx_snd {m m' : mS} (h : dtx m m') (kd fr to j b a u g : Int) : dtx (msnd m kd fr to j b a u g) (msnd m' kd fr to j b a u g) := by
  unfold msnd
  rw [h 53 0 (by decide) (by decide) (by decide), h 51 0 (by decide) (by decide) (by decide)]
  split
  · exact dtx_up h _ _ _
  · exact dtx_up (dtx_up (dtx_up (dtx_up (dtx_up (dtx_up (dtx_up (dtx_up (dtx_up h _ _ _) _ _ _) _ _ _) _ _ _) _ _ _) _ _ _) _ _ _) _ _ _) _ _ _
theorem dtx_st1 {m m' : mS} (h : dtx m m') (kd fr j b a g to : Int) : dtx (mst1 m kd fr j b a g to) (mst1 m' kd fr j b a g to) := by
  unfold mst1
  split
  · exact h
  · exact dtx_snd h _ _ _ _ _ _ _ _
theorem dtx_sto {m m' : mS} (h : dtx m m') (kd fr j b a g : Int) : dtx (msto m kd fr j b a g) (msto m' kd fr j b a g) := dtx_st1 (dtx_st1 (dtx_st1 h _ _ _ _ _ _ _) _ _ _ _ _ _ _) _ _ _ _ _ _ _
theorem dtx_end {m m' : mS} (h : dtx m m') (i : Int) : dtx (mend m i) (mend m' i) := dtx_up (dtx_up (dtx_up h _ _ _) _ _ _) _ _ _
theorem dtx_due {m m' : mS} (h : dtx m m') : dueJ m' = dueJ m := by
  funext j
  unfold dueJ
  rw [dtx_ss h, dtx_os h, dtx_hs h, dtx_ms h, dtx_nw h, dtx_nn h, dtx_ex h, dtx_xt h, h 11 _ (by decide) (by decide) (by decide), h 22 _ (by decide) (by decide) (by decide)]
theorem dtx_eI {m m' : mS} (h : dtx m m') (j : Int) : eI m' j ↔ eI m j := by
  unfold eI
  simp (disch := decide) only [h 46 _ (by decide) (by decide) (by decide), h 47 _ (by decide) (by decide) (by decide)]
theorem dtx_mw {m m' : mS} (h : dtx m m') (j mi : Int) : mwB m' j mi = mwB m j mi := by
  unfold mwB dsB pcP
  simp (disch := decide) only [dtx_ss h, dtx_os h, dtx_due h, h 46 _ (by decide) (by decide) (by decide), h 47 _ (by decide) (by decide) (by decide), h 11 _ (by decide) (by decide) (by decide), h 2 _ (by decide) (by decide) (by decide)]
theorem nef_lt {v : Int} (h : 0 ≤ v) : nef v < 0 ↔ v = 2147483647 := by
  unfold nef; split <;> omega
section MDEC
variable {G : zk_G} {B : zk_H} {M : Nat}
theorem d_must (hB : hpo G B M) {m : mS} {o : Int} (hj : jI m o) (hE : eI m o) (mi : Int) (hm : 0 ≤ mi ∧ mi ≤ 21038399) : ∃ m', dtx m m' ∧ ∀ Q : Option Value → zk_H → Prop, zk_wp G 173 0 [some (.ref M), some (.int (iz o)), some (.int (iz mi)), none, none, none, none, none] [] (hp G B M m) Q ↔ Q (some (.int (iz (bi (mwB m o mi))))) (hp G B M m') := by
  have ic := hp_ic hB
  have zi := hj.2.1
  have zo := zi.2.2.2.1
  have o1 := hj.1
  have z1 := zi.1
  have s1 := zi.2.1
  have sl := ss_len zi
  have lo := d_localOf hB zi mi (by omega)
  have dr := zday_r zo hm
  have lr : -1000 ≤ zloc (ssOf m (m 11 o)) (osOf m (m 11 o)) mi ∧ zloc (ssOf m (m 11 o)) (osOf m (m 11 o)) mi ≤ 22000000 := by have := zoff_r zo mi; unfold zloc; omega
  have dn := d_down (G := G) (hp G B M m) (zloc (ssOf m (m 11 o)) (osOf m (m 11 o)) mi) 1440 (by omega) (by omega)
  have hd0 : zloc (ssOf m (m 11 o)) (osOf m (m 11 o)) mi / 1440 = zday (ssOf m (m 11 o)) (osOf m (m 11 o)) mi := rfl
  rw [hd0] at dn
  suffices hw : zk_wp G 173 0 [some (.ref M), some (.int (iz o)), some (.int (iz mi)), none, none, none, none, none] [] (hp G B M m) (fun r h' => ∃ m', dtx m m' ∧ r = some (.int (iz (bi (mwB m o mi)))) ∧ h' = hp G B M m') by
    obtain ⟨r0, h0, ⟨m', b1, rfl, rfl⟩, b3⟩ := zk_some hw
    exact ⟨m', b1, b3⟩
  have mwe : mwB m o mi = (!dsB m o (zday (ssOf m (m 11 o)) (osOf m (m 11 o)) mi) && bol (∃ k, 0 ≤ k ∧ k ≤ m 2 (m 11 o) ∧ pcP m o (zday (ssOf m (m 11 o)) (osOf m (m 11 o)) mi) k)) := rfl
  generalize hd : zday (ssOf m (m 11 o)) (osOf m (m 11 o)) mi = d at *
  generalize hQ : (fun (r : Option Value) (h' : zk_H) => ∃ m', dtx m m' ∧ r = some (.int (iz (bi (mwB m o mi)))) ∧ h' = hp G B M m') = P
  -- the pieces
  have loop2 : dsB m o d = false → ∀ (q : Nat) (k : Int) (m1 : mS) (o6 o7 : Option Value), dtx m m1 → 0 ≤ k → k + q = m 2 (m 11 o) + 1 → (∀ t, 0 ≤ t → t < k → ¬ pcP m o d t) → zk_wp G 173 75 [some (.ref M), some (.int (iz o)), some (.int (iz mi)), some (.int (iz (m 11 o))), some (.int (iz d)), some (.int (iz k)), o6, o7] [] (hp G B M m1) P := by
    intro hds q
    induction q with
    | zero =>
      intro k m1 o6 o7 h1 hk hq hI
      have y : ∀ k z, k ≠ 7 → k ≠ 8 → k ≠ 9 → m1 k z = m k z := h1
      rw [u_173_75]
      simp (disch := first | omega | assumption | (simp; done)) only [u_173_0, u_173_1, u_173_4, u_173_5, u_173_6, u_173_7, u_173_8, u_173_9, u_173_10, u_173_13, u_173_16, u_173_19, u_173_21, u_173_22, u_173_24, u_173_26, u_173_27, u_173_30, u_173_31, u_173_32, u_173_35, u_173_36, u_173_37, u_173_38, u_173_41, u_173_44, u_173_45, u_173_46, u_173_48, u_173_49, u_173_50, u_173_53, u_173_56, u_173_59, u_173_61, u_173_64, u_173_65, u_173_66, u_173_69, u_173_72, u_173_73, u_173_77, u_173_78, u_173_81, u_173_82, u_173_83, u_173_87, u_173_88, u_173_90, u_173_93, u_173_95, u_173_98, u_173_99, u_173_100, u_173_101, u_173_103, u_173_106, u_173_107, u_173_110, u_173_112, u_173_113, u_173_114, u_173_116, u_173_119, u_173_121, u_173_124, u_173_125, u_173_128, u_173_129, u_173_130, u_173_131, u_173_132, u_173_133, u_173_135, u_173_138, u_173_139, u_173_142, u_173_144, u_173_146, u_173_148, u_173_151, u_173_152, u_173_153, u_173_155, u_173_157, u_173_160, u_173_163, u_173_164, u_173_165, u_173_168, u_173_171, u_173_172, true_or, or_true, zk_li1_s, zk_ll1_s, zk_la1_r, zk_la1_n, zk_lg0, zk_lgs, zk_co_n, zk_co_i, zk_co_r, zk_co_u, zk_co_l, zk_l1_0, zk_l1_1, zk_l1_s, zk_l2_0, zk_l2_1, zk_l2_s, zk_sm0, zk_smi, zk_smr, zk_smn, zk_sml, zk_fi, zk_fz, zk_fo, zk_fn, zk_fa, zk_ts, zk_tn, zk_cases, true_and, and_true, List.getElem?_cons_zero, List.getElem?_cons_succ, List.length_cons, List.length_nil, Nat.reduceAdd, Nat.reduceLT, Nat.reduceLeDiff, List.set_cons_zero, List.set_cons_succ, va_rf, iz_lit, iz_lt, iz_le, mg_2 hB, mr_2 hB, mw_2 hB, y]
      refine ⟨fun _ => ?_, fun c => absurd c (by omega)⟩
      rw [← hQ]
      refine ⟨m1, h1, ?_, rfl⟩
      rw [mwe, hds, bol_f.mpr (by rintro ⟨t, t1, t2, t3⟩; exact hI t t1 (by omega) t3)]
      rfl
    | succ q ih =>
      intro k m1 o6 o7 h1 hk hq hI
      have y : ∀ k z, k ≠ 7 → k ≠ 8 → k ≠ 9 → m1 k z = m k z := h1
      have zi1 := (dtx_zI h1 (m 11 o)).mpr zi
      have e2 := h1 2 (m 11 o) (by decide) (by decide) (by decide)
      have pf := d_from hB zi1 k (by omega)
      have pb := d_by hB zi1 k (by omega)
      have pt := d_to hB zi1 k (by omega)
      rw [dtx_ss h1] at pf pt
      rw [dtx_os h1] at pb
      have g1 := zo.2.2.2.1 k
      have g2 := zo.2.2.2.2 k
      have g3 := zend_r zo k
      have mo := d_more (G := G) (hp G B M m1) (gz (ssOf m (m 11 o)) k) (d * 1440 - gz (osOf m (m 11 o)) k) (by omega) (by omega)
      have le := d_less (G := G) (hp G B M m1) (zend (ssOf m (m 11 o)) k) (d * 1440 + 1440 - 1 - gz (osOf m (m 11 o)) k) (by omega) (by omega)
      have mo2 : ∀ Q, zk_wp G 126 0 [some (.int (iz (gz (ssOf m (m 11 o)) k))), some (.int (iz (d * 1440 - gz (osOf m (m 11 o)) k)))] [] (hp G B M m1) Q ↔ Q (some (.int (iz (zfod (ssOf m (m 11 o)) (osOf m (m 11 o)) k d)))) (hp G B M m1) := mo
      have le2 : ∀ Q, zk_wp G 148 0 [some (.int (iz (zend (ssOf m (m 11 o)) k))), some (.int (iz (d * 1440 + 1440 - 1 - gz (osOf m (m 11 o)) k)))] [] (hp G B M m1) Q ↔ Q (some (.int (iz (zlod (ssOf m (m 11 o)) (osOf m (m 11 o)) k d)))) (hp G B M m1) := le
      have fr : 0 ≤ zfod (ssOf m (m 11 o)) (osOf m (m 11 o)) k d ∧ zfod (ssOf m (m 11 o)) (osOf m (m 11 o)) k d ≤ 30000000 := by unfold zfod; omega
      have tr : -30000000 ≤ zlod (ssOf m (m 11 o)) (osOf m (m 11 o)) k d ∧ zlod (ssOf m (m 11 o)) (osOf m (m 11 o)) k d ≤ 21038399 := by unfold zlod; omega
      obtain ⟨m2, v, w1, w2, w3⟩ := d_dueFrom hB ((dtx_jI h1 o).mpr hj) _ _ fr tr
      rw [dtx_due h1] at w2
      have ve := fs_ex w2 (by omega)
      have vr : 0 ≤ v ∧ v ≤ 2147483647 := by rcases w2 with ⟨e, -⟩ | ⟨e1, e2, -⟩ <;> omega
      have nl := nef_lt vr.1
      have nr : -1 ≤ nef v ∧ nef v ≤ 2147483647 := by unfold nef; split <;> omega
      have nxt : ∀ (m3 : mS) (o6 o7 : Option Value), dtx m m3 → ¬ pcP m o d k → zk_wp G 173 165 [some (.ref M), some (.int (iz o)), some (.int (iz mi)), some (.int (iz (m 11 o))), some (.int (iz d)), some (.int (iz k)), o6, o7] [] (hp G B M m3) P := by
        intro m3 o6 o7 h3 np
        rw [u_173_165]
        simp (disch := first | omega | assumption | (simp; done)) only [u_173_0, u_173_1, u_173_4, u_173_5, u_173_6, u_173_7, u_173_8, u_173_9, u_173_10, u_173_13, u_173_16, u_173_19, u_173_21, u_173_22, u_173_24, u_173_26, u_173_27, u_173_30, u_173_31, u_173_32, u_173_35, u_173_36, u_173_37, u_173_38, u_173_41, u_173_44, u_173_45, u_173_46, u_173_48, u_173_49, u_173_50, u_173_53, u_173_56, u_173_59, u_173_61, u_173_64, u_173_65, u_173_66, u_173_69, u_173_72, u_173_73, u_173_77, u_173_78, u_173_81, u_173_82, u_173_83, u_173_86, u_173_87, u_173_88, u_173_90, u_173_93, u_173_95, u_173_98, u_173_99, u_173_100, u_173_101, u_173_103, u_173_106, u_173_107, u_173_110, u_173_112, u_173_113, u_173_114, u_173_116, u_173_119, u_173_121, u_173_124, u_173_125, u_173_128, u_173_129, u_173_130, u_173_131, u_173_132, u_173_133, u_173_135, u_173_138, u_173_139, u_173_142, u_173_144, u_173_146, u_173_148, u_173_151, u_173_152, u_173_153, u_173_155, u_173_157, u_173_160, u_173_163, u_173_164, u_173_168, u_173_171, u_173_172, true_or, or_true, zk_li1_s, zk_ll1_s, zk_la1_r, zk_la1_n, zk_lg0, zk_lgs, zk_co_n, zk_co_i, zk_co_r, zk_co_u, zk_co_l, zk_l1_0, zk_l1_1, zk_l1_s, zk_l2_0, zk_l2_1, zk_l2_s, zk_sm0, zk_smi, zk_smr, zk_smn, zk_sml, zk_fi, zk_fz, zk_fo, zk_fn, zk_fa, zk_ts, zk_tn, zk_cases, true_and, and_true, List.getElem?_cons_zero, List.getElem?_cons_succ, List.length_cons, List.length_nil, Nat.reduceAdd, Nat.reduceLT, Nat.reduceLeDiff, List.set_cons_zero, List.set_cons_succ, va_rf, iz_lit, iz_add]
        refine ih (k + 1) m3 _ _ h3 (by omega) (by omega) (fun t t1 t2 => ?_)
        by_cases ct : t = k
        · rw [ct]; exact np
        · exact hI t t1 (by omega)
      rw [u_173_75]
      simp (disch := first | omega | assumption | (simp; done)) only [u_173_0, u_173_1, u_173_4, u_173_5, u_173_6, u_173_7, u_173_8, u_173_9, u_173_10, u_173_13, u_173_16, u_173_19, u_173_21, u_173_22, u_173_24, u_173_26, u_173_27, u_173_30, u_173_31, u_173_32, u_173_35, u_173_36, u_173_37, u_173_38, u_173_41, u_173_44, u_173_45, u_173_46, u_173_48, u_173_49, u_173_50, u_173_53, u_173_56, u_173_59, u_173_61, u_173_64, u_173_65, u_173_66, u_173_69, u_173_72, u_173_73, u_173_77, u_173_78, u_173_81, u_173_82, u_173_83, u_173_86, u_173_87, u_173_88, u_173_90, u_173_93, u_173_95, u_173_98, u_173_99, u_173_100, u_173_101, u_173_103, u_173_106, u_173_107, u_173_110, u_173_112, u_173_113, u_173_114, u_173_116, u_173_119, u_173_121, u_173_124, u_173_125, u_173_128, u_173_129, u_173_130, u_173_131, u_173_132, u_173_133, u_173_135, u_173_138, u_173_139, u_173_142, u_173_144, u_173_146, u_173_148, u_173_151, u_173_152, u_173_153, u_173_155, u_173_157, u_173_160, u_173_163, u_173_164, u_173_168, u_173_171, u_173_172, true_or, or_true, zk_li1_s, zk_ll1_s, zk_la1_r, zk_la1_n, zk_lg0, zk_lgs, zk_co_n, zk_co_i, zk_co_r, zk_co_u, zk_co_l, zk_l1_0, zk_l1_1, zk_l1_s, zk_l2_0, zk_l2_1, zk_l2_s, zk_sm0, zk_smi, zk_smr, zk_smn, zk_sml, zk_fi, zk_fz, zk_fo, zk_fn, zk_fa, zk_ts, zk_tn, zk_cases, true_and, and_true, List.getElem?_cons_zero, List.getElem?_cons_succ, List.length_cons, List.length_nil, Nat.reduceAdd, Nat.reduceLT, Nat.reduceLeDiff, List.set_cons_zero, List.set_cons_succ, va_rf, ic, iz_lit, iz_lt, iz_le, iz_mul, iz_add, iz_sub, mg_2 hB, mr_2 hB, mw_2 hB, y, pf, pb, pt, mo2, le2, w3]
      refine ⟨fun c => absurd c (by omega), fun _ => ⟨fun c => nxt m1 _ _ h1 ?_, fun c => ⟨fun c2 => nxt m2 _ _ (dtx_t h1 w1) ?_, fun c2 => ?_⟩⟩⟩
      · rintro ⟨t, t1, t2, -⟩
        omega
      · exact ve.mp (by omega)
      · rw [← hQ]
        refine ⟨m2, dtx_t h1 w1, ?_, rfl⟩
        rw [mwe, hds, bol_t.mpr ⟨k, hk, by omega, Classical.not_not.mp (fun q => c2 (by have := ve.mpr q; omega))⟩]
        rfl
  have loop1 : ∀ (q : Nat) (k : Int) (o6 o7 : Option Value), 0 ≤ k → k + q = m 46 o → (∀ i, 0 ≤ i → i < k → zday (ssOf m (m 11 o)) (osOf m (m 11 o)) (m 47 (300 * o + i)) ≠ d) → zk_wp G 173 24 [some (.ref M), some (.int (iz o)), some (.int (iz mi)), some (.int (iz (m 11 o))), some (.int (iz d)), some (.int (iz k)), o6, o7] [] (hp G B M m) P := by
    intro q
    have el := hE.1
    induction q with
    | zero =>
      intro k o6 o7 hk hq hI
      rw [u_173_24]
      simp (disch := first | omega | assumption | (simp; done)) only [u_173_0, u_173_1, u_173_4, u_173_5, u_173_6, u_173_7, u_173_8, u_173_9, u_173_10, u_173_13, u_173_16, u_173_19, u_173_21, u_173_22, u_173_26, u_173_27, u_173_30, u_173_31, u_173_32, u_173_36, u_173_37, u_173_38, u_173_41, u_173_44, u_173_45, u_173_46, u_173_48, u_173_49, u_173_50, u_173_53, u_173_56, u_173_59, u_173_61, u_173_64, u_173_65, u_173_66, u_173_69, u_173_72, u_173_73, u_173_77, u_173_78, u_173_81, u_173_82, u_173_83, u_173_86, u_173_87, u_173_88, u_173_90, u_173_93, u_173_95, u_173_98, u_173_99, u_173_100, u_173_101, u_173_103, u_173_106, u_173_107, u_173_110, u_173_112, u_173_113, u_173_114, u_173_116, u_173_119, u_173_121, u_173_124, u_173_125, u_173_128, u_173_129, u_173_130, u_173_131, u_173_132, u_173_133, u_173_135, u_173_138, u_173_139, u_173_142, u_173_144, u_173_146, u_173_148, u_173_151, u_173_152, u_173_153, u_173_155, u_173_157, u_173_160, u_173_163, u_173_164, u_173_165, u_173_168, u_173_171, u_173_172, true_or, or_true, zk_li1_s, zk_ll1_s, zk_la1_r, zk_la1_n, zk_lg0, zk_lgs, zk_co_n, zk_co_i, zk_co_r, zk_co_u, zk_co_l, zk_l1_0, zk_l1_1, zk_l1_s, zk_l2_0, zk_l2_1, zk_l2_s, zk_sm0, zk_smi, zk_smr, zk_smn, zk_sml, zk_fi, zk_fz, zk_fo, zk_fn, zk_fa, zk_ts, zk_tn, zk_cases, true_and, and_true, List.getElem?_cons_zero, List.getElem?_cons_succ, List.length_cons, List.length_nil, Nat.reduceAdd, Nat.reduceLT, Nat.reduceLeDiff, List.set_cons_zero, List.set_cons_succ, va_rf, iz_lit, iz_le, mg_46 hB, mr_46 hB, mw_46 hB]
      refine ⟨fun _ => loop2 ?_ (m 2 (m 11 o) + 1).toNat 0 m _ _ (dtx_r m) (by omega) (by omega) (fun t t1 t2 => by omega), fun c => absurd c (by omega)⟩
      unfold dsB
      rw [bol_f]
      rintro ⟨i, i1, i2, i3⟩
      exact hI i i1 (by omega) i3
    | succ q ih =>
      intro k o6 o7 hk hq hI
      have hx := hE.2 k hk (by omega)
      have lo2 := d_localOf hB zi (m 47 (300 * o + k)) (by omega)
      have lr2 : -1000 ≤ zloc (ssOf m (m 11 o)) (osOf m (m 11 o)) (m 47 (300 * o + k)) ∧ zloc (ssOf m (m 11 o)) (osOf m (m 11 o)) (m 47 (300 * o + k)) ≤ 22000000 := by have := zoff_r zo (m 47 (300 * o + k)); unfold zloc; omega
      have dn2 := d_down (G := G) (hp G B M m) (zloc (ssOf m (m 11 o)) (osOf m (m 11 o)) (m 47 (300 * o + k))) 1440 (by omega) (by omega)
      have hd2 : zloc (ssOf m (m 11 o)) (osOf m (m 11 o)) (m 47 (300 * o + k)) / 1440 = zday (ssOf m (m 11 o)) (osOf m (m 11 o)) (m 47 (300 * o + k)) := rfl
      rw [hd2] at dn2
      have dr2 := zday_r zo hx
      rw [u_173_24]
      simp (disch := first | omega | assumption | (simp; done)) only [u_173_0, u_173_1, u_173_4, u_173_5, u_173_6, u_173_7, u_173_8, u_173_9, u_173_10, u_173_13, u_173_16, u_173_19, u_173_21, u_173_22, u_173_26, u_173_27, u_173_30, u_173_31, u_173_32, u_173_35, u_173_36, u_173_37, u_173_38, u_173_41, u_173_44, u_173_45, u_173_46, u_173_48, u_173_49, u_173_50, u_173_53, u_173_56, u_173_59, u_173_61, u_173_64, u_173_65, u_173_66, u_173_69, u_173_73, u_173_75, u_173_77, u_173_78, u_173_81, u_173_82, u_173_83, u_173_86, u_173_87, u_173_88, u_173_90, u_173_93, u_173_95, u_173_98, u_173_99, u_173_100, u_173_101, u_173_103, u_173_106, u_173_107, u_173_110, u_173_112, u_173_113, u_173_114, u_173_116, u_173_119, u_173_121, u_173_124, u_173_125, u_173_128, u_173_129, u_173_130, u_173_131, u_173_132, u_173_133, u_173_135, u_173_138, u_173_139, u_173_142, u_173_144, u_173_146, u_173_148, u_173_151, u_173_152, u_173_153, u_173_155, u_173_157, u_173_160, u_173_163, u_173_164, u_173_165, u_173_168, u_173_171, u_173_172, true_or, or_true, zk_li1_s, zk_ll1_s, zk_la1_r, zk_la1_n, zk_lg0, zk_lgs, zk_co_n, zk_co_i, zk_co_r, zk_co_u, zk_co_l, zk_l1_0, zk_l1_1, zk_l1_s, zk_l2_0, zk_l2_1, zk_l2_s, zk_sm0, zk_smi, zk_smr, zk_smn, zk_sml, zk_fi, zk_fz, zk_fo, zk_fn, zk_fa, zk_ts, zk_tn, zk_cases, true_and, and_true, List.getElem?_cons_zero, List.getElem?_cons_succ, List.length_cons, List.length_nil, Nat.reduceAdd, Nat.reduceLT, Nat.reduceLeDiff, List.set_cons_zero, List.set_cons_succ, va_rf, ic, iz_lit, iz_le, iz_inj, iz_mul, iz_add, mg_46 hB, mr_46 hB, mw_46 hB, mg_47 hB, mr_47 hB, mw_47 hB, lo2, dn2]
      refine ⟨fun c => absurd c (by omega), fun _ => ⟨fun c => ?_, fun c => ?_⟩⟩
      · refine ih (k + 1) _ _ (by omega) (by omega) (fun i i1 i2 => ?_)
        by_cases ci : i = k
        · rw [ci]; exact c
        · exact hI i i1 (by omega)
      · rw [← hQ]
        refine ⟨m, dtx_r m, ?_, rfl⟩
        have : dsB m o d = true := by
          unfold dsB
          rw [bol_t]
          exact ⟨k, hk, by omega, by first | exact c | exact Classical.not_not.mp c⟩
        rw [mwe, this]; rfl
  simp (disch := first | omega | assumption | (simp; done)) only [u_173_0, u_173_1, u_173_4, u_173_5, u_173_6, u_173_7, u_173_8, u_173_9, u_173_10, u_173_13, u_173_16, u_173_19, u_173_21, u_173_22, u_173_26, u_173_27, u_173_30, u_173_31, u_173_32, u_173_35, u_173_36, u_173_37, u_173_38, u_173_41, u_173_44, u_173_45, u_173_46, u_173_48, u_173_49, u_173_50, u_173_53, u_173_56, u_173_59, u_173_61, u_173_64, u_173_65, u_173_66, u_173_69, u_173_72, u_173_73, u_173_75, u_173_77, u_173_78, u_173_81, u_173_82, u_173_83, u_173_86, u_173_87, u_173_88, u_173_90, u_173_93, u_173_95, u_173_98, u_173_99, u_173_100, u_173_101, u_173_103, u_173_106, u_173_107, u_173_110, u_173_112, u_173_113, u_173_114, u_173_116, u_173_119, u_173_121, u_173_124, u_173_125, u_173_128, u_173_129, u_173_130, u_173_131, u_173_132, u_173_133, u_173_135, u_173_138, u_173_139, u_173_142, u_173_144, u_173_146, u_173_148, u_173_151, u_173_152, u_173_153, u_173_155, u_173_157, u_173_160, u_173_163, u_173_164, u_173_165, u_173_168, u_173_171, u_173_172, true_or, or_true, zk_li1_s, zk_ll1_s, zk_la1_r, zk_la1_n, zk_lg0, zk_lgs, zk_co_n, zk_co_i, zk_co_r, zk_co_u, zk_co_l, zk_l1_0, zk_l1_1, zk_l1_s, zk_l2_0, zk_l2_1, zk_l2_s, zk_sm0, zk_smi, zk_smr, zk_smn, zk_sml, zk_fi, zk_fz, zk_fo, zk_fn, zk_fa, zk_ts, zk_tn, zk_cases, true_and, and_true, List.getElem?_cons_zero, List.getElem?_cons_succ, List.length_cons, List.length_nil, Nat.reduceAdd, Nat.reduceLT, Nat.reduceLeDiff, List.set_cons_zero, List.set_cons_succ, va_rf, ic, iz_lit, mg_11 hB, mr_11 hB, mw_11 hB, lo, dn]
  have el := hE.1
  exact loop1 (m 46 o).toNat 0 _ _ (by omega) (by omega) (fun i i1 i2 => by omega)
theorem d_claim (hB : hpo G B M) {m : mS} {j : Int} (hr : rg m) (hj : jI m j) (u : Int) (hu : -1 ≤ u ∧ u ≤ 21038399) (h0 : 0 ≤ m 0 0 ∧ m 0 0 ≤ 21038399) (h24 : 0 ≤ m 24 j ∧ m 24 j ≤ 1440) : ∃ m', dtx m m' ∧ (dmin m m j u = 2147483647 ∨ (0 ≤ dmin m m j u ∧ dmin m m j u ≤ 21038399)) ∧ ∀ Q : Option Value → zk_H → Prop, zk_wp G 170 0 [some (.ref M), some (.int (iz j)), some (.int (iz u)), none] [] (hp G B M m) Q ↔ Q (some (.int (iz (nef (dmin m m j u))))) (hp G B M m') := by
  have ic := hp_ic hB
  have j1 := hj.1
  have q23 := rg_of hr 23 j
  have mo := d_more (G := G) (hp G B M m) (u + 1) (m 0 0 - m 24 j) (by omega) (by omega)
  by_cases c2 : m 23 j = 2
  · have la : lat m j = 0 := by unfold lat; rw [if_pos c2]
    have ed : dmin m m j u = ffd (dueJ m j) (max (u + 1) (m 0 0)) (m 0 0) := by unfold dmin; rw [if_neg (by omega), la, Int.sub_zero]
    by_cases cu : u < m 0 0
    · obtain ⟨m', v, w1, w2, w3⟩ := d_dueFrom hB hj (m 0 0) (m 0 0) (by omega) (by omega)
      rw [show max (u + 1) (m 0 0) = m 0 0 by omega] at ed
      rw [ed, ffd_eq w2]
      have vr : v = 2147483647 ∨ (0 ≤ v ∧ v ≤ 21038399) := by rcases w2 with ⟨e, -⟩ | ⟨e1, e2, -⟩ <;> omega
      refine ⟨m', w1, vr, fun Q => ?_⟩
      refine zk_eq ?_ Q
      simp (disch := first | omega | assumption | (simp; done)) only [u_170_0, u_170_1, u_170_2, u_170_3, u_170_4, u_170_7, u_170_8, u_170_11, u_170_12, u_170_13, u_170_14, u_170_17, u_170_18, u_170_19, u_170_22, u_170_23, u_170_24, u_170_25, u_170_28, u_170_29, u_170_32, u_170_33, u_170_36, u_170_37, u_170_38, u_170_39, u_170_42, u_170_43, u_170_46, u_170_49, u_170_52, u_170_53, u_170_55, u_170_58, u_170_59, u_170_60, u_170_61, u_170_64, u_170_65, u_170_66, u_170_67, u_170_68, u_170_71, u_170_74, u_170_77, u_170_78, u_170_79, u_170_80, u_170_81, u_170_84, u_170_87, true_or, or_true, zk_li1_s, zk_ll1_s, zk_la1_r, zk_la1_n, zk_lg0, zk_lgs, zk_co_n, zk_co_i, zk_co_r, zk_co_u, zk_co_l, zk_l1_0, zk_l1_1, zk_l1_s, zk_l2_0, zk_l2_1, zk_l2_s, zk_sm0, zk_smi, zk_smr, zk_smn, zk_sml, zk_fi, zk_fz, zk_fo, zk_fn, zk_fa, zk_ts, zk_tn, zk_cases, true_and, and_true, List.getElem?_cons_zero, List.getElem?_cons_succ, List.length_cons, List.length_nil, Nat.reduceAdd, Nat.reduceLT, Nat.reduceLeDiff, List.set_cons_zero, List.set_cons_succ, va_rf, ic, iz_lit, iz_neg, iz_inj, iz_le, iz_add, iz_sub, mg_0 hB, mw_0 hB, mg_23 hB, mr_23 hB, mw_23 hB, mg_24 hB, mr_24 hB, mw_24 hB, mo, w3]
      all_goals ((repeat' (first | exact trivial | exact ⟨rfl, rfl⟩ | rfl | apply And.intro | intro _)) <;> first | omega | (exfalso; omega) | contradiction | (exfalso; simp_all; done) | trace_state)
    · have f : fsP (dueJ m j) (max (u + 1) (m 0 0)) (m 0 0) 2147483647 := Or.inl ⟨rfl, fun l l1 l2 => by omega⟩
      rw [ed, ffd_eq f]
      refine ⟨m, dtx_r m, Or.inl rfl, fun Q => ?_⟩
      refine zk_eq ?_ Q
      rw [nef_f]
      simp (disch := first | omega | assumption | (simp; done)) only [u_170_0, u_170_1, u_170_2, u_170_3, u_170_4, u_170_7, u_170_8, u_170_11, u_170_12, u_170_13, u_170_14, u_170_17, u_170_18, u_170_19, u_170_22, u_170_23, u_170_24, u_170_25, u_170_28, u_170_29, u_170_32, u_170_33, u_170_37, u_170_38, u_170_39, u_170_42, u_170_43, u_170_46, u_170_49, u_170_52, u_170_53, u_170_55, u_170_58, u_170_59, u_170_60, u_170_61, u_170_64, u_170_65, u_170_66, u_170_67, u_170_68, u_170_71, u_170_74, u_170_77, u_170_78, u_170_79, u_170_80, u_170_81, u_170_84, u_170_87, true_or, or_true, zk_li1_s, zk_ll1_s, zk_la1_r, zk_la1_n, zk_lg0, zk_lgs, zk_co_n, zk_co_i, zk_co_r, zk_co_u, zk_co_l, zk_l1_0, zk_l1_1, zk_l1_s, zk_l2_0, zk_l2_1, zk_l2_s, zk_sm0, zk_smi, zk_smr, zk_smn, zk_sml, zk_fi, zk_fz, zk_fo, zk_fn, zk_fa, zk_ts, zk_tn, zk_cases, true_and, and_true, List.getElem?_cons_zero, List.getElem?_cons_succ, List.length_cons, List.length_nil, Nat.reduceAdd, Nat.reduceLT, Nat.reduceLeDiff, List.set_cons_zero, List.set_cons_succ, va_rf, ic, iz_lit, iz_neg, iz_inj, iz_le, iz_add, iz_sub, mg_0 hB, mw_0 hB, mg_23 hB, mr_23 hB, mw_23 hB, mg_24 hB, mr_24 hB, mw_24 hB, mo]
      all_goals ((repeat' (first | exact trivial | exact ⟨rfl, rfl⟩ | rfl | apply And.intro | intro _)) <;> first | omega | (exfalso; omega) | contradiction | (exfalso; simp_all; done) | trace_state)
  · have la : lat m j = m 24 j := by unfold lat; rw [if_neg c2]
    by_cases c1 : m 23 j = 1
    · obtain ⟨m', v, w1, w2, w3⟩ := d_dueUpTo hB hj (max (u + 1) (m 0 0 - m 24 j)) (m 0 0) (by omega) (by omega)
      have ed : dmin m m j u = v := by unfold dmin; rw [if_pos c1, la, lld_eq w2]
      have vr : v = 2147483647 ∨ (0 ≤ v ∧ v ≤ 21038399) := by rcases w2 with ⟨e, -⟩ | ⟨e1, e2, -⟩ <;> omega
      rw [ed]
      refine ⟨m', w1, vr, fun Q => ?_⟩
      refine zk_eq ?_ Q
      simp (disch := first | omega | assumption | (simp; done)) only [u_170_0, u_170_1, u_170_2, u_170_3, u_170_4, u_170_7, u_170_8, u_170_11, u_170_12, u_170_13, u_170_14, u_170_17, u_170_18, u_170_19, u_170_22, u_170_23, u_170_24, u_170_25, u_170_29, u_170_32, u_170_33, u_170_36, u_170_37, u_170_38, u_170_39, u_170_42, u_170_43, u_170_46, u_170_49, u_170_52, u_170_53, u_170_54, u_170_55, u_170_58, u_170_59, u_170_60, u_170_61, u_170_64, u_170_65, u_170_66, u_170_67, u_170_68, u_170_71, u_170_74, u_170_78, u_170_79, u_170_80, u_170_81, u_170_84, u_170_87, true_or, or_true, zk_li1_s, zk_ll1_s, zk_la1_r, zk_la1_n, zk_lg0, zk_lgs, zk_co_n, zk_co_i, zk_co_r, zk_co_u, zk_co_l, zk_l1_0, zk_l1_1, zk_l1_s, zk_l2_0, zk_l2_1, zk_l2_s, zk_sm0, zk_smi, zk_smr, zk_smn, zk_sml, zk_fi, zk_fz, zk_fo, zk_fn, zk_fa, zk_ts, zk_tn, zk_cases, true_and, and_true, List.getElem?_cons_zero, List.getElem?_cons_succ, List.length_cons, List.length_nil, Nat.reduceAdd, Nat.reduceLT, Nat.reduceLeDiff, List.set_cons_zero, List.set_cons_succ, va_rf, ic, iz_lit, iz_neg, iz_inj, iz_le, iz_add, iz_sub, mg_0 hB, mw_0 hB, mg_23 hB, mr_23 hB, mw_23 hB, mg_24 hB, mr_24 hB, mw_24 hB, mo, w3]
      all_goals ((repeat' (first | exact trivial | exact ⟨rfl, rfl⟩ | rfl | apply And.intro | intro _)) <;> first | omega | (exfalso; omega) | contradiction | (exfalso; simp_all; done) | trace_state)
    · obtain ⟨m', v, w1, w2, w3⟩ := d_dueFrom hB hj (max (u + 1) (m 0 0 - m 24 j)) (m 0 0) (by omega) (by omega)
      have ed : dmin m m j u = v := by unfold dmin; rw [if_neg c1, la, ffd_eq w2]
      have vr : v = 2147483647 ∨ (0 ≤ v ∧ v ≤ 21038399) := by rcases w2 with ⟨e, -⟩ | ⟨e1, e2, -⟩ <;> omega
      rw [ed]
      refine ⟨m', w1, vr, fun Q => ?_⟩
      refine zk_eq ?_ Q
      simp (disch := first | omega | assumption | (simp; done)) only [u_170_0, u_170_1, u_170_2, u_170_3, u_170_4, u_170_7, u_170_8, u_170_11, u_170_12, u_170_13, u_170_14, u_170_17, u_170_18, u_170_19, u_170_22, u_170_23, u_170_24, u_170_25, u_170_29, u_170_32, u_170_33, u_170_36, u_170_37, u_170_38, u_170_39, u_170_42, u_170_43, u_170_46, u_170_49, u_170_52, u_170_53, u_170_54, u_170_55, u_170_58, u_170_59, u_170_60, u_170_61, u_170_65, u_170_66, u_170_67, u_170_68, u_170_71, u_170_74, u_170_77, u_170_78, u_170_79, u_170_80, u_170_81, u_170_84, u_170_87, true_or, or_true, zk_li1_s, zk_ll1_s, zk_la1_r, zk_la1_n, zk_lg0, zk_lgs, zk_co_n, zk_co_i, zk_co_r, zk_co_u, zk_co_l, zk_l1_0, zk_l1_1, zk_l1_s, zk_l2_0, zk_l2_1, zk_l2_s, zk_sm0, zk_smi, zk_smr, zk_smn, zk_sml, zk_fi, zk_fz, zk_fo, zk_fn, zk_fa, zk_ts, zk_tn, zk_cases, true_and, and_true, List.getElem?_cons_zero, List.getElem?_cons_succ, List.length_cons, List.length_nil, Nat.reduceAdd, Nat.reduceLT, Nat.reduceLeDiff, List.set_cons_zero, List.set_cons_succ, va_rf, ic, iz_lit, iz_neg, iz_inj, iz_le, iz_add, iz_sub, mg_0 hB, mw_0 hB, mg_23 hB, mr_23 hB, mw_23 hB, mg_24 hB, mr_24 hB, mw_24 hB, mo, w3]
      all_goals ((repeat' (first | exact trivial | exact ⟨rfl, rfl⟩ | rfl | apply And.intro | intro _)) <;> first | omega | (exfalso; omega) | contradiction | (exfalso; simp_all; done) | trace_state)
end MDEC
