/-! the model's fits and isOn -/
def dtx (m m' : mS) : Prop := ∀ k z, k ≠ 7 → k ≠ 8 → k ≠ 9 → m' k z = m k z
theorem dtx_r (m : mS) : dtx m m := fun _ _ _ _ _ => rfl
theorem dtx_t {a b c : mS} (h1 : dtx a b) (h2 : dtx b c) : dtx a c := fun k z a1 a2 a3 => by rw [h2 k z a1 a2 a3, h1 k z a1 a2 a3]
theorem dtx_dt (m : mS) (d : Int) : dtx m (dt m d) := fun k z a1 a2 a3 => by unfold dt; rw [up_k _ _ _ _ a1, up_k _ _ _ _ a2, up_k _ _ _ _ a3]
section DTX
variable {m m' : mS} (h : dtx m m')
theorem dtx_ss (h : dtx m m') : ssOf m' = ssOf m := by funext z; unfold ssOf; simp (disch := decide) only [h 2 _ (by decide) (by decide) (by decide), h 3 _ (by decide) (by decide) (by decide)]
theorem dtx_os (h : dtx m m') : osOf m' = osOf m := by funext z; unfold osOf; simp (disch := decide) only [h 2 _ (by decide) (by decide) (by decide), h 4 _ (by decide) (by decide) (by decide)]
theorem dtx_hs (h : dtx m m') : hsOf m' = hsOf m := by funext z; unfold hsOf; simp (disch := decide) only [h 5 _ (by decide) (by decide) (by decide), h 6 _ (by decide) (by decide) (by decide)]
theorem dtx_nw (h : dtx m m') : nwOf m' = nwOf m := by funext z; unfold nwOf; simp (disch := decide) only [h 17 _ (by decide) (by decide) (by decide), h 18 _ (by decide) (by decide) (by decide)]
theorem dtx_nn (h : dtx m m') : nnOf m' = nnOf m := by funext z; unfold nnOf; simp (disch := decide) only [h 17 _ (by decide) (by decide) (by decide), h 19 _ (by decide) (by decide) (by decide)]
theorem dtx_ex (h : dtx m m') : exOf m' = exOf m := by funext z; unfold exOf; simp (disch := decide) only [h 20 _ (by decide) (by decide) (by decide), h 21 _ (by decide) (by decide) (by decide)]
theorem dtx_xt (h : dtx m m') : xtOf m' = xtOf m := by funext z; unfold xtOf; simp (disch := decide) only [h 28 _ (by decide) (by decide) (by decide), h 29 _ (by decide) (by decide) (by decide)]
theorem dtx_ms (h : dtx m m') : msOf m' = msOf m := by funext z i; unfold msOf; rw [h (12 + i) z (by omega) (by omega) (by omega)]
theorem dtx_zI (h : dtx m m') (z : Int) : zI m' z ↔ zI m z := by
  unfold zI
  rw [dtx_ss h, dtx_os h, dtx_hs h, h 2 _ (by decide) (by decide) (by decide), h 5 _ (by decide) (by decide) (by decide)]
theorem dtx_jI (h : dtx m m') (j : Int) : jI m' j ↔ jI m j := by
  unfold jI
  rw [dtx_zI h, dtx_ms h, dtx_nw h, dtx_nn h, dtx_ex h, dtx_xt h, h 11 _ (by decide) (by decide) (by decide), h 12 _ (by decide) (by decide) (by decide), h 13 _ (by decide) (by decide) (by decide), h 14 _ (by decide) (by decide) (by decide), h 15 _ (by decide) (by decide) (by decide), h 16 _ (by decide) (by decide) (by decide), h 17 _ (by decide) (by decide) (by decide), h 20 _ (by decide) (by decide) (by decide), h 28 _ (by decide) (by decide) (by decide), h 22 _ (by decide) (by decide) (by decide)]
end DTX
theorem nth_math {w n st len i : Int} (hw : 0 ≤ w ∧ w ≤ 6) (hn : 1 ≤ n ∧ n ≤ 6) (hl : 28 ≤ len ∧ len ≤ 31) (hi : 1 ≤ i ∧ i ≤ len) : i = nthd w n st len ↔ (w = (st + i - 1 + 5) % 7 ∧ (if n = 6 then len < i + 7 else (i - 1) / 7 + 1 = n)) := by
  unfold nthd
  by_cases c : n = 6
  · rw [if_pos c, if_pos c]
    by_cases c2 : (w + 7 - (st + 5) % 7) % 7 + 1 + 28 ≤ len
    · rw [if_pos c2]; omega
    · rw [if_neg c2]; omega
  · rw [if_neg c, if_neg c]; omega
section MO
variable {G : zk_G} {B : zk_H} {M : Nat}
theorem d_fits (hB : hpo G B M) {m : mS} {j : Int} (hj : jI m j) (d : Int) (hd : -1000 ≤ d ∧ d ≤ 20000) (Q : Option Value → zk_H → Prop) : zk_wp G 151 0 [some (.ref M), some (.int (iz j)), some (.int (iz d)), none, none, none, none, none] [] (hp G B M m) Q ↔ Q (some (.int (iz (bi (fitD (msOf m j) (nwOf m j) (nnOf m j) d))))) (hp G B M (dt m d)) := by
  refine zk_eq ?_ Q
  have ic := hp_ic hB
  have dd := d_date hB m d hd
  have wd := d_wd (G := G) (hp G B M (dt m d)) d (by omega)
  obtain ⟨a1, a2, a3, a4, -⟩ := agree_p hd
  have mr := moOf_r (d := d) (by omega)
  obtain ⟨s1, s2⟩ := moOf_sp d
  have sl := stOf_len (moOf d)
  obtain ⟨h1, -, m0, m1, m2, m3, m4, h2, -, -, -, hr⟩ := hj
  obtain ⟨-, -, -, -, -, -, -, k7, k8, -⟩ := hr
  have r8 : 1 ≤ dMon d ∧ dMon d ≤ 12 := by omega
  have r9 : 1 ≤ dDay d ∧ dDay d ≤ 31 := by omega
  have r7 : 1900 ≤ dYear d ∧ dYear d ≤ 2100 := by omega
  have rw_ : 0 ≤ wdn d ∧ wdn d < 7 := by unfold wdn; omega
  have do_ := d_daysOf (G := G) (hp G B M (dt m d)) (dYear d) (dMon d) (by omega) (by omega)
  rw [a4] at do_
  have x7 : dt m d 7 0 = dYear d := by unfold dt; rw [up_e]
  have x8 : dt m d 8 0 = dMon d := by unfold dt; rw [up_k _ _ _ _ (by decide), up_e]
  have x9 : dt m d 9 0 = dDay d := by unfold dt; rw [up_k _ _ _ _ (by decide), up_k _ _ _ _ (by decide), up_e]
  have xo : ∀ k z, k ≠ 7 → k ≠ 8 → k ≠ 9 → dt m d k z = m k z := dtx_dt m d
  have x14 := fun z => xo 14 z (by decide) (by decide) (by decide)
  have x15 := fun z => xo 15 z (by decide) (by decide) (by decide)
  have x16 := fun z => xo 16 z (by decide) (by decide) (by decide)
  have x17 := fun z => xo 17 z (by decide) (by decide) (by decide)
  have x18 := fun z => xo 18 z (by decide) (by decide) (by decide)
  have x19 := fun z => xo 19 z (by decide) (by decide) (by decide)
  have hz7 : ¬ iz 7 = (0 : Int32) := by decide
  have hfit : fitD (msOf m j) (nwOf m j) (nnOf m j) d = ((m 15 j).toNat.testBit (dMon d).toNat && (((m 14 j).toNat.testBit (dDay d).toNat && (m 16 j).toNat.testBit (wdn d).toNat) || (List.range (nwOf m j).length).any (fun k => decide (dDay d = nthd (gz (nwOf m j) k) (gz (nnOf m j) k) (stOf (moOf d)) (stOf (moOf d + 1) - stOf (moOf d)))))) := by
    unfold fitD fbit fday
    have e1 : decide (1 ≤ (d - stOf (moOf d) + 1).toNat) = true := by simp; omega
    have e2 : decide ((((d - stOf (moOf d) + 1).toNat : Nat) : Int) ≤ stOf (moOf d + 1) - stOf (moOf d)) = true := by simp; omega
    have e3 : (((d - stOf (moOf d) + 1).toNat : Nat) : Int) = dDay d := by omega
    rw [e1, e2, e3]
    have e4 : (stOf (moOf d) + dDay d - 1 + 5) % 7 = wdn d := by unfold wdn; rw [a1]; congr 1; omega
    rw [e4, ← a2, Bool.true_and, Bool.true_and, show (d - stOf (moOf d) + 1).toNat = (dDay d).toNat by rw [a1]]
    rfl
  have hnl : ((nwOf m j).length : Int) = m 17 j := rl_len _ h2.1
  have loop : ∀ (n : Nat) (k : Nat) (b : Bool) (o6 o7 : Option Value), (k : Int) + n = m 17 j → zk_wp G 151 70 [some (.ref M), some (.int (iz j)), some (.int (iz d)), some (.int (iz (wdn d))), some (.int (iz (bi (b || (List.range k).any (fun k => decide (dDay d = nthd (gz (nwOf m j) k) (gz (nnOf m j) k) (stOf (moOf d)) (stOf (moOf d + 1) - stOf (moOf d)))))))), some (.int (iz k)), o6, o7] [] (hp G B M (dt m d)) (fun r h' => r = some (.int (iz (bi (b || (List.range (nwOf m j).length).any (fun k => decide (dDay d = nthd (gz (nwOf m j) k) (gz (nnOf m j) k) (stOf (moOf d)) (stOf (moOf d + 1) - stOf (moOf d)))))))) ∧ h' = hp G B M (dt m d)) := by
    intro n
    induction n with
    | zero =>
      intro k b o6 o7 hn
      rw [u_151_70]
      simp (disch := first | omega | assumption | (simp; done)) only [u_151_0, u_151_1, u_151_2, u_151_5, u_151_6, u_151_9, u_151_10, u_151_11, u_151_14, u_151_15, u_151_16, u_151_17, u_151_20, u_151_21, u_151_22, u_151_23, u_151_26, u_151_27, u_151_28, u_151_29, u_151_32, u_151_33, u_151_34, u_151_35, u_151_38, u_151_39, u_151_40, u_151_41, u_151_42, u_151_43, u_151_46, u_151_47, u_151_50, u_151_51, u_151_52, u_151_53, u_151_54, u_151_55, u_151_56, u_151_57, u_151_60, u_151_61, u_151_64, u_151_65, u_151_67, u_151_68, u_151_72, u_151_73, u_151_76, u_151_77, u_151_78, u_151_82, u_151_85, u_151_86, u_151_87, u_151_88, u_151_90, u_151_91, u_151_92, u_151_94, u_151_96, u_151_98, u_151_101, u_151_102, u_151_105, u_151_107, u_151_108, u_151_109, u_151_112, u_151_113, u_151_116, u_151_119, u_151_122, u_151_123, u_151_126, u_151_127, u_151_130, u_151_131, u_151_134, u_151_135, u_151_136, u_151_138, u_151_139, u_151_140, u_151_141, u_151_143, u_151_146, u_151_147, u_151_150, u_151_151, u_151_153, u_151_155, u_151_158, u_151_159, u_151_162, u_151_163, u_151_164, u_151_165, u_151_167, u_151_168, u_151_169, u_151_170, u_151_173, u_151_175, u_151_178, u_151_179, u_151_182, u_151_183, u_151_185, u_151_188, u_151_191, u_151_193, true_or, or_true, zk_li1_s, zk_ll1_s, zk_la1_r, zk_la1_n, zk_lg0, zk_lgs, zk_co_n, zk_co_i, zk_co_r, zk_co_u, zk_co_l, zk_l1_0, zk_l1_1, zk_l1_s, zk_l2_0, zk_l2_1, zk_l2_s, zk_sm0, zk_smi, zk_smr, zk_smn, zk_sml, zk_fi, zk_fz, zk_fo, zk_fn, zk_fa, zk_ts, zk_tn, zk_cases, true_and, and_true, List.getElem?_cons_zero, List.getElem?_cons_succ, List.length_cons, List.length_nil, Nat.reduceAdd, Nat.reduceLT, Nat.reduceLeDiff, List.set_cons_zero, List.set_cons_succ, va_rf, iz_lit, iz_le, mg_17 hB, mr_17 hB, mw_17 hB, x17, bi_0, bi_1, bi_or]
      refine ⟨fun _ => ?_, fun c => absurd c (by omega)⟩
      rw [show (nwOf m j).length = k by omega]
    | succ n ih =>
      intro k b o6 o7 hn
      have g1 := gz_rl (n := m 17 j) (k := (k : Int)) (fun k => m 18 (3 * j + k)) (by omega) (by omega)
      have g2 := gz_rl (n := m 17 j) (k := (k : Int)) (fun k => m 19 (3 * j + k)) (by omega) (by omega)
      have b1 := k7 _ (gz_mem (xs := nwOf m j) (k := k) (by omega))
      have hnl2 : ((nnOf m j).length : Int) = m 17 j := rl_len _ h2.1
      have b2 := k8 _ (gz_mem (xs := nnOf m j) (k := k) (by omega))
      have g1' : m 18 (3 * j + k) = gz (nwOf m j) k := g1.symm
      have g2' : m 19 (3 * j + k) = gz (nnOf m j) k := g2.symm
      rw [u_151_70]
      simp (disch := first | omega | assumption | (simp; done)) only [u_151_0, u_151_1, u_151_2, u_151_5, u_151_6, u_151_9, u_151_10, u_151_11, u_151_14, u_151_15, u_151_16, u_151_17, u_151_20, u_151_21, u_151_22, u_151_23, u_151_26, u_151_27, u_151_28, u_151_29, u_151_32, u_151_33, u_151_34, u_151_35, u_151_38, u_151_39, u_151_40, u_151_41, u_151_42, u_151_43, u_151_46, u_151_47, u_151_50, u_151_51, u_151_52, u_151_53, u_151_54, u_151_55, u_151_56, u_151_57, u_151_60, u_151_61, u_151_64, u_151_65, u_151_67, u_151_68, u_151_72, u_151_73, u_151_76, u_151_77, u_151_78, u_151_81, u_151_82, u_151_85, u_151_86, u_151_87, u_151_88, u_151_90, u_151_91, u_151_92, u_151_94, u_151_96, u_151_98, u_151_101, u_151_102, u_151_105, u_151_107, u_151_108, u_151_109, u_151_112, u_151_113, u_151_116, u_151_119, u_151_122, u_151_123, u_151_126, u_151_127, u_151_130, u_151_131, u_151_134, u_151_135, u_151_136, u_151_138, u_151_139, u_151_140, u_151_141, u_151_143, u_151_146, u_151_147, u_151_150, u_151_151, u_151_153, u_151_155, u_151_158, u_151_159, u_151_162, u_151_163, u_151_164, u_151_165, u_151_167, u_151_168, u_151_169, u_151_170, u_151_173, u_151_175, u_151_178, u_151_179, u_151_182, u_151_183, u_151_185, u_151_188, u_151_191, u_151_193, true_or, or_true, zk_li1_s, zk_ll1_s, zk_la1_r, zk_la1_n, zk_lg0, zk_lgs, zk_co_n, zk_co_i, zk_co_r, zk_co_u, zk_co_l, zk_l1_0, zk_l1_1, zk_l1_s, zk_l2_0, zk_l2_1, zk_l2_s, zk_sm0, zk_smi, zk_smr, zk_smn, zk_sml, zk_fi, zk_fz, zk_fo, zk_fn, zk_fa, zk_ts, zk_tn, zk_cases, true_and, and_true, List.getElem?_cons_zero, List.getElem?_cons_succ, List.length_cons, List.length_nil, Nat.reduceAdd, Nat.reduceLT, Nat.reduceLeDiff, List.set_cons_zero, List.set_cons_succ, va_rf, ic, iz_lit, iz_le, iz_lt, iz_inj, iz_mul, iz_add, iz_sub, iz_div, mg_7 hB, mw_7 hB, mg_8 hB, mw_8 hB, mg_9 hB, mw_9 hB, mg_17 hB, mr_17 hB, mw_17 hB, mg_18 hB, mr_18 hB, mw_18 hB, mg_19 hB, mr_19 hB, mw_19 hB, x7, x8, x9, x17, x18, x19, g1', g2', do_, bi_0, bi_1]
      have ek : ((k : Int) + 1) = ((k + 1 : Nat) : Int) := by omega
      rw [ek]
      have hmath := nth_math (st := stOf (moOf d)) b1 b2 sl (show 1 ≤ dDay d ∧ dDay d ≤ stOf (moOf d + 1) - stOf (moOf d) by omega)
      have e4 : (stOf (moOf d) + dDay d - 1 + 5) % 7 = wdn d := by unfold wdn; rw [a1]; congr 1; omega
      rw [e4] at hmath
      have hnext : ∀ c : Bool, c = (b || (List.range (k + 1)).any (fun k => decide (dDay d = nthd (gz (nwOf m j) k) (gz (nnOf m j) k) (stOf (moOf d)) (stOf (moOf d + 1) - stOf (moOf d))))) → ∀ (o6 o7 : Option Value), zk_wp G 151 70 [some (.ref M), some (.int (iz j)), some (.int (iz d)), some (.int (iz (wdn d))), some (.int (iz (bi c))), some (.int (iz ((k + 1 : Nat) : Int))), o6, o7] [] (hp G B M (dt m d)) (fun r h' => r = some (.int (iz (bi (b || (List.range (nwOf m j).length).any (fun k => decide (dDay d = nthd (gz (nwOf m j) k) (gz (nnOf m j) k) (stOf (moOf d)) (stOf (moOf d + 1) - stOf (moOf d)))))))) ∧ h' = hp G B M (dt m d)) := by
        intro c hc o6 o7
        rw [hc]
        exact ih (k + 1) b o6 o7 (by omega)
      have hT := hnext true
      have hF := hnext false
      have en : (b || (List.range (k + 1)).any (fun k => decide (dDay d = nthd (gz (nwOf m j) k) (gz (nnOf m j) k) (stOf (moOf d)) (stOf (moOf d + 1) - stOf (moOf d))))) = ((b || (List.range k).any (fun k => decide (dDay d = nthd (gz (nwOf m j) k) (gz (nnOf m j) k) (stOf (moOf d)) (stOf (moOf d + 1) - stOf (moOf d))))) || decide (dDay d = nthd (gz (nwOf m j) k) (gz (nnOf m j) k) (stOf (moOf d)) (stOf (moOf d + 1) - stOf (moOf d)))) := by
        rw [List.range_succ, List.any_append, Bool.or_assoc]
        simp
      rw [en] at hT hF
      clear hnext en ih
      have t1 : ∀ c : Bool, true = (c || decide (dDay d = nthd (gz (nwOf m j) k) (gz (nnOf m j) k) (stOf (moOf d)) (stOf (moOf d + 1) - stOf (moOf d)))) ↔ (c = true ∨ dDay d = nthd (gz (nwOf m j) k) (gz (nnOf m j) k) (stOf (moOf d)) (stOf (moOf d + 1) - stOf (moOf d))) := by
        intro c
        rw [eq_comm, Bool.or_eq_true, decide_eq_true_iff]
      have t2 : ∀ c : Bool, false = (c || decide (dDay d = nthd (gz (nwOf m j) k) (gz (nnOf m j) k) (stOf (moOf d)) (stOf (moOf d + 1) - stOf (moOf d)))) ↔ (c = false ∧ ¬ dDay d = nthd (gz (nwOf m j) k) (gz (nnOf m j) k) (stOf (moOf d)) (stOf (moOf d + 1) - stOf (moOf d))) := by
        intro c
        rw [eq_comm, Bool.or_eq_false_iff, decide_eq_false_iff_not]
      rw [t1] at hT
      rw [t2] at hF
      rw [hmath] at hT hF
      generalize (b || (List.range k).any (fun k => decide (dDay d = nthd (gz (nwOf m j) k) (gz (nnOf m j) k) (stOf (moOf d)) (stOf (moOf d + 1) - stOf (moOf d))))) = c0 at *
      refine ⟨fun c => absurd c (by omega), fun _ => ⟨fun c => ?_, fun c => ?_⟩⟩
      · rw [if_neg c] at hT hF
        exact ⟨fun c1 => ⟨fun c2 => hT (Or.inl (by simpa using c2)) _ _, fun c2 => ⟨fun c3 => hF ⟨c2, fun q => c3 q.1⟩ _ _, fun c3 => ⟨fun _ => hF ⟨c2, fun q => c1 q.2⟩ _ _, fun c4 => absurd trivial c4⟩⟩⟩, fun c1 => ⟨fun c2 => hT (Or.inl (by simpa using c2)) _ _, fun c2 => ⟨fun c3 => hF ⟨c2, fun q => c3 q.1⟩ _ _, fun c3 => ⟨fun c4 => absurd c4 (by decide), fun _ => hT (Or.inr ⟨c3, c1⟩) _ _⟩⟩⟩⟩
      · rw [if_pos c] at hT hF
        exact ⟨fun c1 => ⟨fun c2 => hT (Or.inl (by simpa using c2)) _ _, fun c2 => ⟨fun c3 => hF ⟨c2, fun q => c3 q.1⟩ _ _, fun c3 => ⟨fun _ => hF ⟨c2, fun q => absurd q.2 (by omega)⟩ _ _, fun c4 => absurd trivial c4⟩⟩⟩, fun c1 => ⟨fun c2 => hT (Or.inl (by simpa using c2)) _ _, fun c2 => ⟨fun c3 => hF ⟨c2, fun q => c3 q.1⟩ _ _, fun c3 => ⟨fun c4 => absurd c4 (by decide), fun _ => hT (Or.inr ⟨c3, by omega⟩) _ _⟩⟩⟩⟩
  simp (disch := first | omega | assumption | (simp; done)) only [u_151_0, u_151_1, u_151_2, u_151_5, u_151_6, u_151_9, u_151_10, u_151_11, u_151_14, u_151_15, u_151_16, u_151_17, u_151_20, u_151_21, u_151_22, u_151_23, u_151_26, u_151_27, u_151_28, u_151_29, u_151_32, u_151_33, u_151_34, u_151_35, u_151_38, u_151_39, u_151_40, u_151_41, u_151_42, u_151_43, u_151_46, u_151_47, u_151_50, u_151_51, u_151_52, u_151_53, u_151_54, u_151_55, u_151_56, u_151_57, u_151_60, u_151_61, u_151_64, u_151_65, u_151_67, u_151_68, u_151_72, u_151_73, u_151_76, u_151_77, u_151_78, u_151_81, u_151_82, u_151_85, u_151_86, u_151_87, u_151_88, u_151_90, u_151_91, u_151_92, u_151_94, u_151_96, u_151_98, u_151_101, u_151_102, u_151_105, u_151_107, u_151_108, u_151_109, u_151_112, u_151_113, u_151_116, u_151_119, u_151_122, u_151_123, u_151_126, u_151_127, u_151_130, u_151_131, u_151_134, u_151_135, u_151_136, u_151_138, u_151_139, u_151_140, u_151_141, u_151_143, u_151_146, u_151_147, u_151_150, u_151_151, u_151_153, u_151_155, u_151_158, u_151_159, u_151_162, u_151_163, u_151_164, u_151_165, u_151_167, u_151_168, u_151_169, u_151_170, u_151_173, u_151_175, u_151_178, u_151_179, u_151_182, u_151_183, u_151_185, u_151_188, u_151_191, u_151_193, true_or, or_true, zk_li1_s, zk_ll1_s, zk_la1_r, zk_la1_n, zk_lg0, zk_lgs, zk_co_n, zk_co_i, zk_co_r, zk_co_u, zk_co_l, zk_l1_0, zk_l1_1, zk_l1_s, zk_l2_0, zk_l2_1, zk_l2_s, zk_sm0, zk_smi, zk_smr, zk_smn, zk_sml, zk_fi, zk_fz, zk_fo, zk_fn, zk_fa, zk_ts, zk_tn, zk_cases, true_and, and_true, List.getElem?_cons_zero, List.getElem?_cons_succ, List.length_cons, List.length_nil, Nat.reduceAdd, Nat.reduceLT, Nat.reduceLeDiff, List.set_cons_zero, List.set_cons_succ, va_rf, ic, dd, wd, iz_lit, mg_7 hB, mw_7 hB, mg_8 hB, mw_8 hB, mg_9 hB, mw_9 hB, mg_14 hB, mr_14 hB, mw_14 hB, mg_15 hB, mr_15 hB, mw_15 hB, mg_16 hB, mr_16 hB, mw_16 hB, mg_17 hB, mr_17 hB, mw_17 hB, x8, x9, x14, x15, x16, x17, i_bit, ljt1, l_bit, l_bit1, bi_0, bi_1]
  rw [hfit]
  refine ⟨fun c => ?_, fun c => ?_⟩
  · have e15 : (m 15 j).toNat.testBit (dMon d).toNat = true := by simpa using c
    rw [e15, Bool.true_and]
    refine ⟨fun c2 => ?_, fun c2 => ⟨fun c3 => ?_, fun c3 => ?_⟩⟩
    · have e14 : (m 14 j).toNat.testBit (dDay d).toNat = false := by simpa using c2
      rw [e14, Bool.false_and]
      exact loop (m 17 j).toNat 0 false none none (by omega)
    · have e16 : (m 16 j).toNat.testBit (wdn d).toNat = false := by simpa using c3
      rw [e16, Bool.and_false]
      exact loop (m 17 j).toNat 0 false none none (by omega)
    · rw [c2, c3]
      exact loop (m 17 j).toNat 0 true none none (by omega)
  · rw [c, Bool.false_and]
    rfl
end MO
