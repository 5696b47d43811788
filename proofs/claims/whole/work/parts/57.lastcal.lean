/-! the model's due minutes, first and last -/
section CUTL
variable {ss os ex : List Int} {P : Int → Bool} {fr to b : Int}
theorem call_wit (zo : zok ss os) (zs : zsr ss) (ht : 0 ≤ to ∧ to ≤ 21038399) {mm : Int} (h2 : mm ≤ to) (c : calB ss os P ex mm = true) : ∃ l, zloc ss os 0 ≤ l ∧ l ≤ zhb ss os (to + 1) ∧ zmom ss os l = mm ∧ P l = true ∧ ¬ mm ∈ ex := by
  unfold calB at c
  rw [Bool.and_eq_true, bol_t] at c
  obtain ⟨c1, l, l1, l2, l3⟩ := c
  have c1' : ¬ mm ∈ ex := by simpa using c1
  refine ⟨l, l1, ?_, l2, l3, c1'⟩
  rcases Int.lt_or_le (zhb ss os (to + 1)) l with q | q
  · have := (mom_ge zo zs l1 (m0 := to + 1) (by omega)).mpr q
    omega
  · exact q
theorem call_none (zo : zok ss os) (zs : zsr ss) (ht : 0 ≤ to ∧ to ≤ 21038399) (hI : ∀ l, b < l → l ≤ zhb ss os (to + 1) → zloc ss os 0 ≤ l → P l = true → zmom ss os l ∈ ex) (hb : b < zloc ss os 0 ∨ zmom ss os b < fr) : lsP (calB ss os P ex) fr to 2147483647 := by
  refine Or.inl ⟨rfl, fun mm m1 m2 => ?_⟩
  rcases Bool.eq_false_or_eq_true (calB ss os P ex mm) with c | c
  · exfalso
    obtain ⟨l, l1, l2, l3, l4, l5⟩ := call_wit zo zs ht m2 c
    rcases Int.lt_or_le b l with q | q
    · exact l5 (by rw [← l3]; exact hI l q l2 l1 l4)
    · have := zmom_mono zo zs l1 q
      omega
  · exact c
theorem call_some (zo : zok ss os) (zs : zsr ss) (ht : 0 ≤ to ∧ to ≤ 21038399) (hI : ∀ l, b < l → l ≤ zhb ss os (to + 1) → zloc ss os 0 ≤ l → P l = true → zmom ss os l ∈ ex) (hz : zloc ss os 0 ≤ b) (hb : b ≤ zhb ss os (to + 1)) (hP : P b = true) (hf : fr ≤ zmom ss os b) (hx : ¬ zmom ss os b ∈ ex) : lsP (calB ss os P ex) fr to (zmom ss os b) := by
  refine Or.inr ⟨hf, ?_, ?_, fun mm m1 m2 => ?_⟩
  · rcases Int.lt_or_le to (zmom ss os b) with q | q
    · have := (mom_ge zo zs hz (m0 := to + 1) (by omega)).mp (by omega)
      omega
    · exact q
  · unfold calB
    rw [decide_eq_false hx, bol_t.mpr ⟨b, hz, rfl, hP⟩]
    rfl
  · rcases Bool.eq_false_or_eq_true (calB ss os P ex mm) with c | c
    · exfalso
      obtain ⟨l, l1, l2, l3, l4, l5⟩ := call_wit zo zs ht m2 c
      rcases Int.lt_or_le b l with q | q
      · exact l5 (by rw [← l3]; exact hI l q l2 l1 l4)
      · have := zmom_mono zo zs l1 q
        omega
    · exact c
theorem nof_lt (zo : zok ss os) (zs : zsr ss) (hf : 0 ≤ fr) (ht : 0 ≤ to ∧ to ≤ 21038399) (hb : b ≤ zhb ss os (to + 1)) : (nof (zmom ss os b) < fr ↔ (b < zloc ss os 0 ∨ zmom ss os b < fr)) ∧ (fr ≤ nof (zmom ss os b) → nof (zmom ss os b) = zmom ss os b ∧ zloc ss os 0 ≤ b) ∧ -9 ≤ nof (zmom ss os b) ∧ nof (zmom ss os b) ≤ 21038399 := by
  rcases Int.lt_or_le b (zloc ss os 0) with q | q
  · have e : zmom ss os b = 2147483647 := by unfold zmom; rw [if_pos q]
    rw [e]
    unfold nof
    rw [if_pos rfl]
    refine ⟨⟨fun _ => Or.inl q, fun _ => by omega⟩, fun _ => ⟨by omega, by omega⟩, by omega, by omega⟩
  · have hle : zmom ss os b ≤ to := by
      rcases Int.lt_or_le to (zmom ss os b) with w | w
      · have := (mom_ge zo zs q (m0 := to + 1) (by omega)).mp (by omega)
        omega
      · exact w
    have hge := zmom_r zo zs b
    have e : nof (zmom ss os b) = zmom ss os b := by unfold nof; rw [if_neg (by omega)]
    rw [e]
    exact ⟨⟨fun w => Or.inr w, fun w => by omega⟩, fun _ => ⟨rfl, q⟩, by omega, by omega⟩
end CUTL
section MLC
variable {G : zk_G} {B : zk_H} {M : Nat}
theorem d_isExcX (hB : hpo G B M) {m m1 : mS} {j : Int} (hj : jI m j) (h1 : dtx m m1) (d : Int) (hd : -2147483648 ≤ d ∧ d ≤ 2147483647) (Q : Option Value → zk_H → Prop) : zk_wp G 155 0 [some (.ref M), some (.int (iz j)), some (.int (iz d)), none, none] [] (hp G B M m1) Q ↔ Q (some (.int (iz (bi (decide (d ∈ exOf m j)))))) (hp G B M m1) := by
  have := d_isExc hB ((dtx_jI h1 j).mpr hj) d hd Q
  rw [dtx_ex h1] at this
  exact this
theorem d_lastCal (hB : hpo G B M) {m : mS} {j : Int} (hj : jI m j) (fr to : Int) (hfr : 0 ≤ fr ∧ fr ≤ 30000000) (hto : -30000000 ≤ to ∧ to ≤ 21038399) : ∃ m' v, dtx m m' ∧ lsP (calJ m j) fr to v ∧ ∀ Q : Option Value → zk_H → Prop, zk_wp G 172 0 [some (.ref M), some (.int (iz j)), some (.int (iz fr)), some (.int (iz to)), none, none, none, none, none, none, none] [] (hp G B M m) Q ↔ Q (some (.int (iz (nef v)))) (hp G B M m') := by
  have ic := hp_ic hB
  have zi := hj.2.1
  have j1 := hj.1
  have zr := zi.1
  have zo := zi.2.2.2.1
  have zs := zi.2.2.2.2.1
  have nv := d_never hB hj
  have fl := d_firstLocal hB zi
  have onx := fun m1 h1 => d_isOnX hB (m := m) (m1 := m1) hj h1
  have mox := fun m1 h1 => d_momX hB (m := m) (m1 := m1) zi h1
  have exx := fun m1 h1 => d_isExcX hB (m := m) (m1 := m1) hj h1
  have hm3 : msOf m j 3 < 2 ^ 13 := hj.2.2.2.2.2.2.2.2.2.2.2.2.2.2.1
  have m12 : 0 ≤ m 12 j ∧ m 12 j < 2 ^ 60 := hj.2.2.1
  have m13 : 0 ≤ m 13 j ∧ m 13 j < 2 ^ 24 := hj.2.2.2.1
  suffices hw : zk_wp G 172 0 [some (.ref M), some (.int (iz j)), some (.int (iz fr)), some (.int (iz to)), none, none, none, none, none, none, none] [] (hp G B M m) (fun r h' => ∃ m' v, dtx m m' ∧ lsP (calJ m j) fr to v ∧ r = some (.int (iz (nef v))) ∧ h' = hp G B M m') by
    obtain ⟨r0, h0, ⟨m', v, b1, b2, rfl, rfl⟩, b3⟩ := zk_some hw
    exact ⟨m', v, b1, b2, b3⟩
  generalize hQ : (fun (r : Option Value) (h' : zk_H) => ∃ m' v, dtx m m' ∧ lsP (calJ m j) fr to v ∧ r = some (.int (iz (nef v))) ∧ h' = hp G B M m') = Q
  by_cases hne : emp (msOf m j) (nwOf m j) = true
  · simp (disch := first | omega | assumption | (simp; done)) only [u_172_0, u_172_1, u_172_2, u_172_5, u_172_8, u_172_9, u_172_10, u_172_13, u_172_14, u_172_16, u_172_19, u_172_20, u_172_21, u_172_23, u_172_24, u_172_26, u_172_27, u_172_28, u_172_29, u_172_32, u_172_33, u_172_34, u_172_36, u_172_38, u_172_41, u_172_44, u_172_48, u_172_50, u_172_53, u_172_54, u_172_57, u_172_58, u_172_59, u_172_60, u_172_63, u_172_65, u_172_66, u_172_68, u_172_70, u_172_73, u_172_75, u_172_77, u_172_78, u_172_81, u_172_82, u_172_83, u_172_84, u_172_85, u_172_87, u_172_90, u_172_93, u_172_95, u_172_99, u_172_101, u_172_104, u_172_105, u_172_108, u_172_110, u_172_112, u_172_115, u_172_116, u_172_117, u_172_119, u_172_120, u_172_123, u_172_124, u_172_125, u_172_127, u_172_129, u_172_130, u_172_131, u_172_132, u_172_133, u_172_134, u_172_137, u_172_138, u_172_141, u_172_142, u_172_143, u_172_145, u_172_147, u_172_148, u_172_149, u_172_150, u_172_151, u_172_152, u_172_153, u_172_156, u_172_157, u_172_159, u_172_161, u_172_164, u_172_166, u_172_168, u_172_169, u_172_172, u_172_173, u_172_174, u_172_175, u_172_176, u_172_178, u_172_181, u_172_184, u_172_186, u_172_187, u_172_190, u_172_193, u_172_196, true_or, or_true, zk_li1_s, zk_ll1_s, zk_la1_r, zk_la1_n, zk_lg0, zk_lgs, zk_co_n, zk_co_i, zk_co_r, zk_co_u, zk_co_l, zk_l1_0, zk_l1_1, zk_l1_s, zk_l2_0, zk_l2_1, zk_l2_s, zk_sm0, zk_smi, zk_smr, zk_smn, zk_sml, zk_fi, zk_fz, zk_fo, zk_fn, zk_fa, zk_ts, zk_tn, zk_cases, true_and, and_true, List.getElem?_cons_zero, List.getElem?_cons_succ, List.length_cons, List.length_nil, Nat.reduceAdd, Nat.reduceLT, Nat.reduceLeDiff, List.set_cons_zero, List.set_cons_succ, va_rf, ic, iz_lit, iz_neg, nv, bi_0, hne]
    refine ⟨fun _ => ?_, fun c => absurd c (by simp)⟩
    rw [← hQ]
    refine ⟨m, 2147483647, dtx_r m, Or.inl ⟨rfl, fun l l1 l2 => ?_⟩, rfl, rfl⟩
    unfold calJ calB
    rw [Bool.and_eq_false_iff]
    right
    rw [bol_f]
    rintro ⟨l', -, -, l3⟩
    rw [emp_not hne hm3] at l3
    cases l3
  have hne' : emp (msOf m j) (nwOf m j) = false := by simpa using hne
  rcases Int.lt_or_le to fr with hft | hft
  · simp (disch := first | omega | assumption | (simp; done)) only [u_172_0, u_172_1, u_172_2, u_172_5, u_172_8, u_172_9, u_172_10, u_172_13, u_172_14, u_172_16, u_172_19, u_172_20, u_172_21, u_172_23, u_172_24, u_172_26, u_172_27, u_172_28, u_172_29, u_172_32, u_172_33, u_172_34, u_172_36, u_172_38, u_172_41, u_172_44, u_172_48, u_172_50, u_172_53, u_172_54, u_172_57, u_172_58, u_172_59, u_172_60, u_172_63, u_172_65, u_172_66, u_172_68, u_172_70, u_172_73, u_172_75, u_172_77, u_172_78, u_172_81, u_172_82, u_172_83, u_172_84, u_172_85, u_172_87, u_172_90, u_172_93, u_172_95, u_172_99, u_172_101, u_172_104, u_172_105, u_172_108, u_172_110, u_172_112, u_172_115, u_172_116, u_172_117, u_172_119, u_172_120, u_172_123, u_172_124, u_172_125, u_172_127, u_172_129, u_172_130, u_172_131, u_172_132, u_172_133, u_172_134, u_172_137, u_172_138, u_172_141, u_172_142, u_172_143, u_172_145, u_172_147, u_172_148, u_172_149, u_172_150, u_172_151, u_172_152, u_172_153, u_172_156, u_172_157, u_172_159, u_172_161, u_172_164, u_172_166, u_172_168, u_172_169, u_172_172, u_172_173, u_172_174, u_172_175, u_172_176, u_172_178, u_172_181, u_172_184, u_172_186, u_172_187, u_172_190, u_172_193, u_172_196, true_or, or_true, zk_li1_s, zk_ll1_s, zk_la1_r, zk_la1_n, zk_lg0, zk_lgs, zk_co_n, zk_co_i, zk_co_r, zk_co_u, zk_co_l, zk_l1_0, zk_l1_1, zk_l1_s, zk_l2_0, zk_l2_1, zk_l2_s, zk_sm0, zk_smi, zk_smr, zk_smn, zk_sml, zk_fi, zk_fz, zk_fo, zk_fn, zk_fa, zk_ts, zk_tn, zk_cases, true_and, and_true, List.getElem?_cons_zero, List.getElem?_cons_succ, List.length_cons, List.length_nil, Nat.reduceAdd, Nat.reduceLT, Nat.reduceLeDiff, List.set_cons_zero, List.set_cons_succ, va_rf, ic, iz_lit, iz_neg, iz_le, nv, bi_0, hne']
    refine ⟨fun c => absurd trivial c, fun _ => ⟨fun c => absurd c (by omega), fun _ => ?_⟩⟩
    rw [← hQ]
    exact ⟨m, 2147483647, dtx_r m, Or.inl ⟨rfl, fun l l1 l2 => by omega⟩, rfl, rfl⟩
  have hb := zhb_r zo zs (m0 := to + 1)
  have z5 := zoff_r zo 0
  have z6 : -840 ≤ zloc (ssOf m (m 11 j)) (osOf m (m 11 j)) 0 ∧ zloc (ssOf m (m 11 j)) (osOf m (m 11 j)) 0 ≤ 840 := by unfold zloc; omega
  have none_ := fun b => call_none (P := locP (msOf m j) (nwOf m j) (nnOf m j) (hsOf m (m 11 j)) (m 22 j)) (ex := exOf m j) (fr := fr) (to := to) (b := b) zo zs (by omega)
  have some_ := fun b => call_some (P := locP (msOf m j) (nwOf m j) (nnOf m j) (hsOf m (m 11 j)) (m 22 j)) (ex := exOf m j) (fr := fr) (to := to) (b := b) zo zs (by omega)
  have nofl := fun b => nof_lt (fr := fr) (to := to) (b := b) zo zs (by omega) (by omega)
  generalize hU : zhb (ssOf m (m 11 j)) (osOf m (m 11 j)) (to + 1) = U0 at *
  have tk : ∀ d t : Int, 0 ≤ t → t < 1440 → tok (msOf m j) ((1440 * d + t) % 1440) = ((m 13 j).toNat.testBit (t / 60).toNat && (m 12 j).toNat.testBit (t % 60).toNat) := by
    intro d t t1 t2
    unfold tok
    have e1 : (1440 * d + t) % 1440 = t := by omega
    rw [e1]
    rfl
  have hz60 : ¬ iz 60 = (0 : Int32) := by decide
  have inner : ∀ (n : Nat) (d e : Int) (l : Int) (m1 : mS) (o8 o10 : Option Value), (∀ o8 o9 o10 : Option Value, (∀ l, 1440 * d - 1 < l → l ≤ U0 → zloc (ssOf m (m 11 j)) (osOf m (m 11 j)) 0 ≤ l → locP (msOf m j) (nwOf m j) (nnOf m j) (hsOf m (m 11 j)) (m 22 j) l = true → zmom (ssOf m (m 11 j)) (osOf m (m 11 j)) l ∈ exOf m j) → zk_wp G 172 193 [some (.ref M), some (.int (iz j)), some (.int (iz fr)), some (.int (iz to)), some (.int (iz (m 11 j))), some (.int (iz U0)), some (.int (iz d)), some (.int (iz e)), o8, o9, o10] [] (hp G B M m1) Q) → dtx m m1 → onD (msOf m j) (nwOf m j) (nnOf m j) (hsOf m (m 11 j)) (m 22 j) d = true → -3 ≤ d → d ≤ 14700 → 1440 * d - 1 ≤ l → l ≤ U0 → l ≤ 1440 * d + 1439 → l - (1440 * d - 1) ≤ n → (∀ l', l < l' → l' ≤ U0 → zloc (ssOf m (m 11 j)) (osOf m (m 11 j)) 0 ≤ l' → locP (msOf m j) (nwOf m j) (nnOf m j) (hsOf m (m 11 j)) (m 22 j) l' = true → zmom (ssOf m (m 11 j)) (osOf m (m 11 j)) l' ∈ exOf m j) → zk_wp G 172 97 [some (.ref M), some (.int (iz j)), some (.int (iz fr)), some (.int (iz to)), some (.int (iz (m 11 j))), some (.int (iz U0)), some (.int (iz d)), some (.int (iz e)), o8, some (.int (iz l)), o10] [] (hp G B M m1) Q := by
    intro n
    induction n with
    | zero =>
      intro d e l m1 o8 o10 nxt h1 hon d1 d2 l1 l2 l3 l4 hI
      rw [u_172_97]
      simp (disch := first | omega | assumption | (simp; done)) only [u_172_0, u_172_1, u_172_2, u_172_5, u_172_8, u_172_9, u_172_10, u_172_13, u_172_14, u_172_15, u_172_16, u_172_19, u_172_20, u_172_21, u_172_23, u_172_24, u_172_26, u_172_27, u_172_28, u_172_29, u_172_32, u_172_33, u_172_34, u_172_36, u_172_38, u_172_41, u_172_44, u_172_48, u_172_50, u_172_53, u_172_54, u_172_57, u_172_58, u_172_59, u_172_60, u_172_63, u_172_65, u_172_66, u_172_68, u_172_70, u_172_73, u_172_75, u_172_77, u_172_78, u_172_81, u_172_82, u_172_83, u_172_84, u_172_85, u_172_87, u_172_90, u_172_93, u_172_95, u_172_99, u_172_101, u_172_104, u_172_105, u_172_110, u_172_112, u_172_115, u_172_116, u_172_117, u_172_119, u_172_120, u_172_123, u_172_124, u_172_125, u_172_127, u_172_129, u_172_130, u_172_131, u_172_132, u_172_133, u_172_134, u_172_137, u_172_138, u_172_141, u_172_142, u_172_143, u_172_145, u_172_147, u_172_148, u_172_149, u_172_150, u_172_151, u_172_152, u_172_153, u_172_156, u_172_157, u_172_159, u_172_161, u_172_164, u_172_166, u_172_168, u_172_169, u_172_172, u_172_173, u_172_174, u_172_175, u_172_176, u_172_178, u_172_181, u_172_184, u_172_186, u_172_187, u_172_190, u_172_196, true_or, or_true, zk_li1_s, zk_ll1_s, zk_la1_r, zk_la1_n, zk_lg0, zk_lgs, zk_co_n, zk_co_i, zk_co_r, zk_co_u, zk_co_l, zk_l1_0, zk_l1_1, zk_l1_s, zk_l2_0, zk_l2_1, zk_l2_s, zk_sm0, zk_smi, zk_smr, zk_smn, zk_sml, zk_fi, zk_fz, zk_fo, zk_fn, zk_fa, zk_ts, zk_tn, zk_cases, true_and, and_true, List.getElem?_cons_zero, List.getElem?_cons_succ, List.length_cons, List.length_nil, Nat.reduceAdd, Nat.reduceLT, Nat.reduceLeDiff, List.set_cons_zero, List.set_cons_succ, va_rf, iz_lit, iz_lt, iz_mul]
      refine ⟨fun _ => ?_, fun c => absurd c (by omega)⟩
      exact nxt _ _ _ (fun l' a => hI l' (by omega))
    | succ n ih =>
      intro d e l m1 o8 o10 nxt h1 hon d1 d2 l1 l2 l3 l4 hI
      rw [u_172_97]
      rcases Int.lt_or_le l (1440 * d) with q | q
      · simp (disch := first | omega | assumption | (simp; done)) only [u_172_0, u_172_1, u_172_2, u_172_5, u_172_8, u_172_9, u_172_10, u_172_13, u_172_14, u_172_15, u_172_16, u_172_19, u_172_20, u_172_21, u_172_23, u_172_24, u_172_26, u_172_27, u_172_28, u_172_29, u_172_32, u_172_33, u_172_34, u_172_36, u_172_38, u_172_41, u_172_44, u_172_48, u_172_50, u_172_53, u_172_54, u_172_57, u_172_58, u_172_59, u_172_60, u_172_63, u_172_65, u_172_66, u_172_68, u_172_70, u_172_73, u_172_75, u_172_77, u_172_78, u_172_81, u_172_82, u_172_83, u_172_84, u_172_85, u_172_87, u_172_90, u_172_93, u_172_95, u_172_99, u_172_101, u_172_104, u_172_105, u_172_110, u_172_112, u_172_115, u_172_116, u_172_117, u_172_119, u_172_120, u_172_123, u_172_124, u_172_125, u_172_127, u_172_129, u_172_130, u_172_131, u_172_132, u_172_133, u_172_134, u_172_137, u_172_138, u_172_141, u_172_142, u_172_143, u_172_145, u_172_147, u_172_148, u_172_149, u_172_150, u_172_151, u_172_152, u_172_153, u_172_156, u_172_157, u_172_159, u_172_161, u_172_164, u_172_166, u_172_168, u_172_169, u_172_172, u_172_173, u_172_174, u_172_175, u_172_176, u_172_178, u_172_181, u_172_184, u_172_186, u_172_187, u_172_190, u_172_196, true_or, or_true, zk_li1_s, zk_ll1_s, zk_la1_r, zk_la1_n, zk_lg0, zk_lgs, zk_co_n, zk_co_i, zk_co_r, zk_co_u, zk_co_l, zk_l1_0, zk_l1_1, zk_l1_s, zk_l2_0, zk_l2_1, zk_l2_s, zk_sm0, zk_smi, zk_smr, zk_smn, zk_sml, zk_fi, zk_fz, zk_fo, zk_fn, zk_fa, zk_ts, zk_tn, zk_cases, true_and, and_true, List.getElem?_cons_zero, List.getElem?_cons_succ, List.length_cons, List.length_nil, Nat.reduceAdd, Nat.reduceLT, Nat.reduceLeDiff, List.set_cons_zero, List.set_cons_succ, va_rf, iz_lit, iz_lt, iz_mul]
        refine ⟨fun _ => ?_, fun c => absurd c (by omega)⟩
        exact nxt _ _ _ (fun l' a => hI l' (by omega))
      · obtain ⟨n1, n2, n3, n4⟩ := nofl l (by omega)
        have mo1 := mox m1 h1 l (by omega)
        have some1 := some_ l hI
        have none1 := none_ l hI
        have tk1 := tk d (l - d * 1440) (by omega) (by omega)
        rw [show 1440 * d + (l - d * 1440) = l by omega] at tk1
        generalize hv : zmom (ssOf m (m 11 j)) (osOf m (m 11 j)) l = v at *
        have ex1 := exx m1 h1 (nof v) (by omega)
        have x12 : m1 12 j = m 12 j := h1 12 j (by decide) (by decide) (by decide)
        have x13 : m1 13 j = m 13 j := h1 13 j (by decide) (by decide) (by decide)
        have el : l + -1 = l - 1 := by omega
        simp (disch := first | omega | assumption | (simp; done)) only [u_172_0, u_172_1, u_172_2, u_172_5, u_172_8, u_172_9, u_172_10, u_172_13, u_172_14, u_172_15, u_172_16, u_172_19, u_172_20, u_172_21, u_172_23, u_172_24, u_172_26, u_172_27, u_172_28, u_172_29, u_172_32, u_172_33, u_172_34, u_172_36, u_172_38, u_172_41, u_172_44, u_172_48, u_172_50, u_172_53, u_172_54, u_172_57, u_172_58, u_172_59, u_172_60, u_172_63, u_172_65, u_172_66, u_172_68, u_172_70, u_172_73, u_172_75, u_172_77, u_172_78, u_172_81, u_172_82, u_172_83, u_172_84, u_172_85, u_172_87, u_172_90, u_172_93, u_172_95, u_172_99, u_172_101, u_172_104, u_172_105, u_172_108, u_172_110, u_172_112, u_172_115, u_172_116, u_172_117, u_172_119, u_172_120, u_172_123, u_172_124, u_172_125, u_172_127, u_172_129, u_172_130, u_172_131, u_172_132, u_172_133, u_172_134, u_172_137, u_172_138, u_172_141, u_172_142, u_172_143, u_172_145, u_172_147, u_172_148, u_172_149, u_172_150, u_172_151, u_172_152, u_172_153, u_172_156, u_172_157, u_172_159, u_172_161, u_172_164, u_172_166, u_172_168, u_172_169, u_172_172, u_172_173, u_172_174, u_172_175, u_172_176, u_172_178, u_172_181, u_172_184, u_172_186, u_172_187, u_172_190, u_172_196, true_or, or_true, zk_li1_s, zk_ll1_s, zk_la1_r, zk_la1_n, zk_lg0, zk_lgs, zk_co_n, zk_co_i, zk_co_r, zk_co_u, zk_co_l, zk_l1_0, zk_l1_1, zk_l1_s, zk_l2_0, zk_l2_1, zk_l2_s, zk_sm0, zk_smi, zk_smr, zk_smn, zk_sml, zk_fi, zk_fz, zk_fo, zk_fn, zk_fa, zk_ts, zk_tn, zk_cases, true_and, and_true, List.getElem?_cons_zero, List.getElem?_cons_succ, List.length_cons, List.length_nil, Nat.reduceAdd, Nat.reduceLT, Nat.reduceLeDiff, List.set_cons_zero, List.set_cons_succ, va_rf, ic, iz_lit, iz_neg, iz_lt, iz_le, iz_mul, iz_add, iz_sub, iz_div, rem_id, mg_12 hB, mr_12 hB, mw_12 hB, mg_13 hB, mr_13 hB, mw_13 hB, x12, x13, i_bit, ljt1, l_bit, l_bit1, bi_0, bi_1, mo1, ex1, el]
        have go : (tok (msOf m j) (l % 1440) = true → v ∈ exOf m j) → ∀ o8 o10 : Option Value, zk_wp G 172 97 [some (.ref M), some (.int (iz j)), some (.int (iz fr)), some (.int (iz to)), some (.int (iz (m 11 j))), some (.int (iz U0)), some (.int (iz d)), some (.int (iz e)), o8, some (.int (iz (l - 1))), o10] [] (hp G B M m1) Q := by
          intro ht o8 o10
          refine ih d e (l - 1) m1 o8 o10 nxt h1 hon d1 d2 (by omega) (by omega) (by omega) (by omega) (fun l' a b c f => ?_)
          rcases Int.lt_or_le l l' with w | w
          · exact hI l' w b c f
          · have : l' = l := by omega
            subst this
            rw [hv]
            unfold locP at f
            rw [Bool.and_eq_true] at f
            exact ht f.2
        refine ⟨fun c => absurd c (by omega), fun _ => ⟨fun c => ?_, fun c => ⟨fun c2 => ?_, fun c2 => ⟨fun c3 => ⟨fun c4 => ?_, fun c4 => ?_⟩, fun c3 => ?_⟩⟩⟩⟩
        · refine go (fun w => ?_) _ _
          rw [tk1] at w
          have : (m 13 j).toNat.testBit ((l - d * 1440) / 60).toNat = false := by simpa using c
          rw [this] at w
          cases w
        · refine go (fun w => ?_) _ _
          rw [tk1] at w
          have : (m 12 j).toNat.testBit ((l - d * 1440) % 60).toNat = false := by simpa using c2
          rw [this, Bool.and_false] at w
          cases w
        · obtain ⟨e1, e2⟩ := n2 (by omega)
          refine go (fun _ => ?_) _ _
          rw [e1] at c4
          rcases Bool.eq_false_or_eq_true (decide (v ∈ exOf m j)) with w | w
          · exact of_decide_eq_true w
          · exact absurd w c4
        · obtain ⟨e1, e2⟩ := n2 (by omega)
          rw [e1] at c3 c4 ⊢
          rw [← hQ]
          refine ⟨m1, v, h1, some1 e2 (by omega) ?_ c3 (of_decide_eq_false c4), ?_, rfl⟩
          · unfold locP
            rw [show l / 1440 = d by omega, hon, tk1, c, c2]
            rfl
          · unfold nef; rw [if_neg (by omega)]
        · rw [← hQ]
          exact ⟨m1, 2147483647, h1, none1 (n1.mp (by omega)), rfl, rfl⟩
  have loop : ∀ (n : Nat) (d : Int) (m1 : mS) (o7 o8 o9 o10 : Option Value), dtx m m1 → -3 ≤ d → d ≤ 14700 → d + 3 ≤ n → 1440 * d ≤ U0 → (∀ l, 1440 * d + 1439 < l → l ≤ U0 → zloc (ssOf m (m 11 j)) (osOf m (m 11 j)) 0 ≤ l → locP (msOf m j) (nwOf m j) (nnOf m j) (hsOf m (m 11 j)) (m 22 j) l = true → zmom (ssOf m (m 11 j)) (osOf m (m 11 j)) l ∈ exOf m j) → zk_wp G 172 46 [some (.ref M), some (.int (iz j)), some (.int (iz fr)), some (.int (iz to)), some (.int (iz (m 11 j))), some (.int (iz U0)), some (.int (iz d)), o7, o8, o9, o10] [] (hp G B M m1) Q := by
    intro n
    induction n with
    | zero =>
      intro d m1 o7 o8 o9 o10 h1 h2 h3 h4 h5 hI
      have ls := d_less (G := G) (hp G B M m1) U0 (d * 1440 + 1440 - 1) (by omega) (by omega)
      have mo1 := mox m1 h1 (min U0 (d * 1440 + 1440 - 1)) (by omega)
      obtain ⟨n1, n2, n3, n4⟩ := nofl (min U0 (d * 1440 + 1440 - 1)) (by omega)
      have nn_ := none_ (min U0 (d * 1440 + 1440 - 1)) (fun l a b c f => hI l (by omega) b c f)
      rw [u_172_46]
      simp (disch := first | omega | assumption | (simp; done)) only [u_172_0, u_172_1, u_172_2, u_172_5, u_172_8, u_172_9, u_172_10, u_172_13, u_172_14, u_172_15, u_172_16, u_172_19, u_172_20, u_172_21, u_172_23, u_172_24, u_172_26, u_172_27, u_172_28, u_172_29, u_172_32, u_172_33, u_172_34, u_172_36, u_172_38, u_172_41, u_172_44, u_172_48, u_172_50, u_172_53, u_172_54, u_172_57, u_172_58, u_172_59, u_172_60, u_172_63, u_172_65, u_172_66, u_172_68, u_172_70, u_172_73, u_172_75, u_172_77, u_172_78, u_172_81, u_172_82, u_172_84, u_172_85, u_172_87, u_172_90, u_172_93, u_172_95, u_172_97, u_172_99, u_172_101, u_172_104, u_172_105, u_172_108, u_172_110, u_172_112, u_172_115, u_172_116, u_172_117, u_172_119, u_172_120, u_172_123, u_172_124, u_172_125, u_172_127, u_172_129, u_172_130, u_172_131, u_172_132, u_172_133, u_172_134, u_172_137, u_172_138, u_172_141, u_172_142, u_172_143, u_172_145, u_172_147, u_172_148, u_172_149, u_172_150, u_172_151, u_172_152, u_172_153, u_172_156, u_172_157, u_172_159, u_172_161, u_172_164, u_172_166, u_172_168, u_172_169, u_172_172, u_172_173, u_172_174, u_172_175, u_172_176, u_172_178, u_172_181, u_172_184, u_172_186, u_172_187, u_172_190, u_172_193, u_172_196, true_or, or_true, zk_li1_s, zk_ll1_s, zk_la1_r, zk_la1_n, zk_lg0, zk_lgs, zk_co_n, zk_co_i, zk_co_r, zk_co_u, zk_co_l, zk_l1_0, zk_l1_1, zk_l1_s, zk_l2_0, zk_l2_1, zk_l2_s, zk_sm0, zk_smi, zk_smr, zk_smn, zk_sml, zk_fi, zk_fz, zk_fo, zk_fn, zk_fa, zk_ts, zk_tn, zk_cases, true_and, and_true, List.getElem?_cons_zero, List.getElem?_cons_succ, List.length_cons, List.length_nil, Nat.reduceAdd, Nat.reduceLT, Nat.reduceLeDiff, List.set_cons_zero, List.set_cons_succ, va_rf, ic, iz_lit, iz_neg, iz_le, iz_mul, iz_add, iz_sub, ls, mo1]
      have hlow : nof (zmom (ssOf m (m 11 j)) (osOf m (m 11 j)) (min U0 (d * 1440 + 1440 - 1))) < fr := n1.mpr (Or.inl (by omega))
      refine ⟨fun c => absurd c (by omega), fun _ => ?_⟩
      rw [← hQ]
      exact ⟨m1, 2147483647, h1, nn_ (n1.mp hlow), rfl, rfl⟩
    | succ n ih =>
      intro d m1 o7 o8 o9 o10 h1 h2 h3 h4 h5 hI
      have ls := d_less (G := G) (hp G B M m1) U0 (d * 1440 + 1440 - 1) (by omega) (by omega)
      have mo1 := mox m1 h1 (min U0 (d * 1440 + 1440 - 1)) (by omega)
      obtain ⟨n1, n2, n3, n4⟩ := nofl (min U0 (d * 1440 + 1440 - 1)) (by omega)
      have hI2 : ∀ l, min U0 (d * 1440 + 1440 - 1) < l → l ≤ U0 → zloc (ssOf m (m 11 j)) (osOf m (m 11 j)) 0 ≤ l → locP (msOf m j) (nwOf m j) (nnOf m j) (hsOf m (m 11 j)) (m 22 j) l = true → zmom (ssOf m (m 11 j)) (osOf m (m 11 j)) l ∈ exOf m j := fun l a b c f => hI l (by omega) b c f
      have nn_ := none_ (min U0 (d * 1440 + 1440 - 1)) hI2
      rw [u_172_46]
      obtain ⟨m2, g2, on1⟩ := onx m1 h1 d (by omega)
      generalize hE : min U0 (d * 1440 + 1440 - 1) = E at *
      generalize hv : zmom (ssOf m (m 11 j)) (osOf m (m 11 j)) E = v at *
      simp (disch := first | omega | assumption | (simp; done)) only [u_172_0, u_172_1, u_172_2, u_172_5, u_172_8, u_172_9, u_172_10, u_172_13, u_172_14, u_172_15, u_172_16, u_172_19, u_172_20, u_172_21, u_172_23, u_172_24, u_172_26, u_172_27, u_172_28, u_172_29, u_172_32, u_172_33, u_172_34, u_172_36, u_172_38, u_172_41, u_172_44, u_172_48, u_172_50, u_172_53, u_172_54, u_172_57, u_172_58, u_172_59, u_172_60, u_172_63, u_172_65, u_172_66, u_172_68, u_172_70, u_172_73, u_172_75, u_172_77, u_172_78, u_172_81, u_172_82, u_172_83, u_172_84, u_172_85, u_172_87, u_172_90, u_172_93, u_172_95, u_172_99, u_172_101, u_172_104, u_172_105, u_172_108, u_172_110, u_172_112, u_172_115, u_172_116, u_172_117, u_172_119, u_172_120, u_172_123, u_172_124, u_172_125, u_172_127, u_172_129, u_172_130, u_172_131, u_172_132, u_172_133, u_172_134, u_172_137, u_172_138, u_172_141, u_172_142, u_172_143, u_172_145, u_172_147, u_172_148, u_172_149, u_172_150, u_172_151, u_172_152, u_172_153, u_172_156, u_172_157, u_172_159, u_172_161, u_172_164, u_172_166, u_172_168, u_172_169, u_172_172, u_172_173, u_172_174, u_172_175, u_172_176, u_172_178, u_172_181, u_172_184, u_172_186, u_172_187, u_172_190, u_172_196, true_or, or_true, zk_li1_s, zk_ll1_s, zk_la1_r, zk_la1_n, zk_lg0, zk_lgs, zk_co_n, zk_co_i, zk_co_r, zk_co_u, zk_co_l, zk_l1_0, zk_l1_1, zk_l1_s, zk_l2_0, zk_l2_1, zk_l2_s, zk_sm0, zk_smi, zk_smr, zk_smn, zk_sml, zk_fi, zk_fz, zk_fo, zk_fn, zk_fa, zk_ts, zk_tn, zk_cases, true_and, and_true, List.getElem?_cons_zero, List.getElem?_cons_succ, List.length_cons, List.length_nil, Nat.reduceAdd, Nat.reduceLT, Nat.reduceLeDiff, List.set_cons_zero, List.set_cons_succ, va_rf, ic, iz_lit, iz_neg, iz_le, iz_mul, iz_add, iz_sub, ls, mo1, on1, bi_0]
      refine ⟨fun c => ?_, fun c => ?_⟩
      · obtain ⟨e1, e2⟩ := n2 (by omega)
        have nxt : ∀ o8 o9 o10 : Option Value, (∀ l, 1440 * d - 1 < l → l ≤ U0 → zloc (ssOf m (m 11 j)) (osOf m (m 11 j)) 0 ≤ l → locP (msOf m j) (nwOf m j) (nnOf m j) (hsOf m (m 11 j)) (m 22 j) l = true → zmom (ssOf m (m 11 j)) (osOf m (m 11 j)) l ∈ exOf m j) → zk_wp G 172 193 [some (.ref M), some (.int (iz j)), some (.int (iz fr)), some (.int (iz to)), some (.int (iz (m 11 j))), some (.int (iz U0)), some (.int (iz d)), some (.int (iz E)), o8, o9, o10] [] (hp G B M m2) Q := by
          intro o8 o9 o10 hJ
          rw [u_172_193]
          have ed : d + -1 = d - 1 := by omega
          simp (disch := first | omega | assumption | (simp; done)) only [u_172_0, u_172_1, u_172_2, u_172_5, u_172_8, u_172_9, u_172_10, u_172_13, u_172_14, u_172_15, u_172_16, u_172_19, u_172_20, u_172_21, u_172_23, u_172_24, u_172_26, u_172_27, u_172_28, u_172_29, u_172_32, u_172_33, u_172_34, u_172_36, u_172_38, u_172_41, u_172_44, u_172_48, u_172_50, u_172_53, u_172_54, u_172_57, u_172_58, u_172_59, u_172_60, u_172_63, u_172_65, u_172_66, u_172_68, u_172_70, u_172_73, u_172_75, u_172_77, u_172_78, u_172_81, u_172_82, u_172_83, u_172_84, u_172_85, u_172_87, u_172_90, u_172_93, u_172_95, u_172_99, u_172_101, u_172_104, u_172_105, u_172_108, u_172_110, u_172_112, u_172_115, u_172_116, u_172_117, u_172_119, u_172_120, u_172_123, u_172_124, u_172_125, u_172_127, u_172_129, u_172_130, u_172_131, u_172_132, u_172_133, u_172_134, u_172_137, u_172_138, u_172_141, u_172_142, u_172_143, u_172_145, u_172_147, u_172_148, u_172_149, u_172_150, u_172_151, u_172_152, u_172_153, u_172_156, u_172_157, u_172_159, u_172_161, u_172_164, u_172_166, u_172_168, u_172_169, u_172_172, u_172_173, u_172_174, u_172_175, u_172_176, u_172_178, u_172_181, u_172_184, u_172_186, u_172_187, u_172_190, u_172_196, true_or, or_true, zk_li1_s, zk_ll1_s, zk_la1_r, zk_la1_n, zk_lg0, zk_lgs, zk_co_n, zk_co_i, zk_co_r, zk_co_u, zk_co_l, zk_l1_0, zk_l1_1, zk_l1_s, zk_l2_0, zk_l2_1, zk_l2_s, zk_sm0, zk_smi, zk_smr, zk_smn, zk_sml, zk_fi, zk_fz, zk_fo, zk_fn, zk_fa, zk_ts, zk_tn, zk_cases, true_and, and_true, List.getElem?_cons_zero, List.getElem?_cons_succ, List.length_cons, List.length_nil, Nat.reduceAdd, Nat.reduceLT, Nat.reduceLeDiff, List.set_cons_zero, List.set_cons_succ, va_rf, iz_lit, iz_neg, iz_add, ed]
          exact ih (d - 1) m2 _ _ _ _ g2 (by omega) (by omega) (by omega) (by omega) (fun l a => hJ l (by omega))
        refine ⟨fun c2 => ?_, fun c2 => ?_⟩
        · refine nxt _ _ _ (fun l a b f g => ?_)
          rcases Int.lt_or_le (1440 * d + 1439) l with w | w
          · exact hI l w b f g
          · exfalso
            unfold locP at g
            rw [show l / 1440 = d by omega, c2] at g
            cases g
        · refine inner 2000 d E E m2 _ _ nxt g2 (by simpa using c2) (by omega) (by omega) (by omega) (by omega) (by omega) (by omega) hI2
      · rw [← hQ]
        exact ⟨m1, 2147483647, h1, nn_ (n1.mp (by omega)), rfl, rfl⟩
  have fl1 := fl (to + 1) (by omega)
  rw [hU] at fl1
  have dn := d_down (G := G) (hp G B M m) U0 1440 (by omega) (by omega)
  have eU : U0 + 1 - 1 = U0 := by omega
  simp (disch := first | omega | assumption | (simp; done)) only [u_172_0, u_172_1, u_172_2, u_172_5, u_172_8, u_172_9, u_172_10, u_172_13, u_172_14, u_172_15, u_172_16, u_172_19, u_172_20, u_172_21, u_172_23, u_172_24, u_172_26, u_172_27, u_172_28, u_172_29, u_172_32, u_172_33, u_172_34, u_172_36, u_172_38, u_172_41, u_172_44, u_172_48, u_172_50, u_172_53, u_172_54, u_172_57, u_172_58, u_172_59, u_172_60, u_172_63, u_172_65, u_172_66, u_172_68, u_172_70, u_172_73, u_172_75, u_172_77, u_172_78, u_172_81, u_172_82, u_172_83, u_172_84, u_172_85, u_172_87, u_172_90, u_172_93, u_172_95, u_172_97, u_172_99, u_172_101, u_172_104, u_172_105, u_172_108, u_172_110, u_172_112, u_172_115, u_172_116, u_172_117, u_172_119, u_172_120, u_172_123, u_172_124, u_172_125, u_172_127, u_172_129, u_172_130, u_172_131, u_172_132, u_172_133, u_172_134, u_172_137, u_172_138, u_172_141, u_172_142, u_172_143, u_172_145, u_172_147, u_172_148, u_172_149, u_172_150, u_172_151, u_172_152, u_172_153, u_172_156, u_172_157, u_172_159, u_172_161, u_172_164, u_172_166, u_172_168, u_172_169, u_172_172, u_172_173, u_172_174, u_172_175, u_172_176, u_172_178, u_172_181, u_172_184, u_172_186, u_172_187, u_172_190, u_172_193, u_172_196, true_or, or_true, zk_li1_s, zk_ll1_s, zk_la1_r, zk_la1_n, zk_lg0, zk_lgs, zk_co_n, zk_co_i, zk_co_r, zk_co_u, zk_co_l, zk_l1_0, zk_l1_1, zk_l1_s, zk_l2_0, zk_l2_1, zk_l2_s, zk_sm0, zk_smi, zk_smr, zk_smn, zk_sml, zk_fi, zk_fz, zk_fo, zk_fn, zk_fa, zk_ts, zk_tn, zk_cases, true_and, and_true, List.getElem?_cons_zero, List.getElem?_cons_succ, List.length_cons, List.length_nil, Nat.reduceAdd, Nat.reduceLT, Nat.reduceLeDiff, List.set_cons_zero, List.set_cons_succ, va_rf, ic, iz_lit, iz_le, iz_add, iz_sub, nv, bi_0, hne', mg_11 hB, mr_11 hB, mw_11 hB, fl1, eU, dn]
  refine ⟨fun c => absurd trivial c, fun _ => ⟨fun _ => ?_, fun c => absurd c (by omega)⟩⟩
  exact loop 20000 (U0 / 1440) m _ _ _ _ (dtx_r m) (by omega) (by omega) (by omega) (by omega) (fun l l1 l2 => by omega)
end MLC
