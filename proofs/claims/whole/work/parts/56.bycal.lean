/-! the model's first due minute -/
section CUT
variable {ss os ex : List Int} {P : Int → Bool} {fr to b : Int}
theorem cal_none (zo : zok ss os) (zs : zsr ss) (hf : 0 ≤ fr ∧ fr ≤ 21038399) (hb : zhb ss os fr + 1 ≤ b) (hI : ∀ l, zhb ss os fr + 1 ≤ l → l < b → P l = true → zmom ss os l ∈ ex) (ht : to < zmom ss os b) : fsP (calB ss os P ex) fr to 2147483647 := by
  refine Or.inl ⟨rfl, fun mm m1 m2 => ?_⟩
  have z0 := (zhb_r zo zs (m0 := fr)).1
  rcases Bool.eq_false_or_eq_true (calB ss os P ex mm) with c | c
  · exfalso
    unfold calB at c
    rw [Bool.and_eq_true, bol_t] at c
    obtain ⟨c1, l, l1, l2, l3⟩ := c
    have c1' : ¬ mm ∈ ex := by simpa using c1
    have l4 := (mom_ge zo zs l1 (m0 := fr) (by omega)).mp (by omega)
    rcases Int.lt_or_le l b with q | q
    · exact c1' (by rw [← l2]; exact hI l (by omega) q l3)
    · have := zmom_mono zo zs (show zloc ss os 0 ≤ b by omega) q
      omega
  · exact c
theorem cal_some (zo : zok ss os) (zs : zsr ss) (hf : 0 ≤ fr ∧ fr ≤ 21038399) (hb : zhb ss os fr + 1 ≤ b) (hI : ∀ l, zhb ss os fr + 1 ≤ l → l < b → P l = true → zmom ss os l ∈ ex) (hP : P b = true) (ht : zmom ss os b ≤ to) (hx : ¬ zmom ss os b ∈ ex) : fsP (calB ss os P ex) fr to (zmom ss os b) := by
  have z0 := (zhb_r zo zs (m0 := fr)).1
  refine Or.inr ⟨(mom_ge zo zs (by omega) (by omega)).mpr (by omega), ht, ?_, fun mm m1 m2 => ?_⟩
  · unfold calB
    rw [decide_eq_false hx, bol_t.mpr ⟨b, by omega, rfl, hP⟩]
    rfl
  · rcases Bool.eq_false_or_eq_true (calB ss os P ex mm) with c | c
    · exfalso
      unfold calB at c
      rw [Bool.and_eq_true, bol_t] at c
      obtain ⟨c1, l, l1, l2, l3⟩ := c
      have c1' : ¬ mm ∈ ex := by simpa using c1
      have l4 := (mom_ge zo zs l1 (m0 := fr) (by omega)).mp (by omega)
      rcases Int.lt_or_le l b with q | q
      · exact c1' (by rw [← l2]; exact hI l (by omega) q l3)
      · have := zmom_mono zo zs (show zloc ss os 0 ≤ b by omega) q
        omega
    · exact c
theorem zmom_le (zo : zok ss os) (zs : zsr ss) {l : Int} (h0 : zloc ss os 0 ≤ l) (h : zmom ss os l ≤ 21038399) : l ≤ 21039239 := by
  rcases zmom_sp zo zs h0 with ⟨q, -⟩ | ⟨q1, q2, q3, -⟩
  · omega
  · simp at q3
    have := zoff_r zo (zmom ss os l)
    unfold zloc at q3
    omega
end CUT
def nef (v : Int) : Int := if v = 2147483647 then -1 else v
theorem month_off {ms : Nat → Nat} {nw nn hs : List Int} {way d : Int} (hw : way ≠ 2) (hb : (ms 3).testBit (moOf d % 12 + 1).toNat = false) : onD ms nw nn hs way d = false := by
  unfold onD onS fitD fbit
  rw [hb, decide_eq_false hw]
  simp
section MBC
variable {G : zk_G} {B : zk_H} {M : Nat}
theorem d_isOnX (hB : hpo G B M) {m m1 : mS} {j : Int} (hj : jI m j) (h1 : dtx m m1) (d : Int) (hd : -900 ≤ d ∧ d ≤ 20000) : ∃ m', dtx m m' ∧ ∀ Q : Option Value → zk_H → Prop, zk_wp G 150 0 [some (.ref M), some (.int (iz j)), some (.int (iz d)), none, none, none] [] (hp G B M m1) Q ↔ Q (some (.int (iz (bi (onD (msOf m j) (nwOf m j) (nnOf m j) (hsOf m (m 11 j)) (m 22 j) d))))) (hp G B M m') := by
  obtain ⟨m', a, b⟩ := d_isOn hB ((dtx_jI h1 j).mpr hj) d hd
  rw [dtx_ms h1, dtx_nw h1, dtx_nn h1, dtx_hs h1, h1 11 _ (by decide) (by decide) (by decide), h1 22 _ (by decide) (by decide) (by decide)] at b
  exact ⟨m', dtx_t h1 a, b⟩
theorem d_momX (hB : hpo G B M) {m m1 : mS} {z : Int} (hz : zI m z) (h1 : dtx m m1) (l : Int) (hl : -2000000 ≤ l ∧ l ≤ 100000000) (Q : Option Value → zk_H → Prop) : zk_wp G 125 0 [some (.ref M), some (.int (iz z)), some (.int (iz l)), none, none] [] (hp G B M m1) Q ↔ Q (some (.int (iz (nof (zmom (ssOf m z) (osOf m z) l))))) (hp G B M m1) := by
  have := d_momentOf hB ((dtx_zI h1 z).mpr hz) l hl Q
  rw [dtx_ss h1, dtx_os h1] at this
  exact this
theorem d_inDayX (hB : hpo G B M) {m m1 : mS} {j : Int} (hj : jI m j) (h1 : dtx m m1) (d L0 to : Int) (hd : -10 ≤ d ∧ d ≤ 14700) (hL : -2000 ≤ L0 ∧ L0 ≤ 21042000) (ht : 0 ≤ to ∧ to ≤ 21038399) : ∃ r, idP (ssOf m (m 11 j)) (osOf m (m 11 j)) (exOf m j) (msOf m j) L0 to d r ∧ ∀ Q : Option Value → zk_H → Prop, zk_wp G 154 0 [some (.ref M), some (.int (iz j)), some (.int (iz d)), some (.int (iz L0)), some (.int (iz to)), none, none, none, none, none] [] (hp G B M m1) Q ↔ Q (some (.int (iz r))) (hp G B M m1) := by
  have := d_inDay hB ((dtx_jI h1 j).mpr hj) d L0 to hd hL ht
  rw [dtx_ms h1, dtx_ex h1, dtx_ss h1, dtx_os h1, h1 11 _ (by decide) (by decide) (by decide)] at this
  exact this
noncomputable def calJ (m : mS) (j : Int) : Int → Bool := calB (ssOf m (m 11 j)) (osOf m (m 11 j)) (locP (msOf m j) (nwOf m j) (nnOf m j) (hsOf m (m 11 j)) (m 22 j)) (exOf m j)
theorem d_byCal (hB : hpo G B M) {m : mS} {j : Int} (hj : jI m j) (fr to : Int) (hfr : 0 ≤ fr ∧ fr ≤ 30000000) (hto : -30000000 ≤ to ∧ to ≤ 21038399) : ∃ m' v, dtx m m' ∧ fsP (calJ m j) fr to v ∧ ∀ Q : Option Value → zk_H → Prop, zk_wp G 145 0 [some (.ref M), some (.int (iz j)), some (.int (iz fr)), some (.int (iz to)), none, none, none, none, none] [] (hp G B M m) Q ↔ Q (some (.int (iz (nef v)))) (hp G B M m') := by
  have ic := hp_ic hB
  have zi := hj.2.1
  have j1 := hj.1
  have zr := zi.1
  have zo := zi.2.2.2.1
  have zs := zi.2.2.2.2.1
  have nv := d_never hB hj
  have fl := d_firstLocal hB zi
  have onx := fun m1 h1 => d_isOnX hB (m := m) (m1 := m1) hj h1
  have mox := fun m1 h1 => d_momX hB (m := m) (m1 := m1) zi h1
  have idx := fun m1 h1 => d_inDayX hB (m := m) (m1 := m1) hj h1
  have hm3 : msOf m j 3 < 2 ^ 13 := hj.2.2.2.2.2.2.2.2.2.2.2.2.2.2.1
  have m15 : 0 ≤ m 15 j ∧ m 15 j < 2 ^ 13 := hj.2.2.2.2.2.1
  have w1 : 0 ≤ m 22 j ∧ m 22 j ≤ 2 := hj.2.2.2.2.2.2.2.2.2.2.1
  suffices hw : zk_wp G 145 0 [some (.ref M), some (.int (iz j)), some (.int (iz fr)), some (.int (iz to)), none, none, none, none, none] [] (hp G B M m) (fun r h' => ∃ m' v, dtx m m' ∧ fsP (calJ m j) fr to v ∧ r = some (.int (iz (nef v))) ∧ h' = hp G B M m') by
    obtain ⟨r0, h0, ⟨m', v, b1, b2, rfl, rfl⟩, b3⟩ := zk_some hw
    exact ⟨m', v, b1, b2, b3⟩
  generalize hQ : (fun (r : Option Value) (h' : zk_H) => ∃ m' v, dtx m m' ∧ fsP (calJ m j) fr to v ∧ r = some (.int (iz (nef v))) ∧ h' = hp G B M m') = Q
  by_cases hne : emp (msOf m j) (nwOf m j) = true
  · simp (disch := first | omega | assumption | (simp; done)) only [u_145_0, u_145_1, u_145_2, u_145_5, u_145_8, u_145_9, u_145_10, u_145_13, u_145_14, u_145_16, u_145_19, u_145_20, u_145_21, u_145_23, u_145_24, u_145_26, u_145_27, u_145_30, u_145_32, u_145_34, u_145_37, u_145_40, u_145_43, u_145_45, u_145_47, u_145_49, u_145_52, u_145_53, u_145_56, u_145_59, u_145_61, u_145_63, u_145_66, u_145_68, u_145_69, u_145_72, u_145_73, u_145_74, u_145_75, u_145_76, u_145_78, u_145_81, u_145_84, u_145_85, u_145_86, u_145_88, u_145_90, u_145_91, u_145_94, u_145_96, u_145_98, u_145_100, u_145_103, u_145_105, u_145_106, u_145_109, u_145_110, u_145_113, u_145_114, u_145_115, u_145_116, u_145_119, u_145_120, u_145_122, u_145_125, u_145_127, u_145_128, u_145_131, u_145_132, u_145_133, u_145_134, u_145_137, u_145_138, u_145_139, u_145_140, u_145_141, u_145_144, u_145_145, u_145_148, u_145_149, u_145_152, u_145_153, u_145_156, u_145_159, u_145_160, u_145_163, u_145_164, u_145_165, u_145_167, u_145_170, true_or, or_true, zk_li1_s, zk_ll1_s, zk_la1_r, zk_la1_n, zk_lg0, zk_lgs, zk_co_n, zk_co_i, zk_co_r, zk_co_u, zk_co_l, zk_l1_0, zk_l1_1, zk_l1_s, zk_l2_0, zk_l2_1, zk_l2_s, zk_sm0, zk_smi, zk_smr, zk_smn, zk_sml, zk_fi, zk_fz, zk_fo, zk_fn, zk_fa, zk_ts, zk_tn, zk_cases, true_and, and_true, List.getElem?_cons_zero, List.getElem?_cons_succ, List.length_cons, List.length_nil, Nat.reduceAdd, Nat.reduceLT, Nat.reduceLeDiff, List.set_cons_zero, List.set_cons_succ, va_rf, ic, iz_lit, iz_neg, nv, bi_0, hne]
    refine ⟨fun _ => ?_, fun c => absurd c (by simp)⟩
    rw [← hQ]
    refine ⟨m, 2147483647, dtx_r m, Or.inl ⟨rfl, fun l l1 l2 => ?_⟩, rfl, rfl⟩
    unfold calJ calB
    rw [Bool.and_eq_false_iff]
    right
    rw [bol_f]
    rintro ⟨l', -, -, l3⟩
    rw [emp_not hne hm3] at l3
    cases l3
  have hne' : emp (msOf m j) (nwOf m j) = false := by simpa using hne
  rcases Int.lt_or_le to fr with hft | hft
  · simp (disch := first | omega | assumption | (simp; done)) only [u_145_0, u_145_1, u_145_2, u_145_5, u_145_8, u_145_9, u_145_10, u_145_13, u_145_14, u_145_16, u_145_19, u_145_20, u_145_21, u_145_23, u_145_24, u_145_26, u_145_27, u_145_30, u_145_32, u_145_34, u_145_37, u_145_40, u_145_43, u_145_45, u_145_47, u_145_49, u_145_52, u_145_53, u_145_56, u_145_59, u_145_61, u_145_63, u_145_66, u_145_68, u_145_69, u_145_72, u_145_73, u_145_74, u_145_75, u_145_76, u_145_78, u_145_81, u_145_84, u_145_85, u_145_86, u_145_88, u_145_90, u_145_91, u_145_94, u_145_96, u_145_98, u_145_100, u_145_103, u_145_105, u_145_106, u_145_109, u_145_110, u_145_113, u_145_114, u_145_115, u_145_116, u_145_119, u_145_120, u_145_122, u_145_125, u_145_127, u_145_128, u_145_131, u_145_132, u_145_133, u_145_134, u_145_137, u_145_138, u_145_139, u_145_140, u_145_141, u_145_144, u_145_145, u_145_148, u_145_149, u_145_152, u_145_153, u_145_156, u_145_159, u_145_160, u_145_163, u_145_164, u_145_165, u_145_167, u_145_170, true_or, or_true, zk_li1_s, zk_ll1_s, zk_la1_r, zk_la1_n, zk_lg0, zk_lgs, zk_co_n, zk_co_i, zk_co_r, zk_co_u, zk_co_l, zk_l1_0, zk_l1_1, zk_l1_s, zk_l2_0, zk_l2_1, zk_l2_s, zk_sm0, zk_smi, zk_smr, zk_smn, zk_sml, zk_fi, zk_fz, zk_fo, zk_fn, zk_fa, zk_ts, zk_tn, zk_cases, true_and, and_true, List.getElem?_cons_zero, List.getElem?_cons_succ, List.length_cons, List.length_nil, Nat.reduceAdd, Nat.reduceLT, Nat.reduceLeDiff, List.set_cons_zero, List.set_cons_succ, va_rf, ic, iz_lit, iz_neg, iz_le, nv, bi_0, hne']
    refine ⟨fun c => absurd trivial c, fun _ => ⟨fun c => absurd c (by omega), fun _ => ?_⟩⟩
    rw [← hQ]
    exact ⟨m, 2147483647, dtx_r m, Or.inl ⟨rfl, fun l l1 l2 => by omega⟩, rfl, rfl⟩
  have hb := zhb_r zo zs (m0 := fr)
  have z5 := zoff_r zo 0
  have z6 : -840 ≤ zloc (ssOf m (m 11 j)) (osOf m (m 11 j)) 0 ∧ zloc (ssOf m (m 11 j)) (osOf m (m 11 j)) 0 ≤ 840 := by unfold zloc; omega
  have none_ := fun b => cal_none (P := locP (msOf m j) (nwOf m j) (nnOf m j) (hsOf m (m 11 j)) (m 22 j)) (ex := exOf m j) (fr := fr) (to := to) (b := b) zo zs (by omega)
  have some_ := fun b => cal_some (P := locP (msOf m j) (nwOf m j) (nnOf m j) (hsOf m (m 11 j)) (m 22 j)) (ex := exOf m j) (fr := fr) (to := to) (b := b) zo zs (by omega)
  have mle := fun l => zmom_le zo zs (l := l)
  have mr := zmom_r zo zs
  generalize hL : zhb (ssOf m (m 11 j)) (osOf m (m 11 j)) fr + 1 = L0 at *
  have loop : ∀ (n : Nat) (d : Int) (m1 : mS) (o7 o8 : Option Value), dtx m m1 → -2 ≤ d → d ≤ 14650 → 14700 - d ≤ n → (∀ l, L0 ≤ l → l < 1440 * d → locP (msOf m j) (nwOf m j) (nnOf m j) (hsOf m (m 11 j)) (m 22 j) l = true → zmom (ssOf m (m 11 j)) (osOf m (m 11 j)) l ∈ exOf m j) → zk_wp G 145 42 [some (.ref M), some (.int (iz j)), some (.int (iz fr)), some (.int (iz to)), some (.int (iz (m 11 j))), some (.int (iz L0)), some (.int (iz d)), o7, o8] [] (hp G B M m1) Q := by
    intro n
    induction n with
    | zero => intro d m1 o7 o8 h1 h2 h3 h4; omega
    | succ n ih =>
      intro d m1 o7 o8 h1 h2 h3 h4 hI
      have mx := d_more (G := G) (hp G B M m1) L0 (d * 1440) (by omega) (by omega)
      have mo1 := mox m1 h1 (max L0 (d * 1440)) (by omega)
      obtain ⟨m2, g2, on1⟩ := onx m1 h1 d (by omega)
      have mr1 := mr (max L0 (d * 1440))
      have hI2 : ∀ l, L0 ≤ l → l < max L0 (d * 1440) → locP (msOf m j) (nwOf m j) (nnOf m j) (hsOf m (m 11 j)) (m 22 j) l = true → zmom (ssOf m (m 11 j)) (osOf m (m 11 j)) l ∈ exOf m j := fun l a b c => hI l a (by omega) c
      have nn_ := none_ (max L0 (d * 1440)) (by omega) hI2
      have ml_ := mle (max L0 (d * 1440)) (by omega)
      rw [u_145_42]
      generalize hv : zmom (ssOf m (m 11 j)) (osOf m (m 11 j)) (max L0 (d * 1440)) = v at *
      by_cases hstop : to < v
      · have nf : nof v < 0 ∨ to < nof v := by unfold nof; split <;> omega
        have nr : -9 ≤ nof v ∧ nof v ≤ 21038399 := by unfold nof; split <;> omega
        have res : Q (some (Value.int (iz (-1)))) (hp G B M m1) := by
          rw [← hQ]
          exact ⟨m1, 2147483647, h1, nn_ hstop, rfl, rfl⟩
        simp (disch := first | omega | assumption | (simp; done)) only [u_145_0, u_145_1, u_145_2, u_145_5, u_145_8, u_145_9, u_145_10, u_145_13, u_145_14, u_145_15, u_145_16, u_145_19, u_145_20, u_145_21, u_145_23, u_145_24, u_145_26, u_145_27, u_145_30, u_145_32, u_145_34, u_145_37, u_145_40, u_145_43, u_145_45, u_145_47, u_145_49, u_145_52, u_145_53, u_145_56, u_145_59, u_145_61, u_145_63, u_145_66, u_145_68, u_145_69, u_145_72, u_145_73, u_145_75, u_145_76, u_145_78, u_145_81, u_145_84, u_145_85, u_145_86, u_145_88, u_145_90, u_145_91, u_145_94, u_145_96, u_145_98, u_145_100, u_145_103, u_145_105, u_145_106, u_145_109, u_145_110, u_145_113, u_145_114, u_145_115, u_145_116, u_145_119, u_145_120, u_145_122, u_145_125, u_145_127, u_145_128, u_145_131, u_145_132, u_145_133, u_145_134, u_145_137, u_145_138, u_145_139, u_145_140, u_145_141, u_145_144, u_145_145, u_145_148, u_145_149, u_145_152, u_145_153, u_145_156, u_145_159, u_145_160, u_145_163, u_145_164, u_145_165, u_145_167, u_145_170, true_or, or_true, zk_li1_s, zk_ll1_s, zk_la1_r, zk_la1_n, zk_lg0, zk_lgs, zk_co_n, zk_co_i, zk_co_r, zk_co_u, zk_co_l, zk_l1_0, zk_l1_1, zk_l1_s, zk_l2_0, zk_l2_1, zk_l2_s, zk_sm0, zk_smi, zk_smr, zk_smn, zk_sml, zk_fi, zk_fz, zk_fo, zk_fn, zk_fa, zk_ts, zk_tn, zk_cases, true_and, and_true, List.getElem?_cons_zero, List.getElem?_cons_succ, List.length_cons, List.length_nil, Nat.reduceAdd, Nat.reduceLT, Nat.reduceLeDiff, List.set_cons_zero, List.set_cons_succ, va_rf, ic, iz_lit, iz_neg, iz_le, iz_lt, iz_mul, mx, mo1]
        exact ⟨fun _ => res, fun c => ⟨fun c2 => absurd c2 (by omega), fun _ => res⟩⟩
      · have nv_ : nof v = v := by unfold nof; rw [if_neg (by omega)]
        rw [nv_] at mo1
        have d2 : d ≤ 14610 := by have := ml_ (by omega); omega
        obtain ⟨r, hr, id1⟩ := idx m2 g2 d L0 to (by omega) (by omega) (by omega)
        have rr : -2 ≤ r ∧ r ≤ 21038399 := by
          rcases hr with ⟨q, l, -, -, -, -, -, q2, -⟩ | ⟨q, -⟩ | ⟨q, -⟩ <;> omega
        have x22 : m2 22 j = m 22 j := g2 22 j (by decide) (by decide) (by decide)
        have x15 : (dt m2 d) 15 j = m 15 j := (dtx_t g2 (dtx_dt m2 d)) 15 j (by decide) (by decide) (by decide)
        have x7 : dt m2 d 7 0 = dYear d := by unfold dt; rw [up_e]
        have x8 : dt m2 d 8 0 = dMon d := by unfold dt; rw [up_k _ _ _ _ (by decide), up_e]
        have x9 : dt m2 d 9 0 = dDay d := by unfold dt; rw [up_k _ _ _ _ (by decide), up_k _ _ _ _ (by decide), up_e]
        obtain ⟨a1, a2, a3, a4, -⟩ := agree_p (d := d) (by omega)
        have mrr := moOf_r (d := d) (by omega)
        obtain ⟨s1, s2⟩ := moOf_sp d
        have sl := stOf_len (moOf d)
        have da := d_date hB m2 d (by omega)
        have dl := d_daysOf (G := G) (hp G B M (dt m2 d)) (dYear d) (dMon d) (by omega) (by omega)
        rw [a4] at dl
        simp (disch := first | omega | assumption | (simp; done)) only [u_145_0, u_145_1, u_145_2, u_145_5, u_145_8, u_145_9, u_145_10, u_145_13, u_145_14, u_145_15, u_145_16, u_145_19, u_145_20, u_145_21, u_145_23, u_145_24, u_145_26, u_145_27, u_145_30, u_145_32, u_145_34, u_145_37, u_145_40, u_145_43, u_145_45, u_145_47, u_145_49, u_145_52, u_145_53, u_145_56, u_145_59, u_145_61, u_145_63, u_145_66, u_145_68, u_145_69, u_145_72, u_145_73, u_145_74, u_145_75, u_145_76, u_145_78, u_145_81, u_145_84, u_145_85, u_145_86, u_145_88, u_145_90, u_145_91, u_145_94, u_145_96, u_145_98, u_145_100, u_145_103, u_145_105, u_145_106, u_145_109, u_145_110, u_145_113, u_145_114, u_145_115, u_145_116, u_145_119, u_145_120, u_145_122, u_145_125, u_145_127, u_145_128, u_145_131, u_145_132, u_145_133, u_145_134, u_145_137, u_145_138, u_145_139, u_145_140, u_145_141, u_145_144, u_145_145, u_145_148, u_145_149, u_145_152, u_145_153, u_145_156, u_145_159, u_145_160, u_145_163, u_145_164, u_145_165, u_145_167, u_145_170, true_or, or_true, zk_li1_s, zk_ll1_s, zk_la1_r, zk_la1_n, zk_lg0, zk_lgs, zk_co_n, zk_co_i, zk_co_r, zk_co_u, zk_co_l, zk_l1_0, zk_l1_1, zk_l1_s, zk_l2_0, zk_l2_1, zk_l2_s, zk_sm0, zk_smi, zk_smr, zk_smn, zk_sml, zk_fi, zk_fz, zk_fo, zk_fn, zk_fa, zk_ts, zk_tn, zk_cases, true_and, and_true, List.getElem?_cons_zero, List.getElem?_cons_succ, List.length_cons, List.length_nil, Nat.reduceAdd, Nat.reduceLT, Nat.reduceLeDiff, List.set_cons_zero, List.set_cons_succ, va_rf, ic, iz_lit, iz_neg, iz_le, iz_lt, iz_inj, iz_mul, iz_add, iz_sub, mx, mo1, on1, id1, bi_0, bi_1, mg_7 hB, mw_7 hB, mg_8 hB, mw_8 hB, mg_9 hB, mw_9 hB, mg_15 hB, mr_15 hB, mw_15 hB, mg_22 hB, mr_22 hB, mw_22 hB, x7, x8, x9, x15, x22, da, dl, i_bit]
        have e0 : stOf (moOf d + 1) - stOf (moOf d) - dDay d = stOf (moOf d + 1) - 1 - d := by omega
        refine ⟨fun c => absurd c (by omega), fun _ => ⟨fun _ => ⟨fun c => ⟨fun c2 => ?_, fun c2 => ⟨fun c3 => ?_, fun c3 => ?_⟩⟩, fun c => ⟨fun c2 => ?_, fun c2 => ?_⟩⟩, fun c => absurd c (by omega)⟩⟩
        · refine ih (d + 1) _ _ _ g2 (by omega) (by omega) (by omega) (fun l l1 l2 l3 => ?_)
          rcases Int.lt_or_le l (1440 * d) with q | q
          · exact hI l l1 q l3
          · exfalso
            unfold locP at l3
            rw [show l / 1440 = d by omega, c] at l3
            cases l3
        · have hb3 : (msOf m j 3).testBit (moOf d % 12 + 1).toNat = false := by
            rw [← a2]
            show (m 15 j).toNat.testBit _ = false
            simpa using c3
          rw [e0, show d + (stOf (moOf d + 1) - 1 - d) + 1 = stOf (moOf d + 1) by omega]
          refine ih (stOf (moOf d + 1)) _ _ _ (dtx_t g2 (dtx_dt m2 d)) (by omega) (by omega) (by omega) (fun l l1 l2 l3 => ?_)
          rcases Int.lt_or_le l (1440 * d) with q | q
          · exact hI l l1 q l3
          · exfalso
            have em : moOf (l / 1440) = moOf d := moOf_eq (by omega) (by omega)
            unfold locP at l3
            rw [month_off c2 (by rw [em]; exact hb3)] at l3
            cases l3
        · rw [Int.add_zero]
          refine ih (d + 1) _ _ _ (dtx_t g2 (dtx_dt m2 d)) (by omega) (by omega) (by omega) (fun l l1 l2 l3 => ?_)
          rcases Int.lt_or_le l (1440 * d) with q | q
          · exact hI l l1 q l3
          · exfalso
            unfold locP at l3
            rw [show l / 1440 = d by omega, c] at l3
            cases l3
        · -- found in the day
          refine ih (d + 1) _ _ _ g2 (by omega) (by omega) (by omega) (fun l l1 l2 l3 => ?_)
          rcases Int.lt_or_le l (1440 * d) with q | q
          · exact hI l l1 q l3
          · rcases hr with ⟨z, -⟩ | ⟨z, -⟩ | ⟨-, z⟩
            · omega
            · omega
            · refine z l l1 q (by omega) ?_
              unfold locP at l3
              rw [Bool.and_eq_true] at l3
              exact l3.2
        · rw [← hQ]
          have low : ∀ b, b < 1440 * d + 1440 → (∀ l', L0 ≤ l' → 1440 * d ≤ l' → l' < b → tok (msOf m j) (l' % 1440) = true → zmom (ssOf m (m 11 j)) (osOf m (m 11 j)) l' ∈ exOf m j) → ∀ l, L0 ≤ l → l < b → locP (msOf m j) (nwOf m j) (nnOf m j) (hsOf m (m 11 j)) (m 22 j) l = true → zmom (ssOf m (m 11 j)) (osOf m (m 11 j)) l ∈ exOf m j := by
            intro b hb hz l l1 l2 l3
            rcases Int.lt_or_le l (1440 * d) with q | q
            · exact hI l l1 q l3
            · refine hz l l1 q l2 ?_
              unfold locP at l3
              rw [Bool.and_eq_true] at l3
              exact l3.2
          rcases hr with ⟨z, l, y1, y2, y3, y4, y5, y6, y7, y8⟩ | ⟨z, l, y1, y2, y3, y4, y5⟩ | ⟨z, -⟩
          · refine ⟨m2, r, g2, ?_, ?_, rfl⟩
            · rw [← y5] at y6 y7 ⊢
              refine some_ l y1 (low l y3 y8) ?_ y6 y7
              unfold locP
              rw [show l / 1440 = d by omega, y4, Bool.and_true]
              simpa using c
            · unfold nef; rw [if_neg (by omega)]
          · refine ⟨m2, 2147483647, g2, none_ l y1 (low l y3 y5) y4, ?_, rfl⟩
            rw [z]; rfl
          · exact absurd z c2
  have fl1 := fl fr (by omega)
  rw [hL] at fl1
  have dn := d_down (G := G) (hp G B M m) L0 1440 (by omega) (by omega)
  simp (disch := first | omega | assumption | (simp; done)) only [u_145_0, u_145_1, u_145_2, u_145_5, u_145_8, u_145_9, u_145_10, u_145_13, u_145_14, u_145_15, u_145_16, u_145_19, u_145_20, u_145_21, u_145_23, u_145_24, u_145_26, u_145_27, u_145_30, u_145_32, u_145_34, u_145_37, u_145_40, u_145_43, u_145_45, u_145_47, u_145_49, u_145_52, u_145_53, u_145_56, u_145_59, u_145_61, u_145_63, u_145_66, u_145_68, u_145_69, u_145_72, u_145_73, u_145_74, u_145_75, u_145_76, u_145_78, u_145_81, u_145_84, u_145_85, u_145_86, u_145_88, u_145_90, u_145_91, u_145_94, u_145_96, u_145_98, u_145_100, u_145_103, u_145_105, u_145_106, u_145_109, u_145_110, u_145_113, u_145_114, u_145_115, u_145_116, u_145_119, u_145_120, u_145_122, u_145_125, u_145_127, u_145_128, u_145_131, u_145_132, u_145_133, u_145_134, u_145_137, u_145_138, u_145_139, u_145_140, u_145_141, u_145_144, u_145_145, u_145_148, u_145_149, u_145_152, u_145_153, u_145_156, u_145_159, u_145_160, u_145_163, u_145_164, u_145_165, u_145_167, u_145_170, true_or, or_true, zk_li1_s, zk_ll1_s, zk_la1_r, zk_la1_n, zk_lg0, zk_lgs, zk_co_n, zk_co_i, zk_co_r, zk_co_u, zk_co_l, zk_l1_0, zk_l1_1, zk_l1_s, zk_l2_0, zk_l2_1, zk_l2_s, zk_sm0, zk_smi, zk_smr, zk_smn, zk_sml, zk_fi, zk_fz, zk_fo, zk_fn, zk_fa, zk_ts, zk_tn, zk_cases, true_and, and_true, List.getElem?_cons_zero, List.getElem?_cons_succ, List.length_cons, List.length_nil, Nat.reduceAdd, Nat.reduceLT, Nat.reduceLeDiff, List.set_cons_zero, List.set_cons_succ, va_rf, ic, iz_lit, iz_le, nv, bi_0, hne', mg_11 hB, mr_11 hB, mw_11 hB, fl1, dn]
  refine ⟨fun c => absurd trivial c, fun _ => ⟨fun _ => ?_, fun c => absurd c (by omega)⟩⟩
  exact loop 20000 (L0 / 1440) m _ _ (dtx_r m) (by omega) (by omega) (by omega) (fun l l1 l2 => by omega)
end MBC
