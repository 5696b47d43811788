/-! Rule.firstDue -/
noncomputable def bol (p : Prop) : Bool := @decide p (Classical.propDecidable p)
theorem bol_t {p : Prop} : bol p = true ↔ p := by unfold bol; exact @decide_eq_true_iff p (Classical.propDecidable p)
theorem bol_f {p : Prop} : bol p = false ↔ ¬ p := by unfold bol; exact @decide_eq_false_iff_not p (Classical.propDecidable p)
/-- a minute that the calendar names -/
noncomputable def calB (ss os : List Int) (P : Int → Bool) (ex : List Int) (m : Int) : Bool := !decide (m ∈ ex) && bol (∃ l, zloc ss os 0 ≤ l ∧ zmom ss os l = m ∧ P l = true)
noncomputable def dueB (ss os hs : List Int) (ms : Nat → Nat) (nw nn ex xt : List Int) (way m : Int) : Bool := decide (m ∈ xt) || calB ss os (locP ms nw nn hs way) ex m
theorem mem_iz2 {hs : List Int} (hh : ∀ x ∈ hs, -2147483648 ≤ x ∧ x ≤ 2147483647) {d : Int} (hd : -2147483648 ≤ d ∧ d ≤ 2147483647) : iz d ∈ hs.map iz ↔ d ∈ hs := by
  constructor
  · intro h
    obtain ⟨x, hx, e⟩ := List.mem_map.mp h
    have := hh x hx
    rw [iz_inj (by omega) hd] at e
    rw [← e]; exact hx
  · intro h
    exact List.mem_map.mpr ⟨d, h, rfl⟩
theorem filt_lt {ex : List Int} {a m : Int} (h1 : m ∈ ex) (h2 : a ≤ m) : (ex.filter (fun x => decide (m + 1 ≤ x))).length < (ex.filter (fun x => decide (a ≤ x))).length := by
  induction ex with
  | nil => cases h1
  | cons x ex ih =>
    have mono : (ex.filter (fun x => decide (m + 1 ≤ x))).length ≤ (ex.filter (fun x => decide (a ≤ x))).length := by
      clear ih h1
      induction ex with
      | nil => exact Nat.le_refl _
      | cons y ex ih2 =>
        rw [List.filter_cons, List.filter_cons]
        by_cases c1 : m + 1 ≤ y
        · have c2 : a ≤ y := by omega
          simp [c1, c2]; exact ih2
        · by_cases c2 : a ≤ y
          · simp [c1, c2]; omega
          · simp [c1, c2]; exact ih2
    rw [List.filter_cons, List.filter_cons]
    by_cases c1 : m + 1 ≤ x
    · have c2 : a ≤ x := by omega
      rcases List.mem_cons.mp h1 with q | q
      · omega
      · simp [c1, c2]; exact ih q
    · by_cases c2 : a ≤ x
      · simp [c1, c2]; omega
      · rcases List.mem_cons.mp h1 with q | q
        · omega
        · simp [c1, c2]; exact ih q
/-- an empty rule names nothing -/
theorem emp_not {ms : Nat → Nat} {nw nn hs : List Int} {way : Int} (he : emp ms nw = true) (hm3 : ms 3 < 2 ^ 13) (l : Int) : locP ms nw nn hs way l = false := by
  unfold emp at he
  simp only [Bool.or_eq_true, Bool.and_eq_true, decide_eq_true_eq] at he
  have nofit : (ms 3 = 0 ∨ (ms 2 = 0 ∨ ms 4 = 0) ∧ nw.length = 0) → ∀ d, fitD ms nw nn d = false := by
    intro q d
    unfold fitD fbit fday
    rcases q with q | ⟨q | q, q2⟩
    · rw [z_bit q]; simp
    · rw [z_bit q, q2]; simp
    · rw [z_bit q, q2]; simp
  have key : (ms 3 = 0 ∨ (ms 2 = 0 ∨ ms 4 = 0) ∧ nw.length = 0) → locP ms nw nn hs way l = false := by
    intro q
    have f := nofit q
    unfold locP onD onS movD
    simp [f]
  rcases he with ((q | q) | q) | q
  · unfold locP tok; rw [z_bit q]; simp
  · unfold locP tok; rw [z_bit q]; simp
  · exact key (Or.inl q)
  · exact key (Or.inr q)
def xtI (xt : List Int) (fr to : Int) (k : Nat) (v : Int) : Prop := v ≤ 2147483647 ∧ (v = 2147483647 ∨ (fr ≤ v ∧ v ≤ to ∧ v ∈ xt)) ∧ ∀ j, j < k → fr ≤ gz xt j → gz xt j ≤ to → v ≤ gz xt j
section FDU
variable {G : zk_G} {h : zk_H} {a za : Nat} {ms : Nat → Nat} {nw nn ex xt : List Int} {way : Int} {ss os hs : List Int} {mv : Nat → Int32}
theorem c_firstDue (hp : rup G h a za ms nw nn ex xt way) (hk : rok ms nw nn ex xt way) (hz : znp G h za ss os hs mv) (zo : zok ss os) (zs : zsr ss) (hh : ∀ x ∈ hs, 0 ≤ x ∧ x ≤ 14609) (hl : hs.length ≤ 20) (hv : mvok hs mv) (hG : GS G) (fr to : Int) (hfr : 0 ≤ fr ∧ fr ≤ 30000000) (hto : -30000000 ≤ to ∧ to ≤ 21038399) : ∃ v : Int, fsP (dueB ss os hs ms nw nn ex xt way) fr to v ∧ ∀ Q : Option Value → zk_H → Prop, zk_wp G 26 0 [some (.ref a), some (.int (iz fr)), some (.int (iz to)), none, none, none, none, none, none] [] h Q ↔ Q (some (.int (iz v))) h := by
  have ica := rup_ic hp
  have icz := znp_ic hz
  have nl := c_nextLocal hp hk hz hh hl hv hG
  have em := c_isEmpty hp hk
  have hb := c_hb hz zo
  have mo := c_momentOf hz zo
  have mn := c_mn G h
  have hex := hk.2.2.2.2.2.2.2.2.2.2.1
  have hexl := hk.2.2.2.2.2.2.2.2.2.1
  have hxl := hk.2.2.2.2.2.2.2.2.2.2.2.1
  have hxt := hk.2.2.2.2.2.2.2.2.2.2.2.2.1
  have hm3 := hk.2.2.2.1
  obtain ⟨am, a1, i1, c1, a2, i2, c2, a3, i3, c3, a4, i4, c4, fm, p1, p2, p3, p4, p5, p6, p7⟩ := hp
  have q6 := (rwz_rd p6).1
  have q7 := (rwz_rd p7).1
  have ic6 := zk_ic_rd q6
  have ic7 := zk_ic_rd q7
  have t7 := c_atz p7
  have has := c_has p6
  suffices hw : zk_wp G 26 0 [some (.ref a), some (.int (iz fr)), some (.int (iz to)), none, none, none, none, none, none] [] h (fun r h' => h' = h ∧ ∃ v : Int, fsP (dueB ss os hs ms nw nn ex xt way) fr to v ∧ r = some (.int (iz v))) by
    obtain ⟨r0, h0, ⟨rfl, v, b1, rfl⟩, b3⟩ := zk_some hw
    exact ⟨v, b1, b3⟩
  generalize hQ : (fun (r : Option Value) (h' : zk_H) => h' = h ∧ ∃ v : Int, fsP (dueB ss os hs ms nw nn ex xt way) fr to v ∧ r = some (.int (iz v))) = Q
  rcases Int.lt_or_le to fr with hft | hft
  · simp (disch := first | omega | assumption | (simp; done)) only [u_26_0, u_26_1, u_26_2, u_26_5, u_26_7, u_26_10, u_26_11, u_26_12, u_26_16, u_26_17, u_26_20, u_26_23, u_26_26, u_26_27, u_26_30, u_26_32, u_26_35, u_26_36, u_26_39, u_26_40, u_26_43, u_26_45, u_26_48, u_26_49, u_26_52, u_26_53, u_26_54, u_26_57, u_26_59, u_26_62, u_26_65, u_26_66, u_26_69, u_26_72, u_26_73, u_26_76, u_26_79, u_26_80, u_26_81, u_26_82, u_26_85, u_26_86, u_26_87, u_26_88, u_26_91, u_26_93, u_26_94, u_26_96, u_26_97, u_26_101, u_26_103, u_26_106, u_26_107, u_26_108, u_26_111, u_26_113, u_26_116, u_26_117, u_26_118, u_26_120, u_26_123, u_26_125, u_26_127, u_26_129, u_26_132, u_26_133, u_26_134, u_26_135, u_26_138, u_26_140, u_26_143, u_26_145, u_26_146, u_26_149, u_26_151, u_26_154, u_26_157, u_26_158, u_26_160, u_26_163, u_26_164, u_26_166, u_26_167, u_26_168, u_26_170, u_26_173, u_26_176, u_26_177, true_or, or_true, zk_li1_s, zk_ll1_s, zk_la1_r, zk_la1_n, zk_lg0, zk_lgs, zk_co_n, zk_co_i, zk_co_r, zk_co_u, zk_co_l, zk_l1_0, zk_l1_1, zk_l1_s, zk_l2_0, zk_l2_1, zk_l2_s, zk_sm0, zk_smi, zk_smr, zk_smn, zk_sml, zk_fi, zk_fz, zk_fo, zk_fn, zk_fa, zk_ts, zk_tn, zk_cases, true_and, and_true, List.getElem?_cons_zero, List.getElem?_cons_succ, List.length_cons, List.length_nil, Nat.reduceAdd, Nat.reduceLT, Nat.reduceLeDiff, List.set_cons_zero, List.set_cons_succ, va_rf, iz_lit, iz_le]
    refine ⟨fun c => absurd c (by omega), fun _ => ?_⟩
    rw [← hQ]
    exact ⟨rfl, _, Or.inl ⟨rfl, fun l l1 l2 => by omega⟩, rfl⟩
  generalize hP : locP ms nw nn hs way = P at *
  -- the answer out of extras and calendar
  have join : ∀ v c : Int, xtI xt fr to xt.length v → fsP (calB ss os P ex) fr to c → fsP (dueB ss os hs ms nw nn ex xt way) fr to (min v c) := by
    rintro v c ⟨v0, v1, v2⟩ hc
    have noext : ∀ l, fr ≤ l → l ≤ to → l < v → decide (l ∈ xt) = false := by
      intro l l1 l2 l3
      rw [decide_eq_false_iff_not]
      intro q
      obtain ⟨j, hj, e⟩ := gz_mem_iff.mp q
      have := v2 j hj (by omega) (by omega)
      omega
    have nocal : ∀ l, fr ≤ l → l ≤ to → l < c → calB ss os P ex l = false := by
      intro l l1 l2 l3
      rcases hc with ⟨-, q⟩ | ⟨-, -, -, q⟩
      · exact q l l1 l2
      · exact q l l1 l3
    have hnone : ∀ l, fr ≤ l → l ≤ to → l < min v c → dueB ss os hs ms nw nn ex xt way l = false := by
      intro l l1 l2 l3
      unfold dueB
      rw [hP, noext l l1 l2 (by omega), nocal l l1 l2 (by omega)]
      rfl
    have hcr : c ≤ 2147483647 := by rcases hc with ⟨q, -⟩ | ⟨-, q, -⟩ <;> omega
    by_cases e : min v c = 2147483647
    · exact Or.inl ⟨e, fun l l1 l2 => hnone l l1 l2 (by omega)⟩
    · refine Or.inr ?_
      rcases Int.le_total v c with q | q
      · rw [Int.min_eq_left q] at *
        rcases v1 with w | ⟨w1, w2, w3⟩
        · omega
        · refine ⟨w1, w2, ?_, fun l l1 l2 => hnone l l1 (by omega) l2⟩
          unfold dueB
          rw [decide_eq_true w3]; rfl
      · rw [Int.min_eq_right q] at *
        rcases hc with ⟨w, -⟩ | ⟨w1, w2, w3, w4⟩
        · omega
        · refine ⟨w1, w2, ?_, fun l l1 l2 => hnone l l1 (by omega) l2⟩
          unfold dueB
          rw [hP, w3, Bool.or_true]
  have calm : ∀ l : Int, zloc ss os 0 ≤ l → P l = true → ¬ zmom ss os l ∈ ex → calB ss os P ex (zmom ss os l) = true := by
    intro l l1 l2 l3
    unfold calB
    rw [decide_eq_false l3, bol_t.mpr ⟨l, l1, rfl, l2⟩]
    rfl
  -- the turns
  have loop2 : emp ms nw = false → ∀ (v : Int), xtI xt fr to xt.length v → -1 ≤ v → ∀ (n : Nat) (t at' : Int) (o7 o8 : Option Value), t + n = 7 → 0 ≤ t → fr ≤ at' → at' ≤ 21038400 → (∀ m, fr ≤ m → m < at' → calB ss os P ex m = false) → ((ex.filter (fun x => decide (at' ≤ x))).length : Int) + t ≤ 6 → zk_wp G 26 99 [some (.ref a), some (.int (iz fr)), some (.int (iz to)), some (.int (iz v)), some (.int (iz (zhb ss os (to + 1)))), some (.int (iz at')), some (.int (iz t)), o7, o8] [] h Q := by
    intro he v hvI hv1 n
    have hvr := hvI.1
    have ne : ms 0 ≠ 0 ∧ ms 1 ≠ 0 := by
      unfold emp at he
      simp only [Bool.or_eq_false_iff, decide_eq_false_iff_not] at he
      exact ⟨he.1.1.1, he.1.1.2⟩
    induction n with
    | zero =>
      intro t at' o7 o8 h1 h2 h3 h3b h4 h5
      omega
    | succ n ih =>
      intro t at' o7 o8 h1 h2 h3 h3b h4 h5
      have b1 := zhb_r zo zs (m0 := at')
      have b2 := zhb_r zo zs (m0 := to + 1)
      have r0 := zoff_r zo 0
      have zl0 : zloc ss os 0 = zoff ss os 0 := by unfold zloc; omega
      obtain ⟨w, hw, nl1⟩ := nl ne.1 ne.2 (zhb ss os at' + 1) (zhb ss os (to + 1)) (by omega) (by omega)
      rw [u_26_99]
      have wr : -2147483648 ≤ w ∧ w ≤ 2147483647 := by rcases hw with ⟨q, -⟩ | ⟨q1, q2, -⟩ <;> omega
      -- below what the turn finds
      have below : ∀ m, at' ≤ m → m ≤ to → (∃ l, zloc ss os 0 ≤ l ∧ zmom ss os l = m ∧ P l = true) → ∃ l, zhb ss os at' + 1 ≤ l ∧ l ≤ zhb ss os (to + 1) ∧ zmom ss os l = m ∧ P l = true := by
        rintro m m1 m2 ⟨l, l1, l2, l3⟩
        refine ⟨l, ?_, ?_, l2, l3⟩
        · have := (mom_ge zo zs l1 (m0 := at') (by omega)).mp (by omega); omega
        · have := (mom_ge zo zs l1 (m0 := to + 1) (by omega))
          rcases Int.lt_or_le (zhb ss os (to + 1)) l with q | q
          · have := this.mpr q; omega
          · exact q
      by_cases cw : w = 2147483647
      · have nocal : fsP (calB ss os P ex) fr to 2147483647 := by
          refine Or.inl ⟨rfl, fun m m1 m2 => ?_⟩
          rcases Int.lt_or_le m at' with q | q
          · exact h4 m m1 q
          · unfold calB
            rw [Bool.and_eq_false_iff]
            right
            rw [bol_f]
            intro hx
            obtain ⟨l, l1, l2, -, l4⟩ := below m q m2 hx
            rcases hw with ⟨-, z⟩ | ⟨z1, z2, -⟩
            · rw [z l l1 l2] at l4; cases l4
            · omega
        have jn := join v 2147483647 hvI nocal
        rw [Int.min_eq_left hvr] at jn
        simp (disch := first | omega | assumption | (simp; done)) only [u_26_0, u_26_1, u_26_2, u_26_5, u_26_7, u_26_8, u_26_10, u_26_11, u_26_12, u_26_16, u_26_17, u_26_20, u_26_23, u_26_26, u_26_27, u_26_30, u_26_32, u_26_35, u_26_36, u_26_39, u_26_40, u_26_43, u_26_45, u_26_48, u_26_49, u_26_52, u_26_53, u_26_54, u_26_57, u_26_59, u_26_62, u_26_65, u_26_66, u_26_69, u_26_72, u_26_73, u_26_76, u_26_79, u_26_80, u_26_81, u_26_82, u_26_85, u_26_86, u_26_87, u_26_88, u_26_91, u_26_93, u_26_94, u_26_96, u_26_97, u_26_101, u_26_103, u_26_106, u_26_107, u_26_108, u_26_111, u_26_113, u_26_116, u_26_117, u_26_118, u_26_120, u_26_123, u_26_125, u_26_127, u_26_129, u_26_132, u_26_133, u_26_135, u_26_138, u_26_140, u_26_143, u_26_145, u_26_146, u_26_149, u_26_151, u_26_154, u_26_157, u_26_158, u_26_160, u_26_163, u_26_164, u_26_166, u_26_167, u_26_168, u_26_170, u_26_173, u_26_176, u_26_177, true_or, or_true, zk_li1_s, zk_ll1_s, zk_la1_r, zk_la1_n, zk_lg0, zk_lgs, zk_co_n, zk_co_i, zk_co_r, zk_co_u, zk_co_l, zk_l1_0, zk_l1_1, zk_l1_s, zk_l2_0, zk_l2_1, zk_l2_s, zk_sm0, zk_smi, zk_smr, zk_smn, zk_sml, zk_fi, zk_fz, zk_fo, zk_fn, zk_fa, zk_ts, zk_tn, zk_cases, true_and, and_true, List.getElem?_cons_zero, List.getElem?_cons_succ, List.length_cons, List.length_nil, Nat.reduceAdd, Nat.reduceLT, Nat.reduceLeDiff, List.set_cons_zero, List.set_cons_succ, va_rf, zk_og_f p1, zk_op_f p1, ica, icz, iz_lit, iz_add, iz_lt, iz_inj, hb, nl1, cw]
        refine ⟨fun c => absurd c (by omega), fun _ => ⟨fun c => absurd trivial c, fun _ => ?_⟩⟩
        rw [← hQ]
        exact ⟨rfl, v, jn, rfl⟩
      · obtain ⟨w1, w2, w3, w4⟩ : zhb ss os at' + 1 ≤ w ∧ w ≤ zhb ss os (to + 1) ∧ P w = true ∧ ∀ l, zhb ss os at' + 1 ≤ l → l < w → P l = false := by
          rcases hw with ⟨z, -⟩ | z
          · exact absurd z cw
          · exact z
        have w5 : zloc ss os 0 ≤ w := by omega
        have w6 := (mom_ge zo zs w5 (m0 := at') (by omega)).mpr (by omega)
        have w7 : zmom ss os w ≤ to := by
          rcases Int.lt_or_le to (zmom ss os w) with q | q
          · have := (mom_ge zo zs w5 (m0 := to + 1) (by omega)).mp (by omega); omega
          · exact q
        -- nothing between
        have w8 : ∀ m, fr ≤ m → m < zmom ss os w → calB ss os P ex m = false := by
          intro m m1 m2
          rcases Int.lt_or_le m at' with q | q
          · exact h4 m m1 q
          · unfold calB
            rw [Bool.and_eq_false_iff]
            right
            rw [bol_f]
            intro hx
            obtain ⟨l, l1, l2, l3, l4⟩ := below m q (by omega) hx
            rcases Int.lt_or_le l w with z | z
            · rw [w4 l l1 z] at l4; cases l4
            · have y1 : zloc ss os 0 ≤ l := by omega
              have y2 := (mom_ge zo zs w5 (m0 := m + 1) (by omega)).mp (by omega)
              have y3 := (mom_ge zo zs y1 (m0 := m + 1) (by omega)).mpr (by omega)
              omega
        have mo1 := mo w (by omega)
        have hmem : iz (zmom ss os w) ∈ ex.map iz ↔ zmom ss os w ∈ ex := mem_iz2 (fun x hx => by have := hex x hx; omega) (by omega)
        simp (disch := first | omega | assumption | (simp; done)) only [u_26_0, u_26_1, u_26_2, u_26_5, u_26_7, u_26_8, u_26_10, u_26_11, u_26_12, u_26_16, u_26_17, u_26_20, u_26_23, u_26_26, u_26_27, u_26_30, u_26_32, u_26_35, u_26_36, u_26_39, u_26_40, u_26_43, u_26_45, u_26_48, u_26_49, u_26_52, u_26_53, u_26_54, u_26_57, u_26_59, u_26_62, u_26_65, u_26_66, u_26_69, u_26_72, u_26_73, u_26_76, u_26_79, u_26_80, u_26_81, u_26_82, u_26_85, u_26_86, u_26_87, u_26_88, u_26_91, u_26_93, u_26_94, u_26_96, u_26_97, u_26_101, u_26_103, u_26_106, u_26_107, u_26_108, u_26_111, u_26_113, u_26_116, u_26_117, u_26_118, u_26_120, u_26_123, u_26_125, u_26_127, u_26_129, u_26_132, u_26_133, u_26_134, u_26_135, u_26_138, u_26_140, u_26_143, u_26_145, u_26_146, u_26_149, u_26_151, u_26_154, u_26_157, u_26_158, u_26_160, u_26_163, u_26_164, u_26_166, u_26_167, u_26_168, u_26_170, u_26_173, u_26_176, u_26_177, true_or, or_true, zk_li1_s, zk_ll1_s, zk_la1_r, zk_la1_n, zk_lg0, zk_lgs, zk_co_n, zk_co_i, zk_co_r, zk_co_u, zk_co_l, zk_l1_0, zk_l1_1, zk_l1_s, zk_l2_0, zk_l2_1, zk_l2_s, zk_sm0, zk_smi, zk_smr, zk_smn, zk_sml, zk_fi, zk_fz, zk_fo, zk_fn, zk_fa, zk_ts, zk_tn, zk_cases, true_and, and_true, List.getElem?_cons_zero, List.getElem?_cons_succ, List.length_cons, List.length_nil, Nat.reduceAdd, Nat.reduceLT, Nat.reduceLeDiff, List.set_cons_zero, List.set_cons_succ, va_rf, zk_og_f p1, zk_op_f p1, ica, icz, ic6, iz_lit, iz_add, iz_lt, iz_inj, hb, nl1, mo1, has, mn, hmem]
        have e10 : ∀ p : Prop, ∀ [Decidable p], (¬ (if p then iz 1 else iz 0) = iz 0 ↔ p) := by
          intro p _
          by_cases c : p
          · simp [c]; decide
          · simp [c]
        simp only [e10]
        refine ⟨fun c => absurd c (by omega), fun _ => ⟨fun _ => ⟨fun c => ?_, fun c => ?_⟩, fun c => absurd c cw⟩⟩
        · have f1 := filt_lt c w6
          refine ih (t + 1) (zmom ss os w + 1) _ _ (by omega) (by omega) (by omega) (by omega) (fun m m1 m2 => ?_) (by omega)
          rcases Int.lt_or_le m (zmom ss os w) with q | q
          · exact w8 m m1 q
          · have : m = zmom ss os w := by omega
            subst this
            unfold calB
            rw [decide_eq_true c]; rfl
        · have c' : ¬ zmom ss os w ∈ ex := by
            intro q
            exact (e10 _).mpr q c
          rw [← hQ]
          exact ⟨rfl, _, join v _ hvI (Or.inr ⟨by omega, w7, calm w w5 w3 c', w8⟩), rfl⟩
  have loop1 : ∀ (n k : Nat) (v : Int), k + n = xt.length → -1 ≤ v → xtI xt fr to k v → zk_wp G 26 14 [some (.ref a), some (.int (iz fr)), some (.int (iz to)), some (.int (iz v)), some (.int (iz k)), none, none, none, none] [] h Q := by
    intro n
    induction n with
    | zero =>
      intro k v h1 h2 h3
      have hkx : k = xt.length := by omega
      subst hkx
      rw [u_26_14]
      simp (disch := first | omega | assumption | (simp; done)) only [u_26_0, u_26_1, u_26_2, u_26_5, u_26_7, u_26_8, u_26_10, u_26_11, u_26_12, u_26_16, u_26_17, u_26_20, u_26_23, u_26_26, u_26_27, u_26_30, u_26_32, u_26_35, u_26_36, u_26_39, u_26_40, u_26_43, u_26_45, u_26_48, u_26_49, u_26_52, u_26_53, u_26_54, u_26_57, u_26_59, u_26_62, u_26_65, u_26_66, u_26_69, u_26_72, u_26_73, u_26_76, u_26_79, u_26_80, u_26_81, u_26_82, u_26_85, u_26_86, u_26_87, u_26_88, u_26_91, u_26_93, u_26_94, u_26_96, u_26_97, u_26_101, u_26_103, u_26_106, u_26_107, u_26_108, u_26_111, u_26_113, u_26_116, u_26_117, u_26_118, u_26_120, u_26_123, u_26_125, u_26_127, u_26_129, u_26_132, u_26_133, u_26_134, u_26_135, u_26_138, u_26_140, u_26_143, u_26_145, u_26_146, u_26_149, u_26_151, u_26_154, u_26_157, u_26_158, u_26_160, u_26_163, u_26_164, u_26_166, u_26_167, u_26_168, u_26_170, u_26_173, u_26_176, u_26_177, true_or, or_true, zk_li1_s, zk_ll1_s, zk_la1_r, zk_la1_n, zk_lg0, zk_lgs, zk_co_n, zk_co_i, zk_co_r, zk_co_u, zk_co_l, zk_l1_0, zk_l1_1, zk_l1_s, zk_l2_0, zk_l2_1, zk_l2_s, zk_sm0, zk_smi, zk_smr, zk_smn, zk_sml, zk_fi, zk_fz, zk_fo, zk_fn, zk_fa, zk_ts, zk_tn, zk_cases, true_and, and_true, List.getElem?_cons_zero, List.getElem?_cons_succ, List.length_cons, List.length_nil, Nat.reduceAdd, Nat.reduceLT, Nat.reduceLeDiff, List.set_cons_zero, List.set_cons_succ, va_rf, zk_og_f p1, zk_op_f p1, zk_og_f q7, zk_op_f q7, ica, icz, iz_lit, iz_add, iz_le, em, hb]
      have e0 : ∀ b : Bool, ((if b then iz 1 else iz 0) = iz 0 ↔ b = false) := by
        intro b
        cases b
        · simp
        · simp; decide
      refine ⟨fun _ => ⟨fun c => ?_, fun c => ?_⟩, fun c => absurd c (by omega)⟩
      · rw [e0] at c
        refine loop2 c v h3 h2 7 0 fr _ _ (by omega) (by omega) (by omega) (by omega) (fun m m1 m2 => by omega) ?_
        have := List.length_filter_le (fun x => decide (fr ≤ x)) ex
        omega
      · rw [e0] at c
        have c' : emp ms nw = true := by simpa using c
        rw [← hQ]
        have nocal : fsP (calB ss os P ex) fr to 2147483647 := by
          refine Or.inl ⟨rfl, fun m m1 m2 => ?_⟩
          unfold calB
          rw [Bool.and_eq_false_iff]
          right
          rw [bol_f]
          rintro ⟨l, -, -, l3⟩
          rw [← hP, emp_not c' hm3 l] at l3
          cases l3
        have jn := join v 2147483647 h3 nocal
        rw [Int.min_eq_left h3.1] at jn
        exact ⟨rfl, v, jn, rfl⟩
    | succ n ih =>
      intro k v h1 h2 h3
      have hx := hxt _ (gz_mem (show k < xt.length by omega))
      obtain ⟨v0, v1, v2⟩ := h3
      rw [u_26_14]
      simp (disch := first | omega | assumption | (simp; done)) only [u_26_0, u_26_1, u_26_2, u_26_5, u_26_7, u_26_8, u_26_10, u_26_11, u_26_12, u_26_16, u_26_17, u_26_20, u_26_23, u_26_26, u_26_27, u_26_30, u_26_32, u_26_35, u_26_36, u_26_39, u_26_40, u_26_43, u_26_45, u_26_48, u_26_49, u_26_52, u_26_53, u_26_54, u_26_57, u_26_59, u_26_62, u_26_65, u_26_66, u_26_69, u_26_73, u_26_76, u_26_79, u_26_80, u_26_81, u_26_82, u_26_85, u_26_86, u_26_87, u_26_88, u_26_91, u_26_93, u_26_94, u_26_96, u_26_97, u_26_101, u_26_103, u_26_106, u_26_107, u_26_108, u_26_111, u_26_113, u_26_116, u_26_117, u_26_118, u_26_120, u_26_123, u_26_125, u_26_127, u_26_129, u_26_132, u_26_133, u_26_134, u_26_135, u_26_138, u_26_140, u_26_143, u_26_145, u_26_146, u_26_149, u_26_151, u_26_154, u_26_157, u_26_158, u_26_160, u_26_163, u_26_164, u_26_166, u_26_167, u_26_168, u_26_170, u_26_173, u_26_176, u_26_177, true_or, or_true, zk_li1_s, zk_ll1_s, zk_la1_r, zk_la1_n, zk_lg0, zk_lgs, zk_co_n, zk_co_i, zk_co_r, zk_co_u, zk_co_l, zk_l1_0, zk_l1_1, zk_l1_s, zk_l2_0, zk_l2_1, zk_l2_s, zk_sm0, zk_smi, zk_smr, zk_smn, zk_sml, zk_fi, zk_fz, zk_fo, zk_fn, zk_fa, zk_ts, zk_tn, zk_cases, true_and, and_true, List.getElem?_cons_zero, List.getElem?_cons_succ, List.length_cons, List.length_nil, Nat.reduceAdd, Nat.reduceLT, Nat.reduceLeDiff, List.set_cons_zero, List.set_cons_succ, va_rf, zk_og_f p1, zk_op_f p1, zk_og_f q7, zk_op_f q7, ic7, iz_lit, iz_add, iz_le, iz_lt, t7, mn]
      have ek : ((k : Int) + 1) = ((k + 1 : Nat) : Int) := by omega
      rw [ek]
      refine ⟨fun c => absurd c (by omega), fun _ => ⟨fun c => ?_, fun c => ⟨fun c2 => ?_, fun c2 => ?_⟩⟩⟩
      · refine ih (k + 1) v (by omega) h2 ⟨v0, v1, fun j hj f1 f2 => ?_⟩
        rcases Nat.lt_or_ge j k with q | q
        · exact v2 j q f1 f2
        · have ejk : j = k := by omega
          subst ejk; omega
      · refine ih (k + 1) v (by omega) h2 ⟨v0, v1, fun j hj f1 f2 => ?_⟩
        rcases Nat.lt_or_ge j k with q | q
        · exact v2 j q f1 f2
        · have ejk : j = k := by omega
          subst ejk; omega
      · refine ih (k + 1) (min v (gz xt k)) (by omega) (by omega) ⟨by omega, ?_, fun j hj f1 f2 => ?_⟩
        · right
          rcases Int.le_total v (gz xt k) with q | q
          · rw [Int.min_eq_left q]
            rcases v1 with z | z
            · omega
            · exact z
          · rw [Int.min_eq_right q]
            exact ⟨by omega, by omega, gz_mem (by omega)⟩
        · rcases Nat.lt_or_ge j k with q | q
          · have := v2 j q f1 f2; omega
          · rw [show j = k by omega]; omega
  simp (disch := first | omega | assumption | (simp; done)) only [u_26_0, u_26_1, u_26_2, u_26_5, u_26_7, u_26_8, u_26_10, u_26_11, u_26_12, u_26_16, u_26_17, u_26_20, u_26_23, u_26_26, u_26_27, u_26_30, u_26_32, u_26_35, u_26_36, u_26_39, u_26_40, u_26_43, u_26_45, u_26_48, u_26_49, u_26_52, u_26_53, u_26_54, u_26_57, u_26_59, u_26_62, u_26_65, u_26_66, u_26_69, u_26_72, u_26_73, u_26_76, u_26_79, u_26_80, u_26_81, u_26_82, u_26_85, u_26_86, u_26_87, u_26_88, u_26_91, u_26_93, u_26_94, u_26_96, u_26_97, u_26_99, u_26_101, u_26_103, u_26_106, u_26_107, u_26_108, u_26_111, u_26_113, u_26_116, u_26_117, u_26_118, u_26_120, u_26_123, u_26_125, u_26_127, u_26_129, u_26_132, u_26_133, u_26_134, u_26_135, u_26_138, u_26_140, u_26_143, u_26_145, u_26_146, u_26_149, u_26_151, u_26_154, u_26_157, u_26_158, u_26_160, u_26_163, u_26_164, u_26_166, u_26_167, u_26_168, u_26_170, u_26_173, u_26_176, u_26_177, true_or, or_true, zk_li1_s, zk_ll1_s, zk_la1_r, zk_la1_n, zk_lg0, zk_lgs, zk_co_n, zk_co_i, zk_co_r, zk_co_u, zk_co_l, zk_l1_0, zk_l1_1, zk_l1_s, zk_l2_0, zk_l2_1, zk_l2_s, zk_sm0, zk_smi, zk_smr, zk_smn, zk_sml, zk_fi, zk_fz, zk_fo, zk_fn, zk_fa, zk_ts, zk_tn, zk_cases, true_and, and_true, List.getElem?_cons_zero, List.getElem?_cons_succ, List.length_cons, List.length_nil, Nat.reduceAdd, Nat.reduceLT, Nat.reduceLeDiff, List.set_cons_zero, List.set_cons_succ, va_rf, iz_lit, iz_le]
  refine ⟨fun _ => ?_, fun c => absurd c (by omega)⟩
  exact loop1 xt.length 0 2147483647 (by omega) (by omega) ⟨by omega, Or.inl rfl, fun j hj => absurd hj (by omega)⟩
end FDU
