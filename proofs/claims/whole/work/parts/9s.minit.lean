/-! the model's constructor -/
def m0 : mS := fun _ _ => 0
def mfd : List Value := [.int (iz 0), .int (iz 0), .null, .null, .null, .null, .null, .int (iz 0), .int (iz 0), .int (iz 0), .int (iz 0), .null, .null, .null, .null, .null, .null, .null, .null, .null, .null, .null, .null, .null, .null, .null, .null, .null, .null, .null, .null, .null, .null, .null, .null, .null, .null, .null, .null, .null, .null, .null, .null, .null, .null, .null, .null, .null, .null, .null, .null, .int (iz 0), .int (iz 0), .int (iz 0), .null, .null]
def mli (X : Nat) : List zk_E := [.inr (9, [.int (iz 0), .int (iz 0), .ref (X + 1), .ref (X + 2), .ref (X + 3), .ref (X + 4), .ref (X + 5), .int (iz 0), .int (iz 0), .int (iz 0), .int (iz 0), .ref (X + 6), .ref (X + 7), .ref (X + 8), .ref (X + 9), .ref (X + 10), .ref (X + 11), .ref (X + 12), .ref (X + 13), .ref (X + 14), .ref (X + 15), .ref (X + 16), .ref (X + 17), .ref (X + 18), .ref (X + 19), .ref (X + 20), .ref (X + 21), .ref (X + 22), .ref (X + 23), .ref (X + 24), .ref (X + 25), .ref (X + 26), .ref (X + 27), .ref (X + 28), .ref (X + 29), .ref (X + 30), .ref (X + 31), .ref (X + 32), .ref (X + 33), .ref (X + 34), .ref (X + 35), .ref (X + 36), .ref (X + 37), .ref (X + 38), .ref (X + 39), .ref (X + 40), .ref (X + 41), .ref (X + 42), .ref (X + 43), .ref (X + 44), .ref (X + 45), .int (iz 0), .int (iz 0), .int (iz 0), .ref (X + 46), .ref (X + 47)]), .inl (0, 3, .inl (fun _ => iz 0)), .inl (0, 30, .inl (fun _ => iz 0)), .inl (0, 30, .inl (fun _ => iz 0)), .inl (0, 3, .inl (fun _ => iz 0)), .inl (0, 60, .inl (fun _ => iz 0)), .inl (0, 12, .inl (fun _ => iz 0)), .inl (1, 12, .inr (.inl (fun _ => 0))), .inl (0, 12, .inl (fun _ => iz 0)), .inl (1, 12, .inr (.inl (fun _ => 0))), .inl (0, 12, .inl (fun _ => iz 0)), .inl (0, 12, .inl (fun _ => iz 0)), .inl (0, 12, .inl (fun _ => iz 0)), .inl (0, 36, .inl (fun _ => iz 0)), .inl (0, 36, .inl (fun _ => iz 0)), .inl (0, 12, .inl (fun _ => iz 0)), .inl (0, 72, .inl (fun _ => iz 0)), .inl (0, 12, .inl (fun _ => iz 0)), .inl (0, 12, .inl (fun _ => iz 0)), .inl (0, 12, .inl (fun _ => iz 0)), .inl (2, 12, .inl (fun _ => iz 0)), .inl (0, 12, .inl (fun _ => iz 0)), .inl (0, 36, .inl (fun _ => iz 0)), .inl (0, 12, .inl (fun _ => iz 0)), .inl (0, 96, .inl (fun _ => iz 0)), .inl (0, 36, .inl (fun _ => iz 0)), .inl (0, 36, .inl (fun _ => iz 0)), .inl (0, 36, .inl (fun _ => iz 0)), .inl (0, 36, .inl (fun _ => iz 0)), .inl (0, 36, .inl (fun _ => iz 0)), .inl (0, 36, .inl (fun _ => iz 0)), .inl (0, 36, .inl (fun _ => iz 0)), .inl (0, 36, .inl (fun _ => iz 0)), .inl (0, 36, .inl (fun _ => iz 0)), .inl (0, 36, .inl (fun _ => iz 0)), .inl (0, 36, .inl (fun _ => iz 0)), .inl (2, 36, .inl (fun _ => iz 0)), .inl (2, 3, .inl (fun _ => iz 0)), .inl (2, 2, .inl (fun _ => iz 0)), .inl (0, 12, .inl (fun _ => iz 0)), .inl (0, 12, .inl (fun _ => iz 0)), .inl (0, 12, .inl (fun _ => iz 0)), .inl (0, 3600, .inl (fun _ => iz 0)), .inl (0, 3600, .inl (fun _ => iz 0)), .inl (0, 12, .inl (fun _ => iz 0)), .inl (0, 12, .inl (fun _ => iz 0)), .inl (0, 480, .inl (fun _ => iz 0)), .inl (0, 8, .inl (fun _ => iz 0))]
theorem mli_ok (X : Nat) : mli X = (List.range 48).map (mcl X m0) := rfl
section MIN
variable {G : zk_G}
theorem mli_hp (h : zk_H) : hp G (ap h (mli (zk_nx G h)) 8811) (zk_nx G h) m0 = ap h (mli (zk_nx G h)) 8811 ∧ hpo G (ap h (mli (zk_nx G h)) 8811) (zk_nx G h) := by
  constructor
  · unfold hp
    apply ov_id
    intro a e hc
    unfold mc at hc
    by_cases c : zk_nx G h ≤ a ∧ a < zk_nx G h + 48
    · rw [if_pos c] at hc
      have e1 := ap_rd (G := G) h (mli (zk_nx G h)) 8811 (a - zk_nx G h)
      rw [show zk_nx G h + (a - zk_nx G h) = a by omega, mli_ok, List.getElem?_map, List.getElem?_range (by omega)] at e1
      rw [mli_ok, e1]
      exact hc
    · rw [if_neg c] at hc; cases hc
  · refine ⟨zk_nx_ge, ?_⟩
    rw [ap_nx]
    exact Nat.le_refl _
set_option maxRecDepth 100000 in
set_option maxHeartbeats 20000000 in
theorem c_mpre (h : zk_H) (P : Option Value → zk_H → Prop) (o1 : Option Value) (hP : zk_wp G 113 379 [some (.ref (zk_nx G h)), o1] [] (ap h (mli (zk_nx G h)) 8811) P) : zk_wp G 113 0 [some (.ref (zk_nx G h)), o1] [] (ap h [.inr (9, mfd)] 56) P := by
  have e2 := iz_toInt (z := 2) (by omega) (by omega)
  have t2 : (2 : Int).toNat = 2 := rfl
  have e3 := iz_toInt (z := 3) (by omega) (by omega)
  have t3 : (3 : Int).toNat = 3 := rfl
  have e8 := iz_toInt (z := 8) (by omega) (by omega)
  have t8 : (8 : Int).toNat = 8 := rfl
  have e12 := iz_toInt (z := 12) (by omega) (by omega)
  have t12 : (12 : Int).toNat = 12 := rfl
  have e30 := iz_toInt (z := 30) (by omega) (by omega)
  have t30 : (30 : Int).toNat = 30 := rfl
  have e36 := iz_toInt (z := 36) (by omega) (by omega)
  have t36 : (36 : Int).toNat = 36 := rfl
  have e60 := iz_toInt (z := 60) (by omega) (by omega)
  have t60 : (60 : Int).toNat = 60 := rfl
  have e72 := iz_toInt (z := 72) (by omega) (by omega)
  have t72 : (72 : Int).toNat = 72 := rfl
  have e96 := iz_toInt (z := 96) (by omega) (by omega)
  have t96 : (96 : Int).toNat = 96 := rfl
  have e480 := iz_toInt (z := 480) (by omega) (by omega)
  have t480 : (480 : Int).toNat = 480 := rfl
  have e3600 := iz_toInt (z := 3600) (by omega) (by omega)
  have t3600 : (3600 : Int).toNat = 3600 := rfl
  unfold mfd
  unfold mli at hP
  simp (disch := first | omega | assumption | (simp; done)) only [u_113_0, u_113_1, u_113_4, u_113_5, u_113_6, u_113_8, u_113_11, u_113_12, u_113_14, u_113_16, u_113_19, u_113_20, u_113_22, u_113_24, u_113_27, u_113_28, u_113_29, u_113_31, u_113_34, u_113_35, u_113_37, u_113_39, u_113_42, u_113_43, u_113_45, u_113_47, u_113_50, u_113_51, u_113_53, u_113_55, u_113_58, u_113_59, u_113_61, u_113_63, u_113_66, u_113_67, u_113_69, u_113_71, u_113_74, u_113_75, u_113_77, u_113_79, u_113_82, u_113_83, u_113_85, u_113_87, u_113_90, u_113_91, u_113_93, u_113_95, u_113_98, u_113_99, u_113_101, u_113_103, u_113_106, u_113_107, u_113_109, u_113_111, u_113_114, u_113_115, u_113_117, u_113_119, u_113_122, u_113_123, u_113_125, u_113_127, u_113_130, u_113_131, u_113_133, u_113_135, u_113_138, u_113_139, u_113_141, u_113_143, u_113_146, u_113_147, u_113_149, u_113_151, u_113_154, u_113_155, u_113_157, u_113_159, u_113_162, u_113_163, u_113_165, u_113_167, u_113_170, u_113_171, u_113_173, u_113_175, u_113_178, u_113_179, u_113_181, u_113_183, u_113_186, u_113_187, u_113_189, u_113_191, u_113_194, u_113_195, u_113_197, u_113_199, u_113_202, u_113_203, u_113_205, u_113_207, u_113_210, u_113_211, u_113_213, u_113_215, u_113_218, u_113_219, u_113_221, u_113_223, u_113_226, u_113_227, u_113_229, u_113_231, u_113_234, u_113_235, u_113_237, u_113_239, u_113_242, u_113_243, u_113_245, u_113_247, u_113_250, u_113_251, u_113_253, u_113_255, u_113_258, u_113_259, u_113_261, u_113_263, u_113_266, u_113_267, u_113_269, u_113_271, u_113_274, u_113_275, u_113_277, u_113_279, u_113_282, u_113_283, u_113_285, u_113_287, u_113_290, u_113_291, u_113_292, u_113_294, u_113_297, u_113_298, u_113_299, u_113_301, u_113_304, u_113_305, u_113_307, u_113_309, u_113_312, u_113_313, u_113_315, u_113_317, u_113_320, u_113_321, u_113_323, u_113_325, u_113_328, u_113_329, u_113_332, u_113_334, u_113_337, u_113_338, u_113_341, u_113_343, u_113_346, u_113_347, u_113_349, u_113_351, u_113_354, u_113_355, u_113_357, u_113_359, u_113_362, u_113_363, u_113_366, u_113_368, u_113_371, u_113_372, u_113_374, u_113_376, u_113_382, u_113_384, u_113_387, u_113_388, u_113_391, u_113_392, u_113_393, u_113_394, u_113_397, u_113_400, u_113_401, u_113_402, u_113_403, u_113_405, u_113_408, u_113_409, u_113_412, u_113_413, u_113_414, u_113_415, u_113_418, u_113_421, true_or, or_true, zk_li1_s, zk_ll1_s, zk_la1_r, zk_la1_n, zk_lg0, zk_lgs, zk_co_n, zk_co_i, zk_co_r, zk_co_u, zk_co_l, zk_l1_0, zk_l1_1, zk_l1_s, zk_l2_0, zk_l2_1, zk_l2_s, zk_sm0, zk_smi, zk_smr, zk_smn, zk_sml, zk_fi, zk_fz, zk_fo, zk_fn, zk_fa, zk_ts, zk_tn, zk_og, zk_op, zk_ai, zk_aj, zk_az, zk_aa, zk_an, zk_si, zk_sz1, zk_sl1, zk_sa1, zk_cases, true_and, and_true, List.getElem?_cons_zero, List.getElem?_cons_succ, List.length_cons, List.length_nil, Nat.reduceAdd, Nat.reduceLT, Nat.reduceLeDiff, List.set_cons_zero, List.set_cons_succ, va_rf, ap_al, ap_nx, ap_rd, ap_rdz, ap_wr, ap_wrz, List.cons_append, List.nil_append, iz_lit, e2, t2, e3, t3, e8, t8, e12, t12, e30, t30, e36, t36, e60, t60, e72, t72, e96, t96, e480, t480, e3600, t3600]
  (repeat' (first | exact hP | apply And.intro | intro _)) <;> first | omega | (exfalso; omega) | contradiction | exact absurd trivial (by assumption) | (exfalso; simp_all; done)
def m1 (i : Int) : mS := fun k z => if k = 32 ∧ 0 ≤ z ∧ z < i then -1 else 0
def m2 (i : Int) : mS := fun k z => if k = 32 ∧ 0 ≤ z ∧ z < 36 then -1 else if k = 49 ∧ 0 ≤ z ∧ z < i then -1 else 0
theorem m1_s (i : Int) (hi : 0 ≤ i) : up (m1 i) 32 i (-1) = m1 (i + 1) := by
  funext k z
  unfold up m1
  by_cases c : k = 32
  · rw [if_pos c]
    by_cases cz : z = i
    · rw [if_pos cz, if_pos (by omega)]
    · rw [if_neg cz]
      by_cases c2 : 0 ≤ z ∧ z < i
      · rw [if_pos ⟨c, c2⟩, if_pos (by omega)]
      · rw [if_neg (by omega), if_neg (by omega)]
  · rw [if_neg c, if_neg (by omega), if_neg (by omega)]
theorem m2_s (i : Int) (hi : 0 ≤ i) : up (m2 i) 49 i (-1) = m2 (i + 1) := by
  funext k z
  unfold up m2
  by_cases c : k = 49
  · rw [if_pos c]
    by_cases cz : z = i
    · rw [if_pos cz, if_neg (by omega), if_pos (by omega)]
    · rw [if_neg cz]
      by_cases c2 : 0 ≤ z ∧ z < i
      · rw [if_neg (by omega), if_pos ⟨c, c2⟩, if_neg (by omega), if_pos (by omega)]
      · rw [if_neg (by omega), if_neg (by omega), if_neg (by omega), if_neg (by omega)]
  · rw [if_neg c, if_neg (show ¬ (k = 49 ∧ 0 ≤ z ∧ z < i) by omega), if_neg (show ¬ (k = 49 ∧ 0 ≤ z ∧ z < i + 1) by omega)]
theorem c_mloop2 {B : zk_H} {M : Nat} (hB : hpo G B M) (P : Option Value → zk_H → Prop) (hP : P none (hp G B M mI)) : ∀ (q i : Nat), i + q = 12 → zk_wp G 113 402 [some (.ref M), some (.int (iz i))] [] (hp G B M (m2 i)) P := by
  intro q
  induction q with
  | zero =>
    intro i hi
    have e : m2 (i : Int) = mI := by rw [show (i : Int) = 12 by omega]; rfl
    rw [e, u_113_402]
    simp (disch := first | omega | assumption | (simp; done)) only [u_113_0, u_113_1, u_113_4, u_113_5, u_113_6, u_113_8, u_113_11, u_113_12, u_113_14, u_113_16, u_113_19, u_113_20, u_113_22, u_113_24, u_113_27, u_113_28, u_113_29, u_113_31, u_113_34, u_113_35, u_113_37, u_113_39, u_113_42, u_113_43, u_113_45, u_113_47, u_113_50, u_113_51, u_113_53, u_113_55, u_113_58, u_113_59, u_113_61, u_113_63, u_113_66, u_113_67, u_113_69, u_113_71, u_113_74, u_113_75, u_113_77, u_113_79, u_113_82, u_113_83, u_113_85, u_113_87, u_113_90, u_113_91, u_113_93, u_113_95, u_113_98, u_113_99, u_113_101, u_113_103, u_113_106, u_113_107, u_113_109, u_113_111, u_113_114, u_113_115, u_113_117, u_113_119, u_113_122, u_113_123, u_113_125, u_113_127, u_113_130, u_113_131, u_113_133, u_113_135, u_113_138, u_113_139, u_113_141, u_113_143, u_113_146, u_113_147, u_113_149, u_113_151, u_113_154, u_113_155, u_113_157, u_113_159, u_113_162, u_113_163, u_113_165, u_113_167, u_113_170, u_113_171, u_113_173, u_113_175, u_113_178, u_113_179, u_113_181, u_113_183, u_113_186, u_113_187, u_113_189, u_113_191, u_113_194, u_113_195, u_113_197, u_113_199, u_113_202, u_113_203, u_113_205, u_113_207, u_113_210, u_113_211, u_113_213, u_113_215, u_113_218, u_113_219, u_113_221, u_113_223, u_113_226, u_113_227, u_113_229, u_113_231, u_113_234, u_113_235, u_113_237, u_113_239, u_113_242, u_113_243, u_113_245, u_113_247, u_113_250, u_113_251, u_113_253, u_113_255, u_113_258, u_113_259, u_113_261, u_113_263, u_113_266, u_113_267, u_113_269, u_113_271, u_113_274, u_113_275, u_113_277, u_113_279, u_113_282, u_113_283, u_113_285, u_113_287, u_113_290, u_113_291, u_113_292, u_113_294, u_113_297, u_113_298, u_113_299, u_113_301, u_113_304, u_113_305, u_113_307, u_113_309, u_113_312, u_113_313, u_113_315, u_113_317, u_113_320, u_113_321, u_113_323, u_113_325, u_113_328, u_113_329, u_113_332, u_113_334, u_113_337, u_113_338, u_113_341, u_113_343, u_113_346, u_113_347, u_113_349, u_113_351, u_113_354, u_113_355, u_113_357, u_113_359, u_113_362, u_113_363, u_113_366, u_113_368, u_113_371, u_113_372, u_113_374, u_113_376, u_113_379, u_113_380, u_113_381, u_113_382, u_113_384, u_113_387, u_113_388, u_113_391, u_113_392, u_113_393, u_113_394, u_113_397, u_113_400, u_113_401, u_113_403, u_113_405, u_113_409, u_113_412, u_113_413, u_113_414, u_113_415, u_113_418, u_113_421, true_or, or_true, zk_li1_s, zk_ll1_s, zk_la1_r, zk_la1_n, zk_lg0, zk_lgs, zk_co_n, zk_co_i, zk_co_r, zk_co_u, zk_co_l, zk_l1_0, zk_l1_1, zk_l1_s, zk_l2_0, zk_l2_1, zk_l2_s, zk_sm0, zk_smi, zk_smr, zk_smn, zk_sml, zk_fi, zk_fz, zk_fo, zk_fn, zk_fa, zk_ts, zk_tn, zk_cases, true_and, and_true, List.getElem?_cons_zero, List.getElem?_cons_succ, List.length_cons, List.length_nil, Nat.reduceAdd, Nat.reduceLT, Nat.reduceLeDiff, List.set_cons_zero, List.set_cons_succ, va_rf, iz_lit, iz_le]
    (repeat' (first | exact hP | apply And.intro | intro _)) <;> first | omega | (exfalso; omega) | contradiction | exact absurd trivial (by assumption) | (exfalso; simp_all; done)
  | succ q ih =>
    intro i hi
    have nx := ih (i + 1) (by omega)
    rw [show (((i + 1 : Nat)) : Int) = (i : Int) + 1 by omega] at nx
    have ms := m2_s i (by omega)
    rw [u_113_402]
    simp (disch := first | omega | assumption | (simp; done)) only [u_113_0, u_113_1, u_113_4, u_113_5, u_113_6, u_113_8, u_113_11, u_113_12, u_113_14, u_113_16, u_113_19, u_113_20, u_113_22, u_113_24, u_113_27, u_113_28, u_113_29, u_113_31, u_113_34, u_113_35, u_113_37, u_113_39, u_113_42, u_113_43, u_113_45, u_113_47, u_113_50, u_113_51, u_113_53, u_113_55, u_113_58, u_113_59, u_113_61, u_113_63, u_113_66, u_113_67, u_113_69, u_113_71, u_113_74, u_113_75, u_113_77, u_113_79, u_113_82, u_113_83, u_113_85, u_113_87, u_113_90, u_113_91, u_113_93, u_113_95, u_113_98, u_113_99, u_113_101, u_113_103, u_113_106, u_113_107, u_113_109, u_113_111, u_113_114, u_113_115, u_113_117, u_113_119, u_113_122, u_113_123, u_113_125, u_113_127, u_113_130, u_113_131, u_113_133, u_113_135, u_113_138, u_113_139, u_113_141, u_113_143, u_113_146, u_113_147, u_113_149, u_113_151, u_113_154, u_113_155, u_113_157, u_113_159, u_113_162, u_113_163, u_113_165, u_113_167, u_113_170, u_113_171, u_113_173, u_113_175, u_113_178, u_113_179, u_113_181, u_113_183, u_113_186, u_113_187, u_113_189, u_113_191, u_113_194, u_113_195, u_113_197, u_113_199, u_113_202, u_113_203, u_113_205, u_113_207, u_113_210, u_113_211, u_113_213, u_113_215, u_113_218, u_113_219, u_113_221, u_113_223, u_113_226, u_113_227, u_113_229, u_113_231, u_113_234, u_113_235, u_113_237, u_113_239, u_113_242, u_113_243, u_113_245, u_113_247, u_113_250, u_113_251, u_113_253, u_113_255, u_113_258, u_113_259, u_113_261, u_113_263, u_113_266, u_113_267, u_113_269, u_113_271, u_113_274, u_113_275, u_113_277, u_113_279, u_113_282, u_113_283, u_113_285, u_113_287, u_113_290, u_113_291, u_113_292, u_113_294, u_113_297, u_113_298, u_113_299, u_113_301, u_113_304, u_113_305, u_113_307, u_113_309, u_113_312, u_113_313, u_113_315, u_113_317, u_113_320, u_113_321, u_113_323, u_113_325, u_113_328, u_113_329, u_113_332, u_113_334, u_113_337, u_113_338, u_113_341, u_113_343, u_113_346, u_113_347, u_113_349, u_113_351, u_113_354, u_113_355, u_113_357, u_113_359, u_113_362, u_113_363, u_113_366, u_113_368, u_113_371, u_113_372, u_113_374, u_113_376, u_113_379, u_113_380, u_113_381, u_113_382, u_113_384, u_113_387, u_113_388, u_113_391, u_113_392, u_113_393, u_113_394, u_113_397, u_113_400, u_113_401, u_113_403, u_113_405, u_113_408, u_113_409, u_113_412, u_113_413, u_113_414, u_113_415, u_113_418, true_or, or_true, zk_li1_s, zk_ll1_s, zk_la1_r, zk_la1_n, zk_lg0, zk_lgs, zk_co_n, zk_co_i, zk_co_r, zk_co_u, zk_co_l, zk_l1_0, zk_l1_1, zk_l1_s, zk_l2_0, zk_l2_1, zk_l2_s, zk_sm0, zk_smi, zk_smr, zk_smn, zk_sml, zk_fi, zk_fz, zk_fo, zk_fn, zk_fa, zk_ts, zk_tn, zk_cases, true_and, and_true, List.getElem?_cons_zero, List.getElem?_cons_succ, List.length_cons, List.length_nil, Nat.reduceAdd, Nat.reduceLT, Nat.reduceLeDiff, List.set_cons_zero, List.set_cons_succ, va_rf, iz_lit, iz_neg, iz_le, iz_add, mg_49 hB, mr_49 hB, mw_49 hB, ms]
    (repeat' (first | exact nx | apply And.intro | intro _)) <;> first | omega | (exfalso; omega) | contradiction | exact absurd trivial (by assumption) | (exfalso; simp_all; done)
theorem c_mloop1 {B : zk_H} {M : Nat} (hB : hpo G B M) (P : Option Value → zk_H → Prop) (hP : P none (hp G B M mI)) : ∀ (q i : Nat), i + q = 36 → zk_wp G 113 381 [some (.ref M), some (.int (iz i))] [] (hp G B M (m1 i)) P := by
  intro q
  induction q with
  | zero =>
    intro i hi
    have e : m1 (i : Int) = m2 0 := by
      rw [show (i : Int) = 36 by omega]
      funext k z
      unfold m1 m2
      by_cases c : k = 32 ∧ 0 ≤ z ∧ z < 36
      · rw [if_pos c, if_pos c]
      · rw [if_neg c, if_neg c, if_neg (by omega)]
    have nx := c_mloop2 hB P hP 12 0 (by omega)
    have z0 : ((0 : Nat) : Int) = 0 := rfl
    rw [z0] at nx
    rw [e, u_113_381]
    simp (disch := first | omega | assumption | (simp; done)) only [u_113_0, u_113_1, u_113_4, u_113_5, u_113_6, u_113_8, u_113_11, u_113_12, u_113_14, u_113_16, u_113_19, u_113_20, u_113_22, u_113_24, u_113_27, u_113_28, u_113_29, u_113_31, u_113_34, u_113_35, u_113_37, u_113_39, u_113_42, u_113_43, u_113_45, u_113_47, u_113_50, u_113_51, u_113_53, u_113_55, u_113_58, u_113_59, u_113_61, u_113_63, u_113_66, u_113_67, u_113_69, u_113_71, u_113_74, u_113_75, u_113_77, u_113_79, u_113_82, u_113_83, u_113_85, u_113_87, u_113_90, u_113_91, u_113_93, u_113_95, u_113_98, u_113_99, u_113_101, u_113_103, u_113_106, u_113_107, u_113_109, u_113_111, u_113_114, u_113_115, u_113_117, u_113_119, u_113_122, u_113_123, u_113_125, u_113_127, u_113_130, u_113_131, u_113_133, u_113_135, u_113_138, u_113_139, u_113_141, u_113_143, u_113_146, u_113_147, u_113_149, u_113_151, u_113_154, u_113_155, u_113_157, u_113_159, u_113_162, u_113_163, u_113_165, u_113_167, u_113_170, u_113_171, u_113_173, u_113_175, u_113_178, u_113_179, u_113_181, u_113_183, u_113_186, u_113_187, u_113_189, u_113_191, u_113_194, u_113_195, u_113_197, u_113_199, u_113_202, u_113_203, u_113_205, u_113_207, u_113_210, u_113_211, u_113_213, u_113_215, u_113_218, u_113_219, u_113_221, u_113_223, u_113_226, u_113_227, u_113_229, u_113_231, u_113_234, u_113_235, u_113_237, u_113_239, u_113_242, u_113_243, u_113_245, u_113_247, u_113_250, u_113_251, u_113_253, u_113_255, u_113_258, u_113_259, u_113_261, u_113_263, u_113_266, u_113_267, u_113_269, u_113_271, u_113_274, u_113_275, u_113_277, u_113_279, u_113_282, u_113_283, u_113_285, u_113_287, u_113_290, u_113_291, u_113_292, u_113_294, u_113_297, u_113_298, u_113_299, u_113_301, u_113_304, u_113_305, u_113_307, u_113_309, u_113_312, u_113_313, u_113_315, u_113_317, u_113_320, u_113_321, u_113_323, u_113_325, u_113_328, u_113_329, u_113_332, u_113_334, u_113_337, u_113_338, u_113_341, u_113_343, u_113_346, u_113_347, u_113_349, u_113_351, u_113_354, u_113_355, u_113_357, u_113_359, u_113_362, u_113_363, u_113_366, u_113_368, u_113_371, u_113_372, u_113_374, u_113_376, u_113_379, u_113_380, u_113_382, u_113_384, u_113_388, u_113_391, u_113_392, u_113_393, u_113_394, u_113_397, u_113_400, u_113_401, u_113_403, u_113_405, u_113_408, u_113_409, u_113_412, u_113_413, u_113_414, u_113_415, u_113_418, u_113_421, true_or, or_true, zk_li1_s, zk_ll1_s, zk_la1_r, zk_la1_n, zk_lg0, zk_lgs, zk_co_n, zk_co_i, zk_co_r, zk_co_u, zk_co_l, zk_l1_0, zk_l1_1, zk_l1_s, zk_l2_0, zk_l2_1, zk_l2_s, zk_sm0, zk_smi, zk_smr, zk_smn, zk_sml, zk_fi, zk_fz, zk_fo, zk_fn, zk_fa, zk_ts, zk_tn, zk_cases, true_and, and_true, List.getElem?_cons_zero, List.getElem?_cons_succ, List.length_cons, List.length_nil, Nat.reduceAdd, Nat.reduceLT, Nat.reduceLeDiff, List.set_cons_zero, List.set_cons_succ, va_rf, iz_lit, iz_le]
    (repeat' (first | exact nx | apply And.intro | intro _)) <;> first | omega | (exfalso; omega) | contradiction | exact absurd trivial (by assumption) | (exfalso; simp_all; done)
  | succ q ih =>
    intro i hi
    have nx := ih (i + 1) (by omega)
    rw [show (((i + 1 : Nat)) : Int) = (i : Int) + 1 by omega] at nx
    have ms := m1_s i (by omega)
    rw [u_113_381]
    simp (disch := first | omega | assumption | (simp; done)) only [u_113_0, u_113_1, u_113_4, u_113_5, u_113_6, u_113_8, u_113_11, u_113_12, u_113_14, u_113_16, u_113_19, u_113_20, u_113_22, u_113_24, u_113_27, u_113_28, u_113_29, u_113_31, u_113_34, u_113_35, u_113_37, u_113_39, u_113_42, u_113_43, u_113_45, u_113_47, u_113_50, u_113_51, u_113_53, u_113_55, u_113_58, u_113_59, u_113_61, u_113_63, u_113_66, u_113_67, u_113_69, u_113_71, u_113_74, u_113_75, u_113_77, u_113_79, u_113_82, u_113_83, u_113_85, u_113_87, u_113_90, u_113_91, u_113_93, u_113_95, u_113_98, u_113_99, u_113_101, u_113_103, u_113_106, u_113_107, u_113_109, u_113_111, u_113_114, u_113_115, u_113_117, u_113_119, u_113_122, u_113_123, u_113_125, u_113_127, u_113_130, u_113_131, u_113_133, u_113_135, u_113_138, u_113_139, u_113_141, u_113_143, u_113_146, u_113_147, u_113_149, u_113_151, u_113_154, u_113_155, u_113_157, u_113_159, u_113_162, u_113_163, u_113_165, u_113_167, u_113_170, u_113_171, u_113_173, u_113_175, u_113_178, u_113_179, u_113_181, u_113_183, u_113_186, u_113_187, u_113_189, u_113_191, u_113_194, u_113_195, u_113_197, u_113_199, u_113_202, u_113_203, u_113_205, u_113_207, u_113_210, u_113_211, u_113_213, u_113_215, u_113_218, u_113_219, u_113_221, u_113_223, u_113_226, u_113_227, u_113_229, u_113_231, u_113_234, u_113_235, u_113_237, u_113_239, u_113_242, u_113_243, u_113_245, u_113_247, u_113_250, u_113_251, u_113_253, u_113_255, u_113_258, u_113_259, u_113_261, u_113_263, u_113_266, u_113_267, u_113_269, u_113_271, u_113_274, u_113_275, u_113_277, u_113_279, u_113_282, u_113_283, u_113_285, u_113_287, u_113_290, u_113_291, u_113_292, u_113_294, u_113_297, u_113_298, u_113_299, u_113_301, u_113_304, u_113_305, u_113_307, u_113_309, u_113_312, u_113_313, u_113_315, u_113_317, u_113_320, u_113_321, u_113_323, u_113_325, u_113_328, u_113_329, u_113_332, u_113_334, u_113_337, u_113_338, u_113_341, u_113_343, u_113_346, u_113_347, u_113_349, u_113_351, u_113_354, u_113_355, u_113_357, u_113_359, u_113_362, u_113_363, u_113_366, u_113_368, u_113_371, u_113_372, u_113_374, u_113_376, u_113_379, u_113_380, u_113_382, u_113_384, u_113_387, u_113_388, u_113_391, u_113_392, u_113_393, u_113_394, u_113_397, u_113_401, u_113_402, u_113_403, u_113_405, u_113_408, u_113_409, u_113_412, u_113_413, u_113_414, u_113_415, u_113_418, u_113_421, true_or, or_true, zk_li1_s, zk_ll1_s, zk_la1_r, zk_la1_n, zk_lg0, zk_lgs, zk_co_n, zk_co_i, zk_co_r, zk_co_u, zk_co_l, zk_l1_0, zk_l1_1, zk_l1_s, zk_l2_0, zk_l2_1, zk_l2_s, zk_sm0, zk_smi, zk_smr, zk_smn, zk_sml, zk_fi, zk_fz, zk_fo, zk_fn, zk_fa, zk_ts, zk_tn, zk_cases, true_and, and_true, List.getElem?_cons_zero, List.getElem?_cons_succ, List.length_cons, List.length_nil, Nat.reduceAdd, Nat.reduceLT, Nat.reduceLeDiff, List.set_cons_zero, List.set_cons_succ, va_rf, iz_lit, iz_neg, iz_le, iz_add, mg_32 hB, mr_32 hB, mw_32 hB, ms]
    (repeat' (first | exact nx | apply And.intro | intro _)) <;> first | omega | (exfalso; omega) | contradiction | exact absurd trivial (by assumption) | (exfalso; simp_all; done)
theorem c_minit (h : zk_H) (Q : Option Value → zk_H → Prop) : zk_wp G 113 0 [some (.ref (zk_nx G h)), none] [] (ap h [.inr (9, mfd)] 56) Q ↔ Q none (hp G (ap h (mli (zk_nx G h)) 8811) (zk_nx G h) mI) := by
  refine zk_eq ?_ Q
  refine c_mpre h _ none ?_
  obtain ⟨q1, q2⟩ := mli_hp (G := G) h
  have nx := c_mloop1 q2 (fun r h' => r = none ∧ h' = hp G (ap h (mli (zk_nx G h)) 8811) (zk_nx G h) mI) ⟨rfl, rfl⟩ 36 0 (by omega)
  have e : m1 ((0 : Nat) : Int) = m0 := by
    funext k z
    unfold m1 m0
    rw [if_neg (by omega)]
  have z0 : ((0 : Nat) : Int) = 0 := rfl
  rw [e, q1, z0] at nx
  generalize ap h (mli (zk_nx G h)) 8811 = H at *
  simp (disch := first | omega | assumption | (simp; done)) only [u_113_379, u_113_380, true_or, or_true, zk_li1_s, zk_ll1_s, zk_la1_r, zk_la1_n, zk_lg0, zk_lgs, zk_co_n, zk_co_i, zk_co_r, zk_co_u, zk_co_l, zk_l1_0, zk_l1_1, zk_l1_s, zk_l2_0, zk_l2_1, zk_l2_s, zk_sm0, zk_smi, zk_smr, zk_smn, zk_sml, zk_fi, zk_fz, zk_fo, zk_fn, zk_fa, zk_ts, zk_tn, zk_cases, true_and, and_true, List.getElem?_cons_zero, List.getElem?_cons_succ, List.length_cons, List.length_nil, Nat.reduceAdd, Nat.reduceLT, Nat.reduceLeDiff, List.set_cons_zero, List.set_cons_succ, va_rf, iz_lit]
  exact nx
end MIN
