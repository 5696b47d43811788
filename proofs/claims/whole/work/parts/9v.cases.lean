/-! the law's cases -/
section LCS
variable {G : zk_G} {n : Int} {b x M : Nat} {h : zk_H}
theorem lc_zone (hG : GS G) (hL : LW G n x M h) (hn : 0 ≤ n ∧ n ≤ 511) (w : Int → Int) (hw : ∀ k, i32 (w k)) (sc : ∀ k, 0 ≤ k → k ≤ 4 → ∀ (h : zk_H) (P : Int32 → Prop), zk_ai G h b (iz (5 * n + k)) P ↔ P (iz (w k))) (P : Option Value → zk_H → Prop) (nx : ∀ h2, LW G (n + 1) x M h2 → zk_wp G 205 1261 [some (.ref b), some (.ref x), some (.ref M), some (.int (iz (5 * n)))] [] h2 P) : zk_wp G 205 180 [some (.ref b), some (.ref x), some (.ref M), some (.int (iz (5 * n)))] [] h P := by
  obtain ⟨B, ad, s, m, rfl, hB, hP, hd, hx0, hR, hI, z1, z2⟩ := hL
  subst hx0
  obtain ⟨v, h1, h2, l2, ic, w1, w2⟩ := lw_step hB hP hd z1 z2 hn (pr_zone hB hG hR hI (by omega)  )
  have nx2 := nx h2 l2
  have i0 := xi_tk hB s
  clear z1 z2 l2 nx
  simp (disch := first | omega | assumption | (simp; done)) only [u_205_180, u_205_181, u_205_184, u_205_185, u_205_188, true_or, or_true, zk_li1_s, zk_ll1_s, zk_la1_r, zk_la1_n, zk_lg0, zk_lgs, zk_co_n, zk_co_i, zk_co_r, zk_co_u, zk_co_l, zk_l1_0, zk_l1_1, zk_l1_s, zk_l2_0, zk_l2_1, zk_l2_s, zk_sm0, zk_smi, zk_smr, zk_smn, zk_sml, zk_fi, zk_fz, zk_fo, zk_fn, zk_fa, zk_ts, zk_tn, zk_cases, true_and, and_true, List.getElem?_cons_zero, List.getElem?_cons_succ, List.length_cons, List.length_nil, Nat.reduceAdd, Nat.reduceLT, Nat.reduceLeDiff, List.set_cons_zero, List.set_cons_succ, va_rf, iz_lit, iz_add, i0, ic, w1, w2]
  (repeat' (first | exact nx2 | apply And.intro | intro _)) <;> first | omega | (exfalso; omega) | contradiction | exact absurd trivial (by assumption) | (exfalso; simp_all; done)
theorem lc_shift (hG : GS G) (hL : LW G n x M h) (hn : 0 ≤ n ∧ n ≤ 511) (w : Int → Int) (hw : ∀ k, i32 (w k)) (sc : ∀ k, 0 ≤ k → k ≤ 4 → ∀ (h : zk_H) (P : Int32 → Prop), zk_ai G h b (iz (5 * n + k)) P ↔ P (iz (w k))) (P : Option Value → zk_H → Prop) (nx : ∀ h2, LW G (n + 1) x M h2 → zk_wp G 205 1261 [some (.ref b), some (.ref x), some (.ref M), some (.int (iz (5 * n)))] [] h2 P) : zk_wp G 205 193 [some (.ref b), some (.ref x), some (.ref M), some (.int (iz (5 * n)))] [] h P := by
  obtain ⟨B, ad, s, m, rfl, hB, hP, hd, hx0, hR, hI, z1, z2⟩ := hL
  subst hx0
  have s1 := sc 1 (by omega) (by omega)
  have s2 := sc 2 (by omega) (by omega)
  have s3 := sc 3 (by omega) (by omega)
  obtain ⟨v, h1, h2, l2, ic, w1, w2⟩ := lw_step hB hP hd z1 z2 hn (pr_shift hB hG hR hI (by omega) (w 1) (w 2) (w 3) (hw 1) (hw 2) (hw 3))
  have nx2 := nx h2 l2
  have i0 := xi_tk hB s
  clear z1 z2 l2 nx
  simp (disch := first | omega | assumption | (simp; done)) only [u_205_193, u_205_194, u_205_195, u_205_196, u_205_197, u_205_198, u_205_199, u_205_200, u_205_201, u_205_202, u_205_203, u_205_204, u_205_205, u_205_206, u_205_207, u_205_208, u_205_209, u_205_212, u_205_213, u_205_214, u_205_215, u_205_216, u_205_217, u_205_218, u_205_219, u_205_220, u_205_221, u_205_222, u_205_223, u_205_224, u_205_225, u_205_226, u_205_227, u_205_228, u_205_231, true_or, or_true, zk_li1_s, zk_ll1_s, zk_la1_r, zk_la1_n, zk_lg0, zk_lgs, zk_co_n, zk_co_i, zk_co_r, zk_co_u, zk_co_l, zk_l1_0, zk_l1_1, zk_l1_s, zk_l2_0, zk_l2_1, zk_l2_s, zk_sm0, zk_smi, zk_smr, zk_smn, zk_sml, zk_fi, zk_fz, zk_fo, zk_fn, zk_fa, zk_ts, zk_tn, zk_cases, true_and, and_true, List.getElem?_cons_zero, List.getElem?_cons_succ, List.length_cons, List.length_nil, Nat.reduceAdd, Nat.reduceLT, Nat.reduceLeDiff, List.set_cons_zero, List.set_cons_succ, va_rf, iz_lit, iz_add, i0, ic, s1, s2, s3, w1, w2]
  (repeat' (first | exact nx2 | apply And.intro | intro _)) <;> first | omega | (exfalso; omega) | contradiction | exact absurd trivial (by assumption) | (exfalso; simp_all; done)
theorem lc_holiday (hG : GS G) (hL : LW G n x M h) (hn : 0 ≤ n ∧ n ≤ 511) (w : Int → Int) (hw : ∀ k, i32 (w k)) (sc : ∀ k, 0 ≤ k → k ≤ 4 → ∀ (h : zk_H) (P : Int32 → Prop), zk_ai G h b (iz (5 * n + k)) P ↔ P (iz (w k))) (P : Option Value → zk_H → Prop) (nx : ∀ h2, LW G (n + 1) x M h2 → zk_wp G 205 1261 [some (.ref b), some (.ref x), some (.ref M), some (.int (iz (5 * n)))] [] h2 P) : zk_wp G 205 236 [some (.ref b), some (.ref x), some (.ref M), some (.int (iz (5 * n)))] [] h P := by
  obtain ⟨B, ad, s, m, rfl, hB, hP, hd, hx0, hR, hI, z1, z2⟩ := hL
  subst hx0
  have s1 := sc 1 (by omega) (by omega)
  have s2 := sc 2 (by omega) (by omega)
  obtain ⟨v, h1, h2, l2, ic, w1, w2⟩ := lw_step hB hP hd z1 z2 hn (pr_holiday hB hG hR hI (by omega) (w 1) (w 2) (hw 1) (hw 2))
  have nx2 := nx h2 l2
  have i0 := xi_tk hB s
  clear z1 z2 l2 nx
  simp (disch := first | omega | assumption | (simp; done)) only [u_205_236, u_205_237, u_205_238, u_205_239, u_205_240, u_205_241, u_205_242, u_205_243, u_205_244, u_205_245, u_205_246, u_205_247, u_205_250, u_205_251, u_205_252, u_205_253, u_205_254, u_205_255, u_205_256, u_205_257, u_205_258, u_205_259, u_205_260, u_205_261, u_205_264, true_or, or_true, zk_li1_s, zk_ll1_s, zk_la1_r, zk_la1_n, zk_lg0, zk_lgs, zk_co_n, zk_co_i, zk_co_r, zk_co_u, zk_co_l, zk_l1_0, zk_l1_1, zk_l1_s, zk_l2_0, zk_l2_1, zk_l2_s, zk_sm0, zk_smi, zk_smr, zk_smn, zk_sml, zk_fi, zk_fz, zk_fo, zk_fn, zk_fa, zk_ts, zk_tn, zk_cases, true_and, and_true, List.getElem?_cons_zero, List.getElem?_cons_succ, List.length_cons, List.length_nil, Nat.reduceAdd, Nat.reduceLT, Nat.reduceLeDiff, List.set_cons_zero, List.set_cons_succ, va_rf, iz_lit, iz_add, i0, ic, s1, s2, w1, w2]
  (repeat' (first | exact nx2 | apply And.intro | intro _)) <;> first | omega | (exfalso; omega) | contradiction | exact absurd trivial (by assumption) | (exfalso; simp_all; done)
theorem lc_local (hG : GS G) (hL : LW G n x M h) (hn : 0 ≤ n ∧ n ≤ 511) (w : Int → Int) (hw : ∀ k, i32 (w k)) (sc : ∀ k, 0 ≤ k → k ≤ 4 → ∀ (h : zk_H) (P : Int32 → Prop), zk_ai G h b (iz (5 * n + k)) P ↔ P (iz (w k))) (P : Option Value → zk_H → Prop) (nx : ∀ h2, LW G (n + 1) x M h2 → zk_wp G 205 1261 [some (.ref b), some (.ref x), some (.ref M), some (.int (iz (5 * n)))] [] h2 P) : zk_wp G 205 269 [some (.ref b), some (.ref x), some (.ref M), some (.int (iz (5 * n)))] [] h P := by
  obtain ⟨B, ad, s, m, rfl, hB, hP, hd, hx0, hR, hI, z1, z2⟩ := hL
  subst hx0
  have s1 := sc 1 (by omega) (by omega)
  have s2 := sc 2 (by omega) (by omega)
  obtain ⟨v, h1, h2, l2, ic, w1, w2⟩ := lw_step hB hP hd z1 z2 hn (pr_local hB hG hR hI (by omega) (w 1) (w 2) (hw 1) (hw 2))
  have nx2 := nx h2 l2
  have i0 := xi_tk hB s
  clear z1 z2 l2 nx
  simp (disch := first | omega | assumption | (simp; done)) only [u_205_269, u_205_270, u_205_271, u_205_272, u_205_273, u_205_274, u_205_275, u_205_276, u_205_277, u_205_278, u_205_279, u_205_280, u_205_283, u_205_284, u_205_285, u_205_286, u_205_287, u_205_288, u_205_289, u_205_290, u_205_291, u_205_292, u_205_293, u_205_294, u_205_297, true_or, or_true, zk_li1_s, zk_ll1_s, zk_la1_r, zk_la1_n, zk_lg0, zk_lgs, zk_co_n, zk_co_i, zk_co_r, zk_co_u, zk_co_l, zk_l1_0, zk_l1_1, zk_l1_s, zk_l2_0, zk_l2_1, zk_l2_s, zk_sm0, zk_smi, zk_smr, zk_smn, zk_sml, zk_fi, zk_fz, zk_fo, zk_fn, zk_fa, zk_ts, zk_tn, zk_cases, true_and, and_true, List.getElem?_cons_zero, List.getElem?_cons_succ, List.length_cons, List.length_nil, Nat.reduceAdd, Nat.reduceLT, Nat.reduceLeDiff, List.set_cons_zero, List.set_cons_succ, va_rf, iz_lit, iz_add, i0, ic, s1, s2, w1, w2]
  (repeat' (first | exact nx2 | apply And.intro | intro _)) <;> first | omega | (exfalso; omega) | contradiction | exact absurd trivial (by assumption) | (exfalso; simp_all; done)
theorem lc_moment (hG : GS G) (hL : LW G n x M h) (hn : 0 ≤ n ∧ n ≤ 511) (w : Int → Int) (hw : ∀ k, i32 (w k)) (sc : ∀ k, 0 ≤ k → k ≤ 4 → ∀ (h : zk_H) (P : Int32 → Prop), zk_ai G h b (iz (5 * n + k)) P ↔ P (iz (w k))) (P : Option Value → zk_H → Prop) (nx : ∀ h2, LW G (n + 1) x M h2 → zk_wp G 205 1261 [some (.ref b), some (.ref x), some (.ref M), some (.int (iz (5 * n)))] [] h2 P) : zk_wp G 205 302 [some (.ref b), some (.ref x), some (.ref M), some (.int (iz (5 * n)))] [] h P := by
  obtain ⟨B, ad, s, m, rfl, hB, hP, hd, hx0, hR, hI, z1, z2⟩ := hL
  subst hx0
  have s1 := sc 1 (by omega) (by omega)
  have s2 := sc 2 (by omega) (by omega)
  obtain ⟨v, h1, h2, l2, ic, w1, w2⟩ := lw_step hB hP hd z1 z2 hn (pr_moment hB hG hR hI (by omega) (w 1) (w 2) (hw 1) (hw 2))
  have nx2 := nx h2 l2
  have i0 := xi_tk hB s
  clear z1 z2 l2 nx
  simp (disch := first | omega | assumption | (simp; done)) only [u_205_302, u_205_303, u_205_304, u_205_305, u_205_306, u_205_307, u_205_308, u_205_309, u_205_310, u_205_311, u_205_312, u_205_313, u_205_316, u_205_317, u_205_318, u_205_319, u_205_320, u_205_321, u_205_322, u_205_323, u_205_324, u_205_325, u_205_326, u_205_327, u_205_330, true_or, or_true, zk_li1_s, zk_ll1_s, zk_la1_r, zk_la1_n, zk_lg0, zk_lgs, zk_co_n, zk_co_i, zk_co_r, zk_co_u, zk_co_l, zk_l1_0, zk_l1_1, zk_l1_s, zk_l2_0, zk_l2_1, zk_l2_s, zk_sm0, zk_smi, zk_smr, zk_smn, zk_sml, zk_fi, zk_fz, zk_fo, zk_fn, zk_fa, zk_ts, zk_tn, zk_cases, true_and, and_true, List.getElem?_cons_zero, List.getElem?_cons_succ, List.length_cons, List.length_nil, Nat.reduceAdd, Nat.reduceLT, Nat.reduceLeDiff, List.set_cons_zero, List.set_cons_succ, va_rf, iz_lit, iz_add, i0, ic, s1, s2, w1, w2]
  (repeat' (first | exact nx2 | apply And.intro | intro _)) <;> first | omega | (exfalso; omega) | contradiction | exact absurd trivial (by assumption) | (exfalso; simp_all; done)
theorem lc_day (hG : GS G) (hL : LW G n x M h) (hn : 0 ≤ n ∧ n ≤ 511) (w : Int → Int) (hw : ∀ k, i32 (w k)) (sc : ∀ k, 0 ≤ k → k ≤ 4 → ∀ (h : zk_H) (P : Int32 → Prop), zk_ai G h b (iz (5 * n + k)) P ↔ P (iz (w k))) (P : Option Value → zk_H → Prop) (nx : ∀ h2, LW G (n + 1) x M h2 → zk_wp G 205 1261 [some (.ref b), some (.ref x), some (.ref M), some (.int (iz (5 * n)))] [] h2 P) : zk_wp G 205 335 [some (.ref b), some (.ref x), some (.ref M), some (.int (iz (5 * n)))] [] h P := by
  obtain ⟨B, ad, s, m, rfl, hB, hP, hd, hx0, hR, hI, z1, z2⟩ := hL
  subst hx0
  have s1 := sc 1 (by omega) (by omega)
  have s2 := sc 2 (by omega) (by omega)
  have s3 := sc 3 (by omega) (by omega)
  obtain ⟨v, h1, h2, l2, ic, w1, w2⟩ := lw_step hB hP hd z1 z2 hn (pr_day hB hG hR hI (by omega) (w 1) (w 2) (w 3) (hw 1) (hw 2) (hw 3))
  have nx2 := nx h2 l2
  have i0 := xi_tk hB s
  clear z1 z2 l2 nx
  simp (disch := first | omega | assumption | (simp; done)) only [u_205_335, u_205_336, u_205_337, u_205_338, u_205_339, u_205_340, u_205_341, u_205_342, u_205_343, u_205_344, u_205_345, u_205_346, u_205_347, u_205_348, u_205_349, u_205_350, u_205_351, u_205_354, u_205_355, u_205_356, u_205_357, u_205_358, u_205_359, u_205_360, u_205_361, u_205_362, u_205_363, u_205_364, u_205_365, u_205_366, u_205_367, u_205_368, u_205_369, u_205_370, u_205_373, true_or, or_true, zk_li1_s, zk_ll1_s, zk_la1_r, zk_la1_n, zk_lg0, zk_lgs, zk_co_n, zk_co_i, zk_co_r, zk_co_u, zk_co_l, zk_l1_0, zk_l1_1, zk_l1_s, zk_l2_0, zk_l2_1, zk_l2_s, zk_sm0, zk_smi, zk_smr, zk_smn, zk_sml, zk_fi, zk_fz, zk_fo, zk_fn, zk_fa, zk_ts, zk_tn, zk_cases, true_and, and_true, List.getElem?_cons_zero, List.getElem?_cons_succ, List.length_cons, List.length_nil, Nat.reduceAdd, Nat.reduceLT, Nat.reduceLeDiff, List.set_cons_zero, List.set_cons_succ, va_rf, iz_lit, iz_add, i0, ic, s1, s2, s3, w1, w2]
  (repeat' (first | exact nx2 | apply And.intro | intro _)) <;> first | omega | (exfalso; omega) | contradiction | exact absurd trivial (by assumption) | (exfalso; simp_all; done)
theorem lc_job (hG : GS G) (hL : LW G n x M h) (hn : 0 ≤ n ∧ n ≤ 511) (w : Int → Int) (hw : ∀ k, i32 (w k)) (sc : ∀ k, 0 ≤ k → k ≤ 4 → ∀ (h : zk_H) (P : Int32 → Prop), zk_ai G h b (iz (5 * n + k)) P ↔ P (iz (w k))) (P : Option Value → zk_H → Prop) (nx : ∀ h2, LW G (n + 1) x M h2 → zk_wp G 205 1261 [some (.ref b), some (.ref x), some (.ref M), some (.int (iz (5 * n)))] [] h2 P) : zk_wp G 205 378 [some (.ref b), some (.ref x), some (.ref M), some (.int (iz (5 * n)))] [] h P := by
  obtain ⟨B, ad, s, m, rfl, hB, hP, hd, hx0, hR, hI, z1, z2⟩ := hL
  subst hx0
  have s1 := sc 1 (by omega) (by omega)
  obtain ⟨v, h1, h2, l2, ic, w1, w2⟩ := lw_step hB hP hd z1 z2 hn (pr_job hB hG hR hI (by omega) (w 1) (hw 1))
  have nx2 := nx h2 l2
  have i0 := xi_tk hB s
  clear z1 z2 l2 nx
  simp (disch := first | omega | assumption | (simp; done)) only [u_205_378, u_205_379, u_205_380, u_205_381, u_205_382, u_205_383, u_205_384, u_205_387, u_205_388, u_205_389, u_205_390, u_205_391, u_205_392, u_205_393, u_205_396, true_or, or_true, zk_li1_s, zk_ll1_s, zk_la1_r, zk_la1_n, zk_lg0, zk_lgs, zk_co_n, zk_co_i, zk_co_r, zk_co_u, zk_co_l, zk_l1_0, zk_l1_1, zk_l1_s, zk_l2_0, zk_l2_1, zk_l2_s, zk_sm0, zk_smi, zk_smr, zk_smn, zk_sml, zk_fi, zk_fz, zk_fo, zk_fn, zk_fa, zk_ts, zk_tn, zk_cases, true_and, and_true, List.getElem?_cons_zero, List.getElem?_cons_succ, List.length_cons, List.length_nil, Nat.reduceAdd, Nat.reduceLT, Nat.reduceLeDiff, List.set_cons_zero, List.set_cons_succ, va_rf, iz_lit, iz_add, i0, ic, s1, w1, w2]
  (repeat' (first | exact nx2 | apply And.intro | intro _)) <;> first | omega | (exfalso; omega) | contradiction | exact absurd trivial (by assumption) | (exfalso; simp_all; done)
theorem lc_mask (hG : GS G) (hL : LW G n x M h) (hn : 0 ≤ n ∧ n ≤ 511) (w : Int → Int) (hw : ∀ k, i32 (w k)) (sc : ∀ k, 0 ≤ k → k ≤ 4 → ∀ (h : zk_H) (P : Int32 → Prop), zk_ai G h b (iz (5 * n + k)) P ↔ P (iz (w k))) (P : Option Value → zk_H → Prop) (nx : ∀ h2, LW G (n + 1) x M h2 → zk_wp G 205 1261 [some (.ref b), some (.ref x), some (.ref M), some (.int (iz (5 * n)))] [] h2 P) : zk_wp G 205 401 [some (.ref b), some (.ref x), some (.ref M), some (.int (iz (5 * n)))] [] h P := by
  obtain ⟨B, ad, s, m, rfl, hB, hP, hd, hx0, hR, hI, z1, z2⟩ := hL
  subst hx0
  have s1 := sc 1 (by omega) (by omega)
  have s2 := sc 2 (by omega) (by omega)
  have s3 := sc 3 (by omega) (by omega)
  have s4 := sc 4 (by omega) (by omega)
  obtain ⟨v, h1, h2, l2, ic, w1, w2⟩ := lw_step hB hP hd z1 z2 hn (pr_mask hB hG hR hI (by omega) (w 1) (w 2) (hw 1) (hw 2) ((iz (w 3)).toInt64 <<< ((iz 32).toInt64 &&& 63) ||| (iz (w 4)).toInt64 &&& 4294967295))
  have nx2 := nx h2 l2
  have i0 := xi_tk hB s
  clear z1 z2 l2 nx
  simp (disch := first | omega | assumption | (simp; done)) only [u_205_401, u_205_402, u_205_403, u_205_404, u_205_405, u_205_406, u_205_407, u_205_408, u_205_409, u_205_410, u_205_411, u_205_412, u_205_413, u_205_414, u_205_415, u_205_416, u_205_417, u_205_418, u_205_420, u_205_421, u_205_422, u_205_423, u_205_424, u_205_425, u_205_426, u_205_427, u_205_430, u_205_431, u_205_432, u_205_435, u_205_436, u_205_437, u_205_438, u_205_439, u_205_440, u_205_441, u_205_442, u_205_443, u_205_444, u_205_445, u_205_446, u_205_447, u_205_448, u_205_449, u_205_450, u_205_451, u_205_452, u_205_454, u_205_455, u_205_456, u_205_457, u_205_458, u_205_459, u_205_460, u_205_461, u_205_464, u_205_465, u_205_466, u_205_469, true_or, or_true, zk_li1_s, zk_ll1_s, zk_la1_r, zk_la1_n, zk_lg0, zk_lgs, zk_co_n, zk_co_i, zk_co_r, zk_co_u, zk_co_l, zk_l1_0, zk_l1_1, zk_l1_s, zk_l2_0, zk_l2_1, zk_l2_s, zk_sm0, zk_smi, zk_smr, zk_smn, zk_sml, zk_fi, zk_fz, zk_fo, zk_fn, zk_fa, zk_ts, zk_tn, zk_cases, true_and, and_true, List.getElem?_cons_zero, List.getElem?_cons_succ, List.length_cons, List.length_nil, Nat.reduceAdd, Nat.reduceLT, Nat.reduceLeDiff, List.set_cons_zero, List.set_cons_succ, va_rf, iz_lit, iz_add, i0, ic, s1, s2, s3, s4, w1, w2]
  (repeat' (first | exact nx2 | apply And.intro | intro _)) <;> first | omega | (exfalso; omega) | contradiction | exact absurd trivial (by assumption) | (exfalso; simp_all; done)
theorem lc_nth (hG : GS G) (hL : LW G n x M h) (hn : 0 ≤ n ∧ n ≤ 511) (w : Int → Int) (hw : ∀ k, i32 (w k)) (sc : ∀ k, 0 ≤ k → k ≤ 4 → ∀ (h : zk_H) (P : Int32 → Prop), zk_ai G h b (iz (5 * n + k)) P ↔ P (iz (w k))) (P : Option Value → zk_H → Prop) (nx : ∀ h2, LW G (n + 1) x M h2 → zk_wp G 205 1261 [some (.ref b), some (.ref x), some (.ref M), some (.int (iz (5 * n)))] [] h2 P) : zk_wp G 205 474 [some (.ref b), some (.ref x), some (.ref M), some (.int (iz (5 * n)))] [] h P := by
  obtain ⟨B, ad, s, m, rfl, hB, hP, hd, hx0, hR, hI, z1, z2⟩ := hL
  subst hx0
  have s1 := sc 1 (by omega) (by omega)
  have s2 := sc 2 (by omega) (by omega)
  have s3 := sc 3 (by omega) (by omega)
  obtain ⟨v, h1, h2, l2, ic, w1, w2⟩ := lw_step hB hP hd z1 z2 hn (pr_nth hB hG hR hI (by omega) (w 1) (w 2) (w 3) (hw 1) (hw 2) (hw 3))
  have nx2 := nx h2 l2
  have i0 := xi_tk hB s
  clear z1 z2 l2 nx
  simp (disch := first | omega | assumption | (simp; done)) only [u_205_474, u_205_475, u_205_476, u_205_477, u_205_478, u_205_479, u_205_480, u_205_481, u_205_482, u_205_483, u_205_484, u_205_485, u_205_486, u_205_487, u_205_488, u_205_489, u_205_490, u_205_493, u_205_494, u_205_495, u_205_496, u_205_497, u_205_498, u_205_499, u_205_500, u_205_501, u_205_502, u_205_503, u_205_504, u_205_505, u_205_506, u_205_507, u_205_508, u_205_509, u_205_512, true_or, or_true, zk_li1_s, zk_ll1_s, zk_la1_r, zk_la1_n, zk_lg0, zk_lgs, zk_co_n, zk_co_i, zk_co_r, zk_co_u, zk_co_l, zk_l1_0, zk_l1_1, zk_l1_s, zk_l2_0, zk_l2_1, zk_l2_s, zk_sm0, zk_smi, zk_smr, zk_smn, zk_sml, zk_fi, zk_fz, zk_fo, zk_fn, zk_fa, zk_ts, zk_tn, zk_cases, true_and, and_true, List.getElem?_cons_zero, List.getElem?_cons_succ, List.length_cons, List.length_nil, Nat.reduceAdd, Nat.reduceLT, Nat.reduceLeDiff, List.set_cons_zero, List.set_cons_succ, va_rf, iz_lit, iz_add, i0, ic, s1, s2, s3, w1, w2]
  (repeat' (first | exact nx2 | apply And.intro | intro _)) <;> first | omega | (exfalso; omega) | contradiction | exact absurd trivial (by assumption) | (exfalso; simp_all; done)
theorem lc_except (hG : GS G) (hL : LW G n x M h) (hn : 0 ≤ n ∧ n ≤ 511) (w : Int → Int) (hw : ∀ k, i32 (w k)) (sc : ∀ k, 0 ≤ k → k ≤ 4 → ∀ (h : zk_H) (P : Int32 → Prop), zk_ai G h b (iz (5 * n + k)) P ↔ P (iz (w k))) (P : Option Value → zk_H → Prop) (nx : ∀ h2, LW G (n + 1) x M h2 → zk_wp G 205 1261 [some (.ref b), some (.ref x), some (.ref M), some (.int (iz (5 * n)))] [] h2 P) : zk_wp G 205 517 [some (.ref b), some (.ref x), some (.ref M), some (.int (iz (5 * n)))] [] h P := by
  obtain ⟨B, ad, s, m, rfl, hB, hP, hd, hx0, hR, hI, z1, z2⟩ := hL
  subst hx0
  have s1 := sc 1 (by omega) (by omega)
  have s2 := sc 2 (by omega) (by omega)
  obtain ⟨v, h1, h2, l2, ic, w1, w2⟩ := lw_step hB hP hd z1 z2 hn (pr_except hB hG hR hI (by omega) (w 1) (w 2) (hw 1) (hw 2))
  have nx2 := nx h2 l2
  have i0 := xi_tk hB s
  clear z1 z2 l2 nx
  simp (disch := first | omega | assumption | (simp; done)) only [u_205_517, u_205_518, u_205_519, u_205_520, u_205_521, u_205_522, u_205_523, u_205_524, u_205_525, u_205_526, u_205_527, u_205_528, u_205_531, u_205_532, u_205_533, u_205_534, u_205_535, u_205_536, u_205_537, u_205_538, u_205_539, u_205_540, u_205_541, u_205_542, u_205_545, true_or, or_true, zk_li1_s, zk_ll1_s, zk_la1_r, zk_la1_n, zk_lg0, zk_lgs, zk_co_n, zk_co_i, zk_co_r, zk_co_u, zk_co_l, zk_l1_0, zk_l1_1, zk_l1_s, zk_l2_0, zk_l2_1, zk_l2_s, zk_sm0, zk_smi, zk_smr, zk_smn, zk_sml, zk_fi, zk_fz, zk_fo, zk_fn, zk_fa, zk_ts, zk_tn, zk_cases, true_and, and_true, List.getElem?_cons_zero, List.getElem?_cons_succ, List.length_cons, List.length_nil, Nat.reduceAdd, Nat.reduceLT, Nat.reduceLeDiff, List.set_cons_zero, List.set_cons_succ, va_rf, iz_lit, iz_add, i0, ic, s1, s2, w1, w2]
  (repeat' (first | exact nx2 | apply And.intro | intro _)) <;> first | omega | (exfalso; omega) | contradiction | exact absurd trivial (by assumption) | (exfalso; simp_all; done)
theorem lc_onHol (hG : GS G) (hL : LW G n x M h) (hn : 0 ≤ n ∧ n ≤ 511) (w : Int → Int) (hw : ∀ k, i32 (w k)) (sc : ∀ k, 0 ≤ k → k ≤ 4 → ∀ (h : zk_H) (P : Int32 → Prop), zk_ai G h b (iz (5 * n + k)) P ↔ P (iz (w k))) (P : Option Value → zk_H → Prop) (nx : ∀ h2, LW G (n + 1) x M h2 → zk_wp G 205 1261 [some (.ref b), some (.ref x), some (.ref M), some (.int (iz (5 * n)))] [] h2 P) : zk_wp G 205 550 [some (.ref b), some (.ref x), some (.ref M), some (.int (iz (5 * n)))] [] h P := by
  obtain ⟨B, ad, s, m, rfl, hB, hP, hd, hx0, hR, hI, z1, z2⟩ := hL
  subst hx0
  have s1 := sc 1 (by omega) (by omega)
  have s2 := sc 2 (by omega) (by omega)
  obtain ⟨v, h1, h2, l2, ic, w1, w2⟩ := lw_step hB hP hd z1 z2 hn (pr_onHol hB hG hR hI (by omega) (w 1) (w 2) (hw 1) (hw 2))
  have nx2 := nx h2 l2
  have i0 := xi_tk hB s
  clear z1 z2 l2 nx
  simp (disch := first | omega | assumption | (simp; done)) only [u_205_550, u_205_551, u_205_552, u_205_553, u_205_554, u_205_555, u_205_556, u_205_557, u_205_558, u_205_559, u_205_560, u_205_561, u_205_564, u_205_565, u_205_566, u_205_567, u_205_568, u_205_569, u_205_570, u_205_571, u_205_572, u_205_573, u_205_574, u_205_575, u_205_578, true_or, or_true, zk_li1_s, zk_ll1_s, zk_la1_r, zk_la1_n, zk_lg0, zk_lgs, zk_co_n, zk_co_i, zk_co_r, zk_co_u, zk_co_l, zk_l1_0, zk_l1_1, zk_l1_s, zk_l2_0, zk_l2_1, zk_l2_s, zk_sm0, zk_smi, zk_smr, zk_smn, zk_sml, zk_fi, zk_fz, zk_fo, zk_fn, zk_fa, zk_ts, zk_tn, zk_cases, true_and, and_true, List.getElem?_cons_zero, List.getElem?_cons_succ, List.length_cons, List.length_nil, Nat.reduceAdd, Nat.reduceLT, Nat.reduceLeDiff, List.set_cons_zero, List.set_cons_succ, va_rf, iz_lit, iz_add, i0, ic, s1, s2, w1, w2]
  (repeat' (first | exact nx2 | apply And.intro | intro _)) <;> first | omega | (exfalso; omega) | contradiction | exact absurd trivial (by assumption) | (exfalso; simp_all; done)
theorem lc_catch (hG : GS G) (hL : LW G n x M h) (hn : 0 ≤ n ∧ n ≤ 511) (w : Int → Int) (hw : ∀ k, i32 (w k)) (sc : ∀ k, 0 ≤ k → k ≤ 4 → ∀ (h : zk_H) (P : Int32 → Prop), zk_ai G h b (iz (5 * n + k)) P ↔ P (iz (w k))) (P : Option Value → zk_H → Prop) (nx : ∀ h2, LW G (n + 1) x M h2 → zk_wp G 205 1261 [some (.ref b), some (.ref x), some (.ref M), some (.int (iz (5 * n)))] [] h2 P) : zk_wp G 205 583 [some (.ref b), some (.ref x), some (.ref M), some (.int (iz (5 * n)))] [] h P := by
  obtain ⟨B, ad, s, m, rfl, hB, hP, hd, hx0, hR, hI, z1, z2⟩ := hL
  subst hx0
  have s1 := sc 1 (by omega) (by omega)
  have s2 := sc 2 (by omega) (by omega)
  have s3 := sc 3 (by omega) (by omega)
  obtain ⟨v, h1, h2, l2, ic, w1, w2⟩ := lw_step hB hP hd z1 z2 hn (pr_catch hB hG hR hI (by omega) (w 1) (w 2) (w 3) (hw 1) (hw 2) (hw 3))
  have nx2 := nx h2 l2
  have i0 := xi_tk hB s
  clear z1 z2 l2 nx
  simp (disch := first | omega | assumption | (simp; done)) only [u_205_583, u_205_584, u_205_585, u_205_586, u_205_587, u_205_588, u_205_589, u_205_590, u_205_591, u_205_592, u_205_593, u_205_594, u_205_595, u_205_596, u_205_597, u_205_598, u_205_599, u_205_602, u_205_603, u_205_604, u_205_605, u_205_606, u_205_607, u_205_608, u_205_609, u_205_610, u_205_611, u_205_612, u_205_613, u_205_614, u_205_615, u_205_616, u_205_617, u_205_618, u_205_621, true_or, or_true, zk_li1_s, zk_ll1_s, zk_la1_r, zk_la1_n, zk_lg0, zk_lgs, zk_co_n, zk_co_i, zk_co_r, zk_co_u, zk_co_l, zk_l1_0, zk_l1_1, zk_l1_s, zk_l2_0, zk_l2_1, zk_l2_s, zk_sm0, zk_smi, zk_smr, zk_smn, zk_sml, zk_fi, zk_fz, zk_fo, zk_fn, zk_fa, zk_ts, zk_tn, zk_cases, true_and, and_true, List.getElem?_cons_zero, List.getElem?_cons_succ, List.length_cons, List.length_nil, Nat.reduceAdd, Nat.reduceLT, Nat.reduceLeDiff, List.set_cons_zero, List.set_cons_succ, va_rf, iz_lit, iz_add, i0, ic, s1, s2, s3, w1, w2]
  (repeat' (first | exact nx2 | apply And.intro | intro _)) <;> first | omega | (exfalso; omega) | contradiction | exact absurd trivial (by assumption) | (exfalso; simp_all; done)
theorem lc_after (hG : GS G) (hL : LW G n x M h) (hn : 0 ≤ n ∧ n ≤ 511) (w : Int → Int) (hw : ∀ k, i32 (w k)) (sc : ∀ k, 0 ≤ k → k ≤ 4 → ∀ (h : zk_H) (P : Int32 → Prop), zk_ai G h b (iz (5 * n + k)) P ↔ P (iz (w k))) (P : Option Value → zk_H → Prop) (nx : ∀ h2, LW G (n + 1) x M h2 → zk_wp G 205 1261 [some (.ref b), some (.ref x), some (.ref M), some (.int (iz (5 * n)))] [] h2 P) : zk_wp G 205 626 [some (.ref b), some (.ref x), some (.ref M), some (.int (iz (5 * n)))] [] h P := by
  obtain ⟨B, ad, s, m, rfl, hB, hP, hd, hx0, hR, hI, z1, z2⟩ := hL
  subst hx0
  have s1 := sc 1 (by omega) (by omega)
  have s2 := sc 2 (by omega) (by omega)
  obtain ⟨v, h1, h2, l2, ic, w1, w2⟩ := lw_step hB hP hd z1 z2 hn (pr_after hB hG hR hI (by omega) (w 1) (w 2) (hw 1) (hw 2))
  have nx2 := nx h2 l2
  have i0 := xi_tk hB s
  clear z1 z2 l2 nx
  simp (disch := first | omega | assumption | (simp; done)) only [u_205_626, u_205_627, u_205_628, u_205_629, u_205_630, u_205_631, u_205_632, u_205_633, u_205_634, u_205_635, u_205_636, u_205_637, u_205_640, u_205_641, u_205_642, u_205_643, u_205_644, u_205_645, u_205_646, u_205_647, u_205_648, u_205_649, u_205_650, u_205_651, u_205_654, true_or, or_true, zk_li1_s, zk_ll1_s, zk_la1_r, zk_la1_n, zk_lg0, zk_lgs, zk_co_n, zk_co_i, zk_co_r, zk_co_u, zk_co_l, zk_l1_0, zk_l1_1, zk_l1_s, zk_l2_0, zk_l2_1, zk_l2_s, zk_sm0, zk_smi, zk_smr, zk_smn, zk_sml, zk_fi, zk_fz, zk_fo, zk_fn, zk_fa, zk_ts, zk_tn, zk_cases, true_and, and_true, List.getElem?_cons_zero, List.getElem?_cons_succ, List.length_cons, List.length_nil, Nat.reduceAdd, Nat.reduceLT, Nat.reduceLeDiff, List.set_cons_zero, List.set_cons_succ, va_rf, iz_lit, iz_add, i0, ic, s1, s2, w1, w2]
  (repeat' (first | exact nx2 | apply And.intro | intro _)) <;> first | omega | (exfalso; omega) | contradiction | exact absurd trivial (by assumption) | (exfalso; simp_all; done)
theorem lc_pause (hG : GS G) (hL : LW G n x M h) (hn : 0 ≤ n ∧ n ≤ 511) (w : Int → Int) (hw : ∀ k, i32 (w k)) (sc : ∀ k, 0 ≤ k → k ≤ 4 → ∀ (h : zk_H) (P : Int32 → Prop), zk_ai G h b (iz (5 * n + k)) P ↔ P (iz (w k))) (P : Option Value → zk_H → Prop) (nx : ∀ h2, LW G (n + 1) x M h2 → zk_wp G 205 1261 [some (.ref b), some (.ref x), some (.ref M), some (.int (iz (5 * n)))] [] h2 P) : zk_wp G 205 659 [some (.ref b), some (.ref x), some (.ref M), some (.int (iz (5 * n)))] [] h P := by
  obtain ⟨B, ad, s, m, rfl, hB, hP, hd, hx0, hR, hI, z1, z2⟩ := hL
  subst hx0
  have s1 := sc 1 (by omega) (by omega)
  have s2 := sc 2 (by omega) (by omega)
  have r2 : -2147483648 ≤ w 2 ∧ w 2 ≤ 2147483647 := hw 2
  by_cases c : w 2 = 0
  · obtain ⟨v, h1, h2, l2, ic, w1, w2⟩ := lw_step hB hP hd z1 z2 hn (pr_pause hB hG hR hI (by omega) (w 1) 0 (hw 1) ⟨by omega, by omega⟩ (Or.inl rfl))
    have nx2 := nx h2 l2
    have i0 := xi_tk hB s
    clear z1 z2 l2 nx
    simp (disch := first | omega | assumption | (simp; done)) only [u_205_659, u_205_660, u_205_661, u_205_662, u_205_663, u_205_664, u_205_665, u_205_666, u_205_667, u_205_668, u_205_669, u_205_670, u_205_673, u_205_674, u_205_677, u_205_678, u_205_681, u_205_682, u_205_683, u_205_684, u_205_685, u_205_686, u_205_687, u_205_688, u_205_689, u_205_690, u_205_691, u_205_692, u_205_695, u_205_696, u_205_699, u_205_700, u_205_703, true_or, or_true, zk_li1_s, zk_ll1_s, zk_la1_r, zk_la1_n, zk_lg0, zk_lgs, zk_co_n, zk_co_i, zk_co_r, zk_co_u, zk_co_l, zk_l1_0, zk_l1_1, zk_l1_s, zk_l2_0, zk_l2_1, zk_l2_s, zk_sm0, zk_smi, zk_smr, zk_smn, zk_sml, zk_fi, zk_fz, zk_fo, zk_fn, zk_fa, zk_ts, zk_tn, zk_cases, true_and, and_true, List.getElem?_cons_zero, List.getElem?_cons_succ, List.length_cons, List.length_nil, Nat.reduceAdd, Nat.reduceLT, Nat.reduceLeDiff, List.set_cons_zero, List.set_cons_succ, va_rf, iz_lit, iz_add, i0, ic, s1, s2, iz_inj, c, w1, w2]
    (repeat' (first | exact nx2 | apply And.intro | intro _)) <;> first | omega | (exfalso; omega) | contradiction | exact absurd trivial (by assumption) | (exfalso; simp_all; done)
  · obtain ⟨v, h1, h2, l2, ic, w1, w2⟩ := lw_step hB hP hd z1 z2 hn (pr_pause hB hG hR hI (by omega) (w 1) 1 (hw 1) ⟨by omega, by omega⟩ (Or.inr rfl))
    have nx2 := nx h2 l2
    have i0 := xi_tk hB s
    clear z1 z2 l2 nx
    simp (disch := first | omega | assumption | (simp; done)) only [u_205_659, u_205_660, u_205_661, u_205_662, u_205_663, u_205_664, u_205_665, u_205_666, u_205_667, u_205_668, u_205_669, u_205_670, u_205_673, u_205_674, u_205_677, u_205_678, u_205_681, u_205_682, u_205_683, u_205_684, u_205_685, u_205_686, u_205_687, u_205_688, u_205_689, u_205_690, u_205_691, u_205_692, u_205_695, u_205_696, u_205_699, u_205_700, u_205_703, true_or, or_true, zk_li1_s, zk_ll1_s, zk_la1_r, zk_la1_n, zk_lg0, zk_lgs, zk_co_n, zk_co_i, zk_co_r, zk_co_u, zk_co_l, zk_l1_0, zk_l1_1, zk_l1_s, zk_l2_0, zk_l2_1, zk_l2_s, zk_sm0, zk_smi, zk_smr, zk_smn, zk_sml, zk_fi, zk_fz, zk_fo, zk_fn, zk_fa, zk_ts, zk_tn, zk_cases, true_and, and_true, List.getElem?_cons_zero, List.getElem?_cons_succ, List.length_cons, List.length_nil, Nat.reduceAdd, Nat.reduceLT, Nat.reduceLeDiff, List.set_cons_zero, List.set_cons_succ, va_rf, iz_lit, iz_add, i0, ic, s1, s2, iz_inj, w1, w2]
    (repeat' (first | exact nx2 | apply And.intro | intro _)) <;> first | omega | (exfalso; omega) | contradiction | exact absurd trivial (by assumption) | (exfalso; simp_all; done)
theorem lc_due (hG : GS G) (hL : LW G n x M h) (hn : 0 ≤ n ∧ n ≤ 511) (w : Int → Int) (hw : ∀ k, i32 (w k)) (sc : ∀ k, 0 ≤ k → k ≤ 4 → ∀ (h : zk_H) (P : Int32 → Prop), zk_ai G h b (iz (5 * n + k)) P ↔ P (iz (w k))) (P : Option Value → zk_H → Prop) (nx : ∀ h2, LW G (n + 1) x M h2 → zk_wp G 205 1261 [some (.ref b), some (.ref x), some (.ref M), some (.int (iz (5 * n)))] [] h2 P) : zk_wp G 205 708 [some (.ref b), some (.ref x), some (.ref M), some (.int (iz (5 * n)))] [] h P := by
  obtain ⟨B, ad, s, m, rfl, hB, hP, hd, hx0, hR, hI, z1, z2⟩ := hL
  subst hx0
  have s1 := sc 1 (by omega) (by omega)
  have s2 := sc 2 (by omega) (by omega)
  obtain ⟨v, h1, h2, l2, ic, w1, w2⟩ := lw_step hB hP hd z1 z2 hn (pr_due hB hG hR hI (by omega) (w 1) (w 2) (hw 1) (hw 2))
  have nx2 := nx h2 l2
  have i0 := xi_tk hB s
  clear z1 z2 l2 nx
  simp (disch := first | omega | assumption | (simp; done)) only [u_205_708, u_205_709, u_205_710, u_205_711, u_205_712, u_205_713, u_205_714, u_205_715, u_205_716, u_205_717, u_205_718, u_205_719, u_205_722, u_205_723, u_205_724, u_205_725, u_205_726, u_205_727, u_205_728, u_205_729, u_205_730, u_205_731, u_205_732, u_205_733, u_205_736, true_or, or_true, zk_li1_s, zk_ll1_s, zk_la1_r, zk_la1_n, zk_lg0, zk_lgs, zk_co_n, zk_co_i, zk_co_r, zk_co_u, zk_co_l, zk_l1_0, zk_l1_1, zk_l1_s, zk_l2_0, zk_l2_1, zk_l2_s, zk_sm0, zk_smi, zk_smr, zk_smn, zk_sml, zk_fi, zk_fz, zk_fo, zk_fn, zk_fa, zk_ts, zk_tn, zk_cases, true_and, and_true, List.getElem?_cons_zero, List.getElem?_cons_succ, List.length_cons, List.length_nil, Nat.reduceAdd, Nat.reduceLT, Nat.reduceLeDiff, List.set_cons_zero, List.set_cons_succ, va_rf, iz_lit, iz_add, i0, ic, s1, s2, w1, w2]
  (repeat' (first | exact nx2 | apply And.intro | intro _)) <;> first | omega | (exfalso; omega) | contradiction | exact absurd trivial (by assumption) | (exfalso; simp_all; done)
theorem lc_between (hG : GS G) (hL : LW G n x M h) (hn : 0 ≤ n ∧ n ≤ 511) (w : Int → Int) (hw : ∀ k, i32 (w k)) (sc : ∀ k, 0 ≤ k → k ≤ 4 → ∀ (h : zk_H) (P : Int32 → Prop), zk_ai G h b (iz (5 * n + k)) P ↔ P (iz (w k))) (P : Option Value → zk_H → Prop) (nx : ∀ h2, LW G (n + 1) x M h2 → zk_wp G 205 1261 [some (.ref b), some (.ref x), some (.ref M), some (.int (iz (5 * n)))] [] h2 P) : zk_wp G 205 741 [some (.ref b), some (.ref x), some (.ref M), some (.int (iz (5 * n)))] [] h P := by
  obtain ⟨B, ad, s, m, rfl, hB, hP, hd, hx0, hR, hI, z1, z2⟩ := hL
  subst hx0
  have s1 := sc 1 (by omega) (by omega)
  have s2 := sc 2 (by omega) (by omega)
  have s3 := sc 3 (by omega) (by omega)
  have s4 := sc 4 (by omega) (by omega)
  obtain ⟨v, h1, h2, l2, ic, w1, w2⟩ := lw_step hB hP hd z1 z2 hn (pr_between hB hG hR hI (by omega) (w 1) (w 2) (w 3) (w 4) (hw 1) (hw 2) (hw 3) (hw 4))
  have nx2 := nx h2 l2
  have i0 := xi_tk hB s
  clear z1 z2 l2 nx
  simp (disch := first | omega | assumption | (simp; done)) only [u_205_741, u_205_742, u_205_743, u_205_744, u_205_745, u_205_746, u_205_747, u_205_748, u_205_749, u_205_750, u_205_751, u_205_752, u_205_753, u_205_754, u_205_755, u_205_756, u_205_757, u_205_758, u_205_759, u_205_760, u_205_761, u_205_762, u_205_765, u_205_766, u_205_767, u_205_768, u_205_769, u_205_770, u_205_771, u_205_772, u_205_773, u_205_774, u_205_775, u_205_776, u_205_777, u_205_778, u_205_779, u_205_780, u_205_781, u_205_782, u_205_783, u_205_784, u_205_785, u_205_786, u_205_789, true_or, or_true, zk_li1_s, zk_ll1_s, zk_la1_r, zk_la1_n, zk_lg0, zk_lgs, zk_co_n, zk_co_i, zk_co_r, zk_co_u, zk_co_l, zk_l1_0, zk_l1_1, zk_l1_s, zk_l2_0, zk_l2_1, zk_l2_s, zk_sm0, zk_smi, zk_smr, zk_smn, zk_sml, zk_fi, zk_fz, zk_fo, zk_fn, zk_fa, zk_ts, zk_tn, zk_cases, true_and, and_true, List.getElem?_cons_zero, List.getElem?_cons_succ, List.length_cons, List.length_nil, Nat.reduceAdd, Nat.reduceLT, Nat.reduceLeDiff, List.set_cons_zero, List.set_cons_succ, va_rf, iz_lit, iz_add, i0, ic, s1, s2, s3, s4, w1, w2]
  (repeat' (first | exact nx2 | apply And.intro | intro _)) <;> first | omega | (exfalso; omega) | contradiction | exact absurd trivial (by assumption) | (exfalso; simp_all; done)
theorem lc_runNow (hG : GS G) (hL : LW G n x M h) (hn : 0 ≤ n ∧ n ≤ 511) (w : Int → Int) (hw : ∀ k, i32 (w k)) (sc : ∀ k, 0 ≤ k → k ≤ 4 → ∀ (h : zk_H) (P : Int32 → Prop), zk_ai G h b (iz (5 * n + k)) P ↔ P (iz (w k))) (P : Option Value → zk_H → Prop) (nx : ∀ h2, LW G (n + 1) x M h2 → zk_wp G 205 1261 [some (.ref b), some (.ref x), some (.ref M), some (.int (iz (5 * n)))] [] h2 P) : zk_wp G 205 794 [some (.ref b), some (.ref x), some (.ref M), some (.int (iz (5 * n)))] [] h P := by
  obtain ⟨B, ad, s, m, rfl, hB, hP, hd, hx0, hR, hI, z1, z2⟩ := hL
  subst hx0
  have s1 := sc 1 (by omega) (by omega)
  obtain ⟨v, h1, h2, l2, ic, w1, w2⟩ := lw_step hB hP hd z1 z2 hn (pr_runNow hB hG hR hI (by omega) (w 1) (hw 1))
  have nx2 := nx h2 l2
  have i0 := xi_tk hB s
  clear z1 z2 l2 nx
  simp (disch := first | omega | assumption | (simp; done)) only [u_205_794, u_205_795, u_205_796, u_205_797, u_205_798, u_205_799, u_205_800, u_205_803, u_205_804, u_205_805, u_205_806, u_205_807, u_205_808, u_205_809, u_205_812, true_or, or_true, zk_li1_s, zk_ll1_s, zk_la1_r, zk_la1_n, zk_lg0, zk_lgs, zk_co_n, zk_co_i, zk_co_r, zk_co_u, zk_co_l, zk_l1_0, zk_l1_1, zk_l1_s, zk_l2_0, zk_l2_1, zk_l2_s, zk_sm0, zk_smi, zk_smr, zk_smn, zk_sml, zk_fi, zk_fz, zk_fo, zk_fn, zk_fa, zk_ts, zk_tn, zk_cases, true_and, and_true, List.getElem?_cons_zero, List.getElem?_cons_succ, List.length_cons, List.length_nil, Nat.reduceAdd, Nat.reduceLT, Nat.reduceLeDiff, List.set_cons_zero, List.set_cons_succ, va_rf, iz_lit, iz_add, i0, ic, s1, w1, w2]
  (repeat' (first | exact nx2 | apply And.intro | intro _)) <;> first | omega | (exfalso; omega) | contradiction | exact absurd trivial (by assumption) | (exfalso; simp_all; done)
theorem lc_now (hG : GS G) (hL : LW G n x M h) (hn : 0 ≤ n ∧ n ≤ 511) (w : Int → Int) (hw : ∀ k, i32 (w k)) (sc : ∀ k, 0 ≤ k → k ≤ 4 → ∀ (h : zk_H) (P : Int32 → Prop), zk_ai G h b (iz (5 * n + k)) P ↔ P (iz (w k))) (P : Option Value → zk_H → Prop) (nx : ∀ h2, LW G (n + 1) x M h2 → zk_wp G 205 1261 [some (.ref b), some (.ref x), some (.ref M), some (.int (iz (5 * n)))] [] h2 P) : zk_wp G 205 817 [some (.ref b), some (.ref x), some (.ref M), some (.int (iz (5 * n)))] [] h P := by
  obtain ⟨B, ad, s, m, rfl, hB, hP, hd, hx0, hR, hI, z1, z2⟩ := hL
  subst hx0
  have s1 := sc 1 (by omega) (by omega)
  obtain ⟨v, h1, h2, l2, ic, w1, w2⟩ := lw_step hB hP hd z1 z2 hn (pr_now hB hG hR hI (by omega) (w 1) (hw 1))
  have nx2 := nx h2 l2
  have i0 := xi_tk hB s
  clear z1 z2 l2 nx
  simp (disch := first | omega | assumption | (simp; done)) only [u_205_817, u_205_818, u_205_819, u_205_820, u_205_821, u_205_822, u_205_823, u_205_826, u_205_827, u_205_828, u_205_829, u_205_830, u_205_831, u_205_832, u_205_835, true_or, or_true, zk_li1_s, zk_ll1_s, zk_la1_r, zk_la1_n, zk_lg0, zk_lgs, zk_co_n, zk_co_i, zk_co_r, zk_co_u, zk_co_l, zk_l1_0, zk_l1_1, zk_l1_s, zk_l2_0, zk_l2_1, zk_l2_s, zk_sm0, zk_smi, zk_smr, zk_smn, zk_sml, zk_fi, zk_fz, zk_fo, zk_fn, zk_fa, zk_ts, zk_tn, zk_cases, true_and, and_true, List.getElem?_cons_zero, List.getElem?_cons_succ, List.length_cons, List.length_nil, Nat.reduceAdd, Nat.reduceLT, Nat.reduceLeDiff, List.set_cons_zero, List.set_cons_succ, va_rf, iz_lit, iz_add, i0, ic, s1, w1, w2]
  (repeat' (first | exact nx2 | apply And.intro | intro _)) <;> first | omega | (exfalso; omega) | contradiction | exact absurd trivial (by assumption) | (exfalso; simp_all; done)
theorem lc_wake (hG : GS G) (hL : LW G n x M h) (hn : 0 ≤ n ∧ n ≤ 511) (w : Int → Int) (hw : ∀ k, i32 (w k)) (sc : ∀ k, 0 ≤ k → k ≤ 4 → ∀ (h : zk_H) (P : Int32 → Prop), zk_ai G h b (iz (5 * n + k)) P ↔ P (iz (w k))) (P : Option Value → zk_H → Prop) (nx : ∀ h2, LW G (n + 1) x M h2 → zk_wp G 205 1261 [some (.ref b), some (.ref x), some (.ref M), some (.int (iz (5 * n)))] [] h2 P) : zk_wp G 205 840 [some (.ref b), some (.ref x), some (.ref M), some (.int (iz (5 * n)))] [] h P := by
  obtain ⟨B, ad, s, m, rfl, hB, hP, hd, hx0, hR, hI, z1, z2⟩ := hL
  subst hx0
  have s1 := sc 1 (by omega) (by omega)
  obtain ⟨v, h1, h2, l2, ic, w1, w2⟩ := lw_step hB hP hd z1 z2 hn (pr_wake hB hG hR hI (by omega) (w 1) (hw 1))
  have nx2 := nx h2 l2
  have i0 := xi_tk hB s
  clear z1 z2 l2 nx
  simp (disch := first | omega | assumption | (simp; done)) only [u_205_840, u_205_841, u_205_842, u_205_843, u_205_844, u_205_845, u_205_846, u_205_849, u_205_850, u_205_851, u_205_852, u_205_853, u_205_854, u_205_855, u_205_858, true_or, or_true, zk_li1_s, zk_ll1_s, zk_la1_r, zk_la1_n, zk_lg0, zk_lgs, zk_co_n, zk_co_i, zk_co_r, zk_co_u, zk_co_l, zk_l1_0, zk_l1_1, zk_l1_s, zk_l2_0, zk_l2_1, zk_l2_s, zk_sm0, zk_smi, zk_smr, zk_smn, zk_sml, zk_fi, zk_fz, zk_fo, zk_fn, zk_fa, zk_ts, zk_tn, zk_cases, true_and, and_true, List.getElem?_cons_zero, List.getElem?_cons_succ, List.length_cons, List.length_nil, Nat.reduceAdd, Nat.reduceLT, Nat.reduceLeDiff, List.set_cons_zero, List.set_cons_succ, va_rf, iz_lit, iz_add, i0, ic, s1, w1, w2]
  (repeat' (first | exact nx2 | apply And.intro | intro _)) <;> first | omega | (exfalso; omega) | contradiction | exact absurd trivial (by assumption) | (exfalso; simp_all; done)
theorem lc_deliver (hG : GS G) (hL : LW G n x M h) (hn : 0 ≤ n ∧ n ≤ 511) (w : Int → Int) (hw : ∀ k, i32 (w k)) (sc : ∀ k, 0 ≤ k → k ≤ 4 → ∀ (h : zk_H) (P : Int32 → Prop), zk_ai G h b (iz (5 * n + k)) P ↔ P (iz (w k))) (P : Option Value → zk_H → Prop) (nx : ∀ h2, LW G (n + 1) x M h2 → zk_wp G 205 1261 [some (.ref b), some (.ref x), some (.ref M), some (.int (iz (5 * n)))] [] h2 P) : zk_wp G 205 863 [some (.ref b), some (.ref x), some (.ref M), some (.int (iz (5 * n)))] [] h P := by
  obtain ⟨B, ad, s, m, rfl, hB, hP, hd, hx0, hR, hI, z1, z2⟩ := hL
  subst hx0
  have s1 := sc 1 (by omega) (by omega)
  obtain ⟨v, h1, h2, l2, ic, w1, w2⟩ := lw_step hB hP hd z1 z2 hn (pr_deliver hB hG hR hI (by omega) (w 1) (hw 1))
  have nx2 := nx h2 l2
  have i0 := xi_tk hB s
  clear z1 z2 l2 nx
  simp (disch := first | omega | assumption | (simp; done)) only [u_205_863, u_205_864, u_205_865, u_205_866, u_205_867, u_205_868, u_205_869, u_205_872, u_205_873, u_205_874, u_205_875, u_205_876, u_205_877, u_205_878, u_205_881, true_or, or_true, zk_li1_s, zk_ll1_s, zk_la1_r, zk_la1_n, zk_lg0, zk_lgs, zk_co_n, zk_co_i, zk_co_r, zk_co_u, zk_co_l, zk_l1_0, zk_l1_1, zk_l1_s, zk_l2_0, zk_l2_1, zk_l2_s, zk_sm0, zk_smi, zk_smr, zk_smn, zk_sml, zk_fi, zk_fz, zk_fo, zk_fn, zk_fa, zk_ts, zk_tn, zk_cases, true_and, and_true, List.getElem?_cons_zero, List.getElem?_cons_succ, List.length_cons, List.length_nil, Nat.reduceAdd, Nat.reduceLT, Nat.reduceLeDiff, List.set_cons_zero, List.set_cons_succ, va_rf, iz_lit, iz_add, i0, ic, s1, w1, w2]
  (repeat' (first | exact nx2 | apply And.intro | intro _)) <;> first | omega | (exfalso; omega) | contradiction | exact absurd trivial (by assumption) | (exfalso; simp_all; done)
theorem lc_flow (hG : GS G) (hL : LW G n x M h) (hn : 0 ≤ n ∧ n ≤ 511) (w : Int → Int) (hw : ∀ k, i32 (w k)) (sc : ∀ k, 0 ≤ k → k ≤ 4 → ∀ (h : zk_H) (P : Int32 → Prop), zk_ai G h b (iz (5 * n + k)) P ↔ P (iz (w k))) (P : Option Value → zk_H → Prop) (nx : ∀ h2, LW G (n + 1) x M h2 → zk_wp G 205 1261 [some (.ref b), some (.ref x), some (.ref M), some (.int (iz (5 * n)))] [] h2 P) : zk_wp G 205 886 [some (.ref b), some (.ref x), some (.ref M), some (.int (iz (5 * n)))] [] h P := by
  obtain ⟨B, ad, s, m, rfl, hB, hP, hd, hx0, hR, hI, z1, z2⟩ := hL
  subst hx0
  have s1 := sc 1 (by omega) (by omega)
  obtain ⟨v, h1, h2, l2, ic, w1, w2⟩ := lw_step hB hP hd z1 z2 hn (pr_flow hB hG hR hI (by omega) (w 1) (hw 1))
  have nx2 := nx h2 l2
  have i0 := xi_tk hB s
  clear z1 z2 l2 nx
  simp (disch := first | omega | assumption | (simp; done)) only [u_205_886, u_205_887, u_205_888, u_205_889, u_205_890, u_205_891, u_205_892, u_205_895, u_205_896, u_205_897, u_205_898, u_205_899, u_205_900, u_205_901, u_205_904, true_or, or_true, zk_li1_s, zk_ll1_s, zk_la1_r, zk_la1_n, zk_lg0, zk_lgs, zk_co_n, zk_co_i, zk_co_r, zk_co_u, zk_co_l, zk_l1_0, zk_l1_1, zk_l1_s, zk_l2_0, zk_l2_1, zk_l2_s, zk_sm0, zk_smi, zk_smr, zk_smn, zk_sml, zk_fi, zk_fz, zk_fo, zk_fn, zk_fa, zk_ts, zk_tn, zk_cases, true_and, and_true, List.getElem?_cons_zero, List.getElem?_cons_succ, List.length_cons, List.length_nil, Nat.reduceAdd, Nat.reduceLT, Nat.reduceLeDiff, List.set_cons_zero, List.set_cons_succ, va_rf, iz_lit, iz_add, i0, ic, s1, w1, w2]
  (repeat' (first | exact nx2 | apply And.intro | intro _)) <;> first | omega | (exfalso; omega) | contradiction | exact absurd trivial (by assumption) | (exfalso; simp_all; done)
theorem lc_lose (hG : GS G) (hL : LW G n x M h) (hn : 0 ≤ n ∧ n ≤ 511) (w : Int → Int) (hw : ∀ k, i32 (w k)) (sc : ∀ k, 0 ≤ k → k ≤ 4 → ∀ (h : zk_H) (P : Int32 → Prop), zk_ai G h b (iz (5 * n + k)) P ↔ P (iz (w k))) (P : Option Value → zk_H → Prop) (nx : ∀ h2, LW G (n + 1) x M h2 → zk_wp G 205 1261 [some (.ref b), some (.ref x), some (.ref M), some (.int (iz (5 * n)))] [] h2 P) : zk_wp G 205 909 [some (.ref b), some (.ref x), some (.ref M), some (.int (iz (5 * n)))] [] h P := by
  obtain ⟨B, ad, s, m, rfl, hB, hP, hd, hx0, hR, hI, z1, z2⟩ := hL
  subst hx0
  have s1 := sc 1 (by omega) (by omega)
  obtain ⟨v, h1, h2, l2, ic, w1, w2⟩ := lw_step hB hP hd z1 z2 hn (pr_lose hB hG hR hI (by omega) (w 1) (hw 1))
  have nx2 := nx h2 l2
  have i0 := xi_tk hB s
  clear z1 z2 l2 nx
  simp (disch := first | omega | assumption | (simp; done)) only [u_205_909, u_205_910, u_205_911, u_205_912, u_205_913, u_205_914, u_205_915, u_205_918, u_205_919, u_205_920, u_205_921, u_205_922, u_205_923, u_205_924, u_205_927, true_or, or_true, zk_li1_s, zk_ll1_s, zk_la1_r, zk_la1_n, zk_lg0, zk_lgs, zk_co_n, zk_co_i, zk_co_r, zk_co_u, zk_co_l, zk_l1_0, zk_l1_1, zk_l1_s, zk_l2_0, zk_l2_1, zk_l2_s, zk_sm0, zk_smi, zk_smr, zk_smn, zk_sml, zk_fi, zk_fz, zk_fo, zk_fn, zk_fa, zk_ts, zk_tn, zk_cases, true_and, and_true, List.getElem?_cons_zero, List.getElem?_cons_succ, List.length_cons, List.length_nil, Nat.reduceAdd, Nat.reduceLT, Nat.reduceLeDiff, List.set_cons_zero, List.set_cons_succ, va_rf, iz_lit, iz_add, i0, ic, s1, w1, w2]
  (repeat' (first | exact nx2 | apply And.intro | intro _)) <;> first | omega | (exfalso; omega) | contradiction | exact absurd trivial (by assumption) | (exfalso; simp_all; done)
theorem lc_twin (hG : GS G) (hL : LW G n x M h) (hn : 0 ≤ n ∧ n ≤ 511) (w : Int → Int) (hw : ∀ k, i32 (w k)) (sc : ∀ k, 0 ≤ k → k ≤ 4 → ∀ (h : zk_H) (P : Int32 → Prop), zk_ai G h b (iz (5 * n + k)) P ↔ P (iz (w k))) (P : Option Value → zk_H → Prop) (nx : ∀ h2, LW G (n + 1) x M h2 → zk_wp G 205 1261 [some (.ref b), some (.ref x), some (.ref M), some (.int (iz (5 * n)))] [] h2 P) : zk_wp G 205 932 [some (.ref b), some (.ref x), some (.ref M), some (.int (iz (5 * n)))] [] h P := by
  obtain ⟨B, ad, s, m, rfl, hB, hP, hd, hx0, hR, hI, z1, z2⟩ := hL
  subst hx0
  have s1 := sc 1 (by omega) (by omega)
  obtain ⟨v, h1, h2, l2, ic, w1, w2⟩ := lw_step hB hP hd z1 z2 hn (pr_twin hB hG hR hI (by omega) (w 1) (hw 1))
  have nx2 := nx h2 l2
  have i0 := xi_tk hB s
  clear z1 z2 l2 nx
  simp (disch := first | omega | assumption | (simp; done)) only [u_205_932, u_205_933, u_205_934, u_205_935, u_205_936, u_205_937, u_205_938, u_205_941, u_205_942, u_205_943, u_205_944, u_205_945, u_205_946, u_205_947, u_205_950, true_or, or_true, zk_li1_s, zk_ll1_s, zk_la1_r, zk_la1_n, zk_lg0, zk_lgs, zk_co_n, zk_co_i, zk_co_r, zk_co_u, zk_co_l, zk_l1_0, zk_l1_1, zk_l1_s, zk_l2_0, zk_l2_1, zk_l2_s, zk_sm0, zk_smi, zk_smr, zk_smn, zk_sml, zk_fi, zk_fz, zk_fo, zk_fn, zk_fa, zk_ts, zk_tn, zk_cases, true_and, and_true, List.getElem?_cons_zero, List.getElem?_cons_succ, List.length_cons, List.length_nil, Nat.reduceAdd, Nat.reduceLT, Nat.reduceLeDiff, List.set_cons_zero, List.set_cons_succ, va_rf, iz_lit, iz_add, i0, ic, s1, w1, w2]
  (repeat' (first | exact nx2 | apply And.intro | intro _)) <;> first | omega | (exfalso; omega) | contradiction | exact absurd trivial (by assumption) | (exfalso; simp_all; done)
theorem lc_letter (hG : GS G) (hL : LW G n x M h) (hn : 0 ≤ n ∧ n ≤ 511) (w : Int → Int) (hw : ∀ k, i32 (w k)) (sc : ∀ k, 0 ≤ k → k ≤ 4 → ∀ (h : zk_H) (P : Int32 → Prop), zk_ai G h b (iz (5 * n + k)) P ↔ P (iz (w k))) (P : Option Value → zk_H → Prop) (nx : ∀ h2, LW G (n + 1) x M h2 → zk_wp G 205 1261 [some (.ref b), some (.ref x), some (.ref M), some (.int (iz (5 * n)))] [] h2 P) : zk_wp G 205 955 [some (.ref b), some (.ref x), some (.ref M), some (.int (iz (5 * n)))] [] h P := by
  obtain ⟨B, ad, s, m, rfl, hB, hP, hd, hx0, hR, hI, z1, z2⟩ := hL
  subst hx0
  have s1 := sc 1 (by omega) (by omega)
  have s2 := sc 2 (by omega) (by omega)
  obtain ⟨v, h1, h2, l2, ic, w1, w2⟩ := lw_step hB hP hd z1 z2 hn (pr_letter hB hG hR hI (by omega) (w 1) (w 2) (hw 1) (hw 2))
  have nx2 := nx h2 l2
  have i0 := xi_tk hB s
  clear z1 z2 l2 nx
  simp (disch := first | omega | assumption | (simp; done)) only [u_205_955, u_205_956, u_205_957, u_205_958, u_205_959, u_205_960, u_205_961, u_205_962, u_205_963, u_205_964, u_205_965, u_205_966, u_205_969, u_205_970, u_205_971, u_205_972, u_205_973, u_205_974, u_205_975, u_205_976, u_205_977, u_205_978, u_205_979, u_205_980, u_205_983, true_or, or_true, zk_li1_s, zk_ll1_s, zk_la1_r, zk_la1_n, zk_lg0, zk_lgs, zk_co_n, zk_co_i, zk_co_r, zk_co_u, zk_co_l, zk_l1_0, zk_l1_1, zk_l1_s, zk_l2_0, zk_l2_1, zk_l2_s, zk_sm0, zk_smi, zk_smr, zk_smn, zk_sml, zk_fi, zk_fz, zk_fo, zk_fn, zk_fa, zk_ts, zk_tn, zk_cases, true_and, and_true, List.getElem?_cons_zero, List.getElem?_cons_succ, List.length_cons, List.length_nil, Nat.reduceAdd, Nat.reduceLT, Nat.reduceLeDiff, List.set_cons_zero, List.set_cons_succ, va_rf, iz_lit, iz_add, i0, ic, s1, s2, w1, w2]
  (repeat' (first | exact nx2 | apply And.intro | intro _)) <;> first | omega | (exfalso; omega) | contradiction | exact absurd trivial (by assumption) | (exfalso; simp_all; done)
theorem lc_crash (hG : GS G) (hL : LW G n x M h) (hn : 0 ≤ n ∧ n ≤ 511) (w : Int → Int) (hw : ∀ k, i32 (w k)) (sc : ∀ k, 0 ≤ k → k ≤ 4 → ∀ (h : zk_H) (P : Int32 → Prop), zk_ai G h b (iz (5 * n + k)) P ↔ P (iz (w k))) (P : Option Value → zk_H → Prop) (nx : ∀ h2, LW G (n + 1) x M h2 → zk_wp G 205 1261 [some (.ref b), some (.ref x), some (.ref M), some (.int (iz (5 * n)))] [] h2 P) : zk_wp G 205 988 [some (.ref b), some (.ref x), some (.ref M), some (.int (iz (5 * n)))] [] h P := by
  obtain ⟨B, ad, s, m, rfl, hB, hP, hd, hx0, hR, hI, z1, z2⟩ := hL
  subst hx0
  have s1 := sc 1 (by omega) (by omega)
  obtain ⟨v, h1, h2, l2, ic, w1, w2⟩ := lw_step hB hP hd z1 z2 hn (pr_crash hB hG hR hI (by omega) (w 1) (hw 1))
  have nx2 := nx h2 l2
  have i0 := xi_tk hB s
  clear z1 z2 l2 nx
  simp (disch := first | omega | assumption | (simp; done)) only [u_205_988, u_205_989, u_205_990, u_205_991, u_205_992, u_205_993, u_205_994, u_205_997, u_205_998, u_205_999, u_205_1000, u_205_1001, u_205_1002, u_205_1003, u_205_1006, true_or, or_true, zk_li1_s, zk_ll1_s, zk_la1_r, zk_la1_n, zk_lg0, zk_lgs, zk_co_n, zk_co_i, zk_co_r, zk_co_u, zk_co_l, zk_l1_0, zk_l1_1, zk_l1_s, zk_l2_0, zk_l2_1, zk_l2_s, zk_sm0, zk_smi, zk_smr, zk_smn, zk_sml, zk_fi, zk_fz, zk_fo, zk_fn, zk_fa, zk_ts, zk_tn, zk_cases, true_and, and_true, List.getElem?_cons_zero, List.getElem?_cons_succ, List.length_cons, List.length_nil, Nat.reduceAdd, Nat.reduceLT, Nat.reduceLeDiff, List.set_cons_zero, List.set_cons_succ, va_rf, iz_lit, iz_add, i0, ic, s1, w1, w2]
  (repeat' (first | exact nx2 | apply And.intro | intro _)) <;> first | omega | (exfalso; omega) | contradiction | exact absurd trivial (by assumption) | (exfalso; simp_all; done)
theorem lc_restart (hG : GS G) (hL : LW G n x M h) (hn : 0 ≤ n ∧ n ≤ 511) (w : Int → Int) (hw : ∀ k, i32 (w k)) (sc : ∀ k, 0 ≤ k → k ≤ 4 → ∀ (h : zk_H) (P : Int32 → Prop), zk_ai G h b (iz (5 * n + k)) P ↔ P (iz (w k))) (P : Option Value → zk_H → Prop) (nx : ∀ h2, LW G (n + 1) x M h2 → zk_wp G 205 1261 [some (.ref b), some (.ref x), some (.ref M), some (.int (iz (5 * n)))] [] h2 P) : zk_wp G 205 1011 [some (.ref b), some (.ref x), some (.ref M), some (.int (iz (5 * n)))] [] h P := by
  obtain ⟨B, ad, s, m, rfl, hB, hP, hd, hx0, hR, hI, z1, z2⟩ := hL
  subst hx0
  have s1 := sc 1 (by omega) (by omega)
  obtain ⟨v, h1, h2, l2, ic, w1, w2⟩ := lw_step hB hP hd z1 z2 hn (pr_restart hB hG hR hI (by omega) (w 1) (hw 1))
  have nx2 := nx h2 l2
  have i0 := xi_tk hB s
  clear z1 z2 l2 nx
  simp (disch := first | omega | assumption | (simp; done)) only [u_205_1011, u_205_1012, u_205_1013, u_205_1014, u_205_1015, u_205_1016, u_205_1017, u_205_1020, u_205_1021, u_205_1022, u_205_1023, u_205_1024, u_205_1025, u_205_1026, u_205_1029, true_or, or_true, zk_li1_s, zk_ll1_s, zk_la1_r, zk_la1_n, zk_lg0, zk_lgs, zk_co_n, zk_co_i, zk_co_r, zk_co_u, zk_co_l, zk_l1_0, zk_l1_1, zk_l1_s, zk_l2_0, zk_l2_1, zk_l2_s, zk_sm0, zk_smi, zk_smr, zk_smn, zk_sml, zk_fi, zk_fz, zk_fo, zk_fn, zk_fa, zk_ts, zk_tn, zk_cases, true_and, and_true, List.getElem?_cons_zero, List.getElem?_cons_succ, List.length_cons, List.length_nil, Nat.reduceAdd, Nat.reduceLT, Nat.reduceLeDiff, List.set_cons_zero, List.set_cons_succ, va_rf, iz_lit, iz_add, i0, ic, s1, w1, w2]
  (repeat' (first | exact nx2 | apply And.intro | intro _)) <;> first | omega | (exfalso; omega) | contradiction | exact absurd trivial (by assumption) | (exfalso; simp_all; done)
theorem lc_desk (hG : GS G) (hL : LW G n x M h) (hn : 0 ≤ n ∧ n ≤ 511) (w : Int → Int) (hw : ∀ k, i32 (w k)) (sc : ∀ k, 0 ≤ k → k ≤ 4 → ∀ (h : zk_H) (P : Int32 → Prop), zk_ai G h b (iz (5 * n + k)) P ↔ P (iz (w k))) (P : Option Value → zk_H → Prop) (nx : ∀ h2, LW G (n + 1) x M h2 → zk_wp G 205 1261 [some (.ref b), some (.ref x), some (.ref M), some (.int (iz (5 * n)))] [] h2 P) : zk_wp G 205 1034 [some (.ref b), some (.ref x), some (.ref M), some (.int (iz (5 * n)))] [] h P := by
  obtain ⟨B, ad, s, m, rfl, hB, hP, hd, hx0, hR, hI, z1, z2⟩ := hL
  subst hx0
  have s1 := sc 1 (by omega) (by omega)
  have s2 := sc 2 (by omega) (by omega)
  have r2 : -2147483648 ≤ w 2 ∧ w 2 ≤ 2147483647 := hw 2
  by_cases c : w 2 = 0
  · obtain ⟨v, h1, h2, l2, ic, w1, w2⟩ := lw_step hB hP hd z1 z2 hn (pr_desk hB hG hR hI (by omega) (w 1) 0 (hw 1) ⟨by omega, by omega⟩ (Or.inl rfl))
    have nx2 := nx h2 l2
    have i0 := xi_tk hB s
    clear z1 z2 l2 nx
    simp (disch := first | omega | assumption | (simp; done)) only [u_205_1034, u_205_1035, u_205_1036, u_205_1037, u_205_1038, u_205_1039, u_205_1040, u_205_1041, u_205_1042, u_205_1043, u_205_1044, u_205_1045, u_205_1048, u_205_1049, u_205_1052, u_205_1053, u_205_1056, u_205_1057, u_205_1058, u_205_1059, u_205_1060, u_205_1061, u_205_1062, u_205_1063, u_205_1064, u_205_1065, u_205_1066, u_205_1067, u_205_1070, u_205_1071, u_205_1074, u_205_1075, u_205_1078, true_or, or_true, zk_li1_s, zk_ll1_s, zk_la1_r, zk_la1_n, zk_lg0, zk_lgs, zk_co_n, zk_co_i, zk_co_r, zk_co_u, zk_co_l, zk_l1_0, zk_l1_1, zk_l1_s, zk_l2_0, zk_l2_1, zk_l2_s, zk_sm0, zk_smi, zk_smr, zk_smn, zk_sml, zk_fi, zk_fz, zk_fo, zk_fn, zk_fa, zk_ts, zk_tn, zk_cases, true_and, and_true, List.getElem?_cons_zero, List.getElem?_cons_succ, List.length_cons, List.length_nil, Nat.reduceAdd, Nat.reduceLT, Nat.reduceLeDiff, List.set_cons_zero, List.set_cons_succ, va_rf, iz_lit, iz_add, i0, ic, s1, s2, iz_inj, c, w1, w2]
    (repeat' (first | exact nx2 | apply And.intro | intro _)) <;> first | omega | (exfalso; omega) | contradiction | exact absurd trivial (by assumption) | (exfalso; simp_all; done)
  · obtain ⟨v, h1, h2, l2, ic, w1, w2⟩ := lw_step hB hP hd z1 z2 hn (pr_desk hB hG hR hI (by omega) (w 1) 1 (hw 1) ⟨by omega, by omega⟩ (Or.inr rfl))
    have nx2 := nx h2 l2
    have i0 := xi_tk hB s
    clear z1 z2 l2 nx
    simp (disch := first | omega | assumption | (simp; done)) only [u_205_1034, u_205_1035, u_205_1036, u_205_1037, u_205_1038, u_205_1039, u_205_1040, u_205_1041, u_205_1042, u_205_1043, u_205_1044, u_205_1045, u_205_1048, u_205_1049, u_205_1052, u_205_1053, u_205_1056, u_205_1057, u_205_1058, u_205_1059, u_205_1060, u_205_1061, u_205_1062, u_205_1063, u_205_1064, u_205_1065, u_205_1066, u_205_1067, u_205_1070, u_205_1071, u_205_1074, u_205_1075, u_205_1078, true_or, or_true, zk_li1_s, zk_ll1_s, zk_la1_r, zk_la1_n, zk_lg0, zk_lgs, zk_co_n, zk_co_i, zk_co_r, zk_co_u, zk_co_l, zk_l1_0, zk_l1_1, zk_l1_s, zk_l2_0, zk_l2_1, zk_l2_s, zk_sm0, zk_smi, zk_smr, zk_smn, zk_sml, zk_fi, zk_fz, zk_fo, zk_fn, zk_fa, zk_ts, zk_tn, zk_cases, true_and, and_true, List.getElem?_cons_zero, List.getElem?_cons_succ, List.length_cons, List.length_nil, Nat.reduceAdd, Nat.reduceLT, Nat.reduceLeDiff, List.set_cons_zero, List.set_cons_succ, va_rf, iz_lit, iz_add, i0, ic, s1, s2, iz_inj, w1, w2]
    (repeat' (first | exact nx2 | apply And.intro | intro _)) <;> first | omega | (exfalso; omega) | contradiction | exact absurd trivial (by assumption) | (exfalso; simp_all; done)
theorem lc_register (hG : GS G) (hL : LW G n x M h) (hn : 0 ≤ n ∧ n ≤ 511) (w : Int → Int) (hw : ∀ k, i32 (w k)) (sc : ∀ k, 0 ≤ k → k ≤ 4 → ∀ (h : zk_H) (P : Int32 → Prop), zk_ai G h b (iz (5 * n + k)) P ↔ P (iz (w k))) (P : Option Value → zk_H → Prop) (nx : ∀ h2, LW G (n + 1) x M h2 → zk_wp G 205 1261 [some (.ref b), some (.ref x), some (.ref M), some (.int (iz (5 * n)))] [] h2 P) : zk_wp G 205 1083 [some (.ref b), some (.ref x), some (.ref M), some (.int (iz (5 * n)))] [] h P := by
  obtain ⟨B, ad, s, m, rfl, hB, hP, hd, hx0, hR, hI, z1, z2⟩ := hL
  subst hx0
  have s1 := sc 1 (by omega) (by omega)
  have s2 := sc 2 (by omega) (by omega)
  have s3 := sc 3 (by omega) (by omega)
  obtain ⟨v, h1, h2, l2, ic, w1, w2⟩ := lw_step hB hP hd z1 z2 hn (pr_register hB hG hR hI (by omega) (w 1) (w 2) (w 3) (hw 1) (hw 2) (hw 3))
  have nx2 := nx h2 l2
  have i0 := xi_tk hB s
  clear z1 z2 l2 nx
  simp (disch := first | omega | assumption | (simp; done)) only [u_205_1083, u_205_1084, u_205_1085, u_205_1086, u_205_1087, u_205_1088, u_205_1089, u_205_1090, u_205_1091, u_205_1092, u_205_1093, u_205_1094, u_205_1095, u_205_1096, u_205_1097, u_205_1098, u_205_1099, u_205_1102, u_205_1103, u_205_1104, u_205_1105, u_205_1106, u_205_1107, u_205_1108, u_205_1109, u_205_1110, u_205_1111, u_205_1112, u_205_1113, u_205_1114, u_205_1115, u_205_1116, u_205_1117, u_205_1118, u_205_1121, true_or, or_true, zk_li1_s, zk_ll1_s, zk_la1_r, zk_la1_n, zk_lg0, zk_lgs, zk_co_n, zk_co_i, zk_co_r, zk_co_u, zk_co_l, zk_l1_0, zk_l1_1, zk_l1_s, zk_l2_0, zk_l2_1, zk_l2_s, zk_sm0, zk_smi, zk_smr, zk_smn, zk_sml, zk_fi, zk_fz, zk_fo, zk_fn, zk_fa, zk_ts, zk_tn, zk_cases, true_and, and_true, List.getElem?_cons_zero, List.getElem?_cons_succ, List.length_cons, List.length_nil, Nat.reduceAdd, Nat.reduceLT, Nat.reduceLeDiff, List.set_cons_zero, List.set_cons_succ, va_rf, iz_lit, iz_add, i0, ic, s1, s2, s3, w1, w2]
  (repeat' (first | exact nx2 | apply And.intro | intro _)) <;> first | omega | (exfalso; omega) | contradiction | exact absurd trivial (by assumption) | (exfalso; simp_all; done)
theorem lc_effects (hG : GS G) (hL : LW G n x M h) (hn : 0 ≤ n ∧ n ≤ 511) (w : Int → Int) (hw : ∀ k, i32 (w k)) (sc : ∀ k, 0 ≤ k → k ≤ 4 → ∀ (h : zk_H) (P : Int32 → Prop), zk_ai G h b (iz (5 * n + k)) P ↔ P (iz (w k))) (P : Option Value → zk_H → Prop) (nx : ∀ h2, LW G (n + 1) x M h2 → zk_wp G 205 1261 [some (.ref b), some (.ref x), some (.ref M), some (.int (iz (5 * n)))] [] h2 P) : zk_wp G 205 1126 [some (.ref b), some (.ref x), some (.ref M), some (.int (iz (5 * n)))] [] h P := by
  obtain ⟨B, ad, s, m, rfl, hB, hP, hd, hx0, hR, hI, z1, z2⟩ := hL
  subst hx0
  have s1 := sc 1 (by omega) (by omega)
  obtain ⟨v, h1, h2, l2, ic, w1, w2⟩ := lw_step hB hP hd z1 z2 hn (pr_effects hB hG hR hI (by omega) (w 1) (hw 1))
  have nx2 := nx h2 l2
  have i0 := xi_tk hB s
  clear z1 z2 l2 nx
  simp (disch := first | omega | assumption | (simp; done)) only [u_205_1126, u_205_1127, u_205_1128, u_205_1129, u_205_1130, u_205_1131, u_205_1132, u_205_1135, u_205_1136, u_205_1137, u_205_1138, u_205_1139, u_205_1140, u_205_1141, u_205_1144, true_or, or_true, zk_li1_s, zk_ll1_s, zk_la1_r, zk_la1_n, zk_lg0, zk_lgs, zk_co_n, zk_co_i, zk_co_r, zk_co_u, zk_co_l, zk_l1_0, zk_l1_1, zk_l1_s, zk_l2_0, zk_l2_1, zk_l2_s, zk_sm0, zk_smi, zk_smr, zk_smn, zk_sml, zk_fi, zk_fz, zk_fo, zk_fn, zk_fa, zk_ts, zk_tn, zk_cases, true_and, and_true, List.getElem?_cons_zero, List.getElem?_cons_succ, List.length_cons, List.length_nil, Nat.reduceAdd, Nat.reduceLT, Nat.reduceLeDiff, List.set_cons_zero, List.set_cons_succ, va_rf, iz_lit, iz_add, i0, ic, s1, w1, w2]
  (repeat' (first | exact nx2 | apply And.intro | intro _)) <;> first | omega | (exfalso; omega) | contradiction | exact absurd trivial (by assumption) | (exfalso; simp_all; done)
theorem lc_effect (hG : GS G) (hL : LW G n x M h) (hn : 0 ≤ n ∧ n ≤ 511) (w : Int → Int) (hw : ∀ k, i32 (w k)) (sc : ∀ k, 0 ≤ k → k ≤ 4 → ∀ (h : zk_H) (P : Int32 → Prop), zk_ai G h b (iz (5 * n + k)) P ↔ P (iz (w k))) (P : Option Value → zk_H → Prop) (nx : ∀ h2, LW G (n + 1) x M h2 → zk_wp G 205 1261 [some (.ref b), some (.ref x), some (.ref M), some (.int (iz (5 * n)))] [] h2 P) : zk_wp G 205 1149 [some (.ref b), some (.ref x), some (.ref M), some (.int (iz (5 * n)))] [] h P := by
  obtain ⟨B, ad, s, m, rfl, hB, hP, hd, hx0, hR, hI, z1, z2⟩ := hL
  subst hx0
  have s1 := sc 1 (by omega) (by omega)
  have s2 := sc 2 (by omega) (by omega)
  have s3 := sc 3 (by omega) (by omega)
  obtain ⟨v, h1, h2, l2, ic, w1, w2⟩ := lw_step hB hP hd z1 z2 hn (pr_effect hB hG hR hI (by omega) (w 1) (w 2) (w 3) (hw 1) (hw 2) (hw 3))
  have nx2 := nx h2 l2
  have i0 := xi_tk hB s
  clear z1 z2 l2 nx
  simp (disch := first | omega | assumption | (simp; done)) only [u_205_1149, u_205_1150, u_205_1151, u_205_1152, u_205_1153, u_205_1154, u_205_1155, u_205_1156, u_205_1157, u_205_1158, u_205_1159, u_205_1160, u_205_1161, u_205_1162, u_205_1163, u_205_1164, u_205_1165, u_205_1168, u_205_1169, u_205_1170, u_205_1171, u_205_1172, u_205_1173, u_205_1174, u_205_1175, u_205_1176, u_205_1177, u_205_1178, u_205_1179, u_205_1180, u_205_1181, u_205_1182, u_205_1183, u_205_1184, u_205_1187, true_or, or_true, zk_li1_s, zk_ll1_s, zk_la1_r, zk_la1_n, zk_lg0, zk_lgs, zk_co_n, zk_co_i, zk_co_r, zk_co_u, zk_co_l, zk_l1_0, zk_l1_1, zk_l1_s, zk_l2_0, zk_l2_1, zk_l2_s, zk_sm0, zk_smi, zk_smr, zk_smn, zk_sml, zk_fi, zk_fz, zk_fo, zk_fn, zk_fa, zk_ts, zk_tn, zk_cases, true_and, and_true, List.getElem?_cons_zero, List.getElem?_cons_succ, List.length_cons, List.length_nil, Nat.reduceAdd, Nat.reduceLT, Nat.reduceLeDiff, List.set_cons_zero, List.set_cons_succ, va_rf, iz_lit, iz_add, i0, ic, s1, s2, s3, w1, w2]
  (repeat' (first | exact nx2 | apply And.intro | intro _)) <;> first | omega | (exfalso; omega) | contradiction | exact absurd trivial (by assumption) | (exfalso; simp_all; done)
theorem lc_waiting (hG : GS G) (hL : LW G n x M h) (hn : 0 ≤ n ∧ n ≤ 511) (w : Int → Int) (hw : ∀ k, i32 (w k)) (sc : ∀ k, 0 ≤ k → k ≤ 4 → ∀ (h : zk_H) (P : Int32 → Prop), zk_ai G h b (iz (5 * n + k)) P ↔ P (iz (w k))) (P : Option Value → zk_H → Prop) (nx : ∀ h2, LW G (n + 1) x M h2 → zk_wp G 205 1261 [some (.ref b), some (.ref x), some (.ref M), some (.int (iz (5 * n)))] [] h2 P) : zk_wp G 205 1192 [some (.ref b), some (.ref x), some (.ref M), some (.int (iz (5 * n)))] [] h P := by
  obtain ⟨B, ad, s, m, rfl, hB, hP, hd, hx0, hR, hI, z1, z2⟩ := hL
  subst hx0
  have s1 := sc 1 (by omega) (by omega)
  obtain ⟨v, h1, h2, l2, ic, w1, w2⟩ := lw_step hB hP hd z1 z2 hn (pr_waiting hB hG hR hI (by omega) (w 1) (hw 1))
  have nx2 := nx h2 l2
  have i0 := xi_tk hB s
  clear z1 z2 l2 nx
  simp (disch := first | omega | assumption | (simp; done)) only [u_205_1192, u_205_1193, u_205_1194, u_205_1195, u_205_1196, u_205_1197, u_205_1198, u_205_1201, u_205_1202, u_205_1203, u_205_1204, u_205_1205, u_205_1206, u_205_1207, u_205_1210, true_or, or_true, zk_li1_s, zk_ll1_s, zk_la1_r, zk_la1_n, zk_lg0, zk_lgs, zk_co_n, zk_co_i, zk_co_r, zk_co_u, zk_co_l, zk_l1_0, zk_l1_1, zk_l1_s, zk_l2_0, zk_l2_1, zk_l2_s, zk_sm0, zk_smi, zk_smr, zk_smn, zk_sml, zk_fi, zk_fz, zk_fo, zk_fn, zk_fa, zk_ts, zk_tn, zk_cases, true_and, and_true, List.getElem?_cons_zero, List.getElem?_cons_succ, List.length_cons, List.length_nil, Nat.reduceAdd, Nat.reduceLT, Nat.reduceLeDiff, List.set_cons_zero, List.set_cons_succ, va_rf, iz_lit, iz_add, i0, ic, s1, w1, w2]
  (repeat' (first | exact nx2 | apply And.intro | intro _)) <;> first | omega | (exfalso; omega) | contradiction | exact absurd trivial (by assumption) | (exfalso; simp_all; done)
theorem lc_passed (hG : GS G) (hL : LW G n x M h) (hn : 0 ≤ n ∧ n ≤ 511) (w : Int → Int) (hw : ∀ k, i32 (w k)) (sc : ∀ k, 0 ≤ k → k ≤ 4 → ∀ (h : zk_H) (P : Int32 → Prop), zk_ai G h b (iz (5 * n + k)) P ↔ P (iz (w k))) (P : Option Value → zk_H → Prop) (nx : ∀ h2, LW G (n + 1) x M h2 → zk_wp G 205 1261 [some (.ref b), some (.ref x), some (.ref M), some (.int (iz (5 * n)))] [] h2 P) : zk_wp G 205 1215 [some (.ref b), some (.ref x), some (.ref M), some (.int (iz (5 * n)))] [] h P := by
  obtain ⟨B, ad, s, m, rfl, hB, hP, hd, hx0, hR, hI, z1, z2⟩ := hL
  subst hx0
  have s1 := sc 1 (by omega) (by omega)
  obtain ⟨v, h1, h2, l2, ic, w1, w2⟩ := lw_step hB hP hd z1 z2 hn (pr_passed hB hG hR hI (by omega) (w 1) (hw 1))
  have nx2 := nx h2 l2
  have i0 := xi_tk hB s
  clear z1 z2 l2 nx
  simp (disch := first | omega | assumption | (simp; done)) only [u_205_1215, u_205_1216, u_205_1217, u_205_1218, u_205_1219, u_205_1220, u_205_1221, u_205_1224, u_205_1225, u_205_1226, u_205_1227, u_205_1228, u_205_1229, u_205_1230, u_205_1233, true_or, or_true, zk_li1_s, zk_ll1_s, zk_la1_r, zk_la1_n, zk_lg0, zk_lgs, zk_co_n, zk_co_i, zk_co_r, zk_co_u, zk_co_l, zk_l1_0, zk_l1_1, zk_l1_s, zk_l2_0, zk_l2_1, zk_l2_s, zk_sm0, zk_smi, zk_smr, zk_smn, zk_sml, zk_fi, zk_fz, zk_fo, zk_fn, zk_fa, zk_ts, zk_tn, zk_cases, true_and, and_true, List.getElem?_cons_zero, List.getElem?_cons_succ, List.length_cons, List.length_nil, Nat.reduceAdd, Nat.reduceLT, Nat.reduceLeDiff, List.set_cons_zero, List.set_cons_succ, va_rf, iz_lit, iz_add, i0, ic, s1, w1, w2]
  (repeat' (first | exact nx2 | apply And.intro | intro _)) <;> first | omega | (exfalso; omega) | contradiction | exact absurd trivial (by assumption) | (exfalso; simp_all; done)
theorem lc_count (hG : GS G) (hL : LW G n x M h) (hn : 0 ≤ n ∧ n ≤ 511) (w : Int → Int) (hw : ∀ k, i32 (w k)) (sc : ∀ k, 0 ≤ k → k ≤ 4 → ∀ (h : zk_H) (P : Int32 → Prop), zk_ai G h b (iz (5 * n + k)) P ↔ P (iz (w k))) (P : Option Value → zk_H → Prop) (nx : ∀ h2, LW G (n + 1) x M h2 → zk_wp G 205 1261 [some (.ref b), some (.ref x), some (.ref M), some (.int (iz (5 * n)))] [] h2 P) : zk_wp G 205 1238 [some (.ref b), some (.ref x), some (.ref M), some (.int (iz (5 * n)))] [] h P := by
  obtain ⟨B, ad, s, m, rfl, hB, hP, hd, hx0, hR, hI, z1, z2⟩ := hL
  subst hx0
  have s1 := sc 1 (by omega) (by omega)
  obtain ⟨v, h1, h2, l2, ic, w1, w2⟩ := lw_step hB hP hd z1 z2 hn (pr_count hB hG hR hI (by omega) (w 1) (hw 1))
  have nx2 := nx h2 l2
  have i0 := xi_tk hB s
  clear z1 z2 l2 nx
  simp (disch := first | omega | assumption | (simp; done)) only [u_205_1238, u_205_1239, u_205_1240, u_205_1241, u_205_1242, u_205_1243, u_205_1244, u_205_1247, u_205_1248, u_205_1249, u_205_1250, u_205_1251, u_205_1252, u_205_1253, u_205_1256, true_or, or_true, zk_li1_s, zk_ll1_s, zk_la1_r, zk_la1_n, zk_lg0, zk_lgs, zk_co_n, zk_co_i, zk_co_r, zk_co_u, zk_co_l, zk_l1_0, zk_l1_1, zk_l1_s, zk_l2_0, zk_l2_1, zk_l2_s, zk_sm0, zk_smi, zk_smr, zk_smn, zk_sml, zk_fi, zk_fz, zk_fo, zk_fn, zk_fa, zk_ts, zk_tn, zk_cases, true_and, and_true, List.getElem?_cons_zero, List.getElem?_cons_succ, List.length_cons, List.length_nil, Nat.reduceAdd, Nat.reduceLT, Nat.reduceLeDiff, List.set_cons_zero, List.set_cons_succ, va_rf, iz_lit, iz_add, i0, ic, s1, w1, w2]
  (repeat' (first | exact nx2 | apply And.intro | intro _)) <;> first | omega | (exfalso; omega) | contradiction | exact absurd trivial (by assumption) | (exfalso; simp_all; done)
end LCS
