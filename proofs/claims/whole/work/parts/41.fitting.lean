/-! Rule.fitting -/
theorem wz_mask {n : Nat} {k : Int} (hn : n < 2 ^ 64) (hk : 0 ≤ k ∧ k < 60) : lN n &&& (lN 2 <<< ((iz k).toInt64 &&& 63) - lN 1) = lN (n % 2 ^ (k.toNat + 1)) := by
  rw [wz_shl 2 (by omega)]
  have e : 2 * 2 ^ k.toNat = 2 ^ (k.toNat + 1) := by rw [Nat.pow_succ, Nat.mul_comm]
  rw [e, lN_sub1 Nat.one_le_two_pow, wb_mask hn (by omega)]
theorem ljt2 : (2 : Int64) = lN 2 := rfl
theorem ljt7 : (541098242 : Int64) = lN 541098242 := rfl
section FT
variable {G : zk_G} {h : zk_H} {a za : Nat} {ms : Nat → Nat} {nw nn ex xt : List Int} {way : Int}
theorem c_fitting (hp : rup G h a za ms nw nn ex xt way) (hk : rok ms nw nn ex xt way) (mi st len : Int) (hmi : -100000 ≤ mi ∧ mi ≤ 100000) (hst : -100000 ≤ st ∧ st ≤ 100000) (hlen : 28 ≤ len ∧ len ≤ 31) : ∃ B : Nat, B < 2 ^ 32 ∧ (∀ i, B.testBit i = fbit ms nw nn mi st len i) ∧ ∀ Q : Option Value → zk_H → Prop, zk_wp G 33 0 [some (.ref a), some (.int (iz mi)), some (.int (iz st)), some (.int (iz len)), none, none, none, none, none, none] [] h Q ↔ Q (some (.long (lN B))) h := by
  obtain ⟨am, a1, i1, c1, a2, i2, c2, a3, i3, c3, a4, i4, c4, fm, p1, p2, p3, p4, p5, p6, p7⟩ := hp
  obtain ⟨k0, k1, k2, k3, k4, k5, k6, k7, k8, -, -, -, -, -, -, k9⟩ := hk
  have q2 := zk_ar_rd p2
  obtain ⟨q3, q4⟩ := rwz_rd p4
  have q5 := (rwz_rd p5).1
  have ic1 := zk_ic_rd q3
  have ic2 := zk_ic_rd q5
  have t1 := c_atz p4
  have t2 := c_atz p5
  have d2 : (iz 2).toInt = 2 := rfl
  have d3 : (iz 3).toInt = 3 := rfl
  have d4 : (iz 4).toInt = 4 := rfl
  have n2 : (2 : Int).toNat = 2 := rfl
  have n3 : (3 : Int).toNat = 3 := rfl
  have n4 : (4 : Int).toNat = 4 := rfl
  have f2 := p3 2 (by decide)
  have f3 := p3 3 (by decide)
  have f4 := p3 4 (by decide)
  have hz7 : ¬ iz 7 = (0 : Int32) := by decide
  have fm12 := c_fmk G 12 (by omega) h
  have fm7 := c_fmk G 7 (by omega) h
  have m3 : ms 3 < 2 ^ 63 := by omega
  have m4 : ms 4 < 2 ^ 63 := by omega
  have m3d : ∀ e : Nat, ms 3 / 2 ^ e % 2 < 2 ^ 63 := fun e => by omega
  have m4d : ∀ e : Nat, ms 4 / 2 ^ e % 2 < 2 ^ 63 := fun e => by omega
  have j2 : (0 : Int) ≤ 2 ∧ (2 : Int) < ((5 : Nat) : Int) := by omega
  have j3 : (0 : Int) ≤ 3 ∧ (3 : Int) < ((5 : Nat) : Int) := by omega
  have j4 : (0 : Int) ≤ 4 ∧ (4 : Int) < ((5 : Nat) : Int) := by omega
  suffices hw : zk_wp G 33 0 [some (.ref a), some (.int (iz mi)), some (.int (iz st)), some (.int (iz len)), none, none, none, none, none, none] [] h (fun r h' => h' = h ∧ ∃ B : Nat, B < 2 ^ 32 ∧ (∀ i, B.testBit i = fbit ms nw nn mi st len i) ∧ r = some (.long (lN B))) by
    obtain ⟨r0, h0, ⟨rfl, B, b1, b2, rfl⟩, b3⟩ := zk_some hw
    exact ⟨B, b1, b2, b3⟩
  generalize hQ : (fun (r : Option Value) (h' : zk_H) => h' = h ∧ ∃ B : Nat, B < 2 ^ 32 ∧ (∀ i, B.testBit i = fbit ms nw nn mi st len i) ∧ r = some (.long (lN B))) = Q
  -- the second loop
  have loop2 : (ms 3).testBit (mi % 12 + 1).toNat = true → ∀ (n k acc : Nat) (o8 o9 : Option Value), k + n = nw.length → fP2 ms nw nn st len k acc → acc.testBit 0 = false → zk_wp G 33 100 [some (.ref a), some (.int (iz mi)), some (.int (iz st)), some (.int (iz len)), some (.int (iz ((st + 5) % 7))), some (.long (lN acc)), none, some (.int (iz k)), o8, o9] [] h Q := by
    intro hm n
    induction n with
    | zero =>
      intro k acc o8 o9 hkn hacc ha0
      have hacc1 := hacc.1
      rw [u_33_100]
      simp (disch := first | omega | assumption | (simp; done)) only [u_33_0, u_33_1, u_33_4, u_33_5, u_33_6, u_33_7, u_33_9, u_33_12, u_33_13, u_33_14, u_33_15, u_33_16, u_33_17, u_33_18, u_33_19, u_33_22, u_33_23, u_33_24, u_33_25, u_33_26, u_33_27, u_33_29, u_33_32, u_33_34, u_33_35, u_33_37, u_33_38, u_33_40, u_33_42, u_33_44, u_33_47, u_33_48, u_33_51, u_33_52, u_33_53, u_33_55, u_33_57, u_33_58, u_33_60, u_33_61, u_33_62, u_33_63, u_33_64, u_33_65, u_33_66, u_33_69, u_33_71, u_33_74, u_33_76, u_33_77, u_33_78, u_33_80, u_33_83, u_33_86, u_33_88, u_33_89, u_33_92, u_33_93, u_33_94, u_33_95, u_33_97, u_33_98, u_33_102, u_33_103, u_33_106, u_33_109, u_33_112, u_33_113, u_33_116, u_33_118, u_33_121, u_33_123, u_33_124, u_33_126, u_33_127, u_33_129, u_33_130, u_33_131, u_33_132, u_33_134, u_33_135, u_33_138, u_33_140, u_33_143, u_33_145, u_33_147, u_33_149, u_33_152, u_33_154, u_33_156, u_33_157, u_33_158, u_33_161, u_33_162, u_33_165, u_33_166, u_33_168, u_33_170, u_33_171, u_33_173, u_33_175, u_33_177, u_33_178, u_33_179, u_33_180, u_33_181, u_33_182, u_33_183, u_33_185, u_33_188, u_33_191, u_33_193, u_33_196, u_33_197, u_33_198, u_33_199, u_33_200, u_33_201, true_or, or_true, zk_li1_s, zk_ll1_s, zk_la1_r, zk_la1_n, zk_lg0, zk_lgs, zk_co_n, zk_co_i, zk_co_r, zk_co_u, zk_co_l, zk_l1_0, zk_l1_1, zk_l1_s, zk_l2_0, zk_l2_1, zk_l2_s, zk_sm0, zk_smi, zk_smr, zk_smn, zk_sml, zk_fi, zk_fz, zk_fo, zk_fn, zk_fa, zk_ts, zk_tn, zk_cases, true_and, and_true, List.getElem?_cons_zero, List.getElem?_cons_succ, List.length_cons, List.length_nil, Nat.reduceAdd, Nat.reduceLT, Nat.reduceLeDiff, List.set_cons_zero, List.set_cons_succ, va_rf, zk_og_f p1, zk_op_f p1, zk_og_f q3, zk_op_f q3, zk_og_f q5, zk_op_f q5, ic1, ic2, iz_lit, iz_le, ljt1, ljt2, wz_mask]
      refine ⟨fun _ => ?_, fun c => absurd c (by omega)⟩
      rw [← hQ]
      have hkl : k = nw.length := by omega
      subst hkl
      refine ⟨rfl, _, ?_, fP2_end hlen hm k2 k9 ha0 hacc, rfl⟩
      exact Nat.lt_of_lt_of_le (Nat.mod_lt _ (Nat.two_pow_pos _)) (Nat.pow_le_pow_right (by decide) (by omega))
    | succ n ih =>
      intro k acc o8 o9 hkn hacc ha0
      have hacc1 := hacc.1
      have g1 := k7 _ (gz_mem (show k < nw.length by omega))
      have g2 := k8 _ (gz_mem (show k < nn.length by omega))
      have hr := nthd_r (st := st) (len := len) g1 g2
      rw [u_33_100]
      simp (disch := first | omega | assumption | (simp; done)) only [u_33_0, u_33_1, u_33_4, u_33_5, u_33_6, u_33_7, u_33_9, u_33_12, u_33_13, u_33_14, u_33_15, u_33_16, u_33_17, u_33_18, u_33_19, u_33_22, u_33_23, u_33_24, u_33_25, u_33_26, u_33_27, u_33_29, u_33_32, u_33_34, u_33_35, u_33_37, u_33_38, u_33_40, u_33_42, u_33_44, u_33_47, u_33_48, u_33_51, u_33_52, u_33_53, u_33_55, u_33_57, u_33_58, u_33_60, u_33_61, u_33_62, u_33_63, u_33_64, u_33_65, u_33_66, u_33_69, u_33_71, u_33_74, u_33_76, u_33_77, u_33_78, u_33_80, u_33_83, u_33_86, u_33_88, u_33_89, u_33_92, u_33_93, u_33_94, u_33_95, u_33_97, u_33_98, u_33_102, u_33_103, u_33_106, u_33_109, u_33_112, u_33_113, u_33_116, u_33_118, u_33_121, u_33_123, u_33_124, u_33_126, u_33_127, u_33_129, u_33_130, u_33_131, u_33_132, u_33_134, u_33_135, u_33_138, u_33_140, u_33_143, u_33_145, u_33_147, u_33_149, u_33_152, u_33_154, u_33_156, u_33_157, u_33_158, u_33_161, u_33_162, u_33_165, u_33_166, u_33_168, u_33_170, u_33_171, u_33_173, u_33_175, u_33_177, u_33_178, u_33_179, u_33_180, u_33_181, u_33_182, u_33_183, u_33_185, u_33_188, u_33_191, u_33_193, u_33_196, u_33_197, u_33_198, u_33_199, u_33_200, u_33_201, true_or, or_true, zk_li1_s, zk_ll1_s, zk_la1_r, zk_la1_n, zk_lg0, zk_lgs, zk_co_n, zk_co_i, zk_co_r, zk_co_u, zk_co_l, zk_l1_0, zk_l1_1, zk_l1_s, zk_l2_0, zk_l2_1, zk_l2_s, zk_sm0, zk_smi, zk_smr, zk_smn, zk_sml, zk_fi, zk_fz, zk_fo, zk_fn, zk_fa, zk_ts, zk_tn, zk_cases, true_and, and_true, List.getElem?_cons_zero, List.getElem?_cons_succ, List.length_cons, List.length_nil, Nat.reduceAdd, Nat.reduceLT, Nat.reduceLeDiff, List.set_cons_zero, List.set_cons_succ, va_rf, zk_og_f p1, zk_op_f p1, zk_og_f q3, zk_op_f q3, zk_og_f q5, zk_op_f q5, ic1, ic2, iz_lit, iz_add, iz_sub, iz_mul, iz_div, rem_id, iz_le, iz_lt, iz_inj, t1, t2, ljt1, ljt2, wz_shl, Nat.one_mul]
      have ek : ((k : Int) + 1) = ((k + 1 : Nat) : Int) := by omega
      rw [ek]
      have hst := fP2_step hr hacc
      have hst0 : (acc ||| 2 ^ (nthd (gz nw k) (gz nn k) st len).toNat).testBit 0 = false := by
        rw [Nat.testBit_or, ha0, Nat.testBit_two_pow]
        simp
        omega
      have hor : ∀ e : Int, e = nthd (gz nw k) (gz nn k) st len → lN acc ||| lN (2 ^ e.toNat) = lN (acc ||| 2 ^ (nthd (gz nw k) (gz nn k) st len).toNat) := by
        intro e he
        rw [he, wb_or (by omega)]
        exact Nat.pow_lt_pow_right (by decide) (by omega)
      refine ⟨fun c => absurd c (by omega), fun _ => ⟨fun c => ?_, fun c => ⟨fun c2 => ?_, fun c2 => ?_⟩⟩⟩
      · rw [hor _ (by unfold nthd; rw [if_neg c])]
        exact ih (k + 1) _ _ _ (by omega) hst hst0
      · rw [hor _ (by unfold nthd; rw [if_pos c, if_neg (by omega)])]
        exact ih (k + 1) _ _ _ (by omega) hst hst0
      · rw [hor _ (by unfold nthd; rw [if_pos c, if_pos (by omega)])]
        exact ih (k + 1) _ _ _ (by omega) hst hst0
  -- the first
  have loop1 : (ms 3).testBit (mi % 12 + 1).toNat = true → ∀ (n k acc : Nat), k + n = 7 → fP1 ms ((st + 5) % 7) k acc → zk_wp G 33 40 [some (.ref a), some (.int (iz mi)), some (.int (iz st)), some (.int (iz len)), some (.int (iz ((st + 5) % 7))), some (.long (lN acc)), none, some (.int (iz k)), none, none] [] h Q := by
    intro hm n
    induction n with
    | zero =>
      intro k acc hkn hacc
      have hacc1 := hacc.1
      have hk7 : k = 7 := by omega
      subst hk7
      rw [u_33_40]
      simp (disch := first | omega | assumption | (simp; done)) only [u_33_0, u_33_1, u_33_4, u_33_5, u_33_6, u_33_7, u_33_9, u_33_12, u_33_13, u_33_14, u_33_15, u_33_16, u_33_17, u_33_18, u_33_19, u_33_22, u_33_23, u_33_24, u_33_25, u_33_26, u_33_27, u_33_29, u_33_32, u_33_34, u_33_35, u_33_37, u_33_38, u_33_42, u_33_44, u_33_47, u_33_48, u_33_51, u_33_52, u_33_53, u_33_55, u_33_57, u_33_58, u_33_60, u_33_61, u_33_62, u_33_63, u_33_64, u_33_65, u_33_66, u_33_69, u_33_71, u_33_74, u_33_76, u_33_77, u_33_78, u_33_80, u_33_83, u_33_86, u_33_88, u_33_89, u_33_92, u_33_93, u_33_94, u_33_95, u_33_97, u_33_98, u_33_102, u_33_103, u_33_106, u_33_109, u_33_112, u_33_113, u_33_116, u_33_118, u_33_121, u_33_123, u_33_124, u_33_126, u_33_127, u_33_129, u_33_130, u_33_131, u_33_132, u_33_134, u_33_135, u_33_138, u_33_140, u_33_143, u_33_145, u_33_147, u_33_149, u_33_152, u_33_154, u_33_156, u_33_157, u_33_158, u_33_161, u_33_162, u_33_165, u_33_166, u_33_168, u_33_170, u_33_171, u_33_173, u_33_175, u_33_177, u_33_178, u_33_179, u_33_180, u_33_181, u_33_182, u_33_183, u_33_185, u_33_188, u_33_191, u_33_193, u_33_196, u_33_197, u_33_198, u_33_199, u_33_200, u_33_201, true_or, or_true, zk_li1_s, zk_ll1_s, zk_la1_r, zk_la1_n, zk_lg0, zk_lgs, zk_co_n, zk_co_i, zk_co_r, zk_co_u, zk_co_l, zk_l1_0, zk_l1_1, zk_l1_s, zk_l2_0, zk_l2_1, zk_l2_s, zk_sm0, zk_smi, zk_smr, zk_smn, zk_sml, zk_fi, zk_fz, zk_fo, zk_fn, zk_fa, zk_ts, zk_tn, zk_cases, true_and, and_true, List.getElem?_cons_zero, List.getElem?_cons_succ, List.length_cons, List.length_nil, Nat.reduceAdd, Nat.reduceLT, Nat.reduceLeDiff, List.set_cons_zero, List.set_cons_succ, va_rf, zk_og_f p1, zk_op_f p1, zk_og_f q3, zk_op_f q3, zk_og_f q5, zk_op_f q5, zk_aj_f q2, iz_lit, iz_le, d2, n2, f2, j2, wb_and]
      refine ⟨fun _ => ?_, fun c => absurd c (by omega)⟩
      refine loop2 hm nw.length 0 _ _ _ (by omega) (fP1_end k2 hacc) ?_
      rw [Nat.testBit_and, k9, Bool.and_false]
    | succ n ih =>
      intro k acc hkn hacc
      have hacc1 := hacc.1
      obtain ⟨s1, s2⟩ := fP1_step (show k < 7 by omega) (show 0 ≤ (st + 5) % 7 ∧ (st + 5) % 7 < 7 by omega) hacc
      rw [u_33_40]
      simp (disch := first | omega | assumption | (simp; done)) only [u_33_0, u_33_1, u_33_4, u_33_5, u_33_6, u_33_7, u_33_9, u_33_12, u_33_13, u_33_14, u_33_15, u_33_16, u_33_17, u_33_18, u_33_19, u_33_22, u_33_23, u_33_24, u_33_25, u_33_26, u_33_27, u_33_29, u_33_32, u_33_34, u_33_35, u_33_37, u_33_38, u_33_42, u_33_44, u_33_47, u_33_48, u_33_51, u_33_52, u_33_53, u_33_55, u_33_57, u_33_58, u_33_60, u_33_61, u_33_62, u_33_63, u_33_64, u_33_65, u_33_66, u_33_69, u_33_71, u_33_74, u_33_76, u_33_77, u_33_78, u_33_80, u_33_83, u_33_86, u_33_88, u_33_89, u_33_92, u_33_93, u_33_94, u_33_95, u_33_97, u_33_98, u_33_102, u_33_103, u_33_106, u_33_109, u_33_112, u_33_113, u_33_116, u_33_118, u_33_121, u_33_123, u_33_124, u_33_126, u_33_127, u_33_129, u_33_130, u_33_131, u_33_132, u_33_134, u_33_135, u_33_138, u_33_140, u_33_143, u_33_145, u_33_147, u_33_149, u_33_152, u_33_154, u_33_156, u_33_157, u_33_158, u_33_161, u_33_162, u_33_165, u_33_166, u_33_168, u_33_170, u_33_171, u_33_173, u_33_175, u_33_177, u_33_178, u_33_179, u_33_180, u_33_181, u_33_182, u_33_183, u_33_185, u_33_188, u_33_191, u_33_193, u_33_196, u_33_197, u_33_198, u_33_199, u_33_200, u_33_201, true_or, or_true, zk_li1_s, zk_ll1_s, zk_la1_r, zk_la1_n, zk_lg0, zk_lgs, zk_co_n, zk_co_i, zk_co_r, zk_co_u, zk_co_l, zk_l1_0, zk_l1_1, zk_l1_s, zk_l2_0, zk_l2_1, zk_l2_s, zk_sm0, zk_smi, zk_smr, zk_smn, zk_sml, zk_fi, zk_fz, zk_fo, zk_fn, zk_fa, zk_ts, zk_tn, zk_cases, true_and, and_true, List.getElem?_cons_zero, List.getElem?_cons_succ, List.length_cons, List.length_nil, Nat.reduceAdd, Nat.reduceLT, Nat.reduceLeDiff, List.set_cons_zero, List.set_cons_succ, va_rf, zk_og_f p1, zk_op_f p1, zk_aj_f q2, iz_lit, iz_add, iz_sub, iz_mul, iz_div, rem_id, iz_le, d4, n4, f4, j4, ljt0, ljt1, ljt7, us_bit, lg_zi, bit_z, wz_shl]
      have ek : ((k : Int) + 1) = ((k + 1 : Nat) : Int) := by omega
      rw [ek]
      refine ⟨fun c => absurd c (by omega), fun _ => ⟨fun c => ?_, fun c => ?_⟩⟩
      · exact ih (k + 1) acc (by omega) (s1 c)
      · have e2 : lN acc ||| lN (541098242 * 2 ^ (k : Int).toNat) = lN (acc ||| 541098242 * 2 ^ k) := by
          rw [Int.toNat_natCast, wb_or (by omega)]
          have : 2 ^ k ≤ 2 ^ 6 := Nat.pow_le_pow_right (by decide) (by omega)
          have : 541098242 * 2 ^ k ≤ 541098242 * 2 ^ 6 := Nat.mul_le_mul_left _ this
          have : (541098242 : Nat) * 2 ^ 6 < 2 ^ 64 := by decide
          omega
        rw [e2]
        exact ih (k + 1) _ (by omega) (s2 (by simpa using c))
  simp (disch := first | omega | assumption | (simp; done)) only [u_33_0, u_33_1, u_33_4, u_33_5, u_33_6, u_33_7, u_33_9, u_33_12, u_33_13, u_33_14, u_33_15, u_33_16, u_33_17, u_33_18, u_33_19, u_33_22, u_33_23, u_33_24, u_33_25, u_33_26, u_33_27, u_33_29, u_33_32, u_33_34, u_33_35, u_33_37, u_33_38, u_33_42, u_33_44, u_33_47, u_33_48, u_33_51, u_33_52, u_33_53, u_33_55, u_33_57, u_33_58, u_33_60, u_33_61, u_33_62, u_33_63, u_33_64, u_33_65, u_33_66, u_33_69, u_33_71, u_33_74, u_33_76, u_33_77, u_33_78, u_33_80, u_33_83, u_33_86, u_33_88, u_33_89, u_33_92, u_33_93, u_33_94, u_33_95, u_33_97, u_33_98, u_33_102, u_33_103, u_33_106, u_33_109, u_33_112, u_33_113, u_33_116, u_33_118, u_33_121, u_33_123, u_33_124, u_33_126, u_33_127, u_33_129, u_33_130, u_33_131, u_33_132, u_33_134, u_33_135, u_33_138, u_33_140, u_33_143, u_33_145, u_33_147, u_33_149, u_33_152, u_33_154, u_33_156, u_33_157, u_33_158, u_33_161, u_33_162, u_33_165, u_33_166, u_33_168, u_33_170, u_33_171, u_33_173, u_33_175, u_33_177, u_33_178, u_33_179, u_33_180, u_33_181, u_33_182, u_33_183, u_33_185, u_33_188, u_33_191, u_33_193, u_33_196, u_33_197, u_33_198, u_33_199, u_33_200, u_33_201, true_or, or_true, zk_li1_s, zk_ll1_s, zk_la1_r, zk_la1_n, zk_lg0, zk_lgs, zk_co_n, zk_co_i, zk_co_r, zk_co_u, zk_co_l, zk_l1_0, zk_l1_1, zk_l1_s, zk_l2_0, zk_l2_1, zk_l2_s, zk_sm0, zk_smi, zk_smr, zk_smn, zk_sml, zk_fi, zk_fz, zk_fo, zk_fn, zk_fa, zk_ts, zk_tn, zk_cases, true_and, and_true, List.getElem?_cons_zero, List.getElem?_cons_succ, List.length_cons, List.length_nil, Nat.reduceAdd, Nat.reduceLT, Nat.reduceLeDiff, List.set_cons_zero, List.set_cons_succ, va_rf, zk_og_f p1, zk_op_f p1, zk_aj_f q2, iz_lit, iz_add, d3, n3, f3, j3, ljt0, ljt1, us_bit, lg_zi, bit_z, fm12, fm7]
  refine ⟨fun c => ?_, fun c => ?_⟩
  · exact loop1 (by simpa using c) 7 0 0 (by omega) ⟨by decide, fun i hi => by simp⟩
  · rw [← hQ]
    refine ⟨rfl, 0, by decide, fun i => ?_, rfl⟩
    unfold fbit
    rw [c]
    simp
end FT
