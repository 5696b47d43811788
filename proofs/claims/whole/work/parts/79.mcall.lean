/-! the model's mask, between, runNow -/
def mkf (f : Int) : Nat := if f = 0 then 1152921504606846975 else if f = 1 then 16777215 else if f = 2 then 4294967294 else if f = 3 then 8190 else 127
def v_mask (m : mS) (j f : Int) (n : Nat) : Int := if (0 ≤ j ∧ j < m 10 0) ∧ (0 ≤ f ∧ f ≤ 4) then ((popA (n &&& mkf f) 64 : Nat) : Int) else -1
def f_mask (m : mS) (j f : Int) (n : Nat) : mS := if (0 ≤ j ∧ j < m 10 0) ∧ (0 ≤ f ∧ f ≤ 4) then up m (12 + f.toNat) j ((n &&& mkf f : Nat) : Int) else m
noncomputable def bt (D : Int → Bool) (b : Int) : Nat → Int → Int
  | 0, v => v
  | n + 1, v => if v = 2147483647 then v else bt D b n (ffd D (v + 1) b)
theorem bt_far (D : Int → Bool) (b : Int) : ∀ n, bt D b n 2147483647 = 2147483647 := by
  intro n
  cases n with
  | zero => rfl
  | succ n => unfold bt; rw [if_pos rfl]
def mst3 (m : mS) (j : Int) : Int := max (m 32 j) (max (m 32 (12 + j)) (m 32 (24 + j)))
noncomputable def bhB (m : mS) (j : Int) : Bool := bol (∃ i, 0 ≤ i ∧ i < m 46 j ∧ m 0 0 ≤ m 47 (300 * j + i))
noncomputable def v_rn (m : mS) (j : Int) : Int := if 0 ≤ j ∧ j < m 10 0 then (if bhB m j = true ∨ ffd (dueJ m j) (mst3 m j + 1) (m 0 0) ≠ 2147483647 then -2 else if m 28 j = 8 then -3 else m 28 j + 1) else -1
noncomputable def f_rn (m : mS) (j : Int) : mS := if (0 ≤ j ∧ j < m 10 0) ∧ ¬ (bhB m j = true ∨ ffd (dueJ m j) (mst3 m j + 1) (m 0 0) ≠ 2147483647) ∧ m 28 j ≠ 8 then up (up m 29 (8 * j + m 28 j) (m 0 0)) 28 j (m 28 j + 1) else m
section MCALL5
variable {G : zk_G} {B : zk_H} {M : Nat}
theorem d_mask (hB : hpo G B M) {m : mS} (h10 : 0 ≤ m 10 0 ∧ m 10 0 ≤ 12) (j f : Int) (hj : -2147483648 ≤ j ∧ j ≤ 2147483647) (hf : -2147483648 ≤ f ∧ f ≤ 2147483647) (n : Nat) (hn : n < 2 ^ 64) (Q : Option Value → zk_H → Prop) : zk_wp G 133 0 [some (.ref M), some (.int (iz j)), some (.int (iz f)), some (.long (lN n)), none, none, none] [] (hp G B M m) Q ↔ Q (some (.int (iz (v_mask m j f n)))) (hp G B M (f_mask m j f n)) := by
  have ic := hp_ic hB
  have ij := d_isJob hB h10 j hj
  have in1 := d_in (G := G) (hp G B M m) f 0 4 hf (by omega) (by omega)
  refine zk_eq ?_ Q
  unfold v_mask f_mask
  by_cases c : (0 ≤ j ∧ j < m 10 0) ∧ (0 ≤ f ∧ f ≤ 4)
  · rw [if_pos c, if_pos c]
    rw [if_pos c.1] at ij
    rw [if_pos c.2] at in1
    have cf : f = 0 ∨ f = 1 ∨ f = 2 ∨ f = 3 ∨ f = 4 := by omega
    rcases cf with rfl | rfl | rfl | rfl | rfl
    · have t := iz_toInt (z := 0) (by omega) (by omega)
      have e : mkf 0 = 1152921504606846975 := rfl
      rw [e]
      have c0 : (1152921504606846975 : Int64) = lN 1152921504606846975 := rfl
      have an := wb_and (a := n) (b := 1152921504606846975) hn (by decide)
      have le : (n &&& 1152921504606846975) ≤ 1152921504606846975 := Nat.and_le_right
      generalize n &&& 1152921504606846975 = v at *
      have db := d_bits (G := G) (hp G B M (up m 12 j (v : Int))) (n := v) (by omega)
      have an2 : lN n &&& lN 1152921504606846975 = lz (v : Int) := an
      rw [← lz_lN] at db
      have ek : (12 + Int.toNat 0) = 12 := rfl
      rw [ek]
      clear le an e
      simp (disch := first | omega | assumption | (simp; done)) only [u_133_0, u_133_1, u_133_2, u_133_5, u_133_8, u_133_9, u_133_10, u_133_11, u_133_14, u_133_18, u_133_19, u_133_20, u_133_22, u_133_23, u_133_52, u_133_53, u_133_56, u_133_57, u_133_59, u_133_60, u_133_63, u_133_64, u_133_66, u_133_67, u_133_71, u_133_74, u_133_75, u_133_77, u_133_78, u_133_81, u_133_82, u_133_84, u_133_85, u_133_86, u_133_90, u_133_93, u_133_94, u_133_96, u_133_97, u_133_100, u_133_101, u_133_103, u_133_104, u_133_108, u_133_111, u_133_112, u_133_114, u_133_115, u_133_118, u_133_119, u_133_121, u_133_122, u_133_123, u_133_127, u_133_130, u_133_131, u_133_133, u_133_134, u_133_137, u_133_138, u_133_140, u_133_141, u_133_142, u_133_144, u_133_147, true_or, or_true, zk_li1_s, zk_ll1_s, zk_la1_r, zk_la1_n, zk_lg0, zk_lgs, zk_co_n, zk_co_i, zk_co_r, zk_co_u, zk_co_l, zk_l1_0, zk_l1_1, zk_l1_s, zk_l2_0, zk_l2_1, zk_l2_s, zk_sm0, zk_smi, zk_smr, zk_smn, zk_sml, zk_fi, zk_fz, zk_fo, zk_fn, zk_fa, zk_ts, zk_tn, zk_cases, true_and, and_true, List.getElem?_cons_zero, List.getElem?_cons_succ, List.length_cons, List.length_nil, Nat.reduceAdd, Nat.reduceLT, Nat.reduceLeDiff, List.set_cons_zero, List.set_cons_succ, va_rf, ic, iz_lit, iz_neg, iz_inj, ij, in1, t, c0, an2, mg_12 hB, mr_12 hB, mw_12 hB, db]
      all_goals ((repeat' (first | exact trivial | exact ⟨rfl, rfl⟩ | rfl | apply And.intro | intro _)) <;> first | omega | (exfalso; omega) | contradiction | (exfalso; simp_all; done) | trace_state)
    · have t := iz_toInt (z := 1) (by omega) (by omega)
      have e : mkf 1 = 16777215 := rfl
      rw [e]
      have c0 : (16777215 : Int64) = lN 16777215 := rfl
      have an := wb_and (a := n) (b := 16777215) hn (by decide)
      have le : (n &&& 16777215) ≤ 16777215 := Nat.and_le_right
      generalize n &&& 16777215 = v at *
      have db := d_bits (G := G) (hp G B M (up m 13 j (v : Int))) (n := v) (by omega)
      have an2 : lN n &&& lN 16777215 = lz (v : Int) := an
      rw [← lz_lN] at db
      have ek : (12 + Int.toNat 1) = 13 := rfl
      rw [ek]
      have l2 := l2i_lz (z := (v : Int)) (by omega)
      clear le an e
      simp (disch := first | omega | assumption | (simp; done)) only [u_133_0, u_133_1, u_133_2, u_133_5, u_133_8, u_133_9, u_133_10, u_133_11, u_133_14, u_133_18, u_133_19, u_133_20, u_133_22, u_133_23, u_133_53, u_133_56, u_133_57, u_133_59, u_133_60, u_133_63, u_133_64, u_133_66, u_133_67, u_133_70, u_133_71, u_133_74, u_133_75, u_133_77, u_133_78, u_133_81, u_133_82, u_133_84, u_133_85, u_133_86, u_133_90, u_133_93, u_133_94, u_133_96, u_133_97, u_133_100, u_133_101, u_133_103, u_133_104, u_133_108, u_133_111, u_133_112, u_133_114, u_133_115, u_133_118, u_133_119, u_133_121, u_133_122, u_133_123, u_133_127, u_133_130, u_133_131, u_133_133, u_133_134, u_133_137, u_133_138, u_133_140, u_133_141, u_133_142, u_133_144, u_133_147, true_or, or_true, zk_li1_s, zk_ll1_s, zk_la1_r, zk_la1_n, zk_lg0, zk_lgs, zk_co_n, zk_co_i, zk_co_r, zk_co_u, zk_co_l, zk_l1_0, zk_l1_1, zk_l1_s, zk_l2_0, zk_l2_1, zk_l2_s, zk_sm0, zk_smi, zk_smr, zk_smn, zk_sml, zk_fi, zk_fz, zk_fo, zk_fn, zk_fa, zk_ts, zk_tn, zk_cases, true_and, and_true, List.getElem?_cons_zero, List.getElem?_cons_succ, List.length_cons, List.length_nil, Nat.reduceAdd, Nat.reduceLT, Nat.reduceLeDiff, List.set_cons_zero, List.set_cons_succ, va_rf, ic, iz_lit, iz_neg, iz_inj, ij, in1, t, c0, an2, l2, mg_13 hB, mr_13 hB, mw_13 hB, db]
      all_goals ((repeat' (first | exact trivial | exact ⟨rfl, rfl⟩ | rfl | apply And.intro | intro _)) <;> first | omega | (exfalso; omega) | contradiction | (exfalso; simp_all; done) | trace_state)
    · have t := iz_toInt (z := 2) (by omega) (by omega)
      have e : mkf 2 = 4294967294 := rfl
      rw [e]
      have c0 : (4294967294 : Int64) = lN 4294967294 := rfl
      have an := wb_and (a := n) (b := 4294967294) hn (by decide)
      have le : (n &&& 4294967294) ≤ 4294967294 := Nat.and_le_right
      generalize n &&& 4294967294 = v at *
      have db := d_bits (G := G) (hp G B M (up m 14 j (v : Int))) (n := v) (by omega)
      have an2 : lN n &&& lN 4294967294 = lz (v : Int) := an
      rw [← lz_lN] at db
      have ek : (12 + Int.toNat 2) = 14 := rfl
      rw [ek]
      clear le an e
      simp (disch := first | omega | assumption | (simp; done)) only [u_133_0, u_133_1, u_133_2, u_133_5, u_133_8, u_133_9, u_133_10, u_133_11, u_133_14, u_133_18, u_133_19, u_133_20, u_133_22, u_133_23, u_133_53, u_133_56, u_133_57, u_133_59, u_133_60, u_133_63, u_133_64, u_133_66, u_133_67, u_133_71, u_133_74, u_133_75, u_133_77, u_133_78, u_133_81, u_133_82, u_133_84, u_133_85, u_133_86, u_133_89, u_133_90, u_133_93, u_133_94, u_133_96, u_133_97, u_133_100, u_133_101, u_133_103, u_133_104, u_133_108, u_133_111, u_133_112, u_133_114, u_133_115, u_133_118, u_133_119, u_133_121, u_133_122, u_133_123, u_133_127, u_133_130, u_133_131, u_133_133, u_133_134, u_133_137, u_133_138, u_133_140, u_133_141, u_133_142, u_133_144, u_133_147, true_or, or_true, zk_li1_s, zk_ll1_s, zk_la1_r, zk_la1_n, zk_lg0, zk_lgs, zk_co_n, zk_co_i, zk_co_r, zk_co_u, zk_co_l, zk_l1_0, zk_l1_1, zk_l1_s, zk_l2_0, zk_l2_1, zk_l2_s, zk_sm0, zk_smi, zk_smr, zk_smn, zk_sml, zk_fi, zk_fz, zk_fo, zk_fn, zk_fa, zk_ts, zk_tn, zk_cases, true_and, and_true, List.getElem?_cons_zero, List.getElem?_cons_succ, List.length_cons, List.length_nil, Nat.reduceAdd, Nat.reduceLT, Nat.reduceLeDiff, List.set_cons_zero, List.set_cons_succ, va_rf, ic, iz_lit, iz_neg, iz_inj, ij, in1, t, c0, an2, mg_14 hB, mr_14 hB, mw_14 hB, db]
      all_goals ((repeat' (first | exact trivial | exact ⟨rfl, rfl⟩ | rfl | apply And.intro | intro _)) <;> first | omega | (exfalso; omega) | contradiction | (exfalso; simp_all; done) | trace_state)
    · have t := iz_toInt (z := 3) (by omega) (by omega)
      have e : mkf 3 = 8190 := rfl
      rw [e]
      have c0 : (8190 : Int64) = lN 8190 := rfl
      have an := wb_and (a := n) (b := 8190) hn (by decide)
      have le : (n &&& 8190) ≤ 8190 := Nat.and_le_right
      generalize n &&& 8190 = v at *
      have db := d_bits (G := G) (hp G B M (up m 15 j (v : Int))) (n := v) (by omega)
      have an2 : lN n &&& lN 8190 = lz (v : Int) := an
      rw [← lz_lN] at db
      have ek : (12 + Int.toNat 3) = 15 := rfl
      rw [ek]
      have l2 := l2i_lz (z := (v : Int)) (by omega)
      clear le an e
      simp (disch := first | omega | assumption | (simp; done)) only [u_133_0, u_133_1, u_133_2, u_133_5, u_133_8, u_133_9, u_133_10, u_133_11, u_133_14, u_133_18, u_133_19, u_133_20, u_133_22, u_133_23, u_133_53, u_133_56, u_133_57, u_133_59, u_133_60, u_133_63, u_133_64, u_133_66, u_133_67, u_133_71, u_133_74, u_133_75, u_133_77, u_133_78, u_133_81, u_133_82, u_133_84, u_133_85, u_133_86, u_133_90, u_133_93, u_133_94, u_133_96, u_133_97, u_133_100, u_133_101, u_133_103, u_133_104, u_133_107, u_133_108, u_133_111, u_133_112, u_133_114, u_133_115, u_133_118, u_133_119, u_133_121, u_133_122, u_133_123, u_133_127, u_133_130, u_133_131, u_133_133, u_133_134, u_133_137, u_133_138, u_133_140, u_133_141, u_133_142, u_133_144, u_133_147, true_or, or_true, zk_li1_s, zk_ll1_s, zk_la1_r, zk_la1_n, zk_lg0, zk_lgs, zk_co_n, zk_co_i, zk_co_r, zk_co_u, zk_co_l, zk_l1_0, zk_l1_1, zk_l1_s, zk_l2_0, zk_l2_1, zk_l2_s, zk_sm0, zk_smi, zk_smr, zk_smn, zk_sml, zk_fi, zk_fz, zk_fo, zk_fn, zk_fa, zk_ts, zk_tn, zk_cases, true_and, and_true, List.getElem?_cons_zero, List.getElem?_cons_succ, List.length_cons, List.length_nil, Nat.reduceAdd, Nat.reduceLT, Nat.reduceLeDiff, List.set_cons_zero, List.set_cons_succ, va_rf, ic, iz_lit, iz_neg, iz_inj, ij, in1, t, c0, an2, l2, mg_15 hB, mr_15 hB, mw_15 hB, db]
      all_goals ((repeat' (first | exact trivial | exact ⟨rfl, rfl⟩ | rfl | apply And.intro | intro _)) <;> first | omega | (exfalso; omega) | contradiction | (exfalso; simp_all; done) | trace_state)
    · have t := iz_toInt (z := 4) (by omega) (by omega)
      have e : mkf 4 = 127 := rfl
      rw [e]
      have c0 : (127 : Int64) = lN 127 := rfl
      have an := wb_and (a := n) (b := 127) hn (by decide)
      have le : (n &&& 127) ≤ 127 := Nat.and_le_right
      generalize n &&& 127 = v at *
      have db := d_bits (G := G) (hp G B M (up m 16 j (v : Int))) (n := v) (by omega)
      have an2 : lN n &&& lN 127 = lz (v : Int) := an
      rw [← lz_lN] at db
      have ek : (12 + Int.toNat 4) = 16 := rfl
      rw [ek]
      have l2 := l2i_lz (z := (v : Int)) (by omega)
      clear le an e
      simp (disch := first | omega | assumption | (simp; done)) only [u_133_0, u_133_1, u_133_2, u_133_5, u_133_8, u_133_9, u_133_10, u_133_11, u_133_14, u_133_18, u_133_19, u_133_20, u_133_22, u_133_23, u_133_53, u_133_56, u_133_57, u_133_59, u_133_60, u_133_63, u_133_64, u_133_66, u_133_67, u_133_71, u_133_74, u_133_75, u_133_77, u_133_78, u_133_81, u_133_82, u_133_84, u_133_85, u_133_86, u_133_90, u_133_93, u_133_94, u_133_96, u_133_97, u_133_100, u_133_101, u_133_103, u_133_104, u_133_108, u_133_111, u_133_112, u_133_114, u_133_115, u_133_118, u_133_119, u_133_121, u_133_122, u_133_123, u_133_126, u_133_127, u_133_130, u_133_131, u_133_133, u_133_134, u_133_137, u_133_138, u_133_140, u_133_141, u_133_142, u_133_144, u_133_147, true_or, or_true, zk_li1_s, zk_ll1_s, zk_la1_r, zk_la1_n, zk_lg0, zk_lgs, zk_co_n, zk_co_i, zk_co_r, zk_co_u, zk_co_l, zk_l1_0, zk_l1_1, zk_l1_s, zk_l2_0, zk_l2_1, zk_l2_s, zk_sm0, zk_smi, zk_smr, zk_smn, zk_sml, zk_fi, zk_fz, zk_fo, zk_fn, zk_fa, zk_ts, zk_tn, zk_cases, true_and, and_true, List.getElem?_cons_zero, List.getElem?_cons_succ, List.length_cons, List.length_nil, Nat.reduceAdd, Nat.reduceLT, Nat.reduceLeDiff, List.set_cons_zero, List.set_cons_succ, va_rf, ic, iz_lit, iz_neg, iz_inj, ij, in1, t, c0, an2, l2, mg_16 hB, mr_16 hB, mw_16 hB, db]
      all_goals ((repeat' (first | exact trivial | exact ⟨rfl, rfl⟩ | rfl | apply And.intro | intro _)) <;> first | omega | (exfalso; omega) | contradiction | (exfalso; simp_all; done) | trace_state)
  · rw [if_neg c, if_neg c]
    simp (disch := first | omega | assumption | (simp; done)) only [u_133_0, u_133_1, u_133_2, u_133_5, u_133_8, u_133_9, u_133_10, u_133_11, u_133_14, u_133_17, u_133_18, u_133_20, u_133_22, u_133_23, u_133_52, u_133_53, u_133_56, u_133_57, u_133_59, u_133_60, u_133_63, u_133_64, u_133_66, u_133_67, u_133_70, u_133_71, u_133_74, u_133_75, u_133_77, u_133_78, u_133_81, u_133_82, u_133_84, u_133_85, u_133_86, u_133_89, u_133_90, u_133_93, u_133_94, u_133_96, u_133_97, u_133_100, u_133_101, u_133_103, u_133_104, u_133_107, u_133_108, u_133_111, u_133_112, u_133_114, u_133_115, u_133_118, u_133_119, u_133_121, u_133_122, u_133_123, u_133_126, u_133_127, u_133_130, u_133_131, u_133_133, u_133_134, u_133_137, u_133_138, u_133_140, u_133_141, u_133_142, u_133_144, u_133_147, true_or, or_true, zk_li1_s, zk_ll1_s, zk_la1_r, zk_la1_n, zk_lg0, zk_lgs, zk_co_n, zk_co_i, zk_co_r, zk_co_u, zk_co_l, zk_l1_0, zk_l1_1, zk_l1_s, zk_l2_0, zk_l2_1, zk_l2_s, zk_sm0, zk_smi, zk_smr, zk_smn, zk_sml, zk_fi, zk_fz, zk_fo, zk_fn, zk_fa, zk_ts, zk_tn, zk_cases, true_and, and_true, List.getElem?_cons_zero, List.getElem?_cons_succ, List.length_cons, List.length_nil, Nat.reduceAdd, Nat.reduceLT, Nat.reduceLeDiff, List.set_cons_zero, List.set_cons_succ, va_rf, ic, iz_lit, iz_neg, iz_inj, ij, in1, ii_0]
    all_goals ((repeat' (first | exact trivial | exact ⟨rfl, rfl⟩ | rfl | apply And.intro | intro _)) <;> first | omega | (exfalso; omega) | contradiction | (exfalso; simp_all; done) | trace_state)
def btOk (m : mS) (j a b i : Int) : Prop := (0 ≤ j ∧ j < m 10 0) ∧ (0 ≤ a ∧ a ≤ 21038399) ∧ (0 ≤ b ∧ b ≤ 21038399) ∧ (0 ≤ i ∧ i ≤ 50)
theorem d_between (hB : hpo G B M) {m : mS} (h10 : 0 ≤ m 10 0 ∧ m 10 0 ≤ 12) (hJ : ∀ j, 0 ≤ j → j < 12 → jI m j) (j a b i : Int) (hj : -2147483648 ≤ j ∧ j ≤ 2147483647) (ha : -2147483648 ≤ a ∧ a ≤ 2147483647) (hb : -2147483648 ≤ b ∧ b ≤ 2147483647) (hi : -2147483648 ≤ i ∧ i ≤ 2147483647) : (btOk m j a b i → ∃ m', dtx m m' ∧ ∀ Q : Option Value → zk_H → Prop, zk_wp G 156 0 [some (.ref M), some (.int (iz j)), some (.int (iz a)), some (.int (iz b)), some (.int (iz i)), none, none] [] (hp G B M m) Q ↔ Q (some (.int (iz (nof (bt (dueJ m j) b i.toNat (ffd (dueJ m j) a b)))))) (hp G B M m')) ∧ (¬ btOk m j a b i → ∀ Q : Option Value → zk_H → Prop, zk_wp G 156 0 [some (.ref M), some (.int (iz j)), some (.int (iz a)), some (.int (iz b)), some (.int (iz i)), none, none] [] (hp G B M m) Q ↔ Q (some (.int (iz (-1)))) (hp G B M m)) := by
  have ic := hp_ic hB
  have ij := d_isJob hB h10 j hj
  have in1 := d_in (G := G) (hp G B M m) a 0 21038399 ha (by omega) (by omega)
  have in2 := d_in (G := G) (hp G B M m) b 0 21038399 hb (by omega) (by omega)
  have in3 := d_in (G := G) (hp G B M m) i 0 50 hi (by omega) (by omega)
  unfold btOk
  refine ⟨fun c => ?_, fun c Q => zk_eq ?_ Q⟩
  · obtain ⟨c1, c2, c3, c4⟩ := c
    rw [if_pos c1] at ij
    rw [if_pos c2] at in1
    rw [if_pos c3] at in2
    rw [if_pos c4] at in3
    have hJj := hJ j (by omega) (by omega)
    suffices hw : zk_wp G 156 0 [some (.ref M), some (.int (iz j)), some (.int (iz a)), some (.int (iz b)), some (.int (iz i)), none, none] [] (hp G B M m) (fun r h' => ∃ m', dtx m m' ∧ r = some (.int (iz (nof (bt (dueJ m j) b i.toNat (ffd (dueJ m j) a b))))) ∧ h' = hp G B M m') by
      obtain ⟨r0, h0, ⟨m', b1, rfl, rfl⟩, b3⟩ := zk_some hw
      exact ⟨m', b1, b3⟩
    generalize hQ : (fun (r : Option Value) (h' : zk_H) => ∃ m', dtx m m' ∧ r = some (.int (iz (nof (bt (dueJ m j) b i.toNat (ffd (dueJ m j) a b))))) ∧ h' = hp G B M m') = P
    have fin : ∀ (m1 : mS) (v : Int) (o6 : Option Value), dtx m m1 → (v = 2147483647 ∨ (0 ≤ v ∧ v ≤ 21038399)) → bt (dueJ m j) b i.toNat (ffd (dueJ m j) a b) = v → zk_wp G 156 83 [some (.ref M), some (.int (iz j)), some (.int (iz a)), some (.int (iz b)), some (.int (iz i)), some (.int (iz (nef v))), o6] [] (hp G B M m1) P := by
      intro m1 v o6 h1 hv e
      rw [u_156_83]
      by_cases cv : v = 2147483647
      · have e1 : nef v = -1 := by rw [cv]; rfl
        rw [e1]
        simp (disch := first | omega | assumption | (simp; done)) only [u_156_0, u_156_1, u_156_2, u_156_5, u_156_8, u_156_9, u_156_10, u_156_12, u_156_15, u_156_18, u_156_19, u_156_20, u_156_22, u_156_25, u_156_28, u_156_30, u_156_31, u_156_33, u_156_36, u_156_39, u_156_40, u_156_41, u_156_42, u_156_43, u_156_44, u_156_45, u_156_48, u_156_50, u_156_51, u_156_53, u_156_55, u_156_57, u_156_60, u_156_62, u_156_65, u_156_66, u_156_67, u_156_69, u_156_70, u_156_71, u_156_72, u_156_75, u_156_77, u_156_80, u_156_85, u_156_88, u_156_90, u_156_93, u_156_95, true_or, or_true, zk_li1_s, zk_ll1_s, zk_la1_r, zk_la1_n, zk_lg0, zk_lgs, zk_co_n, zk_co_i, zk_co_r, zk_co_u, zk_co_l, zk_l1_0, zk_l1_1, zk_l1_s, zk_l2_0, zk_l2_1, zk_l2_s, zk_sm0, zk_smi, zk_smr, zk_smn, zk_sml, zk_fi, zk_fz, zk_fo, zk_fn, zk_fa, zk_ts, zk_tn, zk_cases, true_and, and_true, List.getElem?_cons_zero, List.getElem?_cons_succ, List.length_cons, List.length_nil, Nat.reduceAdd, Nat.reduceLT, Nat.reduceLeDiff, List.set_cons_zero, List.set_cons_succ, va_rf, iz_lit, iz_neg, iz_le]
        refine ⟨fun q => absurd q (by omega), fun _ => ?_⟩
        rw [← hQ]
        refine ⟨m1, h1, ?_, rfl⟩
        rw [e, cv]; rfl
      · rw [nef_n cv]
        simp (disch := first | omega | assumption | (simp; done)) only [u_156_0, u_156_1, u_156_2, u_156_5, u_156_8, u_156_9, u_156_10, u_156_12, u_156_15, u_156_18, u_156_19, u_156_20, u_156_22, u_156_25, u_156_28, u_156_30, u_156_31, u_156_33, u_156_36, u_156_39, u_156_40, u_156_41, u_156_42, u_156_43, u_156_44, u_156_45, u_156_48, u_156_50, u_156_51, u_156_53, u_156_55, u_156_57, u_156_60, u_156_62, u_156_65, u_156_66, u_156_67, u_156_69, u_156_70, u_156_71, u_156_72, u_156_75, u_156_77, u_156_80, u_156_85, u_156_88, u_156_90, u_156_93, u_156_95, true_or, or_true, zk_li1_s, zk_ll1_s, zk_la1_r, zk_la1_n, zk_lg0, zk_lgs, zk_co_n, zk_co_i, zk_co_r, zk_co_u, zk_co_l, zk_l1_0, zk_l1_1, zk_l1_s, zk_l2_0, zk_l2_1, zk_l2_s, zk_sm0, zk_smi, zk_smr, zk_smn, zk_sml, zk_fi, zk_fz, zk_fo, zk_fn, zk_fa, zk_ts, zk_tn, zk_cases, true_and, and_true, List.getElem?_cons_zero, List.getElem?_cons_succ, List.length_cons, List.length_nil, Nat.reduceAdd, Nat.reduceLT, Nat.reduceLeDiff, List.set_cons_zero, List.set_cons_succ, va_rf, iz_lit, iz_neg, iz_le]
        refine ⟨fun _ => ?_, fun q => absurd q (by omega)⟩
        rw [← hQ]
        refine ⟨m1, h1, ?_, rfl⟩
        rw [e]
        unfold nof
        rw [if_neg cv]
    have loop : ∀ (q : Nat) (k v : Int) (m1 : mS), dtx m m1 → 0 ≤ k → k + q = i → (v = 2147483647 ∨ (0 ≤ v ∧ v ≤ 21038399)) → bt (dueJ m j) b i.toNat (ffd (dueJ m j) a b) = bt (dueJ m j) b q v → zk_wp G 156 53 [some (.ref M), some (.int (iz j)), some (.int (iz a)), some (.int (iz b)), some (.int (iz i)), some (.int (iz (nef v))), some (.int (iz k))] [] (hp G B M m1) P := by
      intro q
      induction q with
      | zero =>
        intro k v m1 h1 hk hq hv e
        have f := fin m1 v (some (.int (iz k))) h1 hv e
        rw [u_156_53]
        simp (disch := first | omega | assumption | (simp; done)) only [u_156_0, u_156_1, u_156_2, u_156_5, u_156_8, u_156_9, u_156_10, u_156_12, u_156_15, u_156_18, u_156_19, u_156_20, u_156_22, u_156_25, u_156_28, u_156_30, u_156_31, u_156_33, u_156_36, u_156_39, u_156_40, u_156_41, u_156_42, u_156_43, u_156_44, u_156_45, u_156_48, u_156_50, u_156_51, u_156_55, u_156_57, u_156_62, u_156_65, u_156_66, u_156_67, u_156_69, u_156_70, u_156_71, u_156_72, u_156_75, u_156_77, u_156_80, u_156_85, u_156_88, u_156_90, u_156_93, u_156_95, true_or, or_true, zk_li1_s, zk_ll1_s, zk_la1_r, zk_la1_n, zk_lg0, zk_lgs, zk_co_n, zk_co_i, zk_co_r, zk_co_u, zk_co_l, zk_l1_0, zk_l1_1, zk_l1_s, zk_l2_0, zk_l2_1, zk_l2_s, zk_sm0, zk_smi, zk_smr, zk_smn, zk_sml, zk_fi, zk_fz, zk_fo, zk_fn, zk_fa, zk_ts, zk_tn, zk_cases, true_and, and_true, List.getElem?_cons_zero, List.getElem?_cons_succ, List.length_cons, List.length_nil, Nat.reduceAdd, Nat.reduceLT, Nat.reduceLeDiff, List.set_cons_zero, List.set_cons_succ, va_rf, iz_lit, iz_le]
        exact ⟨fun _ => f, fun q => absurd q (by omega)⟩
      | succ q ih =>
        intro k v m1 h1 hk hq hv e
        rw [u_156_53]
        by_cases cv : v = 2147483647
        · have f := fin m1 v (some (.int (iz k))) h1 hv (by rw [e, cv, bt_far])
          have e1 : nef v = -1 := by rw [cv]; rfl
          rw [e1] at f ⊢
          simp (disch := first | omega | assumption | (simp; done)) only [u_156_0, u_156_1, u_156_2, u_156_5, u_156_8, u_156_9, u_156_10, u_156_12, u_156_15, u_156_18, u_156_19, u_156_20, u_156_22, u_156_25, u_156_28, u_156_30, u_156_31, u_156_33, u_156_36, u_156_39, u_156_40, u_156_41, u_156_42, u_156_43, u_156_44, u_156_45, u_156_48, u_156_50, u_156_51, u_156_55, u_156_57, u_156_60, u_156_62, u_156_66, u_156_67, u_156_69, u_156_70, u_156_71, u_156_72, u_156_75, u_156_77, u_156_80, u_156_85, u_156_88, u_156_90, u_156_93, u_156_95, true_or, or_true, zk_li1_s, zk_ll1_s, zk_la1_r, zk_la1_n, zk_lg0, zk_lgs, zk_co_n, zk_co_i, zk_co_r, zk_co_u, zk_co_l, zk_l1_0, zk_l1_1, zk_l1_s, zk_l2_0, zk_l2_1, zk_l2_s, zk_sm0, zk_smi, zk_smr, zk_smn, zk_sml, zk_fi, zk_fz, zk_fo, zk_fn, zk_fa, zk_ts, zk_tn, zk_cases, true_and, and_true, List.getElem?_cons_zero, List.getElem?_cons_succ, List.length_cons, List.length_nil, Nat.reduceAdd, Nat.reduceLT, Nat.reduceLeDiff, List.set_cons_zero, List.set_cons_succ, va_rf, iz_lit, iz_neg, iz_le, iz_lt]
          (repeat' (first | exact f | apply And.intro | intro _)) <;> first | omega | (exfalso; omega)
        · obtain ⟨m2, w, w1, w2, w3⟩ := d_dueFrom hB ((dtx_jI h1 j).mpr hJj) (v + 1) b (by omega) (by omega)
          rw [dtx_due h1] at w2
          have wr : w = 2147483647 ∨ (0 ≤ w ∧ w ≤ 21038399) := by rcases w2 with ⟨e, -⟩ | ⟨e1, e2, -⟩ <;> omega
          have nx := ih (k + 1) w m2 (dtx_t h1 w1) (by omega) (by omega) wr (by rw [e]; show (if v = 2147483647 then v else bt (dueJ m j) b q (ffd (dueJ m j) (v + 1) b)) = _; rw [if_neg cv, ffd_eq w2])
          rw [nef_n cv]
          simp (disch := first | omega | assumption | (simp; done)) only [u_156_0, u_156_1, u_156_2, u_156_5, u_156_8, u_156_9, u_156_10, u_156_12, u_156_15, u_156_18, u_156_19, u_156_20, u_156_22, u_156_25, u_156_28, u_156_30, u_156_31, u_156_33, u_156_36, u_156_39, u_156_40, u_156_41, u_156_42, u_156_43, u_156_44, u_156_45, u_156_48, u_156_50, u_156_51, u_156_55, u_156_57, u_156_60, u_156_62, u_156_65, u_156_66, u_156_67, u_156_69, u_156_70, u_156_71, u_156_72, u_156_75, u_156_77, u_156_80, u_156_85, u_156_88, u_156_90, u_156_93, u_156_95, true_or, or_true, zk_li1_s, zk_ll1_s, zk_la1_r, zk_la1_n, zk_lg0, zk_lgs, zk_co_n, zk_co_i, zk_co_r, zk_co_u, zk_co_l, zk_l1_0, zk_l1_1, zk_l1_s, zk_l2_0, zk_l2_1, zk_l2_s, zk_sm0, zk_smi, zk_smr, zk_smn, zk_sml, zk_fi, zk_fz, zk_fo, zk_fn, zk_fa, zk_ts, zk_tn, zk_cases, true_and, and_true, List.getElem?_cons_zero, List.getElem?_cons_succ, List.length_cons, List.length_nil, Nat.reduceAdd, Nat.reduceLT, Nat.reduceLeDiff, List.set_cons_zero, List.set_cons_succ, va_rf, ic, iz_lit, iz_neg, iz_le, iz_lt, iz_add, w3]
          (repeat' (first | exact nx | apply And.intro | intro _)) <;> first | omega | (exfalso; omega)
    obtain ⟨m2, w, w1, w2, w3⟩ := d_dueFrom hB hJj a b (by omega) (by omega)
    have wr : w = 2147483647 ∨ (0 ≤ w ∧ w ≤ 21038399) := by rcases w2 with ⟨e, -⟩ | ⟨e1, e2, -⟩ <;> omega
    have l1 := loop i.toNat 0 w m2 w1 (by omega) (by omega) wr (by rw [ffd_eq w2])
    simp (disch := first | omega | assumption | (simp; done)) only [u_156_0, u_156_1, u_156_2, u_156_5, u_156_8, u_156_9, u_156_10, u_156_12, u_156_15, u_156_18, u_156_19, u_156_20, u_156_22, u_156_25, u_156_28, u_156_30, u_156_31, u_156_33, u_156_36, u_156_40, u_156_41, u_156_42, u_156_43, u_156_44, u_156_45, u_156_48, u_156_50, u_156_51, u_156_55, u_156_57, u_156_60, u_156_62, u_156_65, u_156_66, u_156_67, u_156_69, u_156_70, u_156_71, u_156_72, u_156_75, u_156_77, u_156_80, u_156_83, u_156_85, u_156_88, u_156_90, u_156_93, u_156_95, true_or, or_true, zk_li1_s, zk_ll1_s, zk_la1_r, zk_la1_n, zk_lg0, zk_lgs, zk_co_n, zk_co_i, zk_co_r, zk_co_u, zk_co_l, zk_l1_0, zk_l1_1, zk_l1_s, zk_l2_0, zk_l2_1, zk_l2_s, zk_sm0, zk_smi, zk_smr, zk_smn, zk_sml, zk_fi, zk_fz, zk_fo, zk_fn, zk_fa, zk_ts, zk_tn, zk_cases, true_and, and_true, List.getElem?_cons_zero, List.getElem?_cons_succ, List.length_cons, List.length_nil, Nat.reduceAdd, Nat.reduceLT, Nat.reduceLeDiff, List.set_cons_zero, List.set_cons_succ, va_rf, ic, iz_lit, iz_neg, iz_inj, ij, in1, in2, in3, w3]
    (repeat' (first | exact l1 | apply And.intro | intro _)) <;> first | omega | (exfalso; omega)
  · simp (disch := first | omega | assumption | (simp; done)) only [u_156_0, u_156_1, u_156_2, u_156_5, u_156_8, u_156_9, u_156_10, u_156_12, u_156_15, u_156_18, u_156_19, u_156_20, u_156_22, u_156_25, u_156_28, u_156_30, u_156_31, u_156_33, u_156_36, u_156_39, u_156_40, u_156_42, u_156_43, u_156_44, u_156_45, u_156_48, u_156_50, u_156_51, u_156_53, u_156_55, u_156_57, u_156_60, u_156_62, u_156_65, u_156_66, u_156_67, u_156_69, u_156_70, u_156_71, u_156_72, u_156_75, u_156_77, u_156_80, u_156_83, u_156_85, u_156_88, u_156_90, u_156_93, u_156_95, true_or, or_true, zk_li1_s, zk_ll1_s, zk_la1_r, zk_la1_n, zk_lg0, zk_lgs, zk_co_n, zk_co_i, zk_co_r, zk_co_u, zk_co_l, zk_l1_0, zk_l1_1, zk_l1_s, zk_l2_0, zk_l2_1, zk_l2_s, zk_sm0, zk_smi, zk_smr, zk_smn, zk_sml, zk_fi, zk_fz, zk_fo, zk_fn, zk_fa, zk_ts, zk_tn, zk_cases, true_and, and_true, List.getElem?_cons_zero, List.getElem?_cons_succ, List.length_cons, List.length_nil, Nat.reduceAdd, Nat.reduceLT, Nat.reduceLeDiff, List.set_cons_zero, List.set_cons_succ, va_rf, ic, iz_lit, iz_neg, iz_inj, ij, in1, in2, in3, ii_0]
    all_goals ((repeat' (first | exact trivial | exact ⟨rfl, rfl⟩ | rfl | apply And.intro | intro _)) <;> first | omega | (exfalso; omega) | contradiction | (exfalso; simp_all; done) | trace_state)
theorem d_runNow (hB : hpo G B M) {m : mS} (hr : rg m) (h10 : 0 ≤ m 10 0 ∧ m 10 0 ≤ 12) (hJ : ∀ j, 0 ≤ j → j < 12 → jI m j ∧ eI m j) (h0 : 0 ≤ m 0 0 ∧ m 0 0 ≤ 21038399) (h32 : ∀ i, 0 ≤ i → i < 36 → -1 ≤ m 32 i ∧ m 32 i ≤ 21038399) (j : Int) (hj : -2147483648 ≤ j ∧ j ≤ 2147483647) : ∃ m', dtx (f_rn m j) m' ∧ ∀ Q : Option Value → zk_H → Prop, zk_wp G 157 0 [some (.ref M), some (.int (iz j)), none, none] [] (hp G B M m) Q ↔ Q (some (.int (iz (v_rn m j)))) (hp G B M m') := by
  have ic := hp_ic hB
  have ij := d_isJob hB h10 j hj
  by_cases c : 0 ≤ j ∧ j < m 10 0
  · rw [if_pos c] at ij
    obtain ⟨hJj, hE⟩ := hJ j (by omega) (by omega)
    have hE1 := hE.1
    have b1 := h32 j (by omega) (by omega)
    have b2 := h32 (12 + j) (by omega) (by omega)
    have b3 := h32 (24 + j) (by omega) (by omega)
    have b28 := hJj.2.2.2.2.2.2.2.2.2.1
    suffices hw : zk_wp G 157 0 [some (.ref M), some (.int (iz j)), none, none] [] (hp G B M m) (fun r h' => ∃ m', dtx (f_rn m j) m' ∧ r = some (.int (iz (v_rn m j))) ∧ h' = hp G B M m') by
      obtain ⟨r0, h0, ⟨m', b1, rfl, rfl⟩, b3⟩ := zk_some hw
      exact ⟨m', b1, b3⟩
    generalize hQ : (fun (r : Option Value) (h' : zk_H) => ∃ m', dtx (f_rn m j) m' ∧ r = some (.int (iz (v_rn m j))) ∧ h' = hp G B M m') = P
    have mo1 := d_more (G := G) (hp G B M m) (m 32 (12 + j)) (m 32 (24 + j)) (by omega) (by omega)
    have mo2 := d_more (G := G) (hp G B M m) (m 32 j) (max (m 32 (12 + j)) (m 32 (24 + j))) (by omega) (by omega)
    have m3r : -1 ≤ mst3 m j ∧ mst3 m j ≤ 21038399 := by unfold mst3; omega
    have m3e : max (m 32 j) (max (m 32 (12 + j)) (m 32 (24 + j))) = mst3 m j := rfl
    obtain ⟨m2, w, w1, w2, w3⟩ := d_dueFrom hB hJj (mst3 m j + 1) (m 0 0) (by omega) (by omega)
    have wr : w = 2147483647 ∨ (0 ≤ w ∧ w ≤ 21038399) := by rcases w2 with ⟨e, -⟩ | ⟨e1, e2, -⟩ <;> omega
    have y2 : ∀ k z, k ≠ 7 → k ≠ 8 → k ≠ 9 → m2 k z = m k z := w1
    have ffe := ffd_eq w2
    have tail : ∀ (o3 : Option Value), zk_wp G 157 59 [some (.ref M), some (.int (iz j)), some (.int (iz (bi (bhB m j)))), o3] [] (hp G B M m) P := by
      intro o3
      rw [u_157_59]
      by_cases cb : bhB m j = true
      · rw [cb]
        simp (disch := first | omega | assumption | (simp; done)) only [u_157_0, u_157_1, u_157_2, u_157_5, u_157_8, u_157_9, u_157_10, u_157_11, u_157_12, u_157_13, u_157_14, u_157_15, u_157_16, u_157_19, u_157_20, u_157_21, u_157_24, u_157_25, u_157_28, u_157_29, u_157_32, u_157_35, u_157_36, u_157_37, u_157_38, u_157_39, u_157_40, u_157_41, u_157_44, u_157_47, u_157_48, u_157_51, u_157_52, u_157_53, u_157_56, u_157_60, u_157_63, u_157_64, u_157_65, u_157_66, u_157_69, u_157_71, u_157_72, u_157_73, u_157_74, u_157_75, u_157_78, u_157_80, u_157_81, u_157_82, u_157_83, u_157_86, u_157_89, u_157_90, u_157_91, u_157_95, u_157_96, u_157_97, u_157_98, u_157_99, u_157_100, u_157_103, u_157_106, u_157_109, u_157_111, u_157_113, u_157_116, u_157_117, u_157_118, u_157_120, u_157_123, u_157_125, u_157_126, u_157_127, u_157_130, u_157_132, u_157_133, u_157_134, u_157_135, u_157_138, u_157_139, u_157_140, u_157_141, u_157_142, u_157_145, u_157_146, u_157_147, u_157_150, u_157_151, u_157_152, u_157_153, u_157_154, u_157_155, u_157_156, u_157_157, u_157_160, u_157_161, u_157_162, true_or, or_true, zk_li1_s, zk_ll1_s, zk_la1_r, zk_la1_n, zk_lg0, zk_lgs, zk_co_n, zk_co_i, zk_co_r, zk_co_u, zk_co_l, zk_l1_0, zk_l1_1, zk_l1_s, zk_l2_0, zk_l2_1, zk_l2_s, zk_sm0, zk_smi, zk_smr, zk_smn, zk_sml, zk_fi, zk_fz, zk_fo, zk_fn, zk_fa, zk_ts, zk_tn, zk_cases, true_and, and_true, List.getElem?_cons_zero, List.getElem?_cons_succ, List.length_cons, List.length_nil, Nat.reduceAdd, Nat.reduceLT, Nat.reduceLeDiff, List.set_cons_zero, List.set_cons_succ, va_rf, ic, iz_lit, iz_neg, iz_add, bi_0, mg_32 hB, mr_32 hB, mw_32 hB, mo1, mo2, m3e]
        refine ⟨fun _ => ?_, fun q => absurd q (by decide)⟩
        rw [← hQ]
        refine ⟨m, ?_, ?_, rfl⟩
        · unfold f_rn; rw [if_neg (fun q => q.2.1 (Or.inl cb))]; exact dtx_r m
        · unfold v_rn; rw [if_pos c, if_pos (Or.inl cb)]
      · have cb' : bhB m j = false := by simpa using cb
        rw [cb']
        by_cases cw : w = 2147483647
        · have e1 : nef w = -1 := by rw [cw]; rfl
          rw [e1] at w3
          have nc : ¬ (bhB m j = true ∨ ffd (dueJ m j) (mst3 m j + 1) (m 0 0) ≠ 2147483647) := by
            rw [ffe, cb', cw]; simp
          by_cases c8 : m 28 j = 8
          · have hP : P (some (.int (iz (-3)))) (hp G B M m2) := by
              rw [← hQ]
              refine ⟨m2, ?_, ?_, rfl⟩
              · unfold f_rn; rw [if_neg (fun q => q.2.2 c8)]; exact w1
              · unfold v_rn; rw [if_pos c, if_neg nc, if_pos c8]
            simp (disch := first | omega | assumption | (simp; done)) only [u_157_0, u_157_1, u_157_2, u_157_5, u_157_8, u_157_9, u_157_10, u_157_11, u_157_12, u_157_13, u_157_14, u_157_15, u_157_16, u_157_19, u_157_20, u_157_21, u_157_24, u_157_25, u_157_28, u_157_29, u_157_32, u_157_35, u_157_36, u_157_37, u_157_38, u_157_39, u_157_40, u_157_41, u_157_44, u_157_47, u_157_48, u_157_51, u_157_52, u_157_53, u_157_56, u_157_60, u_157_63, u_157_64, u_157_65, u_157_66, u_157_69, u_157_71, u_157_72, u_157_73, u_157_74, u_157_75, u_157_78, u_157_80, u_157_81, u_157_82, u_157_83, u_157_86, u_157_89, u_157_90, u_157_91, u_157_94, u_157_95, u_157_96, u_157_97, u_157_98, u_157_99, u_157_100, u_157_103, u_157_106, u_157_111, u_157_112, u_157_113, u_157_116, u_157_117, u_157_118, u_157_120, u_157_123, u_157_125, u_157_127, u_157_130, u_157_132, u_157_133, u_157_134, u_157_135, u_157_138, u_157_139, u_157_140, u_157_141, u_157_142, u_157_145, u_157_146, u_157_147, u_157_150, u_157_151, u_157_152, u_157_153, u_157_154, u_157_155, u_157_156, u_157_157, u_157_160, u_157_161, u_157_162, true_or, or_true, zk_li1_s, zk_ll1_s, zk_la1_r, zk_la1_n, zk_lg0, zk_lgs, zk_co_n, zk_co_i, zk_co_r, zk_co_u, zk_co_l, zk_l1_0, zk_l1_1, zk_l1_s, zk_l2_0, zk_l2_1, zk_l2_s, zk_sm0, zk_smi, zk_smr, zk_smn, zk_sml, zk_fi, zk_fz, zk_fo, zk_fn, zk_fa, zk_ts, zk_tn, zk_cases, true_and, and_true, List.getElem?_cons_zero, List.getElem?_cons_succ, List.length_cons, List.length_nil, Nat.reduceAdd, Nat.reduceLT, Nat.reduceLeDiff, List.set_cons_zero, List.set_cons_succ, va_rf, ic, iz_lit, iz_neg, iz_inj, iz_lt, iz_add, bi_0, mg_0 hB, mw_0 hB, mg_28 hB, mr_28 hB, mw_28 hB, mg_32 hB, mr_32 hB, mw_32 hB, mo1, mo2, m3e, w3, y2]
            (repeat' (first | exact hP | apply And.intro | intro _)) <;> first | omega | (exfalso; omega) | contradiction | (exfalso; simp_all; done)
          · have hP : P (some (.int (iz (m 28 j + 1)))) (hp G B M (up (up m2 29 (8 * j + m 28 j) (m 0 0)) 28 j (m 28 j + 1))) := by
              rw [← hQ]
              refine ⟨_, ?_, ?_, rfl⟩
              · unfold f_rn; rw [if_pos ⟨c, nc, c8⟩]; exact dtx_up (dtx_up w1 _ _ _) _ _ _
              · unfold v_rn; rw [if_pos c, if_neg nc, if_neg c8]
            simp (disch := first | omega | assumption | (simp; done)) only [u_157_0, u_157_1, u_157_2, u_157_5, u_157_8, u_157_9, u_157_10, u_157_11, u_157_12, u_157_13, u_157_14, u_157_15, u_157_16, u_157_19, u_157_20, u_157_21, u_157_24, u_157_25, u_157_28, u_157_29, u_157_32, u_157_35, u_157_36, u_157_37, u_157_38, u_157_39, u_157_40, u_157_41, u_157_44, u_157_47, u_157_48, u_157_51, u_157_52, u_157_53, u_157_56, u_157_60, u_157_63, u_157_64, u_157_65, u_157_66, u_157_69, u_157_71, u_157_72, u_157_73, u_157_74, u_157_75, u_157_78, u_157_80, u_157_81, u_157_82, u_157_83, u_157_86, u_157_89, u_157_90, u_157_91, u_157_94, u_157_95, u_157_96, u_157_97, u_157_98, u_157_99, u_157_100, u_157_103, u_157_106, u_157_111, u_157_112, u_157_113, u_157_116, u_157_117, u_157_118, u_157_120, u_157_125, u_157_126, u_157_127, u_157_130, u_157_132, u_157_133, u_157_134, u_157_135, u_157_138, u_157_139, u_157_140, u_157_141, u_157_142, u_157_145, u_157_146, u_157_147, u_157_150, u_157_151, u_157_152, u_157_153, u_157_154, u_157_155, u_157_156, u_157_157, u_157_160, u_157_161, u_157_162, true_or, or_true, zk_li1_s, zk_ll1_s, zk_la1_r, zk_la1_n, zk_lg0, zk_lgs, zk_co_n, zk_co_i, zk_co_r, zk_co_u, zk_co_l, zk_l1_0, zk_l1_1, zk_l1_s, zk_l2_0, zk_l2_1, zk_l2_s, zk_sm0, zk_smi, zk_smr, zk_smn, zk_sml, zk_fi, zk_fz, zk_fo, zk_fn, zk_fa, zk_ts, zk_tn, zk_cases, true_and, and_true, List.getElem?_cons_zero, List.getElem?_cons_succ, List.length_cons, List.length_nil, Nat.reduceAdd, Nat.reduceLT, Nat.reduceLeDiff, List.set_cons_zero, List.set_cons_succ, va_rf, ic, iz_lit, iz_neg, iz_inj, iz_lt, iz_mul, iz_add, bi_0, mg_0 hB, mw_0 hB, mg_28 hB, mr_28 hB, mw_28 hB, mg_29 hB, mr_29 hB, mw_29 hB, mg_32 hB, mr_32 hB, mw_32 hB, mo1, mo2, m3e, w3, y2, up_b, Nat.reduceEqDiff, eq_self, if_true, if_false, reduceIte]
            (repeat' (first | exact hP | apply And.intro | intro _)) <;> first | omega | (exfalso; omega) | contradiction | (exfalso; simp_all; done)
        · have e1 := nef_n cw
          rw [e1] at w3
          have nc : bhB m j = true ∨ ffd (dueJ m j) (mst3 m j + 1) (m 0 0) ≠ 2147483647 := by
            rw [ffe]; exact Or.inr cw
          have hP : P (some (.int (iz (-2)))) (hp G B M m2) := by
            rw [← hQ]
            refine ⟨m2, ?_, ?_, rfl⟩
            · unfold f_rn; rw [if_neg (fun q => q.2.1 nc)]; exact w1
            · unfold v_rn; rw [if_pos c, if_pos nc]
          simp (disch := first | omega | assumption | (simp; done)) only [u_157_0, u_157_1, u_157_2, u_157_5, u_157_8, u_157_9, u_157_10, u_157_11, u_157_12, u_157_13, u_157_14, u_157_15, u_157_16, u_157_19, u_157_20, u_157_21, u_157_24, u_157_25, u_157_28, u_157_29, u_157_32, u_157_35, u_157_36, u_157_37, u_157_38, u_157_39, u_157_40, u_157_41, u_157_44, u_157_47, u_157_48, u_157_51, u_157_52, u_157_53, u_157_56, u_157_60, u_157_63, u_157_64, u_157_65, u_157_66, u_157_69, u_157_71, u_157_72, u_157_73, u_157_74, u_157_75, u_157_78, u_157_80, u_157_81, u_157_82, u_157_83, u_157_86, u_157_89, u_157_90, u_157_91, u_157_94, u_157_95, u_157_96, u_157_97, u_157_98, u_157_99, u_157_100, u_157_103, u_157_106, u_157_109, u_157_111, u_157_113, u_157_116, u_157_117, u_157_118, u_157_120, u_157_123, u_157_125, u_157_126, u_157_127, u_157_130, u_157_132, u_157_133, u_157_134, u_157_135, u_157_138, u_157_139, u_157_140, u_157_141, u_157_142, u_157_145, u_157_146, u_157_147, u_157_150, u_157_151, u_157_152, u_157_153, u_157_154, u_157_155, u_157_156, u_157_157, u_157_160, u_157_161, u_157_162, true_or, or_true, zk_li1_s, zk_ll1_s, zk_la1_r, zk_la1_n, zk_lg0, zk_lgs, zk_co_n, zk_co_i, zk_co_r, zk_co_u, zk_co_l, zk_l1_0, zk_l1_1, zk_l1_s, zk_l2_0, zk_l2_1, zk_l2_s, zk_sm0, zk_smi, zk_smr, zk_smn, zk_sml, zk_fi, zk_fz, zk_fo, zk_fn, zk_fa, zk_ts, zk_tn, zk_cases, true_and, and_true, List.getElem?_cons_zero, List.getElem?_cons_succ, List.length_cons, List.length_nil, Nat.reduceAdd, Nat.reduceLT, Nat.reduceLeDiff, List.set_cons_zero, List.set_cons_succ, va_rf, ic, iz_lit, iz_neg, iz_inj, iz_lt, iz_add, bi_0, mg_0 hB, mw_0 hB, mg_32 hB, mr_32 hB, mw_32 hB, mo1, mo2, m3e, w3, y2]
          (repeat' (first | exact hP | apply And.intro | intro _)) <;> first | omega | (exfalso; omega) | contradiction | (exfalso; simp_all; done)
    have loop : ∀ (q : Nat) (k : Int) (bb : Bool), 0 ≤ k → k + q = m 46 j → (bb = true ↔ ∃ i, 0 ≤ i ∧ i < k ∧ m 0 0 ≤ m 47 (300 * j + i)) → zk_wp G 157 14 [some (.ref M), some (.int (iz j)), some (.int (iz (bi bb))), some (.int (iz k))] [] (hp G B M m) P := by
      intro q
      induction q with
      | zero =>
        intro k bb hk hq hI
        have e : bb = bhB m j := by
          rw [Bool.eq_iff_iff, hI]
          unfold bhB
          rw [bol_t, show k = m 46 j by omega]
        have tl := tail (some (.int (iz k)))
        rw [← e] at tl
        rw [u_157_14]
        simp (disch := first | omega | assumption | (simp; done)) only [u_157_0, u_157_1, u_157_2, u_157_5, u_157_8, u_157_9, u_157_10, u_157_11, u_157_12, u_157_13, u_157_15, u_157_16, u_157_19, u_157_20, u_157_21, u_157_25, u_157_28, u_157_29, u_157_32, u_157_35, u_157_36, u_157_37, u_157_38, u_157_39, u_157_40, u_157_41, u_157_44, u_157_47, u_157_48, u_157_51, u_157_52, u_157_53, u_157_56, u_157_60, u_157_63, u_157_64, u_157_65, u_157_66, u_157_69, u_157_71, u_157_72, u_157_73, u_157_74, u_157_75, u_157_78, u_157_80, u_157_81, u_157_82, u_157_83, u_157_86, u_157_89, u_157_90, u_157_91, u_157_94, u_157_95, u_157_96, u_157_97, u_157_98, u_157_99, u_157_100, u_157_103, u_157_106, u_157_109, u_157_111, u_157_112, u_157_113, u_157_116, u_157_117, u_157_118, u_157_120, u_157_123, u_157_125, u_157_126, u_157_127, u_157_130, u_157_132, u_157_133, u_157_134, u_157_135, u_157_138, u_157_139, u_157_140, u_157_141, u_157_142, u_157_145, u_157_146, u_157_147, u_157_150, u_157_151, u_157_152, u_157_153, u_157_154, u_157_155, u_157_156, u_157_157, u_157_160, u_157_161, u_157_162, true_or, or_true, zk_li1_s, zk_ll1_s, zk_la1_r, zk_la1_n, zk_lg0, zk_lgs, zk_co_n, zk_co_i, zk_co_r, zk_co_u, zk_co_l, zk_l1_0, zk_l1_1, zk_l1_s, zk_l2_0, zk_l2_1, zk_l2_s, zk_sm0, zk_smi, zk_smr, zk_smn, zk_sml, zk_fi, zk_fz, zk_fo, zk_fn, zk_fa, zk_ts, zk_tn, zk_cases, true_and, and_true, List.getElem?_cons_zero, List.getElem?_cons_succ, List.length_cons, List.length_nil, Nat.reduceAdd, Nat.reduceLT, Nat.reduceLeDiff, List.set_cons_zero, List.set_cons_succ, va_rf, iz_lit, iz_le, mg_46 hB, mr_46 hB, mw_46 hB]
        exact ⟨fun _ => tl, fun q => absurd q (by omega)⟩
      | succ q ih =>
        intro k bb hk hq hI
        have hx := hE.2 k hk (by omega)
        have st : ∀ b2 : Bool, (b2 = true ↔ (bb = true ∨ m 0 0 ≤ m 47 (300 * j + k))) → (b2 = true ↔ ∃ i, 0 ≤ i ∧ i < k + 1 ∧ m 0 0 ≤ m 47 (300 * j + i)) := by
          intro b2 hb2
          rw [hb2, hI]
          constructor
          · rintro (⟨i, i1, i2, i3⟩ | h)
            · exact ⟨i, i1, by omega, i3⟩
            · exact ⟨k, hk, by omega, h⟩
          · rintro ⟨i, i1, i2, i3⟩
            by_cases ci : i = k
            · rw [ci] at i3; exact Or.inr i3
            · exact Or.inl ⟨i, i1, by omega, i3⟩
        rw [u_157_14]
        by_cases cb : bb = true
        · have nx := ih (k + 1) true (by omega) (by omega) (st true (by simp [cb]))
          rw [cb]
          have e1 : bi true = 1 := rfl
          rw [e1] at nx ⊢
          simp (disch := first | omega | assumption | (simp; done)) only [u_157_0, u_157_1, u_157_2, u_157_5, u_157_8, u_157_9, u_157_10, u_157_11, u_157_12, u_157_13, u_157_15, u_157_16, u_157_19, u_157_20, u_157_21, u_157_24, u_157_25, u_157_29, u_157_32, u_157_35, u_157_36, u_157_37, u_157_38, u_157_39, u_157_40, u_157_41, u_157_44, u_157_47, u_157_48, u_157_51, u_157_52, u_157_53, u_157_56, u_157_60, u_157_63, u_157_64, u_157_65, u_157_66, u_157_69, u_157_71, u_157_72, u_157_73, u_157_74, u_157_75, u_157_78, u_157_80, u_157_81, u_157_82, u_157_83, u_157_86, u_157_89, u_157_90, u_157_91, u_157_94, u_157_95, u_157_96, u_157_97, u_157_98, u_157_99, u_157_100, u_157_103, u_157_106, u_157_109, u_157_111, u_157_112, u_157_113, u_157_116, u_157_117, u_157_118, u_157_120, u_157_123, u_157_125, u_157_126, u_157_127, u_157_130, u_157_132, u_157_133, u_157_134, u_157_135, u_157_138, u_157_139, u_157_140, u_157_141, u_157_142, u_157_145, u_157_146, u_157_147, u_157_150, u_157_151, u_157_152, u_157_153, u_157_154, u_157_155, u_157_156, u_157_157, u_157_160, u_157_161, u_157_162, true_or, or_true, zk_li1_s, zk_ll1_s, zk_la1_r, zk_la1_n, zk_lg0, zk_lgs, zk_co_n, zk_co_i, zk_co_r, zk_co_u, zk_co_l, zk_l1_0, zk_l1_1, zk_l1_s, zk_l2_0, zk_l2_1, zk_l2_s, zk_sm0, zk_smi, zk_smr, zk_smn, zk_sml, zk_fi, zk_fz, zk_fo, zk_fn, zk_fa, zk_ts, zk_tn, zk_cases, true_and, and_true, List.getElem?_cons_zero, List.getElem?_cons_succ, List.length_cons, List.length_nil, Nat.reduceAdd, Nat.reduceLT, Nat.reduceLeDiff, List.set_cons_zero, List.set_cons_succ, va_rf, ic, iz_lit, iz_inj, iz_le, iz_lt, iz_mul, iz_add, mg_0 hB, mw_0 hB, mg_46 hB, mr_46 hB, mw_46 hB, mg_47 hB, mr_47 hB, mw_47 hB]
          (repeat' (first | exact nx | apply And.intro | intro _)) <;> first | omega | (exfalso; omega)
        · have cb' : bb = false := by simpa using cb
          rw [cb']
          have e0 : bi false = 0 := rfl
          have e1 : bi true = 1 := rfl
          rw [e0]
          by_cases cm : m 0 0 ≤ m 47 (300 * j + k)
          · have nx := ih (k + 1) true (by omega) (by omega) (st true (by simp [cm]))
            rw [e1] at nx
            simp (disch := first | omega | assumption | (simp; done)) only [u_157_0, u_157_1, u_157_2, u_157_5, u_157_8, u_157_9, u_157_10, u_157_11, u_157_12, u_157_13, u_157_15, u_157_16, u_157_19, u_157_20, u_157_21, u_157_24, u_157_25, u_157_28, u_157_29, u_157_32, u_157_35, u_157_36, u_157_37, u_157_38, u_157_39, u_157_40, u_157_41, u_157_44, u_157_47, u_157_48, u_157_51, u_157_52, u_157_53, u_157_56, u_157_60, u_157_63, u_157_64, u_157_65, u_157_66, u_157_69, u_157_71, u_157_72, u_157_73, u_157_74, u_157_75, u_157_78, u_157_80, u_157_81, u_157_82, u_157_83, u_157_86, u_157_89, u_157_90, u_157_91, u_157_94, u_157_95, u_157_96, u_157_97, u_157_98, u_157_99, u_157_100, u_157_103, u_157_106, u_157_109, u_157_111, u_157_112, u_157_113, u_157_116, u_157_117, u_157_118, u_157_120, u_157_123, u_157_125, u_157_126, u_157_127, u_157_130, u_157_132, u_157_133, u_157_134, u_157_135, u_157_138, u_157_139, u_157_140, u_157_141, u_157_142, u_157_145, u_157_146, u_157_147, u_157_150, u_157_151, u_157_152, u_157_153, u_157_154, u_157_155, u_157_156, u_157_157, u_157_160, u_157_161, u_157_162, true_or, or_true, zk_li1_s, zk_ll1_s, zk_la1_r, zk_la1_n, zk_lg0, zk_lgs, zk_co_n, zk_co_i, zk_co_r, zk_co_u, zk_co_l, zk_l1_0, zk_l1_1, zk_l1_s, zk_l2_0, zk_l2_1, zk_l2_s, zk_sm0, zk_smi, zk_smr, zk_smn, zk_sml, zk_fi, zk_fz, zk_fo, zk_fn, zk_fa, zk_ts, zk_tn, zk_cases, true_and, and_true, List.getElem?_cons_zero, List.getElem?_cons_succ, List.length_cons, List.length_nil, Nat.reduceAdd, Nat.reduceLT, Nat.reduceLeDiff, List.set_cons_zero, List.set_cons_succ, va_rf, ic, iz_lit, iz_inj, iz_le, iz_lt, iz_mul, iz_add, mg_0 hB, mw_0 hB, mg_46 hB, mr_46 hB, mw_46 hB, mg_47 hB, mr_47 hB, mw_47 hB]
            (repeat' (first | exact nx | apply And.intro | intro _)) <;> first | omega | (exfalso; omega)
          · have nx := ih (k + 1) false (by omega) (by omega) (st false (by simp [cb', cm]))
            rw [e0] at nx
            simp (disch := first | omega | assumption | (simp; done)) only [u_157_0, u_157_1, u_157_2, u_157_5, u_157_8, u_157_9, u_157_10, u_157_11, u_157_12, u_157_13, u_157_15, u_157_16, u_157_19, u_157_20, u_157_21, u_157_24, u_157_25, u_157_28, u_157_29, u_157_32, u_157_35, u_157_36, u_157_37, u_157_38, u_157_39, u_157_40, u_157_41, u_157_44, u_157_47, u_157_48, u_157_51, u_157_52, u_157_53, u_157_56, u_157_60, u_157_63, u_157_64, u_157_65, u_157_66, u_157_69, u_157_71, u_157_72, u_157_73, u_157_74, u_157_75, u_157_78, u_157_80, u_157_81, u_157_82, u_157_83, u_157_86, u_157_89, u_157_90, u_157_91, u_157_94, u_157_95, u_157_96, u_157_97, u_157_98, u_157_99, u_157_100, u_157_103, u_157_106, u_157_109, u_157_111, u_157_112, u_157_113, u_157_116, u_157_117, u_157_118, u_157_120, u_157_123, u_157_125, u_157_126, u_157_127, u_157_130, u_157_132, u_157_133, u_157_134, u_157_135, u_157_138, u_157_139, u_157_140, u_157_141, u_157_142, u_157_145, u_157_146, u_157_147, u_157_150, u_157_151, u_157_152, u_157_153, u_157_154, u_157_155, u_157_156, u_157_157, u_157_160, u_157_161, u_157_162, true_or, or_true, zk_li1_s, zk_ll1_s, zk_la1_r, zk_la1_n, zk_lg0, zk_lgs, zk_co_n, zk_co_i, zk_co_r, zk_co_u, zk_co_l, zk_l1_0, zk_l1_1, zk_l1_s, zk_l2_0, zk_l2_1, zk_l2_s, zk_sm0, zk_smi, zk_smr, zk_smn, zk_sml, zk_fi, zk_fz, zk_fo, zk_fn, zk_fa, zk_ts, zk_tn, zk_cases, true_and, and_true, List.getElem?_cons_zero, List.getElem?_cons_succ, List.length_cons, List.length_nil, Nat.reduceAdd, Nat.reduceLT, Nat.reduceLeDiff, List.set_cons_zero, List.set_cons_succ, va_rf, ic, iz_lit, iz_inj, iz_le, iz_lt, iz_mul, iz_add, mg_0 hB, mw_0 hB, mg_46 hB, mr_46 hB, mw_46 hB, mg_47 hB, mr_47 hB, mw_47 hB]
            (repeat' (first | exact nx | apply And.intro | intro _)) <;> first | omega | (exfalso; omega) | contradiction | exact absurd trivial (by assumption) | (exfalso; simp_all; done)
    have l1 := loop (m 46 j).toNat 0 false (by omega) (by omega) (by
      constructor
      · intro q; cases q
      · rintro ⟨i, i1, i2, -⟩; omega)
    have e0 : bi false = 0 := rfl
    rw [e0] at l1
    simp (disch := first | omega | assumption | (simp; done)) only [u_157_0, u_157_1, u_157_2, u_157_5, u_157_9, u_157_10, u_157_11, u_157_12, u_157_13, u_157_15, u_157_16, u_157_19, u_157_20, u_157_21, u_157_24, u_157_25, u_157_28, u_157_29, u_157_32, u_157_35, u_157_36, u_157_37, u_157_38, u_157_39, u_157_40, u_157_41, u_157_44, u_157_47, u_157_48, u_157_51, u_157_52, u_157_53, u_157_56, u_157_59, u_157_60, u_157_63, u_157_64, u_157_65, u_157_66, u_157_69, u_157_71, u_157_72, u_157_73, u_157_74, u_157_75, u_157_78, u_157_80, u_157_81, u_157_82, u_157_83, u_157_86, u_157_89, u_157_90, u_157_91, u_157_94, u_157_95, u_157_96, u_157_97, u_157_98, u_157_99, u_157_100, u_157_103, u_157_106, u_157_109, u_157_111, u_157_112, u_157_113, u_157_116, u_157_117, u_157_118, u_157_120, u_157_123, u_157_125, u_157_126, u_157_127, u_157_130, u_157_132, u_157_133, u_157_134, u_157_135, u_157_138, u_157_139, u_157_140, u_157_141, u_157_142, u_157_145, u_157_146, u_157_147, u_157_150, u_157_151, u_157_152, u_157_153, u_157_154, u_157_155, u_157_156, u_157_157, u_157_160, u_157_161, u_157_162, true_or, or_true, zk_li1_s, zk_ll1_s, zk_la1_r, zk_la1_n, zk_lg0, zk_lgs, zk_co_n, zk_co_i, zk_co_r, zk_co_u, zk_co_l, zk_l1_0, zk_l1_1, zk_l1_s, zk_l2_0, zk_l2_1, zk_l2_s, zk_sm0, zk_smi, zk_smr, zk_smn, zk_sml, zk_fi, zk_fz, zk_fo, zk_fn, zk_fa, zk_ts, zk_tn, zk_cases, true_and, and_true, List.getElem?_cons_zero, List.getElem?_cons_succ, List.length_cons, List.length_nil, Nat.reduceAdd, Nat.reduceLT, Nat.reduceLeDiff, List.set_cons_zero, List.set_cons_succ, va_rf, ic, iz_lit, iz_neg, iz_inj, ij]
    (repeat' (first | exact l1 | apply And.intro | intro _)) <;> first | omega | (exfalso; omega)
  · rw [if_neg c] at ij
    refine ⟨m, ?_, fun Q => zk_eq ?_ Q⟩
    · unfold f_rn; rw [if_neg (fun q => c q.1)]; exact dtx_r m
    · unfold v_rn
      rw [if_neg c]
      simp (disch := first | omega | assumption | (simp; done)) only [u_157_0, u_157_1, u_157_2, u_157_5, u_157_8, u_157_9, u_157_11, u_157_12, u_157_13, u_157_14, u_157_15, u_157_16, u_157_19, u_157_20, u_157_21, u_157_24, u_157_25, u_157_28, u_157_29, u_157_32, u_157_35, u_157_36, u_157_37, u_157_38, u_157_39, u_157_40, u_157_41, u_157_44, u_157_47, u_157_48, u_157_51, u_157_52, u_157_53, u_157_56, u_157_59, u_157_60, u_157_63, u_157_64, u_157_65, u_157_66, u_157_69, u_157_71, u_157_72, u_157_73, u_157_74, u_157_75, u_157_78, u_157_80, u_157_81, u_157_82, u_157_83, u_157_86, u_157_89, u_157_90, u_157_91, u_157_94, u_157_95, u_157_96, u_157_97, u_157_98, u_157_99, u_157_100, u_157_103, u_157_106, u_157_109, u_157_111, u_157_112, u_157_113, u_157_116, u_157_117, u_157_118, u_157_120, u_157_123, u_157_125, u_157_126, u_157_127, u_157_130, u_157_132, u_157_133, u_157_134, u_157_135, u_157_138, u_157_139, u_157_140, u_157_141, u_157_142, u_157_145, u_157_146, u_157_147, u_157_150, u_157_151, u_157_152, u_157_153, u_157_154, u_157_155, u_157_156, u_157_157, u_157_160, u_157_161, u_157_162, true_or, or_true, zk_li1_s, zk_ll1_s, zk_la1_r, zk_la1_n, zk_lg0, zk_lgs, zk_co_n, zk_co_i, zk_co_r, zk_co_u, zk_co_l, zk_l1_0, zk_l1_1, zk_l1_s, zk_l2_0, zk_l2_1, zk_l2_s, zk_sm0, zk_smi, zk_smr, zk_smn, zk_sml, zk_fi, zk_fz, zk_fo, zk_fn, zk_fa, zk_ts, zk_tn, zk_cases, true_and, and_true, List.getElem?_cons_zero, List.getElem?_cons_succ, List.length_cons, List.length_nil, Nat.reduceAdd, Nat.reduceLT, Nat.reduceLeDiff, List.set_cons_zero, List.set_cons_succ, va_rf, ic, iz_lit, iz_neg, iz_inj, ij]
      all_goals ((repeat' (first | exact trivial | exact ⟨rfl, rfl⟩ | rfl | apply And.intro | intro _)) <;> first | omega | (exfalso; omega) | contradiction | (exfalso; simp_all; done) | trace_state)
end MCALL5
