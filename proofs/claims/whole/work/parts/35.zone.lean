theorem if_max (a b : Int) : (if a < b then b else a) = max a b := by omega
theorem if_min (a b : Int) : (if b < a then b else a) = min a b := by omega
theorem c_mx (G : zk_G) (h : zk_H) (a b : Int) (ha : -2147483648 ≤ a ∧ a ≤ 2147483647) (hb : -2147483648 ≤ b ∧ b ≤ 2147483647) (Q : Option Value → zk_H → Prop) : zk_wp G 197 0 [some (.int (iz a)), some (.int (iz b))] [] h Q ↔ Q (some (.int (iz (max a b)))) h := by
  rw [c_max]
  have e : (if iz a < iz b then iz b else iz a) = iz (max a b) := by
    rw [← if_max]
    by_cases c : a < b
    · rw [if_pos ((iz_lt ha hb).mpr c), if_pos c]
    · rw [if_neg (fun q => c ((iz_lt ha hb).mp q)), if_neg c]
  rw [e]
theorem c_mn (G : zk_G) (h : zk_H) (a b : Int) (ha : -2147483648 ≤ a ∧ a ≤ 2147483647) (hb : -2147483648 ≤ b ∧ b ≤ 2147483647) (Q : Option Value → zk_H → Prop) : zk_wp G 198 0 [some (.int (iz a)), some (.int (iz b))] [] h Q ↔ Q (some (.int (iz (min a b)))) h := by
  rw [c_min]
  have e : (if iz b < iz a then iz b else iz a) = iz (min a b) := by
    rw [← if_min]
    by_cases c : b < a
    · rw [if_pos ((iz_lt hb ha).mpr c), if_pos c]
    · rw [if_neg (fun q => c ((iz_lt hb ha).mp q)), if_neg c]
  rw [e]
theorem c_mxl (G : zk_G) (h : zk_H) (a b : Int) (ha : -9223372036854775808 ≤ a ∧ a ≤ 9223372036854775807) (hb : -9223372036854775808 ≤ b ∧ b ≤ 9223372036854775807) (Q : Option Value → zk_H → Prop) : zk_wp G 200 0 [some (.long (lz a)), none, some (.long (lz b)), none] [] h Q ↔ Q (some (.long (lz (max a b)))) h := by
  rw [c_maxl]
  have e : (if lz a < lz b then lz b else lz a) = lz (max a b) := by
    rw [← if_max]
    by_cases c : a < b
    · rw [if_pos ((lz_lt ha hb).mpr c), if_pos c]
    · rw [if_neg (fun q => c ((lz_lt ha hb).mp q)), if_neg c]
  rw [e]
def zend (ss : List Int) (k : Int) : Int := if k + 1 < ss.length then gz ss (k + 1) - 1 else 21038399
def zmoA (ss os : List Int) (l : Int) : Nat → Int → Int
  | 0, _ => 2147483647
  | n + 1, k => if max (gz ss k) (l - gz os k) ≤ zend ss k then max (gz ss k) (l - gz os k) else zmoA ss os l n (k + 1)
def zmom (ss os : List Int) (l : Int) : Int := if l < zloc ss os 0 then 2147483647 else zmoA ss os l ss.length 0
def zhA (ss os : List Int) (m : Int) : Nat → Int → Int → Int
  | 0, _, acc => acc
  | n + 1, k, acc => zhA ss os m n (k + 1) (if gz ss k ≤ min (zend ss k) (m - 1) then max acc (min (zend ss k) (m - 1) + gz os k) else acc)
def zhb (ss os : List Int) (m : Int) : Int := zhA ss os m ss.length 0 (zloc ss os 0 - 1)
theorem zend_r {ss os : List Int} (hz : zok ss os) (k : Int) : -1 ≤ zend ss k ∧ zend ss k ≤ 21038399 := by
  have := hz.2.2.2.1 (k + 1)
  unfold zend
  split <;> omega
theorem zhA_r {ss os : List Int} (hz : zok ss os) (m : Int) (hm : -100000000 ≤ m ∧ m ≤ 100000000) : ∀ (n : Nat) (k acc : Int), -200000000 ≤ acc ∧ acc ≤ 200000000 → -200000000 ≤ zhA ss os m n k acc ∧ zhA ss os m n k acc ≤ 200000000 := by
  intro n
  induction n with
  | zero => intro k acc h; exact h
  | succ n ih =>
    intro k acc h
    unfold zhA
    apply ih
    have := zend_r hz k
    have := hz.2.2.2.2 k
    split <;> omega
section ZN
variable {G : zk_G} {h : zk_H} {a : Nat} {ss os hs : List Int} {mv : Nat → Int32}
theorem znp_ic (hp : znp G h a ss os hs mv) : zk_ic G h a 7 ↔ True := by
  obtain ⟨a1, i1, c1, a2, i2, c2, a3, i3, c3, a4, p1, -⟩ := hp
  exact zk_ic_rd p1
theorem c_endOf (hp : znp G h a ss os hs mv) (hz : zok ss os) (k : Int) (hk : -1000 ≤ k ∧ k ≤ 1000) (Q : Option Value → zk_H → Prop) : zk_wp G 52 0 [some (.ref a), some (.int (iz k))] [] h Q ↔ Q (some (.int (iz (zend ss k)))) h := by
  obtain ⟨a1, i1, c1, a2, i2, c2, a3, i3, c3, a4, p1, p2, p3, p4, p5⟩ := hp
  obtain ⟨q1, q2⟩ := rwz_rd p2
  have t1 := c_atz p2
  have ic1 := zk_ic_rd q1
  refine zk_eq ?_ Q
  have z1 := hz.2.2.2.1 (k + 1)
  simp (disch := first | omega | assumption | (simp; done)) only [u_52_0, u_52_1, u_52_2, u_52_3, u_52_4, u_52_7, u_52_10, u_52_13, u_52_14, u_52_17, u_52_18, u_52_19, u_52_20, u_52_23, u_52_24, u_52_25, u_52_28, u_52_30, true_or, or_true, zk_li1_s, zk_ll1_s, zk_la1_r, zk_la1_n, zk_lg0, zk_lgs, zk_co_n, zk_co_i, zk_co_r, zk_co_u, zk_co_l, zk_l1_0, zk_l1_1, zk_l1_s, zk_l2_0, zk_l2_1, zk_l2_s, zk_sm0, zk_smi, zk_smr, zk_smn, zk_sml, zk_fi, zk_fz, zk_fo, zk_fn, zk_fa, zk_ts, zk_tn, zk_og, zk_op, zk_ai, zk_aj, zk_az, zk_aa, zk_an, zk_si, zk_sz1, zk_sl1, zk_sa1, zk_cases, true_and, and_true, List.getElem?_cons_zero, List.getElem?_cons_succ, List.length_cons, List.length_nil, Nat.reduceAdd, Nat.reduceLT, Nat.reduceLeDiff, List.set_cons_zero, List.set_cons_succ, va_rf, p1, q1, ic1, iz_lit, iz_add, iz_sub, iz_le, iz_lt, t1]
  unfold zend
  refine ⟨fun c => ?_, fun c => ?_⟩
  · rw [if_neg (by omega)]
  · rw [if_pos (by omega)]
theorem c_momentOf (hp : znp G h a ss os hs mv) (hz : zok ss os) (l : Int) (hl : -2147483648 ≤ l ∧ l ≤ 2147483647) (Q : Option Value → zk_H → Prop) : zk_wp G 51 0 [some (.ref a), some (.int (iz l)), none, none, none] [] h Q ↔ Q (some (.int (iz (zmom ss os l)))) h := by
  have lo := c_localOf hp hz 0 (by omega)
  have en := c_endOf hp hz
  have ic0 := znp_ic hp
  have mx := c_mxl G h
  obtain ⟨a1, i1, c1, a2, i2, c2, a3, i3, c3, a4, p1, p2, p3, p4, p5⟩ := hp
  obtain ⟨q1, q2⟩ := rwz_rd p2
  have q3 := (rwz_rd p3).1
  have t1 := c_atz p2
  have t2 := c_atz p3
  have ic1 := zk_ic_rd q1
  have ic2 := zk_ic_rd q3
  refine zk_eq ?_ Q
  have loop : ∀ (n : Nat) (k : Int) (o3 o4 : Option Value), 0 ≤ k → k + n = ss.length → zk_wp G 51 14 [some (.ref a), some (.int (iz l)), some (.int (iz k)), o3, o4] [] h (fun r h' => r = some (.int (iz (zmoA ss os l n k))) ∧ h' = h) := by
    intro n
    induction n with
    | zero =>
      intro k o3 o4 hk hn
      rw [u_51_14]
      simp (disch := first | omega | assumption | (simp; done)) only [u_51_0, u_51_1, u_51_2, u_51_3, u_51_6, u_51_9, u_51_11, u_51_12, u_51_13, u_51_15, u_51_16, u_51_19, u_51_22, u_51_25, u_51_26, u_51_29, u_51_30, u_51_33, u_51_34, u_51_35, u_51_36, u_51_37, u_51_40, u_51_41, u_51_44, u_51_45, u_51_46, u_51_49, u_51_50, u_51_51, u_51_52, u_51_53, u_51_56, u_51_57, u_51_58, u_51_61, u_51_62, u_51_63, u_51_64, u_51_67, u_51_70, u_51_72, true_or, or_true, zk_li1_s, zk_ll1_s, zk_la1_r, zk_la1_n, zk_lg0, zk_lgs, zk_co_n, zk_co_i, zk_co_r, zk_co_u, zk_co_l, zk_l1_0, zk_l1_1, zk_l1_s, zk_l2_0, zk_l2_1, zk_l2_s, zk_sm0, zk_smi, zk_smr, zk_smn, zk_sml, zk_fi, zk_fz, zk_fo, zk_fn, zk_fa, zk_ts, zk_tn, zk_og, zk_op, zk_ai, zk_aj, zk_az, zk_aa, zk_an, zk_si, zk_sz1, zk_sl1, zk_sa1, zk_cases, true_and, and_true, List.getElem?_cons_zero, List.getElem?_cons_succ, List.length_cons, List.length_nil, Nat.reduceAdd, Nat.reduceLT, Nat.reduceLeDiff, List.set_cons_zero, List.set_cons_succ, va_rf, p1, q1, q3, ic0, ic1, ic2, iz_lit, iz_add, iz_le, iz_lt, t1, t2, i2l_iz, lz_sub, mx, en]
      exact ⟨fun _ => rfl, fun c => absurd c (by omega)⟩
    | succ n ih =>
      intro k o3 o4 hk hn
      rw [u_51_14]
      have z1 := hz.2.2.2.1 k
      have z2 := hz.2.2.2.2 k
      have z3 := zend_r hz k
      have z4 := hz.2.2.1
      simp (disch := first | omega | assumption | (simp; done)) only [u_51_0, u_51_1, u_51_2, u_51_3, u_51_6, u_51_9, u_51_11, u_51_12, u_51_13, u_51_15, u_51_16, u_51_19, u_51_22, u_51_25, u_51_26, u_51_29, u_51_30, u_51_33, u_51_34, u_51_35, u_51_36, u_51_37, u_51_40, u_51_41, u_51_44, u_51_45, u_51_46, u_51_49, u_51_50, u_51_51, u_51_52, u_51_53, u_51_56, u_51_57, u_51_58, u_51_61, u_51_62, u_51_63, u_51_64, u_51_67, u_51_70, u_51_72, true_or, or_true, zk_li1_s, zk_ll1_s, zk_la1_r, zk_la1_n, zk_lg0, zk_lgs, zk_co_n, zk_co_i, zk_co_r, zk_co_u, zk_co_l, zk_l1_0, zk_l1_1, zk_l1_s, zk_l2_0, zk_l2_1, zk_l2_s, zk_sm0, zk_smi, zk_smr, zk_smn, zk_sml, zk_fi, zk_fz, zk_fo, zk_fn, zk_fa, zk_ts, zk_tn, zk_og, zk_op, zk_ai, zk_aj, zk_az, zk_aa, zk_an, zk_si, zk_sz1, zk_sl1, zk_sa1, zk_cases, true_and, and_true, List.getElem?_cons_zero, List.getElem?_cons_succ, List.length_cons, List.length_nil, Nat.reduceAdd, Nat.reduceLT, Nat.reduceLeDiff, List.set_cons_zero, List.set_cons_succ, va_rf, p1, q1, q3, ic0, ic1, ic2, iz_lit, iz_add, iz_le, iz_lt, t1, t2, i2l_iz, lz_sub, mx, en]
      refine ⟨fun c => absurd c (by omega), fun _ => ⟨fun c => ?_, fun c => ?_⟩⟩
      · have c' := (lg_pos _ _).mp c
        rw [lz_lt (by omega) (by omega)] at c'
        unfold zmoA; rw [if_neg (by omega)]; exact ih (k + 1) _ _ (by omega) (by omega)
      · have c' : ¬ lz (zend ss k) < lz (max (gz ss k) (l - gz os k)) := fun q => c ((lg_pos _ _).mpr q)
        rw [lz_lt (by omega) (by omega)] at c'
        unfold zmoA; rw [if_pos (by omega), l2i_lz (by omega)]
  have z5 := zoff_r hz 0
  have z6 : -840 ≤ zloc ss os 0 ∧ zloc ss os 0 ≤ 840 := by unfold zloc; omega
  simp (disch := first | omega | assumption | (simp; done)) only [u_51_0, u_51_1, u_51_2, u_51_3, u_51_6, u_51_9, u_51_11, u_51_12, u_51_13, u_51_15, u_51_16, u_51_19, u_51_22, u_51_25, u_51_26, u_51_29, u_51_30, u_51_33, u_51_34, u_51_35, u_51_36, u_51_37, u_51_40, u_51_41, u_51_44, u_51_45, u_51_46, u_51_49, u_51_50, u_51_51, u_51_52, u_51_53, u_51_56, u_51_57, u_51_58, u_51_61, u_51_62, u_51_63, u_51_64, u_51_67, u_51_70, u_51_72, true_or, or_true, zk_li1_s, zk_ll1_s, zk_la1_r, zk_la1_n, zk_lg0, zk_lgs, zk_co_n, zk_co_i, zk_co_r, zk_co_u, zk_co_l, zk_l1_0, zk_l1_1, zk_l1_s, zk_l2_0, zk_l2_1, zk_l2_s, zk_sm0, zk_smi, zk_smr, zk_smn, zk_sml, zk_fi, zk_fz, zk_fo, zk_fn, zk_fa, zk_ts, zk_tn, zk_og, zk_op, zk_ai, zk_aj, zk_az, zk_aa, zk_an, zk_si, zk_sz1, zk_sl1, zk_sa1, zk_cases, true_and, and_true, List.getElem?_cons_zero, List.getElem?_cons_succ, List.length_cons, List.length_nil, Nat.reduceAdd, Nat.reduceLT, Nat.reduceLeDiff, List.set_cons_zero, List.set_cons_succ, va_rf, ic0, iz_lit, lo, iz_le]
  unfold zmom
  refine ⟨fun c => ?_, fun c => ?_⟩
  · rw [if_neg (by omega)]; exact loop ss.length 0 _ _ (by omega) (by omega)
  · rw [if_pos (by omega)]
theorem c_hb (hp : znp G h a ss os hs mv) (hz : zok ss os) (m : Int) (hm : -100000000 ≤ m ∧ m ≤ 100000000) (Q : Option Value → zk_H → Prop) : zk_wp G 53 0 [some (.ref a), some (.int (iz m)), none, none, none] [] h Q ↔ Q (some (.int (iz (zhb ss os m)))) h := by
  have lo := c_localOf hp hz 0 (by omega)
  have en := c_endOf hp hz
  have ic0 := znp_ic hp
  have mx := c_mx G h
  have mn := c_mn G h
  obtain ⟨a1, i1, c1, a2, i2, c2, a3, i3, c3, a4, p1, p2, p3, p4, p5⟩ := hp
  obtain ⟨q1, q2⟩ := rwz_rd p2
  have q3 := (rwz_rd p3).1
  have t1 := c_atz p2
  have t2 := c_atz p3
  have ic1 := zk_ic_rd q1
  have ic2 := zk_ic_rd q3
  refine zk_eq ?_ Q
  have loop : ∀ (n : Nat) (k acc : Int) (o4 : Option Value), 0 ≤ k → k + n = ss.length → -200000000 ≤ acc ∧ acc ≤ 200000000 → zk_wp G 53 10 [some (.ref a), some (.int (iz m)), some (.int (iz acc)), some (.int (iz k)), o4] [] h (fun r h' => r = some (.int (iz (zhA ss os m n k acc))) ∧ h' = h) := by
    intro n
    induction n with
    | zero =>
      intro k acc o4 hk hn hacc
      rw [u_53_10]
      simp (disch := first | omega | assumption | (simp; done)) only [u_53_0, u_53_1, u_53_2, u_53_5, u_53_6, u_53_7, u_53_8, u_53_9, u_53_11, u_53_12, u_53_15, u_53_18, u_53_21, u_53_22, u_53_23, u_53_26, u_53_27, u_53_28, u_53_29, u_53_32, u_53_34, u_53_36, u_53_37, u_53_40, u_53_41, u_53_44, u_53_47, u_53_48, u_53_50, u_53_51, u_53_54, u_53_55, u_53_58, u_53_59, u_53_62, u_53_63, u_53_66, u_53_69, u_53_70, true_or, or_true, zk_li1_s, zk_ll1_s, zk_la1_r, zk_la1_n, zk_lg0, zk_lgs, zk_co_n, zk_co_i, zk_co_r, zk_co_u, zk_co_l, zk_l1_0, zk_l1_1, zk_l1_s, zk_l2_0, zk_l2_1, zk_l2_s, zk_sm0, zk_smi, zk_smr, zk_smn, zk_sml, zk_fi, zk_fz, zk_fo, zk_fn, zk_fa, zk_ts, zk_tn, zk_og, zk_op, zk_ai, zk_aj, zk_az, zk_aa, zk_an, zk_si, zk_sz1, zk_sl1, zk_sa1, zk_cases, true_and, and_true, List.getElem?_cons_zero, List.getElem?_cons_succ, List.length_cons, List.length_nil, Nat.reduceAdd, Nat.reduceLT, Nat.reduceLeDiff, List.set_cons_zero, List.set_cons_succ, va_rf, p1, q1, q3, ic0, ic1, ic2, iz_lit, iz_add, iz_sub, iz_le, iz_lt, t1, t2, mx, mn, en]
      exact ⟨fun _ => rfl, fun c => absurd c (by omega)⟩
    | succ n ih =>
      intro k acc o4 hk hn hacc
      rw [u_53_10]
      have z1 := hz.2.2.2.1 k
      have z2 := hz.2.2.2.2 k
      have z3 := zend_r hz k
      have z4 := hz.2.2.1
      simp (disch := first | omega | assumption | (simp; done)) only [u_53_0, u_53_1, u_53_2, u_53_5, u_53_6, u_53_7, u_53_8, u_53_9, u_53_11, u_53_12, u_53_15, u_53_18, u_53_21, u_53_22, u_53_23, u_53_26, u_53_27, u_53_28, u_53_29, u_53_32, u_53_34, u_53_36, u_53_37, u_53_40, u_53_41, u_53_44, u_53_47, u_53_48, u_53_50, u_53_51, u_53_54, u_53_55, u_53_58, u_53_59, u_53_62, u_53_63, u_53_66, u_53_69, u_53_70, true_or, or_true, zk_li1_s, zk_ll1_s, zk_la1_r, zk_la1_n, zk_lg0, zk_lgs, zk_co_n, zk_co_i, zk_co_r, zk_co_u, zk_co_l, zk_l1_0, zk_l1_1, zk_l1_s, zk_l2_0, zk_l2_1, zk_l2_s, zk_sm0, zk_smi, zk_smr, zk_smn, zk_sml, zk_fi, zk_fz, zk_fo, zk_fn, zk_fa, zk_ts, zk_tn, zk_og, zk_op, zk_ai, zk_aj, zk_az, zk_aa, zk_an, zk_si, zk_sz1, zk_sl1, zk_sa1, zk_cases, true_and, and_true, List.getElem?_cons_zero, List.getElem?_cons_succ, List.length_cons, List.length_nil, Nat.reduceAdd, Nat.reduceLT, Nat.reduceLeDiff, List.set_cons_zero, List.set_cons_succ, va_rf, p1, q1, q3, ic0, ic1, ic2, iz_lit, iz_add, iz_sub, iz_le, iz_lt, t1, t2, mx, mn, en]
      refine ⟨fun c => absurd c (by omega), fun _ => ⟨fun c => ?_, fun c => ?_⟩⟩
      · unfold zhA; rw [if_neg (by omega)]; exact ih (k + 1) acc _ (by omega) (by omega) hacc
      · unfold zhA; rw [if_pos (by omega)]; exact ih (k + 1) _ _ (by omega) (by omega) (by omega)
  have z5 := zoff_r hz 0
  have z6 : -840 ≤ zloc ss os 0 ∧ zloc ss os 0 ≤ 840 := by unfold zloc; omega
  simp (disch := first | omega | assumption | (simp; done)) only [u_53_0, u_53_1, u_53_2, u_53_5, u_53_6, u_53_7, u_53_8, u_53_9, u_53_11, u_53_12, u_53_15, u_53_18, u_53_21, u_53_22, u_53_23, u_53_26, u_53_27, u_53_28, u_53_29, u_53_32, u_53_34, u_53_36, u_53_37, u_53_40, u_53_41, u_53_44, u_53_47, u_53_48, u_53_50, u_53_51, u_53_54, u_53_55, u_53_58, u_53_59, u_53_62, u_53_63, u_53_66, u_53_69, u_53_70, true_or, or_true, zk_li1_s, zk_ll1_s, zk_la1_r, zk_la1_n, zk_lg0, zk_lgs, zk_co_n, zk_co_i, zk_co_r, zk_co_u, zk_co_l, zk_l1_0, zk_l1_1, zk_l1_s, zk_l2_0, zk_l2_1, zk_l2_s, zk_sm0, zk_smi, zk_smr, zk_smn, zk_sml, zk_fi, zk_fz, zk_fo, zk_fn, zk_fa, zk_ts, zk_tn, zk_og, zk_op, zk_ai, zk_aj, zk_az, zk_aa, zk_an, zk_si, zk_sz1, zk_sl1, zk_sa1, zk_cases, true_and, and_true, List.getElem?_cons_zero, List.getElem?_cons_succ, List.length_cons, List.length_nil, Nat.reduceAdd, Nat.reduceLT, Nat.reduceLeDiff, List.set_cons_zero, List.set_cons_succ, va_rf, ic0, iz_lit, lo, iz_sub]
  exact loop ss.length 0 _ _ (by omega) (by omega) (by omega)
def zday (ss os : List Int) (m : Int) : Int := zloc ss os m / 1440
theorem c_dayOf (hp : znp G h a ss os hs mv) (hz : zok ss os) (m : Int) (hm : -100000000 ≤ m ∧ m ≤ 100000000) (Q : Option Value → zk_H → Prop) : zk_wp G 56 0 [some (.ref a), some (.int (iz m))] [] h Q ↔ Q (some (.int (iz (zday ss os m)))) h := by
  have lo := c_localOf hp hz m hm
  have ic0 := znp_ic hp
  have fd := c_fdk G 1440 (by omega) h
  have z5 := zoff_r hz m
  have z6 : -100000840 ≤ zloc ss os m ∧ zloc ss os m ≤ 100000840 := by unfold zloc; omega
  simp (disch := first | omega | assumption | (simp; done)) only [u_56_0, u_56_1, u_56_2, u_56_5, u_56_8, u_56_11, true_or, or_true, zk_li1_s, zk_ll1_s, zk_la1_r, zk_la1_n, zk_lg0, zk_lgs, zk_co_n, zk_co_i, zk_co_r, zk_co_u, zk_co_l, zk_l1_0, zk_l1_1, zk_l1_s, zk_l2_0, zk_l2_1, zk_l2_s, zk_sm0, zk_smi, zk_smr, zk_smn, zk_sml, zk_fi, zk_fz, zk_fo, zk_fn, zk_fa, zk_ts, zk_tn, zk_og, zk_op, zk_ai, zk_aj, zk_az, zk_aa, zk_an, zk_si, zk_sz1, zk_sl1, zk_sa1, zk_cases, true_and, and_true, List.getElem?_cons_zero, List.getElem?_cons_succ, List.length_cons, List.length_nil, Nat.reduceAdd, Nat.reduceLT, Nat.reduceLeDiff, List.set_cons_zero, List.set_cons_succ, va_rf, ic0, iz_lit, lo, fd]
  rfl
def zfod (ss os : List Int) (k d : Int) : Int := max (gz ss k) (d * 1440 - gz os k)
def zlod (ss os : List Int) (k d : Int) : Int := min (zend ss k) (d * 1440 + 1440 - 1 - gz os k)
theorem c_fod (hp : znp G h a ss os hs mv) (hz : zok ss os) (k d : Int) (hk : -1000 ≤ k ∧ k ≤ 1000) (hd : -100000 ≤ d ∧ d ≤ 100000) (Q : Option Value → zk_H → Prop) : zk_wp G 58 0 [some (.ref a), some (.int (iz k)), some (.int (iz d))] [] h Q ↔ Q (some (.int (iz (zfod ss os k d)))) h := by
  have mx := c_mx G h
  obtain ⟨a1, i1, c1, a2, i2, c2, a3, i3, c3, a4, p1, p2, p3, p4, p5⟩ := hp
  obtain ⟨q1, q2⟩ := rwz_rd p2
  have q3 := (rwz_rd p3).1
  have t1 := c_atz p2
  have t2 := c_atz p3
  have ic1 := zk_ic_rd q1
  have ic2 := zk_ic_rd q3
  have z1 := hz.2.2.2.1 k
  have z2 := hz.2.2.2.2 k
  simp (disch := first | omega | assumption | (simp; done)) only [u_58_0, u_58_1, u_58_4, u_58_5, u_58_8, u_58_9, u_58_12, u_58_13, u_58_14, u_58_17, u_58_18, u_58_21, u_58_22, u_58_25, true_or, or_true, zk_li1_s, zk_ll1_s, zk_la1_r, zk_la1_n, zk_lg0, zk_lgs, zk_co_n, zk_co_i, zk_co_r, zk_co_u, zk_co_l, zk_l1_0, zk_l1_1, zk_l1_s, zk_l2_0, zk_l2_1, zk_l2_s, zk_sm0, zk_smi, zk_smr, zk_smn, zk_sml, zk_fi, zk_fz, zk_fo, zk_fn, zk_fa, zk_ts, zk_tn, zk_cases, true_and, and_true, List.getElem?_cons_zero, List.getElem?_cons_succ, List.length_cons, List.length_nil, Nat.reduceAdd, Nat.reduceLT, Nat.reduceLeDiff, List.set_cons_zero, List.set_cons_succ, va_rf, zk_og_f p1, zk_op_f p1, zk_og_f q1, zk_op_f q1, zk_og_f q3, zk_op_f q3, ic1, ic2, iz_lit, iz_add, iz_sub, iz_mul, t1, t2, mx]
  rfl
theorem c_lod (hp : znp G h a ss os hs mv) (hz : zok ss os) (k d : Int) (hk : -1000 ≤ k ∧ k ≤ 1000) (hd : -100000 ≤ d ∧ d ≤ 100000) (Q : Option Value → zk_H → Prop) : zk_wp G 59 0 [some (.ref a), some (.int (iz k)), some (.int (iz d))] [] h Q ↔ Q (some (.int (iz (zlod ss os k d)))) h := by
  have mn := c_mn G h
  have en := c_endOf hp hz
  have ic0 := znp_ic hp
  obtain ⟨a1, i1, c1, a2, i2, c2, a3, i3, c3, a4, p1, p2, p3, p4, p5⟩ := hp
  obtain ⟨q1, q2⟩ := rwz_rd p2
  have q3 := (rwz_rd p3).1
  have t2 := c_atz p3
  have ic2 := zk_ic_rd q3
  have z1 := zend_r hz k
  have z2 := hz.2.2.2.2 k
  simp (disch := first | omega | assumption | (simp; done)) only [u_59_0, u_59_1, u_59_2, u_59_5, u_59_6, u_59_9, u_59_10, u_59_13, u_59_14, u_59_15, u_59_16, u_59_17, u_59_20, u_59_21, u_59_24, u_59_25, u_59_28, true_or, or_true, zk_li1_s, zk_ll1_s, zk_la1_r, zk_la1_n, zk_lg0, zk_lgs, zk_co_n, zk_co_i, zk_co_r, zk_co_u, zk_co_l, zk_l1_0, zk_l1_1, zk_l1_s, zk_l2_0, zk_l2_1, zk_l2_s, zk_sm0, zk_smi, zk_smr, zk_smn, zk_sml, zk_fi, zk_fz, zk_fo, zk_fn, zk_fa, zk_ts, zk_tn, zk_cases, true_and, and_true, List.getElem?_cons_zero, List.getElem?_cons_succ, List.length_cons, List.length_nil, Nat.reduceAdd, Nat.reduceLT, Nat.reduceLeDiff, List.set_cons_zero, List.set_cons_succ, va_rf, zk_og_f p1, zk_op_f p1, zk_og_f q1, zk_op_f q1, zk_og_f q3, zk_op_f q3, ic0, ic2, iz_lit, iz_add, iz_sub, iz_mul, t2, mn, en]
  rfl
end ZN
