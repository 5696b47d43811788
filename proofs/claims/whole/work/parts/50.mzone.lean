/-! the model's zones -/
def rl (n : Int) (f : Int → Int) : List Int := (List.range n.toNat).map (fun k : Nat => f k)
theorem rl_len {n : Int} (f : Int → Int) (h : 0 ≤ n) : ((rl n f).length : Int) = n := by unfold rl; simp; omega
theorem gz_rl {n k : Int} (f : Int → Int) (h1 : 0 ≤ k) (h2 : k < n) : gz (rl n f) k = f k := by
  unfold gz rl
  rw [if_pos h1, List.getD_eq_getElem?_getD, List.getElem?_map, List.getElem?_range (by omega)]
  show f _ = f k
  congr 1
  omega
theorem rl_succ {n : Int} (f : Int → Int) (h : 0 ≤ n) : rl (n + 1) f = rl n f ++ [f n] := by
  unfold rl
  rw [show (n + 1).toNat = n.toNat + 1 by omega, List.range_succ, List.map_append]
  show _ ++ [f _] = _
  rw [show ((n.toNat : Nat) : Int) = n by omega]
theorem rl_congr {n : Int} {f g : Int → Int} (h : ∀ k, 0 ≤ k → k < n → f k = g k) : rl n f = rl n g := by
  unfold rl
  apply List.map_congr_left
  intro k hk
  rw [List.mem_range] at hk
  exact h k (by omega) (by omega)
theorem mem_rl {n : Int} {f : Int → Int} {x : Int} : x ∈ rl n f ↔ ∃ k, 0 ≤ k ∧ k < n ∧ f k = x := by
  unfold rl
  rw [List.mem_map]
  constructor
  · rintro ⟨k, hk, e⟩
    rw [List.mem_range] at hk
    exact ⟨k, by omega, by omega, e⟩
  · rintro ⟨k, k1, k2, e⟩
    refine ⟨k.toNat, List.mem_range.mpr (by omega), ?_⟩
    rw [show ((k.toNat : Nat) : Int) = k by omega]
    exact e
def ssOf (m : mS) (z : Int) : List Int := rl (m 2 z + 1) (fun k => if k = 0 then 0 else m 3 (10 * z + k - 1))
def osOf (m : mS) (z : Int) : List Int := rl (m 2 z + 1) (fun k => if k = 0 then 0 else m 4 (10 * z + k - 1))
def hsOf (m : mS) (z : Int) : List Int := rl (m 5 z) (fun k => m 6 (20 * z + k))
/-- what is always so of a zone -/
def zI (m : mS) (z : Int) : Prop := (0 ≤ z ∧ z < 3) ∧ (0 ≤ m 2 z ∧ m 2 z ≤ 10) ∧ (0 ≤ m 5 z ∧ m 5 z ≤ 20) ∧ zok (ssOf m z) (osOf m z) ∧ zsr (ssOf m z) ∧ ∀ x ∈ hsOf m z, 0 ≤ x ∧ x ≤ 14609
section MZ
variable {G : zk_G} {B : zk_H} {M : Nat}
theorem d_more (h : zk_H) (a b : Int) (ha : -2147483648 ≤ a ∧ a ≤ 2147483647) (hb : -2147483648 ≤ b ∧ b ≤ 2147483647) (Q : Option Value → zk_H → Prop) : zk_wp G 126 0 [some (.int (iz a)), some (.int (iz b))] [] h Q ↔ Q (some (.int (iz (max a b)))) h := by
  refine zk_eq ?_ Q
  simp (disch := first | omega | assumption | (simp; done)) only [u_126_0, u_126_1, u_126_2, u_126_5, u_126_6, u_126_9, u_126_10, true_or, or_true, zk_li1_s, zk_ll1_s, zk_la1_r, zk_la1_n, zk_lg0, zk_lgs, zk_co_n, zk_co_i, zk_co_r, zk_co_u, zk_co_l, zk_l1_0, zk_l1_1, zk_l1_s, zk_l2_0, zk_l2_1, zk_l2_s, zk_sm0, zk_smi, zk_smr, zk_smn, zk_sml, zk_fi, zk_fz, zk_fo, zk_fn, zk_fa, zk_ts, zk_tn, zk_cases, true_and, and_true, List.getElem?_cons_zero, List.getElem?_cons_succ, List.length_cons, List.length_nil, Nat.reduceAdd, Nat.reduceLT, Nat.reduceLeDiff, List.set_cons_zero, List.set_cons_succ, va_rf, iz_le]
  refine ⟨fun c => ?_, fun c => ?_⟩
  · rw [show max a b = b by omega]
  · rw [show max a b = a by omega]
theorem d_less (h : zk_H) (a b : Int) (ha : -2147483648 ≤ a ∧ a ≤ 2147483647) (hb : -2147483648 ≤ b ∧ b ≤ 2147483647) (Q : Option Value → zk_H → Prop) : zk_wp G 148 0 [some (.int (iz a)), some (.int (iz b))] [] h Q ↔ Q (some (.int (iz (min a b)))) h := by
  refine zk_eq ?_ Q
  simp (disch := first | omega | assumption | (simp; done)) only [u_148_0, u_148_1, u_148_2, u_148_5, u_148_6, u_148_9, u_148_10, true_or, or_true, zk_li1_s, zk_ll1_s, zk_la1_r, zk_la1_n, zk_lg0, zk_lgs, zk_co_n, zk_co_i, zk_co_r, zk_co_u, zk_co_l, zk_l1_0, zk_l1_1, zk_l1_s, zk_l2_0, zk_l2_1, zk_l2_s, zk_sm0, zk_smi, zk_smr, zk_smn, zk_sml, zk_fi, zk_fz, zk_fo, zk_fn, zk_fa, zk_ts, zk_tn, zk_cases, true_and, and_true, List.getElem?_cons_zero, List.getElem?_cons_succ, List.length_cons, List.length_nil, Nat.reduceAdd, Nat.reduceLT, Nat.reduceLeDiff, List.set_cons_zero, List.set_cons_succ, va_rf, iz_le]
  refine ⟨fun c => ?_, fun c => ?_⟩
  · rw [show min a b = b by omega]
  · rw [show min a b = a by omega]
theorem d_in (h : zk_H) (v a b : Int) (hv : -2147483648 ≤ v ∧ v ≤ 2147483647) (ha : -2147483648 ≤ a ∧ a ≤ 2147483647) (hb : -2147483648 ≤ b ∧ b ≤ 2147483647) (Q : Option Value → zk_H → Prop) : zk_wp G 117 0 [some (.int (iz v)), some (.int (iz a)), some (.int (iz b))] [] h Q ↔ Q (some (.int (iz (if a ≤ v ∧ v ≤ b then 1 else 0)))) h := by
  refine zk_eq ?_ Q
  simp (disch := first | omega | assumption | (simp; done)) only [u_117_0, u_117_1, u_117_2, u_117_5, u_117_6, u_117_7, u_117_10, u_117_11, u_117_14, u_117_15, true_or, or_true, zk_li1_s, zk_ll1_s, zk_la1_r, zk_la1_n, zk_lg0, zk_lgs, zk_co_n, zk_co_i, zk_co_r, zk_co_u, zk_co_l, zk_l1_0, zk_l1_1, zk_l1_s, zk_l2_0, zk_l2_1, zk_l2_s, zk_sm0, zk_smi, zk_smr, zk_smn, zk_sml, zk_fi, zk_fz, zk_fo, zk_fn, zk_fa, zk_ts, zk_tn, zk_cases, true_and, and_true, List.getElem?_cons_zero, List.getElem?_cons_succ, List.length_cons, List.length_nil, Nat.reduceAdd, Nat.reduceLT, Nat.reduceLeDiff, List.set_cons_zero, List.set_cons_succ, va_rf, iz_le, iz_lt, iz_lit]
  refine ⟨fun c => ?_, fun c => ⟨fun c2 => ?_, fun c2 => ?_⟩⟩
  · rw [if_neg (by omega)]
  · rw [if_neg (by omega)]
  · rw [if_pos (by omega)]
theorem d_down (h : zk_H) (a b : Int) (ha : -2000000000 ≤ a ∧ a ≤ 2147483647) (hb : 0 < b ∧ b ≤ 10000) (Q : Option Value → zk_H → Prop) : zk_wp G 149 0 [some (.int (iz a)), some (.int (iz b)), none] [] h Q ↔ Q (some (.int (iz (a / b)))) h := by
  refine zk_eq ?_ Q
  have e1 : (iz b).toInt = b := iz_toInt (by omega) (by omega)
  have e2 : (iz a).toInt = a := iz_toInt (by omega) (by omega)
  have hne : ¬ iz b = (0 : Int32) := by
    intro q
    have := congrArg Int32.toInt q
    rw [e1] at this
    simp at this
    omega
  have hd : iz a / iz b = iz (a.tdiv b) := by
    apply iz_eq
    rw [i_div (by omega), e1, e2]
  have hr : iz a - iz (a.tdiv b) * iz b = iz (a.tmod b) := by
    rw [← hd]
    apply iz_eq
    rw [i_rem (by omega), e1, e2]
  have hm := tmod_bounds (a := a) hb.1
  have hmath := fd_math (a := a) hb.1
  have hkey := Int.tdiv_mul_add_tmod a b
  have hq : -2000000000 ≤ a.tdiv b ∧ a.tdiv b ≤ 2147483647 := by
    rcases Int.le_total 0 a with h0 | h0
    · have e1 := Int.tdiv_nonneg h0 (Int.le_of_lt hb.1)
      have e2 := Int.tdiv_le_self b h0
      omega
    · have e0 : a.tdiv b = -((-a).tdiv b) := by rw [Int.neg_tdiv, Int.neg_neg]
      have e1 := Int.tdiv_nonneg (show 0 ≤ -a by omega) (Int.le_of_lt hb.1)
      have e2 := Int.tdiv_le_self b (show 0 ≤ -a by omega)
      omega
  simp (disch := first | omega | assumption | (simp; done)) only [u_149_0, u_149_1, u_149_2, u_149_3, u_149_4, u_149_5, u_149_6, u_149_7, u_149_10, u_149_11, u_149_12, u_149_13, u_149_16, u_149_17, true_or, or_true, zk_li1_s, zk_ll1_s, zk_la1_r, zk_la1_n, zk_lg0, zk_lgs, zk_co_n, zk_co_i, zk_co_r, zk_co_u, zk_co_l, zk_l1_0, zk_l1_1, zk_l1_s, zk_l2_0, zk_l2_1, zk_l2_s, zk_sm0, zk_smi, zk_smr, zk_smn, zk_sml, zk_fi, zk_fz, zk_fo, zk_fn, zk_fa, zk_ts, zk_tn, zk_cases, true_and, and_true, List.getElem?_cons_zero, List.getElem?_cons_succ, List.length_cons, List.length_nil, Nat.reduceAdd, Nat.reduceLT, Nat.reduceLeDiff, List.set_cons_zero, List.set_cons_succ, va_rf, hne, not_false_eq_true, hd, hr, iz_le, iz_lit, iz_sub]
  have hp : 0 ≤ a → 0 ≤ a.tmod b := fun q => Int.tmod_nonneg b q
  refine ⟨fun c => ?_, fun c => ?_⟩
  · congr 4
    rw [hmath]
    split
    next q => rfl
    next q =>
      rw [if_pos]
      have hn : a.tmod b ≤ 0 := by
        have e1 : a.tmod b = -((-a).tmod b) := by rw [Int.neg_tmod, Int.neg_neg]
        have := Int.tmod_nonneg b (show 0 ≤ -a by omega)
        omega
      omega
  · congr 4
    rw [hmath]
    rw [if_neg (fun q => c (hp q)), if_neg (by omega)]
theorem ss_len {m : mS} {z : Int} (h : zI m z) : ((ssOf m z).length : Int) = m 2 z + 1 := rl_len _ (by have := h.2.1; omega)
theorem gz_ss {m : mS} {z k : Int} (h1 : 0 ≤ k ∧ k ≤ m 2 z) : gz (ssOf m z) k = if k = 0 then 0 else m 3 (10 * z + k - 1) := gz_rl _ h1.1 (by omega)
theorem gz_os {m : mS} {z k : Int} (h1 : 0 ≤ k ∧ k ≤ m 2 z) : gz (osOf m z) k = if k = 0 then 0 else m 4 (10 * z + k - 1) := gz_rl _ h1.1 (by omega)
theorem d_from (hB : hpo G B M) {m : mS} {z : Int} (hz : zI m z) (k : Int) (hk : 0 ≤ k ∧ k ≤ m 2 z) (Q : Option Value → zk_H → Prop) : zk_wp G 122 0 [some (.ref M), some (.int (iz z)), some (.int (iz k))] [] (hp G B M m) Q ↔ Q (some (.int (iz (gz (ssOf m z) k)))) (hp G B M m) := by
  refine zk_eq ?_ Q
  obtain ⟨h1, h2, -⟩ := hz
  rw [gz_ss hk]
  by_cases c : k = 0
  · subst c
    simp (disch := first | omega | assumption | (simp; done)) only [u_122_0, u_122_1, u_122_4, u_122_5, u_122_9, u_122_12, u_122_14, u_122_15, u_122_16, u_122_17, u_122_18, u_122_19, u_122_20, u_122_21, true_or, or_true, zk_li1_s, zk_ll1_s, zk_la1_r, zk_la1_n, zk_lg0, zk_lgs, zk_co_n, zk_co_i, zk_co_r, zk_co_u, zk_co_l, zk_l1_0, zk_l1_1, zk_l1_s, zk_l2_0, zk_l2_1, zk_l2_s, zk_sm0, zk_smi, zk_smr, zk_smn, zk_sml, zk_fi, zk_fz, zk_fo, zk_fn, zk_fa, zk_ts, zk_tn, zk_cases, true_and, and_true, List.getElem?_cons_zero, List.getElem?_cons_succ, List.length_cons, List.length_nil, Nat.reduceAdd, Nat.reduceLT, Nat.reduceLeDiff, List.set_cons_zero, List.set_cons_succ, va_rf, iz_lit, iz_inj]
    simp
  · rw [if_neg c]
    simp (disch := first | omega | assumption | (simp; done)) only [u_122_0, u_122_1, u_122_4, u_122_5, u_122_8, u_122_9, u_122_12, u_122_14, u_122_15, u_122_16, u_122_17, u_122_18, u_122_19, u_122_20, u_122_21, true_or, or_true, zk_li1_s, zk_ll1_s, zk_la1_r, zk_la1_n, zk_lg0, zk_lgs, zk_co_n, zk_co_i, zk_co_r, zk_co_u, zk_co_l, zk_l1_0, zk_l1_1, zk_l1_s, zk_l2_0, zk_l2_1, zk_l2_s, zk_sm0, zk_smi, zk_smr, zk_smn, zk_sml, zk_fi, zk_fz, zk_fo, zk_fn, zk_fa, zk_ts, zk_tn, zk_cases, true_and, and_true, List.getElem?_cons_zero, List.getElem?_cons_succ, List.length_cons, List.length_nil, Nat.reduceAdd, Nat.reduceLT, Nat.reduceLeDiff, List.set_cons_zero, List.set_cons_succ, va_rf, iz_lit, iz_inj, iz_mul, iz_add, iz_sub, mg_3 hB, mr_3 hB, mw_3 hB]
    simp [c]
theorem d_by (hB : hpo G B M) {m : mS} {z : Int} (hz : zI m z) (k : Int) (hk : 0 ≤ k ∧ k ≤ m 2 z) (Q : Option Value → zk_H → Prop) : zk_wp G 123 0 [some (.ref M), some (.int (iz z)), some (.int (iz k))] [] (hp G B M m) Q ↔ Q (some (.int (iz (gz (osOf m z) k)))) (hp G B M m) := by
  refine zk_eq ?_ Q
  obtain ⟨h1, h2, -⟩ := hz
  rw [gz_os hk]
  by_cases c : k = 0
  · subst c
    simp (disch := first | omega | assumption | (simp; done)) only [u_123_0, u_123_1, u_123_4, u_123_5, u_123_9, u_123_12, u_123_14, u_123_15, u_123_16, u_123_17, u_123_18, u_123_19, u_123_20, u_123_21, true_or, or_true, zk_li1_s, zk_ll1_s, zk_la1_r, zk_la1_n, zk_lg0, zk_lgs, zk_co_n, zk_co_i, zk_co_r, zk_co_u, zk_co_l, zk_l1_0, zk_l1_1, zk_l1_s, zk_l2_0, zk_l2_1, zk_l2_s, zk_sm0, zk_smi, zk_smr, zk_smn, zk_sml, zk_fi, zk_fz, zk_fo, zk_fn, zk_fa, zk_ts, zk_tn, zk_cases, true_and, and_true, List.getElem?_cons_zero, List.getElem?_cons_succ, List.length_cons, List.length_nil, Nat.reduceAdd, Nat.reduceLT, Nat.reduceLeDiff, List.set_cons_zero, List.set_cons_succ, va_rf, iz_lit, iz_inj]
    simp
  · rw [if_neg c]
    simp (disch := first | omega | assumption | (simp; done)) only [u_123_0, u_123_1, u_123_4, u_123_5, u_123_8, u_123_9, u_123_12, u_123_14, u_123_15, u_123_16, u_123_17, u_123_18, u_123_19, u_123_20, u_123_21, true_or, or_true, zk_li1_s, zk_ll1_s, zk_la1_r, zk_la1_n, zk_lg0, zk_lgs, zk_co_n, zk_co_i, zk_co_r, zk_co_u, zk_co_l, zk_l1_0, zk_l1_1, zk_l1_s, zk_l2_0, zk_l2_1, zk_l2_s, zk_sm0, zk_smi, zk_smr, zk_smn, zk_sml, zk_fi, zk_fz, zk_fo, zk_fn, zk_fa, zk_ts, zk_tn, zk_cases, true_and, and_true, List.getElem?_cons_zero, List.getElem?_cons_succ, List.length_cons, List.length_nil, Nat.reduceAdd, Nat.reduceLT, Nat.reduceLeDiff, List.set_cons_zero, List.set_cons_succ, va_rf, iz_lit, iz_inj, iz_mul, iz_add, iz_sub, mg_4 hB, mr_4 hB, mw_4 hB]
    simp [c]
theorem d_to (hB : hpo G B M) {m : mS} {z : Int} (hz : zI m z) (k : Int) (hk : 0 ≤ k ∧ k ≤ m 2 z) (Q : Option Value → zk_H → Prop) : zk_wp G 127 0 [some (.ref M), some (.int (iz z)), some (.int (iz k))] [] (hp G B M m) Q ↔ Q (some (.int (iz (zend (ssOf m z) k)))) (hp G B M m) := by
  refine zk_eq ?_ Q
  have hl := ss_len hz
  obtain ⟨h1, h2, -⟩ := hz
  unfold zend
  by_cases c : k = m 2 z
  · rw [if_neg (by omega)]
    simp (disch := first | omega | assumption | (simp; done)) only [u_127_0, u_127_1, u_127_2, u_127_5, u_127_6, u_127_7, u_127_10, u_127_12, u_127_16, u_127_19, u_127_21, u_127_22, u_127_23, u_127_24, u_127_25, u_127_26, u_127_27, u_127_28, true_or, or_true, zk_li1_s, zk_ll1_s, zk_la1_r, zk_la1_n, zk_lg0, zk_lgs, zk_co_n, zk_co_i, zk_co_r, zk_co_u, zk_co_l, zk_l1_0, zk_l1_1, zk_l1_s, zk_l2_0, zk_l2_1, zk_l2_s, zk_sm0, zk_smi, zk_smr, zk_smn, zk_sml, zk_fi, zk_fz, zk_fo, zk_fn, zk_fa, zk_ts, zk_tn, zk_cases, true_and, and_true, List.getElem?_cons_zero, List.getElem?_cons_succ, List.length_cons, List.length_nil, Nat.reduceAdd, Nat.reduceLT, Nat.reduceLeDiff, List.set_cons_zero, List.set_cons_succ, va_rf, iz_lit, iz_inj, mg_2 hB, mr_2 hB, mw_2 hB]
    simp [c]
  · rw [if_pos (by omega), gz_ss (by omega), if_neg (by omega), show 10 * z + (k + 1) - 1 = 10 * z + k by omega]
    simp (disch := first | omega | assumption | (simp; done)) only [u_127_0, u_127_1, u_127_2, u_127_5, u_127_6, u_127_7, u_127_10, u_127_12, u_127_15, u_127_16, u_127_19, u_127_21, u_127_22, u_127_23, u_127_24, u_127_25, u_127_26, u_127_27, u_127_28, true_or, or_true, zk_li1_s, zk_ll1_s, zk_la1_r, zk_la1_n, zk_lg0, zk_lgs, zk_co_n, zk_co_i, zk_co_r, zk_co_u, zk_co_l, zk_l1_0, zk_l1_1, zk_l1_s, zk_l2_0, zk_l2_1, zk_l2_s, zk_sm0, zk_smi, zk_smr, zk_smn, zk_sml, zk_fi, zk_fz, zk_fo, zk_fn, zk_fa, zk_ts, zk_tn, zk_cases, true_and, and_true, List.getElem?_cons_zero, List.getElem?_cons_succ, List.length_cons, List.length_nil, Nat.reduceAdd, Nat.reduceLT, Nat.reduceLeDiff, List.set_cons_zero, List.set_cons_succ, va_rf, iz_lit, iz_inj, iz_mul, iz_add, iz_sub, mg_2 hB, mr_2 hB, mw_2 hB, mg_3 hB, mr_3 hB, mw_3 hB]
    simp [c]
theorem d_localOf (hB : hpo G B M) {m : mS} {z : Int} (hz : zI m z) (t : Int) (ht : -100000000 ≤ t ∧ t ≤ 100000000) (Q : Option Value → zk_H → Prop) : zk_wp G 121 0 [some (.ref M), some (.int (iz z)), some (.int (iz t)), none, none] [] (hp G B M m) Q ↔ Q (some (.int (iz (zloc (ssOf m z) (osOf m z) t)))) (hp G B M m) := by
  refine zk_eq ?_ Q
  have hl := ss_len hz
  have ic := hp_ic hB
  have pf := d_from hB hz
  have pb := d_by hB hz
  obtain ⟨h1, h2, h3, zo, zs, -⟩ := hz
  have loop : ∀ (n : Nat) (k acc : Int), 0 ≤ k → k + n = m 2 z + 1 → -840 ≤ acc ∧ acc ≤ 840 → zk_wp G 121 5 [some (.ref M), some (.int (iz z)), some (.int (iz t)), some (.int (iz acc)), some (.int (iz k))] [] (hp G B M m) (fun r h' => r = some (.int (iz (t + zoA (ssOf m z) (osOf m z) t n k acc))) ∧ h' = hp G B M m) := by
    intro n
    induction n with
    | zero =>
      intro k acc hk hn ha
      rw [u_121_5]
      simp (disch := first | omega | assumption | (simp; done)) only [u_121_0, u_121_1, u_121_2, u_121_3, u_121_7, u_121_8, u_121_11, u_121_12, u_121_13, u_121_17, u_121_18, u_121_20, u_121_23, u_121_24, u_121_27, u_121_28, u_121_29, u_121_31, u_121_34, u_121_37, u_121_38, u_121_39, u_121_42, u_121_45, u_121_46, u_121_47, u_121_48, true_or, or_true, zk_li1_s, zk_ll1_s, zk_la1_r, zk_la1_n, zk_lg0, zk_lgs, zk_co_n, zk_co_i, zk_co_r, zk_co_u, zk_co_l, zk_l1_0, zk_l1_1, zk_l1_s, zk_l2_0, zk_l2_1, zk_l2_s, zk_sm0, zk_smi, zk_smr, zk_smn, zk_sml, zk_fi, zk_fz, zk_fo, zk_fn, zk_fa, zk_ts, zk_tn, zk_cases, true_and, and_true, List.getElem?_cons_zero, List.getElem?_cons_succ, List.length_cons, List.length_nil, Nat.reduceAdd, Nat.reduceLT, Nat.reduceLeDiff, List.set_cons_zero, List.set_cons_succ, va_rf, iz_lit, iz_lt, iz_add, mg_2 hB, mr_2 hB, mw_2 hB]
      exact ⟨fun _ => rfl, fun c => absurd c (by omega)⟩
    | succ n ih =>
      intro k acc hk hn ha
      have z1 := zo.2.2.2.1 k
      have z2 := zo.2.2.2.2 k
      rw [u_121_5]
      simp (disch := first | omega | assumption | (simp; done)) only [u_121_0, u_121_1, u_121_2, u_121_3, u_121_7, u_121_8, u_121_11, u_121_12, u_121_13, u_121_16, u_121_17, u_121_18, u_121_20, u_121_23, u_121_24, u_121_27, u_121_28, u_121_29, u_121_31, u_121_34, u_121_37, u_121_38, u_121_39, u_121_42, u_121_45, u_121_46, u_121_47, u_121_48, true_or, or_true, zk_li1_s, zk_ll1_s, zk_la1_r, zk_la1_n, zk_lg0, zk_lgs, zk_co_n, zk_co_i, zk_co_r, zk_co_u, zk_co_l, zk_l1_0, zk_l1_1, zk_l1_s, zk_l2_0, zk_l2_1, zk_l2_s, zk_sm0, zk_smi, zk_smr, zk_smn, zk_sml, zk_fi, zk_fz, zk_fo, zk_fn, zk_fa, zk_ts, zk_tn, zk_cases, true_and, and_true, List.getElem?_cons_zero, List.getElem?_cons_succ, List.length_cons, List.length_nil, Nat.reduceAdd, Nat.reduceLT, Nat.reduceLeDiff, List.set_cons_zero, List.set_cons_succ, va_rf, iz_lit, iz_lt, iz_add, mg_2 hB, mr_2 hB, mw_2 hB, ic, pf, pb]
      refine ⟨fun c => absurd c (by omega), fun _ => ⟨fun c => ?_, fun c => ?_⟩⟩
      · have e : zoA (ssOf m z) (osOf m z) t (n + 1) k acc = acc := by unfold zoA; rw [if_neg (by omega)]
        have e2 : zoA (ssOf m z) (osOf m z) t n (k + 1) acc = acc := by
          cases n with
          | zero => rfl
          | succ n =>
            unfold zoA
            have := zs.2 k.toNat (by omega)
            rw [show ((k.toNat : Nat) : Int) = k by omega] at this
            rw [if_neg (by omega)]
        have hi := ih (k + 1) acc (by omega) (by omega) ha
        rw [e2] at hi
        rw [e]
        exact hi
      · have e : zoA (ssOf m z) (osOf m z) t (n + 1) k acc = zoA (ssOf m z) (osOf m z) t n (k + 1) (gz (osOf m z) k) := by
          show (if _ then _ else _) = _
          rw [if_pos (by omega)]
        rw [e]
        exact ih (k + 1) _ (by omega) (by omega) z2
  simp (disch := first | omega | assumption | (simp; done)) only [u_121_0, u_121_1, u_121_2, u_121_3, u_121_7, u_121_8, u_121_11, u_121_12, u_121_13, u_121_16, u_121_17, u_121_18, u_121_20, u_121_23, u_121_24, u_121_27, u_121_28, u_121_29, u_121_31, u_121_34, u_121_37, u_121_38, u_121_39, u_121_42, u_121_45, u_121_46, u_121_47, u_121_48, true_or, or_true, zk_li1_s, zk_ll1_s, zk_la1_r, zk_la1_n, zk_lg0, zk_lgs, zk_co_n, zk_co_i, zk_co_r, zk_co_u, zk_co_l, zk_l1_0, zk_l1_1, zk_l1_s, zk_l2_0, zk_l2_1, zk_l2_s, zk_sm0, zk_smi, zk_smr, zk_smn, zk_sml, zk_fi, zk_fz, zk_fo, zk_fn, zk_fa, zk_ts, zk_tn, zk_cases, true_and, and_true, List.getElem?_cons_zero, List.getElem?_cons_succ, List.length_cons, List.length_nil, Nat.reduceAdd, Nat.reduceLT, Nat.reduceLeDiff, List.set_cons_zero, List.set_cons_succ, va_rf, iz_lit]
  have := loop (ssOf m z).length 0 0 (by omega) (by omega) (by omega)
  exact this
/-- the model's moment: NONE for FAR -/
def nof (v : Int) : Int := if v = 2147483647 then -9 else v
theorem d_momentOf (hB : hpo G B M) {m : mS} {z : Int} (hz : zI m z) (l : Int) (hl : -2000000 ≤ l ∧ l ≤ 100000000) (Q : Option Value → zk_H → Prop) : zk_wp G 125 0 [some (.ref M), some (.int (iz z)), some (.int (iz l)), none, none] [] (hp G B M m) Q ↔ Q (some (.int (iz (nof (zmom (ssOf m z) (osOf m z) l))))) (hp G B M m) := by
  refine zk_eq ?_ Q
  have hlen := ss_len hz
  have ic := hp_ic hB
  have pf := d_from hB hz
  have pb := d_by hB hz
  have pt := d_to hB hz
  have lo := d_localOf hB hz 0 (by omega)
  have mx := d_more (G := G) (hp G B M m)
  obtain ⟨h1, h2, h3, zo, zs, -⟩ := hz
  have loop : ∀ (n : Nat) (k : Int) (o : Option Value), 0 ≤ k → k + n = m 2 z + 1 → zk_wp G 125 15 [some (.ref M), some (.int (iz z)), some (.int (iz l)), some (.int (iz k)), o] [] (hp G B M m) (fun r h' => r = some (.int (iz (nof (zmoA (ssOf m z) (osOf m z) l n k)))) ∧ h' = hp G B M m) := by
    intro n
    induction n with
    | zero =>
      intro k o hk hn
      rw [u_125_15]
      simp (disch := first | omega | assumption | (simp; done)) only [u_125_0, u_125_1, u_125_2, u_125_3, u_125_4, u_125_7, u_125_10, u_125_12, u_125_13, u_125_14, u_125_16, u_125_17, u_125_20, u_125_21, u_125_22, u_125_26, u_125_27, u_125_28, u_125_31, u_125_32, u_125_33, u_125_34, u_125_35, u_125_38, u_125_39, u_125_42, u_125_44, u_125_46, u_125_47, u_125_48, u_125_49, u_125_52, u_125_55, u_125_57, u_125_58, u_125_61, u_125_64, u_125_66, true_or, or_true, zk_li1_s, zk_ll1_s, zk_la1_r, zk_la1_n, zk_lg0, zk_lgs, zk_co_n, zk_co_i, zk_co_r, zk_co_u, zk_co_l, zk_l1_0, zk_l1_1, zk_l1_s, zk_l2_0, zk_l2_1, zk_l2_s, zk_sm0, zk_smi, zk_smr, zk_smn, zk_sml, zk_fi, zk_fz, zk_fo, zk_fn, zk_fa, zk_ts, zk_tn, zk_cases, true_and, and_true, List.getElem?_cons_zero, List.getElem?_cons_succ, List.length_cons, List.length_nil, Nat.reduceAdd, Nat.reduceLT, Nat.reduceLeDiff, List.set_cons_zero, List.set_cons_succ, va_rf, iz_lit, iz_lt, iz_neg, mg_2 hB, mr_2 hB, mw_2 hB]
      exact ⟨fun _ => rfl, fun c => absurd c (by omega)⟩
    | succ n ih =>
      intro k o hk hn
      have z1 := zo.2.2.2.1 k
      have z2 := zo.2.2.2.2 k
      have z3 := zend_r zo k
      rw [u_125_15]
      simp (disch := first | omega | assumption | (simp; done)) only [u_125_0, u_125_1, u_125_2, u_125_3, u_125_4, u_125_7, u_125_10, u_125_12, u_125_13, u_125_14, u_125_16, u_125_17, u_125_20, u_125_21, u_125_22, u_125_25, u_125_26, u_125_27, u_125_28, u_125_31, u_125_32, u_125_33, u_125_34, u_125_35, u_125_38, u_125_39, u_125_42, u_125_44, u_125_46, u_125_47, u_125_48, u_125_49, u_125_52, u_125_55, u_125_57, u_125_58, u_125_61, u_125_64, u_125_66, true_or, or_true, zk_li1_s, zk_ll1_s, zk_la1_r, zk_la1_n, zk_lg0, zk_lgs, zk_co_n, zk_co_i, zk_co_r, zk_co_u, zk_co_l, zk_l1_0, zk_l1_1, zk_l1_s, zk_l2_0, zk_l2_1, zk_l2_s, zk_sm0, zk_smi, zk_smr, zk_smn, zk_sml, zk_fi, zk_fz, zk_fo, zk_fn, zk_fa, zk_ts, zk_tn, zk_cases, true_and, and_true, List.getElem?_cons_zero, List.getElem?_cons_succ, List.length_cons, List.length_nil, Nat.reduceAdd, Nat.reduceLT, Nat.reduceLeDiff, List.set_cons_zero, List.set_cons_succ, va_rf, iz_lit, iz_lt, iz_add, iz_sub, mg_2 hB, mr_2 hB, mw_2 hB, ic, pf, pb, pt, mx]
      refine ⟨fun c => absurd c (by omega), fun _ => ⟨fun c => ?_, fun c => ?_⟩⟩
      · unfold zmoA
        rw [if_neg (by omega)]
        exact ih (k + 1) _ (by omega) (by omega)
      · unfold zmoA
        rw [if_pos (by omega)]
        unfold nof
        rw [if_neg (by omega)]
  have z5 := zoff_r zo 0
  have z6 : -840 ≤ zloc (ssOf m z) (osOf m z) 0 ∧ zloc (ssOf m z) (osOf m z) 0 ≤ 840 := by unfold zloc; omega
  simp (disch := first | omega | assumption | (simp; done)) only [u_125_0, u_125_1, u_125_2, u_125_3, u_125_4, u_125_7, u_125_10, u_125_12, u_125_13, u_125_14, u_125_16, u_125_17, u_125_20, u_125_21, u_125_22, u_125_25, u_125_26, u_125_27, u_125_28, u_125_31, u_125_32, u_125_33, u_125_34, u_125_35, u_125_38, u_125_39, u_125_42, u_125_44, u_125_46, u_125_47, u_125_48, u_125_49, u_125_52, u_125_55, u_125_57, u_125_58, u_125_61, u_125_64, u_125_66, true_or, or_true, zk_li1_s, zk_ll1_s, zk_la1_r, zk_la1_n, zk_lg0, zk_lgs, zk_co_n, zk_co_i, zk_co_r, zk_co_u, zk_co_l, zk_l1_0, zk_l1_1, zk_l1_s, zk_l2_0, zk_l2_1, zk_l2_s, zk_sm0, zk_smi, zk_smr, zk_smn, zk_sml, zk_fi, zk_fz, zk_fo, zk_fn, zk_fa, zk_ts, zk_tn, zk_cases, true_and, and_true, List.getElem?_cons_zero, List.getElem?_cons_succ, List.length_cons, List.length_nil, Nat.reduceAdd, Nat.reduceLT, Nat.reduceLeDiff, List.set_cons_zero, List.set_cons_succ, va_rf, iz_lit, iz_le, iz_neg, ic, lo]
  unfold zmom
  refine ⟨fun c => ?_, fun c => ?_⟩
  · rw [if_neg (by omega)]
    exact loop (ssOf m z).length 0 _ (by omega) (by omega)
  · rw [if_pos (by omega)]
    rfl
theorem zhA_ac {ss os : List Int} (zo : zok ss os) (zs : zsr ss) {m0 : Int} (hm : 1 ≤ m0) : zhA ss os m0 ss.length 0 (-2000) = zhb ss os m0 := by
  have key : ∀ l, l ≤ zhA ss os m0 ss.length 0 (-2000) ↔ l ≤ zhb ss os m0 := by
    intro l
    have h1 := zhA_sp zo zs m0 l ss.length 0 (-2000) (by omega)
    rw [show (((0 : Nat) : Int)) = 0 from rfl] at h1
    have z5 := zoff_r zo 0
    have z6 : -840 ≤ zloc ss os 0 ∧ zloc ss os 0 ≤ 840 := by unfold zloc; omega
    rw [h1, zhb_sp zo zs, zst_in (by have := zo.2.1; omega), show (((0 : Nat) : Int)) = 0 from rfl, zs.1]
    constructor
    · rintro (q | q)
      · left; omega
      · exact Or.inr q
    · rintro (q | q)
      · right; exact ⟨0, by omega, by omega, by omega, by omega⟩
      · exact Or.inr q
  have h1 := (key _).mp (Int.le_refl _)
  have h2 := (key _).mpr (Int.le_refl _)
  omega
theorem zhb_0 {ss os : List Int} (zo : zok ss os) (zs : zsr ss) : zhb ss os 0 = zloc ss os 0 - 1 := by
  have key := zhb_sp zo zs 0
  have h1 := (key (zhb ss os 0)).mp (Int.le_refl _)
  have h2 := zhb_r zo zs (m0 := 0)
  rcases h1 with q | ⟨m, m1, m2, m3, m4⟩ <;> omega
theorem d_firstLocal (hB : hpo G B M) {m : mS} {z : Int} (hz : zI m z) (t : Int) (ht : 0 ≤ t ∧ t ≤ 100000000) (Q : Option Value → zk_H → Prop) : zk_wp G 147 0 [some (.ref M), some (.int (iz z)), some (.int (iz t)), none, none] [] (hp G B M m) Q ↔ Q (some (.int (iz (zhb (ssOf m z) (osOf m z) t + 1)))) (hp G B M m) := by
  refine zk_eq ?_ Q
  have hlen := ss_len hz
  have ic := hp_ic hB
  have pf := d_from hB hz
  have pb := d_by hB hz
  have pt := d_to hB hz
  have lo := d_localOf hB hz 0 (by omega)
  have mx := d_more (G := G) (hp G B M m)
  have mn := d_less (G := G) (hp G B M m)
  obtain ⟨h1, h2, h3, zo, zs, -⟩ := hz
  by_cases c0 : t = 0
  · subst c0
    simp (disch := first | omega | assumption | (simp; done)) only [u_147_0, u_147_1, u_147_4, u_147_5, u_147_6, u_147_7, u_147_10, u_147_14, u_147_15, u_147_16, u_147_20, u_147_21, u_147_24, u_147_25, u_147_26, u_147_29, u_147_30, u_147_31, u_147_33, u_147_36, u_147_37, u_147_40, u_147_41, u_147_42, u_147_44, u_147_47, u_147_48, u_147_49, u_147_51, u_147_54, u_147_57, u_147_58, u_147_59, u_147_60, u_147_62, u_147_65, u_147_66, u_147_67, u_147_68, u_147_71, u_147_72, u_147_73, u_147_75, u_147_78, u_147_79, u_147_82, u_147_83, u_147_86, u_147_89, u_147_90, u_147_91, u_147_92, true_or, or_true, zk_li1_s, zk_ll1_s, zk_la1_r, zk_la1_n, zk_lg0, zk_lgs, zk_co_n, zk_co_i, zk_co_r, zk_co_u, zk_co_l, zk_l1_0, zk_l1_1, zk_l1_s, zk_l2_0, zk_l2_1, zk_l2_s, zk_sm0, zk_smi, zk_smr, zk_smn, zk_sml, zk_fi, zk_fz, zk_fo, zk_fn, zk_fa, zk_ts, zk_tn, zk_cases, true_and, and_true, List.getElem?_cons_zero, List.getElem?_cons_succ, List.length_cons, List.length_nil, Nat.reduceAdd, Nat.reduceLT, Nat.reduceLeDiff, List.set_cons_zero, List.set_cons_succ, va_rf, iz_lit, iz_inj, ic, lo]
    rw [zhb_0 zo zs]
    simp
  have loop : ∀ (n : Nat) (k acc : Int), 0 ≤ k → k + n = m 2 z + 1 → -200000000 ≤ acc ∧ acc ≤ 200000000 → zk_wp G 147 18 [some (.ref M), some (.int (iz z)), some (.int (iz t)), some (.int (iz acc)), some (.int (iz k))] [] (hp G B M m) (fun r h' => r = some (.int (iz (zhA (ssOf m z) (osOf m z) t n k acc + 1))) ∧ h' = hp G B M m) := by
    intro n
    induction n with
    | zero =>
      intro k acc hk hn ha
      rw [u_147_18]
      simp (disch := first | omega | assumption | (simp; done)) only [u_147_0, u_147_1, u_147_4, u_147_5, u_147_6, u_147_7, u_147_10, u_147_11, u_147_14, u_147_15, u_147_16, u_147_20, u_147_21, u_147_24, u_147_25, u_147_26, u_147_30, u_147_31, u_147_33, u_147_36, u_147_37, u_147_40, u_147_41, u_147_42, u_147_44, u_147_47, u_147_48, u_147_49, u_147_51, u_147_54, u_147_57, u_147_58, u_147_59, u_147_60, u_147_62, u_147_65, u_147_66, u_147_67, u_147_68, u_147_71, u_147_72, u_147_73, u_147_75, u_147_78, u_147_79, u_147_82, u_147_83, u_147_86, u_147_89, u_147_90, u_147_91, u_147_92, true_or, or_true, zk_li1_s, zk_ll1_s, zk_la1_r, zk_la1_n, zk_lg0, zk_lgs, zk_co_n, zk_co_i, zk_co_r, zk_co_u, zk_co_l, zk_l1_0, zk_l1_1, zk_l1_s, zk_l2_0, zk_l2_1, zk_l2_s, zk_sm0, zk_smi, zk_smr, zk_smn, zk_sml, zk_fi, zk_fz, zk_fo, zk_fn, zk_fa, zk_ts, zk_tn, zk_cases, true_and, and_true, List.getElem?_cons_zero, List.getElem?_cons_succ, List.length_cons, List.length_nil, Nat.reduceAdd, Nat.reduceLT, Nat.reduceLeDiff, List.set_cons_zero, List.set_cons_succ, va_rf, iz_lit, iz_lt, iz_add, mg_2 hB, mr_2 hB, mw_2 hB]
      exact ⟨fun _ => rfl, fun c => absurd c (by omega)⟩
    | succ n ih =>
      intro k acc hk hn ha
      have z1 := zo.2.2.2.1 k
      have z2 := zo.2.2.2.2 k
      have z3 := zend_r zo k
      rw [u_147_18]
      simp (disch := first | omega | assumption | (simp; done)) only [u_147_0, u_147_1, u_147_4, u_147_5, u_147_6, u_147_7, u_147_10, u_147_11, u_147_14, u_147_15, u_147_16, u_147_20, u_147_21, u_147_24, u_147_25, u_147_26, u_147_29, u_147_30, u_147_31, u_147_33, u_147_36, u_147_37, u_147_40, u_147_41, u_147_42, u_147_44, u_147_47, u_147_48, u_147_49, u_147_51, u_147_54, u_147_57, u_147_58, u_147_59, u_147_60, u_147_62, u_147_65, u_147_66, u_147_67, u_147_68, u_147_71, u_147_72, u_147_73, u_147_75, u_147_78, u_147_79, u_147_82, u_147_83, u_147_86, u_147_89, u_147_90, u_147_91, u_147_92, true_or, or_true, zk_li1_s, zk_ll1_s, zk_la1_r, zk_la1_n, zk_lg0, zk_lgs, zk_co_n, zk_co_i, zk_co_r, zk_co_u, zk_co_l, zk_l1_0, zk_l1_1, zk_l1_s, zk_l2_0, zk_l2_1, zk_l2_s, zk_sm0, zk_smi, zk_smr, zk_smn, zk_sml, zk_fi, zk_fz, zk_fo, zk_fn, zk_fa, zk_ts, zk_tn, zk_cases, true_and, and_true, List.getElem?_cons_zero, List.getElem?_cons_succ, List.length_cons, List.length_nil, Nat.reduceAdd, Nat.reduceLT, Nat.reduceLeDiff, List.set_cons_zero, List.set_cons_succ, va_rf, iz_lit, iz_lt, iz_le, iz_add, iz_sub, mg_2 hB, mr_2 hB, mw_2 hB, ic, pf, pb, pt, mx, mn]
      refine ⟨fun c => absurd c (by omega), fun _ => ⟨fun c => ?_, fun c => ⟨fun c2 => ?_, fun c2 => ?_⟩⟩⟩
      · unfold zhA
        rw [if_neg (by omega)]
        exact ih (k + 1) acc (by omega) (by omega) ha
      · unfold zhA
        rw [if_neg (by omega)]
        exact ih (k + 1) acc (by omega) (by omega) ha
      · unfold zhA
        rw [if_pos (by omega)]
        exact ih (k + 1) _ (by omega) (by omega) (by omega)
  simp (disch := first | omega | assumption | (simp; done)) only [u_147_0, u_147_1, u_147_4, u_147_5, u_147_6, u_147_7, u_147_10, u_147_11, u_147_14, u_147_15, u_147_16, u_147_20, u_147_21, u_147_24, u_147_25, u_147_26, u_147_29, u_147_30, u_147_31, u_147_33, u_147_36, u_147_37, u_147_40, u_147_41, u_147_42, u_147_44, u_147_47, u_147_48, u_147_49, u_147_51, u_147_54, u_147_57, u_147_58, u_147_59, u_147_60, u_147_62, u_147_65, u_147_66, u_147_67, u_147_68, u_147_71, u_147_72, u_147_73, u_147_75, u_147_78, u_147_79, u_147_82, u_147_83, u_147_86, u_147_89, u_147_90, u_147_91, u_147_92, true_or, or_true, zk_li1_s, zk_ll1_s, zk_la1_r, zk_la1_n, zk_lg0, zk_lgs, zk_co_n, zk_co_i, zk_co_r, zk_co_u, zk_co_l, zk_l1_0, zk_l1_1, zk_l1_s, zk_l2_0, zk_l2_1, zk_l2_s, zk_sm0, zk_smi, zk_smr, zk_smn, zk_sml, zk_fi, zk_fz, zk_fo, zk_fn, zk_fa, zk_ts, zk_tn, zk_cases, true_and, and_true, List.getElem?_cons_zero, List.getElem?_cons_succ, List.length_cons, List.length_nil, Nat.reduceAdd, Nat.reduceLT, Nat.reduceLeDiff, List.set_cons_zero, List.set_cons_succ, va_rf, iz_lit, iz_inj, iz_neg, ic, lo]
  refine ⟨fun _ => ?_, fun c => absurd c c0⟩
  have := loop (ssOf m z).length 0 (-2000) (by omega) (by omega) (by omega)
  rw [zhA_ac zo zs (by omega)] at this
  exact this
end MZ
