/-! the class beside the model -/
def shd (k : Nat) : Bool := [0, 1, 10, 11, 12, 13, 14, 15, 16, 22, 23, 24, 25, 30, 31, 32, 33, 35, 36, 42, 43, 44, 45, 51, 52, 53].contains k
def runR (s m : mS) (i : Int) : Prop := (m 36 i = 0 → s 66 i = 2147483647) ∧ (m 36 i = 1 → s 63 i = m 37 i ∧ s 64 i = m 38 i ∧ s 65 i = m 39 i ∧ s 66 i = 2147483647 ∧ m 40 i = -9) ∧ (m 36 i = 2 → (m 40 i = -9 → s 66 i = 2147483647) ∧ (m 40 i ≠ -9 → s 66 i = m 40 i ∧ s 65 i = m 39 i + 1) ∧ s 67 i = m 41 i)
def RSH (s m : mS) : Prop := ∀ k z, shd k = true → s k z = m k z
def RLE (s m : mS) : Prop := ∀ z, 0 ≤ z → z < 8 * m 53 0 → s 54 z = m 54 z
def RRU (s m : mS) : Prop := ∀ i, 0 ≤ i → i < 36 → runR s m i ∧ max (s 62 i) (m 30 i) = max (m 34 i) (m 30 i) ∧ (0 ≤ s 62 i ∧ s 62 i ≤ 100000) ∧ (m 10 0 ≤ i % 12 → s 62 i = 0)
def RZO (s m : mS) : Prop := ∀ z, 0 ≤ z → z < m 1 0 → zR s m z
def RJO (s m : mS) : Prop := ∀ j, 0 ≤ j → j < m 10 0 → jR s m j ∧ s 61 j = awO m j
def ROT (s m : mS) : Prop := s 80 0 = m 1 0 ∧ s 81 0 = m 10 0 ∧ ∀ p, ¬ ((0 ≤ p ∧ p < 3 * m 1 0) ∨ (9 ≤ p ∧ p < 9 + 6 * m 10 0)) → s 102 p = 0
def REL (s m : mS) : Prop := RSH s m ∧ RLE s m ∧ RRU s m ∧ RZO s m ∧ RJO s m ∧ ROT s m ∧ rg s
/-- what is always so of the model's settings -/
def cJ (m : mS) (j : Int) : Prop := (0 ≤ m 23 j ∧ m 23 j ≤ 2) ∧ (0 ≤ m 24 j ∧ m 24 j ≤ 1440) ∧ (m 25 j = 0 ∨ m 25 j = 1) ∧ ((popA (awO m j) 12 : Nat) : Int) = m 26 j
def zJ (m : mS) (j : Int) : Prop := (m 12 j = 0 ∧ m 13 j = 0 ∧ m 14 j = 0 ∧ m 15 j = 0 ∧ m 16 j = 0) ∧ (m 17 j = 0 ∧ m 20 j = 0 ∧ m 28 j = 0 ∧ m 22 j = 0 ∧ m 23 j = 0 ∧ m 24 j = 0 ∧ m 25 j = 0 ∧ m 26 j = 0) ∧ (m 44 j = 0 ∧ m 45 j = 0 ∧ m 46 j = 0)
def MC (m : mS) : Prop := rg m ∧ (0 ≤ m 0 0 ∧ m 0 0 ≤ 21038399) ∧ (0 ≤ m 1 0 ∧ m 1 0 ≤ 3) ∧ (0 ≤ m 10 0 ∧ m 10 0 ≤ 12) ∧ (∀ z, 0 ≤ z → z < 3 → zI m z ∧ (m 1 0 ≤ z → m 2 z = 0 ∧ m 5 z = 0)) ∧ (∀ j, 0 ≤ j → j < 12 → jI m j ∧ eI m j ∧ cJ m j ∧ (m 10 0 ≤ j → zJ m j) ∧ (j < m 10 0 → m 11 j < m 1 0 ∧ ∀ i, 0 ≤ i → i < m 26 j → m 27 (3 * j + i) < m 10 0)) ∧ o3I m
/-- the order of a job's effects -/
def eO (m : mS) (j : Int) : Prop := (∀ i k, 0 ≤ i → i < k → k < m 46 j → m 47 (300 * j + i) < m 47 (300 * j + k)) ∧ (m 49 j = if m 46 j = 0 then -1 else m 47 (300 * j + (m 46 j - 1))) ∧ (m 50 j = if m 46 j = 0 then 0 else m 48 (300 * j + (m 46 j - 1)))
def ME (m : mS) : Prop := ∀ j, 0 ≤ j → j < 12 → eO m j
def rI (m : mS) (i : Int) : Prop := (0 ≤ m 30 i ∧ m 30 i ≤ 100000) ∧ (0 ≤ m 34 i ∧ m 34 i ≤ 100000) ∧ (-1 ≤ m 32 i ∧ m 32 i ≤ 21038399) ∧ (-1 ≤ m 38 i ∧ m 38 i ≤ 21038399) ∧ (m 36 i = 0 ∨ m 36 i = 1 ∨ m 36 i = 2) ∧ (m 36 i = 0 ↔ m 35 i = 0) ∧ 0 ≤ m 35 i ∧ (m 40 i = -9 ∨ (0 ≤ m 40 i ∧ m 40 i ≤ 21038399)) ∧ (m 10 0 ≤ i % 12 → m 35 i = 0 ∧ m 34 i = 0)
def lI (m : mS) (f : Int → Int) : Prop := (0 ≤ f 0 ∧ f 0 ≤ 5) ∧ (0 ≤ f 1 ∧ f 1 < 3) ∧ (0 ≤ f 2 ∧ f 2 < 3) ∧ (f 0 = 5 → f 2 < 2) ∧ (0 ≤ f 3 ∧ f 3 < m 10 0) ∧ (f 0 ≠ 5 → 0 < f 4 ∧ f 4 ≤ 100000) ∧ (f 0 = 4 → 0 ≤ f 5 ∧ f 5 ≤ 100000) ∧ (f 0 = 1 → -1 ≤ f 6 ∧ f 6 ≤ 21038399) ∧ (f 0 = 2 ∨ f 0 = 5 → 0 ≤ f 5 ∧ f 5 ≤ 21038399)
def MP (m : mS) : Prop := (∀ i, 0 ≤ i → i < 36 → rI m i) ∧ (0 ≤ m 53 0 ∧ m 53 0 ≤ 60) ∧ (∀ l, 0 ≤ l → l < m 53 0 → lI m (fun k => m 54 (8 * l + k))) ∧ (∀ z, m 42 z = 0 ∨ m 42 z = 1) ∧ (∀ z, m 43 z = 0 ∨ m 43 z = 1)
def CC (G : zk_G) (B : zk_H) (ad : Int → Nat) (s m : mS) (y : Nat) (args : zk_L) (v : Int) (m' : mS) : Prop := ∃ B' ad' s', xE G (m 1 0) (m 10 0) B ad (m' 1 0) (m' 10 0) B' ad' (cs s' - cs s) ∧ ad' 0 = ad 0 ∧ REL s' m' ∧ ∀ Q : Option Value → zk_H → Prop, zk_wp G y 0 (some (.ref (ad 0)) :: args) [] (hx G B (m 1 0) (m 10 0) ad s) Q ↔ Q (some (.int (iz v))) (hx G B' (m' 1 0) (m' 10 0) ad' s')
section RELS
variable {G : zk_G} {B : zk_H} {ad : Int → Nat} {s m : mS}
theorem rel_cI (hR : REL s m) (hM : MC m) : cI s (m 1 0) (m 10 0) := by
  obtain ⟨r1, -, -, -, -, r6, -⟩ := hR
  obtain ⟨-, -, -, m4, m5, m6, -⟩ := hM
  refine ⟨⟨r1 1 0 rfl, r6.1, r1 10 0 rfl, r6.2.1⟩, fun j j1 j2 => ?_⟩
  rw [r1 11 j rfl]
  obtain ⟨a, -, -, -, b⟩ := m6 j j1 (by omega)
  exact ⟨a.2.1.1.1, (b j2).1⟩
theorem CC_q (hB : hxo G B (m 1 0) (m 10 0) ad) (hR : REL s m) {y : Nat} {args : zk_L} {v : Int} (h : ∀ Q : Option Value → zk_H → Prop, zk_wp G y 0 (some (.ref (ad 0)) :: args) [] (hx G B (m 1 0) (m 10 0) ad s) Q ↔ Q (some (.int (iz v))) (hx G B (m 1 0) (m 10 0) ad s)) : CC G B ad s m y args v m := by
  refine ⟨B, ad, s, ?_, rfl, hR, h⟩
  rw [Int.sub_self]
  exact xE_r hB
theorem rel_k (hR : REL s m) (k : Nat) (z : Int) (h : shd k = true := by rfl) : s k z = m k z := hR.1 k z h
theorem rel_A (hR : REL s m) (hM : MC m) : ∀ j, 0 ≤ j → j < m 10 0 → m 11 j < m 1 0 ∧ jI m j ∧ eI m j ∧ jR s m j ∧ zR s m (m 11 j) := by
  intro j j1 j2
  obtain ⟨-, -, -, m4, m5, m6, -⟩ := hM
  obtain ⟨a, b, -, -, e⟩ := m6 j j1 (by omega)
  have := (e j2).1
  exact ⟨this, a, b, (hR.2.2.2.2.1 j j1 j2).1, hR.2.2.2.1 _ a.2.1.1.1 this⟩
-- what is only asked
theorem k_effects (hB : hxo G B (m 1 0) (m 10 0) ad) (hR : REL s m) (hM : MC m) (j : Int) (hj : -2147483648 ≤ j ∧ j ≤ 2147483647) : CC G B ad s m 107 [some (.int (iz j)), none] (if 0 ≤ j ∧ j < m 10 0 then m 46 j else -1) m := by
  refine CC_q hB hR (fun Q => zk_eq ?_ Q)
  have hc := rel_cI hR hM
  by_cases c : 0 ≤ j ∧ j < m 10 0
  · rw [if_pos c]
    have ja := c_jobAt hB hc j c
    have hj := (hR.2.2.2.2.1 j c.1 c.2).1
    have e13 := hj.1.2.2.2.2.1
    have w := hj.2.2.2.2.2.2.1
    have len : s 100 (13 + 6 * j) = m 46 j := by
      have h1 := xr_len w
      rw [e13] at h1
      rw [← h1]
      have hE := (hM.2.2.2.2.2.1 j c.1 (by have := hM.2.2.2.1; omega)).2.1
      exact rl_len _ hE.1.1
    simp (disch := first | omega | assumption | (simp; done)) only [u_107_0, u_107_1, u_107_2, u_107_5, u_107_5N, u_107_6, u_107_7, u_107_7N, u_107_11, u_107_14, u_107_15, u_107_18, u_107_21, true_or, or_true, zk_li1_s, zk_ll1_s, zk_la1_r, zk_la1_n, zk_lg0, zk_lgs, zk_co_n, zk_co_i, zk_co_r, zk_co_u, zk_co_l, zk_l1_0, zk_l1_1, zk_l1_s, zk_l2_0, zk_l2_1, zk_l2_s, zk_sm0, zk_smi, zk_smr, zk_smn, zk_sml, zk_fi, zk_fz, zk_fo, zk_fn, zk_fa, zk_ts, zk_tn, zk_cases, true_and, and_true, List.getElem?_cons_zero, List.getElem?_cons_succ, List.length_cons, List.length_nil, Nat.reduceAdd, Nat.reduceLT, Nat.reduceLeDiff, List.set_cons_zero, List.set_cons_succ, va_rf, xi_tk hB, xg_tk_0 hB, xg_tk_1 hB, xg_tk_2 hB, xg_tk_3 hB, xg_tk_4 hB, xg_tk_5 hB, xg_tk_6 hB, xp_tk_6 hB, xg_tk_7 hB, xp_tk_7 hB, xg_tk_8 hB, xp_tk_8 hB, xg_tk_9 hB, xp_tk_9 hB, xi_jo hB, xg_jo_0 hB, xg_jo_1 hB, xg_jo_2 hB, xg_jo_3 hB, xp_jo_3 hB, xg_jo_4 hB, xp_jo_4 hB, xg_jo_5 hB, xp_jo_5 hB, xg_jo_6 hB, xp_jo_6 hB, xg_jo_7 hB, xp_jo_7 hB, xg_jo_8 hB, xp_jo_8 hB, xi_ro hB, xg_ro_0 hB, xg_ro_1 hB, xg_ro_2 hB, xp_ro_2 hB, iz_lit, ja, len]
    all_goals ((repeat' (first | exact trivial | exact ⟨rfl, rfl⟩ | rfl | apply And.intro | intro _)) <;> first | omega | (exfalso; omega) | contradiction | (exfalso; simp_all; done) | trace_state)
  · rw [if_neg c]
    have ja := c_jobAt0 hB hc j hj c
    simp (disch := first | omega | assumption | (simp; done)) only [u_107_0, u_107_1, u_107_2, u_107_5, u_107_5N, u_107_6, u_107_7, u_107_7N, u_107_10, u_107_11, u_107_15, u_107_18, u_107_21, true_or, or_true, zk_li1_s, zk_ll1_s, zk_la1_r, zk_la1_n, zk_lg0, zk_lgs, zk_co_n, zk_co_i, zk_co_r, zk_co_u, zk_co_l, zk_l1_0, zk_l1_1, zk_l1_s, zk_l2_0, zk_l2_1, zk_l2_s, zk_sm0, zk_smi, zk_smr, zk_smn, zk_sml, zk_fi, zk_fz, zk_fo, zk_fn, zk_fa, zk_ts, zk_tn, zk_cases, true_and, and_true, List.getElem?_cons_zero, List.getElem?_cons_succ, List.length_cons, List.length_nil, Nat.reduceAdd, Nat.reduceLT, Nat.reduceLeDiff, List.set_cons_zero, List.set_cons_succ, va_rf, xi_tk hB, iz_lit, iz_neg, ja]
    all_goals ((repeat' (first | exact trivial | exact ⟨rfl, rfl⟩ | rfl | apply And.intro | intro _)) <;> first | omega | (exfalso; omega) | contradiction | (exfalso; simp_all; done) | trace_state)
theorem k_waiting (hB : hxo G B (m 1 0) (m 10 0) ad) (hR : REL s m) (hM : MC m) (j : Int) (hj : -2147483648 ≤ j ∧ j ≤ 2147483647) : CC G B ad s m 109 [some (.int (iz j)), none] (if 0 ≤ j ∧ j < m 10 0 then m 44 j else -1) m := by
  refine CC_q hB hR (fun Q => zk_eq ?_ Q)
  have hc := rel_cI hR hM
  by_cases c : 0 ≤ j ∧ j < m 10 0
  · rw [if_pos c]
    have ja := c_jobAt hB hc j c
    have e := rel_k hR 44 j
    simp (disch := first | omega | assumption | (simp; done)) only [u_109_0, u_109_1, u_109_2, u_109_5, u_109_5N, u_109_6, u_109_7, u_109_7N, u_109_11, u_109_14, u_109_15, u_109_18, true_or, or_true, zk_li1_s, zk_ll1_s, zk_la1_r, zk_la1_n, zk_lg0, zk_lgs, zk_co_n, zk_co_i, zk_co_r, zk_co_u, zk_co_l, zk_l1_0, zk_l1_1, zk_l1_s, zk_l2_0, zk_l2_1, zk_l2_s, zk_sm0, zk_smi, zk_smr, zk_smn, zk_sml, zk_fi, zk_fz, zk_fo, zk_fn, zk_fa, zk_ts, zk_tn, zk_cases, true_and, and_true, List.getElem?_cons_zero, List.getElem?_cons_succ, List.length_cons, List.length_nil, Nat.reduceAdd, Nat.reduceLT, Nat.reduceLeDiff, List.set_cons_zero, List.set_cons_succ, va_rf, xi_tk hB, xg_tk_0 hB, xg_tk_1 hB, xg_tk_2 hB, xg_tk_3 hB, xg_tk_4 hB, xg_tk_5 hB, xg_tk_6 hB, xp_tk_6 hB, xg_tk_7 hB, xp_tk_7 hB, xg_tk_8 hB, xp_tk_8 hB, xg_tk_9 hB, xp_tk_9 hB, xi_jo hB, xg_jo_0 hB, xg_jo_1 hB, xg_jo_2 hB, xg_jo_3 hB, xp_jo_3 hB, xg_jo_4 hB, xp_jo_4 hB, xg_jo_5 hB, xp_jo_5 hB, xg_jo_6 hB, xp_jo_6 hB, xg_jo_7 hB, xp_jo_7 hB, xg_jo_8 hB, xp_jo_8 hB, iz_lit, ja, e]
    all_goals ((repeat' (first | exact trivial | exact ⟨rfl, rfl⟩ | rfl | apply And.intro | intro _)) <;> first | omega | (exfalso; omega) | contradiction | (exfalso; simp_all; done) | trace_state)
  · rw [if_neg c]
    have ja := c_jobAt0 hB hc j hj c
    simp (disch := first | omega | assumption | (simp; done)) only [u_109_0, u_109_1, u_109_2, u_109_5, u_109_5N, u_109_6, u_109_7, u_109_7N, u_109_10, u_109_11, u_109_15, u_109_18, true_or, or_true, zk_li1_s, zk_ll1_s, zk_la1_r, zk_la1_n, zk_lg0, zk_lgs, zk_co_n, zk_co_i, zk_co_r, zk_co_u, zk_co_l, zk_l1_0, zk_l1_1, zk_l1_s, zk_l2_0, zk_l2_1, zk_l2_s, zk_sm0, zk_smi, zk_smr, zk_smn, zk_sml, zk_fi, zk_fz, zk_fo, zk_fn, zk_fa, zk_ts, zk_tn, zk_cases, true_and, and_true, List.getElem?_cons_zero, List.getElem?_cons_succ, List.length_cons, List.length_nil, Nat.reduceAdd, Nat.reduceLT, Nat.reduceLeDiff, List.set_cons_zero, List.set_cons_succ, va_rf, xi_tk hB, iz_lit, iz_neg, ja]
    all_goals ((repeat' (first | exact trivial | exact ⟨rfl, rfl⟩ | rfl | apply And.intro | intro _)) <;> first | omega | (exfalso; omega) | contradiction | (exfalso; simp_all; done) | trace_state)
theorem k_passed (hB : hxo G B (m 1 0) (m 10 0) ad) (hR : REL s m) (hM : MC m) (j : Int) (hj : -2147483648 ≤ j ∧ j ≤ 2147483647) : CC G B ad s m 110 [some (.int (iz j)), none] (if 0 ≤ j ∧ j < m 10 0 then m 45 j else -1) m := by
  refine CC_q hB hR (fun Q => zk_eq ?_ Q)
  have hc := rel_cI hR hM
  by_cases c : 0 ≤ j ∧ j < m 10 0
  · rw [if_pos c]
    have ja := c_jobAt hB hc j c
    have e := rel_k hR 45 j
    simp (disch := first | omega | assumption | (simp; done)) only [u_110_0, u_110_1, u_110_2, u_110_5, u_110_5N, u_110_6, u_110_7, u_110_7N, u_110_11, u_110_14, u_110_15, u_110_18, true_or, or_true, zk_li1_s, zk_ll1_s, zk_la1_r, zk_la1_n, zk_lg0, zk_lgs, zk_co_n, zk_co_i, zk_co_r, zk_co_u, zk_co_l, zk_l1_0, zk_l1_1, zk_l1_s, zk_l2_0, zk_l2_1, zk_l2_s, zk_sm0, zk_smi, zk_smr, zk_smn, zk_sml, zk_fi, zk_fz, zk_fo, zk_fn, zk_fa, zk_ts, zk_tn, zk_cases, true_and, and_true, List.getElem?_cons_zero, List.getElem?_cons_succ, List.length_cons, List.length_nil, Nat.reduceAdd, Nat.reduceLT, Nat.reduceLeDiff, List.set_cons_zero, List.set_cons_succ, va_rf, xi_tk hB, xg_tk_0 hB, xg_tk_1 hB, xg_tk_2 hB, xg_tk_3 hB, xg_tk_4 hB, xg_tk_5 hB, xg_tk_6 hB, xp_tk_6 hB, xg_tk_7 hB, xp_tk_7 hB, xg_tk_8 hB, xp_tk_8 hB, xg_tk_9 hB, xp_tk_9 hB, xi_jo hB, xg_jo_0 hB, xg_jo_1 hB, xg_jo_2 hB, xg_jo_3 hB, xp_jo_3 hB, xg_jo_4 hB, xp_jo_4 hB, xg_jo_5 hB, xp_jo_5 hB, xg_jo_6 hB, xp_jo_6 hB, xg_jo_7 hB, xp_jo_7 hB, xg_jo_8 hB, xp_jo_8 hB, iz_lit, ja, e]
    all_goals ((repeat' (first | exact trivial | exact ⟨rfl, rfl⟩ | rfl | apply And.intro | intro _)) <;> first | omega | (exfalso; omega) | contradiction | (exfalso; simp_all; done) | trace_state)
  · rw [if_neg c]
    have ja := c_jobAt0 hB hc j hj c
    simp (disch := first | omega | assumption | (simp; done)) only [u_110_0, u_110_1, u_110_2, u_110_5, u_110_5N, u_110_6, u_110_7, u_110_7N, u_110_10, u_110_11, u_110_15, u_110_18, true_or, or_true, zk_li1_s, zk_ll1_s, zk_la1_r, zk_la1_n, zk_lg0, zk_lgs, zk_co_n, zk_co_i, zk_co_r, zk_co_u, zk_co_l, zk_l1_0, zk_l1_1, zk_l1_s, zk_l2_0, zk_l2_1, zk_l2_s, zk_sm0, zk_smi, zk_smr, zk_smn, zk_sml, zk_fi, zk_fz, zk_fo, zk_fn, zk_fa, zk_ts, zk_tn, zk_cases, true_and, and_true, List.getElem?_cons_zero, List.getElem?_cons_succ, List.length_cons, List.length_nil, Nat.reduceAdd, Nat.reduceLT, Nat.reduceLeDiff, List.set_cons_zero, List.set_cons_succ, va_rf, xi_tk hB, iz_lit, iz_neg, ja]
    all_goals ((repeat' (first | exact trivial | exact ⟨rfl, rfl⟩ | rfl | apply And.intro | intro _)) <;> first | omega | (exfalso; omega) | contradiction | (exfalso; simp_all; done) | trace_state)
theorem k_effect (hB : hxo G B (m 1 0) (m 10 0) ad) (hR : REL s m) (hM : MC m) (j i w : Int) (hj : -2147483648 ≤ j ∧ j ≤ 2147483647) (hi : -2147483648 ≤ i ∧ i ≤ 2147483647) (hw : -2147483648 ≤ w ∧ w ≤ 2147483647) : CC G B ad s m 108 [some (.int (iz j)), some (.int (iz i)), some (.int (iz w)), none] (v_eff m j i w) m := by
  refine CC_q hB hR (fun Q => zk_eq ?_ Q)
  have hc := rel_cI hR hM
  unfold v_eff
  by_cases c1 : 0 ≤ j ∧ j < m 10 0
  · have ja := c_jobAt hB hc j c1
    obtain ⟨hj, -⟩ := hR.2.2.2.2.1 j c1.1 c1.2
    have e13 := hj.1.2.2.2.2.1
    have e14 := hj.1.2.2.2.2.2
    have w13 := hj.2.2.2.2.2.2.1
    have w14 := hj.2.2.2.2.2.2.2
    have hE := (hM.2.2.2.2.2.1 j c1.1 (by have := hM.2.2.2.1; omega)).2.1
    have hE1 := hE.1
    have len : s 100 (13 + 6 * j) = m 46 j := by
      have h1 := xr_len w13
      rw [e13] at h1
      rw [← h1]
      exact rl_len _ hE.1.1
    by_cases c2 : 0 ≤ w ∧ w ≤ 1
    · rw [if_pos ⟨c1, c2⟩]
      by_cases c3 : 0 ≤ i ∧ i < m 46 j
      · rw [if_pos c3]
        have a13 := c_rowAt hB (p := 13 + 6 * j) (by omega) w13 i hi
        have a14 := c_rowAt hB (p := 14 + 6 * j) (by omega) w14 i hi
        rw [e13] at a13
        rw [e14] at a14
        have g13 : gz (efOf m j) i = m 47 (300 * j + i) := by unfold efOf; exact gz_rl _ c3.1 c3.2
        have g14 : gz (egOf m j) i = m 48 (300 * j + i) := by unfold egOf; exact gz_rl _ c3.1 c3.2
        rw [g13] at a13
        rw [g14] at a14
        by_cases c4 : w = 0
        · rw [if_pos c4]
          simp (disch := first | omega | assumption | (simp; done)) only [u_108_0, u_108_1, u_108_2, u_108_5, u_108_5N, u_108_7, u_108_9, u_108_9N, u_108_12, u_108_13, u_108_16, u_108_17, u_108_18, u_108_22, u_108_23, u_108_24, u_108_27, u_108_28, u_108_30, u_108_33, u_108_36, u_108_41, u_108_42, u_108_43, u_108_46, u_108_48, u_108_51, u_108_52, u_108_55, u_108_60, u_108_63, u_108_64, u_108_67, true_or, or_true, zk_li1_s, zk_ll1_s, zk_la1_r, zk_la1_n, zk_lg0, zk_lgs, zk_co_n, zk_co_i, zk_co_r, zk_co_u, zk_co_l, zk_l1_0, zk_l1_1, zk_l1_s, zk_l2_0, zk_l2_1, zk_l2_s, zk_sm0, zk_smi, zk_smr, zk_smn, zk_sml, zk_fi, zk_fz, zk_fo, zk_fn, zk_fa, zk_ts, zk_tn, zk_cases, true_and, and_true, List.getElem?_cons_zero, List.getElem?_cons_succ, List.length_cons, List.length_nil, Nat.reduceAdd, Nat.reduceLT, Nat.reduceLeDiff, List.set_cons_zero, List.set_cons_succ, va_rf, xi_tk hB, xg_tk_0 hB, xg_tk_1 hB, xg_tk_2 hB, xg_tk_3 hB, xg_tk_4 hB, xg_tk_5 hB, xg_tk_6 hB, xp_tk_6 hB, xg_tk_7 hB, xp_tk_7 hB, xg_tk_8 hB, xp_tk_8 hB, xg_tk_9 hB, xp_tk_9 hB, xi_jo hB, xg_jo_0 hB, xg_jo_1 hB, xg_jo_2 hB, xg_jo_3 hB, xp_jo_3 hB, xg_jo_4 hB, xp_jo_4 hB, xg_jo_5 hB, xp_jo_5 hB, xg_jo_6 hB, xp_jo_6 hB, xg_jo_7 hB, xp_jo_7 hB, xg_jo_8 hB, xp_jo_8 hB, xi_ro hB, xg_ro_0 hB, xg_ro_1 hB, xg_ro_2 hB, xp_ro_2 hB, iz_lit, iz_lt, iz_le, iz_inj, ja, len, a13]
          all_goals ((repeat' (first | exact trivial | exact ⟨rfl, rfl⟩ | rfl | apply And.intro | intro _)) <;> first | omega | (exfalso; omega) | contradiction | (exfalso; simp_all; done) | trace_state)
        · rw [if_neg c4]
          simp (disch := first | omega | assumption | (simp; done)) only [u_108_0, u_108_1, u_108_2, u_108_5, u_108_5N, u_108_7, u_108_9, u_108_9N, u_108_12, u_108_13, u_108_16, u_108_17, u_108_18, u_108_22, u_108_23, u_108_24, u_108_27, u_108_28, u_108_30, u_108_33, u_108_36, u_108_41, u_108_42, u_108_43, u_108_48, u_108_51, u_108_52, u_108_55, u_108_58, u_108_60, u_108_63, u_108_64, u_108_67, true_or, or_true, zk_li1_s, zk_ll1_s, zk_la1_r, zk_la1_n, zk_lg0, zk_lgs, zk_co_n, zk_co_i, zk_co_r, zk_co_u, zk_co_l, zk_l1_0, zk_l1_1, zk_l1_s, zk_l2_0, zk_l2_1, zk_l2_s, zk_sm0, zk_smi, zk_smr, zk_smn, zk_sml, zk_fi, zk_fz, zk_fo, zk_fn, zk_fa, zk_ts, zk_tn, zk_cases, true_and, and_true, List.getElem?_cons_zero, List.getElem?_cons_succ, List.length_cons, List.length_nil, Nat.reduceAdd, Nat.reduceLT, Nat.reduceLeDiff, List.set_cons_zero, List.set_cons_succ, va_rf, xi_tk hB, xg_tk_0 hB, xg_tk_1 hB, xg_tk_2 hB, xg_tk_3 hB, xg_tk_4 hB, xg_tk_5 hB, xg_tk_6 hB, xp_tk_6 hB, xg_tk_7 hB, xp_tk_7 hB, xg_tk_8 hB, xp_tk_8 hB, xg_tk_9 hB, xp_tk_9 hB, xi_jo hB, xg_jo_0 hB, xg_jo_1 hB, xg_jo_2 hB, xg_jo_3 hB, xp_jo_3 hB, xg_jo_4 hB, xp_jo_4 hB, xg_jo_5 hB, xp_jo_5 hB, xg_jo_6 hB, xp_jo_6 hB, xg_jo_7 hB, xp_jo_7 hB, xg_jo_8 hB, xp_jo_8 hB, xi_ro hB, xg_ro_0 hB, xg_ro_1 hB, xg_ro_2 hB, xp_ro_2 hB, iz_lit, iz_lt, iz_le, iz_inj, ja, len, a14]
          all_goals ((repeat' (first | exact trivial | exact ⟨rfl, rfl⟩ | rfl | apply And.intro | intro _)) <;> first | omega | (exfalso; omega) | contradiction | (exfalso; simp_all; done) | trace_state)
      · rw [if_neg c3]
        simp (disch := first | omega | assumption | (simp; done)) only [u_108_0, u_108_1, u_108_2, u_108_5, u_108_5N, u_108_7, u_108_9, u_108_9N, u_108_12, u_108_13, u_108_16, u_108_17, u_108_18, u_108_22, u_108_23, u_108_24, u_108_27, u_108_28, u_108_30, u_108_33, u_108_36, u_108_39, u_108_41, u_108_43, u_108_46, u_108_48, u_108_51, u_108_52, u_108_55, u_108_58, u_108_60, u_108_63, u_108_64, u_108_67, true_or, or_true, zk_li1_s, zk_ll1_s, zk_la1_r, zk_la1_n, zk_lg0, zk_lgs, zk_co_n, zk_co_i, zk_co_r, zk_co_u, zk_co_l, zk_l1_0, zk_l1_1, zk_l1_s, zk_l2_0, zk_l2_1, zk_l2_s, zk_sm0, zk_smi, zk_smr, zk_smn, zk_sml, zk_fi, zk_fz, zk_fo, zk_fn, zk_fa, zk_ts, zk_tn, zk_cases, true_and, and_true, List.getElem?_cons_zero, List.getElem?_cons_succ, List.length_cons, List.length_nil, Nat.reduceAdd, Nat.reduceLT, Nat.reduceLeDiff, List.set_cons_zero, List.set_cons_succ, va_rf, xi_tk hB, xg_tk_0 hB, xg_tk_1 hB, xg_tk_2 hB, xg_tk_3 hB, xg_tk_4 hB, xg_tk_5 hB, xg_tk_6 hB, xp_tk_6 hB, xg_tk_7 hB, xp_tk_7 hB, xg_tk_8 hB, xp_tk_8 hB, xg_tk_9 hB, xp_tk_9 hB, xi_jo hB, xg_jo_0 hB, xg_jo_1 hB, xg_jo_2 hB, xg_jo_3 hB, xp_jo_3 hB, xg_jo_4 hB, xp_jo_4 hB, xg_jo_5 hB, xp_jo_5 hB, xg_jo_6 hB, xp_jo_6 hB, xg_jo_7 hB, xp_jo_7 hB, xg_jo_8 hB, xp_jo_8 hB, xi_ro hB, xg_ro_0 hB, xg_ro_1 hB, xg_ro_2 hB, xp_ro_2 hB, iz_lit, iz_neg, iz_lt, iz_le, iz_inj, ja, len]
        all_goals ((repeat' (first | exact trivial | exact ⟨rfl, rfl⟩ | rfl | apply And.intro | intro _)) <;> first | omega | (exfalso; omega) | contradiction | (exfalso; simp_all; done) | trace_state)
    · rw [if_neg (fun q => c2 q.2)]
      simp (disch := first | omega | assumption | (simp; done)) only [u_108_0, u_108_1, u_108_2, u_108_5, u_108_5N, u_108_7, u_108_9, u_108_9N, u_108_12, u_108_13, u_108_16, u_108_17, u_108_18, u_108_21, u_108_22, u_108_24, u_108_27, u_108_28, u_108_30, u_108_33, u_108_36, u_108_39, u_108_41, u_108_42, u_108_43, u_108_46, u_108_48, u_108_51, u_108_52, u_108_55, u_108_58, u_108_60, u_108_63, u_108_64, u_108_67, true_or, or_true, zk_li1_s, zk_ll1_s, zk_la1_r, zk_la1_n, zk_lg0, zk_lgs, zk_co_n, zk_co_i, zk_co_r, zk_co_u, zk_co_l, zk_l1_0, zk_l1_1, zk_l1_s, zk_l2_0, zk_l2_1, zk_l2_s, zk_sm0, zk_smi, zk_smr, zk_smn, zk_sml, zk_fi, zk_fz, zk_fo, zk_fn, zk_fa, zk_ts, zk_tn, zk_cases, true_and, and_true, List.getElem?_cons_zero, List.getElem?_cons_succ, List.length_cons, List.length_nil, Nat.reduceAdd, Nat.reduceLT, Nat.reduceLeDiff, List.set_cons_zero, List.set_cons_succ, va_rf, xi_tk hB, xg_tk_0 hB, xg_tk_1 hB, xg_tk_2 hB, xg_tk_3 hB, xg_tk_4 hB, xg_tk_5 hB, xg_tk_6 hB, xp_tk_6 hB, xg_tk_7 hB, xp_tk_7 hB, xg_tk_8 hB, xp_tk_8 hB, xg_tk_9 hB, xp_tk_9 hB, iz_lit, iz_neg, iz_lt, iz_le, ja]
      all_goals ((repeat' (first | exact trivial | exact ⟨rfl, rfl⟩ | rfl | apply And.intro | intro _)) <;> first | omega | (exfalso; omega) | contradiction | (exfalso; simp_all; done) | trace_state)
  · rw [if_neg (fun q => c1 q.1)]
    have ja := c_jobAt0 hB hc j hj c1
    simp (disch := first | omega | assumption | (simp; done)) only [u_108_0, u_108_1, u_108_2, u_108_5, u_108_5N, u_108_7, u_108_9, u_108_9N, u_108_13, u_108_16, u_108_17, u_108_18, u_108_21, u_108_22, u_108_24, u_108_27, u_108_28, u_108_30, u_108_33, u_108_36, u_108_39, u_108_41, u_108_42, u_108_43, u_108_46, u_108_48, u_108_51, u_108_52, u_108_55, u_108_58, u_108_60, u_108_63, u_108_64, u_108_67, true_or, or_true, zk_li1_s, zk_ll1_s, zk_la1_r, zk_la1_n, zk_lg0, zk_lgs, zk_co_n, zk_co_i, zk_co_r, zk_co_u, zk_co_l, zk_l1_0, zk_l1_1, zk_l1_s, zk_l2_0, zk_l2_1, zk_l2_s, zk_sm0, zk_smi, zk_smr, zk_smn, zk_sml, zk_fi, zk_fz, zk_fo, zk_fn, zk_fa, zk_ts, zk_tn, zk_cases, true_and, and_true, List.getElem?_cons_zero, List.getElem?_cons_succ, List.length_cons, List.length_nil, Nat.reduceAdd, Nat.reduceLT, Nat.reduceLeDiff, List.set_cons_zero, List.set_cons_succ, va_rf, xi_tk hB, iz_lit, iz_neg, ja]
    all_goals ((repeat' (first | exact trivial | exact ⟨rfl, rfl⟩ | rfl | apply And.intro | intro _)) <;> first | omega | (exfalso; omega) | contradiction | (exfalso; simp_all; done) | trace_state)
theorem k_letter (hB : hxo G B (m 1 0) (m 10 0) ad) (hR : REL s m) (hP : MP m) (i w : Int) (hi : -2147483648 ≤ i ∧ i ≤ 2147483647) (hw : -2147483648 ≤ w ∧ w ≤ 2147483647) : CC G B ad s m 102 [some (.int (iz i)), some (.int (iz w)), none] (if (0 ≤ i ∧ i < m 53 0) ∧ (0 ≤ w ∧ w ≤ 7) then m 54 (8 * i + w) else -1) m := by
  refine CC_q hB hR (fun Q => zk_eq ?_ Q)
  have hs := hP.2.1
  have e53 := rel_k hR 53 0
  have tw := iz_toInt (z := w) (by omega) (by omega)
  by_cases c1 : 0 ≤ i ∧ i < m 53 0
  · have la := c_latt hB s (by rw [e53]; exact hs) i (by rw [e53]; exact c1)
    by_cases c2 : 0 ≤ w ∧ w ≤ 7
    · rw [if_pos ⟨c1, c2⟩, ← hR.2.1 (8 * i + w) (by omega) (by omega)]
      have cw : w = 0 ∨ w = 1 ∨ w = 2 ∨ w = 3 ∨ w = 4 ∨ w = 5 ∨ w = 6 ∨ w = 7 := by omega
      rcases cw with rfl | rfl | rfl | rfl | rfl | rfl | rfl | rfl
      all_goals (try rw [Int.add_zero])
      all_goals (simp (disch := first | omega | assumption | (simp; done)) only [u_102_0, u_102_1, u_102_4, u_102_5, u_102_8, u_102_8N, u_102_9, u_102_10, u_102_10N, u_102_13, u_102_14, u_102_15, u_102_16, u_102_64, u_102_65, u_102_68, u_102_69, u_102_70, u_102_73, u_102_74, u_102_75, u_102_78, u_102_79, u_102_80, u_102_83, u_102_84, u_102_85, u_102_88, u_102_89, u_102_90, u_102_93, u_102_94, u_102_95, u_102_98, u_102_99, u_102_100, u_102_103, u_102_105, true_or, or_true, zk_li1_s, zk_ll1_s, zk_la1_r, zk_la1_n, zk_lg0, zk_lgs, zk_co_n, zk_co_i, zk_co_r, zk_co_u, zk_co_l, zk_l1_0, zk_l1_1, zk_l1_s, zk_l2_0, zk_l2_1, zk_l2_s, zk_sm0, zk_smi, zk_smr, zk_smn, zk_sml, zk_fi, zk_fz, zk_fo, zk_fn, zk_fa, zk_ts, zk_tn, zk_cases, true_and, and_true, List.getElem?_cons_zero, List.getElem?_cons_succ, List.length_cons, List.length_nil, Nat.reduceAdd, Nat.reduceLT, Nat.reduceLeDiff, List.set_cons_zero, List.set_cons_succ, va_rf, xi_tk hB, xg_tk_0 hB, xg_tk_1 hB, xg_tk_2 hB, xg_tk_3 hB, xg_tk_4 hB, xg_tk_5 hB, xg_tk_6 hB, xp_tk_6 hB, xg_tk_7 hB, xp_tk_7 hB, xg_tk_8 hB, xp_tk_8 hB, xg_tk_9 hB, xp_tk_9 hB, xi_le hB, xg_le_0 hB, xp_le_0 hB, xg_le_1 hB, xp_le_1 hB, xg_le_2 hB, xp_le_2 hB, xg_le_3 hB, xp_le_3 hB, xg_le_4 hB, xp_le_4 hB, xg_le_5 hB, xp_le_5 hB, xg_le_6 hB, xp_le_6 hB, xg_le_7 hB, xp_le_7 hB, xi_ls hB, iz_lit, la, tw])
      all_goals ((repeat' (first | exact trivial | exact ⟨rfl, rfl⟩ | rfl | apply And.intro | intro _)) <;> first | omega | (exfalso; omega) | contradiction | (exfalso; simp_all; done) | trace_state)
    · rw [if_neg (fun q => c2 q.2)]
      simp (disch := first | omega | assumption | (simp; done)) only [u_102_0, u_102_1, u_102_4, u_102_5, u_102_8, u_102_8N, u_102_9, u_102_10, u_102_10N, u_102_13, u_102_14, u_102_15, u_102_16, u_102_65, u_102_68, u_102_70, u_102_73, u_102_75, u_102_78, u_102_80, u_102_83, u_102_85, u_102_88, u_102_90, u_102_93, u_102_95, u_102_98, u_102_100, u_102_103, u_102_104, u_102_105, true_or, or_true, zk_li1_s, zk_ll1_s, zk_la1_r, zk_la1_n, zk_lg0, zk_lgs, zk_co_n, zk_co_i, zk_co_r, zk_co_u, zk_co_l, zk_l1_0, zk_l1_1, zk_l1_s, zk_l2_0, zk_l2_1, zk_l2_s, zk_sm0, zk_smi, zk_smr, zk_smn, zk_sml, zk_fi, zk_fz, zk_fo, zk_fn, zk_fa, zk_ts, zk_tn, zk_cases, true_and, and_true, List.getElem?_cons_zero, List.getElem?_cons_succ, List.length_cons, List.length_nil, Nat.reduceAdd, Nat.reduceLT, Nat.reduceLeDiff, List.set_cons_zero, List.set_cons_succ, va_rf, xi_tk hB, xg_tk_0 hB, xg_tk_1 hB, xg_tk_2 hB, xg_tk_3 hB, xg_tk_4 hB, xg_tk_5 hB, xg_tk_6 hB, xp_tk_6 hB, xg_tk_7 hB, xp_tk_7 hB, xg_tk_8 hB, xp_tk_8 hB, xg_tk_9 hB, xp_tk_9 hB, xi_ls hB, iz_lit, iz_neg, la, tw]
      all_goals ((repeat' (first | exact trivial | exact ⟨rfl, rfl⟩ | rfl | apply And.intro | intro _)) <;> first | omega | (exfalso; omega) | contradiction | (exfalso; simp_all; done) | trace_state)
  · rw [if_neg (fun q => c1 q.1)]
    have la := c_latt0 hB s (by rw [e53]; exact hs) i hi (by rw [e53]; exact c1)
    simp (disch := first | omega | assumption | (simp; done)) only [u_102_0, u_102_1, u_102_4, u_102_5, u_102_8, u_102_8N, u_102_9, u_102_10, u_102_10N, u_102_13, u_102_14, u_102_16, u_102_64, u_102_65, u_102_68, u_102_69, u_102_70, u_102_73, u_102_74, u_102_75, u_102_78, u_102_79, u_102_80, u_102_83, u_102_84, u_102_85, u_102_88, u_102_89, u_102_90, u_102_93, u_102_94, u_102_95, u_102_98, u_102_99, u_102_100, u_102_103, u_102_104, u_102_105, true_or, or_true, zk_li1_s, zk_ll1_s, zk_la1_r, zk_la1_n, zk_lg0, zk_lgs, zk_co_n, zk_co_i, zk_co_r, zk_co_u, zk_co_l, zk_l1_0, zk_l1_1, zk_l1_s, zk_l2_0, zk_l2_1, zk_l2_s, zk_sm0, zk_smi, zk_smr, zk_smn, zk_sml, zk_fi, zk_fz, zk_fo, zk_fn, zk_fa, zk_ts, zk_tn, zk_cases, true_and, and_true, List.getElem?_cons_zero, List.getElem?_cons_succ, List.length_cons, List.length_nil, Nat.reduceAdd, Nat.reduceLT, Nat.reduceLeDiff, List.set_cons_zero, List.set_cons_succ, va_rf, xi_tk hB, xg_tk_0 hB, xg_tk_1 hB, xg_tk_2 hB, xg_tk_3 hB, xg_tk_4 hB, xg_tk_5 hB, xg_tk_6 hB, xp_tk_6 hB, xg_tk_7 hB, xp_tk_7 hB, xg_tk_8 hB, xp_tk_8 hB, xg_tk_9 hB, xp_tk_9 hB, xi_ls hB, iz_lit, iz_neg, la]
    all_goals ((repeat' (first | exact trivial | exact ⟨rfl, rfl⟩ | rfl | apply And.intro | intro _)) <;> first | omega | (exfalso; omega) | contradiction | (exfalso; simp_all; done) | trace_state)
end RELS
