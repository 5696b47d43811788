/-! registers, runs and jobs of the class -/
def rg (s : mS) : Prop := ∀ k z, k ≠ 12 → k ≠ 14 → -2147483648 ≤ s k z ∧ s k z ≤ 2147483647
theorem rg_up {s : mS} (h : rg s) (k : Nat) (z : Int) {v : Int} (hv : -2147483648 ≤ v ∧ v ≤ 2147483647) : rg (up s k z v) := by
  intro k' z' a b
  unfold up
  split
  · split
    · exact hv
    · exact h k' z' a b
  · exact h k' z' a b
theorem rg_of {s : mS} (h : rg s) (k : Nat) (z : Int) (a : k ≠ 12 := by decide) (b : k ≠ 14 := by decide) : -2147483648 ≤ s k z ∧ s k z ≤ 2147483647 := h k z a b
def cend (s : mS) (i : Int) : mS := up (up (up s 36 i 0) 35 i 0) 66 i 2147483647
def cbeg (s : mS) (i b a u g : Int) : mS := up (up (up (up (up (up s 36 i 1) 35 i b) 63 i a) 64 i u) 65 i g) 66 i 2147483647
def cacc (s : mS) (i b u g : Int) : mS := up (up (up s 31 i b) 32 i u) 33 i g
def crd (s : mS) (i l : Int) : mS := if s 63 i < s 54 (8 * l + 5) then up (up s 64 i (s 54 (8 * l + 6))) 65 i (s 54 (8 * l + 7)) else s
def cclm (s : mS) (i mi nw ov : Int) : mS := if mi = 2147483647 then up (up (up (up s 36 i 2) 66 i mi) 67 i ov) 64 i nw else up (up (up (up (up s 36 i 2) 66 i mi) 67 i ov) 64 i mi) 65 i (s 65 i + 1)
def cbal (sc p r : Int) : Int := 3 * max 1 ((max p r - sc) / 3 + 1) + sc
def cbgn (s : mS) (sc i : Int) : mS := cbeg (up s 30 i (cbal sc (s 30 i) (s 62 i))) i (cbal sc (s 30 i) (s 62 i)) (s 31 i) (s 32 i) (s 33 i)
def cref (s : mS) (i l : Int) : mS := if s 36 i ≠ 0 ∧ s 35 i = s 54 (8 * l + 4) then cend (up s 62 i (max (s 62 i) (s 54 (8 * l + 5)))) i else up s 62 i (max (s 62 i) (s 54 (8 * l + 5)))
def xr (s : mS) (p : Int) : List Int := rl (s 100 p) (fun k => s 101 (600 * p + k))
section REG
variable {G : zk_G} {B : zk_H} {nz nj : Int} {ad : Int → Nat}
theorem c_end (hB : hxo G B nz nj ad) (s : mS) (i : Int) (hi : 0 ≤ i ∧ i < 36) (Q : Option Value → zk_H → Prop) : zk_wp G 40 0 [some (.ref (ad (140 + i)))] [] (hx G B nz nj ad s) Q ↔ Q none (hx G B nz nj ad (cend s i)) := by
  refine zk_eq ?_ Q
  unfold cend
  simp (disch := first | omega | assumption | (simp; done)) only [u_40_0, u_40_1, u_40_2, u_40_5, u_40_6, u_40_7, u_40_10, u_40_11, u_40_13, u_40_16, true_or, or_true, zk_li1_s, zk_ll1_s, zk_la1_r, zk_la1_n, zk_lg0, zk_lgs, zk_co_n, zk_co_i, zk_co_r, zk_co_u, zk_co_l, zk_l1_0, zk_l1_1, zk_l1_s, zk_l2_0, zk_l2_1, zk_l2_s, zk_sm0, zk_smi, zk_smr, zk_smn, zk_sml, zk_fi, zk_fz, zk_fo, zk_fn, zk_fa, zk_ts, zk_tn, zk_cases, true_and, and_true, List.getElem?_cons_zero, List.getElem?_cons_succ, List.length_cons, List.length_nil, Nat.reduceAdd, Nat.reduceLT, Nat.reduceLeDiff, List.set_cons_zero, List.set_cons_succ, va_rf, xi_ru hB, xg_ru_0 hB, xp_ru_0 hB, xg_ru_1 hB, xp_ru_1 hB, xg_ru_2 hB, xp_ru_2 hB, xg_ru_3 hB, xp_ru_3 hB, xg_ru_4 hB, xp_ru_4 hB, xg_ru_5 hB, xp_ru_5 hB, xg_ru_6 hB, xp_ru_6 hB, iz_lit]
  all_goals ((repeat' (first | exact trivial | exact ⟨rfl, rfl⟩ | rfl | apply And.intro | intro _)) <;> first | omega | (exfalso; omega) | contradiction | (exfalso; simp_all; done) | trace_state)
theorem c_begin (hB : hxo G B nz nj ad) (s : mS) (i : Int) (hi : 0 ≤ i ∧ i < 36) (b a u g : Int) (Q : Option Value → zk_H → Prop) : zk_wp G 38 0 [some (.ref (ad (140 + i))), some (.int (iz b)), some (.int (iz a)), some (.int (iz u)), some (.int (iz g))] [] (hx G B nz nj ad s) Q ↔ Q none (hx G B nz nj ad (cbeg s i b a u g)) := by
  refine zk_eq ?_ Q
  unfold cbeg
  simp (disch := first | omega | assumption | (simp; done)) only [u_38_0, u_38_1, u_38_2, u_38_5, u_38_6, u_38_7, u_38_10, u_38_11, u_38_12, u_38_15, u_38_16, u_38_17, u_38_20, u_38_21, u_38_23, u_38_26, u_38_27, u_38_29, u_38_32, true_or, or_true, zk_li1_s, zk_ll1_s, zk_la1_r, zk_la1_n, zk_lg0, zk_lgs, zk_co_n, zk_co_i, zk_co_r, zk_co_u, zk_co_l, zk_l1_0, zk_l1_1, zk_l1_s, zk_l2_0, zk_l2_1, zk_l2_s, zk_sm0, zk_smi, zk_smr, zk_smn, zk_sml, zk_fi, zk_fz, zk_fo, zk_fn, zk_fa, zk_ts, zk_tn, zk_cases, true_and, and_true, List.getElem?_cons_zero, List.getElem?_cons_succ, List.length_cons, List.length_nil, Nat.reduceAdd, Nat.reduceLT, Nat.reduceLeDiff, List.set_cons_zero, List.set_cons_succ, va_rf, xi_ru hB, xg_ru_0 hB, xp_ru_0 hB, xg_ru_1 hB, xp_ru_1 hB, xg_ru_2 hB, xp_ru_2 hB, xg_ru_3 hB, xp_ru_3 hB, xg_ru_4 hB, xp_ru_4 hB, xg_ru_5 hB, xp_ru_5 hB, xg_ru_6 hB, xp_ru_6 hB, iz_lit]
  all_goals ((repeat' (first | exact trivial | exact ⟨rfl, rfl⟩ | rfl | apply And.intro | intro _)) <;> first | omega | (exfalso; omega) | contradiction | (exfalso; simp_all; done) | trace_state)
theorem c_accept (hB : hxo G B nz nj ad) (s : mS) (i : Int) (hi : 0 ≤ i ∧ i < 36) (b u g : Int) (Q : Option Value → zk_H → Prop) : zk_wp G 14 0 [some (.ref (ad (100 + i))), some (.int (iz b)), some (.int (iz u)), some (.int (iz g))] [] (hx G B nz nj ad s) Q ↔ Q none (hx G B nz nj ad (cacc s i b u g)) := by
  refine zk_eq ?_ Q
  unfold cacc
  simp (disch := first | omega | assumption | (simp; done)) only [u_14_0, u_14_1, u_14_2, u_14_5, u_14_6, u_14_7, u_14_10, u_14_11, u_14_12, u_14_15, true_or, or_true, zk_li1_s, zk_ll1_s, zk_la1_r, zk_la1_n, zk_lg0, zk_lgs, zk_co_n, zk_co_i, zk_co_r, zk_co_u, zk_co_l, zk_l1_0, zk_l1_1, zk_l1_s, zk_l2_0, zk_l2_1, zk_l2_s, zk_sm0, zk_smi, zk_smr, zk_smn, zk_sml, zk_fi, zk_fz, zk_fo, zk_fn, zk_fa, zk_ts, zk_tn, zk_cases, true_and, and_true, List.getElem?_cons_zero, List.getElem?_cons_succ, List.length_cons, List.length_nil, Nat.reduceAdd, Nat.reduceLT, Nat.reduceLeDiff, List.set_cons_zero, List.set_cons_succ, va_rf, xi_re hB, xg_re_0 hB, xg_re_1 hB, xp_re_1 hB, xg_re_2 hB, xp_re_2 hB, xg_re_3 hB, xp_re_3 hB, xg_re_4 hB, xp_re_4 hB, xg_re_5 hB, xp_re_5 hB, iz_lit]
  all_goals ((repeat' (first | exact trivial | exact ⟨rfl, rfl⟩ | rfl | apply And.intro | intro _)) <;> first | omega | (exfalso; omega) | contradiction | (exfalso; simp_all; done) | trace_state)
theorem c_reads (hB : hxo G B nz nj ad) {s : mS} (hr : rg s) (i l : Int) (hi : 0 ≤ i ∧ i < 36) (hl : 0 ≤ l ∧ l < 62) (Q : Option Value → zk_H → Prop) : zk_wp G 39 0 [some (.ref (ad (140 + i))), some (.ref (ad (10 + l)))] [] (hx G B nz nj ad s) Q ↔ Q (some (.int (iz (if s 36 i = 1 ∧ s 35 i = s 54 (8 * l + 4) then 1 else 0)))) (hx G B nz nj ad (if s 36 i = 1 ∧ s 35 i = s 54 (8 * l + 4) then crd s i l else s)) := by
  refine zk_eq ?_ Q
  have r1 := rg_of hr 36 i
  have r2 := rg_of hr 35 i
  have r3 := rg_of hr 54 (8 * l + 4)
  have r4 := rg_of hr 54 (8 * l + 5)
  have r5 := rg_of hr 63 i
  have e : up s 64 i (s 54 (8 * l + 6)) 54 (8 * l + 7) = s 54 (8 * l + 7) := up_k _ _ _ _ (by decide)
  unfold crd
  by_cases c : s 36 i = 1 ∧ s 35 i = s 54 (8 * l + 4)
  · rw [if_pos c, if_pos c]
    by_cases c2 : s 63 i < s 54 (8 * l + 5)
    · rw [if_pos c2]
      simp (disch := first | omega | assumption | (simp; done)) only [u_39_0, u_39_1, u_39_4, u_39_5, u_39_8, u_39_9, u_39_12, u_39_13, u_39_16, u_39_19, u_39_20, u_39_21, u_39_22, u_39_25, u_39_26, u_39_29, u_39_32, u_39_33, u_39_34, u_39_37, u_39_40, u_39_41, u_39_42, u_39_45, u_39_48, u_39_49, true_or, or_true, zk_li1_s, zk_ll1_s, zk_la1_r, zk_la1_n, zk_lg0, zk_lgs, zk_co_n, zk_co_i, zk_co_r, zk_co_u, zk_co_l, zk_l1_0, zk_l1_1, zk_l1_s, zk_l2_0, zk_l2_1, zk_l2_s, zk_sm0, zk_smi, zk_smr, zk_smn, zk_sml, zk_fi, zk_fz, zk_fo, zk_fn, zk_fa, zk_ts, zk_tn, zk_cases, true_and, and_true, List.getElem?_cons_zero, List.getElem?_cons_succ, List.length_cons, List.length_nil, Nat.reduceAdd, Nat.reduceLT, Nat.reduceLeDiff, List.set_cons_zero, List.set_cons_succ, va_rf, xi_ru hB, xg_ru_0 hB, xp_ru_0 hB, xg_ru_1 hB, xp_ru_1 hB, xg_ru_2 hB, xp_ru_2 hB, xg_ru_3 hB, xp_ru_3 hB, xg_ru_4 hB, xp_ru_4 hB, xg_ru_5 hB, xp_ru_5 hB, xg_ru_6 hB, xp_ru_6 hB, xi_le hB, xg_le_0 hB, xp_le_0 hB, xg_le_1 hB, xp_le_1 hB, xg_le_2 hB, xp_le_2 hB, xg_le_3 hB, xp_le_3 hB, xg_le_4 hB, xp_le_4 hB, xg_le_5 hB, xp_le_5 hB, xg_le_6 hB, xp_le_6 hB, xg_le_7 hB, xp_le_7 hB, iz_lit, iz_inj, iz_le, e]
      all_goals ((repeat' (first | exact trivial | exact ⟨rfl, rfl⟩ | rfl | apply And.intro | intro _)) <;> first | omega | (exfalso; omega) | contradiction | (exfalso; simp_all; done) | trace_state)
    · rw [if_neg c2]
      simp (disch := first | omega | assumption | (simp; done)) only [u_39_0, u_39_1, u_39_4, u_39_5, u_39_8, u_39_9, u_39_12, u_39_13, u_39_16, u_39_19, u_39_20, u_39_21, u_39_22, u_39_25, u_39_26, u_39_29, u_39_32, u_39_33, u_39_34, u_39_37, u_39_40, u_39_41, u_39_42, u_39_45, u_39_48, u_39_49, true_or, or_true, zk_li1_s, zk_ll1_s, zk_la1_r, zk_la1_n, zk_lg0, zk_lgs, zk_co_n, zk_co_i, zk_co_r, zk_co_u, zk_co_l, zk_l1_0, zk_l1_1, zk_l1_s, zk_l2_0, zk_l2_1, zk_l2_s, zk_sm0, zk_smi, zk_smr, zk_smn, zk_sml, zk_fi, zk_fz, zk_fo, zk_fn, zk_fa, zk_ts, zk_tn, zk_cases, true_and, and_true, List.getElem?_cons_zero, List.getElem?_cons_succ, List.length_cons, List.length_nil, Nat.reduceAdd, Nat.reduceLT, Nat.reduceLeDiff, List.set_cons_zero, List.set_cons_succ, va_rf, xi_ru hB, xg_ru_0 hB, xp_ru_0 hB, xg_ru_1 hB, xp_ru_1 hB, xg_ru_2 hB, xp_ru_2 hB, xg_ru_3 hB, xp_ru_3 hB, xg_ru_4 hB, xp_ru_4 hB, xg_ru_5 hB, xp_ru_5 hB, xg_ru_6 hB, xp_ru_6 hB, xi_le hB, xg_le_0 hB, xp_le_0 hB, xg_le_1 hB, xp_le_1 hB, xg_le_2 hB, xp_le_2 hB, xg_le_3 hB, xp_le_3 hB, xg_le_4 hB, xp_le_4 hB, xg_le_5 hB, xp_le_5 hB, xg_le_6 hB, xp_le_6 hB, xg_le_7 hB, xp_le_7 hB, iz_lit, iz_inj, iz_le, e]
      all_goals ((repeat' (first | exact trivial | exact ⟨rfl, rfl⟩ | rfl | apply And.intro | intro _)) <;> first | omega | (exfalso; omega) | contradiction | (exfalso; simp_all; done) | trace_state)
  · rw [if_neg c, if_neg c]
    simp (disch := first | omega | assumption | (simp; done)) only [u_39_0, u_39_1, u_39_4, u_39_5, u_39_8, u_39_9, u_39_12, u_39_13, u_39_16, u_39_19, u_39_20, u_39_22, u_39_25, u_39_26, u_39_29, u_39_32, u_39_33, u_39_34, u_39_37, u_39_40, u_39_41, u_39_42, u_39_45, u_39_48, u_39_49, true_or, or_true, zk_li1_s, zk_ll1_s, zk_la1_r, zk_la1_n, zk_lg0, zk_lgs, zk_co_n, zk_co_i, zk_co_r, zk_co_u, zk_co_l, zk_l1_0, zk_l1_1, zk_l1_s, zk_l2_0, zk_l2_1, zk_l2_s, zk_sm0, zk_smi, zk_smr, zk_smn, zk_sml, zk_fi, zk_fz, zk_fo, zk_fn, zk_fa, zk_ts, zk_tn, zk_cases, true_and, and_true, List.getElem?_cons_zero, List.getElem?_cons_succ, List.length_cons, List.length_nil, Nat.reduceAdd, Nat.reduceLT, Nat.reduceLeDiff, List.set_cons_zero, List.set_cons_succ, va_rf, xi_ru hB, xg_ru_0 hB, xp_ru_0 hB, xg_ru_1 hB, xp_ru_1 hB, xg_ru_2 hB, xp_ru_2 hB, xg_ru_3 hB, xp_ru_3 hB, xg_ru_4 hB, xp_ru_4 hB, xg_ru_5 hB, xp_ru_5 hB, xg_ru_6 hB, xp_ru_6 hB, xi_le hB, xg_le_0 hB, xp_le_0 hB, xg_le_1 hB, xp_le_1 hB, xg_le_2 hB, xp_le_2 hB, xg_le_3 hB, xp_le_3 hB, xg_le_4 hB, xp_le_4 hB, xg_le_5 hB, xp_le_5 hB, xg_le_6 hB, xp_le_6 hB, xg_le_7 hB, xp_le_7 hB, iz_lit, iz_inj, iz_le]
    all_goals ((repeat' (first | exact trivial | exact ⟨rfl, rfl⟩ | rfl | apply And.intro | intro _)) <;> first | omega | (exfalso; omega) | contradiction | (exfalso; simp_all; done) | trace_state)
theorem c_claim (hB : hxo G B nz nj ad) {s : mS} (i : Int) (hi : 0 ≤ i ∧ i < 36) (mi nw ov : Int) (hm : -2147483648 ≤ mi ∧ mi ≤ 2147483647) (ho : ov = 0 ∨ ov = 1) (Q : Option Value → zk_H → Prop) : zk_wp G 41 0 [some (.ref (ad (140 + i))), some (.int (iz mi)), some (.int (iz nw)), some (.int (iz ov))] [] (hx G B nz nj ad s) Q ↔ Q none (hx G B nz nj ad (cclm s i mi nw ov)) := by
  refine zk_eq ?_ Q
  unfold cclm
  have e : up (up (up (up s 36 i 2) 66 i mi) 67 i ov) 64 i mi 65 i = s 65 i := by rw [up_k _ _ _ _ (by decide), up_k _ _ _ _ (by decide), up_k _ _ _ _ (by decide), up_k _ _ _ _ (by decide)]
  by_cases c : mi = 2147483647
  · rw [if_pos c]
    simp (disch := first | omega | assumption | (simp; done)) only [u_41_0, u_41_1, u_41_2, u_41_5, u_41_6, u_41_7, u_41_10, u_41_11, u_41_12, u_41_15, u_41_16, u_41_18, u_41_21, u_41_22, u_41_23, u_41_26, u_41_30, u_41_31, u_41_34, u_41_35i, u_41_35r, u_41_35n, u_41_36, u_41_39, u_41_40, u_41_41, u_41_44, true_or, or_true, zk_li1_s, zk_ll1_s, zk_la1_r, zk_la1_n, zk_lg0, zk_lgs, zk_co_n, zk_co_i, zk_co_r, zk_co_u, zk_co_l, zk_l1_0, zk_l1_1, zk_l1_s, zk_l2_0, zk_l2_1, zk_l2_s, zk_sm0, zk_smi, zk_smr, zk_smn, zk_sml, zk_fi, zk_fz, zk_fo, zk_fn, zk_fa, zk_ts, zk_tn, zk_cases, true_and, and_true, List.getElem?_cons_zero, List.getElem?_cons_succ, List.length_cons, List.length_nil, Nat.reduceAdd, Nat.reduceLT, Nat.reduceLeDiff, List.set_cons_zero, List.set_cons_succ, va_rf, xi_ru hB, xg_ru_0 hB, xp_ru_0 hB, xg_ru_1 hB, xp_ru_1 hB, xg_ru_2 hB, xp_ru_2 hB, xg_ru_3 hB, xp_ru_3 hB, xg_ru_4 hB, xp_ru_4 hB, xg_ru_5 hB, xp_ru_5 hB, xg_ru_6 hB, xp_ru_6 hB, iz_lit, iz_inj, c]
    all_goals ((repeat' (first | exact trivial | exact ⟨rfl, rfl⟩ | rfl | apply And.intro | intro _)) <;> first | omega | (exfalso; omega) | contradiction | (exfalso; simp_all; done) | trace_state)
  · rw [if_neg c]
    simp (disch := first | omega | assumption | (simp; done)) only [u_41_0, u_41_1, u_41_2, u_41_5, u_41_6, u_41_7, u_41_10, u_41_11, u_41_12, u_41_15, u_41_16, u_41_18, u_41_21, u_41_22, u_41_23, u_41_26, u_41_29, u_41_30, u_41_31, u_41_34, u_41_35i, u_41_35r, u_41_35n, u_41_36, u_41_39, u_41_40, u_41_41, u_41_44, true_or, or_true, zk_li1_s, zk_ll1_s, zk_la1_r, zk_la1_n, zk_lg0, zk_lgs, zk_co_n, zk_co_i, zk_co_r, zk_co_u, zk_co_l, zk_l1_0, zk_l1_1, zk_l1_s, zk_l2_0, zk_l2_1, zk_l2_s, zk_sm0, zk_smi, zk_smr, zk_smn, zk_sml, zk_fi, zk_fz, zk_fo, zk_fn, zk_fa, zk_ts, zk_tn, zk_cases, true_and, and_true, List.getElem?_cons_zero, List.getElem?_cons_succ, List.length_cons, List.length_nil, Nat.reduceAdd, Nat.reduceLT, Nat.reduceLeDiff, List.set_cons_zero, List.set_cons_succ, va_rf, xi_ru hB, xg_ru_0 hB, xp_ru_0 hB, xg_ru_1 hB, xp_ru_1 hB, xg_ru_2 hB, xp_ru_2 hB, xg_ru_3 hB, xp_ru_3 hB, xg_ru_4 hB, xp_ru_4 hB, xg_ru_5 hB, xp_ru_5 hB, xg_ru_6 hB, xp_ru_6 hB, iz_lit, iz_inj, iz_add, e]
    all_goals ((repeat' (first | exact trivial | exact ⟨rfl, rfl⟩ | rfl | apply And.intro | intro _)) <;> first | omega | (exfalso; omega) | contradiction | (exfalso; simp_all; done) | trace_state)
theorem c_beginRun (hB : hxo G B nz nj ad) {s : mS} (sc i : Int) (hs : 0 ≤ sc ∧ sc < 3) (hi : 0 ≤ i ∧ i < 36) (h1 : 0 ≤ s 30 i ∧ s 30 i ≤ 100000) (h2 : 0 ≤ s 62 i ∧ s 62 i ≤ 100000) (Q : Option Value → zk_H → Prop) : zk_wp G 13 0 [some (.ref (ad (100 + i))), some (.int (iz sc)), none, none] [] (hx G B nz nj ad s) Q ↔ Q (some (.int (iz (cbal sc (s 30 i) (s 62 i))))) (hx G B nz nj ad (cbgn s sc i)) := by
  refine zk_eq ?_ Q
  have m1 := c_mx G (hx G B nz nj ad s) (s 30 i) (s 62 i) (by omega) (by omega)
  have d1 := c_fdk G 3 (by omega) (hx G B nz nj ad s) (max (s 30 i) (s 62 i) - sc) (by omega)
  have m2 := c_mx G (hx G B nz nj ad s) 1 ((max (s 30 i) (s 62 i) - sc) / 3 + 1) (by omega) (by omega)
  unfold cbgn
  generalize hb : cbal sc (s 30 i) (s 62 i) = b
  have hb2 : 3 * max 1 ((max (s 30 i) (s 62 i) - sc) / 3 + 1) + sc = b := hb
  have bg := c_begin hB (up s 30 i b) i hi b (s 31 i) (s 32 i) (s 33 i)
  have e1 : up s 30 i b 30 i = b := up_e _ _ _ _
  have e2 : up s 30 i b 31 i = s 31 i := up_k _ _ _ _ (by decide)
  have e3 : up s 30 i b 32 i = s 32 i := up_k _ _ _ _ (by decide)
  have e4 : up s 30 i b 33 i = s 33 i := up_k _ _ _ _ (by decide)
  have e5 : cbeg (up s 30 i b) i b (s 31 i) (s 32 i) (s 33 i) 30 i = b := by unfold cbeg; rw [up_k _ _ _ _ (by decide), up_k _ _ _ _ (by decide), up_k _ _ _ _ (by decide), up_k _ _ _ _ (by decide), up_k _ _ _ _ (by decide), up_k _ _ _ _ (by decide), e1]
  simp (disch := first | omega | assumption | (simp; done)) only [u_13_0, u_13_1, u_13_4, u_13_5, u_13_8, u_13_11, u_13_12, u_13_13, u_13_14, u_13_15, u_13_16, u_13_17, u_13_20, u_13_21, u_13_22, u_13_25, u_13_26, u_13_27, u_13_28, u_13_29, u_13_30, u_13_31, u_13_32, u_13_35, u_13_36, u_13_39, u_13_40, u_13_43, u_13_44, u_13_47, u_13_48, u_13_51, u_13_52, u_13_55, u_13_58, u_13_59, u_13_62, true_or, or_true, zk_li1_s, zk_ll1_s, zk_la1_r, zk_la1_n, zk_lg0, zk_lgs, zk_co_n, zk_co_i, zk_co_r, zk_co_u, zk_co_l, zk_l1_0, zk_l1_1, zk_l1_s, zk_l2_0, zk_l2_1, zk_l2_s, zk_sm0, zk_smi, zk_smr, zk_smn, zk_sml, zk_fi, zk_fz, zk_fo, zk_fn, zk_fa, zk_ts, zk_tn, zk_cases, true_and, and_true, List.getElem?_cons_zero, List.getElem?_cons_succ, List.length_cons, List.length_nil, Nat.reduceAdd, Nat.reduceLT, Nat.reduceLeDiff, List.set_cons_zero, List.set_cons_succ, va_rf, xi_re hB, xg_re_0 hB, xg_re_1 hB, xp_re_1 hB, xg_re_2 hB, xp_re_2 hB, xg_re_3 hB, xp_re_3 hB, xg_re_4 hB, xp_re_4 hB, xg_re_5 hB, xp_re_5 hB, xi_ru hB, iz_lit, iz_add, iz_sub, iz_mul, m1, d1, m2, hb2, e1, e2, e3, e4, bg, e5]
  all_goals ((repeat' (first | exact trivial | exact ⟨rfl, rfl⟩ | rfl | apply And.intro | intro _)) <;> first | omega | (exfalso; omega) | contradiction | (exfalso; simp_all; done) | trace_state)
theorem c_beRef (hB : hxo G B nz nj ad) {s : mS} (hr : rg s) (i l : Int) (hi : 0 ≤ i ∧ i < 36) (hl : 0 ≤ l ∧ l < 62) (Q : Option Value → zk_H → Prop) : zk_wp G 15 0 [some (.ref (ad (100 + i))), some (.ref (ad (10 + l)))] [] (hx G B nz nj ad s) Q ↔ Q none (hx G B nz nj ad (cref s i l)) := by
  refine zk_eq ?_ Q
  have r1 := rg_of hr 36 i
  have r2 := rg_of hr 35 i
  have r3 := rg_of hr 54 (8 * l + 4)
  have r4 := rg_of hr 54 (8 * l + 5)
  have r5 := rg_of hr 62 i
  have m1 := c_mx G (hx G B nz nj ad s) (s 62 i) (s 54 (8 * l + 5)) (by omega) (by omega)
  unfold cref
  generalize hv : max (s 62 i) (s 54 (8 * l + 5)) = v at *
  have en := c_end hB (up s 62 i v) i hi
  have e1 : up s 62 i v 36 i = s 36 i := up_k _ _ _ _ (by decide)
  have e2 : up s 62 i v 35 i = s 35 i := up_k _ _ _ _ (by decide)
  have e3 : up s 62 i v 54 (8 * l + 4) = s 54 (8 * l + 4) := up_k _ _ _ _ (by decide)
  by_cases c : s 36 i ≠ 0 ∧ s 35 i = s 54 (8 * l + 4)
  · rw [if_pos c]
    simp (disch := first | omega | assumption | (simp; done)) only [u_15_0, u_15_1, u_15_2, u_15_5, u_15_6, u_15_9, u_15_12, u_15_15, u_15_16, u_15_19, u_15_22, u_15_25, u_15_26, u_15_29, u_15_32, u_15_33, u_15_36, u_15_39, u_15_40, u_15_43, u_15_46, true_or, or_true, zk_li1_s, zk_ll1_s, zk_la1_r, zk_la1_n, zk_lg0, zk_lgs, zk_co_n, zk_co_i, zk_co_r, zk_co_u, zk_co_l, zk_l1_0, zk_l1_1, zk_l1_s, zk_l2_0, zk_l2_1, zk_l2_s, zk_sm0, zk_smi, zk_smr, zk_smn, zk_sml, zk_fi, zk_fz, zk_fo, zk_fn, zk_fa, zk_ts, zk_tn, zk_cases, true_and, and_true, List.getElem?_cons_zero, List.getElem?_cons_succ, List.length_cons, List.length_nil, Nat.reduceAdd, Nat.reduceLT, Nat.reduceLeDiff, List.set_cons_zero, List.set_cons_succ, va_rf, xi_re hB, xg_re_0 hB, xg_re_1 hB, xp_re_1 hB, xg_re_2 hB, xp_re_2 hB, xg_re_3 hB, xp_re_3 hB, xg_re_4 hB, xp_re_4 hB, xg_re_5 hB, xp_re_5 hB, xi_ru hB, xg_ru_0 hB, xp_ru_0 hB, xg_ru_1 hB, xp_ru_1 hB, xg_ru_2 hB, xp_ru_2 hB, xg_ru_3 hB, xp_ru_3 hB, xg_ru_4 hB, xp_ru_4 hB, xg_ru_5 hB, xp_ru_5 hB, xg_ru_6 hB, xp_ru_6 hB, xi_le hB, xg_le_0 hB, xp_le_0 hB, xg_le_1 hB, xp_le_1 hB, xg_le_2 hB, xp_le_2 hB, xg_le_3 hB, xp_le_3 hB, xg_le_4 hB, xp_le_4 hB, xg_le_5 hB, xp_le_5 hB, xg_le_6 hB, xp_le_6 hB, xg_le_7 hB, xp_le_7 hB, iz_lit, iz_inj, m1, e1, e2, e3, en]
    all_goals ((repeat' (first | exact trivial | exact ⟨rfl, rfl⟩ | rfl | apply And.intro | intro _)) <;> first | omega | (exfalso; omega) | contradiction | (exfalso; simp_all; done) | trace_state)
  · rw [if_neg c]
    simp (disch := first | omega | assumption | (simp; done)) only [u_15_0, u_15_1, u_15_2, u_15_5, u_15_6, u_15_9, u_15_12, u_15_15, u_15_16, u_15_19, u_15_22, u_15_25, u_15_26, u_15_29, u_15_32, u_15_33, u_15_36, u_15_40, u_15_43, u_15_46, true_or, or_true, zk_li1_s, zk_ll1_s, zk_la1_r, zk_la1_n, zk_lg0, zk_lgs, zk_co_n, zk_co_i, zk_co_r, zk_co_u, zk_co_l, zk_l1_0, zk_l1_1, zk_l1_s, zk_l2_0, zk_l2_1, zk_l2_s, zk_sm0, zk_smi, zk_smr, zk_smn, zk_sml, zk_fi, zk_fz, zk_fo, zk_fn, zk_fa, zk_ts, zk_tn, zk_cases, true_and, and_true, List.getElem?_cons_zero, List.getElem?_cons_succ, List.length_cons, List.length_nil, Nat.reduceAdd, Nat.reduceLT, Nat.reduceLeDiff, List.set_cons_zero, List.set_cons_succ, va_rf, xi_re hB, xg_re_0 hB, xg_re_1 hB, xp_re_1 hB, xg_re_2 hB, xp_re_2 hB, xg_re_3 hB, xp_re_3 hB, xg_re_4 hB, xp_re_4 hB, xg_re_5 hB, xp_re_5 hB, xi_ru hB, xg_ru_0 hB, xp_ru_0 hB, xg_ru_1 hB, xp_ru_1 hB, xg_ru_2 hB, xp_ru_2 hB, xg_ru_3 hB, xp_ru_3 hB, xg_ru_4 hB, xp_ru_4 hB, xg_ru_5 hB, xp_ru_5 hB, xg_ru_6 hB, xp_ru_6 hB, xi_le hB, xg_le_0 hB, xp_le_0 hB, xg_le_1 hB, xp_le_1 hB, xg_le_2 hB, xp_le_2 hB, xg_le_3 hB, xp_le_3 hB, xg_le_4 hB, xp_le_4 hB, xg_le_5 hB, xp_le_5 hB, xg_le_6 hB, xp_le_6 hB, xg_le_7 hB, xp_le_7 hB, iz_lit, iz_inj, m1, e1, e2, e3]
    all_goals ((repeat' (first | exact trivial | exact ⟨rfl, rfl⟩ | rfl | apply And.intro | intro _)) <;> first | omega | (exfalso; omega) | contradiction | (exfalso; simp_all; done) | trace_state)
theorem c_forget (hB : hxo G B nz nj ad) {s : mS} (i : Int) (hi : 0 ≤ i ∧ i < 36) (Q : Option Value → zk_H → Prop) : zk_wp G 16 0 [some (.ref (ad (100 + i)))] [] (hx G B nz nj ad s) Q ↔ Q none (hx G B nz nj ad (cend (up s 62 i 0) i)) := by
  refine zk_eq ?_ Q
  have en := c_end hB (up s 62 i 0) i hi
  simp (disch := first | omega | assumption | (simp; done)) only [u_16_0, u_16_1, u_16_2, u_16_5, u_16_6, u_16_9, u_16_12, true_or, or_true, zk_li1_s, zk_ll1_s, zk_la1_r, zk_la1_n, zk_lg0, zk_lgs, zk_co_n, zk_co_i, zk_co_r, zk_co_u, zk_co_l, zk_l1_0, zk_l1_1, zk_l1_s, zk_l2_0, zk_l2_1, zk_l2_s, zk_sm0, zk_smi, zk_smr, zk_smn, zk_sml, zk_fi, zk_fz, zk_fo, zk_fn, zk_fa, zk_ts, zk_tn, zk_cases, true_and, and_true, List.getElem?_cons_zero, List.getElem?_cons_succ, List.length_cons, List.length_nil, Nat.reduceAdd, Nat.reduceLT, Nat.reduceLeDiff, List.set_cons_zero, List.set_cons_succ, va_rf, xi_re hB, xg_re_0 hB, xg_re_1 hB, xp_re_1 hB, xg_re_2 hB, xp_re_2 hB, xg_re_3 hB, xp_re_3 hB, xg_re_4 hB, xp_re_4 hB, xg_re_5 hB, xp_re_5 hB, xi_ru hB, iz_lit, en]
  all_goals ((repeat' (first | exact trivial | exact ⟨rfl, rfl⟩ | rfl | apply And.intro | intro _)) <;> first | omega | (exfalso; omega) | contradiction | (exfalso; simp_all; done) | trace_state)
theorem xr_len {s : mS} {p : Int} (hw : wI s p) : ((xr s p).length : Int) = s 100 p := by
  have := hw.1
  unfold xr
  rw [rl_len]
  omega
theorem x_rwz (hB : hxo G B nz nj ad) {s : mS} {p : Int} (hp : (0 ≤ p ∧ p < 3 * nz) ∨ (9 ≤ p ∧ p < 9 + 6 * nj)) (hw : wI s p) : rwz G (hx G B nz nj ad s) (ad (300 + p)) (ad (400 + p)) (rlim p) (s 102 p).toNat (xr s p) := by
  have hl := rlim_r p
  have hlen := xr_len hw
  obtain ⟨w1, w2, w3, w4, w5⟩ := hw
  unfold rwz rwp
  rw [List.length_map]
  refine ⟨?_, by omega, by omega, _, xr_it hB s p hp, fun i hi => ?_⟩
  · rw [x_ro hB s p hp, nI_iz, hlen]
  · rw [if_pos (by omega)]
    have hi2 : (i : Int) < s 100 p := by omega
    unfold xr rl
    rw [List.getD_eq_getElem?_getD, List.getElem?_map, List.getElem?_map, List.getElem?_range (by omega)]
    rfl
theorem c_rowAt (hB : hxo G B nz nj ad) {s : mS} {p : Int} (hp : (0 ≤ p ∧ p < 3 * nz) ∨ (9 ≤ p ∧ p < 9 + 6 * nj)) (hw : wI s p) (k : Int) (hk : -2147483648 ≤ k ∧ k ≤ 2147483647) (Q : Option Value → zk_H → Prop) : zk_wp G 19 0 [some (.ref (ad (300 + p))), some (.int (iz k))] [] (hx G B nz nj ad s) Q ↔ Q (some (.int (iz (gz (xr s p) k)))) (hx G B nz nj ad s) := c_atz (x_rwz hB hp hw) k hk Q
theorem c_lateA (hB : hxo G B nz nj ad) {s : mS} (hr : rg s) (j : Int) (hj : 0 ≤ j ∧ j < nj) (Q : Option Value → zk_H → Prop) : zk_wp G 3 0 [some (.ref (ad (220 + j)))] [] (hx G B nz nj ad s) Q ↔ Q (some (.int (iz (if s 23 j = 2 then 0 else s 24 j)))) (hx G B nz nj ad s) := by
  refine zk_eq ?_ Q
  have r1 := rg_of hr 23 j
  by_cases c : s 23 j = 2
  · rw [if_pos c]
    simp (disch := first | omega | assumption | (simp; done)) only [u_3_0, u_3_1, u_3_4, u_3_5, u_3_8, u_3_9, u_3_12, u_3_13, u_3_16, true_or, or_true, zk_li1_s, zk_ll1_s, zk_la1_r, zk_la1_n, zk_lg0, zk_lgs, zk_co_n, zk_co_i, zk_co_r, zk_co_u, zk_co_l, zk_l1_0, zk_l1_1, zk_l1_s, zk_l2_0, zk_l2_1, zk_l2_s, zk_sm0, zk_smi, zk_smr, zk_smn, zk_sml, zk_fi, zk_fz, zk_fo, zk_fn, zk_fa, zk_ts, zk_tn, zk_cases, true_and, and_true, List.getElem?_cons_zero, List.getElem?_cons_succ, List.length_cons, List.length_nil, Nat.reduceAdd, Nat.reduceLT, Nat.reduceLeDiff, List.set_cons_zero, List.set_cons_succ, va_rf, xi_jo hB, xg_jo_0 hB, xg_jo_1 hB, xg_jo_2 hB, xg_jo_3 hB, xp_jo_3 hB, xg_jo_4 hB, xp_jo_4 hB, xg_jo_5 hB, xp_jo_5 hB, xg_jo_6 hB, xp_jo_6 hB, xg_jo_7 hB, xp_jo_7 hB, xg_jo_8 hB, xp_jo_8 hB, iz_lit, iz_inj]
    all_goals ((repeat' (first | exact trivial | exact ⟨rfl, rfl⟩ | rfl | apply And.intro | intro _)) <;> first | omega | (exfalso; omega) | contradiction | (exfalso; simp_all; done) | trace_state)
  · rw [if_neg c]
    simp (disch := first | omega | assumption | (simp; done)) only [u_3_0, u_3_1, u_3_4, u_3_5, u_3_8, u_3_9, u_3_12, u_3_13, u_3_16, true_or, or_true, zk_li1_s, zk_ll1_s, zk_la1_r, zk_la1_n, zk_lg0, zk_lgs, zk_co_n, zk_co_i, zk_co_r, zk_co_u, zk_co_l, zk_l1_0, zk_l1_1, zk_l1_s, zk_l2_0, zk_l2_1, zk_l2_s, zk_sm0, zk_smi, zk_smr, zk_smn, zk_sml, zk_fi, zk_fz, zk_fo, zk_fn, zk_fa, zk_ts, zk_tn, zk_cases, true_and, and_true, List.getElem?_cons_zero, List.getElem?_cons_succ, List.length_cons, List.length_nil, Nat.reduceAdd, Nat.reduceLT, Nat.reduceLeDiff, List.set_cons_zero, List.set_cons_succ, va_rf, xi_jo hB, xg_jo_0 hB, xg_jo_1 hB, xg_jo_2 hB, xg_jo_3 hB, xp_jo_3 hB, xg_jo_4 hB, xp_jo_4 hB, xg_jo_5 hB, xp_jo_5 hB, xg_jo_6 hB, xp_jo_6 hB, xg_jo_7 hB, xp_jo_7 hB, xg_jo_8 hB, xp_jo_8 hB, iz_lit, iz_inj]
    all_goals ((repeat' (first | exact trivial | exact ⟨rfl, rfl⟩ | rfl | apply And.intro | intro _)) <;> first | omega | (exfalso; omega) | contradiction | (exfalso; simp_all; done) | trace_state)
theorem c_latM (hB : hxo G B nz nj ad) {s : mS} (j : Int) (hj : 0 ≤ j ∧ j < nj) (hw : wI s (13 + 6 * j)) (Q : Option Value → zk_H → Prop) : zk_wp G 1 0 [some (.ref (ad (220 + j)))] [] (hx G B nz nj ad s) Q ↔ Q (some (.int (iz (if s 100 (13 + 6 * j) = 0 then -1 else gz (xr s (13 + 6 * j)) (s 100 (13 + 6 * j) - 1))))) (hx G B nz nj ad s) := by
  refine zk_eq ?_ Q
  have hl := rlim_r (13 + 6 * j)
  have hp : (0 ≤ 13 + 6 * j ∧ 13 + 6 * j < 3 * nz) ∨ (9 ≤ 13 + 6 * j ∧ 13 + 6 * j < 9 + 6 * nj) := by omega
  have at1 := c_rowAt hB hp hw (s 100 (13 + 6 * j) - 1) (by have := hw.1; have := hw.2.1; have := hw.2.2.2.1; omega)
  obtain ⟨w1, w2, w3, w4, w5⟩ := hw
  by_cases c : s 100 (13 + 6 * j) = 0
  · rw [if_pos c]
    simp (disch := first | omega | assumption | (simp; done)) only [u_1_0, u_1_1, u_1_4, u_1_7, u_1_10, u_1_11, u_1_15, u_1_18, u_1_19, u_1_22, u_1_25, u_1_26, u_1_27, u_1_30, true_or, or_true, zk_li1_s, zk_ll1_s, zk_la1_r, zk_la1_n, zk_lg0, zk_lgs, zk_co_n, zk_co_i, zk_co_r, zk_co_u, zk_co_l, zk_l1_0, zk_l1_1, zk_l1_s, zk_l2_0, zk_l2_1, zk_l2_s, zk_sm0, zk_smi, zk_smr, zk_smn, zk_sml, zk_fi, zk_fz, zk_fo, zk_fn, zk_fa, zk_ts, zk_tn, zk_cases, true_and, and_true, List.getElem?_cons_zero, List.getElem?_cons_succ, List.length_cons, List.length_nil, Nat.reduceAdd, Nat.reduceLT, Nat.reduceLeDiff, List.set_cons_zero, List.set_cons_succ, va_rf, xi_jo hB, xg_jo_0 hB, xg_jo_1 hB, xg_jo_2 hB, xg_jo_3 hB, xp_jo_3 hB, xg_jo_4 hB, xp_jo_4 hB, xg_jo_5 hB, xp_jo_5 hB, xg_jo_6 hB, xp_jo_6 hB, xg_jo_7 hB, xp_jo_7 hB, xg_jo_8 hB, xp_jo_8 hB, xi_ro hB, xg_ro_0 hB, xg_ro_1 hB, xg_ro_2 hB, xp_ro_2 hB, iz_lit, iz_neg, iz_inj]
    all_goals ((repeat' (first | exact trivial | exact ⟨rfl, rfl⟩ | rfl | apply And.intro | intro _)) <;> first | omega | (exfalso; omega) | contradiction | (exfalso; simp_all; done) | trace_state)
  · rw [if_neg c]
    simp (disch := first | omega | assumption | (simp; done)) only [u_1_0, u_1_1, u_1_4, u_1_7, u_1_10, u_1_11, u_1_14, u_1_15, u_1_18, u_1_19, u_1_22, u_1_25, u_1_26, u_1_27, u_1_30, true_or, or_true, zk_li1_s, zk_ll1_s, zk_la1_r, zk_la1_n, zk_lg0, zk_lgs, zk_co_n, zk_co_i, zk_co_r, zk_co_u, zk_co_l, zk_l1_0, zk_l1_1, zk_l1_s, zk_l2_0, zk_l2_1, zk_l2_s, zk_sm0, zk_smi, zk_smr, zk_smn, zk_sml, zk_fi, zk_fz, zk_fo, zk_fn, zk_fa, zk_ts, zk_tn, zk_cases, true_and, and_true, List.getElem?_cons_zero, List.getElem?_cons_succ, List.length_cons, List.length_nil, Nat.reduceAdd, Nat.reduceLT, Nat.reduceLeDiff, List.set_cons_zero, List.set_cons_succ, va_rf, xi_jo hB, xg_jo_0 hB, xg_jo_1 hB, xg_jo_2 hB, xg_jo_3 hB, xp_jo_3 hB, xg_jo_4 hB, xp_jo_4 hB, xg_jo_5 hB, xp_jo_5 hB, xg_jo_6 hB, xp_jo_6 hB, xg_jo_7 hB, xp_jo_7 hB, xg_jo_8 hB, xp_jo_8 hB, xi_ro hB, xg_ro_0 hB, xg_ro_1 hB, xg_ro_2 hB, xp_ro_2 hB, iz_lit, iz_inj, iz_sub, at1]
    all_goals ((repeat' (first | exact trivial | exact ⟨rfl, rfl⟩ | rfl | apply And.intro | intro _)) <;> first | omega | (exfalso; omega) | contradiction | (exfalso; simp_all; done) | trace_state)
end REG
