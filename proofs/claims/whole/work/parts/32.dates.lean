/-! Dates -/
def GS (G : zk_G) : Prop := G.2.2 0 < G.1 ∧ G.2.2 1 < G.1 ∧ (∃ f, G.2.1 (G.2.2 0) = some (0, 48, .inl f) ∧ ∀ j, j < 48 → f j = zk_starts j) ∧ (∃ f, G.2.1 (G.2.2 1) = some (1, 5, .inr (.inl f)) ∧ ∀ j, j < 5 → f j = zk_bits j)
def st4 (m : Nat) : Int := ([0, 31, 60, 91, 121, 152, 182, 213, 244, 274, 305, 335, 366, 397, 425, 456, 486, 517, 547, 578, 609, 639, 670, 700, 731, 762, 790, 821, 851, 882, 912, 943, 974, 1004, 1035, 1065, 1096, 1127, 1155, 1186, 1216, 1247, 1277, 1308, 1339, 1369, 1400, 1430] : List Int).getD m 0
theorem st4_ok : ∀ m, m < 48 → zk_starts m = iz (st4 m) ∧ 0 ≤ st4 m ∧ st4 m ≤ 1430 := by
  have : (List.range 48).all (fun m => decide (zk_starts m = iz (st4 m)) && decide (0 ≤ st4 m) && decide (st4 m ≤ 1430)) = true := by decide +kernel
  intro m hm
  have h1 := List.all_eq_true.mp this m (List.mem_range.mpr hm)
  simp only [Bool.and_eq_true, decide_eq_true_eq] at h1
  exact ⟨h1.1.1, h1.1.2, h1.2⟩
/-- the month of a day of four years -/
def mo4 (r : Nat) : Nat := ((List.range 48).filter (fun m => decide (st4 m ≤ r))).length - 1
theorem mo4_ok : ∀ r, r < 1461 → r / 31 ≤ mo4 r ∧ mo4 r < 48 ∧ st4 (mo4 r) ≤ r ∧ (∀ m, m < 47 → (st4 (m + 1) ≤ r ↔ m < mo4 r)) := by
  have : (List.range 1461).all (fun r => decide (r / 31 ≤ mo4 r) && decide (mo4 r < 48) && decide (st4 (mo4 r) ≤ r) && (List.range 47).all (fun m => decide (st4 (m + 1) ≤ r) == decide (m < mo4 r))) = true := by decide +kernel
  intro r hr
  have h1 := List.all_eq_true.mp this r (List.mem_range.mpr hr)
  simp only [Bool.and_eq_true, decide_eq_true_eq] at h1
  refine ⟨h1.1.1.1, h1.1.1.2, h1.1.2, fun m hm => ?_⟩
  have h2 := List.all_eq_true.mp h1.2 m (List.mem_range.mpr hm)
  simpa using h2
def moOf (d : Int) : Int := 48 * (d / 1461) + mo4 (d % 1461).toNat
def stOf (m : Int) : Int := 1461 * (m / 48) + st4 (m % 48).toNat
theorem c_wd (G : zk_G) (h : zk_H) (d : Int) (hd : -100000 ≤ d ∧ d ≤ 100000) (Q : Option Value → zk_H → Prop) : zk_wp G 192 0 [some (.int (iz d))] [] h Q ↔ Q (some (.int (iz ((d + 5) % 7)))) h := by
  have fm := c_fmk G 7 (by omega)
  simp (disch := omega) only [u_192_0, u_192_1, u_192_2, u_192_3, u_192_5, u_192_8, true_or, or_true, zk_li1_s, zk_ll1_s, zk_la1_r, zk_la1_n, zk_lg0, zk_lgs, zk_co_n, zk_co_i, zk_co_r, zk_co_u, zk_co_l, zk_l1_0, zk_l1_1, zk_l1_s, zk_l2_0, zk_l2_1, zk_l2_s, zk_sm0, zk_smi, zk_smr, zk_smn, zk_sml, zk_fi, zk_fz, zk_fo, zk_fn, zk_fa, zk_ts, zk_tn, zk_og, zk_op, zk_ai, zk_aj, zk_az, zk_aa, zk_an, zk_si, zk_sz1, zk_sl1, zk_sa1, zk_cases, true_and, and_true, List.getElem?_cons_zero, List.getElem?_cons_succ, List.length_cons, List.length_nil, Nat.reduceAdd, Nat.reduceLT, Nat.reduceLeDiff, List.set_cons_zero, List.set_cons_succ, va_rf, iz_lit, iz_add, fm]
theorem c_myear (G : zk_G) (h : zk_H) (m : Int) (hd : -100000 ≤ m ∧ m ≤ 100000) (Q : Option Value → zk_H → Prop) : zk_wp G 195 0 [some (.int (iz m))] [] h Q ↔ Q (some (.int (iz (m % 12 + 1)))) h := by
  have fm := c_fmk G 12 (by omega)
  simp (disch := omega) only [u_195_0, u_195_1, u_195_3, u_195_6, u_195_7, u_195_8, true_or, or_true, zk_li1_s, zk_ll1_s, zk_la1_r, zk_la1_n, zk_lg0, zk_lgs, zk_co_n, zk_co_i, zk_co_r, zk_co_u, zk_co_l, zk_l1_0, zk_l1_1, zk_l1_s, zk_l2_0, zk_l2_1, zk_l2_s, zk_sm0, zk_smi, zk_smr, zk_smn, zk_sml, zk_fi, zk_fz, zk_fo, zk_fn, zk_fa, zk_ts, zk_tn, zk_og, zk_op, zk_ai, zk_aj, zk_az, zk_aa, zk_an, zk_si, zk_sz1, zk_sl1, zk_sa1, zk_cases, true_and, and_true, List.getElem?_cons_zero, List.getElem?_cons_succ, List.length_cons, List.length_nil, Nat.reduceAdd, Nat.reduceLT, Nat.reduceLeDiff, List.set_cons_zero, List.set_cons_succ, va_rf, iz_lit, iz_add, fm]
theorem c_year (G : zk_G) (h : zk_H) (m : Int) (hd : -100000 ≤ m ∧ m ≤ 100000) (Q : Option Value → zk_H → Prop) : zk_wp G 194 0 [some (.int (iz m))] [] h Q ↔ Q (some (.int (iz (2000 + m / 12)))) h := by
  have fd := c_fdk G 12 (by omega)
  simp (disch := omega) only [u_194_0, u_194_3, u_194_4, u_194_6, u_194_9, u_194_10, true_or, or_true, zk_li1_s, zk_ll1_s, zk_la1_r, zk_la1_n, zk_lg0, zk_lgs, zk_co_n, zk_co_i, zk_co_r, zk_co_u, zk_co_l, zk_l1_0, zk_l1_1, zk_l1_s, zk_l2_0, zk_l2_1, zk_l2_s, zk_sm0, zk_smi, zk_smr, zk_smn, zk_sml, zk_fi, zk_fz, zk_fo, zk_fn, zk_fa, zk_ts, zk_tn, zk_og, zk_op, zk_ai, zk_aj, zk_az, zk_aa, zk_an, zk_si, zk_sz1, zk_sl1, zk_sa1, zk_cases, true_and, and_true, List.getElem?_cons_zero, List.getElem?_cons_succ, List.length_cons, List.length_nil, Nat.reduceAdd, Nat.reduceLT, Nat.reduceLeDiff, List.set_cons_zero, List.set_cons_succ, va_rf, iz_lit, iz_add, fd]
