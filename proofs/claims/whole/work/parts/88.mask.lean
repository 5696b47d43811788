/-! the class's mask and after -/
theorem updL_ma (s : mS) (i : Int) (f : Nat) (hf : f < 5) (v : Int) : vp_updL (fun x : Nat => if x < 5 then lz (s (12 + x) i) else 0) f (lz v) = fun x : Nat => if x < 5 then lz (up s (12 + f) i v (12 + x) i) else 0 := by
  funext x
  unfold vp_updL
  dsimp only
  by_cases c : x = f
  · subst c
    rw [if_pos rfl, if_pos hf, up_e]
  · rw [if_neg c]
    by_cases c5 : x < 5
    · rw [if_pos c5, if_pos c5, up_k _ _ _ _ (by omega)]
    · rw [if_neg c5, if_neg c5]
section MSK
variable {G : zk_G} {B : zk_H} {nz nj : Int} {ad : Int → Nat}
theorem xw_ma (hB : hxo G B nz nj ad) (s : mS) (i : Int) (hi : 0 ≤ i ∧ i < nj) (f : Int) (hf : 0 ≤ f ∧ f < 5) (v : Int) (P : zk_H → Prop) : zk_sl1 G (hx G B nz nj ad s) (ad (260 + i)) (iz f) (lz v) P ↔ P (hx G B nz nj ad (up s (12 + f.toNat) i v)) := by
  have hn := hB.1
  have hr : Ux nz nj (260 + i) := (Ux_iff _ _ _).mpr (by omega)
  have h1 := xr_ma hB s i hi
  have hown : own (12 + f.toNat) i = 260 + i := by
    have : f = 0 ∨ f = 1 ∨ f = 2 ∨ f = 3 ∨ f = 4 := by omega
    rcases this with rfl | rfl | rfl | rfl | rfl <;> simp [own]
  have e : (Sum.inl (1, 5, Sum.inr (Sum.inl (fun x : Nat => if x < 5 then lz (up s (12 + f.toNat) i v (12 + x) i) else 0))) : zk_E) = ccl ad (up s (12 + f.toNat) i v) (260 + i) := by
    unfold ccl
    rw [if_pos (aro_t (by omega))]
    unfold cca
    rw [if_neg (by omega), if_neg (by omega), if_neg (by omega), if_neg (by omega), if_neg (by omega), if_neg (by omega), if_neg (by omega), if_pos (by omega), show 260 + i - 260 = i by omega]
  rw [zk_sl_f h1, iz_toInt (by omega) (by omega), updL_ma s i f.toNat (by omega) v, e, hx_wr hB s _ hr (fun q q1 q2 => ccl_up (Ux_mono hB.1 q1) (fun w => q2 (by rw [← w, hown])))]
  exact ⟨fun q => q.2, fun q => ⟨hf, q⟩⟩
theorem xj_ma (hB : hxo G B nz nj ad) (s : mS) (i : Int) (hi : 0 ≤ i ∧ i < nj) (f : Int) (hf : 0 ≤ f ∧ f < 5) (P : Int64 → Prop) : zk_aj G (hx G B nz nj ad s) (ad (260 + i)) (iz f) P ↔ P (lz (s (12 + f.toNat) i)) := by
  have h1 := zk_ar_rd (xr_ma hB s i hi)
  rw [zk_aj_f h1, iz_toInt (by omega) (by omega), if_pos (by omega)]
  exact ⟨fun q => q.2, fun q => ⟨hf, q⟩⟩
theorem c_setMask (hB : hxo G B nz nj ad) (hG : GS G) (s : mS) (j : Int) (hj : 0 ≤ j ∧ j < nj) (f : Int) (hf : -2147483648 ≤ f ∧ f ≤ 2147483647) (n : Nat) (hn : n < 2 ^ 64) (Q : Option Value → zk_H → Prop) : zk_wp G 23 0 [some (.ref (ad (240 + j))), some (.int (iz f)), some (.long (lN n)), none] [] (hx G B nz nj ad s) Q ↔ Q (some (.int (iz (if 0 ≤ f ∧ f ≤ 4 then ((popA (n &&& mkf f) 64 : Nat) : Int) else -1)))) (hx G B nz nj ad (if 0 ≤ f ∧ f ≤ 4 then up s (12 + f.toNat) j ((n &&& mkf f : Nat) : Int) else s)) := by
  refine zk_eq ?_ Q
  by_cases c : 0 ≤ f ∧ f ≤ 4
  · rw [if_pos c, if_pos c]
    obtain ⟨-, g2, -, ⟨fb, g4, g5⟩⟩ := hG
    have aj := zk_aj_f (zk_ar_ro (h := hx G B nz nj ad s) g2 g4)
    have tf := iz_toInt (z := f) (by omega) (by omega)
    have eb : fb f.toNat = lN (mkf f) := by
      rw [g5 f.toNat (by omega)]
      have : f = 0 ∨ f = 1 ∨ f = 2 ∨ f = 3 ∨ f = 4 := by omega
      rcases this with rfl | rfl | rfl | rfl | rfl <;> rfl
    have mk64 : mkf f < 2 ^ 60 := by
      have : f = 0 ∨ f = 1 ∨ f = 2 ∨ f = 3 ∨ f = 4 := by omega
      rcases this with rfl | rfl | rfl | rfl | rfl <;> decide
    have an : lN n &&& lN (mkf f) = lz ((n &&& mkf f : Nat) : Int) := wb_and hn (by omega)
    have vl : (n &&& mkf f) < 2 ^ 64 := Nat.lt_of_le_of_lt Nat.and_le_right (by omega)
    have bp := bc_pop vl
    generalize n &&& mkf f = v at *
    have bp2 : bcF (lz ((v : Nat) : Int)) = iz ((popA v 64 : Nat) : Int) := bp
    have bc := c_bc G (hx G B nz nj ad (up s (12 + f.toNat) j (v : Int))) (lz (v : Int))
    rw [bp2] at bc
    have w1 := xw_ma hB s j hj f (by omega) (v : Int)
    have r1 := xj_ma hB (up s (12 + f.toNat) j (v : Int)) j hj f (by omega)
    rw [up_e] at r1
    clear vl mk64 hn
    simp (disch := first | omega | assumption | (simp; done)) only [u_23_0, u_23_1, u_23_4, u_23_5, u_23_6, u_23_10, u_23_11, u_23_12, u_23_15, u_23_16, u_23_17, u_23_20, u_23_21, u_23_22, u_23_23, u_23_24, u_23_25, u_23_28, u_23_29, u_23_30, u_23_33, true_or, or_true, zk_li1_s, zk_ll1_s, zk_la1_r, zk_la1_n, zk_lg0, zk_lgs, zk_co_n, zk_co_i, zk_co_r, zk_co_u, zk_co_l, zk_l1_0, zk_l1_1, zk_l1_s, zk_l2_0, zk_l2_1, zk_l2_s, zk_sm0, zk_smi, zk_smr, zk_smn, zk_sml, zk_fi, zk_fz, zk_fo, zk_fn, zk_fa, zk_ts, zk_tn, zk_cases, true_and, and_true, List.getElem?_cons_zero, List.getElem?_cons_succ, List.length_cons, List.length_nil, Nat.reduceAdd, Nat.reduceLT, Nat.reduceLeDiff, List.set_cons_zero, List.set_cons_succ, va_rf, xi_rr hB, xg_rr_0 hB, xg_rr_1 hB, xg_rr_2 hB, xg_rr_3 hB, xg_rr_4 hB, xg_rr_5 hB, xg_rr_6 hB, xp_rr_6 hB, iz_lit, iz_lt, aj, tf, eb, an, w1, r1, bc]
    all_goals ((repeat' (first | exact trivial | exact ⟨rfl, rfl⟩ | rfl | apply And.intro | intro _)) <;> first | omega | (exfalso; omega) | contradiction | (exfalso; simp_all; done) | trace_state)
  · rw [if_neg c, if_neg c]
    simp (disch := first | omega | assumption | (simp; done)) only [u_23_0, u_23_1, u_23_4, u_23_5, u_23_6, u_23_9, u_23_10, u_23_12, u_23_15, u_23_16, u_23_17, u_23_20, u_23_21, u_23_22, u_23_23, u_23_24, u_23_25, u_23_28, u_23_29, u_23_30, u_23_33, true_or, or_true, zk_li1_s, zk_ll1_s, zk_la1_r, zk_la1_n, zk_lg0, zk_lgs, zk_co_n, zk_co_i, zk_co_r, zk_co_u, zk_co_l, zk_l1_0, zk_l1_1, zk_l1_s, zk_l2_0, zk_l2_1, zk_l2_s, zk_sm0, zk_smi, zk_smr, zk_smn, zk_sml, zk_fi, zk_fz, zk_fo, zk_fn, zk_fa, zk_ts, zk_tn, zk_cases, true_and, and_true, List.getElem?_cons_zero, List.getElem?_cons_succ, List.length_cons, List.length_nil, Nat.reduceAdd, Nat.reduceLT, Nat.reduceLeDiff, List.set_cons_zero, List.set_cons_succ, va_rf, iz_lit, iz_neg, iz_lt]
    all_goals ((repeat' (first | exact trivial | exact ⟨rfl, rfl⟩ | rfl | apply And.intro | intro _)) <;> first | omega | (exfalso; omega) | contradiction | (exfalso; simp_all; done) | trace_state)
end MSK
def bc32 (x0 : Int32) : Int32 :=
  let x1 := x0 - ((x0.toUInt32 >>> ((1 : Int32).toUInt32 &&& Int32.toUInt32 31)).toInt32 &&& 1431655765)
  let x2 := (x1 &&& 858993459) + ((x1.toUInt32 >>> ((2 : Int32).toUInt32 &&& Int32.toUInt32 31)).toInt32 &&& 858993459)
  let x3 := (x2 + (x2.toUInt32 >>> ((4 : Int32).toUInt32 &&& Int32.toUInt32 31)).toInt32) &&& 252645135
  let x4 := x3 + (x3.toUInt32 >>> ((8 : Int32).toUInt32 &&& Int32.toUInt32 31)).toInt32
  let x5 := x4 + (x4.toUInt32 >>> ((16 : Int32).toUInt32 &&& Int32.toUInt32 31)).toInt32
  x5 &&& 63
theorem bc32_ab : ∀ a : Nat, a < 64 → ∀ b : Nat, b < 64 → bc32 (iz ((64 * a + b : Nat) : Int)) = iz ((popA (64 * a + b) 12 : Nat) : Int) := by decide +kernel
theorem bc32_pop (n : Nat) (h : n < 4096) : bc32 (iz (n : Int)) = iz ((popA n 12 : Nat) : Int) := by
  have := bc32_ab (n / 64) (by omega) (n % 64) (by omega)
  rw [show 64 * (n / 64) + n % 64 = n by omega] at this
  exact this
theorem c_bc32 (G : zk_G) (h : zk_H) (x : Int32) (Q : Option Value → zk_H → Prop) : zk_wp G 202 0 [some (.int x)] [] h Q ↔ Q (some (.int (bc32 x))) h := by
  simp only [u_202_0, u_202_1, u_202_2, u_202_3, u_202_4, u_202_7, u_202_8, u_202_9, u_202_10, u_202_11, u_202_14, u_202_15, u_202_16, u_202_17, u_202_18, u_202_21, u_202_22, u_202_23, u_202_24, u_202_25, u_202_26, u_202_27, u_202_28, u_202_29, u_202_32, u_202_33, u_202_34, u_202_35, u_202_36, u_202_38, u_202_39, u_202_40, u_202_41, u_202_42, u_202_43, u_202_45, u_202_46, u_202_47, u_202_48, u_202_49, u_202_51, u_202_52, true_or, or_true, zk_li1_s, zk_ll1_s, zk_la1_r, zk_la1_n, zk_lg0, zk_lgs, zk_co_n, zk_co_i, zk_co_r, zk_co_u, zk_co_l, zk_l1_0, zk_l1_1, zk_l1_s, zk_l2_0, zk_l2_1, zk_l2_s, zk_sm0, zk_smi, zk_smr, zk_smn, zk_sml, zk_fi, zk_fz, zk_fo, zk_fn, zk_fa, zk_ts, zk_tn, zk_cases, true_and, and_true, List.getElem?_cons_zero, List.getElem?_cons_succ, List.length_cons, List.length_nil, Nat.reduceAdd, Nat.reduceLT, Nat.reduceLeDiff, List.set_cons_zero, List.set_cons_succ, va_rf]
  rfl
theorem pop_ab : ∀ o : Nat, o < 12 → ∀ a : Nat, a < 64 → ∀ b : Nat, b < 64 → (64 * a + b).testBit o = false → popA (64 * a + b ||| 2 ^ o) 12 = popA (64 * a + b) 12 + 1 := by decide +kernel
theorem pop_add (n : Nat) (h : n < 4096) (o : Nat) (ho : o < 12) (hb : n.testBit o = false) : popA (n ||| 2 ^ o) 12 = popA n 12 + 1 := by
  have := pop_ab o ho (n / 64) (by omega) (n % 64) (by omega)
  rw [show 64 * (n / 64) + n % 64 = n by omega] at this
  exact this hb
section MSK2
variable {G : zk_G} {B : zk_H} {ad : Int → Nat} {s m : mS}
theorem k_mask (hB : hxo G B (m 1 0) (m 10 0) ad) (hG : GS G) (hR : REL s m) (hM : MC m) (j f : Int) (hj : -2147483648 ≤ j ∧ j ≤ 2147483647) (hf : -2147483648 ≤ f ∧ f ≤ 2147483647) (n : Nat) (hn : n < 2 ^ 64) : CC G B ad s m 71 [some (.int (iz j)), some (.int (iz f)), some (.long (lN n)), none, none] (v_mask m j f n) (f_mask m j f n) := by
  have hc := rel_cI hR hM
  unfold v_mask f_mask
  by_cases c1 : 0 ≤ j ∧ j < m 10 0
  · have ja := c_jobAt hB hc j c1
    have sm := c_setMask hB hG s j c1 f hf n hn
    by_cases c2 : 0 ≤ f ∧ f ≤ 4
    · rw [if_pos ⟨c1, c2⟩, if_pos ⟨c1, c2⟩]
      rw [if_pos c2, if_pos c2] at sm
      have fc : f = 0 ∨ f = 1 ∨ f = 2 ∨ f = 3 ∨ f = 4 := by omega
      have le : (n &&& mkf f) ≤ mkf f := Nat.and_le_right
      have hsh : shd (12 + f.toNat) = true := by rcases fc with rfl | rfl | rfl | rfl | rfl <;> rfl
      have hrg : 12 + f.toNat = 12 ∨ 12 + f.toNat = 14 ∨ (-2147483648 ≤ ((n &&& mkf f : Nat) : Int) ∧ ((n &&& mkf f : Nat) : Int) ≤ 2147483647) := by
        rcases fc with rfl | rfl | rfl | rfl | rfl
        · left; rfl
        · right; right; have : mkf 1 = 16777215 := rfl; omega
        · right; left; rfl
        · right; right; have : mkf 3 = 8190 := rfl; omega
        · right; right; have : mkf 4 = 127 := rfl; omega
      have hnn : 12 + f.toNat ≠ 1 ∧ 12 + f.toNat ≠ 10 ∧ 12 + f.toNat ≠ 30 ∧ 12 + f.toNat ≠ 36 ∧ 12 + f.toNat ≠ 53 := by omega
      refine CC_u hB (REL_up hR _ j _ hsh hnn hrg) (up_k _ _ _ _ (by omega)) (up_k _ _ _ _ (by omega)) (cs_u _ _ _ _ (by omega)) (fun Q => zk_eq ?_ Q)
      clear le hrg hn
      simp (disch := first | omega | assumption | (simp; done)) only [u_71_0, u_71_1, u_71_2, u_71_5, u_71_5N, u_71_7, u_71_9, u_71_9N, u_71_13, u_71_16, u_71_18, u_71_21, u_71_22, u_71_23, u_71_26, true_or, or_true, zk_li1_s, zk_ll1_s, zk_la1_r, zk_la1_n, zk_lg0, zk_lgs, zk_co_n, zk_co_i, zk_co_r, zk_co_u, zk_co_l, zk_l1_0, zk_l1_1, zk_l1_s, zk_l2_0, zk_l2_1, zk_l2_s, zk_sm0, zk_smi, zk_smr, zk_smn, zk_sml, zk_fi, zk_fz, zk_fo, zk_fn, zk_fa, zk_ts, zk_tn, zk_cases, true_and, and_true, List.getElem?_cons_zero, List.getElem?_cons_succ, List.length_cons, List.length_nil, Nat.reduceAdd, Nat.reduceLT, Nat.reduceLeDiff, List.set_cons_zero, List.set_cons_succ, va_rf, xi_tk hB, xg_tk_0 hB, xg_tk_1 hB, xg_tk_2 hB, xg_tk_3 hB, xg_tk_4 hB, xg_tk_5 hB, xg_tk_6 hB, xp_tk_6 hB, xg_tk_7 hB, xp_tk_7 hB, xg_tk_8 hB, xp_tk_8 hB, xg_tk_9 hB, xp_tk_9 hB, xi_jo hB, xg_jo_0 hB, xg_jo_1 hB, xg_jo_2 hB, xg_jo_3 hB, xp_jo_3 hB, xg_jo_4 hB, xp_jo_4 hB, xg_jo_5 hB, xp_jo_5 hB, xg_jo_6 hB, xp_jo_6 hB, xg_jo_7 hB, xp_jo_7 hB, xg_jo_8 hB, xp_jo_8 hB, xi_rr hB, iz_lit, ja, sm]
      all_goals ((repeat' (first | exact trivial | exact ⟨rfl, rfl⟩ | rfl | apply And.intro | intro _)) <;> first | omega | (exfalso; omega) | contradiction | (exfalso; simp_all; done) | trace_state)
    · rw [if_neg (fun q => c2 q.2), if_neg (fun q => c2 q.2)]
      rw [if_neg c2, if_neg c2] at sm
      refine CC_q hB hR (fun Q => zk_eq ?_ Q)
      simp (disch := first | omega | assumption | (simp; done)) only [u_71_0, u_71_1, u_71_2, u_71_5, u_71_5N, u_71_7, u_71_9, u_71_9N, u_71_13, u_71_16, u_71_18, u_71_21, u_71_22, u_71_23, u_71_26, true_or, or_true, zk_li1_s, zk_ll1_s, zk_la1_r, zk_la1_n, zk_lg0, zk_lgs, zk_co_n, zk_co_i, zk_co_r, zk_co_u, zk_co_l, zk_l1_0, zk_l1_1, zk_l1_s, zk_l2_0, zk_l2_1, zk_l2_s, zk_sm0, zk_smi, zk_smr, zk_smn, zk_sml, zk_fi, zk_fz, zk_fo, zk_fn, zk_fa, zk_ts, zk_tn, zk_cases, true_and, and_true, List.getElem?_cons_zero, List.getElem?_cons_succ, List.length_cons, List.length_nil, Nat.reduceAdd, Nat.reduceLT, Nat.reduceLeDiff, List.set_cons_zero, List.set_cons_succ, va_rf, xi_tk hB, xg_tk_0 hB, xg_tk_1 hB, xg_tk_2 hB, xg_tk_3 hB, xg_tk_4 hB, xg_tk_5 hB, xg_tk_6 hB, xp_tk_6 hB, xg_tk_7 hB, xp_tk_7 hB, xg_tk_8 hB, xp_tk_8 hB, xg_tk_9 hB, xp_tk_9 hB, xi_jo hB, xg_jo_0 hB, xg_jo_1 hB, xg_jo_2 hB, xg_jo_3 hB, xp_jo_3 hB, xg_jo_4 hB, xp_jo_4 hB, xg_jo_5 hB, xp_jo_5 hB, xg_jo_6 hB, xp_jo_6 hB, xg_jo_7 hB, xp_jo_7 hB, xg_jo_8 hB, xp_jo_8 hB, xi_rr hB, iz_lit, iz_neg, ja, sm]
      all_goals ((repeat' (first | exact trivial | exact ⟨rfl, rfl⟩ | rfl | apply And.intro | intro _)) <;> first | omega | (exfalso; omega) | contradiction | (exfalso; simp_all; done) | trace_state)
  · rw [if_neg (fun q => c1 q.1), if_neg (fun q => c1 q.1)]
    have ja := c_jobAt0 hB hc j hj c1
    refine CC_q hB hR (fun Q => zk_eq ?_ Q)
    simp (disch := first | omega | assumption | (simp; done)) only [u_71_0, u_71_1, u_71_2, u_71_5, u_71_5N, u_71_7, u_71_9, u_71_9N, u_71_12, u_71_13, u_71_18, u_71_21, u_71_22, u_71_23, u_71_26, true_or, or_true, zk_li1_s, zk_ll1_s, zk_la1_r, zk_la1_n, zk_lg0, zk_lgs, zk_co_n, zk_co_i, zk_co_r, zk_co_u, zk_co_l, zk_l1_0, zk_l1_1, zk_l1_s, zk_l2_0, zk_l2_1, zk_l2_s, zk_sm0, zk_smi, zk_smr, zk_smn, zk_sml, zk_fi, zk_fz, zk_fo, zk_fn, zk_fa, zk_ts, zk_tn, zk_cases, true_and, and_true, List.getElem?_cons_zero, List.getElem?_cons_succ, List.length_cons, List.length_nil, Nat.reduceAdd, Nat.reduceLT, Nat.reduceLeDiff, List.set_cons_zero, List.set_cons_succ, va_rf, xi_tk hB, iz_lit, iz_neg, ja]
    all_goals ((repeat' (first | exact trivial | exact ⟨rfl, rfl⟩ | rfl | apply And.intro | intro _)) <;> first | omega | (exfalso; omega) | contradiction | (exfalso; simp_all; done) | trace_state)
end MSK2
