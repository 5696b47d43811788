/-! the class's zone, run -/
section KZN
variable {G : zk_G} {B : zk_H} {ad : Int → Nat} {s m : mS}
theorem k_zone (hB : hxo G B (m 1 0) (m 10 0) ad) (hR : REL s m) (hM : MC m) : CC G B ad s m 61 [] (v_zone m) (f_zone m) := by
  have hc := rel_cI hR hM
  have c1 := hM.2.2.1
  have c10 := hM.2.2.2.1
  have e1 := rel_k hR 1 0
  unfold v_zone f_zone
  by_cases c : m 1 0 = 3
  · rw [if_pos c, if_pos c]
    refine CC_q hB hR (fun Q => zk_eq ?_ Q)
    simp (disch := first | omega | assumption | (simp; done)) only [u_61_0, u_61_1, u_61_4, u_61_5, u_61_8, u_61_10, u_61_12, u_61_15, u_61_16, u_61_19, u_61_22i, u_61_22r, u_61_22n, u_61_23, u_61_26, u_61_27, u_61_28i, u_61_28r, u_61_28n, u_61_29, u_61_32, u_61_33, u_61_34, u_61_37, u_61_38, u_61_41, u_61_42, u_61_43, true_or, or_true, zk_li1_s, zk_ll1_s, zk_la1_r, zk_la1_n, zk_lg0, zk_lgs, zk_co_n, zk_co_i, zk_co_r, zk_co_u, zk_co_l, zk_l1_0, zk_l1_1, zk_l1_s, zk_l2_0, zk_l2_1, zk_l2_s, zk_sm0, zk_smi, zk_smr, zk_smn, zk_sml, zk_fi, zk_fz, zk_fo, zk_fn, zk_fa, zk_ts, zk_tn, zk_cases, true_and, and_true, List.getElem?_cons_zero, List.getElem?_cons_succ, List.length_cons, List.length_nil, Nat.reduceAdd, Nat.reduceLT, Nat.reduceLeDiff, List.set_cons_zero, List.set_cons_succ, va_rf, xi_tk hB, xg_tk_0 hB, xg_tk_1 hB, xg_tk_2 hB, xg_tk_3 hB, xg_tk_4 hB, xg_tk_5 hB, xg_tk_6 hB, xp_tk_6 hB, xg_tk_7 hB, xp_tk_7 hB, xg_tk_8 hB, xp_tk_8 hB, xg_tk_9 hB, xp_tk_9 hB, iz_lit, iz_neg, iz_lt, e1]
    all_goals ((repeat' (first | exact trivial | exact ⟨rfl, rfl⟩ | rfl | apply And.intro | intro _)) <;> first | omega | (exfalso; omega) | contradiction | (exfalso; simp_all; done) | trace_state)
  · rw [if_neg c, if_neg c]
    have RR := (REL_zone hR hM c).1
    have r6 := hR.2.2.2.2.2.1
    have hx0 : ∀ r, Ux (m 1 0) (m 10 0) r → zk_rd G (hx G B (m 1 0) (m 10 0) ad s) (ad r) = some (ccl ad s r) := fun r hr => hx_rd hB s hr
    have hxo0 : ∀ a, (∀ r, Ux (m 1 0) (m 10 0) r → ad r ≠ a) → zk_rd G (hx G B (m 1 0) (m 10 0) ad s) a = zk_rd G B a := fun a h => hx_out s h
    have X0 : zk_nx G (hx G B (m 1 0) (m 10 0) ad s) = zk_nx G B := ov_nx _ _ _
    have S0 : (hx G B (m 1 0) (m 10 0) ad s).2 = B.2 := rfl
    have t0 := x_tk hB s
    rw [e1] at t0
    have U0 : Ux (m 1 0) (m 10 0) 0 := (Ux_iff _ _ _).mpr (by omega)
    have U1 : Ux (m 1 0) (m 10 0) 1 := (Ux_iff _ _ _).mpr (by omega)
    have ne01 : ad 0 ≠ ad 1 := fun e => by have := hB.2.2 0 1 U0 U1 e; omega
    have zi := fun Q => c_zinit (G := G) (hx G B (m 1 0) (m 10 0) ad s) Q
    have a1 : zk_al (hx G B (m 1 0) (m 10 0) ad s) (.inr (7, [.null, .null, .null, .null])) 4 = ap (hx G B (m 1 0) (m 10 0) ad s) [.inr (7, [.null, .null, .null, .null])] 4 := rfl
    have z1 : ccl ad s 1 = .inl (6, 3, .inr (.inr (.inr (.inr (fun x => if (x : Int) < s 80 0 then some (ad (200 + x)) else none))))) := by
      unfold ccl
      rw [if_pos (aro_t (by omega))]
      unfold cca
      rw [if_pos rfl]
    have hlt : ∀ r, Ux (m 1 0) (m 10 0) r → G.1 ≤ ad r ∧ ad r < zk_nx G (hx G B (m 1 0) (m 10 0) ad s) := fun r hr => by rw [X0]; exact hB.2.1 r hr
    generalize hh0 : hx G B (m 1 0) (m 10 0) ad s = h0 at *
    generalize hX : zk_nx G h0 = X at *
    have r1 : zk_rd G (ap h0 (zcl X) 57) (ad 1) = some (.inl (6, 3, .inr (.inr (.inr (.inr (fun x => if (x : Int) < s 80 0 then some (ad (200 + x)) else none)))))) := by
      rw [ap_rdo _ _ _ (by rw [hX]; exact (hlt 1 U1).2), hx0 1 U1, z1]
    have rv : zk_rd G (ap h0 (zcl X) 57) X = some (.inr (7, [.ref (X + 1), .ref (X + 3), .ref (X + 5), .ref (X + 7)])) := by
      rw [← hX, ap_rdz]; rfl
    have rn : ∀ i : Nat, zk_rd G (ap h0 (zcl X) 57) (X + i) = (zcl X)[i]? := fun i => by rw [← hX]; exact ap_rd _ _ _ _
    have ro : ∀ a, a < X → zk_rd G (ap h0 (zcl X) 57) a = zk_rd G h0 a := fun a ha => ap_rdo _ _ _ (by rw [hX]; exact ha)
    have n1 : zk_nx G (ap h0 (zcl X) 57) = X + 8 := by rw [ap_nx, hX]; rfl
    have s1 : (ap h0 (zcl X) 57).2 = h0.2 + 57 := rfl
    have sa := zk_sa_f r1 rv
    have ei := iz_toInt (z := m 1 0) (by omega) (by omega)
    generalize ap h0 (zcl X) 57 = H1 at *
    generalize he : (.inl (6, 3, .inr (.inr (.inr (.inr (va_up (fun x : Nat => if (x : Int) < s 80 0 then some (ad (200 + x)) else none) (m 1 0).toNat (some X)))))) : zk_E) = eZ at *
    have r2 : zk_rd G (zk_wr G H1 (ad 1) eZ) (ad 0) = some (.inr (8, [.ref (ad 1), .ref (ad 2), .ref (ad 3), .ref (ad 4), .ref (ad 5), .ref (ad 6), .int (iz (m 1 0)), .int (iz (s 10 0)), .int (iz (s 0 0)), .int (iz (s 52 0))])) := by
      rw [wr_rd0 _ (hlt 1 U1).1 (Ne.symm ne01), ro _ (hlt 0 U0).2, t0]
    have r3 : zk_rd G (zk_wr G (zk_wr G H1 (ad 1) eZ) (ad 0) (.inr (8, [.ref (ad 1), .ref (ad 2), .ref (ad 3), .ref (ad 4), .ref (ad 5), .ref (ad 6), .int (iz (m 1 0 + 1)), .int (iz (s 10 0)), .int (iz (s 0 0)), .int (iz (s 52 0))]))) (ad 0) = some (.inr (8, [.ref (ad 1), .ref (ad 2), .ref (ad 3), .ref (ad 4), .ref (ad 5), .ref (ad 6), .int (iz (m 1 0 + 1)), .int (iz (s 10 0)), .int (iz (s 0 0)), .int (iz (s 52 0))])) := zk_rd_wr r2
    generalize hH : zk_wr G (zk_wr G H1 (ad 1) eZ) (ad 0) (.inr (8, [.ref (ad 1), .ref (ad 2), .ref (ad 3), .ref (ad 4), .ref (ad 5), .ref (ad 6), .int (iz (m 1 0 + 1)), .int (iz (s 10 0)), .int (iz (s 0 0)), .int (iz (s 52 0))])) = H at *
    have hn : 0 ≤ m 1 0 ∧ m 1 0 < 3 ∧ 0 ≤ m 10 0 ∧ m 10 0 ≤ 12 := by omega
    have ac := fun r hr => adz_c (ad := ad) (X := X) hn (r := r) hr
    have ao := fun r hr => adz_o (ad := ad) (X := X) hn (r := r) hr
    have nH : zk_nx G H = X + 8 := by rw [← hH, wr_nx, wr_nx, n1]
    have rH : ∀ a, a ≠ ad 0 → a ≠ ad 1 → zk_rd G H a = zk_rd G H1 a := fun a h h' => by
      rw [← hH, wr_rd0 _ (hlt 0 U0).1 (fun e => h e.symm), wr_rd0 _ (hlt 1 U1).1 (fun e => h' e.symm)]
    have rH1 : zk_rd G H (ad 1) = some eZ := by
      rw [← hH, wr_rd0 _ (hlt 0 U0).1 ne01, wr_rd1 _ (hlt 1 U1).1 (by rw [n1]; have := (hlt 1 U1).2; omega)]
    have hinj : ∀ r r', Ux (m 1 0 + 1) (m 10 0) r → Ux (m 1 0 + 1) (m 10 0) r' → adz ad (m 1 0) X r = adz ad (m 1 0) X r' → r = r' := by
      intro r r' q1 q2 q3
      rcases ac r q1 with ⟨i, i1, i2, i3⟩ | ⟨i1, i2⟩
      · rcases ac r' q2 with ⟨k, k1, k2, k3⟩ | ⟨k1, k2⟩
        · rw [i3, k3, show i = k by omega]
        · have := hlt r' k1; omega
      · rcases ac r' q2 with ⟨k, k1, k2, k3⟩ | ⟨k1, k2⟩
        · have := hlt r i1; omega
        · exact hB.2.2 r r' i1 k1 (by omega)
    have nu : ∀ r, Ux (m 1 0) (m 10 0) r → r ≠ 0 → r ≠ 1 → ∀ k z, own k z = r → zns s (m 1 0) k z = s k z := by
      intro r hr n0 n1 k z ho
      have hr' := (Ux_iff _ _ _).mp hr
      unfold own at ho
      refine zns_o s (m 1 0) k z ?_ ?_ ?_ ?_
      · rintro ⟨q | q, rfl⟩
        · subst q; simp at ho; omega
        · subst q; simp at ho; omega
      · rintro ⟨q | q, q2⟩
        · subst q; simp at ho; omega
        · subst q; simp at ho; omega
      · rintro ⟨q, q2⟩
        subst q; simp at ho; omega
      · rintro ⟨q, q2⟩
        subst q; simp at ho; omega
    have hself : hx G H (m 1 0 + 1) (m 10 0) (adz ad (m 1 0) X) (zns s (m 1 0)) = H := by
      refine hx_self (fun r hr => ?_) hinj
      rcases ac r hr with ⟨i, i1, i2, i3⟩ | ⟨i1, i2⟩
      · rw [i2, rH _ (by have := hlt 0 U0; omega) (by have := hlt 1 U1; omega), rn i, i3]
        exact zcl_ok (by omega) i i1
      · rw [i2]
        by_cases d0 : r = 0
        · subst d0
          rw [r3]
          have q : ∀ t, 1 ≤ t → t ≤ 6 → adz ad (m 1 0) X t = ad t := fun t t1 t2 => ao t ((Ux_iff _ _ _).mpr (by omega))
          have k : ∀ k, k = 10 ∨ k = 0 ∨ k = 52 → zns s (m 1 0) k 0 = s k 0 := fun k hk => zns_o _ _ _ _ (by omega) (by omega) (by omega) (by omega)
          show _ = some (Sum.inr (8, [Value.ref (adz ad (m 1 0) X 1), Value.ref (adz ad (m 1 0) X 2), Value.ref (adz ad (m 1 0) X 3), Value.ref (adz ad (m 1 0) X 4), Value.ref (adz ad (m 1 0) X 5), Value.ref (adz ad (m 1 0) X 6), Value.int (iz (zns s (m 1 0) 1 0)), Value.int (iz (zns s (m 1 0) 10 0)), Value.int (iz (zns s (m 1 0) 0 0)), Value.int (iz (zns s (m 1 0) 52 0))]))
          rw [q 1 (by omega) (by omega), q 2 (by omega) (by omega), q 3 (by omega) (by omega), q 4 (by omega) (by omega), q 5 (by omega) (by omega), q 6 (by omega) (by omega), zns_1 _ _ _ (Or.inl rfl), k 10 (by omega), k 0 (by omega), k 52 (by omega)]
        · by_cases d1 : r = 1
          · subst d1
            rw [rH1, ← he]
            unfold ccl
            rw [if_pos (aro_t (by omega))]
            unfold cca
            rw [if_pos rfl, zns_1 _ _ _ (Or.inr rfl)]
            congr 8
            funext x
            unfold va_up
            by_cases cx : x = (m 1 0).toNat
            · rw [if_pos cx, if_pos (by omega)]
              congr 1
              unfold adz
              rw [if_pos (by omega)]
            · rw [if_neg cx]
              dsimp only
              rw [r6.1]
              by_cases cy : (x : Int) < m 1 0
              · rw [if_pos cy, if_pos (by omega), ao _ ((Ux_iff _ _ _).mpr (by omega))]
              · rw [if_neg cy, if_neg (by omega)]
          · have n0 : ad r ≠ ad 0 := fun e => d0 (hB.2.2 _ _ i1 U0 e)
            have n1' : ad r ≠ ad 1 := fun e => d1 (hB.2.2 _ _ i1 U1 e)
            rw [rH _ n0 n1', ro _ (hlt r i1).2, hx0 r i1]
            congr 1
            exact (ccl_ext (by omega) i1 (fun q hq => ao q hq) (nu r i1 d0 d1) hc.2 r6.1 r6.2.1).symm
    refine ⟨H, adz ad (m 1 0) X, zns s (m 1 0), ?_, ao 0 U0, RR, fun Q => ?_⟩
    · rw [up_e, up_k _ _ _ _ (by decide), (REL_zone hR hM c).2]
      refine ⟨⟨by omega, fun r hr => ?_, hinj⟩, fun a ha hr => ?_, ?_, ?_, ?_⟩
      · rw [nH]
        rcases ac r hr with ⟨i, i1, i2, i3⟩ | ⟨i1, i2⟩
        · have := hlt 0 U0; omega
        · have := hlt r i1; omega
      · refine ⟨?_, fun r hr2 => ?_⟩
        · rw [rH a (fun e => hr 0 U0 e.symm) (fun e => hr 1 U1 e.symm), ro a (by omega), hxo0 a hr]
        · rcases ac r hr2 with ⟨i, i1, i2, i3⟩ | ⟨i1, i2⟩
          · omega
          · rw [i2]; exact hr r i1
      · rw [nH]; omega
      · rw [nH]; omega
      · have : H.2 = h0.2 + 57 := by rw [← hH, ← s1]; rfl
        rw [this]; omega
    · rw [up_e, up_k _ _ _ _ (by decide), hself, hh0]
      refine zk_eq ?_ Q
      have ev : m 1 0 + 1 - 1 = m 1 0 := by omega
      simp (disch := first | omega | assumption | (simp; done)) only [u_61_0, u_61_1, u_61_4, u_61_5, u_61_10, u_61_11, u_61_12, u_61_15, u_61_16, u_61_19, u_61_22i, u_61_22r, u_61_22n, u_61_23, u_61_26, u_61_27, u_61_28i, u_61_28r, u_61_28n, u_61_29, u_61_32, u_61_33, u_61_34, u_61_37, u_61_38, u_61_41, u_61_42, u_61_43, true_or, or_true, zk_li1_s, zk_ll1_s, zk_la1_r, zk_la1_n, zk_lg0, zk_lgs, zk_co_n, zk_co_i, zk_co_r, zk_co_u, zk_co_l, zk_l1_0, zk_l1_1, zk_l1_s, zk_l2_0, zk_l2_1, zk_l2_s, zk_sm0, zk_smi, zk_smr, zk_smn, zk_sml, zk_fi, zk_fz, zk_fo, zk_fn, zk_fa, zk_ts, zk_tn, zk_cases, true_and, and_true, List.getElem?_cons_zero, List.getElem?_cons_succ, List.length_cons, List.length_nil, Nat.reduceAdd, Nat.reduceLT, Nat.reduceLeDiff, List.set_cons_zero, List.set_cons_succ, va_rf, zk_og_f t0, zk_op_f t0, zk_og_f r2, zk_op_f r2, zk_og_f r3, zk_op_f r3, iz_lit, iz_lt, iz_add, iz_sub, hX, a1, zi, sa, ei, he, hH, ev]
      all_goals ((repeat' (first | exact trivial | exact ⟨rfl, rfl⟩ | rfl | apply And.intro | intro _)) <;> first | omega | (exfalso; omega) | contradiction | (exfalso; simp_all; done) | trace_state)
end KZN
