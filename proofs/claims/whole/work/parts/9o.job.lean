/-! the class's job, run -/
section KJB
variable {G : zk_G} {B : zk_H} {ad : Int → Nat} {s m : mS}
theorem k_job (hB : hxo G B (m 1 0) (m 10 0) ad) (hR : REL s m) (hM : MC m) (z : Int) (hz : -2147483648 ≤ z ∧ z ≤ 2147483647) : CC G B ad s m 70 [some (.int (iz z)), none] (v_job m z) (f_job m z) := by
  have hc := rel_cI hR hM
  have c1 := hM.2.2.1
  have c10 := hM.2.2.2.1
  have e1 := rel_k hR 10 0
  unfold v_job f_job
  by_cases cz : 0 ≤ z ∧ z < m 1 0
  case neg =>
    rw [if_neg cz, if_neg (fun q => cz q.1)]
    have za := c_zoneAt0 hB hc z hz cz
    refine CC_q hB hR (fun Q => zk_eq ?_ Q)
    simp (disch := first | omega | assumption | (simp; done)) only [u_70_0, u_70_1, u_70_2, u_70_5, u_70_5N, u_70_6, u_70_7, u_70_7N, u_70_10, u_70_11, u_70_13, u_70_16, u_70_18, u_70_21, u_70_23, u_70_24, u_70_25, u_70_28, u_70_29, u_70_32, u_70_35i, u_70_35r, u_70_35n, u_70_36, u_70_39i, u_70_39r, u_70_39n, u_70_40, u_70_41, u_70_44, u_70_47, u_70_48, u_70_49i, u_70_49r, u_70_49n, u_70_50, u_70_53, u_70_54, u_70_55, u_70_58, u_70_59, u_70_62, u_70_63, u_70_64, true_or, or_true, zk_li1_s, zk_ll1_s, zk_la1_r, zk_la1_n, zk_lg0, zk_lgs, zk_co_n, zk_co_i, zk_co_r, zk_co_u, zk_co_l, zk_l1_0, zk_l1_1, zk_l1_s, zk_l2_0, zk_l2_1, zk_l2_s, zk_sm0, zk_smi, zk_smr, zk_smn, zk_sml, zk_fi, zk_fz, zk_fo, zk_fn, zk_fa, zk_ts, zk_tn, zk_cases, true_and, and_true, List.getElem?_cons_zero, List.getElem?_cons_succ, List.length_cons, List.length_nil, Nat.reduceAdd, Nat.reduceLT, Nat.reduceLeDiff, List.set_cons_zero, List.set_cons_succ, va_rf, xi_tk hB, xg_tk_0 hB, xg_tk_1 hB, xg_tk_2 hB, xg_tk_3 hB, xg_tk_4 hB, xg_tk_5 hB, xg_tk_6 hB, xp_tk_6 hB, xg_tk_7 hB, xp_tk_7 hB, xg_tk_8 hB, xp_tk_8 hB, xg_tk_9 hB, xp_tk_9 hB, iz_lit, iz_neg, za]
    all_goals ((repeat' (first | exact trivial | exact ⟨rfl, rfl⟩ | rfl | apply And.intro | intro _)) <;> first | omega | (exfalso; omega) | contradiction | (exfalso; simp_all; done) | trace_state)
  have za := c_zoneAt hB hc z cz
  rw [if_pos cz]
  by_cases c : m 10 0 = 12
  · rw [if_pos c, if_neg (fun q => q.2 c)]
    refine CC_q hB hR (fun Q => zk_eq ?_ Q)
    simp (disch := first | omega | assumption | (simp; done)) only [u_70_0, u_70_1, u_70_2, u_70_5, u_70_5N, u_70_6, u_70_7, u_70_7N, u_70_11, u_70_12, u_70_13, u_70_16, u_70_18, u_70_21, u_70_23, u_70_25, u_70_28, u_70_29, u_70_32, u_70_35i, u_70_35r, u_70_35n, u_70_36, u_70_39i, u_70_39r, u_70_39n, u_70_40, u_70_41, u_70_44, u_70_47, u_70_48, u_70_49i, u_70_49r, u_70_49n, u_70_50, u_70_53, u_70_54, u_70_55, u_70_58, u_70_59, u_70_62, u_70_63, u_70_64, true_or, or_true, zk_li1_s, zk_ll1_s, zk_la1_r, zk_la1_n, zk_lg0, zk_lgs, zk_co_n, zk_co_i, zk_co_r, zk_co_u, zk_co_l, zk_l1_0, zk_l1_1, zk_l1_s, zk_l2_0, zk_l2_1, zk_l2_s, zk_sm0, zk_smi, zk_smr, zk_smn, zk_sml, zk_fi, zk_fz, zk_fo, zk_fn, zk_fa, zk_ts, zk_tn, zk_cases, true_and, and_true, List.getElem?_cons_zero, List.getElem?_cons_succ, List.length_cons, List.length_nil, Nat.reduceAdd, Nat.reduceLT, Nat.reduceLeDiff, List.set_cons_zero, List.set_cons_succ, va_rf, xi_tk hB, xg_tk_0 hB, xg_tk_1 hB, xg_tk_2 hB, xg_tk_3 hB, xg_tk_4 hB, xg_tk_5 hB, xg_tk_6 hB, xp_tk_6 hB, xg_tk_7 hB, xp_tk_7 hB, xg_tk_8 hB, xp_tk_8 hB, xg_tk_9 hB, xp_tk_9 hB, iz_lit, iz_neg, iz_lt, e1, za]
    all_goals ((repeat' (first | exact trivial | exact ⟨rfl, rfl⟩ | rfl | apply And.intro | intro _)) <;> first | omega | (exfalso; omega) | contradiction | (exfalso; simp_all; done) | trace_state)
  · rw [if_neg c, if_pos ⟨cz, c⟩]
    have RR := (REL_job hR hM c cz).1
    have r6 := hR.2.2.2.2.2.1
    have hx0 : ∀ r, Ux (m 1 0) (m 10 0) r → zk_rd G (hx G B (m 1 0) (m 10 0) ad s) (ad r) = some (ccl ad s r) := fun r hr => hx_rd hB s hr
    have hxo0 : ∀ a, (∀ r, Ux (m 1 0) (m 10 0) r → ad r ≠ a) → zk_rd G (hx G B (m 1 0) (m 10 0) ad s) a = zk_rd G B a := fun a h => hx_out s h
    have X0 : zk_nx G (hx G B (m 1 0) (m 10 0) ad s) = zk_nx G B := ov_nx _ _ _
    have S0 : (hx G B (m 1 0) (m 10 0) ad s).2 = B.2 := rfl
    have t0 := x_tk hB s
    rw [e1] at t0
    have U0 : Ux (m 1 0) (m 10 0) 0 := (Ux_iff _ _ _).mpr (by omega)
    have U1 : Ux (m 1 0) (m 10 0) 2 := (Ux_iff _ _ _).mpr (by omega)
    have ne01 : ad 0 ≠ ad 2 := fun e => by have := hB.2.2 0 2 U0 U1 e; omega
    have i0 := xi_tk hB s
    have zi := fun Q => c_rinit (G := G) (hx G B (m 1 0) (m 10 0) ad s) (ad (200 + z)) Q
    have zj := fun Q => c_jinit (G := G) (hx G B (m 1 0) (m 10 0) ad s) (ad (200 + z)) Q
    have a1 : zk_al (hx G B (m 1 0) (m 10 0) ad s) (.inr (0, [.null, .null, .null, .int (iz 0), .int (iz 0), .int (iz 0), .int (iz 0), .int (iz 0), .int (iz 0)])) 9 = ap (hx G B (m 1 0) (m 10 0) ad s) [.inr (0, [.null, .null, .null, .int (iz 0), .int (iz 0), .int (iz 0), .int (iz 0), .int (iz 0), .int (iz 0)])] 9 := rfl
    have a2 : zk_al (ap (hx G B (m 1 0) (m 10 0) ad s) [.inr (0, [.null, .null, .null, .int (iz 0), .int (iz 0), .int (iz 0), .int (iz 0), .int (iz 0), .int (iz 0)])]  9) (.inr (5, [.null, .null, .null, .null, .null, .null, .int (iz 0)])) 7 = ap (hx G B (m 1 0) (m 10 0) ad s) [.inr (0, [.null, .null, .null, .int (iz 0), .int (iz 0), .int (iz 0), .int (iz 0), .int (iz 0), .int (iz 0)]), .inr (5, [.null, .null, .null, .null, .null, .null, .int (iz 0)])] 16 := ap_al _ _ _ _ _
    have a3 : zk_nx G (ap (hx G B (m 1 0) (m 10 0) ad s) [.inr (0, [.null, .null, .null, .int (iz 0), .int (iz 0), .int (iz 0), .int (iz 0), .int (iz 0), .int (iz 0)])] 9) = zk_nx G (hx G B (m 1 0) (m 10 0) ad s) + 1 := ap_nx _ _ _
    have z1 : ccl ad s 2 = .inl (3, 12, .inr (.inr (.inr (.inr (fun x => if (x : Int) < s 81 0 then some (ad (220 + x)) else none))))) := by
      unfold ccl
      rw [if_pos (aro_t (by omega))]
      unfold cca
      rw [if_neg (by omega), if_pos rfl]
    have hlt : ∀ r, Ux (m 1 0) (m 10 0) r → G.1 ≤ ad r ∧ ad r < zk_nx G (hx G B (m 1 0) (m 10 0) ad s) := fun r hr => by rw [X0]; exact hB.2.1 r hr
    generalize hh0 : hx G B (m 1 0) (m 10 0) ad s = h0 at *
    generalize hX : zk_nx G h0 = X at *
    have r1 : zk_rd G (ap h0 (jcl X (ad (200 + z))) 75) (ad 2) = some (.inl (3, 12, .inr (.inr (.inr (.inr (fun x => if (x : Int) < s 81 0 then some (ad (220 + x)) else none)))))) := by
      rw [ap_rdo _ _ _ (by rw [hX]; exact (hlt 2 U1).2), hx0 2 U1, z1]
    have rv : zk_rd G (ap h0 (jcl X (ad (200 + z))) 75) X = some (.inr (0, [.ref (X + 1), .ref (X + 11), .ref (X + 13), .int (iz 0), .int (iz 0), .int (iz 0), .int (iz 0), .int (iz 0), .int (iz 0)])) := by
      rw [← hX, ap_rdz]; rfl
    have rn : ∀ i : Nat, zk_rd G (ap h0 (jcl X (ad (200 + z))) 75) (X + i) = (jcl X (ad (200 + z)))[i]? := fun i => by rw [← hX]; exact ap_rd _ _ _ _
    have ro : ∀ a, a < X → zk_rd G (ap h0 (jcl X (ad (200 + z))) 75) a = zk_rd G h0 a := fun a ha => ap_rdo _ _ _ (by rw [hX]; exact ha)
    have n1 : zk_nx G (ap h0 (jcl X (ad (200 + z))) 75) = X + 15 := by rw [ap_nx, hX]; rfl
    have s1 : (ap h0 (jcl X (ad (200 + z))) 75).2 = h0.2 + 75 := rfl
    have sa := zk_sa_f r1 rv
    have ei := iz_toInt (z := m 10 0) (by omega) (by omega)
    generalize ap h0 (jcl X (ad (200 + z))) 75 = H1 at *
    generalize he : (.inl (3, 12, .inr (.inr (.inr (.inr (va_up (fun x : Nat => if (x : Int) < s 81 0 then some (ad (220 + x)) else none) (m 10 0).toNat (some X)))))) : zk_E) = eZ at *
    have r2 : zk_rd G (zk_wr G H1 (ad 2) eZ) (ad 0) = some (.inr (8, [.ref (ad 1), .ref (ad 2), .ref (ad 3), .ref (ad 4), .ref (ad 5), .ref (ad 6), .int (iz (s 1 0)), .int (iz (m 10 0)), .int (iz (s 0 0)), .int (iz (s 52 0))])) := by
      rw [wr_rd0 _ (hlt 2 U1).1 (Ne.symm ne01), ro _ (hlt 0 U0).2, t0]
    have r3 : zk_rd G (zk_wr G (zk_wr G H1 (ad 2) eZ) (ad 0) (.inr (8, [.ref (ad 1), .ref (ad 2), .ref (ad 3), .ref (ad 4), .ref (ad 5), .ref (ad 6), .int (iz (s 1 0)), .int (iz (m 10 0 + 1)), .int (iz (s 0 0)), .int (iz (s 52 0))]))) (ad 0) = some (.inr (8, [.ref (ad 1), .ref (ad 2), .ref (ad 3), .ref (ad 4), .ref (ad 5), .ref (ad 6), .int (iz (s 1 0)), .int (iz (m 10 0 + 1)), .int (iz (s 0 0)), .int (iz (s 52 0))])) := zk_rd_wr r2
    generalize hH : zk_wr G (zk_wr G H1 (ad 2) eZ) (ad 0) (.inr (8, [.ref (ad 1), .ref (ad 2), .ref (ad 3), .ref (ad 4), .ref (ad 5), .ref (ad 6), .int (iz (s 1 0)), .int (iz (m 10 0 + 1)), .int (iz (s 0 0)), .int (iz (s 52 0))])) = H at *
    have hn : 0 ≤ m 1 0 ∧ m 1 0 ≤ 3 ∧ 0 ≤ m 10 0 ∧ m 10 0 < 12 := by omega
    have ac := fun r hr => ajx_c (ad := ad) (X := X) hn (r := r) hr
    have ao := fun r hr => ajx_o (ad := ad) (X := X) hn (r := r) hr
    have nH : zk_nx G H = X + 15 := by rw [← hH, wr_nx, wr_nx, n1]
    have rH : ∀ a, a ≠ ad 0 → a ≠ ad 2 → zk_rd G H a = zk_rd G H1 a := fun a h h' => by
      rw [← hH, wr_rd0 _ (hlt 0 U0).1 (fun e => h e.symm), wr_rd0 _ (hlt 2 U1).1 (fun e => h' e.symm)]
    have rH1 : zk_rd G H (ad 2) = some eZ := by
      rw [← hH, wr_rd0 _ (hlt 0 U0).1 ne01, wr_rd1 _ (hlt 2 U1).1 (by rw [n1]; have := (hlt 2 U1).2; omega)]
    have hinj : ∀ r r', Ux (m 1 0) (m 10 0 + 1) r → Ux (m 1 0) (m 10 0 + 1) r' → ajx ad (m 10 0) X r = ajx ad (m 10 0) X r' → r = r' := by
      intro r r' q1 q2 q3
      rcases ac r q1 with ⟨i, i1, i2, i3⟩ | ⟨i1, i2⟩
      · rcases ac r' q2 with ⟨k, k1, k2, k3⟩ | ⟨k1, k2⟩
        · rw [i3, k3, show i = k by omega]
        · have := hlt r' k1; omega
      · rcases ac r' q2 with ⟨k, k1, k2, k3⟩ | ⟨k1, k2⟩
        · have := hlt r i1; omega
        · exact hB.2.2 r r' i1 k1 (by omega)
    have nu : ∀ r, Ux (m 1 0) (m 10 0) r → r ≠ 0 → r ≠ 2 → ∀ k y, own k y = r → jns s (m 10 0) z k y = s k y := by
      intro r hr n0 n1 k y ho
      have hr' := (Ux_iff _ _ _).mp hr
      unfold own at ho
      refine jns_o s (m 10 0) z k y ?_ ?_ ?_ ?_
      · rintro ⟨q | q, rfl⟩
        · subst q; simp at ho; omega
        · subst q; simp at ho; omega
      · rintro ⟨q, rfl⟩
        have : k = 11 ∨ k = 12 ∨ k = 13 ∨ k = 14 ∨ k = 15 ∨ k = 16 ∨ k = 22 ∨ k = 23 ∨ k = 24 ∨ k = 25 ∨ k = 61 ∨ k = 44 ∨ k = 45 := by omega
        rcases this with rfl | rfl | rfl | rfl | rfl | rfl | rfl | rfl | rfl | rfl | rfl | rfl | rfl <;> (simp at ho; omega)
      · rintro ⟨q | q, q2⟩
        · subst q; simp at ho; omega
        · subst q; simp at ho; omega
      · rintro ⟨q, q2⟩
        subst q; simp at ho; omega
    have hself : hx G H (m 1 0) (m 10 0 + 1) (ajx ad (m 10 0) X) (jns s (m 10 0) z) = H := by
      refine hx_self (fun r hr => ?_) hinj
      rcases ac r hr with ⟨i, i1, i2, i3⟩ | ⟨i1, i2⟩
      · rw [i2, rH _ (by have := hlt 0 U0; omega) (by have := hlt 2 U1; omega), rn i, i3]
        exact jcl_ok hn cz i i1
      · rw [i2]
        by_cases d0 : r = 0
        · subst d0
          rw [r3]
          have q : ∀ t, 1 ≤ t → t ≤ 6 → ajx ad (m 10 0) X t = ad t := fun t t1 t2 => ao t ((Ux_iff _ _ _).mpr (by omega))
          have k : ∀ k, k = 1 ∨ k = 0 ∨ k = 52 → jns s (m 10 0) z k 0 = s k 0 := fun k hk => jns_o _ _ _ _ _ (by omega) (by omega) (by omega) (by omega)
          show _ = some (Sum.inr (8, [Value.ref (ajx ad (m 10 0) X 1), Value.ref (ajx ad (m 10 0) X 2), Value.ref (ajx ad (m 10 0) X 3), Value.ref (ajx ad (m 10 0) X 4), Value.ref (ajx ad (m 10 0) X 5), Value.ref (ajx ad (m 10 0) X 6), Value.int (iz (jns s (m 10 0) z 1 0)), Value.int (iz (jns s (m 10 0) z 10 0)), Value.int (iz (jns s (m 10 0) z 0 0)), Value.int (iz (jns s (m 10 0) z 52 0))]))
          rw [q 1 (by omega) (by omega), q 2 (by omega) (by omega), q 3 (by omega) (by omega), q 4 (by omega) (by omega), q 5 (by omega) (by omega), q 6 (by omega) (by omega), k 1 (by omega), jns_10 _ _ _ _ (Or.inl rfl), k 0 (by omega), k 52 (by omega)]
        · by_cases d1 : r = 2
          · subst d1
            rw [rH1, ← he]
            unfold ccl
            rw [if_pos (aro_t (by omega))]
            unfold cca
            rw [if_neg (by omega), if_pos rfl, jns_10 _ _ _ _ (Or.inr rfl)]
            congr 8
            funext x
            unfold va_up
            by_cases cx : x = (m 10 0).toNat
            · rw [if_pos cx, if_pos (by omega)]
              congr 1
              unfold ajx
              rw [if_pos (by omega)]
            · rw [if_neg cx]
              dsimp only
              rw [r6.2.1]
              by_cases cy : (x : Int) < m 10 0
              · rw [if_pos cy, if_pos (by omega), ao _ ((Ux_iff _ _ _).mpr (by omega))]
              · rw [if_neg cy, if_neg (by omega)]
          · have n0 : ad r ≠ ad 0 := fun e => d0 (hB.2.2 _ _ i1 U0 e)
            have n1' : ad r ≠ ad 2 := fun e => d1 (hB.2.2 _ _ i1 U1 e)
            rw [rH _ n0 n1', ro _ (hlt r i1).2, hx0 r i1]
            congr 1
            exact (ccl_ext (by omega) i1 (fun q hq => ao q hq) (nu r i1 d0 d1) hc.2 r6.1 r6.2.1).symm
    have u1 : up (up m 11 (m 10 0) z) 10 0 (m 10 0 + 1) 1 0 = m 1 0 := by rw [up_k _ _ _ _ (by decide), up_k _ _ _ _ (by decide)]
    refine ⟨H, ajx ad (m 10 0) X, jns s (m 10 0) z, ?_, ao 0 U0, RR, fun Q => ?_⟩
    · rw [up_e, u1, (REL_job hR hM c cz).2]
      refine ⟨⟨by omega, fun r hr => ?_, hinj⟩, fun a ha hr => ?_, ?_, ?_, ?_⟩
      · rw [nH]
        rcases ac r hr with ⟨i, i1, i2, i3⟩ | ⟨i1, i2⟩
        · have := hlt 0 U0; omega
        · have := hlt r i1; omega
      · refine ⟨?_, fun r hr2 => ?_⟩
        · rw [rH a (fun e => hr 0 U0 e.symm) (fun e => hr 2 U1 e.symm), ro a (by omega), hxo0 a hr]
        · rcases ac r hr2 with ⟨i, i1, i2, i3⟩ | ⟨i1, i2⟩
          · omega
          · rw [i2]; exact hr r i1
      · rw [nH]; omega
      · rw [nH]; omega
      · have : H.2 = h0.2 + 75 := by rw [← hH, ← s1]; rfl
        rw [this]; omega
    · rw [up_e, u1, hself, hh0]
      refine zk_eq ?_ Q
      have ev : m 10 0 + 1 - 1 = m 10 0 := by omega
      simp (disch := first | omega | assumption | (simp; done)) only [u_70_0, u_70_1, u_70_2, u_70_5, u_70_5N, u_70_6, u_70_7, u_70_7N, u_70_11, u_70_12, u_70_13, u_70_16, u_70_18, u_70_23, u_70_24, u_70_25, u_70_28, u_70_29, u_70_32, u_70_35i, u_70_35r, u_70_35n, u_70_36, u_70_39i, u_70_39r, u_70_39n, u_70_40, u_70_41, u_70_44, u_70_47, u_70_48, u_70_49i, u_70_49r, u_70_49n, u_70_50, u_70_53, u_70_54, u_70_55, u_70_58, u_70_59, u_70_62, u_70_63, u_70_64, true_or, or_true, zk_li1_s, zk_ll1_s, zk_la1_r, zk_la1_n, zk_lg0, zk_lgs, zk_co_n, zk_co_i, zk_co_r, zk_co_u, zk_co_l, zk_l1_0, zk_l1_1, zk_l1_s, zk_l2_0, zk_l2_1, zk_l2_s, zk_sm0, zk_smi, zk_smr, zk_smn, zk_sml, zk_fi, zk_fz, zk_fo, zk_fn, zk_fa, zk_ts, zk_tn, zk_cases, true_and, and_true, List.getElem?_cons_zero, List.getElem?_cons_succ, List.length_cons, List.length_nil, Nat.reduceAdd, Nat.reduceLT, Nat.reduceLeDiff, List.set_cons_zero, List.set_cons_succ, va_rf, zk_og_f t0, zk_op_f t0, zk_og_f r2, zk_op_f r2, zk_og_f r3, zk_op_f r3, iz_lit, iz_lt, iz_add, iz_sub, hX, i0, za, a1, a2, a3, zi, zj, sa, ei, he, hH, ev]
      all_goals ((repeat' (first | exact trivial | exact ⟨rfl, rfl⟩ | rfl | apply And.intro | intro _)) <;> first | omega | (exfalso; omega) | contradiction | (exfalso; simp_all; done) | trace_state)
end KJB
