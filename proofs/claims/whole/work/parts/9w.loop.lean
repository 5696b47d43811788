/-! the law's loop -/
def PP : Option Value → zk_H → Prop := fun r h => r = some (.int (iz 1)) ∧ h.1.length ≤ 600000 ∧ h.2 ≤ 7302249
theorem Gok_GS {G : zk_G} {b L : Nat} {xs : Nat → Int32} (h : zk_Gok G b L xs) : GS G := ⟨h.2.1, h.2.2.1, h.2.2.2.2.1, h.2.2.2.2.2⟩
theorem LW_same {G : zk_G} {n : Int} {x M : Nat} {h : zk_H} (hL : LW G n x M h) : LW G (n + 1) x M h := by
  obtain ⟨B, ad, s, m, e, hB, hP, hd, hx0, hR, hI, z1, z2⟩ := hL
  exact ⟨B, ad, s, m, e, hB, hP, hd, hx0, hR, INV_same hI, z1, z2⟩
section LOOP
variable {G : zk_G} {b L x M : Nat} {xs : Nat → Int32}
theorem l_loop (hG : zk_Gok G b L xs) (hLe : L ≤ 2560) : ∀ (q : Nat) (n : Int) (h : zk_H), 0 ≤ n → n + q = 512 → LW G n x M h → zk_wp G 205 18 [some (.ref b), some (.ref x), some (.ref M), some (.int (iz (5 * n)))] [] h PP := by
  have hS := Gok_GS hG
  have ar : ∀ h : zk_H, zk_ar G h b = some (0, L, .inl xs) := fun h => zk_ar_ro hG.1 hG.2.2.2.1
  have an := fun h => zk_an_f (ar h)
  have out : ∀ (n : Int) (h : zk_H), 0 ≤ n → n ≤ 512 → (L : Int) - 5 < 5 * n → LW G n x M h → zk_wp G 205 18 [some (.ref b), some (.ref x), some (.ref M), some (.int (iz (5 * n)))] [] h PP := by
    intro n h h0 h1 h2 hL
    have sz := LW_size hL ⟨h0, h1⟩
    have fin : PP (some (.int (iz 1))) h := ⟨rfl, sz⟩
    clear hL
    rw [u_205_18]
    simp (disch := first | omega | assumption | (simp; done)) only [u_205_19, u_205_20, u_205_21, u_205_22, u_205_23, u_205_1267, u_205_1268, true_or, or_true, zk_li1_s, zk_ll1_s, zk_la1_r, zk_la1_n, zk_lg0, zk_lgs, zk_co_n, zk_co_i, zk_co_r, zk_co_u, zk_co_l, zk_l1_0, zk_l1_1, zk_l1_s, zk_l2_0, zk_l2_1, zk_l2_s, zk_sm0, zk_smi, zk_smr, zk_smn, zk_sml, zk_fi, zk_fz, zk_fo, zk_fn, zk_fa, zk_ts, zk_tn, zk_cases, true_and, and_true, List.getElem?_cons_zero, List.getElem?_cons_succ, List.length_cons, List.length_nil, Nat.reduceAdd, Nat.reduceLT, Nat.reduceLeDiff, List.set_cons_zero, List.set_cons_succ, va_rf, an, iz_lit, iz_sub, iz_lt, iz_inj]
    (repeat' (first | exact fin | apply And.intro | intro _)) <;> first | omega | (exfalso; omega) | contradiction | exact absurd trivial (by assumption) | (exfalso; simp_all; done)
  intro q
  induction q with
  | zero =>
    intro n h h0 hq hL
    exact out n h h0 (by omega) (by omega) hL
  | succ q ih =>
    intro n h h0 hq hL
    by_cases c : (L : Int) - 5 < 5 * n
    · exact out n h h0 (by omega) c hL
    · have nx : ∀ h2, LW G (n + 1) x M h2 → zk_wp G 205 1261 [some (.ref b), some (.ref x), some (.ref M), some (.int (iz (5 * n)))] [] h2 PP := by
        intro h2 l2
        have i1 := ih (n + 1) h2 (by omega) (by omega) l2
        rw [show 5 * (n + 1) = 5 * n + 5 by omega] at i1
        simp (disch := first | omega | assumption | (simp; done)) only [u_205_1261, u_205_1264, true_or, or_true, zk_li1_s, zk_ll1_s, zk_la1_r, zk_la1_n, zk_lg0, zk_lgs, zk_co_n, zk_co_i, zk_co_r, zk_co_u, zk_co_l, zk_l1_0, zk_l1_1, zk_l1_s, zk_l2_0, zk_l2_1, zk_l2_s, zk_sm0, zk_smi, zk_smr, zk_smn, zk_sml, zk_fi, zk_fz, zk_fo, zk_fn, zk_fa, zk_ts, zk_tn, zk_cases, true_and, and_true, List.getElem?_cons_zero, List.getElem?_cons_succ, List.length_cons, List.length_nil, Nat.reduceAdd, Nat.reduceLT, Nat.reduceLeDiff, List.set_cons_zero, List.set_cons_succ, va_rf, iz_lit, iz_add]
        exact i1
      generalize hw0 : (fun k : Int => (xs (5 * n + k).toNat).toInt) = w
      have hw : ∀ k, i32 (w k) := fun k => by rw [← hw0]; exact ⟨i_lo _, i_hi _⟩
      have sc : ∀ k, 0 ≤ k → k ≤ 4 → ∀ (h : zk_H) (P : Int32 → Prop), zk_ai G h b (iz (5 * n + k)) P ↔ P (iz (w k)) := by
        intro k k0 k4 h P
        have e := iz_toInt (z := 5 * n + k) (by omega) (by omega)
        rw [zk_ai_f (ar h), e, ← hw0]
        dsimp only
        rw [iz_of]
        exact ⟨fun q => q.2, fun q => ⟨by omega, q⟩⟩
      have s0 := sc 0 (by omega) (by omega)
      rw [Int.add_zero] at s0
      have cd := nx h (LW_same hL)
      generalize hP : PP = P at *
      have c0 := lc_zone hS hL ⟨h0, by omega⟩ w hw sc P nx
      have c1 := lc_shift hS hL ⟨h0, by omega⟩ w hw sc P nx
      have c2 := lc_holiday hS hL ⟨h0, by omega⟩ w hw sc P nx
      have c3 := lc_local hS hL ⟨h0, by omega⟩ w hw sc P nx
      have c4 := lc_moment hS hL ⟨h0, by omega⟩ w hw sc P nx
      have c5 := lc_day hS hL ⟨h0, by omega⟩ w hw sc P nx
      have c6 := lc_job hS hL ⟨h0, by omega⟩ w hw sc P nx
      have c7 := lc_mask hS hL ⟨h0, by omega⟩ w hw sc P nx
      have c8 := lc_nth hS hL ⟨h0, by omega⟩ w hw sc P nx
      have c9 := lc_except hS hL ⟨h0, by omega⟩ w hw sc P nx
      have c10 := lc_onHol hS hL ⟨h0, by omega⟩ w hw sc P nx
      have c11 := lc_catch hS hL ⟨h0, by omega⟩ w hw sc P nx
      have c12 := lc_after hS hL ⟨h0, by omega⟩ w hw sc P nx
      have c13 := lc_pause hS hL ⟨h0, by omega⟩ w hw sc P nx
      have c14 := lc_due hS hL ⟨h0, by omega⟩ w hw sc P nx
      have c15 := lc_between hS hL ⟨h0, by omega⟩ w hw sc P nx
      have c16 := lc_runNow hS hL ⟨h0, by omega⟩ w hw sc P nx
      have c17 := lc_now hS hL ⟨h0, by omega⟩ w hw sc P nx
      have c18 := lc_wake hS hL ⟨h0, by omega⟩ w hw sc P nx
      have c19 := lc_deliver hS hL ⟨h0, by omega⟩ w hw sc P nx
      have c20 := lc_flow hS hL ⟨h0, by omega⟩ w hw sc P nx
      have c21 := lc_lose hS hL ⟨h0, by omega⟩ w hw sc P nx
      have c22 := lc_twin hS hL ⟨h0, by omega⟩ w hw sc P nx
      have c23 := lc_letter hS hL ⟨h0, by omega⟩ w hw sc P nx
      have c24 := lc_crash hS hL ⟨h0, by omega⟩ w hw sc P nx
      have c25 := lc_restart hS hL ⟨h0, by omega⟩ w hw sc P nx
      have c26 := lc_desk hS hL ⟨h0, by omega⟩ w hw sc P nx
      have c27 := lc_register hS hL ⟨h0, by omega⟩ w hw sc P nx
      have c28 := lc_effects hS hL ⟨h0, by omega⟩ w hw sc P nx
      have c29 := lc_effect hS hL ⟨h0, by omega⟩ w hw sc P nx
      have c30 := lc_waiting hS hL ⟨h0, by omega⟩ w hw sc P nx
      have c31 := lc_passed hS hL ⟨h0, by omega⟩ w hw sc P nx
      have c32 := lc_count hS hL ⟨h0, by omega⟩ w hw sc P nx
      clear nx ih hL
      rw [u_205_18]
      simp (disch := first | omega | assumption | (simp; done)) only [u_205_19, u_205_20, u_205_21, u_205_22, u_205_23, u_205_26, u_205_27, u_205_28, u_205_29, u_205_31, u_205_32, true_or, or_true, zk_li1_s, zk_ll1_s, zk_la1_r, zk_la1_n, zk_lg0, zk_lgs, zk_co_n, zk_co_i, zk_co_r, zk_co_u, zk_co_l, zk_l1_0, zk_l1_1, zk_l1_s, zk_l2_0, zk_l2_1, zk_l2_s, zk_sm0, zk_smi, zk_smr, zk_smn, zk_sml, zk_fi, zk_fz, zk_fo, zk_fn, zk_fa, zk_ts, zk_tn, zk_cases, true_and, and_true, List.getElem?_cons_zero, List.getElem?_cons_succ, List.length_cons, List.length_nil, Nat.reduceAdd, Nat.reduceLT, Nat.reduceLeDiff, List.set_cons_zero, List.set_cons_succ, va_rf, an, s0, iz_lit, iz_sub, iz_lt, iz_inj]
      (repeat' (first | exact cd | exact c0 | exact c1 | exact c2 | exact c3 | exact c4 | exact c5 | exact c6 | exact c7 | exact c8 | exact c9 | exact c10 | exact c11 | exact c12 | exact c13 | exact c14 | exact c15 | exact c16 | exact c17 | exact c18 | exact c19 | exact c20 | exact c21 | exact c22 | exact c23 | exact c24 | exact c25 | exact c26 | exact c27 | exact c28 | exact c29 | exact c30 | exact c31 | exact c32 | apply And.intro | intro _)) <;> first | omega | (exfalso; omega) | contradiction | exact absurd trivial (by assumption)
theorem cs_sI : cs sI = 0 := by
  have : ∀ n : Nat, csn sI n = 0 := by
    intro n
    induction n with
    | zero => rfl
    | succ n ih => show csn sI n + sI 102 n = 0; rw [ih, sI_0 102 n (by decide) (by decide)]; rfl
  exact this 81
theorem LW_0 {h0 H : zk_H} (e1 : zk_nx G h0 = G.1) (e2 : h0.2 = 0) (hT : TKI G h0 (zk_nx G h0) H) : LW G 0 (zk_nx G h0) (zk_nx G H) (hp G (ap H (mli (zk_nx G H)) 8811) (zk_nx G H) mI) := by
  obtain ⟨t1, t2⟩ := TK_hx zk_nx_ge hT
  obtain ⟨q1, q2⟩ := mli_hp (G := G) H
  have rd : ∀ r, Ux 0 0 r → zk_rd G H (adI (zk_nx G h0) r) = some (ccl (adI (zk_nx G h0)) sI r) := fun r hr => by
    have := hx_rd t2 sI hr
    rw [t1] at this
    exact this
  have n1 : zk_nx G H = zk_nx G h0 + 142 := hT.1
  have n2 : zk_nx G (ap H (mli (zk_nx G H)) 8811) = zk_nx G H + 48 := by rw [ap_nx]; rfl
  have n3 : zk_nx G (hp G (ap H (mli (zk_nx G H)) 8811) (zk_nx G H) mI) = zk_nx G H + 48 := by rw [← n2]; exact ov_nx _ _ _
  have s1 : (ap H (mli (zk_nx G H)) 8811).2 = H.2 + 8811 := rfl
  have s2 := hT.2.1
  have m10 : mI 1 0 = 0 := mI_0 1 0 (by decide) (by decide)
  have m100 : mI 10 0 = 0 := mI_0 10 0 (by decide) (by decide)
  refine ⟨ap H (mli (zk_nx G H)) 8811, adI (zk_nx G h0), sI, mI, ?_, ?_, q2, ?_, rfl, REL_I, INV_I, ?_, ?_⟩
  · rw [m10, m100]
    refine (hx_self (fun r hr => ?_) t2.2.2).symm
    have := t2.2.1 r hr
    rw [hp_out mI (Or.inl this.2), ap_rdo _ _ _ this.2]
    exact rd r hr
  · rw [m10, m100]
    refine ⟨by omega, fun r hr => ?_, t2.2.2⟩
    have := t2.2.1 r hr
    rw [n3]
    omega
  · rw [m10, m100]
    intro r hr
    exact Or.inl (t2.2.1 r hr).2
  · rw [cs_sI, n2, n1, e1]
    omega
  · rw [cs_sI, s1, s2, e2]
    omega
theorem l_goal (hG : zk_Gok G b L xs) (hLe : L ≤ 2560) : ∃ (n : Nat) (h' : zk_H), zk_ex n G 205 0 (zk_ent 4 [.ref b]) [] ([], 0) = some (some (.int 1), h') ∧ h'.1.length ≤ 600000 ∧ h'.2 ≤ 7302249 := by
  have e1 : zk_nx G (([], 0) : zk_H) = G.1 := rfl
  have e2 : (([], 0) : zk_H).2 = 0 := rfl
  generalize hh : (([], 0) : zk_H) = h0 at *
  obtain ⟨H, t1, t2⟩ := c_tinit (G := G) h0
  have ti := fun Q => c_minit (G := G) H Q
  have l0 := l_loop (x := zk_nx G h0) (M := zk_nx G H) hG hLe 512 0 _ (by omega) (by omega) (LW_0 e1 e2 t1)
  rw [show (5 : Int) * 0 = 0 from rfl] at l0
  have a1 : zk_al h0 (.inr (8, [.null, .null, .null, .null, .null, .null, .int (iz 0), .int (iz 0), .int (iz 0), .int (iz 0)])) 10 = ap h0 [.inr (8, [.null, .null, .null, .null, .null, .null, .int (iz 0), .int (iz 0), .int (iz 0), .int (iz 0)])] 10 := rfl
  have a2 : zk_al H (.inr (9, [.int (iz 0), .int (iz 0), .null, .null, .null, .null, .null, .int (iz 0), .int (iz 0), .int (iz 0), .int (iz 0), .null, .null, .null, .null, .null, .null, .null, .null, .null, .null, .null, .null, .null, .null, .null, .null, .null, .null, .null, .null, .null, .null, .null, .null, .null, .null, .null, .null, .null, .null, .null, .null, .null, .null, .null, .null, .null, .null, .null, .null, .int (iz 0), .int (iz 0), .int (iz 0), .null, .null])) 56 = ap H [.inr (9, mfd)] 56 := rfl
  have key : zk_wp G 205 0 [some (.ref b), none, none, none] [] h0 PP := by
    clear t1
    simp (disch := first | omega | assumption | (simp; done)) only [u_205_0, u_205_3i, u_205_3r, u_205_3n, u_205_4, u_205_7, u_205_7N, u_205_8, u_205_11i, u_205_11r, u_205_11n, u_205_12, u_205_15, u_205_15N, u_205_16, u_205_17, true_or, or_true, zk_li1_s, zk_ll1_s, zk_la1_r, zk_la1_n, zk_lg0, zk_lgs, zk_co_n, zk_co_i, zk_co_r, zk_co_u, zk_co_l, zk_l1_0, zk_l1_1, zk_l1_s, zk_l2_0, zk_l2_1, zk_l2_s, zk_sm0, zk_smi, zk_smr, zk_smn, zk_sml, zk_fi, zk_fz, zk_fo, zk_fn, zk_fa, zk_ts, zk_tn, zk_cases, true_and, and_true, List.getElem?_cons_zero, List.getElem?_cons_succ, List.length_cons, List.length_nil, Nat.reduceAdd, Nat.reduceLT, Nat.reduceLeDiff, List.set_cons_zero, List.set_cons_succ, va_rf, iz_lit, a1, t2, a2, ti]
    (repeat' (first | exact l0 | apply And.intro | intro _)) <;> first | omega | (exfalso; omega) | contradiction | exact absurd trivial (by assumption) | (exfalso; simp_all; done)
  obtain ⟨n, r, h', k1, k2, k3, k4⟩ := key
  refine ⟨n, h', ?_, k3, k4⟩
  rw [← show r = some (.int 1) from k2]
  exact k1
end LOOP
