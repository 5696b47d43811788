/-! the class's crash and wake -/
def ccN (s : mS) (sc : Int) : Nat → mS
  | 0 => up s 42 sc 1
  | n + 1 => cend (up (ccN s sc n) 62 (12 * sc + n) 0) (12 * sc + n)
theorem ccN_102 (s : mS) (sc z : Int) : ∀ n, ccN s sc n 102 z = s 102 z := by
  intro n
  induction n with
  | zero => exact up_k _ _ _ _ (by decide)
  | succ n ih => unfold ccN; rw [cend_k _ _ _ _ (by decide) (by decide) (by decide), up_k _ _ _ _ (by decide), ih]
theorem REL_cc {s m : mS} (hR : REL s m) (sc : Int) : ∀ n : Nat, REL (ccN s sc n) (mcr (up m 42 sc 1) sc (12 * sc + n)) := by
  intro n
  induction n with
  | zero =>
    have e : mcr (up m 42 sc 1) sc (12 * sc + ((0 : Nat) : Int)) = up m 42 sc 1 := by funext c y; unfold mcr; rw [if_neg (by omega)]
    rw [e]
    exact REL_up hR 42 sc 1 rfl (by decide) (by omega)
  | succ n ih =>
    have h := REL_forget ih (12 * sc + n)
    rw [mcr_s _ _ _ (by omega)] at h
    rw [show (12 * sc + ((n + 1 : Nat) : Int)) = 12 * sc + n + 1 by omega]
    exact h
theorem REL_idle {s m : mS} (hR : REL s m) {x : Int} (h35 : m 35 x = 0) (h36 : m 36 x = 0) (h34 : m 34 x = 0) : REL s (up (mend m x) 34 x 0) := by
  have km : ∀ k z, k ≠ 40 → up (mend m x) 34 x 0 k z = m k z := by
    intro k z hk
    unfold mend
    by_cases cz : z = x
    · subst cz
      by_cases c34 : k = 34
      · subst c34; rw [up_e, h34]
      rw [up_k _ _ _ _ c34, up_k _ _ _ _ hk]
      by_cases c36 : k = 36
      · subst c36; rw [up_e, h36]
      rw [up_k _ _ _ _ c36]
      by_cases c35 : k = 35
      · subst c35; rw [up_e, h35]
      rw [up_k _ _ _ _ c35]
    · rw [up_ne _ _ (fun q => cz q.2), up_ne _ _ (fun q => cz q.2), up_ne _ _ (fun q => cz q.2), up_ne _ _ (fun q => cz q.2)]
  have kz : ∀ k z, z ≠ x → up (mend m x) 34 x 0 k z = m k z := by
    intro k z cz
    unfold mend
    rw [up_ne _ _ (fun q => cz q.2), up_ne _ _ (fun q => cz q.2), up_ne _ _ (fun q => cz q.2), up_ne _ _ (fun q => cz q.2)]
  refine REL_prot hR (fun k z q => rfl) (fun k z q => km k z (by unfold pk at q; omega)) ?_ ?_ ?_ hR.2.2.2.2.2.2
  · intro k z _ hk
    rw [km k z (by intro e; rw [e] at hk; revert hk; decide)]
    exact hR.1 k z hk
  · intro z a b
    rw [km 53 0 (by decide)] at b
    rw [km 54 z (by decide)]
    exact hR.2.1 z a b
  · intro i i1 i2
    obtain ⟨a, b, c, d⟩ := hR.2.2.1 i i1 i2
    refine ⟨?_, ?_, c, ?_⟩
    · by_cases ci : i = x
      · subst ci
        unfold runR
        rw [km 36 i (by decide), h36]
        exact ⟨fun _ => a.1 h36, fun q => absurd q (by omega), fun q => absurd q (by omega)⟩
      · exact runR_of a (fun _ _ _ => rfl) (fun k k1 k2 => kz k i ci)
    · rw [km 30 i (by decide), km 34 i (by decide)]; exact b
    · rw [km 10 0 (by decide)]; exact d
theorem rcn_tail {m : mS} {a : Int} {n0 : Nat} (h : ∀ k : Nat, n0 ≤ k → k < 12 → ¬ 0 < m 35 (a + k)) : ∀ n, n0 ≤ n → n ≤ 12 → rcn m a n = rcn m a n0 := by
  intro n
  induction n with
  | zero => intro h1 _; rw [show n0 = 0 by omega]
  | succ n ih =>
    intro h1 h2
    by_cases c : n0 = n + 1
    · rw [c]
    · show rcn m a n + (if 0 < m 35 (a + n) then 1 else 0) = _
      rw [if_neg (h n (by omega) (by omega)), ih (by omega) (by omega)]
      omega
noncomputable def cwN (s m : mS) (sc : Int) : Nat → mS
  | 0 => s
  | n + 1 => if wkO (wks m sc n) sc n = true then csto (cbgn (cwN s m sc n) sc (12 * sc + n)) 0 sc n (cbal sc (cwN s m sc n 30 (12 * sc + n)) (cwN s m sc n 62 (12 * sc + n))) 0 0 else cwN s m sc n
theorem REL_cw {s m : mS} (hR : REL s m) (hM : MC m) (hP : MP m) (h51 : m 51 0 ≤ 1000000000) (hb : ∀ i, 0 ≤ i → i < 36 → m 30 i ≤ 90000 ∧ m 34 i ≤ 90000) {sc : Int} (hsc : 0 ≤ sc ∧ sc < 3) : ∀ n : Nat, (n : Int) ≤ m 10 0 → REL (cwN s m sc n) (wks m sc n) ∧ wks m sc n 51 0 ≤ m 51 0 + 3 * n := by
  intro n
  have h10 := hM.2.2.2.1
  induction n with
  | zero => intro _; exact ⟨hR, by show m 51 0 ≤ _; omega⟩
  | succ n ih =>
    intro hn
    obtain ⟨i1, i2⟩ := ih (by omega)
    have e1 : cwN s m sc (n + 1) = if wkO (wks m sc n) sc n = true then csto (cbgn (cwN s m sc n) sc (12 * sc + n)) 0 sc n (cbal sc (cwN s m sc n 30 (12 * sc + n)) (cwN s m sc n 62 (12 * sc + n))) 0 0 else cwN s m sc n := rfl
    have e2 : wks m sc (n + 1) = if wkO (wks m sc n) sc n = true then mbgn (wks m sc n) sc n else wks m sc n := rfl
    rw [e1, e2]
    by_cases c : wkO (wks m sc n) sc n = true
    · rw [if_pos c, if_pos c]
      have e30 : wks m sc n 30 (12 * sc + n) = m 30 (12 * sc + n) := wks_z m sc 30 (by decide) (by decide) (by decide) n _ (by omega)
      have e34 : wks m sc n 34 (12 * sc + n) = m 34 (12 * sc + n) := wks_z m sc 34 (by decide) (by decide) (by decide) n _ (by omega)
      have ri := hP.1 (12 * sc + n) (by omega) (by omega)
      have bb := hb (12 * sc + n) (by omega) (by omega)
      have := REL_bgn i1 sc n hsc (by omega) (wks_sz hP.2.1 sc n) (by omega) (by rw [e30]; exact ⟨ri.1.1, bb.1⟩) (by rw [e34]; exact ⟨ri.2.1.1, bb.2⟩)
      exact ⟨this.1, by have := this.2; omega⟩
    · rw [if_neg c, if_neg c]
      exact ⟨i1, by omega⟩
theorem cwN_102 (s m : mS) (sc z : Int) : ∀ n, cwN s m sc n 102 z = s 102 z := by
  intro n
  induction n with
  | zero => rfl
  | succ n ih =>
    unfold cwN
    split
    · rw [csto_k _ _ _ _ _ _ _ _ _ (by decide) (by decide) (by decide)]
      unfold cbgn cbeg
      rw [up_k _ _ _ _ (by decide), up_k _ _ _ _ (by decide), up_k _ _ _ _ (by decide), up_k _ _ _ _ (by decide), up_k _ _ _ _ (by decide), up_k _ _ _ _ (by decide), up_k _ _ _ _ (by decide), ih]
    · exact ih
section CRA
variable {G : zk_G} {B : zk_H} {ad : Int → Nat} {s m : mS}
theorem k_crash (hB : hxo G B (m 1 0) (m 10 0) ad) (hR : REL s m) (hM : MC m) (hP : MP m) (sc : Int) (hi : -2147483648 ≤ sc ∧ sc ≤ 2147483647) : CC G B ad s m 103 [some (.int (iz sc)), none, none, none] (v_crash m sc) (f_crash m sc) := by
  have hc := rel_cI hR hM
  have h10 := hM.2.2.2.1
  have im := c_isSch (G := G) (hx G B (m 1 0) (m 10 0) ad s) sc hi
  have e42 := rel_k hR 42 sc
  have q42 := rg_of hM.1 42 sc
  unfold v_crash f_crash
  by_cases c : 0 ≤ sc ∧ sc ≤ 2
  · rw [if_pos c]
    rw [if_pos (by omega)] at im
    by_cases c2 : m 42 sc = 0
    · rw [if_pos c2, if_pos ⟨c, c2⟩]
      have hz : ∀ k : Nat, (m 10 0).toNat ≤ k → k < 12 → m 35 (12 * sc + k) = 0 ∧ m 34 (12 * sc + k) = 0 := fun k k1 k2 => by
        obtain ⟨-, -, -, -, -, -, -, -, a9⟩ := hP.1 (12 * sc + k) (by omega) (by omega)
        exact a9 (by omega)
      rw [rcn_tail (n0 := (m 10 0).toNat) (fun k k1 k2 => by have := (hz k k1 k2).1; omega) 12 (by omega) (by omega)]
      have RN : ∀ n : Nat, (m 10 0).toNat ≤ n → n ≤ 12 → REL (ccN s sc (m 10 0).toNat) (mcr (up m 42 sc 1) sc (12 * sc + n)) := by
        intro n
        induction n with
        | zero => intro a b; rw [show (m 10 0).toNat = 0 by omega]; exact REL_cc hR sc 0
        | succ n ih =>
          intro a b
          by_cases cn : (m 10 0).toNat = n + 1
          · rw [cn]; exact REL_cc hR sc (n + 1)
          · have h := ih (by omega) (by omega)
            have k35 : mcr (up m 42 sc 1) sc (12 * sc + n) 35 (12 * sc + n) = 0 := by unfold mcr; rw [if_neg (by omega), up_k _ _ _ _ (by decide)]; exact (hz n (by omega) (by omega)).1
            have k36 : mcr (up m 42 sc 1) sc (12 * sc + n) 36 (12 * sc + n) = 0 := by
              unfold mcr; rw [if_neg (by omega), up_k _ _ _ _ (by decide)]
              obtain ⟨-, -, -, -, -, a6, -⟩ := hP.1 (12 * sc + n) (by omega) (by omega)
              exact a6.mpr (hz n (by omega) (by omega)).1
            have k34 : mcr (up m 42 sc 1) sc (12 * sc + n) 34 (12 * sc + n) = 0 := by unfold mcr; rw [if_neg (by omega), up_k _ _ _ _ (by decide)]; exact (hz n (by omega) (by omega)).2
            have h2 := REL_idle h k35 k36 k34
            rw [mcr_s _ _ _ (by omega)] at h2
            rw [show (12 * sc + ((n + 1 : Nat) : Int)) = 12 * sc + n + 1 by omega]
            exact h2
      have RR := RN 12 (by omega) (by omega)
      have k1 : mcr (up m 42 sc 1) sc (12 * sc + ((12 : Nat) : Int)) 1 0 = m 1 0 := by
        unfold mcr
        split
        · rw [if_neg (by omega), if_neg (by omega), up_k _ _ _ _ (by decide)]
        · rw [up_k _ _ _ _ (by decide)]
      have k10 : mcr (up m 42 sc 1) sc (12 * sc + ((12 : Nat) : Int)) 10 0 = m 10 0 := by
        unfold mcr
        split
        · rw [if_neg (by omega), if_neg (by omega), up_k _ _ _ _ (by decide)]
        · rw [up_k _ _ _ _ (by decide)]
      rw [show (12 * sc + ((12 : Nat) : Int)) = 12 * sc + 12 by omega] at RR k1 k10
      refine CC_u hB RR k1 k10 (cs_of (fun z => ccN_102 s sc z _)) (fun Q => zk_eq ?_ Q)
      generalize hQ : (fun (r : Option Value) (h' : zk_H) => r = some (.int (iz (rcn m (12 * sc) (m 10 0).toNat))) ∧ h' = hx G B (m 1 0) (m 10 0) ad (ccN s sc (m 10 0).toNat)) = P
      have loop : ∀ (q n : Nat) (o4 : Option Value), (n : Int) + q = m 10 0 → zk_wp G 103 32 [some (.ref (ad 0)), some (.int (iz sc)), some (.int (iz (rcn m (12 * sc) n))), some (.int (iz n)), o4] [] (hx G B (m 1 0) (m 10 0) ad (ccN s sc n)) P := by
        intro q
        induction q with
        | zero =>
          intro n o4 hn
          have R0 := REL_cc hR sc n
          have e10 : ccN s sc n 10 0 = m 10 0 := by
            rw [R0.1 10 0 rfl]; unfold mcr; split
            · rw [if_neg (by omega), if_neg (by omega), up_k _ _ _ _ (by decide)]
            · rw [up_k _ _ _ _ (by decide)]
          have hP2 : P (some (.int (iz (rcn m (12 * sc) n)))) (hx G B (m 1 0) (m 10 0) ad (ccN s sc n)) := by
            rw [← hQ, show (m 10 0).toNat = n by omega]; exact ⟨rfl, rfl⟩
          rw [u_103_32]
          simp (disch := first | omega | assumption | (simp; done)) only [u_103_0, u_103_1, u_103_4, u_103_7, u_103_8, u_103_9, u_103_10, u_103_13, u_103_14, u_103_15, u_103_18, u_103_20, u_103_21, u_103_22, u_103_25, u_103_26, u_103_27, u_103_28, u_103_29, u_103_30, u_103_31, u_103_33, u_103_34, u_103_37, u_103_41, u_103_42, u_103_43, u_103_46, u_103_46N, u_103_48, u_103_50, u_103_50N, u_103_53, u_103_54, u_103_56, u_103_59, u_103_62, u_103_65, u_103_66, u_103_69, u_103_70, u_103_71, u_103_72, u_103_74, u_103_77, u_103_80, u_103_83, u_103_84, true_or, or_true, zk_li1_s, zk_ll1_s, zk_la1_r, zk_la1_n, zk_lg0, zk_lgs, zk_co_n, zk_co_i, zk_co_r, zk_co_u, zk_co_l, zk_l1_0, zk_l1_1, zk_l1_s, zk_l2_0, zk_l2_1, zk_l2_s, zk_sm0, zk_smi, zk_smr, zk_smn, zk_sml, zk_fi, zk_fz, zk_fo, zk_fn, zk_fa, zk_ts, zk_tn, zk_cases, true_and, and_true, List.getElem?_cons_zero, List.getElem?_cons_succ, List.length_cons, List.length_nil, Nat.reduceAdd, Nat.reduceLT, Nat.reduceLeDiff, List.set_cons_zero, List.set_cons_succ, va_rf, xi_tk hB, xg_tk_0 hB, xg_tk_1 hB, xg_tk_2 hB, xg_tk_3 hB, xg_tk_4 hB, xg_tk_5 hB, xg_tk_6 hB, xp_tk_6 hB, xg_tk_7 hB, xp_tk_7 hB, xg_tk_8 hB, xp_tk_8 hB, xg_tk_9 hB, xp_tk_9 hB, iz_lit, iz_le, e10]
          (repeat' (first | exact hP2 | apply And.intro | intro _)) <;> first | omega | (exfalso; omega) | contradiction | exact absurd trivial (by assumption) | (exfalso; simp_all; done)
        | succ q ih =>
          intro n o4 hn
          have R0 := REL_cc hR sc n
          have e10 : ccN s sc n 10 0 = m 10 0 := by
            rw [R0.1 10 0 rfl]; unfold mcr; split
            · rw [if_neg (by omega), if_neg (by omega), up_k _ _ _ _ (by decide)]
            · rw [up_k _ _ _ _ (by decide)]
          have e36 : ccN s sc n 36 (12 * sc + n) = m 36 (12 * sc + n) := by
            rw [R0.1 36 _ rfl]; unfold mcr; rw [if_neg (by omega), up_k _ _ _ _ (by decide)]
          have hcn : cI (ccN s sc n) (m 1 0) (m 10 0) := by
            refine cI_of hc (fun k z hk => ?_)
            clear ih hQ
            have hk' : k ≠ 42 ∧ k ≠ 36 ∧ k ≠ 35 ∧ k ≠ 66 ∧ k ≠ 62 := by omega
            have : ∀ n, ccN s sc n k z = s k z := by
              intro n
              induction n with
              | zero => exact up_k _ _ _ _ hk'.1
              | succ n ih => unfold ccN; rw [cend_k _ _ _ _ hk'.2.1 hk'.2.2.1 hk'.2.2.2.1, up_k _ _ _ _ hk'.2.2.2.2, ih]
            exact this n
          have ro := c_regOf hB hcn sc n (by omega) (by omega)
          have fo := c_forget hB (s := ccN s sc n) (12 * sc + n) (by omega)
          have fe : cend (up (ccN s sc n) 62 (12 * sc + n) 0) (12 * sc + n) = ccN s sc (n + 1) := rfl
          rw [fe] at fo
          obtain ⟨-, -, -, -, a5, a6, a7, -, -⟩ := hP.1 (12 * sc + n) (by omega) (by omega)
          have nx := fun o4 => ih (n + 1) o4 (by omega)
          rw [show (((n + 1 : Nat)) : Int) = (n : Int) + 1 by omega] at nx
          rw [u_103_32]
          by_cases cr : 0 < m 35 (12 * sc + n)
          · have e : rcn m (12 * sc) (n + 1) = rcn m (12 * sc) n + 1 := by show rcn m (12 * sc) n + (if 0 < m 35 (12 * sc + n) then 1 else 0) = _; rw [if_pos cr]
            rw [e] at nx
            simp (disch := first | omega | assumption | (simp; done)) only [u_103_0, u_103_1, u_103_4, u_103_7, u_103_8, u_103_9, u_103_10, u_103_13, u_103_14, u_103_15, u_103_18, u_103_20, u_103_21, u_103_22, u_103_25, u_103_26, u_103_27, u_103_28, u_103_29, u_103_30, u_103_31, u_103_33, u_103_34, u_103_37, u_103_40, u_103_41, u_103_42, u_103_43, u_103_46, u_103_46N, u_103_48, u_103_50, u_103_50N, u_103_53, u_103_54, u_103_56, u_103_59, u_103_62, u_103_65, u_103_66, u_103_69, u_103_70, u_103_71, u_103_72, u_103_74, u_103_77, u_103_80, u_103_83, u_103_84, true_or, or_true, zk_li1_s, zk_ll1_s, zk_la1_r, zk_la1_n, zk_lg0, zk_lgs, zk_co_n, zk_co_i, zk_co_r, zk_co_u, zk_co_l, zk_l1_0, zk_l1_1, zk_l1_s, zk_l2_0, zk_l2_1, zk_l2_s, zk_sm0, zk_smi, zk_smr, zk_smn, zk_sml, zk_fi, zk_fz, zk_fo, zk_fn, zk_fa, zk_ts, zk_tn, zk_cases, true_and, and_true, List.getElem?_cons_zero, List.getElem?_cons_succ, List.length_cons, List.length_nil, Nat.reduceAdd, Nat.reduceLT, Nat.reduceLeDiff, List.set_cons_zero, List.set_cons_succ, va_rf, xi_tk hB, xg_tk_0 hB, xg_tk_1 hB, xg_tk_2 hB, xg_tk_3 hB, xg_tk_4 hB, xg_tk_5 hB, xg_tk_6 hB, xp_tk_6 hB, xg_tk_7 hB, xp_tk_7 hB, xg_tk_8 hB, xp_tk_8 hB, xg_tk_9 hB, xp_tk_9 hB, xi_re hB, xg_re_0 hB, xg_re_1 hB, xp_re_1 hB, xg_re_2 hB, xp_re_2 hB, xg_re_3 hB, xp_re_3 hB, xg_re_4 hB, xp_re_4 hB, xg_re_5 hB, xp_re_5 hB, xi_ru hB, xg_ru_0 hB, xp_ru_0 hB, xg_ru_1 hB, xp_ru_1 hB, xg_ru_2 hB, xp_ru_2 hB, xg_ru_3 hB, xp_ru_3 hB, xg_ru_4 hB, xp_ru_4 hB, xg_ru_5 hB, xp_ru_5 hB, xg_ru_6 hB, xp_ru_6 hB, iz_lit, iz_le, iz_inj, iz_add, e10, ro, e36, fo]
            (repeat' (first | exact nx _ | apply And.intro | intro _)) <;> first | omega | (exfalso; omega) | contradiction | exact absurd trivial (by assumption) | (exfalso; simp_all; done)
          · have e : rcn m (12 * sc) (n + 1) = rcn m (12 * sc) n + 0 := by show rcn m (12 * sc) n + (if 0 < m 35 (12 * sc + n) then 1 else 0) = _; rw [if_neg cr]
            rw [e] at nx
            simp (disch := first | omega | assumption | (simp; done)) only [u_103_0, u_103_1, u_103_4, u_103_7, u_103_8, u_103_9, u_103_10, u_103_13, u_103_14, u_103_15, u_103_18, u_103_20, u_103_21, u_103_22, u_103_25, u_103_26, u_103_27, u_103_28, u_103_29, u_103_30, u_103_31, u_103_33, u_103_34, u_103_37, u_103_40, u_103_41, u_103_42, u_103_43, u_103_46, u_103_46N, u_103_48, u_103_50, u_103_50N, u_103_53, u_103_54, u_103_56, u_103_59, u_103_62, u_103_65, u_103_66, u_103_69, u_103_70, u_103_71, u_103_72, u_103_74, u_103_77, u_103_80, u_103_83, u_103_84, true_or, or_true, zk_li1_s, zk_ll1_s, zk_la1_r, zk_la1_n, zk_lg0, zk_lgs, zk_co_n, zk_co_i, zk_co_r, zk_co_u, zk_co_l, zk_l1_0, zk_l1_1, zk_l1_s, zk_l2_0, zk_l2_1, zk_l2_s, zk_sm0, zk_smi, zk_smr, zk_smn, zk_sml, zk_fi, zk_fz, zk_fo, zk_fn, zk_fa, zk_ts, zk_tn, zk_cases, true_and, and_true, List.getElem?_cons_zero, List.getElem?_cons_succ, List.length_cons, List.length_nil, Nat.reduceAdd, Nat.reduceLT, Nat.reduceLeDiff, List.set_cons_zero, List.set_cons_succ, va_rf, xi_tk hB, xg_tk_0 hB, xg_tk_1 hB, xg_tk_2 hB, xg_tk_3 hB, xg_tk_4 hB, xg_tk_5 hB, xg_tk_6 hB, xp_tk_6 hB, xg_tk_7 hB, xp_tk_7 hB, xg_tk_8 hB, xp_tk_8 hB, xg_tk_9 hB, xp_tk_9 hB, xi_re hB, xg_re_0 hB, xg_re_1 hB, xp_re_1 hB, xg_re_2 hB, xp_re_2 hB, xg_re_3 hB, xp_re_3 hB, xg_re_4 hB, xp_re_4 hB, xg_re_5 hB, xp_re_5 hB, xi_ru hB, xg_ru_0 hB, xp_ru_0 hB, xg_ru_1 hB, xp_ru_1 hB, xg_ru_2 hB, xp_ru_2 hB, xg_ru_3 hB, xp_ru_3 hB, xg_ru_4 hB, xp_ru_4 hB, xg_ru_5 hB, xp_ru_5 hB, xg_ru_6 hB, xp_ru_6 hB, iz_lit, iz_le, iz_inj, iz_add, e10, ro, e36, fo]
            (repeat' (first | exact nx _ | apply And.intro | intro _)) <;> first | omega | (exfalso; omega) | contradiction | exact absurd trivial (by assumption) | (exfalso; simp_all; done)
      have l0 := fun o4 => loop (m 10 0).toNat 0 o4 (by omega)
      have c0 : ccN s sc 0 = up s 42 sc 1 := rfl
      rw [c0] at l0
      clear RR RN
      simp (disch := first | omega | assumption | (simp; done)) only [u_103_0, u_103_1, u_103_4, u_103_8, u_103_9, u_103_10, u_103_13, u_103_14, u_103_15, u_103_20, u_103_21, u_103_22, u_103_25, u_103_26, u_103_27, u_103_28, u_103_29, u_103_30, u_103_31, u_103_33, u_103_34, u_103_37, u_103_40, u_103_41, u_103_42, u_103_43, u_103_46, u_103_46N, u_103_48, u_103_50, u_103_50N, u_103_53, u_103_54, u_103_56, u_103_59, u_103_62, u_103_65, u_103_66, u_103_69, u_103_70, u_103_71, u_103_72, u_103_74, u_103_77, u_103_80, u_103_83, u_103_84, true_or, or_true, zk_li1_s, zk_ll1_s, zk_la1_r, zk_la1_n, zk_lg0, zk_lgs, zk_co_n, zk_co_i, zk_co_r, zk_co_u, zk_co_l, zk_l1_0, zk_l1_1, zk_l1_s, zk_l2_0, zk_l2_1, zk_l2_s, zk_sm0, zk_smi, zk_smr, zk_smn, zk_sml, zk_fi, zk_fz, zk_fo, zk_fn, zk_fa, zk_ts, zk_tn, zk_cases, true_and, and_true, List.getElem?_cons_zero, List.getElem?_cons_succ, List.length_cons, List.length_nil, Nat.reduceAdd, Nat.reduceLT, Nat.reduceLeDiff, List.set_cons_zero, List.set_cons_succ, va_rf, xi_tk hB, xg_tk_0 hB, xg_tk_1 hB, xg_tk_2 hB, xg_tk_3 hB, xg_tk_4 hB, xg_tk_5 hB, xg_tk_6 hB, xp_tk_6 hB, xg_tk_7 hB, xp_tk_7 hB, xg_tk_8 hB, xp_tk_8 hB, xg_tk_9 hB, xp_tk_9 hB, xz_sd hB, xw_sd hB, iz_lit, iz_neg, iz_inj, im, e42]
      (repeat' (first | exact l0 _ | apply And.intro | intro _)) <;> first | omega | (exfalso; omega) | contradiction | exact absurd trivial (by assumption) | (exfalso; simp_all; done)
    · rw [if_neg c2, if_neg (fun q => c2 q.2)]
      refine CC_q hB hR (fun Q => zk_eq ?_ Q)
      simp (disch := first | omega | assumption | (simp; done)) only [u_103_0, u_103_1, u_103_4, u_103_8, u_103_9, u_103_10, u_103_13, u_103_14, u_103_15, u_103_18, u_103_20, u_103_22, u_103_25, u_103_26, u_103_27, u_103_28, u_103_29, u_103_30, u_103_31, u_103_32, u_103_33, u_103_34, u_103_37, u_103_40, u_103_41, u_103_42, u_103_43, u_103_46, u_103_46N, u_103_48, u_103_50, u_103_50N, u_103_53, u_103_54, u_103_56, u_103_59, u_103_62, u_103_65, u_103_66, u_103_69, u_103_70, u_103_71, u_103_72, u_103_74, u_103_77, u_103_80, u_103_83, u_103_84, true_or, or_true, zk_li1_s, zk_ll1_s, zk_la1_r, zk_la1_n, zk_lg0, zk_lgs, zk_co_n, zk_co_i, zk_co_r, zk_co_u, zk_co_l, zk_l1_0, zk_l1_1, zk_l1_s, zk_l2_0, zk_l2_1, zk_l2_s, zk_sm0, zk_smi, zk_smr, zk_smn, zk_sml, zk_fi, zk_fz, zk_fo, zk_fn, zk_fa, zk_ts, zk_tn, zk_cases, true_and, and_true, List.getElem?_cons_zero, List.getElem?_cons_succ, List.length_cons, List.length_nil, Nat.reduceAdd, Nat.reduceLT, Nat.reduceLeDiff, List.set_cons_zero, List.set_cons_succ, va_rf, xi_tk hB, xg_tk_0 hB, xg_tk_1 hB, xg_tk_2 hB, xg_tk_3 hB, xg_tk_4 hB, xg_tk_5 hB, xg_tk_6 hB, xp_tk_6 hB, xg_tk_7 hB, xp_tk_7 hB, xg_tk_8 hB, xp_tk_8 hB, xg_tk_9 hB, xp_tk_9 hB, xz_sd hB, xw_sd hB, iz_lit, iz_neg, iz_inj, im, e42]
      all_goals ((repeat' (first | exact trivial | exact ⟨rfl, rfl⟩ | rfl | apply And.intro | intro _)) <;> first | omega | (exfalso; omega) | contradiction | (exfalso; simp_all; done) | trace_state)
  · rw [if_neg c, if_neg (fun q => c q.1)]
    rw [if_neg (by omega)] at im
    refine CC_q hB hR (fun Q => zk_eq ?_ Q)
    simp (disch := first | omega | assumption | (simp; done)) only [u_103_0, u_103_1, u_103_4, u_103_7, u_103_8, u_103_10, u_103_13, u_103_14, u_103_15, u_103_18, u_103_20, u_103_21, u_103_22, u_103_25, u_103_26, u_103_27, u_103_28, u_103_29, u_103_30, u_103_31, u_103_32, u_103_33, u_103_34, u_103_37, u_103_40, u_103_41, u_103_42, u_103_43, u_103_46, u_103_46N, u_103_48, u_103_50, u_103_50N, u_103_53, u_103_54, u_103_56, u_103_59, u_103_62, u_103_65, u_103_66, u_103_69, u_103_70, u_103_71, u_103_72, u_103_74, u_103_77, u_103_80, u_103_83, u_103_84, true_or, or_true, zk_li1_s, zk_ll1_s, zk_la1_r, zk_la1_n, zk_lg0, zk_lgs, zk_co_n, zk_co_i, zk_co_r, zk_co_u, zk_co_l, zk_l1_0, zk_l1_1, zk_l1_s, zk_l2_0, zk_l2_1, zk_l2_s, zk_sm0, zk_smi, zk_smr, zk_smn, zk_sml, zk_fi, zk_fz, zk_fo, zk_fn, zk_fa, zk_ts, zk_tn, zk_cases, true_and, and_true, List.getElem?_cons_zero, List.getElem?_cons_succ, List.length_cons, List.length_nil, Nat.reduceAdd, Nat.reduceLT, Nat.reduceLeDiff, List.set_cons_zero, List.set_cons_succ, va_rf, iz_lit, iz_neg, iz_inj, im]
    all_goals ((repeat' (first | exact trivial | exact ⟨rfl, rfl⟩ | rfl | apply And.intro | intro _)) <;> first | omega | (exfalso; omega) | contradiction | (exfalso; simp_all; done) | trace_state)
theorem k_wake (hB : hxo G B (m 1 0) (m 10 0) ad) (hG : GS G) (hR : REL s m) (hM : MC m) (hP : MP m) (h51 : m 51 0 ≤ 1000000000) (hb : ∀ i, 0 ≤ i → i < 36 → m 30 i ≤ 90000 ∧ m 34 i ≤ 90000) (sc : Int) (hi : -2147483648 ≤ sc ∧ sc ≤ 2147483647) : CC G B ad s m 87 [some (.int (iz sc)), none, none, none, none, none] (v_wake m sc) (f_wake m sc) := by
  have hc := rel_cI hR hM
  have h10 := hM.2.2.2.1
  have h0 := hM.2.1
  have im := c_isSch (G := G) (hx G B (m 1 0) (m 10 0) ad s) sc hi
  have e42 := rel_k hR 42 sc
  have q42 := rg_of hM.1 42 sc
  unfold v_wake f_wake
  by_cases c : 0 ≤ sc ∧ sc ≤ 2
  · rw [if_pos c]
    rw [if_pos (by omega)] at im
    by_cases c2 : m 42 sc = 0
    · rw [if_pos c2, if_pos ⟨c, c2⟩]
      have RC := fun n hn => REL_cw hR hM hP h51 hb (sc := sc) (by omega) n hn
      have kk : ∀ n k z, (k < 30 ∨ (31 ≤ k ∧ k ≤ 33) ∨ 42 ≤ k) → k ≠ 54 → k ≠ 51 → k ≠ 53 → wks m sc n k z = m k z := fun n k z a b c d => wks_k m sc k z a b c d n
      refine CC_u hB (RC (m 10 0).toNat (by omega)).1 (kk _ 1 0 (by omega) (by decide) (by decide) (by decide)) (kk _ 10 0 (by omega) (by decide) (by decide) (by decide)) (cs_of (fun z => cwN_102 s m sc z _)) (fun Q => zk_eq ?_ Q)
      generalize hQ : (fun (r : Option Value) (h' : zk_H) => r = some (.int (iz (wkc m sc (m 10 0).toNat))) ∧ h' = hx G B (m 1 0) (m 10 0) ad (cwN s m sc (m 10 0).toNat)) = P
      have loop : ∀ (q n : Nat) (o4 o5 o6 : Option Value), (n : Int) + q = m 10 0 → zk_wp G 87 25 [some (.ref (ad 0)), some (.int (iz sc)), some (.int (iz (wkc m sc n))), some (.int (iz n)), o4, o5, o6] [] (hx G B (m 1 0) (m 10 0) ad (cwN s m sc n)) P := by
        intro q
        induction q with
        | zero =>
          intro n o4 o5 o6 hn
          obtain ⟨R0, -⟩ := RC n (by omega)
          have e10 : cwN s m sc n 10 0 = m 10 0 := by rw [R0.1 10 0 rfl, kk n 10 0 (by omega) (by decide) (by decide) (by decide)]
          have hP2 : P (some (.int (iz (wkc m sc n)))) (hx G B (m 1 0) (m 10 0) ad (cwN s m sc n)) := by
            rw [← hQ, show (m 10 0).toNat = n by omega]; exact ⟨rfl, rfl⟩
          rw [u_87_25]
          simp (disch := first | omega | assumption | (simp; done)) only [u_87_0, u_87_1, u_87_4, u_87_7, u_87_8, u_87_9, u_87_10, u_87_13, u_87_14, u_87_15, u_87_18, u_87_20, u_87_21, u_87_22, u_87_23, u_87_24, u_87_26, u_87_27, u_87_30, u_87_34, u_87_35, u_87_38, u_87_38N, u_87_40, u_87_41, u_87_42, u_87_43, u_87_46, u_87_46N, u_87_48, u_87_50, u_87_50N, u_87_53, u_87_55, u_87_55N, u_87_58, u_87_60, u_87_63, u_87_66, u_87_69, u_87_71, u_87_74, u_87_77, u_87_80, u_87_82, u_87_85, u_87_87, u_87_90, u_87_91, u_87_92, u_87_93, u_87_96, u_87_99, u_87_101, u_87_104, u_87_106, u_87_107, u_87_110, u_87_112, u_87_113, u_87_114, u_87_115, u_87_116, u_87_118, u_87_119, u_87_120, u_87_123, u_87_126, u_87_129, u_87_132, u_87_133, true_or, or_true, zk_li1_s, zk_ll1_s, zk_la1_r, zk_la1_n, zk_lg0, zk_lgs, zk_co_n, zk_co_i, zk_co_r, zk_co_u, zk_co_l, zk_l1_0, zk_l1_1, zk_l1_s, zk_l2_0, zk_l2_1, zk_l2_s, zk_sm0, zk_smi, zk_smr, zk_smn, zk_sml, zk_fi, zk_fz, zk_fo, zk_fn, zk_fa, zk_ts, zk_tn, zk_cases, true_and, and_true, List.getElem?_cons_zero, List.getElem?_cons_succ, List.length_cons, List.length_nil, Nat.reduceAdd, Nat.reduceLT, Nat.reduceLeDiff, List.set_cons_zero, List.set_cons_succ, va_rf, xi_tk hB, xg_tk_0 hB, xg_tk_1 hB, xg_tk_2 hB, xg_tk_3 hB, xg_tk_4 hB, xg_tk_5 hB, xg_tk_6 hB, xp_tk_6 hB, xg_tk_7 hB, xp_tk_7 hB, xg_tk_8 hB, xp_tk_8 hB, xg_tk_9 hB, xp_tk_9 hB, iz_lit, iz_le, e10]
          (repeat' (first | exact hP2 | apply And.intro | intro _)) <;> first | omega | (exfalso; omega) | contradiction | exact absurd trivial (by assumption) | (exfalso; simp_all; done)
        | succ q ih =>
          intro n o4 o5 o6 hn
          obtain ⟨R0, R51⟩ := RC n (by omega)
          have w10 := kk n 10 0 (by omega) (by decide) (by decide) (by decide)
          have w1 := kk n 1 0 (by omega) (by decide) (by decide) (by decide)
          have e10 : cwN s m sc n 10 0 = m 10 0 := by rw [R0.1 10 0 rfl, w10]
          have e0 : cwN s m sc n 0 0 = m 0 0 := by rw [R0.1 0 0 rfl, kk n 0 0 (by omega) (by decide) (by decide) (by decide)]
          have e25 : cwN s m sc n 25 n = m 25 n := by rw [R0.1 25 n rfl, kk n 25 n (by omega) (by decide) (by decide) (by decide)]
          have e32 : cwN s m sc n 32 (12 * sc + n) = m 32 (12 * sc + n) := by rw [R0.1 32 _ rfl, kk n 32 _ (by omega) (by decide) (by decide) (by decide)]
          have e36 : cwN s m sc n 36 (12 * sc + n) = m 36 (12 * sc + n) := by rw [R0.1 36 _ rfl, wks_z m sc 36 (by decide) (by decide) (by decide) n _ (by omega)]
          have e35 : wks m sc n 35 (12 * sc + n) = m 35 (12 * sc + n) := wks_z m sc 35 (by decide) (by decide) (by decide) n _ (by omega)
          have e30 : cwN s m sc n 30 (12 * sc + n) = m 30 (12 * sc + n) := by rw [R0.1 30 _ rfl, wks_z m sc 30 (by decide) (by decide) (by decide) n _ (by omega)]
          have e53 : cwN s m sc n 53 0 = wks m sc n 53 0 := R0.1 53 0 rfl
          have sz := wks_sz hP.2.1 sc n
          have hcn : cI (cwN s m sc n) (m 1 0) (m 10 0) := by
            obtain ⟨⟨i1, i2, i3, i4⟩, i5⟩ := hc
            refine ⟨⟨by rw [R0.1 1 0 rfl, w1], ?_, e10, ?_⟩, fun j j1 j2 => ?_⟩
            · rw [R0.2.2.2.2.2.1.1, w1]
            · rw [R0.2.2.2.2.2.1.2.1, w10]
            · have := i5 j j1 j2
              rw [R0.1 11 j rfl, kk n 11 j (by omega) (by decide) (by decide) (by decide), ← hR.1 11 j rfl]
              exact this
          have ja := c_jobAt hB hcn n (by omega)
          have ro := c_regOf hB hcn sc n (by omega) (by omega)
          obtain ⟨-, -, i32, -, a5, a6, a7, -, -⟩ := hP.1 (12 * sc + n) (by omega) (by omega)
          obtain ⟨b1, b2, b3, b4, b5⟩ := rel_A hR hM n (by omega) (by omega)
          have cfn := wks_cfg m sc n
          have w11 := kk n 11 n (by omega) (by decide) (by decide) (by decide)
          have jr := (R0.2.2.2.2.1 n (by omega) (by rw [w10]; omega)).1
          have zr := R0.2.2.2.1 (wks m sc n 11 n) (by rw [w11]; exact b2.2.1.1.1) (by rw [w11, w1]; exact b1)
          obtain ⟨v, f1, f2⟩ := x_firstDue hB hG (s := cwN s m sc n) (m := wks m sc n) (j := n) (by omega) (by rw [w11]; exact b1) ((cfg_jI cfn n).mpr b2) jr zr (m 32 (12 * sc + n) + 1) (m 0 0) (by omega) (by omega)
          have vr : v = 2147483647 ∨ (0 ≤ v ∧ v ≤ 21038399) := by rcases f1 with ⟨e, -⟩ | ⟨e1, e2, -⟩ <;> omega
          have wo : wkO (wks m sc n) sc n = wkB m sc n v := by
            unfold wkO wkB
            rw [kk n 25 n (by omega) (by decide) (by decide) (by decide), e35, kk n 32 (12 * sc + n) (by omega) (by decide) (by decide) (by decide), kk n 0 0 (by omega) (by decide) (by decide) (by decide), ffd_eq f1]
          have q25 := rg_of hM.1 25 n
          have q36 := rg_of hM.1 36 (12 * sc + n)
          have ri := hP.1 (12 * sc + n) (by omega) (by omega)
          have bb := hb (12 * sc + n) (by omega) (by omega)
          have r62 := (R0.2.2.1 (12 * sc + n) (by omega) (by omega)).2.2.1
          have bg := c_beginRun hB (s := cwN s m sc n) sc (12 * sc + n) (by omega) (by omega) (by rw [e30]; exact ⟨ri.1.1, by have := bb.1; omega⟩) r62
          have st := c_sendTo hB (cbgn (cwN s m sc n) sc (12 * sc + n)) (by
            have : cbgn (cwN s m sc n) sc (12 * sc + n) 53 0 = cwN s m sc n 53 0 := by
              unfold cbgn cbeg
              rw [up_k _ _ _ _ (by decide), up_k _ _ _ _ (by decide), up_k _ _ _ _ (by decide), up_k _ _ _ _ (by decide), up_k _ _ _ _ (by decide), up_k _ _ _ _ (by decide), up_k _ _ _ _ (by decide)]
            rw [this, e53]; exact sz) 0 sc n (cbal sc (cwN s m sc n 30 (12 * sc + n)) (cwN s m sc n 62 (12 * sc + n))) 0 0 (by omega)
          have nx0 : wkB m sc n v = false → ∀ o4 o5 o6, zk_wp G 87 25 [some (.ref (ad 0)), some (.int (iz sc)), some (.int (iz (wkc m sc n))), some (.int (iz (n + 1))), o4, o5, o6] [] (hx G B (m 1 0) (m 10 0) ad (cwN s m sc n)) P := by
            intro hb o4 o5 o6
            have h := ih (n + 1) o4 o5 o6 (by omega)
            have e1 : cwN s m sc (n + 1) = cwN s m sc n := by show (if wkO (wks m sc n) sc n = true then _ else _) = _; rw [wo, hb]; rfl
            have e2 : wkc m sc (n + 1) = wkc m sc n := by show (if wkO (wks m sc n) sc n = true then wkc m sc n + 1 else wkc m sc n) = _; rw [wo, hb]; rfl
            rw [e1, e2, show (((n + 1 : Nat)) : Int) = (n : Int) + 1 by omega] at h
            exact h
          have nx1 : wkB m sc n v = true → ∀ o4 o5 o6, zk_wp G 87 25 [some (.ref (ad 0)), some (.int (iz sc)), some (.int (iz (wkc m sc n + 1))), some (.int (iz (n + 1))), o4, o5, o6] [] (hx G B (m 1 0) (m 10 0) ad (csto (cbgn (cwN s m sc n) sc (12 * sc + n)) 0 sc n (cbal sc (cwN s m sc n 30 (12 * sc + n)) (cwN s m sc n 62 (12 * sc + n))) 0 0)) P := by
            intro hb o4 o5 o6
            have h := ih (n + 1) o4 o5 o6 (by omega)
            have e1 : cwN s m sc (n + 1) = csto (cbgn (cwN s m sc n) sc (12 * sc + n)) 0 sc n (cbal sc (cwN s m sc n 30 (12 * sc + n)) (cwN s m sc n 62 (12 * sc + n))) 0 0 := by show (if wkO (wks m sc n) sc n = true then _ else _) = _; rw [wo, if_pos hb]
            have e2 : wkc m sc (n + 1) = wkc m sc n + 1 := by show (if wkO (wks m sc n) sc n = true then wkc m sc n + 1 else wkc m sc n) = _; rw [wo, if_pos hb]
            rw [e1, e2, show (((n + 1 : Nat)) : Int) = (n : Int) + 1 by omega] at h
            exact h
          rw [u_87_25]
          by_cases p25 : m 25 n = 0
          · by_cases p36 : m 36 (12 * sc + n) = 0
            · have p35 : ¬ 0 < m 35 (12 * sc + n) := by have := a6.mp p36; omega
              by_cases pv : v = 2147483647
              · have nx := nx0 (by unfold wkB; rw [decide_eq_true p25, decide_eq_false p35, pv]; rfl)
                simp (disch := first | omega | assumption | (simp; done)) only [u_87_0, u_87_1, u_87_4, u_87_7, u_87_8, u_87_9, u_87_10, u_87_13, u_87_14, u_87_15, u_87_18, u_87_20, u_87_21, u_87_22, u_87_23, u_87_24, u_87_26, u_87_27, u_87_30, u_87_33, u_87_34, u_87_35, u_87_38, u_87_38N, u_87_40, u_87_41, u_87_42, u_87_43, u_87_46, u_87_46N, u_87_48, u_87_50, u_87_50N, u_87_53, u_87_55, u_87_55N, u_87_58, u_87_60, u_87_63, u_87_66, u_87_69, u_87_71, u_87_74, u_87_77, u_87_80, u_87_82, u_87_85, u_87_87, u_87_90, u_87_91, u_87_92, u_87_93, u_87_96, u_87_99, u_87_101, u_87_106, u_87_107, u_87_110, u_87_112, u_87_113, u_87_114, u_87_115, u_87_116, u_87_118, u_87_119, u_87_120, u_87_123, u_87_126, u_87_129, u_87_132, u_87_133, true_or, or_true, zk_li1_s, zk_ll1_s, zk_la1_r, zk_la1_n, zk_lg0, zk_lgs, zk_co_n, zk_co_i, zk_co_r, zk_co_u, zk_co_l, zk_l1_0, zk_l1_1, zk_l1_s, zk_l2_0, zk_l2_1, zk_l2_s, zk_sm0, zk_smi, zk_smr, zk_smn, zk_sml, zk_fi, zk_fz, zk_fo, zk_fn, zk_fa, zk_ts, zk_tn, zk_cases, true_and, and_true, List.getElem?_cons_zero, List.getElem?_cons_succ, List.length_cons, List.length_nil, Nat.reduceAdd, Nat.reduceLT, Nat.reduceLeDiff, List.set_cons_zero, List.set_cons_succ, va_rf, xi_tk hB, xg_tk_0 hB, xg_tk_1 hB, xg_tk_2 hB, xg_tk_3 hB, xg_tk_4 hB, xg_tk_5 hB, xg_tk_6 hB, xp_tk_6 hB, xg_tk_7 hB, xp_tk_7 hB, xg_tk_8 hB, xp_tk_8 hB, xg_tk_9 hB, xp_tk_9 hB, xi_jo hB, xg_jo_0 hB, xg_jo_1 hB, xg_jo_2 hB, xg_jo_3 hB, xp_jo_3 hB, xg_jo_4 hB, xp_jo_4 hB, xg_jo_5 hB, xp_jo_5 hB, xg_jo_6 hB, xp_jo_6 hB, xg_jo_7 hB, xp_jo_7 hB, xg_jo_8 hB, xp_jo_8 hB, xi_re hB, xg_re_0 hB, xg_re_1 hB, xp_re_1 hB, xg_re_2 hB, xp_re_2 hB, xg_re_3 hB, xp_re_3 hB, xg_re_4 hB, xp_re_4 hB, xg_re_5 hB, xp_re_5 hB, xi_ru hB, xg_ru_0 hB, xp_ru_0 hB, xg_ru_1 hB, xp_ru_1 hB, xg_ru_2 hB, xp_ru_2 hB, xg_ru_3 hB, xp_ru_3 hB, xg_ru_4 hB, xp_ru_4 hB, xg_ru_5 hB, xp_ru_5 hB, xg_ru_6 hB, xp_ru_6 hB, xi_rr hB, iz_lit, iz_le, iz_inj, iz_add, e10, ja, ro, e25, e36, e32, e0, f2]
                (repeat' (first | exact nx _ _ _ | apply And.intro | intro _)) <;> first | omega | (exfalso; omega) | contradiction | exact absurd trivial (by assumption) | (exfalso; simp_all; done)
              · have nx := nx1 (by unfold wkB; rw [decide_eq_true p25, decide_eq_true pv, Bool.or_true]; rfl)
                simp (disch := first | omega | assumption | (simp; done)) only [u_87_0, u_87_1, u_87_4, u_87_7, u_87_8, u_87_9, u_87_10, u_87_13, u_87_14, u_87_15, u_87_18, u_87_20, u_87_21, u_87_22, u_87_23, u_87_24, u_87_26, u_87_27, u_87_30, u_87_33, u_87_34, u_87_35, u_87_38, u_87_38N, u_87_40, u_87_41, u_87_42, u_87_43, u_87_46, u_87_46N, u_87_48, u_87_50, u_87_50N, u_87_53, u_87_55, u_87_55N, u_87_58, u_87_60, u_87_63, u_87_66, u_87_69, u_87_71, u_87_74, u_87_77, u_87_80, u_87_82, u_87_85, u_87_87, u_87_90, u_87_91, u_87_92, u_87_93, u_87_96, u_87_99, u_87_101, u_87_104, u_87_106, u_87_107, u_87_110, u_87_112, u_87_113, u_87_114, u_87_115, u_87_116, u_87_118, u_87_119, u_87_120, u_87_123, u_87_126, u_87_129, u_87_132, u_87_133, true_or, or_true, zk_li1_s, zk_ll1_s, zk_la1_r, zk_la1_n, zk_lg0, zk_lgs, zk_co_n, zk_co_i, zk_co_r, zk_co_u, zk_co_l, zk_l1_0, zk_l1_1, zk_l1_s, zk_l2_0, zk_l2_1, zk_l2_s, zk_sm0, zk_smi, zk_smr, zk_smn, zk_sml, zk_fi, zk_fz, zk_fo, zk_fn, zk_fa, zk_ts, zk_tn, zk_cases, true_and, and_true, List.getElem?_cons_zero, List.getElem?_cons_succ, List.length_cons, List.length_nil, Nat.reduceAdd, Nat.reduceLT, Nat.reduceLeDiff, List.set_cons_zero, List.set_cons_succ, va_rf, xi_tk hB, xg_tk_0 hB, xg_tk_1 hB, xg_tk_2 hB, xg_tk_3 hB, xg_tk_4 hB, xg_tk_5 hB, xg_tk_6 hB, xp_tk_6 hB, xg_tk_7 hB, xp_tk_7 hB, xg_tk_8 hB, xp_tk_8 hB, xg_tk_9 hB, xp_tk_9 hB, xi_jo hB, xg_jo_0 hB, xg_jo_1 hB, xg_jo_2 hB, xg_jo_3 hB, xp_jo_3 hB, xg_jo_4 hB, xp_jo_4 hB, xg_jo_5 hB, xp_jo_5 hB, xg_jo_6 hB, xp_jo_6 hB, xg_jo_7 hB, xp_jo_7 hB, xg_jo_8 hB, xp_jo_8 hB, xi_re hB, xg_re_0 hB, xg_re_1 hB, xp_re_1 hB, xg_re_2 hB, xp_re_2 hB, xg_re_3 hB, xp_re_3 hB, xg_re_4 hB, xp_re_4 hB, xg_re_5 hB, xp_re_5 hB, xi_ru hB, xg_ru_0 hB, xp_ru_0 hB, xg_ru_1 hB, xp_ru_1 hB, xg_ru_2 hB, xp_ru_2 hB, xg_ru_3 hB, xp_ru_3 hB, xg_ru_4 hB, xp_ru_4 hB, xg_ru_5 hB, xp_ru_5 hB, xg_ru_6 hB, xp_ru_6 hB, xi_rr hB, iz_lit, iz_le, iz_inj, iz_add, e10, ja, ro, e25, e36, e32, e0, f2, bg, st]
                (repeat' (first | exact nx _ _ _ | apply And.intro | intro _)) <;> first | omega | (exfalso; omega) | contradiction | exact absurd trivial (by assumption) | (exfalso; simp_all; done)
            · have p35 : 0 < m 35 (12 * sc + n) := by
                rcases Int.lt_or_le 0 (m 35 (12 * sc + n)) with h | h
                · exact h
                · exact absurd (a6.mpr (by omega)) p36
              have nx := nx1 (by unfold wkB; rw [decide_eq_true p25, decide_eq_true p35]; rfl)
              simp (disch := first | omega | assumption | (simp; done)) only [u_87_0, u_87_1, u_87_4, u_87_7, u_87_8, u_87_9, u_87_10, u_87_13, u_87_14, u_87_15, u_87_18, u_87_20, u_87_21, u_87_22, u_87_23, u_87_24, u_87_26, u_87_27, u_87_30, u_87_33, u_87_34, u_87_35, u_87_38, u_87_38N, u_87_40, u_87_41, u_87_42, u_87_43, u_87_46, u_87_46N, u_87_48, u_87_50, u_87_50N, u_87_53, u_87_55, u_87_55N, u_87_58, u_87_60, u_87_63, u_87_66, u_87_69, u_87_71, u_87_74, u_87_77, u_87_82, u_87_85, u_87_87, u_87_90, u_87_91, u_87_92, u_87_93, u_87_96, u_87_99, u_87_101, u_87_104, u_87_106, u_87_107, u_87_110, u_87_112, u_87_113, u_87_114, u_87_115, u_87_116, u_87_118, u_87_119, u_87_120, u_87_123, u_87_126, u_87_129, u_87_132, u_87_133, true_or, or_true, zk_li1_s, zk_ll1_s, zk_la1_r, zk_la1_n, zk_lg0, zk_lgs, zk_co_n, zk_co_i, zk_co_r, zk_co_u, zk_co_l, zk_l1_0, zk_l1_1, zk_l1_s, zk_l2_0, zk_l2_1, zk_l2_s, zk_sm0, zk_smi, zk_smr, zk_smn, zk_sml, zk_fi, zk_fz, zk_fo, zk_fn, zk_fa, zk_ts, zk_tn, zk_cases, true_and, and_true, List.getElem?_cons_zero, List.getElem?_cons_succ, List.length_cons, List.length_nil, Nat.reduceAdd, Nat.reduceLT, Nat.reduceLeDiff, List.set_cons_zero, List.set_cons_succ, va_rf, xi_tk hB, xg_tk_0 hB, xg_tk_1 hB, xg_tk_2 hB, xg_tk_3 hB, xg_tk_4 hB, xg_tk_5 hB, xg_tk_6 hB, xp_tk_6 hB, xg_tk_7 hB, xp_tk_7 hB, xg_tk_8 hB, xp_tk_8 hB, xg_tk_9 hB, xp_tk_9 hB, xi_jo hB, xg_jo_0 hB, xg_jo_1 hB, xg_jo_2 hB, xg_jo_3 hB, xp_jo_3 hB, xg_jo_4 hB, xp_jo_4 hB, xg_jo_5 hB, xp_jo_5 hB, xg_jo_6 hB, xp_jo_6 hB, xg_jo_7 hB, xp_jo_7 hB, xg_jo_8 hB, xp_jo_8 hB, xi_re hB, xg_re_0 hB, xg_re_1 hB, xp_re_1 hB, xg_re_2 hB, xp_re_2 hB, xg_re_3 hB, xp_re_3 hB, xg_re_4 hB, xp_re_4 hB, xg_re_5 hB, xp_re_5 hB, xi_ru hB, xg_ru_0 hB, xp_ru_0 hB, xg_ru_1 hB, xp_ru_1 hB, xg_ru_2 hB, xp_ru_2 hB, xg_ru_3 hB, xp_ru_3 hB, xg_ru_4 hB, xp_ru_4 hB, xg_ru_5 hB, xp_ru_5 hB, xg_ru_6 hB, xp_ru_6 hB, xi_rr hB, iz_lit, iz_le, iz_inj, iz_add, e10, ja, ro, e25, e36, bg, st]
              (repeat' (first | exact nx _ _ _ | apply And.intro | intro _)) <;> first | omega | (exfalso; omega) | contradiction | exact absurd trivial (by assumption) | (exfalso; simp_all; done)
          · have nx := nx0 (by unfold wkB; rw [decide_eq_false p25]; rfl)
            simp (disch := first | omega | assumption | (simp; done)) only [u_87_0, u_87_1, u_87_4, u_87_7, u_87_8, u_87_9, u_87_10, u_87_13, u_87_14, u_87_15, u_87_18, u_87_20, u_87_21, u_87_22, u_87_23, u_87_24, u_87_26, u_87_27, u_87_30, u_87_33, u_87_34, u_87_35, u_87_38, u_87_38N, u_87_40, u_87_41, u_87_42, u_87_43, u_87_46, u_87_46N, u_87_48, u_87_50, u_87_50N, u_87_53, u_87_55, u_87_55N, u_87_58, u_87_60, u_87_63, u_87_66, u_87_71, u_87_74, u_87_77, u_87_80, u_87_82, u_87_85, u_87_87, u_87_90, u_87_91, u_87_92, u_87_93, u_87_96, u_87_99, u_87_101, u_87_104, u_87_106, u_87_107, u_87_110, u_87_112, u_87_113, u_87_114, u_87_115, u_87_116, u_87_118, u_87_119, u_87_120, u_87_123, u_87_126, u_87_129, u_87_132, u_87_133, true_or, or_true, zk_li1_s, zk_ll1_s, zk_la1_r, zk_la1_n, zk_lg0, zk_lgs, zk_co_n, zk_co_i, zk_co_r, zk_co_u, zk_co_l, zk_l1_0, zk_l1_1, zk_l1_s, zk_l2_0, zk_l2_1, zk_l2_s, zk_sm0, zk_smi, zk_smr, zk_smn, zk_sml, zk_fi, zk_fz, zk_fo, zk_fn, zk_fa, zk_ts, zk_tn, zk_cases, true_and, and_true, List.getElem?_cons_zero, List.getElem?_cons_succ, List.length_cons, List.length_nil, Nat.reduceAdd, Nat.reduceLT, Nat.reduceLeDiff, List.set_cons_zero, List.set_cons_succ, va_rf, xi_tk hB, xg_tk_0 hB, xg_tk_1 hB, xg_tk_2 hB, xg_tk_3 hB, xg_tk_4 hB, xg_tk_5 hB, xg_tk_6 hB, xp_tk_6 hB, xg_tk_7 hB, xp_tk_7 hB, xg_tk_8 hB, xp_tk_8 hB, xg_tk_9 hB, xp_tk_9 hB, xi_jo hB, xg_jo_0 hB, xg_jo_1 hB, xg_jo_2 hB, xg_jo_3 hB, xp_jo_3 hB, xg_jo_4 hB, xp_jo_4 hB, xg_jo_5 hB, xp_jo_5 hB, xg_jo_6 hB, xp_jo_6 hB, xg_jo_7 hB, xp_jo_7 hB, xg_jo_8 hB, xp_jo_8 hB, xi_re hB, xg_re_0 hB, xg_re_1 hB, xp_re_1 hB, xg_re_2 hB, xp_re_2 hB, xg_re_3 hB, xp_re_3 hB, xg_re_4 hB, xp_re_4 hB, xg_re_5 hB, xp_re_5 hB, xi_ru hB, xg_ru_0 hB, xp_ru_0 hB, xg_ru_1 hB, xp_ru_1 hB, xg_ru_2 hB, xp_ru_2 hB, xg_ru_3 hB, xp_ru_3 hB, xg_ru_4 hB, xp_ru_4 hB, xg_ru_5 hB, xp_ru_5 hB, xg_ru_6 hB, xp_ru_6 hB, iz_lit, iz_le, iz_inj, iz_add, e10, ja, ro, e25]
            (repeat' (first | exact nx _ _ _ | apply And.intro | intro _)) <;> first | omega | (exfalso; omega) | contradiction | exact absurd trivial (by assumption) | (exfalso; simp_all; done)
      have l0 := fun o4 o5 o6 => loop (m 10 0).toNat 0 o4 o5 o6 (by omega)
      have c0 : cwN s m sc 0 = s := rfl
      rw [c0] at l0
      clear RC
      simp (disch := first | omega | assumption | (simp; done)) only [u_87_0, u_87_1, u_87_4, u_87_8, u_87_9, u_87_10, u_87_13, u_87_14, u_87_15, u_87_20, u_87_21, u_87_22, u_87_23, u_87_24, u_87_26, u_87_27, u_87_30, u_87_33, u_87_34, u_87_35, u_87_38, u_87_38N, u_87_40, u_87_41, u_87_42, u_87_43, u_87_46, u_87_46N, u_87_48, u_87_50, u_87_50N, u_87_53, u_87_55, u_87_55N, u_87_58, u_87_60, u_87_63, u_87_66, u_87_69, u_87_71, u_87_74, u_87_77, u_87_80, u_87_82, u_87_85, u_87_87, u_87_90, u_87_91, u_87_92, u_87_93, u_87_96, u_87_99, u_87_101, u_87_104, u_87_106, u_87_107, u_87_110, u_87_112, u_87_113, u_87_114, u_87_115, u_87_116, u_87_118, u_87_119, u_87_120, u_87_123, u_87_126, u_87_129, u_87_132, u_87_133, true_or, or_true, zk_li1_s, zk_ll1_s, zk_la1_r, zk_la1_n, zk_lg0, zk_lgs, zk_co_n, zk_co_i, zk_co_r, zk_co_u, zk_co_l, zk_l1_0, zk_l1_1, zk_l1_s, zk_l2_0, zk_l2_1, zk_l2_s, zk_sm0, zk_smi, zk_smr, zk_smn, zk_sml, zk_fi, zk_fz, zk_fo, zk_fn, zk_fa, zk_ts, zk_tn, zk_cases, true_and, and_true, List.getElem?_cons_zero, List.getElem?_cons_succ, List.length_cons, List.length_nil, Nat.reduceAdd, Nat.reduceLT, Nat.reduceLeDiff, List.set_cons_zero, List.set_cons_succ, va_rf, xi_tk hB, xg_tk_0 hB, xg_tk_1 hB, xg_tk_2 hB, xg_tk_3 hB, xg_tk_4 hB, xg_tk_5 hB, xg_tk_6 hB, xp_tk_6 hB, xg_tk_7 hB, xp_tk_7 hB, xg_tk_8 hB, xp_tk_8 hB, xg_tk_9 hB, xp_tk_9 hB, xz_sd hB, xw_sd hB, iz_lit, iz_neg, iz_inj, im, e42]
      (repeat' (first | exact l0 _ _ _ | apply And.intro | intro _)) <;> first | omega | (exfalso; omega) | contradiction | exact absurd trivial (by assumption) | (exfalso; simp_all; done)
    · rw [if_neg c2, if_neg (fun q => c2 q.2)]
      refine CC_q hB hR (fun Q => zk_eq ?_ Q)
      simp (disch := first | omega | assumption | (simp; done)) only [u_87_0, u_87_1, u_87_4, u_87_8, u_87_9, u_87_10, u_87_13, u_87_14, u_87_15, u_87_18, u_87_20, u_87_22, u_87_23, u_87_24, u_87_25, u_87_26, u_87_27, u_87_30, u_87_33, u_87_34, u_87_35, u_87_38, u_87_38N, u_87_40, u_87_41, u_87_42, u_87_43, u_87_46, u_87_46N, u_87_48, u_87_50, u_87_50N, u_87_53, u_87_55, u_87_55N, u_87_58, u_87_60, u_87_63, u_87_66, u_87_69, u_87_71, u_87_74, u_87_77, u_87_80, u_87_82, u_87_85, u_87_87, u_87_90, u_87_91, u_87_92, u_87_93, u_87_96, u_87_99, u_87_101, u_87_104, u_87_106, u_87_107, u_87_110, u_87_112, u_87_113, u_87_114, u_87_115, u_87_116, u_87_118, u_87_119, u_87_120, u_87_123, u_87_126, u_87_129, u_87_132, u_87_133, true_or, or_true, zk_li1_s, zk_ll1_s, zk_la1_r, zk_la1_n, zk_lg0, zk_lgs, zk_co_n, zk_co_i, zk_co_r, zk_co_u, zk_co_l, zk_l1_0, zk_l1_1, zk_l1_s, zk_l2_0, zk_l2_1, zk_l2_s, zk_sm0, zk_smi, zk_smr, zk_smn, zk_sml, zk_fi, zk_fz, zk_fo, zk_fn, zk_fa, zk_ts, zk_tn, zk_cases, true_and, and_true, List.getElem?_cons_zero, List.getElem?_cons_succ, List.length_cons, List.length_nil, Nat.reduceAdd, Nat.reduceLT, Nat.reduceLeDiff, List.set_cons_zero, List.set_cons_succ, va_rf, xi_tk hB, xg_tk_0 hB, xg_tk_1 hB, xg_tk_2 hB, xg_tk_3 hB, xg_tk_4 hB, xg_tk_5 hB, xg_tk_6 hB, xp_tk_6 hB, xg_tk_7 hB, xp_tk_7 hB, xg_tk_8 hB, xp_tk_8 hB, xg_tk_9 hB, xp_tk_9 hB, xz_sd hB, xw_sd hB, iz_lit, iz_neg, iz_inj, im, e42]
      all_goals ((repeat' (first | exact trivial | exact ⟨rfl, rfl⟩ | rfl | apply And.intro | intro _)) <;> first | omega | (exfalso; omega) | contradiction | (exfalso; simp_all; done) | trace_state)
  · rw [if_neg c, if_neg (fun q => c q.1)]
    rw [if_neg (by omega)] at im
    refine CC_q hB hR (fun Q => zk_eq ?_ Q)
    simp (disch := first | omega | assumption | (simp; done)) only [u_87_0, u_87_1, u_87_4, u_87_7, u_87_8, u_87_10, u_87_13, u_87_14, u_87_15, u_87_18, u_87_20, u_87_21, u_87_22, u_87_23, u_87_24, u_87_25, u_87_26, u_87_27, u_87_30, u_87_33, u_87_34, u_87_35, u_87_38, u_87_38N, u_87_40, u_87_41, u_87_42, u_87_43, u_87_46, u_87_46N, u_87_48, u_87_50, u_87_50N, u_87_53, u_87_55, u_87_55N, u_87_58, u_87_60, u_87_63, u_87_66, u_87_69, u_87_71, u_87_74, u_87_77, u_87_80, u_87_82, u_87_85, u_87_87, u_87_90, u_87_91, u_87_92, u_87_93, u_87_96, u_87_99, u_87_101, u_87_104, u_87_106, u_87_107, u_87_110, u_87_112, u_87_113, u_87_114, u_87_115, u_87_116, u_87_118, u_87_119, u_87_120, u_87_123, u_87_126, u_87_129, u_87_132, u_87_133, true_or, or_true, zk_li1_s, zk_ll1_s, zk_la1_r, zk_la1_n, zk_lg0, zk_lgs, zk_co_n, zk_co_i, zk_co_r, zk_co_u, zk_co_l, zk_l1_0, zk_l1_1, zk_l1_s, zk_l2_0, zk_l2_1, zk_l2_s, zk_sm0, zk_smi, zk_smr, zk_smn, zk_sml, zk_fi, zk_fz, zk_fo, zk_fn, zk_fa, zk_ts, zk_tn, zk_cases, true_and, and_true, List.getElem?_cons_zero, List.getElem?_cons_succ, List.length_cons, List.length_nil, Nat.reduceAdd, Nat.reduceLT, Nat.reduceLeDiff, List.set_cons_zero, List.set_cons_succ, va_rf, iz_lit, iz_neg, iz_inj, im]
    all_goals ((repeat' (first | exact trivial | exact ⟨rfl, rfl⟩ | rfl | apply And.intro | intro _)) <;> first | omega | (exfalso; omega) | contradiction | (exfalso; simp_all; done) | trace_state)
end CRA
