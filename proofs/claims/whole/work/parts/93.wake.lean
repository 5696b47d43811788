/-! the class's wake, crash, lose, twin -/
theorem msnd_51 {m : mS} (kd fr to j b a u g : Int) : msnd m kd fr to j b a u g 51 0 = if m 53 0 = 60 then m 51 0 + 1 else m 51 0 := by
  unfold msnd
  split
  · rw [up_e]
  · simp (disch := first | omega | assumption | (simp; done)) only [up_k]
theorem REL_st1 {s m : mS} (hR : REL s m) (hs : 0 ≤ m 53 0 ∧ m 53 0 ≤ 60) (h51 : m 51 0 ≤ 2000000000) (kd fr j b a g to : Int) (v1 : -2147483648 ≤ kd ∧ kd ≤ 2147483647) (v2 : -2147483648 ≤ fr ∧ fr ≤ 2147483647) (v3 : -2147483648 ≤ to ∧ to ≤ 2147483647) (v4 : -2147483648 ≤ j ∧ j ≤ 2147483647) (v5 : -2147483648 ≤ b ∧ b ≤ 2147483647) (v6 : -2147483648 ≤ a ∧ a ≤ 2147483647) (v8 : -2147483648 ≤ g ∧ g ≤ 2147483647) : REL (cst1 s kd fr j b a g to) (mst1 m kd fr j b a g to) ∧ mst1 m kd fr j b a g to 51 0 ≤ m 51 0 + 1 := by
  unfold cst1 mst1
  by_cases c : to = fr
  · rw [if_pos c, if_pos c]; exact ⟨hR, by omega⟩
  · rw [if_neg c, if_neg c]
    refine ⟨REL_snd hR hs h51 _ _ _ _ _ _ _ _ v1 v2 v3 v4 v5 v6 (by omega) v8, ?_⟩
    rw [msnd_51]; split <;> omega
theorem REL_sto {s m : mS} (hR : REL s m) (hs : 0 ≤ m 53 0 ∧ m 53 0 ≤ 60) (h51 : m 51 0 ≤ 1900000000) (kd fr j b a g : Int) (v1 : -2147483648 ≤ kd ∧ kd ≤ 2147483647) (v2 : -2147483648 ≤ fr ∧ fr ≤ 2147483647) (v4 : -2147483648 ≤ j ∧ j ≤ 2147483647) (v5 : -2147483648 ≤ b ∧ b ≤ 2147483647) (v6 : -2147483648 ≤ a ∧ a ≤ 2147483647) (v8 : -2147483648 ≤ g ∧ g ≤ 2147483647) : REL (csto s kd fr j b a g) (msto m kd fr j b a g) ∧ msto m kd fr j b a g 51 0 ≤ m 51 0 + 3 := by
  obtain ⟨a1, b1⟩ := REL_st1 hR hs (by omega) kd fr j b a g 0 v1 v2 (by omega) v4 v5 v6 v8
  obtain ⟨a2, b2⟩ := REL_st1 a1 (mst1_sz hs _ _ _ _ _ _ _) (by omega) kd fr j b a g 1 v1 v2 (by omega) v4 v5 v6 v8
  obtain ⟨a3, b3⟩ := REL_st1 a2 (mst1_sz (mst1_sz hs _ _ _ _ _ _ _) _ _ _ _ _ _ _) (by omega) kd fr j b a g 2 v1 v2 (by omega) v4 v5 v6 v8
  refine ⟨a3, ?_⟩
  show mst1 (mst1 (mst1 m kd fr j b a g 0) kd fr j b a g 1) kd fr j b a g 2 51 0 ≤ _
  omega
theorem bal_eq (sc p r q : Int) (hs : 0 ≤ sc ∧ sc < 3) (h : max r p = max q p) : cbal sc p r = mbal sc (max q p) := by
  unfold cbal mbal
  rw [show max p r = max q p by omega]
  generalize max q p = a
  split <;> omega
theorem REL_bg0 {s m : mS} (hR : REL s m) (i b : Int) (hi : 0 ≤ i ∧ i < 36) (hb : 0 ≤ b ∧ b ≤ 100000) (h62 : s 62 i ≤ b) : REL (cbeg (up s 30 i b) i b (s 31 i) (s 32 i) (s 33 i)) (mbg0 m i b) := by
  have r7 := hR.2.2.2.2.2.2
  have e31 := hR.1 31 i rfl
  have e32 := hR.1 32 i rfl
  have e33 := hR.1 33 i rfl
  have ks : ∀ k z, k ≠ 30 → k ≠ 35 → k ≠ 36 → k ≠ 63 → k ≠ 64 → k ≠ 65 → k ≠ 66 → cbeg (up s 30 i b) i b (s 31 i) (s 32 i) (s 33 i) k z = s k z := fun k z a1 a2 a3 a4 a5 a6 a7 => by
    unfold cbeg
    rw [up_k _ _ _ _ a7, up_k _ _ _ _ a6, up_k _ _ _ _ a5, up_k _ _ _ _ a4, up_k _ _ _ _ a2, up_k _ _ _ _ a3, up_k _ _ _ _ a1]
  have kz : ∀ k z, z ≠ i → cbeg (up s 30 i b) i b (s 31 i) (s 32 i) (s 33 i) k z = s k z := fun k z hz => by
    unfold cbeg
    rw [up_ne _ _ (fun q => hz q.2), up_ne _ _ (fun q => hz q.2), up_ne _ _ (fun q => hz q.2), up_ne _ _ (fun q => hz q.2), up_ne _ _ (fun q => hz q.2), up_ne _ _ (fun q => hz q.2), up_ne _ _ (fun q => hz q.2)]
  have c30 : cbeg (up s 30 i b) i b (s 31 i) (s 32 i) (s 33 i) 30 i = b := by unfold cbeg; repeat (first | rw [up_e] | rw [up_k _ _ _ _ (by decide)])
  have c35 : cbeg (up s 30 i b) i b (s 31 i) (s 32 i) (s 33 i) 35 i = b := by unfold cbeg; repeat (first | rw [up_e] | rw [up_k _ _ _ _ (by decide)])
  have c36 : cbeg (up s 30 i b) i b (s 31 i) (s 32 i) (s 33 i) 36 i = 1 := by unfold cbeg; repeat (first | rw [up_e] | rw [up_k _ _ _ _ (by decide)])
  have c63 : cbeg (up s 30 i b) i b (s 31 i) (s 32 i) (s 33 i) 63 i = s 31 i := by unfold cbeg; repeat (first | rw [up_e] | rw [up_k _ _ _ _ (by decide)])
  have c64 : cbeg (up s 30 i b) i b (s 31 i) (s 32 i) (s 33 i) 64 i = s 32 i := by unfold cbeg; repeat (first | rw [up_e] | rw [up_k _ _ _ _ (by decide)])
  have c65 : cbeg (up s 30 i b) i b (s 31 i) (s 32 i) (s 33 i) 65 i = s 33 i := by unfold cbeg; repeat (first | rw [up_e] | rw [up_k _ _ _ _ (by decide)])
  have c66 : cbeg (up s 30 i b) i b (s 31 i) (s 32 i) (s 33 i) 66 i = 2147483647 := by unfold cbeg; repeat (first | rw [up_e] | rw [up_k _ _ _ _ (by decide)])
  have d30 : mbg0 m i b 30 i = b := by unfold mbg0; repeat (first | rw [up_e] | rw [up_k _ _ _ _ (by decide)])
  have d34 : mbg0 m i b 34 i = b := by unfold mbg0; repeat (first | rw [up_e] | rw [up_k _ _ _ _ (by decide)])
  have d35 : mbg0 m i b 35 i = b := by unfold mbg0; repeat (first | rw [up_e] | rw [up_k _ _ _ _ (by decide)])
  have d36 : mbg0 m i b 36 i = 1 := by unfold mbg0; repeat (first | rw [up_e] | rw [up_k _ _ _ _ (by decide)])
  have d37 : mbg0 m i b 37 i = m 31 i := by unfold mbg0; repeat (first | rw [up_e] | rw [up_k _ _ _ _ (by decide)])
  have d38 : mbg0 m i b 38 i = m 32 i := by unfold mbg0; repeat (first | rw [up_e] | rw [up_k _ _ _ _ (by decide)])
  have d39 : mbg0 m i b 39 i = m 33 i := by unfold mbg0; repeat (first | rw [up_e] | rw [up_k _ _ _ _ (by decide)])
  have d40 : mbg0 m i b 40 i = -9 := by unfold mbg0; repeat (first | rw [up_e] | rw [up_k _ _ _ _ (by decide)])
  refine REL_prot hR (fun k z q => ks k z (by unfold pk at q; omega) (by unfold pk at q; omega) (by unfold pk at q; omega) (by unfold pk at q; omega) (by unfold pk at q; omega) (by unfold pk at q; omega) (by unfold pk at q; omega)) (fun k z q => mbg0_k m i b k z (by unfold pk at q; omega)) ?_ ?_ ?_ ?_
  · intro k z _ hk
    by_cases cz : z = i
    · subst cz
      by_cases k30 : k = 30
      · subst k30; rw [c30, d30]
      by_cases k35 : k = 35
      · subst k35; rw [c35, d35]
      by_cases k36 : k = 36
      · subst k36; rw [c36, d36]
      have hk2 : k < 30 ∨ (31 ≤ k ∧ k ≤ 33) ∨ 42 ≤ k := by
        unfold shd at hk
        simp at hk
        omega
      have n63 : k ≠ 63 := by intro e; rw [e] at hk; revert hk; decide
      have n64 : k ≠ 64 := by intro e; rw [e] at hk; revert hk; decide
      have n65 : k ≠ 65 := by intro e; rw [e] at hk; revert hk; decide
      have n66 : k ≠ 66 := by intro e; rw [e] at hk; revert hk; decide
      rw [ks k z k30 k35 k36 n63 n64 n65 n66, mbg0_k m z b k z hk2]
      exact hR.1 k z hk
    · rw [kz k z cz, mbg0_z m i b k z cz]
      exact hR.1 k z hk
  · intro z a c
    rw [mbg0_k m i b 53 0 (by omega)] at c
    rw [ks 54 z (by decide) (by decide) (by decide) (by decide) (by decide) (by decide) (by decide), mbg0_k m i b 54 z (by omega)]
    exact hR.2.1 z a c
  · intro i' i1 i2
    obtain ⟨a, b', c, d⟩ := hR.2.2.1 i' i1 i2
    have e62 := ks 62 i' (by decide) (by decide) (by decide) (by decide) (by decide) (by decide) (by decide)
    refine ⟨?_, ?_, by rw [e62]; exact c, by rw [e62, mbg0_k m i b 10 0 (by omega)]; exact d⟩
    · by_cases ci : i' = i
      · subst ci
        unfold runR
        rw [d36, c63, c64, c65, c66, d37, d38, d39, d40, e31, e32, e33]
        exact ⟨fun q => absurd q (by omega), fun _ => ⟨rfl, rfl, rfl, rfl, rfl⟩, fun q => absurd q (by omega)⟩
      · exact runR_of a (fun k k1 k2 => kz k i' ci) (fun k k1 k2 => mbg0_z m i b k i' ci)
    · rw [e62]
      by_cases ci : i' = i
      · subst ci
        rw [d30, d34]
        omega
      · rw [mbg0_z m i b 30 i' ci, mbg0_z m i b 34 i' ci]
        exact b'
  · unfold cbeg
    exact rg_up (rg_up (rg_up (rg_up (rg_up (rg_up (rg_up r7 _ _ (by omega)) _ _ (by omega)) _ _ (by omega)) _ _ (rg_of r7 31 i)) _ _ (rg_of r7 32 i)) _ _ (rg_of r7 33 i)) _ _ (by omega)
theorem mbal_r (sc a : Int) (hs : 0 ≤ sc ∧ sc < 3) (ha : 0 ≤ a) : a < mbal sc a ∧ 3 ≤ mbal sc a ∧ mbal sc a ≤ max 5 (a + 3) := by
  unfold mbal; split <;> omega
theorem REL_bgn {s m : mS} (hR : REL s m) (sc j : Int) (hsc : 0 ≤ sc ∧ sc < 3) (hj : 0 ≤ j ∧ j < 12) (hs : 0 ≤ m 53 0 ∧ m 53 0 ≤ 60) (h51 : m 51 0 ≤ 1900000000) (h30 : 0 ≤ m 30 (12 * sc + j) ∧ m 30 (12 * sc + j) ≤ 90000) (h34 : 0 ≤ m 34 (12 * sc + j) ∧ m 34 (12 * sc + j) ≤ 90000) : REL (csto (cbgn s sc (12 * sc + j)) 0 sc j (cbal sc (s 30 (12 * sc + j)) (s 62 (12 * sc + j))) 0 0) (mbgn m sc j) ∧ mbgn m sc j 51 0 ≤ m 51 0 + 3 := by
  obtain ⟨-, b', c', -⟩ := hR.2.2.1 (12 * sc + j) (by omega) (by omega)
  have e30 := hR.1 30 (12 * sc + j) rfl
  have be := bal_eq sc (m 30 (12 * sc + j)) (s 62 (12 * sc + j)) (m 34 (12 * sc + j)) hsc b'
  have mr := mbal_r sc (max (m 34 (12 * sc + j)) (m 30 (12 * sc + j))) hsc (by omega)
  unfold cbgn mbgn
  rw [e30, be]
  generalize mbal sc (max (m 34 (12 * sc + j)) (m 30 (12 * sc + j))) = b at *
  have R0 := REL_bg0 hR (12 * sc + j) b (by omega) (by omega) (by omega)
  have e53 : mbg0 m (12 * sc + j) b 53 0 = m 53 0 := mbg0_k _ _ _ _ _ (by omega)
  have e51 : mbg0 m (12 * sc + j) b 51 0 = m 51 0 := mbg0_k _ _ _ _ _ (by omega)
  have := REL_sto R0 (by rw [e53]; exact hs) (by rw [e51]; exact h51) 0 sc j b 0 0 (by omega) (by omega) (by omega) (by omega) (by omega) (by omega)
  rw [e51] at this
  exact this
theorem REL_forget {s m : mS} (hR : REL s m) (i : Int) : REL (cend (up s 62 i 0) i) (up (mend m i) 34 i 0) := by
  have h0 : REL (up s 62 i 0) (up m 34 i 0) := by
    refine REL_prot hR (fun k z q => up_k _ _ _ _ (by unfold pk at q; omega)) (fun k z q => up_k _ _ _ _ (by unfold pk at q; omega)) ?_ ?_ ?_ (rg_up hR.2.2.2.2.2.2 _ _ (by omega))
    · intro k z _ hk
      rw [up_k _ _ _ _ (by intro e; rw [e] at hk; revert hk; decide), up_k _ _ _ _ (by intro e; rw [e] at hk; revert hk; decide)]
      exact hR.1 k z hk
    · intro z a b
      rw [up_k _ _ _ _ (by decide)] at b
      rw [up_k _ _ _ _ (by decide), up_k _ _ _ _ (by decide)]
      exact hR.2.1 z a b
    · intro i' i1 i2
      obtain ⟨a, b, c, d⟩ := hR.2.2.1 i' i1 i2
      refine ⟨runR_of a (fun k k1 k2 => up_k _ _ _ _ (by omega)) (fun k k1 k2 => up_k _ _ _ _ (by omega)), ?_, ?_, ?_⟩
      · rw [up_z, up_z, up_k _ _ _ _ (by decide)]
        split
        · rfl
        · exact b
      · rw [up_z]; split
        · omega
        · exact c
      · intro q
        rw [up_k _ _ _ _ (by decide)] at q
        rw [up_z]; split
        · rfl
        · exact d q
  have h1 := REL_end h0 i
  have e : mend (up m 34 i 0) i = up (mend m i) 34 i 0 := by
    funext k z
    unfold mend up
    by_cases c34 : k = 34
    · simp [c34]
    by_cases c35 : k = 35
    · simp [c35]
    by_cases c36 : k = 36
    · simp [c36]
    by_cases c40 : k = 40
    · simp [c40]
    simp [c34, c35, c36, c40]
  rw [e] at h1
  exact h1
section WKE
variable {G : zk_G} {B : zk_H} {ad : Int → Nat} {s m : mS}
theorem k_lose (hB : hxo G B (m 1 0) (m 10 0) ad) (hR : REL s m) (hM : MC m) (hP : MP m) (i : Int) (hi : -2147483648 ≤ i ∧ i ≤ 2147483647) : CC G B ad s m 100 [some (.int (iz i)), none] (if 0 ≤ i ∧ i < m 53 0 then m 54 (8 * i) else -1) (if 0 ≤ i ∧ i < m 53 0 then mrem m i else m) := by
  have hc := rel_cI hR hM
  have hs := hP.2.1
  have e53 := rel_k hR 53 0
  by_cases c : 0 ≤ i ∧ i < m 53 0
  · rw [if_pos c, if_pos c]
    obtain ⟨B', ad', x1, x2, x3⟩ := c_take hB hc (by rw [e53]; exact hs) i (by rw [e53]; exact c)
    obtain ⟨R1, R2⟩ := REL_take hR hs c
    have k1 : mrem m i 1 0 = m 1 0 := by unfold mrem mrl; rw [if_neg (by omega), if_neg (by omega), if_neg (by omega)]
    have k10 : mrem m i 10 0 = m 10 0 := by unfold mrem mrl; rw [if_neg (by omega), if_neg (by omega), if_neg (by omega)]
    have hB' := x1.1
    have o1 := xg_le_0 hB' (ctak s i) 61 (by omega)
    have e0 := R2 0 (by omega) (by omega)
    rw [Int.add_zero] at e0
    have e1 : mrem m i 55 0 = m 54 (8 * i) := by unfold mrem mrl; rw [if_neg (by omega), if_neg (by omega), if_pos ⟨rfl, by omega, by omega⟩, Int.add_zero]
    rw [e0, e1] at o1
    refine CC_x (by rw [show cs (ctak s i) = cs s from cs_of (fun z => ctak_k _ _ _ _ (by decide) (by decide)), Int.sub_self]; exact x1) (x2 0 (by omega)) R1 k1 k10 (fun Q => zk_eq ?_ Q)
    simp (disch := first | omega | assumption | (simp; done)) only [u_100_0, u_100_1, u_100_4, u_100_5, u_100_8, u_100_8N, u_100_9, u_100_10, u_100_10N, u_100_14, u_100_17, u_100_18, u_100_21, true_or, or_true, zk_li1_s, zk_ll1_s, zk_la1_r, zk_la1_n, zk_lg0, zk_lgs, zk_co_n, zk_co_i, zk_co_r, zk_co_u, zk_co_l, zk_l1_0, zk_l1_1, zk_l1_s, zk_l2_0, zk_l2_1, zk_l2_s, zk_sm0, zk_smi, zk_smr, zk_smn, zk_sml, zk_fi, zk_fz, zk_fo, zk_fn, zk_fa, zk_ts, zk_tn, zk_cases, true_and, and_true, List.getElem?_cons_zero, List.getElem?_cons_succ, List.length_cons, List.length_nil, Nat.reduceAdd, Nat.reduceLT, Nat.reduceLeDiff, List.set_cons_zero, List.set_cons_succ, va_rf, xi_tk hB, xg_tk_0 hB, xg_tk_1 hB, xg_tk_2 hB, xg_tk_3 hB, xg_tk_4 hB, xg_tk_5 hB, xg_tk_6 hB, xp_tk_6 hB, xg_tk_7 hB, xp_tk_7 hB, xg_tk_8 hB, xp_tk_8 hB, xg_tk_9 hB, xp_tk_9 hB, xi_ls hB, iz_lit, x3, o1]
    all_goals ((repeat' (first | exact trivial | exact ⟨rfl, rfl⟩ | rfl | apply And.intro | intro _)) <;> first | omega | (exfalso; omega) | contradiction | (exfalso; simp_all; done) | trace_state)
  · rw [if_neg c, if_neg c]
    have la := c_take0 hB s (by rw [e53]; exact hs) i hi (by rw [e53]; exact c)
    refine CC_q hB hR (fun Q => zk_eq ?_ Q)
    simp (disch := first | omega | assumption | (simp; done)) only [u_100_0, u_100_1, u_100_4, u_100_5, u_100_8, u_100_8N, u_100_9, u_100_10, u_100_10N, u_100_13, u_100_14, u_100_18, u_100_21, true_or, or_true, zk_li1_s, zk_ll1_s, zk_la1_r, zk_la1_n, zk_lg0, zk_lgs, zk_co_n, zk_co_i, zk_co_r, zk_co_u, zk_co_l, zk_l1_0, zk_l1_1, zk_l1_s, zk_l2_0, zk_l2_1, zk_l2_s, zk_sm0, zk_smi, zk_smr, zk_smn, zk_sml, zk_fi, zk_fz, zk_fo, zk_fn, zk_fa, zk_ts, zk_tn, zk_cases, true_and, and_true, List.getElem?_cons_zero, List.getElem?_cons_succ, List.length_cons, List.length_nil, Nat.reduceAdd, Nat.reduceLT, Nat.reduceLeDiff, List.set_cons_zero, List.set_cons_succ, va_rf, xi_tk hB, xg_tk_0 hB, xg_tk_1 hB, xg_tk_2 hB, xg_tk_3 hB, xg_tk_4 hB, xg_tk_5 hB, xg_tk_6 hB, xp_tk_6 hB, xg_tk_7 hB, xp_tk_7 hB, xg_tk_8 hB, xp_tk_8 hB, xg_tk_9 hB, xp_tk_9 hB, xi_ls hB, iz_lit, iz_neg, la]
    all_goals ((repeat' (first | exact trivial | exact ⟨rfl, rfl⟩ | rfl | apply And.intro | intro _)) <;> first | omega | (exfalso; omega) | contradiction | (exfalso; simp_all; done) | trace_state)
theorem twin_eq {m : mS} {i : Int} (hs : 0 ≤ m 53 0 ∧ m 53 0 < 60) : up (mtw m i 8) 53 0 (m 53 0 + 1) = msnd m (m 54 (8 * i)) (m 54 (8 * i + 1)) (m 54 (8 * i + 2)) (m 54 (8 * i + 3)) (m 54 (8 * i + 4)) (m 54 (8 * i + 5)) (m 54 (8 * i + 6)) (m 54 (8 * i + 7)) := by
  funext k z
  by_cases c54 : k = 54
  · subst c54
    rw [up_k _ _ _ _ (by decide), msnd_54 (by omega)]
    unfold mtw
    by_cases c : 8 * m 53 0 ≤ z ∧ z < 8 * m 53 0 + 8
    · rw [if_pos ⟨rfl, c⟩]
      have : z = 8 * m 53 0 ∨ z = 8 * m 53 0 + 1 ∨ z = 8 * m 53 0 + 2 ∨ z = 8 * m 53 0 + 3 ∨ z = 8 * m 53 0 + 4 ∨ z = 8 * m 53 0 + 5 ∨ z = 8 * m 53 0 + 6 ∨ z = 8 * m 53 0 + 7 := by omega
      rcases this with q | q | q | q | q | q | q | q
      · rw [if_pos q]; congr 1; omega
      · rw [if_neg (by omega), if_pos q]; congr 1; omega
      · rw [if_neg (by omega), if_neg (by omega), if_pos q]; congr 1; omega
      · rw [if_neg (by omega), if_neg (by omega), if_neg (by omega), if_pos q]; congr 1; omega
      · rw [if_neg (by omega), if_neg (by omega), if_neg (by omega), if_neg (by omega), if_pos q]; congr 1; omega
      · rw [if_neg (by omega), if_neg (by omega), if_neg (by omega), if_neg (by omega), if_neg (by omega), if_pos q]; congr 1; omega
      · rw [if_neg (by omega), if_neg (by omega), if_neg (by omega), if_neg (by omega), if_neg (by omega), if_neg (by omega), if_pos q]; congr 1; omega
      · rw [if_neg (by omega), if_neg (by omega), if_neg (by omega), if_neg (by omega), if_neg (by omega), if_neg (by omega), if_neg (by omega), if_pos q]; congr 1; omega
    · rw [if_neg (fun q => c q.2), if_neg (by omega), if_neg (by omega), if_neg (by omega), if_neg (by omega), if_neg (by omega), if_neg (by omega), if_neg (by omega), if_neg (by omega)]
  · by_cases c53 : k = 53
    · subst c53
      unfold msnd
      rw [if_neg (by omega), up_z, up_z]
      split
      · rfl
      · simp (disch := first | omega | assumption | (simp; done)) only [up_k]
        unfold mtw
        rw [if_neg (by omega)]
    · rw [up_k _ _ _ _ c53]
      have e : mtw m i 8 k z = m k z := by unfold mtw; rw [if_neg (fun q => c54 q.1)]
      rw [e]
      unfold msnd
      rw [if_neg (by omega), up_k _ _ _ _ c53, up_k _ _ _ _ c54, up_k _ _ _ _ c54, up_k _ _ _ _ c54, up_k _ _ _ _ c54, up_k _ _ _ _ c54, up_k _ _ _ _ c54, up_k _ _ _ _ c54, up_k _ _ _ _ c54]
theorem k_twin (hB : hxo G B (m 1 0) (m 10 0) ad) (hR : REL s m) (hM : MC m) (hP : MP m) (h51 : m 51 0 ≤ 1900000000) (i : Int) (hi : -2147483648 ≤ i ∧ i ≤ 2147483647) : CC G B ad s m 101 [some (.int (iz i)), none, none] (v_twin m i) (f_twin m i) := by
  have hc := rel_cI hR hM
  have hs := hP.2.1
  have e53 := rel_k hR 53 0
  have r7 := hR.2.2.2.2.2.2
  unfold v_twin f_twin
  by_cases c : 0 ≤ i ∧ i < m 53 0
  · rw [if_pos c]
    have la := c_latt hB s (by rw [e53]; exact hs) i (by rw [e53]; exact c)
    by_cases c2 : m 53 0 = 60
    · rw [if_pos c2, if_neg (fun q => q.2 c2)]
      refine CC_q hB hR (fun Q => zk_eq ?_ Q)
      simp (disch := first | omega | assumption | (simp; done)) only [u_101_0, u_101_1, u_101_4, u_101_5, u_101_8, u_101_8N, u_101_9, u_101_10, u_101_10N, u_101_14, u_101_15, u_101_16, u_101_19, u_101_22, u_101_24, u_101_27, u_101_29, u_101_31, u_101_34, u_101_35, u_101_38, u_101_39, u_101_42, u_101_43, u_101_46, u_101_47, u_101_50, u_101_53, u_101_53N, u_101_54, u_101_55, u_101_56, u_101_59, u_101_60, u_101_63, u_101_64, u_101_67, u_101_68, u_101_71, u_101_74, u_101_75, u_101_78, u_101_81, true_or, or_true, zk_li1_s, zk_ll1_s, zk_la1_r, zk_la1_n, zk_lg0, zk_lgs, zk_co_n, zk_co_i, zk_co_r, zk_co_u, zk_co_l, zk_l1_0, zk_l1_1, zk_l1_s, zk_l2_0, zk_l2_1, zk_l2_s, zk_sm0, zk_smi, zk_smr, zk_smn, zk_sml, zk_fi, zk_fz, zk_fo, zk_fn, zk_fa, zk_ts, zk_tn, zk_cases, true_and, and_true, List.getElem?_cons_zero, List.getElem?_cons_succ, List.length_cons, List.length_nil, Nat.reduceAdd, Nat.reduceLT, Nat.reduceLeDiff, List.set_cons_zero, List.set_cons_succ, va_rf, xi_tk hB, xg_tk_0 hB, xg_tk_1 hB, xg_tk_2 hB, xg_tk_3 hB, xg_tk_4 hB, xg_tk_5 hB, xg_tk_6 hB, xp_tk_6 hB, xg_tk_7 hB, xp_tk_7 hB, xg_tk_8 hB, xp_tk_8 hB, xg_tk_9 hB, xp_tk_9 hB, xi_ls hB, xg_ls_0 hB, xg_ls_1 hB, xg_ls_2 hB, xg_ls_3 hB, xp_ls_3 hB, xg_ls_4 hB, xp_ls_4 hB, iz_lit, iz_neg, iz_lt, la, e53]
      all_goals ((repeat' (first | exact trivial | exact ⟨rfl, rfl⟩ | rfl | apply And.intro | intro _)) <;> first | omega | (exfalso; omega) | contradiction | (exfalso; simp_all; done) | trace_state)
    · rw [if_neg c2, if_pos ⟨c, c2⟩, twin_eq (by omega)]
      have f0 := hR.2.1 (8 * i) (by omega) (by omega)
      have f1 := hR.2.1 (8 * i + 1) (by omega) (by omega)
      have f2 := hR.2.1 (8 * i + 2) (by omega) (by omega)
      have f3 := hR.2.1 (8 * i + 3) (by omega) (by omega)
      have f4 := hR.2.1 (8 * i + 4) (by omega) (by omega)
      have f5 := hR.2.1 (8 * i + 5) (by omega) (by omega)
      have f6 := hR.2.1 (8 * i + 6) (by omega) (by omega)
      have f7 := hR.2.1 (8 * i + 7) (by omega) (by omega)
      have RS := REL_snd hR hs (by omega) (m 54 (8 * i)) (m 54 (8 * i + 1)) (m 54 (8 * i + 2)) (m 54 (8 * i + 3)) (m 54 (8 * i + 4)) (m 54 (8 * i + 5)) (m 54 (8 * i + 6)) (m 54 (8 * i + 7)) (rg_of hM.1 54 _) (rg_of hM.1 54 _) (rg_of hM.1 54 _) (rg_of hM.1 54 _) (rg_of hM.1 54 _) (rg_of hM.1 54 _) (rg_of hM.1 54 _) (rg_of hM.1 54 _)
      have ps := c_post hB s (by rw [e53]; exact hs) (m 54 (8 * i)) (m 54 (8 * i + 1)) (m 54 (8 * i + 2)) (m 54 (8 * i + 3))
      have cr : cri s = m 53 0 := by unfold cri; rw [e53, if_pos (by omega)]
      have sy := c_say hB (cps s (m 54 (8 * i)) (m 54 (8 * i + 1)) (m 54 (8 * i + 2)) (m 54 (8 * i + 3))) (cri s) (by omega) (m 54 (8 * i + 4)) (m 54 (8 * i + 5)) (m 54 (8 * i + 6)) (m 54 (8 * i + 7))
      have rd : ∀ k, 4 ≤ k → k < 8 → cps s (m 54 (8 * i)) (m 54 (8 * i + 1)) (m 54 (8 * i + 2)) (m 54 (8 * i + 3)) 54 (8 * i + k) = m 54 (8 * i + k) := by
        intro k k4 k8
        unfold cps cad
        rw [e53, if_pos (by omega), up_ne _ _ (by omega), up_ne _ _ (by omega), up_ne _ _ (by omega), up_ne _ _ (by omega), up_k _ _ _ _ (by decide)]
        exact hR.2.1 _ (by omega) (by omega)
      have g4 := rd 4 (by omega) (by omega)
      have g5 := rd 5 (by omega) (by omega)
      have g6 := rd 6 (by omega) (by omega)
      have g7 := rd 7 (by omega) (by omega)
      have z53 : csnd s (m 54 (8 * i)) (m 54 (8 * i + 1)) (m 54 (8 * i + 2)) (m 54 (8 * i + 3)) (m 54 (8 * i + 4)) (m 54 (8 * i + 5)) (m 54 (8 * i + 6)) (m 54 (8 * i + 7)) 53 0 = m 53 0 + 1 := by rw [csnd_53, e53, if_pos (by omega)]
      have se : csay (cps s (m 54 (8 * i)) (m 54 (8 * i + 1)) (m 54 (8 * i + 2)) (m 54 (8 * i + 3))) (cri s) (m 54 (8 * i + 4)) (m 54 (8 * i + 5)) (m 54 (8 * i + 6)) (m 54 (8 * i + 7)) = csnd s (m 54 (8 * i)) (m 54 (8 * i + 1)) (m 54 (8 * i + 2)) (m 54 (8 * i + 3)) (m 54 (8 * i + 4)) (m 54 (8 * i + 5)) (m 54 (8 * i + 6)) (m 54 (8 * i + 7)) := rfl
      rw [se] at sy
      refine CC_u hB RS (msnd_k _ _ _ _ _ _ _ _ _ _ _ (by decide) (by decide) (by decide)) (msnd_k _ _ _ _ _ _ _ _ _ _ _ (by decide) (by decide) (by decide)) (cs_of (fun z => csnd_k _ _ _ _ _ _ _ _ _ _ _ (by decide) (by decide) (by decide))) (fun Q => zk_eq ?_ Q)
      clear RS
      simp (disch := first | omega | assumption | (simp; done)) only [u_101_0, u_101_1, u_101_4, u_101_5, u_101_8, u_101_8N, u_101_9, u_101_10, u_101_10N, u_101_14, u_101_15, u_101_16, u_101_19, u_101_22, u_101_24, u_101_29, u_101_30, u_101_31, u_101_34, u_101_35, u_101_38, u_101_39, u_101_42, u_101_43, u_101_46, u_101_47, u_101_50, u_101_53, u_101_53N, u_101_54, u_101_55, u_101_56, u_101_59, u_101_60, u_101_63, u_101_64, u_101_67, u_101_68, u_101_71, u_101_74, u_101_75, u_101_78, u_101_81, true_or, or_true, zk_li1_s, zk_ll1_s, zk_la1_r, zk_la1_n, zk_lg0, zk_lgs, zk_co_n, zk_co_i, zk_co_r, zk_co_u, zk_co_l, zk_l1_0, zk_l1_1, zk_l1_s, zk_l2_0, zk_l2_1, zk_l2_s, zk_sm0, zk_smi, zk_smr, zk_smn, zk_sml, zk_fi, zk_fz, zk_fo, zk_fn, zk_fa, zk_ts, zk_tn, zk_cases, true_and, and_true, List.getElem?_cons_zero, List.getElem?_cons_succ, List.length_cons, List.length_nil, Nat.reduceAdd, Nat.reduceLT, Nat.reduceLeDiff, List.set_cons_zero, List.set_cons_succ, va_rf, xi_tk hB, xg_tk_0 hB, xg_tk_1 hB, xg_tk_2 hB, xg_tk_3 hB, xg_tk_4 hB, xg_tk_5 hB, xg_tk_6 hB, xp_tk_6 hB, xg_tk_7 hB, xp_tk_7 hB, xg_tk_8 hB, xp_tk_8 hB, xg_tk_9 hB, xp_tk_9 hB, xi_ls hB, xg_ls_0 hB, xg_ls_1 hB, xg_ls_2 hB, xg_ls_3 hB, xp_ls_3 hB, xg_ls_4 hB, xp_ls_4 hB, xi_le hB, xg_le_0 hB, xp_le_0 hB, xg_le_1 hB, xp_le_1 hB, xg_le_2 hB, xp_le_2 hB, xg_le_3 hB, xp_le_3 hB, xg_le_4 hB, xp_le_4 hB, xg_le_5 hB, xp_le_5 hB, xg_le_6 hB, xp_le_6 hB, xg_le_7 hB, xp_le_7 hB, iz_lit, iz_lt, la, e53, f0, f1, f2, f3, ps, g4, g5, g6, g7, sy, z53]
      all_goals ((repeat' (first | exact trivial | exact ⟨rfl, rfl⟩ | rfl | apply And.intro | intro _)) <;> first | omega | (exfalso; omega) | contradiction | (exfalso; simp_all; done) | trace_state)
  · rw [if_neg c, if_neg (fun q => c q.1)]
    have la := c_latt0 hB s (by rw [e53]; exact hs) i hi (by rw [e53]; exact c)
    refine CC_q hB hR (fun Q => zk_eq ?_ Q)
    simp (disch := first | omega | assumption | (simp; done)) only [u_101_0, u_101_1, u_101_4, u_101_5, u_101_8, u_101_8N, u_101_9, u_101_10, u_101_10N, u_101_13, u_101_14, u_101_16, u_101_19, u_101_22, u_101_24, u_101_27, u_101_29, u_101_30, u_101_31, u_101_34, u_101_35, u_101_38, u_101_39, u_101_42, u_101_43, u_101_46, u_101_47, u_101_50, u_101_53, u_101_53N, u_101_54, u_101_55, u_101_56, u_101_59, u_101_60, u_101_63, u_101_64, u_101_67, u_101_68, u_101_71, u_101_74, u_101_75, u_101_78, u_101_81, true_or, or_true, zk_li1_s, zk_ll1_s, zk_la1_r, zk_la1_n, zk_lg0, zk_lgs, zk_co_n, zk_co_i, zk_co_r, zk_co_u, zk_co_l, zk_l1_0, zk_l1_1, zk_l1_s, zk_l2_0, zk_l2_1, zk_l2_s, zk_sm0, zk_smi, zk_smr, zk_smn, zk_sml, zk_fi, zk_fz, zk_fo, zk_fn, zk_fa, zk_ts, zk_tn, zk_cases, true_and, and_true, List.getElem?_cons_zero, List.getElem?_cons_succ, List.length_cons, List.length_nil, Nat.reduceAdd, Nat.reduceLT, Nat.reduceLeDiff, List.set_cons_zero, List.set_cons_succ, va_rf, xi_tk hB, xg_tk_0 hB, xg_tk_1 hB, xg_tk_2 hB, xg_tk_3 hB, xg_tk_4 hB, xg_tk_5 hB, xg_tk_6 hB, xp_tk_6 hB, xg_tk_7 hB, xp_tk_7 hB, xg_tk_8 hB, xp_tk_8 hB, xg_tk_9 hB, xp_tk_9 hB, xi_ls hB, iz_lit, iz_neg, la]
    all_goals ((repeat' (first | exact trivial | exact ⟨rfl, rfl⟩ | rfl | apply And.intro | intro _)) <;> first | omega | (exfalso; omega) | contradiction | (exfalso; simp_all; done) | trace_state)
end WKE
