/-! the class's deliver and flow -/
def IH (m : mS) : Prop := MC m ∧ MP m ∧ ME m ∧ BI m ∧ (∀ j, 0 ≤ j → j < 12 → m 46 j ≤ 298) ∧ lI m (fun k => m 55 k)
def IV (m : mS) : Prop := MC m ∧ MP m ∧ ME m ∧ (m 51 0 ≤ 1000000000 ∧ m 52 0 ≤ 1000000000 ∧ (∀ j, 0 ≤ j → j < 12 → m 45 j ≤ 1000000000) ∧ (∀ i, 0 ≤ i → i < 36 → m 39 i ≤ 1000000000)) ∧ (∀ j, 0 ≤ j → j < 12 → m 46 j ≤ 298) ∧ (∀ l, 0 ≤ l → l < m 53 0 → m 54 (8 * l + 7) ≤ 1000000000)
theorem eO_of {m m' : mS} {j : Int} (h : eO m j) (hk : ∀ k z, 46 ≤ k → k ≤ 50 → m' k z = m k z) : eO m' j := by
  unfold eO
  rw [hk 46 j (by omega) (by omega), hk 49 j (by omega) (by omega), hk 50 j (by omega) (by omega), hk 47 _ (by omega) (by omega), hk 48 _ (by omega) (by omega)]
  refine ⟨fun i k a b c => ?_, h.2⟩
  rw [hk 47 _ (by omega) (by omega), hk 47 _ (by omega) (by omega)]
  exact h.1 i k a b c
theorem IH_rem {m : mS} (h : IV m) {i : Int} (hi : 0 ≤ i ∧ i < m 53 0) : IH (mrem m i) := by
  obtain ⟨hM, hP, hE, ⟨b1, b2, b3, b4⟩, h46, hl⟩ := h
  obtain ⟨P1, L1⟩ := MP_rem hP hi
  have k : ∀ k z, k ≠ 53 → k ≠ 54 → k ≠ 55 → mrem m i k z = m k z := fun k z a b c => mrem_k m i k z a b c
  refine ⟨MC_rem hM (by omega) i, P1, fun j a b => eO_of (hE j a b) (fun k' z q r => k k' z (by omega) (by omega) (by omega)), ⟨?_, ?_, ?_, ?_, ?_⟩, ?_, L1⟩
  · rw [k 51 0 (by decide) (by decide) (by decide)]; exact b1
  · rw [k 52 0 (by decide) (by decide) (by decide)]; exact b2
  · intro j a b; rw [k 45 j (by decide) (by decide) (by decide)]; exact b3 j a b
  · intro j a b; rw [k 39 j (by decide) (by decide) (by decide)]; exact b4 j a b
  · rw [mrem_55 m i 7 (by omega) (by omega)]; exact hl i hi.1 hi.2
  · intro j a b; rw [k 46 j (by decide) (by decide) (by decide)]; exact h46 j a b
theorem mdel_k (m : mS) (to j : Int) (k : Nat) (z : Int) (h : k < 30) : mdel m to j k z = m k z := by
  unfold mdel
  split
  · unfold mtk
    split
    · rfl
    · split
      · rw [up_k _ _ _ _ (by omega), up_k _ _ _ _ (by omega), up_k _ _ _ _ (by omega), up_k _ _ _ _ (by omega), up_k _ _ _ _ (by omega)]
      · rw [up_k _ _ _ _ (by omega)]
  split
  · rfl
  split
  · unfold mask
    split
    · rw [msnd_k _ _ _ _ _ _ _ _ _ _ _ (by omega) (by omega) (by omega), up_k _ _ _ _ (by omega)]
    · rw [msnd_k _ _ _ _ _ _ _ _ _ _ _ (by omega) (by omega) (by omega)]
  split
  · unfold mprm
    split
    · unfold mdec mdec2
      split
      · unfold mend
        rw [up_k _ _ _ _ (by omega), up_k _ _ _ _ (by omega), up_k _ _ _ _ (by omega), up_k _ _ _ _ (by omega), mrd_k _ _ _ _ (by omega) (by omega) (by omega)]
      · unfold mcl0
        rw [msto_k _ _ _ _ _ _ _ _ _ (by omega) (by omega) (by omega), up_k _ _ _ _ (by omega), up_k _ _ _ _ (by omega), up_k _ _ _ _ (by omega), up_k _ _ _ _ (by omega), up_k _ _ _ _ (by omega), up_k _ _ _ _ (by omega), up_k _ _ _ _ (by omega), mrd_k _ _ _ _ (by omega) (by omega) (by omega)]
    · rfl
  split
  · unfold mwri
    split
    · rw [msnd_k _ _ _ _ _ _ _ _ _ _ _ (by omega) (by omega) (by omega), up_k _ _ _ _ (by omega), up_k _ _ _ _ (by omega), up_k _ _ _ _ (by omega), up_k _ _ _ _ (by omega)]
    · rw [msnd_k _ _ _ _ _ _ _ _ _ _ _ (by omega) (by omega) (by omega)]
  split
  · unfold mfin
    split
    · unfold mend
      rw [up_k _ _ _ _ (by omega), up_k _ _ _ _ (by omega), up_k _ _ _ _ (by omega)]
      unfold mfi2
      split
      · unfold mfi1; rw [up_k _ _ _ _ (by omega)]
      · rw [msnd_k _ _ _ _ _ _ _ _ _ _ _ (by omega) (by omega) (by omega)]
        unfold mfi1; rw [up_k _ _ _ _ (by omega)]
    · rfl
  · unfold mref
    split
    · unfold mend
      rw [up_k _ _ _ _ (by omega), up_k _ _ _ _ (by omega), up_k _ _ _ _ (by omega), up_k _ _ _ _ (by omega)]
    · rw [up_k _ _ _ _ (by omega)]
theorem msp_k (m : mS) (i : Int) (k : Nat) (z : Int) (h : k < 30) : msp m i k z = m k z := by
  unfold msp
  rw [mdel_k _ _ _ _ _ h, mrem_k _ _ _ _ (by omega) (by omega) (by omega)]
theorem fls_k (m : mS) (k : Nat) (z : Int) (h : k < 30) : ∀ n, fls m n k z = m k z := by
  intro n
  induction n with
  | zero => rfl
  | succ n ih =>
    have e : fls m (n + 1) = if 0 < fls m n 53 0 then msp (fls m n) 0 else fls m n := rfl
    rw [e]
    split
    · rw [msp_k _ _ _ _ h, ih]
    · exact ih
section CFLO
variable {G : zk_G} {B : zk_H} {ad : Int → Nat} {s m : mS}
theorem c_hd {nz nj : Int} (hB : hxo G B nz nj ad) (hG : GS G) (hR : REL s m) (hH : RH s m) (hz : m 1 0 = nz) (hn : m 10 0 = nj) (hI : IH m) : ∃ B' ad', xE G nz nj B ad nz nj B' ad' (cs (dst s m (m 55 2) (m 55 3) nj) - cs s) ∧ (∀ q, q < 400 → ad' q = ad q) ∧ REL (dst s m (m 55 2) (m 55 3) nj) (mdel m (m 55 2) (m 55 3)) ∧ (∀ Q : Option Value → zk_H → Prop, zk_wp G 90 0 [some (.ref (ad 0)), some (.ref (ad (10 + 61))), none, none] [] (hx G B nz nj ad s) Q ↔ Q (some (.int (iz (hret s (m 55 2) (m 55 3))))) (hx G B' nz nj ad' (hst s (m 55 2) (m 55 3)))) ∧ (hret s (m 55 2) (m 55 3) = 1 → ∀ Q : Option Value → zk_H → Prop, zk_wp G 97 0 [some (.ref (ad 0)), some (.int (iz (m 55 2))), some (.int (iz (m 55 3))), none, none, none, none, none, none, none] [] (hx G B' nz nj ad' (hst s (m 55 2) (m 55 3))) Q ↔ Q none (hx G B' nz nj ad' (dst s m (m 55 2) (m 55 3) nj))) ∧ (hret s (m 55 2) (m 55 3) = 0 ∨ hret s (m 55 2) (m 55 3) = 1) ∧ (hret s (m 55 2) (m 55 3) = 0 → dst s m (m 55 2) (m 55 3) nj = hst s (m 55 2) (m 55 3)) ∧ (∀ z, 488 ≤ z → hst s (m 55 2) (m 55 3) 54 z = s 54 z) ∧ (∀ z, 488 ≤ z → dst s m (m 55 2) (m 55 3) nj 54 z = s 54 z) := by
  subst hz
  subst hn
  obtain ⟨hM, hP, hE, hBI, h46, hL⟩ := hI
  obtain ⟨l0, l1, l2, l3, l4, l5, l6, l7, l8⟩ := id hL
  dsimp only at l0 l1 l2 l3 l4 l5 l6 l7 l8
  have h10 := hM.2.2.2.1
  have hc := rel_cI hR hM
  have e53 := rel_k hR 53 0
  have hs : 0 ≤ s 53 0 ∧ s 53 0 ≤ 60 := by rw [e53]; exact hP.2.1
  have g0 := hH 0 (by omega) (by omega)
  rw [Int.add_zero] at g0
  have g2 := hH 2 (by omega) (by omega)
  have g3 := hH 3 (by omega) (by omega)
  have r7 := hR.2.2.2.2.2.2
  obtain ⟨jr, jw⟩ := hR.2.2.2.2.1 (m 55 3) l4.1 l4.2
  have w13 := jr.2.2.2.2.2.2.1
  have w14 := jr.2.2.2.2.2.2.2
  have j12 : 0 ≤ m 55 3 ∧ m 55 3 < 12 := by omega
  have eI1 := (hM.2.2.2.2.2.1 (m 55 3) l4.1 j12.2).2.1.1
  have c24 := (hM.2.2.2.2.2.1 (m 55 3) l4.1 j12.2).2.2.1.2.1
  have l13 : s 100 (13 + 6 * m 55 3) = m 46 (m 55 3) := by have h1 := xr_len w13; rw [jr.1.2.2.2.2.1] at h1; rw [← h1]; exact rl_len _ eI1.1
  have l14 : s 100 (14 + 6 * m 55 3) = m 46 (m 55 3) := by have h1 := xr_len w14; rw [jr.1.2.2.2.2.2] at h1; rw [← h1]; exact rl_len _ eI1.1
  have hi : 0 ≤ 12 * m 55 2 + m 55 3 ∧ 12 * m 55 2 + m 55 3 < 36 := by omega
  have rr : m 55 0 = 1 → -1 ≤ mrd m (12 * m 55 2 + m 55 3) 38 (12 * m 55 2 + m 55 3) ∧ mrd m (12 * m 55 2 + m 55 3) 38 (12 * m 55 2 + m 55 3) ≤ 21038399 := by
    intro k
    unfold mrd
    split
    · rw [up_k _ _ _ _ (by decide), up_e]; exact l7 k
    · exact (hP.1 _ hi.1 hi.2).2.2.2.1
  have h0 := hM.2.1
  have RS := REL_step hR hH hM hP hE hBI hL (h46 _ j12.1 j12.2) (fun k => by
    have q := rr k
    rcases ffd_r (dueJ m (m 55 3)) (mrd m (12 * m 55 2 + m 55 3) 38 (12 * m 55 2 + m 55 3) + 1) (m 0 0) with h | h
    · exact Or.inl h
    · right; omega) (fun k => dmin_r m m _ _ (rr k).1 h0.2)
  obtain ⟨B', ad', x1, x2, x3⟩ := c_hand hB r7 hc hs (m 55 2) (m 55 3) g2 g3 (by rw [g0]; exact l0) l4 l2 (by rw [g0]; exact l3) w13 w14 (by omega) (by omega)
  have hB' := x1.1
  have t1 := fun z hz => hst_t hs (m 55 2) (m 55 3) z hz
  have h01 : hret s (m 55 2) (m 55 3) = 0 ∨ hret s (m 55 2) (m 55 3) = 1 := by
    unfold hret; split
    · exact Or.inr rfl
    · exact Or.inl rfl
  by_cases c1 : hret s (m 55 2) (m 55 3) = 1
  · have cq : s 54 (8 * 61) = 1 ∧ s 42 (m 55 2) = 0 ∧ s 36 (12 * m 55 2 + m 55 3) = 1 ∧ s 35 (12 * m 55 2 + m 55 3) = s 54 (8 * 61 + 4) := by
      by_cases cq : s 54 (8 * 61) = 1 ∧ s 42 (m 55 2) = 0 ∧ s 36 (12 * m 55 2 + m 55 3) = 1 ∧ s 35 (12 * m 55 2 + m 55 3) = s 54 (8 * 61 + 4)
      · exact cq
      · unfold hret at c1; rw [if_neg cq] at c1; omega
    have eh : hst s (m 55 2) (m 55 3) = crd s (12 * m 55 2 + m 55 3) 61 := by
      unfold hst
      rw [if_neg (by omega), if_neg (fun q => q cq.2.1), if_neg (by omega), if_pos cq.1, if_pos cq.2.2]
    have ed : dst s m (m 55 2) (m 55 3) (m 10 0) = cdec (crd s (12 * m 55 2 + m 55 3) 61) m (m 55 2) (m 55 3) (m 10 0) := by
      unfold dst; rw [if_pos c1, eh]
    have cz : ∀ k z, k ≠ 64 → k ≠ 65 → crd s (12 * m 55 2 + m 55 3) 61 k z = s k z := fun k z a b => crd_z _ _ _ _ _ (Or.inr ⟨a, b⟩)
    have hs' : 0 ≤ crd s (12 * m 55 2 + m 55 3) 61 53 0 ∧ crd s (12 * m 55 2 + m 55 3) 61 53 0 ≤ 60 := by rw [cz 53 0 (by decide) (by decide)]; exact hs
    obtain ⟨ck1, ck2⟩ := cdec_k (s := crd s (12 * m 55 2 + m 55 3) 61) (m := m) (sc := m 55 2) (j := m 55 3) (nj := m 10 0) hs'
    have h36 : m 36 (12 * m 55 2 + m 55 3) = 1 := by rw [← hR.1 36 _ rfl]; exact cq.2.2.1
    obtain ⟨d1, d2⟩ := rd_eq hR hH hi h36
    have m0 : m 55 0 = 1 := by rw [← g0]; exact cq.1
    have dc := c_decide hB' hG (s := crd s (12 * m 55 2 + m 55 3) 61) (m := m) (crd_rg r7 _ _) (cI_of hc (fun k z q => cz k z (by omega) (by omega))) hs' (fun j a b => by
      obtain ⟨q1, q2, q3, q4, q5⟩ := rel_A hR hM j a b
      refine ⟨q1, q2, q3, jR_of q4 (fun z => cz 100 z (by decide) (by decide)) (fun z => cz 101 z (by decide) (by decide)) (fun z => cz 102 z (by decide) (by decide)) (fun _ _ _ => rfl) (fun k q => ?_), zR_of q5 (fun z => cz 100 z (by decide) (by decide)) (fun z => cz 101 z (by decide) (by decide)) (fun z => cz 102 z (by decide) (by decide)) (fun z => cz 60 z (by decide) (by decide)) (cfg_r m)⟩
      rw [cz k j (by omega) (by omega)]
      refine hR.1 k j ?_
      have : k = 11 ∨ k = 12 ∨ k = 13 ∨ k = 14 ∨ k = 15 ∨ k = 16 ∨ k = 22 := by omega
      rcases this with rfl | rfl | rfl | rfl | rfl | rfl | rfl <;> rfl) (m 55 2) (m 55 3) l2 l4 (by
        rw [cz 61 _ (by decide) (by decide), jw]
        have := awO_lt hM.2.2.2.2.2.2 j12
        omega) (by rw [d1]; exact rr m0) (by rw [cz 0 0 (by decide) (by decide), hR.1 0 0 rfl]; exact h0) (by rw [cz 24 _ (by decide) (by decide), hR.1 24 _ rfl]; exact c24)
    refine ⟨B', ad', ?_, x2, RS, x3, fun _ Q => ?_, h01, fun q => absurd q (by omega), t1, fun z hz => ?_⟩
    · rw [ed, show cs (cdec (crd s (12 * m 55 2 + m 55 3) 61) m (m 55 2) (m 55 3) (m 10 0)) = cs (hst s (m 55 2) (m 55 3)) from cs_of (fun z => by rw [ck2, eh])]
      exact x1
    · rw [ed, eh, ← x2 0 (by omega)]
      exact dc Q
    · rw [ed, ck1 z hz, ← eh, t1 z hz]
  · have ed : dst s m (m 55 2) (m 55 3) (m 10 0) = hst s (m 55 2) (m 55 3) := by unfold dst; rw [if_neg c1]
    refine ⟨B', ad', by rw [ed]; exact x1, x2, RS, x3, fun q => absurd q c1, h01, fun _ => ed, t1, fun z hz => by rw [ed]; exact t1 z hz⟩
theorem k_deliver (hB : hxo G B (m 1 0) (m 10 0) ad) (hG : GS G) (hR : REL s m) (hI : IV m) (i : Int) (hi : -2147483648 ≤ i ∧ i ≤ 2147483647) : CC G B ad s m 89 [some (.int (iz i)), none] (v_del m i) (f_del m i) := by
  have hM := hI.1
  have hP := hI.2.1
  have hc := rel_cI hR hM
  have hs := hP.2.1
  have e53 := rel_k hR 53 0
  unfold v_del f_del
  by_cases c : 0 ≤ i ∧ i < m 53 0
  · rw [if_pos c, if_pos c]
    obtain ⟨B1, ad1, x1, x2, x3⟩ := c_take hB hc (by rw [e53]; exact hs) i (by rw [e53]; exact c)
    obtain ⟨R1, R2⟩ := REL_take hR hs c
    have hB1 := x1.1
    have k1 := mrem_k m i 1 0 (by decide) (by decide) (by decide)
    have k10 := mrem_k m i 10 0 (by decide) (by decide) (by decide)
    obtain ⟨B2, ad2, y1, y2, RS, ho, dc, h01, dz, t1, t2⟩ := c_hd hB1 hG R1 R2 k1 k10 (IH_rem hI c)
    have hB2 := y1.1
    have a0 : ad1 0 = ad 0 := x2 0 (by omega)
    have b0 : ad2 0 = ad 0 := by rw [y2 0 (by omega), a0]
    have b71 : ad2 (10 + 61) = ad1 (10 + 61) := y2 _ (by omega)
    have i1 := xi_tk hB1 (ctak s i)
    have i2 := xi_tk hB2 (hst (ctak s i) (mrem m i 55 2) (mrem m i 55 3))
    have o2 := xg_le_2 hB2 (hst (ctak s i) (mrem m i 55 2) (mrem m i 55 3)) 61 (by omega)
    have o3 := xg_le_3 hB2 (hst (ctak s i) (mrem m i 55 2) (mrem m i 55 3)) 61 (by omega)
    have o0 := xg_le_0 hB2 (dst (ctak s i) (mrem m i) (mrem m i 55 2) (mrem m i 55 3) (m 10 0)) 61 (by omega)
    have r0 := R2 0 (by omega) (by omega)
    rw [Int.add_zero] at r0
    have v0 : mrem m i 55 0 = m 54 (8 * i) := by rw [mrem_55 m i 0 (by omega) (by omega), Int.add_zero]
    rw [b71, t1 _ (by omega), R2 2 (by omega) (by omega)] at o2
    rw [b71, t1 _ (by omega), R2 3 (by omega) (by omega)] at o3
    rw [b71, t2 _ (by omega), r0, v0] at o0
    rw [a0] at i1 ho dc
    rw [b0] at i2
    have x4 := xE_t x1 y1
    rw [show 0 + (cs (dst (ctak s i) (mrem m i) (mrem m i 55 2) (mrem m i 55 3) (m 10 0)) - cs (ctak s i)) = cs (dst (ctak s i) (mrem m i) (mrem m i 55 2) (mrem m i 55 3) (m 10 0)) - cs s by rw [show cs (ctak s i) = cs s from cs_of (fun z => ctak_k _ _ _ _ (by decide) (by decide)), Int.zero_add]] at x4
    refine CC_x x4 b0 RS (msp_k m i 1 0 (by decide)) (msp_k m i 10 0 (by decide)) (fun Q => zk_eq ?_ Q)
    clear x4 y1 x1 RS
    generalize hD : dst (ctak s i) (mrem m i) (mrem m i 55 2) (mrem m i 55 3) (m 10 0) = D at *
    generalize hS : hst (ctak s i) (mrem m i 55 2) (mrem m i 55 3) = S at *
    rcases h01 with h1 | h1
    · rw [h1] at ho
      have dz' := dz h1
      rw [dz'] at o0 ⊢
      simp (disch := first | omega | assumption | (simp; done)) only [u_89_0, u_89_1, u_89_4, u_89_5, u_89_8, u_89_8N, u_89_9, u_89_10, u_89_10N, u_89_14, u_89_15, u_89_16, u_89_17, u_89_20, u_89_24, u_89_25, u_89_28, u_89_29, u_89_32, u_89_35, u_89_36, u_89_39, true_or, or_true, zk_li1_s, zk_ll1_s, zk_la1_r, zk_la1_n, zk_lg0, zk_lgs, zk_co_n, zk_co_i, zk_co_r, zk_co_u, zk_co_l, zk_l1_0, zk_l1_1, zk_l1_s, zk_l2_0, zk_l2_1, zk_l2_s, zk_sm0, zk_smi, zk_smr, zk_smn, zk_sml, zk_fi, zk_fz, zk_fo, zk_fn, zk_fa, zk_ts, zk_tn, zk_cases, true_and, and_true, List.getElem?_cons_zero, List.getElem?_cons_succ, List.length_cons, List.length_nil, Nat.reduceAdd, Nat.reduceLT, Nat.reduceLeDiff, List.set_cons_zero, List.set_cons_succ, va_rf, xi_tk hB, xg_tk_0 hB, xg_tk_1 hB, xg_tk_2 hB, xg_tk_3 hB, xg_tk_4 hB, xg_tk_5 hB, xg_tk_6 hB, xp_tk_6 hB, xg_tk_7 hB, xp_tk_7 hB, xg_tk_8 hB, xp_tk_8 hB, xg_tk_9 hB, xp_tk_9 hB, xi_ls hB, iz_lit, iz_inj, x3, ho, i1, o0]
      all_goals ((repeat' (first | exact trivial | exact ⟨rfl, rfl⟩ | rfl | apply And.intro | intro _)) <;> first | omega | (exfalso; omega) | contradiction | (exfalso; simp_all; done) | trace_state)
    · rw [h1] at ho
      have dc' := dc h1
      simp (disch := first | omega | assumption | (simp; done)) only [u_89_0, u_89_1, u_89_4, u_89_5, u_89_8, u_89_8N, u_89_9, u_89_10, u_89_10N, u_89_14, u_89_15, u_89_16, u_89_17, u_89_20, u_89_23, u_89_24, u_89_25, u_89_28, u_89_29, u_89_32, u_89_35, u_89_36, u_89_39, true_or, or_true, zk_li1_s, zk_ll1_s, zk_la1_r, zk_la1_n, zk_lg0, zk_lgs, zk_co_n, zk_co_i, zk_co_r, zk_co_u, zk_co_l, zk_l1_0, zk_l1_1, zk_l1_s, zk_l2_0, zk_l2_1, zk_l2_s, zk_sm0, zk_smi, zk_smr, zk_smn, zk_sml, zk_fi, zk_fz, zk_fo, zk_fn, zk_fa, zk_ts, zk_tn, zk_cases, true_and, and_true, List.getElem?_cons_zero, List.getElem?_cons_succ, List.length_cons, List.length_nil, Nat.reduceAdd, Nat.reduceLT, Nat.reduceLeDiff, List.set_cons_zero, List.set_cons_succ, va_rf, xi_tk hB, xg_tk_0 hB, xg_tk_1 hB, xg_tk_2 hB, xg_tk_3 hB, xg_tk_4 hB, xg_tk_5 hB, xg_tk_6 hB, xp_tk_6 hB, xg_tk_7 hB, xp_tk_7 hB, xg_tk_8 hB, xp_tk_8 hB, xg_tk_9 hB, xp_tk_9 hB, xi_ls hB, iz_lit, iz_inj, x3, ho, i1, i2, o0, o2, o3, dc']
      all_goals ((repeat' (first | exact trivial | exact ⟨rfl, rfl⟩ | rfl | apply And.intro | intro _)) <;> first | omega | (exfalso; omega) | contradiction | (exfalso; simp_all; done) | trace_state)
  · rw [if_neg c, if_neg c]
    have la := c_take0 hB s (by rw [e53]; exact hs) i hi (by rw [e53]; exact c)
    refine CC_q hB hR (fun Q => zk_eq ?_ Q)
    simp (disch := first | omega | assumption | (simp; done)) only [u_89_0, u_89_1, u_89_4, u_89_5, u_89_8, u_89_8N, u_89_9, u_89_10, u_89_10N, u_89_13, u_89_14, u_89_16, u_89_17, u_89_20, u_89_23, u_89_24, u_89_25, u_89_28, u_89_29, u_89_32, u_89_35, u_89_36, u_89_39, true_or, or_true, zk_li1_s, zk_ll1_s, zk_la1_r, zk_la1_n, zk_lg0, zk_lgs, zk_co_n, zk_co_i, zk_co_r, zk_co_u, zk_co_l, zk_l1_0, zk_l1_1, zk_l1_s, zk_l2_0, zk_l2_1, zk_l2_s, zk_sm0, zk_smi, zk_smr, zk_smn, zk_sml, zk_fi, zk_fz, zk_fo, zk_fn, zk_fa, zk_ts, zk_tn, zk_cases, true_and, and_true, List.getElem?_cons_zero, List.getElem?_cons_succ, List.length_cons, List.length_nil, Nat.reduceAdd, Nat.reduceLT, Nat.reduceLeDiff, List.set_cons_zero, List.set_cons_succ, va_rf, xi_tk hB, xg_tk_0 hB, xg_tk_1 hB, xg_tk_2 hB, xg_tk_3 hB, xg_tk_4 hB, xg_tk_5 hB, xg_tk_6 hB, xp_tk_6 hB, xg_tk_7 hB, xp_tk_7 hB, xg_tk_8 hB, xp_tk_8 hB, xg_tk_9 hB, xp_tk_9 hB, xi_ls hB, iz_lit, iz_neg, la]
    all_goals ((repeat' (first | exact trivial | exact ⟨rfl, rfl⟩ | rfl | apply And.intro | intro _)) <;> first | omega | (exfalso; omega) | contradiction | (exfalso; simp_all; done) | trace_state)
theorem k_flow (hB : hxo G B (m 1 0) (m 10 0) ad) (hG : GS G) (hR : REL s m) (n : Int) (hn : -2147483648 ≤ n ∧ n ≤ 2147483647) (hI : ∀ k : Nat, (k : Int) ≤ 50 → IV (fls m k)) : CC G B ad s m 99 [some (.int (iz n)), none, none, none] (v_flow m n) (f_flow m n) := by
  unfold v_flow f_flow
  by_cases c : 1 ≤ n ∧ n ≤ 50
  · rw [if_pos c, if_pos c]
    have loop : ∀ (q d : Nat) (B : zk_H) (ad : Int → Nat) (s : mS), hxo G B (m 1 0) (m 10 0) ad → REL s (fls m d) → (d : Int) + q = n → flc m d = d → ∃ B' ad' s', xE G (m 1 0) (m 10 0) B ad (m 1 0) (m 10 0) B' ad' (cs s' - cs s) ∧ ad' 0 = ad 0 ∧ REL s' (fls m n.toNat) ∧ ∀ (o4 : Option Value) (P : Option Value → zk_H → Prop), P (some (.int (iz (flc m n.toNat)))) (hx G B' (m 1 0) (m 10 0) ad' s') → zk_wp G 99 17 [some (.ref (ad 0)), some (.int (iz n)), some (.int (iz d)), some (.int (iz d)), o4] [] (hx G B (m 1 0) (m 10 0) ad s) P := by
      intro q
      induction q with
      | zero =>
        intro d B ad s hB hR hd hf
        have en : n.toNat = d := by omega
        refine ⟨B, ad, s, by rw [Int.sub_self]; exact xE_r hB, rfl, by rw [en]; exact hR, fun o4 P hP => ?_⟩
        rw [en, hf] at hP
        rw [u_99_17]
        simp (disch := first | omega | assumption | (simp; done)) only [u_99_0, u_99_1, u_99_2, u_99_5, u_99_6, u_99_8, u_99_11, u_99_12, u_99_13, u_99_14, u_99_15, u_99_16, u_99_18, u_99_19, u_99_23, u_99_26, u_99_27, u_99_30, u_99_30N, u_99_32, u_99_34, u_99_34N, u_99_37, u_99_40, u_99_41, u_99_43, u_99_46, u_99_49, u_99_50, u_99_52, u_99_55, u_99_57, u_99_60, u_99_63, u_99_66, u_99_69, u_99_72, u_99_73, true_or, or_true, zk_li1_s, zk_ll1_s, zk_la1_r, zk_la1_n, zk_lg0, zk_lgs, zk_co_n, zk_co_i, zk_co_r, zk_co_u, zk_co_l, zk_l1_0, zk_l1_1, zk_l1_s, zk_l2_0, zk_l2_1, zk_l2_s, zk_sm0, zk_smi, zk_smr, zk_smn, zk_sml, zk_fi, zk_fz, zk_fo, zk_fn, zk_fa, zk_ts, zk_tn, zk_cases, true_and, and_true, List.getElem?_cons_zero, List.getElem?_cons_succ, List.length_cons, List.length_nil, Nat.reduceAdd, Nat.reduceLT, Nat.reduceLeDiff, List.set_cons_zero, List.set_cons_succ, va_rf, iz_lit, iz_le]
        (repeat' (first | exact hP | apply And.intro | intro _)) <;> first | omega | (exfalso; omega) | contradiction | exact absurd trivial (by assumption) | (exfalso; simp_all; done)
      | succ q ih =>
        intro d B ad s hB hR hd hf
        have hI0 := hI d (by omega)
        have hM := hI0.1
        have hP := hI0.2.1
        have f1 := fls_k m 1 0 (by decide) d
        have f10 := fls_k m 10 0 (by decide) d
        have hc := rel_cI hR hM
        rw [f1, f10] at hc
        have hs := hP.2.1
        have e53 := rel_k hR 53 0
        by_cases c0 : 0 < fls m d 53 0
        · have ci : (0 : Int) ≤ 0 ∧ 0 < fls m d 53 0 := ⟨by omega, c0⟩
          obtain ⟨B1, ad1, x1, x2, x3⟩ := c_take hB hc (by rw [e53]; exact hs) 0 (by rw [e53]; exact ci)
          obtain ⟨R1, R2⟩ := REL_take hR hs ci
          have hB1 := x1.1
          have k1 : mrem (fls m d) 0 1 0 = m 1 0 := by rw [mrem_k _ _ 1 0 (by decide) (by decide) (by decide), f1]
          have k10 : mrem (fls m d) 0 10 0 = m 10 0 := by rw [mrem_k _ _ 10 0 (by decide) (by decide) (by decide), f10]
          obtain ⟨B2, ad2, y1, y2, RS, ho, dc, h01, dz, t1, t2⟩ := c_hd hB1 hG R1 R2 k1 k10 (IH_rem hI0 ci)
          have hB2 := y1.1
          have a0 : ad1 0 = ad 0 := x2 0 (by omega)
          have b0 : ad2 0 = ad 0 := by rw [y2 0 (by omega), a0]
          have b71 : ad2 (10 + 61) = ad1 (10 + 61) := y2 _ (by omega)
          have s1 : fls m (d + 1) = msp (fls m d) 0 := by show (if 0 < fls m d 53 0 then msp (fls m d) 0 else fls m d) = _; rw [if_pos c0]
          have s2 : flc m (d + 1) = flc m d + 1 := by show (if 0 < fls m d 53 0 then flc m d + 1 else flc m d) = _; rw [if_pos c0]
          obtain ⟨B3, ad3, s3, z1, z2, z3, z4⟩ := ih (d + 1) B2 ad2 _ hB2 (by rw [s1]; exact RS) (by omega) (by rw [s2, hf]; omega)
          have x4 := xE_t (xE_t x1 y1) z1
          rw [show cs (ctak s 0) = cs s from cs_of (fun z => ctak_k _ _ _ _ (by decide) (by decide))] at x4
          refine ⟨B3, ad3, s3, by rw [show cs s3 - cs s = 0 + (cs (dst (ctak s 0) (mrem (fls m d) 0) (mrem (fls m d) 0 55 2) (mrem (fls m d) 0 55 3) (m 10 0)) - cs s) + (cs s3 - cs (dst (ctak s 0) (mrem (fls m d) 0) (mrem (fls m d) 0 55 2) (mrem (fls m d) 0 55 3) (m 10 0))) by omega]; exact x4, by rw [z2, b0], z3, fun o4 P hP2 => ?_⟩
          have nx := z4 (some (.ref (ad1 (10 + 61)))) P hP2
          rw [b0, show (((d + 1 : Nat)) : Int) = (d : Int) + 1 by omega] at nx
          have i1 := xi_tk hB1 (ctak s 0)
          have i2 := xi_tk hB2 (hst (ctak s 0) (mrem (fls m d) 0 55 2) (mrem (fls m d) 0 55 3))
          have o2 := xg_le_2 hB2 (hst (ctak s 0) (mrem (fls m d) 0 55 2) (mrem (fls m d) 0 55 3)) 61 (by omega)
          have o3 := xg_le_3 hB2 (hst (ctak s 0) (mrem (fls m d) 0 55 2) (mrem (fls m d) 0 55 3)) 61 (by omega)
          rw [b71, t1 _ (by omega), R2 2 (by omega) (by omega)] at o2
          rw [b71, t1 _ (by omega), R2 3 (by omega) (by omega)] at o3
          rw [a0] at i1 ho dc
          rw [b0] at i2
          clear x4 y1 x1 RS z1
          generalize hD : dst (ctak s 0) (mrem (fls m d) 0) (mrem (fls m d) 0 55 2) (mrem (fls m d) 0 55 3) (m 10 0) = D at *
          generalize hS : hst (ctak s 0) (mrem (fls m d) 0 55 2) (mrem (fls m d) 0 55 3) = S at *
          rw [u_99_17]
          rcases h01 with h1 | h1
          · rw [h1] at ho
            have dz' := dz h1
            rw [dz'] at nx
            simp (disch := first | omega | assumption | (simp; done)) only [u_99_0, u_99_1, u_99_2, u_99_5, u_99_6, u_99_8, u_99_11, u_99_12, u_99_13, u_99_14, u_99_15, u_99_16, u_99_18, u_99_19, u_99_22, u_99_23, u_99_26, u_99_27, u_99_30, u_99_30N, u_99_32, u_99_34, u_99_34N, u_99_40, u_99_41, u_99_43, u_99_46, u_99_50, u_99_52, u_99_55, u_99_57, u_99_60, u_99_63, u_99_66, u_99_69, u_99_72, u_99_73, true_or, or_true, zk_li1_s, zk_ll1_s, zk_la1_r, zk_la1_n, zk_lg0, zk_lgs, zk_co_n, zk_co_i, zk_co_r, zk_co_u, zk_co_l, zk_l1_0, zk_l1_1, zk_l1_s, zk_l2_0, zk_l2_1, zk_l2_s, zk_sm0, zk_smi, zk_smr, zk_smn, zk_sml, zk_fi, zk_fz, zk_fo, zk_fn, zk_fa, zk_ts, zk_tn, zk_cases, true_and, and_true, List.getElem?_cons_zero, List.getElem?_cons_succ, List.length_cons, List.length_nil, Nat.reduceAdd, Nat.reduceLT, Nat.reduceLeDiff, List.set_cons_zero, List.set_cons_succ, va_rf, xi_tk hB, xg_tk_0 hB, xg_tk_1 hB, xg_tk_2 hB, xg_tk_3 hB, xg_tk_4 hB, xg_tk_5 hB, xg_tk_6 hB, xp_tk_6 hB, xg_tk_7 hB, xp_tk_7 hB, xg_tk_8 hB, xp_tk_8 hB, xg_tk_9 hB, xp_tk_9 hB, xi_ls hB, iz_lit, iz_inj, iz_le, iz_add, x3, ho, i1]
            (repeat' (first | exact nx | apply And.intro | intro _)) <;> first | omega | (exfalso; omega) | contradiction | exact absurd trivial (by assumption) | (exfalso; simp_all; done)
          · rw [h1] at ho
            have dc' := dc h1
            simp (disch := first | omega | assumption | (simp; done)) only [u_99_0, u_99_1, u_99_2, u_99_5, u_99_6, u_99_8, u_99_11, u_99_12, u_99_13, u_99_14, u_99_15, u_99_16, u_99_18, u_99_19, u_99_22, u_99_23, u_99_26, u_99_27, u_99_30, u_99_30N, u_99_32, u_99_34, u_99_34N, u_99_40, u_99_41, u_99_43, u_99_46, u_99_49, u_99_50, u_99_52, u_99_55, u_99_57, u_99_60, u_99_63, u_99_66, u_99_69, u_99_72, u_99_73, true_or, or_true, zk_li1_s, zk_ll1_s, zk_la1_r, zk_la1_n, zk_lg0, zk_lgs, zk_co_n, zk_co_i, zk_co_r, zk_co_u, zk_co_l, zk_l1_0, zk_l1_1, zk_l1_s, zk_l2_0, zk_l2_1, zk_l2_s, zk_sm0, zk_smi, zk_smr, zk_smn, zk_sml, zk_fi, zk_fz, zk_fo, zk_fn, zk_fa, zk_ts, zk_tn, zk_cases, true_and, and_true, List.getElem?_cons_zero, List.getElem?_cons_succ, List.length_cons, List.length_nil, Nat.reduceAdd, Nat.reduceLT, Nat.reduceLeDiff, List.set_cons_zero, List.set_cons_succ, va_rf, xi_tk hB, xg_tk_0 hB, xg_tk_1 hB, xg_tk_2 hB, xg_tk_3 hB, xg_tk_4 hB, xg_tk_5 hB, xg_tk_6 hB, xp_tk_6 hB, xg_tk_7 hB, xp_tk_7 hB, xg_tk_8 hB, xp_tk_8 hB, xg_tk_9 hB, xp_tk_9 hB, xi_ls hB, iz_lit, iz_inj, iz_le, iz_add, x3, ho, i1, i2, o2, o3, dc']
            (repeat' (first | exact nx | apply And.intro | intro _)) <;> first | omega | (exfalso; omega) | contradiction | exact absurd trivial (by assumption) | (exfalso; simp_all; done)
        · obtain ⟨g1, g2⟩ := fls_stop c0 (q + 1)
          have en : n.toNat = d + (q + 1) := by omega
          have la := c_take0 hB s (by rw [e53]; exact hs) 0 (by omega) (by rw [e53]; omega)
          refine ⟨B, ad, s, by rw [Int.sub_self]; exact xE_r hB, rfl, by rw [en, g1]; exact hR, fun o4 P hP => ?_⟩
          rw [en, g2, hf] at hP
          rw [u_99_17]
          simp (disch := first | omega | assumption | (simp; done)) only [u_99_0, u_99_1, u_99_2, u_99_5, u_99_6, u_99_8, u_99_11, u_99_12, u_99_13, u_99_14, u_99_15, u_99_16, u_99_18, u_99_19, u_99_22, u_99_23, u_99_26, u_99_27, u_99_30, u_99_30N, u_99_32, u_99_34, u_99_34N, u_99_37, u_99_41, u_99_43, u_99_46, u_99_49, u_99_50, u_99_52, u_99_55, u_99_57, u_99_60, u_99_63, u_99_66, u_99_69, u_99_72, u_99_73, true_or, or_true, zk_li1_s, zk_ll1_s, zk_la1_r, zk_la1_n, zk_lg0, zk_lgs, zk_co_n, zk_co_i, zk_co_r, zk_co_u, zk_co_l, zk_l1_0, zk_l1_1, zk_l1_s, zk_l2_0, zk_l2_1, zk_l2_s, zk_sm0, zk_smi, zk_smr, zk_smn, zk_sml, zk_fi, zk_fz, zk_fo, zk_fn, zk_fa, zk_ts, zk_tn, zk_cases, true_and, and_true, List.getElem?_cons_zero, List.getElem?_cons_succ, List.length_cons, List.length_nil, Nat.reduceAdd, Nat.reduceLT, Nat.reduceLeDiff, List.set_cons_zero, List.set_cons_succ, va_rf, xi_tk hB, xg_tk_0 hB, xg_tk_1 hB, xg_tk_2 hB, xg_tk_3 hB, xg_tk_4 hB, xg_tk_5 hB, xg_tk_6 hB, xp_tk_6 hB, xg_tk_7 hB, xp_tk_7 hB, xg_tk_8 hB, xp_tk_8 hB, xg_tk_9 hB, xp_tk_9 hB, xi_ls hB, iz_lit, iz_le, la]
          (repeat' (first | exact hP | apply And.intro | intro _)) <;> first | omega | (exfalso; omega) | contradiction | exact absurd trivial (by assumption) | (exfalso; simp_all; done)
    obtain ⟨B', ad', s', y1, y2, y3, y4⟩ := loop n.toNat 0 B ad s hB hR (by omega) rfl
    refine CC_x y1 y2 y3 (fls_k m 1 0 (by decide) _) (fls_k m 10 0 (by decide) _) (fun Q => zk_eq ?_ Q)
    have nx := fun o4 => y4 o4 (fun r h' => r = some (.int (iz (flc m n.toNat))) ∧ h' = hx G B' (m 1 0) (m 10 0) ad' s') ⟨rfl, rfl⟩
    clear y1
    simp (disch := first | omega | assumption | (simp; done)) only [u_99_0, u_99_1, u_99_2, u_99_5, u_99_6, u_99_8, u_99_12, u_99_13, u_99_14, u_99_15, u_99_16, u_99_18, u_99_19, u_99_22, u_99_23, u_99_26, u_99_27, u_99_30, u_99_30N, u_99_32, u_99_34, u_99_34N, u_99_37, u_99_40, u_99_41, u_99_43, u_99_46, u_99_49, u_99_50, u_99_52, u_99_55, u_99_57, u_99_60, u_99_63, u_99_66, u_99_69, u_99_72, u_99_73, true_or, or_true, zk_li1_s, zk_ll1_s, zk_la1_r, zk_la1_n, zk_lg0, zk_lgs, zk_co_n, zk_co_i, zk_co_r, zk_co_u, zk_co_l, zk_l1_0, zk_l1_1, zk_l1_s, zk_l2_0, zk_l2_1, zk_l2_s, zk_sm0, zk_smi, zk_smr, zk_smn, zk_sml, zk_fi, zk_fz, zk_fo, zk_fn, zk_fa, zk_ts, zk_tn, zk_cases, true_and, and_true, List.getElem?_cons_zero, List.getElem?_cons_succ, List.length_cons, List.length_nil, Nat.reduceAdd, Nat.reduceLT, Nat.reduceLeDiff, List.set_cons_zero, List.set_cons_succ, va_rf, xi_tk hB, xg_tk_0 hB, xg_tk_1 hB, xg_tk_2 hB, xg_tk_3 hB, xg_tk_4 hB, xg_tk_5 hB, xg_tk_6 hB, xp_tk_6 hB, xg_tk_7 hB, xp_tk_7 hB, xg_tk_8 hB, xp_tk_8 hB, xg_tk_9 hB, xp_tk_9 hB, iz_lit, iz_lt, iz_le]
    (repeat' (first | exact nx _ | apply And.intro | intro _)) <;> first | omega | (exfalso; omega) | contradiction | exact absurd trivial (by assumption) | (exfalso; simp_all; done)
  · rw [if_neg c, if_neg c]
    refine CC_q hB hR (fun Q => zk_eq ?_ Q)
    simp (disch := first | omega | assumption | (simp; done)) only [u_99_0, u_99_1, u_99_2, u_99_5, u_99_6, u_99_8, u_99_11, u_99_12, u_99_14, u_99_15, u_99_16, u_99_17, u_99_18, u_99_19, u_99_22, u_99_23, u_99_26, u_99_27, u_99_30, u_99_30N, u_99_32, u_99_34, u_99_34N, u_99_37, u_99_40, u_99_41, u_99_43, u_99_46, u_99_49, u_99_50, u_99_52, u_99_55, u_99_57, u_99_60, u_99_63, u_99_66, u_99_69, u_99_72, u_99_73, true_or, or_true, zk_li1_s, zk_ll1_s, zk_la1_r, zk_la1_n, zk_lg0, zk_lgs, zk_co_n, zk_co_i, zk_co_r, zk_co_u, zk_co_l, zk_l1_0, zk_l1_1, zk_l1_s, zk_l2_0, zk_l2_1, zk_l2_s, zk_sm0, zk_smi, zk_smr, zk_smn, zk_sml, zk_fi, zk_fz, zk_fo, zk_fn, zk_fa, zk_ts, zk_tn, zk_cases, true_and, and_true, List.getElem?_cons_zero, List.getElem?_cons_succ, List.length_cons, List.length_nil, Nat.reduceAdd, Nat.reduceLT, Nat.reduceLeDiff, List.set_cons_zero, List.set_cons_succ, va_rf, xi_tk hB, xg_tk_0 hB, xg_tk_1 hB, xg_tk_2 hB, xg_tk_3 hB, xg_tk_4 hB, xg_tk_5 hB, xg_tk_6 hB, xp_tk_6 hB, xg_tk_7 hB, xp_tk_7 hB, xg_tk_8 hB, xp_tk_8 hB, xg_tk_9 hB, xp_tk_9 hB, iz_lit, iz_neg, iz_lt, iz_le]
    all_goals ((repeat' (first | exact trivial | exact ⟨rfl, rfl⟩ | rfl | apply And.intro | intro _)) <;> first | omega | (exfalso; omega) | contradiction | (exfalso; simp_all; done) | trace_state)
end CFLO
