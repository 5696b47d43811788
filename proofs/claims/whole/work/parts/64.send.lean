/-! the class's letters: sending and answering -/
def csnd (s : mS) (kd fr to j b a u g : Int) : mS := csay (cps s kd fr to j) (cri s) b a u g
def crep (s : mS) (kd a u g : Int) : mS := csnd s kd (s 54 (8 * 61 + 2)) (s 54 (8 * 61 + 1)) (s 54 (8 * 61 + 3)) (s 54 (8 * 61 + 4)) a u g
def cst1 (s : mS) (kd fr j b a g to : Int) : mS := if to = fr then s else csnd s kd fr to j b a 0 g
def csto (s : mS) (kd fr j b a g : Int) : mS := cst1 (cst1 (cst1 s kd fr j b a g 0) kd fr j b a g 1) kd fr j b a g 2
theorem cad_k (s : mS) (i a b c d : Int) (k : Nat) (z : Int) (h : k ≠ 54) : cad s i a b c d k z = s k z := by
  unfold cad; rw [up_k _ _ _ _ h, up_k _ _ _ _ h, up_k _ _ _ _ h, up_k _ _ _ _ h]
theorem csay_k (s : mS) (i a b c d : Int) (k : Nat) (z : Int) (h : k ≠ 54) : csay s i a b c d k z = s k z := by
  unfold csay; rw [up_k _ _ _ _ h, up_k _ _ _ _ h, up_k _ _ _ _ h, up_k _ _ _ _ h]
theorem cps_k (s : mS) (a b c d : Int) (k : Nat) (z : Int) (h : k ≠ 54) (h1 : k ≠ 51) (h2 : k ≠ 53) : cps s a b c d k z = s k z := by
  unfold cps
  split
  · rw [cad_k _ _ _ _ _ _ _ _ h, up_k _ _ _ _ h2]
  · rw [up_k _ _ _ _ h1]
theorem cps_53 (s : mS) (a b c d : Int) : cps s a b c d 53 0 = if s 53 0 < 60 then s 53 0 + 1 else s 53 0 := by
  unfold cps
  split
  · rw [cad_k _ _ _ _ _ _ _ _ (by decide), up_e]
  · rw [up_k _ _ _ _ (by decide)]
theorem csnd_k (s : mS) (kd fr to j b a u g : Int) (k : Nat) (z : Int) (h : k ≠ 54) (h1 : k ≠ 51) (h2 : k ≠ 53) : csnd s kd fr to j b a u g k z = s k z := by
  unfold csnd; rw [csay_k _ _ _ _ _ _ _ _ h, cps_k _ _ _ _ _ _ _ h h1 h2]
theorem csnd_53 (s : mS) (kd fr to j b a u g : Int) : csnd s kd fr to j b a u g 53 0 = if s 53 0 < 60 then s 53 0 + 1 else s 53 0 := by
  unfold csnd; rw [csay_k _ _ _ _ _ _ _ _ (by decide), cps_53]
theorem csnd_sz {s : mS} (hs : 0 ≤ s 53 0 ∧ s 53 0 ≤ 60) (kd fr to j b a u g : Int) : 0 ≤ csnd s kd fr to j b a u g 53 0 ∧ csnd s kd fr to j b a u g 53 0 ≤ 60 := by
  rw [csnd_53]; split <;> omega
theorem csnd_t {s : mS} (hs : 0 ≤ s 53 0 ∧ s 53 0 ≤ 60) (kd fr to j b a u g z : Int) (hz : 488 ≤ z) : csnd s kd fr to j b a u g 54 z = s 54 z := by
  unfold csnd csay cps cri
  by_cases c : s 53 0 < 60
  · rw [if_pos c, if_pos c]
    unfold cad
    rw [up_ne _ _ (by omega), up_ne _ _ (by omega), up_ne _ _ (by omega), up_ne _ _ (by omega), up_ne _ _ (by omega), up_ne _ _ (by omega), up_ne _ _ (by omega), up_ne _ _ (by omega), up_k _ _ _ _ (by decide)]
  · rw [if_neg c, if_neg c, up_ne _ _ (by omega), up_ne _ _ (by omega), up_ne _ _ (by omega), up_ne _ _ (by omega), up_k _ _ _ _ (by decide)]
theorem cst1_sz {s : mS} (hs : 0 ≤ s 53 0 ∧ s 53 0 ≤ 60) (kd fr j b a g to : Int) : 0 ≤ cst1 s kd fr j b a g to 53 0 ∧ cst1 s kd fr j b a g to 53 0 ≤ 60 := by
  unfold cst1; split
  · exact hs
  · exact csnd_sz hs _ _ _ _ _ _ _ _
theorem cst1_k (s : mS) (kd fr j b a g to : Int) (k : Nat) (z : Int) (h : k ≠ 54) (h1 : k ≠ 51) (h2 : k ≠ 53) : cst1 s kd fr j b a g to k z = s k z := by
  unfold cst1; split
  · rfl
  · exact csnd_k _ _ _ _ _ _ _ _ _ _ _ h h1 h2
theorem csto_k (s : mS) (kd fr j b a g : Int) (k : Nat) (z : Int) (h : k ≠ 54) (h1 : k ≠ 51) (h2 : k ≠ 53) : csto s kd fr j b a g k z = s k z := by
  unfold csto; rw [cst1_k _ _ _ _ _ _ _ _ _ _ h h1 h2, cst1_k _ _ _ _ _ _ _ _ _ _ h h1 h2, cst1_k _ _ _ _ _ _ _ _ _ _ h h1 h2]
theorem csto_sz {s : mS} (hs : 0 ≤ s 53 0 ∧ s 53 0 ≤ 60) (kd fr j b a g : Int) : 0 ≤ csto s kd fr j b a g 53 0 ∧ csto s kd fr j b a g 53 0 ≤ 60 := cst1_sz (cst1_sz (cst1_sz hs _ _ _ _ _ _ _) _ _ _ _ _ _ _) _ _ _ _ _ _ _
theorem cri_r {s : mS} (hs : 0 ≤ s 53 0 ∧ s 53 0 ≤ 60) : 0 ≤ cri s ∧ cri s ≤ 60 := by unfold cri; split <;> omega
section SEND
variable {G : zk_G} {B : zk_H} {nz nj : Int} {ad : Int → Nat}
theorem c_sendTo (hB : hxo G B nz nj ad) (s : mS) (hs : 0 ≤ s 53 0 ∧ s 53 0 ≤ 60) (kd fr j b a g : Int) (hf : 0 ≤ fr ∧ fr < 3) (Q : Option Value → zk_H → Prop) : zk_wp G 88 0 [some (.ref (ad 0)), some (.int (iz kd)), some (.int (iz fr)), some (.int (iz j)), some (.int (iz b)), some (.int (iz a)), some (.int (iz g)), none, none] [] (hx G B nz nj ad s) Q ↔ Q none (hx G B nz nj ad (csto s kd fr j b a g)) := by
  refine zk_eq ?_ Q
  generalize hQ : (fun (r : Option Value) (h' : zk_H) => r = none ∧ h' = hx G B nz nj ad (csto s kd fr j b a g)) = P
  have step : ∀ (t : mS) (to : Int) (o : Option Value), (0 ≤ t 53 0 ∧ t 53 0 ≤ 60) → 0 ≤ to → to < 3 → (∀ o, zk_wp G 88 3 [some (.ref (ad 0)), some (.int (iz kd)), some (.int (iz fr)), some (.int (iz j)), some (.int (iz b)), some (.int (iz a)), some (.int (iz g)), some (.int (iz (to + 1))), o] [] (hx G B nz nj ad (cst1 t kd fr j b a g to)) P) → zk_wp G 88 3 [some (.ref (ad 0)), some (.int (iz kd)), some (.int (iz fr)), some (.int (iz j)), some (.int (iz b)), some (.int (iz a)), some (.int (iz g)), some (.int (iz to)), o] [] (hx G B nz nj ad t) P := by
    intro t to o ht h0 h3 hn
    have cr := cri_r ht
    have ps := c_post hB t ht kd fr to j
    have sy := c_say hB (cps t kd fr to j) (cri t) (by omega) b a 0 g
    rw [u_88_3]
    unfold cst1 at hn
    by_cases c : to = fr
    · rw [if_pos c] at hn
      simp (disch := first | omega | assumption | (simp; done)) only [u_88_0, u_88_1, u_88_5, u_88_6, u_88_9, u_88_11, u_88_12, u_88_16, u_88_19, u_88_20, u_88_21, u_88_23, u_88_24, u_88_27, u_88_27N, u_88_29, u_88_31, u_88_33, u_88_35, u_88_36, u_88_38, u_88_41, u_88_44, u_88_47, true_or, or_true, zk_li1_s, zk_ll1_s, zk_la1_r, zk_la1_n, zk_lg0, zk_lgs, zk_co_n, zk_co_i, zk_co_r, zk_co_u, zk_co_l, zk_l1_0, zk_l1_1, zk_l1_s, zk_l2_0, zk_l2_1, zk_l2_s, zk_sm0, zk_smi, zk_smr, zk_smn, zk_sml, zk_fi, zk_fz, zk_fo, zk_fn, zk_fa, zk_ts, zk_tn, zk_cases, true_and, and_true, List.getElem?_cons_zero, List.getElem?_cons_succ, List.length_cons, List.length_nil, Nat.reduceAdd, Nat.reduceLT, Nat.reduceLeDiff, List.set_cons_zero, List.set_cons_succ, va_rf, iz_lit, iz_le, iz_inj, iz_add]
      refine ⟨fun q => absurd q (by omega), fun _ => ⟨fun _ => hn _, fun q => absurd c q⟩⟩
    · rw [if_neg c] at hn
      simp (disch := first | omega | assumption | (simp; done)) only [u_88_0, u_88_1, u_88_5, u_88_6, u_88_9, u_88_11, u_88_12, u_88_15, u_88_16, u_88_19, u_88_20, u_88_21, u_88_23, u_88_24, u_88_27, u_88_27N, u_88_29, u_88_31, u_88_33, u_88_35, u_88_36, u_88_38, u_88_41, u_88_44, u_88_47, true_or, or_true, zk_li1_s, zk_ll1_s, zk_la1_r, zk_la1_n, zk_lg0, zk_lgs, zk_co_n, zk_co_i, zk_co_r, zk_co_u, zk_co_l, zk_l1_0, zk_l1_1, zk_l1_s, zk_l2_0, zk_l2_1, zk_l2_s, zk_sm0, zk_smi, zk_smr, zk_smn, zk_sml, zk_fi, zk_fz, zk_fo, zk_fn, zk_fa, zk_ts, zk_tn, zk_cases, true_and, and_true, List.getElem?_cons_zero, List.getElem?_cons_succ, List.length_cons, List.length_nil, Nat.reduceAdd, Nat.reduceLT, Nat.reduceLeDiff, List.set_cons_zero, List.set_cons_succ, va_rf, xi_tk hB, xg_tk_0 hB, xg_tk_1 hB, xg_tk_2 hB, xg_tk_3 hB, xg_tk_4 hB, xg_tk_5 hB, xg_tk_6 hB, xp_tk_6 hB, xg_tk_7 hB, xp_tk_7 hB, xg_tk_8 hB, xp_tk_8 hB, xg_tk_9 hB, xp_tk_9 hB, xi_ls hB, xi_le hB, iz_lit, iz_le, iz_inj, iz_add, ps, sy]
      refine ⟨fun q => absurd q (by omega), fun _ => ⟨fun q => absurd q c, fun _ => hn _⟩⟩
  simp (disch := first | omega | assumption | (simp; done)) only [u_88_0, u_88_1, u_88_5, u_88_6, u_88_9, u_88_11, u_88_12, u_88_15, u_88_16, u_88_19, u_88_20, u_88_21, u_88_23, u_88_24, u_88_27, u_88_27N, u_88_29, u_88_31, u_88_33, u_88_35, u_88_36, u_88_38, u_88_41, u_88_44, u_88_47, true_or, or_true, zk_li1_s, zk_ll1_s, zk_la1_r, zk_la1_n, zk_lg0, zk_lgs, zk_co_n, zk_co_i, zk_co_r, zk_co_u, zk_co_l, zk_l1_0, zk_l1_1, zk_l1_s, zk_l2_0, zk_l2_1, zk_l2_s, zk_sm0, zk_smi, zk_smr, zk_smn, zk_sml, zk_fi, zk_fz, zk_fo, zk_fn, zk_fa, zk_ts, zk_tn, zk_cases, true_and, and_true, List.getElem?_cons_zero, List.getElem?_cons_succ, List.length_cons, List.length_nil, Nat.reduceAdd, Nat.reduceLT, Nat.reduceLeDiff, List.set_cons_zero, List.set_cons_succ, va_rf, iz_lit]
  refine step s 0 _ hs (by omega) (by omega) (fun o => ?_)
  refine step _ (0 + 1) _ (cst1_sz hs _ _ _ _ _ _ _) (by omega) (by omega) (fun o => ?_)
  refine step _ (0 + 1 + 1) _ (cst1_sz (cst1_sz hs _ _ _ _ _ _ _) _ _ _ _ _ _ _) (by omega) (by omega) (fun o => ?_)
  rw [u_88_3]
  simp (disch := first | omega | assumption | (simp; done)) only [u_88_0, u_88_1, u_88_5, u_88_6, u_88_11, u_88_12, u_88_15, u_88_16, u_88_19, u_88_20, u_88_21, u_88_23, u_88_24, u_88_27, u_88_27N, u_88_29, u_88_31, u_88_33, u_88_35, u_88_36, u_88_38, u_88_41, u_88_44, u_88_47, true_or, or_true, zk_li1_s, zk_ll1_s, zk_la1_r, zk_la1_n, zk_lg0, zk_lgs, zk_co_n, zk_co_i, zk_co_r, zk_co_u, zk_co_l, zk_l1_0, zk_l1_1, zk_l1_s, zk_l2_0, zk_l2_1, zk_l2_s, zk_sm0, zk_smi, zk_smr, zk_smn, zk_sml, zk_fi, zk_fz, zk_fo, zk_fn, zk_fa, zk_ts, zk_tn, zk_cases, true_and, and_true, List.getElem?_cons_zero, List.getElem?_cons_succ, List.length_cons, List.length_nil, Nat.reduceAdd, Nat.reduceLT, Nat.reduceLeDiff, List.set_cons_zero, List.set_cons_succ, va_rf, iz_lit, iz_le]
  refine ⟨fun _ => ?_, fun q => absurd q (by omega)⟩
  rw [← hQ]
  exact ⟨rfl, rfl⟩
theorem c_reply (hB : hxo G B nz nj ad) (s : mS) (hs : 0 ≤ s 53 0 ∧ s 53 0 ≤ 60) (kd a u g : Int) (Q : Option Value → zk_H → Prop) : zk_wp G 94 0 [some (.ref (ad 0)), some (.ref (ad (10 + 61))), some (.int (iz kd)), some (.int (iz a)), some (.int (iz u)), some (.int (iz g)), none] [] (hx G B nz nj ad s) Q ↔ Q none (hx G B nz nj ad (crep s kd a u g)) := by
  refine zk_eq ?_ Q
  have cr := cri_r hs
  unfold crep
  have e0 := csnd_t hs kd (s 54 (8 * 61 + 2)) (s 54 (8 * 61 + 1)) (s 54 (8 * 61 + 3)) (s 54 (8 * 61 + 4)) a u g (8 * 61 + 4) (by omega)
  have e : cps s kd (s 54 (8 * 61 + 2)) (s 54 (8 * 61 + 1)) (s 54 (8 * 61 + 3)) 54 (8 * 61 + 4) = s 54 (8 * 61 + 4) := by
    rw [← e0]
    unfold csnd csay
    rw [up_ne _ _ (by omega), up_ne _ _ (by omega), up_ne _ _ (by omega), up_ne _ _ (by omega)]
  have ps := c_post hB s hs kd (s 54 (8 * 61 + 2)) (s 54 (8 * 61 + 1)) (s 54 (8 * 61 + 3))
  have sy := c_say hB (cps s kd (s 54 (8 * 61 + 2)) (s 54 (8 * 61 + 1)) (s 54 (8 * 61 + 3))) (cri s) (by omega) (s 54 (8 * 61 + 4)) a u g
  unfold csnd
  simp (disch := first | omega | assumption | (simp; done)) only [u_94_0, u_94_1, u_94_4, u_94_5, u_94_6, u_94_9, u_94_10, u_94_13, u_94_14, u_94_17, u_94_20, u_94_20N, u_94_22, u_94_24, u_94_25, u_94_28, u_94_29, u_94_31, u_94_33, u_94_36, true_or, or_true, zk_li1_s, zk_ll1_s, zk_la1_r, zk_la1_n, zk_lg0, zk_lgs, zk_co_n, zk_co_i, zk_co_r, zk_co_u, zk_co_l, zk_l1_0, zk_l1_1, zk_l1_s, zk_l2_0, zk_l2_1, zk_l2_s, zk_sm0, zk_smi, zk_smr, zk_smn, zk_sml, zk_fi, zk_fz, zk_fo, zk_fn, zk_fa, zk_ts, zk_tn, zk_cases, true_and, and_true, List.getElem?_cons_zero, List.getElem?_cons_succ, List.length_cons, List.length_nil, Nat.reduceAdd, Nat.reduceLT, Nat.reduceLeDiff, List.set_cons_zero, List.set_cons_succ, va_rf, xi_tk hB, xg_tk_0 hB, xg_tk_1 hB, xg_tk_2 hB, xg_tk_3 hB, xg_tk_4 hB, xg_tk_5 hB, xg_tk_6 hB, xp_tk_6 hB, xg_tk_7 hB, xp_tk_7 hB, xg_tk_8 hB, xp_tk_8 hB, xg_tk_9 hB, xp_tk_9 hB, xi_le hB, xg_le_0 hB, xp_le_0 hB, xg_le_1 hB, xp_le_1 hB, xg_le_2 hB, xp_le_2 hB, xg_le_3 hB, xp_le_3 hB, xg_le_4 hB, xp_le_4 hB, xg_le_5 hB, xp_le_5 hB, xg_le_6 hB, xp_le_6 hB, xg_le_7 hB, xp_le_7 hB, xi_ls hB, ps, sy, e]
  all_goals ((repeat' (first | exact trivial | exact ⟨rfl, rfl⟩ | rfl | apply And.intro | intro _)) <;> first | omega | (exfalso; omega) | contradiction | (exfalso; simp_all; done) | trace_state)
def cask (s : mS) (i : Int) : mS := if s 30 i < s 54 (8 * 61 + 4) then crep (up s 30 i (s 54 (8 * 61 + 4))) 1 (s 31 i) (s 32 i) (s 33 i) else crep s 4 (s 30 i) 0 0
theorem c_ask (hB : hxo G B nz nj ad) {s : mS} (hr : rg s) (hs : 0 ≤ s 53 0 ∧ s 53 0 ≤ 60) (i : Int) (hi : 0 ≤ i ∧ i < 36) (Q : Option Value → zk_H → Prop) : zk_wp G 93 0 [some (.ref (ad 0)), some (.ref (ad (10 + 61))), some (.ref (ad (100 + i)))] [] (hx G B nz nj ad s) Q ↔ Q none (hx G B nz nj ad (cask s i)) := by
  refine zk_eq ?_ Q
  have r1 := rg_of hr 30 i
  have r2 := rg_of hr 54 (8 * 61 + 4)
  unfold cask
  by_cases c : s 30 i < s 54 (8 * 61 + 4)
  · rw [if_pos c]
    have rp := c_reply hB (up s 30 i (s 54 (8 * 61 + 4))) (by rw [up_k _ _ _ _ (by decide)]; exact hs) 1 (s 31 i) (s 32 i) (s 33 i)
    have e1 : up s 30 i (s 54 (8 * 61 + 4)) 31 i = s 31 i := up_k _ _ _ _ (by decide)
    have e2 : up s 30 i (s 54 (8 * 61 + 4)) 32 i = s 32 i := up_k _ _ _ _ (by decide)
    have e3 : up s 30 i (s 54 (8 * 61 + 4)) 33 i = s 33 i := up_k _ _ _ _ (by decide)
    simp (disch := first | omega | assumption | (simp; done)) only [u_93_0, u_93_1, u_93_4, u_93_5, u_93_8, u_93_11, u_93_12, u_93_13, u_93_16, u_93_19, u_93_20, u_93_21, u_93_22, u_93_23, u_93_26, u_93_27, u_93_30, u_93_31, u_93_34, u_93_37, u_93_41, u_93_42, u_93_43, u_93_44, u_93_47, u_93_48, u_93_49, u_93_52, true_or, or_true, zk_li1_s, zk_ll1_s, zk_la1_r, zk_la1_n, zk_lg0, zk_lgs, zk_co_n, zk_co_i, zk_co_r, zk_co_u, zk_co_l, zk_l1_0, zk_l1_1, zk_l1_s, zk_l2_0, zk_l2_1, zk_l2_s, zk_sm0, zk_smi, zk_smr, zk_smn, zk_sml, zk_fi, zk_fz, zk_fo, zk_fn, zk_fa, zk_ts, zk_tn, zk_cases, true_and, and_true, List.getElem?_cons_zero, List.getElem?_cons_succ, List.length_cons, List.length_nil, Nat.reduceAdd, Nat.reduceLT, Nat.reduceLeDiff, List.set_cons_zero, List.set_cons_succ, va_rf, xi_re hB, xg_re_0 hB, xg_re_1 hB, xp_re_1 hB, xg_re_2 hB, xp_re_2 hB, xg_re_3 hB, xp_re_3 hB, xg_re_4 hB, xp_re_4 hB, xg_re_5 hB, xp_re_5 hB, xi_le hB, xg_le_0 hB, xp_le_0 hB, xg_le_1 hB, xp_le_1 hB, xg_le_2 hB, xp_le_2 hB, xg_le_3 hB, xp_le_3 hB, xg_le_4 hB, xp_le_4 hB, xg_le_5 hB, xp_le_5 hB, xg_le_6 hB, xp_le_6 hB, xg_le_7 hB, xp_le_7 hB, xi_tk hB, iz_lit, iz_le, e1, e2, e3, rp]
    all_goals ((repeat' (first | exact trivial | exact ⟨rfl, rfl⟩ | rfl | apply And.intro | intro _)) <;> first | omega | (exfalso; omega) | contradiction | (exfalso; simp_all; done) | trace_state)
  · rw [if_neg c]
    have rp := c_reply hB s hs 4 (s 30 i) 0 0
    simp (disch := first | omega | assumption | (simp; done)) only [u_93_0, u_93_1, u_93_4, u_93_5, u_93_8, u_93_12, u_93_13, u_93_16, u_93_19, u_93_20, u_93_21, u_93_22, u_93_23, u_93_26, u_93_27, u_93_30, u_93_31, u_93_34, u_93_37, u_93_40, u_93_41, u_93_42, u_93_43, u_93_44, u_93_47, u_93_48, u_93_49, u_93_52, true_or, or_true, zk_li1_s, zk_ll1_s, zk_la1_r, zk_la1_n, zk_lg0, zk_lgs, zk_co_n, zk_co_i, zk_co_r, zk_co_u, zk_co_l, zk_l1_0, zk_l1_1, zk_l1_s, zk_l2_0, zk_l2_1, zk_l2_s, zk_sm0, zk_smi, zk_smr, zk_smn, zk_sml, zk_fi, zk_fz, zk_fo, zk_fn, zk_fa, zk_ts, zk_tn, zk_cases, true_and, and_true, List.getElem?_cons_zero, List.getElem?_cons_succ, List.length_cons, List.length_nil, Nat.reduceAdd, Nat.reduceLT, Nat.reduceLeDiff, List.set_cons_zero, List.set_cons_succ, va_rf, xi_re hB, xg_re_0 hB, xg_re_1 hB, xp_re_1 hB, xg_re_2 hB, xp_re_2 hB, xg_re_3 hB, xp_re_3 hB, xg_re_4 hB, xp_re_4 hB, xg_re_5 hB, xp_re_5 hB, xi_le hB, xg_le_0 hB, xp_le_0 hB, xg_le_1 hB, xp_le_1 hB, xg_le_2 hB, xp_le_2 hB, xg_le_3 hB, xp_le_3 hB, xg_le_4 hB, xp_le_4 hB, xg_le_5 hB, xp_le_5 hB, xg_le_6 hB, xp_le_6 hB, xg_le_7 hB, xp_le_7 hB, xi_tk hB, iz_lit, iz_le, rp]
    all_goals ((repeat' (first | exact trivial | exact ⟨rfl, rfl⟩ | rfl | apply And.intro | intro _)) <;> first | omega | (exfalso; omega) | contradiction | (exfalso; simp_all; done) | trace_state)
def cwri (s : mS) (i : Int) : mS := if s 30 i ≤ s 54 (8 * 61 + 4) then crep (cacc (up s 30 i (s 54 (8 * 61 + 4))) i (s 54 (8 * 61 + 4)) (s 54 (8 * 61 + 5)) (s 54 (8 * 61 + 7))) 3 0 0 0 else crep s 4 (s 30 i) 0 0
theorem cacc_k (s : mS) (i b u g : Int) (k : Nat) (z : Int) (h : k ≠ 31) (h1 : k ≠ 32) (h2 : k ≠ 33) : cacc s i b u g k z = s k z := by
  unfold cacc; rw [up_k _ _ _ _ h2, up_k _ _ _ _ h1, up_k _ _ _ _ h]
theorem cend_k (s : mS) (i : Int) (k : Nat) (z : Int) (h : k ≠ 36) (h1 : k ≠ 35) (h2 : k ≠ 66) : cend s i k z = s k z := by
  unfold cend; rw [up_k _ _ _ _ h2, up_k _ _ _ _ h1, up_k _ _ _ _ h]
theorem c_wri (hB : hxo G B nz nj ad) {s : mS} (hr : rg s) (hs : 0 ≤ s 53 0 ∧ s 53 0 ≤ 60) (i : Int) (hi : 0 ≤ i ∧ i < 36) (Q : Option Value → zk_H → Prop) : zk_wp G 95 0 [some (.ref (ad 0)), some (.ref (ad (10 + 61))), some (.ref (ad (100 + i)))] [] (hx G B nz nj ad s) Q ↔ Q none (hx G B nz nj ad (cwri s i)) := by
  refine zk_eq ?_ Q
  have r1 := rg_of hr 30 i
  have r2 := rg_of hr 54 (8 * 61 + 4)
  unfold cwri
  by_cases c : s 30 i ≤ s 54 (8 * 61 + 4)
  · rw [if_pos c]
    have rp := c_reply hB (cacc (up s 30 i (s 54 (8 * 61 + 4))) i (s 54 (8 * 61 + 4)) (s 54 (8 * 61 + 5)) (s 54 (8 * 61 + 7))) (by rw [cacc_k _ _ _ _ _ _ _ (by decide) (by decide) (by decide), up_k _ _ _ _ (by decide)]; exact hs) 3 0 0 0
    have ac := c_accept hB (up s 30 i (s 54 (8 * 61 + 4))) i hi (s 54 (8 * 61 + 4)) (s 54 (8 * 61 + 5)) (s 54 (8 * 61 + 7))
    have e1 : ∀ z, up s 30 i (s 54 (8 * 61 + 4)) 54 z = s 54 z := fun z => up_k _ _ _ _ (by decide)
    simp (disch := first | omega | assumption | (simp; done)) only [u_95_0, u_95_1, u_95_4, u_95_5, u_95_8, u_95_11, u_95_12, u_95_13, u_95_16, u_95_19, u_95_20, u_95_21, u_95_24, u_95_25, u_95_28, u_95_29, u_95_32, u_95_35, u_95_36, u_95_37, u_95_38, u_95_39, u_95_40, u_95_41, u_95_44, u_95_48, u_95_49, u_95_50, u_95_51, u_95_54, u_95_55, u_95_56, u_95_59, true_or, or_true, zk_li1_s, zk_ll1_s, zk_la1_r, zk_la1_n, zk_lg0, zk_lgs, zk_co_n, zk_co_i, zk_co_r, zk_co_u, zk_co_l, zk_l1_0, zk_l1_1, zk_l1_s, zk_l2_0, zk_l2_1, zk_l2_s, zk_sm0, zk_smi, zk_smr, zk_smn, zk_sml, zk_fi, zk_fz, zk_fo, zk_fn, zk_fa, zk_ts, zk_tn, zk_cases, true_and, and_true, List.getElem?_cons_zero, List.getElem?_cons_succ, List.length_cons, List.length_nil, Nat.reduceAdd, Nat.reduceLT, Nat.reduceLeDiff, List.set_cons_zero, List.set_cons_succ, va_rf, xi_re hB, xg_re_0 hB, xg_re_1 hB, xp_re_1 hB, xg_re_2 hB, xp_re_2 hB, xg_re_3 hB, xp_re_3 hB, xg_re_4 hB, xp_re_4 hB, xg_re_5 hB, xp_re_5 hB, xi_le hB, xg_le_0 hB, xp_le_0 hB, xg_le_1 hB, xp_le_1 hB, xg_le_2 hB, xp_le_2 hB, xg_le_3 hB, xp_le_3 hB, xg_le_4 hB, xp_le_4 hB, xg_le_5 hB, xp_le_5 hB, xg_le_6 hB, xp_le_6 hB, xg_le_7 hB, xp_le_7 hB, xi_tk hB, iz_lit, iz_lt, e1, ac, rp]
    all_goals ((repeat' (first | exact trivial | exact ⟨rfl, rfl⟩ | rfl | apply And.intro | intro _)) <;> first | omega | (exfalso; omega) | contradiction | (exfalso; simp_all; done) | trace_state)
  · rw [if_neg c]
    have rp := c_reply hB s hs 4 (s 30 i) 0 0
    simp (disch := first | omega | assumption | (simp; done)) only [u_95_0, u_95_1, u_95_4, u_95_5, u_95_8, u_95_12, u_95_13, u_95_16, u_95_19, u_95_20, u_95_21, u_95_24, u_95_25, u_95_28, u_95_29, u_95_32, u_95_35, u_95_36, u_95_37, u_95_38, u_95_39, u_95_40, u_95_41, u_95_44, u_95_47, u_95_48, u_95_49, u_95_50, u_95_51, u_95_54, u_95_55, u_95_56, u_95_59, true_or, or_true, zk_li1_s, zk_ll1_s, zk_la1_r, zk_la1_n, zk_lg0, zk_lgs, zk_co_n, zk_co_i, zk_co_r, zk_co_u, zk_co_l, zk_l1_0, zk_l1_1, zk_l1_s, zk_l2_0, zk_l2_1, zk_l2_s, zk_sm0, zk_smi, zk_smr, zk_smn, zk_sml, zk_fi, zk_fz, zk_fo, zk_fn, zk_fa, zk_ts, zk_tn, zk_cases, true_and, and_true, List.getElem?_cons_zero, List.getElem?_cons_succ, List.length_cons, List.length_nil, Nat.reduceAdd, Nat.reduceLT, Nat.reduceLeDiff, List.set_cons_zero, List.set_cons_succ, va_rf, xi_re hB, xg_re_0 hB, xg_re_1 hB, xp_re_1 hB, xg_re_2 hB, xp_re_2 hB, xg_re_3 hB, xp_re_3 hB, xg_re_4 hB, xp_re_4 hB, xg_re_5 hB, xp_re_5 hB, xi_le hB, xg_le_0 hB, xp_le_0 hB, xg_le_1 hB, xp_le_1 hB, xg_le_2 hB, xp_le_2 hB, xg_le_3 hB, xp_le_3 hB, xg_le_4 hB, xp_le_4 hB, xg_le_5 hB, xp_le_5 hB, xg_le_6 hB, xp_le_6 hB, xg_le_7 hB, xp_le_7 hB, xi_tk hB, iz_lit, iz_lt, rp]
    all_goals ((repeat' (first | exact trivial | exact ⟨rfl, rfl⟩ | rfl | apply And.intro | intro _)) <;> first | omega | (exfalso; omega) | contradiction | (exfalso; simp_all; done) | trace_state)
def cfi1 (s : mS) (i j : Int) : mS := if s 67 i = 0 then s else up s 45 j (s 45 j + 1)
def cfi2 (s : mS) (i : Int) : mS := if s 66 i = 2147483647 then s else csnd s 5 (s 54 (8 * 61 + 2)) (s 54 (8 * 61 + 3) % 2) (s 54 (8 * 61 + 3)) (s 65 i) (s 66 i) 0 0
def cfin (s : mS) (i j : Int) : mS := if s 36 i = 2 ∧ s 35 i = s 54 (8 * 61 + 4) then cend (cfi2 (cfi1 s i j) i) i else s
theorem cfi1_k (s : mS) (i j : Int) (k : Nat) (z : Int) (h : k ≠ 45) : cfi1 s i j k z = s k z := by
  unfold cfi1; split
  · rfl
  · exact up_k _ _ _ _ h
theorem c_fin (hB : hxo G B nz nj ad) {s : mS} (hr : rg s) (hs : 0 ≤ s 53 0 ∧ s 53 0 ≤ 60) (i j : Int) (hi : 0 ≤ i ∧ i < 36) (hj : 0 ≤ j ∧ j < nj) (hl : 0 ≤ s 54 (8 * 61 + 3)) (Q : Option Value → zk_H → Prop) : zk_wp G 96 0 [some (.ref (ad 0)), some (.ref (ad (10 + 61))), some (.ref (ad (220 + j))), some (.ref (ad (140 + i))), none] [] (hx G B nz nj ad s) Q ↔ Q none (hx G B nz nj ad (cfin s i j)) := by
  refine zk_eq ?_ Q
  have r1 := rg_of hr 36 i
  have r2 := rg_of hr 35 i
  have r3 := rg_of hr 54 (8 * 61 + 4)
  have r4 := rg_of hr 67 i
  have r5 := rg_of hr 66 i
  have r6 := rg_of hr 54 (8 * 61 + 3)
  unfold cfin
  by_cases c : s 36 i = 2 ∧ s 35 i = s 54 (8 * 61 + 4)
  · rw [if_pos c]
    generalize hQ : (fun (r : Option Value) (h' : zk_H) => r = none ∧ h' = hx G B nz nj ad (cend (cfi2 (cfi1 s i j) i) i)) = P
    -- from 37 on
    have tail : ∀ (t : mS) (o : Option Value), t = cfi1 s i j → zk_wp G 96 37 [some (.ref (ad 0)), some (.ref (ad (10 + 61))), some (.ref (ad (220 + j))), some (.ref (ad (140 + i))), none] [] (hx G B nz nj ad t) P := by
      intro t o ht
      have e66 : t 66 i = s 66 i := by rw [ht]; exact cfi1_k _ _ _ _ _ (by decide)
      have e65 : t 65 i = s 65 i := by rw [ht]; exact cfi1_k _ _ _ _ _ (by decide)
      have e54 : ∀ z, t 54 z = s 54 z := fun z => by rw [ht]; exact cfi1_k _ _ _ _ _ (by decide)
      have e53 : t 53 0 = s 53 0 := by rw [ht]; exact cfi1_k _ _ _ _ _ (by decide)
      have cr := cri_r (s := t) (by rw [e53]; exact hs)
      rw [u_96_37]
      rw [← hQ, ← ht]
      unfold cfi2
      by_cases c2 : t 66 i = 2147483647
      · rw [if_pos c2]
        have en := c_end hB t i hi
        simp (disch := first | omega | assumption | (simp; done)) only [u_96_0, u_96_1, u_96_4, u_96_5, u_96_8, u_96_9, u_96_12, u_96_13, u_96_16, u_96_19, u_96_20, u_96_21, u_96_24, u_96_27, u_96_28i, u_96_28r, u_96_28n, u_96_29, u_96_32, u_96_33, u_96_34, u_96_38, u_96_41, u_96_43, u_96_47, u_96_50, u_96_51, u_96_52, u_96_55, u_96_56, u_96_59, u_96_60, u_96_61, u_96_62, u_96_65, u_96_68, u_96_68N, u_96_70, u_96_72, u_96_73, u_96_76, u_96_77, u_96_80, u_96_81, u_96_82, u_96_85, u_96_86, u_96_89, true_or, or_true, zk_li1_s, zk_ll1_s, zk_la1_r, zk_la1_n, zk_lg0, zk_lgs, zk_co_n, zk_co_i, zk_co_r, zk_co_u, zk_co_l, zk_l1_0, zk_l1_1, zk_l1_s, zk_l2_0, zk_l2_1, zk_l2_s, zk_sm0, zk_smi, zk_smr, zk_smn, zk_sml, zk_fi, zk_fz, zk_fo, zk_fn, zk_fa, zk_ts, zk_tn, zk_cases, true_and, and_true, List.getElem?_cons_zero, List.getElem?_cons_succ, List.length_cons, List.length_nil, Nat.reduceAdd, Nat.reduceLT, Nat.reduceLeDiff, List.set_cons_zero, List.set_cons_succ, va_rf, xi_ru hB, xg_ru_0 hB, xp_ru_0 hB, xg_ru_1 hB, xp_ru_1 hB, xg_ru_2 hB, xp_ru_2 hB, xg_ru_3 hB, xp_ru_3 hB, xg_ru_4 hB, xp_ru_4 hB, xg_ru_5 hB, xp_ru_5 hB, xg_ru_6 hB, xp_ru_6 hB, iz_lit, iz_inj, en, c2]
        all_goals ((repeat' (first | exact trivial | exact ⟨rfl, rfl⟩ | rfl | apply And.intro | intro _)) <;> first | omega | (exfalso; omega) | contradiction | (exfalso; simp_all; done) | trace_state)
      · rw [if_neg c2]
        have en := c_end hB (csnd t 5 (t 54 (8 * 61 + 2)) (t 54 (8 * 61 + 3) % 2) (t 54 (8 * 61 + 3)) (t 65 i) (t 66 i) 0 0) i hi
        have ps := c_post hB t (by rw [e53]; exact hs) 5 (t 54 (8 * 61 + 2)) (t 54 (8 * 61 + 3) % 2) (t 54 (8 * 61 + 3))
        have sy := c_say hB (cps t 5 (t 54 (8 * 61 + 2)) (t 54 (8 * 61 + 3) % 2) (t 54 (8 * 61 + 3))) (cri t) (by omega) (t 65 i) (t 66 i) 0 0
        have p1 : ∀ z, cps t 5 (t 54 (8 * 61 + 2)) (t 54 (8 * 61 + 3) % 2) (t 54 (8 * 61 + 3)) 65 z = t 65 z := fun z => cps_k _ _ _ _ _ _ _ (by decide) (by decide) (by decide)
        have p2 : ∀ z, cps t 5 (t 54 (8 * 61 + 2)) (t 54 (8 * 61 + 3) % 2) (t 54 (8 * 61 + 3)) 66 z = t 66 z := fun z => cps_k _ _ _ _ _ _ _ (by decide) (by decide) (by decide)
        have h1 : 0 ≤ t 54 (8 * 61 + 3) ∧ t 54 (8 * 61 + 3) ≤ 2147483647 := by rw [e54]; omega
        have rm : iz (t 54 (8 * 61 + 3)) - iz (t 54 (8 * 61 + 3)) / iz 2 * iz 2 = iz (t 54 (8 * 61 + 3) % 2) := by
          rw [iz_div h1 (by omega), iz_mul, iz_sub]
          congr 1
          omega
        have n2 : ¬ (iz 2 : Int32) = 0 := by decide
        have n3 : ¬ (iz 2 : Int32) = iz 0 := by decide
        have sn : csay (cps t 5 (t 54 (8 * 61 + 2)) (t 54 (8 * 61 + 3) % 2) (t 54 (8 * 61 + 3))) (cri t) (t 65 i) (t 66 i) 0 0 = csnd t 5 (t 54 (8 * 61 + 2)) (t 54 (8 * 61 + 3) % 2) (t 54 (8 * 61 + 3)) (t 65 i) (t 66 i) 0 0 := rfl
        simp (disch := first | omega | assumption | (simp; done)) only [u_96_0, u_96_1, u_96_4, u_96_5, u_96_8, u_96_9, u_96_12, u_96_13, u_96_16, u_96_19, u_96_20, u_96_21, u_96_24, u_96_27, u_96_28i, u_96_28r, u_96_28n, u_96_29, u_96_32, u_96_33, u_96_34, u_96_38, u_96_41, u_96_43, u_96_46, u_96_47, u_96_50, u_96_51, u_96_52, u_96_55, u_96_56, u_96_59, u_96_60, u_96_61, u_96_62, u_96_65, u_96_68, u_96_68N, u_96_70, u_96_72, u_96_73, u_96_76, u_96_77, u_96_80, u_96_81, u_96_82, u_96_85, u_96_86, u_96_89, true_or, or_true, zk_li1_s, zk_ll1_s, zk_la1_r, zk_la1_n, zk_lg0, zk_lgs, zk_co_n, zk_co_i, zk_co_r, zk_co_u, zk_co_l, zk_l1_0, zk_l1_1, zk_l1_s, zk_l2_0, zk_l2_1, zk_l2_s, zk_sm0, zk_smi, zk_smr, zk_smn, zk_sml, zk_fi, zk_fz, zk_fo, zk_fn, zk_fa, zk_ts, zk_tn, zk_cases, true_and, and_true, List.getElem?_cons_zero, List.getElem?_cons_succ, List.length_cons, List.length_nil, Nat.reduceAdd, Nat.reduceLT, Nat.reduceLeDiff, List.set_cons_zero, List.set_cons_succ, va_rf, xi_tk hB, xg_tk_0 hB, xg_tk_1 hB, xg_tk_2 hB, xg_tk_3 hB, xg_tk_4 hB, xg_tk_5 hB, xg_tk_6 hB, xp_tk_6 hB, xg_tk_7 hB, xp_tk_7 hB, xg_tk_8 hB, xp_tk_8 hB, xg_tk_9 hB, xp_tk_9 hB, xi_ru hB, xg_ru_0 hB, xp_ru_0 hB, xg_ru_1 hB, xp_ru_1 hB, xg_ru_2 hB, xp_ru_2 hB, xg_ru_3 hB, xp_ru_3 hB, xg_ru_4 hB, xp_ru_4 hB, xg_ru_5 hB, xp_ru_5 hB, xg_ru_6 hB, xp_ru_6 hB, xi_le hB, xg_le_0 hB, xp_le_0 hB, xg_le_1 hB, xp_le_1 hB, xg_le_2 hB, xp_le_2 hB, xg_le_3 hB, xp_le_3 hB, xg_le_4 hB, xp_le_4 hB, xg_le_5 hB, xp_le_5 hB, xg_le_6 hB, xp_le_6 hB, xg_le_7 hB, xp_le_7 hB, xi_ls hB, iz_lit, iz_inj, rm, ps, sy, p1, p2, sn, en]
        all_goals ((repeat' (first | exact trivial | exact ⟨rfl, rfl⟩ | rfl | apply And.intro | intro _)) <;> first | omega | (exfalso; omega) | contradiction | (exfalso; simp_all; done) | trace_state)
    have e1 : cfi1 s i j = (if s 67 i = 0 then s else up s 45 j (s 45 j + 1)) := rfl
    have t0 : s 67 i = 0 → zk_wp G 96 37 [some (.ref (ad 0)), some (.ref (ad (10 + 61))), some (.ref (ad (220 + j))), some (.ref (ad (140 + i))), none] [] (hx G B nz nj ad s) P := fun q => tail s none (by rw [e1, if_pos q])
    have t1 : ¬ s 67 i = 0 → zk_wp G 96 37 [some (.ref (ad 0)), some (.ref (ad (10 + 61))), some (.ref (ad (220 + j))), some (.ref (ad (140 + i))), none] [] (hx G B nz nj ad (up s 45 j (s 45 j + 1))) P := fun q => tail _ none (by rw [e1, if_neg q])
    simp (disch := first | omega | assumption | (simp; done)) only [u_96_0, u_96_1, u_96_4, u_96_5, u_96_8, u_96_9, u_96_12, u_96_13, u_96_16, u_96_19, u_96_20, u_96_21, u_96_24, u_96_27, u_96_28i, u_96_28r, u_96_28n, u_96_29, u_96_32, u_96_33, u_96_34, u_96_38, u_96_41, u_96_43, u_96_46, u_96_47, u_96_50, u_96_51, u_96_52, u_96_55, u_96_56, u_96_59, u_96_60, u_96_61, u_96_62, u_96_65, u_96_68, u_96_68N, u_96_70, u_96_72, u_96_73, u_96_76, u_96_77, u_96_80, u_96_81, u_96_82, u_96_85, u_96_86, u_96_89, true_or, or_true, zk_li1_s, zk_ll1_s, zk_la1_r, zk_la1_n, zk_lg0, zk_lgs, zk_co_n, zk_co_i, zk_co_r, zk_co_u, zk_co_l, zk_l1_0, zk_l1_1, zk_l1_s, zk_l2_0, zk_l2_1, zk_l2_s, zk_sm0, zk_smi, zk_smr, zk_smn, zk_sml, zk_fi, zk_fz, zk_fo, zk_fn, zk_fa, zk_ts, zk_tn, zk_cases, true_and, and_true, List.getElem?_cons_zero, List.getElem?_cons_succ, List.length_cons, List.length_nil, Nat.reduceAdd, Nat.reduceLT, Nat.reduceLeDiff, List.set_cons_zero, List.set_cons_succ, va_rf, xi_ru hB, xg_ru_0 hB, xp_ru_0 hB, xg_ru_1 hB, xp_ru_1 hB, xg_ru_2 hB, xp_ru_2 hB, xg_ru_3 hB, xp_ru_3 hB, xg_ru_4 hB, xp_ru_4 hB, xg_ru_5 hB, xp_ru_5 hB, xg_ru_6 hB, xp_ru_6 hB, xi_le hB, xg_le_0 hB, xp_le_0 hB, xg_le_1 hB, xp_le_1 hB, xg_le_2 hB, xp_le_2 hB, xg_le_3 hB, xp_le_3 hB, xg_le_4 hB, xp_le_4 hB, xg_le_5 hB, xp_le_5 hB, xg_le_6 hB, xp_le_6 hB, xg_le_7 hB, xp_le_7 hB, xi_jo hB, xg_jo_0 hB, xg_jo_1 hB, xg_jo_2 hB, xg_jo_3 hB, xp_jo_3 hB, xg_jo_4 hB, xp_jo_4 hB, xg_jo_5 hB, xp_jo_5 hB, xg_jo_6 hB, xp_jo_6 hB, xg_jo_7 hB, xp_jo_7 hB, xg_jo_8 hB, xp_jo_8 hB, iz_lit, iz_inj, iz_add]
    refine ⟨fun q => absurd c.1 q, fun _ => ⟨fun _ => ⟨t0, t1⟩, fun q => absurd c.2 q⟩⟩
  · rw [if_neg c]
    simp (disch := first | omega | assumption | (simp; done)) only [u_96_0, u_96_1, u_96_4, u_96_5, u_96_8, u_96_9, u_96_12, u_96_13, u_96_16, u_96_19, u_96_21, u_96_24, u_96_27, u_96_28i, u_96_28r, u_96_28n, u_96_29, u_96_32, u_96_33, u_96_34, u_96_37, u_96_38, u_96_41, u_96_43, u_96_46, u_96_47, u_96_50, u_96_51, u_96_52, u_96_55, u_96_56, u_96_59, u_96_60, u_96_61, u_96_62, u_96_65, u_96_68, u_96_68N, u_96_70, u_96_72, u_96_73, u_96_76, u_96_77, u_96_80, u_96_81, u_96_82, u_96_85, u_96_86, u_96_89, true_or, or_true, zk_li1_s, zk_ll1_s, zk_la1_r, zk_la1_n, zk_lg0, zk_lgs, zk_co_n, zk_co_i, zk_co_r, zk_co_u, zk_co_l, zk_l1_0, zk_l1_1, zk_l1_s, zk_l2_0, zk_l2_1, zk_l2_s, zk_sm0, zk_smi, zk_smr, zk_smn, zk_sml, zk_fi, zk_fz, zk_fo, zk_fn, zk_fa, zk_ts, zk_tn, zk_cases, true_and, and_true, List.getElem?_cons_zero, List.getElem?_cons_succ, List.length_cons, List.length_nil, Nat.reduceAdd, Nat.reduceLT, Nat.reduceLeDiff, List.set_cons_zero, List.set_cons_succ, va_rf, xi_ru hB, xg_ru_0 hB, xp_ru_0 hB, xg_ru_1 hB, xp_ru_1 hB, xg_ru_2 hB, xp_ru_2 hB, xg_ru_3 hB, xp_ru_3 hB, xg_ru_4 hB, xp_ru_4 hB, xg_ru_5 hB, xp_ru_5 hB, xg_ru_6 hB, xp_ru_6 hB, xi_le hB, xg_le_0 hB, xp_le_0 hB, xg_le_1 hB, xp_le_1 hB, xg_le_2 hB, xp_le_2 hB, xg_le_3 hB, xp_le_3 hB, xg_le_4 hB, xp_le_4 hB, xg_le_5 hB, xp_le_5 hB, xg_le_6 hB, xp_le_6 hB, xg_le_7 hB, xp_le_7 hB, iz_lit, iz_inj]
    all_goals ((repeat' (first | exact trivial | exact ⟨rfl, rfl⟩ | rfl | apply And.intro | intro _)) <;> first | omega | (exfalso; omega) | contradiction | (exfalso; simp_all; done) | trace_state)
end SEND
