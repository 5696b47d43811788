/-! the model's letters taken out, doubled; crash; count -/
def mrl (m : mS) (i x : Int) : mS := fun c y => if c = 54 ∧ 8 * i ≤ y ∧ y < x then m 54 (y + 8) else if c = 53 ∧ y = 0 then m 53 0 - 1 else if c = 55 ∧ 0 ≤ y ∧ y < 8 then m 54 (8 * i + y) else m c y
def mrem (m : mS) (i : Int) : mS := mrl m i (8 * (m 53 0 - 1))
def mrh (m : mS) (i x : Int) : mS := fun c y => if c = 55 ∧ 0 ≤ y ∧ y < x then m 54 (8 * i + y) else m c y
theorem mrh_s (m : mS) (i x : Int) (hx : 0 ≤ x) : up (mrh m i x) 55 x (m 54 (8 * i + x)) = mrh m i (x + 1) := by
  funext c y
  unfold mrh up
  dsimp only
  by_cases h1 : c = 55
  · subst h1
    rw [if_pos rfl]
    by_cases h2 : y = x
    · subst h2
      rw [if_pos rfl, if_pos ⟨rfl, by omega, by omega⟩]
    · rw [if_neg h2]
      by_cases h3 : 0 ≤ y ∧ y < x
      · rw [if_pos ⟨rfl, h3⟩, if_pos ⟨rfl, by omega, by omega⟩]
      · rw [if_neg (fun q => h3 q.2), if_neg (fun q => h3 ⟨q.2.1, by omega⟩)]
  · rw [if_neg h1, if_neg (fun q => h1 q.1), if_neg (fun q => h1 q.1)]
theorem mrl_0 (m : mS) (i : Int) : up (mrh m i 8) 53 0 (m 53 0 - 1) = mrl m i (8 * i) := by
  funext c y
  unfold mrl mrh up
  dsimp only
  rw [if_neg (by omega : ¬ (c = 54 ∧ 8 * i ≤ y ∧ y < 8 * i))]
  by_cases h1 : c = 53
  · subst h1
    rw [if_pos rfl]
    by_cases h2 : y = 0
    · rw [if_pos h2, if_pos ⟨rfl, h2⟩]
    · rw [if_neg h2, if_neg (c := 53 = 53 ∧ y = 0) (fun q => h2 q.2)]
  · rw [if_neg h1, if_neg (c := c = 53 ∧ y = 0) (fun q => h1 q.1)]
theorem mrl_54 (m : mS) (i x y : Int) (hy : x ≤ y) : mrl m i x 54 y = m 54 y := by
  unfold mrl
  rw [if_neg (by omega), if_neg (by omega), if_neg (by omega)]
theorem mrl_s (m : mS) (i x : Int) (hx : 8 * i ≤ x) : up (mrl m i x) 54 x (m 54 (x + 8)) = mrl m i (x + 1) := by
  funext c y
  unfold mrl up
  dsimp only
  by_cases h1 : c = 54
  · subst h1
    rw [if_pos rfl]
    by_cases h2 : y = x
    · subst h2
      rw [if_pos rfl, if_pos ⟨rfl, by omega, by omega⟩]
    · rw [if_neg h2]
      by_cases h3 : 8 * i ≤ y ∧ y < x
      · rw [if_pos ⟨rfl, h3⟩, if_pos ⟨rfl, by omega, by omega⟩]
      · rw [if_neg (fun q => h3 q.2), if_neg (c := 54 = 54 ∧ 8 * i ≤ y ∧ y < x + 1) (fun q => h3 ⟨q.2.1, by omega⟩)]
  · rw [if_neg h1, if_neg (fun q => h1 q.1), if_neg (c := c = 54 ∧ 8 * i ≤ y ∧ y < x + 1) (fun q => h1 q.1)]
def mtw (m : mS) (i x : Int) : mS := fun c y => if c = 54 ∧ 8 * m 53 0 ≤ y ∧ y < 8 * m 53 0 + x then m 54 (8 * i + (y - 8 * m 53 0)) else m c y
theorem mtw_s (m : mS) (i x : Int) (hx : 0 ≤ x) : up (mtw m i x) 54 (8 * m 53 0 + x) (m 54 (8 * i + x)) = mtw m i (x + 1) := by
  funext c y
  unfold mtw up
  dsimp only
  by_cases h1 : c = 54
  · subst h1
    rw [if_pos rfl]
    by_cases h2 : y = 8 * m 53 0 + x
    · subst h2
      rw [if_pos rfl, if_pos ⟨rfl, by omega, by omega⟩]
      congr 2
      omega
    · rw [if_neg h2]
      by_cases h3 : 8 * m 53 0 ≤ y ∧ y < 8 * m 53 0 + x
      · rw [if_pos ⟨rfl, h3⟩, if_pos ⟨rfl, by omega, by omega⟩]
      · rw [if_neg (fun q => h3 q.2), if_neg (fun q => h3 ⟨q.2.1, by omega⟩)]
  · rw [if_neg h1, if_neg (fun q => h1 q.1), if_neg (fun q => h1 q.1)]
def mcr (m : mS) (sc x : Int) : mS := fun c y => if 12 * sc ≤ y ∧ y < x then (if c = 34 ∨ c = 35 ∨ c = 36 then 0 else if c = 40 then -9 else m c y) else m c y
theorem mcr_s (m : mS) (sc x : Int) (hx : 12 * sc ≤ x) : up (mend (mcr m sc x) x) 34 x 0 = mcr m sc (x + 1) := by
  funext c y
  unfold mend mcr up
  dsimp only
  by_cases h2 : y = x
  · subst h2
    rw [if_pos (by omega : 12 * sc ≤ y ∧ y < y + 1)]
    by_cases c34 : c = 34
    · simp [c34]
    by_cases c35 : c = 35
    · simp [c35]
    by_cases c36 : c = 36
    · simp [c36]
    by_cases c40 : c = 40
    · simp [c40]
    rw [if_neg c34, if_neg c40, if_neg c36, if_neg c35, if_neg (by omega), if_neg (by omega), if_neg c40]
  · have e : (12 * sc ≤ y ∧ y < x + 1) ↔ (12 * sc ≤ y ∧ y < x) := by omega
    simp only [h2, if_false, ite_self, e]
def rcn (m : mS) (a : Int) : Nat → Int
  | 0 => 0
  | n + 1 => rcn m a n + (if 0 < m 35 (a + n) then 1 else 0)
theorem rcn_r (m : mS) (a : Int) : ∀ n : Nat, 0 ≤ rcn m a n ∧ rcn m a n ≤ n := by
  intro n
  induction n with
  | zero => unfold rcn; omega
  | succ n ih => unfold rcn; split <;> omega
section MCALL3
variable {G : zk_G} {B : zk_H} {M : Nat}
theorem d_removes (hB : hpo G B M) {m : mS} (hs : 0 ≤ m 53 0 ∧ m 53 0 ≤ 60) (i : Int) (hi : 0 ≤ i ∧ i < m 53 0) (Q : Option Value → zk_H → Prop) : zk_wp G 164 0 [some (.ref M), some (.int (iz i)), none] [] (hp G B M m) Q ↔ Q (some (.int (iz (m 54 (8 * i))))) (hp G B M (mrem m i)) := by
  refine zk_eq ?_ Q
  generalize hQ : (fun (r : Option Value) (h' : zk_H) => r = some (.int (iz (m 54 (8 * i)))) ∧ h' = hp G B M (mrem m i)) = P
  have loop2 : ∀ (q : Nat) (x : Int), 8 * i ≤ x → x + q = 8 * (m 53 0 - 1) → zk_wp G 164 46 [some (.ref M), some (.int (iz i)), some (.int (iz x))] [] (hp G B M (mrl m i x)) P := by
    intro q
    have e53 : ∀ x, mrl m i x 53 0 = m 53 0 - 1 := fun x => by unfold mrl; rw [if_neg (by omega), if_pos ⟨rfl, rfl⟩]
    induction q with
    | zero =>
      intro x h1 h2
      have e55 : mrl m i x 55 0 = m 54 (8 * i) := by unfold mrl; rw [if_neg (by omega), if_neg (by omega), if_pos ⟨rfl, by omega, by omega⟩, Int.add_zero]
      rw [u_164_46]
      simp (disch := first | omega | assumption | (simp; done)) only [u_164_0, u_164_1, u_164_2, u_164_3, u_164_5, u_164_8, u_164_9, u_164_12, u_164_13, u_164_14, u_164_17, u_164_19, u_164_20, u_164_21, u_164_22, u_164_23, u_164_24, u_164_25, u_164_28, u_164_31, u_164_32i, u_164_32r, u_164_32n, u_164_33, u_164_36, u_164_37, u_164_38, u_164_41, u_164_43, u_164_44, u_164_45, u_164_47, u_164_49, u_164_50, u_164_53, u_164_54, u_164_58, u_164_61, u_164_62, u_164_63, u_164_66, u_164_67, u_164_69, u_164_70, u_164_71, u_164_72, u_164_75, u_164_78, u_164_79, u_164_82, u_164_83, u_164_84, true_or, or_true, zk_li1_s, zk_ll1_s, zk_la1_r, zk_la1_n, zk_lg0, zk_lgs, zk_co_n, zk_co_i, zk_co_r, zk_co_u, zk_co_l, zk_l1_0, zk_l1_1, zk_l1_s, zk_l2_0, zk_l2_1, zk_l2_s, zk_sm0, zk_smi, zk_smr, zk_smn, zk_sml, zk_fi, zk_fz, zk_fo, zk_fn, zk_fa, zk_ts, zk_tn, zk_cases, true_and, and_true, List.getElem?_cons_zero, List.getElem?_cons_succ, List.length_cons, List.length_nil, Nat.reduceAdd, Nat.reduceLT, Nat.reduceLeDiff, List.set_cons_zero, List.set_cons_succ, va_rf, iz_lit, iz_le, iz_mul, mg_53 hB, mw_53 hB, mg_55 hB, mr_55 hB, mw_55 hB, e53, e55]
      refine ⟨fun _ => ?_, fun c => absurd c (by omega)⟩
      rw [← hQ]
      refine ⟨rfl, ?_⟩
      unfold mrem
      rw [show x = 8 * (m 53 0 - 1) by omega]
    | succ q ih =>
      intro x h1 h2
      have e54 := mrl_54 m i x (x + 8) (by omega)
      have st := mrl_s m i x h1
      rw [u_164_46]
      simp (disch := first | omega | assumption | (simp; done)) only [u_164_0, u_164_1, u_164_2, u_164_3, u_164_5, u_164_8, u_164_9, u_164_12, u_164_13, u_164_14, u_164_17, u_164_19, u_164_20, u_164_21, u_164_22, u_164_23, u_164_24, u_164_25, u_164_28, u_164_31, u_164_32i, u_164_32r, u_164_32n, u_164_33, u_164_36, u_164_37, u_164_38, u_164_41, u_164_43, u_164_44, u_164_45, u_164_47, u_164_49, u_164_50, u_164_53, u_164_54, u_164_57, u_164_58, u_164_61, u_164_62, u_164_63, u_164_66, u_164_67, u_164_69, u_164_70, u_164_71, u_164_72, u_164_75, u_164_79, u_164_82, u_164_83, u_164_84, true_or, or_true, zk_li1_s, zk_ll1_s, zk_la1_r, zk_la1_n, zk_lg0, zk_lgs, zk_co_n, zk_co_i, zk_co_r, zk_co_u, zk_co_l, zk_l1_0, zk_l1_1, zk_l1_s, zk_l2_0, zk_l2_1, zk_l2_s, zk_sm0, zk_smi, zk_smr, zk_smn, zk_sml, zk_fi, zk_fz, zk_fo, zk_fn, zk_fa, zk_ts, zk_tn, zk_cases, true_and, and_true, List.getElem?_cons_zero, List.getElem?_cons_succ, List.length_cons, List.length_nil, Nat.reduceAdd, Nat.reduceLT, Nat.reduceLeDiff, List.set_cons_zero, List.set_cons_succ, va_rf, iz_lit, iz_le, iz_mul, iz_add, mg_53 hB, mw_53 hB, mg_54 hB, mr_54 hB, mw_54 hB, e53, e54, st]
      exact ⟨fun c => absurd c (by omega), fun _ => ih (x + 1) (by omega) (by omega)⟩
  have loop1 : ∀ (q : Nat) (x : Int), 0 ≤ x → x + q = 8 → zk_wp G 164 2 [some (.ref M), some (.int (iz i)), some (.int (iz x))] [] (hp G B M (mrh m i x)) P := by
    intro q
    induction q with
    | zero =>
      intro x h1 h2
      have e53 : mrh m i x 53 0 = m 53 0 := by unfold mrh; rw [if_neg (by omega)]
      have e0 := mrl_0 m i
      have hx : x = 8 := by omega
      subst hx
      rw [u_164_2]
      simp (disch := first | omega | assumption | (simp; done)) only [u_164_0, u_164_1, u_164_3, u_164_5, u_164_9, u_164_12, u_164_13, u_164_14, u_164_17, u_164_19, u_164_20, u_164_21, u_164_22, u_164_23, u_164_24, u_164_25, u_164_28, u_164_31, u_164_32i, u_164_32r, u_164_32n, u_164_33, u_164_36, u_164_37, u_164_38, u_164_41, u_164_43, u_164_44, u_164_45, u_164_47, u_164_49, u_164_50, u_164_53, u_164_54, u_164_57, u_164_58, u_164_61, u_164_62, u_164_63, u_164_66, u_164_67, u_164_69, u_164_70, u_164_71, u_164_72, u_164_75, u_164_78, u_164_79, u_164_82, u_164_83, u_164_84, true_or, or_true, zk_li1_s, zk_ll1_s, zk_la1_r, zk_la1_n, zk_lg0, zk_lgs, zk_co_n, zk_co_i, zk_co_r, zk_co_u, zk_co_l, zk_l1_0, zk_l1_1, zk_l1_s, zk_l2_0, zk_l2_1, zk_l2_s, zk_sm0, zk_smi, zk_smr, zk_smn, zk_sml, zk_fi, zk_fz, zk_fo, zk_fn, zk_fa, zk_ts, zk_tn, zk_cases, true_and, and_true, List.getElem?_cons_zero, List.getElem?_cons_succ, List.length_cons, List.length_nil, Nat.reduceAdd, Nat.reduceLT, Nat.reduceLeDiff, List.set_cons_zero, List.set_cons_succ, va_rf, iz_lit, iz_le, iz_mul, iz_sub, mg_53 hB, mw_53 hB, e53, e0]
      exact ⟨fun _ => loop2 (8 * (m 53 0 - 1) - 8 * i).toNat (8 * i) (by omega) (by omega), fun c => absurd c (by omega)⟩
    | succ q ih =>
      intro x h1 h2
      have e54 : mrh m i x 54 (8 * i + x) = m 54 (8 * i + x) := by unfold mrh; rw [if_neg (by omega)]
      have st := mrh_s m i x h1
      rw [u_164_2]
      simp (disch := first | omega | assumption | (simp; done)) only [u_164_0, u_164_1, u_164_3, u_164_5, u_164_8, u_164_9, u_164_12, u_164_13, u_164_14, u_164_17, u_164_19, u_164_20, u_164_21, u_164_22, u_164_23, u_164_24, u_164_25, u_164_28, u_164_32i, u_164_32r, u_164_32n, u_164_33, u_164_36, u_164_37, u_164_38, u_164_41, u_164_43, u_164_44, u_164_45, u_164_46, u_164_47, u_164_49, u_164_50, u_164_53, u_164_54, u_164_57, u_164_58, u_164_61, u_164_62, u_164_63, u_164_66, u_164_67, u_164_69, u_164_70, u_164_71, u_164_72, u_164_75, u_164_78, u_164_79, u_164_82, u_164_83, u_164_84, true_or, or_true, zk_li1_s, zk_ll1_s, zk_la1_r, zk_la1_n, zk_lg0, zk_lgs, zk_co_n, zk_co_i, zk_co_r, zk_co_u, zk_co_l, zk_l1_0, zk_l1_1, zk_l1_s, zk_l2_0, zk_l2_1, zk_l2_s, zk_sm0, zk_smi, zk_smr, zk_smn, zk_sml, zk_fi, zk_fz, zk_fo, zk_fn, zk_fa, zk_ts, zk_tn, zk_cases, true_and, and_true, List.getElem?_cons_zero, List.getElem?_cons_succ, List.length_cons, List.length_nil, Nat.reduceAdd, Nat.reduceLT, Nat.reduceLeDiff, List.set_cons_zero, List.set_cons_succ, va_rf, iz_lit, iz_le, iz_mul, iz_add, mg_54 hB, mr_54 hB, mw_54 hB, mg_55 hB, mr_55 hB, mw_55 hB, e54, st]
      exact ⟨fun c => absurd c (by omega), fun _ => ih (x + 1) (by omega) (by omega)⟩
  simp (disch := first | omega | assumption | (simp; done)) only [u_164_0, u_164_1, u_164_3, u_164_5, u_164_8, u_164_9, u_164_12, u_164_13, u_164_14, u_164_17, u_164_19, u_164_20, u_164_21, u_164_22, u_164_23, u_164_24, u_164_25, u_164_28, u_164_31, u_164_32i, u_164_32r, u_164_32n, u_164_33, u_164_36, u_164_37, u_164_38, u_164_41, u_164_43, u_164_44, u_164_45, u_164_46, u_164_47, u_164_49, u_164_50, u_164_53, u_164_54, u_164_57, u_164_58, u_164_61, u_164_62, u_164_63, u_164_66, u_164_67, u_164_69, u_164_70, u_164_71, u_164_72, u_164_75, u_164_78, u_164_79, u_164_82, u_164_83, u_164_84, true_or, or_true, zk_li1_s, zk_ll1_s, zk_la1_r, zk_la1_n, zk_lg0, zk_lgs, zk_co_n, zk_co_i, zk_co_r, zk_co_u, zk_co_l, zk_l1_0, zk_l1_1, zk_l1_s, zk_l2_0, zk_l2_1, zk_l2_s, zk_sm0, zk_smi, zk_smr, zk_smn, zk_sml, zk_fi, zk_fz, zk_fo, zk_fn, zk_fa, zk_ts, zk_tn, zk_cases, true_and, and_true, List.getElem?_cons_zero, List.getElem?_cons_succ, List.length_cons, List.length_nil, Nat.reduceAdd, Nat.reduceLT, Nat.reduceLeDiff, List.set_cons_zero, List.set_cons_succ, va_rf, iz_lit]
  have l1 := loop1 8 0 (by omega) (by omega)
  have e : mrh m i 0 = m := by funext c y; unfold mrh; rw [if_neg (by omega)]
  rw [e] at l1
  exact l1
theorem d_lose (hB : hpo G B M) {m : mS} (hs : 0 ≤ m 53 0 ∧ m 53 0 ≤ 60) (i : Int) (hi : -2147483648 ≤ i ∧ i ≤ 2147483647) (Q : Option Value → zk_H → Prop) : zk_wp G 180 0 [some (.ref M), some (.int (iz i))] [] (hp G B M m) Q ↔ Q (some (.int (iz (if 0 ≤ i ∧ i < m 53 0 then m 54 (8 * i) else -1)))) (hp G B M (if 0 ≤ i ∧ i < m 53 0 then mrem m i else m)) := by
  have ic := hp_ic hB
  have il := d_isLet hB hs i hi
  refine zk_eq ?_ Q
  by_cases c : 0 ≤ i ∧ i < m 53 0
  · rw [if_pos c, if_pos c]
    rw [if_pos c] at il
    have re := d_removes hB hs i c
    simp (disch := first | omega | assumption | (simp; done)) only [u_180_0, u_180_1, u_180_2, u_180_5, u_180_8, u_180_9, u_180_10, u_180_13, u_180_17, true_or, or_true, zk_li1_s, zk_ll1_s, zk_la1_r, zk_la1_n, zk_lg0, zk_lgs, zk_co_n, zk_co_i, zk_co_r, zk_co_u, zk_co_l, zk_l1_0, zk_l1_1, zk_l1_s, zk_l2_0, zk_l2_1, zk_l2_s, zk_sm0, zk_smi, zk_smr, zk_smn, zk_sml, zk_fi, zk_fz, zk_fo, zk_fn, zk_fa, zk_ts, zk_tn, zk_cases, true_and, and_true, List.getElem?_cons_zero, List.getElem?_cons_succ, List.length_cons, List.length_nil, Nat.reduceAdd, Nat.reduceLT, Nat.reduceLeDiff, List.set_cons_zero, List.set_cons_succ, va_rf, ic, iz_lit, iz_neg, iz_inj, il, re]
    all_goals ((repeat' (first | exact trivial | exact ⟨rfl, rfl⟩ | rfl | apply And.intro | intro _)) <;> first | omega | (exfalso; omega) | contradiction | (exfalso; simp_all; done) | trace_state)
  · rw [if_neg c, if_neg c]
    rw [if_neg c] at il
    simp (disch := first | omega | assumption | (simp; done)) only [u_180_0, u_180_1, u_180_2, u_180_5, u_180_9, u_180_10, u_180_13, u_180_16, u_180_17, true_or, or_true, zk_li1_s, zk_ll1_s, zk_la1_r, zk_la1_n, zk_lg0, zk_lgs, zk_co_n, zk_co_i, zk_co_r, zk_co_u, zk_co_l, zk_l1_0, zk_l1_1, zk_l1_s, zk_l2_0, zk_l2_1, zk_l2_s, zk_sm0, zk_smi, zk_smr, zk_smn, zk_sml, zk_fi, zk_fz, zk_fo, zk_fn, zk_fa, zk_ts, zk_tn, zk_cases, true_and, and_true, List.getElem?_cons_zero, List.getElem?_cons_succ, List.length_cons, List.length_nil, Nat.reduceAdd, Nat.reduceLT, Nat.reduceLeDiff, List.set_cons_zero, List.set_cons_succ, va_rf, ic, iz_lit, iz_neg, iz_inj, il]
    all_goals ((repeat' (first | exact trivial | exact ⟨rfl, rfl⟩ | rfl | apply And.intro | intro _)) <;> first | omega | (exfalso; omega) | contradiction | (exfalso; simp_all; done) | trace_state)
def v_twin (m : mS) (i : Int) : Int := if 0 ≤ i ∧ i < m 53 0 then (if m 53 0 = 60 then -3 else m 53 0 + 1) else -1
def f_twin (m : mS) (i : Int) : mS := if (0 ≤ i ∧ i < m 53 0) ∧ m 53 0 ≠ 60 then up (mtw m i 8) 53 0 (m 53 0 + 1) else m
theorem d_twin (hB : hpo G B M) {m : mS} (hs : 0 ≤ m 53 0 ∧ m 53 0 ≤ 60) (i : Int) (hi : -2147483648 ≤ i ∧ i ≤ 2147483647) (Q : Option Value → zk_H → Prop) : zk_wp G 181 0 [some (.ref M), some (.int (iz i)), none] [] (hp G B M m) Q ↔ Q (some (.int (iz (v_twin m i)))) (hp G B M (f_twin m i)) := by
  have ic := hp_ic hB
  have il := d_isLet hB hs i hi
  refine zk_eq ?_ Q
  unfold v_twin f_twin
  by_cases c : 0 ≤ i ∧ i < m 53 0
  · rw [if_pos c]
    rw [if_pos c] at il
    by_cases c2 : m 53 0 = 60
    · rw [if_pos c2, if_neg (fun q => q.2 c2)]
      simp (disch := first | omega | assumption | (simp; done)) only [u_181_0, u_181_1, u_181_2, u_181_5, u_181_9, u_181_10, u_181_11, u_181_14, u_181_16, u_181_19, u_181_21, u_181_23, u_181_24, u_181_25, u_181_27, u_181_30, u_181_31, u_181_34, u_181_36, u_181_37, u_181_40, u_181_41, u_181_42, u_181_43, u_181_44, u_181_47, u_181_49, u_181_50, u_181_51, u_181_52, u_181_53, u_181_54, u_181_55, u_181_58, u_181_61, u_181_62i, u_181_62r, u_181_62n, u_181_63, u_181_66, u_181_67, u_181_68, u_181_71, u_181_72, u_181_75, true_or, or_true, zk_li1_s, zk_ll1_s, zk_la1_r, zk_la1_n, zk_lg0, zk_lgs, zk_co_n, zk_co_i, zk_co_r, zk_co_u, zk_co_l, zk_l1_0, zk_l1_1, zk_l1_s, zk_l2_0, zk_l2_1, zk_l2_s, zk_sm0, zk_smi, zk_smr, zk_smn, zk_sml, zk_fi, zk_fz, zk_fo, zk_fn, zk_fa, zk_ts, zk_tn, zk_cases, true_and, and_true, List.getElem?_cons_zero, List.getElem?_cons_succ, List.length_cons, List.length_nil, Nat.reduceAdd, Nat.reduceLT, Nat.reduceLeDiff, List.set_cons_zero, List.set_cons_succ, va_rf, ic, iz_lit, iz_neg, iz_inj, il, mg_53 hB, mw_53 hB]
      all_goals ((repeat' (first | exact trivial | exact ⟨rfl, rfl⟩ | rfl | apply And.intro | intro _)) <;> first | omega | (exfalso; omega) | contradiction | (exfalso; simp_all; done) | trace_state)
    · rw [if_neg c2, if_pos ⟨c, c2⟩]
      generalize hQ : (fun (r : Option Value) (h' : zk_H) => r = some (.int (iz (m 53 0 + 1))) ∧ h' = hp G B M (up (mtw m i 8) 53 0 (m 53 0 + 1))) = P
      have e53 : ∀ x, mtw m i x 53 0 = m 53 0 := fun x => by unfold mtw; rw [if_neg (by omega)]
      have loop : ∀ (q : Nat) (x : Int), 0 ≤ x → x + q = 8 → zk_wp G 181 24 [some (.ref M), some (.int (iz i)), some (.int (iz x))] [] (hp G B M (mtw m i x)) P := by
        intro q
        induction q with
        | zero =>
          intro x h1 h2
          have hx : x = 8 := by omega
          subst hx
          rw [u_181_24]
          simp (disch := first | omega | assumption | (simp; done)) only [u_181_0, u_181_1, u_181_2, u_181_5, u_181_8, u_181_9, u_181_10, u_181_11, u_181_14, u_181_16, u_181_19, u_181_21, u_181_22, u_181_23, u_181_25, u_181_27, u_181_31, u_181_34, u_181_36, u_181_37, u_181_40, u_181_41, u_181_42, u_181_43, u_181_44, u_181_47, u_181_49, u_181_50, u_181_51, u_181_52, u_181_53, u_181_54, u_181_55, u_181_58, u_181_61, u_181_62i, u_181_62r, u_181_62n, u_181_63, u_181_66, u_181_67, u_181_68, u_181_71, u_181_72, u_181_75, true_or, or_true, zk_li1_s, zk_ll1_s, zk_la1_r, zk_la1_n, zk_lg0, zk_lgs, zk_co_n, zk_co_i, zk_co_r, zk_co_u, zk_co_l, zk_l1_0, zk_l1_1, zk_l1_s, zk_l2_0, zk_l2_1, zk_l2_s, zk_sm0, zk_smi, zk_smr, zk_smn, zk_sml, zk_fi, zk_fz, zk_fo, zk_fn, zk_fa, zk_ts, zk_tn, zk_cases, true_and, and_true, List.getElem?_cons_zero, List.getElem?_cons_succ, List.length_cons, List.length_nil, Nat.reduceAdd, Nat.reduceLT, Nat.reduceLeDiff, List.set_cons_zero, List.set_cons_succ, va_rf, iz_lit, iz_le, iz_add, mg_53 hB, mw_53 hB, e53, up_e]
          refine ⟨fun _ => ?_, fun c => absurd c (by omega)⟩
          rw [← hQ]
          exact ⟨rfl, rfl⟩
        | succ q ih =>
          intro x h1 h2
          have e54 : mtw m i x 54 (8 * i + x) = m 54 (8 * i + x) := by unfold mtw; rw [if_neg (by omega)]
          have st := mtw_s m i x h1
          rw [u_181_24]
          simp (disch := first | omega | assumption | (simp; done)) only [u_181_0, u_181_1, u_181_2, u_181_5, u_181_8, u_181_9, u_181_10, u_181_11, u_181_14, u_181_16, u_181_19, u_181_21, u_181_22, u_181_23, u_181_25, u_181_27, u_181_30, u_181_31, u_181_34, u_181_36, u_181_37, u_181_40, u_181_41, u_181_42, u_181_43, u_181_44, u_181_47, u_181_49, u_181_50, u_181_51, u_181_52, u_181_53, u_181_54, u_181_55, u_181_58, u_181_62i, u_181_62r, u_181_62n, u_181_63, u_181_66, u_181_67, u_181_68, u_181_71, u_181_72, u_181_75, true_or, or_true, zk_li1_s, zk_ll1_s, zk_la1_r, zk_la1_n, zk_lg0, zk_lgs, zk_co_n, zk_co_i, zk_co_r, zk_co_u, zk_co_l, zk_l1_0, zk_l1_1, zk_l1_s, zk_l2_0, zk_l2_1, zk_l2_s, zk_sm0, zk_smi, zk_smr, zk_smn, zk_sml, zk_fi, zk_fz, zk_fo, zk_fn, zk_fa, zk_ts, zk_tn, zk_cases, true_and, and_true, List.getElem?_cons_zero, List.getElem?_cons_succ, List.length_cons, List.length_nil, Nat.reduceAdd, Nat.reduceLT, Nat.reduceLeDiff, List.set_cons_zero, List.set_cons_succ, va_rf, iz_lit, iz_le, iz_mul, iz_add, mg_53 hB, mw_53 hB, mg_54 hB, mr_54 hB, mw_54 hB, e53, e54, st]
          exact ⟨fun c => absurd c (by omega), fun _ => ih (x + 1) (by omega) (by omega)⟩
      have l1 := loop 8 0 (by omega) (by omega)
      have e : mtw m i 0 = m := by funext c y; unfold mtw; rw [if_neg (by omega)]
      rw [e] at l1
      simp (disch := first | omega | assumption | (simp; done)) only [u_181_0, u_181_1, u_181_2, u_181_5, u_181_9, u_181_10, u_181_11, u_181_14, u_181_16, u_181_19, u_181_21, u_181_22, u_181_23, u_181_25, u_181_27, u_181_30, u_181_31, u_181_34, u_181_36, u_181_37, u_181_40, u_181_41, u_181_42, u_181_43, u_181_44, u_181_47, u_181_49, u_181_50, u_181_51, u_181_52, u_181_53, u_181_54, u_181_55, u_181_58, u_181_61, u_181_62i, u_181_62r, u_181_62n, u_181_63, u_181_66, u_181_67, u_181_68, u_181_71, u_181_72, u_181_75, true_or, or_true, zk_li1_s, zk_ll1_s, zk_la1_r, zk_la1_n, zk_lg0, zk_lgs, zk_co_n, zk_co_i, zk_co_r, zk_co_u, zk_co_l, zk_l1_0, zk_l1_1, zk_l1_s, zk_l2_0, zk_l2_1, zk_l2_s, zk_sm0, zk_smi, zk_smr, zk_smn, zk_sml, zk_fi, zk_fz, zk_fo, zk_fn, zk_fa, zk_ts, zk_tn, zk_cases, true_and, and_true, List.getElem?_cons_zero, List.getElem?_cons_succ, List.length_cons, List.length_nil, Nat.reduceAdd, Nat.reduceLT, Nat.reduceLeDiff, List.set_cons_zero, List.set_cons_succ, va_rf, ic, iz_lit, iz_neg, iz_inj, il, mg_53 hB, mw_53 hB]
      (repeat' (first | exact l1 | apply And.intro | intro _)) <;> first | omega | (exfalso; omega)
  · rw [if_neg c, if_neg (fun q => c q.1)]
    rw [if_neg c] at il
    simp (disch := first | omega | assumption | (simp; done)) only [u_181_0, u_181_1, u_181_2, u_181_5, u_181_8, u_181_9, u_181_11, u_181_14, u_181_16, u_181_19, u_181_21, u_181_22, u_181_23, u_181_24, u_181_25, u_181_27, u_181_30, u_181_31, u_181_34, u_181_36, u_181_37, u_181_40, u_181_41, u_181_42, u_181_43, u_181_44, u_181_47, u_181_49, u_181_50, u_181_51, u_181_52, u_181_53, u_181_54, u_181_55, u_181_58, u_181_61, u_181_62i, u_181_62r, u_181_62n, u_181_63, u_181_66, u_181_67, u_181_68, u_181_71, u_181_72, u_181_75, true_or, or_true, zk_li1_s, zk_ll1_s, zk_la1_r, zk_la1_n, zk_lg0, zk_lgs, zk_co_n, zk_co_i, zk_co_r, zk_co_u, zk_co_l, zk_l1_0, zk_l1_1, zk_l1_s, zk_l2_0, zk_l2_1, zk_l2_s, zk_sm0, zk_smi, zk_smr, zk_smn, zk_sml, zk_fi, zk_fz, zk_fo, zk_fn, zk_fa, zk_ts, zk_tn, zk_cases, true_and, and_true, List.getElem?_cons_zero, List.getElem?_cons_succ, List.length_cons, List.length_nil, Nat.reduceAdd, Nat.reduceLT, Nat.reduceLeDiff, List.set_cons_zero, List.set_cons_succ, va_rf, ic, iz_lit, iz_neg, iz_inj, il]
    all_goals ((repeat' (first | exact trivial | exact ⟨rfl, rfl⟩ | rfl | apply And.intro | intro _)) <;> first | omega | (exfalso; omega) | contradiction | (exfalso; simp_all; done) | trace_state)
def v_crash (m : mS) (sc : Int) : Int := if 0 ≤ sc ∧ sc ≤ 2 then (if m 42 sc = 0 then rcn m (12 * sc) 12 else -2) else -1
def f_crash (m : mS) (sc : Int) : mS := if (0 ≤ sc ∧ sc ≤ 2) ∧ m 42 sc = 0 then mcr (up m 42 sc 1) sc (12 * sc + 12) else m
theorem d_crash (hB : hpo G B M) {m : mS} (hr : rg m) (sc : Int) (hi : -2147483648 ≤ sc ∧ sc ≤ 2147483647) (Q : Option Value → zk_H → Prop) : zk_wp G 183 0 [some (.ref M), some (.int (iz sc)), none, none] [] (hp G B M m) Q ↔ Q (some (.int (iz (v_crash m sc)))) (hp G B M (f_crash m sc)) := by
  have ic := hp_ic hB
  have in1 := d_in (G := G) (hp G B M m) sc 0 2 hi (by omega) (by omega)
  have q42 := rg_of hr 42 sc
  refine zk_eq ?_ Q
  unfold v_crash f_crash
  by_cases c : 0 ≤ sc ∧ sc ≤ 2
  · rw [if_pos c]
    rw [if_pos c] at in1
    by_cases c2 : m 42 sc = 0
    · rw [if_pos c2, if_pos ⟨c, c2⟩]
      generalize hQ : (fun (r : Option Value) (h' : zk_H) => r = some (.int (iz (rcn m (12 * sc) 12))) ∧ h' = hp G B M (mcr (up m 42 sc 1) sc (12 * sc + 12))) = P
      have loop : ∀ (q n : Nat), n + q = 12 → zk_wp G 183 37 [some (.ref M), some (.int (iz sc)), some (.int (iz (rcn m (12 * sc) n))), some (.int (iz (12 * sc + n)))] [] (hp G B M (mcr (up m 42 sc 1) sc (12 * sc + n))) P := by
        intro q
        induction q with
        | zero =>
          intro n hn
          rw [u_183_37]
          simp (disch := first | omega | assumption | (simp; done)) only [u_183_0, u_183_1, u_183_2, u_183_3, u_183_6, u_183_9, u_183_10, u_183_11, u_183_12, u_183_15, u_183_16, u_183_17, u_183_20, u_183_22, u_183_23, u_183_24, u_183_27, u_183_28, u_183_29, u_183_30, u_183_31, u_183_32, u_183_34, u_183_35, u_183_36, u_183_38, u_183_40, u_183_41, u_183_42, u_183_44, u_183_45, u_183_49, u_183_50, u_183_53, u_183_54, u_183_55, u_183_58, u_183_59, u_183_62, u_183_63, u_183_64, u_183_65, u_183_66, u_183_67, u_183_70, u_183_71, u_183_74, u_183_75, u_183_76, u_183_77, u_183_80, u_183_83, u_183_84, true_or, or_true, zk_li1_s, zk_ll1_s, zk_la1_r, zk_la1_n, zk_lg0, zk_lgs, zk_co_n, zk_co_i, zk_co_r, zk_co_u, zk_co_l, zk_l1_0, zk_l1_1, zk_l1_s, zk_l2_0, zk_l2_1, zk_l2_s, zk_sm0, zk_smi, zk_smr, zk_smn, zk_sml, zk_fi, zk_fz, zk_fo, zk_fn, zk_fa, zk_ts, zk_tn, zk_cases, true_and, and_true, List.getElem?_cons_zero, List.getElem?_cons_succ, List.length_cons, List.length_nil, Nat.reduceAdd, Nat.reduceLT, Nat.reduceLeDiff, List.set_cons_zero, List.set_cons_succ, va_rf, iz_lit, iz_le, iz_mul, iz_add]
          refine ⟨fun _ => ?_, fun c => absurd c (by omega)⟩
          rw [← hQ, show n = 12 by omega]
          exact ⟨rfl, rfl⟩
        | succ q ih =>
          intro n hn
          have q35 := rg_of hr 35 (12 * sc + n)
          have e35 : mcr (up m 42 sc 1) sc (12 * sc + n) 35 (12 * sc + n) = m 35 (12 * sc + n) := by unfold mcr; rw [if_neg (by omega), up_k _ _ _ _ (by decide)]
          have en := d_ends hB (mcr (up m 42 sc 1) sc (12 * sc + n)) (12 * sc + n) (by omega)
          have st := mcr_s (up m 42 sc 1) sc (12 * sc + n) (by omega)
          have nx := ih (n + 1) (by omega)
          rw [show (12 * sc + ((n + 1 : Nat) : Int)) = 12 * sc + n + 1 by omega] at nx
          rw [u_183_37]
          by_cases cr : 0 < m 35 (12 * sc + n)
          · have e : rcn m (12 * sc) (n + 1) = rcn m (12 * sc) n + 1 := by show rcn m (12 * sc) n + (if 0 < m 35 (12 * sc + n) then 1 else 0) = _; rw [if_pos cr]
            rw [e] at nx
            simp (disch := first | omega | assumption | (simp; done)) only [u_183_0, u_183_1, u_183_2, u_183_3, u_183_6, u_183_9, u_183_10, u_183_11, u_183_12, u_183_15, u_183_16, u_183_17, u_183_20, u_183_22, u_183_23, u_183_24, u_183_27, u_183_28, u_183_29, u_183_30, u_183_31, u_183_32, u_183_34, u_183_35, u_183_36, u_183_38, u_183_40, u_183_41, u_183_42, u_183_44, u_183_45, u_183_48, u_183_49, u_183_50, u_183_53, u_183_54, u_183_55, u_183_58, u_183_59, u_183_62, u_183_63, u_183_64, u_183_65, u_183_66, u_183_67, u_183_70, u_183_71, u_183_74, u_183_75, u_183_76, u_183_77, u_183_80, u_183_83, u_183_84, true_or, or_true, zk_li1_s, zk_ll1_s, zk_la1_r, zk_la1_n, zk_lg0, zk_lgs, zk_co_n, zk_co_i, zk_co_r, zk_co_u, zk_co_l, zk_l1_0, zk_l1_1, zk_l1_s, zk_l2_0, zk_l2_1, zk_l2_s, zk_sm0, zk_smi, zk_smr, zk_smn, zk_sml, zk_fi, zk_fz, zk_fo, zk_fn, zk_fa, zk_ts, zk_tn, zk_cases, true_and, and_true, List.getElem?_cons_zero, List.getElem?_cons_succ, List.length_cons, List.length_nil, Nat.reduceAdd, Nat.reduceLT, Nat.reduceLeDiff, List.set_cons_zero, List.set_cons_succ, va_rf, ic, iz_lit, iz_le, iz_mul, iz_add, mg_34 hB, mr_34 hB, mw_34 hB, mg_35 hB, mr_35 hB, mw_35 hB, e35, en, st]
            (repeat' (first | exact nx | apply And.intro | intro _)) <;> first | omega | (exfalso; omega)
          · have e : rcn m (12 * sc) (n + 1) = rcn m (12 * sc) n + 0 := by show rcn m (12 * sc) n + (if 0 < m 35 (12 * sc + n) then 1 else 0) = _; rw [if_neg cr]
            rw [e] at nx
            simp (disch := first | omega | assumption | (simp; done)) only [u_183_0, u_183_1, u_183_2, u_183_3, u_183_6, u_183_9, u_183_10, u_183_11, u_183_12, u_183_15, u_183_16, u_183_17, u_183_20, u_183_22, u_183_23, u_183_24, u_183_27, u_183_28, u_183_29, u_183_30, u_183_31, u_183_32, u_183_34, u_183_35, u_183_36, u_183_38, u_183_40, u_183_41, u_183_42, u_183_44, u_183_45, u_183_48, u_183_49, u_183_50, u_183_53, u_183_54, u_183_55, u_183_58, u_183_59, u_183_62, u_183_63, u_183_64, u_183_65, u_183_66, u_183_67, u_183_70, u_183_71, u_183_74, u_183_75, u_183_76, u_183_77, u_183_80, u_183_83, u_183_84, true_or, or_true, zk_li1_s, zk_ll1_s, zk_la1_r, zk_la1_n, zk_lg0, zk_lgs, zk_co_n, zk_co_i, zk_co_r, zk_co_u, zk_co_l, zk_l1_0, zk_l1_1, zk_l1_s, zk_l2_0, zk_l2_1, zk_l2_s, zk_sm0, zk_smi, zk_smr, zk_smn, zk_sml, zk_fi, zk_fz, zk_fo, zk_fn, zk_fa, zk_ts, zk_tn, zk_cases, true_and, and_true, List.getElem?_cons_zero, List.getElem?_cons_succ, List.length_cons, List.length_nil, Nat.reduceAdd, Nat.reduceLT, Nat.reduceLeDiff, List.set_cons_zero, List.set_cons_succ, va_rf, ic, iz_lit, iz_le, iz_mul, iz_add, mg_34 hB, mr_34 hB, mw_34 hB, mg_35 hB, mr_35 hB, mw_35 hB, e35, en, st]
            (repeat' (first | exact nx | apply And.intro | intro _)) <;> first | omega | (exfalso; omega)
      have l1 := loop 12 0 (by omega)
      have e : mcr (up m 42 sc 1) sc (12 * sc + ((0 : Nat) : Int)) = up m 42 sc 1 := by funext c y; unfold mcr; rw [if_neg (by omega)]
      rw [e] at l1
      have e2 : rcn m (12 * sc) 0 = 0 := rfl
      rw [e2, show (12 * sc + ((0 : Nat) : Int)) = 12 * sc by omega] at l1
      simp (disch := first | omega | assumption | (simp; done)) only [u_183_0, u_183_1, u_183_2, u_183_3, u_183_6, u_183_9, u_183_10, u_183_11, u_183_12, u_183_15, u_183_16, u_183_17, u_183_20, u_183_22, u_183_23, u_183_24, u_183_27, u_183_28, u_183_29, u_183_30, u_183_31, u_183_32, u_183_34, u_183_35, u_183_36, u_183_38, u_183_40, u_183_41, u_183_42, u_183_44, u_183_45, u_183_48, u_183_49, u_183_50, u_183_53, u_183_54, u_183_55, u_183_58, u_183_59, u_183_62, u_183_63, u_183_64, u_183_65, u_183_66, u_183_67, u_183_70, u_183_71, u_183_74, u_183_75, u_183_76, u_183_77, u_183_80, u_183_83, u_183_84, true_or, or_true, zk_li1_s, zk_ll1_s, zk_la1_r, zk_la1_n, zk_lg0, zk_lgs, zk_co_n, zk_co_i, zk_co_r, zk_co_u, zk_co_l, zk_l1_0, zk_l1_1, zk_l1_s, zk_l2_0, zk_l2_1, zk_l2_s, zk_sm0, zk_smi, zk_smr, zk_smn, zk_sml, zk_fi, zk_fz, zk_fo, zk_fn, zk_fa, zk_ts, zk_tn, zk_cases, true_and, and_true, List.getElem?_cons_zero, List.getElem?_cons_succ, List.length_cons, List.length_nil, Nat.reduceAdd, Nat.reduceLT, Nat.reduceLeDiff, List.set_cons_zero, List.set_cons_succ, va_rf, ic, iz_lit, iz_neg, iz_inj, iz_mul, in1, mg_42 hB, mr_42 hB, mw_42 hB]
      (repeat' (first | exact l1 | apply And.intro | intro _)) <;> first | omega | (exfalso; omega)
    · rw [if_neg c2, if_neg (fun q => c2 q.2)]
      simp (disch := first | omega | assumption | (simp; done)) only [u_183_0, u_183_1, u_183_2, u_183_3, u_183_6, u_183_10, u_183_11, u_183_12, u_183_15, u_183_16, u_183_17, u_183_20, u_183_22, u_183_24, u_183_27, u_183_28, u_183_29, u_183_30, u_183_31, u_183_32, u_183_34, u_183_35, u_183_36, u_183_37, u_183_38, u_183_40, u_183_41, u_183_42, u_183_44, u_183_45, u_183_48, u_183_49, u_183_50, u_183_53, u_183_54, u_183_55, u_183_58, u_183_59, u_183_62, u_183_63, u_183_64, u_183_65, u_183_66, u_183_67, u_183_70, u_183_71, u_183_74, u_183_75, u_183_76, u_183_77, u_183_80, u_183_83, u_183_84, true_or, or_true, zk_li1_s, zk_ll1_s, zk_la1_r, zk_la1_n, zk_lg0, zk_lgs, zk_co_n, zk_co_i, zk_co_r, zk_co_u, zk_co_l, zk_l1_0, zk_l1_1, zk_l1_s, zk_l2_0, zk_l2_1, zk_l2_s, zk_sm0, zk_smi, zk_smr, zk_smn, zk_sml, zk_fi, zk_fz, zk_fo, zk_fn, zk_fa, zk_ts, zk_tn, zk_cases, true_and, and_true, List.getElem?_cons_zero, List.getElem?_cons_succ, List.length_cons, List.length_nil, Nat.reduceAdd, Nat.reduceLT, Nat.reduceLeDiff, List.set_cons_zero, List.set_cons_succ, va_rf, ic, iz_lit, iz_neg, iz_inj, in1, mg_42 hB, mr_42 hB, mw_42 hB]
      all_goals ((repeat' (first | exact trivial | exact ⟨rfl, rfl⟩ | rfl | apply And.intro | intro _)) <;> first | omega | (exfalso; omega) | contradiction | (exfalso; simp_all; done) | trace_state)
  · rw [if_neg c, if_neg (fun q => c q.1)]
    rw [if_neg c] at in1
    simp (disch := first | omega | assumption | (simp; done)) only [u_183_0, u_183_1, u_183_2, u_183_3, u_183_6, u_183_9, u_183_10, u_183_12, u_183_15, u_183_16, u_183_17, u_183_20, u_183_22, u_183_23, u_183_24, u_183_27, u_183_28, u_183_29, u_183_30, u_183_31, u_183_32, u_183_34, u_183_35, u_183_36, u_183_37, u_183_38, u_183_40, u_183_41, u_183_42, u_183_44, u_183_45, u_183_48, u_183_49, u_183_50, u_183_53, u_183_54, u_183_55, u_183_58, u_183_59, u_183_62, u_183_63, u_183_64, u_183_65, u_183_66, u_183_67, u_183_70, u_183_71, u_183_74, u_183_75, u_183_76, u_183_77, u_183_80, u_183_83, u_183_84, true_or, or_true, zk_li1_s, zk_ll1_s, zk_la1_r, zk_la1_n, zk_lg0, zk_lgs, zk_co_n, zk_co_i, zk_co_r, zk_co_u, zk_co_l, zk_l1_0, zk_l1_1, zk_l1_s, zk_l2_0, zk_l2_1, zk_l2_s, zk_sm0, zk_smi, zk_smr, zk_smn, zk_sml, zk_fi, zk_fz, zk_fo, zk_fn, zk_fa, zk_ts, zk_tn, zk_cases, true_and, and_true, List.getElem?_cons_zero, List.getElem?_cons_succ, List.length_cons, List.length_nil, Nat.reduceAdd, Nat.reduceLT, Nat.reduceLeDiff, List.set_cons_zero, List.set_cons_succ, va_rf, ic, iz_lit, iz_neg, iz_inj, in1]
    all_goals ((repeat' (first | exact trivial | exact ⟨rfl, rfl⟩ | rfl | apply And.intro | intro _)) <;> first | omega | (exfalso; omega) | contradiction | (exfalso; simp_all; done) | trace_state)
def v_cnt (m : mS) (w : Int) : Int := if w = 0 then m 0 0 else if w = 1 then m 1 0 else if w = 2 then m 10 0 else if w = 3 then m 53 0 else if w = 4 then rcn m 0 36 else if w = 5 then m 51 0 else if w = 6 then m 52 0 else -1
theorem d_count (hB : hpo G B M) {m : mS} (hr : rg m) (w : Int) (hw : -2147483648 ≤ w ∧ w ≤ 2147483647) (Q : Option Value → zk_H → Prop) : zk_wp G 191 0 [some (.ref M), some (.int (iz w)), none, none] [] (hp G B M m) Q ↔ Q (some (.int (iz (v_cnt m w)))) (hp G B M m) := by
  refine zk_eq ?_ Q
  unfold v_cnt
  have cw : w = 0 ∨ w = 1 ∨ w = 2 ∨ w = 3 ∨ w = 4 ∨ w = 5 ∨ w = 6 ∨ (w < 0 ∨ 6 < w) := by omega
  rcases cw with rfl | rfl | rfl | rfl | rfl | rfl | rfl | cw
  · have t := iz_toInt (z := 0) (by omega) (by omega)
    rw [if_pos rfl]
    simp (disch := first | omega | assumption | (simp; done)) only [u_191_0, u_191_1, u_191_2, u_191_3, u_191_44, u_191_45, u_191_48, u_191_50, u_191_53, u_191_55, u_191_58, u_191_60, u_191_63, u_191_65, u_191_66, u_191_67, u_191_69, u_191_72, u_191_73, u_191_74, u_191_77, u_191_78, u_191_79, u_191_82, u_191_83, u_191_86, u_191_87, u_191_88, u_191_89, u_191_92, u_191_95, u_191_96, u_191_98, u_191_101, u_191_103, u_191_106, u_191_108, true_or, or_true, zk_li1_s, zk_ll1_s, zk_la1_r, zk_la1_n, zk_lg0, zk_lgs, zk_co_n, zk_co_i, zk_co_r, zk_co_u, zk_co_l, zk_l1_0, zk_l1_1, zk_l1_s, zk_l2_0, zk_l2_1, zk_l2_s, zk_sm0, zk_smi, zk_smr, zk_smn, zk_sml, zk_fi, zk_fz, zk_fo, zk_fn, zk_fa, zk_ts, zk_tn, zk_cases, true_and, and_true, List.getElem?_cons_zero, List.getElem?_cons_succ, List.length_cons, List.length_nil, Nat.reduceAdd, Nat.reduceLT, Nat.reduceLeDiff, List.set_cons_zero, List.set_cons_succ, va_rf, iz_lit, mg_0 hB, mw_0 hB, t]
    all_goals ((repeat' (first | exact trivial | exact ⟨rfl, rfl⟩ | rfl | apply And.intro | intro _)) <;> first | omega | (exfalso; omega) | contradiction | (exfalso; simp_all; done) | trace_state)
  · have t := iz_toInt (z := 1) (by omega) (by omega)
    rw [if_neg (by omega), if_pos rfl]
    simp (disch := first | omega | assumption | (simp; done)) only [u_191_0, u_191_1, u_191_2, u_191_3, u_191_45, u_191_48, u_191_49, u_191_50, u_191_53, u_191_55, u_191_58, u_191_60, u_191_63, u_191_65, u_191_66, u_191_67, u_191_69, u_191_72, u_191_73, u_191_74, u_191_77, u_191_78, u_191_79, u_191_82, u_191_83, u_191_86, u_191_87, u_191_88, u_191_89, u_191_92, u_191_95, u_191_96, u_191_98, u_191_101, u_191_103, u_191_106, u_191_108, true_or, or_true, zk_li1_s, zk_ll1_s, zk_la1_r, zk_la1_n, zk_lg0, zk_lgs, zk_co_n, zk_co_i, zk_co_r, zk_co_u, zk_co_l, zk_l1_0, zk_l1_1, zk_l1_s, zk_l2_0, zk_l2_1, zk_l2_s, zk_sm0, zk_smi, zk_smr, zk_smn, zk_sml, zk_fi, zk_fz, zk_fo, zk_fn, zk_fa, zk_ts, zk_tn, zk_cases, true_and, and_true, List.getElem?_cons_zero, List.getElem?_cons_succ, List.length_cons, List.length_nil, Nat.reduceAdd, Nat.reduceLT, Nat.reduceLeDiff, List.set_cons_zero, List.set_cons_succ, va_rf, iz_lit, mg_1 hB, mw_1 hB, t]
    all_goals ((repeat' (first | exact trivial | exact ⟨rfl, rfl⟩ | rfl | apply And.intro | intro _)) <;> first | omega | (exfalso; omega) | contradiction | (exfalso; simp_all; done) | trace_state)
  · have t := iz_toInt (z := 2) (by omega) (by omega)
    rw [if_neg (by omega), if_neg (by omega), if_pos rfl]
    simp (disch := first | omega | assumption | (simp; done)) only [u_191_0, u_191_1, u_191_2, u_191_3, u_191_45, u_191_48, u_191_50, u_191_53, u_191_54, u_191_55, u_191_58, u_191_60, u_191_63, u_191_65, u_191_66, u_191_67, u_191_69, u_191_72, u_191_73, u_191_74, u_191_77, u_191_78, u_191_79, u_191_82, u_191_83, u_191_86, u_191_87, u_191_88, u_191_89, u_191_92, u_191_95, u_191_96, u_191_98, u_191_101, u_191_103, u_191_106, u_191_108, true_or, or_true, zk_li1_s, zk_ll1_s, zk_la1_r, zk_la1_n, zk_lg0, zk_lgs, zk_co_n, zk_co_i, zk_co_r, zk_co_u, zk_co_l, zk_l1_0, zk_l1_1, zk_l1_s, zk_l2_0, zk_l2_1, zk_l2_s, zk_sm0, zk_smi, zk_smr, zk_smn, zk_sml, zk_fi, zk_fz, zk_fo, zk_fn, zk_fa, zk_ts, zk_tn, zk_cases, true_and, and_true, List.getElem?_cons_zero, List.getElem?_cons_succ, List.length_cons, List.length_nil, Nat.reduceAdd, Nat.reduceLT, Nat.reduceLeDiff, List.set_cons_zero, List.set_cons_succ, va_rf, iz_lit, mg_10 hB, mw_10 hB, t]
    all_goals ((repeat' (first | exact trivial | exact ⟨rfl, rfl⟩ | rfl | apply And.intro | intro _)) <;> first | omega | (exfalso; omega) | contradiction | (exfalso; simp_all; done) | trace_state)
  · have t := iz_toInt (z := 3) (by omega) (by omega)
    rw [if_neg (by omega), if_neg (by omega), if_neg (by omega), if_pos rfl]
    simp (disch := first | omega | assumption | (simp; done)) only [u_191_0, u_191_1, u_191_2, u_191_3, u_191_45, u_191_48, u_191_50, u_191_53, u_191_55, u_191_58, u_191_59, u_191_60, u_191_63, u_191_65, u_191_66, u_191_67, u_191_69, u_191_72, u_191_73, u_191_74, u_191_77, u_191_78, u_191_79, u_191_82, u_191_83, u_191_86, u_191_87, u_191_88, u_191_89, u_191_92, u_191_95, u_191_96, u_191_98, u_191_101, u_191_103, u_191_106, u_191_108, true_or, or_true, zk_li1_s, zk_ll1_s, zk_la1_r, zk_la1_n, zk_lg0, zk_lgs, zk_co_n, zk_co_i, zk_co_r, zk_co_u, zk_co_l, zk_l1_0, zk_l1_1, zk_l1_s, zk_l2_0, zk_l2_1, zk_l2_s, zk_sm0, zk_smi, zk_smr, zk_smn, zk_sml, zk_fi, zk_fz, zk_fo, zk_fn, zk_fa, zk_ts, zk_tn, zk_cases, true_and, and_true, List.getElem?_cons_zero, List.getElem?_cons_succ, List.length_cons, List.length_nil, Nat.reduceAdd, Nat.reduceLT, Nat.reduceLeDiff, List.set_cons_zero, List.set_cons_succ, va_rf, iz_lit, mg_53 hB, mw_53 hB, t]
    all_goals ((repeat' (first | exact trivial | exact ⟨rfl, rfl⟩ | rfl | apply And.intro | intro _)) <;> first | omega | (exfalso; omega) | contradiction | (exfalso; simp_all; done) | trace_state)
  · have t := iz_toInt (z := 4) (by omega) (by omega)
    rw [if_neg (by omega), if_neg (by omega), if_neg (by omega), if_neg (by omega), if_pos rfl]
    generalize hQ : (fun (r : Option Value) (h' : zk_H) => r = some (.int (iz (rcn m 0 36))) ∧ h' = hp G B M m) = P
    have loop : ∀ (q n : Nat), n + q = 36 → zk_wp G 191 66 [some (.ref M), some (.int (iz 4)), some (.int (iz (rcn m 0 n))), some (.int (iz n))] [] (hp G B M m) P := by
      intro q
      induction q with
      | zero =>
        intro n hn
        rw [u_191_66]
        simp (disch := first | omega | assumption | (simp; done)) only [u_191_0, u_191_1, u_191_2, u_191_3, u_191_44, u_191_45, u_191_48, u_191_49, u_191_50, u_191_53, u_191_54, u_191_55, u_191_58, u_191_59, u_191_60, u_191_63, u_191_64, u_191_65, u_191_67, u_191_69, u_191_73, u_191_74, u_191_77, u_191_78, u_191_79, u_191_82, u_191_83, u_191_86, u_191_87, u_191_88, u_191_89, u_191_92, u_191_95, u_191_96, u_191_97, u_191_98, u_191_101, u_191_102, u_191_103, u_191_106, u_191_107, u_191_108, true_or, or_true, zk_li1_s, zk_ll1_s, zk_la1_r, zk_la1_n, zk_lg0, zk_lgs, zk_co_n, zk_co_i, zk_co_r, zk_co_u, zk_co_l, zk_l1_0, zk_l1_1, zk_l1_s, zk_l2_0, zk_l2_1, zk_l2_s, zk_sm0, zk_smi, zk_smr, zk_smn, zk_sml, zk_fi, zk_fz, zk_fo, zk_fn, zk_fa, zk_ts, zk_tn, zk_cases, true_and, and_true, List.getElem?_cons_zero, List.getElem?_cons_succ, List.length_cons, List.length_nil, Nat.reduceAdd, Nat.reduceLT, Nat.reduceLeDiff, List.set_cons_zero, List.set_cons_succ, va_rf, iz_lit, iz_le]
        refine ⟨fun _ => ?_, fun c => absurd c (by omega)⟩
        rw [← hQ, show n = 36 by omega]
        exact ⟨rfl, rfl⟩
      | succ q ih =>
        intro n hn
        have q35 := rg_of hr 35 n
        have nx := ih (n + 1) (by omega)
        rw [show (((n + 1 : Nat) : Int)) = (n : Int) + 1 by omega] at nx
        have z0 : (0 : Int) + n = n := by omega
        rw [u_191_66]
        by_cases cr : 0 < m 35 n
        · have e : rcn m 0 (n + 1) = rcn m 0 n + 1 := by show rcn m 0 n + (if 0 < m 35 (0 + n) then 1 else 0) = _; rw [z0, if_pos cr]
          rw [e] at nx
          simp (disch := first | omega | assumption | (simp; done)) only [u_191_0, u_191_1, u_191_2, u_191_3, u_191_44, u_191_45, u_191_48, u_191_49, u_191_50, u_191_53, u_191_54, u_191_55, u_191_58, u_191_59, u_191_60, u_191_63, u_191_64, u_191_65, u_191_67, u_191_69, u_191_72, u_191_73, u_191_74, u_191_77, u_191_78, u_191_79, u_191_82, u_191_83, u_191_86, u_191_87, u_191_88, u_191_89, u_191_92, u_191_95, u_191_96, u_191_97, u_191_98, u_191_101, u_191_102, u_191_103, u_191_106, u_191_107, u_191_108, true_or, or_true, zk_li1_s, zk_ll1_s, zk_la1_r, zk_la1_n, zk_lg0, zk_lgs, zk_co_n, zk_co_i, zk_co_r, zk_co_u, zk_co_l, zk_l1_0, zk_l1_1, zk_l1_s, zk_l2_0, zk_l2_1, zk_l2_s, zk_sm0, zk_smi, zk_smr, zk_smn, zk_sml, zk_fi, zk_fz, zk_fo, zk_fn, zk_fa, zk_ts, zk_tn, zk_cases, true_and, and_true, List.getElem?_cons_zero, List.getElem?_cons_succ, List.length_cons, List.length_nil, Nat.reduceAdd, Nat.reduceLT, Nat.reduceLeDiff, List.set_cons_zero, List.set_cons_succ, va_rf, iz_lit, iz_le, iz_add, mg_35 hB, mr_35 hB, mw_35 hB]
          (repeat' (first | exact nx | apply And.intro | intro _)) <;> first | omega | (exfalso; omega)
        · have e : rcn m 0 (n + 1) = rcn m 0 n + 0 := by show rcn m 0 n + (if 0 < m 35 (0 + n) then 1 else 0) = _; rw [z0, if_neg cr]
          rw [e] at nx
          simp (disch := first | omega | assumption | (simp; done)) only [u_191_0, u_191_1, u_191_2, u_191_3, u_191_44, u_191_45, u_191_48, u_191_49, u_191_50, u_191_53, u_191_54, u_191_55, u_191_58, u_191_59, u_191_60, u_191_63, u_191_64, u_191_65, u_191_67, u_191_69, u_191_72, u_191_73, u_191_74, u_191_77, u_191_78, u_191_79, u_191_82, u_191_83, u_191_86, u_191_87, u_191_88, u_191_89, u_191_92, u_191_95, u_191_96, u_191_97, u_191_98, u_191_101, u_191_102, u_191_103, u_191_106, u_191_107, u_191_108, true_or, or_true, zk_li1_s, zk_ll1_s, zk_la1_r, zk_la1_n, zk_lg0, zk_lgs, zk_co_n, zk_co_i, zk_co_r, zk_co_u, zk_co_l, zk_l1_0, zk_l1_1, zk_l1_s, zk_l2_0, zk_l2_1, zk_l2_s, zk_sm0, zk_smi, zk_smr, zk_smn, zk_sml, zk_fi, zk_fz, zk_fo, zk_fn, zk_fa, zk_ts, zk_tn, zk_cases, true_and, and_true, List.getElem?_cons_zero, List.getElem?_cons_succ, List.length_cons, List.length_nil, Nat.reduceAdd, Nat.reduceLT, Nat.reduceLeDiff, List.set_cons_zero, List.set_cons_succ, va_rf, iz_lit, iz_le, iz_add, mg_35 hB, mr_35 hB, mw_35 hB]
          (repeat' (first | exact nx | apply And.intro | intro _)) <;> first | omega | (exfalso; omega)
    have l1 := loop 36 0 (by omega)
    simp (disch := first | omega | assumption | (simp; done)) only [u_191_0, u_191_1, u_191_2, u_191_3, u_191_45, u_191_48, u_191_50, u_191_53, u_191_55, u_191_58, u_191_60, u_191_63, u_191_64, u_191_65, u_191_67, u_191_69, u_191_72, u_191_73, u_191_74, u_191_77, u_191_78, u_191_79, u_191_82, u_191_83, u_191_86, u_191_87, u_191_88, u_191_89, u_191_92, u_191_95, u_191_96, u_191_98, u_191_101, u_191_103, u_191_106, u_191_108, true_or, or_true, zk_li1_s, zk_ll1_s, zk_la1_r, zk_la1_n, zk_lg0, zk_lgs, zk_co_n, zk_co_i, zk_co_r, zk_co_u, zk_co_l, zk_l1_0, zk_l1_1, zk_l1_s, zk_l2_0, zk_l2_1, zk_l2_s, zk_sm0, zk_smi, zk_smr, zk_smn, zk_sml, zk_fi, zk_fz, zk_fo, zk_fn, zk_fa, zk_ts, zk_tn, zk_cases, true_and, and_true, List.getElem?_cons_zero, List.getElem?_cons_succ, List.length_cons, List.length_nil, Nat.reduceAdd, Nat.reduceLT, Nat.reduceLeDiff, List.set_cons_zero, List.set_cons_succ, va_rf, iz_lit, t]
    (repeat' (first | exact l1 | apply And.intro | intro _)) <;> first | omega | (exfalso; omega)
  · have t := iz_toInt (z := 5) (by omega) (by omega)
    rw [if_neg (by omega), if_neg (by omega), if_neg (by omega), if_neg (by omega), if_neg (by omega), if_pos rfl]
    simp (disch := first | omega | assumption | (simp; done)) only [u_191_0, u_191_1, u_191_2, u_191_3, u_191_45, u_191_48, u_191_50, u_191_53, u_191_55, u_191_58, u_191_60, u_191_63, u_191_65, u_191_66, u_191_67, u_191_69, u_191_72, u_191_73, u_191_74, u_191_77, u_191_78, u_191_79, u_191_82, u_191_83, u_191_86, u_191_87, u_191_88, u_191_89, u_191_92, u_191_95, u_191_96, u_191_97, u_191_98, u_191_101, u_191_103, u_191_106, u_191_108, true_or, or_true, zk_li1_s, zk_ll1_s, zk_la1_r, zk_la1_n, zk_lg0, zk_lgs, zk_co_n, zk_co_i, zk_co_r, zk_co_u, zk_co_l, zk_l1_0, zk_l1_1, zk_l1_s, zk_l2_0, zk_l2_1, zk_l2_s, zk_sm0, zk_smi, zk_smr, zk_smn, zk_sml, zk_fi, zk_fz, zk_fo, zk_fn, zk_fa, zk_ts, zk_tn, zk_cases, true_and, and_true, List.getElem?_cons_zero, List.getElem?_cons_succ, List.length_cons, List.length_nil, Nat.reduceAdd, Nat.reduceLT, Nat.reduceLeDiff, List.set_cons_zero, List.set_cons_succ, va_rf, iz_lit, mg_51 hB, mw_51 hB, t]
    all_goals ((repeat' (first | exact trivial | exact ⟨rfl, rfl⟩ | rfl | apply And.intro | intro _)) <;> first | omega | (exfalso; omega) | contradiction | (exfalso; simp_all; done) | trace_state)
  · have t := iz_toInt (z := 6) (by omega) (by omega)
    rw [if_neg (by omega), if_neg (by omega), if_neg (by omega), if_neg (by omega), if_neg (by omega), if_neg (by omega), if_pos rfl]
    simp (disch := first | omega | assumption | (simp; done)) only [u_191_0, u_191_1, u_191_2, u_191_3, u_191_45, u_191_48, u_191_50, u_191_53, u_191_55, u_191_58, u_191_60, u_191_63, u_191_65, u_191_66, u_191_67, u_191_69, u_191_72, u_191_73, u_191_74, u_191_77, u_191_78, u_191_79, u_191_82, u_191_83, u_191_86, u_191_87, u_191_88, u_191_89, u_191_92, u_191_95, u_191_96, u_191_98, u_191_101, u_191_102, u_191_103, u_191_106, u_191_108, true_or, or_true, zk_li1_s, zk_ll1_s, zk_la1_r, zk_la1_n, zk_lg0, zk_lgs, zk_co_n, zk_co_i, zk_co_r, zk_co_u, zk_co_l, zk_l1_0, zk_l1_1, zk_l1_s, zk_l2_0, zk_l2_1, zk_l2_s, zk_sm0, zk_smi, zk_smr, zk_smn, zk_sml, zk_fi, zk_fz, zk_fo, zk_fn, zk_fa, zk_ts, zk_tn, zk_cases, true_and, and_true, List.getElem?_cons_zero, List.getElem?_cons_succ, List.length_cons, List.length_nil, Nat.reduceAdd, Nat.reduceLT, Nat.reduceLeDiff, List.set_cons_zero, List.set_cons_succ, va_rf, iz_lit, mg_52 hB, mw_52 hB, t]
    all_goals ((repeat' (first | exact trivial | exact ⟨rfl, rfl⟩ | rfl | apply And.intro | intro _)) <;> first | omega | (exfalso; omega) | contradiction | (exfalso; simp_all; done) | trace_state)
  · have t := iz_toInt (z := w) (by omega) (by omega)
    rw [if_neg (by omega), if_neg (by omega), if_neg (by omega), if_neg (by omega), if_neg (by omega), if_neg (by omega), if_neg (by omega)]
    simp (disch := first | omega | assumption | (simp; done)) only [u_191_0, u_191_1, u_191_2, u_191_3, u_191_45, u_191_48, u_191_50, u_191_53, u_191_55, u_191_58, u_191_60, u_191_63, u_191_65, u_191_66, u_191_67, u_191_69, u_191_72, u_191_73, u_191_74, u_191_77, u_191_78, u_191_79, u_191_82, u_191_83, u_191_86, u_191_87, u_191_88, u_191_89, u_191_92, u_191_95, u_191_96, u_191_98, u_191_101, u_191_103, u_191_106, u_191_107, u_191_108, true_or, or_true, zk_li1_s, zk_ll1_s, zk_la1_r, zk_la1_n, zk_lg0, zk_lgs, zk_co_n, zk_co_i, zk_co_r, zk_co_u, zk_co_l, zk_l1_0, zk_l1_1, zk_l1_s, zk_l2_0, zk_l2_1, zk_l2_s, zk_sm0, zk_smi, zk_smr, zk_smn, zk_sml, zk_fi, zk_fz, zk_fo, zk_fn, zk_fa, zk_ts, zk_tn, zk_cases, true_and, and_true, List.getElem?_cons_zero, List.getElem?_cons_succ, List.length_cons, List.length_nil, Nat.reduceAdd, Nat.reduceLT, Nat.reduceLeDiff, List.set_cons_zero, List.set_cons_succ, va_rf, iz_lit, iz_neg, t]
    all_goals ((repeat' (first | exact trivial | exact ⟨rfl, rfl⟩ | rfl | apply And.intro | intro _)) <;> first | omega | (exfalso; omega) | contradiction | (exfalso; simp_all; done) | trace_state)
end MCALL3
