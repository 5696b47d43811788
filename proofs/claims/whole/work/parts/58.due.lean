/-! the model's dueFrom and dueUpTo -/
theorem fs_uniq {D : Int → Bool} {a b v w : Int} (h1 : fsP D a b v) (h2 : fsP D a b w) : v = w := by
  rcases h1 with ⟨e, h⟩ | ⟨p1, p2, p3, p4⟩ <;> rcases h2 with ⟨e', h'⟩ | ⟨q1, q2, q3, q4⟩
  · omega
  · rw [h w q1 q2] at q3; cases q3
  · rw [h' v p1 p2] at p3; cases p3
  · rcases Int.lt_trichotomy v w with c | c | c
    · rw [q4 v p1 c] at p3; cases p3
    · exact c
    · rw [p4 w q1 c] at q3; cases q3
theorem ls_uniq {D : Int → Bool} {a b v w : Int} (h1 : lsP D a b v) (h2 : lsP D a b w) : v = w := by
  rcases h1 with ⟨e, h⟩ | ⟨p1, p2, p3, p4⟩ <;> rcases h2 with ⟨e', h'⟩ | ⟨q1, q2, q3, q4⟩
  · omega
  · rw [h w q1 q2] at q3; cases q3
  · rw [h' v p1 p2] at p3; cases p3
  · rcases Int.lt_trichotomy v w with c | c | c
    · rw [p4 w c q2] at q3; cases q3
    · exact c
    · rw [q4 v c p2] at p3; cases p3
noncomputable def ffd (D : Int → Bool) (a b : Int) : Int := @dite _ (∃ v, fsP D a b v) (Classical.propDecidable _) (fun h => Classical.choose h) (fun _ => 0)
noncomputable def lld (D : Int → Bool) (a b : Int) : Int := @dite _ (∃ v, lsP D a b v) (Classical.propDecidable _) (fun h => Classical.choose h) (fun _ => 0)
theorem ffd_eq {D : Int → Bool} {a b v : Int} (h : fsP D a b v) : ffd D a b = v := by
  have e : ∃ v, fsP D a b v := ⟨v, h⟩
  unfold ffd
  rw [dif_pos e]
  exact fs_uniq (Classical.choose_spec e) h
theorem lld_eq {D : Int → Bool} {a b v : Int} (h : lsP D a b v) : lld D a b = v := by
  have e : ∃ v, lsP D a b v := ⟨v, h⟩
  unfold lld
  rw [dif_pos e]
  exact ls_uniq (Classical.choose_spec e) h
theorem fs_step {D : Int → Bool} {fr to v x : Int} (h : fsP D fr to v) (hx : x < 2147483647) : fsP (fun l => D l || decide (x = l)) fr to (if fr ≤ x ∧ x ≤ to ∧ x < v then x else v) := by
  by_cases c : fr ≤ x ∧ x ≤ to ∧ x < v
  · rw [if_pos c]
    refine Or.inr ⟨c.1, c.2.1, by simp, fun l l1 l2 => ?_⟩
    have : D l = false := by
      rcases h with ⟨-, q⟩ | ⟨-, -, -, q⟩
      · exact q l l1 (by omega)
      · exact q l l1 (by omega)
    show (D l || decide (x = l)) = false
    rw [this, decide_eq_false (by omega)]; rfl
  · rw [if_neg c]
    rcases h with ⟨e, q⟩ | ⟨p1, p2, p3, p4⟩
    · refine Or.inl ⟨e, fun l l1 l2 => ?_⟩
      show (D l || decide (x = l)) = false
      rw [q l l1 l2, decide_eq_false (by omega)]; rfl
    · refine Or.inr ⟨p1, p2, ?_, fun l l1 l2 => ?_⟩
      · show (D v || decide (x = v)) = true
        rw [p3]; rfl
      · show (D l || decide (x = l)) = false
        rw [p4 l l1 l2, decide_eq_false (by omega)]; rfl
theorem ls_step {D : Int → Bool} {fr to v x : Int} (h : lsP D fr to v) (hb : to < 2147483647) : lsP (fun l => D l || decide (x = l)) fr to (if fr ≤ x ∧ x ≤ to ∧ (v = 2147483647 ∨ v < x) then x else v) := by
  by_cases c : fr ≤ x ∧ x ≤ to ∧ (v = 2147483647 ∨ v < x)
  · rw [if_pos c]
    refine Or.inr ⟨c.1, c.2.1, by simp, fun l l1 l2 => ?_⟩
    have : D l = false := by
      rcases h with ⟨-, q⟩ | ⟨q1, q2, q3, q⟩
      · exact q l (by omega) (by omega)
      · rcases c.2.2 with c1 | c1
        · omega
        · exact q l (by omega) (by omega)
    show (D l || decide (x = l)) = false
    rw [this, decide_eq_false (by omega)]; rfl
  · rw [if_neg c]
    rcases h with ⟨e, q⟩ | ⟨p1, p2, p3, p4⟩
    · refine Or.inl ⟨e, fun l l1 l2 => ?_⟩
      show (D l || decide (x = l)) = false
      rw [q l l1 l2, decide_eq_false (by omega)]; rfl
    · refine Or.inr ⟨p1, p2, ?_, fun l l1 l2 => ?_⟩
      · show (D v || decide (x = v)) = true
        rw [p3]; rfl
      · show (D l || decide (x = l)) = false
        rw [p4 l l1 l2, decide_eq_false (by omega)]; rfl
noncomputable def dueJ (m : mS) (j : Int) : Int → Bool := dueB (ssOf m (m 11 j)) (osOf m (m 11 j)) (hsOf m (m 11 j)) (msOf m j) (nwOf m j) (nnOf m j) (exOf m j) (xtOf m j) (m 22 j)
theorem dueJ_eq (m : mS) (j : Int) : (fun l => calJ m j l || decide (l ∈ xtOf m j)) = dueJ m j := by
  funext l
  show (calJ m j l || decide (l ∈ xtOf m j)) = (decide (l ∈ xtOf m j) || calJ m j l)
  rw [Bool.or_comm]
theorem fs_hi {D : Int → Bool} {a b v : Int} (h : fsP D a b v) (hb : b ≤ 2147483647) : v ≤ 2147483647 := by rcases h with ⟨q, -⟩ | ⟨-, q, -⟩ <;> omega
theorem fs_lo {D : Int → Bool} {a b v : Int} (h : fsP D a b v) (c : v ≠ 2147483647) : a ≤ v ∧ v ≤ b := by
  rcases h with ⟨q, -⟩ | ⟨q1, q2, -⟩
  · exact absurd q c
  · exact ⟨q1, q2⟩
theorem ls_lo {D : Int → Bool} {a b v : Int} (h : lsP D a b v) (c : v ≠ 2147483647) : a ≤ v ∧ v ≤ b := by
  rcases h with ⟨q, -⟩ | ⟨q1, q2, -⟩
  · exact absurd q c
  · exact ⟨q1, q2⟩
theorem nef_f : nef 2147483647 = -1 := rfl
theorem nef_n {v : Int} (h : v ≠ 2147483647) : nef v = v := if_neg h
section MDUE
variable {G : zk_G} {B : zk_H} {M : Nat}
theorem d_dueFrom (hB : hpo G B M) {m : mS} {j : Int} (hj : jI m j) (fr to : Int) (hfr : 0 ≤ fr ∧ fr ≤ 30000000) (hto : -30000000 ≤ to ∧ to ≤ 21038399) : ∃ m' v, dtx m m' ∧ fsP (dueJ m j) fr to v ∧ ∀ Q : Option Value → zk_H → Prop, zk_wp G 144 0 [some (.ref M), some (.int (iz j)), some (.int (iz fr)), some (.int (iz to)), none, none, none] [] (hp G B M m) Q ↔ Q (some (.int (iz (nef v)))) (hp G B M m') := by
  have ic := hp_ic hB
  have j1 := hj.1
  have j28 := hj.2.2.2.2.2.2.2.2.2.1
  have hr := hj.2.2.2.2.2.2.2.2.2.2.2
  have hxt := hr.2.2.2.2.2.2.2.2.2.2.2.2.1
  obtain ⟨m1, v1, x1, x2, x3⟩ := d_byCal hB hj fr to hfr hto
  have y28 : ∀ z, m1 28 z = m 28 z := fun z => x1 28 z (by decide) (by decide) (by decide)
  have y29 : ∀ z, m1 29 z = m 29 z := fun z => x1 29 z (by decide) (by decide) (by decide)
  suffices hw : zk_wp G 144 0 [some (.ref M), some (.int (iz j)), some (.int (iz fr)), some (.int (iz to)), none, none, none] [] (hp G B M m) (fun r h' => ∃ m' v, dtx m m' ∧ fsP (dueJ m j) fr to v ∧ r = some (.int (iz (nef v))) ∧ h' = hp G B M m') by
    obtain ⟨r0, h0, ⟨m', v, b1, b2, rfl, rfl⟩, b3⟩ := zk_some hw
    exact ⟨m', v, b1, b2, b3⟩
  generalize hQ : (fun (r : Option Value) (h' : zk_H) => ∃ m' v, dtx m m' ∧ fsP (dueJ m j) fr to v ∧ r = some (.int (iz (nef v))) ∧ h' = hp G B M m') = Q
  have loop : ∀ (n : Nat) (k v : Int) (o6 : Option Value), 0 ≤ k → k + n = m 28 j → fsP (fun l => calJ m j l || decide (l ∈ rl k (fun k => m 29 (8 * j + k)))) fr to v → zk_wp G 144 12 [some (.ref M), some (.int (iz j)), some (.int (iz fr)), some (.int (iz to)), some (.int (iz (nef v))), some (.int (iz k)), o6] [] (hp G B M m1) Q := by
    intro n
    induction n with
    | zero =>
      intro k v o6 hk hn hv
      rw [u_144_12]
      simp (disch := first | omega | assumption | (simp; done)) only [u_144_0, u_144_1, u_144_2, u_144_3, u_144_4, u_144_7, u_144_9, u_144_10, u_144_14, u_144_15, u_144_18, u_144_19, u_144_20, u_144_24, u_144_27, u_144_29, u_144_30, u_144_31, u_144_33, u_144_34, u_144_35, u_144_37, u_144_39, u_144_40, u_144_43, u_144_45, u_144_46, u_144_49, u_144_51, u_144_54, u_144_56, u_144_58, u_144_61, u_144_63, u_144_66, u_144_68, u_144_70, u_144_73, u_144_76, u_144_78, true_or, or_true, zk_li1_s, zk_ll1_s, zk_la1_r, zk_la1_n, zk_lg0, zk_lgs, zk_co_n, zk_co_i, zk_co_r, zk_co_u, zk_co_l, zk_l1_0, zk_l1_1, zk_l1_s, zk_l2_0, zk_l2_1, zk_l2_s, zk_sm0, zk_smi, zk_smr, zk_smn, zk_sml, zk_fi, zk_fz, zk_fo, zk_fn, zk_fa, zk_ts, zk_tn, zk_cases, true_and, and_true, List.getElem?_cons_zero, List.getElem?_cons_succ, List.length_cons, List.length_nil, Nat.reduceAdd, Nat.reduceLT, Nat.reduceLeDiff, List.set_cons_zero, List.set_cons_succ, va_rf, iz_lit, iz_le, mg_28 hB, mr_28 hB, mw_28 hB, y28]
      refine ⟨fun _ => ?_, fun c => absurd c (by omega)⟩
      rw [← hQ]
      refine ⟨m1, v, x1, ?_, rfl, rfl⟩
      rw [← dueJ_eq]
      unfold xtOf
      rw [show m 28 j = k by omega]
      exact hv
    | succ n ih =>
      intro k v o6 hk hn hv
      have hx := hxt (m 29 (8 * j + k)) (by unfold xtOf; rw [mem_rl]; exact ⟨k, hk, by omega, rfl⟩)
      generalize hX : m 29 (8 * j + k) = x at *
      have st := fs_step hv (x := x) (by omega)
      have e : (fun l => (calJ m j l || decide (l ∈ rl k (fun k => m 29 (8 * j + k)))) || decide (x = l)) = (fun l => calJ m j l || decide (l ∈ rl (k + 1) (fun k => m 29 (8 * j + k)))) := by
        funext l
        rw [Bool.or_assoc]
        congr 1
        rw [Bool.eq_iff_iff, Bool.or_eq_true, decide_eq_true_iff, decide_eq_true_iff, decide_eq_true_iff, mem_rl1 (n := 0) _ k hk, hX]
      rw [e] at st
      have nx := fun w (q : (if fr ≤ x ∧ x ≤ to ∧ x < v then x else v) = w) o6 => ih (k + 1) w o6 (by omega) (by omega) (by rw [← q]; exact st)
      have hi := fs_hi hv (by omega)
      rw [u_144_12]
      by_cases cv : v = 2147483647
      · have ev : nef v = -1 := by rw [cv]; rfl
        rw [ev]
        have nx0 := nx v
        rw [ev] at nx0
        have nxx := nx x
        rw [nef_n (show x ≠ 2147483647 by omega)] at nxx
        simp (disch := first | omega | assumption | (simp; done)) only [u_144_0, u_144_1, u_144_2, u_144_3, u_144_4, u_144_7, u_144_9, u_144_10, u_144_14, u_144_15, u_144_18, u_144_19, u_144_20, u_144_23, u_144_24, u_144_27, u_144_29, u_144_30, u_144_31, u_144_33, u_144_34, u_144_35, u_144_37, u_144_39, u_144_40, u_144_43, u_144_45, u_144_46, u_144_49, u_144_51, u_144_54, u_144_56, u_144_58, u_144_61, u_144_63, u_144_66, u_144_68, u_144_70, u_144_73, u_144_76, u_144_78, true_or, or_true, zk_li1_s, zk_ll1_s, zk_la1_r, zk_la1_n, zk_lg0, zk_lgs, zk_co_n, zk_co_i, zk_co_r, zk_co_u, zk_co_l, zk_l1_0, zk_l1_1, zk_l1_s, zk_l2_0, zk_l2_1, zk_l2_s, zk_sm0, zk_smi, zk_smr, zk_smn, zk_sml, zk_fi, zk_fz, zk_fo, zk_fn, zk_fa, zk_ts, zk_tn, zk_cases, true_and, and_true, List.getElem?_cons_zero, List.getElem?_cons_succ, List.length_cons, List.length_nil, Nat.reduceAdd, Nat.reduceLT, Nat.reduceLeDiff, List.set_cons_zero, List.set_cons_succ, va_rf, iz_lit, iz_le, iz_lt, iz_mul, iz_add, mg_28 hB, mr_28 hB, mw_28 hB, mg_29 hB, mr_29 hB, mw_29 hB, y28, y29, hX]
        refine ⟨fun c => absurd c (by omega), fun _ => ⟨fun c => nx0 (if_neg (by omega)) _, fun c => ⟨fun c2 => nx0 (if_neg (by omega)) _, fun c2 => ⟨fun c3 => nxx (if_pos (by omega)) _, fun c3 => absurd c3 (by omega)⟩⟩⟩⟩
      · have ev := nef_n cv
        have lo := fs_lo hv cv
        rw [ev]
        have nx0 := nx v
        rw [ev] at nx0
        have nxx := nx x
        rw [nef_n (show x ≠ 2147483647 by omega)] at nxx
        simp (disch := first | omega | assumption | (simp; done)) only [u_144_0, u_144_1, u_144_2, u_144_3, u_144_4, u_144_7, u_144_9, u_144_10, u_144_14, u_144_15, u_144_18, u_144_19, u_144_20, u_144_23, u_144_24, u_144_27, u_144_29, u_144_30, u_144_31, u_144_33, u_144_34, u_144_35, u_144_37, u_144_39, u_144_40, u_144_43, u_144_45, u_144_46, u_144_49, u_144_51, u_144_54, u_144_56, u_144_58, u_144_61, u_144_63, u_144_66, u_144_68, u_144_70, u_144_73, u_144_76, u_144_78, true_or, or_true, zk_li1_s, zk_ll1_s, zk_la1_r, zk_la1_n, zk_lg0, zk_lgs, zk_co_n, zk_co_i, zk_co_r, zk_co_u, zk_co_l, zk_l1_0, zk_l1_1, zk_l1_s, zk_l2_0, zk_l2_1, zk_l2_s, zk_sm0, zk_smi, zk_smr, zk_smn, zk_sml, zk_fi, zk_fz, zk_fo, zk_fn, zk_fa, zk_ts, zk_tn, zk_cases, true_and, and_true, List.getElem?_cons_zero, List.getElem?_cons_succ, List.length_cons, List.length_nil, Nat.reduceAdd, Nat.reduceLT, Nat.reduceLeDiff, List.set_cons_zero, List.set_cons_succ, va_rf, iz_lit, iz_le, iz_lt, iz_mul, iz_add, mg_28 hB, mr_28 hB, mw_28 hB, mg_29 hB, mr_29 hB, mw_29 hB, y28, y29, hX]
        refine ⟨fun c => absurd c (by omega), fun _ => ⟨fun c => nx0 (if_neg (by omega)) _, fun c => ⟨fun c2 => nx0 (if_neg (by omega)) _, fun c2 => ⟨fun c3 => absurd c3 (by omega), fun c3 => ⟨fun c4 => nx0 (if_neg (by omega)) _, fun c4 => nxx (if_pos (by omega)) _⟩⟩⟩⟩⟩
  simp (disch := first | omega | assumption | (simp; done)) only [u_144_0, u_144_1, u_144_2, u_144_3, u_144_4, u_144_7, u_144_9, u_144_10, u_144_14, u_144_15, u_144_18, u_144_19, u_144_20, u_144_23, u_144_24, u_144_27, u_144_29, u_144_30, u_144_31, u_144_33, u_144_34, u_144_35, u_144_37, u_144_39, u_144_40, u_144_43, u_144_45, u_144_46, u_144_49, u_144_51, u_144_54, u_144_56, u_144_58, u_144_61, u_144_63, u_144_66, u_144_68, u_144_70, u_144_73, u_144_76, u_144_78, true_or, or_true, zk_li1_s, zk_ll1_s, zk_la1_r, zk_la1_n, zk_lg0, zk_lgs, zk_co_n, zk_co_i, zk_co_r, zk_co_u, zk_co_l, zk_l1_0, zk_l1_1, zk_l1_s, zk_l2_0, zk_l2_1, zk_l2_s, zk_sm0, zk_smi, zk_smr, zk_smn, zk_sml, zk_fi, zk_fz, zk_fo, zk_fn, zk_fa, zk_ts, zk_tn, zk_cases, true_and, and_true, List.getElem?_cons_zero, List.getElem?_cons_succ, List.length_cons, List.length_nil, Nat.reduceAdd, Nat.reduceLT, Nat.reduceLeDiff, List.set_cons_zero, List.set_cons_succ, va_rf, ic, iz_lit, x3]
  refine loop (m 28 j).toNat 0 v1 _ (by omega) (by omega) ?_
  have e : (fun l => calJ m j l || decide (l ∈ rl 0 (fun k => m 29 (8 * j + k)))) = calJ m j := by
    funext l
    rw [decide_eq_false (by simp [rl]), Bool.or_false]
  rw [e]
  exact x2
theorem d_dueUpTo (hB : hpo G B M) {m : mS} {j : Int} (hj : jI m j) (fr to : Int) (hfr : 0 ≤ fr ∧ fr ≤ 30000000) (hto : -30000000 ≤ to ∧ to ≤ 21038399) : ∃ m' v, dtx m m' ∧ lsP (dueJ m j) fr to v ∧ ∀ Q : Option Value → zk_H → Prop, zk_wp G 171 0 [some (.ref M), some (.int (iz j)), some (.int (iz fr)), some (.int (iz to)), none, none, none] [] (hp G B M m) Q ↔ Q (some (.int (iz (nef v)))) (hp G B M m') := by
  have ic := hp_ic hB
  have j1 := hj.1
  have j28 := hj.2.2.2.2.2.2.2.2.2.1
  have hr := hj.2.2.2.2.2.2.2.2.2.2.2
  have hxt := hr.2.2.2.2.2.2.2.2.2.2.2.2.1
  obtain ⟨m1, v1, x1, x2, x3⟩ := d_lastCal hB hj fr to hfr hto
  have y28 : ∀ z, m1 28 z = m 28 z := fun z => x1 28 z (by decide) (by decide) (by decide)
  have y29 : ∀ z, m1 29 z = m 29 z := fun z => x1 29 z (by decide) (by decide) (by decide)
  suffices hw : zk_wp G 171 0 [some (.ref M), some (.int (iz j)), some (.int (iz fr)), some (.int (iz to)), none, none, none] [] (hp G B M m) (fun r h' => ∃ m' v, dtx m m' ∧ lsP (dueJ m j) fr to v ∧ r = some (.int (iz (nef v))) ∧ h' = hp G B M m') by
    obtain ⟨r0, h0, ⟨m', v, b1, b2, rfl, rfl⟩, b3⟩ := zk_some hw
    exact ⟨m', v, b1, b2, b3⟩
  generalize hQ : (fun (r : Option Value) (h' : zk_H) => ∃ m' v, dtx m m' ∧ lsP (dueJ m j) fr to v ∧ r = some (.int (iz (nef v))) ∧ h' = hp G B M m') = Q
  have loop : ∀ (n : Nat) (k v : Int) (o6 : Option Value), 0 ≤ k → k + n = m 28 j → lsP (fun l => calJ m j l || decide (l ∈ rl k (fun k => m 29 (8 * j + k)))) fr to v → zk_wp G 171 12 [some (.ref M), some (.int (iz j)), some (.int (iz fr)), some (.int (iz to)), some (.int (iz (nef v))), some (.int (iz k)), o6] [] (hp G B M m1) Q := by
    intro n
    induction n with
    | zero =>
      intro k v o6 hk hn hv
      rw [u_171_12]
      simp (disch := first | omega | assumption | (simp; done)) only [u_171_0, u_171_1, u_171_2, u_171_3, u_171_4, u_171_7, u_171_9, u_171_10, u_171_14, u_171_15, u_171_18, u_171_19, u_171_20, u_171_24, u_171_27, u_171_29, u_171_30, u_171_31, u_171_33, u_171_34, u_171_35, u_171_37, u_171_39, u_171_40, u_171_43, u_171_45, u_171_46, u_171_49, u_171_51, u_171_53, u_171_56, u_171_58, u_171_61, u_171_63, u_171_65, u_171_68, u_171_71, u_171_73, true_or, or_true, zk_li1_s, zk_ll1_s, zk_la1_r, zk_la1_n, zk_lg0, zk_lgs, zk_co_n, zk_co_i, zk_co_r, zk_co_u, zk_co_l, zk_l1_0, zk_l1_1, zk_l1_s, zk_l2_0, zk_l2_1, zk_l2_s, zk_sm0, zk_smi, zk_smr, zk_smn, zk_sml, zk_fi, zk_fz, zk_fo, zk_fn, zk_fa, zk_ts, zk_tn, zk_cases, true_and, and_true, List.getElem?_cons_zero, List.getElem?_cons_succ, List.length_cons, List.length_nil, Nat.reduceAdd, Nat.reduceLT, Nat.reduceLeDiff, List.set_cons_zero, List.set_cons_succ, va_rf, iz_lit, iz_le, mg_28 hB, mr_28 hB, mw_28 hB, y28]
      refine ⟨fun _ => ?_, fun c => absurd c (by omega)⟩
      rw [← hQ]
      refine ⟨m1, v, x1, ?_, rfl, rfl⟩
      rw [← dueJ_eq]
      unfold xtOf
      rw [show m 28 j = k by omega]
      exact hv
    | succ n ih =>
      intro k v o6 hk hn hv
      have hx := hxt (m 29 (8 * j + k)) (by unfold xtOf; rw [mem_rl]; exact ⟨k, hk, by omega, rfl⟩)
      generalize hX : m 29 (8 * j + k) = x at *
      have st := ls_step hv (x := x) (by omega)
      have e : (fun l => (calJ m j l || decide (l ∈ rl k (fun k => m 29 (8 * j + k)))) || decide (x = l)) = (fun l => calJ m j l || decide (l ∈ rl (k + 1) (fun k => m 29 (8 * j + k)))) := by
        funext l
        rw [Bool.or_assoc]
        congr 1
        rw [Bool.eq_iff_iff, Bool.or_eq_true, decide_eq_true_iff, decide_eq_true_iff, decide_eq_true_iff, mem_rl1 (n := 0) _ k hk, hX]
      rw [e] at st
      have nx := fun w (q : (if fr ≤ x ∧ x ≤ to ∧ (v = 2147483647 ∨ v < x) then x else v) = w) o6 => ih (k + 1) w o6 (by omega) (by omega) (by rw [← q]; exact st)
      rw [u_171_12]
      have nxx := nx x
      rw [nef_n (show x ≠ 2147483647 by omega)] at nxx
      by_cases cv : v = 2147483647
      · have ev : nef v = -1 := by rw [cv]; rfl
        rw [ev]
        have nx0 := nx v
        rw [ev] at nx0
        simp (disch := first | omega | assumption | (simp; done)) only [u_171_0, u_171_1, u_171_2, u_171_3, u_171_4, u_171_7, u_171_9, u_171_10, u_171_14, u_171_15, u_171_18, u_171_19, u_171_20, u_171_23, u_171_24, u_171_27, u_171_29, u_171_30, u_171_31, u_171_33, u_171_34, u_171_35, u_171_37, u_171_39, u_171_40, u_171_43, u_171_45, u_171_46, u_171_49, u_171_51, u_171_53, u_171_56, u_171_58, u_171_61, u_171_63, u_171_65, u_171_68, u_171_71, u_171_73, true_or, or_true, zk_li1_s, zk_ll1_s, zk_la1_r, zk_la1_n, zk_lg0, zk_lgs, zk_co_n, zk_co_i, zk_co_r, zk_co_u, zk_co_l, zk_l1_0, zk_l1_1, zk_l1_s, zk_l2_0, zk_l2_1, zk_l2_s, zk_sm0, zk_smi, zk_smr, zk_smn, zk_sml, zk_fi, zk_fz, zk_fo, zk_fn, zk_fa, zk_ts, zk_tn, zk_cases, true_and, and_true, List.getElem?_cons_zero, List.getElem?_cons_succ, List.length_cons, List.length_nil, Nat.reduceAdd, Nat.reduceLT, Nat.reduceLeDiff, List.set_cons_zero, List.set_cons_succ, va_rf, iz_lit, iz_le, iz_lt, iz_mul, iz_add, mg_28 hB, mr_28 hB, mw_28 hB, mg_29 hB, mr_29 hB, mw_29 hB, y28, y29, hX]
        refine ⟨fun c => absurd c (by omega), fun _ => ⟨fun c => nx0 (if_neg (by omega)) _, fun c => ⟨fun c2 => nx0 (if_neg (by omega)) _, fun c2 => ⟨fun c3 => absurd c3 (by omega), fun c3 => nxx (if_pos (by omega)) _⟩⟩⟩⟩
      · have ev := nef_n cv
        have lo := ls_lo hv cv
        rw [ev]
        have nx0 := nx v
        rw [ev] at nx0
        simp (disch := first | omega | assumption | (simp; done)) only [u_171_0, u_171_1, u_171_2, u_171_3, u_171_4, u_171_7, u_171_9, u_171_10, u_171_14, u_171_15, u_171_18, u_171_19, u_171_20, u_171_23, u_171_24, u_171_27, u_171_29, u_171_30, u_171_31, u_171_33, u_171_34, u_171_35, u_171_37, u_171_39, u_171_40, u_171_43, u_171_45, u_171_46, u_171_49, u_171_51, u_171_53, u_171_56, u_171_58, u_171_61, u_171_63, u_171_65, u_171_68, u_171_71, u_171_73, true_or, or_true, zk_li1_s, zk_ll1_s, zk_la1_r, zk_la1_n, zk_lg0, zk_lgs, zk_co_n, zk_co_i, zk_co_r, zk_co_u, zk_co_l, zk_l1_0, zk_l1_1, zk_l1_s, zk_l2_0, zk_l2_1, zk_l2_s, zk_sm0, zk_smi, zk_smr, zk_smn, zk_sml, zk_fi, zk_fz, zk_fo, zk_fn, zk_fa, zk_ts, zk_tn, zk_cases, true_and, and_true, List.getElem?_cons_zero, List.getElem?_cons_succ, List.length_cons, List.length_nil, Nat.reduceAdd, Nat.reduceLT, Nat.reduceLeDiff, List.set_cons_zero, List.set_cons_succ, va_rf, iz_lit, iz_le, iz_lt, iz_mul, iz_add, mg_28 hB, mr_28 hB, mw_28 hB, mg_29 hB, mr_29 hB, mw_29 hB, y28, y29, hX]
        refine ⟨fun c => absurd c (by omega), fun _ => ⟨fun c => nx0 (if_neg (by omega)) _, fun c => ⟨fun c2 => nx0 (if_neg (by omega)) _, fun c2 => ⟨fun c3 => nx0 (if_neg (by omega)) _, fun c3 => nxx (if_pos (by omega)) _⟩⟩⟩⟩
  simp (disch := first | omega | assumption | (simp; done)) only [u_171_0, u_171_1, u_171_2, u_171_3, u_171_4, u_171_7, u_171_9, u_171_10, u_171_14, u_171_15, u_171_18, u_171_19, u_171_20, u_171_23, u_171_24, u_171_27, u_171_29, u_171_30, u_171_31, u_171_33, u_171_34, u_171_35, u_171_37, u_171_39, u_171_40, u_171_43, u_171_45, u_171_46, u_171_49, u_171_51, u_171_53, u_171_56, u_171_58, u_171_61, u_171_63, u_171_65, u_171_68, u_171_71, u_171_73, true_or, or_true, zk_li1_s, zk_ll1_s, zk_la1_r, zk_la1_n, zk_lg0, zk_lgs, zk_co_n, zk_co_i, zk_co_r, zk_co_u, zk_co_l, zk_l1_0, zk_l1_1, zk_l1_s, zk_l2_0, zk_l2_1, zk_l2_s, zk_sm0, zk_smi, zk_smr, zk_smn, zk_sml, zk_fi, zk_fz, zk_fo, zk_fn, zk_fa, zk_ts, zk_tn, zk_cases, true_and, and_true, List.getElem?_cons_zero, List.getElem?_cons_succ, List.length_cons, List.length_nil, Nat.reduceAdd, Nat.reduceLT, Nat.reduceLeDiff, List.set_cons_zero, List.set_cons_succ, va_rf, ic, iz_lit, x3]
  refine loop (m 28 j).toNat 0 v1 _ (by omega) (by omega) ?_
  have e : (fun l => calJ m j l || decide (l ∈ rl 0 (fun k => m 29 (8 * j + k)))) = calJ m j := by
    funext l
    rw [decide_eq_false (by simp [rl]), Bool.or_false]
  rw [e]
  exact x2
end MDUE
