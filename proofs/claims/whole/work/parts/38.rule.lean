/-! Rule: its picture; times of a day -/
/-- a Rule object: its zone's address, masks, nths, exceptions, extras, way -/
def rup (G : zk_G) (h : zk_H) (a za : Nat) (ms : Nat → Nat) (nw nn ex xt : List Int) (way : Int) : Prop := ∃ am a1 i1 c1 a2 i2 c2 a3 i3 c3 a4 i4 c4 : Nat, ∃ fm : Nat → Int64, zk_rd G h a = some (.inr (5, [.ref za, .ref am, .ref a1, .ref a2, .ref a3, .ref a4, .int (iz way)])) ∧ zk_rd G h am = some (.inl (1, 5, .inr (.inl fm))) ∧ (∀ j, j < 5 → fm j = lN (ms j)) ∧ rwz G h a1 i1 3 c1 nw ∧ rwz G h a2 i2 3 c2 nn ∧ rwz G h a3 i3 6 c3 ex ∧ rwz G h a4 i4 8 c4 xt
def rok (ms : Nat → Nat) (nw nn ex xt : List Int) (way : Int) : Prop := ms 0 < 2 ^ 60 ∧ ms 1 < 2 ^ 24 ∧ ms 2 < 2 ^ 32 ∧ ms 3 < 2 ^ 13 ∧ ms 4 < 2 ^ 7 ∧ nw.length = nn.length ∧ nw.length ≤ 3 ∧ (∀ x ∈ nw, 0 ≤ x ∧ x ≤ 6) ∧ (∀ x ∈ nn, 1 ≤ x ∧ x ≤ 6) ∧ ex.length ≤ 6 ∧ (∀ x ∈ ex, 0 ≤ x ∧ x ≤ 21038399) ∧ xt.length ≤ 8 ∧ (∀ x ∈ xt, 0 ≤ x ∧ x ≤ 21038399) ∧ 0 ≤ way ∧ way ≤ 2 ∧ (ms 2).testBit 0 = false
theorem lg_z (n : Nat) (h : n < 2 ^ 63) : lg_cmp (lN n) (lN 0) = 0 ↔ n = 0 := by
  unfold lg_cmp
  have e1 : lN n > lN 0 ↔ 0 < n := by show lN 0 < lN n ↔ _; exact pk_lLT (by decide) h
  have e2 : lN n = lN 0 ↔ n = 0 := pk_lEQ h (by decide)
  by_cases c : n = 0
  · subst c; simp
  · rw [if_pos (e1.mpr (by omega))]
    simp [c]
theorem gz_all {xs : List Int} {lo hi : Int} (h : ∀ x ∈ xs, lo ≤ x ∧ x ≤ hi) (h0 : lo ≤ 0 ∧ 0 ≤ hi) (k : Int) : lo ≤ gz xs k ∧ gz xs k ≤ hi := by
  unfold gz
  split
  · rw [List.getD_eq_getElem?_getD]
    rcases Nat.lt_or_ge k.toNat xs.length with q | q
    · rw [List.getElem?_eq_getElem q]; exact h _ (List.getElem_mem q)
    · rw [List.getElem?_eq_none q]; exact h0
  · exact h0
def emp (ms : Nat → Nat) (nw : List Int) : Bool := decide (ms 0 = 0) || decide (ms 1 = 0) || decide (ms 3 = 0) || ((decide (ms 2 = 0) || decide (ms 4 = 0)) && decide (nw.length = 0))
section RU
variable {G : zk_G} {h : zk_H} {a za : Nat} {ms : Nat → Nat} {nw nn ex xt : List Int} {way : Int}
theorem rup_ic (hp : rup G h a za ms nw nn ex xt way) : zk_ic G h a 5 ↔ True := by
  obtain ⟨am, a1, i1, c1, a2, i2, c2, a3, i3, c3, a4, i4, c4, fm, p1, -⟩ := hp
  exact zk_ic_rd p1
theorem c_isEmpty (hp : rup G h a za ms nw nn ex xt way) (hk : rok ms nw nn ex xt way) (Q : Option Value → zk_H → Prop) : zk_wp G 27 0 [some (.ref a), none] [] h Q ↔ Q (some (.int (if emp ms nw then 1 else 0))) h := by
  obtain ⟨am, a1, i1, c1, a2, i2, c2, a3, i3, c3, a4, i4, c4, fm, p1, p2, p3, p4, p5, p6, p7⟩ := hp
  obtain ⟨k0, k1, k2, k3, k4, k5, k6, -⟩ := hk
  have q1 := (rwz_rd p4).1
  have q2 := zk_ar_rd p2
  have d0 : (0 : Int32).toInt = 0 := rfl
  have d1 : (1 : Int32).toInt = 1 := rfl
  have d2 : (2 : Int32).toInt = 2 := rfl
  have d3 : (3 : Int32).toInt = 3 := rfl
  have d4 : (4 : Int32).toInt = 4 := rfl
  have f0 := p3 0 (by decide)
  have f1 := p3 1 (by decide)
  have f2 := p3 2 (by decide)
  have f3 := p3 3 (by decide)
  have f4 := p3 4 (by decide)
  have n0 : (0 : Int).toNat = 0 := rfl
  have n1 : (1 : Int).toNat = 1 := rfl
  have n2 : (2 : Int).toNat = 2 := rfl
  have n3 : (3 : Int).toNat = 3 := rfl
  have n4 : (4 : Int).toNat = 4 := rfl
  refine zk_eq ?_ Q
  simp (disch := first | omega | assumption | (simp; done)) only [u_27_0, u_27_1, u_27_4, u_27_5, u_27_6, u_27_7, u_27_8, u_27_11, u_27_12, u_27_15, u_27_16, u_27_17, u_27_18, u_27_19, u_27_22, u_27_23, u_27_26, u_27_27, u_27_28, u_27_29, u_27_32, u_27_33, u_27_34, u_27_35, u_27_36, u_27_39, u_27_40, u_27_43, u_27_44, u_27_45, u_27_46, u_27_47, u_27_50, u_27_51, u_27_54, u_27_55, u_27_56, u_27_57, u_27_58, u_27_61, u_27_62, u_27_65, u_27_66, u_27_69, u_27_72, u_27_75, u_27_76, u_27_79, u_27_80, true_or, or_true, zk_li1_s, zk_ll1_s, zk_la1_r, zk_la1_n, zk_lg0, zk_lgs, zk_co_n, zk_co_i, zk_co_r, zk_co_u, zk_co_l, zk_l1_0, zk_l1_1, zk_l1_s, zk_l2_0, zk_l2_1, zk_l2_s, zk_sm0, zk_smi, zk_smr, zk_smn, zk_sml, zk_fi, zk_fz, zk_fo, zk_fn, zk_fa, zk_ts, zk_tn, zk_cases, true_and, and_true, List.getElem?_cons_zero, List.getElem?_cons_succ, List.length_cons, List.length_nil, Nat.reduceAdd, Nat.reduceLT, Nat.reduceLeDiff, List.set_cons_zero, List.set_cons_succ, va_rf, zk_og_f p1, zk_op_f p1, zk_og_f q1, zk_op_f q1, zk_aj_f q2, d0, d1, d2, d3, d4, n0, n1, n2, n3, n4, f0, f1, f2, f3, f4, ljt0, lg_z]
  have e0 : iz (nw.length : Int) = 0 ↔ nw.length = 0 := by
    have := iz_inj (a := (nw.length : Int)) (b := 0) (by omega) (by omega)
    rw [show (0 : Int32) = iz 0 from rfl, this]
    omega
  simp only [e0]
  unfold emp
  by_cases z0 : ms 0 = 0 <;> by_cases z1 : ms 1 = 0 <;> by_cases z2 : ms 2 = 0 <;> by_cases z3 : ms 3 = 0 <;> by_cases z4 : ms 4 = 0 <;> by_cases z5 : nw.length = 0 <;> simp [z0, z1, z2, z3, z4, z5]
end RU
