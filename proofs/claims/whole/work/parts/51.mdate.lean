/-! the model's dates -/
def dEra (d : Int) : Int := (d + 730425) % 146097
def dY (d : Int) : Int := (dEra d - dEra d / 1460 + dEra d / 36524 - dEra d / 146096) / 365
def dIn (d : Int) : Int := dEra d - (365 * dY d + dY d / 4 - dY d / 100)
def dPart (d : Int) : Int := (5 * dIn d + 2) / 153
def dDay (d : Int) : Int := dIn d - (153 * dPart d + 2) / 5 + 1
def dMon (d : Int) : Int := if dPart d < 10 then dPart d + 3 else dPart d - 9
def dYear (d : Int) : Int := dY d + 400 * ((d + 730425) / 146097) + (if dMon d ≤ 2 then 1 else 0)
def leapB (y : Int) : Bool := decide (y % 4 = 0) && (decide (y % 100 ≠ 0) || decide (y % 400 = 0))
def dLen (y mo : Int) : Int := if mo = 2 then (if leapB y then 29 else 28) else if mo = 4 ∨ mo = 6 ∨ mo = 9 ∨ mo = 11 then 30 else 31
def dAgree (d : Int) : Bool := decide (dDay d = d - stOf (moOf d) + 1) && decide (dMon d = moOf d % 12 + 1) && decide (dYear d = 2000 + moOf d / 12) && decide (dLen (dYear d) (dMon d) = stOf (moOf d + 1) - stOf (moOf d)) && decide (0 ≤ dEra d ∧ 0 ≤ dY d ∧ dY d ≤ 399 ∧ 0 ≤ dIn d ∧ dIn d ≤ 366 ∧ 0 ≤ dPart d ∧ dPart d ≤ 11)
/-- one month at a time: both calendars step alike -/
def dChk (a n : Nat) : Bool := (List.range n).all (fun i => dAgree ((i : Int) + a - 1000))
theorem dChk_1 : dChk 0 1060 = true := by decide +kernel
theorem dChk_2 : dChk 1060 1461 = true := by decide +kernel
theorem moOf_sh (d : Int) : moOf (d + 1461) = moOf d + 48 := by
  unfold moOf
  have e1 : (d + 1461) / 1461 = d / 1461 + 1 := by omega
  have e2 : (d + 1461) % 1461 = d % 1461 := by omega
  rw [e1, e2]
  omega
theorem dY_sh {d : Int} (h : 60 ≤ d ∧ d ≤ 18600) : dEra (d + 1461) = dEra d + 1461 ∧ dEra d = d - 60 ∧ dY (d + 1461) = dY d + 4 ∧ 0 ≤ dY d ∧ dY d ≤ 51 := by
  have e1 : dEra d = d - 60 := by unfold dEra; omega
  have e2 : dEra (d + 1461) = d + 1401 := by unfold dEra; omega
  refine ⟨by omega, e1, ?_, ?_, ?_⟩
  · unfold dY
    rw [e1, e2]
    omega
  · unfold dY
    rw [e1]
    omega
  · unfold dY
    rw [e1]
    omega
theorem agree_step {d : Int} (h : 60 ≤ d ∧ d ≤ 18600) (ha : dAgree d = true) : dAgree (d + 1461) = true := by
  obtain ⟨e1, e2, e3, e4, e5⟩ := dY_sh h
  have i1 : dIn (d + 1461) = dIn d := by unfold dIn; rw [e1, e3]; omega
  have i2 : dPart (d + 1461) = dPart d := by unfold dPart; rw [i1]
  have i3 : dDay (d + 1461) = dDay d := by unfold dDay; rw [i1, i2]
  have i4 : dMon (d + 1461) = dMon d := by unfold dMon; rw [i2]
  have i5 : dYear (d + 1461) = dYear d + 4 ∧ 2000 ≤ dYear d ∧ dYear d ≤ 2060 := by
    unfold dYear
    rw [e3, i4]
    split <;> omega
  unfold dAgree at ha ⊢
  simp only [Bool.and_eq_true, decide_eq_true_eq] at ha ⊢
  obtain ⟨⟨⟨⟨a1, a2⟩, a3⟩, a4⟩, a5⟩ := ha
  have s1 := stOf_48 (moOf d) 1
  have s2 := stOf_48 (moOf d + 1) 1
  have hm := moOf_sh d
  have s1' : stOf (moOf d + 48) = stOf (moOf d) + 1461 := by
    have e : moOf d + 48 = moOf d + 48 * 1 := by omega
    rw [e]; omega
  have s2' : stOf (moOf d + 48 + 1) = stOf (moOf d + 1) + 1461 := by
    have e : moOf d + 48 + 1 = moOf d + 1 + 48 * 1 := by omega
    rw [e]; omega
  refine ⟨⟨⟨⟨?_, ?_⟩, ?_⟩, ?_⟩, ?_⟩
  · rw [i3, hm, s1']; omega
  · rw [i4, hm]; omega
  · rw [i5.1, hm]; omega
  · rw [i4, i5.1, hm, s1', s2']
    have : dLen (dYear d + 4) (dMon d) = dLen (dYear d) (dMon d) := by
      unfold dLen
      have : leapB (dYear d + 4) = leapB (dYear d) := by
        unfold leapB
        have y1 := i5.2.1
        have y2 := i5.2.2
        generalize dYear d = y at *
        rw [Bool.eq_iff_iff]
        simp only [Bool.and_eq_true, Bool.or_eq_true, decide_eq_true_eq]
        omega
      rw [this]
    rw [this]; omega
  · rw [e1, e3, i1, i2]; omega
theorem agree_up : ∀ (n : Nat) (d : Int), 60 ≤ d → d < 60 + 1461 * (n + 1) → d ≤ 20000 → dAgree d = true := by
  intro n
  induction n with
  | zero =>
    intro d h1 h2 h3
    have := List.all_eq_true.mp dChk_2 (d - 60).toNat (List.mem_range.mpr (by omega))
    rw [show (((d - 60).toNat : Nat) : Int) + (1060 : Nat) - 1000 = d by omega] at this
    exact this
  | succ n ih =>
    intro d h1 h2 h3
    rcases Int.lt_or_le d (60 + 1461) with q | q
    · have := List.all_eq_true.mp dChk_2 (d - 60).toNat (List.mem_range.mpr (by omega))
      rw [show (((d - 60).toNat : Nat) : Int) + (1060 : Nat) - 1000 = d by omega] at this
      exact this
    · have := agree_step (d := d - 1461) (by omega) (ih (d - 1461) (by omega) (by omega) (by omega))
      rw [show d - 1461 + 1461 = d by omega] at this
      exact this
theorem agree_all (d : Int) (h : -1000 ≤ d ∧ d ≤ 20000) : dAgree d = true := by
  rcases Int.lt_or_le d 60 with q | q
  · have := List.all_eq_true.mp dChk_1 (d + 1000).toNat (List.mem_range.mpr (by omega))
    rw [show (((d + 1000).toNat : Nat) : Int) + (0 : Nat) - 1000 = d by omega] at this
    exact this
  · exact agree_up 14 d q (by omega) h.2
theorem agree_p {d : Int} (h : -1000 ≤ d ∧ d ≤ 20000) : dDay d = d - stOf (moOf d) + 1 ∧ dMon d = moOf d % 12 + 1 ∧ dYear d = 2000 + moOf d / 12 ∧ dLen (dYear d) (dMon d) = stOf (moOf d + 1) - stOf (moOf d) ∧ (0 ≤ dEra d ∧ 0 ≤ dY d ∧ dY d ≤ 399 ∧ 0 ≤ dIn d ∧ dIn d ≤ 366 ∧ 0 ≤ dPart d ∧ dPart d ≤ 11) := by
  have := agree_all d h
  unfold dAgree at this
  simp only [Bool.and_eq_true, decide_eq_true_eq] at this
  obtain ⟨⟨⟨⟨a1, a2⟩, a3⟩, a4⟩, a5⟩ := this
  exact ⟨a1, a2, a3, a4, a5⟩
section MD
variable {G : zk_G} {B : zk_H} {M : Nat}
/-- the state with a date written -/
def dt (m : mS) (d : Int) : mS := up (up (up m 9 0 (dDay d)) 8 0 (dMon d)) 7 0 (dYear d)
theorem d_date (hB : hpo G B M) (m : mS) (d : Int) (hd : -1000 ≤ d ∧ d ≤ 20000) (Q : Option Value → zk_H → Prop) : zk_wp G 129 0 [some (.ref M), some (.int (iz d)), none, none, none, none, none, none] [] (hp G B M m) Q ↔ Q none (hp G B M (dt m d)) := by
  refine zk_eq ?_ Q
  obtain ⟨-, -, -, -, b1, b2, b3, b4, b5, b6, b7⟩ := agree_p hd
  have n1 : ¬ iz 146097 = (0 : Int32) := by decide
  have n2 : ¬ iz 1460 = (0 : Int32) := by decide
  have n3 : ¬ iz 36524 = (0 : Int32) := by decide
  have n4 : ¬ iz 146096 = (0 : Int32) := by decide
  have n5 : ¬ iz 365 = (0 : Int32) := by decide
  have n6 : ¬ iz 4 = (0 : Int32) := by decide
  have n7 : ¬ iz 100 = (0 : Int32) := by decide
  have n8 : ¬ iz 153 = (0 : Int32) := by decide
  have n9 : ¬ iz 5 = (0 : Int32) := by decide
  have e0 : (d + 730425) / 146097 * 146097 = d + 730425 - dEra d := by unfold dEra; omega
  have e1 : d + 730425 - (d + 730425) / 146097 * 146097 = dEra d := by unfold dEra; omega
  have hE : dEra d ≤ 146096 := by unfold dEra; omega
  have eY : (dEra d - dEra d / 1460 + dEra d / 36524 - dEra d / 146096) / 365 = dY d := rfl
  have eI : dEra d - (365 * dY d + dY d / 4 - dY d / 100) = dIn d := rfl
  have eP : (5 * dIn d + 2) / 153 = dPart d := rfl
  have eD : dIn d - (153 * dPart d + 2) / 5 + 1 = dDay d := rfl
  simp (disch := first | omega | assumption | (simp; done)) only [u_129_0, u_129_1, u_129_3, u_129_4, u_129_5, u_129_6, u_129_8, u_129_9, u_129_10, u_129_11, u_129_13, u_129_14, u_129_16, u_129_18, u_129_20, u_129_23, u_129_24, u_129_25, u_129_27, u_129_29, u_129_30, u_129_31, u_129_33, u_129_35, u_129_36, u_129_37, u_129_40, u_129_41, u_129_43, u_129_45, u_129_48, u_129_50, u_129_51, u_129_53, u_129_54, u_129_55, u_129_56, u_129_58, u_129_60, u_129_61, u_129_62, u_129_63, u_129_65, u_129_66, u_129_68, u_129_69, u_129_70, u_129_71, u_129_74, u_129_75, u_129_77, u_129_78, u_129_80, u_129_83, u_129_85, u_129_86, u_129_87, u_129_88, u_129_89, u_129_90, u_129_91, u_129_92, u_129_93, u_129_96, u_129_97, u_129_99, u_129_101, u_129_104, u_129_106, u_129_107, u_129_108, u_129_111, u_129_113, u_129_115, u_129_116, u_129_119, u_129_120, u_129_122, u_129_125, u_129_126, u_129_127, u_129_128, u_129_129, u_129_132, u_129_133, u_129_136, u_129_137, u_129_140, u_129_141, u_129_142, u_129_145, true_or, or_true, zk_li1_s, zk_ll1_s, zk_la1_r, zk_la1_n, zk_lg0, zk_lgs, zk_co_n, zk_co_i, zk_co_r, zk_co_u, zk_co_l, zk_l1_0, zk_l1_1, zk_l1_s, zk_l2_0, zk_l2_1, zk_l2_s, zk_sm0, zk_smi, zk_smr, zk_smn, zk_sml, zk_fi, zk_fz, zk_fo, zk_fn, zk_fa, zk_ts, zk_tn, zk_cases, true_and, and_true, List.getElem?_cons_zero, List.getElem?_cons_succ, List.length_cons, List.length_nil, Nat.reduceAdd, Nat.reduceLT, Nat.reduceLeDiff, List.set_cons_zero, List.set_cons_succ, va_rf, iz_lit, iz_add, iz_sub, iz_mul, iz_div, iz_le, iz_lt, e1, eY, eI, eP, eD, mg_7 hB, mw_7 hB, mg_8 hB, mw_8 hB, mg_9 hB, mw_9 hB, up_e]
  have fin : ∀ mo : Int, mo = dMon d → (dY d + 400 * ((d + 730425) / 146097) + (if mo ≤ 2 then 1 else 0)) = dYear d := by
    intro mo hmo
    rw [hmo]
    rfl
  refine ⟨fun c => ?_, fun c => ?_⟩
  · have hm : dPart d - 9 = dMon d := by unfold dMon; rw [if_neg (by omega)]
    rw [hm]
    refine ⟨fun c2 => ?_, fun c2 => ?_⟩
    · have := fin _ rfl
      rw [if_neg (by omega)] at this
      rw [this]; rfl
    · have := fin _ rfl
      rw [if_pos (by omega)] at this
      rw [this]; rfl
  · have hm : dPart d + 3 = dMon d := by unfold dMon; rw [if_pos (by omega)]
    rw [hm]
    refine ⟨fun c2 => ?_, fun c2 => ?_⟩
    · have := fin _ rfl
      rw [if_neg (by omega)] at this
      rw [this]; rfl
    · have := fin _ rfl
      rw [if_pos (by omega)] at this
      rw [this]; rfl
end MD
