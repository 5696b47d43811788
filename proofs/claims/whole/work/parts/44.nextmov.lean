/-! Rule.nextMoved -/
theorem waA_r (hs : List Int) : ∀ (n : Nat) (d : Int), waA hs n d = 2147483647 ∨ (d ≤ waA hs n d ∧ waA hs n d < d + n ∧ wkd hs (waA hs n d) = true ∧ ∀ e, d ≤ e → e < waA hs n d → wkd hs e = false) := by
  intro n
  induction n with
  | zero => intro d; exact Or.inl rfl
  | succ n ih =>
    intro d
    unfold waA
    by_cases c : wkd hs d = true
    · rw [if_pos c]; exact Or.inr ⟨by omega, by omega, c, fun e e1 e2 => by omega⟩
    · rw [if_neg c]
      rcases ih (d + 1) with q | ⟨q1, q2, q3, q4⟩
      · exact Or.inl q
      · refine Or.inr ⟨by omega, by omega, q3, fun e e1 e2 => ?_⟩
        rcases Int.lt_or_le d e with z | z
        · exact q4 e (by omega) e2
        · rw [show e = d by omega]; simpa using c
theorem wafter_r (hs : List Int) (d : Int) : wafter hs d = 2147483647 ∨ (d + 1 ≤ wafter hs d ∧ wafter hs d < d + 61 ∧ wkd hs (wafter hs d) = true ∧ ∀ e, d < e → e < wafter hs d → wkd hs e = false) := by
  unfold wafter
  rcases waA_r hs 60 (d + 1) with q | ⟨q1, q2, q3, q4⟩
  · exact Or.inl q
  · refine Or.inr ⟨by omega, by omega, q3, fun e e1 e2 => q4 e (by omega) e2⟩
def mvok (hs : List Int) (mv : Nat → Int32) : Prop := ∀ k, k < hs.length → mv k = iz (wafter hs (gz hs k))
/-- a day to which a holiday that fits is moved -/
def movD (ms : Nat → Nat) (nw nn hs : List Int) (d : Int) : Bool := hs.any (fun x => decide (wafter hs x = d) && fitD ms nw nn x)
def nmP (on : Int → Bool) (fr v : Int) : Prop := (v = 2147483647 ∧ ∀ d, fr ≤ d → d < 2147483647 → on d = false) ∨ (fr ≤ v ∧ v < 2147483647 ∧ on v = true ∧ ∀ d, fr ≤ d → d < v → on d = false)
def nmI (ms : Nat → Nat) (nw nn hs : List Int) (fr : Int) (k : Nat) (v : Int) : Prop := v ≤ 2147483647 ∧ (v = 2147483647 ∨ (fr ≤ v ∧ movD ms nw nn hs v = true)) ∧ ∀ j, j < k → fitD ms nw nn (gz hs j) = true → fr ≤ wafter hs (gz hs j) → v ≤ wafter hs (gz hs j)
theorem gz_mem_iff {xs : List Int} {x : Int} : x ∈ xs ↔ ∃ j, j < xs.length ∧ gz xs j = x := by
  constructor
  · intro h
    obtain ⟨i, hi, e⟩ := List.mem_iff_getElem.mp h
    refine ⟨i, hi, ?_⟩
    rw [gz_nat, List.getD_eq_getElem?_getD, List.getElem?_eq_getElem hi]
    exact e
  · rintro ⟨j, hj, rfl⟩
    exact gz_mem hj
theorem nmI_end {ms : Nat → Nat} {nw nn hs : List Int} {fr v : Int} (h : nmI ms nw nn hs fr hs.length v) : nmP (movD ms nw nn hs) fr v := by
  obtain ⟨h0, h1, h2⟩ := h
  have key : ∀ d, fr ≤ d → d < v → movD ms nw nn hs d = false := by
    intro d d1 d2
    rcases Bool.eq_false_or_eq_true (movD ms nw nn hs d) with c | c
    · exfalso
      unfold movD at c
      rw [List.any_eq_true] at c
      obtain ⟨x, hx, e⟩ := c
      rw [Bool.and_eq_true, decide_eq_true_eq] at e
      obtain ⟨j, hj, rfl⟩ := gz_mem_iff.mp hx
      have := h2 j hj e.2 (by omega)
      omega
    · exact c
  by_cases c : v = 2147483647
  · exact Or.inl ⟨c, fun d d1 d2 => key d d1 (by omega)⟩
  · rcases h1 with q | ⟨q1, q2⟩
    · exact absurd q c
    · exact Or.inr ⟨q1, by omega, q2, key⟩
section NM
variable {G : zk_G} {h : zk_H} {a za : Nat} {ms : Nat → Nat} {nw nn ex xt : List Int} {way : Int} {ss os hs : List Int} {mv : Nat → Int32}
theorem c_nextMov (hp : rup G h a za ms nw nn ex xt way) (hk : rok ms nw nn ex xt way) (hz : znp G h za ss os hs mv) (hh : ∀ x ∈ hs, 0 ≤ x ∧ x ≤ 14609) (hl : hs.length ≤ 20) (hv : mvok hs mv) (hG : GS G) (fr : Int) (hfr : -2 ≤ fr ∧ fr ≤ 15000) : ∃ v : Int, nmP (movD ms nw nn hs) fr v ∧ ∀ Q : Option Value → zk_H → Prop, zk_wp G 34 0 [some (.ref a), some (.int (iz fr)), none, none, none, none, none, none, none] [] h Q ↔ Q (some (.int (iz v))) h := by
  have icz := znp_ic hz
  have ica := rup_ic hp
  have fit := c_fitting hp hk
  have mf := c_movedFrom hz
  obtain ⟨am, a1, i1, c1, a2, i2, c2, a3, i3, c3, a4, i4, c4, fm, p1, -⟩ := hp
  obtain ⟨b1, j1, e1, b2, j2, e2, b3, j3, e3, b4, z1, z2, z3, z4, z5⟩ := hz
  obtain ⟨q1, -⟩ := rwz_rd z4
  have ic3 := zk_ic_rd q1
  have t3 := c_atz z4
  have mo := c_monthOf G hG h
  have so := c_startOf G hG h
  suffices hw : zk_wp G 34 0 [some (.ref a), some (.int (iz fr)), none, none, none, none, none, none, none] [] h (fun r h' => h' = h ∧ ∃ v : Int, nmP (movD ms nw nn hs) fr v ∧ r = some (.int (iz v))) by
    obtain ⟨r0, h0, ⟨rfl, v, b1, rfl⟩, b3⟩ := zk_some hw
    exact ⟨v, b1, b3⟩
  generalize hQ : (fun (r : Option Value) (h' : zk_H) => h' = h ∧ ∃ v : Int, nmP (movD ms nw nn hs) fr v ∧ r = some (.int (iz v))) = Q
  have loop : ∀ (n k : Nat) (v : Int) (o4 o5 o6 o7 o8 : Option Value), k + n = hs.length → -2 ≤ v → nmI ms nw nn hs fr k v → zk_wp G 34 5 [some (.ref a), some (.int (iz fr)), some (.int (iz v)), some (.int (iz k)), o4, o5, o6, o7, o8] [] h Q := by
    intro n
    induction n with
    | zero =>
      intro k v o4 o5 o6 o7 o8 hkn hv2 hI
      rw [u_34_5]
      simp (disch := first | omega | assumption | (simp; done)) only [u_34_0, u_34_2, u_34_3, u_34_4, u_34_6, u_34_7, u_34_10, u_34_13, u_34_16, u_34_20, u_34_23, u_34_24, u_34_27, u_34_29, u_34_31, u_34_32, u_34_35, u_34_37, u_34_38, u_34_41, u_34_44, u_34_45, u_34_48, u_34_51, u_34_52, u_34_55, u_34_58, u_34_60, u_34_62, u_34_65, u_34_67, u_34_68, u_34_70, u_34_72, u_34_74, u_34_75, u_34_76, u_34_79, u_34_81, u_34_82, u_34_85, u_34_87, u_34_89, u_34_90, u_34_93, u_34_96, u_34_97, u_34_100, u_34_102, u_34_103, u_34_104, u_34_105, u_34_106, u_34_107, u_34_108, u_34_109, u_34_110, u_34_113, u_34_115, u_34_116, u_34_119, u_34_122, u_34_123, true_or, or_true, zk_li1_s, zk_ll1_s, zk_la1_r, zk_la1_n, zk_lg0, zk_lgs, zk_co_n, zk_co_i, zk_co_r, zk_co_u, zk_co_l, zk_l1_0, zk_l1_1, zk_l1_s, zk_l2_0, zk_l2_1, zk_l2_s, zk_sm0, zk_smi, zk_smr, zk_smn, zk_sml, zk_fi, zk_fz, zk_fo, zk_fn, zk_fa, zk_ts, zk_tn, zk_cases, true_and, and_true, List.getElem?_cons_zero, List.getElem?_cons_succ, List.length_cons, List.length_nil, Nat.reduceAdd, Nat.reduceLT, Nat.reduceLeDiff, List.set_cons_zero, List.set_cons_succ, va_rf, zk_og_f p1, zk_op_f p1, zk_og_f z1, zk_op_f z1, zk_og_f q1, zk_op_f q1, iz_lit, iz_le]
      refine ⟨fun _ => ?_, fun c => absurd c (by omega)⟩
      rw [← hQ]
      have : k = hs.length := by omega
      subst this
      exact ⟨rfl, v, nmI_end hI, rfl⟩
    | succ n ih =>
      intro k v o4 o5 o6 o7 o8 hkn hv2 hI
      have hx := hh _ (gz_mem (show k < hs.length by omega))
      have hwr := wafter_r hs (gz hs k)
      have hmv := hv k (by omega)
      obtain ⟨m1, m2⟩ := moOf_sp (gz hs k)
      have m3 := moOf_r (d := gz hs k) (by omega)
      have ln := stOf_len (moOf (gz hs k))
      have sr := stOf_r (m := moOf (gz hs k)) (by omega)
      have sr2 := stOf_r (m := moOf (gz hs k) + 1) (by omega)
      obtain ⟨B, hB, hBb, hfit⟩ := fit (moOf (gz hs k)) (stOf (moOf (gz hs k))) (stOf (moOf (gz hs k) + 1) - stOf (moOf (gz hs k))) (by omega) (by omega) (by omega)
      have hB63 : B < 2 ^ 63 := by omega
      have mf2 := mf k (by omega)
      rw [hmv] at mf2
      have hfd : fitD ms nw nn (gz hs k) = B.testBit (gz hs k - stOf (moOf (gz hs k)) + 1).toNat := by rw [hBb]; rfl
      generalize hW : wafter hs (gz hs k) = W at *
      have hWr : 0 ≤ W ∧ W ≤ 2147483647 := by omega
      obtain ⟨I0, I1, I2⟩ := hI
      rw [u_34_5]
      have hd2 : ∀ e : Nat, B / 2 ^ e % 2 < 2 ^ 63 := fun e => by omega
      simp (disch := first | omega | assumption | (simp; done)) only [u_34_0, u_34_2, u_34_3, u_34_4, u_34_6, u_34_7, u_34_10, u_34_13, u_34_16, u_34_19, u_34_20, u_34_23, u_34_24, u_34_27, u_34_29, u_34_31, u_34_32, u_34_35, u_34_37, u_34_38, u_34_41, u_34_44, u_34_45, u_34_48, u_34_51, u_34_52, u_34_55, u_34_58, u_34_60, u_34_62, u_34_65, u_34_67, u_34_68, u_34_70, u_34_72, u_34_74, u_34_75, u_34_76, u_34_79, u_34_81, u_34_82, u_34_85, u_34_87, u_34_89, u_34_90, u_34_93, u_34_96, u_34_97, u_34_100, u_34_102, u_34_103, u_34_104, u_34_105, u_34_106, u_34_107, u_34_108, u_34_109, u_34_110, u_34_113, u_34_115, u_34_116, u_34_119, u_34_122, u_34_123, true_or, or_true, zk_li1_s, zk_ll1_s, zk_la1_r, zk_la1_n, zk_lg0, zk_lgs, zk_co_n, zk_co_i, zk_co_r, zk_co_u, zk_co_l, zk_l1_0, zk_l1_1, zk_l1_s, zk_l2_0, zk_l2_1, zk_l2_s, zk_sm0, zk_smi, zk_smr, zk_smn, zk_sml, zk_fi, zk_fz, zk_fo, zk_fn, zk_fa, zk_ts, zk_tn, zk_cases, true_and, and_true, List.getElem?_cons_zero, List.getElem?_cons_succ, List.length_cons, List.length_nil, Nat.reduceAdd, Nat.reduceLT, Nat.reduceLeDiff, List.set_cons_zero, List.set_cons_succ, va_rf, zk_og_f p1, zk_op_f p1, zk_og_f z1, zk_op_f z1, zk_og_f q1, zk_op_f q1, ica, icz, ic3, iz_lit, iz_add, iz_sub, iz_le, iz_lt, mf2, t3, mo, so, hfit, ljt0, ljt1, us_bit, lg_zi, bit_z]
      have ek : ((k : Int) + 1) = ((k + 1 : Nat) : Int) := by omega
      rw [ek]
      refine ⟨fun c => absurd c (by omega), fun _ => ⟨fun c => ?_, fun c => ⟨fun c2 => ⟨fun c3 => ?_, fun c3 => ?_⟩, fun c2 => ?_⟩⟩⟩
      · refine ih (k + 1) v _ _ _ _ _ (by omega) hv2 ⟨I0, I1, fun j hj f1 f2 => ?_⟩
        rcases Nat.lt_or_ge j k with q | q
        · exact I2 j q f1 f2
        · rw [show j = k by omega, hW] at f2; omega
      · refine ih (k + 1) v _ _ _ _ _ (by omega) hv2 ⟨I0, I1, fun j hj f1 f2 => ?_⟩
        rcases Nat.lt_or_ge j k with q | q
        · exact I2 j q f1 f2
        · rw [show j = k by omega, hfd, c3] at f1; cases f1
      · refine ih (k + 1) W _ _ _ _ _ (by omega) (by omega) ⟨by omega, Or.inr ⟨by omega, ?_⟩, fun j hj f1 f2 => ?_⟩
        · unfold movD
          rw [List.any_eq_true]
          refine ⟨gz hs k, gz_mem (by omega), ?_⟩
          rw [hW, hfd]
          simpa using c3
        · rcases Nat.lt_or_ge j k with q | q
          · have := I2 j q f1 f2; omega
          · rw [show j = k by omega, hW]; omega
      · refine ih (k + 1) v _ _ _ _ _ (by omega) hv2 ⟨I0, I1, fun j hj f1 f2 => ?_⟩
        rcases Nat.lt_or_ge j k with q | q
        · exact I2 j q f1 f2
        · rw [show j = k by omega, hW]; omega
  simp (disch := first | omega | assumption | (simp; done)) only [u_34_0, u_34_2, u_34_3, u_34_4, u_34_6, u_34_7, u_34_10, u_34_13, u_34_16, u_34_19, u_34_20, u_34_23, u_34_24, u_34_27, u_34_29, u_34_31, u_34_32, u_34_35, u_34_37, u_34_38, u_34_41, u_34_44, u_34_45, u_34_48, u_34_51, u_34_52, u_34_55, u_34_58, u_34_60, u_34_62, u_34_65, u_34_67, u_34_68, u_34_70, u_34_72, u_34_74, u_34_75, u_34_76, u_34_79, u_34_81, u_34_82, u_34_85, u_34_87, u_34_89, u_34_90, u_34_93, u_34_96, u_34_97, u_34_100, u_34_102, u_34_103, u_34_104, u_34_105, u_34_106, u_34_107, u_34_108, u_34_109, u_34_110, u_34_113, u_34_115, u_34_116, u_34_119, u_34_122, u_34_123, true_or, or_true, zk_li1_s, zk_ll1_s, zk_la1_r, zk_la1_n, zk_lg0, zk_lgs, zk_co_n, zk_co_i, zk_co_r, zk_co_u, zk_co_l, zk_l1_0, zk_l1_1, zk_l1_s, zk_l2_0, zk_l2_1, zk_l2_s, zk_sm0, zk_smi, zk_smr, zk_smn, zk_sml, zk_fi, zk_fz, zk_fo, zk_fn, zk_fa, zk_ts, zk_tn, zk_cases, true_and, and_true, List.getElem?_cons_zero, List.getElem?_cons_succ, List.length_cons, List.length_nil, Nat.reduceAdd, Nat.reduceLT, Nat.reduceLeDiff, List.set_cons_zero, List.set_cons_succ, va_rf, iz_lit]
  exact loop hs.length 0 2147483647 none none none none none (by omega) (by omega) ⟨by omega, Or.inl rfl, fun j hj => absurd hj (by omega)⟩
end NM
