/-! Zone's holidays -/
theorem ljt0 : (0 : Int64) = lN 0 := rfl
theorem ljt1 : (1 : Int64) = lN 1 := rfl
theorem wz_shl (n : Nat) {k : Int} (hk : 0 ≤ k ∧ k < 64) : lN n <<< ((iz k).toInt64 &&& 63) = lN (n * 2 ^ k.toNat) := by
  obtain ⟨j, rfl⟩ : ∃ j : Nat, k = j := ⟨k.toNat, by omega⟩
  exact wb_shl n (by omega)
theorem wz_ushr {n : Nat} {k : Int} (hn : n < 2 ^ 64) (hk : 0 ≤ k ∧ k < 64) : ((lN n).toUInt64 >>> ((iz k).toInt64.toUInt64 &&& Int64.toUInt64 63)).toInt64 = lN (n / 2 ^ k.toNat) := by
  obtain ⟨j, rfl⟩ : ∃ j : Nat, k = j := ⟨k.toNat, by omega⟩
  exact wb_shr hn (by omega)
theorem gz_nat (xs : List Int) (k : Nat) : gz xs k = xs.getD k 0 := by unfold gz; rw [if_pos (by omega)]; rfl
theorem gz_drop {xs : List Int} {k : Nat} (hk : k < xs.length) : xs.drop k = gz xs k :: xs.drop (k + 1) := by
  rw [List.drop_eq_getElem_cons hk, gz_nat, List.getD_eq_getElem?_getD, List.getElem?_eq_getElem hk]
  rfl
theorem gz_mem {xs : List Int} {k : Nat} (hk : k < xs.length) : gz xs k ∈ xs := by
  rw [gz_nat, List.getD_eq_getElem?_getD, List.getElem?_eq_getElem hk]
  exact List.getElem_mem hk
def hbF (st : Int) (acc : Nat) (x : Int) : Nat := if 0 ≤ x - st ∧ x - st < 31 then acc ||| 2 ^ (x - st + 1).toNat else acc
def hbits (hs : List Int) (st : Int) : Nat := hs.foldl (hbF st) 0
theorem hbF_lt {st : Int} {acc : Nat} {x : Int} (h : acc < 2 ^ 33) : hbF st acc x < 2 ^ 33 := by
  unfold hbF
  split
  · apply Nat.or_lt_two_pow h
    exact Nat.pow_lt_pow_right (by decide) (by omega)
  · exact h
def wdn (d : Int) : Int := (d + 5) % 7
def isHol (hs : List Int) (d : Int) : Prop := d ∈ hs
def wkd (hs : List Int) (d : Int) : Bool := decide (wdn d < 5) && !decide (d ∈ hs)
def waA (hs : List Int) : Nat → Int → Int
  | 0, _ => 2147483647
  | n + 1, d => if wkd hs d then d else waA hs n (d + 1)
def wafter (hs : List Int) (d : Int) : Int := waA hs 60 (d + 1)
theorem mem_iz {hs : List Int} (hh : ∀ x ∈ hs, 0 ≤ x ∧ x ≤ 14609) {d : Int} (hd : -2147483648 ≤ d ∧ d ≤ 2147483647) : iz d ∈ hs.map iz ↔ d ∈ hs := by
  constructor
  · intro h
    obtain ⟨x, hx, e⟩ := List.mem_map.mp h
    have := hh x hx
    rw [iz_inj (by omega) hd] at e
    rw [← e]; exact hx
  · intro h
    exact List.mem_map.mpr ⟨d, h, rfl⟩
section ZH
variable {G : zk_G} {h : zk_H} {a : Nat} {ss os hs : List Int} {mv : Nat → Int32}
theorem c_isHol (hp : znp G h a ss os hs mv) (hh : ∀ x ∈ hs, 0 ≤ x ∧ x ≤ 14609) (d : Int) (hd : -2147483648 ≤ d ∧ d ≤ 2147483647) (Q : Option Value → zk_H → Prop) : zk_wp G 46 0 [some (.ref a), some (.int (iz d))] [] h Q ↔ Q (some (.int (if d ∈ hs then 1 else 0))) h := by
  obtain ⟨a1, i1, c1, a2, i2, c2, a3, i3, c3, a4, p1, p2, p3, p4, p5⟩ := hp
  have q1 := (rwz_rd p4).1
  have ic1 := zk_ic_rd q1
  have t1 := c_has p4
  simp (disch := first | omega | assumption | (simp; done)) only [u_46_0, u_46_1, u_46_4, u_46_5, u_46_8, true_or, or_true, zk_li1_s, zk_ll1_s, zk_la1_r, zk_la1_n, zk_lg0, zk_lgs, zk_co_n, zk_co_i, zk_co_r, zk_co_u, zk_co_l, zk_l1_0, zk_l1_1, zk_l1_s, zk_l2_0, zk_l2_1, zk_l2_s, zk_sm0, zk_smi, zk_smr, zk_smn, zk_sml, zk_fi, zk_fz, zk_fo, zk_fn, zk_fa, zk_ts, zk_tn, zk_cases, true_and, and_true, List.getElem?_cons_zero, List.getElem?_cons_succ, List.length_cons, List.length_nil, Nat.reduceAdd, Nat.reduceLT, Nat.reduceLeDiff, List.set_cons_zero, List.set_cons_succ, va_rf, zk_og_f p1, zk_op_f p1, ic1, t1]
  have e : (if iz d ∈ hs.map iz then (1 : Int32) else 0) = if d ∈ hs then 1 else 0 := by
    by_cases c : d ∈ hs
    · rw [if_pos c, if_pos ((mem_iz hh hd).mpr c)]
    · rw [if_neg c, if_neg (fun q => c ((mem_iz hh hd).mp q))]
  rw [e]
  refine ⟨And.right, fun q => ⟨?_, q⟩⟩
  split
  · exact Or.inr rfl
  · exact Or.inl rfl
theorem c_isWork (hp : znp G h a ss os hs mv) (hh : ∀ x ∈ hs, 0 ≤ x ∧ x ≤ 14609) (d : Int) (hd : -100000 ≤ d ∧ d ≤ 100000) (Q : Option Value → zk_H → Prop) : zk_wp G 49 0 [some (.ref a), some (.int (iz d))] [] h Q ↔ Q (some (.int (if wkd hs d then 1 else 0))) h := by
  have t1 := c_isHol hp hh d (by omega)
  have ic0 := znp_ic hp
  have t2 := c_wd G h d hd
  refine zk_eq ?_ Q
  have e5 : iz 5 = (5 : Int32) := rfl
  simp (disch := first | omega | assumption | (simp; done)) only [u_49_0, u_49_1, u_49_4, u_49_5, u_49_8, u_49_9, u_49_10, u_49_13, u_49_16, u_49_17, u_49_20, u_49_21, true_or, or_true, zk_li1_s, zk_ll1_s, zk_la1_r, zk_la1_n, zk_lg0, zk_lgs, zk_co_n, zk_co_i, zk_co_r, zk_co_u, zk_co_l, zk_l1_0, zk_l1_1, zk_l1_s, zk_l2_0, zk_l2_1, zk_l2_s, zk_sm0, zk_smi, zk_smr, zk_smn, zk_sml, zk_fi, zk_fz, zk_fo, zk_fn, zk_fa, zk_ts, zk_tn, zk_cases, true_and, and_true, List.getElem?_cons_zero, List.getElem?_cons_succ, List.length_cons, List.length_nil, Nat.reduceAdd, Nat.reduceLT, Nat.reduceLeDiff, List.set_cons_zero, List.set_cons_succ, va_rf, ic0, t1, t2]
  rw [← e5, iz_le (by omega) (by omega)]
  unfold wkd wdn
  by_cases c1 : (d + 5) % 7 < 5
  · by_cases c2 : d ∈ hs
    · simp [c1, c2]
    · simp [c1, c2]
  · simp [c1]
theorem c_movedFrom (hp : znp G h a ss os hs mv) (k : Nat) (hk : k < 20) (Q : Option Value → zk_H → Prop) : zk_wp G 55 0 [some (.ref a), some (.int (iz k))] [] h Q ↔ Q (some (.int (mv k))) h := by
  obtain ⟨a1, i1, c1, a2, i2, c2, a3, i3, c3, a4, p1, p2, p3, p4, p5⟩ := hp
  have q5 := zk_ar_rd p5
  refine zk_eq ?_ Q
  have e1 : (iz (k : Int)).toInt = k := iz_toInt (by omega) (by omega)
  simp (disch := first | omega | assumption | (simp; done)) only [u_55_0, u_55_1, u_55_4, u_55_5, u_55_7, u_55_10, u_55_11, u_55_14, u_55_15, u_55_16, u_55_19, u_55_21, true_or, or_true, zk_li1_s, zk_ll1_s, zk_la1_r, zk_la1_n, zk_lg0, zk_lgs, zk_co_n, zk_co_i, zk_co_r, zk_co_u, zk_co_l, zk_l1_0, zk_l1_1, zk_l1_s, zk_l2_0, zk_l2_1, zk_l2_s, zk_sm0, zk_smi, zk_smr, zk_smn, zk_sml, zk_fi, zk_fz, zk_fo, zk_fn, zk_fa, zk_ts, zk_tn, zk_cases, true_and, and_true, List.getElem?_cons_zero, List.getElem?_cons_succ, List.length_cons, List.length_nil, Nat.reduceAdd, Nat.reduceLT, Nat.reduceLeDiff, List.set_cons_zero, List.set_cons_succ, va_rf, zk_og_f p1, zk_op_f p1, zk_ai_f q5, zk_an_f q5, iz_lit, iz_lt, iz_le, e1]
  refine ⟨fun c => absurd c (by omega), fun _ => ⟨fun c => absurd c (by omega), fun _ => ⟨by omega, rfl⟩⟩⟩
theorem c_hbits (hp : znp G h a ss os hs mv) (hh : ∀ x ∈ hs, 0 ≤ x ∧ x ≤ 14609) (st : Int) (hst : -100000 ≤ st ∧ st ≤ 100000) (Q : Option Value → zk_H → Prop) : zk_wp G 54 0 [some (.ref a), some (.int (iz st)), none, none, none, none] [] h Q ↔ Q (some (.long (lN (hbits hs st)))) h := by
  obtain ⟨a1, i1, c1, a2, i2, c2, a3, i3, c3, a4, p1, p2, p3, p4, p5⟩ := hp
  obtain ⟨q1, q2⟩ := rwz_rd p4
  have ic1 := zk_ic_rd q1
  have t1 := c_atz p4
  refine zk_eq ?_ Q
  have loop : ∀ (n k : Nat) (acc : Nat) (o : Option Value), k + n = hs.length → acc < 2 ^ 33 → zk_wp G 54 5 [some (.ref a), some (.int (iz st)), some (.long (lN acc)), none, some (.int (iz k)), o] [] h (fun r h' => r = some (.long (lN ((hs.drop k).foldl (hbF st) acc))) ∧ h' = h) := by
    intro n
    induction n with
    | zero =>
      intro k acc o hk hacc
      rw [u_54_5]
      simp (disch := first | omega | assumption | (simp; done)) only [u_54_0, u_54_1, u_54_2, u_54_3, u_54_7, u_54_8, u_54_11, u_54_14, u_54_17, u_54_18, u_54_21, u_54_23, u_54_26, u_54_27, u_54_28, u_54_30, u_54_32, u_54_35, u_54_37, u_54_39, u_54_42, u_54_43, u_54_44, u_54_46, u_54_47, u_54_48, u_54_49, u_54_50, u_54_51, u_54_54, u_54_57, u_54_58, true_or, or_true, zk_li1_s, zk_ll1_s, zk_la1_r, zk_la1_n, zk_lg0, zk_lgs, zk_co_n, zk_co_i, zk_co_r, zk_co_u, zk_co_l, zk_l1_0, zk_l1_1, zk_l1_s, zk_l2_0, zk_l2_1, zk_l2_s, zk_sm0, zk_smi, zk_smr, zk_smn, zk_sml, zk_fi, zk_fz, zk_fo, zk_fn, zk_fa, zk_ts, zk_tn, zk_cases, true_and, and_true, List.getElem?_cons_zero, List.getElem?_cons_succ, List.length_cons, List.length_nil, Nat.reduceAdd, Nat.reduceLT, Nat.reduceLeDiff, List.set_cons_zero, List.set_cons_succ, va_rf, zk_og_f p1, zk_op_f p1, zk_og_f q1, zk_op_f q1, ic1, iz_lit, iz_add, iz_sub, iz_le, iz_lt, t1, ljt1]
      refine ⟨fun _ => ?_, fun c => absurd c (by omega)⟩
      rw [List.drop_of_length_le (by omega)]
      rfl
    | succ n ih =>
      intro k acc o hk hacc
      rw [u_54_5]
      have hx := hh _ (gz_mem (show k < hs.length by omega))
      simp (disch := first | omega | assumption | (simp; done)) only [u_54_0, u_54_1, u_54_2, u_54_3, u_54_7, u_54_8, u_54_11, u_54_14, u_54_17, u_54_18, u_54_21, u_54_23, u_54_26, u_54_27, u_54_28, u_54_30, u_54_32, u_54_35, u_54_37, u_54_39, u_54_42, u_54_43, u_54_44, u_54_46, u_54_47, u_54_48, u_54_49, u_54_50, u_54_51, u_54_54, u_54_57, u_54_58, true_or, or_true, zk_li1_s, zk_ll1_s, zk_la1_r, zk_la1_n, zk_lg0, zk_lgs, zk_co_n, zk_co_i, zk_co_r, zk_co_u, zk_co_l, zk_l1_0, zk_l1_1, zk_l1_s, zk_l2_0, zk_l2_1, zk_l2_s, zk_sm0, zk_smi, zk_smr, zk_smn, zk_sml, zk_fi, zk_fz, zk_fo, zk_fn, zk_fa, zk_ts, zk_tn, zk_cases, true_and, and_true, List.getElem?_cons_zero, List.getElem?_cons_succ, List.length_cons, List.length_nil, Nat.reduceAdd, Nat.reduceLT, Nat.reduceLeDiff, List.set_cons_zero, List.set_cons_succ, va_rf, zk_og_f p1, zk_op_f p1, zk_og_f q1, zk_op_f q1, ic1, iz_lit, iz_add, iz_sub, iz_le, iz_lt, t1, ljt1]
      have ek : ((k : Int) + 1) = ((k + 1 : Nat) : Int) := by omega
      have hf := hbF_lt (st := st) (x := gz hs k) hacc
      rw [gz_drop (show k < hs.length by omega), List.foldl_cons, ek]
      refine ⟨fun c => absurd c (by omega), fun _ => ⟨fun c => ?_, fun c => ⟨fun c2 => ?_, fun c2 => ?_⟩⟩⟩
      · have e : hbF st acc (gz hs k) = acc := by unfold hbF; rw [if_neg (by omega)]
        rw [e]; exact ih (k + 1) acc _ (by omega) hacc
      · have e : hbF st acc (gz hs k) = acc := by unfold hbF; rw [if_neg (by omega)]
        rw [e]; exact ih (k + 1) acc _ (by omega) hacc
      · have e : lN acc ||| lN 1 <<< ((iz (gz hs k - st + 1)).toInt64 &&& 63) = lN (hbF st acc (gz hs k)) := by
          unfold hbF
          rw [if_pos (by omega), wz_shl 1 (by omega), Nat.one_mul, wb_or (by omega)]
          exact Nat.pow_lt_pow_right (by decide) (by omega)
        rw [e]
        exact ih (k + 1) _ _ (by omega) hf
  simp (disch := first | omega | assumption | (simp; done)) only [u_54_0, u_54_1, u_54_2, u_54_3, u_54_7, u_54_8, u_54_11, u_54_14, u_54_17, u_54_18, u_54_21, u_54_23, u_54_26, u_54_27, u_54_28, u_54_30, u_54_32, u_54_35, u_54_37, u_54_39, u_54_42, u_54_43, u_54_44, u_54_46, u_54_47, u_54_48, u_54_49, u_54_50, u_54_51, u_54_54, u_54_57, u_54_58, true_or, or_true, zk_li1_s, zk_ll1_s, zk_la1_r, zk_la1_n, zk_lg0, zk_lgs, zk_co_n, zk_co_i, zk_co_r, zk_co_u, zk_co_l, zk_l1_0, zk_l1_1, zk_l1_s, zk_l2_0, zk_l2_1, zk_l2_s, zk_sm0, zk_smi, zk_smr, zk_smn, zk_sml, zk_fi, zk_fz, zk_fo, zk_fn, zk_fa, zk_ts, zk_tn, zk_cases, true_and, and_true, List.getElem?_cons_zero, List.getElem?_cons_succ, List.length_cons, List.length_nil, Nat.reduceAdd, Nat.reduceLT, Nat.reduceLeDiff, List.set_cons_zero, List.set_cons_succ, va_rf, iz_lit, ljt0]
  exact loop hs.length 0 0 _ (by omega) (by decide)
theorem c_wafter (hp : znp G h a ss os hs mv) (hh : ∀ x ∈ hs, 0 ≤ x ∧ x ≤ 14609) (d : Int) (hd : -90000 ≤ d ∧ d ≤ 90000) (Q : Option Value → zk_H → Prop) : zk_wp G 48 0 [some (.ref a), some (.int (iz d)), none] [] h Q ↔ Q (some (.int (iz (wafter hs d)))) h := by
  have t1 := c_isWork hp hh
  have ic0 := znp_ic hp
  refine zk_eq ?_ Q
  have loop : ∀ (n : Nat) (e : Int), e + n = d + 61 → n ≤ 60 → zk_wp G 48 4 [some (.ref a), some (.int (iz d)), some (.int (iz e))] [] h (fun r h' => r = some (.int (iz (waA hs n e))) ∧ h' = h) := by
    intro n
    induction n with
    | zero =>
      intro e he hn
      rw [u_48_4]
      simp (disch := first | omega | assumption | (simp; done)) only [u_48_0, u_48_1, u_48_2, u_48_3, u_48_5, u_48_6, u_48_8, u_48_9, u_48_12, u_48_13, u_48_14, u_48_17, u_48_20, u_48_21, u_48_22, u_48_25, u_48_28, u_48_30, true_or, or_true, zk_li1_s, zk_ll1_s, zk_la1_r, zk_la1_n, zk_lg0, zk_lgs, zk_co_n, zk_co_i, zk_co_r, zk_co_u, zk_co_l, zk_l1_0, zk_l1_1, zk_l1_s, zk_l2_0, zk_l2_1, zk_l2_s, zk_sm0, zk_smi, zk_smr, zk_smn, zk_sml, zk_fi, zk_fz, zk_fo, zk_fn, zk_fa, zk_ts, zk_tn, zk_cases, true_and, and_true, List.getElem?_cons_zero, List.getElem?_cons_succ, List.length_cons, List.length_nil, Nat.reduceAdd, Nat.reduceLT, Nat.reduceLeDiff, List.set_cons_zero, List.set_cons_succ, va_rf, ic0, iz_lit, iz_add, iz_lt, t1]
      exact ⟨fun _ => rfl, fun c => absurd c (by omega)⟩
    | succ n ih =>
      intro e he hn
      rw [u_48_4]
      simp (disch := first | omega | assumption | (simp; done)) only [u_48_0, u_48_1, u_48_2, u_48_3, u_48_5, u_48_6, u_48_8, u_48_9, u_48_12, u_48_13, u_48_14, u_48_17, u_48_20, u_48_21, u_48_22, u_48_25, u_48_28, u_48_30, true_or, or_true, zk_li1_s, zk_ll1_s, zk_la1_r, zk_la1_n, zk_lg0, zk_lgs, zk_co_n, zk_co_i, zk_co_r, zk_co_u, zk_co_l, zk_l1_0, zk_l1_1, zk_l1_s, zk_l2_0, zk_l2_1, zk_l2_s, zk_sm0, zk_smi, zk_smr, zk_smn, zk_sml, zk_fi, zk_fz, zk_fo, zk_fn, zk_fa, zk_ts, zk_tn, zk_cases, true_and, and_true, List.getElem?_cons_zero, List.getElem?_cons_succ, List.length_cons, List.length_nil, Nat.reduceAdd, Nat.reduceLT, Nat.reduceLeDiff, List.set_cons_zero, List.set_cons_succ, va_rf, ic0, iz_lit, iz_add, iz_lt, t1]
      refine ⟨fun c => absurd c (by omega), fun _ => ⟨fun c => ?_, fun c => ?_⟩⟩
      · by_cases w : wkd hs e = true
        · rw [if_pos w] at c; exact absurd c (by decide)
        · unfold waA; rw [if_neg w]; exact ih (e + 1) (by omega) (by omega)
      · by_cases w : wkd hs e = true
        · unfold waA; rw [if_pos w]
        · rw [if_neg w] at c; exact absurd rfl c
  simp (disch := first | omega | assumption | (simp; done)) only [u_48_0, u_48_1, u_48_2, u_48_3, u_48_5, u_48_6, u_48_8, u_48_9, u_48_12, u_48_13, u_48_14, u_48_17, u_48_20, u_48_21, u_48_22, u_48_25, u_48_28, u_48_30, true_or, or_true, zk_li1_s, zk_ll1_s, zk_la1_r, zk_la1_n, zk_lg0, zk_lgs, zk_co_n, zk_co_i, zk_co_r, zk_co_u, zk_co_l, zk_l1_0, zk_l1_1, zk_l1_s, zk_l2_0, zk_l2_1, zk_l2_s, zk_sm0, zk_smi, zk_smr, zk_smn, zk_sml, zk_fi, zk_fz, zk_fo, zk_fn, zk_fa, zk_ts, zk_tn, zk_cases, true_and, and_true, List.getElem?_cons_zero, List.getElem?_cons_succ, List.length_cons, List.length_nil, Nat.reduceAdd, Nat.reduceLT, Nat.reduceLeDiff, List.set_cons_zero, List.set_cons_succ, va_rf, iz_lit, iz_add]
  exact loop 60 (d + 1) (by omega) (by omega)
end ZH
