/-! Zone, read only -/
theorem iz_neg (a : Int) : - iz a = iz (-a) := by unfold iz; rw [Int32.ofInt_neg]
def lz (z : Int) : Int64 := Int64.ofInt z
theorem bm64 {z : Int} (h1 : -9223372036854775808 ≤ z) (h2 : z ≤ 9223372036854775807) : z.bmod (2 ^ 64) = z := by
  unfold Int.bmod
  simp only
  split <;> omega
theorem lz_toInt {z : Int} (h1 : -9223372036854775808 ≤ z) (h2 : z ≤ 9223372036854775807) : (lz z).toInt = z := by
  unfold lz
  rw [Int64.toInt_ofInt]
  exact bm64 h1 h2
theorem lz_sub (a b : Int) : lz a - lz b = lz (a - b) := by unfold lz; rw [Int64.ofInt_sub]
theorem lz_lt {a b : Int} (h1 : -9223372036854775808 ≤ a ∧ a ≤ 9223372036854775807) (h2 : -9223372036854775808 ≤ b ∧ b ≤ 9223372036854775807) : lz a < lz b ↔ a < b := by rw [Int64.lt_iff_toInt_lt, lz_toInt h1.1 h1.2, lz_toInt h2.1 h2.2]
theorem lz_le {a b : Int} (h1 : -9223372036854775808 ≤ a ∧ a ≤ 9223372036854775807) (h2 : -9223372036854775808 ≤ b ∧ b ≤ 9223372036854775807) : lz a ≤ lz b ↔ a ≤ b := by rw [Int64.le_iff_toInt_le, lz_toInt h1.1 h1.2, lz_toInt h2.1 h2.2]
theorem i2l_iz {z : Int} (h1 : -2147483648 ≤ z ∧ z ≤ 2147483647) : (iz z).toInt64 = lz z := by
  apply Int64.toInt_inj.mp
  rw [Int32.toInt_toInt64, iz_toInt h1.1 h1.2, lz_toInt (by omega) (by omega)]
theorem l2i_lz {z : Int} (h1 : -2147483648 ≤ z ∧ z ≤ 2147483647) : (lz z).toInt32 = iz z := by
  apply Int32.toInt_inj.mp
  rw [Int64.toInt_toInt32, lz_toInt (by omega) (by omega), iz_toInt h1.1 h1.2]
  exact bm_id h1.1 h1.2
theorem lg_pos (a b : Int64) : 0 < lg_cmp a b ↔ b < a := by
  unfold lg_cmp
  by_cases h : b < a
  · simp [h]
  · by_cases h2 : a = b
    · simp [h2]
    · simp [h, h2]
def gz (xs : List Int) (k : Int) : Int := if 0 ≤ k then xs.getD k.toNat 0 else 0
def rwz (G : zk_G) (h : zk_H) (a it : Nat) (lim : Int) (cap : Nat) (xs : List Int) : Prop := rwp G h a it (iz lim) cap (xs.map iz)
theorem rAt_iz (xs : List Int) (k : Int) (hk : -2147483648 ≤ k ∧ k ≤ 2147483647) : rAt (xs.map iz) (iz k) = iz (gz xs k) := by
  unfold rAt gz
  rw [iz_toInt hk.1 hk.2, List.length_map]
  by_cases h0 : 0 ≤ k
  · by_cases h1 : k < xs.length
    · rw [if_pos ⟨h0, h1⟩, if_pos h0]
      have h2 : k.toNat < xs.length := by omega
      rw [List.getD_eq_getElem?_getD, List.getD_eq_getElem?_getD, List.getElem?_map, List.getElem?_eq_getElem h2]
      rfl
    · rw [if_neg (fun q => h1 q.2), if_pos h0]
      rw [List.getD_eq_getElem?_getD, List.getElem?_eq_none (by omega)]
      rfl
  · rw [if_neg (fun q => h0 q.1), if_neg h0]
    rfl
theorem c_atz {G : zk_G} {h : zk_H} {a it cap : Nat} {lim : Int} {xs : List Int} (hr : rwz G h a it lim cap xs) (k : Int) (hk : -2147483648 ≤ k ∧ k ≤ 2147483647) (Q : Option Value → zk_H → Prop) : zk_wp G 19 0 [some (.ref a), some (.int (iz k))] [] h Q ↔ Q (some (.int (iz (gz xs k)))) h := by
  rw [c_at hr, rAt_iz xs k hk]
theorem rwz_rd {G : zk_G} {h : zk_H} {a it cap : Nat} {lim : Int} {xs : List Int} (hr : rwz G h a it lim cap xs) : zk_rd G h a = some (.inr (4, [.int (iz lim), .ref it, .int (iz xs.length)])) ∧ xs.length ≤ 512 := by
  obtain ⟨h1, h2, h3, -⟩ := hr
  rw [List.length_map] at h1 h2
  exact ⟨h1, by omega⟩
/-- what a zone holds: starts, offsets, holidays, and where they move -/
def znp (G : zk_G) (h : zk_H) (a : Nat) (ss os hs : List Int) (mv : Nat → Int32) : Prop := ∃ a1 i1 c1 a2 i2 c2 a3 i3 c3 a4 : Nat, zk_rd G h a = some (.inr (7, [.ref a1, .ref a2, .ref a3, .ref a4])) ∧ rwz G h a1 i1 11 c1 ss ∧ rwz G h a2 i2 11 c2 os ∧ rwz G h a3 i3 20 c3 hs ∧ zk_rd G h a4 = some (.inl (0, 20, .inl mv))
def zok (ss os : List Int) : Prop := ss.length = os.length ∧ 1 ≤ ss.length ∧ ss.length ≤ 11 ∧ (∀ k, 0 ≤ gz ss k ∧ gz ss k ≤ 21038399) ∧ (∀ k, -840 ≤ gz os k ∧ gz os k ≤ 840)
def zoA (ss os : List Int) (m : Int) : Nat → Int → Int → Int
  | 0, _, acc => acc
  | n + 1, k, acc => if gz ss k ≤ m then zoA ss os m n (k + 1) (gz os k) else acc
def zoff (ss os : List Int) (m : Int) : Int := zoA ss os m ss.length 0 0
def zloc (ss os : List Int) (m : Int) : Int := m + zoff ss os m
theorem zoA_r {ss os : List Int} (hz : zok ss os) (m : Int) : ∀ (n : Nat) (k acc : Int), -840 ≤ acc ∧ acc ≤ 840 → -840 ≤ zoA ss os m n k acc ∧ zoA ss os m n k acc ≤ 840 := by
  intro n
  induction n with
  | zero => intro k acc h; exact h
  | succ n ih =>
    intro k acc h
    unfold zoA
    split
    · exact ih _ _ (hz.2.2.2.2 k)
    · exact h
theorem zoff_r {ss os : List Int} (hz : zok ss os) (m : Int) : -840 ≤ zoff ss os m ∧ zoff ss os m ≤ 840 := zoA_r hz m _ _ _ (by omega)
section ZN
variable {G : zk_G} {h : zk_H} {a : Nat} {ss os hs : List Int} {mv : Nat → Int32}
theorem c_localOf (hp : znp G h a ss os hs mv) (hz : zok ss os) (m : Int) (hm : -100000000 ≤ m ∧ m ≤ 100000000) (Q : Option Value → zk_H → Prop) : zk_wp G 50 0 [some (.ref a), some (.int (iz m)), none, none] [] h Q ↔ Q (some (.int (iz (zloc ss os m)))) h := by
  obtain ⟨a1, i1, c1, a2, i2, c2, a3, i3, c3, a4, p1, p2, p3, p4, p5⟩ := hp
  obtain ⟨q1, q2⟩ := rwz_rd p2
  have q3 := (rwz_rd p3).1
  have t1 := c_atz p2
  have t2 := c_atz p3
  have ic1 := zk_ic_rd q1
  have ic2 := zk_ic_rd q3
  refine zk_eq ?_ Q
  have loop : ∀ (n : Nat) (k acc : Int), 0 ≤ k → k + n = ss.length → zk_wp G 50 4 [some (.ref a), some (.int (iz m)), some (.int (iz acc)), some (.int (iz k))] [] h (fun r h' => r = some (.int (iz (m + zoA ss os m n k acc))) ∧ h' = h) := by
    intro n
    induction n with
    | zero =>
      intro k acc hk hn
      rw [u_50_4]
      simp (disch := first | omega | assumption | (simp; done)) only [u_50_0, u_50_1, u_50_2, u_50_3, u_50_5, u_50_6, u_50_9, u_50_12, u_50_15, u_50_16, u_50_19, u_50_20, u_50_23, u_50_24, u_50_27, u_50_28, u_50_31, u_50_32, u_50_35, u_50_36, u_50_39, u_50_42, u_50_43, u_50_44, u_50_45, true_or, or_true, zk_li1_s, zk_ll1_s, zk_la1_r, zk_la1_n, zk_lg0, zk_lgs, zk_co_n, zk_co_i, zk_co_r, zk_co_u, zk_co_l, zk_l1_0, zk_l1_1, zk_l1_s, zk_l2_0, zk_l2_1, zk_l2_s, zk_sm0, zk_smi, zk_smr, zk_smn, zk_sml, zk_fi, zk_fz, zk_fo, zk_fn, zk_fa, zk_ts, zk_tn, zk_og, zk_op, zk_ai, zk_aj, zk_az, zk_aa, zk_an, zk_si, zk_sz1, zk_sl1, zk_sa1, zk_cases, true_and, and_true, List.getElem?_cons_zero, List.getElem?_cons_succ, List.length_cons, List.length_nil, Nat.reduceAdd, Nat.reduceLT, Nat.reduceLeDiff, List.set_cons_zero, List.set_cons_succ, va_rf, p1, q1, q3, ic1, ic2, iz_lit, iz_add, iz_le, iz_lt, t1, t2]
      exact ⟨fun _ => rfl, fun c => absurd c (by omega)⟩
    | succ n ih =>
      intro k acc hk hn
      rw [u_50_4]
      have z1 := hz.2.2.2.1 k
      have z2 := hz.2.2.2.2 k
      simp (disch := first | omega | assumption | (simp; done)) only [u_50_0, u_50_1, u_50_2, u_50_3, u_50_5, u_50_6, u_50_9, u_50_12, u_50_15, u_50_16, u_50_19, u_50_20, u_50_23, u_50_24, u_50_27, u_50_28, u_50_31, u_50_32, u_50_35, u_50_36, u_50_39, u_50_42, u_50_43, u_50_44, u_50_45, true_or, or_true, zk_li1_s, zk_ll1_s, zk_la1_r, zk_la1_n, zk_lg0, zk_lgs, zk_co_n, zk_co_i, zk_co_r, zk_co_u, zk_co_l, zk_l1_0, zk_l1_1, zk_l1_s, zk_l2_0, zk_l2_1, zk_l2_s, zk_sm0, zk_smi, zk_smr, zk_smn, zk_sml, zk_fi, zk_fz, zk_fo, zk_fn, zk_fa, zk_ts, zk_tn, zk_og, zk_op, zk_ai, zk_aj, zk_az, zk_aa, zk_an, zk_si, zk_sz1, zk_sl1, zk_sa1, zk_cases, true_and, and_true, List.getElem?_cons_zero, List.getElem?_cons_succ, List.length_cons, List.length_nil, Nat.reduceAdd, Nat.reduceLT, Nat.reduceLeDiff, List.set_cons_zero, List.set_cons_succ, va_rf, p1, q1, q3, ic1, ic2, iz_lit, iz_add, iz_le, iz_lt, t1, t2]
      refine ⟨fun c => absurd c (by omega), fun _ => ⟨fun c => ?_, fun c => ?_⟩⟩
      · unfold zoA; rw [if_neg (by omega)]
      · unfold zoA; rw [if_pos (by omega)]; exact ih (k + 1) (gz os k) (by omega) (by omega)
  simp (disch := first | omega | assumption | (simp; done)) only [u_50_0, u_50_1, u_50_2, u_50_3, u_50_5, u_50_6, u_50_9, u_50_12, u_50_15, u_50_16, u_50_19, u_50_20, u_50_23, u_50_24, u_50_27, u_50_28, u_50_31, u_50_32, u_50_35, u_50_36, u_50_39, u_50_42, u_50_43, u_50_44, u_50_45, true_or, or_true, zk_li1_s, zk_ll1_s, zk_la1_r, zk_la1_n, zk_lg0, zk_lgs, zk_co_n, zk_co_i, zk_co_r, zk_co_u, zk_co_l, zk_l1_0, zk_l1_1, zk_l1_s, zk_l2_0, zk_l2_1, zk_l2_s, zk_sm0, zk_smi, zk_smr, zk_smn, zk_sml, zk_fi, zk_fz, zk_fo, zk_fn, zk_fa, zk_ts, zk_tn, zk_og, zk_op, zk_ai, zk_aj, zk_az, zk_aa, zk_an, zk_si, zk_sz1, zk_sl1, zk_sa1, zk_cases, true_and, and_true, List.getElem?_cons_zero, List.getElem?_cons_succ, List.length_cons, List.length_nil, Nat.reduceAdd, Nat.reduceLT, Nat.reduceLeDiff, List.set_cons_zero, List.set_cons_succ, va_rf, iz_lit]
  exact loop ss.length 0 0 (by omega) (by omega)
end ZN
