/-! who must be waited for -/
theorem i_or {a b : Nat} (ha : a < 2 ^ 32) (hb : b < 2 ^ 32) : nI a ||| nI b = nI (a ||| b) := by
  apply Int32.toBitVec_inj.mp
  rw [Int32.toBitVec_or]
  show BitVec.ofNat 32 a ||| BitVec.ofNat 32 b = BitVec.ofNat 32 (a ||| b)
  apply BitVec.eq_of_toNat_eq
  rw [BitVec.toNat_or, BitVec.toNat_ofNat, BitVec.toNat_ofNat, BitVec.toNat_ofNat, Nat.mod_eq_of_lt ha, Nat.mod_eq_of_lt hb, Nat.mod_eq_of_lt (Nat.or_lt_two_pow ha hb)]
theorem z_or {a b : Nat} (ha : a < 4096) (hb : b < 4096) : iz (a : Int) ||| iz (b : Int) = iz ((a ||| b : Nat) : Int) := by
  rw [← nI_iz, ← nI_iz, ← nI_iz]; exact i_or (by omega) (by omega)
theorem z_shl {i : Int} (hi : 0 ≤ i ∧ i < 12) : iz 1 <<< (iz i &&& iz 31) = iz ((2 ^ i.toNat : Nat) : Int) := by
  have : ∀ n : Nat, n < 12 → iz 1 <<< (iz (n : Int) &&& iz 31) = iz ((2 ^ n : Nat) : Int) := by decide +kernel
  have h := this i.toNat (by omega)
  rw [show ((i.toNat : Nat) : Int) = i by omega] at h
  exact h
theorem fs_ex {D : Int → Bool} {a b v : Int} (h : fsP D a b v) (hb : b < 2147483647) : v = 2147483647 ↔ ¬ ∃ t, a ≤ t ∧ t ≤ b ∧ D t = true := by
  rcases h with ⟨e, q⟩ | ⟨p1, p2, p3, p4⟩
  · refine ⟨fun _ => ?_, fun _ => e⟩
    rintro ⟨t, t1, t2, t3⟩
    rw [q t t1 t2] at t3; cases t3
  · refine ⟨fun c => by omega, fun c => absurd ⟨v, p1, p2, p3⟩ c⟩
noncomputable def dsB (m : mS) (j d : Int) : Bool := bol (∃ i, 0 ≤ i ∧ i < m 46 j ∧ zday (ssOf m (m 11 j)) (osOf m (m 11 j)) (m 47 (300 * j + i)) = d)
def pcP (m : mS) (j d k : Int) : Prop := ∃ t, zfod (ssOf m (m 11 j)) (osOf m (m 11 j)) k d ≤ t ∧ t ≤ zlod (ssOf m (m 11 j)) (osOf m (m 11 j)) k d ∧ dueJ m j t = true
noncomputable def mwB (m : mS) (j mi : Int) : Bool := !dsB m j (zday (ssOf m (m 11 j)) (osOf m (m 11 j)) mi) && bol (∃ k, 0 ≤ k ∧ k ≤ m 2 (m 11 j) ∧ pcP m j (zday (ssOf m (m 11 j)) (osOf m (m 11 j)) mi) k)
noncomputable def umN (m : mS) (w : Nat) (mi : Int) : Nat → Nat
  | 0 => 0
  | n + 1 => if (w.testBit n && mwB m n mi) = true then umN m w mi n ||| 2 ^ n else umN m w mi n
theorem umN_lt (m : mS) (w : Nat) (mi : Int) : ∀ n, n ≤ 12 → umN m w mi n < 2 ^ n := by
  intro n
  induction n with
  | zero => intro _; exact Nat.zero_lt_one
  | succ n ih =>
    intro hn
    have h := ih (by omega)
    have h2 : (2 : Nat) ^ n < 2 ^ (n + 1) := Nat.pow_lt_pow_right (by decide) (by omega)
    unfold umN
    split
    · exact Nat.or_lt_two_pow (by omega) h2
    · omega
/-- effects are minutes -/
def eI (m : mS) (j : Int) : Prop := (0 ≤ m 46 j ∧ m 46 j ≤ 299) ∧ ∀ i, 0 ≤ i → i < m 46 j → 0 ≤ m 47 (300 * j + i) ∧ m 47 (300 * j + i) ≤ 21038399
theorem zday_r {ss os : List Int} (hz : zok ss os) {m : Int} (hm : 0 ≤ m ∧ m ≤ 21038399) : -1 ≤ zday ss os m ∧ zday ss os m ≤ 14620 := by
  have := zoff_r hz m
  unfold zday zloc
  omega
section UNM
variable {G : zk_G} {B : zk_H} {nz nj : Int} {ad : Int → Nat}
theorem c_didSome (hB : hxo G B nz nj ad) {s m : mS} {j : Int} (hj : 0 ≤ j ∧ j < nj) (hz : m 11 j < nz) (hI : jI m j) (hE : eI m j) (hR : jR s m j) (hZ : zR s m (m 11 j)) (d : Int) (hd : -30000 ≤ d ∧ d ≤ 30000) (Q : Option Value → zk_H → Prop) : zk_wp G 4 0 [some (.ref (ad (220 + j))), some (.int (iz d)), none] [] (hx G B nz nj ad s) Q ↔ Q (some (.int (iz (bi (dsB m j d))))) (hx G B nz nj ad s) := by
  refine zk_eq ?_ Q
  have zi := hI.2.1
  have zo := zi.2.2.2.1
  have zp := x_znp hB ⟨zi.1.1, hz⟩ hZ
  have icz := znp_ic zp
  have hp : (0 ≤ 13 + 6 * j ∧ 13 + 6 * j < 3 * nz) ∨ (9 ≤ 13 + 6 * j ∧ 13 + 6 * j < 9 + 6 * nj) := by omega
  have w := hR.2.2.2.2.2.2.1
  have e13 := hR.1.2.2.2.2.1
  have e11 := hR.2.1.1
  have len : s 100 (13 + 6 * j) = m 46 j := by
    have h1 := xr_len w
    rw [e13] at h1
    rw [← h1]
    exact rl_len _ hE.1.1
  have wl := hE.1
  generalize hQ : (fun (r : Option Value) (h' : zk_H) => r = some (.int (iz (bi (dsB m j d)))) ∧ h' = hx G B nz nj ad s) = P
  have loop : ∀ (n : Nat) (k : Int), 0 ≤ k → k + n = m 46 j → (∀ i, 0 ≤ i → i < k → zday (ssOf m (m 11 j)) (osOf m (m 11 j)) (m 47 (300 * j + i)) ≠ d) → zk_wp G 4 2 [some (.ref (ad (220 + j))), some (.int (iz d)), some (.int (iz k))] [] (hx G B nz nj ad s) P := by
    intro n
    induction n with
    | zero =>
      intro k hk hn hI
      rw [u_4_2]
      simp (disch := first | omega | assumption | (simp; done)) only [u_4_0, u_4_1, u_4_3, u_4_4, u_4_7, u_4_10, u_4_14, u_4_17, u_4_20, u_4_21, u_4_24, u_4_25, u_4_28, u_4_31, u_4_32, u_4_35, u_4_36, u_4_37, u_4_40, u_4_43, u_4_44, true_or, or_true, zk_li1_s, zk_ll1_s, zk_la1_r, zk_la1_n, zk_lg0, zk_lgs, zk_co_n, zk_co_i, zk_co_r, zk_co_u, zk_co_l, zk_l1_0, zk_l1_1, zk_l1_s, zk_l2_0, zk_l2_1, zk_l2_s, zk_sm0, zk_smi, zk_smr, zk_smn, zk_sml, zk_fi, zk_fz, zk_fo, zk_fn, zk_fa, zk_ts, zk_tn, zk_cases, true_and, and_true, List.getElem?_cons_zero, List.getElem?_cons_succ, List.length_cons, List.length_nil, Nat.reduceAdd, Nat.reduceLT, Nat.reduceLeDiff, List.set_cons_zero, List.set_cons_succ, va_rf, xi_jo hB, xg_jo_0 hB, xg_jo_1 hB, xg_jo_2 hB, xg_jo_3 hB, xp_jo_3 hB, xg_jo_4 hB, xp_jo_4 hB, xg_jo_5 hB, xp_jo_5 hB, xg_jo_6 hB, xp_jo_6 hB, xg_jo_7 hB, xp_jo_7 hB, xg_jo_8 hB, xp_jo_8 hB, xi_ro hB, xg_ro_0 hB, xg_ro_1 hB, xg_ro_2 hB, xp_ro_2 hB, iz_lit, iz_le, len]
      refine ⟨fun _ => ?_, fun c => absurd c (by omega)⟩
      rw [← hQ]
      refine ⟨?_, rfl⟩
      have : dsB m j d = false := by
        unfold dsB
        rw [bol_f]
        rintro ⟨i, i1, i2, i3⟩
        exact hI i i1 (by omega) i3
      rw [this]; rfl
    | succ n ih =>
      intro k hk hn hI
      have hx := hE.2 k hk (by omega)
      have at1 := c_rowAt hB hp w k (by omega)
      have eg : gz (xr s (13 + 6 * j)) k = m 47 (300 * j + k) := by
        rw [e13]; unfold efOf; exact gz_rl _ hk (by omega)
      rw [eg] at at1
      have dy := c_dayOf zp zo (m 47 (300 * j + k)) (by omega)
      have dr := zday_r zo hx
      rw [u_4_2]
      simp (disch := first | omega | assumption | (simp; done)) only [u_4_0, u_4_1, u_4_3, u_4_4, u_4_7, u_4_10, u_4_13, u_4_14, u_4_17, u_4_20, u_4_21, u_4_24, u_4_25, u_4_28, u_4_31, u_4_32, u_4_35, u_4_36, u_4_37, u_4_40, u_4_43, u_4_44, true_or, or_true, zk_li1_s, zk_ll1_s, zk_la1_r, zk_la1_n, zk_lg0, zk_lgs, zk_co_n, zk_co_i, zk_co_r, zk_co_u, zk_co_l, zk_l1_0, zk_l1_1, zk_l1_s, zk_l2_0, zk_l2_1, zk_l2_s, zk_sm0, zk_smi, zk_smr, zk_smn, zk_sml, zk_fi, zk_fz, zk_fo, zk_fn, zk_fa, zk_ts, zk_tn, zk_cases, true_and, and_true, List.getElem?_cons_zero, List.getElem?_cons_succ, List.length_cons, List.length_nil, Nat.reduceAdd, Nat.reduceLT, Nat.reduceLeDiff, List.set_cons_zero, List.set_cons_succ, va_rf, xi_jo hB, xg_jo_0 hB, xg_jo_1 hB, xg_jo_2 hB, xg_jo_3 hB, xp_jo_3 hB, xg_jo_4 hB, xp_jo_4 hB, xg_jo_5 hB, xp_jo_5 hB, xg_jo_6 hB, xp_jo_6 hB, xg_jo_7 hB, xp_jo_7 hB, xg_jo_8 hB, xp_jo_8 hB, xi_ro hB, xg_ro_0 hB, xg_ro_1 hB, xg_ro_2 hB, xp_ro_2 hB, xi_rr hB, xg_rr_0 hB, xg_rr_1 hB, xg_rr_2 hB, xg_rr_3 hB, xg_rr_4 hB, xg_rr_5 hB, xg_rr_6 hB, xp_rr_6 hB, iz_lit, iz_le, iz_inj, iz_add, len, at1, e11, icz, dy]
      refine ⟨fun c => absurd c (by omega), fun _ => ⟨fun c => ?_, fun c => ?_⟩⟩
      · refine ih (k + 1) (by omega) (by omega) (fun i i1 i2 => ?_)
        by_cases ci : i = k
        · rw [ci]; exact c
        · exact hI i i1 (by omega)
      · rw [← hQ]
        refine ⟨?_, rfl⟩
        have : dsB m j d = true := by
          unfold dsB
          rw [bol_t]
          exact ⟨k, hk, by omega, by first | exact c | exact Classical.not_not.mp c⟩
        rw [this]; rfl
  simp (disch := first | omega | assumption | (simp; done)) only [u_4_0, u_4_1, u_4_3, u_4_4, u_4_7, u_4_10, u_4_13, u_4_14, u_4_17, u_4_20, u_4_21, u_4_24, u_4_25, u_4_28, u_4_31, u_4_32, u_4_35, u_4_36, u_4_37, u_4_40, u_4_43, u_4_44, true_or, or_true, zk_li1_s, zk_ll1_s, zk_la1_r, zk_la1_n, zk_lg0, zk_lgs, zk_co_n, zk_co_i, zk_co_r, zk_co_u, zk_co_l, zk_l1_0, zk_l1_1, zk_l1_s, zk_l2_0, zk_l2_1, zk_l2_s, zk_sm0, zk_smi, zk_smr, zk_smn, zk_sml, zk_fi, zk_fz, zk_fo, zk_fn, zk_fa, zk_ts, zk_tn, zk_cases, true_and, and_true, List.getElem?_cons_zero, List.getElem?_cons_succ, List.length_cons, List.length_nil, Nat.reduceAdd, Nat.reduceLT, Nat.reduceLeDiff, List.set_cons_zero, List.set_cons_succ, va_rf, iz_lit]
  exact loop (m 46 j).toNat 0 (by omega) (by omega) (fun i i1 i2 => by omega)
theorem c_unmet (hB : hxo G B nz nj ad) (hG : GS G) {s m : mS} (hc : cI s nz nj) (hA : ∀ j, 0 ≤ j → j < nj → m 11 j < nz ∧ jI m j ∧ eI m j ∧ jR s m j ∧ zR s m (m 11 j)) (j mi : Int) (hj : 0 ≤ j ∧ j < nj) (hw : 0 ≤ s 61 j ∧ s 61 j < 4096) (hm : 0 ≤ mi ∧ mi ≤ 21038399) (Q : Option Value → zk_H → Prop) : zk_wp G 98 0 [some (.ref (ad 0)), some (.ref (ad (220 + j))), some (.int (iz mi)), none, none, none, none, none, none] [] (hx G B nz nj ad s) Q ↔ Q (some (.int (iz (umN m (s 61 j).toNat mi nj.toNat : Nat)))) (hx G B nz nj ad s) := by
  refine zk_eq ?_ Q
  have hn := hB.1
  have cc := hc
  obtain ⟨⟨i1, i2, i3, i4⟩, i5⟩ := cc
  generalize hQ : (fun (r : Option Value) (h' : zk_H) => r = some (.int (iz (umN m (s 61 j).toNat mi nj.toNat : Nat))) ∧ h' = hx G B nz nj ad s) = P
  have loop : ∀ (n : Nat) (i : Nat) (o5 o6 o7 o8 : Option Value), (i : Int) + n = nj → zk_wp G 98 5 [some (.ref (ad 0)), some (.ref (ad (220 + j))), some (.int (iz mi)), some (.int (iz (umN m (s 61 j).toNat mi i : Nat))), some (.int (iz i)), o5, o6, o7, o8] [] (hx G B nz nj ad s) P := by
    intro n
    induction n with
    | zero =>
      intro i o5 o6 o7 o8 hi
      rw [u_98_5]
      simp (disch := first | omega | assumption | (simp; done)) only [u_98_0, u_98_1, u_98_2, u_98_3, u_98_7, u_98_8, u_98_11, u_98_15, u_98_17, u_98_20, u_98_20N, u_98_22, u_98_24, u_98_24N, u_98_27, u_98_28, u_98_31, u_98_33, u_98_34, u_98_35, u_98_36, u_98_39, u_98_42, u_98_44, u_98_47, u_98_50, u_98_50N, u_98_52, u_98_54, u_98_55, u_98_58, u_98_60, u_98_62, u_98_64, u_98_67, u_98_70, u_98_73, u_98_74, u_98_76, u_98_78, u_98_80, u_98_83, u_98_86, u_98_88, u_98_91, u_98_93, u_98_95, u_98_97, u_98_100, u_98_102, u_98_104, u_98_106, u_98_109, u_98_112, u_98_114, u_98_117, u_98_118, u_98_119, u_98_121, u_98_122, u_98_123, u_98_124, u_98_127, u_98_130, u_98_133, u_98_136, u_98_137, true_or, or_true, zk_li1_s, zk_ll1_s, zk_la1_r, zk_la1_n, zk_lg0, zk_lgs, zk_co_n, zk_co_i, zk_co_r, zk_co_u, zk_co_l, zk_l1_0, zk_l1_1, zk_l1_s, zk_l2_0, zk_l2_1, zk_l2_s, zk_sm0, zk_smi, zk_smr, zk_smn, zk_sml, zk_fi, zk_fz, zk_fo, zk_fn, zk_fa, zk_ts, zk_tn, zk_cases, true_and, and_true, List.getElem?_cons_zero, List.getElem?_cons_succ, List.length_cons, List.length_nil, Nat.reduceAdd, Nat.reduceLT, Nat.reduceLeDiff, List.set_cons_zero, List.set_cons_succ, va_rf, xi_tk hB, xg_tk_0 hB, xg_tk_1 hB, xg_tk_2 hB, xg_tk_3 hB, xg_tk_4 hB, xg_tk_5 hB, xg_tk_6 hB, xp_tk_6 hB, xg_tk_7 hB, xp_tk_7 hB, xg_tk_8 hB, xp_tk_8 hB, xg_tk_9 hB, xp_tk_9 hB, iz_lit, iz_le, i3]
      refine ⟨fun _ => ?_, fun c => absurd c (by omega)⟩
      rw [← hQ, show nj.toNat = i by omega]
      exact ⟨rfl, rfl⟩
    | succ n ih =>
      intro i o5 o6 o7 o8 hi
      obtain ⟨a1, a2, a3, a4, a5⟩ := hA i (by omega) (by omega)
      have zi := a2.2.1
      have zo := zi.2.2.2.1
      have zp := x_znp hB ⟨zi.1.1, a1⟩ a5
      have icz := znp_ic zp
      have ja := c_jobAt hB hc i (by omega)
      have e11 := a4.2.1.1
      have dy := c_dayOf zp zo mi (by omega)
      have dr := zday_r zo hm
      have sl := ss_len zi
      have slb := zi.2.1
      generalize hd : zday (ssOf m (m 11 i)) (osOf m (m 11 i)) mi = d at *
      have ds := c_didSome hB (j := i) (by omega) a1 a2 a3 a4 a5 d (by omega)
      have ul := umN_lt m (s 61 j).toNat mi i (by omega)
      have u12 : (2 : Nat) ^ i ≤ 2 ^ 11 := Nat.pow_le_pow_right (by decide) (by omega)
      have ib := i_bit (x := s 61 j) (k := i) (by omega) (by omega)
      rw [show ((i : Int)).toNat = i by omega] at ib
      have sh := z_shl (i := i) (by omega)
      rw [show ((i : Int)).toNat = i by omega] at sh
      generalize hu : umN m (s 61 j).toNat mi i = u at *
      have mwe : mwB m i mi = (!dsB m i d && bol (∃ k, 0 ≤ k ∧ k ≤ m 2 (m 11 i) ∧ pcP m i d k)) := by unfold mwB; rw [hd]
      have nxt : ∀ (w : Nat) (o5 o6 o7 o8 : Option Value), umN m (s 61 j).toNat mi (i + 1) = w → zk_wp G 98 130 [some (.ref (ad 0)), some (.ref (ad (220 + j))), some (.int (iz mi)), some (.int (iz w)), some (.int (iz i)), o5, o6, o7, o8] [] (hx G B nz nj ad s) P := by
        intro w o5 o6 o7 o8 hw
        rw [u_98_130]
        simp (disch := first | omega | assumption | (simp; done)) only [u_98_0, u_98_1, u_98_2, u_98_3, u_98_7, u_98_8, u_98_11, u_98_14, u_98_15, u_98_17, u_98_20, u_98_20N, u_98_22, u_98_24, u_98_24N, u_98_27, u_98_28, u_98_31, u_98_33, u_98_34, u_98_35, u_98_36, u_98_39, u_98_42, u_98_44, u_98_47, u_98_50, u_98_50N, u_98_52, u_98_54, u_98_55, u_98_58, u_98_60, u_98_62, u_98_64, u_98_67, u_98_70, u_98_73, u_98_74, u_98_76, u_98_78, u_98_80, u_98_83, u_98_86, u_98_88, u_98_91, u_98_93, u_98_95, u_98_97, u_98_100, u_98_102, u_98_104, u_98_106, u_98_109, u_98_112, u_98_114, u_98_117, u_98_118, u_98_119, u_98_121, u_98_122, u_98_123, u_98_124, u_98_127, u_98_133, u_98_136, u_98_137, true_or, or_true, zk_li1_s, zk_ll1_s, zk_la1_r, zk_la1_n, zk_lg0, zk_lgs, zk_co_n, zk_co_i, zk_co_r, zk_co_u, zk_co_l, zk_l1_0, zk_l1_1, zk_l1_s, zk_l2_0, zk_l2_1, zk_l2_s, zk_sm0, zk_smi, zk_smr, zk_smn, zk_sml, zk_fi, zk_fz, zk_fo, zk_fn, zk_fa, zk_ts, zk_tn, zk_cases, true_and, and_true, List.getElem?_cons_zero, List.getElem?_cons_succ, List.length_cons, List.length_nil, Nat.reduceAdd, Nat.reduceLT, Nat.reduceLeDiff, List.set_cons_zero, List.set_cons_succ, va_rf, iz_lit, iz_add]
        have := ih (i + 1) o5 o6 o7 o8 (by omega)
        rw [hw] at this
        exact this
      have um1 : umN m (s 61 j).toNat mi (i + 1) = if ((s 61 j).toNat.testBit i && mwB m i mi) = true then u ||| 2 ^ i else u := by
        show (if ((s 61 j).toNat.testBit i && mwB m i mi) = true then umN m (s 61 j).toNat mi i ||| 2 ^ i else umN m (s 61 j).toNat mi i) = _
        rw [hu]
      -- the stretches
      have inner : (s 61 j).toNat.testBit i = true → dsB m i d = false → ∀ (q : Nat) (k : Int) (acc : Nat), 0 ≤ k → k + q = (ssOf m (m 11 i)).length → ((acc = u ∧ ∀ t, 0 ≤ t → t < k → ¬ pcP m i d t) ∨ (acc = u ||| 2 ^ i ∧ ∃ t, 0 ≤ t ∧ t < k ∧ pcP m i d t)) → zk_wp G 98 76 [some (.ref (ad 0)), some (.ref (ad (220 + j))), some (.int (iz mi)), some (.int (iz acc)), some (.int (iz i)), some (.ref (ad (220 + i))), some (.ref (ad (200 + m 11 i))), some (.int (iz d)), some (.int (iz k))] [] (hx G B nz nj ad s) P := by
        intro b1 b2 q
        have st := c_stretch zp
        induction q with
        | zero =>
          intro k acc hk hq hacc
          rw [u_98_76]
          simp (disch := first | omega | assumption | (simp; done)) only [u_98_0, u_98_1, u_98_2, u_98_3, u_98_7, u_98_8, u_98_11, u_98_14, u_98_15, u_98_17, u_98_20, u_98_20N, u_98_22, u_98_24, u_98_24N, u_98_27, u_98_28, u_98_31, u_98_33, u_98_34, u_98_35, u_98_36, u_98_39, u_98_42, u_98_44, u_98_47, u_98_50, u_98_50N, u_98_52, u_98_54, u_98_55, u_98_58, u_98_60, u_98_62, u_98_64, u_98_67, u_98_70, u_98_73, u_98_74, u_98_78, u_98_80, u_98_83, u_98_88, u_98_91, u_98_93, u_98_95, u_98_97, u_98_100, u_98_102, u_98_104, u_98_106, u_98_109, u_98_112, u_98_114, u_98_117, u_98_118, u_98_119, u_98_121, u_98_122, u_98_123, u_98_124, u_98_127, u_98_133, u_98_136, u_98_137, true_or, or_true, zk_li1_s, zk_ll1_s, zk_la1_r, zk_la1_n, zk_lg0, zk_lgs, zk_co_n, zk_co_i, zk_co_r, zk_co_u, zk_co_l, zk_l1_0, zk_l1_1, zk_l1_s, zk_l2_0, zk_l2_1, zk_l2_s, zk_sm0, zk_smi, zk_smr, zk_smn, zk_sml, zk_fi, zk_fz, zk_fo, zk_fn, zk_fa, zk_ts, zk_tn, zk_cases, true_and, and_true, List.getElem?_cons_zero, List.getElem?_cons_succ, List.length_cons, List.length_nil, Nat.reduceAdd, Nat.reduceLT, Nat.reduceLeDiff, List.set_cons_zero, List.set_cons_succ, va_rf, icz, st, iz_lit, iz_le]
          refine ⟨fun _ => nxt acc _ _ _ _ ?_, fun c => absurd c (by omega)⟩
          rw [um1, b1, mwe, b2]
          rcases hacc with ⟨e, h1⟩ | ⟨e, t, t1, t2, t3⟩
          · rw [bol_f.mpr (by rintro ⟨k', k1, k2, k3⟩; exact h1 k' k1 (by omega) k3)]
            exact e.symm
          · rw [bol_t.mpr ⟨t, t1, by omega, t3⟩]
            exact e.symm
        | succ q ih2 =>
          intro k acc hk hq hacc
          have fo := c_fod zp zo k d (by omega) (by omega)
          have lo := c_lod zp zo k d (by omega) (by omega)
          have g1 := zo.2.2.2.1 k
          have g2 := zo.2.2.2.2 k
          have g3 := zend_r zo k
          have fr : 0 ≤ zfod (ssOf m (m 11 i)) (osOf m (m 11 i)) k d ∧ zfod (ssOf m (m 11 i)) (osOf m (m 11 i)) k d ≤ 30000000 := by unfold zfod; omega
          have lr : -30000000 ≤ zlod (ssOf m (m 11 i)) (osOf m (m 11 i)) k d ∧ zlod (ssOf m (m 11 i)) (osOf m (m 11 i)) k d ≤ 21038399 := by unfold zlod; omega
          obtain ⟨v, v1, v2⟩ := x_firstDue hB hG (j := i) (by omega) a1 a2 a4 a5 _ _ fr lr
          have ve := fs_ex v1 (by omega)
          have vr : -2147483648 ≤ v ∧ v ≤ 2147483647 := by
            rcases v1 with ⟨e, -⟩ | ⟨e1, e2, -⟩ <;> omega
          have hacc4 : acc < 4096 := by
            rcases hacc with ⟨e, -⟩ | ⟨e, -⟩
            · omega
            · rw [e]; exact Nat.or_lt_two_pow (n := 12) (by omega) (by omega)
          have zo1 := z_or (a := acc) (b := 2 ^ i) hacc4 (by omega)
          rw [u_98_76]
          simp (disch := first | omega | assumption | (simp; done)) only [u_98_0, u_98_1, u_98_2, u_98_3, u_98_7, u_98_8, u_98_11, u_98_14, u_98_15, u_98_17, u_98_20, u_98_20N, u_98_22, u_98_24, u_98_24N, u_98_27, u_98_28, u_98_31, u_98_33, u_98_34, u_98_35, u_98_36, u_98_39, u_98_42, u_98_44, u_98_47, u_98_50, u_98_50N, u_98_52, u_98_54, u_98_55, u_98_58, u_98_60, u_98_62, u_98_64, u_98_67, u_98_70, u_98_73, u_98_74, u_98_78, u_98_80, u_98_83, u_98_86, u_98_88, u_98_91, u_98_93, u_98_95, u_98_97, u_98_100, u_98_102, u_98_104, u_98_106, u_98_109, u_98_112, u_98_114, u_98_117, u_98_118, u_98_119, u_98_121, u_98_122, u_98_123, u_98_124, u_98_127, u_98_133, u_98_136, u_98_137, true_or, or_true, zk_li1_s, zk_ll1_s, zk_la1_r, zk_la1_n, zk_lg0, zk_lgs, zk_co_n, zk_co_i, zk_co_r, zk_co_u, zk_co_l, zk_l1_0, zk_l1_1, zk_l1_s, zk_l2_0, zk_l2_1, zk_l2_s, zk_sm0, zk_smi, zk_smr, zk_smn, zk_sml, zk_fi, zk_fz, zk_fo, zk_fn, zk_fa, zk_ts, zk_tn, zk_cases, true_and, and_true, List.getElem?_cons_zero, List.getElem?_cons_succ, List.length_cons, List.length_nil, Nat.reduceAdd, Nat.reduceLT, Nat.reduceLeDiff, List.set_cons_zero, List.set_cons_succ, va_rf, xi_jo hB, xg_jo_0 hB, xg_jo_1 hB, xg_jo_2 hB, xg_jo_3 hB, xp_jo_3 hB, xg_jo_4 hB, xp_jo_4 hB, xg_jo_5 hB, xp_jo_5 hB, xg_jo_6 hB, xp_jo_6 hB, xg_jo_7 hB, xp_jo_7 hB, xg_jo_8 hB, xp_jo_8 hB, xi_rr hB, xg_rr_0 hB, xg_rr_1 hB, xg_rr_2 hB, xg_rr_3 hB, xg_rr_4 hB, xg_rr_5 hB, xg_rr_6 hB, xp_rr_6 hB, xi_rr hB, icz, st, iz_lit, iz_le, iz_inj, iz_add, fo, lo, v2, sh, zo1]
          refine ⟨fun c => absurd c (by omega), fun _ => ⟨fun c => ?_, fun c => ?_⟩⟩
          · refine ih2 (k + 1) acc (by omega) (by omega) ?_
            have np : ¬ pcP m i d k := ve.mp c
            rcases hacc with ⟨e, h1⟩ | ⟨e, t, t1, t2, t3⟩
            · refine Or.inl ⟨e, fun t t1 t2 => ?_⟩
              by_cases ct : t = k
              · rw [ct]; exact np
              · exact h1 t t1 (by omega)
            · exact Or.inr ⟨e, t, t1, by omega, t3⟩
          · refine ih2 (k + 1) _ (by omega) (by omega) (Or.inr ⟨?_, k, hk, by omega, ?_⟩)
            · rcases hacc with ⟨e, -⟩ | ⟨e, -⟩
              · rw [e]
              · rw [e, Nat.or_assoc, Nat.or_self]
            · exact Classical.not_not.mp (fun q => c (ve.mpr q))
      rw [u_98_5]
      simp (disch := first | omega | assumption | (simp; done)) only [u_98_0, u_98_1, u_98_2, u_98_3, u_98_7, u_98_8, u_98_11, u_98_14, u_98_15, u_98_17, u_98_20, u_98_20N, u_98_22, u_98_24, u_98_24N, u_98_27, u_98_28, u_98_31, u_98_33, u_98_34, u_98_35, u_98_36, u_98_39, u_98_42, u_98_44, u_98_47, u_98_50, u_98_50N, u_98_52, u_98_54, u_98_55, u_98_58, u_98_60, u_98_62, u_98_64, u_98_67, u_98_70, u_98_73, u_98_74, u_98_78, u_98_80, u_98_83, u_98_86, u_98_88, u_98_91, u_98_93, u_98_95, u_98_97, u_98_100, u_98_102, u_98_104, u_98_106, u_98_109, u_98_112, u_98_114, u_98_117, u_98_118, u_98_119, u_98_121, u_98_122, u_98_123, u_98_124, u_98_127, u_98_133, u_98_136, u_98_137, true_or, or_true, zk_li1_s, zk_ll1_s, zk_la1_r, zk_la1_n, zk_lg0, zk_lgs, zk_co_n, zk_co_i, zk_co_r, zk_co_u, zk_co_l, zk_l1_0, zk_l1_1, zk_l1_s, zk_l2_0, zk_l2_1, zk_l2_s, zk_sm0, zk_smi, zk_smr, zk_smn, zk_sml, zk_fi, zk_fz, zk_fo, zk_fn, zk_fa, zk_ts, zk_tn, zk_cases, true_and, and_true, List.getElem?_cons_zero, List.getElem?_cons_succ, List.length_cons, List.length_nil, Nat.reduceAdd, Nat.reduceLT, Nat.reduceLeDiff, List.set_cons_zero, List.set_cons_succ, va_rf, xi_tk hB, xg_tk_0 hB, xg_tk_1 hB, xg_tk_2 hB, xg_tk_3 hB, xg_tk_4 hB, xg_tk_5 hB, xg_tk_6 hB, xp_tk_6 hB, xg_tk_7 hB, xp_tk_7 hB, xg_tk_8 hB, xp_tk_8 hB, xg_tk_9 hB, xp_tk_9 hB, xi_jo hB, xg_jo_0 hB, xg_jo_1 hB, xg_jo_2 hB, xg_jo_3 hB, xp_jo_3 hB, xg_jo_4 hB, xp_jo_4 hB, xg_jo_5 hB, xp_jo_5 hB, xg_jo_6 hB, xp_jo_6 hB, xg_jo_7 hB, xp_jo_7 hB, xg_jo_8 hB, xp_jo_8 hB, xi_rr hB, xg_rr_0 hB, xg_rr_1 hB, xg_rr_2 hB, xg_rr_3 hB, xg_rr_4 hB, xg_rr_5 hB, xg_rr_6 hB, xp_rr_6 hB, iz_lit, iz_le, i3, ja, ib, bi_0, e11, icz, dy, ds]
      refine ⟨fun c => absurd c (by omega), fun _ => ⟨fun c => ⟨fun c2 => ?_, fun c2 => ?_⟩, fun c => ?_⟩⟩
      · refine inner (by simpa using c) c2 (ssOf m (m 11 i)).length 0 u (by omega) (by omega) (Or.inl ⟨rfl, fun t t1 t2 => by omega⟩)
      · refine nxt u _ _ _ _ ?_
        have c2' : dsB m i d = true := by simpa using c2
        rw [um1, mwe, c2']
        simp
      · refine nxt u _ _ _ _ ?_
        have c' : (s 61 j).toNat.testBit i = false := by simpa using c
        rw [um1, c']
        simp
  simp (disch := first | omega | assumption | (simp; done)) only [u_98_0, u_98_1, u_98_2, u_98_3, u_98_7, u_98_8, u_98_11, u_98_14, u_98_15, u_98_17, u_98_20, u_98_20N, u_98_22, u_98_24, u_98_24N, u_98_27, u_98_28, u_98_31, u_98_33, u_98_34, u_98_35, u_98_36, u_98_39, u_98_42, u_98_44, u_98_47, u_98_50, u_98_50N, u_98_52, u_98_54, u_98_55, u_98_58, u_98_60, u_98_62, u_98_64, u_98_67, u_98_70, u_98_73, u_98_74, u_98_76, u_98_78, u_98_80, u_98_83, u_98_86, u_98_88, u_98_91, u_98_93, u_98_95, u_98_97, u_98_100, u_98_102, u_98_104, u_98_106, u_98_109, u_98_112, u_98_114, u_98_117, u_98_118, u_98_119, u_98_121, u_98_122, u_98_123, u_98_124, u_98_127, u_98_130, u_98_133, u_98_136, u_98_137, true_or, or_true, zk_li1_s, zk_ll1_s, zk_la1_r, zk_la1_n, zk_lg0, zk_lgs, zk_co_n, zk_co_i, zk_co_r, zk_co_u, zk_co_l, zk_l1_0, zk_l1_1, zk_l1_s, zk_l2_0, zk_l2_1, zk_l2_s, zk_sm0, zk_smi, zk_smr, zk_smn, zk_sml, zk_fi, zk_fz, zk_fo, zk_fn, zk_fa, zk_ts, zk_tn, zk_cases, true_and, and_true, List.getElem?_cons_zero, List.getElem?_cons_succ, List.length_cons, List.length_nil, Nat.reduceAdd, Nat.reduceLT, Nat.reduceLeDiff, List.set_cons_zero, List.set_cons_succ, va_rf, iz_lit]
  exact loop nj.toNat 0 _ _ _ _ (by omega)
end UNM
