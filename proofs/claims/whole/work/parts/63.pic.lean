/-! zones and jobs of the class beside those of the model -/
def zR (s m : mS) (z : Int) : Prop := (xr s (3 * z) = ssOf m z ∧ xr s (3 * z + 1) = osOf m z ∧ xr s (3 * z + 2) = hsOf m z) ∧ (∀ k, 0 ≤ k → k < m 5 z → s 60 (20 * z + k) = wafter (hsOf m z) (gz (hsOf m z) k)) ∧ wI s (3 * z) ∧ wI s (3 * z + 1) ∧ wI s (3 * z + 2)
def efOf (m : mS) (j : Int) : List Int := rl (m 46 j) (fun k => m 47 (300 * j + k))
def egOf (m : mS) (j : Int) : List Int := rl (m 46 j) (fun k => m 48 (300 * j + k))
def jR (s m : mS) (j : Int) : Prop := (xr s (9 + 6 * j) = nwOf m j ∧ xr s (10 + 6 * j) = nnOf m j ∧ xr s (11 + 6 * j) = exOf m j ∧ xr s (12 + 6 * j) = xtOf m j ∧ xr s (13 + 6 * j) = efOf m j ∧ xr s (14 + 6 * j) = egOf m j) ∧ (s 11 j = m 11 j ∧ s 12 j = m 12 j ∧ s 13 j = m 13 j ∧ s 14 j = m 14 j ∧ s 15 j = m 15 j ∧ s 16 j = m 16 j ∧ s 22 j = m 22 j) ∧ wI s (9 + 6 * j) ∧ wI s (10 + 6 * j) ∧ wI s (11 + 6 * j) ∧ wI s (12 + 6 * j) ∧ wI s (13 + 6 * j) ∧ wI s (14 + 6 * j)
theorem rlim_z {z : Int} (h : 0 ≤ z ∧ z < 3) : rlim (3 * z) = 11 ∧ rlim (3 * z + 1) = 11 ∧ rlim (3 * z + 2) = 20 := by
  unfold rlim
  refine ⟨?_, ?_, ?_⟩
  · rw [if_pos (by omega), if_neg (by omega)]
  · rw [if_pos (by omega), if_neg (by omega)]
  · rw [if_pos (by omega), if_pos (by omega)]
theorem rlim_j {j : Int} (h : 0 ≤ j) : rlim (9 + 6 * j) = 3 ∧ rlim (10 + 6 * j) = 3 ∧ rlim (11 + 6 * j) = 6 ∧ rlim (12 + 6 * j) = 8 ∧ rlim (13 + 6 * j) = 512 ∧ rlim (14 + 6 * j) = 512 := by
  unfold rlim
  refine ⟨?_, ?_, ?_, ?_, ?_, ?_⟩
  · rw [if_neg (by omega), if_pos (by omega)]
  · rw [if_neg (by omega), if_pos (by omega)]
  · rw [if_neg (by omega), if_neg (by omega), if_pos (by omega)]
  · rw [if_neg (by omega), if_neg (by omega), if_neg (by omega), if_pos (by omega)]
  · rw [if_neg (by omega), if_neg (by omega), if_neg (by omega), if_neg (by omega)]
  · rw [if_neg (by omega), if_neg (by omega), if_neg (by omega), if_neg (by omega)]
section ZH
variable {G : zk_G} {h : zk_H} {a : Nat} {ss os hs : List Int} {mv : Nat → Int32}
theorem c_stretch (hp : znp G h a ss os hs mv) (Q : Option Value → zk_H → Prop) : zk_wp G 57 0 [some (.ref a)] [] h Q ↔ Q (some (.int (iz ss.length))) h := by
  refine zk_eq ?_ Q
  obtain ⟨a1, i1, c1, a2, i2, c2, a3, i3, c3, a4, p0, p1, p2, p3, p4⟩ := hp
  have q1 := (rwz_rd p1).1
  simp (disch := first | omega | assumption | (simp; done)) only [u_57_0, u_57_1, u_57_4, u_57_7, true_or, or_true, zk_li1_s, zk_ll1_s, zk_la1_r, zk_la1_n, zk_lg0, zk_lgs, zk_co_n, zk_co_i, zk_co_r, zk_co_u, zk_co_l, zk_l1_0, zk_l1_1, zk_l1_s, zk_l2_0, zk_l2_1, zk_l2_s, zk_sm0, zk_smi, zk_smr, zk_smn, zk_sml, zk_fi, zk_fz, zk_fo, zk_fn, zk_fa, zk_ts, zk_tn, zk_cases, true_and, and_true, List.getElem?_cons_zero, List.getElem?_cons_succ, List.length_cons, List.length_nil, Nat.reduceAdd, Nat.reduceLT, Nat.reduceLeDiff, List.set_cons_zero, List.set_cons_succ, va_rf, zk_og_f p0, zk_op_f p0, zk_og_f q1, zk_op_f q1]
theorem c_firstOD (hp : znp G h a ss os hs mv) (hz : zok ss os) (k d : Int) (hk : -1000 ≤ k ∧ k ≤ 1000) (hd : -30000 ≤ d ∧ d ≤ 30000) (Q : Option Value → zk_H → Prop) : zk_wp G 58 0 [some (.ref a), some (.int (iz k)), some (.int (iz d))] [] h Q ↔ Q (some (.int (iz (max (gz ss k) (d * 1440 - gz os k))))) h := by
  refine zk_eq ?_ Q
  obtain ⟨a1, i1, c1, a2, i2, c2, a3, i3, c3, a4, p0, p1, p2, p3, p4⟩ := hp
  have b1 := hz.2.2.2.1 k
  have b2 := hz.2.2.2.2 k
  have ic1 := zk_ic_rd (rwz_rd p1).1
  have ic2 := zk_ic_rd (rwz_rd p2).1
  have t1 := c_atz p1 k (by omega)
  have t2 := c_atz p2 k (by omega)
  have mx := c_mx G h (gz ss k) (d * 1440 - gz os k) (by omega) (by omega)
  simp (disch := first | omega | assumption | (simp; done)) only [u_58_0, u_58_1, u_58_4, u_58_5, u_58_8, u_58_9, u_58_12, u_58_13, u_58_14, u_58_17, u_58_18, u_58_21, u_58_22, u_58_25, true_or, or_true, zk_li1_s, zk_ll1_s, zk_la1_r, zk_la1_n, zk_lg0, zk_lgs, zk_co_n, zk_co_i, zk_co_r, zk_co_u, zk_co_l, zk_l1_0, zk_l1_1, zk_l1_s, zk_l2_0, zk_l2_1, zk_l2_s, zk_sm0, zk_smi, zk_smr, zk_smn, zk_sml, zk_fi, zk_fz, zk_fo, zk_fn, zk_fa, zk_ts, zk_tn, zk_cases, true_and, and_true, List.getElem?_cons_zero, List.getElem?_cons_succ, List.length_cons, List.length_nil, Nat.reduceAdd, Nat.reduceLT, Nat.reduceLeDiff, List.set_cons_zero, List.set_cons_succ, va_rf, zk_og_f p0, zk_op_f p0, ic1, ic2, t1, t2, iz_lit, iz_mul, iz_sub, mx]
theorem c_lastOD (hp : znp G h a ss os hs mv) (hz : zok ss os) (k d : Int) (hk : -1000 ≤ k ∧ k ≤ 1000) (hd : -30000 ≤ d ∧ d ≤ 30000) (Q : Option Value → zk_H → Prop) : zk_wp G 59 0 [some (.ref a), some (.int (iz k)), some (.int (iz d))] [] h Q ↔ Q (some (.int (iz (min (zend ss k) (d * 1440 + 1440 - 1 - gz os k))))) h := by
  refine zk_eq ?_ Q
  have en := c_endOf hp hz k hk
  have icz := znp_ic hp
  obtain ⟨a1, i1, c1, a2, i2, c2, a3, i3, c3, a4, p0, p1, p2, p3, p4⟩ := hp
  have b1 := hz.2.2.2.1 (k + 1)
  have b2 := hz.2.2.2.2 k
  have ic2 := zk_ic_rd (rwz_rd p2).1
  have t2 := c_atz p2 k (by omega)
  have mn := c_mn G h (zend ss k) (d * 1440 + 1440 - 1 - gz os k) (by unfold zend; split <;> omega) (by omega)
  simp (disch := first | omega | assumption | (simp; done)) only [u_59_0, u_59_1, u_59_2, u_59_5, u_59_6, u_59_9, u_59_10, u_59_13, u_59_14, u_59_15, u_59_16, u_59_17, u_59_20, u_59_21, u_59_24, u_59_25, u_59_28, true_or, or_true, zk_li1_s, zk_ll1_s, zk_la1_r, zk_la1_n, zk_lg0, zk_lgs, zk_co_n, zk_co_i, zk_co_r, zk_co_u, zk_co_l, zk_l1_0, zk_l1_1, zk_l1_s, zk_l2_0, zk_l2_1, zk_l2_s, zk_sm0, zk_smi, zk_smr, zk_smn, zk_sml, zk_fi, zk_fz, zk_fo, zk_fn, zk_fa, zk_ts, zk_tn, zk_cases, true_and, and_true, List.getElem?_cons_zero, List.getElem?_cons_succ, List.length_cons, List.length_nil, Nat.reduceAdd, Nat.reduceLT, Nat.reduceLeDiff, List.set_cons_zero, List.set_cons_succ, va_rf, zk_og_f p0, zk_op_f p0, icz, ic2, en, t2, iz_lit, iz_mul, iz_add, iz_sub, mn]
end ZH
section PIC
variable {G : zk_G} {B : zk_H} {nz nj : Int} {ad : Int → Nat}
theorem x_znp (hB : hxo G B nz nj ad) {s m : mS} {z : Int} (hz : 0 ≤ z ∧ z < nz) (hR : zR s m z) : znp G (hx G B nz nj ad s) (ad (200 + z)) (ssOf m z) (osOf m z) (hsOf m z) (fun x : Nat => if x < 20 then iz (s 60 (20 * z + x)) else iz 0) := by
  have hn := hB.1
  obtain ⟨⟨r1, r2, r3⟩, r4, w1, w2, w3⟩ := hR
  obtain ⟨l1, l2, l3⟩ := rlim_z (z := z) (by omega)
  have t1 := x_rwz hB (p := 3 * z) (by omega) w1
  have t2 := x_rwz hB (p := 3 * z + 1) (by omega) w2
  have t3 := x_rwz hB (p := 3 * z + 2) (by omega) w3
  rw [r1, l1] at t1
  rw [r2, l2] at t2
  rw [r3, l3] at t3
  exact ⟨_, _, _, _, _, _, _, _, _, _, x_zo hB s z hz, t1, t2, t3, xr_mt hB s z hz⟩
theorem x_mvok {s m : mS} {z : Int} (hI : zI m z) (hR : zR s m z) : mvok (hsOf m z) (fun x : Nat => if x < 20 then iz (s 60 (20 * z + x)) else iz 0) := by
  obtain ⟨-, r4, -, -, -⟩ := hR
  have h5 := hI.2.2.1
  intro k hk
  have hl : ((hsOf m z).length : Int) = m 5 z := rl_len _ (by omega)
  show (if k < 20 then iz (s 60 (20 * z + k)) else iz 0) = _
  rw [if_pos (by omega), r4 k (by omega) (by omega)]
theorem x_rup (hB : hxo G B nz nj ad) {s m : mS} {j : Int} (hj : 0 ≤ j ∧ j < nj) (hI : jI m j) (hR : jR s m j) : rup G (hx G B nz nj ad s) (ad (240 + j)) (ad (200 + m 11 j)) (msOf m j) (nwOf m j) (nnOf m j) (exOf m j) (xtOf m j) (m 22 j) := by
  have hn := hB.1
  obtain ⟨⟨r1, r2, r3, r4, -, -⟩, ⟨e0, e1, e2, e3, e4, e5, e6⟩, w1, w2, w3, w4, -, -⟩ := hR
  obtain ⟨-, -, b12, b13, b14, b15, b16, -⟩ := hI
  obtain ⟨l1, l2, l3, l4, l5, l6⟩ := rlim_j hj.1
  have t1 := x_rwz hB (p := 9 + 6 * j) (by omega) w1
  have t2 := x_rwz hB (p := 10 + 6 * j) (by omega) w2
  have t3 := x_rwz hB (p := 11 + 6 * j) (by omega) w3
  have t4 := x_rwz hB (p := 12 + 6 * j) (by omega) w4
  rw [r1, l1] at t1
  rw [r2, l2] at t2
  rw [r3, l3] at t3
  rw [r4, l4] at t4
  have hr := x_rr hB s j hj
  rw [e0, e6] at hr
  refine ⟨_, _, _, _, _, _, _, _, _, _, _, _, _, _, hr, xr_ma hB s j hj, ?_, t1, t2, t3, t4⟩
  intro k hk
  show (if k < 5 then lz (s (12 + k) j) else 0) = _
  rw [if_pos hk]
  have g : ∀ x : Int, 0 ≤ x → lz x = lN x.toNat := fun x hx => by rw [← lz_lN]; congr 1; omega
  unfold msOf
  have : k = 0 ∨ k = 1 ∨ k = 2 ∨ k = 3 ∨ k = 4 := by omega
  rcases this with rfl | rfl | rfl | rfl | rfl
  · rw [e1]; exact g _ b12.1
  · rw [e2]; exact g _ b13.1
  · rw [e3]; exact g _ b14.1
  · rw [e4]; exact g _ b15.1
  · rw [e5]; exact g _ b16.1
theorem x_firstDue (hB : hxo G B nz nj ad) (hG : GS G) {s m : mS} {j : Int} (hj : 0 ≤ j ∧ j < nj) (hz : m 11 j < nz) (hI : jI m j) (hR : jR s m j) (hZ : zR s m (m 11 j)) (fr to : Int) (hfr : 0 ≤ fr ∧ fr ≤ 30000000) (hto : -30000000 ≤ to ∧ to ≤ 21038399) : ∃ v : Int, fsP (dueJ m j) fr to v ∧ ∀ Q : Option Value → zk_H → Prop, zk_wp G 26 0 [some (.ref (ad (240 + j))), some (.int (iz fr)), some (.int (iz to)), none, none, none, none, none, none] [] (hx G B nz nj ad s) Q ↔ Q (some (.int (iz v))) (hx G B nz nj ad s) := by
  have zi := hI.2.1
  have hr := hI.2.2.2.2.2.2.2.2.2.2.2
  have h5 := zi.2.2.1
  have hl : ((hsOf m (m 11 j)).length : Int) = m 5 (m 11 j) := rl_len _ (by omega)
  exact c_firstDue (x_rup hB hj hI hR) hr (x_znp hB ⟨zi.1.1, hz⟩ hZ) zi.2.2.2.1 zi.2.2.2.2.1 zi.2.2.2.2.2 (by omega) (x_mvok zi hZ) hG fr to hfr hto
theorem x_lastDue (hB : hxo G B nz nj ad) (hG : GS G) {s m : mS} {j : Int} (hj : 0 ≤ j ∧ j < nj) (hz : m 11 j < nz) (hI : jI m j) (hR : jR s m j) (hZ : zR s m (m 11 j)) (fr to : Int) (hfr : 0 ≤ fr ∧ fr ≤ 30000000) (hto : -30000000 ≤ to ∧ to ≤ 21038399) : ∃ v : Int, lsP (dueJ m j) fr to v ∧ ∀ Q : Option Value → zk_H → Prop, zk_wp G 36 0 [some (.ref (ad (240 + j))), some (.int (iz fr)), some (.int (iz to)), none, none, none, none, none] [] (hx G B nz nj ad s) Q ↔ Q (some (.int (iz v))) (hx G B nz nj ad s) := by
  have zi := hI.2.1
  have hr := hI.2.2.2.2.2.2.2.2.2.2.2
  have h5 := zi.2.2.1
  have hl : ((hsOf m (m 11 j)).length : Int) = m 5 (m 11 j) := rl_len _ (by omega)
  exact c_lastDue (x_rup hB hj hI hR) hr (x_znp hB ⟨zi.1.1, hz⟩ hZ) zi.2.2.2.1 zi.2.2.2.2.1 zi.2.2.2.2.2 (by omega) (x_mvok zi hZ) hG fr to hfr hto
end PIC
