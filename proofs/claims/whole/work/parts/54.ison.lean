/-! a working day is never far; isOn -/
theorem sub_len : ∀ (L hs : List Int), L.Nodup → (∀ x ∈ L, x ∈ hs) → L.length ≤ hs.length := by
  intro L
  induction L with
  | nil => intro hs _ _; exact Nat.zero_le _
  | cons x L ih =>
    intro hs hn hsub
    have hx := hsub x (List.mem_cons_self ..)
    have hn2 := List.nodup_cons.mp hn
    have := ih (hs.erase x) hn2.2 (fun y hy => by
      have hne : y ≠ x := by rintro rfl; exact hn2.1 hy
      exact (List.mem_erase_of_ne hne).mpr (hsub y (List.mem_cons_of_mem _ hy)))
    rw [List.length_erase_of_mem hx] at this
    have hp : 0 < hs.length := List.length_pos_of_mem hx
    rw [List.length_cons]
    omega
theorem wk25 : ∀ r, r < 7 → ((List.range 35).filter (fun i => decide ((r + i) % 7 < 5))).length = 25 := by decide +kernel
theorem rest35 {hs : List Int} (hl : hs.length ≤ 20) (x : Int) : ∃ e, x < e ∧ e ≤ x + 35 ∧ wkd hs e = true := by
  rcases Classical.em (∃ e, x < e ∧ e ≤ x + 35 ∧ wkd hs e = true) with h | h
  · exact h
  · exfalso
    obtain ⟨r, hr, hr2⟩ : ∃ r : Nat, (x + 6) % 7 = (r : Int) ∧ r < 7 := ⟨((x + 6) % 7).toNat, by omega, by omega⟩
    have h25 := wk25 r hr2
    have h1 := sub_len (((List.range 35).filter (fun i => decide ((r + i) % 7 < 5))).map (fun i : Nat => x + 1 + i)) hs ?_ ?_
    · rw [List.length_map, h25] at h1; omega
    · have hnd : List.Pairwise (fun a b => a ≠ b) ((List.range 35).filter (fun i => decide ((r + i) % 7 < 5))) := List.Pairwise.filter _ List.nodup_range
      unfold List.Nodup
      rw [List.pairwise_map]
      exact hnd.imp (fun {a b} hab q => hab (by omega))
    · intro y hy
      obtain ⟨i, hi, e⟩ := List.mem_map.mp hy
      rw [List.mem_filter, List.mem_range, decide_eq_true_iff] at hi
      rcases Classical.em (y ∈ hs) with q | q
      · exact q
      · exfalso
        apply h
        refine ⟨y, by omega, by omega, ?_⟩
        unfold wkd wdn
        have : (y + 5) % 7 < 5 := by omega
        rw [decide_eq_true this, decide_eq_false q]
        rfl
theorem waA_eq {hs : List Int} : ∀ (n : Nat) (d v : Int), d ≤ v → v < d + n → wkd hs v = true → (∀ e, d ≤ e → e < v → wkd hs e = false) → waA hs n d = v := by
  intro n
  induction n with
  | zero => intro d v a b; omega
  | succ n ih =>
    intro d v a b c f
    unfold waA
    rcases Int.lt_or_le d v with z | z
    · rw [if_neg (by rw [f d (by omega) z]; decide)]
      exact ih (d + 1) v (by omega) (by omega) c (fun e e1 e2 => f e (by omega) e2)
    · have : d = v := by omega
      subst this
      rw [if_pos c]
theorem wafter_eq {hs : List Int} (hl : hs.length ≤ 20) {x d : Int} (hx : -100000 ≤ x ∧ x ≤ 100000) : wafter hs x = d ↔ (x < d ∧ wkd hs d = true ∧ ∀ e, x < e → e < d → wkd hs e = false) := by
  obtain ⟨w, w1, w2, w3⟩ := rest35 hl x
  constructor
  · intro h
    rcases wafter_r hs x with q | ⟨q1, q2, q3, q4⟩
    · exfalso
      have hn : ∀ (n : Nat) (d : Int), d ≤ w → w < d + n → waA hs n d ≠ 2147483647 := by
        intro n
        induction n with
        | zero => intro d a b; omega
        | succ n ih =>
          intro d a b
          unfold waA
          split
          next => omega
          next z =>
            rcases Int.lt_or_le d w with y | y
            · exact ih (d + 1) (by omega) (by omega)
            · have : d = w := by omega
              subst this
              exact absurd w3 z
      exact hn 60 (x + 1) (by omega) (by omega) q
    · rw [h] at q1 q2 q3 q4
      exact ⟨by omega, q3, q4⟩
  · rintro ⟨h1, h2, h3⟩
    have : d ≤ x + 35 := by
      rcases Int.lt_or_le w d with z | z
      · have := h3 w w1 z
        rw [w3] at this; cases this
      · omega
    unfold wafter
    exact waA_eq 60 (x + 1) d (by omega) (by omega) h2 (fun e e1 e2 => h3 e (by omega) e2)
theorem movD_iff {ms : Nat → Nat} {nw nn hs : List Int} (hl : hs.length ≤ 20) (hh : ∀ x ∈ hs, 0 ≤ x ∧ x ≤ 14609) (d : Int) : movD ms nw nn hs d = true ↔ (wkd hs d = true ∧ ∃ x, x ∈ hs ∧ fitD ms nw nn x = true ∧ x < d ∧ ∀ e, x < e → e < d → wkd hs e = false) := by
  unfold movD
  rw [List.any_eq_true]
  constructor
  · rintro ⟨x, hx, e⟩
    rw [Bool.and_eq_true, decide_eq_true_eq] at e
    have hb := hh x hx
    have := (wafter_eq hl (x := x) (by omega)).mp e.1
    exact ⟨this.2.1, x, hx, e.2, this.1, this.2.2⟩
  · rintro ⟨w, x, hx, hf, h1, h2⟩
    have hb := hh x hx
    refine ⟨x, hx, ?_⟩
    rw [Bool.and_eq_true, decide_eq_true_eq]
    exact ⟨(wafter_eq hl (by omega)).mpr ⟨h1, w, h2⟩, hf⟩
section MON
variable {G : zk_G} {B : zk_H} {M : Nat}
theorem d_isOn (hB : hpo G B M) {m : mS} {j : Int} (hj : jI m j) (d : Int) (hd : -900 ≤ d ∧ d ≤ 20000) : ∃ m', dtx m m' ∧ ∀ Q : Option Value → zk_H → Prop, zk_wp G 150 0 [some (.ref M), some (.int (iz j)), some (.int (iz d)), none, none, none] [] (hp G B M m) Q ↔ Q (some (.int (iz (bi (onD (msOf m j) (nwOf m j) (nnOf m j) (hsOf m (m 11 j)) (m 22 j) d))))) (hp G B M m') := by
  have ic := hp_ic hB
  have zi := hj.2.1
  have j1 := hj.1
  have w1 : 0 ≤ m 22 j ∧ m 22 j ≤ 2 := hj.2.2.2.2.2.2.2.2.2.2.1
  have zr := zi.1
  have hh := zi.2.2.2.2.2
  have hlen : (hsOf m (m 11 j)).length ≤ 20 := by have := rl_len (fun k => m 6 (20 * m 11 j + k)) zi.2.2.1.1; have := zi.2.2.1; unfold hsOf; omega
  suffices hw : zk_wp G 150 0 [some (.ref M), some (.int (iz j)), some (.int (iz d)), none, none, none] [] (hp G B M m) (fun r h' => ∃ m', dtx m m' ∧ r = some (.int (iz (bi (onD (msOf m j) (nwOf m j) (nnOf m j) (hsOf m (m 11 j)) (m 22 j) d)))) ∧ h' = hp G B M m') by
    obtain ⟨r0, h0, ⟨m', b1, rfl, rfl⟩, b3⟩ := zk_some hw
    exact ⟨m', b1, b3⟩
  generalize hon : onD (msOf m j) (nwOf m j) (nnOf m j) (hsOf m (m 11 j)) (m 22 j) d = on
  generalize hQ : (fun (r : Option Value) (h' : zk_H) => ∃ m', dtx m m' ∧ r = some (.int (iz (bi on))) ∧ h' = hp G B M m') = Q
  -- at a later state
  have fx : ∀ (m1 : mS), dtx m m1 → ∀ e, -1000 ≤ e ∧ e ≤ 20000 → ∀ Q : Option Value → zk_H → Prop, zk_wp G 151 0 [some (.ref M), some (.int (iz j)), some (.int (iz e)), none, none, none, none, none] [] (hp G B M m1) Q ↔ Q (some (.int (iz (bi (fitD (msOf m j) (nwOf m j) (nnOf m j) e))))) (hp G B M (dt m1 e)) := by
    intro m1 h1 e he Q
    have := d_fits hB ((dtx_jI h1 j).mpr hj) e he Q
    rw [dtx_ms h1, dtx_nw h1, dtx_nn h1] at this
    exact this
  have hx : ∀ (m1 : mS), dtx m m1 → ∀ e, -1000 ≤ e ∧ e ≤ 20000 → ∀ Q : Option Value → zk_H → Prop, zk_wp G 119 0 [some (.ref M), some (.int (iz (m 11 j))), some (.int (iz e)), none, none] [] (hp G B M m1) Q ↔ Q (some (.int (iz (bi (decide (e ∈ hsOf m (m 11 j))))))) (hp G B M m1) := by
    intro m1 h1 e he Q
    have := d_isHol hB ((dtx_zI h1 (m 11 j)).mpr zi) e (by omega) Q
    rw [dtx_hs h1] at this
    exact this
  have wx : ∀ (m1 : mS), dtx m m1 → ∀ e, -1000 ≤ e ∧ e ≤ 20000 → ∀ Q : Option Value → zk_H → Prop, zk_wp G 131 0 [some (.ref M), some (.int (iz (m 11 j))), some (.int (iz e))] [] (hp G B M m1) Q ↔ Q (some (.int (iz (bi (wkd (hsOf m (m 11 j)) e))))) (hp G B M m1) := by
    intro m1 h1 e he Q
    have := d_isWork hB ((dtx_zI h1 (m 11 j)).mpr zi) e (by omega) Q
    rw [dtx_hs h1] at this
    exact this
  have hr := dtx_r m
  obtain ⟨w, v1, v2, v3⟩ := rest35 hlen (d - 36)
  -- the days before
  have loop : wkd (hsOf m (m 11 j)) d = true → m 22 j = 2 → onS (msOf m j) (nwOf m j) (nnOf m j) (hsOf m (m 11 j)) (m 22 j) d = false → ∀ (n : Nat) (e : Int) (b : Bool) (m1 : mS), dtx m m1 → w ≤ e → e - w = n → e < d → (∀ x, e < x → x < d → wkd (hsOf m (m 11 j)) x = false) → (b = true → on = true) → (b = false → ∀ x, e < x → x < d → x ∈ hsOf m (m 11 j) → fitD (msOf m j) (nwOf m j) (nnOf m j) x = false) → zk_wp G 150 72 [some (.ref M), some (.int (iz j)), some (.int (iz d)), some (.int (iz (m 11 j))), some (.int (iz (bi b))), some (.int (iz e))] [] (hp G B M m1) Q := by
    intro hwd hw2 hS n
    have onm : on = movD (msOf m j) (nwOf m j) (nnOf m j) (hsOf m (m 11 j)) d := by
      rw [← hon]; unfold onD; rw [hS, decide_eq_true hw2]; rfl
    have stop : ∀ (e : Int) (m1 : mS) (o4 : Int), dtx m m1 → e < d → wkd (hsOf m (m 11 j)) e = true → (∀ x, e < x → x < d → x ∈ hsOf m (m 11 j) → fitD (msOf m j) (nwOf m j) (nnOf m j) x = false) → on = false := by
      intro e m1 o4 h1 h2 h3 h4
      rw [onm]
      rcases Bool.eq_false_or_eq_true (movD (msOf m j) (nwOf m j) (nnOf m j) (hsOf m (m 11 j)) d) with c | c
      · exfalso
        obtain ⟨-, x, x1, x2, x3, x4⟩ := (movD_iff hlen hh d).mp c
        rcases Int.lt_or_le e x with q | q
        · rw [h4 x q x3 x1] at x2; cases x2
        · rcases Int.lt_or_le x e with q2 | q2
          · rw [x4 e q2 h2] at h3; cases h3
          · have : x = e := by omega
            subst this
            unfold wkd at h3
            rw [decide_eq_true x1] at h3
            simp at h3
      · exact c
    induction n with
    | zero =>
      intro e b m1 h1 h2 h3 h4 h5 h6 h7
      have : e = w := by omega
      subst this
      rw [u_150_72]
      simp (disch := first | omega | assumption | (simp; done)) only [u_150_0, u_150_1, u_150_4, u_150_5, u_150_6, u_150_7, u_150_8, u_150_11, u_150_12, u_150_13, u_150_16, u_150_17, u_150_18, u_150_19, u_150_22, u_150_23, u_150_24, u_150_25, u_150_26, u_150_29, u_150_32, u_150_33, u_150_34, u_150_35, u_150_38, u_150_41, u_150_42, u_150_43, u_150_44, u_150_47, u_150_48, u_150_49, u_150_50, u_150_53, u_150_54, u_150_55, u_150_56, u_150_59, u_150_62, u_150_63, u_150_64, u_150_65, u_150_67, u_150_68, u_150_69, u_150_70, u_150_73, u_150_74, u_150_76, u_150_79, u_150_84, u_150_87, u_150_88, u_150_89, u_150_91, u_150_94, u_150_97, u_150_98, u_150_99, u_150_101, u_150_104, u_150_107, u_150_108, u_150_111, u_150_112, u_150_114, u_150_117, u_150_120, u_150_122, true_or, or_true, zk_li1_s, zk_ll1_s, zk_la1_r, zk_la1_n, zk_lg0, zk_lgs, zk_co_n, zk_co_i, zk_co_r, zk_co_u, zk_co_l, zk_l1_0, zk_l1_1, zk_l1_s, zk_l2_0, zk_l2_1, zk_l2_s, zk_sm0, zk_smi, zk_smr, zk_smn, zk_sml, zk_fi, zk_fz, zk_fo, zk_fn, zk_fa, zk_ts, zk_tn, zk_cases, true_and, and_true, List.getElem?_cons_zero, List.getElem?_cons_succ, List.length_cons, List.length_nil, Nat.reduceAdd, Nat.reduceLT, Nat.reduceLeDiff, List.set_cons_zero, List.set_cons_succ, va_rf, ic, iz_lit, wx m1 h1 e (by omega), bi_0, bi_1, bi_or, v3]
      refine ⟨fun _ => ?_, fun c => absurd c (by simp)⟩
      rw [← hQ]
      refine ⟨m1, h1, ?_, rfl⟩
      cases b with
      | true => rw [h6 rfl]
      | false => rw [stop e m1 0 h1 h4 v3 (h7 rfl)]
    | succ n ih =>
      intro e b m1 h1 h2 h3 h4 h5 h6 h7
      rw [u_150_72]
      have e1 : e + -1 = e - 1 := by omega
      simp (disch := first | omega | assumption | (simp; done)) only [u_150_0, u_150_1, u_150_4, u_150_5, u_150_6, u_150_7, u_150_8, u_150_11, u_150_12, u_150_13, u_150_16, u_150_17, u_150_18, u_150_19, u_150_22, u_150_23, u_150_24, u_150_25, u_150_26, u_150_29, u_150_32, u_150_33, u_150_34, u_150_35, u_150_38, u_150_41, u_150_42, u_150_43, u_150_44, u_150_47, u_150_48, u_150_49, u_150_50, u_150_53, u_150_54, u_150_55, u_150_56, u_150_59, u_150_62, u_150_63, u_150_64, u_150_65, u_150_67, u_150_68, u_150_69, u_150_70, u_150_73, u_150_74, u_150_76, u_150_79, u_150_82, u_150_84, u_150_87, u_150_88, u_150_89, u_150_91, u_150_94, u_150_97, u_150_98, u_150_99, u_150_101, u_150_104, u_150_107, u_150_108, u_150_111, u_150_112, u_150_114, u_150_117, u_150_120, u_150_122, true_or, or_true, zk_li1_s, zk_ll1_s, zk_la1_r, zk_la1_n, zk_lg0, zk_lgs, zk_co_n, zk_co_i, zk_co_r, zk_co_u, zk_co_l, zk_l1_0, zk_l1_1, zk_l1_s, zk_l2_0, zk_l2_1, zk_l2_s, zk_sm0, zk_smi, zk_smr, zk_smn, zk_sml, zk_fi, zk_fz, zk_fo, zk_fn, zk_fa, zk_ts, zk_tn, zk_cases, true_and, and_true, List.getElem?_cons_zero, List.getElem?_cons_succ, List.length_cons, List.length_nil, Nat.reduceAdd, Nat.reduceLT, Nat.reduceLeDiff, List.set_cons_zero, List.set_cons_succ, va_rf, ic, iz_lit, iz_neg, iz_add, e1, wx m1 h1 e (by omega), hx m1 h1 e (by omega), fx m1 h1 e (by omega), bi_0, bi_1, bi_or]
      refine ⟨fun c => ?_, fun c => ⟨fun c2 => ?_, fun c2 => ⟨fun c3 => ?_, fun c3 => ⟨fun c4 => ?_, fun c4 => ?_⟩⟩⟩⟩
      · rw [← hQ]
        refine ⟨m1, h1, ?_, rfl⟩
        cases b with
        | true => rw [h6 rfl]
        | false => rw [stop e m1 0 h1 h4 (by simpa using c) (h7 rfl)]
      · rw [← hQ]
        have hb : b = true := by simpa using c2
        exact ⟨m1, h1, by rw [hb, h6 hb], rfl⟩
      · have c' : decide (e ∈ hsOf m (m 11 j)) = false := c3
        refine ih (e - 1) false m1 h1 (by omega) (by omega) (by omega) (fun x x1 x2 => ?_) (fun q => by cases q) (fun _ x x1 x2 x3 => ?_)
        · rcases Int.lt_or_le e x with q | q
          · exact h5 x q x2
          · rw [show x = e by omega]; exact c
        · rcases Int.lt_or_le e x with q | q
          · exact h7 c2 x q x2 x3
          · have : x = e := by omega
            subst this
            exact absurd x3 (of_decide_eq_false c')
      · refine ih (e - 1) false (dt m1 e) (dtx_t h1 (dtx_dt m1 e)) (by omega) (by omega) (by omega) (fun x x1 x2 => ?_) (fun q => by cases q) (fun _ x x1 x2 x3 => ?_)
        · rcases Int.lt_or_le e x with q | q
          · exact h5 x q x2
          · rw [show x = e by omega]; exact c
        · rcases Int.lt_or_le e x with q | q
          · exact h7 c2 x q x2 x3
          · rw [show x = e by omega]; exact c4
      · have c' : e ∈ hsOf m (m 11 j) := by
          rcases Bool.eq_false_or_eq_true (decide (e ∈ hsOf m (m 11 j))) with q | q
          · exact of_decide_eq_true q
          · exact absurd q c3
        refine ih (e - 1) true (dt m1 e) (dtx_t h1 (dtx_dt m1 e)) (by omega) (by omega) (by omega) (fun x x1 x2 => ?_) (fun _ => ?_) (fun q => by cases q)
        · rcases Int.lt_or_le e x with q | q
          · exact h5 x q x2
          · rw [show x = e by omega]; exact c
        · rw [onm]
          exact (movD_iff hlen hh d).mpr ⟨hwd, e, c', by simpa using c4, h4, h5⟩
  -- behind the first test
  have rest : m 22 j ≠ 0 → onS (msOf m j) (nwOf m j) (nnOf m j) (hsOf m (m 11 j)) (m 22 j) d = false → ∀ m1, dtx m m1 → zk_wp G 150 43 [some (.ref M), some (.int (iz j)), some (.int (iz d)), some (.int (iz (m 11 j))), none, none] [] (hp G B M m1) Q := by
    intro hw0 hS m1 h1
    have x22 : m1 22 j = m 22 j := h1 22 j (by decide) (by decide) (by decide)
    rw [u_150_43]
    simp (disch := first | omega | assumption | (simp; done)) only [u_150_0, u_150_1, u_150_4, u_150_5, u_150_6, u_150_7, u_150_8, u_150_11, u_150_12, u_150_13, u_150_16, u_150_17, u_150_18, u_150_19, u_150_22, u_150_23, u_150_24, u_150_25, u_150_26, u_150_29, u_150_32, u_150_33, u_150_34, u_150_35, u_150_38, u_150_41, u_150_42, u_150_44, u_150_47, u_150_48, u_150_49, u_150_50, u_150_53, u_150_54, u_150_55, u_150_56, u_150_59, u_150_62, u_150_63, u_150_64, u_150_65, u_150_67, u_150_68, u_150_69, u_150_70, u_150_73, u_150_74, u_150_76, u_150_79, u_150_82, u_150_84, u_150_87, u_150_88, u_150_89, u_150_91, u_150_94, u_150_97, u_150_98, u_150_99, u_150_101, u_150_104, u_150_107, u_150_108, u_150_111, u_150_112, u_150_114, u_150_117, u_150_120, u_150_122, true_or, or_true, zk_li1_s, zk_ll1_s, zk_la1_r, zk_la1_n, zk_lg0, zk_lgs, zk_co_n, zk_co_i, zk_co_r, zk_co_u, zk_co_l, zk_l1_0, zk_l1_1, zk_l1_s, zk_l2_0, zk_l2_1, zk_l2_s, zk_sm0, zk_smi, zk_smr, zk_smn, zk_sml, zk_fi, zk_fz, zk_fo, zk_fn, zk_fa, zk_ts, zk_tn, zk_cases, true_and, and_true, List.getElem?_cons_zero, List.getElem?_cons_succ, List.length_cons, List.length_nil, Nat.reduceAdd, Nat.reduceLT, Nat.reduceLeDiff, List.set_cons_zero, List.set_cons_succ, va_rf, ic, iz_lit, iz_sub, mg_11 hB, mr_11 hB, mw_11 hB, mg_22 hB, mr_22 hB, mw_22 hB, x22, iz_inj, bi_0, bi_1, bi_or, wx m1 h1 d (by omega)]
    refine ⟨fun c => ?_, fun c => ⟨fun c2 => ?_, fun c2 => ?_⟩⟩
    · rw [← hQ]
      refine ⟨m1, h1, ?_, rfl⟩
      rw [← hon]
      unfold onD
      rw [hS, decide_eq_false c]
      rfl
    · exact loop (by simpa using c2) c hS (d - 1 - w).toNat (d - 1) false m1 h1 (by omega) (by omega) (by omega) (fun x x1 x2 => by omega) (fun q => by cases q) (fun _ x x1 x2 => by omega)
    · rw [← hQ]
      refine ⟨m1, h1, ?_, rfl⟩
      rw [← hon]
      unfold onD
      have : movD (msOf m j) (nwOf m j) (nnOf m j) (hsOf m (m 11 j)) d = false := by
        rcases Bool.eq_false_or_eq_true (movD (msOf m j) (nwOf m j) (nnOf m j) (hsOf m (m 11 j)) d) with q | q
        · have := ((movD_iff hlen hh d).mp q).1
          rw [c2] at this; cases this
        · exact q
      rw [hS, this, Bool.and_false]
      rfl
  simp (disch := first | omega | assumption | (simp; done)) only [u_150_0, u_150_1, u_150_4, u_150_5, u_150_6, u_150_7, u_150_8, u_150_11, u_150_12, u_150_13, u_150_16, u_150_17, u_150_18, u_150_19, u_150_22, u_150_23, u_150_24, u_150_25, u_150_26, u_150_29, u_150_32, u_150_33, u_150_34, u_150_35, u_150_38, u_150_41, u_150_42, u_150_44, u_150_47, u_150_48, u_150_49, u_150_50, u_150_53, u_150_54, u_150_55, u_150_56, u_150_59, u_150_62, u_150_63, u_150_64, u_150_65, u_150_67, u_150_68, u_150_69, u_150_70, u_150_73, u_150_74, u_150_76, u_150_79, u_150_82, u_150_84, u_150_87, u_150_88, u_150_89, u_150_91, u_150_94, u_150_97, u_150_98, u_150_99, u_150_101, u_150_104, u_150_107, u_150_108, u_150_111, u_150_112, u_150_114, u_150_117, u_150_120, u_150_122, true_or, or_true, zk_li1_s, zk_ll1_s, zk_la1_r, zk_la1_n, zk_lg0, zk_lgs, zk_co_n, zk_co_i, zk_co_r, zk_co_u, zk_co_l, zk_l1_0, zk_l1_1, zk_l1_s, zk_l2_0, zk_l2_1, zk_l2_s, zk_sm0, zk_smi, zk_smr, zk_smn, zk_sml, zk_fi, zk_fz, zk_fo, zk_fn, zk_fa, zk_ts, zk_tn, zk_cases, true_and, and_true, List.getElem?_cons_zero, List.getElem?_cons_succ, List.length_cons, List.length_nil, Nat.reduceAdd, Nat.reduceLT, Nat.reduceLeDiff, List.set_cons_zero, List.set_cons_succ, va_rf, ic, iz_lit, mg_11 hB, mr_11 hB, mw_11 hB, mg_22 hB, mr_22 hB, mw_22 hB, iz_inj, fx m hr d (by omega), hx m hr d (by omega), bi_0, bi_1, bi_or]
  refine ⟨fun c => ⟨fun c2 => ?_, fun c2 => ⟨fun c3 => ?_, fun c3 => ?_⟩⟩, fun c => ?_⟩
  · refine rest c ?_ m hr
    unfold onS
    have : decide (d ∈ hsOf m (m 11 j)) = true := by simpa using c2
    rw [this, decide_eq_false c]
    simp
  · refine rest c ?_ _ (dtx_dt m d)
    unfold onS
    rw [c3]
    rfl
  · rw [← hQ]
    refine ⟨_, dtx_dt m d, ?_, rfl⟩
    rw [← hon]
    unfold onD onS
    have : fitD (msOf m j) (nwOf m j) (nnOf m j) d = true := by simpa using c3
    rw [this, c2]
    simp [bi]
  · rw [← hQ]
    refine ⟨_, dtx_dt m d, ?_, rfl⟩
    rw [← hon]
    unfold onD onS
    have : decide (m 22 j = 2) = false := by simp; omega
    rw [this, decide_eq_true c]
    simp
end MON
