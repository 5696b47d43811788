theorem zk_wy_in {y : Nat} {q : zk_Row} (hy : zk_MT0[y]? = some q) : ∀ w ∈ zk_wy y, w ∈ zk_tbl := by
  obtain ⟨hrow, hok⟩ := zk_row_at hy
  intro w hw
  rcases List.mem_cons.mp hw with rfl | hw
  · refine zk_tb ?_ rfl
    unfold zk_bc zk_ml zk_rt
    rw [hrow]
    exact hok.1
  · exact hw
theorem zk_fr_sp {y yc : Nat} {As rest : List Value} (h : zk_fr y yc As rest = true) : zk_lev yc < zk_lev y ∧ (lg_sl As).length ≤ zk_ml yc ∧ zk_sum rest ≤ 8 := by
  unfold zk_fr at h
  simp only [Bool.and_eq_true, decide_eq_true_eq] at h
  exact ⟨h.1.1, h.1.2, h.2⟩
set_option maxHeartbeats 4000000 in
theorem zk_body (l : Launch) (G : zk_G) (D : va_G) (dA : Nat → Nat) : ∀ n, zk_BW l G D dA n := by
  intro n
  induction n with
  | zero => intro y p e R s m args below meth c Q hx hb hml hown hts hin hS hfr hlo pc L st h H locs ls cells slots r h' hex; cases hex
  | succ n ih =>
    intro y p e R s m args below meth c Q hx hb hml hown hts hin hS hfr hlo pc L st h H locs ls cells slots r h' hex hl hL hP hF hRc hRs hret
    unfold zk_ex at hex
    split at hex
    next => cases hex
    next ins len hft =>
      have hd := zk_ft_sp hft
      split at hex
      next yc As rest hinv =>
        split at hex
        next hlen =>
          subst hlen
          split at hex
          next rc hc hcall =>
            have m1 := zk_mono _ _ _ _ _ _ _ _ hcall
            have m2 := zk_mono _ _ _ _ _ _ _ _ hex
            have e1 : cells + (hc.1.length - h.1.length) + (h'.1.length - hc.1.length) = cells + (h'.1.length - h.1.length) := by omega
            have e2 : slots + (hc.2 - h.2) + (h'.2 - hc.2) = slots + (h'.2 - h.2) := by omega
            have kk : zk_K p l e R s m args below meth c Q G D dA hc (cells + (hc.1.length - h.1.length)) (slots + (hc.2 - h.2)) (F0 m (pc + 3) ls (rc.toList ++ rest)) := by
              intro H1 locs1 hP1 hF1
              refine ih y p e R s m args below meth c Q hx hb hml hown hts hin hS hfr hlo (pc + 3) L _ hc H1 locs1 ls _ _ r h' hex hl hL hP1 hF1 (by rw [e1]; exact hRc) (by rw [e2]; exact hRs) ?_
              rw [e1, e2]
              exact hret
            have hf : cells + (hc.1.length - h.1.length) ≤ R.cells ∧ slots + (hc.2 - h.2) ≤ R.slots := ⟨by omega, by omega⟩
            have hPre : ∀ U : State, U.heap = H → s.WarmedH U.vm → zk_Pc G D dA As h As.toArray U := fun U hU hW => ⟨rfl, zk_S_moved hW (fun a h1 h2 => by rw [hU]; exact hF.2.1 a h1 h2) hS, by rw [hU]; exact hP⟩
            have hlsz : ls.size = zk_ml y := hl.1
            unfold zk_inv at hinv
            split at hinv
            next ix =>
              split at hinv
              next yc' hmk =>
                split at hinv
                next b rest' hdrop =>
                  split at hinv
                  next ci fs hrd =>
                    split at hinv
                    next hcond =>
                      cases hinv
                      obtain ⟨hci, hfr2⟩ := hcond
                      obtain ⟨f1, f2, f3⟩ := zk_fr_sp hfr2
                      obtain ⟨q, hy, hk⟩ := zk_mk_sp hmk
                      obtain ⟨hrow, hok⟩ := zk_row_at hy
                      have hml2 := zk_ml_le hy
                      rw [← hrow] at hok hk
                      obtain ⟨o1, o2, o3, o4, o5, o6, o7⟩ := hok
                      rcases hk with ⟨-, k1, k2, k3, k4⟩ | ⟨hk, -⟩ | ⟨hk, -⟩ | ⟨hk, -⟩
                      · have hM := zk_met ih hy hcall f2
                        have hna : ((st.take (zk_na yc)).reverse).length = zk_na yc := by
                          rw [List.length_reverse, List.length_take]
                          have : (st.drop (zk_na yc)).length = (Value.ref b :: rest).length := by rw [hdrop]
                          rw [List.length_drop] at this
                          simp only [List.length_cons] at this
                          omega
                        have hst : st = ((st.take (zk_na yc)).reverse).reverse ++ .ref b :: rest := by rw [List.reverse_reverse, ← hdrop, List.take_append_drop]
                        obtain ⟨q1, q2, q3⟩ := zk_rd_at (dA := dA) hrd
                        have hci10 : ci < 10 := by rw [hci]; exact k4
                        have hrecv := va_recv hS.1 hP.1 (zk_CL_at hci10) q1
                        have hcl : zk_cn ci = (zk_row yc).1.cls := by rw [hci]; exact o3.symm
                        refine zk_go (va_runV (As := (st.take (zk_na yc)).reverse) (rest := rest) (b := b) (C := (zk_row yc).1.cls) (n := zk_na yc) ⟨hx, hb, hml, hown, hts⟩ hM (cwV (zk_na yc) hts (zk_goodIn ?_) rfl rfl rfl ⟨rfl, o5, o6, o7⟩ ⟨?_, ?_⟩) ⟨zk_blind, ?_, hPre⟩ rfl hna hlsz hst ?_ hd hf) hF kk
                        · intro w hw
                          rcases List.mem_append.mp hw with hw | hw
                          · simp only [List.mem_cons, List.not_mem_nil, or_false] at hw
                            rcases hw with rfl | rfl | rfl | rfl
                            · exact zk_tb k1 rfl
                            · exact zk_tb k2 rfl
                            · exact zk_tb k3 rfl
                            · exact zk_tb o4 rfl
                          · exact zk_wy_in hy w hw
                        · show zk_lev yc + 1 ≤ R.frames
                          omega
                        · show 8 + (zk_ml yc + 11) + 40 * zk_lev yc ≤ R.locals
                          omega
                        · rw [← hcl]
                          exact hrecv
                        · show 2 * 0 + zk_sum rest ≤ 8
                          omega
                      · exact absurd hk (by omega)
                      · exact absurd hk (by omega)
                      · exact absurd hk (by omega)
                    next => cases hinv
                  next => cases hinv
                next => cases hinv
              next => cases hinv
            next ix =>
              split at hinv
              next yc' hmk =>
                split at hinv
                next hcond =>
                  cases hinv
                  obtain ⟨hle, hfr2⟩ := hcond
                  obtain ⟨f1, f2, f3⟩ := zk_fr_sp hfr2
                  obtain ⟨q, hy, hk⟩ := zk_mk_sp hmk
                  obtain ⟨hrow, hok⟩ := zk_row_at hy
                  have hml2 := zk_ml_le hy
                  rw [← hrow] at hok hk
                  obtain ⟨o1, o2, o3, o4, o5, o6, o7⟩ := hok
                  rcases hk with ⟨hk, -⟩ | ⟨-, k1, k2⟩ | ⟨hk, -⟩ | ⟨hk, -⟩
                  · exact absurd hk (by omega)
                  · have hM := zk_met ih hy hcall f2
                    have hna : ((st.take (zk_na yc)).reverse).length = zk_na yc := by
                      rw [List.length_reverse, List.length_take]
                      omega
                    have hst : st = ((st.take (zk_na yc)).reverse).reverse ++ st.drop (zk_na yc) := by rw [List.reverse_reverse, List.take_append_drop]
                    refine zk_go (va_runS (As := (st.take (zk_na yc)).reverse) (rest := st.drop (zk_na yc)) (n := zk_na yc) ⟨hx, hb, hml, hown, hts⟩ hM (va_cwS (zk_na yc) hts (zk_goodIn ?_) rfl rfl rfl ⟨o5, o6, o7⟩ ⟨?_, ?_⟩) ⟨zk_blind, hPre⟩ rfl hna hlsz hst ?_ hd hf) hF kk
                    · intro w hw
                      rcases List.mem_append.mp hw with hw | hw
                      · simp only [List.mem_cons, List.not_mem_nil, or_false] at hw
                        rcases hw with rfl | rfl | rfl
                        · exact zk_tb k1 rfl
                        · exact zk_tb k2 rfl
                        · exact zk_tb o4 rfl
                      · exact zk_wy_in hy w hw
                    · show zk_lev yc + 1 ≤ R.frames
                      omega
                    · show 8 + (zk_ml yc + 11) + 40 * zk_lev yc ≤ R.locals
                      omega
                    · show 2 * 0 + zk_sum (st.drop (zk_na yc)) ≤ 8
                      omega
                  · exact absurd hk (by omega)
                  · exact absurd hk (by omega)
                next => cases hinv
              next => cases hinv
            next ix =>
              split at hinv
              next k yc' hmk =>
                split at hinv
                next b rest' hdrop =>
                  split at hinv
                  next hcond =>
                    cases hinv
                    obtain ⟨hk2, hfr2⟩ := hcond
                    obtain ⟨f1, f2, f3⟩ := zk_fr_sp hfr2
                    obtain ⟨q, hy, hk⟩ := zk_mk_sp hmk
                    obtain ⟨hrow, hok⟩ := zk_row_at hy
                    have hml2 := zk_ml_le hy
                    rw [← hrow] at hok hk
                    obtain ⟨o1, o2, o3, o4, o5, o6, o7⟩ := hok
                    have hna : ((st.take (zk_na yc)).reverse).length = zk_na yc := by
                      rw [List.length_reverse, List.length_take]
                      have : (st.drop (zk_na yc)).length = (Value.ref b :: rest).length := by rw [hdrop]
                      rw [List.length_drop] at this
                      simp only [List.length_cons] at this
                      omega
                    have hst : st = ((st.take (zk_na yc)).reverse).reverse ++ .ref b :: rest := by rw [List.reverse_reverse, ← hdrop, List.take_append_drop]
                    have hR : (zk_rm yc (hc.1.length - h.1.length) (hc.2 - h.2)).frames + 1 ≤ R.frames ∧ 8 + (zk_ml yc + 11) + (zk_rm yc (hc.1.length - h.1.length) (hc.2 - h.2)).locals ≤ R.locals := by
                      constructor
                      · show zk_lev yc + 1 ≤ R.frames
                        omega
                      · show 8 + (zk_ml yc + 11) + 40 * zk_lev yc ≤ R.locals
                        omega
                    have hw8 : 2 * 0 + zk_sum rest ≤ 8 := by omega
                    rcases hk with ⟨hk, -⟩ | ⟨hk, -⟩ | ⟨-, k1, k2, k3, k4⟩ | ⟨-, k1, k2, k3, k4⟩
                    · exact absurd hk (by omega)
                    · exact absurd hk (by omega)
                    · have hM := zk_met ih hy hcall f2
                      have hrt : zk_wy yc = Cond.code (zk_row yc).1 (zk_bc yc) (zk_ml yc) none :: zk_tbl := by unfold zk_wy zk_rt; rw [k4]
                      exact zk_go (va_runI (As := (st.take (zk_na yc)).reverse) (rest := rest) (b := b) (n := zk_na yc) ⟨hx, hb, hml, hown, hts⟩ hM (cwI (zk_na yc) hts (zk_goodIn (zk_wy_in hy)) hrt rfl rfl (hts _ (zk_tb o4 rfl)) (hts _ (zk_tb k1 rfl)) (hts _ (zk_tb k2 rfl)) k3 ⟨o5, o6, o7⟩ hR) ⟨zk_blind, hPre⟩ rfl hna hlsz hst hw8 hd hf) hF kk
                    · have hM := zk_met ih hy hcall f2
                      have hrt : zk_wy yc = Cond.code (zk_row yc).1 (zk_bc yc) (zk_ml yc) none :: zk_tbl := by unfold zk_wy zk_rt; rw [k4]
                      exact zk_go (va_runIN (As := (st.take (zk_na yc)).reverse) (rest := rest) (b := b) (n := zk_na yc) ⟨hx, hb, hml, hown, hts⟩ hM ⟨va_cnB (zk_na yc) hts (zk_goodIn (zk_wy_in hy)) hrt rfl rfl (hS.2.1 _ k1 rfl) (hts _ (zk_tb o4 rfl)) ⟨o5, o6, o7⟩ hR, k3, hts _ (zk_tb k2 rfl)⟩ ⟨zk_blind, hPre⟩ rfl hna hlsz hst hw8 hd hf) hF kk
                  next => cases hinv
                next => cases hinv
              next => cases hinv
            next => cases hinv
          next => cases hex
        next => cases hex
      next =>
        split at hex
        next r1 hr1 =>
          cases hex
          have := hret pc ls st H locs ins len hd hr1 hP hF
          rw [Nat.sub_self, Nat.sub_self, Nat.add_zero, Nat.add_zero] at this
          exact this
        next =>
          split at hex
          next pc' st' hj => exact zk_jump_ok hx hb hd hj (ih y p e R s m args below meth c Q hx hb hml hown hts hin hS hfr hlo pc' L st' h H locs ls cells slots r h' hex hl hL hP hF hRc hRs hret)
          next =>
            split at hex
            next st' h1 hh =>
              split at hex
              next hlen =>
                subst hlen
                have m1 := zk_heap_mono hh
                have m2 := zk_mono _ _ _ _ _ _ _ _ hex
                have e1 : cells + (h1.1.length - h.1.length) + (h'.1.length - h1.1.length) = cells + (h'.1.length - h.1.length) := by omega
                have e2 : slots + (h1.2 - h.2) + (h'.2 - h1.2) = slots + (h'.2 - h.2) := by omega
                refine zk_heap_ok hx hb hml hl.1 hown hts hS hP hF hin hfr hlo hd hh (by omega) (by omega) ?_
                intro H1 locs1 hP1 hF1
                refine ih y p e R s m args below meth c Q hx hb hml hown hts hin hS hfr hlo _ L st' h1 H1 locs1 ls _ _ r h' hex hl hL hP1 hF1 (by rw [e1]; exact hRc) (by rw [e2]; exact hRs) ?_
                rw [e1, e2]
                exact hret
              next => cases hex
            next =>
              split at hex
              next L' st' hp =>
                split at hex
                next hlen =>
                  subst hlen
                  refine zk_pure_ok hx hb hd hp hl hL ?_
                  intro ls' hl' hL'
                  exact ih y p e R s m args below meth c Q hx hb hml hown hts hin hS hfr hlo _ L' st' h H locs ls' cells slots r h' hex hl' hL' hP hF hRc hRs hret
                next => cases hex
              next => cases hex
