/-! the small machine's runs, goal first -/
def zk_wp (G : zk_G) (y pc : Nat) (L : zk_L) (st : List Value) (h : zk_H) (Q : Option Value → zk_H → Prop) : Prop := ∃ (n : Nat) (r : Option Value) (h' : zk_H), zk_ex n G y pc L st h = some (r, h') ∧ Q r h'
theorem zk_ex_succ {G : zk_G} : ∀ (n y pc : Nat) (L : zk_L) (st : List Value) (h : zk_H) (q : Option Value × zk_H), zk_ex n G y pc L st h = some q → zk_ex (n + 1) G y pc L st h = some q := by
  intro n
  induction n with
  | zero => intro y pc L st h q hh; cases hh
  | succ n ih =>
    intro y pc L st h q hh
    unfold zk_ex at hh ⊢
    split at hh
    next => cases hh
    next ins len hft =>
      split at hh
      next yc As rest hinv =>
        split at hh
        next hl =>
          split at hh
          next r1 h1 h2 =>
            rw [if_pos hl, ih _ _ _ _ _ _ h2]
            exact ih _ _ _ _ _ _ hh
          next => cases hh
        next => cases hh
      next =>
        split at hh
        next => exact hh
        next =>
          split at hh
          next => exact ih _ _ _ _ _ _ hh
          next =>
            split at hh
            next st1 h1 hp =>
              split at hh
              next hl => rw [if_pos hl]; exact ih _ _ _ _ _ _ hh
              next => cases hh
            next =>
              split at hh
              next =>
                split at hh
                next hl => rw [if_pos hl]; exact ih _ _ _ _ _ _ hh
                next => cases hh
              next => cases hh
theorem zk_ex_le {G : zk_G} {n k y pc : Nat} {L : zk_L} {st : List Value} {h : zk_H} {q : Option Value × zk_H} (hk : n ≤ k) (hh : zk_ex n G y pc L st h = some q) : zk_ex k G y pc L st h = some q := by
  induction hk with
  | refl => exact hh
  | step _ ih => exact zk_ex_succ _ _ _ _ _ _ _ ih
def zk_wpI (G : zk_G) (y : Nat) (ins : Instr) (len pc : Nat) (L : zk_L) (st : List Value) (h : zk_H) (Q : Option Value → zk_H → Prop) : Prop := match zk_inv G y ins st h with
  | some (yc, As, rest) => len = 3 ∧ zk_wp G yc 0 (zk_ent (zk_ml yc) As) [] h (fun r h' => zk_wp G y (pc + 3) L (r.toList ++ rest) h' Q)
  | none => match zk_ret (zk_rt y) ins len st with
    | some r => Q r h
    | none => match zk_jump ins len pc st with
      | some (pc', st') => zk_wp G y pc' L st' h Q
      | none => match zk_heap G (zk_c y) (zk_ini y) (zk_lev y) ins st h with
        | some (st', h') => len = zk_len ins ∧ zk_wp G y (pc + len) L st' h' Q
        | none => match zk_pure ins L st with
          | some (L', st') => len = zk_len ins ∧ zk_wp G y (pc + len) L' st' h Q
          | none => False
theorem zk_wp_iff {G : zk_G} {y pc : Nat} {ins : Instr} {len : Nat} (hft : zk_ft y pc = some (ins, len)) {L : zk_L} {st : List Value} {h : zk_H} {Q : Option Value → zk_H → Prop} : zk_wp G y pc L st h Q ↔ zk_wpI G y ins len pc L st h Q := by
  constructor
  · rintro ⟨n, r, h', hex, hQ⟩
    cases n with
    | zero => cases hex
    | succ n =>
      unfold zk_ex at hex
      rw [hft] at hex
      dsimp only at hex
      unfold zk_wpI
      split at hex
      next yc As rest hinv =>
        rw [hinv]
        split at hex
        next hl =>
          split at hex
          next r1 h1 h2 => exact ⟨hl, n, r1, h1, h2, n, r, h', hex, hQ⟩
          next => cases hex
        next => cases hex
      next hinv =>
        rw [hinv]
        dsimp only
        split at hex
        next r1 hr => rw [hr]; cases hex; exact hQ
        next hr =>
          rw [hr]
          dsimp only
          split at hex
          next pc' st' hj => rw [hj]; exact ⟨n, r, h', hex, hQ⟩
          next hj =>
            rw [hj]
            dsimp only
            split at hex
            next st1 h1 hp =>
              rw [hp]
              split at hex
              next hl => exact ⟨hl, n, r, h', hex, hQ⟩
              next => cases hex
            next hp =>
              rw [hp]
              dsimp only
              split at hex
              next L1 st1 hq =>
                rw [hq]
                split at hex
                next hl => exact ⟨hl, n, r, h', hex, hQ⟩
                next => cases hex
              next => cases hex
  · intro hw
    unfold zk_wpI at hw
    split at hw
    next yc As rest hinv =>
      obtain ⟨hl, n1, r1, h1, e1, n2, r, h', e2, hQ⟩ := hw
      refine ⟨max n1 n2 + 1, r, h', ?_, hQ⟩
      unfold zk_ex
      rw [hft]
      dsimp only
      rw [hinv]
      dsimp only
      rw [if_pos hl, zk_ex_le (Nat.le_max_left n1 n2) e1]
      exact zk_ex_le (Nat.le_max_right n1 n2) e2
    next hinv =>
      split at hw
      next r1 hr =>
        refine ⟨1, r1, h, ?_, hw⟩
        unfold zk_ex
        rw [hft]
        dsimp only
        rw [hinv]
        dsimp only
        rw [hr]
      next hr =>
        split at hw
        next pc' st' hj =>
          obtain ⟨n, r, h', e, hQ⟩ := hw
          refine ⟨n + 1, r, h', ?_, hQ⟩
          unfold zk_ex
          rw [hft]
          dsimp only
          rw [hinv]
          dsimp only
          rw [hr]
          dsimp only
          rw [hj]
          exact e
        next hj =>
          split at hw
          next st1 h1 hp =>
            obtain ⟨hl, n, r, h', e, hQ⟩ := hw
            refine ⟨n + 1, r, h', ?_, hQ⟩
            unfold zk_ex
            rw [hft]
            dsimp only
            rw [hinv]
            dsimp only
            rw [hr]
            dsimp only
            rw [hj]
            dsimp only
            rw [hp]
            dsimp only
            rw [if_pos hl]
            exact e
          next hp =>
            split at hw
            next L1 st1 hq =>
              obtain ⟨hl, n, r, h', e, hQ⟩ := hw
              refine ⟨n + 1, r, h', ?_, hQ⟩
              unfold zk_ex
              rw [hft]
              dsimp only
              rw [hinv]
              dsimp only
              rw [hr]
              dsimp only
              rw [hj]
              dsimp only
              rw [hp]
              dsimp only
              rw [hq]
              dsimp only
              rw [if_pos hl]
              exact e
            next => exact hw.elim
theorem zk_wp_mono {G : zk_G} {y pc : Nat} {L : zk_L} {st : List Value} {h : zk_H} {Q Q' : Option Value → zk_H → Prop} (hw : zk_wp G y pc L st h Q) (hq : ∀ r h', Q r h' → Q' r h') : zk_wp G y pc L st h Q' := by
  obtain ⟨n, r, h', e, q⟩ := hw
  exact ⟨n, r, h', e, hq r h' q⟩
