/-! the class's cells as a function of its state s; its roles' addresses are ad -/
theorem up_ne (s : mS) {k k' : Nat} {z z' : Int} (v : Int) (h : ¬ (k' = k ∧ z' = z)) : up s k z v k' z' = s k' z' := by
  unfold up
  by_cases c : k' = k
  · rw [if_pos c, if_neg (fun q => h ⟨c, q⟩)]
  · rw [if_neg c]
theorem a8_1 (i k : Int) (hk : k ≠ 0) : (8 * i + k = 8 * i) = False := eq_false (by omega)
theorem a8_2 (i k : Int) (hk : k ≠ 0) : (8 * i = 8 * i + k) = False := eq_false (by omega)
def cv (ad : Int → Nat) (s : mS) (q : Nat × Nat × Int) : Value := if q.1 = 0 then .int (iz (s q.2.1 q.2.2)) else if q.1 = 1 then .ref (ad q.2.2) else if q.1 = 2 then .ref (ad (200 + s q.2.1 q.2.2)) else .int (iz q.2.2)
def rlim (p : Int) : Int := if p < 9 then (if p % 3 = 2 then 20 else 11) else if (p - 9) % 6 < 2 then 3 else if (p - 9) % 6 = 2 then 6 else if (p - 9) % 6 = 3 then 8 else 512
def cfs (r : Int) : Nat × List (Nat × Nat × Int) := if r = 0 then (8, [(1, 0, 1), (1, 0, 2), (1, 0, 3), (1, 0, 4), (1, 0, 5), (1, 0, 6), (0, 1, 0), (0, 10, 0), (0, 0, 0), (0, 52, 0)]) else if r = 6 then (2, [(1, 0, 7), (1, 0, 10 + 60), (1, 0, 10 + 61), (0, 53, 0), (0, 51, 0)]) else if r < 72 then (1, [(0, 54, 8 * (r - 10)), (0, 54, 8 * (r - 10) + 1), (0, 54, 8 * (r - 10) + 2), (0, 54, 8 * (r - 10) + 3), (0, 54, 8 * (r - 10) + 4), (0, 54, 8 * (r - 10) + 5), (0, 54, 8 * (r - 10) + 6), (0, 54, 8 * (r - 10) + 7)]) else if r < 136 then (3, [(1, 0, 140 + (r - 100)), (0, 30, (r - 100)), (0, 31, (r - 100)), (0, 32, (r - 100)), (0, 33, (r - 100)), (0, 62, (r - 100))]) else if r < 176 then (6, [(0, 36, (r - 140)), (0, 35, (r - 140)), (0, 63, (r - 140)), (0, 64, (r - 140)), (0, 65, (r - 140)), (0, 66, (r - 140)), (0, 67, (r - 140))]) else if r < 203 then (7, [(1, 0, 300 + 3 * (r - 200)), (1, 0, 300 + (3 * (r - 200) + 1)), (1, 0, 300 + (3 * (r - 200) + 2)), (1, 0, 210 + (r - 200))]) else if r < 232 then (0, [(1, 0, 240 + (r - 220)), (1, 0, 300 + (13 + 6 * (r - 220))), (1, 0, 300 + (14 + 6 * (r - 220))), (0, 23, (r - 220)), (0, 24, (r - 220)), (0, 25, (r - 220)), (0, 61, (r - 220)), (0, 44, (r - 220)), (0, 45, (r - 220))]) else if r < 252 then (5, [(2, 11, (r - 240)), (1, 0, 260 + (r - 240)), (1, 0, 300 + (9 + 6 * (r - 240))), (1, 0, 300 + (10 + 6 * (r - 240))), (1, 0, 300 + (11 + 6 * (r - 240))), (1, 0, 300 + (12 + 6 * (r - 240))), (0, 22, (r - 240))]) else (4, [(3, 0, rlim (r - 300)), (1, 0, 400 + (r - 300)), (0, 100, (r - 300))])
def own (k : Nat) (z : Int) : Int := if k = 54 then 10 + z / 8 else if k = 101 then 400 + z / 600 else if k = 60 then 210 + z / 20 else if k = 102 then 400 + z else if k = 100 then 300 + z else if k = 42 then 4 else if k = 43 then 5 else if k = 80 then 1 else if k = 81 then 2 else if k = 51 ∨ k = 53 then 6 else if k = 0 ∨ k = 1 ∨ k = 10 ∨ k = 52 then 0 else if (30 ≤ k ∧ k ≤ 33) ∨ k = 62 then 100 + z else if k = 35 ∨ k = 36 ∨ (63 ≤ k ∧ k ≤ 67) then 140 + z else if (23 ≤ k ∧ k ≤ 25) ∨ k = 61 ∨ k = 44 ∨ k = 45 then 220 + z else if k = 11 ∨ k = 22 then 240 + z else if 12 ≤ k ∧ k ≤ 16 then 260 + z else -1
def cca (ad : Int → Nat) (s : mS) (r : Int) : zk_E := if r = 1 then .inl (6, 3, .inr (.inr (.inr (.inr (fun x => if (x : Int) < s 80 0 then some (ad (200 + x)) else none))))) else if r = 2 then .inl (3, 12, .inr (.inr (.inr (.inr (fun x => if (x : Int) < s 81 0 then some (ad (220 + x)) else none))))) else if r = 3 then .inl (5, 36, .inr (.inr (.inr (.inr (fun x => if x < 36 then some (ad (100 + x)) else none))))) else if r = 7 then .inl (4, 60, .inr (.inr (.inr (.inr (fun x => if x < 60 then some (ad (10 + x)) else none))))) else if r = 4 then .inl (2, 3, .inl (fun x => iz (s 42 x))) else if r = 5 then .inl (2, 2, .inl (fun x => iz (s 43 x))) else if r < 213 then .inl (0, 20, .inl (fun x => if x < 20 then iz (s 60 (20 * (r - 210) + x)) else iz 0)) else if r < 272 then .inl (1, 5, .inr (.inl (fun x => if x < 5 then lz (s (12 + x) (r - 260)) else 0))) else .inl (0, (s 102 (r - 400)).toNat, .inl (fun x => if x < 600 then iz (s 101 (600 * (r - 400) + x)) else iz 0))
def aro (r : Int) : Bool := decide ((1 ≤ r ∧ r ≤ 5) ∨ r = 7 ∨ (210 ≤ r ∧ r < 213) ∨ (260 ≤ r ∧ r < 272) ∨ (400 ≤ r ∧ r < 481))
def uxb (nz nj r : Int) : Bool := decide ((0 ≤ r ∧ r ≤ 7) ∨ (10 ≤ r ∧ r ≤ 71) ∨ (100 ≤ r ∧ r < 136) ∨ (140 ≤ r ∧ r < 176) ∨ (200 ≤ r ∧ r < 200 + nz) ∨ (210 ≤ r ∧ r < 210 + nz) ∨ (220 ≤ r ∧ r < 220 + nj) ∨ (240 ≤ r ∧ r < 240 + nj) ∨ (260 ≤ r ∧ r < 260 + nj) ∨ (300 ≤ r ∧ r < 300 + 3 * nz) ∨ (309 ≤ r ∧ r < 309 + 6 * nj) ∨ (400 ≤ r ∧ r < 400 + 3 * nz) ∨ (409 ≤ r ∧ r < 409 + 6 * nj))
abbrev Ux (nz nj r : Int) : Prop := uxb nz nj r = true
theorem Ux_iff (nz nj r : Int) : Ux nz nj r ↔ ((0 ≤ r ∧ r ≤ 7) ∨ (10 ≤ r ∧ r ≤ 71) ∨ (100 ≤ r ∧ r < 136) ∨ (140 ≤ r ∧ r < 176) ∨ (200 ≤ r ∧ r < 200 + nz) ∨ (210 ≤ r ∧ r < 210 + nz) ∨ (220 ≤ r ∧ r < 220 + nj) ∨ (240 ≤ r ∧ r < 240 + nj) ∨ (260 ≤ r ∧ r < 260 + nj) ∨ (300 ≤ r ∧ r < 300 + 3 * nz) ∨ (309 ≤ r ∧ r < 309 + 6 * nj) ∨ (400 ≤ r ∧ r < 400 + 3 * nz) ∨ (409 ≤ r ∧ r < 409 + 6 * nj)) := by unfold Ux uxb; rw [decide_eq_true_iff]
theorem aro_t {r : Int} (h : (1 ≤ r ∧ r ≤ 5) ∨ r = 7 ∨ (210 ≤ r ∧ r < 213) ∨ (260 ≤ r ∧ r < 272) ∨ (400 ≤ r ∧ r < 481)) : aro r = true := decide_eq_true h
theorem aro_f {r : Int} (h : ¬ ((1 ≤ r ∧ r ≤ 5) ∨ r = 7 ∨ (210 ≤ r ∧ r < 213) ∨ (260 ≤ r ∧ r < 272) ∨ (400 ≤ r ∧ r < 481))) : aro r = false := decide_eq_false h
def ccl (ad : Int → Nat) (s : mS) (r : Int) : zk_E := if aro r = true then cca ad s r else .inr ((cfs r).1, (cfs r).2.map (cv ad s))
theorem own_ok (r : Int) (hr : Ux 3 12 r) (ha : aro r = false) : ∀ q ∈ (cfs r).2, q.1 = 0 ∨ q.1 = 2 → own q.2.1 q.2.2 = r := by
  have key : ∀ n : Nat, n < 500 → (uxb 3 12 (n : Int) && !aro (n : Int)) = true → ((cfs (n : Int)).2.all (fun q => !(q.1 == 0 || q.1 == 2) || decide (own q.2.1 q.2.2 = (n : Int)))) = true := by decide +kernel
  have hh := (Ux_iff 3 12 r).mp hr
  have k := key r.toNat (by omega)
  rw [show ((r.toNat : Nat) : Int) = r by omega] at k
  have hr2 : uxb 3 12 r = true := hr
  rw [hr2, ha] at k
  have k2 := k rfl
  rw [List.all_eq_true] at k2
  intro q hq hc
  have k3 := k2 q hq
  have e : (q.1 == 0 || q.1 == 2) = true := by rcases hc with c | c <;> rw [c] <;> rfl
  rw [e] at k3
  simpa using k3
theorem ccl_up {ad : Int → Nat} {s : mS} {k : Nat} {z v r : Int} (hr : Ux 3 12 r) (ho : own k z ≠ r) : ccl ad (up s k z v) r = ccl ad s r := by
  unfold ccl
  by_cases ha : aro r = true
  · rw [if_pos ha, if_pos ha]
    have ha' : (1 ≤ r ∧ r ≤ 5) ∨ r = 7 ∨ (210 ≤ r ∧ r < 213) ∨ (260 ≤ r ∧ r < 272) ∨ (400 ≤ r ∧ r < 481) := of_decide_eq_true ha
    unfold cca
    by_cases c1 : r = 1
    · rw [if_pos c1, if_pos c1, up_ne]
      rintro ⟨rfl, rfl⟩; exact ho (by rw [c1]; simp [own])
    rw [if_neg c1, if_neg c1]
    by_cases c2 : r = 2
    · rw [if_pos c2, if_pos c2, up_ne]
      rintro ⟨rfl, rfl⟩; exact ho (by rw [c2]; simp [own])
    rw [if_neg c2, if_neg c2]
    by_cases c3 : r = 3
    · rw [if_pos c3, if_pos c3]
    rw [if_neg c3, if_neg c3]
    by_cases c7 : r = 7
    · rw [if_pos c7, if_pos c7]
    rw [if_neg c7, if_neg c7]
    by_cases c4 : r = 4
    · rw [if_pos c4, if_pos c4]
      have : (fun x : Nat => iz (up s k z v 42 x)) = fun x : Nat => iz (s 42 x) := by
        funext x
        rw [up_ne]
        rintro ⟨rfl, rfl⟩; exact ho (by rw [c4]; simp [own])
      rw [this]
    rw [if_neg c4, if_neg c4]
    by_cases c5 : r = 5
    · rw [if_pos c5, if_pos c5]
      have : (fun x : Nat => iz (up s k z v 43 x)) = fun x : Nat => iz (s 43 x) := by
        funext x
        rw [up_ne]
        rintro ⟨rfl, rfl⟩; exact ho (by rw [c5]; simp [own])
      rw [this]
    rw [if_neg c5, if_neg c5]
    by_cases c6 : r < 213
    · rw [if_pos c6, if_pos c6]
      have : (fun x : Nat => if x < 20 then iz (up s k z v 60 (20 * (r - 210) + x)) else iz 0) = fun x : Nat => if x < 20 then iz (s 60 (20 * (r - 210) + x)) else iz 0 := by
        funext x
        by_cases cx : x < 20
        · rw [if_pos cx, if_pos cx, up_ne]
          rintro ⟨rfl, rfl⟩; exact ho (by simp [own]; omega)
        · rw [if_neg cx, if_neg cx]
      rw [this]
    rw [if_neg c6, if_neg c6]
    by_cases c8 : r < 272
    · rw [if_pos c8, if_pos c8]
      have : (fun x : Nat => if x < 5 then lz (up s k z v (12 + x) (r - 260)) else 0) = fun x : Nat => if x < 5 then lz (s (12 + x) (r - 260)) else 0 := by
        funext x
        by_cases cx : x < 5
        · rw [if_pos cx, if_pos cx, up_ne]
          rintro ⟨rfl, rfl⟩
          have : x = 0 ∨ x = 1 ∨ x = 2 ∨ x = 3 ∨ x = 4 := by omega
          rcases this with rfl | rfl | rfl | rfl | rfl <;> exact ho (by simp [own]; omega)
        · rw [if_neg cx, if_neg cx]
      rw [this]
    rw [if_neg c8, if_neg c8]
    have e1 : up s k z v 102 (r - 400) = s 102 (r - 400) := by
      rw [up_ne]
      rintro ⟨rfl, rfl⟩; exact ho (by simp [own]; omega)
    have e2 : (fun x : Nat => if x < 600 then iz (up s k z v 101 (600 * (r - 400) + x)) else iz 0) = fun x : Nat => if x < 600 then iz (s 101 (600 * (r - 400) + x)) else iz 0 := by
      funext x
      by_cases cx : x < 600
      · rw [if_pos cx, if_pos cx, up_ne]
        rintro ⟨rfl, rfl⟩; exact ho (by simp [own]; omega)
      · rw [if_neg cx, if_neg cx]
    rw [e1, e2]
  · rw [if_neg ha, if_neg ha]
    have ha' : aro r = false := by simpa using ha
    congr 2
    apply List.map_congr_left
    intro q hq
    have hq2 := own_ok r hr ha' q hq
    unfold cv
    by_cases c0 : q.1 = 0
    · rw [if_pos c0, if_pos c0, up_ne]
      rintro ⟨a1, a2⟩; exact ho (by rw [← a1, ← a2]; exact hq2 (Or.inl c0))
    · rw [if_neg c0, if_neg c0]
      by_cases c1 : q.1 = 1
      · rw [if_pos c1, if_pos c1]
      · rw [if_neg c1, if_neg c1]
        by_cases c2 : q.1 = 2
        · rw [if_pos c2, if_pos c2, up_ne]
          rintro ⟨a1, a2⟩; exact ho (by rw [← a1, ← a2]; exact hq2 (Or.inr c2))
        · rw [if_neg c2, if_neg c2]
noncomputable def cxo (nz nj : Int) (ad : Int → Nat) (s : mS) (a : Nat) : Option zk_E := @dite _ (∃ r, Ux nz nj r ∧ ad r = a) (Classical.propDecidable _) (fun h => some (ccl ad s (Classical.choose h))) (fun _ => none)
noncomputable def hx (G : zk_G) (B : zk_H) (nz nj : Int) (ad : Int → Nat) (s : mS) : zk_H := ov G B (cxo nz nj ad s)
def hxo (G : zk_G) (B : zk_H) (nz nj : Int) (ad : Int → Nat) : Prop := (0 ≤ nz ∧ nz ≤ 3 ∧ 0 ≤ nj ∧ nj ≤ 12) ∧ (∀ r, Ux nz nj r → G.1 ≤ ad r ∧ ad r < zk_nx G B) ∧ (∀ r r', Ux nz nj r → Ux nz nj r' → ad r = ad r' → r = r')
section HXM
variable {G : zk_G} {B : zk_H} {nz nj : Int} {ad : Int → Nat}
theorem Ux_mono (h : 0 ≤ nz ∧ nz ≤ 3 ∧ 0 ≤ nj ∧ nj ≤ 12) {r : Int} (hr : Ux nz nj r) : Ux 3 12 r := by
  rw [Ux_iff] at *
  omega
theorem cxo_in (hB : hxo G B nz nj ad) (s : mS) {r : Int} (hr : Ux nz nj r) : cxo nz nj ad s (ad r) = some (ccl ad s r) := by
  have e : ∃ r', Ux nz nj r' ∧ ad r' = ad r := ⟨r, hr, rfl⟩
  unfold cxo
  rw [dif_pos e]
  have h := Classical.choose_spec e
  rw [hB.2.2 _ _ h.1 hr h.2]
theorem cxo_out (s : mS) {a : Nat} (h : ∀ r, Ux nz nj r → ad r ≠ a) : cxo nz nj ad s a = none := by
  unfold cxo
  rw [dif_neg]
  rintro ⟨r, h1, h2⟩
  exact h r h1 h2
theorem hx_rd (hB : hxo G B nz nj ad) (s : mS) {r : Int} (hr : Ux nz nj r) : zk_rd G (hx G B nz nj ad s) (ad r) = some (ccl ad s r) := ov_rd1 (hB.2.1 r hr).1 (hB.2.1 r hr).2 (cxo_in hB s hr)
theorem hx_out (s : mS) {a : Nat} (h : ∀ r, Ux nz nj r → ad r ≠ a) : zk_rd G (hx G B nz nj ad s) a = zk_rd G B a := ov_rd0 (cxo_out s h)
theorem hx_wr (hB : hxo G B nz nj ad) (s s' : mS) {r : Int} (hr : Ux nz nj r) (h2 : ∀ q, Ux nz nj q → q ≠ r → ccl ad s' q = ccl ad s q) : zk_wr G (hx G B nz nj ad s) (ad r) (ccl ad s' r) = hx G B nz nj ad s' := by
  unfold hx
  rw [ov_wr (hB.2.1 r hr).1]
  congr 1
  funext b
  unfold upo
  by_cases c : b = ad r
  · subst c; rw [if_pos rfl, cxo_in hB s' hr]
  · rw [if_neg c]
    by_cases e : ∃ q, Ux nz nj q ∧ ad q = b
    · obtain ⟨q, q1, rfl⟩ := e
      rw [cxo_in hB s q1, cxo_in hB s' q1, h2 q q1 (fun w => c (by rw [w]))]
    · rw [cxo_out s (fun q h1 h3 => e ⟨q, h1, h3⟩), cxo_out s' (fun q h1 h3 => e ⟨q, h1, h3⟩)]
theorem hx_obj (hB : hxo G B nz nj ad) (s : mS) {r : Int} (hr : Ux nz nj r) (ha : aro r = false) : zk_rd G (hx G B nz nj ad s) (ad r) = some (.inr ((cfs r).1, (cfs r).2.map (cv ad s))) := by
  rw [hx_rd hB s hr]
  unfold ccl
  rw [if_neg (by rw [ha]; decide)]
theorem hx_arr (hB : hxo G B nz nj ad) (s : mS) {r : Int} (hr : Ux nz nj r) (ha : aro r = true) : zk_rd G (hx G B nz nj ad s) (ad r) = some (cca ad s r) := by
  rw [hx_rd hB s hr]
  unfold ccl
  rw [if_pos ha]
theorem hx_op (hB : hxo G B nz nj ad) (s : mS) {r : Int} (hr : Ux nz nj r) (ha : aro r = false) {ci : Nat} {l : List (Nat × Nat × Int)} (hc : cfs r = (ci, l)) (k c : Nat) (i : Int) (hk : k < l.length) (ho : own c i = r) (v : Int) (hu : (l.map (cv ad s)).set k (.int (iz v)) = l.map (cv ad (up s c i v))) (ty : FieldType) (hf : zk_fit ty (.int (iz v)) = true) (P : zk_H → Prop) : zk_op G (hx G B nz nj ad s) (ad r) ci k ty (.int (iz v)) P ↔ P (hx G B nz nj ad (up s c i v)) := by
  have h1 := hx_obj hB s hr ha
  rw [hc] at h1
  dsimp only at h1
  rw [zk_op_f h1, hu]
  have e : (Sum.inr (ci, l.map (cv ad (up s c i v))) : zk_E) = ccl ad (up s c i v) r := by
    unfold ccl
    rw [if_neg (by rw [ha]; decide), hc]
  rw [e, hx_wr hB s _ hr (fun q q1 q2 => ccl_up (Ux_mono hB.1 q1) (fun w => q2 (by rw [← w, ho])))]
  exact ⟨fun q => q.2.2, fun q => ⟨by simpa using hk, hf, q⟩⟩
theorem cfs_tk : cfs 0 = (8, [(1, 0, 1), (1, 0, 2), (1, 0, 3), (1, 0, 4), (1, 0, 5), (1, 0, 6), (0, 1, 0), (0, 10, 0), (0, 0, 0), (0, 52, 0)]) := rfl
theorem x_tk (hB : hxo G B nz nj ad) (s : mS) : zk_rd G (hx G B nz nj ad s) (ad 0) = some (.inr (8, [.ref (ad 1), .ref (ad 2), .ref (ad 3), .ref (ad 4), .ref (ad 5), .ref (ad 6), .int (iz (s 1 0)), .int (iz (s 10 0)), .int (iz (s 0 0)), .int (iz (s 52 0))])) := by
  have hn := hB.1
  rw [hx_obj hB s ((Ux_iff _ _ _).mpr (by omega)) (aro_f (by omega)), cfs_tk]
  rfl
theorem xi_tk (hB : hxo G B nz nj ad) (s : mS) : zk_ic G (hx G B nz nj ad s) (ad 0) 8 ↔ True := zk_ic_rd (x_tk hB s)
theorem xg_tk_0 (hB : hxo G B nz nj ad) (s : mS) (P : Value → Prop) : zk_og G (hx G B nz nj ad s) (ad 0) 8 0 P ↔ P (.ref (ad 1)) := zk_og_f (x_tk hB s) 0 P
theorem xg_tk_1 (hB : hxo G B nz nj ad) (s : mS) (P : Value → Prop) : zk_og G (hx G B nz nj ad s) (ad 0) 8 1 P ↔ P (.ref (ad 2)) := zk_og_f (x_tk hB s) 1 P
theorem xg_tk_2 (hB : hxo G B nz nj ad) (s : mS) (P : Value → Prop) : zk_og G (hx G B nz nj ad s) (ad 0) 8 2 P ↔ P (.ref (ad 3)) := zk_og_f (x_tk hB s) 2 P
theorem xg_tk_3 (hB : hxo G B nz nj ad) (s : mS) (P : Value → Prop) : zk_og G (hx G B nz nj ad s) (ad 0) 8 3 P ↔ P (.ref (ad 4)) := zk_og_f (x_tk hB s) 3 P
theorem xg_tk_4 (hB : hxo G B nz nj ad) (s : mS) (P : Value → Prop) : zk_og G (hx G B nz nj ad s) (ad 0) 8 4 P ↔ P (.ref (ad 5)) := zk_og_f (x_tk hB s) 4 P
theorem xg_tk_5 (hB : hxo G B nz nj ad) (s : mS) (P : Value → Prop) : zk_og G (hx G B nz nj ad s) (ad 0) 8 5 P ↔ P (.ref (ad 6)) := zk_og_f (x_tk hB s) 5 P
theorem xg_tk_6 (hB : hxo G B nz nj ad) (s : mS) (P : Value → Prop) : zk_og G (hx G B nz nj ad s) (ad 0) 8 6 P ↔ P (.int (iz (s 1 0))) := zk_og_f (x_tk hB s) 6 P
theorem xp_tk_6 (hB : hxo G B nz nj ad) (s : mS) (v : Int) (P : zk_H → Prop) : zk_op G (hx G B nz nj ad s) (ad 0) 8 6 .int (.int (iz v)) P ↔ P (hx G B nz nj ad (up s 1 0 v)) := by
  have hn := hB.1
  exact hx_op hB s ((Ux_iff _ _ _).mpr (by omega)) (aro_f (by omega)) (cfs_tk) 6 1 0 (by simp) (by simp [own]) v (by simp [cv, up, a8_1, a8_2]) .int rfl P
theorem xg_tk_7 (hB : hxo G B nz nj ad) (s : mS) (P : Value → Prop) : zk_og G (hx G B nz nj ad s) (ad 0) 8 7 P ↔ P (.int (iz (s 10 0))) := zk_og_f (x_tk hB s) 7 P
theorem xp_tk_7 (hB : hxo G B nz nj ad) (s : mS) (v : Int) (P : zk_H → Prop) : zk_op G (hx G B nz nj ad s) (ad 0) 8 7 .int (.int (iz v)) P ↔ P (hx G B nz nj ad (up s 10 0 v)) := by
  have hn := hB.1
  exact hx_op hB s ((Ux_iff _ _ _).mpr (by omega)) (aro_f (by omega)) (cfs_tk) 7 10 0 (by simp) (by simp [own]) v (by simp [cv, up, a8_1, a8_2]) .int rfl P
theorem xg_tk_8 (hB : hxo G B nz nj ad) (s : mS) (P : Value → Prop) : zk_og G (hx G B nz nj ad s) (ad 0) 8 8 P ↔ P (.int (iz (s 0 0))) := zk_og_f (x_tk hB s) 8 P
theorem xp_tk_8 (hB : hxo G B nz nj ad) (s : mS) (v : Int) (P : zk_H → Prop) : zk_op G (hx G B nz nj ad s) (ad 0) 8 8 .int (.int (iz v)) P ↔ P (hx G B nz nj ad (up s 0 0 v)) := by
  have hn := hB.1
  exact hx_op hB s ((Ux_iff _ _ _).mpr (by omega)) (aro_f (by omega)) (cfs_tk) 8 0 0 (by simp) (by simp [own]) v (by simp [cv, up, a8_1, a8_2]) .int rfl P
theorem xg_tk_9 (hB : hxo G B nz nj ad) (s : mS) (P : Value → Prop) : zk_og G (hx G B nz nj ad s) (ad 0) 8 9 P ↔ P (.int (iz (s 52 0))) := zk_og_f (x_tk hB s) 9 P
theorem xp_tk_9 (hB : hxo G B nz nj ad) (s : mS) (v : Int) (P : zk_H → Prop) : zk_op G (hx G B nz nj ad s) (ad 0) 8 9 .int (.int (iz v)) P ↔ P (hx G B nz nj ad (up s 52 0 v)) := by
  have hn := hB.1
  exact hx_op hB s ((Ux_iff _ _ _).mpr (by omega)) (aro_f (by omega)) (cfs_tk) 9 52 0 (by simp) (by simp [own]) v (by simp [cv, up, a8_1, a8_2]) .int rfl P
theorem cfs_ls : cfs 6 = (2, [(1, 0, 7), (1, 0, 10 + 60), (1, 0, 10 + 61), (0, 53, 0), (0, 51, 0)]) := rfl
theorem x_ls (hB : hxo G B nz nj ad) (s : mS) : zk_rd G (hx G B nz nj ad s) (ad 6) = some (.inr (2, [.ref (ad 7), .ref (ad (10 + 60)), .ref (ad (10 + 61)), .int (iz (s 53 0)), .int (iz (s 51 0))])) := by
  have hn := hB.1
  rw [hx_obj hB s ((Ux_iff _ _ _).mpr (by omega)) (aro_f (by omega)), cfs_ls]
  rfl
theorem xi_ls (hB : hxo G B nz nj ad) (s : mS) : zk_ic G (hx G B nz nj ad s) (ad 6) 2 ↔ True := zk_ic_rd (x_ls hB s)
theorem xg_ls_0 (hB : hxo G B nz nj ad) (s : mS) (P : Value → Prop) : zk_og G (hx G B nz nj ad s) (ad 6) 2 0 P ↔ P (.ref (ad 7)) := zk_og_f (x_ls hB s) 0 P
theorem xg_ls_1 (hB : hxo G B nz nj ad) (s : mS) (P : Value → Prop) : zk_og G (hx G B nz nj ad s) (ad 6) 2 1 P ↔ P (.ref (ad (10 + 60))) := zk_og_f (x_ls hB s) 1 P
theorem xg_ls_2 (hB : hxo G B nz nj ad) (s : mS) (P : Value → Prop) : zk_og G (hx G B nz nj ad s) (ad 6) 2 2 P ↔ P (.ref (ad (10 + 61))) := zk_og_f (x_ls hB s) 2 P
theorem xg_ls_3 (hB : hxo G B nz nj ad) (s : mS) (P : Value → Prop) : zk_og G (hx G B nz nj ad s) (ad 6) 2 3 P ↔ P (.int (iz (s 53 0))) := zk_og_f (x_ls hB s) 3 P
theorem xp_ls_3 (hB : hxo G B nz nj ad) (s : mS) (v : Int) (P : zk_H → Prop) : zk_op G (hx G B nz nj ad s) (ad 6) 2 3 .int (.int (iz v)) P ↔ P (hx G B nz nj ad (up s 53 0 v)) := by
  have hn := hB.1
  exact hx_op hB s ((Ux_iff _ _ _).mpr (by omega)) (aro_f (by omega)) (cfs_ls) 3 53 0 (by simp) (by simp [own]) v (by simp [cv, up, a8_1, a8_2]) .int rfl P
theorem xg_ls_4 (hB : hxo G B nz nj ad) (s : mS) (P : Value → Prop) : zk_og G (hx G B nz nj ad s) (ad 6) 2 4 P ↔ P (.int (iz (s 51 0))) := zk_og_f (x_ls hB s) 4 P
theorem xp_ls_4 (hB : hxo G B nz nj ad) (s : mS) (v : Int) (P : zk_H → Prop) : zk_op G (hx G B nz nj ad s) (ad 6) 2 4 .int (.int (iz v)) P ↔ P (hx G B nz nj ad (up s 51 0 v)) := by
  have hn := hB.1
  exact hx_op hB s ((Ux_iff _ _ _).mpr (by omega)) (aro_f (by omega)) (cfs_ls) 4 51 0 (by simp) (by simp [own]) v (by simp [cv, up, a8_1, a8_2]) .int rfl P
theorem cfs_le (i : Int) (hi : 0 ≤ i ∧ i < 62) : cfs (10 + i) = (1, [(0, 54, 8 * i), (0, 54, 8 * i + 1), (0, 54, 8 * i + 2), (0, 54, 8 * i + 3), (0, 54, 8 * i + 4), (0, 54, 8 * i + 5), (0, 54, 8 * i + 6), (0, 54, 8 * i + 7)]) := by
  unfold cfs
  rw [if_neg (by omega), if_neg (by omega), if_pos (by omega), show 10 + i - 10 = i by omega]
theorem x_le (hB : hxo G B nz nj ad) (s : mS) (i : Int) (hi : 0 ≤ i ∧ i < 62) : zk_rd G (hx G B nz nj ad s) (ad (10 + i)) = some (.inr (1, [.int (iz (s 54 (8 * i))), .int (iz (s 54 (8 * i + 1))), .int (iz (s 54 (8 * i + 2))), .int (iz (s 54 (8 * i + 3))), .int (iz (s 54 (8 * i + 4))), .int (iz (s 54 (8 * i + 5))), .int (iz (s 54 (8 * i + 6))), .int (iz (s 54 (8 * i + 7)))])) := by
  have hn := hB.1
  rw [hx_obj hB s ((Ux_iff _ _ _).mpr (by omega)) (aro_f (by omega)), cfs_le i (by have := hB.1; omega)]
  rfl
theorem xi_le (hB : hxo G B nz nj ad) (s : mS) (i : Int) (hi : 0 ≤ i ∧ i < 62) : zk_ic G (hx G B nz nj ad s) (ad (10 + i)) 1 ↔ True := zk_ic_rd (x_le hB s i hi)
theorem xg_le_0 (hB : hxo G B nz nj ad) (s : mS) (i : Int) (hi : 0 ≤ i ∧ i < 62) (P : Value → Prop) : zk_og G (hx G B nz nj ad s) (ad (10 + i)) 1 0 P ↔ P (.int (iz (s 54 (8 * i)))) := zk_og_f (x_le hB s i hi) 0 P
theorem xp_le_0 (hB : hxo G B nz nj ad) (s : mS) (i : Int) (hi : 0 ≤ i ∧ i < 62) (v : Int) (P : zk_H → Prop) : zk_op G (hx G B nz nj ad s) (ad (10 + i)) 1 0 .int (.int (iz v)) P ↔ P (hx G B nz nj ad (up s 54 (8 * i) v)) := by
  have hn := hB.1
  exact hx_op hB s ((Ux_iff _ _ _).mpr (by omega)) (aro_f (by omega)) (cfs_le i (by omega)) 0 54 (8 * i) (by simp) (by simp [own]) v (by simp [cv, up, a8_1, a8_2]) .int rfl P
theorem xg_le_1 (hB : hxo G B nz nj ad) (s : mS) (i : Int) (hi : 0 ≤ i ∧ i < 62) (P : Value → Prop) : zk_og G (hx G B nz nj ad s) (ad (10 + i)) 1 1 P ↔ P (.int (iz (s 54 (8 * i + 1)))) := zk_og_f (x_le hB s i hi) 1 P
theorem xp_le_1 (hB : hxo G B nz nj ad) (s : mS) (i : Int) (hi : 0 ≤ i ∧ i < 62) (v : Int) (P : zk_H → Prop) : zk_op G (hx G B nz nj ad s) (ad (10 + i)) 1 1 .int (.int (iz v)) P ↔ P (hx G B nz nj ad (up s 54 (8 * i + 1) v)) := by
  have hn := hB.1
  exact hx_op hB s ((Ux_iff _ _ _).mpr (by omega)) (aro_f (by omega)) (cfs_le i (by omega)) 1 54 (8 * i + 1) (by simp) (by simp [own]; omega) v (by simp [cv, up, a8_1, a8_2]) .int rfl P
theorem xg_le_2 (hB : hxo G B nz nj ad) (s : mS) (i : Int) (hi : 0 ≤ i ∧ i < 62) (P : Value → Prop) : zk_og G (hx G B nz nj ad s) (ad (10 + i)) 1 2 P ↔ P (.int (iz (s 54 (8 * i + 2)))) := zk_og_f (x_le hB s i hi) 2 P
theorem xp_le_2 (hB : hxo G B nz nj ad) (s : mS) (i : Int) (hi : 0 ≤ i ∧ i < 62) (v : Int) (P : zk_H → Prop) : zk_op G (hx G B nz nj ad s) (ad (10 + i)) 1 2 .int (.int (iz v)) P ↔ P (hx G B nz nj ad (up s 54 (8 * i + 2) v)) := by
  have hn := hB.1
  exact hx_op hB s ((Ux_iff _ _ _).mpr (by omega)) (aro_f (by omega)) (cfs_le i (by omega)) 2 54 (8 * i + 2) (by simp) (by simp [own]; omega) v (by simp [cv, up, a8_1, a8_2]) .int rfl P
theorem xg_le_3 (hB : hxo G B nz nj ad) (s : mS) (i : Int) (hi : 0 ≤ i ∧ i < 62) (P : Value → Prop) : zk_og G (hx G B nz nj ad s) (ad (10 + i)) 1 3 P ↔ P (.int (iz (s 54 (8 * i + 3)))) := zk_og_f (x_le hB s i hi) 3 P
theorem xp_le_3 (hB : hxo G B nz nj ad) (s : mS) (i : Int) (hi : 0 ≤ i ∧ i < 62) (v : Int) (P : zk_H → Prop) : zk_op G (hx G B nz nj ad s) (ad (10 + i)) 1 3 .int (.int (iz v)) P ↔ P (hx G B nz nj ad (up s 54 (8 * i + 3) v)) := by
  have hn := hB.1
  exact hx_op hB s ((Ux_iff _ _ _).mpr (by omega)) (aro_f (by omega)) (cfs_le i (by omega)) 3 54 (8 * i + 3) (by simp) (by simp [own]; omega) v (by simp [cv, up, a8_1, a8_2]) .int rfl P
theorem xg_le_4 (hB : hxo G B nz nj ad) (s : mS) (i : Int) (hi : 0 ≤ i ∧ i < 62) (P : Value → Prop) : zk_og G (hx G B nz nj ad s) (ad (10 + i)) 1 4 P ↔ P (.int (iz (s 54 (8 * i + 4)))) := zk_og_f (x_le hB s i hi) 4 P
theorem xp_le_4 (hB : hxo G B nz nj ad) (s : mS) (i : Int) (hi : 0 ≤ i ∧ i < 62) (v : Int) (P : zk_H → Prop) : zk_op G (hx G B nz nj ad s) (ad (10 + i)) 1 4 .int (.int (iz v)) P ↔ P (hx G B nz nj ad (up s 54 (8 * i + 4) v)) := by
  have hn := hB.1
  exact hx_op hB s ((Ux_iff _ _ _).mpr (by omega)) (aro_f (by omega)) (cfs_le i (by omega)) 4 54 (8 * i + 4) (by simp) (by simp [own]; omega) v (by simp [cv, up, a8_1, a8_2]) .int rfl P
theorem xg_le_5 (hB : hxo G B nz nj ad) (s : mS) (i : Int) (hi : 0 ≤ i ∧ i < 62) (P : Value → Prop) : zk_og G (hx G B nz nj ad s) (ad (10 + i)) 1 5 P ↔ P (.int (iz (s 54 (8 * i + 5)))) := zk_og_f (x_le hB s i hi) 5 P
theorem xp_le_5 (hB : hxo G B nz nj ad) (s : mS) (i : Int) (hi : 0 ≤ i ∧ i < 62) (v : Int) (P : zk_H → Prop) : zk_op G (hx G B nz nj ad s) (ad (10 + i)) 1 5 .int (.int (iz v)) P ↔ P (hx G B nz nj ad (up s 54 (8 * i + 5) v)) := by
  have hn := hB.1
  exact hx_op hB s ((Ux_iff _ _ _).mpr (by omega)) (aro_f (by omega)) (cfs_le i (by omega)) 5 54 (8 * i + 5) (by simp) (by simp [own]; omega) v (by simp [cv, up, a8_1, a8_2]) .int rfl P
theorem xg_le_6 (hB : hxo G B nz nj ad) (s : mS) (i : Int) (hi : 0 ≤ i ∧ i < 62) (P : Value → Prop) : zk_og G (hx G B nz nj ad s) (ad (10 + i)) 1 6 P ↔ P (.int (iz (s 54 (8 * i + 6)))) := zk_og_f (x_le hB s i hi) 6 P
theorem xp_le_6 (hB : hxo G B nz nj ad) (s : mS) (i : Int) (hi : 0 ≤ i ∧ i < 62) (v : Int) (P : zk_H → Prop) : zk_op G (hx G B nz nj ad s) (ad (10 + i)) 1 6 .int (.int (iz v)) P ↔ P (hx G B nz nj ad (up s 54 (8 * i + 6) v)) := by
  have hn := hB.1
  exact hx_op hB s ((Ux_iff _ _ _).mpr (by omega)) (aro_f (by omega)) (cfs_le i (by omega)) 6 54 (8 * i + 6) (by simp) (by simp [own]; omega) v (by simp [cv, up, a8_1, a8_2]) .int rfl P
theorem xg_le_7 (hB : hxo G B nz nj ad) (s : mS) (i : Int) (hi : 0 ≤ i ∧ i < 62) (P : Value → Prop) : zk_og G (hx G B nz nj ad s) (ad (10 + i)) 1 7 P ↔ P (.int (iz (s 54 (8 * i + 7)))) := zk_og_f (x_le hB s i hi) 7 P
theorem xp_le_7 (hB : hxo G B nz nj ad) (s : mS) (i : Int) (hi : 0 ≤ i ∧ i < 62) (v : Int) (P : zk_H → Prop) : zk_op G (hx G B nz nj ad s) (ad (10 + i)) 1 7 .int (.int (iz v)) P ↔ P (hx G B nz nj ad (up s 54 (8 * i + 7) v)) := by
  have hn := hB.1
  exact hx_op hB s ((Ux_iff _ _ _).mpr (by omega)) (aro_f (by omega)) (cfs_le i (by omega)) 7 54 (8 * i + 7) (by simp) (by simp [own]; omega) v (by simp [cv, up, a8_1, a8_2]) .int rfl P
theorem cfs_re (i : Int) (hi : 0 ≤ i ∧ i < 36) : cfs (100 + i) = (3, [(1, 0, 140 + i), (0, 30, i), (0, 31, i), (0, 32, i), (0, 33, i), (0, 62, i)]) := by
  unfold cfs
  rw [if_neg (by omega), if_neg (by omega), if_neg (by omega), if_pos (by omega), show 100 + i - 100 = i by omega]
theorem x_re (hB : hxo G B nz nj ad) (s : mS) (i : Int) (hi : 0 ≤ i ∧ i < 36) : zk_rd G (hx G B nz nj ad s) (ad (100 + i)) = some (.inr (3, [.ref (ad (140 + i)), .int (iz (s 30 i)), .int (iz (s 31 i)), .int (iz (s 32 i)), .int (iz (s 33 i)), .int (iz (s 62 i))])) := by
  have hn := hB.1
  rw [hx_obj hB s ((Ux_iff _ _ _).mpr (by omega)) (aro_f (by omega)), cfs_re i (by have := hB.1; omega)]
  rfl
theorem xi_re (hB : hxo G B nz nj ad) (s : mS) (i : Int) (hi : 0 ≤ i ∧ i < 36) : zk_ic G (hx G B nz nj ad s) (ad (100 + i)) 3 ↔ True := zk_ic_rd (x_re hB s i hi)
theorem xg_re_0 (hB : hxo G B nz nj ad) (s : mS) (i : Int) (hi : 0 ≤ i ∧ i < 36) (P : Value → Prop) : zk_og G (hx G B nz nj ad s) (ad (100 + i)) 3 0 P ↔ P (.ref (ad (140 + i))) := zk_og_f (x_re hB s i hi) 0 P
theorem xg_re_1 (hB : hxo G B nz nj ad) (s : mS) (i : Int) (hi : 0 ≤ i ∧ i < 36) (P : Value → Prop) : zk_og G (hx G B nz nj ad s) (ad (100 + i)) 3 1 P ↔ P (.int (iz (s 30 i))) := zk_og_f (x_re hB s i hi) 1 P
theorem xp_re_1 (hB : hxo G B nz nj ad) (s : mS) (i : Int) (hi : 0 ≤ i ∧ i < 36) (v : Int) (P : zk_H → Prop) : zk_op G (hx G B nz nj ad s) (ad (100 + i)) 3 1 .int (.int (iz v)) P ↔ P (hx G B nz nj ad (up s 30 i v)) := by
  have hn := hB.1
  exact hx_op hB s ((Ux_iff _ _ _).mpr (by omega)) (aro_f (by omega)) (cfs_re i (by omega)) 1 30 i (by simp) (by simp [own]) v (by simp [cv, up, a8_1, a8_2]) .int rfl P
theorem xg_re_2 (hB : hxo G B nz nj ad) (s : mS) (i : Int) (hi : 0 ≤ i ∧ i < 36) (P : Value → Prop) : zk_og G (hx G B nz nj ad s) (ad (100 + i)) 3 2 P ↔ P (.int (iz (s 31 i))) := zk_og_f (x_re hB s i hi) 2 P
theorem xp_re_2 (hB : hxo G B nz nj ad) (s : mS) (i : Int) (hi : 0 ≤ i ∧ i < 36) (v : Int) (P : zk_H → Prop) : zk_op G (hx G B nz nj ad s) (ad (100 + i)) 3 2 .int (.int (iz v)) P ↔ P (hx G B nz nj ad (up s 31 i v)) := by
  have hn := hB.1
  exact hx_op hB s ((Ux_iff _ _ _).mpr (by omega)) (aro_f (by omega)) (cfs_re i (by omega)) 2 31 i (by simp) (by simp [own]) v (by simp [cv, up, a8_1, a8_2]) .int rfl P
theorem xg_re_3 (hB : hxo G B nz nj ad) (s : mS) (i : Int) (hi : 0 ≤ i ∧ i < 36) (P : Value → Prop) : zk_og G (hx G B nz nj ad s) (ad (100 + i)) 3 3 P ↔ P (.int (iz (s 32 i))) := zk_og_f (x_re hB s i hi) 3 P
theorem xp_re_3 (hB : hxo G B nz nj ad) (s : mS) (i : Int) (hi : 0 ≤ i ∧ i < 36) (v : Int) (P : zk_H → Prop) : zk_op G (hx G B nz nj ad s) (ad (100 + i)) 3 3 .int (.int (iz v)) P ↔ P (hx G B nz nj ad (up s 32 i v)) := by
  have hn := hB.1
  exact hx_op hB s ((Ux_iff _ _ _).mpr (by omega)) (aro_f (by omega)) (cfs_re i (by omega)) 3 32 i (by simp) (by simp [own]) v (by simp [cv, up, a8_1, a8_2]) .int rfl P
theorem xg_re_4 (hB : hxo G B nz nj ad) (s : mS) (i : Int) (hi : 0 ≤ i ∧ i < 36) (P : Value → Prop) : zk_og G (hx G B nz nj ad s) (ad (100 + i)) 3 4 P ↔ P (.int (iz (s 33 i))) := zk_og_f (x_re hB s i hi) 4 P
theorem xp_re_4 (hB : hxo G B nz nj ad) (s : mS) (i : Int) (hi : 0 ≤ i ∧ i < 36) (v : Int) (P : zk_H → Prop) : zk_op G (hx G B nz nj ad s) (ad (100 + i)) 3 4 .int (.int (iz v)) P ↔ P (hx G B nz nj ad (up s 33 i v)) := by
  have hn := hB.1
  exact hx_op hB s ((Ux_iff _ _ _).mpr (by omega)) (aro_f (by omega)) (cfs_re i (by omega)) 4 33 i (by simp) (by simp [own]) v (by simp [cv, up, a8_1, a8_2]) .int rfl P
theorem xg_re_5 (hB : hxo G B nz nj ad) (s : mS) (i : Int) (hi : 0 ≤ i ∧ i < 36) (P : Value → Prop) : zk_og G (hx G B nz nj ad s) (ad (100 + i)) 3 5 P ↔ P (.int (iz (s 62 i))) := zk_og_f (x_re hB s i hi) 5 P
theorem xp_re_5 (hB : hxo G B nz nj ad) (s : mS) (i : Int) (hi : 0 ≤ i ∧ i < 36) (v : Int) (P : zk_H → Prop) : zk_op G (hx G B nz nj ad s) (ad (100 + i)) 3 5 .int (.int (iz v)) P ↔ P (hx G B nz nj ad (up s 62 i v)) := by
  have hn := hB.1
  exact hx_op hB s ((Ux_iff _ _ _).mpr (by omega)) (aro_f (by omega)) (cfs_re i (by omega)) 5 62 i (by simp) (by simp [own]) v (by simp [cv, up, a8_1, a8_2]) .int rfl P
theorem cfs_ru (i : Int) (hi : 0 ≤ i ∧ i < 36) : cfs (140 + i) = (6, [(0, 36, i), (0, 35, i), (0, 63, i), (0, 64, i), (0, 65, i), (0, 66, i), (0, 67, i)]) := by
  unfold cfs
  rw [if_neg (by omega), if_neg (by omega), if_neg (by omega), if_neg (by omega), if_pos (by omega), show 140 + i - 140 = i by omega]
theorem x_ru (hB : hxo G B nz nj ad) (s : mS) (i : Int) (hi : 0 ≤ i ∧ i < 36) : zk_rd G (hx G B nz nj ad s) (ad (140 + i)) = some (.inr (6, [.int (iz (s 36 i)), .int (iz (s 35 i)), .int (iz (s 63 i)), .int (iz (s 64 i)), .int (iz (s 65 i)), .int (iz (s 66 i)), .int (iz (s 67 i))])) := by
  have hn := hB.1
  rw [hx_obj hB s ((Ux_iff _ _ _).mpr (by omega)) (aro_f (by omega)), cfs_ru i (by have := hB.1; omega)]
  rfl
theorem xi_ru (hB : hxo G B nz nj ad) (s : mS) (i : Int) (hi : 0 ≤ i ∧ i < 36) : zk_ic G (hx G B nz nj ad s) (ad (140 + i)) 6 ↔ True := zk_ic_rd (x_ru hB s i hi)
theorem xg_ru_0 (hB : hxo G B nz nj ad) (s : mS) (i : Int) (hi : 0 ≤ i ∧ i < 36) (P : Value → Prop) : zk_og G (hx G B nz nj ad s) (ad (140 + i)) 6 0 P ↔ P (.int (iz (s 36 i))) := zk_og_f (x_ru hB s i hi) 0 P
theorem xp_ru_0 (hB : hxo G B nz nj ad) (s : mS) (i : Int) (hi : 0 ≤ i ∧ i < 36) (v : Int) (P : zk_H → Prop) : zk_op G (hx G B nz nj ad s) (ad (140 + i)) 6 0 .int (.int (iz v)) P ↔ P (hx G B nz nj ad (up s 36 i v)) := by
  have hn := hB.1
  exact hx_op hB s ((Ux_iff _ _ _).mpr (by omega)) (aro_f (by omega)) (cfs_ru i (by omega)) 0 36 i (by simp) (by simp [own]) v (by simp [cv, up, a8_1, a8_2]) .int rfl P
theorem xg_ru_1 (hB : hxo G B nz nj ad) (s : mS) (i : Int) (hi : 0 ≤ i ∧ i < 36) (P : Value → Prop) : zk_og G (hx G B nz nj ad s) (ad (140 + i)) 6 1 P ↔ P (.int (iz (s 35 i))) := zk_og_f (x_ru hB s i hi) 1 P
theorem xp_ru_1 (hB : hxo G B nz nj ad) (s : mS) (i : Int) (hi : 0 ≤ i ∧ i < 36) (v : Int) (P : zk_H → Prop) : zk_op G (hx G B nz nj ad s) (ad (140 + i)) 6 1 .int (.int (iz v)) P ↔ P (hx G B nz nj ad (up s 35 i v)) := by
  have hn := hB.1
  exact hx_op hB s ((Ux_iff _ _ _).mpr (by omega)) (aro_f (by omega)) (cfs_ru i (by omega)) 1 35 i (by simp) (by simp [own]) v (by simp [cv, up, a8_1, a8_2]) .int rfl P
theorem xg_ru_2 (hB : hxo G B nz nj ad) (s : mS) (i : Int) (hi : 0 ≤ i ∧ i < 36) (P : Value → Prop) : zk_og G (hx G B nz nj ad s) (ad (140 + i)) 6 2 P ↔ P (.int (iz (s 63 i))) := zk_og_f (x_ru hB s i hi) 2 P
theorem xp_ru_2 (hB : hxo G B nz nj ad) (s : mS) (i : Int) (hi : 0 ≤ i ∧ i < 36) (v : Int) (P : zk_H → Prop) : zk_op G (hx G B nz nj ad s) (ad (140 + i)) 6 2 .int (.int (iz v)) P ↔ P (hx G B nz nj ad (up s 63 i v)) := by
  have hn := hB.1
  exact hx_op hB s ((Ux_iff _ _ _).mpr (by omega)) (aro_f (by omega)) (cfs_ru i (by omega)) 2 63 i (by simp) (by simp [own]) v (by simp [cv, up, a8_1, a8_2]) .int rfl P
theorem xg_ru_3 (hB : hxo G B nz nj ad) (s : mS) (i : Int) (hi : 0 ≤ i ∧ i < 36) (P : Value → Prop) : zk_og G (hx G B nz nj ad s) (ad (140 + i)) 6 3 P ↔ P (.int (iz (s 64 i))) := zk_og_f (x_ru hB s i hi) 3 P
theorem xp_ru_3 (hB : hxo G B nz nj ad) (s : mS) (i : Int) (hi : 0 ≤ i ∧ i < 36) (v : Int) (P : zk_H → Prop) : zk_op G (hx G B nz nj ad s) (ad (140 + i)) 6 3 .int (.int (iz v)) P ↔ P (hx G B nz nj ad (up s 64 i v)) := by
  have hn := hB.1
  exact hx_op hB s ((Ux_iff _ _ _).mpr (by omega)) (aro_f (by omega)) (cfs_ru i (by omega)) 3 64 i (by simp) (by simp [own]) v (by simp [cv, up, a8_1, a8_2]) .int rfl P
theorem xg_ru_4 (hB : hxo G B nz nj ad) (s : mS) (i : Int) (hi : 0 ≤ i ∧ i < 36) (P : Value → Prop) : zk_og G (hx G B nz nj ad s) (ad (140 + i)) 6 4 P ↔ P (.int (iz (s 65 i))) := zk_og_f (x_ru hB s i hi) 4 P
theorem xp_ru_4 (hB : hxo G B nz nj ad) (s : mS) (i : Int) (hi : 0 ≤ i ∧ i < 36) (v : Int) (P : zk_H → Prop) : zk_op G (hx G B nz nj ad s) (ad (140 + i)) 6 4 .int (.int (iz v)) P ↔ P (hx G B nz nj ad (up s 65 i v)) := by
  have hn := hB.1
  exact hx_op hB s ((Ux_iff _ _ _).mpr (by omega)) (aro_f (by omega)) (cfs_ru i (by omega)) 4 65 i (by simp) (by simp [own]) v (by simp [cv, up, a8_1, a8_2]) .int rfl P
theorem xg_ru_5 (hB : hxo G B nz nj ad) (s : mS) (i : Int) (hi : 0 ≤ i ∧ i < 36) (P : Value → Prop) : zk_og G (hx G B nz nj ad s) (ad (140 + i)) 6 5 P ↔ P (.int (iz (s 66 i))) := zk_og_f (x_ru hB s i hi) 5 P
theorem xp_ru_5 (hB : hxo G B nz nj ad) (s : mS) (i : Int) (hi : 0 ≤ i ∧ i < 36) (v : Int) (P : zk_H → Prop) : zk_op G (hx G B nz nj ad s) (ad (140 + i)) 6 5 .int (.int (iz v)) P ↔ P (hx G B nz nj ad (up s 66 i v)) := by
  have hn := hB.1
  exact hx_op hB s ((Ux_iff _ _ _).mpr (by omega)) (aro_f (by omega)) (cfs_ru i (by omega)) 5 66 i (by simp) (by simp [own]) v (by simp [cv, up, a8_1, a8_2]) .int rfl P
theorem xg_ru_6 (hB : hxo G B nz nj ad) (s : mS) (i : Int) (hi : 0 ≤ i ∧ i < 36) (P : Value → Prop) : zk_og G (hx G B nz nj ad s) (ad (140 + i)) 6 6 P ↔ P (.int (iz (s 67 i))) := zk_og_f (x_ru hB s i hi) 6 P
theorem xp_ru_6 (hB : hxo G B nz nj ad) (s : mS) (i : Int) (hi : 0 ≤ i ∧ i < 36) (v : Int) (hv : v = 0 ∨ v = 1) (P : zk_H → Prop) : zk_op G (hx G B nz nj ad s) (ad (140 + i)) 6 6 .boolean (.int (iz v)) P ↔ P (hx G B nz nj ad (up s 67 i v)) := by
  have hn := hB.1
  exact hx_op hB s ((Ux_iff _ _ _).mpr (by omega)) (aro_f (by omega)) (cfs_ru i (by omega)) 6 67 i (by simp) (by simp [own]) v (by simp [cv, up, a8_1, a8_2]) .boolean (by rcases hv with rfl | rfl <;> rfl) P
theorem cfs_zo (i : Int) (hi : 0 ≤ i ∧ i < 3) : cfs (200 + i) = (7, [(1, 0, 300 + 3 * i), (1, 0, 300 + (3 * i + 1)), (1, 0, 300 + (3 * i + 2)), (1, 0, 210 + i)]) := by
  unfold cfs
  rw [if_neg (by omega), if_neg (by omega), if_neg (by omega), if_neg (by omega), if_neg (by omega), if_pos (by omega), show 200 + i - 200 = i by omega]
theorem x_zo (hB : hxo G B nz nj ad) (s : mS) (i : Int) (hi : 0 ≤ i ∧ i < nz) : zk_rd G (hx G B nz nj ad s) (ad (200 + i)) = some (.inr (7, [.ref (ad (300 + 3 * i)), .ref (ad (300 + (3 * i + 1))), .ref (ad (300 + (3 * i + 2))), .ref (ad (210 + i))])) := by
  have hn := hB.1
  rw [hx_obj hB s ((Ux_iff _ _ _).mpr (by omega)) (aro_f (by omega)), cfs_zo i (by have := hB.1; omega)]
  rfl
theorem xi_zo (hB : hxo G B nz nj ad) (s : mS) (i : Int) (hi : 0 ≤ i ∧ i < nz) : zk_ic G (hx G B nz nj ad s) (ad (200 + i)) 7 ↔ True := zk_ic_rd (x_zo hB s i hi)
theorem xg_zo_0 (hB : hxo G B nz nj ad) (s : mS) (i : Int) (hi : 0 ≤ i ∧ i < nz) (P : Value → Prop) : zk_og G (hx G B nz nj ad s) (ad (200 + i)) 7 0 P ↔ P (.ref (ad (300 + 3 * i))) := zk_og_f (x_zo hB s i hi) 0 P
theorem xg_zo_1 (hB : hxo G B nz nj ad) (s : mS) (i : Int) (hi : 0 ≤ i ∧ i < nz) (P : Value → Prop) : zk_og G (hx G B nz nj ad s) (ad (200 + i)) 7 1 P ↔ P (.ref (ad (300 + (3 * i + 1)))) := zk_og_f (x_zo hB s i hi) 1 P
theorem xg_zo_2 (hB : hxo G B nz nj ad) (s : mS) (i : Int) (hi : 0 ≤ i ∧ i < nz) (P : Value → Prop) : zk_og G (hx G B nz nj ad s) (ad (200 + i)) 7 2 P ↔ P (.ref (ad (300 + (3 * i + 2)))) := zk_og_f (x_zo hB s i hi) 2 P
theorem xg_zo_3 (hB : hxo G B nz nj ad) (s : mS) (i : Int) (hi : 0 ≤ i ∧ i < nz) (P : Value → Prop) : zk_og G (hx G B nz nj ad s) (ad (200 + i)) 7 3 P ↔ P (.ref (ad (210 + i))) := zk_og_f (x_zo hB s i hi) 3 P
theorem cfs_jo (i : Int) (hi : 0 ≤ i ∧ i < 12) : cfs (220 + i) = (0, [(1, 0, 240 + i), (1, 0, 300 + (13 + 6 * i)), (1, 0, 300 + (14 + 6 * i)), (0, 23, i), (0, 24, i), (0, 25, i), (0, 61, i), (0, 44, i), (0, 45, i)]) := by
  unfold cfs
  rw [if_neg (by omega), if_neg (by omega), if_neg (by omega), if_neg (by omega), if_neg (by omega), if_neg (by omega), if_pos (by omega), show 220 + i - 220 = i by omega]
theorem x_jo (hB : hxo G B nz nj ad) (s : mS) (i : Int) (hi : 0 ≤ i ∧ i < nj) : zk_rd G (hx G B nz nj ad s) (ad (220 + i)) = some (.inr (0, [.ref (ad (240 + i)), .ref (ad (300 + (13 + 6 * i))), .ref (ad (300 + (14 + 6 * i))), .int (iz (s 23 i)), .int (iz (s 24 i)), .int (iz (s 25 i)), .int (iz (s 61 i)), .int (iz (s 44 i)), .int (iz (s 45 i))])) := by
  have hn := hB.1
  rw [hx_obj hB s ((Ux_iff _ _ _).mpr (by omega)) (aro_f (by omega)), cfs_jo i (by have := hB.1; omega)]
  rfl
theorem xi_jo (hB : hxo G B nz nj ad) (s : mS) (i : Int) (hi : 0 ≤ i ∧ i < nj) : zk_ic G (hx G B nz nj ad s) (ad (220 + i)) 0 ↔ True := zk_ic_rd (x_jo hB s i hi)
theorem xg_jo_0 (hB : hxo G B nz nj ad) (s : mS) (i : Int) (hi : 0 ≤ i ∧ i < nj) (P : Value → Prop) : zk_og G (hx G B nz nj ad s) (ad (220 + i)) 0 0 P ↔ P (.ref (ad (240 + i))) := zk_og_f (x_jo hB s i hi) 0 P
theorem xg_jo_1 (hB : hxo G B nz nj ad) (s : mS) (i : Int) (hi : 0 ≤ i ∧ i < nj) (P : Value → Prop) : zk_og G (hx G B nz nj ad s) (ad (220 + i)) 0 1 P ↔ P (.ref (ad (300 + (13 + 6 * i)))) := zk_og_f (x_jo hB s i hi) 1 P
theorem xg_jo_2 (hB : hxo G B nz nj ad) (s : mS) (i : Int) (hi : 0 ≤ i ∧ i < nj) (P : Value → Prop) : zk_og G (hx G B nz nj ad s) (ad (220 + i)) 0 2 P ↔ P (.ref (ad (300 + (14 + 6 * i)))) := zk_og_f (x_jo hB s i hi) 2 P
theorem xg_jo_3 (hB : hxo G B nz nj ad) (s : mS) (i : Int) (hi : 0 ≤ i ∧ i < nj) (P : Value → Prop) : zk_og G (hx G B nz nj ad s) (ad (220 + i)) 0 3 P ↔ P (.int (iz (s 23 i))) := zk_og_f (x_jo hB s i hi) 3 P
theorem xp_jo_3 (hB : hxo G B nz nj ad) (s : mS) (i : Int) (hi : 0 ≤ i ∧ i < nj) (v : Int) (P : zk_H → Prop) : zk_op G (hx G B nz nj ad s) (ad (220 + i)) 0 3 .int (.int (iz v)) P ↔ P (hx G B nz nj ad (up s 23 i v)) := by
  have hn := hB.1
  exact hx_op hB s ((Ux_iff _ _ _).mpr (by omega)) (aro_f (by omega)) (cfs_jo i (by omega)) 3 23 i (by simp) (by simp [own]) v (by simp [cv, up, a8_1, a8_2]) .int rfl P
theorem xg_jo_4 (hB : hxo G B nz nj ad) (s : mS) (i : Int) (hi : 0 ≤ i ∧ i < nj) (P : Value → Prop) : zk_og G (hx G B nz nj ad s) (ad (220 + i)) 0 4 P ↔ P (.int (iz (s 24 i))) := zk_og_f (x_jo hB s i hi) 4 P
theorem xp_jo_4 (hB : hxo G B nz nj ad) (s : mS) (i : Int) (hi : 0 ≤ i ∧ i < nj) (v : Int) (P : zk_H → Prop) : zk_op G (hx G B nz nj ad s) (ad (220 + i)) 0 4 .int (.int (iz v)) P ↔ P (hx G B nz nj ad (up s 24 i v)) := by
  have hn := hB.1
  exact hx_op hB s ((Ux_iff _ _ _).mpr (by omega)) (aro_f (by omega)) (cfs_jo i (by omega)) 4 24 i (by simp) (by simp [own]) v (by simp [cv, up, a8_1, a8_2]) .int rfl P
theorem xg_jo_5 (hB : hxo G B nz nj ad) (s : mS) (i : Int) (hi : 0 ≤ i ∧ i < nj) (P : Value → Prop) : zk_og G (hx G B nz nj ad s) (ad (220 + i)) 0 5 P ↔ P (.int (iz (s 25 i))) := zk_og_f (x_jo hB s i hi) 5 P
theorem xp_jo_5 (hB : hxo G B nz nj ad) (s : mS) (i : Int) (hi : 0 ≤ i ∧ i < nj) (v : Int) (hv : v = 0 ∨ v = 1) (P : zk_H → Prop) : zk_op G (hx G B nz nj ad s) (ad (220 + i)) 0 5 .boolean (.int (iz v)) P ↔ P (hx G B nz nj ad (up s 25 i v)) := by
  have hn := hB.1
  exact hx_op hB s ((Ux_iff _ _ _).mpr (by omega)) (aro_f (by omega)) (cfs_jo i (by omega)) 5 25 i (by simp) (by simp [own]) v (by simp [cv, up, a8_1, a8_2]) .boolean (by rcases hv with rfl | rfl <;> rfl) P
theorem xg_jo_6 (hB : hxo G B nz nj ad) (s : mS) (i : Int) (hi : 0 ≤ i ∧ i < nj) (P : Value → Prop) : zk_og G (hx G B nz nj ad s) (ad (220 + i)) 0 6 P ↔ P (.int (iz (s 61 i))) := zk_og_f (x_jo hB s i hi) 6 P
theorem xp_jo_6 (hB : hxo G B nz nj ad) (s : mS) (i : Int) (hi : 0 ≤ i ∧ i < nj) (v : Int) (P : zk_H → Prop) : zk_op G (hx G B nz nj ad s) (ad (220 + i)) 0 6 .int (.int (iz v)) P ↔ P (hx G B nz nj ad (up s 61 i v)) := by
  have hn := hB.1
  exact hx_op hB s ((Ux_iff _ _ _).mpr (by omega)) (aro_f (by omega)) (cfs_jo i (by omega)) 6 61 i (by simp) (by simp [own]) v (by simp [cv, up, a8_1, a8_2]) .int rfl P
theorem xg_jo_7 (hB : hxo G B nz nj ad) (s : mS) (i : Int) (hi : 0 ≤ i ∧ i < nj) (P : Value → Prop) : zk_og G (hx G B nz nj ad s) (ad (220 + i)) 0 7 P ↔ P (.int (iz (s 44 i))) := zk_og_f (x_jo hB s i hi) 7 P
theorem xp_jo_7 (hB : hxo G B nz nj ad) (s : mS) (i : Int) (hi : 0 ≤ i ∧ i < nj) (v : Int) (P : zk_H → Prop) : zk_op G (hx G B nz nj ad s) (ad (220 + i)) 0 7 .int (.int (iz v)) P ↔ P (hx G B nz nj ad (up s 44 i v)) := by
  have hn := hB.1
  exact hx_op hB s ((Ux_iff _ _ _).mpr (by omega)) (aro_f (by omega)) (cfs_jo i (by omega)) 7 44 i (by simp) (by simp [own]) v (by simp [cv, up, a8_1, a8_2]) .int rfl P
theorem xg_jo_8 (hB : hxo G B nz nj ad) (s : mS) (i : Int) (hi : 0 ≤ i ∧ i < nj) (P : Value → Prop) : zk_og G (hx G B nz nj ad s) (ad (220 + i)) 0 8 P ↔ P (.int (iz (s 45 i))) := zk_og_f (x_jo hB s i hi) 8 P
theorem xp_jo_8 (hB : hxo G B nz nj ad) (s : mS) (i : Int) (hi : 0 ≤ i ∧ i < nj) (v : Int) (P : zk_H → Prop) : zk_op G (hx G B nz nj ad s) (ad (220 + i)) 0 8 .int (.int (iz v)) P ↔ P (hx G B nz nj ad (up s 45 i v)) := by
  have hn := hB.1
  exact hx_op hB s ((Ux_iff _ _ _).mpr (by omega)) (aro_f (by omega)) (cfs_jo i (by omega)) 8 45 i (by simp) (by simp [own]) v (by simp [cv, up, a8_1, a8_2]) .int rfl P
theorem cfs_rr (i : Int) (hi : 0 ≤ i ∧ i < 12) : cfs (240 + i) = (5, [(2, 11, i), (1, 0, 260 + i), (1, 0, 300 + (9 + 6 * i)), (1, 0, 300 + (10 + 6 * i)), (1, 0, 300 + (11 + 6 * i)), (1, 0, 300 + (12 + 6 * i)), (0, 22, i)]) := by
  unfold cfs
  rw [if_neg (by omega), if_neg (by omega), if_neg (by omega), if_neg (by omega), if_neg (by omega), if_neg (by omega), if_neg (by omega), if_pos (by omega), show 240 + i - 240 = i by omega]
theorem x_rr (hB : hxo G B nz nj ad) (s : mS) (i : Int) (hi : 0 ≤ i ∧ i < nj) : zk_rd G (hx G B nz nj ad s) (ad (240 + i)) = some (.inr (5, [.ref (ad (200 + s 11 i)), .ref (ad (260 + i)), .ref (ad (300 + (9 + 6 * i))), .ref (ad (300 + (10 + 6 * i))), .ref (ad (300 + (11 + 6 * i))), .ref (ad (300 + (12 + 6 * i))), .int (iz (s 22 i))])) := by
  have hn := hB.1
  rw [hx_obj hB s ((Ux_iff _ _ _).mpr (by omega)) (aro_f (by omega)), cfs_rr i (by have := hB.1; omega)]
  rfl
theorem xi_rr (hB : hxo G B nz nj ad) (s : mS) (i : Int) (hi : 0 ≤ i ∧ i < nj) : zk_ic G (hx G B nz nj ad s) (ad (240 + i)) 5 ↔ True := zk_ic_rd (x_rr hB s i hi)
theorem xg_rr_0 (hB : hxo G B nz nj ad) (s : mS) (i : Int) (hi : 0 ≤ i ∧ i < nj) (P : Value → Prop) : zk_og G (hx G B nz nj ad s) (ad (240 + i)) 5 0 P ↔ P (.ref (ad (200 + s 11 i))) := zk_og_f (x_rr hB s i hi) 0 P
theorem xg_rr_1 (hB : hxo G B nz nj ad) (s : mS) (i : Int) (hi : 0 ≤ i ∧ i < nj) (P : Value → Prop) : zk_og G (hx G B nz nj ad s) (ad (240 + i)) 5 1 P ↔ P (.ref (ad (260 + i))) := zk_og_f (x_rr hB s i hi) 1 P
theorem xg_rr_2 (hB : hxo G B nz nj ad) (s : mS) (i : Int) (hi : 0 ≤ i ∧ i < nj) (P : Value → Prop) : zk_og G (hx G B nz nj ad s) (ad (240 + i)) 5 2 P ↔ P (.ref (ad (300 + (9 + 6 * i)))) := zk_og_f (x_rr hB s i hi) 2 P
theorem xg_rr_3 (hB : hxo G B nz nj ad) (s : mS) (i : Int) (hi : 0 ≤ i ∧ i < nj) (P : Value → Prop) : zk_og G (hx G B nz nj ad s) (ad (240 + i)) 5 3 P ↔ P (.ref (ad (300 + (10 + 6 * i)))) := zk_og_f (x_rr hB s i hi) 3 P
theorem xg_rr_4 (hB : hxo G B nz nj ad) (s : mS) (i : Int) (hi : 0 ≤ i ∧ i < nj) (P : Value → Prop) : zk_og G (hx G B nz nj ad s) (ad (240 + i)) 5 4 P ↔ P (.ref (ad (300 + (11 + 6 * i)))) := zk_og_f (x_rr hB s i hi) 4 P
theorem xg_rr_5 (hB : hxo G B nz nj ad) (s : mS) (i : Int) (hi : 0 ≤ i ∧ i < nj) (P : Value → Prop) : zk_og G (hx G B nz nj ad s) (ad (240 + i)) 5 5 P ↔ P (.ref (ad (300 + (12 + 6 * i)))) := zk_og_f (x_rr hB s i hi) 5 P
theorem xg_rr_6 (hB : hxo G B nz nj ad) (s : mS) (i : Int) (hi : 0 ≤ i ∧ i < nj) (P : Value → Prop) : zk_og G (hx G B nz nj ad s) (ad (240 + i)) 5 6 P ↔ P (.int (iz (s 22 i))) := zk_og_f (x_rr hB s i hi) 6 P
theorem xp_rr_6 (hB : hxo G B nz nj ad) (s : mS) (i : Int) (hi : 0 ≤ i ∧ i < nj) (v : Int) (P : zk_H → Prop) : zk_op G (hx G B nz nj ad s) (ad (240 + i)) 5 6 .int (.int (iz v)) P ↔ P (hx G B nz nj ad (up s 22 i v)) := by
  have hn := hB.1
  exact hx_op hB s ((Ux_iff _ _ _).mpr (by omega)) (aro_f (by omega)) (cfs_rr i (by omega)) 6 22 i (by simp) (by simp [own]) v (by simp [cv, up, a8_1, a8_2]) .int rfl P
theorem cfs_ro (i : Int) (hi : 0 ≤ i ∧ i < 81) : cfs (300 + i) = (4, [(3, 0, rlim i), (1, 0, 400 + i), (0, 100, i)]) := by
  unfold cfs
  rw [if_neg (by omega), if_neg (by omega), if_neg (by omega), if_neg (by omega), if_neg (by omega), if_neg (by omega), if_neg (by omega), if_neg (by omega), show 300 + i - 300 = i by omega]
theorem x_ro (hB : hxo G B nz nj ad) (s : mS) (i : Int) (hi : (0 ≤ i ∧ i < 3 * nz) ∨ (9 ≤ i ∧ i < 9 + 6 * nj)) : zk_rd G (hx G B nz nj ad s) (ad (300 + i)) = some (.inr (4, [.int (iz (rlim i)), .ref (ad (400 + i)), .int (iz (s 100 i))])) := by
  have hn := hB.1
  rw [hx_obj hB s ((Ux_iff _ _ _).mpr (by omega)) (aro_f (by omega)), cfs_ro i (by have := hB.1; omega)]
  rfl
theorem xi_ro (hB : hxo G B nz nj ad) (s : mS) (i : Int) (hi : (0 ≤ i ∧ i < 3 * nz) ∨ (9 ≤ i ∧ i < 9 + 6 * nj)) : zk_ic G (hx G B nz nj ad s) (ad (300 + i)) 4 ↔ True := zk_ic_rd (x_ro hB s i hi)
theorem xg_ro_0 (hB : hxo G B nz nj ad) (s : mS) (i : Int) (hi : (0 ≤ i ∧ i < 3 * nz) ∨ (9 ≤ i ∧ i < 9 + 6 * nj)) (P : Value → Prop) : zk_og G (hx G B nz nj ad s) (ad (300 + i)) 4 0 P ↔ P (.int (iz (rlim i))) := zk_og_f (x_ro hB s i hi) 0 P
theorem xg_ro_1 (hB : hxo G B nz nj ad) (s : mS) (i : Int) (hi : (0 ≤ i ∧ i < 3 * nz) ∨ (9 ≤ i ∧ i < 9 + 6 * nj)) (P : Value → Prop) : zk_og G (hx G B nz nj ad s) (ad (300 + i)) 4 1 P ↔ P (.ref (ad (400 + i))) := zk_og_f (x_ro hB s i hi) 1 P
theorem xg_ro_2 (hB : hxo G B nz nj ad) (s : mS) (i : Int) (hi : (0 ≤ i ∧ i < 3 * nz) ∨ (9 ≤ i ∧ i < 9 + 6 * nj)) (P : Value → Prop) : zk_og G (hx G B nz nj ad s) (ad (300 + i)) 4 2 P ↔ P (.int (iz (s 100 i))) := zk_og_f (x_ro hB s i hi) 2 P
theorem xp_ro_2 (hB : hxo G B nz nj ad) (s : mS) (i : Int) (hi : (0 ≤ i ∧ i < 3 * nz) ∨ (9 ≤ i ∧ i < 9 + 6 * nj)) (v : Int) (P : zk_H → Prop) : zk_op G (hx G B nz nj ad s) (ad (300 + i)) 4 2 .int (.int (iz v)) P ↔ P (hx G B nz nj ad (up s 100 i v)) := by
  have hn := hB.1
  exact hx_op hB s ((Ux_iff _ _ _).mpr (by omega)) (aro_f (by omega)) (cfs_ro i (by omega)) 2 100 i (by simp) (by simp [own]) v (by simp [cv, up, a8_1, a8_2]) .int rfl P
theorem xa_zs (hB : hxo G B nz nj ad) (s : mS) (z : Int) (hz : 0 ≤ z ∧ z < 3) (hy : z < s 80 0) (P : Value → Prop) : zk_aa G (hx G B nz nj ad s) (ad 1) (iz z) P ↔ P (.ref (ad (200 + z))) := by
  have hn := hB.1
  have h1 := hx_arr hB s (r := 1) ((Ux_iff _ _ _).mpr (by omega)) (by decide)
  have h2 : cca ad s 1 = .inl (6, 3, .inr (.inr (.inr (.inr (fun x : Nat => if (x : Int) < s 80 0 then some (ad (200 + x)) else none))))) := rfl
  rw [h2] at h1
  rw [zk_aa_f h1, iz_toInt (by omega) (by omega), if_pos (by omega), show ((z.toNat : Nat) : Int) = z by omega]
  exact ⟨fun q => q.2.2, fun q => ⟨hz, by decide, q⟩⟩
theorem xa_js (hB : hxo G B nz nj ad) (s : mS) (z : Int) (hz : 0 ≤ z ∧ z < 12) (hy : z < s 81 0) (P : Value → Prop) : zk_aa G (hx G B nz nj ad s) (ad 2) (iz z) P ↔ P (.ref (ad (220 + z))) := by
  have hn := hB.1
  have h1 := hx_arr hB s (r := 2) ((Ux_iff _ _ _).mpr (by omega)) (by decide)
  have h2 : cca ad s 2 = .inl (3, 12, .inr (.inr (.inr (.inr (fun x : Nat => if (x : Int) < s 81 0 then some (ad (220 + x)) else none))))) := rfl
  rw [h2] at h1
  rw [zk_aa_f h1, iz_toInt (by omega) (by omega), if_pos (by omega), show ((z.toNat : Nat) : Int) = z by omega]
  exact ⟨fun q => q.2.2, fun q => ⟨hz, by decide, q⟩⟩
theorem xa_rs (hB : hxo G B nz nj ad) (s : mS) (z : Int) (hz : 0 ≤ z ∧ z < 36) (P : Value → Prop) : zk_aa G (hx G B nz nj ad s) (ad 3) (iz z) P ↔ P (.ref (ad (100 + z))) := by
  have hn := hB.1
  have h1 := hx_arr hB s (r := 3) ((Ux_iff _ _ _).mpr (by omega)) (by decide)
  have h2 : cca ad s 3 = .inl (5, 36, .inr (.inr (.inr (.inr (fun x : Nat => if x < 36 then some (ad (100 + x)) else none))))) := rfl
  rw [h2] at h1
  rw [zk_aa_f h1, iz_toInt (by omega) (by omega), if_pos (by omega), show ((z.toNat : Nat) : Int) = z by omega]
  exact ⟨fun q => q.2.2, fun q => ⟨hz, by decide, q⟩⟩
theorem xa_lt (hB : hxo G B nz nj ad) (s : mS) (z : Int) (hz : 0 ≤ z ∧ z < 60) (P : Value → Prop) : zk_aa G (hx G B nz nj ad s) (ad 7) (iz z) P ↔ P (.ref (ad (10 + z))) := by
  have hn := hB.1
  have h1 := hx_arr hB s (r := 7) ((Ux_iff _ _ _).mpr (by omega)) (by decide)
  have h2 : cca ad s 7 = .inl (4, 60, .inr (.inr (.inr (.inr (fun x : Nat => if x < 60 then some (ad (10 + x)) else none))))) := rfl
  rw [h2] at h1
  rw [zk_aa_f h1, iz_toInt (by omega) (by omega), if_pos (by omega), show ((z.toNat : Nat) : Int) = z by omega]
  exact ⟨fun q => q.2.2, fun q => ⟨hz, by decide, q⟩⟩
theorem xz_sd (hB : hxo G B nz nj ad) (s : mS) (z : Int) (hz : 0 ≤ z ∧ z < 3) (P : Int32 → Prop) : zk_az G (hx G B nz nj ad s) (ad 4) (iz z) P ↔ P (iz (s 42 z)) := by
  have h1 := hx_arr hB s (r := 4) ((Ux_iff _ _ _).mpr (by omega)) (by decide)
  have h2 : cca ad s 4 = .inl (2, 3, .inl (fun x : Nat => iz (s 42 x))) := rfl
  rw [h2] at h1
  rw [zk_az_f h1, iz_toInt (by omega) (by omega), show ((z.toNat : Nat) : Int) = z by omega]
  exact ⟨fun q => q.2, fun q => ⟨hz, q⟩⟩
theorem xw_sd (hB : hxo G B nz nj ad) (s : mS) (z : Int) (hz : 0 ≤ z ∧ z < 3) (v : Int) (hv : v = 0 ∨ v = 1) (P : zk_H → Prop) : zk_sz1 G (hx G B nz nj ad s) (ad 4) (iz z) (iz v) P ↔ P (hx G B nz nj ad (up s 42 z v)) := by
  have hr : Ux nz nj 4 := (Ux_iff _ _ _).mpr (by omega)
  have h1 := hx_arr hB s hr (by decide)
  have h2 : cca ad s 4 = .inl (2, 3, .inl (fun x : Nat => iz (s 42 x))) := rfl
  rw [h2] at h1
  have e : (Sum.inl (2, 3, Sum.inl (fun x : Nat => iz (up s 42 z v 42 x))) : zk_E) = ccl ad (up s 42 z v) 4 := rfl
  rw [zk_sz_f h1, iz_toInt (by omega) (by omega), upd_up s 42 hz.1, e, hx_wr hB s _ hr (fun q q1 q2 => ccl_up (Ux_mono hB.1 q1) (fun w => q2 (by rw [← w]; simp [own])))]
  exact ⟨fun q => q.2.2, fun q => ⟨hz, by rcases hv with rfl | rfl <;> decide, q⟩⟩
theorem xz_dd (hB : hxo G B nz nj ad) (s : mS) (z : Int) (hz : 0 ≤ z ∧ z < 2) (P : Int32 → Prop) : zk_az G (hx G B nz nj ad s) (ad 5) (iz z) P ↔ P (iz (s 43 z)) := by
  have h1 := hx_arr hB s (r := 5) ((Ux_iff _ _ _).mpr (by omega)) (by decide)
  have h2 : cca ad s 5 = .inl (2, 2, .inl (fun x : Nat => iz (s 43 x))) := rfl
  rw [h2] at h1
  rw [zk_az_f h1, iz_toInt (by omega) (by omega), show ((z.toNat : Nat) : Int) = z by omega]
  exact ⟨fun q => q.2, fun q => ⟨hz, q⟩⟩
theorem xw_dd (hB : hxo G B nz nj ad) (s : mS) (z : Int) (hz : 0 ≤ z ∧ z < 2) (v : Int) (hv : v = 0 ∨ v = 1) (P : zk_H → Prop) : zk_sz1 G (hx G B nz nj ad s) (ad 5) (iz z) (iz v) P ↔ P (hx G B nz nj ad (up s 43 z v)) := by
  have hr : Ux nz nj 5 := (Ux_iff _ _ _).mpr (by omega)
  have h1 := hx_arr hB s hr (by decide)
  have h2 : cca ad s 5 = .inl (2, 2, .inl (fun x : Nat => iz (s 43 x))) := rfl
  rw [h2] at h1
  have e : (Sum.inl (2, 2, Sum.inl (fun x : Nat => iz (up s 43 z v 43 x))) : zk_E) = ccl ad (up s 43 z v) 5 := rfl
  rw [zk_sz_f h1, iz_toInt (by omega) (by omega), upd_up s 43 hz.1, e, hx_wr hB s _ hr (fun q q1 q2 => ccl_up (Ux_mono hB.1 q1) (fun w => q2 (by rw [← w]; simp [own])))]
  exact ⟨fun q => q.2.2, fun q => ⟨hz, by rcases hv with rfl | rfl <;> decide, q⟩⟩
theorem xr_it (hB : hxo G B nz nj ad) (s : mS) (i : Int) (hi : (0 ≤ i ∧ i < 3 * nz) ∨ (9 ≤ i ∧ i < 9 + 6 * nj)) : zk_rd G (hx G B nz nj ad s) (ad (400 + i)) = some (.inl (0, (s 102 i).toNat, .inl (fun x : Nat => if x < 600 then iz (s 101 (600 * i + x)) else iz 0))) := by
  have hn := hB.1
  rw [hx_arr hB s ((Ux_iff _ _ _).mpr (by omega)) (aro_t (by omega))]
  unfold cca
  rw [if_neg (by omega), if_neg (by omega), if_neg (by omega), if_neg (by omega), if_neg (by omega), if_neg (by omega), if_neg (by omega), if_neg (by omega), show 400 + i - 400 = i by omega]
theorem xr_mt (hB : hxo G B nz nj ad) (s : mS) (i : Int) (hi : 0 ≤ i ∧ i < nz) : zk_rd G (hx G B nz nj ad s) (ad (210 + i)) = some (.inl (0, 20, .inl (fun x : Nat => if x < 20 then iz (s 60 (20 * i + x)) else iz 0))) := by
  have hn := hB.1
  rw [hx_arr hB s ((Ux_iff _ _ _).mpr (by omega)) (aro_t (by omega))]
  unfold cca
  rw [if_neg (by omega), if_neg (by omega), if_neg (by omega), if_neg (by omega), if_neg (by omega), if_neg (by omega), if_pos (by omega), show 210 + i - 210 = i by omega]
theorem xr_ma (hB : hxo G B nz nj ad) (s : mS) (i : Int) (hi : 0 ≤ i ∧ i < nj) : zk_rd G (hx G B nz nj ad s) (ad (260 + i)) = some (.inl (1, 5, .inr (.inl (fun x : Nat => if x < 5 then lz (s (12 + x) i) else 0)))) := by
  have hn := hB.1
  rw [hx_arr hB s ((Ux_iff _ _ _).mpr (by omega)) (aro_t (by omega))]
  unfold cca
  rw [if_neg (by omega), if_neg (by omega), if_neg (by omega), if_neg (by omega), if_neg (by omega), if_neg (by omega), if_neg (by omega), if_pos (by omega), show 260 + i - 260 = i by omega]
end HXM
