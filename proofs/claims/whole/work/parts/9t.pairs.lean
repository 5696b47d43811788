/-! class and model side by side, a call each -/
def PR (G : zk_G) (n : Int) (B : zk_H) (M : Nat) (ad : Int → Nat) (s m : mS) (y : Nat) (as : zk_L) (ym : Nat) (ms : zk_L) : Prop := ∃ v m', CC G (hp G B M m) ad s m y as v m' ∧ (∀ Bx, hpo G Bx M → ∃ m2, dtx m' m2 ∧ ∀ Q : Option Value → zk_H → Prop, zk_wp G ym 0 (some (.ref M) :: ms) [] (hp G Bx M m) Q ↔ Q (some (.int (iz v))) (hp G Bx M m2)) ∧ INV (n + 1) m'
def i32 (z : Int) : Prop := -2147483648 ≤ z ∧ z ≤ 2147483647
section PRS
variable {G : zk_G} {n : Int} {B : zk_H} {M : Nat} {ad : Int → Nat} {s m : mS}
theorem PR_q {y : Nat} {as : zk_L} {ym : Nat} {ms : zk_L} {v : Int} {m' : mS} (hC : CC G (hp G B M m) ad s m y as v m') (hD : ∀ Bx, hpo G Bx M → ∀ Q : Option Value → zk_H → Prop, zk_wp G ym 0 (some (.ref M) :: ms) [] (hp G Bx M m) Q ↔ Q (some (.int (iz v))) (hp G Bx M m')) (hI : INV (n + 1) m') : PR G n B M ad s m y as ym ms := ⟨v, m', hC, fun Bx hb => ⟨m', dtx_r m', hD Bx hb⟩, hI⟩
theorem PR_d {y : Nat} {as : zk_L} {ym : Nat} {ms : zk_L} {v : Int} {m' : mS} (hC : CC G (hp G B M m) ad s m y as v m') (hD : ∀ Bx, hpo G Bx M → ∃ m2, dtx m' m2 ∧ ∀ Q : Option Value → zk_H → Prop, zk_wp G ym 0 (some (.ref M) :: ms) [] (hp G Bx M m) Q ↔ Q (some (.int (iz v))) (hp G Bx M m2)) (hI : INV (n + 1) m') : PR G n B M ad s m y as ym ms := ⟨v, m', hC, hD, hI⟩
theorem pr_zone (hB : hxo G (hp G B M m) (m 1 0) (m 10 0) ad) (hG : GS G) (hR : REL s m) (hI : INV n m) (hn : 0 ≤ n ∧ n ≤ 512)  : PR G n B M ad s m 61 [] 114 [] := by
  obtain ⟨⟨hM, hP, hE, hc5, hc6, hc7⟩, hb⟩ := INV_IV hI hn
  have h1 := hM.2.2.1
  have h10 := hM.2.2.2.1
  have hr := hM.1
  have hs := hP.2.1
  have hZ : ∀ z, 0 ≤ z → z < 3 → zI m z := fun z a b => (hM.2.2.2.2.1 z a b).1
  have hJ : ∀ j, 0 ≤ j → j < 12 → jI m j := fun j a b => (hM.2.2.2.2.2.1 j a b).1
  exact PR_q (k_zone hB hR hM) (fun Bx hb => d_zone hb h1) (INV_zone hI)
theorem pr_shift (hB : hxo G (hp G B M m) (m 1 0) (m 10 0) ad) (hG : GS G) (hR : REL s m) (hI : INV n m) (hn : 0 ≤ n ∧ n ≤ 512) (z t o : Int) (hz : i32 z) (ht : i32 t) (ho : i32 o) : PR G n B M ad s m 62 [some (.int (iz z)), some (.int (iz t)), some (.int (iz o)), none] 115 [some (.int (iz z)), some (.int (iz t)), some (.int (iz o)), none] := by
  obtain ⟨⟨hM, hP, hE, hc5, hc6, hc7⟩, hb⟩ := INV_IV hI hn
  have h1 := hM.2.2.1
  have h10 := hM.2.2.2.1
  have hr := hM.1
  have hs := hP.2.1
  have hZ : ∀ z, 0 ≤ z → z < 3 → zI m z := fun z a b => (hM.2.2.2.2.1 z a b).1
  have hJ : ∀ j, 0 ≤ j → j < 12 → jI m j := fun j a b => (hM.2.2.2.2.2.1 j a b).1
  have h2 : ∀ z, 0 ≤ z → z < 3 → 0 ≤ m 2 z ∧ m 2 z ≤ 10 := fun z a b => (hZ z a b).2.1
  obtain ⟨k1, k2, k3, k4⟩ := k_shift hB hR hM z t o hz ht ho
  have d := fun Bx hb Q => d_shift (G := G) (B := Bx) (M := M) hb h1 hr z t o hz ht ho h2 Q
  by_cases c : shOk m z t o
  · by_cases c2 : 0 < m 2 z ∧ t ≤ m 3 (10 * z + m 2 z - 1)
    · exact PR_q (k2 c c2) (fun Bx hb Q => (d Bx hb Q).2.1 c c2) (INV_same hI)
    · by_cases c3 : m 2 z = 10
      · exact PR_q (k3 c c2 c3) (fun Bx hb Q => (d Bx hb Q).2.2.1 c c2 c3) (INV_same hI)
      · exact PR_q (k4 ⟨c, c2, c3⟩) (fun Bx hb Q => (d Bx hb Q).2.2.2 ⟨c, c2, c3⟩) (INV_shift hI ⟨c, c2, c3⟩)
  · exact PR_q (k1 c) (fun Bx hb Q => (d Bx hb Q).1 c) (INV_same hI)
theorem pr_holiday (hB : hxo G (hp G B M m) (m 1 0) (m 10 0) ad) (hG : GS G) (hR : REL s m) (hI : INV n m) (hn : 0 ≤ n ∧ n ≤ 512) (z d : Int) (hz : i32 z) (hd : i32 d) : PR G n B M ad s m 65 [some (.int (iz z)), some (.int (iz d)), none] 118 [some (.int (iz z)), some (.int (iz d))] := by
  obtain ⟨⟨hM, hP, hE, hc5, hc6, hc7⟩, hb⟩ := INV_IV hI hn
  have h1 := hM.2.2.1
  have h10 := hM.2.2.2.1
  have hr := hM.1
  have hs := hP.2.1
  have hZ : ∀ z, 0 ≤ z → z < 3 → zI m z := fun z a b => (hM.2.2.2.2.1 z a b).1
  have hJ : ∀ j, 0 ≤ j → j < 12 → jI m j := fun j a b => (hM.2.2.2.2.2.1 j a b).1
  exact PR_q (k_holiday hB hR hM z d hz hd) (fun Bx hb => d_holiday hb h1 hZ z d hz hd) (INV_hol hI z d)
theorem pr_local (hB : hxo G (hp G B M m) (m 1 0) (m 10 0) ad) (hG : GS G) (hR : REL s m) (hI : INV n m) (hn : 0 ≤ n ∧ n ≤ 512) (z t : Int) (hz : i32 z) (ht : i32 t) : PR G n B M ad s m 66 [some (.int (iz z)), some (.int (iz t)), none] 120 [some (.int (iz z)), some (.int (iz t))] := by
  obtain ⟨⟨hM, hP, hE, hc5, hc6, hc7⟩, hb⟩ := INV_IV hI hn
  have h1 := hM.2.2.1
  have h10 := hM.2.2.2.1
  have hr := hM.1
  have hs := hP.2.1
  have hZ : ∀ z, 0 ≤ z → z < 3 → zI m z := fun z a b => (hM.2.2.2.2.1 z a b).1
  have hJ : ∀ j, 0 ≤ j → j < 12 → jI m j := fun j a b => (hM.2.2.2.2.2.1 j a b).1
  exact PR_q (k_local hB hR hM z t hz ht) (fun Bx hb => d_local hb h1 hZ z t hz ht) (INV_same hI)
theorem pr_moment (hB : hxo G (hp G B M m) (m 1 0) (m 10 0) ad) (hG : GS G) (hR : REL s m) (hI : INV n m) (hn : 0 ≤ n ∧ n ≤ 512) (z l : Int) (hz : i32 z) (hl : i32 l) : PR G n B M ad s m 67 [some (.int (iz z)), some (.int (iz l)), none] 124 [some (.int (iz z)), some (.int (iz l))] := by
  obtain ⟨⟨hM, hP, hE, hc5, hc6, hc7⟩, hb⟩ := INV_IV hI hn
  have h1 := hM.2.2.1
  have h10 := hM.2.2.2.1
  have hr := hM.1
  have hs := hP.2.1
  have hZ : ∀ z, 0 ≤ z → z < 3 → zI m z := fun z a b => (hM.2.2.2.2.1 z a b).1
  have hJ : ∀ j, 0 ≤ j → j < 12 → jI m j := fun j a b => (hM.2.2.2.2.2.1 j a b).1
  exact PR_q (k_moment hB hR hM z l hz hl) (fun Bx hb => d_moment hb h1 hZ z l hz hl) (INV_same hI)
theorem pr_day (hB : hxo G (hp G B M m) (m 1 0) (m 10 0) ad) (hG : GS G) (hR : REL s m) (hI : INV n m) (hn : 0 ≤ n ∧ n ≤ 512) (z d w : Int) (hz : i32 z) (hd : i32 d) (hw : i32 w) : PR G n B M ad s m 69 [some (.int (iz z)), some (.int (iz d)), some (.int (iz w)), none, none] 128 [some (.int (iz z)), some (.int (iz d)), some (.int (iz w))] := by
  obtain ⟨⟨hM, hP, hE, hc5, hc6, hc7⟩, hb⟩ := INV_IV hI hn
  have h1 := hM.2.2.1
  have h10 := hM.2.2.2.1
  have hr := hM.1
  have hs := hP.2.1
  have hZ : ∀ z, 0 ≤ z → z < 3 → zI m z := fun z a b => (hM.2.2.2.2.1 z a b).1
  have hJ : ∀ j, 0 ≤ j → j < 12 → jI m j := fun j a b => (hM.2.2.2.2.2.1 j a b).1
  exact PR_d (k_day hB hG hR hM z d w hz hd hw) (fun Bx hb => d_day hb h1 hZ z d w hz hd hw) (INV_same hI)
theorem pr_job (hB : hxo G (hp G B M m) (m 1 0) (m 10 0) ad) (hG : GS G) (hR : REL s m) (hI : INV n m) (hn : 0 ≤ n ∧ n ≤ 512) (z : Int) (hz : i32 z) : PR G n B M ad s m 70 [some (.int (iz z)), none] 132 [some (.int (iz z))] := by
  obtain ⟨⟨hM, hP, hE, hc5, hc6, hc7⟩, hb⟩ := INV_IV hI hn
  have h1 := hM.2.2.1
  have h10 := hM.2.2.2.1
  have hr := hM.1
  have hs := hP.2.1
  have hZ : ∀ z, 0 ≤ z → z < 3 → zI m z := fun z a b => (hM.2.2.2.2.1 z a b).1
  have hJ : ∀ j, 0 ≤ j → j < 12 → jI m j := fun j a b => (hM.2.2.2.2.2.1 j a b).1
  exact PR_q (k_job hB hR hM z hz) (fun Bx hb => d_job hb h1 h10 z hz) (INV_job hI z)
theorem pr_mask (hB : hxo G (hp G B M m) (m 1 0) (m 10 0) ad) (hG : GS G) (hR : REL s m) (hI : INV n m) (hn : 0 ≤ n ∧ n ≤ 512) (j f : Int) (hj : i32 j) (hf : i32 f) (X : Int64) : PR G n B M ad s m 71 [some (.int (iz j)), some (.int (iz f)), some (.long X), none, none] 133 [some (.int (iz j)), some (.int (iz f)), some (.long X), none, none, none] := by
  obtain ⟨⟨hM, hP, hE, hc5, hc6, hc7⟩, hb⟩ := INV_IV hI hn
  have h10 := hM.2.2.2.1
  obtain ⟨x, hx, rfl⟩ := wb_of X
  exact PR_q (k_mask hB hG hR hM j f hj hf x hx) (fun Bx hb => d_mask hb h10 j f hj hf x hx) (INV_mask hI j f x)
theorem pr_nth (hB : hxo G (hp G B M m) (m 1 0) (m 10 0) ad) (hG : GS G) (hR : REL s m) (hI : INV n m) (hn : 0 ≤ n ∧ n ≤ 512) (j w x : Int) (hj : i32 j) (hw : i32 w) (hx : i32 x) : PR G n B M ad s m 73 [some (.int (iz j)), some (.int (iz w)), some (.int (iz x)), none] 136 [some (.int (iz j)), some (.int (iz w)), some (.int (iz x))] := by
  obtain ⟨⟨hM, hP, hE, hc5, hc6, hc7⟩, hb⟩ := INV_IV hI hn
  have h1 := hM.2.2.1
  have h10 := hM.2.2.2.1
  have hr := hM.1
  have hs := hP.2.1
  have hZ : ∀ z, 0 ≤ z → z < 3 → zI m z := fun z a b => (hM.2.2.2.2.1 z a b).1
  have hJ : ∀ j, 0 ≤ j → j < 12 → jI m j := fun j a b => (hM.2.2.2.2.2.1 j a b).1
  obtain ⟨k1, k2, k3⟩ := k_nth hB hR hM j w x hj hw hx
  have d := fun Bx hb Q => d_nth (G := G) (B := Bx) (M := M) hb h10 hJ j w x hj hw hx Q
  by_cases c : nthOk m j w x
  · by_cases c2 : m 17 j = 3
    · exact PR_q (k2 c c2) (fun Bx hb Q => (d Bx hb Q).2.1 c c2) (INV_same hI)
    · exact PR_q (k3 c c2) (fun Bx hb Q => (d Bx hb Q).2.2 c c2) (INV_nth hI c c2)
  · exact PR_q (k1 c) (fun Bx hb Q => (d Bx hb Q).1 c) (INV_same hI)
theorem pr_except (hB : hxo G (hp G B M m) (m 1 0) (m 10 0) ad) (hG : GS G) (hR : REL s m) (hI : INV n m) (hn : 0 ≤ n ∧ n ≤ 512) (j t : Int) (hj : i32 j) (ht : i32 t) : PR G n B M ad s m 74 [some (.int (iz j)), some (.int (iz t)), none] 137 [some (.int (iz j)), some (.int (iz t))] := by
  obtain ⟨⟨hM, hP, hE, hc5, hc6, hc7⟩, hb⟩ := INV_IV hI hn
  have h1 := hM.2.2.1
  have h10 := hM.2.2.2.1
  have hr := hM.1
  have hs := hP.2.1
  have hZ : ∀ z, 0 ≤ z → z < 3 → zI m z := fun z a b => (hM.2.2.2.2.1 z a b).1
  have hJ : ∀ j, 0 ≤ j → j < 12 → jI m j := fun j a b => (hM.2.2.2.2.2.1 j a b).1
  exact PR_q (k_except hB hR hM j t hj ht) (fun Bx hb => d_except hb h10 hJ j t hj ht) (INV_exc hI j t)
theorem pr_onHol (hB : hxo G (hp G B M m) (m 1 0) (m 10 0) ad) (hG : GS G) (hR : REL s m) (hI : INV n m) (hn : 0 ≤ n ∧ n ≤ 512) (j w : Int) (hj : i32 j) (hw : i32 w) : PR G n B M ad s m 75 [some (.int (iz j)), some (.int (iz w)), none, none] 138 [some (.int (iz j)), some (.int (iz w)), none] := by
  obtain ⟨⟨hM, hP, hE, hc5, hc6, hc7⟩, hb⟩ := INV_IV hI hn
  have h1 := hM.2.2.1
  have h10 := hM.2.2.2.1
  have hr := hM.1
  have hs := hP.2.1
  have hZ : ∀ z, 0 ≤ z → z < 3 → zI m z := fun z a b => (hM.2.2.2.2.1 z a b).1
  have hJ : ∀ j, 0 ≤ j → j < 12 → jI m j := fun j a b => (hM.2.2.2.2.2.1 j a b).1
  refine PR_q (k_onHol hB hR hM j w hj hw) (fun Bx hb => d_onHol hb h10 j w hj hw) ?_
  split
  · rename_i c; exact INV_one hI c.1 22 w (Or.inl ⟨rfl, c.2⟩)
  · exact INV_same hI
theorem pr_catch (hB : hxo G (hp G B M m) (m 1 0) (m 10 0) ad) (hG : GS G) (hR : REL s m) (hI : INV n m) (hn : 0 ≤ n ∧ n ≤ 512) (j w l : Int) (hj : i32 j) (hw : i32 w) (hl : i32 l) : PR G n B M ad s m 76 [some (.int (iz j)), some (.int (iz w)), some (.int (iz l)), none] 139 [some (.int (iz j)), some (.int (iz w)), some (.int (iz l))] := by
  obtain ⟨⟨hM, hP, hE, hc5, hc6, hc7⟩, hb⟩ := INV_IV hI hn
  have h1 := hM.2.2.1
  have h10 := hM.2.2.2.1
  have hr := hM.1
  have hs := hP.2.1
  have hZ : ∀ z, 0 ≤ z → z < 3 → zI m z := fun z a b => (hM.2.2.2.2.1 z a b).1
  have hJ : ∀ j, 0 ≤ j → j < 12 → jI m j := fun j a b => (hM.2.2.2.2.2.1 j a b).1
  refine PR_q (k_catch hB hR hM j w l hj hw hl) (fun Bx hb => d_catch hb h10 j w l hj hw hl) ?_
  split
  · rename_i c; exact INV_catch hI c.1 c.2.1 c.2.2
  · exact INV_same hI
theorem pr_after (hB : hxo G (hp G B M m) (m 1 0) (m 10 0) ad) (hG : GS G) (hR : REL s m) (hI : INV n m) (hn : 0 ≤ n ∧ n ≤ 512) (j o : Int) (hj : i32 j) (ho : i32 o) : PR G n B M ad s m 77 [some (.int (iz j)), some (.int (iz o)), none] 140 [some (.int (iz j)), some (.int (iz o)), none, none] := by
  obtain ⟨⟨hM, hP, hE, hc5, hc6, hc7⟩, hb⟩ := INV_IV hI hn
  have h1 := hM.2.2.1
  have h10 := hM.2.2.2.1
  have hr := hM.1
  have hs := hP.2.1
  have hZ : ∀ z, 0 ≤ z → z < 3 → zI m z := fun z a b => (hM.2.2.2.2.1 z a b).1
  have hJ : ∀ j, 0 ≤ j → j < 12 → jI m j := fun j a b => (hM.2.2.2.2.2.1 j a b).1
  have o3 := hM.2.2.2.2.2.2
  obtain ⟨k1, k2, k3, k4⟩ := k_after hB hR hM j o hj ho
  have d := fun Bx hb Q => d_after (G := G) (B := Bx) (M := M) hb h10 o3 j o hj ho Q
  by_cases c : afO m j o
  · cases c2 : afB m j o with
    | true => exact PR_q (k2 c c2) (fun Bx hb Q => (d Bx hb Q).2.1 c c2) (INV_same hI)
    | false =>
      by_cases c3 : m 26 j = 3
      · exact PR_q (k3 c c2 c3) (fun Bx hb Q => (d Bx hb Q).2.2.1 c c2 c3) (INV_same hI)
      · exact PR_q (k4 c c2 c3) (fun Bx hb Q => (d Bx hb Q).2.2.2 c c2 c3) (INV_after hI c c2 c3)
  · exact PR_q (k1 c) (fun Bx hb Q => (d Bx hb Q).1 c) (INV_same hI)
theorem pr_pause (hB : hxo G (hp G B M m) (m 1 0) (m 10 0) ad) (hG : GS G) (hR : REL s m) (hI : INV n m) (hn : 0 ≤ n ∧ n ≤ 512) (j b : Int) (hj : i32 j) (hb : i32 b) (h01 : b = 0 ∨ b = 1) : PR G n B M ad s m 79 [some (.int (iz j)), some (.int (iz b)), none, none] 142 [some (.int (iz j)), some (.int (iz b)), none] := by
  obtain ⟨⟨hM, hP, hE, hc5, hc6, hc7⟩, hb⟩ := INV_IV hI hn
  have h1 := hM.2.2.1
  have h10 := hM.2.2.2.1
  have hr := hM.1
  have hs := hP.2.1
  have hZ : ∀ z, 0 ≤ z → z < 3 → zI m z := fun z a b => (hM.2.2.2.2.1 z a b).1
  have hJ : ∀ j, 0 ≤ j → j < 12 → jI m j := fun j a b => (hM.2.2.2.2.2.1 j a b).1
  refine PR_q (k_pause hB hR hM j b hj h01) (fun Bx hb => d_pause hb hr h10 j b hj h01) ?_
  split
  · rename_i c; exact INV_one hI c 25 b (Or.inr (Or.inr (Or.inr ⟨rfl, h01⟩)))
  · exact INV_same hI
theorem pr_due (hB : hxo G (hp G B M m) (m 1 0) (m 10 0) ad) (hG : GS G) (hR : REL s m) (hI : INV n m) (hn : 0 ≤ n ∧ n ≤ 512) (j f : Int) (hj : i32 j) (hf : i32 f) : PR G n B M ad s m 80 [some (.int (iz j)), some (.int (iz f)), none] 143 [some (.int (iz j)), some (.int (iz f)), none] := by
  obtain ⟨⟨hM, hP, hE, hc5, hc6, hc7⟩, hb⟩ := INV_IV hI hn
  have h1 := hM.2.2.1
  have h10 := hM.2.2.2.1
  have hr := hM.1
  have hs := hP.2.1
  have hZ : ∀ z, 0 ≤ z → z < 3 → zI m z := fun z a b => (hM.2.2.2.2.1 z a b).1
  have hJ : ∀ j, 0 ≤ j → j < 12 → jI m j := fun j a b => (hM.2.2.2.2.2.1 j a b).1
  exact PR_d (k_due hB hG hR hM j f hj hf) (fun Bx hb => d_due hb h10 hJ j f hj hf) (INV_same hI)
theorem pr_between (hB : hxo G (hp G B M m) (m 1 0) (m 10 0) ad) (hG : GS G) (hR : REL s m) (hI : INV n m) (hn : 0 ≤ n ∧ n ≤ 512) (j a b i : Int) (hj : i32 j) (ha : i32 a) (hb' : i32 b) (hi : i32 i) : PR G n B M ad s m 81 [some (.int (iz j)), some (.int (iz a)), some (.int (iz b)), some (.int (iz i)), none, none, none] 156 [some (.int (iz j)), some (.int (iz a)), some (.int (iz b)), some (.int (iz i)), none, none] := by
  obtain ⟨⟨hM, hP, hE, hc5, hc6, hc7⟩, hb⟩ := INV_IV hI hn
  have h1 := hM.2.2.1
  have h10 := hM.2.2.2.1
  have hr := hM.1
  have hs := hP.2.1
  have hZ : ∀ z, 0 ≤ z → z < 3 → zI m z := fun z a b => (hM.2.2.2.2.1 z a b).1
  have hJ : ∀ j, 0 ≤ j → j < 12 → jI m j := fun j a b => (hM.2.2.2.2.2.1 j a b).1
  obtain ⟨k1, k2⟩ := k_between hB hG hR hM j a b i hj ha hb' hi
  have d := fun Bx hb => d_between (G := G) (B := Bx) (M := M) hb h10 hJ j a b i hj ha hb' hi
  by_cases c : btOk m j a b i
  · exact PR_d (k1 c) (fun Bx hb => (d Bx hb).1 c) (INV_same hI)
  · exact PR_q (k2 c) (fun Bx hb => (d Bx hb).2 c) (INV_same hI)
theorem pr_runNow (hB : hxo G (hp G B M m) (m 1 0) (m 10 0) ad) (hG : GS G) (hR : REL s m) (hI : INV n m) (hn : 0 ≤ n ∧ n ≤ 512) (j : Int) (hj : i32 j) : PR G n B M ad s m 82 [some (.int (iz j)), none, none] 157 [some (.int (iz j)), none, none] := by
  obtain ⟨⟨hM, hP, hE, hc5, hc6, hc7⟩, hb⟩ := INV_IV hI hn
  have h1 := hM.2.2.1
  have h10 := hM.2.2.2.1
  have hr := hM.1
  have hs := hP.2.1
  have hZ : ∀ z, 0 ≤ z → z < 3 → zI m z := fun z a b => (hM.2.2.2.2.1 z a b).1
  have hJ : ∀ j, 0 ≤ j → j < 12 → jI m j := fun j a b => (hM.2.2.2.2.2.1 j a b).1
  exact PR_d (k_runNow hB hG hR hM hP hE j hj) (fun Bx hb => d_runNow hb hr h10 (fun j a b => ⟨(hM.2.2.2.2.2.1 j a b).1, (hM.2.2.2.2.2.1 j a b).2.1⟩) hM.2.1 (fun i a b => (hP.1 i a b).2.2.1) j hj) (INV_rn hI j)
theorem pr_now (hB : hxo G (hp G B M m) (m 1 0) (m 10 0) ad) (hG : GS G) (hR : REL s m) (hI : INV n m) (hn : 0 ≤ n ∧ n ≤ 512) (t : Int) (ht : i32 t) : PR G n B M ad s m 86 [some (.int (iz t))] 158 [some (.int (iz t))] := by
  obtain ⟨⟨hM, hP, hE, hc5, hc6, hc7⟩, hb⟩ := INV_IV hI hn
  have h1 := hM.2.2.1
  have h10 := hM.2.2.2.1
  have hr := hM.1
  have hs := hP.2.1
  have hZ : ∀ z, 0 ≤ z → z < 3 → zI m z := fun z a b => (hM.2.2.2.2.1 z a b).1
  have hJ : ∀ j, 0 ≤ j → j < 12 → jI m j := fun j a b => (hM.2.2.2.2.2.1 j a b).1
  refine PR_q (k_now hB hR t ht) (fun Bx hb => d_now hb hr t ht) ?_
  split
  · rename_i c; exact INV_now hI c.1
  · exact INV_same hI
theorem pr_wake (hB : hxo G (hp G B M m) (m 1 0) (m 10 0) ad) (hG : GS G) (hR : REL s m) (hI : INV n m) (hn : 0 ≤ n ∧ n ≤ 512) (k : Int) (hk : i32 k) : PR G n B M ad s m 87 [some (.int (iz k)), none, none, none, none, none] 159 [some (.int (iz k)), none, none, none] := by
  obtain ⟨⟨hM, hP, hE, hc5, hc6, hc7⟩, hb⟩ := INV_IV hI hn
  have h1 := hM.2.2.1
  have h10 := hM.2.2.2.1
  have hr := hM.1
  have hs := hP.2.1
  have hZ : ∀ z, 0 ≤ z → z < 3 → zI m z := fun z a b => (hM.2.2.2.2.1 z a b).1
  have hJ : ∀ j, 0 ≤ j → j < 12 → jI m j := fun j a b => (hM.2.2.2.2.2.1 j a b).1
  exact PR_d (k_wake hB hG hR hM hP hc5.1 hb k hk) (fun Bx hb => d_wake hb hr h10 hs hM.2.1 hJ (fun i a b => ⟨(hP.1 i a b).1, (hP.1 i a b).2.1, (hP.1 i a b).2.2.1⟩) k hk) (INV_wake hI hn k)
theorem pr_deliver (hB : hxo G (hp G B M m) (m 1 0) (m 10 0) ad) (hG : GS G) (hR : REL s m) (hI : INV n m) (hn : 0 ≤ n ∧ n ≤ 512) (i : Int) (hi : i32 i) : PR G n B M ad s m 89 [some (.int (iz i)), none] 162 [some (.int (iz i)), none] := by
  obtain ⟨⟨hM, hP, hE, hc5, hc6, hc7⟩, hb⟩ := INV_IV hI hn
  have h1 := hM.2.2.1
  have h10 := hM.2.2.2.1
  have hr := hM.1
  have hs := hP.2.1
  have hZ : ∀ z, 0 ≤ z → z < 3 → zI m z := fun z a b => (hM.2.2.2.2.1 z a b).1
  have hJ : ∀ j, 0 ≤ j → j < 12 → jI m j := fun j a b => (hM.2.2.2.2.2.1 j a b).1
  exact PR_d (k_deliver hB hG hR ⟨hM, hP, hE, hc5, hc6, hc7⟩ i hi) (fun Bx hb => d_deliver hb hM hP i hi) (INV_del hI hn i)
theorem pr_flow (hB : hxo G (hp G B M m) (m 1 0) (m 10 0) ad) (hG : GS G) (hR : REL s m) (hI : INV n m) (hn : 0 ≤ n ∧ n ≤ 512) (x : Int) (hx : i32 x) : PR G n B M ad s m 99 [some (.int (iz x)), none, none, none] 179 [some (.int (iz x)), none, none] := by
  obtain ⟨⟨hM, hP, hE, hc5, hc6, hc7⟩, hb⟩ := INV_IV hI hn
  have h1 := hM.2.2.1
  have h10 := hM.2.2.2.1
  have hr := hM.1
  have hs := hP.2.1
  have hZ : ∀ z, 0 ≤ z → z < 3 → zI m z := fun z a b => (hM.2.2.2.2.1 z a b).1
  have hJ : ∀ j, 0 ≤ j → j < 12 → jI m j := fun j a b => (hM.2.2.2.2.2.1 j a b).1
  obtain ⟨f1, f2⟩ := INV_flow hI hn
  exact PR_d (k_flow hB hG hR x hx f1) (fun Bx hb => d_flow hb x hx (fun k hk => ⟨(f1 k hk).1, (f1 k hk).2.1⟩)) (f2 x)
theorem pr_lose (hB : hxo G (hp G B M m) (m 1 0) (m 10 0) ad) (hG : GS G) (hR : REL s m) (hI : INV n m) (hn : 0 ≤ n ∧ n ≤ 512) (i : Int) (hi : i32 i) : PR G n B M ad s m 100 [some (.int (iz i)), none] 180 [some (.int (iz i))] := by
  obtain ⟨⟨hM, hP, hE, hc5, hc6, hc7⟩, hb⟩ := INV_IV hI hn
  have h1 := hM.2.2.1
  have h10 := hM.2.2.2.1
  have hr := hM.1
  have hs := hP.2.1
  have hZ : ∀ z, 0 ≤ z → z < 3 → zI m z := fun z a b => (hM.2.2.2.2.1 z a b).1
  have hJ : ∀ j, 0 ≤ j → j < 12 → jI m j := fun j a b => (hM.2.2.2.2.2.1 j a b).1
  exact PR_q (k_lose hB hR hM hP i hi) (fun Bx hb => d_lose hb hs i hi) (INV_lose hI i)
theorem pr_twin (hB : hxo G (hp G B M m) (m 1 0) (m 10 0) ad) (hG : GS G) (hR : REL s m) (hI : INV n m) (hn : 0 ≤ n ∧ n ≤ 512) (i : Int) (hi : i32 i) : PR G n B M ad s m 101 [some (.int (iz i)), none, none] 181 [some (.int (iz i)), none] := by
  obtain ⟨⟨hM, hP, hE, hc5, hc6, hc7⟩, hb⟩ := INV_IV hI hn
  have h1 := hM.2.2.1
  have h10 := hM.2.2.2.1
  have hr := hM.1
  have hs := hP.2.1
  have hZ : ∀ z, 0 ≤ z → z < 3 → zI m z := fun z a b => (hM.2.2.2.2.1 z a b).1
  have hJ : ∀ j, 0 ≤ j → j < 12 → jI m j := fun j a b => (hM.2.2.2.2.2.1 j a b).1
  exact PR_q (k_twin hB hR hM hP (by have := hc5.1; omega) i hi) (fun Bx hb => d_twin hb hs i hi) (INV_twin hI hn i)
theorem pr_letter (hB : hxo G (hp G B M m) (m 1 0) (m 10 0) ad) (hG : GS G) (hR : REL s m) (hI : INV n m) (hn : 0 ≤ n ∧ n ≤ 512) (i w : Int) (hi : i32 i) (hw : i32 w) : PR G n B M ad s m 102 [some (.int (iz i)), some (.int (iz w)), none] 182 [some (.int (iz i)), some (.int (iz w))] := by
  obtain ⟨⟨hM, hP, hE, hc5, hc6, hc7⟩, hb⟩ := INV_IV hI hn
  have h1 := hM.2.2.1
  have h10 := hM.2.2.2.1
  have hr := hM.1
  have hs := hP.2.1
  have hZ : ∀ z, 0 ≤ z → z < 3 → zI m z := fun z a b => (hM.2.2.2.2.1 z a b).1
  have hJ : ∀ j, 0 ≤ j → j < 12 → jI m j := fun j a b => (hM.2.2.2.2.2.1 j a b).1
  exact PR_q (k_letter hB hR hP i w hi hw) (fun Bx hb => d_letter hb hs i w hi hw) (INV_same hI)
theorem pr_crash (hB : hxo G (hp G B M m) (m 1 0) (m 10 0) ad) (hG : GS G) (hR : REL s m) (hI : INV n m) (hn : 0 ≤ n ∧ n ≤ 512) (k : Int) (hk : i32 k) : PR G n B M ad s m 103 [some (.int (iz k)), none, none, none] 183 [some (.int (iz k)), none, none] := by
  obtain ⟨⟨hM, hP, hE, hc5, hc6, hc7⟩, hb⟩ := INV_IV hI hn
  have h1 := hM.2.2.1
  have h10 := hM.2.2.2.1
  have hr := hM.1
  have hs := hP.2.1
  have hZ : ∀ z, 0 ≤ z → z < 3 → zI m z := fun z a b => (hM.2.2.2.2.1 z a b).1
  have hJ : ∀ j, 0 ≤ j → j < 12 → jI m j := fun j a b => (hM.2.2.2.2.2.1 j a b).1
  exact PR_q (k_crash hB hR hM hP k hk) (fun Bx hb => d_crash hb hr k hk) (INV_crash hI k)
theorem pr_restart (hB : hxo G (hp G B M m) (m 1 0) (m 10 0) ad) (hG : GS G) (hR : REL s m) (hI : INV n m) (hn : 0 ≤ n ∧ n ≤ 512) (i : Int) (hi : i32 i) : PR G n B M ad s m 104 [some (.int (iz i))] 184 [some (.int (iz i))] := by
  obtain ⟨⟨hM, hP, hE, hc5, hc6, hc7⟩, hb⟩ := INV_IV hI hn
  have h1 := hM.2.2.1
  have h10 := hM.2.2.2.1
  have hr := hM.1
  have hs := hP.2.1
  have hZ : ∀ z, 0 ≤ z → z < 3 → zI m z := fun z a b => (hM.2.2.2.2.1 z a b).1
  have hJ : ∀ j, 0 ≤ j → j < 12 → jI m j := fun j a b => (hM.2.2.2.2.2.1 j a b).1
  refine PR_q (k_restart hB hR i hi) (fun Bx hb => d_restart hb hr i hi) ?_
  split
  · exact INV_sd hI 42 i 0 (Or.inl rfl) (Or.inl rfl)
  · exact INV_same hI
theorem pr_desk (hB : hxo G (hp G B M m) (m 1 0) (m 10 0) ad) (hG : GS G) (hR : REL s m) (hI : INV n m) (hn : 0 ≤ n ∧ n ≤ 512) (i b : Int) (hi : i32 i) (hb : i32 b) (h01 : b = 0 ∨ b = 1) : PR G n B M ad s m 105 [some (.int (iz i)), some (.int (iz b)), none] 185 [some (.int (iz i)), some (.int (iz b)), none] := by
  obtain ⟨⟨hM, hP, hE, hc5, hc6, hc7⟩, hb⟩ := INV_IV hI hn
  have h1 := hM.2.2.1
  have h10 := hM.2.2.2.1
  have hr := hM.1
  have hs := hP.2.1
  have hZ : ∀ z, 0 ≤ z → z < 3 → zI m z := fun z a b => (hM.2.2.2.2.1 z a b).1
  have hJ : ∀ j, 0 ≤ j → j < 12 → jI m j := fun j a b => (hM.2.2.2.2.2.1 j a b).1
  refine PR_q (k_desk hB hR i b hi h01) (fun Bx hb => d_desk hb hr i b hi h01) ?_
  split
  · exact INV_sd hI 43 i b (Or.inr rfl) h01
  · exact INV_same hI
theorem pr_register (hB : hxo G (hp G B M m) (m 1 0) (m 10 0) ad) (hG : GS G) (hR : REL s m) (hI : INV n m) (hn : 0 ≤ n ∧ n ≤ 512) (k j w : Int) (hk : i32 k) (hj : i32 j) (hw : i32 w) : PR G n B M ad s m 106 [some (.int (iz k)), some (.int (iz j)), some (.int (iz w)), none] 186 [some (.int (iz k)), some (.int (iz j)), some (.int (iz w)), none] := by
  obtain ⟨⟨hM, hP, hE, hc5, hc6, hc7⟩, hb⟩ := INV_IV hI hn
  have h1 := hM.2.2.1
  have h10 := hM.2.2.2.1
  have hr := hM.1
  have hs := hP.2.1
  have hZ : ∀ z, 0 ≤ z → z < 3 → zI m z := fun z a b => (hM.2.2.2.2.1 z a b).1
  have hJ : ∀ j, 0 ≤ j → j < 12 → jI m j := fun j a b => (hM.2.2.2.2.2.1 j a b).1
  exact PR_q (k_register hB hR hM hP k j w hk hj hw) (fun Bx hb => d_register hb hr h10 k j w hk hj hw) (INV_same hI)
theorem pr_effects (hB : hxo G (hp G B M m) (m 1 0) (m 10 0) ad) (hG : GS G) (hR : REL s m) (hI : INV n m) (hn : 0 ≤ n ∧ n ≤ 512) (j : Int) (hj : i32 j) : PR G n B M ad s m 107 [some (.int (iz j)), none] 187 [some (.int (iz j))] := by
  obtain ⟨⟨hM, hP, hE, hc5, hc6, hc7⟩, hb⟩ := INV_IV hI hn
  have h1 := hM.2.2.1
  have h10 := hM.2.2.2.1
  have hr := hM.1
  have hs := hP.2.1
  have hZ : ∀ z, 0 ≤ z → z < 3 → zI m z := fun z a b => (hM.2.2.2.2.1 z a b).1
  have hJ : ∀ j, 0 ≤ j → j < 12 → jI m j := fun j a b => (hM.2.2.2.2.2.1 j a b).1
  exact PR_q (k_effects hB hR hM j hj) (fun Bx hb Q => (d_one hb h10 j hj Q).1) (INV_same hI)
theorem pr_effect (hB : hxo G (hp G B M m) (m 1 0) (m 10 0) ad) (hG : GS G) (hR : REL s m) (hI : INV n m) (hn : 0 ≤ n ∧ n ≤ 512) (j i w : Int) (hj : i32 j) (hi : i32 i) (hw : i32 w) : PR G n B M ad s m 108 [some (.int (iz j)), some (.int (iz i)), some (.int (iz w)), none] 188 [some (.int (iz j)), some (.int (iz i)), some (.int (iz w))] := by
  obtain ⟨⟨hM, hP, hE, hc5, hc6, hc7⟩, hb⟩ := INV_IV hI hn
  have h1 := hM.2.2.1
  have h10 := hM.2.2.2.1
  have hr := hM.1
  have hs := hP.2.1
  have hZ : ∀ z, 0 ≤ z → z < 3 → zI m z := fun z a b => (hM.2.2.2.2.1 z a b).1
  have hJ : ∀ j, 0 ≤ j → j < 12 → jI m j := fun j a b => (hM.2.2.2.2.2.1 j a b).1
  exact PR_q (k_effect hB hR hM j i w hj hi hw) (fun Bx hb => d_effect hb h10 (fun j a b => (hM.2.2.2.2.2.1 j a b).2.1.1) j i w hj hi hw) (INV_same hI)
theorem pr_waiting (hB : hxo G (hp G B M m) (m 1 0) (m 10 0) ad) (hG : GS G) (hR : REL s m) (hI : INV n m) (hn : 0 ≤ n ∧ n ≤ 512) (j : Int) (hj : i32 j) : PR G n B M ad s m 109 [some (.int (iz j)), none] 189 [some (.int (iz j))] := by
  obtain ⟨⟨hM, hP, hE, hc5, hc6, hc7⟩, hb⟩ := INV_IV hI hn
  have h1 := hM.2.2.1
  have h10 := hM.2.2.2.1
  have hr := hM.1
  have hs := hP.2.1
  have hZ : ∀ z, 0 ≤ z → z < 3 → zI m z := fun z a b => (hM.2.2.2.2.1 z a b).1
  have hJ : ∀ j, 0 ≤ j → j < 12 → jI m j := fun j a b => (hM.2.2.2.2.2.1 j a b).1
  exact PR_q (k_waiting hB hR hM j hj) (fun Bx hb Q => (d_one hb h10 j hj Q).2.1) (INV_same hI)
theorem pr_passed (hB : hxo G (hp G B M m) (m 1 0) (m 10 0) ad) (hG : GS G) (hR : REL s m) (hI : INV n m) (hn : 0 ≤ n ∧ n ≤ 512) (j : Int) (hj : i32 j) : PR G n B M ad s m 110 [some (.int (iz j)), none] 190 [some (.int (iz j))] := by
  obtain ⟨⟨hM, hP, hE, hc5, hc6, hc7⟩, hb⟩ := INV_IV hI hn
  have h1 := hM.2.2.1
  have h10 := hM.2.2.2.1
  have hr := hM.1
  have hs := hP.2.1
  have hZ : ∀ z, 0 ≤ z → z < 3 → zI m z := fun z a b => (hM.2.2.2.2.1 z a b).1
  have hJ : ∀ j, 0 ≤ j → j < 12 → jI m j := fun j a b => (hM.2.2.2.2.2.1 j a b).1
  exact PR_q (k_passed hB hR hM j hj) (fun Bx hb Q => (d_one hb h10 j hj Q).2.2) (INV_same hI)
theorem pr_count (hB : hxo G (hp G B M m) (m 1 0) (m 10 0) ad) (hG : GS G) (hR : REL s m) (hI : INV n m) (hn : 0 ≤ n ∧ n ≤ 512) (w : Int) (hw : i32 w) : PR G n B M ad s m 111 [some (.int (iz w))] 191 [some (.int (iz w)), none, none] := by
  obtain ⟨⟨hM, hP, hE, hc5, hc6, hc7⟩, hb⟩ := INV_IV hI hn
  have h1 := hM.2.2.1
  have h10 := hM.2.2.2.1
  have hr := hM.1
  have hs := hP.2.1
  have hZ : ∀ z, 0 ≤ z → z < 3 → zI m z := fun z a b => (hM.2.2.2.2.1 z a b).1
  have hJ : ∀ j, 0 ≤ j → j < 12 → jI m j := fun j a b => (hM.2.2.2.2.2.1 j a b).1
  exact PR_q (k_count hB hR hP w hw) (fun Bx hb => d_count hb hr w hw) (INV_same hI)
end PRS
