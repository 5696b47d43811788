/-! the small machine's jumps are the JVM's -/
theorem zk_tg_sp {α : Type} {pc : Nat} {off : Int} {f : Nat → α} {q : α} (h : (zk_tg pc off).map f = some q) : ∃ t : Nat, (pc : Int) + off = (t : Int) ∧ q = f t := by
  unfold zk_tg at h
  split at h
  next h0 =>
    cases h
    exact ⟨_, (Int.toNat_of_nonneg h0).symm, rfl⟩
  next => cases h
section ZKJ
variable {p : Program} {l : Launch} {e : Env} {R : Room} {s : State} {m : MethodId} {args : Array Value} {below : List Frame} {meth : Method} {c : Code} {H : Heap} {locs : List Loc} {cells slots : Nat} {Q : State → Prop} {cc : ByteArray} {pc len pc' : Nat} {ls : Array Slot} {st st' : List Value}
theorem zk_if1 (hx : p.tables.exec = Jvm.exec) (hb : c.code = cc) {k : ClassFile.Cond} {off : Int} {x : Int32} {r : List Value} (hd : decode cc pc = .ok (.ifCond k off, 3)) (h : (zk_tg pc off).map (fun t => if zk_c2b k x 0 then (t, r) else (pc + 3, r)) = some (pc', st'))
    (kk : W p l e R s m args below meth c H locs cells slots Q (F0 m pc' ls st')) : W p l e R s m args below meth c H locs cells slots Q (F0 m pc ls (.int x :: r)) := by
  obtain ⟨t, ht, hq⟩ := zk_tg_sp h
  by_cases hc : zk_c2b k x 0 = true
  · rw [if_pos hc] at hq
    cases hq
    cases k
    · exact lv_if_eq hx hb hd ht (fun _ => kk) (fun z => absurd (by simpa [zk_c2b] using hc) z)
    · exact lv_if_ne hx hb hd ht (fun _ => kk) (fun z => absurd z (by simpa [zk_c2b] using hc))
    · exact lv_if_lt hx hb hd ht (fun _ => kk) (fun z => absurd (by simpa [zk_c2b] using hc) z)
    · exact lv_if_ge hx hb hd ht (fun _ => kk) (fun z => absurd (by simpa [zk_c2b] using hc) z)
    · exact lv_if_gt hx hb hd ht (fun _ => kk) (fun z => absurd (by simpa [zk_c2b] using hc) z)
    · exact lv_if_le hx hb hd ht (fun _ => kk) (fun z => absurd (by simpa [zk_c2b] using hc) z)
  · rw [if_neg hc] at hq
    cases hq
    have hc' : zk_c2b k x 0 = false := by simpa using hc
    cases k
    · exact lv_if_eq hx hb hd ht (fun z => absurd z (by simpa [zk_c2b] using hc')) (fun _ => kk)
    · exact lv_if_ne hx hb hd ht (fun z => absurd (by simpa [zk_c2b] using hc') z) (fun _ => kk)
    · exact lv_if_lt hx hb hd ht (fun z => absurd z (by simpa [zk_c2b] using hc')) (fun _ => kk)
    · exact lv_if_ge hx hb hd ht (fun z => absurd z (by simpa [zk_c2b] using hc')) (fun _ => kk)
    · exact lv_if_gt hx hb hd ht (fun z => absurd z (by simpa [zk_c2b] using hc')) (fun _ => kk)
    · exact lv_if_le hx hb hd ht (fun z => absurd z (by simpa [zk_c2b] using hc')) (fun _ => kk)
theorem zk_if2 (hx : p.tables.exec = Jvm.exec) (hb : c.code = cc) {k : ClassFile.Cond} {off : Int} {x y : Int32} {r : List Value} (hd : decode cc pc = .ok (.if_icmp k off, 3)) (h : (zk_tg pc off).map (fun t => if zk_c2b k x y then (t, r) else (pc + 3, r)) = some (pc', st'))
    (kk : W p l e R s m args below meth c H locs cells slots Q (F0 m pc' ls st')) : W p l e R s m args below meth c H locs cells slots Q (F0 m pc ls (.int y :: .int x :: r)) := by
  obtain ⟨t, ht, hq⟩ := zk_tg_sp h
  by_cases hc : zk_c2b k x y = true
  · rw [if_pos hc] at hq
    cases hq
    cases k
    · exact lv_icmp_eq hx hb hd ht (fun _ => kk) (fun z => absurd (by simpa [zk_c2b] using hc) z)
    · exact lv_icmp_ne hx hb hd ht (fun _ => kk) (fun z => absurd z (by simpa [zk_c2b] using hc))
    · exact lv_icmp_lt hx hb hd ht (fun _ => kk) (fun z => absurd (by simpa [zk_c2b] using hc) z)
    · exact lv_icmp_ge hx hb hd ht (fun _ => kk) (fun z => absurd (by simpa [zk_c2b] using hc) z)
    · exact lv_icmp_gt hx hb hd ht (fun _ => kk) (fun z => absurd (by simpa [zk_c2b] using hc) z)
    · exact lv_icmp_le hx hb hd ht (fun _ => kk) (fun z => absurd (by simpa [zk_c2b] using hc) z)
  · rw [if_neg hc] at hq
    cases hq
    have hc' : zk_c2b k x y = false := by simpa using hc
    cases k
    · exact lv_icmp_eq hx hb hd ht (fun z => absurd z (by simpa [zk_c2b] using hc')) (fun _ => kk)
    · exact lv_icmp_ne hx hb hd ht (fun z => absurd (by simpa [zk_c2b] using hc') z) (fun _ => kk)
    · exact lv_icmp_lt hx hb hd ht (fun z => absurd z (by simpa [zk_c2b] using hc')) (fun _ => kk)
    · exact lv_icmp_ge hx hb hd ht (fun z => absurd z (by simpa [zk_c2b] using hc')) (fun _ => kk)
    · exact lv_icmp_gt hx hb hd ht (fun z => absurd z (by simpa [zk_c2b] using hc')) (fun _ => kk)
    · exact lv_icmp_le hx hb hd ht (fun z => absurd z (by simpa [zk_c2b] using hc')) (fun _ => kk)
theorem zk_jump_ok (hx : p.tables.exec = Jvm.exec) (hb : c.code = cc) {ins : Instr} (hd : decode cc pc = .ok (ins, len)) (h : zk_jump ins len pc st = some (pc', st'))
    (kk : W p l e R s m args below meth c H locs cells slots Q (F0 m pc' ls st')) : W p l e R s m args below meth c H locs cells slots Q (F0 m pc ls st) := by
  cases ins
  case goto off =>
    dsimp only [zk_jump] at h
    split at h
    next hl => subst hl; obtain ⟨t, ht, hq⟩ := zk_tg_sp h; cases hq; exact lv_goto hx hb hd ht kk
    next => cases h
  case ifCond k off =>
    dsimp only [zk_jump] at h
    split at h
    next hl =>
      subst hl
      split at h
      next x r => exact zk_if1 hx hb hd h kk
      next => cases h
    next => cases h
  case if_icmp k off =>
    dsimp only [zk_jump] at h
    split at h
    next hl =>
      subst hl
      split at h
      next x r => exact zk_if2 hx hb hd h kk
      next => cases h
    next => cases h
  case ifnull off =>
    dsimp only [zk_jump] at h
    split at h
    next hl =>
      subst hl
      split at h
      next a r => cases h; exact lv_ifnull hx hb hd kk
      next r => obtain ⟨t, ht, hq⟩ := zk_tg_sp h; cases hq; exact lv_ifnullN hx hb hd ht kk
      next => cases h
    next => cases h
  case ifnonnull off =>
    dsimp only [zk_jump] at h
    split at h
    next hl =>
      subst hl
      split at h
      next a r => obtain ⟨t, ht, hq⟩ := zk_tg_sp h; cases hq; exact lv_ifnonnull hx hb hd ht kk
      next r => cases h; exact lv_ifnonnullN hx hb hd kk
      next => cases h
    next => cases h
  case tableswitch dflt lo hi offs =>
    dsimp only [zk_jump] at h
    split at h
    next x r =>
      split at h
      next hc => obtain ⟨t, ht, hq⟩ := zk_tg_sp h; cases hq; exact lv_tableOut hx hb hd hc ht kk
      next hc =>
        split at h
        next off ho => obtain ⟨t, ht, hq⟩ := zk_tg_sp h; cases hq; exact lv_tableIn hx hb hd (fun z => hc (Or.inl z)) (fun z => hc (Or.inr z)) ho ht kk
        next => cases h
    next => cases h
  case lookupswitch dflt ps =>
    dsimp only [zk_jump] at h
    split at h
    next x r =>
      split at h
      next hc => obtain ⟨t, ht, hq⟩ := zk_tg_sp h; cases hq; exact lv_lookup hx hb hd hc rfl ht kk
      next => cases h
    next => cases h
  all_goals (exact nomatch h)
end ZKJ
