/-! the start keeps the invariant -/
theorem g1M_i {base tW tK b c j : Nat} {xs : Nat → Int32} (hK : tK < base) (hb : b < base) : (g0M tW tK b xs).1 (base + c) j = nI 0 := by
  show (if base + c = tK then _ else if base + c = b then _ else _) = _
  rw [if_neg (by omega), if_neg (by omega)]
  rfl
theorem g1M_inv {base tW tK b : Nat} {xs : Nat → Int32} (h0 : 0 < base) (hK : tK < base) (hb : b < base) : gInv base b (fun j => (g1M base tW tK b xs).1 b j) (g1M base tW tK b xs) := by
  have z := fun c j => g1M_i (tW := tW) (c := c) (j := j) (xs := xs) hK hb
  have z0 := z 0
  simp only [Nat.add_zero] at z0
  have pt : ∀ a k c, gLkp a k (gC2l ++ gC1) = some c → (g1M base tW tK b xs).2.2 (base + a) k = base + c := by
    intro a k c h
    show g2R (base + 110) (base + 111) (g1R base (g0M tW tK b xs).2.2) (base + a) k = _
    rw [g12_fd]
    exact gFd_lk _ h
  have one : (1 : Int32) = nI 1 := rfl
  have sixty : (60 : Int32) = nI 60 := rfl
  refine ⟨fun j => rfl, gPS_start, ?_, ?_, ?_, ?_, ?_, ?_, ?_, 0, 0, 0, 56, ?_, ?_, fun k hk => by omega, fun k hk => by omega, fun k hk => by omega, fun k hk => by omega, fun j k hj => by omega, ?_, ?_, ?_⟩
  · refine ⟨?_, ?_, ?_, ?_, ?_, ?_, ?_, fun s hs => ?_⟩
    all_goals (simp only [g1M, g2L, Nat.add_assoc, Nat.reduceAdd])
    · simp (disch := omega) only [gU_n, gU_s]
    · simp (disch := omega) only [gU_n, gU_s]
    · simp (disch := omega) only [gU_n, gU_s]
    · simp (disch := omega) only [gU_n, gU_s]
    · simp (disch := omega) only [gU_n, gU_s]
    · simp (disch := omega) only [gU_n, gU_s]
    · simp (disch := omega) only [gU_n, gU_s]
    · rcases (show s = 0 ∨ s = 1 ∨ s = 2 ∨ s = 3 ∨ s = 4 ∨ s = 5 by omega) with rfl | rfl | rfl | rfl | rfl | rfl
      all_goals (simp (disch := omega) only [gU_n, gU_s, Nat.reduceAdd, Nat.add_zero])
      all_goals rfl
  · refine ⟨0, by omega, ?_, ?_, fun j hj => by omega⟩
    all_goals (simp (disch := omega) only [g1M, g2I, g1I, Nat.add_assoc, Nat.reduceAdd, gU_n, z])
  · simp (disch := omega) only [gI_pc, g1M, g2I, g1I, Nat.add_assoc, Nat.reduceAdd, gU_n, gU_s]
  · refine ⟨fun s hs => ⟨1, by omega, by omega, ?_⟩, 60, by omega, ?_, ?_⟩
    · rcases (show s = 0 ∨ s = 1 ∨ s = 2 ∨ s = 3 ∨ s = 4 ∨ s = 5 by omega) with rfl | rfl | rfl | rfl | rfl | rfl
      all_goals (simp (disch := omega) only [g1M, g2I, g1I, Nat.add_assoc, Nat.reduceAdd, gU_n, gU_s, one, and_self])
    all_goals (simp (disch := omega) only [g1M, g2I, g1I, Nat.add_assoc, Nat.reduceAdd, gU_n, gU_s, sixty])
  · refine ⟨0, by omega, ?_, ?_, fun j hj => by omega⟩
    all_goals (simp (disch := omega) only [g1M, g2I, g1I, Nat.add_assoc, Nat.reduceAdd, gU_n, z])
  · refine ⟨0, by omega, ?_, ?_, fun j hj => by omega⟩
    all_goals (simp (disch := omega) only [g1M, g2I, g1I, Nat.add_assoc, Nat.reduceAdd, gU_n, z])
  · refine ⟨0, 0, by omega, by omega, ?_, ?_, ?_, ?_, ?_⟩
    all_goals (simp (disch := omega) only [g1M, g2I, g1I, Nat.add_assoc, Nat.reduceAdd, gU_n, z])
  · refine ⟨Or.inl rfl, pt 0 7 56 (by decide +kernel), pt 0 8 83 (by decide +kernel), ⟨46, Or.inl rfl, pt 37 9 46 (by decide +kernel), pt 37 10 47 (by decide +kernel)⟩, Or.inl (pt 56 7 82 (by decide +kernel)), Or.inl (pt 83 7 109 (by decide +kernel))⟩
  · refine ⟨by omega, by omega, by omega, ?_, ?_, ?_, ?_, ?_⟩
    all_goals (simp (disch := omega) only [g1M, g2I, g1I, Nat.add_assoc, Nat.reduceAdd, Nat.add_zero, gU_n, z, z0])
  · refine ⟨0, 0, fun _ => 0, fun _ => 0, by omega, by omega, ?_, ?_, ?_, fun i hi => by omega, fun i hi => by omega, fun i hi => by omega⟩
    all_goals (simp (disch := omega) only [g1M, g2I, g1I, Nat.add_assoc, Nat.reduceAdd, gU_n, z])
  · refine ⟨0, by omega, ?_, ?_, fun q => absurd rfl q⟩
    all_goals (simp (disch := omega) only [g1M, g2I, g1I, Nat.add_assoc, Nat.reduceAdd, gU_n, z, if_true])
  · refine ⟨0, by omega, ?_, ?_, fun q => by omega⟩
    all_goals (simp (disch := omega) only [g1M, g2I, g1I, Nat.add_assoc, Nat.reduceAdd, Nat.add_zero, gU_n, z, z0])
/-- the law, out of the three ops that are left -/
theorem gLaw_of (hrd : ∀ {S : gSh} {β b : Nat} {xs : Nat → Int32}, gLS S β → b < β → gPairI S (gInv β b xs) b β (β + 110) xs 85 133 []) (hpl : ∀ {S : gSh} {β b : Nat} {xs : Nat → Int32}, gLS S β → b < β → ∀ a1 a2 : Int32, gPairI S (gInv β b xs) b β (β + 110) xs 99 174 [.int a1, .int a2]) (hly : ∀ {S : gSh} {β b : Nat} {xs : Nat → Int32}, gLS S β → b < β → ∀ a1 : Int32, gPairI S (gInv β b xs) b β (β + 110) xs 104 184 [.int a1]) : gLaw := by
  intro base tW tK b L xs h0 hW hK hb hWK hWb hKb hL X hX
  refine law_begin h0 hW hK hb hX ?_
  have hS : gLS (g1S base tW tK b L) base := gLS_start
  have eb : g1S base tW tK b L b = some (.inr (10, L)) := by
    show gX _ (g0S tW tK b L) base b = _
    rw [gX_lo hb]
    show (if b = tW then _ else if b = tK then _ else if b = b then _ else _) = _
    rw [if_neg (fun q => hWb q.symm)]
    by_cases e : b = tK
    · rw [if_pos e, (hKb e).1]
    · rw [if_neg e, if_pos rfl]
  exact law_loop (Inv := gInv base b (fun j => (g1M base tW tK b xs).1 b j)) (xs := fun j => (g1M base tW tK b xs).1 b j) (x := base) (m := base + 110) hX ⟨by decide, by decide⟩ hL eb (S_0 hS) (S_110 hS) (fun μ h => h.1)
    ⟨op_feed hS hb, op_back hS hb, hrd hS hb, op_place hS hb, op_cost hS hb, op_budget hS hb, op_value hS hb, op_down hS hb, op_ask hS hb, op_tick hS hb, op_look hS hb, op_shows hS hb, op_showed hS hb, op_box hS hb, op_aged hS hb, op_let hS hb, hpl hS hb, op_planned hS hb, op_left hS hb, op_follow hS hb, op_fix hS hb, hly hS hb, op_at hS hb, op_unseen hS hb, op_count hS hb⟩
    (L + 6) 0 (by omega) (by omega) _ (g1M_inv h0 hK hb)
