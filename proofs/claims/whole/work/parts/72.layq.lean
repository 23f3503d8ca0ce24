/-! LAYING: what an order comes to, reckoned at its end -/
def gHm (pl : Nat → Bool) (G rw : Nat → Nat) : Nat → Nat
  | 0 => 0
  | b + 1 => if pl b = true then max (gHm pl G rw b) (rw b + G b) else gHm pl G rw b
def gSu (pl : Nat → Bool) (W rw : Nat → Nat) : Nat → Nat
  | 0 => 0
  | b + 1 => if pl b = true then gSu pl W rw b + W b * rw b else gSu pl W rw b
theorem gHm_up {pl : Nat → Bool} {G rw : Nat → Nat} {k r : Nat} (hk : pl k = false) : ∀ n, gHm (fun j => pl j || j == k) G (gUp rw k r) n = if k < n then max (gHm pl G rw n) (r + G k) else gHm pl G rw n
  | 0 => by simp [gHm]
  | b + 1 => by
    simp only [gHm]
    rw [gHm_up hk b]
    by_cases e : b = k
    · subst e
      simp only [hk, Bool.false_or, beq_self_eq_true, if_true, gUp, Nat.lt_irrefl, if_false, Nat.lt_succ_self, Bool.false_eq_true]
    · have e1 : (b == k) = false := by simpa using e
      have e2 : (k < b + 1) = (k < b) := by simp; omega
      simp only [e1, Bool.or_false, gUp, if_neg e, e2]
      by_cases h1 : pl b = true
      · by_cases h2 : k < b
        · simp only [h1, h2, if_true]; omega
        · simp only [h1, h2, if_true, if_false]
      · by_cases h2 : k < b
        · simp only [h1, h2, if_true, if_false, Bool.false_eq_true]
        · simp only [h1, h2, if_false, Bool.false_eq_true]
theorem gSu_up {pl : Nat → Bool} {W rw : Nat → Nat} {k r : Nat} (hk : pl k = false) : ∀ n, gSu (fun j => pl j || j == k) W (gUp rw k r) n = if k < n then gSu pl W rw n + W k * r else gSu pl W rw n
  | 0 => by simp [gSu]
  | b + 1 => by
    simp only [gSu]
    rw [gSu_up hk b]
    by_cases e : b = k
    · subst e
      simp only [hk, Bool.false_or, beq_self_eq_true, if_true, gUp, Nat.lt_irrefl, if_false, Nat.lt_succ_self, Bool.false_eq_true]
    · have e1 : (b == k) = false := by simpa using e
      have e2 : (k < b + 1) = (k < b) := by simp; omega
      simp only [e1, Bool.or_false, gUp, if_neg e, e2]
      by_cases h1 : pl b = true
      · by_cases h2 : k < b
        · simp only [h1, h2, if_true]; omega
        · simp only [h1, h2, if_true, if_false]
      · by_cases h2 : k < b
        · simp only [h1, h2, if_true, if_false, Bool.false_eq_true]
        · simp only [h1, h2, if_false, Bool.false_eq_true]
theorem gHm_F {F : Nat → Prop} [DecidablePred F] {G R rw : Nat → Nat} (h : ∀ k, F k → rw k = R k) : ∀ n, gHm (fun j => decide (F j)) G rw n = gHF F G R n
  | 0 => rfl
  | b + 1 => by
    simp only [gHm, gHF, gHm_F h b, decide_eq_true_eq]
    by_cases q : F b
    · rw [if_pos q, if_pos q, h b q]
    · rw [if_neg q, if_neg q]
theorem gSu_F {F : Nat → Prop} [DecidablePred F] {W R rw : Nat → Nat} (h : ∀ k, F k → rw k = R k) : ∀ n, gSu (fun j => decide (F j)) W rw n = gSF F W R n
  | 0 => rfl
  | b + 1 => by
    simp only [gSu, gSF, gSu_F h b, decide_eq_true_eq]
    by_cases q : F b
    · rw [if_pos q, if_pos q, h b q]
    · rw [if_neg q, if_neg q]
theorem gHm_all {pl : Nat → Bool} {G rw : Nat → Nat} : ∀ n, (∀ j, j < n → pl j = true) → gHm pl G rw n = gHm (fun _ => true) G rw n
  | 0, _ => rfl
  | b + 1, h => by simp only [gHm, h b (by omega), if_true, gHm_all b (fun j hj => h j (by omega))]
theorem gSu_all {pl : Nat → Bool} {W rw : Nat → Nat} : ∀ n, (∀ j, j < n → pl j = true) → gSu pl W rw n = gSu (fun _ => true) W rw n
  | 0, _ => rfl
  | b + 1, h => by simp only [gSu, h b (by omega), if_true, gSu_all b (fun j hj => h j (by omega))]
/-- every order of a set has each of its boxes once -/
theorem gPrm_ok : ∀ m : Fin 64, ∀ p ∈ gPrm (gLst m.val 6).length m.val, p.Nodup ∧ ∀ j : Fin 6, j.val ∈ p ↔ m.val.testBit j.val = true := by decide +kernel
theorem gPrm_lt : ∀ m : Fin 64, ∀ p ∈ gPrm (gLst m.val 6).length m.val, ∀ j ∈ p, j < 6 := by decide +kernel
theorem gPrm_ne (m : Fin 64) : gPrm (gLst m.val 6).length m.val ≠ [] := by
  intro h
  have := (gChp_ok m).2
  rw [h] at this
  cases this
/-- an order's height stays below 73 -/
theorem gRL_lt {W D G : Nat → Nat} {w : Nat} : ∀ (p : List Nat) (tk : Nat → Nat) (ht sm : Nat) (rw cl : Nat → Nat), (∀ k ∈ p, D k ≤ w ∧ G k ≤ 6) → (∀ i, ht ≤ i → tk i = 0) → ht + 6 * p.length ≤ 72 → (gRL W D G w p tk ht sm rw cl).1 ≤ 72
  | [], tk, ht, sm, rw, cl, _, _, h => by simp only [gRL]; simpa using h
  | k :: p, tk, ht, sm, rw, cl, ha, hz, h => by
    obtain ⟨h1, h2⟩ := ha k List.mem_cons_self
    obtain ⟨r, c, hr, hF⟩ := gFF_ex (g := G k) h1 hz
    simp only [gRL, gFit_eq hF]
    simp only [List.length_cons] at h
    refine gRL_lt p _ _ _ _ _ (fun j hj => ha j (List.mem_cons_of_mem _ hj)) (fun i hi => ?_) (by omega)
    simp only [gPut]
    rw [if_neg (by omega)]
    exact hz i (by omega)
theorem gBet_1 (B z : gBs) : (gBet B z).1 ≤ B.1 ∧ (gBet B z).1 ≤ z.1 := by
  unfold gBet
  split
  · omega
  · omega
