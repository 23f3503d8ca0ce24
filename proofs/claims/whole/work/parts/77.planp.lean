/-! PLANS, purely -/
def gCN (c : Nat → Nat) (x : Nat) : Nat → Nat
  | 0 => 0
  | n + 1 => if x.testBit n = true then gCN c x n + c n else gCN c x n
theorem gCo_CN {f : Nat → Int32} {c : Nat → Nat} {x : Nat} (hx : x < 2147483648) : ∀ n, n ≤ 31 → (∀ s, s < n → f s = nI (c s)) → gCo f (nI x) n = nI (gCN c x n)
  | 0, _, _ => rfl
  | n + 1, hn, h => by
    simp only [gCo, gCN]
    rw [gCo_CN hx n (by omega) (fun s hs => h s (by omega)), h n (by omega)]
    by_cases q : x.testBit n = true
    · have e : ¬ (nI x >>> nI n &&& nI 1 = nI 0) := by rw [w_tb hx (by omega), q]; decide
      rw [if_neg e, if_pos q, nI_add]
    · have e : (nI x >>> nI n &&& nI 1 = nI 0) := by rw [w_tb hx (by omega)]; simpa using q
      rw [if_pos e, if_neg q]
theorem gCN_mono {c : Nat → Nat} {x y : Nat} (h : ∀ s, x.testBit s = true → y.testBit s = true) : ∀ n, gCN c x n ≤ gCN c y n
  | 0 => Nat.le_refl _
  | n + 1 => by
    have ih := gCN_mono (c := c) h n
    simp only [gCN]
    by_cases q : x.testBit n = true
    · rw [if_pos q, if_pos (h n q)]; omega
    · rw [if_neg q]; split <;> omega
theorem gCN_lt {c : Nat → Nat} {x y s : Nat} (hc : ∀ s, s < 6 → 1 ≤ c s) (h : ∀ s, x.testBit s = true → y.testBit s = true) (hy : y.testBit s = true) (hx : x.testBit s = false) : ∀ n, n ≤ 6 → s < n → gCN c x n < gCN c y n
  | 0, _, q => by omega
  | n + 1, hn, q => by
    simp only [gCN]
    by_cases e : s = n
    · subst e
      have := gCN_mono (c := c) h s
      have := hc s (by omega)
      rw [if_neg (by rw [hx]; decide), if_pos hy]; omega
    · have ih := gCN_lt hc h hy hx n (by omega) (by omega)
      by_cases z : x.testBit n = true
      · rw [if_pos z, if_pos (h n z)]; omega
      · rw [if_neg z]; split <;> omega
theorem gCN_le {c : Nat → Nat} {x : Nat} (hc : ∀ s, s < 6 → c s ≤ 9) : ∀ n, n ≤ 6 → gCN c x n ≤ 9 * n
  | 0, _ => by simp [gCN]
  | n + 1, hn => by
    have ih := gCN_le (x := x) hc n (by omega)
    have := hc n (by omega)
    simp only [gCN]
    split <;> omega
/-- a plan's surroundings: how many boxes are kept; their sources, how long they are fresh; the costs; by tick: who is down, who is asked, what is spent; the budget; the ticks -/
abbrev gPE : Type := Nat × (Nat → Nat) × (Nat → Nat) × (Nat → Nat) × (Nat → Nat) × (Nat → Nat) × (Nat → Nat) × Nat × Nat
def pK (E : gPE) : Nat := E.1
def pN (E : gPE) : Nat → Nat := E.2.1
def pF (E : gPE) : Nat → Nat := E.2.2.1
def pc (E : gPE) : Nat → Nat := E.2.2.2.1
def pd (E : gPE) : Nat → Nat := E.2.2.2.2.1
def pa (E : gPE) : Nat → Nat := E.2.2.2.2.2.1
def ps (E : gPE) : Nat → Nat := E.2.2.2.2.2.2.1
def pl (E : gPE) : Nat := E.2.2.2.2.2.2.2.1
def ph (E : gPE) : Nat := E.2.2.2.2.2.2.2.2
def pAb (E : gPE) (i x : Nat) : Nat := gAn (x ||| pa E i) (pd E i)
abbrev pRn (E : gPE) (i x b : Nat) : Prop := gAn (pN E b) (pAb E i x) = 0
def pCs (E : gPE) (i x : Nat) : Nat := gCN (pc E) (gAn x (pa E i)) 6
abbrev pOf (E : gPE) (i x : Nat) : Prop := x &&& pd E i = 0 ∧ (pCs E i x = 0 ∨ pCs E i x + ps E i ≤ pl E)
abbrev pOk (E : gPE) (i x : Nat) (l : Nat → Nat) : Prop := ∀ b, b < pK E → pRn E i x b ∨ 1 ≤ l b
def pNx (E : gPE) (i x : Nat) (l : Nat → Nat) : Nat → Nat := fun b => if pRn E i x b then pF E b else l b - 1
/-- the reference's choice among the sets below n: the least cost, and the least set that has it -/
def pSt (E : gPE) (i : Nat) (l : Nat → Nat) (nxt : (Nat → Nat) → Nat) : Nat → Nat × Nat
  | 0 => (1000000, 0)
  | x + 1 => if pOf E i x ∧ pOk E i x l ∧ pCs E i x + nxt (pNx E i x l) < (pSt E i l nxt x).1 then (pCs E i x + nxt (pNx E i x l), x) else pSt E i l nxt x
def pV (E : gPE) : Nat → (Nat → Nat) → Nat
  | 0, _ => 0
  | r + 1, l => (pSt E (ph E - (r + 1)) l (pV E r) 64).1
def pX (E : gPE) (r : Nat) (l : Nat → Nat) : Nat := (pSt E (ph E - (r + 1)) l (pV E r) 64).2
theorem pSt_le {E : gPE} {i : Nat} {l : Nat → Nat} {nxt : (Nat → Nat) → Nat} : ∀ n, (pSt E i l nxt n).1 ≤ 1000000 ∧ ∀ x, x < n → pOf E i x → pOk E i x l → (pSt E i l nxt n).1 ≤ pCs E i x + nxt (pNx E i x l)
  | 0 => ⟨by simp [pSt], fun x hx => by omega⟩
  | n + 1 => by
    obtain ⟨h1, h2⟩ := pSt_le (E := E) (i := i) (l := l) (nxt := nxt) n
    simp only [pSt]
    split
    · rename_i q
      refine ⟨by dsimp only; omega, fun x hx p1 p2 => ?_⟩
      dsimp only
      by_cases e : x = n
      · subst e; exact Nat.le_refl _
      · have := h2 x (by omega) p1 p2
        omega
    · rename_i q
      refine ⟨h1, fun x hx p1 p2 => ?_⟩
      by_cases e : x = n
      · subst e
        exact Nat.le_of_not_lt (fun z => q ⟨p1, p2, z⟩)
      · exact h2 x (by omega) p1 p2
theorem pSt_at {E : gPE} {i : Nat} {l : Nat → Nat} {nxt : (Nat → Nat) → Nat} : ∀ n, (pSt E i l nxt n).1 < 1000000 → (pSt E i l nxt n).2 < n ∧ pOf E i (pSt E i l nxt n).2 ∧ pOk E i (pSt E i l nxt n).2 l ∧ (pSt E i l nxt n).1 = pCs E i (pSt E i l nxt n).2 + nxt (pNx E i (pSt E i l nxt n).2 l) ∧ ∀ x, x < (pSt E i l nxt n).2 → pOf E i x → pOk E i x l → (pSt E i l nxt n).1 < pCs E i x + nxt (pNx E i x l)
  | 0, h => by simp [pSt] at h
  | n + 1, h => by
    simp only [pSt] at h ⊢
    by_cases q : pOf E i n ∧ pOk E i n l ∧ pCs E i n + nxt (pNx E i n l) < (pSt E i l nxt n).1
    · rw [if_pos q] at h ⊢
      refine ⟨by dsimp only; omega, q.1, q.2.1, rfl, fun x hx p1 p2 => ?_⟩
      dsimp only at hx ⊢
      have := (pSt_le (E := E) (i := i) (l := l) (nxt := nxt) n).2 x hx p1 p2
      omega
    · rw [if_neg q] at h ⊢
      obtain ⟨h1, h2, h3, h4, h5⟩ := pSt_at n h
      exact ⟨by omega, h2, h3, h4, h5⟩
theorem pSt_congr {E : gPE} {i : Nat} {l l' : Nat → Nat} {nxt : (Nat → Nat) → Nat} (hl : ∀ b, b < pK E → l b = l' b) (hn : ∀ m m' : Nat → Nat, (∀ b, b < pK E → m b = m' b) → nxt m = nxt m') : ∀ n, pSt E i l nxt n = pSt E i l' nxt n
  | 0 => rfl
  | n + 1 => by
    simp only [pSt]
    rw [pSt_congr hl hn n, hn (pNx E i n l) (pNx E i n l') (fun b hb => by simp only [pNx, hl b hb])]
    have e : pOk E i n l ↔ pOk E i n l' := by
      constructor
      · intro h b hb; rw [← hl b hb]; exact h b hb
      · intro h b hb; rw [hl b hb]; exact h b hb
    simp only [e]
theorem pV_congr {E : gPE} : ∀ (r : Nat) (l l' : Nat → Nat), (∀ b, b < pK E → l b = l' b) → pV E r l = pV E r l'
  | 0, _, _, _ => rfl
  | r + 1, l, l', h => by
    simp only [pV]
    rw [pSt_congr h (fun m m' q => pV_congr r m m' q)]
theorem pX_congr {E : gPE} {r : Nat} {l l' : Nat → Nat} (h : ∀ b, b < pK E → l b = l' b) : pX E r l = pX E r l' := by
  simp only [pX]
  rw [pSt_congr h (fun m m' q => pV_congr r m m' q)]
/-! the class's options -/
def pRm (E : gPE) (i x : Nat) : Nat → Nat
  | 0 => 0
  | b + 1 => if pRn E i x b then pRm E i x b ||| (1 <<< b) else pRm E i x b
def pNo (E : gPE) (m : Nat) : Nat → Nat
  | 0 => 0
  | b + 1 => if m.testBit b = true then pNo E m b ||| pN E b else pNo E m b
theorem pRm_bit {E : gPE} {i x j : Nat} : ∀ k, (pRm E i x k).testBit j = decide (j < k ∧ pRn E i x j)
  | 0 => by simp [pRm]
  | k + 1 => by
    simp only [pRm]
    by_cases h : pRn E i x k
    · rw [if_pos h, Nat.testBit_or, pRm_bit k, Nat.one_shiftLeft, Nat.testBit_two_pow]
      by_cases e : j = k
      · subst e
        rw [decide_eq_true rfl, Bool.or_true]
        exact (decide_eq_true ⟨by omega, h⟩).symm
      · simp [show j < k + 1 ↔ j < k by omega, show ¬ k = j by omega]
    · rw [if_neg h, pRm_bit k]
      by_cases e : j = k
      · subst e; simp [h]
      · simp [show j < k + 1 ↔ j < k by omega]
theorem pNo_bit {E : gPE} {m s : Nat} : ∀ k, (pNo E m k).testBit s = true ↔ ∃ b, b < k ∧ m.testBit b = true ∧ (pN E b).testBit s = true
  | 0 => by simp [pNo]
  | k + 1 => by
    simp only [pNo]
    by_cases h : m.testBit k = true
    · rw [if_pos h, Nat.testBit_or, Bool.or_eq_true, pNo_bit k]
      constructor
      · rintro (⟨b, h1, h2⟩ | h1)
        · exact ⟨b, by omega, h2⟩
        · exact ⟨k, by omega, h, h1⟩
      · rintro ⟨b, h1, h2, h3⟩
        by_cases e : b = k
        · subst e; exact Or.inr h3
        · exact Or.inl ⟨b, by omega, h2, h3⟩
    · rw [if_neg h, pNo_bit k]
      constructor
      · rintro ⟨b, h1, h2⟩
        exact ⟨b, by omega, h2⟩
      · rintro ⟨b, h1, h2, h3⟩
        refine ⟨b, ?_, h2, h3⟩
        by_cases e : b = k
        · subst e; exact absurd h2 h
        · omega
def pAs (E : gPE) (i : Nat) : Nat := gAn (gAn (pNo E (1 <<< pK E - 1) (pK E)) (pa E i)) (pd E i)
abbrev pUs (E : gPE) (i x : Nat) : Prop := gAn x (pAs E i) = 0 ∧ gAn (pNo E (pRm E i x (pK E)) (pK E)) (pa E i) = x ∧ (gCN (pc E) x 6 = 0 ∨ ps E i + gCN (pc E) x 6 ≤ pl E)
theorem gAn_0 {a b : Nat} : gAn a b = 0 ↔ ∀ s, a.testBit s = true → b.testBit s = true := by
  constructor
  · intro h s hs
    have := congrArg (fun z => z.testBit s) h
    simp only [gAn_bit, Nat.zero_testBit, hs, Bool.true_and] at this
    simpa using this
  · intro h
    refine Nat.eq_of_testBit_eq (fun s => ?_)
    rw [gAn_bit, Nat.zero_testBit]
    cases h1 : a.testBit s
    · rfl
    · rw [h s h1]; rfl
theorem pRn_bit {E : gPE} {i x b : Nat} : pRn E i x b ↔ ∀ s, (pN E b).testBit s = true → (x.testBit s = true ∨ (pa E i).testBit s = true) ∧ (pd E i).testBit s = false := by
  unfold pRn
  rw [gAn_0]
  refine forall_congr' (fun s => ?_)
  simp only [pAb, gAn_bit, Nat.testBit_or, Bool.and_eq_true, Bool.or_eq_true, Bool.not_eq_true']
theorem gAnd_0 {a b : Nat} : a &&& b = 0 ↔ ∀ s, a.testBit s = true → b.testBit s = false := by
  constructor
  · intro h s hs
    have := congrArg (fun z => z.testBit s) h
    simp only [Nat.testBit_and, Nat.zero_testBit, hs, Bool.true_and] at this
    exact this
  · intro h
    refine Nat.eq_of_testBit_eq (fun s => ?_)
    rw [Nat.testBit_and, Nat.zero_testBit]
    cases h1 : a.testBit s
    · rfl
    · rw [h s h1]; rfl
