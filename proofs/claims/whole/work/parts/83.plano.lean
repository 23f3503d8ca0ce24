/-! PLANS, purely: who is left -/
def pPo (s : Nat) : Nat → Nat
  | 0 => 0
  | b + 1 => if s.testBit b = true then pPo s b + 1 else pPo s b
def pZo (m : Nat) : Nat → Nat
  | 0 => 0
  | b + 1 => if m.testBit b = true then pZo m b else pZo m b + 1
def pEx (s m : Nat) : Nat → Nat
  | 0 => 0
  | b + 1 => if s.testBit b = true ∧ m.testBit (pPo s b) = true then pEx s m b ||| (1 <<< b) else pEx s m b
def pRv (a : Nat) : Nat := (a &&& 1) * 32 + (a >>> 1 &&& 1) * 16 + (a >>> 2 &&& 1) * 8 + (a >>> 3 &&& 1) * 4 + (a >>> 4 &&& 1) * 2 + (a >>> 5 &&& 1)
def pSl (s : Nat) : Nat → Nat → Nat
  | 0, _ => 0
  | b + 1, j => if s.testBit b = true ∧ pPo s b = j then b else pSl s b j
theorem pRv_63 : ∀ a : Fin 64, pRv a.val ≤ 63 := by decide +kernel
theorem pRv_inj : ∀ a b : Fin 64, pRv a.val = pRv b.val → a = b := by decide +kernel
theorem pSl_at : ∀ (s : Fin 64) (b : Fin 6), s.val.testBit b.val = true → pSl s.val 6 (pPo s.val b.val) = b.val := by decide +kernel
theorem pSl_of : ∀ (s : Fin 64) (j : Fin 6), j.val < pPo s.val 6 → pSl s.val 6 j.val < 6 ∧ s.val.testBit (pSl s.val 6 j.val) = true ∧ pPo s.val (pSl s.val 6 j.val) = j.val := by decide +kernel
theorem pPo_6 : ∀ (s : Fin 64) (b : Fin 7), pPo s.val b.val ≤ 6 ∧ pPo s.val b.val ≤ pPo s.val 6 := by decide +kernel
theorem pEx_64 : ∀ (s : Fin 64) (m : Fin 16), pEx s.val m.val 6 < 64 := by decide +kernel
theorem pEx_sub : ∀ (s : Fin 64) (m : Fin 16), gAn (pEx s.val m.val 6) s.val = 0 := by decide +kernel
theorem pEx_bit : ∀ (s : Fin 64) (m : Fin 16) (b : Fin 6), (pEx s.val m.val 6).testBit b.val = (s.val.testBit b.val && m.val.testBit (pPo s.val b.val)) := by decide +kernel
theorem pEx_po : ∀ (s : Fin 64) (m : Fin 16) (b : Fin 7), pPo (gAn s.val (pEx s.val m.val 6)) b.val = pZo m.val (pPo s.val b.val) := by decide +kernel
theorem pEx_bc : ∀ (s : Fin 64) (m : Fin 16), pPo s.val 6 ≤ 4 → m.val < 2 ^ pPo s.val 6 → pPo (pEx s.val m.val 6) 6 = pPo m.val 6 := by decide +kernel
theorem pEx_rv : ∀ (s : Fin 64) (m m' : Fin 16), pPo s.val 6 ≤ 4 → m.val < 2 ^ pPo s.val 6 → m'.val < 2 ^ pPo s.val 6 → (pRv (pEx s.val m.val 6) < pRv (pEx s.val m'.val 6) ↔ pRv m.val < pRv m'.val) := by decide +kernel
theorem pEx_sur : ∀ (s a : Fin 64), pPo s.val 6 ≤ 4 → gAn a.val s.val = 0 → ∃ m : Fin 16, m.val < 2 ^ pPo s.val 6 ∧ pEx s.val m.val 6 = a.val := by decide +kernel
theorem pEx_all : ∀ (s : Fin 64), pPo s.val 6 ≤ 4 → pEx s.val (2 ^ pPo s.val 6 - 1) 6 = s.val := by decide +kernel
theorem pPo_1 : ∀ (s : Fin 64), 0 < s.val → 1 ≤ pPo s.val 6 := by decide +kernel
/-- the sum of the worths, the number, the lowest that differs, in one number -/
def pKy (w : Nat → Nat) (a : Nat) (n : Nat) : Nat := gCN w a n * 4096 + pPo a 6 * 64 + (63 - pRv a)
theorem pKy_lt {w w' : Nat → Nat} {a b n : Nat} (ha : a < 64) (hb : b < 64) : pKy w a n < pKy w' b n ↔ gCN w a n < gCN w' b n ∨ (gCN w a n = gCN w' b n ∧ (pPo a 6 < pPo b 6 ∨ (pPo a 6 = pPo b 6 ∧ pRv b < pRv a))) := by
  have h1 := (pPo_6 ⟨a, ha⟩ 6).1
  have h2 := (pPo_6 ⟨b, hb⟩ 6).1
  have h3 := pRv_63 ⟨a, ha⟩
  have h4 := pRv_63 ⟨b, hb⟩
  change pPo a 6 ≤ 6 at h1
  change pPo b 6 ≤ 6 at h2
  dsimp only at h3 h4
  unfold pKy
  omega
theorem pEx_w {s m : Nat} (hs : s < 64) (hm : m < 16) {W cn : Nat → Nat} (hc : ∀ b, b < 6 → s.testBit b = true → cn (pPo s b) = b) : ∀ b, b ≤ 6 → gCN W (pEx s m 6) b = gCN (fun n => W (cn n)) m (pPo s b)
  | 0, _ => rfl
  | b + 1, hb => by
    have ih := pEx_w hs hm (W := W) hc b (by omega)
    have e := pEx_bit ⟨s, hs⟩ ⟨m, hm⟩ ⟨b, by omega⟩
    dsimp only at e
    simp only [gCN, pPo, e]
    by_cases z : s.testBit b = true
    · simp only [z, Bool.true_and, if_true, gCN, hc b (by omega) z, ih]
    · rw [Bool.not_eq_true] at z
      simp only [z, Bool.false_and, Bool.false_eq_true, if_false, ih]
