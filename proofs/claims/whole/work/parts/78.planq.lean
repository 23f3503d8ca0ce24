/-! PLANS, purely: useful sets are enough -/
abbrev pWf (E : gPE) : Prop := pK E ≤ 4 ∧ (∀ b, pN E b < 64) ∧ (∀ s, s < 6 → 1 ≤ pc E s) ∧ (∀ s, s < 6 → pc E s ≤ 9) ∧ ph E ≤ 10
def pRd (E : gPE) (i x : Nat) : Nat := gAn (pNo E (pRm E i x (pK E)) (pK E)) (pa E i)
theorem pRd_bit {E : gPE} {i x s : Nat} : (pRd E i x).testBit s = true ↔ (∃ b, b < pK E ∧ pRn E i x b ∧ (pN E b).testBit s = true) ∧ (pa E i).testBit s = false := by
  unfold pRd
  rw [gAn_bit, Bool.and_eq_true, pNo_bit, Bool.not_eq_true']
  refine and_congr_left (fun _ => exists_congr (fun b => ?_))
  rw [pRm_bit]
  simp only [decide_eq_true_eq]
  constructor
  · rintro ⟨h1, h2, h3⟩; exact ⟨h1, h2.2, h3⟩
  · rintro ⟨h1, h2, h3⟩; exact ⟨h1, ⟨h1, h2⟩, h3⟩
theorem pRd_sub {E : gPE} {i x s : Nat} (h : (pRd E i x).testBit s = true) : x.testBit s = true ∧ (pd E i).testBit s = false ∧ (pa E i).testBit s = false := by
  obtain ⟨⟨b, h1, h2, h3⟩, h4⟩ := pRd_bit.1 h
  obtain ⟨h5, h6⟩ := pRn_bit.1 h2 s h3
  refine ⟨?_, h6, h4⟩
  rcases h5 with h5 | h5
  · exact h5
  · rw [h4] at h5; exact absurd h5 (by decide)
theorem le_of_bits {x y : Nat} (h : ∀ s, x.testBit s = true → y.testBit s = true) : x ≤ y := by
  have e : x &&& y = x := by
    refine Nat.eq_of_testBit_eq (fun s => ?_)
    rw [Nat.testBit_and]
    cases h1 : x.testBit s
    · rfl
    · rw [h s h1]; rfl
  rw [← e]; exact Nat.and_le_right
theorem pRd_le {E : gPE} {i x : Nat} : pRd E i x ≤ x := le_of_bits (fun _ h => (pRd_sub h).1)
theorem pRd_rn {E : gPE} {i x b : Nat} (hb : b < pK E) : pRn E i (pRd E i x) b ↔ pRn E i x b := by
  rw [pRn_bit, pRn_bit]
  constructor
  · intro h s hs
    obtain ⟨h1, h2⟩ := h s hs
    refine ⟨?_, h2⟩
    rcases h1 with h1 | h1
    · exact Or.inl (pRd_sub h1).1
    · exact Or.inr h1
  · intro h s hs
    obtain ⟨h1, h2⟩ := h s hs
    refine ⟨?_, h2⟩
    cases q : (pa E i).testBit s
    · exact Or.inl (pRd_bit.2 ⟨⟨b, hb, pRn_bit.2 h, hs⟩, q⟩)
    · exact Or.inr rfl
theorem pRm_congr {E : gPE} {i x y : Nat} (h : ∀ b, b < pK E → (pRn E i x b ↔ pRn E i y b)) : pRm E i x (pK E) = pRm E i y (pK E) := by
  refine Nat.eq_of_testBit_eq (fun s => ?_)
  rw [pRm_bit, pRm_bit]
  refine decide_eq_decide.2 ⟨fun ⟨a, b⟩ => ⟨a, (h s a).1 b⟩, fun ⟨a, b⟩ => ⟨a, (h s a).2 b⟩⟩
theorem pAll_bit {E : gPE} {s : Nat} : (pNo E (1 <<< pK E - 1) (pK E)).testBit s = true ↔ ∃ b, b < pK E ∧ (pN E b).testBit s = true := by
  rw [pNo_bit]
  refine exists_congr (fun b => ?_)
  rw [Nat.one_shiftLeft, Nat.testBit_two_pow_sub_one]
  simp only [decide_eq_true_eq]
  constructor
  · rintro ⟨h1, _, h3⟩; exact ⟨h1, h3⟩
  · rintro ⟨h1, h3⟩; exact ⟨h1, h1, h3⟩
theorem pAs_bit {E : gPE} {i s : Nat} : (pAs E i).testBit s = true ↔ (∃ b, b < pK E ∧ (pN E b).testBit s = true) ∧ (pa E i).testBit s = false ∧ (pd E i).testBit s = false := by
  unfold pAs
  rw [gAn_bit, gAn_bit, Bool.and_eq_true, Bool.and_eq_true, pAll_bit, Bool.not_eq_true', Bool.not_eq_true']
  exact ⟨fun ⟨⟨a, b⟩, c⟩ => ⟨a, b, c⟩, fun ⟨a, b, c⟩ => ⟨⟨a, b⟩, c⟩⟩
theorem pRd_cs {E : gPE} {i x : Nat} : gCN (pc E) (pRd E i x) 6 ≤ pCs E i x := by
  unfold pCs
  refine gCN_mono (fun s h => ?_) 6
  obtain ⟨h1, h2, h3⟩ := pRd_sub h
  rw [gAn_bit, h1, h3]; rfl
theorem pRd_us {E : gPE} {i x : Nat} (h : pOf E i x) : pUs E i (pRd E i x) := by
  refine ⟨gAn_0.2 (fun s hs => ?_), ?_, ?_⟩
  · obtain ⟨⟨b, h1, h2, h3⟩, h4⟩ := pRd_bit.1 hs
    exact pAs_bit.2 ⟨⟨b, h1, h3⟩, h4, (pRd_sub hs).2.1⟩
  · show gAn (pNo E (pRm E i (pRd E i x) (pK E)) (pK E)) (pa E i) = pRd E i x
    rw [pRm_congr (fun b hb => pRd_rn (x := x) hb)]
    rfl
  · have := pRd_cs (E := E) (i := i) (x := x)
    have := h.2
    omega
theorem pUs_dis {E : gPE} {i x s : Nat} (h : pUs E i x) (hs : x.testBit s = true) : (pa E i).testBit s = false ∧ (pd E i).testBit s = false :=
  (pAs_bit.1 (gAn_0.1 h.1 s hs)).2
theorem pUs_cs {E : gPE} {i x : Nat} (h : pUs E i x) : pCs E i x = gCN (pc E) x 6 := by
  have e : gAn x (pa E i) = x := by
    refine Nat.eq_of_testBit_eq (fun s => ?_)
    rw [gAn_bit]
    cases q : x.testBit s
    · rfl
    · rw [(pUs_dis h q).1]; rfl
  simp only [pCs, e]
theorem pUs_of {E : gPE} {i x : Nat} (h : pUs E i x) : pOf E i x := by
  refine ⟨gAnd_0.2 (fun s hs => (pUs_dis h hs).2), ?_⟩
  rw [pUs_cs h]
  have := h.2.2
  omega
theorem pUs_rd {E : gPE} {i x : Nat} (h : pUs E i x) : pRd E i x = x := h.2.1
theorem pAs_lt {E : gPE} {i : Nat} (hE : pWf E) : pAs E i < 64 := by
  refine Nat.lt_of_not_le (fun h => ?_)
  have : (2:Nat) ^ 6 ≤ pAs E i := h
  obtain ⟨s, hs, q⟩ := Nat.exists_ge_and_testBit_of_ge_two_pow this
  obtain ⟨⟨b, _, h3⟩, _⟩ := pAs_bit.1 q
  have := Nat.testBit_lt_two_pow (x := pN E b) (i := s) (Nat.lt_of_lt_of_le (hE.2.1 b) (Nat.pow_le_pow_right (by omega) hs : 2^6 ≤ 2^s))
  rw [this] at h3; exact absurd h3 (by decide)
theorem pUs_le {E : gPE} {i x : Nat} (h : pUs E i x) : x ≤ pAs E i := le_of_bits (gAn_0.1 h.1)
theorem pNx_rd {E : gPE} {i x b : Nat} {l : Nat → Nat} (hb : b < pK E) : pNx E i (pRd E i x) l b = pNx E i x l b := by
  simp only [pNx, pRd_rn hb]
theorem pX_us {E : gPE} {r : Nat} {l : Nat → Nat} (h : pV E (r + 1) l < 1000000) : pUs E (ph E - (r + 1)) (pX E r l) ∧ pOk E (ph E - (r + 1)) (pX E r l) l ∧ pX E r l < 64 ∧ pV E (r + 1) l = gCN (pc E) (pX E r l) 6 + pV E r (pNx E (ph E - (r + 1)) (pX E r l) l) := by
  have h0 : (pSt E (ph E - (r + 1)) l (pV E r) 64).1 < 1000000 := h
  obtain ⟨h1, h2, h3, h4, h5⟩ := pSt_at 64 h0
  have hX : pX E r l = (pSt E (ph E - (r + 1)) l (pV E r) 64).2 := rfl
  have hV : pV E (r + 1) l = (pSt E (ph E - (r + 1)) l (pV E r) 64).1 := rfl
  rw [← hX] at h1 h2 h3 h4 h5
  rw [← hV] at h4 h5
  generalize ph E - (r + 1) = i at *
  have u := pRd_us h2
  have ok : pOk E i (pRd E i (pX E r l)) l := fun b hb => by
    rw [pRd_rn hb]; exact h3 b hb
  have ev : pV E r (pNx E i (pRd E i (pX E r l)) l) = pV E r (pNx E i (pX E r l) l) := pV_congr r _ _ (fun b hb => pNx_rd hb)
  have ec := pUs_cs u
  have el := pRd_cs (E := E) (i := i) (x := pX E r l)
  have e : pRd E i (pX E r l) = pX E r l := by
    refine Nat.le_antisymm pRd_le (Nat.le_of_not_lt (fun q => ?_))
    have := h5 _ q (pUs_of u) ok
    omega
  rw [e] at u
  exact ⟨u, h3, h1, by rw [h4, pUs_cs u]⟩
/-! the options' numbers -/
def pCt (E : gPE) (i : Nat) : Nat → Nat
  | 0 => 0
  | x + 1 => if pUs E i x then pCt E i x + 1 else pCt E i x
def pLt (E : gPE) (i : Nat) : Nat → List Nat
  | 0 => []
  | x + 1 => if pUs E i x then pRm E i x (pK E) :: pLt E i x else pLt E i x
theorem pLt_len {E : gPE} {i : Nat} : ∀ n, (pLt E i n).length = pCt E i n
  | 0 => rfl
  | n + 1 => by
    simp only [pLt, pCt]
    split <;> simp [pLt_len n]
theorem pLt_mem {E : gPE} {i m : Nat} : ∀ n, m ∈ pLt E i n → ∃ x, x < n ∧ pUs E i x ∧ m = pRm E i x (pK E)
  | 0, h => by simp [pLt] at h
  | n + 1, h => by
    simp only [pLt] at h
    split at h
    · rename_i q
      rcases List.mem_cons.1 h with h | h
      · exact ⟨n, by omega, q, h⟩
      · obtain ⟨x, h1, h2⟩ := pLt_mem n h
        exact ⟨x, by omega, h2⟩
    · obtain ⟨x, h1, h2⟩ := pLt_mem n h
      exact ⟨x, by omega, h2⟩
theorem pLt_nodup {E : gPE} {i : Nat} : ∀ n, (pLt E i n).Nodup
  | 0 => by simp [pLt]
  | n + 1 => by
    simp only [pLt]
    split
    · rename_i q
      refine List.nodup_cons.2 ⟨fun h => ?_, pLt_nodup n⟩
      obtain ⟨x, h1, h2, h3⟩ := pLt_mem n h
      have e1 := pUs_rd q
      have e2 := pUs_rd h2
      unfold pRd at e1 e2
      rw [h3] at e1
      omega
    · exact pLt_nodup n
theorem pRm_lt {E : gPE} {i x : Nat} : ∀ k, pRm E i x k < 2 ^ k
  | 0 => by simp [pRm]
  | k + 1 => by
    have := pRm_lt (E := E) (i := i) (x := x) k
    simp only [pRm]
    split
    · refine Nat.or_lt_two_pow ?_ ?_
      · rw [Nat.pow_succ]; omega
      · rw [Nat.one_shiftLeft, Nat.pow_succ]; omega
    · rw [Nat.pow_succ]; omega
theorem pCt_16 {E : gPE} {i : Nat} (hE : pWf E) (n : Nat) : pCt E i n ≤ 16 := by
  rw [← pLt_len]
  have := List.Nodup.length_le_of_subset (l₂ := List.range 16) (pLt_nodup (E := E) (i := i) n) (fun m hm => by
    obtain ⟨x, h1, h2, h3⟩ := pLt_mem n hm
    have := pRm_lt (E := E) (i := i) (x := x) (pK E)
    have : 2 ^ pK E ≤ 2 ^ 4 := Nat.pow_le_pow_right (by omega) hE.1
    exact List.mem_range.2 (by omega))
  simpa using this
theorem pCt_mono {E : gPE} {i x : Nat} : ∀ y, x ≤ y → pCt E i x ≤ pCt E i y
  | 0, h => by rw [show x = 0 by omega]; exact Nat.le_refl _
  | y + 1, h => by
    by_cases e : x = y + 1
    · rw [e]; exact Nat.le_refl _
    · have := pCt_mono (E := E) (i := i) y (show x ≤ y by omega)
      simp only [pCt]
      split <;> omega
theorem pCt_lt {E : gPE} {i x y : Nat} (h : pUs E i x) (q : x < y) : pCt E i x < pCt E i y := by
  have := pCt_mono (E := E) (i := i) y (show x + 1 ≤ y from q)
  simp only [pCt, if_pos h] at this
  omega
theorem pCt_15 {E : gPE} {i x : Nat} (hE : pWf E) (h : pUs E i x) : pCt E i x ≤ 15 := by
  have := pCt_lt h (show x < x + 1 by omega)
  have := pCt_16 (i := i) hE (x + 1)
  omega
/-! rows of options -/
def pUr (E : gPE) : Nat → (Nat → Nat) → Nat → Prop
  | 0, _, w => w = 0
  | r + 1, l, w => ∃ x w', pUs E (ph E - (r + 1)) x ∧ pOk E (ph E - (r + 1)) x l ∧ pUr E r (pNx E (ph E - (r + 1)) x l) w' ∧ w = gCN (pc E) x 6 * 1099511627776 + pCt E (ph E - (r + 1)) x * 16 ^ (9 - (ph E - (r + 1))) + w'
def pDg (E : gPE) : Nat → (Nat → Nat) → Nat
  | 0, _ => 0
  | r + 1, l => pCt E (ph E - (r + 1)) (pX E r l) * 16 ^ (9 - (ph E - (r + 1))) + pDg E r (pNx E (ph E - (r + 1)) (pX E r l) l)
theorem pDg_s {E : gPE} {r : Nat} {l : Nat → Nat} : pDg E (r + 1) l = pCt E (ph E - (r + 1)) (pX E r l) * 16 ^ (9 - (ph E - (r + 1))) + pDg E r (pNx E (ph E - (r + 1)) (pX E r l) l) := rfl
theorem pw_step {h r : Nat} (h1 : h ≤ 10) (h2 : r + 1 ≤ h) : 16 ^ (10 - (h - (r + 1))) = 16 * 16 ^ (9 - (h - (r + 1))) ∧ 16 ^ (10 - (h - r)) = 16 ^ (9 - (h - (r + 1))) := by
  constructor
  · rw [show 10 - (h - (r + 1)) = (9 - (h - (r + 1))) + 1 by omega, Nat.pow_succ, Nat.mul_comm]
  · rw [show 10 - (h - r) = 9 - (h - (r + 1)) by omega]
theorem pDg_lt {E : gPE} (hE : pWf E) : ∀ r l, r ≤ ph E → pV E r l < 1000000 → pDg E r l < 16 ^ (10 - (ph E - r))
  | 0, l, _, _ => by simp only [pDg]; exact Nat.pow_pos (by omega)
  | r + 1, l, hr, hv => by
    obtain ⟨u, ok, _, ev⟩ := pX_us hv
    obtain ⟨e1, e2⟩ := pw_step hE.2.2.2.2 hr
    have ih := pDg_lt hE r (pNx E (ph E - (r + 1)) (pX E r l) l) (by omega) (by omega)
    rw [e2] at ih
    rw [e1]
    rw [pDg_s]
    have := Nat.mul_le_mul_right (16 ^ (9 - (ph E - (r + 1)))) (pCt_15 hE u)
    omega
theorem pUr_has {E : gPE} : ∀ r l, pV E r l < 1000000 → pUr E r l (pV E r l * 1099511627776 + pDg E r l)
  | 0, l, _ => by simp [pUr, pV, pDg]
  | r + 1, l, hv => by
    obtain ⟨u, ok, _, ev⟩ := pX_us hv
    have ih := pUr_has (E := E) r (pNx E (ph E - (r + 1)) (pX E r l) l) (by omega)
    refine ⟨pX E r l, _, u, ok, ih, ?_⟩
    rw [ev]
    rw [pDg_s]
    omega
theorem ar1 (M A g v d a w' : Nat) (ev : A = g + v) (i2 : v * M + d ≤ w') : A * M + (a + d) ≤ g * M + a + w' := by
  subst ev; rw [Nat.add_mul]; omega
theorem ar2 (M A g v d d' a a' w' p : Nat) (i2 : v * M + d ≤ w') (h1 : d' < p) (h2 : a' ≤ 15 * p) (hp : p * 16 ≤ M) (key : A < g + v ∨ (A = g + v ∧ a' + p ≤ a)) : A * M + (a' + d') ≤ g * M + a + w' := by
  rcases key with k | ⟨k, k2⟩
  · have := Nat.mul_le_mul_right M (show A + 1 ≤ g + v from k)
    rw [Nat.add_mul, Nat.add_mul] at this
    omega
  · subst k; rw [Nat.add_mul]; omega
theorem pUr_least {E : gPE} (hE : pWf E) : ∀ r l w, r ≤ ph E → pUr E r l w → pV E r l < 1000000 ∧ pV E r l * 1099511627776 + pDg E r l ≤ w ∧ ∃ C D, w = C * 1099511627776 + D ∧ C ≤ 54 * r ∧ D < 16 ^ (10 - (ph E - r))
  | 0, l, w, _, h => by
    simp only [pUr] at h
    subst h
    exact ⟨by simp [pV], by simp [pV, pDg], 0, 0, rfl, by omega, Nat.pow_pos (by omega)⟩
  | r + 1, l, w, hr, ⟨x, w', u, ok, hw, e⟩ => by
    obtain ⟨i1, i2, C, D, i3, i4, i5⟩ := pUr_least hE r _ w' (by omega) hw
    obtain ⟨e1, e2⟩ := pw_step hE.2.2.2.2 hr
    have hp : 16 ^ (9 - (ph E - (r + 1))) * 16 ≤ 1099511627776 := by
      rw [Nat.mul_comm, ← e1]
      exact Nat.pow_le_pow_right (by omega) (show 10 - (ph E - (r + 1)) ≤ 10 by omega)
    rw [e2] at i5
    have c9 := gCN_le (x := x) hE.2.2.2.1 6 (by omega)
    have hx15 := Nat.mul_le_mul_right (16 ^ (9 - (ph E - (r + 1)))) (pCt_15 hE u)
    have hx64 : x < 64 := Nat.lt_of_le_of_lt (pUs_le u) (pAs_lt hE)
    have hle := (pSt_le (E := E) (i := ph E - (r + 1)) (l := l) (nxt := pV E r) 64).2 x hx64 (pUs_of u) ok
    rw [pUs_cs u] at hle
    have hV : pV E (r + 1) l = (pSt E (ph E - (r + 1)) l (pV E r) 64).1 := rfl
    rw [← hV] at hle
    have hE' : pDg E r (pNx E (ph E - (r + 1)) x l) < 16 ^ (10 - (ph E - r)) := pDg_lt hE r _ (by omega) i1
    rw [e2] at hE'
    have v1 : pV E r (pNx E (ph E - (r + 1)) x l) ≤ C := by omega
    have hv : pV E (r + 1) l < 1000000 := by omega
    refine ⟨hv, ?_, gCN (pc E) x 6 + C, pCt E (ph E - (r + 1)) x * 16 ^ (9 - (ph E - (r + 1))) + D, by rw [e, i3, Nat.add_mul]; omega, by omega, by rw [e1]; omega⟩
    obtain ⟨uX, okX, _, ev⟩ := pX_us hv
    have hX15 := Nat.mul_le_mul_right (16 ^ (9 - (ph E - (r + 1)))) (pCt_15 hE uX)
    have hDX := pDg_lt hE r (pNx E (ph E - (r + 1)) (pX E r l) l) (by omega) (by omega)
    rw [e2] at hDX
    rw [pDg_s]
    have h0 : (pSt E (ph E - (r + 1)) l (pV E r) 64).1 < 1000000 := hv
    have h5 := (pSt_at 64 h0).2.2.2.2
    rw [← hV] at h5
    have hXx : pV E (r + 1) l = gCN (pc E) x 6 + pV E r (pNx E (ph E - (r + 1)) x l) → pX E r l ≤ x := fun qe => Nat.le_of_not_lt (fun z => by
      have := h5 x z (pUs_of u) ok
      rw [pUs_cs u] at this
      omega)
    have hcl := fun z => pCt_lt (y := x) uX z
    by_cases z : pX E r l = x
    · rw [z] at ev ⊢
      generalize pDg E r (pNx E (ph E - (r + 1)) x l) = d at *
      generalize pV E r (pNx E (ph E - (r + 1)) x l) = v at *
      generalize pV E (r + 1) l = A at *
      generalize pCt E (ph E - (r + 1)) x * 16 ^ (9 - (ph E - (r + 1))) = a at *
      generalize gCN (pc E) x 6 = g at *
      rw [e]
      exact ar1 _ _ _ _ _ _ _ ev i2
    · generalize pDg E r (pNx E (ph E - (r + 1)) x l) = d at *
      generalize pV E r (pNx E (ph E - (r + 1)) x l) = v at *
      generalize gCN (pc E) x 6 = g at *
      generalize pDg E r (pNx E (ph E - (r + 1)) (pX E r l) l) = d' at *
      clear h5 h0 hV
      generalize pV E (r + 1) l = A at *
      have key : A < g + v ∨ (A = g + v ∧ pCt E (ph E - (r + 1)) (pX E r l) * 16 ^ (9 - (ph E - (r + 1))) + 16 ^ (9 - (ph E - (r + 1))) ≤ pCt E (ph E - (r + 1)) x * 16 ^ (9 - (ph E - (r + 1)))) := by
        by_cases q : A < g + v
        · exact Or.inl q
        · right
          have qe : A = g + v := by omega
          have q2 := hXx qe
          have := Nat.mul_le_mul_right (16 ^ (9 - (ph E - (r + 1)))) (hcl (by omega))
          rw [Nat.succ_mul] at this
          exact ⟨qe, this⟩
      clear hcl hXx
      generalize pCt E (ph E - (r + 1)) x * 16 ^ (9 - (ph E - (r + 1))) = a at *
      generalize pCt E (ph E - (r + 1)) (pX E r l) * 16 ^ (9 - (ph E - (r + 1))) = a' at *
      generalize 16 ^ (9 - (ph E - (r + 1))) = p at *
      rw [e]
      exact ar2 _ _ _ _ _ _ _ _ _ _ i2 hDX hX15 hp key
theorem pUr_cap {E : gPE} : ∀ r l l' w, (∀ b, b < pK E → min (l b) r = min (l' b) r) → pUr E r l w → pUr E r l' w
  | 0, _, _, _, _, h => h
  | r + 1, l, l', w, hl, ⟨x, w', u, ok, hw, e⟩ => by
    refine ⟨x, w', u, fun b hb => ?_, pUr_cap r _ _ w' (fun b hb => ?_) hw, e⟩
    · have := hl b hb
      rcases ok b hb with q | q
      · exact Or.inl q
      · right; omega
    · have := hl b hb
      simp only [pNx]
      split
      · rfl
      · omega
