/-! THE TEXT, purely: the tokens' kinds, places, values, names -/
def nK (b : Nat → Nat) (N sz p : Nat) : Nat := if p < sz then tKd b N (tQ b N p) else 0
def nM (b : Nat → Nat) (N sz p : Nat) : Nat := if nK b N sz p = 3 then tNm b (tQ b N p) else 0
theorem tKd_c (b : Nat → Nat) (N i : Nat) : (tKd b N i = 0 ∧ N ≤ i) ∨ tKd b N i = 1 ∨ (tKd b N i = 2 ∧ tVl b N i < 10000) ∨ (3 ≤ tKd b N i ∧ tKd b N i ≤ 10 ∧ tWl b i ≤ 8 ∧ tVl b N i = tPk 256 id b i (tWl b i)) ∨ cS (tKd b N i) := by
  unfold tKd tVl
  by_cases c1 : N ≤ i
  · rw [if_pos c1]; exact Or.inl ⟨rfl, c1⟩
  rw [if_neg c1, if_neg c1]
  by_cases c2 : cL (b i)
  · rw [if_pos c2, if_pos c2]
    by_cases c3 : 8 < tWl b i
    · rw [if_pos c3]; exact Or.inr (Or.inl rfl)
    · rw [if_neg c3, if_neg c3]
      have := rK_w (tPk 256 id b i (tWl b i))
      exact Or.inr (Or.inr (Or.inr (Or.inl ⟨this.1, this.2, by omega, rfl⟩)))
  rw [if_neg c2, if_neg c2]
  by_cases c4 : cD (b i)
  · rw [if_pos c4, if_pos c4]
    by_cases c5 : 4 < tDl b i
    · rw [if_pos c5]; exact Or.inr (Or.inl rfl)
    · rw [if_neg c5, if_neg c5]
      refine Or.inr (Or.inr (Or.inl ⟨rfl, ?_⟩))
      have h1 := tPk_10 (b := b) (i := i) (tDl b i) (fun j hj => by have := tRl_ok (q := qDi) 2000 i j hj; unfold qDi at this; exact of_decide_eq_true this)
      have h2 : 10 ^ tDl b i ≤ 10 ^ 4 := Nat.pow_le_pow_right (by omega) (by omega)
      omega
  rw [if_neg c4]
  by_cases c6 : cS (b i)
  · rw [if_pos c6]; exact Or.inr (Or.inr (Or.inr (Or.inr c6)))
  · rw [if_neg c6]; exact Or.inr (Or.inl rfl)
theorem tWl_A {b : Nat → Nat} {i : Nat} : ∀ j, j < tWl b i → cA (b (i + j)) := fun j hj => by
  have := tRl_ok (q := qAl) 2000 i j hj
  unfold qAl at this
  exact of_decide_eq_true this
theorem tVl_63 (b : Nat → Nat) (N i : Nat) : tVl b N i < 9223372036854775808 := by
  unfold tVl
  split
  · omega
  · split
    · split
      · omega
      · exact tPk_63 (by omega) tWl_A
    · split
      · split
        · omega
        · rename_i c5
          have h1 := tPk_10 (b := b) (i := i) (tDl b i) (fun j hj => by have := tRl_ok (q := qDi) 2000 i j hj; unfold qDi at this; exact of_decide_eq_true this)
          have h2 : 10 ^ tDl b i ≤ 10 ^ 4 := Nat.pow_le_pow_right (by omega) (by omega)
          omega
      · omega
theorem nK_3 {b : Nat → Nat} {N sz p : Nat} (h : nK b N sz p = 3) : tWl b (tQ b N p) ≤ 8 ∧ tVl b N (tQ b N p) = tPk 256 id b (tQ b N p) (tWl b (tQ b N p)) ∧ nM b N sz p = tPk 37 g37 b (tQ b N p) (tWl b (tQ b N p)) ∧ tKd b N (tQ b N p) = 3 := by
  have e : nM b N sz p = tNm b (tQ b N p) := if_pos h
  unfold nK at h
  split at h
  · rcases tKd_c b N (tQ b N p) with z | z | z | z | z
    · omega
    · omega
    · omega
    · exact ⟨z.2.2.1, z.2.2.2, e, h⟩
    · omega
  · omega
theorem nK_k (b : Nat → Nat) (N sz : Nat) : ∀ p, nK b N sz p = 0 ∨ nK b N sz p = 1 ∨ nK b N sz p = 2 ∨ nK b N sz p = 3 ∨ (4 ≤ nK b N sz p ∧ nK b N sz p ≤ 10) ∨ cS (nK b N sz p) := by
  intro p
  unfold nK
  split
  · rcases tKd_c b N (tQ b N p) with z | z | z | z | z
    · exact Or.inl z.1
    · exact Or.inr (Or.inl z)
    · exact Or.inr (Or.inr (Or.inl z.1))
    · by_cases c : tKd b N (tQ b N p) = 3
      · exact Or.inr (Or.inr (Or.inr (Or.inl c)))
      · exact Or.inr (Or.inr (Or.inr (Or.inr (Or.inl ⟨by omega, z.2.1⟩))))
    · exact Or.inr (Or.inr (Or.inr (Or.inr (Or.inr z))))
  · exact Or.inl rfl
theorem nK_Z {b : Nat → Nat} {N sz : Nat} (h : tE b N sz) : dZ sz (nK b N sz) := by
  obtain ⟨h1, h2, h3, h4⟩ := h
  refine ⟨h1, h2, fun k hk => ?_, fun hs => ?_, fun p hp => if_neg (by omega), fun p => ?_⟩
  · unfold nK; rw [if_pos (by omega)]; exact h3 k hk
  · unfold nK; rw [if_pos (by omega)]; exact h4 hs
  · rcases nK_k b N sz p with z | z | z | z | z | z <;> omega
theorem nK_2 {b : Nat → Nat} {N sz : Nat} : ∀ p, nK b N sz p = 2 → tVl b N (tQ b N p) < 10000 := by
  intro p h
  unfold nK at h
  split at h
  · rcases tKd_c b N (tQ b N p) with z | z | z | z | z
    · omega
    · omega
    · exact z.2
    · omega
    · omega
  · omega
theorem tQ_s {b : Nat → Nat} {N k : Nat} (h : 1 < tKd b N (tQ b N k)) : tQ b N k < tQ b N (k + 1) := by
  have hN : tQ b N k < N := by
    refine Nat.lt_of_not_le (fun z => ?_)
    unfold tKd at h
    rw [if_pos z] at h
    omega
  have := tNx_gt hN (b := b)
  show tQ b N k < tNx b N (tQ b N k) + tRl qBl b 2000 (tNx b N (tQ b N k))
  omega
theorem tQ_M {b : Nat → Nat} {N sz : Nat} (h : tE b N sz) : zM sz (tQ b N) := by
  obtain ⟨h1, h2, h3, h4⟩ := h
  intro a c hac
  induction c with
  | zero => omega
  | succ c ih =>
    intro hc
    have hs := tQ_s (h3 c hc)
    by_cases e : a = c
    · rw [e]; exact hs
    · have := ih (by omega) (by omega); omega
theorem src_w : ∀ s : Fin 6, gWord 115 (nI (48 + s.val)) 0 0 0 0 = lN (730 + s.val) := by decide +kernel
theorem nM_a {b : Nat → Nat} {N sz : Nat} (hN : N ≤ 2000) (hb : ∀ i, N ≤ i → b i = 0) : eNa sz (nK b N sz) (fun p => tVl b N (tQ b N p)) (nM b N sz) := by
  refine ⟨fun p hp => ?_, fun p p' hp hp' k k' => ?_, fun s => 730 + s, fun s hs => ⟨src_w ⟨s, hs⟩, by dsimp only; omega⟩, fun p hp k s hs => ?_⟩
  · by_cases c : nK b N sz p = 3
    · obtain ⟨a1, a2, a3, a4⟩ := nK_3 c
      rw [a3]
      have h1 := tPk_37 (b := b) (i := tQ b N p) (tWl b (tQ b N p)) tWl_A
      have h2 : 37 ^ tWl b (tQ b N p) ≤ 37 ^ 8 := Nat.pow_le_pow_right (by omega) a1
      omega
    · have : nM b N sz p = 0 := if_neg c
      omega
  · obtain ⟨a1, a2, a3, a4⟩ := nK_3 k
    obtain ⟨b1, b2, b3, b4⟩ := nK_3 k'
    dsimp only
    rw [a2, a3, b2, b3]
    exact (tPk_iff tWl_A tWl_A).symm
  · obtain ⟨a1, a2, a3, a4⟩ := nK_3 k
    dsimp only
    rw [a2, a3]
    have hq := (tQ_le hN hb p).1
    have := tPk_word (b := b) (i := tQ b N p) (n := tWl b (tQ b N p)) (m := 2) (w := fun j => if j = 0 then 115 else 48 + s) tWl_A (fun j hj => by
      by_cases e : j = 0
      · rw [if_pos e]; exact Or.inl ⟨by omega, by omega⟩
      · rw [if_neg e]; exact Or.inr ⟨by omega, by omega⟩) (by omega)
    have w1 : tPk 256 id (fun j => if j = 0 then 115 else 48 + s) 0 2 = 29488 + s := by
      simp [tPk]
      omega
    have w2 : tPk 37 g37 (fun j => if j = 0 then 115 else 48 + s) 0 2 = 730 + s := by
      have g1 : g37 115 = 19 := by decide
      have g2 : g37 (48 + s) = 27 + s := by unfold g37; rw [if_pos ⟨by omega, by omega⟩]; omega
      simp [tPk, g1, g2]
      omega
    rw [w1, w2] at this
    rw [this]
    exact eq_comm
/-- the reference cuts at least as many -/
theorem nK_n {b : Nat → Nat} {N sz n : Nat} (h : tE b N sz) (hn : 1 ≤ n) (h2 : n < 401 → tKd b N (tQ b N (n - 1)) = 0) (h3 : n ≤ 401) : sz ≤ n := by
  obtain ⟨a1, a2, a3, a4⟩ := h
  refine Nat.le_of_not_lt (fun z => ?_)
  have := a3 (n - 1) (by omega)
  rw [h2 (by omega)] at this
  omega
theorem tC_T {β N sz : Nat} {b : Nat → Nat} {μ : gM} (h3 : μ.1 (β + 4) 3 = nI sz) (h : tC β b N sz μ) : dT β sz (nK b N sz) (tQ b N) (fun p => tVl b N (tQ b N p)) μ := by
  refine ⟨h3, fun p hp => ?_⟩
  have e : nK b N sz p = tKd b N (tQ b N p) := if_pos hp
  rw [e]
  exact h p hp
theorem tR_T {β N sz n : Nat} {b : Nat → Nat} {μ : gM} (hn : sz ≤ n) (h : tR β b N n μ) : eT β sz (nK b N sz) (tQ b N) (fun p => tVl b N (tQ b N p)) (nM b N sz) μ := by
  intro p hp
  have e : nK b N sz p = tKd b N (tQ b N p) := if_pos hp
  obtain ⟨h1, h2, h3, h4⟩ := h p (by omega)
  refine ⟨by rw [e]; exact h1, h2, fun k => h3 (by rw [← e]; exact k), fun k => ?_⟩
  have : nM b N sz p = tNm b (tQ b N p) := if_pos k
  rw [this]
  exact h4 (by rw [← e]; exact k)
