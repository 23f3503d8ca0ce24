/-! THE TEXT, purely: tells -/
def rSq (K : Nat → Nat) : List Nat → Nat → rdR
  | [], p => (0, p, [])
  | k :: ks, p => rb (rAc K k p) (rSq K ks)
def rEx (K : Nat → Nat) (p : Nat) : rdR := rb (rd K 1700 0 0 p) (fun p4 => rAc K 59 p4)
def rdT (K : Nat → Nat) (nb nl p : Nat) : rdR :=
  if K p = 4 then (if 12 ≤ nl then (2, p, []) else rb (rSq K [4, 3, 61] p) (rEx K))
  else if K p = 5 then (if 6 ≤ nb then (2, p, []) else rb (rSq K [5, 3, 6, 2, 7, 2, 8, 2, 2, 61] p) (rEx K))
  else (1, p, [])
/-- box or let (1, 0), its number, its first token, its steps from .. to -/
abbrev rTl : Type := Nat × Nat × Nat × Nat × Nat
def rdA (K : Nat → Nat) : Nat → Nat → Nat → Nat → Nat → Nat × Nat × List rTl × List (Nat × Nat)
  | 0, p, _, _, _ => (1, p, [], [])
  | n + 1, p, nb, nl, s => if K p = 0 then (0, p, [], []) else if (rdT K nb nl p).1 ≠ 0 then ((rdT K nb nl p).1, (rdT K nb nl p).2.1, [], []) else
    let t := rdA K n (rdT K nb nl p).2.1 (nb + (if K p = 5 then 1 else 0)) (nl + (if K p = 5 then 0 else 1)) (s + (rdT K nb nl p).2.2.length)
    (t.1, t.2.1, (if K p = 5 then 1 else 0, if K p = 5 then nb else nl, p, s, s + (rdT K nb nl p).2.2.length) :: t.2.2.1, (rdT K nb nl p).2.2 ++ t.2.2.2)
theorem rSq_0 {K : Nat → Nat} : ∀ ks p, (rSq K ks p).1 = 0 → rSq K ks p = (0, p + ks.length, []) ∧ ∀ i k, ks[i]? = some k → K (p + i) = k ∧ p + i < 400
  | [], p, _ => ⟨rfl, fun i k h => by simp at h⟩
  | k :: ks, p, h => by
    simp only [rSq] at h ⊢
    obtain ⟨e1, e2, e3, e4⟩ := rb_0 h
    obtain ⟨a1, a2, a3⟩ := rAc_0 e1
    rw [a3] at e2
    obtain ⟨b1, b2⟩ := rSq_0 ks (p + 1) e2
    have : rb (rAc K k p) (rSq K ks) = (0, p + (k :: ks).length, []) := by
      rw [a3]
      unfold rb
      rw [if_pos rfl]
      dsimp only
      rw [b1]
      simp only [List.length_cons, List.append_nil]
      rw [show p + 1 + ks.length = p + (ks.length + 1) by omega]
    refine ⟨this, fun i k' hk => ?_⟩
    cases i with
    | zero => simp at hk; rw [Nat.add_zero, ← hk]; exact ⟨a1, a2⟩
    | succ i =>
      simp at hk
      have := b2 i k' hk
      rw [show p + 1 + i = p + (i + 1) by omega] at this
      exact this
theorem rEx_0 {K : Nat → Nat} {p : Nat} (hp : p ≤ 400) (h : (rEx K p).1 = 0) : (rd K 1700 0 0 p).1 = 0 ∧ K (rd K 1700 0 0 p).2.1 = 59 ∧ (rd K 1700 0 0 p).2.1 < 400 ∧ rEx K p = (0, (rd K 1700 0 0 p).2.1 + 1, (rd K 1700 0 0 p).2.2) := by
  unfold rEx at h ⊢
  obtain ⟨e1, e2, e3, e4⟩ := rb_0 h
  obtain ⟨a1, a2, a3⟩ := rAc_0 e2
  refine ⟨e1, a1, a2, ?_⟩
  unfold rb
  rw [if_pos e1]
  dsimp only
  rw [a3, List.append_nil]
theorem rdT_0 {K : Nat → Nat} {nb nl p : Nat} (hp : p ≤ 400) (h : (rdT K nb nl p).1 = 0) : ∃ q, ((K p = 4 ∧ q = p + 3 ∧ nl < 12) ∨ (K p = 5 ∧ q = p + 10 ∧ nb < 6)) ∧ q ≤ 400 ∧ (rEx K q).1 = 0 ∧ rdT K nb nl p = rEx K q ∧ K (p + 1) = 3 ∧ (K p = 5 → K (p + 3) = 2 ∧ K (p + 5) = 2 ∧ K (p + 7) = 2 ∧ K (p + 8) = 2) := by
  unfold rdT at h ⊢
  by_cases c4 : K p = 4
  · rw [if_pos c4] at h ⊢
    by_cases c : 12 ≤ nl
    · rw [if_pos c] at h; simp at h
    rw [if_neg c] at h ⊢
    obtain ⟨e1, e2, e3, e4⟩ := rb_0 h
    obtain ⟨a1, a2⟩ := rSq_0 _ _ e1
    rw [a1] at e2
    have q2 := a2 2 61 rfl
    refine ⟨p + 3, Or.inl ⟨c4, rfl, by omega⟩, by omega, e2, ?_, (a2 1 3 rfl).1, fun z => by omega⟩
    rw [a1]
    unfold rb
    rw [if_pos rfl]
    simp only [List.nil_append, List.length_cons, List.length_nil]
  rw [if_neg c4] at h ⊢
  by_cases c5 : K p = 5
  · rw [if_pos c5] at h ⊢
    by_cases c : 6 ≤ nb
    · rw [if_pos c] at h; simp at h
    rw [if_neg c] at h ⊢
    obtain ⟨e1, e2, e3, e4⟩ := rb_0 h
    obtain ⟨a1, a2⟩ := rSq_0 _ _ e1
    rw [a1] at e2
    have q2 := a2 9 61 rfl
    refine ⟨p + 10, Or.inr ⟨c5, rfl, by omega⟩, by omega, e2, ?_, (a2 1 3 rfl).1, fun _ => ⟨(a2 3 2 rfl).1, (a2 5 2 rfl).1, (a2 7 2 rfl).1, (a2 8 2 rfl).1⟩⟩
    rw [a1]
    unfold rb
    rw [if_pos rfl]
    simp only [List.nil_append, List.length_cons, List.length_nil]
  rw [if_neg c5] at h
  simp at h
