/-! THE TEXT, purely: a reader that goes down by itself. A result: a fault (0: none), a token, the steps -/
abbrev rdR : Type := Nat × Nat × List (Nat × Nat)
def rb (r : rdR) (f : Nat → rdR) : rdR := if r.1 = 0 then ((f r.2.1).1, (f r.2.1).2.1, r.2.2 ++ (f r.2.1).2.2) else r
def rAc (K : Nat → Nat) (k p : Nat) : rdR := if K p ≠ k then (1, p, []) else if 400 ≤ p then (2, p, []) else (0, p + 1, [])
def rOp (K : Nat → Nat) (d p : Nat) : rdR := if K p = 40 ∧ 8 ≤ d then (2, p, []) else rAc K 40 p
def rPr (K : Nat → Nat) (sm : Nat → rdR) (d p : Nat) : rdR := rb (rOp K d p) (fun p2 => rb (sm p2) (fun p3 => rb (rAc K 44 p3) (fun p4 => rb (sm p4) (fun p5 => rAc K 41 p5))))
def rUn (K : Nat → Nat) (sm : Nat → rdR) (d p : Nat) : rdR :=
  if K p = 2 ∨ K p = 3 then rb (rAc K (K p) p) (fun p1 => (0, p1, [(K p, p)]))
  else if K p = 9 ∨ K p = 10 then rb (rAc K (K p) p) (fun p1 => rb (rPr K sm d p1) (fun p6 => (0, p6, [(K p, 0)])))
  else if K p = 40 then rb (rOp K d p) (fun p1 => rb (sm p1) (fun p2 => rAc K 41 p2))
  else (1, p, [])
/-- 0: a sum, 1: a product, 2: a unit, 3: what a sum goes on with, 4: what a product goes on with -/
def rd (K : Nat → Nat) : Nat → Nat → Nat → Nat → rdR
  | 0, _, _, p => (1, p, [])
  | n + 1, tag, d, p =>
    if tag = 0 then rb (rd K n 1 d p) (rd K n 3 d)
    else if tag = 1 then rb (rd K n 2 d p) (rd K n 4 d)
    else if tag = 2 then rUn K (rd K n 0 (d + 1)) d p
    else if tag = 3 then (if K p = 43 ∨ K p = 45 then rb (rAc K (K p) p) (fun p1 => rb (rd K n 1 d p1) (fun p2 => rb (0, p2, [(K p, 0)]) (rd K n 3 d))) else (0, p, []))
    else (if K p = 42 then rb (rAc K 42 p) (fun p1 => rb (rd K n 2 d p1) (fun p2 => rb (0, p2, [(42, 0)]) (rd K n 4 d))) else (0, p, []))
theorem rb_0 {r : rdR} {f : Nat → rdR} (h : (rb r f).1 = 0) : r.1 = 0 ∧ (f r.2.1).1 = 0 ∧ (rb r f).2.1 = (f r.2.1).2.1 ∧ (rb r f).2.2 = r.2.2 ++ (f r.2.1).2.2 := by
  unfold rb at h ⊢
  by_cases e : r.1 = 0
  · rw [if_pos e] at h ⊢
    exact ⟨e, h, rfl, rfl⟩
  · rw [if_neg e] at h
    exact absurd h e
theorem rAc_0 {K : Nat → Nat} {k p : Nat} (h : (rAc K k p).1 = 0) : K p = k ∧ p < 400 ∧ rAc K k p = (0, p + 1, []) := by
  unfold rAc at h ⊢
  by_cases e : K p ≠ k
  · rw [if_pos e] at h; simp at h
  · rw [if_neg e] at h ⊢
    by_cases g : 400 ≤ p
    · rw [if_pos g] at h; simp at h
    · rw [if_neg g]
      exact ⟨Classical.not_not.1 e, by omega, rfl⟩
theorem rOp_0 {K : Nat → Nat} {d p : Nat} (h : (rOp K d p).1 = 0) : K p = 40 ∧ p < 400 ∧ d < 8 ∧ rOp K d p = (0, p + 1, []) := by
  unfold rOp at h ⊢
  by_cases e : K p = 40 ∧ 8 ≤ d
  · rw [if_pos e] at h; simp at h
  · rw [if_neg e] at h ⊢
    obtain ⟨h1, h2, h3⟩ := rAc_0 h
    exact ⟨h1, h2, by omega, h3⟩
/-- what holds of a result that is no fault: steps are paid with tokens -/
abbrev rdS (s s' p : Nat) (r : rdR) : Prop := r.1 = 0 → p + r.2.2.length + s ≤ r.2.1 + s' ∧ r.2.1 ≤ 400
theorem rb_S {s s' t t' p : Nat} {r : rdR} {f : Nat → rdR} (h1 : rdS s s' p r) (h2 : r.1 = 0 → r.2.1 ≤ 400 → rdS t t' r.2.1 (f r.2.1)) : rdS (s + t) (s' + t') p (rb r f) := by
  intro h
  obtain ⟨e1, e2, e3, e4⟩ := rb_0 h
  have a1 := h1 e1
  have a2 := h2 e1 a1.2 e2
  rw [e3, e4, List.length_append]
  omega
theorem rAc_S {K : Nat → Nat} {k p : Nat} : rdS 1 0 p (rAc K k p) := fun h => by
  obtain ⟨-, h2, h3⟩ := rAc_0 h
  rw [h3]
  simp
  omega
theorem rOp_S {K : Nat → Nat} {d p : Nat} : rdS 1 0 p (rOp K d p) := fun h => by
  obtain ⟨-, h2, -, h3⟩ := rOp_0 h
  rw [h3]
  simp
  omega
theorem rLf_S {p : Nat} {x : Nat × Nat} (hp : p ≤ 400) : rdS 0 1 p (0, p, [x]) := fun _ => by
  simp
  omega
theorem rdS_w {s s' t t' p : Nat} {r : rdR} (h : rdS s s' p r) (hst : t + s' ≤ s + t') : rdS t t' p r := fun e => by
  have := h e
  omega
theorem rd_S {K : Nat → Nat} : ∀ n tag d p, p ≤ 400 → rdS (if tag ≤ 2 then 0 else 0) 0 p (rd K n tag d p) ∧ (tag ≤ 2 → (rd K n tag d p).1 = 0 → p < (rd K n tag d p).2.1)
  | 0, tag, d, p, hp => ⟨fun h => by simp [rd] at h, fun _ h => by simp [rd] at h⟩
  | n + 1, tag, d, p, hp => by
    have ih : ∀ tag d p, p ≤ 400 → rdS 0 0 p (rd K n tag d p) := fun tag d p hp => by
      have := (rd_S (K := K) n tag d p hp).1
      simpa using this
    simp only [rd, ite_self]
    by_cases t0 : tag = 0
    · rw [if_pos t0]
      refine ⟨rb_S (ih 1 d p hp) (fun _ h => ih 3 d _ h), fun _ h => ?_⟩
      obtain ⟨e1, e2, e3, e4⟩ := rb_0 h
      have h1 := ih 1 d p hp e1
      have h3 := ih 3 d _ h1.2 e2
      have := (rd_S (K := K) n 1 d p hp).2 (by omega) e1
      rw [e3]
      omega
    rw [if_neg t0]
    by_cases t1 : tag = 1
    · rw [if_pos t1]
      refine ⟨rb_S (ih 2 d p hp) (fun _ h => ih 4 d _ h), fun _ h => ?_⟩
      obtain ⟨e1, e2, e3, e4⟩ := rb_0 h
      have h1 := ih 2 d p hp e1
      have h3 := ih 4 d _ h1.2 e2
      have := (rd_S (K := K) n 2 d p hp).2 (by omega) e1
      rw [e3]
      omega
    rw [if_neg t1]
    by_cases t2 : tag = 2
    · rw [if_pos t2]
      have hu : rdS 0 0 p (rUn K (rd K n 0 (d + 1)) d p) ∧ ((rUn K (rd K n 0 (d + 1)) d p).1 = 0 → p < (rUn K (rd K n 0 (d + 1)) d p).2.1) := by
        unfold rUn
        by_cases k1 : K p = 2 ∨ K p = 3
        · rw [if_pos k1]
          refine ⟨rdS_w (rb_S rAc_S (fun _ h => rLf_S h)) (by omega), fun h => ?_⟩
          obtain ⟨e1, e2, e3, e4⟩ := rb_0 h
          obtain ⟨a1, a2, a3⟩ := rAc_0 e1
          rw [e3, a3]
          show p < p + 1
          omega
        rw [if_neg k1]
        by_cases k2 : K p = 9 ∨ K p = 10
        · rw [if_pos k2]
          have hx : rdS (1 + ((1 + (0 + (1 + (0 + 1)))) + 0)) (0 + ((0 + (0 + (0 + (0 + 0)))) + 1)) p (rb (rAc K (K p) p) (fun p1 => rb (rPr K (rd K n 0 (d + 1)) d p1) (fun p6 => ((0, p6, [(K p, 0)]) : rdR)))) :=
            rb_S rAc_S (fun _ _ => rb_S (rb_S rOp_S (fun _ h => rb_S (ih 0 _ _ h) (fun _ _ => rb_S rAc_S (fun _ h => rb_S (ih 0 _ _ h) (fun _ _ => rAc_S))))) (fun _ h => rLf_S h))
          exact ⟨rdS_w hx (by omega), fun h => by have := hx h; omega⟩
        rw [if_neg k2]
        by_cases k3 : K p = 40
        · rw [if_pos k3]
          have hx : rdS (1 + (0 + 1)) (0 + (0 + 0)) p (rb (rOp K d p) (fun p1 => rb (rd K n 0 (d + 1) p1) (fun p2 => rAc K 41 p2))) :=
            rb_S rOp_S (fun _ h => rb_S (ih 0 _ _ h) (fun _ _ => rAc_S))
          exact ⟨rdS_w hx (by omega), fun h => by have := hx h; omega⟩
        rw [if_neg k3]
        exact ⟨fun h => by simp at h, fun h => by simp at h⟩
      exact ⟨hu.1, fun _ => hu.2⟩
    rw [if_neg t2]
    refine ⟨?_, fun z1 z2 => ?_⟩
    · split
      · split
        · exact rdS_w (rb_S rAc_S (fun _ h => rb_S (ih 1 _ _ h) (fun _ h => rb_S (rLf_S h) (fun _ h => ih 3 _ _ h)))) (by omega)
        · intro _; simp; exact hp
      · split
        · exact rdS_w (rb_S rAc_S (fun _ h => rb_S (ih 2 _ _ h) (fun _ h => rb_S (rLf_S h) (fun _ h => ih 4 _ _ h)))) (by omega)
        · intro _; simp; exact hp
    · omega
theorem rd_len {K : Nat → Nat} {n tag d p : Nat} (hp : p ≤ 400) (h : (rd K n tag d p).1 = 0) : p + (rd K n tag d p).2.2.length ≤ (rd K n tag d p).2.1 ∧ (rd K n tag d p).2.1 ≤ 400 := by
  have := (rd_S (K := K) n tag d p hp).1 h
  simpa using this
theorem rd_gt {K : Nat → Nat} {n tag d p : Nat} (hp : p ≤ 400) (ht : tag ≤ 2) (h : (rd K n tag d p).1 = 0) : p < (rd K n tag d p).2.1 := (rd_S n tag d p hp).2 ht h
theorem rd_0 {K : Nat → Nat} {n d p : Nat} : rd K (n + 1) 0 d p = rb (rd K n 1 d p) (rd K n 3 d) := by simp [rd]
theorem rd_1 {K : Nat → Nat} {n d p : Nat} : rd K (n + 1) 1 d p = rb (rd K n 2 d p) (rd K n 4 d) := by simp [rd]
theorem rd_2 {K : Nat → Nat} {n d p : Nat} : rd K (n + 1) 2 d p = rUn K (rd K n 0 (d + 1)) d p := by simp [rd]
theorem rd_3 {K : Nat → Nat} {n d p : Nat} : rd K (n + 1) 3 d p = if K p = 43 ∨ K p = 45 then rb (rAc K (K p) p) (fun p1 => rb (rd K n 1 d p1) (fun p2 => rb (0, p2, [(K p, 0)]) (rd K n 3 d))) else (0, p, []) := by simp [rd]
theorem rd_4 {K : Nat → Nat} {n d p : Nat} : rd K (n + 1) 4 d p = if K p = 42 then rb (rAc K 42 p) (fun p1 => rb (rd K n 2 d p1) (fun p2 => rb (0, p2, [(42, 0)]) (rd K n 4 d))) else (0, p, []) := by simp [rd]
theorem rd_end {K : Nat → Nat} : ∀ n tag d p, (rd K n tag d p).1 = 0 → ((tag = 1 ∨ tag = 4) → K (rd K n tag d p).2.1 ≠ 42) ∧ (tag = 3 → K p ≠ 42 → K (rd K n tag d p).2.1 ≠ 42) ∧ (tag = 3 → K (rd K n tag d p).2.1 ≠ 43 ∧ K (rd K n tag d p).2.1 ≠ 45) ∧ (tag = 0 → K (rd K n tag d p).2.1 ≠ 42 ∧ K (rd K n tag d p).2.1 ≠ 43 ∧ K (rd K n tag d p).2.1 ≠ 45)
  | 0, tag, d, p, h => by simp [rd] at h
  | n + 1, tag, d, p, h => by
    by_cases t0 : tag = 0
    · subst t0
      rw [rd_0] at h ⊢
      obtain ⟨e1, e2, e3, e4⟩ := rb_0 h
      rw [e3]
      have h1 := (rd_end n 1 d p e1).1 (Or.inl rfl)
      have h3 := rd_end n 3 d _ e2
      exact ⟨fun z => by omega, fun z => by omega, fun z => by omega, fun _ => ⟨h3.2.1 rfl h1, h3.2.2.1 rfl⟩⟩
    by_cases t1 : tag = 1
    · subst t1
      rw [rd_1] at h ⊢
      obtain ⟨e1, e2, e3, e4⟩ := rb_0 h
      rw [e3]
      have h3 := rd_end n 4 d _ e2
      exact ⟨fun _ => h3.1 (Or.inr rfl), fun z => by omega, fun z => by omega, fun z => by omega⟩
    by_cases t3 : tag = 3
    · subst t3
      rw [rd_3] at h ⊢
      by_cases c : K p = 43 ∨ K p = 45
      · rw [if_pos c] at h ⊢
        obtain ⟨e1, e2, e3, -⟩ := rb_0 h
        obtain ⟨f1, f2, f3, -⟩ := rb_0 e2
        obtain ⟨g1, g2, g3, -⟩ := rb_0 f2
        rw [e3, f3, g3]
        have h1 := (rd_end n 1 d _ f1).1 (Or.inl rfl)
        have h3 := rd_end n 3 d _ g2
        exact ⟨fun z => by omega, fun _ _ => h3.2.1 rfl h1, fun _ => h3.2.2.1 rfl, fun z => by omega⟩
      · rw [if_neg c]
        exact ⟨fun z => by omega, fun _ z => z, fun _ => ⟨fun z => c (Or.inl z), fun z => c (Or.inr z)⟩, fun z => by omega⟩
    by_cases t4 : tag = 4
    · subst t4
      rw [rd_4] at h ⊢
      by_cases c : K p = 42
      · rw [if_pos c] at h ⊢
        obtain ⟨e1, e2, e3, -⟩ := rb_0 h
        obtain ⟨f1, f2, f3, -⟩ := rb_0 e2
        obtain ⟨g1, g2, g3, -⟩ := rb_0 f2
        rw [e3, f3, g3]
        have h3 := rd_end n 4 d _ g2
        exact ⟨fun _ => h3.1 (Or.inr rfl), fun z => by omega, fun z => by omega, fun z => by omega⟩
      · rw [if_neg c]
        exact ⟨fun _ => c, fun z => by omega, fun z => by omega, fun z => by omega⟩
    exact ⟨fun z => by omega, fun z => absurd z t3, fun z => absurd z t3, fun z => absurd z t0⟩
