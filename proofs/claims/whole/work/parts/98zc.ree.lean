/-! THE TEXT, purely: what the steps are -/
def sT (K : Nat → Nat) (a b : Nat) (l : List (Nat × Nat)) : Prop := (∀ x, x ∈ l → ((x.1 = 2 ∨ x.1 = 3) ∧ K x.2 = x.1 ∧ a ≤ x.2 ∧ x.2 < b) ∨ (x.2 = 0 ∧ (x.1 = 9 ∨ x.1 = 10 ∨ x.1 = 42 ∨ x.1 = 43 ∨ x.1 = 45))) ∧ l.Pairwise (fun x y => x.1 = 3 → y.1 = 3 → x.2 < y.2)
theorem sT_app {K : Nat → Nat} {a b c : Nat} {l m : List (Nat × Nat)} (h1 : sT K a b l) (h2 : sT K b c m) (hab : a ≤ b) (hbc : b ≤ c) : sT K a c (l ++ m) := by
  refine ⟨fun x hx => ?_, ?_⟩
  · rcases List.mem_append.1 hx with h | h
    · rcases h1.1 x h with z | z
      · exact Or.inl ⟨z.1, z.2.1, z.2.2.1, by omega⟩
      · exact Or.inr z
    · rcases h2.1 x h with z | z
      · exact Or.inl ⟨z.1, z.2.1, by omega, z.2.2.2⟩
      · exact Or.inr z
  · refine List.pairwise_append.2 ⟨h1.2, h2.2, fun x hx y hy ex ey => ?_⟩
    rcases h1.1 x hx with z | z
    · rcases h2.1 y hy with z' | z'
      · omega
      · omega
    · omega
theorem sT_nil {K : Nat → Nat} {a b : Nat} : sT K a b [] := ⟨fun x hx => by simp at hx, List.Pairwise.nil⟩
theorem sT_mono {K : Nat → Nat} {a b a' b' : Nat} {l : List (Nat × Nat)} (h : sT K a b l) (ha : a' ≤ a) (hb : b ≤ b') : sT K a' b' l := by
  refine ⟨fun x hx => ?_, h.2⟩
  rcases h.1 x hx with z | z
  · exact Or.inl ⟨z.1, z.2.1, by omega, by omega⟩
  · exact Or.inr z
def sD : List (Nat × Nat) → Nat → Option Nat
  | [], d => some d
  | x :: l, d => if x.1 = 2 ∨ x.1 = 3 then sD l (d + 1) else if 2 ≤ d then sD l (d - 1) else none
theorem sD_app {m : List (Nat × Nat)} : ∀ (l : List (Nat × Nat)) d e, sD l d = some e → sD (l ++ m) d = sD m e
  | [], d, e, h => by
    simp only [sD] at h
    rw [List.nil_append, Option.some.inj h]
  | x :: l, d, e, h => by
    simp only [sD, List.cons_append] at h ⊢
    split
    · rename_i c
      rw [if_pos c] at h
      exact sD_app l _ _ h
    · rename_i c
      rw [if_neg c] at h
      split
      · rename_i c2
        rw [if_pos c2] at h
        exact sD_app l _ _ h
      · rename_i c2
        rw [if_neg c2] at h
        exact absurd h (by simp)
/-- a result that is no fault: its steps' tokens, and how deep they pile -/
def rdG (K : Nat → Nat) (p u v : Nat) (r : rdR) : Prop := r.1 = 0 → p ≤ r.2.1 ∧ sT K p r.2.1 r.2.2 ∧ ∀ d, sD r.2.2 (d + u) = some (d + v)
theorem rb_G {K : Nat → Nat} {p u v w : Nat} {r : rdR} {f : Nat → rdR} (h1 : rdG K p u v r) (h2 : rdG K r.2.1 v w (f r.2.1)) : rdG K p u w (rb r f) := by
  intro h
  obtain ⟨e1, e2, e3, e4⟩ := rb_0 h
  obtain ⟨a1, a2, a3⟩ := h1 e1
  obtain ⟨b1, b2, b3⟩ := h2 e2
  rw [e3, e4]
  exact ⟨by omega, sT_app a2 b2 a1 b1, fun d => by rw [sD_app _ _ _ (a3 d)]; exact b3 d⟩
theorem rdG_s {K : Nat → Nat} {p u v : Nat} {r : rdR} (h : rdG K p u v r) : rdG K p (u + 1) (v + 1) r := fun e => by
  obtain ⟨a1, a2, a3⟩ := h e
  refine ⟨a1, a2, fun d => ?_⟩
  have := a3 (d + 1)
  rw [show d + (u + 1) = d + 1 + u by omega, show d + (v + 1) = d + 1 + v by omega]
  exact this
theorem rAc_G {K : Nat → Nat} {k p u : Nat} : rdG K p u u (rAc K k p) := fun h => by
  obtain ⟨-, h2, h3⟩ := rAc_0 h
  rw [h3]
  exact ⟨Nat.le_succ p, sT_nil, fun d => rfl⟩
theorem rOp_G {K : Nat → Nat} {d p u : Nat} : rdG K p u u (rOp K d p) := fun h => by
  obtain ⟨-, h2, -, h3⟩ := rOp_0 h
  rw [h3]
  exact ⟨Nat.le_succ p, sT_nil, fun d => rfl⟩
theorem rNo_G {K : Nat → Nat} {p u : Nat} : rdG K p u u (0, p, []) := fun _ => ⟨Nat.le_refl p, sT_nil, fun _ => rfl⟩
theorem rSg_G {K : Nat → Nat} {p k : Nat} (hk : k = 9 ∨ k = 10 ∨ k = 42 ∨ k = 43 ∨ k = 45) : rdG K p 2 1 (0, p, [(k, 0)]) := fun _ => by
  refine ⟨Nat.le_refl p, ⟨fun x hx => ?_, List.pairwise_singleton _ _⟩, fun d => ?_⟩
  · rw [List.mem_singleton.1 hx]
    exact Or.inr ⟨rfl, hk⟩
  · simp only [sD]
    rw [if_neg (by omega), if_pos (by omega)]
    rfl
theorem rd_G {K : Nat → Nat} : ∀ n tag d p, rdG K p (if tag ≤ 2 then 0 else 1) 1 (rd K n tag d p)
  | 0, tag, d, p => fun h => by simp [rd] at h
  | n + 1, tag, d, p => by
    have i0 : ∀ d p, rdG K p 0 1 (rd K n 0 d p) := fun d p => rd_G n 0 d p
    have i1 : ∀ d p, rdG K p 0 1 (rd K n 1 d p) := fun d p => rd_G n 1 d p
    have i2 : ∀ d p, rdG K p 0 1 (rd K n 2 d p) := fun d p => rd_G n 2 d p
    have i3 : ∀ d p, rdG K p 1 1 (rd K n 3 d p) := fun d p => rd_G n 3 d p
    have i4 : ∀ d p, rdG K p 1 1 (rd K n 4 d p) := fun d p => rd_G n 4 d p
    simp only [rd]
    by_cases t0 : tag = 0
    · rw [if_pos t0, if_pos (by omega)]
      exact rb_G (i1 d p) (i3 d _)
    rw [if_neg t0]
    by_cases t1 : tag = 1
    · rw [if_pos t1, if_pos (by omega)]
      exact rb_G (i2 d p) (i4 d _)
    rw [if_neg t1]
    by_cases t2 : tag = 2
    · rw [if_pos t2, if_pos (by omega)]
      unfold rUn
      by_cases k1 : K p = 2 ∨ K p = 3
      · rw [if_pos k1]
        intro h
        obtain ⟨e1, e2, e3, e4⟩ := rb_0 h
        obtain ⟨a1, a2, a3⟩ := rAc_0 e1
        rw [e3, e4, a3]
        dsimp only
        refine ⟨Nat.le_succ p, ⟨fun x hx => ?_, List.pairwise_singleton _ _⟩, fun d => ?_⟩
        · rw [List.nil_append] at hx
          rw [List.mem_singleton.1 hx]
          exact Or.inl ⟨k1, rfl, Nat.le_refl p, Nat.lt_succ_self p⟩
        · rw [List.nil_append]
          simp only [sD]
          rw [if_pos k1]
      rw [if_neg k1]
      by_cases k2 : K p = 9 ∨ K p = 10
      · rw [if_pos k2]
        exact rb_G rAc_G (rb_G (rb_G rOp_G (rb_G (i0 _ _) (rb_G rAc_G (rb_G (rdG_s (i0 _ _)) rAc_G)))) (rSg_G (by omega)))
      rw [if_neg k2]
      by_cases k3 : K p = 40
      · rw [if_pos k3]
        exact rb_G rOp_G (rb_G (i0 _ _) rAc_G)
      rw [if_neg k3]
      exact fun h => by simp at h
    rw [if_neg t2]
    have e2 : ¬ tag ≤ 2 := by omega
    rw [if_neg e2]
    split
    · split
      · exact rb_G rAc_G (rb_G (rdG_s (i1 _ _)) (rb_G (rSg_G (by omega)) (i3 _ _)))
      · exact rNo_G
    · split
      · exact rb_G rAc_G (rb_G (rdG_s (i2 _ _)) (rb_G (rSg_G (by omega)) (i4 _ _)))
      · exact rNo_G
