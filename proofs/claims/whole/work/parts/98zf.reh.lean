/-! THE TEXT, purely: tells by their numbers -/
theorem eAny_iff {vl ln : Nat → Nat} {v : Nat} : ∀ L, eAny vl ln v L = true ↔ ∃ k, k < L ∧ vl (ln k) = v
  | 0 => ⟨fun h => by simp [eAny] at h, fun ⟨k, h, _⟩ => by omega⟩
  | L + 1 => by
    have ih := eAny_iff (vl := vl) (ln := ln) (v := v) L
    simp only [eAny, Bool.or_eq_true, decide_eq_true_eq]
    rw [ih]
    refine ⟨fun h => ?_, fun ⟨k, h1, h2⟩ => ?_⟩
    · rcases h with ⟨k, h1, h2⟩ | h
      · exact ⟨k, by omega, h2⟩
      · exact ⟨L, by omega, h⟩
    · by_cases e : k = L
      · rw [e] at h2; exact Or.inr h2
      · exact Or.inl ⟨k, by omega, h2⟩
def zRl (g : zG) (tl : List rTl) : Prop := tl.length = zB g + zL g ∧ (∀ (j : Nat) (x : rTl), tl[j]? = some x → (x.1 = 0 ∧ x.2.1 < zL g ∧ zln g x.2.1 = x.2.2.1 + 1) ∨ (x.1 = 1 ∧ x.2.1 < zB g ∧ zbn g x.2.1 = x.2.2.1 + 1)) ∧ (∀ k, k < zL g → ∃ (j : Nat) (x : rTl), tl[j]? = some x ∧ x.1 = 0 ∧ x.2.1 = k) ∧ (∀ k, k < zB g → ∃ (j : Nat) (x : rTl), tl[j]? = some x ∧ x.1 = 1 ∧ x.2.1 = k) ∧ ∀ (j j' : Nat) (x x' : rTl), j < j' → tl[j]? = some x → tl[j']? = some x' → x.1 = 0 → x'.1 = 0 → x.2.1 < x'.2.1
theorem get_app {α : Type} {l : List α} {x y : α} {j : Nat} (h : (l ++ [x])[j]? = some y) : (j < l.length ∧ l[j]? = some y) ∨ (j = l.length ∧ y = x) := by
  rw [List.getElem?_append] at h
  split at h
  · rename_i c; exact Or.inl ⟨c, h⟩
  · rename_i c
    have : j - l.length = 0 := by
      refine Nat.le_antisymm (Nat.le_of_not_lt (fun z => ?_)) (Nat.zero_le _)
      rw [List.getElem?_eq_none (by simp; omega)] at h
      simp at h
    rw [this] at h
    simp at h
    exact Or.inr ⟨by omega, h.symm⟩
theorem app_get {α : Type} {l : List α} {x y : α} {j : Nat} (h : l[j]? = some y) : (l ++ [x])[j]? = some y := by
  rw [List.getElem?_append_left]
  · exact h
  · refine Nat.lt_of_not_le (fun z => ?_)
    rw [List.getElem?_eq_none z] at h
    simp at h
theorem app_at {α : Type} {l : List α} {x : α} : (l ++ [x])[l.length]? = some x := by simp
theorem zRl_s {K pl vl : Nat → Nat} {p s e : Nat} {c : List (Nat × Nat)} {g : zG} {tl : List rTl} (h : zRl g tl) : zRl (zS K pl vl p c g) (tl ++ [rTn K (zB g) (zL g) p s e]) := by
  obtain ⟨h1, h2, h3, h4, h5⟩ := h
  have hj : ∀ (j : Nat) (x : rTl), tl[j]? = some x → j < tl.length := fun j x hx => Nat.lt_of_not_le (fun z => by rw [List.getElem?_eq_none z] at hx; simp at hx)
  by_cases k5 : K p = 5
  · have ez : zS K pl vl p c g = (zL g, zB g + 1, zln g, zls g, zu (zbn g) (zB g) (p + 1), zu (zbs g) (zB g) ((zE K pl vl p c g).1 &&& 63), (eTs pl (eNo (zE K pl vl p c g)) 5 (p + 1) (zO K pl vl p c g)).2.2, zR vl g p) := if_pos k5
    have er : rTn K (zB g) (zL g) p s e = (1, zB g, p, s, e) := by unfold rTn; rw [if_pos k5, if_pos k5]
    rw [ez, er]
    refine ⟨by rw [List.length_append]; simp [zB, zL]; simp [zB, zL] at h1; omega, fun j x hx => ?_, fun k hk => ?_, fun k hk => ?_, fun j j' x x' hjj hx hx' e0 e0' => ?_⟩
    · rcases get_app hx with ⟨c1, c2⟩ | ⟨c1, c2⟩
      · rcases h2 j x c2 with z | z
        · exact Or.inl z
        · refine Or.inr ⟨z.1, Nat.lt_succ_of_lt z.2.1, ?_⟩
          dsimp only [zln, zbn, zls, zbs]
          rw [zu_n (by omega)]
          exact z.2.2
      · rw [c2]
        exact Or.inr ⟨rfl, Nat.lt_succ_self _, zu_s⟩
    · obtain ⟨j, x, z1, z2⟩ := h3 k hk
      exact ⟨j, x, app_get z1, z2⟩
    · by_cases e : k = zB g
      · exact ⟨tl.length, _, app_at, rfl, e.symm⟩
      · have hk' : k < zB g + 1 := hk
        obtain ⟨j, x, z1, z2⟩ := h4 k (by omega)
        exact ⟨j, x, app_get z1, z2⟩
    · rcases get_app hx with ⟨c1, c2⟩ | ⟨c1, c2⟩
      · rcases get_app hx' with ⟨d1, d2⟩ | ⟨d1, d2⟩
        · exact h5 j j' x x' hjj c2 d2 e0 e0'
        · rw [d2] at e0'; simp at e0'
      · rw [c2] at e0; simp at e0
  · have ez : zS K pl vl p c g = (zL g + 1, zB g, zu (zln g) (zL g) (p + 1), zu (zls g) (zL g) ((zE K pl vl p c g).1 ||| (if (zE K pl vl p c g).2.1 = 0 then 0 else 64)), zbn g, zbs g, (zO K pl vl p c g).2.2, zR vl g p) := if_neg k5
    have er : rTn K (zB g) (zL g) p s e = (0, zL g, p, s, e) := by unfold rTn; rw [if_neg k5, if_neg k5]
    rw [ez, er]
    refine ⟨by rw [List.length_append]; simp [zB, zL]; simp [zB, zL] at h1; omega, fun j x hx => ?_, fun k hk => ?_, fun k hk => ?_, fun j j' x x' hjj hx hx' e0 e0' => ?_⟩
    · rcases get_app hx with ⟨c1, c2⟩ | ⟨c1, c2⟩
      · rcases h2 j x c2 with z | z
        · refine Or.inl ⟨z.1, Nat.lt_succ_of_lt z.2.1, ?_⟩
          dsimp only [zln, zbn, zls, zbs]
          rw [zu_n (by omega)]
          exact z.2.2
        · exact Or.inr z
      · rw [c2]
        exact Or.inl ⟨rfl, Nat.lt_succ_self _, zu_s⟩
    · by_cases e : k = zL g
      · exact ⟨tl.length, _, app_at, rfl, e.symm⟩
      · have hk' : k < zL g + 1 := hk
        obtain ⟨j, x, z1, z2⟩ := h3 k (by omega)
        exact ⟨j, x, app_get z1, z2⟩
    · obtain ⟨j, x, z1, z2⟩ := h4 k hk
      exact ⟨j, x, app_get z1, z2⟩
    · rcases get_app hx with ⟨c1, c2⟩ | ⟨c1, c2⟩
      · rcases get_app hx' with ⟨d1, d2⟩ | ⟨d1, d2⟩
        · exact h5 j j' x x' hjj c2 d2 e0 e0'
        · rcases h2 j x c2 with z | z
          · rw [d2]; exact z.2.1
          · omega
      · rcases get_app hx' with ⟨d1, d2⟩ | ⟨d1, d2⟩
        · omega
        · omega
/-- told ahead -/
theorem zRl_tw {vl : Nat → Nat} {g : zG} {tl : List rTl} {v : Nat} (h : zRl g tl) : (eAny vl (zln g) v (zL g) || eAny vl (zbn g) v (zB g)) = true ↔ ∃ (j : Nat) (x : rTl), tl[j]? = some x ∧ vl (x.2.2.1 + 1) = v := by
  obtain ⟨h1, h2, h3, h4, h5⟩ := h
  rw [Bool.or_eq_true, eAny_iff, eAny_iff]
  refine ⟨fun hh => ?_, fun ⟨j, x, z1, z2⟩ => ?_⟩
  · rcases hh with ⟨k, z1, z2⟩ | ⟨k, z1, z2⟩
    · obtain ⟨j, x, y1, y2, y3⟩ := h3 k z1
      rcases h2 j x y1 with w | w
      · exact ⟨j, x, y1, by rw [← w.2.2, y3]; exact z2⟩
      · omega
    · obtain ⟨j, x, y1, y2, y3⟩ := h4 k z1
      rcases h2 j x y1 with w | w
      · omega
      · exact ⟨j, x, y1, by rw [← w.2.2, y3]; exact z2⟩
  · rcases h2 j x z1 with w | w
    · exact Or.inl ⟨x.2.1, w.2.1, by rw [w.2.2]; exact z2⟩
    · exact Or.inr ⟨x.2.1, w.2.1, by rw [w.2.2]; exact z2⟩
/-- the first let of a name -/
theorem zRl_fm {vl : Nat → Nat} {g : zG} {tl : List rTl} {v m : Nat} {x : rTl} (h : zRl g tl) (hx : tl[m]? = some x) (h0 : x.1 = 0) (hv : vl (x.2.2.1 + 1) = v) (hn : ∀ (j : Nat) (y : rTl), j < m → tl[j]? = some y → y.1 = 0 → vl (y.2.2.1 + 1) ≠ v) : eFm vl (zln g) v (zL g) = some x.2.1 ∧ x.2.1 < zL g := by
  obtain ⟨h1, h2, h3, h4, h5⟩ := h
  rcases h2 m x hx with w | w
  · refine ⟨eFm_at (by rw [w.2.2]; exact hv) (fun k' hk' => ?_) _ w.2.1, w.2.1⟩
    obtain ⟨j, y, y1, y2, y3⟩ := h3 k' (by omega)
    rcases h2 j y y1 with w' | w'
    · have hj : j < m := by
        refine Nat.lt_of_not_le (fun z => ?_)
        by_cases e : j = m
        · rw [e, hx] at y1
          have := Option.some.inj y1
          rw [← this] at y3
          omega
        · have := h5 m j x y (by omega) hx y1 h0 y2
          omega
      have := hn j y hj y1 y2
      rw [← w'.2.2, y3] at this
      exact this
    · omega
  · omega
theorem zRl_fn {vl : Nat → Nat} {g : zG} {tl : List rTl} {v : Nat} (h : zRl g tl) (hn : ∀ (j : Nat) (y : rTl), tl[j]? = some y → y.1 = 0 → vl (y.2.2.1 + 1) ≠ v) : eFm vl (zln g) v (zL g) = none := by
  obtain ⟨h1, h2, h3, h4, h5⟩ := h
  refine eFm_no _ (fun k hk => ?_)
  obtain ⟨j, y, y1, y2, y3⟩ := h3 k hk
  rcases h2 j y y1 with w | w
  · have := hn j y y1 y2
    rw [← w.2.2, y3] at this
    exact this
  · omega
/-- a tell with no fault leaves lets well told -/
theorem zCl_s {K pl vl : Nat → Nat} {p : Nat} {c : List (Nat × Nat)} {g : zG} (hc : zCl g) (hU : zU (zR vl g p) c = none) (hE : zE K pl vl p c g = (zN (zR vl g p) c 0, (match zU (zR vl g p) c with | some _ => 1 | none => 0), (zE K pl vl p c g).2.2)) (hb : zN (zR vl g p) c 0 < 64) : zCl (zS K pl vl p c g) ∧ (K p ≠ 5 → zls (zS K pl vl p c g) (zL g) = zN (zR vl g p) c 0) ∧ (K p = 5 → zbs (zS K pl vl p c g) (zB g) = zN (zR vl g p) c 0) := by
  rw [hU] at hE
  dsimp only at hE
  have e1 : (zE K pl vl p c g).1 = zN (zR vl g p) c 0 := by rw [hE]
  have e2 : (zE K pl vl p c g).2.1 = 0 := by rw [hE]
  by_cases k5 : K p = 5
  · have ez : zS K pl vl p c g = (zL g, zB g + 1, zln g, zls g, zu (zbn g) (zB g) (p + 1), zu (zbs g) (zB g) ((zE K pl vl p c g).1 &&& 63), (eTs pl (eNo (zE K pl vl p c g)) 5 (p + 1) (zO K pl vl p c g)).2.2, zR vl g p) := if_pos k5
    rw [ez]
    refine ⟨hc, fun z => absurd k5 z, fun _ => ?_⟩
    dsimp only [zln, zbn, zls, zbs]
    rw [zu_s, e1]
    exact Nat.and_two_pow_sub_one_of_lt_two_pow (n := 6) hb
  · have ez : zS K pl vl p c g = (zL g + 1, zB g, zu (zln g) (zL g) (p + 1), zu (zls g) (zL g) ((zE K pl vl p c g).1 ||| (if (zE K pl vl p c g).2.1 = 0 then 0 else 64)), zbn g, zbs g, (zO K pl vl p c g).2.2, zR vl g p) := if_neg k5
    rw [ez]
    have e3 : (zE K pl vl p c g).1 ||| (if (zE K pl vl p c g).2.1 = 0 then 0 else 64) = zN (zR vl g p) c 0 := by rw [if_pos e2, Nat.or_zero, e1]
    refine ⟨fun k hk => ?_, fun _ => ?_, fun z => absurd z k5⟩
    · dsimp only [zln, zbn, zls, zbs]
      have hk' : k < zL g + 1 := hk
      by_cases e : k = zL g
      · rw [e, zu_s, e3]; exact hb
      · rw [zu_n e]; exact hc k (by omega)
    · dsimp only [zln, zbn, zls, zbs]
      rw [zu_s, e3]
/-- steps that leave no hole -/
theorem sD_W {rv : Nat → Nat × Nat × Nat × Nat} {vl : Nat → Nat} {op : Nat → Nat} {ar : Nat → Int32} {lb : Nat} : ∀ (c : List (Nat × Nat)) i d e, (∀ j x, c[j]? = some x → op (i + j) = eO rv x ∧ ar (i + j) = nI (eV rv vl x)) → (∀ x, x ∈ c → x.1 = 3 → (rv x.2).1 = 0 ∨ ((rv x.2).1 = 1 ∧ (rv x.2).2.1 < 6) ∨ ((rv x.2).1 = 2 ∧ (rv x.2).2.1 < lb)) → sD c d = some e → gWf op ar lb c.length i d = some e
  | [], i, d, e, _, _, h => h
  | x :: c, i, d, e, h1, h2, h => by
    have a0 := h1 0 x rfl
    rw [Nat.add_zero] at a0
    have ih := fun d' => sD_W (rv := rv) (vl := vl) (op := op) (ar := ar) (lb := lb) c (i + 1) d' e (fun j y hy => by have := h1 (j + 1) y (by simpa using hy); rw [show i + (j + 1) = i + 1 + j by omega] at this; exact this) (fun y hy => h2 y (List.mem_cons_of_mem _ hy))
    simp only [sD] at h
    simp only [List.length_cons, gWf]
    rw [a0.1, a0.2]
    by_cases c2 : x.1 = 2
    · rw [if_pos (Or.inl c2)] at h
      have eo : eO rv x = 0 := if_pos c2
      rw [eo, if_pos (by omega), if_pos (Or.inl rfl)]
      exact ih _ h
    · by_cases c3 : x.1 = 3
      · rw [if_pos (Or.inr c3)] at h
        have eo : eO rv x = (rv x.2).1 := by unfold eO; rw [if_neg c2, if_pos c3]
        have ev : eV rv vl x = (rv x.2).2.1 := by unfold eV; rw [if_neg c2, if_pos c3]
        rw [eo, ev]
        have hh := h2 x List.mem_cons_self c3
        rw [if_pos (by omega), if_pos]
        · exact ih _ h
        · rcases hh with z | z | z
          · exact Or.inl z
          · exact Or.inr (Or.inl ⟨z.1, _, z.2, rfl⟩)
          · exact Or.inr (Or.inr ⟨z.1, _, z.2, rfl⟩)
      · rw [if_neg (by omega)] at h
        have eo : ¬ eO rv x < 3 := by
          unfold eO
          rw [if_neg c2, if_neg c3]
          split
          · omega
          · split
            · omega
            · split
              · omega
              · split <;> omega
        rw [if_neg eo]
        by_cases c4 : 2 ≤ d
        · rw [if_pos c4] at h ⊢
          exact ih _ h
        · rw [if_neg c4] at h
          simp at h
theorem eRv_k {vl : Nat → Nat} {g : zG} {q : Nat} : (eRv vl (zln g) (zls g) (zL g) q).1 = 0 ∨ ((eRv vl (zln g) (zls g) (zL g) q).1 = 1 ∧ (eRv vl (zln g) (zls g) (zL g) q).2.1 < 6) ∨ ((eRv vl (zln g) (zls g) (zL g) q).1 = 2 ∧ (eRv vl (zln g) (zls g) (zL g) q).2.1 < zL g) := by
  unfold eRv
  cases e : eSo (vl q) with
  | some s =>
    dsimp only
    unfold eSo at e
    split at e
    · have := Option.some.inj e
      exact Or.inr (Or.inl ⟨rfl, by omega⟩)
    · simp at e
  | none =>
    dsimp only
    cases e2 : eFm vl (zln g) (vl q) (zL g) with
    | none => exact Or.inl rfl
    | some k => exact Or.inr (Or.inr ⟨rfl, eFm_lt _ e2⟩)
