/-! THE TEXT, purely: one tell more, and all of them -/
theorem zK_0 {w : Nat × Nat} {b : Bool} {k p : Nat} (hk : k ≠ 0) (h : (zK w b k p).1 = 0) : w.1 = 0 ∧ b = false := by
  unfold zK zC at h
  by_cases c : b = true
  · rw [if_pos c] at h
    split at h
    · exact absurd h hk
    · exact absurd h (by assumption)
  · rw [if_neg c] at h
    exact ⟨h, by simpa using c⟩
theorem zD_0 {K pl vl : Nat → Nat} {p : Nat} {c : List (Nat × Nat)} {g : zG} (h : (zD K pl vl p c g).1 = 0) : zU (zR vl g p) c = none ∧ (K p = 5 → zN (zR vl g p) c 0 ≠ 0 ∧ vl (p + 3) ≤ 1000 ∧ 1 ≤ vl (p + 5) ∧ vl (p + 5) ≤ 6 ∧ 1 ≤ vl (p + 7) ∧ vl (p + 7) ≤ 8 ∧ 1 ≤ vl (p + 8) ∧ vl (p + 8) ≤ 6) := by
  unfold zD at h
  cases e : zU (zR vl g p) c with
  | some t =>
    rw [e] at h
    dsimp only at h
    unfold zC at h
    split at h
    · simp at h
    · exact absurd h (by assumption)
  | none =>
    rw [e] at h
    dsimp only at h
    refine ⟨rfl, fun k5 => ?_⟩
    unfold zX at h
    rw [if_pos k5] at h
    obtain ⟨h, h8⟩ := zK_0 (by omega) h
    obtain ⟨h, h7⟩ := zK_0 (by omega) h
    obtain ⟨h, h5⟩ := zK_0 (by omega) h
    obtain ⟨h, h3⟩ := zK_0 (by omega) h
    obtain ⟨h, hn⟩ := zK_0 (by omega) h
    have n0 : zN (zR vl g p) c 0 ≠ 0 := by
      intro z
      unfold zNo at hn
      have := of_decide_eq_false hn
      exact this ⟨z, e⟩
    simp [zI] at h8 h7 h5 h3
    exact ⟨n0, by omega, by omega, by omega, by omega, by omega, by omega, by omega⟩
theorem zS_1 {K pl vl : Nat → Nat} {sz p : Nat} {g : zG} (hm : zM sz pl) (hK : ∀ t, sz ≤ t → K t = 0) (hsz : sz ≤ 401) (hp : p ≤ 400) (hc : zCl g) (h0 : (zw g).1 = 0) (e : (rdT K (zB g) (zL g) p).1 = 0) : zw (zS K pl vl p (rdT K (zB g) (zL g) p).2.2 g) = zD K pl vl p (rdT K (zB g) (zL g) p).2.2 g ∧ ((zw (zS K pl vl p (rdT K (zB g) (zL g) p).2.2 g)).1 ≠ 0 → ∀ m, zw (zF K pl vl m (rdT K (zB g) (zL g) p).2.1 (zS K pl vl p (rdT K (zB g) (zL g) p).2.2 g)) = zw (zS K pl vl p (rdT K (zB g) (zL g) p).2.2 g)) ∧
    ((zw (zS K pl vl p (rdT K (zB g) (zL g) p).2.2 g)).1 = 0 → zU (zR vl g p) (rdT K (zB g) (zL g) p).2.2 = none ∧ zCl (zS K pl vl p (rdT K (zB g) (zL g) p).2.2 g) ∧ (K p ≠ 5 → zls (zS K pl vl p (rdT K (zB g) (zL g) p).2.2 g) (zL g) = zN (zR vl g p) (rdT K (zB g) (zL g) p).2.2 0) ∧ (K p = 5 → zbs (zS K pl vl p (rdT K (zB g) (zL g) p).2.2 g) (zB g) = zN (zR vl g p) (rdT K (zB g) (zL g) p).2.2 0 ∧ zN (zR vl g p) (rdT K (zB g) (zL g) p).2.2 0 ≠ 0 ∧ zN (zR vl g p) (rdT K (zB g) (zL g) p).2.2 0 < 64 ∧ vl (p + 3) ≤ 1000 ∧ 1 ≤ vl (p + 5) ∧ vl (p + 5) ≤ 6 ∧ 1 ≤ vl (p + 7) ∧ vl (p + 7) ≤ 8 ∧ 1 ≤ vl (p + 8) ∧ vl (p + 8) ≤ 6)) := by
  obtain ⟨t1, t2, t3, t4, t5, t6, t7, t8, t9, t10⟩ := rdT_t hp e
  generalize (rdT K (zB g) (zL g) p).2.1 = E at *
  generalize (rdT K (zB g) (zL g) p).2.2 = c at *
  obtain ⟨d1, d2, d3⟩ := zD_w (vl := vl) hm hK hc h0 t4 t6 t7
  have hlt : ∀ t, K t ≠ 0 → t < sz := fun t h => Nat.lt_of_not_le (fun z => h (hK t z))
  refine ⟨d1, fun hw m => ?_, fun hw => ?_⟩
  · refine zF_k hK hsz m E _ t3 hw (fun t h1 h2 => ?_)
    rw [d1] at hw ⊢
    refine zD_l h0 (hm _ _ (by omega) h2) (fun h5 => ?_) (fun x hx e3 => ?_) hw
    · have := t2 h5
      exact ⟨hm _ _ (by omega) h2, hm _ _ (by omega) h2, hm _ _ (by omega) h2, hm _ _ (by omega) h2⟩
    · rcases t7.1 x hx with z | z
      · exact hm _ _ (by omega) h2
      · omega
  · rw [d1] at hw
    obtain ⟨u1, u2⟩ := zD_0 hw
    obtain ⟨v1, v2, v3⟩ := zCl_s (pl := pl) hc u1 d2 d3
    refine ⟨u1, v1, v2, fun h5 => ?_⟩
    obtain ⟨w1, w2⟩ := u2 h5
    exact ⟨v3 h5, w1, d3, w2⟩
/-- what stays of earlier tells -/
theorem zS_o {K pl vl : Nat → Nat} {p : Nat} {c : List (Nat × Nat)} {g : zG} : (∀ k, k < zL g → zls (zS K pl vl p c g) k = zls g k) ∧ (∀ k, k < zB g → zbs (zS K pl vl p c g) k = zbs g k) ∧ (∀ t, t < p → zrv (zS K pl vl p c g) t = zrv g t) ∧ (∀ t, p ≤ t → zrv (zS K pl vl p c g) t = eRv vl (zln g) (zls g) (zL g) t) := by
  refine ⟨fun k hk => ?_, fun k hk => ?_, fun t ht => ?_, fun t ht => ?_⟩
  · unfold zS
    split
    · rfl
    · dsimp only [zls]; rw [zu_n (by omega)]
  · unfold zS
    split
    · dsimp only [zbs]; rw [zu_n (by omega)]
    · rfl
  · rw [zS_rv]; exact if_pos ht
  · rw [zS_rv]; exact if_neg (by omega)
/-- tells that are well told, purely -/
def zP (vl : Nat → Nat) (p : Nat) (g : zG) (tl : List rTl) (C : List (Nat × Nat)) : Prop := (∀ x, x ∈ C → x.1 = 3 → x.2 < p) ∧ (∀ (j : Nat) (x : rTl), tl[j]? = some x → x.2.2.2.1 ≤ x.2.2.2.2 ∧ x.2.2.2.2 ≤ C.length ∧ ((x.1 = 0 ∧ x.2.1 < zL g) ∨ (x.1 = 1 ∧ x.2.1 < zB g)) ∧ (∃ c : List (Nat × Nat), c.length = x.2.2.2.2 - x.2.2.2.1 ∧ (∀ (i : Nat) (y : Nat × Nat), c[i]? = some y → C[x.2.2.2.1 + i]? = some y) ∧ sD c 0 = some 1 ∧ ∀ y, y ∈ c → y.1 = 3 → y.2 < p ∧ ((zrv g y.2).1 = 0 ∨ ((zrv g y.2).1 = 1 ∧ (zrv g y.2).2.1 < 6) ∨ ((zrv g y.2).1 = 2 ∧ (zrv g y.2).2.1 < (if x.1 = 0 then x.2.1 else zL g)))) ∧ (x.1 = 1 → 0 < zbs g x.2.1 ∧ zbs g x.2.1 < 64 ∧ vl (x.2.2.1 + 3) ≤ 1000 ∧ 1 ≤ vl (x.2.2.1 + 5) ∧ vl (x.2.2.1 + 5) ≤ 6 ∧ 1 ≤ vl (x.2.2.1 + 7) ∧ vl (x.2.2.1 + 7) ≤ 8 ∧ 1 ≤ vl (x.2.2.1 + 8) ∧ vl (x.2.2.1 + 8) ≤ 6)) 
theorem zP_s {K pl vl : Nat → Nat} {sz p : Nat} {g : zG} {tl : List rTl} {C : List (Nat × Nat)} (hm : zM sz pl) (hK : ∀ t, sz ≤ t → K t = 0) (hsz : sz ≤ 401) (hp : p ≤ 400) (hc : zCl g) (h0 : (zw g).1 = 0) (e : (rdT K (zB g) (zL g) p).1 = 0) (hw : (zw (zS K pl vl p (rdT K (zB g) (zL g) p).2.2 g)).1 = 0) (h : zP vl p g tl C) : zP vl (rdT K (zB g) (zL g) p).2.1 (zS K pl vl p (rdT K (zB g) (zL g) p).2.2 g) (tl ++ [rTn K (zB g) (zL g) p C.length (C.length + (rdT K (zB g) (zL g) p).2.2.length)]) (C ++ (rdT K (zB g) (zL g) p).2.2) := by
  obtain ⟨-, -, s3⟩ := zS_1 (vl := vl) hm hK hsz hp hc h0 e
  obtain ⟨-, -, -, s4⟩ := s3 hw
  obtain ⟨t1, t2, t3, t4, t5, t6, t7, t8, t9, t10⟩ := rdT_t hp e
  have eB := zS_B (K := K) (pl := pl) (vl := vl) (p := p) (c := (rdT K (zB g) (zL g) p).2.2) (g := g)
  have eL := zS_L (K := K) (pl := pl) (vl := vl) (p := p) (c := (rdT K (zB g) (zL g) p).2.2) (g := g)
  obtain ⟨o1, o2, o3, o4⟩ := zS_o (K := K) (pl := pl) (vl := vl) (p := p) (c := (rdT K (zB g) (zL g) p).2.2) (g := g)
  generalize zS K pl vl p (rdT K (zB g) (zL g) p).2.2 g = g1 at *
  have ety : rTn K (zB g) (zL g) p C.length (C.length + (rdT K (zB g) (zL g) p).2.2.length) = (if K p = 5 then 1 else 0, if K p = 5 then zB g else zL g, p, C.length, C.length + (rdT K (zB g) (zL g) p).2.2.length) := rfl
  rw [ety]
  clear ety hw s3
  generalize (rdT K (zB g) (zL g) p).2.1 = E at *
  generalize (rdT K (zB g) (zL g) p).2.2 = c at *
  have hmem : ∀ x, x ∈ c → x.1 = 3 → p ≤ x.2 ∧ x.2 < E := by
    intro x hx e3
    rcases t7.1 x hx with z | z
    · have h2 := z.2.2.1
      refine ⟨?_, z.2.2.2⟩
      split at h2 <;> omega
    · omega
  obtain ⟨p1, p2⟩ := h
  refine ⟨fun x hx e3 => ?_, fun j x hx => ?_⟩
  · rcases List.mem_append.1 hx with z | z
    · have := p1 x z e3; omega
    · exact (hmem x z e3).2
  · rcases get_app hx with ⟨c1, c2⟩ | ⟨c1, c2⟩
    · obtain ⟨a1, a2, a3, ⟨c', b1, b2, b3, b4⟩, a5⟩ := p2 j x c2
      refine ⟨a1, by rw [List.length_append]; omega, by rw [eB, eL]; omega, ⟨c', b1, fun i y hy => ?_, b3, fun y hy e3 => ?_⟩, fun e1 => ?_⟩
      · have := b2 i y hy
        rw [List.getElem?_append_left (lt_get this)]
        exact this
      · obtain ⟨d1, d2⟩ := b4 y hy e3
        rw [o3 _ d1]
        refine ⟨by omega, ?_⟩
        rcases d2 with z | z | z
        · exact Or.inl z
        · exact Or.inr (Or.inl z)
        · refine Or.inr (Or.inr ⟨z.1, Nat.lt_of_lt_of_le z.2 ?_⟩)
          split
          · exact Nat.le_refl _
          · rw [eL]; omega
      · rw [o2 _ (by omega)]
        exact a5 e1
    · rw [c2]
      dsimp only
      refine ⟨by omega, by rw [List.length_append]; exact Nat.le_refl _, ?_, ⟨c, by omega, fun i y hy => ?_, t8, fun y hy e3 => ?_⟩, fun e1 => ?_⟩
      · rw [eB, eL]
        by_cases h5 : K p = 5
        · rw [if_pos h5, if_pos h5, if_pos h5]; exact Or.inr ⟨rfl, by omega⟩
        · rw [if_neg h5, if_neg h5, if_neg h5]; exact Or.inl ⟨rfl, by omega⟩
      · rw [List.getElem?_append_right (by omega), show C.length + i - C.length = i by omega]
        exact hy
      · obtain ⟨d1, d2⟩ := hmem y hy e3
        rw [o4 _ d1]
        refine ⟨d2, ?_⟩
        rcases eRv_k (vl := vl) (g := g) (q := y.2) with z | z | z
        · exact Or.inl z
        · exact Or.inr (Or.inl z)
        · refine Or.inr (Or.inr ⟨z.1, Nat.lt_of_lt_of_le z.2 ?_⟩)
          by_cases h5 : K p = 5
          · rw [if_pos h5, if_neg (by omega), eL]; omega
          · rw [if_neg h5, if_pos rfl, if_neg h5]; exact Nat.le_refl _
      · have h5 : K p = 5 := Classical.byContradiction (fun z => by rw [if_neg z] at e1; omega)
        obtain ⟨f1, f2, f3, f4⟩ := s4 h5
        rw [if_pos h5, f1]
        exact ⟨by omega, f3, f4⟩
/-- all tells -/
theorem zF_P {K pl vl : Nat → Nat} {sz : Nat} (hm : zM sz pl) (hK : ∀ t, sz ≤ t → K t = 0) (hsz : sz ≤ 401) : ∀ m p g tl C, p ≤ 400 → zCl g → (zw g).1 = 0 → zRl g tl → zP vl p g tl C → (rdA K m p (zB g) (zL g) C.length).1 = 0 → (zw (zF K pl vl m p g)).1 = 0 → zRl (zF K pl vl m p g) (tl ++ (rdA K m p (zB g) (zL g) C.length).2.2.1) ∧ zP vl (rdA K m p (zB g) (zL g) C.length).2.1 (zF K pl vl m p g) (tl ++ (rdA K m p (zB g) (zL g) C.length).2.2.1) (C ++ (rdA K m p (zB g) (zL g) C.length).2.2.2)
  | 0, p, g, tl, C, _, _, _, _, _, h, _ => by simp [rdA] at h
  | m + 1, p, g, tl, C, hp, hc, h0, hr, hz, h, hw => by
    rw [rdA_s] at h ⊢
    rw [zF_s] at hw ⊢
    by_cases c0 : K p = 0
    · rw [if_pos c0, if_pos c0]
      dsimp only
      rw [List.append_nil, List.append_nil]
      exact ⟨hr, hz⟩
    rw [if_neg c0] at h hw ⊢
    rw [if_neg c0]
    by_cases c1 : (rdT K (zB g) (zL g) p).1 = 0
    · rw [if_neg (fun z => z c1)] at h hw ⊢
      rw [if_neg (fun z => z c1)]
      dsimp only at h ⊢
      obtain ⟨s1, s2, s3⟩ := zS_1 (vl := vl) hm hK hsz hp hc h0 c1
      have hw1 : (zw (zS K pl vl p (rdT K (zB g) (zL g) p).2.2 g)).1 = 0 := Classical.byContradiction (fun z => z (by rw [← s2 z m]; exact hw))
      obtain ⟨u1, u2, -⟩ := s3 hw1
      have t3 := (rdT_t hp c1).2.2.1
      have hP := zP_s hm hK hsz hp hc h0 c1 hw1 hz
      have hR := zRl_s (K := K) (pl := pl) (vl := vl) (p := p) (s := C.length) (e := C.length + (rdT K (zB g) (zL g) p).2.2.length) (c := (rdT K (zB g) (zL g) p).2.2) hr
      have el : (C ++ (rdT K (zB g) (zL g) p).2.2).length = C.length + (rdT K (zB g) (zL g) p).2.2.length := List.length_append
      have ih := zF_P hm hK hsz m _ _ _ _ t3 u2 hw1 hR hP
      rw [el, zS_B, zS_L, List.append_assoc, List.append_assoc] at ih
      exact ih h hw
    · rw [if_pos c1] at h
      exact absurd h c1
