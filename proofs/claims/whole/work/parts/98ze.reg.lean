/-! THE TEXT, purely: the class's first fault is the reference's least -/
abbrev zM (sz : Nat) (pl : Nat → Nat) : Prop := ∀ a b, a < b → b < sz → pl a < pl b
def zX (K pl vl : Nat → Nat) (p : Nat) (w : Nat × Nat) (no : Bool) : Nat × Nat := if K p = 5 then zK (zK (zK (zK (zK w no 5 (pl (p + 1))) (zI vl 0 p) 5 (pl (p + 3))) (zI vl 1 p) 5 (pl (p + 5))) (zI vl 2 p) 5 (pl (p + 7))) (zI vl 3 p) 5 (pl (p + 8)) else w
def zNo (rv : Nat → Nat × Nat × Nat × Nat) (c : List (Nat × Nat)) : Bool := decide (zN rv c 0 = 0 ∧ zU rv c = none)
/-- what the class finds -/
def zD (K pl vl : Nat → Nat) (p : Nat) (c : List (Nat × Nat)) (g : zG) : Nat × Nat :=
  match zU (zR vl g p) c with
  | some t => zC (zX K pl vl p (zK (zw g) (eTw vl (zln g) (zbn g) (zL g) (zB g) (p + 1)) 3 (pl (p + 1))) (zNo (zR vl g p) c)) 4 (pl t)
  | none => zX K pl vl p (zK (zw g) (eTw vl (zln g) (zbn g) (zL g) (zB g) (p + 1)) 3 (pl (p + 1))) (zNo (zR vl g p) c)
theorem eFm_lt {vl ln : Nat → Nat} {v k : Nat} : ∀ L, eFm vl ln v L = some k → k < L
  | 0, h => by simp [eFm] at h
  | L + 1, h => by
    simp only [eFm] at h
    cases e : eFm vl ln v L with
    | some k' =>
      rw [e] at h
      have := eFm_lt L e
      have := Option.some.inj h
      omega
    | none =>
      rw [e] at h
      dsimp only at h
      split at h
      · have := Option.some.inj h
        omega
      · simp at h
/-- lets that are well told -/
abbrev zCl (g : zG) : Prop := ∀ k, k < zL g → zls g k < 64
theorem eRv_c {vl : Nat → Nat} {g : zG} {q : Nat} (hc : zCl g) : (eRv vl (zln g) (zls g) (zL g) q).2.2.1 < 64 ∧ ((eRv vl (zln g) (zls g) (zL g) q).2.2.2 = 0 ∨ ((eRv vl (zln g) (zls g) (zL g) q).2.2.2 = 2 ∧ (eRv vl (zln g) (zls g) (zL g) q).2.2.1 = 0)) := by
  unfold eRv
  cases e : eSo (vl q) with
  | some s =>
    dsimp only
    refine ⟨?_, Or.inl rfl⟩
    unfold eSo at e
    split at e
    · have := Option.some.inj e
      rw [Nat.one_shiftLeft]
      exact Nat.pow_lt_pow_right (by omega) (show s < 6 by omega)
    · simp at e
  | none =>
    dsimp only
    cases e2 : eFm vl (zln g) (vl q) (zL g) with
    | none => exact ⟨by simp, Or.inr ⟨rfl, rfl⟩⟩
    | some k =>
      dsimp only
      have := hc k (eFm_lt _ e2)
      exact ⟨and_63, Or.inl (if_neg (by omega))⟩
theorem zR_ge {vl : Nat → Nat} {g : zG} {p q : Nat} (h : p ≤ q) : zR vl g p q = eRv vl (zln g) (zls g) (zL g) q := if_neg (by omega)
theorem zN_b {rv : Nat → Nat × Nat × Nat × Nat} : ∀ (c : List (Nat × Nat)) a, a < 64 → (∀ x, x ∈ c → x.1 = 3 → (rv x.2).2.2.1 < 64) → zN rv c a < 64
  | [], a, h, _ => h
  | x :: c, a, h, h2 => by
    simp only [zN]
    refine zN_b c _ ?_ (fun y hy => h2 y (List.mem_cons_of_mem _ hy))
    split
    · rename_i e
      exact Nat.or_lt_two_pow (n := 6) h (h2 x List.mem_cons_self e)
    · exact h
theorem zU_m {rv : Nat → Nat × Nat × Nat × Nat} {t : Nat} : ∀ c : List (Nat × Nat), zU rv c = some t → ∃ x, x ∈ c ∧ x.1 = 3 ∧ x.2 = t
  | [], h => by simp [zU] at h
  | x :: c, h => by
    simp only [zU] at h
    split at h
    · rename_i e
      exact ⟨x, List.mem_cons_self, e.1, Option.some.inj h⟩
    · obtain ⟨y, h1, h2⟩ := zU_m c h
      exact ⟨y, List.mem_cons_of_mem _ h1, h2⟩
theorem zK_g {w : Nat × Nat} {b : Bool} {k p P : Nat} (h : w.1 ≠ 0 → P < w.2) (hp : P < p) : (zK w b k p).1 ≠ 0 → P < (zK w b k p).2 := by
  unfold zK zC
  split
  · split
    · exact fun _ => hp
    · exact h
  · exact h
theorem zK_l {w : Nat × Nat} {b : Bool} {k p P : Nat} (h : w.1 ≠ 0 → w.2 < P) (hp : p < P) : (zK w b k p).1 ≠ 0 → (zK w b k p).2 < P := by
  unfold zK
  split
  · exact zC_2 h hp
  · exact h
theorem zC_g {w : Nat × Nat} {k p P : Nat} (h : w.1 ≠ 0 → P < w.2) (hp : P < p) : (zC w k p).1 ≠ 0 → P < (zC w k p).2 := by
  unfold zC
  split
  · exact fun _ => hp
  · exact h
theorem zK_x {w : Nat × Nat} {b : Bool} {k p : Nat} (h : w.1 ≠ 0) : zK w b k p = w := by
  unfold zK zC
  rw [if_neg h, ite_self]
theorem zX_x {K pl vl : Nat → Nat} {p : Nat} {w : Nat × Nat} {no : Bool} (h : w.1 ≠ 0) : zX K pl vl p w no = w := by
  unfold zX
  split
  · rw [zK_x h, zK_x h, zK_x h, zK_x h, zK_x h]
  · rfl
theorem zD_w {K pl vl : Nat → Nat} {sz p e : Nat} {c : List (Nat × Nat)} {g : zG} (hm : zM sz pl) (hK : ∀ t, sz ≤ t → K t = 0) (hc : zCl g) (h0 : (zw g).1 = 0) (k1 : K (p + 1) = 3) (k5 : K p = 5 → K (p + 3) = 2 ∧ K (p + 5) = 2 ∧ K (p + 7) = 2 ∧ K (p + 8) = 2) (hs : sT K (if K p = 5 then p + 10 else p + 3) e c) : zw (zS K pl vl p c g) = zD K pl vl p c g ∧ zE K pl vl p c g = (zN (zR vl g p) c 0, (match zU (zR vl g p) c with | some _ => 1 | none => 0), (zE K pl vl p c g).2.2) ∧ zN (zR vl g p) c 0 < 64 := by
  have hlt : ∀ t, K t ≠ 0 → t < sz := fun t h => Nat.lt_of_not_le (fun z => h (hK t z))
  have mem : ∀ x, x ∈ c → x.1 = 3 → p + 3 ≤ x.2 ∧ (K p = 5 → p + 10 ≤ x.2) ∧ x.2 < sz := by
    intro x hx e3
    rcases hs.1 x hx with z | z
    · have := hlt x.2 (by omega)
      refine ⟨?_, fun h5 => ?_, this⟩
      · have := z.2.2.1
        split at this <;> omega
      · have := z.2.2.1
        rw [if_pos h5] at this
        exact this
    · omega
  have hst : ∀ x, x ∈ c → x.1 = 3 → (zR vl g p x.2).2.2.2 = 0 ∨ ((zR vl g p x.2).2.2.2 = 2 ∧ (zR vl g p x.2).2.2.1 = 0) := by
    intro x hx e3
    rw [zR_ge (by have := mem x hx e3; omega)]
    exact (eRv_c hc).2
  have hnb : zN (zR vl g p) c 0 < 64 := zN_b c 0 (by omega) (fun x hx e3 => by
    rw [zR_ge (by have := mem x hx e3; omega)]
    exact (eRv_c hc).1)
  have hpw : c.Pairwise (fun x y => x.1 = 3 → y.1 = 3 → pl x.2 < pl y.2) := by
    refine List.Pairwise.imp_of_mem ?_ hs.2
    intro x y hx hy hxy e1 e2
    exact hm _ _ (hxy e1 e2) (mem y hy e2).2.2
  have p1 : p + 1 < sz := hlt _ (by omega)
  -- the ranges
  obtain ⟨wa, hwa, hwx, hwg, hwl⟩ : ∃ wa : Nat × Nat, (if K p = 5 then eI4 pl vl p (0, 0, zw g) else (0, 0, zw g)) = (0, 0, wa) ∧ zX K pl vl p (zw g) false = wa ∧ (wa.1 ≠ 0 → pl (p + 1) < wa.2) ∧ (wa.1 ≠ 0 → ∀ x, x ∈ c → x.1 = 3 → wa.2 < pl x.2) := by
    by_cases h5 : K p = 5
    · obtain ⟨a3, a5, a7, a8⟩ := k5 h5
      have l3 := hlt (p + 3) (by omega)
      have l5 := hlt (p + 5) (by omega)
      have l7 := hlt (p + 7) (by omega)
      have l8 := hlt (p + 8) (by omega)
      refine ⟨zK (zK (zK (zK (zw g) (zI vl 0 p) 5 (pl (p + 3))) (zI vl 1 p) 5 (pl (p + 5))) (zI vl 2 p) 5 (pl (p + 7))) (zI vl 3 p) 5 (pl (p + 8)), ?_, ?_, ?_, ?_⟩
      · rw [if_pos h5]
        exact eI4_C (fun z => absurd h0 z) (hm _ _ (by omega) l5) (hm _ _ (by omega) l7) (hm _ _ (by omega) l8)
      · unfold zX
        rw [if_pos h5, show zK (zw g) false 5 (pl (p + 1)) = zw g from if_neg (by simp)]
      · exact zK_g (zK_g (zK_g (zK_g (fun z => absurd h0 z) (hm _ _ (by omega) l3)) (hm _ _ (by omega) l5)) (hm _ _ (by omega) l7)) (hm _ _ (by omega) l8)
      · intro z x hx e3
        have hx2 := mem x hx e3
        have hx3 := hx2.2.1 h5
        exact zK_l (zK_l (zK_l (zK_l (fun z => absurd h0 z) (hm _ _ (by omega) hx2.2.2)) (hm _ _ (by omega) hx2.2.2)) (hm _ _ (by omega) hx2.2.2)) (hm _ _ (by omega) hx2.2.2) z
    · refine ⟨zw g, if_neg h5, ?_, fun z => absurd h0 z, fun z => absurd h0 z⟩
      unfold zX
      rw [if_neg h5]
  have hE : zE K pl vl p c g = (zN (zR vl g p) c 0, (match zU (zR vl g p) c with | some _ => 1 | none => 0), (match zU (zR vl g p) c with | some t => zC wa 4 (pl t) | none => wa)) := by
    unfold zE
    rw [hwa]
    exact eA_f c 0 0 wa hst hpw hwl
  have hno : eNo (zE K pl vl p c g) = zNo (zR vl g p) c := by
    rw [hE]
    unfold eNo zNo
    cases zU (zR vl g p) c with
    | none => simp
    | some t => simp
  refine ⟨?_, by rw [hE], hnb⟩
  -- the fault behind all
  obtain ⟨wb, hwb, hbg⟩ : ∃ wb : Nat × Nat, (zE K pl vl p c g).2.2 = wb ∧ (wb.1 ≠ 0 → pl (p + 1) < wb.2) := by
    refine ⟨_, rfl, ?_⟩
    rw [hE]
    dsimp only
    cases e : zU (zR vl g p) c with
    | none => exact hwg
    | some t =>
      obtain ⟨x, hx, e3, et⟩ := zU_m c e
      have hx2 := mem x hx e3
      rw [et] at hx2
      exact zC_g hwg (hm _ _ (by omega) hx2.2.2)
  have hfst : ∀ k, eWr wb k (pl (p + 1)) = (k, pl (p + 1)) := by
    intro k
    unfold eWr
    rw [if_neg]
    intro z
    have := hbg z.1
    omega
  have hzO : (zO K pl vl p c g).2.2 = if eTw vl (zln g) (zbn g) (zL g) (zB g) (p + 1) = true then (3, pl (p + 1)) else wb := by
    unfold zO eTs
    split
    · dsimp only; rw [hwb]; exact hfst 3
    · exact hwb
  have hw : zw (zS K pl vl p c g) = if K p = 5 then (eTs pl (eNo (zE K pl vl p c g)) 5 (p + 1) (zO K pl vl p c g)).2.2 else (zO K pl vl p c g).2.2 := by
    unfold zS; split <;> rfl
  rw [hw]
  unfold zD
  by_cases tw : eTw vl (zln g) (zbn g) (zL g) (zB g) (p + 1) = true
  · rw [if_pos tw] at hzO
    have e1 : zK (zw g) (eTw vl (zln g) (zbn g) (zL g) (zB g) (p + 1)) 3 (pl (p + 1)) = (3, pl (p + 1)) := by
      unfold zK zC; rw [if_pos tw, if_pos h0]
    rw [e1, zX_x (by simp)]
    have e2 : (match zU (zR vl g p) c with | some t => zC (3, pl (p + 1)) 4 (pl t) | none => ((3, pl (p + 1)) : Nat × Nat)) = (3, pl (p + 1)) := by
      cases zU (zR vl g p) c with
      | none => rfl
      | some t => exact if_neg (by simp)
    rw [e2]
    split
    · unfold eTs
      split
      · dsimp only
        rw [hzO]
        unfold eWr
        rw [if_pos ⟨by simp, Or.inr ⟨rfl, by simp⟩⟩]
      · exact hzO
    · exact hzO
  · rw [if_neg tw] at hzO
    have e1 : zK (zw g) (eTw vl (zln g) (zbn g) (zL g) (zB g) (p + 1)) 3 (pl (p + 1)) = zw g := if_neg tw
    rw [e1]
    have hwb' : wb = (match zU (zR vl g p) c with | some t => zC wa 4 (pl t) | none => wa) := by rw [← hwb, hE]
    by_cases h5 : K p = 5
    · rw [if_pos h5, hno]
      by_cases no : zNo (zR vl g p) c = true
      · have e3 : zX K pl vl p (zw g) (zNo (zR vl g p) c) = (5, pl (p + 1)) := by
          have : zK (zw g) (zNo (zR vl g p) c) 5 (pl (p + 1)) = (5, pl (p + 1)) := by unfold zK zC; rw [if_pos no, if_pos h0]
          have n5 : ((5, pl (p + 1)) : Nat × Nat).1 ≠ 0 := by simp
          unfold zX
          rw [if_pos h5, this, zK_x n5, zK_x n5, zK_x n5, zK_x n5]
        rw [e3]
        have e4 : (match zU (zR vl g p) c with | some t => zC (5, pl (p + 1)) 4 (pl t) | none => ((5, pl (p + 1)) : Nat × Nat)) = (5, pl (p + 1)) := by
          cases zU (zR vl g p) c with
          | none => rfl
          | some t => exact if_neg (by simp)
        rw [e4]
        unfold eTs
        rw [if_pos no]
        dsimp only
        rw [hzO]
        exact hfst 5
      · have nf : zNo (zR vl g p) c = false := by simpa using no
        rw [nf, hwx]
        unfold eTs
        rw [if_neg (by simp), hzO, hwb']
    · rw [if_neg h5, hzO, hwb']
      have : ∀ b, zX K pl vl p (zw g) b = wa := by
        intro b
        rw [← hwx]
        unfold zX
        rw [if_neg h5, if_neg h5]
      rw [this]
/-- where the fault of a tell lies -/
theorem zD_l {K pl vl : Nat → Nat} {p P : Nat} {c : List (Nat × Nat)} {g : zG} (h0 : (zw g).1 = 0) (h1 : pl (p + 1) < P) (h5 : K p = 5 → pl (p + 3) < P ∧ pl (p + 5) < P ∧ pl (p + 7) < P ∧ pl (p + 8) < P) (hx : ∀ x, x ∈ c → x.1 = 3 → pl x.2 < P) : (zD K pl vl p c g).1 ≠ 0 → (zD K pl vl p c g).2 < P := by
  have a0 : (zK (zw g) (eTw vl (zln g) (zbn g) (zL g) (zB g) (p + 1)) 3 (pl (p + 1))).1 ≠ 0 → (zK (zw g) (eTw vl (zln g) (zbn g) (zL g) (zB g) (p + 1)) 3 (pl (p + 1))).2 < P := zK_l (fun z => absurd h0 z) h1
  have a1 : (zX K pl vl p (zK (zw g) (eTw vl (zln g) (zbn g) (zL g) (zB g) (p + 1)) 3 (pl (p + 1))) (zNo (zR vl g p) c)).1 ≠ 0 → (zX K pl vl p (zK (zw g) (eTw vl (zln g) (zbn g) (zL g) (zB g) (p + 1)) 3 (pl (p + 1))) (zNo (zR vl g p) c)).2 < P := by
    unfold zX
    split
    · rename_i k5
      obtain ⟨b1, b2, b3, b4⟩ := h5 k5
      exact zK_l (zK_l (zK_l (zK_l (zK_l a0 h1) b1) b2) b3) b4
    · exact a0
  unfold zD
  cases e2 : zU (zR vl g p) c with
  | none => exact a1
  | some t =>
    obtain ⟨x, hx1, e3, et⟩ := zU_m c e2
    have := hx x hx1 e3
    rw [et] at this
    exact zC_2 a1 this
theorem eWr_k {w : Nat × Nat} {k p : Nat} (hw : w.1 ≠ 0) (h : w.2 < p) : eWr w k p = w := if_pos ⟨hw, Or.inl h⟩
theorem eTs_k {pl : Nat → Nat} {tw : Bool} {k p : Nat} {st : eSt} {w : Nat × Nat} (e : st.2.2 = w) (hw : w.1 ≠ 0) (h : w.2 < pl p) : (eTs pl tw k p st).2.2 = w := by
  unfold eTs
  split
  · dsimp only; rw [e]; exact eWr_k hw h
  · exact e
theorem eIr_k {pl : Nat → Nat} {v x y p a s : Nat} {w : Nat × Nat} (hw : w.1 ≠ 0) (h : w.2 < pl p) : eIr pl v x y p (a, s, w) = (a, s, w) := by
  unfold eIr
  split
  · dsimp only; rw [eWr_k hw h]
  · rfl
theorem zS_k {K pl vl : Nat → Nat} {sz p e : Nat} {c : List (Nat × Nat)} {g : zG} (hK : ∀ t, sz ≤ t → K t = 0) (hw : (zw g).1 ≠ 0) (hl : ∀ t, p ≤ t → t < sz → (zw g).2 < pl t) (k1 : K (p + 1) = 3) (k5 : K p = 5 → K (p + 3) = 2 ∧ K (p + 5) = 2 ∧ K (p + 7) = 2 ∧ K (p + 8) = 2) (hs : sT K (if K p = 5 then p + 10 else p + 3) e c) : zw (zS K pl vl p c g) = zw g := by
  have hlt : ∀ t, K t ≠ 0 → t < sz := fun t h => Nat.lt_of_not_le (fun z => h (hK t z))
  have mem : ∀ x, x ∈ c → x.1 = 3 → (zw g).2 < pl x.2 := by
    intro x hx e3
    rcases hs.1 x hx with z | z
    · have h1 := hlt x.2 (by omega)
      have h2 := z.2.2.1
      refine hl _ ?_ h1
      split at h2 <;> omega
    · omega
  have l1 := hl (p + 1) (by omega) (hlt _ (by omega))
  have hE : (zE K pl vl p c g).2.2 = zw g := by
    unfold zE
    by_cases h5 : K p = 5
    · obtain ⟨a3, a5, a7, a8⟩ := k5 h5
      rw [if_pos h5]
      unfold eI4
      rw [eIr_k hw (hl (p + 3) (by omega) (hlt _ (by omega))), eIr_k hw (hl (p + 5) (by omega) (hlt _ (by omega))), eIr_k hw (hl (p + 7) (by omega) (hlt _ (by omega))), eIr_k hw (hl (p + 8) (by omega) (hlt _ (by omega)))]
      exact eA_k hw c 0 0 mem
    · rw [if_neg h5]
      exact eA_k hw c 0 0 mem
  have hO : (zO K pl vl p c g).2.2 = zw g := eTs_k hE hw l1
  unfold zS
  split
  · exact eTs_k hO hw l1
  · exact hO
theorem zF_k {K pl vl : Nat → Nat} {sz : Nat} (hK : ∀ t, sz ≤ t → K t = 0) (hsz : sz ≤ 401) : ∀ m p g, p ≤ 400 → (zw g).1 ≠ 0 → (∀ t, p ≤ t → t < sz → (zw g).2 < pl t) → zw (zF K pl vl m p g) = zw g
  | 0, _, _, _, _, _ => rfl
  | m + 1, p, g, hp, hw, hl => by
    rw [zF_s]
    by_cases c0 : K p = 0
    · rw [if_pos c0]
    rw [if_neg c0]
    by_cases c1 : (rdT K (zB g) (zL g) p).1 = 0
    · rw [if_neg (fun z => z c1)]
      obtain ⟨t1, t2, t3, t4, t5, t6, t7, t8, -⟩ := rdT_t hp c1
      have e := zS_k (pl := pl) (vl := vl) (g := g) hK hw hl t4 t6 t7
      rw [zF_k hK hsz m _ _ t3 (by rw [e]; exact hw) (fun t h1 h2 => by rw [e]; exact hl t (by omega) h2)]
      exact e
    · rw [if_pos c1]
