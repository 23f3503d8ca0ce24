/-! THE TEXT, purely: what the tells make of it, tell by tell. Lets, boxes, the names' tokens and sources of both, the worst, what names stand for -/
abbrev zG : Type := Nat × Nat × (Nat → Nat) × (Nat → Nat) × (Nat → Nat) × (Nat → Nat) × (Nat × Nat) × (Nat → Nat × Nat × Nat × Nat)
abbrev zL (g : zG) : Nat := g.1
abbrev zB (g : zG) : Nat := g.2.1
abbrev zln (g : zG) : Nat → Nat := g.2.2.1
abbrev zls (g : zG) : Nat → Nat := g.2.2.2.1
abbrev zbn (g : zG) : Nat → Nat := g.2.2.2.2.1
abbrev zbs (g : zG) : Nat → Nat := g.2.2.2.2.2.1
abbrev zw (g : zG) : Nat × Nat := g.2.2.2.2.2.2.1
abbrev zrv (g : zG) : Nat → Nat × Nat × Nat × Nat := g.2.2.2.2.2.2.2
def zu (f : Nat → Nat) (k v : Nat) : Nat → Nat := fun i => if i = k then v else f i
theorem zu_s {f : Nat → Nat} {k v : Nat} : zu f k v k = v := if_pos rfl
theorem zu_n {f : Nat → Nat} {k v i : Nat} (h : i ≠ k) : zu f k v i = f i := if_neg h
def zR (vl : Nat → Nat) (g : zG) (p : Nat) : Nat → Nat × Nat × Nat × Nat := fun q => if q < p then zrv g q else eRv vl (zln g) (zls g) (zL g) q
/-- the head's numbers, then the steps -/
def zE (K pl vl : Nat → Nat) (p : Nat) (c : List (Nat × Nat)) (g : zG) : eSt := c.foldl (eA (zR vl g p) pl) (if K p = 5 then eI4 pl vl p (0, 0, zw g) else (0, 0, zw g))
def zO (K pl vl : Nat → Nat) (p : Nat) (c : List (Nat × Nat)) (g : zG) : eSt := eTs pl (eTw vl (zln g) (zbn g) (zL g) (zB g) (p + 1)) 3 (p + 1) (zE K pl vl p c g)
def zS (K pl vl : Nat → Nat) (p : Nat) (c : List (Nat × Nat)) (g : zG) : zG :=
  if K p = 5 then (zL g, zB g + 1, zln g, zls g, zu (zbn g) (zB g) (p + 1), zu (zbs g) (zB g) ((zE K pl vl p c g).1 &&& 63), (eTs pl (eNo (zE K pl vl p c g)) 5 (p + 1) (zO K pl vl p c g)).2.2, zR vl g p)
  else (zL g + 1, zB g, zu (zln g) (zL g) (p + 1), zu (zls g) (zL g) ((zE K pl vl p c g).1 ||| (if (zE K pl vl p c g).2.1 = 0 then 0 else 64)), zbn g, zbs g, (zO K pl vl p c g).2.2, zR vl g p)
def zF (K pl vl : Nat → Nat) : Nat → Nat → zG → zG
  | 0, _, g => g
  | m + 1, p, g => if K p = 0 then g else if (rdT K (zB g) (zL g) p).1 ≠ 0 then g else zF K pl vl m (rdT K (zB g) (zL g) p).2.1 (zS K pl vl p (rdT K (zB g) (zL g) p).2.2 g)
theorem zF_s {K pl vl : Nat → Nat} {m p : Nat} {g : zG} : zF K pl vl (m + 1) p g = if K p = 0 then g else if (rdT K (zB g) (zL g) p).1 ≠ 0 then g else zF K pl vl m (rdT K (zB g) (zL g) p).2.1 (zS K pl vl p (rdT K (zB g) (zL g) p).2.2 g) := rfl
theorem zS_B {K pl vl : Nat → Nat} {p : Nat} {c : List (Nat × Nat)} {g : zG} : zB (zS K pl vl p c g) = zB g + (if K p = 5 then 1 else 0) := by
  unfold zS; split <;> rfl
theorem zS_L {K pl vl : Nat → Nat} {p : Nat} {c : List (Nat × Nat)} {g : zG} : zL (zS K pl vl p c g) = zL g + (if K p = 5 then 0 else 1) := by
  unfold zS; split <;> rfl
theorem zS_rv {K pl vl : Nat → Nat} {p : Nat} {c : List (Nat × Nat)} {g : zG} : zrv (zS K pl vl p c g) = zR vl g p := by
  unfold zS; split <;> rfl
/-- a tell that is well told: tokens and steps -/
theorem rdT_t {K : Nat → Nat} {nb nl p : Nat} (hp : p ≤ 400) (h : (rdT K nb nl p).1 = 0) : p + 4 ≤ (rdT K nb nl p).2.1 ∧ (K p = 5 → p + 11 ≤ (rdT K nb nl p).2.1) ∧ (rdT K nb nl p).2.1 ≤ 400 ∧ K (p + 1) = 3 ∧ (K p = 4 ∨ K p = 5) ∧ (K p = 5 → K (p + 3) = 2 ∧ K (p + 5) = 2 ∧ K (p + 7) = 2 ∧ K (p + 8) = 2) ∧ sT K (if K p = 5 then p + 10 else p + 3) (rdT K nb nl p).2.1 (rdT K nb nl p).2.2 ∧ sD (rdT K nb nl p).2.2 0 = some 1 ∧ (K p = 5 → nb < 6) ∧ (K p ≠ 5 → nl < 12) := by
  obtain ⟨q, h1, h2, h3, h4, h5, h6⟩ := rdT_0 hp h
  obtain ⟨a1, a2, a3, a4⟩ := rEx_0 h2 h3
  obtain ⟨b1, b2, b3⟩ := rd_G 1700 0 0 q a1
  have b3' := b3 0
  rw [h4, a4]
  dsimp only
  refine ⟨by omega, by omega, by omega, h5, by omega, h6, sT_mono b2 ?_ (by omega), b3', by omega, by omega⟩
  split <;> omega
/-! the first fault -/
def zU (rv : Nat → Nat × Nat × Nat × Nat) : List (Nat × Nat) → Option Nat
  | [] => none
  | x :: c => if x.1 = 3 ∧ (rv x.2).2.2.2 = 2 then some x.2 else zU rv c
def zN (rv : Nat → Nat × Nat × Nat × Nat) : List (Nat × Nat) → Nat → Nat
  | [], a => a
  | x :: c, a => zN rv c (if x.1 = 3 then a ||| (rv x.2).2.2.1 else a)
/-- a fault, if there is none yet -/
def zC (w : Nat × Nat) (k p : Nat) : Nat × Nat := if w.1 = 0 then (k, p) else w
theorem eWr_C {w : Nat × Nat} {k p : Nat} (h : w.1 ≠ 0 → w.2 < p) : eWr w k p = zC w k p := by
  unfold eWr zC
  by_cases e : w.1 = 0
  · rw [if_neg (fun z => z.1 e), if_pos e]
  · rw [if_pos ⟨e, Or.inl (h e)⟩, if_neg e]
theorem zC_2 {w : Nat × Nat} {k p r : Nat} (h : w.1 ≠ 0 → w.2 < r) (hp : p < r) : (zC w k p).1 ≠ 0 → (zC w k p).2 < r := by
  unfold zC
  split
  · exact fun _ => hp
  · exact h
theorem eA_f {rv : Nat → Nat × Nat × Nat × Nat} {pl : Nat → Nat} : ∀ (c : List (Nat × Nat)) a s w, (∀ x, x ∈ c → x.1 = 3 → (rv x.2).2.2.2 = 0 ∨ ((rv x.2).2.2.2 = 2 ∧ (rv x.2).2.2.1 = 0)) → c.Pairwise (fun x y => x.1 = 3 → y.1 = 3 → pl x.2 < pl y.2) → (w.1 ≠ 0 → ∀ x, x ∈ c → x.1 = 3 → w.2 < pl x.2) → c.foldl (eA rv pl) (a, s, w) = (zN rv c a, (match zU rv c with | some _ => 1 | none => s), (match zU rv c with | some t => zC w 4 (pl t) | none => w))
  | [], a, s, w, _, _, _ => rfl
  | x :: c, a, s, w, h1, h2, h3 => by
    rw [List.foldl_cons]
    have h1' := fun y hy => h1 y (List.mem_cons_of_mem _ hy)
    obtain ⟨p1, p2⟩ := List.pairwise_cons.1 h2
    have h3' : w.1 ≠ 0 → ∀ y, y ∈ c → y.1 = 3 → w.2 < pl y.2 := fun z y hy => h3 z y (List.mem_cons_of_mem _ hy)
    by_cases e : x.1 = 3
    · rcases h1 x List.mem_cons_self e with q | q
      · have ea : eA rv pl (a, s, w) x = (a ||| (rv x.2).2.2.1, s, w) := by
          unfold eA
          rw [if_pos e, if_pos q, if_neg (by omega)]
        rw [ea, eA_f c _ _ _ h1' p2 h3']
        simp only [zN, zU]
        rw [if_pos e, if_neg (by omega)]
      · have hC := eWr_C (w := w) (k := 4) (fun z => h3 z x List.mem_cons_self e)
        have ea : eA rv pl (a, s, w) x = (a, 1, zC w 4 (pl x.2)) := by
          unfold eA
          rw [if_pos e, if_neg (by omega), if_pos q.1, q.2, Nat.or_zero]
          dsimp only
          rw [hC]
        have h3'' : (zC w 4 (pl x.2)).1 ≠ 0 → ∀ y, y ∈ c → y.1 = 3 → (zC w 4 (pl x.2)).2 < pl y.2 := by
          intro z y hy ey
          exact zC_2 (fun z' => h3' z' y hy ey) (p1 y hy e ey) z
        have hne : (zC w 4 (pl x.2)).1 ≠ 0 := by
          unfold zC
          split
          · simp
          · assumption
        rw [ea, eA_f c _ _ _ h1' p2 h3'']
        simp only [zN, zU]
        rw [if_pos e, if_pos ⟨e, q.1⟩, q.2, Nat.or_zero]
        dsimp only
        cases zU rv c with
        | none => rfl
        | some t =>
          dsimp only
          rw [show zC (zC w 4 (pl x.2)) 4 (pl t) = zC w 4 (pl x.2) from if_neg hne]
    · have ea : eA rv pl (a, s, w) x = (a, s, w) := if_neg e
      rw [ea, eA_f c _ _ _ h1' p2 h3']
      simp only [zN, zU]
      rw [if_neg e, if_neg (fun z => e z.1)]
/-- a fault that stands ahead of all stays -/
theorem eA_k {rv : Nat → Nat × Nat × Nat × Nat} {pl : Nat → Nat} {w : Nat × Nat} (hw : w.1 ≠ 0) : ∀ (c : List (Nat × Nat)) a s, (∀ x, x ∈ c → x.1 = 3 → w.2 < pl x.2) → (c.foldl (eA rv pl) (a, s, w)).2.2 = w
  | [], a, s, _ => rfl
  | x :: c, a, s, h => by
    rw [List.foldl_cons]
    have h' := fun y hy => h y (List.mem_cons_of_mem _ hy)
    by_cases e : x.1 = 3
    · have : eWr w 4 (pl x.2) = w := by rw [eWr_C (fun _ => h x List.mem_cons_self e)]; exact if_neg hw
      have ea : ∃ a' s', eA rv pl (a, s, w) x = (a', s', w) := by
        unfold eA
        rw [if_pos e]
        dsimp only
        rw [this, ite_self]
        exact ⟨_, _, rfl⟩
      obtain ⟨a', s', ea⟩ := ea
      rw [ea]
      exact eA_k hw c a' s' h'
    · have ea : eA rv pl (a, s, w) x = (a, s, w) := if_neg e
      rw [ea]
      exact eA_k hw c a s h'
/-- the ranges of a head -/
def zI (vl : Nat → Nat) (i p : Nat) : Bool := if i = 0 then decide (1000 < vl (p + 3)) else if i = 1 then decide (vl (p + 5) < 1 ∨ 6 < vl (p + 5)) else if i = 2 then decide (vl (p + 7) < 1 ∨ 8 < vl (p + 7)) else decide (vl (p + 8) < 1 ∨ 6 < vl (p + 8))
def zK (w : Nat × Nat) (b : Bool) (k p : Nat) : Nat × Nat := if b = true then zC w k p else w
theorem eI4_C {pl vl : Nat → Nat} {p a s : Nat} {w : Nat × Nat} (h1 : w.1 ≠ 0 → w.2 < pl (p + 3)) (h2 : pl (p + 3) < pl (p + 5)) (h3 : pl (p + 5) < pl (p + 7)) (h4 : pl (p + 7) < pl (p + 8)) : eI4 pl vl p (a, s, w) = (a, s, zK (zK (zK (zK w (zI vl 0 p) 5 (pl (p + 3))) (zI vl 1 p) 5 (pl (p + 5))) (zI vl 2 p) 5 (pl (p + 7))) (zI vl 3 p) 5 (pl (p + 8))) := by
  have st : ∀ (w : Nat × Nat) v x y b t, (w.1 ≠ 0 → w.2 < pl t) → (b = true ↔ v < x ∨ y < v) → eIr pl v x y t (a, s, w) = (a, s, zK w b 5 (pl t)) := by
    intro w v x y b t hw hb
    unfold eIr zK
    by_cases c : v < x ∨ y < v
    · rw [if_pos c, if_pos (hb.2 c)]
      dsimp only
      rw [eWr_C hw]
    · rw [if_neg c, if_neg (fun z => c (hb.1 z))]
  have up : ∀ (w : Nat × Nat) b t t', (w.1 ≠ 0 → w.2 < pl t) → pl t < pl t' → ((zK w b 5 (pl t)).1 ≠ 0 → (zK w b 5 (pl t)).2 < pl t') := by
    intro w b t t' hw ht
    unfold zK
    split
    · exact zC_2 (fun z => Nat.lt_trans (hw z) ht) ht
    · exact fun z => Nat.lt_trans (hw z) ht
  unfold eI4
  rw [st w (vl (p + 3)) 0 1000 (zI vl 0 p) (p + 3) h1 (by simp [zI])]
  have u1 := up w (zI vl 0 p) (p + 3) (p + 5) h1 h2
  rw [st _ (vl (p + 5)) 1 6 (zI vl 1 p) (p + 5) u1 (by simp [zI])]
  have u2 := up _ (zI vl 1 p) (p + 5) (p + 7) u1 h3
  rw [st _ (vl (p + 7)) 1 8 (zI vl 2 p) (p + 7) u2 (by simp [zI])]
  have u3 := up _ (zI vl 2 p) (p + 7) (p + 8) u2 h4
  rw [st _ (vl (p + 8)) 1 6 (zI vl 3 p) (p + 8) u3 (by simp [zI])]
