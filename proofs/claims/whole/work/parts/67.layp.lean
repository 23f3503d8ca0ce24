/-! LAYING, purely -/
def gBr (d c : Nat) : Nat := ((1 <<< d) - 1) <<< c
theorem gBr_bit (d c i : Nat) : (gBr d c).testBit i = decide (c ≤ i ∧ i < c + d) := by
  simp only [gBr, Nat.testBit_shiftLeft, Nat.one_shiftLeft, Nat.testBit_two_pow_sub_one]
  by_cases h : c ≤ i
  · by_cases h2 : i < c + d
    · simp [h, h2, show i - c < d by omega]
    · simp [h, h2, show ¬ i - c < d by omega]
  · simp [h]
theorem gBr_lt {d c : Nat} (h : c + d ≤ 8) : gBr d c < 256 := by
  have key : ∀ d c : Fin 9, c.val + d.val ≤ 8 → gBr d.val c.val < 256 := by decide +kernel
  exact key ⟨d, by omega⟩ ⟨c, by omega⟩ h
abbrev gRoom (tk : Nat → Nat) (d g r c : Nat) : Prop := ∀ i, i < g → tk (r + i) &&& gBr d c = 0
/-- the first room -/
def gFF (tk : Nat → Nat) (d g w r c : Nat) : Prop := c + d ≤ w ∧ gRoom tk d g r c ∧ ∀ r' c', (r' < r ∨ (r' = r ∧ c' < c)) → c' + d ≤ w → ¬ gRoom tk d g r' c'
theorem gFF_uniq {tk : Nat → Nat} {d g w r c r' c' : Nat} (h : gFF tk d g w r c) (h' : gFF tk d g w r' c') : r = r' ∧ c = c' := by
  obtain ⟨a1, a2, a3⟩ := h
  obtain ⟨b1, b2, b3⟩ := h'
  rcases (show (r' < r ∨ (r' = r ∧ c' < c)) ∨ (r < r' ∨ (r = r' ∧ c < c')) ∨ (r = r' ∧ c = c') by omega) with q | q | q
  · exact absurd b2 (a3 _ _ q b1)
  · exact absurd a2 (b3 _ _ q a1)
  · exact q
noncomputable def gFit (tk : Nat → Nat) (d g w : Nat) : Nat × Nat := Classical.epsilon (fun p : Nat × Nat => gFF tk d g w p.1 p.2)
theorem gFit_eq {tk : Nat → Nat} {d g w r c : Nat} (h : gFF tk d g w r c) : gFit tk d g w = (r, c) := by
  have := Classical.epsilon_spec (p := fun p : Nat × Nat => gFF tk d g w p.1 p.2) ⟨(r, c), h⟩
  obtain ⟨e1, e2⟩ := gFF_uniq this h
  exact Prod.ext e1 e2
/-- there is a first room, at or below any row from which on the wall is free -/
theorem gFF_ex {tk : Nat → Nat} {d g w ht : Nat} (hd : d ≤ w) (h0 : ∀ i, ht ≤ i → tk i = 0) : ∃ r c, r ≤ ht ∧ gFF tk d g w r c := by
  have hc : ∀ r, (∃ c, c + d ≤ w ∧ gRoom tk d g r c) → ∃ c, c + d ≤ w ∧ gRoom tk d g r c ∧ ∀ c', c' < c → c' + d ≤ w → ¬ gRoom tk d g r c' := by
    intro r ⟨c, h1, h2⟩
    induction c using Nat.strongRecOn with
    | ind c ih =>
      by_cases q : ∃ c', c' < c ∧ c' + d ≤ w ∧ gRoom tk d g r c'
      · obtain ⟨c', q1, q2, q3⟩ := q
        exact ih c' q1 q2 q3
      · exact ⟨c, h1, h2, fun c' z1 z2 z3 => q ⟨c', z1, z2, z3⟩⟩
  have hr : ∀ r, (∃ c, c + d ≤ w ∧ gRoom tk d g r c) → ∃ r', r' ≤ r ∧ (∃ c, c + d ≤ w ∧ gRoom tk d g r' c) ∧ ∀ r'', r'' < r' → ¬ ∃ c, c + d ≤ w ∧ gRoom tk d g r'' c := by
    intro r
    induction r using Nat.strongRecOn with
    | ind r ih =>
      intro h
      by_cases q : ∃ r', r' < r ∧ ∃ c, c + d ≤ w ∧ gRoom tk d g r' c
      · obtain ⟨r', q1, q2⟩ := q
        obtain ⟨r2, z1, z2, z3⟩ := ih r' q1 q2
        exact ⟨r2, by omega, z2, z3⟩
      · exact ⟨r, Nat.le_refl _, h, fun r'' z1 z2 => q ⟨r'', z1, z2⟩⟩
  obtain ⟨r, h1, h2, h3⟩ := hr ht ⟨0, by omega, fun i _ => by rw [h0 _ (by omega), Nat.zero_and]⟩
  obtain ⟨c, k1, k2, k3⟩ := hc r h2
  refine ⟨r, c, h1, k1, k2, fun r' c' q q2 q3 => ?_⟩
  rcases q with q | ⟨rfl, q⟩
  · exact h3 r' q ⟨c', q2, q3⟩
  · exact k3 c' q q2 q3
def gPut (tk : Nat → Nat) (d g r c : Nat) : Nat → Nat := fun i => if r ≤ i ∧ i < r + g then tk i ||| gBr d c else tk i
def gUp (f : Nat → Nat) (k v : Nat) : Nat → Nat := fun i => if i = k then v else f i
/-- height, sum, rows, columns, when the boxes of a list come one behind the other -/
noncomputable def gRL (W D G : Nat → Nat) (w : Nat) : List Nat → (Nat → Nat) → Nat → Nat → (Nat → Nat) → (Nat → Nat) → Nat × Nat × (Nat → Nat) × (Nat → Nat)
  | [], _, ht, sm, rw, cl => (ht, sm, rw, cl)
  | k :: p, tk, ht, sm, rw, cl => gRL W D G w p (gPut tk (D k) (G k) (gFit tk (D k) (G k) w).1 (gFit tk (D k) (G k) w).2) (max ht ((gFit tk (D k) (G k) w).1 + G k)) (sm + W k * (gFit tk (D k) (G k) w).1) (gUp rw k (gFit tk (D k) (G k) w).1) (gUp cl k (gFit tk (D k) (G k) w).2)
theorem gRL_ge {W D G : Nat → Nat} {w : Nat} : ∀ (p : List Nat) (tk : Nat → Nat) (ht sm : Nat) (rw cl : Nat → Nat), ht ≤ (gRL W D G w p tk ht sm rw cl).1 ∧ sm ≤ (gRL W D G w p tk ht sm rw cl).2.1
  | [], tk, ht, sm, rw, cl => ⟨Nat.le_refl _, Nat.le_refl _⟩
  | k :: p, tk, ht, sm, rw, cl => by
    simp only [gRL]
    have := gRL_ge (W := W) (D := D) (G := G) (w := w) p (gPut tk (D k) (G k) (gFit tk (D k) (G k) w).1 (gFit tk (D k) (G k) w).2) (max ht ((gFit tk (D k) (G k) w).1 + G k)) (sm + W k * (gFit tk (D k) (G k) w).1) (gUp rw k (gFit tk (D k) (G k) w).1) (gUp cl k (gFit tk (D k) (G k) w).2)
    omega
abbrev gBs : Type := Nat × Nat × (Nat → Nat) × (Nat → Nat)
/-- the better of two -/
def gBet (B z : gBs) : gBs := if z.1 < B.1 ∨ (z.1 = B.1 ∧ z.2.1 < B.2.1) then z else B
noncomputable def gFo (W D G : Nat → Nat) (w : Nat) (tk : Nat → Nat) (ht sm : Nat) (rw cl : Nat → Nat) (ps : List (List Nat)) (B : gBs) : gBs := ps.foldl (fun B p => gBet B (gRL W D G w p tk ht sm rw cl)) B
theorem gFo_skip {W D G : Nat → Nat} {w : Nat} {tk : Nat → Nat} {ht sm : Nat} {rw cl : Nat → Nat} {B : gBs} (h : B.1 < ht ∨ (ht = B.1 ∧ B.2.1 ≤ sm)) : ∀ ps, gFo W D G w tk ht sm rw cl ps B = B
  | [] => rfl
  | p :: ps => by
    have e : gBet B (gRL W D G w p tk ht sm rw cl) = B := by
      have := gRL_ge (W := W) (D := D) (G := G) (w := w) p tk ht sm rw cl
      exact if_neg (by omega)
    simp only [gFo, List.foldl_cons, e]
    exact gFo_skip h ps
/-- the boxes of a set, in their order -/
def gLst (m n : Nat) : List Nat := (List.range n).filter (fun k => m.testBit k)
theorem gLst_s (m n : Nat) : gLst m (n + 1) = gLst m n ++ (if m.testBit n = true then [n] else []) := by
  simp only [gLst, List.range_succ, List.filter_append, List.filter_cons, List.filter_nil]
theorem gLst_mem {m n k : Nat} : k ∈ gLst m n ↔ k < n ∧ m.testBit k = true := by
  simp [gLst]
/-- all orders of a set, the first first -/
def gPrm : Nat → Nat → List (List Nat)
  | 0, _ => [[]]
  | f + 1, m => (gLst m 6).flatMap (fun k => (gPrm f (gAn m (1 <<< k))).map (fun p => k :: p))
theorem gFo_app {W D G : Nat → Nat} {w : Nat} {tk : Nat → Nat} {ht sm : Nat} {rw cl : Nat → Nat} {B : gBs} (a b : List (List Nat)) : gFo W D G w tk ht sm rw cl (a ++ b) B = gFo W D G w tk ht sm rw cl b (gFo W D G w tk ht sm rw cl a B) := by
  simp only [gFo, List.foldl_append]
theorem gFo_map {W D G : Nat → Nat} {w : Nat} {tk : Nat → Nat} {ht sm k : Nat} {rw cl : Nat → Nat} {B : gBs} (ps : List (List Nat)) : gFo W D G w tk ht sm rw cl (ps.map (fun p => k :: p)) B = gFo W D G w (gPut tk (D k) (G k) (gFit tk (D k) (G k) w).1 (gFit tk (D k) (G k) w).2) (max ht ((gFit tk (D k) (G k) w).1 + G k)) (sm + W k * (gFit tk (D k) (G k) w).1) (gUp rw k (gFit tk (D k) (G k) w).1) (gUp cl k (gFit tk (D k) (G k) w).2) ps B := by
  simp only [gFo, List.foldl_map, gRL]
/-! the next order, as the reference steps -/
def gfI (row : Nat → Nat) : Nat → Option Nat
  | 0 => none
  | k + 1 => if row (k + 1) < row k then gfI row k else some k
def gfJ (row : Nat → Nat) (v : Nat) : Nat → Nat
  | 0 => 0
  | j + 1 => if row (j + 1) < v then gfJ row v j else j + 1
def gSwp (row : Nat → Nat) (i j : Nat) : Nat → Nat := gUp (gUp row i (row j)) j (row i)
def gRev (row : Nat → Nat) : Nat → Nat → Nat → (Nat → Nat)
  | 0, _, _ => row
  | f + 1, a, b => if a < b then gRev (gSwp row a b) f (a + 1) (b - 1) else row
def gNxt (row : Nat → Nat) (n : Nat) : Option (Nat → Nat) := match gfI row (n - 1) with
  | none => none
  | some i => some (gRev (gSwp row i (gfJ row (row i) (n - 1))) 6 (i + 1) (n - 1))
def gOf (p : List Nat) : Nat → Nat := fun i => p.getD i 0
def gChp (n : Nat) : List (List Nat) → Bool
  | [] => false
  | [p] => (p.length == n) && (gNxt (gOf p) n).isNone
  | p :: q :: r => (p.length == n) && (match gNxt (gOf p) n with
    | none => false
    | some f => (List.range n).map f == q) && gChp n (q :: r)
theorem gChp_ok : ∀ m : Fin 64, gChp (gLst m.val 6).length (gPrm (gLst m.val 6).length m.val) = true ∧ (gPrm (gLst m.val 6).length m.val).head? = some (gLst m.val 6) := by decide +kernel
