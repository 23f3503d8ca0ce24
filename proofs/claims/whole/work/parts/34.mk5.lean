/-- a shape with cells put behind it -/
def gX (l : List (Nat ⊕ (Nat × Nat))) (S : gSh) (n : Nat) : gSh := fun a => if a < n then S a else match l[a - n]? with
  | some sh => some sh
  | none => S a
theorem gX_lo {l : List (Nat ⊕ (Nat × Nat))} {S : gSh} {n a : Nat} (h : a < n) : gX l S n a = S a := by simp [gX, h]
theorem gX_at {l : List (Nat ⊕ (Nat × Nat))} {S : gSh} {n i : Nat} {sh : Nat ⊕ (Nat × Nat)} (h : l[i]? = some sh) : gX l S n (n + i) = some sh := by
  unfold gX
  rw [if_neg (by omega), Nat.add_sub_cancel_left, h]
theorem gX_hi {l : List (Nat ⊕ (Nat × Nat))} {S : gSh} {n a : Nat} (h : n + l.length ≤ a) : gX l S n a = S a := by
  unfold gX
  rw [if_neg (by omega), List.getElem?_eq_none (by omega)]
theorem gX_nil {S : gSh} {n : Nat} : gX [] S n = S := by
  funext a
  simp [gX]
theorem gX_app {l1 l2 : List (Nat ⊕ (Nat × Nat))} {S : gSh} {n m : Nat} (h : m = n + l1.length) : gX l2 (gX l1 S n) m = gX (l1 ++ l2) S n := by
  subst h
  funext a
  by_cases h1 : a < n
  · rw [gX_lo (by omega), gX_lo h1, gX_lo h1]
  · by_cases h2 : a < n + l1.length
    · rw [gX_lo h2]
      unfold gX
      rw [if_neg h1, if_neg h1, List.getElem?_append_left (by omega)]
    · unfold gX
      rw [if_neg h2, if_neg h1, if_neg h1, List.getElem?_append_right (by omega), List.getElem?_eq_none (l := l1) (by omega), show a - (n + l1.length) = a - n - l1.length by omega]
theorem gX_1 {S : gSh} {n : Nat} {sh : Nat ⊕ (Nat × Nat)} : gUS S n sh = gX [sh] S n := by
  funext a
  unfold gUS gX
  by_cases h : a = n
  · subst h; simp
  · by_cases h1 : a < n
    · simp [h, h1]
    · rw [if_neg h, if_neg h1, List.getElem?_eq_none (by simp; omega)]
theorem gX_s {l : List (Nat ⊕ (Nat × Nat))} {S : gSh} {n m : Nat} {sh : Nat ⊕ (Nat × Nat)} (h : m = n + l.length) : gUS (gX l S n) m sh = gX (l ++ [sh]) S n := by
  rw [gX_1, gX_app h]
theorem gX_t {S : gSh} {m : Nat} : ∀ j, gTS S m j = gX (List.replicate j (.inl 8)) S m
  | 0 => gX_nil.symm
  | j + 1 => by
    rw [gTS, gX_t j, gX_s (by simp), List.replicate_succ']
theorem yx_Tape {h n a : Nat} {S : gSh} {μ : gM} {P : gP2} (h1 : S a = some (.inl 7)) (ha : a < n) (hz : ∀ q, n ≤ q → gZn q μ) (hP : P none (gX [.inr (2, 2000)] S n) (n + 1) (μ.1, μ.2.1, (gU μ.2.2 a 0 n))) : gRun2 (h + 1) 3 [.ref a] S n μ P := by
  refine yy_Tape h1 ha hz ?_
  rw [gX_1 (S := S) (n := n)]
  exact hP
theorem yx_Plan {h n a : Nat} {S : gSh} {μ : gM} {P : gP2} (h1 : S a = some (.inl 3)) (ha : a < n) (hz : ∀ q, n ≤ q → gZn q μ) (hP : P none (gX [.inr (0, 10)] S n) (n + 1) (μ.1, μ.2.1, (gU μ.2.2 a 0 n))) : gRun2 (h + 1) 2 [.ref a] S n μ P := by
  refine yy_Plan h1 ha hz ?_
  rw [gX_1 (S := S) (n := n)]
  exact hP
theorem yx_Box {h n a : Nat} {S : gSh} {μ : gM} {P : gP2} (h1 : S a = some (.inl 0)) (ha : a < n) (hz : ∀ q, n ≤ q → gZn q μ) (hP : P none (gX [.inr (0, 400), .inr (1, 400)] S n) (n + 2) (μ.1, μ.2.1, (gU (gU μ.2.2 a 12 n) a 13 (n + 1)))) : gRun2 (h + 1) 1 [.ref a] S n μ P := by
  refine yy_Box h1 ha hz ?_
  rw [gX_1 (S := S) (n := n), gX_s]
  · exact hP
  all_goals rfl
theorem yx_Laying {h n a : Nat} {S : gSh} {μ : gM} {P : gP2} (h1 : S a = some (.inl 1)) (ha : a < n) (hz : ∀ q, n ≤ q → gZn q μ) (hP : P none (gX [.inr (0, 80), .inr (0, 6), .inr (0, 6), .inr (0, 6), .inr (0, 6)] S n) (n + 5) (μ.1, μ.2.1, (gU (gU (gU (gU (gU μ.2.2 a 1 n) a 2 (n + 1)) a 3 (n + 2)) a 4 (n + 3)) a 5 (n + 4)))) : gRun2 (h + 1) 7 [.ref a] S n μ P := by
  refine yy_Laying h1 ha hz ?_
  rw [gX_1 (S := S) (n := n), gX_s, gX_s, gX_s, gX_s]
  · exact hP
  all_goals rfl
theorem yx_Planner {h n a : Nat} {S : gSh} {μ : gM} {P : gP2} (h1 : S a = some (.inl 4)) (ha : a < n) (hz : ∀ q, n ≤ q → gZn q μ) (hP : P none (gX [.inr (4, 4), .inr (0, 4), .inr (4, 4), .inr (0, 4), .inr (0, 4), .inr (0, 160), .inr (0, 16), .inr (0, 16), .inr (1, 2401), .inr (1, 2401)] S n) (n + 10) (μ.1, μ.2.1, (gU (gU (gU (gU (gU (gU (gU (gU (gU (gU μ.2.2 a 1 n) a 2 (n + 1)) a 3 (n + 2)) a 4 (n + 3)) a 5 (n + 4)) a 6 (n + 5)) a 7 (n + 6)) a 8 (n + 7)) a 9 (n + 8)) a 10 (n + 9)))) : gRun2 (h + 1) 8 [.ref a] S n μ P := by
  refine yy_Planner h1 ha hz ?_
  rw [gX_1 (S := S) (n := n), gX_s, gX_s, gX_s, gX_s, gX_s, gX_s, gX_s, gX_s, gX_s]
  · exact hP
  all_goals rfl
theorem yx_Parser {h n a : Nat} {S : gSh} {μ : gM} {P : gP2} (h1 : S a = some (.inl 2)) (ha : a < n) (hz : ∀ q, n ≤ q → gZn q μ) (hP : P none (gX [.inl 9, .inr (0, 401), .inr (0, 401), .inr (1, 401)] S n) (n + 4) (gU μ.1 a 4 (-1), μ.2.1, (gU (gU (gU (gU μ.2.2 n 0 (n + 1)) n 1 (n + 2)) n 2 (n + 3)) a 0 n))) : gRun2 (h + 2) 5 [.ref a] S n μ P := by
  refine yy_Parser h1 ha hz ?_
  rw [gX_1 (S := S) (n := n), gX_s, gX_s, gX_s]
  · exact hP
  all_goals rfl
theorem yx_Sources {h n a : Nat} {S : gSh} {μ : gM} {P : gP2} (h1 : S a = some (.inl 6)) (ha : a < n) (hz : ∀ q, n ≤ q → gZn q μ) (hP : P none (gX [.inr (0, 6), .inr (0, 400), .inr (0, 400), .inr (0, 400), .inr (0, 40), .inr (0, 40), .inr (0, 40), .inr (0, 6), .inr (1, 6)] S n) (n + 9) ((gU (gU (gU (gU (gU (gU (gU μ.1 a 11 60) n 0 1) n 1 1) n 2 1) n 3 1) n 4 1) n 5 1), μ.2.1, (gU (gU (gU (gU (gU (gU (gU (gU (gU μ.2.2 a 0 n) a 1 (n + 1)) a 2 (n + 2)) a 3 (n + 3)) a 4 (n + 4)) a 5 (n + 5)) a 6 (n + 6)) a 7 (n + 7)) a 8 (n + 8)))) : gRun2 (h + 1) 6 [.ref a] S n μ P := by
  refine yy_Sources h1 ha hz ?_
  rw [gX_1 (S := S) (n := n), gX_s, gX_s, gX_s, gX_s, gX_s, gX_s, gX_s, gX_s]
  · exact hP
  all_goals rfl
theorem yx_Script {h n a : Nat} {S : gSh} {μ : gM} {P : gP2} (h1 : S a = some (.inl 5)) (ha : a < n) (hz : ∀ q, n ≤ q → gZn q μ) (hP : P none (gX [.inr (5, 18), .inr (0, 6), .inr (0, 12), .inr (0, 400), .inr (0, 400), .inr (1, 12), .inr (1, 400), .inl 8, .inl 8, .inl 8, .inl 8, .inl 8, .inl 8, .inl 8, .inl 8, .inl 8, .inl 8, .inl 8, .inl 8, .inl 8, .inl 8, .inl 8, .inl 8, .inl 8, .inl 8, .inr (1, 6)] S n) (n + 26) (μ.1, μ.2.1, gU (gTR (gU (gU (gU (gU (gU (gU (gU μ.2.2 a 0 n) a 1 (n + 1)) a 2 (n + 2)) a 3 (n + 3)) a 4 (n + 4)) a 5 (n + 5)) a 6 (n + 6)) n (n + 7) 18) a 7 (n + 25))) : gRun2 (h + 2) 9 [.ref a] S n μ P := by
  refine yy_Script h1 ha hz ?_
  rw [gX_1 (S := S) (n := n), gX_s, gX_s, gX_s, gX_s, gX_s, gX_s, gX_t, gX_app, gX_s]
  · exact hP
  all_goals rfl
