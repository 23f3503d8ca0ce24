/-! THE TWO SCRIPTS, at β + q for q = 56 or 83; tell j of it at β + (q + 8 + j) -/
theorem sq_S0 {S : gSh} {β q : Nat} (h : gLS S β) (hq : q = 56 ∨ q = 83) : S (β + q) = some (.inl 5) := by
  rcases hq with rfl | rfl
  · exact S_56 h
  · exact S_83 h
theorem sq_S1 {S : gSh} {β q : Nat} (h : gLS S β) (hq : q = 56 ∨ q = 83) : S (β + (q + 1)) = some (.inr (5, 18)) := by
  rcases hq with rfl | rfl
  · exact S_57 h
  · exact S_84 h
theorem sq_S2 {S : gSh} {β q : Nat} (h : gLS S β) (hq : q = 56 ∨ q = 83) : S (β + (q + 2)) = some (.inr (0, 6)) := by
  rcases hq with rfl | rfl
  · exact S_58 h
  · exact S_85 h
theorem sq_S3 {S : gSh} {β q : Nat} (h : gLS S β) (hq : q = 56 ∨ q = 83) : S (β + (q + 3)) = some (.inr (0, 12)) := by
  rcases hq with rfl | rfl
  · exact S_59 h
  · exact S_86 h
theorem sq_S4 {S : gSh} {β q : Nat} (h : gLS S β) (hq : q = 56 ∨ q = 83) : S (β + (q + 4)) = some (.inr (0, 400)) := by
  rcases hq with rfl | rfl
  · exact S_60 h
  · exact S_87 h
theorem sq_S5 {S : gSh} {β q : Nat} (h : gLS S β) (hq : q = 56 ∨ q = 83) : S (β + (q + 5)) = some (.inr (0, 400)) := by
  rcases hq with rfl | rfl
  · exact S_61 h
  · exact S_88 h
theorem sq_S6 {S : gSh} {β q : Nat} (h : gLS S β) (hq : q = 56 ∨ q = 83) : S (β + (q + 6)) = some (.inr (1, 12)) := by
  rcases hq with rfl | rfl
  · exact S_62 h
  · exact S_89 h
theorem sq_S7 {S : gSh} {β q : Nat} (h : gLS S β) (hq : q = 56 ∨ q = 83) : S (β + (q + 7)) = some (.inr (1, 400)) := by
  rcases hq with rfl | rfl
  · exact S_63 h
  · exact S_90 h
theorem sq_S26 {S : gSh} {β q : Nat} (h : gLS S β) (hq : q = 56 ∨ q = 83) : S (β + (q + 26)) = some (.inr (1, 6)) := by
  rcases hq with rfl | rfl
  · exact S_82 h
  · exact S_109 h
theorem sq_r0 {R : Nat → Nat → Nat} {β q : Nat} (h : gPS R β) (hq : q = 56 ∨ q = 83) : R (β + q) 0 = β + (q + 1) := by
  rcases hq with rfl | rfl
  · exact R_56_0 h
  · exact R_83_0 h
theorem sq_r1 {R : Nat → Nat → Nat} {β q : Nat} (h : gPS R β) (hq : q = 56 ∨ q = 83) : R (β + q) 1 = β + (q + 2) := by
  rcases hq with rfl | rfl
  · exact R_56_1 h
  · exact R_83_1 h
theorem sq_r2 {R : Nat → Nat → Nat} {β q : Nat} (h : gPS R β) (hq : q = 56 ∨ q = 83) : R (β + q) 2 = β + (q + 3) := by
  rcases hq with rfl | rfl
  · exact R_56_2 h
  · exact R_83_2 h
theorem sq_r3 {R : Nat → Nat → Nat} {β q : Nat} (h : gPS R β) (hq : q = 56 ∨ q = 83) : R (β + q) 3 = β + (q + 4) := by
  rcases hq with rfl | rfl
  · exact R_56_3 h
  · exact R_83_3 h
theorem sq_r4 {R : Nat → Nat → Nat} {β q : Nat} (h : gPS R β) (hq : q = 56 ∨ q = 83) : R (β + q) 4 = β + (q + 5) := by
  rcases hq with rfl | rfl
  · exact R_56_4 h
  · exact R_83_4 h
theorem sq_r5 {R : Nat → Nat → Nat} {β q : Nat} (h : gPS R β) (hq : q = 56 ∨ q = 83) : R (β + q) 5 = β + (q + 6) := by
  rcases hq with rfl | rfl
  · exact R_56_5 h
  · exact R_83_5 h
theorem sq_r6 {R : Nat → Nat → Nat} {β q : Nat} (h : gPS R β) (hq : q = 56 ∨ q = 83) : R (β + q) 6 = β + (q + 7) := by
  rcases hq with rfl | rfl
  · exact R_56_6 h
  · exact R_83_6 h
theorem tl_S {S : gSh} {β q j : Nat} (h : gLS S β) (hq : q = 56 ∨ q = 83) (hj : j < 18) : S (β + (q + 8 + j)) = some (.inl 8) := by
  refine h _ _ ?_
  have key : ∀ j : Fin 18, gLy[56 + 8 + j.val]? = some (.inl 8) ∧ gLy[83 + 8 + j.val]? = some (.inl 8) := by decide +kernel
  rcases hq with rfl | rfl
  · exact (key ⟨j, hj⟩).1
  · exact (key ⟨j, hj⟩).2
theorem tl_r {R : Nat → Nat → Nat} {β q j : Nat} (h : gPS R β) (hq : q = 56 ∨ q = 83) (hj : j < 18) : R (β + (q + 1)) j = β + (q + 8 + j) := by
  have key : ∀ j : Fin 18, (57, j.val, 56 + 8 + j.val) ∈ gPtF ∧ (84, j.val, 83 + 8 + j.val) ∈ gPtF := by decide +kernel
  rcases hq with rfl | rfl
  · exact h _ (key ⟨j, hj⟩).1
  · exact h _ (key ⟨j, hj⟩).2
