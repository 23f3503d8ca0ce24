/-! TOKENS, purely. b i: byte i, 0 from N on -/
abbrev cL (c : Nat) : Prop := 97 ≤ c ∧ c ≤ 122
abbrev cD (c : Nat) : Prop := 48 ≤ c ∧ c ≤ 57
abbrev cA (c : Nat) : Prop := cL c ∨ cD c
abbrev cB (c : Nat) : Prop := c = 9 ∨ c = 10 ∨ c = 13 ∨ c = 32
abbrev cS (c : Nat) : Prop := c = 40 ∨ c = 41 ∨ c = 42 ∨ c = 43 ∨ c = 44 ∨ c = 45 ∨ c = 59 ∨ c = 61
def tRl (q : Nat → Bool) (b : Nat → Nat) : Nat → Nat → Nat
  | 0, _ => 0
  | f + 1, i => if q (b i) = true then tRl q b f (i + 1) + 1 else 0
theorem tRl_eq {q : Nat → Bool} {b : Nat → Nat} : ∀ f i n, (∀ j, j < n → q (b (i + j)) = true) → q (b (i + n)) = false → n ≤ f → tRl q b f i = n
  | 0, i, n, _, _, h => by rw [show n = 0 by omega]; rfl
  | f + 1, i, n, h1, h2, h3 => by
    simp only [tRl]
    cases n with
    | zero => rw [Nat.add_zero] at h2; rw [h2]; rfl
    | succ n =>
      have := h1 0 (by omega)
      rw [Nat.add_zero] at this
      rw [if_pos this, tRl_eq f (i + 1) n (fun j hj => by rw [show i + 1 + j = i + (j + 1) by omega]; exact h1 _ (by omega)) (by rw [show i + 1 + n = i + (n + 1) by omega]; exact h2) (by omega)]
theorem tRl_ok {q : Nat → Bool} {b : Nat → Nat} : ∀ f i, ∀ j, j < tRl q b f i → q (b (i + j)) = true
  | 0, i, j, h => by simp [tRl] at h
  | f + 1, i, j, h => by
    simp only [tRl] at h
    by_cases e : q (b i) = true
    · rw [if_pos e] at h
      cases j with
      | zero => exact e
      | succ j => rw [show i + (j + 1) = i + 1 + j by omega]; exact tRl_ok f (i + 1) j (by omega)
    · rw [if_neg e] at h; omega
theorem tRl_end {q : Nat → Bool} {b : Nat → Nat} {N : Nat} (hq : q 0 = false) (hb : ∀ i, N ≤ i → b i = 0) : ∀ f i, N - i ≤ f → i ≤ N → i + tRl q b f i ≤ N ∧ q (b (i + tRl q b f i)) = false
  | 0, i, h, hi => by
    simp only [tRl, Nat.add_zero]
    exact ⟨by omega, by rw [hb i (by omega)]; exact hq⟩
  | f + 1, i, h, hi => by
    simp only [tRl]
    by_cases e : q (b i) = true
    · rw [if_pos e]
      have hin : i < N := by
        refine Nat.lt_of_not_le (fun g => ?_)
        rw [hb i g, hq] at e
        exact absurd e (by decide)
      have := tRl_end hq hb f (i + 1) (by omega) (by omega)
      rw [show i + (tRl q b f (i + 1) + 1) = i + 1 + tRl q b f (i + 1) by omega]
      exact this
    · rw [if_neg e, Nat.add_zero]
      exact ⟨hi, by simpa using e⟩
def qBl (c : Nat) : Bool := decide (cB c)
def qAl (c : Nat) : Bool := decide (cA c)
def qDi (c : Nat) : Bool := decide (cD c)
/-- behind the blanks -/
def tSk (b : Nat → Nat) (i : Nat) : Nat := i + tRl qBl b 2000 i
def tWl (b : Nat → Nat) (i : Nat) : Nat := tRl qAl b 2000 i
def tDl (b : Nat → Nat) (i : Nat) : Nat := tRl qDi b 2000 i
def tNx (b : Nat → Nat) (N i : Nat) : Nat := if N ≤ i then i else if cL (b i) then i + tWl b i else if cD (b i) then i + tDl b i else i + 1
/-- a word as a number: base M, digits by g -/
def tPk (M : Nat) (g : Nat → Nat) (b : Nat → Nat) (i : Nat) : Nat → Nat
  | 0 => 0
  | n + 1 => M * tPk M g b i n + g (b (i + n))
def g37 (c : Nat) : Nat := if cD c then c - 48 + 27 else c - 97 + 1
def tKw (v : Nat) : Nat := if v = 7103860 then 4 else if v = 6451064 then 5 else if v = 512970880104 then 6 else if v = 440005915496 then 7 else if v = 1936292453 then 8 else if v = 7170414 then 9 else if v = 7168376 then 10 else 3
def tKd (b : Nat → Nat) (N i : Nat) : Nat := if N ≤ i then 0 else if cL (b i) then (if 8 < tWl b i then 1 else tKw (tPk 256 id b i (tWl b i))) else if cD (b i) then (if 4 < tDl b i then 1 else 2) else if cS (b i) then b i else 1
def tVl (b : Nat → Nat) (N i : Nat) : Nat := if N ≤ i then 0 else if cL (b i) then (if 8 < tWl b i then 0 else tPk 256 id b i (tWl b i)) else if cD (b i) then (if 4 < tDl b i then 0 else tPk 10 (fun c => c - 48) b i (tDl b i)) else 0
def tNm (b : Nat → Nat) (i : Nat) : Nat := tPk 37 g37 b i (tWl b i)
def tQ (b : Nat → Nat) (N : Nat) : Nat → Nat
  | 0 => tSk b 0
  | k + 1 => tSk b (tNx b N (tQ b N k))
theorem tPk_inj {M : Nat} {g : Nat → Nat} {b : Nat → Nat} {i i' : Nat} (hM : 0 < M) (hg : ∀ c, cA c → 0 < g c ∧ g c < M) (hi : ∀ c c', cA c → cA c' → g c = g c' → c = c') : ∀ n n', (∀ j, j < n → cA (b (i + j))) → (∀ j, j < n' → cA (b (i' + j))) → (tPk M g b i n = tPk M g b i' n' ↔ n = n' ∧ ∀ j, j < n → b (i + j) = b (i' + j))
  | 0, 0, _, _ => ⟨fun _ => ⟨rfl, fun j hj => by omega⟩, fun _ => rfl⟩
  | 0, n' + 1, _, h2 => by
    have := (hg _ (h2 n' (by omega))).1
    refine ⟨fun h => ?_, fun h => by omega⟩
    simp only [tPk] at h
    omega
  | n + 1, 0, h1, _ => by
    have := (hg _ (h1 n (by omega))).1
    refine ⟨fun h => ?_, fun h => by omega⟩
    simp only [tPk] at h
    omega
  | n + 1, n' + 1, h1, h2 => by
    have ih := tPk_inj hM hg hi n n' (fun j hj => h1 j (by omega)) (fun j hj => h2 j (by omega))
    have g1 := (hg _ (h1 n (by omega))).2
    have g2 := (hg _ (h2 n' (by omega))).2
    simp only [tPk]
    constructor
    · intro h
      have e1 : (M * tPk M g b i n + g (b (i + n))) % M = (M * tPk M g b i' n' + g (b (i' + n'))) % M := by rw [h]
      have e2 : (M * tPk M g b i n + g (b (i + n))) / M = (M * tPk M g b i' n' + g (b (i' + n'))) / M := by rw [h]
      rw [Nat.mul_add_mod, Nat.mul_add_mod, Nat.mod_eq_of_lt g1, Nat.mod_eq_of_lt g2] at e1
      rw [Nat.mul_add_div hM, Nat.mul_add_div hM, Nat.div_eq_of_lt g1, Nat.div_eq_of_lt g2] at e2
      obtain ⟨e3, e4⟩ := ih.1 (by omega)
      subst e3
      refine ⟨rfl, fun j hj => ?_⟩
      by_cases e : j = n
      · subst e; exact hi _ _ (h1 _ (by omega)) (h2 _ (by omega)) e1
      · exact e4 j (by omega)
    · rintro ⟨e3, e4⟩
      have e3 : n = n' := by omega
      subst e3
      rw [ih.2 ⟨rfl, fun j hj => e4 j (by omega)⟩, e4 n (by omega)]
theorem g37_ok : ∀ c, cA c → 0 < g37 c ∧ g37 c < 37 := by
  intro c hc
  unfold g37
  split <;> omega
theorem g37_inj : ∀ c c', cA c → cA c' → g37 c = g37 c' → c = c' := by
  intro c c' h1 h2
  unfold g37
  split <;> split <;> omega
theorem id_ok : ∀ c, cA c → 0 < id c ∧ id c < 256 := by
  intro c hc
  simp only [id]
  omega
theorem tPk_iff {b : Nat → Nat} {i i' n n' : Nat} (h1 : ∀ j, j < n → cA (b (i + j))) (h2 : ∀ j, j < n' → cA (b (i' + j))) : tPk 256 id b i n = tPk 256 id b i' n' ↔ tPk 37 g37 b i n = tPk 37 g37 b i' n' := by
  rw [tPk_inj (by omega) id_ok (fun c c' _ _ h => h) n n' h1 h2, tPk_inj (by omega) g37_ok g37_inj n n' h1 h2]
theorem tPk_congr {M : Nat} {g : Nat → Nat} {b b' : Nat → Nat} {i i' : Nat} : ∀ n, (∀ j, j < n → b (i + j) = b' (i' + j)) → tPk M g b i n = tPk M g b' i' n
  | 0, _ => rfl
  | n + 1, h => by
    simp only [tPk]
    rw [tPk_congr n (fun j hj => h j (by omega)), h n (by omega)]
/-- as a word of its own: w0 .. w5, by a function that has it from place 3000 on -/
theorem tPk_word {b : Nat → Nat} {i n m : Nat} {w : Nat → Nat} (h1 : ∀ j, j < n → cA (b (i + j))) (h2 : ∀ j, j < m → cA (w j)) (hi : i + n ≤ 3000) : tPk 256 id b i n = tPk 256 id w 0 m ↔ tPk 37 g37 b i n = tPk 37 g37 w 0 m := by
  have e1 : ∀ (M : Nat) (g : Nat → Nat), tPk M g (fun k => if k < 3000 then b k else w (k - 3000)) i n = tPk M g b i n := fun M g => tPk_congr n (fun j hj => if_pos (by omega))
  have e2 : ∀ (M : Nat) (g : Nat → Nat), tPk M g (fun k => if k < 3000 then b k else w (k - 3000)) 3000 m = tPk M g w 0 m := fun M g => tPk_congr m (fun j hj => by
    rw [if_neg (by omega), Nat.zero_add, show 3000 + j - 3000 = j by omega])
  have := tPk_iff (b := fun k => if k < 3000 then b k else w (k - 3000)) (i := i) (i' := 3000) (n := n) (n' := m) (fun j hj => by
    rw [if_pos (by omega)]
    exact h1 j hj) (fun j hj => by
    rw [if_neg (by omega), show 3000 + j - 3000 = j by omega]
    exact h2 j hj)
  rw [e1, e1, e2, e2] at this
  exact this
