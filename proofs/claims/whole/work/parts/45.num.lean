/-! NUMBERS: every int of the code as nI of a Nat, or gm1 (the -1); the instructions' equations anew in these words -/
def gm1 : Int32 := -1
theorem n_gb {S : gSh} {C : gCS} {X : Nat → gK} {P : gP} {pc len z : Nat} {t : gT} {r : List (Nat × Nat × gT)} {μ : gM} {lc : gLc} {st : List Value} : gb S C X P ((pc, len, t) :: r) z μ lc st = t S C X P (gb S C X P r z) μ lc st := e_gb.trans (Eq.refl _)
theorem n_gb0 {S : gSh} {C : gCS} {X : Nat → gK} {P : gP} {z : Nat} {μ : gM} {lc : gLc} {st : List Value} : gb S C X P [] z μ lc st = X z μ lc st := e_gb0.trans (Eq.refl _)
theorem n_ic {n : Nat} {S : gSh} {C : gCS} {X : Nat → gK} {P : gP} {K : gK} {μ : gM} {lc : gLc} {st : List Value} : i_ic (no_index (OfNat.ofNat n)) S C X P K μ lc st = (K μ lc (.int (nI n) :: st)) := rfl
theorem n_icm {S : gSh} {C : gCS} {X : Nat → gK} {P : gP} {K : gK} {μ : gM} {lc : gLc} {st : List Value} : i_ic (-1) S C X P K μ lc st = (K μ lc (.int gm1 :: st)) := rfl
theorem n_lc {n : Nat} {S : gSh} {C : gCS} {X : Nat → gK} {P : gP} {K : gK} {μ : gM} {lc : gLc} {st : List Value} : i_lc (no_index (OfNat.ofNat n)) S C X P K μ lc st = (K μ lc (.long (lN n) :: st)) := rfl
theorem n_inc {i n : Nat} {S : gSh} {C : gCS} {X : Nat → gK} {P : gP} {K : gK} {μ : gM} {lc : gLc} {st : List Value} : i_inc i (no_index (OfNat.ofNat n)) S C X P K μ lc st = (match gGet lc i with
  | some (.int x) => K μ (gS1 lc i (.int (x + nI n))) st
  | _ => False) := rfl
theorem n_incm1 {i : Nat} {S : gSh} {C : gCS} {X : Nat → gK} {P : gP} {K : gK} {μ : gM} {lc : gLc} {st : List Value} : i_inc i (-1) S C X P K μ lc st = (match gGet lc i with
  | some (.int x) => K μ (gS1 lc i (.int (x - nI 1))) st
  | _ => False) := by
  have e : ∀ x : Int32, x + (-1) = x - nI 1 := fun x => by rw [Int32.sub_eq_add_neg]; rfl
  rw [e_inc]
  cases gGet lc i with
  | none => rfl
  | some v =>
    cases v with
    | int x => simp only [e]
    | _ => rfl
theorem n_incm8 {i : Nat} {S : gSh} {C : gCS} {X : Nat → gK} {P : gP} {K : gK} {μ : gM} {lc : gLc} {st : List Value} : i_inc i (-8) S C X P K μ lc st = (match gGet lc i with
  | some (.int x) => K μ (gS1 lc i (.int (x - nI 8))) st
  | _ => False) := by
  have e : ∀ x : Int32, x + (-8) = x - nI 8 := fun x => by rw [Int32.sub_eq_add_neg]; rfl
  rw [e_inc]
  cases gGet lc i with
  | none => rfl
  | some v =>
    cases v with
    | int x => simp only [e]
    | _ => rfl
theorem n_ishl {S : gSh} {C : gCS} {X : Nat → gK} {P : gP} {K : gK} {μ : gM} {lc : gLc} {st : List Value} : i_ishl S C X P K μ lc st = (match st with
  | .int y :: .int x :: r => K μ lc (.int (x <<< (y &&& nI 31)) :: r)
  | _ => False) := rfl
theorem n_ishr {S : gSh} {C : gCS} {X : Nat → gK} {P : gP} {K : gK} {μ : gM} {lc : gLc} {st : List Value} : i_ishr S C X P K μ lc st = (match st with
  | .int y :: .int x :: r => K μ lc (.int (x >>> (y &&& nI 31)) :: r)
  | _ => False) := rfl
theorem n_idiv {S : gSh} {C : gCS} {X : Nat → gK} {P : gP} {K : gK} {μ : gM} {lc : gLc} {st : List Value} : i_idiv S C X P K μ lc st = (match st with
  | .int y :: .int x :: r => ¬ y = nI 0 ∧ K μ lc (.int (x / y) :: r)
  | _ => False) := rfl
theorem n_zeq {tgt : Nat} {S : gSh} {C : gCS} {X : Nat → gK} {P : gP} {K : gK} {μ : gM} {lc : gLc} {st : List Value} : i_zeq tgt S C X P K μ lc st = (match st with
  | .int x :: r => (x = nI 0 → X tgt μ lc r) ∧ (¬ x = nI 0 → K μ lc r)
  | _ => False) := rfl
theorem n_zne {tgt : Nat} {S : gSh} {C : gCS} {X : Nat → gK} {P : gP} {K : gK} {μ : gM} {lc : gLc} {st : List Value} : i_zne tgt S C X P K μ lc st = (match st with
  | .int x :: r => (¬ x = nI 0 → X tgt μ lc r) ∧ (x = nI 0 → K μ lc r)
  | _ => False) := rfl
theorem n_zlt {tgt : Nat} {S : gSh} {C : gCS} {X : Nat → gK} {P : gP} {K : gK} {μ : gM} {lc : gLc} {st : List Value} : i_zlt tgt S C X P K μ lc st = (match st with
  | .int x :: r => (x < nI 0 → X tgt μ lc r) ∧ (¬ x < nI 0 → K μ lc r)
  | _ => False) := rfl
theorem n_zge {tgt : Nat} {S : gSh} {C : gCS} {X : Nat → gK} {P : gP} {K : gK} {μ : gM} {lc : gLc} {st : List Value} : i_zge tgt S C X P K μ lc st = (match st with
  | .int x :: r => (nI 0 ≤ x → X tgt μ lc r) ∧ (¬ nI 0 ≤ x → K μ lc r)
  | _ => False) := rfl
theorem n_zgt {tgt : Nat} {S : gSh} {C : gCS} {X : Nat → gK} {P : gP} {K : gK} {μ : gM} {lc : gLc} {st : List Value} : i_zgt tgt S C X P K μ lc st = (match st with
  | .int x :: r => (nI 0 < x → X tgt μ lc r) ∧ (¬ nI 0 < x → K μ lc r)
  | _ => False) := rfl
theorem n_zle {tgt : Nat} {S : gSh} {C : gCS} {X : Nat → gK} {P : gP} {K : gK} {μ : gM} {lc : gLc} {st : List Value} : i_zle tgt S C X P K μ lc st = (match st with
  | .int x :: r => (x ≤ nI 0 → X tgt μ lc r) ∧ (¬ x ≤ nI 0 → K μ lc r)
  | _ => False) := rfl
theorem n_retZ {S : gSh} {C : gCS} {X : Nat → gK} {P : gP} {K : gK} {μ : gM} {lc : gLc} {st : List Value} : i_retZ S C X P K μ lc st = (match st with
  | [.int x] => (x = nI 0 ∨ x = nI 1) ∧ P (some (.int x)) μ
  | _ => False) := rfl
theorem n_pfZ {ci k : Nat} {S : gSh} {C : gCS} {X : Nat → gK} {P : gP} {K : gK} {μ : gM} {lc : gLc} {st : List Value} : i_pfZ ci k S C X P K μ lc st = (match st with
  | .int x :: .ref a :: r => S a = some (.inl ci) ∧ (x = nI 0 ∨ x = nI 1) ∧ K (gU μ.1 a k x, μ.2) lc r
  | _ => False) := rfl
theorem n_zast {S : gSh} {C : gCS} {X : Nat → gK} {P : gP} {K : gK} {μ : gM} {lc : gLc} {st : List Value} : i_zast S C X P K μ lc st = (match st with
  | .int x :: .int i :: .ref a :: r => ∃ n, S a = some (.inr (3, n)) ∧ vp_in i n ∧ (x = nI 0 ∨ x = nI 1) ∧ K (gU μ.1 a i.toNatClampNeg x, μ.2) lc r
  | _ => False) := rfl
/-! comparisons -/
theorem w_lt {a b : Nat} (ha : a < 2147483648) (hb : b < 2147483648) : (nI a < nI b) = (a < b) := propext (nI_ltI ha hb)
theorem w_le {a b : Nat} (ha : a < 2147483648) (hb : b < 2147483648) : (nI a ≤ nI b) = (a ≤ b) := propext (nI_leI ha hb)
theorem w_eq {a b : Nat} (ha : a < 2147483648) (hb : b < 2147483648) : (nI a = nI b) = (a = b) := propext (nI_eq ha hb)
theorem gm1_toInt : gm1.toInt = -1 := by decide +kernel
theorem w_meq {a : Nat} (ha : a < 2147483648) : (gm1 = nI a) = False := by
  refine eq_false (fun h => ?_)
  have := congrArg Int32.toInt h
  rw [gm1_toInt, nI_toInt ha] at this
  omega
theorem w_eqm {a : Nat} (ha : a < 2147483648) : (nI a = gm1) = False := by
  refine eq_false (fun h => ?_)
  have := congrArg Int32.toInt h
  rw [gm1_toInt, nI_toInt ha] at this
  omega
theorem w_mlt {a : Nat} (ha : a < 2147483648) : (gm1 < nI a) = True := by
  refine eq_true (Int32.lt_iff_toInt_lt.mpr ?_)
  rw [gm1_toInt, nI_toInt ha]
  omega
theorem w_ltm {a : Nat} (ha : a < 2147483648) : (nI a < gm1) = False := by
  refine eq_false (fun h => ?_)
  have := Int32.lt_iff_toInt_lt.mp h
  rw [gm1_toInt, nI_toInt ha] at this
  omega
theorem w_mle {a : Nat} (ha : a < 2147483648) : (gm1 ≤ nI a) = True := by
  refine eq_true (Int32.le_iff_toInt_le.mpr ?_)
  rw [gm1_toInt, nI_toInt ha]
  omega
theorem w_lem {a : Nat} (ha : a < 2147483648) : (nI a ≤ gm1) = False := by
  refine eq_false (fun h => ?_)
  have := Int32.le_iff_toInt_le.mp h
  rw [gm1_toInt, nI_toInt ha] at this
  omega
theorem w_clamp {n : Nat} (h : n < 2147483648) : (nI n).toNatClampNeg = n := nI_clamp h
theorem w_in {n N : Nat} (h : n < 2147483648) : vp_in (nI n) N = (n < N) := by
  refine propext ⟨fun q => ?_, fun q => ?_⟩
  · have := vp_in_iff.mp q
    rw [nI_toInt h] at this
    omega
  · refine vp_in_iff.mpr ?_
    rw [nI_toInt h]
    omega
theorem w_sub {a b : Nat} (h : b ≤ a) : nI a - nI b = nI (a - b) := pk_sub h
theorem w_and (a b : Nat) : nI a &&& nI b = nI (a &&& b) := by
  rw [← Int32.toBitVec_inj, Int32.toBitVec_and]
  show BitVec.ofNat 32 a &&& BitVec.ofNat 32 b = BitVec.ofNat 32 (a &&& b)
  apply BitVec.eq_of_toNat_eq
  rw [BitVec.toNat_and]
  simp only [BitVec.toNat_ofNat]
  exact (Nat.and_mod_two_pow).symm
theorem w_or (a b : Nat) : nI a ||| nI b = nI (a ||| b) := by
  rw [← Int32.toBitVec_inj, Int32.toBitVec_or]
  show BitVec.ofNat 32 a ||| BitVec.ofNat 32 b = BitVec.ofNat 32 (a ||| b)
  apply BitVec.eq_of_toNat_eq
  rw [BitVec.toNat_or]
  simp only [BitVec.toNat_ofNat]
  exact (Nat.or_mod_two_pow).symm
theorem w_xor (a b : Nat) : nI a ^^^ nI b = nI (a ^^^ b) := by
  rw [← Int32.toBitVec_inj, Int32.toBitVec_xor]
  show BitVec.ofNat 32 a ^^^ BitVec.ofNat 32 b = BitVec.ofNat 32 (a ^^^ b)
  apply BitVec.eq_of_toNat_eq
  rw [BitVec.toNat_xor]
  simp only [BitVec.toNat_ofNat]
  exact (Nat.xor_mod_two_pow).symm
/-- a without b -/
def gAn (a b : Nat) : Nat := a ^^^ (a &&& b)
theorem gAn_bit (a b i : Nat) : (gAn a b).testBit i = (a.testBit i && !b.testBit i) := by
  simp only [gAn, Nat.testBit_xor, Nat.testBit_and]
  cases a.testBit i <;> cases b.testBit i <;> rfl
theorem w_an (a b : Nat) : nI a &&& (nI b ^^^ gm1) = nI (gAn a b) := by
  rw [← Int32.toBitVec_inj, Int32.toBitVec_and, Int32.toBitVec_xor]
  show BitVec.ofNat 32 a &&& (BitVec.ofNat 32 b ^^^ BitVec.ofInt 32 (-1)) = BitVec.ofNat 32 (gAn a b)
  have e : BitVec.ofInt 32 (-1) = BitVec.allOnes 32 := by decide +kernel
  rw [e]
  apply BitVec.eq_of_getLsbD_eq
  intro i hi
  simp only [BitVec.getLsbD_and, BitVec.getLsbD_xor, BitVec.getLsbD_ofNat, BitVec.getLsbD_allOnes, gAn_bit, hi, decide_true, Bool.true_and]
  cases a.testBit i <;> cases b.testBit i <;> rfl
theorem w_s31 : ∀ s : Nat, s < 32 → ((nI s).toBitVec.smod 32).toNat = s := by decide +kernel
theorem w_31 : ∀ s : Nat, s < 32 → nI s &&& nI 31 = nI s := by decide +kernel
theorem w_shr {a s : Nat} (ha : a < 2147483648) (hs : s < 32) : nI a >>> nI s = nI (a >>> s) := by
  rw [pk_shrN ha (nI s) s (w_s31 s hs), Nat.shiftRight_eq_div_pow]
theorem w_shl {a s : Nat} (hs : s < 32) (h : a * 2 ^ s < 4294967296) : nI a <<< nI s = nI (a <<< s) := by
  rw [pk_shlN (nI s) s (w_s31 s hs) h, Nat.shiftLeft_eq]
theorem w_bit (a s : Nat) : ((a >>> s) &&& 1 = 0) = (a.testBit s = false) := by
  rw [Nat.testBit, Nat.and_comm]
  simp
theorem w_bit1 (a s : Nat) : ((a >>> s) &&& 1 = 1) = (a.testBit s = true) := by
  have := w_bit a s
  rw [Nat.and_one_is_mod] at this ⊢
  cases h : a.testBit s
  · rw [h] at this
    simp at this
    simp [this]
  · rw [h] at this
    simp at this
    simp [this]
theorem w_i (x : Int32) (h : 0 ≤ x) : ∃ n : Nat, n < 2147483648 ∧ x = nI n := nI_of (Int32.not_lt.mpr h)
theorem w_case (x : Int32) {n : Nat} (hn : n < 2147483648) : x < nI 0 ∨ nI n ≤ x ∨ ∃ j : Nat, j < n ∧ x = nI j := pk_ix x hn
theorem w_ite0 {c : Prop} [Decidable c] : ((if c then nI 1 else nI 0) = nI 0) = ¬ c := by
  by_cases h : c <;> simp [h] <;> decide +kernel
theorem w_ite1 {c : Prop} [Decidable c] : ((if c then nI 1 else nI 0) = nI 1) = c := by
  by_cases h : c <;> simp [h] <;> decide +kernel
theorem w_ite01 {c : Prop} [Decidable c] : ((if c then nI 1 else nI 0) = nI 0 ∨ (if c then nI 1 else nI 0) = nI 1) = True := by
  by_cases h : c <;> simp [h]
/-! reading through updates -/
theorem gU_a {α : Type} {f : Nat → Nat → α} {a k b j : Nat} {v : α} (h : b ≠ a) : gU f a k v b j = f b j := gU_n (fun q => h q.1)
theorem gU_k {α : Type} {f : Nat → Nat → α} {a k b j : Nat} {v : α} (h : j ≠ k) : gU f a k v b j = f b j := gU_n (fun q => h q.2)
theorem gU_c {α : Type} {f : Nat → Nat → α} {a k j : Nat} {v : α} : gU f a k v a j = if j = k then v else f a j := by simp [gU]
/-- a whole row anew -/
def gW {α : Type} (f : Nat → Nat → α) (a : Nat) (g : Nat → α) : Nat → Nat → α := fun b j => if b = a then g j else f b j
theorem gW_s {α : Type} {f : Nat → Nat → α} {a j : Nat} {g : Nat → α} : gW f a g a j = g j := by simp [gW]
theorem gW_n {α : Type} {f : Nat → Nat → α} {a b j : Nat} {g : Nat → α} (h : b ≠ a) : gW f a g b j = f b j := by simp [gW, h]
/-- a counted loop -/
theorem gLoop {X : Nat → gK} {pc : Nat} (I : Nat → gM → gLc → Prop) (N : Nat) (step : ∀ j μ lc, j < N → I j μ lc → (∀ μ' lc', I (j + 1) μ' lc' → X pc μ' lc' []) → X pc μ lc []) (fin : ∀ μ lc, I N μ lc → X pc μ lc []) : ∀ j, j ≤ N → ∀ μ lc, I j μ lc → X pc μ lc [] := by
  have key : ∀ d j, j + d = N → ∀ μ lc, I j μ lc → X pc μ lc [] := by
    intro d
    induction d with
    | zero => intro j h μ lc hI; have e : j = N := by omega
              subst e; exact fin μ lc hI
    | succ d ih => intro j h μ lc hI; exact step j μ lc (by omega) hI (fun μ' lc' h' => ih (j + 1) (by omega) μ' lc' h')
  intro j h μ lc hI
  exact key (N - j) j (by omega) μ lc hI
/-- a loop whose measure falls -/
theorem gLoopD {X : Nat → gK} {pc : Nat} (I : Nat → gM → gLc → Prop) (step : ∀ d μ lc, I d μ lc → (∀ d' μ' lc', d' < d → I d' μ' lc' → X pc μ' lc' []) → X pc μ lc []) : ∀ d μ lc, I d μ lc → X pc μ lc [] := by
  intro d
  induction d using Nat.strongRecOn with
  | ind d ih => intro μ lc hI; exact step d μ lc hI (fun d' μ' lc' h1 h2 => ih d' h1 μ' lc' h2)
theorem w_ne0 {a : Nat} (h : a ≠ 0) : (a ≠ 0) = True := eq_true h
/-! the boxes: box k at β + (19 + 3 k), its rows behind it -/
theorem bx_S {S : gSh} {β k : Nat} (h : gLS S β) (hk : k < 6) : S (β + (19 + 3 * k)) = some (.inl 0) := by
  refine h _ _ ?_
  rcases (show k = 0 ∨ k = 1 ∨ k = 2 ∨ k = 3 ∨ k = 4 ∨ k = 5 by omega) with rfl | rfl | rfl | rfl | rfl | rfl <;> rfl
theorem bx_S1 {S : gSh} {β k : Nat} (h : gLS S β) (hk : k < 6) : S (β + (20 + 3 * k)) = some (.inr (0, 400)) := by
  refine h _ _ ?_
  rcases (show k = 0 ∨ k = 1 ∨ k = 2 ∨ k = 3 ∨ k = 4 ∨ k = 5 by omega) with rfl | rfl | rfl | rfl | rfl | rfl <;> rfl
theorem bx_S2 {S : gSh} {β k : Nat} (h : gLS S β) (hk : k < 6) : S (β + (21 + 3 * k)) = some (.inr (1, 400)) := by
  refine h _ _ ?_
  rcases (show k = 0 ∨ k = 1 ∨ k = 2 ∨ k = 3 ∨ k = 4 ∨ k = 5 by omega) with rfl | rfl | rfl | rfl | rfl | rfl <;> rfl
theorem bx_r {R : Nat → Nat → Nat} {β k : Nat} (h : gPS R β) (hk : k < 6) : R (β + 18) k = β + (19 + 3 * k) := by
  rcases (show k = 0 ∨ k = 1 ∨ k = 2 ∨ k = 3 ∨ k = 4 ∨ k = 5 by omega) with rfl | rfl | rfl | rfl | rfl | rfl
  · exact R_18_0 h
  · exact R_18_1 h
  · exact R_18_2 h
  · exact R_18_3 h
  · exact R_18_4 h
  · exact R_18_5 h
theorem bx_r1 {R : Nat → Nat → Nat} {β k : Nat} (h : gPS R β) (hk : k < 6) : R (β + (19 + 3 * k)) 12 = β + (20 + 3 * k) := by
  rcases (show k = 0 ∨ k = 1 ∨ k = 2 ∨ k = 3 ∨ k = 4 ∨ k = 5 by omega) with rfl | rfl | rfl | rfl | rfl | rfl
  · exact R_19_12 h
  · exact R_22_12 h
  · exact R_25_12 h
  · exact R_28_12 h
  · exact R_31_12 h
  · exact R_34_12 h
theorem bx_r2 {R : Nat → Nat → Nat} {β k : Nat} (h : gPS R β) (hk : k < 6) : R (β + (19 + 3 * k)) 13 = β + (21 + 3 * k) := by
  rcases (show k = 0 ∨ k = 1 ∨ k = 2 ∨ k = 3 ∨ k = 4 ∨ k = 5 by omega) with rfl | rfl | rfl | rfl | rfl | rfl
  · exact R_19_13 h
  · exact R_22_13 h
  · exact R_25_13 h
  · exact R_28_13 h
  · exact R_31_13 h
  · exact R_34_13 h
theorem n_sw {ks : List (Int32 × Nat)} {d : Nat} {S : gSh} {C : gCS} {X : Nat → gK} {P : gP} {K : gK} {μ : gM} {lc : gLc} {st : List Value} : i_sw ks d S C X P K μ lc st = (match st with
  | .int x :: r => gSw X d x ks μ lc r
  | _ => False) := rfl
theorem n_gSw {X : Nat → gK} {d n t : Nat} {x : Int32} {r : List (Int32 × Nat)} {μ : gM} {lc : gLc} {st : List Value} : gSw X d x ((no_index (OfNat.ofNat n), t) :: r) μ lc st = ((x = nI n → X t μ lc st) ∧ (¬ x = nI n → gSw X d x r μ lc st)) := rfl
theorem n_gSw0 {X : Nat → gK} {d : Nat} {x : Int32} {μ : gM} {lc : gLc} {st : List Value} : gSw X d x [] μ lc st = X d μ lc st := rfl
