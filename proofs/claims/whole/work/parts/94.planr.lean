/-! PLANS, the reference: the whole plan -/
def pA0 (t : Nat) : Option Nat → Nat
  | none => 7
  | some r => if r = t ∨ 6 < t - 1 - r then 7 else t - 1 - r
theorem pA0_7 {t : Nat} (o : Option Nat) : pA0 t o ≤ 7 := by
  cases o with
  | none => simp [pA0]
  | some r => simp only [pA0]; split <;> omega
def pEl (fr : Nat → Nat) (ra : Nat → Option Nat) (t x : Nat) : Nat → Nat := fun j => rSl (fr (pSl x 6 j)) t (ra (pSl x 6 j))
def pRn0 (ra : Nat → Option Nat) (t x : Nat) : Nat → Bool := fun j => decide (ra (pSl x 6 j) = some t)
/-- the surroundings of a plan that keeps x -/
abbrev pEf (E : Nat → gPE) (nd fr : Nat → Nat) (H : Nat) : Prop := ∀ x, pK (E x) = pPo x 6 ∧ (∀ j, pN (E x) j = nd (pSl x 6 j)) ∧ (∀ j, pF (E x) j = fr (pSl x 6 j)) ∧ ph (E x) = H
theorem pPo_n : ∀ (n : Fin 7) (x : Fin 64), x.val < 2 ^ n.val → pPo x.val n.val = pPo x.val 6 := by decide +kernel
theorem bit_n {x n b : Nat} (hx : x < 2 ^ n) (h : x.testBit b = true) : b < n := by
  refine Nat.lt_of_not_le (fun g => ?_)
  rw [Nat.testBit_lt_two_pow (Nat.lt_of_lt_of_le hx (Nat.pow_le_pow_right (by omega) g))] at h
  exact absurd h (by decide)
theorem rL_0 {E : Nat → gPE} {nd fr : Nat → Nat} {ra : Nat → Option Nat} {t H x j : Nat} (hEx : pEf E nd fr H) (hF : ∀ j, j < pK (E x) → pF (E x) j ≤ 6) (hr : ∀ j r, j < pK (E x) → ra (pSl x 6 j) = some r → r ≤ t) (hj : j < pK (E x)) : rL (E x) (pRn0 ra t x) 0 (pEn (fun j => pA0 t (ra (pSl x 6 j))) (pK (E x))) j = pEl fr ra t x j := by
  have e := rD_En (na := fun j => pA0 t (ra (pSl x 6 j))) (k := pK (E x)) (fun j _ => pA0_7 _) hj
  have hf := hF j hj
  have hF' := (hEx x).2.2.1 j
  unfold pEl
  rw [← hF']
  by_cases h2 : (0 : Nat) = 0 ∧ pRn0 ra t x j = true
  · rw [rL_2 h2]
    have := of_decide_eq_true h2.2
    rw [this]
    simp only [rSl]
    rw [if_neg (by omega)]
    omega
  · rw [rL_3 h2, e]
    have hne : ra (pSl x 6 j) ≠ some t := fun z => h2 ⟨rfl, decide_eq_true z⟩
    have hrj := hr j
    cases hq : ra (pSl x 6 j) with
    | none => simp only [pA0, rSl]; omega
    | some r =>
      have hrt := hrj r hj hq
      have : r ≠ t := fun z => hne (by rw [hq, z])
      simp only [pA0, rSl]
      by_cases g : 6 < t - 1 - r
      · rw [if_pos (Or.inr g)]; split <;> omega
      · rw [if_neg (by omega)]; split <;> omega
/-- what the reference's plan leaves alone -/
def rFr (β : Nat) (μ μ' : gM) : Prop := (∀ a i, ¬ (a = β + 110 ∧ i = 72) → ¬ (β + 153 ≤ a ∧ a ≤ β + 158) → μ'.1 a i = μ.1 a i) ∧ μ'.2 = μ.2
theorem rFr_t {β : Nat} {μ μ1 μ2 : gM} (h1 : rFr β μ μ1) (h2 : rFr β μ1 μ2) : rFr β μ μ2 := ⟨fun a i x y => (h2.1 a i x y).trans (h1.1 a i x y), h2.2.trans h1.2⟩
theorem rFr_C {β n lv t : Nat} {nd fr wo : Nat → Nat} {ra : Nat → Option Nat} {μ μ' : gM} (f : rFr β μ μ') (H : rC β n lv nd fr wo ra t μ) : rC β n lv nd fr wo ra t μ' :=
  rC_c (fun a i hD => f.1 _ _ (by omega) (by omega)) H
theorem rFr_S {β t : Nat} {E : gPE} {μ μ' : gM} (f : rFr β μ μ') (H : rS β E t μ) : rS β E t μ' :=
  rS_c (fun a i hD => f.1 _ _ (by omega) (by omega)) H
set_option maxHeartbeats 4000000 in
/-- chooses, then reckonsBack -/
theorem k_mTry {S : gSh} {h β n lv t H x : Nat} {E : Nat → gPE} {nd fr wo : Nat → Nat} {ra : Nat → Option Nat} {μ : gM} {Q : gP} (hS : gLS S β) (hR : gPS μ.2.2 β) (q : rC β n lv nd fr wo ra t μ) (hx : x < 2 ^ n) (hx4 : pPo x 6 ≤ 4) (h1 : 1 ≤ H) (ht : t < 400) (hEx : pEf E nd fr H) (hE : pWf (E x)) (hs : rS β (E x) t μ)
    (hQ : ∀ μ2, μ2.2 = μ.2 → (∀ (P : gP) h', (∀ μ', rFr β μ μ' → rP β (E x) (pSl x 6) (pRn0 ra t x) lv t μ' → rB β (E x) (pSl x 6) (fun j => pA0 t (ra (pSl x 6 j))) t μ' → (∀ j, j < pK (E x) → rL (E x) (pRn0 ra t x) 0 (pEn (fun j => pA0 t (ra (pSl x 6 j))) (pK (E x))) j = pEl fr ra t x j) → (∃ g6, g6 (pEn (fun j => pA0 t (ra (pSl x 6 j))) (pK (E x))) = nI 1 ∧ rM (E x) (pRn0 ra t x) H g6 ∧ rF (E x) (pRn0 ra t x) 0 g6 (μ'.1 (β + 153)) (μ'.1 (β + 154))) → P (some (.int (nI (pV (E x) H (pEl fr ra t x))))) μ') → gRun S (h' + 3) 165 [.ref (β + 110), .int (nI H)] μ2 P) → Q none μ2) :
    gRun S (h + 1) 173 [.ref (β + 110), .int (nI x)] μ Q := by
  obtain ⟨e1, e2, e3, e4⟩ := hEx x
  have q0 := q.1
  have hx64 : x < 64 := Nat.lt_of_lt_of_le hx (show 2 ^ n ≤ 2 ^ 6 from Nat.pow_le_pow_right (by omega) q0)
  have hpn := pPo_n ⟨n, by omega⟩ ⟨x, hx64⟩ hx
  dsimp only at hpn
  have hbox : ∀ j, j < pK (E x) → pSl x 6 j < n ∧ x.testBit (pSl x 6 j) = true ∧ pPo x (pSl x 6 j) = j := by
    intro j hj
    rw [e1] at hj
    obtain ⟨b1, b2, b3⟩ := pSl_of ⟨x, hx64⟩ ⟨j, by omega⟩ hj
    exact ⟨bit_n hx b2, b2, b3⟩
  refine k_mChooses hS hR q hx64 hx4 (fun g f1 => hQ _ rfl (fun P h' hP => ?_))
  have qq := q.2.2.2.2.2
  have fr1 : rFr β μ (gU (gW μ.1 (β + 155) g) (β + 110) 72 (nI (pPo x n)), μ.2) := ⟨fun a i y z => by dsimp only; rw [gU_n (by omega), gW_n (by omega)], rfl⟩
  have hF : ∀ j, j < pK (E x) → pF (E x) j ≤ 6 := by
    intro j hj
    rw [e3]
    exact (qq _ (hbox j hj).1).2.2.1
  have hrp : rP β (E x) (pSl x 6) (pRn0 ra t x) lv t (gU (gW μ.1 (β + 155) g) (β + 110) 72 (nI (pPo x n)), μ.2) := by
    refine ⟨q.2.1, ?_, ?_, ?_, fun j hj => ?_⟩
    · dsimp only
      rw [gU_s, hpn, e1]
    · exact (fr1.1 _ _ (by omega) (by omega)).trans q.2.2.1
    · exact (fr1.1 _ _ (by omega) (by omega)).trans q.2.2.2.2.1
    · obtain ⟨b1, b2, b3⟩ := hbox j hj
      obtain ⟨c1, c2, c3, c4, c5, c6⟩ := qq _ b1
      refine ⟨by omega, ?_, ?_, ?_, hF j hj, ?_⟩
      · dsimp only
        rw [gU_n (by omega), gW_s]
        have := f1 _ b1 b2
        rw [b3] at this
        exact this
      · rw [e2]; exact (fr1.1 _ _ (by omega) (by omega)).trans c1
      · rw [e3]; exact (fr1.1 _ _ (by omega) (by omega)).trans c2
      · rw [fr1.1 _ _ (by omega) (by omega)]
        unfold pRn0
        rw [decide_eq_true_eq]
        rcases c6 with ⟨c7, c8⟩ | ⟨r, c7, c8, c9⟩
        · rw [c7, c8, w_meq (by omega)]; simp
        · rw [c8, c9, w_eq (by omega) (by omega)]; simp
  have hrb : rB β (E x) (pSl x 6) (fun j => pA0 t (ra (pSl x 6 j))) t (gU (gW μ.1 (β + 155) g) (β + 110) 72 (nI (pPo x n)), μ.2) := by
    intro j hj
    obtain ⟨b1, b2, b3⟩ := hbox j hj
    obtain ⟨c1, c2, c3, c4, c5, c6⟩ := qq _ b1
    rw [fr1.1 _ _ (by omega) (by omega)]
    rcases c6 with ⟨c7, c8⟩ | ⟨r, c7, c8, c9⟩
    · left; exact ⟨c7, by dsimp only; rw [c8]; rfl⟩
    · right; exact ⟨r, c7, c8, by dsimp only; rw [c9]; rfl⟩
  have hrl : ∀ j, j < pK (E x) → rL (E x) (pRn0 ra t x) 0 (pEn (fun j => pA0 t (ra (pSl x 6 j))) (pK (E x))) j = pEl fr ra t x j := fun j hj => rL_0 hEx hF (fun j r hj hr => by
    obtain ⟨b1, b2, b3⟩ := hbox j hj
    obtain ⟨c1, c2, c3, c4, c5, c6⟩ := qq _ b1
    rcases c6 with ⟨c7, c8⟩ | ⟨r', c7, c8, c9⟩
    · rw [c8] at hr; exact absurd hr (by simp)
    · rw [c9] at hr
      have := Option.some.inj hr
      omega) hj
  rw [← e4]
  refine k_mReckonsBack hS hR hE hrp (rFr_S fr1 hs) ht hF hrb (fun j _ => pA0_7 _) (by omega) (fun g3 g4 g6 g7 g8 y1 y2 y3 => ?_)
  have fr2 : rFr β μ (gW (gW (gW (gW (gW (gU (gW μ.1 (β + 155) g) (β + 110) 72 (nI (pPo x n))) (β + 153) g3) (β + 154) g4) (β + 156) g6) (β + 157) g7) (β + 158) g8, μ.2) := ⟨fun a i y z => by dsimp only; rw [gW_n (by omega), gW_n (by omega), gW_n (by omega), gW_n (by omega), gW_n (by omega), gU_n (by omega), gW_n (by omega)], rfl⟩
  rw [pV_congr _ _ _ hrl, e4]
  refine hP _ fr2 (rP_c (μ := (gU (gW μ.1 (β + 155) g) (β + 110) 72 (nI (pPo x n)), μ.2)) (fun a i hD => by dsimp only; rw [gW_n (by omega), gW_n (by omega), gW_n (by omega), gW_n (by omega), gW_n (by omega)]) hrp) (fun j hj => ?_) hrl ⟨g6, y1, ?_, ?_⟩
  · have hkb := (hbox j hj).1
    have := hrb j hj
    dsimp only at this ⊢
    rw [gW_n (by omega), gW_n (by omega), gW_n (by omega), gW_n (by omega), gW_n (by omega)]
    exact this
  · rw [e4] at y2; exact y2
  · dsimp only
    rw [gW_rown (by omega), gW_rown (by omega), gW_rown (by omega), gW_rown (by omega), gW_row, gW_rown (by omega), gW_rown (by omega), gW_rown (by omega), gW_row]
    exact y3
