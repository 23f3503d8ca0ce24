/-! PLANS, purely: leases in one number, and the way forward -/
def pRx (E : gPE) (b : Nat) : Nat := min (pF E b) (ph E - 1) + 1
def pWt (E : gPE) : Nat → Nat
  | 0 => 1
  | b + 1 => pWt E b * pRx E b
def pCd (E : gPE) (l : Nat → Nat) : Nat → Nat
  | 0 => 0
  | b + 1 => pCd E l b + l b * pWt E b
def pUn (E : gPE) (c b : Nat) : Nat := c % pWt E (b + 1) / pWt E b
theorem pWt_s {E : gPE} {b : Nat} : pWt E (b + 1) = pWt E b * pRx E b := rfl
theorem pCd_s {E : gPE} {l : Nat → Nat} {b : Nat} : pCd E l (b + 1) = pCd E l b + l b * pWt E b := rfl
theorem pRx_pos {E : gPE} {b : Nat} : 0 < pRx E b := by unfold pRx; omega
theorem pWt_pos {E : gPE} : ∀ b, 0 < pWt E b
  | 0 => by simp [pWt]
  | b + 1 => Nat.mul_pos (pWt_pos b) pRx_pos
theorem pWt_dvd {E : gPE} {a : Nat} : ∀ b, a ≤ b → pWt E a ∣ pWt E b
  | 0, h => by rw [show a = 0 by omega]; exact Nat.dvd_refl _
  | b + 1, h => by
    by_cases e : a = b + 1
    · rw [e]; exact Nat.dvd_refl _
    · exact Nat.dvd_trans (pWt_dvd b (by omega)) ⟨pRx E b, rfl⟩
theorem pCd_lt {E : gPE} {l : Nat → Nat} : ∀ k, (∀ b, b < k → l b < pRx E b) → pCd E l k < pWt E k
  | 0, _ => by simp [pCd, pWt]
  | k + 1, h => by
    have ih := pCd_lt k (fun b hb => h b (by omega))
    have := Nat.mul_le_mul_left (pWt E k) (h k (by omega))
    rw [Nat.mul_succ, Nat.mul_comm] at this
    rw [pCd_s, pWt_s]
    omega
theorem pCd_split {E : gPE} {l : Nat → Nat} {a : Nat} : ∀ k, a ≤ k → ∃ q, pCd E l k = pCd E l a + pWt E a * q
  | 0, h => ⟨0, by rw [show a = 0 by omega]; simp⟩
  | k + 1, h => by
    by_cases e : a = k + 1
    · exact ⟨0, by rw [e]; simp⟩
    · obtain ⟨q, hq⟩ := pCd_split (E := E) (l := l) k (show a ≤ k by omega)
      obtain ⟨d, hd⟩ := pWt_dvd (E := E) k (show a ≤ k by omega)
      refine ⟨q + l k * d, ?_⟩
      rw [pCd_s, hq, hd, Nat.mul_add, Nat.add_assoc, Nat.mul_left_comm]
theorem pUn_Cd {E : gPE} {l : Nat → Nat} {k b : Nat} (hb : b < k) (h : ∀ b, b < k → l b < pRx E b) : pUn E (pCd E l k) b = l b := by
  obtain ⟨q, hq⟩ := pCd_split (E := E) (l := l) k (show b + 1 ≤ k by omega)
  unfold pUn
  rw [hq, Nat.add_mul_mod_self_left, Nat.mod_eq_of_lt (pCd_lt (b + 1) (fun a ha => h a (by omega))), pCd_s, Nat.add_mul_div_right _ _ (pWt_pos b), Nat.div_eq_of_lt (pCd_lt b (fun a ha => h a (by omega)))]
  omega
theorem pCd_Un {E : gPE} {c : Nat} : ∀ k, pCd E (pUn E c) k = c % pWt E k
  | 0 => by simp [pCd, pWt, Nat.mod_one]
  | k + 1 => by
    rw [pCd_s, pCd_Un k]
    unfold pUn
    have := Nat.mod_add_div (c % pWt E (k + 1)) (pWt E k)
    rw [Nat.mod_mod_of_dvd _ (pWt_dvd (k + 1) (by omega)), Nat.mul_comm (pWt E k)] at this
    exact this
theorem pUn_lt {E : gPE} {c b : Nat} : pUn E c b < pRx E b := by
  unfold pUn
  have := Nat.mod_lt c (pWt_pos (E := E) (b + 1))
  rw [pWt_s] at this
  exact Nat.div_lt_of_lt_mul this
theorem pWt_le {E : gPE} (h : ∀ b, b < pK E → pF E b ≤ 6) : ∀ k, k ≤ pK E → pWt E k ≤ 7 ^ k
  | 0, _ => by simp [pWt]
  | k + 1, hk => by
    rw [pWt_s, Nat.pow_succ]
    refine Nat.mul_le_mul (pWt_le h k (by omega)) ?_
    have := h k (by omega)
    unfold pRx; omega
/-- the number of a row's step -/
def pWg (E : gPE) (i x : Nat) : Nat := gCN (pc E) x 6 * 1099511627776 + pCt E i x * 16 ^ (9 - i)
def pBh (E : gPE) (i x : Nat) (l : Nat → Nat) : Nat → Nat := fun b => if pRn E i x b then min (pF E b) (ph E - 1 - i) else l b - 1
def pFI (E : gPE) (l0 : Nat → Nat) (i : Nat) (Src : (Nat → Nat) → Nat → Prop) : Prop :=
  (∀ l w, Src l w → w + 16 ^ (10 - i) ≤ (54 * i + 1) * 1099511627776 ∧ (∀ b, b < pK E → l b ≤ ph E - i ∧ l b ≤ pF E b + 1) ∧ ∀ w', pUr E (ph E - i) l w' → pUr E (ph E) l0 (w + w')) ∧
  ∀ x, pUr E (ph E) l0 x → ∃ l w w', Src l w ∧ pUr E (ph E - i) l w' ∧ w + w' ≤ x
def pMx : Nat := 9223372036854775807
/-- the states that a row of ways tells -/
def pSr (E : gPE) (f : Nat → Nat) : (Nat → Nat) → Nat → Prop := fun l w => ∃ c, c < pWt E (pK E) ∧ f c ≠ pMx ∧ l = pUn E c ∧ w = f c
def pT1 (E : gPE) (i : Nat) (Src : (Nat → Nat) → Nat → Prop) (f : Nat → Nat) : Prop := ∀ c, c < pWt E (pK E) → f c = pMx ∨ ∃ l w x, Src l w ∧ pUs E i x ∧ pOk E i x l ∧ c = pCd E (pBh E i x l) (pK E) ∧ f c = w + pWg E i x
def pT2 (E : gPE) (i : Nat) (Src : (Nat → Nat) → Nat → Prop) (f : Nat → Nat) : Prop := ∀ l w x, Src l w → pUs E i x → pOk E i x l → f (pCd E (pBh E i x l) (pK E)) ≤ w + pWg E i x
theorem pFI_0 {E : gPE} {l l0 : Nat → Nat} (h0 : ∀ b, b < pK E → l0 b ≤ pF E b + 1) (h : ∀ b, b < pK E → l b = min (l0 b) (ph E)) : pFI E l0 0 (fun l' w => l' = l ∧ w = 0) := by
  refine ⟨?_, fun x hx => ⟨l, 0, x, ⟨rfl, rfl⟩, ?_, by omega⟩⟩
  · rintro _ _ ⟨rfl, rfl⟩
    refine ⟨by decide, fun b hb => ?_, fun w' hw => ?_⟩
    · have := h b hb
      have := h0 b hb
      omega
    · rw [Nat.zero_add]
      refine pUr_cap (ph E) _ _ w' (fun b hb => ?_) hw
      have := h b hb
      omega
  · refine pUr_cap (ph E) _ _ x (fun b hb => ?_) hx
    have := h b hb
    omega
theorem pBh_rx {E : gPE} {i x b : Nat} {l : Nat → Nat} (h1 : l b ≤ ph E - i) (h2 : l b ≤ pF E b + 1) : pBh E i x l b < pRx E b := by
  unfold pBh pRx
  split <;> omega
theorem pBh_cap {E : gPE} {i x b : Nat} {l : Nat → Nat} : min (pBh E i x l b) (ph E - (i + 1)) = min (pNx E i x l b) (ph E - (i + 1)) := by
  unfold pBh pNx
  split <;> omega
theorem pBh_un {E : gPE} {i x b : Nat} {l : Nat → Nat} (hl : ∀ b, b < pK E → l b ≤ ph E - i ∧ l b ≤ pF E b + 1) (hb : b < pK E) : pUn E (pCd E (pBh E i x l) (pK E)) b = pBh E i x l b :=
  pUn_Cd hb (fun b hb => pBh_rx (hl b hb).1 (hl b hb).2)
theorem pBh_lt {E : gPE} {i x : Nat} {l : Nat → Nat} (hl : ∀ b, b < pK E → l b ≤ ph E - i ∧ l b ≤ pF E b + 1) : pCd E (pBh E i x l) (pK E) < pWt E (pK E) :=
  pCd_lt _ (fun b hb => pBh_rx (hl b hb).1 (hl b hb).2)
theorem ar3 (M w p g n i : Nat) (h : w + 16 * p ≤ (54 * i + 1) * M) (hg : g ≤ 54) (hn : n ≤ 15 * p) : w + (g * M + n) + p ≤ (54 * (i + 1) + 1) * M := by
  have := Nat.mul_le_mul_right M hg
  rw [show 54 * (i + 1) + 1 = (54 * i + 1) + 54 by omega, Nat.add_mul (54 * i + 1)]
  omega
theorem pWg_bd {E : gPE} (hE : pWf E) {i x w : Nat} (hi : i < ph E) (u : pUs E i x) (h : w + 16 ^ (10 - i) ≤ (54 * i + 1) * 1099511627776) : w + pWg E i x + 16 ^ (10 - (i + 1)) ≤ (54 * (i + 1) + 1) * 1099511627776 := by
  have h10 := hE.2.2.2.2
  rw [show 10 - i = (9 - i) + 1 by omega, Nat.pow_succ, Nat.mul_comm _ 16] at h
  rw [show 10 - (i + 1) = 9 - i by omega]
  exact ar3 _ _ _ _ _ _ h (gCN_le hE.2.2.2.1 6 (by omega)) (Nat.mul_le_mul_right _ (pCt_15 hE u))
theorem pFI_bd {i w : Nat} (hi : i ≤ 10) (h : w + 16 ^ (10 - i) ≤ (54 * i + 1) * 1099511627776) : w < 594835790626816 := by
  have := Nat.mul_le_mul_right 1099511627776 (show 54 * i + 1 ≤ 541 by omega)
  have : 0 < 16 ^ (10 - i) := Nat.pow_pos (by omega)
  omega
theorem pFI_s {E : gPE} (hE : pWf E) {l0 : Nat → Nat} {i : Nat} {Src : (Nat → Nat) → Nat → Prop} {f : Nat → Nat} (hi : i < ph E) (h : pFI E l0 i Src) (t1 : pT1 E i Src f) (t2 : pT2 E i Src f) : pFI E l0 (i + 1) (pSr E f) := by
  have h10 := hE.2.2.2.2
  refine ⟨?_, fun y hy => ?_⟩
  · rintro _ _ ⟨c, hc, hf, rfl, rfl⟩
    rcases t1 c hc with z | ⟨l, w, x, hs, u, ok, ec, ef⟩
    · exact absurd z hf
    · obtain ⟨h1, h2, h3⟩ := h.1 l w hs
      refine ⟨?_, fun b hb => ?_, fun w' hw => ?_⟩
      · rw [ef]; exact pWg_bd hE hi u h1
      · rw [ec, pBh_un h2 hb]
        have := h2 b hb
        unfold pBh
        split <;> omega
      · rw [ef, Nat.add_assoc]
        refine h3 _ ?_
        rw [show ph E - i = (ph E - (i + 1)) + 1 by omega]
        refine ⟨x, w', ?_⟩
        rw [show ph E - (ph E - (i + 1) + 1) = i by omega]
        refine ⟨u, ok, pUr_cap _ _ _ _ (fun b hb => ?_) hw, rfl⟩
        rw [ec, pBh_un h2 hb, pBh_cap]
  · obtain ⟨l, w, w', hs, hu, hle⟩ := h.2 y hy
    obtain ⟨h1, h2, h3⟩ := h.1 l w hs
    rw [show ph E - i = (ph E - (i + 1)) + 1 by omega] at hu
    obtain ⟨x, w'', u, ok, hu', e⟩ := hu
    rw [show ph E - (ph E - (i + 1) + 1) = i by omega] at u ok hu' e
    have t := t2 l w x hs u ok
    have bd := pFI_bd (show i + 1 ≤ 10 by omega) (pWg_bd hE hi u h1)
    have hw : w' = pWg E i x + w'' := e
    refine ⟨_, _, w'', ⟨pCd E (pBh E i x l) (pK E), pBh_lt h2, ?_, rfl, rfl⟩, pUr_cap _ _ _ _ (fun b hb => ?_) hu', by omega⟩
    · unfold pMx; omega
    · rw [pBh_un h2 hb, pBh_cap]
theorem pFI_end {E : gPE} (hE : pWf E) {l0 : Nat → Nat} {f : Nat → Nat} (h : pFI E l0 (ph E) (pSr E f)) : f 0 = if pV E (ph E) l0 < 1000000 then pV E (ph E) l0 * 1099511627776 + pDg E (ph E) l0 else pMx := by
  have only : ∀ l w, pSr E f l w → w = f 0 ∧ f 0 ≠ pMx := by
    rintro _ _ ⟨c, hc, hf, rfl, rfl⟩
    have h2 := (h.1 _ _ ⟨c, hc, hf, rfl, rfl⟩).2.1
    have e := pCd_Un (E := E) (c := c) (pK E)
    rw [Nat.mod_eq_of_lt hc] at e
    have z : ∀ k, k ≤ pK E → pCd E (pUn E c) k = 0 := by
      intro k
      induction k with
      | zero => intro _; rfl
      | succ k ih =>
        intro hk
        have := (h2 k (by omega)).1
        rw [pCd_s, ih (by omega), show pUn E c k = 0 by omega]
        omega
    rw [z _ (Nat.le_refl _)] at e
    subst e
    exact ⟨rfl, hf⟩
  split
  · rename_i q
    obtain ⟨l, w, w', hs, hu, hle⟩ := h.2 _ (pUr_has (ph E) l0 q)
    obtain ⟨e, ne⟩ := only _ _ hs
    rw [Nat.sub_self] at hu
    simp only [pUr] at hu
    have := (h.1 _ _ hs).2.2 0 (by rw [Nat.sub_self]; rfl)
    have := (pUr_least hE (ph E) l0 _ (Nat.le_refl _) this).2.1
    rw [← e]
    omega
  · rename_i q
    refine Classical.byContradiction (fun ne => q ?_)
    have := (h.1 (pUn E 0) (f 0) ⟨0, pWt_pos _, ne, rfl, rfl⟩).2.2 0 (by rw [Nat.sub_self]; rfl)
    exact (pUr_least hE (ph E) l0 _ (Nat.le_refl _) this).1
/-! what the number tells -/
def pTj (E : gPE) (l0 : Nat → Nat) : Nat → (Nat → Nat)
  | 0 => l0
  | i + 1 => pNx E i (pX E (ph E - (i + 1)) (pTj E l0 i)) (pTj E l0 i)
def pTx (E : gPE) (l0 : Nat → Nat) (i : Nat) : Nat := pX E (ph E - (i + 1)) (pTj E l0 i)
theorem pTj_dg {E : gPE} (hE : pWf E) {l0 : Nat → Nat} (hv : pV E (ph E) l0 < 1000000) : ∀ i, i ≤ ph E → pV E (ph E - i) (pTj E l0 i) < 1000000 ∧ ∃ q, pDg E (ph E) l0 = q * 16 ^ (10 - i) + pDg E (ph E - i) (pTj E l0 i)
  | 0, _ => ⟨hv, 0, by simp [pTj]⟩
  | i + 1, hi => by
    have h10 := hE.2.2.2.2
    obtain ⟨h1, q, h2⟩ := pTj_dg hE hv i (by omega)
    rw [show ph E - i = (ph E - (i + 1)) + 1 by omega] at h1 h2
    obtain ⟨_, _, _, ev⟩ := pX_us h1
    rw [pDg_s] at h2
    rw [show ph E - (ph E - (i + 1) + 1) = i by omega] at ev h2
    refine ⟨by simp only [pTj]; omega, q * 16 + pCt E i (pTx E l0 i), ?_⟩
    rw [h2, show 10 - i = (9 - i) + 1 by omega, show 10 - (i + 1) = 9 - i by omega, Nat.pow_succ, Nat.add_mul, Nat.mul_assoc, Nat.mul_comm 16, Nat.add_assoc]
    rfl
theorem pTx_us {E : gPE} (hE : pWf E) {l0 : Nat → Nat} (hv : pV E (ph E) l0 < 1000000) {i : Nat} (hi : i < ph E) : pUs E i (pTx E l0 i) := by
  obtain ⟨h1, _⟩ := pTj_dg hE hv i (by omega)
  rw [show ph E - i = (ph E - (i + 1)) + 1 by omega] at h1
  have := (pX_us h1).1
  rw [show ph E - (ph E - (i + 1) + 1) = i by omega] at this
  exact this
theorem pW_price {E : gPE} (hE : pWf E) {l0 : Nat → Nat} (hv : pV E (ph E) l0 < 1000000) : (pV E (ph E) l0 * 1099511627776 + pDg E (ph E) l0) / 1099511627776 = pV E (ph E) l0 := by
  have := pDg_lt hE (ph E) l0 (Nat.le_refl _) hv
  rw [Nat.sub_self] at this
  rw [Nat.mul_comm, Nat.mul_add_div (by decide), Nat.div_eq_of_lt this]
  rfl
theorem ar4 (p V q n d : Nat) (hp : 0 < p) (hd : d < p) (hn : n ≤ 15) (M : Nat) (hM : 16 * p ∣ M) : (V * M + (q * (p * 16) + (n * p + d))) / p % 16 = n := by
  obtain ⟨k, rfl⟩ := hM
  rw [show V * (16 * p * k) + (q * (p * 16) + (n * p + d)) = d + p * (16 * (V * k + q) + n) by
    rw [Nat.mul_add p, ← Nat.mul_assoc p 16, Nat.mul_add (p * 16), Nat.mul_comm p n, Nat.mul_comm q, Nat.mul_comm 16 p, Nat.mul_left_comm V]; omega]
  rw [Nat.add_mul_div_left _ _ hp, Nat.div_eq_of_lt hd]
  omega
theorem pW_option {E : gPE} (hE : pWf E) {l0 : Nat → Nat} (hv : pV E (ph E) l0 < 1000000) {i : Nat} (hi : i < ph E) : (pV E (ph E) l0 * 1099511627776 + pDg E (ph E) l0) / 16 ^ (9 - i) % 16 = pCt E i (pTx E l0 i) := by
  have h10 := hE.2.2.2.2
  obtain ⟨h1, q, h2⟩ := pTj_dg hE hv i (by omega)
  have hu := pTx_us hE hv hi
  rw [show ph E - i = (ph E - (i + 1)) + 1 by omega] at h1 h2
  obtain ⟨u, _, _, ev⟩ := pX_us h1
  rw [pDg_s] at h2
  have hd := pDg_lt hE (ph E - (i + 1)) (pNx E i (pTx E l0 i) (pTj E l0 i)) (by omega) (by
    rw [show ph E - (ph E - (i + 1) + 1) = i by omega] at ev
    have : pV E (ph E - (i + 1)) (pNx E i (pTx E l0 i) (pTj E l0 i)) = pV E (ph E - (i + 1)) (pNx E i (pX E (ph E - (i + 1)) (pTj E l0 i)) (pTj E l0 i)) := rfl
    omega)
  rw [show ph E - (ph E - (i + 1) + 1) = i by omega] at h2
  rw [show 10 - (ph E - (ph E - (i + 1))) = 9 - i by omega] at hd
  rw [show 10 - i = (9 - i) + 1 by omega, Nat.pow_succ] at h2
  rw [h2]
  refine ar4 _ _ _ _ _ (Nat.pow_pos (by omega)) hd (pCt_15 hE hu) _ ⟨16 ^ i, ?_⟩
  rw [show 16 * 16 ^ (9 - i) = 16 ^ (10 - i) by rw [show 10 - i = (9 - i) + 1 by omega, Nat.pow_succ, Nat.mul_comm], ← Nat.pow_add, show 10 - i + i = 10 by omega]
