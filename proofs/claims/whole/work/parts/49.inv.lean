/-! THE INVARIANT: class and reference hold the same, clause by clause; each clause speaks of the places that its gD_ names -/
def gSm (β : Nat) (D : Nat → Nat → Prop) (μ μ' : gM) : Prop := ∀ a j, D a j → μ'.1 (β + a) j = μ.1 (β + a) j ∧ μ'.2.1 (β + a) j = μ.2.1 (β + a) j
def gI_ky (β : Nat) (μ : gM) : Prop := μ.2.1 (β + 117) 0 = gWord 108 101 116 0 0 0 ∧ μ.2.1 (β + 117) 1 = gWord 98 111 120 0 0 0 ∧ μ.2.1 (β + 117) 2 = gWord 119 111 114 116 104 0 ∧ μ.2.1 (β + 117) 3 = gWord 102 114 101 115 104 0 ∧ μ.2.1 (β + 117) 4 = gWord 115 105 122 101 0 0 ∧ μ.2.1 (β + 117) 5 = gWord 109 105 110 0 0 0 ∧ μ.2.1 (β + 117) 6 = gWord 109 97 120 0 0 0 ∧ ∀ s, s < 6 → μ.2.1 (β + 117) (10 + s) = gWord 115 (nI (48 + s)) 0 0 0 0
def gD_ky (a _j : Nat) : Prop := a = 117
def gI_tp (β : Nat) (μ : gM) : Prop := ∃ n, n ≤ 2000 ∧ μ.1 (β + 1) 1 = nI n ∧ μ.1 (β + 110) 2 = nI n ∧ ∀ j, j < n → μ.1 (β + 2) j = μ.1 (β + 111) j
def gD_tp (a j : Nat) : Prop := (a = 1 ∧ j = 1) ∨ a = 2 ∨ (a = 110 ∧ j = 2) ∨ a = 111
def gI_pc (β : Nat) (μ : gM) : Prop := μ.1 (β + 3) 4 = μ.1 (β + 110) 17
def gD_pc (a j : Nat) : Prop := (a = 3 ∧ j = 4) ∨ (a = 110 ∧ j = 17)
def gI_sr (β : Nat) (μ : gM) : Prop := (∀ s, s < 6 → ∃ c, 1 ≤ c ∧ c ≤ 9 ∧ μ.1 (β + 9) s = nI c ∧ μ.1 (β + 135) s = nI c) ∧ ∃ l, l ≤ 60 ∧ μ.1 (β + 8) 11 = nI l ∧ μ.1 (β + 110) 42 = nI l
def gD_sr (a j : Nat) : Prop := a = 9 ∨ a = 135 ∨ (a = 8 ∧ j = 11) ∨ (a = 110 ∧ j = 42)
def gI_fa (β : Nat) (μ : gM) : Prop := ∃ n, n ≤ 400 ∧ μ.1 (β + 8) 9 = nI n ∧ μ.1 (β + 110) 43 = nI n ∧ ∀ j, j < n → ∃ s t, s < 6 ∧ t < 400 ∧ μ.1 (β + 10) j = nI s ∧ μ.1 (β + 136) j = nI s ∧ μ.1 (β + 11) j = nI t ∧ μ.1 (β + 137) j = nI t ∧ μ.1 (β + 12) j = μ.1 (β + 138) j
def gD_fa (a j : Nat) : Prop := (a = 8 ∧ j = 9) ∨ (10 ≤ a ∧ a ≤ 12) ∨ (a = 110 ∧ j = 43) ∨ (136 ≤ a ∧ a ≤ 138)
def gI_do (β : Nat) (μ : gM) : Prop := ∃ n, n ≤ 40 ∧ μ.1 (β + 8) 10 = nI n ∧ μ.1 (β + 110) 47 = nI n ∧ ∀ j, j < n → ∃ s u v, s < 6 ∧ u < v ∧ v ≤ 400 ∧ μ.1 (β + 13) j = nI s ∧ μ.1 (β + 139) j = nI s ∧ μ.1 (β + 14) j = nI u ∧ μ.1 (β + 140) j = nI u ∧ μ.1 (β + 15) j = nI v ∧ μ.1 (β + 141) j = nI v
def gD_do (a j : Nat) : Prop := (a = 8 ∧ j = 10) ∨ (13 ≤ a ∧ a ≤ 15) ∨ (a = 110 ∧ j = 47) ∨ (139 ≤ a ∧ a ≤ 141)
def gI_as (β : Nat) (μ : gM) : Prop := ∃ x s, x < 64 ∧ s ≤ 60 ∧ μ.1 (β + 8) 12 = nI x ∧ μ.1 (β + 110) 52 = nI x ∧ μ.1 (β + 8) 13 = nI s ∧ μ.1 (β + 110) 53 = nI s ∧ μ.1 (β + 8) 14 = μ.1 (β + 110) 54
def gD_as (a j : Nat) : Prop := (a = 8 ∧ 12 ≤ j ∧ j ≤ 14) ∨ (a = 110 ∧ 52 ≤ j ∧ j ≤ 54)
def gI_hd (β t n lv : Nat) (μ : gM) : Prop := t < 400 ∧ n ≤ 6 ∧ lv < 2 ∧ μ.1 (β + 0) 10 = nI t ∧ μ.1 (β + 110) 51 = nI t ∧ μ.1 (β + 0) 9 = nI n ∧ μ.1 (β + 110) 18 = nI lv ∧ μ.1 (β + 119) lv = nI n
def gD_hd (a j : Nat) : Prop := (a = 0 ∧ (j = 9 ∨ j = 10)) ∨ (a = 110 ∧ (j = 18 ∨ j = 51)) ∨ a = 119
def gI_bx (β lv k : Nat) (μ : gM) : Prop := ∃ w f d g e : Nat, w ≤ 1000 ∧ 1 ≤ f ∧ f ≤ 6 ∧ 1 ≤ d ∧ d ≤ 8 ∧ 1 ≤ g ∧ g ≤ 6 ∧ 0 < e ∧ e < 64 ∧
  μ.1 (β + (19 + 3 * k)) 0 = nI w ∧ μ.1 (β + 128) (6 * lv + k) = nI w ∧ μ.1 (β + (19 + 3 * k)) 1 = nI f ∧ μ.1 (β + 129) (6 * lv + k) = nI f ∧ μ.1 (β + (19 + 3 * k)) 2 = nI d ∧ μ.1 (β + 130) (6 * lv + k) = nI d ∧ μ.1 (β + (19 + 3 * k)) 3 = nI g ∧ μ.1 (β + 131) (6 * lv + k) = nI g ∧ μ.1 (β + (19 + 3 * k)) 4 = nI e ∧ μ.1 (β + 127) (6 * lv + k) = nI e
def gD_bx (k a j : Nat) : Prop := (a = 19 + 3 * k ∧ j ≤ 4) ∨ (127 ≤ a ∧ a ≤ 131)
def gI_lk (β t k : Nat) (μ : gM) : Prop := μ.1 (β + (19 + 3 * k)) 7 = μ.1 (β + 150) k ∧ μ.1 (β + (19 + 3 * k)) 8 = μ.1 (β + 151) k ∧ (μ.1 (β + (19 + 3 * k)) 8 = gm1 ∨ ∃ r, r ≤ t ∧ μ.1 (β + (19 + 3 * k)) 8 = nI r) ∧ μ.1 (β + (19 + 3 * k)) 9 = μ.1 (β + 147) k
def gD_lk (k a j : Nat) : Prop := (a = 19 + 3 * k ∧ 7 ≤ j ∧ j ≤ 9) ∨ ((a = 147 ∨ a = 150 ∨ a = 151) ∧ j = k)
def gI_hs (β t k : Nat) (μ : gM) : Prop := (∀ u, u ≤ t → μ.1 (β + (20 + 3 * k)) u = gm1 ∨ ∃ r, r ≤ u ∧ μ.1 (β + (20 + 3 * k)) u = nI r) ∧ μ.1 (β + (20 + 3 * k)) t = μ.1 (β + 146) k ∧ μ.2.1 (β + (21 + 3 * k)) t = μ.2.1 (β + 145) k ∧ ∀ u, u < t → μ.1 (β + (20 + 3 * k)) u = μ.1 (β + 149) (400 * k + u) ∧ μ.2.1 (β + (21 + 3 * k)) u = μ.2.1 (β + 148) (400 * k + u)
def gD_hs (k a j : Nat) : Prop := a = 20 + 3 * k ∨ a = 21 + 3 * k ∨ ((a = 145 ∨ a = 146) ∧ j = k) ∨ ((a = 148 ∨ a = 149) ∧ 400 * k ≤ j ∧ j < 400 * k + 400)
def gI_fx (β k : Nat) (μ : gM) : Prop := (μ.1 (β + (19 + 3 * k)) 10 = gm1 ∧ μ.1 (β + 159) k = nI 0) ∨ ∃ r c d, r ≤ 30 ∧ c ≤ 7 ∧ μ.1 (β + (19 + 3 * k)) 2 = nI d ∧ d ≤ 8 ∧ c + d ≤ 8 ∧ μ.1 (β + (19 + 3 * k)) 10 = nI r ∧ μ.1 (β + (19 + 3 * k)) 11 = nI c ∧ μ.1 (β + 159) k = nI 1 ∧ μ.1 (β + 160) k = nI r ∧ μ.1 (β + 161) k = nI c
def gD_fx (k a j : Nat) : Prop := (a = 19 + 3 * k ∧ (j = 2 ∨ j = 10 ∨ j = 11)) ∨ (159 ≤ a ∧ a ≤ 161 ∧ j = k)
/-- no two that are fixed overlap -/
def gI_ov (β n : Nat) (μ : gM) : Prop := ∀ j k, j < n → k < n → j ≠ k → ∀ r c d g r' c' d' g' : Nat, r ≤ 30 → c ≤ 7 → r' ≤ 30 → c' ≤ 7 → d ≤ 8 → g ≤ 6 → d' ≤ 8 → g' ≤ 6 → μ.1 (β + (19 + 3 * j)) 10 = nI r → μ.1 (β + (19 + 3 * j)) 11 = nI c → μ.1 (β + (19 + 3 * j)) 2 = nI d → μ.1 (β + (19 + 3 * j)) 3 = nI g → μ.1 (β + (19 + 3 * k)) 10 = nI r' → μ.1 (β + (19 + 3 * k)) 11 = nI c' → μ.1 (β + (19 + 3 * k)) 2 = nI d' → μ.1 (β + (19 + 3 * k)) 3 = nI g' → ¬ (r < r' + g' ∧ r' < r + g ∧ c < c' + d' ∧ c' < c + d)
def gD_ov (n a j : Nat) : Prop := (j = 2 ∨ j = 3 ∨ j = 10 ∨ j = 11) ∧ ∃ k, k < n ∧ a = 19 + 3 * k
/-- a step's number in the class, by its number in the reference -/
def gOpC (k : Nat) : Int32 := match k with
  | 0 => nI 2
  | 1 => nI 11
  | 2 => nI 4
  | 3 => nI 43
  | 4 => nI 45
  | 5 => nI 42
  | 6 => nI 9
  | _ => nI 10
/-- steps that leave no hole: how deep the pile is behind n steps from i on -/
def gWf (op : Nat → Nat) (ar : Nat → Int32) (lb : Nat) : Nat → Nat → Nat → Option Nat
  | 0, _, d => some d
  | n + 1, i, d => if op i < 3 then (if (op i = 0 ∨ (op i = 1 ∧ ∃ s, s < 6 ∧ ar i = nI s) ∨ (op i = 2 ∧ ∃ s, s < lb ∧ ar i = nI s)) then gWf op ar lb n (i + 1) (d + 1) else none) else (if 2 ≤ d then gWf op ar lb n (i + 1) (d - 1) else none)
def gI_sc (β q lv n : Nat) (μ : gM) : Prop := ∃ (L C : Nat) (op : Nat → Nat) (ar : Nat → Int32), L ≤ 12 ∧ C ≤ 400 ∧ μ.1 (β + q) 10 = nI L ∧ μ.1 (β + 118) lv = nI L ∧ μ.1 (β + q) 11 = nI C ∧
  (∀ i, i < C → op i < 8 ∧ μ.1 (β + (q + 4)) i = gOpC (op i) ∧ μ.1 (β + (q + 5)) i = ar i ∧ μ.1 (β + 132) (500 * lv + i) = nI (op i) ∧ μ.1 (β + 133) (500 * lv + i) = ar i) ∧
  (∀ k, k < L → ∃ j s e, j < 18 ∧ s ≤ e ∧ e ≤ C ∧ μ.1 (β + (q + 3)) k = nI j ∧ μ.1 (β + (q + 8 + j)) 9 = nI s ∧ μ.1 (β + (q + 8 + j)) 10 = nI e ∧ μ.1 (β + 121) (12 * lv + k) = nI (500 * lv + s) ∧ μ.1 (β + 122) (12 * lv + k) = nI (500 * lv + e) ∧ gWf op ar k (e - s) s 0 = some 1) ∧
  (∀ k, k < n → ∃ s e, s ≤ e ∧ e ≤ C ∧ μ.1 (β + (19 + 3 * k)) 5 = nI s ∧ μ.1 (β + (19 + 3 * k)) 6 = nI e ∧ μ.1 (β + 125) (6 * lv + k) = nI (500 * lv + s) ∧ μ.1 (β + 126) (6 * lv + k) = nI (500 * lv + e) ∧ gWf op ar L (e - s) s 0 = some 1)
def gD_sc (q n a j : Nat) : Prop := (a = q ∧ (j = 10 ∨ j = 11)) ∨ (q + 3 ≤ a ∧ a ≤ q + 5) ∨ (q + 8 ≤ a ∧ a ≤ q + 25 ∧ (j = 9 ∨ j = 10)) ∨ ((j = 5 ∨ j = 6) ∧ ∃ k, k < n ∧ a = 19 + 3 * k) ∨ a = 118 ∨ a = 121 ∨ a = 122 ∨ a = 125 ∨ a = 126 ∨ a = 132 ∨ a = 133
def gI_pl (β t : Nat) (μ : gM) : Prop := ∃ T, T ≤ 10 ∧ μ.1 (β + 48) 2 = nI T ∧ μ.1 (β + 110) 65 = nI (if T = 0 then 0 else 1) ∧ (T ≠ 0 → ∃ s, s ≤ t ∧ μ.1 (β + 48) 1 = nI s ∧ μ.1 (β + 110) 66 = nI s ∧ μ.1 (β + 110) 67 = nI T ∧ μ.1 (β + 48) 3 = μ.1 (β + 110) 68 ∧ ∀ i, i < T → ∃ x, x < 64 ∧ μ.1 (β + 49) i = nI x ∧ μ.1 (β + 152) i = nI x)
def gD_pl (a j : Nat) : Prop := a = 48 ∨ a = 49 ∨ (a = 110 ∧ 65 ≤ j ∧ j ≤ 68) ∨ a = 152
def gI_ly (β n : Nat) (μ : gM) : Prop := ∃ l, l < 2 ∧ μ.1 (β + 0) 11 = nI l ∧ μ.1 (β + 110) 80 = nI l ∧ (l = 1 → ∀ k, k < n → μ.1 (β + 54) k = μ.1 (β + 162) k ∧ μ.1 (β + 55) k = μ.1 (β + 163) k)
def gD_ly (a j : Nat) : Prop := (a = 0 ∧ j = 11) ∨ (a = 110 ∧ j = 80) ∨ a = 54 ∨ a = 55 ∨ a = 162 ∨ a = 163
/-- the pointers that move -/
def gI_rf (β q : Nat) (R : Nat → Nat → Nat) : Prop := (q = 56 ∨ q = 83) ∧ R β 7 = β + q ∧ R β 8 = β + (139 - q) ∧ (∃ w, (w = 46 ∨ w = 47) ∧ R (β + 37) 9 = β + w ∧ R (β + 37) 10 = β + (93 - w)) ∧ (R (β + 56) 7 = β + 82 ∨ R (β + 56) 7 = β + 17) ∧ (R (β + 83) 7 = β + 109 ∨ R (β + 83) 7 = β + 17)
def gInv (β b : Nat) (xs : Nat → Int32) (μ : gM) : Prop := (∀ j, μ.1 b j = xs j) ∧ gPS μ.2.2 β ∧ gI_ky β μ ∧ gI_tp β μ ∧ gI_pc β μ ∧ gI_sr β μ ∧ gI_fa β μ ∧ gI_do β μ ∧ gI_as β μ ∧ ∃ t n lv q, gI_rf β q μ.2.2 ∧ gI_hd β t n lv μ ∧ (∀ k, k < n → gI_bx β lv k μ) ∧ (∀ k, k < n → gI_lk β t k μ) ∧ (∀ k, k < n → gI_hs β t k μ) ∧ (∀ k, k < n → gI_fx β k μ) ∧ gI_ov β n μ ∧ gI_sc β q lv n μ ∧ gI_pl β t μ ∧ gI_ly β n μ
/-! frames -/
theorem gI_ky_c {β : Nat} {μ μ' : gM} (h : gSm β gD_ky μ μ') (H : gI_ky β μ) : gI_ky β μ' := by
  have h2 := fun a j d => (h a j d).2
  simpa (disch := (unfold gD_ky; omega)) only [gI_ky, h2] using H
theorem gI_tp_c {β : Nat} {μ μ' : gM} (h : gSm β gD_tp μ μ') (H : gI_tp β μ) : gI_tp β μ' := by
  have h1 := fun a j d => (h a j d).1
  simpa (disch := (unfold gD_tp; omega)) only [gI_tp, h1] using H
theorem gI_pc_c {β : Nat} {μ μ' : gM} (h : gSm β gD_pc μ μ') (H : gI_pc β μ) : gI_pc β μ' := by
  have h1 := fun a j d => (h a j d).1
  simpa (disch := (unfold gD_pc; omega)) only [gI_pc, h1] using H
theorem gI_sr_c {β : Nat} {μ μ' : gM} (h : gSm β gD_sr μ μ') (H : gI_sr β μ) : gI_sr β μ' := by
  have h1 := fun a j d => (h a j d).1
  simpa (disch := (unfold gD_sr; omega)) only [gI_sr, h1] using H
theorem gI_fa_c {β : Nat} {μ μ' : gM} (h : gSm β gD_fa μ μ') (H : gI_fa β μ) : gI_fa β μ' := by
  have h1 := fun a j d => (h a j d).1
  simpa (disch := (unfold gD_fa; omega)) only [gI_fa, h1] using H
theorem gI_do_c {β : Nat} {μ μ' : gM} (h : gSm β gD_do μ μ') (H : gI_do β μ) : gI_do β μ' := by
  have h1 := fun a j d => (h a j d).1
  simpa (disch := (unfold gD_do; omega)) only [gI_do, h1] using H
theorem gI_as_c {β : Nat} {μ μ' : gM} (h : gSm β gD_as μ μ') (H : gI_as β μ) : gI_as β μ' := by
  have h1 := fun a j d => (h a j d).1
  simpa (disch := (unfold gD_as; omega)) only [gI_as, h1] using H
theorem gI_hd_c {β t n lv : Nat} {μ μ' : gM} (h : gSm β gD_hd μ μ') (H : gI_hd β t n lv μ) : gI_hd β t n lv μ' := by
  have h1 := fun a j d => (h a j d).1
  simpa (disch := (unfold gD_hd; omega)) only [gI_hd, h1] using H
theorem gI_bx_c {β lv k : Nat} {μ μ' : gM} (h : gSm β (gD_bx k) μ μ') (H : gI_bx β lv k μ) : gI_bx β lv k μ' := by
  have h1 := fun a j d => (h a j d).1
  simpa (disch := (unfold gD_bx; omega)) only [gI_bx, h1] using H
theorem gI_lk_c {β t k : Nat} {μ μ' : gM} (h : gSm β (gD_lk k) μ μ') (H : gI_lk β t k μ) : gI_lk β t k μ' := by
  have h1 := fun a j d => (h a j d).1
  simpa (disch := (unfold gD_lk; omega)) only [gI_lk, h1] using H
theorem gI_hs_c {β t k : Nat} {μ μ' : gM} (ht : t < 400) (h : gSm β (gD_hs k) μ μ') (H : gI_hs β t k μ) : gI_hs β t k μ' := by
  have h1 := fun a j d => (h a j d).1
  have h2 := fun a j d => (h a j d).2
  obtain ⟨a1, a2, a3, a4⟩ := H
  refine ⟨fun u hu => ?_, ?_, ?_, fun u hu => ?_⟩
  · rw [h1 _ _ (by unfold gD_hs; omega)]
    exact a1 u hu
  · rw [h1 _ _ (by unfold gD_hs; omega), h1 _ _ (by unfold gD_hs; omega)]
    exact a2
  · rw [h2 _ _ (by unfold gD_hs; omega), h2 _ _ (by unfold gD_hs; omega)]
    exact a3
  · rw [h1 _ _ (by unfold gD_hs; omega), h1 _ _ (by unfold gD_hs; omega), h2 _ _ (by unfold gD_hs; omega), h2 _ _ (by unfold gD_hs; omega)]
    exact a4 u hu
theorem gI_fx_c {β k : Nat} {μ μ' : gM} (h : gSm β (gD_fx k) μ μ') (H : gI_fx β k μ) : gI_fx β k μ' := by
  have h1 := fun a j d => (h a j d).1
  simpa (disch := (unfold gD_fx; omega)) only [gI_fx, h1] using H
theorem gI_ov_c {β n : Nat} {μ μ' : gM} (h : gSm β (gD_ov n) μ μ') (H : gI_ov β n μ) : gI_ov β n μ' := by
  have h1 : ∀ k, k < n → ∀ j, (j = 2 ∨ j = 3 ∨ j = 10 ∨ j = 11) → μ'.1 (β + (19 + 3 * k)) j = μ.1 (β + (19 + 3 * k)) j := fun k hk j hj => (h _ j ⟨hj, k, hk, rfl⟩).1
  intro j k hj hk
  rw [h1 j hj 2 (by omega), h1 j hj 3 (by omega), h1 j hj 10 (by omega), h1 j hj 11 (by omega), h1 k hk 2 (by omega), h1 k hk 3 (by omega), h1 k hk 10 (by omega), h1 k hk 11 (by omega)]
  exact H j k hj hk
theorem gI_sc_c {β q lv n : Nat} {μ μ' : gM} (h : gSm β (gD_sc q n) μ μ') (H : gI_sc β q lv n μ) : gI_sc β q lv n μ' := by
  have h1 : ∀ a j, ((a = q ∧ (j = 10 ∨ j = 11)) ∨ (q + 3 ≤ a ∧ a ≤ q + 5) ∨ (q + 8 ≤ a ∧ a ≤ q + 25 ∧ (j = 9 ∨ j = 10)) ∨ a = 118 ∨ a = 121 ∨ a = 122 ∨ a = 125 ∨ a = 126 ∨ a = 132 ∨ a = 133) → μ'.1 (β + a) j = μ.1 (β + a) j := fun a j d => (h a j (by unfold gD_sc; omega)).1
  have hb : ∀ k, k < n → ∀ j, (j = 5 ∨ j = 6) → μ'.1 (β + (19 + 3 * k)) j = μ.1 (β + (19 + 3 * k)) j := fun k hk j hj => (h _ j (Or.inr (Or.inr (Or.inr (Or.inl ⟨hj, k, hk, rfl⟩))))).1
  obtain ⟨L, C, op, ar, a1, a2, a3, a4, a5, a6, a7, a8⟩ := H
  refine ⟨L, C, op, ar, a1, a2, ?_, ?_, ?_, fun i hi => ?_, fun k hk => ?_, fun k hk => ?_⟩
  · rw [h1 _ _ (by omega)]; exact a3
  · rw [h1 _ _ (by omega)]; exact a4
  · rw [h1 _ _ (by omega)]; exact a5
  · rw [h1 _ _ (by omega), h1 _ _ (by omega), h1 _ _ (by omega), h1 _ _ (by omega)]; exact a6 i hi
  · obtain ⟨j, s, e, b1, b2, b3, b4, b5, b6, b7, b8, b9⟩ := a7 k hk
    refine ⟨j, s, e, b1, b2, b3, ?_, ?_, ?_, ?_, ?_, b9⟩
    · rw [h1 _ _ (by omega)]; exact b4
    · rw [h1 _ _ (by omega)]; exact b5
    · rw [h1 _ _ (by omega)]; exact b6
    · rw [h1 _ _ (by omega)]; exact b7
    · rw [h1 _ _ (by omega)]; exact b8
  · obtain ⟨s, e, b1, b2, b3, b4, b5, b6, b7⟩ := a8 k hk
    refine ⟨s, e, b1, b2, ?_, ?_, ?_, ?_, b7⟩
    · rw [hb k hk _ (by omega)]; exact b3
    · rw [hb k hk _ (by omega)]; exact b4
    · rw [h1 _ _ (by omega)]; exact b5
    · rw [h1 _ _ (by omega)]; exact b6
theorem gI_pl_c {β t : Nat} {μ μ' : gM} (h : gSm β gD_pl μ μ') (H : gI_pl β t μ) : gI_pl β t μ' := by
  have h1 := fun a j d => (h a j d).1
  simpa (disch := (unfold gD_pl; omega)) only [gI_pl, h1] using H
theorem gI_ly_c {β n : Nat} {μ μ' : gM} (h : gSm β gD_ly μ μ') (H : gI_ly β n μ) : gI_ly β n μ' := by
  have h1 := fun a j d => (h a j d).1
  simpa (disch := (unfold gD_ly; omega)) only [gI_ly, h1] using H
