/-! PLANS, the reference: ages in one number -/
def rD (s j : Nat) : Nat := s >>> (3 * j) &&& 7
def pEn (na : Nat → Nat) : Nat → Nat
  | 0 => 0
  | j + 1 => pEn na j ||| (na j <<< (3 * j))
theorem rD_7 {s j : Nat} : rD s j ≤ 7 := Nat.and_le_right
theorem pEn_bit {na : Nat → Nat} {t : Nat} : ∀ k, (∀ j, j < k → na j ≤ 7) → (pEn na k).testBit t = (decide (t / 3 < k) && (na (t / 3)).testBit (t % 3))
  | 0, _ => by simp [pEn]
  | k + 1, h => by
    simp only [pEn]
    rw [Nat.testBit_or, pEn_bit k (fun j hj => h j (by omega)), Nat.testBit_shiftLeft]
    have hk : na k < 2 ^ 3 := by have := h k (by omega); omega
    by_cases e : t / 3 = k
    · have e1 : t - 3 * k = t % 3 := by omega
      rw [e1, e]
      simp [show ¬ k < k by omega, show k < k + 1 by omega, show 3 * k ≤ t by omega]
    · by_cases g : 3 * k ≤ t
      · have : (na k).testBit (t - 3 * k) = false := Nat.testBit_lt_two_pow (Nat.lt_of_lt_of_le hk (Nat.pow_le_pow_right (by omega) (by omega)))
        rw [this]
        simp [show ¬ t / 3 < k by omega, show ¬ t / 3 < k + 1 by omega]
      · simp [show t / 3 < k by omega, show t / 3 < k + 1 by omega, g]
theorem rD_En {na : Nat → Nat} {k j : Nat} (h : ∀ j, j < k → na j ≤ 7) (hj : j < k) : rD (pEn na k) j = na j := by
  refine Nat.eq_of_testBit_eq (fun u => ?_)
  unfold rD
  have hk : na j < 2 ^ 3 := by have := h j hj; omega
  rw [Nat.testBit_and, Nat.testBit_shiftRight, pEn_bit k h, show (7 : Nat) = 2 ^ 3 - 1 from rfl, Nat.testBit_two_pow_sub_one]
  by_cases g : u < 3
  · rw [show (3 * j + u) / 3 = j by omega, show (3 * j + u) % 3 = u by omega]
    simp [g, hj]
  · have : (na j).testBit u = false := Nat.testBit_lt_two_pow (Nat.lt_of_lt_of_le hk (Nat.pow_le_pow_right (by omega) (by omega)))
    rw [this]
    simp [g]
theorem pEn_lt {na : Nat → Nat} : ∀ k, (∀ j, j < k → na j ≤ 7) → pEn na k < 2 ^ (3 * k)
  | 0, _ => by simp [pEn]
  | k + 1, h => by
    simp only [pEn]
    refine Nat.or_lt_two_pow ?_ ?_
    · exact Nat.lt_of_lt_of_le (pEn_lt k (fun j hj => h j (by omega))) (Nat.pow_le_pow_right (by omega) (by omega))
    · rw [Nat.shiftLeft_eq, show 3 * (k + 1) = 3 + 3 * k by omega, Nat.pow_add]
      have := h k (by omega)
      exact Nat.mul_lt_mul_of_pos_right (by omega) (Nat.pow_pos (by omega))
theorem pEn_congr {na nb : Nat → Nat} : ∀ k, (∀ j, j < k → na j = nb j) → pEn na k = pEn nb k
  | 0, _ => rfl
  | k + 1, h => by
    simp only [pEn]
    rw [pEn_congr k (fun j hj => h j (by omega)), h k (by omega)]
/-- the age behind a tick -/
def rNa (E : gPE) (rn : Nat → Bool) (i x s : Nat) : Nat → Nat := fun j => if pRn E i x j ∨ (i = 0 ∧ rn j = true) then 0 else rD s j + 1
/-- the ticks that a box gets through, by its age before tick i -/
def rL (E : gPE) (rn : Nat → Bool) (i s : Nat) : Nat → Nat := fun j => if i = 0 ∧ rn j = true then pF E j + 1 else pF E j - rD s j
theorem rNa_1 {E : gPE} {rn : Nat → Bool} {i x s j : Nat} (h : pRn E i x j) : rNa E rn i x s j = 0 := if_pos (Or.inl h)
theorem rNa_2 {E : gPE} {rn : Nat → Bool} {i x s j : Nat} (h : i = 0 ∧ rn j = true) : rNa E rn i x s j = 0 := if_pos (Or.inr h)
theorem rNa_3 {E : gPE} {rn : Nat → Bool} {i x s j : Nat} (h1 : ¬ pRn E i x j) (h2 : ¬ (i = 0 ∧ rn j = true)) : rNa E rn i x s j = rD s j + 1 := if_neg (fun z => z.elim h1 h2)
theorem rL_2 {E : gPE} {rn : Nat → Bool} {i s j : Nat} (h : i = 0 ∧ rn j = true) : rL E rn i s j = pF E j + 1 := if_pos h
theorem rL_3 {E : gPE} {rn : Nat → Bool} {i s j : Nat} (h : ¬ (i = 0 ∧ rn j = true)) : rL E rn i s j = pF E j - rD s j := if_neg h
theorem pNx_1 {E : gPE} {i x j : Nat} {l : Nat → Nat} (h : pRn E i x j) : pNx E i x l j = pF E j := if_pos h
theorem pNx_3 {E : gPE} {i x j : Nat} {l : Nat → Nat} (h : ¬ pRn E i x j) : pNx E i x l j = l j - 1 := if_neg h
theorem rNa_ok {E : gPE} {rn : Nat → Bool} {i x s : Nat} : (∀ j, j < pK E → rNa E rn i x s j ≤ pF E j) ↔ pOk E i x (rL E rn i s) := by
  refine forall_congr' (fun j => forall_congr' (fun _ => ?_))
  by_cases h1 : pRn E i x j
  · rw [rNa_1 h1]
    exact ⟨fun _ => Or.inl h1, fun _ => Nat.zero_le _⟩
  · by_cases h2 : i = 0 ∧ rn j = true
    · rw [rNa_2 h2, rL_2 h2]
      exact ⟨fun _ => Or.inr (by omega), fun _ => Nat.zero_le _⟩
    · rw [rNa_3 h1 h2, rL_3 h2]
      exact ⟨fun _ => Or.inr (by omega), fun z => by have := z.resolve_left h1; omega⟩
theorem rNa_7 {E : gPE} {rn : Nat → Bool} {i x s : Nat} (hF : ∀ j, j < pK E → pF E j ≤ 6) (ok : ∀ j, j < pK E → rNa E rn i x s j ≤ pF E j) : ∀ j, j < pK E → rNa E rn i x s j ≤ 7 := fun j hj => by
  have := hF j hj
  have := ok j hj
  omega
theorem rL_s {E : gPE} {rn : Nat → Bool} {i x s j : Nat} (hF : ∀ j, j < pK E → pF E j ≤ 6) (ok : ∀ j, j < pK E → rNa E rn i x s j ≤ pF E j) (hj : j < pK E) : rL E rn (i + 1) (pEn (rNa E rn i x s) (pK E)) j = pNx E i x (rL E rn i s) j := by
  have e := rD_En (rNa_7 hF ok) hj
  rw [rL_3 (by omega), e]
  by_cases h1 : pRn E i x j
  · rw [rNa_1 h1, pNx_1 h1]; omega
  · by_cases h2 : i = 0 ∧ rn j = true
    · rw [rNa_2 h2, pNx_3 h1, rL_2 h2]; omega
    · rw [rNa_3 h1 h2, pNx_3 h1, rL_3 h2]; omega
/-- the reference's boxes that are kept -/
def rP (β : Nat) (E : gPE) (kb : Nat → Nat) (rn : Nat → Bool) (lv t : Nat) (μ : gM) : Prop :=
  lv < 2 ∧ μ.1 (β + 110) 72 = nI (pK E) ∧ μ.1 (β + 110) 18 = nI lv ∧ μ.1 (β + 110) 51 = nI t ∧
  ∀ j, j < pK E → kb j < 6 ∧ μ.1 (β + 155) j = nI (kb j) ∧ μ.1 (β + 127) (6 * lv + kb j) = nI (pN E j) ∧ μ.1 (β + 129) (6 * lv + kb j) = nI (pF E j) ∧ pF E j ≤ 6 ∧ (μ.1 (β + 146) (kb j) = nI t ↔ rn j = true)
theorem rP_c {β : Nat} {E : gPE} {kb : Nat → Nat} {rn : Nat → Bool} {lv t : Nat} {μ μ' : gM} (h1 : ∀ a i, ((a = 110 ∧ (i = 72 ∨ i = 18 ∨ i = 51)) ∨ a = 155 ∨ a = 127 ∨ a = 129 ∨ a = 146) → μ'.1 (β + a) i = μ.1 (β + a) i) (H : rP β E kb rn lv t μ) : rP β E kb rn lv t μ' := by
  obtain ⟨a0, a1, a2, a3, a6⟩ := H
  refine ⟨a0, (h1 _ _ (by omega)).trans a1, (h1 _ _ (by omega)).trans a2, (h1 _ _ (by omega)).trans a3, fun j hj => ?_⟩
  obtain ⟨b1, b2, b3, b4, b5, b6⟩ := a6 j hj
  exact ⟨b1, (h1 _ _ (by omega)).trans b2, (h1 _ _ (by omega)).trans b3, (h1 _ _ (by omega)).trans b4, b5, by rw [h1 _ _ (by omega)]; exact b6⟩
set_option maxHeartbeats 4000000 in
theorem k_mAges {S : gSh} {h β t i x s lv z : Nat} {E : gPE} {kb : Nat → Nat} {rn : Nat → Bool} {μ : gM} {P : gP} (hS : gLS S β) (hR : gPS μ.2.2 β) (hE : pWf E) (q : rP β E kb rn lv t μ) (hs : s < 4096) (ht : t < 400) (hz : z = if i = 0 then 1 else 0)
    (hbad : (¬ ∀ j, j < pK E → rNa E rn i x s j ≤ pF E j) → P (some (.int gm1)) μ) (hok : (∀ j, j < pK E → rNa E rn i x s j ≤ pF E j) → P (some (.int (nI (pEn (rNa E rn i x s) (pK E))))) μ) : gRun S (h + 1) 164 [.ref (β + 110), .int (nI s), .int (nI (pAb E i x)), .int (nI z)] μ P := by
  obtain ⟨q0, q1, q18, q51, q2⟩ := q
  have hK := hE.1
  have hz1 : z < 2 := by rw [hz]; split <;> omega
  refine r_X11_ages (by simp [lg_sl, Value.category]) (fun X hX => ?_)
  refine b_X11_ages_0 hX ?_
  simp (disch := omega) only [B_X11_ages_0, ↓n_gb, ↓n_gb0, ↓n_ic, ↓n_icm, ↓n_lc, ↓e_lc, ↓e_null, ↓e_ldI, ↓e_ldL, ↓e_ldA, ↓e_stI, ↓e_stL, ↓e_stA, ↓n_inc, ↓n_incm1, ↓n_incm8, ↓e_iadd, ↓e_isub, ↓e_imul, ↓e_iand, ↓e_ior, ↓e_ixor, ↓n_ishl, ↓n_ishr, ↓e_iushr, ↓n_idiv, ↓e_ineg, ↓e_ladd, ↓e_lsub, ↓e_lmul, ↓e_lor, ↓e_lshl, ↓e_lshr, ↓e_i2l, ↓e_l2i, ↓e_i2b, ↓e_lcmp, ↓e_dup, ↓e_dup2, ↓e_pop, ↓e_ceq, ↓e_cne, ↓e_clt, ↓e_cge, ↓e_cgt, ↓e_cle, ↓n_zeq, ↓n_zne, ↓n_zlt, ↓n_zge, ↓n_zgt, ↓n_zle, ↓e_goto, ↓e_nn, ↓e_retI, ↓e_retL, ↓e_retV, ↓n_retZ, ↓e_retA, ↓e_gfI, ↓e_gfL, ↓e_gfR, ↓e_pfI, ↓n_pfZ, ↓e_pfL, ↓e_pfR, ↓e_iald, ↓e_lald, ↓e_aald, ↓e_alen, ↓e_iast, ↓e_bast, ↓n_zast, ↓e_last, ↓e_aast, ↓e_cV, ↓e_cS, ↓e_gsW, ↓e_gsK, ↓e_mmax, ↓e_mmin, ↓e_mmaxL, ↓e_mminL, gEnt, gPad, gArgs, gGet, gS1, gS2, gCl, gNo, gSp, gCt, n_sw, n_gSw, n_gSw0, Option.toList, List.cons_append, List.nil_append, Value.category, and_true, true_and, and_self, not_false_eq_true, not_true_eq_false, Nat.reduceAdd, Nat.reduceSub, Nat.reduceMul, Nat.reduceLeDiff, Nat.reduceLT, Nat.reduceEqDiff, forall_const, true_implies, false_implies, implies_true, Nat.zero_add, Option.some.injEq, Sum.inr.injEq, Sum.inl.injEq, Prod.mk.injEq, exists_eq_left', exists_eq_left, w_ne0, nI_add, w_lt, w_le, w_eq, w_meq, w_eqm, w_mlt, w_ltm, w_mle, w_lem, w_clamp, w_in, w_31, w_ite0, w_ite1, w_ite01, true_or, or_true, false_or, or_false, Nat.le_refl, Nat.lt_irrefl, S_110 hS, S_127 hS, S_129 hS, S_146 hS, S_155 hS, R_110_29 hR, R_110_31 hR, R_110_59 hR, R_110_73 hR]
  refine gLoop (I := fun j μ' lc => ∃ u v, μ' = μ ∧ (∀ a, a < j → rNa E rn i x s a ≤ pF E a) ∧ lc = [some (.ref (β + 110)), some (.int (nI s)), some (.int (nI (pAb E i x))), some (.int (nI z)), some (.int (nI (pEn (rNa E rn i x s) j))), some (.int (nI j)), u, v]) (pK E) ?_ ?_ 0 (by omega) _ _ ⟨none, none, rfl, fun a ha => by omega, rfl⟩
  · rintro j μ _ hj ⟨u, v, rfl, hle, rfl⟩ hk
    obtain ⟨k1, k2, k3, k4, k5, k6⟩ := q2 j hj
    have hl : gAn (pN E j) (pAb E i x) < 2147483648 := Nat.lt_of_le_of_lt gAn_le (Nat.lt_trans (hE.2.1 j) (by omega))
    have hd7 := rD_7 (s := s) (j := j)
    have h80 : ∀ a, a = rNa E rn i x s j → X 80 μ [some (.ref (β + 110)), some (.int (nI s)), some (.int (nI (pAb E i x))), some (.int (nI z)), some (.int (nI (pEn (rNa E rn i x s) j))), some (.int (nI j)), some (.int (nI (kb j))), some (.int (nI a))] [] := by
      intro a ea
      have ha8 : a ≤ 8 := by rw [ea]; unfold rNa; split <;> omega
      have hsh : a <<< (3 * j) < 4294967296 := by
        rw [Nat.shiftLeft_eq]
        have : 2 ^ (3 * j) ≤ 2 ^ 9 := Nat.pow_le_pow_right (by omega) (by omega)
        have := Nat.mul_le_mul ha8 this
        omega
      have hsh2 : a * 2 ^ (3 * j) < 4294967296 := by rw [← Nat.shiftLeft_eq]; exact hsh
      refine b_X11_ages_80 hX ?_
      simp (disch := omega) only [B_X11_ages_80, ↓n_gb, ↓n_gb0, ↓n_ic, ↓n_icm, ↓n_lc, ↓e_lc, ↓e_null, ↓e_ldI, ↓e_ldL, ↓e_ldA, ↓e_stI, ↓e_stL, ↓e_stA, ↓n_inc, ↓n_incm1, ↓n_incm8, ↓e_iadd, ↓e_isub, ↓e_imul, ↓e_iand, ↓e_ior, ↓e_ixor, ↓n_ishl, ↓n_ishr, ↓e_iushr, ↓n_idiv, ↓e_ineg, ↓e_ladd, ↓e_lsub, ↓e_lmul, ↓e_lor, ↓e_lshl, ↓e_lshr, ↓e_i2l, ↓e_l2i, ↓e_i2b, ↓e_lcmp, ↓e_dup, ↓e_dup2, ↓e_pop, ↓e_ceq, ↓e_cne, ↓e_clt, ↓e_cge, ↓e_cgt, ↓e_cle, ↓n_zeq, ↓n_zne, ↓n_zlt, ↓n_zge, ↓n_zgt, ↓n_zle, ↓e_goto, ↓e_nn, ↓e_retI, ↓e_retL, ↓e_retV, ↓n_retZ, ↓e_retA, ↓e_gfI, ↓e_gfL, ↓e_gfR, ↓e_pfI, ↓n_pfZ, ↓e_pfL, ↓e_pfR, ↓e_iald, ↓e_lald, ↓e_aald, ↓e_alen, ↓e_iast, ↓e_bast, ↓n_zast, ↓e_last, ↓e_aast, ↓e_cV, ↓e_cS, ↓e_gsW, ↓e_gsK, ↓e_mmax, ↓e_mmin, ↓e_mmaxL, ↓e_mminL, gEnt, gPad, gArgs, gGet, gS1, gS2, gCl, gNo, gSp, gCt, n_sw, n_gSw, n_gSw0, Option.toList, List.cons_append, List.nil_append, Value.category, and_true, true_and, and_self, not_false_eq_true, not_true_eq_false, Nat.reduceAdd, Nat.reduceSub, Nat.reduceMul, Nat.reduceLeDiff, Nat.reduceLT, Nat.reduceEqDiff, forall_const, true_implies, false_implies, implies_true, Nat.zero_add, Option.some.injEq, Sum.inr.injEq, Sum.inl.injEq, Prod.mk.injEq, exists_eq_left', exists_eq_left, w_ne0, nI_add, w_lt, w_le, w_eq, w_meq, w_eqm, w_mlt, w_ltm, w_mle, w_lem, w_clamp, w_in, w_31, w_ite0, w_ite1, w_ite01, true_or, or_true, false_or, or_false, Nat.le_refl, Nat.lt_irrefl, S_110 hS, S_127 hS, S_129 hS, S_146 hS, S_155 hS, R_110_29 hR, R_110_31 hR, R_110_59 hR, R_110_73 hR, q18, k4, pk_mul]
      refine ⟨by omega, fun hc => ?_, fun hc => ?_⟩
      · refine b_X11_ages_102 hX ?_
        simp (disch := omega) only [B_X11_ages_102, ↓n_gb, ↓n_gb0, ↓n_ic, ↓n_icm, ↓n_lc, ↓e_lc, ↓e_null, ↓e_ldI, ↓e_ldL, ↓e_ldA, ↓e_stI, ↓e_stL, ↓e_stA, ↓n_inc, ↓n_incm1, ↓n_incm8, ↓e_iadd, ↓e_isub, ↓e_imul, ↓e_iand, ↓e_ior, ↓e_ixor, ↓n_ishl, ↓n_ishr, ↓e_iushr, ↓n_idiv, ↓e_ineg, ↓e_ladd, ↓e_lsub, ↓e_lmul, ↓e_lor, ↓e_lshl, ↓e_lshr, ↓e_i2l, ↓e_l2i, ↓e_i2b, ↓e_lcmp, ↓e_dup, ↓e_dup2, ↓e_pop, ↓e_ceq, ↓e_cne, ↓e_clt, ↓e_cge, ↓e_cgt, ↓e_cle, ↓n_zeq, ↓n_zne, ↓n_zlt, ↓n_zge, ↓n_zgt, ↓n_zle, ↓e_goto, ↓e_nn, ↓e_retI, ↓e_retL, ↓e_retV, ↓n_retZ, ↓e_retA, ↓e_gfI, ↓e_gfL, ↓e_gfR, ↓e_pfI, ↓n_pfZ, ↓e_pfL, ↓e_pfR, ↓e_iald, ↓e_lald, ↓e_aald, ↓e_alen, ↓e_iast, ↓e_bast, ↓n_zast, ↓e_last, ↓e_aast, ↓e_cV, ↓e_cS, ↓e_gsW, ↓e_gsK, ↓e_mmax, ↓e_mmin, ↓e_mmaxL, ↓e_mminL, gEnt, gPad, gArgs, gGet, gS1, gS2, gCl, gNo, gSp, gCt, n_sw, n_gSw, n_gSw0, Option.toList, List.cons_append, List.nil_append, Value.category, and_true, true_and, and_self, not_false_eq_true, not_true_eq_false, Nat.reduceAdd, Nat.reduceSub, Nat.reduceMul, Nat.reduceLeDiff, Nat.reduceLT, Nat.reduceEqDiff, forall_const, true_implies, false_implies, implies_true, Nat.zero_add, Option.some.injEq, Sum.inr.injEq, Sum.inl.injEq, Prod.mk.injEq, exists_eq_left', exists_eq_left, w_ne0, nI_add, w_lt, w_le, w_eq, w_meq, w_eqm, w_mlt, w_ltm, w_mle, w_lem, w_clamp, w_in, w_31, w_ite0, w_ite1, w_ite01, true_or, or_true, false_or, or_false, Nat.le_refl, Nat.lt_irrefl, S_110 hS, S_127 hS, S_129 hS, S_146 hS, S_155 hS, R_110_29 hR, R_110_31 hR, R_110_59 hR, R_110_73 hR, pk_mul, w_shl, w_or]
        refine hk _ _ ⟨_, _, rfl, fun b hb => ?_, ?_⟩
        · by_cases e : b = j
          · rw [e, ← ea]; exact hc
          · exact hle b (by omega)
        · rw [show pEn (rNa E rn i x s) (j + 1) = pEn (rNa E rn i x s) j ||| (rNa E rn i x s j <<< (3 * j)) from rfl, ← ea]
      · exact hbad (fun z => hc (by rw [ea]; exact z j hj))
    have ewd : nI (s >>> (3 * j)) &&& nI 7 = nI (rD s j) := w_and _ 7
    refine b_X11_ages_6 hX ?_
    simp (disch := omega) only [B_X11_ages_6, ↓n_gb, ↓n_gb0, ↓n_ic, ↓n_icm, ↓n_lc, ↓e_lc, ↓e_null, ↓e_ldI, ↓e_ldL, ↓e_ldA, ↓e_stI, ↓e_stL, ↓e_stA, ↓n_inc, ↓n_incm1, ↓n_incm8, ↓e_iadd, ↓e_isub, ↓e_imul, ↓e_iand, ↓e_ior, ↓e_ixor, ↓n_ishl, ↓n_ishr, ↓e_iushr, ↓n_idiv, ↓e_ineg, ↓e_ladd, ↓e_lsub, ↓e_lmul, ↓e_lor, ↓e_lshl, ↓e_lshr, ↓e_i2l, ↓e_l2i, ↓e_i2b, ↓e_lcmp, ↓e_dup, ↓e_dup2, ↓e_pop, ↓e_ceq, ↓e_cne, ↓e_clt, ↓e_cge, ↓e_cgt, ↓e_cle, ↓n_zeq, ↓n_zne, ↓n_zlt, ↓n_zge, ↓n_zgt, ↓n_zle, ↓e_goto, ↓e_nn, ↓e_retI, ↓e_retL, ↓e_retV, ↓n_retZ, ↓e_retA, ↓e_gfI, ↓e_gfL, ↓e_gfR, ↓e_pfI, ↓n_pfZ, ↓e_pfL, ↓e_pfR, ↓e_iald, ↓e_lald, ↓e_aald, ↓e_alen, ↓e_iast, ↓e_bast, ↓n_zast, ↓e_last, ↓e_aast, ↓e_cV, ↓e_cS, ↓e_gsW, ↓e_gsK, ↓e_mmax, ↓e_mmin, ↓e_mmaxL, ↓e_mminL, gEnt, gPad, gArgs, gGet, gS1, gS2, gCl, gNo, gSp, gCt, n_sw, n_gSw, n_gSw0, Option.toList, List.cons_append, List.nil_append, Value.category, and_true, true_and, and_self, not_false_eq_true, not_true_eq_false, Nat.reduceAdd, Nat.reduceSub, Nat.reduceMul, Nat.reduceLeDiff, Nat.reduceLT, Nat.reduceEqDiff, forall_const, true_implies, false_implies, implies_true, Nat.zero_add, Option.some.injEq, Sum.inr.injEq, Sum.inl.injEq, Prod.mk.injEq, exists_eq_left', exists_eq_left, w_ne0, nI_add, w_lt, w_le, w_eq, w_meq, w_eqm, w_mlt, w_ltm, w_mle, w_lem, w_clamp, w_in, w_31, w_ite0, w_ite1, w_ite01, true_or, or_true, false_or, or_false, Nat.le_refl, Nat.lt_irrefl, S_110 hS, S_127 hS, S_129 hS, S_146 hS, S_155 hS, R_110_29 hR, R_110_31 hR, R_110_59 hR, R_110_73 hR, q1, k2, q18, k3, pk_mul, w_shr, ewd, w_an, q51]
    show False
  · rintro _ _ ⟨u, v, rfl, hle, rfl⟩
    refine b_X11_ages_6 hX ?_
    simp (disch := omega) only [B_X11_ages_6, ↓n_gb, ↓n_gb0, ↓n_ic, ↓n_icm, ↓n_lc, ↓e_lc, ↓e_null, ↓e_ldI, ↓e_ldL, ↓e_ldA, ↓e_stI, ↓e_stL, ↓e_stA, ↓n_inc, ↓n_incm1, ↓n_incm8, ↓e_iadd, ↓e_isub, ↓e_imul, ↓e_iand, ↓e_ior, ↓e_ixor, ↓n_ishl, ↓n_ishr, ↓e_iushr, ↓n_idiv, ↓e_ineg, ↓e_ladd, ↓e_lsub, ↓e_lmul, ↓e_lor, ↓e_lshl, ↓e_lshr, ↓e_i2l, ↓e_l2i, ↓e_i2b, ↓e_lcmp, ↓e_dup, ↓e_dup2, ↓e_pop, ↓e_ceq, ↓e_cne, ↓e_clt, ↓e_cge, ↓e_cgt, ↓e_cle, ↓n_zeq, ↓n_zne, ↓n_zlt, ↓n_zge, ↓n_zgt, ↓n_zle, ↓e_goto, ↓e_nn, ↓e_retI, ↓e_retL, ↓e_retV, ↓n_retZ, ↓e_retA, ↓e_gfI, ↓e_gfL, ↓e_gfR, ↓e_pfI, ↓n_pfZ, ↓e_pfL, ↓e_pfR, ↓e_iald, ↓e_lald, ↓e_aald, ↓e_alen, ↓e_iast, ↓e_bast, ↓n_zast, ↓e_last, ↓e_aast, ↓e_cV, ↓e_cS, ↓e_gsW, ↓e_gsK, ↓e_mmax, ↓e_mmin, ↓e_mmaxL, ↓e_mminL, gEnt, gPad, gArgs, gGet, gS1, gS2, gCl, gNo, gSp, gCt, n_sw, n_gSw, n_gSw0, Option.toList, List.cons_append, List.nil_append, Value.category, and_true, true_and, and_self, not_false_eq_true, not_true_eq_false, Nat.reduceAdd, Nat.reduceSub, Nat.reduceMul, Nat.reduceLeDiff, Nat.reduceLT, Nat.reduceEqDiff, forall_const, true_implies, false_implies, implies_true, Nat.zero_add, Option.some.injEq, Sum.inr.injEq, Sum.inl.injEq, Prod.mk.injEq, exists_eq_left', exists_eq_left, w_ne0, nI_add, w_lt, w_le, w_eq, w_meq, w_eqm, w_mlt, w_ltm, w_mle, w_lem, w_clamp, w_in, w_31, w_ite0, w_ite1, w_ite01, true_or, or_true, false_or, or_false, Nat.le_refl, Nat.lt_irrefl, S_110 hS, S_127 hS, S_129 hS, S_146 hS, S_155 hS, R_110_29 hR, R_110_31 hR, R_110_59 hR, R_110_73 hR, q1]
    refine b_X11_ages_120 hX ?_
    simp (disch := omega) only [B_X11_ages_120, ↓n_gb, ↓n_gb0, ↓n_ic, ↓n_icm, ↓n_lc, ↓e_lc, ↓e_null, ↓e_ldI, ↓e_ldL, ↓e_ldA, ↓e_stI, ↓e_stL, ↓e_stA, ↓n_inc, ↓n_incm1, ↓n_incm8, ↓e_iadd, ↓e_isub, ↓e_imul, ↓e_iand, ↓e_ior, ↓e_ixor, ↓n_ishl, ↓n_ishr, ↓e_iushr, ↓n_idiv, ↓e_ineg, ↓e_ladd, ↓e_lsub, ↓e_lmul, ↓e_lor, ↓e_lshl, ↓e_lshr, ↓e_i2l, ↓e_l2i, ↓e_i2b, ↓e_lcmp, ↓e_dup, ↓e_dup2, ↓e_pop, ↓e_ceq, ↓e_cne, ↓e_clt, ↓e_cge, ↓e_cgt, ↓e_cle, ↓n_zeq, ↓n_zne, ↓n_zlt, ↓n_zge, ↓n_zgt, ↓n_zle, ↓e_goto, ↓e_nn, ↓e_retI, ↓e_retL, ↓e_retV, ↓n_retZ, ↓e_retA, ↓e_gfI, ↓e_gfL, ↓e_gfR, ↓e_pfI, ↓n_pfZ, ↓e_pfL, ↓e_pfR, ↓e_iald, ↓e_lald, ↓e_aald, ↓e_alen, ↓e_iast, ↓e_bast, ↓n_zast, ↓e_last, ↓e_aast, ↓e_cV, ↓e_cS, ↓e_gsW, ↓e_gsK, ↓e_mmax, ↓e_mmin, ↓e_mmaxL, ↓e_mminL, gEnt, gPad, gArgs, gGet, gS1, gS2, gCl, gNo, gSp, gCt, n_sw, n_gSw, n_gSw0, Option.toList, List.cons_append, List.nil_append, Value.category, and_true, true_and, and_self, not_false_eq_true, not_true_eq_false, Nat.reduceAdd, Nat.reduceSub, Nat.reduceMul, Nat.reduceLeDiff, Nat.reduceLT, Nat.reduceEqDiff, forall_const, true_implies, false_implies, implies_true, Nat.zero_add, Option.some.injEq, Sum.inr.injEq, Sum.inl.injEq, Prod.mk.injEq, exists_eq_left', exists_eq_left, w_ne0, nI_add, w_lt, w_le, w_eq, w_meq, w_eqm, w_mlt, w_ltm, w_mle, w_lem, w_clamp, w_in, w_31, w_ite0, w_ite1, w_ite01, true_or, or_true, false_or, or_false, Nat.le_refl, Nat.lt_irrefl, S_110 hS, S_127 hS, S_129 hS, S_146 hS, S_155 hS, R_110_29 hR, R_110_31 hR, R_110_59 hR, R_110_73 hR]
    exact hok hle
