/-! LAYING, the class: fixed boxes, arrange -/
def gKF (F : Nat → Prop) [DecidablePred F] (D G R C : Nat → Nat) : Nat → (Nat → Nat)
  | 0 => fun _ => 0
  | k + 1 => if F k then gPut (gKF F D G R C k) (D k) (G k) (R k) (C k) else gKF F D G R C k
def gHF (F : Nat → Prop) [DecidablePred F] (G R : Nat → Nat) : Nat → Nat
  | 0 => 0
  | k + 1 => if F k then max (gHF F G R k) (R k + G k) else gHF F G R k
def gSF (F : Nat → Prop) [DecidablePred F] (W R : Nat → Nat) : Nat → Nat
  | 0 => 0
  | k + 1 => if F k then gSF F W R k + W k * R k else gSF F W R k
def gMF (F : Nat → Prop) [DecidablePred F] : Nat → Nat
  | 0 => 0
  | k + 1 => if F k then gMF F k else gMF F k ||| (1 <<< k)
theorem gMF_bit (F : Nat → Prop) [DecidablePred F] (j : Nat) : ∀ k, (gMF F k).testBit j = decide (j < k ∧ ¬ F j)
  | 0 => by simp [gMF]
  | k + 1 => by
    simp only [gMF]
    by_cases h : F k
    · rw [if_pos h, gMF_bit F j k]
      by_cases e : j = k
      · subst e; simp [h]
      · simp [show j < k + 1 ↔ j < k by omega]
    · rw [if_neg h, Nat.testBit_or, gMF_bit F j k, Nat.one_shiftLeft, Nat.testBit_two_pow]
      by_cases e : j = k
      · subst e; simp [h]
      · simp [show j < k + 1 ↔ j < k by omega, show ¬ k = j by omega]
theorem gMF_lt (F : Nat → Prop) [DecidablePred F] : ∀ k, k ≤ 6 → gMF F k < 64
  | 0, _ => by simp [gMF]
  | k + 1, h => by
    simp only [gMF]
    have ih := gMF_lt F k (by omega)
    split
    · exact ih
    · refine Nat.or_lt_two_pow (n := 6) ih ?_
      have key : ∀ k : Fin 6, 1 <<< k.val < 64 := by decide +kernel
      exact key ⟨k, by omega⟩
theorem gKF_bit {F : Nat → Prop} [DecidablePred F] {D G R C : Nat → Nat} {i c : Nat} : ∀ k, (gKF F D G R C k i).testBit c = true → ∃ j, j < k ∧ F j ∧ (R j ≤ i ∧ i < R j + G j) ∧ C j ≤ c ∧ c < C j + D j
  | 0, h => by simp [gKF] at h
  | k + 1, h => by
    simp only [gKF] at h
    by_cases hF : F k
    · rw [if_pos hF] at h
      simp only [gPut] at h
      by_cases q : R k ≤ i ∧ i < R k + G k
      · rw [if_pos q, Nat.testBit_or, gBr_bit] at h
        rcases Bool.or_eq_true _ _ ▸ h with h | h
        · obtain ⟨j, h1, h2⟩ := gKF_bit k h
          exact ⟨j, by omega, h2⟩
        · have := of_decide_eq_true h
          exact ⟨k, by omega, hF, q, this⟩
      · rw [if_neg q] at h
        obtain ⟨j, h1, h2⟩ := gKF_bit k h
        exact ⟨j, by omega, h2⟩
    · rw [if_neg hF] at h
      obtain ⟨j, h1, h2⟩ := gKF_bit k h
      exact ⟨j, by omega, h2⟩
theorem gKF_room {F : Nat → Prop} [DecidablePred F] {D G R C : Nat → Nat} {k : Nat} (hF : F k) (hov : ∀ j, j < k → F j → ¬ (R j < R k + G k ∧ R k < R j + G j ∧ C j < C k + D k ∧ C k < C j + D j)) : gRoom (gKF F D G R C k) (D k) (G k) (R k) (C k) := by
  intro i hi
  refine Nat.eq_of_testBit_eq (fun c => ?_)
  rw [Nat.testBit_and, Nat.zero_testBit, gBr_bit]
  by_cases h1 : (gKF F D G R C k (R k + i)).testBit c = true
  · obtain ⟨j, j1, j2, j3, j4⟩ := gKF_bit k h1
    have := hov j j1 j2
    have : ¬ (C k ≤ c ∧ c < C k + D k) := by omega
    rw [decide_eq_false this, Bool.and_false]
  · rw [Bool.not_eq_true] at h1
    rw [h1, Bool.false_and]
theorem gKF_0 {F : Nat → Prop} [DecidablePred F] {D G R C : Nat → Nat} {i : Nat} : ∀ k, gHF F G R k ≤ i → gKF F D G R C k i = 0
  | 0, _ => rfl
  | k + 1, h => by
    simp only [gKF, gHF] at h ⊢
    by_cases hF : F k
    · rw [if_pos hF] at h ⊢
      simp only [gPut]
      rw [if_neg (by omega)]
      exact gKF_0 k (by omega)
    · rw [if_neg hF] at h ⊢
      exact gKF_0 k h
theorem gHF_le {F : Nat → Prop} [DecidablePred F] {G R : Nat → Nat} {n : Nat} (h : ∀ k, k < n → F k → R k + G k ≤ 36) : ∀ k, k ≤ n → gHF F G R k ≤ 36
  | 0, _ => by simp [gHF]
  | k + 1, hk => by
    have ih := gHF_le h k (by omega)
    simp only [gHF]
    split
    · rename_i hF
      have := h k (by omega) hF
      omega
    · exact ih
theorem gSF_le {F : Nat → Prop} [DecidablePred F] {W R : Nat → Nat} {n : Nat} (h : ∀ k, k < n → F k → W k ≤ 1000 ∧ R k ≤ 30) : ∀ k, k ≤ n → gSF F W R k ≤ 30000 * k
  | 0, _ => by simp [gSF]
  | k + 1, hk => by
    have ih := gSF_le h k (by omega)
    simp only [gSF]
    split
    · rename_i hF
      have h1 := h k (by omega) hF
      have : W k * R k ≤ 1000 * 30 := Nat.mul_le_mul h1.1 h1.2
      omega
    · omega
/-- what arrange comes to -/
noncomputable def gAr2 (F : Nat → Prop) [DecidablePred F] (W D G R C : Nat → Nat) (w n : Nat) (rw cl : Nat → Nat) : gBs := gFo W D G w (gKF F D G R C n) (gHF F G R n) (gSF F W R n) rw cl (gPrm (gLst (gMF F n) 6).length (gMF F n)) (2147483647, 2147483647, rw, cl)
def gFXc (β n : Nat) (F : Nat → Prop) (R C : Nat → Nat) (μ : gM) : Prop := ∀ k, k < n → (¬ F k ∧ μ.1 (β + (19 + 3 * k)) 10 = gm1) ∨ (F k ∧ R k ≤ 30 ∧ μ.1 (β + (19 + 3 * k)) 10 = nI (R k) ∧ μ.1 (β + (19 + 3 * k)) 11 = nI (C k))
set_option maxHeartbeats 4000000 in
theorem k_arrange {S : gSh} {h β n w : Nat} {F : Nat → Prop} [DecidablePred F] {W D G R C : Nat → Nat} {μ : gM} {P : gP} (hS : gLS S β) (hR : gPS μ.2.2 β) (hn : n ≤ 6) (hw8 : w ≤ 8) (hat : ∀ k, k < n → μ.1 (β + (19 + 3 * k)) 0 = nI (W k) ∧ μ.1 (β + (19 + 3 * k)) 2 = nI (D k) ∧ μ.1 (β + (19 + 3 * k)) 3 = nI (G k) ∧ W k ≤ 1000 ∧ 1 ≤ D k ∧ D k ≤ w ∧ 1 ≤ G k ∧ G k ≤ 6) (hfx : gFXc β n F R C μ) (hcw : ∀ k, k < n → F k → C k + D k ≤ w) (hov : ∀ j k, j < k → k < n → F j → F k → ¬ (R j < R k + G k ∧ R k < R j + G j ∧ C j < C k + D k ∧ C k < C j + D j))
    (hP : ∀ μ', μ'.2.1 = μ.2.1 → μ'.2.2 = gU μ.2.2 (β + 50) 0 (β + 18) → (∀ a i, a < β + 50 ∨ β + 55 < a → μ'.1 a i = μ.1 a i) → gBp β n (gAr2 F W D G R C w n (fun k => if F k then R k else 0) (fun k => if F k then C k else 0)) μ' → P (some (.int (nI (gAr2 F W D G R C w n (fun k => if F k then R k else 0) (fun k => if F k then C k else 0)).1))) μ') : gRun S (h + 10) 7 [.ref (β + 50), .ref (β + 18), .int (nI n), .int (nI w)] μ P := by
  have hR2 : gPS (gU μ.2.2 (β + 50) 0 (β + 18)) β := gPS_U hR (by decide +kernel)
  refine r_X1_arrange (by simp [lg_sl, Value.category]) (fun X hX => ?_)
  refine b_X1_arrange_0 hX ?_
  simp (disch := omega) only [B_X1_arrange_0, ↓n_gb, ↓n_gb0, ↓n_ic, ↓n_icm, ↓n_lc, ↓e_lc, ↓e_null, ↓e_ldI, ↓e_ldL, ↓e_ldA, ↓e_stI, ↓e_stL, ↓e_stA, ↓n_inc, ↓n_incm1, ↓n_incm8, ↓e_iadd, ↓e_isub, ↓e_imul, ↓e_iand, ↓e_ior, ↓e_ixor, ↓n_ishl, ↓n_ishr, ↓e_iushr, ↓n_idiv, ↓e_ineg, ↓e_ladd, ↓e_lsub, ↓e_lmul, ↓e_lor, ↓e_lshl, ↓e_lshr, ↓e_i2l, ↓e_l2i, ↓e_i2b, ↓e_lcmp, ↓e_dup, ↓e_dup2, ↓e_pop, ↓e_ceq, ↓e_cne, ↓e_clt, ↓e_cge, ↓e_cgt, ↓e_cle, ↓n_zeq, ↓n_zne, ↓n_zlt, ↓n_zge, ↓n_zgt, ↓n_zle, ↓e_goto, ↓e_nn, ↓e_retI, ↓e_retL, ↓e_retV, ↓n_retZ, ↓e_retA, ↓e_gfI, ↓e_gfL, ↓e_gfR, ↓e_pfI, ↓n_pfZ, ↓e_pfL, ↓e_pfR, ↓e_iald, ↓e_lald, ↓e_aald, ↓e_alen, ↓e_iast, ↓e_bast, ↓n_zast, ↓e_last, ↓e_aast, ↓e_cV, ↓e_cS, ↓e_gsW, ↓e_gsK, ↓e_mmax, ↓e_mmin, ↓e_mmaxL, ↓e_mminL, gEnt, gPad, gArgs, gGet, gS1, gS2, gCl, gNo, gSp, gCt, n_sw, n_gSw, n_gSw0, Option.toList, List.cons_append, List.nil_append, Value.category, and_true, true_and, and_self, not_false_eq_true, not_true_eq_false, Nat.reduceAdd, Nat.reduceSub, Nat.reduceMul, Nat.reduceLeDiff, Nat.reduceLT, Nat.reduceEqDiff, forall_const, true_implies, false_implies, implies_true, Nat.zero_add, Option.some.injEq, Sum.inr.injEq, Sum.inl.injEq, Prod.mk.injEq, exists_eq_left', exists_eq_left, w_ne0, nI_add, w_lt, w_le, w_eq, w_meq, w_eqm, w_mlt, w_ltm, w_mle, w_lem, w_clamp, w_in, w_31, w_ite0, w_ite1, w_ite01, true_or, or_true, false_or, or_false, Nat.le_refl, Nat.lt_irrefl, S_50 hS, S_51 hS, S_52 hS, S_53 hS, R_50_1 hR, R_50_2 hR, R_50_3 hR, bx_S hS, bx_S1 hS, bx_S2 hS, bx_r hR, bx_r1 hR, bx_r2 hR]
  have hR0 := hR
  have hR := hR2
  refine gLoop (I := fun j μ' lc => μ'.2 = (μ.2.1, gU μ.2.2 (β + 50) 0 (β + 18)) ∧ (∀ a i, a < β + 50 ∨ β + 55 < a → μ'.1 a i = μ.1 a i) ∧ μ'.1 (β + 50) 6 = nI n ∧ μ'.1 (β + 50) 7 = nI w ∧ μ'.1 (β + 50) 8 = nI 2147483647 ∧ μ'.1 (β + 50) 9 = nI 2147483647 ∧ (∀ i, i < j → μ'.1 (β + 51) i = nI 0) ∧ lc = [some (.ref (β + 50)), some (.ref (β + 18)), some (.int (nI n)), some (.int (nI w)), some (.int (nI j)), none, none, none, none]) 80 ?_ ?_ 0 (by omega) _ _ ⟨rfl, fun a i q => ?_, ?_, ?_, ?_, ?_, fun i hi => by omega, rfl⟩
  · rintro j μ' _ hj ⟨i1, i2, i3, i4, i5, i6, i7, rfl⟩ hK
    have hR : gPS μ'.2.2 β := by rw [i1]; exact hR2
    have hj80 : ¬ 80 ≤ j := by omega
    refine b_X1_arrange_30 hX ?_
    simp (disch := omega) only [B_X1_arrange_30, ↓n_gb, ↓n_gb0, ↓n_ic, ↓n_icm, ↓n_lc, ↓e_lc, ↓e_null, ↓e_ldI, ↓e_ldL, ↓e_ldA, ↓e_stI, ↓e_stL, ↓e_stA, ↓n_inc, ↓n_incm1, ↓n_incm8, ↓e_iadd, ↓e_isub, ↓e_imul, ↓e_iand, ↓e_ior, ↓e_ixor, ↓n_ishl, ↓n_ishr, ↓e_iushr, ↓n_idiv, ↓e_ineg, ↓e_ladd, ↓e_lsub, ↓e_lmul, ↓e_lor, ↓e_lshl, ↓e_lshr, ↓e_i2l, ↓e_l2i, ↓e_i2b, ↓e_lcmp, ↓e_dup, ↓e_dup2, ↓e_pop, ↓e_ceq, ↓e_cne, ↓e_clt, ↓e_cge, ↓e_cgt, ↓e_cle, ↓n_zeq, ↓n_zne, ↓n_zlt, ↓n_zge, ↓n_zgt, ↓n_zle, ↓e_goto, ↓e_nn, ↓e_retI, ↓e_retL, ↓e_retV, ↓n_retZ, ↓e_retA, ↓e_gfI, ↓e_gfL, ↓e_gfR, ↓e_pfI, ↓n_pfZ, ↓e_pfL, ↓e_pfR, ↓e_iald, ↓e_lald, ↓e_aald, ↓e_alen, ↓e_iast, ↓e_bast, ↓n_zast, ↓e_last, ↓e_aast, ↓e_cV, ↓e_cS, ↓e_gsW, ↓e_gsK, ↓e_mmax, ↓e_mmin, ↓e_mmaxL, ↓e_mminL, gEnt, gPad, gArgs, gGet, gS1, gS2, gCl, gNo, gSp, gCt, n_sw, n_gSw, n_gSw0, Option.toList, List.cons_append, List.nil_append, Value.category, and_true, true_and, and_self, not_false_eq_true, not_true_eq_false, Nat.reduceAdd, Nat.reduceSub, Nat.reduceMul, Nat.reduceLeDiff, Nat.reduceLT, Nat.reduceEqDiff, forall_const, true_implies, false_implies, implies_true, Nat.zero_add, Option.some.injEq, Sum.inr.injEq, Sum.inl.injEq, Prod.mk.injEq, exists_eq_left', exists_eq_left, w_ne0, nI_add, w_lt, w_le, w_eq, w_meq, w_eqm, w_mlt, w_ltm, w_mle, w_lem, w_clamp, w_in, w_31, w_ite0, w_ite1, w_ite01, true_or, or_true, false_or, or_false, Nat.le_refl, Nat.lt_irrefl, S_50 hS, S_51 hS, S_52 hS, S_53 hS, R_50_1 hR, R_50_2 hR, R_50_3 hR, bx_S hS, bx_S1 hS, bx_S2 hS, bx_r hR, bx_r1 hR, bx_r2 hR, hj80, hj]
    refine hK _ _ ⟨i1, fun a i q => ?_, ?_, ?_, ?_, ?_, fun i hi => ?_, rfl⟩
    · dsimp only; rw [gU_n (by omega)]; exact i2 a i q
    · dsimp only; rw [gU_n (by omega)]; exact i3
    · dsimp only; rw [gU_n (by omega)]; exact i4
    · dsimp only; rw [gU_n (by omega)]; exact i5
    · dsimp only; rw [gU_n (by omega)]; exact i6
    · dsimp only
      by_cases e : i = j
      · subst e; exact gU_s
      · rw [gU_n (by omega)]; exact i7 i (by omega)
  · rintro μ1 _ ⟨i1, i2, i3, i4, i5, i6, i7, rfl⟩
    have hR : gPS μ1.2.2 β := by rw [i1]; exact hR2
    refine b_X1_arrange_30 hX ?_
    simp (disch := omega) only [B_X1_arrange_30, ↓n_gb, ↓n_gb0, ↓n_ic, ↓n_icm, ↓n_lc, ↓e_lc, ↓e_null, ↓e_ldI, ↓e_ldL, ↓e_ldA, ↓e_stI, ↓e_stL, ↓e_stA, ↓n_inc, ↓n_incm1, ↓n_incm8, ↓e_iadd, ↓e_isub, ↓e_imul, ↓e_iand, ↓e_ior, ↓e_ixor, ↓n_ishl, ↓n_ishr, ↓e_iushr, ↓n_idiv, ↓e_ineg, ↓e_ladd, ↓e_lsub, ↓e_lmul, ↓e_lor, ↓e_lshl, ↓e_lshr, ↓e_i2l, ↓e_l2i, ↓e_i2b, ↓e_lcmp, ↓e_dup, ↓e_dup2, ↓e_pop, ↓e_ceq, ↓e_cne, ↓e_clt, ↓e_cge, ↓e_cgt, ↓e_cle, ↓n_zeq, ↓n_zne, ↓n_zlt, ↓n_zge, ↓n_zgt, ↓n_zle, ↓e_goto, ↓e_nn, ↓e_retI, ↓e_retL, ↓e_retV, ↓n_retZ, ↓e_retA, ↓e_gfI, ↓e_gfL, ↓e_gfR, ↓e_pfI, ↓n_pfZ, ↓e_pfL, ↓e_pfR, ↓e_iald, ↓e_lald, ↓e_aald, ↓e_alen, ↓e_iast, ↓e_bast, ↓n_zast, ↓e_last, ↓e_aast, ↓e_cV, ↓e_cS, ↓e_gsW, ↓e_gsK, ↓e_mmax, ↓e_mmin, ↓e_mmaxL, ↓e_mminL, gEnt, gPad, gArgs, gGet, gS1, gS2, gCl, gNo, gSp, gCt, n_sw, n_gSw, n_gSw0, Option.toList, List.cons_append, List.nil_append, Value.category, and_true, true_and, and_self, not_false_eq_true, not_true_eq_false, Nat.reduceAdd, Nat.reduceSub, Nat.reduceMul, Nat.reduceLeDiff, Nat.reduceLT, Nat.reduceEqDiff, forall_const, true_implies, false_implies, implies_true, Nat.zero_add, Option.some.injEq, Sum.inr.injEq, Sum.inl.injEq, Prod.mk.injEq, exists_eq_left', exists_eq_left, w_ne0, nI_add, w_lt, w_le, w_eq, w_meq, w_eqm, w_mlt, w_ltm, w_mle, w_lem, w_clamp, w_in, w_31, w_ite0, w_ite1, w_ite01, true_or, or_true, false_or, or_false, Nat.le_refl, Nat.lt_irrefl, S_50 hS, S_51 hS, S_52 hS, S_53 hS, R_50_1 hR, R_50_2 hR, R_50_3 hR, bx_S hS, bx_S1 hS, bx_S2 hS, bx_r hR, bx_r1 hR, bx_r2 hR]
    refine b_X1_arrange_54 hX ?_
    simp (disch := omega) only [B_X1_arrange_54, ↓n_gb, ↓n_gb0, ↓n_ic, ↓n_icm, ↓n_lc, ↓e_lc, ↓e_null, ↓e_ldI, ↓e_ldL, ↓e_ldA, ↓e_stI, ↓e_stL, ↓e_stA, ↓n_inc, ↓n_incm1, ↓n_incm8, ↓e_iadd, ↓e_isub, ↓e_imul, ↓e_iand, ↓e_ior, ↓e_ixor, ↓n_ishl, ↓n_ishr, ↓e_iushr, ↓n_idiv, ↓e_ineg, ↓e_ladd, ↓e_lsub, ↓e_lmul, ↓e_lor, ↓e_lshl, ↓e_lshr, ↓e_i2l, ↓e_l2i, ↓e_i2b, ↓e_lcmp, ↓e_dup, ↓e_dup2, ↓e_pop, ↓e_ceq, ↓e_cne, ↓e_clt, ↓e_cge, ↓e_cgt, ↓e_cle, ↓n_zeq, ↓n_zne, ↓n_zlt, ↓n_zge, ↓n_zgt, ↓n_zle, ↓e_goto, ↓e_nn, ↓e_retI, ↓e_retL, ↓e_retV, ↓n_retZ, ↓e_retA, ↓e_gfI, ↓e_gfL, ↓e_gfR, ↓e_pfI, ↓n_pfZ, ↓e_pfL, ↓e_pfR, ↓e_iald, ↓e_lald, ↓e_aald, ↓e_alen, ↓e_iast, ↓e_bast, ↓n_zast, ↓e_last, ↓e_aast, ↓e_cV, ↓e_cS, ↓e_gsW, ↓e_gsK, ↓e_mmax, ↓e_mmin, ↓e_mmaxL, ↓e_mminL, gEnt, gPad, gArgs, gGet, gS1, gS2, gCl, gNo, gSp, gCt, n_sw, n_gSw, n_gSw0, Option.toList, List.cons_append, List.nil_append, Value.category, and_true, true_and, and_self, not_false_eq_true, not_true_eq_false, Nat.reduceAdd, Nat.reduceSub, Nat.reduceMul, Nat.reduceLeDiff, Nat.reduceLT, Nat.reduceEqDiff, forall_const, true_implies, false_implies, implies_true, Nat.zero_add, Option.some.injEq, Sum.inr.injEq, Sum.inl.injEq, Prod.mk.injEq, exists_eq_left', exists_eq_left, w_ne0, nI_add, w_lt, w_le, w_eq, w_meq, w_eqm, w_mlt, w_ltm, w_mle, w_lem, w_clamp, w_in, w_31, w_ite0, w_ite1, w_ite01, true_or, or_true, false_or, or_false, Nat.le_refl, Nat.lt_irrefl, S_50 hS, S_51 hS, S_52 hS, S_53 hS, R_50_1 hR, R_50_2 hR, R_50_3 hR, bx_S hS, bx_S1 hS, bx_S2 hS, bx_r hR, bx_r1 hR, bx_r2 hR]
    refine gLoop (I := fun k μ' lc => μ'.2 = (μ.2.1, gU μ.2.2 (β + 50) 0 (β + 18)) ∧ (∀ a i, a < β + 50 ∨ β + 55 < a → μ'.1 a i = μ.1 a i) ∧ μ'.1 (β + 50) 6 = nI n ∧ μ'.1 (β + 50) 7 = nI w ∧ μ'.1 (β + 50) 8 = nI 2147483647 ∧ μ'.1 (β + 50) 9 = nI 2147483647 ∧ (∀ i, i < 80 → μ'.1 (β + 51) i = nI (gKF F D G R C k i)) ∧ (∀ j, j < k → F j → μ'.1 (β + 52) j = nI (R j) ∧ μ'.1 (β + 53) j = nI (C j)) ∧ ∃ y, lc = [some (.ref (β + 50)), some (.ref (β + 18)), some (.int (nI n)), some (.int (nI w)), some (.int (nI (gMF F k))), some (.int (nI (gHF F G R k))), some (.int (nI (gSF F W R k))), some (.int (nI k)), y]) n ?_ ?_ 0 (by omega) _ _ ⟨i1, i2, i3, i4, i5, i6, i7, fun j hj => by omega, none, rfl⟩
    · rintro k μ' _ hk ⟨j1, j2, j3, j4, j5, j6, j7, j8, y, rfl⟩ hK
      have hR : gPS μ'.2.2 β := by rw [j1]; exact hR2
      have p0 : μ'.2.2 (β + 50) 0 = β + 18 := by rw [j1]; exact gU_s
      have hkn : ¬ n ≤ k := by omega
      have hk6 : k < 6 := by omega
      obtain ⟨t0, t2, t3, t4, t5, t6, t7, t8⟩ := hat k hk
      have u0 : μ'.1 (β + (19 + 3 * k)) 0 = nI (W k) := (j2 _ _ (by omega)).trans t0
      have u2 : μ'.1 (β + (19 + 3 * k)) 2 = nI (D k) := (j2 _ _ (by omega)).trans t2
      have u3 : μ'.1 (β + (19 + 3 * k)) 3 = nI (G k) := (j2 _ _ (by omega)).trans t3
      rcases hfx k hk with ⟨f1, f2⟩ | ⟨f1, f2, f3, f4⟩
      · have u10 : μ'.1 (β + (19 + 3 * k)) 10 = gm1 := (j2 _ _ (by omega)).trans f2
        refine b_X1_arrange_66 hX ?_
        simp (disch := omega) only [B_X1_arrange_66, ↓n_gb, ↓n_gb0, ↓n_ic, ↓n_icm, ↓n_lc, ↓e_lc, ↓e_null, ↓e_ldI, ↓e_ldL, ↓e_ldA, ↓e_stI, ↓e_stL, ↓e_stA, ↓n_inc, ↓n_incm1, ↓n_incm8, ↓e_iadd, ↓e_isub, ↓e_imul, ↓e_iand, ↓e_ior, ↓e_ixor, ↓n_ishl, ↓n_ishr, ↓e_iushr, ↓n_idiv, ↓e_ineg, ↓e_ladd, ↓e_lsub, ↓e_lmul, ↓e_lor, ↓e_lshl, ↓e_lshr, ↓e_i2l, ↓e_l2i, ↓e_i2b, ↓e_lcmp, ↓e_dup, ↓e_dup2, ↓e_pop, ↓e_ceq, ↓e_cne, ↓e_clt, ↓e_cge, ↓e_cgt, ↓e_cle, ↓n_zeq, ↓n_zne, ↓n_zlt, ↓n_zge, ↓n_zgt, ↓n_zle, ↓e_goto, ↓e_nn, ↓e_retI, ↓e_retL, ↓e_retV, ↓n_retZ, ↓e_retA, ↓e_gfI, ↓e_gfL, ↓e_gfR, ↓e_pfI, ↓n_pfZ, ↓e_pfL, ↓e_pfR, ↓e_iald, ↓e_lald, ↓e_aald, ↓e_alen, ↓e_iast, ↓e_bast, ↓n_zast, ↓e_last, ↓e_aast, ↓e_cV, ↓e_cS, ↓e_gsW, ↓e_gsK, ↓e_mmax, ↓e_mmin, ↓e_mmaxL, ↓e_mminL, gEnt, gPad, gArgs, gGet, gS1, gS2, gCl, gNo, gSp, gCt, n_sw, n_gSw, n_gSw0, Option.toList, List.cons_append, List.nil_append, Value.category, and_true, true_and, and_self, not_false_eq_true, not_true_eq_false, Nat.reduceAdd, Nat.reduceSub, Nat.reduceMul, Nat.reduceLeDiff, Nat.reduceLT, Nat.reduceEqDiff, forall_const, true_implies, false_implies, implies_true, Nat.zero_add, Option.some.injEq, Sum.inr.injEq, Sum.inl.injEq, Prod.mk.injEq, exists_eq_left', exists_eq_left, w_ne0, nI_add, w_lt, w_le, w_eq, w_meq, w_eqm, w_mlt, w_ltm, w_mle, w_lem, w_clamp, w_in, w_31, w_ite0, w_ite1, w_ite01, true_or, or_true, false_or, or_false, Nat.le_refl, Nat.lt_irrefl, S_50 hS, S_51 hS, S_52 hS, S_53 hS, R_50_1 hR, R_50_2 hR, R_50_3 hR, bx_S hS, bx_S1 hS, bx_S2 hS, bx_r hR, bx_r1 hR, bx_r2 hR, j3, hkn, p0, S_18 hS, hk6]
        refine r_X0_isFixed (by simp [lg_sl, Value.category]) (fun X2 hX2 => ?_)
        refine b_X0_isFixed_0 hX2 ?_
        simp (disch := omega) only [↓n_gb, ↓n_gb0, ↓n_ic, ↓n_icm, ↓n_lc, ↓e_lc, ↓e_null, ↓e_ldI, ↓e_ldL, ↓e_ldA, ↓e_stI, ↓e_stL, ↓e_stA, ↓n_inc, ↓n_incm1, ↓n_incm8, ↓e_iadd, ↓e_isub, ↓e_imul, ↓e_iand, ↓e_ior, ↓e_ixor, ↓n_ishl, ↓n_ishr, ↓e_iushr, ↓n_idiv, ↓e_ineg, ↓e_ladd, ↓e_lsub, ↓e_lmul, ↓e_lor, ↓e_lshl, ↓e_lshr, ↓e_i2l, ↓e_l2i, ↓e_i2b, ↓e_lcmp, ↓e_dup, ↓e_dup2, ↓e_pop, ↓e_ceq, ↓e_cne, ↓e_clt, ↓e_cge, ↓e_cgt, ↓e_cle, ↓n_zeq, ↓n_zne, ↓n_zlt, ↓n_zge, ↓n_zgt, ↓n_zle, ↓e_goto, ↓e_nn, ↓e_retI, ↓e_retL, ↓e_retV, ↓n_retZ, ↓e_retA, ↓e_gfI, ↓e_gfL, ↓e_gfR, ↓e_pfI, ↓n_pfZ, ↓e_pfL, ↓e_pfR, ↓e_iald, ↓e_lald, ↓e_aald, ↓e_alen, ↓e_iast, ↓e_bast, ↓n_zast, ↓e_last, ↓e_aast, ↓e_cV, ↓e_cS, ↓e_gsW, ↓e_gsK, ↓e_mmax, ↓e_mmin, ↓e_mmaxL, ↓e_mminL, gEnt, gPad, gArgs, gGet, gS1, gS2, gCl, gNo, gSp, gCt, n_sw, n_gSw, n_gSw0, Option.toList, List.cons_append, List.nil_append, Value.category, and_true, true_and, and_self, not_false_eq_true, not_true_eq_false, Nat.reduceAdd, Nat.reduceSub, Nat.reduceMul, Nat.reduceLeDiff, Nat.reduceLT, Nat.reduceEqDiff, forall_const, true_implies, false_implies, implies_true, Nat.zero_add, Option.some.injEq, Sum.inr.injEq, Sum.inl.injEq, Prod.mk.injEq, exists_eq_left', exists_eq_left, w_ne0, nI_add, w_lt, w_le, w_eq, w_meq, w_eqm, w_mlt, w_ltm, w_mle, w_lem, w_clamp, w_in, w_31, w_ite0, w_ite1, w_ite01, true_or, or_true, false_or, or_false, Nat.le_refl, Nat.lt_irrefl, bx_S hS, bx_S1 hS, bx_S2 hS, bx_r hR, bx_r1 hR, bx_r2 hR, B_X0_isFixed_0, u10, hk6]
        refine b_X0_isFixed_12 hX2 ?_
        simp (disch := omega) only [↓n_gb, ↓n_gb0, ↓n_ic, ↓n_icm, ↓n_lc, ↓e_lc, ↓e_null, ↓e_ldI, ↓e_ldL, ↓e_ldA, ↓e_stI, ↓e_stL, ↓e_stA, ↓n_inc, ↓n_incm1, ↓n_incm8, ↓e_iadd, ↓e_isub, ↓e_imul, ↓e_iand, ↓e_ior, ↓e_ixor, ↓n_ishl, ↓n_ishr, ↓e_iushr, ↓n_idiv, ↓e_ineg, ↓e_ladd, ↓e_lsub, ↓e_lmul, ↓e_lor, ↓e_lshl, ↓e_lshr, ↓e_i2l, ↓e_l2i, ↓e_i2b, ↓e_lcmp, ↓e_dup, ↓e_dup2, ↓e_pop, ↓e_ceq, ↓e_cne, ↓e_clt, ↓e_cge, ↓e_cgt, ↓e_cle, ↓n_zeq, ↓n_zne, ↓n_zlt, ↓n_zge, ↓n_zgt, ↓n_zle, ↓e_goto, ↓e_nn, ↓e_retI, ↓e_retL, ↓e_retV, ↓n_retZ, ↓e_retA, ↓e_gfI, ↓e_gfL, ↓e_gfR, ↓e_pfI, ↓n_pfZ, ↓e_pfL, ↓e_pfR, ↓e_iald, ↓e_lald, ↓e_aald, ↓e_alen, ↓e_iast, ↓e_bast, ↓n_zast, ↓e_last, ↓e_aast, ↓e_cV, ↓e_cS, ↓e_gsW, ↓e_gsK, ↓e_mmax, ↓e_mmin, ↓e_mmaxL, ↓e_mminL, gEnt, gPad, gArgs, gGet, gS1, gS2, gCl, gNo, gSp, gCt, n_sw, n_gSw, n_gSw0, Option.toList, List.cons_append, List.nil_append, Value.category, and_true, true_and, and_self, not_false_eq_true, not_true_eq_false, Nat.reduceAdd, Nat.reduceSub, Nat.reduceMul, Nat.reduceLeDiff, Nat.reduceLT, Nat.reduceEqDiff, forall_const, true_implies, false_implies, implies_true, Nat.zero_add, Option.some.injEq, Sum.inr.injEq, Sum.inl.injEq, Prod.mk.injEq, exists_eq_left', exists_eq_left, w_ne0, nI_add, w_lt, w_le, w_eq, w_meq, w_eqm, w_mlt, w_ltm, w_mle, w_lem, w_clamp, w_in, w_31, w_ite0, w_ite1, w_ite01, true_or, or_true, false_or, or_false, Nat.le_refl, Nat.lt_irrefl, bx_S hS, bx_S1 hS, bx_S2 hS, bx_r hR, bx_r1 hR, bx_r2 hR, B_X0_isFixed_12]
        refine b_X0_isFixed_13 hX2 ?_
        simp (disch := omega) only [↓n_gb, ↓n_gb0, ↓n_ic, ↓n_icm, ↓n_lc, ↓e_lc, ↓e_null, ↓e_ldI, ↓e_ldL, ↓e_ldA, ↓e_stI, ↓e_stL, ↓e_stA, ↓n_inc, ↓n_incm1, ↓n_incm8, ↓e_iadd, ↓e_isub, ↓e_imul, ↓e_iand, ↓e_ior, ↓e_ixor, ↓n_ishl, ↓n_ishr, ↓e_iushr, ↓n_idiv, ↓e_ineg, ↓e_ladd, ↓e_lsub, ↓e_lmul, ↓e_lor, ↓e_lshl, ↓e_lshr, ↓e_i2l, ↓e_l2i, ↓e_i2b, ↓e_lcmp, ↓e_dup, ↓e_dup2, ↓e_pop, ↓e_ceq, ↓e_cne, ↓e_clt, ↓e_cge, ↓e_cgt, ↓e_cle, ↓n_zeq, ↓n_zne, ↓n_zlt, ↓n_zge, ↓n_zgt, ↓n_zle, ↓e_goto, ↓e_nn, ↓e_retI, ↓e_retL, ↓e_retV, ↓n_retZ, ↓e_retA, ↓e_gfI, ↓e_gfL, ↓e_gfR, ↓e_pfI, ↓n_pfZ, ↓e_pfL, ↓e_pfR, ↓e_iald, ↓e_lald, ↓e_aald, ↓e_alen, ↓e_iast, ↓e_bast, ↓n_zast, ↓e_last, ↓e_aast, ↓e_cV, ↓e_cS, ↓e_gsW, ↓e_gsK, ↓e_mmax, ↓e_mmin, ↓e_mmaxL, ↓e_mminL, gEnt, gPad, gArgs, gGet, gS1, gS2, gCl, gNo, gSp, gCt, n_sw, n_gSw, n_gSw0, Option.toList, List.cons_append, List.nil_append, Value.category, and_true, true_and, and_self, not_false_eq_true, not_true_eq_false, Nat.reduceAdd, Nat.reduceSub, Nat.reduceMul, Nat.reduceLeDiff, Nat.reduceLT, Nat.reduceEqDiff, forall_const, true_implies, false_implies, implies_true, Nat.zero_add, Option.some.injEq, Sum.inr.injEq, Sum.inl.injEq, Prod.mk.injEq, exists_eq_left', exists_eq_left, w_ne0, nI_add, w_lt, w_le, w_eq, w_meq, w_eqm, w_mlt, w_ltm, w_mle, w_lem, w_clamp, w_in, w_31, w_ite0, w_ite1, w_ite01, true_or, or_true, false_or, or_false, Nat.le_refl, Nat.lt_irrefl, S_50 hS, S_51 hS, S_52 hS, S_53 hS, R_50_1 hR, R_50_2 hR, R_50_3 hR, bx_S hS, bx_S1 hS, bx_S2 hS, bx_r hR, bx_r1 hR, bx_r2 hR, B_X0_isFixed_13, w_1s, w_or]
        refine b_X1_arrange_168 hX ?_
        simp (disch := omega) only [B_X1_arrange_168, ↓n_gb, ↓n_gb0, ↓n_ic, ↓n_icm, ↓n_lc, ↓e_lc, ↓e_null, ↓e_ldI, ↓e_ldL, ↓e_ldA, ↓e_stI, ↓e_stL, ↓e_stA, ↓n_inc, ↓n_incm1, ↓n_incm8, ↓e_iadd, ↓e_isub, ↓e_imul, ↓e_iand, ↓e_ior, ↓e_ixor, ↓n_ishl, ↓n_ishr, ↓e_iushr, ↓n_idiv, ↓e_ineg, ↓e_ladd, ↓e_lsub, ↓e_lmul, ↓e_lor, ↓e_lshl, ↓e_lshr, ↓e_i2l, ↓e_l2i, ↓e_i2b, ↓e_lcmp, ↓e_dup, ↓e_dup2, ↓e_pop, ↓e_ceq, ↓e_cne, ↓e_clt, ↓e_cge, ↓e_cgt, ↓e_cle, ↓n_zeq, ↓n_zne, ↓n_zlt, ↓n_zge, ↓n_zgt, ↓n_zle, ↓e_goto, ↓e_nn, ↓e_retI, ↓e_retL, ↓e_retV, ↓n_retZ, ↓e_retA, ↓e_gfI, ↓e_gfL, ↓e_gfR, ↓e_pfI, ↓n_pfZ, ↓e_pfL, ↓e_pfR, ↓e_iald, ↓e_lald, ↓e_aald, ↓e_alen, ↓e_iast, ↓e_bast, ↓n_zast, ↓e_last, ↓e_aast, ↓e_cV, ↓e_cS, ↓e_gsW, ↓e_gsK, ↓e_mmax, ↓e_mmin, ↓e_mmaxL, ↓e_mminL, gEnt, gPad, gArgs, gGet, gS1, gS2, gCl, gNo, gSp, gCt, n_sw, n_gSw, n_gSw0, Option.toList, List.cons_append, List.nil_append, Value.category, and_true, true_and, and_self, not_false_eq_true, not_true_eq_false, Nat.reduceAdd, Nat.reduceSub, Nat.reduceMul, Nat.reduceLeDiff, Nat.reduceLT, Nat.reduceEqDiff, forall_const, true_implies, false_implies, implies_true, Nat.zero_add, Option.some.injEq, Sum.inr.injEq, Sum.inl.injEq, Prod.mk.injEq, exists_eq_left', exists_eq_left, w_ne0, nI_add, w_lt, w_le, w_eq, w_meq, w_eqm, w_mlt, w_ltm, w_mle, w_lem, w_clamp, w_in, w_31, w_ite0, w_ite1, w_ite01, true_or, or_true, false_or, or_false, Nat.le_refl, Nat.lt_irrefl, S_50 hS, S_51 hS, S_52 hS, S_53 hS, R_50_1 hR, R_50_2 hR, R_50_3 hR, bx_S hS, bx_S1 hS, bx_S2 hS, bx_r hR, bx_r1 hR, bx_r2 hR]
        refine hK _ _ ⟨j1, j2, j3, j4, j5, j6, ?_, fun j hj hF => ?_, some (.ref (β + (19 + 3 * k))), ?_⟩
        · simp only [gKF, if_neg f1]; exact j7
        · by_cases e : j = k
          · subst e; exact absurd hF f1
          · exact j8 j (by omega) hF
        · simp only [gMF, gHF, gSF, if_neg f1]
      · have u10 : μ'.1 (β + (19 + 3 * k)) 10 = nI (R k) := (j2 _ _ (by omega)).trans f3
        have u11 : μ'.1 (β + (19 + 3 * k)) 11 = nI (C k) := (j2 _ _ (by omega)).trans f4
        have hck := hcw k hk f1
        refine b_X1_arrange_66 hX ?_
        simp (disch := omega) only [B_X1_arrange_66, ↓n_gb, ↓n_gb0, ↓n_ic, ↓n_icm, ↓n_lc, ↓e_lc, ↓e_null, ↓e_ldI, ↓e_ldL, ↓e_ldA, ↓e_stI, ↓e_stL, ↓e_stA, ↓n_inc, ↓n_incm1, ↓n_incm8, ↓e_iadd, ↓e_isub, ↓e_imul, ↓e_iand, ↓e_ior, ↓e_ixor, ↓n_ishl, ↓n_ishr, ↓e_iushr, ↓n_idiv, ↓e_ineg, ↓e_ladd, ↓e_lsub, ↓e_lmul, ↓e_lor, ↓e_lshl, ↓e_lshr, ↓e_i2l, ↓e_l2i, ↓e_i2b, ↓e_lcmp, ↓e_dup, ↓e_dup2, ↓e_pop, ↓e_ceq, ↓e_cne, ↓e_clt, ↓e_cge, ↓e_cgt, ↓e_cle, ↓n_zeq, ↓n_zne, ↓n_zlt, ↓n_zge, ↓n_zgt, ↓n_zle, ↓e_goto, ↓e_nn, ↓e_retI, ↓e_retL, ↓e_retV, ↓n_retZ, ↓e_retA, ↓e_gfI, ↓e_gfL, ↓e_gfR, ↓e_pfI, ↓n_pfZ, ↓e_pfL, ↓e_pfR, ↓e_iald, ↓e_lald, ↓e_aald, ↓e_alen, ↓e_iast, ↓e_bast, ↓n_zast, ↓e_last, ↓e_aast, ↓e_cV, ↓e_cS, ↓e_gsW, ↓e_gsK, ↓e_mmax, ↓e_mmin, ↓e_mmaxL, ↓e_mminL, gEnt, gPad, gArgs, gGet, gS1, gS2, gCl, gNo, gSp, gCt, n_sw, n_gSw, n_gSw0, Option.toList, List.cons_append, List.nil_append, Value.category, and_true, true_and, and_self, not_false_eq_true, not_true_eq_false, Nat.reduceAdd, Nat.reduceSub, Nat.reduceMul, Nat.reduceLeDiff, Nat.reduceLT, Nat.reduceEqDiff, forall_const, true_implies, false_implies, implies_true, Nat.zero_add, Option.some.injEq, Sum.inr.injEq, Sum.inl.injEq, Prod.mk.injEq, exists_eq_left', exists_eq_left, w_ne0, nI_add, w_lt, w_le, w_eq, w_meq, w_eqm, w_mlt, w_ltm, w_mle, w_lem, w_clamp, w_in, w_31, w_ite0, w_ite1, w_ite01, true_or, or_true, false_or, or_false, Nat.le_refl, Nat.lt_irrefl, S_50 hS, S_51 hS, S_52 hS, S_53 hS, R_50_1 hR, R_50_2 hR, R_50_3 hR, bx_S hS, bx_S1 hS, bx_S2 hS, bx_r hR, bx_r1 hR, bx_r2 hR, j3, hkn, p0, S_18 hS, hk6]
        refine r_X0_isFixed (by simp [lg_sl, Value.category]) (fun X2 hX2 => ?_)
        refine b_X0_isFixed_0 hX2 ?_
        simp (disch := omega) only [↓n_gb, ↓n_gb0, ↓n_ic, ↓n_icm, ↓n_lc, ↓e_lc, ↓e_null, ↓e_ldI, ↓e_ldL, ↓e_ldA, ↓e_stI, ↓e_stL, ↓e_stA, ↓n_inc, ↓n_incm1, ↓n_incm8, ↓e_iadd, ↓e_isub, ↓e_imul, ↓e_iand, ↓e_ior, ↓e_ixor, ↓n_ishl, ↓n_ishr, ↓e_iushr, ↓n_idiv, ↓e_ineg, ↓e_ladd, ↓e_lsub, ↓e_lmul, ↓e_lor, ↓e_lshl, ↓e_lshr, ↓e_i2l, ↓e_l2i, ↓e_i2b, ↓e_lcmp, ↓e_dup, ↓e_dup2, ↓e_pop, ↓e_ceq, ↓e_cne, ↓e_clt, ↓e_cge, ↓e_cgt, ↓e_cle, ↓n_zeq, ↓n_zne, ↓n_zlt, ↓n_zge, ↓n_zgt, ↓n_zle, ↓e_goto, ↓e_nn, ↓e_retI, ↓e_retL, ↓e_retV, ↓n_retZ, ↓e_retA, ↓e_gfI, ↓e_gfL, ↓e_gfR, ↓e_pfI, ↓n_pfZ, ↓e_pfL, ↓e_pfR, ↓e_iald, ↓e_lald, ↓e_aald, ↓e_alen, ↓e_iast, ↓e_bast, ↓n_zast, ↓e_last, ↓e_aast, ↓e_cV, ↓e_cS, ↓e_gsW, ↓e_gsK, ↓e_mmax, ↓e_mmin, ↓e_mmaxL, ↓e_mminL, gEnt, gPad, gArgs, gGet, gS1, gS2, gCl, gNo, gSp, gCt, n_sw, n_gSw, n_gSw0, Option.toList, List.cons_append, List.nil_append, Value.category, and_true, true_and, and_self, not_false_eq_true, not_true_eq_false, Nat.reduceAdd, Nat.reduceSub, Nat.reduceMul, Nat.reduceLeDiff, Nat.reduceLT, Nat.reduceEqDiff, forall_const, true_implies, false_implies, implies_true, Nat.zero_add, Option.some.injEq, Sum.inr.injEq, Sum.inl.injEq, Prod.mk.injEq, exists_eq_left', exists_eq_left, w_ne0, nI_add, w_lt, w_le, w_eq, w_meq, w_eqm, w_mlt, w_ltm, w_mle, w_lem, w_clamp, w_in, w_31, w_ite0, w_ite1, w_ite01, true_or, or_true, false_or, or_false, Nat.le_refl, Nat.lt_irrefl, bx_S hS, bx_S1 hS, bx_S2 hS, bx_r hR, bx_r1 hR, bx_r2 hR, B_X0_isFixed_0, u10, hk6]
        refine b_X0_isFixed_13 hX2 ?_
        simp (disch := omega) only [↓n_gb, ↓n_gb0, ↓n_ic, ↓n_icm, ↓n_lc, ↓e_lc, ↓e_null, ↓e_ldI, ↓e_ldL, ↓e_ldA, ↓e_stI, ↓e_stL, ↓e_stA, ↓n_inc, ↓n_incm1, ↓n_incm8, ↓e_iadd, ↓e_isub, ↓e_imul, ↓e_iand, ↓e_ior, ↓e_ixor, ↓n_ishl, ↓n_ishr, ↓e_iushr, ↓n_idiv, ↓e_ineg, ↓e_ladd, ↓e_lsub, ↓e_lmul, ↓e_lor, ↓e_lshl, ↓e_lshr, ↓e_i2l, ↓e_l2i, ↓e_i2b, ↓e_lcmp, ↓e_dup, ↓e_dup2, ↓e_pop, ↓e_ceq, ↓e_cne, ↓e_clt, ↓e_cge, ↓e_cgt, ↓e_cle, ↓n_zeq, ↓n_zne, ↓n_zlt, ↓n_zge, ↓n_zgt, ↓n_zle, ↓e_goto, ↓e_nn, ↓e_retI, ↓e_retL, ↓e_retV, ↓n_retZ, ↓e_retA, ↓e_gfI, ↓e_gfL, ↓e_gfR, ↓e_pfI, ↓n_pfZ, ↓e_pfL, ↓e_pfR, ↓e_iald, ↓e_lald, ↓e_aald, ↓e_alen, ↓e_iast, ↓e_bast, ↓n_zast, ↓e_last, ↓e_aast, ↓e_cV, ↓e_cS, ↓e_gsW, ↓e_gsK, ↓e_mmax, ↓e_mmin, ↓e_mmaxL, ↓e_mminL, gEnt, gPad, gArgs, gGet, gS1, gS2, gCl, gNo, gSp, gCt, n_sw, n_gSw, n_gSw0, Option.toList, List.cons_append, List.nil_append, Value.category, and_true, true_and, and_self, not_false_eq_true, not_true_eq_false, Nat.reduceAdd, Nat.reduceSub, Nat.reduceMul, Nat.reduceLeDiff, Nat.reduceLT, Nat.reduceEqDiff, forall_const, true_implies, false_implies, implies_true, Nat.zero_add, Option.some.injEq, Sum.inr.injEq, Sum.inl.injEq, Prod.mk.injEq, exists_eq_left', exists_eq_left, w_ne0, nI_add, w_lt, w_le, w_eq, w_meq, w_eqm, w_mlt, w_ltm, w_mle, w_lem, w_clamp, w_in, w_31, w_ite0, w_ite1, w_ite01, true_or, or_true, false_or, or_false, Nat.le_refl, Nat.lt_irrefl, S_50 hS, S_51 hS, S_52 hS, S_53 hS, R_50_1 hR, R_50_2 hR, R_50_3 hR, bx_S hS, bx_S1 hS, bx_S2 hS, bx_r hR, bx_r1 hR, bx_r2 hR, B_X0_isFixed_13]
        refine b_X1_arrange_104 hX ?_
        simp (disch := omega) only [B_X1_arrange_104, ↓n_gb, ↓n_gb0, ↓n_ic, ↓n_icm, ↓n_lc, ↓e_lc, ↓e_null, ↓e_ldI, ↓e_ldL, ↓e_ldA, ↓e_stI, ↓e_stL, ↓e_stA, ↓n_inc, ↓n_incm1, ↓n_incm8, ↓e_iadd, ↓e_isub, ↓e_imul, ↓e_iand, ↓e_ior, ↓e_ixor, ↓n_ishl, ↓n_ishr, ↓e_iushr, ↓n_idiv, ↓e_ineg, ↓e_ladd, ↓e_lsub, ↓e_lmul, ↓e_lor, ↓e_lshl, ↓e_lshr, ↓e_i2l, ↓e_l2i, ↓e_i2b, ↓e_lcmp, ↓e_dup, ↓e_dup2, ↓e_pop, ↓e_ceq, ↓e_cne, ↓e_clt, ↓e_cge, ↓e_cgt, ↓e_cle, ↓n_zeq, ↓n_zne, ↓n_zlt, ↓n_zge, ↓n_zgt, ↓n_zle, ↓e_goto, ↓e_nn, ↓e_retI, ↓e_retL, ↓e_retV, ↓n_retZ, ↓e_retA, ↓e_gfI, ↓e_gfL, ↓e_gfR, ↓e_pfI, ↓n_pfZ, ↓e_pfL, ↓e_pfR, ↓e_iald, ↓e_lald, ↓e_aald, ↓e_alen, ↓e_iast, ↓e_bast, ↓n_zast, ↓e_last, ↓e_aast, ↓e_cV, ↓e_cS, ↓e_gsW, ↓e_gsK, ↓e_mmax, ↓e_mmin, ↓e_mmaxL, ↓e_mminL, gEnt, gPad, gArgs, gGet, gS1, gS2, gCl, gNo, gSp, gCt, n_sw, n_gSw, n_gSw0, Option.toList, List.cons_append, List.nil_append, Value.category, and_true, true_and, and_self, not_false_eq_true, not_true_eq_false, Nat.reduceAdd, Nat.reduceSub, Nat.reduceMul, Nat.reduceLeDiff, Nat.reduceLT, Nat.reduceEqDiff, forall_const, true_implies, false_implies, implies_true, Nat.zero_add, Option.some.injEq, Sum.inr.injEq, Sum.inl.injEq, Prod.mk.injEq, exists_eq_left', exists_eq_left, w_ne0, nI_add, w_lt, w_le, w_eq, w_meq, w_eqm, w_mlt, w_ltm, w_mle, w_lem, w_clamp, w_in, w_31, w_ite0, w_ite1, w_ite01, true_or, or_true, false_or, or_false, Nat.le_refl, Nat.lt_irrefl, S_50 hS, S_51 hS, S_52 hS, S_53 hS, R_50_1 hR, R_50_2 hR, R_50_3 hR, bx_S hS, bx_S1 hS, bx_S2 hS, bx_r hR, bx_r1 hR, bx_r2 hR, hk6, u10, u11, gU_n]
        refine k_flip (n := n) (r := R k) (c := C k) (d := D k) (g := G k) hS hR p0 hn hk (by dsimp only; rw [gU_n (by omega), gU_s]) gU_s (by dsimp only; rw [gU_n (by omega), gU_n (by omega)]; exact u2) (by dsimp only; rw [gU_n (by omega), gU_n (by omega)]; exact u3) (by omega) (by omega) (by omega) ?_
        have hht := gHF_le (F := F) (G := G) (R := R) (n := n) (fun k hk hF => by
          rcases hfx k hk with ⟨z1, z2⟩ | ⟨z1, z2, z3, z4⟩
          · exact absurd hF z1
          · have := (hat k hk).2.2.2.2.2.2.2
            omega) k (by omega)
        have hmax : (if gHF F G R k < R k + G k then nI (R k + G k) else nI (gHF F G R k)) = nI (max (gHF F G R k) (R k + G k)) := by
          by_cases q : gHF F G R k < R k + G k
          · rw [if_pos q, Nat.max_eq_right (by omega)]
          · rw [if_neg q, Nat.max_eq_left (by omega)]
        simp (disch := omega) only [↓n_gb, ↓n_gb0, ↓n_ic, ↓n_icm, ↓n_lc, ↓e_lc, ↓e_null, ↓e_ldI, ↓e_ldL, ↓e_ldA, ↓e_stI, ↓e_stL, ↓e_stA, ↓n_inc, ↓n_incm1, ↓n_incm8, ↓e_iadd, ↓e_isub, ↓e_imul, ↓e_iand, ↓e_ior, ↓e_ixor, ↓n_ishl, ↓n_ishr, ↓e_iushr, ↓n_idiv, ↓e_ineg, ↓e_ladd, ↓e_lsub, ↓e_lmul, ↓e_lor, ↓e_lshl, ↓e_lshr, ↓e_i2l, ↓e_l2i, ↓e_i2b, ↓e_lcmp, ↓e_dup, ↓e_dup2, ↓e_pop, ↓e_ceq, ↓e_cne, ↓e_clt, ↓e_cge, ↓e_cgt, ↓e_cle, ↓n_zeq, ↓n_zne, ↓n_zlt, ↓n_zge, ↓n_zgt, ↓n_zle, ↓e_goto, ↓e_nn, ↓e_retI, ↓e_retL, ↓e_retV, ↓n_retZ, ↓e_retA, ↓e_gfI, ↓e_gfL, ↓e_gfR, ↓e_pfI, ↓n_pfZ, ↓e_pfL, ↓e_pfR, ↓e_iald, ↓e_lald, ↓e_aald, ↓e_alen, ↓e_iast, ↓e_bast, ↓n_zast, ↓e_last, ↓e_aast, ↓e_cV, ↓e_cS, ↓e_gsW, ↓e_gsK, ↓e_mmax, ↓e_mmin, ↓e_mmaxL, ↓e_mminL, gEnt, gPad, gArgs, gGet, gS1, gS2, gCl, gNo, gSp, gCt, n_sw, n_gSw, n_gSw0, Option.toList, List.cons_append, List.nil_append, Value.category, and_true, true_and, and_self, not_false_eq_true, not_true_eq_false, Nat.reduceAdd, Nat.reduceSub, Nat.reduceMul, Nat.reduceLeDiff, Nat.reduceLT, Nat.reduceEqDiff, forall_const, true_implies, false_implies, implies_true, Nat.zero_add, Option.some.injEq, Sum.inr.injEq, Sum.inl.injEq, Prod.mk.injEq, exists_eq_left', exists_eq_left, w_ne0, nI_add, w_lt, w_le, w_eq, w_meq, w_eqm, w_mlt, w_ltm, w_mle, w_lem, w_clamp, w_in, w_31, w_ite0, w_ite1, w_ite01, true_or, or_true, false_or, or_false, Nat.le_refl, Nat.lt_irrefl, S_50 hS, S_51 hS, S_52 hS, S_53 hS, R_50_1 hR, R_50_2 hR, R_50_3 hR, bx_S hS, bx_S1 hS, bx_S2 hS, bx_r hR, bx_r1 hR, bx_r2 hR, gW_n, gU_n, u10, u3, u0, hmax, pk_mul, hk6]
        refine b_X1_arrange_168 hX ?_
        simp (disch := omega) only [B_X1_arrange_168, ↓n_gb, ↓n_gb0, ↓n_ic, ↓n_icm, ↓n_lc, ↓e_lc, ↓e_null, ↓e_ldI, ↓e_ldL, ↓e_ldA, ↓e_stI, ↓e_stL, ↓e_stA, ↓n_inc, ↓n_incm1, ↓n_incm8, ↓e_iadd, ↓e_isub, ↓e_imul, ↓e_iand, ↓e_ior, ↓e_ixor, ↓n_ishl, ↓n_ishr, ↓e_iushr, ↓n_idiv, ↓e_ineg, ↓e_ladd, ↓e_lsub, ↓e_lmul, ↓e_lor, ↓e_lshl, ↓e_lshr, ↓e_i2l, ↓e_l2i, ↓e_i2b, ↓e_lcmp, ↓e_dup, ↓e_dup2, ↓e_pop, ↓e_ceq, ↓e_cne, ↓e_clt, ↓e_cge, ↓e_cgt, ↓e_cle, ↓n_zeq, ↓n_zne, ↓n_zlt, ↓n_zge, ↓n_zgt, ↓n_zle, ↓e_goto, ↓e_nn, ↓e_retI, ↓e_retL, ↓e_retV, ↓n_retZ, ↓e_retA, ↓e_gfI, ↓e_gfL, ↓e_gfR, ↓e_pfI, ↓n_pfZ, ↓e_pfL, ↓e_pfR, ↓e_iald, ↓e_lald, ↓e_aald, ↓e_alen, ↓e_iast, ↓e_bast, ↓n_zast, ↓e_last, ↓e_aast, ↓e_cV, ↓e_cS, ↓e_gsW, ↓e_gsK, ↓e_mmax, ↓e_mmin, ↓e_mmaxL, ↓e_mminL, gEnt, gPad, gArgs, gGet, gS1, gS2, gCl, gNo, gSp, gCt, n_sw, n_gSw, n_gSw0, Option.toList, List.cons_append, List.nil_append, Value.category, and_true, true_and, and_self, not_false_eq_true, not_true_eq_false, Nat.reduceAdd, Nat.reduceSub, Nat.reduceMul, Nat.reduceLeDiff, Nat.reduceLT, Nat.reduceEqDiff, forall_const, true_implies, false_implies, implies_true, Nat.zero_add, Option.some.injEq, Sum.inr.injEq, Sum.inl.injEq, Prod.mk.injEq, exists_eq_left', exists_eq_left, w_ne0, nI_add, w_lt, w_le, w_eq, w_meq, w_eqm, w_mlt, w_ltm, w_mle, w_lem, w_clamp, w_in, w_31, w_ite0, w_ite1, w_ite01, true_or, or_true, false_or, or_false, Nat.le_refl, Nat.lt_irrefl, S_50 hS, S_51 hS, S_52 hS, S_53 hS, R_50_1 hR, R_50_2 hR, R_50_3 hR, bx_S hS, bx_S1 hS, bx_S2 hS, bx_r hR, bx_r1 hR, bx_r2 hR]
        refine hK _ _ ⟨j1, fun a i q => ?_, ?_, ?_, ?_, ?_, fun i hi => ?_, fun j hj hF => ?_, some (.ref (β + (19 + 3 * k))), ?_⟩
        · dsimp only; rw [gW_n (by omega), gU_n (by omega), gU_n (by omega)]; exact j2 a i q
        · dsimp only; rw [gW_n (by omega), gU_n (by omega), gU_n (by omega)]; exact j3
        · dsimp only; rw [gW_n (by omega), gU_n (by omega), gU_n (by omega)]; exact j4
        · dsimp only; rw [gW_n (by omega), gU_n (by omega), gU_n (by omega)]; exact j5
        · dsimp only; rw [gW_n (by omega), gU_n (by omega), gU_n (by omega)]; exact j6
        · dsimp only
          rw [gW_s]
          simp only [gKF, if_pos f1, gPut]
          rw [j7 i hi]
          by_cases q : R k ≤ i ∧ i < R k + G k
          · rw [if_pos q, if_pos q, w_xor]
            have := gKF_room (F := F) (D := D) (G := G) (R := R) (C := C) f1 (fun j hj hF => hov j k hj hk hF f1) (i - R k) (by omega)
            rw [show R k + (i - R k) = i by omega] at this
            rw [gXo this]
          · rw [if_neg q, if_neg q]
        · dsimp only
          by_cases e : j = k
          · subst e
            rw [gW_n (by omega), gU_n (by omega), gU_s, gW_n (by omega), gU_s]
            exact ⟨rfl, rfl⟩
          · rw [gW_n (by omega), gU_n (by omega), gU_n (by omega), gW_n (by omega), gU_n (by omega), gU_n (by omega)]
            exact j8 j (by omega) hF
        · simp only [gMF, gHF, gSF, if_pos f1]
    · rintro μ' _ ⟨j1, j2, j3, j4, j5, j6, j7, j8, y, rfl⟩
      have hR : gPS μ'.2.2 β := by rw [j1]; exact hR2
      have hht := gHF_le (F := F) (G := G) (R := R) (n := n) (fun k hk hF => by
        rcases hfx k hk with ⟨z1, z2⟩ | ⟨z1, z2, z3, z4⟩
        · exact absurd hF z1
        · have := (hat k hk).2.2.2.2.2.2.2
          omega) n (Nat.le_refl _)
      have hsf := gSF_le (F := F) (W := W) (R := R) (n := n) (fun k hk hF => by
        rcases hfx k hk with ⟨z1, z2⟩ | ⟨z1, z2, z3, z4⟩
        · exact absurd hF z1
        · exact ⟨(hat k hk).2.2.2.1, z2⟩) n (Nat.le_refl _)
      have hfl : (gLst (gMF F n) 6).length ≤ 6 := Nat.le_trans (List.length_filter_le _ _) (by simp)
      refine b_X1_arrange_66 hX ?_
      simp (disch := omega) only [B_X1_arrange_66, ↓n_gb, ↓n_gb0, ↓n_ic, ↓n_icm, ↓n_lc, ↓e_lc, ↓e_null, ↓e_ldI, ↓e_ldL, ↓e_ldA, ↓e_stI, ↓e_stL, ↓e_stA, ↓n_inc, ↓n_incm1, ↓n_incm8, ↓e_iadd, ↓e_isub, ↓e_imul, ↓e_iand, ↓e_ior, ↓e_ixor, ↓n_ishl, ↓n_ishr, ↓e_iushr, ↓n_idiv, ↓e_ineg, ↓e_ladd, ↓e_lsub, ↓e_lmul, ↓e_lor, ↓e_lshl, ↓e_lshr, ↓e_i2l, ↓e_l2i, ↓e_i2b, ↓e_lcmp, ↓e_dup, ↓e_dup2, ↓e_pop, ↓e_ceq, ↓e_cne, ↓e_clt, ↓e_cge, ↓e_cgt, ↓e_cle, ↓n_zeq, ↓n_zne, ↓n_zlt, ↓n_zge, ↓n_zgt, ↓n_zle, ↓e_goto, ↓e_nn, ↓e_retI, ↓e_retL, ↓e_retV, ↓n_retZ, ↓e_retA, ↓e_gfI, ↓e_gfL, ↓e_gfR, ↓e_pfI, ↓n_pfZ, ↓e_pfL, ↓e_pfR, ↓e_iald, ↓e_lald, ↓e_aald, ↓e_alen, ↓e_iast, ↓e_bast, ↓n_zast, ↓e_last, ↓e_aast, ↓e_cV, ↓e_cS, ↓e_gsW, ↓e_gsK, ↓e_mmax, ↓e_mmin, ↓e_mmaxL, ↓e_mminL, gEnt, gPad, gArgs, gGet, gS1, gS2, gCl, gNo, gSp, gCt, n_sw, n_gSw, n_gSw0, Option.toList, List.cons_append, List.nil_append, Value.category, and_true, true_and, and_self, not_false_eq_true, not_true_eq_false, Nat.reduceAdd, Nat.reduceSub, Nat.reduceMul, Nat.reduceLeDiff, Nat.reduceLT, Nat.reduceEqDiff, forall_const, true_implies, false_implies, implies_true, Nat.zero_add, Option.some.injEq, Sum.inr.injEq, Sum.inl.injEq, Prod.mk.injEq, exists_eq_left', exists_eq_left, w_ne0, nI_add, w_lt, w_le, w_eq, w_meq, w_eqm, w_mlt, w_ltm, w_mle, w_lem, w_clamp, w_in, w_31, w_ite0, w_ite1, w_ite01, true_or, or_true, false_or, or_false, Nat.le_refl, Nat.lt_irrefl, S_50 hS, S_51 hS, S_52 hS, S_53 hS, R_50_1 hR, R_50_2 hR, R_50_3 hR, bx_S hS, bx_S1 hS, bx_S2 hS, bx_r hR, bx_r1 hR, bx_r2 hR, j3]
      refine b_X1_arrange_174 hX ?_
      simp (disch := omega) only [B_X1_arrange_174, ↓n_gb, ↓n_gb0, ↓n_ic, ↓n_icm, ↓n_lc, ↓e_lc, ↓e_null, ↓e_ldI, ↓e_ldL, ↓e_ldA, ↓e_stI, ↓e_stL, ↓e_stA, ↓n_inc, ↓n_incm1, ↓n_incm8, ↓e_iadd, ↓e_isub, ↓e_imul, ↓e_iand, ↓e_ior, ↓e_ixor, ↓n_ishl, ↓n_ishr, ↓e_iushr, ↓n_idiv, ↓e_ineg, ↓e_ladd, ↓e_lsub, ↓e_lmul, ↓e_lor, ↓e_lshl, ↓e_lshr, ↓e_i2l, ↓e_l2i, ↓e_i2b, ↓e_lcmp, ↓e_dup, ↓e_dup2, ↓e_pop, ↓e_ceq, ↓e_cne, ↓e_clt, ↓e_cge, ↓e_cgt, ↓e_cle, ↓n_zeq, ↓n_zne, ↓n_zlt, ↓n_zge, ↓n_zgt, ↓n_zle, ↓e_goto, ↓e_nn, ↓e_retI, ↓e_retL, ↓e_retV, ↓n_retZ, ↓e_retA, ↓e_gfI, ↓e_gfL, ↓e_gfR, ↓e_pfI, ↓n_pfZ, ↓e_pfL, ↓e_pfR, ↓e_iald, ↓e_lald, ↓e_aald, ↓e_alen, ↓e_iast, ↓e_bast, ↓n_zast, ↓e_last, ↓e_aast, ↓e_cV, ↓e_cS, ↓e_gsW, ↓e_gsK, ↓e_mmax, ↓e_mmin, ↓e_mmaxL, ↓e_mminL, gEnt, gPad, gArgs, gGet, gS1, gS2, gCl, gNo, gSp, gCt, n_sw, n_gSw, n_gSw0, Option.toList, List.cons_append, List.nil_append, Value.category, and_true, true_and, and_self, not_false_eq_true, not_true_eq_false, Nat.reduceAdd, Nat.reduceSub, Nat.reduceMul, Nat.reduceLeDiff, Nat.reduceLT, Nat.reduceEqDiff, forall_const, true_implies, false_implies, implies_true, Nat.zero_add, Option.some.injEq, Sum.inr.injEq, Sum.inl.injEq, Prod.mk.injEq, exists_eq_left', exists_eq_left, w_ne0, nI_add, w_lt, w_le, w_eq, w_meq, w_eqm, w_mlt, w_ltm, w_mle, w_lem, w_clamp, w_in, w_31, w_ite0, w_ite1, w_ite01, true_or, or_true, false_or, or_false, Nat.le_refl, Nat.lt_irrefl, S_50 hS, S_51 hS, S_52 hS, S_53 hS, R_50_1 hR, R_50_2 hR, R_50_3 hR, bx_S hS, bx_S1 hS, bx_S2 hS, bx_r hR, bx_r1 hR, bx_r2 hR]
      rw [show h + 9 = (h + 6 - (gLst (gMF F n) 6).length) + (gLst (gMF F n) 6).length + 3 by omega]
      refine k_layFree (n := n) (w := w) (W := W) (D := D) (G := G) hS hn hw8 (gLst (gMF F n) 6).length (gMF F n) rfl (gMF_lt F n hn) (fun k q => ?_) (h + 6 - (gLst (gMF F n) 6).length) (gHF F G R n) (gSF F W R n) (gKF F D G R C n) (fun k => if F k then R k else 0) (fun k => if F k then C k else 0) (2147483647, 2147483647, (fun k => if F k then R k else 0), (fun k => if F k then C k else 0)) μ' _ hR ⟨?_, j3, j4, fun k hk => ?_⟩ ⟨j5, j6, show (2147483647 : Nat) < 2147483648 by omega, show (2147483647 : Nat) < 2147483648 by omega, fun q => absurd rfl q⟩ j7 (fun i hi => gKF_0 n hi) (by omega) (by omega) (fun k hk q => ?_) (fun μ2 hL => ?_)
      · rw [gMF_bit] at q
        exact (of_decide_eq_true q).1
      · rw [j1]; exact gU_s
      · rw [j2 _ _ (by omega), j2 _ _ (by omega), j2 _ _ (by omega)]
        exact hat k hk
      · rw [gMF_bit] at q
        have hF : F k := Classical.not_not.mp (fun z => (of_decide_eq_false q) ⟨hk, z⟩)
        rw [if_pos hF, if_pos hF]
        exact j8 k hk hF
      obtain ⟨z1, z2, z3, z4, z5⟩ := hL
      have hR : gPS μ2.2.2 β := by rw [z1]; exact hR
      simp (disch := omega) only [↓n_gb, ↓n_gb0, ↓n_ic, ↓n_icm, ↓n_lc, ↓e_lc, ↓e_null, ↓e_ldI, ↓e_ldL, ↓e_ldA, ↓e_stI, ↓e_stL, ↓e_stA, ↓n_inc, ↓n_incm1, ↓n_incm8, ↓e_iadd, ↓e_isub, ↓e_imul, ↓e_iand, ↓e_ior, ↓e_ixor, ↓n_ishl, ↓n_ishr, ↓e_iushr, ↓n_idiv, ↓e_ineg, ↓e_ladd, ↓e_lsub, ↓e_lmul, ↓e_lor, ↓e_lshl, ↓e_lshr, ↓e_i2l, ↓e_l2i, ↓e_i2b, ↓e_lcmp, ↓e_dup, ↓e_dup2, ↓e_pop, ↓e_ceq, ↓e_cne, ↓e_clt, ↓e_cge, ↓e_cgt, ↓e_cle, ↓n_zeq, ↓n_zne, ↓n_zlt, ↓n_zge, ↓n_zgt, ↓n_zle, ↓e_goto, ↓e_nn, ↓e_retI, ↓e_retL, ↓e_retV, ↓n_retZ, ↓e_retA, ↓e_gfI, ↓e_gfL, ↓e_gfR, ↓e_pfI, ↓n_pfZ, ↓e_pfL, ↓e_pfR, ↓e_iald, ↓e_lald, ↓e_aald, ↓e_alen, ↓e_iast, ↓e_bast, ↓n_zast, ↓e_last, ↓e_aast, ↓e_cV, ↓e_cS, ↓e_gsW, ↓e_gsK, ↓e_mmax, ↓e_mmin, ↓e_mmaxL, ↓e_mminL, gEnt, gPad, gArgs, gGet, gS1, gS2, gCl, gNo, gSp, gCt, n_sw, n_gSw, n_gSw0, Option.toList, List.cons_append, List.nil_append, Value.category, and_true, true_and, and_self, not_false_eq_true, not_true_eq_false, Nat.reduceAdd, Nat.reduceSub, Nat.reduceMul, Nat.reduceLeDiff, Nat.reduceLT, Nat.reduceEqDiff, forall_const, true_implies, false_implies, implies_true, Nat.zero_add, Option.some.injEq, Sum.inr.injEq, Sum.inl.injEq, Prod.mk.injEq, exists_eq_left', exists_eq_left, w_ne0, nI_add, w_lt, w_le, w_eq, w_meq, w_eqm, w_mlt, w_ltm, w_mle, w_lem, w_clamp, w_in, w_31, w_ite0, w_ite1, w_ite01, true_or, or_true, false_or, or_false, Nat.le_refl, Nat.lt_irrefl, S_50 hS, S_51 hS, S_52 hS, S_53 hS, R_50_1 hR, R_50_2 hR, R_50_3 hR, bx_S hS, bx_S1 hS, bx_S2 hS, bx_r hR, bx_r1 hR, bx_r2 hR, z5.1]
      refine hP μ2 ?_ ?_ (fun a i q => ?_) z5
      · rw [z1, j1]
      · rw [z1, j1]
      · rw [z2 a i (by omega)]
        exact j2 a i q
  · dsimp only
    rw [gU_n (by omega), gU_n (by omega), gU_n (by omega), gU_n (by omega)]
  · dsimp only
    rw [gU_n (by omega), gU_n (by omega), gU_n (by omega), gU_s]
  · dsimp only
    rw [gU_n (by omega), gU_n (by omega), gU_s]
  · dsimp only
    rw [gU_n (by omega), gU_s]
  · exact gU_s
