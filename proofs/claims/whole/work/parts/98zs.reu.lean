/-! THE TEXT, the reference: a new wall -/
def mBx (β k : Nat) (μ : gM) : Prop := μ.1 (β + 150) k = nI 0 ∧ μ.1 (β + 151) k = gm1 ∧ μ.1 (β + 147) k = nI 0 ∧ μ.1 (β + 146) k = gm1 ∧ μ.2.1 (β + 145) k = lN 0 ∧ μ.1 (β + 159) k = nI 0 ∧ ∀ u, u < 400 → μ.1 (β + 149) (400 * k + u) = gm1 ∧ μ.2.1 (β + 148) (400 * k + u) = lN 0
def mRs (β : Nat) (μ μ' : gM) : Prop := (∀ a i, ¬ (a = β + 110 ∧ (i = 18 ∨ i = 65 ∨ i = 80)) → a ≠ β + 146 → a ≠ β + 147 → a ≠ β + 149 → a ≠ β + 150 → a ≠ β + 151 → a ≠ β + 159 → μ'.1 a i = μ.1 a i) ∧ (∀ a i, a ≠ β + 145 → a ≠ β + 148 → μ'.2.1 a i = μ.2.1 a i) ∧ μ'.2.2 = μ.2.2
set_option maxHeartbeats 4000000 in
theorem readReset {S : gSh} {C : gCS} {β sd : Nat} {u1 u2 : Option Value} {μ : gM} {P : gP} {X : Nat → gK} (hX : gClo K_X11_read S C P X) (hS : gLS S β) (hR : gPS μ.2.2 β) (hsd : sd < 2) (h19 : μ.1 (β + 110) 19 = nI sd)
    (hP : ∀ μ', mRs β μ μ' → μ'.1 (β + 110) 18 = nI sd → μ'.1 (β + 110) 65 = nI 0 → μ'.1 (β + 110) 80 = nI 0 → (∀ k, k < 6 → mBx β k μ') → P (some (.int (nI 0))) μ') : X 186 μ [some (.ref (β + 110)), u1, u2] [] := by
  refine b_X11_read_186 hX ?_
  simp (disch := omega) only [B_X11_read_186, ↓n_gb, ↓n_gb0, ↓n_ic, ↓n_icm, ↓n_lc, ↓e_lc, ↓e_null, ↓e_ldI, ↓e_ldL, ↓e_ldA, ↓e_stI, ↓e_stL, ↓e_stA, ↓n_inc, ↓n_incm1, ↓n_incm8, ↓e_iadd, ↓e_isub, ↓e_imul, ↓e_iand, ↓e_ior, ↓e_ixor, ↓n_ishl, ↓n_ishr, ↓e_iushr, ↓n_idiv, ↓e_ineg, ↓e_ladd, ↓e_lsub, ↓e_lmul, ↓e_lor, ↓e_lshl, ↓e_lshr, ↓e_i2l, ↓e_l2i, ↓e_i2b, ↓e_lcmp, ↓e_dup, ↓e_dup2, ↓e_pop, ↓e_ceq, ↓e_cne, ↓e_clt, ↓e_cge, ↓e_cgt, ↓e_cle, ↓n_zeq, ↓n_zne, ↓n_zlt, ↓n_zge, ↓n_zgt, ↓n_zle, ↓e_goto, ↓e_nn, ↓e_retI, ↓e_retL, ↓e_retV, ↓n_retZ, ↓e_retA, ↓e_gfI, ↓e_gfL, ↓e_gfR, ↓e_pfI, ↓n_pfZ, ↓e_pfL, ↓e_pfR, ↓e_iald, ↓e_lald, ↓e_aald, ↓e_alen, ↓e_iast, ↓e_bast, ↓n_zast, ↓e_last, ↓e_aast, ↓e_cV, ↓e_cS, ↓e_gsW, ↓e_gsK, ↓e_mmax, ↓e_mmin, ↓e_mmaxL, ↓e_mminL, gEnt, gPad, gArgs, gGet, gS1, gS2, gCl, gNo, gSp, gCt, n_sw, n_gSw, n_gSw0, Option.toList, List.cons_append, List.nil_append, Value.category, and_true, true_and, and_self, not_false_eq_true, not_true_eq_false, Nat.reduceAdd, Nat.reduceSub, Nat.reduceMul, Nat.reduceLeDiff, Nat.reduceLT, Nat.reduceEqDiff, forall_const, true_implies, false_implies, implies_true, Nat.zero_add, Option.some.injEq, Sum.inr.injEq, Sum.inl.injEq, Prod.mk.injEq, exists_eq_left', exists_eq_left, w_ne0, nI_add, w_lt, w_le, w_eq, w_meq, w_eqm, w_mlt, w_ltm, w_mle, w_lem, w_clamp, w_in, w_31, w_ite0, w_ite1, w_ite01, true_or, or_true, false_or, or_false, Nat.le_refl, Nat.lt_irrefl, S_110 hS, S_111 hS, S_112 hS, S_118 hS, S_119 hS, S_145 hS, S_146 hS, S_147 hS, S_148 hS, S_149 hS, S_150 hS, S_151 hS, S_159 hS, R_110_1 hR, R_110_3 hR, R_110_20 hR, R_110_21 hR, R_110_58 hR, R_110_59 hR, R_110_60 hR, R_110_61 hR, R_110_62 hR, R_110_63 hR, R_110_64 hR, R_110_77 hR, h19]
  refine gLoop (I := fun k μ' lc => mRs β μ μ' ∧ μ'.1 (β + 110) 18 = nI sd ∧ (∀ k', k' < k → mBx β k' μ') ∧ ∃ y, lc = [some (.ref (β + 110)), some (.int (nI k)), y]) 6 ?_ ?_ 0 (by omega) _ _ ⟨⟨fun a i x _ _ _ _ _ _ => by dsimp only; rw [gU_n (by omega)], fun _ _ _ _ => rfl, rfl⟩, by dsimp only; rw [gU_s], fun k' hk' => by omega, u2, rfl⟩
  · rintro k μ1 _ hk ⟨f1, f2, f3, y, rfl⟩ hkk
    have hR1 : gPS μ1.2.2 β := by rw [f1.2.2]; exact hR
    have hR := hR1
    have g1 : ¬ 6 ≤ k := by omega
    refine b_X11_read_196 hX ?_
    simp (disch := omega) only [B_X11_read_196, ↓n_gb, ↓n_gb0, ↓n_ic, ↓n_icm, ↓n_lc, ↓e_lc, ↓e_null, ↓e_ldI, ↓e_ldL, ↓e_ldA, ↓e_stI, ↓e_stL, ↓e_stA, ↓n_inc, ↓n_incm1, ↓n_incm8, ↓e_iadd, ↓e_isub, ↓e_imul, ↓e_iand, ↓e_ior, ↓e_ixor, ↓n_ishl, ↓n_ishr, ↓e_iushr, ↓n_idiv, ↓e_ineg, ↓e_ladd, ↓e_lsub, ↓e_lmul, ↓e_lor, ↓e_lshl, ↓e_lshr, ↓e_i2l, ↓e_l2i, ↓e_i2b, ↓e_lcmp, ↓e_dup, ↓e_dup2, ↓e_pop, ↓e_ceq, ↓e_cne, ↓e_clt, ↓e_cge, ↓e_cgt, ↓e_cle, ↓n_zeq, ↓n_zne, ↓n_zlt, ↓n_zge, ↓n_zgt, ↓n_zle, ↓e_goto, ↓e_nn, ↓e_retI, ↓e_retL, ↓e_retV, ↓n_retZ, ↓e_retA, ↓e_gfI, ↓e_gfL, ↓e_gfR, ↓e_pfI, ↓n_pfZ, ↓e_pfL, ↓e_pfR, ↓e_iald, ↓e_lald, ↓e_aald, ↓e_alen, ↓e_iast, ↓e_bast, ↓n_zast, ↓e_last, ↓e_aast, ↓e_cV, ↓e_cS, ↓e_gsW, ↓e_gsK, ↓e_mmax, ↓e_mmin, ↓e_mmaxL, ↓e_mminL, gEnt, gPad, gArgs, gGet, gS1, gS2, gCl, gNo, gSp, gCt, n_sw, n_gSw, n_gSw0, Option.toList, List.cons_append, List.nil_append, Value.category, and_true, true_and, and_self, not_false_eq_true, not_true_eq_false, Nat.reduceAdd, Nat.reduceSub, Nat.reduceMul, Nat.reduceLeDiff, Nat.reduceLT, Nat.reduceEqDiff, forall_const, true_implies, false_implies, implies_true, Nat.zero_add, Option.some.injEq, Sum.inr.injEq, Sum.inl.injEq, Prod.mk.injEq, exists_eq_left', exists_eq_left, w_ne0, nI_add, w_lt, w_le, w_eq, w_meq, w_eqm, w_mlt, w_ltm, w_mle, w_lem, w_clamp, w_in, w_31, w_ite0, w_ite1, w_ite01, true_or, or_true, false_or, or_false, Nat.le_refl, Nat.lt_irrefl, S_110 hS, S_111 hS, S_112 hS, S_118 hS, S_119 hS, S_145 hS, S_146 hS, S_147 hS, S_148 hS, S_149 hS, S_150 hS, S_151 hS, S_159 hS, R_110_1 hR, R_110_3 hR, R_110_20 hR, R_110_21 hR, R_110_58 hR, R_110_59 hR, R_110_60 hR, R_110_61 hR, R_110_62 hR, R_110_63 hR, R_110_64 hR, R_110_77 hR, g1, hk]
    refine gLoop (I := fun u μ' lc => mRs β μ1 μ' ∧ μ'.1 (β + 110) 18 = nI sd ∧ (∀ k', k' < k → mBx β k' μ') ∧ (μ'.1 (β + 150) k = nI 0 ∧ μ'.1 (β + 151) k = gm1 ∧ μ'.1 (β + 147) k = nI 0 ∧ μ'.1 (β + 146) k = gm1 ∧ μ'.2.1 (β + 145) k = lN 0 ∧ μ'.1 (β + 159) k = nI 0 ∧ ∀ u', u' < u → μ'.1 (β + 149) (400 * k + u') = gm1 ∧ μ'.2.1 (β + 148) (400 * k + u') = lN 0) ∧ lc = [some (.ref (β + 110)), some (.int (nI k)), some (.int (nI u))]) 400 ?_ ?_ 0 (by omega) _ _ ⟨⟨fun a i x x1 x2 x3 x4 x5 x6 => ?_, fun a i x1 x2 => ?_, rfl⟩, ?_, fun k' hk' => ?_, ⟨?_, ?_, ?_, ?_, ?_, ?_, fun u' hu' => by omega⟩, rfl⟩
    · rintro u μ2 _ hu ⟨e1, e2, e3, ⟨e4, e5, e6, e7, e8, e9, e10⟩, rfl⟩ hkk2
      have hR2 : gPS μ2.2.2 β := by rw [e1.2.2]; exact hR1
      have hR := hR2
      have g2 : ¬ 400 ≤ u := by omega
      have g3 : 400 * k + u < 2400 := by omega
      refine b_X11_read_246 hX ?_
      simp (disch := omega) only [B_X11_read_246, ↓n_gb, ↓n_gb0, ↓n_ic, ↓n_icm, ↓n_lc, ↓e_lc, ↓e_null, ↓e_ldI, ↓e_ldL, ↓e_ldA, ↓e_stI, ↓e_stL, ↓e_stA, ↓n_inc, ↓n_incm1, ↓n_incm8, ↓e_iadd, ↓e_isub, ↓e_imul, ↓e_iand, ↓e_ior, ↓e_ixor, ↓n_ishl, ↓n_ishr, ↓e_iushr, ↓n_idiv, ↓e_ineg, ↓e_ladd, ↓e_lsub, ↓e_lmul, ↓e_lor, ↓e_lshl, ↓e_lshr, ↓e_i2l, ↓e_l2i, ↓e_i2b, ↓e_lcmp, ↓e_dup, ↓e_dup2, ↓e_pop, ↓e_ceq, ↓e_cne, ↓e_clt, ↓e_cge, ↓e_cgt, ↓e_cle, ↓n_zeq, ↓n_zne, ↓n_zlt, ↓n_zge, ↓n_zgt, ↓n_zle, ↓e_goto, ↓e_nn, ↓e_retI, ↓e_retL, ↓e_retV, ↓n_retZ, ↓e_retA, ↓e_gfI, ↓e_gfL, ↓e_gfR, ↓e_pfI, ↓n_pfZ, ↓e_pfL, ↓e_pfR, ↓e_iald, ↓e_lald, ↓e_aald, ↓e_alen, ↓e_iast, ↓e_bast, ↓n_zast, ↓e_last, ↓e_aast, ↓e_cV, ↓e_cS, ↓e_gsW, ↓e_gsK, ↓e_mmax, ↓e_mmin, ↓e_mmaxL, ↓e_mminL, gEnt, gPad, gArgs, gGet, gS1, gS2, gCl, gNo, gSp, gCt, n_sw, n_gSw, n_gSw0, Option.toList, List.cons_append, List.nil_append, Value.category, and_true, true_and, and_self, not_false_eq_true, not_true_eq_false, Nat.reduceAdd, Nat.reduceSub, Nat.reduceMul, Nat.reduceLeDiff, Nat.reduceLT, Nat.reduceEqDiff, forall_const, true_implies, false_implies, implies_true, Nat.zero_add, Option.some.injEq, Sum.inr.injEq, Sum.inl.injEq, Prod.mk.injEq, exists_eq_left', exists_eq_left, w_ne0, nI_add, w_lt, w_le, w_eq, w_meq, w_eqm, w_mlt, w_ltm, w_mle, w_lem, w_clamp, w_in, w_31, w_ite0, w_ite1, w_ite01, true_or, or_true, false_or, or_false, Nat.le_refl, Nat.lt_irrefl, S_110 hS, S_111 hS, S_112 hS, S_118 hS, S_119 hS, S_145 hS, S_146 hS, S_147 hS, S_148 hS, S_149 hS, S_150 hS, S_151 hS, S_159 hS, R_110_1 hR, R_110_3 hR, R_110_20 hR, R_110_21 hR, R_110_58 hR, R_110_59 hR, R_110_60 hR, R_110_61 hR, R_110_62 hR, R_110_63 hR, R_110_64 hR, R_110_77 hR, g2, g3, pk_mul]
      refine hkk2 _ _ ⟨⟨fun a i x x1 x2 x3 x4 x5 x6 => ?_, fun a i x1 x2 => ?_, e1.2.2⟩, ?_, fun k' hk' => ?_, ⟨?_, ?_, ?_, ?_, ?_, ?_, fun u' hu' => ?_⟩, rfl⟩
      · dsimp only; rw [gU_n (by omega)]; exact e1.1 a i x x1 x2 x3 x4 x5 x6
      · dsimp only; rw [gU_n (by omega)]; exact e1.2.1 a i x1 x2
      · dsimp only; rw [gU_n (by omega)]; exact e2
      · obtain ⟨b1, b2, b3, b4, b5, b6, b7⟩ := e3 k' hk'
        refine ⟨?_, ?_, ?_, ?_, ?_, ?_, fun v hv => ?_⟩
        · dsimp only; rw [gU_n (by omega)]; exact b1
        · dsimp only; rw [gU_n (by omega)]; exact b2
        · dsimp only; rw [gU_n (by omega)]; exact b3
        · dsimp only; rw [gU_n (by omega)]; exact b4
        · dsimp only; rw [gU_n (by omega)]; exact b5
        · dsimp only; rw [gU_n (by omega)]; exact b6
        · dsimp only; rw [gU_n (by omega), gU_n (by omega)]; exact b7 v hv
      · dsimp only; rw [gU_n (by omega)]; exact e4
      · dsimp only; rw [gU_n (by omega)]; exact e5
      · dsimp only; rw [gU_n (by omega)]; exact e6
      · dsimp only; rw [gU_n (by omega)]; exact e7
      · dsimp only; rw [gU_n (by omega)]; exact e8
      · dsimp only; rw [gU_n (by omega)]; exact e9
      · dsimp only
        by_cases e : u' = u
        · rw [e, gU_s, gU_s]; exact ⟨rfl, rfl⟩
        · rw [gU_n (by omega), gU_n (by omega)]; exact e10 u' (by omega)
    · rintro μ2 _ ⟨e1, e2, e3, e4, rfl⟩
      have hR2 : gPS μ2.2.2 β := by rw [e1.2.2]; exact hR1
      have hR := hR2
      refine b_X11_read_246 hX ?_
      simp (disch := omega) only [B_X11_read_246, ↓n_gb, ↓n_gb0, ↓n_ic, ↓n_icm, ↓n_lc, ↓e_lc, ↓e_null, ↓e_ldI, ↓e_ldL, ↓e_ldA, ↓e_stI, ↓e_stL, ↓e_stA, ↓n_inc, ↓n_incm1, ↓n_incm8, ↓e_iadd, ↓e_isub, ↓e_imul, ↓e_iand, ↓e_ior, ↓e_ixor, ↓n_ishl, ↓n_ishr, ↓e_iushr, ↓n_idiv, ↓e_ineg, ↓e_ladd, ↓e_lsub, ↓e_lmul, ↓e_lor, ↓e_lshl, ↓e_lshr, ↓e_i2l, ↓e_l2i, ↓e_i2b, ↓e_lcmp, ↓e_dup, ↓e_dup2, ↓e_pop, ↓e_ceq, ↓e_cne, ↓e_clt, ↓e_cge, ↓e_cgt, ↓e_cle, ↓n_zeq, ↓n_zne, ↓n_zlt, ↓n_zge, ↓n_zgt, ↓n_zle, ↓e_goto, ↓e_nn, ↓e_retI, ↓e_retL, ↓e_retV, ↓n_retZ, ↓e_retA, ↓e_gfI, ↓e_gfL, ↓e_gfR, ↓e_pfI, ↓n_pfZ, ↓e_pfL, ↓e_pfR, ↓e_iald, ↓e_lald, ↓e_aald, ↓e_alen, ↓e_iast, ↓e_bast, ↓n_zast, ↓e_last, ↓e_aast, ↓e_cV, ↓e_cS, ↓e_gsW, ↓e_gsK, ↓e_mmax, ↓e_mmin, ↓e_mmaxL, ↓e_mminL, gEnt, gPad, gArgs, gGet, gS1, gS2, gCl, gNo, gSp, gCt, n_sw, n_gSw, n_gSw0, Option.toList, List.cons_append, List.nil_append, Value.category, and_true, true_and, and_self, not_false_eq_true, not_true_eq_false, Nat.reduceAdd, Nat.reduceSub, Nat.reduceMul, Nat.reduceLeDiff, Nat.reduceLT, Nat.reduceEqDiff, forall_const, true_implies, false_implies, implies_true, Nat.zero_add, Option.some.injEq, Sum.inr.injEq, Sum.inl.injEq, Prod.mk.injEq, exists_eq_left', exists_eq_left, w_ne0, nI_add, w_lt, w_le, w_eq, w_meq, w_eqm, w_mlt, w_ltm, w_mle, w_lem, w_clamp, w_in, w_31, w_ite0, w_ite1, w_ite01, true_or, or_true, false_or, or_false, Nat.le_refl, Nat.lt_irrefl, S_110 hS, S_111 hS, S_112 hS, S_118 hS, S_119 hS, S_145 hS, S_146 hS, S_147 hS, S_148 hS, S_149 hS, S_150 hS, S_151 hS, S_159 hS, R_110_1 hR, R_110_3 hR, R_110_20 hR, R_110_21 hR, R_110_58 hR, R_110_59 hR, R_110_60 hR, R_110_61 hR, R_110_62 hR, R_110_63 hR, R_110_64 hR, R_110_77 hR]
      refine b_X11_read_285 hX ?_
      simp (disch := omega) only [B_X11_read_285, ↓n_gb, ↓n_gb0, ↓n_ic, ↓n_icm, ↓n_lc, ↓e_lc, ↓e_null, ↓e_ldI, ↓e_ldL, ↓e_ldA, ↓e_stI, ↓e_stL, ↓e_stA, ↓n_inc, ↓n_incm1, ↓n_incm8, ↓e_iadd, ↓e_isub, ↓e_imul, ↓e_iand, ↓e_ior, ↓e_ixor, ↓n_ishl, ↓n_ishr, ↓e_iushr, ↓n_idiv, ↓e_ineg, ↓e_ladd, ↓e_lsub, ↓e_lmul, ↓e_lor, ↓e_lshl, ↓e_lshr, ↓e_i2l, ↓e_l2i, ↓e_i2b, ↓e_lcmp, ↓e_dup, ↓e_dup2, ↓e_pop, ↓e_ceq, ↓e_cne, ↓e_clt, ↓e_cge, ↓e_cgt, ↓e_cle, ↓n_zeq, ↓n_zne, ↓n_zlt, ↓n_zge, ↓n_zgt, ↓n_zle, ↓e_goto, ↓e_nn, ↓e_retI, ↓e_retL, ↓e_retV, ↓n_retZ, ↓e_retA, ↓e_gfI, ↓e_gfL, ↓e_gfR, ↓e_pfI, ↓n_pfZ, ↓e_pfL, ↓e_pfR, ↓e_iald, ↓e_lald, ↓e_aald, ↓e_alen, ↓e_iast, ↓e_bast, ↓n_zast, ↓e_last, ↓e_aast, ↓e_cV, ↓e_cS, ↓e_gsW, ↓e_gsK, ↓e_mmax, ↓e_mmin, ↓e_mmaxL, ↓e_mminL, gEnt, gPad, gArgs, gGet, gS1, gS2, gCl, gNo, gSp, gCt, n_sw, n_gSw, n_gSw0, Option.toList, List.cons_append, List.nil_append, Value.category, and_true, true_and, and_self, not_false_eq_true, not_true_eq_false, Nat.reduceAdd, Nat.reduceSub, Nat.reduceMul, Nat.reduceLeDiff, Nat.reduceLT, Nat.reduceEqDiff, forall_const, true_implies, false_implies, implies_true, Nat.zero_add, Option.some.injEq, Sum.inr.injEq, Sum.inl.injEq, Prod.mk.injEq, exists_eq_left', exists_eq_left, w_ne0, nI_add, w_lt, w_le, w_eq, w_meq, w_eqm, w_mlt, w_ltm, w_mle, w_lem, w_clamp, w_in, w_31, w_ite0, w_ite1, w_ite01, true_or, or_true, false_or, or_false, Nat.le_refl, Nat.lt_irrefl, S_110 hS, S_111 hS, S_112 hS, S_118 hS, S_119 hS, S_145 hS, S_146 hS, S_147 hS, S_148 hS, S_149 hS, S_150 hS, S_151 hS, S_159 hS, R_110_1 hR, R_110_3 hR, R_110_20 hR, R_110_21 hR, R_110_58 hR, R_110_59 hR, R_110_60 hR, R_110_61 hR, R_110_62 hR, R_110_63 hR, R_110_64 hR, R_110_77 hR]
      refine hkk _ _ ⟨⟨fun a i x x1 x2 x3 x4 x5 x6 => (e1.1 a i x x1 x2 x3 x4 x5 x6).trans (f1.1 a i x x1 x2 x3 x4 x5 x6), fun a i x1 x2 => (e1.2.1 a i x1 x2).trans (f1.2.1 a i x1 x2), e1.2.2.trans f1.2.2⟩, e2, fun k' hk' => ?_, _, rfl⟩
      by_cases e : k' = k
      · rw [e]; exact e4
      · exact e3 k' (by omega)
    · dsimp only; simp (disch := omega) only [gU_n]
    · dsimp only; simp (disch := omega) only [gU_n]
    · dsimp only; simp (disch := omega) only [gU_n]; exact f2
    · obtain ⟨b1, b2, b3, b4, b5, b6, b7⟩ := f3 k' hk'
      refine ⟨?_, ?_, ?_, ?_, ?_, ?_, fun v hv => ?_⟩
      · dsimp only; simp (disch := omega) only [gU_n]; exact b1
      · dsimp only; simp (disch := omega) only [gU_n]; exact b2
      · dsimp only; simp (disch := omega) only [gU_n]; exact b3
      · dsimp only; simp (disch := omega) only [gU_n]; exact b4
      · dsimp only; simp (disch := omega) only [gU_n]; exact b5
      · dsimp only; simp (disch := omega) only [gU_n]; exact b6
      · dsimp only; simp (disch := omega) only [gU_n]; exact b7 v hv
    · dsimp only; simp (disch := omega) only [gU_n, gU_s]
    · dsimp only; simp (disch := omega) only [gU_n, gU_s]
    · dsimp only; simp (disch := omega) only [gU_n, gU_s]
    · dsimp only; simp (disch := omega) only [gU_n, gU_s]
    · dsimp only; simp (disch := omega) only [gU_n, gU_s]
    · dsimp only; simp (disch := omega) only [gU_n, gU_s]
  · rintro μ1 _ ⟨f1, f2, f3, y, rfl⟩
    have hR1 : gPS μ1.2.2 β := by rw [f1.2.2]; exact hR
    have hR := hR1
    refine b_X11_read_196 hX ?_
    simp (disch := omega) only [B_X11_read_196, ↓n_gb, ↓n_gb0, ↓n_ic, ↓n_icm, ↓n_lc, ↓e_lc, ↓e_null, ↓e_ldI, ↓e_ldL, ↓e_ldA, ↓e_stI, ↓e_stL, ↓e_stA, ↓n_inc, ↓n_incm1, ↓n_incm8, ↓e_iadd, ↓e_isub, ↓e_imul, ↓e_iand, ↓e_ior, ↓e_ixor, ↓n_ishl, ↓n_ishr, ↓e_iushr, ↓n_idiv, ↓e_ineg, ↓e_ladd, ↓e_lsub, ↓e_lmul, ↓e_lor, ↓e_lshl, ↓e_lshr, ↓e_i2l, ↓e_l2i, ↓e_i2b, ↓e_lcmp, ↓e_dup, ↓e_dup2, ↓e_pop, ↓e_ceq, ↓e_cne, ↓e_clt, ↓e_cge, ↓e_cgt, ↓e_cle, ↓n_zeq, ↓n_zne, ↓n_zlt, ↓n_zge, ↓n_zgt, ↓n_zle, ↓e_goto, ↓e_nn, ↓e_retI, ↓e_retL, ↓e_retV, ↓n_retZ, ↓e_retA, ↓e_gfI, ↓e_gfL, ↓e_gfR, ↓e_pfI, ↓n_pfZ, ↓e_pfL, ↓e_pfR, ↓e_iald, ↓e_lald, ↓e_aald, ↓e_alen, ↓e_iast, ↓e_bast, ↓n_zast, ↓e_last, ↓e_aast, ↓e_cV, ↓e_cS, ↓e_gsW, ↓e_gsK, ↓e_mmax, ↓e_mmin, ↓e_mmaxL, ↓e_mminL, gEnt, gPad, gArgs, gGet, gS1, gS2, gCl, gNo, gSp, gCt, n_sw, n_gSw, n_gSw0, Option.toList, List.cons_append, List.nil_append, Value.category, and_true, true_and, and_self, not_false_eq_true, not_true_eq_false, Nat.reduceAdd, Nat.reduceSub, Nat.reduceMul, Nat.reduceLeDiff, Nat.reduceLT, Nat.reduceEqDiff, forall_const, true_implies, false_implies, implies_true, Nat.zero_add, Option.some.injEq, Sum.inr.injEq, Sum.inl.injEq, Prod.mk.injEq, exists_eq_left', exists_eq_left, w_ne0, nI_add, w_lt, w_le, w_eq, w_meq, w_eqm, w_mlt, w_ltm, w_mle, w_lem, w_clamp, w_in, w_31, w_ite0, w_ite1, w_ite01, true_or, or_true, false_or, or_false, Nat.le_refl, Nat.lt_irrefl, S_110 hS, S_111 hS, S_112 hS, S_118 hS, S_119 hS, S_145 hS, S_146 hS, S_147 hS, S_148 hS, S_149 hS, S_150 hS, S_151 hS, S_159 hS, R_110_1 hR, R_110_3 hR, R_110_20 hR, R_110_21 hR, R_110_58 hR, R_110_59 hR, R_110_60 hR, R_110_61 hR, R_110_62 hR, R_110_63 hR, R_110_64 hR, R_110_77 hR]
    refine b_X11_read_291 hX ?_
    simp (disch := omega) only [B_X11_read_291, ↓n_gb, ↓n_gb0, ↓n_ic, ↓n_icm, ↓n_lc, ↓e_lc, ↓e_null, ↓e_ldI, ↓e_ldL, ↓e_ldA, ↓e_stI, ↓e_stL, ↓e_stA, ↓n_inc, ↓n_incm1, ↓n_incm8, ↓e_iadd, ↓e_isub, ↓e_imul, ↓e_iand, ↓e_ior, ↓e_ixor, ↓n_ishl, ↓n_ishr, ↓e_iushr, ↓n_idiv, ↓e_ineg, ↓e_ladd, ↓e_lsub, ↓e_lmul, ↓e_lor, ↓e_lshl, ↓e_lshr, ↓e_i2l, ↓e_l2i, ↓e_i2b, ↓e_lcmp, ↓e_dup, ↓e_dup2, ↓e_pop, ↓e_ceq, ↓e_cne, ↓e_clt, ↓e_cge, ↓e_cgt, ↓e_cle, ↓n_zeq, ↓n_zne, ↓n_zlt, ↓n_zge, ↓n_zgt, ↓n_zle, ↓e_goto, ↓e_nn, ↓e_retI, ↓e_retL, ↓e_retV, ↓n_retZ, ↓e_retA, ↓e_gfI, ↓e_gfL, ↓e_gfR, ↓e_pfI, ↓n_pfZ, ↓e_pfL, ↓e_pfR, ↓e_iald, ↓e_lald, ↓e_aald, ↓e_alen, ↓e_iast, ↓e_bast, ↓n_zast, ↓e_last, ↓e_aast, ↓e_cV, ↓e_cS, ↓e_gsW, ↓e_gsK, ↓e_mmax, ↓e_mmin, ↓e_mmaxL, ↓e_mminL, gEnt, gPad, gArgs, gGet, gS1, gS2, gCl, gNo, gSp, gCt, n_sw, n_gSw, n_gSw0, Option.toList, List.cons_append, List.nil_append, Value.category, and_true, true_and, and_self, not_false_eq_true, not_true_eq_false, Nat.reduceAdd, Nat.reduceSub, Nat.reduceMul, Nat.reduceLeDiff, Nat.reduceLT, Nat.reduceEqDiff, forall_const, true_implies, false_implies, implies_true, Nat.zero_add, Option.some.injEq, Sum.inr.injEq, Sum.inl.injEq, Prod.mk.injEq, exists_eq_left', exists_eq_left, w_ne0, nI_add, w_lt, w_le, w_eq, w_meq, w_eqm, w_mlt, w_ltm, w_mle, w_lem, w_clamp, w_in, w_31, w_ite0, w_ite1, w_ite01, true_or, or_true, false_or, or_false, Nat.le_refl, Nat.lt_irrefl, S_110 hS, S_111 hS, S_112 hS, S_118 hS, S_119 hS, S_145 hS, S_146 hS, S_147 hS, S_148 hS, S_149 hS, S_150 hS, S_151 hS, S_159 hS, R_110_1 hR, R_110_3 hR, R_110_20 hR, R_110_21 hR, R_110_58 hR, R_110_59 hR, R_110_60 hR, R_110_61 hR, R_110_62 hR, R_110_63 hR, R_110_64 hR, R_110_77 hR]
    refine hP _ ⟨fun a i x x1 x2 x3 x4 x5 x6 => ?_, f1.2.1, f1.2.2⟩ ?_ ?_ ?_ (fun k hk => ?_)
    · dsimp only; rw [gU_n (by omega), gU_n (by omega)]; exact f1.1 a i x x1 x2 x3 x4 x5 x6
    · dsimp only; rw [gU_n (by omega), gU_n (by omega)]; exact f2
    · dsimp only; rw [gU_n (by omega), gU_s]
    · dsimp only; rw [gU_s]
    · obtain ⟨b1, b2, b3, b4, b5, b6, b7⟩ := f3 k hk
      refine ⟨?_, ?_, ?_, ?_, b5, ?_, fun v hv => ?_⟩
      · dsimp only; rw [gU_n (by omega), gU_n (by omega)]; exact b1
      · dsimp only; rw [gU_n (by omega), gU_n (by omega)]; exact b2
      · dsimp only; rw [gU_n (by omega), gU_n (by omega)]; exact b3
      · dsimp only; rw [gU_n (by omega), gU_n (by omega)]; exact b4
      · dsimp only; rw [gU_n (by omega), gU_n (by omega)]; exact b6
      · dsimp only; rw [gU_n (by omega), gU_n (by omega)]; exact b7 v hv
