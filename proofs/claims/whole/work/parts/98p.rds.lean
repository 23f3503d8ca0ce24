/-! THE TEXT, the reference: all expressions -/
def eHr (β sd : Nat) (μ μ' : gM) : Prop := (∀ a i, ¬ (a = β + 110 ∧ (i = 15 ∨ i = 16 ∨ i = 34 ∨ i = 37 ∨ i = 38)) → ¬ ((a = β + 132 ∨ a = β + 133) ∧ 500 * sd ≤ i ∧ i < 500 * sd + 500) → μ'.1 a i = μ.1 a i) ∧ μ'.2 = μ.2
/-- what named does -/
def eNm (S : gSh) (β sd sz : Nat) (rv : Nat → Nat × Nat × Nat × Nat) (K pl vl nm : Nat → Nat) (Ev : gM → Prop) (q0 h : Nat) : Prop := ∀ p T C st d μ (P : gP), q0 ≤ p → K p = 3 → gPS μ.2.2 β → eT β sz K pl vl nm μ → Ev μ → eS β sd sz rv vl p d T C st μ → (∀ μ', eHr β sd μ μ' → eC β sd rv vl (C ++ [(3, p)]) μ' → eM β (eA rv pl st (3, p)) μ' → P none μ') → gRun S h 140 [.ref (β + 110), .int (nI p)] μ P
/-- the operand itself -/
theorem leafStep {S : gSh} {h β sd sz p d q0 : Nat} {u : Option Value} {rv : Nat → Nat × Nat × Nat × Nat} {K pl vl nm : Nat → Nat} {T : List Nat} {C : List (Nat × Nat)} {st : eSt} {Ev : gM → Prop} {μ : gM} {P : gP} {X : Nat → gK} (hX : gClo K_X11_expression S (gRun S (h + 3)) P X) (hS : gLS S β) (hR : gPS μ.2.2 β) (hsd : sd < 2) (hz : dZ sz K) (ht : eT β sz K pl vl nm μ) (hk : ∀ p, K p = 0 ∨ K p = 1 ∨ K p = 2 ∨ K p = 3 ∨ (4 ≤ K p ∧ K p ≤ 10) ∨ cS (K p)) (hnm : eNm S β sd sz rv K pl vl nm Ev q0 (h + 3)) (hq0 : q0 ≤ p) (hEv : Ev μ)
    (s : eS β sd sz rv vl p d T C st μ) (hl : T.length ≤ 29) (hkp : K p = 2 ∨ K p = 3)
    (g1 : ∀ μ', eFr β sd μ μ' → 400 ≤ p → eX β sd rv vl 2 (nI (pl p)) μ' → P none μ') (g2 : ∀ μ' u', eFr β sd μ μ' → p < 400 → eS β sd sz rv vl (p + 1) d T (C ++ [(K p, p)]) (eA rv pl st (K p, p)) μ' → X 149 μ' [some (.ref (β + 110)), some (.int (nI 1)), u'] []) : X 104 μ [some (.ref (β + 110)), some (.int (nI 1)), u] [] := by
  have hsz := hz.2.1
  obtain ⟨s1, s2, s3, s4, s5, s6, s7, s8, s9⟩ := id s
  have hr := rK_inv (hk p)
  have hp403 : p < 403 := by omega
  have t145 : ∀ μ1, eFr β sd μ μ1 → (∀ i, (i = 11 ∨ i = 12 ∨ i = 13 ∨ i = 40) → μ1.1 (β + 110) i = μ.1 (β + 110) i) → (∀ i, μ1.1 (β + 134) i = μ.1 (β + 134) i) → eC β sd rv vl (C ++ [(K p, p)]) μ1 → eM β (eA rv pl st (K p, p)) μ1 → ∀ u, X 145 μ1 [some (.ref (β + 110)), some (.int (nI 1)), u] [] := by
    intro μ1 f1 f2 f3 f4 f5 u
    have hR1 : gPS μ1.2.2 β := by rw [f1.2]; exact hR
    have hR := hR1
    refine b_X11_expression_145 hX ?_
    simp (disch := omega) only [B_X11_expression_145, ↓n_gb, ↓n_gb0, ↓n_ic, ↓n_icm, ↓n_lc, ↓e_lc, ↓e_null, ↓e_ldI, ↓e_ldL, ↓e_ldA, ↓e_stI, ↓e_stL, ↓e_stA, ↓n_inc, ↓n_incm1, ↓n_incm8, ↓e_iadd, ↓e_isub, ↓e_imul, ↓e_iand, ↓e_ior, ↓e_ixor, ↓n_ishl, ↓n_ishr, ↓e_iushr, ↓n_idiv, ↓e_ineg, ↓e_ladd, ↓e_lsub, ↓e_lmul, ↓e_lor, ↓e_lshl, ↓e_lshr, ↓e_i2l, ↓e_l2i, ↓e_i2b, ↓e_lcmp, ↓e_dup, ↓e_dup2, ↓e_pop, ↓e_ceq, ↓e_cne, ↓e_clt, ↓e_cge, ↓e_cgt, ↓e_cle, ↓n_zeq, ↓n_zne, ↓n_zlt, ↓n_zge, ↓n_zgt, ↓n_zle, ↓e_goto, ↓e_nn, ↓e_retI, ↓e_retL, ↓e_retV, ↓n_retZ, ↓e_retA, ↓e_gfI, ↓e_gfL, ↓e_gfR, ↓e_pfI, ↓n_pfZ, ↓e_pfL, ↓e_pfR, ↓e_iald, ↓e_lald, ↓e_aald, ↓e_alen, ↓e_iast, ↓e_bast, ↓n_zast, ↓e_last, ↓e_aast, ↓e_cV, ↓e_cS, ↓e_gsW, ↓e_gsK, ↓e_mmax, ↓e_mmin, ↓e_mmaxL, ↓e_mminL, gEnt, gPad, gArgs, gGet, gS1, gS2, gCl, gNo, gSp, gCt, n_sw, n_gSw, n_gSw0, Option.toList, List.cons_append, List.nil_append, Value.category, and_true, true_and, and_self, not_false_eq_true, not_true_eq_false, Nat.reduceAdd, Nat.reduceSub, Nat.reduceMul, Nat.reduceLeDiff, Nat.reduceLT, Nat.reduceEqDiff, forall_const, true_implies, false_implies, implies_true, Nat.zero_add, Option.some.injEq, Sum.inr.injEq, Sum.inl.injEq, Prod.mk.injEq, exists_eq_left', exists_eq_left, w_ne0, nI_add, w_lt, w_le, w_eq, w_meq, w_eqm, w_mlt, w_ltm, w_mle, w_lem, w_clamp, w_in, w_31, w_ite0, w_ite1, w_ite01, true_or, or_true, false_or, or_false, Nat.le_refl, Nat.lt_irrefl, S_110 hS, S_113 hS, S_115 hS, S_134 hS, R_110_5 hR, R_110_7 hR, R_110_39 hR]
    refine k_mNextS (h := h + 1) (T := T) (C := C ++ [(K p, p)]) (st := eA rv pl st (K p, p)) (d := d) hS hR hz (eFr_T f1 ht) (by omega) (by omega) (by rw [List.length_append]; simp; omega) s1 ((f2 _ (by omega)).trans s2) ((f2 _ (by omega)).trans s3) ((f2 _ (by omega)).trans s4) ((f2 _ (by omega)).trans s5) (eW_c (μ := μ) T (fun i hi => f3 i) s6) f4 f5 (fun μ2 e1 e2 e3 => ?_) (fun μ2 e1 e2 e3 => ?_)
    · have hR2 : gPS μ2.2.2 β := by rw [e1.2]; exact hR
      simp (disch := omega) only [↓n_gb, ↓n_gb0, ↓n_ic, ↓n_icm, ↓n_lc, ↓e_lc, ↓e_null, ↓e_ldI, ↓e_ldL, ↓e_ldA, ↓e_stI, ↓e_stL, ↓e_stA, ↓n_inc, ↓n_incm1, ↓n_incm8, ↓e_iadd, ↓e_isub, ↓e_imul, ↓e_iand, ↓e_ior, ↓e_ixor, ↓n_ishl, ↓n_ishr, ↓e_iushr, ↓n_idiv, ↓e_ineg, ↓e_ladd, ↓e_lsub, ↓e_lmul, ↓e_lor, ↓e_lshl, ↓e_lshr, ↓e_i2l, ↓e_l2i, ↓e_i2b, ↓e_lcmp, ↓e_dup, ↓e_dup2, ↓e_pop, ↓e_ceq, ↓e_cne, ↓e_clt, ↓e_cge, ↓e_cgt, ↓e_cle, ↓n_zeq, ↓n_zne, ↓n_zlt, ↓n_zge, ↓n_zgt, ↓n_zle, ↓e_goto, ↓e_nn, ↓e_retI, ↓e_retL, ↓e_retV, ↓n_retZ, ↓e_retA, ↓e_gfI, ↓e_gfL, ↓e_gfR, ↓e_pfI, ↓n_pfZ, ↓e_pfL, ↓e_pfR, ↓e_iald, ↓e_lald, ↓e_aald, ↓e_alen, ↓e_iast, ↓e_bast, ↓n_zast, ↓e_last, ↓e_aast, ↓e_cV, ↓e_cS, ↓e_gsW, ↓e_gsK, ↓e_mmax, ↓e_mmin, ↓e_mmaxL, ↓e_mminL, gEnt, gPad, gArgs, gGet, gS1, gS2, gCl, gNo, gSp, gCt, n_sw, n_gSw, n_gSw0, Option.toList, List.cons_append, List.nil_append, Value.category, and_true, true_and, and_self, not_false_eq_true, not_true_eq_false, Nat.reduceAdd, Nat.reduceSub, Nat.reduceMul, Nat.reduceLeDiff, Nat.reduceLT, Nat.reduceEqDiff, forall_const, true_implies, false_implies, implies_true, Nat.zero_add, Option.some.injEq, Sum.inr.injEq, Sum.inl.injEq, Prod.mk.injEq, exists_eq_left', exists_eq_left, w_ne0, nI_add, w_lt, w_le, w_eq, w_meq, w_eqm, w_mlt, w_ltm, w_mle, w_lem, w_clamp, w_in, w_31, w_ite0, w_ite1, w_ite01, true_or, or_true, false_or, or_false, Nat.le_refl, Nat.lt_irrefl, S_110 hS, S_113 hS, S_115 hS, S_134 hS, R_110_5 hR, R_110_7 hR, R_110_39 hR]
      exact seenF (h := h + 1) hX hS hR2 hsd e3 (fun μ3 z1 z2 => g1 μ3 (eFr_t f1 (eFr_t e1 z1)) e2 z2)
    · have hR2 : gPS μ2.2.2 β := by rw [e1.2]; exact hR
      simp (disch := omega) only [↓n_gb, ↓n_gb0, ↓n_ic, ↓n_icm, ↓n_lc, ↓e_lc, ↓e_null, ↓e_ldI, ↓e_ldL, ↓e_ldA, ↓e_stI, ↓e_stL, ↓e_stA, ↓n_inc, ↓n_incm1, ↓n_incm8, ↓e_iadd, ↓e_isub, ↓e_imul, ↓e_iand, ↓e_ior, ↓e_ixor, ↓n_ishl, ↓n_ishr, ↓e_iushr, ↓n_idiv, ↓e_ineg, ↓e_ladd, ↓e_lsub, ↓e_lmul, ↓e_lor, ↓e_lshl, ↓e_lshr, ↓e_i2l, ↓e_l2i, ↓e_i2b, ↓e_lcmp, ↓e_dup, ↓e_dup2, ↓e_pop, ↓e_ceq, ↓e_cne, ↓e_clt, ↓e_cge, ↓e_cgt, ↓e_cle, ↓n_zeq, ↓n_zne, ↓n_zlt, ↓n_zge, ↓n_zgt, ↓n_zle, ↓e_goto, ↓e_nn, ↓e_retI, ↓e_retL, ↓e_retV, ↓n_retZ, ↓e_retA, ↓e_gfI, ↓e_gfL, ↓e_gfR, ↓e_pfI, ↓n_pfZ, ↓e_pfL, ↓e_pfR, ↓e_iald, ↓e_lald, ↓e_aald, ↓e_alen, ↓e_iast, ↓e_bast, ↓n_zast, ↓e_last, ↓e_aast, ↓e_cV, ↓e_cS, ↓e_gsW, ↓e_gsK, ↓e_mmax, ↓e_mmin, ↓e_mmaxL, ↓e_mminL, gEnt, gPad, gArgs, gGet, gS1, gS2, gCl, gNo, gSp, gCt, n_sw, n_gSw, n_gSw0, Option.toList, List.cons_append, List.nil_append, Value.category, and_true, true_and, and_self, not_false_eq_true, not_true_eq_false, Nat.reduceAdd, Nat.reduceSub, Nat.reduceMul, Nat.reduceLeDiff, Nat.reduceLT, Nat.reduceEqDiff, forall_const, true_implies, false_implies, implies_true, Nat.zero_add, Option.some.injEq, Sum.inr.injEq, Sum.inl.injEq, Prod.mk.injEq, exists_eq_left', exists_eq_left, w_ne0, nI_add, w_lt, w_le, w_eq, w_meq, w_eqm, w_mlt, w_ltm, w_mle, w_lem, w_clamp, w_in, w_31, w_ite0, w_ite1, w_ite01, true_or, or_true, false_or, or_false, Nat.le_refl, Nat.lt_irrefl, S_110 hS, S_113 hS, S_115 hS, S_134 hS, R_110_5 hR, R_110_7 hR, R_110_39 hR]
      exact g2 μ2 _ (eFr_t f1 e1) e2 e3
  refine b_X11_expression_104 hX ?_
  simp (disch := omega) only [B_X11_expression_104, ↓n_gb, ↓n_gb0, ↓n_ic, ↓n_icm, ↓n_lc, ↓e_lc, ↓e_null, ↓e_ldI, ↓e_ldL, ↓e_ldA, ↓e_stI, ↓e_stL, ↓e_stA, ↓n_inc, ↓n_incm1, ↓n_incm8, ↓e_iadd, ↓e_isub, ↓e_imul, ↓e_iand, ↓e_ior, ↓e_ixor, ↓n_ishl, ↓n_ishr, ↓e_iushr, ↓n_idiv, ↓e_ineg, ↓e_ladd, ↓e_lsub, ↓e_lmul, ↓e_lor, ↓e_lshl, ↓e_lshr, ↓e_i2l, ↓e_l2i, ↓e_i2b, ↓e_lcmp, ↓e_dup, ↓e_dup2, ↓e_pop, ↓e_ceq, ↓e_cne, ↓e_clt, ↓e_cge, ↓e_cgt, ↓e_cle, ↓n_zeq, ↓n_zne, ↓n_zlt, ↓n_zge, ↓n_zgt, ↓n_zle, ↓e_goto, ↓e_nn, ↓e_retI, ↓e_retL, ↓e_retV, ↓n_retZ, ↓e_retA, ↓e_gfI, ↓e_gfL, ↓e_gfR, ↓e_pfI, ↓n_pfZ, ↓e_pfL, ↓e_pfR, ↓e_iald, ↓e_lald, ↓e_aald, ↓e_alen, ↓e_iast, ↓e_bast, ↓n_zast, ↓e_last, ↓e_aast, ↓e_cV, ↓e_cS, ↓e_gsW, ↓e_gsK, ↓e_mmax, ↓e_mmin, ↓e_mmaxL, ↓e_mminL, gEnt, gPad, gArgs, gGet, gS1, gS2, gCl, gNo, gSp, gCt, n_sw, n_gSw, n_gSw0, Option.toList, List.cons_append, List.nil_append, Value.category, and_true, true_and, and_self, not_false_eq_true, not_true_eq_false, Nat.reduceAdd, Nat.reduceSub, Nat.reduceMul, Nat.reduceLeDiff, Nat.reduceLT, Nat.reduceEqDiff, forall_const, true_implies, false_implies, implies_true, Nat.zero_add, Option.some.injEq, Sum.inr.injEq, Sum.inl.injEq, Prod.mk.injEq, exists_eq_left', exists_eq_left, w_ne0, nI_add, w_lt, w_le, w_eq, w_meq, w_eqm, w_mlt, w_ltm, w_mle, w_lem, w_clamp, w_in, w_31, w_ite0, w_ite1, w_ite01, true_or, or_true, false_or, or_false, Nat.le_refl, Nat.lt_irrefl, S_110 hS, S_113 hS, S_115 hS, S_134 hS, R_110_5 hR, R_110_7 hR, R_110_39 hR, s4]
  refine b_X11_expression_112 hX ?_
  simp (disch := omega) only [B_X11_expression_112, ↓n_gb, ↓n_gb0, ↓n_ic, ↓n_icm, ↓n_lc, ↓e_lc, ↓e_null, ↓e_ldI, ↓e_ldL, ↓e_ldA, ↓e_stI, ↓e_stL, ↓e_stA, ↓n_inc, ↓n_incm1, ↓n_incm8, ↓e_iadd, ↓e_isub, ↓e_imul, ↓e_iand, ↓e_ior, ↓e_ixor, ↓n_ishl, ↓n_ishr, ↓e_iushr, ↓n_idiv, ↓e_ineg, ↓e_ladd, ↓e_lsub, ↓e_lmul, ↓e_lor, ↓e_lshl, ↓e_lshr, ↓e_i2l, ↓e_l2i, ↓e_i2b, ↓e_lcmp, ↓e_dup, ↓e_dup2, ↓e_pop, ↓e_ceq, ↓e_cne, ↓e_clt, ↓e_cge, ↓e_cgt, ↓e_cle, ↓n_zeq, ↓n_zne, ↓n_zlt, ↓n_zge, ↓n_zgt, ↓n_zle, ↓e_goto, ↓e_nn, ↓e_retI, ↓e_retL, ↓e_retV, ↓n_retZ, ↓e_retA, ↓e_gfI, ↓e_gfL, ↓e_gfR, ↓e_pfI, ↓n_pfZ, ↓e_pfL, ↓e_pfR, ↓e_iald, ↓e_lald, ↓e_aald, ↓e_alen, ↓e_iast, ↓e_bast, ↓n_zast, ↓e_last, ↓e_aast, ↓e_cV, ↓e_cS, ↓e_gsW, ↓e_gsK, ↓e_mmax, ↓e_mmin, ↓e_mmaxL, ↓e_mminL, gEnt, gPad, gArgs, gGet, gS1, gS2, gCl, gNo, gSp, gCt, n_sw, n_gSw, n_gSw0, Option.toList, List.cons_append, List.nil_append, Value.category, and_true, true_and, and_self, not_false_eq_true, not_true_eq_false, Nat.reduceAdd, Nat.reduceSub, Nat.reduceMul, Nat.reduceLeDiff, Nat.reduceLT, Nat.reduceEqDiff, forall_const, true_implies, false_implies, implies_true, Nat.zero_add, Option.some.injEq, Sum.inr.injEq, Sum.inl.injEq, Prod.mk.injEq, exists_eq_left', exists_eq_left, w_ne0, nI_add, w_lt, w_le, w_eq, w_meq, w_eqm, w_mlt, w_ltm, w_mle, w_lem, w_clamp, w_in, w_31, w_ite0, w_ite1, w_ite01, true_or, or_true, false_or, or_false, Nat.le_refl, Nat.lt_irrefl, S_110 hS, S_113 hS, S_115 hS, S_134 hS, R_110_5 hR, R_110_7 hR, R_110_39 hR]
  refine k_mIs (h := h + 2) hS hR hsz ht s2 s4 s1 (by omega) ?_
  by_cases c : K p = 2
  · rw [if_pos (hr.2.2.2.2.2.2.2.2.1.2 c)]
    have ev := (ht p s1).2.2.1 c
    simp (disch := omega) only [↓n_gb, ↓n_gb0, ↓n_ic, ↓n_icm, ↓n_lc, ↓e_lc, ↓e_null, ↓e_ldI, ↓e_ldL, ↓e_ldA, ↓e_stI, ↓e_stL, ↓e_stA, ↓n_inc, ↓n_incm1, ↓n_incm8, ↓e_iadd, ↓e_isub, ↓e_imul, ↓e_iand, ↓e_ior, ↓e_ixor, ↓n_ishl, ↓n_ishr, ↓e_iushr, ↓n_idiv, ↓e_ineg, ↓e_ladd, ↓e_lsub, ↓e_lmul, ↓e_lor, ↓e_lshl, ↓e_lshr, ↓e_i2l, ↓e_l2i, ↓e_i2b, ↓e_lcmp, ↓e_dup, ↓e_dup2, ↓e_pop, ↓e_ceq, ↓e_cne, ↓e_clt, ↓e_cge, ↓e_cgt, ↓e_cle, ↓n_zeq, ↓n_zne, ↓n_zlt, ↓n_zge, ↓n_zgt, ↓n_zle, ↓e_goto, ↓e_nn, ↓e_retI, ↓e_retL, ↓e_retV, ↓n_retZ, ↓e_retA, ↓e_gfI, ↓e_gfL, ↓e_gfR, ↓e_pfI, ↓n_pfZ, ↓e_pfL, ↓e_pfR, ↓e_iald, ↓e_lald, ↓e_aald, ↓e_alen, ↓e_iast, ↓e_bast, ↓n_zast, ↓e_last, ↓e_aast, ↓e_cV, ↓e_cS, ↓e_gsW, ↓e_gsK, ↓e_mmax, ↓e_mmin, ↓e_mmaxL, ↓e_mminL, gEnt, gPad, gArgs, gGet, gS1, gS2, gCl, gNo, gSp, gCt, n_sw, n_gSw, n_gSw0, Option.toList, List.cons_append, List.nil_append, Value.category, and_true, true_and, and_self, not_false_eq_true, not_true_eq_false, Nat.reduceAdd, Nat.reduceSub, Nat.reduceMul, Nat.reduceLeDiff, Nat.reduceLT, Nat.reduceEqDiff, forall_const, true_implies, false_implies, implies_true, Nat.zero_add, Option.some.injEq, Sum.inr.injEq, Sum.inl.injEq, Prod.mk.injEq, exists_eq_left', exists_eq_left, w_ne0, nI_add, w_lt, w_le, w_eq, w_meq, w_eqm, w_mlt, w_ltm, w_mle, w_lem, w_clamp, w_in, w_31, w_ite0, w_ite1, w_ite01, true_or, or_true, false_or, or_false, Nat.le_refl, Nat.lt_irrefl, S_110 hS, S_113 hS, S_115 hS, S_134 hS, R_110_5 hR, R_110_7 hR, R_110_39 hR, s2, hp403, ev]
    refine k_mEmitC (h := h + 2) (x := (K p, p)) hS hR hsd s8 (by omega) ?_ ?_ (fun μ2 e1 e2 e3 => ?_)
    · unfold eO; rw [if_pos c]
    · unfold eV; rw [if_pos c]
    have hR2 : gPS μ2.2.2 β := by rw [e1.2]; exact hR
    simp (disch := omega) only [↓n_gb, ↓n_gb0, ↓n_ic, ↓n_icm, ↓n_lc, ↓e_lc, ↓e_null, ↓e_ldI, ↓e_ldL, ↓e_ldA, ↓e_stI, ↓e_stL, ↓e_stA, ↓n_inc, ↓n_incm1, ↓n_incm8, ↓e_iadd, ↓e_isub, ↓e_imul, ↓e_iand, ↓e_ior, ↓e_ixor, ↓n_ishl, ↓n_ishr, ↓e_iushr, ↓n_idiv, ↓e_ineg, ↓e_ladd, ↓e_lsub, ↓e_lmul, ↓e_lor, ↓e_lshl, ↓e_lshr, ↓e_i2l, ↓e_l2i, ↓e_i2b, ↓e_lcmp, ↓e_dup, ↓e_dup2, ↓e_pop, ↓e_ceq, ↓e_cne, ↓e_clt, ↓e_cge, ↓e_cgt, ↓e_cle, ↓n_zeq, ↓n_zne, ↓n_zlt, ↓n_zge, ↓n_zgt, ↓n_zle, ↓e_goto, ↓e_nn, ↓e_retI, ↓e_retL, ↓e_retV, ↓n_retZ, ↓e_retA, ↓e_gfI, ↓e_gfL, ↓e_gfR, ↓e_pfI, ↓n_pfZ, ↓e_pfL, ↓e_pfR, ↓e_iald, ↓e_lald, ↓e_aald, ↓e_alen, ↓e_iast, ↓e_bast, ↓n_zast, ↓e_last, ↓e_aast, ↓e_cV, ↓e_cS, ↓e_gsW, ↓e_gsK, ↓e_mmax, ↓e_mmin, ↓e_mmaxL, ↓e_mminL, gEnt, gPad, gArgs, gGet, gS1, gS2, gCl, gNo, gSp, gCt, n_sw, n_gSw, n_gSw0, Option.toList, List.cons_append, List.nil_append, Value.category, and_true, true_and, and_self, not_false_eq_true, not_true_eq_false, Nat.reduceAdd, Nat.reduceSub, Nat.reduceMul, Nat.reduceLeDiff, Nat.reduceLT, Nat.reduceEqDiff, forall_const, true_implies, false_implies, implies_true, Nat.zero_add, Option.some.injEq, Sum.inr.injEq, Sum.inl.injEq, Prod.mk.injEq, exists_eq_left', exists_eq_left, w_ne0, nI_add, w_lt, w_le, w_eq, w_meq, w_eqm, w_mlt, w_ltm, w_mle, w_lem, w_clamp, w_in, w_31, w_ite0, w_ite1, w_ite01, true_or, or_true, false_or, or_false, Nat.le_refl, Nat.lt_irrefl, S_110 hS, S_113 hS, S_115 hS, S_134 hS, R_110_5 hR, R_110_7 hR, R_110_39 hR]
    refine t145 μ2 (eGr_F e1) (fun i hi => ?_) (fun i => e1.1 _ _ (by omega) (by omega)) e3 ?_ _
    · rcases hi with hi | hi | hi | hi
      · exact e1.1 _ _ (by omega) (by omega)
      · exact e1.1 _ _ (by omega) (by omega)
      · exact e1.1 _ _ (by omega) (by omega)
      · rw [hi]; exact e2
    · have : eA rv pl st (K p, p) = st := by unfold eA; rw [if_neg (by dsimp only; omega)]
      rw [this]
      exact eM_c (μ := μ) (fun i hi => e1.1 _ _ (by omega) (by omega)) s9
  · have c3 : K p = 3 := by omega
    rw [if_neg (fun z => c (hr.2.2.2.2.2.2.2.2.1.1 z))]
    simp (disch := omega) only [↓n_gb, ↓n_gb0, ↓n_ic, ↓n_icm, ↓n_lc, ↓e_lc, ↓e_null, ↓e_ldI, ↓e_ldL, ↓e_ldA, ↓e_stI, ↓e_stL, ↓e_stA, ↓n_inc, ↓n_incm1, ↓n_incm8, ↓e_iadd, ↓e_isub, ↓e_imul, ↓e_iand, ↓e_ior, ↓e_ixor, ↓n_ishl, ↓n_ishr, ↓e_iushr, ↓n_idiv, ↓e_ineg, ↓e_ladd, ↓e_lsub, ↓e_lmul, ↓e_lor, ↓e_lshl, ↓e_lshr, ↓e_i2l, ↓e_l2i, ↓e_i2b, ↓e_lcmp, ↓e_dup, ↓e_dup2, ↓e_pop, ↓e_ceq, ↓e_cne, ↓e_clt, ↓e_cge, ↓e_cgt, ↓e_cle, ↓n_zeq, ↓n_zne, ↓n_zlt, ↓n_zge, ↓n_zgt, ↓n_zle, ↓e_goto, ↓e_nn, ↓e_retI, ↓e_retL, ↓e_retV, ↓n_retZ, ↓e_retA, ↓e_gfI, ↓e_gfL, ↓e_gfR, ↓e_pfI, ↓n_pfZ, ↓e_pfL, ↓e_pfR, ↓e_iald, ↓e_lald, ↓e_aald, ↓e_alen, ↓e_iast, ↓e_bast, ↓n_zast, ↓e_last, ↓e_aast, ↓e_cV, ↓e_cS, ↓e_gsW, ↓e_gsK, ↓e_mmax, ↓e_mmin, ↓e_mmaxL, ↓e_mminL, gEnt, gPad, gArgs, gGet, gS1, gS2, gCl, gNo, gSp, gCt, n_sw, n_gSw, n_gSw0, Option.toList, List.cons_append, List.nil_append, Value.category, and_true, true_and, and_self, not_false_eq_true, not_true_eq_false, Nat.reduceAdd, Nat.reduceSub, Nat.reduceMul, Nat.reduceLeDiff, Nat.reduceLT, Nat.reduceEqDiff, forall_const, true_implies, false_implies, implies_true, Nat.zero_add, Option.some.injEq, Sum.inr.injEq, Sum.inl.injEq, Prod.mk.injEq, exists_eq_left', exists_eq_left, w_ne0, nI_add, w_lt, w_le, w_eq, w_meq, w_eqm, w_mlt, w_ltm, w_mle, w_lem, w_clamp, w_in, w_31, w_ite0, w_ite1, w_ite01, true_or, or_true, false_or, or_false, Nat.le_refl, Nat.lt_irrefl, S_110 hS, S_113 hS, S_115 hS, S_134 hS, R_110_5 hR, R_110_7 hR, R_110_39 hR]
    refine b_X11_expression_137 hX ?_
    simp (disch := omega) only [B_X11_expression_137, ↓n_gb, ↓n_gb0, ↓n_ic, ↓n_icm, ↓n_lc, ↓e_lc, ↓e_null, ↓e_ldI, ↓e_ldL, ↓e_ldA, ↓e_stI, ↓e_stL, ↓e_stA, ↓n_inc, ↓n_incm1, ↓n_incm8, ↓e_iadd, ↓e_isub, ↓e_imul, ↓e_iand, ↓e_ior, ↓e_ixor, ↓n_ishl, ↓n_ishr, ↓e_iushr, ↓n_idiv, ↓e_ineg, ↓e_ladd, ↓e_lsub, ↓e_lmul, ↓e_lor, ↓e_lshl, ↓e_lshr, ↓e_i2l, ↓e_l2i, ↓e_i2b, ↓e_lcmp, ↓e_dup, ↓e_dup2, ↓e_pop, ↓e_ceq, ↓e_cne, ↓e_clt, ↓e_cge, ↓e_cgt, ↓e_cle, ↓n_zeq, ↓n_zne, ↓n_zlt, ↓n_zge, ↓n_zgt, ↓n_zle, ↓e_goto, ↓e_nn, ↓e_retI, ↓e_retL, ↓e_retV, ↓n_retZ, ↓e_retA, ↓e_gfI, ↓e_gfL, ↓e_gfR, ↓e_pfI, ↓n_pfZ, ↓e_pfL, ↓e_pfR, ↓e_iald, ↓e_lald, ↓e_aald, ↓e_alen, ↓e_iast, ↓e_bast, ↓n_zast, ↓e_last, ↓e_aast, ↓e_cV, ↓e_cS, ↓e_gsW, ↓e_gsK, ↓e_mmax, ↓e_mmin, ↓e_mmaxL, ↓e_mminL, gEnt, gPad, gArgs, gGet, gS1, gS2, gCl, gNo, gSp, gCt, n_sw, n_gSw, n_gSw0, Option.toList, List.cons_append, List.nil_append, Value.category, and_true, true_and, and_self, not_false_eq_true, not_true_eq_false, Nat.reduceAdd, Nat.reduceSub, Nat.reduceMul, Nat.reduceLeDiff, Nat.reduceLT, Nat.reduceEqDiff, forall_const, true_implies, false_implies, implies_true, Nat.zero_add, Option.some.injEq, Sum.inr.injEq, Sum.inl.injEq, Prod.mk.injEq, exists_eq_left', exists_eq_left, w_ne0, nI_add, w_lt, w_le, w_eq, w_meq, w_eqm, w_mlt, w_ltm, w_mle, w_lem, w_clamp, w_in, w_31, w_ite0, w_ite1, w_ite01, true_or, or_true, false_or, or_false, Nat.le_refl, Nat.lt_irrefl, S_110 hS, S_113 hS, S_115 hS, S_134 hS, R_110_5 hR, R_110_7 hR, R_110_39 hR, s2]
    refine hnm p T C st d μ _ hq0 c3 hR ht hEv s (fun μ2 e1 e2 e3 => ?_)
    have hR2 : gPS μ2.2.2 β := by rw [e1.2]; exact hR
    simp (disch := omega) only [↓n_gb, ↓n_gb0, ↓n_ic, ↓n_icm, ↓n_lc, ↓e_lc, ↓e_null, ↓e_ldI, ↓e_ldL, ↓e_ldA, ↓e_stI, ↓e_stL, ↓e_stA, ↓n_inc, ↓n_incm1, ↓n_incm8, ↓e_iadd, ↓e_isub, ↓e_imul, ↓e_iand, ↓e_ior, ↓e_ixor, ↓n_ishl, ↓n_ishr, ↓e_iushr, ↓n_idiv, ↓e_ineg, ↓e_ladd, ↓e_lsub, ↓e_lmul, ↓e_lor, ↓e_lshl, ↓e_lshr, ↓e_i2l, ↓e_l2i, ↓e_i2b, ↓e_lcmp, ↓e_dup, ↓e_dup2, ↓e_pop, ↓e_ceq, ↓e_cne, ↓e_clt, ↓e_cge, ↓e_cgt, ↓e_cle, ↓n_zeq, ↓n_zne, ↓n_zlt, ↓n_zge, ↓n_zgt, ↓n_zle, ↓e_goto, ↓e_nn, ↓e_retI, ↓e_retL, ↓e_retV, ↓n_retZ, ↓e_retA, ↓e_gfI, ↓e_gfL, ↓e_gfR, ↓e_pfI, ↓n_pfZ, ↓e_pfL, ↓e_pfR, ↓e_iald, ↓e_lald, ↓e_aald, ↓e_alen, ↓e_iast, ↓e_bast, ↓n_zast, ↓e_last, ↓e_aast, ↓e_cV, ↓e_cS, ↓e_gsW, ↓e_gsK, ↓e_mmax, ↓e_mmin, ↓e_mmaxL, ↓e_mminL, gEnt, gPad, gArgs, gGet, gS1, gS2, gCl, gNo, gSp, gCt, n_sw, n_gSw, n_gSw0, Option.toList, List.cons_append, List.nil_append, Value.category, and_true, true_and, and_self, not_false_eq_true, not_true_eq_false, Nat.reduceAdd, Nat.reduceSub, Nat.reduceMul, Nat.reduceLeDiff, Nat.reduceLT, Nat.reduceEqDiff, forall_const, true_implies, false_implies, implies_true, Nat.zero_add, Option.some.injEq, Sum.inr.injEq, Sum.inl.injEq, Prod.mk.injEq, exists_eq_left', exists_eq_left, w_ne0, nI_add, w_lt, w_le, w_eq, w_meq, w_eqm, w_mlt, w_ltm, w_mle, w_lem, w_clamp, w_in, w_31, w_ite0, w_ite1, w_ite01, true_or, or_true, false_or, or_false, Nat.le_refl, Nat.lt_irrefl, S_110 hS, S_113 hS, S_115 hS, S_134 hS, R_110_5 hR, R_110_7 hR, R_110_39 hR]
    rw [← c3] at e2 e3
    exact t145 μ2 ⟨fun a i x y v => e1.1 a i (by omega) y, e1.2⟩ (fun i hi => e1.1 _ _ (by omega) (by omega)) (fun i => e1.1 _ _ (by omega) (by omega)) e2 e3 _
def eTh (β sd sz : Nat) (rv : Nat → Nat × Nat × Nat × Nat) (K pl vl nm : Nat → Nat) (Ev : gM → Prop) (P : gP) (X : Nat → gK) (q0 n : Nat) : Prop := ∀ d p T C st μ u, q0 ≤ p → d ≤ 8 → gPS μ.2.2 β → eT β sz K pl vl nm μ → Ev μ → eS β sd sz rv vl p d T C st μ →
  (4 * (401 - p) + 3 ≤ n → T.length ≤ 3 * d → coP 0 T = (T, []) → C.length ≤ p →
    (∀ μ' u' T' Cr D, eFr β sd μ μ' → (rd K n 0 d p).1 = 0 → eS β sd sz rv vl (rd K n 0 d p).2.1 d T' Cr ((rd K n 0 d p).2.2.foldl (eA rv pl) st) μ' → coP 0 T' = (T, D) → Cr ++ D = C ++ (rd K n 0 d p).2.2 → T'.length ≤ 3 * d + 2 → X 149 μ' [some (.ref (β + 110)), some (.int (nI 1)), u'] []) →
    (∀ μ', eFr β sd μ μ' → (rd K n 0 d p).1 ≠ 0 → eX β sd rv vl (rd K n 0 d p).1 (nI (pl (rd K n 0 d p).2.1)) μ' → P none μ') → X 7 μ [some (.ref (β + 110)), some (.int (nI 1)), u] []) ∧
  (4 * (401 - p) + 2 ≤ n → T.length ≤ 3 * d + 1 → coP 1 T = (T, []) → C.length ≤ p →
    (∀ μ' u' T' Cr D, eFr β sd μ μ' → (rd K n 1 d p).1 = 0 → eS β sd sz rv vl (rd K n 1 d p).2.1 d T' Cr ((rd K n 1 d p).2.2.foldl (eA rv pl) st) μ' → coP 1 T' = (T, D) → Cr ++ D = C ++ (rd K n 1 d p).2.2 → T'.length ≤ T.length + 1 → X 149 μ' [some (.ref (β + 110)), some (.int (nI 1)), u'] []) →
    (∀ μ', eFr β sd μ μ' → (rd K n 1 d p).1 ≠ 0 → eX β sd rv vl (rd K n 1 d p).1 (nI (pl (rd K n 1 d p).2.1)) μ' → P none μ') → X 7 μ [some (.ref (β + 110)), some (.int (nI 1)), u] []) ∧
  (4 * (401 - p) + 1 ≤ n → T.length ≤ 3 * d + 2 → C.length ≤ p →
    (∀ μ' u', eFr β sd μ μ' → (rd K n 2 d p).1 = 0 → eS β sd sz rv vl (rd K n 2 d p).2.1 d T (C ++ (rd K n 2 d p).2.2) ((rd K n 2 d p).2.2.foldl (eA rv pl) st) μ' → X 149 μ' [some (.ref (β + 110)), some (.int (nI 1)), u'] []) →
    (∀ μ', eFr β sd μ μ' → (rd K n 2 d p).1 ≠ 0 → eX β sd rv vl (rd K n 2 d p).1 (nI (pl (rd K n 2 d p).2.1)) μ' → P none μ') → X 7 μ [some (.ref (β + 110)), some (.int (nI 1)), u] []) ∧
  (∀ B V D, 4 * (401 - p) + 3 ≤ n → B.length ≤ 3 * d → coP 0 B = (B, []) → coP 0 T = (B, D) → C ++ D = V → V.length ≤ p → T.length ≤ 3 * d + 2 →
    (∀ μ' u' T' Cr D, eFr β sd μ μ' → (rd K n 3 d p).1 = 0 → eS β sd sz rv vl (rd K n 3 d p).2.1 d T' Cr ((rd K n 3 d p).2.2.foldl (eA rv pl) st) μ' → coP 0 T' = (B, D) → Cr ++ D = V ++ (rd K n 3 d p).2.2 → T'.length ≤ 3 * d + 2 → X 149 μ' [some (.ref (β + 110)), some (.int (nI 1)), u'] []) →
    (∀ μ', eFr β sd μ μ' → (rd K n 3 d p).1 ≠ 0 → eX β sd rv vl (rd K n 3 d p).1 (nI (pl (rd K n 3 d p).2.1)) μ' → P none μ') → X 149 μ [some (.ref (β + 110)), some (.int (nI 1)), u] []) ∧
  (∀ B V D, 4 * (401 - p) + 2 ≤ n → B.length ≤ 3 * d + 1 → coP 1 B = (B, []) → coP 1 T = (B, D) → C ++ D = V → V.length ≤ p → T.length ≤ B.length + 1 →
    (∀ μ' u' T' Cr D, eFr β sd μ μ' → (rd K n 4 d p).1 = 0 → eS β sd sz rv vl (rd K n 4 d p).2.1 d T' Cr ((rd K n 4 d p).2.2.foldl (eA rv pl) st) μ' → coP 1 T' = (B, D) → Cr ++ D = V ++ (rd K n 4 d p).2.2 → T'.length ≤ B.length + 1 → X 149 μ' [some (.ref (β + 110)), some (.int (nI 1)), u'] []) →
    (∀ μ', eFr β sd μ μ' → (rd K n 4 d p).1 ≠ 0 → eX β sd rv vl (rd K n 4 d p).1 (nI (pl (rd K n 4 d p).2.1)) μ' → P none μ') → X 149 μ [some (.ref (β + 110)), some (.int (nI 1)), u] [])
theorem rb_p0 {r : rdR} {f : Nat → rdR} (h : r.1 = 0) : rb r f = ((f r.2.1).1, (f r.2.1).2.1, r.2.2 ++ (f r.2.1).2.2) := by
  unfold rb; rw [if_pos h]
theorem rb_px {r : rdR} {f : Nat → rdR} (h : r.1 ≠ 0) : rb r f = r := by
  unfold rb; rw [if_neg h]
set_option maxHeartbeats 8000000 in
theorem eTh_s {S : gSh} {h β sd sz q0 n : Nat} {rv : Nat → Nat × Nat × Nat × Nat} {K pl vl nm : Nat → Nat} {Ev : gM → Prop} {P : gP} {X : Nat → gK} (hX : gClo K_X11_expression S (gRun S (h + 3)) P X) (hS : gLS S β) (hsd : sd < 2) (hz : dZ sz K) (hk : ∀ p, K p = 0 ∨ K p = 1 ∨ K p = 2 ∨ K p = 3 ∨ (4 ≤ K p ∧ K p ≤ 10) ∨ cS (K p)) (hnm : eNm S β sd sz rv K pl vl nm Ev q0 (h + 3)) (hEf : ∀ μ μ', eFr β sd μ μ' → Ev μ → Ev μ') (IH : eTh β sd sz rv K pl vl nm Ev P X q0 n) : eTh β sd sz rv K pl vl nm Ev P X q0 (n + 1) := by
  intro d p T C st μ u hq0 hd hR ht hEv s
  have hsz := hz.2.1
  obtain ⟨s1, s2, s3, s4, s5, s6, s7, s8, s9⟩ := id s
  have hp : p ≤ 400 := by omega
  refine ⟨fun hn hT hT0 hC hok hfa => ?_, fun hn hT hT1 hC hok hfa => ?_, fun hn hT hC hok hfa => ?_, fun B V D hn hB hB0 hco hV hVl hT hok hfa => ?_, fun B V D hn hB hB1 hco hV hVl hT hok hfa => ?_⟩
  · -- a sum
    rw [rd_0] at hok hfa
    refine (IH d p T C st μ u hq0 hd hR ht hEv s).2.1 (by omega) (by omega) (coP_01 T hT0) hC (fun μ1 u1 T1 C1 D1 f1 e s1' c1 v1 l1 => ?_) (fun μ1 f1 e x1 => ?_)
    · have gt := rd_gt (K := K) hp (by omega) e
      have le := rd_len (K := K) hp e
      rw [rb_p0 e] at hok hfa
      refine (IH d _ T1 C1 _ μ1 u1 (by omega) hd (by rw [f1.2]; exact hR) (eFr_T f1 ht) (hEf _ _ f1 hEv) s1').2.2.2.1 T _ D1 (by omega) hT hT0 (coP_up hT0 T1 D1 c1) v1 (by rw [List.length_append]; omega) (by omega) (fun μ2 u2 T2 C2 D2 f2 e2 s2' c2 v2 l2 => ?_) (fun μ2 f2 e2 x2 => hfa μ2 (eFr_t f1 f2) e2 x2)
      refine hok μ2 u2 T2 C2 D2 (eFr_t f1 f2) e2 ?_ c2 ?_ l2
      · dsimp only; rw [List.foldl_append]; exact s2'
      · dsimp only; rw [v2, List.append_assoc]
    · rw [rb_px e] at hfa
      exact hfa μ1 f1 e x1
  · -- a product
    rw [rd_1] at hok hfa
    refine (IH d p T C st μ u hq0 hd hR ht hEv s).2.2.1 (by omega) (by omega) hC (fun μ1 u1 f1 e s1' => ?_) (fun μ1 f1 e x1 => ?_)
    · have gt := rd_gt (K := K) hp (by omega) e
      have le := rd_len (K := K) hp e
      rw [rb_p0 e] at hok hfa
      refine (IH d _ T _ _ μ1 u1 (by omega) hd (by rw [f1.2]; exact hR) (eFr_T f1 ht) (hEf _ _ f1 hEv) s1').2.2.2.2 T _ [] (by omega) hT hT1 hT1 (List.append_nil _) (by rw [List.length_append]; omega) (by omega) (fun μ2 u2 T2 C2 D2 f2 e2 s2' c2 v2 l2 => ?_) (fun μ2 f2 e2 x2 => hfa μ2 (eFr_t f1 f2) e2 x2)
      refine hok μ2 u2 T2 C2 D2 (eFr_t f1 f2) e2 ?_ c2 ?_ l2
      · dsimp only; rw [List.foldl_append]; exact s2'
      · dsimp only; rw [v2, List.append_assoc]
    · rw [rb_px e] at hfa
      exact hfa μ1 f1 e x1
  · -- a unit
    rw [rd_2] at hok hfa
    unfold rUn at hok hfa
    obtain ⟨q8, q5, q9, q10, q11, q7, q25, q26, q2, q1⟩ := rK_inv (hk p)
    have hl29 : T.length ≤ 28 := by omega
    have hBr : ∀ B, (B = 7 ∨ 100 ≤ B) → coP 0 (B :: T) = (B :: T, []) ∧ inT (B :: T) = some B := by
      intro B hB
      simp only [coP, inT]
      rw [if_neg (by omega), if_pos hB]
      exact ⟨rfl, rfl⟩
    have t83 : K p ≠ 40 → K p ≠ 9 → K p ≠ 10 → ∀ u, X 83 μ [some (.ref (β + 110)), some (.int (nI 1)), u] [] := by
      intro n40 n9 n10 u
      have leaf : (K p = 2 ∨ K p = 3) → ∀ u, X 104 μ [some (.ref (β + 110)), some (.int (nI 1)), u] [] := by
        intro c u
        rw [if_pos c] at hok hfa
        refine leafStep (u := u) hX hS hR hsd hz ht hk hnm hq0 hEv s (by omega) c (fun μ1 f1 c4 x1 => ?_) (fun μ1 u1 f1 c4 s1' => ?_)
        · have ea : rAc K (K p) p = (2, p, []) := by unfold rAc; rw [if_neg (fun z => z rfl), if_pos c4]
          rw [ea, rb_px (by simp)] at hfa
          exact hfa μ1 f1 (by simp) x1
        · have ea : rAc K (K p) p = (0, p + 1, []) := by unfold rAc; rw [if_neg (fun z => z rfl), if_neg (by omega)]
          rw [ea, rb_p0 rfl] at hok
          exact hok μ1 u1 f1 rfl s1'
      refine b_X11_expression_83 hX ?_
      simp (disch := omega) only [B_X11_expression_83, ↓n_gb, ↓n_gb0, ↓n_ic, ↓n_icm, ↓n_lc, ↓e_lc, ↓e_null, ↓e_ldI, ↓e_ldL, ↓e_ldA, ↓e_stI, ↓e_stL, ↓e_stA, ↓n_inc, ↓n_incm1, ↓n_incm8, ↓e_iadd, ↓e_isub, ↓e_imul, ↓e_iand, ↓e_ior, ↓e_ixor, ↓n_ishl, ↓n_ishr, ↓e_iushr, ↓n_idiv, ↓e_ineg, ↓e_ladd, ↓e_lsub, ↓e_lmul, ↓e_lor, ↓e_lshl, ↓e_lshr, ↓e_i2l, ↓e_l2i, ↓e_i2b, ↓e_lcmp, ↓e_dup, ↓e_dup2, ↓e_pop, ↓e_ceq, ↓e_cne, ↓e_clt, ↓e_cge, ↓e_cgt, ↓e_cle, ↓n_zeq, ↓n_zne, ↓n_zlt, ↓n_zge, ↓n_zgt, ↓n_zle, ↓e_goto, ↓e_nn, ↓e_retI, ↓e_retL, ↓e_retV, ↓n_retZ, ↓e_retA, ↓e_gfI, ↓e_gfL, ↓e_gfR, ↓e_pfI, ↓n_pfZ, ↓e_pfL, ↓e_pfR, ↓e_iald, ↓e_lald, ↓e_aald, ↓e_alen, ↓e_iast, ↓e_bast, ↓n_zast, ↓e_last, ↓e_aast, ↓e_cV, ↓e_cS, ↓e_gsW, ↓e_gsK, ↓e_mmax, ↓e_mmin, ↓e_mmaxL, ↓e_mminL, gEnt, gPad, gArgs, gGet, gS1, gS2, gCl, gNo, gSp, gCt, n_sw, n_gSw, n_gSw0, Option.toList, List.cons_append, List.nil_append, Value.category, and_true, true_and, and_self, not_false_eq_true, not_true_eq_false, Nat.reduceAdd, Nat.reduceSub, Nat.reduceMul, Nat.reduceLeDiff, Nat.reduceLT, Nat.reduceEqDiff, forall_const, true_implies, false_implies, implies_true, Nat.zero_add, Option.some.injEq, Sum.inr.injEq, Sum.inl.injEq, Prod.mk.injEq, exists_eq_left', exists_eq_left, w_ne0, nI_add, w_lt, w_le, w_eq, w_meq, w_eqm, w_mlt, w_ltm, w_mle, w_lem, w_clamp, w_in, w_31, w_ite0, w_ite1, w_ite01, true_or, or_true, false_or, or_false, Nat.le_refl, Nat.lt_irrefl, S_110 hS, S_113 hS, S_115 hS, S_134 hS, R_110_5 hR, R_110_7 hR, R_110_39 hR]
      refine k_mIs (h := h + 2) hS hR hsz ht s2 s4 s1 (by omega) ?_
      by_cases c2 : K p = 2
      · rw [if_pos (q2.2 c2)]
        simp (disch := omega) only [↓n_gb, ↓n_gb0, ↓n_ic, ↓n_icm, ↓n_lc, ↓e_lc, ↓e_null, ↓e_ldI, ↓e_ldL, ↓e_ldA, ↓e_stI, ↓e_stL, ↓e_stA, ↓n_inc, ↓n_incm1, ↓n_incm8, ↓e_iadd, ↓e_isub, ↓e_imul, ↓e_iand, ↓e_ior, ↓e_ixor, ↓n_ishl, ↓n_ishr, ↓e_iushr, ↓n_idiv, ↓e_ineg, ↓e_ladd, ↓e_lsub, ↓e_lmul, ↓e_lor, ↓e_lshl, ↓e_lshr, ↓e_i2l, ↓e_l2i, ↓e_i2b, ↓e_lcmp, ↓e_dup, ↓e_dup2, ↓e_pop, ↓e_ceq, ↓e_cne, ↓e_clt, ↓e_cge, ↓e_cgt, ↓e_cle, ↓n_zeq, ↓n_zne, ↓n_zlt, ↓n_zge, ↓n_zgt, ↓n_zle, ↓e_goto, ↓e_nn, ↓e_retI, ↓e_retL, ↓e_retV, ↓n_retZ, ↓e_retA, ↓e_gfI, ↓e_gfL, ↓e_gfR, ↓e_pfI, ↓n_pfZ, ↓e_pfL, ↓e_pfR, ↓e_iald, ↓e_lald, ↓e_aald, ↓e_alen, ↓e_iast, ↓e_bast, ↓n_zast, ↓e_last, ↓e_aast, ↓e_cV, ↓e_cS, ↓e_gsW, ↓e_gsK, ↓e_mmax, ↓e_mmin, ↓e_mmaxL, ↓e_mminL, gEnt, gPad, gArgs, gGet, gS1, gS2, gCl, gNo, gSp, gCt, n_sw, n_gSw, n_gSw0, Option.toList, List.cons_append, List.nil_append, Value.category, and_true, true_and, and_self, not_false_eq_true, not_true_eq_false, Nat.reduceAdd, Nat.reduceSub, Nat.reduceMul, Nat.reduceLeDiff, Nat.reduceLT, Nat.reduceEqDiff, forall_const, true_implies, false_implies, implies_true, Nat.zero_add, Option.some.injEq, Sum.inr.injEq, Sum.inl.injEq, Prod.mk.injEq, exists_eq_left', exists_eq_left, w_ne0, nI_add, w_lt, w_le, w_eq, w_meq, w_eqm, w_mlt, w_ltm, w_mle, w_lem, w_clamp, w_in, w_31, w_ite0, w_ite1, w_ite01, true_or, or_true, false_or, or_false, Nat.le_refl, Nat.lt_irrefl, S_110 hS, S_113 hS, S_115 hS, S_134 hS, R_110_5 hR, R_110_7 hR, R_110_39 hR]
        exact leaf (Or.inl c2) _
      rw [if_neg (fun z => c2 (q2.1 z))]
      simp (disch := omega) only [↓n_gb, ↓n_gb0, ↓n_ic, ↓n_icm, ↓n_lc, ↓e_lc, ↓e_null, ↓e_ldI, ↓e_ldL, ↓e_ldA, ↓e_stI, ↓e_stL, ↓e_stA, ↓n_inc, ↓n_incm1, ↓n_incm8, ↓e_iadd, ↓e_isub, ↓e_imul, ↓e_iand, ↓e_ior, ↓e_ixor, ↓n_ishl, ↓n_ishr, ↓e_iushr, ↓n_idiv, ↓e_ineg, ↓e_ladd, ↓e_lsub, ↓e_lmul, ↓e_lor, ↓e_lshl, ↓e_lshr, ↓e_i2l, ↓e_l2i, ↓e_i2b, ↓e_lcmp, ↓e_dup, ↓e_dup2, ↓e_pop, ↓e_ceq, ↓e_cne, ↓e_clt, ↓e_cge, ↓e_cgt, ↓e_cle, ↓n_zeq, ↓n_zne, ↓n_zlt, ↓n_zge, ↓n_zgt, ↓n_zle, ↓e_goto, ↓e_nn, ↓e_retI, ↓e_retL, ↓e_retV, ↓n_retZ, ↓e_retA, ↓e_gfI, ↓e_gfL, ↓e_gfR, ↓e_pfI, ↓n_pfZ, ↓e_pfL, ↓e_pfR, ↓e_iald, ↓e_lald, ↓e_aald, ↓e_alen, ↓e_iast, ↓e_bast, ↓n_zast, ↓e_last, ↓e_aast, ↓e_cV, ↓e_cS, ↓e_gsW, ↓e_gsK, ↓e_mmax, ↓e_mmin, ↓e_mmaxL, ↓e_mminL, gEnt, gPad, gArgs, gGet, gS1, gS2, gCl, gNo, gSp, gCt, n_sw, n_gSw, n_gSw0, Option.toList, List.cons_append, List.nil_append, Value.category, and_true, true_and, and_self, not_false_eq_true, not_true_eq_false, Nat.reduceAdd, Nat.reduceSub, Nat.reduceMul, Nat.reduceLeDiff, Nat.reduceLT, Nat.reduceEqDiff, forall_const, true_implies, false_implies, implies_true, Nat.zero_add, Option.some.injEq, Sum.inr.injEq, Sum.inl.injEq, Prod.mk.injEq, exists_eq_left', exists_eq_left, w_ne0, nI_add, w_lt, w_le, w_eq, w_meq, w_eqm, w_mlt, w_ltm, w_mle, w_lem, w_clamp, w_in, w_31, w_ite0, w_ite1, w_ite01, true_or, or_true, false_or, or_false, Nat.le_refl, Nat.lt_irrefl, S_110 hS, S_113 hS, S_115 hS, S_134 hS, R_110_5 hR, R_110_7 hR, R_110_39 hR]
      refine k_mIs (h := h + 2) hS hR hsz ht s2 s4 s1 (by omega) ?_
      by_cases c3 : K p = 3
      · rw [if_pos (q1.2 c3)]
        simp (disch := omega) only [↓n_gb, ↓n_gb0, ↓n_ic, ↓n_icm, ↓n_lc, ↓e_lc, ↓e_null, ↓e_ldI, ↓e_ldL, ↓e_ldA, ↓e_stI, ↓e_stL, ↓e_stA, ↓n_inc, ↓n_incm1, ↓n_incm8, ↓e_iadd, ↓e_isub, ↓e_imul, ↓e_iand, ↓e_ior, ↓e_ixor, ↓n_ishl, ↓n_ishr, ↓e_iushr, ↓n_idiv, ↓e_ineg, ↓e_ladd, ↓e_lsub, ↓e_lmul, ↓e_lor, ↓e_lshl, ↓e_lshr, ↓e_i2l, ↓e_l2i, ↓e_i2b, ↓e_lcmp, ↓e_dup, ↓e_dup2, ↓e_pop, ↓e_ceq, ↓e_cne, ↓e_clt, ↓e_cge, ↓e_cgt, ↓e_cle, ↓n_zeq, ↓n_zne, ↓n_zlt, ↓n_zge, ↓n_zgt, ↓n_zle, ↓e_goto, ↓e_nn, ↓e_retI, ↓e_retL, ↓e_retV, ↓n_retZ, ↓e_retA, ↓e_gfI, ↓e_gfL, ↓e_gfR, ↓e_pfI, ↓n_pfZ, ↓e_pfL, ↓e_pfR, ↓e_iald, ↓e_lald, ↓e_aald, ↓e_alen, ↓e_iast, ↓e_bast, ↓n_zast, ↓e_last, ↓e_aast, ↓e_cV, ↓e_cS, ↓e_gsW, ↓e_gsK, ↓e_mmax, ↓e_mmin, ↓e_mmaxL, ↓e_mminL, gEnt, gPad, gArgs, gGet, gS1, gS2, gCl, gNo, gSp, gCt, n_sw, n_gSw, n_gSw0, Option.toList, List.cons_append, List.nil_append, Value.category, and_true, true_and, and_self, not_false_eq_true, not_true_eq_false, Nat.reduceAdd, Nat.reduceSub, Nat.reduceMul, Nat.reduceLeDiff, Nat.reduceLT, Nat.reduceEqDiff, forall_const, true_implies, false_implies, implies_true, Nat.zero_add, Option.some.injEq, Sum.inr.injEq, Sum.inl.injEq, Prod.mk.injEq, exists_eq_left', exists_eq_left, w_ne0, nI_add, w_lt, w_le, w_eq, w_meq, w_eqm, w_mlt, w_ltm, w_mle, w_lem, w_clamp, w_in, w_31, w_ite0, w_ite1, w_ite01, true_or, or_true, false_or, or_false, Nat.le_refl, Nat.lt_irrefl, S_110 hS, S_113 hS, S_115 hS, S_134 hS, R_110_5 hR, R_110_7 hR, R_110_39 hR]
        exact leaf (Or.inr c3) _
      rw [if_neg (fun z => c3 (q1.1 z))]
      rw [if_neg (by omega), if_neg (by omega), if_neg n40] at hfa
      obtain ⟨x1, x2⟩ := eS_fl (f := 1) (v := nI (pl p)) hsz (by omega) (by omega) (by omega) s
      simp (disch := omega) only [↓n_gb, ↓n_gb0, ↓n_ic, ↓n_icm, ↓n_lc, ↓e_lc, ↓e_null, ↓e_ldI, ↓e_ldL, ↓e_ldA, ↓e_stI, ↓e_stL, ↓e_stA, ↓n_inc, ↓n_incm1, ↓n_incm8, ↓e_iadd, ↓e_isub, ↓e_imul, ↓e_iand, ↓e_ior, ↓e_ixor, ↓n_ishl, ↓n_ishr, ↓e_iushr, ↓n_idiv, ↓e_ineg, ↓e_ladd, ↓e_lsub, ↓e_lmul, ↓e_lor, ↓e_lshl, ↓e_lshr, ↓e_i2l, ↓e_l2i, ↓e_i2b, ↓e_lcmp, ↓e_dup, ↓e_dup2, ↓e_pop, ↓e_ceq, ↓e_cne, ↓e_clt, ↓e_cge, ↓e_cgt, ↓e_cle, ↓n_zeq, ↓n_zne, ↓n_zlt, ↓n_zge, ↓n_zgt, ↓n_zle, ↓e_goto, ↓e_nn, ↓e_retI, ↓e_retL, ↓e_retV, ↓n_retZ, ↓e_retA, ↓e_gfI, ↓e_gfL, ↓e_gfR, ↓e_pfI, ↓n_pfZ, ↓e_pfL, ↓e_pfR, ↓e_iald, ↓e_lald, ↓e_aald, ↓e_alen, ↓e_iast, ↓e_bast, ↓n_zast, ↓e_last, ↓e_aast, ↓e_cV, ↓e_cS, ↓e_gsW, ↓e_gsK, ↓e_mmax, ↓e_mmin, ↓e_mmaxL, ↓e_mminL, gEnt, gPad, gArgs, gGet, gS1, gS2, gCl, gNo, gSp, gCt, n_sw, n_gSw, n_gSw0, Option.toList, List.cons_append, List.nil_append, Value.category, and_true, true_and, and_self, not_false_eq_true, not_true_eq_false, Nat.reduceAdd, Nat.reduceSub, Nat.reduceMul, Nat.reduceLeDiff, Nat.reduceLT, Nat.reduceEqDiff, forall_const, true_implies, false_implies, implies_true, Nat.zero_add, Option.some.injEq, Sum.inr.injEq, Sum.inl.injEq, Prod.mk.injEq, exists_eq_left', exists_eq_left, w_ne0, nI_add, w_lt, w_le, w_eq, w_meq, w_eqm, w_mlt, w_ltm, w_mle, w_lem, w_clamp, w_in, w_31, w_ite0, w_ite1, w_ite01, true_or, or_true, false_or, or_false, Nat.le_refl, Nat.lt_irrefl, S_110 hS, S_113 hS, S_115 hS, S_134 hS, R_110_5 hR, R_110_7 hR, R_110_39 hR]
      refine k_mFail (h := h + 2) hS hR hsz ht s2 s4 s1 ?_
      have x3 := x1.2.2.1
      dsimp only at x3
      simp (disch := omega) only [↓n_gb, ↓n_gb0, ↓n_ic, ↓n_icm, ↓n_lc, ↓e_lc, ↓e_null, ↓e_ldI, ↓e_ldL, ↓e_ldA, ↓e_stI, ↓e_stL, ↓e_stA, ↓n_inc, ↓n_incm1, ↓n_incm8, ↓e_iadd, ↓e_isub, ↓e_imul, ↓e_iand, ↓e_ior, ↓e_ixor, ↓n_ishl, ↓n_ishr, ↓e_iushr, ↓n_idiv, ↓e_ineg, ↓e_ladd, ↓e_lsub, ↓e_lmul, ↓e_lor, ↓e_lshl, ↓e_lshr, ↓e_i2l, ↓e_l2i, ↓e_i2b, ↓e_lcmp, ↓e_dup, ↓e_dup2, ↓e_pop, ↓e_ceq, ↓e_cne, ↓e_clt, ↓e_cge, ↓e_cgt, ↓e_cle, ↓n_zeq, ↓n_zne, ↓n_zlt, ↓n_zge, ↓n_zgt, ↓n_zle, ↓e_goto, ↓e_nn, ↓e_retI, ↓e_retL, ↓e_retV, ↓n_retZ, ↓e_retA, ↓e_gfI, ↓e_gfL, ↓e_gfR, ↓e_pfI, ↓n_pfZ, ↓e_pfL, ↓e_pfR, ↓e_iald, ↓e_lald, ↓e_aald, ↓e_alen, ↓e_iast, ↓e_bast, ↓n_zast, ↓e_last, ↓e_aast, ↓e_cV, ↓e_cS, ↓e_gsW, ↓e_gsK, ↓e_mmax, ↓e_mmin, ↓e_mmaxL, ↓e_mminL, gEnt, gPad, gArgs, gGet, gS1, gS2, gCl, gNo, gSp, gCt, n_sw, n_gSw, n_gSw0, Option.toList, List.cons_append, List.nil_append, Value.category, and_true, true_and, and_self, not_false_eq_true, not_true_eq_false, Nat.reduceAdd, Nat.reduceSub, Nat.reduceMul, Nat.reduceLeDiff, Nat.reduceLT, Nat.reduceEqDiff, forall_const, true_implies, false_implies, implies_true, Nat.zero_add, Option.some.injEq, Sum.inr.injEq, Sum.inl.injEq, Prod.mk.injEq, exists_eq_left', exists_eq_left, w_ne0, nI_add, w_lt, w_le, w_eq, w_meq, w_eqm, w_mlt, w_ltm, w_mle, w_lem, w_clamp, w_in, w_31, w_ite0, w_ite1, w_ite01, true_or, or_true, false_or, or_false, Nat.le_refl, Nat.lt_irrefl, S_110 hS, S_113 hS, S_115 hS, S_134 hS, R_110_5 hR, R_110_7 hR, R_110_39 hR]
      refine b_X11_expression_104 hX ?_
      simp (disch := omega) only [B_X11_expression_104, ↓n_gb, ↓n_gb0, ↓n_ic, ↓n_icm, ↓n_lc, ↓e_lc, ↓e_null, ↓e_ldI, ↓e_ldL, ↓e_ldA, ↓e_stI, ↓e_stL, ↓e_stA, ↓n_inc, ↓n_incm1, ↓n_incm8, ↓e_iadd, ↓e_isub, ↓e_imul, ↓e_iand, ↓e_ior, ↓e_ixor, ↓n_ishl, ↓n_ishr, ↓e_iushr, ↓n_idiv, ↓e_ineg, ↓e_ladd, ↓e_lsub, ↓e_lmul, ↓e_lor, ↓e_lshl, ↓e_lshr, ↓e_i2l, ↓e_l2i, ↓e_i2b, ↓e_lcmp, ↓e_dup, ↓e_dup2, ↓e_pop, ↓e_ceq, ↓e_cne, ↓e_clt, ↓e_cge, ↓e_cgt, ↓e_cle, ↓n_zeq, ↓n_zne, ↓n_zlt, ↓n_zge, ↓n_zgt, ↓n_zle, ↓e_goto, ↓e_nn, ↓e_retI, ↓e_retL, ↓e_retV, ↓n_retZ, ↓e_retA, ↓e_gfI, ↓e_gfL, ↓e_gfR, ↓e_pfI, ↓n_pfZ, ↓e_pfL, ↓e_pfR, ↓e_iald, ↓e_lald, ↓e_aald, ↓e_alen, ↓e_iast, ↓e_bast, ↓n_zast, ↓e_last, ↓e_aast, ↓e_cV, ↓e_cS, ↓e_gsW, ↓e_gsK, ↓e_mmax, ↓e_mmin, ↓e_mmaxL, ↓e_mminL, gEnt, gPad, gArgs, gGet, gS1, gS2, gCl, gNo, gSp, gCt, n_sw, n_gSw, n_gSw0, Option.toList, List.cons_append, List.nil_append, Value.category, and_true, true_and, and_self, not_false_eq_true, not_true_eq_false, Nat.reduceAdd, Nat.reduceSub, Nat.reduceMul, Nat.reduceLeDiff, Nat.reduceLT, Nat.reduceEqDiff, forall_const, true_implies, false_implies, implies_true, Nat.zero_add, Option.some.injEq, Sum.inr.injEq, Sum.inl.injEq, Prod.mk.injEq, exists_eq_left', exists_eq_left, w_ne0, nI_add, w_lt, w_le, w_eq, w_meq, w_eqm, w_mlt, w_ltm, w_mle, w_lem, w_clamp, w_in, w_31, w_ite0, w_ite1, w_ite01, true_or, or_true, false_or, or_false, Nat.le_refl, Nat.lt_irrefl, S_110 hS, S_113 hS, S_115 hS, S_134 hS, R_110_5 hR, R_110_7 hR, R_110_39 hR, x3]
      exact hfa _ x2 (by simp) x1
    have t70 : ∀ how u, (how = 100 ∧ K p = 9) ∨ (how = 101 ∧ K p = 10) → X 70 μ [some (.ref (β + 110)), some (.int (nI 1)), u] [.int (nI how)] := by
      intro how u hh
      rw [if_neg (by omega), if_pos (by omega)] at hok hfa
      refine b_X11_expression_70 hX ?_
      simp (disch := omega) only [B_X11_expression_70, ↓n_gb, ↓n_gb0, ↓n_ic, ↓n_icm, ↓n_lc, ↓e_lc, ↓e_null, ↓e_ldI, ↓e_ldL, ↓e_ldA, ↓e_stI, ↓e_stL, ↓e_stA, ↓n_inc, ↓n_incm1, ↓n_incm8, ↓e_iadd, ↓e_isub, ↓e_imul, ↓e_iand, ↓e_ior, ↓e_ixor, ↓n_ishl, ↓n_ishr, ↓e_iushr, ↓n_idiv, ↓e_ineg, ↓e_ladd, ↓e_lsub, ↓e_lmul, ↓e_lor, ↓e_lshl, ↓e_lshr, ↓e_i2l, ↓e_l2i, ↓e_i2b, ↓e_lcmp, ↓e_dup, ↓e_dup2, ↓e_pop, ↓e_ceq, ↓e_cne, ↓e_clt, ↓e_cge, ↓e_cgt, ↓e_cle, ↓n_zeq, ↓n_zne, ↓n_zlt, ↓n_zge, ↓n_zgt, ↓n_zle, ↓e_goto, ↓e_nn, ↓e_retI, ↓e_retL, ↓e_retV, ↓n_retZ, ↓e_retA, ↓e_gfI, ↓e_gfL, ↓e_gfR, ↓e_pfI, ↓n_pfZ, ↓e_pfL, ↓e_pfR, ↓e_iald, ↓e_lald, ↓e_aald, ↓e_alen, ↓e_iast, ↓e_bast, ↓n_zast, ↓e_last, ↓e_aast, ↓e_cV, ↓e_cS, ↓e_gsW, ↓e_gsK, ↓e_mmax, ↓e_mmin, ↓e_mmaxL, ↓e_mminL, gEnt, gPad, gArgs, gGet, gS1, gS2, gCl, gNo, gSp, gCt, n_sw, n_gSw, n_gSw0, Option.toList, List.cons_append, List.nil_append, Value.category, and_true, true_and, and_self, not_false_eq_true, not_true_eq_false, Nat.reduceAdd, Nat.reduceSub, Nat.reduceMul, Nat.reduceLeDiff, Nat.reduceLT, Nat.reduceEqDiff, forall_const, true_implies, false_implies, implies_true, Nat.zero_add, Option.some.injEq, Sum.inr.injEq, Sum.inl.injEq, Prod.mk.injEq, exists_eq_left', exists_eq_left, w_ne0, nI_add, w_lt, w_le, w_eq, w_meq, w_eqm, w_mlt, w_ltm, w_mle, w_lem, w_clamp, w_in, w_31, w_ite0, w_ite1, w_ite01, true_or, or_true, false_or, or_false, Nat.le_refl, Nat.lt_irrefl, S_110 hS, S_113 hS, S_115 hS, S_134 hS, R_110_5 hR, R_110_7 hR, R_110_39 hR]
      refine k_mNextS (h := h + 1) (T := T) (C := C) (st := st) (d := d) hS hR hz ht (by omega) (by omega) (by omega) s1 s2 s3 s4 s5 s6 s8 s9 (fun μ1 f1 c4 x1 => ?_) (fun μ1 f1 c4 s1' => ?_)
      · have hR1 : gPS μ1.2.2 β := by rw [f1.2]; exact hR
        have ea : rAc K (K p) p = (2, p, []) := by unfold rAc; rw [if_neg (fun z => z rfl), if_pos c4]
        rw [ea, rb_px (by simp)] at hfa
        simp (disch := omega) only [↓n_gb, ↓n_gb0, ↓n_ic, ↓n_icm, ↓n_lc, ↓e_lc, ↓e_null, ↓e_ldI, ↓e_ldL, ↓e_ldA, ↓e_stI, ↓e_stL, ↓e_stA, ↓n_inc, ↓n_incm1, ↓n_incm8, ↓e_iadd, ↓e_isub, ↓e_imul, ↓e_iand, ↓e_ior, ↓e_ixor, ↓n_ishl, ↓n_ishr, ↓e_iushr, ↓n_idiv, ↓e_ineg, ↓e_ladd, ↓e_lsub, ↓e_lmul, ↓e_lor, ↓e_lshl, ↓e_lshr, ↓e_i2l, ↓e_l2i, ↓e_i2b, ↓e_lcmp, ↓e_dup, ↓e_dup2, ↓e_pop, ↓e_ceq, ↓e_cne, ↓e_clt, ↓e_cge, ↓e_cgt, ↓e_cle, ↓n_zeq, ↓n_zne, ↓n_zlt, ↓n_zge, ↓n_zgt, ↓n_zle, ↓e_goto, ↓e_nn, ↓e_retI, ↓e_retL, ↓e_retV, ↓n_retZ, ↓e_retA, ↓e_gfI, ↓e_gfL, ↓e_gfR, ↓e_pfI, ↓n_pfZ, ↓e_pfL, ↓e_pfR, ↓e_iald, ↓e_lald, ↓e_aald, ↓e_alen, ↓e_iast, ↓e_bast, ↓n_zast, ↓e_last, ↓e_aast, ↓e_cV, ↓e_cS, ↓e_gsW, ↓e_gsK, ↓e_mmax, ↓e_mmin, ↓e_mmaxL, ↓e_mminL, gEnt, gPad, gArgs, gGet, gS1, gS2, gCl, gNo, gSp, gCt, n_sw, n_gSw, n_gSw0, Option.toList, List.cons_append, List.nil_append, Value.category, and_true, true_and, and_self, not_false_eq_true, not_true_eq_false, Nat.reduceAdd, Nat.reduceSub, Nat.reduceMul, Nat.reduceLeDiff, Nat.reduceLT, Nat.reduceEqDiff, forall_const, true_implies, false_implies, implies_true, Nat.zero_add, Option.some.injEq, Sum.inr.injEq, Sum.inl.injEq, Prod.mk.injEq, exists_eq_left', exists_eq_left, w_ne0, nI_add, w_lt, w_le, w_eq, w_meq, w_eqm, w_mlt, w_ltm, w_mle, w_lem, w_clamp, w_in, w_31, w_ite0, w_ite1, w_ite01, true_or, or_true, false_or, or_false, Nat.le_refl, Nat.lt_irrefl, S_110 hS, S_113 hS, S_115 hS, S_134 hS, R_110_5 hR, R_110_7 hR, R_110_39 hR]
        refine k_mOpensF (h := h + 1) hS hR1 x1 ?_
        simp (disch := omega) only [↓n_gb, ↓n_gb0, ↓n_ic, ↓n_icm, ↓n_lc, ↓e_lc, ↓e_null, ↓e_ldI, ↓e_ldL, ↓e_ldA, ↓e_stI, ↓e_stL, ↓e_stA, ↓n_inc, ↓n_incm1, ↓n_incm8, ↓e_iadd, ↓e_isub, ↓e_imul, ↓e_iand, ↓e_ior, ↓e_ixor, ↓n_ishl, ↓n_ishr, ↓e_iushr, ↓n_idiv, ↓e_ineg, ↓e_ladd, ↓e_lsub, ↓e_lmul, ↓e_lor, ↓e_lshl, ↓e_lshr, ↓e_i2l, ↓e_l2i, ↓e_i2b, ↓e_lcmp, ↓e_dup, ↓e_dup2, ↓e_pop, ↓e_ceq, ↓e_cne, ↓e_clt, ↓e_cge, ↓e_cgt, ↓e_cle, ↓n_zeq, ↓n_zne, ↓n_zlt, ↓n_zge, ↓n_zgt, ↓n_zle, ↓e_goto, ↓e_nn, ↓e_retI, ↓e_retL, ↓e_retV, ↓n_retZ, ↓e_retA, ↓e_gfI, ↓e_gfL, ↓e_gfR, ↓e_pfI, ↓n_pfZ, ↓e_pfL, ↓e_pfR, ↓e_iald, ↓e_lald, ↓e_aald, ↓e_alen, ↓e_iast, ↓e_bast, ↓n_zast, ↓e_last, ↓e_aast, ↓e_cV, ↓e_cS, ↓e_gsW, ↓e_gsK, ↓e_mmax, ↓e_mmin, ↓e_mmaxL, ↓e_mminL, gEnt, gPad, gArgs, gGet, gS1, gS2, gCl, gNo, gSp, gCt, n_sw, n_gSw, n_gSw0, Option.toList, List.cons_append, List.nil_append, Value.category, and_true, true_and, and_self, not_false_eq_true, not_true_eq_false, Nat.reduceAdd, Nat.reduceSub, Nat.reduceMul, Nat.reduceLeDiff, Nat.reduceLT, Nat.reduceEqDiff, forall_const, true_implies, false_implies, implies_true, Nat.zero_add, Option.some.injEq, Sum.inr.injEq, Sum.inl.injEq, Prod.mk.injEq, exists_eq_left', exists_eq_left, w_ne0, nI_add, w_lt, w_le, w_eq, w_meq, w_eqm, w_mlt, w_ltm, w_mle, w_lem, w_clamp, w_in, w_31, w_ite0, w_ite1, w_ite01, true_or, or_true, false_or, or_false, Nat.le_refl, Nat.lt_irrefl, S_110 hS, S_113 hS, S_115 hS, S_134 hS, R_110_5 hR, R_110_7 hR, R_110_39 hR]
        exact wantF hX hS hR1 x1 (hfa μ1 f1 (by simp) x1)
      · have hR1 : gPS μ1.2.2 β := by rw [f1.2]; exact hR
        have ht1 := eFr_T f1 ht
        have ea : rAc K (K p) p = (0, p + 1, []) := by unfold rAc; rw [if_neg (fun z => z rfl), if_neg (by omega)]
        rw [ea, rb_p0 rfl] at hok hfa
        dsimp only at hok hfa
        rw [List.nil_append] at hok
        have fault : ∀ f q c μ', f ≠ 0 → rPr K (rd K n 0 (d + 1)) d (p + 1) = (f, q, c) → eFr β sd μ μ' → eX β sd rv vl f (nI (pl q)) μ' → P none μ' := by
          intro f q c μ' hf hr hfr hx
          rw [hr, rb_px (r := (f, q, c)) hf] at hfa
          exact hfa μ' hfr hf hx
        simp (disch := omega) only [↓n_gb, ↓n_gb0, ↓n_ic, ↓n_icm, ↓n_lc, ↓e_lc, ↓e_null, ↓e_ldI, ↓e_ldL, ↓e_ldA, ↓e_stI, ↓e_stL, ↓e_stA, ↓n_inc, ↓n_incm1, ↓n_incm8, ↓e_iadd, ↓e_isub, ↓e_imul, ↓e_iand, ↓e_ior, ↓e_ixor, ↓n_ishl, ↓n_ishr, ↓e_iushr, ↓n_idiv, ↓e_ineg, ↓e_ladd, ↓e_lsub, ↓e_lmul, ↓e_lor, ↓e_lshl, ↓e_lshr, ↓e_i2l, ↓e_l2i, ↓e_i2b, ↓e_lcmp, ↓e_dup, ↓e_dup2, ↓e_pop, ↓e_ceq, ↓e_cne, ↓e_clt, ↓e_cge, ↓e_cgt, ↓e_cle, ↓n_zeq, ↓n_zne, ↓n_zlt, ↓n_zge, ↓n_zgt, ↓n_zle, ↓e_goto, ↓e_nn, ↓e_retI, ↓e_retL, ↓e_retV, ↓n_retZ, ↓e_retA, ↓e_gfI, ↓e_gfL, ↓e_gfR, ↓e_pfI, ↓n_pfZ, ↓e_pfL, ↓e_pfR, ↓e_iald, ↓e_lald, ↓e_aald, ↓e_alen, ↓e_iast, ↓e_bast, ↓n_zast, ↓e_last, ↓e_aast, ↓e_cV, ↓e_cS, ↓e_gsW, ↓e_gsK, ↓e_mmax, ↓e_mmin, ↓e_mmaxL, ↓e_mminL, gEnt, gPad, gArgs, gGet, gS1, gS2, gCl, gNo, gSp, gCt, n_sw, n_gSw, n_gSw0, Option.toList, List.cons_append, List.nil_append, Value.category, and_true, true_and, and_self, not_false_eq_true, not_true_eq_false, Nat.reduceAdd, Nat.reduceSub, Nat.reduceMul, Nat.reduceLeDiff, Nat.reduceLT, Nat.reduceEqDiff, forall_const, true_implies, false_implies, implies_true, Nat.zero_add, Option.some.injEq, Sum.inr.injEq, Sum.inl.injEq, Prod.mk.injEq, exists_eq_left', exists_eq_left, w_ne0, nI_add, w_lt, w_le, w_eq, w_meq, w_eqm, w_mlt, w_ltm, w_mle, w_lem, w_clamp, w_in, w_31, w_ite0, w_ite1, w_ite01, true_or, or_true, false_or, or_false, Nat.le_refl, Nat.lt_irrefl, S_110 hS, S_113 hS, S_115 hS, S_134 hS, R_110_5 hR, R_110_7 hR, R_110_39 hR]
        refine k_mOpens (h := h) (how := how) hS hR1 hz ht1 hk (by omega) hd (by omega) s1' (fun μ2 f2 e0 e1 => ?_)
        have hR2 : gPS μ2.2.2 β := by rw [f2.2]; exact hR1
        have ht2 := eFr_T f2 ht1
        have hE2 := hEf _ _ f2 (hEf _ _ f1 hEv)
        simp (disch := omega) only [↓n_gb, ↓n_gb0, ↓n_ic, ↓n_icm, ↓n_lc, ↓e_lc, ↓e_null, ↓e_ldI, ↓e_ldL, ↓e_ldA, ↓e_stI, ↓e_stL, ↓e_stA, ↓n_inc, ↓n_incm1, ↓n_incm8, ↓e_iadd, ↓e_isub, ↓e_imul, ↓e_iand, ↓e_ior, ↓e_ixor, ↓n_ishl, ↓n_ishr, ↓e_iushr, ↓n_idiv, ↓e_ineg, ↓e_ladd, ↓e_lsub, ↓e_lmul, ↓e_lor, ↓e_lshl, ↓e_lshr, ↓e_i2l, ↓e_l2i, ↓e_i2b, ↓e_lcmp, ↓e_dup, ↓e_dup2, ↓e_pop, ↓e_ceq, ↓e_cne, ↓e_clt, ↓e_cge, ↓e_cgt, ↓e_cle, ↓n_zeq, ↓n_zne, ↓n_zlt, ↓n_zge, ↓n_zgt, ↓n_zle, ↓e_goto, ↓e_nn, ↓e_retI, ↓e_retL, ↓e_retV, ↓n_retZ, ↓e_retA, ↓e_gfI, ↓e_gfL, ↓e_gfR, ↓e_pfI, ↓n_pfZ, ↓e_pfL, ↓e_pfR, ↓e_iald, ↓e_lald, ↓e_aald, ↓e_alen, ↓e_iast, ↓e_bast, ↓n_zast, ↓e_last, ↓e_aast, ↓e_cV, ↓e_cS, ↓e_gsW, ↓e_gsK, ↓e_mmax, ↓e_mmin, ↓e_mmaxL, ↓e_mminL, gEnt, gPad, gArgs, gGet, gS1, gS2, gCl, gNo, gSp, gCt, n_sw, n_gSw, n_gSw0, Option.toList, List.cons_append, List.nil_append, Value.category, and_true, true_and, and_self, not_false_eq_true, not_true_eq_false, Nat.reduceAdd, Nat.reduceSub, Nat.reduceMul, Nat.reduceLeDiff, Nat.reduceLT, Nat.reduceEqDiff, forall_const, true_implies, false_implies, implies_true, Nat.zero_add, Option.some.injEq, Sum.inr.injEq, Sum.inl.injEq, Prod.mk.injEq, exists_eq_left', exists_eq_left, w_ne0, nI_add, w_lt, w_le, w_eq, w_meq, w_eqm, w_mlt, w_ltm, w_mle, w_lem, w_clamp, w_in, w_31, w_ite0, w_ite1, w_ite01, true_or, or_true, false_or, or_false, Nat.le_refl, Nat.lt_irrefl, S_110 hS, S_113 hS, S_115 hS, S_134 hS, R_110_5 hR, R_110_7 hR, R_110_39 hR]
        by_cases e : (rOp K d (p + 1)).1 = 0
        · obtain ⟨-, a2, a4, a3⟩ := rOp_0 e
          have s2' := e0 e
          have hp1 : rPr K (rd K n 0 (d + 1)) d (p + 1) = rb (rd K n 0 (d + 1) (p + 1 + 1)) (fun p3 => rb (rAc K 44 p3) (fun p4 => rb (rd K n 0 (d + 1) p4) (fun p5 => rAc K 41 p5))) := by
            unfold rPr
            rw [a3, rb_p0 (r := (0, p + 1 + 1, [])) rfl]
            dsimp only
            rw [List.nil_append]
          obtain ⟨b0, b1⟩ := hBr how (by omega)
          refine (IH (d + 1) (p + 1 + 1) (how :: T) C st μ2 _ (by omega) (by omega) hR2 ht2 hE2 s2').1 (by omega) (by simp; omega) b0 (by omega) (fun μ3 u3 T3 C3 D3 f3 e3 s3' c3 v3 l3 => ?_) (fun μ3 f3 e3 x3 => ?_)
          · have hR3 : gPS μ3.2.2 β := by rw [f3.2]; exact hR2
            have ht3 := eFr_T f3 ht2
            have gt := rd_gt (K := K) (show p + 1 + 1 ≤ 400 by omega) (by omega) e3
            have le := rd_len (K := K) (show p + 1 + 1 ≤ 400 by omega) e3
            have hend := (rd_end (K := K) n 0 (d + 1) _ e3).2.2.2 rfl
            have hin := coP_in 0 T3 _ D3 c3
            rw [b1] at hin
            rw [rb_p0 e3] at hp1
            generalize rd K n 0 (d + 1) (p + 1 + 1) = r3 at *
            have hv3 : (C3 ++ D3).length ≤ r3.2.1 := by rw [v3, List.length_append]; omega
            by_cases c44 : K r3.2.1 = 44
            · refine commaStep (h := h + 1) hX hS hR3 hsd hz ht3 hk s3' (by omega) c3 hin (by omega) hv3 c44 (fun μ4 f4 c4' x4 => ?_) (fun μ4 u4 f4 c4' s4' => ?_)
              · have ea2 : rAc K 44 r3.2.1 = (2, r3.2.1, []) := by unfold rAc; rw [if_neg (fun z => z c44), if_pos c4']
                rw [ea2, rb_px (r := (2, r3.2.1, [])) (by simp)] at hp1
                exact fault _ _ _ μ4 (by simp) hp1 (eFr_t f1 (eFr_t f2 (eFr_t f3 f4))) x4
              · have hR4 : gPS μ4.2.2 β := by rw [f4.2]; exact hR3
                have ht4 := eFr_T f4 ht3
                have hE4 := hEf _ _ f4 (hEf _ _ f3 hE2)
                have ea2 : rAc K 44 r3.2.1 = (0, r3.2.1 + 1, []) := by unfold rAc; rw [if_neg (fun z => z c44), if_neg (by omega)]
                rw [ea2, rb_p0 (r := (0, r3.2.1 + 1, [])) rfl] at hp1
                dsimp only at hp1
                obtain ⟨b2, b3⟩ := hBr (how + 2) (by omega)
                rw [v3] at s4'
                refine (IH (d + 1) (r3.2.1 + 1) ((how + 2) :: T) _ _ μ4 u4 (by omega) (by omega) hR4 ht4 hE4 s4').1 (by omega) (by simp; omega) b2 (by rw [List.length_append]; omega) (fun μ5 u5 T5 C5 D5 f5 e5 s5' c5 v5 l5 => ?_) (fun μ5 f5 e5 x5 => ?_)
                · have hR5 : gPS μ5.2.2 β := by rw [f5.2]; exact hR4
                  have ht5 := eFr_T f5 ht4
                  have gt5 := rd_gt (K := K) (show r3.2.1 + 1 ≤ 400 by omega) (by omega) e5
                  have le5 := rd_len (K := K) (show r3.2.1 + 1 ≤ 400 by omega) e5
                  have hend5 := (rd_end (K := K) n 0 (d + 1) _ e5).2.2.2 rfl
                  have hin5 := coP_in 0 T5 _ D5 c5
                  rw [b3] at hin5
                  rw [rb_p0 e5] at hp1
                  generalize rd K n 0 (d + 1) (r3.2.1 + 1) = r5 at *
                  have hv5 : (C5 ++ D5).length ≤ r5.2.1 := by rw [v5, List.length_append, List.length_append]; omega
                  by_cases c41 : K r5.2.1 = 41
                  · refine closeStep (h := h + 1) (O := [(K p, 0)]) hX hS hR5 hsd hz ht5 hk s5' (by omega) c5 hin5 ?_ hv5 hd c41 (fun μ6 f6 c6 x6 => ?_) (fun μ6 u6 f6 c6 s6' => ?_)
                    · rcases hh with ⟨h1, h2⟩ | ⟨h1, h2⟩
                      · right; left; rw [h1, h2]; exact ⟨rfl, rfl⟩
                      · right; right; rw [h1, h2]; exact ⟨rfl, rfl⟩
                    · have ea3 : rAc K 41 r5.2.1 = (2, r5.2.1, []) := by unfold rAc; rw [if_neg (fun z => z c41), if_pos c6]
                      rw [ea3] at hp1
                      exact fault _ _ _ μ6 (by simp) hp1 (eFr_t f1 (eFr_t f2 (eFr_t f3 (eFr_t f4 (eFr_t f5 f6))))) x6
                    · have ea3 : rAc K 41 r5.2.1 = (0, r5.2.1 + 1, []) := by unfold rAc; rw [if_neg (fun z => z c41), if_neg (by omega)]
                      rw [ea3] at hp1
                      dsimp only at hp1
                      rw [hp1, rb_p0 (r := (0, r5.2.1 + 1, r3.2.2 ++ ([] ++ (r5.2.2 ++ [])))) rfl] at hok
                      dsimp only at hok
                      refine hok μ6 u6 (eFr_t f1 (eFr_t f2 (eFr_t f3 (eFr_t f4 (eFr_t f5 f6))))) rfl ?_
                      have e7 : C5 ++ D5 ++ [(K p, 0)] = C ++ (r3.2.2 ++ ([] ++ (r5.2.2 ++ [])) ++ [(K p, 0)]) := by
                        rw [v5]; simp only [List.append_assoc, List.append_nil, List.nil_append]
                      rw [e7] at s6'
                      have e8 : List.foldl (eA rv pl) st (r3.2.2 ++ ([] ++ (r5.2.2 ++ [])) ++ [(K p, 0)]) = List.foldl (eA rv pl) (List.foldl (eA rv pl) st r3.2.2) r5.2.2 := by
                        rw [List.append_nil, List.nil_append, List.foldl_append, List.foldl_append]
                        simp only [List.foldl_cons, List.foldl_nil]
                        generalize List.foldl (eA rv pl) (List.foldl (eA rv pl) st r3.2.2) r5.2.2 = z
                        unfold eA
                        rw [if_neg (by dsimp only; omega)]
                      rw [e8]
                      exact s6'
                  · have ea3 : rAc K 41 r5.2.1 = (1, r5.2.1, []) := by unfold rAc; rw [if_pos c41]
                    rw [ea3] at hp1
                    refine seenEnd (h := h + 1) hX hS hR5 hsd hsz ht5 hk s5' (by omega) c5 hend5.1 hend5.2.1 hend5.2.2 (fun z => absurd z c41) (fun _ => by rw [hin5]; simp; omega) (fun w hw => ?_) (fun z => ?_) (fun _ μ6 f6 x6 => fault _ _ _ μ6 (by simp) hp1 (eFr_t f1 (eFr_t f2 (eFr_t f3 (eFr_t f4 (eFr_t f5 f6))))) x6)
                    · rw [hin5] at hw; have := Option.some.inj hw; omega
                    · rw [hin5] at z; exact absurd z (by simp)
                · rw [rb_px e5] at hp1
                  exact fault _ _ _ μ5 e5 hp1 (eFr_t f1 (eFr_t f2 (eFr_t f3 (eFr_t f4 f5)))) x5
            · have ea2 : rAc K 44 r3.2.1 = (1, r3.2.1, []) := by unfold rAc; rw [if_pos c44]
              rw [ea2, rb_px (r := (1, r3.2.1, [])) (by simp)] at hp1
              refine seenEnd (h := h + 1) hX hS hR3 hsd hsz ht3 hk s3' (by omega) c3 hend.1 hend.2.1 hend.2.2 (fun z => ?_) (fun z => absurd z c44) (fun w hw => ?_) (fun z => ?_) (fun _ μ6 f6 x6 => fault _ _ _ μ6 (by simp) hp1 (eFr_t f1 (eFr_t f2 (eFr_t f3 f6))) x6)
              · rw [hin]
                rcases hh with ⟨h1, h2⟩ | ⟨h1, h2⟩
                · right; left; rw [h1]
                · right; right; rw [h1]
              · rw [hin] at hw; have := Option.some.inj hw; omega
              · rw [hin] at z; exact absurd z (by simp)
          · rw [rb_px e3] at hp1
            exact fault _ _ _ μ3 e3 hp1 (eFr_t f1 (eFr_t f2 f3)) x3
        · have x2 := e1 e
          have hp1 : rPr K (rd K n 0 (d + 1)) d (p + 1) = rOp K d (p + 1) := by unfold rPr; rw [rb_px e]
          exact wantF hX hS hR2 x2 (fault _ _ _ μ2 e hp1 (eFr_t f1 f2) x2)
    refine b_X11_expression_7 hX ?_
    simp (disch := omega) only [B_X11_expression_7, ↓n_gb, ↓n_gb0, ↓n_ic, ↓n_icm, ↓n_lc, ↓e_lc, ↓e_null, ↓e_ldI, ↓e_ldL, ↓e_ldA, ↓e_stI, ↓e_stL, ↓e_stA, ↓n_inc, ↓n_incm1, ↓n_incm8, ↓e_iadd, ↓e_isub, ↓e_imul, ↓e_iand, ↓e_ior, ↓e_ixor, ↓n_ishl, ↓n_ishr, ↓e_iushr, ↓n_idiv, ↓e_ineg, ↓e_ladd, ↓e_lsub, ↓e_lmul, ↓e_lor, ↓e_lshl, ↓e_lshr, ↓e_i2l, ↓e_l2i, ↓e_i2b, ↓e_lcmp, ↓e_dup, ↓e_dup2, ↓e_pop, ↓e_ceq, ↓e_cne, ↓e_clt, ↓e_cge, ↓e_cgt, ↓e_cle, ↓n_zeq, ↓n_zne, ↓n_zlt, ↓n_zge, ↓n_zgt, ↓n_zle, ↓e_goto, ↓e_nn, ↓e_retI, ↓e_retL, ↓e_retV, ↓n_retZ, ↓e_retA, ↓e_gfI, ↓e_gfL, ↓e_gfR, ↓e_pfI, ↓n_pfZ, ↓e_pfL, ↓e_pfR, ↓e_iald, ↓e_lald, ↓e_aald, ↓e_alen, ↓e_iast, ↓e_bast, ↓n_zast, ↓e_last, ↓e_aast, ↓e_cV, ↓e_cS, ↓e_gsW, ↓e_gsK, ↓e_mmax, ↓e_mmin, ↓e_mmaxL, ↓e_mminL, gEnt, gPad, gArgs, gGet, gS1, gS2, gCl, gNo, gSp, gCt, n_sw, n_gSw, n_gSw0, Option.toList, List.cons_append, List.nil_append, Value.category, and_true, true_and, and_self, not_false_eq_true, not_true_eq_false, Nat.reduceAdd, Nat.reduceSub, Nat.reduceMul, Nat.reduceLeDiff, Nat.reduceLT, Nat.reduceEqDiff, forall_const, true_implies, false_implies, implies_true, Nat.zero_add, Option.some.injEq, Sum.inr.injEq, Sum.inl.injEq, Prod.mk.injEq, exists_eq_left', exists_eq_left, w_ne0, nI_add, w_lt, w_le, w_eq, w_meq, w_eqm, w_mlt, w_ltm, w_mle, w_lem, w_clamp, w_in, w_31, w_ite0, w_ite1, w_ite01, true_or, or_true, false_or, or_false, Nat.le_refl, Nat.lt_irrefl, S_110 hS, S_113 hS, S_115 hS, S_134 hS, R_110_5 hR, R_110_7 hR, R_110_39 hR, s4]
    refine k_mIs (h := h + 2) hS hR hsz ht s2 s4 s1 (by omega) ?_
    by_cases c40 : K p = 40
    · rw [if_pos (q7.2 c40)]
      rw [if_neg (by omega), if_neg (by omega), if_pos c40] at hok hfa
      simp (disch := omega) only [↓n_gb, ↓n_gb0, ↓n_ic, ↓n_icm, ↓n_lc, ↓e_lc, ↓e_null, ↓e_ldI, ↓e_ldL, ↓e_ldA, ↓e_stI, ↓e_stL, ↓e_stA, ↓n_inc, ↓n_incm1, ↓n_incm8, ↓e_iadd, ↓e_isub, ↓e_imul, ↓e_iand, ↓e_ior, ↓e_ixor, ↓n_ishl, ↓n_ishr, ↓e_iushr, ↓n_idiv, ↓e_ineg, ↓e_ladd, ↓e_lsub, ↓e_lmul, ↓e_lor, ↓e_lshl, ↓e_lshr, ↓e_i2l, ↓e_l2i, ↓e_i2b, ↓e_lcmp, ↓e_dup, ↓e_dup2, ↓e_pop, ↓e_ceq, ↓e_cne, ↓e_clt, ↓e_cge, ↓e_cgt, ↓e_cle, ↓n_zeq, ↓n_zne, ↓n_zlt, ↓n_zge, ↓n_zgt, ↓n_zle, ↓e_goto, ↓e_nn, ↓e_retI, ↓e_retL, ↓e_retV, ↓n_retZ, ↓e_retA, ↓e_gfI, ↓e_gfL, ↓e_gfR, ↓e_pfI, ↓n_pfZ, ↓e_pfL, ↓e_pfR, ↓e_iald, ↓e_lald, ↓e_aald, ↓e_alen, ↓e_iast, ↓e_bast, ↓n_zast, ↓e_last, ↓e_aast, ↓e_cV, ↓e_cS, ↓e_gsW, ↓e_gsK, ↓e_mmax, ↓e_mmin, ↓e_mmaxL, ↓e_mminL, gEnt, gPad, gArgs, gGet, gS1, gS2, gCl, gNo, gSp, gCt, n_sw, n_gSw, n_gSw0, Option.toList, List.cons_append, List.nil_append, Value.category, and_true, true_and, and_self, not_false_eq_true, not_true_eq_false, Nat.reduceAdd, Nat.reduceSub, Nat.reduceMul, Nat.reduceLeDiff, Nat.reduceLT, Nat.reduceEqDiff, forall_const, true_implies, false_implies, implies_true, Nat.zero_add, Option.some.injEq, Sum.inr.injEq, Sum.inl.injEq, Prod.mk.injEq, exists_eq_left', exists_eq_left, w_ne0, nI_add, w_lt, w_le, w_eq, w_meq, w_eqm, w_mlt, w_ltm, w_mle, w_lem, w_clamp, w_in, w_31, w_ite0, w_ite1, w_ite01, true_or, or_true, false_or, or_false, Nat.le_refl, Nat.lt_irrefl, S_110 hS, S_113 hS, S_115 hS, S_134 hS, R_110_5 hR, R_110_7 hR, R_110_39 hR]
      refine k_mOpens (h := h) (how := 7) hS hR hz ht hk (by omega) hd (by omega) s (fun μ2 f2 e0 e1 => ?_)
      have hR2 : gPS μ2.2.2 β := by rw [f2.2]; exact hR
      have ht2 := eFr_T f2 ht
      have hE2 := hEf _ _ f2 hEv
      simp (disch := omega) only [↓n_gb, ↓n_gb0, ↓n_ic, ↓n_icm, ↓n_lc, ↓e_lc, ↓e_null, ↓e_ldI, ↓e_ldL, ↓e_ldA, ↓e_stI, ↓e_stL, ↓e_stA, ↓n_inc, ↓n_incm1, ↓n_incm8, ↓e_iadd, ↓e_isub, ↓e_imul, ↓e_iand, ↓e_ior, ↓e_ixor, ↓n_ishl, ↓n_ishr, ↓e_iushr, ↓n_idiv, ↓e_ineg, ↓e_ladd, ↓e_lsub, ↓e_lmul, ↓e_lor, ↓e_lshl, ↓e_lshr, ↓e_i2l, ↓e_l2i, ↓e_i2b, ↓e_lcmp, ↓e_dup, ↓e_dup2, ↓e_pop, ↓e_ceq, ↓e_cne, ↓e_clt, ↓e_cge, ↓e_cgt, ↓e_cle, ↓n_zeq, ↓n_zne, ↓n_zlt, ↓n_zge, ↓n_zgt, ↓n_zle, ↓e_goto, ↓e_nn, ↓e_retI, ↓e_retL, ↓e_retV, ↓n_retZ, ↓e_retA, ↓e_gfI, ↓e_gfL, ↓e_gfR, ↓e_pfI, ↓n_pfZ, ↓e_pfL, ↓e_pfR, ↓e_iald, ↓e_lald, ↓e_aald, ↓e_alen, ↓e_iast, ↓e_bast, ↓n_zast, ↓e_last, ↓e_aast, ↓e_cV, ↓e_cS, ↓e_gsW, ↓e_gsK, ↓e_mmax, ↓e_mmin, ↓e_mmaxL, ↓e_mminL, gEnt, gPad, gArgs, gGet, gS1, gS2, gCl, gNo, gSp, gCt, n_sw, n_gSw, n_gSw0, Option.toList, List.cons_append, List.nil_append, Value.category, and_true, true_and, and_self, not_false_eq_true, not_true_eq_false, Nat.reduceAdd, Nat.reduceSub, Nat.reduceMul, Nat.reduceLeDiff, Nat.reduceLT, Nat.reduceEqDiff, forall_const, true_implies, false_implies, implies_true, Nat.zero_add, Option.some.injEq, Sum.inr.injEq, Sum.inl.injEq, Prod.mk.injEq, exists_eq_left', exists_eq_left, w_ne0, nI_add, w_lt, w_le, w_eq, w_meq, w_eqm, w_mlt, w_ltm, w_mle, w_lem, w_clamp, w_in, w_31, w_ite0, w_ite1, w_ite01, true_or, or_true, false_or, or_false, Nat.le_refl, Nat.lt_irrefl, S_110 hS, S_113 hS, S_115 hS, S_134 hS, R_110_5 hR, R_110_7 hR, R_110_39 hR]
      by_cases e : (rOp K d p).1 = 0
      · obtain ⟨-, a2, a4, a3⟩ := rOp_0 e
        have s2' := e0 e
        rw [a3, rb_p0 (r := (0, p + 1, [])) rfl] at hok hfa
        dsimp only at hok hfa
        rw [List.nil_append] at hok
        obtain ⟨b0, b1⟩ := hBr 7 (by omega)
        refine (IH (d + 1) (p + 1) (7 :: T) C st μ2 _ (by omega) (by omega) hR2 ht2 hE2 s2').1 (by omega) (by simp; omega) b0 (by omega) (fun μ3 u3 T3 C3 D3 f3 e3 s3' c3 v3 l3 => ?_) (fun μ3 f3 e3 x3 => ?_)
        · have hR3 : gPS μ3.2.2 β := by rw [f3.2]; exact hR2
          have ht3 := eFr_T f3 ht2
          have gt := rd_gt (K := K) (show p + 1 ≤ 400 by omega) (by omega) e3
          have le := rd_len (K := K) (show p + 1 ≤ 400 by omega) e3
          have hend := (rd_end (K := K) n 0 (d + 1) _ e3).2.2.2 rfl
          have hin := coP_in 0 T3 _ D3 c3
          rw [b1] at hin
          rw [rb_p0 e3] at hok hfa
          dsimp only at hok hfa
          generalize rd K n 0 (d + 1) (p + 1) = r3 at *
          have hv3 : (C3 ++ D3).length ≤ r3.2.1 := by rw [v3, List.length_append]; omega
          by_cases c41 : K r3.2.1 = 41
          · refine closeStep (h := h + 1) (O := []) hX hS hR3 hsd hz ht3 hk s3' (by omega) c3 hin (Or.inl ⟨rfl, rfl⟩) hv3 hd c41 (fun μ6 f6 c6 x6 => ?_) (fun μ6 u6 f6 c6 s6' => ?_)
            · have ea3 : rAc K 41 r3.2.1 = (2, r3.2.1, []) := by unfold rAc; rw [if_neg (fun z => z c41), if_pos c6]
              rw [ea3] at hfa
              exact hfa μ6 (eFr_t f2 (eFr_t f3 f6)) (by simp) x6
            · have ea3 : rAc K 41 r3.2.1 = (0, r3.2.1 + 1, []) := by unfold rAc; rw [if_neg (fun z => z c41), if_neg (by omega)]
              rw [ea3] at hok
              dsimp only at hok
              rw [List.append_nil] at hok
              rw [List.append_nil, v3] at s6'
              exact hok μ6 u6 (eFr_t f2 (eFr_t f3 f6)) rfl s6'
          · have ea3 : rAc K 41 r3.2.1 = (1, r3.2.1, []) := by unfold rAc; rw [if_pos c41]
            rw [ea3] at hfa
            refine seenEnd (h := h + 1) hX hS hR3 hsd hsz ht3 hk s3' (by omega) c3 hend.1 hend.2.1 hend.2.2 (fun z => absurd z c41) (fun _ => by rw [hin]; simp) (fun w hw => ?_) (fun z => ?_) (fun _ μ6 f6 x6 => hfa μ6 (eFr_t f2 (eFr_t f3 f6)) (by simp) x6)
            · rw [hin] at hw; have := Option.some.inj hw; omega
            · rw [hin] at z; exact absurd z (by simp)
        · rw [rb_px e3] at hfa
          exact hfa μ3 (eFr_t f2 f3) e3 x3
      · have x2 := e1 e
        rw [rb_px e] at hfa
        exact wantF hX hS hR2 x2 (hfa μ2 f2 e x2)
    rw [if_neg (fun z => c40 (q7.1 z))]
    simp (disch := omega) only [↓n_gb, ↓n_gb0, ↓n_ic, ↓n_icm, ↓n_lc, ↓e_lc, ↓e_null, ↓e_ldI, ↓e_ldL, ↓e_ldA, ↓e_stI, ↓e_stL, ↓e_stA, ↓n_inc, ↓n_incm1, ↓n_incm8, ↓e_iadd, ↓e_isub, ↓e_imul, ↓e_iand, ↓e_ior, ↓e_ixor, ↓n_ishl, ↓n_ishr, ↓e_iushr, ↓n_idiv, ↓e_ineg, ↓e_ladd, ↓e_lsub, ↓e_lmul, ↓e_lor, ↓e_lshl, ↓e_lshr, ↓e_i2l, ↓e_l2i, ↓e_i2b, ↓e_lcmp, ↓e_dup, ↓e_dup2, ↓e_pop, ↓e_ceq, ↓e_cne, ↓e_clt, ↓e_cge, ↓e_cgt, ↓e_cle, ↓n_zeq, ↓n_zne, ↓n_zlt, ↓n_zge, ↓n_zgt, ↓n_zle, ↓e_goto, ↓e_nn, ↓e_retI, ↓e_retL, ↓e_retV, ↓n_retZ, ↓e_retA, ↓e_gfI, ↓e_gfL, ↓e_gfR, ↓e_pfI, ↓n_pfZ, ↓e_pfL, ↓e_pfR, ↓e_iald, ↓e_lald, ↓e_aald, ↓e_alen, ↓e_iast, ↓e_bast, ↓n_zast, ↓e_last, ↓e_aast, ↓e_cV, ↓e_cS, ↓e_gsW, ↓e_gsK, ↓e_mmax, ↓e_mmin, ↓e_mmaxL, ↓e_mminL, gEnt, gPad, gArgs, gGet, gS1, gS2, gCl, gNo, gSp, gCt, n_sw, n_gSw, n_gSw0, Option.toList, List.cons_append, List.nil_append, Value.category, and_true, true_and, and_self, not_false_eq_true, not_true_eq_false, Nat.reduceAdd, Nat.reduceSub, Nat.reduceMul, Nat.reduceLeDiff, Nat.reduceLT, Nat.reduceEqDiff, forall_const, true_implies, false_implies, implies_true, Nat.zero_add, Option.some.injEq, Sum.inr.injEq, Sum.inl.injEq, Prod.mk.injEq, exists_eq_left', exists_eq_left, w_ne0, nI_add, w_lt, w_le, w_eq, w_meq, w_eqm, w_mlt, w_ltm, w_mle, w_lem, w_clamp, w_in, w_31, w_ite0, w_ite1, w_ite01, true_or, or_true, false_or, or_false, Nat.le_refl, Nat.lt_irrefl, S_110 hS, S_113 hS, S_115 hS, S_134 hS, R_110_5 hR, R_110_7 hR, R_110_39 hR]
    refine b_X11_expression_36 hX ?_
    simp (disch := omega) only [B_X11_expression_36, ↓n_gb, ↓n_gb0, ↓n_ic, ↓n_icm, ↓n_lc, ↓e_lc, ↓e_null, ↓e_ldI, ↓e_ldL, ↓e_ldA, ↓e_stI, ↓e_stL, ↓e_stA, ↓n_inc, ↓n_incm1, ↓n_incm8, ↓e_iadd, ↓e_isub, ↓e_imul, ↓e_iand, ↓e_ior, ↓e_ixor, ↓n_ishl, ↓n_ishr, ↓e_iushr, ↓n_idiv, ↓e_ineg, ↓e_ladd, ↓e_lsub, ↓e_lmul, ↓e_lor, ↓e_lshl, ↓e_lshr, ↓e_i2l, ↓e_l2i, ↓e_i2b, ↓e_lcmp, ↓e_dup, ↓e_dup2, ↓e_pop, ↓e_ceq, ↓e_cne, ↓e_clt, ↓e_cge, ↓e_cgt, ↓e_cle, ↓n_zeq, ↓n_zne, ↓n_zlt, ↓n_zge, ↓n_zgt, ↓n_zle, ↓e_goto, ↓e_nn, ↓e_retI, ↓e_retL, ↓e_retV, ↓n_retZ, ↓e_retA, ↓e_gfI, ↓e_gfL, ↓e_gfR, ↓e_pfI, ↓n_pfZ, ↓e_pfL, ↓e_pfR, ↓e_iald, ↓e_lald, ↓e_aald, ↓e_alen, ↓e_iast, ↓e_bast, ↓n_zast, ↓e_last, ↓e_aast, ↓e_cV, ↓e_cS, ↓e_gsW, ↓e_gsK, ↓e_mmax, ↓e_mmin, ↓e_mmaxL, ↓e_mminL, gEnt, gPad, gArgs, gGet, gS1, gS2, gCl, gNo, gSp, gCt, n_sw, n_gSw, n_gSw0, Option.toList, List.cons_append, List.nil_append, Value.category, and_true, true_and, and_self, not_false_eq_true, not_true_eq_false, Nat.reduceAdd, Nat.reduceSub, Nat.reduceMul, Nat.reduceLeDiff, Nat.reduceLT, Nat.reduceEqDiff, forall_const, true_implies, false_implies, implies_true, Nat.zero_add, Option.some.injEq, Sum.inr.injEq, Sum.inl.injEq, Prod.mk.injEq, exists_eq_left', exists_eq_left, w_ne0, nI_add, w_lt, w_le, w_eq, w_meq, w_eqm, w_mlt, w_ltm, w_mle, w_lem, w_clamp, w_in, w_31, w_ite0, w_ite1, w_ite01, true_or, or_true, false_or, or_false, Nat.le_refl, Nat.lt_irrefl, S_110 hS, S_113 hS, S_115 hS, S_134 hS, R_110_5 hR, R_110_7 hR, R_110_39 hR]
    refine k_mIs (h := h + 2) hS hR hsz ht s2 s4 s1 (by omega) ?_
    by_cases c9 : K p = 9
    · rw [if_pos (q25.2 c9)]
      simp (disch := omega) only [↓n_gb, ↓n_gb0, ↓n_ic, ↓n_icm, ↓n_lc, ↓e_lc, ↓e_null, ↓e_ldI, ↓e_ldL, ↓e_ldA, ↓e_stI, ↓e_stL, ↓e_stA, ↓n_inc, ↓n_incm1, ↓n_incm8, ↓e_iadd, ↓e_isub, ↓e_imul, ↓e_iand, ↓e_ior, ↓e_ixor, ↓n_ishl, ↓n_ishr, ↓e_iushr, ↓n_idiv, ↓e_ineg, ↓e_ladd, ↓e_lsub, ↓e_lmul, ↓e_lor, ↓e_lshl, ↓e_lshr, ↓e_i2l, ↓e_l2i, ↓e_i2b, ↓e_lcmp, ↓e_dup, ↓e_dup2, ↓e_pop, ↓e_ceq, ↓e_cne, ↓e_clt, ↓e_cge, ↓e_cgt, ↓e_cle, ↓n_zeq, ↓n_zne, ↓n_zlt, ↓n_zge, ↓n_zgt, ↓n_zle, ↓e_goto, ↓e_nn, ↓e_retI, ↓e_retL, ↓e_retV, ↓n_retZ, ↓e_retA, ↓e_gfI, ↓e_gfL, ↓e_gfR, ↓e_pfI, ↓n_pfZ, ↓e_pfL, ↓e_pfR, ↓e_iald, ↓e_lald, ↓e_aald, ↓e_alen, ↓e_iast, ↓e_bast, ↓n_zast, ↓e_last, ↓e_aast, ↓e_cV, ↓e_cS, ↓e_gsW, ↓e_gsK, ↓e_mmax, ↓e_mmin, ↓e_mmaxL, ↓e_mminL, gEnt, gPad, gArgs, gGet, gS1, gS2, gCl, gNo, gSp, gCt, n_sw, n_gSw, n_gSw0, Option.toList, List.cons_append, List.nil_append, Value.category, and_true, true_and, and_self, not_false_eq_true, not_true_eq_false, Nat.reduceAdd, Nat.reduceSub, Nat.reduceMul, Nat.reduceLeDiff, Nat.reduceLT, Nat.reduceEqDiff, forall_const, true_implies, false_implies, implies_true, Nat.zero_add, Option.some.injEq, Sum.inr.injEq, Sum.inl.injEq, Prod.mk.injEq, exists_eq_left', exists_eq_left, w_ne0, nI_add, w_lt, w_le, w_eq, w_meq, w_eqm, w_mlt, w_ltm, w_mle, w_lem, w_clamp, w_in, w_31, w_ite0, w_ite1, w_ite01, true_or, or_true, false_or, or_false, Nat.le_refl, Nat.lt_irrefl, S_110 hS, S_113 hS, S_115 hS, S_134 hS, R_110_5 hR, R_110_7 hR, R_110_39 hR]
      refine b_X11_expression_54 hX ?_
      simp (disch := omega) only [B_X11_expression_54, ↓n_gb, ↓n_gb0, ↓n_ic, ↓n_icm, ↓n_lc, ↓e_lc, ↓e_null, ↓e_ldI, ↓e_ldL, ↓e_ldA, ↓e_stI, ↓e_stL, ↓e_stA, ↓n_inc, ↓n_incm1, ↓n_incm8, ↓e_iadd, ↓e_isub, ↓e_imul, ↓e_iand, ↓e_ior, ↓e_ixor, ↓n_ishl, ↓n_ishr, ↓e_iushr, ↓n_idiv, ↓e_ineg, ↓e_ladd, ↓e_lsub, ↓e_lmul, ↓e_lor, ↓e_lshl, ↓e_lshr, ↓e_i2l, ↓e_l2i, ↓e_i2b, ↓e_lcmp, ↓e_dup, ↓e_dup2, ↓e_pop, ↓e_ceq, ↓e_cne, ↓e_clt, ↓e_cge, ↓e_cgt, ↓e_cle, ↓n_zeq, ↓n_zne, ↓n_zlt, ↓n_zge, ↓n_zgt, ↓n_zle, ↓e_goto, ↓e_nn, ↓e_retI, ↓e_retL, ↓e_retV, ↓n_retZ, ↓e_retA, ↓e_gfI, ↓e_gfL, ↓e_gfR, ↓e_pfI, ↓n_pfZ, ↓e_pfL, ↓e_pfR, ↓e_iald, ↓e_lald, ↓e_aald, ↓e_alen, ↓e_iast, ↓e_bast, ↓n_zast, ↓e_last, ↓e_aast, ↓e_cV, ↓e_cS, ↓e_gsW, ↓e_gsK, ↓e_mmax, ↓e_mmin, ↓e_mmaxL, ↓e_mminL, gEnt, gPad, gArgs, gGet, gS1, gS2, gCl, gNo, gSp, gCt, n_sw, n_gSw, n_gSw0, Option.toList, List.cons_append, List.nil_append, Value.category, and_true, true_and, and_self, not_false_eq_true, not_true_eq_false, Nat.reduceAdd, Nat.reduceSub, Nat.reduceMul, Nat.reduceLeDiff, Nat.reduceLT, Nat.reduceEqDiff, forall_const, true_implies, false_implies, implies_true, Nat.zero_add, Option.some.injEq, Sum.inr.injEq, Sum.inl.injEq, Prod.mk.injEq, exists_eq_left', exists_eq_left, w_ne0, nI_add, w_lt, w_le, w_eq, w_meq, w_eqm, w_mlt, w_ltm, w_mle, w_lem, w_clamp, w_in, w_31, w_ite0, w_ite1, w_ite01, true_or, or_true, false_or, or_false, Nat.le_refl, Nat.lt_irrefl, S_110 hS, S_113 hS, S_115 hS, S_134 hS, R_110_5 hR, R_110_7 hR, R_110_39 hR]
      refine k_mIs (h := h + 2) hS hR hsz ht s2 s4 s1 (by omega) ?_
      rw [if_pos (q25.2 c9)]
      simp (disch := omega) only [↓n_gb, ↓n_gb0, ↓n_ic, ↓n_icm, ↓n_lc, ↓e_lc, ↓e_null, ↓e_ldI, ↓e_ldL, ↓e_ldA, ↓e_stI, ↓e_stL, ↓e_stA, ↓n_inc, ↓n_incm1, ↓n_incm8, ↓e_iadd, ↓e_isub, ↓e_imul, ↓e_iand, ↓e_ior, ↓e_ixor, ↓n_ishl, ↓n_ishr, ↓e_iushr, ↓n_idiv, ↓e_ineg, ↓e_ladd, ↓e_lsub, ↓e_lmul, ↓e_lor, ↓e_lshl, ↓e_lshr, ↓e_i2l, ↓e_l2i, ↓e_i2b, ↓e_lcmp, ↓e_dup, ↓e_dup2, ↓e_pop, ↓e_ceq, ↓e_cne, ↓e_clt, ↓e_cge, ↓e_cgt, ↓e_cle, ↓n_zeq, ↓n_zne, ↓n_zlt, ↓n_zge, ↓n_zgt, ↓n_zle, ↓e_goto, ↓e_nn, ↓e_retI, ↓e_retL, ↓e_retV, ↓n_retZ, ↓e_retA, ↓e_gfI, ↓e_gfL, ↓e_gfR, ↓e_pfI, ↓n_pfZ, ↓e_pfL, ↓e_pfR, ↓e_iald, ↓e_lald, ↓e_aald, ↓e_alen, ↓e_iast, ↓e_bast, ↓n_zast, ↓e_last, ↓e_aast, ↓e_cV, ↓e_cS, ↓e_gsW, ↓e_gsK, ↓e_mmax, ↓e_mmin, ↓e_mmaxL, ↓e_mminL, gEnt, gPad, gArgs, gGet, gS1, gS2, gCl, gNo, gSp, gCt, n_sw, n_gSw, n_gSw0, Option.toList, List.cons_append, List.nil_append, Value.category, and_true, true_and, and_self, not_false_eq_true, not_true_eq_false, Nat.reduceAdd, Nat.reduceSub, Nat.reduceMul, Nat.reduceLeDiff, Nat.reduceLT, Nat.reduceEqDiff, forall_const, true_implies, false_implies, implies_true, Nat.zero_add, Option.some.injEq, Sum.inr.injEq, Sum.inl.injEq, Prod.mk.injEq, exists_eq_left', exists_eq_left, w_ne0, nI_add, w_lt, w_le, w_eq, w_meq, w_eqm, w_mlt, w_ltm, w_mle, w_lem, w_clamp, w_in, w_31, w_ite0, w_ite1, w_ite01, true_or, or_true, false_or, or_false, Nat.le_refl, Nat.lt_irrefl, S_110 hS, S_113 hS, S_115 hS, S_134 hS, R_110_5 hR, R_110_7 hR, R_110_39 hR]
      exact t70 100 _ (Or.inl ⟨rfl, c9⟩)
    rw [if_neg (fun z => c9 (q25.1 z))]
    simp (disch := omega) only [↓n_gb, ↓n_gb0, ↓n_ic, ↓n_icm, ↓n_lc, ↓e_lc, ↓e_null, ↓e_ldI, ↓e_ldL, ↓e_ldA, ↓e_stI, ↓e_stL, ↓e_stA, ↓n_inc, ↓n_incm1, ↓n_incm8, ↓e_iadd, ↓e_isub, ↓e_imul, ↓e_iand, ↓e_ior, ↓e_ixor, ↓n_ishl, ↓n_ishr, ↓e_iushr, ↓n_idiv, ↓e_ineg, ↓e_ladd, ↓e_lsub, ↓e_lmul, ↓e_lor, ↓e_lshl, ↓e_lshr, ↓e_i2l, ↓e_l2i, ↓e_i2b, ↓e_lcmp, ↓e_dup, ↓e_dup2, ↓e_pop, ↓e_ceq, ↓e_cne, ↓e_clt, ↓e_cge, ↓e_cgt, ↓e_cle, ↓n_zeq, ↓n_zne, ↓n_zlt, ↓n_zge, ↓n_zgt, ↓n_zle, ↓e_goto, ↓e_nn, ↓e_retI, ↓e_retL, ↓e_retV, ↓n_retZ, ↓e_retA, ↓e_gfI, ↓e_gfL, ↓e_gfR, ↓e_pfI, ↓n_pfZ, ↓e_pfL, ↓e_pfR, ↓e_iald, ↓e_lald, ↓e_aald, ↓e_alen, ↓e_iast, ↓e_bast, ↓n_zast, ↓e_last, ↓e_aast, ↓e_cV, ↓e_cS, ↓e_gsW, ↓e_gsK, ↓e_mmax, ↓e_mmin, ↓e_mmaxL, ↓e_mminL, gEnt, gPad, gArgs, gGet, gS1, gS2, gCl, gNo, gSp, gCt, n_sw, n_gSw, n_gSw0, Option.toList, List.cons_append, List.nil_append, Value.category, and_true, true_and, and_self, not_false_eq_true, not_true_eq_false, Nat.reduceAdd, Nat.reduceSub, Nat.reduceMul, Nat.reduceLeDiff, Nat.reduceLT, Nat.reduceEqDiff, forall_const, true_implies, false_implies, implies_true, Nat.zero_add, Option.some.injEq, Sum.inr.injEq, Sum.inl.injEq, Prod.mk.injEq, exists_eq_left', exists_eq_left, w_ne0, nI_add, w_lt, w_le, w_eq, w_meq, w_eqm, w_mlt, w_ltm, w_mle, w_lem, w_clamp, w_in, w_31, w_ite0, w_ite1, w_ite01, true_or, or_true, false_or, or_false, Nat.le_refl, Nat.lt_irrefl, S_110 hS, S_113 hS, S_115 hS, S_134 hS, R_110_5 hR, R_110_7 hR, R_110_39 hR]
    refine k_mIs (h := h + 2) hS hR hsz ht s2 s4 s1 (by omega) ?_
    by_cases c10 : K p = 10
    · rw [if_pos (q26.2 c10)]
      simp (disch := omega) only [↓n_gb, ↓n_gb0, ↓n_ic, ↓n_icm, ↓n_lc, ↓e_lc, ↓e_null, ↓e_ldI, ↓e_ldL, ↓e_ldA, ↓e_stI, ↓e_stL, ↓e_stA, ↓n_inc, ↓n_incm1, ↓n_incm8, ↓e_iadd, ↓e_isub, ↓e_imul, ↓e_iand, ↓e_ior, ↓e_ixor, ↓n_ishl, ↓n_ishr, ↓e_iushr, ↓n_idiv, ↓e_ineg, ↓e_ladd, ↓e_lsub, ↓e_lmul, ↓e_lor, ↓e_lshl, ↓e_lshr, ↓e_i2l, ↓e_l2i, ↓e_i2b, ↓e_lcmp, ↓e_dup, ↓e_dup2, ↓e_pop, ↓e_ceq, ↓e_cne, ↓e_clt, ↓e_cge, ↓e_cgt, ↓e_cle, ↓n_zeq, ↓n_zne, ↓n_zlt, ↓n_zge, ↓n_zgt, ↓n_zle, ↓e_goto, ↓e_nn, ↓e_retI, ↓e_retL, ↓e_retV, ↓n_retZ, ↓e_retA, ↓e_gfI, ↓e_gfL, ↓e_gfR, ↓e_pfI, ↓n_pfZ, ↓e_pfL, ↓e_pfR, ↓e_iald, ↓e_lald, ↓e_aald, ↓e_alen, ↓e_iast, ↓e_bast, ↓n_zast, ↓e_last, ↓e_aast, ↓e_cV, ↓e_cS, ↓e_gsW, ↓e_gsK, ↓e_mmax, ↓e_mmin, ↓e_mmaxL, ↓e_mminL, gEnt, gPad, gArgs, gGet, gS1, gS2, gCl, gNo, gSp, gCt, n_sw, n_gSw, n_gSw0, Option.toList, List.cons_append, List.nil_append, Value.category, and_true, true_and, and_self, not_false_eq_true, not_true_eq_false, Nat.reduceAdd, Nat.reduceSub, Nat.reduceMul, Nat.reduceLeDiff, Nat.reduceLT, Nat.reduceEqDiff, forall_const, true_implies, false_implies, implies_true, Nat.zero_add, Option.some.injEq, Sum.inr.injEq, Sum.inl.injEq, Prod.mk.injEq, exists_eq_left', exists_eq_left, w_ne0, nI_add, w_lt, w_le, w_eq, w_meq, w_eqm, w_mlt, w_ltm, w_mle, w_lem, w_clamp, w_in, w_31, w_ite0, w_ite1, w_ite01, true_or, or_true, false_or, or_false, Nat.le_refl, Nat.lt_irrefl, S_110 hS, S_113 hS, S_115 hS, S_134 hS, R_110_5 hR, R_110_7 hR, R_110_39 hR]
      refine b_X11_expression_54 hX ?_
      simp (disch := omega) only [B_X11_expression_54, ↓n_gb, ↓n_gb0, ↓n_ic, ↓n_icm, ↓n_lc, ↓e_lc, ↓e_null, ↓e_ldI, ↓e_ldL, ↓e_ldA, ↓e_stI, ↓e_stL, ↓e_stA, ↓n_inc, ↓n_incm1, ↓n_incm8, ↓e_iadd, ↓e_isub, ↓e_imul, ↓e_iand, ↓e_ior, ↓e_ixor, ↓n_ishl, ↓n_ishr, ↓e_iushr, ↓n_idiv, ↓e_ineg, ↓e_ladd, ↓e_lsub, ↓e_lmul, ↓e_lor, ↓e_lshl, ↓e_lshr, ↓e_i2l, ↓e_l2i, ↓e_i2b, ↓e_lcmp, ↓e_dup, ↓e_dup2, ↓e_pop, ↓e_ceq, ↓e_cne, ↓e_clt, ↓e_cge, ↓e_cgt, ↓e_cle, ↓n_zeq, ↓n_zne, ↓n_zlt, ↓n_zge, ↓n_zgt, ↓n_zle, ↓e_goto, ↓e_nn, ↓e_retI, ↓e_retL, ↓e_retV, ↓n_retZ, ↓e_retA, ↓e_gfI, ↓e_gfL, ↓e_gfR, ↓e_pfI, ↓n_pfZ, ↓e_pfL, ↓e_pfR, ↓e_iald, ↓e_lald, ↓e_aald, ↓e_alen, ↓e_iast, ↓e_bast, ↓n_zast, ↓e_last, ↓e_aast, ↓e_cV, ↓e_cS, ↓e_gsW, ↓e_gsK, ↓e_mmax, ↓e_mmin, ↓e_mmaxL, ↓e_mminL, gEnt, gPad, gArgs, gGet, gS1, gS2, gCl, gNo, gSp, gCt, n_sw, n_gSw, n_gSw0, Option.toList, List.cons_append, List.nil_append, Value.category, and_true, true_and, and_self, not_false_eq_true, not_true_eq_false, Nat.reduceAdd, Nat.reduceSub, Nat.reduceMul, Nat.reduceLeDiff, Nat.reduceLT, Nat.reduceEqDiff, forall_const, true_implies, false_implies, implies_true, Nat.zero_add, Option.some.injEq, Sum.inr.injEq, Sum.inl.injEq, Prod.mk.injEq, exists_eq_left', exists_eq_left, w_ne0, nI_add, w_lt, w_le, w_eq, w_meq, w_eqm, w_mlt, w_ltm, w_mle, w_lem, w_clamp, w_in, w_31, w_ite0, w_ite1, w_ite01, true_or, or_true, false_or, or_false, Nat.le_refl, Nat.lt_irrefl, S_110 hS, S_113 hS, S_115 hS, S_134 hS, R_110_5 hR, R_110_7 hR, R_110_39 hR]
      refine k_mIs (h := h + 2) hS hR hsz ht s2 s4 s1 (by omega) ?_
      rw [if_neg (fun z => c9 (q25.1 z))]
      simp (disch := omega) only [↓n_gb, ↓n_gb0, ↓n_ic, ↓n_icm, ↓n_lc, ↓e_lc, ↓e_null, ↓e_ldI, ↓e_ldL, ↓e_ldA, ↓e_stI, ↓e_stL, ↓e_stA, ↓n_inc, ↓n_incm1, ↓n_incm8, ↓e_iadd, ↓e_isub, ↓e_imul, ↓e_iand, ↓e_ior, ↓e_ixor, ↓n_ishl, ↓n_ishr, ↓e_iushr, ↓n_idiv, ↓e_ineg, ↓e_ladd, ↓e_lsub, ↓e_lmul, ↓e_lor, ↓e_lshl, ↓e_lshr, ↓e_i2l, ↓e_l2i, ↓e_i2b, ↓e_lcmp, ↓e_dup, ↓e_dup2, ↓e_pop, ↓e_ceq, ↓e_cne, ↓e_clt, ↓e_cge, ↓e_cgt, ↓e_cle, ↓n_zeq, ↓n_zne, ↓n_zlt, ↓n_zge, ↓n_zgt, ↓n_zle, ↓e_goto, ↓e_nn, ↓e_retI, ↓e_retL, ↓e_retV, ↓n_retZ, ↓e_retA, ↓e_gfI, ↓e_gfL, ↓e_gfR, ↓e_pfI, ↓n_pfZ, ↓e_pfL, ↓e_pfR, ↓e_iald, ↓e_lald, ↓e_aald, ↓e_alen, ↓e_iast, ↓e_bast, ↓n_zast, ↓e_last, ↓e_aast, ↓e_cV, ↓e_cS, ↓e_gsW, ↓e_gsK, ↓e_mmax, ↓e_mmin, ↓e_mmaxL, ↓e_mminL, gEnt, gPad, gArgs, gGet, gS1, gS2, gCl, gNo, gSp, gCt, n_sw, n_gSw, n_gSw0, Option.toList, List.cons_append, List.nil_append, Value.category, and_true, true_and, and_self, not_false_eq_true, not_true_eq_false, Nat.reduceAdd, Nat.reduceSub, Nat.reduceMul, Nat.reduceLeDiff, Nat.reduceLT, Nat.reduceEqDiff, forall_const, true_implies, false_implies, implies_true, Nat.zero_add, Option.some.injEq, Sum.inr.injEq, Sum.inl.injEq, Prod.mk.injEq, exists_eq_left', exists_eq_left, w_ne0, nI_add, w_lt, w_le, w_eq, w_meq, w_eqm, w_mlt, w_ltm, w_mle, w_lem, w_clamp, w_in, w_31, w_ite0, w_ite1, w_ite01, true_or, or_true, false_or, or_false, Nat.le_refl, Nat.lt_irrefl, S_110 hS, S_113 hS, S_115 hS, S_134 hS, R_110_5 hR, R_110_7 hR, R_110_39 hR]
      refine b_X11_expression_68 hX ?_
      simp (disch := omega) only [B_X11_expression_68, ↓n_gb, ↓n_gb0, ↓n_ic, ↓n_icm, ↓n_lc, ↓e_lc, ↓e_null, ↓e_ldI, ↓e_ldL, ↓e_ldA, ↓e_stI, ↓e_stL, ↓e_stA, ↓n_inc, ↓n_incm1, ↓n_incm8, ↓e_iadd, ↓e_isub, ↓e_imul, ↓e_iand, ↓e_ior, ↓e_ixor, ↓n_ishl, ↓n_ishr, ↓e_iushr, ↓n_idiv, ↓e_ineg, ↓e_ladd, ↓e_lsub, ↓e_lmul, ↓e_lor, ↓e_lshl, ↓e_lshr, ↓e_i2l, ↓e_l2i, ↓e_i2b, ↓e_lcmp, ↓e_dup, ↓e_dup2, ↓e_pop, ↓e_ceq, ↓e_cne, ↓e_clt, ↓e_cge, ↓e_cgt, ↓e_cle, ↓n_zeq, ↓n_zne, ↓n_zlt, ↓n_zge, ↓n_zgt, ↓n_zle, ↓e_goto, ↓e_nn, ↓e_retI, ↓e_retL, ↓e_retV, ↓n_retZ, ↓e_retA, ↓e_gfI, ↓e_gfL, ↓e_gfR, ↓e_pfI, ↓n_pfZ, ↓e_pfL, ↓e_pfR, ↓e_iald, ↓e_lald, ↓e_aald, ↓e_alen, ↓e_iast, ↓e_bast, ↓n_zast, ↓e_last, ↓e_aast, ↓e_cV, ↓e_cS, ↓e_gsW, ↓e_gsK, ↓e_mmax, ↓e_mmin, ↓e_mmaxL, ↓e_mminL, gEnt, gPad, gArgs, gGet, gS1, gS2, gCl, gNo, gSp, gCt, n_sw, n_gSw, n_gSw0, Option.toList, List.cons_append, List.nil_append, Value.category, and_true, true_and, and_self, not_false_eq_true, not_true_eq_false, Nat.reduceAdd, Nat.reduceSub, Nat.reduceMul, Nat.reduceLeDiff, Nat.reduceLT, Nat.reduceEqDiff, forall_const, true_implies, false_implies, implies_true, Nat.zero_add, Option.some.injEq, Sum.inr.injEq, Sum.inl.injEq, Prod.mk.injEq, exists_eq_left', exists_eq_left, w_ne0, nI_add, w_lt, w_le, w_eq, w_meq, w_eqm, w_mlt, w_ltm, w_mle, w_lem, w_clamp, w_in, w_31, w_ite0, w_ite1, w_ite01, true_or, or_true, false_or, or_false, Nat.le_refl, Nat.lt_irrefl, S_110 hS, S_113 hS, S_115 hS, S_134 hS, R_110_5 hR, R_110_7 hR, R_110_39 hR]
      exact t70 101 _ (Or.inr ⟨rfl, c10⟩)
    rw [if_neg (fun z => c10 (q26.1 z))]
    simp (disch := omega) only [↓n_gb, ↓n_gb0, ↓n_ic, ↓n_icm, ↓n_lc, ↓e_lc, ↓e_null, ↓e_ldI, ↓e_ldL, ↓e_ldA, ↓e_stI, ↓e_stL, ↓e_stA, ↓n_inc, ↓n_incm1, ↓n_incm8, ↓e_iadd, ↓e_isub, ↓e_imul, ↓e_iand, ↓e_ior, ↓e_ixor, ↓n_ishl, ↓n_ishr, ↓e_iushr, ↓n_idiv, ↓e_ineg, ↓e_ladd, ↓e_lsub, ↓e_lmul, ↓e_lor, ↓e_lshl, ↓e_lshr, ↓e_i2l, ↓e_l2i, ↓e_i2b, ↓e_lcmp, ↓e_dup, ↓e_dup2, ↓e_pop, ↓e_ceq, ↓e_cne, ↓e_clt, ↓e_cge, ↓e_cgt, ↓e_cle, ↓n_zeq, ↓n_zne, ↓n_zlt, ↓n_zge, ↓n_zgt, ↓n_zle, ↓e_goto, ↓e_nn, ↓e_retI, ↓e_retL, ↓e_retV, ↓n_retZ, ↓e_retA, ↓e_gfI, ↓e_gfL, ↓e_gfR, ↓e_pfI, ↓n_pfZ, ↓e_pfL, ↓e_pfR, ↓e_iald, ↓e_lald, ↓e_aald, ↓e_alen, ↓e_iast, ↓e_bast, ↓n_zast, ↓e_last, ↓e_aast, ↓e_cV, ↓e_cS, ↓e_gsW, ↓e_gsK, ↓e_mmax, ↓e_mmin, ↓e_mmaxL, ↓e_mminL, gEnt, gPad, gArgs, gGet, gS1, gS2, gCl, gNo, gSp, gCt, n_sw, n_gSw, n_gSw0, Option.toList, List.cons_append, List.nil_append, Value.category, and_true, true_and, and_self, not_false_eq_true, not_true_eq_false, Nat.reduceAdd, Nat.reduceSub, Nat.reduceMul, Nat.reduceLeDiff, Nat.reduceLT, Nat.reduceEqDiff, forall_const, true_implies, false_implies, implies_true, Nat.zero_add, Option.some.injEq, Sum.inr.injEq, Sum.inl.injEq, Prod.mk.injEq, exists_eq_left', exists_eq_left, w_ne0, nI_add, w_lt, w_le, w_eq, w_meq, w_eqm, w_mlt, w_ltm, w_mle, w_lem, w_clamp, w_in, w_31, w_ite0, w_ite1, w_ite01, true_or, or_true, false_or, or_false, Nat.le_refl, Nat.lt_irrefl, S_110 hS, S_113 hS, S_115 hS, S_134 hS, R_110_5 hR, R_110_7 hR, R_110_39 hR]
    exact t83 c40 c9 c10 _
  · -- how a sum goes on
    rw [rd_3] at hok hfa
    by_cases c : K p = 43 ∨ K p = 45
    · rw [if_pos c] at hok hfa
      obtain ⟨w, hw⟩ : ∃ w, (K p = 43 ∧ w = 9) ∨ (K p = 45 ∧ w = 10) := by
        rcases c with c | c
        · exact ⟨9, Or.inl ⟨c, rfl⟩⟩
        · exact ⟨10, Or.inr ⟨c, rfl⟩⟩
      have eIw : eI w = (K p, 0) := by rcases hw with ⟨e1, e2⟩ | ⟨e1, e2⟩ <;> (rw [e1, e2]; rfl)
      refine signStep (h := h + 1) hX hS hR hsd hz ht hk s (by omega) w 0 (by omega) hco (by rw [hV]; exact hVl) (fun μ1 f1 c4 x1 => ?_) (fun μ1 u1 f1 c4 s1' => ?_)
      · have ea : rAc K (K p) p = (2, p, []) := by unfold rAc; rw [if_neg (fun z => z rfl), if_pos c4]
        rw [ea, rb_px (by simp)] at hfa
        exact hfa μ1 f1 (by simp) x1
      · have ea : rAc K (K p) p = (0, p + 1, []) := by unfold rAc; rw [if_neg (fun z => z rfl), if_neg (by omega)]
        rw [ea, rb_p0 rfl] at hok hfa
        dsimp only at hok hfa
        rw [List.nil_append] at hok
        rw [hV] at s1'
        have hBw : coP 1 (w :: B) = (w :: B, []) := by
          simp only [coP]
          rw [if_neg (by omega)]
        refine (IH d (p + 1) (w :: B) V st μ1 u1 (by omega) hd (by rw [f1.2]; exact hR) (eFr_T f1 ht) (hEf _ _ f1 hEv) s1').2.1 (by omega) (by simp; omega) hBw (by omega) (fun μ2 u2 T2 C2 D2 f2 e s2' c2 v2 l2 => ?_) (fun μ2 f2 e x2 => ?_)
        · have gt := rd_gt (K := K) (show p + 1 ≤ 400 by omega) (by omega) e
          have le := rd_len (K := K) (show p + 1 ≤ 400 by omega) e
          rw [rb_p0 e, rb_p0 rfl] at hok hfa
          dsimp only at hok hfa
          simp only [List.length_cons] at l2
          refine (IH d _ T2 C2 _ μ2 u2 (by omega) hd (by rw [f2.2, f1.2]; exact hR) (eFr_T f2 (eFr_T f1 ht)) (hEf _ _ f2 (hEf _ _ f1 hEv)) s2').2.2.2.1 B (V ++ (rd K n 1 d (p + 1)).2.2 ++ [(K p, 0)]) (D2 ++ [eI w]) (by omega) hB hB0 (coP_sg (by omega) hB0 T2 D2 c2) (by rw [eIw, ← List.append_assoc, v2]) (by rw [List.length_append, List.length_append]; simp; omega) (by omega) (fun μ3 u3 T3 C3 D3 f3 e3 s3' c3 v3 l3 => ?_) (fun μ3 f3 e3 x3 => hfa μ3 (eFr_t f1 (eFr_t f2 f3)) e3 x3)
          refine hok μ3 u3 T3 C3 D3 (eFr_t f1 (eFr_t f2 f3)) e3 ?_ c3 ?_ l3
          · rw [List.foldl_append, List.foldl_append]
            have : List.foldl (eA rv pl) ((rd K n 1 d (p + 1)).2.2.foldl (eA rv pl) st) [(K p, 0)] = (rd K n 1 d (p + 1)).2.2.foldl (eA rv pl) st := by
              simp only [List.foldl_cons, List.foldl_nil]
              unfold eA
              rw [if_neg (by dsimp only; omega)]
            rw [this]
            exact s3'
          · rw [v3, List.append_assoc, List.append_assoc]
        · rw [rb_px e] at hfa
          exact hfa μ2 (eFr_t f1 f2) e x2
    · rw [if_neg c] at hok
      refine hok μ u T C D eFr_refl rfl s hco ?_ hT
      dsimp only
      rw [List.append_nil]
      exact hV
  · -- how a product goes on
    rw [rd_4] at hok hfa
    by_cases c : K p = 42
    · rw [if_pos c] at hok hfa
      refine signStep (h := h + 1) hX hS hR hsd hz ht hk s (by omega) 11 1 (by omega) hco (by rw [hV]; exact hVl) (fun μ1 f1 c4 x1 => ?_) (fun μ1 u1 f1 c4 s1' => ?_)
      · have ea : rAc K 42 p = (2, p, []) := by unfold rAc; rw [if_neg (fun z => z c), if_pos c4]
        rw [ea, rb_px (by simp)] at hfa
        exact hfa μ1 f1 (by simp) x1
      · have ea : rAc K 42 p = (0, p + 1, []) := by unfold rAc; rw [if_neg (fun z => z c), if_neg (by omega)]
        rw [ea, rb_p0 rfl] at hok hfa
        dsimp only at hok hfa
        rw [List.nil_append] at hok
        rw [hV] at s1'
        refine (IH d (p + 1) (11 :: B) V st μ1 u1 (by omega) hd (by rw [f1.2]; exact hR) (eFr_T f1 ht) (hEf _ _ f1 hEv) s1').2.2.1 (by omega) (by simp; omega) (by omega) (fun μ2 u2 f2 e s2' => ?_) (fun μ2 f2 e x2 => ?_)
        · have gt := rd_gt (K := K) (show p + 1 ≤ 400 by omega) (by omega) e
          have le := rd_len (K := K) (show p + 1 ≤ 400 by omega) e
          rw [rb_p0 e, rb_p0 rfl] at hok hfa
          dsimp only at hok hfa
          have hB11 : coP 1 (11 :: B) = (B, [(42, 0)]) := by
            simp only [coP]
            rw [if_pos (Or.inl trivial), hB1]
            rfl
          refine (IH d _ (11 :: B) _ _ μ2 u2 (by omega) hd (by rw [f2.2, f1.2]; exact hR) (eFr_T f2 (eFr_T f1 ht)) (hEf _ _ f2 (hEf _ _ f1 hEv)) s2').2.2.2.2 B (V ++ (rd K n 2 d (p + 1)).2.2 ++ [(42, 0)]) [(42, 0)] (by omega) hB hB1 hB11 rfl (by rw [List.length_append, List.length_append]; simp; omega) (by simp) (fun μ3 u3 T3 C3 D3 f3 e3 s3' c3 v3 l3 => ?_) (fun μ3 f3 e3 x3 => hfa μ3 (eFr_t f1 (eFr_t f2 f3)) e3 x3)
          refine hok μ3 u3 T3 C3 D3 (eFr_t f1 (eFr_t f2 f3)) e3 ?_ c3 ?_ l3
          · rw [List.foldl_append, List.foldl_append]
            have : List.foldl (eA rv pl) ((rd K n 2 d (p + 1)).2.2.foldl (eA rv pl) st) [(42, 0)] = (rd K n 2 d (p + 1)).2.2.foldl (eA rv pl) st := by
              simp only [List.foldl_cons, List.foldl_nil]
              unfold eA
              rw [if_neg (by dsimp only; omega)]
            rw [this]
            exact s3'
          · rw [v3, List.append_assoc, List.append_assoc]
        · rw [rb_px e] at hfa
          exact hfa μ2 (eFr_t f1 f2) e x2
    · rw [if_neg c] at hok
      refine hok μ u T C D eFr_refl rfl s hco ?_ hT
      dsimp only
      rw [List.append_nil]
      exact hV
