/-! PLANS, the class: the way for what is kept -/
/-- what is kept of the chosen, in the plan's words -/
abbrev pKp (E : gPE) (m c t : Nat) (cn nd fr : Nat → Nat) (ra : Nat → Option Nat) (kb l0 : Nat → Nat) : Prop := pK E = pZo m c ∧ ∀ n, n < c → m.testBit n = false → kb (pZo m n) = cn n ∧ pN E (pZo m n) = nd (cn n) ∧ pF E (pZo m n) = fr (cn n) ∧ l0 (pZo m n) = rSl (fr (cn n)) t (ra (cn n))
theorem pZo_mono {m a : Nat} : ∀ b, a ≤ b → pZo m a ≤ pZo m b
  | 0, h => by rw [show a = 0 by omega]; exact Nat.le_refl _
  | b + 1, h => by
    by_cases e : a = b + 1
    · rw [e]; exact Nat.le_refl _
    · have := pZo_mono (m := m) b (show a ≤ b by omega)
      simp only [pZo]
      split <;> omega
theorem pZo_le {m : Nat} : ∀ b, pZo m b ≤ b
  | 0 => Nat.le_refl _
  | b + 1 => by
    have := pZo_le (m := m) b
    simp only [pZo]
    split <;> omega
set_option maxHeartbeats 4000000 in
theorem k_keepAllBut {S : gSh} {h β c t m : Nat} {E : gPE} {cn nd fr wo kb l0 : Nat → Nat} {ra : Nat → Option Nat} {μ : gM} {P : gP} (hS : gLS S β) (hR : gPS μ.2.2 β) (q : qC β c cn nd fr wo ra t (ph E) μ) (hp : pKp E m c t cn nd fr ra kb l0) (hm : m < 16) (ht : t < 400) (h1 : 1 ≤ ph E) (h10 : ph E ≤ 10)
    (hP : ∀ g1 g2 gr, (∀ j, j < pK E → gr j = β + (19 + 3 * kb j) ∧ g1 j = nI (min (l0 j) (ph E)) ∧ g2 j = nI (pWt E j)) → P none (gU (gU (gW (gW μ.1 (β + 41) g1) (β + 42) g2) (β + 37) 12 (nI (pK E))) (β + 37) 14 (nI (pWt E (pK E))), μ.2.1, gW μ.2.2 (β + 40) gr)) : gRun S (h + 3) 40 [.ref (β + 37), .int (nI m)] μ P := by
  obtain ⟨q0, q11, q15, q16, -, q2⟩ := q
  obtain ⟨p1, p2⟩ := hp
  refine r_X4_keepAllBut (by simp [lg_sl, Value.category]) (fun X hX => ?_)
  refine b_X4_keepAllBut_0 hX ?_
  simp (disch := omega) only [B_X4_keepAllBut_0, ↓n_gb, ↓n_gb0, ↓n_ic, ↓n_icm, ↓n_lc, ↓e_lc, ↓e_null, ↓e_ldI, ↓e_ldL, ↓e_ldA, ↓e_stI, ↓e_stL, ↓e_stA, ↓n_inc, ↓n_incm1, ↓n_incm8, ↓e_iadd, ↓e_isub, ↓e_imul, ↓e_iand, ↓e_ior, ↓e_ixor, ↓n_ishl, ↓n_ishr, ↓e_iushr, ↓n_idiv, ↓e_ineg, ↓e_ladd, ↓e_lsub, ↓e_lmul, ↓e_lor, ↓e_lshl, ↓e_lshr, ↓e_i2l, ↓e_l2i, ↓e_i2b, ↓e_lcmp, ↓e_dup, ↓e_dup2, ↓e_pop, ↓e_ceq, ↓e_cne, ↓e_clt, ↓e_cge, ↓e_cgt, ↓e_cle, ↓n_zeq, ↓n_zne, ↓n_zlt, ↓n_zge, ↓n_zgt, ↓n_zle, ↓e_goto, ↓e_nn, ↓e_retI, ↓e_retL, ↓e_retV, ↓n_retZ, ↓e_retA, ↓e_gfI, ↓e_gfL, ↓e_gfR, ↓e_pfI, ↓n_pfZ, ↓e_pfL, ↓e_pfR, ↓e_iald, ↓e_lald, ↓e_aald, ↓e_alen, ↓e_iast, ↓e_bast, ↓n_zast, ↓e_last, ↓e_aast, ↓e_cV, ↓e_cS, ↓e_gsW, ↓e_gsK, ↓e_mmax, ↓e_mmin, ↓e_mmaxL, ↓e_mminL, gEnt, gPad, gArgs, gGet, gS1, gS2, gCl, gNo, gSp, gCt, n_sw, n_gSw, n_gSw0, Option.toList, List.cons_append, List.nil_append, Value.category, and_true, true_and, and_self, not_false_eq_true, not_true_eq_false, Nat.reduceAdd, Nat.reduceSub, Nat.reduceMul, Nat.reduceLeDiff, Nat.reduceLT, Nat.reduceEqDiff, forall_const, true_implies, false_implies, implies_true, Nat.zero_add, Option.some.injEq, Sum.inr.injEq, Sum.inl.injEq, Prod.mk.injEq, exists_eq_left', exists_eq_left, w_ne0, nI_add, w_lt, w_le, w_eq, w_meq, w_eqm, w_mlt, w_ltm, w_mle, w_lem, w_clamp, w_in, w_31, w_ite0, w_ite1, w_ite01, true_or, or_true, false_or, or_false, Nat.le_refl, Nat.lt_irrefl, S_37 hS, S_38 hS, S_40 hS, S_41 hS, S_42 hS, R_37_1 hR, R_37_3 hR, R_37_4 hR, R_37_5 hR, bx_S hS, bx_S1 hS, bx_S2 hS, bx_r hR, bx_r1 hR, bx_r2 hR]
  refine gLoop (I := fun n μ' lc => ∃ g1 g2 gr u, μ' = (gU (gU (gW (gW μ.1 (β + 41) g1) (β + 42) g2) (β + 37) 12 (nI (pZo m n))) (β + 37) 14 (nI (pWt E (pZo m n))), μ.2.1, gW μ.2.2 (β + 40) gr) ∧ (∀ j, j < pZo m n → gr j = β + (19 + 3 * kb j) ∧ g1 j = nI (min (l0 j) (ph E)) ∧ g2 j = nI (pWt E j)) ∧ lc = [some (.ref (β + 37)), some (.int (nI m)), some (.int (nI n)), u]) c ?_ ?_ 0 (by omega) _ _ ⟨μ.1 (β + 41), μ.1 (β + 42), μ.2.2 (β + 40), none, ?_, fun j hj => by simp [pZo] at hj, rfl⟩
  · rintro n μ' _ hn ⟨g1, g2, gr, u, rfl, f1, rfl⟩ hk
    obtain ⟨k1, k2, -, k4, k5, k6, -, -, k9⟩ := q2 n hn
    have hR0 := hR
    have hR' : gPS (gW μ.2.2 (β + 40) gr) β := gPS_W hR (by decide +kernel)
    have hR := hR'
    have hz4 : pZo m n ≤ n := pZo_le n
    refine b_X4_keepAllBut_12 hX ?_
    simp (disch := omega) only [B_X4_keepAllBut_12, ↓n_gb, ↓n_gb0, ↓n_ic, ↓n_icm, ↓n_lc, ↓e_lc, ↓e_null, ↓e_ldI, ↓e_ldL, ↓e_ldA, ↓e_stI, ↓e_stL, ↓e_stA, ↓n_inc, ↓n_incm1, ↓n_incm8, ↓e_iadd, ↓e_isub, ↓e_imul, ↓e_iand, ↓e_ior, ↓e_ixor, ↓n_ishl, ↓n_ishr, ↓e_iushr, ↓n_idiv, ↓e_ineg, ↓e_ladd, ↓e_lsub, ↓e_lmul, ↓e_lor, ↓e_lshl, ↓e_lshr, ↓e_i2l, ↓e_l2i, ↓e_i2b, ↓e_lcmp, ↓e_dup, ↓e_dup2, ↓e_pop, ↓e_ceq, ↓e_cne, ↓e_clt, ↓e_cge, ↓e_cgt, ↓e_cle, ↓n_zeq, ↓n_zne, ↓n_zlt, ↓n_zge, ↓n_zgt, ↓n_zle, ↓e_goto, ↓e_nn, ↓e_retI, ↓e_retL, ↓e_retV, ↓n_retZ, ↓e_retA, ↓e_gfI, ↓e_gfL, ↓e_gfR, ↓e_pfI, ↓n_pfZ, ↓e_pfL, ↓e_pfR, ↓e_iald, ↓e_lald, ↓e_aald, ↓e_alen, ↓e_iast, ↓e_bast, ↓n_zast, ↓e_last, ↓e_aast, ↓e_cV, ↓e_cS, ↓e_gsW, ↓e_gsK, ↓e_mmax, ↓e_mmin, ↓e_mmaxL, ↓e_mminL, gEnt, gPad, gArgs, gGet, gS1, gS2, gCl, gNo, gSp, gCt, n_sw, n_gSw, n_gSw0, Option.toList, List.cons_append, List.nil_append, Value.category, and_true, true_and, and_self, not_false_eq_true, not_true_eq_false, Nat.reduceAdd, Nat.reduceSub, Nat.reduceMul, Nat.reduceLeDiff, Nat.reduceLT, Nat.reduceEqDiff, forall_const, true_implies, false_implies, implies_true, Nat.zero_add, Option.some.injEq, Sum.inr.injEq, Sum.inl.injEq, Prod.mk.injEq, exists_eq_left', exists_eq_left, w_ne0, nI_add, w_lt, w_le, w_eq, w_meq, w_eqm, w_mlt, w_ltm, w_mle, w_lem, w_clamp, w_in, w_31, w_ite0, w_ite1, w_ite01, true_or, or_true, false_or, or_false, Nat.le_refl, Nat.lt_irrefl, S_37 hS, S_38 hS, S_40 hS, S_41 hS, S_42 hS, R_37_1 hR, R_37_3 hR, R_37_4 hR, R_37_5 hR, bx_S hS, bx_S1 hS, bx_S2 hS, bx_r hR, bx_r1 hR, bx_r2 hR, gU_n, gW_n, q11, w_tb, gU_s, k2]
    refine ⟨fun w => by omega, fun _ => ⟨fun w => ?_, fun w => ?_⟩⟩
    · refine b_X4_keepAllBut_106 hX ?_
      simp (disch := omega) only [B_X4_keepAllBut_106, ↓n_gb, ↓n_gb0, ↓n_ic, ↓n_icm, ↓n_lc, ↓e_lc, ↓e_null, ↓e_ldI, ↓e_ldL, ↓e_ldA, ↓e_stI, ↓e_stL, ↓e_stA, ↓n_inc, ↓n_incm1, ↓n_incm8, ↓e_iadd, ↓e_isub, ↓e_imul, ↓e_iand, ↓e_ior, ↓e_ixor, ↓n_ishl, ↓n_ishr, ↓e_iushr, ↓n_idiv, ↓e_ineg, ↓e_ladd, ↓e_lsub, ↓e_lmul, ↓e_lor, ↓e_lshl, ↓e_lshr, ↓e_i2l, ↓e_l2i, ↓e_i2b, ↓e_lcmp, ↓e_dup, ↓e_dup2, ↓e_pop, ↓e_ceq, ↓e_cne, ↓e_clt, ↓e_cge, ↓e_cgt, ↓e_cle, ↓n_zeq, ↓n_zne, ↓n_zlt, ↓n_zge, ↓n_zgt, ↓n_zle, ↓e_goto, ↓e_nn, ↓e_retI, ↓e_retL, ↓e_retV, ↓n_retZ, ↓e_retA, ↓e_gfI, ↓e_gfL, ↓e_gfR, ↓e_pfI, ↓n_pfZ, ↓e_pfL, ↓e_pfR, ↓e_iald, ↓e_lald, ↓e_aald, ↓e_alen, ↓e_iast, ↓e_bast, ↓n_zast, ↓e_last, ↓e_aast, ↓e_cV, ↓e_cS, ↓e_gsW, ↓e_gsK, ↓e_mmax, ↓e_mmin, ↓e_mmaxL, ↓e_mminL, gEnt, gPad, gArgs, gGet, gS1, gS2, gCl, gNo, gSp, gCt, n_sw, n_gSw, n_gSw0, Option.toList, List.cons_append, List.nil_append, Value.category, and_true, true_and, and_self, not_false_eq_true, not_true_eq_false, Nat.reduceAdd, Nat.reduceSub, Nat.reduceMul, Nat.reduceLeDiff, Nat.reduceLT, Nat.reduceEqDiff, forall_const, true_implies, false_implies, implies_true, Nat.zero_add, Option.some.injEq, Sum.inr.injEq, Sum.inl.injEq, Prod.mk.injEq, exists_eq_left', exists_eq_left, w_ne0, nI_add, w_lt, w_le, w_eq, w_meq, w_eqm, w_mlt, w_ltm, w_mle, w_lem, w_clamp, w_in, w_31, w_ite0, w_ite1, w_ite01, true_or, or_true, false_or, or_false, Nat.le_refl, Nat.lt_irrefl, S_37 hS, S_38 hS, S_40 hS, S_41 hS, S_42 hS, R_37_1 hR, R_37_3 hR, R_37_4 hR, R_37_5 hR, bx_S hS, bx_S1 hS, bx_S2 hS, bx_r hR, bx_r1 hR, bx_r2 hR]
      refine hk _ _ ⟨g1, g2, gr, u, ?_, ?_, rfl⟩
      · simp only [pZo, if_pos (Bool.of_not_eq_false w)]
      · simp only [pZo, if_pos (Bool.of_not_eq_false w)]
        exact f1
    · refine ⟨by omega, by omega, ?_⟩
      obtain ⟨e1, e2, e3, e4⟩ := p2 n hn w
      have er : gU (gW μ.2.2 (β + 40) gr) (β + 40) (pZo m n) (β + (19 + 3 * cn n)) = gW μ.2.2 (β + 40) (fun j => if j = pZo m n then β + (19 + 3 * cn n) else gr j) := by
        funext a j
        simp only [gU, gW]
        grind
      rw [er]
      have hR'' : gPS (gW μ.2.2 (β + 40) (fun j => if j = pZo m n then β + (19 + 3 * cn n) else gr j)) β := gPS_W hR0 (by decide +kernel)
      have hR := hR''
      refine k_firstLease (k := cn n) (F := fr (cn n)) (H := ph E) (ra := ra (cn n)) hS hR k1 ht k6 h10 ?_ ?_ ?_ ?_ ?_
      · simp (disch := omega) only [gU_n, gW_n, q15]
      · simp (disch := omega) only [gU_n, gW_n, q16]
      · simp (disch := omega) only [gU_n, gW_n, k5]
      · simp (disch := omega) only [gU_n, gW_n]; exact k9
      simp (disch := omega) only [↓n_gb, ↓n_gb0, ↓n_ic, ↓n_icm, ↓n_lc, ↓e_lc, ↓e_null, ↓e_ldI, ↓e_ldL, ↓e_ldA, ↓e_stI, ↓e_stL, ↓e_stA, ↓n_inc, ↓n_incm1, ↓n_incm8, ↓e_iadd, ↓e_isub, ↓e_imul, ↓e_iand, ↓e_ior, ↓e_ixor, ↓n_ishl, ↓n_ishr, ↓e_iushr, ↓n_idiv, ↓e_ineg, ↓e_ladd, ↓e_lsub, ↓e_lmul, ↓e_lor, ↓e_lshl, ↓e_lshr, ↓e_i2l, ↓e_l2i, ↓e_i2b, ↓e_lcmp, ↓e_dup, ↓e_dup2, ↓e_pop, ↓e_ceq, ↓e_cne, ↓e_clt, ↓e_cge, ↓e_cgt, ↓e_cle, ↓n_zeq, ↓n_zne, ↓n_zlt, ↓n_zge, ↓n_zgt, ↓n_zle, ↓e_goto, ↓e_nn, ↓e_retI, ↓e_retL, ↓e_retV, ↓n_retZ, ↓e_retA, ↓e_gfI, ↓e_gfL, ↓e_gfR, ↓e_pfI, ↓n_pfZ, ↓e_pfL, ↓e_pfR, ↓e_iald, ↓e_lald, ↓e_aald, ↓e_alen, ↓e_iast, ↓e_bast, ↓n_zast, ↓e_last, ↓e_aast, ↓e_cV, ↓e_cS, ↓e_gsW, ↓e_gsK, ↓e_mmax, ↓e_mmin, ↓e_mmaxL, ↓e_mminL, gEnt, gPad, gArgs, gGet, gS1, gS2, gCl, gNo, gSp, gCt, n_sw, n_gSw, n_gSw0, Option.toList, List.cons_append, List.nil_append, Value.category, and_true, true_and, and_self, not_false_eq_true, not_true_eq_false, Nat.reduceAdd, Nat.reduceSub, Nat.reduceMul, Nat.reduceLeDiff, Nat.reduceLT, Nat.reduceEqDiff, forall_const, true_implies, false_implies, implies_true, Nat.zero_add, Option.some.injEq, Sum.inr.injEq, Sum.inl.injEq, Prod.mk.injEq, exists_eq_left', exists_eq_left, w_ne0, nI_add, w_lt, w_le, w_eq, w_meq, w_eqm, w_mlt, w_ltm, w_mle, w_lem, w_clamp, w_in, w_31, w_ite0, w_ite1, w_ite01, true_or, or_true, false_or, or_false, Nat.le_refl, Nat.lt_irrefl, S_37 hS, S_38 hS, S_40 hS, S_41 hS, S_42 hS, R_37_1 hR, R_37_3 hR, R_37_4 hR, R_37_5 hR, bx_S hS, bx_S1 hS, bx_S2 hS, bx_r hR, bx_r1 hR, bx_r2 hR, gU_n, gW_n, gU_s, gW_s, q16, k5, w_sub, q_min, pk_mul]
      refine ⟨by omega, by omega, ?_⟩
      refine b_X4_keepAllBut_106 hX ?_
      simp (disch := omega) only [B_X4_keepAllBut_106, ↓n_gb, ↓n_gb0, ↓n_ic, ↓n_icm, ↓n_lc, ↓e_lc, ↓e_null, ↓e_ldI, ↓e_ldL, ↓e_ldA, ↓e_stI, ↓e_stL, ↓e_stA, ↓n_inc, ↓n_incm1, ↓n_incm8, ↓e_iadd, ↓e_isub, ↓e_imul, ↓e_iand, ↓e_ior, ↓e_ixor, ↓n_ishl, ↓n_ishr, ↓e_iushr, ↓n_idiv, ↓e_ineg, ↓e_ladd, ↓e_lsub, ↓e_lmul, ↓e_lor, ↓e_lshl, ↓e_lshr, ↓e_i2l, ↓e_l2i, ↓e_i2b, ↓e_lcmp, ↓e_dup, ↓e_dup2, ↓e_pop, ↓e_ceq, ↓e_cne, ↓e_clt, ↓e_cge, ↓e_cgt, ↓e_cle, ↓n_zeq, ↓n_zne, ↓n_zlt, ↓n_zge, ↓n_zgt, ↓n_zle, ↓e_goto, ↓e_nn, ↓e_retI, ↓e_retL, ↓e_retV, ↓n_retZ, ↓e_retA, ↓e_gfI, ↓e_gfL, ↓e_gfR, ↓e_pfI, ↓n_pfZ, ↓e_pfL, ↓e_pfR, ↓e_iald, ↓e_lald, ↓e_aald, ↓e_alen, ↓e_iast, ↓e_bast, ↓n_zast, ↓e_last, ↓e_aast, ↓e_cV, ↓e_cS, ↓e_gsW, ↓e_gsK, ↓e_mmax, ↓e_mmin, ↓e_mmaxL, ↓e_mminL, gEnt, gPad, gArgs, gGet, gS1, gS2, gCl, gNo, gSp, gCt, n_sw, n_gSw, n_gSw0, Option.toList, List.cons_append, List.nil_append, Value.category, and_true, true_and, and_self, not_false_eq_true, not_true_eq_false, Nat.reduceAdd, Nat.reduceSub, Nat.reduceMul, Nat.reduceLeDiff, Nat.reduceLT, Nat.reduceEqDiff, forall_const, true_implies, false_implies, implies_true, Nat.zero_add, Option.some.injEq, Sum.inr.injEq, Sum.inl.injEq, Prod.mk.injEq, exists_eq_left', exists_eq_left, w_ne0, nI_add, w_lt, w_le, w_eq, w_meq, w_eqm, w_mlt, w_ltm, w_mle, w_lem, w_clamp, w_in, w_31, w_ite0, w_ite1, w_ite01, true_or, or_true, false_or, or_false, Nat.le_refl, Nat.lt_irrefl, S_37 hS, S_38 hS, S_40 hS, S_41 hS, S_42 hS, R_37_1 hR, R_37_3 hR, R_37_4 hR, R_37_5 hR, bx_S hS, bx_S1 hS, bx_S2 hS, bx_r hR, bx_r1 hR, bx_r2 hR]
      refine hk _ _ ⟨fun j => if j = pZo m n then nI (min (l0 (pZo m n)) (ph E)) else g1 j, fun j => if j = pZo m n then nI (pWt E (pZo m n)) else g2 j, fun j => if j = pZo m n then β + (19 + 3 * cn n) else gr j, _, ?_, ?_, rfl⟩
      · have ez : pZo m (n + 1) = pZo m n + 1 := by simp only [pZo, w]; rfl
        have ew : pWt E (pZo m n + 1) = pWt E (pZo m n) * (min (fr (cn n)) (ph E - 1) + 1) := by rw [pWt_s, pRx, e3]
        rw [ez, ew, e4]
        refine Prod.ext ?_ rfl
        dsimp only
        funext a j
        simp only [gU, gW]
        grind
      · have ez : pZo m (n + 1) = pZo m n + 1 := by simp only [pZo, w]; rfl
        rw [ez]
        intro j hj
        dsimp only
        by_cases e : j = pZo m n
        · rw [if_pos e, if_pos e, if_pos e, e, e1]; exact ⟨rfl, rfl, rfl⟩
        · rw [if_neg e, if_neg e, if_neg e]; exact f1 j (by omega)
  · rintro μ' _ ⟨g1, g2, gr, u, rfl, f1, rfl⟩
    have hR' : gPS (gW μ.2.2 (β + 40) gr) β := gPS_W hR (by decide +kernel)
    have hR := hR'
    refine b_X4_keepAllBut_12 hX ?_
    simp (disch := omega) only [B_X4_keepAllBut_12, ↓n_gb, ↓n_gb0, ↓n_ic, ↓n_icm, ↓n_lc, ↓e_lc, ↓e_null, ↓e_ldI, ↓e_ldL, ↓e_ldA, ↓e_stI, ↓e_stL, ↓e_stA, ↓n_inc, ↓n_incm1, ↓n_incm8, ↓e_iadd, ↓e_isub, ↓e_imul, ↓e_iand, ↓e_ior, ↓e_ixor, ↓n_ishl, ↓n_ishr, ↓e_iushr, ↓n_idiv, ↓e_ineg, ↓e_ladd, ↓e_lsub, ↓e_lmul, ↓e_lor, ↓e_lshl, ↓e_lshr, ↓e_i2l, ↓e_l2i, ↓e_i2b, ↓e_lcmp, ↓e_dup, ↓e_dup2, ↓e_pop, ↓e_ceq, ↓e_cne, ↓e_clt, ↓e_cge, ↓e_cgt, ↓e_cle, ↓n_zeq, ↓n_zne, ↓n_zlt, ↓n_zge, ↓n_zgt, ↓n_zle, ↓e_goto, ↓e_nn, ↓e_retI, ↓e_retL, ↓e_retV, ↓n_retZ, ↓e_retA, ↓e_gfI, ↓e_gfL, ↓e_gfR, ↓e_pfI, ↓n_pfZ, ↓e_pfL, ↓e_pfR, ↓e_iald, ↓e_lald, ↓e_aald, ↓e_alen, ↓e_iast, ↓e_bast, ↓n_zast, ↓e_last, ↓e_aast, ↓e_cV, ↓e_cS, ↓e_gsW, ↓e_gsK, ↓e_mmax, ↓e_mmin, ↓e_mmaxL, ↓e_mminL, gEnt, gPad, gArgs, gGet, gS1, gS2, gCl, gNo, gSp, gCt, n_sw, n_gSw, n_gSw0, Option.toList, List.cons_append, List.nil_append, Value.category, and_true, true_and, and_self, not_false_eq_true, not_true_eq_false, Nat.reduceAdd, Nat.reduceSub, Nat.reduceMul, Nat.reduceLeDiff, Nat.reduceLT, Nat.reduceEqDiff, forall_const, true_implies, false_implies, implies_true, Nat.zero_add, Option.some.injEq, Sum.inr.injEq, Sum.inl.injEq, Prod.mk.injEq, exists_eq_left', exists_eq_left, w_ne0, nI_add, w_lt, w_le, w_eq, w_meq, w_eqm, w_mlt, w_ltm, w_mle, w_lem, w_clamp, w_in, w_31, w_ite0, w_ite1, w_ite01, true_or, or_true, false_or, or_false, Nat.le_refl, Nat.lt_irrefl, S_37 hS, S_38 hS, S_40 hS, S_41 hS, S_42 hS, R_37_1 hR, R_37_3 hR, R_37_4 hR, R_37_5 hR, bx_S hS, bx_S1 hS, bx_S2 hS, bx_r hR, bx_r1 hR, bx_r2 hR, gU_n, gW_n, q11]
    refine b_X4_keepAllBut_112 hX ?_
    simp (disch := omega) only [B_X4_keepAllBut_112, ↓n_gb, ↓n_gb0, ↓n_ic, ↓n_icm, ↓n_lc, ↓e_lc, ↓e_null, ↓e_ldI, ↓e_ldL, ↓e_ldA, ↓e_stI, ↓e_stL, ↓e_stA, ↓n_inc, ↓n_incm1, ↓n_incm8, ↓e_iadd, ↓e_isub, ↓e_imul, ↓e_iand, ↓e_ior, ↓e_ixor, ↓n_ishl, ↓n_ishr, ↓e_iushr, ↓n_idiv, ↓e_ineg, ↓e_ladd, ↓e_lsub, ↓e_lmul, ↓e_lor, ↓e_lshl, ↓e_lshr, ↓e_i2l, ↓e_l2i, ↓e_i2b, ↓e_lcmp, ↓e_dup, ↓e_dup2, ↓e_pop, ↓e_ceq, ↓e_cne, ↓e_clt, ↓e_cge, ↓e_cgt, ↓e_cle, ↓n_zeq, ↓n_zne, ↓n_zlt, ↓n_zge, ↓n_zgt, ↓n_zle, ↓e_goto, ↓e_nn, ↓e_retI, ↓e_retL, ↓e_retV, ↓n_retZ, ↓e_retA, ↓e_gfI, ↓e_gfL, ↓e_gfR, ↓e_pfI, ↓n_pfZ, ↓e_pfL, ↓e_pfR, ↓e_iald, ↓e_lald, ↓e_aald, ↓e_alen, ↓e_iast, ↓e_bast, ↓n_zast, ↓e_last, ↓e_aast, ↓e_cV, ↓e_cS, ↓e_gsW, ↓e_gsK, ↓e_mmax, ↓e_mmin, ↓e_mmaxL, ↓e_mminL, gEnt, gPad, gArgs, gGet, gS1, gS2, gCl, gNo, gSp, gCt, n_sw, n_gSw, n_gSw0, Option.toList, List.cons_append, List.nil_append, Value.category, and_true, true_and, and_self, not_false_eq_true, not_true_eq_false, Nat.reduceAdd, Nat.reduceSub, Nat.reduceMul, Nat.reduceLeDiff, Nat.reduceLT, Nat.reduceEqDiff, forall_const, true_implies, false_implies, implies_true, Nat.zero_add, Option.some.injEq, Sum.inr.injEq, Sum.inl.injEq, Prod.mk.injEq, exists_eq_left', exists_eq_left, w_ne0, nI_add, w_lt, w_le, w_eq, w_meq, w_eqm, w_mlt, w_ltm, w_mle, w_lem, w_clamp, w_in, w_31, w_ite0, w_ite1, w_ite01, true_or, or_true, false_or, or_false, Nat.le_refl, Nat.lt_irrefl, S_37 hS, S_38 hS, S_40 hS, S_41 hS, S_42 hS, R_37_1 hR, R_37_3 hR, R_37_4 hR, R_37_5 hR, bx_S hS, bx_S1 hS, bx_S2 hS, bx_r hR, bx_r1 hR, bx_r2 hR]
    rw [← p1] at f1 ⊢
    exact hP g1 g2 gr f1
  · refine Prod.ext ?_ (Prod.ext rfl ?_)
    · dsimp only [pZo, pWt]
      funext a j
      simp only [gU, gW]
      grind
    · dsimp only
      funext a j
      simp only [gW]
      grind
/-- what findWay leaves alone -/
def qFr (β : Nat) (μ μ' : gM) : Prop := (∀ a i, ¬ (a = β + 37 ∧ 12 ≤ i ∧ i ≤ 14) → ¬ (β + 41 ≤ a ∧ a ≤ β + 45) → μ'.1 a i = μ.1 a i) ∧ (∀ a i, a ≠ β + 46 → a ≠ β + 47 → μ'.2.1 a i = μ.2.1 a i) ∧ (∀ a i, a ≠ β + 40 → ¬ (a = β + 37 ∧ (i = 9 ∨ i = 10)) → μ'.2.2 a i = μ.2.2 a i)
theorem qFr_refl {β : Nat} {μ : gM} : qFr β μ μ := ⟨fun _ _ _ _ => rfl, fun _ _ _ _ => rfl, fun _ _ _ _ => rfl⟩
theorem qFr_t {β : Nat} {μ μ1 μ2 : gM} (h1 : qFr β μ μ1) (h2 : qFr β μ1 μ2) : qFr β μ μ2 := ⟨fun a i x y => (h2.1 a i x y).trans (h1.1 a i x y), fun a i x y => (h2.2.1 a i x y).trans (h1.2.1 a i x y), fun a i x y => (h2.2.2 a i x y).trans (h1.2.2 a i x y)⟩
theorem qFr_R {β : Nat} {μ μ' : gM} (h : qFr β μ μ') (hR : gPS μ.2.2 β) : gPS μ'.2.2 β := by
  intro e he
  have hn : gPtF.all (fun e => !(e.1 == 40) && !(e.1 == 37 && (e.2.1 == 9 || e.2.1 == 10))) = true := by decide +kernel
  have := (List.all_eq_true.mp hn) e he
  rw [h.2.2 _ _ ?_ ?_]
  · exact hR e he
  · intro w
    have h1 : e.1 = 40 := by omega
    simp [h1] at this
  · rintro ⟨w, w2⟩
    have h1 : e.1 = 37 := by omega
    rcases w2 with w2 | w2 <;> simp [h1, w2] at this
theorem qFr_C {β c t h : Nat} {cn nd fr wo : Nat → Nat} {ra : Nat → Option Nat} {μ μ' : gM} (f : qFr β μ μ') (H : qC β c cn nd fr wo ra t h μ) : qC β c cn nd fr wo ra t h μ' :=
  qC_c (fun a i hD => f.1 _ _ (by omega) (by omega)) (f.2.2 _ _ (by omega) (by omega)) (fun j => f.2.2 _ _ (by omega) (by omega)) H
theorem qFr_S {β t : Nat} {E : gPE} {μ μ' : gM} (f : qFr β μ μ') (H : qS β E t μ) : qS β E t μ' :=
  qS_c (fun a i hD => f.1 _ _ (by omega) (by omega)) H
/-- the ways that are reached stand -/
def qWy (β ww : Nat) (E : gPE) (f : Nat → Nat) (μ : gM) : Prop := ∀ c, c < pWt E (pK E) → μ.2.1 (β + ww) c = lN (f c) ∧ f c ≤ pMx
abbrev pSrL (E : gPE) (f : Nat → Nat) (n : Nat) : (Nat → Nat) → Nat → Prop := fun l w => ∃ c, c < n ∧ f c ≠ pMx ∧ l = pUn E c ∧ w = f c
theorem pSp_T {E : gPE} {i w : Nat} {l f0 f : Nat → Nat} {Src Src' : (Nat → Nat) → Nat → Prop} (hE : pWf E) (hs : ∀ l w, Src l w → ∀ b, b < pK E → l b ≤ ph E - i ∧ l b ≤ pF E b + 1) (h1 : pT1 E i Src f0) (h2 : pT2 E i Src f0) (sp : pSp E i l w 16 f0 f) (hS : ∀ l' w', Src' l' w' ↔ Src l' w' ∨ (l' = l ∧ w' = w)) : pT1 E i Src' f ∧ pT2 E i Src' f := by
  constructor
  · intro c hc
    obtain ⟨z1, z2⟩ := sp.1 c hc
    rcases z2 with z2 | ⟨x, x1, x2, x3, x4, x5⟩
    · rw [z2]
      rcases h1 c hc with y | ⟨l', w', x, y1, y2⟩
      · exact Or.inl y
      · exact Or.inr ⟨l', w', x, (hS _ _).2 (Or.inl y1), y2⟩
    · exact Or.inr ⟨l, w, x, (hS _ _).2 (Or.inr ⟨rfl, rfl⟩), x1, x2, x4, x5⟩
  · intro l' w' x hs' us ok
    rcases (hS _ _).1 hs' with y | ⟨rfl, rfl⟩
    · exact Nat.le_trans (sp.1 _ (pBh_lt (hs l' w' y))).1 (h2 l' w' x y us ok)
    · have := pCt_15 hE us
      exact sp.2 x us ok (by omega)
