/-! LAYING, the reference: all orders -/
theorem gHm_b {G rw : Nat → Nat} {n : Nat} (h : ∀ k, k < n → rw k ≤ 72 ∧ G k ≤ 6) : ∀ b, b ≤ n → gHm (fun _ => true) G rw b ≤ 78
  | 0, _ => by simp [gHm]
  | b + 1, hb => by
    have ih := gHm_b h b (by omega)
    have := h b (by omega)
    simp only [gHm, if_true]
    omega
theorem gSu_b {W rw : Nat → Nat} {n : Nat} (h : ∀ k, k < n → rw k ≤ 72 ∧ W k ≤ 1000) : ∀ b, b ≤ n → gSu (fun _ => true) W rw b ≤ 72000 * b
  | 0, _ => by simp [gSu]
  | b + 1, hb => by
    have ih := gSu_b h b (by omega)
    have := h b (by omega)
    have : W b * rw b ≤ 1000 * 72 := Nat.mul_le_mul this.2 this.1
    simp only [gSu, if_true]
    omega
def gBm (β n : Nat) (B : gBs) (x3 x4 : Int32) (μ : gM) : Prop := B.1 < 2147483648 ∧ B.2.1 < 2147483648 ∧ ((B.1 = 2147483647 ∧ x3 = gm1) ∨ (B.1 ≠ 2147483647 ∧ x3 = nI B.1 ∧ x4 = nI B.2.1 ∧ ∀ k, k < n → μ.1 (β + 162) k = nI (B.2.2.1 k) ∧ μ.1 (β + 163) k = nI (B.2.2.2 k)))
set_option maxHeartbeats 4000000 in
theorem k_mLayRest {S : gSh} {C0 : gCS} {β lv n w cnt : Nat} {W D G rw cl : Nat → Nat} {B : gBs} {x3 x4 : Int32} {y6 y7 y8 : Option Value} {μ : gM} {P : gP} {X : Nat → gK} (hX : gClo K_X11_lay S C0 P X) (hS : gLS S β) (hR : gPS μ.2.2 β) (hn : n ≤ 6) (hA : gLMd β lv n w W D G μ) (hrc : ∀ k, k < n → μ.1 (β + 164) k = nI (rw k) ∧ μ.1 (β + 165) k = nI (cl k)) (h72 : ∀ k, k < n → rw k ≤ 72) (hB : gBm β n B x3 x4 μ)
    (hE : ∀ μ' x3' x4' y6 y7 y8, μ'.2 = μ.2 → (∀ a i, a ≠ β + 162 → a ≠ β + 163 → μ'.1 a i = μ.1 a i) → gBm β n (gBet B (gHm (fun _ => true) G rw n, gSu (fun _ => true) W rw n, rw, cl)) x3' x4' μ' → X 419 μ' [some (.ref (β + 110)), some (.int (nI w)), some (.int (nI cnt)), some (.int x3'), some (.int x4'), some (.int (nI 1)), y6, y7, y8] []) : X 227 μ [some (.ref (β + 110)), some (.int (nI w)), some (.int (nI cnt)), some (.int x3), some (.int x4), some (.int (nI 1)), y6, y7, y8] [] := by
  obtain ⟨hlv, h18, h119, hat⟩ := id hA
  have hH := gHm_b (G := G) (rw := rw) (n := n) (fun k hk => ⟨h72 k hk, (hat k hk).2.2.2.2.2.2.2⟩)
  have hSs := gSu_b (W := W) (rw := rw) (n := n) (fun k hk => ⟨h72 k hk, (hat k hk).2.2.2.1⟩)
  refine b_X11_lay_227 hX ?_
  simp (disch := omega) only [B_X11_lay_227, ↓n_gb, ↓n_gb0, ↓n_ic, ↓n_icm, ↓n_lc, ↓e_lc, ↓e_null, ↓e_ldI, ↓e_ldL, ↓e_ldA, ↓e_stI, ↓e_stL, ↓e_stA, ↓n_inc, ↓n_incm1, ↓n_incm8, ↓e_iadd, ↓e_isub, ↓e_imul, ↓e_iand, ↓e_ior, ↓e_ixor, ↓n_ishl, ↓n_ishr, ↓e_iushr, ↓n_idiv, ↓e_ineg, ↓e_ladd, ↓e_lsub, ↓e_lmul, ↓e_lor, ↓e_lshl, ↓e_lshr, ↓e_i2l, ↓e_l2i, ↓e_i2b, ↓e_lcmp, ↓e_dup, ↓e_dup2, ↓e_pop, ↓e_ceq, ↓e_cne, ↓e_clt, ↓e_cge, ↓e_cgt, ↓e_cle, ↓n_zeq, ↓n_zne, ↓n_zlt, ↓n_zge, ↓n_zgt, ↓n_zle, ↓e_goto, ↓e_nn, ↓e_retI, ↓e_retL, ↓e_retV, ↓n_retZ, ↓e_retA, ↓e_gfI, ↓e_gfL, ↓e_gfR, ↓e_pfI, ↓n_pfZ, ↓e_pfL, ↓e_pfR, ↓e_iald, ↓e_lald, ↓e_aald, ↓e_alen, ↓e_iast, ↓e_bast, ↓n_zast, ↓e_last, ↓e_aast, ↓e_cV, ↓e_cS, ↓e_gsW, ↓e_gsK, ↓e_mmax, ↓e_mmin, ↓e_mmaxL, ↓e_mminL, gEnt, gPad, gArgs, gGet, gS1, gS2, gCl, gNo, gSp, gCt, n_sw, n_gSw, n_gSw0, Option.toList, List.cons_append, List.nil_append, Value.category, and_true, true_and, and_self, not_false_eq_true, not_true_eq_false, Nat.reduceAdd, Nat.reduceSub, Nat.reduceMul, Nat.reduceLeDiff, Nat.reduceLT, Nat.reduceEqDiff, forall_const, true_implies, false_implies, implies_true, Nat.zero_add, Option.some.injEq, Sum.inr.injEq, Sum.inl.injEq, Prod.mk.injEq, exists_eq_left', exists_eq_left, w_ne0, nI_add, w_lt, w_le, w_eq, w_meq, w_eqm, w_mlt, w_ltm, w_mle, w_lem, w_clamp, w_in, w_31, w_ite0, w_ite1, w_ite01, true_or, or_true, false_or, or_false, Nat.le_refl, Nat.lt_irrefl, S_110 hS, S_119 hS, S_128 hS, S_130 hS, S_131 hS, S_159 hS, S_160 hS, S_161 hS, S_162 hS, S_163 hS, S_164 hS, S_165 hS, S_166 hS, S_167 hS, R_110_21 hR, R_110_30 hR, R_110_32 hR, R_110_33 hR, R_110_77 hR, R_110_78 hR, R_110_79 hR, R_110_81 hR, R_110_82 hR, R_110_83 hR, R_110_84 hR, R_110_85 hR, R_110_86 hR]
  refine gLoop (I := fun b μ' lc => μ' = μ ∧ lc = [some (.ref (β + 110)), some (.int (nI w)), some (.int (nI cnt)), some (.int x3), some (.int x4), some (.int (nI 1)), some (.int (nI (gHm (fun _ => true) G rw b))), some (.int (nI (gSu (fun _ => true) W rw b))), some (.int (nI b))]) n ?_ ?_ 0 (by omega) _ _ ⟨rfl, rfl⟩
  · rintro b μ _ hb ⟨rfl, rfl⟩ hK
    obtain ⟨t0, t2, t3, t4, t5, t6, t7, t8⟩ := hat b hb
    obtain ⟨r1, r2⟩ := hrc b hb
    have h1 := hH b (by omega)
    have h2 := hSs b (by omega)
    have h3 := h72 b hb
    have hbn : ¬ n ≤ b := by omega
    have hb6 : b < 6 := by omega
    have hx : 6 * lv + b < 12 := by omega
    have w303 : ∀ x, x = nI (gHm (fun _ => true) G rw (b + 1)) → X 303 μ [some (.ref (β + 110)), some (.int (nI w)), some (.int (nI cnt)), some (.int x3), some (.int x4), some (.int (nI 1)), some (.int x), some (.int (nI (gSu (fun _ => true) W rw b))), some (.int (nI b))] [] := by
      intro x hx2
      refine b_X11_lay_303 hX ?_
      simp (disch := omega) only [B_X11_lay_303, ↓n_gb, ↓n_gb0, ↓n_ic, ↓n_icm, ↓n_lc, ↓e_lc, ↓e_null, ↓e_ldI, ↓e_ldL, ↓e_ldA, ↓e_stI, ↓e_stL, ↓e_stA, ↓n_inc, ↓n_incm1, ↓n_incm8, ↓e_iadd, ↓e_isub, ↓e_imul, ↓e_iand, ↓e_ior, ↓e_ixor, ↓n_ishl, ↓n_ishr, ↓e_iushr, ↓n_idiv, ↓e_ineg, ↓e_ladd, ↓e_lsub, ↓e_lmul, ↓e_lor, ↓e_lshl, ↓e_lshr, ↓e_i2l, ↓e_l2i, ↓e_i2b, ↓e_lcmp, ↓e_dup, ↓e_dup2, ↓e_pop, ↓e_ceq, ↓e_cne, ↓e_clt, ↓e_cge, ↓e_cgt, ↓e_cle, ↓n_zeq, ↓n_zne, ↓n_zlt, ↓n_zge, ↓n_zgt, ↓n_zle, ↓e_goto, ↓e_nn, ↓e_retI, ↓e_retL, ↓e_retV, ↓n_retZ, ↓e_retA, ↓e_gfI, ↓e_gfL, ↓e_gfR, ↓e_pfI, ↓n_pfZ, ↓e_pfL, ↓e_pfR, ↓e_iald, ↓e_lald, ↓e_aald, ↓e_alen, ↓e_iast, ↓e_bast, ↓n_zast, ↓e_last, ↓e_aast, ↓e_cV, ↓e_cS, ↓e_gsW, ↓e_gsK, ↓e_mmax, ↓e_mmin, ↓e_mmaxL, ↓e_mminL, gEnt, gPad, gArgs, gGet, gS1, gS2, gCl, gNo, gSp, gCt, n_sw, n_gSw, n_gSw0, Option.toList, List.cons_append, List.nil_append, Value.category, and_true, true_and, and_self, not_false_eq_true, not_true_eq_false, Nat.reduceAdd, Nat.reduceSub, Nat.reduceMul, Nat.reduceLeDiff, Nat.reduceLT, Nat.reduceEqDiff, forall_const, true_implies, false_implies, implies_true, Nat.zero_add, Option.some.injEq, Sum.inr.injEq, Sum.inl.injEq, Prod.mk.injEq, exists_eq_left', exists_eq_left, w_ne0, nI_add, w_lt, w_le, w_eq, w_meq, w_eqm, w_mlt, w_ltm, w_mle, w_lem, w_clamp, w_in, w_31, w_ite0, w_ite1, w_ite01, true_or, or_true, false_or, or_false, Nat.le_refl, Nat.lt_irrefl, S_110 hS, S_119 hS, S_128 hS, S_130 hS, S_131 hS, S_159 hS, S_160 hS, S_161 hS, S_162 hS, S_163 hS, S_164 hS, S_165 hS, S_166 hS, S_167 hS, R_110_21 hR, R_110_30 hR, R_110_32 hR, R_110_33 hR, R_110_77 hR, R_110_78 hR, R_110_79 hR, R_110_81 hR, R_110_82 hR, R_110_83 hR, R_110_84 hR, R_110_85 hR, R_110_86 hR, h18, pk_mul, hx, t0, hb6, r1]
      exact hK _ _ ⟨rfl, by rw [hx2]; simp only [gSu, if_true]⟩
    refine b_X11_lay_236 hX ?_
    simp (disch := omega) only [B_X11_lay_236, ↓n_gb, ↓n_gb0, ↓n_ic, ↓n_icm, ↓n_lc, ↓e_lc, ↓e_null, ↓e_ldI, ↓e_ldL, ↓e_ldA, ↓e_stI, ↓e_stL, ↓e_stA, ↓n_inc, ↓n_incm1, ↓n_incm8, ↓e_iadd, ↓e_isub, ↓e_imul, ↓e_iand, ↓e_ior, ↓e_ixor, ↓n_ishl, ↓n_ishr, ↓e_iushr, ↓n_idiv, ↓e_ineg, ↓e_ladd, ↓e_lsub, ↓e_lmul, ↓e_lor, ↓e_lshl, ↓e_lshr, ↓e_i2l, ↓e_l2i, ↓e_i2b, ↓e_lcmp, ↓e_dup, ↓e_dup2, ↓e_pop, ↓e_ceq, ↓e_cne, ↓e_clt, ↓e_cge, ↓e_cgt, ↓e_cle, ↓n_zeq, ↓n_zne, ↓n_zlt, ↓n_zge, ↓n_zgt, ↓n_zle, ↓e_goto, ↓e_nn, ↓e_retI, ↓e_retL, ↓e_retV, ↓n_retZ, ↓e_retA, ↓e_gfI, ↓e_gfL, ↓e_gfR, ↓e_pfI, ↓n_pfZ, ↓e_pfL, ↓e_pfR, ↓e_iald, ↓e_lald, ↓e_aald, ↓e_alen, ↓e_iast, ↓e_bast, ↓n_zast, ↓e_last, ↓e_aast, ↓e_cV, ↓e_cS, ↓e_gsW, ↓e_gsK, ↓e_mmax, ↓e_mmin, ↓e_mmaxL, ↓e_mminL, gEnt, gPad, gArgs, gGet, gS1, gS2, gCl, gNo, gSp, gCt, n_sw, n_gSw, n_gSw0, Option.toList, List.cons_append, List.nil_append, Value.category, and_true, true_and, and_self, not_false_eq_true, not_true_eq_false, Nat.reduceAdd, Nat.reduceSub, Nat.reduceMul, Nat.reduceLeDiff, Nat.reduceLT, Nat.reduceEqDiff, forall_const, true_implies, false_implies, implies_true, Nat.zero_add, Option.some.injEq, Sum.inr.injEq, Sum.inl.injEq, Prod.mk.injEq, exists_eq_left', exists_eq_left, w_ne0, nI_add, w_lt, w_le, w_eq, w_meq, w_eqm, w_mlt, w_ltm, w_mle, w_lem, w_clamp, w_in, w_31, w_ite0, w_ite1, w_ite01, true_or, or_true, false_or, or_false, Nat.le_refl, Nat.lt_irrefl, S_110 hS, S_119 hS, S_128 hS, S_130 hS, S_131 hS, S_159 hS, S_160 hS, S_161 hS, S_162 hS, S_163 hS, S_164 hS, S_165 hS, S_166 hS, S_167 hS, R_110_21 hR, R_110_30 hR, R_110_32 hR, R_110_33 hR, R_110_77 hR, R_110_78 hR, R_110_79 hR, R_110_81 hR, R_110_82 hR, R_110_83 hR, R_110_84 hR, R_110_85 hR, R_110_86 hR, h18, h119, hlv, hbn, hb6, r1, pk_mul, hx, t3]
    refine ⟨fun q => w303 _ ?_, fun q => w303 _ ?_⟩
    · simp only [gHm, if_true]
      rw [Nat.max_eq_left (by omega)]
    · simp only [gHm, if_true]
      rw [Nat.max_eq_right (by omega)]
  rintro μ _ ⟨rfl, rfl⟩
  have h1 := hH n (Nat.le_refl _)
  have h2 := hSs n (Nat.le_refl _)
  obtain ⟨B1, B2, B3⟩ := hB
  refine b_X11_lay_236 hX ?_
  simp (disch := omega) only [B_X11_lay_236, ↓n_gb, ↓n_gb0, ↓n_ic, ↓n_icm, ↓n_lc, ↓e_lc, ↓e_null, ↓e_ldI, ↓e_ldL, ↓e_ldA, ↓e_stI, ↓e_stL, ↓e_stA, ↓n_inc, ↓n_incm1, ↓n_incm8, ↓e_iadd, ↓e_isub, ↓e_imul, ↓e_iand, ↓e_ior, ↓e_ixor, ↓n_ishl, ↓n_ishr, ↓e_iushr, ↓n_idiv, ↓e_ineg, ↓e_ladd, ↓e_lsub, ↓e_lmul, ↓e_lor, ↓e_lshl, ↓e_lshr, ↓e_i2l, ↓e_l2i, ↓e_i2b, ↓e_lcmp, ↓e_dup, ↓e_dup2, ↓e_pop, ↓e_ceq, ↓e_cne, ↓e_clt, ↓e_cge, ↓e_cgt, ↓e_cle, ↓n_zeq, ↓n_zne, ↓n_zlt, ↓n_zge, ↓n_zgt, ↓n_zle, ↓e_goto, ↓e_nn, ↓e_retI, ↓e_retL, ↓e_retV, ↓n_retZ, ↓e_retA, ↓e_gfI, ↓e_gfL, ↓e_gfR, ↓e_pfI, ↓n_pfZ, ↓e_pfL, ↓e_pfR, ↓e_iald, ↓e_lald, ↓e_aald, ↓e_alen, ↓e_iast, ↓e_bast, ↓n_zast, ↓e_last, ↓e_aast, ↓e_cV, ↓e_cS, ↓e_gsW, ↓e_gsK, ↓e_mmax, ↓e_mmin, ↓e_mmaxL, ↓e_mminL, gEnt, gPad, gArgs, gGet, gS1, gS2, gCl, gNo, gSp, gCt, n_sw, n_gSw, n_gSw0, Option.toList, List.cons_append, List.nil_append, Value.category, and_true, true_and, and_self, not_false_eq_true, not_true_eq_false, Nat.reduceAdd, Nat.reduceSub, Nat.reduceMul, Nat.reduceLeDiff, Nat.reduceLT, Nat.reduceEqDiff, forall_const, true_implies, false_implies, implies_true, Nat.zero_add, Option.some.injEq, Sum.inr.injEq, Sum.inl.injEq, Prod.mk.injEq, exists_eq_left', exists_eq_left, w_ne0, nI_add, w_lt, w_le, w_eq, w_meq, w_eqm, w_mlt, w_ltm, w_mle, w_lem, w_clamp, w_in, w_31, w_ite0, w_ite1, w_ite01, true_or, or_true, false_or, or_false, Nat.le_refl, Nat.lt_irrefl, S_110 hS, S_119 hS, S_128 hS, S_130 hS, S_131 hS, S_159 hS, S_160 hS, S_161 hS, S_162 hS, S_163 hS, S_164 hS, S_165 hS, S_166 hS, S_167 hS, R_110_21 hR, R_110_30 hR, R_110_32 hR, R_110_33 hR, R_110_77 hR, R_110_78 hR, R_110_79 hR, R_110_81 hR, R_110_82 hR, R_110_83 hR, R_110_84 hR, R_110_85 hR, R_110_86 hR, h18, h119, hlv]
  generalize hHH : gHm (fun _ => true) G rw n = HH at *
  generalize hSS : gSu (fun _ => true) W rw n = SS at *
  have w361 : (HH < B.1 ∨ (HH = B.1 ∧ SS < B.2.1)) → X 361 μ [some (.ref (β + 110)), some (.int (nI w)), some (.int (nI cnt)), some (.int x3), some (.int x4), some (.int (nI 1)), some (.int (nI HH)), some (.int (nI SS)), some (.int (nI n))] [] := by
    intro q
    refine b_X11_lay_361 hX ?_
    simp (disch := omega) only [B_X11_lay_361, ↓n_gb, ↓n_gb0, ↓n_ic, ↓n_icm, ↓n_lc, ↓e_lc, ↓e_null, ↓e_ldI, ↓e_ldL, ↓e_ldA, ↓e_stI, ↓e_stL, ↓e_stA, ↓n_inc, ↓n_incm1, ↓n_incm8, ↓e_iadd, ↓e_isub, ↓e_imul, ↓e_iand, ↓e_ior, ↓e_ixor, ↓n_ishl, ↓n_ishr, ↓e_iushr, ↓n_idiv, ↓e_ineg, ↓e_ladd, ↓e_lsub, ↓e_lmul, ↓e_lor, ↓e_lshl, ↓e_lshr, ↓e_i2l, ↓e_l2i, ↓e_i2b, ↓e_lcmp, ↓e_dup, ↓e_dup2, ↓e_pop, ↓e_ceq, ↓e_cne, ↓e_clt, ↓e_cge, ↓e_cgt, ↓e_cle, ↓n_zeq, ↓n_zne, ↓n_zlt, ↓n_zge, ↓n_zgt, ↓n_zle, ↓e_goto, ↓e_nn, ↓e_retI, ↓e_retL, ↓e_retV, ↓n_retZ, ↓e_retA, ↓e_gfI, ↓e_gfL, ↓e_gfR, ↓e_pfI, ↓n_pfZ, ↓e_pfL, ↓e_pfR, ↓e_iald, ↓e_lald, ↓e_aald, ↓e_alen, ↓e_iast, ↓e_bast, ↓n_zast, ↓e_last, ↓e_aast, ↓e_cV, ↓e_cS, ↓e_gsW, ↓e_gsK, ↓e_mmax, ↓e_mmin, ↓e_mmaxL, ↓e_mminL, gEnt, gPad, gArgs, gGet, gS1, gS2, gCl, gNo, gSp, gCt, n_sw, n_gSw, n_gSw0, Option.toList, List.cons_append, List.nil_append, Value.category, and_true, true_and, and_self, not_false_eq_true, not_true_eq_false, Nat.reduceAdd, Nat.reduceSub, Nat.reduceMul, Nat.reduceLeDiff, Nat.reduceLT, Nat.reduceEqDiff, forall_const, true_implies, false_implies, implies_true, Nat.zero_add, Option.some.injEq, Sum.inr.injEq, Sum.inl.injEq, Prod.mk.injEq, exists_eq_left', exists_eq_left, w_ne0, nI_add, w_lt, w_le, w_eq, w_meq, w_eqm, w_mlt, w_ltm, w_mle, w_lem, w_clamp, w_in, w_31, w_ite0, w_ite1, w_ite01, true_or, or_true, false_or, or_false, Nat.le_refl, Nat.lt_irrefl, S_110 hS, S_119 hS, S_128 hS, S_130 hS, S_131 hS, S_159 hS, S_160 hS, S_161 hS, S_162 hS, S_163 hS, S_164 hS, S_165 hS, S_166 hS, S_167 hS, R_110_21 hR, R_110_30 hR, R_110_32 hR, R_110_33 hR, R_110_77 hR, R_110_78 hR, R_110_79 hR, R_110_81 hR, R_110_82 hR, R_110_83 hR, R_110_84 hR, R_110_85 hR, R_110_86 hR]
    refine gLoop (I := fun b μ' lc => μ' = (gW (gW μ.1 (β + 162) (fun i => if i < b then μ.1 (β + 164) i else μ.1 (β + 162) i)) (β + 163) (fun i => if i < b then μ.1 (β + 165) i else μ.1 (β + 163) i), μ.2) ∧ lc = [some (.ref (β + 110)), some (.int (nI w)), some (.int (nI cnt)), some (.int (nI HH)), some (.int (nI SS)), some (.int (nI 1)), some (.int (nI HH)), some (.int (nI SS)), some (.int (nI b))]) n ?_ ?_ 0 (by omega) _ _ ⟨?_, rfl⟩
    · rintro b _ _ hb ⟨rfl, rfl⟩ hK
      have hbn : ¬ n ≤ b := by omega
      have hb6 : b < 6 := by omega
      refine b_X11_lay_371 hX ?_
      simp (disch := omega) only [B_X11_lay_371, ↓n_gb, ↓n_gb0, ↓n_ic, ↓n_icm, ↓n_lc, ↓e_lc, ↓e_null, ↓e_ldI, ↓e_ldL, ↓e_ldA, ↓e_stI, ↓e_stL, ↓e_stA, ↓n_inc, ↓n_incm1, ↓n_incm8, ↓e_iadd, ↓e_isub, ↓e_imul, ↓e_iand, ↓e_ior, ↓e_ixor, ↓n_ishl, ↓n_ishr, ↓e_iushr, ↓n_idiv, ↓e_ineg, ↓e_ladd, ↓e_lsub, ↓e_lmul, ↓e_lor, ↓e_lshl, ↓e_lshr, ↓e_i2l, ↓e_l2i, ↓e_i2b, ↓e_lcmp, ↓e_dup, ↓e_dup2, ↓e_pop, ↓e_ceq, ↓e_cne, ↓e_clt, ↓e_cge, ↓e_cgt, ↓e_cle, ↓n_zeq, ↓n_zne, ↓n_zlt, ↓n_zge, ↓n_zgt, ↓n_zle, ↓e_goto, ↓e_nn, ↓e_retI, ↓e_retL, ↓e_retV, ↓n_retZ, ↓e_retA, ↓e_gfI, ↓e_gfL, ↓e_gfR, ↓e_pfI, ↓n_pfZ, ↓e_pfL, ↓e_pfR, ↓e_iald, ↓e_lald, ↓e_aald, ↓e_alen, ↓e_iast, ↓e_bast, ↓n_zast, ↓e_last, ↓e_aast, ↓e_cV, ↓e_cS, ↓e_gsW, ↓e_gsK, ↓e_mmax, ↓e_mmin, ↓e_mmaxL, ↓e_mminL, gEnt, gPad, gArgs, gGet, gS1, gS2, gCl, gNo, gSp, gCt, n_sw, n_gSw, n_gSw0, Option.toList, List.cons_append, List.nil_append, Value.category, and_true, true_and, and_self, not_false_eq_true, not_true_eq_false, Nat.reduceAdd, Nat.reduceSub, Nat.reduceMul, Nat.reduceLeDiff, Nat.reduceLT, Nat.reduceEqDiff, forall_const, true_implies, false_implies, implies_true, Nat.zero_add, Option.some.injEq, Sum.inr.injEq, Sum.inl.injEq, Prod.mk.injEq, exists_eq_left', exists_eq_left, w_ne0, nI_add, w_lt, w_le, w_eq, w_meq, w_eqm, w_mlt, w_ltm, w_mle, w_lem, w_clamp, w_in, w_31, w_ite0, w_ite1, w_ite01, true_or, or_true, false_or, or_false, Nat.le_refl, Nat.lt_irrefl, S_110 hS, S_119 hS, S_128 hS, S_130 hS, S_131 hS, S_159 hS, S_160 hS, S_161 hS, S_162 hS, S_163 hS, S_164 hS, S_165 hS, S_166 hS, S_167 hS, R_110_21 hR, R_110_30 hR, R_110_32 hR, R_110_33 hR, R_110_77 hR, R_110_78 hR, R_110_79 hR, R_110_81 hR, R_110_82 hR, R_110_83 hR, R_110_84 hR, R_110_85 hR, R_110_86 hR, gW_n, gU_n, h18, h119, hlv, hbn, hb6]
      refine hK _ _ ⟨?_, rfl⟩
      refine congrArg (fun z => (z, μ.2)) ?_
      funext x i
      simp only [gU, gW]
      grind
    · rintro _ _ ⟨rfl, rfl⟩
      refine b_X11_lay_371 hX ?_
      simp (disch := omega) only [B_X11_lay_371, ↓n_gb, ↓n_gb0, ↓n_ic, ↓n_icm, ↓n_lc, ↓e_lc, ↓e_null, ↓e_ldI, ↓e_ldL, ↓e_ldA, ↓e_stI, ↓e_stL, ↓e_stA, ↓n_inc, ↓n_incm1, ↓n_incm8, ↓e_iadd, ↓e_isub, ↓e_imul, ↓e_iand, ↓e_ior, ↓e_ixor, ↓n_ishl, ↓n_ishr, ↓e_iushr, ↓n_idiv, ↓e_ineg, ↓e_ladd, ↓e_lsub, ↓e_lmul, ↓e_lor, ↓e_lshl, ↓e_lshr, ↓e_i2l, ↓e_l2i, ↓e_i2b, ↓e_lcmp, ↓e_dup, ↓e_dup2, ↓e_pop, ↓e_ceq, ↓e_cne, ↓e_clt, ↓e_cge, ↓e_cgt, ↓e_cle, ↓n_zeq, ↓n_zne, ↓n_zlt, ↓n_zge, ↓n_zgt, ↓n_zle, ↓e_goto, ↓e_nn, ↓e_retI, ↓e_retL, ↓e_retV, ↓n_retZ, ↓e_retA, ↓e_gfI, ↓e_gfL, ↓e_gfR, ↓e_pfI, ↓n_pfZ, ↓e_pfL, ↓e_pfR, ↓e_iald, ↓e_lald, ↓e_aald, ↓e_alen, ↓e_iast, ↓e_bast, ↓n_zast, ↓e_last, ↓e_aast, ↓e_cV, ↓e_cS, ↓e_gsW, ↓e_gsK, ↓e_mmax, ↓e_mmin, ↓e_mmaxL, ↓e_mminL, gEnt, gPad, gArgs, gGet, gS1, gS2, gCl, gNo, gSp, gCt, n_sw, n_gSw, n_gSw0, Option.toList, List.cons_append, List.nil_append, Value.category, and_true, true_and, and_self, not_false_eq_true, not_true_eq_false, Nat.reduceAdd, Nat.reduceSub, Nat.reduceMul, Nat.reduceLeDiff, Nat.reduceLT, Nat.reduceEqDiff, forall_const, true_implies, false_implies, implies_true, Nat.zero_add, Option.some.injEq, Sum.inr.injEq, Sum.inl.injEq, Prod.mk.injEq, exists_eq_left', exists_eq_left, w_ne0, nI_add, w_lt, w_le, w_eq, w_meq, w_eqm, w_mlt, w_ltm, w_mle, w_lem, w_clamp, w_in, w_31, w_ite0, w_ite1, w_ite01, true_or, or_true, false_or, or_false, Nat.le_refl, Nat.lt_irrefl, S_110 hS, S_119 hS, S_128 hS, S_130 hS, S_131 hS, S_159 hS, S_160 hS, S_161 hS, S_162 hS, S_163 hS, S_164 hS, S_165 hS, S_166 hS, S_167 hS, R_110_21 hR, R_110_30 hR, R_110_32 hR, R_110_33 hR, R_110_77 hR, R_110_78 hR, R_110_79 hR, R_110_81 hR, R_110_82 hR, R_110_83 hR, R_110_84 hR, R_110_85 hR, R_110_86 hR, gW_n, h18, h119, hlv]
      refine hE _ _ _ _ _ _ rfl (fun a i q1 q2 => ?_) ?_
      · dsimp only; rw [gW_n q2, gW_n q1]
      · have e : gBet B (HH, SS, rw, cl) = (HH, SS, rw, cl) := if_pos q
        rw [e]
        refine ⟨show HH < 2147483648 by omega, show SS < 2147483648 by omega, Or.inr ⟨show HH ≠ 2147483647 by omega, rfl, rfl, fun k hk => ?_⟩⟩
        dsimp only
        rw [gW_n (by omega), gW_s, gW_s, if_pos hk, if_pos hk]
        exact hrc k hk
    · refine congrArg (fun z => (z, μ.2)) ?_
      funext x i
      simp only [gW]
      grind
  have w419 : ¬ (HH < B.1 ∨ (HH = B.1 ∧ SS < B.2.1)) → X 419 μ [some (.ref (β + 110)), some (.int (nI w)), some (.int (nI cnt)), some (.int x3), some (.int x4), some (.int (nI 1)), some (.int (nI HH)), some (.int (nI SS)), some (.int (nI n))] [] := by
    intro q
    refine hE _ _ _ _ _ _ rfl (fun _ _ _ _ => rfl) ?_
    have e : gBet B (HH, SS, rw, cl) = B := if_neg q
    rw [e]
    exact ⟨B1, B2, B3⟩
  rcases B3 with ⟨b1, rfl⟩ | ⟨b1, rfl, rfl, b4⟩
  · refine b_X11_lay_337 hX ?_
    simp (disch := omega) only [B_X11_lay_337, ↓n_gb, ↓n_gb0, ↓n_ic, ↓n_icm, ↓n_lc, ↓e_lc, ↓e_null, ↓e_ldI, ↓e_ldL, ↓e_ldA, ↓e_stI, ↓e_stL, ↓e_stA, ↓n_inc, ↓n_incm1, ↓n_incm8, ↓e_iadd, ↓e_isub, ↓e_imul, ↓e_iand, ↓e_ior, ↓e_ixor, ↓n_ishl, ↓n_ishr, ↓e_iushr, ↓n_idiv, ↓e_ineg, ↓e_ladd, ↓e_lsub, ↓e_lmul, ↓e_lor, ↓e_lshl, ↓e_lshr, ↓e_i2l, ↓e_l2i, ↓e_i2b, ↓e_lcmp, ↓e_dup, ↓e_dup2, ↓e_pop, ↓e_ceq, ↓e_cne, ↓e_clt, ↓e_cge, ↓e_cgt, ↓e_cle, ↓n_zeq, ↓n_zne, ↓n_zlt, ↓n_zge, ↓n_zgt, ↓n_zle, ↓e_goto, ↓e_nn, ↓e_retI, ↓e_retL, ↓e_retV, ↓n_retZ, ↓e_retA, ↓e_gfI, ↓e_gfL, ↓e_gfR, ↓e_pfI, ↓n_pfZ, ↓e_pfL, ↓e_pfR, ↓e_iald, ↓e_lald, ↓e_aald, ↓e_alen, ↓e_iast, ↓e_bast, ↓n_zast, ↓e_last, ↓e_aast, ↓e_cV, ↓e_cS, ↓e_gsW, ↓e_gsK, ↓e_mmax, ↓e_mmin, ↓e_mmaxL, ↓e_mminL, gEnt, gPad, gArgs, gGet, gS1, gS2, gCl, gNo, gSp, gCt, n_sw, n_gSw, n_gSw0, Option.toList, List.cons_append, List.nil_append, Value.category, and_true, true_and, and_self, not_false_eq_true, not_true_eq_false, Nat.reduceAdd, Nat.reduceSub, Nat.reduceMul, Nat.reduceLeDiff, Nat.reduceLT, Nat.reduceEqDiff, forall_const, true_implies, false_implies, implies_true, Nat.zero_add, Option.some.injEq, Sum.inr.injEq, Sum.inl.injEq, Prod.mk.injEq, exists_eq_left', exists_eq_left, w_ne0, nI_add, w_lt, w_le, w_eq, w_meq, w_eqm, w_mlt, w_ltm, w_mle, w_lem, w_clamp, w_in, w_31, w_ite0, w_ite1, w_ite01, true_or, or_true, false_or, or_false, Nat.le_refl, Nat.lt_irrefl, S_110 hS, S_119 hS, S_128 hS, S_130 hS, S_131 hS, S_159 hS, S_160 hS, S_161 hS, S_162 hS, S_163 hS, S_164 hS, S_165 hS, S_166 hS, S_167 hS, R_110_21 hR, R_110_30 hR, R_110_32 hR, R_110_33 hR, R_110_77 hR, R_110_78 hR, R_110_79 hR, R_110_81 hR, R_110_82 hR, R_110_83 hR, R_110_84 hR, R_110_85 hR, R_110_86 hR]
    exact w361 (by omega)
  · refine b_X11_lay_337 hX ?_
    simp (disch := omega) only [B_X11_lay_337, ↓n_gb, ↓n_gb0, ↓n_ic, ↓n_icm, ↓n_lc, ↓e_lc, ↓e_null, ↓e_ldI, ↓e_ldL, ↓e_ldA, ↓e_stI, ↓e_stL, ↓e_stA, ↓n_inc, ↓n_incm1, ↓n_incm8, ↓e_iadd, ↓e_isub, ↓e_imul, ↓e_iand, ↓e_ior, ↓e_ixor, ↓n_ishl, ↓n_ishr, ↓e_iushr, ↓n_idiv, ↓e_ineg, ↓e_ladd, ↓e_lsub, ↓e_lmul, ↓e_lor, ↓e_lshl, ↓e_lshr, ↓e_i2l, ↓e_l2i, ↓e_i2b, ↓e_lcmp, ↓e_dup, ↓e_dup2, ↓e_pop, ↓e_ceq, ↓e_cne, ↓e_clt, ↓e_cge, ↓e_cgt, ↓e_cle, ↓n_zeq, ↓n_zne, ↓n_zlt, ↓n_zge, ↓n_zgt, ↓n_zle, ↓e_goto, ↓e_nn, ↓e_retI, ↓e_retL, ↓e_retV, ↓n_retZ, ↓e_retA, ↓e_gfI, ↓e_gfL, ↓e_gfR, ↓e_pfI, ↓n_pfZ, ↓e_pfL, ↓e_pfR, ↓e_iald, ↓e_lald, ↓e_aald, ↓e_alen, ↓e_iast, ↓e_bast, ↓n_zast, ↓e_last, ↓e_aast, ↓e_cV, ↓e_cS, ↓e_gsW, ↓e_gsK, ↓e_mmax, ↓e_mmin, ↓e_mmaxL, ↓e_mminL, gEnt, gPad, gArgs, gGet, gS1, gS2, gCl, gNo, gSp, gCt, n_sw, n_gSw, n_gSw0, Option.toList, List.cons_append, List.nil_append, Value.category, and_true, true_and, and_self, not_false_eq_true, not_true_eq_false, Nat.reduceAdd, Nat.reduceSub, Nat.reduceMul, Nat.reduceLeDiff, Nat.reduceLT, Nat.reduceEqDiff, forall_const, true_implies, false_implies, implies_true, Nat.zero_add, Option.some.injEq, Sum.inr.injEq, Sum.inl.injEq, Prod.mk.injEq, exists_eq_left', exists_eq_left, w_ne0, nI_add, w_lt, w_le, w_eq, w_meq, w_eqm, w_mlt, w_ltm, w_mle, w_lem, w_clamp, w_in, w_31, w_ite0, w_ite1, w_ite01, true_or, or_true, false_or, or_false, Nat.le_refl, Nat.lt_irrefl, S_110 hS, S_119 hS, S_128 hS, S_130 hS, S_131 hS, S_159 hS, S_160 hS, S_161 hS, S_162 hS, S_163 hS, S_164 hS, S_165 hS, S_166 hS, S_167 hS, R_110_21 hR, R_110_30 hR, R_110_32 hR, R_110_33 hR, R_110_77 hR, R_110_78 hR, R_110_79 hR, R_110_81 hR, R_110_82 hR, R_110_83 hR, R_110_84 hR, R_110_85 hR, R_110_86 hR]
    exact ⟨fun q => w361 (Or.inl q), fun q => ⟨fun q2 => w419 (by omega), fun q2 => ⟨fun q3 => w419 (by omega), fun q3 => w361 (by omega)⟩⟩⟩
/-- only what a laying writes has changed -/
def gFrM (β : Nat) (μ μ' : gM) : Prop := μ'.2 = μ.2 ∧ ∀ a i, (a < β + 162 ∨ β + 167 < a) → μ'.1 a i = μ.1 a i
set_option maxHeartbeats 4000000 in
theorem k_mLayAll {S : gSh} {h β lv n w cnt : Nat} {F : Nat → Prop} [DecidablePred F] {W D G R C : Nat → Nat} {μ0 : gM} {P : gP} {X : Nat → gK} (hX : gClo K_X11_lay S (gRun S (h + 2)) P X) (hS : gLS S β) (hR0 : gPS μ0.2.2 β) (hn : n ≤ 6) (hw8 : w ≤ 8) (hA0 : gLMd β lv n w W D G μ0) (hfx0 : gFXm β n F R C μ0) (hcw : ∀ k, k < n → F k → C k + D k ≤ w) (hcnt : cnt ≤ 6) : ∀ (ps : List (List Nat)), gChp cnt ps = true → (∀ p ∈ ps, p.Nodup ∧ (∀ j, j ∈ p ↔ j < n ∧ ¬ F j)) → ∀ (p : List Nat) (B : gBs) (μ : gM) (x3 x4 : Int32) (y6 y7 y8 : Option Value), ps.head? = some p → gFrM β μ0 μ → (∀ i, i < cnt → μ.1 (β + 166) i = nI (gOf p i)) → gBm β n B x3 x4 μ → (∀ μ' x3' x4', gFrM β μ0 μ' → gBm β n (gFo W D G w (gKF F D G R C n) (gHF F G R n) (gSF F W R n) (fun k => if F k then R k else 0) (fun k => if F k then C k else 0) ps B) x3' x4' μ' → P (some (.int x3')) (gU μ'.1 (β + 110) 80 (nI 1), μ'.2)) → X 118 μ [some (.ref (β + 110)), some (.int (nI w)), some (.int (nI cnt)), some (.int x3), some (.int x4), some (.int (nI 1)), y6, y7, y8] [] := by
  intro ps
  induction ps with
  | nil => intro hc; cases hc
  | cons p0 ps ih =>
    intro hch hok p B μ x3 x4 y6 y7 y8 hhd hFr hrow hB hP
    obtain rfl : p0 = p := by simpa using hhd
    obtain ⟨hnd, hmem⟩ := hok p0 List.mem_cons_self
    have hlen : p0.length = cnt := by
      cases ps with
      | nil => simp only [gChp, Bool.and_eq_true, beq_iff_eq] at hch; exact hch.1
      | cons q r => simp only [gChp, Bool.and_eq_true, beq_iff_eq] at hch; exact hch.1.1
    have hR : gPS μ.2.2 β := by rw [hFr.1]; exact hR0
    have hA : gLMd β lv n w W D G μ := gLMd_c (fun a i q => hFr.2 a i (Or.inl q)) hA0
    have hfx : gFXm β n F R C μ := by
      intro k hk
      rw [hFr.2 _ _ (by omega), hFr.2 _ _ (by omega), hFr.2 _ _ (by omega)]
      exact hfx0 k hk
    refine k_mLayOrder hX hS hR hn hw8 hA hfx hcw hlen hnd hmem hcnt hrow (fun μ1 rw cl f1 f2 f3 f4 => ?_)
    have hR1 : gPS μ1.2.2 β := by rw [f1.1]; exact hR
    have hA1 : gLMd β lv n w W D G μ1 := gLMd_c (fun a i q => f1.2 a i (by omega)) hA
    have hB1 : gBm β n B x3 x4 μ1 := by
      obtain ⟨b1, b2, b3⟩ := hB
      refine ⟨b1, b2, ?_⟩
      rcases b3 with b3 | ⟨b3, b4, b5, b6⟩
      · exact Or.inl b3
      · refine Or.inr ⟨b3, b4, b5, fun k hk => ?_⟩
        rw [f1.2 _ _ (by omega), f1.2 _ _ (by omega)]
        exact b6 k hk
    refine k_mLayRest hX hS hR1 hn hA1 f2 f4 hB1 (fun μ2 z3 z4 u6 u7 u8 g1 g2 g3 => ?_)
    rw [← f3] at g3
    have hR2 : gPS μ2.2.2 β := by rw [g1]; exact hR1
    have fr2 : gFrM β μ0 μ2 := by
      refine ⟨g1.trans (f1.1.trans hFr.1), fun a i q => ?_⟩
      rw [g2 _ _ (by omega) (by omega), f1.2 _ _ (by omega)]
      exact hFr.2 a i q
    have row2 : ∀ i, i < cnt → μ2.1 (β + 166) i = nI (gOf p0 i) ∧ gOf p0 i < 6 := by
      intro i hi
      refine ⟨by rw [g2 _ _ (by omega) (by omega), f1.2 _ _ (by omega)]; exact hrow i hi, ?_⟩
      have hmi : gOf p0 i ∈ p0 := by
        simp only [gOf, List.getD_eq_getElem?_getD, List.getElem?_eq_getElem (show i < p0.length by omega), Option.getD_some]
        exact List.getElem_mem _
      have := ((hmem _).mp hmi).1
      omega
    have hR := hR2
    refine b_X11_lay_419 hX ?_
    simp (disch := omega) only [B_X11_lay_419, ↓n_gb, ↓n_gb0, ↓n_ic, ↓n_icm, ↓n_lc, ↓e_lc, ↓e_null, ↓e_ldI, ↓e_ldL, ↓e_ldA, ↓e_stI, ↓e_stL, ↓e_stA, ↓n_inc, ↓n_incm1, ↓n_incm8, ↓e_iadd, ↓e_isub, ↓e_imul, ↓e_iand, ↓e_ior, ↓e_ixor, ↓n_ishl, ↓n_ishr, ↓e_iushr, ↓n_idiv, ↓e_ineg, ↓e_ladd, ↓e_lsub, ↓e_lmul, ↓e_lor, ↓e_lshl, ↓e_lshr, ↓e_i2l, ↓e_l2i, ↓e_i2b, ↓e_lcmp, ↓e_dup, ↓e_dup2, ↓e_pop, ↓e_ceq, ↓e_cne, ↓e_clt, ↓e_cge, ↓e_cgt, ↓e_cle, ↓n_zeq, ↓n_zne, ↓n_zlt, ↓n_zge, ↓n_zgt, ↓n_zle, ↓e_goto, ↓e_nn, ↓e_retI, ↓e_retL, ↓e_retV, ↓n_retZ, ↓e_retA, ↓e_gfI, ↓e_gfL, ↓e_gfR, ↓e_pfI, ↓n_pfZ, ↓e_pfL, ↓e_pfR, ↓e_iald, ↓e_lald, ↓e_aald, ↓e_alen, ↓e_iast, ↓e_bast, ↓n_zast, ↓e_last, ↓e_aast, ↓e_cV, ↓e_cS, ↓e_gsW, ↓e_gsK, ↓e_mmax, ↓e_mmin, ↓e_mmaxL, ↓e_mminL, gEnt, gPad, gArgs, gGet, gS1, gS2, gCl, gNo, gSp, gCt, n_sw, n_gSw, n_gSw0, Option.toList, List.cons_append, List.nil_append, Value.category, and_true, true_and, and_self, not_false_eq_true, not_true_eq_false, Nat.reduceAdd, Nat.reduceSub, Nat.reduceMul, Nat.reduceLeDiff, Nat.reduceLT, Nat.reduceEqDiff, forall_const, true_implies, false_implies, implies_true, Nat.zero_add, Option.some.injEq, Sum.inr.injEq, Sum.inl.injEq, Prod.mk.injEq, exists_eq_left', exists_eq_left, w_ne0, nI_add, w_lt, w_le, w_eq, w_meq, w_eqm, w_mlt, w_ltm, w_mle, w_lem, w_clamp, w_in, w_31, w_ite0, w_ite1, w_ite01, true_or, or_true, false_or, or_false, Nat.le_refl, Nat.lt_irrefl, S_110 hS, S_119 hS, S_128 hS, S_130 hS, S_131 hS, S_159 hS, S_160 hS, S_161 hS, S_162 hS, S_163 hS, S_164 hS, S_165 hS, S_166 hS, S_167 hS, R_110_21 hR, R_110_30 hR, R_110_32 hR, R_110_33 hR, R_110_77 hR, R_110_78 hR, R_110_79 hR, R_110_81 hR, R_110_82 hR, R_110_83 hR, R_110_84 hR, R_110_85 hR, R_110_86 hR]
    refine k_mNext (row := gOf p0) hS hR hcnt row2 (fun hnx => ?_) (fun row' hnx g hg => ?_)
    · simp (disch := omega) only [↓n_gb, ↓n_gb0, ↓n_ic, ↓n_icm, ↓n_lc, ↓e_lc, ↓e_null, ↓e_ldI, ↓e_ldL, ↓e_ldA, ↓e_stI, ↓e_stL, ↓e_stA, ↓n_inc, ↓n_incm1, ↓n_incm8, ↓e_iadd, ↓e_isub, ↓e_imul, ↓e_iand, ↓e_ior, ↓e_ixor, ↓n_ishl, ↓n_ishr, ↓e_iushr, ↓n_idiv, ↓e_ineg, ↓e_ladd, ↓e_lsub, ↓e_lmul, ↓e_lor, ↓e_lshl, ↓e_lshr, ↓e_i2l, ↓e_l2i, ↓e_i2b, ↓e_lcmp, ↓e_dup, ↓e_dup2, ↓e_pop, ↓e_ceq, ↓e_cne, ↓e_clt, ↓e_cge, ↓e_cgt, ↓e_cle, ↓n_zeq, ↓n_zne, ↓n_zlt, ↓n_zge, ↓n_zgt, ↓n_zle, ↓e_goto, ↓e_nn, ↓e_retI, ↓e_retL, ↓e_retV, ↓n_retZ, ↓e_retA, ↓e_gfI, ↓e_gfL, ↓e_gfR, ↓e_pfI, ↓n_pfZ, ↓e_pfL, ↓e_pfR, ↓e_iald, ↓e_lald, ↓e_aald, ↓e_alen, ↓e_iast, ↓e_bast, ↓n_zast, ↓e_last, ↓e_aast, ↓e_cV, ↓e_cS, ↓e_gsW, ↓e_gsK, ↓e_mmax, ↓e_mmin, ↓e_mmaxL, ↓e_mminL, gEnt, gPad, gArgs, gGet, gS1, gS2, gCl, gNo, gSp, gCt, n_sw, n_gSw, n_gSw0, Option.toList, List.cons_append, List.nil_append, Value.category, and_true, true_and, and_self, not_false_eq_true, not_true_eq_false, Nat.reduceAdd, Nat.reduceSub, Nat.reduceMul, Nat.reduceLeDiff, Nat.reduceLT, Nat.reduceEqDiff, forall_const, true_implies, false_implies, implies_true, Nat.zero_add, Option.some.injEq, Sum.inr.injEq, Sum.inl.injEq, Prod.mk.injEq, exists_eq_left', exists_eq_left, w_ne0, nI_add, w_lt, w_le, w_eq, w_meq, w_eqm, w_mlt, w_ltm, w_mle, w_lem, w_clamp, w_in, w_31, w_ite0, w_ite1, w_ite01, true_or, or_true, false_or, or_false, Nat.le_refl, Nat.lt_irrefl, S_110 hS, S_119 hS, S_128 hS, S_130 hS, S_131 hS, S_159 hS, S_160 hS, S_161 hS, S_162 hS, S_163 hS, S_164 hS, S_165 hS, S_166 hS, S_167 hS, R_110_21 hR, R_110_30 hR, R_110_32 hR, R_110_33 hR, R_110_77 hR, R_110_78 hR, R_110_79 hR, R_110_81 hR, R_110_82 hR, R_110_83 hR, R_110_84 hR, R_110_85 hR, R_110_86 hR]
      cases ps with
      | cons q r =>
        simp only [gChp, hnx, Bool.and_false, Bool.false_and] at hch
        cases hch
      | nil =>
        refine b_X11_lay_118 hX ?_
        simp (disch := omega) only [B_X11_lay_118, ↓n_gb, ↓n_gb0, ↓n_ic, ↓n_icm, ↓n_lc, ↓e_lc, ↓e_null, ↓e_ldI, ↓e_ldL, ↓e_ldA, ↓e_stI, ↓e_stL, ↓e_stA, ↓n_inc, ↓n_incm1, ↓n_incm8, ↓e_iadd, ↓e_isub, ↓e_imul, ↓e_iand, ↓e_ior, ↓e_ixor, ↓n_ishl, ↓n_ishr, ↓e_iushr, ↓n_idiv, ↓e_ineg, ↓e_ladd, ↓e_lsub, ↓e_lmul, ↓e_lor, ↓e_lshl, ↓e_lshr, ↓e_i2l, ↓e_l2i, ↓e_i2b, ↓e_lcmp, ↓e_dup, ↓e_dup2, ↓e_pop, ↓e_ceq, ↓e_cne, ↓e_clt, ↓e_cge, ↓e_cgt, ↓e_cle, ↓n_zeq, ↓n_zne, ↓n_zlt, ↓n_zge, ↓n_zgt, ↓n_zle, ↓e_goto, ↓e_nn, ↓e_retI, ↓e_retL, ↓e_retV, ↓n_retZ, ↓e_retA, ↓e_gfI, ↓e_gfL, ↓e_gfR, ↓e_pfI, ↓n_pfZ, ↓e_pfL, ↓e_pfR, ↓e_iald, ↓e_lald, ↓e_aald, ↓e_alen, ↓e_iast, ↓e_bast, ↓n_zast, ↓e_last, ↓e_aast, ↓e_cV, ↓e_cS, ↓e_gsW, ↓e_gsK, ↓e_mmax, ↓e_mmin, ↓e_mmaxL, ↓e_mminL, gEnt, gPad, gArgs, gGet, gS1, gS2, gCl, gNo, gSp, gCt, n_sw, n_gSw, n_gSw0, Option.toList, List.cons_append, List.nil_append, Value.category, and_true, true_and, and_self, not_false_eq_true, not_true_eq_false, Nat.reduceAdd, Nat.reduceSub, Nat.reduceMul, Nat.reduceLeDiff, Nat.reduceLT, Nat.reduceEqDiff, forall_const, true_implies, false_implies, implies_true, Nat.zero_add, Option.some.injEq, Sum.inr.injEq, Sum.inl.injEq, Prod.mk.injEq, exists_eq_left', exists_eq_left, w_ne0, nI_add, w_lt, w_le, w_eq, w_meq, w_eqm, w_mlt, w_ltm, w_mle, w_lem, w_clamp, w_in, w_31, w_ite0, w_ite1, w_ite01, true_or, or_true, false_or, or_false, Nat.le_refl, Nat.lt_irrefl, S_110 hS, S_119 hS, S_128 hS, S_130 hS, S_131 hS, S_159 hS, S_160 hS, S_161 hS, S_162 hS, S_163 hS, S_164 hS, S_165 hS, S_166 hS, S_167 hS, R_110_21 hR, R_110_30 hR, R_110_32 hR, R_110_33 hR, R_110_77 hR, R_110_78 hR, R_110_79 hR, R_110_81 hR, R_110_82 hR, R_110_83 hR, R_110_84 hR, R_110_85 hR, R_110_86 hR]
        refine b_X11_lay_429 hX ?_
        simp (disch := omega) only [B_X11_lay_429, ↓n_gb, ↓n_gb0, ↓n_ic, ↓n_icm, ↓n_lc, ↓e_lc, ↓e_null, ↓e_ldI, ↓e_ldL, ↓e_ldA, ↓e_stI, ↓e_stL, ↓e_stA, ↓n_inc, ↓n_incm1, ↓n_incm8, ↓e_iadd, ↓e_isub, ↓e_imul, ↓e_iand, ↓e_ior, ↓e_ixor, ↓n_ishl, ↓n_ishr, ↓e_iushr, ↓n_idiv, ↓e_ineg, ↓e_ladd, ↓e_lsub, ↓e_lmul, ↓e_lor, ↓e_lshl, ↓e_lshr, ↓e_i2l, ↓e_l2i, ↓e_i2b, ↓e_lcmp, ↓e_dup, ↓e_dup2, ↓e_pop, ↓e_ceq, ↓e_cne, ↓e_clt, ↓e_cge, ↓e_cgt, ↓e_cle, ↓n_zeq, ↓n_zne, ↓n_zlt, ↓n_zge, ↓n_zgt, ↓n_zle, ↓e_goto, ↓e_nn, ↓e_retI, ↓e_retL, ↓e_retV, ↓n_retZ, ↓e_retA, ↓e_gfI, ↓e_gfL, ↓e_gfR, ↓e_pfI, ↓n_pfZ, ↓e_pfL, ↓e_pfR, ↓e_iald, ↓e_lald, ↓e_aald, ↓e_alen, ↓e_iast, ↓e_bast, ↓n_zast, ↓e_last, ↓e_aast, ↓e_cV, ↓e_cS, ↓e_gsW, ↓e_gsK, ↓e_mmax, ↓e_mmin, ↓e_mmaxL, ↓e_mminL, gEnt, gPad, gArgs, gGet, gS1, gS2, gCl, gNo, gSp, gCt, n_sw, n_gSw, n_gSw0, Option.toList, List.cons_append, List.nil_append, Value.category, and_true, true_and, and_self, not_false_eq_true, not_true_eq_false, Nat.reduceAdd, Nat.reduceSub, Nat.reduceMul, Nat.reduceLeDiff, Nat.reduceLT, Nat.reduceEqDiff, forall_const, true_implies, false_implies, implies_true, Nat.zero_add, Option.some.injEq, Sum.inr.injEq, Sum.inl.injEq, Prod.mk.injEq, exists_eq_left', exists_eq_left, w_ne0, nI_add, w_lt, w_le, w_eq, w_meq, w_eqm, w_mlt, w_ltm, w_mle, w_lem, w_clamp, w_in, w_31, w_ite0, w_ite1, w_ite01, true_or, or_true, false_or, or_false, Nat.le_refl, Nat.lt_irrefl, S_110 hS, S_119 hS, S_128 hS, S_130 hS, S_131 hS, S_159 hS, S_160 hS, S_161 hS, S_162 hS, S_163 hS, S_164 hS, S_165 hS, S_166 hS, S_167 hS, R_110_21 hR, R_110_30 hR, R_110_32 hR, R_110_33 hR, R_110_77 hR, R_110_78 hR, R_110_79 hR, R_110_81 hR, R_110_82 hR, R_110_83 hR, R_110_84 hR, R_110_85 hR, R_110_86 hR]
        exact hP μ2 z3 z4 fr2 g3
    · simp (disch := omega) only [↓n_gb, ↓n_gb0, ↓n_ic, ↓n_icm, ↓n_lc, ↓e_lc, ↓e_null, ↓e_ldI, ↓e_ldL, ↓e_ldA, ↓e_stI, ↓e_stL, ↓e_stA, ↓n_inc, ↓n_incm1, ↓n_incm8, ↓e_iadd, ↓e_isub, ↓e_imul, ↓e_iand, ↓e_ior, ↓e_ixor, ↓n_ishl, ↓n_ishr, ↓e_iushr, ↓n_idiv, ↓e_ineg, ↓e_ladd, ↓e_lsub, ↓e_lmul, ↓e_lor, ↓e_lshl, ↓e_lshr, ↓e_i2l, ↓e_l2i, ↓e_i2b, ↓e_lcmp, ↓e_dup, ↓e_dup2, ↓e_pop, ↓e_ceq, ↓e_cne, ↓e_clt, ↓e_cge, ↓e_cgt, ↓e_cle, ↓n_zeq, ↓n_zne, ↓n_zlt, ↓n_zge, ↓n_zgt, ↓n_zle, ↓e_goto, ↓e_nn, ↓e_retI, ↓e_retL, ↓e_retV, ↓n_retZ, ↓e_retA, ↓e_gfI, ↓e_gfL, ↓e_gfR, ↓e_pfI, ↓n_pfZ, ↓e_pfL, ↓e_pfR, ↓e_iald, ↓e_lald, ↓e_aald, ↓e_alen, ↓e_iast, ↓e_bast, ↓n_zast, ↓e_last, ↓e_aast, ↓e_cV, ↓e_cS, ↓e_gsW, ↓e_gsK, ↓e_mmax, ↓e_mmin, ↓e_mmaxL, ↓e_mminL, gEnt, gPad, gArgs, gGet, gS1, gS2, gCl, gNo, gSp, gCt, n_sw, n_gSw, n_gSw0, Option.toList, List.cons_append, List.nil_append, Value.category, and_true, true_and, and_self, not_false_eq_true, not_true_eq_false, Nat.reduceAdd, Nat.reduceSub, Nat.reduceMul, Nat.reduceLeDiff, Nat.reduceLT, Nat.reduceEqDiff, forall_const, true_implies, false_implies, implies_true, Nat.zero_add, Option.some.injEq, Sum.inr.injEq, Sum.inl.injEq, Prod.mk.injEq, exists_eq_left', exists_eq_left, w_ne0, nI_add, w_lt, w_le, w_eq, w_meq, w_eqm, w_mlt, w_ltm, w_mle, w_lem, w_clamp, w_in, w_31, w_ite0, w_ite1, w_ite01, true_or, or_true, false_or, or_false, Nat.le_refl, Nat.lt_irrefl, S_110 hS, S_119 hS, S_128 hS, S_130 hS, S_131 hS, S_159 hS, S_160 hS, S_161 hS, S_162 hS, S_163 hS, S_164 hS, S_165 hS, S_166 hS, S_167 hS, R_110_21 hR, R_110_30 hR, R_110_32 hR, R_110_33 hR, R_110_77 hR, R_110_78 hR, R_110_79 hR, R_110_81 hR, R_110_82 hR, R_110_83 hR, R_110_84 hR, R_110_85 hR, R_110_86 hR]
      cases ps with
      | nil =>
        simp only [gChp, hnx, Bool.and_eq_true, Option.isNone_some, Bool.false_eq_true, and_false] at hch
      | cons q r =>
        simp only [gChp, hnx, Bool.and_eq_true, beq_iff_eq] at hch
        refine ih hch.2 (fun p hp => hok p (List.mem_cons_of_mem _ hp)) q (gBet B _) _ z3 z4 u6 u7 u8 rfl ?_ (fun i hi => ?_) ?_ (fun μ' x3' x4' h1 h2 => hP μ' x3' x4' h1 h2)
        · refine ⟨fr2.1, fun a i q => ?_⟩
          dsimp only
          rw [gW_n (by omega)]
          exact fr2.2 a i q
        · dsimp only
          rw [gW_s, (hg i hi).1]
          have e : gOf q i = row' i := by
            rw [← hch.1.2]
            simp only [gOf, List.getD_eq_getElem?_getD, List.getElem?_map, List.getElem?_range hi, Option.map_some, Option.getD_some]
          rw [e]
        · obtain ⟨b1, b2, b3⟩ := g3
          refine ⟨b1, b2, ?_⟩
          rcases b3 with b3 | ⟨b3, b4, b5, b6⟩
          · exact Or.inl b3
          · refine Or.inr ⟨b3, b4, b5, fun k hk => ?_⟩
            dsimp only
            rw [gW_n (by omega), gW_n (by omega)]
            exact b6 k hk
