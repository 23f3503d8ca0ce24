/-! OPS: ask, follow -/
set_option maxHeartbeats 4000000 in
theorem ask_pair {S : gSh} {β b h1 h2 x : Nat} {xs : Nat → Int32} {μ : gM} {P : gP} (hS : gLS S β) (hβ : b < β) (hI : gInv β b xs μ) (hx : x < 64)
    (hP : ∀ (r : Int32) (μ1 : gM), (∀ j, μ1.1 b j = xs j) → (∀ a i, 110 ≤ a → μ1.1 (β + a) i = μ.1 (β + a) i) → gPS μ1.2.2 β → (∀ P2 : gP, (∀ μ2, gInv β b xs μ2 → P2 (some (.int r)) μ2) → gRun S (h2 + 3) 155 [.ref (β + 110), .int (nI x)] μ1 P2) → P (some (.int r)) μ1) : gRun S (h1 + 6) 91 [.ref β, .int (nI x)] μ P := by
  have hI' := hI
  obtain ⟨hs, hR, iky, itp, ipc, isr, ifa, ido, ias, t, n, lv, q, irf, ihd, ibx, ilk, ihs, ifx, iov, isc, ipl, ily⟩ := hI; have hn6 : n ≤ 6 := ihd.2.1; have hq : q = 56 ∨ q = 83 := irf.1
  obtain ⟨ht, hn, hlv, h10, h51, h9, h18, h119⟩ := id ihd; rw [Nat.add_zero] at h10 h9
  obtain ⟨a, s, ha, hs60, d12, m52, d13, m53, d14⟩ := id ias
  obtain ⟨cst, l, hl, d11, m42⟩ := id isr
  obtain ⟨D, hD, dd10, m47, dd⟩ := id ido
  obtain ⟨N, fs, ft, hN, n9, n43, nf, nf', nv⟩ := gI_fa_of ifa
  obtain ⟨L, C, op, ar, jj, s', e', bs, be, hSC, hMC, hLC, hML, hbx⟩ := gI_sc_of hlv isc
  obtain ⟨c, hc, ec⟩ := gCo_nat (f := μ.1 (β + 9)) (x := nI (gAn x a)) 6 (fun s hs => by
    obtain ⟨c, -, h2, h3, -⟩ := cst s hs
    exact ⟨c, h2, h3⟩)
  have ecm : gCo (μ.1 (β + 135)) (nI (gAn x a)) 6 = nI c := by
    rw [← ec]
    refine gCo_congr 6 (fun s hs => ?_)
    obtain ⟨c, -, -, h3, h4⟩ := cst s hs
    rw [h3, h4]
  have hx63 : x ≤ 63 := by omega
  have p7 : μ.2.2 β 7 = β + q := irf.2.1
  refine r_X10_ask (by simp [lg_sl, Value.category]) (fun X hX => ?_)
  refine b_X10_ask_0 hX ?_
  simp (disch := omega) only [B_X10_ask_0, ↓n_gb, ↓n_gb0, ↓n_ic, ↓n_icm, ↓n_lc, ↓e_lc, ↓e_null, ↓e_ldI, ↓e_ldL, ↓e_ldA, ↓e_stI, ↓e_stL, ↓e_stA, ↓n_inc, ↓n_incm1, ↓n_incm8, ↓e_iadd, ↓e_isub, ↓e_imul, ↓e_iand, ↓e_ior, ↓e_ixor, ↓n_ishl, ↓n_ishr, ↓e_iushr, ↓n_idiv, ↓e_ineg, ↓e_ladd, ↓e_lsub, ↓e_lmul, ↓e_lor, ↓e_lshl, ↓e_lshr, ↓e_i2l, ↓e_l2i, ↓e_i2b, ↓e_lcmp, ↓e_dup, ↓e_dup2, ↓e_pop, ↓e_ceq, ↓e_cne, ↓e_clt, ↓e_cge, ↓e_cgt, ↓e_cle, ↓n_zeq, ↓n_zne, ↓n_zlt, ↓n_zge, ↓n_zgt, ↓n_zle, ↓e_goto, ↓e_nn, ↓e_retI, ↓e_retL, ↓e_retV, ↓n_retZ, ↓e_retA, ↓e_gfI, ↓e_gfL, ↓e_gfR, ↓e_pfI, ↓n_pfZ, ↓e_pfL, ↓e_pfR, ↓e_iald, ↓e_lald, ↓e_aald, ↓e_alen, ↓e_iast, ↓e_bast, ↓n_zast, ↓e_last, ↓e_aast, ↓e_cV, ↓e_cS, ↓e_gsW, ↓e_gsK, ↓e_mmax, ↓e_mmin, ↓e_mmaxL, ↓e_mminL, gEnt, gPad, gArgs, gGet, gS1, gS2, gCl, gNo, gSp, gCt, n_sw, n_gSw, n_gSw0, Option.toList, List.cons_append, List.nil_append, Value.category, and_true, true_and, and_self, not_false_eq_true, not_true_eq_false, Nat.reduceAdd, Nat.reduceSub, Nat.reduceMul, Nat.reduceLeDiff, Nat.reduceLT, Nat.reduceEqDiff, forall_const, true_implies, false_implies, implies_true, Nat.zero_add, Option.some.injEq, Sum.inr.injEq, Sum.inl.injEq, Prod.mk.injEq, exists_eq_left', exists_eq_left, w_ne0, nI_add, w_lt, w_le, w_eq, w_meq, w_eqm, w_mlt, w_ltm, w_mle, w_lem, w_clamp, w_in, w_31, w_ite0, w_ite1, w_ite01, true_or, or_true, false_or, or_false, Nat.le_refl, Nat.lt_irrefl, S_0 hS, S_8 hS, R_0_2 hR, hx63, Nat.not_lt_zero]
  refine b_X10_ask_12 hX ?_
  simp (disch := omega) only [B_X10_ask_12, ↓n_gb, ↓n_gb0, ↓n_ic, ↓n_icm, ↓n_lc, ↓e_lc, ↓e_null, ↓e_ldI, ↓e_ldL, ↓e_ldA, ↓e_stI, ↓e_stL, ↓e_stA, ↓n_inc, ↓n_incm1, ↓n_incm8, ↓e_iadd, ↓e_isub, ↓e_imul, ↓e_iand, ↓e_ior, ↓e_ixor, ↓n_ishl, ↓n_ishr, ↓e_iushr, ↓n_idiv, ↓e_ineg, ↓e_ladd, ↓e_lsub, ↓e_lmul, ↓e_lor, ↓e_lshl, ↓e_lshr, ↓e_i2l, ↓e_l2i, ↓e_i2b, ↓e_lcmp, ↓e_dup, ↓e_dup2, ↓e_pop, ↓e_ceq, ↓e_cne, ↓e_clt, ↓e_cge, ↓e_cgt, ↓e_cle, ↓n_zeq, ↓n_zne, ↓n_zlt, ↓n_zge, ↓n_zgt, ↓n_zle, ↓e_goto, ↓e_nn, ↓e_retI, ↓e_retL, ↓e_retV, ↓n_retZ, ↓e_retA, ↓e_gfI, ↓e_gfL, ↓e_gfR, ↓e_pfI, ↓n_pfZ, ↓e_pfL, ↓e_pfR, ↓e_iald, ↓e_lald, ↓e_aald, ↓e_alen, ↓e_iast, ↓e_bast, ↓n_zast, ↓e_last, ↓e_aast, ↓e_cV, ↓e_cS, ↓e_gsW, ↓e_gsK, ↓e_mmax, ↓e_mmin, ↓e_mmaxL, ↓e_mminL, gEnt, gPad, gArgs, gGet, gS1, gS2, gCl, gNo, gSp, gCt, n_sw, n_gSw, n_gSw0, Option.toList, List.cons_append, List.nil_append, Value.category, and_true, true_and, and_self, not_false_eq_true, not_true_eq_false, Nat.reduceAdd, Nat.reduceSub, Nat.reduceMul, Nat.reduceLeDiff, Nat.reduceLT, Nat.reduceEqDiff, forall_const, true_implies, false_implies, implies_true, Nat.zero_add, Option.some.injEq, Sum.inr.injEq, Sum.inl.injEq, Prod.mk.injEq, exists_eq_left', exists_eq_left, w_ne0, nI_add, w_lt, w_le, w_eq, w_meq, w_eqm, w_mlt, w_ltm, w_mle, w_lem, w_clamp, w_in, w_31, w_ite0, w_ite1, w_ite01, true_or, or_true, false_or, or_false, Nat.le_refl, Nat.lt_irrefl, S_0 hS, S_8 hS, R_0_2 hR]
  refine k_pay hS hR d12 d13 d11 ec hs60 hl (by omega) (fun hno => ?_) (fun hyes => ?_)
  · simp (disch := omega) only [↓n_gb, ↓n_gb0, ↓n_ic, ↓n_icm, ↓n_lc, ↓e_lc, ↓e_null, ↓e_ldI, ↓e_ldL, ↓e_ldA, ↓e_stI, ↓e_stL, ↓e_stA, ↓n_inc, ↓n_incm1, ↓n_incm8, ↓e_iadd, ↓e_isub, ↓e_imul, ↓e_iand, ↓e_ior, ↓e_ixor, ↓n_ishl, ↓n_ishr, ↓e_iushr, ↓n_idiv, ↓e_ineg, ↓e_ladd, ↓e_lsub, ↓e_lmul, ↓e_lor, ↓e_lshl, ↓e_lshr, ↓e_i2l, ↓e_l2i, ↓e_i2b, ↓e_lcmp, ↓e_dup, ↓e_dup2, ↓e_pop, ↓e_ceq, ↓e_cne, ↓e_clt, ↓e_cge, ↓e_cgt, ↓e_cle, ↓n_zeq, ↓n_zne, ↓n_zlt, ↓n_zge, ↓n_zgt, ↓n_zle, ↓e_goto, ↓e_nn, ↓e_retI, ↓e_retL, ↓e_retV, ↓n_retZ, ↓e_retA, ↓e_gfI, ↓e_gfL, ↓e_gfR, ↓e_pfI, ↓n_pfZ, ↓e_pfL, ↓e_pfR, ↓e_iald, ↓e_lald, ↓e_aald, ↓e_alen, ↓e_iast, ↓e_bast, ↓n_zast, ↓e_last, ↓e_aast, ↓e_cV, ↓e_cS, ↓e_gsW, ↓e_gsK, ↓e_mmax, ↓e_mmin, ↓e_mmaxL, ↓e_mminL, gEnt, gPad, gArgs, gGet, gS1, gS2, gCl, gNo, gSp, gCt, n_sw, n_gSw, n_gSw0, Option.toList, List.cons_append, List.nil_append, Value.category, and_true, true_and, and_self, not_false_eq_true, not_true_eq_false, Nat.reduceAdd, Nat.reduceSub, Nat.reduceMul, Nat.reduceLeDiff, Nat.reduceLT, Nat.reduceEqDiff, forall_const, true_implies, false_implies, implies_true, Nat.zero_add, Option.some.injEq, Sum.inr.injEq, Sum.inl.injEq, Prod.mk.injEq, exists_eq_left', exists_eq_left, w_ne0, nI_add, w_lt, w_le, w_eq, w_meq, w_eqm, w_mlt, w_ltm, w_mle, w_lem, w_clamp, w_in, w_31, w_ite0, w_ite1, w_ite01, true_or, or_true, false_or, or_false, Nat.le_refl, Nat.lt_irrefl, S_0 hS, S_8 hS, R_0_2 hR, n_icm2]
    refine hP _ _ hs (fun a i _ => rfl) hR (fun P2 hP2 => ?_)
    have g1 : ¬ c ≤ 0 := by omega
    have g2 : ¬ s + c ≤ l := by omega
    refine r_X11_ask (by simp [lg_sl, Value.category]) (fun X hX => ?_)
    refine b_X11_ask_0 hX ?_
    simp (disch := omega) only [B_X11_ask_0, ↓n_gb, ↓n_gb0, ↓n_ic, ↓n_icm, ↓n_lc, ↓e_lc, ↓e_null, ↓e_ldI, ↓e_ldL, ↓e_ldA, ↓e_stI, ↓e_stL, ↓e_stA, ↓n_inc, ↓n_incm1, ↓n_incm8, ↓e_iadd, ↓e_isub, ↓e_imul, ↓e_iand, ↓e_ior, ↓e_ixor, ↓n_ishl, ↓n_ishr, ↓e_iushr, ↓n_idiv, ↓e_ineg, ↓e_ladd, ↓e_lsub, ↓e_lmul, ↓e_lor, ↓e_lshl, ↓e_lshr, ↓e_i2l, ↓e_l2i, ↓e_i2b, ↓e_lcmp, ↓e_dup, ↓e_dup2, ↓e_pop, ↓e_ceq, ↓e_cne, ↓e_clt, ↓e_cge, ↓e_cgt, ↓e_cle, ↓n_zeq, ↓n_zne, ↓n_zlt, ↓n_zge, ↓n_zgt, ↓n_zle, ↓e_goto, ↓e_nn, ↓e_retI, ↓e_retL, ↓e_retV, ↓n_retZ, ↓e_retA, ↓e_gfI, ↓e_gfL, ↓e_gfR, ↓e_pfI, ↓n_pfZ, ↓e_pfL, ↓e_pfR, ↓e_iald, ↓e_lald, ↓e_aald, ↓e_alen, ↓e_iast, ↓e_bast, ↓n_zast, ↓e_last, ↓e_aast, ↓e_cV, ↓e_cS, ↓e_gsW, ↓e_gsK, ↓e_mmax, ↓e_mmin, ↓e_mmaxL, ↓e_mminL, gEnt, gPad, gArgs, gGet, gS1, gS2, gCl, gNo, gSp, gCt, n_sw, n_gSw, n_gSw0, Option.toList, List.cons_append, List.nil_append, Value.category, and_true, true_and, and_self, not_false_eq_true, not_true_eq_false, Nat.reduceAdd, Nat.reduceSub, Nat.reduceMul, Nat.reduceLeDiff, Nat.reduceLT, Nat.reduceEqDiff, forall_const, true_implies, false_implies, implies_true, Nat.zero_add, Option.some.injEq, Sum.inr.injEq, Sum.inl.injEq, Prod.mk.injEq, exists_eq_left', exists_eq_left, w_ne0, nI_add, w_lt, w_le, w_eq, w_meq, w_eqm, w_mlt, w_ltm, w_mle, w_lem, w_clamp, w_in, w_31, w_ite0, w_ite1, w_ite01, true_or, or_true, false_or, or_false, Nat.le_refl, Nat.lt_irrefl, S_110 hS, S_119 hS, S_125 hS, S_126 hS, S_127 hS, S_145 hS, S_146 hS, S_147 hS, R_110_21 hR, R_110_27 hR, R_110_28 hR, R_110_29 hR, R_110_58 hR, R_110_59 hR, R_110_60 hR, hx63, Nat.not_lt_zero]
    refine b_X11_ask_12 hX ?_
    simp (disch := omega) only [B_X11_ask_12, ↓n_gb, ↓n_gb0, ↓n_ic, ↓n_icm, ↓n_lc, ↓e_lc, ↓e_null, ↓e_ldI, ↓e_ldL, ↓e_ldA, ↓e_stI, ↓e_stL, ↓e_stA, ↓n_inc, ↓n_incm1, ↓n_incm8, ↓e_iadd, ↓e_isub, ↓e_imul, ↓e_iand, ↓e_ior, ↓e_ixor, ↓n_ishl, ↓n_ishr, ↓e_iushr, ↓n_idiv, ↓e_ineg, ↓e_ladd, ↓e_lsub, ↓e_lmul, ↓e_lor, ↓e_lshl, ↓e_lshr, ↓e_i2l, ↓e_l2i, ↓e_i2b, ↓e_lcmp, ↓e_dup, ↓e_dup2, ↓e_pop, ↓e_ceq, ↓e_cne, ↓e_clt, ↓e_cge, ↓e_cgt, ↓e_cle, ↓n_zeq, ↓n_zne, ↓n_zlt, ↓n_zge, ↓n_zgt, ↓n_zle, ↓e_goto, ↓e_nn, ↓e_retI, ↓e_retL, ↓e_retV, ↓n_retZ, ↓e_retA, ↓e_gfI, ↓e_gfL, ↓e_gfR, ↓e_pfI, ↓n_pfZ, ↓e_pfL, ↓e_pfR, ↓e_iald, ↓e_lald, ↓e_aald, ↓e_alen, ↓e_iast, ↓e_bast, ↓n_zast, ↓e_last, ↓e_aast, ↓e_cV, ↓e_cS, ↓e_gsW, ↓e_gsK, ↓e_mmax, ↓e_mmin, ↓e_mmaxL, ↓e_mminL, gEnt, gPad, gArgs, gGet, gS1, gS2, gCl, gNo, gSp, gCt, n_sw, n_gSw, n_gSw0, Option.toList, List.cons_append, List.nil_append, Value.category, and_true, true_and, and_self, not_false_eq_true, not_true_eq_false, Nat.reduceAdd, Nat.reduceSub, Nat.reduceMul, Nat.reduceLeDiff, Nat.reduceLT, Nat.reduceEqDiff, forall_const, true_implies, false_implies, implies_true, Nat.zero_add, Option.some.injEq, Sum.inr.injEq, Sum.inl.injEq, Prod.mk.injEq, exists_eq_left', exists_eq_left, w_ne0, nI_add, w_lt, w_le, w_eq, w_meq, w_eqm, w_mlt, w_ltm, w_mle, w_lem, w_clamp, w_in, w_31, w_ite0, w_ite1, w_ite01, true_or, or_true, false_or, or_false, Nat.le_refl, Nat.lt_irrefl, S_110 hS, S_119 hS, S_125 hS, S_126 hS, S_127 hS, S_145 hS, S_146 hS, S_147 hS, R_110_21 hR, R_110_27 hR, R_110_28 hR, R_110_29 hR, R_110_58 hR, R_110_59 hR, R_110_60 hR, m52, w_an]
    refine k_mCosts hS hR ?_
    rw [ecm]
    simp (disch := omega) only [↓n_gb, ↓n_gb0, ↓n_ic, ↓n_icm, ↓n_lc, ↓e_lc, ↓e_null, ↓e_ldI, ↓e_ldL, ↓e_ldA, ↓e_stI, ↓e_stL, ↓e_stA, ↓n_inc, ↓n_incm1, ↓n_incm8, ↓e_iadd, ↓e_isub, ↓e_imul, ↓e_iand, ↓e_ior, ↓e_ixor, ↓n_ishl, ↓n_ishr, ↓e_iushr, ↓n_idiv, ↓e_ineg, ↓e_ladd, ↓e_lsub, ↓e_lmul, ↓e_lor, ↓e_lshl, ↓e_lshr, ↓e_i2l, ↓e_l2i, ↓e_i2b, ↓e_lcmp, ↓e_dup, ↓e_dup2, ↓e_pop, ↓e_ceq, ↓e_cne, ↓e_clt, ↓e_cge, ↓e_cgt, ↓e_cle, ↓n_zeq, ↓n_zne, ↓n_zlt, ↓n_zge, ↓n_zgt, ↓n_zle, ↓e_goto, ↓e_nn, ↓e_retI, ↓e_retL, ↓e_retV, ↓n_retZ, ↓e_retA, ↓e_gfI, ↓e_gfL, ↓e_gfR, ↓e_pfI, ↓n_pfZ, ↓e_pfL, ↓e_pfR, ↓e_iald, ↓e_lald, ↓e_aald, ↓e_alen, ↓e_iast, ↓e_bast, ↓n_zast, ↓e_last, ↓e_aast, ↓e_cV, ↓e_cS, ↓e_gsW, ↓e_gsK, ↓e_mmax, ↓e_mmin, ↓e_mmaxL, ↓e_mminL, gEnt, gPad, gArgs, gGet, gS1, gS2, gCl, gNo, gSp, gCt, n_sw, n_gSw, n_gSw0, Option.toList, List.cons_append, List.nil_append, Value.category, and_true, true_and, and_self, not_false_eq_true, not_true_eq_false, Nat.reduceAdd, Nat.reduceSub, Nat.reduceMul, Nat.reduceLeDiff, Nat.reduceLT, Nat.reduceEqDiff, forall_const, true_implies, false_implies, implies_true, Nat.zero_add, Option.some.injEq, Sum.inr.injEq, Sum.inl.injEq, Prod.mk.injEq, exists_eq_left', exists_eq_left, w_ne0, nI_add, w_lt, w_le, w_eq, w_meq, w_eqm, w_mlt, w_ltm, w_mle, w_lem, w_clamp, w_in, w_31, w_ite0, w_ite1, w_ite01, true_or, or_true, false_or, or_false, Nat.le_refl, Nat.lt_irrefl, S_110 hS, S_119 hS, S_125 hS, S_126 hS, S_127 hS, S_145 hS, S_146 hS, S_147 hS, R_110_21 hR, R_110_27 hR, R_110_28 hR, R_110_29 hR, R_110_58 hR, R_110_59 hR, R_110_60 hR, m53, m42, g1, g2, n_icm2]
    exact hP2 _ hI'
  · simp (disch := omega) only [↓n_gb, ↓n_gb0, ↓n_ic, ↓n_icm, ↓n_lc, ↓e_lc, ↓e_null, ↓e_ldI, ↓e_ldL, ↓e_ldA, ↓e_stI, ↓e_stL, ↓e_stA, ↓n_inc, ↓n_incm1, ↓n_incm8, ↓e_iadd, ↓e_isub, ↓e_imul, ↓e_iand, ↓e_ior, ↓e_ixor, ↓n_ishl, ↓n_ishr, ↓e_iushr, ↓n_idiv, ↓e_ineg, ↓e_ladd, ↓e_lsub, ↓e_lmul, ↓e_lor, ↓e_lshl, ↓e_lshr, ↓e_i2l, ↓e_l2i, ↓e_i2b, ↓e_lcmp, ↓e_dup, ↓e_dup2, ↓e_pop, ↓e_ceq, ↓e_cne, ↓e_clt, ↓e_cge, ↓e_cgt, ↓e_cle, ↓n_zeq, ↓n_zne, ↓n_zlt, ↓n_zge, ↓n_zgt, ↓n_zle, ↓e_goto, ↓e_nn, ↓e_retI, ↓e_retL, ↓e_retV, ↓n_retZ, ↓e_retA, ↓e_gfI, ↓e_gfL, ↓e_gfR, ↓e_pfI, ↓n_pfZ, ↓e_pfL, ↓e_pfR, ↓e_iald, ↓e_lald, ↓e_aald, ↓e_alen, ↓e_iast, ↓e_bast, ↓n_zast, ↓e_last, ↓e_aast, ↓e_cV, ↓e_cS, ↓e_gsW, ↓e_gsK, ↓e_mmax, ↓e_mmin, ↓e_mmaxL, ↓e_mminL, gEnt, gPad, gArgs, gGet, gS1, gS2, gCl, gNo, gSp, gCt, n_sw, n_gSw, n_gSw0, Option.toList, List.cons_append, List.nil_append, Value.category, and_true, true_and, and_self, not_false_eq_true, not_true_eq_false, Nat.reduceAdd, Nat.reduceSub, Nat.reduceMul, Nat.reduceLeDiff, Nat.reduceLT, Nat.reduceEqDiff, forall_const, true_implies, false_implies, implies_true, Nat.zero_add, Option.some.injEq, Sum.inr.injEq, Sum.inl.injEq, Prod.mk.injEq, exists_eq_left', exists_eq_left, w_ne0, nI_add, w_lt, w_le, w_eq, w_meq, w_eqm, w_mlt, w_ltm, w_mle, w_lem, w_clamp, w_in, w_31, w_ite0, w_ite1, w_ite01, true_or, or_true, false_or, or_false, Nat.le_refl, Nat.lt_irrefl, S_0 hS, S_8 hS, R_0_2 hR]
    refine b_X10_ask_26 hX ?_
    simp (disch := omega) only [B_X10_ask_26, ↓n_gb, ↓n_gb0, ↓n_ic, ↓n_icm, ↓n_lc, ↓e_lc, ↓e_null, ↓e_ldI, ↓e_ldL, ↓e_ldA, ↓e_stI, ↓e_stL, ↓e_stA, ↓n_inc, ↓n_incm1, ↓n_incm8, ↓e_iadd, ↓e_isub, ↓e_imul, ↓e_iand, ↓e_ior, ↓e_ixor, ↓n_ishl, ↓n_ishr, ↓e_iushr, ↓n_idiv, ↓e_ineg, ↓e_ladd, ↓e_lsub, ↓e_lmul, ↓e_lor, ↓e_lshl, ↓e_lshr, ↓e_i2l, ↓e_l2i, ↓e_i2b, ↓e_lcmp, ↓e_dup, ↓e_dup2, ↓e_pop, ↓e_ceq, ↓e_cne, ↓e_clt, ↓e_cge, ↓e_cgt, ↓e_cle, ↓n_zeq, ↓n_zne, ↓n_zlt, ↓n_zge, ↓n_zgt, ↓n_zle, ↓e_goto, ↓e_nn, ↓e_retI, ↓e_retL, ↓e_retV, ↓n_retZ, ↓e_retA, ↓e_gfI, ↓e_gfL, ↓e_gfR, ↓e_pfI, ↓n_pfZ, ↓e_pfL, ↓e_pfR, ↓e_iald, ↓e_lald, ↓e_aald, ↓e_alen, ↓e_iast, ↓e_bast, ↓n_zast, ↓e_last, ↓e_aast, ↓e_cV, ↓e_cS, ↓e_gsW, ↓e_gsK, ↓e_mmax, ↓e_mmin, ↓e_mmaxL, ↓e_mminL, gEnt, gPad, gArgs, gGet, gS1, gS2, gCl, gNo, gSp, gCt, n_sw, n_gSw, n_gSw0, Option.toList, List.cons_append, List.nil_append, Value.category, and_true, true_and, and_self, not_false_eq_true, not_true_eq_false, Nat.reduceAdd, Nat.reduceSub, Nat.reduceMul, Nat.reduceLeDiff, Nat.reduceLT, Nat.reduceEqDiff, forall_const, true_implies, false_implies, implies_true, Nat.zero_add, Option.some.injEq, Sum.inr.injEq, Sum.inl.injEq, Prod.mk.injEq, exists_eq_left', exists_eq_left, w_ne0, nI_add, w_lt, w_le, w_eq, w_meq, w_eqm, w_mlt, w_ltm, w_mle, w_lem, w_clamp, w_in, w_31, w_ite0, w_ite1, w_ite01, true_or, or_true, false_or, or_false, Nat.le_refl, Nat.lt_irrefl, S_0 hS, S_8 hS, R_0_2 hR]
    have ha' : a ||| x < 64 := Nat.or_lt_two_pow (n := 6) ha hx
    refine k_renewBoxes (q := q) (n := n) (t := t) (N := N) (D := D) (L := L) (C := C) (fs := fs) (ft := ft) (rr := fun k => μ.1 (β + (20 + 3 * k)) t) (nd := fun k => μ.1 (β + (19 + 3 * k)) 4) (a := nI (a ||| x)) (op := op) (ar := ar) (jj := jj) (s := s') (e := e') (bs := bs) (be := be) hS hR hq p7 ?_ ?_ hn ht ?_ hD ?_ hN ?_ (fun j hj => ?_) (fun k hk => ?_) (fun k hk => ?_) ⟨hSC.1, ?_, fun i hi => ?_⟩ ⟨hLC.1, ?_, fun i hi => ?_⟩ (fun k hk => ?_) (nI (a ||| x) &&& (gDn (μ.1 (β + 13)) (μ.1 (β + 14)) (μ.1 (β + 15)) (nI t) D ^^^ gm1)) ?_ (fun s => (gVv fs ft (μ.1 (β + 12)) t N s).toInt64) ?_ (fun μc hE hr2 => ?_)
    · simp (disch := omega) only [gU_n, h9]
    · simp (disch := omega) only [gU_n, h10]
    · simp (disch := omega) only [gU_n, gU_s]
    · simp (disch := omega) only [gU_n, dd10]
    · simp (disch := omega) only [gU_n, n9]
    · simp (disch := omega) only [gU_n]; exact nf j hj
    · simp (disch := omega) only [gU_n]
    · simp (disch := omega) only [gU_n]
    · simp (disch := omega) only [gU_n]; exact hSC.2.1
    · simp (disch := omega) only [gU_n]; exact hSC.2.2 i hi
    · simp (disch := omega) only [gU_n]; exact hLC.2.1
    · have := (hLC.2.2 i hi).1
      simp (disch := omega) only [gU_n]; exact hLC.2.2 i hi
    · obtain ⟨z1, z2, z3, z4, z5, z6, z7⟩ := hbx k hk
      simp (disch := omega) only [gU_n]; exact ⟨z1, z2, z3, z4, z7⟩
    · simp (disch := omega) only [gU_row]
    · simp (disch := omega) only [gU_row]
    generalize hAA : nI (a ||| x) &&& (gDn (μ.1 (β + 13)) (μ.1 (β + 14)) (μ.1 (β + 15)) (nI t) D ^^^ gm1) = A at hE ⊢
    simp (disch := omega) only [↓n_gb, ↓n_gb0, ↓n_ic, ↓n_icm, ↓n_lc, ↓e_lc, ↓e_null, ↓e_ldI, ↓e_ldL, ↓e_ldA, ↓e_stI, ↓e_stL, ↓e_stA, ↓n_inc, ↓n_incm1, ↓n_incm8, ↓e_iadd, ↓e_isub, ↓e_imul, ↓e_iand, ↓e_ior, ↓e_ixor, ↓n_ishl, ↓n_ishr, ↓e_iushr, ↓n_idiv, ↓e_ineg, ↓e_ladd, ↓e_lsub, ↓e_lmul, ↓e_lor, ↓e_lshl, ↓e_lshr, ↓e_i2l, ↓e_l2i, ↓e_i2b, ↓e_lcmp, ↓e_dup, ↓e_dup2, ↓e_pop, ↓e_ceq, ↓e_cne, ↓e_clt, ↓e_cge, ↓e_cgt, ↓e_cle, ↓n_zeq, ↓n_zne, ↓n_zlt, ↓n_zge, ↓n_zgt, ↓n_zle, ↓e_goto, ↓e_nn, ↓e_retI, ↓e_retL, ↓e_retV, ↓n_retZ, ↓e_retA, ↓e_gfI, ↓e_gfL, ↓e_gfR, ↓e_pfI, ↓n_pfZ, ↓e_pfL, ↓e_pfR, ↓e_iald, ↓e_lald, ↓e_aald, ↓e_alen, ↓e_iast, ↓e_bast, ↓n_zast, ↓e_last, ↓e_aast, ↓e_cV, ↓e_cS, ↓e_gsW, ↓e_gsK, ↓e_mmax, ↓e_mmin, ↓e_mmaxL, ↓e_mminL, gEnt, gPad, gArgs, gGet, gS1, gS2, gCl, gNo, gSp, gCt, n_sw, n_gSw, n_gSw0, Option.toList, List.cons_append, List.nil_append, Value.category, and_true, true_and, and_self, not_false_eq_true, not_true_eq_false, Nat.reduceAdd, Nat.reduceSub, Nat.reduceMul, Nat.reduceLeDiff, Nat.reduceLT, Nat.reduceEqDiff, forall_const, true_implies, false_implies, implies_true, Nat.zero_add, Option.some.injEq, Sum.inr.injEq, Sum.inl.injEq, Prod.mk.injEq, exists_eq_left', exists_eq_left, w_ne0, nI_add, w_lt, w_le, w_eq, w_meq, w_eqm, w_mlt, w_ltm, w_mle, w_lem, w_clamp, w_in, w_31, w_ite0, w_ite1, w_ite01, true_or, or_true, false_or, or_false, Nat.le_refl, Nat.lt_irrefl, S_0 hS, S_8 hS, R_0_2 hR]
    obtain ⟨E1, E2, E3⟩ := hE
    dsimp only at E1 E2 E3 hr2
    have hRc : gPS μc.2.2 β := by
      rcases hr2 with e | e
      · rw [e]; exact hR
      · rw [e]; exact gPS_17 hq hR
    have irf' : gI_rf β q μc.2.2 := by
      rcases hr2 with e | e
      · rw [e]; exact irf
      · rw [e]; exact gI_rf_17 irf
    have F1 : ∀ a i, (a ≠ 16 ∧ ¬ (a = q ∧ i = 12) ∧ ¬ (a = 8 ∧ 12 ≤ i ∧ i ≤ 14)) → (∀ k, k < n → ¬ (a = 20 + 3 * k ∧ i = t) ∧ ¬ (a = 19 + 3 * k ∧ i = 9)) → μc.1 (β + a) i = μ.1 (β + a) i := by
      intro a i h1 h2
      rw [E1 _ _ (by omega) (by omega) (fun k hk _ => by have := h2 k hk; omega), gU_n (by omega), gU_n (by omega), gU_n (by omega)]
    have F2 : ∀ a i, (a ≠ 17 ∧ a ≠ q + 6 ∧ a ≠ q + 7) → (∀ k, k < n → ¬ (a = 21 + 3 * k ∧ i = t)) → μc.2.1 (β + a) i = μ.2.1 (β + a) i := by
      intro a i h1 h2
      exact E2 _ _ (by omega) (by omega) (by omega) (fun k hk _ => by have := h2 k hk; omega)
    have Fm : ∀ a i, 110 ≤ a → μc.1 (β + a) i = μ.1 (β + a) i := fun a i h => F1 a i (by omega) (fun k hk => by omega)
    have Fb : ∀ j, μc.1 b j = xs j := by
      intro j
      rw [E1 _ _ (by omega) (by omega) (fun k hk _ => by omega), gU_n (by omega), gU_n (by omega), gU_n (by omega)]
      exact hs j
    refine hP _ _ Fb Fm hRc (fun P2 hP2 => ?_)
    have q1 : μc.1 (β + 110) 52 = nI a := (Fm _ _ (by omega)).trans m52
    have q2 : μc.1 (β + 110) 53 = nI s := (Fm _ _ (by omega)).trans m53
    have q3 : μc.1 (β + 110) 42 = nI l := (Fm _ _ (by omega)).trans m42
    have q4 : μc.1 (β + 110) 51 = nI t := (Fm _ _ (by omega)).trans h51
    have q5 : gCo (μc.1 (β + 135)) (nI (gAn x a)) 6 = nI c := by
      rw [← ecm]
      exact gCo_congr 6 (fun s _ => Fm _ _ (by omega))
    have hR := hRc
    refine r_X11_ask (by simp [lg_sl, Value.category]) (fun X hX => ?_)
    refine b_X11_ask_0 hX ?_
    simp (disch := omega) only [B_X11_ask_0, ↓n_gb, ↓n_gb0, ↓n_ic, ↓n_icm, ↓n_lc, ↓e_lc, ↓e_null, ↓e_ldI, ↓e_ldL, ↓e_ldA, ↓e_stI, ↓e_stL, ↓e_stA, ↓n_inc, ↓n_incm1, ↓n_incm8, ↓e_iadd, ↓e_isub, ↓e_imul, ↓e_iand, ↓e_ior, ↓e_ixor, ↓n_ishl, ↓n_ishr, ↓e_iushr, ↓n_idiv, ↓e_ineg, ↓e_ladd, ↓e_lsub, ↓e_lmul, ↓e_lor, ↓e_lshl, ↓e_lshr, ↓e_i2l, ↓e_l2i, ↓e_i2b, ↓e_lcmp, ↓e_dup, ↓e_dup2, ↓e_pop, ↓e_ceq, ↓e_cne, ↓e_clt, ↓e_cge, ↓e_cgt, ↓e_cle, ↓n_zeq, ↓n_zne, ↓n_zlt, ↓n_zge, ↓n_zgt, ↓n_zle, ↓e_goto, ↓e_nn, ↓e_retI, ↓e_retL, ↓e_retV, ↓n_retZ, ↓e_retA, ↓e_gfI, ↓e_gfL, ↓e_gfR, ↓e_pfI, ↓n_pfZ, ↓e_pfL, ↓e_pfR, ↓e_iald, ↓e_lald, ↓e_aald, ↓e_alen, ↓e_iast, ↓e_bast, ↓n_zast, ↓e_last, ↓e_aast, ↓e_cV, ↓e_cS, ↓e_gsW, ↓e_gsK, ↓e_mmax, ↓e_mmin, ↓e_mmaxL, ↓e_mminL, gEnt, gPad, gArgs, gGet, gS1, gS2, gCl, gNo, gSp, gCt, n_sw, n_gSw, n_gSw0, Option.toList, List.cons_append, List.nil_append, Value.category, and_true, true_and, and_self, not_false_eq_true, not_true_eq_false, Nat.reduceAdd, Nat.reduceSub, Nat.reduceMul, Nat.reduceLeDiff, Nat.reduceLT, Nat.reduceEqDiff, forall_const, true_implies, false_implies, implies_true, Nat.zero_add, Option.some.injEq, Sum.inr.injEq, Sum.inl.injEq, Prod.mk.injEq, exists_eq_left', exists_eq_left, w_ne0, nI_add, w_lt, w_le, w_eq, w_meq, w_eqm, w_mlt, w_ltm, w_mle, w_lem, w_clamp, w_in, w_31, w_ite0, w_ite1, w_ite01, true_or, or_true, false_or, or_false, Nat.le_refl, Nat.lt_irrefl, S_110 hS, S_119 hS, S_125 hS, S_126 hS, S_127 hS, S_145 hS, S_146 hS, S_147 hS, R_110_21 hR, R_110_27 hR, R_110_28 hR, R_110_29 hR, R_110_58 hR, R_110_59 hR, R_110_60 hR, hx63, Nat.not_lt_zero]
    refine b_X11_ask_12 hX ?_
    simp (disch := omega) only [B_X11_ask_12, ↓n_gb, ↓n_gb0, ↓n_ic, ↓n_icm, ↓n_lc, ↓e_lc, ↓e_null, ↓e_ldI, ↓e_ldL, ↓e_ldA, ↓e_stI, ↓e_stL, ↓e_stA, ↓n_inc, ↓n_incm1, ↓n_incm8, ↓e_iadd, ↓e_isub, ↓e_imul, ↓e_iand, ↓e_ior, ↓e_ixor, ↓n_ishl, ↓n_ishr, ↓e_iushr, ↓n_idiv, ↓e_ineg, ↓e_ladd, ↓e_lsub, ↓e_lmul, ↓e_lor, ↓e_lshl, ↓e_lshr, ↓e_i2l, ↓e_l2i, ↓e_i2b, ↓e_lcmp, ↓e_dup, ↓e_dup2, ↓e_pop, ↓e_ceq, ↓e_cne, ↓e_clt, ↓e_cge, ↓e_cgt, ↓e_cle, ↓n_zeq, ↓n_zne, ↓n_zlt, ↓n_zge, ↓n_zgt, ↓n_zle, ↓e_goto, ↓e_nn, ↓e_retI, ↓e_retL, ↓e_retV, ↓n_retZ, ↓e_retA, ↓e_gfI, ↓e_gfL, ↓e_gfR, ↓e_pfI, ↓n_pfZ, ↓e_pfL, ↓e_pfR, ↓e_iald, ↓e_lald, ↓e_aald, ↓e_alen, ↓e_iast, ↓e_bast, ↓n_zast, ↓e_last, ↓e_aast, ↓e_cV, ↓e_cS, ↓e_gsW, ↓e_gsK, ↓e_mmax, ↓e_mmin, ↓e_mmaxL, ↓e_mminL, gEnt, gPad, gArgs, gGet, gS1, gS2, gCl, gNo, gSp, gCt, n_sw, n_gSw, n_gSw0, Option.toList, List.cons_append, List.nil_append, Value.category, and_true, true_and, and_self, not_false_eq_true, not_true_eq_false, Nat.reduceAdd, Nat.reduceSub, Nat.reduceMul, Nat.reduceLeDiff, Nat.reduceLT, Nat.reduceEqDiff, forall_const, true_implies, false_implies, implies_true, Nat.zero_add, Option.some.injEq, Sum.inr.injEq, Sum.inl.injEq, Prod.mk.injEq, exists_eq_left', exists_eq_left, w_ne0, nI_add, w_lt, w_le, w_eq, w_meq, w_eqm, w_mlt, w_ltm, w_mle, w_lem, w_clamp, w_in, w_31, w_ite0, w_ite1, w_ite01, true_or, or_true, false_or, or_false, Nat.le_refl, Nat.lt_irrefl, S_110 hS, S_119 hS, S_125 hS, S_126 hS, S_127 hS, S_145 hS, S_146 hS, S_147 hS, R_110_21 hR, R_110_27 hR, R_110_28 hR, R_110_29 hR, R_110_58 hR, R_110_59 hR, R_110_60 hR, q1, w_an]
    refine k_mCosts hS hR ?_
    rw [q5]
    simp (disch := omega) only [↓n_gb, ↓n_gb0, ↓n_ic, ↓n_icm, ↓n_lc, ↓e_lc, ↓e_null, ↓e_ldI, ↓e_ldL, ↓e_ldA, ↓e_stI, ↓e_stL, ↓e_stA, ↓n_inc, ↓n_incm1, ↓n_incm8, ↓e_iadd, ↓e_isub, ↓e_imul, ↓e_iand, ↓e_ior, ↓e_ixor, ↓n_ishl, ↓n_ishr, ↓e_iushr, ↓n_idiv, ↓e_ineg, ↓e_ladd, ↓e_lsub, ↓e_lmul, ↓e_lor, ↓e_lshl, ↓e_lshr, ↓e_i2l, ↓e_l2i, ↓e_i2b, ↓e_lcmp, ↓e_dup, ↓e_dup2, ↓e_pop, ↓e_ceq, ↓e_cne, ↓e_clt, ↓e_cge, ↓e_cgt, ↓e_cle, ↓n_zeq, ↓n_zne, ↓n_zlt, ↓n_zge, ↓n_zgt, ↓n_zle, ↓e_goto, ↓e_nn, ↓e_retI, ↓e_retL, ↓e_retV, ↓n_retZ, ↓e_retA, ↓e_gfI, ↓e_gfL, ↓e_gfR, ↓e_pfI, ↓n_pfZ, ↓e_pfL, ↓e_pfR, ↓e_iald, ↓e_lald, ↓e_aald, ↓e_alen, ↓e_iast, ↓e_bast, ↓n_zast, ↓e_last, ↓e_aast, ↓e_cV, ↓e_cS, ↓e_gsW, ↓e_gsK, ↓e_mmax, ↓e_mmin, ↓e_mmaxL, ↓e_mminL, gEnt, gPad, gArgs, gGet, gS1, gS2, gCl, gNo, gSp, gCt, n_sw, n_gSw, n_gSw0, Option.toList, List.cons_append, List.nil_append, Value.category, and_true, true_and, and_self, not_false_eq_true, not_true_eq_false, Nat.reduceAdd, Nat.reduceSub, Nat.reduceMul, Nat.reduceLeDiff, Nat.reduceLT, Nat.reduceEqDiff, forall_const, true_implies, false_implies, implies_true, Nat.zero_add, Option.some.injEq, Sum.inr.injEq, Sum.inl.injEq, Prod.mk.injEq, exists_eq_left', exists_eq_left, w_ne0, nI_add, w_lt, w_le, w_eq, w_meq, w_eqm, w_mlt, w_ltm, w_mle, w_lem, w_clamp, w_in, w_31, w_ite0, w_ite1, w_ite01, true_or, or_true, false_or, or_false, Nat.le_refl, Nat.lt_irrefl, S_110 hS, S_119 hS, S_125 hS, S_126 hS, S_127 hS, S_145 hS, S_146 hS, S_147 hS, R_110_21 hR, R_110_27 hR, R_110_28 hR, R_110_29 hR, R_110_58 hR, R_110_59 hR, R_110_60 hR, q2, q3]
    have w45 : X 45 μc [some (.ref (β + 110)), some (.int (nI x)), some (.int (nI c)), none, none, none] [] := by
      refine b_X11_ask_45 hX ?_
      simp (disch := omega) only [B_X11_ask_45, ↓n_gb, ↓n_gb0, ↓n_ic, ↓n_icm, ↓n_lc, ↓e_lc, ↓e_null, ↓e_ldI, ↓e_ldL, ↓e_ldA, ↓e_stI, ↓e_stL, ↓e_stA, ↓n_inc, ↓n_incm1, ↓n_incm8, ↓e_iadd, ↓e_isub, ↓e_imul, ↓e_iand, ↓e_ior, ↓e_ixor, ↓n_ishl, ↓n_ishr, ↓e_iushr, ↓n_idiv, ↓e_ineg, ↓e_ladd, ↓e_lsub, ↓e_lmul, ↓e_lor, ↓e_lshl, ↓e_lshr, ↓e_i2l, ↓e_l2i, ↓e_i2b, ↓e_lcmp, ↓e_dup, ↓e_dup2, ↓e_pop, ↓e_ceq, ↓e_cne, ↓e_clt, ↓e_cge, ↓e_cgt, ↓e_cle, ↓n_zeq, ↓n_zne, ↓n_zlt, ↓n_zge, ↓n_zgt, ↓n_zle, ↓e_goto, ↓e_nn, ↓e_retI, ↓e_retL, ↓e_retV, ↓n_retZ, ↓e_retA, ↓e_gfI, ↓e_gfL, ↓e_gfR, ↓e_pfI, ↓n_pfZ, ↓e_pfL, ↓e_pfR, ↓e_iald, ↓e_lald, ↓e_aald, ↓e_alen, ↓e_iast, ↓e_bast, ↓n_zast, ↓e_last, ↓e_aast, ↓e_cV, ↓e_cS, ↓e_gsW, ↓e_gsK, ↓e_mmax, ↓e_mmin, ↓e_mmaxL, ↓e_mminL, gEnt, gPad, gArgs, gGet, gS1, gS2, gCl, gNo, gSp, gCt, n_sw, n_gSw, n_gSw0, Option.toList, List.cons_append, List.nil_append, Value.category, and_true, true_and, and_self, not_false_eq_true, not_true_eq_false, Nat.reduceAdd, Nat.reduceSub, Nat.reduceMul, Nat.reduceLeDiff, Nat.reduceLT, Nat.reduceEqDiff, forall_const, true_implies, false_implies, implies_true, Nat.zero_add, Option.some.injEq, Sum.inr.injEq, Sum.inl.injEq, Prod.mk.injEq, exists_eq_left', exists_eq_left, w_ne0, nI_add, w_lt, w_le, w_eq, w_meq, w_eqm, w_mlt, w_ltm, w_mle, w_lem, w_clamp, w_in, w_31, w_ite0, w_ite1, w_ite01, true_or, or_true, false_or, or_false, Nat.le_refl, Nat.lt_irrefl, S_110 hS, S_119 hS, S_125 hS, S_126 hS, S_127 hS, S_145 hS, S_146 hS, S_147 hS, R_110_21 hR, R_110_27 hR, R_110_28 hR, R_110_29 hR, R_110_58 hR, R_110_59 hR, R_110_60 hR, q1, q2, q4, w_or, gU_n, gU_s]
      refine k_mDownAt (n := D) hS hR (by simp (disch := omega) only [gU_n]; exact (Fm _ _ (by omega)).trans m47) hD ?_
      simp (disch := omega) only [↓n_gb, ↓n_gb0, ↓n_ic, ↓n_icm, ↓n_lc, ↓e_lc, ↓e_null, ↓e_ldI, ↓e_ldL, ↓e_ldA, ↓e_stI, ↓e_stL, ↓e_stA, ↓n_inc, ↓n_incm1, ↓n_incm8, ↓e_iadd, ↓e_isub, ↓e_imul, ↓e_iand, ↓e_ior, ↓e_ixor, ↓n_ishl, ↓n_ishr, ↓e_iushr, ↓n_idiv, ↓e_ineg, ↓e_ladd, ↓e_lsub, ↓e_lmul, ↓e_lor, ↓e_lshl, ↓e_lshr, ↓e_i2l, ↓e_l2i, ↓e_i2b, ↓e_lcmp, ↓e_dup, ↓e_dup2, ↓e_pop, ↓e_ceq, ↓e_cne, ↓e_clt, ↓e_cge, ↓e_cgt, ↓e_cle, ↓n_zeq, ↓n_zne, ↓n_zlt, ↓n_zge, ↓n_zgt, ↓n_zle, ↓e_goto, ↓e_nn, ↓e_retI, ↓e_retL, ↓e_retV, ↓n_retZ, ↓e_retA, ↓e_gfI, ↓e_gfL, ↓e_gfR, ↓e_pfI, ↓n_pfZ, ↓e_pfL, ↓e_pfR, ↓e_iald, ↓e_lald, ↓e_aald, ↓e_alen, ↓e_iast, ↓e_bast, ↓n_zast, ↓e_last, ↓e_aast, ↓e_cV, ↓e_cS, ↓e_gsW, ↓e_gsK, ↓e_mmax, ↓e_mmin, ↓e_mmaxL, ↓e_mminL, gEnt, gPad, gArgs, gGet, gS1, gS2, gCl, gNo, gSp, gCt, n_sw, n_gSw, n_gSw0, Option.toList, List.cons_append, List.nil_append, Value.category, and_true, true_and, and_self, not_false_eq_true, not_true_eq_false, Nat.reduceAdd, Nat.reduceSub, Nat.reduceMul, Nat.reduceLeDiff, Nat.reduceLT, Nat.reduceEqDiff, forall_const, true_implies, false_implies, implies_true, Nat.zero_add, Option.some.injEq, Sum.inr.injEq, Sum.inl.injEq, Prod.mk.injEq, exists_eq_left', exists_eq_left, w_ne0, nI_add, w_lt, w_le, w_eq, w_meq, w_eqm, w_mlt, w_ltm, w_mle, w_lem, w_clamp, w_in, w_31, w_ite0, w_ite1, w_ite01, true_or, or_true, false_or, or_false, Nat.le_refl, Nat.lt_irrefl, S_110 hS, S_119 hS, S_125 hS, S_126 hS, S_127 hS, S_145 hS, S_146 hS, S_147 hS, R_110_21 hR, R_110_27 hR, R_110_28 hR, R_110_29 hR, R_110_58 hR, R_110_59 hR, R_110_60 hR]
      refine k_mReckons (lv := lv) (t := t) (N := N) (L := L) (C := C) (fs := fs) (ft := ft) (op := op) (ar := ar) (s := s') (e := e') hS hR ?_ ?_ ht hN ?_ (fun j hj => ?_) ⟨hMC.1, hMC.2.1, fun i hi => ?_⟩ ⟨hML.1, ?_, fun i hi => ?_⟩ (fun g3 g4 l' hg' hl' => ?_)
      · simp (disch := omega) only [gU_n, Fm]; exact h18
      · simp (disch := omega) only [gU_n, Fm]; exact h51
      · simp (disch := omega) only [gU_n, Fm]; exact n43
      · simp (disch := omega) only [gU_n, Fm]; exact nf' j hj
      · simp (disch := omega) only [gU_n, Fm]; exact hMC.2.2 i hi
      · simp (disch := omega) only [gU_n, Fm]; exact hML.2.1
      · simp (disch := omega) only [gU_n, Fm]; exact hML.2.2 i hi
      have ev : ∀ s, s < 6 → (fun s => (g3 s).toInt64) s = (fun s => (gVv fs ft (μ.1 (β + 12)) t N s).toInt64) s := by
        intro s hs
        dsimp only
        rw [hg' s hs]
        refine congrArg Int32.toInt64 (gVv_congr N (fun j hj => ?_))
        simp (disch := omega) only [gU_n, Fm]
        exact nv j hj
      have eA : nI (a ||| x) &&& (gDn (gU (gU (gU μc.1 (β + 110) 52 (nI (a ||| x))) (β + 110) 53 (nI (s + c))) (β + 110) 54 (μc.1 (β + 110) 54 + nI c) (β + 139)) (gU (gU (gU μc.1 (β + 110) 52 (nI (a ||| x))) (β + 110) 53 (nI (s + c))) (β + 110) 54 (μc.1 (β + 110) 54 + nI c) (β + 140)) (gU (gU (gU μc.1 (β + 110) 52 (nI (a ||| x))) (β + 110) 53 (nI (s + c))) (β + 110) 54 (μc.1 (β + 110) 54 + nI c) (β + 141)) (nI t) D ^^^ gm1) = A := by
        rw [← hAA]
        refine congrArg (fun z => nI (a ||| x) &&& (z ^^^ gm1)) (gDn_congr D (fun j hj => ?_))
        obtain ⟨z, u, v, -, -, -, z1, z2, z3, z4, z5, z6⟩ := dd j hj
        simp (disch := omega) only [gU_n, Fm]
        rw [z1, z2, z3, z4, z5, z6]
        exact ⟨rfl, rfl, rfl⟩
      simp (disch := omega) only [↓n_gb, ↓n_gb0, ↓n_ic, ↓n_icm, ↓n_lc, ↓e_lc, ↓e_null, ↓e_ldI, ↓e_ldL, ↓e_ldA, ↓e_stI, ↓e_stL, ↓e_stA, ↓n_inc, ↓n_incm1, ↓n_incm8, ↓e_iadd, ↓e_isub, ↓e_imul, ↓e_iand, ↓e_ior, ↓e_ixor, ↓n_ishl, ↓n_ishr, ↓e_iushr, ↓n_idiv, ↓e_ineg, ↓e_ladd, ↓e_lsub, ↓e_lmul, ↓e_lor, ↓e_lshl, ↓e_lshr, ↓e_i2l, ↓e_l2i, ↓e_i2b, ↓e_lcmp, ↓e_dup, ↓e_dup2, ↓e_pop, ↓e_ceq, ↓e_cne, ↓e_clt, ↓e_cge, ↓e_cgt, ↓e_cle, ↓n_zeq, ↓n_zne, ↓n_zlt, ↓n_zge, ↓n_zgt, ↓n_zle, ↓e_goto, ↓e_nn, ↓e_retI, ↓e_retL, ↓e_retV, ↓n_retZ, ↓e_retA, ↓e_gfI, ↓e_gfL, ↓e_gfR, ↓e_pfI, ↓n_pfZ, ↓e_pfL, ↓e_pfR, ↓e_iald, ↓e_lald, ↓e_aald, ↓e_alen, ↓e_iast, ↓e_bast, ↓n_zast, ↓e_last, ↓e_aast, ↓e_cV, ↓e_cS, ↓e_gsW, ↓e_gsK, ↓e_mmax, ↓e_mmin, ↓e_mmaxL, ↓e_mminL, gEnt, gPad, gArgs, gGet, gS1, gS2, gCl, gNo, gSp, gCt, n_sw, n_gSw, n_gSw0, Option.toList, List.cons_append, List.nil_append, Value.category, and_true, true_and, and_self, not_false_eq_true, not_true_eq_false, Nat.reduceAdd, Nat.reduceSub, Nat.reduceMul, Nat.reduceLeDiff, Nat.reduceLT, Nat.reduceEqDiff, forall_const, true_implies, false_implies, implies_true, Nat.zero_add, Option.some.injEq, Sum.inr.injEq, Sum.inl.injEq, Prod.mk.injEq, exists_eq_left', exists_eq_left, w_ne0, nI_add, w_lt, w_le, w_eq, w_meq, w_eqm, w_mlt, w_ltm, w_mle, w_lem, w_clamp, w_in, w_31, w_ite0, w_ite1, w_ite01, true_or, or_true, false_or, or_false, Nat.le_refl, Nat.lt_irrefl, S_110 hS, S_119 hS, S_125 hS, S_126 hS, S_127 hS, S_145 hS, S_146 hS, S_147 hS, R_110_21 hR, R_110_27 hR, R_110_28 hR, R_110_29 hR, R_110_58 hR, R_110_59 hR, R_110_60 hR]
      rw [eA]
      refine k_mAskLoop (h := h2 + 1) (lv := lv) (n := n) (t := t) (L := L) (C := C) (rr := fun k => μ.1 (β + (20 + 3 * k)) t) (nd := fun k => μ.1 (β + (19 + 3 * k)) 4) (op := op) (ar := ar) (bs := bs) (be := be) (V := fun k => gVal op ar (fun s => (gVv fs ft (μ.1 (β + 12)) t N s).toInt64) (gLvs op ar (fun s => (gVv fs ft (μ.1 (β + 12)) t N s).toInt64) s' e' L) (bs k) (be k)) hX hS hR hlv ?_ ?_ ?_ hn ht hML.1 (fun k hk => ?_) (fun k hk => ?_) ⟨hMC.1, hMC.2.1, fun i hi => ?_⟩ (fun k hk => ?_) (fun k hk => ?_) (fun μ2 hE2 => ?_)
      · simp (disch := omega) only [gU_n, gW_n, Fm]; exact h18
      · simp (disch := omega) only [gU_n, gW_n, Fm]; exact h119
      · simp (disch := omega) only [gU_n, gW_n, Fm]; exact h51
      · simp (disch := omega) only [gU_n, gW_n, Fm]; exact (ihs k hk).2.1.symm
      · simp (disch := omega) only [gU_n, gW_n, Fm]
        obtain ⟨-, -, -, -, e, -, -, -, -, -, -, -, -, -, -, -, -, -, -, -, -, -, n1, n2⟩ := ibx k hk
        rw [n1, n2]
      · simp (disch := omega) only [gU_n, gW_n, Fm]; exact hMC.2.2 i hi
      · obtain ⟨z1, z2, z3, z4, z5, z6, z7⟩ := hbx k hk
        simp (disch := omega) only [gU_n, gW_n, Fm]; exact ⟨z1, z2, z5, z6, z7⟩
      · refine gVal_congr (lb := L) (fun s hs => ?_) (fun k hk => ?_) hML.1 (hbx k hk).2.2.2.2.2.2
        · dsimp only
          rw [gW_s]
          exact (ev s hs).symm
        · dsimp only
          rw [gW_s, hl' k hk]
          exact (gLvs_congr hML.1 ev (fun i hi => (hML.2.2 i hi).2.2.2.2) L (Nat.le_refl _) k hk).symm
      obtain ⟨M1, M2, M3, M4⟩ := hE2
      dsimp only at M1 M2 M3 M4
      refine hP2 _ ?_
      have G1 : ∀ a i, (a ≠ 16 ∧ a ≠ 142 ∧ a ≠ 146 ∧ a ≠ 147 ∧ ¬ (a = q ∧ i = 12) ∧ ¬ (a = 8 ∧ 12 ≤ i ∧ i ≤ 14) ∧ ¬ (a = 110 ∧ 52 ≤ i ∧ i ≤ 54)) → (∀ k, k < n → ¬ (a = 20 + 3 * k ∧ i = t) ∧ ¬ (a = 19 + 3 * k ∧ i = 9)) → μ2.1 (β + a) i = μ.1 (β + a) i := by
        intro a i h1 h2
        rw [M1 _ _ (fun k hk _ => by omega), gW_n (by omega), gU_n (by omega), gU_n (by omega), gU_n (by omega)]
        exact F1 a i (by omega) h2
      have G2 : ∀ a i, (a ≠ 17 ∧ a ≠ q + 6 ∧ a ≠ q + 7 ∧ a ≠ 143 ∧ a ≠ 144 ∧ a ≠ 145) → (∀ k, k < n → ¬ (a = 21 + 3 * k ∧ i = t)) → μ2.2.1 (β + a) i = μ.2.1 (β + a) i := by
        intro a i h1 h2
        rw [M2 _ _ (by omega) (fun k hk _ => by omega), gW_n (by omega), gW_n (by omega)]
        exact F2 a i (by omega) h2
      refine ⟨(fun j => by rw [M1 _ _ (fun k hk _ => by omega), gW_n (by omega), gU_n (by omega), gU_n (by omega), gU_n (by omega)]; exact Fb j), (by rw [M4]; exact hRc), gI_ky_c (fun a j hD => by unfold gD_ky at hD; exact ⟨G1 _ _ (by omega) (fun k hk => by omega), G2 _ _ (by omega) (fun k hk => by omega)⟩) iky, gI_tp_c (fun a j hD => by unfold gD_tp at hD; exact ⟨G1 _ _ (by omega) (fun k hk => by omega), G2 _ _ (by omega) (fun k hk => by omega)⟩) itp, gI_pc_c (fun a j hD => by unfold gD_pc at hD; exact ⟨G1 _ _ (by omega) (fun k hk => by omega), G2 _ _ (by omega) (fun k hk => by omega)⟩) ipc, gI_sr_c (fun a j hD => by unfold gD_sr at hD; exact ⟨G1 _ _ (by omega) (fun k hk => by omega), G2 _ _ (by omega) (fun k hk => by omega)⟩) isr, gI_fa_c (fun a j hD => by unfold gD_fa at hD; exact ⟨G1 _ _ (by omega) (fun k hk => by omega), G2 _ _ (by omega) (fun k hk => by omega)⟩) ifa, gI_do_c (fun a j hD => by unfold gD_do at hD; exact ⟨G1 _ _ (by omega) (fun k hk => by omega), G2 _ _ (by omega) (fun k hk => by omega)⟩) ido, ?_, t, n, lv, q, (by rw [M4]; exact irf'), gI_hd_c (fun a j hD => by unfold gD_hd at hD; exact ⟨G1 _ _ (by omega) (fun k hk => by omega), G2 _ _ (by omega) (fun k hk => by omega)⟩) ihd, (fun k hk => gI_bx_c (fun a j hD => by unfold gD_bx at hD; exact ⟨G1 _ _ (by omega) (fun k hk => by omega), G2 _ _ (by omega) (fun k hk => by omega)⟩) (ibx k hk)), ?_, ?_, (fun k hk => gI_fx_c (fun a j hD => by unfold gD_fx at hD; exact ⟨G1 _ _ (by omega) (fun k hk => by omega), G2 _ _ (by omega) (fun k hk => by omega)⟩) (ifx k hk)), gI_ov_c (fun a j hD => by obtain ⟨hj, k, hk, rfl⟩ := hD; exact ⟨G1 _ _ (by omega) (fun k hk => by omega), G2 _ _ (by omega) (fun k hk => by omega)⟩) iov, gI_sc_c (fun a j hD => by rcases hD with h1 | h1 | h1 | ⟨h1, k, hk, rfl⟩ | h1 <;> exact ⟨G1 _ _ (by omega) (fun k hk => by omega), G2 _ _ (by omega) (fun k hk => by omega)⟩) isc, gI_pl_c (fun a j hD => by unfold gD_pl at hD; exact ⟨G1 _ _ (by omega) (fun k hk => by omega), G2 _ _ (by omega) (fun k hk => by omega)⟩) ipl, gI_ly_c (fun a j hD => by unfold gD_ly at hD; exact ⟨G1 _ _ (by omega) (fun k hk => by omega), G2 _ _ (by omega) (fun k hk => by omega)⟩) ily⟩
      · refine ⟨a ||| x, s + c, ha', by omega, ?_, ?_, ?_, ?_, ?_⟩
        · rw [M1 _ _ (fun k hk _ => by omega), gW_n (by omega), gU_n (by omega), gU_n (by omega), gU_n (by omega), E1 _ _ (by omega) (by omega) (fun k hk _ => by omega), gU_n (by omega), gU_n (by omega), gU_s]
        · rw [M1 _ _ (fun k hk _ => by omega), gW_n (by omega), gU_n (by omega), gU_n (by omega), gU_s]
        · rw [M1 _ _ (fun k hk _ => by omega), gW_n (by omega), gU_n (by omega), gU_n (by omega), gU_n (by omega), E1 _ _ (by omega) (by omega) (fun k hk _ => by omega), gU_n (by omega), gU_s]
        · rw [M1 _ _ (fun k hk _ => by omega), gW_n (by omega), gU_n (by omega), gU_s]
        · rw [M1 _ _ (fun k hk _ => by omega), gW_n (by omega), gU_n (by omega), gU_n (by omega), gU_n (by omega), E1 _ _ (by omega) (by omega) (fun k hk _ => by omega), gU_s, M1 _ _ (fun k hk _ => by omega), gW_n (by omega), gU_s, Fm _ _ (by omega), d14]
      · intro k hk
        obtain ⟨k1, k2, k3, k4⟩ := ilk k hk
        have i1 : μ2.1 (β + (19 + 3 * k)) 7 = μ.1 (β + (19 + 3 * k)) 7 := G1 _ _ (by omega) (fun j hj => by omega)
        have i2 : μ2.1 (β + (19 + 3 * k)) 8 = μ.1 (β + (19 + 3 * k)) 8 := G1 _ _ (by omega) (fun j hj => by omega)
        have i3 : μ2.1 (β + 150) k = μ.1 (β + 150) k := G1 _ _ (by omega) (fun j hj => by omega)
        have i4 : μ2.1 (β + 151) k = μ.1 (β + 151) k := G1 _ _ (by omega) (fun j hj => by omega)
        refine ⟨by rw [i1, i3]; exact k1, by rw [i2, i4]; exact k2, by rw [i2]; exact k3, ?_⟩
        have i5 : μ2.1 (β + (19 + 3 * k)) 9 = μc.1 (β + (19 + 3 * k)) 9 := by
          rw [M1 _ _ (fun k hk _ => by omega), gW_n (by omega), gU_n (by omega), gU_n (by omega), gU_n (by omega)]
        rw [i5]
        by_cases hr : gRn (fun k => μ.1 (β + (20 + 3 * k)) t) (fun k => μ.1 (β + (19 + 3 * k)) 4) A t k
        · rw [(E3 k hk hr).2.1, (M3 k hk hr).2.1, gU_n (by omega), gU_n (by omega), gU_n (by omega), gW_n (by omega), gU_n (by omega), gU_n (by omega), gU_n (by omega), Fm _ _ (by omega), k4]
        · rw [E1 _ _ (by omega) (by omega) (fun j hj hr2 => ?_), gU_n (by omega), gU_n (by omega), gU_n (by omega), M1 _ _ (fun j hj hr2 => ?_), gW_n (by omega), gU_n (by omega), gU_n (by omega), gU_n (by omega), Fm _ _ (by omega), k4]
          · have : j ≠ k := fun e => hr (e ▸ hr2)
            omega
          · have : j ≠ k := fun e => hr (e ▸ hr2)
            omega
      · intro k hk
        obtain ⟨k1, k2, k3, k4⟩ := ihs k hk
        have i5 : ∀ u, μ2.1 (β + (20 + 3 * k)) u = μc.1 (β + (20 + 3 * k)) u := by
          intro u
          rw [M1 _ _ (fun k hk _ => by omega), gW_n (by omega), gU_n (by omega), gU_n (by omega), gU_n (by omega)]
        have i6 : ∀ u, u ≠ t → μ2.1 (β + (20 + 3 * k)) u = μ.1 (β + (20 + 3 * k)) u := fun u hu => G1 _ _ (by omega) (fun j hj => by omega)
        have i7 : ∀ u, u ≠ t → μ2.2.1 (β + (21 + 3 * k)) u = μ.2.1 (β + (21 + 3 * k)) u := fun u hu => G2 _ _ (by omega) (fun j hj => by omega)
        have i8 : ∀ u, μ2.2.1 (β + (21 + 3 * k)) u = μc.2.1 (β + (21 + 3 * k)) u := by
          intro u
          rw [M2 _ _ (by omega) (fun k hk _ => by omega), gW_n (by omega), gW_n (by omega)]
        by_cases hr : gRn (fun k => μ.1 (β + (20 + 3 * k)) t) (fun k => μ.1 (β + (19 + 3 * k)) 4) A t k
        · refine ⟨fun u hu => ?_, ?_, ?_, fun u hu => ?_⟩
          · by_cases e : u = t
            · subst e
              rw [i5, (E3 k hk hr).1]
              exact Or.inr ⟨u, Nat.le_refl _, rfl⟩
            · rw [i6 u e]
              exact k1 u hu
          · rw [i5, (E3 k hk hr).1, (M3 k hk hr).1]
          · rw [i8, (E3 k hk hr).2.2, (M3 k hk hr).2.2]
          · rw [i6 u (by omega), i7 u (by omega), G1 _ _ (by omega) (fun j hj => by omega), G2 _ _ (by omega) (fun j hj => by omega)]
            exact k4 u hu
        · have no : ∀ j, j < n → gRn (fun k => μ.1 (β + (20 + 3 * k)) t) (fun k => μ.1 (β + (19 + 3 * k)) 4) A t j → j ≠ k := fun j _ h e => hr (e ▸ h)
          have i9 : μ2.1 (β + (20 + 3 * k)) t = μ.1 (β + (20 + 3 * k)) t := by
            rw [i5, E1 _ _ (by omega) (by omega) (fun j hj hr2 => by have := no j hj hr2; omega), gU_n (by omega), gU_n (by omega), gU_n (by omega)]
          have i10 : μ2.2.1 (β + (21 + 3 * k)) t = μ.2.1 (β + (21 + 3 * k)) t := by
            rw [i8, E2 _ _ (by omega) (by omega) (by omega) (fun j hj hr2 => by have := no j hj hr2; omega)]
          have i11 : μ2.1 (β + 146) k = μ.1 (β + 146) k := by
            rw [M1 _ _ (fun j hj hr2 => by have := no j hj hr2; omega), gW_n (by omega), gU_n (by omega), gU_n (by omega), gU_n (by omega), Fm _ _ (by omega)]
          have i12 : μ2.2.1 (β + 145) k = μ.2.1 (β + 145) k := by
            rw [M2 _ _ (by omega) (fun j hj hr2 => by have := no j hj hr2; omega), gW_n (by omega), gW_n (by omega)]
            exact F2 145 k (by omega) (fun j hj => by omega)
          refine ⟨fun u hu => ?_, by rw [i9, i11]; exact k2, by rw [i10, i12]; exact k3, fun u hu => ?_⟩
          · by_cases e : u = t
            · subst e
              rw [i9]
              exact k1 u hu
            · rw [i6 u e]
              exact k1 u hu
          · rw [i6 u (by omega), i7 u (by omega), G1 _ _ (by omega) (fun j hj => by omega), G2 _ _ (by omega) (fun j hj => by omega)]
            exact k4 u hu
    refine ⟨fun _ => w45, fun z1 => ⟨fun _ => w45, fun z2 => by omega⟩⟩
