/-! THE TEXT, the reference: with a fault or none -/
theorem eJr_T {β sz : Nat} {K pl vl nm : Nat → Nat} {μ μ' : gM} (f : eJr β μ μ') (h : eT β sz K pl vl nm μ) : eT β sz K pl vl nm μ' := fun p hp => by
  rw [f.1 _ _ (by omega), f.1 _ _ (by omega), f.1 _ _ (by omega), f.2]; exact h p hp
theorem k_mNextM {S : gSh} {h β sd sz : Nat} {rv : Nat → Nat × Nat × Nat × Nat} {K pl vl nm : Nat → Nat} {r : rdR} {C : List (Nat × Nat)} {st : eSt} {μ : gM} {P : gP} (hS : gLS S β) (hR : gPS μ.2.2 β) (hz : dZ sz K) (ht : eT β sz K pl vl nm μ) (hk1 : r.1 = 0 → 1 < K r.2.1) (d : eRs β sd sz rv pl vl r C st μ)
    (hP : ∀ μ', eJr β μ μ' → eRs β sd sz rv pl vl (rb r (fun p => rAc K (K p) p)) C st μ' → P none μ') : gRun S (h + 2) 131 [.ref (β + 110)] μ P := by
  have hsz := hz.2.1
  by_cases e : r.1 = 0
  · have s := d.1 e
    obtain ⟨s1, s2, s3, s4, s5, s6, s7⟩ := id s
    refine k_mNextT hS hR hsz ht s2 s4 s1 (fun c4 => ?_) (fun c4 => ?_)
    · obtain ⟨y1, y2⟩ := eB_fl (f := 2) (v := nI (pl r.2.1)) hsz (by omega) (by omega) s
      refine hP _ y2 ?_
      have ea : rAc K (K r.2.1) r.2.1 = (2, r.2.1, []) := by unfold rAc; rw [if_neg (fun z => z rfl), if_pos c4]
      rw [rb_p0 e, ea]
      exact ⟨fun z => by simp at z, fun _ => y1⟩
    · obtain ⟨y1, y2⟩ := eB_nx (dZ_nx hz s1 (hk1 e) c4) s
      refine hP _ y2 ?_
      have ea : rAc K (K r.2.1) r.2.1 = (0, r.2.1 + 1, []) := by unfold rAc; rw [if_neg (fun z => z rfl), if_neg (by omega)]
      rw [rb_p0 e, ea]
      exact ⟨fun _ => y1, fun z => absurd rfl z⟩
  · obtain ⟨y1, y2, y3, y4, p, y5, y6⟩ := id (d.2 e)
    refine k_mNextF hS hR y6 y3 y1 y2 y5 (fun p' hp' => hP _ ⟨fun a i w => by dsimp only; rw [gU_n (by omega)], rfl⟩ ?_)
    rw [rb_px e]
    refine ⟨fun z => absurd z e, fun _ => ⟨y1, y2, ?_, ?_, p', hp', gU_s⟩⟩
    · dsimp only; rw [gU_n (by omega)]; exact y3
    · dsimp only; rw [gU_n (by omega)]; exact y4
theorem k_mExprM {S : gSh} {h β sd sz q0 : Nat} {rv : Nat → Nat × Nat × Nat × Nat} {K pl vl nm : Nat → Nat} {Ev : gM → Prop} {r : rdR} {C : List (Nat × Nat)} {st : eSt} {μ : gM} {P : gP} (hS : gLS S β) (hR : gPS μ.2.2 β) (hsd : sd < 2) (hz : dZ sz K) (ht : eT β sz K pl vl nm μ) (hk : ∀ p, K p = 0 ∨ K p = 1 ∨ K p = 2 ∨ K p = 3 ∨ (4 ≤ K p ∧ K p ≤ 10) ∨ cS (K p)) (hnm : eNm S β sd sz rv K pl vl nm Ev q0 (h + 3)) (hEf : ∀ μ μ', eFr β sd μ μ' → Ev μ → Ev μ') (hEv : Ev μ) (hq0 : r.1 = 0 → q0 ≤ r.2.1) (d : eRs β sd sz rv pl vl r C st μ)
    (hP : ∀ μ', eFr β sd μ μ' → ((rb r (rd K 1700 0 0)).1 = 0 → eB β sd sz rv vl (rb r (rd K 1700 0 0)).2.1 (C ++ (rd K 1700 0 0 r.2.1).2.2) ((rd K 1700 0 0 r.2.1).2.2.foldl (eA rv pl) st) μ') → ((rb r (rd K 1700 0 0)).1 ≠ 0 → eY β (rb r (rd K 1700 0 0)).1 (nI (pl (rb r (rd K 1700 0 0)).2.1)) μ') → P none μ') : gRun S (h + 4) 144 [.ref (β + 110)] μ P := by
  by_cases e : r.1 = 0
  · rw [rb_p0 e] at hP
    exact k_mExpression hS hR hsd hz ht hk hnm (hq0 e) hEf hEv (d.1 e) (fun μ' f e1 s1 => hP μ' f (fun _ => s1) (fun z => absurd e1 z)) (fun μ' f e1 y1 => hP μ' f (fun z => absurd z e1) (fun _ => y1))
  · rw [rb_px e] at hP
    obtain ⟨y1, y2, y3, y4, p, y5, y6⟩ := id (d.2 e)
    have g : ¬ r.1 = 0 := e
    refine r_X11_expression (by simp [lg_sl, Value.category]) (fun X hX => ?_)
    refine b_X11_expression_0 hX ?_
    simp (disch := omega) only [B_X11_expression_0, ↓n_gb, ↓n_gb0, ↓n_ic, ↓n_icm, ↓n_lc, ↓e_lc, ↓e_null, ↓e_ldI, ↓e_ldL, ↓e_ldA, ↓e_stI, ↓e_stL, ↓e_stA, ↓n_inc, ↓n_incm1, ↓n_incm8, ↓e_iadd, ↓e_isub, ↓e_imul, ↓e_iand, ↓e_ior, ↓e_ixor, ↓n_ishl, ↓n_ishr, ↓e_iushr, ↓n_idiv, ↓e_ineg, ↓e_ladd, ↓e_lsub, ↓e_lmul, ↓e_lor, ↓e_lshl, ↓e_lshr, ↓e_i2l, ↓e_l2i, ↓e_i2b, ↓e_lcmp, ↓e_dup, ↓e_dup2, ↓e_pop, ↓e_ceq, ↓e_cne, ↓e_clt, ↓e_cge, ↓e_cgt, ↓e_cle, ↓n_zeq, ↓n_zne, ↓n_zlt, ↓n_zge, ↓n_zgt, ↓n_zle, ↓e_goto, ↓e_nn, ↓e_retI, ↓e_retL, ↓e_retV, ↓n_retZ, ↓e_retA, ↓e_gfI, ↓e_gfL, ↓e_gfR, ↓e_pfI, ↓n_pfZ, ↓e_pfL, ↓e_pfR, ↓e_iald, ↓e_lald, ↓e_aald, ↓e_alen, ↓e_iast, ↓e_bast, ↓n_zast, ↓e_last, ↓e_aast, ↓e_cV, ↓e_cS, ↓e_gsW, ↓e_gsK, ↓e_mmax, ↓e_mmin, ↓e_mmaxL, ↓e_mminL, gEnt, gPad, gArgs, gGet, gS1, gS2, gCl, gNo, gSp, gCt, n_sw, n_gSw, n_gSw0, Option.toList, List.cons_append, List.nil_append, Value.category, and_true, true_and, and_self, not_false_eq_true, not_true_eq_false, Nat.reduceAdd, Nat.reduceSub, Nat.reduceMul, Nat.reduceLeDiff, Nat.reduceLT, Nat.reduceEqDiff, forall_const, true_implies, false_implies, implies_true, Nat.zero_add, Option.some.injEq, Sum.inr.injEq, Sum.inl.injEq, Prod.mk.injEq, exists_eq_left', exists_eq_left, w_ne0, nI_add, w_lt, w_le, w_eq, w_meq, w_eqm, w_mlt, w_ltm, w_mle, w_lem, w_clamp, w_in, w_31, w_ite0, w_ite1, w_ite01, true_or, or_true, false_or, or_false, Nat.le_refl, Nat.lt_irrefl, S_110 hS, S_113 hS, S_115 hS, S_134 hS, R_110_5 hR, R_110_7 hR, R_110_39 hR]
    have y3' : gU μ.1 (β + 110) 40 (nI 0) (β + 110) 13 = nI r.1 := by rw [gU_n (by omega)]; exact y3
    refine b_X11_expression_7 hX ?_
    simp (disch := omega) only [B_X11_expression_7, ↓n_gb, ↓n_gb0, ↓n_ic, ↓n_icm, ↓n_lc, ↓e_lc, ↓e_null, ↓e_ldI, ↓e_ldL, ↓e_ldA, ↓e_stI, ↓e_stL, ↓e_stA, ↓n_inc, ↓n_incm1, ↓n_incm8, ↓e_iadd, ↓e_isub, ↓e_imul, ↓e_iand, ↓e_ior, ↓e_ixor, ↓n_ishl, ↓n_ishr, ↓e_iushr, ↓n_idiv, ↓e_ineg, ↓e_ladd, ↓e_lsub, ↓e_lmul, ↓e_lor, ↓e_lshl, ↓e_lshr, ↓e_i2l, ↓e_l2i, ↓e_i2b, ↓e_lcmp, ↓e_dup, ↓e_dup2, ↓e_pop, ↓e_ceq, ↓e_cne, ↓e_clt, ↓e_cge, ↓e_cgt, ↓e_cle, ↓n_zeq, ↓n_zne, ↓n_zlt, ↓n_zge, ↓n_zgt, ↓n_zle, ↓e_goto, ↓e_nn, ↓e_retI, ↓e_retL, ↓e_retV, ↓n_retZ, ↓e_retA, ↓e_gfI, ↓e_gfL, ↓e_gfR, ↓e_pfI, ↓n_pfZ, ↓e_pfL, ↓e_pfR, ↓e_iald, ↓e_lald, ↓e_aald, ↓e_alen, ↓e_iast, ↓e_bast, ↓n_zast, ↓e_last, ↓e_aast, ↓e_cV, ↓e_cS, ↓e_gsW, ↓e_gsK, ↓e_mmax, ↓e_mmin, ↓e_mmaxL, ↓e_mminL, gEnt, gPad, gArgs, gGet, gS1, gS2, gCl, gNo, gSp, gCt, n_sw, n_gSw, n_gSw0, Option.toList, List.cons_append, List.nil_append, Value.category, and_true, true_and, and_self, not_false_eq_true, not_true_eq_false, Nat.reduceAdd, Nat.reduceSub, Nat.reduceMul, Nat.reduceLeDiff, Nat.reduceLT, Nat.reduceEqDiff, forall_const, true_implies, false_implies, implies_true, Nat.zero_add, Option.some.injEq, Sum.inr.injEq, Sum.inl.injEq, Prod.mk.injEq, exists_eq_left', exists_eq_left, w_ne0, nI_add, w_lt, w_le, w_eq, w_meq, w_eqm, w_mlt, w_ltm, w_mle, w_lem, w_clamp, w_in, w_31, w_ite0, w_ite1, w_ite01, true_or, or_true, false_or, or_false, Nat.le_refl, Nat.lt_irrefl, S_110 hS, S_113 hS, S_115 hS, S_134 hS, R_110_5 hR, R_110_7 hR, R_110_39 hR, y3', g]
    refine b_X11_expression_409 hX ?_
    simp (disch := omega) only [B_X11_expression_409, ↓n_gb, ↓n_gb0, ↓n_ic, ↓n_icm, ↓n_lc, ↓e_lc, ↓e_null, ↓e_ldI, ↓e_ldL, ↓e_ldA, ↓e_stI, ↓e_stL, ↓e_stA, ↓n_inc, ↓n_incm1, ↓n_incm8, ↓e_iadd, ↓e_isub, ↓e_imul, ↓e_iand, ↓e_ior, ↓e_ixor, ↓n_ishl, ↓n_ishr, ↓e_iushr, ↓n_idiv, ↓e_ineg, ↓e_ladd, ↓e_lsub, ↓e_lmul, ↓e_lor, ↓e_lshl, ↓e_lshr, ↓e_i2l, ↓e_l2i, ↓e_i2b, ↓e_lcmp, ↓e_dup, ↓e_dup2, ↓e_pop, ↓e_ceq, ↓e_cne, ↓e_clt, ↓e_cge, ↓e_cgt, ↓e_cle, ↓n_zeq, ↓n_zne, ↓n_zlt, ↓n_zge, ↓n_zgt, ↓n_zle, ↓e_goto, ↓e_nn, ↓e_retI, ↓e_retL, ↓e_retV, ↓n_retZ, ↓e_retA, ↓e_gfI, ↓e_gfL, ↓e_gfR, ↓e_pfI, ↓n_pfZ, ↓e_pfL, ↓e_pfR, ↓e_iald, ↓e_lald, ↓e_aald, ↓e_alen, ↓e_iast, ↓e_bast, ↓n_zast, ↓e_last, ↓e_aast, ↓e_cV, ↓e_cS, ↓e_gsW, ↓e_gsK, ↓e_mmax, ↓e_mmin, ↓e_mmaxL, ↓e_mminL, gEnt, gPad, gArgs, gGet, gS1, gS2, gCl, gNo, gSp, gCt, n_sw, n_gSw, n_gSw0, Option.toList, List.cons_append, List.nil_append, Value.category, and_true, true_and, and_self, not_false_eq_true, not_true_eq_false, Nat.reduceAdd, Nat.reduceSub, Nat.reduceMul, Nat.reduceLeDiff, Nat.reduceLT, Nat.reduceEqDiff, forall_const, true_implies, false_implies, implies_true, Nat.zero_add, Option.some.injEq, Sum.inr.injEq, Sum.inl.injEq, Prod.mk.injEq, exists_eq_left', exists_eq_left, w_ne0, nI_add, w_lt, w_le, w_eq, w_meq, w_eqm, w_mlt, w_ltm, w_mle, w_lem, w_clamp, w_in, w_31, w_ite0, w_ite1, w_ite01, true_or, or_true, false_or, or_false, Nat.le_refl, Nat.lt_irrefl, S_110 hS, S_113 hS, S_115 hS, S_134 hS, R_110_5 hR, R_110_7 hR, R_110_39 hR]
    refine hP _ ⟨fun a i x y z => by dsimp only; rw [gU_n (by omega)], rfl⟩ (fun z => absurd z e) (fun _ => ⟨y1, y2, y3', ?_, p, y5, ?_⟩)
    · dsimp only; rw [gU_n (by omega)]; exact y4
    · dsimp only; rw [gU_n (by omega)]; exact y6
