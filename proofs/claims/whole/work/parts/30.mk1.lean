theorem gZ_1 {q a k : Nat} {I : Nat → Nat → Int32} {L : Nat → Nat → Int64} {R : Nat → Nat → Nat} {v : Int32} (h : q ≠ a) (hz : gZn q (I, L, R)) : gZn q (gU I a k v, L, R) := fun j => ⟨by show gU I a k v q j = 0; rw [gU_n (fun z => h z.1)]; exact (hz j).1, (hz j).2⟩
theorem gZ_2 {q a k : Nat} {I : Nat → Nat → Int32} {L : Nat → Nat → Int64} {R : Nat → Nat → Nat} {v : Int64} (h : q ≠ a) (hz : gZn q (I, L, R)) : gZn q (I, gU L a k v, R) := fun j => ⟨(hz j).1, by show gU L a k v q j = 0; rw [gU_n (fun z => h z.1)]; exact (hz j).2.1, (hz j).2.2⟩
theorem gZ_3 {q a k : Nat} {I : Nat → Nat → Int32} {L : Nat → Nat → Int64} {R : Nat → Nat → Nat} {v : Nat} (h : q ≠ a) (hz : gZn q (I, L, R)) : gZn q (I, L, gU R a k v) := fun j => ⟨(hz j).1, (hz j).2.1, by show gU R a k v q j = 0; rw [gU_n (fun z => h z.1)]; exact (hz j).2.2⟩
theorem gUS_n {S : gSh} {n a : Nat} {sh : Nat ⊕ (Nat × Nat)} (h : a ≠ n) : gUS S n sh a = S a := by simp [gUS, h]
theorem gUS_s {S : gSh} {n : Nat} {sh : Nat ⊕ (Nat × Nat)} : gUS S n sh n = some sh := by simp [gUS]
set_option maxRecDepth 20000 in
theorem yy_Plan {h n a : Nat} {S : gSh} {μ : gM} {P : gP2} (h1 : S a = some (.inl 3)) (ha : a < n) (hz : ∀ q, n ≤ q → gZn q μ)
    (hP : P none (gUS S n (.inr (0, 10))) (n + 1) (μ.1, μ.2.1, (gU μ.2.2 a 0 n))) : gRun2 (h + 1) 2 [.ref a] S n μ P := by
  refine r2_X3 (by simp [lg_sl, Value.category]) (fun X hX => ?_)
  refine d_X3_init_0 hX ?_
  simp only [D_X3_init_0, gb, gEnt, gPad, gArgs, gGet, gS1, gS2, gCl, gNo, gSp, gCt, gSw, i_ic, i_lc, i_null, i_ldI, i_ldL, i_ldA, i_stI, i_stL, i_stA, i_inc, i_iadd, i_isub, i_imul, i_iand, i_ior, i_ixor, i_ishl, i_ishr, i_iushr, i_idiv, i_ineg, i_ladd, i_lsub, i_lmul, i_lor, i_lshl, i_lshr, i_i2l, i_l2i, i_i2b, i_lcmp, i_dup, i_dup2, i_pop, i_ceq, i_cne, i_clt, i_cge, i_cgt, i_cle, i_zeq, i_zne, i_zlt, i_zge, i_zgt, i_zle, i_goto, i_nn, i_retI, i_retL, i_retV, i_retZ, i_retA, i_gfI, i_gfL, i_gfR, i_pfI, i_pfZ, i_pfL, i_pfR, i_iald, i_lald, i_aald, i_alen, i_iast, i_bast, i_zast, i_last, i_aast, i_cV, i_cS, i_gsW, i_gsK, i_sw, i_mmax, i_mmin, i_mmaxL, i_mminL, Option.toList, List.cons_append, List.nil_append, Value.category, and_true, true_and, not_false_eq_true, not_true_eq_false, Nat.reduceAdd, Nat.reduceLeDiff, forall_const, gb2, j_l, j_new, j_newa, j_obj, j_cI, Int32.reduceToNatClampNeg, Int32.reduceLT, Nat.zero_add, Nat.add_assoc]
  repeat' apply And.intro
  all_goals first
    | (show @Ne Nat _ _; omega)
    | (show gZn _ _; (repeat refine gZ_3 (by omega) ?_); exact hz _ (by omega))
    | (show gUS _ _ _ _ = _; (repeat refine (gUS_n (by omega)).trans ?_); exact h1)
    | exact hP
set_option maxRecDepth 20000 in
theorem yy_Tape {h n a : Nat} {S : gSh} {μ : gM} {P : gP2} (h1 : S a = some (.inl 7)) (ha : a < n) (hz : ∀ q, n ≤ q → gZn q μ)
    (hP : P none (gUS S n (.inr (2, 2000))) (n + 1) (μ.1, μ.2.1, (gU μ.2.2 a 0 n))) : gRun2 (h + 1) 3 [.ref a] S n μ P := by
  refine r2_X7 (by simp [lg_sl, Value.category]) (fun X hX => ?_)
  refine d_X7_init_0 hX ?_
  simp only [D_X7_init_0, gb, gEnt, gPad, gArgs, gGet, gS1, gS2, gCl, gNo, gSp, gCt, gSw, i_ic, i_lc, i_null, i_ldI, i_ldL, i_ldA, i_stI, i_stL, i_stA, i_inc, i_iadd, i_isub, i_imul, i_iand, i_ior, i_ixor, i_ishl, i_ishr, i_iushr, i_idiv, i_ineg, i_ladd, i_lsub, i_lmul, i_lor, i_lshl, i_lshr, i_i2l, i_l2i, i_i2b, i_lcmp, i_dup, i_dup2, i_pop, i_ceq, i_cne, i_clt, i_cge, i_cgt, i_cle, i_zeq, i_zne, i_zlt, i_zge, i_zgt, i_zle, i_goto, i_nn, i_retI, i_retL, i_retV, i_retZ, i_retA, i_gfI, i_gfL, i_gfR, i_pfI, i_pfZ, i_pfL, i_pfR, i_iald, i_lald, i_aald, i_alen, i_iast, i_bast, i_zast, i_last, i_aast, i_cV, i_cS, i_gsW, i_gsK, i_sw, i_mmax, i_mmin, i_mmaxL, i_mminL, Option.toList, List.cons_append, List.nil_append, Value.category, and_true, true_and, not_false_eq_true, not_true_eq_false, Nat.reduceAdd, Nat.reduceLeDiff, forall_const, gb2, j_l, j_new, j_newa, j_obj, j_cI, Int32.reduceToNatClampNeg, Int32.reduceLT, Nat.zero_add, Nat.add_assoc]
  repeat' apply And.intro
  all_goals first
    | (show @Ne Nat _ _; omega)
    | (show gZn _ _; (repeat refine gZ_3 (by omega) ?_); exact hz _ (by omega))
    | (show gUS _ _ _ _ = _; (repeat refine (gUS_n (by omega)).trans ?_); exact h1)
    | exact hP
set_option maxRecDepth 20000 in
theorem yy_Box {h n a : Nat} {S : gSh} {μ : gM} {P : gP2} (h1 : S a = some (.inl 0)) (ha : a < n) (hz : ∀ q, n ≤ q → gZn q μ)
    (hP : P none (gUS (gUS S n (.inr (0, 400))) (n + 1) (.inr (1, 400))) (n + 2) (μ.1, μ.2.1, (gU (gU μ.2.2 a 12 n) a 13 (n + 1)))) : gRun2 (h + 1) 1 [.ref a] S n μ P := by
  refine r2_X0 (by simp [lg_sl, Value.category]) (fun X hX => ?_)
  refine d_X0_init_0 hX ?_
  simp only [D_X0_init_0, gb, gEnt, gPad, gArgs, gGet, gS1, gS2, gCl, gNo, gSp, gCt, gSw, i_ic, i_lc, i_null, i_ldI, i_ldL, i_ldA, i_stI, i_stL, i_stA, i_inc, i_iadd, i_isub, i_imul, i_iand, i_ior, i_ixor, i_ishl, i_ishr, i_iushr, i_idiv, i_ineg, i_ladd, i_lsub, i_lmul, i_lor, i_lshl, i_lshr, i_i2l, i_l2i, i_i2b, i_lcmp, i_dup, i_dup2, i_pop, i_ceq, i_cne, i_clt, i_cge, i_cgt, i_cle, i_zeq, i_zne, i_zlt, i_zge, i_zgt, i_zle, i_goto, i_nn, i_retI, i_retL, i_retV, i_retZ, i_retA, i_gfI, i_gfL, i_gfR, i_pfI, i_pfZ, i_pfL, i_pfR, i_iald, i_lald, i_aald, i_alen, i_iast, i_bast, i_zast, i_last, i_aast, i_cV, i_cS, i_gsW, i_gsK, i_sw, i_mmax, i_mmin, i_mmaxL, i_mminL, Option.toList, List.cons_append, List.nil_append, Value.category, and_true, true_and, not_false_eq_true, not_true_eq_false, Nat.reduceAdd, Nat.reduceLeDiff, forall_const, gb2, j_l, j_new, j_newa, j_obj, j_cI, Int32.reduceToNatClampNeg, Int32.reduceLT, Nat.zero_add, Nat.add_assoc]
  repeat' apply And.intro
  all_goals first
    | (show @Ne Nat _ _; omega)
    | (show gZn _ _; (repeat refine gZ_3 (by omega) ?_); exact hz _ (by omega))
    | (show gUS _ _ _ _ = _; (repeat refine (gUS_n (by omega)).trans ?_); exact h1)
    | exact hP
set_option maxRecDepth 20000 in
theorem yy_Tokens {h n a : Nat} {S : gSh} {μ : gM} {P : gP2} (h1 : S a = some (.inl 9)) (ha : a < n) (hz : ∀ q, n ≤ q → gZn q μ)
    (hP : P none (gUS (gUS (gUS S n (.inr (0, 401))) (n + 1) (.inr (0, 401))) (n + 2) (.inr (1, 401))) (n + 3) (μ.1, μ.2.1, (gU (gU (gU μ.2.2 a 0 n) a 1 (n + 1)) a 2 (n + 2)))) : gRun2 (h + 1) 4 [.ref a] S n μ P := by
  refine r2_X9 (by simp [lg_sl, Value.category]) (fun X hX => ?_)
  refine d_X9_init_0 hX ?_
  simp only [D_X9_init_0, gb, gEnt, gPad, gArgs, gGet, gS1, gS2, gCl, gNo, gSp, gCt, gSw, i_ic, i_lc, i_null, i_ldI, i_ldL, i_ldA, i_stI, i_stL, i_stA, i_inc, i_iadd, i_isub, i_imul, i_iand, i_ior, i_ixor, i_ishl, i_ishr, i_iushr, i_idiv, i_ineg, i_ladd, i_lsub, i_lmul, i_lor, i_lshl, i_lshr, i_i2l, i_l2i, i_i2b, i_lcmp, i_dup, i_dup2, i_pop, i_ceq, i_cne, i_clt, i_cge, i_cgt, i_cle, i_zeq, i_zne, i_zlt, i_zge, i_zgt, i_zle, i_goto, i_nn, i_retI, i_retL, i_retV, i_retZ, i_retA, i_gfI, i_gfL, i_gfR, i_pfI, i_pfZ, i_pfL, i_pfR, i_iald, i_lald, i_aald, i_alen, i_iast, i_bast, i_zast, i_last, i_aast, i_cV, i_cS, i_gsW, i_gsK, i_sw, i_mmax, i_mmin, i_mmaxL, i_mminL, Option.toList, List.cons_append, List.nil_append, Value.category, and_true, true_and, not_false_eq_true, not_true_eq_false, Nat.reduceAdd, Nat.reduceLeDiff, forall_const, gb2, j_l, j_new, j_newa, j_obj, j_cI, Int32.reduceToNatClampNeg, Int32.reduceLT, Nat.zero_add, Nat.add_assoc]
  repeat' apply And.intro
  all_goals first
    | (show @Ne Nat _ _; omega)
    | (show gZn _ _; (repeat refine gZ_3 (by omega) ?_); exact hz _ (by omega))
    | (show gUS _ _ _ _ = _; (repeat refine (gUS_n (by omega)).trans ?_); exact h1)
    | exact hP
set_option maxRecDepth 20000 in
theorem yy_Laying {h n a : Nat} {S : gSh} {μ : gM} {P : gP2} (h1 : S a = some (.inl 1)) (ha : a < n) (hz : ∀ q, n ≤ q → gZn q μ)
    (hP : P none (gUS (gUS (gUS (gUS (gUS S n (.inr (0, 80))) (n + 1) (.inr (0, 6))) (n + 2) (.inr (0, 6))) (n + 3) (.inr (0, 6))) (n + 4) (.inr (0, 6))) (n + 5) (μ.1, μ.2.1, (gU (gU (gU (gU (gU μ.2.2 a 1 n) a 2 (n + 1)) a 3 (n + 2)) a 4 (n + 3)) a 5 (n + 4)))) : gRun2 (h + 1) 7 [.ref a] S n μ P := by
  refine r2_X1 (by simp [lg_sl, Value.category]) (fun X hX => ?_)
  refine d_X1_init_0 hX ?_
  simp only [D_X1_init_0, gb, gEnt, gPad, gArgs, gGet, gS1, gS2, gCl, gNo, gSp, gCt, gSw, i_ic, i_lc, i_null, i_ldI, i_ldL, i_ldA, i_stI, i_stL, i_stA, i_inc, i_iadd, i_isub, i_imul, i_iand, i_ior, i_ixor, i_ishl, i_ishr, i_iushr, i_idiv, i_ineg, i_ladd, i_lsub, i_lmul, i_lor, i_lshl, i_lshr, i_i2l, i_l2i, i_i2b, i_lcmp, i_dup, i_dup2, i_pop, i_ceq, i_cne, i_clt, i_cge, i_cgt, i_cle, i_zeq, i_zne, i_zlt, i_zge, i_zgt, i_zle, i_goto, i_nn, i_retI, i_retL, i_retV, i_retZ, i_retA, i_gfI, i_gfL, i_gfR, i_pfI, i_pfZ, i_pfL, i_pfR, i_iald, i_lald, i_aald, i_alen, i_iast, i_bast, i_zast, i_last, i_aast, i_cV, i_cS, i_gsW, i_gsK, i_sw, i_mmax, i_mmin, i_mmaxL, i_mminL, Option.toList, List.cons_append, List.nil_append, Value.category, and_true, true_and, not_false_eq_true, not_true_eq_false, Nat.reduceAdd, Nat.reduceLeDiff, forall_const, gb2, j_l, j_new, j_newa, j_obj, j_cI, Int32.reduceToNatClampNeg, Int32.reduceLT, Nat.zero_add, Nat.add_assoc]
  repeat' apply And.intro
  all_goals first
    | (show @Ne Nat _ _; omega)
    | (show gZn _ _; (repeat refine gZ_3 (by omega) ?_); exact hz _ (by omega))
    | (show gUS _ _ _ _ = _; (repeat refine (gUS_n (by omega)).trans ?_); exact h1)
    | exact hP
