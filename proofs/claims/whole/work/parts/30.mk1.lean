theorem gZ_1 {q a k : Nat} {I : Nat → Nat → Int32} {L : Nat → Nat → Int64} {R : Nat → Nat → Nat} {v : Int32} (h : q ≠ a) (hz : gZn q (I, L, R)) : gZn q (gU I a k v, L, R) := fun j => ⟨by show gU I a k v q j = 0; rw [gU_n (fun z => h z.1)]; exact (hz j).1, (hz j).2⟩
theorem gZ_2 {q a k : Nat} {I : Nat → Nat → Int32} {L : Nat → Nat → Int64} {R : Nat → Nat → Nat} {v : Int64} (h : q ≠ a) (hz : gZn q (I, L, R)) : gZn q (I, gU L a k v, R) := fun j => ⟨(hz j).1, by show gU L a k v q j = 0; rw [gU_n (fun z => h z.1)]; exact (hz j).2.1, (hz j).2.2⟩
theorem gZ_3 {q a k : Nat} {I : Nat → Nat → Int32} {L : Nat → Nat → Int64} {R : Nat → Nat → Nat} {v : Nat} (h : q ≠ a) (hz : gZn q (I, L, R)) : gZn q (I, L, gU R a k v) := fun j => ⟨(hz j).1, (hz j).2.1, by show gU R a k v q j = 0; rw [gU_n (fun z => h z.1)]; exact (hz j).2.2⟩
theorem gUS_n {S : gSh} {n a : Nat} {sh : Nat ⊕ (Nat × Nat)} (h : a ≠ n) : gUS S n sh a = S a := by simp [gUS, h]
theorem gUS_s {S : gSh} {n : Nat} {sh : Nat ⊕ (Nat × Nat)} : gUS S n sh n = some sh := by simp [gUS]
set_option maxRecDepth 20000 in
theorem yy_Plan {h n a : Nat} {S : gSh} {μ : gM} {P : gP2} (h1 : S a = some (.inl 3)) (ha : a < n) (hz : ∀ q, n ≤ q → gZn q μ)
    (hP : P none (gUS S n (.inr (0, 10))) (n + 1) (μ.1, μ.2.1, (gU μ.2.2 a 0 n))) : gRun2 (h + 1) 2 [.ref a] S n μ P := by
  refine r2_X3 (by simp [lg_sl, Value.category]) (fun X hX => ?_)
  refine d_X3_init_0 hX ?_
  simp only [D_X3_init_0, ↓e_gb, ↓e_gb0, ↓e_gb2, ↓e_gb20, ↓e_ic, ↓e_lc, ↓e_null, ↓e_ldI, ↓e_ldL, ↓e_ldA, ↓e_stI, ↓e_stL, ↓e_stA, ↓e_inc, ↓e_iadd, ↓e_isub, ↓e_imul, ↓e_iand, ↓e_ior, ↓e_ixor, ↓e_ishl, ↓e_ishr, ↓e_iushr, ↓e_idiv, ↓e_ineg, ↓e_ladd, ↓e_lsub, ↓e_lmul, ↓e_lor, ↓e_lshl, ↓e_lshr, ↓e_i2l, ↓e_l2i, ↓e_i2b, ↓e_lcmp, ↓e_dup, ↓e_dup2, ↓e_pop, ↓e_ceq, ↓e_cne, ↓e_clt, ↓e_cge, ↓e_cgt, ↓e_cle, ↓e_zeq, ↓e_zne, ↓e_zlt, ↓e_zge, ↓e_zgt, ↓e_zle, ↓e_goto, ↓e_nn, ↓e_retI, ↓e_retL, ↓e_retV, ↓e_retZ, ↓e_retA, ↓e_gfI, ↓e_gfL, ↓e_gfR, ↓e_pfI, ↓e_pfZ, ↓e_pfL, ↓e_pfR, ↓e_iald, ↓e_lald, ↓e_aald, ↓e_alen, ↓e_iast, ↓e_bast, ↓e_zast, ↓e_last, ↓e_aast, ↓e_cV, ↓e_cS, ↓e_gsW, ↓e_gsK, ↓e_mmax, ↓e_mmin, ↓e_mmaxL, ↓e_mminL, ↓e_j_l, ↓e_j_new, ↓e_j_newa, ↓e_j_obj, ↓e_j_cI, gEnt, gPad, gArgs, gGet, gS1, gS2, gCl, gNo, gSp, gCt, gSw, Option.toList, List.cons_append, List.nil_append, Value.category, and_true, true_and, not_false_eq_true, not_true_eq_false, Nat.reduceAdd, Nat.reduceLeDiff, forall_const, Int32.reduceToNatClampNeg, Int32.reduceLT, Nat.zero_add, Nat.add_assoc]
  repeat' apply And.intro
  all_goals first
    | (show @Ne Nat _ _; omega)
    | (show gZn _ _; (repeat refine gZ_3 (by omega) ?_); exact hz _ (by omega))
    | (show gUS _ _ _ _ = _; (repeat refine (gUS_n (by omega)).trans ?_); exact h1)
    | exact hP
set_option maxRecDepth 20000 in
theorem yy_Tape {h n a : Nat} {S : gSh} {μ : gM} {P : gP2} (h1 : S a = some (.inl 7)) (ha : a < n) (hz : ∀ q, n ≤ q → gZn q μ)
    (hP : P none (gUS S n (.inr (2, 2000))) (n + 1) (μ.1, μ.2.1, (gU μ.2.2 a 0 n))) : gRun2 (h + 1) 3 [.ref a] S n μ P := by
  refine r2_X7 (by simp [lg_sl, Value.category]) (fun X hX => ?_)
  refine d_X7_init_0 hX ?_
  simp only [D_X7_init_0, ↓e_gb, ↓e_gb0, ↓e_gb2, ↓e_gb20, ↓e_ic, ↓e_lc, ↓e_null, ↓e_ldI, ↓e_ldL, ↓e_ldA, ↓e_stI, ↓e_stL, ↓e_stA, ↓e_inc, ↓e_iadd, ↓e_isub, ↓e_imul, ↓e_iand, ↓e_ior, ↓e_ixor, ↓e_ishl, ↓e_ishr, ↓e_iushr, ↓e_idiv, ↓e_ineg, ↓e_ladd, ↓e_lsub, ↓e_lmul, ↓e_lor, ↓e_lshl, ↓e_lshr, ↓e_i2l, ↓e_l2i, ↓e_i2b, ↓e_lcmp, ↓e_dup, ↓e_dup2, ↓e_pop, ↓e_ceq, ↓e_cne, ↓e_clt, ↓e_cge, ↓e_cgt, ↓e_cle, ↓e_zeq, ↓e_zne, ↓e_zlt, ↓e_zge, ↓e_zgt, ↓e_zle, ↓e_goto, ↓e_nn, ↓e_retI, ↓e_retL, ↓e_retV, ↓e_retZ, ↓e_retA, ↓e_gfI, ↓e_gfL, ↓e_gfR, ↓e_pfI, ↓e_pfZ, ↓e_pfL, ↓e_pfR, ↓e_iald, ↓e_lald, ↓e_aald, ↓e_alen, ↓e_iast, ↓e_bast, ↓e_zast, ↓e_last, ↓e_aast, ↓e_cV, ↓e_cS, ↓e_gsW, ↓e_gsK, ↓e_mmax, ↓e_mmin, ↓e_mmaxL, ↓e_mminL, ↓e_j_l, ↓e_j_new, ↓e_j_newa, ↓e_j_obj, ↓e_j_cI, gEnt, gPad, gArgs, gGet, gS1, gS2, gCl, gNo, gSp, gCt, gSw, Option.toList, List.cons_append, List.nil_append, Value.category, and_true, true_and, not_false_eq_true, not_true_eq_false, Nat.reduceAdd, Nat.reduceLeDiff, forall_const, Int32.reduceToNatClampNeg, Int32.reduceLT, Nat.zero_add, Nat.add_assoc]
  repeat' apply And.intro
  all_goals first
    | (show @Ne Nat _ _; omega)
    | (show gZn _ _; (repeat refine gZ_3 (by omega) ?_); exact hz _ (by omega))
    | (show gUS _ _ _ _ = _; (repeat refine (gUS_n (by omega)).trans ?_); exact h1)
    | exact hP
set_option maxRecDepth 20000 in
theorem yy_Box {h n a : Nat} {S : gSh} {μ : gM} {P : gP2} (h1 : S a = some (.inl 0)) (ha : a < n) (hz : ∀ q, n ≤ q → gZn q μ)
    (hP : P none (gUS (gUS S n (.inr (0, 400))) (n + 1) (.inr (1, 400))) (n + 2) (μ.1, μ.2.1, (gU (gU μ.2.2 a 12 n) a 13 (n + 1)))) : gRun2 (h + 1) 1 [.ref a] S n μ P := by
  refine r2_X0 (by simp [lg_sl, Value.category]) (fun X hX => ?_)
  refine d_X0_init_0 hX ?_
  simp only [D_X0_init_0, ↓e_gb, ↓e_gb0, ↓e_gb2, ↓e_gb20, ↓e_ic, ↓e_lc, ↓e_null, ↓e_ldI, ↓e_ldL, ↓e_ldA, ↓e_stI, ↓e_stL, ↓e_stA, ↓e_inc, ↓e_iadd, ↓e_isub, ↓e_imul, ↓e_iand, ↓e_ior, ↓e_ixor, ↓e_ishl, ↓e_ishr, ↓e_iushr, ↓e_idiv, ↓e_ineg, ↓e_ladd, ↓e_lsub, ↓e_lmul, ↓e_lor, ↓e_lshl, ↓e_lshr, ↓e_i2l, ↓e_l2i, ↓e_i2b, ↓e_lcmp, ↓e_dup, ↓e_dup2, ↓e_pop, ↓e_ceq, ↓e_cne, ↓e_clt, ↓e_cge, ↓e_cgt, ↓e_cle, ↓e_zeq, ↓e_zne, ↓e_zlt, ↓e_zge, ↓e_zgt, ↓e_zle, ↓e_goto, ↓e_nn, ↓e_retI, ↓e_retL, ↓e_retV, ↓e_retZ, ↓e_retA, ↓e_gfI, ↓e_gfL, ↓e_gfR, ↓e_pfI, ↓e_pfZ, ↓e_pfL, ↓e_pfR, ↓e_iald, ↓e_lald, ↓e_aald, ↓e_alen, ↓e_iast, ↓e_bast, ↓e_zast, ↓e_last, ↓e_aast, ↓e_cV, ↓e_cS, ↓e_gsW, ↓e_gsK, ↓e_mmax, ↓e_mmin, ↓e_mmaxL, ↓e_mminL, ↓e_j_l, ↓e_j_new, ↓e_j_newa, ↓e_j_obj, ↓e_j_cI, gEnt, gPad, gArgs, gGet, gS1, gS2, gCl, gNo, gSp, gCt, gSw, Option.toList, List.cons_append, List.nil_append, Value.category, and_true, true_and, not_false_eq_true, not_true_eq_false, Nat.reduceAdd, Nat.reduceLeDiff, forall_const, Int32.reduceToNatClampNeg, Int32.reduceLT, Nat.zero_add, Nat.add_assoc]
  repeat' apply And.intro
  all_goals first
    | (show @Ne Nat _ _; omega)
    | (show gZn _ _; (repeat refine gZ_3 (by omega) ?_); exact hz _ (by omega))
    | (show gUS _ _ _ _ = _; (repeat refine (gUS_n (by omega)).trans ?_); exact h1)
    | exact hP
set_option maxRecDepth 20000 in
theorem yy_Tokens {h n a : Nat} {S : gSh} {μ : gM} {P : gP2} (h1 : S a = some (.inl 9)) (ha : a < n) (hz : ∀ q, n ≤ q → gZn q μ)
    (hP : P none (gUS (gUS (gUS S n (.inr (0, 401))) (n + 1) (.inr (0, 401))) (n + 2) (.inr (1, 401))) (n + 3) (μ.1, μ.2.1, (gU (gU (gU μ.2.2 a 0 n) a 1 (n + 1)) a 2 (n + 2)))) : gRun2 (h + 1) 4 [.ref a] S n μ P := by
  refine r2_X9 (by simp [lg_sl, Value.category]) (fun X hX => ?_)
  refine d_X9_init_0 hX ?_
  simp only [D_X9_init_0, ↓e_gb, ↓e_gb0, ↓e_gb2, ↓e_gb20, ↓e_ic, ↓e_lc, ↓e_null, ↓e_ldI, ↓e_ldL, ↓e_ldA, ↓e_stI, ↓e_stL, ↓e_stA, ↓e_inc, ↓e_iadd, ↓e_isub, ↓e_imul, ↓e_iand, ↓e_ior, ↓e_ixor, ↓e_ishl, ↓e_ishr, ↓e_iushr, ↓e_idiv, ↓e_ineg, ↓e_ladd, ↓e_lsub, ↓e_lmul, ↓e_lor, ↓e_lshl, ↓e_lshr, ↓e_i2l, ↓e_l2i, ↓e_i2b, ↓e_lcmp, ↓e_dup, ↓e_dup2, ↓e_pop, ↓e_ceq, ↓e_cne, ↓e_clt, ↓e_cge, ↓e_cgt, ↓e_cle, ↓e_zeq, ↓e_zne, ↓e_zlt, ↓e_zge, ↓e_zgt, ↓e_zle, ↓e_goto, ↓e_nn, ↓e_retI, ↓e_retL, ↓e_retV, ↓e_retZ, ↓e_retA, ↓e_gfI, ↓e_gfL, ↓e_gfR, ↓e_pfI, ↓e_pfZ, ↓e_pfL, ↓e_pfR, ↓e_iald, ↓e_lald, ↓e_aald, ↓e_alen, ↓e_iast, ↓e_bast, ↓e_zast, ↓e_last, ↓e_aast, ↓e_cV, ↓e_cS, ↓e_gsW, ↓e_gsK, ↓e_mmax, ↓e_mmin, ↓e_mmaxL, ↓e_mminL, ↓e_j_l, ↓e_j_new, ↓e_j_newa, ↓e_j_obj, ↓e_j_cI, gEnt, gPad, gArgs, gGet, gS1, gS2, gCl, gNo, gSp, gCt, gSw, Option.toList, List.cons_append, List.nil_append, Value.category, and_true, true_and, not_false_eq_true, not_true_eq_false, Nat.reduceAdd, Nat.reduceLeDiff, forall_const, Int32.reduceToNatClampNeg, Int32.reduceLT, Nat.zero_add, Nat.add_assoc]
  repeat' apply And.intro
  all_goals first
    | (show @Ne Nat _ _; omega)
    | (show gZn _ _; (repeat refine gZ_3 (by omega) ?_); exact hz _ (by omega))
    | (show gUS _ _ _ _ = _; (repeat refine (gUS_n (by omega)).trans ?_); exact h1)
    | exact hP
set_option maxRecDepth 20000 in
theorem yy_Laying {h n a : Nat} {S : gSh} {μ : gM} {P : gP2} (h1 : S a = some (.inl 1)) (ha : a < n) (hz : ∀ q, n ≤ q → gZn q μ)
    (hP : P none (gUS (gUS (gUS (gUS (gUS S n (.inr (0, 80))) (n + 1) (.inr (0, 6))) (n + 2) (.inr (0, 6))) (n + 3) (.inr (0, 6))) (n + 4) (.inr (0, 6))) (n + 5) (μ.1, μ.2.1, (gU (gU (gU (gU (gU μ.2.2 a 1 n) a 2 (n + 1)) a 3 (n + 2)) a 4 (n + 3)) a 5 (n + 4)))) : gRun2 (h + 1) 7 [.ref a] S n μ P := by
  refine r2_X1 (by simp [lg_sl, Value.category]) (fun X hX => ?_)
  refine d_X1_init_0 hX ?_
  simp only [D_X1_init_0, ↓e_gb, ↓e_gb0, ↓e_gb2, ↓e_gb20, ↓e_ic, ↓e_lc, ↓e_null, ↓e_ldI, ↓e_ldL, ↓e_ldA, ↓e_stI, ↓e_stL, ↓e_stA, ↓e_inc, ↓e_iadd, ↓e_isub, ↓e_imul, ↓e_iand, ↓e_ior, ↓e_ixor, ↓e_ishl, ↓e_ishr, ↓e_iushr, ↓e_idiv, ↓e_ineg, ↓e_ladd, ↓e_lsub, ↓e_lmul, ↓e_lor, ↓e_lshl, ↓e_lshr, ↓e_i2l, ↓e_l2i, ↓e_i2b, ↓e_lcmp, ↓e_dup, ↓e_dup2, ↓e_pop, ↓e_ceq, ↓e_cne, ↓e_clt, ↓e_cge, ↓e_cgt, ↓e_cle, ↓e_zeq, ↓e_zne, ↓e_zlt, ↓e_zge, ↓e_zgt, ↓e_zle, ↓e_goto, ↓e_nn, ↓e_retI, ↓e_retL, ↓e_retV, ↓e_retZ, ↓e_retA, ↓e_gfI, ↓e_gfL, ↓e_gfR, ↓e_pfI, ↓e_pfZ, ↓e_pfL, ↓e_pfR, ↓e_iald, ↓e_lald, ↓e_aald, ↓e_alen, ↓e_iast, ↓e_bast, ↓e_zast, ↓e_last, ↓e_aast, ↓e_cV, ↓e_cS, ↓e_gsW, ↓e_gsK, ↓e_mmax, ↓e_mmin, ↓e_mmaxL, ↓e_mminL, ↓e_j_l, ↓e_j_new, ↓e_j_newa, ↓e_j_obj, ↓e_j_cI, gEnt, gPad, gArgs, gGet, gS1, gS2, gCl, gNo, gSp, gCt, gSw, Option.toList, List.cons_append, List.nil_append, Value.category, and_true, true_and, not_false_eq_true, not_true_eq_false, Nat.reduceAdd, Nat.reduceLeDiff, forall_const, Int32.reduceToNatClampNeg, Int32.reduceLT, Nat.zero_add, Nat.add_assoc]
  repeat' apply And.intro
  all_goals first
    | (show @Ne Nat _ _; omega)
    | (show gZn _ _; (repeat refine gZ_3 (by omega) ?_); exact hz _ (by omega))
    | (show gUS _ _ _ _ = _; (repeat refine (gUS_n (by omega)).trans ?_); exact h1)
    | exact hP
set_option maxRecDepth 20000 in
theorem yy_Planner {h n a : Nat} {S : gSh} {μ : gM} {P : gP2} (h1 : S a = some (.inl 4)) (ha : a < n) (hz : ∀ q, n ≤ q → gZn q μ)
    (hP : P none (gUS (gUS (gUS (gUS (gUS (gUS (gUS (gUS (gUS (gUS S n (.inr (4, 4))) (n + 1) (.inr (0, 4))) (n + 2) (.inr (4, 4))) (n + 3) (.inr (0, 4))) (n + 4) (.inr (0, 4))) (n + 5) (.inr (0, 160))) (n + 6) (.inr (0, 16))) (n + 7) (.inr (0, 16))) (n + 8) (.inr (1, 2401))) (n + 9) (.inr (1, 2401))) (n + 10) (μ.1, μ.2.1, (gU (gU (gU (gU (gU (gU (gU (gU (gU (gU μ.2.2 a 1 n) a 2 (n + 1)) a 3 (n + 2)) a 4 (n + 3)) a 5 (n + 4)) a 6 (n + 5)) a 7 (n + 6)) a 8 (n + 7)) a 9 (n + 8)) a 10 (n + 9)))) : gRun2 (h + 1) 8 [.ref a] S n μ P := by
  refine r2_X4 (by simp [lg_sl, Value.category]) (fun X hX => ?_)
  refine d_X4_init_0 hX ?_
  simp only [D_X4_init_0, ↓e_gb, ↓e_gb0, ↓e_gb2, ↓e_gb20, ↓e_ic, ↓e_lc, ↓e_null, ↓e_ldI, ↓e_ldL, ↓e_ldA, ↓e_stI, ↓e_stL, ↓e_stA, ↓e_inc, ↓e_iadd, ↓e_isub, ↓e_imul, ↓e_iand, ↓e_ior, ↓e_ixor, ↓e_ishl, ↓e_ishr, ↓e_iushr, ↓e_idiv, ↓e_ineg, ↓e_ladd, ↓e_lsub, ↓e_lmul, ↓e_lor, ↓e_lshl, ↓e_lshr, ↓e_i2l, ↓e_l2i, ↓e_i2b, ↓e_lcmp, ↓e_dup, ↓e_dup2, ↓e_pop, ↓e_ceq, ↓e_cne, ↓e_clt, ↓e_cge, ↓e_cgt, ↓e_cle, ↓e_zeq, ↓e_zne, ↓e_zlt, ↓e_zge, ↓e_zgt, ↓e_zle, ↓e_goto, ↓e_nn, ↓e_retI, ↓e_retL, ↓e_retV, ↓e_retZ, ↓e_retA, ↓e_gfI, ↓e_gfL, ↓e_gfR, ↓e_pfI, ↓e_pfZ, ↓e_pfL, ↓e_pfR, ↓e_iald, ↓e_lald, ↓e_aald, ↓e_alen, ↓e_iast, ↓e_bast, ↓e_zast, ↓e_last, ↓e_aast, ↓e_cV, ↓e_cS, ↓e_gsW, ↓e_gsK, ↓e_mmax, ↓e_mmin, ↓e_mmaxL, ↓e_mminL, ↓e_j_l, ↓e_j_new, ↓e_j_newa, ↓e_j_obj, ↓e_j_cI, gEnt, gPad, gArgs, gGet, gS1, gS2, gCl, gNo, gSp, gCt, gSw, Option.toList, List.cons_append, List.nil_append, Value.category, and_true, true_and, not_false_eq_true, not_true_eq_false, Nat.reduceAdd, Nat.reduceLeDiff, forall_const, Int32.reduceToNatClampNeg, Int32.reduceLT, Nat.zero_add, Nat.add_assoc]
  repeat' apply And.intro
  all_goals first
    | (show @Ne Nat _ _; omega)
    | (show gZn _ _; (repeat refine gZ_3 (by omega) ?_); exact hz _ (by omega))
    | (show gUS _ _ _ _ = _; (repeat refine (gUS_n (by omega)).trans ?_); exact h1)
    | (refine d_X4_init_79 hX ?_
       simp only [D_X4_init_79, ↓e_gb, ↓e_gb0, ↓e_gb2, ↓e_gb20, ↓e_ic, ↓e_lc, ↓e_null, ↓e_ldI, ↓e_ldL, ↓e_ldA, ↓e_stI, ↓e_stL, ↓e_stA, ↓e_inc, ↓e_iadd, ↓e_isub, ↓e_imul, ↓e_iand, ↓e_ior, ↓e_ixor, ↓e_ishl, ↓e_ishr, ↓e_iushr, ↓e_idiv, ↓e_ineg, ↓e_ladd, ↓e_lsub, ↓e_lmul, ↓e_lor, ↓e_lshl, ↓e_lshr, ↓e_i2l, ↓e_l2i, ↓e_i2b, ↓e_lcmp, ↓e_dup, ↓e_dup2, ↓e_pop, ↓e_ceq, ↓e_cne, ↓e_clt, ↓e_cge, ↓e_cgt, ↓e_cle, ↓e_zeq, ↓e_zne, ↓e_zlt, ↓e_zge, ↓e_zgt, ↓e_zle, ↓e_goto, ↓e_nn, ↓e_retI, ↓e_retL, ↓e_retV, ↓e_retZ, ↓e_retA, ↓e_gfI, ↓e_gfL, ↓e_gfR, ↓e_pfI, ↓e_pfZ, ↓e_pfL, ↓e_pfR, ↓e_iald, ↓e_lald, ↓e_aald, ↓e_alen, ↓e_iast, ↓e_bast, ↓e_zast, ↓e_last, ↓e_aast, ↓e_cV, ↓e_cS, ↓e_gsW, ↓e_gsK, ↓e_mmax, ↓e_mmin, ↓e_mmaxL, ↓e_mminL, ↓e_j_l, ↓e_j_new, ↓e_j_newa, ↓e_j_obj, ↓e_j_cI, gEnt, gPad, gArgs, gGet, gS1, gS2, gCl, gNo, gSp, gCt, gSw, Option.toList, List.cons_append, List.nil_append, Value.category, and_true, true_and, not_false_eq_true, not_true_eq_false, Nat.reduceAdd, Nat.reduceLeDiff, forall_const, Int32.reduceToNatClampNeg, Int32.reduceLT, Nat.zero_add, Nat.add_assoc]
       repeat' apply And.intro
       all_goals first
         | (show @Ne Nat _ _; omega)
         | (show gZn _ _; (repeat refine gZ_3 (by omega) ?_); exact hz _ (by omega))
         | (show gUS _ _ _ _ = _; (repeat refine (gUS_n (by omega)).trans ?_); exact h1)
         | exact hP)
