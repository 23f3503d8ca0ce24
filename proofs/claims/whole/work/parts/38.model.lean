/-- the shapes of all that GaugeWallModel() makes -/
abbrev gLM : List (Nat ⊕ (Nat × Nat)) := [.inr (2, 2000), .inr (2, 2000), .inr (0, 403), .inr (0, 403), .inr (0, 403), .inr (1, 403), .inr (1, 16), .inr (0, 2), .inr (0, 2), .inr (1, 24), .inr (0, 24), .inr (0, 24), .inr (0, 24), .inr (1, 12), .inr (0, 12), .inr (0, 12), .inr (0, 12), .inr (0, 12), .inr (0, 12), .inr (0, 12), .inr (0, 12), .inr (0, 1000), .inr (0, 1000), .inr (0, 64), .inr (0, 6), .inr (0, 400), .inr (0, 400), .inr (0, 400), .inr (0, 40), .inr (0, 40), .inr (0, 40), .inr (0, 6), .inr (1, 12), .inr (1, 500), .inr (1, 6), .inr (0, 6), .inr (0, 6), .inr (1, 2400), .inr (0, 2400), .inr (0, 6), .inr (0, 6), .inr (0, 10), .inr (0, 45056), .inr (0, 45056), .inr (0, 4), .inr (3, 45056), .inr (0, 64), .inr (0, 64), .inr (3, 6), .inr (0, 6), .inr (0, 6), .inr (0, 6), .inr (0, 6), .inr (0, 6), .inr (0, 6), .inr (0, 6), .inr (0, 100)]
set_option maxRecDepth 100000 in
set_option maxHeartbeats 2000000 in
theorem yy_Model_a {h n a : Nat} {S : gSh} {μ : gM} {P : gP2} {X : Nat → gK2} (hX : gClo2 Q_X11_init (fun S => gRun S h) (gRun2 h) 57 150020 P X) (h1 : S a = some (.inl 11)) (ha : a < n) (hz : ∀ q, n ≤ q → gZn q μ)
    (hE : ∀ R, R = (gU (gU (gU (gU (gU (gU (gU (gU (gU (gU (gU (gU (gU (gU (gU (gU (gU (gU (gU (gU (gU (gU (gU (gU (gU (gU (gU (gU (gU (gU (gU (gU (gU (gU (gU (gU (gU (gU (gU (gU (gU (gU (gU (gU (gU (gU (gU (gU (gU (gU (gU (gU (gU (gU (gU (gU (gU μ.2.2 a 1 n) a 3 (n + 1)) a 5 (n + 2)) a 6 (n + 3)) a 7 (n + 4)) a 8 (n + 5)) a 9 (n + 6)) a 20 (n + 7)) a 21 (n + 8)) a 22 (n + 9)) a 23 (n + 10)) a 24 (n + 11)) a 25 (n + 12)) a 26 (n + 13)) a 27 (n + 14)) a 28 (n + 15)) a 29 (n + 16)) a 30 (n + 17)) a 31 (n + 18)) a 32 (n + 19)) a 33 (n + 20)) a 35 (n + 21)) a 36 (n + 22)) a 39 (n + 23)) a 41 (n + 24)) a 44 (n + 25)) a 45 (n + 26)) a 46 (n + 27)) a 48 (n + 28)) a 49 (n + 29)) a 50 (n + 30)) a 55 (n + 31)) a 56 (n + 32)) a 57 (n + 33)) a 58 (n + 34)) a 59 (n + 35)) a 60 (n + 36)) a 61 (n + 37)) a 62 (n + 38)) a 63 (n + 39)) a 64 (n + 40)) a 69 (n + 41)) a 70 (n + 42)) a 71 (n + 43)) a 73 (n + 44)) a 74 (n + 45)) a 75 (n + 46)) a 76 (n + 47)) a 77 (n + 48)) a 78 (n + 49)) a 79 (n + 50)) a 81 (n + 51)) a 82 (n + 52)) a 83 (n + 53)) a 84 (n + 54)) a 85 (n + 55)) a 86 (n + 56)) → X 488 (gX gLM S n, n + 57, 57, 150020) (gU μ.1 a 17 (-1), μ.2.1, R) [some (.ref a), none] [.int 0, .int 116, .int 101, .int 108, .int 0, .ref (R a 9)]) : X 0 (S, n, 0, 0) μ [some (.ref a), none] [] := by
  refine d_X11_init_0 hX ?_
  simp only [D_X11_init_0, ↓e_gb, ↓e_gb0, ↓e_gb2, ↓e_gb20, ↓e_ic, ↓e_lc, ↓e_null, ↓e_ldI, ↓e_ldL, ↓e_ldA, ↓e_stI, ↓e_stL, ↓e_stA, ↓e_inc, ↓e_iadd, ↓e_isub, ↓e_imul, ↓e_iand, ↓e_ior, ↓e_ixor, ↓e_ishl, ↓e_ishr, ↓e_iushr, ↓e_idiv, ↓e_ineg, ↓e_ladd, ↓e_lsub, ↓e_lmul, ↓e_lor, ↓e_lshl, ↓e_lshr, ↓e_i2l, ↓e_l2i, ↓e_i2b, ↓e_lcmp, ↓e_dup, ↓e_dup2, ↓e_pop, ↓e_ceq, ↓e_cne, ↓e_clt, ↓e_cge, ↓e_cgt, ↓e_cle, ↓e_zeq, ↓e_zne, ↓e_zlt, ↓e_zge, ↓e_zgt, ↓e_zle, ↓e_goto, ↓e_nn, ↓e_retI, ↓e_retL, ↓e_retV, ↓e_retZ, ↓e_retA, ↓e_gfI, ↓e_gfL, ↓e_gfR, ↓e_pfI, ↓e_pfZ, ↓e_pfL, ↓e_pfR, ↓e_iald, ↓e_lald, ↓e_aald, ↓e_alen, ↓e_iast, ↓e_bast, ↓e_zast, ↓e_last, ↓e_aast, ↓e_cV, ↓e_cS, ↓e_gsW, ↓e_gsK, ↓e_mmax, ↓e_mmin, ↓e_mmaxL, ↓e_mminL, ↓e_j_l, ↓e_j_new, ↓e_j_newa, ↓e_j_obj, ↓e_j_cI, gEnt, gPad, gArgs, gGet, gS1, gS2, gCl, gNo, gSp, gCt, gSw, Option.toList, List.cons_append, List.nil_append, Value.category, and_true, true_and, not_false_eq_true, not_true_eq_false, Nat.reduceAdd, Nat.reduceLeDiff, forall_const, Int32.reduceToNatClampNeg, Int32.reduceLT, Nat.zero_add, Nat.add_assoc]
  repeat' apply And.intro
  all_goals first
    | (show @Ne Nat _ _; omega)
    | (show gZn _ _; (repeat (first | ((with_reducible refine gZ_3 ?_ ?_); focus omega) | ((with_reducible refine gZ_1 ?_ ?_); focus omega))); exact hz _ (by omega))
    | (show gUS _ _ _ _ = _; (repeat refine (gUS_n (by omega)).trans ?_); first | exact h1 | exact (gX_lo (by omega)).trans h1)
    | (show gU _ _ _ _ _ _ ≠ 0; simp [gU])
    | exact (gX_lo (by omega)).trans h1
    | skip
  rw [gX_1 (S := S) (n := n), gX_s, gX_s, gX_s, gX_s, gX_s, gX_s, gX_s, gX_s]
  rotate_left
  · rfl
  · rfl
  · rfl
  · rfl
  · rfl
  · rfl
  · rfl
  · rfl
  simp only [List.cons_append, List.nil_append]
  refine d_X11_init_82 hX ?_
  simp only [D_X11_init_82, ↓e_gb, ↓e_gb0, ↓e_gb2, ↓e_gb20, ↓e_ic, ↓e_lc, ↓e_null, ↓e_ldI, ↓e_ldL, ↓e_ldA, ↓e_stI, ↓e_stL, ↓e_stA, ↓e_inc, ↓e_iadd, ↓e_isub, ↓e_imul, ↓e_iand, ↓e_ior, ↓e_ixor, ↓e_ishl, ↓e_ishr, ↓e_iushr, ↓e_idiv, ↓e_ineg, ↓e_ladd, ↓e_lsub, ↓e_lmul, ↓e_lor, ↓e_lshl, ↓e_lshr, ↓e_i2l, ↓e_l2i, ↓e_i2b, ↓e_lcmp, ↓e_dup, ↓e_dup2, ↓e_pop, ↓e_ceq, ↓e_cne, ↓e_clt, ↓e_cge, ↓e_cgt, ↓e_cle, ↓e_zeq, ↓e_zne, ↓e_zlt, ↓e_zge, ↓e_zgt, ↓e_zle, ↓e_goto, ↓e_nn, ↓e_retI, ↓e_retL, ↓e_retV, ↓e_retZ, ↓e_retA, ↓e_gfI, ↓e_gfL, ↓e_gfR, ↓e_pfI, ↓e_pfZ, ↓e_pfL, ↓e_pfR, ↓e_iald, ↓e_lald, ↓e_aald, ↓e_alen, ↓e_iast, ↓e_bast, ↓e_zast, ↓e_last, ↓e_aast, ↓e_cV, ↓e_cS, ↓e_gsW, ↓e_gsK, ↓e_mmax, ↓e_mmin, ↓e_mmaxL, ↓e_mminL, ↓e_j_l, ↓e_j_new, ↓e_j_newa, ↓e_j_obj, ↓e_j_cI, gEnt, gPad, gArgs, gGet, gS1, gS2, gCl, gNo, gSp, gCt, gSw, Option.toList, List.cons_append, List.nil_append, Value.category, and_true, true_and, not_false_eq_true, not_true_eq_false, Nat.reduceAdd, Nat.reduceLeDiff, forall_const, Int32.reduceToNatClampNeg, Int32.reduceLT, Nat.zero_add, Nat.add_assoc]
  repeat' apply And.intro
  all_goals first
    | (show @Ne Nat _ _; omega)
    | (show gZn _ _; (repeat (first | ((with_reducible refine gZ_3 ?_ ?_); focus omega) | ((with_reducible refine gZ_1 ?_ ?_); focus omega))); exact hz _ (by omega))
    | (show gUS _ _ _ _ = _; (repeat refine (gUS_n (by omega)).trans ?_); first | exact h1 | exact (gX_lo (by omega)).trans h1)
    | (show gU _ _ _ _ _ _ ≠ 0; simp [gU])
    | exact (gX_lo (by omega)).trans h1
    | skip
  rw [gX_s, gX_s, gX_s, gX_s, gX_s, gX_s, gX_s, gX_s, gX_s, gX_s]
  rotate_left
  · rfl
  · rfl
  · rfl
  · rfl
  · rfl
  · rfl
  · rfl
  · rfl
  · rfl
  · rfl
  simp only [List.cons_append, List.nil_append]
  refine d_X11_init_162 hX ?_
  simp only [D_X11_init_162, ↓e_gb, ↓e_gb0, ↓e_gb2, ↓e_gb20, ↓e_ic, ↓e_lc, ↓e_null, ↓e_ldI, ↓e_ldL, ↓e_ldA, ↓e_stI, ↓e_stL, ↓e_stA, ↓e_inc, ↓e_iadd, ↓e_isub, ↓e_imul, ↓e_iand, ↓e_ior, ↓e_ixor, ↓e_ishl, ↓e_ishr, ↓e_iushr, ↓e_idiv, ↓e_ineg, ↓e_ladd, ↓e_lsub, ↓e_lmul, ↓e_lor, ↓e_lshl, ↓e_lshr, ↓e_i2l, ↓e_l2i, ↓e_i2b, ↓e_lcmp, ↓e_dup, ↓e_dup2, ↓e_pop, ↓e_ceq, ↓e_cne, ↓e_clt, ↓e_cge, ↓e_cgt, ↓e_cle, ↓e_zeq, ↓e_zne, ↓e_zlt, ↓e_zge, ↓e_zgt, ↓e_zle, ↓e_goto, ↓e_nn, ↓e_retI, ↓e_retL, ↓e_retV, ↓e_retZ, ↓e_retA, ↓e_gfI, ↓e_gfL, ↓e_gfR, ↓e_pfI, ↓e_pfZ, ↓e_pfL, ↓e_pfR, ↓e_iald, ↓e_lald, ↓e_aald, ↓e_alen, ↓e_iast, ↓e_bast, ↓e_zast, ↓e_last, ↓e_aast, ↓e_cV, ↓e_cS, ↓e_gsW, ↓e_gsK, ↓e_mmax, ↓e_mmin, ↓e_mmaxL, ↓e_mminL, ↓e_j_l, ↓e_j_new, ↓e_j_newa, ↓e_j_obj, ↓e_j_cI, gEnt, gPad, gArgs, gGet, gS1, gS2, gCl, gNo, gSp, gCt, gSw, Option.toList, List.cons_append, List.nil_append, Value.category, and_true, true_and, not_false_eq_true, not_true_eq_false, Nat.reduceAdd, Nat.reduceLeDiff, forall_const, Int32.reduceToNatClampNeg, Int32.reduceLT, Nat.zero_add, Nat.add_assoc]
  repeat' apply And.intro
  all_goals first
    | (show @Ne Nat _ _; omega)
    | (show gZn _ _; (repeat (first | ((with_reducible refine gZ_3 ?_ ?_); focus omega) | ((with_reducible refine gZ_1 ?_ ?_); focus omega))); exact hz _ (by omega))
    | (show gUS _ _ _ _ = _; (repeat refine (gUS_n (by omega)).trans ?_); first | exact h1 | exact (gX_lo (by omega)).trans h1)
    | (show gU _ _ _ _ _ _ ≠ 0; simp [gU])
    | exact (gX_lo (by omega)).trans h1
    | skip
  rw [gX_s, gX_s, gX_s, gX_s, gX_s, gX_s, gX_s, gX_s, gX_s, gX_s]
  rotate_left
  · rfl
  · rfl
  · rfl
  · rfl
  · rfl
  · rfl
  · rfl
  · rfl
  · rfl
  · rfl
  simp only [List.cons_append, List.nil_append]
  refine d_X11_init_247 hX ?_
  simp only [D_X11_init_247, ↓e_gb, ↓e_gb0, ↓e_gb2, ↓e_gb20, ↓e_ic, ↓e_lc, ↓e_null, ↓e_ldI, ↓e_ldL, ↓e_ldA, ↓e_stI, ↓e_stL, ↓e_stA, ↓e_inc, ↓e_iadd, ↓e_isub, ↓e_imul, ↓e_iand, ↓e_ior, ↓e_ixor, ↓e_ishl, ↓e_ishr, ↓e_iushr, ↓e_idiv, ↓e_ineg, ↓e_ladd, ↓e_lsub, ↓e_lmul, ↓e_lor, ↓e_lshl, ↓e_lshr, ↓e_i2l, ↓e_l2i, ↓e_i2b, ↓e_lcmp, ↓e_dup, ↓e_dup2, ↓e_pop, ↓e_ceq, ↓e_cne, ↓e_clt, ↓e_cge, ↓e_cgt, ↓e_cle, ↓e_zeq, ↓e_zne, ↓e_zlt, ↓e_zge, ↓e_zgt, ↓e_zle, ↓e_goto, ↓e_nn, ↓e_retI, ↓e_retL, ↓e_retV, ↓e_retZ, ↓e_retA, ↓e_gfI, ↓e_gfL, ↓e_gfR, ↓e_pfI, ↓e_pfZ, ↓e_pfL, ↓e_pfR, ↓e_iald, ↓e_lald, ↓e_aald, ↓e_alen, ↓e_iast, ↓e_bast, ↓e_zast, ↓e_last, ↓e_aast, ↓e_cV, ↓e_cS, ↓e_gsW, ↓e_gsK, ↓e_mmax, ↓e_mmin, ↓e_mmaxL, ↓e_mminL, ↓e_j_l, ↓e_j_new, ↓e_j_newa, ↓e_j_obj, ↓e_j_cI, gEnt, gPad, gArgs, gGet, gS1, gS2, gCl, gNo, gSp, gCt, gSw, Option.toList, List.cons_append, List.nil_append, Value.category, and_true, true_and, not_false_eq_true, not_true_eq_false, Nat.reduceAdd, Nat.reduceLeDiff, forall_const, Int32.reduceToNatClampNeg, Int32.reduceLT, Nat.zero_add, Nat.add_assoc]
  repeat' apply And.intro
  all_goals first
    | (show @Ne Nat _ _; omega)
    | (show gZn _ _; (repeat (first | ((with_reducible refine gZ_3 ?_ ?_); focus omega) | ((with_reducible refine gZ_1 ?_ ?_); focus omega))); exact hz _ (by omega))
    | (show gUS _ _ _ _ = _; (repeat refine (gUS_n (by omega)).trans ?_); first | exact h1 | exact (gX_lo (by omega)).trans h1)
    | (show gU _ _ _ _ _ _ ≠ 0; simp [gU])
    | exact (gX_lo (by omega)).trans h1
    | skip
  rw [gX_s, gX_s, gX_s, gX_s, gX_s, gX_s, gX_s, gX_s, gX_s, gX_s]
  rotate_left
  · rfl
  · rfl
  · rfl
  · rfl
  · rfl
  · rfl
  · rfl
  · rfl
  · rfl
  · rfl
  simp only [List.cons_append, List.nil_append]
  refine d_X11_init_330 hX ?_
  simp only [D_X11_init_330, ↓e_gb, ↓e_gb0, ↓e_gb2, ↓e_gb20, ↓e_ic, ↓e_lc, ↓e_null, ↓e_ldI, ↓e_ldL, ↓e_ldA, ↓e_stI, ↓e_stL, ↓e_stA, ↓e_inc, ↓e_iadd, ↓e_isub, ↓e_imul, ↓e_iand, ↓e_ior, ↓e_ixor, ↓e_ishl, ↓e_ishr, ↓e_iushr, ↓e_idiv, ↓e_ineg, ↓e_ladd, ↓e_lsub, ↓e_lmul, ↓e_lor, ↓e_lshl, ↓e_lshr, ↓e_i2l, ↓e_l2i, ↓e_i2b, ↓e_lcmp, ↓e_dup, ↓e_dup2, ↓e_pop, ↓e_ceq, ↓e_cne, ↓e_clt, ↓e_cge, ↓e_cgt, ↓e_cle, ↓e_zeq, ↓e_zne, ↓e_zlt, ↓e_zge, ↓e_zgt, ↓e_zle, ↓e_goto, ↓e_nn, ↓e_retI, ↓e_retL, ↓e_retV, ↓e_retZ, ↓e_retA, ↓e_gfI, ↓e_gfL, ↓e_gfR, ↓e_pfI, ↓e_pfZ, ↓e_pfL, ↓e_pfR, ↓e_iald, ↓e_lald, ↓e_aald, ↓e_alen, ↓e_iast, ↓e_bast, ↓e_zast, ↓e_last, ↓e_aast, ↓e_cV, ↓e_cS, ↓e_gsW, ↓e_gsK, ↓e_mmax, ↓e_mmin, ↓e_mmaxL, ↓e_mminL, ↓e_j_l, ↓e_j_new, ↓e_j_newa, ↓e_j_obj, ↓e_j_cI, gEnt, gPad, gArgs, gGet, gS1, gS2, gCl, gNo, gSp, gCt, gSw, Option.toList, List.cons_append, List.nil_append, Value.category, and_true, true_and, not_false_eq_true, not_true_eq_false, Nat.reduceAdd, Nat.reduceLeDiff, forall_const, Int32.reduceToNatClampNeg, Int32.reduceLT, Nat.zero_add, Nat.add_assoc]
  repeat' apply And.intro
  all_goals first
    | (show @Ne Nat _ _; omega)
    | (show gZn _ _; (repeat (first | ((with_reducible refine gZ_3 ?_ ?_); focus omega) | ((with_reducible refine gZ_1 ?_ ?_); focus omega))); exact hz _ (by omega))
    | (show gUS _ _ _ _ = _; (repeat refine (gUS_n (by omega)).trans ?_); first | exact h1 | exact (gX_lo (by omega)).trans h1)
    | (show gU _ _ _ _ _ _ ≠ 0; simp [gU])
    | exact (gX_lo (by omega)).trans h1
    | skip
  rw [gX_s, gX_s, gX_s, gX_s, gX_s, gX_s, gX_s, gX_s, gX_s, gX_s]
  rotate_left
  · rfl
  · rfl
  · rfl
  · rfl
  · rfl
  · rfl
  · rfl
  · rfl
  · rfl
  · rfl
  simp only [List.cons_append, List.nil_append]
  refine d_X11_init_409 hX ?_
  simp only [D_X11_init_409, ↓e_gb, ↓e_gb0, ↓e_gb2, ↓e_gb20, ↓e_ic, ↓e_lc, ↓e_null, ↓e_ldI, ↓e_ldL, ↓e_ldA, ↓e_stI, ↓e_stL, ↓e_stA, ↓e_inc, ↓e_iadd, ↓e_isub, ↓e_imul, ↓e_iand, ↓e_ior, ↓e_ixor, ↓e_ishl, ↓e_ishr, ↓e_iushr, ↓e_idiv, ↓e_ineg, ↓e_ladd, ↓e_lsub, ↓e_lmul, ↓e_lor, ↓e_lshl, ↓e_lshr, ↓e_i2l, ↓e_l2i, ↓e_i2b, ↓e_lcmp, ↓e_dup, ↓e_dup2, ↓e_pop, ↓e_ceq, ↓e_cne, ↓e_clt, ↓e_cge, ↓e_cgt, ↓e_cle, ↓e_zeq, ↓e_zne, ↓e_zlt, ↓e_zge, ↓e_zgt, ↓e_zle, ↓e_goto, ↓e_nn, ↓e_retI, ↓e_retL, ↓e_retV, ↓e_retZ, ↓e_retA, ↓e_gfI, ↓e_gfL, ↓e_gfR, ↓e_pfI, ↓e_pfZ, ↓e_pfL, ↓e_pfR, ↓e_iald, ↓e_lald, ↓e_aald, ↓e_alen, ↓e_iast, ↓e_bast, ↓e_zast, ↓e_last, ↓e_aast, ↓e_cV, ↓e_cS, ↓e_gsW, ↓e_gsK, ↓e_mmax, ↓e_mmin, ↓e_mmaxL, ↓e_mminL, ↓e_j_l, ↓e_j_new, ↓e_j_newa, ↓e_j_obj, ↓e_j_cI, gEnt, gPad, gArgs, gGet, gS1, gS2, gCl, gNo, gSp, gCt, gSw, Option.toList, List.cons_append, List.nil_append, Value.category, and_true, true_and, not_false_eq_true, not_true_eq_false, Nat.reduceAdd, Nat.reduceLeDiff, forall_const, Int32.reduceToNatClampNeg, Int32.reduceLT, Nat.zero_add, Nat.add_assoc]
  repeat' apply And.intro
  all_goals first
    | (show @Ne Nat _ _; omega)
    | (show gZn _ _; (repeat (first | ((with_reducible refine gZ_3 ?_ ?_); focus omega) | ((with_reducible refine gZ_1 ?_ ?_); focus omega))); exact hz _ (by omega))
    | (show gUS _ _ _ _ = _; (repeat refine (gUS_n (by omega)).trans ?_); first | exact h1 | exact (gX_lo (by omega)).trans h1)
    | (show gU _ _ _ _ _ _ ≠ 0; simp [gU])
    | exact (gX_lo (by omega)).trans h1
    | skip
  rw [gX_s, gX_s, gX_s, gX_s, gX_s, gX_s, gX_s, gX_s]
  rotate_left
  · rfl
  · rfl
  · rfl
  · rfl
  · rfl
  · rfl
  · rfl
  · rfl
  simp only [List.cons_append, List.nil_append]
  exact hE _ rfl
