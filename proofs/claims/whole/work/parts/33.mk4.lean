/-- the tells that Script() makes: j of them, from m on, put into the array t -/
def gTS (S : gSh) (m : Nat) : Nat → gSh
  | 0 => S
  | j + 1 => gUS (gTS S m j) (m + j) (.inl 8)
def gTR (R : Nat → Nat → Nat) (t m : Nat) : Nat → (Nat → Nat → Nat)
  | 0 => R
  | j + 1 => gU (gTR R t m j) t j (m + j)
theorem gTS_lo {S : gSh} {m a : Nat} (h : a < m) : ∀ j, gTS S m j a = S a
  | 0 => rfl
  | j + 1 => (gUS_n (by omega)).trans (gTS_lo h j)
theorem gTR_o {R : Nat → Nat → Nat} {t m a k : Nat} (h : a ≠ t) : ∀ j, gTR R t m j a k = R a k
  | 0 => rfl
  | j + 1 => (gU_n (fun z => h z.1)).trans (gTR_o h j)
theorem gTR_z {I : Nat → Nat → Int32} {L : Nat → Nat → Int64} {R : Nat → Nat → Nat} {t m q : Nat} (h : q ≠ t) (hz : gZn q (I, L, R)) : ∀ j, gZn q (I, L, gTR R t m j)
  | 0 => hz
  | j + 1 => gZ_3 h (gTR_z h hz j)
theorem yy_Script_loop {h a t m kc ks : Nat} {S : gSh} {I : Nat → Nat → Int32} {L : Nat → Nat → Int64} {R : Nat → Nat → Nat} {P : gP2} {X : Nat → gK2} (hX : gClo2 Q_X5_init (fun S => gRun S (h + 1)) (gRun2 (h + 1)) 26 1452 P X) (e1 : S a = some (.inl 5)) (e2 : S t = some (.inr (5, 18))) (e3 : R a 0 = t) (ha : a < m) (ht : t < m) (hat : a ≠ t) (h0 : t ≠ 0) (hk : kc + 18 ≤ 26) (hs : ks + 198 ≤ 1452) (hz : ∀ q, m ≤ q → gZn q (I, L, R))
    (hE : X 94 (gTS S m 18, m + 18, kc + 18, ks + 198) (I, L, gTR R t m 18) [some (.ref a), some (.int (nI 18))] []) : ∀ d j, j + d = 18 → X 66 (gTS S m j, m + j, kc + j, ks + 11 * j) (I, L, gTR R t m j) [some (.ref a), some (.int (nI j))] [] := by
  intro d
  induction d with
  | zero =>
    intro j hj
    have : j = 18 := by omega
    subst this
    refine d_X5_init_66 hX ?_
    have f1 : gTS S m 18 a = some (.inl 5) := (gTS_lo ha 18).trans e1
    have f2 : gTS S m 18 t = some (.inr (5, 18)) := (gTS_lo ht 18).trans e2
    have f3 : gTR R t m 18 a 0 = t := (gTR_o hat 18).trans e3
    simp only [D_X5_init_66, ↓e_gb, ↓e_gb0, ↓e_gb2, ↓e_gb20, ↓e_ic, ↓e_lc, ↓e_null, ↓e_ldI, ↓e_ldL, ↓e_ldA, ↓e_stI, ↓e_stL, ↓e_stA, ↓e_inc, ↓e_iadd, ↓e_isub, ↓e_imul, ↓e_iand, ↓e_ior, ↓e_ixor, ↓e_ishl, ↓e_ishr, ↓e_iushr, ↓e_idiv, ↓e_ineg, ↓e_ladd, ↓e_lsub, ↓e_lmul, ↓e_lor, ↓e_lshl, ↓e_lshr, ↓e_i2l, ↓e_l2i, ↓e_i2b, ↓e_lcmp, ↓e_dup, ↓e_dup2, ↓e_pop, ↓e_ceq, ↓e_cne, ↓e_clt, ↓e_cge, ↓e_cgt, ↓e_cle, ↓e_zeq, ↓e_zne, ↓e_zlt, ↓e_zge, ↓e_zgt, ↓e_zle, ↓e_goto, ↓e_nn, ↓e_retI, ↓e_retL, ↓e_retV, ↓e_retZ, ↓e_retA, ↓e_gfI, ↓e_gfL, ↓e_gfR, ↓e_pfI, ↓e_pfZ, ↓e_pfL, ↓e_pfR, ↓e_iald, ↓e_lald, ↓e_aald, ↓e_alen, ↓e_iast, ↓e_bast, ↓e_zast, ↓e_last, ↓e_aast, ↓e_cV, ↓e_cS, ↓e_gsW, ↓e_gsK, ↓e_mmax, ↓e_mmin, ↓e_mmaxL, ↓e_mminL, ↓e_j_l, ↓e_j_new, ↓e_j_newa, ↓e_j_obj, ↓e_j_cI, gEnt, gPad, gArgs, gGet, gS1, gS2, gCl, gNo, gSp, gCt, gSw, Option.toList, List.cons_append, List.nil_append, Value.category, and_true, true_and, not_false_eq_true, not_true_eq_false, Nat.reduceAdd, Nat.reduceLeDiff, forall_const, Int32.reduceToNatClampNeg, Int32.reduceLT, Nat.zero_add, Nat.add_assoc, vp_in, Int32.reduceLE, Int32.reduceAdd, Int32.reduceSub, Int32.reduceMul, false_implies, true_implies, implies_true, or_self, or_false, false_or, decide_true, decide_false, not_false_eq_true, Nat.reduceMul, Nat.reduceLT, Option.some.injEq, Sum.inr.injEq, Sum.inl.injEq, Prod.mk.injEq, exists_eq_left', exists_eq_left, ne_eq, true_and, and_self, f1, f2, f3]
    refine ⟨h0, fun _ => hE, fun hc => absurd (nI_le (Nat.le_refl 18) (by decide)) hc⟩
  | succ d ih =>
    intro j hj
    refine d_X5_init_66 hX ?_
    have f1 : gTS S m j a = some (.inl 5) := (gTS_lo ha j).trans e1
    have f2 : gTS S m j t = some (.inr (5, 18)) := (gTS_lo ht j).trans e2
    have f3 : gTR R t m j a 0 = t := (gTR_o hat j).trans e3
    simp only [D_X5_init_66, ↓e_gb, ↓e_gb0, ↓e_gb2, ↓e_gb20, ↓e_ic, ↓e_lc, ↓e_null, ↓e_ldI, ↓e_ldL, ↓e_ldA, ↓e_stI, ↓e_stL, ↓e_stA, ↓e_inc, ↓e_iadd, ↓e_isub, ↓e_imul, ↓e_iand, ↓e_ior, ↓e_ixor, ↓e_ishl, ↓e_ishr, ↓e_iushr, ↓e_idiv, ↓e_ineg, ↓e_ladd, ↓e_lsub, ↓e_lmul, ↓e_lor, ↓e_lshl, ↓e_lshr, ↓e_i2l, ↓e_l2i, ↓e_i2b, ↓e_lcmp, ↓e_dup, ↓e_dup2, ↓e_pop, ↓e_ceq, ↓e_cne, ↓e_clt, ↓e_cge, ↓e_cgt, ↓e_cle, ↓e_zeq, ↓e_zne, ↓e_zlt, ↓e_zge, ↓e_zgt, ↓e_zle, ↓e_goto, ↓e_nn, ↓e_retI, ↓e_retL, ↓e_retV, ↓e_retZ, ↓e_retA, ↓e_gfI, ↓e_gfL, ↓e_gfR, ↓e_pfI, ↓e_pfZ, ↓e_pfL, ↓e_pfR, ↓e_iald, ↓e_lald, ↓e_aald, ↓e_alen, ↓e_iast, ↓e_bast, ↓e_zast, ↓e_last, ↓e_aast, ↓e_cV, ↓e_cS, ↓e_gsW, ↓e_gsK, ↓e_mmax, ↓e_mmin, ↓e_mmaxL, ↓e_mminL, ↓e_j_l, ↓e_j_new, ↓e_j_newa, ↓e_j_obj, ↓e_j_cI, gEnt, gPad, gArgs, gGet, gS1, gS2, gCl, gNo, gSp, gCt, gSw, Option.toList, List.cons_append, List.nil_append, Value.category, and_true, true_and, not_false_eq_true, not_true_eq_false, Nat.reduceAdd, Nat.reduceLeDiff, forall_const, Int32.reduceToNatClampNeg, Int32.reduceLT, Nat.zero_add, Nat.add_assoc, vp_in, Int32.reduceLE, Int32.reduceAdd, Int32.reduceSub, Int32.reduceMul, false_implies, true_implies, implies_true, or_self, or_false, false_or, decide_true, decide_false, not_false_eq_true, Nat.reduceMul, Nat.reduceLT, Option.some.injEq, Sum.inr.injEq, Sum.inl.injEq, Prod.mk.injEq, exists_eq_left', exists_eq_left, ne_eq, true_and, and_self, f1, f2, f3]
    refine ⟨h0, fun hc => absurd hc (nI_ge (by omega) (by decide)), fun _ => ⟨h0, gTR_z (by omega) (hz _ (by omega)) j, ⟨by omega, by omega⟩, ⟨by omega, by omega⟩, ?_⟩⟩
    refine yy_Tell ?_
    have hc : (nI j).toNatClampNeg = j := nI_clamp (by omega)
    refine ⟨rfl, 18, (gUS_n (by omega)).trans f2, gUS_s, ?_, ?_⟩
    · exact nI_in (by omega) (by decide)
    · rw [hc, nI_1]
      exact ih (j + 1) (by omega)
set_option maxRecDepth 20000 in
theorem yy_Script {h n a : Nat} {S : gSh} {μ : gM} {P : gP2} (h1 : S a = some (.inl 5)) (ha : a < n) (hz : ∀ q, n ≤ q → gZn q μ)
    (hP : P none (gUS (gTS (gUS (gUS (gUS (gUS (gUS (gUS (gUS S n (.inr (5, 18))) (n + 1) (.inr (0, 6))) (n + 2) (.inr (0, 12))) (n + 3) (.inr (0, 400))) (n + 4) (.inr (0, 400))) (n + 5) (.inr (1, 12))) (n + 6) (.inr (1, 400))) (n + 7) 18) (n + 25) (.inr (1, 6))) (n + 26) (μ.1, μ.2.1, gU (gTR (gU (gU (gU (gU (gU (gU (gU μ.2.2 a 0 n) a 1 (n + 1)) a 2 (n + 2)) a 3 (n + 3)) a 4 (n + 4)) a 5 (n + 5)) a 6 (n + 6)) n (n + 7) 18) a 7 (n + 25))) : gRun2 (h + 2) 9 [.ref a] S n μ P := by
  refine r2_X5 (by simp [lg_sl, Value.category]) (fun X hX => ?_)
  refine d_X5_init_0 hX ?_
  simp only [D_X5_init_0, ↓e_gb, ↓e_gb0, ↓e_gb2, ↓e_gb20, ↓e_ic, ↓e_lc, ↓e_null, ↓e_ldI, ↓e_ldL, ↓e_ldA, ↓e_stI, ↓e_stL, ↓e_stA, ↓e_inc, ↓e_iadd, ↓e_isub, ↓e_imul, ↓e_iand, ↓e_ior, ↓e_ixor, ↓e_ishl, ↓e_ishr, ↓e_iushr, ↓e_idiv, ↓e_ineg, ↓e_ladd, ↓e_lsub, ↓e_lmul, ↓e_lor, ↓e_lshl, ↓e_lshr, ↓e_i2l, ↓e_l2i, ↓e_i2b, ↓e_lcmp, ↓e_dup, ↓e_dup2, ↓e_pop, ↓e_ceq, ↓e_cne, ↓e_clt, ↓e_cge, ↓e_cgt, ↓e_cle, ↓e_zeq, ↓e_zne, ↓e_zlt, ↓e_zge, ↓e_zgt, ↓e_zle, ↓e_goto, ↓e_nn, ↓e_retI, ↓e_retL, ↓e_retV, ↓e_retZ, ↓e_retA, ↓e_gfI, ↓e_gfL, ↓e_gfR, ↓e_pfI, ↓e_pfZ, ↓e_pfL, ↓e_pfR, ↓e_iald, ↓e_lald, ↓e_aald, ↓e_alen, ↓e_iast, ↓e_bast, ↓e_zast, ↓e_last, ↓e_aast, ↓e_cV, ↓e_cS, ↓e_gsW, ↓e_gsK, ↓e_mmax, ↓e_mmin, ↓e_mmaxL, ↓e_mminL, ↓e_j_l, ↓e_j_new, ↓e_j_newa, ↓e_j_obj, ↓e_j_cI, gEnt, gPad, gArgs, gGet, gS1, gS2, gCl, gNo, gSp, gCt, gSw, Option.toList, List.cons_append, List.nil_append, Value.category, and_true, true_and, not_false_eq_true, not_true_eq_false, Nat.reduceAdd, Nat.reduceLeDiff, forall_const, Int32.reduceToNatClampNeg, Int32.reduceLT, Nat.zero_add, Nat.add_assoc]
  repeat' apply And.intro
  all_goals first
    | rfl
    | (show @Ne Nat _ _; omega)
    | (show gZn _ _; (repeat (first | refine gZ_3 (by omega) ?_ | refine gZ_1 (by omega) ?_)); exact hz _ (by omega))
    | (show gUS _ _ _ _ = _; (repeat refine (gUS_n (by omega)).trans ?_); first | exact h1 | exact gUS_s)
    | skip
  have q1 : (gUS (gUS (gUS (gUS (gUS (gUS (gUS S n (.inr (5, 18))) (n + 1) (.inr (0, 6))) (n + 2) (.inr (0, 12))) (n + 3) (.inr (0, 400))) (n + 4) (.inr (0, 400))) (n + 5) (.inr (1, 12))) (n + 6) (.inr (1, 400))) a = some (.inl 5) := by
    (repeat refine (gUS_n (by omega)).trans ?_)
    exact h1
  refine yy_Script_loop (t := n) (m := n + 7) (kc := 7) (ks := 1248) hX q1 ?_ ?_ (by omega) (by omega) (by omega) (by omega) (by decide) (by decide) ?_ ?_ 18 0 rfl
  · (repeat refine (gUS_n (by omega)).trans ?_)
    exact gUS_s
  · simp [gU]
  · intro q hq
    (repeat refine gZ_3 (by omega) ?_)
    exact hz _ (by omega)
  · refine d_X5_init_94 hX ?_
    simp only [D_X5_init_94, ↓e_gb, ↓e_gb0, ↓e_gb2, ↓e_gb20, ↓e_ic, ↓e_lc, ↓e_null, ↓e_ldI, ↓e_ldL, ↓e_ldA, ↓e_stI, ↓e_stL, ↓e_stA, ↓e_inc, ↓e_iadd, ↓e_isub, ↓e_imul, ↓e_iand, ↓e_ior, ↓e_ixor, ↓e_ishl, ↓e_ishr, ↓e_iushr, ↓e_idiv, ↓e_ineg, ↓e_ladd, ↓e_lsub, ↓e_lmul, ↓e_lor, ↓e_lshl, ↓e_lshr, ↓e_i2l, ↓e_l2i, ↓e_i2b, ↓e_lcmp, ↓e_dup, ↓e_dup2, ↓e_pop, ↓e_ceq, ↓e_cne, ↓e_clt, ↓e_cge, ↓e_cgt, ↓e_cle, ↓e_zeq, ↓e_zne, ↓e_zlt, ↓e_zge, ↓e_zgt, ↓e_zle, ↓e_goto, ↓e_nn, ↓e_retI, ↓e_retL, ↓e_retV, ↓e_retZ, ↓e_retA, ↓e_gfI, ↓e_gfL, ↓e_gfR, ↓e_pfI, ↓e_pfZ, ↓e_pfL, ↓e_pfR, ↓e_iald, ↓e_lald, ↓e_aald, ↓e_alen, ↓e_iast, ↓e_bast, ↓e_zast, ↓e_last, ↓e_aast, ↓e_cV, ↓e_cS, ↓e_gsW, ↓e_gsK, ↓e_mmax, ↓e_mmin, ↓e_mmaxL, ↓e_mminL, ↓e_j_l, ↓e_j_new, ↓e_j_newa, ↓e_j_obj, ↓e_j_cI, gEnt, gPad, gArgs, gGet, gS1, gS2, gCl, gNo, gSp, gCt, gSw, Option.toList, List.cons_append, List.nil_append, Value.category, and_true, true_and, not_false_eq_true, not_true_eq_false, Nat.reduceAdd, Nat.reduceLeDiff, forall_const, Int32.reduceToNatClampNeg, Int32.reduceLT, Nat.zero_add, Nat.add_assoc]
    refine ⟨?_, ?_, ?_, hP⟩
    · refine gTR_z (by omega) ?_ 18
      (repeat refine gZ_3 (by omega) ?_)
      exact hz _ (by omega)
    · exact (gUS_n (by omega)).trans ((gTS_lo (by omega) 18).trans q1)
    · show @Ne Nat _ _
      omega
