/-! LAYING, the reference: one order -/
def gFXm (β n : Nat) (F : Nat → Prop) (R C : Nat → Nat) (μ : gM) : Prop := ∀ k, k < n → (¬ F k ∧ μ.1 (β + 159) k = nI 0) ∨ (F k ∧ R k ≤ 30 ∧ μ.1 (β + 159) k = nI 1 ∧ μ.1 (β + 160) k = nI (R k) ∧ μ.1 (β + 161) k = nI (C k))
/-- only the tried places have changed -/
def gFrL (β : Nat) (μ μ' : gM) : Prop := μ'.2 = μ.2 ∧ ∀ a i, (a < β + 164 ∨ a = β + 166 ∨ β + 167 < a) → μ'.1 a i = μ.1 a i
theorem gLMd_c {β lv n w : Nat} {W D G : Nat → Nat} {μ μ' : gM} (h : ∀ a i, a < β + 162 → μ'.1 a i = μ.1 a i) (H : gLMd β lv n w W D G μ) : gLMd β lv n w W D G μ' := by
  obtain ⟨a1, a2, a3, a4⟩ := H
  refine ⟨a1, by rw [h _ _ (by omega)]; exact a2, by rw [h _ _ (by omega)]; exact a3, fun k hk => ?_⟩
  rw [h _ _ (by omega), h _ _ (by omega), h _ _ (by omega)]
  exact a4 k hk
set_option maxHeartbeats 4000000 in
theorem k_mLayOrder {S : gSh} {h β lv n w cnt : Nat} {F : Nat → Prop} [DecidablePred F] {W D G R C : Nat → Nat} {p : List Nat} {x3 x4 : Int32} {y6 y7 y8 : Option Value} {μ : gM} {P : gP} {X : Nat → gK} (hX : gClo K_X11_lay S (gRun S (h + 2)) P X) (hS : gLS S β) (hR : gPS μ.2.2 β) (hn : n ≤ 6) (hw8 : w ≤ 8) (hA : gLMd β lv n w W D G μ) (hfx : gFXm β n F R C μ) (hcw : ∀ k, k < n → F k → C k + D k ≤ w) (hlen : p.length = cnt) (hnd : p.Nodup) (hmem : ∀ j, j ∈ p ↔ j < n ∧ ¬ F j) (hcnt : cnt ≤ 6) (hrow : ∀ i, i < cnt → μ.1 (β + 166) i = nI (gOf p i))
    (hE : ∀ μ' rw cl, gFrL β μ μ' → (∀ k, k < n → μ'.1 (β + 164) k = nI (rw k) ∧ μ'.1 (β + 165) k = nI (cl k)) → gRL W D G w p (gKF F D G R C n) (gHF F G R n) (gSF F W R n) (fun k => if F k then R k else 0) (fun k => if F k then C k else 0) = (gHm (fun _ => true) G rw n, gSu (fun _ => true) W rw n, rw, cl) → (∀ k, k < n → rw k ≤ 72) → X 227 μ' [some (.ref (β + 110)), some (.int (nI w)), some (.int (nI cnt)), some (.int x3), some (.int x4), some (.int (nI 1)), some (.int (nI cnt)), y7, y8]  []) : X 118 μ [some (.ref (β + 110)), some (.int (nI w)), some (.int (nI cnt)), some (.int x3), some (.int x4), some (.int (nI 1)), y6, y7, y8] [] := by
  obtain ⟨hlv, h18, h119, hat⟩ := id hA
  refine b_X11_lay_118 hX ?_
  simp (disch := omega) only [B_X11_lay_118, ↓n_gb, ↓n_gb0, ↓n_ic, ↓n_icm, ↓n_lc, ↓e_lc, ↓e_null, ↓e_ldI, ↓e_ldL, ↓e_ldA, ↓e_stI, ↓e_stL, ↓e_stA, ↓n_inc, ↓n_incm1, ↓n_incm8, ↓e_iadd, ↓e_isub, ↓e_imul, ↓e_iand, ↓e_ior, ↓e_ixor, ↓n_ishl, ↓n_ishr, ↓e_iushr, ↓n_idiv, ↓e_ineg, ↓e_ladd, ↓e_lsub, ↓e_lmul, ↓e_lor, ↓e_lshl, ↓e_lshr, ↓e_i2l, ↓e_l2i, ↓e_i2b, ↓e_lcmp, ↓e_dup, ↓e_dup2, ↓e_pop, ↓e_ceq, ↓e_cne, ↓e_clt, ↓e_cge, ↓e_cgt, ↓e_cle, ↓n_zeq, ↓n_zne, ↓n_zlt, ↓n_zge, ↓n_zgt, ↓n_zle, ↓e_goto, ↓e_nn, ↓e_retI, ↓e_retL, ↓e_retV, ↓n_retZ, ↓e_retA, ↓e_gfI, ↓e_gfL, ↓e_gfR, ↓e_pfI, ↓n_pfZ, ↓e_pfL, ↓e_pfR, ↓e_iald, ↓e_lald, ↓e_aald, ↓e_alen, ↓e_iast, ↓e_bast, ↓n_zast, ↓e_last, ↓e_aast, ↓e_cV, ↓e_cS, ↓e_gsW, ↓e_gsK, ↓e_mmax, ↓e_mmin, ↓e_mmaxL, ↓e_mminL, gEnt, gPad, gArgs, gGet, gS1, gS2, gCl, gNo, gSp, gCt, n_sw, n_gSw, n_gSw0, Option.toList, List.cons_append, List.nil_append, Value.category, and_true, true_and, and_self, not_false_eq_true, not_true_eq_false, Nat.reduceAdd, Nat.reduceSub, Nat.reduceMul, Nat.reduceLeDiff, Nat.reduceLT, Nat.reduceEqDiff, forall_const, true_implies, false_implies, implies_true, Nat.zero_add, Option.some.injEq, Sum.inr.injEq, Sum.inl.injEq, Prod.mk.injEq, exists_eq_left', exists_eq_left, w_ne0, nI_add, w_lt, w_le, w_eq, w_meq, w_eqm, w_mlt, w_ltm, w_mle, w_lem, w_clamp, w_in, w_31, w_ite0, w_ite1, w_ite01, true_or, or_true, false_or, or_false, Nat.le_refl, Nat.lt_irrefl, S_110 hS, S_119 hS, S_128 hS, S_130 hS, S_131 hS, S_159 hS, S_160 hS, S_161 hS, S_162 hS, S_163 hS, S_164 hS, S_165 hS, S_166 hS, S_167 hS, R_110_21 hR, R_110_30 hR, R_110_32 hR, R_110_33 hR, R_110_77 hR, R_110_78 hR, R_110_79 hR, R_110_81 hR, R_110_82 hR, R_110_83 hR, R_110_84 hR, R_110_85 hR, R_110_86 hR]
  refine gLoop (I := fun j μ' lc => gFrL β μ μ' ∧ (∀ i, i < j → μ'.1 (β + 167) i = nI 0) ∧ lc = [some (.ref (β + 110)), some (.int (nI w)), some (.int (nI cnt)), some (.int x3), some (.int x4), some (.int (nI 1)), some (.int (nI j)), y7, y8]) 100 ?_ ?_ 0 (by omega) _ _ ⟨⟨rfl, fun _ _ _ => rfl⟩, fun i hi => by omega, rfl⟩
  · rintro j μ' _ hj ⟨⟨i1, i2⟩, i3, rfl⟩ hK
    have hR : gPS μ'.2.2 β := by rw [i1]; exact hR
    have hj2 : ¬ 100 ≤ j := by omega
    refine b_X11_lay_126 hX ?_
    simp (disch := omega) only [B_X11_lay_126, ↓n_gb, ↓n_gb0, ↓n_ic, ↓n_icm, ↓n_lc, ↓e_lc, ↓e_null, ↓e_ldI, ↓e_ldL, ↓e_ldA, ↓e_stI, ↓e_stL, ↓e_stA, ↓n_inc, ↓n_incm1, ↓n_incm8, ↓e_iadd, ↓e_isub, ↓e_imul, ↓e_iand, ↓e_ior, ↓e_ixor, ↓n_ishl, ↓n_ishr, ↓e_iushr, ↓n_idiv, ↓e_ineg, ↓e_ladd, ↓e_lsub, ↓e_lmul, ↓e_lor, ↓e_lshl, ↓e_lshr, ↓e_i2l, ↓e_l2i, ↓e_i2b, ↓e_lcmp, ↓e_dup, ↓e_dup2, ↓e_pop, ↓e_ceq, ↓e_cne, ↓e_clt, ↓e_cge, ↓e_cgt, ↓e_cle, ↓n_zeq, ↓n_zne, ↓n_zlt, ↓n_zge, ↓n_zgt, ↓n_zle, ↓e_goto, ↓e_nn, ↓e_retI, ↓e_retL, ↓e_retV, ↓n_retZ, ↓e_retA, ↓e_gfI, ↓e_gfL, ↓e_gfR, ↓e_pfI, ↓n_pfZ, ↓e_pfL, ↓e_pfR, ↓e_iald, ↓e_lald, ↓e_aald, ↓e_alen, ↓e_iast, ↓e_bast, ↓n_zast, ↓e_last, ↓e_aast, ↓e_cV, ↓e_cS, ↓e_gsW, ↓e_gsK, ↓e_mmax, ↓e_mmin, ↓e_mmaxL, ↓e_mminL, gEnt, gPad, gArgs, gGet, gS1, gS2, gCl, gNo, gSp, gCt, n_sw, n_gSw, n_gSw0, Option.toList, List.cons_append, List.nil_append, Value.category, and_true, true_and, and_self, not_false_eq_true, not_true_eq_false, Nat.reduceAdd, Nat.reduceSub, Nat.reduceMul, Nat.reduceLeDiff, Nat.reduceLT, Nat.reduceEqDiff, forall_const, true_implies, false_implies, implies_true, Nat.zero_add, Option.some.injEq, Sum.inr.injEq, Sum.inl.injEq, Prod.mk.injEq, exists_eq_left', exists_eq_left, w_ne0, nI_add, w_lt, w_le, w_eq, w_meq, w_eqm, w_mlt, w_ltm, w_mle, w_lem, w_clamp, w_in, w_31, w_ite0, w_ite1, w_ite01, true_or, or_true, false_or, or_false, Nat.le_refl, Nat.lt_irrefl, S_110 hS, S_119 hS, S_128 hS, S_130 hS, S_131 hS, S_159 hS, S_160 hS, S_161 hS, S_162 hS, S_163 hS, S_164 hS, S_165 hS, S_166 hS, S_167 hS, R_110_21 hR, R_110_30 hR, R_110_32 hR, R_110_33 hR, R_110_77 hR, R_110_78 hR, R_110_79 hR, R_110_81 hR, R_110_82 hR, R_110_83 hR, R_110_84 hR, R_110_85 hR, R_110_86 hR, hj, hj2]
    refine hK _ _ ⟨⟨i1, fun a i q => ?_⟩, fun i hi => ?_, rfl⟩
    · dsimp only; rw [gU_n (by omega)]; exact i2 a i q
    · dsimp only
      by_cases e : i = j
      · subst e; exact gU_s
      · rw [gU_n (by omega)]; exact i3 i (by omega)
  rintro μ1 _ ⟨⟨i1, i2⟩, i3, rfl⟩
  have hR1 : gPS μ1.2.2 β := by rw [i1]; exact hR
  have hR0 := hR
  have hR := hR1
  refine b_X11_lay_126 hX ?_
  simp (disch := omega) only [B_X11_lay_126, ↓n_gb, ↓n_gb0, ↓n_ic, ↓n_icm, ↓n_lc, ↓e_lc, ↓e_null, ↓e_ldI, ↓e_ldL, ↓e_ldA, ↓e_stI, ↓e_stL, ↓e_stA, ↓n_inc, ↓n_incm1, ↓n_incm8, ↓e_iadd, ↓e_isub, ↓e_imul, ↓e_iand, ↓e_ior, ↓e_ixor, ↓n_ishl, ↓n_ishr, ↓e_iushr, ↓n_idiv, ↓e_ineg, ↓e_ladd, ↓e_lsub, ↓e_lmul, ↓e_lor, ↓e_lshl, ↓e_lshr, ↓e_i2l, ↓e_l2i, ↓e_i2b, ↓e_lcmp, ↓e_dup, ↓e_dup2, ↓e_pop, ↓e_ceq, ↓e_cne, ↓e_clt, ↓e_cge, ↓e_cgt, ↓e_cle, ↓n_zeq, ↓n_zne, ↓n_zlt, ↓n_zge, ↓n_zgt, ↓n_zle, ↓e_goto, ↓e_nn, ↓e_retI, ↓e_retL, ↓e_retV, ↓n_retZ, ↓e_retA, ↓e_gfI, ↓e_gfL, ↓e_gfR, ↓e_pfI, ↓n_pfZ, ↓e_pfL, ↓e_pfR, ↓e_iald, ↓e_lald, ↓e_aald, ↓e_alen, ↓e_iast, ↓e_bast, ↓n_zast, ↓e_last, ↓e_aast, ↓e_cV, ↓e_cS, ↓e_gsW, ↓e_gsK, ↓e_mmax, ↓e_mmin, ↓e_mmaxL, ↓e_mminL, gEnt, gPad, gArgs, gGet, gS1, gS2, gCl, gNo, gSp, gCt, n_sw, n_gSw, n_gSw0, Option.toList, List.cons_append, List.nil_append, Value.category, and_true, true_and, and_self, not_false_eq_true, not_true_eq_false, Nat.reduceAdd, Nat.reduceSub, Nat.reduceMul, Nat.reduceLeDiff, Nat.reduceLT, Nat.reduceEqDiff, forall_const, true_implies, false_implies, implies_true, Nat.zero_add, Option.some.injEq, Sum.inr.injEq, Sum.inl.injEq, Prod.mk.injEq, exists_eq_left', exists_eq_left, w_ne0, nI_add, w_lt, w_le, w_eq, w_meq, w_eqm, w_mlt, w_ltm, w_mle, w_lem, w_clamp, w_in, w_31, w_ite0, w_ite1, w_ite01, true_or, or_true, false_or, or_false, Nat.le_refl, Nat.lt_irrefl, S_110 hS, S_119 hS, S_128 hS, S_130 hS, S_131 hS, S_159 hS, S_160 hS, S_161 hS, S_162 hS, S_163 hS, S_164 hS, S_165 hS, S_166 hS, S_167 hS, R_110_21 hR, R_110_30 hR, R_110_32 hR, R_110_33 hR, R_110_77 hR, R_110_78 hR, R_110_79 hR, R_110_81 hR, R_110_82 hR, R_110_83 hR, R_110_84 hR, R_110_85 hR, R_110_86 hR]
  refine b_X11_lay_147 hX ?_
  simp (disch := omega) only [B_X11_lay_147, ↓n_gb, ↓n_gb0, ↓n_ic, ↓n_icm, ↓n_lc, ↓e_lc, ↓e_null, ↓e_ldI, ↓e_ldL, ↓e_ldA, ↓e_stI, ↓e_stL, ↓e_stA, ↓n_inc, ↓n_incm1, ↓n_incm8, ↓e_iadd, ↓e_isub, ↓e_imul, ↓e_iand, ↓e_ior, ↓e_ixor, ↓n_ishl, ↓n_ishr, ↓e_iushr, ↓n_idiv, ↓e_ineg, ↓e_ladd, ↓e_lsub, ↓e_lmul, ↓e_lor, ↓e_lshl, ↓e_lshr, ↓e_i2l, ↓e_l2i, ↓e_i2b, ↓e_lcmp, ↓e_dup, ↓e_dup2, ↓e_pop, ↓e_ceq, ↓e_cne, ↓e_clt, ↓e_cge, ↓e_cgt, ↓e_cle, ↓n_zeq, ↓n_zne, ↓n_zlt, ↓n_zge, ↓n_zgt, ↓n_zle, ↓e_goto, ↓e_nn, ↓e_retI, ↓e_retL, ↓e_retV, ↓n_retZ, ↓e_retA, ↓e_gfI, ↓e_gfL, ↓e_gfR, ↓e_pfI, ↓n_pfZ, ↓e_pfL, ↓e_pfR, ↓e_iald, ↓e_lald, ↓e_aald, ↓e_alen, ↓e_iast, ↓e_bast, ↓n_zast, ↓e_last, ↓e_aast, ↓e_cV, ↓e_cS, ↓e_gsW, ↓e_gsK, ↓e_mmax, ↓e_mmin, ↓e_mmaxL, ↓e_mminL, gEnt, gPad, gArgs, gGet, gS1, gS2, gCl, gNo, gSp, gCt, n_sw, n_gSw, n_gSw0, Option.toList, List.cons_append, List.nil_append, Value.category, and_true, true_and, and_self, not_false_eq_true, not_true_eq_false, Nat.reduceAdd, Nat.reduceSub, Nat.reduceMul, Nat.reduceLeDiff, Nat.reduceLT, Nat.reduceEqDiff, forall_const, true_implies, false_implies, implies_true, Nat.zero_add, Option.some.injEq, Sum.inr.injEq, Sum.inl.injEq, Prod.mk.injEq, exists_eq_left', exists_eq_left, w_ne0, nI_add, w_lt, w_le, w_eq, w_meq, w_eqm, w_mlt, w_ltm, w_mle, w_lem, w_clamp, w_in, w_31, w_ite0, w_ite1, w_ite01, true_or, or_true, false_or, or_false, Nat.le_refl, Nat.lt_irrefl, S_110 hS, S_119 hS, S_128 hS, S_130 hS, S_131 hS, S_159 hS, S_160 hS, S_161 hS, S_162 hS, S_163 hS, S_164 hS, S_165 hS, S_166 hS, S_167 hS, R_110_21 hR, R_110_30 hR, R_110_32 hR, R_110_33 hR, R_110_77 hR, R_110_78 hR, R_110_79 hR, R_110_81 hR, R_110_82 hR, R_110_83 hR, R_110_84 hR, R_110_85 hR, R_110_86 hR]
  refine gLoop (I := fun b μ' lc => gFrL β μ μ' ∧ (∀ i, i < 100 → μ'.1 (β + 167) i = nI (gKF F D G R C b i)) ∧ (∀ j, j < b → F j → μ'.1 (β + 164) j = nI (R j) ∧ μ'.1 (β + 165) j = nI (C j)) ∧ lc = [some (.ref (β + 110)), some (.int (nI w)), some (.int (nI cnt)), some (.int x3), some (.int x4), some (.int (nI 1)), some (.int (nI b)), y7, y8]) n ?_ ?_ 0 (by omega) _ _ ⟨⟨i1, i2⟩, i3, fun j hj => by omega, rfl⟩
  · rintro b μ' _ hb ⟨⟨j1, j2⟩, j3, j4, rfl⟩ hK
    have hR : gPS μ'.2.2 β := by rw [j1]; exact hR0
    have hA' : gLMd β lv n w W D G μ' := gLMd_c (fun a i q => j2 a i (by omega)) hA
    obtain ⟨-, k18, k119, -⟩ := id hA'
    have hbn : ¬ n ≤ b := by omega
    have hb6 : b < 6 := by omega
    obtain ⟨t0, t2, t3, t4, t5, t6, t7, t8⟩ := hat b hb
    rcases hfx b hb with ⟨f1, f2⟩ | ⟨f1, f2, f3, f4, f5⟩
    · have u1 : μ'.1 (β + 159) b = nI 0 := (j2 _ _ (by omega)).trans f2
      refine b_X11_lay_150 hX ?_
      simp (disch := omega) only [B_X11_lay_150, ↓n_gb, ↓n_gb0, ↓n_ic, ↓n_icm, ↓n_lc, ↓e_lc, ↓e_null, ↓e_ldI, ↓e_ldL, ↓e_ldA, ↓e_stI, ↓e_stL, ↓e_stA, ↓n_inc, ↓n_incm1, ↓n_incm8, ↓e_iadd, ↓e_isub, ↓e_imul, ↓e_iand, ↓e_ior, ↓e_ixor, ↓n_ishl, ↓n_ishr, ↓e_iushr, ↓n_idiv, ↓e_ineg, ↓e_ladd, ↓e_lsub, ↓e_lmul, ↓e_lor, ↓e_lshl, ↓e_lshr, ↓e_i2l, ↓e_l2i, ↓e_i2b, ↓e_lcmp, ↓e_dup, ↓e_dup2, ↓e_pop, ↓e_ceq, ↓e_cne, ↓e_clt, ↓e_cge, ↓e_cgt, ↓e_cle, ↓n_zeq, ↓n_zne, ↓n_zlt, ↓n_zge, ↓n_zgt, ↓n_zle, ↓e_goto, ↓e_nn, ↓e_retI, ↓e_retL, ↓e_retV, ↓n_retZ, ↓e_retA, ↓e_gfI, ↓e_gfL, ↓e_gfR, ↓e_pfI, ↓n_pfZ, ↓e_pfL, ↓e_pfR, ↓e_iald, ↓e_lald, ↓e_aald, ↓e_alen, ↓e_iast, ↓e_bast, ↓n_zast, ↓e_last, ↓e_aast, ↓e_cV, ↓e_cS, ↓e_gsW, ↓e_gsK, ↓e_mmax, ↓e_mmin, ↓e_mmaxL, ↓e_mminL, gEnt, gPad, gArgs, gGet, gS1, gS2, gCl, gNo, gSp, gCt, n_sw, n_gSw, n_gSw0, Option.toList, List.cons_append, List.nil_append, Value.category, and_true, true_and, and_self, not_false_eq_true, not_true_eq_false, Nat.reduceAdd, Nat.reduceSub, Nat.reduceMul, Nat.reduceLeDiff, Nat.reduceLT, Nat.reduceEqDiff, forall_const, true_implies, false_implies, implies_true, Nat.zero_add, Option.some.injEq, Sum.inr.injEq, Sum.inl.injEq, Prod.mk.injEq, exists_eq_left', exists_eq_left, w_ne0, nI_add, w_lt, w_le, w_eq, w_meq, w_eqm, w_mlt, w_ltm, w_mle, w_lem, w_clamp, w_in, w_31, w_ite0, w_ite1, w_ite01, true_or, or_true, false_or, or_false, Nat.le_refl, Nat.lt_irrefl, S_110 hS, S_119 hS, S_128 hS, S_130 hS, S_131 hS, S_159 hS, S_160 hS, S_161 hS, S_162 hS, S_163 hS, S_164 hS, S_165 hS, S_166 hS, S_167 hS, R_110_21 hR, R_110_30 hR, R_110_32 hR, R_110_33 hR, R_110_77 hR, R_110_78 hR, R_110_79 hR, R_110_81 hR, R_110_82 hR, R_110_83 hR, R_110_84 hR, R_110_85 hR, R_110_86 hR, k18, k119, hlv, hbn, hb6, u1]
      refine b_X11_lay_194 hX ?_
      simp (disch := omega) only [B_X11_lay_194, ↓n_gb, ↓n_gb0, ↓n_ic, ↓n_icm, ↓n_lc, ↓e_lc, ↓e_null, ↓e_ldI, ↓e_ldL, ↓e_ldA, ↓e_stI, ↓e_stL, ↓e_stA, ↓n_inc, ↓n_incm1, ↓n_incm8, ↓e_iadd, ↓e_isub, ↓e_imul, ↓e_iand, ↓e_ior, ↓e_ixor, ↓n_ishl, ↓n_ishr, ↓e_iushr, ↓n_idiv, ↓e_ineg, ↓e_ladd, ↓e_lsub, ↓e_lmul, ↓e_lor, ↓e_lshl, ↓e_lshr, ↓e_i2l, ↓e_l2i, ↓e_i2b, ↓e_lcmp, ↓e_dup, ↓e_dup2, ↓e_pop, ↓e_ceq, ↓e_cne, ↓e_clt, ↓e_cge, ↓e_cgt, ↓e_cle, ↓n_zeq, ↓n_zne, ↓n_zlt, ↓n_zge, ↓n_zgt, ↓n_zle, ↓e_goto, ↓e_nn, ↓e_retI, ↓e_retL, ↓e_retV, ↓n_retZ, ↓e_retA, ↓e_gfI, ↓e_gfL, ↓e_gfR, ↓e_pfI, ↓n_pfZ, ↓e_pfL, ↓e_pfR, ↓e_iald, ↓e_lald, ↓e_aald, ↓e_alen, ↓e_iast, ↓e_bast, ↓n_zast, ↓e_last, ↓e_aast, ↓e_cV, ↓e_cS, ↓e_gsW, ↓e_gsK, ↓e_mmax, ↓e_mmin, ↓e_mmaxL, ↓e_mminL, gEnt, gPad, gArgs, gGet, gS1, gS2, gCl, gNo, gSp, gCt, n_sw, n_gSw, n_gSw0, Option.toList, List.cons_append, List.nil_append, Value.category, and_true, true_and, and_self, not_false_eq_true, not_true_eq_false, Nat.reduceAdd, Nat.reduceSub, Nat.reduceMul, Nat.reduceLeDiff, Nat.reduceLT, Nat.reduceEqDiff, forall_const, true_implies, false_implies, implies_true, Nat.zero_add, Option.some.injEq, Sum.inr.injEq, Sum.inl.injEq, Prod.mk.injEq, exists_eq_left', exists_eq_left, w_ne0, nI_add, w_lt, w_le, w_eq, w_meq, w_eqm, w_mlt, w_ltm, w_mle, w_lem, w_clamp, w_in, w_31, w_ite0, w_ite1, w_ite01, true_or, or_true, false_or, or_false, Nat.le_refl, Nat.lt_irrefl, S_110 hS, S_119 hS, S_128 hS, S_130 hS, S_131 hS, S_159 hS, S_160 hS, S_161 hS, S_162 hS, S_163 hS, S_164 hS, S_165 hS, S_166 hS, S_167 hS, R_110_21 hR, R_110_30 hR, R_110_32 hR, R_110_33 hR, R_110_77 hR, R_110_78 hR, R_110_79 hR, R_110_81 hR, R_110_82 hR, R_110_83 hR, R_110_84 hR, R_110_85 hR, R_110_86 hR]
      refine hK _ _ ⟨⟨j1, j2⟩, ?_, fun j hj hF => ?_, rfl⟩
      · simp only [gKF, if_neg f1]; exact j3
      · by_cases e : j = b
        · subst e; exact absurd hF f1
        · exact j4 j (by omega) hF
    · have u1 : μ'.1 (β + 159) b = nI 1 := (j2 _ _ (by omega)).trans f3
      have u2 : μ'.1 (β + 160) b = nI (R b) := (j2 _ _ (by omega)).trans f4
      have u3 : μ'.1 (β + 161) b = nI (C b) := (j2 _ _ (by omega)).trans f5
      have hcb := hcw b hb f1
      refine b_X11_lay_150 hX ?_
      simp (disch := omega) only [B_X11_lay_150, ↓n_gb, ↓n_gb0, ↓n_ic, ↓n_icm, ↓n_lc, ↓e_lc, ↓e_null, ↓e_ldI, ↓e_ldL, ↓e_ldA, ↓e_stI, ↓e_stL, ↓e_stA, ↓n_inc, ↓n_incm1, ↓n_incm8, ↓e_iadd, ↓e_isub, ↓e_imul, ↓e_iand, ↓e_ior, ↓e_ixor, ↓n_ishl, ↓n_ishr, ↓e_iushr, ↓n_idiv, ↓e_ineg, ↓e_ladd, ↓e_lsub, ↓e_lmul, ↓e_lor, ↓e_lshl, ↓e_lshr, ↓e_i2l, ↓e_l2i, ↓e_i2b, ↓e_lcmp, ↓e_dup, ↓e_dup2, ↓e_pop, ↓e_ceq, ↓e_cne, ↓e_clt, ↓e_cge, ↓e_cgt, ↓e_cle, ↓n_zeq, ↓n_zne, ↓n_zlt, ↓n_zge, ↓n_zgt, ↓n_zle, ↓e_goto, ↓e_nn, ↓e_retI, ↓e_retL, ↓e_retV, ↓n_retZ, ↓e_retA, ↓e_gfI, ↓e_gfL, ↓e_gfR, ↓e_pfI, ↓n_pfZ, ↓e_pfL, ↓e_pfR, ↓e_iald, ↓e_lald, ↓e_aald, ↓e_alen, ↓e_iast, ↓e_bast, ↓n_zast, ↓e_last, ↓e_aast, ↓e_cV, ↓e_cS, ↓e_gsW, ↓e_gsK, ↓e_mmax, ↓e_mmin, ↓e_mmaxL, ↓e_mminL, gEnt, gPad, gArgs, gGet, gS1, gS2, gCl, gNo, gSp, gCt, n_sw, n_gSw, n_gSw0, Option.toList, List.cons_append, List.nil_append, Value.category, and_true, true_and, and_self, not_false_eq_true, not_true_eq_false, Nat.reduceAdd, Nat.reduceSub, Nat.reduceMul, Nat.reduceLeDiff, Nat.reduceLT, Nat.reduceEqDiff, forall_const, true_implies, false_implies, implies_true, Nat.zero_add, Option.some.injEq, Sum.inr.injEq, Sum.inl.injEq, Prod.mk.injEq, exists_eq_left', exists_eq_left, w_ne0, nI_add, w_lt, w_le, w_eq, w_meq, w_eqm, w_mlt, w_ltm, w_mle, w_lem, w_clamp, w_in, w_31, w_ite0, w_ite1, w_ite01, true_or, or_true, false_or, or_false, Nat.le_refl, Nat.lt_irrefl, S_110 hS, S_119 hS, S_128 hS, S_130 hS, S_131 hS, S_159 hS, S_160 hS, S_161 hS, S_162 hS, S_163 hS, S_164 hS, S_165 hS, S_166 hS, S_167 hS, R_110_21 hR, R_110_30 hR, R_110_32 hR, R_110_33 hR, R_110_77 hR, R_110_78 hR, R_110_79 hR, R_110_81 hR, R_110_82 hR, R_110_83 hR, R_110_84 hR, R_110_85 hR, R_110_86 hR, k18, k119, hlv, hbn, hb6, u1, u2, u3]
      refine k_mStands hS hR hn hw8 hA' hb (by omega) (by omega) ?_
      simp (disch := omega) only [↓n_gb, ↓n_gb0, ↓n_ic, ↓n_icm, ↓n_lc, ↓e_lc, ↓e_null, ↓e_ldI, ↓e_ldL, ↓e_ldA, ↓e_stI, ↓e_stL, ↓e_stA, ↓n_inc, ↓n_incm1, ↓n_incm8, ↓e_iadd, ↓e_isub, ↓e_imul, ↓e_iand, ↓e_ior, ↓e_ixor, ↓n_ishl, ↓n_ishr, ↓e_iushr, ↓n_idiv, ↓e_ineg, ↓e_ladd, ↓e_lsub, ↓e_lmul, ↓e_lor, ↓e_lshl, ↓e_lshr, ↓e_i2l, ↓e_l2i, ↓e_i2b, ↓e_lcmp, ↓e_dup, ↓e_dup2, ↓e_pop, ↓e_ceq, ↓e_cne, ↓e_clt, ↓e_cge, ↓e_cgt, ↓e_cle, ↓n_zeq, ↓n_zne, ↓n_zlt, ↓n_zge, ↓n_zgt, ↓n_zle, ↓e_goto, ↓e_nn, ↓e_retI, ↓e_retL, ↓e_retV, ↓n_retZ, ↓e_retA, ↓e_gfI, ↓e_gfL, ↓e_gfR, ↓e_pfI, ↓n_pfZ, ↓e_pfL, ↓e_pfR, ↓e_iald, ↓e_lald, ↓e_aald, ↓e_alen, ↓e_iast, ↓e_bast, ↓n_zast, ↓e_last, ↓e_aast, ↓e_cV, ↓e_cS, ↓e_gsW, ↓e_gsK, ↓e_mmax, ↓e_mmin, ↓e_mmaxL, ↓e_mminL, gEnt, gPad, gArgs, gGet, gS1, gS2, gCl, gNo, gSp, gCt, n_sw, n_gSw, n_gSw0, Option.toList, List.cons_append, List.nil_append, Value.category, and_true, true_and, and_self, not_false_eq_true, not_true_eq_false, Nat.reduceAdd, Nat.reduceSub, Nat.reduceMul, Nat.reduceLeDiff, Nat.reduceLT, Nat.reduceEqDiff, forall_const, true_implies, false_implies, implies_true, Nat.zero_add, Option.some.injEq, Sum.inr.injEq, Sum.inl.injEq, Prod.mk.injEq, exists_eq_left', exists_eq_left, w_ne0, nI_add, w_lt, w_le, w_eq, w_meq, w_eqm, w_mlt, w_ltm, w_mle, w_lem, w_clamp, w_in, w_31, w_ite0, w_ite1, w_ite01, true_or, or_true, false_or, or_false, Nat.le_refl, Nat.lt_irrefl, S_110 hS, S_119 hS, S_128 hS, S_130 hS, S_131 hS, S_159 hS, S_160 hS, S_161 hS, S_162 hS, S_163 hS, S_164 hS, S_165 hS, S_166 hS, S_167 hS, R_110_21 hR, R_110_30 hR, R_110_32 hR, R_110_33 hR, R_110_77 hR, R_110_78 hR, R_110_79 hR, R_110_81 hR, R_110_82 hR, R_110_83 hR, R_110_84 hR, R_110_85 hR, R_110_86 hR]
      refine b_X11_lay_194 hX ?_
      simp (disch := omega) only [B_X11_lay_194, ↓n_gb, ↓n_gb0, ↓n_ic, ↓n_icm, ↓n_lc, ↓e_lc, ↓e_null, ↓e_ldI, ↓e_ldL, ↓e_ldA, ↓e_stI, ↓e_stL, ↓e_stA, ↓n_inc, ↓n_incm1, ↓n_incm8, ↓e_iadd, ↓e_isub, ↓e_imul, ↓e_iand, ↓e_ior, ↓e_ixor, ↓n_ishl, ↓n_ishr, ↓e_iushr, ↓n_idiv, ↓e_ineg, ↓e_ladd, ↓e_lsub, ↓e_lmul, ↓e_lor, ↓e_lshl, ↓e_lshr, ↓e_i2l, ↓e_l2i, ↓e_i2b, ↓e_lcmp, ↓e_dup, ↓e_dup2, ↓e_pop, ↓e_ceq, ↓e_cne, ↓e_clt, ↓e_cge, ↓e_cgt, ↓e_cle, ↓n_zeq, ↓n_zne, ↓n_zlt, ↓n_zge, ↓n_zgt, ↓n_zle, ↓e_goto, ↓e_nn, ↓e_retI, ↓e_retL, ↓e_retV, ↓n_retZ, ↓e_retA, ↓e_gfI, ↓e_gfL, ↓e_gfR, ↓e_pfI, ↓n_pfZ, ↓e_pfL, ↓e_pfR, ↓e_iald, ↓e_lald, ↓e_aald, ↓e_alen, ↓e_iast, ↓e_bast, ↓n_zast, ↓e_last, ↓e_aast, ↓e_cV, ↓e_cS, ↓e_gsW, ↓e_gsK, ↓e_mmax, ↓e_mmin, ↓e_mmaxL, ↓e_mminL, gEnt, gPad, gArgs, gGet, gS1, gS2, gCl, gNo, gSp, gCt, n_sw, n_gSw, n_gSw0, Option.toList, List.cons_append, List.nil_append, Value.category, and_true, true_and, and_self, not_false_eq_true, not_true_eq_false, Nat.reduceAdd, Nat.reduceSub, Nat.reduceMul, Nat.reduceLeDiff, Nat.reduceLT, Nat.reduceEqDiff, forall_const, true_implies, false_implies, implies_true, Nat.zero_add, Option.some.injEq, Sum.inr.injEq, Sum.inl.injEq, Prod.mk.injEq, exists_eq_left', exists_eq_left, w_ne0, nI_add, w_lt, w_le, w_eq, w_meq, w_eqm, w_mlt, w_ltm, w_mle, w_lem, w_clamp, w_in, w_31, w_ite0, w_ite1, w_ite01, true_or, or_true, false_or, or_false, Nat.le_refl, Nat.lt_irrefl, S_110 hS, S_119 hS, S_128 hS, S_130 hS, S_131 hS, S_159 hS, S_160 hS, S_161 hS, S_162 hS, S_163 hS, S_164 hS, S_165 hS, S_166 hS, S_167 hS, R_110_21 hR, R_110_30 hR, R_110_32 hR, R_110_33 hR, R_110_77 hR, R_110_78 hR, R_110_79 hR, R_110_81 hR, R_110_82 hR, R_110_83 hR, R_110_84 hR, R_110_85 hR, R_110_86 hR]
      refine hK _ _ ⟨⟨j1, fun a i q => ?_⟩, fun i hi => ?_, fun j hj hF => ?_, rfl⟩
      · dsimp only; rw [gW_n (by omega), gU_n (by omega), gU_n (by omega)]; exact j2 a i q
      · dsimp only
        rw [gW_s]
        simp only [gKF, if_pos f1, gPut]
        rw [j3 i hi]
        by_cases q : R b ≤ i ∧ i < R b + G b
        · rw [if_pos q, if_pos q, w_or]
        · rw [if_neg q, if_neg q]
      · dsimp only
        by_cases e : j = b
        · subst e
          rw [gW_n (by omega), gU_n (by omega), gU_s, gW_n (by omega), gU_s]
          exact ⟨rfl, rfl⟩
        · rw [gW_n (by omega), gU_n (by omega), gU_n (by omega), gW_n (by omega), gU_n (by omega), gU_n (by omega)]
          exact j4 j (by omega) hF
  rintro μ2 _ ⟨⟨j1, j2⟩, j3, j4, rfl⟩
  have hR2 : gPS μ2.2.2 β := by rw [j1]; exact hR0
  have hR := hR2
  have k18 : μ2.1 (β + 110) 18 = nI lv := (j2 _ _ (by omega)).trans h18
  have k119 : μ2.1 (β + 119) lv = nI n := (j2 _ _ (by omega)).trans h119
  have hht : gHF F G R n ≤ 36 := gHF_le (n := n) (fun k hk hF => by
    rcases hfx k hk with ⟨z1, z2⟩ | ⟨z1, z2, z3, z4, z5⟩
    · exact absurd hF z1
    · have := (hat k hk).2.2.2.2.2.2.2
      omega) n (Nat.le_refl _)
  refine b_X11_lay_150 hX ?_
  simp (disch := omega) only [B_X11_lay_150, ↓n_gb, ↓n_gb0, ↓n_ic, ↓n_icm, ↓n_lc, ↓e_lc, ↓e_null, ↓e_ldI, ↓e_ldL, ↓e_ldA, ↓e_stI, ↓e_stL, ↓e_stA, ↓n_inc, ↓n_incm1, ↓n_incm8, ↓e_iadd, ↓e_isub, ↓e_imul, ↓e_iand, ↓e_ior, ↓e_ixor, ↓n_ishl, ↓n_ishr, ↓e_iushr, ↓n_idiv, ↓e_ineg, ↓e_ladd, ↓e_lsub, ↓e_lmul, ↓e_lor, ↓e_lshl, ↓e_lshr, ↓e_i2l, ↓e_l2i, ↓e_i2b, ↓e_lcmp, ↓e_dup, ↓e_dup2, ↓e_pop, ↓e_ceq, ↓e_cne, ↓e_clt, ↓e_cge, ↓e_cgt, ↓e_cle, ↓n_zeq, ↓n_zne, ↓n_zlt, ↓n_zge, ↓n_zgt, ↓n_zle, ↓e_goto, ↓e_nn, ↓e_retI, ↓e_retL, ↓e_retV, ↓n_retZ, ↓e_retA, ↓e_gfI, ↓e_gfL, ↓e_gfR, ↓e_pfI, ↓n_pfZ, ↓e_pfL, ↓e_pfR, ↓e_iald, ↓e_lald, ↓e_aald, ↓e_alen, ↓e_iast, ↓e_bast, ↓n_zast, ↓e_last, ↓e_aast, ↓e_cV, ↓e_cS, ↓e_gsW, ↓e_gsK, ↓e_mmax, ↓e_mmin, ↓e_mmaxL, ↓e_mminL, gEnt, gPad, gArgs, gGet, gS1, gS2, gCl, gNo, gSp, gCt, n_sw, n_gSw, n_gSw0, Option.toList, List.cons_append, List.nil_append, Value.category, and_true, true_and, and_self, not_false_eq_true, not_true_eq_false, Nat.reduceAdd, Nat.reduceSub, Nat.reduceMul, Nat.reduceLeDiff, Nat.reduceLT, Nat.reduceEqDiff, forall_const, true_implies, false_implies, implies_true, Nat.zero_add, Option.some.injEq, Sum.inr.injEq, Sum.inl.injEq, Prod.mk.injEq, exists_eq_left', exists_eq_left, w_ne0, nI_add, w_lt, w_le, w_eq, w_meq, w_eqm, w_mlt, w_ltm, w_mle, w_lem, w_clamp, w_in, w_31, w_ite0, w_ite1, w_ite01, true_or, or_true, false_or, or_false, Nat.le_refl, Nat.lt_irrefl, S_110 hS, S_119 hS, S_128 hS, S_130 hS, S_131 hS, S_159 hS, S_160 hS, S_161 hS, S_162 hS, S_163 hS, S_164 hS, S_165 hS, S_166 hS, S_167 hS, R_110_21 hR, R_110_30 hR, R_110_32 hR, R_110_33 hR, R_110_77 hR, R_110_78 hR, R_110_79 hR, R_110_81 hR, R_110_82 hR, R_110_83 hR, R_110_84 hR, R_110_85 hR, R_110_86 hR, k18, k119, hlv]
  refine b_X11_lay_200 hX ?_
  simp (disch := omega) only [B_X11_lay_200, ↓n_gb, ↓n_gb0, ↓n_ic, ↓n_icm, ↓n_lc, ↓e_lc, ↓e_null, ↓e_ldI, ↓e_ldL, ↓e_ldA, ↓e_stI, ↓e_stL, ↓e_stA, ↓n_inc, ↓n_incm1, ↓n_incm8, ↓e_iadd, ↓e_isub, ↓e_imul, ↓e_iand, ↓e_ior, ↓e_ixor, ↓n_ishl, ↓n_ishr, ↓e_iushr, ↓n_idiv, ↓e_ineg, ↓e_ladd, ↓e_lsub, ↓e_lmul, ↓e_lor, ↓e_lshl, ↓e_lshr, ↓e_i2l, ↓e_l2i, ↓e_i2b, ↓e_lcmp, ↓e_dup, ↓e_dup2, ↓e_pop, ↓e_ceq, ↓e_cne, ↓e_clt, ↓e_cge, ↓e_cgt, ↓e_cle, ↓n_zeq, ↓n_zne, ↓n_zlt, ↓n_zge, ↓n_zgt, ↓n_zle, ↓e_goto, ↓e_nn, ↓e_retI, ↓e_retL, ↓e_retV, ↓n_retZ, ↓e_retA, ↓e_gfI, ↓e_gfL, ↓e_gfR, ↓e_pfI, ↓n_pfZ, ↓e_pfL, ↓e_pfR, ↓e_iald, ↓e_lald, ↓e_aald, ↓e_alen, ↓e_iast, ↓e_bast, ↓n_zast, ↓e_last, ↓e_aast, ↓e_cV, ↓e_cS, ↓e_gsW, ↓e_gsK, ↓e_mmax, ↓e_mmin, ↓e_mmaxL, ↓e_mminL, gEnt, gPad, gArgs, gGet, gS1, gS2, gCl, gNo, gSp, gCt, n_sw, n_gSw, n_gSw0, Option.toList, List.cons_append, List.nil_append, Value.category, and_true, true_and, and_self, not_false_eq_true, not_true_eq_false, Nat.reduceAdd, Nat.reduceSub, Nat.reduceMul, Nat.reduceLeDiff, Nat.reduceLT, Nat.reduceEqDiff, forall_const, true_implies, false_implies, implies_true, Nat.zero_add, Option.some.injEq, Sum.inr.injEq, Sum.inl.injEq, Prod.mk.injEq, exists_eq_left', exists_eq_left, w_ne0, nI_add, w_lt, w_le, w_eq, w_meq, w_eqm, w_mlt, w_ltm, w_mle, w_lem, w_clamp, w_in, w_31, w_ite0, w_ite1, w_ite01, true_or, or_true, false_or, or_false, Nat.le_refl, Nat.lt_irrefl, S_110 hS, S_119 hS, S_128 hS, S_130 hS, S_131 hS, S_159 hS, S_160 hS, S_161 hS, S_162 hS, S_163 hS, S_164 hS, S_165 hS, S_166 hS, S_167 hS, R_110_21 hR, R_110_30 hR, R_110_32 hR, R_110_33 hR, R_110_77 hR, R_110_78 hR, R_110_79 hR, R_110_81 hR, R_110_82 hR, R_110_83 hR, R_110_84 hR, R_110_85 hR, R_110_86 hR]
  refine gLoop (I := fun i μ' lc => gFrL β μ μ' ∧ (∃ tk ht sm rw cl pl, gRL W D G w p (gKF F D G R C n) (gHF F G R n) (gSF F W R n) (fun k => if F k then R k else 0) (fun k => if F k then C k else 0) = gRL W D G w (p.drop i) tk ht sm rw cl ∧ (∀ t, t < 100 → μ'.1 (β + 167) t = nI (tk t)) ∧ (∀ t, ht ≤ t → tk t = 0) ∧ ht + 6 * (cnt - i) ≤ 72 ∧ ht = gHm pl G rw n ∧ sm = gSu pl W rw n ∧ (∀ j, j < n → (pl j = true ↔ F j ∨ j ∈ p.take i)) ∧ (∀ j, j < n → pl j = true → rw j ≤ 72 ∧ μ'.1 (β + 164) j = nI (rw j) ∧ μ'.1 (β + 165) j = nI (cl j))) ∧ lc = [some (.ref (β + 110)), some (.int (nI w)), some (.int (nI cnt)), some (.int x3), some (.int x4), some (.int (nI 1)), some (.int (nI i)), y7, y8]) cnt ?_ ?_ 0 (by omega) _ _ ⟨⟨j1, j2⟩, ⟨gKF F D G R C n, gHF F G R n, gSF F W R n, fun k => if F k then R k else 0, fun k => if F k then C k else 0, fun j => decide (F j), rfl, j3, fun t ht => gKF_0 n ht, by omega, (gHm_F (fun k hF => if_pos hF) n).symm, (gSu_F (fun k hF => if_pos hF) n).symm, fun j _ => by simp, fun j hj hF => ?_⟩, rfl⟩
  · rintro i μ' _ hi ⟨⟨k1, k2⟩, ⟨tk, ht, sm, rw, cl, pl, e1, e2, e3, e4, e5, e6, e7, e8⟩, rfl⟩ hK
    have hR : gPS μ'.2.2 β := by rw [k1]; exact hR0
    have hA' : gLMd β lv n w W D G μ' := gLMd_c (fun a i q => k2 a i (by omega)) hA
    have hic : ¬ cnt ≤ i := by omega
    have hi6 : i < 6 := by omega
    have hdrop : p.drop i = gOf p i :: p.drop (i + 1) := by
      rw [List.drop_eq_getElem_cons (by omega)]
      simp only [gOf, List.getD_eq_getElem?_getD, List.getElem?_eq_getElem (show i < p.length by omega), Option.getD_some]
    have hmi : gOf p i ∈ p := by
      simp only [gOf, List.getD_eq_getElem?_getD, List.getElem?_eq_getElem (show i < p.length by omega), Option.getD_some]
      exact List.getElem_mem _
    obtain ⟨q1, q2⟩ := (hmem _).mp hmi
    have hti : p.take (i + 1) = p.take i ++ [gOf p i] := by
      rw [List.take_succ]
      simp only [gOf, List.getD_eq_getElem?_getD, List.getElem?_eq_getElem (show i < p.length by omega), Option.getD_some, Option.toList]
    have hnot : gOf p i ∉ p.take i := by
      have : (p.take (i + 1)).Nodup := hnd.sublist (List.take_sublist _ _)
      rw [hti, List.nodup_append] at this
      intro hm
      exact this.2.2 _ hm _ (List.mem_singleton.mpr rfl) rfl
    generalize hkk : gOf p i = k at hdrop hmi q1 q2 hti hnot
    obtain ⟨t0, t2, t3, t4, t5, t6, t7, t8⟩ := hat k q1
    have hpl : pl k = false := by
      refine Bool.eq_false_iff.mpr (fun z => ?_)
      rcases (e7 k q1).mp z with z | z
      · exact q2 z
      · exact hnot z
    obtain ⟨r, c, hr, hF⟩ := gFF_ex (g := G k) t6 e3
    have rk : μ'.1 (β + 166) i = nI k := by rw [k2 _ _ (by omega), hrow i hi, hkk]
    rw [hdrop] at e1
    simp only [gRL, gFit_eq hF] at e1
    refine b_X11_lay_203 hX ?_
    simp (disch := omega) only [B_X11_lay_203, ↓n_gb, ↓n_gb0, ↓n_ic, ↓n_icm, ↓n_lc, ↓e_lc, ↓e_null, ↓e_ldI, ↓e_ldL, ↓e_ldA, ↓e_stI, ↓e_stL, ↓e_stA, ↓n_inc, ↓n_incm1, ↓n_incm8, ↓e_iadd, ↓e_isub, ↓e_imul, ↓e_iand, ↓e_ior, ↓e_ixor, ↓n_ishl, ↓n_ishr, ↓e_iushr, ↓n_idiv, ↓e_ineg, ↓e_ladd, ↓e_lsub, ↓e_lmul, ↓e_lor, ↓e_lshl, ↓e_lshr, ↓e_i2l, ↓e_l2i, ↓e_i2b, ↓e_lcmp, ↓e_dup, ↓e_dup2, ↓e_pop, ↓e_ceq, ↓e_cne, ↓e_clt, ↓e_cge, ↓e_cgt, ↓e_cle, ↓n_zeq, ↓n_zne, ↓n_zlt, ↓n_zge, ↓n_zgt, ↓n_zle, ↓e_goto, ↓e_nn, ↓e_retI, ↓e_retL, ↓e_retV, ↓n_retZ, ↓e_retA, ↓e_gfI, ↓e_gfL, ↓e_gfR, ↓e_pfI, ↓n_pfZ, ↓e_pfL, ↓e_pfR, ↓e_iald, ↓e_lald, ↓e_aald, ↓e_alen, ↓e_iast, ↓e_bast, ↓n_zast, ↓e_last, ↓e_aast, ↓e_cV, ↓e_cS, ↓e_gsW, ↓e_gsK, ↓e_mmax, ↓e_mmin, ↓e_mmaxL, ↓e_mminL, gEnt, gPad, gArgs, gGet, gS1, gS2, gCl, gNo, gSp, gCt, n_sw, n_gSw, n_gSw0, Option.toList, List.cons_append, List.nil_append, Value.category, and_true, true_and, and_self, not_false_eq_true, not_true_eq_false, Nat.reduceAdd, Nat.reduceSub, Nat.reduceMul, Nat.reduceLeDiff, Nat.reduceLT, Nat.reduceEqDiff, forall_const, true_implies, false_implies, implies_true, Nat.zero_add, Option.some.injEq, Sum.inr.injEq, Sum.inl.injEq, Prod.mk.injEq, exists_eq_left', exists_eq_left, w_ne0, nI_add, w_lt, w_le, w_eq, w_meq, w_eqm, w_mlt, w_ltm, w_mle, w_lem, w_clamp, w_in, w_31, w_ite0, w_ite1, w_ite01, true_or, or_true, false_or, or_false, Nat.le_refl, Nat.lt_irrefl, S_110 hS, S_119 hS, S_128 hS, S_130 hS, S_131 hS, S_159 hS, S_160 hS, S_161 hS, S_162 hS, S_163 hS, S_164 hS, S_165 hS, S_166 hS, S_167 hS, R_110_21 hR, R_110_30 hR, R_110_32 hR, R_110_33 hR, R_110_77 hR, R_110_78 hR, R_110_79 hR, R_110_81 hR, R_110_82 hR, R_110_83 hR, R_110_84 hR, R_110_85 hR, R_110_86 hR, hic, hi6, rk]
    refine k_mComes hS hR hn hw8 hA' q1 e2 hF (by omega) ?_
    simp (disch := omega) only [↓n_gb, ↓n_gb0, ↓n_ic, ↓n_icm, ↓n_lc, ↓e_lc, ↓e_null, ↓e_ldI, ↓e_ldL, ↓e_ldA, ↓e_stI, ↓e_stL, ↓e_stA, ↓n_inc, ↓n_incm1, ↓n_incm8, ↓e_iadd, ↓e_isub, ↓e_imul, ↓e_iand, ↓e_ior, ↓e_ixor, ↓n_ishl, ↓n_ishr, ↓e_iushr, ↓n_idiv, ↓e_ineg, ↓e_ladd, ↓e_lsub, ↓e_lmul, ↓e_lor, ↓e_lshl, ↓e_lshr, ↓e_i2l, ↓e_l2i, ↓e_i2b, ↓e_lcmp, ↓e_dup, ↓e_dup2, ↓e_pop, ↓e_ceq, ↓e_cne, ↓e_clt, ↓e_cge, ↓e_cgt, ↓e_cle, ↓n_zeq, ↓n_zne, ↓n_zlt, ↓n_zge, ↓n_zgt, ↓n_zle, ↓e_goto, ↓e_nn, ↓e_retI, ↓e_retL, ↓e_retV, ↓n_retZ, ↓e_retA, ↓e_gfI, ↓e_gfL, ↓e_gfR, ↓e_pfI, ↓n_pfZ, ↓e_pfL, ↓e_pfR, ↓e_iald, ↓e_lald, ↓e_aald, ↓e_alen, ↓e_iast, ↓e_bast, ↓n_zast, ↓e_last, ↓e_aast, ↓e_cV, ↓e_cS, ↓e_gsW, ↓e_gsK, ↓e_mmax, ↓e_mmin, ↓e_mmaxL, ↓e_mminL, gEnt, gPad, gArgs, gGet, gS1, gS2, gCl, gNo, gSp, gCt, n_sw, n_gSw, n_gSw0, Option.toList, List.cons_append, List.nil_append, Value.category, and_true, true_and, and_self, not_false_eq_true, not_true_eq_false, Nat.reduceAdd, Nat.reduceSub, Nat.reduceMul, Nat.reduceLeDiff, Nat.reduceLT, Nat.reduceEqDiff, forall_const, true_implies, false_implies, implies_true, Nat.zero_add, Option.some.injEq, Sum.inr.injEq, Sum.inl.injEq, Prod.mk.injEq, exists_eq_left', exists_eq_left, w_ne0, nI_add, w_lt, w_le, w_eq, w_meq, w_eqm, w_mlt, w_ltm, w_mle, w_lem, w_clamp, w_in, w_31, w_ite0, w_ite1, w_ite01, true_or, or_true, false_or, or_false, Nat.le_refl, Nat.lt_irrefl, S_110 hS, S_119 hS, S_128 hS, S_130 hS, S_131 hS, S_159 hS, S_160 hS, S_161 hS, S_162 hS, S_163 hS, S_164 hS, S_165 hS, S_166 hS, S_167 hS, R_110_21 hR, R_110_30 hR, R_110_32 hR, R_110_33 hR, R_110_77 hR, R_110_78 hR, R_110_79 hR, R_110_81 hR, R_110_82 hR, R_110_83 hR, R_110_84 hR, R_110_85 hR, R_110_86 hR]
    refine hK _ _ ⟨⟨k1, fun a i q => ?_⟩, ⟨_, _, _, _, _, fun j => pl j || j == k, e1, fun t ht => ?_, fun t ht => ?_, by omega, ?_, ?_, fun j hj => ?_, fun j hj q => ?_⟩, rfl⟩
    · dsimp only; rw [gW_n (by omega), gU_n (by omega), gU_n (by omega)]; exact k2 a i q
    · dsimp only
      rw [gW_s]
      simp only [gPut]
      rw [e2 t ht]
      by_cases q : r ≤ t ∧ t < r + G k
      · rw [if_pos q, if_pos q, w_or]
      · rw [if_neg q, if_neg q]
    · simp only [gPut]
      rw [if_neg (by omega)]
      exact e3 t (by omega)
    · rw [gHm_up hpl n, if_pos q1, e5]
    · rw [gSu_up hpl n, if_pos q1, e6]
    · rw [hti]
      simp only [Bool.or_eq_true, beq_iff_eq, List.mem_append, List.mem_singleton, e7 j hj]
      constructor
      · rintro ((z | z) | z)
        · exact Or.inl z
        · exact Or.inr (Or.inl z)
        · exact Or.inr (Or.inr z)
      · rintro (z | z | z)
        · exact Or.inl (Or.inl z)
        · exact Or.inl (Or.inr z)
        · exact Or.inr z
    · dsimp only
      by_cases e : j = k
      · subst e
        rw [gW_n (by omega), gU_n (by omega), gU_s, gW_n (by omega), gU_s]
        simp only [gUp, if_true, and_true]
        omega
      · have q' : pl j = true := by
          dsimp only at q
          rw [show (j == k) = false by simpa using e, Bool.or_false] at q
          exact q
        rw [gW_n (by omega), gU_n (by omega), gU_n (by omega), gW_n (by omega), gU_n (by omega), gU_n (by omega)]
        simp only [gUp, if_neg e]
        exact e8 j hj q'
  · rintro μ' _ ⟨⟨k1, k2⟩, ⟨tk, ht, sm, rw, cl, pl, e1, e2, e3, e4, e5, e6, e7, e8⟩, rfl⟩
    have hall : ∀ j, j < n → pl j = true := by
      intro j hj
      refine (e7 j hj).mpr ?_
      by_cases hF : F j
      · exact Or.inl hF
      · refine Or.inr ?_
        rw [← hlen, List.take_length]
        exact (hmem j).mpr ⟨hj, hF⟩
    refine b_X11_lay_203 hX ?_
    simp (disch := omega) only [B_X11_lay_203, ↓n_gb, ↓n_gb0, ↓n_ic, ↓n_icm, ↓n_lc, ↓e_lc, ↓e_null, ↓e_ldI, ↓e_ldL, ↓e_ldA, ↓e_stI, ↓e_stL, ↓e_stA, ↓n_inc, ↓n_incm1, ↓n_incm8, ↓e_iadd, ↓e_isub, ↓e_imul, ↓e_iand, ↓e_ior, ↓e_ixor, ↓n_ishl, ↓n_ishr, ↓e_iushr, ↓n_idiv, ↓e_ineg, ↓e_ladd, ↓e_lsub, ↓e_lmul, ↓e_lor, ↓e_lshl, ↓e_lshr, ↓e_i2l, ↓e_l2i, ↓e_i2b, ↓e_lcmp, ↓e_dup, ↓e_dup2, ↓e_pop, ↓e_ceq, ↓e_cne, ↓e_clt, ↓e_cge, ↓e_cgt, ↓e_cle, ↓n_zeq, ↓n_zne, ↓n_zlt, ↓n_zge, ↓n_zgt, ↓n_zle, ↓e_goto, ↓e_nn, ↓e_retI, ↓e_retL, ↓e_retV, ↓n_retZ, ↓e_retA, ↓e_gfI, ↓e_gfL, ↓e_gfR, ↓e_pfI, ↓n_pfZ, ↓e_pfL, ↓e_pfR, ↓e_iald, ↓e_lald, ↓e_aald, ↓e_alen, ↓e_iast, ↓e_bast, ↓n_zast, ↓e_last, ↓e_aast, ↓e_cV, ↓e_cS, ↓e_gsW, ↓e_gsK, ↓e_mmax, ↓e_mmin, ↓e_mmaxL, ↓e_mminL, gEnt, gPad, gArgs, gGet, gS1, gS2, gCl, gNo, gSp, gCt, n_sw, n_gSw, n_gSw0, Option.toList, List.cons_append, List.nil_append, Value.category, and_true, true_and, and_self, not_false_eq_true, not_true_eq_false, Nat.reduceAdd, Nat.reduceSub, Nat.reduceMul, Nat.reduceLeDiff, Nat.reduceLT, Nat.reduceEqDiff, forall_const, true_implies, false_implies, implies_true, Nat.zero_add, Option.some.injEq, Sum.inr.injEq, Sum.inl.injEq, Prod.mk.injEq, exists_eq_left', exists_eq_left, w_ne0, nI_add, w_lt, w_le, w_eq, w_meq, w_eqm, w_mlt, w_ltm, w_mle, w_lem, w_clamp, w_in, w_31, w_ite0, w_ite1, w_ite01, true_or, or_true, false_or, or_false, Nat.le_refl, Nat.lt_irrefl, S_110 hS, S_119 hS, S_128 hS, S_130 hS, S_131 hS, S_159 hS, S_160 hS, S_161 hS, S_162 hS, S_163 hS, S_164 hS, S_165 hS, S_166 hS, S_167 hS, R_110_21 hR, R_110_30 hR, R_110_32 hR, R_110_33 hR, R_110_77 hR, R_110_78 hR, R_110_79 hR, R_110_81 hR, R_110_82 hR, R_110_83 hR, R_110_84 hR, R_110_85 hR, R_110_86 hR]
    refine hE μ' rw cl ⟨k1, k2⟩ (fun k hk => (e8 k hk (hall k hk)).2) ?_ (fun k hk => (e8 k hk (hall k hk)).1)
    rw [e1, ← hlen, List.drop_length]
    simp only [gRL]
    rw [e5, e6, gHm_all n hall, gSu_all n hall]
  · have hF' := of_decide_eq_true hF
    dsimp only
    rw [if_pos hF', if_pos hF']
    refine ⟨?_, j4 j hj hF'⟩
    rcases hfx j hj with ⟨z1, z2⟩ | ⟨z1, z2, z3, z4, z5⟩
    · exact absurd hF' z1
    · omega
