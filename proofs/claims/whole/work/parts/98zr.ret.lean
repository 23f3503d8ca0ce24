/-! THE TEXT, the class: a draft is hung -/
/-- box k, as the tell at T makes it -/
def dBx (β T t k : Nat) (μ μ' : gM) : Prop := (∀ i, i < 7 → μ'.1 (β + (19 + 3 * k)) i = μ.1 T (i + 4)) ∧ μ'.1 (β + (19 + 3 * k)) 7 = nI 0 ∧ μ'.1 (β + (19 + 3 * k)) 8 = gm1 ∧ μ'.1 (β + (19 + 3 * k)) 9 = nI 0 ∧ μ'.1 (β + (19 + 3 * k)) 10 = gm1 ∧ ∀ u, u ≤ t → μ'.1 (β + (20 + 3 * k)) u = gm1 ∧ μ'.2.1 (β + (21 + 3 * k)) u = lN 0
set_option maxHeartbeats 4000000 in
theorem k_become {S : gSh} {h β q j k t : Nat} {μ : gM} {P : gP} (hS : gLS S β) (hR : gPS μ.2.2 β) (hq : q = 56 ∨ q = 83) (hj : j < 18) (hk : k < 6) (ht : t < 400)
    (hP : ∀ μ', (∀ a i, ¬ (β + (19 + 3 * k) ≤ a ∧ a ≤ β + (21 + 3 * k)) → μ'.1 a i = μ.1 a i ∧ μ'.2.1 a i = μ.2.1 a i) → μ'.2.2 = μ.2.2 → dBx β (β + (q + 8 + j)) t k μ μ' → P none μ') : gRun S (h + 1) 0 [.ref (β + (19 + 3 * k)), .ref (β + (q + 8 + j)), .int (nI t)] μ P := by
  have tlS := tl_S hS hq hj
  refine r_X0_become (by simp [lg_sl, Value.category]) (fun X hX => ?_)
  refine b_X0_become_0 hX ?_
  simp (disch := omega) only [B_X0_become_0, ↓n_gb, ↓n_gb0, ↓n_ic, ↓n_icm, ↓n_lc, ↓e_lc, ↓e_null, ↓e_ldI, ↓e_ldL, ↓e_ldA, ↓e_stI, ↓e_stL, ↓e_stA, ↓n_inc, ↓n_incm1, ↓n_incm8, ↓e_iadd, ↓e_isub, ↓e_imul, ↓e_iand, ↓e_ior, ↓e_ixor, ↓n_ishl, ↓n_ishr, ↓e_iushr, ↓n_idiv, ↓e_ineg, ↓e_ladd, ↓e_lsub, ↓e_lmul, ↓e_lor, ↓e_lshl, ↓e_lshr, ↓e_i2l, ↓e_l2i, ↓e_i2b, ↓e_lcmp, ↓e_dup, ↓e_dup2, ↓e_pop, ↓e_ceq, ↓e_cne, ↓e_clt, ↓e_cge, ↓e_cgt, ↓e_cle, ↓n_zeq, ↓n_zne, ↓n_zlt, ↓n_zge, ↓n_zgt, ↓n_zle, ↓e_goto, ↓e_nn, ↓e_retI, ↓e_retL, ↓e_retV, ↓n_retZ, ↓e_retA, ↓e_gfI, ↓e_gfL, ↓e_gfR, ↓e_pfI, ↓n_pfZ, ↓e_pfL, ↓e_pfR, ↓e_iald, ↓e_lald, ↓e_aald, ↓e_alen, ↓e_iast, ↓e_bast, ↓n_zast, ↓e_last, ↓e_aast, ↓e_cV, ↓e_cS, ↓e_gsW, ↓e_gsK, ↓e_mmax, ↓e_mmin, ↓e_mmaxL, ↓e_mminL, gEnt, gPad, gArgs, gGet, gS1, gS2, gCl, gNo, gSp, gCt, n_sw, n_gSw, n_gSw0, Option.toList, List.cons_append, List.nil_append, Value.category, and_true, true_and, and_self, not_false_eq_true, not_true_eq_false, Nat.reduceAdd, Nat.reduceSub, Nat.reduceMul, Nat.reduceLeDiff, Nat.reduceLT, Nat.reduceEqDiff, forall_const, true_implies, false_implies, implies_true, Nat.zero_add, Option.some.injEq, Sum.inr.injEq, Sum.inl.injEq, Prod.mk.injEq, exists_eq_left', exists_eq_left, w_ne0, nI_add, w_lt, w_le, w_eq, w_meq, w_eqm, w_mlt, w_ltm, w_mle, w_lem, w_clamp, w_in, w_31, w_ite0, w_ite1, w_ite01, true_or, or_true, false_or, or_false, Nat.le_refl, Nat.lt_irrefl, tl_S hS hq, tl_r hR hq, bx_S hS, bx_S1 hS, bx_S2 hS, bx_r hR, bx_r1 hR, bx_r2 hR, gU_n]
  refine gLoop (I := fun u μ' lc => (∀ a i, ¬ (β + (19 + 3 * k) ≤ a ∧ a ≤ β + (21 + 3 * k)) → μ'.1 a i = μ.1 a i ∧ μ'.2.1 a i = μ.2.1 a i) ∧ μ'.2.2 = μ.2.2 ∧ ((∀ i, i < 7 → μ'.1 (β + (19 + 3 * k)) i = μ.1 (β + (q + 8 + j)) (i + 4)) ∧ μ'.1 (β + (19 + 3 * k)) 7 = nI 0 ∧ μ'.1 (β + (19 + 3 * k)) 8 = gm1 ∧ μ'.1 (β + (19 + 3 * k)) 9 = nI 0 ∧ μ'.1 (β + (19 + 3 * k)) 10 = gm1 ∧ ∀ u', u' < u → μ'.1 (β + (20 + 3 * k)) u' = gm1 ∧ μ'.2.1 (β + (21 + 3 * k)) u' = lN 0) ∧ lc = [some (.ref (β + (19 + 3 * k))), some (.ref (β + (q + 8 + j))), some (.int (nI t)), some (.int (nI u))]) (t + 1) ?_ ?_ 0 (by omega) _ _ ⟨fun a i x => ?_, rfl, ⟨fun i hi => ?_, ?_, ?_, ?_, ?_, fun u' hu => by omega⟩, rfl⟩
  · rintro u μ1 _ hu ⟨f1, f2, ⟨f3, f4, f5, f6, f7, f8⟩, rfl⟩ hkk
    have hR1 : gPS μ1.2.2 β := by rw [f2]; exact hR
    have hR := hR1
    have g1 : ¬ t < u := by omega
    have g2 : u < 400 := by omega
    have g3 : ¬ 400 ≤ u := by omega
    refine b_X0_become_83 hX ?_
    simp (disch := omega) only [B_X0_become_83, ↓n_gb, ↓n_gb0, ↓n_ic, ↓n_icm, ↓n_lc, ↓e_lc, ↓e_null, ↓e_ldI, ↓e_ldL, ↓e_ldA, ↓e_stI, ↓e_stL, ↓e_stA, ↓n_inc, ↓n_incm1, ↓n_incm8, ↓e_iadd, ↓e_isub, ↓e_imul, ↓e_iand, ↓e_ior, ↓e_ixor, ↓n_ishl, ↓n_ishr, ↓e_iushr, ↓n_idiv, ↓e_ineg, ↓e_ladd, ↓e_lsub, ↓e_lmul, ↓e_lor, ↓e_lshl, ↓e_lshr, ↓e_i2l, ↓e_l2i, ↓e_i2b, ↓e_lcmp, ↓e_dup, ↓e_dup2, ↓e_pop, ↓e_ceq, ↓e_cne, ↓e_clt, ↓e_cge, ↓e_cgt, ↓e_cle, ↓n_zeq, ↓n_zne, ↓n_zlt, ↓n_zge, ↓n_zgt, ↓n_zle, ↓e_goto, ↓e_nn, ↓e_retI, ↓e_retL, ↓e_retV, ↓n_retZ, ↓e_retA, ↓e_gfI, ↓e_gfL, ↓e_gfR, ↓e_pfI, ↓n_pfZ, ↓e_pfL, ↓e_pfR, ↓e_iald, ↓e_lald, ↓e_aald, ↓e_alen, ↓e_iast, ↓e_bast, ↓n_zast, ↓e_last, ↓e_aast, ↓e_cV, ↓e_cS, ↓e_gsW, ↓e_gsK, ↓e_mmax, ↓e_mmin, ↓e_mmaxL, ↓e_mminL, gEnt, gPad, gArgs, gGet, gS1, gS2, gCl, gNo, gSp, gCt, n_sw, n_gSw, n_gSw0, Option.toList, List.cons_append, List.nil_append, Value.category, and_true, true_and, and_self, not_false_eq_true, not_true_eq_false, Nat.reduceAdd, Nat.reduceSub, Nat.reduceMul, Nat.reduceLeDiff, Nat.reduceLT, Nat.reduceEqDiff, forall_const, true_implies, false_implies, implies_true, Nat.zero_add, Option.some.injEq, Sum.inr.injEq, Sum.inl.injEq, Prod.mk.injEq, exists_eq_left', exists_eq_left, w_ne0, nI_add, w_lt, w_le, w_eq, w_meq, w_eqm, w_mlt, w_ltm, w_mle, w_lem, w_clamp, w_in, w_31, w_ite0, w_ite1, w_ite01, true_or, or_true, false_or, or_false, Nat.le_refl, Nat.lt_irrefl, tl_S hS hq, tl_r hR hq, bx_S hS, bx_S1 hS, bx_S2 hS, bx_r hR, bx_r1 hR, bx_r2 hR, g1, g2, g3]
    refine hkk _ _ ⟨fun a i x => ?_, f2, ⟨fun i hi => ?_, ?_, ?_, ?_, ?_, fun u' hu' => ?_⟩, rfl⟩
    · dsimp only; rw [gU_n (by omega), gU_n (by omega)]; exact f1 a i x
    · dsimp only; rw [gU_n (by omega)]; exact f3 i hi
    · dsimp only; rw [gU_n (by omega)]; exact f4
    · dsimp only; rw [gU_n (by omega)]; exact f5
    · dsimp only; rw [gU_n (by omega)]; exact f6
    · dsimp only; rw [gU_n (by omega)]; exact f7
    · dsimp only
      by_cases e : u' = u
      · rw [e, gU_s, gU_s]; exact ⟨rfl, rfl⟩
      · rw [gU_n (by omega), gU_n (by omega)]; exact f8 u' (by omega)
  · rintro μ1 _ ⟨f1, f2, ⟨f3, f4, f5, f6, f7, f8⟩, rfl⟩
    have hR1 : gPS μ1.2.2 β := by rw [f2]; exact hR
    have hR := hR1
    have g1 : t < t + 1 := by omega
    refine b_X0_become_83 hX ?_
    simp (disch := omega) only [B_X0_become_83, ↓n_gb, ↓n_gb0, ↓n_ic, ↓n_icm, ↓n_lc, ↓e_lc, ↓e_null, ↓e_ldI, ↓e_ldL, ↓e_ldA, ↓e_stI, ↓e_stL, ↓e_stA, ↓n_inc, ↓n_incm1, ↓n_incm8, ↓e_iadd, ↓e_isub, ↓e_imul, ↓e_iand, ↓e_ior, ↓e_ixor, ↓n_ishl, ↓n_ishr, ↓e_iushr, ↓n_idiv, ↓e_ineg, ↓e_ladd, ↓e_lsub, ↓e_lmul, ↓e_lor, ↓e_lshl, ↓e_lshr, ↓e_i2l, ↓e_l2i, ↓e_i2b, ↓e_lcmp, ↓e_dup, ↓e_dup2, ↓e_pop, ↓e_ceq, ↓e_cne, ↓e_clt, ↓e_cge, ↓e_cgt, ↓e_cle, ↓n_zeq, ↓n_zne, ↓n_zlt, ↓n_zge, ↓n_zgt, ↓n_zle, ↓e_goto, ↓e_nn, ↓e_retI, ↓e_retL, ↓e_retV, ↓n_retZ, ↓e_retA, ↓e_gfI, ↓e_gfL, ↓e_gfR, ↓e_pfI, ↓n_pfZ, ↓e_pfL, ↓e_pfR, ↓e_iald, ↓e_lald, ↓e_aald, ↓e_alen, ↓e_iast, ↓e_bast, ↓n_zast, ↓e_last, ↓e_aast, ↓e_cV, ↓e_cS, ↓e_gsW, ↓e_gsK, ↓e_mmax, ↓e_mmin, ↓e_mmaxL, ↓e_mminL, gEnt, gPad, gArgs, gGet, gS1, gS2, gCl, gNo, gSp, gCt, n_sw, n_gSw, n_gSw0, Option.toList, List.cons_append, List.nil_append, Value.category, and_true, true_and, and_self, not_false_eq_true, not_true_eq_false, Nat.reduceAdd, Nat.reduceSub, Nat.reduceMul, Nat.reduceLeDiff, Nat.reduceLT, Nat.reduceEqDiff, forall_const, true_implies, false_implies, implies_true, Nat.zero_add, Option.some.injEq, Sum.inr.injEq, Sum.inl.injEq, Prod.mk.injEq, exists_eq_left', exists_eq_left, w_ne0, nI_add, w_lt, w_le, w_eq, w_meq, w_eqm, w_mlt, w_ltm, w_mle, w_lem, w_clamp, w_in, w_31, w_ite0, w_ite1, w_ite01, true_or, or_true, false_or, or_false, Nat.le_refl, Nat.lt_irrefl, tl_S hS hq, tl_r hR hq, bx_S hS, bx_S1 hS, bx_S2 hS, bx_r hR, bx_r1 hR, bx_r2 hR, g1]
    refine b_X0_become_115 hX ?_
    simp (disch := omega) only [B_X0_become_115, ↓n_gb, ↓n_gb0, ↓n_ic, ↓n_icm, ↓n_lc, ↓e_lc, ↓e_null, ↓e_ldI, ↓e_ldL, ↓e_ldA, ↓e_stI, ↓e_stL, ↓e_stA, ↓n_inc, ↓n_incm1, ↓n_incm8, ↓e_iadd, ↓e_isub, ↓e_imul, ↓e_iand, ↓e_ior, ↓e_ixor, ↓n_ishl, ↓n_ishr, ↓e_iushr, ↓n_idiv, ↓e_ineg, ↓e_ladd, ↓e_lsub, ↓e_lmul, ↓e_lor, ↓e_lshl, ↓e_lshr, ↓e_i2l, ↓e_l2i, ↓e_i2b, ↓e_lcmp, ↓e_dup, ↓e_dup2, ↓e_pop, ↓e_ceq, ↓e_cne, ↓e_clt, ↓e_cge, ↓e_cgt, ↓e_cle, ↓n_zeq, ↓n_zne, ↓n_zlt, ↓n_zge, ↓n_zgt, ↓n_zle, ↓e_goto, ↓e_nn, ↓e_retI, ↓e_retL, ↓e_retV, ↓n_retZ, ↓e_retA, ↓e_gfI, ↓e_gfL, ↓e_gfR, ↓e_pfI, ↓n_pfZ, ↓e_pfL, ↓e_pfR, ↓e_iald, ↓e_lald, ↓e_aald, ↓e_alen, ↓e_iast, ↓e_bast, ↓n_zast, ↓e_last, ↓e_aast, ↓e_cV, ↓e_cS, ↓e_gsW, ↓e_gsK, ↓e_mmax, ↓e_mmin, ↓e_mmaxL, ↓e_mminL, gEnt, gPad, gArgs, gGet, gS1, gS2, gCl, gNo, gSp, gCt, n_sw, n_gSw, n_gSw0, Option.toList, List.cons_append, List.nil_append, Value.category, and_true, true_and, and_self, not_false_eq_true, not_true_eq_false, Nat.reduceAdd, Nat.reduceSub, Nat.reduceMul, Nat.reduceLeDiff, Nat.reduceLT, Nat.reduceEqDiff, forall_const, true_implies, false_implies, implies_true, Nat.zero_add, Option.some.injEq, Sum.inr.injEq, Sum.inl.injEq, Prod.mk.injEq, exists_eq_left', exists_eq_left, w_ne0, nI_add, w_lt, w_le, w_eq, w_meq, w_eqm, w_mlt, w_ltm, w_mle, w_lem, w_clamp, w_in, w_31, w_ite0, w_ite1, w_ite01, true_or, or_true, false_or, or_false, Nat.le_refl, Nat.lt_irrefl, tl_S hS hq, tl_r hR hq, bx_S hS, bx_S1 hS, bx_S2 hS, bx_r hR, bx_r1 hR, bx_r2 hR]
    exact hP μ1 f1 f2 ⟨f3, f4, f5, f6, f7, fun u hu => f8 u (by omega)⟩
  · dsimp only; simp (disch := omega) only [gU_n, and_self]
  · dsimp only
    rcases (show i = 0 ∨ i = 1 ∨ i = 2 ∨ i = 3 ∨ i = 4 ∨ i = 5 ∨ i = 6 by omega) with rfl | rfl | rfl | rfl | rfl | rfl | rfl <;> simp (disch := omega) only [gU_n, gU_s]
  · dsimp only; simp (disch := omega) only [gU_n, gU_s]
  · dsimp only; simp (disch := omega) only [gU_n, gU_s]
  · dsimp only; simp (disch := omega) only [gU_n, gU_s]
  · dsimp only; simp (disch := omega) only [gU_n, gU_s]
/-- what hanging leaves alone -/
def dHg (β : Nat) (μ μ' : gM) : Prop := (∀ a i, ¬ (a = β ∧ (i = 9 ∨ i = 11)) → ¬ (a = β + 48 ∧ i = 2) → ¬ (β + 19 ≤ a ∧ a ≤ β + 36) → μ'.1 a i = μ.1 a i) ∧ ∀ a i, ¬ (β + 19 ≤ a ∧ a ≤ β + 36) → μ'.2.1 a i = μ.2.1 a i
set_option maxHeartbeats 4000000 in
theorem k_hangDraft {S : gSh} {h β q q0 n t : Nat} {jj : Nat → Nat} {μ : gM} {P : gP} (hS : gLS S β) (hR : gPS μ.2.2 β) (hq : q = 56 ∨ q = 83) (hq0 : q0 = 56 ∨ q0 = 83) (h7 : μ.2.2 β 7 = β + q0) (h8 : μ.2.2 β 8 = β + q) (hn : n ≤ 6) (ht : t < 400) (h9 : μ.1 (β + q) 9 = nI n) (h10 : μ.1 β 10 = nI t) (hj : ∀ k, k < n → jj k < 18 ∧ μ.1 (β + (q + 2)) k = nI (jj k))
    (hP : ∀ μ', dHg β μ μ' → μ'.2.2 = gU (gU μ.2.2 β 8 (β + q0)) β 7 (β + q) → μ'.1 β 9 = nI n → μ'.1 β 11 = nI 0 → μ'.1 (β + 48) 2 = nI 0 → (∀ k, k < n → dBx β (β + (q + 8 + jj k)) t k μ μ') → P none μ') : gRun S (h + 2) 112 [.ref β] μ P := by
  have hR0 : gPS (gU (gU μ.2.2 β 8 (β + q0)) β 7 (β + q)) β := by
    intro e he
    have e1 : gPtF.all (fun e => !(e.1 == 0 && (e.2.1 == 7 || e.2.1 == 8))) = true := by decide +kernel
    have := (List.all_eq_true.mp e1) e he
    have hne : ¬ (e.1 = 0 ∧ (e.2.1 = 7 ∨ e.2.1 = 8)) := by
      intro z
      obtain ⟨z1, z2⟩ := z
      rw [z1] at this
      rcases z2 with z2 | z2 <;> rw [z2] at this <;> simp at this
    rw [gU_n (by omega), gU_n (by omega)]
    exact hR e he
  refine r_X10_hangDraft (by simp [lg_sl, Value.category]) (fun X hX => ?_)
  refine b_X10_hangDraft_0 hX ?_
  simp (disch := omega) only [B_X10_hangDraft_0, ↓n_gb, ↓n_gb0, ↓n_ic, ↓n_icm, ↓n_lc, ↓e_lc, ↓e_null, ↓e_ldI, ↓e_ldL, ↓e_ldA, ↓e_stI, ↓e_stL, ↓e_stA, ↓n_inc, ↓n_incm1, ↓n_incm8, ↓e_iadd, ↓e_isub, ↓e_imul, ↓e_iand, ↓e_ior, ↓e_ixor, ↓n_ishl, ↓n_ishr, ↓e_iushr, ↓n_idiv, ↓e_ineg, ↓e_ladd, ↓e_lsub, ↓e_lmul, ↓e_lor, ↓e_lshl, ↓e_lshr, ↓e_i2l, ↓e_l2i, ↓e_i2b, ↓e_lcmp, ↓e_dup, ↓e_dup2, ↓e_pop, ↓e_ceq, ↓e_cne, ↓e_clt, ↓e_cge, ↓e_cgt, ↓e_cle, ↓n_zeq, ↓n_zne, ↓n_zlt, ↓n_zge, ↓n_zgt, ↓n_zle, ↓e_goto, ↓e_nn, ↓e_retI, ↓e_retL, ↓e_retV, ↓n_retZ, ↓e_retA, ↓e_gfI, ↓e_gfL, ↓e_gfR, ↓e_pfI, ↓n_pfZ, ↓e_pfL, ↓e_pfR, ↓e_iald, ↓e_lald, ↓e_aald, ↓e_alen, ↓e_iast, ↓e_bast, ↓n_zast, ↓e_last, ↓e_aast, ↓e_cV, ↓e_cS, ↓e_gsW, ↓e_gsK, ↓e_mmax, ↓e_mmin, ↓e_mmaxL, ↓e_mminL, gEnt, gPad, gArgs, gGet, gS1, gS2, gCl, gNo, gSp, gCt, n_sw, n_gSw, n_gSw0, Option.toList, List.cons_append, List.nil_append, Value.category, and_true, true_and, and_self, not_false_eq_true, not_true_eq_false, Nat.reduceAdd, Nat.reduceSub, Nat.reduceMul, Nat.reduceLeDiff, Nat.reduceLT, Nat.reduceEqDiff, forall_const, true_implies, false_implies, implies_true, Nat.zero_add, Option.some.injEq, Sum.inr.injEq, Sum.inl.injEq, Prod.mk.injEq, exists_eq_left', exists_eq_left, w_ne0, nI_add, w_lt, w_le, w_eq, w_meq, w_eqm, w_mlt, w_ltm, w_mle, w_lem, w_clamp, w_in, w_31, w_ite0, w_ite1, w_ite01, true_or, or_true, false_or, or_false, Nat.le_refl, Nat.lt_irrefl, S_0 hS, S_18 hS, S_48 hS, R_0_3 hR, R_0_5 hR, sq_S0 hS hq, sq_S1 hS hq, sq_S2 hS hq, sq_S3 hS hq, sq_S4 hS hq, sq_S5 hS hq, sq_S6 hS hq, sq_S7 hS hq, sq_S26 hS hq, sq_r0 hR hq, sq_r1 hR hq, sq_r2 hR hq, sq_r3 hR hq, sq_r4 hR hq, sq_r5 hR hq, sq_r6 hR hq, tl_S hS hq, tl_r hR hq, bx_S hS, bx_S1 hS, bx_S2 hS, bx_r hR, bx_r1 hR, bx_r2 hR, h7, h8, gU_s, gU_n, h9]
  refine gLoop (I := fun k μ' lc => (∀ a i, ¬ (a = β ∧ i = 9) → ¬ (β + 19 ≤ a ∧ a ≤ β + 36) → μ'.1 a i = μ.1 a i) ∧ (∀ a i, ¬ (β + 19 ≤ a ∧ a ≤ β + 36) → μ'.2.1 a i = μ.2.1 a i) ∧ μ'.2.2 = gU (gU μ.2.2 β 8 (β + q0)) β 7 (β + q) ∧ μ'.1 β 9 = nI n ∧ (∀ k', k' < k → dBx β (β + (q + 8 + jj k')) t k' μ μ') ∧ lc = [some (.ref β), some (.ref (β + q)), some (.int (nI k))]) n ?_ ?_ 0 (by omega) _ _ ⟨fun a i x y => ?_, fun _ _ _ => rfl, rfl, ?_, fun k' hk' => by omega, rfl⟩
  · rintro k μ1 _ hk ⟨f1, f2, f3, f4, f5, rfl⟩ hkk
    have hR1 : gPS μ1.2.2 β := by rw [f3]; exact hR0
    have hR := hR1
    have h71 : μ1.2.2 β 7 = β + q := by rw [f3]; exact gU_s
    obtain ⟨j1, j2⟩ := hj k hk
    have j3 : μ1.1 (β + (q + 2)) k = nI (jj k) := by rw [f1 _ _ (by omega) (by omega)]; exact j2
    have h101 : μ1.1 β 10 = nI t := by rw [f1 _ _ (by omega) (by omega)]; exact h10
    have hk6 : k < 6 := by omega
    have g1 : ¬ n ≤ k := by omega
    refine b_X10_hangDraft_31 hX ?_
    simp (disch := omega) only [B_X10_hangDraft_31, ↓n_gb, ↓n_gb0, ↓n_ic, ↓n_icm, ↓n_lc, ↓e_lc, ↓e_null, ↓e_ldI, ↓e_ldL, ↓e_ldA, ↓e_stI, ↓e_stL, ↓e_stA, ↓n_inc, ↓n_incm1, ↓n_incm8, ↓e_iadd, ↓e_isub, ↓e_imul, ↓e_iand, ↓e_ior, ↓e_ixor, ↓n_ishl, ↓n_ishr, ↓e_iushr, ↓n_idiv, ↓e_ineg, ↓e_ladd, ↓e_lsub, ↓e_lmul, ↓e_lor, ↓e_lshl, ↓e_lshr, ↓e_i2l, ↓e_l2i, ↓e_i2b, ↓e_lcmp, ↓e_dup, ↓e_dup2, ↓e_pop, ↓e_ceq, ↓e_cne, ↓e_clt, ↓e_cge, ↓e_cgt, ↓e_cle, ↓n_zeq, ↓n_zne, ↓n_zlt, ↓n_zge, ↓n_zgt, ↓n_zle, ↓e_goto, ↓e_nn, ↓e_retI, ↓e_retL, ↓e_retV, ↓n_retZ, ↓e_retA, ↓e_gfI, ↓e_gfL, ↓e_gfR, ↓e_pfI, ↓n_pfZ, ↓e_pfL, ↓e_pfR, ↓e_iald, ↓e_lald, ↓e_aald, ↓e_alen, ↓e_iast, ↓e_bast, ↓n_zast, ↓e_last, ↓e_aast, ↓e_cV, ↓e_cS, ↓e_gsW, ↓e_gsK, ↓e_mmax, ↓e_mmin, ↓e_mmaxL, ↓e_mminL, gEnt, gPad, gArgs, gGet, gS1, gS2, gCl, gNo, gSp, gCt, n_sw, n_gSw, n_gSw0, Option.toList, List.cons_append, List.nil_append, Value.category, and_true, true_and, and_self, not_false_eq_true, not_true_eq_false, Nat.reduceAdd, Nat.reduceSub, Nat.reduceMul, Nat.reduceLeDiff, Nat.reduceLT, Nat.reduceEqDiff, forall_const, true_implies, false_implies, implies_true, Nat.zero_add, Option.some.injEq, Sum.inr.injEq, Sum.inl.injEq, Prod.mk.injEq, exists_eq_left', exists_eq_left, w_ne0, nI_add, w_lt, w_le, w_eq, w_meq, w_eqm, w_mlt, w_ltm, w_mle, w_lem, w_clamp, w_in, w_31, w_ite0, w_ite1, w_ite01, true_or, or_true, false_or, or_false, Nat.le_refl, Nat.lt_irrefl, S_0 hS, S_18 hS, S_48 hS, R_0_3 hR, R_0_5 hR, sq_S0 hS hq, sq_S1 hS hq, sq_S2 hS hq, sq_S3 hS hq, sq_S4 hS hq, sq_S5 hS hq, sq_S6 hS hq, sq_S7 hS hq, sq_S26 hS hq, sq_r0 hR hq, sq_r1 hR hq, sq_r2 hR hq, sq_r3 hR hq, sq_r4 hR hq, sq_r5 hR hq, sq_r6 hR hq, tl_S hS hq, tl_r hR hq, bx_S hS, bx_S1 hS, bx_S2 hS, bx_r hR, bx_r1 hR, bx_r2 hR, f4, g1, hk6, h71, j1, j3, h101]
    refine k_become (h := h) hS hR1 hq j1 hk6 ht (fun μ2 e1 e2 e3 => ?_)
    have hR2 : gPS μ2.2.2 β := by rw [e2]; exact hR1
    have hR := hR2
    simp (disch := omega) only [↓n_gb, ↓n_gb0, ↓n_ic, ↓n_icm, ↓n_lc, ↓e_lc, ↓e_null, ↓e_ldI, ↓e_ldL, ↓e_ldA, ↓e_stI, ↓e_stL, ↓e_stA, ↓n_inc, ↓n_incm1, ↓n_incm8, ↓e_iadd, ↓e_isub, ↓e_imul, ↓e_iand, ↓e_ior, ↓e_ixor, ↓n_ishl, ↓n_ishr, ↓e_iushr, ↓n_idiv, ↓e_ineg, ↓e_ladd, ↓e_lsub, ↓e_lmul, ↓e_lor, ↓e_lshl, ↓e_lshr, ↓e_i2l, ↓e_l2i, ↓e_i2b, ↓e_lcmp, ↓e_dup, ↓e_dup2, ↓e_pop, ↓e_ceq, ↓e_cne, ↓e_clt, ↓e_cge, ↓e_cgt, ↓e_cle, ↓n_zeq, ↓n_zne, ↓n_zlt, ↓n_zge, ↓n_zgt, ↓n_zle, ↓e_goto, ↓e_nn, ↓e_retI, ↓e_retL, ↓e_retV, ↓n_retZ, ↓e_retA, ↓e_gfI, ↓e_gfL, ↓e_gfR, ↓e_pfI, ↓n_pfZ, ↓e_pfL, ↓e_pfR, ↓e_iald, ↓e_lald, ↓e_aald, ↓e_alen, ↓e_iast, ↓e_bast, ↓n_zast, ↓e_last, ↓e_aast, ↓e_cV, ↓e_cS, ↓e_gsW, ↓e_gsK, ↓e_mmax, ↓e_mmin, ↓e_mmaxL, ↓e_mminL, gEnt, gPad, gArgs, gGet, gS1, gS2, gCl, gNo, gSp, gCt, n_sw, n_gSw, n_gSw0, Option.toList, List.cons_append, List.nil_append, Value.category, and_true, true_and, and_self, not_false_eq_true, not_true_eq_false, Nat.reduceAdd, Nat.reduceSub, Nat.reduceMul, Nat.reduceLeDiff, Nat.reduceLT, Nat.reduceEqDiff, forall_const, true_implies, false_implies, implies_true, Nat.zero_add, Option.some.injEq, Sum.inr.injEq, Sum.inl.injEq, Prod.mk.injEq, exists_eq_left', exists_eq_left, w_ne0, nI_add, w_lt, w_le, w_eq, w_meq, w_eqm, w_mlt, w_ltm, w_mle, w_lem, w_clamp, w_in, w_31, w_ite0, w_ite1, w_ite01, true_or, or_true, false_or, or_false, Nat.le_refl, Nat.lt_irrefl, S_0 hS, S_18 hS, S_48 hS, R_0_3 hR, R_0_5 hR, sq_S0 hS hq, sq_S1 hS hq, sq_S2 hS hq, sq_S3 hS hq, sq_S4 hS hq, sq_S5 hS hq, sq_S6 hS hq, sq_S7 hS hq, sq_S26 hS hq, sq_r0 hR hq, sq_r1 hR hq, sq_r2 hR hq, sq_r3 hR hq, sq_r4 hR hq, sq_r5 hR hq, sq_r6 hR hq, tl_S hS hq, tl_r hR hq, bx_S hS, bx_S1 hS, bx_S2 hS, bx_r hR, bx_r1 hR, bx_r2 hR]
    refine hkk _ _ ⟨fun a i x y => ?_, fun a i x => ?_, e2.trans f3, ?_, fun k' hk' => ?_, rfl⟩
    · rw [(e1 a i (by omega)).1]; exact f1 a i x y
    · rw [(e1 a i (by omega)).2]; exact f2 a i x
    · rw [(e1 β 9 (by omega)).1]; exact f4
    · by_cases e : k' = k
      · rw [e]
        obtain ⟨b1, b2, b3, b4, b5, b6⟩ := e3
        refine ⟨fun i hi => ?_, b2, b3, b4, b5, b6⟩
        rw [b1 i hi]
        exact f1 _ _ (by omega) (by omega)
      · obtain ⟨b1, b2, b3, b4, b5, b6⟩ := f5 k' (by omega)
        refine ⟨fun i hi => ?_, ?_, ?_, ?_, ?_, fun u hu => ?_⟩
        · rw [(e1 _ i (by omega)).1]; exact b1 i hi
        · rw [(e1 _ 7 (by omega)).1]; exact b2
        · rw [(e1 _ 8 (by omega)).1]; exact b3
        · rw [(e1 _ 9 (by omega)).1]; exact b4
        · rw [(e1 _ 10 (by omega)).1]; exact b5
        · rw [(e1 _ u (by omega)).1, (e1 _ u (by omega)).2]; exact b6 u hu
  · rintro μ1 _ ⟨f1, f2, f3, f4, f5, rfl⟩
    have hR1 : gPS μ1.2.2 β := by rw [f3]; exact hR0
    have hR := hR1
    refine b_X10_hangDraft_31 hX ?_
    simp (disch := omega) only [B_X10_hangDraft_31, ↓n_gb, ↓n_gb0, ↓n_ic, ↓n_icm, ↓n_lc, ↓e_lc, ↓e_null, ↓e_ldI, ↓e_ldL, ↓e_ldA, ↓e_stI, ↓e_stL, ↓e_stA, ↓n_inc, ↓n_incm1, ↓n_incm8, ↓e_iadd, ↓e_isub, ↓e_imul, ↓e_iand, ↓e_ior, ↓e_ixor, ↓n_ishl, ↓n_ishr, ↓e_iushr, ↓n_idiv, ↓e_ineg, ↓e_ladd, ↓e_lsub, ↓e_lmul, ↓e_lor, ↓e_lshl, ↓e_lshr, ↓e_i2l, ↓e_l2i, ↓e_i2b, ↓e_lcmp, ↓e_dup, ↓e_dup2, ↓e_pop, ↓e_ceq, ↓e_cne, ↓e_clt, ↓e_cge, ↓e_cgt, ↓e_cle, ↓n_zeq, ↓n_zne, ↓n_zlt, ↓n_zge, ↓n_zgt, ↓n_zle, ↓e_goto, ↓e_nn, ↓e_retI, ↓e_retL, ↓e_retV, ↓n_retZ, ↓e_retA, ↓e_gfI, ↓e_gfL, ↓e_gfR, ↓e_pfI, ↓n_pfZ, ↓e_pfL, ↓e_pfR, ↓e_iald, ↓e_lald, ↓e_aald, ↓e_alen, ↓e_iast, ↓e_bast, ↓n_zast, ↓e_last, ↓e_aast, ↓e_cV, ↓e_cS, ↓e_gsW, ↓e_gsK, ↓e_mmax, ↓e_mmin, ↓e_mmaxL, ↓e_mminL, gEnt, gPad, gArgs, gGet, gS1, gS2, gCl, gNo, gSp, gCt, n_sw, n_gSw, n_gSw0, Option.toList, List.cons_append, List.nil_append, Value.category, and_true, true_and, and_self, not_false_eq_true, not_true_eq_false, Nat.reduceAdd, Nat.reduceSub, Nat.reduceMul, Nat.reduceLeDiff, Nat.reduceLT, Nat.reduceEqDiff, forall_const, true_implies, false_implies, implies_true, Nat.zero_add, Option.some.injEq, Sum.inr.injEq, Sum.inl.injEq, Prod.mk.injEq, exists_eq_left', exists_eq_left, w_ne0, nI_add, w_lt, w_le, w_eq, w_meq, w_eqm, w_mlt, w_ltm, w_mle, w_lem, w_clamp, w_in, w_31, w_ite0, w_ite1, w_ite01, true_or, or_true, false_or, or_false, Nat.le_refl, Nat.lt_irrefl, S_0 hS, S_18 hS, S_48 hS, R_0_3 hR, R_0_5 hR, sq_S0 hS hq, sq_S1 hS hq, sq_S2 hS hq, sq_S3 hS hq, sq_S4 hS hq, sq_S5 hS hq, sq_S6 hS hq, sq_S7 hS hq, sq_S26 hS hq, sq_r0 hR hq, sq_r1 hR hq, sq_r2 hR hq, sq_r3 hR hq, sq_r4 hR hq, sq_r5 hR hq, sq_r6 hR hq, tl_S hS hq, tl_r hR hq, bx_S hS, bx_S1 hS, bx_S2 hS, bx_r hR, bx_r1 hR, bx_r2 hR, f4]
    refine b_X10_hangDraft_75 hX ?_
    simp (disch := omega) only [B_X10_hangDraft_75, ↓n_gb, ↓n_gb0, ↓n_ic, ↓n_icm, ↓n_lc, ↓e_lc, ↓e_null, ↓e_ldI, ↓e_ldL, ↓e_ldA, ↓e_stI, ↓e_stL, ↓e_stA, ↓n_inc, ↓n_incm1, ↓n_incm8, ↓e_iadd, ↓e_isub, ↓e_imul, ↓e_iand, ↓e_ior, ↓e_ixor, ↓n_ishl, ↓n_ishr, ↓e_iushr, ↓n_idiv, ↓e_ineg, ↓e_ladd, ↓e_lsub, ↓e_lmul, ↓e_lor, ↓e_lshl, ↓e_lshr, ↓e_i2l, ↓e_l2i, ↓e_i2b, ↓e_lcmp, ↓e_dup, ↓e_dup2, ↓e_pop, ↓e_ceq, ↓e_cne, ↓e_clt, ↓e_cge, ↓e_cgt, ↓e_cle, ↓n_zeq, ↓n_zne, ↓n_zlt, ↓n_zge, ↓n_zgt, ↓n_zle, ↓e_goto, ↓e_nn, ↓e_retI, ↓e_retL, ↓e_retV, ↓n_retZ, ↓e_retA, ↓e_gfI, ↓e_gfL, ↓e_gfR, ↓e_pfI, ↓n_pfZ, ↓e_pfL, ↓e_pfR, ↓e_iald, ↓e_lald, ↓e_aald, ↓e_alen, ↓e_iast, ↓e_bast, ↓n_zast, ↓e_last, ↓e_aast, ↓e_cV, ↓e_cS, ↓e_gsW, ↓e_gsK, ↓e_mmax, ↓e_mmin, ↓e_mmaxL, ↓e_mminL, gEnt, gPad, gArgs, gGet, gS1, gS2, gCl, gNo, gSp, gCt, n_sw, n_gSw, n_gSw0, Option.toList, List.cons_append, List.nil_append, Value.category, and_true, true_and, and_self, not_false_eq_true, not_true_eq_false, Nat.reduceAdd, Nat.reduceSub, Nat.reduceMul, Nat.reduceLeDiff, Nat.reduceLT, Nat.reduceEqDiff, forall_const, true_implies, false_implies, implies_true, Nat.zero_add, Option.some.injEq, Sum.inr.injEq, Sum.inl.injEq, Prod.mk.injEq, exists_eq_left', exists_eq_left, w_ne0, nI_add, w_lt, w_le, w_eq, w_meq, w_eqm, w_mlt, w_ltm, w_mle, w_lem, w_clamp, w_in, w_31, w_ite0, w_ite1, w_ite01, true_or, or_true, false_or, or_false, Nat.le_refl, Nat.lt_irrefl, S_0 hS, S_18 hS, S_48 hS, R_0_3 hR, R_0_5 hR, sq_S0 hS hq, sq_S1 hS hq, sq_S2 hS hq, sq_S3 hS hq, sq_S4 hS hq, sq_S5 hS hq, sq_S6 hS hq, sq_S7 hS hq, sq_S26 hS hq, sq_r0 hR hq, sq_r1 hR hq, sq_r2 hR hq, sq_r3 hR hq, sq_r4 hR hq, sq_r5 hR hq, sq_r6 hR hq, tl_S hS hq, tl_r hR hq, bx_S hS, bx_S1 hS, bx_S2 hS, bx_r hR, bx_r1 hR, bx_r2 hR]
    refine hP _ ⟨fun a i x y z => ?_, f2⟩ f3 ?_ ?_ ?_ (fun k hk => ?_)
    · dsimp only; rw [gU_n (by omega), gU_n (by omega)]; exact f1 a i (by omega) z
    · dsimp only; rw [gU_n (by omega), gU_n (by omega)]; exact f4
    · dsimp only; rw [gU_s]
    · dsimp only; rw [gU_n (by omega), gU_s]
    · obtain ⟨b1, b2, b3, b4, b5, b6⟩ := f5 k hk
      refine ⟨fun i hi => ?_, ?_, ?_, ?_, ?_, fun u hu => ?_⟩
      · dsimp only; rw [gU_n (by omega), gU_n (by omega)]; exact b1 i hi
      · dsimp only; rw [gU_n (by omega), gU_n (by omega)]; exact b2
      · dsimp only; rw [gU_n (by omega), gU_n (by omega)]; exact b3
      · dsimp only; rw [gU_n (by omega), gU_n (by omega)]; exact b4
      · dsimp only; rw [gU_n (by omega), gU_n (by omega)]; exact b5
      · dsimp only; rw [gU_n (by omega), gU_n (by omega)]; exact b6 u hu
  · dsimp only; rw [gU_n (by omega)]
  · dsimp only; rw [gU_s]
