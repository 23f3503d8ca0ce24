/-! PLANS, the class: the whole plan -/
set_option maxHeartbeats 4000000 in
theorem k_makePlan {S : gSh} {h β c t H : Nat} {E : Nat → gPE} {cn nd fr wo : Nat → Nat} {kb l0 : Nat → Nat → Nat} {ra : Nat → Option Nat} {μ : gM} {P : gP} (hS : gLS S β) (hR : gPS μ.2.2 β) (q : qC β c cn nd fr wo ra t H μ) (ht : t < 400) (h1 : 1 ≤ H) (hww : ∃ ww, (ww = 46 ∨ ww = 47) ∧ μ.2.2 (β + 37) 9 = β + ww ∧ μ.2.2 (β + 37) 10 = β + (93 - ww))
    (hfam : ∀ m, m < 2 ^ c → pWf (E m) ∧ ph (E m) = H ∧ qS β (E m) t μ ∧ pKp (E m) m c t cn nd fr ra (kb m) (l0 m) ∧ ∀ b, b < pK (E m) → l0 m b ≤ pF (E m) b + 1)
    (hP : ∀ m μ' g, m < 2 ^ c → pV (E m) H (l0 m) < 1000000 → (∀ m', m' < 2 ^ c → pV (E m') H (l0 m') < 1000000 → ¬ pKy (fun n => wo (cn n)) m' c < pKy (fun n => wo (cn n)) m c) → qFr β μ μ' → (∃ ww, (ww = 46 ∨ ww = 47) ∧ μ'.2.2 (β + 37) 9 = β + ww ∧ μ'.2.2 (β + 37) 10 = β + (93 - ww)) → (∀ i, i < H → g i = nI (pTx (E m) (l0 m) i)) → P (some (.int (nI (pV (E m) H (l0 m))))) (gW (gU (gU (gU μ'.1 (β + 48) 1 (nI t)) (β + 48) 2 (nI H)) (β + 48) 3 (nI (pLm cn m c))) (β + 49) g, μ'.2)) : gRun S (h + 5) 33 [.ref (β + 37), .ref (β + 48)] μ P := by
  have hc4 := q.1
  have q11 := q.2.1
  have hN : 2 ^ c ≤ 16 := Nat.pow_le_pow_right (n := 2) (by omega) hc4
  have hN1 : 1 ≤ 2 ^ c := Nat.pow_pos (by omega)
  have e1 : 1 <<< c = 2 ^ c := Nat.one_shiftLeft c
  have hR0 := hR
  have full : pV (E (2 ^ c - 1)) H (l0 (2 ^ c - 1)) < 1000000 := by
    obtain ⟨f1, f2, f3, f4, f5⟩ := hfam (2 ^ c - 1) (by omega)
    refine pV_0 f1 ?_ H _ (by omega)
    rw [f4.1]
    exact pZo_full ⟨c, by omega⟩
  refine r_X4_makePlan (by simp [lg_sl, Value.category]) (fun X hX => ?_)
  refine b_X4_makePlan_0 hX ?_
  simp (disch := omega) only [B_X4_makePlan_0, ↓n_gb, ↓n_gb0, ↓n_ic, ↓n_icm, ↓n_lc, ↓e_lc, ↓e_null, ↓e_ldI, ↓e_ldL, ↓e_ldA, ↓e_stI, ↓e_stL, ↓e_stA, ↓n_inc, ↓n_incm1, ↓n_incm8, ↓e_iadd, ↓e_isub, ↓e_imul, ↓e_iand, ↓e_ior, ↓e_ixor, ↓n_ishl, ↓n_ishr, ↓e_iushr, ↓n_idiv, ↓e_ineg, ↓e_ladd, ↓e_lsub, ↓e_lmul, ↓e_lor, ↓e_lshl, ↓e_lshr, ↓e_i2l, ↓e_l2i, ↓e_i2b, ↓e_lcmp, ↓e_dup, ↓e_dup2, ↓e_pop, ↓e_ceq, ↓e_cne, ↓e_clt, ↓e_cge, ↓e_cgt, ↓e_cle, ↓n_zeq, ↓n_zne, ↓n_zlt, ↓n_zge, ↓n_zgt, ↓n_zle, ↓e_goto, ↓e_nn, ↓e_retI, ↓e_retL, ↓e_retV, ↓n_retZ, ↓e_retA, ↓e_gfI, ↓e_gfL, ↓e_gfR, ↓e_pfI, ↓n_pfZ, ↓e_pfL, ↓e_pfR, ↓e_iald, ↓e_lald, ↓e_aald, ↓e_alen, ↓e_iast, ↓e_bast, ↓n_zast, ↓e_last, ↓e_aast, ↓e_cV, ↓e_cS, ↓e_gsW, ↓e_gsK, ↓e_mmax, ↓e_mmin, ↓e_mmaxL, ↓e_mminL, gEnt, gPad, gArgs, gGet, gS1, gS2, gCl, gNo, gSp, gCt, n_sw, n_gSw, n_gSw0, Option.toList, List.cons_append, List.nil_append, Value.category, and_true, true_and, and_self, not_false_eq_true, not_true_eq_false, Nat.reduceAdd, Nat.reduceSub, Nat.reduceMul, Nat.reduceLeDiff, Nat.reduceLT, Nat.reduceEqDiff, forall_const, true_implies, false_implies, implies_true, Nat.zero_add, Option.some.injEq, Sum.inr.injEq, Sum.inl.injEq, Prod.mk.injEq, exists_eq_left', exists_eq_left, w_ne0, nI_add, w_lt, w_le, w_eq, w_meq, w_eqm, w_mlt, w_ltm, w_mle, w_lem, w_clamp, w_in, w_31, w_ite0, w_ite1, w_ite01, true_or, or_true, false_or, or_false, Nat.le_refl, Nat.lt_irrefl, S_37 hS, q11, w_1s, e1]
  refine gLoop (I := fun n μ' lc => ∃ tr u v, qFr β μ μ' ∧ (∃ ww, (ww = 46 ∨ ww = 47) ∧ μ'.2.2 (β + 37) 9 = β + ww ∧ μ'.2.2 (β + 37) 10 = β + (93 - ww)) ∧ tr < 65536 ∧ (∀ m, m < 2 ^ c → tr.testBit m = true → ¬ pV (E m) H (l0 m) < 1000000) ∧ n ≤ pPo tr (2 ^ c) ∧ lc = [some (.ref (β + 37)), some (.ref (β + 48)), some (.int (nI (2 ^ c))), some (.int (nI tr)), some (.int (nI n)), u, v, none]) (2 ^ c) ?_ ?_ 0 (by omega) _ _ ⟨0, none, none, qFr_refl, hww, by omega, fun m hm hb => by simp at hb, by omega, rfl⟩
  · rintro n μ1 _ hn ⟨tr, u, v, fr1, wy, htr, hno, hpo, rfl⟩ hk
    have hR := qFr_R fr1 hR0
    have q1 := qFr_C fr1 q
    have huntr : tr.testBit (2 ^ c - 1) = false := by
      cases e : tr.testBit (2 ^ c - 1)
      · rfl
      · exact absurd full (hno _ (by omega) e)
    have hn16 : n < 16 := by omega
    refine b_X4_makePlan_12 hX ?_
    simp (disch := omega) only [B_X4_makePlan_12, ↓n_gb, ↓n_gb0, ↓n_ic, ↓n_icm, ↓n_lc, ↓e_lc, ↓e_null, ↓e_ldI, ↓e_ldL, ↓e_ldA, ↓e_stI, ↓e_stL, ↓e_stA, ↓n_inc, ↓n_incm1, ↓n_incm8, ↓e_iadd, ↓e_isub, ↓e_imul, ↓e_iand, ↓e_ior, ↓e_ixor, ↓n_ishl, ↓n_ishr, ↓e_iushr, ↓n_idiv, ↓e_ineg, ↓e_ladd, ↓e_lsub, ↓e_lmul, ↓e_lor, ↓e_lshl, ↓e_lshr, ↓e_i2l, ↓e_l2i, ↓e_i2b, ↓e_lcmp, ↓e_dup, ↓e_dup2, ↓e_pop, ↓e_ceq, ↓e_cne, ↓e_clt, ↓e_cge, ↓e_cgt, ↓e_cle, ↓n_zeq, ↓n_zne, ↓n_zlt, ↓n_zge, ↓n_zgt, ↓n_zle, ↓e_goto, ↓e_nn, ↓e_retI, ↓e_retL, ↓e_retV, ↓n_retZ, ↓e_retA, ↓e_gfI, ↓e_gfL, ↓e_gfR, ↓e_pfI, ↓n_pfZ, ↓e_pfL, ↓e_pfR, ↓e_iald, ↓e_lald, ↓e_aald, ↓e_alen, ↓e_iast, ↓e_bast, ↓n_zast, ↓e_last, ↓e_aast, ↓e_cV, ↓e_cS, ↓e_gsW, ↓e_gsK, ↓e_mmax, ↓e_mmin, ↓e_mmaxL, ↓e_mminL, gEnt, gPad, gArgs, gGet, gS1, gS2, gCl, gNo, gSp, gCt, n_sw, n_gSw, n_gSw0, Option.toList, List.cons_append, List.nil_append, Value.category, and_true, true_and, and_self, not_false_eq_true, not_true_eq_false, Nat.reduceAdd, Nat.reduceSub, Nat.reduceMul, Nat.reduceLeDiff, Nat.reduceLT, Nat.reduceEqDiff, forall_const, true_implies, false_implies, implies_true, Nat.zero_add, Option.some.injEq, Sum.inr.injEq, Sum.inl.injEq, Prod.mk.injEq, exists_eq_left', exists_eq_left, w_ne0, nI_add, w_lt, w_le, w_eq, w_meq, w_eqm, w_mlt, w_ltm, w_mle, w_lem, w_clamp, w_in, w_31, w_ite0, w_ite1, w_ite01, true_or, or_true, false_or, or_false, Nat.le_refl, Nat.lt_irrefl, S_37 hS]
    refine ⟨fun w => by omega, fun _ => ?_⟩
    refine k_nextToLeave (h := h + 1) hS hR q1 hN htr ⟨2 ^ c - 1, by omega, huntr⟩ (fun m m1 m2 m3 => ?_)
    obtain ⟨f1, f2, f3, f4, f5⟩ := hfam m m1
    have h10 := f1.2.2.2.2
    have hm16 : m < 16 := by omega
    simp (disch := omega) only [↓n_gb, ↓n_gb0, ↓n_ic, ↓n_icm, ↓n_lc, ↓e_lc, ↓e_null, ↓e_ldI, ↓e_ldL, ↓e_ldA, ↓e_stI, ↓e_stL, ↓e_stA, ↓n_inc, ↓n_incm1, ↓n_incm8, ↓e_iadd, ↓e_isub, ↓e_imul, ↓e_iand, ↓e_ior, ↓e_ixor, ↓n_ishl, ↓n_ishr, ↓e_iushr, ↓n_idiv, ↓e_ineg, ↓e_ladd, ↓e_lsub, ↓e_lmul, ↓e_lor, ↓e_lshl, ↓e_lshr, ↓e_i2l, ↓e_l2i, ↓e_i2b, ↓e_lcmp, ↓e_dup, ↓e_dup2, ↓e_pop, ↓e_ceq, ↓e_cne, ↓e_clt, ↓e_cge, ↓e_cgt, ↓e_cle, ↓n_zeq, ↓n_zne, ↓n_zlt, ↓n_zge, ↓n_zgt, ↓n_zle, ↓e_goto, ↓e_nn, ↓e_retI, ↓e_retL, ↓e_retV, ↓n_retZ, ↓e_retA, ↓e_gfI, ↓e_gfL, ↓e_gfR, ↓e_pfI, ↓n_pfZ, ↓e_pfL, ↓e_pfR, ↓e_iald, ↓e_lald, ↓e_aald, ↓e_alen, ↓e_iast, ↓e_bast, ↓n_zast, ↓e_last, ↓e_aast, ↓e_cV, ↓e_cS, ↓e_gsW, ↓e_gsK, ↓e_mmax, ↓e_mmin, ↓e_mmaxL, ↓e_mminL, gEnt, gPad, gArgs, gGet, gS1, gS2, gCl, gNo, gSp, gCt, n_sw, n_gSw, n_gSw0, Option.toList, List.cons_append, List.nil_append, Value.category, and_true, true_and, and_self, not_false_eq_true, not_true_eq_false, Nat.reduceAdd, Nat.reduceSub, Nat.reduceMul, Nat.reduceLeDiff, Nat.reduceLT, Nat.reduceEqDiff, forall_const, true_implies, false_implies, implies_true, Nat.zero_add, Option.some.injEq, Sum.inr.injEq, Sum.inl.injEq, Prod.mk.injEq, exists_eq_left', exists_eq_left, w_ne0, nI_add, w_lt, w_le, w_eq, w_meq, w_eqm, w_mlt, w_ltm, w_mle, w_lem, w_clamp, w_in, w_31, w_ite0, w_ite1, w_ite01, true_or, or_true, false_or, or_false, Nat.le_refl, Nat.lt_irrefl, S_37 hS, w_1s, w_or]
    refine k_findWay (E := E m) (kb := kb m) (l0 := l0 m) hS hR f1 (f2.symm ▸ q1) (qFr_S fr1 f3) f4 (fun j hj => ?_) hm16 ht (by omega) f5 wy (fun μ2 fr2 wy2 hv => ?_)
    · rw [f4.1] at hj
      have hz := pZo_le (m := m) c
      obtain ⟨n', n1, n2, n3⟩ := pZo_at ⟨m, hm16⟩ ⟨c, by omega⟩ ⟨j, by omega⟩ hj
      exact ⟨n'.val, n1, n2, n3⟩
    rw [f2] at hv ⊢
    have hRn := qFr_R fr2 hR
    by_cases hfe : pV (E m) H (l0 m) < 1000000
    · rw [if_pos hfe]
      have hdg := pDg_lt f1 (ph (E m)) (l0 m) (Nat.le_refl _) (by rw [f2]; exact hfe)
      rw [Nat.sub_self, f2] at hdg
      have hne : ¬ (pV (E m) H (l0 m) * 1099511627776 + pDg (E m) H (l0 m) = 9223372036854775807) := by omega
      simp (disch := omega) only [↓n_gb, ↓n_gb0, ↓n_ic, ↓n_icm, ↓n_lc, ↓e_lc, ↓e_null, ↓e_ldI, ↓e_ldL, ↓e_ldA, ↓e_stI, ↓e_stL, ↓e_stA, ↓n_inc, ↓n_incm1, ↓n_incm8, ↓e_iadd, ↓e_isub, ↓e_imul, ↓e_iand, ↓e_ior, ↓e_ixor, ↓n_ishl, ↓n_ishr, ↓e_iushr, ↓n_idiv, ↓e_ineg, ↓e_ladd, ↓e_lsub, ↓e_lmul, ↓e_lor, ↓e_lshl, ↓e_lshr, ↓e_i2l, ↓e_l2i, ↓e_i2b, ↓e_lcmp, ↓e_dup, ↓e_dup2, ↓e_pop, ↓e_ceq, ↓e_cne, ↓e_clt, ↓e_cge, ↓e_cgt, ↓e_cle, ↓n_zeq, ↓n_zne, ↓n_zlt, ↓n_zge, ↓n_zgt, ↓n_zle, ↓e_goto, ↓e_nn, ↓e_retI, ↓e_retL, ↓e_retV, ↓n_retZ, ↓e_retA, ↓e_gfI, ↓e_gfL, ↓e_gfR, ↓e_pfI, ↓n_pfZ, ↓e_pfL, ↓e_pfR, ↓e_iald, ↓e_lald, ↓e_aald, ↓e_alen, ↓e_iast, ↓e_bast, ↓n_zast, ↓e_last, ↓e_aast, ↓e_cV, ↓e_cS, ↓e_gsW, ↓e_gsK, ↓e_mmax, ↓e_mmin, ↓e_mmaxL, ↓e_mminL, gEnt, gPad, gArgs, gGet, gS1, gS2, gCl, gNo, gSp, gCt, n_sw, n_gSw, n_gSw0, Option.toList, List.cons_append, List.nil_append, Value.category, and_true, true_and, and_self, not_false_eq_true, not_true_eq_false, Nat.reduceAdd, Nat.reduceSub, Nat.reduceMul, Nat.reduceLeDiff, Nat.reduceLT, Nat.reduceEqDiff, forall_const, true_implies, false_implies, implies_true, Nat.zero_add, Option.some.injEq, Sum.inr.injEq, Sum.inl.injEq, Prod.mk.injEq, exists_eq_left', exists_eq_left, w_ne0, nI_add, w_lt, w_le, w_eq, w_meq, w_eqm, w_mlt, w_ltm, w_mle, w_lem, w_clamp, w_in, w_31, w_ite0, w_ite1, w_ite01, true_or, or_true, false_or, or_false, Nat.le_refl, Nat.lt_irrefl, S_37 hS, l_ceq, l_eq, hne]
      have q2 := qFr_C (qFr_t fr1 fr2) q
      refine k_writePlan (E := E m) (l0 := l0 m) hS hRn f1 (f2.symm ▸ q2) (by rw [f2]; exact hfe) (by rw [f2]; exact hv) hm16 (by rw [f2]) (fun g hg => ?_)
      rw [f2] at hg ⊢
      simp (disch := omega) only [↓n_gb, ↓n_gb0, ↓n_ic, ↓n_icm, ↓n_lc, ↓e_lc, ↓e_null, ↓e_ldI, ↓e_ldL, ↓e_ldA, ↓e_stI, ↓e_stL, ↓e_stA, ↓n_inc, ↓n_incm1, ↓n_incm8, ↓e_iadd, ↓e_isub, ↓e_imul, ↓e_iand, ↓e_ior, ↓e_ixor, ↓n_ishl, ↓n_ishr, ↓e_iushr, ↓n_idiv, ↓e_ineg, ↓e_ladd, ↓e_lsub, ↓e_lmul, ↓e_lor, ↓e_lshl, ↓e_lshr, ↓e_i2l, ↓e_l2i, ↓e_i2b, ↓e_lcmp, ↓e_dup, ↓e_dup2, ↓e_pop, ↓e_ceq, ↓e_cne, ↓e_clt, ↓e_cge, ↓e_cgt, ↓e_cle, ↓n_zeq, ↓n_zne, ↓n_zlt, ↓n_zge, ↓n_zgt, ↓n_zle, ↓e_goto, ↓e_nn, ↓e_retI, ↓e_retL, ↓e_retV, ↓n_retZ, ↓e_retA, ↓e_gfI, ↓e_gfL, ↓e_gfR, ↓e_pfI, ↓n_pfZ, ↓e_pfL, ↓e_pfR, ↓e_iald, ↓e_lald, ↓e_aald, ↓e_alen, ↓e_iast, ↓e_bast, ↓n_zast, ↓e_last, ↓e_aast, ↓e_cV, ↓e_cS, ↓e_gsW, ↓e_gsK, ↓e_mmax, ↓e_mmin, ↓e_mmaxL, ↓e_mminL, gEnt, gPad, gArgs, gGet, gS1, gS2, gCl, gNo, gSp, gCt, n_sw, n_gSw, n_gSw0, Option.toList, List.cons_append, List.nil_append, Value.category, and_true, true_and, and_self, not_false_eq_true, not_true_eq_false, Nat.reduceAdd, Nat.reduceSub, Nat.reduceMul, Nat.reduceLeDiff, Nat.reduceLT, Nat.reduceEqDiff, forall_const, true_implies, false_implies, implies_true, Nat.zero_add, Option.some.injEq, Sum.inr.injEq, Sum.inl.injEq, Prod.mk.injEq, exists_eq_left', exists_eq_left, w_ne0, nI_add, w_lt, w_le, w_eq, w_meq, w_eqm, w_mlt, w_ltm, w_mle, w_lem, w_clamp, w_in, w_31, w_ite0, w_ite1, w_ite01, true_or, or_true, false_or, or_false, Nat.le_refl, Nat.lt_irrefl, S_37 hS]
      refine hP m μ2 g m1 hfe (fun m' hm' hf' => ?_) (qFr_t fr1 fr2) wy2 hg
      refine m3 m' hm' ?_
      cases e : tr.testBit m'
      · rfl
      · exact absurd hf' (hno _ hm' e)
    · rw [if_neg hfe]
      have e9 : pMx = 9223372036854775807 := rfl
      simp (disch := omega) only [↓n_gb, ↓n_gb0, ↓n_ic, ↓n_icm, ↓n_lc, ↓e_lc, ↓e_null, ↓e_ldI, ↓e_ldL, ↓e_ldA, ↓e_stI, ↓e_stL, ↓e_stA, ↓n_inc, ↓n_incm1, ↓n_incm8, ↓e_iadd, ↓e_isub, ↓e_imul, ↓e_iand, ↓e_ior, ↓e_ixor, ↓n_ishl, ↓n_ishr, ↓e_iushr, ↓n_idiv, ↓e_ineg, ↓e_ladd, ↓e_lsub, ↓e_lmul, ↓e_lor, ↓e_lshl, ↓e_lshr, ↓e_i2l, ↓e_l2i, ↓e_i2b, ↓e_lcmp, ↓e_dup, ↓e_dup2, ↓e_pop, ↓e_ceq, ↓e_cne, ↓e_clt, ↓e_cge, ↓e_cgt, ↓e_cle, ↓n_zeq, ↓n_zne, ↓n_zlt, ↓n_zge, ↓n_zgt, ↓n_zle, ↓e_goto, ↓e_nn, ↓e_retI, ↓e_retL, ↓e_retV, ↓n_retZ, ↓e_retA, ↓e_gfI, ↓e_gfL, ↓e_gfR, ↓e_pfI, ↓n_pfZ, ↓e_pfL, ↓e_pfR, ↓e_iald, ↓e_lald, ↓e_aald, ↓e_alen, ↓e_iast, ↓e_bast, ↓n_zast, ↓e_last, ↓e_aast, ↓e_cV, ↓e_cS, ↓e_gsW, ↓e_gsK, ↓e_mmax, ↓e_mmin, ↓e_mmaxL, ↓e_mminL, gEnt, gPad, gArgs, gGet, gS1, gS2, gCl, gNo, gSp, gCt, n_sw, n_gSw, n_gSw0, Option.toList, List.cons_append, List.nil_append, Value.category, and_true, true_and, and_self, not_false_eq_true, not_true_eq_false, Nat.reduceAdd, Nat.reduceSub, Nat.reduceMul, Nat.reduceLeDiff, Nat.reduceLT, Nat.reduceEqDiff, forall_const, true_implies, false_implies, implies_true, Nat.zero_add, Option.some.injEq, Sum.inr.injEq, Sum.inl.injEq, Prod.mk.injEq, exists_eq_left', exists_eq_left, w_ne0, nI_add, w_lt, w_le, w_eq, w_meq, w_eqm, w_mlt, w_ltm, w_mle, w_lem, w_clamp, w_in, w_31, w_ite0, w_ite1, w_ite01, true_or, or_true, false_or, or_false, Nat.le_refl, Nat.lt_irrefl, S_37 hS, l_ceq, l_eq, e9]
      refine b_X4_makePlan_60 hX ?_
      simp (disch := omega) only [B_X4_makePlan_60, ↓n_gb, ↓n_gb0, ↓n_ic, ↓n_icm, ↓n_lc, ↓e_lc, ↓e_null, ↓e_ldI, ↓e_ldL, ↓e_ldA, ↓e_stI, ↓e_stL, ↓e_stA, ↓n_inc, ↓n_incm1, ↓n_incm8, ↓e_iadd, ↓e_isub, ↓e_imul, ↓e_iand, ↓e_ior, ↓e_ixor, ↓n_ishl, ↓n_ishr, ↓e_iushr, ↓n_idiv, ↓e_ineg, ↓e_ladd, ↓e_lsub, ↓e_lmul, ↓e_lor, ↓e_lshl, ↓e_lshr, ↓e_i2l, ↓e_l2i, ↓e_i2b, ↓e_lcmp, ↓e_dup, ↓e_dup2, ↓e_pop, ↓e_ceq, ↓e_cne, ↓e_clt, ↓e_cge, ↓e_cgt, ↓e_cle, ↓n_zeq, ↓n_zne, ↓n_zlt, ↓n_zge, ↓n_zgt, ↓n_zle, ↓e_goto, ↓e_nn, ↓e_retI, ↓e_retL, ↓e_retV, ↓n_retZ, ↓e_retA, ↓e_gfI, ↓e_gfL, ↓e_gfR, ↓e_pfI, ↓n_pfZ, ↓e_pfL, ↓e_pfR, ↓e_iald, ↓e_lald, ↓e_aald, ↓e_alen, ↓e_iast, ↓e_bast, ↓n_zast, ↓e_last, ↓e_aast, ↓e_cV, ↓e_cS, ↓e_gsW, ↓e_gsK, ↓e_mmax, ↓e_mmin, ↓e_mmaxL, ↓e_mminL, gEnt, gPad, gArgs, gGet, gS1, gS2, gCl, gNo, gSp, gCt, n_sw, n_gSw, n_gSw0, Option.toList, List.cons_append, List.nil_append, Value.category, and_true, true_and, and_self, not_false_eq_true, not_true_eq_false, Nat.reduceAdd, Nat.reduceSub, Nat.reduceMul, Nat.reduceLeDiff, Nat.reduceLT, Nat.reduceEqDiff, forall_const, true_implies, false_implies, implies_true, Nat.zero_add, Option.some.injEq, Sum.inr.injEq, Sum.inl.injEq, Prod.mk.injEq, exists_eq_left', exists_eq_left, w_ne0, nI_add, w_lt, w_le, w_eq, w_meq, w_eqm, w_mlt, w_ltm, w_mle, w_lem, w_clamp, w_in, w_31, w_ite0, w_ite1, w_ite01, true_or, or_true, false_or, or_false, Nat.le_refl, Nat.lt_irrefl, S_37 hS]
      refine hk _ _ ⟨tr ||| 1 <<< m, _, _, qFr_t fr1 fr2, wy2, ?_, fun m' hm' hb => ?_, ?_, rfl⟩
      · refine Nat.or_lt_two_pow (n := 16) htr ?_
        rw [Nat.one_shiftLeft]
        exact Nat.pow_lt_pow_right (by omega) hm16
      · rw [Nat.testBit_or, Nat.one_shiftLeft, Nat.testBit_two_pow] at hb
        by_cases e : m = m'
        · subst e; exact hfe
        · rw [decide_eq_false e, Bool.or_false] at hb
          exact hno m' hm' hb
      · rw [pPo_or m2, if_pos m1]; omega
  · rintro μ1 _ ⟨tr, u, v, fr1, wy, htr, hno, hpo, rfl⟩
    exfalso
    have huntr : tr.testBit (2 ^ c - 1) = false := by
      cases e : tr.testBit (2 ^ c - 1)
      · rfl
      · exact absurd full (hno _ (by omega) e)
    have := (pPo_lt huntr (2 ^ c)).2 (by omega)
    omega
