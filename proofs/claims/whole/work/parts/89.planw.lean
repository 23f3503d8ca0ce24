/-! PLANS, the class: finding the way -/
def qB (β : Nat) (E : gPE) (kb : Nat → Nat) (t ww : Nat) (μ0 μ : gM) : Prop := qFr β μ0 μ ∧ qP β E kb t μ ∧ (ww = 46 ∨ ww = 47) ∧ μ.2.2 (β + 37) 9 = β + ww ∧ μ.2.2 (β + 37) 10 = β + (93 - ww)
theorem qB_L {β t ww : Nat} {E : gPE} {kb : Nat → Nat} {μ0 μ : gM} {g : Nat → Int64} (h : qB β E kb t ww μ0 μ) : qB β E kb t ww μ0 (μ.1, gW μ.2.1 (β + (93 - ww)) g, μ.2.2) := by
  obtain ⟨h1, h2, h3, h4, h5⟩ := h
  refine ⟨qFr_t h1 ⟨fun _ _ _ _ => rfl, fun a i x y => ?_, fun _ _ _ _ => rfl⟩, qP_c (μ := μ) (fun _ _ _ => rfl) rfl (fun _ => rfl) h2, h3, h4, h5⟩
  dsimp only
  rw [gW_n (by omega)]
theorem qB_O {β t ww : Nat} {E : gPE} {kb : Nat → Nat} {μ0 μ : gM} {g3 g4 g5 : Nat → Int32} {v : Int32} (h : qB β E kb t ww μ0 μ) : qB β E kb t ww μ0 (gU (gW (gW (gW μ.1 (β + 43) g3) (β + 44) g4) (β + 45) g5) (β + 37) 13 v, μ.2) := by
  obtain ⟨h1, h2, h3, h4, h5⟩ := h
  refine ⟨qFr_t h1 ⟨fun a i x y => ?_, fun _ _ _ _ => rfl, fun _ _ _ _ => rfl⟩, qP_c (μ := μ) (fun a i hD => ?_) rfl (fun _ => rfl) h2, h3, h4, h5⟩
  · dsimp only
    rw [gU_n (by omega), gW_n (by omega), gW_n (by omega), gW_n (by omega)]
  · dsimp only
    rw [gU_n (by omega), gW_n (by omega), gW_n (by omega), gW_n (by omega)]
theorem qB_U {β t ww : Nat} {E : gPE} {kb : Nat → Nat} {μ0 μ : gM} {g : Nat → Int32} (h : qB β E kb t ww μ0 μ) : qB β E kb t ww μ0 (gW μ.1 (β + 41) g, μ.2) := by
  obtain ⟨h1, h2, h3, h4, h5⟩ := h
  refine ⟨qFr_t h1 ⟨fun a i x y => ?_, fun _ _ _ _ => rfl, fun _ _ _ _ => rfl⟩, qP_c (μ := μ) (fun a i hD => ?_) rfl (fun _ => rfl) h2, h3, h4, h5⟩
  · dsimp only
    rw [gW_n (by omega)]
  · dsimp only
    rw [gW_n (by omega)]
theorem qB_S {β t ww : Nat} {E : gPE} {kb : Nat → Nat} {μ0 μ : gM} (h : qB β E kb t ww μ0 μ) : qB β E kb t (93 - ww) μ0 (μ.1, μ.2.1, gU (gU μ.2.2 (β + 37) 10 (β + ww)) (β + 37) 9 (β + (93 - ww))) := by
  obtain ⟨h1, h2, h3, h4, h5⟩ := h
  refine ⟨qFr_t h1 ⟨fun _ _ _ _ => rfl, fun _ _ _ _ => rfl, fun a i x y => ?_⟩, qP_c (μ := μ) (fun a i hD => rfl) ?_ (fun j => ?_) h2, by omega, gU_s, ?_⟩
  · dsimp only
    rw [gU_n (by omega), gU_n (by omega)]
  · dsimp only
    rw [gU_n (by omega), gU_n (by omega)]
  · dsimp only
    rw [gU_n (by omega), gU_n (by omega)]
  · dsimp only
    rw [gU_n (by omega), gU_s, show 93 - (93 - ww) = ww by omega]
set_option maxHeartbeats 8000000 in
theorem k_findWay {S : gSh} {h β c t m : Nat} {E : gPE} {cn nd fr wo kb l0 : Nat → Nat} {ra : Nat → Option Nat} {μ : gM} {P : gP} (hS : gLS S β) (hR : gPS μ.2.2 β) (hE : pWf E) (q : qC β c cn nd fr wo ra t (ph E) μ) (hs : qS β E t μ) (hp : pKp E m c t cn nd fr ra kb l0) (hkb : ∀ j, j < pK E → ∃ n, n < c ∧ m.testBit n = false ∧ pZo m n = j) (hm : m < 16) (ht : t < 400) (h1 : 1 ≤ ph E) (h0 : ∀ b, b < pK E → l0 b ≤ pF E b + 1) (hww : ∃ ww, (ww = 46 ∨ ww = 47) ∧ μ.2.2 (β + 37) 9 = β + ww ∧ μ.2.2 (β + 37) 10 = β + (93 - ww))
    (hP : ∀ μ', qFr β μ μ' → (∃ ww, (ww = 46 ∨ ww = 47) ∧ μ'.2.2 (β + 37) 9 = β + ww ∧ μ'.2.2 (β + 37) 10 = β + (93 - ww)) → (∀ i, i < ph E → qV β E i μ') → P (some (.long (lN (if pV E (ph E) l0 < 1000000 then pV E (ph E) l0 * 1099511627776 + pDg E (ph E) l0 else pMx)))) μ') : gRun S (h + 4) 39 [.ref (β + 37), .int (nI m)] μ P := by
  have h10 := hE.2.2.2.2
  have hK := hE.1
  obtain ⟨ww, hw1, hw2, hw3⟩ := hww
  have hF : ∀ j, j < pK E → pF E j ≤ 6 := by
    intro j hj
    obtain ⟨n, n1, n2, n3⟩ := hkb j hj
    rw [← n3, (hp.2 n n1 n2).2.2.1]
    exact (q.2.2.2.2.2 n n1).2.2.2.2.2.1
  have hcc : pWt E (pK E) ≤ 2401 := by
    have := pWt_le hF (pK E) (Nat.le_refl _)
    have : 7 ^ pK E ≤ 7 ^ 4 := Nat.pow_le_pow_right (by omega) hK
    omega
  have mx : pMx = 9223372036854775807 := rfl
  refine r_X4_findWay (by simp [lg_sl, Value.category]) (fun X hX => ?_)
  refine b_X4_findWay_0 hX ?_
  simp (disch := omega) only [B_X4_findWay_0, ↓n_gb, ↓n_gb0, ↓n_ic, ↓n_icm, ↓n_lc, ↓e_lc, ↓e_null, ↓e_ldI, ↓e_ldL, ↓e_ldA, ↓e_stI, ↓e_stL, ↓e_stA, ↓n_inc, ↓n_incm1, ↓n_incm8, ↓e_iadd, ↓e_isub, ↓e_imul, ↓e_iand, ↓e_ior, ↓e_ixor, ↓n_ishl, ↓n_ishr, ↓e_iushr, ↓n_idiv, ↓e_ineg, ↓e_ladd, ↓e_lsub, ↓e_lmul, ↓e_lor, ↓e_lshl, ↓e_lshr, ↓e_i2l, ↓e_l2i, ↓e_i2b, ↓e_lcmp, ↓e_dup, ↓e_dup2, ↓e_pop, ↓e_ceq, ↓e_cne, ↓e_clt, ↓e_cge, ↓e_cgt, ↓e_cle, ↓n_zeq, ↓n_zne, ↓n_zlt, ↓n_zge, ↓n_zgt, ↓n_zle, ↓e_goto, ↓e_nn, ↓e_retI, ↓e_retL, ↓e_retV, ↓n_retZ, ↓e_retA, ↓e_gfI, ↓e_gfL, ↓e_gfR, ↓e_pfI, ↓n_pfZ, ↓e_pfL, ↓e_pfR, ↓e_iald, ↓e_lald, ↓e_aald, ↓e_alen, ↓e_iast, ↓e_bast, ↓n_zast, ↓e_last, ↓e_aast, ↓e_cV, ↓e_cS, ↓e_gsW, ↓e_gsK, ↓e_mmax, ↓e_mmin, ↓e_mmaxL, ↓e_mminL, gEnt, gPad, gArgs, gGet, gS1, gS2, gCl, gNo, gSp, gCt, n_sw, n_gSw, n_gSw0, Option.toList, List.cons_append, List.nil_append, Value.category, and_true, true_and, and_self, not_false_eq_true, not_true_eq_false, Nat.reduceAdd, Nat.reduceSub, Nat.reduceMul, Nat.reduceLeDiff, Nat.reduceLT, Nat.reduceEqDiff, forall_const, true_implies, false_implies, implies_true, Nat.zero_add, Option.some.injEq, Sum.inr.injEq, Sum.inl.injEq, Prod.mk.injEq, exists_eq_left', exists_eq_left, w_ne0, nI_add, w_lt, w_le, w_eq, w_meq, w_eqm, w_mlt, w_ltm, w_mle, w_lem, w_clamp, w_in, w_31, w_ite0, w_ite1, w_ite01, true_or, or_true, false_or, or_false, Nat.le_refl, Nat.lt_irrefl, S_37 hS]
  refine k_keepAllBut hS hR q hp hm ht h1 h10 (fun g1 g2 gr k1 => ?_)
  have b1 : qB β E kb t ww μ (gU (gU (gW (gW μ.1 (β + 41) g1) (β + 42) g2) (β + 37) 12 (nI (pK E))) (β + 37) 14 (nI (pWt E (pK E))), μ.2.1, gW μ.2.2 (β + 40) gr) := by
    refine ⟨⟨fun a i x y => ?_, fun _ _ _ _ => rfl, fun a i x y => ?_⟩, ⟨?_, gU_s, ?_, ?_, ?_, fun j hj => ?_⟩, hw1, ?_, ?_⟩
    · dsimp only
      rw [gU_n (by omega), gU_n (by omega), gW_n (by omega), gW_n (by omega)]
    · dsimp only
      rw [gW_n (by omega)]
    · dsimp only
      rw [gU_n (by omega), gU_s]
    · dsimp only
      rw [gU_n (by omega), gU_n (by omega), gW_n (by omega), gW_n (by omega)]; exact q.2.2.1
    · dsimp only
      rw [gU_n (by omega), gU_n (by omega), gW_n (by omega), gW_n (by omega)]; exact q.2.2.2.1
    · dsimp only
      rw [gW_n (by omega)]; exact q.2.2.2.2.1
    · obtain ⟨n, n1, n2, n3⟩ := hkb j hj
      obtain ⟨e1, e2, e3, e4⟩ := hp.2 n n1 n2
      rw [n3] at e1 e2 e3
      obtain ⟨c1, c2, c3, c4, c5, c6, -⟩ := q.2.2.2.2.2 n n1
      have hkj := k1 j hj
      rw [e1, e2, e3]
      rw [e1] at hkj
      dsimp only
      refine ⟨c1, ?_, ?_, ?_, c6, ?_⟩
      · rw [gW_s]; exact hkj.1
      · rw [gU_n (by omega), gU_n (by omega), gW_n (by omega), gW_n (by omega)]; exact c4
      · rw [gU_n (by omega), gU_n (by omega), gW_n (by omega), gW_n (by omega)]; exact c5
      · rw [gU_n (by omega), gU_n (by omega), gW_s]; exact hkj.2.2
    · dsimp only
      rw [gW_n (by omega)]; exact hw2
    · dsimp only
      rw [gW_n (by omega)]; exact hw3
  have b2 : ∀ j, j < pK E → (gU (gU (gW (gW μ.1 (β + 41) g1) (β + 42) g2) (β + 37) 12 (nI (pK E))) (β + 37) 14 (nI (pWt E (pK E)))) (β + 41) j = nI (min (l0 j) (ph E)) := by
    intro j hj
    rw [gU_n (by omega), gU_n (by omega), gW_n (by omega), gW_s]; exact (k1 j hj).2.1
  generalize eM : ((gU (gU (gW (gW μ.1 (β + 41) g1) (β + 42) g2) (β + 37) 12 (nI (pK E))) (β + 37) 14 (nI (pWt E (pK E))), μ.2.1, gW μ.2.2 (β + 40) gr) : gM) = μ1 at b1 ⊢
  have b2' : ∀ j, j < pK E → μ1.1 (β + 41) j = nI (min (l0 j) (ph E)) := by rw [← eM]; exact b2
  clear b2 k1 eM
  have hR0 := hR
  have hR := qFr_R b1.1 hR0
  simp (disch := omega) only [↓n_gb, ↓n_gb0, ↓n_ic, ↓n_icm, ↓n_lc, ↓e_lc, ↓e_null, ↓e_ldI, ↓e_ldL, ↓e_ldA, ↓e_stI, ↓e_stL, ↓e_stA, ↓n_inc, ↓n_incm1, ↓n_incm8, ↓e_iadd, ↓e_isub, ↓e_imul, ↓e_iand, ↓e_ior, ↓e_ixor, ↓n_ishl, ↓n_ishr, ↓e_iushr, ↓n_idiv, ↓e_ineg, ↓e_ladd, ↓e_lsub, ↓e_lmul, ↓e_lor, ↓e_lshl, ↓e_lshr, ↓e_i2l, ↓e_l2i, ↓e_i2b, ↓e_lcmp, ↓e_dup, ↓e_dup2, ↓e_pop, ↓e_ceq, ↓e_cne, ↓e_clt, ↓e_cge, ↓e_cgt, ↓e_cle, ↓n_zeq, ↓n_zne, ↓n_zlt, ↓n_zge, ↓n_zgt, ↓n_zle, ↓e_goto, ↓e_nn, ↓e_retI, ↓e_retL, ↓e_retV, ↓n_retZ, ↓e_retA, ↓e_gfI, ↓e_gfL, ↓e_gfR, ↓e_pfI, ↓n_pfZ, ↓e_pfL, ↓e_pfR, ↓e_iald, ↓e_lald, ↓e_aald, ↓e_alen, ↓e_iast, ↓e_bast, ↓n_zast, ↓e_last, ↓e_aast, ↓e_cV, ↓e_cS, ↓e_gsW, ↓e_gsK, ↓e_mmax, ↓e_mmin, ↓e_mmaxL, ↓e_mminL, gEnt, gPad, gArgs, gGet, gS1, gS2, gCl, gNo, gSp, gCt, n_sw, n_gSw, n_gSw0, Option.toList, List.cons_append, List.nil_append, Value.category, and_true, true_and, and_self, not_false_eq_true, not_true_eq_false, Nat.reduceAdd, Nat.reduceSub, Nat.reduceMul, Nat.reduceLeDiff, Nat.reduceLT, Nat.reduceEqDiff, forall_const, true_implies, false_implies, implies_true, Nat.zero_add, Option.some.injEq, Sum.inr.injEq, Sum.inl.injEq, Prod.mk.injEq, exists_eq_left', exists_eq_left, w_ne0, nI_add, w_lt, w_le, w_eq, w_meq, w_eqm, w_mlt, w_ltm, w_mle, w_lem, w_clamp, w_in, w_31, w_ite0, w_ite1, w_ite01, true_or, or_true, false_or, or_false, Nat.le_refl, Nat.lt_irrefl, S_37 hS]
  refine k_clearNextWays hS hR b1.2.1 (show 93 - ww = 46 ∨ 93 - ww = 47 by omega) b1.2.2.2.2 hcc (fun g k2 => ?_)
  have b3 := qB_L (g := g) b1
  simp (disch := omega) only [↓n_gb, ↓n_gb0, ↓n_ic, ↓n_icm, ↓n_lc, ↓e_lc, ↓e_null, ↓e_ldI, ↓e_ldL, ↓e_ldA, ↓e_stI, ↓e_stL, ↓e_stA, ↓n_inc, ↓n_incm1, ↓n_incm8, ↓e_iadd, ↓e_isub, ↓e_imul, ↓e_iand, ↓e_ior, ↓e_ixor, ↓n_ishl, ↓n_ishr, ↓e_iushr, ↓n_idiv, ↓e_ineg, ↓e_ladd, ↓e_lsub, ↓e_lmul, ↓e_lor, ↓e_lshl, ↓e_lshr, ↓e_i2l, ↓e_l2i, ↓e_i2b, ↓e_lcmp, ↓e_dup, ↓e_dup2, ↓e_pop, ↓e_ceq, ↓e_cne, ↓e_clt, ↓e_cge, ↓e_cgt, ↓e_cle, ↓n_zeq, ↓n_zne, ↓n_zlt, ↓n_zge, ↓n_zgt, ↓n_zle, ↓e_goto, ↓e_nn, ↓e_retI, ↓e_retL, ↓e_retV, ↓n_retZ, ↓e_retA, ↓e_gfI, ↓e_gfL, ↓e_gfR, ↓e_pfI, ↓n_pfZ, ↓e_pfL, ↓e_pfR, ↓e_iald, ↓e_lald, ↓e_aald, ↓e_alen, ↓e_iast, ↓e_bast, ↓n_zast, ↓e_last, ↓e_aast, ↓e_cV, ↓e_cS, ↓e_gsW, ↓e_gsK, ↓e_mmax, ↓e_mmin, ↓e_mmaxL, ↓e_mminL, gEnt, gPad, gArgs, gGet, gS1, gS2, gCl, gNo, gSp, gCt, n_sw, n_gSw, n_gSw0, Option.toList, List.cons_append, List.nil_append, Value.category, and_true, true_and, and_self, not_false_eq_true, not_true_eq_false, Nat.reduceAdd, Nat.reduceSub, Nat.reduceMul, Nat.reduceLeDiff, Nat.reduceLT, Nat.reduceEqDiff, forall_const, true_implies, false_implies, implies_true, Nat.zero_add, Option.some.injEq, Sum.inr.injEq, Sum.inl.injEq, Prod.mk.injEq, exists_eq_left', exists_eq_left, w_ne0, nI_add, w_lt, w_le, w_eq, w_meq, w_eqm, w_mlt, w_ltm, w_mle, w_lem, w_clamp, w_in, w_31, w_ite0, w_ite1, w_ite01, true_or, or_true, false_or, or_false, Nat.le_refl, Nat.lt_irrefl, S_37 hS]
  refine k_listOptions hS hR hE b3.2.1 (qFr_S b3.1 hs) (by omega) ht (fun o3 o4 o5 k3 k4 k5 => ?_)
  have b4 := qB_O (g3 := o3) (g4 := o4) (g5 := o5) (v := nI (pCt E 0 64)) b3
  simp (disch := omega) only [↓n_gb, ↓n_gb0, ↓n_ic, ↓n_icm, ↓n_lc, ↓e_lc, ↓e_null, ↓e_ldI, ↓e_ldL, ↓e_ldA, ↓e_stI, ↓e_stL, ↓e_stA, ↓n_inc, ↓n_incm1, ↓n_incm8, ↓e_iadd, ↓e_isub, ↓e_imul, ↓e_iand, ↓e_ior, ↓e_ixor, ↓n_ishl, ↓n_ishr, ↓e_iushr, ↓n_idiv, ↓e_ineg, ↓e_ladd, ↓e_lsub, ↓e_lmul, ↓e_lor, ↓e_lshl, ↓e_lshr, ↓e_i2l, ↓e_l2i, ↓e_i2b, ↓e_lcmp, ↓e_dup, ↓e_dup2, ↓e_pop, ↓e_ceq, ↓e_cne, ↓e_clt, ↓e_cge, ↓e_cgt, ↓e_cle, ↓n_zeq, ↓n_zne, ↓n_zlt, ↓n_zge, ↓n_zgt, ↓n_zle, ↓e_goto, ↓e_nn, ↓e_retI, ↓e_retL, ↓e_retV, ↓n_retZ, ↓e_retA, ↓e_gfI, ↓e_gfL, ↓e_gfR, ↓e_pfI, ↓n_pfZ, ↓e_pfL, ↓e_pfR, ↓e_iald, ↓e_lald, ↓e_aald, ↓e_alen, ↓e_iast, ↓e_bast, ↓n_zast, ↓e_last, ↓e_aast, ↓e_cV, ↓e_cS, ↓e_gsW, ↓e_gsK, ↓e_mmax, ↓e_mmin, ↓e_mmaxL, ↓e_mminL, gEnt, gPad, gArgs, gGet, gS1, gS2, gCl, gNo, gSp, gCt, n_sw, n_gSw, n_gSw0, Option.toList, List.cons_append, List.nil_append, Value.category, and_true, true_and, and_self, not_false_eq_true, not_true_eq_false, Nat.reduceAdd, Nat.reduceSub, Nat.reduceMul, Nat.reduceLeDiff, Nat.reduceLT, Nat.reduceEqDiff, forall_const, true_implies, false_implies, implies_true, Nat.zero_add, Option.some.injEq, Sum.inr.injEq, Sum.inl.injEq, Prod.mk.injEq, exists_eq_left', exists_eq_left, w_ne0, nI_add, w_lt, w_le, w_eq, w_meq, w_eqm, w_mlt, w_ltm, w_mle, w_lem, w_clamp, w_in, w_31, w_ite0, w_ite1, w_ite01, true_or, or_true, false_or, or_false, Nat.le_refl, Nat.lt_irrefl, S_37 hS]
  have hl0 : ∀ b, b < pK E → (fun b => min (l0 b) (ph E)) b ≤ ph E - 0 ∧ (fun b => min (l0 b) (ph E)) b ≤ pF E b + 1 := by
    intro b hb
    have := h0 b hb
    dsimp only
    omega
  refine k_spread (l := fun b => min (l0 b) (ph E)) (f0 := fun _ => pMx) (ww := 93 - ww) (w := 0) hS hR hE b4.2.1 k4 (by omega) (fun b hb => ?_) hl0 (by omega) b4.2.2.2.2 (by decide) hcc (fun c hc => ?_) (fun g' f k6 k7 => ?_)
  · dsimp only
    rw [gU_n (by omega), gW_n (by omega), gW_n (by omega), gW_n (by omega)]
    exact b2' b hb
  · dsimp only
    rw [gW_s]
    exact ⟨k2 c hc, Nat.le_refl _⟩
  have b5 := qB_L (g := g') b4
  simp (disch := omega) only [↓n_gb, ↓n_gb0, ↓n_ic, ↓n_icm, ↓n_lc, ↓e_lc, ↓e_null, ↓e_ldI, ↓e_ldL, ↓e_ldA, ↓e_stI, ↓e_stL, ↓e_stA, ↓n_inc, ↓n_incm1, ↓n_incm8, ↓e_iadd, ↓e_isub, ↓e_imul, ↓e_iand, ↓e_ior, ↓e_ixor, ↓n_ishl, ↓n_ishr, ↓e_iushr, ↓n_idiv, ↓e_ineg, ↓e_ladd, ↓e_lsub, ↓e_lmul, ↓e_lor, ↓e_lshl, ↓e_lshr, ↓e_i2l, ↓e_l2i, ↓e_i2b, ↓e_lcmp, ↓e_dup, ↓e_dup2, ↓e_pop, ↓e_ceq, ↓e_cne, ↓e_clt, ↓e_cge, ↓e_cgt, ↓e_cle, ↓n_zeq, ↓n_zne, ↓n_zlt, ↓n_zge, ↓n_zgt, ↓n_zle, ↓e_goto, ↓e_nn, ↓e_retI, ↓e_retL, ↓e_retV, ↓n_retZ, ↓e_retA, ↓e_gfI, ↓e_gfL, ↓e_gfR, ↓e_pfI, ↓n_pfZ, ↓e_pfL, ↓e_pfR, ↓e_iald, ↓e_lald, ↓e_aald, ↓e_alen, ↓e_iast, ↓e_bast, ↓n_zast, ↓e_last, ↓e_aast, ↓e_cV, ↓e_cS, ↓e_gsW, ↓e_gsK, ↓e_mmax, ↓e_mmin, ↓e_mmaxL, ↓e_mminL, gEnt, gPad, gArgs, gGet, gS1, gS2, gCl, gNo, gSp, gCt, n_sw, n_gSw, n_gSw0, Option.toList, List.cons_append, List.nil_append, Value.category, and_true, true_and, and_self, not_false_eq_true, not_true_eq_false, Nat.reduceAdd, Nat.reduceSub, Nat.reduceMul, Nat.reduceLeDiff, Nat.reduceLT, Nat.reduceEqDiff, forall_const, true_implies, false_implies, implies_true, Nat.zero_add, Option.some.injEq, Sum.inr.injEq, Sum.inl.injEq, Prod.mk.injEq, exists_eq_left', exists_eq_left, w_ne0, nI_add, w_lt, w_le, w_eq, w_meq, w_eqm, w_mlt, w_ltm, w_mle, w_lem, w_clamp, w_in, w_31, w_ite0, w_ite1, w_ite01, true_or, or_true, false_or, or_false, Nat.le_refl, Nat.lt_irrefl, S_37 hS]
  refine k_swapWays hS hR hw1 b5.2.2.2.1 b5.2.2.2.2 ?_
  have b6 := qB_S b5
  simp (disch := omega) only [↓n_gb, ↓n_gb0, ↓n_ic, ↓n_icm, ↓n_lc, ↓e_lc, ↓e_null, ↓e_ldI, ↓e_ldL, ↓e_ldA, ↓e_stI, ↓e_stL, ↓e_stA, ↓n_inc, ↓n_incm1, ↓n_incm8, ↓e_iadd, ↓e_isub, ↓e_imul, ↓e_iand, ↓e_ior, ↓e_ixor, ↓n_ishl, ↓n_ishr, ↓e_iushr, ↓n_idiv, ↓e_ineg, ↓e_ladd, ↓e_lsub, ↓e_lmul, ↓e_lor, ↓e_lshl, ↓e_lshr, ↓e_i2l, ↓e_l2i, ↓e_i2b, ↓e_lcmp, ↓e_dup, ↓e_dup2, ↓e_pop, ↓e_ceq, ↓e_cne, ↓e_clt, ↓e_cge, ↓e_cgt, ↓e_cle, ↓n_zeq, ↓n_zne, ↓n_zlt, ↓n_zge, ↓n_zgt, ↓n_zle, ↓e_goto, ↓e_nn, ↓e_retI, ↓e_retL, ↓e_retV, ↓n_retZ, ↓e_retA, ↓e_gfI, ↓e_gfL, ↓e_gfR, ↓e_pfI, ↓n_pfZ, ↓e_pfL, ↓e_pfR, ↓e_iald, ↓e_lald, ↓e_aald, ↓e_alen, ↓e_iast, ↓e_bast, ↓n_zast, ↓e_last, ↓e_aast, ↓e_cV, ↓e_cS, ↓e_gsW, ↓e_gsK, ↓e_mmax, ↓e_mmin, ↓e_mmaxL, ↓e_mminL, gEnt, gPad, gArgs, gGet, gS1, gS2, gCl, gNo, gSp, gCt, n_sw, n_gSw, n_gSw0, Option.toList, List.cons_append, List.nil_append, Value.category, and_true, true_and, and_self, not_false_eq_true, not_true_eq_false, Nat.reduceAdd, Nat.reduceSub, Nat.reduceMul, Nat.reduceLeDiff, Nat.reduceLT, Nat.reduceEqDiff, forall_const, true_implies, false_implies, implies_true, Nat.zero_add, Option.some.injEq, Sum.inr.injEq, Sum.inl.injEq, Prod.mk.injEq, exists_eq_left', exists_eq_left, w_ne0, nI_add, w_lt, w_le, w_eq, w_meq, w_eqm, w_mlt, w_ltm, w_mle, w_lem, w_clamp, w_in, w_31, w_ite0, w_ite1, w_ite01, true_or, or_true, false_or, or_false, Nat.le_refl, Nat.lt_irrefl, S_37 hS]
  have hfi : pFI E l0 1 (pSr E f) := by
    refine pFI_s hE (i := 0) (by omega) (pFI_0 h0 (fun b hb => rfl)) ?_ ?_
    · exact (pSp_T (Src := fun _ _ => False) hE (fun _ _ w => absurd w id) (fun c hc => Or.inl rfl) (fun _ _ _ w => absurd w id) k7 (fun l' w' => by simp)).1
    · exact (pSp_T (Src := fun _ _ => False) hE (fun _ _ w => absurd w id) (fun c hc => Or.inl rfl) (fun _ _ _ w => absurd w id) k7 (fun l' w' => by simp)).2
  refine gLoop (I := fun i μ' lc => ∃ ww f u, qB β E kb t ww μ μ' ∧ qWy β ww E f μ' ∧ pFI E l0 i (pSr E f) ∧ (∀ i', i' < i → qV β E i' μ') ∧ lc = [some (.ref (β + 37)), some (.int (nI m)), some (.int (nI i)), u]) (ph E) ?_ ?_ 1 h1 _ _ ⟨93 - ww, f, none, b6, fun c hc => ?_, hfi, fun i' hi' => ?_, rfl⟩
  · clear b6 b5 b4 b3 b1 k2 k3 k4 k5 k6 k7 hfi
    rintro i μ2 _ hi ⟨ww, f, u, b1, y1, fi, y2, rfl⟩ hk
    have hR := qFr_R b1.1 hR0
    have hw1 := b1.2.2.1
    have sw : S (β + ww) = some (.inr (1, 2401)) := by
      rcases hw1 with rfl | rfl
      · exact S_46 hS
      · exact S_47 hS
    have hne : β + ww ≠ 0 := by omega
    have q16 := b1.2.1.2.2.2.1
    refine b_X4_findWay_26 hX ?_
    simp (disch := omega) only [B_X4_findWay_26, ↓n_gb, ↓n_gb0, ↓n_ic, ↓n_icm, ↓n_lc, ↓e_lc, ↓e_null, ↓e_ldI, ↓e_ldL, ↓e_ldA, ↓e_stI, ↓e_stL, ↓e_stA, ↓n_inc, ↓n_incm1, ↓n_incm8, ↓e_iadd, ↓e_isub, ↓e_imul, ↓e_iand, ↓e_ior, ↓e_ixor, ↓n_ishl, ↓n_ishr, ↓e_iushr, ↓n_idiv, ↓e_ineg, ↓e_ladd, ↓e_lsub, ↓e_lmul, ↓e_lor, ↓e_lshl, ↓e_lshr, ↓e_i2l, ↓e_l2i, ↓e_i2b, ↓e_lcmp, ↓e_dup, ↓e_dup2, ↓e_pop, ↓e_ceq, ↓e_cne, ↓e_clt, ↓e_cge, ↓e_cgt, ↓e_cle, ↓n_zeq, ↓n_zne, ↓n_zlt, ↓n_zge, ↓n_zgt, ↓n_zle, ↓e_goto, ↓e_nn, ↓e_retI, ↓e_retL, ↓e_retV, ↓n_retZ, ↓e_retA, ↓e_gfI, ↓e_gfL, ↓e_gfR, ↓e_pfI, ↓n_pfZ, ↓e_pfL, ↓e_pfR, ↓e_iald, ↓e_lald, ↓e_aald, ↓e_alen, ↓e_iast, ↓e_bast, ↓n_zast, ↓e_last, ↓e_aast, ↓e_cV, ↓e_cS, ↓e_gsW, ↓e_gsK, ↓e_mmax, ↓e_mmin, ↓e_mmaxL, ↓e_mminL, gEnt, gPad, gArgs, gGet, gS1, gS2, gCl, gNo, gSp, gCt, n_sw, n_gSw, n_gSw0, Option.toList, List.cons_append, List.nil_append, Value.category, and_true, true_and, and_self, not_false_eq_true, not_true_eq_false, Nat.reduceAdd, Nat.reduceSub, Nat.reduceMul, Nat.reduceLeDiff, Nat.reduceLT, Nat.reduceEqDiff, forall_const, true_implies, false_implies, implies_true, Nat.zero_add, Option.some.injEq, Sum.inr.injEq, Sum.inl.injEq, Prod.mk.injEq, exists_eq_left', exists_eq_left, w_ne0, nI_add, w_lt, w_le, w_eq, w_meq, w_eqm, w_mlt, w_ltm, w_mle, w_lem, w_clamp, w_in, w_31, w_ite0, w_ite1, w_ite01, true_or, or_true, false_or, or_false, Nat.le_refl, Nat.lt_irrefl, S_37 hS, q16]
    refine ⟨fun w => by omega, fun _ => ?_⟩
    refine k_clearNextWays hS hR b1.2.1 (show 93 - ww = 46 ∨ 93 - ww = 47 by omega) b1.2.2.2.2 hcc (fun g k2 => ?_)
    have b3 := qB_L (g := g) b1
    simp (disch := omega) only [↓n_gb, ↓n_gb0, ↓n_ic, ↓n_icm, ↓n_lc, ↓e_lc, ↓e_null, ↓e_ldI, ↓e_ldL, ↓e_ldA, ↓e_stI, ↓e_stL, ↓e_stA, ↓n_inc, ↓n_incm1, ↓n_incm8, ↓e_iadd, ↓e_isub, ↓e_imul, ↓e_iand, ↓e_ior, ↓e_ixor, ↓n_ishl, ↓n_ishr, ↓e_iushr, ↓n_idiv, ↓e_ineg, ↓e_ladd, ↓e_lsub, ↓e_lmul, ↓e_lor, ↓e_lshl, ↓e_lshr, ↓e_i2l, ↓e_l2i, ↓e_i2b, ↓e_lcmp, ↓e_dup, ↓e_dup2, ↓e_pop, ↓e_ceq, ↓e_cne, ↓e_clt, ↓e_cge, ↓e_cgt, ↓e_cle, ↓n_zeq, ↓n_zne, ↓n_zlt, ↓n_zge, ↓n_zgt, ↓n_zle, ↓e_goto, ↓e_nn, ↓e_retI, ↓e_retL, ↓e_retV, ↓n_retZ, ↓e_retA, ↓e_gfI, ↓e_gfL, ↓e_gfR, ↓e_pfI, ↓n_pfZ, ↓e_pfL, ↓e_pfR, ↓e_iald, ↓e_lald, ↓e_aald, ↓e_alen, ↓e_iast, ↓e_bast, ↓n_zast, ↓e_last, ↓e_aast, ↓e_cV, ↓e_cS, ↓e_gsW, ↓e_gsK, ↓e_mmax, ↓e_mmin, ↓e_mmaxL, ↓e_mminL, gEnt, gPad, gArgs, gGet, gS1, gS2, gCl, gNo, gSp, gCt, n_sw, n_gSw, n_gSw0, Option.toList, List.cons_append, List.nil_append, Value.category, and_true, true_and, and_self, not_false_eq_true, not_true_eq_false, Nat.reduceAdd, Nat.reduceSub, Nat.reduceMul, Nat.reduceLeDiff, Nat.reduceLT, Nat.reduceEqDiff, forall_const, true_implies, false_implies, implies_true, Nat.zero_add, Option.some.injEq, Sum.inr.injEq, Sum.inl.injEq, Prod.mk.injEq, exists_eq_left', exists_eq_left, w_ne0, nI_add, w_lt, w_le, w_eq, w_meq, w_eqm, w_mlt, w_ltm, w_mle, w_lem, w_clamp, w_in, w_31, w_ite0, w_ite1, w_ite01, true_or, or_true, false_or, or_false, Nat.le_refl, Nat.lt_irrefl, S_37 hS]
    refine k_listOptions hS hR hE b3.2.1 (qFr_S b3.1 hs) (by omega) ht (fun o3 o4 o5 k3 k4 k5 => ?_)
    have b4 := qB_O (g3 := o3) (g4 := o4) (g5 := o5) (v := nI (pCt E i 64)) b3
    simp (disch := omega) only [↓n_gb, ↓n_gb0, ↓n_ic, ↓n_icm, ↓n_lc, ↓e_lc, ↓e_null, ↓e_ldI, ↓e_ldL, ↓e_ldA, ↓e_stI, ↓e_stL, ↓e_stA, ↓n_inc, ↓n_incm1, ↓n_incm8, ↓e_iadd, ↓e_isub, ↓e_imul, ↓e_iand, ↓e_ior, ↓e_ixor, ↓n_ishl, ↓n_ishr, ↓e_iushr, ↓n_idiv, ↓e_ineg, ↓e_ladd, ↓e_lsub, ↓e_lmul, ↓e_lor, ↓e_lshl, ↓e_lshr, ↓e_i2l, ↓e_l2i, ↓e_i2b, ↓e_lcmp, ↓e_dup, ↓e_dup2, ↓e_pop, ↓e_ceq, ↓e_cne, ↓e_clt, ↓e_cge, ↓e_cgt, ↓e_cle, ↓n_zeq, ↓n_zne, ↓n_zlt, ↓n_zge, ↓n_zgt, ↓n_zle, ↓e_goto, ↓e_nn, ↓e_retI, ↓e_retL, ↓e_retV, ↓n_retZ, ↓e_retA, ↓e_gfI, ↓e_gfL, ↓e_gfR, ↓e_pfI, ↓n_pfZ, ↓e_pfL, ↓e_pfR, ↓e_iald, ↓e_lald, ↓e_aald, ↓e_alen, ↓e_iast, ↓e_bast, ↓n_zast, ↓e_last, ↓e_aast, ↓e_cV, ↓e_cS, ↓e_gsW, ↓e_gsK, ↓e_mmax, ↓e_mmin, ↓e_mmaxL, ↓e_mminL, gEnt, gPad, gArgs, gGet, gS1, gS2, gCl, gNo, gSp, gCt, n_sw, n_gSw, n_gSw0, Option.toList, List.cons_append, List.nil_append, Value.category, and_true, true_and, and_self, not_false_eq_true, not_true_eq_false, Nat.reduceAdd, Nat.reduceSub, Nat.reduceMul, Nat.reduceLeDiff, Nat.reduceLT, Nat.reduceEqDiff, forall_const, true_implies, false_implies, implies_true, Nat.zero_add, Option.some.injEq, Sum.inr.injEq, Sum.inl.injEq, Prod.mk.injEq, exists_eq_left', exists_eq_left, w_ne0, nI_add, w_lt, w_le, w_eq, w_meq, w_eqm, w_mlt, w_ltm, w_mle, w_lem, w_clamp, w_in, w_31, w_ite0, w_ite1, w_ite01, true_or, or_true, false_or, or_false, Nat.le_refl, Nat.lt_irrefl, S_37 hS]
    refine gLoop (I := fun c μ' lc => ∃ fn, qB β E kb t ww μ μ' ∧ qWy β ww E f μ' ∧ qWy β (93 - ww) E fn μ' ∧ pT1 E i (pSrL E f c) fn ∧ pT2 E i (pSrL E f c) fn ∧ qO β E i μ' ∧ (∀ i', i' < i + 1 → qV β E i' μ') ∧ lc = [some (.ref (β + 37)), some (.int (nI m)), some (.int (nI i)), some (.int (nI c))]) (pWt E (pK E)) ?_ ?_ 0 (by omega) _ _ ⟨fun _ => pMx, b4, fun c hc => ?_, fun c hc => ?_, fun c hc => Or.inl rfl, fun l w x ⟨c, hc, _⟩ => by omega, k4, fun i' hi' => ?_, rfl⟩
    · clear b4 b3 b1 y1 y2 k2 k3 k4 k5 hR
      rintro c μ3 _ hc ⟨fn, b1, y1, y2, t1, t2, o, v, rfl⟩ hk2
      have hR := qFr_R b1.1 hR0
      have q14 := b1.2.1.2.1
      have r9 := b1.2.2.2.1
      have yc := (y1 c hc).1
      have yl := (y1 c hc).2
      refine b_X4_findWay_45 hX ?_
      simp (disch := omega) only [B_X4_findWay_45, ↓n_gb, ↓n_gb0, ↓n_ic, ↓n_icm, ↓n_lc, ↓e_lc, ↓e_null, ↓e_ldI, ↓e_ldL, ↓e_ldA, ↓e_stI, ↓e_stL, ↓e_stA, ↓n_inc, ↓n_incm1, ↓n_incm8, ↓e_iadd, ↓e_isub, ↓e_imul, ↓e_iand, ↓e_ior, ↓e_ixor, ↓n_ishl, ↓n_ishr, ↓e_iushr, ↓n_idiv, ↓e_ineg, ↓e_ladd, ↓e_lsub, ↓e_lmul, ↓e_lor, ↓e_lshl, ↓e_lshr, ↓e_i2l, ↓e_l2i, ↓e_i2b, ↓e_lcmp, ↓e_dup, ↓e_dup2, ↓e_pop, ↓e_ceq, ↓e_cne, ↓e_clt, ↓e_cge, ↓e_cgt, ↓e_cle, ↓n_zeq, ↓n_zne, ↓n_zlt, ↓n_zge, ↓n_zgt, ↓n_zle, ↓e_goto, ↓e_nn, ↓e_retI, ↓e_retL, ↓e_retV, ↓n_retZ, ↓e_retA, ↓e_gfI, ↓e_gfL, ↓e_gfR, ↓e_pfI, ↓n_pfZ, ↓e_pfL, ↓e_pfR, ↓e_iald, ↓e_lald, ↓e_aald, ↓e_alen, ↓e_iast, ↓e_bast, ↓n_zast, ↓e_last, ↓e_aast, ↓e_cV, ↓e_cS, ↓e_gsW, ↓e_gsK, ↓e_mmax, ↓e_mmin, ↓e_mmaxL, ↓e_mminL, gEnt, gPad, gArgs, gGet, gS1, gS2, gCl, gNo, gSp, gCt, n_sw, n_gSw, n_gSw0, Option.toList, List.cons_append, List.nil_append, Value.category, and_true, true_and, and_self, not_false_eq_true, not_true_eq_false, Nat.reduceAdd, Nat.reduceSub, Nat.reduceMul, Nat.reduceLeDiff, Nat.reduceLT, Nat.reduceEqDiff, forall_const, true_implies, false_implies, implies_true, Nat.zero_add, Option.some.injEq, Sum.inr.injEq, Sum.inl.injEq, Prod.mk.injEq, exists_eq_left', exists_eq_left, w_ne0, nI_add, w_lt, w_le, w_eq, w_meq, w_eqm, w_mlt, w_ltm, w_mle, w_lem, w_clamp, w_in, w_31, w_ite0, w_ite1, w_ite01, true_or, or_true, false_or, or_false, Nat.le_refl, Nat.lt_irrefl, S_37 hS, q14, r9, sw, hne, yc, l_ceq, l_eq]
      refine ⟨fun w => by omega, fun _ => ⟨by omega, fun w => ?_, fun w => ?_⟩⟩
      · have hsr : ∀ l' w', pSrL E f (c + 1) l' w' ↔ pSrL E f c l' w' := by
          intro l' w'
          constructor
          · rintro ⟨c', z1, z2, z3⟩
            by_cases e : c' = c
            · subst e; exact absurd w z2
            · exact ⟨c', by omega, z2, z3⟩
          · rintro ⟨c', z1, z2⟩; exact ⟨c', by omega, z2⟩
        have hse : pSrL E f (c + 1) = pSrL E f c := funext fun l' => funext fun w' => propext (hsr l' w')
        refine b_X4_findWay_82 hX ?_
        simp (disch := omega) only [B_X4_findWay_82, ↓n_gb, ↓n_gb0, ↓n_ic, ↓n_icm, ↓n_lc, ↓e_lc, ↓e_null, ↓e_ldI, ↓e_ldL, ↓e_ldA, ↓e_stI, ↓e_stL, ↓e_stA, ↓n_inc, ↓n_incm1, ↓n_incm8, ↓e_iadd, ↓e_isub, ↓e_imul, ↓e_iand, ↓e_ior, ↓e_ixor, ↓n_ishl, ↓n_ishr, ↓e_iushr, ↓n_idiv, ↓e_ineg, ↓e_ladd, ↓e_lsub, ↓e_lmul, ↓e_lor, ↓e_lshl, ↓e_lshr, ↓e_i2l, ↓e_l2i, ↓e_i2b, ↓e_lcmp, ↓e_dup, ↓e_dup2, ↓e_pop, ↓e_ceq, ↓e_cne, ↓e_clt, ↓e_cge, ↓e_cgt, ↓e_cle, ↓n_zeq, ↓n_zne, ↓n_zlt, ↓n_zge, ↓n_zgt, ↓n_zle, ↓e_goto, ↓e_nn, ↓e_retI, ↓e_retL, ↓e_retV, ↓n_retZ, ↓e_retA, ↓e_gfI, ↓e_gfL, ↓e_gfR, ↓e_pfI, ↓n_pfZ, ↓e_pfL, ↓e_pfR, ↓e_iald, ↓e_lald, ↓e_aald, ↓e_alen, ↓e_iast, ↓e_bast, ↓n_zast, ↓e_last, ↓e_aast, ↓e_cV, ↓e_cS, ↓e_gsW, ↓e_gsK, ↓e_mmax, ↓e_mmin, ↓e_mmaxL, ↓e_mminL, gEnt, gPad, gArgs, gGet, gS1, gS2, gCl, gNo, gSp, gCt, n_sw, n_gSw, n_gSw0, Option.toList, List.cons_append, List.nil_append, Value.category, and_true, true_and, and_self, not_false_eq_true, not_true_eq_false, Nat.reduceAdd, Nat.reduceSub, Nat.reduceMul, Nat.reduceLeDiff, Nat.reduceLT, Nat.reduceEqDiff, forall_const, true_implies, false_implies, implies_true, Nat.zero_add, Option.some.injEq, Sum.inr.injEq, Sum.inl.injEq, Prod.mk.injEq, exists_eq_left', exists_eq_left, w_ne0, nI_add, w_lt, w_le, w_eq, w_meq, w_eqm, w_mlt, w_ltm, w_mle, w_lem, w_clamp, w_in, w_31, w_ite0, w_ite1, w_ite01, true_or, or_true, false_or, or_false, Nat.le_refl, Nat.lt_irrefl, S_37 hS]
        refine hk2 _ _ ⟨fn, b1, y1, y2, ?_, ?_, o, v, rfl⟩
        · rw [hse]; exact t1
        · rw [hse]; exact t2
      · have wne : f c ≠ pMx := w
        have hsrc : pSr E f (pUn E c) (f c) := ⟨c, hc, wne, rfl, rfl⟩
        obtain ⟨d1, d2, d3⟩ := fi.1 _ _ hsrc
        refine k_unpackLeases hS hR hE b1.2.1 hcc hc (fun g k1 => ?_)
        have b2 := qB_U (g := g) b1
        simp (disch := omega) only [↓n_gb, ↓n_gb0, ↓n_ic, ↓n_icm, ↓n_lc, ↓e_lc, ↓e_null, ↓e_ldI, ↓e_ldL, ↓e_ldA, ↓e_stI, ↓e_stL, ↓e_stA, ↓n_inc, ↓n_incm1, ↓n_incm8, ↓e_iadd, ↓e_isub, ↓e_imul, ↓e_iand, ↓e_ior, ↓e_ixor, ↓n_ishl, ↓n_ishr, ↓e_iushr, ↓n_idiv, ↓e_ineg, ↓e_ladd, ↓e_lsub, ↓e_lmul, ↓e_lor, ↓e_lshl, ↓e_lshr, ↓e_i2l, ↓e_l2i, ↓e_i2b, ↓e_lcmp, ↓e_dup, ↓e_dup2, ↓e_pop, ↓e_ceq, ↓e_cne, ↓e_clt, ↓e_cge, ↓e_cgt, ↓e_cle, ↓n_zeq, ↓n_zne, ↓n_zlt, ↓n_zge, ↓n_zgt, ↓n_zle, ↓e_goto, ↓e_nn, ↓e_retI, ↓e_retL, ↓e_retV, ↓n_retZ, ↓e_retA, ↓e_gfI, ↓e_gfL, ↓e_gfR, ↓e_pfI, ↓n_pfZ, ↓e_pfL, ↓e_pfR, ↓e_iald, ↓e_lald, ↓e_aald, ↓e_alen, ↓e_iast, ↓e_bast, ↓n_zast, ↓e_last, ↓e_aast, ↓e_cV, ↓e_cS, ↓e_gsW, ↓e_gsK, ↓e_mmax, ↓e_mmin, ↓e_mmaxL, ↓e_mminL, gEnt, gPad, gArgs, gGet, gS1, gS2, gCl, gNo, gSp, gCt, n_sw, n_gSw, n_gSw0, Option.toList, List.cons_append, List.nil_append, Value.category, and_true, true_and, and_self, not_false_eq_true, not_true_eq_false, Nat.reduceAdd, Nat.reduceSub, Nat.reduceMul, Nat.reduceLeDiff, Nat.reduceLT, Nat.reduceEqDiff, forall_const, true_implies, false_implies, implies_true, Nat.zero_add, Option.some.injEq, Sum.inr.injEq, Sum.inl.injEq, Prod.mk.injEq, exists_eq_left', exists_eq_left, w_ne0, nI_add, w_lt, w_le, w_eq, w_meq, w_eqm, w_mlt, w_ltm, w_mle, w_lem, w_clamp, w_in, w_31, w_ite0, w_ite1, w_ite01, true_or, or_true, false_or, or_false, Nat.le_refl, Nat.lt_irrefl, S_37 hS, r9, sw, hne, yc]
        refine ⟨by omega, ?_⟩
        refine k_spread (l := pUn E c) (f0 := fn) (ww := 93 - ww) hS hR hE b2.2.1 ⟨?_, fun x us => ?_⟩ hi (fun b hb => ?_) d2 (by omega) b2.2.2.2.2 d1 hcc y2 (fun g' f' k6 k7 => ?_)
        · dsimp only
          rw [gW_n (by omega)]
          exact o.1
        · dsimp only
          rw [gW_n (by omega), gW_n (by omega)]
          exact o.2 x us
        · dsimp only
          rw [gW_s]
          exact k1 b hb
        have b3 := qB_L (g := g') b2
        simp (disch := omega) only [↓n_gb, ↓n_gb0, ↓n_ic, ↓n_icm, ↓n_lc, ↓e_lc, ↓e_null, ↓e_ldI, ↓e_ldL, ↓e_ldA, ↓e_stI, ↓e_stL, ↓e_stA, ↓n_inc, ↓n_incm1, ↓n_incm8, ↓e_iadd, ↓e_isub, ↓e_imul, ↓e_iand, ↓e_ior, ↓e_ixor, ↓n_ishl, ↓n_ishr, ↓e_iushr, ↓n_idiv, ↓e_ineg, ↓e_ladd, ↓e_lsub, ↓e_lmul, ↓e_lor, ↓e_lshl, ↓e_lshr, ↓e_i2l, ↓e_l2i, ↓e_i2b, ↓e_lcmp, ↓e_dup, ↓e_dup2, ↓e_pop, ↓e_ceq, ↓e_cne, ↓e_clt, ↓e_cge, ↓e_cgt, ↓e_cle, ↓n_zeq, ↓n_zne, ↓n_zlt, ↓n_zge, ↓n_zgt, ↓n_zle, ↓e_goto, ↓e_nn, ↓e_retI, ↓e_retL, ↓e_retV, ↓n_retZ, ↓e_retA, ↓e_gfI, ↓e_gfL, ↓e_gfR, ↓e_pfI, ↓n_pfZ, ↓e_pfL, ↓e_pfR, ↓e_iald, ↓e_lald, ↓e_aald, ↓e_alen, ↓e_iast, ↓e_bast, ↓n_zast, ↓e_last, ↓e_aast, ↓e_cV, ↓e_cS, ↓e_gsW, ↓e_gsK, ↓e_mmax, ↓e_mmin, ↓e_mmaxL, ↓e_mminL, gEnt, gPad, gArgs, gGet, gS1, gS2, gCl, gNo, gSp, gCt, n_sw, n_gSw, n_gSw0, Option.toList, List.cons_append, List.nil_append, Value.category, and_true, true_and, and_self, not_false_eq_true, not_true_eq_false, Nat.reduceAdd, Nat.reduceSub, Nat.reduceMul, Nat.reduceLeDiff, Nat.reduceLT, Nat.reduceEqDiff, forall_const, true_implies, false_implies, implies_true, Nat.zero_add, Option.some.injEq, Sum.inr.injEq, Sum.inl.injEq, Prod.mk.injEq, exists_eq_left', exists_eq_left, w_ne0, nI_add, w_lt, w_le, w_eq, w_meq, w_eqm, w_mlt, w_ltm, w_mle, w_lem, w_clamp, w_in, w_31, w_ite0, w_ite1, w_ite01, true_or, or_true, false_or, or_false, Nat.le_refl, Nat.lt_irrefl, S_37 hS]
        refine b_X4_findWay_82 hX ?_
        simp (disch := omega) only [B_X4_findWay_82, ↓n_gb, ↓n_gb0, ↓n_ic, ↓n_icm, ↓n_lc, ↓e_lc, ↓e_null, ↓e_ldI, ↓e_ldL, ↓e_ldA, ↓e_stI, ↓e_stL, ↓e_stA, ↓n_inc, ↓n_incm1, ↓n_incm8, ↓e_iadd, ↓e_isub, ↓e_imul, ↓e_iand, ↓e_ior, ↓e_ixor, ↓n_ishl, ↓n_ishr, ↓e_iushr, ↓n_idiv, ↓e_ineg, ↓e_ladd, ↓e_lsub, ↓e_lmul, ↓e_lor, ↓e_lshl, ↓e_lshr, ↓e_i2l, ↓e_l2i, ↓e_i2b, ↓e_lcmp, ↓e_dup, ↓e_dup2, ↓e_pop, ↓e_ceq, ↓e_cne, ↓e_clt, ↓e_cge, ↓e_cgt, ↓e_cle, ↓n_zeq, ↓n_zne, ↓n_zlt, ↓n_zge, ↓n_zgt, ↓n_zle, ↓e_goto, ↓e_nn, ↓e_retI, ↓e_retL, ↓e_retV, ↓n_retZ, ↓e_retA, ↓e_gfI, ↓e_gfL, ↓e_gfR, ↓e_pfI, ↓n_pfZ, ↓e_pfL, ↓e_pfR, ↓e_iald, ↓e_lald, ↓e_aald, ↓e_alen, ↓e_iast, ↓e_bast, ↓n_zast, ↓e_last, ↓e_aast, ↓e_cV, ↓e_cS, ↓e_gsW, ↓e_gsK, ↓e_mmax, ↓e_mmin, ↓e_mmaxL, ↓e_mminL, gEnt, gPad, gArgs, gGet, gS1, gS2, gCl, gNo, gSp, gCt, n_sw, n_gSw, n_gSw0, Option.toList, List.cons_append, List.nil_append, Value.category, and_true, true_and, and_self, not_false_eq_true, not_true_eq_false, Nat.reduceAdd, Nat.reduceSub, Nat.reduceMul, Nat.reduceLeDiff, Nat.reduceLT, Nat.reduceEqDiff, forall_const, true_implies, false_implies, implies_true, Nat.zero_add, Option.some.injEq, Sum.inr.injEq, Sum.inl.injEq, Prod.mk.injEq, exists_eq_left', exists_eq_left, w_ne0, nI_add, w_lt, w_le, w_eq, w_meq, w_eqm, w_mlt, w_ltm, w_mle, w_lem, w_clamp, w_in, w_31, w_ite0, w_ite1, w_ite01, true_or, or_true, false_or, or_false, Nat.le_refl, Nat.lt_irrefl, S_37 hS]
        have tt := pSp_T (Src' := pSrL E f (c + 1)) hE (fun l' w' hs' => by
          obtain ⟨c', z1, z2, z3, z4⟩ := hs'
          exact (fi.1 l' w' ⟨c', by omega, z2, z3, z4⟩).2.1) t1 t2 k7 (fun l' w' => by
          constructor
          · rintro ⟨c', z1, z2, z3, z4⟩
            by_cases e : c' = c
            · subst e; exact Or.inr ⟨z3, z4⟩
            · exact Or.inl ⟨c', by omega, z2, z3, z4⟩
          · rintro (⟨c', z1, z2⟩ | ⟨z1, z2⟩)
            · exact ⟨c', by omega, z2⟩
            · exact ⟨c, by omega, wne, z1, z2⟩)
        refine hk2 _ _ ⟨f', b3, fun c' hc' => ?_, fun c' hc' => ?_, tt.1, tt.2, ⟨?_, fun x us => ?_⟩, fun i' hi' x us => ?_, rfl⟩
        · dsimp only
          rw [gW_n (by omega)]
          exact y1 c' hc'
        · dsimp only
          rw [gW_s]
          exact k6 c' hc'
        · dsimp only
          rw [gW_n (by omega)]
          exact o.1
        · dsimp only
          rw [gW_n (by omega), gW_n (by omega)]
          exact o.2 x us
        · dsimp only
          rw [gW_n (by omega)]
          exact v i' hi' x us
    · rintro μ3 _ ⟨fn, b1, y1, y2, t1, t2, o, v, rfl⟩
      have hR := qFr_R b1.1 hR0
      have q14 := b1.2.1.2.1
      refine b_X4_findWay_45 hX ?_
      simp (disch := omega) only [B_X4_findWay_45, ↓n_gb, ↓n_gb0, ↓n_ic, ↓n_icm, ↓n_lc, ↓e_lc, ↓e_null, ↓e_ldI, ↓e_ldL, ↓e_ldA, ↓e_stI, ↓e_stL, ↓e_stA, ↓n_inc, ↓n_incm1, ↓n_incm8, ↓e_iadd, ↓e_isub, ↓e_imul, ↓e_iand, ↓e_ior, ↓e_ixor, ↓n_ishl, ↓n_ishr, ↓e_iushr, ↓n_idiv, ↓e_ineg, ↓e_ladd, ↓e_lsub, ↓e_lmul, ↓e_lor, ↓e_lshl, ↓e_lshr, ↓e_i2l, ↓e_l2i, ↓e_i2b, ↓e_lcmp, ↓e_dup, ↓e_dup2, ↓e_pop, ↓e_ceq, ↓e_cne, ↓e_clt, ↓e_cge, ↓e_cgt, ↓e_cle, ↓n_zeq, ↓n_zne, ↓n_zlt, ↓n_zge, ↓n_zgt, ↓n_zle, ↓e_goto, ↓e_nn, ↓e_retI, ↓e_retL, ↓e_retV, ↓n_retZ, ↓e_retA, ↓e_gfI, ↓e_gfL, ↓e_gfR, ↓e_pfI, ↓n_pfZ, ↓e_pfL, ↓e_pfR, ↓e_iald, ↓e_lald, ↓e_aald, ↓e_alen, ↓e_iast, ↓e_bast, ↓n_zast, ↓e_last, ↓e_aast, ↓e_cV, ↓e_cS, ↓e_gsW, ↓e_gsK, ↓e_mmax, ↓e_mmin, ↓e_mmaxL, ↓e_mminL, gEnt, gPad, gArgs, gGet, gS1, gS2, gCl, gNo, gSp, gCt, n_sw, n_gSw, n_gSw0, Option.toList, List.cons_append, List.nil_append, Value.category, and_true, true_and, and_self, not_false_eq_true, not_true_eq_false, Nat.reduceAdd, Nat.reduceSub, Nat.reduceMul, Nat.reduceLeDiff, Nat.reduceLT, Nat.reduceEqDiff, forall_const, true_implies, false_implies, implies_true, Nat.zero_add, Option.some.injEq, Sum.inr.injEq, Sum.inl.injEq, Prod.mk.injEq, exists_eq_left', exists_eq_left, w_ne0, nI_add, w_lt, w_le, w_eq, w_meq, w_eqm, w_mlt, w_ltm, w_mle, w_lem, w_clamp, w_in, w_31, w_ite0, w_ite1, w_ite01, true_or, or_true, false_or, or_false, Nat.le_refl, Nat.lt_irrefl, S_37 hS, q14]
      refine b_X4_findWay_88 hX ?_
      simp (disch := omega) only [B_X4_findWay_88, ↓n_gb, ↓n_gb0, ↓n_ic, ↓n_icm, ↓n_lc, ↓e_lc, ↓e_null, ↓e_ldI, ↓e_ldL, ↓e_ldA, ↓e_stI, ↓e_stL, ↓e_stA, ↓n_inc, ↓n_incm1, ↓n_incm8, ↓e_iadd, ↓e_isub, ↓e_imul, ↓e_iand, ↓e_ior, ↓e_ixor, ↓n_ishl, ↓n_ishr, ↓e_iushr, ↓n_idiv, ↓e_ineg, ↓e_ladd, ↓e_lsub, ↓e_lmul, ↓e_lor, ↓e_lshl, ↓e_lshr, ↓e_i2l, ↓e_l2i, ↓e_i2b, ↓e_lcmp, ↓e_dup, ↓e_dup2, ↓e_pop, ↓e_ceq, ↓e_cne, ↓e_clt, ↓e_cge, ↓e_cgt, ↓e_cle, ↓n_zeq, ↓n_zne, ↓n_zlt, ↓n_zge, ↓n_zgt, ↓n_zle, ↓e_goto, ↓e_nn, ↓e_retI, ↓e_retL, ↓e_retV, ↓n_retZ, ↓e_retA, ↓e_gfI, ↓e_gfL, ↓e_gfR, ↓e_pfI, ↓n_pfZ, ↓e_pfL, ↓e_pfR, ↓e_iald, ↓e_lald, ↓e_aald, ↓e_alen, ↓e_iast, ↓e_bast, ↓n_zast, ↓e_last, ↓e_aast, ↓e_cV, ↓e_cS, ↓e_gsW, ↓e_gsK, ↓e_mmax, ↓e_mmin, ↓e_mmaxL, ↓e_mminL, gEnt, gPad, gArgs, gGet, gS1, gS2, gCl, gNo, gSp, gCt, n_sw, n_gSw, n_gSw0, Option.toList, List.cons_append, List.nil_append, Value.category, and_true, true_and, and_self, not_false_eq_true, not_true_eq_false, Nat.reduceAdd, Nat.reduceSub, Nat.reduceMul, Nat.reduceLeDiff, Nat.reduceLT, Nat.reduceEqDiff, forall_const, true_implies, false_implies, implies_true, Nat.zero_add, Option.some.injEq, Sum.inr.injEq, Sum.inl.injEq, Prod.mk.injEq, exists_eq_left', exists_eq_left, w_ne0, nI_add, w_lt, w_le, w_eq, w_meq, w_eqm, w_mlt, w_ltm, w_mle, w_lem, w_clamp, w_in, w_31, w_ite0, w_ite1, w_ite01, true_or, or_true, false_or, or_false, Nat.le_refl, Nat.lt_irrefl, S_37 hS]
      refine k_swapWays hS hR hw1 b1.2.2.2.1 b1.2.2.2.2 ?_
      have b6 := qB_S b1
      simp (disch := omega) only [↓n_gb, ↓n_gb0, ↓n_ic, ↓n_icm, ↓n_lc, ↓e_lc, ↓e_null, ↓e_ldI, ↓e_ldL, ↓e_ldA, ↓e_stI, ↓e_stL, ↓e_stA, ↓n_inc, ↓n_incm1, ↓n_incm8, ↓e_iadd, ↓e_isub, ↓e_imul, ↓e_iand, ↓e_ior, ↓e_ixor, ↓n_ishl, ↓n_ishr, ↓e_iushr, ↓n_idiv, ↓e_ineg, ↓e_ladd, ↓e_lsub, ↓e_lmul, ↓e_lor, ↓e_lshl, ↓e_lshr, ↓e_i2l, ↓e_l2i, ↓e_i2b, ↓e_lcmp, ↓e_dup, ↓e_dup2, ↓e_pop, ↓e_ceq, ↓e_cne, ↓e_clt, ↓e_cge, ↓e_cgt, ↓e_cle, ↓n_zeq, ↓n_zne, ↓n_zlt, ↓n_zge, ↓n_zgt, ↓n_zle, ↓e_goto, ↓e_nn, ↓e_retI, ↓e_retL, ↓e_retV, ↓n_retZ, ↓e_retA, ↓e_gfI, ↓e_gfL, ↓e_gfR, ↓e_pfI, ↓n_pfZ, ↓e_pfL, ↓e_pfR, ↓e_iald, ↓e_lald, ↓e_aald, ↓e_alen, ↓e_iast, ↓e_bast, ↓n_zast, ↓e_last, ↓e_aast, ↓e_cV, ↓e_cS, ↓e_gsW, ↓e_gsK, ↓e_mmax, ↓e_mmin, ↓e_mmaxL, ↓e_mminL, gEnt, gPad, gArgs, gGet, gS1, gS2, gCl, gNo, gSp, gCt, n_sw, n_gSw, n_gSw0, Option.toList, List.cons_append, List.nil_append, Value.category, and_true, true_and, and_self, not_false_eq_true, not_true_eq_false, Nat.reduceAdd, Nat.reduceSub, Nat.reduceMul, Nat.reduceLeDiff, Nat.reduceLT, Nat.reduceEqDiff, forall_const, true_implies, false_implies, implies_true, Nat.zero_add, Option.some.injEq, Sum.inr.injEq, Sum.inl.injEq, Prod.mk.injEq, exists_eq_left', exists_eq_left, w_ne0, nI_add, w_lt, w_le, w_eq, w_meq, w_eqm, w_mlt, w_ltm, w_mle, w_lem, w_clamp, w_in, w_31, w_ite0, w_ite1, w_ite01, true_or, or_true, false_or, or_false, Nat.le_refl, Nat.lt_irrefl, S_37 hS]
      refine hk _ _ ⟨93 - ww, fn, _, b6, y2, pFI_s hE hi fi t1 t2, v, rfl⟩
    · dsimp only
      rw [gW_n (by omega)]
      exact y1 c hc
    · dsimp only
      rw [gW_s]
      exact ⟨k2 c hc, Nat.le_refl _⟩
    · by_cases e : i' = i
      · subst e; exact k5
      · intro x us
        have h15 := pCt_15 hE us
        have := y2 i' (by omega) x us
        dsimp only at k3 ⊢
        rw [gU_n (by omega), gW_n (by omega), gW_n (by omega), gW_s, k3 _ (by omega)]
        exact this
  · rintro μ2 _ ⟨ww, f, u, b1, y1, fi, y2, rfl⟩
    have hR := qFr_R b1.1 hR0
    have sw : S (β + ww) = some (.inr (1, 2401)) := by
      rcases b1.2.2.1 with rfl | rfl
      · exact S_46 hS
      · exact S_47 hS
    have q16 := b1.2.1.2.2.2.1
    have r9 := b1.2.2.2.1
    have hne : β + ww ≠ 0 := by have := b1.2.2.1; omega
    refine b_X4_findWay_26 hX ?_
    simp (disch := omega) only [B_X4_findWay_26, ↓n_gb, ↓n_gb0, ↓n_ic, ↓n_icm, ↓n_lc, ↓e_lc, ↓e_null, ↓e_ldI, ↓e_ldL, ↓e_ldA, ↓e_stI, ↓e_stL, ↓e_stA, ↓n_inc, ↓n_incm1, ↓n_incm8, ↓e_iadd, ↓e_isub, ↓e_imul, ↓e_iand, ↓e_ior, ↓e_ixor, ↓n_ishl, ↓n_ishr, ↓e_iushr, ↓n_idiv, ↓e_ineg, ↓e_ladd, ↓e_lsub, ↓e_lmul, ↓e_lor, ↓e_lshl, ↓e_lshr, ↓e_i2l, ↓e_l2i, ↓e_i2b, ↓e_lcmp, ↓e_dup, ↓e_dup2, ↓e_pop, ↓e_ceq, ↓e_cne, ↓e_clt, ↓e_cge, ↓e_cgt, ↓e_cle, ↓n_zeq, ↓n_zne, ↓n_zlt, ↓n_zge, ↓n_zgt, ↓n_zle, ↓e_goto, ↓e_nn, ↓e_retI, ↓e_retL, ↓e_retV, ↓n_retZ, ↓e_retA, ↓e_gfI, ↓e_gfL, ↓e_gfR, ↓e_pfI, ↓n_pfZ, ↓e_pfL, ↓e_pfR, ↓e_iald, ↓e_lald, ↓e_aald, ↓e_alen, ↓e_iast, ↓e_bast, ↓n_zast, ↓e_last, ↓e_aast, ↓e_cV, ↓e_cS, ↓e_gsW, ↓e_gsK, ↓e_mmax, ↓e_mmin, ↓e_mmaxL, ↓e_mminL, gEnt, gPad, gArgs, gGet, gS1, gS2, gCl, gNo, gSp, gCt, n_sw, n_gSw, n_gSw0, Option.toList, List.cons_append, List.nil_append, Value.category, and_true, true_and, and_self, not_false_eq_true, not_true_eq_false, Nat.reduceAdd, Nat.reduceSub, Nat.reduceMul, Nat.reduceLeDiff, Nat.reduceLT, Nat.reduceEqDiff, forall_const, true_implies, false_implies, implies_true, Nat.zero_add, Option.some.injEq, Sum.inr.injEq, Sum.inl.injEq, Prod.mk.injEq, exists_eq_left', exists_eq_left, w_ne0, nI_add, w_lt, w_le, w_eq, w_meq, w_eqm, w_mlt, w_ltm, w_mle, w_lem, w_clamp, w_in, w_31, w_ite0, w_ite1, w_ite01, true_or, or_true, false_or, or_false, Nat.le_refl, Nat.lt_irrefl, S_37 hS, q16]
    refine b_X4_findWay_98 hX ?_
    simp (disch := omega) only [B_X4_findWay_98, ↓n_gb, ↓n_gb0, ↓n_ic, ↓n_icm, ↓n_lc, ↓e_lc, ↓e_null, ↓e_ldI, ↓e_ldL, ↓e_ldA, ↓e_stI, ↓e_stL, ↓e_stA, ↓n_inc, ↓n_incm1, ↓n_incm8, ↓e_iadd, ↓e_isub, ↓e_imul, ↓e_iand, ↓e_ior, ↓e_ixor, ↓n_ishl, ↓n_ishr, ↓e_iushr, ↓n_idiv, ↓e_ineg, ↓e_ladd, ↓e_lsub, ↓e_lmul, ↓e_lor, ↓e_lshl, ↓e_lshr, ↓e_i2l, ↓e_l2i, ↓e_i2b, ↓e_lcmp, ↓e_dup, ↓e_dup2, ↓e_pop, ↓e_ceq, ↓e_cne, ↓e_clt, ↓e_cge, ↓e_cgt, ↓e_cle, ↓n_zeq, ↓n_zne, ↓n_zlt, ↓n_zge, ↓n_zgt, ↓n_zle, ↓e_goto, ↓e_nn, ↓e_retI, ↓e_retL, ↓e_retV, ↓n_retZ, ↓e_retA, ↓e_gfI, ↓e_gfL, ↓e_gfR, ↓e_pfI, ↓n_pfZ, ↓e_pfL, ↓e_pfR, ↓e_iald, ↓e_lald, ↓e_aald, ↓e_alen, ↓e_iast, ↓e_bast, ↓n_zast, ↓e_last, ↓e_aast, ↓e_cV, ↓e_cS, ↓e_gsW, ↓e_gsK, ↓e_mmax, ↓e_mmin, ↓e_mmaxL, ↓e_mminL, gEnt, gPad, gArgs, gGet, gS1, gS2, gCl, gNo, gSp, gCt, n_sw, n_gSw, n_gSw0, Option.toList, List.cons_append, List.nil_append, Value.category, and_true, true_and, and_self, not_false_eq_true, not_true_eq_false, Nat.reduceAdd, Nat.reduceSub, Nat.reduceMul, Nat.reduceLeDiff, Nat.reduceLT, Nat.reduceEqDiff, forall_const, true_implies, false_implies, implies_true, Nat.zero_add, Option.some.injEq, Sum.inr.injEq, Sum.inl.injEq, Prod.mk.injEq, exists_eq_left', exists_eq_left, w_ne0, nI_add, w_lt, w_le, w_eq, w_meq, w_eqm, w_mlt, w_ltm, w_mle, w_lem, w_clamp, w_in, w_31, w_ite0, w_ite1, w_ite01, true_or, or_true, false_or, or_false, Nat.le_refl, Nat.lt_irrefl, S_37 hS, r9, sw, hne]
    rw [(y1 0 (pWt_pos _)).1, pFI_end hE fi]
    exact hP μ2 b1.1 ⟨ww, b1.2.2⟩ y2
  · dsimp only
    rw [gW_s]
    exact k6 c hc
  · rw [show i' = 0 by omega]
    exact k5
