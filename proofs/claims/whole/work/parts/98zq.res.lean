/-! THE TEXT, the class: parse -/
abbrev g0Z : zG := (0, 0, fun _ => 0, fun _ => 0, fun _ => 0, fun _ => 0, (0, 0), fun _ => (0, 0, 0, 0))
/-- the fault and its place -/
def rFl (K pl vl : Nat → Nat) : Nat × Nat := if (rdA K 19 0 0 0 0).1 ≠ 0 then ((rdA K 19 0 0 0 0).1, pl (rdA K 19 0 0 0 0).2.1) else zw (zF K pl vl 19 0 g0Z)
/-- what parse may change -/
def dPr (β q : Nat) (μ μ' : gM) : Prop := (∀ a i, ¬ (a = β + 3 ∧ 2 ≤ i ∧ i ≤ 4) → ¬ (a = β + 4 ∧ i = 3) → a ≠ β + 5 → a ≠ β + 6 → ¬ (a = β + q ∧ 8 ≤ i ∧ i ≤ 11) → ¬ (β + (q + 2) ≤ a ∧ a ≤ β + (q + 5)) → ¬ (β + (q + 8) ≤ a ∧ a ≤ β + (q + 25)) → μ'.1 a i = μ.1 a i) ∧ (∀ a i, a ≠ β + 7 → ¬ (β + (q + 8) ≤ a ∧ a ≤ β + (q + 25)) → μ'.2.1 a i = μ.2.1 a i) ∧ μ'.2.2 = gU μ.2.2 (β + 3) 1 (β + q)
theorem dTl_nb {β q nb nl : Nat} {g : zG} {tl : List rTl} {μ : gM} (hr : zRl g tl) (h : dTl β q nb nl tl μ) : nb = zB g ∧ nl = zL g := by
  obtain ⟨t1, t2, t3, t4, t5, t6, t7⟩ := h
  obtain ⟨r1, r2, r3, r4, r5⟩ := hr
  have a1 : zB g ≤ nb := by
    refine Nat.le_of_not_lt (fun z => ?_)
    obtain ⟨j, x, y1, y2, y3⟩ := r4 (zB g - 1) (by omega)
    have := (t7 j x y1).2.2.2.2.2
    omega
  have a2 : zL g ≤ nl := by
    refine Nat.le_of_not_lt (fun z => ?_)
    obtain ⟨j, x, y1, y2, y3⟩ := r3 (zL g - 1) (by omega)
    have := (t7 j x y1).2.2.2.2.2
    omega
  omega
theorem zRl_0 : zRl g0Z [] := ⟨rfl, fun j x h => by simp at h, fun k hk => by simp [zL] at hk, fun k hk => by simp [zB] at hk, fun j j' x x' _ h => by simp at h⟩
theorem zP_0 {vl : Nat → Nat} : zP vl 0 g0Z [] [] := ⟨fun x h => by simp at h, fun j x h => by simp at h⟩
theorem zCl_0 : zCl g0Z := fun k hk => by simp [zL] at hk
theorem dUr_D {β q nb nl : Nat} {μ μ' : gM} (hq : q = 56 ∨ q = 83) (h : dUr β q μ μ') : μ'.1 (β + q) 11 = μ.1 (β + q) 11 := h.1 _ _ (by omega) (by omega) (by omega) (by omega)
theorem k_clear {S : gSh} {h β q : Nat} {μ : gM} {P : gP} (hS : gLS S β) (hR : gPS μ.2.2 β) (hq : q = 56 ∨ q = 83) (hP : P none (gU (gU (gU (gU μ.1 (β + q) 8 (nI 0)) (β + q) 9 (nI 0)) (β + q) 10 (nI 0)) (β + q) 11 (nI 0), μ.2)) : gRun S (h + 1) 51 [.ref (β + q)] μ P := by
  refine r_X5_clear (by simp [lg_sl, Value.category]) (fun X hX => ?_)
  refine b_X5_clear_0 hX ?_
  simp (disch := omega) only [B_X5_clear_0, ↓n_gb, ↓n_gb0, ↓n_ic, ↓n_icm, ↓n_lc, ↓e_lc, ↓e_null, ↓e_ldI, ↓e_ldL, ↓e_ldA, ↓e_stI, ↓e_stL, ↓e_stA, ↓n_inc, ↓n_incm1, ↓n_incm8, ↓e_iadd, ↓e_isub, ↓e_imul, ↓e_iand, ↓e_ior, ↓e_ixor, ↓n_ishl, ↓n_ishr, ↓e_iushr, ↓n_idiv, ↓e_ineg, ↓e_ladd, ↓e_lsub, ↓e_lmul, ↓e_lor, ↓e_lshl, ↓e_lshr, ↓e_i2l, ↓e_l2i, ↓e_i2b, ↓e_lcmp, ↓e_dup, ↓e_dup2, ↓e_pop, ↓e_ceq, ↓e_cne, ↓e_clt, ↓e_cge, ↓e_cgt, ↓e_cle, ↓n_zeq, ↓n_zne, ↓n_zlt, ↓n_zge, ↓n_zgt, ↓n_zle, ↓e_goto, ↓e_nn, ↓e_retI, ↓e_retL, ↓e_retV, ↓n_retZ, ↓e_retA, ↓e_gfI, ↓e_gfL, ↓e_gfR, ↓e_pfI, ↓n_pfZ, ↓e_pfL, ↓e_pfR, ↓e_iald, ↓e_lald, ↓e_aald, ↓e_alen, ↓e_iast, ↓e_bast, ↓n_zast, ↓e_last, ↓e_aast, ↓e_cV, ↓e_cS, ↓e_gsW, ↓e_gsK, ↓e_mmax, ↓e_mmin, ↓e_mmaxL, ↓e_mminL, gEnt, gPad, gArgs, gGet, gS1, gS2, gCl, gNo, gSp, gCt, n_sw, n_gSw, n_gSw0, Option.toList, List.cons_append, List.nil_append, Value.category, and_true, true_and, and_self, not_false_eq_true, not_true_eq_false, Nat.reduceAdd, Nat.reduceSub, Nat.reduceMul, Nat.reduceLeDiff, Nat.reduceLT, Nat.reduceEqDiff, forall_const, true_implies, false_implies, implies_true, Nat.zero_add, Option.some.injEq, Sum.inr.injEq, Sum.inl.injEq, Prod.mk.injEq, exists_eq_left', exists_eq_left, w_ne0, nI_add, w_lt, w_le, w_eq, w_meq, w_eqm, w_mlt, w_ltm, w_mle, w_lem, w_clamp, w_in, w_31, w_ite0, w_ite1, w_ite01, true_or, or_true, false_or, or_false, Nat.le_refl, Nat.lt_irrefl, sq_S0 hS hq, sq_S1 hS hq, sq_S2 hS hq, sq_S3 hS hq, sq_S4 hS hq, sq_S5 hS hq, sq_S6 hS hq, sq_S7 hS hq, sq_S26 hS hq, sq_r0 hR hq, sq_r1 hR hq, sq_r2 hR hq, sq_r3 hR hq, sq_r4 hR hq, sq_r5 hR hq, sq_r6 hR hq, tl_S hS hq, tl_r hR hq]
  exact hP
set_option maxHeartbeats 4000000 in
theorem k_parse {S : gSh} {h β q N : Nat} {b : Nat → Nat} {μ : gM} {P : gP} (hS : gLS S β) (hR : gPS μ.2.2 β) (hq : q = 56 ∨ q = 83) (hb : tB β N b μ)
    (hP : ∀ μ' sz, dPr β q μ μ' → tE b N sz → dW β (rFl (nK b N sz) (tQ b N) (fun p => tVl b N (tQ b N p))) μ' → ((rFl (nK b N sz) (tQ b N) (fun p => tVl b N (tQ b N p))).1 = 0 → (rdA (nK b N sz) 19 0 0 0 0).2.2.2.length ≤ 400 ∧ dTl β q (zB (zF (nK b N sz) (tQ b N) (fun p => tVl b N (tQ b N p)) 19 0 g0Z)) (zL (zF (nK b N sz) (tQ b N) (fun p => tVl b N (tQ b N p)) 19 0 g0Z)) (rdA (nK b N sz) 19 0 0 0 0).2.2.1 μ' ∧ dCk β q (fun p => tVl b N (tQ b N p)) (zF (nK b N sz) (tQ b N) (fun p => tVl b N (tQ b N p)) 19 0 g0Z) (rdA (nK b N sz) 19 0 0 0 0).2.2.1 (rdA (nK b N sz) 19 0 0 0 0).2.2.2 μ' ∧ μ'.1 (β + q) 11 = nI (rdA (nK b N sz) 19 0 0 0 0).2.2.2.length) → P (some (.int (nI (rFl (nK b N sz) (tQ b N) (fun p => tVl b N (tQ b N p))).1))) μ') : gRun S (h + 50) 13 [.ref (β + 3), .ref (β + 1), .ref (β + q)] μ P := by
  have hR0 : gPS (gU μ.2.2 (β + 3) 1 (β + q)) β := gPS_U hR (by decide +kernel)
  refine r_X2_parse (by simp [lg_sl, Value.category]) (fun X hX => ?_)
  refine b_X2_parse_0 hX ?_
  simp (disch := omega) only [B_X2_parse_0, ↓n_gb, ↓n_gb0, ↓n_ic, ↓n_icm, ↓n_lc, ↓e_lc, ↓e_null, ↓e_ldI, ↓e_ldL, ↓e_ldA, ↓e_stI, ↓e_stL, ↓e_stA, ↓n_inc, ↓n_incm1, ↓n_incm8, ↓e_iadd, ↓e_isub, ↓e_imul, ↓e_iand, ↓e_ior, ↓e_ixor, ↓n_ishl, ↓n_ishr, ↓e_iushr, ↓n_idiv, ↓e_ineg, ↓e_ladd, ↓e_lsub, ↓e_lmul, ↓e_lor, ↓e_lshl, ↓e_lshr, ↓e_i2l, ↓e_l2i, ↓e_i2b, ↓e_lcmp, ↓e_dup, ↓e_dup2, ↓e_pop, ↓e_ceq, ↓e_cne, ↓e_clt, ↓e_cge, ↓e_cgt, ↓e_cle, ↓n_zeq, ↓n_zne, ↓n_zlt, ↓n_zge, ↓n_zgt, ↓n_zle, ↓e_goto, ↓e_nn, ↓e_retI, ↓e_retL, ↓e_retV, ↓n_retZ, ↓e_retA, ↓e_gfI, ↓e_gfL, ↓e_gfR, ↓e_pfI, ↓n_pfZ, ↓e_pfL, ↓e_pfR, ↓e_iald, ↓e_lald, ↓e_aald, ↓e_alen, ↓e_iast, ↓e_bast, ↓n_zast, ↓e_last, ↓e_aast, ↓e_cV, ↓e_cS, ↓e_gsW, ↓e_gsK, ↓e_mmax, ↓e_mmin, ↓e_mmaxL, ↓e_mminL, gEnt, gPad, gArgs, gGet, gS1, gS2, gCl, gNo, gSp, gCt, n_sw, n_gSw, n_gSw0, Option.toList, List.cons_append, List.nil_append, Value.category, and_true, true_and, and_self, not_false_eq_true, not_true_eq_false, Nat.reduceAdd, Nat.reduceSub, Nat.reduceMul, Nat.reduceLeDiff, Nat.reduceLT, Nat.reduceEqDiff, forall_const, true_implies, false_implies, implies_true, Nat.zero_add, Option.some.injEq, Sum.inr.injEq, Sum.inl.injEq, Prod.mk.injEq, exists_eq_left', exists_eq_left, w_ne0, nI_add, w_lt, w_le, w_eq, w_meq, w_eqm, w_mlt, w_ltm, w_mle, w_lem, w_clamp, w_in, w_31, w_ite0, w_ite1, w_ite01, true_or, or_true, false_or, or_false, Nat.le_refl, Nat.lt_irrefl, S_3 hS, S_4 hS, R_3_0 hR, sq_S0 hS hq, sq_S1 hS hq, sq_S2 hS hq, sq_S3 hS hq, sq_S4 hS hq, sq_S5 hS hq, sq_S6 hS hq, sq_S7 hS hq, sq_S26 hS hq, sq_r0 hR hq, sq_r1 hR hq, sq_r2 hR hq, sq_r3 hR hq, sq_r4 hR hq, sq_r5 hR hq, sq_r6 hR hq, tl_S hS hq, tl_r hR hq, gU_s]
  have hRo := hR
  refine k_clear (h := h + 48) (μ := (μ.1, μ.2.1, gU μ.2.2 (β + 3) 1 (β + q))) hS hR0 hq ?_
  have hR := hR0
  simp (disch := omega) only [↓n_gb, ↓n_gb0, ↓n_ic, ↓n_icm, ↓n_lc, ↓e_lc, ↓e_null, ↓e_ldI, ↓e_ldL, ↓e_ldA, ↓e_stI, ↓e_stL, ↓e_stA, ↓n_inc, ↓n_incm1, ↓n_incm8, ↓e_iadd, ↓e_isub, ↓e_imul, ↓e_iand, ↓e_ior, ↓e_ixor, ↓n_ishl, ↓n_ishr, ↓e_iushr, ↓n_idiv, ↓e_ineg, ↓e_ladd, ↓e_lsub, ↓e_lmul, ↓e_lor, ↓e_lshl, ↓e_lshr, ↓e_i2l, ↓e_l2i, ↓e_i2b, ↓e_lcmp, ↓e_dup, ↓e_dup2, ↓e_pop, ↓e_ceq, ↓e_cne, ↓e_clt, ↓e_cge, ↓e_cgt, ↓e_cle, ↓n_zeq, ↓n_zne, ↓n_zlt, ↓n_zge, ↓n_zgt, ↓n_zle, ↓e_goto, ↓e_nn, ↓e_retI, ↓e_retL, ↓e_retV, ↓n_retZ, ↓e_retA, ↓e_gfI, ↓e_gfL, ↓e_gfR, ↓e_pfI, ↓n_pfZ, ↓e_pfL, ↓e_pfR, ↓e_iald, ↓e_lald, ↓e_aald, ↓e_alen, ↓e_iast, ↓e_bast, ↓n_zast, ↓e_last, ↓e_aast, ↓e_cV, ↓e_cS, ↓e_gsW, ↓e_gsK, ↓e_mmax, ↓e_mmin, ↓e_mmaxL, ↓e_mminL, gEnt, gPad, gArgs, gGet, gS1, gS2, gCl, gNo, gSp, gCt, n_sw, n_gSw, n_gSw0, Option.toList, List.cons_append, List.nil_append, Value.category, and_true, true_and, and_self, not_false_eq_true, not_true_eq_false, Nat.reduceAdd, Nat.reduceSub, Nat.reduceMul, Nat.reduceLeDiff, Nat.reduceLT, Nat.reduceEqDiff, forall_const, true_implies, false_implies, implies_true, Nat.zero_add, Option.some.injEq, Sum.inr.injEq, Sum.inl.injEq, Prod.mk.injEq, exists_eq_left', exists_eq_left, w_ne0, nI_add, w_lt, w_le, w_eq, w_meq, w_eqm, w_mlt, w_ltm, w_mle, w_lem, w_clamp, w_in, w_31, w_ite0, w_ite1, w_ite01, true_or, or_true, false_or, or_false, Nat.le_refl, Nat.lt_irrefl, S_3 hS, S_4 hS, R_3_0 hR, sq_S0 hS hq, sq_S1 hS hq, sq_S2 hS hq, sq_S3 hS hq, sq_S4 hS hq, sq_S5 hS hq, sq_S6 hS hq, sq_S7 hS hq, sq_S26 hS hq, sq_r0 hR hq, sq_r1 hR hq, sq_r2 hR hq, sq_r3 hR hq, sq_r4 hR hq, sq_r5 hR hq, sq_r6 hR hq, tl_S hS hq, tl_r hR hq]
  have hb1 : tB β N b (gU (gU (gU (gU μ.1 (β + q) 8 (nI 0)) (β + q) 9 (nI 0)) (β + q) 10 (nI 0)) (β + q) 11 (nI 0), μ.2.1, gU μ.2.2 (β + 3) 1 (β + q)) := by
    obtain ⟨b1, b2, b3, b4, b5⟩ := hb
    refine ⟨b1, ?_, b3, b4, fun i hi => ?_⟩
    · dsimp only; rw [gU_n (by omega), gU_n (by omega), gU_n (by omega), gU_n (by omega)]; exact b2
    · dsimp only; rw [gU_n (by omega), gU_n (by omega), gU_n (by omega), gU_n (by omega)]; exact b5 i hi
  refine k_split (h := h + 45) (μ := (gU (gU (gU (gU μ.1 (β + q) 8 (nI 0)) (β + q) 9 (nI 0)) (β + q) 10 (nI 0)) (β + q) 11 (nI 0), μ.2.1, gU μ.2.2 (β + 3) 1 (β + q))) hS hR0 hb1 (fun g5 g6 g7 sz hE hC => ?_)
  have hR := hR0
  simp (disch := omega) only [↓n_gb, ↓n_gb0, ↓n_ic, ↓n_icm, ↓n_lc, ↓e_lc, ↓e_null, ↓e_ldI, ↓e_ldL, ↓e_ldA, ↓e_stI, ↓e_stL, ↓e_stA, ↓n_inc, ↓n_incm1, ↓n_incm8, ↓e_iadd, ↓e_isub, ↓e_imul, ↓e_iand, ↓e_ior, ↓e_ixor, ↓n_ishl, ↓n_ishr, ↓e_iushr, ↓n_idiv, ↓e_ineg, ↓e_ladd, ↓e_lsub, ↓e_lmul, ↓e_lor, ↓e_lshl, ↓e_lshr, ↓e_i2l, ↓e_l2i, ↓e_i2b, ↓e_lcmp, ↓e_dup, ↓e_dup2, ↓e_pop, ↓e_ceq, ↓e_cne, ↓e_clt, ↓e_cge, ↓e_cgt, ↓e_cle, ↓n_zeq, ↓n_zne, ↓n_zlt, ↓n_zge, ↓n_zgt, ↓n_zle, ↓e_goto, ↓e_nn, ↓e_retI, ↓e_retL, ↓e_retV, ↓n_retZ, ↓e_retA, ↓e_gfI, ↓e_gfL, ↓e_gfR, ↓e_pfI, ↓n_pfZ, ↓e_pfL, ↓e_pfR, ↓e_iald, ↓e_lald, ↓e_aald, ↓e_alen, ↓e_iast, ↓e_bast, ↓n_zast, ↓e_last, ↓e_aast, ↓e_cV, ↓e_cS, ↓e_gsW, ↓e_gsK, ↓e_mmax, ↓e_mmin, ↓e_mmaxL, ↓e_mminL, gEnt, gPad, gArgs, gGet, gS1, gS2, gCl, gNo, gSp, gCt, n_sw, n_gSw, n_gSw0, Option.toList, List.cons_append, List.nil_append, Value.category, and_true, true_and, and_self, not_false_eq_true, not_true_eq_false, Nat.reduceAdd, Nat.reduceSub, Nat.reduceMul, Nat.reduceLeDiff, Nat.reduceLT, Nat.reduceEqDiff, forall_const, true_implies, false_implies, implies_true, Nat.zero_add, Option.some.injEq, Sum.inr.injEq, Sum.inl.injEq, Prod.mk.injEq, exists_eq_left', exists_eq_left, w_ne0, nI_add, w_lt, w_le, w_eq, w_meq, w_eqm, w_mlt, w_ltm, w_mle, w_lem, w_clamp, w_in, w_31, w_ite0, w_ite1, w_ite01, true_or, or_true, false_or, or_false, Nat.le_refl, Nat.lt_irrefl, S_3 hS, S_4 hS, R_3_0 hR, sq_S0 hS hq, sq_S1 hS hq, sq_S2 hS hq, sq_S3 hS hq, sq_S4 hS hq, sq_S5 hS hq, sq_S6 hS hq, sq_S7 hS hq, sq_S26 hS hq, sq_r0 hR hq, sq_r1 hR hq, sq_r2 hR hq, sq_r3 hR hq, sq_r4 hR hq, sq_r5 hR hq, sq_r6 hR hq, tl_S hS hq, tl_r hR hq]
  have hZ := nK_Z hE
  have hM := tQ_M hE
  have hsz := hZ.2.1
  have hT0 := tC_T (by dsimp only; rw [gU_s]) hC
  generalize eμ : ((gU (gU (gU (gU (gW (gW (gU (gU (gU (gU μ.1 (β + q) 8 (nI 0)) (β + q) 9 (nI 0)) (β + q) 10 (nI 0)) (β + q) 11 (nI 0)) (β + 5) g5) (β + 6) g6) (β + 4) 3 (nI sz)) (β + 3) 2 (nI 0)) (β + 3) 3 (nI 0)) (β + 3) 4 gm1, gW μ.2.1 (β + 7) g7, gU μ.2.2 (β + 3) 1 (β + q)) : gM) = μ0
  have hT : dT β sz (nK b N sz) (tQ b N) (fun p => tVl b N (tQ b N p)) μ0 := by
    rw [← eμ]
    refine ⟨?_, fun p hp => ?_⟩
    · dsimp only; simp (disch := omega) only [gU_n, gU_s]
    · have := hT0.2 p hp
      dsimp only at this ⊢
      simp (disch := omega) only [gU_n] at this ⊢
      exact this
  have F0 : dPr β q μ μ0 := by
    rw [← eμ]
    refine ⟨fun a i x1 x2 x3 x4 x5 x6 x7 => ?_, fun a i x1 x2 => ?_, rfl⟩
    · dsimp only; simp (disch := omega) only [gU_n, gW_n]
    · dsimp only; simp (disch := omega) only [gW_n]
  have d0 : dS β q sz (fun p => tVl b N (tQ b N p)) 0 [] μ0 := by
    rw [← eμ]
    refine ⟨hZ.1, ?_, ?_, ?_, ?_, Nat.le_refl _, ?_, fun i x hx => by simp at hx⟩
    · dsimp only; simp (disch := omega) only [gU_n, gU_s]
    · dsimp only; simp (disch := omega) only [gU_n, gU_s]
    · dsimp only; simp (disch := omega) only [gU_n, gU_s]
    · dsimp only; simp (disch := omega) only [gU_n, gU_s]
    · dsimp only; simp (disch := omega) only [gU_n, gW_n, gU_s, List.length_nil]
  have t0 : dTl β q 0 0 [] μ0 := by
    rw [← eμ]
    refine ⟨by omega, by omega, rfl, ?_, ?_, ?_, fun j x hx => by simp at hx⟩
    · dsimp only; simp (disch := omega) only [gU_n, gW_n, gU_s, List.length_nil]
    · dsimp only; simp (disch := omega) only [gU_n, gW_n, gU_s]
    · dsimp only; simp (disch := omega) only [gU_n, gW_n, gU_s]
  have hR : gPS μ0.2.2 β := by rw [F0.2.2]; exact hR0
  clear eμ hT0 hC hb1 hRo
  have hvl : ∀ p, (fun p => tVl b N (tQ b N p)) p < 9223372036854775808 := fun p => tVl_63 _ _ _
  have hv2 : ∀ p, nK b N sz p = 2 → (fun p => tVl b N (tQ b N p)) p < 10000 := nK_2
  replace hP := fun μ' => hP μ' sz
  generalize (fun p => tVl b N (tQ b N p)) = vl at *
  generalize tQ b N = pl at *
  generalize nK b N sz = K at *
  have fr : ∀ μ1, dGr β q μ0 μ1 → dPr β q μ μ1 := fun μ1 f => ⟨fun a i x1 x2 x3 x4 x5 x6 x7 => (f.1 a i x1 x5 (by omega) x7).trans (F0.1 a i x1 x2 x3 x4 x5 x6 x7), fun a i x1 x2 => by rw [f.2]; exact F0.2.1 a i x1 x2, by rw [f.2]; exact F0.2.2⟩
  refine parseLoop hX hS hq hZ 19 0 0 0 0 [] [] μ0 hR hT rfl rfl d0 t0 (fun μ1 nb nl i1 f1 e1 k1 s1 tl1 => ?_) (fun μ1 i1 f1 e1 x1 => ?_)
  · simp only [List.nil_append, List.length_nil] at e1 k1 s1 tl1
    have hR1 : gPS μ1.2.2 β := by rw [f1.2]; exact hR
    have hR := hR1
    obtain ⟨d1, d2, d3, d4, d5, d6, d7, d8⟩ := id s1
    refine b_X2_parse_67 hX ?_
    simp (disch := omega) only [B_X2_parse_67, ↓n_gb, ↓n_gb0, ↓n_ic, ↓n_icm, ↓n_lc, ↓e_lc, ↓e_null, ↓e_ldI, ↓e_ldL, ↓e_ldA, ↓e_stI, ↓e_stL, ↓e_stA, ↓n_inc, ↓n_incm1, ↓n_incm8, ↓e_iadd, ↓e_isub, ↓e_imul, ↓e_iand, ↓e_ior, ↓e_ixor, ↓n_ishl, ↓n_ishr, ↓e_iushr, ↓n_idiv, ↓e_ineg, ↓e_ladd, ↓e_lsub, ↓e_lmul, ↓e_lor, ↓e_lshl, ↓e_lshr, ↓e_i2l, ↓e_l2i, ↓e_i2b, ↓e_lcmp, ↓e_dup, ↓e_dup2, ↓e_pop, ↓e_ceq, ↓e_cne, ↓e_clt, ↓e_cge, ↓e_cgt, ↓e_cle, ↓n_zeq, ↓n_zne, ↓n_zlt, ↓n_zge, ↓n_zgt, ↓n_zle, ↓e_goto, ↓e_nn, ↓e_retI, ↓e_retL, ↓e_retV, ↓n_retZ, ↓e_retA, ↓e_gfI, ↓e_gfL, ↓e_gfR, ↓e_pfI, ↓n_pfZ, ↓e_pfL, ↓e_pfR, ↓e_iald, ↓e_lald, ↓e_aald, ↓e_alen, ↓e_iast, ↓e_bast, ↓n_zast, ↓e_last, ↓e_aast, ↓e_cV, ↓e_cS, ↓e_gsW, ↓e_gsK, ↓e_mmax, ↓e_mmin, ↓e_mmaxL, ↓e_mminL, gEnt, gPad, gArgs, gGet, gS1, gS2, gCl, gNo, gSp, gCt, n_sw, n_gSw, n_gSw0, Option.toList, List.cons_append, List.nil_append, Value.category, and_true, true_and, and_self, not_false_eq_true, not_true_eq_false, Nat.reduceAdd, Nat.reduceSub, Nat.reduceMul, Nat.reduceLeDiff, Nat.reduceLT, Nat.reduceEqDiff, forall_const, true_implies, false_implies, implies_true, Nat.zero_add, Option.some.injEq, Sum.inr.injEq, Sum.inl.injEq, Prod.mk.injEq, exists_eq_left', exists_eq_left, w_ne0, nI_add, w_lt, w_le, w_eq, w_meq, w_eqm, w_mlt, w_ltm, w_mle, w_lem, w_clamp, w_in, w_31, w_ite0, w_ite1, w_ite01, true_or, or_true, false_or, or_false, Nat.le_refl, Nat.lt_irrefl, S_3 hS, S_4 hS, R_3_0 hR, sq_S0 hS hq, sq_S1 hS hq, sq_S2 hS hq, sq_S3 hS hq, sq_S4 hS hq, sq_S5 hS hq, sq_S6 hS hq, sq_S7 hS hq, sq_S26 hS hq, sq_r0 hR hq, sq_r1 hR hq, sq_r2 hR hq, sq_r3 hR hq, sq_r4 hR hq, sq_r5 hR hq, sq_r6 hR hq, tl_S hS hq, tl_r hR hq]
    refine checkLoop (TL := (rdA K 19 0 0 0 0).2.2.1) (CC := (rdA K 19 0 0 0 0).2.2.2) (nb := nb) (nl := nl) hX hS hq hZ hM hvl hv2 (by omega) 19 0 g0Z [] [] μ1 hR1 (dGr_T hq f1 hT) (by omega) d5 tl1 rfl rfl e1 zRl_0 zCl_0 rfl ⟨by simp, d3, fun _ => d4, fun z => absurd rfl z⟩ (fun j x hx => by simp at hx) ⟨fun j x hx => by simp at hx, fun i x hx => by simp at hx⟩ (fun i x hx _ => d8 i x hx) (fun x hx => by simp at hx) (fun μ2 i2 f2 w2 c2 => ?_)
    have hR2 : gPS μ2.2.2 β := by rw [f2.2.2]; exact hR1
    have hR := hR2
    have w23 := w2.2.1
    have eF : rFl K pl vl = zw (zF K pl vl 19 0 g0Z) := if_neg (fun z => z e1)
    refine b_X2_parse_98 hX ?_
    simp (disch := omega) only [B_X2_parse_98, ↓n_gb, ↓n_gb0, ↓n_ic, ↓n_icm, ↓n_lc, ↓e_lc, ↓e_null, ↓e_ldI, ↓e_ldL, ↓e_ldA, ↓e_stI, ↓e_stL, ↓e_stA, ↓n_inc, ↓n_incm1, ↓n_incm8, ↓e_iadd, ↓e_isub, ↓e_imul, ↓e_iand, ↓e_ior, ↓e_ixor, ↓n_ishl, ↓n_ishr, ↓e_iushr, ↓n_idiv, ↓e_ineg, ↓e_ladd, ↓e_lsub, ↓e_lmul, ↓e_lor, ↓e_lshl, ↓e_lshr, ↓e_i2l, ↓e_l2i, ↓e_i2b, ↓e_lcmp, ↓e_dup, ↓e_dup2, ↓e_pop, ↓e_ceq, ↓e_cne, ↓e_clt, ↓e_cge, ↓e_cgt, ↓e_cle, ↓n_zeq, ↓n_zne, ↓n_zlt, ↓n_zge, ↓n_zgt, ↓n_zle, ↓e_goto, ↓e_nn, ↓e_retI, ↓e_retL, ↓e_retV, ↓n_retZ, ↓e_retA, ↓e_gfI, ↓e_gfL, ↓e_gfR, ↓e_pfI, ↓n_pfZ, ↓e_pfL, ↓e_pfR, ↓e_iald, ↓e_lald, ↓e_aald, ↓e_alen, ↓e_iast, ↓e_bast, ↓n_zast, ↓e_last, ↓e_aast, ↓e_cV, ↓e_cS, ↓e_gsW, ↓e_gsK, ↓e_mmax, ↓e_mmin, ↓e_mmaxL, ↓e_mminL, gEnt, gPad, gArgs, gGet, gS1, gS2, gCl, gNo, gSp, gCt, n_sw, n_gSw, n_gSw0, Option.toList, List.cons_append, List.nil_append, Value.category, and_true, true_and, and_self, not_false_eq_true, not_true_eq_false, Nat.reduceAdd, Nat.reduceSub, Nat.reduceMul, Nat.reduceLeDiff, Nat.reduceLT, Nat.reduceEqDiff, forall_const, true_implies, false_implies, implies_true, Nat.zero_add, Option.some.injEq, Sum.inr.injEq, Sum.inl.injEq, Prod.mk.injEq, exists_eq_left', exists_eq_left, w_ne0, nI_add, w_lt, w_le, w_eq, w_meq, w_eqm, w_mlt, w_ltm, w_mle, w_lem, w_clamp, w_in, w_31, w_ite0, w_ite1, w_ite01, true_or, or_true, false_or, or_false, Nat.le_refl, Nat.lt_irrefl, S_3 hS, S_4 hS, R_3_0 hR, sq_S0 hS hq, sq_S1 hS hq, sq_S2 hS hq, sq_S3 hS hq, sq_S4 hS hq, sq_S5 hS hq, sq_S6 hS hq, sq_S7 hS hq, sq_S26 hS hq, sq_r0 hR hq, sq_r1 hR hq, sq_r2 hR hq, sq_r3 hR hq, sq_r4 hR hq, sq_r5 hR hq, sq_r6 hR hq, tl_S hS hq, tl_r hR hq, w23]
    have F1 := fr μ1 f1
    have hh := hP μ2 ⟨fun a i y1 y2 y3 y4 y5 y6 y7 => (f2.1 a i (by omega) (by omega) (by omega) y7).trans (F1.1 a i y1 y2 y3 y4 y5 y6 y7), fun a i y1 y2 => (f2.2.1 a i y2).trans (F1.2.1 a i y1 y2), f2.2.2.trans F1.2.2⟩ hE
    rw [eF] at hh
    refine hh w2 (fun z => ?_)
    obtain ⟨c3, c4⟩ := c2 z
    obtain ⟨y1, y2⟩ := zF_P hM hZ.2.2.2.2.1 hsz 19 0 g0Z [] [] (by omega) zCl_0 rfl zRl_0 (zP_0 (vl := vl)) e1 z
    obtain ⟨n1, n2⟩ := dTl_nb y1 c3
    refine ⟨by omega, ?_, c4, ?_⟩
    · rw [n1, n2] at c3; exact c3
    · rw [f2.1 _ _ (by omega) (by omega) (by omega) (by omega)]; exact d7
  · simp only [List.nil_append, List.length_nil] at e1 x1
    have hR1 : gPS μ1.2.2 β := by rw [f1.2]; exact hR
    have hR := hR1
    obtain ⟨x2, x3, x4, x5, x6, x7, x8⟩ := id x1
    have eF : rFl K pl vl = ((rdA K 19 0 0 0 0).1, pl (rdA K 19 0 0 0 0).2.1) := if_pos e1
    have t98 : ∀ v, X 98 μ1 [some (.ref (β + 3)), some (.ref (β + 1)), some (.ref (β + q)), v] [] := by
      intro v
      refine b_X2_parse_98 hX ?_
      simp (disch := omega) only [B_X2_parse_98, ↓n_gb, ↓n_gb0, ↓n_ic, ↓n_icm, ↓n_lc, ↓e_lc, ↓e_null, ↓e_ldI, ↓e_ldL, ↓e_ldA, ↓e_stI, ↓e_stL, ↓e_stA, ↓n_inc, ↓n_incm1, ↓n_incm8, ↓e_iadd, ↓e_isub, ↓e_imul, ↓e_iand, ↓e_ior, ↓e_ixor, ↓n_ishl, ↓n_ishr, ↓e_iushr, ↓n_idiv, ↓e_ineg, ↓e_ladd, ↓e_lsub, ↓e_lmul, ↓e_lor, ↓e_lshl, ↓e_lshr, ↓e_i2l, ↓e_l2i, ↓e_i2b, ↓e_lcmp, ↓e_dup, ↓e_dup2, ↓e_pop, ↓e_ceq, ↓e_cne, ↓e_clt, ↓e_cge, ↓e_cgt, ↓e_cle, ↓n_zeq, ↓n_zne, ↓n_zlt, ↓n_zge, ↓n_zgt, ↓n_zle, ↓e_goto, ↓e_nn, ↓e_retI, ↓e_retL, ↓e_retV, ↓n_retZ, ↓e_retA, ↓e_gfI, ↓e_gfL, ↓e_gfR, ↓e_pfI, ↓n_pfZ, ↓e_pfL, ↓e_pfR, ↓e_iald, ↓e_lald, ↓e_aald, ↓e_alen, ↓e_iast, ↓e_bast, ↓n_zast, ↓e_last, ↓e_aast, ↓e_cV, ↓e_cS, ↓e_gsW, ↓e_gsK, ↓e_mmax, ↓e_mmin, ↓e_mmaxL, ↓e_mminL, gEnt, gPad, gArgs, gGet, gS1, gS2, gCl, gNo, gSp, gCt, n_sw, n_gSw, n_gSw0, Option.toList, List.cons_append, List.nil_append, Value.category, and_true, true_and, and_self, not_false_eq_true, not_true_eq_false, Nat.reduceAdd, Nat.reduceSub, Nat.reduceMul, Nat.reduceLeDiff, Nat.reduceLT, Nat.reduceEqDiff, forall_const, true_implies, false_implies, implies_true, Nat.zero_add, Option.some.injEq, Sum.inr.injEq, Sum.inl.injEq, Prod.mk.injEq, exists_eq_left', exists_eq_left, w_ne0, nI_add, w_lt, w_le, w_eq, w_meq, w_eqm, w_mlt, w_ltm, w_mle, w_lem, w_clamp, w_in, w_31, w_ite0, w_ite1, w_ite01, true_or, or_true, false_or, or_false, Nat.le_refl, Nat.lt_irrefl, S_3 hS, S_4 hS, R_3_0 hR, sq_S0 hS hq, sq_S1 hS hq, sq_S2 hS hq, sq_S3 hS hq, sq_S4 hS hq, sq_S5 hS hq, sq_S6 hS hq, sq_S7 hS hq, sq_S26 hS hq, sq_r0 hR hq, sq_r1 hR hq, sq_r2 hR hq, sq_r3 hR hq, sq_r4 hR hq, sq_r5 hR hq, sq_r6 hR hq, tl_S hS hq, tl_r hR hq, x4]
      have hh := hP μ1 (fr μ1 f1) hE
      rw [eF] at hh
      exact hh ⟨x3, x4, fun z => absurd z e1, fun _ => x5⟩ (fun z => absurd z e1)
    have g0 : ¬ (rdA K 19 0 0 0 0).1 = 0 := e1
    refine b_X2_parse_67 hX ?_
    simp (disch := omega) only [B_X2_parse_67, ↓n_gb, ↓n_gb0, ↓n_ic, ↓n_icm, ↓n_lc, ↓e_lc, ↓e_null, ↓e_ldI, ↓e_ldL, ↓e_ldA, ↓e_stI, ↓e_stL, ↓e_stA, ↓n_inc, ↓n_incm1, ↓n_incm8, ↓e_iadd, ↓e_isub, ↓e_imul, ↓e_iand, ↓e_ior, ↓e_ixor, ↓n_ishl, ↓n_ishr, ↓e_iushr, ↓n_idiv, ↓e_ineg, ↓e_ladd, ↓e_lsub, ↓e_lmul, ↓e_lor, ↓e_lshl, ↓e_lshr, ↓e_i2l, ↓e_l2i, ↓e_i2b, ↓e_lcmp, ↓e_dup, ↓e_dup2, ↓e_pop, ↓e_ceq, ↓e_cne, ↓e_clt, ↓e_cge, ↓e_cgt, ↓e_cle, ↓n_zeq, ↓n_zne, ↓n_zlt, ↓n_zge, ↓n_zgt, ↓n_zle, ↓e_goto, ↓e_nn, ↓e_retI, ↓e_retL, ↓e_retV, ↓n_retZ, ↓e_retA, ↓e_gfI, ↓e_gfL, ↓e_gfR, ↓e_pfI, ↓n_pfZ, ↓e_pfL, ↓e_pfR, ↓e_iald, ↓e_lald, ↓e_aald, ↓e_alen, ↓e_iast, ↓e_bast, ↓n_zast, ↓e_last, ↓e_aast, ↓e_cV, ↓e_cS, ↓e_gsW, ↓e_gsK, ↓e_mmax, ↓e_mmin, ↓e_mmaxL, ↓e_mminL, gEnt, gPad, gArgs, gGet, gS1, gS2, gCl, gNo, gSp, gCt, n_sw, n_gSw, n_gSw0, Option.toList, List.cons_append, List.nil_append, Value.category, and_true, true_and, and_self, not_false_eq_true, not_true_eq_false, Nat.reduceAdd, Nat.reduceSub, Nat.reduceMul, Nat.reduceLeDiff, Nat.reduceLT, Nat.reduceEqDiff, forall_const, true_implies, false_implies, implies_true, Nat.zero_add, Option.some.injEq, Sum.inr.injEq, Sum.inl.injEq, Prod.mk.injEq, exists_eq_left', exists_eq_left, w_ne0, nI_add, w_lt, w_le, w_eq, w_meq, w_eqm, w_mlt, w_ltm, w_mle, w_lem, w_clamp, w_in, w_31, w_ite0, w_ite1, w_ite01, true_or, or_true, false_or, or_false, Nat.le_refl, Nat.lt_irrefl, S_3 hS, S_4 hS, R_3_0 hR, sq_S0 hS hq, sq_S1 hS hq, sq_S2 hS hq, sq_S3 hS hq, sq_S4 hS hq, sq_S5 hS hq, sq_S6 hS hq, sq_S7 hS hq, sq_S26 hS hq, sq_r0 hR hq, sq_r1 hR hq, sq_r2 hR hq, sq_r3 hR hq, sq_r4 hR hq, sq_r5 hR hq, sq_r6 hR hq, tl_S hS hq, tl_r hR hq]
    refine b_X2_parse_69 hX ?_
    simp (disch := omega) only [B_X2_parse_69, ↓n_gb, ↓n_gb0, ↓n_ic, ↓n_icm, ↓n_lc, ↓e_lc, ↓e_null, ↓e_ldI, ↓e_ldL, ↓e_ldA, ↓e_stI, ↓e_stL, ↓e_stA, ↓n_inc, ↓n_incm1, ↓n_incm8, ↓e_iadd, ↓e_isub, ↓e_imul, ↓e_iand, ↓e_ior, ↓e_ixor, ↓n_ishl, ↓n_ishr, ↓e_iushr, ↓n_idiv, ↓e_ineg, ↓e_ladd, ↓e_lsub, ↓e_lmul, ↓e_lor, ↓e_lshl, ↓e_lshr, ↓e_i2l, ↓e_l2i, ↓e_i2b, ↓e_lcmp, ↓e_dup, ↓e_dup2, ↓e_pop, ↓e_ceq, ↓e_cne, ↓e_clt, ↓e_cge, ↓e_cgt, ↓e_cle, ↓n_zeq, ↓n_zne, ↓n_zlt, ↓n_zge, ↓n_zgt, ↓n_zle, ↓e_goto, ↓e_nn, ↓e_retI, ↓e_retL, ↓e_retV, ↓n_retZ, ↓e_retA, ↓e_gfI, ↓e_gfL, ↓e_gfR, ↓e_pfI, ↓n_pfZ, ↓e_pfL, ↓e_pfR, ↓e_iald, ↓e_lald, ↓e_aald, ↓e_alen, ↓e_iast, ↓e_bast, ↓n_zast, ↓e_last, ↓e_aast, ↓e_cV, ↓e_cS, ↓e_gsW, ↓e_gsK, ↓e_mmax, ↓e_mmin, ↓e_mmaxL, ↓e_mminL, gEnt, gPad, gArgs, gGet, gS1, gS2, gCl, gNo, gSp, gCt, n_sw, n_gSw, n_gSw0, Option.toList, List.cons_append, List.nil_append, Value.category, and_true, true_and, and_self, not_false_eq_true, not_true_eq_false, Nat.reduceAdd, Nat.reduceSub, Nat.reduceMul, Nat.reduceLeDiff, Nat.reduceLT, Nat.reduceEqDiff, forall_const, true_implies, false_implies, implies_true, Nat.zero_add, Option.some.injEq, Sum.inr.injEq, Sum.inl.injEq, Prod.mk.injEq, exists_eq_left', exists_eq_left, w_ne0, nI_add, w_lt, w_le, w_eq, w_meq, w_eqm, w_mlt, w_ltm, w_mle, w_lem, w_clamp, w_in, w_31, w_ite0, w_ite1, w_ite01, true_or, or_true, false_or, or_false, Nat.le_refl, Nat.lt_irrefl, S_3 hS, S_4 hS, R_3_0 hR, sq_S0 hS hq, sq_S1 hS hq, sq_S2 hS hq, sq_S3 hS hq, sq_S4 hS hq, sq_S5 hS hq, sq_S6 hS hq, sq_S7 hS hq, sq_S26 hS hq, sq_r0 hR hq, sq_r1 hR hq, sq_r2 hR hq, sq_r3 hR hq, sq_r4 hR hq, sq_r5 hR hq, sq_r6 hR hq, tl_S hS hq, tl_r hR hq, x8, x4, g0]
    exact ⟨fun _ => t98 _, fun _ => t98 _⟩
