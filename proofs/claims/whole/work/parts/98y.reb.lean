/-! THE TEXT, the reference: a let as a whole -/
/-- the steps' kinds of a let, in the reference's order -/
theorem rdT_let {K : Nat → Nat} {nb nl p : Nat} (h4 : K p = 4) (hl : nl < 12) : rb (rb (rb (rb (rb (0, p, []) (fun p => rAc K (K p) p)) (rAc K 3)) (rAc K 61)) (rd K 1700 0 0)) (rAc K 59) = rdT K nb nl p := by
  unfold rdT
  rw [if_pos h4, if_neg (by omega), show rEx K = fun p => rb (rd K 1700 0 0 p) (rAc K 59) from rfl]
  simp only [rSq_c, rSq_n, rb_assoc, rb_id, h4]
/-- before a tell: the tell's own numbers are not yet set -/
def eBw (β sd sz : Nat) (rv : Nat → Nat × Nat × Nat × Nat) (vl : Nat → Nat) (p : Nat) (C : List (Nat × Nat)) (w : Nat × Nat) (μ : gM) : Prop := p < sz ∧ μ.1 (β + 110) 11 = nI p ∧ μ.1 (β + 110) 12 = nI 0 ∧ μ.1 (β + 110) 13 = nI 0 ∧ C.length ≤ p ∧ eC β sd rv vl C μ ∧ w.1 ≤ 5 ∧ w.2 ≤ 2000 ∧ μ.1 (β + 110) 15 = nI w.1 ∧ (w.1 ≠ 0 → μ.1 (β + 110) 16 = nI w.2)
theorem eB_w {β sd sz p : Nat} {rv : Nat → Nat × Nat × Nat × Nat} {vl : Nat → Nat} {C : List (Nat × Nat)} {st : eSt} {μ : gM} (h : eB β sd sz rv vl p C st μ) : eBw β sd sz rv vl p C st.2.2 μ := by
  obtain ⟨s1, s2, s3, s4, s5, s6, ⟨y0, y1, y2, y3⟩, z1, z2, z3, z4⟩ := h
  exact ⟨s1, s2, s3, s4, s5, s6, y2, y3, z3, z4⟩
set_option maxHeartbeats 4000000 in
theorem k_mTellLet {S : gSh} {h β sd sz L B p q0 : Nat} {rv : Nat → Nat × Nat × Nat × Nat} {K pl vl nm ln ls bn : Nat → Nat} {C : List (Nat × Nat)} {st : eSt} {μ : gM} {P : gP} (hS : gLS S β) (hR : gPS μ.2.2 β) (hsd : sd < 2) (hz : dZ sz K) (ht : eT β sz K pl vl nm μ) (hk : ∀ p, K p = 0 ∨ K p = 1 ∨ K p = 2 ∨ K p = 3 ∨ (4 ≤ K p ∧ K p ≤ 10) ∨ cS (K p)) (hna : eNa sz K vl nm) (hpl : ∀ p, p < sz → pl p ≤ 2000) (hnm : eNm S β sd sz rv K pl vl nm (eE β sd sz L K nm ln ls) q0 (h + 3)) (hE : eE β sd sz L K nm ln ls μ) (hB : eBn β sd sz B K nm bn μ) (hq0 : q0 ≤ p) (h4 : K p = 4) (s : eBw β sd sz rv vl p C st.2.2 μ)
    (hok : ∀ μ', eTr β sd μ μ' → (rdT K B L p).1 = 0 → eB β sd sz rv vl (rdT K B L p).2.1 (C ++ (rdT K B L p).2.2) (eTs pl (eTw vl ln bn L B (p + 1)) 3 (p + 1) ((rdT K B L p).2.2.foldl (eA rv pl) (0, 0, st.2.2))) μ' → μ'.1 (β + 118) sd = nI (L + 1) → μ'.1 (β + 119) sd = μ.1 (β + 119) sd → (∀ i, ¬ (i = 12 * sd + L) → μ'.1 (β + 121) i = μ.1 (β + 121) i ∧ μ'.1 (β + 122) i = μ.1 (β + 122) i ∧ μ'.1 (β + 123) i = μ.1 (β + 123) i ∧ μ'.2.1 (β + 120) i = μ.2.1 (β + 120) i) → (∀ a i, (a = β + 124 → μ'.2.1 a i = μ.2.1 a i) ∧ (β + 125 ≤ a ∧ a ≤ β + 131 → μ'.1 a i = μ.1 a i)) → μ'.1 (β + 121) (12 * sd + L) = nI (500 * sd + C.length) → μ'.1 (β + 122) (12 * sd + L) = nI (500 * sd + (C ++ (rdT K B L p).2.2).length) → μ'.1 (β + 123) (12 * sd + L) = nI (((rdT K B L p).2.2.foldl (eA rv pl) (0, 0, st.2.2)).1 ||| (if ((rdT K B L p).2.2.foldl (eA rv pl) (0, 0, st.2.2)).2.1 = 0 then 0 else 64)) → μ'.2.1 (β + 120) (12 * sd + L) = lN (nm (p + 1)) → P none μ')
    (hfa : ∀ μ', eTr β sd μ μ' → (rdT K B L p).1 ≠ 0 → eY β (rdT K B L p).1 (nI (pl (rdT K B L p).2.1)) μ' → P none μ') : gRun S (h + 5) 138 [.ref (β + 110)] μ P := by
  have hsz := hz.2.1
  obtain ⟨s1, s2, s3, s4, s5, s6, s7⟩ := id s
  obtain ⟨v1, v2, v3, v4, v5⟩ := id hE
  obtain ⟨y2, y3, z3, z4⟩ := id s7
  refine r_X11_tell (by simp [lg_sl, Value.category]) (fun X hX => ?_)
  refine b_X11_tell_0 hX ?_
  simp (disch := omega) only [B_X11_tell_0, ↓n_gb, ↓n_gb0, ↓n_ic, ↓n_icm, ↓n_lc, ↓e_lc, ↓e_null, ↓e_ldI, ↓e_ldL, ↓e_ldA, ↓e_stI, ↓e_stL, ↓e_stA, ↓n_inc, ↓n_incm1, ↓n_incm8, ↓e_iadd, ↓e_isub, ↓e_imul, ↓e_iand, ↓e_ior, ↓e_ixor, ↓n_ishl, ↓n_ishr, ↓e_iushr, ↓n_idiv, ↓e_ineg, ↓e_ladd, ↓e_lsub, ↓e_lmul, ↓e_lor, ↓e_lshl, ↓e_lshr, ↓e_i2l, ↓e_l2i, ↓e_i2b, ↓e_lcmp, ↓e_dup, ↓e_dup2, ↓e_pop, ↓e_ceq, ↓e_cne, ↓e_clt, ↓e_cge, ↓e_cgt, ↓e_cle, ↓n_zeq, ↓n_zne, ↓n_zlt, ↓n_zge, ↓n_zgt, ↓n_zle, ↓e_goto, ↓e_nn, ↓e_retI, ↓e_retL, ↓e_retV, ↓n_retZ, ↓e_retA, ↓e_gfI, ↓e_gfL, ↓e_gfR, ↓e_pfI, ↓n_pfZ, ↓e_pfL, ↓e_pfR, ↓e_iald, ↓e_lald, ↓e_aald, ↓e_alen, ↓e_iast, ↓e_bast, ↓n_zast, ↓e_last, ↓e_aast, ↓e_cV, ↓e_cS, ↓e_gsW, ↓e_gsK, ↓e_mmax, ↓e_mmin, ↓e_mmaxL, ↓e_mminL, gEnt, gPad, gArgs, gGet, gS1, gS2, gCl, gNo, gSp, gCt, n_sw, n_gSw, n_gSw0, Option.toList, List.cons_append, List.nil_append, Value.category, and_true, true_and, and_self, not_false_eq_true, not_true_eq_false, Nat.reduceAdd, Nat.reduceSub, Nat.reduceMul, Nat.reduceLeDiff, Nat.reduceLT, Nat.reduceEqDiff, forall_const, true_implies, false_implies, implies_true, Nat.zero_add, Option.some.injEq, Sum.inr.injEq, Sum.inl.injEq, Prod.mk.injEq, exists_eq_left', exists_eq_left, w_ne0, nI_add, w_lt, w_le, w_eq, w_meq, w_eqm, w_mlt, w_ltm, w_mle, w_lem, w_clamp, w_in, w_31, w_ite0, w_ite1, w_ite01, true_or, or_true, false_or, or_false, Nat.le_refl, Nat.lt_irrefl, S_110 hS, S_116 hS, S_118 hS, S_119 hS, S_120 hS, S_121 hS, S_122 hS, S_123 hS, S_124 hS, S_125 hS, S_126 hS, S_127 hS, S_128 hS, S_129 hS, S_130 hS, S_131 hS, R_110_8 hR, R_110_20 hR, R_110_21 hR, R_110_22 hR, R_110_23 hR, R_110_24 hR, R_110_25 hR, R_110_26 hR, R_110_27 hR, R_110_28 hR, R_110_29 hR, R_110_30 hR, R_110_31 hR, R_110_32 hR, R_110_33 hR]
  have f0 : eFr β sd μ (gU (gU μ.1 (β + 110) 37 (nI 0)) (β + 110) 38 (nI 0), μ.2) := ⟨fun a i x y z => by dsimp only; rw [gU_n (by omega), gU_n (by omega)], rfl⟩
  have s0 : eB β sd sz rv vl p C (0, 0, st.2.2) (gU (gU μ.1 (β + 110) 37 (nI 0)) (β + 110) 38 (nI 0), μ.2) := by
    refine ⟨s1, ?_, ?_, ?_, s5, eC_c (μ := μ) ?_ (fun i => ?_) (fun i => ?_) s6, ⟨by simp, by simp, y2, y3⟩, ?_, gU_s, ?_, fun w => ?_⟩
    all_goals (dsimp only)
    · rw [gU_n (by omega), gU_n (by omega)]; exact s2
    · rw [gU_n (by omega), gU_n (by omega)]; exact s3
    · rw [gU_n (by omega), gU_n (by omega)]; exact s4
    · rw [gU_n (by omega), gU_n (by omega)]
    · rw [gU_n (by omega), gU_n (by omega)]
    · rw [gU_n (by omega), gU_n (by omega)]
    · rw [gU_n (by omega), gU_s]
    · rw [gU_n (by omega), gU_n (by omega)]; exact z3
    · rw [gU_n (by omega), gU_n (by omega)]; exact z4 w
  generalize hM0 : ((gU (gU μ.1 (β + 110) 37 (nI 0)) (β + 110) 38 (nI 0), μ.2) : gM) = μ0 at f0 s0 ⊢
  have hR0 : gPS μ0.2.2 β := by rw [f0.2]; exact hR
  have ht0 := eFr_T f0 ht
  have hE0 := eE_f f0 hE
  obtain ⟨w1, w2, w3, w4, w5⟩ := id hE0
  obtain ⟨a1, a2, a3, a4, a5, a6, a7⟩ := id s0
  have hR := hR0
  refine k_mIs (h := h + 3) hS hR hsz ht0 a2 a4 a1 (by omega) ?_
  rw [if_pos ((rK_inv2 (hk p)).2.2.1.2 h4)]
  simp (disch := omega) only [↓n_gb, ↓n_gb0, ↓n_ic, ↓n_icm, ↓n_lc, ↓e_lc, ↓e_null, ↓e_ldI, ↓e_ldL, ↓e_ldA, ↓e_stI, ↓e_stL, ↓e_stA, ↓n_inc, ↓n_incm1, ↓n_incm8, ↓e_iadd, ↓e_isub, ↓e_imul, ↓e_iand, ↓e_ior, ↓e_ixor, ↓n_ishl, ↓n_ishr, ↓e_iushr, ↓n_idiv, ↓e_ineg, ↓e_ladd, ↓e_lsub, ↓e_lmul, ↓e_lor, ↓e_lshl, ↓e_lshr, ↓e_i2l, ↓e_l2i, ↓e_i2b, ↓e_lcmp, ↓e_dup, ↓e_dup2, ↓e_pop, ↓e_ceq, ↓e_cne, ↓e_clt, ↓e_cge, ↓e_cgt, ↓e_cle, ↓n_zeq, ↓n_zne, ↓n_zlt, ↓n_zge, ↓n_zgt, ↓n_zle, ↓e_goto, ↓e_nn, ↓e_retI, ↓e_retL, ↓e_retV, ↓n_retZ, ↓e_retA, ↓e_gfI, ↓e_gfL, ↓e_gfR, ↓e_pfI, ↓n_pfZ, ↓e_pfL, ↓e_pfR, ↓e_iald, ↓e_lald, ↓e_aald, ↓e_alen, ↓e_iast, ↓e_bast, ↓n_zast, ↓e_last, ↓e_aast, ↓e_cV, ↓e_cS, ↓e_gsW, ↓e_gsK, ↓e_mmax, ↓e_mmin, ↓e_mmaxL, ↓e_mminL, gEnt, gPad, gArgs, gGet, gS1, gS2, gCl, gNo, gSp, gCt, n_sw, n_gSw, n_gSw0, Option.toList, List.cons_append, List.nil_append, Value.category, and_true, true_and, and_self, not_false_eq_true, not_true_eq_false, Nat.reduceAdd, Nat.reduceSub, Nat.reduceMul, Nat.reduceLeDiff, Nat.reduceLT, Nat.reduceEqDiff, forall_const, true_implies, false_implies, implies_true, Nat.zero_add, Option.some.injEq, Sum.inr.injEq, Sum.inl.injEq, Prod.mk.injEq, exists_eq_left', exists_eq_left, w_ne0, nI_add, w_lt, w_le, w_eq, w_meq, w_eqm, w_mlt, w_ltm, w_mle, w_lem, w_clamp, w_in, w_31, w_ite0, w_ite1, w_ite01, true_or, or_true, false_or, or_false, Nat.le_refl, Nat.lt_irrefl, S_110 hS, S_116 hS, S_118 hS, S_119 hS, S_120 hS, S_121 hS, S_122 hS, S_123 hS, S_124 hS, S_125 hS, S_126 hS, S_127 hS, S_128 hS, S_129 hS, S_130 hS, S_131 hS, R_110_8 hR, R_110_20 hR, R_110_21 hR, R_110_22 hR, R_110_23 hR, R_110_24 hR, R_110_25 hR, R_110_26 hR, R_110_27 hR, R_110_28 hR, R_110_29 hR, R_110_30 hR, R_110_31 hR, R_110_32 hR, R_110_33 hR, w2, w3, hsd]
  by_cases cL : L = 12
  · obtain ⟨x1, x2⟩ := eB_fl (f := 2) (v := nI (pl p)) hsz (by omega) (by omega) s0
    have er : rdT K B L p = (2, p, []) := by unfold rdT; rw [if_pos h4, if_pos (by omega)]
    have rx : ∀ f, rb ((2, p, []) : rdR) f = (2, p, []) := fun f => rb_px (by simp)
    simp (disch := omega) only [↓n_gb, ↓n_gb0, ↓n_ic, ↓n_icm, ↓n_lc, ↓e_lc, ↓e_null, ↓e_ldI, ↓e_ldL, ↓e_ldA, ↓e_stI, ↓e_stL, ↓e_stA, ↓n_inc, ↓n_incm1, ↓n_incm8, ↓e_iadd, ↓e_isub, ↓e_imul, ↓e_iand, ↓e_ior, ↓e_ixor, ↓n_ishl, ↓n_ishr, ↓e_iushr, ↓n_idiv, ↓e_ineg, ↓e_ladd, ↓e_lsub, ↓e_lmul, ↓e_lor, ↓e_lshl, ↓e_lshr, ↓e_i2l, ↓e_l2i, ↓e_i2b, ↓e_lcmp, ↓e_dup, ↓e_dup2, ↓e_pop, ↓e_ceq, ↓e_cne, ↓e_clt, ↓e_cge, ↓e_cgt, ↓e_cle, ↓n_zeq, ↓n_zne, ↓n_zlt, ↓n_zge, ↓n_zgt, ↓n_zle, ↓e_goto, ↓e_nn, ↓e_retI, ↓e_retL, ↓e_retV, ↓n_retZ, ↓e_retA, ↓e_gfI, ↓e_gfL, ↓e_gfR, ↓e_pfI, ↓n_pfZ, ↓e_pfL, ↓e_pfR, ↓e_iald, ↓e_lald, ↓e_aald, ↓e_alen, ↓e_iast, ↓e_bast, ↓n_zast, ↓e_last, ↓e_aast, ↓e_cV, ↓e_cS, ↓e_gsW, ↓e_gsK, ↓e_mmax, ↓e_mmin, ↓e_mmaxL, ↓e_mminL, gEnt, gPad, gArgs, gGet, gS1, gS2, gCl, gNo, gSp, gCt, n_sw, n_gSw, n_gSw0, Option.toList, List.cons_append, List.nil_append, Value.category, and_true, true_and, and_self, not_false_eq_true, not_true_eq_false, Nat.reduceAdd, Nat.reduceSub, Nat.reduceMul, Nat.reduceLeDiff, Nat.reduceLT, Nat.reduceEqDiff, forall_const, true_implies, false_implies, implies_true, Nat.zero_add, Option.some.injEq, Sum.inr.injEq, Sum.inl.injEq, Prod.mk.injEq, exists_eq_left', exists_eq_left, w_ne0, nI_add, w_lt, w_le, w_eq, w_meq, w_eqm, w_mlt, w_ltm, w_mle, w_lem, w_clamp, w_in, w_31, w_ite0, w_ite1, w_ite01, true_or, or_true, false_or, or_false, Nat.le_refl, Nat.lt_irrefl, S_110 hS, S_116 hS, S_118 hS, S_119 hS, S_120 hS, S_121 hS, S_122 hS, S_123 hS, S_124 hS, S_125 hS, S_126 hS, S_127 hS, S_128 hS, S_129 hS, S_130 hS, S_131 hS, R_110_8 hR, R_110_20 hR, R_110_21 hR, R_110_22 hR, R_110_23 hR, R_110_24 hR, R_110_25 hR, R_110_26 hR, R_110_27 hR, R_110_28 hR, R_110_29 hR, R_110_30 hR, R_110_31 hR, R_110_32 hR, R_110_33 hR, cL]
    refine k_mFail (h := h + 3) hS hR hsz ht0 a2 a4 a1 ?_
    simp (disch := omega) only [↓n_gb, ↓n_gb0, ↓n_ic, ↓n_icm, ↓n_lc, ↓e_lc, ↓e_null, ↓e_ldI, ↓e_ldL, ↓e_ldA, ↓e_stI, ↓e_stL, ↓e_stA, ↓n_inc, ↓n_incm1, ↓n_incm8, ↓e_iadd, ↓e_isub, ↓e_imul, ↓e_iand, ↓e_ior, ↓e_ixor, ↓n_ishl, ↓n_ishr, ↓e_iushr, ↓n_idiv, ↓e_ineg, ↓e_ladd, ↓e_lsub, ↓e_lmul, ↓e_lor, ↓e_lshl, ↓e_lshr, ↓e_i2l, ↓e_l2i, ↓e_i2b, ↓e_lcmp, ↓e_dup, ↓e_dup2, ↓e_pop, ↓e_ceq, ↓e_cne, ↓e_clt, ↓e_cge, ↓e_cgt, ↓e_cle, ↓n_zeq, ↓n_zne, ↓n_zlt, ↓n_zge, ↓n_zgt, ↓n_zle, ↓e_goto, ↓e_nn, ↓e_retI, ↓e_retL, ↓e_retV, ↓n_retZ, ↓e_retA, ↓e_gfI, ↓e_gfL, ↓e_gfR, ↓e_pfI, ↓n_pfZ, ↓e_pfL, ↓e_pfR, ↓e_iald, ↓e_lald, ↓e_aald, ↓e_alen, ↓e_iast, ↓e_bast, ↓n_zast, ↓e_last, ↓e_aast, ↓e_cV, ↓e_cS, ↓e_gsW, ↓e_gsK, ↓e_mmax, ↓e_mmin, ↓e_mmaxL, ↓e_mminL, gEnt, gPad, gArgs, gGet, gS1, gS2, gCl, gNo, gSp, gCt, n_sw, n_gSw, n_gSw0, Option.toList, List.cons_append, List.nil_append, Value.category, and_true, true_and, and_self, not_false_eq_true, not_true_eq_false, Nat.reduceAdd, Nat.reduceSub, Nat.reduceMul, Nat.reduceLeDiff, Nat.reduceLT, Nat.reduceEqDiff, forall_const, true_implies, false_implies, implies_true, Nat.zero_add, Option.some.injEq, Sum.inr.injEq, Sum.inl.injEq, Prod.mk.injEq, exists_eq_left', exists_eq_left, w_ne0, nI_add, w_lt, w_le, w_eq, w_meq, w_eqm, w_mlt, w_ltm, w_mle, w_lem, w_clamp, w_in, w_31, w_ite0, w_ite1, w_ite01, true_or, or_true, false_or, or_false, Nat.le_refl, Nat.lt_irrefl, S_110 hS, S_116 hS, S_118 hS, S_119 hS, S_120 hS, S_121 hS, S_122 hS, S_123 hS, S_124 hS, S_125 hS, S_126 hS, S_127 hS, S_128 hS, S_129 hS, S_130 hS, S_131 hS, R_110_8 hR, R_110_20 hR, R_110_21 hR, R_110_22 hR, R_110_23 hR, R_110_24 hR, R_110_25 hR, R_110_26 hR, R_110_27 hR, R_110_28 hR, R_110_29 hR, R_110_30 hR, R_110_31 hR, R_110_32 hR, R_110_33 hR]
    refine k_mTell38 (r := (2, p, [])) (L := L) (B := B) (p := p) (bn := bn) (u := []) (st := (0, 0, st.2.2)) (C := C) hX hS hR hsd hz (eJr_T x2 ht0) hk hnm (eE_f (eJr_F x2) hE0) (fun z => by simp at z) (fun z => by simp at z) rfl ⟨fun z => by simp at z, fun _ => x1⟩ (fun μ' f e1 => ?_) (fun μ' f e y => ?_)
    · rw [rx, rx, rx] at e1; simp at e1
    · rw [rx, rx, rx, rx, rx] at y
      refine hfa μ' (eFr_Tr (eFr_t f0 (eFr_t (eJr_F x2) f))) (by rw [er]; simp) ?_
      rw [er]
      exact y
  · have hL : L < 12 := by omega
    have er := rdT_let (nb := B) h4 hL
    simp (disch := omega) only [↓n_gb, ↓n_gb0, ↓n_ic, ↓n_icm, ↓n_lc, ↓e_lc, ↓e_null, ↓e_ldI, ↓e_ldL, ↓e_ldA, ↓e_stI, ↓e_stL, ↓e_stA, ↓n_inc, ↓n_incm1, ↓n_incm8, ↓e_iadd, ↓e_isub, ↓e_imul, ↓e_iand, ↓e_ior, ↓e_ixor, ↓n_ishl, ↓n_ishr, ↓e_iushr, ↓n_idiv, ↓e_ineg, ↓e_ladd, ↓e_lsub, ↓e_lmul, ↓e_lor, ↓e_lshl, ↓e_lshr, ↓e_i2l, ↓e_l2i, ↓e_i2b, ↓e_lcmp, ↓e_dup, ↓e_dup2, ↓e_pop, ↓e_ceq, ↓e_cne, ↓e_clt, ↓e_cge, ↓e_cgt, ↓e_cle, ↓n_zeq, ↓n_zne, ↓n_zlt, ↓n_zge, ↓n_zgt, ↓n_zle, ↓e_goto, ↓e_nn, ↓e_retI, ↓e_retL, ↓e_retV, ↓n_retZ, ↓e_retA, ↓e_gfI, ↓e_gfL, ↓e_gfR, ↓e_pfI, ↓n_pfZ, ↓e_pfL, ↓e_pfR, ↓e_iald, ↓e_lald, ↓e_aald, ↓e_alen, ↓e_iast, ↓e_bast, ↓n_zast, ↓e_last, ↓e_aast, ↓e_cV, ↓e_cS, ↓e_gsW, ↓e_gsK, ↓e_mmax, ↓e_mmin, ↓e_mmaxL, ↓e_mminL, gEnt, gPad, gArgs, gGet, gS1, gS2, gCl, gNo, gSp, gCt, n_sw, n_gSw, n_gSw0, Option.toList, List.cons_append, List.nil_append, Value.category, and_true, true_and, and_self, not_false_eq_true, not_true_eq_false, Nat.reduceAdd, Nat.reduceSub, Nat.reduceMul, Nat.reduceLeDiff, Nat.reduceLT, Nat.reduceEqDiff, forall_const, true_implies, false_implies, implies_true, Nat.zero_add, Option.some.injEq, Sum.inr.injEq, Sum.inl.injEq, Prod.mk.injEq, exists_eq_left', exists_eq_left, w_ne0, nI_add, w_lt, w_le, w_eq, w_meq, w_eqm, w_mlt, w_ltm, w_mle, w_lem, w_clamp, w_in, w_31, w_ite0, w_ite1, w_ite01, true_or, or_true, false_or, or_false, Nat.le_refl, Nat.lt_irrefl, S_110 hS, S_116 hS, S_118 hS, S_119 hS, S_120 hS, S_121 hS, S_122 hS, S_123 hS, S_124 hS, S_125 hS, S_126 hS, S_127 hS, S_128 hS, S_129 hS, S_130 hS, S_131 hS, R_110_8 hR, R_110_20 hR, R_110_21 hR, R_110_22 hR, R_110_23 hR, R_110_24 hR, R_110_25 hR, R_110_26 hR, R_110_27 hR, R_110_28 hR, R_110_29 hR, R_110_30 hR, R_110_31 hR, R_110_32 hR, R_110_33 hR, cL]
    refine k_mTell38 (r := (0, p, [])) (L := L) (B := B) (p := p) (bn := bn) (u := []) (st := (0, 0, st.2.2)) (C := C) hX hS hR hsd hz ht0 hk hnm hE0 (fun _ => hq0) (fun _ => by dsimp only; omega) rfl ⟨fun _ => s0, fun z => absurd rfl z⟩ (fun μ1 f1 e1 e2 b1 => ?_) (fun μ' f e y => ?_)
    · rw [er] at e2 b1
      obtain ⟨q, hq, hq4, hx0, hrx, hk3, -⟩ := rdT_0 (show p ≤ 400 by omega) e2
      have eq3 : q = p + 3 := by omega
      subst eq3
      have hrx2 := (rEx_0 hq4 hx0).2.2.2
      have ec : (rd K 1700 0 0 (p + 3)).2.2 = (rdT K B L p).2.2 := by rw [hrx, hrx2]
      dsimp only at b1
      rw [ec] at b1
      generalize hstn : (rdT K B L p).2.2.foldl (eA rv pl) (0, 0, st.2.2) = stn at *
      have hR1 : gPS μ1.2.2 β := by rw [f1.2]; exact hR0
      have ht1 := eFr_T f1 ht0
      have hE1 := eE_f f1 hE0
      have hB1 : eBn β sd sz B K nm bn μ1 := by
        obtain ⟨u1, u2, u3⟩ := hB
        refine ⟨u1, ?_, fun k hk' => ?_⟩
        · rw [f1.1 _ _ (by omega) (by omega) (by omega), f0.1 _ _ (by omega) (by omega) (by omega)]; exact u2
        · rw [f1.2, f0.2]; exact u3 k hk'
      obtain ⟨b11, b12, b13, b14, b15, b16, b17⟩ := id b1
      have hpos : p + 1 < sz := by
        have := dZ_nx hz s1 (by omega) (show p < 400 by omega)
        exact this
      have hR := hR1
      dsimp only
      refine b_X11_tell_80 hX ?_
      simp (disch := omega) only [B_X11_tell_80, ↓n_gb, ↓n_gb0, ↓n_ic, ↓n_icm, ↓n_lc, ↓e_lc, ↓e_null, ↓e_ldI, ↓e_ldL, ↓e_ldA, ↓e_stI, ↓e_stL, ↓e_stA, ↓n_inc, ↓n_incm1, ↓n_incm8, ↓e_iadd, ↓e_isub, ↓e_imul, ↓e_iand, ↓e_ior, ↓e_ixor, ↓n_ishl, ↓n_ishr, ↓e_iushr, ↓n_idiv, ↓e_ineg, ↓e_ladd, ↓e_lsub, ↓e_lmul, ↓e_lor, ↓e_lshl, ↓e_lshr, ↓e_i2l, ↓e_l2i, ↓e_i2b, ↓e_lcmp, ↓e_dup, ↓e_dup2, ↓e_pop, ↓e_ceq, ↓e_cne, ↓e_clt, ↓e_cge, ↓e_cgt, ↓e_cle, ↓n_zeq, ↓n_zne, ↓n_zlt, ↓n_zge, ↓n_zgt, ↓n_zle, ↓e_goto, ↓e_nn, ↓e_retI, ↓e_retL, ↓e_retV, ↓n_retZ, ↓e_retA, ↓e_gfI, ↓e_gfL, ↓e_gfR, ↓e_pfI, ↓n_pfZ, ↓e_pfL, ↓e_pfR, ↓e_iald, ↓e_lald, ↓e_aald, ↓e_alen, ↓e_iast, ↓e_bast, ↓n_zast, ↓e_last, ↓e_aast, ↓e_cV, ↓e_cS, ↓e_gsW, ↓e_gsK, ↓e_mmax, ↓e_mmin, ↓e_mmaxL, ↓e_mminL, gEnt, gPad, gArgs, gGet, gS1, gS2, gCl, gNo, gSp, gCt, n_sw, n_gSw, n_gSw0, Option.toList, List.cons_append, List.nil_append, Value.category, and_true, true_and, and_self, not_false_eq_true, not_true_eq_false, Nat.reduceAdd, Nat.reduceSub, Nat.reduceMul, Nat.reduceLeDiff, Nat.reduceLT, Nat.reduceEqDiff, forall_const, true_implies, false_implies, implies_true, Nat.zero_add, Option.some.injEq, Sum.inr.injEq, Sum.inl.injEq, Prod.mk.injEq, exists_eq_left', exists_eq_left, w_ne0, nI_add, w_lt, w_le, w_eq, w_meq, w_eqm, w_mlt, w_ltm, w_mle, w_lem, w_clamp, w_in, w_31, w_ite0, w_ite1, w_ite01, true_or, or_true, false_or, or_false, Nat.le_refl, Nat.lt_irrefl, S_110 hS, S_116 hS, S_118 hS, S_119 hS, S_120 hS, S_121 hS, S_122 hS, S_123 hS, S_124 hS, S_125 hS, S_126 hS, S_127 hS, S_128 hS, S_129 hS, S_130 hS, S_131 hS, R_110_8 hR, R_110_20 hR, R_110_21 hR, R_110_22 hR, R_110_23 hR, R_110_24 hR, R_110_25 hR, R_110_26 hR, R_110_27 hR, R_110_28 hR, R_110_29 hR, R_110_30 hR, R_110_31 hR, R_110_32 hR, R_110_33 hR]
      refine k_mTold (h := h + 2) hS hR hsd hz ht1 hna hpl hE1 hB1 hpos hk3 b14 b17 (fun μ2 g1 g2 g3 => ?_)
      have hR2 : gPS μ2.2.2 β := by rw [g2]; exact hR1
      obtain ⟨t1, t2, t3, t4, t5⟩ := id hE1
      have e19 : μ2.1 (β + 110) 19 = nI sd := (g1 _ _ (by omega)).trans t2
      have e118 : μ2.1 (β + 118) sd = nI L := (g1 _ _ (by omega)).trans t3
      have e34 : μ2.1 (β + 110) 34 = nI (500 * sd + (C ++ (rdT K B L p).2.2).length) := (g1 _ _ (by omega)).trans b16.1
      have enm : μ2.2.1 (β + 116) (p + 1) = lN (nm (p + 1)) := by rw [g2]; exact (ht1 (p + 1) hpos).2.2.2 hk3
      have e37 : μ2.1 (β + 110) 37 = nI stn.1 := (g1 _ _ (by omega)).trans b17.2.1
      have e38 : μ2.1 (β + 110) 38 = nI stn.2.1 := (g1 _ _ (by omega)).trans b17.2.2.1
      have hst1 := b17.1.2.1
      have hl24 : 12 * sd + L < 24 := by omega
      have hp403 : p + 1 < 403 := by omega
      have hR := hR2
      simp (disch := omega) only [↓n_gb, ↓n_gb0, ↓n_ic, ↓n_icm, ↓n_lc, ↓e_lc, ↓e_null, ↓e_ldI, ↓e_ldL, ↓e_ldA, ↓e_stI, ↓e_stL, ↓e_stA, ↓n_inc, ↓n_incm1, ↓n_incm8, ↓e_iadd, ↓e_isub, ↓e_imul, ↓e_iand, ↓e_ior, ↓e_ixor, ↓n_ishl, ↓n_ishr, ↓e_iushr, ↓n_idiv, ↓e_ineg, ↓e_ladd, ↓e_lsub, ↓e_lmul, ↓e_lor, ↓e_lshl, ↓e_lshr, ↓e_i2l, ↓e_l2i, ↓e_i2b, ↓e_lcmp, ↓e_dup, ↓e_dup2, ↓e_pop, ↓e_ceq, ↓e_cne, ↓e_clt, ↓e_cge, ↓e_cgt, ↓e_cle, ↓n_zeq, ↓n_zne, ↓n_zlt, ↓n_zge, ↓n_zgt, ↓n_zle, ↓e_goto, ↓e_nn, ↓e_retI, ↓e_retL, ↓e_retV, ↓n_retZ, ↓e_retA, ↓e_gfI, ↓e_gfL, ↓e_gfR, ↓e_pfI, ↓n_pfZ, ↓e_pfL, ↓e_pfR, ↓e_iald, ↓e_lald, ↓e_aald, ↓e_alen, ↓e_iast, ↓e_bast, ↓n_zast, ↓e_last, ↓e_aast, ↓e_cV, ↓e_cS, ↓e_gsW, ↓e_gsK, ↓e_mmax, ↓e_mmin, ↓e_mmaxL, ↓e_mminL, gEnt, gPad, gArgs, gGet, gS1, gS2, gCl, gNo, gSp, gCt, n_sw, n_gSw, n_gSw0, Option.toList, List.cons_append, List.nil_append, Value.category, and_true, true_and, and_self, not_false_eq_true, not_true_eq_false, Nat.reduceAdd, Nat.reduceSub, Nat.reduceMul, Nat.reduceLeDiff, Nat.reduceLT, Nat.reduceEqDiff, forall_const, true_implies, false_implies, implies_true, Nat.zero_add, Option.some.injEq, Sum.inr.injEq, Sum.inl.injEq, Prod.mk.injEq, exists_eq_left', exists_eq_left, w_ne0, nI_add, w_lt, w_le, w_eq, w_meq, w_eqm, w_mlt, w_ltm, w_mle, w_lem, w_clamp, w_in, w_31, w_ite0, w_ite1, w_ite01, true_or, or_true, false_or, or_false, Nat.le_refl, Nat.lt_irrefl, S_110 hS, S_116 hS, S_118 hS, S_119 hS, S_120 hS, S_121 hS, S_122 hS, S_123 hS, S_124 hS, S_125 hS, S_126 hS, S_127 hS, S_128 hS, S_129 hS, S_130 hS, S_131 hS, R_110_8 hR, R_110_20 hR, R_110_21 hR, R_110_22 hR, R_110_23 hR, R_110_24 hR, R_110_25 hR, R_110_26 hR, R_110_27 hR, R_110_28 hR, R_110_29 hR, R_110_30 hR, R_110_31 hR, R_110_32 hR, R_110_33 hR, e19, e118, hsd, pk_mul, hl24, enm, hp403, e34, gU_n, e37, e38]
      have t154 : ∀ z, z = (if stn.2.1 = 0 then 0 else 64) → X 154 (gU (gU μ2.1 (β + 121) (12 * sd + L) (nI (500 * sd + C.length))) (β + 122) (12 * sd + L) (nI (500 * sd + (C ++ (rdT K B L p).2.2).length)), gU μ2.2.1 (β + 120) (12 * sd + L) (lN (nm (p + 1))), μ2.2.2) [some (.ref (β + 110)), some (.int (nI (p + 1))), some (.int (nI (500 * sd + C.length))), some (.int (nI (12 * sd + L))), none, none, none, none] [.int (nI z), .int (nI stn.1), .int (nI (12 * sd + L)), .ref (β + 123)] := by
        intro z hz'
        refine b_X11_tell_154 hX ?_
        simp (disch := omega) only [B_X11_tell_154, ↓n_gb, ↓n_gb0, ↓n_ic, ↓n_icm, ↓n_lc, ↓e_lc, ↓e_null, ↓e_ldI, ↓e_ldL, ↓e_ldA, ↓e_stI, ↓e_stL, ↓e_stA, ↓n_inc, ↓n_incm1, ↓n_incm8, ↓e_iadd, ↓e_isub, ↓e_imul, ↓e_iand, ↓e_ior, ↓e_ixor, ↓n_ishl, ↓n_ishr, ↓e_iushr, ↓n_idiv, ↓e_ineg, ↓e_ladd, ↓e_lsub, ↓e_lmul, ↓e_lor, ↓e_lshl, ↓e_lshr, ↓e_i2l, ↓e_l2i, ↓e_i2b, ↓e_lcmp, ↓e_dup, ↓e_dup2, ↓e_pop, ↓e_ceq, ↓e_cne, ↓e_clt, ↓e_cge, ↓e_cgt, ↓e_cle, ↓n_zeq, ↓n_zne, ↓n_zlt, ↓n_zge, ↓n_zgt, ↓n_zle, ↓e_goto, ↓e_nn, ↓e_retI, ↓e_retL, ↓e_retV, ↓n_retZ, ↓e_retA, ↓e_gfI, ↓e_gfL, ↓e_gfR, ↓e_pfI, ↓n_pfZ, ↓e_pfL, ↓e_pfR, ↓e_iald, ↓e_lald, ↓e_aald, ↓e_alen, ↓e_iast, ↓e_bast, ↓n_zast, ↓e_last, ↓e_aast, ↓e_cV, ↓e_cS, ↓e_gsW, ↓e_gsK, ↓e_mmax, ↓e_mmin, ↓e_mmaxL, ↓e_mminL, gEnt, gPad, gArgs, gGet, gS1, gS2, gCl, gNo, gSp, gCt, n_sw, n_gSw, n_gSw0, Option.toList, List.cons_append, List.nil_append, Value.category, and_true, true_and, and_self, not_false_eq_true, not_true_eq_false, Nat.reduceAdd, Nat.reduceSub, Nat.reduceMul, Nat.reduceLeDiff, Nat.reduceLT, Nat.reduceEqDiff, forall_const, true_implies, false_implies, implies_true, Nat.zero_add, Option.some.injEq, Sum.inr.injEq, Sum.inl.injEq, Prod.mk.injEq, exists_eq_left', exists_eq_left, w_ne0, nI_add, w_lt, w_le, w_eq, w_meq, w_eqm, w_mlt, w_ltm, w_mle, w_lem, w_clamp, w_in, w_31, w_ite0, w_ite1, w_ite01, true_or, or_true, false_or, or_false, Nat.le_refl, Nat.lt_irrefl, S_110 hS, S_116 hS, S_118 hS, S_119 hS, S_120 hS, S_121 hS, S_122 hS, S_123 hS, S_124 hS, S_125 hS, S_126 hS, S_127 hS, S_128 hS, S_129 hS, S_130 hS, S_131 hS, R_110_8 hR, R_110_20 hR, R_110_21 hR, R_110_22 hR, R_110_23 hR, R_110_24 hR, R_110_25 hR, R_110_26 hR, R_110_27 hR, R_110_28 hR, R_110_29 hR, R_110_30 hR, R_110_31 hR, R_110_32 hR, R_110_33 hR, w_or, hl24, gU_n, e19, e118, hsd]
        have F : ∀ a i, ¬ (a = β + 118 ∧ i = sd) → ¬ (β + 121 ≤ a ∧ a ≤ β + 123 ∧ i = 12 * sd + L) → gU (gU (gU (gU μ2.1 (β + 121) (12 * sd + L) (nI (500 * sd + C.length))) (β + 122) (12 * sd + L) (nI (500 * sd + (C ++ (rdT K B L p).2.2).length))) (β + 123) (12 * sd + L) (nI (stn.1 ||| z))) (β + 118) sd (nI (L + 1)) a i = μ2.1 a i := by
          intro a i x y
          rw [gU_n (by omega), gU_n (by omega), gU_n (by omega), gU_n (by omega)]
        refine hok _ ⟨fun a i x y z' w v u => ?_, fun a i x y => ?_, ?_⟩ e2 ?_ gU_s ?_ (fun i hi => ⟨?_, ?_, ?_, ?_⟩) (fun a i => ⟨fun e => ?_, fun e => ?_⟩) ?_ ?_ ?_ gU_s
        · dsimp only
          rw [F _ _ (by omega) (by omega), g1 _ _ (by omega), f1.1 a i x y z', f0.1 a i x y z']
        · dsimp only
          rw [gU_n (by omega), g2, f1.2, f0.2]
        · dsimp only
          rw [g2, f1.2, f0.2]
        · refine ⟨b11, ?_, ?_, ?_, b15, eC_c (μ := μ1) ?_ (fun i => ?_) (fun i => ?_) b16, eM_c (μ := μ2) (fun i hi => ?_) g3⟩
          all_goals (dsimp only; rw [F _ _ (by omega) (by omega)])
          · exact (g1 _ _ (by omega)).trans b12
          · exact (g1 _ _ (by omega)).trans b13
          · exact (g1 _ _ (by omega)).trans b14
          · exact g1 _ _ (by omega)
          · exact g1 _ _ (by omega)
          · exact g1 _ _ (by omega)
        · dsimp only
          rw [F _ _ (by omega) (by omega), g1 _ _ (by omega), f1.1 _ _ (by omega) (by omega) (by omega), f0.1 _ _ (by omega) (by omega) (by omega)]
        · dsimp only
          rw [F _ _ (by omega) (by omega), g1 _ _ (by omega), f1.1 _ _ (by omega) (by omega) (by omega), f0.1 _ _ (by omega) (by omega) (by omega)]
        · dsimp only
          rw [F _ _ (by omega) (by omega), g1 _ _ (by omega), f1.1 _ _ (by omega) (by omega) (by omega), f0.1 _ _ (by omega) (by omega) (by omega)]
        · dsimp only
          rw [F _ _ (by omega) (by omega), g1 _ _ (by omega), f1.1 _ _ (by omega) (by omega) (by omega), f0.1 _ _ (by omega) (by omega) (by omega)]
        · dsimp only
          rw [gU_n (by omega), g2, f1.2, f0.2]
        · dsimp only
          rw [gU_n (by omega), g2, f1.2, f0.2]
        · dsimp only
          rw [F _ _ (by omega) (by omega), g1 _ _ (by omega), f1.1 _ _ (by omega) (by omega) (by omega), f0.1 _ _ (by omega) (by omega) (by omega)]
        · dsimp only
          rw [gU_n (by omega), gU_n (by omega), gU_n (by omega), gU_s]
        · dsimp only
          rw [gU_n (by omega), gU_n (by omega), gU_s]
        · dsimp only
          rw [gU_n (by omega), gU_s, hz']
      refine ⟨fun c => ?_, fun c => ?_⟩
      · refine b_X11_tell_153 hX ?_
        simp (disch := omega) only [B_X11_tell_153, ↓n_gb, ↓n_gb0, ↓n_ic, ↓n_icm, ↓n_lc, ↓e_lc, ↓e_null, ↓e_ldI, ↓e_ldL, ↓e_ldA, ↓e_stI, ↓e_stL, ↓e_stA, ↓n_inc, ↓n_incm1, ↓n_incm8, ↓e_iadd, ↓e_isub, ↓e_imul, ↓e_iand, ↓e_ior, ↓e_ixor, ↓n_ishl, ↓n_ishr, ↓e_iushr, ↓n_idiv, ↓e_ineg, ↓e_ladd, ↓e_lsub, ↓e_lmul, ↓e_lor, ↓e_lshl, ↓e_lshr, ↓e_i2l, ↓e_l2i, ↓e_i2b, ↓e_lcmp, ↓e_dup, ↓e_dup2, ↓e_pop, ↓e_ceq, ↓e_cne, ↓e_clt, ↓e_cge, ↓e_cgt, ↓e_cle, ↓n_zeq, ↓n_zne, ↓n_zlt, ↓n_zge, ↓n_zgt, ↓n_zle, ↓e_goto, ↓e_nn, ↓e_retI, ↓e_retL, ↓e_retV, ↓n_retZ, ↓e_retA, ↓e_gfI, ↓e_gfL, ↓e_gfR, ↓e_pfI, ↓n_pfZ, ↓e_pfL, ↓e_pfR, ↓e_iald, ↓e_lald, ↓e_aald, ↓e_alen, ↓e_iast, ↓e_bast, ↓n_zast, ↓e_last, ↓e_aast, ↓e_cV, ↓e_cS, ↓e_gsW, ↓e_gsK, ↓e_mmax, ↓e_mmin, ↓e_mmaxL, ↓e_mminL, gEnt, gPad, gArgs, gGet, gS1, gS2, gCl, gNo, gSp, gCt, n_sw, n_gSw, n_gSw0, Option.toList, List.cons_append, List.nil_append, Value.category, and_true, true_and, and_self, not_false_eq_true, not_true_eq_false, Nat.reduceAdd, Nat.reduceSub, Nat.reduceMul, Nat.reduceLeDiff, Nat.reduceLT, Nat.reduceEqDiff, forall_const, true_implies, false_implies, implies_true, Nat.zero_add, Option.some.injEq, Sum.inr.injEq, Sum.inl.injEq, Prod.mk.injEq, exists_eq_left', exists_eq_left, w_ne0, nI_add, w_lt, w_le, w_eq, w_meq, w_eqm, w_mlt, w_ltm, w_mle, w_lem, w_clamp, w_in, w_31, w_ite0, w_ite1, w_ite01, true_or, or_true, false_or, or_false, Nat.le_refl, Nat.lt_irrefl, S_110 hS, S_116 hS, S_118 hS, S_119 hS, S_120 hS, S_121 hS, S_122 hS, S_123 hS, S_124 hS, S_125 hS, S_126 hS, S_127 hS, S_128 hS, S_129 hS, S_130 hS, S_131 hS, R_110_8 hR, R_110_20 hR, R_110_21 hR, R_110_22 hR, R_110_23 hR, R_110_24 hR, R_110_25 hR, R_110_26 hR, R_110_27 hR, R_110_28 hR, R_110_29 hR, R_110_30 hR, R_110_31 hR, R_110_32 hR, R_110_33 hR]
        exact t154 0 (by rw [if_pos c])
      · exact t154 64 (by rw [if_neg c])
    · rw [er] at e y
      exact hfa μ' (eFr_Tr (eFr_t f0 f)) e y
