/-! THE TEXT: read, as a whole -/
theorem gI_rf_3 {β q v : Nat} {R : Nat → Nat → Nat} (hq : q = 56 ∨ q = 83) (h : gI_rf β q R) : gI_rf β q (gU R (β + 3) 1 v) := by
  obtain ⟨h1, h2, h3, ⟨w, w1, w2, w3⟩, h5, h6⟩ := h
  refine ⟨h1, ?_, ?_, ⟨w, w1, ?_, ?_⟩, ?_, ?_⟩
  · rw [gU_n (by omega)]; exact h2
  · rw [gU_n (by omega)]; exact h3
  · rw [gU_n (by omega)]; exact w2
  · rw [gU_n (by omega)]; exact w3
  · rw [gU_n (by omega)]; exact h5
  · rw [gU_n (by omega)]; exact h6
theorem gI_rf_n {β q qd : Nat} {R : Nat → Nat → Nat} (hq : q = 56 ∨ q = 83) (hqd : q + qd = 139) (h : gI_rf β q R) : gI_rf β qd (gU (gU (gU R (β + 3) 1 (β + qd)) β 8 (β + q)) β 7 (β + qd)) := by
  obtain ⟨h1, h2, h3, ⟨w, w1, w2, w3⟩, h5, h6⟩ := h
  refine ⟨by omega, gU_s, ?_, ⟨w, w1, ?_, ?_⟩, ?_, ?_⟩
  · rw [gU_n (by omega), gU_s]; omega
  · rw [gU_n (by omega), gU_n (by omega), gU_n (by omega)]; exact w2
  · rw [gU_n (by omega), gU_n (by omega), gU_n (by omega)]; exact w3
  · rw [gU_n (by omega), gU_n (by omega), gU_n (by omega)]; exact h5
  · rw [gU_n (by omega), gU_n (by omega), gU_n (by omega)]; exact h6
theorem bytes {f : Nat → Int32} {N : Nat} : ∃ b : Nat → Nat, (∀ i, b i < 256) ∧ (∀ i, N ≤ i → b i = 0) ∧ ∀ i, i < N → f i &&& nI 255 = nI (b i) := by
  refine ⟨fun i => if i < N then Classical.choose (w_byte (f i)) else 0, fun i => ?_, fun i hi => if_neg (by omega), fun i hi => ?_⟩
  · dsimp only
    split
    · exact (Classical.choose_spec (w_byte (f i))).1
    · omega
  · dsimp only
    rw [if_pos hi]
    exact (Classical.choose_spec (w_byte (f i))).2
theorem zRl_j {g : zG} {TL : List rTl} (h : zRl g TL) : ∃ jj : Nat → Nat, ∀ k, k < zB g → ∃ x : rTl, TL[jj k]? = some x ∧ x.1 = 1 ∧ x.2.1 = k := by
  have h4 := h.2.2.2.1
  have : ∀ k, ∃ j, k < zB g → ∃ x : rTl, TL[j]? = some x ∧ x.1 = 1 ∧ x.2.1 = k := fun k => by
    by_cases c : k < zB g
    · obtain ⟨j, x, y⟩ := h4 k c
      exact ⟨j, fun _ => ⟨x, y⟩⟩
    · exact ⟨0, fun z => absurd z c⟩
  exact ⟨fun k => Classical.choose (this k), fun k hk => Classical.choose_spec (this k) hk⟩
set_option maxHeartbeats 16000000 in
theorem op_read {S : gSh} {β b : Nat} {xs : Nat → Int32} (hS : gLS S β) (hβ : b < β) : gPairI S (gInv β b xs) b β (β + 110) xs 85 133 [] := by
  intro μ hI P hP
  obtain ⟨hs, hR, iky, itp, ipc, isr, ifa, ido, ias, t, n, lv, q, irf, ihd, ibx, ilk, ihs, ifx, iov, isc, ipl, ily⟩ := hI; have hn6 : n ≤ 6 := ihd.2.1; have hq : q = 56 ∨ q = 83 := irf.1
  obtain ⟨ht, hn, hlv, h10, h51, h9, h18, h119⟩ := id ihd; rw [Nat.add_zero] at h10 h9
  obtain ⟨N, hN, c1, c2, c3⟩ := id itp
  obtain ⟨bb, b1, b0, bt⟩ := bytes (f := μ.1 (β + 2)) (N := N)
  obtain ⟨-, d7, d8, -⟩ := id irf
  obtain ⟨qd, hqd⟩ : ∃ qd, q + qd = 139 := ⟨139 - q, by omega⟩
  obtain ⟨sd, hsd⟩ : ∃ sd, lv + sd = 1 := ⟨1 - lv, by omega⟩
  rw [show 139 - q = qd by omega] at d8
  have hq' : qd = 56 ∨ qd = 83 := by omega
  have hR' : gPS (gU μ.2.2 (β + 3) 1 (β + qd)) β := gPS_U hR (by decide +kernel)
  refine r_X10_read (by simp [lg_sl, Value.category]) (fun X hX => ?_)
  refine b_X10_read_0 hX ?_
  simp (disch := omega) only [B_X10_read_0, ↓n_gb, ↓n_gb0, ↓n_ic, ↓n_icm, ↓n_lc, ↓e_lc, ↓e_null, ↓e_ldI, ↓e_ldL, ↓e_ldA, ↓e_stI, ↓e_stL, ↓e_stA, ↓n_inc, ↓n_incm1, ↓n_incm8, ↓e_iadd, ↓e_isub, ↓e_imul, ↓e_iand, ↓e_ior, ↓e_ixor, ↓n_ishl, ↓n_ishr, ↓e_iushr, ↓n_idiv, ↓e_ineg, ↓e_ladd, ↓e_lsub, ↓e_lmul, ↓e_lor, ↓e_lshl, ↓e_lshr, ↓e_i2l, ↓e_l2i, ↓e_i2b, ↓e_lcmp, ↓e_dup, ↓e_dup2, ↓e_pop, ↓e_ceq, ↓e_cne, ↓e_clt, ↓e_cge, ↓e_cgt, ↓e_cle, ↓n_zeq, ↓n_zne, ↓n_zlt, ↓n_zge, ↓n_zgt, ↓n_zle, ↓e_goto, ↓e_nn, ↓e_retI, ↓e_retL, ↓e_retV, ↓n_retZ, ↓e_retA, ↓e_gfI, ↓e_gfL, ↓e_gfR, ↓e_pfI, ↓n_pfZ, ↓e_pfL, ↓e_pfR, ↓e_iald, ↓e_lald, ↓e_aald, ↓e_alen, ↓e_iast, ↓e_bast, ↓n_zast, ↓e_last, ↓e_aast, ↓e_cV, ↓e_cS, ↓e_gsW, ↓e_gsK, ↓e_mmax, ↓e_mmin, ↓e_mmaxL, ↓e_mminL, gEnt, gPad, gArgs, gGet, gS1, gS2, gCl, gNo, gSp, gCt, n_sw, n_gSw, n_gSw0, Option.toList, List.cons_append, List.nil_append, Value.category, and_true, true_and, and_self, not_false_eq_true, not_true_eq_false, Nat.reduceAdd, Nat.reduceSub, Nat.reduceMul, Nat.reduceLeDiff, Nat.reduceLT, Nat.reduceEqDiff, forall_const, true_implies, false_implies, implies_true, Nat.zero_add, Option.some.injEq, Sum.inr.injEq, Sum.inl.injEq, Prod.mk.injEq, exists_eq_left', exists_eq_left, w_ne0, nI_add, w_lt, w_le, w_eq, w_meq, w_eqm, w_mlt, w_ltm, w_mle, w_lem, w_clamp, w_in, w_31, w_ite0, w_ite1, w_ite01, true_or, or_true, false_or, or_false, Nat.le_refl, Nat.lt_irrefl, S_0 hS, S_1 hS, S_3 hS, R_0_0 hR, R_0_1 hR, d8]
  refine k_parse (h := 49) hS hR hq' ⟨hN, c1, b1, b0, bt⟩ (fun μ0 sz F0 hE W0 K0 => ?_)
  have hRo := hR
  have hR : gPS μ0.2.2 β := by rw [F0.2.2]; exact hR'
  have w5 := W0.1
  obtain ⟨-, w3, w4, w6⟩ := id W0
  by_cases cf : (rFl (nK bb N sz) (tQ bb N) (fun p => tVl bb N (tQ bb N p))).1 = 0
  · obtain ⟨hC, dt, dc, h11⟩ := K0 cf
    have e1 : (rdA (nK bb N sz) 19 0 0 0 0).1 = 0 := by
      refine Classical.byContradiction (fun z => ?_)
      have : rFl (nK bb N sz) (tQ bb N) (fun p => tVl bb N (tQ bb N p)) = ((rdA (nK bb N sz) 19 0 0 0 0).1, tQ bb N (rdA (nK bb N sz) 19 0 0 0 0).2.1) := if_pos z
      rw [this] at cf
      exact z cf
    have eF : rFl (nK bb N sz) (tQ bb N) (fun p => tVl bb N (tQ bb N p)) = zw (zF (nK bb N sz) (tQ bb N) (fun p => tVl bb N (tQ bb N p)) 19 0 g0Z) := if_neg (fun z => z e1)
    have hZ := nK_Z hE
    obtain ⟨y1, y2⟩ := zF_P (vl := fun p => tVl bb N (tQ bb N p)) (tQ_M hE) hZ.2.2.2.2.1 hZ.2.1 19 0 g0Z [] [] (by omega) zCl_0 rfl zRl_0 zP_0 e1 (by rw [← eF]; exact cf)
    have y3 := zF_rv (K := nK bb N sz) (pl := tQ bb N) (vl := fun p => tVl bb N (tQ bb N p)) 19 0 g0Z (fun t => by show 0 < 3; omega)
    simp only [List.nil_append, List.length_nil] at y1 y2
    replace y1 : zRl (zF (nK bb N sz) (tQ bb N) (fun p => tVl bb N (tQ bb N p)) 19 0 g0Z) (rdA (nK bb N sz) 19 0 0 0 0).2.2.1 := y1
    replace y2 : zP (fun p => tVl bb N (tQ bb N p)) (rdA (nK bb N sz) 19 0 0 0 0).2.1 (zF (nK bb N sz) (tQ bb N) (fun p => tVl bb N (tQ bb N p)) 19 0 g0Z) (rdA (nK bb N sz) 19 0 0 0 0).2.2.1 (rdA (nK bb N sz) 19 0 0 0 0).2.2.2 := y2
    obtain ⟨jj, hjj⟩ := zRl_j y1
    have jb : ∀ k, k < zB (zF (nK bb N sz) (tQ bb N) (fun p => tVl bb N (tQ bb N p)) 19 0 g0Z) → jj k < 18 ∧ μ0.1 (β + (qd + 2)) k = nI (jj k) := by
      intro k hk
      obtain ⟨x, x1, x2, x3⟩ := hjj k hk
      obtain ⟨t1, t2, t3, t4, t5, t6, t7⟩ := id dt
      have := lt_get x1
      refine ⟨by omega, ?_⟩
      rcases (t7 _ _ x1).2.2.2.2.2 with z | z
      · have z2 := z.2.2
        rw [x3] at z2
        exact z2
      · omega
    simp (disch := omega) only [↓n_gb, ↓n_gb0, ↓n_ic, ↓n_icm, ↓n_lc, ↓e_lc, ↓e_null, ↓e_ldI, ↓e_ldL, ↓e_ldA, ↓e_stI, ↓e_stL, ↓e_stA, ↓n_inc, ↓n_incm1, ↓n_incm8, ↓e_iadd, ↓e_isub, ↓e_imul, ↓e_iand, ↓e_ior, ↓e_ixor, ↓n_ishl, ↓n_ishr, ↓e_iushr, ↓n_idiv, ↓e_ineg, ↓e_ladd, ↓e_lsub, ↓e_lmul, ↓e_lor, ↓e_lshl, ↓e_lshr, ↓e_i2l, ↓e_l2i, ↓e_i2b, ↓e_lcmp, ↓e_dup, ↓e_dup2, ↓e_pop, ↓e_ceq, ↓e_cne, ↓e_clt, ↓e_cge, ↓e_cgt, ↓e_cle, ↓n_zeq, ↓n_zne, ↓n_zlt, ↓n_zge, ↓n_zgt, ↓n_zle, ↓e_goto, ↓e_nn, ↓e_retI, ↓e_retL, ↓e_retV, ↓n_retZ, ↓e_retA, ↓e_gfI, ↓e_gfL, ↓e_gfR, ↓e_pfI, ↓n_pfZ, ↓e_pfL, ↓e_pfR, ↓e_iald, ↓e_lald, ↓e_aald, ↓e_alen, ↓e_iast, ↓e_bast, ↓n_zast, ↓e_last, ↓e_aast, ↓e_cV, ↓e_cS, ↓e_gsW, ↓e_gsK, ↓e_mmax, ↓e_mmin, ↓e_mmaxL, ↓e_mminL, gEnt, gPad, gArgs, gGet, gS1, gS2, gCl, gNo, gSp, gCt, n_sw, n_gSw, n_gSw0, Option.toList, List.cons_append, List.nil_append, Value.category, and_true, true_and, and_self, not_false_eq_true, not_true_eq_false, Nat.reduceAdd, Nat.reduceSub, Nat.reduceMul, Nat.reduceLeDiff, Nat.reduceLT, Nat.reduceEqDiff, forall_const, true_implies, false_implies, implies_true, Nat.zero_add, Option.some.injEq, Sum.inr.injEq, Sum.inl.injEq, Prod.mk.injEq, exists_eq_left', exists_eq_left, w_ne0, nI_add, w_lt, w_le, w_eq, w_meq, w_eqm, w_mlt, w_ltm, w_mle, w_lem, w_clamp, w_in, w_31, w_ite0, w_ite1, w_ite01, true_or, or_true, false_or, or_false, Nat.le_refl, Nat.lt_irrefl, S_0 hS, S_1 hS, S_3 hS, R_0_0 hR, R_0_1 hR, cf]
    have dB := dt.1
    have h71 : μ0.2.2 β 7 = β + q := by rw [F0.2.2, gU_n (by omega)]; exact d7
    have h81 : μ0.2.2 β 8 = β + qd := by rw [F0.2.2, gU_n (by omega)]; exact d8
    refine k_hangDraft (h := 97) (q0 := q) (jj := jj) (t := t) (n := zB (zF (nK bb N sz) (tQ bb N) (fun p => tVl bb N (tQ bb N p)) 19 0 g0Z)) (μ := (gU μ0.1 (β + 1) 1 (nI 0), μ0.2)) hS hR hq' hq h71 h81 dB ht (by dsimp only; rw [gU_n (by omega)]; exact dt.2.2.2.2.1) (by dsimp only; rw [gU_n (by omega), F0.1 _ _ (by omega) (by omega) (by omega) (by omega) (by omega) (by omega) (by omega)]; exact h10) (fun k hk => ⟨(jb k hk).1, by dsimp only; rw [gU_n (by omega)]; exact (jb k hk).2⟩) (fun μ1 H1 R1 n9 n11 n48 bx1 => ?_)
    have R1' : μ1.2.2 = gU (gU (gU μ.2.2 (β + 3) 1 (β + qd)) β 8 (β + q)) β 7 (β + qd) := by rw [R1, ← F0.2.2]
    have irf2 := gI_rf_n hq hqd irf
    rw [← R1'] at irf2
    have hR1 : gPS μ1.2.2 β := by
      rw [R1']
      intro e he
      have e1 : gPtF.all (fun e => !(e.1 == 0 && (e.2.1 == 7 || e.2.1 == 8))) = true := by decide +kernel
      have := (List.all_eq_true.mp e1) e he
      have hne : ¬ (e.1 = 0 ∧ (e.2.1 = 7 ∨ e.2.1 = 8)) := by
        intro z
        obtain ⟨z1, z2⟩ := z
        rw [z1] at this
        rcases z2 with z2 | z2 <;> rw [z2] at this <;> simp at this
      rw [gU_n (by omega), gU_n (by omega)]
      exact hR' e he
    have hR := hR1
    simp (disch := omega) only [↓n_gb, ↓n_gb0, ↓n_ic, ↓n_icm, ↓n_lc, ↓e_lc, ↓e_null, ↓e_ldI, ↓e_ldL, ↓e_ldA, ↓e_stI, ↓e_stL, ↓e_stA, ↓n_inc, ↓n_incm1, ↓n_incm8, ↓e_iadd, ↓e_isub, ↓e_imul, ↓e_iand, ↓e_ior, ↓e_ixor, ↓n_ishl, ↓n_ishr, ↓e_iushr, ↓n_idiv, ↓e_ineg, ↓e_ladd, ↓e_lsub, ↓e_lmul, ↓e_lor, ↓e_lshl, ↓e_lshr, ↓e_i2l, ↓e_l2i, ↓e_i2b, ↓e_lcmp, ↓e_dup, ↓e_dup2, ↓e_pop, ↓e_ceq, ↓e_cne, ↓e_clt, ↓e_cge, ↓e_cgt, ↓e_cle, ↓n_zeq, ↓n_zne, ↓n_zlt, ↓n_zge, ↓n_zgt, ↓n_zle, ↓e_goto, ↓e_nn, ↓e_retI, ↓e_retL, ↓e_retV, ↓n_retZ, ↓e_retA, ↓e_gfI, ↓e_gfL, ↓e_gfR, ↓e_pfI, ↓n_pfZ, ↓e_pfL, ↓e_pfR, ↓e_iald, ↓e_lald, ↓e_aald, ↓e_alen, ↓e_iast, ↓e_bast, ↓n_zast, ↓e_last, ↓e_aast, ↓e_cV, ↓e_cS, ↓e_gsW, ↓e_gsK, ↓e_mmax, ↓e_mmin, ↓e_mmaxL, ↓e_mminL, gEnt, gPad, gArgs, gGet, gS1, gS2, gCl, gNo, gSp, gCt, n_sw, n_gSw, n_gSw0, Option.toList, List.cons_append, List.nil_append, Value.category, and_true, true_and, and_self, not_false_eq_true, not_true_eq_false, Nat.reduceAdd, Nat.reduceSub, Nat.reduceMul, Nat.reduceLeDiff, Nat.reduceLT, Nat.reduceEqDiff, forall_const, true_implies, false_implies, implies_true, Nat.zero_add, Option.some.injEq, Sum.inr.injEq, Sum.inl.injEq, Prod.mk.injEq, exists_eq_left', exists_eq_left, w_ne0, nI_add, w_lt, w_le, w_eq, w_meq, w_eqm, w_mlt, w_ltm, w_mle, w_lem, w_clamp, w_in, w_31, w_ite0, w_ite1, w_ite01, true_or, or_true, false_or, or_false, Nat.le_refl, Nat.lt_irrefl, S_0 hS, S_1 hS, S_3 hS, R_0_0 hR, R_0_1 hR]
    refine b_X10_read_32 hX ?_
    simp (disch := omega) only [B_X10_read_32, ↓n_gb, ↓n_gb0, ↓n_ic, ↓n_icm, ↓n_lc, ↓e_lc, ↓e_null, ↓e_ldI, ↓e_ldL, ↓e_ldA, ↓e_stI, ↓e_stL, ↓e_stA, ↓n_inc, ↓n_incm1, ↓n_incm8, ↓e_iadd, ↓e_isub, ↓e_imul, ↓e_iand, ↓e_ior, ↓e_ixor, ↓n_ishl, ↓n_ishr, ↓e_iushr, ↓n_idiv, ↓e_ineg, ↓e_ladd, ↓e_lsub, ↓e_lmul, ↓e_lor, ↓e_lshl, ↓e_lshr, ↓e_i2l, ↓e_l2i, ↓e_i2b, ↓e_lcmp, ↓e_dup, ↓e_dup2, ↓e_pop, ↓e_ceq, ↓e_cne, ↓e_clt, ↓e_cge, ↓e_cgt, ↓e_cle, ↓n_zeq, ↓n_zne, ↓n_zlt, ↓n_zge, ↓n_zgt, ↓n_zle, ↓e_goto, ↓e_nn, ↓e_retI, ↓e_retL, ↓e_retV, ↓n_retZ, ↓e_retA, ↓e_gfI, ↓e_gfL, ↓e_gfR, ↓e_pfI, ↓n_pfZ, ↓e_pfL, ↓e_pfR, ↓e_iald, ↓e_lald, ↓e_aald, ↓e_alen, ↓e_iast, ↓e_bast, ↓n_zast, ↓e_last, ↓e_aast, ↓e_cV, ↓e_cS, ↓e_gsW, ↓e_gsK, ↓e_mmax, ↓e_mmin, ↓e_mmaxL, ↓e_mminL, gEnt, gPad, gArgs, gGet, gS1, gS2, gCl, gNo, gSp, gCt, n_sw, n_gSw, n_gSw0, Option.toList, List.cons_append, List.nil_append, Value.category, and_true, true_and, and_self, not_false_eq_true, not_true_eq_false, Nat.reduceAdd, Nat.reduceSub, Nat.reduceMul, Nat.reduceLeDiff, Nat.reduceLT, Nat.reduceEqDiff, forall_const, true_implies, false_implies, implies_true, Nat.zero_add, Option.some.injEq, Sum.inr.injEq, Sum.inl.injEq, Prod.mk.injEq, exists_eq_left', exists_eq_left, w_ne0, nI_add, w_lt, w_le, w_eq, w_meq, w_eqm, w_mlt, w_ltm, w_mle, w_lem, w_clamp, w_in, w_31, w_ite0, w_ite1, w_ite01, true_or, or_true, false_or, or_false, Nat.le_refl, Nat.lt_irrefl, S_0 hS, S_1 hS, S_3 hS, R_0_0 hR, R_0_1 hR]
    have A1 : ∀ a i, ¬ (a = β ∧ (i = 9 ∨ i = 11)) → ¬ (a = β + 1 ∧ i = 1) → ¬ (a = β + 3 ∧ 2 ≤ i ∧ i ≤ 4) → ¬ (a = β + 4 ∧ i = 3) → a ≠ β + 5 → a ≠ β + 6 → ¬ (β + 19 ≤ a ∧ a ≤ β + 36) → ¬ (a = β + 48 ∧ i = 2) → ¬ (β + qd ≤ a ∧ a ≤ β + (qd + 25)) → μ1.1 a i = μ.1 a i := fun a i x1 x2 x3 x4 x5 x6 x7 x8 x9 => by
      rw [H1.1 a i x1 x8 x7]
      dsimp only
      rw [gU_n (by omega), F0.1 a i x3 x4 x5 x6 (by omega) (by omega) (by omega)]
    have A1L : ∀ a i, a ≠ β + 7 → ¬ (β + 19 ≤ a ∧ a ≤ β + 36) → ¬ (β + (qd + 8) ≤ a ∧ a ≤ β + (qd + 25)) → μ1.2.1 a i = μ.2.1 a i := fun a i x1 x2 x3 => by
      rw [H1.2 a i x2]
      exact F0.2.1 a i x1 x3
    refine hP _ _ (fun j => by rw [A1 _ _ (by omega) (by omega) (by omega) (by omega) (by omega) (by omega) (by omega) (by omega) (by omega)]; exact hs j) (fun P2 hP2 => ?_)
    refine k_mRead (h := 94) (lv := lv) (N := N) (sz := sz) (b := bb) hS hR1 hN (by rw [A1 _ _ (by omega) (by omega) (by omega) (by omega) (by omega) (by omega) (by omega) (by omega) (by omega)]; exact c2) b1 b0 (fun i hi => by rw [A1 _ _ (by omega) (by omega) (by omega) (by omega) (by omega) (by omega) (by omega) (by omega) (by omega), ← c3 i hi]; exact bt i hi) (gI_ky_c (fun a j hD => by unfold gD_ky at hD; exact ⟨A1 _ _ (by omega) (by omega) (by omega) (by omega) (by omega) (by omega) (by omega) (by omega) (by omega), A1L _ _ (by omega) (by omega) (by omega)⟩) iky) hlv (by rw [A1 _ _ (by omega) (by omega) (by omega) (by omega) (by omega) (by omega) (by omega) (by omega) (by omega)]; exact h18) hE (fun μ2 _ z => absurd cf z) (fun μa μ2 Fa Fm _ p17 p2 _ ec er l118 l119 q18 q65 q80 mb => hP2 _ ?_)
    rw [show 1 - lv = sd by omega] at Fa ec er l118 l119 q18
    -- the two frames behind
    have A2 : ∀ a i, a < β + 110 ∨ a = β + 117 ∨ (β + 135 ≤ a ∧ a ≤ β + 141) ∨ (a = β + 110 ∧ 41 ≤ i ∧ i ≤ 54) → μ2.1 a i = μ1.1 a i := fun a i hD => by
      rw [Fm.1 a i (by omega) (by omega) (by omega) (by omega) (by omega) (by omega) (by omega), Fa.1 a i (by omega) (by omega) (by omega) (by omega) (by omega) (by omega) (by omega)]
    have A2L : ∀ a i, a < β + 110 ∨ a = β + 117 ∨ (β + 135 ≤ a ∧ a ≤ β + 141) ∨ (a = β + 110 ∧ 41 ≤ i ∧ i ≤ 54) → μ2.2.1 a i = μ1.2.1 a i := fun a i hD => by
      rw [Fm.2.1 a i (by omega) (by omega), Fa.2.1 a i (by omega) (by omega) (by omega)]
    have G1 : ∀ a j, (8 ≤ a ∧ a ≤ 15) ∨ a = 117 ∨ (135 ≤ a ∧ a ≤ 141) ∨ (a = 110 ∧ 41 ≤ j ∧ j ≤ 54) → μ2.1 (β + a) j = μ.1 (β + a) j := fun a j hD => by
      rw [A2 _ _ (by omega), A1 _ _ (by omega) (by omega) (by omega) (by omega) (by omega) (by omega) (by omega) (by omega) (by omega)]
    have G2 : ∀ a j, (8 ≤ a ∧ a ≤ 15) ∨ a = 117 ∨ (135 ≤ a ∧ a ≤ 141) ∨ (a = 110 ∧ 41 ≤ j ∧ j ≤ 54) → μ2.2.1 (β + a) j = μ.2.1 (β + a) j := fun a j hD => by
      rw [A2L _ _ (by omega), A1L _ _ (by omega) (by omega) (by omega)]
    have R2 : μ2.2.2 = μ1.2.2 := Fm.2.2.trans Fa.2.2
    have Sm : dSame β qd μ0 μ2 := fun a i hD => by
      rw [A2 _ _ (by omega), H1.1 a i (by omega) (by omega) (by omega)]
      dsimp only
      rw [gU_n (by omega)]
    have dt2 := dTl_c Sm dt
    have hTl : (rdA (nK bb N sz) 19 0 0 0 0).2.2.1.length ≤ 18 := by
      obtain ⟨t1, t2, t3, -⟩ := dt
      omega
    have dc2 := dCk_c hTl Sm dc
    have bx2 : ∀ k, k < zB (zF (nK bb N sz) (tQ bb N) (fun p => tVl bb N (tQ bb N p)) 19 0 g0Z) → dBx β (β + (qd + 8 + jj k)) t k (gU μ0.1 (β + 1) 1 (nI 0), μ0.2) μ2 := fun k hk => by
      obtain ⟨u1, u2, u3, u4, u5, u6⟩ := bx1 k hk
      refine ⟨fun i hi => ?_, ?_, ?_, ?_, ?_, fun u hu => ?_⟩
      · rw [A2 _ _ (by omega)]; exact u1 i hi
      · rw [A2 _ _ (by omega)]; exact u2
      · rw [A2 _ _ (by omega)]; exact u3
      · rw [A2 _ _ (by omega)]; exact u4
      · rw [A2 _ _ (by omega)]; exact u5
      · rw [A2 _ _ (by omega), A2L _ _ (by omega)]; exact u6 u hu
    have bt2 : dBt β (fun p => tVl bb N (tQ bb N p)) (zF (nK bb N sz) (tQ bb N) (fun p => tVl bb N (tQ bb N p)) 19 0 g0Z) (rdA (nK bb N sz) 19 0 0 0 0).2.2.1 μ2 := fun k hk => by
      obtain ⟨x, x1, x2, x3⟩ := hjj k hk
      obtain ⟨u1, -⟩ := bx2 k hk
      obtain ⟨v4, v5, v6, v7, v8⟩ := dc.1 _ _ x1 x2
      obtain ⟨-, -, -, v9, v10, -⟩ := dt.2.2.2.2.2.2 _ _ x1
      rw [x3] at v8
      have gu : ∀ i, (gU μ0.1 (β + 1) 1 (nI 0)) (β + (qd + 8 + jj k)) i = μ0.1 (β + (qd + 8 + jj k)) i := fun i => gU_n (by omega)
      refine ⟨jj k, x, x1, x2, x3, ?_, ?_, ?_, ?_, ?_, ?_, ?_⟩
      · rw [u1 0 (by omega)]; dsimp only; rw [gu]; exact v4
      · rw [u1 1 (by omega)]; dsimp only; rw [gu]; exact v5
      · rw [u1 2 (by omega)]; dsimp only; rw [gu]; exact v6
      · rw [u1 3 (by omega)]; dsimp only; rw [gu]; exact v7
      · rw [u1 4 (by omega)]; dsimp only; rw [gu]; exact v8
      · rw [u1 5 (by omega)]; dsimp only; rw [gu]; exact v9
      · rw [u1 6 (by omega)]; dsimp only; rw [gu]; exact v10
    have ec2 := eC_c (μ' := μ2) (Fm.1 _ _ (by omega) (by omega) (by omega) (by omega) (by omega) (by omega) (by omega)) (fun i => Fm.1 _ _ (by omega) (by omega) (by omega) (by omega) (by omega) (by omega) (by omega)) (fun i => Fm.1 _ _ (by omega) (by omega) (by omega) (by omega) (by omega) (by omega) (by omega)) ec
    have er2 := eRc_c (μ' := μ2) (fun a i z1 z2 => Fm.1 _ _ (by omega) (by omega) (by omega) (by omega) (by omega) (by omega) (by omega)) er
    have l2 : μ2.1 (β + 118) sd = nI (zL (zF (nK bb N sz) (tQ bb N) (fun p => tVl bb N (tQ bb N p)) 19 0 g0Z)) := by rw [Fm.1 _ _ (by omega) (by omega) (by omega) (by omega) (by omega) (by omega) (by omega)]; exact l118
    have h112 : μ2.1 (β + qd) 11 = nI (rdA (nK bb N sz) 19 0 0 0 0).2.2.2.length := by rw [Sm _ _ (by omega)]; exact h11
    have nw : ∀ k, k < zB (zF (nK bb N sz) (tQ bb N) (fun p => tVl bb N (tQ bb N p)) 19 0 g0Z) → gI_lk β t k μ2 ∧ gI_hs β t k μ2 ∧ gI_fx β k μ2 := fun k hk => ok_new ht (bx2 k hk) (mb k (by omega))
    refine ⟨fun j => ?_, by rw [R2]; exact hR1, gI_ky_c (fun a j hD => by unfold gD_ky at hD; exact ⟨G1 _ _ (by omega), G2 _ _ (by omega)⟩) iky, ⟨0, by omega, ?_, ?_, fun j hj => by omega⟩, ?_, gI_sr_c (fun a j hD => by unfold gD_sr at hD; exact ⟨G1 _ _ (by omega), G2 _ _ (by omega)⟩) isr, gI_fa_c (fun a j hD => by unfold gD_fa at hD; exact ⟨G1 _ _ (by omega), G2 _ _ (by omega)⟩) ifa, gI_do_c (fun a j hD => by unfold gD_do at hD; exact ⟨G1 _ _ (by omega), G2 _ _ (by omega)⟩) ido, gI_as_c (fun a j hD => by unfold gD_as at hD; exact ⟨G1 _ _ (by omega), G2 _ _ (by omega)⟩) ias, t, zB (zF (nK bb N sz) (tQ bb N) (fun p => tVl bb N (tQ bb N p)) 19 0 g0Z), sd, qd, by rw [R2]; exact irf2, ⟨ht, dB, by omega, ?_, ?_, ?_, q18, ?_⟩, fun k hk => ok_bx y2 er2 bt2 hk, fun k hk => (nw k hk).1, fun k hk => (nw k hk).2.1, fun k hk => (nw k hk).2.2, ok_ov (fun k hk => (bx2 k hk).2.2.2.2.1), ok_sc y1 y2 y3 dt2 dc2 h112 hC ec2 er2 l2 bt2, ⟨0, by omega, ?_, q65, fun z => absurd rfl z⟩, ⟨0, by omega, ?_, q80, fun z => by omega⟩⟩
    · rw [A2 _ _ (by omega), A1 _ _ (by omega) (by omega) (by omega) (by omega) (by omega) (by omega) (by omega) (by omega) (by omega)]; exact hs j
    · rw [A2 _ _ (by omega), H1.1 _ _ (by omega) (by omega) (by omega)]; exact gU_s
    · rw [Fm.1 _ _ (by omega) (by omega) (by omega) (by omega) (by omega) (by omega) (by omega)]; exact p2
    · show μ2.1 (β + 3) 4 = μ2.1 (β + 110) 17
      rw [A2 _ _ (by omega), H1.1 _ _ (by omega) (by omega) (by omega), Fm.1 _ _ (by omega) (by omega) (by omega) (by omega) (by omega) (by omega) (by omega), p17]
      dsimp only
      rw [gU_n (by omega)]
      exact w4 cf
    · show μ2.1 β 10 = nI t
      rw [A2 _ _ (by omega), A1 _ _ (by omega) (by omega) (by omega) (by omega) (by omega) (by omega) (by omega) (by omega) (by omega)]; exact h10
    · rw [G1 _ _ (by omega)]; exact h51
    · show μ2.1 β 9 = nI _
      rw [A2 _ _ (by omega)]; exact n9
    · rw [Fm.1 _ _ (by omega) (by omega) (by omega) (by omega) (by omega) (by omega) (by omega)]; exact l119
    · rw [A2 _ _ (by omega)]; exact n48
    · show μ2.1 β 11 = nI 0
      rw [A2 _ _ (by omega)]; exact n11
  · simp (disch := omega) only [↓n_gb, ↓n_gb0, ↓n_ic, ↓n_icm, ↓n_lc, ↓e_lc, ↓e_null, ↓e_ldI, ↓e_ldL, ↓e_ldA, ↓e_stI, ↓e_stL, ↓e_stA, ↓n_inc, ↓n_incm1, ↓n_incm8, ↓e_iadd, ↓e_isub, ↓e_imul, ↓e_iand, ↓e_ior, ↓e_ixor, ↓n_ishl, ↓n_ishr, ↓e_iushr, ↓n_idiv, ↓e_ineg, ↓e_ladd, ↓e_lsub, ↓e_lmul, ↓e_lor, ↓e_lshl, ↓e_lshr, ↓e_i2l, ↓e_l2i, ↓e_i2b, ↓e_lcmp, ↓e_dup, ↓e_dup2, ↓e_pop, ↓e_ceq, ↓e_cne, ↓e_clt, ↓e_cge, ↓e_cgt, ↓e_cle, ↓n_zeq, ↓n_zne, ↓n_zlt, ↓n_zge, ↓n_zgt, ↓n_zle, ↓e_goto, ↓e_nn, ↓e_retI, ↓e_retL, ↓e_retV, ↓n_retZ, ↓e_retA, ↓e_gfI, ↓e_gfL, ↓e_gfR, ↓e_pfI, ↓n_pfZ, ↓e_pfL, ↓e_pfR, ↓e_iald, ↓e_lald, ↓e_aald, ↓e_alen, ↓e_iast, ↓e_bast, ↓n_zast, ↓e_last, ↓e_aast, ↓e_cV, ↓e_cS, ↓e_gsW, ↓e_gsK, ↓e_mmax, ↓e_mmin, ↓e_mmaxL, ↓e_mminL, gEnt, gPad, gArgs, gGet, gS1, gS2, gCl, gNo, gSp, gCt, n_sw, n_gSw, n_gSw0, Option.toList, List.cons_append, List.nil_append, Value.category, and_true, true_and, and_self, not_false_eq_true, not_true_eq_false, Nat.reduceAdd, Nat.reduceSub, Nat.reduceMul, Nat.reduceLeDiff, Nat.reduceLT, Nat.reduceEqDiff, forall_const, true_implies, false_implies, implies_true, Nat.zero_add, Option.some.injEq, Sum.inr.injEq, Sum.inl.injEq, Prod.mk.injEq, exists_eq_left', exists_eq_left, w_ne0, nI_add, w_lt, w_le, w_eq, w_meq, w_eqm, w_mlt, w_ltm, w_mle, w_lem, w_clamp, w_in, w_31, w_ite0, w_ite1, w_ite01, true_or, or_true, false_or, or_false, Nat.le_refl, Nat.lt_irrefl, S_0 hS, S_1 hS, S_3 hS, R_0_0 hR, R_0_1 hR, cf]
    refine b_X10_read_32 hX ?_
    simp (disch := omega) only [B_X10_read_32, ↓n_gb, ↓n_gb0, ↓n_ic, ↓n_icm, ↓n_lc, ↓e_lc, ↓e_null, ↓e_ldI, ↓e_ldL, ↓e_ldA, ↓e_stI, ↓e_stL, ↓e_stA, ↓n_inc, ↓n_incm1, ↓n_incm8, ↓e_iadd, ↓e_isub, ↓e_imul, ↓e_iand, ↓e_ior, ↓e_ixor, ↓n_ishl, ↓n_ishr, ↓e_iushr, ↓n_idiv, ↓e_ineg, ↓e_ladd, ↓e_lsub, ↓e_lmul, ↓e_lor, ↓e_lshl, ↓e_lshr, ↓e_i2l, ↓e_l2i, ↓e_i2b, ↓e_lcmp, ↓e_dup, ↓e_dup2, ↓e_pop, ↓e_ceq, ↓e_cne, ↓e_clt, ↓e_cge, ↓e_cgt, ↓e_cle, ↓n_zeq, ↓n_zne, ↓n_zlt, ↓n_zge, ↓n_zgt, ↓n_zle, ↓e_goto, ↓e_nn, ↓e_retI, ↓e_retL, ↓e_retV, ↓n_retZ, ↓e_retA, ↓e_gfI, ↓e_gfL, ↓e_gfR, ↓e_pfI, ↓n_pfZ, ↓e_pfL, ↓e_pfR, ↓e_iald, ↓e_lald, ↓e_aald, ↓e_alen, ↓e_iast, ↓e_bast, ↓n_zast, ↓e_last, ↓e_aast, ↓e_cV, ↓e_cS, ↓e_gsW, ↓e_gsK, ↓e_mmax, ↓e_mmin, ↓e_mmaxL, ↓e_mminL, gEnt, gPad, gArgs, gGet, gS1, gS2, gCl, gNo, gSp, gCt, n_sw, n_gSw, n_gSw0, Option.toList, List.cons_append, List.nil_append, Value.category, and_true, true_and, and_self, not_false_eq_true, not_true_eq_false, Nat.reduceAdd, Nat.reduceSub, Nat.reduceMul, Nat.reduceLeDiff, Nat.reduceLT, Nat.reduceEqDiff, forall_const, true_implies, false_implies, implies_true, Nat.zero_add, Option.some.injEq, Sum.inr.injEq, Sum.inl.injEq, Prod.mk.injEq, exists_eq_left', exists_eq_left, w_ne0, nI_add, w_lt, w_le, w_eq, w_meq, w_eqm, w_mlt, w_ltm, w_mle, w_lem, w_clamp, w_in, w_31, w_ite0, w_ite1, w_ite01, true_or, or_true, false_or, or_false, Nat.le_refl, Nat.lt_irrefl, S_0 hS, S_1 hS, S_3 hS, R_0_0 hR, R_0_1 hR]
    have A1 : ∀ a i, ¬ (a = β + 1 ∧ i = 1) → ¬ (a = β + 3 ∧ 2 ≤ i ∧ i ≤ 4) → ¬ (a = β + 4 ∧ i = 3) → a ≠ β + 5 → a ≠ β + 6 → ¬ (a = β + qd ∧ 8 ≤ i ∧ i ≤ 11) → ¬ (β + (qd + 2) ≤ a ∧ a ≤ β + (qd + 5)) → ¬ (β + (qd + 8) ≤ a ∧ a ≤ β + (qd + 25)) → (gU μ0.1 (β + 1) 1 (nI 0)) a i = μ.1 a i := fun a i x1 x2 x3 x4 x5 x6 x7 x8 => by
      rw [gU_n (by omega), F0.1 a i x2 x3 x4 x5 x6 x7 x8]
    refine hP _ _ (fun j => by dsimp only; rw [A1 _ _ (by omega) (by omega) (by omega) (by omega) (by omega) (by omega) (by omega) (by omega)]; exact hs j) (fun P2 hP2 => ?_)
    refine k_mRead (h := 94) (lv := lv) (N := N) (sz := sz) (b := bb) (μ := (gU μ0.1 (β + 1) 1 (nI 0), μ0.2)) hS hR hN (by dsimp only; rw [A1 _ _ (by omega) (by omega) (by omega) (by omega) (by omega) (by omega) (by omega) (by omega)]; exact c2) b1 b0 (fun i hi => by dsimp only; rw [A1 _ _ (by omega) (by omega) (by omega) (by omega) (by omega) (by omega) (by omega) (by omega), ← c3 i hi]; exact bt i hi) (gI_ky_c (fun a j hD => by unfold gD_ky at hD; exact ⟨A1 _ _ (by omega) (by omega) (by omega) (by omega) (by omega) (by omega) (by omega) (by omega), F0.2.1 _ _ (by omega) (by omega)⟩) iky) hlv (by dsimp only; rw [A1 _ _ (by omega) (by omega) (by omega) (by omega) (by omega) (by omega) (by omega) (by omega)]; exact h18) hE (fun μ2 Fa _ p17 p2 => hP2 _ ?_) (fun _ _ _ _ z => absurd z cf)
    rw [show 1 - lv = sd by omega] at Fa
    have R2 : μ2.2.2 = gU μ.2.2 (β + 3) 1 (β + qd) := Fa.2.2.trans F0.2.2
    refine read_fail (μ := μ) (t := t) (n := n) (lv := lv) (sd := sd) (q := q) (qd := qd) (fun j => ?_) (by rw [R2]; exact hR') ⟨0, by omega, ?_, p2, fun j hj => by omega⟩ ?_ (by rw [R2]; exact gI_rf_3 hq irf) hq hqd hsd iky isr ifa ido ias ihd ibx ilk ihs ifx iov isc ipl ily (fun a j hD => ?_) (fun a j hD => ?_)
    · rw [Fa.1 _ _ (by omega) (by omega) (by omega) (by omega) (by omega) (by omega) (by omega)]
      dsimp only
      rw [A1 _ _ (by omega) (by omega) (by omega) (by omega) (by omega) (by omega) (by omega) (by omega)]; exact hs j
    · rw [Fa.1 _ _ (by omega) (by omega) (by omega) (by omega) (by omega) (by omega) (by omega)]
      exact gU_s
    · show μ2.1 (β + 3) 4 = μ2.1 (β + 110) 17
      rw [p17, Fa.1 _ _ (by omega) (by omega) (by omega) (by omega) (by omega) (by omega) (by omega)]
      dsimp only
      rw [gU_n (by omega)]
      exact w6 cf
    · rw [Fa.1 _ _ (by omega) (by omega) (by omega) (by omega) (by omega) (by omega) (by omega)]
      dsimp only
      rw [A1 _ _ (by omega) (by omega) (by omega) (by omega) (by omega) (by omega) (by omega) (by omega)]
    · rw [Fa.2.1 _ _ (by omega) (by omega) (by omega)]
      exact F0.2.1 _ _ (by omega) (by omega)
