/-! LAYING, the class: layFree -/
theorem w_1s : ∀ k : Nat, k < 31 → nI 1 <<< nI k = nI (1 <<< k) := by decide +kernel
theorem w_tb {m k : Nat} (hm : m < 2147483648) (hk : k < 32) : (nI m >>> nI k &&& nI 1 = nI 0) = (m.testBit k = false) := by
  have h1 : m >>> k &&& 1 < 2147483648 := Nat.lt_of_le_of_lt Nat.and_le_right (by omega)
  rw [w_shr hm hk, w_and, w_eq h1 (by omega), w_bit]
theorem gAn_1 (m k j : Nat) : (gAn m (1 <<< k)).testBit j = (m.testBit j && !decide (k = j)) := by
  rw [gAn_bit, Nat.one_shiftLeft, Nat.testBit_two_pow]
theorem gLst_n {m n : Nat} (h : ∀ k, m.testBit k = true → k < n) : ∀ d, gLst m (n + d) = gLst m n
  | 0 => rfl
  | d + 1 => by
    rw [show n + (d + 1) = (n + d) + 1 by omega, gLst_s, gLst_n h d]
    have : ¬ m.testBit (n + d) = true := fun q => by have := h _ q; omega
    rw [if_neg this, List.append_nil]
theorem gLst_len {m k f : Nat} (hm : m < 64) (hk : k < 6) (h : m.testBit k = true) (hl : (gLst m 6).length = f + 1) : (gLst (gAn m (1 <<< k)) 6).length = f := by
  have key : ∀ (m : Fin 64) (k : Fin 6), m.val.testBit k.val = true → (gLst (gAn m.val (1 <<< k.val)) 6).length + 1 = (gLst m.val 6).length := by decide +kernel
  have := key ⟨m, hm⟩ ⟨k, hk⟩ h
  dsimp only at this
  omega
theorem gAn_lt {m k : Nat} (hm : m < 64) (hk : k < 6) : gAn m (1 <<< k) < 64 := by
  have key : ∀ (m : Fin 64) (k : Fin 6), gAn m.val (1 <<< k.val) < 64 := by decide +kernel
  exact key ⟨m, hm⟩ ⟨k, hk⟩
theorem gLst_0 {m : Nat} (hm : m < 64) (hl : (gLst m 6).length = 0) : m = 0 := by
  have key : ∀ (m : Fin 64), (gLst m.val 6).length = 0 → m.val = 0 := by decide +kernel
  exact key ⟨m, hm⟩ hl
theorem gLst_1 {m f : Nat} (hl : (gLst m 6).length = f + 1) : m ≠ 0 := by
  intro h
  subst h
  have : (gLst 0 6).length = 0 := by decide +kernel
  omega
theorem gXo {x y : Nat} (h : x &&& y = 0) : x ^^^ y = x ||| y := by
  refine Nat.eq_of_testBit_eq (fun i => ?_)
  have := congrArg (fun z => z.testBit i) h
  simp only [Nat.testBit_and, Nat.zero_testBit] at this
  simp only [Nat.testBit_xor, Nat.testBit_or]
  cases h1 : x.testBit i <;> cases h2 : y.testBit i <;> simp_all
theorem gXx (x y : Int32) : x ^^^ y ^^^ y = x := by
  rw [Int32.xor_assoc, Int32.xor_self, Int32.xor_zero]
/-- what stays while boxes are laid -/
def gLA (β n w : Nat) (W D G : Nat → Nat) (μ : gM) : Prop := μ.2.2 (β + 50) 0 = β + 18 ∧ μ.1 (β + 50) 6 = nI n ∧ μ.1 (β + 50) 7 = nI w ∧ ∀ k, k < n → μ.1 (β + (19 + 3 * k)) 0 = nI (W k) ∧ μ.1 (β + (19 + 3 * k)) 2 = nI (D k) ∧ μ.1 (β + (19 + 3 * k)) 3 = nI (G k) ∧ W k ≤ 1000 ∧ 1 ≤ D k ∧ D k ≤ w ∧ 1 ≤ G k ∧ G k ≤ 6
def gBp (β n : Nat) (B : gBs) (μ : gM) : Prop := μ.1 (β + 50) 8 = nI B.1 ∧ μ.1 (β + 50) 9 = nI B.2.1 ∧ B.1 < 2147483648 ∧ B.2.1 < 2147483648 ∧ (B.1 ≠ 2147483647 → ∀ k, k < n → μ.1 (β + 54) k = nI (B.2.2.1 k) ∧ μ.1 (β + 55) k = nI (B.2.2.2 k))
def gLR (β n m : Nat) (B : gBs) (μ μ' : gM) : Prop := μ'.2 = μ.2 ∧ (∀ a i, (a ≠ β + 51 ∧ a ≠ β + 52 ∧ a ≠ β + 53 ∧ a ≠ β + 54 ∧ a ≠ β + 55 ∧ ¬ (a = β + 50 ∧ (i = 8 ∨ i = 9))) → μ'.1 a i = μ.1 a i) ∧ (∀ i, i < 80 → μ'.1 (β + 51) i = μ.1 (β + 51) i) ∧ (∀ k, k < n → m.testBit k = false → μ'.1 (β + 52) k = μ.1 (β + 52) k ∧ μ'.1 (β + 53) k = μ.1 (β + 53) k) ∧ gBp β n B μ'
theorem gLA_c {β n w : Nat} {W D G : Nat → Nat} {μ μ' : gM} (hn : n ≤ 6) (h2 : μ'.2 = μ.2) (h1 : ∀ a i, (a ≠ β + 51 ∧ a ≠ β + 52 ∧ a ≠ β + 53 ∧ a ≠ β + 54 ∧ a ≠ β + 55 ∧ ¬ (a = β + 50 ∧ (i = 8 ∨ i = 9))) → μ'.1 a i = μ.1 a i) (H : gLA β n w W D G μ) : gLA β n w W D G μ' := by
  obtain ⟨a1, a2, a3, a4⟩ := H
  refine ⟨by rw [h2]; exact a1, by rw [h1 _ _ (by omega)]; exact a2, by rw [h1 _ _ (by omega)]; exact a3, fun k hk => ?_⟩
  rw [h1 _ _ (by omega), h1 _ _ (by omega), h1 _ _ (by omega)]
  exact a4 k hk
set_option maxHeartbeats 4000000 in
theorem k_layFree {S : gSh} {β n w : Nat} {W D G : Nat → Nat} (hS : gLS S β) (hn : n ≤ 6) (hw8 : w ≤ 8) : ∀ (f m : Nat), (gLst m 6).length = f → m < 64 → (∀ k, m.testBit k = true → k < n) → ∀ (h ht sm : Nat) (tk rw cl : Nat → Nat) (B : gBs) (μ : gM) (P : gP), gPS μ.2.2 β → gLA β n w W D G μ → gBp β n B μ → (∀ i, i < 80 → μ.1 (β + 51) i = nI (tk i)) → (∀ i, ht ≤ i → tk i = 0) → ht + 6 * f ≤ 72 → sm + 80000 * f ≤ 2000000 → (∀ k, k < n → m.testBit k = false → μ.1 (β + 52) k = nI (rw k) ∧ μ.1 (β + 53) k = nI (cl k)) → (∀ μ', gLR β n m (gFo W D G w tk ht sm rw cl (gPrm f m) B) μ μ' → P none μ') → gRun S (h + f + 3) 8 [.ref (β + 50), .int (nI m), .int (nI ht), .int (nI sm)] μ P := by
  intro f
  induction f with
  | zero =>
    intro m hl hm hmn h ht sm tk rw cl B μ P hR hA hB htk hz hht hsm hrc hP
    obtain rfl := gLst_0 hm hl
    obtain ⟨b1, b2, b3, b4, b5⟩ := id hB
    obtain ⟨a1, a2, a3, a4⟩ := id hA
    have hrc' : ∀ k, k < n → μ.1 (β + 52) k = nI (rw k) ∧ μ.1 (β + 53) k = nI (cl k) := fun k hk => hrc k hk (Nat.zero_testBit k)
    have skip : (B.1 < ht ∨ (ht = B.1 ∧ B.2.1 ≤ sm)) → P none μ := by
      intro q
      refine hP μ ⟨rfl, fun _ _ _ => rfl, fun _ _ => rfl, fun _ _ _ => ⟨rfl, rfl⟩, ?_⟩
      rw [gFo_skip q]
      exact hB
    refine r_X1_layFree (by simp [lg_sl, Value.category]) (fun X hX => ?_)
    refine b_X1_layFree_0 hX ?_
    simp (disch := omega) only [B_X1_layFree_0, ↓n_gb, ↓n_gb0, ↓n_ic, ↓n_icm, ↓n_lc, ↓e_lc, ↓e_null, ↓e_ldI, ↓e_ldL, ↓e_ldA, ↓e_stI, ↓e_stL, ↓e_stA, ↓n_inc, ↓n_incm1, ↓n_incm8, ↓e_iadd, ↓e_isub, ↓e_imul, ↓e_iand, ↓e_ior, ↓e_ixor, ↓n_ishl, ↓n_ishr, ↓e_iushr, ↓n_idiv, ↓e_ineg, ↓e_ladd, ↓e_lsub, ↓e_lmul, ↓e_lor, ↓e_lshl, ↓e_lshr, ↓e_i2l, ↓e_l2i, ↓e_i2b, ↓e_lcmp, ↓e_dup, ↓e_dup2, ↓e_pop, ↓e_ceq, ↓e_cne, ↓e_clt, ↓e_cge, ↓e_cgt, ↓e_cle, ↓n_zeq, ↓n_zne, ↓n_zlt, ↓n_zge, ↓n_zgt, ↓n_zle, ↓e_goto, ↓e_nn, ↓e_retI, ↓e_retL, ↓e_retV, ↓n_retZ, ↓e_retA, ↓e_gfI, ↓e_gfL, ↓e_gfR, ↓e_pfI, ↓n_pfZ, ↓e_pfL, ↓e_pfR, ↓e_iald, ↓e_lald, ↓e_aald, ↓e_alen, ↓e_iast, ↓e_bast, ↓n_zast, ↓e_last, ↓e_aast, ↓e_cV, ↓e_cS, ↓e_gsW, ↓e_gsK, ↓e_mmax, ↓e_mmin, ↓e_mmaxL, ↓e_mminL, gEnt, gPad, gArgs, gGet, gS1, gS2, gCl, gNo, gSp, gCt, n_sw, n_gSw, n_gSw0, Option.toList, List.cons_append, List.nil_append, Value.category, and_true, true_and, and_self, not_false_eq_true, not_true_eq_false, Nat.reduceAdd, Nat.reduceSub, Nat.reduceMul, Nat.reduceLeDiff, Nat.reduceLT, Nat.reduceEqDiff, forall_const, true_implies, false_implies, implies_true, Nat.zero_add, Option.some.injEq, Sum.inr.injEq, Sum.inl.injEq, Prod.mk.injEq, exists_eq_left', exists_eq_left, w_ne0, nI_add, w_lt, w_le, w_eq, w_meq, w_eqm, w_mlt, w_ltm, w_mle, w_lem, w_clamp, w_in, w_31, w_ite0, w_ite1, w_ite01, true_or, or_true, false_or, or_false, Nat.le_refl, Nat.lt_irrefl, S_50 hS, S_52 hS, R_50_2 hR, bx_S hS, bx_S1 hS, bx_S2 hS, bx_r hR, bx_r1 hR, bx_r2 hR, b1, b2]
    have w24 : (B.1 < ht ∨ (ht = B.1 ∧ B.2.1 ≤ sm)) → X 24 μ [some (.ref (β + 50)), some (.int (nI 0)), some (.int (nI ht)), some (.int (nI sm)), none, none] [] := by
      intro q
      refine b_X1_layFree_24 hX ?_
      simp (disch := omega) only [B_X1_layFree_24, ↓n_gb, ↓n_gb0, ↓n_ic, ↓n_icm, ↓n_lc, ↓e_lc, ↓e_null, ↓e_ldI, ↓e_ldL, ↓e_ldA, ↓e_stI, ↓e_stL, ↓e_stA, ↓n_inc, ↓n_incm1, ↓n_incm8, ↓e_iadd, ↓e_isub, ↓e_imul, ↓e_iand, ↓e_ior, ↓e_ixor, ↓n_ishl, ↓n_ishr, ↓e_iushr, ↓n_idiv, ↓e_ineg, ↓e_ladd, ↓e_lsub, ↓e_lmul, ↓e_lor, ↓e_lshl, ↓e_lshr, ↓e_i2l, ↓e_l2i, ↓e_i2b, ↓e_lcmp, ↓e_dup, ↓e_dup2, ↓e_pop, ↓e_ceq, ↓e_cne, ↓e_clt, ↓e_cge, ↓e_cgt, ↓e_cle, ↓n_zeq, ↓n_zne, ↓n_zlt, ↓n_zge, ↓n_zgt, ↓n_zle, ↓e_goto, ↓e_nn, ↓e_retI, ↓e_retL, ↓e_retV, ↓n_retZ, ↓e_retA, ↓e_gfI, ↓e_gfL, ↓e_gfR, ↓e_pfI, ↓n_pfZ, ↓e_pfL, ↓e_pfR, ↓e_iald, ↓e_lald, ↓e_aald, ↓e_alen, ↓e_iast, ↓e_bast, ↓n_zast, ↓e_last, ↓e_aast, ↓e_cV, ↓e_cS, ↓e_gsW, ↓e_gsK, ↓e_mmax, ↓e_mmin, ↓e_mmaxL, ↓e_mminL, gEnt, gPad, gArgs, gGet, gS1, gS2, gCl, gNo, gSp, gCt, n_sw, n_gSw, n_gSw0, Option.toList, List.cons_append, List.nil_append, Value.category, and_true, true_and, and_self, not_false_eq_true, not_true_eq_false, Nat.reduceAdd, Nat.reduceSub, Nat.reduceMul, Nat.reduceLeDiff, Nat.reduceLT, Nat.reduceEqDiff, forall_const, true_implies, false_implies, implies_true, Nat.zero_add, Option.some.injEq, Sum.inr.injEq, Sum.inl.injEq, Prod.mk.injEq, exists_eq_left', exists_eq_left, w_ne0, nI_add, w_lt, w_le, w_eq, w_meq, w_eqm, w_mlt, w_ltm, w_mle, w_lem, w_clamp, w_in, w_31, w_ite0, w_ite1, w_ite01, true_or, or_true, false_or, or_false, Nat.le_refl, Nat.lt_irrefl, S_50 hS, S_52 hS, R_50_2 hR, bx_S hS, bx_S1 hS, bx_S2 hS, bx_r hR, bx_r1 hR, bx_r2 hR]
      exact skip q
    have w25 : ¬ (B.1 < ht ∨ (ht = B.1 ∧ B.2.1 ≤ sm)) → X 25 μ [some (.ref (β + 50)), some (.int (nI 0)), some (.int (nI ht)), some (.int (nI sm)), none, none] [] := by
      intro q
      refine b_X1_layFree_25 hX ?_
      simp (disch := omega) only [B_X1_layFree_25, ↓n_gb, ↓n_gb0, ↓n_ic, ↓n_icm, ↓n_lc, ↓e_lc, ↓e_null, ↓e_ldI, ↓e_ldL, ↓e_ldA, ↓e_stI, ↓e_stL, ↓e_stA, ↓n_inc, ↓n_incm1, ↓n_incm8, ↓e_iadd, ↓e_isub, ↓e_imul, ↓e_iand, ↓e_ior, ↓e_ixor, ↓n_ishl, ↓n_ishr, ↓e_iushr, ↓n_idiv, ↓e_ineg, ↓e_ladd, ↓e_lsub, ↓e_lmul, ↓e_lor, ↓e_lshl, ↓e_lshr, ↓e_i2l, ↓e_l2i, ↓e_i2b, ↓e_lcmp, ↓e_dup, ↓e_dup2, ↓e_pop, ↓e_ceq, ↓e_cne, ↓e_clt, ↓e_cge, ↓e_cgt, ↓e_cle, ↓n_zeq, ↓n_zne, ↓n_zlt, ↓n_zge, ↓n_zgt, ↓n_zle, ↓e_goto, ↓e_nn, ↓e_retI, ↓e_retL, ↓e_retV, ↓n_retZ, ↓e_retA, ↓e_gfI, ↓e_gfL, ↓e_gfR, ↓e_pfI, ↓n_pfZ, ↓e_pfL, ↓e_pfR, ↓e_iald, ↓e_lald, ↓e_aald, ↓e_alen, ↓e_iast, ↓e_bast, ↓n_zast, ↓e_last, ↓e_aast, ↓e_cV, ↓e_cS, ↓e_gsW, ↓e_gsK, ↓e_mmax, ↓e_mmin, ↓e_mmaxL, ↓e_mminL, gEnt, gPad, gArgs, gGet, gS1, gS2, gCl, gNo, gSp, gCt, n_sw, n_gSw, n_gSw0, Option.toList, List.cons_append, List.nil_append, Value.category, and_true, true_and, and_self, not_false_eq_true, not_true_eq_false, Nat.reduceAdd, Nat.reduceSub, Nat.reduceMul, Nat.reduceLeDiff, Nat.reduceLT, Nat.reduceEqDiff, forall_const, true_implies, false_implies, implies_true, Nat.zero_add, Option.some.injEq, Sum.inr.injEq, Sum.inl.injEq, Prod.mk.injEq, exists_eq_left', exists_eq_left, w_ne0, nI_add, w_lt, w_le, w_eq, w_meq, w_eqm, w_mlt, w_ltm, w_mle, w_lem, w_clamp, w_in, w_31, w_ite0, w_ite1, w_ite01, true_or, or_true, false_or, or_false, Nat.le_refl, Nat.lt_irrefl, S_50 hS, S_52 hS, R_50_2 hR, bx_S hS, bx_S1 hS, bx_S2 hS, bx_r hR, bx_r1 hR, bx_r2 hR]
      refine k_keepAsBest hS hR hn a2 ?_
      simp (disch := omega) only [↓n_gb, ↓n_gb0, ↓n_ic, ↓n_icm, ↓n_lc, ↓e_lc, ↓e_null, ↓e_ldI, ↓e_ldL, ↓e_ldA, ↓e_stI, ↓e_stL, ↓e_stA, ↓n_inc, ↓n_incm1, ↓n_incm8, ↓e_iadd, ↓e_isub, ↓e_imul, ↓e_iand, ↓e_ior, ↓e_ixor, ↓n_ishl, ↓n_ishr, ↓e_iushr, ↓n_idiv, ↓e_ineg, ↓e_ladd, ↓e_lsub, ↓e_lmul, ↓e_lor, ↓e_lshl, ↓e_lshr, ↓e_i2l, ↓e_l2i, ↓e_i2b, ↓e_lcmp, ↓e_dup, ↓e_dup2, ↓e_pop, ↓e_ceq, ↓e_cne, ↓e_clt, ↓e_cge, ↓e_cgt, ↓e_cle, ↓n_zeq, ↓n_zne, ↓n_zlt, ↓n_zge, ↓n_zgt, ↓n_zle, ↓e_goto, ↓e_nn, ↓e_retI, ↓e_retL, ↓e_retV, ↓n_retZ, ↓e_retA, ↓e_gfI, ↓e_gfL, ↓e_gfR, ↓e_pfI, ↓n_pfZ, ↓e_pfL, ↓e_pfR, ↓e_iald, ↓e_lald, ↓e_aald, ↓e_alen, ↓e_iast, ↓e_bast, ↓n_zast, ↓e_last, ↓e_aast, ↓e_cV, ↓e_cS, ↓e_gsW, ↓e_gsK, ↓e_mmax, ↓e_mmin, ↓e_mmaxL, ↓e_mminL, gEnt, gPad, gArgs, gGet, gS1, gS2, gCl, gNo, gSp, gCt, n_sw, n_gSw, n_gSw0, Option.toList, List.cons_append, List.nil_append, Value.category, and_true, true_and, and_self, not_false_eq_true, not_true_eq_false, Nat.reduceAdd, Nat.reduceSub, Nat.reduceMul, Nat.reduceLeDiff, Nat.reduceLT, Nat.reduceEqDiff, forall_const, true_implies, false_implies, implies_true, Nat.zero_add, Option.some.injEq, Sum.inr.injEq, Sum.inl.injEq, Prod.mk.injEq, exists_eq_left', exists_eq_left, w_ne0, nI_add, w_lt, w_le, w_eq, w_meq, w_eqm, w_mlt, w_ltm, w_mle, w_lem, w_clamp, w_in, w_31, w_ite0, w_ite1, w_ite01, true_or, or_true, false_or, or_false, Nat.le_refl, Nat.lt_irrefl, S_50 hS, S_52 hS, R_50_2 hR, bx_S hS, bx_S1 hS, bx_S2 hS, bx_r hR, bx_r1 hR, bx_r2 hR]
      have e : gFo W D G w tk ht sm rw cl (gPrm 0 0) B = (ht, sm, rw, cl) := by
        simp only [gPrm, gFo, List.foldl_cons, List.foldl_nil, gRL, gBet]
        exact if_pos (by omega)
      refine hP _ ⟨rfl, fun a i q => ?_, fun i hi => ?_, fun k hk _ => ?_, ?_⟩
      · dsimp only
        rw [gW_n (by omega), gW_n (by omega), gU_n (by omega), gU_n (by omega)]
      · dsimp only
        rw [gW_n (by omega), gW_n (by omega), gU_n (by omega), gU_n (by omega)]
      · dsimp only
        rw [gW_n (by omega), gW_n (by omega), gU_n (by omega), gU_n (by omega), gW_n (by omega), gW_n (by omega), gU_n (by omega), gU_n (by omega)]
        exact ⟨rfl, rfl⟩
      · rw [e]
        refine ⟨?_, ?_, show ht < 2147483648 by omega, show sm < 2147483648 by omega, fun _ k hk => ?_⟩
        · dsimp only
          rw [gW_n (by omega), gW_n (by omega), gU_n (by omega), gU_s]
        · dsimp only
          rw [gW_n (by omega), gW_n (by omega), gU_s]
        · dsimp only
          rw [gW_n (by omega), gW_s, gW_s, if_pos hk, if_pos hk]
          exact hrc' k hk
    exact ⟨fun q => w24 (Or.inl q), fun q => ⟨fun q2 => w25 (by omega), fun q2 => ⟨fun q3 => w25 (by omega), fun q3 => w24 (by omega)⟩⟩⟩
  | succ f ih =>
    intro m hl hm hmn h ht sm tk rw cl B μ P hR hA hB htk hz hht hsm hrc hP
    obtain ⟨b1, b2, b3, b4, b5⟩ := id hB
    obtain ⟨a1, a2, a3, a4⟩ := id hA
    have hm0 : ¬ m = 0 := gLst_1 hl
    have skip : (B.1 < ht ∨ (ht = B.1 ∧ B.2.1 ≤ sm)) → P none μ := by
      intro q
      refine hP μ ⟨rfl, fun _ _ _ => rfl, fun _ _ => rfl, fun _ _ _ => ⟨rfl, rfl⟩, ?_⟩
      rw [gFo_skip q]
      exact hB
    refine r_X1_layFree (by simp [lg_sl, Value.category]) (fun X hX => ?_)
    refine b_X1_layFree_0 hX ?_
    simp (disch := omega) only [B_X1_layFree_0, ↓n_gb, ↓n_gb0, ↓n_ic, ↓n_icm, ↓n_lc, ↓e_lc, ↓e_null, ↓e_ldI, ↓e_ldL, ↓e_ldA, ↓e_stI, ↓e_stL, ↓e_stA, ↓n_inc, ↓n_incm1, ↓n_incm8, ↓e_iadd, ↓e_isub, ↓e_imul, ↓e_iand, ↓e_ior, ↓e_ixor, ↓n_ishl, ↓n_ishr, ↓e_iushr, ↓n_idiv, ↓e_ineg, ↓e_ladd, ↓e_lsub, ↓e_lmul, ↓e_lor, ↓e_lshl, ↓e_lshr, ↓e_i2l, ↓e_l2i, ↓e_i2b, ↓e_lcmp, ↓e_dup, ↓e_dup2, ↓e_pop, ↓e_ceq, ↓e_cne, ↓e_clt, ↓e_cge, ↓e_cgt, ↓e_cle, ↓n_zeq, ↓n_zne, ↓n_zlt, ↓n_zge, ↓n_zgt, ↓n_zle, ↓e_goto, ↓e_nn, ↓e_retI, ↓e_retL, ↓e_retV, ↓n_retZ, ↓e_retA, ↓e_gfI, ↓e_gfL, ↓e_gfR, ↓e_pfI, ↓n_pfZ, ↓e_pfL, ↓e_pfR, ↓e_iald, ↓e_lald, ↓e_aald, ↓e_alen, ↓e_iast, ↓e_bast, ↓n_zast, ↓e_last, ↓e_aast, ↓e_cV, ↓e_cS, ↓e_gsW, ↓e_gsK, ↓e_mmax, ↓e_mmin, ↓e_mmaxL, ↓e_mminL, gEnt, gPad, gArgs, gGet, gS1, gS2, gCl, gNo, gSp, gCt, n_sw, n_gSw, n_gSw0, Option.toList, List.cons_append, List.nil_append, Value.category, and_true, true_and, and_self, not_false_eq_true, not_true_eq_false, Nat.reduceAdd, Nat.reduceSub, Nat.reduceMul, Nat.reduceLeDiff, Nat.reduceLT, Nat.reduceEqDiff, forall_const, true_implies, false_implies, implies_true, Nat.zero_add, Option.some.injEq, Sum.inr.injEq, Sum.inl.injEq, Prod.mk.injEq, exists_eq_left', exists_eq_left, w_ne0, nI_add, w_lt, w_le, w_eq, w_meq, w_eqm, w_mlt, w_ltm, w_mle, w_lem, w_clamp, w_in, w_31, w_ite0, w_ite1, w_ite01, true_or, or_true, false_or, or_false, Nat.le_refl, Nat.lt_irrefl, S_50 hS, S_52 hS, R_50_2 hR, bx_S hS, bx_S1 hS, bx_S2 hS, bx_r hR, bx_r1 hR, bx_r2 hR, b1, b2]
    have w24 : (B.1 < ht ∨ (ht = B.1 ∧ B.2.1 ≤ sm)) → X 24 μ [some (.ref (β + 50)), some (.int (nI m)), some (.int (nI ht)), some (.int (nI sm)), none, none] [] := by
      intro q
      refine b_X1_layFree_24 hX ?_
      simp (disch := omega) only [B_X1_layFree_24, ↓n_gb, ↓n_gb0, ↓n_ic, ↓n_icm, ↓n_lc, ↓e_lc, ↓e_null, ↓e_ldI, ↓e_ldL, ↓e_ldA, ↓e_stI, ↓e_stL, ↓e_stA, ↓n_inc, ↓n_incm1, ↓n_incm8, ↓e_iadd, ↓e_isub, ↓e_imul, ↓e_iand, ↓e_ior, ↓e_ixor, ↓n_ishl, ↓n_ishr, ↓e_iushr, ↓n_idiv, ↓e_ineg, ↓e_ladd, ↓e_lsub, ↓e_lmul, ↓e_lor, ↓e_lshl, ↓e_lshr, ↓e_i2l, ↓e_l2i, ↓e_i2b, ↓e_lcmp, ↓e_dup, ↓e_dup2, ↓e_pop, ↓e_ceq, ↓e_cne, ↓e_clt, ↓e_cge, ↓e_cgt, ↓e_cle, ↓n_zeq, ↓n_zne, ↓n_zlt, ↓n_zge, ↓n_zgt, ↓n_zle, ↓e_goto, ↓e_nn, ↓e_retI, ↓e_retL, ↓e_retV, ↓n_retZ, ↓e_retA, ↓e_gfI, ↓e_gfL, ↓e_gfR, ↓e_pfI, ↓n_pfZ, ↓e_pfL, ↓e_pfR, ↓e_iald, ↓e_lald, ↓e_aald, ↓e_alen, ↓e_iast, ↓e_bast, ↓n_zast, ↓e_last, ↓e_aast, ↓e_cV, ↓e_cS, ↓e_gsW, ↓e_gsK, ↓e_mmax, ↓e_mmin, ↓e_mmaxL, ↓e_mminL, gEnt, gPad, gArgs, gGet, gS1, gS2, gCl, gNo, gSp, gCt, n_sw, n_gSw, n_gSw0, Option.toList, List.cons_append, List.nil_append, Value.category, and_true, true_and, and_self, not_false_eq_true, not_true_eq_false, Nat.reduceAdd, Nat.reduceSub, Nat.reduceMul, Nat.reduceLeDiff, Nat.reduceLT, Nat.reduceEqDiff, forall_const, true_implies, false_implies, implies_true, Nat.zero_add, Option.some.injEq, Sum.inr.injEq, Sum.inl.injEq, Prod.mk.injEq, exists_eq_left', exists_eq_left, w_ne0, nI_add, w_lt, w_le, w_eq, w_meq, w_eqm, w_mlt, w_ltm, w_mle, w_lem, w_clamp, w_in, w_31, w_ite0, w_ite1, w_ite01, true_or, or_true, false_or, or_false, Nat.le_refl, Nat.lt_irrefl, S_50 hS, S_52 hS, R_50_2 hR, bx_S hS, bx_S1 hS, bx_S2 hS, bx_r hR, bx_r1 hR, bx_r2 hR]
      exact skip q
    have w25 : X 25 μ [some (.ref (β + 50)), some (.int (nI m)), some (.int (nI ht)), some (.int (nI sm)), none, none] [] := by
      refine b_X1_layFree_25 hX ?_
      simp (disch := omega) only [B_X1_layFree_25, ↓n_gb, ↓n_gb0, ↓n_ic, ↓n_icm, ↓n_lc, ↓e_lc, ↓e_null, ↓e_ldI, ↓e_ldL, ↓e_ldA, ↓e_stI, ↓e_stL, ↓e_stA, ↓n_inc, ↓n_incm1, ↓n_incm8, ↓e_iadd, ↓e_isub, ↓e_imul, ↓e_iand, ↓e_ior, ↓e_ixor, ↓n_ishl, ↓n_ishr, ↓e_iushr, ↓n_idiv, ↓e_ineg, ↓e_ladd, ↓e_lsub, ↓e_lmul, ↓e_lor, ↓e_lshl, ↓e_lshr, ↓e_i2l, ↓e_l2i, ↓e_i2b, ↓e_lcmp, ↓e_dup, ↓e_dup2, ↓e_pop, ↓e_ceq, ↓e_cne, ↓e_clt, ↓e_cge, ↓e_cgt, ↓e_cle, ↓n_zeq, ↓n_zne, ↓n_zlt, ↓n_zge, ↓n_zgt, ↓n_zle, ↓e_goto, ↓e_nn, ↓e_retI, ↓e_retL, ↓e_retV, ↓n_retZ, ↓e_retA, ↓e_gfI, ↓e_gfL, ↓e_gfR, ↓e_pfI, ↓n_pfZ, ↓e_pfL, ↓e_pfR, ↓e_iald, ↓e_lald, ↓e_aald, ↓e_alen, ↓e_iast, ↓e_bast, ↓n_zast, ↓e_last, ↓e_aast, ↓e_cV, ↓e_cS, ↓e_gsW, ↓e_gsK, ↓e_mmax, ↓e_mmin, ↓e_mmaxL, ↓e_mminL, gEnt, gPad, gArgs, gGet, gS1, gS2, gCl, gNo, gSp, gCt, n_sw, n_gSw, n_gSw0, Option.toList, List.cons_append, List.nil_append, Value.category, and_true, true_and, and_self, not_false_eq_true, not_true_eq_false, Nat.reduceAdd, Nat.reduceSub, Nat.reduceMul, Nat.reduceLeDiff, Nat.reduceLT, Nat.reduceEqDiff, forall_const, true_implies, false_implies, implies_true, Nat.zero_add, Option.some.injEq, Sum.inr.injEq, Sum.inl.injEq, Prod.mk.injEq, exists_eq_left', exists_eq_left, w_ne0, nI_add, w_lt, w_le, w_eq, w_meq, w_eqm, w_mlt, w_ltm, w_mle, w_lem, w_clamp, w_in, w_31, w_ite0, w_ite1, w_ite01, true_or, or_true, false_or, or_false, Nat.le_refl, Nat.lt_irrefl, S_50 hS, S_52 hS, R_50_2 hR, bx_S hS, bx_S1 hS, bx_S2 hS, bx_r hR, bx_r1 hR, bx_r2 hR, hm0]
      refine b_X1_layFree_36 hX ?_
      simp (disch := omega) only [B_X1_layFree_36, ↓n_gb, ↓n_gb0, ↓n_ic, ↓n_icm, ↓n_lc, ↓e_lc, ↓e_null, ↓e_ldI, ↓e_ldL, ↓e_ldA, ↓e_stI, ↓e_stL, ↓e_stA, ↓n_inc, ↓n_incm1, ↓n_incm8, ↓e_iadd, ↓e_isub, ↓e_imul, ↓e_iand, ↓e_ior, ↓e_ixor, ↓n_ishl, ↓n_ishr, ↓e_iushr, ↓n_idiv, ↓e_ineg, ↓e_ladd, ↓e_lsub, ↓e_lmul, ↓e_lor, ↓e_lshl, ↓e_lshr, ↓e_i2l, ↓e_l2i, ↓e_i2b, ↓e_lcmp, ↓e_dup, ↓e_dup2, ↓e_pop, ↓e_ceq, ↓e_cne, ↓e_clt, ↓e_cge, ↓e_cgt, ↓e_cle, ↓n_zeq, ↓n_zne, ↓n_zlt, ↓n_zge, ↓n_zgt, ↓n_zle, ↓e_goto, ↓e_nn, ↓e_retI, ↓e_retL, ↓e_retV, ↓n_retZ, ↓e_retA, ↓e_gfI, ↓e_gfL, ↓e_gfR, ↓e_pfI, ↓n_pfZ, ↓e_pfL, ↓e_pfR, ↓e_iald, ↓e_lald, ↓e_aald, ↓e_alen, ↓e_iast, ↓e_bast, ↓n_zast, ↓e_last, ↓e_aast, ↓e_cV, ↓e_cS, ↓e_gsW, ↓e_gsK, ↓e_mmax, ↓e_mmin, ↓e_mmaxL, ↓e_mminL, gEnt, gPad, gArgs, gGet, gS1, gS2, gCl, gNo, gSp, gCt, n_sw, n_gSw, n_gSw0, Option.toList, List.cons_append, List.nil_append, Value.category, and_true, true_and, and_self, not_false_eq_true, not_true_eq_false, Nat.reduceAdd, Nat.reduceSub, Nat.reduceMul, Nat.reduceLeDiff, Nat.reduceLT, Nat.reduceEqDiff, forall_const, true_implies, false_implies, implies_true, Nat.zero_add, Option.some.injEq, Sum.inr.injEq, Sum.inl.injEq, Prod.mk.injEq, exists_eq_left', exists_eq_left, w_ne0, nI_add, w_lt, w_le, w_eq, w_meq, w_eqm, w_mlt, w_ltm, w_mle, w_lem, w_clamp, w_in, w_31, w_ite0, w_ite1, w_ite01, true_or, or_true, false_or, or_false, Nat.le_refl, Nat.lt_irrefl, S_50 hS, S_52 hS, R_50_2 hR, bx_S hS, bx_S1 hS, bx_S2 hS, bx_r hR, bx_r1 hR, bx_r2 hR]
      refine gLoop (I := fun k μ' lc => gLR β n m (gFo W D G w tk ht sm rw cl ((gLst m k).flatMap (fun k => (gPrm f (gAn m (1 <<< k))).map (fun p => k :: p))) B) μ μ' ∧ ∃ y, lc = [some (.ref (β + 50)), some (.int (nI m)), some (.int (nI ht)), some (.int (nI sm)), some (.int (nI k)), y]) n ?_ ?_ 0 (by omega) _ _ ⟨⟨rfl, fun _ _ _ => rfl, fun _ _ => rfl, fun _ _ _ => ⟨rfl, rfl⟩, hB⟩, none, rfl⟩
      · rintro k μ' _ hk ⟨hL, y, rfl⟩ hK
        obtain ⟨L1, L2, L3, L4, L5⟩ := id hL
        generalize hBk : gFo W D G w tk ht sm rw cl ((gLst m k).flatMap (fun k => (gPrm f (gAn m (1 <<< k))).map (fun p => k :: p))) B = Bk at hL L5
        have hA' := gLA_c hn L1 L2 hA
        obtain ⟨c1, c2, c3, c4⟩ := id hA'
        obtain ⟨k1, k2, k3, k4, k5, k6, k7, k8⟩ := c4 k hk
        obtain ⟨B1, B2, B3, B4, B5⟩ := id L5
        have hR' : gPS μ'.2.2 β := by rw [L1]; exact hR
        have htk' : ∀ i, i < 80 → μ'.1 (β + 51) i = nI (tk i) := fun i hi => (L3 i hi).trans (htk i hi)
        have hkn : ¬ n ≤ k := by omega
        have hk6 : k < 6 := by omega
        have hR0 := hR
        have hR := hR'
        have w134 : gBp β n (gFo W D G w tk ht sm rw cl ((gLst m (k + 1)).flatMap (fun k => (gPrm f (gAn m (1 <<< k))).map (fun p => k :: p))) B) μ' → ∀ y, X 134 μ' [some (.ref (β + 50)), some (.int (nI m)), some (.int (nI ht)), some (.int (nI sm)), some (.int (nI k)), y] [] := by
          intro q y
          refine b_X1_layFree_134 hX ?_
          simp (disch := omega) only [B_X1_layFree_134, ↓n_gb, ↓n_gb0, ↓n_ic, ↓n_icm, ↓n_lc, ↓e_lc, ↓e_null, ↓e_ldI, ↓e_ldL, ↓e_ldA, ↓e_stI, ↓e_stL, ↓e_stA, ↓n_inc, ↓n_incm1, ↓n_incm8, ↓e_iadd, ↓e_isub, ↓e_imul, ↓e_iand, ↓e_ior, ↓e_ixor, ↓n_ishl, ↓n_ishr, ↓e_iushr, ↓n_idiv, ↓e_ineg, ↓e_ladd, ↓e_lsub, ↓e_lmul, ↓e_lor, ↓e_lshl, ↓e_lshr, ↓e_i2l, ↓e_l2i, ↓e_i2b, ↓e_lcmp, ↓e_dup, ↓e_dup2, ↓e_pop, ↓e_ceq, ↓e_cne, ↓e_clt, ↓e_cge, ↓e_cgt, ↓e_cle, ↓n_zeq, ↓n_zne, ↓n_zlt, ↓n_zge, ↓n_zgt, ↓n_zle, ↓e_goto, ↓e_nn, ↓e_retI, ↓e_retL, ↓e_retV, ↓n_retZ, ↓e_retA, ↓e_gfI, ↓e_gfL, ↓e_gfR, ↓e_pfI, ↓n_pfZ, ↓e_pfL, ↓e_pfR, ↓e_iald, ↓e_lald, ↓e_aald, ↓e_alen, ↓e_iast, ↓e_bast, ↓n_zast, ↓e_last, ↓e_aast, ↓e_cV, ↓e_cS, ↓e_gsW, ↓e_gsK, ↓e_mmax, ↓e_mmin, ↓e_mmaxL, ↓e_mminL, gEnt, gPad, gArgs, gGet, gS1, gS2, gCl, gNo, gSp, gCt, n_sw, n_gSw, n_gSw0, Option.toList, List.cons_append, List.nil_append, Value.category, and_true, true_and, and_self, not_false_eq_true, not_true_eq_false, Nat.reduceAdd, Nat.reduceSub, Nat.reduceMul, Nat.reduceLeDiff, Nat.reduceLT, Nat.reduceEqDiff, forall_const, true_implies, false_implies, implies_true, Nat.zero_add, Option.some.injEq, Sum.inr.injEq, Sum.inl.injEq, Prod.mk.injEq, exists_eq_left', exists_eq_left, w_ne0, nI_add, w_lt, w_le, w_eq, w_meq, w_eqm, w_mlt, w_ltm, w_mle, w_lem, w_clamp, w_in, w_31, w_ite0, w_ite1, w_ite01, true_or, or_true, false_or, or_false, Nat.le_refl, Nat.lt_irrefl, S_50 hS, S_52 hS, R_50_2 hR, bx_S hS, bx_S1 hS, bx_S2 hS, bx_r hR, bx_r1 hR, bx_r2 hR]
          exact hK _ _ ⟨⟨L1, L2, L3, L4, q⟩, _, rfl⟩
        refine b_X1_layFree_39 hX ?_
        simp (disch := omega) only [B_X1_layFree_39, ↓n_gb, ↓n_gb0, ↓n_ic, ↓n_icm, ↓n_lc, ↓e_lc, ↓e_null, ↓e_ldI, ↓e_ldL, ↓e_ldA, ↓e_stI, ↓e_stL, ↓e_stA, ↓n_inc, ↓n_incm1, ↓n_incm8, ↓e_iadd, ↓e_isub, ↓e_imul, ↓e_iand, ↓e_ior, ↓e_ixor, ↓n_ishl, ↓n_ishr, ↓e_iushr, ↓n_idiv, ↓e_ineg, ↓e_ladd, ↓e_lsub, ↓e_lmul, ↓e_lor, ↓e_lshl, ↓e_lshr, ↓e_i2l, ↓e_l2i, ↓e_i2b, ↓e_lcmp, ↓e_dup, ↓e_dup2, ↓e_pop, ↓e_ceq, ↓e_cne, ↓e_clt, ↓e_cge, ↓e_cgt, ↓e_cle, ↓n_zeq, ↓n_zne, ↓n_zlt, ↓n_zge, ↓n_zgt, ↓n_zle, ↓e_goto, ↓e_nn, ↓e_retI, ↓e_retL, ↓e_retV, ↓n_retZ, ↓e_retA, ↓e_gfI, ↓e_gfL, ↓e_gfR, ↓e_pfI, ↓n_pfZ, ↓e_pfL, ↓e_pfR, ↓e_iald, ↓e_lald, ↓e_aald, ↓e_alen, ↓e_iast, ↓e_bast, ↓n_zast, ↓e_last, ↓e_aast, ↓e_cV, ↓e_cS, ↓e_gsW, ↓e_gsK, ↓e_mmax, ↓e_mmin, ↓e_mmaxL, ↓e_mminL, gEnt, gPad, gArgs, gGet, gS1, gS2, gCl, gNo, gSp, gCt, n_sw, n_gSw, n_gSw0, Option.toList, List.cons_append, List.nil_append, Value.category, and_true, true_and, and_self, not_false_eq_true, not_true_eq_false, Nat.reduceAdd, Nat.reduceSub, Nat.reduceMul, Nat.reduceLeDiff, Nat.reduceLT, Nat.reduceEqDiff, forall_const, true_implies, false_implies, implies_true, Nat.zero_add, Option.some.injEq, Sum.inr.injEq, Sum.inl.injEq, Prod.mk.injEq, exists_eq_left', exists_eq_left, w_ne0, nI_add, w_lt, w_le, w_eq, w_meq, w_eqm, w_mlt, w_ltm, w_mle, w_lem, w_clamp, w_in, w_31, w_ite0, w_ite1, w_ite01, true_or, or_true, false_or, or_false, Nat.le_refl, Nat.lt_irrefl, S_50 hS, S_52 hS, R_50_2 hR, bx_S hS, bx_S1 hS, bx_S2 hS, bx_r hR, bx_r1 hR, bx_r2 hR, c2, hkn, w_tb]
        by_cases hb : m.testBit k = false
        · refine ⟨fun _ => w134 ?_ _, fun q => absurd hb q⟩
          rw [gLst_s, if_neg (by rw [hb]; decide), List.append_nil, hBk]
          exact L5
        · have hb' : m.testBit k = true := by simpa using hb
          refine ⟨fun q => absurd q hb, fun _ => ?_⟩
          have eB : gFo W D G w tk ht sm rw cl ((gLst m (k + 1)).flatMap (fun k => (gPrm f (gAn m (1 <<< k))).map (fun p => k :: p))) B = gFo W D G w (gPut tk (D k) (G k) (gFit tk (D k) (G k) w).1 (gFit tk (D k) (G k) w).2) (max ht ((gFit tk (D k) (G k) w).1 + G k)) (sm + W k * (gFit tk (D k) (G k) w).1) (gUp rw k (gFit tk (D k) (G k) w).1) (gUp cl k (gFit tk (D k) (G k) w).2) (gPrm f (gAn m (1 <<< k))) Bk := by
            rw [gLst_s, if_pos hb', List.flatMap_append, gFo_app, hBk]
            simp only [List.flatMap_cons, List.flatMap_nil, List.append_nil]
            exact gFo_map _
          refine k_findRoom (n := n) (tk := tk) hS hR c1 hn hk k2 k3 (by omega) k5 k8 c3 hw8 B1 B3 htk' (fun r c hF hr80 hrb => ?_) (fun hno => ?_)
          · have ef := gFit_eq hF
            rw [ef] at eB
            dsimp only at eB
            obtain ⟨r0, c0, hr0, hF0⟩ := gFF_ex (g := G k) k6 hz
            obtain ⟨rfl, rfl⟩ := gFF_uniq hF0 hF
            have hcd := hF.1
            simp (disch := omega) only [↓n_gb, ↓n_gb0, ↓n_ic, ↓n_icm, ↓n_lc, ↓e_lc, ↓e_null, ↓e_ldI, ↓e_ldL, ↓e_ldA, ↓e_stI, ↓e_stL, ↓e_stA, ↓n_inc, ↓n_incm1, ↓n_incm8, ↓e_iadd, ↓e_isub, ↓e_imul, ↓e_iand, ↓e_ior, ↓e_ixor, ↓n_ishl, ↓n_ishr, ↓e_iushr, ↓n_idiv, ↓e_ineg, ↓e_ladd, ↓e_lsub, ↓e_lmul, ↓e_lor, ↓e_lshl, ↓e_lshr, ↓e_i2l, ↓e_l2i, ↓e_i2b, ↓e_lcmp, ↓e_dup, ↓e_dup2, ↓e_pop, ↓e_ceq, ↓e_cne, ↓e_clt, ↓e_cge, ↓e_cgt, ↓e_cle, ↓n_zeq, ↓n_zne, ↓n_zlt, ↓n_zge, ↓n_zgt, ↓n_zle, ↓e_goto, ↓e_nn, ↓e_retI, ↓e_retL, ↓e_retV, ↓n_retZ, ↓e_retA, ↓e_gfI, ↓e_gfL, ↓e_gfR, ↓e_pfI, ↓n_pfZ, ↓e_pfL, ↓e_pfR, ↓e_iald, ↓e_lald, ↓e_aald, ↓e_alen, ↓e_iast, ↓e_bast, ↓n_zast, ↓e_last, ↓e_aast, ↓e_cV, ↓e_cS, ↓e_gsW, ↓e_gsK, ↓e_mmax, ↓e_mmin, ↓e_mmaxL, ↓e_mminL, gEnt, gPad, gArgs, gGet, gS1, gS2, gCl, gNo, gSp, gCt, n_sw, n_gSw, n_gSw0, Option.toList, List.cons_append, List.nil_append, Value.category, and_true, true_and, and_self, not_false_eq_true, not_true_eq_false, Nat.reduceAdd, Nat.reduceSub, Nat.reduceMul, Nat.reduceLeDiff, Nat.reduceLT, Nat.reduceEqDiff, forall_const, true_implies, false_implies, implies_true, Nat.zero_add, Option.some.injEq, Sum.inr.injEq, Sum.inl.injEq, Prod.mk.injEq, exists_eq_left', exists_eq_left, w_ne0, nI_add, w_lt, w_le, w_eq, w_meq, w_eqm, w_mlt, w_ltm, w_mle, w_lem, w_clamp, w_in, w_31, w_ite0, w_ite1, w_ite01, true_or, or_true, false_or, or_false, Nat.le_refl, Nat.lt_irrefl, S_50 hS, S_52 hS, R_50_2 hR, bx_S hS, bx_S1 hS, bx_S2 hS, bx_r hR, bx_r1 hR, bx_r2 hR]
            refine b_X1_layFree_69 hX ?_
            simp (disch := omega) only [B_X1_layFree_69, ↓n_gb, ↓n_gb0, ↓n_ic, ↓n_icm, ↓n_lc, ↓e_lc, ↓e_null, ↓e_ldI, ↓e_ldL, ↓e_ldA, ↓e_stI, ↓e_stL, ↓e_stA, ↓n_inc, ↓n_incm1, ↓n_incm8, ↓e_iadd, ↓e_isub, ↓e_imul, ↓e_iand, ↓e_ior, ↓e_ixor, ↓n_ishl, ↓n_ishr, ↓e_iushr, ↓n_idiv, ↓e_ineg, ↓e_ladd, ↓e_lsub, ↓e_lmul, ↓e_lor, ↓e_lshl, ↓e_lshr, ↓e_i2l, ↓e_l2i, ↓e_i2b, ↓e_lcmp, ↓e_dup, ↓e_dup2, ↓e_pop, ↓e_ceq, ↓e_cne, ↓e_clt, ↓e_cge, ↓e_cgt, ↓e_cle, ↓n_zeq, ↓n_zne, ↓n_zlt, ↓n_zge, ↓n_zgt, ↓n_zle, ↓e_goto, ↓e_nn, ↓e_retI, ↓e_retL, ↓e_retV, ↓n_retZ, ↓e_retA, ↓e_gfI, ↓e_gfL, ↓e_gfR, ↓e_pfI, ↓n_pfZ, ↓e_pfL, ↓e_pfR, ↓e_iald, ↓e_lald, ↓e_aald, ↓e_alen, ↓e_iast, ↓e_bast, ↓n_zast, ↓e_last, ↓e_aast, ↓e_cV, ↓e_cS, ↓e_gsW, ↓e_gsK, ↓e_mmax, ↓e_mmin, ↓e_mmaxL, ↓e_mminL, gEnt, gPad, gArgs, gGet, gS1, gS2, gCl, gNo, gSp, gCt, n_sw, n_gSw, n_gSw0, Option.toList, List.cons_append, List.nil_append, Value.category, and_true, true_and, and_self, not_false_eq_true, not_true_eq_false, Nat.reduceAdd, Nat.reduceSub, Nat.reduceMul, Nat.reduceLeDiff, Nat.reduceLT, Nat.reduceEqDiff, forall_const, true_implies, false_implies, implies_true, Nat.zero_add, Option.some.injEq, Sum.inr.injEq, Sum.inl.injEq, Prod.mk.injEq, exists_eq_left', exists_eq_left, w_ne0, nI_add, w_lt, w_le, w_eq, w_meq, w_eqm, w_mlt, w_ltm, w_mle, w_lem, w_clamp, w_in, w_31, w_ite0, w_ite1, w_ite01, true_or, or_true, false_or, or_false, Nat.le_refl, Nat.lt_irrefl, S_50 hS, S_52 hS, R_50_2 hR, bx_S hS, bx_S1 hS, bx_S2 hS, bx_r hR, bx_r1 hR, bx_r2 hR, c1, S_18 hS, hk6]
            refine k_flip (n := n) (r := r0) (c := c0) (d := D k) (g := G k) hS hR c1 hn hk (by dsimp only; rw [gU_n (by omega), gU_s]) gU_s (by dsimp only; rw [gU_n (by omega), gU_n (by omega)]; exact k2) (by dsimp only; rw [gU_n (by omega), gU_n (by omega)]; exact k3) (by omega) (by omega) hr80 ?_
            have hmax : (if ht < r0 + G k then nI (r0 + G k) else nI ht) = nI (max ht (r0 + G k)) := by
              by_cases q : ht < r0 + G k
              · rw [if_pos q, Nat.max_eq_right (by omega)]
              · rw [if_neg q, Nat.max_eq_left (by omega)]
            have hWr : W k * r0 ≤ 1000 * 80 := Nat.mul_le_mul (by omega) (by omega)
            simp (disch := omega) only [↓n_gb, ↓n_gb0, ↓n_ic, ↓n_icm, ↓n_lc, ↓e_lc, ↓e_null, ↓e_ldI, ↓e_ldL, ↓e_ldA, ↓e_stI, ↓e_stL, ↓e_stA, ↓n_inc, ↓n_incm1, ↓n_incm8, ↓e_iadd, ↓e_isub, ↓e_imul, ↓e_iand, ↓e_ior, ↓e_ixor, ↓n_ishl, ↓n_ishr, ↓e_iushr, ↓n_idiv, ↓e_ineg, ↓e_ladd, ↓e_lsub, ↓e_lmul, ↓e_lor, ↓e_lshl, ↓e_lshr, ↓e_i2l, ↓e_l2i, ↓e_i2b, ↓e_lcmp, ↓e_dup, ↓e_dup2, ↓e_pop, ↓e_ceq, ↓e_cne, ↓e_clt, ↓e_cge, ↓e_cgt, ↓e_cle, ↓n_zeq, ↓n_zne, ↓n_zlt, ↓n_zge, ↓n_zgt, ↓n_zle, ↓e_goto, ↓e_nn, ↓e_retI, ↓e_retL, ↓e_retV, ↓n_retZ, ↓e_retA, ↓e_gfI, ↓e_gfL, ↓e_gfR, ↓e_pfI, ↓n_pfZ, ↓e_pfL, ↓e_pfR, ↓e_iald, ↓e_lald, ↓e_aald, ↓e_alen, ↓e_iast, ↓e_bast, ↓n_zast, ↓e_last, ↓e_aast, ↓e_cV, ↓e_cS, ↓e_gsW, ↓e_gsK, ↓e_mmax, ↓e_mmin, ↓e_mmaxL, ↓e_mminL, gEnt, gPad, gArgs, gGet, gS1, gS2, gCl, gNo, gSp, gCt, n_sw, n_gSw, n_gSw0, Option.toList, List.cons_append, List.nil_append, Value.category, and_true, true_and, and_self, not_false_eq_true, not_true_eq_false, Nat.reduceAdd, Nat.reduceSub, Nat.reduceMul, Nat.reduceLeDiff, Nat.reduceLT, Nat.reduceEqDiff, forall_const, true_implies, false_implies, implies_true, Nat.zero_add, Option.some.injEq, Sum.inr.injEq, Sum.inl.injEq, Prod.mk.injEq, exists_eq_left', exists_eq_left, w_ne0, nI_add, w_lt, w_le, w_eq, w_meq, w_eqm, w_mlt, w_ltm, w_mle, w_lem, w_clamp, w_in, w_31, w_ite0, w_ite1, w_ite01, true_or, or_true, false_or, or_false, Nat.le_refl, Nat.lt_irrefl, S_50 hS, S_52 hS, R_50_2 hR, bx_S hS, bx_S1 hS, bx_S2 hS, bx_r hR, bx_r1 hR, bx_r2 hR, gW_n, gU_n, gU_s, hk6, k1, k3, w_1s, w_an, hmax, pk_mul]
            refine ih (gAn m (1 <<< k)) (gLst_len hm hk6 hb' hl) ?_ (fun j q => ?_) h (max ht (r0 + G k)) (sm + W k * r0) (gPut tk (D k) (G k) r0 c0) (gUp rw k r0) (gUp cl k c0) Bk _ _ hR ?_ ?_ (fun i hi => ?_) (fun i hi => ?_) (by omega) (by omega) (fun j hj q => ?_) (fun μ2 hL2 => ?_)
            · exact gAn_lt hm hk6
            · rw [gAn_1] at q
              simp only [Bool.and_eq_true] at q
              exact hmn j q.1
            · refine gLA_c (μ := μ') hn rfl (fun a i q => ?_) hA'
              dsimp only
              rw [gW_n (by omega), gU_n (by omega), gU_n (by omega)]
            · refine ⟨?_, ?_, B3, B4, fun q j hj => ?_⟩
              · dsimp only
                rw [gW_n (by omega), gU_n (by omega), gU_n (by omega)]; exact B1
              · dsimp only
                rw [gW_n (by omega), gU_n (by omega), gU_n (by omega)]; exact B2
              · dsimp only
                rw [gW_n (by omega), gU_n (by omega), gU_n (by omega), gW_n (by omega), gU_n (by omega), gU_n (by omega)]; exact B5 q j hj
            · dsimp only
              rw [gW_s]
              simp only [gPut]
              rw [htk' i hi]
              by_cases q : r0 ≤ i ∧ i < r0 + G k
              · rw [if_pos q, if_pos q, w_xor]
                have := hF.2.1 (i - r0) (by omega)
                rw [show r0 + (i - r0) = i by omega] at this
                rw [gXo this]
              · rw [if_neg q, if_neg q]
            · simp only [gPut]
              rw [if_neg (by omega)]
              exact hz i (by omega)
            · dsimp only
              rw [gAn_1] at q
              by_cases e : j = k
              · subst e
                rw [gW_n (by omega), gU_n (by omega), gU_s, gW_n (by omega), gU_s]
                simp only [gUp, if_true]
                exact ⟨trivial, trivial⟩
              · have hjf : m.testBit j = false := by
                  rw [decide_eq_false (fun z => e z.symm)] at q
                  simpa using q
                rw [gW_n (by omega), gU_n (by omega), gU_n (by omega), gW_n (by omega), gU_n (by omega), gU_n (by omega), (L4 j hj hjf).1, (L4 j hj hjf).2]
                simp only [gUp, if_neg e]
                exact hrc j hj hjf
            obtain ⟨M1, M2, M3, M4, M5⟩ := hL2
            dsimp only at M1 M2 M3 M4
            have hR2 : gPS μ2.2.2 β := by rw [M1]; exact hR
            have hkk : (gAn m (1 <<< k)).testBit k = false := by rw [gAn_1]; simp
            obtain ⟨m1, m2⟩ := M4 k hk hkk
            rw [gW_n (by omega), gU_n (by omega), gU_s] at m1
            rw [gW_n (by omega), gU_s] at m2
            have hR1 := hR
            have hR := hR2
            simp (disch := omega) only [↓n_gb, ↓n_gb0, ↓n_ic, ↓n_icm, ↓n_lc, ↓e_lc, ↓e_null, ↓e_ldI, ↓e_ldL, ↓e_ldA, ↓e_stI, ↓e_stL, ↓e_stA, ↓n_inc, ↓n_incm1, ↓n_incm8, ↓e_iadd, ↓e_isub, ↓e_imul, ↓e_iand, ↓e_ior, ↓e_ixor, ↓n_ishl, ↓n_ishr, ↓e_iushr, ↓n_idiv, ↓e_ineg, ↓e_ladd, ↓e_lsub, ↓e_lmul, ↓e_lor, ↓e_lshl, ↓e_lshr, ↓e_i2l, ↓e_l2i, ↓e_i2b, ↓e_lcmp, ↓e_dup, ↓e_dup2, ↓e_pop, ↓e_ceq, ↓e_cne, ↓e_clt, ↓e_cge, ↓e_cgt, ↓e_cle, ↓n_zeq, ↓n_zne, ↓n_zlt, ↓n_zge, ↓n_zgt, ↓n_zle, ↓e_goto, ↓e_nn, ↓e_retI, ↓e_retL, ↓e_retV, ↓n_retZ, ↓e_retA, ↓e_gfI, ↓e_gfL, ↓e_gfR, ↓e_pfI, ↓n_pfZ, ↓e_pfL, ↓e_pfR, ↓e_iald, ↓e_lald, ↓e_aald, ↓e_alen, ↓e_iast, ↓e_bast, ↓n_zast, ↓e_last, ↓e_aast, ↓e_cV, ↓e_cS, ↓e_gsW, ↓e_gsK, ↓e_mmax, ↓e_mmin, ↓e_mmaxL, ↓e_mminL, gEnt, gPad, gArgs, gGet, gS1, gS2, gCl, gNo, gSp, gCt, n_sw, n_gSw, n_gSw0, Option.toList, List.cons_append, List.nil_append, Value.category, and_true, true_and, and_self, not_false_eq_true, not_true_eq_false, Nat.reduceAdd, Nat.reduceSub, Nat.reduceMul, Nat.reduceLeDiff, Nat.reduceLT, Nat.reduceEqDiff, forall_const, true_implies, false_implies, implies_true, Nat.zero_add, Option.some.injEq, Sum.inr.injEq, Sum.inl.injEq, Prod.mk.injEq, exists_eq_left', exists_eq_left, w_ne0, nI_add, w_lt, w_le, w_eq, w_meq, w_eqm, w_mlt, w_ltm, w_mle, w_lem, w_clamp, w_in, w_31, w_ite0, w_ite1, w_ite01, true_or, or_true, false_or, or_false, Nat.le_refl, Nat.lt_irrefl, S_50 hS, S_52 hS, R_50_2 hR, bx_S hS, bx_S1 hS, bx_S2 hS, bx_r hR, bx_r1 hR, bx_r2 hR]
            refine k_flip (n := n) (r := r0) (c := c0) (d := D k) (g := G k) hS hR (by rw [M1]; exact c1) hn hk m1 m2 ?_ ?_ (by omega) (by omega) hr80 ?_
            · rw [M2 _ _ (by omega), gW_n (by omega), gU_n (by omega), gU_n (by omega)]; exact k2
            · rw [M2 _ _ (by omega), gW_n (by omega), gU_n (by omega), gU_n (by omega)]; exact k3
            simp (disch := omega) only [↓n_gb, ↓n_gb0, ↓n_ic, ↓n_icm, ↓n_lc, ↓e_lc, ↓e_null, ↓e_ldI, ↓e_ldL, ↓e_ldA, ↓e_stI, ↓e_stL, ↓e_stA, ↓n_inc, ↓n_incm1, ↓n_incm8, ↓e_iadd, ↓e_isub, ↓e_imul, ↓e_iand, ↓e_ior, ↓e_ixor, ↓n_ishl, ↓n_ishr, ↓e_iushr, ↓n_idiv, ↓e_ineg, ↓e_ladd, ↓e_lsub, ↓e_lmul, ↓e_lor, ↓e_lshl, ↓e_lshr, ↓e_i2l, ↓e_l2i, ↓e_i2b, ↓e_lcmp, ↓e_dup, ↓e_dup2, ↓e_pop, ↓e_ceq, ↓e_cne, ↓e_clt, ↓e_cge, ↓e_cgt, ↓e_cle, ↓n_zeq, ↓n_zne, ↓n_zlt, ↓n_zge, ↓n_zgt, ↓n_zle, ↓e_goto, ↓e_nn, ↓e_retI, ↓e_retL, ↓e_retV, ↓n_retZ, ↓e_retA, ↓e_gfI, ↓e_gfL, ↓e_gfR, ↓e_pfI, ↓n_pfZ, ↓e_pfL, ↓e_pfR, ↓e_iald, ↓e_lald, ↓e_aald, ↓e_alen, ↓e_iast, ↓e_bast, ↓n_zast, ↓e_last, ↓e_aast, ↓e_cV, ↓e_cS, ↓e_gsW, ↓e_gsK, ↓e_mmax, ↓e_mmin, ↓e_mmaxL, ↓e_mminL, gEnt, gPad, gArgs, gGet, gS1, gS2, gCl, gNo, gSp, gCt, n_sw, n_gSw, n_gSw0, Option.toList, List.cons_append, List.nil_append, Value.category, and_true, true_and, and_self, not_false_eq_true, not_true_eq_false, Nat.reduceAdd, Nat.reduceSub, Nat.reduceMul, Nat.reduceLeDiff, Nat.reduceLT, Nat.reduceEqDiff, forall_const, true_implies, false_implies, implies_true, Nat.zero_add, Option.some.injEq, Sum.inr.injEq, Sum.inl.injEq, Prod.mk.injEq, exists_eq_left', exists_eq_left, w_ne0, nI_add, w_lt, w_le, w_eq, w_meq, w_eqm, w_mlt, w_ltm, w_mle, w_lem, w_clamp, w_in, w_31, w_ite0, w_ite1, w_ite01, true_or, or_true, false_or, or_false, Nat.le_refl, Nat.lt_irrefl, S_50 hS, S_52 hS, R_50_2 hR, bx_S hS, bx_S1 hS, bx_S2 hS, bx_r hR, bx_r1 hR, bx_r2 hR]
            refine b_X1_layFree_134 hX ?_
            simp (disch := omega) only [B_X1_layFree_134, ↓n_gb, ↓n_gb0, ↓n_ic, ↓n_icm, ↓n_lc, ↓e_lc, ↓e_null, ↓e_ldI, ↓e_ldL, ↓e_ldA, ↓e_stI, ↓e_stL, ↓e_stA, ↓n_inc, ↓n_incm1, ↓n_incm8, ↓e_iadd, ↓e_isub, ↓e_imul, ↓e_iand, ↓e_ior, ↓e_ixor, ↓n_ishl, ↓n_ishr, ↓e_iushr, ↓n_idiv, ↓e_ineg, ↓e_ladd, ↓e_lsub, ↓e_lmul, ↓e_lor, ↓e_lshl, ↓e_lshr, ↓e_i2l, ↓e_l2i, ↓e_i2b, ↓e_lcmp, ↓e_dup, ↓e_dup2, ↓e_pop, ↓e_ceq, ↓e_cne, ↓e_clt, ↓e_cge, ↓e_cgt, ↓e_cle, ↓n_zeq, ↓n_zne, ↓n_zlt, ↓n_zge, ↓n_zgt, ↓n_zle, ↓e_goto, ↓e_nn, ↓e_retI, ↓e_retL, ↓e_retV, ↓n_retZ, ↓e_retA, ↓e_gfI, ↓e_gfL, ↓e_gfR, ↓e_pfI, ↓n_pfZ, ↓e_pfL, ↓e_pfR, ↓e_iald, ↓e_lald, ↓e_aald, ↓e_alen, ↓e_iast, ↓e_bast, ↓n_zast, ↓e_last, ↓e_aast, ↓e_cV, ↓e_cS, ↓e_gsW, ↓e_gsK, ↓e_mmax, ↓e_mmin, ↓e_mmaxL, ↓e_mminL, gEnt, gPad, gArgs, gGet, gS1, gS2, gCl, gNo, gSp, gCt, n_sw, n_gSw, n_gSw0, Option.toList, List.cons_append, List.nil_append, Value.category, and_true, true_and, and_self, not_false_eq_true, not_true_eq_false, Nat.reduceAdd, Nat.reduceSub, Nat.reduceMul, Nat.reduceLeDiff, Nat.reduceLT, Nat.reduceEqDiff, forall_const, true_implies, false_implies, implies_true, Nat.zero_add, Option.some.injEq, Sum.inr.injEq, Sum.inl.injEq, Prod.mk.injEq, exists_eq_left', exists_eq_left, w_ne0, nI_add, w_lt, w_le, w_eq, w_meq, w_eqm, w_mlt, w_ltm, w_mle, w_lem, w_clamp, w_in, w_31, w_ite0, w_ite1, w_ite01, true_or, or_true, false_or, or_false, Nat.le_refl, Nat.lt_irrefl, S_50 hS, S_52 hS, R_50_2 hR, bx_S hS, bx_S1 hS, bx_S2 hS, bx_r hR, bx_r1 hR, bx_r2 hR]
            refine hK _ _ ⟨⟨?_, fun a i q => ?_, fun i hi => ?_, fun j hj q => ?_, ?_⟩, _, rfl⟩
            · exact M1.trans L1
            · dsimp only
              rw [gW_n (by omega), M2 _ _ q, gW_n (by omega), gU_n (by omega), gU_n (by omega)]
              exact L2 a i q
            · dsimp only
              rw [gW_s, M3 i hi, gW_s]
              rw [← L3 i hi]
              by_cases z : r0 ≤ i ∧ i < r0 + G k
              · rw [if_pos z, if_pos z, gXx]
              · rw [if_neg z, if_neg z]
            · dsimp only
              have hjk : j ≠ k := fun e => by rw [e, hb'] at q; cases q
              have q2 : (gAn m (1 <<< k)).testBit j = false := by rw [gAn_1, q]; rfl
              rw [gW_n (by omega), gW_n (by omega), (M4 j hj q2).1, (M4 j hj q2).2, gW_n (by omega), gU_n (by omega), gU_n (by omega), gW_n (by omega), gU_n (by omega), gU_n (by omega)]
              exact L4 j hj q
            · rw [eB]
              obtain ⟨z1, z2, z3, z4, z5⟩ := M5
              refine ⟨?_, ?_, z3, z4, fun z6 j hj => ?_⟩
              · dsimp only
                rw [gW_n (by omega)]; exact z1
              · dsimp only
                rw [gW_n (by omega)]; exact z2
              · dsimp only
                rw [gW_n (by omega), gW_n (by omega)]; exact z5 z6 j hj
          · simp (disch := omega) only [↓n_gb, ↓n_gb0, ↓n_ic, ↓n_icm, ↓n_lc, ↓e_lc, ↓e_null, ↓e_ldI, ↓e_ldL, ↓e_ldA, ↓e_stI, ↓e_stL, ↓e_stA, ↓n_inc, ↓n_incm1, ↓n_incm8, ↓e_iadd, ↓e_isub, ↓e_imul, ↓e_iand, ↓e_ior, ↓e_ixor, ↓n_ishl, ↓n_ishr, ↓e_iushr, ↓n_idiv, ↓e_ineg, ↓e_ladd, ↓e_lsub, ↓e_lmul, ↓e_lor, ↓e_lshl, ↓e_lshr, ↓e_i2l, ↓e_l2i, ↓e_i2b, ↓e_lcmp, ↓e_dup, ↓e_dup2, ↓e_pop, ↓e_ceq, ↓e_cne, ↓e_clt, ↓e_cge, ↓e_cgt, ↓e_cle, ↓n_zeq, ↓n_zne, ↓n_zlt, ↓n_zge, ↓n_zgt, ↓n_zle, ↓e_goto, ↓e_nn, ↓e_retI, ↓e_retL, ↓e_retV, ↓n_retZ, ↓e_retA, ↓e_gfI, ↓e_gfL, ↓e_gfR, ↓e_pfI, ↓n_pfZ, ↓e_pfL, ↓e_pfR, ↓e_iald, ↓e_lald, ↓e_aald, ↓e_alen, ↓e_iast, ↓e_bast, ↓n_zast, ↓e_last, ↓e_aast, ↓e_cV, ↓e_cS, ↓e_gsW, ↓e_gsK, ↓e_mmax, ↓e_mmin, ↓e_mmaxL, ↓e_mminL, gEnt, gPad, gArgs, gGet, gS1, gS2, gCl, gNo, gSp, gCt, n_sw, n_gSw, n_gSw0, Option.toList, List.cons_append, List.nil_append, Value.category, and_true, true_and, and_self, not_false_eq_true, not_true_eq_false, Nat.reduceAdd, Nat.reduceSub, Nat.reduceMul, Nat.reduceLeDiff, Nat.reduceLT, Nat.reduceEqDiff, forall_const, true_implies, false_implies, implies_true, Nat.zero_add, Option.some.injEq, Sum.inr.injEq, Sum.inl.injEq, Prod.mk.injEq, exists_eq_left', exists_eq_left, w_ne0, nI_add, w_lt, w_le, w_eq, w_meq, w_eqm, w_mlt, w_ltm, w_mle, w_lem, w_clamp, w_in, w_31, w_ite0, w_ite1, w_ite01, true_or, or_true, false_or, or_false, Nat.le_refl, Nat.lt_irrefl, S_50 hS, S_52 hS, R_50_2 hR, bx_S hS, bx_S1 hS, bx_S2 hS, bx_r hR, bx_r1 hR, bx_r2 hR]
            refine w134 ?_ _
            obtain ⟨r0, c0, hr0, hF0⟩ := gFF_ex (g := G k) k6 hz
            have ef := gFit_eq hF0
            rw [ef] at eB
            dsimp only at eB
            have hgt : Bk.1 < r0 + G k := by
              refine Nat.lt_of_not_le (fun q => ?_)
              exact hno r0 c0 (by omega) q hF0.1 hF0.2.1
            rw [eB, gFo_skip (Or.inl (by omega))]
            exact L5
      · rintro μ' _ ⟨hL, y, rfl⟩
        have hR : gPS μ'.2.2 β := by rw [hL.1]; exact hR
        have c2 : μ'.1 (β + 50) 6 = nI n := by rw [hL.2.1 _ _ (by omega)]; exact a2
        refine b_X1_layFree_39 hX ?_
        simp (disch := omega) only [B_X1_layFree_39, ↓n_gb, ↓n_gb0, ↓n_ic, ↓n_icm, ↓n_lc, ↓e_lc, ↓e_null, ↓e_ldI, ↓e_ldL, ↓e_ldA, ↓e_stI, ↓e_stL, ↓e_stA, ↓n_inc, ↓n_incm1, ↓n_incm8, ↓e_iadd, ↓e_isub, ↓e_imul, ↓e_iand, ↓e_ior, ↓e_ixor, ↓n_ishl, ↓n_ishr, ↓e_iushr, ↓n_idiv, ↓e_ineg, ↓e_ladd, ↓e_lsub, ↓e_lmul, ↓e_lor, ↓e_lshl, ↓e_lshr, ↓e_i2l, ↓e_l2i, ↓e_i2b, ↓e_lcmp, ↓e_dup, ↓e_dup2, ↓e_pop, ↓e_ceq, ↓e_cne, ↓e_clt, ↓e_cge, ↓e_cgt, ↓e_cle, ↓n_zeq, ↓n_zne, ↓n_zlt, ↓n_zge, ↓n_zgt, ↓n_zle, ↓e_goto, ↓e_nn, ↓e_retI, ↓e_retL, ↓e_retV, ↓n_retZ, ↓e_retA, ↓e_gfI, ↓e_gfL, ↓e_gfR, ↓e_pfI, ↓n_pfZ, ↓e_pfL, ↓e_pfR, ↓e_iald, ↓e_lald, ↓e_aald, ↓e_alen, ↓e_iast, ↓e_bast, ↓n_zast, ↓e_last, ↓e_aast, ↓e_cV, ↓e_cS, ↓e_gsW, ↓e_gsK, ↓e_mmax, ↓e_mmin, ↓e_mmaxL, ↓e_mminL, gEnt, gPad, gArgs, gGet, gS1, gS2, gCl, gNo, gSp, gCt, n_sw, n_gSw, n_gSw0, Option.toList, List.cons_append, List.nil_append, Value.category, and_true, true_and, and_self, not_false_eq_true, not_true_eq_false, Nat.reduceAdd, Nat.reduceSub, Nat.reduceMul, Nat.reduceLeDiff, Nat.reduceLT, Nat.reduceEqDiff, forall_const, true_implies, false_implies, implies_true, Nat.zero_add, Option.some.injEq, Sum.inr.injEq, Sum.inl.injEq, Prod.mk.injEq, exists_eq_left', exists_eq_left, w_ne0, nI_add, w_lt, w_le, w_eq, w_meq, w_eqm, w_mlt, w_ltm, w_mle, w_lem, w_clamp, w_in, w_31, w_ite0, w_ite1, w_ite01, true_or, or_true, false_or, or_false, Nat.le_refl, Nat.lt_irrefl, S_50 hS, S_52 hS, R_50_2 hR, bx_S hS, bx_S1 hS, bx_S2 hS, bx_r hR, bx_r1 hR, bx_r2 hR, c2]
        refine b_X1_layFree_140 hX ?_
        simp (disch := omega) only [B_X1_layFree_140, ↓n_gb, ↓n_gb0, ↓n_ic, ↓n_icm, ↓n_lc, ↓e_lc, ↓e_null, ↓e_ldI, ↓e_ldL, ↓e_ldA, ↓e_stI, ↓e_stL, ↓e_stA, ↓n_inc, ↓n_incm1, ↓n_incm8, ↓e_iadd, ↓e_isub, ↓e_imul, ↓e_iand, ↓e_ior, ↓e_ixor, ↓n_ishl, ↓n_ishr, ↓e_iushr, ↓n_idiv, ↓e_ineg, ↓e_ladd, ↓e_lsub, ↓e_lmul, ↓e_lor, ↓e_lshl, ↓e_lshr, ↓e_i2l, ↓e_l2i, ↓e_i2b, ↓e_lcmp, ↓e_dup, ↓e_dup2, ↓e_pop, ↓e_ceq, ↓e_cne, ↓e_clt, ↓e_cge, ↓e_cgt, ↓e_cle, ↓n_zeq, ↓n_zne, ↓n_zlt, ↓n_zge, ↓n_zgt, ↓n_zle, ↓e_goto, ↓e_nn, ↓e_retI, ↓e_retL, ↓e_retV, ↓n_retZ, ↓e_retA, ↓e_gfI, ↓e_gfL, ↓e_gfR, ↓e_pfI, ↓n_pfZ, ↓e_pfL, ↓e_pfR, ↓e_iald, ↓e_lald, ↓e_aald, ↓e_alen, ↓e_iast, ↓e_bast, ↓n_zast, ↓e_last, ↓e_aast, ↓e_cV, ↓e_cS, ↓e_gsW, ↓e_gsK, ↓e_mmax, ↓e_mmin, ↓e_mmaxL, ↓e_mminL, gEnt, gPad, gArgs, gGet, gS1, gS2, gCl, gNo, gSp, gCt, n_sw, n_gSw, n_gSw0, Option.toList, List.cons_append, List.nil_append, Value.category, and_true, true_and, and_self, not_false_eq_true, not_true_eq_false, Nat.reduceAdd, Nat.reduceSub, Nat.reduceMul, Nat.reduceLeDiff, Nat.reduceLT, Nat.reduceEqDiff, forall_const, true_implies, false_implies, implies_true, Nat.zero_add, Option.some.injEq, Sum.inr.injEq, Sum.inl.injEq, Prod.mk.injEq, exists_eq_left', exists_eq_left, w_ne0, nI_add, w_lt, w_le, w_eq, w_meq, w_eqm, w_mlt, w_ltm, w_mle, w_lem, w_clamp, w_in, w_31, w_ite0, w_ite1, w_ite01, true_or, or_true, false_or, or_false, Nat.le_refl, Nat.lt_irrefl, S_50 hS, S_52 hS, R_50_2 hR, bx_S hS, bx_S1 hS, bx_S2 hS, bx_r hR, bx_r1 hR, bx_r2 hR]
        have e6 : gLst m n = gLst m 6 := by
          have := gLst_n hmn (6 - n)
          rw [show n + (6 - n) = 6 by omega] at this
          exact this.symm
        rw [e6] at hL
        exact hP μ' hL
    exact ⟨fun q => w24 (Or.inl q), fun q => ⟨fun q2 => w25, fun q2 => ⟨fun q3 => w25, fun q3 => w24 (by omega)⟩⟩⟩
