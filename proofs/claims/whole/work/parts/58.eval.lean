/-! THE PILE: what a step does, as a change of a row and its top -/
def gBin (k : Nat) (a b : Int64) : Int64 := if k = 3 then a + b else if k = 4 then a - b else if k = 5 then a * b else if k = 6 then (if a < b then a else b) else (if b < a then a else b)
def gLef (vs ls : Nat → Int64) (k : Nat) (v : Int32) : Int64 := if k = 0 then v.toInt64 else if k = 1 then vs v.toNatClampNeg else ls v.toNatClampNeg
def gSt (k : Nat) (v : Int32) (vs ls : Nat → Int64) (d : Nat) (f : Nat → Int64) : Nat → Int64 := if k < 3 then (fun j => if j = d then gLef vs ls k v else f j) else (fun j => if j = d - 2 then gBin k (f (d - 2)) (f (d - 1)) else f j)
def gTp (k d : Nat) : Nat := if k < 3 then d + 1 else d - 1
def gEv (op : Nat → Nat) (ar : Nat → Int32) (vs ls : Nat → Int64) : Nat → Nat → Nat → (Nat → Int64) → (Nat → Int64)
  | 0, _, _, f => f
  | n + 1, i, d, f => gEv op ar vs ls n (i + 1) (gTp (op i) d) (gSt (op i) (ar i) vs ls d f)
/-- what the steps s .. e - 1 come to -/
def gVal (op : Nat → Nat) (ar : Nat → Int32) (vs ls : Nat → Int64) (s e : Nat) : Int64 := gEv op ar vs ls (e - s) s 0 (fun _ => 0) 0
theorem gWf_step {op : Nat → Nat} {ar : Nat → Int32} {lb n i d x : Nat} (h : gWf op ar lb (n + 1) i d = some x) : gWf op ar lb n (i + 1) (gTp (op i) d) = some x ∧ (op i < 3 → (op i = 0 ∨ (op i = 1 ∧ ∃ s, s < 6 ∧ ar i = nI s) ∨ (op i = 2 ∧ ∃ s, s < lb ∧ ar i = nI s))) ∧ (¬ op i < 3 → 2 ≤ d) := by
  simp only [gWf] at h
  by_cases h1 : op i < 3
  · rw [if_pos h1] at h
    split at h
    · rename_i h2
      exact ⟨by simp only [gTp, if_pos h1]; exact h, fun _ => h2, fun q => absurd h1 q⟩
    · cases h
  · rw [if_neg h1] at h
    split at h
    · rename_i h2
      exact ⟨by simp only [gTp, if_neg h1]; exact h, fun q => absurd q h1, fun _ => h2⟩
    · cases h
theorem gEv_congr {op : Nat → Nat} {ar : Nat → Int32} {vs ls vs' ls' : Nat → Int64} {lb x : Nat} (hv : ∀ s, s < 6 → vs s = vs' s) (hl : ∀ s, s < lb → ls s = ls' s) (hlb : lb ≤ 12) : ∀ (n i d : Nat) (f g : Nat → Int64), gWf op ar lb n i d = some x → (∀ j, j < d → f j = g j) → ∀ j, j < x → gEv op ar vs ls n i d f j = gEv op ar vs' ls' n i d g j
  | 0, i, d, f, g, h, hf, j, hj => by
    simp only [gWf, Option.some.injEq] at h
    exact hf j (by omega)
  | n + 1, i, d, f, g, h, hf, j, hj => by
    obtain ⟨h1, h2, h3⟩ := gWf_step h
    simp only [gEv]
    refine gEv_congr hv hl hlb n (i + 1) _ _ _ h1 (fun k hk => ?_) j hj
    simp only [gSt, gTp] at hk ⊢
    by_cases q : op i < 3
    · rw [if_pos q] at hk
      rw [if_pos q, if_pos q]
      by_cases e : k = d
      · rw [if_pos e, if_pos e]
        rcases h2 q with r | ⟨r, s, hs, e2⟩ | ⟨r, s, hs, e2⟩
        · simp only [gLef, r, reduceIte]
        · simp only [gLef, r, e2, Nat.reduceEqDiff, reduceIte]
          rw [w_clamp (by omega)]
          exact hv s hs
        · simp only [gLef, r, e2, Nat.reduceEqDiff, reduceIte]
          rw [w_clamp (by omega)]
          exact hl s hs
      · rw [if_neg e, if_neg e]
        exact hf k (by omega)
    · have := h3 q
      rw [if_neg q] at hk
      rw [if_neg q, if_neg q]
      by_cases e : k = d - 2
      · rw [if_pos e, if_pos e, hf (d - 2) (by omega), hf (d - 1) (by omega)]
      · rw [if_neg e, if_neg e]
        exact hf k (by omega)
theorem gVal_of {op : Nat → Nat} {ar : Nat → Int32} {vs ls : Nat → Int64} {lb s e : Nat} {f : Nat → Int64} (hlb : lb ≤ 12) (h : gWf op ar lb (e - s) s 0 = some 1) : gEv op ar vs ls (e - s) s 0 f 0 = gVal op ar vs ls s e := gEv_congr (fun _ _ => rfl) (fun _ _ => rfl) hlb _ _ _ _ _ h (fun j hj => by omega) 0 (by omega)
theorem gVal_congr {op : Nat → Nat} {ar : Nat → Int32} {vs ls vs' ls' : Nat → Int64} {lb s e : Nat} (hv : ∀ s, s < 6 → vs s = vs' s) (hl : ∀ s, s < lb → ls s = ls' s) (hlb : lb ≤ 12) (h : gWf op ar lb (e - s) s 0 = some 1) : gVal op ar vs ls s e = gVal op ar vs' ls' s e := gEv_congr hv hl hlb _ _ _ _ _ h (fun j hj => by omega) 0 (by omega)
theorem gU_gW {α : Type} {f : Nat → Nat → α} {a k : Nat} {v : α} : gU f a k v = gW f a (fun j => if j = k then v else f a j) := by
  funext b j
  simp only [gU, gW]
  by_cases h : b = a
  · subst h
    simp
  · simp [h]
theorem gU_gU {α : Type} {f : Nat → Nat → α} {a k : Nat} {v w : α} : gU (gU f a k v) a k w = gU f a k w := by
  funext b j
  simp only [gU]
  split <;> rfl
theorem gU_id {α : Type} {f : Nat → Nat → α} {a k : Nat} : gU f a k (f a k) = f := by
  funext b j
  simp only [gU]
  split
  · rename_i h
    rw [h.1, h.2]
  · rfl
theorem gW_gW {α : Type} {f : Nat → Nat → α} {a : Nat} {g g' : Nat → α} : gW (gW f a g) a g' = gW f a g' := by
  funext b j
  simp only [gW]
  split <;> rfl
theorem k_push {S : gSh} {h β q d : Nat} {x : Int64} {μ : gM} {P : gP} (hS : gLS S β) (hR : gPS μ.2.2 β) (hq : q = 56 ∨ q = 83) (h12 : μ.1 (β + q) 12 = nI d) (hd : d < 400) (hP : P none (gU μ.1 (β + q) 12 (nI (d + 1)), gU μ.2.1 (β + (q + 7)) d x, μ.2.2)) : gRun S (h + 1) 58 [.ref (β + q), .long x] μ P := by
  have hd2 : ¬ 400 ≤ d := by omega
  refine r_X5_push (by simp [lg_sl, Value.category]) (fun X hX => ?_)
  refine b_X5_push_0 hX ?_
  simp (disch := omega) only [B_X5_push_0, ↓n_gb, ↓n_gb0, ↓n_ic, ↓n_icm, ↓n_lc, ↓e_lc, ↓e_null, ↓e_ldI, ↓e_ldL, ↓e_ldA, ↓e_stI, ↓e_stL, ↓e_stA, ↓n_inc, ↓n_incm1, ↓n_incm8, ↓e_iadd, ↓e_isub, ↓e_imul, ↓e_iand, ↓e_ior, ↓e_ixor, ↓n_ishl, ↓n_ishr, ↓e_iushr, ↓n_idiv, ↓e_ineg, ↓e_ladd, ↓e_lsub, ↓e_lmul, ↓e_lor, ↓e_lshl, ↓e_lshr, ↓e_i2l, ↓e_l2i, ↓e_i2b, ↓e_lcmp, ↓e_dup, ↓e_dup2, ↓e_pop, ↓e_ceq, ↓e_cne, ↓e_clt, ↓e_cge, ↓e_cgt, ↓e_cle, ↓n_zeq, ↓n_zne, ↓n_zlt, ↓n_zge, ↓n_zgt, ↓n_zle, ↓e_goto, ↓e_nn, ↓e_retI, ↓e_retL, ↓e_retV, ↓n_retZ, ↓e_retA, ↓e_gfI, ↓e_gfL, ↓e_gfR, ↓e_pfI, ↓n_pfZ, ↓e_pfL, ↓e_pfR, ↓e_iald, ↓e_lald, ↓e_aald, ↓e_alen, ↓e_iast, ↓e_bast, ↓n_zast, ↓e_last, ↓e_aast, ↓e_cV, ↓e_cS, ↓e_gsW, ↓e_gsK, ↓e_mmax, ↓e_mmin, ↓e_mmaxL, ↓e_mminL, gEnt, gPad, gArgs, gGet, gS1, gS2, gCl, gNo, gSp, gCt, n_sw, n_gSw, n_gSw0, Option.toList, List.cons_append, List.nil_append, Value.category, and_true, true_and, and_self, not_false_eq_true, not_true_eq_false, Nat.reduceAdd, Nat.reduceSub, Nat.reduceMul, Nat.reduceLeDiff, Nat.reduceLT, Nat.reduceEqDiff, forall_const, true_implies, false_implies, implies_true, Nat.zero_add, Option.some.injEq, Sum.inr.injEq, Sum.inl.injEq, Prod.mk.injEq, exists_eq_left', exists_eq_left, w_ne0, nI_add, w_lt, w_le, w_eq, w_meq, w_eqm, w_mlt, w_ltm, w_mle, w_lem, w_clamp, w_in, w_31, w_ite0, w_ite1, w_ite01, true_or, or_true, false_or, or_false, Nat.le_refl, Nat.lt_irrefl, sq_S0 hS hq, sq_S1 hS hq, sq_S2 hS hq, sq_S3 hS hq, sq_S4 hS hq, sq_S5 hS hq, sq_S6 hS hq, sq_S7 hS hq, sq_S26 hS hq, sq_r0 hR hq, sq_r1 hR hq, sq_r2 hR hq, sq_r3 hR hq, sq_r4 hR hq, sq_r5 hR hq, sq_r6 hR hq, tl_S hS hq, tl_r hR hq, h12, hd, hd2]
  refine b_X5_push_32 hX ?_
  simp (disch := omega) only [B_X5_push_32, ↓n_gb, ↓n_gb0, ↓n_ic, ↓n_icm, ↓n_lc, ↓e_lc, ↓e_null, ↓e_ldI, ↓e_ldL, ↓e_ldA, ↓e_stI, ↓e_stL, ↓e_stA, ↓n_inc, ↓n_incm1, ↓n_incm8, ↓e_iadd, ↓e_isub, ↓e_imul, ↓e_iand, ↓e_ior, ↓e_ixor, ↓n_ishl, ↓n_ishr, ↓e_iushr, ↓n_idiv, ↓e_ineg, ↓e_ladd, ↓e_lsub, ↓e_lmul, ↓e_lor, ↓e_lshl, ↓e_lshr, ↓e_i2l, ↓e_l2i, ↓e_i2b, ↓e_lcmp, ↓e_dup, ↓e_dup2, ↓e_pop, ↓e_ceq, ↓e_cne, ↓e_clt, ↓e_cge, ↓e_cgt, ↓e_cle, ↓n_zeq, ↓n_zne, ↓n_zlt, ↓n_zge, ↓n_zgt, ↓n_zle, ↓e_goto, ↓e_nn, ↓e_retI, ↓e_retL, ↓e_retV, ↓n_retZ, ↓e_retA, ↓e_gfI, ↓e_gfL, ↓e_gfR, ↓e_pfI, ↓n_pfZ, ↓e_pfL, ↓e_pfR, ↓e_iald, ↓e_lald, ↓e_aald, ↓e_alen, ↓e_iast, ↓e_bast, ↓n_zast, ↓e_last, ↓e_aast, ↓e_cV, ↓e_cS, ↓e_gsW, ↓e_gsK, ↓e_mmax, ↓e_mmin, ↓e_mmaxL, ↓e_mminL, gEnt, gPad, gArgs, gGet, gS1, gS2, gCl, gNo, gSp, gCt, n_sw, n_gSw, n_gSw0, Option.toList, List.cons_append, List.nil_append, Value.category, and_true, true_and, and_self, not_false_eq_true, not_true_eq_false, Nat.reduceAdd, Nat.reduceSub, Nat.reduceMul, Nat.reduceLeDiff, Nat.reduceLT, Nat.reduceEqDiff, forall_const, true_implies, false_implies, implies_true, Nat.zero_add, Option.some.injEq, Sum.inr.injEq, Sum.inl.injEq, Prod.mk.injEq, exists_eq_left', exists_eq_left, w_ne0, nI_add, w_lt, w_le, w_eq, w_meq, w_eqm, w_mlt, w_ltm, w_mle, w_lem, w_clamp, w_in, w_31, w_ite0, w_ite1, w_ite01, true_or, or_true, false_or, or_false, Nat.le_refl, Nat.lt_irrefl, sq_S0 hS hq, sq_S1 hS hq, sq_S2 hS hq, sq_S3 hS hq, sq_S4 hS hq, sq_S5 hS hq, sq_S6 hS hq, sq_S7 hS hq, sq_S26 hS hq, sq_r0 hR hq, sq_r1 hR hq, sq_r2 hR hq, sq_r3 hR hq, sq_r4 hR hq, sq_r5 hR hq, sq_r6 hR hq, tl_S hS hq, tl_r hR hq]
  exact hP
theorem k_pop {S : gSh} {h β q d : Nat} {μ : gM} {P : gP} (hS : gLS S β) (hR : gPS μ.2.2 β) (hq : q = 56 ∨ q = 83) (h12 : μ.1 (β + q) 12 = nI (d + 1)) (hd : d < 400) (hP : P (some (.long (μ.2.1 (β + (q + 7)) d))) (gU μ.1 (β + q) 12 (nI d), μ.2)) : gRun S (h + 1) 59 [.ref (β + q)] μ P := by
  refine r_X5_pop (by simp [lg_sl, Value.category]) (fun X hX => ?_)
  refine b_X5_pop_0 hX ?_
  simp (disch := omega) only [B_X5_pop_0, ↓n_gb, ↓n_gb0, ↓n_ic, ↓n_icm, ↓n_lc, ↓e_lc, ↓e_null, ↓e_ldI, ↓e_ldL, ↓e_ldA, ↓e_stI, ↓e_stL, ↓e_stA, ↓n_inc, ↓n_incm1, ↓n_incm8, ↓e_iadd, ↓e_isub, ↓e_imul, ↓e_iand, ↓e_ior, ↓e_ixor, ↓n_ishl, ↓n_ishr, ↓e_iushr, ↓n_idiv, ↓e_ineg, ↓e_ladd, ↓e_lsub, ↓e_lmul, ↓e_lor, ↓e_lshl, ↓e_lshr, ↓e_i2l, ↓e_l2i, ↓e_i2b, ↓e_lcmp, ↓e_dup, ↓e_dup2, ↓e_pop, ↓e_ceq, ↓e_cne, ↓e_clt, ↓e_cge, ↓e_cgt, ↓e_cle, ↓n_zeq, ↓n_zne, ↓n_zlt, ↓n_zge, ↓n_zgt, ↓n_zle, ↓e_goto, ↓e_nn, ↓e_retI, ↓e_retL, ↓e_retV, ↓n_retZ, ↓e_retA, ↓e_gfI, ↓e_gfL, ↓e_gfR, ↓e_pfI, ↓n_pfZ, ↓e_pfL, ↓e_pfR, ↓e_iald, ↓e_lald, ↓e_aald, ↓e_alen, ↓e_iast, ↓e_bast, ↓n_zast, ↓e_last, ↓e_aast, ↓e_cV, ↓e_cS, ↓e_gsW, ↓e_gsK, ↓e_mmax, ↓e_mmin, ↓e_mmaxL, ↓e_mminL, gEnt, gPad, gArgs, gGet, gS1, gS2, gCl, gNo, gSp, gCt, n_sw, n_gSw, n_gSw0, Option.toList, List.cons_append, List.nil_append, Value.category, and_true, true_and, and_self, not_false_eq_true, not_true_eq_false, Nat.reduceAdd, Nat.reduceSub, Nat.reduceMul, Nat.reduceLeDiff, Nat.reduceLT, Nat.reduceEqDiff, forall_const, true_implies, false_implies, implies_true, Nat.zero_add, Option.some.injEq, Sum.inr.injEq, Sum.inl.injEq, Prod.mk.injEq, exists_eq_left', exists_eq_left, w_ne0, nI_add, w_lt, w_le, w_eq, w_meq, w_eqm, w_mlt, w_ltm, w_mle, w_lem, w_clamp, w_in, w_31, w_ite0, w_ite1, w_ite01, true_or, or_true, false_or, or_false, Nat.le_refl, Nat.lt_irrefl, sq_S0 hS hq, sq_S1 hS hq, sq_S2 hS hq, sq_S3 hS hq, sq_S4 hS hq, sq_S5 hS hq, sq_S6 hS hq, sq_S7 hS hq, sq_S26 hS hq, sq_r0 hR hq, sq_r1 hR hq, sq_r2 hR hq, sq_r3 hR hq, sq_r4 hR hq, sq_r5 hR hq, sq_r6 hR hq, tl_S hS hq, tl_r hR hq, h12, Nat.succ_pos, Nat.zero_lt_succ]
  refine b_X5_pop_9 hX ?_
  simp (disch := omega) only [B_X5_pop_9, ↓n_gb, ↓n_gb0, ↓n_ic, ↓n_icm, ↓n_lc, ↓e_lc, ↓e_null, ↓e_ldI, ↓e_ldL, ↓e_ldA, ↓e_stI, ↓e_stL, ↓e_stA, ↓n_inc, ↓n_incm1, ↓n_incm8, ↓e_iadd, ↓e_isub, ↓e_imul, ↓e_iand, ↓e_ior, ↓e_ixor, ↓n_ishl, ↓n_ishr, ↓e_iushr, ↓n_idiv, ↓e_ineg, ↓e_ladd, ↓e_lsub, ↓e_lmul, ↓e_lor, ↓e_lshl, ↓e_lshr, ↓e_i2l, ↓e_l2i, ↓e_i2b, ↓e_lcmp, ↓e_dup, ↓e_dup2, ↓e_pop, ↓e_ceq, ↓e_cne, ↓e_clt, ↓e_cge, ↓e_cgt, ↓e_cle, ↓n_zeq, ↓n_zne, ↓n_zlt, ↓n_zge, ↓n_zgt, ↓n_zle, ↓e_goto, ↓e_nn, ↓e_retI, ↓e_retL, ↓e_retV, ↓n_retZ, ↓e_retA, ↓e_gfI, ↓e_gfL, ↓e_gfR, ↓e_pfI, ↓n_pfZ, ↓e_pfL, ↓e_pfR, ↓e_iald, ↓e_lald, ↓e_aald, ↓e_alen, ↓e_iast, ↓e_bast, ↓n_zast, ↓e_last, ↓e_aast, ↓e_cV, ↓e_cS, ↓e_gsW, ↓e_gsK, ↓e_mmax, ↓e_mmin, ↓e_mmaxL, ↓e_mminL, gEnt, gPad, gArgs, gGet, gS1, gS2, gCl, gNo, gSp, gCt, n_sw, n_gSw, n_gSw0, Option.toList, List.cons_append, List.nil_append, Value.category, and_true, true_and, and_self, not_false_eq_true, not_true_eq_false, Nat.reduceAdd, Nat.reduceSub, Nat.reduceMul, Nat.reduceLeDiff, Nat.reduceLT, Nat.reduceEqDiff, forall_const, true_implies, false_implies, implies_true, Nat.zero_add, Option.some.injEq, Sum.inr.injEq, Sum.inl.injEq, Prod.mk.injEq, exists_eq_left', exists_eq_left, w_ne0, nI_add, w_lt, w_le, w_eq, w_meq, w_eqm, w_mlt, w_ltm, w_mle, w_lem, w_clamp, w_in, w_31, w_ite0, w_ite1, w_ite01, true_or, or_true, false_or, or_false, Nat.le_refl, Nat.lt_irrefl, sq_S0 hS hq, sq_S1 hS hq, sq_S2 hS hq, sq_S3 hS hq, sq_S4 hS hq, sq_S5 hS hq, sq_S6 hS hq, sq_S7 hS hq, sq_S26 hS hq, sq_r0 hR hq, sq_r1 hR hq, sq_r2 hR hq, sq_r3 hR hq, sq_r4 hR hq, sq_r5 hR hq, sq_r6 hR hq, tl_S hS hq, tl_r hR hq, h12, hd, w_sub, Nat.add_sub_cancel, gU_s, gU_n]
  exact hP
theorem k_combine {S : gSh} {h k : Nat} {a b : Int64} {μ : gM} {P : gP} (hk : 3 ≤ k) (hk8 : k < 8) (hP : P (some (.long (gBin k a b))) μ) : gRun S (h + 1) 57 [.int (gOpC k), .long a, .long b] μ P := by
  have hmin : (if b < a then b else a) = (if a < b then a else b) := by
    by_cases h1 : b < a
    · have h2 : ¬ a < b := fun q => by
        have := Int64.lt_iff_toInt_lt.mp q
        have := Int64.lt_iff_toInt_lt.mp h1
        omega
      rw [if_pos h1, if_neg h2]
    · by_cases h2 : a < b
      · rw [if_neg h1, if_pos h2]
      · rw [if_neg h1, if_neg h2]
        refine Int64.toInt_inj.mp ?_
        have p1 : ¬ b.toInt < a.toInt := fun q => h1 (Int64.lt_iff_toInt_lt.mpr q)
        have p2 : ¬ a.toInt < b.toInt := fun q => h2 (Int64.lt_iff_toInt_lt.mpr q)
        omega
  rcases (show k = 3 ∨ k = 4 ∨ k = 5 ∨ k = 6 ∨ k = 7 by omega) with rfl | rfl | rfl | rfl | rfl
  all_goals
    simp only [gBin, Nat.reduceEqDiff, reduceIte] at hP
    refine r_X5_combine (by simp [lg_sl, Value.category]) (fun X hX => ?_)
    repeat' (first
      | (refine b_X5_combine_0 hX ?_; simp (disch := omega) only [B_X5_combine_0, ↓n_gb, ↓n_gb0, ↓n_ic, ↓n_icm, ↓n_lc, ↓e_lc, ↓e_null, ↓e_ldI, ↓e_ldL, ↓e_ldA, ↓e_stI, ↓e_stL, ↓e_stA, ↓n_inc, ↓n_incm1, ↓n_incm8, ↓e_iadd, ↓e_isub, ↓e_imul, ↓e_iand, ↓e_ior, ↓e_ixor, ↓n_ishl, ↓n_ishr, ↓e_iushr, ↓n_idiv, ↓e_ineg, ↓e_ladd, ↓e_lsub, ↓e_lmul, ↓e_lor, ↓e_lshl, ↓e_lshr, ↓e_i2l, ↓e_l2i, ↓e_i2b, ↓e_lcmp, ↓e_dup, ↓e_dup2, ↓e_pop, ↓e_ceq, ↓e_cne, ↓e_clt, ↓e_cge, ↓e_cgt, ↓e_cle, ↓n_zeq, ↓n_zne, ↓n_zlt, ↓n_zge, ↓n_zgt, ↓n_zle, ↓e_goto, ↓e_nn, ↓e_retI, ↓e_retL, ↓e_retV, ↓n_retZ, ↓e_retA, ↓e_gfI, ↓e_gfL, ↓e_gfR, ↓e_pfI, ↓n_pfZ, ↓e_pfL, ↓e_pfR, ↓e_iald, ↓e_lald, ↓e_aald, ↓e_alen, ↓e_iast, ↓e_bast, ↓n_zast, ↓e_last, ↓e_aast, ↓e_cV, ↓e_cS, ↓e_gsW, ↓e_gsK, ↓e_mmax, ↓e_mmin, ↓e_mmaxL, ↓e_mminL, gEnt, gPad, gArgs, gGet, gS1, gS2, gCl, gNo, gSp, gCt, n_sw, n_gSw, n_gSw0, Option.toList, List.cons_append, List.nil_append, Value.category, and_true, true_and, and_self, not_false_eq_true, not_true_eq_false, Nat.reduceAdd, Nat.reduceSub, Nat.reduceMul, Nat.reduceLeDiff, Nat.reduceLT, Nat.reduceEqDiff, forall_const, true_implies, false_implies, implies_true, Nat.zero_add, Option.some.injEq, Sum.inr.injEq, Sum.inl.injEq, Prod.mk.injEq, exists_eq_left', exists_eq_left, w_ne0, nI_add, w_lt, w_le, w_eq, w_meq, w_eqm, w_mlt, w_ltm, w_mle, w_lem, w_clamp, w_in, w_31, w_ite0, w_ite1, w_ite01, true_or, or_true, false_or, or_false, Nat.le_refl, Nat.lt_irrefl, gOpC, hmin])
      | (refine b_X5_combine_44 hX ?_; simp (disch := omega) only [B_X5_combine_44, ↓n_gb, ↓n_gb0, ↓n_ic, ↓n_icm, ↓n_lc, ↓e_lc, ↓e_null, ↓e_ldI, ↓e_ldL, ↓e_ldA, ↓e_stI, ↓e_stL, ↓e_stA, ↓n_inc, ↓n_incm1, ↓n_incm8, ↓e_iadd, ↓e_isub, ↓e_imul, ↓e_iand, ↓e_ior, ↓e_ixor, ↓n_ishl, ↓n_ishr, ↓e_iushr, ↓n_idiv, ↓e_ineg, ↓e_ladd, ↓e_lsub, ↓e_lmul, ↓e_lor, ↓e_lshl, ↓e_lshr, ↓e_i2l, ↓e_l2i, ↓e_i2b, ↓e_lcmp, ↓e_dup, ↓e_dup2, ↓e_pop, ↓e_ceq, ↓e_cne, ↓e_clt, ↓e_cge, ↓e_cgt, ↓e_cle, ↓n_zeq, ↓n_zne, ↓n_zlt, ↓n_zge, ↓n_zgt, ↓n_zle, ↓e_goto, ↓e_nn, ↓e_retI, ↓e_retL, ↓e_retV, ↓n_retZ, ↓e_retA, ↓e_gfI, ↓e_gfL, ↓e_gfR, ↓e_pfI, ↓n_pfZ, ↓e_pfL, ↓e_pfR, ↓e_iald, ↓e_lald, ↓e_aald, ↓e_alen, ↓e_iast, ↓e_bast, ↓n_zast, ↓e_last, ↓e_aast, ↓e_cV, ↓e_cS, ↓e_gsW, ↓e_gsK, ↓e_mmax, ↓e_mmin, ↓e_mmaxL, ↓e_mminL, gEnt, gPad, gArgs, gGet, gS1, gS2, gCl, gNo, gSp, gCt, n_sw, n_gSw, n_gSw0, Option.toList, List.cons_append, List.nil_append, Value.category, and_true, true_and, and_self, not_false_eq_true, not_true_eq_false, Nat.reduceAdd, Nat.reduceSub, Nat.reduceMul, Nat.reduceLeDiff, Nat.reduceLT, Nat.reduceEqDiff, forall_const, true_implies, false_implies, implies_true, Nat.zero_add, Option.some.injEq, Sum.inr.injEq, Sum.inl.injEq, Prod.mk.injEq, exists_eq_left', exists_eq_left, w_ne0, nI_add, w_lt, w_le, w_eq, w_meq, w_eqm, w_mlt, w_ltm, w_mle, w_lem, w_clamp, w_in, w_31, w_ite0, w_ite1, w_ite01, true_or, or_true, false_or, or_false, Nat.le_refl, Nat.lt_irrefl, gOpC, hmin])
      | (refine b_X5_combine_48 hX ?_; simp (disch := omega) only [B_X5_combine_48, ↓n_gb, ↓n_gb0, ↓n_ic, ↓n_icm, ↓n_lc, ↓e_lc, ↓e_null, ↓e_ldI, ↓e_ldL, ↓e_ldA, ↓e_stI, ↓e_stL, ↓e_stA, ↓n_inc, ↓n_incm1, ↓n_incm8, ↓e_iadd, ↓e_isub, ↓e_imul, ↓e_iand, ↓e_ior, ↓e_ixor, ↓n_ishl, ↓n_ishr, ↓e_iushr, ↓n_idiv, ↓e_ineg, ↓e_ladd, ↓e_lsub, ↓e_lmul, ↓e_lor, ↓e_lshl, ↓e_lshr, ↓e_i2l, ↓e_l2i, ↓e_i2b, ↓e_lcmp, ↓e_dup, ↓e_dup2, ↓e_pop, ↓e_ceq, ↓e_cne, ↓e_clt, ↓e_cge, ↓e_cgt, ↓e_cle, ↓n_zeq, ↓n_zne, ↓n_zlt, ↓n_zge, ↓n_zgt, ↓n_zle, ↓e_goto, ↓e_nn, ↓e_retI, ↓e_retL, ↓e_retV, ↓n_retZ, ↓e_retA, ↓e_gfI, ↓e_gfL, ↓e_gfR, ↓e_pfI, ↓n_pfZ, ↓e_pfL, ↓e_pfR, ↓e_iald, ↓e_lald, ↓e_aald, ↓e_alen, ↓e_iast, ↓e_bast, ↓n_zast, ↓e_last, ↓e_aast, ↓e_cV, ↓e_cS, ↓e_gsW, ↓e_gsK, ↓e_mmax, ↓e_mmin, ↓e_mmaxL, ↓e_mminL, gEnt, gPad, gArgs, gGet, gS1, gS2, gCl, gNo, gSp, gCt, n_sw, n_gSw, n_gSw0, Option.toList, List.cons_append, List.nil_append, Value.category, and_true, true_and, and_self, not_false_eq_true, not_true_eq_false, Nat.reduceAdd, Nat.reduceSub, Nat.reduceMul, Nat.reduceLeDiff, Nat.reduceLT, Nat.reduceEqDiff, forall_const, true_implies, false_implies, implies_true, Nat.zero_add, Option.some.injEq, Sum.inr.injEq, Sum.inl.injEq, Prod.mk.injEq, exists_eq_left', exists_eq_left, w_ne0, nI_add, w_lt, w_le, w_eq, w_meq, w_eqm, w_mlt, w_ltm, w_mle, w_lem, w_clamp, w_in, w_31, w_ite0, w_ite1, w_ite01, true_or, or_true, false_or, or_false, Nat.le_refl, Nat.lt_irrefl, gOpC, hmin])
      | (refine b_X5_combine_52 hX ?_; simp (disch := omega) only [B_X5_combine_52, ↓n_gb, ↓n_gb0, ↓n_ic, ↓n_icm, ↓n_lc, ↓e_lc, ↓e_null, ↓e_ldI, ↓e_ldL, ↓e_ldA, ↓e_stI, ↓e_stL, ↓e_stA, ↓n_inc, ↓n_incm1, ↓n_incm8, ↓e_iadd, ↓e_isub, ↓e_imul, ↓e_iand, ↓e_ior, ↓e_ixor, ↓n_ishl, ↓n_ishr, ↓e_iushr, ↓n_idiv, ↓e_ineg, ↓e_ladd, ↓e_lsub, ↓e_lmul, ↓e_lor, ↓e_lshl, ↓e_lshr, ↓e_i2l, ↓e_l2i, ↓e_i2b, ↓e_lcmp, ↓e_dup, ↓e_dup2, ↓e_pop, ↓e_ceq, ↓e_cne, ↓e_clt, ↓e_cge, ↓e_cgt, ↓e_cle, ↓n_zeq, ↓n_zne, ↓n_zlt, ↓n_zge, ↓n_zgt, ↓n_zle, ↓e_goto, ↓e_nn, ↓e_retI, ↓e_retL, ↓e_retV, ↓n_retZ, ↓e_retA, ↓e_gfI, ↓e_gfL, ↓e_gfR, ↓e_pfI, ↓n_pfZ, ↓e_pfL, ↓e_pfR, ↓e_iald, ↓e_lald, ↓e_aald, ↓e_alen, ↓e_iast, ↓e_bast, ↓n_zast, ↓e_last, ↓e_aast, ↓e_cV, ↓e_cS, ↓e_gsW, ↓e_gsK, ↓e_mmax, ↓e_mmin, ↓e_mmaxL, ↓e_mminL, gEnt, gPad, gArgs, gGet, gS1, gS2, gCl, gNo, gSp, gCt, n_sw, n_gSw, n_gSw0, Option.toList, List.cons_append, List.nil_append, Value.category, and_true, true_and, and_self, not_false_eq_true, not_true_eq_false, Nat.reduceAdd, Nat.reduceSub, Nat.reduceMul, Nat.reduceLeDiff, Nat.reduceLT, Nat.reduceEqDiff, forall_const, true_implies, false_implies, implies_true, Nat.zero_add, Option.some.injEq, Sum.inr.injEq, Sum.inl.injEq, Prod.mk.injEq, exists_eq_left', exists_eq_left, w_ne0, nI_add, w_lt, w_le, w_eq, w_meq, w_eqm, w_mlt, w_ltm, w_mle, w_lem, w_clamp, w_in, w_31, w_ite0, w_ite1, w_ite01, true_or, or_true, false_or, or_false, Nat.le_refl, Nat.lt_irrefl, gOpC, hmin])
      | (refine b_X5_combine_56 hX ?_; simp (disch := omega) only [B_X5_combine_56, ↓n_gb, ↓n_gb0, ↓n_ic, ↓n_icm, ↓n_lc, ↓e_lc, ↓e_null, ↓e_ldI, ↓e_ldL, ↓e_ldA, ↓e_stI, ↓e_stL, ↓e_stA, ↓n_inc, ↓n_incm1, ↓n_incm8, ↓e_iadd, ↓e_isub, ↓e_imul, ↓e_iand, ↓e_ior, ↓e_ixor, ↓n_ishl, ↓n_ishr, ↓e_iushr, ↓n_idiv, ↓e_ineg, ↓e_ladd, ↓e_lsub, ↓e_lmul, ↓e_lor, ↓e_lshl, ↓e_lshr, ↓e_i2l, ↓e_l2i, ↓e_i2b, ↓e_lcmp, ↓e_dup, ↓e_dup2, ↓e_pop, ↓e_ceq, ↓e_cne, ↓e_clt, ↓e_cge, ↓e_cgt, ↓e_cle, ↓n_zeq, ↓n_zne, ↓n_zlt, ↓n_zge, ↓n_zgt, ↓n_zle, ↓e_goto, ↓e_nn, ↓e_retI, ↓e_retL, ↓e_retV, ↓n_retZ, ↓e_retA, ↓e_gfI, ↓e_gfL, ↓e_gfR, ↓e_pfI, ↓n_pfZ, ↓e_pfL, ↓e_pfR, ↓e_iald, ↓e_lald, ↓e_aald, ↓e_alen, ↓e_iast, ↓e_bast, ↓n_zast, ↓e_last, ↓e_aast, ↓e_cV, ↓e_cS, ↓e_gsW, ↓e_gsK, ↓e_mmax, ↓e_mmin, ↓e_mmaxL, ↓e_mminL, gEnt, gPad, gArgs, gGet, gS1, gS2, gCl, gNo, gSp, gCt, n_sw, n_gSw, n_gSw0, Option.toList, List.cons_append, List.nil_append, Value.category, and_true, true_and, and_self, not_false_eq_true, not_true_eq_false, Nat.reduceAdd, Nat.reduceSub, Nat.reduceMul, Nat.reduceLeDiff, Nat.reduceLT, Nat.reduceEqDiff, forall_const, true_implies, false_implies, implies_true, Nat.zero_add, Option.some.injEq, Sum.inr.injEq, Sum.inl.injEq, Prod.mk.injEq, exists_eq_left', exists_eq_left, w_ne0, nI_add, w_lt, w_le, w_eq, w_meq, w_eqm, w_mlt, w_ltm, w_mle, w_lem, w_clamp, w_in, w_31, w_ite0, w_ite1, w_ite01, true_or, or_true, false_or, or_false, Nat.le_refl, Nat.lt_irrefl, gOpC, hmin])
      | (refine b_X5_combine_62 hX ?_; simp (disch := omega) only [B_X5_combine_62, ↓n_gb, ↓n_gb0, ↓n_ic, ↓n_icm, ↓n_lc, ↓e_lc, ↓e_null, ↓e_ldI, ↓e_ldL, ↓e_ldA, ↓e_stI, ↓e_stL, ↓e_stA, ↓n_inc, ↓n_incm1, ↓n_incm8, ↓e_iadd, ↓e_isub, ↓e_imul, ↓e_iand, ↓e_ior, ↓e_ixor, ↓n_ishl, ↓n_ishr, ↓e_iushr, ↓n_idiv, ↓e_ineg, ↓e_ladd, ↓e_lsub, ↓e_lmul, ↓e_lor, ↓e_lshl, ↓e_lshr, ↓e_i2l, ↓e_l2i, ↓e_i2b, ↓e_lcmp, ↓e_dup, ↓e_dup2, ↓e_pop, ↓e_ceq, ↓e_cne, ↓e_clt, ↓e_cge, ↓e_cgt, ↓e_cle, ↓n_zeq, ↓n_zne, ↓n_zlt, ↓n_zge, ↓n_zgt, ↓n_zle, ↓e_goto, ↓e_nn, ↓e_retI, ↓e_retL, ↓e_retV, ↓n_retZ, ↓e_retA, ↓e_gfI, ↓e_gfL, ↓e_gfR, ↓e_pfI, ↓n_pfZ, ↓e_pfL, ↓e_pfR, ↓e_iald, ↓e_lald, ↓e_aald, ↓e_alen, ↓e_iast, ↓e_bast, ↓n_zast, ↓e_last, ↓e_aast, ↓e_cV, ↓e_cS, ↓e_gsW, ↓e_gsK, ↓e_mmax, ↓e_mmin, ↓e_mmaxL, ↓e_mminL, gEnt, gPad, gArgs, gGet, gS1, gS2, gCl, gNo, gSp, gCt, n_sw, n_gSw, n_gSw0, Option.toList, List.cons_append, List.nil_append, Value.category, and_true, true_and, and_self, not_false_eq_true, not_true_eq_false, Nat.reduceAdd, Nat.reduceSub, Nat.reduceMul, Nat.reduceLeDiff, Nat.reduceLT, Nat.reduceEqDiff, forall_const, true_implies, false_implies, implies_true, Nat.zero_add, Option.some.injEq, Sum.inr.injEq, Sum.inl.injEq, Prod.mk.injEq, exists_eq_left', exists_eq_left, w_ne0, nI_add, w_lt, w_le, w_eq, w_meq, w_eqm, w_mlt, w_ltm, w_mle, w_lem, w_clamp, w_in, w_31, w_ite0, w_ite1, w_ite01, true_or, or_true, false_or, or_false, Nat.le_refl, Nat.lt_irrefl, gOpC, hmin])
      | (refine ⟨fun _ => ?_, fun _ => ?_⟩ <;> try (exfalso; omega))
      | (refine fun _ => ?_))
    exact hP
