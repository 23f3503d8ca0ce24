/-! THE TEXT, the class: the names of a tell -/
def dQr (β q n s e : Nat) (μ μ' : gM) : Prop := (∀ a i, ¬ ((a = β + (q + 4) ∨ a = β + (q + 5)) ∧ s ≤ i ∧ i < e) → ¬ (a = β + (q + 8 + n) ∧ i = 8) → μ'.1 a i = μ.1 a i) ∧ μ'.2 = μ.2
theorem dQr_t {β q n s e : Nat} {μ μ1 μ2 : gM} (h1 : dQr β q n s e μ μ1) (h2 : dQr β q n s e μ1 μ2) : dQr β q n s e μ μ2 := ⟨fun a i x y => (h2.1 a i x y).trans (h1.1 a i x y), h2.2.trans h1.2⟩
theorem dQr_w {β q n s s' e : Nat} {μ μ' : gM} (hs : s ≤ s') (h : dQr β q n s' e μ μ') : dQr β q n s e μ μ' := ⟨fun a i x y => h.1 a i (by omega) y, h.2⟩
theorem sOp {rv : Nat → Nat × Nat × Nat × Nat} {vl : Nat → Nat} {x : Nat × Nat} (h : x.1 = 2 ∨ (x.2 = 0 ∧ (x.1 = 9 ∨ x.1 = 10 ∨ x.1 = 42 ∨ x.1 = 43 ∨ x.1 = 45))) : nI x.1 = gOpC (eO rv x) ∧ dA vl x = nI (eV rv vl x) := by
  rcases h with h | ⟨h0, h | h | h | h | h⟩
  · have e1 : eO rv x = 0 := if_pos h
    have e2 : eV rv vl x = vl x.2 := if_pos h
    rw [e1, e2, h]
    exact ⟨rfl, if_pos h⟩
  all_goals
    have e2 : eV rv vl x = 0 := by unfold eV; rw [if_neg (by omega), if_neg (by omega)]
    have e3 : dA vl x = nI 0 := by unfold dA; rw [if_neg (by omega), h0]
    rw [e2, e3]
    refine ⟨?_, rfl⟩
    unfold eO
    rw [h]
    rfl
theorem dQr_T {β q n s e sz : Nat} {K pl vl : Nat → Nat} {μ μ' : gM} (hq : q = 56 ∨ q = 83) (hn : n < 18) (f : dQr β q n s e μ μ') (h : dT β sz K pl vl μ) : dT β sz K pl vl μ' := by
  obtain ⟨h1, h2⟩ := h
  refine ⟨(f.1 _ _ (by omega) (by omega)).trans h1, fun p hp => ?_⟩
  rw [f.1 _ _ (by omega) (by omega), f.1 _ _ (by omega) (by omega), f.2]
  exact h2 p hp
theorem dQr_A {β q s e : Nat} {vl : Nat → Nat} {g : zG} {tl : List rTl} {μ μ' : gM} (f : dQr β q tl.length s e μ μ') (h : dAh β q vl g tl μ) : dAh β q vl g tl μ' := fun j x hx => by
  have hj := lt_get hx
  rw [f.2, f.1 _ _ (by omega) (by omega), f.1 _ _ (by omega) (by omega), f.1 _ _ (by omega) (by omega)]
  exact h j x hx
set_option maxHeartbeats 4000000 in
theorem namesLoop {S : gSh} {h β q sz e p b : Nat} {K pl vl : Nat → Nat} {g : zG} {tl : List rTl} {P : gP} {X : Nat → gK} (hX : gClo K_X2_resolveNames S (gRun S (h + 2)) P X) (hS : gLS S β) (hq : q = 56 ∨ q = 83) (hsz : sz ≤ 401) (hK : ∀ t, sz ≤ t → K t = 0) (hl : tl.length < 18) (hvl : ∀ p, vl p < 9223372036854775808) (hrl : zRl g tl) (hcl : zCl g) (he : e ≤ 400) : ∀ (c : List (Nat × Nat)) i a u μ, i + c.length = e → a < 64 → (∀ t, u = some t → t < sz) → gPS μ.2.2 β → dT β sz K pl vl μ → μ.2.2 (β + 3) 1 = β + q → dAh β q vl g tl μ → μ.1 (β + (q + 8 + tl.length)) 10 = nI e → μ.1 (β + (q + 8 + tl.length)) 8 = nI a → (∀ (j : Nat) (x : Nat × Nat), c[j]? = some x → μ.1 (β + (q + 4)) (i + j) = nI x.1 ∧ μ.1 (β + (q + 5)) (i + j) = dA vl x) → sT K p b c →
    (∀ μ', dQr β q tl.length i e μ μ' → μ'.1 (β + (q + 8 + tl.length)) 8 = nI (zN (zR vl g p) c a) → (zU (zR vl g p) c = none → ∀ (j : Nat) (x : Nat × Nat), c[j]? = some x → μ'.1 (β + (q + 4)) (i + j) = gOpC (eO (zR vl g p) x) ∧ μ'.1 (β + (q + 5)) (i + j) = nI (eV (zR vl g p) vl x)) → P (some (.int (eN (u.or (zU (zR vl g p) c))))) μ') →
    X 23 μ [some (.ref (β + 3)), some (.int (nI tl.length)), some (.ref (β + (q + 8 + tl.length))), some (.int (eN u)), some (.int (nI i))] [] := by
  have tlS := tl_S hS hq hl
  intro c
  induction c with
  | nil =>
    intro i a u μ hi ha hu hR ht hd hA h10 h8 hst hT hP
    have ei : i = e := by simpa using hi
    have ge : e ≤ i := by omega
    refine b_X2_resolveNames_23 hX ?_
    simp (disch := omega) only [B_X2_resolveNames_23, ↓n_gb, ↓n_gb0, ↓n_ic, ↓n_icm, ↓n_lc, ↓e_lc, ↓e_null, ↓e_ldI, ↓e_ldL, ↓e_ldA, ↓e_stI, ↓e_stL, ↓e_stA, ↓n_inc, ↓n_incm1, ↓n_incm8, ↓e_iadd, ↓e_isub, ↓e_imul, ↓e_iand, ↓e_ior, ↓e_ixor, ↓n_ishl, ↓n_ishr, ↓e_iushr, ↓n_idiv, ↓e_ineg, ↓e_ladd, ↓e_lsub, ↓e_lmul, ↓e_lor, ↓e_lshl, ↓e_lshr, ↓e_i2l, ↓e_l2i, ↓e_i2b, ↓e_lcmp, ↓e_dup, ↓e_dup2, ↓e_pop, ↓e_ceq, ↓e_cne, ↓e_clt, ↓e_cge, ↓e_cgt, ↓e_cle, ↓n_zeq, ↓n_zne, ↓n_zlt, ↓n_zge, ↓n_zgt, ↓n_zle, ↓e_goto, ↓e_nn, ↓e_retI, ↓e_retL, ↓e_retV, ↓n_retZ, ↓e_retA, ↓e_gfI, ↓e_gfL, ↓e_gfR, ↓e_pfI, ↓n_pfZ, ↓e_pfL, ↓e_pfR, ↓e_iald, ↓e_lald, ↓e_aald, ↓e_alen, ↓e_iast, ↓e_bast, ↓n_zast, ↓e_last, ↓e_aast, ↓e_cV, ↓e_cS, ↓e_gsW, ↓e_gsK, ↓e_mmax, ↓e_mmin, ↓e_mmaxL, ↓e_mminL, gEnt, gPad, gArgs, gGet, gS1, gS2, gCl, gNo, gSp, gCt, n_sw, n_gSw, n_gSw0, Option.toList, List.cons_append, List.nil_append, Value.category, and_true, true_and, and_self, not_false_eq_true, not_true_eq_false, Nat.reduceAdd, Nat.reduceSub, Nat.reduceMul, Nat.reduceLeDiff, Nat.reduceLT, Nat.reduceEqDiff, forall_const, true_implies, false_implies, implies_true, Nat.zero_add, Option.some.injEq, Sum.inr.injEq, Sum.inl.injEq, Prod.mk.injEq, exists_eq_left', exists_eq_left, w_ne0, nI_add, w_lt, w_le, w_eq, w_meq, w_eqm, w_mlt, w_ltm, w_mle, w_lem, w_clamp, w_in, w_31, w_ite0, w_ite1, w_ite01, true_or, or_true, false_or, or_false, Nat.le_refl, Nat.lt_irrefl, S_3 hS, sq_S0 hS hq, sq_S1 hS hq, sq_S2 hS hq, sq_S3 hS hq, sq_S4 hS hq, sq_S5 hS hq, sq_S6 hS hq, sq_S7 hS hq, sq_S26 hS hq, sq_r0 hR hq, sq_r1 hR hq, sq_r2 hR hq, sq_r3 hR hq, sq_r4 hR hq, sq_r5 hR hq, sq_r6 hR hq, tl_S hS hq, tl_r hR hq, h10, ge]
    refine b_X2_resolveNames_91 hX ?_
    simp (disch := omega) only [B_X2_resolveNames_91, ↓n_gb, ↓n_gb0, ↓n_ic, ↓n_icm, ↓n_lc, ↓e_lc, ↓e_null, ↓e_ldI, ↓e_ldL, ↓e_ldA, ↓e_stI, ↓e_stL, ↓e_stA, ↓n_inc, ↓n_incm1, ↓n_incm8, ↓e_iadd, ↓e_isub, ↓e_imul, ↓e_iand, ↓e_ior, ↓e_ixor, ↓n_ishl, ↓n_ishr, ↓e_iushr, ↓n_idiv, ↓e_ineg, ↓e_ladd, ↓e_lsub, ↓e_lmul, ↓e_lor, ↓e_lshl, ↓e_lshr, ↓e_i2l, ↓e_l2i, ↓e_i2b, ↓e_lcmp, ↓e_dup, ↓e_dup2, ↓e_pop, ↓e_ceq, ↓e_cne, ↓e_clt, ↓e_cge, ↓e_cgt, ↓e_cle, ↓n_zeq, ↓n_zne, ↓n_zlt, ↓n_zge, ↓n_zgt, ↓n_zle, ↓e_goto, ↓e_nn, ↓e_retI, ↓e_retL, ↓e_retV, ↓n_retZ, ↓e_retA, ↓e_gfI, ↓e_gfL, ↓e_gfR, ↓e_pfI, ↓n_pfZ, ↓e_pfL, ↓e_pfR, ↓e_iald, ↓e_lald, ↓e_aald, ↓e_alen, ↓e_iast, ↓e_bast, ↓n_zast, ↓e_last, ↓e_aast, ↓e_cV, ↓e_cS, ↓e_gsW, ↓e_gsK, ↓e_mmax, ↓e_mmin, ↓e_mmaxL, ↓e_mminL, gEnt, gPad, gArgs, gGet, gS1, gS2, gCl, gNo, gSp, gCt, n_sw, n_gSw, n_gSw0, Option.toList, List.cons_append, List.nil_append, Value.category, and_true, true_and, and_self, not_false_eq_true, not_true_eq_false, Nat.reduceAdd, Nat.reduceSub, Nat.reduceMul, Nat.reduceLeDiff, Nat.reduceLT, Nat.reduceEqDiff, forall_const, true_implies, false_implies, implies_true, Nat.zero_add, Option.some.injEq, Sum.inr.injEq, Sum.inl.injEq, Prod.mk.injEq, exists_eq_left', exists_eq_left, w_ne0, nI_add, w_lt, w_le, w_eq, w_meq, w_eqm, w_mlt, w_ltm, w_mle, w_lem, w_clamp, w_in, w_31, w_ite0, w_ite1, w_ite01, true_or, or_true, false_or, or_false, Nat.le_refl, Nat.lt_irrefl, S_3 hS, sq_S0 hS hq, sq_S1 hS hq, sq_S2 hS hq, sq_S3 hS hq, sq_S4 hS hq, sq_S5 hS hq, sq_S6 hS hq, sq_S7 hS hq, sq_S26 hS hq, sq_r0 hR hq, sq_r1 hR hq, sq_r2 hR hq, sq_r3 hR hq, sq_r4 hR hq, sq_r5 hR hq, sq_r6 hR hq, tl_S hS hq, tl_r hR hq]
    have := hP μ ⟨fun _ _ _ _ => rfl, rfl⟩ h8 (fun _ j x hx => by simp at hx)
    simp only [zU, Option.or_none] at this
    exact this
  | cons x c ih =>
    intro i a u μ hi ha hu hR ht hd hA h10 h8 hst hT hP
    have hi2 : i + 1 + c.length = e := by simp at hi; omega
    have ge : ¬ e ≤ i := by omega
    have gi : i < 400 := by omega
    have gi' : ¬ 400 ≤ i := by omega
    have hs0 := hst 0 x rfl
    simp only [Nat.add_zero] at hs0
    obtain ⟨s1, s2⟩ := hs0
    have hTc : sT K p b c := ⟨fun y hy => hT.1 y (List.mem_cons_of_mem _ hy), (List.pairwise_cons.1 hT.2).2⟩
    have hx := hT.1 x List.mem_cons_self
    have hx256 : x.1 < 256 := by omega
    by_cases c3 : x.1 = 3
    · have hx' : K x.2 = 3 ∧ p ≤ x.2 := by omega
      have hxs : x.2 < sz := Nat.lt_of_not_le (fun z => by have := hK _ z; omega)
      have eR : zR vl g p x.2 = eRv vl (zln g) (zls g) (zL g) x.2 := zR_ge hx'.2
      have s2' : μ.1 (β + (q + 5)) i = nI x.2 := by rw [s2]; exact if_neg (by omega)
      rw [c3] at s1
      have eo : eO (zR vl g p) x = (eRv vl (zln g) (zls g) (zL g) x.2).1 := by unfold eO; rw [if_neg (by omega), if_pos c3, eR]
      have ev : eV (zR vl g p) vl x = (eRv vl (zln g) (zls g) (zL g) x.2).2.1 := by unfold eV; rw [if_neg (by omega), if_pos c3, eR]
      obtain ⟨r64, rk⟩ := eRv_c (vl := vl) (q := x.2) hcl
      refine b_X2_resolveNames_23 hX ?_
      simp (disch := omega) only [B_X2_resolveNames_23, ↓n_gb, ↓n_gb0, ↓n_ic, ↓n_icm, ↓n_lc, ↓e_lc, ↓e_null, ↓e_ldI, ↓e_ldL, ↓e_ldA, ↓e_stI, ↓e_stL, ↓e_stA, ↓n_inc, ↓n_incm1, ↓n_incm8, ↓e_iadd, ↓e_isub, ↓e_imul, ↓e_iand, ↓e_ior, ↓e_ixor, ↓n_ishl, ↓n_ishr, ↓e_iushr, ↓n_idiv, ↓e_ineg, ↓e_ladd, ↓e_lsub, ↓e_lmul, ↓e_lor, ↓e_lshl, ↓e_lshr, ↓e_i2l, ↓e_l2i, ↓e_i2b, ↓e_lcmp, ↓e_dup, ↓e_dup2, ↓e_pop, ↓e_ceq, ↓e_cne, ↓e_clt, ↓e_cge, ↓e_cgt, ↓e_cle, ↓n_zeq, ↓n_zne, ↓n_zlt, ↓n_zge, ↓n_zgt, ↓n_zle, ↓e_goto, ↓e_nn, ↓e_retI, ↓e_retL, ↓e_retV, ↓n_retZ, ↓e_retA, ↓e_gfI, ↓e_gfL, ↓e_gfR, ↓e_pfI, ↓n_pfZ, ↓e_pfL, ↓e_pfR, ↓e_iald, ↓e_lald, ↓e_aald, ↓e_alen, ↓e_iast, ↓e_bast, ↓n_zast, ↓e_last, ↓e_aast, ↓e_cV, ↓e_cS, ↓e_gsW, ↓e_gsK, ↓e_mmax, ↓e_mmin, ↓e_mmaxL, ↓e_mminL, gEnt, gPad, gArgs, gGet, gS1, gS2, gCl, gNo, gSp, gCt, n_sw, n_gSw, n_gSw0, Option.toList, List.cons_append, List.nil_append, Value.category, and_true, true_and, and_self, not_false_eq_true, not_true_eq_false, Nat.reduceAdd, Nat.reduceSub, Nat.reduceMul, Nat.reduceLeDiff, Nat.reduceLT, Nat.reduceEqDiff, forall_const, true_implies, false_implies, implies_true, Nat.zero_add, Option.some.injEq, Sum.inr.injEq, Sum.inl.injEq, Prod.mk.injEq, exists_eq_left', exists_eq_left, w_ne0, nI_add, w_lt, w_le, w_eq, w_meq, w_eqm, w_mlt, w_ltm, w_mle, w_lem, w_clamp, w_in, w_31, w_ite0, w_ite1, w_ite01, true_or, or_true, false_or, or_false, Nat.le_refl, Nat.lt_irrefl, S_3 hS, sq_S0 hS hq, sq_S1 hS hq, sq_S2 hS hq, sq_S3 hS hq, sq_S4 hS hq, sq_S5 hS hq, sq_S6 hS hq, sq_S7 hS hq, sq_S26 hS hq, sq_r0 hR hq, sq_r1 hR hq, sq_r2 hR hq, sq_r3 hR hq, sq_r4 hR hq, sq_r5 hR hq, sq_r6 hR hq, tl_S hS hq, tl_r hR hq, h10, ge, hd, gi, gi', s1]
      refine k_resolveStep hS hR hq hsz ht hd hl hvl hrl hcl hA gi hxs s2' ha h8 (fun e0 => ?_) (fun e2 => ?_)
      · have hU : zU (zR vl g p) (x :: c) = zU (zR vl g p) c := by
          simp only [zU]
          rw [if_neg (by rw [eR]; omega)]
        have hN : zN (zR vl g p) (x :: c) a = zN (zR vl g p) c (a ||| (eRv vl (zln g) (zls g) (zL g) x.2).2.2.1) := by
          simp only [zN]
          rw [if_pos c3, eR]
        rw [hU, hN] at hP
        generalize (eRv vl (zln g) (zls g) (zL g) x.2) = r at *
        have F : dQr β q tl.length i e μ (gU (gU (gU μ.1 (β + (q + 4)) i (gOpC r.1)) (β + (q + 5)) i (nI r.2.1)) (β + (q + 8 + tl.length)) 8 (nI (a ||| r.2.2.1)), μ.2) := ⟨fun y j z w => by dsimp only; rw [gU_n (by omega), gU_n (by omega), gU_n (by omega)], rfl⟩
        have k1 : (gU (gU (gU μ.1 (β + (q + 4)) i (gOpC r.1)) (β + (q + 5)) i (nI r.2.1)) (β + (q + 8 + tl.length)) 8 (nI (a ||| r.2.2.1))) (β + (q + 8 + tl.length)) 8 = nI (a ||| r.2.2.1) := gU_s
        have k2 : (gU (gU (gU μ.1 (β + (q + 4)) i (gOpC r.1)) (β + (q + 5)) i (nI r.2.1)) (β + (q + 8 + tl.length)) 8 (nI (a ||| r.2.2.1))) (β + (q + 4)) i = gOpC r.1 := by rw [gU_n (by omega), gU_n (by omega), gU_s]
        have k3 : (gU (gU (gU μ.1 (β + (q + 4)) i (gOpC r.1)) (β + (q + 5)) i (nI r.2.1)) (β + (q + 8 + tl.length)) 8 (nI (a ||| r.2.2.1))) (β + (q + 5)) i = nI r.2.1 := by rw [gU_n (by omega), gU_s]
        have k4 : ∀ j, 1 ≤ j → (gU (gU (gU μ.1 (β + (q + 4)) i (gOpC r.1)) (β + (q + 5)) i (nI r.2.1)) (β + (q + 8 + tl.length)) 8 (nI (a ||| r.2.2.1))) (β + (q + 4)) (i + j) = μ.1 (β + (q + 4)) (i + j) ∧ (gU (gU (gU μ.1 (β + (q + 4)) i (gOpC r.1)) (β + (q + 5)) i (nI r.2.1)) (β + (q + 8 + tl.length)) 8 (nI (a ||| r.2.2.1))) (β + (q + 5)) (i + j) = μ.1 (β + (q + 5)) (i + j) := fun j hj => ⟨by rw [gU_n (by omega), gU_n (by omega), gU_n (by omega)], by rw [gU_n (by omega), gU_n (by omega), gU_n (by omega)]⟩
        generalize hμ : ((gU (gU (gU μ.1 (β + (q + 4)) i (gOpC r.1)) (β + (q + 5)) i (nI r.2.1)) (β + (q + 8 + tl.length)) 8 (nI (a ||| r.2.2.1)), μ.2) : gM) = μ1 at F ⊢
        have e1 : μ1.1 = gU (gU (gU μ.1 (β + (q + 4)) i (gOpC r.1)) (β + (q + 5)) i (nI r.2.1)) (β + (q + 8 + tl.length)) 8 (nI (a ||| r.2.2.1)) := by rw [← hμ]
        rw [← e1] at k1 k2 k3 k4
        have hR1 : gPS μ1.2.2 β := by rw [F.2]; exact hR
        have hR := hR1
        simp (disch := omega) only [↓n_gb, ↓n_gb0, ↓n_ic, ↓n_icm, ↓n_lc, ↓e_lc, ↓e_null, ↓e_ldI, ↓e_ldL, ↓e_ldA, ↓e_stI, ↓e_stL, ↓e_stA, ↓n_inc, ↓n_incm1, ↓n_incm8, ↓e_iadd, ↓e_isub, ↓e_imul, ↓e_iand, ↓e_ior, ↓e_ixor, ↓n_ishl, ↓n_ishr, ↓e_iushr, ↓n_idiv, ↓e_ineg, ↓e_ladd, ↓e_lsub, ↓e_lmul, ↓e_lor, ↓e_lshl, ↓e_lshr, ↓e_i2l, ↓e_l2i, ↓e_i2b, ↓e_lcmp, ↓e_dup, ↓e_dup2, ↓e_pop, ↓e_ceq, ↓e_cne, ↓e_clt, ↓e_cge, ↓e_cgt, ↓e_cle, ↓n_zeq, ↓n_zne, ↓n_zlt, ↓n_zge, ↓n_zgt, ↓n_zle, ↓e_goto, ↓e_nn, ↓e_retI, ↓e_retL, ↓e_retV, ↓n_retZ, ↓e_retA, ↓e_gfI, ↓e_gfL, ↓e_gfR, ↓e_pfI, ↓n_pfZ, ↓e_pfL, ↓e_pfR, ↓e_iald, ↓e_lald, ↓e_aald, ↓e_alen, ↓e_iast, ↓e_bast, ↓n_zast, ↓e_last, ↓e_aast, ↓e_cV, ↓e_cS, ↓e_gsW, ↓e_gsK, ↓e_mmax, ↓e_mmin, ↓e_mmaxL, ↓e_mminL, gEnt, gPad, gArgs, gGet, gS1, gS2, gCl, gNo, gSp, gCt, n_sw, n_gSw, n_gSw0, Option.toList, List.cons_append, List.nil_append, Value.category, and_true, true_and, and_self, not_false_eq_true, not_true_eq_false, Nat.reduceAdd, Nat.reduceSub, Nat.reduceMul, Nat.reduceLeDiff, Nat.reduceLT, Nat.reduceEqDiff, forall_const, true_implies, false_implies, implies_true, Nat.zero_add, Option.some.injEq, Sum.inr.injEq, Sum.inl.injEq, Prod.mk.injEq, exists_eq_left', exists_eq_left, w_ne0, nI_add, w_lt, w_le, w_eq, w_meq, w_eqm, w_mlt, w_ltm, w_mle, w_lem, w_clamp, w_in, w_31, w_ite0, w_ite1, w_ite01, true_or, or_true, false_or, or_false, Nat.le_refl, Nat.lt_irrefl, S_3 hS, sq_S0 hS hq, sq_S1 hS hq, sq_S2 hS hq, sq_S3 hS hq, sq_S4 hS hq, sq_S5 hS hq, sq_S6 hS hq, sq_S7 hS hq, sq_S26 hS hq, sq_r0 hR hq, sq_r1 hR hq, sq_r2 hR hq, sq_r3 hR hq, sq_r4 hR hq, sq_r5 hR hq, sq_r6 hR hq, tl_S hS hq, tl_r hR hq]
        refine b_X2_resolveNames_85 hX ?_
        simp (disch := omega) only [B_X2_resolveNames_85, ↓n_gb, ↓n_gb0, ↓n_ic, ↓n_icm, ↓n_lc, ↓e_lc, ↓e_null, ↓e_ldI, ↓e_ldL, ↓e_ldA, ↓e_stI, ↓e_stL, ↓e_stA, ↓n_inc, ↓n_incm1, ↓n_incm8, ↓e_iadd, ↓e_isub, ↓e_imul, ↓e_iand, ↓e_ior, ↓e_ixor, ↓n_ishl, ↓n_ishr, ↓e_iushr, ↓n_idiv, ↓e_ineg, ↓e_ladd, ↓e_lsub, ↓e_lmul, ↓e_lor, ↓e_lshl, ↓e_lshr, ↓e_i2l, ↓e_l2i, ↓e_i2b, ↓e_lcmp, ↓e_dup, ↓e_dup2, ↓e_pop, ↓e_ceq, ↓e_cne, ↓e_clt, ↓e_cge, ↓e_cgt, ↓e_cle, ↓n_zeq, ↓n_zne, ↓n_zlt, ↓n_zge, ↓n_zgt, ↓n_zle, ↓e_goto, ↓e_nn, ↓e_retI, ↓e_retL, ↓e_retV, ↓n_retZ, ↓e_retA, ↓e_gfI, ↓e_gfL, ↓e_gfR, ↓e_pfI, ↓n_pfZ, ↓e_pfL, ↓e_pfR, ↓e_iald, ↓e_lald, ↓e_aald, ↓e_alen, ↓e_iast, ↓e_bast, ↓n_zast, ↓e_last, ↓e_aast, ↓e_cV, ↓e_cS, ↓e_gsW, ↓e_gsK, ↓e_mmax, ↓e_mmin, ↓e_mmaxL, ↓e_mminL, gEnt, gPad, gArgs, gGet, gS1, gS2, gCl, gNo, gSp, gCt, n_sw, n_gSw, n_gSw0, Option.toList, List.cons_append, List.nil_append, Value.category, and_true, true_and, and_self, not_false_eq_true, not_true_eq_false, Nat.reduceAdd, Nat.reduceSub, Nat.reduceMul, Nat.reduceLeDiff, Nat.reduceLT, Nat.reduceEqDiff, forall_const, true_implies, false_implies, implies_true, Nat.zero_add, Option.some.injEq, Sum.inr.injEq, Sum.inl.injEq, Prod.mk.injEq, exists_eq_left', exists_eq_left, w_ne0, nI_add, w_lt, w_le, w_eq, w_meq, w_eqm, w_mlt, w_ltm, w_mle, w_lem, w_clamp, w_in, w_31, w_ite0, w_ite1, w_ite01, true_or, or_true, false_or, or_false, Nat.le_refl, Nat.lt_irrefl, S_3 hS, sq_S0 hS hq, sq_S1 hS hq, sq_S2 hS hq, sq_S3 hS hq, sq_S4 hS hq, sq_S5 hS hq, sq_S6 hS hq, sq_S7 hS hq, sq_S26 hS hq, sq_r0 hR hq, sq_r1 hR hq, sq_r2 hR hq, sq_r3 hR hq, sq_r4 hR hq, sq_r5 hR hq, sq_r6 hR hq, tl_S hS hq, tl_r hR hq]
        refine ih (i + 1) _ u μ1 hi2 (Nat.or_lt_two_pow (n := 6) ha r64) hu hR1 (dQr_T hq hl F ht) (by rw [F.2]; exact hd) (dQr_A F hA) ?_ k1 (fun j y hy => ?_) hTc (fun μ2 f2 g1 g2 => hP μ2 (dQr_t F (dQr_w (by omega) f2)) g1 (fun hz j y hy => ?_))
        · rw [F.1 _ _ (by omega) (by omega)]; exact h10
        · rw [show i + 1 + j = i + (j + 1) by omega, (k4 (j + 1) (by omega)).1, (k4 (j + 1) (by omega)).2]
          exact hst (j + 1) y (by simpa using hy)
        · cases j with
          | zero =>
            have ey : y = x := by simpa using hy.symm
            rw [ey, Nat.add_zero, eo, ev, f2.1 _ _ (by omega) (by omega), f2.1 _ _ (by omega) (by omega)]
            exact ⟨k2, k3⟩
          | succ j =>
            have := g2 hz j y (by simpa using hy)
            rw [show i + 1 + j = i + (j + 1) by omega] at this
            exact this
      · have hU : zU (zR vl g p) (x :: c) = some x.2 := by
          simp only [zU]
          rw [if_pos ⟨c3, by rw [eR]; exact e2⟩]
        have r0 : (eRv vl (zln g) (zls g) (zL g) x.2).2.2.1 = 0 := by omega
        have hN : zN (zR vl g p) (x :: c) a = zN (zR vl g p) c a := by
          simp only [zN]
          rw [if_pos c3, eR, r0, Nat.or_zero]
        rw [hU, hN] at hP
        have nx : ∀ u', u.or (some x.2) = u' → (∃ t, u' = some t ∧ t < sz) → X 85 μ [some (.ref (β + 3)), some (.int (nI tl.length)), some (.ref (β + (q + 8 + tl.length))), some (.int (eN u')), some (.int (nI i))] [] := by
          rintro u' hu' ⟨t, ut, hts⟩
          rw [hu'] at hP
          rw [ut] at hP ⊢
          refine b_X2_resolveNames_85 hX ?_
          simp (disch := omega) only [B_X2_resolveNames_85, ↓n_gb, ↓n_gb0, ↓n_ic, ↓n_icm, ↓n_lc, ↓e_lc, ↓e_null, ↓e_ldI, ↓e_ldL, ↓e_ldA, ↓e_stI, ↓e_stL, ↓e_stA, ↓n_inc, ↓n_incm1, ↓n_incm8, ↓e_iadd, ↓e_isub, ↓e_imul, ↓e_iand, ↓e_ior, ↓e_ixor, ↓n_ishl, ↓n_ishr, ↓e_iushr, ↓n_idiv, ↓e_ineg, ↓e_ladd, ↓e_lsub, ↓e_lmul, ↓e_lor, ↓e_lshl, ↓e_lshr, ↓e_i2l, ↓e_l2i, ↓e_i2b, ↓e_lcmp, ↓e_dup, ↓e_dup2, ↓e_pop, ↓e_ceq, ↓e_cne, ↓e_clt, ↓e_cge, ↓e_cgt, ↓e_cle, ↓n_zeq, ↓n_zne, ↓n_zlt, ↓n_zge, ↓n_zgt, ↓n_zle, ↓e_goto, ↓e_nn, ↓e_retI, ↓e_retL, ↓e_retV, ↓n_retZ, ↓e_retA, ↓e_gfI, ↓e_gfL, ↓e_gfR, ↓e_pfI, ↓n_pfZ, ↓e_pfL, ↓e_pfR, ↓e_iald, ↓e_lald, ↓e_aald, ↓e_alen, ↓e_iast, ↓e_bast, ↓n_zast, ↓e_last, ↓e_aast, ↓e_cV, ↓e_cS, ↓e_gsW, ↓e_gsK, ↓e_mmax, ↓e_mmin, ↓e_mmaxL, ↓e_mminL, gEnt, gPad, gArgs, gGet, gS1, gS2, gCl, gNo, gSp, gCt, n_sw, n_gSw, n_gSw0, Option.toList, List.cons_append, List.nil_append, Value.category, and_true, true_and, and_self, not_false_eq_true, not_true_eq_false, Nat.reduceAdd, Nat.reduceSub, Nat.reduceMul, Nat.reduceLeDiff, Nat.reduceLT, Nat.reduceEqDiff, forall_const, true_implies, false_implies, implies_true, Nat.zero_add, Option.some.injEq, Sum.inr.injEq, Sum.inl.injEq, Prod.mk.injEq, exists_eq_left', exists_eq_left, w_ne0, nI_add, w_lt, w_le, w_eq, w_meq, w_eqm, w_mlt, w_ltm, w_mle, w_lem, w_clamp, w_in, w_31, w_ite0, w_ite1, w_ite01, true_or, or_true, false_or, or_false, Nat.le_refl, Nat.lt_irrefl, S_3 hS, sq_S0 hS hq, sq_S1 hS hq, sq_S2 hS hq, sq_S3 hS hq, sq_S4 hS hq, sq_S5 hS hq, sq_S6 hS hq, sq_S7 hS hq, sq_S26 hS hq, sq_r0 hR hq, sq_r1 hR hq, sq_r2 hR hq, sq_r3 hR hq, sq_r4 hR hq, sq_r5 hR hq, sq_r6 hR hq, tl_S hS hq, tl_r hR hq]
          refine ih (i + 1) a (some t) μ hi2 ha (fun t' ht' => by rw [← Option.some.inj ht']; exact hts) hR ht hd hA h10 h8 (fun j y hy => ?_) hTc (fun μ2 f2 g1 g2 => ?_)
          · rw [show i + 1 + j = i + (j + 1) by omega]
            exact hst (j + 1) y (by simpa using hy)
          · have := hP μ2 (dQr_w (by omega) f2) g1 (fun z => by simp at z)
            rw [Option.some_or]
            exact this
        cases u with
        | none =>
          simp only [eN]
          simp (disch := omega) only [↓n_gb, ↓n_gb0, ↓n_ic, ↓n_icm, ↓n_lc, ↓e_lc, ↓e_null, ↓e_ldI, ↓e_ldL, ↓e_ldA, ↓e_stI, ↓e_stL, ↓e_stA, ↓n_inc, ↓n_incm1, ↓n_incm8, ↓e_iadd, ↓e_isub, ↓e_imul, ↓e_iand, ↓e_ior, ↓e_ixor, ↓n_ishl, ↓n_ishr, ↓e_iushr, ↓n_idiv, ↓e_ineg, ↓e_ladd, ↓e_lsub, ↓e_lmul, ↓e_lor, ↓e_lshl, ↓e_lshr, ↓e_i2l, ↓e_l2i, ↓e_i2b, ↓e_lcmp, ↓e_dup, ↓e_dup2, ↓e_pop, ↓e_ceq, ↓e_cne, ↓e_clt, ↓e_cge, ↓e_cgt, ↓e_cle, ↓n_zeq, ↓n_zne, ↓n_zlt, ↓n_zge, ↓n_zgt, ↓n_zle, ↓e_goto, ↓e_nn, ↓e_retI, ↓e_retL, ↓e_retV, ↓n_retZ, ↓e_retA, ↓e_gfI, ↓e_gfL, ↓e_gfR, ↓e_pfI, ↓n_pfZ, ↓e_pfL, ↓e_pfR, ↓e_iald, ↓e_lald, ↓e_aald, ↓e_alen, ↓e_iast, ↓e_bast, ↓n_zast, ↓e_last, ↓e_aast, ↓e_cV, ↓e_cS, ↓e_gsW, ↓e_gsK, ↓e_mmax, ↓e_mmin, ↓e_mmaxL, ↓e_mminL, gEnt, gPad, gArgs, gGet, gS1, gS2, gCl, gNo, gSp, gCt, n_sw, n_gSw, n_gSw0, Option.toList, List.cons_append, List.nil_append, Value.category, and_true, true_and, and_self, not_false_eq_true, not_true_eq_false, Nat.reduceAdd, Nat.reduceSub, Nat.reduceMul, Nat.reduceLeDiff, Nat.reduceLT, Nat.reduceEqDiff, forall_const, true_implies, false_implies, implies_true, Nat.zero_add, Option.some.injEq, Sum.inr.injEq, Sum.inl.injEq, Prod.mk.injEq, exists_eq_left', exists_eq_left, w_ne0, nI_add, w_lt, w_le, w_eq, w_meq, w_eqm, w_mlt, w_ltm, w_mle, w_lem, w_clamp, w_in, w_31, w_ite0, w_ite1, w_ite01, true_or, or_true, false_or, or_false, Nat.le_refl, Nat.lt_irrefl, S_3 hS, sq_S0 hS hq, sq_S1 hS hq, sq_S2 hS hq, sq_S3 hS hq, sq_S4 hS hq, sq_S5 hS hq, sq_S6 hS hq, sq_S7 hS hq, sq_S26 hS hq, sq_r0 hR hq, sq_r1 hR hq, sq_r2 hR hq, sq_r3 hR hq, sq_r4 hR hq, sq_r5 hR hq, sq_r6 hR hq, tl_S hS hq, tl_r hR hq, hd, gi, s2']
          exact nx (some x.2) rfl ⟨x.2, rfl, hxs⟩
        | some t =>
          have hts := hu t rfl
          simp only [eN]
          simp (disch := omega) only [↓n_gb, ↓n_gb0, ↓n_ic, ↓n_icm, ↓n_lc, ↓e_lc, ↓e_null, ↓e_ldI, ↓e_ldL, ↓e_ldA, ↓e_stI, ↓e_stL, ↓e_stA, ↓n_inc, ↓n_incm1, ↓n_incm8, ↓e_iadd, ↓e_isub, ↓e_imul, ↓e_iand, ↓e_ior, ↓e_ixor, ↓n_ishl, ↓n_ishr, ↓e_iushr, ↓n_idiv, ↓e_ineg, ↓e_ladd, ↓e_lsub, ↓e_lmul, ↓e_lor, ↓e_lshl, ↓e_lshr, ↓e_i2l, ↓e_l2i, ↓e_i2b, ↓e_lcmp, ↓e_dup, ↓e_dup2, ↓e_pop, ↓e_ceq, ↓e_cne, ↓e_clt, ↓e_cge, ↓e_cgt, ↓e_cle, ↓n_zeq, ↓n_zne, ↓n_zlt, ↓n_zge, ↓n_zgt, ↓n_zle, ↓e_goto, ↓e_nn, ↓e_retI, ↓e_retL, ↓e_retV, ↓n_retZ, ↓e_retA, ↓e_gfI, ↓e_gfL, ↓e_gfR, ↓e_pfI, ↓n_pfZ, ↓e_pfL, ↓e_pfR, ↓e_iald, ↓e_lald, ↓e_aald, ↓e_alen, ↓e_iast, ↓e_bast, ↓n_zast, ↓e_last, ↓e_aast, ↓e_cV, ↓e_cS, ↓e_gsW, ↓e_gsK, ↓e_mmax, ↓e_mmin, ↓e_mmaxL, ↓e_mminL, gEnt, gPad, gArgs, gGet, gS1, gS2, gCl, gNo, gSp, gCt, n_sw, n_gSw, n_gSw0, Option.toList, List.cons_append, List.nil_append, Value.category, and_true, true_and, and_self, not_false_eq_true, not_true_eq_false, Nat.reduceAdd, Nat.reduceSub, Nat.reduceMul, Nat.reduceLeDiff, Nat.reduceLT, Nat.reduceEqDiff, forall_const, true_implies, false_implies, implies_true, Nat.zero_add, Option.some.injEq, Sum.inr.injEq, Sum.inl.injEq, Prod.mk.injEq, exists_eq_left', exists_eq_left, w_ne0, nI_add, w_lt, w_le, w_eq, w_meq, w_eqm, w_mlt, w_ltm, w_mle, w_lem, w_clamp, w_in, w_31, w_ite0, w_ite1, w_ite01, true_or, or_true, false_or, or_false, Nat.le_refl, Nat.lt_irrefl, S_3 hS, sq_S0 hS hq, sq_S1 hS hq, sq_S2 hS hq, sq_S3 hS hq, sq_S4 hS hq, sq_S5 hS hq, sq_S6 hS hq, sq_S7 hS hq, sq_S26 hS hq, sq_r0 hR hq, sq_r1 hR hq, sq_r2 hR hq, sq_r3 hR hq, sq_r4 hR hq, sq_r5 hR hq, sq_r6 hR hq, tl_S hS hq, tl_r hR hq]
          exact nx (some t) rfl ⟨t, rfl, hts⟩
    · have hU : zU (zR vl g p) (x :: c) = zU (zR vl g p) c := by
        simp only [zU]
        rw [if_neg (fun z => c3 z.1)]
      have hN : zN (zR vl g p) (x :: c) a = zN (zR vl g p) c a := by
        simp only [zN]
        rw [if_neg c3]
      rw [hU, hN] at hP
      obtain ⟨o1, o2⟩ := sOp (rv := zR vl g p) (vl := vl) (x := x) (by omega)
      refine b_X2_resolveNames_23 hX ?_
      simp (disch := omega) only [B_X2_resolveNames_23, ↓n_gb, ↓n_gb0, ↓n_ic, ↓n_icm, ↓n_lc, ↓e_lc, ↓e_null, ↓e_ldI, ↓e_ldL, ↓e_ldA, ↓e_stI, ↓e_stL, ↓e_stA, ↓n_inc, ↓n_incm1, ↓n_incm8, ↓e_iadd, ↓e_isub, ↓e_imul, ↓e_iand, ↓e_ior, ↓e_ixor, ↓n_ishl, ↓n_ishr, ↓e_iushr, ↓n_idiv, ↓e_ineg, ↓e_ladd, ↓e_lsub, ↓e_lmul, ↓e_lor, ↓e_lshl, ↓e_lshr, ↓e_i2l, ↓e_l2i, ↓e_i2b, ↓e_lcmp, ↓e_dup, ↓e_dup2, ↓e_pop, ↓e_ceq, ↓e_cne, ↓e_clt, ↓e_cge, ↓e_cgt, ↓e_cle, ↓n_zeq, ↓n_zne, ↓n_zlt, ↓n_zge, ↓n_zgt, ↓n_zle, ↓e_goto, ↓e_nn, ↓e_retI, ↓e_retL, ↓e_retV, ↓n_retZ, ↓e_retA, ↓e_gfI, ↓e_gfL, ↓e_gfR, ↓e_pfI, ↓n_pfZ, ↓e_pfL, ↓e_pfR, ↓e_iald, ↓e_lald, ↓e_aald, ↓e_alen, ↓e_iast, ↓e_bast, ↓n_zast, ↓e_last, ↓e_aast, ↓e_cV, ↓e_cS, ↓e_gsW, ↓e_gsK, ↓e_mmax, ↓e_mmin, ↓e_mmaxL, ↓e_mminL, gEnt, gPad, gArgs, gGet, gS1, gS2, gCl, gNo, gSp, gCt, n_sw, n_gSw, n_gSw0, Option.toList, List.cons_append, List.nil_append, Value.category, and_true, true_and, and_self, not_false_eq_true, not_true_eq_false, Nat.reduceAdd, Nat.reduceSub, Nat.reduceMul, Nat.reduceLeDiff, Nat.reduceLT, Nat.reduceEqDiff, forall_const, true_implies, false_implies, implies_true, Nat.zero_add, Option.some.injEq, Sum.inr.injEq, Sum.inl.injEq, Prod.mk.injEq, exists_eq_left', exists_eq_left, w_ne0, nI_add, w_lt, w_le, w_eq, w_meq, w_eqm, w_mlt, w_ltm, w_mle, w_lem, w_clamp, w_in, w_31, w_ite0, w_ite1, w_ite01, true_or, or_true, false_or, or_false, Nat.le_refl, Nat.lt_irrefl, S_3 hS, sq_S0 hS hq, sq_S1 hS hq, sq_S2 hS hq, sq_S3 hS hq, sq_S4 hS hq, sq_S5 hS hq, sq_S6 hS hq, sq_S7 hS hq, sq_S26 hS hq, sq_r0 hR hq, sq_r1 hR hq, sq_r2 hR hq, sq_r3 hR hq, sq_r4 hR hq, sq_r5 hR hq, sq_r6 hR hq, tl_S hS hq, tl_r hR hq, h10, ge, hd, gi, gi', s1, c3]
      refine b_X2_resolveNames_85 hX ?_
      simp (disch := omega) only [B_X2_resolveNames_85, ↓n_gb, ↓n_gb0, ↓n_ic, ↓n_icm, ↓n_lc, ↓e_lc, ↓e_null, ↓e_ldI, ↓e_ldL, ↓e_ldA, ↓e_stI, ↓e_stL, ↓e_stA, ↓n_inc, ↓n_incm1, ↓n_incm8, ↓e_iadd, ↓e_isub, ↓e_imul, ↓e_iand, ↓e_ior, ↓e_ixor, ↓n_ishl, ↓n_ishr, ↓e_iushr, ↓n_idiv, ↓e_ineg, ↓e_ladd, ↓e_lsub, ↓e_lmul, ↓e_lor, ↓e_lshl, ↓e_lshr, ↓e_i2l, ↓e_l2i, ↓e_i2b, ↓e_lcmp, ↓e_dup, ↓e_dup2, ↓e_pop, ↓e_ceq, ↓e_cne, ↓e_clt, ↓e_cge, ↓e_cgt, ↓e_cle, ↓n_zeq, ↓n_zne, ↓n_zlt, ↓n_zge, ↓n_zgt, ↓n_zle, ↓e_goto, ↓e_nn, ↓e_retI, ↓e_retL, ↓e_retV, ↓n_retZ, ↓e_retA, ↓e_gfI, ↓e_gfL, ↓e_gfR, ↓e_pfI, ↓n_pfZ, ↓e_pfL, ↓e_pfR, ↓e_iald, ↓e_lald, ↓e_aald, ↓e_alen, ↓e_iast, ↓e_bast, ↓n_zast, ↓e_last, ↓e_aast, ↓e_cV, ↓e_cS, ↓e_gsW, ↓e_gsK, ↓e_mmax, ↓e_mmin, ↓e_mmaxL, ↓e_mminL, gEnt, gPad, gArgs, gGet, gS1, gS2, gCl, gNo, gSp, gCt, n_sw, n_gSw, n_gSw0, Option.toList, List.cons_append, List.nil_append, Value.category, and_true, true_and, and_self, not_false_eq_true, not_true_eq_false, Nat.reduceAdd, Nat.reduceSub, Nat.reduceMul, Nat.reduceLeDiff, Nat.reduceLT, Nat.reduceEqDiff, forall_const, true_implies, false_implies, implies_true, Nat.zero_add, Option.some.injEq, Sum.inr.injEq, Sum.inl.injEq, Prod.mk.injEq, exists_eq_left', exists_eq_left, w_ne0, nI_add, w_lt, w_le, w_eq, w_meq, w_eqm, w_mlt, w_ltm, w_mle, w_lem, w_clamp, w_in, w_31, w_ite0, w_ite1, w_ite01, true_or, or_true, false_or, or_false, Nat.le_refl, Nat.lt_irrefl, S_3 hS, sq_S0 hS hq, sq_S1 hS hq, sq_S2 hS hq, sq_S3 hS hq, sq_S4 hS hq, sq_S5 hS hq, sq_S6 hS hq, sq_S7 hS hq, sq_S26 hS hq, sq_r0 hR hq, sq_r1 hR hq, sq_r2 hR hq, sq_r3 hR hq, sq_r4 hR hq, sq_r5 hR hq, sq_r6 hR hq, tl_S hS hq, tl_r hR hq]
      refine ih (i + 1) a u μ hi2 ha hu hR ht hd hA h10 h8 (fun j y hy => ?_) hTc (fun μ2 f2 g1 g2 => hP μ2 (dQr_w (by omega) f2) g1 (fun hz j y hy => ?_))
      · rw [show i + 1 + j = i + (j + 1) by omega]
        exact hst (j + 1) y (by simpa using hy)
      · cases j with
        | zero =>
          have ey : y = x := by simpa using hy.symm
          rw [ey, f2.1 _ _ (by omega) (by omega), f2.1 _ _ (by omega) (by omega)]
          exact ⟨s1.trans o1, s2.trans o2⟩
        | succ j =>
          have := g2 hz j y (by simpa using hy)
          rw [show i + 1 + j = i + (j + 1) by omega] at this
          exact this
theorem k_resolveNames {S : gSh} {h β q sz s e p b : Nat} {K pl vl : Nat → Nat} {g : zG} {tl : List rTl} {c : List (Nat × Nat)} {μ : gM} {P : gP} (hS : gLS S β) (hR : gPS μ.2.2 β) (hq : q = 56 ∨ q = 83) (hsz : sz ≤ 401) (hK : ∀ t, sz ≤ t → K t = 0) (ht : dT β sz K pl vl μ) (hd : μ.2.2 (β + 3) 1 = β + q) (hl : tl.length < 18) (hvl : ∀ p, vl p < 9223372036854775808) (hrl : zRl g tl) (hcl : zCl g) (hA : dAh β q vl g tl μ) (he : e ≤ 400) (hse : s + c.length = e) (h9 : μ.1 (β + (q + 8 + tl.length)) 9 = nI s) (h10 : μ.1 (β + (q + 8 + tl.length)) 10 = nI e) (hst : ∀ (j : Nat) (x : Nat × Nat), c[j]? = some x → μ.1 (β + (q + 4)) (s + j) = nI x.1 ∧ μ.1 (β + (q + 5)) (s + j) = dA vl x) (hT : sT K p b c)
    (hP : ∀ μ', dQr β q tl.length s e μ μ' → μ'.1 (β + (q + 8 + tl.length)) 8 = nI (zN (zR vl g p) c 0) → (zU (zR vl g p) c = none → ∀ (j : Nat) (x : Nat × Nat), c[j]? = some x → μ'.1 (β + (q + 4)) (s + j) = gOpC (eO (zR vl g p) x) ∧ μ'.1 (β + (q + 5)) (s + j) = nI (eV (zR vl g p) vl x)) → P (some (.int (eN (zU (zR vl g p) c)))) μ') : gRun S (h + 3) 27 [.ref (β + 3), .int (nI tl.length)] μ P := by
  have tlS := tl_S hS hq hl
  have F : dQr β q tl.length s e μ (gU μ.1 (β + (q + 8 + tl.length)) 8 (nI 0), μ.2) := ⟨fun y j z w => by dsimp only; rw [gU_n (by omega)], rfl⟩
  refine r_X2_resolveNames (by simp [lg_sl, Value.category]) (fun X hX => ?_)
  refine b_X2_resolveNames_0 hX ?_
  simp (disch := omega) only [B_X2_resolveNames_0, ↓n_gb, ↓n_gb0, ↓n_ic, ↓n_icm, ↓n_lc, ↓e_lc, ↓e_null, ↓e_ldI, ↓e_ldL, ↓e_ldA, ↓e_stI, ↓e_stL, ↓e_stA, ↓n_inc, ↓n_incm1, ↓n_incm8, ↓e_iadd, ↓e_isub, ↓e_imul, ↓e_iand, ↓e_ior, ↓e_ixor, ↓n_ishl, ↓n_ishr, ↓e_iushr, ↓n_idiv, ↓e_ineg, ↓e_ladd, ↓e_lsub, ↓e_lmul, ↓e_lor, ↓e_lshl, ↓e_lshr, ↓e_i2l, ↓e_l2i, ↓e_i2b, ↓e_lcmp, ↓e_dup, ↓e_dup2, ↓e_pop, ↓e_ceq, ↓e_cne, ↓e_clt, ↓e_cge, ↓e_cgt, ↓e_cle, ↓n_zeq, ↓n_zne, ↓n_zlt, ↓n_zge, ↓n_zgt, ↓n_zle, ↓e_goto, ↓e_nn, ↓e_retI, ↓e_retL, ↓e_retV, ↓n_retZ, ↓e_retA, ↓e_gfI, ↓e_gfL, ↓e_gfR, ↓e_pfI, ↓n_pfZ, ↓e_pfL, ↓e_pfR, ↓e_iald, ↓e_lald, ↓e_aald, ↓e_alen, ↓e_iast, ↓e_bast, ↓n_zast, ↓e_last, ↓e_aast, ↓e_cV, ↓e_cS, ↓e_gsW, ↓e_gsK, ↓e_mmax, ↓e_mmin, ↓e_mmaxL, ↓e_mminL, gEnt, gPad, gArgs, gGet, gS1, gS2, gCl, gNo, gSp, gCt, n_sw, n_gSw, n_gSw0, Option.toList, List.cons_append, List.nil_append, Value.category, and_true, true_and, and_self, not_false_eq_true, not_true_eq_false, Nat.reduceAdd, Nat.reduceSub, Nat.reduceMul, Nat.reduceLeDiff, Nat.reduceLT, Nat.reduceEqDiff, forall_const, true_implies, false_implies, implies_true, Nat.zero_add, Option.some.injEq, Sum.inr.injEq, Sum.inl.injEq, Prod.mk.injEq, exists_eq_left', exists_eq_left, w_ne0, nI_add, w_lt, w_le, w_eq, w_meq, w_eqm, w_mlt, w_ltm, w_mle, w_lem, w_clamp, w_in, w_31, w_ite0, w_ite1, w_ite01, true_or, or_true, false_or, or_false, Nat.le_refl, Nat.lt_irrefl, S_3 hS, sq_S0 hS hq, sq_S1 hS hq, sq_S2 hS hq, sq_S3 hS hq, sq_S4 hS hq, sq_S5 hS hq, sq_S6 hS hq, sq_S7 hS hq, sq_S26 hS hq, sq_r0 hR hq, sq_r1 hR hq, sq_r2 hR hq, sq_r3 hR hq, sq_r4 hR hq, sq_r5 hR hq, sq_r6 hR hq, tl_S hS hq, tl_r hR hq, hd, hl, gU_n, h9]
  refine namesLoop (h := h) (K := K) (pl := pl) (p := p) (b := b) hX hS hq hsz hK hl hvl hrl hcl he c s 0 none (gU μ.1 (β + (q + 8 + tl.length)) 8 (nI 0), μ.2) hse (by omega) (fun t z => by simp at z) hR (dQr_T hq hl F ht) hd (dQr_A F hA) ?_ gU_s (fun j x hx => ?_) hT (fun μ' f g1 g2 => ?_)
  · rw [F.1 _ _ (by omega) (by omega)]; exact h10
  · dsimp only; rw [gU_n (by omega), gU_n (by omega)]; exact hst j x hx
  · have := hP μ' (dQr_t F f) g1 g2
    rw [Option.none_or]
    exact this
