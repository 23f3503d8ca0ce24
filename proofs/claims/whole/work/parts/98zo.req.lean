/-! THE TEXT, the reference: all tells -/
theorem rK_0 {k : Nat} : rK k = 0 ↔ k = 0 := by
  unfold rK
  refine ⟨fun h => ?_, fun h => if_pos h⟩
  repeat' (split at h)
  all_goals omega
theorem eTr_T {β sd sz : Nat} {K pl vl nm : Nat → Nat} {μ μ' : gM} (f : eTr β sd μ μ') (h : eT β sz K pl vl nm μ) : eT β sz K pl vl nm μ' := fun p hp => by
  rw [f.1 _ _ (by omega) (by omega) (by omega) (by omega) (by omega) (by omega), f.1 _ _ (by omega) (by omega) (by omega) (by omega) (by omega) (by omega), f.1 _ _ (by omega) (by omega) (by omega) (by omega) (by omega) (by omega), f.2.1 _ _ (by omega) (by omega)]
  exact h p hp
theorem eTr_refl {β sd : Nat} {μ : gM} : eTr β sd μ μ := ⟨fun _ _ _ _ _ _ _ _ => rfl, fun _ _ _ _ => rfl, rfl⟩
theorem eB_rv {β sd sz p : Nat} {rv rv' : Nat → Nat × Nat × Nat × Nat} {vl : Nat → Nat} {C : List (Nat × Nat)} {w : Nat × Nat} {μ : gM} (hC : ∀ x, x ∈ C → x.1 = 3 → rv' x.2 = rv x.2) (h : eBw β sd sz rv vl p C w μ) : eBw β sd sz rv' vl p C w μ := by
  obtain ⟨a1, a2, a3, a4, a5, ⟨a6, a7⟩, a8⟩ := h
  refine ⟨a1, a2, a3, a4, a5, ⟨a6, fun i x hx => ?_⟩, a8⟩
  obtain ⟨e1, e2⟩ := eO_c (rv := rv) (rv' := rv') (vl := vl) (x := x) (hC x (List.mem_of_getElem? hx))
  rw [e1, e2]
  exact a7 i x hx
/-- what is kept of the tells -/
def eRc (β sd : Nat) (vl : Nat → Nat) (g : zG) (tl : List rTl) (μ : gM) : Prop := ∀ (j : Nat) (x : rTl), tl[j]? = some x → (x.1 = 0 → x.2.1 < zL g ∧ μ.1 (β + 121) (12 * sd + x.2.1) = nI (500 * sd + x.2.2.2.1) ∧ μ.1 (β + 122) (12 * sd + x.2.1) = nI (500 * sd + x.2.2.2.2)) ∧ (x.1 = 1 → x.2.1 < zB g ∧ μ.1 (β + 125) (6 * sd + x.2.1) = nI (500 * sd + x.2.2.2.1) ∧ μ.1 (β + 126) (6 * sd + x.2.1) = nI (500 * sd + x.2.2.2.2) ∧ μ.1 (β + 127) (6 * sd + x.2.1) = nI (zbs g x.2.1) ∧ μ.1 (β + 128) (6 * sd + x.2.1) = nI (vl (x.2.2.1 + 3)) ∧ μ.1 (β + 129) (6 * sd + x.2.1) = nI (vl (x.2.2.1 + 5)) ∧ μ.1 (β + 130) (6 * sd + x.2.1) = nI (vl (x.2.2.1 + 7)) ∧ μ.1 (β + 131) (6 * sd + x.2.1) = nI (vl (x.2.2.1 + 8)))
theorem zS_4 {K pl vl : Nat → Nat} {p : Nat} {c : List (Nat × Nat)} {g : zG} (h5 : K p ≠ 5) : zL (zS K pl vl p c g) = zL g + 1 ∧ zB (zS K pl vl p c g) = zB g ∧ zln (zS K pl vl p c g) = zu (zln g) (zL g) (p + 1) ∧ zls (zS K pl vl p c g) = zu (zls g) (zL g) ((zE K pl vl p c g).1 ||| (if (zE K pl vl p c g).2.1 = 0 then 0 else 64)) ∧ zbn (zS K pl vl p c g) = zbn g ∧ zbs (zS K pl vl p c g) = zbs g ∧ zw (zS K pl vl p c g) = (zO K pl vl p c g).2.2 := by
  unfold zS
  rw [if_neg h5]
  exact ⟨rfl, rfl, rfl, rfl, rfl, rfl, rfl⟩
theorem zS_5 {K pl vl : Nat → Nat} {p : Nat} {c : List (Nat × Nat)} {g : zG} (h5 : K p = 5) : zL (zS K pl vl p c g) = zL g ∧ zB (zS K pl vl p c g) = zB g + 1 ∧ zln (zS K pl vl p c g) = zln g ∧ zls (zS K pl vl p c g) = zls g ∧ zbn (zS K pl vl p c g) = zu (zbn g) (zB g) (p + 1) ∧ zbs (zS K pl vl p c g) = zu (zbs g) (zB g) ((zE K pl vl p c g).1 &&& 63) ∧ zw (zS K pl vl p c g) = (eTs pl (eNo (zE K pl vl p c g)) 5 (p + 1) (zO K pl vl p c g)).2.2 := by
  unfold zS
  rw [if_pos h5]
  exact ⟨rfl, rfl, rfl, rfl, rfl, rfl, rfl⟩
theorem eTs_12 {pl : Nat → Nat} {tw : Bool} {k p : Nat} {st : eSt} : (eTs pl tw k p st).1 = st.1 ∧ (eTs pl tw k p st).2.1 = st.2.1 := by
  unfold eTs
  split <;> exact ⟨rfl, rfl⟩
set_option maxHeartbeats 8000000 in
theorem readLoop {S : gSh} {h β sd sz : Nat} {K pl vl nm : Nat → Nat} {u1 u2 : Option Value} {P : gP} {X : Nat → gK} (hX : gClo K_X11_read S (gRun S (h + 5)) P X) (hS : gLS S β) (hsd : sd < 2) (hz : dZ sz K) (hk : ∀ p, K p = 0 ∨ K p = 1 ∨ K p = 2 ∨ K p = 3 ∨ (4 ≤ K p ∧ K p ≤ 10) ∨ cS (K p)) (hna : eNa sz K vl nm) (hpl : ∀ p, p < sz → pl p ≤ 2000) (hv2 : ∀ p, K p = 2 → vl p < 10000) : ∀ m p g tl C μ, gPS μ.2.2 β → eT β sz K pl vl nm μ → eE β sd sz (zL g) K nm (zln g) (zls g) μ → eBn β sd sz (zB g) K nm (zbn g) μ → eBw β sd sz (zrv g) vl p C (zw g) μ → zRl g tl → tl.length + m = 19 → eRc β sd vl g tl μ → (∀ x, x ∈ C → x.1 = 3 → x.2 < p) →
    (∀ μ', eTr β sd μ μ' → (rdA K m p (zB g) (zL g) C.length).1 = 0 → eBw β sd sz (zrv (zF K pl vl m p g)) vl (rdA K m p (zB g) (zL g) C.length).2.1 (C ++ (rdA K m p (zB g) (zL g) C.length).2.2.2) (zw (zF K pl vl m p g)) μ' → eRc β sd vl (zF K pl vl m p g) (tl ++ (rdA K m p (zB g) (zL g) C.length).2.2.1) μ' → μ'.1 (β + 118) sd = nI (zL (zF K pl vl m p g)) → μ'.1 (β + 119) sd = nI (zB (zF K pl vl m p g)) → X 129 μ' [some (.ref (β + 110)), u1, u2] []) →
    (∀ μ', eTr β sd μ μ' → (rdA K m p (zB g) (zL g) C.length).1 ≠ 0 → eY β (rdA K m p (zB g) (zL g) C.length).1 (nI (pl (rdA K m p (zB g) (zL g) C.length).2.1)) μ' → X 129 μ' [some (.ref (β + 110)), u1, u2] []) →
    X 107 μ [some (.ref (β + 110)), u1, u2] [] := by
  have hsz := hz.2.1
  intro m
  induction m with
  | zero =>
    intro p g tl C μ hR ht hE hB s hrl hlen hrc hN hok hfa
    have e1 := hE.1
    have e2 := hB.1
    have e3 := hrl.1
    omega
  | succ m ih =>
    intro p g tl C μ hR ht hE hB s hrl hlen hrc hN hok hfa
    rw [rdA_s] at hok hfa
    rw [zF_s] at hok
    obtain ⟨s1, s2, s3, s4, s5, s6, s7⟩ := id s
    refine b_X11_read_107 hX ?_
    simp (disch := omega) only [B_X11_read_107, ↓n_gb, ↓n_gb0, ↓n_ic, ↓n_icm, ↓n_lc, ↓e_lc, ↓e_null, ↓e_ldI, ↓e_ldL, ↓e_ldA, ↓e_stI, ↓e_stL, ↓e_stA, ↓n_inc, ↓n_incm1, ↓n_incm8, ↓e_iadd, ↓e_isub, ↓e_imul, ↓e_iand, ↓e_ior, ↓e_ixor, ↓n_ishl, ↓n_ishr, ↓e_iushr, ↓n_idiv, ↓e_ineg, ↓e_ladd, ↓e_lsub, ↓e_lmul, ↓e_lor, ↓e_lshl, ↓e_lshr, ↓e_i2l, ↓e_l2i, ↓e_i2b, ↓e_lcmp, ↓e_dup, ↓e_dup2, ↓e_pop, ↓e_ceq, ↓e_cne, ↓e_clt, ↓e_cge, ↓e_cgt, ↓e_cle, ↓n_zeq, ↓n_zne, ↓n_zlt, ↓n_zge, ↓n_zgt, ↓n_zle, ↓e_goto, ↓e_nn, ↓e_retI, ↓e_retL, ↓e_retV, ↓n_retZ, ↓e_retA, ↓e_gfI, ↓e_gfL, ↓e_gfR, ↓e_pfI, ↓n_pfZ, ↓e_pfL, ↓e_pfR, ↓e_iald, ↓e_lald, ↓e_aald, ↓e_alen, ↓e_iast, ↓e_bast, ↓n_zast, ↓e_last, ↓e_aast, ↓e_cV, ↓e_cS, ↓e_gsW, ↓e_gsK, ↓e_mmax, ↓e_mmin, ↓e_mmaxL, ↓e_mminL, gEnt, gPad, gArgs, gGet, gS1, gS2, gCl, gNo, gSp, gCt, n_sw, n_gSw, n_gSw0, Option.toList, List.cons_append, List.nil_append, Value.category, and_true, true_and, and_self, not_false_eq_true, not_true_eq_false, Nat.reduceAdd, Nat.reduceSub, Nat.reduceMul, Nat.reduceLeDiff, Nat.reduceLT, Nat.reduceEqDiff, forall_const, true_implies, false_implies, implies_true, Nat.zero_add, Option.some.injEq, Sum.inr.injEq, Sum.inl.injEq, Prod.mk.injEq, exists_eq_left', exists_eq_left, w_ne0, nI_add, w_lt, w_le, w_eq, w_meq, w_eqm, w_mlt, w_ltm, w_mle, w_lem, w_clamp, w_in, w_31, w_ite0, w_ite1, w_ite01, true_or, or_true, false_or, or_false, Nat.le_refl, Nat.lt_irrefl, S_110 hS, S_111 hS, S_112 hS, S_118 hS, S_119 hS, S_145 hS, S_146 hS, S_147 hS, S_148 hS, S_149 hS, S_150 hS, S_151 hS, S_159 hS, R_110_1 hR, R_110_3 hR, R_110_20 hR, R_110_21 hR, R_110_58 hR, R_110_59 hR, R_110_60 hR, R_110_61 hR, R_110_62 hR, R_110_63 hR, R_110_64 hR, R_110_77 hR, s4]
    refine k_mIs (h := h + 4) (k := 0) hS hR hsz ht s2 s4 s1 (by omega) ?_
    by_cases c0 : K p = 0
    · rw [if_pos (rK_0.2 c0)]
      rw [if_pos c0, if_pos c0] at hok
      simp (disch := omega) only [↓n_gb, ↓n_gb0, ↓n_ic, ↓n_icm, ↓n_lc, ↓e_lc, ↓e_null, ↓e_ldI, ↓e_ldL, ↓e_ldA, ↓e_stI, ↓e_stL, ↓e_stA, ↓n_inc, ↓n_incm1, ↓n_incm8, ↓e_iadd, ↓e_isub, ↓e_imul, ↓e_iand, ↓e_ior, ↓e_ixor, ↓n_ishl, ↓n_ishr, ↓e_iushr, ↓n_idiv, ↓e_ineg, ↓e_ladd, ↓e_lsub, ↓e_lmul, ↓e_lor, ↓e_lshl, ↓e_lshr, ↓e_i2l, ↓e_l2i, ↓e_i2b, ↓e_lcmp, ↓e_dup, ↓e_dup2, ↓e_pop, ↓e_ceq, ↓e_cne, ↓e_clt, ↓e_cge, ↓e_cgt, ↓e_cle, ↓n_zeq, ↓n_zne, ↓n_zlt, ↓n_zge, ↓n_zgt, ↓n_zle, ↓e_goto, ↓e_nn, ↓e_retI, ↓e_retL, ↓e_retV, ↓n_retZ, ↓e_retA, ↓e_gfI, ↓e_gfL, ↓e_gfR, ↓e_pfI, ↓n_pfZ, ↓e_pfL, ↓e_pfR, ↓e_iald, ↓e_lald, ↓e_aald, ↓e_alen, ↓e_iast, ↓e_bast, ↓n_zast, ↓e_last, ↓e_aast, ↓e_cV, ↓e_cS, ↓e_gsW, ↓e_gsK, ↓e_mmax, ↓e_mmin, ↓e_mmaxL, ↓e_mminL, gEnt, gPad, gArgs, gGet, gS1, gS2, gCl, gNo, gSp, gCt, n_sw, n_gSw, n_gSw0, Option.toList, List.cons_append, List.nil_append, Value.category, and_true, true_and, and_self, not_false_eq_true, not_true_eq_false, Nat.reduceAdd, Nat.reduceSub, Nat.reduceMul, Nat.reduceLeDiff, Nat.reduceLT, Nat.reduceEqDiff, forall_const, true_implies, false_implies, implies_true, Nat.zero_add, Option.some.injEq, Sum.inr.injEq, Sum.inl.injEq, Prod.mk.injEq, exists_eq_left', exists_eq_left, w_ne0, nI_add, w_lt, w_le, w_eq, w_meq, w_eqm, w_mlt, w_ltm, w_mle, w_lem, w_clamp, w_in, w_31, w_ite0, w_ite1, w_ite01, true_or, or_true, false_or, or_false, Nat.le_refl, Nat.lt_irrefl, S_110 hS, S_111 hS, S_112 hS, S_118 hS, S_119 hS, S_145 hS, S_146 hS, S_147 hS, S_148 hS, S_149 hS, S_150 hS, S_151 hS, S_159 hS, R_110_1 hR, R_110_3 hR, R_110_20 hR, R_110_21 hR, R_110_58 hR, R_110_59 hR, R_110_60 hR, R_110_61 hR, R_110_62 hR, R_110_63 hR, R_110_64 hR, R_110_77 hR]
      refine hok μ eTr_refl rfl ?_ ?_ hE.2.2.1 hB.2.1
      · dsimp only; rw [List.append_nil]; exact s
      · dsimp only; rw [List.append_nil]; exact hrc
    rw [if_neg (fun z => c0 (rK_0.1 z))]
    rw [if_neg c0, if_neg c0] at hok
    rw [if_neg c0] at hfa
    simp (disch := omega) only [↓n_gb, ↓n_gb0, ↓n_ic, ↓n_icm, ↓n_lc, ↓e_lc, ↓e_null, ↓e_ldI, ↓e_ldL, ↓e_ldA, ↓e_stI, ↓e_stL, ↓e_stA, ↓n_inc, ↓n_incm1, ↓n_incm8, ↓e_iadd, ↓e_isub, ↓e_imul, ↓e_iand, ↓e_ior, ↓e_ixor, ↓n_ishl, ↓n_ishr, ↓e_iushr, ↓n_idiv, ↓e_ineg, ↓e_ladd, ↓e_lsub, ↓e_lmul, ↓e_lor, ↓e_lshl, ↓e_lshr, ↓e_i2l, ↓e_l2i, ↓e_i2b, ↓e_lcmp, ↓e_dup, ↓e_dup2, ↓e_pop, ↓e_ceq, ↓e_cne, ↓e_clt, ↓e_cge, ↓e_cgt, ↓e_cle, ↓n_zeq, ↓n_zne, ↓n_zlt, ↓n_zge, ↓n_zgt, ↓n_zle, ↓e_goto, ↓e_nn, ↓e_retI, ↓e_retL, ↓e_retV, ↓n_retZ, ↓e_retA, ↓e_gfI, ↓e_gfL, ↓e_gfR, ↓e_pfI, ↓n_pfZ, ↓e_pfL, ↓e_pfR, ↓e_iald, ↓e_lald, ↓e_aald, ↓e_alen, ↓e_iast, ↓e_bast, ↓n_zast, ↓e_last, ↓e_aast, ↓e_cV, ↓e_cS, ↓e_gsW, ↓e_gsK, ↓e_mmax, ↓e_mmin, ↓e_mmaxL, ↓e_mminL, gEnt, gPad, gArgs, gGet, gS1, gS2, gCl, gNo, gSp, gCt, n_sw, n_gSw, n_gSw0, Option.toList, List.cons_append, List.nil_append, Value.category, and_true, true_and, and_self, not_false_eq_true, not_true_eq_false, Nat.reduceAdd, Nat.reduceSub, Nat.reduceMul, Nat.reduceLeDiff, Nat.reduceLT, Nat.reduceEqDiff, forall_const, true_implies, false_implies, implies_true, Nat.zero_add, Option.some.injEq, Sum.inr.injEq, Sum.inl.injEq, Prod.mk.injEq, exists_eq_left', exists_eq_left, w_ne0, nI_add, w_lt, w_le, w_eq, w_meq, w_eqm, w_mlt, w_ltm, w_mle, w_lem, w_clamp, w_in, w_31, w_ite0, w_ite1, w_ite01, true_or, or_true, false_or, or_false, Nat.le_refl, Nat.lt_irrefl, S_110 hS, S_111 hS, S_112 hS, S_118 hS, S_119 hS, S_145 hS, S_146 hS, S_147 hS, S_148 hS, S_149 hS, S_150 hS, S_151 hS, S_159 hS, R_110_1 hR, R_110_3 hR, R_110_20 hR, R_110_21 hR, R_110_58 hR, R_110_59 hR, R_110_60 hR, R_110_61 hR, R_110_62 hR, R_110_63 hR, R_110_64 hR, R_110_77 hR]
    have flt : ∀ μ1, eTr β sd μ μ1 → (rdT K (zB g) (zL g) p).1 ≠ 0 → eY β (rdT K (zB g) (zL g) p).1 (nI (pl (rdT K (zB g) (zL g) p).2.1)) μ1 → X 107 μ1 [some (.ref (β + 110)), u1, u2] [] := by
      intro μ1 f1 e y1
      have hR1 : gPS μ1.2.2 β := by rw [f1.2.2]; exact hR
      have hR := hR1
      rw [if_pos e] at hfa
      obtain ⟨y2, y3, y4, y5⟩ := id y1
      have g0 : ¬ (rdT K (zB g) (zL g) p).1 = 0 := e
      refine b_X11_read_107 hX ?_
      simp (disch := omega) only [B_X11_read_107, ↓n_gb, ↓n_gb0, ↓n_ic, ↓n_icm, ↓n_lc, ↓e_lc, ↓e_null, ↓e_ldI, ↓e_ldL, ↓e_ldA, ↓e_stI, ↓e_stL, ↓e_stA, ↓n_inc, ↓n_incm1, ↓n_incm8, ↓e_iadd, ↓e_isub, ↓e_imul, ↓e_iand, ↓e_ior, ↓e_ixor, ↓n_ishl, ↓n_ishr, ↓e_iushr, ↓n_idiv, ↓e_ineg, ↓e_ladd, ↓e_lsub, ↓e_lmul, ↓e_lor, ↓e_lshl, ↓e_lshr, ↓e_i2l, ↓e_l2i, ↓e_i2b, ↓e_lcmp, ↓e_dup, ↓e_dup2, ↓e_pop, ↓e_ceq, ↓e_cne, ↓e_clt, ↓e_cge, ↓e_cgt, ↓e_cle, ↓n_zeq, ↓n_zne, ↓n_zlt, ↓n_zge, ↓n_zgt, ↓n_zle, ↓e_goto, ↓e_nn, ↓e_retI, ↓e_retL, ↓e_retV, ↓n_retZ, ↓e_retA, ↓e_gfI, ↓e_gfL, ↓e_gfR, ↓e_pfI, ↓n_pfZ, ↓e_pfL, ↓e_pfR, ↓e_iald, ↓e_lald, ↓e_aald, ↓e_alen, ↓e_iast, ↓e_bast, ↓n_zast, ↓e_last, ↓e_aast, ↓e_cV, ↓e_cS, ↓e_gsW, ↓e_gsK, ↓e_mmax, ↓e_mmin, ↓e_mmaxL, ↓e_mminL, gEnt, gPad, gArgs, gGet, gS1, gS2, gCl, gNo, gSp, gCt, n_sw, n_gSw, n_gSw0, Option.toList, List.cons_append, List.nil_append, Value.category, and_true, true_and, and_self, not_false_eq_true, not_true_eq_false, Nat.reduceAdd, Nat.reduceSub, Nat.reduceMul, Nat.reduceLeDiff, Nat.reduceLT, Nat.reduceEqDiff, forall_const, true_implies, false_implies, implies_true, Nat.zero_add, Option.some.injEq, Sum.inr.injEq, Sum.inl.injEq, Prod.mk.injEq, exists_eq_left', exists_eq_left, w_ne0, nI_add, w_lt, w_le, w_eq, w_meq, w_eqm, w_mlt, w_ltm, w_mle, w_lem, w_clamp, w_in, w_31, w_ite0, w_ite1, w_ite01, true_or, or_true, false_or, or_false, Nat.le_refl, Nat.lt_irrefl, S_110 hS, S_111 hS, S_112 hS, S_118 hS, S_119 hS, S_145 hS, S_146 hS, S_147 hS, S_148 hS, S_149 hS, S_150 hS, S_151 hS, S_159 hS, R_110_1 hR, R_110_3 hR, R_110_20 hR, R_110_21 hR, R_110_58 hR, R_110_59 hR, R_110_60 hR, R_110_61 hR, R_110_62 hR, R_110_63 hR, R_110_64 hR, R_110_77 hR, y4, g0]
      exact hfa μ1 f1 e y1
    have hnm : eNm S β sd sz (zR vl g p) K pl vl nm (eE β sd sz (zL g) K nm (zln g) (zls g)) p (h + 3) := k_mNamed (h := h + 1) hS hsd hz hna hpl (fun t h1 h2 h3 => zR_ge h1)
    have sR : eBw β sd sz (zR vl g p) vl p C ((0, 0, zw g) : eSt).2.2 μ := eB_rv (fun x hx e3 => if_pos (hN x hx e3)) s
    have hp : p ≤ 400 := by omega
    -- one tell more
    have nxt : ∀ μ1, eTr β sd μ μ1 → (rdT K (zB g) (zL g) p).1 = 0 → eE β sd sz (zL (zS K pl vl p (rdT K (zB g) (zL g) p).2.2 g)) K nm (zln (zS K pl vl p (rdT K (zB g) (zL g) p).2.2 g)) (zls (zS K pl vl p (rdT K (zB g) (zL g) p).2.2 g)) μ1 → eBn β sd sz (zB (zS K pl vl p (rdT K (zB g) (zL g) p).2.2 g)) K nm (zbn (zS K pl vl p (rdT K (zB g) (zL g) p).2.2 g)) μ1 → eBw β sd sz (zR vl g p) vl (rdT K (zB g) (zL g) p).2.1 (C ++ (rdT K (zB g) (zL g) p).2.2) (zw (zS K pl vl p (rdT K (zB g) (zL g) p).2.2 g)) μ1 → eRc β sd vl (zS K pl vl p (rdT K (zB g) (zL g) p).2.2 g) (tl ++ [rTn K (zB g) (zL g) p C.length (C.length + (rdT K (zB g) (zL g) p).2.2.length)]) μ1 → X 107 μ1 [some (.ref (β + 110)), u1, u2] [] := by
      intro μ1 f1 e hE1 hB1 sB1 hrc1
      have hR1 : gPS μ1.2.2 β := by rw [f1.2.2]; exact hR
      have ene : ¬ (rdT K (zB g) (zL g) p).1 ≠ 0 := fun z => z e
      rw [if_neg ene] at hok hfa
      rw [if_neg ene] at hok
      dsimp only at hok hfa
      obtain ⟨q1, q2, q3, q4, q5, q6, q7, q8, q9, q10⟩ := rdT_t hp e
      have el : (C ++ (rdT K (zB g) (zL g) p).2.2).length = C.length + (rdT K (zB g) (zL g) p).2.2.length := List.length_append
      have hh := ih (rdT K (zB g) (zL g) p).2.1 (zS K pl vl p (rdT K (zB g) (zL g) p).2.2 g) (tl ++ [rTn K (zB g) (zL g) p C.length (C.length + (rdT K (zB g) (zL g) p).2.2.length)]) (C ++ (rdT K (zB g) (zL g) p).2.2) μ1 hR1 (eTr_T f1 ht) hE1 hB1 (by rw [zS_rv]; exact sB1) (zRl_s hrl) (by rw [List.length_append]; simp; omega) hrc1 (fun x hx e3 => by
        rcases List.mem_append.1 hx with z | z
        · have := hN x z e3; omega
        · rcases q7.1 x z with y | y <;> omega)
      rw [el, zS_B, zS_L] at hh
      refine hh (fun μ2 f2 e2 b2 r2 l2 n2 => ?_) (fun μ2 f2 e2 y2 => hfa μ2 (eTr_t f1 f2) e2 y2)
      rw [List.append_assoc] at b2 r2
      exact hok μ2 (eTr_t f1 f2) e2 b2 r2 l2 n2
    by_cases h4 : K p = 4
    · have h5 : K p ≠ 5 := by omega
      refine k_mTellLet (h := h) (st := (0, 0, zw g)) hS hR hsd hz ht hk hna hpl hnm hE hB (Nat.le_refl _) h4 sR (fun μ1 f1 e b1 l1 n1 o1 o2 r1 r2 r3 r4 => ?_) (fun μ1 f1 e y1 => ?_)
      · have hR1 : gPS μ1.2.2 β := by rw [f1.2.2]; exact hR
        have hR := hR1
        simp (disch := omega) only [↓n_gb, ↓n_gb0, ↓n_ic, ↓n_icm, ↓n_lc, ↓e_lc, ↓e_null, ↓e_ldI, ↓e_ldL, ↓e_ldA, ↓e_stI, ↓e_stL, ↓e_stA, ↓n_inc, ↓n_incm1, ↓n_incm8, ↓e_iadd, ↓e_isub, ↓e_imul, ↓e_iand, ↓e_ior, ↓e_ixor, ↓n_ishl, ↓n_ishr, ↓e_iushr, ↓n_idiv, ↓e_ineg, ↓e_ladd, ↓e_lsub, ↓e_lmul, ↓e_lor, ↓e_lshl, ↓e_lshr, ↓e_i2l, ↓e_l2i, ↓e_i2b, ↓e_lcmp, ↓e_dup, ↓e_dup2, ↓e_pop, ↓e_ceq, ↓e_cne, ↓e_clt, ↓e_cge, ↓e_cgt, ↓e_cle, ↓n_zeq, ↓n_zne, ↓n_zlt, ↓n_zge, ↓n_zgt, ↓n_zle, ↓e_goto, ↓e_nn, ↓e_retI, ↓e_retL, ↓e_retV, ↓n_retZ, ↓e_retA, ↓e_gfI, ↓e_gfL, ↓e_gfR, ↓e_pfI, ↓n_pfZ, ↓e_pfL, ↓e_pfR, ↓e_iald, ↓e_lald, ↓e_aald, ↓e_alen, ↓e_iast, ↓e_bast, ↓n_zast, ↓e_last, ↓e_aast, ↓e_cV, ↓e_cS, ↓e_gsW, ↓e_gsK, ↓e_mmax, ↓e_mmin, ↓e_mmaxL, ↓e_mminL, gEnt, gPad, gArgs, gGet, gS1, gS2, gCl, gNo, gSp, gCt, n_sw, n_gSw, n_gSw0, Option.toList, List.cons_append, List.nil_append, Value.category, and_true, true_and, and_self, not_false_eq_true, not_true_eq_false, Nat.reduceAdd, Nat.reduceSub, Nat.reduceMul, Nat.reduceLeDiff, Nat.reduceLT, Nat.reduceEqDiff, forall_const, true_implies, false_implies, implies_true, Nat.zero_add, Option.some.injEq, Sum.inr.injEq, Sum.inl.injEq, Prod.mk.injEq, exists_eq_left', exists_eq_left, w_ne0, nI_add, w_lt, w_le, w_eq, w_meq, w_eqm, w_mlt, w_ltm, w_mle, w_lem, w_clamp, w_in, w_31, w_ite0, w_ite1, w_ite01, true_or, or_true, false_or, or_false, Nat.le_refl, Nat.lt_irrefl, S_110 hS, S_111 hS, S_112 hS, S_118 hS, S_119 hS, S_145 hS, S_146 hS, S_147 hS, S_148 hS, S_149 hS, S_150 hS, S_151 hS, S_159 hS, R_110_1 hR, R_110_3 hR, R_110_20 hR, R_110_21 hR, R_110_58 hR, R_110_59 hR, R_110_60 hR, R_110_61 hR, R_110_62 hR, R_110_63 hR, R_110_64 hR, R_110_77 hR]
        obtain ⟨z1, z2, z3, z4, z5, z6, z7⟩ := zS_4 (pl := pl) (vl := vl) (c := (rdT K (zB g) (zL g) p).2.2) (g := g) h5
        have eE0 : zE K pl vl p (rdT K (zB g) (zL g) p).2.2 g = (rdT K (zB g) (zL g) p).2.2.foldl (eA (zR vl g p) pl) (0, 0, zw g) := by unfold zE; rw [if_neg h5]
        obtain ⟨q1, q2, q3, q4, q5, q6, q7, q8, q9, q10⟩ := rdT_t hp e
        obtain ⟨x1, x2, x3, x4, x5⟩ := hE
        obtain ⟨k1, k2, k3⟩ := hB
        have b1' := b1.2.2.2.2.2.2.1
        have eo : zO K pl vl p (rdT K (zB g) (zL g) p).2.2 g = eTs pl (eTw vl (zln g) (zbn g) (zL g) (zB g) (p + 1)) 3 (p + 1) ((rdT K (zB g) (zL g) p).2.2.foldl (eA (zR vl g p) pl) (0, 0, zw g)) := by unfold zO; rw [eE0]
        dsimp only at r3 b1 b1'
        rw [← eE0] at r3 b1 b1'
        have p1 : p + 1 < sz := Nat.lt_of_not_le (fun z => by have := hz.2.2.2.2.1 _ z; omega)
        have hlt : ((zE K pl vl p (rdT K (zB g) (zL g) p).2.2 g).1 ||| (if (zE K pl vl p (rdT K (zB g) (zL g) p).2.2 g).2.1 = 0 then 0 else 64)) < 128 := by
          have := b1'.1
          rw [eTs_12.1] at this
          exact Nat.or_lt_two_pow (n := 7) (by omega) (by split <;> omega)
        refine nxt μ1 f1 e ?_ ?_ ?_ (fun j x hx => ?_)
        · rw [z1, z3, z4]
          refine ⟨by have := q10 h5; omega, ?_, l1, fun s hs => ?_, fun k hkk => ?_⟩
          · rw [f1.1 _ _ (by omega) (by omega) (by omega) (by omega) (by omega) (by omega)]; exact x2
          · rw [f1.2.1 _ _ (by omega) (by omega)]; exact x4 s hs
          · by_cases ek : k = zL g
            · rw [ek, zu_s, zu_s]
              exact ⟨p1, q4, hlt, r4, r3⟩
            · rw [zu_n ek, zu_n ek, (o1 _ (by omega)).2.2.1, (o1 _ (by omega)).2.2.2]
              exact x5 k (by omega)
        · rw [z2, z5]
          refine ⟨k1, by rw [n1]; exact k2, fun k hkk => ?_⟩
          rw [(o2 _ _).1 rfl]
          exact k3 k hkk
        · rw [z7, eo, ← eE0]; exact eB_w b1
        · rcases get_app hx with ⟨c3, c4⟩ | ⟨c3, c4⟩
          · obtain ⟨a1, a2⟩ := hrc j x c4
            refine ⟨fun e1 => ?_, fun e1 => ?_⟩
            · obtain ⟨d1, d2, d3⟩ := a1 e1
              rw [z1, (o1 _ (by omega)).1, (o1 _ (by omega)).2.1]
              exact ⟨by omega, d2, d3⟩
            · obtain ⟨d1, d2⟩ := a2 e1
              rw [z2, z6, (o2 _ _).2 (by omega), (o2 _ _).2 (by omega), (o2 _ _).2 (by omega), (o2 _ _).2 (by omega), (o2 _ _).2 (by omega), (o2 _ _).2 (by omega), (o2 _ _).2 (by omega)]
              exact ⟨d1, d2⟩
          · have er : rTn K (zB g) (zL g) p C.length (C.length + (rdT K (zB g) (zL g) p).2.2.length) = (0, zL g, p, C.length, C.length + (rdT K (zB g) (zL g) p).2.2.length) := by unfold rTn; rw [if_neg h5, if_neg h5]
            rw [c4, er]
            refine ⟨fun _ => ⟨by rw [z1]; exact Nat.lt_succ_self _, r1, ?_⟩, fun z => by simp at z⟩
            rw [List.length_append] at r2
            exact r2
      · have hR1 : gPS μ1.2.2 β := by rw [f1.2.2]; exact hR
        have hR := hR1
        simp (disch := omega) only [↓n_gb, ↓n_gb0, ↓n_ic, ↓n_icm, ↓n_lc, ↓e_lc, ↓e_null, ↓e_ldI, ↓e_ldL, ↓e_ldA, ↓e_stI, ↓e_stL, ↓e_stA, ↓n_inc, ↓n_incm1, ↓n_incm8, ↓e_iadd, ↓e_isub, ↓e_imul, ↓e_iand, ↓e_ior, ↓e_ixor, ↓n_ishl, ↓n_ishr, ↓e_iushr, ↓n_idiv, ↓e_ineg, ↓e_ladd, ↓e_lsub, ↓e_lmul, ↓e_lor, ↓e_lshl, ↓e_lshr, ↓e_i2l, ↓e_l2i, ↓e_i2b, ↓e_lcmp, ↓e_dup, ↓e_dup2, ↓e_pop, ↓e_ceq, ↓e_cne, ↓e_clt, ↓e_cge, ↓e_cgt, ↓e_cle, ↓n_zeq, ↓n_zne, ↓n_zlt, ↓n_zge, ↓n_zgt, ↓n_zle, ↓e_goto, ↓e_nn, ↓e_retI, ↓e_retL, ↓e_retV, ↓n_retZ, ↓e_retA, ↓e_gfI, ↓e_gfL, ↓e_gfR, ↓e_pfI, ↓n_pfZ, ↓e_pfL, ↓e_pfR, ↓e_iald, ↓e_lald, ↓e_aald, ↓e_alen, ↓e_iast, ↓e_bast, ↓n_zast, ↓e_last, ↓e_aast, ↓e_cV, ↓e_cS, ↓e_gsW, ↓e_gsK, ↓e_mmax, ↓e_mmin, ↓e_mmaxL, ↓e_mminL, gEnt, gPad, gArgs, gGet, gS1, gS2, gCl, gNo, gSp, gCt, n_sw, n_gSw, n_gSw0, Option.toList, List.cons_append, List.nil_append, Value.category, and_true, true_and, and_self, not_false_eq_true, not_true_eq_false, Nat.reduceAdd, Nat.reduceSub, Nat.reduceMul, Nat.reduceLeDiff, Nat.reduceLT, Nat.reduceEqDiff, forall_const, true_implies, false_implies, implies_true, Nat.zero_add, Option.some.injEq, Sum.inr.injEq, Sum.inl.injEq, Prod.mk.injEq, exists_eq_left', exists_eq_left, w_ne0, nI_add, w_lt, w_le, w_eq, w_meq, w_eqm, w_mlt, w_ltm, w_mle, w_lem, w_clamp, w_in, w_31, w_ite0, w_ite1, w_ite01, true_or, or_true, false_or, or_false, Nat.le_refl, Nat.lt_irrefl, S_110 hS, S_111 hS, S_112 hS, S_118 hS, S_119 hS, S_145 hS, S_146 hS, S_147 hS, S_148 hS, S_149 hS, S_150 hS, S_151 hS, S_159 hS, R_110_1 hR, R_110_3 hR, R_110_20 hR, R_110_21 hR, R_110_58 hR, R_110_59 hR, R_110_60 hR, R_110_61 hR, R_110_62 hR, R_110_63 hR, R_110_64 hR, R_110_77 hR]
        exact flt μ1 f1 e y1
    · refine k_mTellBox (h := h) (st := (0, 0, zw g)) hS hR hsd hz ht hk hna hpl hv2 hnm hE hB (Nat.le_refl _) h4 c0 sR (fun μ1 f1 e b1 n1 l1 o1 o2 o3 r1 r2 r3 r4 r5 r6 r7 r8 => ?_) (fun μ1 f1 e y1 => ?_)
      · have hR1 : gPS μ1.2.2 β := by rw [f1.2.2]; exact hR
        have hR := hR1
        simp (disch := omega) only [↓n_gb, ↓n_gb0, ↓n_ic, ↓n_icm, ↓n_lc, ↓e_lc, ↓e_null, ↓e_ldI, ↓e_ldL, ↓e_ldA, ↓e_stI, ↓e_stL, ↓e_stA, ↓n_inc, ↓n_incm1, ↓n_incm8, ↓e_iadd, ↓e_isub, ↓e_imul, ↓e_iand, ↓e_ior, ↓e_ixor, ↓n_ishl, ↓n_ishr, ↓e_iushr, ↓n_idiv, ↓e_ineg, ↓e_ladd, ↓e_lsub, ↓e_lmul, ↓e_lor, ↓e_lshl, ↓e_lshr, ↓e_i2l, ↓e_l2i, ↓e_i2b, ↓e_lcmp, ↓e_dup, ↓e_dup2, ↓e_pop, ↓e_ceq, ↓e_cne, ↓e_clt, ↓e_cge, ↓e_cgt, ↓e_cle, ↓n_zeq, ↓n_zne, ↓n_zlt, ↓n_zge, ↓n_zgt, ↓n_zle, ↓e_goto, ↓e_nn, ↓e_retI, ↓e_retL, ↓e_retV, ↓n_retZ, ↓e_retA, ↓e_gfI, ↓e_gfL, ↓e_gfR, ↓e_pfI, ↓n_pfZ, ↓e_pfL, ↓e_pfR, ↓e_iald, ↓e_lald, ↓e_aald, ↓e_alen, ↓e_iast, ↓e_bast, ↓n_zast, ↓e_last, ↓e_aast, ↓e_cV, ↓e_cS, ↓e_gsW, ↓e_gsK, ↓e_mmax, ↓e_mmin, ↓e_mmaxL, ↓e_mminL, gEnt, gPad, gArgs, gGet, gS1, gS2, gCl, gNo, gSp, gCt, n_sw, n_gSw, n_gSw0, Option.toList, List.cons_append, List.nil_append, Value.category, and_true, true_and, and_self, not_false_eq_true, not_true_eq_false, Nat.reduceAdd, Nat.reduceSub, Nat.reduceMul, Nat.reduceLeDiff, Nat.reduceLT, Nat.reduceEqDiff, forall_const, true_implies, false_implies, implies_true, Nat.zero_add, Option.some.injEq, Sum.inr.injEq, Sum.inl.injEq, Prod.mk.injEq, exists_eq_left', exists_eq_left, w_ne0, nI_add, w_lt, w_le, w_eq, w_meq, w_eqm, w_mlt, w_ltm, w_mle, w_lem, w_clamp, w_in, w_31, w_ite0, w_ite1, w_ite01, true_or, or_true, false_or, or_false, Nat.le_refl, Nat.lt_irrefl, S_110 hS, S_111 hS, S_112 hS, S_118 hS, S_119 hS, S_145 hS, S_146 hS, S_147 hS, S_148 hS, S_149 hS, S_150 hS, S_151 hS, S_159 hS, R_110_1 hR, R_110_3 hR, R_110_20 hR, R_110_21 hR, R_110_58 hR, R_110_59 hR, R_110_60 hR, R_110_61 hR, R_110_62 hR, R_110_63 hR, R_110_64 hR, R_110_77 hR]
        obtain ⟨q1, q2, q3, q4, q5, q6, q7, q8, q9, q10⟩ := rdT_t hp e
        have h5 : K p = 5 := by omega
        obtain ⟨z1, z2, z3, z4, z5, z6, z7⟩ := zS_5 (pl := pl) (vl := vl) (c := (rdT K (zB g) (zL g) p).2.2) (g := g) h5
        have eE0 : zE K pl vl p (rdT K (zB g) (zL g) p).2.2 g = (rdT K (zB g) (zL g) p).2.2.foldl (eA (zR vl g p) pl) (eI4 pl vl p (0, 0, zw g)) := by unfold zE; rw [if_pos h5]
        obtain ⟨x1, x2, x3, x4, x5⟩ := hE
        obtain ⟨k1, k2, k3⟩ := hB
        have eo : zO K pl vl p (rdT K (zB g) (zL g) p).2.2 g = eTs pl (eTw vl (zln g) (zbn g) (zL g) (zB g) (p + 1)) 3 (p + 1) ((rdT K (zB g) (zL g) p).2.2.foldl (eA (zR vl g p) pl) (eI4 pl vl p (0, 0, zw g))) := by unfold zO; rw [eE0]
        dsimp only at r3 b1
        rw [← eE0] at r3 b1
        have p1 : p + 1 < sz := Nat.lt_of_not_le (fun z => by have := hz.2.2.2.2.1 _ z; omega)
        refine nxt μ1 f1 e ?_ ?_ ?_ (fun j x hx => ?_)
        · rw [z1, z3, z4]
          refine ⟨x1, ?_, by rw [l1]; exact x3, fun s hs => ?_, fun k hkk => ?_⟩
          · rw [f1.1 _ _ (by omega) (by omega) (by omega) (by omega) (by omega) (by omega)]; exact x2
          · rw [f1.2.1 _ _ (by omega) (by omega)]; exact x4 s hs
          · rw [(o3 _).2.2.1, (o3 _).2.2.2]
            exact x5 k hkk
        · rw [z2, z5]
          refine ⟨by have := q9 h5; omega, n1, fun k hkk => ?_⟩
          by_cases ek : k = zB g
          · rw [ek, zu_s]
            exact ⟨p1, q4, r8⟩
          · rw [zu_n ek, o2 _ (by omega)]
            exact k3 k (by omega)
        · rw [z7, eo, ← eE0]; exact eB_w b1
        · rcases get_app hx with ⟨c3, c4⟩ | ⟨c3, c4⟩
          · obtain ⟨a1, a2⟩ := hrc j x c4
            refine ⟨fun e1 => ?_, fun e1 => ?_⟩
            · obtain ⟨d1, d2, d3⟩ := a1 e1
              rw [z1, (o3 _).1, (o3 _).2.1]
              exact ⟨d1, d2, d3⟩
            · obtain ⟨d1, d2⟩ := a2 e1
              rw [z2, z6, zu_n (by omega), o1 _ _ (by omega) (by omega) (by omega), o1 _ _ (by omega) (by omega) (by omega), o1 _ _ (by omega) (by omega) (by omega), o1 _ _ (by omega) (by omega) (by omega), o1 _ _ (by omega) (by omega) (by omega), o1 _ _ (by omega) (by omega) (by omega), o1 _ _ (by omega) (by omega) (by omega)]
              exact ⟨by omega, d2⟩
          · have er : rTn K (zB g) (zL g) p C.length (C.length + (rdT K (zB g) (zL g) p).2.2.length) = (1, zB g, p, C.length, C.length + (rdT K (zB g) (zL g) p).2.2.length) := by unfold rTn; rw [if_pos h5, if_pos h5]
            rw [c4, er]
            refine ⟨fun z => by simp at z, fun _ => ⟨by rw [z2]; exact Nat.lt_succ_self _, r1, ?_, ?_, r4, r5, r6, r7⟩⟩
            · rw [List.length_append] at r2
              exact r2
            · dsimp only
              rw [z6, zu_s]
              exact r3
      · have hR1 : gPS μ1.2.2 β := by rw [f1.2.2]; exact hR
        have hR := hR1
        simp (disch := omega) only [↓n_gb, ↓n_gb0, ↓n_ic, ↓n_icm, ↓n_lc, ↓e_lc, ↓e_null, ↓e_ldI, ↓e_ldL, ↓e_ldA, ↓e_stI, ↓e_stL, ↓e_stA, ↓n_inc, ↓n_incm1, ↓n_incm8, ↓e_iadd, ↓e_isub, ↓e_imul, ↓e_iand, ↓e_ior, ↓e_ixor, ↓n_ishl, ↓n_ishr, ↓e_iushr, ↓n_idiv, ↓e_ineg, ↓e_ladd, ↓e_lsub, ↓e_lmul, ↓e_lor, ↓e_lshl, ↓e_lshr, ↓e_i2l, ↓e_l2i, ↓e_i2b, ↓e_lcmp, ↓e_dup, ↓e_dup2, ↓e_pop, ↓e_ceq, ↓e_cne, ↓e_clt, ↓e_cge, ↓e_cgt, ↓e_cle, ↓n_zeq, ↓n_zne, ↓n_zlt, ↓n_zge, ↓n_zgt, ↓n_zle, ↓e_goto, ↓e_nn, ↓e_retI, ↓e_retL, ↓e_retV, ↓n_retZ, ↓e_retA, ↓e_gfI, ↓e_gfL, ↓e_gfR, ↓e_pfI, ↓n_pfZ, ↓e_pfL, ↓e_pfR, ↓e_iald, ↓e_lald, ↓e_aald, ↓e_alen, ↓e_iast, ↓e_bast, ↓n_zast, ↓e_last, ↓e_aast, ↓e_cV, ↓e_cS, ↓e_gsW, ↓e_gsK, ↓e_mmax, ↓e_mmin, ↓e_mmaxL, ↓e_mminL, gEnt, gPad, gArgs, gGet, gS1, gS2, gCl, gNo, gSp, gCt, n_sw, n_gSw, n_gSw0, Option.toList, List.cons_append, List.nil_append, Value.category, and_true, true_and, and_self, not_false_eq_true, not_true_eq_false, Nat.reduceAdd, Nat.reduceSub, Nat.reduceMul, Nat.reduceLeDiff, Nat.reduceLT, Nat.reduceEqDiff, forall_const, true_implies, false_implies, implies_true, Nat.zero_add, Option.some.injEq, Sum.inr.injEq, Sum.inl.injEq, Prod.mk.injEq, exists_eq_left', exists_eq_left, w_ne0, nI_add, w_lt, w_le, w_eq, w_meq, w_eqm, w_mlt, w_ltm, w_mle, w_lem, w_clamp, w_in, w_31, w_ite0, w_ite1, w_ite01, true_or, or_true, false_or, or_false, Nat.le_refl, Nat.lt_irrefl, S_110 hS, S_111 hS, S_112 hS, S_118 hS, S_119 hS, S_145 hS, S_146 hS, S_147 hS, S_148 hS, S_149 hS, S_150 hS, S_151 hS, S_159 hS, R_110_1 hR, R_110_3 hR, R_110_20 hR, R_110_21 hR, R_110_58 hR, R_110_59 hR, R_110_60 hR, R_110_61 hR, R_110_62 hR, R_110_63 hR, R_110_64 hR, R_110_77 hR]
        exact flt μ1 f1 e y1
