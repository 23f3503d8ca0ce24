/-- the boxes that GaugeWall() makes: j of them, from m on, put into the array t -/
def gBS (S : gSh) (m : Nat) : Nat → gSh
  | 0 => S
  | j + 1 => gX [.inl 0, .inr (0, 400), .inr (1, 400)] (gBS S m j) (m + 3 * j)
def gBR (R : Nat → Nat → Nat) (t m : Nat) : Nat → (Nat → Nat → Nat)
  | 0 => R
  | j + 1 => gU (gU (gU (gBR R t m j) (m + 3 * j) 12 (m + 3 * j + 1)) (m + 3 * j) 13 (m + 3 * j + 2)) t j (m + 3 * j)
theorem gBS_lo {S : gSh} {m a : Nat} (h : a < m) : ∀ j, gBS S m j a = S a
  | 0 => rfl
  | j + 1 => (gX_lo (by omega)).trans (gBS_lo h j)
theorem gBR_o {R : Nat → Nat → Nat} {t m a k : Nat} (h : a ≠ t) (h2 : a < m) : ∀ j, gBR R t m j a k = R a k
  | 0 => rfl
  | j + 1 => (gU_n (fun z => h z.1)).trans ((gU_n (fun z => by omega)).trans ((gU_n (fun z => by omega)).trans (gBR_o h h2 j)))
theorem gBR_z {I : Nat → Nat → Int32} {L : Nat → Nat → Int64} {R : Nat → Nat → Nat} {t m q : Nat} (h : q ≠ t) (hz : gZn q (I, L, R)) : ∀ j, m + 3 * j ≤ q → gZn q (I, L, gBR R t m j)
  | 0, _ => hz
  | j + 1, hj => gZ_3 h (gZ_3 (by omega) (gZ_3 (by omega) (gBR_z h hz j (by omega))))
set_option maxRecDepth 100000 in
theorem yy_Wall_loop {h x t m kc ks : Nat} {S : gSh} {I : Nat → Nat → Int32} {L : Nat → Nat → Int64} {R : Nat → Nat → Nat} {P : gP2} {X : Nat → gK2} (hX : gClo2 Q_X10_init (fun S => gRun S (h + 1)) (gRun2 (h + 1)) 109 17546 P X) (e1 : S x = some (.inl 10)) (e2 : S t = some (.inr (4, 6))) (e3 : R x 3 = t) (ha : x < m) (ht : t < m) (hat : x ≠ t) (h0 : t ≠ 0) (hk : kc + 18 ≤ 109) (hs : ks + 4884 ≤ 17546) (hz : ∀ q, m ≤ q → gZn q (I, L, R))
    (hE : X 76 (gBS S m 6, m + 18, kc + 18, ks + 4884) (I, L, gBR R t m 6) [some (.ref x), some (.int (nI 6))] []) : ∀ d j, j + d = 6 → X 48 (gBS S m j, m + 3 * j, kc + 3 * j, ks + 814 * j) (I, L, gBR R t m j) [some (.ref x), some (.int (nI j))] [] := by
  intro d
  induction d with
  | zero =>
    intro j hj
    have : j = 6 := by omega
    subst this
    refine d_X10_init_48 hX ?_
    have f1 : gBS S m 6 x = some (.inl 10) := (gBS_lo ha 6).trans e1
    have f2 : gBS S m 6 t = some (.inr (4, 6)) := (gBS_lo ht 6).trans e2
    have f3 : gBR R t m 6 x 3 = t := (gBR_o hat ha 6).trans e3
    simp only [D_X10_init_48, ↓e_gb, ↓e_gb0, ↓e_gb2, ↓e_gb20, ↓e_ic, ↓e_lc, ↓e_null, ↓e_ldI, ↓e_ldL, ↓e_ldA, ↓e_stI, ↓e_stL, ↓e_stA, ↓e_inc, ↓e_iadd, ↓e_isub, ↓e_imul, ↓e_iand, ↓e_ior, ↓e_ixor, ↓e_ishl, ↓e_ishr, ↓e_iushr, ↓e_idiv, ↓e_ineg, ↓e_ladd, ↓e_lsub, ↓e_lmul, ↓e_lor, ↓e_lshl, ↓e_lshr, ↓e_i2l, ↓e_l2i, ↓e_i2b, ↓e_lcmp, ↓e_dup, ↓e_dup2, ↓e_pop, ↓e_ceq, ↓e_cne, ↓e_clt, ↓e_cge, ↓e_cgt, ↓e_cle, ↓e_zeq, ↓e_zne, ↓e_zlt, ↓e_zge, ↓e_zgt, ↓e_zle, ↓e_goto, ↓e_nn, ↓e_retI, ↓e_retL, ↓e_retV, ↓e_retZ, ↓e_retA, ↓e_gfI, ↓e_gfL, ↓e_gfR, ↓e_pfI, ↓e_pfZ, ↓e_pfL, ↓e_pfR, ↓e_iald, ↓e_lald, ↓e_aald, ↓e_alen, ↓e_iast, ↓e_bast, ↓e_zast, ↓e_last, ↓e_aast, ↓e_cV, ↓e_cS, ↓e_gsW, ↓e_gsK, ↓e_mmax, ↓e_mmin, ↓e_mmaxL, ↓e_mminL, ↓e_j_l, ↓e_j_new, ↓e_j_newa, ↓e_j_obj, ↓e_j_cI, gEnt, gPad, gArgs, gGet, gS1, gS2, gCl, gNo, gSp, gCt, gSw, Option.toList, List.cons_append, List.nil_append, Value.category, and_true, true_and, not_false_eq_true, not_true_eq_false, Nat.reduceAdd, Nat.reduceLeDiff, forall_const, Int32.reduceToNatClampNeg, Int32.reduceLT, Nat.zero_add, Nat.add_assoc, vp_in, Int32.reduceLE, Int32.reduceAdd, Int32.reduceSub, Int32.reduceMul, false_implies, true_implies, implies_true, or_self, or_false, false_or, decide_true, decide_false, not_false_eq_true, Nat.reduceMul, Nat.reduceLT, Option.some.injEq, Sum.inr.injEq, Sum.inl.injEq, Prod.mk.injEq, exists_eq_left', exists_eq_left, ne_eq, true_and, and_self, f1, f2, f3]
    refine ⟨h0, fun _ => hE, fun hc => absurd (nI_le (Nat.le_refl 6) (by decide)) hc⟩
  | succ d ih =>
    intro j hj
    refine d_X10_init_48 hX ?_
    have f1 : gBS S m j x = some (.inl 10) := (gBS_lo ha j).trans e1
    have f2 : gBS S m j t = some (.inr (4, 6)) := (gBS_lo ht j).trans e2
    have f3 : gBR R t m j x 3 = t := (gBR_o hat ha j).trans e3
    simp only [D_X10_init_48, ↓e_gb, ↓e_gb0, ↓e_gb2, ↓e_gb20, ↓e_ic, ↓e_lc, ↓e_null, ↓e_ldI, ↓e_ldL, ↓e_ldA, ↓e_stI, ↓e_stL, ↓e_stA, ↓e_inc, ↓e_iadd, ↓e_isub, ↓e_imul, ↓e_iand, ↓e_ior, ↓e_ixor, ↓e_ishl, ↓e_ishr, ↓e_iushr, ↓e_idiv, ↓e_ineg, ↓e_ladd, ↓e_lsub, ↓e_lmul, ↓e_lor, ↓e_lshl, ↓e_lshr, ↓e_i2l, ↓e_l2i, ↓e_i2b, ↓e_lcmp, ↓e_dup, ↓e_dup2, ↓e_pop, ↓e_ceq, ↓e_cne, ↓e_clt, ↓e_cge, ↓e_cgt, ↓e_cle, ↓e_zeq, ↓e_zne, ↓e_zlt, ↓e_zge, ↓e_zgt, ↓e_zle, ↓e_goto, ↓e_nn, ↓e_retI, ↓e_retL, ↓e_retV, ↓e_retZ, ↓e_retA, ↓e_gfI, ↓e_gfL, ↓e_gfR, ↓e_pfI, ↓e_pfZ, ↓e_pfL, ↓e_pfR, ↓e_iald, ↓e_lald, ↓e_aald, ↓e_alen, ↓e_iast, ↓e_bast, ↓e_zast, ↓e_last, ↓e_aast, ↓e_cV, ↓e_cS, ↓e_gsW, ↓e_gsK, ↓e_mmax, ↓e_mmin, ↓e_mmaxL, ↓e_mminL, ↓e_j_l, ↓e_j_new, ↓e_j_newa, ↓e_j_obj, ↓e_j_cI, gEnt, gPad, gArgs, gGet, gS1, gS2, gCl, gNo, gSp, gCt, gSw, Option.toList, List.cons_append, List.nil_append, Value.category, and_true, true_and, not_false_eq_true, not_true_eq_false, Nat.reduceAdd, Nat.reduceLeDiff, forall_const, Int32.reduceToNatClampNeg, Int32.reduceLT, Nat.zero_add, Nat.add_assoc, vp_in, Int32.reduceLE, Int32.reduceAdd, Int32.reduceSub, Int32.reduceMul, false_implies, true_implies, implies_true, or_self, or_false, false_or, decide_true, decide_false, not_false_eq_true, Nat.reduceMul, Nat.reduceLT, Option.some.injEq, Sum.inr.injEq, Sum.inl.injEq, Prod.mk.injEq, exists_eq_left', exists_eq_left, ne_eq, true_and, and_self, f1, f2, f3]
    refine ⟨h0, fun hc => absurd hc (nI_ge (by omega) (by decide)), fun _ => ⟨h0, gBR_z (by omega) (hz _ (by omega)) j (by omega), ⟨by omega, by omega⟩, ⟨by omega, by omega⟩, ?_⟩⟩
    refine yx_Box gUS_s (by omega) (fun q hq => gBR_z (by omega) (hz _ (by omega)) j (by omega)) ?_
    rw [gX_1 (S := gBS S m j), gX_app (l1 := [.inl 0]) (n := m + 3 * j) (m := m + (3 * j + 1)) rfl]
    have hc : (nI j).toNatClampNeg = j := nI_clamp (by omega)
    refine ⟨rfl, 6, (gX_lo (by omega)).trans f2, gX_at (i := 0) rfl, nI_in (by omega) (by decide), ?_⟩
    rw [hc, nI_1]
    exact ih (j + 1) (by omega)
