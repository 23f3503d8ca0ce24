/-! OP: plan, both sides -/
theorem gW_idr {α : Type} {f : Nat → Nat → α} {a : Nat} : gW f a (f a) = f := by
  funext x y
  simp only [gW]
  split
  · rename_i e; rw [e]
  · rfl
theorem plan_m1 {f : Nat → Nat → Int32} {g9 : Nat → Int32} {β j t H v k : Nat} : gU (gU (gU (gU (gU (gW f (β + 39) g9) (β + 37) 15 (nI t)) (β + 37) 16 (nI H)) (β + 37) 11 (nI v)) (β + 39) j (nI k)) (β + 37) 11 (nI (v + 1)) = gU (gU (gU (gW f (β + 39) (fun i => if i = j then nI k else g9 i)) (β + 37) 15 (nI t)) (β + 37) 16 (nI H)) (β + 37) 11 (nI (v + 1)) := by
  funext a i
  simp only [gU, gW]
  grind
theorem plan_m2 {f : Nat → Nat → Nat} {gr : Nat → Nat} {a j v : Nat} : gU (gW f a gr) a j v = gW f a (fun i => if i = j then v else gr i) := by
  funext x i
  simp only [gU, gW]
  grind
set_option maxHeartbeats 8000000 in
theorem plan_good {S : gSh} {β b s H : Nat} {xs : Nat → Int32} {μ : gM} {P : gP} (hS : gLS S β) (hβ : b < β) (hI : gInv β b xs μ) (hs1 : 1 ≤ s) (h1 : 1 ≤ H) (hH10 : H ≤ 10)
    (hsn : ∀ n, μ.1 (β + 0) 9 = nI n → n ≤ 6 → s < 2 ^ n) (hs4 : pPo s 6 ≤ 4) (htH : ∀ t, μ.1 (β + 0) 10 = nI t → t < 400 → t + H ≤ 400)
    (hP : ∀ (r : Int32) (μ1 : gM), (∀ j, μ1.1 b j = xs j) → (∀ P2 : gP, (∀ μ2, gInv β b xs μ2 → P2 (some (.int r)) μ2) → gRun S 100 174 [.ref (β + 110), .int (nI s), .int (nI H)] μ1 P2) → P (some (.int r)) μ1) : gRun S 100 99 [.ref β, .int (nI s), .int (nI H)] μ P := by
  have hI' := hI
  obtain ⟨hs, hR, iky, itp, ipc, isr, ifa, ido, ias, t, n, lv, q, irf, ihd, ibx, ilk, ihs, ifx, iov, isc, ipl, ily⟩ := hI; have hn6 : n ≤ 6 := ihd.2.1; have hq : q = 56 ∨ q = 83 := irf.1
  have hsn := hsn n ihd.2.2.2.2.2.1 hn6
  have htH := htH t ihd.2.2.2.1 ihd.1
  obtain ⟨ht, hn, hlv, h10, h51, h9, h18, h119⟩ := id ihd; rw [Nat.add_zero] at h10 h9
  obtain ⟨a, sp, ha, hsp, d12, m52, d13, m53, d14⟩ := id ias
  obtain ⟨cst, l, hl, d11, m42⟩ := id isr
  obtain ⟨D, hD, dd10, m47, dd⟩ := id ido
  have hs64 : s < 64 := Nat.lt_of_lt_of_le hsn (show 2 ^ n ≤ 2 ^ 6 from Nat.pow_le_pow_right (by omega) hn)
  have hpn := pPo_n ⟨n, by omega⟩ ⟨s, hs64⟩ hsn
  dsimp only at hpn
  -- the boxes' numbers
  obtain ⟨nd, fr, wo, ra, hnd, hbc⟩ : ∃ (nd fr wo : Nat → Nat) (ra : Nat → Option Nat), (∀ k, nd k < 64) ∧ ∀ k, k < n → (μ.1 (β + (19 + 3 * k)) 4 = nI (nd k) ∧ μ.1 (β + (19 + 3 * k)) 1 = nI (fr k) ∧ fr k ≤ 6 ∧ μ.1 (β + (19 + 3 * k)) 0 = nI (wo k) ∧ wo k ≤ 1000 ∧ ((μ.1 (β + (20 + 3 * k)) t = gm1 ∧ ra k = none) ∨ ∃ r, r ≤ t ∧ μ.1 (β + (20 + 3 * k)) t = nI r ∧ ra k = some r)) ∧ (μ.1 (β + 127) (6 * lv + k) = nI (nd k) ∧ μ.1 (β + 129) (6 * lv + k) = nI (fr k) ∧ fr k ≤ 6 ∧ μ.1 (β + 128) (6 * lv + k) = nI (wo k) ∧ wo k ≤ 1000 ∧ ((μ.1 (β + 146) k = gm1 ∧ ra k = none) ∨ ∃ r, r ≤ t ∧ μ.1 (β + 146) k = nI r ∧ ra k = some r)) := by
    refine ⟨fun k => if k < n then (μ.1 (β + (19 + 3 * k)) 4).toNatClampNeg else 0, fun k => (μ.1 (β + (19 + 3 * k)) 1).toNatClampNeg, fun k => (μ.1 (β + (19 + 3 * k)) 0).toNatClampNeg, fun k => if μ.1 (β + (20 + 3 * k)) t = gm1 then none else some (μ.1 (β + (20 + 3 * k)) t).toNatClampNeg, fun k => ?_, fun k hk => ?_⟩
    · dsimp only
      split
      · rename_i hk
        obtain ⟨ww, f, d, g, e, z⟩ := ibx k hk
        obtain ⟨-, -, -, -, -, -, -, -, he, -, -, -, -, -, -, -, -, z4, -⟩ := z
        rw [z4, w_clamp (by omega)]
        exact he
      · omega
    · obtain ⟨ww, f, d, g, e, z⟩ := ibx k hk
      obtain ⟨hw, hf1, hf6, -, -, -, -, -, he, z0, y0, z1, y1, -, -, -, -, z4, y4⟩ := z
      obtain ⟨i1, i2, -⟩ := ihs k hk
      dsimp only
      rw [if_pos hk, z0, y0, z1, y1, z4, y4, w_clamp (by omega), w_clamp (by omega), w_clamp (by omega), ← i2]
      refine ⟨⟨rfl, rfl, hf6, rfl, hw, ?_⟩, rfl, rfl, hf6, rfl, hw, ?_⟩
      all_goals
        rcases i1 t (Nat.le_refl _) with i3 | ⟨r, i3, i4⟩
        · left; rw [i3]; exact ⟨rfl, if_pos rfl⟩
        · right
          refine ⟨r, i3, i4, ?_⟩
          rw [i4, if_neg (fun z => by rw [w_eqm (by omega)] at z; exact z), w_clamp (by omega)]
  -- costs
  obtain ⟨c, hc⟩ : ∃ c : Nat → Nat, ∀ s, s < 6 → 1 ≤ c s ∧ c s ≤ 9 ∧ μ.1 (β + 9) s = nI (c s) ∧ μ.1 (β + 135) s = nI (c s) := by
    refine ⟨fun s => (μ.1 (β + 9) s).toNatClampNeg, fun s hs => ?_⟩
    obtain ⟨c, c1, c2, c3, c4⟩ := cst s hs
    dsimp only
    rw [c3, c4, w_clamp (by omega)]
    exact ⟨c1, c2, rfl, rfl⟩
  -- who is down
  have hdn : ∀ i, ∃ d, d < 64 ∧ gDn (μ.1 (β + 13)) (μ.1 (β + 14)) (μ.1 (β + 15)) (nI (t + i)) D = nI d := fun i => gDn_nat D (fun j hj => by
    obtain ⟨s', -, -, y1, -, -, y2, -⟩ := dd j hj
    exact ⟨s', y1, y2⟩)
  obtain ⟨dn, hdl, hde⟩ : ∃ dn : Nat → Nat, (∀ i, dn i < 64) ∧ ∀ i, gDn (μ.1 (β + 13)) (μ.1 (β + 14)) (μ.1 (β + 15)) (nI (t + i)) D = nI (dn i) := by
    refine ⟨fun i => (gDn (μ.1 (β + 13)) (μ.1 (β + 14)) (μ.1 (β + 15)) (nI (t + i)) D).toNatClampNeg, fun i => ?_, fun i => ?_⟩
    · obtain ⟨d, e1, e2⟩ := hdn i
      dsimp only
      rw [e2, w_clamp (by omega)]
      exact e1
    · obtain ⟨d, e1, e2⟩ := hdn i
      dsimp only
      rw [e2, w_clamp (by omega)]
  have hdm : ∀ i, gDn (μ.1 (β + 139)) (μ.1 (β + 140)) (μ.1 (β + 141)) (nI (t + i)) D = nI (dn i) := fun i => by
    rw [← hde i]
    refine gDn_congr D (fun j hj => ?_)
    obtain ⟨s', u, v, -, -, -, y1, y2, y3, y4, y5, y6⟩ := dd j hj
    rw [y1, y2, y3, y4, y5, y6]
    exact ⟨rfl, rfl, rfl⟩
  obtain ⟨E, hEx, hE, hEc⟩ : ∃ E : Nat → gPE, pEf E nd fr H ∧ (∀ x, x < 64 → pPo x 6 ≤ 4 → pWf (E x)) ∧ ∀ x, pc (E x) = c ∧ pd (E x) = dn ∧ pa (E x) = (fun i => if i = 0 then a else 0) ∧ ps (E x) = (fun i => if i = 0 then sp else 0) ∧ pl (E x) = l := by
    refine ⟨fun x => (pPo x 6, fun j => nd (pSl x 6 j), fun j => fr (pSl x 6 j), c, dn, (fun i => if i = 0 then a else 0), (fun i => if i = 0 then sp else 0), l, H), fun x => ⟨rfl, fun _ => rfl, fun _ => rfl, rfl⟩, fun x _ hx => ⟨hx, fun b => hnd _, fun s hs => (hc s hs).1, fun s hs => (hc s hs).2.1, hH10⟩, fun x => ⟨rfl, rfl, rfl, rfl, rfl⟩⟩
  have hqS : ∀ x, qS β (E x) t μ := by
    intro x
    obtain ⟨x1, x2, x3, x4, x5⟩ := hEc x
    unfold qS
    rw [x1, x2, x3, x4, x5]
    refine ⟨d12, d13, fun i hi => ⟨if_neg hi, if_neg hi⟩, d11, fun s hs => (hc s hs).2.2.1, fun i => ?_, fun i => ?_, hl, hdl, D, hD, dd10, fun i _ => hde i⟩
    · dsimp only; split <;> omega
    · dsimp only; split <;> omega
  have hrS : ∀ x, rS β (E x) t μ := by
    intro x
    obtain ⟨x1, x2, x3, x4, x5⟩ := hEc x
    unfold rS
    rw [x1, x2, x3, x4, x5]
    refine ⟨h51, m52, m53, fun i hi => ⟨if_neg hi, if_neg hi⟩, m42, fun s hs => (hc s hs).2.2.2, fun i => ?_, fun i => ?_, hl, hdl, D, hD, m47, fun i _ => hdm i⟩
    · dsimp only; split <;> omega
    · dsimp only; split <;> omega
  have hrC : rC β n lv nd fr wo ra t μ := ⟨hn, hlv, h18, h119, h51, fun k hk => (hbc k hk).2⟩
  have g1 : ¬ H < 1 := by omega
  have g2 : ¬ 10 < H := by omega
  have h16 : 2 ^ pPo s 6 ≤ 16 := show 2 ^ pPo s 6 ≤ 2 ^ 4 from Nat.pow_le_pow_right (by omega) hs4
  refine r_X10_plan (by simp [lg_sl, Value.category]) (fun X hX => ?_)
  refine b_X10_plan_0 hX ?_
  simp (disch := omega) only [B_X10_plan_0, ↓n_gb, ↓n_gb0, ↓n_ic, ↓n_icm, ↓n_lc, ↓e_lc, ↓e_null, ↓e_ldI, ↓e_ldL, ↓e_ldA, ↓e_stI, ↓e_stL, ↓e_stA, ↓n_inc, ↓n_incm1, ↓n_incm8, ↓e_iadd, ↓e_isub, ↓e_imul, ↓e_iand, ↓e_ior, ↓e_ixor, ↓n_ishl, ↓n_ishr, ↓e_iushr, ↓n_idiv, ↓e_ineg, ↓e_ladd, ↓e_lsub, ↓e_lmul, ↓e_lor, ↓e_lshl, ↓e_lshr, ↓e_i2l, ↓e_l2i, ↓e_i2b, ↓e_lcmp, ↓e_dup, ↓e_dup2, ↓e_pop, ↓e_ceq, ↓e_cne, ↓e_clt, ↓e_cge, ↓e_cgt, ↓e_cle, ↓n_zeq, ↓n_zne, ↓n_zlt, ↓n_zge, ↓n_zgt, ↓n_zle, ↓e_goto, ↓e_nn, ↓e_retI, ↓e_retL, ↓e_retV, ↓n_retZ, ↓e_retA, ↓e_gfI, ↓e_gfL, ↓e_gfR, ↓e_pfI, ↓n_pfZ, ↓e_pfL, ↓e_pfR, ↓e_iald, ↓e_lald, ↓e_aald, ↓e_alen, ↓e_iast, ↓e_bast, ↓n_zast, ↓e_last, ↓e_aast, ↓e_cV, ↓e_cS, ↓e_gsW, ↓e_gsK, ↓e_mmax, ↓e_mmin, ↓e_mmaxL, ↓e_mminL, gEnt, gPad, gArgs, gGet, gS1, gS2, gCl, gNo, gSp, gCt, n_sw, n_gSw, n_gSw0, Option.toList, List.cons_append, List.nil_append, Value.category, and_true, true_and, and_self, not_false_eq_true, not_true_eq_false, Nat.reduceAdd, Nat.reduceSub, Nat.reduceMul, Nat.reduceLeDiff, Nat.reduceLT, Nat.reduceEqDiff, forall_const, true_implies, false_implies, implies_true, Nat.zero_add, Option.some.injEq, Sum.inr.injEq, Sum.inl.injEq, Prod.mk.injEq, exists_eq_left', exists_eq_left, w_ne0, nI_add, w_lt, w_le, w_eq, w_meq, w_eqm, w_mlt, w_ltm, w_mle, w_lem, w_clamp, w_in, w_31, w_ite0, w_ite1, w_ite01, true_or, or_true, false_or, or_false, Nat.le_refl, Nat.lt_irrefl, S_0 hS, S_8 hS, S_18 hS, S_37 hS, S_48 hS, R_0_2 hR, R_0_3 hR, R_0_4 hR, R_0_5 hR]
  refine k_isPlannable hS hR hn h9 hs1 hsn ?_
  rw [if_pos hs4]
  simp (disch := omega) only [↓n_gb, ↓n_gb0, ↓n_ic, ↓n_icm, ↓n_lc, ↓e_lc, ↓e_null, ↓e_ldI, ↓e_ldL, ↓e_ldA, ↓e_stI, ↓e_stL, ↓e_stA, ↓n_inc, ↓n_incm1, ↓n_incm8, ↓e_iadd, ↓e_isub, ↓e_imul, ↓e_iand, ↓e_ior, ↓e_ixor, ↓n_ishl, ↓n_ishr, ↓e_iushr, ↓n_idiv, ↓e_ineg, ↓e_ladd, ↓e_lsub, ↓e_lmul, ↓e_lor, ↓e_lshl, ↓e_lshr, ↓e_i2l, ↓e_l2i, ↓e_i2b, ↓e_lcmp, ↓e_dup, ↓e_dup2, ↓e_pop, ↓e_ceq, ↓e_cne, ↓e_clt, ↓e_cge, ↓e_cgt, ↓e_cle, ↓n_zeq, ↓n_zne, ↓n_zlt, ↓n_zge, ↓n_zgt, ↓n_zle, ↓e_goto, ↓e_nn, ↓e_retI, ↓e_retL, ↓e_retV, ↓n_retZ, ↓e_retA, ↓e_gfI, ↓e_gfL, ↓e_gfR, ↓e_pfI, ↓n_pfZ, ↓e_pfL, ↓e_pfR, ↓e_iald, ↓e_lald, ↓e_aald, ↓e_alen, ↓e_iast, ↓e_bast, ↓n_zast, ↓e_last, ↓e_aast, ↓e_cV, ↓e_cS, ↓e_gsW, ↓e_gsK, ↓e_mmax, ↓e_mmin, ↓e_mmaxL, ↓e_mminL, gEnt, gPad, gArgs, gGet, gS1, gS2, gCl, gNo, gSp, gCt, n_sw, n_gSw, n_gSw0, Option.toList, List.cons_append, List.nil_append, Value.category, and_true, true_and, and_self, not_false_eq_true, not_true_eq_false, Nat.reduceAdd, Nat.reduceSub, Nat.reduceMul, Nat.reduceLeDiff, Nat.reduceLT, Nat.reduceEqDiff, forall_const, true_implies, false_implies, implies_true, Nat.zero_add, Option.some.injEq, Sum.inr.injEq, Sum.inl.injEq, Prod.mk.injEq, exists_eq_left', exists_eq_left, w_ne0, nI_add, w_lt, w_le, w_eq, w_meq, w_eqm, w_mlt, w_ltm, w_mle, w_lem, w_clamp, w_in, w_31, w_ite0, w_ite1, w_ite01, true_or, or_true, false_or, or_false, Nat.le_refl, Nat.lt_irrefl, S_0 hS, S_8 hS, S_18 hS, S_37 hS, S_48 hS, R_0_2 hR, R_0_3 hR, R_0_4 hR, R_0_5 hR, g1, g2, h10]
  refine ⟨fun _ => ?_, fun w => by omega⟩
  have hRb : gPS (gU μ.2.2 (β + 37) 0 (β + 8)) β := gPS_U hR (by decide +kernel)
  refine b_X10_plan_33 hX ?_
  simp (disch := omega) only [B_X10_plan_33, ↓n_gb, ↓n_gb0, ↓n_ic, ↓n_icm, ↓n_lc, ↓e_lc, ↓e_null, ↓e_ldI, ↓e_ldL, ↓e_ldA, ↓e_stI, ↓e_stL, ↓e_stA, ↓n_inc, ↓n_incm1, ↓n_incm8, ↓e_iadd, ↓e_isub, ↓e_imul, ↓e_iand, ↓e_ior, ↓e_ixor, ↓n_ishl, ↓n_ishr, ↓e_iushr, ↓n_idiv, ↓e_ineg, ↓e_ladd, ↓e_lsub, ↓e_lmul, ↓e_lor, ↓e_lshl, ↓e_lshr, ↓e_i2l, ↓e_l2i, ↓e_i2b, ↓e_lcmp, ↓e_dup, ↓e_dup2, ↓e_pop, ↓e_ceq, ↓e_cne, ↓e_clt, ↓e_cge, ↓e_cgt, ↓e_cle, ↓n_zeq, ↓n_zne, ↓n_zlt, ↓n_zge, ↓n_zgt, ↓n_zle, ↓e_goto, ↓e_nn, ↓e_retI, ↓e_retL, ↓e_retV, ↓n_retZ, ↓e_retA, ↓e_gfI, ↓e_gfL, ↓e_gfR, ↓e_pfI, ↓n_pfZ, ↓e_pfL, ↓e_pfR, ↓e_iald, ↓e_lald, ↓e_aald, ↓e_alen, ↓e_iast, ↓e_bast, ↓n_zast, ↓e_last, ↓e_aast, ↓e_cV, ↓e_cS, ↓e_gsW, ↓e_gsK, ↓e_mmax, ↓e_mmin, ↓e_mmaxL, ↓e_mminL, gEnt, gPad, gArgs, gGet, gS1, gS2, gCl, gNo, gSp, gCt, n_sw, n_gSw, n_gSw0, Option.toList, List.cons_append, List.nil_append, Value.category, and_true, true_and, and_self, not_false_eq_true, not_true_eq_false, Nat.reduceAdd, Nat.reduceSub, Nat.reduceMul, Nat.reduceLeDiff, Nat.reduceLT, Nat.reduceEqDiff, forall_const, true_implies, false_implies, implies_true, Nat.zero_add, Option.some.injEq, Sum.inr.injEq, Sum.inl.injEq, Prod.mk.injEq, exists_eq_left', exists_eq_left, w_ne0, nI_add, w_lt, w_le, w_eq, w_meq, w_eqm, w_mlt, w_ltm, w_mle, w_lem, w_clamp, w_in, w_31, w_ite0, w_ite1, w_ite01, true_or, or_true, false_or, or_false, Nat.le_refl, Nat.lt_irrefl, S_0 hS, S_8 hS, S_18 hS, S_37 hS, S_48 hS, R_0_2 hR, R_0_3 hR, R_0_4 hR, R_0_5 hR, h10]
  refine k_begin hS hR ?_
  have hR0 := hR
  have hR := hRb
  simp (disch := omega) only [↓n_gb, ↓n_gb0, ↓n_ic, ↓n_icm, ↓n_lc, ↓e_lc, ↓e_null, ↓e_ldI, ↓e_ldL, ↓e_ldA, ↓e_stI, ↓e_stL, ↓e_stA, ↓n_inc, ↓n_incm1, ↓n_incm8, ↓e_iadd, ↓e_isub, ↓e_imul, ↓e_iand, ↓e_ior, ↓e_ixor, ↓n_ishl, ↓n_ishr, ↓e_iushr, ↓n_idiv, ↓e_ineg, ↓e_ladd, ↓e_lsub, ↓e_lmul, ↓e_lor, ↓e_lshl, ↓e_lshr, ↓e_i2l, ↓e_l2i, ↓e_i2b, ↓e_lcmp, ↓e_dup, ↓e_dup2, ↓e_pop, ↓e_ceq, ↓e_cne, ↓e_clt, ↓e_cge, ↓e_cgt, ↓e_cle, ↓n_zeq, ↓n_zne, ↓n_zlt, ↓n_zge, ↓n_zgt, ↓n_zle, ↓e_goto, ↓e_nn, ↓e_retI, ↓e_retL, ↓e_retV, ↓n_retZ, ↓e_retA, ↓e_gfI, ↓e_gfL, ↓e_gfR, ↓e_pfI, ↓n_pfZ, ↓e_pfL, ↓e_pfR, ↓e_iald, ↓e_lald, ↓e_aald, ↓e_alen, ↓e_iast, ↓e_bast, ↓n_zast, ↓e_last, ↓e_aast, ↓e_cV, ↓e_cS, ↓e_gsW, ↓e_gsK, ↓e_mmax, ↓e_mmin, ↓e_mmaxL, ↓e_mminL, gEnt, gPad, gArgs, gGet, gS1, gS2, gCl, gNo, gSp, gCt, n_sw, n_gSw, n_gSw0, Option.toList, List.cons_append, List.nil_append, Value.category, and_true, true_and, and_self, not_false_eq_true, not_true_eq_false, Nat.reduceAdd, Nat.reduceSub, Nat.reduceMul, Nat.reduceLeDiff, Nat.reduceLT, Nat.reduceEqDiff, forall_const, true_implies, false_implies, implies_true, Nat.zero_add, Option.some.injEq, Sum.inr.injEq, Sum.inl.injEq, Prod.mk.injEq, exists_eq_left', exists_eq_left, w_ne0, nI_add, w_lt, w_le, w_eq, w_meq, w_eqm, w_mlt, w_ltm, w_mle, w_lem, w_clamp, w_in, w_31, w_ite0, w_ite1, w_ite01, true_or, or_true, false_or, or_false, Nat.le_refl, Nat.lt_irrefl, S_0 hS, S_8 hS, S_18 hS, S_37 hS, S_48 hS, R_0_2 hR, R_0_3 hR, R_0_4 hR, R_0_5 hR]
  refine gLoop (I := fun k μ' lc => ∃ gr g9, μ' = (gU (gU (gU (gW μ.1 (β + 39) g9) (β + 37) 15 (nI t)) (β + 37) 16 (nI H)) (β + 37) 11 (nI (pPo s k)), μ.2.1, gW (gU μ.2.2 (β + 37) 0 (β + 8)) (β + 38) gr) ∧ (∀ j, j < k → s.testBit j = true → gr (pPo s j) = β + (19 + 3 * j) ∧ g9 (pPo s j) = nI j) ∧ lc = [some (.ref β), some (.int (nI s)), some (.int (nI H)), some (.int (nI k))]) n ?_ ?_ 0 (by omega) _ _ ⟨μ.2.2 (β + 38), μ.1 (β + 39), ?_, fun j hj => by omega, rfl⟩
  · rintro k μ' _ hk ⟨gr, g9, rfl, f1, rfl⟩ hkk
    have hR' : gPS (gW (gU μ.2.2 (β + 37) 0 (β + 8)) (β + 38) gr) β := gPS_W hRb (by decide +kernel)
    have hR := hR'
    have hk6 : k < 6 := by omega
    have b18 : gW (gU μ.2.2 (β + 37) 0 (β + 8)) (β + 38) gr (β + 18) k = β + (19 + 3 * k) := bx_r hR hk6
    refine b_X10_plan_51 hX ?_
    simp (disch := omega) only [B_X10_plan_51, ↓n_gb, ↓n_gb0, ↓n_ic, ↓n_icm, ↓n_lc, ↓e_lc, ↓e_null, ↓e_ldI, ↓e_ldL, ↓e_ldA, ↓e_stI, ↓e_stL, ↓e_stA, ↓n_inc, ↓n_incm1, ↓n_incm8, ↓e_iadd, ↓e_isub, ↓e_imul, ↓e_iand, ↓e_ior, ↓e_ixor, ↓n_ishl, ↓n_ishr, ↓e_iushr, ↓n_idiv, ↓e_ineg, ↓e_ladd, ↓e_lsub, ↓e_lmul, ↓e_lor, ↓e_lshl, ↓e_lshr, ↓e_i2l, ↓e_l2i, ↓e_i2b, ↓e_lcmp, ↓e_dup, ↓e_dup2, ↓e_pop, ↓e_ceq, ↓e_cne, ↓e_clt, ↓e_cge, ↓e_cgt, ↓e_cle, ↓n_zeq, ↓n_zne, ↓n_zlt, ↓n_zge, ↓n_zgt, ↓n_zle, ↓e_goto, ↓e_nn, ↓e_retI, ↓e_retL, ↓e_retV, ↓n_retZ, ↓e_retA, ↓e_gfI, ↓e_gfL, ↓e_gfR, ↓e_pfI, ↓n_pfZ, ↓e_pfL, ↓e_pfR, ↓e_iald, ↓e_lald, ↓e_aald, ↓e_alen, ↓e_iast, ↓e_bast, ↓n_zast, ↓e_last, ↓e_aast, ↓e_cV, ↓e_cS, ↓e_gsW, ↓e_gsK, ↓e_mmax, ↓e_mmin, ↓e_mmaxL, ↓e_mminL, gEnt, gPad, gArgs, gGet, gS1, gS2, gCl, gNo, gSp, gCt, n_sw, n_gSw, n_gSw0, Option.toList, List.cons_append, List.nil_append, Value.category, and_true, true_and, and_self, not_false_eq_true, not_true_eq_false, Nat.reduceAdd, Nat.reduceSub, Nat.reduceMul, Nat.reduceLeDiff, Nat.reduceLT, Nat.reduceEqDiff, forall_const, true_implies, false_implies, implies_true, Nat.zero_add, Option.some.injEq, Sum.inr.injEq, Sum.inl.injEq, Prod.mk.injEq, exists_eq_left', exists_eq_left, w_ne0, nI_add, w_lt, w_le, w_eq, w_meq, w_eqm, w_mlt, w_ltm, w_mle, w_lem, w_clamp, w_in, w_31, w_ite0, w_ite1, w_ite01, true_or, or_true, false_or, or_false, Nat.le_refl, Nat.lt_irrefl, S_0 hS, S_8 hS, S_18 hS, S_37 hS, S_48 hS, R_0_2 hR, R_0_3 hR, R_0_4 hR, R_0_5 hR, gU_n, gW_n, h9, w_tb]
    refine ⟨fun w => by omega, fun _ => ⟨fun w => ?_, fun w => ?_⟩⟩
    · refine b_X10_plan_81 hX ?_
      simp (disch := omega) only [B_X10_plan_81, ↓n_gb, ↓n_gb0, ↓n_ic, ↓n_icm, ↓n_lc, ↓e_lc, ↓e_null, ↓e_ldI, ↓e_ldL, ↓e_ldA, ↓e_stI, ↓e_stL, ↓e_stA, ↓n_inc, ↓n_incm1, ↓n_incm8, ↓e_iadd, ↓e_isub, ↓e_imul, ↓e_iand, ↓e_ior, ↓e_ixor, ↓n_ishl, ↓n_ishr, ↓e_iushr, ↓n_idiv, ↓e_ineg, ↓e_ladd, ↓e_lsub, ↓e_lmul, ↓e_lor, ↓e_lshl, ↓e_lshr, ↓e_i2l, ↓e_l2i, ↓e_i2b, ↓e_lcmp, ↓e_dup, ↓e_dup2, ↓e_pop, ↓e_ceq, ↓e_cne, ↓e_clt, ↓e_cge, ↓e_cgt, ↓e_cle, ↓n_zeq, ↓n_zne, ↓n_zlt, ↓n_zge, ↓n_zgt, ↓n_zle, ↓e_goto, ↓e_nn, ↓e_retI, ↓e_retL, ↓e_retV, ↓n_retZ, ↓e_retA, ↓e_gfI, ↓e_gfL, ↓e_gfR, ↓e_pfI, ↓n_pfZ, ↓e_pfL, ↓e_pfR, ↓e_iald, ↓e_lald, ↓e_aald, ↓e_alen, ↓e_iast, ↓e_bast, ↓n_zast, ↓e_last, ↓e_aast, ↓e_cV, ↓e_cS, ↓e_gsW, ↓e_gsK, ↓e_mmax, ↓e_mmin, ↓e_mmaxL, ↓e_mminL, gEnt, gPad, gArgs, gGet, gS1, gS2, gCl, gNo, gSp, gCt, n_sw, n_gSw, n_gSw0, Option.toList, List.cons_append, List.nil_append, Value.category, and_true, true_and, and_self, not_false_eq_true, not_true_eq_false, Nat.reduceAdd, Nat.reduceSub, Nat.reduceMul, Nat.reduceLeDiff, Nat.reduceLT, Nat.reduceEqDiff, forall_const, true_implies, false_implies, implies_true, Nat.zero_add, Option.some.injEq, Sum.inr.injEq, Sum.inl.injEq, Prod.mk.injEq, exists_eq_left', exists_eq_left, w_ne0, nI_add, w_lt, w_le, w_eq, w_meq, w_eqm, w_mlt, w_ltm, w_mle, w_lem, w_clamp, w_in, w_31, w_ite0, w_ite1, w_ite01, true_or, or_true, false_or, or_false, Nat.le_refl, Nat.lt_irrefl, S_0 hS, S_8 hS, S_18 hS, S_37 hS, S_48 hS, R_0_2 hR, R_0_3 hR, R_0_4 hR, R_0_5 hR]
      refine hkk _ _ ⟨gr, g9, ?_, fun j hj hb => ?_, rfl⟩
      · simp only [pPo, w]; rfl
      · by_cases e : j = k
        · rw [e, w] at hb; exact absurd hb (by decide)
        · exact f1 j (by omega) hb
    · have hb := Bool.of_not_eq_false w
      have h4 := pPo_4 ⟨s, hs64⟩ ⟨k, hk6⟩ hs4 hb
      dsimp only at h4
      have b18' : μ.2.2 (β + 18) k = β + (19 + 3 * k) := bx_r hR0 hk6
      simp (disch := omega) only [b18', bx_S hS]
      refine ⟨hk6, by omega, ?_⟩
      refine k_choose hS ?_ hk6 h4 ?_ ?_
      · exact hR
      · exact gU_s
      simp (disch := omega) only [↓n_gb, ↓n_gb0, ↓n_ic, ↓n_icm, ↓n_lc, ↓e_lc, ↓e_null, ↓e_ldI, ↓e_ldL, ↓e_ldA, ↓e_stI, ↓e_stL, ↓e_stA, ↓n_inc, ↓n_incm1, ↓n_incm8, ↓e_iadd, ↓e_isub, ↓e_imul, ↓e_iand, ↓e_ior, ↓e_ixor, ↓n_ishl, ↓n_ishr, ↓e_iushr, ↓n_idiv, ↓e_ineg, ↓e_ladd, ↓e_lsub, ↓e_lmul, ↓e_lor, ↓e_lshl, ↓e_lshr, ↓e_i2l, ↓e_l2i, ↓e_i2b, ↓e_lcmp, ↓e_dup, ↓e_dup2, ↓e_pop, ↓e_ceq, ↓e_cne, ↓e_clt, ↓e_cge, ↓e_cgt, ↓e_cle, ↓n_zeq, ↓n_zne, ↓n_zlt, ↓n_zge, ↓n_zgt, ↓n_zle, ↓e_goto, ↓e_nn, ↓e_retI, ↓e_retL, ↓e_retV, ↓n_retZ, ↓e_retA, ↓e_gfI, ↓e_gfL, ↓e_gfR, ↓e_pfI, ↓n_pfZ, ↓e_pfL, ↓e_pfR, ↓e_iald, ↓e_lald, ↓e_aald, ↓e_alen, ↓e_iast, ↓e_bast, ↓n_zast, ↓e_last, ↓e_aast, ↓e_cV, ↓e_cS, ↓e_gsW, ↓e_gsK, ↓e_mmax, ↓e_mmin, ↓e_mmaxL, ↓e_mminL, gEnt, gPad, gArgs, gGet, gS1, gS2, gCl, gNo, gSp, gCt, n_sw, n_gSw, n_gSw0, Option.toList, List.cons_append, List.nil_append, Value.category, and_true, true_and, and_self, not_false_eq_true, not_true_eq_false, Nat.reduceAdd, Nat.reduceSub, Nat.reduceMul, Nat.reduceLeDiff, Nat.reduceLT, Nat.reduceEqDiff, forall_const, true_implies, false_implies, implies_true, Nat.zero_add, Option.some.injEq, Sum.inr.injEq, Sum.inl.injEq, Prod.mk.injEq, exists_eq_left', exists_eq_left, w_ne0, nI_add, w_lt, w_le, w_eq, w_meq, w_eqm, w_mlt, w_ltm, w_mle, w_lem, w_clamp, w_in, w_31, w_ite0, w_ite1, w_ite01, true_or, or_true, false_or, or_false, Nat.le_refl, Nat.lt_irrefl, S_0 hS, S_8 hS, S_18 hS, S_37 hS, S_48 hS, R_0_2 hR, R_0_3 hR, R_0_4 hR, R_0_5 hR]
      refine b_X10_plan_81 hX ?_
      simp (disch := omega) only [B_X10_plan_81, ↓n_gb, ↓n_gb0, ↓n_ic, ↓n_icm, ↓n_lc, ↓e_lc, ↓e_null, ↓e_ldI, ↓e_ldL, ↓e_ldA, ↓e_stI, ↓e_stL, ↓e_stA, ↓n_inc, ↓n_incm1, ↓n_incm8, ↓e_iadd, ↓e_isub, ↓e_imul, ↓e_iand, ↓e_ior, ↓e_ixor, ↓n_ishl, ↓n_ishr, ↓e_iushr, ↓n_idiv, ↓e_ineg, ↓e_ladd, ↓e_lsub, ↓e_lmul, ↓e_lor, ↓e_lshl, ↓e_lshr, ↓e_i2l, ↓e_l2i, ↓e_i2b, ↓e_lcmp, ↓e_dup, ↓e_dup2, ↓e_pop, ↓e_ceq, ↓e_cne, ↓e_clt, ↓e_cge, ↓e_cgt, ↓e_cle, ↓n_zeq, ↓n_zne, ↓n_zlt, ↓n_zge, ↓n_zgt, ↓n_zle, ↓e_goto, ↓e_nn, ↓e_retI, ↓e_retL, ↓e_retV, ↓n_retZ, ↓e_retA, ↓e_gfI, ↓e_gfL, ↓e_gfR, ↓e_pfI, ↓n_pfZ, ↓e_pfL, ↓e_pfR, ↓e_iald, ↓e_lald, ↓e_aald, ↓e_alen, ↓e_iast, ↓e_bast, ↓n_zast, ↓e_last, ↓e_aast, ↓e_cV, ↓e_cS, ↓e_gsW, ↓e_gsK, ↓e_mmax, ↓e_mmin, ↓e_mmaxL, ↓e_mminL, gEnt, gPad, gArgs, gGet, gS1, gS2, gCl, gNo, gSp, gCt, n_sw, n_gSw, n_gSw0, Option.toList, List.cons_append, List.nil_append, Value.category, and_true, true_and, and_self, not_false_eq_true, not_true_eq_false, Nat.reduceAdd, Nat.reduceSub, Nat.reduceMul, Nat.reduceLeDiff, Nat.reduceLT, Nat.reduceEqDiff, forall_const, true_implies, false_implies, implies_true, Nat.zero_add, Option.some.injEq, Sum.inr.injEq, Sum.inl.injEq, Prod.mk.injEq, exists_eq_left', exists_eq_left, w_ne0, nI_add, w_lt, w_le, w_eq, w_meq, w_eqm, w_mlt, w_ltm, w_mle, w_lem, w_clamp, w_in, w_31, w_ite0, w_ite1, w_ite01, true_or, or_true, false_or, or_false, Nat.le_refl, Nat.lt_irrefl, S_0 hS, S_8 hS, S_18 hS, S_37 hS, S_48 hS, R_0_2 hR, R_0_3 hR, R_0_4 hR, R_0_5 hR]
      refine hkk _ _ ⟨fun j => if j = pPo s k then β + (19 + 3 * k) else gr j, fun j => if j = pPo s k then nI k else g9 j, ?_, fun j hj hbj => ?_, rfl⟩
      · simp only [pPo, if_pos hb]
        rw [plan_m1, plan_m2]
      · dsimp only
        by_cases e : j = k
        · rw [e, if_pos rfl, if_pos rfl]; exact ⟨rfl, rfl⟩
        · have y1 := pSl_at ⟨s, hs64⟩ ⟨j, by omega⟩ hbj
          have y2 := pSl_at ⟨s, hs64⟩ ⟨k, hk6⟩ hb
          dsimp only at y1 y2
          rw [if_neg (fun z => by rw [z, y2] at y1; omega), if_neg (fun z => by rw [z, y2] at y1; omega)]
          exact f1 j (by omega) hbj
  · rintro μ' _ ⟨gr, g9, rfl, f1, rfl⟩
    have hR' : gPS (gW (gU μ.2.2 (β + 37) 0 (β + 8)) (β + 38) gr) β := gPS_W hRb (by decide +kernel)
    have hR := hR'
    rw [hpn]
    refine b_X10_plan_51 hX ?_
    simp (disch := omega) only [B_X10_plan_51, ↓n_gb, ↓n_gb0, ↓n_ic, ↓n_icm, ↓n_lc, ↓e_lc, ↓e_null, ↓e_ldI, ↓e_ldL, ↓e_ldA, ↓e_stI, ↓e_stL, ↓e_stA, ↓n_inc, ↓n_incm1, ↓n_incm8, ↓e_iadd, ↓e_isub, ↓e_imul, ↓e_iand, ↓e_ior, ↓e_ixor, ↓n_ishl, ↓n_ishr, ↓e_iushr, ↓n_idiv, ↓e_ineg, ↓e_ladd, ↓e_lsub, ↓e_lmul, ↓e_lor, ↓e_lshl, ↓e_lshr, ↓e_i2l, ↓e_l2i, ↓e_i2b, ↓e_lcmp, ↓e_dup, ↓e_dup2, ↓e_pop, ↓e_ceq, ↓e_cne, ↓e_clt, ↓e_cge, ↓e_cgt, ↓e_cle, ↓n_zeq, ↓n_zne, ↓n_zlt, ↓n_zge, ↓n_zgt, ↓n_zle, ↓e_goto, ↓e_nn, ↓e_retI, ↓e_retL, ↓e_retV, ↓n_retZ, ↓e_retA, ↓e_gfI, ↓e_gfL, ↓e_gfR, ↓e_pfI, ↓n_pfZ, ↓e_pfL, ↓e_pfR, ↓e_iald, ↓e_lald, ↓e_aald, ↓e_alen, ↓e_iast, ↓e_bast, ↓n_zast, ↓e_last, ↓e_aast, ↓e_cV, ↓e_cS, ↓e_gsW, ↓e_gsK, ↓e_mmax, ↓e_mmin, ↓e_mmaxL, ↓e_mminL, gEnt, gPad, gArgs, gGet, gS1, gS2, gCl, gNo, gSp, gCt, n_sw, n_gSw, n_gSw0, Option.toList, List.cons_append, List.nil_append, Value.category, and_true, true_and, and_self, not_false_eq_true, not_true_eq_false, Nat.reduceAdd, Nat.reduceSub, Nat.reduceMul, Nat.reduceLeDiff, Nat.reduceLT, Nat.reduceEqDiff, forall_const, true_implies, false_implies, implies_true, Nat.zero_add, Option.some.injEq, Sum.inr.injEq, Sum.inl.injEq, Prod.mk.injEq, exists_eq_left', exists_eq_left, w_ne0, nI_add, w_lt, w_le, w_eq, w_meq, w_eqm, w_mlt, w_ltm, w_mle, w_lem, w_clamp, w_in, w_31, w_ite0, w_ite1, w_ite01, true_or, or_true, false_or, or_false, Nat.le_refl, Nat.lt_irrefl, S_0 hS, S_8 hS, S_18 hS, S_37 hS, S_48 hS, R_0_2 hR, R_0_3 hR, R_0_4 hR, R_0_5 hR, gU_n, gW_n, h9]
    have fI : ∀ a i, ¬ (a = β + 37 ∧ (i = 11 ∨ i = 15 ∨ i = 16)) → a ≠ β + 39 → gU (gU (gU (gW μ.1 (β + 39) g9) (β + 37) 15 (nI t)) (β + 37) 16 (nI H)) (β + 37) 11 (nI (pPo s 6)) a i = μ.1 a i := by
      intro a i x y
      rw [gU_n (by omega), gU_n (by omega), gU_n (by omega), gW_n (by omega)]
    have hqC : qC β (pPo s 6) (pSl s 6) nd fr wo ra t H (gU (gU (gU (gW μ.1 (β + 39) g9) (β + 37) 15 (nI t)) (β + 37) 16 (nI H)) (β + 37) 11 (nI (pPo s 6)), μ.2.1, gW (gU μ.2.2 (β + 37) 0 (β + 8)) (β + 38) gr) := by
      refine ⟨hs4, gU_s, ?_, ?_, ?_, fun j hj => ?_⟩
      · dsimp only; rw [gU_n (by omega), gU_n (by omega), gU_s]
      · dsimp only; rw [gU_n (by omega), gU_s]
      · dsimp only; rw [gW_n (by omega), gU_s]
      · obtain ⟨y1, y2, y3⟩ := pSl_of ⟨s, hs64⟩ ⟨j, by omega⟩ hj
        dsimp only at y1 y2 y3
        have y4 := bit_n hsn y2
        obtain ⟨z1, z2, z3, z4, z5, z6⟩ := (hbc _ y4).1
        have f2 := f1 _ y4 y2
        rw [y3] at f2
        refine ⟨y1, ?_, ?_, (fI _ _ (by omega) (by omega)).trans z1, (fI _ _ (by omega) (by omega)).trans z2, z3, (fI _ _ (by omega) (by omega)).trans z4, z5, ?_⟩
        · dsimp only; rw [gW_s]; exact f2.1
        · dsimp only; rw [gU_n (by omega), gU_n (by omega), gU_n (by omega), gW_s]; exact f2.2
        · dsimp only; rw [fI _ _ (by omega) (by omega)]; exact z6
    refine b_X10_plan_87 hX ?_
    simp (disch := omega) only [B_X10_plan_87, ↓n_gb, ↓n_gb0, ↓n_ic, ↓n_icm, ↓n_lc, ↓e_lc, ↓e_null, ↓e_ldI, ↓e_ldL, ↓e_ldA, ↓e_stI, ↓e_stL, ↓e_stA, ↓n_inc, ↓n_incm1, ↓n_incm8, ↓e_iadd, ↓e_isub, ↓e_imul, ↓e_iand, ↓e_ior, ↓e_ixor, ↓n_ishl, ↓n_ishr, ↓e_iushr, ↓n_idiv, ↓e_ineg, ↓e_ladd, ↓e_lsub, ↓e_lmul, ↓e_lor, ↓e_lshl, ↓e_lshr, ↓e_i2l, ↓e_l2i, ↓e_i2b, ↓e_lcmp, ↓e_dup, ↓e_dup2, ↓e_pop, ↓e_ceq, ↓e_cne, ↓e_clt, ↓e_cge, ↓e_cgt, ↓e_cle, ↓n_zeq, ↓n_zne, ↓n_zlt, ↓n_zge, ↓n_zgt, ↓n_zle, ↓e_goto, ↓e_nn, ↓e_retI, ↓e_retL, ↓e_retV, ↓n_retZ, ↓e_retA, ↓e_gfI, ↓e_gfL, ↓e_gfR, ↓e_pfI, ↓n_pfZ, ↓e_pfL, ↓e_pfR, ↓e_iald, ↓e_lald, ↓e_aald, ↓e_alen, ↓e_iast, ↓e_bast, ↓n_zast, ↓e_last, ↓e_aast, ↓e_cV, ↓e_cS, ↓e_gsW, ↓e_gsK, ↓e_mmax, ↓e_mmin, ↓e_mmaxL, ↓e_mminL, gEnt, gPad, gArgs, gGet, gS1, gS2, gCl, gNo, gSp, gCt, n_sw, n_gSw, n_gSw0, Option.toList, List.cons_append, List.nil_append, Value.category, and_true, true_and, and_self, not_false_eq_true, not_true_eq_false, Nat.reduceAdd, Nat.reduceSub, Nat.reduceMul, Nat.reduceLeDiff, Nat.reduceLT, Nat.reduceEqDiff, forall_const, true_implies, false_implies, implies_true, Nat.zero_add, Option.some.injEq, Sum.inr.injEq, Sum.inl.injEq, Prod.mk.injEq, exists_eq_left', exists_eq_left, w_ne0, nI_add, w_lt, w_le, w_eq, w_meq, w_eqm, w_mlt, w_ltm, w_mle, w_lem, w_clamp, w_in, w_31, w_ite0, w_ite1, w_ite01, true_or, or_true, false_or, or_false, Nat.le_refl, Nat.lt_irrefl, S_0 hS, S_8 hS, S_18 hS, S_37 hS, S_48 hS, R_0_2 hR, R_0_3 hR, R_0_4 hR, R_0_5 hR]
    refine k_makePlan (E := fun m => E (gAn s (pEx s m 6))) (kb := fun m => pSl (gAn s (pEx s m 6)) 6) (l0 := fun m => pEl fr ra t (gAn s (pEx s m 6))) hS hR hqC ht h1 ?_ (fun m hm => ?_) (fun m μ' g m1 m2 m3 m4 m5 m6 => ?_)
    · obtain ⟨-, -, -, ⟨ww, w1, w2, w3⟩, -⟩ := irf
      refine ⟨ww, w1, ?_, ?_⟩
      · dsimp only; rw [gW_n (by omega), gU_n (by omega)]; exact w2
      · dsimp only; rw [gW_n (by omega), gU_n (by omega)]; exact w3
    · have hm16 : m < 16 := by omega
      have x64 : gAn s (pEx s m 6) < 64 := Nat.lt_of_le_of_lt gAn_le hs64
      have hx4 : pPo (gAn s (pEx s m 6)) 6 ≤ 4 := Nat.le_trans (gAn_po ⟨s, hs64⟩ ⟨pEx s m 6, pEx_64 ⟨s, hs64⟩ ⟨m, hm16⟩⟩) hs4
      obtain ⟨e1, e2, e3, e4⟩ := hEx (gAn s (pEx s m 6))
      refine ⟨hE _ x64 hx4, e4, qS_c (μ := μ) (fun a i hD => fI _ _ (by omega) (by omega)) (hqS _), ⟨?_, fun j hj hb => ?_⟩, fun j hj => ?_⟩
      · rw [e1]; exact pEx_po ⟨s, hs64⟩ ⟨m, hm16⟩ 6
      · have y := pEx_sl ⟨s, hs64⟩ ⟨m, hm16⟩ ⟨j, by omega⟩ hj hb
        dsimp only at y
        dsimp only [pEl]
        rw [e2, e3, y]
        exact ⟨rfl, rfl, rfl, rfl⟩
      · dsimp only [pEl]
        rw [e3]
        cases ra (pSl (gAn s (pEx s m 6)) 6 j) with
        | none => simp [rSl]
        | some r => simp only [rSl]; split <;> omega
    simp (disch := omega) only [↓n_gb, ↓n_gb0, ↓n_ic, ↓n_icm, ↓n_lc, ↓e_lc, ↓e_null, ↓e_ldI, ↓e_ldL, ↓e_ldA, ↓e_stI, ↓e_stL, ↓e_stA, ↓n_inc, ↓n_incm1, ↓n_incm8, ↓e_iadd, ↓e_isub, ↓e_imul, ↓e_iand, ↓e_ior, ↓e_ixor, ↓n_ishl, ↓n_ishr, ↓e_iushr, ↓n_idiv, ↓e_ineg, ↓e_ladd, ↓e_lsub, ↓e_lmul, ↓e_lor, ↓e_lshl, ↓e_lshr, ↓e_i2l, ↓e_l2i, ↓e_i2b, ↓e_lcmp, ↓e_dup, ↓e_dup2, ↓e_pop, ↓e_ceq, ↓e_cne, ↓e_clt, ↓e_cge, ↓e_cgt, ↓e_cle, ↓n_zeq, ↓n_zne, ↓n_zlt, ↓n_zge, ↓n_zgt, ↓n_zle, ↓e_goto, ↓e_nn, ↓e_retI, ↓e_retL, ↓e_retV, ↓n_retZ, ↓e_retA, ↓e_gfI, ↓e_gfL, ↓e_gfR, ↓e_pfI, ↓n_pfZ, ↓e_pfL, ↓e_pfR, ↓e_iald, ↓e_lald, ↓e_aald, ↓e_alen, ↓e_iast, ↓e_bast, ↓n_zast, ↓e_last, ↓e_aast, ↓e_cV, ↓e_cS, ↓e_gsW, ↓e_gsK, ↓e_mmax, ↓e_mmin, ↓e_mmaxL, ↓e_mminL, gEnt, gPad, gArgs, gGet, gS1, gS2, gCl, gNo, gSp, gCt, n_sw, n_gSw, n_gSw0, Option.toList, List.cons_append, List.nil_append, Value.category, and_true, true_and, and_self, not_false_eq_true, not_true_eq_false, Nat.reduceAdd, Nat.reduceSub, Nat.reduceMul, Nat.reduceLeDiff, Nat.reduceLT, Nat.reduceEqDiff, forall_const, true_implies, false_implies, implies_true, Nat.zero_add, Option.some.injEq, Sum.inr.injEq, Sum.inl.injEq, Prod.mk.injEq, exists_eq_left', exists_eq_left, w_ne0, nI_add, w_lt, w_le, w_eq, w_meq, w_eqm, w_mlt, w_ltm, w_mle, w_lem, w_clamp, w_in, w_31, w_ite0, w_ite1, w_ite01, true_or, or_true, false_or, or_false, Nat.le_refl, Nat.lt_irrefl, S_0 hS, S_8 hS, S_18 hS, S_37 hS, S_48 hS, R_0_2 hR, R_0_3 hR, R_0_4 hR, R_0_5 hR]
    have m16 : m < 16 := by omega
    rw [pLm_ex ⟨s, hs64⟩ ⟨m, m16⟩ hs4 m1]
    dsimp only
    have hRc : gPS μ'.2.2 β := qFr_R m4 hR
    obtain ⟨n1, n2, n3⟩ := m4
    dsimp only at n1 n2 n3
    have Fc : ∀ x i, ¬ (x = β + 37 ∧ 11 ≤ i ∧ i ≤ 16) → ¬ (x = β + 48 ∧ 1 ≤ i ∧ i ≤ 3) → x ≠ β + 39 → x ≠ β + 49 → ¬ (β + 41 ≤ x ∧ x ≤ β + 45) → gW (gU (gU (gU μ'.1 (β + 48) 1 (nI t)) (β + 48) 2 (nI H)) (β + 48) 3 (nI (pEx s m 6))) (β + 49) g x i = μ.1 x i := by
      intro x i y1 y2 y3 y4 y5
      rw [gW_n (by omega), gU_n (by omega), gU_n (by omega), gU_n (by omega), n1 x i (by omega) (by omega)]
      exact fI x i (by omega) (by omega)
    have c48 : gW (gU (gU (gU μ'.1 (β + 48) 1 (nI t)) (β + 48) 2 (nI H)) (β + 48) 3 (nI (pEx s m 6))) (β + 49) g (β + 48) 1 = nI t ∧ gW (gU (gU (gU μ'.1 (β + 48) 1 (nI t)) (β + 48) 2 (nI H)) (β + 48) 3 (nI (pEx s m 6))) (β + 49) g (β + 48) 2 = nI H ∧ gW (gU (gU (gU μ'.1 (β + 48) 1 (nI t)) (β + 48) 2 (nI H)) (β + 48) 3 (nI (pEx s m 6))) (β + 49) g (β + 48) 3 = nI (pEx s m 6) := by
      refine ⟨?_, ?_, ?_⟩
      · rw [gW_n (by omega), gU_n (by omega), gU_n (by omega), gU_s]
      · rw [gW_n (by omega), gU_n (by omega), gU_s]
      · rw [gW_n (by omega), gU_s]
    have c49 : ∀ i, i < H → gW (gU (gU (gU μ'.1 (β + 48) 1 (nI t)) (β + 48) 2 (nI H)) (β + 48) 3 (nI (pEx s m 6))) (β + 49) g (β + 49) i = nI (pTx (E (gAn s (pEx s m 6))) (pEl fr ra t (gAn s (pEx s m 6))) i) := by
      intro i hi
      rw [gW_s]; exact m6 i hi
    generalize gW (gU (gU (gU μ'.1 (β + 48) 1 (nI t)) (β + 48) 2 (nI H)) (β + 48) 3 (nI (pEx s m 6))) (β + 49) g = Ic at Fc c48 c49 ⊢
    refine hP _ _ (fun j => ?_) (fun P2 hP2 => ?_)
    · dsimp only
      rw [Fc _ _ (by omega) (by omega) (by omega) (by omega) (by omega)]
      exact hs j
    have rc2 : rC β n lv nd fr wo ra t (Ic, μ'.2) := rC_c (μ := μ) (fun x i hD => Fc _ _ (by omega) (by omega) (by omega) (by omega) (by omega)) hrC
    have rs2 : ∀ x, rS β (E x) t (Ic, μ'.2) := fun x => rS_c (μ := μ) (fun x i hD => Fc _ _ (by omega) (by omega) (by omega) (by omega) (by omega)) (hrS x)
    refine k_mPlan (E := E) (h := 95) hS hRc rc2 hs1 hsn hs4 h1 hH10 htH hEx hE rs2 (fun o μ3 g' o1 o2 o3 o4 o5 o6 => ?_)
    have eo : o = pEx s m 6 := by
      obtain ⟨m0, y1, y2⟩ := pEx_sur ⟨s, hs64⟩ ⟨o, o1⟩ hs4 o2
      have z1 := m3 m0.val y1 (by dsimp only at y2 ⊢; rw [y2]; exact o3)
      have z2 := o4 (pEx s m 6) (pEx_64 ⟨s, hs64⟩ ⟨m, m16⟩) (pEx_sub ⟨s, hs64⟩ ⟨m, m16⟩) m2
      dsimp only at y2
      rw [← y2, pKy_ex hs64 hn hsn hs4 m1 y1] at z2
      have := pKy_inj (by omega) (by omega) z2 z1
      rw [← y2, ← this]
    rw [eo] at o6 ⊢
    have us := fun i hi => pTx_us (E := E (gAn s (pEx s m 6))) (l0 := pEl fr ra t (gAn s (pEx s m 6))) (hE _ (Nat.lt_of_le_of_lt gAn_le hs64) (Nat.le_trans (gAn_po ⟨s, hs64⟩ ⟨pEx s m 6, pEx_64 ⟨s, hs64⟩ ⟨m, m16⟩⟩) hs4)) (by rw [(hEx _).2.2.2]; exact m2) (i := i) (by rw [(hEx _).2.2.2]; exact hi)
    have x64 : ∀ i, i < H → pTx (E (gAn s (pEx s m 6))) (pEl fr ra t (gAn s (pEx s m 6))) i < 64 := fun i hi => Nat.lt_of_le_of_lt (pUs_le (us i hi)) (pAs_lt (hE _ (Nat.lt_of_le_of_lt gAn_le hs64) (Nat.le_trans (gAn_po ⟨s, hs64⟩ ⟨pEx s m 6, pEx_64 ⟨s, hs64⟩ ⟨m, m16⟩⟩) hs4)))
    generalize pTx (E (gAn s (pEx s m 6))) (pEl fr ra t (gAn s (pEx s m 6))) = tx at c49 o6 x64 us
    obtain ⟨p1, p2⟩ := o5
    dsimp only at p1 p2
    refine hP2 _ ?_
    clear us o4 o3 m3 m2 m6 hrC rc2 rs2 hrS hqS hqC hE hEx hEc hbc fI
    have G1 : ∀ x i, (¬ (x = 110 ∧ (i = 72 ∨ (65 ≤ i ∧ i ≤ 68))) ∧ (x < 37 ∨ 49 < x) ∧ (x < 152 ∨ 158 < x)) → (∀ k, k < n → k < n) → gU (gU (gU (gU (gW μ3.1 (β + 152) g') (β + 110) 65 (nI 1)) (β + 110) 66 (nI t)) (β + 110) 67 (nI H)) (β + 110) 68 (nI (pEx s m 6)) (β + x) i = μ.1 (β + x) i := by
      intro x i y _
      rw [gU_n (by omega), gU_n (by omega), gU_n (by omega), gU_n (by omega), gW_n (by omega), p1 _ _ (by omega) (by omega)]
      exact Fc _ _ (by omega) (by omega) (by omega) (by omega) (by omega)
    have G2 : ∀ x i, (x < 46 ∨ 47 < x) → (∀ k, k < n → k < n) → μ3.2.1 (β + x) i = μ.2.1 (β + x) i := by
      intro x i y _
      rw [p2]
      exact n2 _ _ (by omega) (by omega)
    have hsj : ∀ j, gU (gU (gU (gU (gW μ3.1 (β + 152) g') (β + 110) 65 (nI 1)) (β + 110) 66 (nI t)) (β + 110) 67 (nI H)) (β + 110) 68 (nI (pEx s m 6)) b j = xs j := by
      intro j
      rw [gU_n (by omega), gU_n (by omega), gU_n (by omega), gU_n (by omega), gW_n (by omega), p1 _ _ (by omega) (by omega), Fc _ _ (by omega) (by omega) (by omega) (by omega) (by omega)]
      exact hs j
    have hRn : gPS μ3.2.2 β := by rw [p2]; exact hRc
    have irfn : gI_rf β q μ3.2.2 := by
      rw [p2]
      obtain ⟨y1, y2, y3, -, y5, y6⟩ := irf
      refine ⟨y1, ?_, ?_, m5, ?_, ?_⟩
      · rw [n3 _ _ (by omega) (by omega), gW_n (by omega), gU_n (by omega)]; exact y2
      · rw [n3 _ _ (by omega) (by omega), gW_n (by omega), gU_n (by omega)]; exact y3
      · rw [n3 _ _ (by omega) (by omega), gW_n (by omega), gU_n (by omega)]; exact y5
      · rw [n3 _ _ (by omega) (by omega), gW_n (by omega), gU_n (by omega)]; exact y6
    refine ⟨hsj, hRn, gI_ky_c (fun a j hD => by unfold gD_ky at hD; exact ⟨G1 _ _ (by omega) (fun k hk => by omega), G2 _ _ (by omega) (fun k hk => by omega)⟩) iky, gI_tp_c (fun a j hD => by unfold gD_tp at hD; exact ⟨G1 _ _ (by omega) (fun k hk => by omega), G2 _ _ (by omega) (fun k hk => by omega)⟩) itp, gI_pc_c (fun a j hD => by unfold gD_pc at hD; exact ⟨G1 _ _ (by omega) (fun k hk => by omega), G2 _ _ (by omega) (fun k hk => by omega)⟩) ipc, gI_sr_c (fun a j hD => by unfold gD_sr at hD; exact ⟨G1 _ _ (by omega) (fun k hk => by omega), G2 _ _ (by omega) (fun k hk => by omega)⟩) isr, gI_fa_c (fun a j hD => by unfold gD_fa at hD; exact ⟨G1 _ _ (by omega) (fun k hk => by omega), G2 _ _ (by omega) (fun k hk => by omega)⟩) ifa, gI_do_c (fun a j hD => by unfold gD_do at hD; exact ⟨G1 _ _ (by omega) (fun k hk => by omega), G2 _ _ (by omega) (fun k hk => by omega)⟩) ido, gI_as_c (fun a j hD => by unfold gD_as at hD; exact ⟨G1 _ _ (by omega) (fun k hk => by omega), G2 _ _ (by omega) (fun k hk => by omega)⟩) ias, t, n, lv, q, irfn, gI_hd_c (fun a j hD => by unfold gD_hd at hD; exact ⟨G1 _ _ (by omega) (fun k hk => by omega), G2 _ _ (by omega) (fun k hk => by omega)⟩) ihd, (fun k hk => gI_bx_c (fun a j hD => by unfold gD_bx at hD; exact ⟨G1 _ _ (by omega) (fun k hk => by omega), G2 _ _ (by omega) (fun k hk => by omega)⟩) (ibx k hk)), (fun k hk => gI_lk_c (fun a j hD => by unfold gD_lk at hD; exact ⟨G1 _ _ (by omega) (fun k hk => by omega), G2 _ _ (by omega) (fun k hk => by omega)⟩) (ilk k hk)), (fun k hk => gI_hs_c ihd.1 (fun a j hD => by unfold gD_hs at hD; exact ⟨G1 _ _ (by omega) (fun k hk => by omega), G2 _ _ (by omega) (fun k hk => by omega)⟩) (ihs k hk)), (fun k hk => gI_fx_c (fun a j hD => by unfold gD_fx at hD; exact ⟨G1 _ _ (by omega) (fun k hk => by omega), G2 _ _ (by omega) (fun k hk => by omega)⟩) (ifx k hk)), gI_ov_c (fun a j hD => by obtain ⟨hj, k, hk, rfl⟩ := hD; exact ⟨G1 _ _ (by omega) (fun k hk => by omega), G2 _ _ (by omega) (fun k hk => by omega)⟩) iov, gI_sc_c (fun a j hD => by rcases hD with h1 | h1 | h1 | ⟨h1, k, hk, rfl⟩ | h1 <;> exact ⟨G1 _ _ (by omega) (fun k hk => by omega), G2 _ _ (by omega) (fun k hk => by omega)⟩) isc, ?_, gI_ly_c (fun a j hD => by unfold gD_ly at hD; exact ⟨G1 _ _ (by omega) (fun k hk => by omega), G2 _ _ (by omega) (fun k hk => by omega)⟩) ily⟩
    refine ⟨H, hH10, ?_, ?_, fun _ => ⟨t, Nat.le_refl _, ?_, ?_, ?_, ?_, fun i hi => ⟨tx i, x64 i hi, ?_, ?_⟩⟩⟩
    · dsimp only
      rw [gU_n (by omega), gU_n (by omega), gU_n (by omega), gU_n (by omega), gW_n (by omega), p1 _ _ (by omega) (by omega)]; exact c48.2.1
    · dsimp only
      rw [gU_n (by omega), gU_n (by omega), gU_n (by omega), gU_s, if_neg (by omega)]
    · dsimp only
      rw [gU_n (by omega), gU_n (by omega), gU_n (by omega), gU_n (by omega), gW_n (by omega), p1 _ _ (by omega) (by omega)]; exact c48.1
    · dsimp only
      rw [gU_n (by omega), gU_n (by omega), gU_s]
    · dsimp only
      rw [gU_n (by omega), gU_s]
    · dsimp only
      rw [gU_s, gU_n (by omega), gU_n (by omega), gU_n (by omega), gU_n (by omega), gW_n (by omega), p1 _ _ (by omega) (by omega)]; exact c48.2.2
    · dsimp only
      rw [gU_n (by omega), gU_n (by omega), gU_n (by omega), gU_n (by omega), gW_n (by omega), p1 _ _ (by omega) (by omega)]; exact c49 i hi
    · dsimp only
      rw [gU_n (by omega), gU_n (by omega), gU_n (by omega), gU_n (by omega), gW_s]; exact o6 i hi
  · refine Prod.ext ?_ (Prod.ext rfl ?_)
    · dsimp only [pPo]
      rw [gW_idr]
    · dsimp only
      rw [show μ.2.2 (β + 38) = gU μ.2.2 (β + 37) 0 (β + 8) (β + 38) from (gU_row (by omega)).symm, gW_idr]
