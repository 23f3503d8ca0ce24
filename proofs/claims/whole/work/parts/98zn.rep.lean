/-! THE TEXT, the class: all tells are checked -/
theorem eO_c {rv rv' : Nat → Nat × Nat × Nat × Nat} {vl : Nat → Nat} {x : Nat × Nat} (h : x.1 = 3 → rv' x.2 = rv x.2) : eO rv' x = eO rv x ∧ eV rv' vl x = eV rv vl x := by
  unfold eO eV
  by_cases c2 : x.1 = 2
  · rw [if_pos c2, if_pos c2, if_pos c2, if_pos c2]; exact ⟨rfl, rfl⟩
  · rw [if_neg c2, if_neg c2, if_neg c2, if_neg c2]
    by_cases c3 : x.1 = 3
    · rw [if_pos c3, if_pos c3, if_pos c3, if_pos c3, h c3]; exact ⟨rfl, rfl⟩
    · rw [if_neg c3, if_neg c3, if_neg c3, if_neg c3]; exact ⟨rfl, rfl⟩
/-- what checking may change -/
def dUr (β q : Nat) (μ μ' : gM) : Prop := (∀ a i, ¬ (a = β + 3 ∧ (i = 3 ∨ i = 4)) → a ≠ β + (q + 4) → a ≠ β + (q + 5) → ¬ (β + (q + 8) ≤ a ∧ a ≤ β + (q + 25)) → μ'.1 a i = μ.1 a i) ∧ (∀ a i, ¬ (β + (q + 8) ≤ a ∧ a ≤ β + (q + 25)) → μ'.2.1 a i = μ.2.1 a i) ∧ μ'.2.2 = μ.2.2
theorem dUr_t {β q : Nat} {μ μ1 μ2 : gM} (h1 : dUr β q μ μ1) (h2 : dUr β q μ1 μ2) : dUr β q μ μ2 := ⟨fun a i x y z w => (h2.1 a i x y z w).trans (h1.1 a i x y z w), fun a i x => (h2.2.1 a i x).trans (h1.2.1 a i x), h2.2.2.trans h1.2.2⟩
theorem dVr_U {β q n s e : Nat} {μ μ' : gM} (hn : n < 18) (h : dVr β q n s e μ μ') : dUr β q μ μ' := ⟨fun a i x y z w => h.1 a i x (by omega) (by omega), fun a i x => h.2.1 a i (by omega), h.2.2⟩
theorem dVr_D {β q n s e nb nl : Nat} {tl : List rTl} {μ μ' : gM} (hq : q = 56 ∨ q = 83) (h : dVr β q n s e μ μ') (hn : n < 18) (d : dTl β q nb nl tl μ) : dTl β q nb nl tl μ' := by
  obtain ⟨t1, t2, t3, t4, t5, t6, t7⟩ := d
  refine ⟨t1, t2, t3, (h.1 _ _ (by omega) (by omega) (by omega)).trans t4, (h.1 _ _ (by omega) (by omega) (by omega)).trans t5, (h.1 _ _ (by omega) (by omega) (by omega)).trans t6, fun j x hx => ?_⟩
  have hj := lt_get hx
  rw [h.1 _ _ (by omega) (by omega) (by omega), h.1 _ _ (by omega) (by omega) (by omega), h.1 _ _ (by omega) (by omega) (by omega), h.1 _ _ (by omega) (by omega) (by omega), h.1 _ _ (by omega) (by omega) (by omega), h.1 _ _ (by omega) (by omega) (by omega), h.1 _ _ (by omega) (by omega) (by omega)]
  exact t7 j x hx
/-- tells and steps that are checked -/
def dCk (β q : Nat) (vl : Nat → Nat) (g : zG) (tl : List rTl) (C : List (Nat × Nat)) (μ : gM) : Prop := (∀ (j : Nat) (x : rTl), tl[j]? = some x → x.1 = 1 → μ.1 (β + (q + 8 + j)) 4 = nI (vl (x.2.2.1 + 3)) ∧ μ.1 (β + (q + 8 + j)) 5 = nI (vl (x.2.2.1 + 5)) ∧ μ.1 (β + (q + 8 + j)) 6 = nI (vl (x.2.2.1 + 7)) ∧ μ.1 (β + (q + 8 + j)) 7 = nI (vl (x.2.2.1 + 8)) ∧ μ.1 (β + (q + 8 + j)) 8 = nI (zbs g x.2.1)) ∧ ∀ (i : Nat) (x : Nat × Nat), C[i]? = some x → μ.1 (β + (q + 4)) i = gOpC (eO (zrv g) x) ∧ μ.1 (β + (q + 5)) i = nI (eV (zrv g) vl x)
set_option maxHeartbeats 4000000 in
theorem checkLoop {S : gSh} {h β q sz nb nl : Nat} {K pl vl : Nat → Nat} {TL : List rTl} {CC : List (Nat × Nat)} {P : gP} {X : Nat → gK} (hX : gClo K_X2_parse S (gRun S (h + 49)) P X) (hS : gLS S β) (hq : q = 56 ∨ q = 83) (hz : dZ sz K) (hm : zM sz pl) (hvl : ∀ p, vl p < 9223372036854775808) (hv2 : ∀ p, K p = 2 → vl p < 10000) (hCC : CC.length ≤ 400) : ∀ m p g tl C μ, gPS μ.2.2 β → dT β sz K pl vl μ → p ≤ 400 → μ.2.2 (β + 3) 1 = β + q → dTl β q nb nl TL μ → TL = tl ++ (rdA K m p (zB g) (zL g) C.length).2.2.1 → CC = C ++ (rdA K m p (zB g) (zL g) C.length).2.2.2 → (rdA K m p (zB g) (zL g) C.length).1 = 0 → zRl g tl → zCl g → (zw g).1 = 0 → dW β (zw g) μ → dAh β q vl g tl μ → dCk β q vl g tl C μ → (∀ (i : Nat) (x : Nat × Nat), CC[i]? = some x → C.length ≤ i → μ.1 (β + (q + 4)) i = nI x.1 ∧ μ.1 (β + (q + 5)) i = dA vl x) → (∀ x, x ∈ C → x.1 = 3 → x.2 < p) →
    (∀ μ' i', dUr β q μ μ' → dW β (zw (zF K pl vl m p g)) μ' → ((zw (zF K pl vl m p g)).1 = 0 → dTl β q nb nl TL μ' ∧ dCk β q vl (zF K pl vl m p g) TL CC μ') → X 98 μ' [some (.ref (β + 3)), some (.ref (β + 1)), some (.ref (β + q)), some (.int (nI i'))] []) →
    X 69 μ [some (.ref (β + 3)), some (.ref (β + 1)), some (.ref (β + q)), some (.int (nI tl.length))] [] := by
  have hsz := hz.2.1
  have hK := hz.2.2.2.2.1
  intro m
  induction m with
  | zero =>
    intro p g tl C μ hR ht hp hd dt eT eC e0
    simp [rdA] at e0
  | succ m ih =>
    intro p g tl C μ hR ht hp hd dt eT eC e0 hrl hcl hw0 hw hA hC hU hN hok
    obtain ⟨t1, t2, t3, t4, t5, t6, t7⟩ := id dt
    rw [rdA_s] at e0 eT eC
    rw [zF_s] at hok
    have w3 := hw.2.1
    rw [hw0] at w3
    by_cases c0 : K p = 0
    · rw [if_pos c0] at eT eC hok
      dsimp only at eT eC
      rw [List.append_nil] at eT eC
      have g1 : TL.length ≤ tl.length := by rw [eT]; exact Nat.le_refl _
      have hl : tl.length ≤ 18 := by rw [← eT]; omega
      refine b_X2_parse_69 hX ?_
      simp (disch := omega) only [B_X2_parse_69, ↓n_gb, ↓n_gb0, ↓n_ic, ↓n_icm, ↓n_lc, ↓e_lc, ↓e_null, ↓e_ldI, ↓e_ldL, ↓e_ldA, ↓e_stI, ↓e_stL, ↓e_stA, ↓n_inc, ↓n_incm1, ↓n_incm8, ↓e_iadd, ↓e_isub, ↓e_imul, ↓e_iand, ↓e_ior, ↓e_ixor, ↓n_ishl, ↓n_ishr, ↓e_iushr, ↓n_idiv, ↓e_ineg, ↓e_ladd, ↓e_lsub, ↓e_lmul, ↓e_lor, ↓e_lshl, ↓e_lshr, ↓e_i2l, ↓e_l2i, ↓e_i2b, ↓e_lcmp, ↓e_dup, ↓e_dup2, ↓e_pop, ↓e_ceq, ↓e_cne, ↓e_clt, ↓e_cge, ↓e_cgt, ↓e_cle, ↓n_zeq, ↓n_zne, ↓n_zlt, ↓n_zge, ↓n_zgt, ↓n_zle, ↓e_goto, ↓e_nn, ↓e_retI, ↓e_retL, ↓e_retV, ↓n_retZ, ↓e_retA, ↓e_gfI, ↓e_gfL, ↓e_gfR, ↓e_pfI, ↓n_pfZ, ↓e_pfL, ↓e_pfR, ↓e_iald, ↓e_lald, ↓e_aald, ↓e_alen, ↓e_iast, ↓e_bast, ↓n_zast, ↓e_last, ↓e_aast, ↓e_cV, ↓e_cS, ↓e_gsW, ↓e_gsK, ↓e_mmax, ↓e_mmin, ↓e_mmaxL, ↓e_mminL, gEnt, gPad, gArgs, gGet, gS1, gS2, gCl, gNo, gSp, gCt, n_sw, n_gSw, n_gSw0, Option.toList, List.cons_append, List.nil_append, Value.category, and_true, true_and, and_self, not_false_eq_true, not_true_eq_false, Nat.reduceAdd, Nat.reduceSub, Nat.reduceMul, Nat.reduceLeDiff, Nat.reduceLT, Nat.reduceEqDiff, forall_const, true_implies, false_implies, implies_true, Nat.zero_add, Option.some.injEq, Sum.inr.injEq, Sum.inl.injEq, Prod.mk.injEq, exists_eq_left', exists_eq_left, w_ne0, nI_add, w_lt, w_le, w_eq, w_meq, w_eqm, w_mlt, w_ltm, w_mle, w_lem, w_clamp, w_in, w_31, w_ite0, w_ite1, w_ite01, true_or, or_true, false_or, or_false, Nat.le_refl, Nat.lt_irrefl, S_3 hS, S_4 hS, R_3_0 hR, sq_S0 hS hq, sq_S1 hS hq, sq_S2 hS hq, sq_S3 hS hq, sq_S4 hS hq, sq_S5 hS hq, sq_S6 hS hq, sq_S7 hS hq, sq_S26 hS hq, sq_r0 hR hq, sq_r1 hR hq, sq_r2 hR hq, sq_r3 hR hq, sq_r4 hR hq, sq_r5 hR hq, sq_r6 hR hq, tl_S hS hq, tl_r hR hq, hd, t4, g1]
      refine hok μ tl.length ⟨fun _ _ _ _ _ _ => rfl, fun _ _ _ => rfl, rfl⟩ hw (fun _ => ⟨dt, by rw [eT, eC]; exact hC⟩)
    rw [if_neg c0] at e0 eT eC hok
    by_cases c1 : (rdT K (zB g) (zL g) p).1 = 0
    · rw [if_neg (fun z => z c1)] at e0 eT eC hok
      dsimp only at e0 eT eC
      obtain ⟨s1, s2, s3⟩ := zS_1 (vl := vl) hm hK hsz hp hcl hw0 c1
      obtain ⟨q1, q2, q3, q4, q5, q6, q7, q8, q9, q10⟩ := rdT_t hp c1
      have hTL : tl.length < TL.length := by rw [eT, List.length_append, List.length_cons]; omega
      have hl : tl.length < 18 := by omega
      have g1 : ¬ TL.length ≤ tl.length := by omega
      have hx : TL[tl.length]? = some (rTn K (zB g) (zL g) p C.length (C.length + (rdT K (zB g) (zL g) p).2.2.length)) := by rw [eT]; simp
      obtain ⟨f0, f1, f2, f9, f10, fb⟩ := t7 _ _ hx
      have hCl : C.length + (rdT K (zB g) (zL g) p).2.2.length ≤ CC.length := by rw [eC, List.length_append, List.length_append]; omega
      have hget : ∀ (j : Nat) (x : Nat × Nat), (rdT K (zB g) (zL g) p).2.2[j]? = some x → CC[C.length + j]? = some x := by
        intro j x hj
        rw [eC, List.getElem?_append_right (by omega), show C.length + j - C.length = j by omega, List.getElem?_append_left (lt_get hj)]
        exact hj
      have hsT : sT K p (rdT K (zB g) (zL g) p).2.1 (rdT K (zB g) (zL g) p).2.2 := sT_mono q7 (by split <;> omega) (Nat.le_refl _)
      have hbx : (K p = 5 ∧ (rTn K (zB g) (zL g) p C.length (C.length + (rdT K (zB g) (zL g) p).2.2.length)).1 = 1) ∨ (K p ≠ 5 ∧ (rTn K (zB g) (zL g) p C.length (C.length + (rdT K (zB g) (zL g) p).2.2.length)).1 = 0) := by
        by_cases h5 : K p = 5
        · exact Or.inl ⟨h5, if_pos h5⟩
        · exact Or.inr ⟨h5, if_neg h5⟩
      refine b_X2_parse_69 hX ?_
      simp (disch := omega) only [B_X2_parse_69, ↓n_gb, ↓n_gb0, ↓n_ic, ↓n_icm, ↓n_lc, ↓e_lc, ↓e_null, ↓e_ldI, ↓e_ldL, ↓e_ldA, ↓e_stI, ↓e_stL, ↓e_stA, ↓n_inc, ↓n_incm1, ↓n_incm8, ↓e_iadd, ↓e_isub, ↓e_imul, ↓e_iand, ↓e_ior, ↓e_ixor, ↓n_ishl, ↓n_ishr, ↓e_iushr, ↓n_idiv, ↓e_ineg, ↓e_ladd, ↓e_lsub, ↓e_lmul, ↓e_lor, ↓e_lshl, ↓e_lshr, ↓e_i2l, ↓e_l2i, ↓e_i2b, ↓e_lcmp, ↓e_dup, ↓e_dup2, ↓e_pop, ↓e_ceq, ↓e_cne, ↓e_clt, ↓e_cge, ↓e_cgt, ↓e_cle, ↓n_zeq, ↓n_zne, ↓n_zlt, ↓n_zge, ↓n_zgt, ↓n_zle, ↓e_goto, ↓e_nn, ↓e_retI, ↓e_retL, ↓e_retV, ↓n_retZ, ↓e_retA, ↓e_gfI, ↓e_gfL, ↓e_gfR, ↓e_pfI, ↓n_pfZ, ↓e_pfL, ↓e_pfR, ↓e_iald, ↓e_lald, ↓e_aald, ↓e_alen, ↓e_iast, ↓e_bast, ↓n_zast, ↓e_last, ↓e_aast, ↓e_cV, ↓e_cS, ↓e_gsW, ↓e_gsK, ↓e_mmax, ↓e_mmin, ↓e_mmaxL, ↓e_mminL, gEnt, gPad, gArgs, gGet, gS1, gS2, gCl, gNo, gSp, gCt, n_sw, n_gSw, n_gSw0, Option.toList, List.cons_append, List.nil_append, Value.category, and_true, true_and, and_self, not_false_eq_true, not_true_eq_false, Nat.reduceAdd, Nat.reduceSub, Nat.reduceMul, Nat.reduceLeDiff, Nat.reduceLT, Nat.reduceEqDiff, forall_const, true_implies, false_implies, implies_true, Nat.zero_add, Option.some.injEq, Sum.inr.injEq, Sum.inl.injEq, Prod.mk.injEq, exists_eq_left', exists_eq_left, w_ne0, nI_add, w_lt, w_le, w_eq, w_meq, w_eqm, w_mlt, w_ltm, w_mle, w_lem, w_clamp, w_in, w_31, w_ite0, w_ite1, w_ite01, true_or, or_true, false_or, or_false, Nat.le_refl, Nat.lt_irrefl, S_3 hS, S_4 hS, R_3_0 hR, sq_S0 hS hq, sq_S1 hS hq, sq_S2 hS hq, sq_S3 hS hq, sq_S4 hS hq, sq_S5 hS hq, sq_S6 hS hq, sq_S7 hS hq, sq_S26 hS hq, sq_r0 hR hq, sq_r1 hR hq, sq_r2 hR hq, sq_r3 hR hq, sq_r4 hR hq, sq_r5 hR hq, sq_r6 hR hq, tl_S hS hq, tl_r hR hq, hd, t4, g1, w3]
      refine k_checkTell (h := h + 45) (s := C.length) (e := C.length + (rdT K (zB g) (zL g) p).2.2.length) hS hR hq hsz hK ht hd hl hvl hv2 hrl hcl hA (by omega) rfl hbx f0 f2 f9 f10 (fun j x hj => hU _ _ (hget j x hj) (by omega)) hsT q4 q6 hw0 hw (fun μ1 F1 W1 N1 R1 M1 B1 => ?_)
      have hR1 : gPS μ1.2.2 β := by rw [F1.2.2]; exact hR
      have hd1 : μ1.2.2 (β + 3) 1 = β + q := by rw [F1.2.2]; exact hd
      have dt1 := dVr_D hq F1 hl dt
      have t41 := dt1.2.2.2.1
      have U1 := dVr_U hl F1
      rw [← s1] at W1
      have hR := hR1
      simp (disch := omega) only [↓n_gb, ↓n_gb0, ↓n_ic, ↓n_icm, ↓n_lc, ↓e_lc, ↓e_null, ↓e_ldI, ↓e_ldL, ↓e_ldA, ↓e_stI, ↓e_stL, ↓e_stA, ↓n_inc, ↓n_incm1, ↓n_incm8, ↓e_iadd, ↓e_isub, ↓e_imul, ↓e_iand, ↓e_ior, ↓e_ixor, ↓n_ishl, ↓n_ishr, ↓e_iushr, ↓n_idiv, ↓e_ineg, ↓e_ladd, ↓e_lsub, ↓e_lmul, ↓e_lor, ↓e_lshl, ↓e_lshr, ↓e_i2l, ↓e_l2i, ↓e_i2b, ↓e_lcmp, ↓e_dup, ↓e_dup2, ↓e_pop, ↓e_ceq, ↓e_cne, ↓e_clt, ↓e_cge, ↓e_cgt, ↓e_cle, ↓n_zeq, ↓n_zne, ↓n_zlt, ↓n_zge, ↓n_zgt, ↓n_zle, ↓e_goto, ↓e_nn, ↓e_retI, ↓e_retL, ↓e_retV, ↓n_retZ, ↓e_retA, ↓e_gfI, ↓e_gfL, ↓e_gfR, ↓e_pfI, ↓n_pfZ, ↓e_pfL, ↓e_pfR, ↓e_iald, ↓e_lald, ↓e_aald, ↓e_alen, ↓e_iast, ↓e_bast, ↓n_zast, ↓e_last, ↓e_aast, ↓e_cV, ↓e_cS, ↓e_gsW, ↓e_gsK, ↓e_mmax, ↓e_mmin, ↓e_mmaxL, ↓e_mminL, gEnt, gPad, gArgs, gGet, gS1, gS2, gCl, gNo, gSp, gCt, n_sw, n_gSw, n_gSw0, Option.toList, List.cons_append, List.nil_append, Value.category, and_true, true_and, and_self, not_false_eq_true, not_true_eq_false, Nat.reduceAdd, Nat.reduceSub, Nat.reduceMul, Nat.reduceLeDiff, Nat.reduceLT, Nat.reduceEqDiff, forall_const, true_implies, false_implies, implies_true, Nat.zero_add, Option.some.injEq, Sum.inr.injEq, Sum.inl.injEq, Prod.mk.injEq, exists_eq_left', exists_eq_left, w_ne0, nI_add, w_lt, w_le, w_eq, w_meq, w_eqm, w_mlt, w_ltm, w_mle, w_lem, w_clamp, w_in, w_31, w_ite0, w_ite1, w_ite01, true_or, or_true, false_or, or_false, Nat.le_refl, Nat.lt_irrefl, S_3 hS, S_4 hS, R_3_0 hR, sq_S0 hS hq, sq_S1 hS hq, sq_S2 hS hq, sq_S3 hS hq, sq_S4 hS hq, sq_S5 hS hq, sq_S6 hS hq, sq_S7 hS hq, sq_S26 hS hq, sq_r0 hR hq, sq_r1 hR hq, sq_r2 hR hq, sq_r3 hR hq, sq_r4 hR hq, sq_r5 hR hq, sq_r6 hR hq, tl_S hS hq, tl_r hR hq]
      by_cases c2 : (zw (zS K pl vl p (rdT K (zB g) (zL g) p).2.2 g)).1 = 0
      · obtain ⟨u1, u2, u3, u4⟩ := s3 c2
        have hrl1 := zRl_s (K := K) (pl := pl) (vl := vl) (p := p) (s := C.length) (e := C.length + (rdT K (zB g) (zL g) p).2.2.length) (c := (rdT K (zB g) (zL g) p).2.2) hrl
        obtain ⟨o1, o2, o3, o4⟩ := zS_o (K := K) (pl := pl) (vl := vl) (p := p) (c := (rdT K (zB g) (zL g) p).2.2) (g := g)
        have eR := zS_rv (K := K) (pl := pl) (vl := vl) (p := p) (c := (rdT K (zB g) (zL g) p).2.2) (g := g)
        have el : (C ++ (rdT K (zB g) (zL g) p).2.2).length = C.length + (rdT K (zB g) (zL g) p).2.2.length := List.length_append
        have el2 : (tl ++ [rTn K (zB g) (zL g) p C.length (C.length + (rdT K (zB g) (zL g) p).2.2.length)]).length = tl.length + 1 := by simp
        have hh := ih (rdT K (zB g) (zL g) p).2.1 (zS K pl vl p (rdT K (zB g) (zL g) p).2.2 g) (tl ++ [rTn K (zB g) (zL g) p C.length (C.length + (rdT K (zB g) (zL g) p).2.2.length)]) (C ++ (rdT K (zB g) (zL g) p).2.2) μ1 hR1 (dVr_T hq hl F1 ht) q3 hd1 dt1
        rw [el, el2, zS_B, zS_L] at hh
        refine hh (by rw [List.append_assoc]; exact eT) (by rw [List.append_assoc]; exact eC) e0 hrl1 u2 c2 W1 (fun j x hj => ?_) ⟨fun j x hj e1 => ?_, fun i x hi => ?_⟩ (fun i x hi hc => ?_) (fun x hx e3 => ?_) (fun μ2 i' F2 W2 D2 => hok μ2 i' (dUr_t U1 F2) W2 D2)
        · rcases get_app hj with ⟨c3, c4⟩ | ⟨c3, c4⟩
          · obtain ⟨a1, a2, a3, a4⟩ := dVr_A hq F1 hA j x c4
            refine ⟨a1, a2, a3, fun e1 => ?_⟩
            have hk : x.2.1 < zL g := by rcases hrl.2.1 j x c4 with z | z <;> omega
            rw [o1 _ hk]
            exact a4 e1
          · rw [c4, c3]
            obtain ⟨b0, b1, -⟩ := dt1.2.2.2.2.2.2 _ _ hx
            refine ⟨M1, b0, b1, fun e1 => ?_⟩
            have h5 : K p ≠ 5 := fun z => by rcases hbx with y | y <;> omega
            have ek : (rTn K (zB g) (zL g) p C.length (C.length + (rdT K (zB g) (zL g) p).2.2.length)).2.1 = zL g := if_neg h5
            rw [ek, u3 h5]
            exact N1
        · rcases get_app hj with ⟨c3, c4⟩ | ⟨c3, c4⟩
          · have hk : x.2.1 < zB g := by rcases hrl.2.1 j x c4 with z | z <;> omega
            rw [o2 _ hk, F1.1 _ _ (by omega) (by omega) (by omega), F1.1 _ _ (by omega) (by omega) (by omega), F1.1 _ _ (by omega) (by omega) (by omega), F1.1 _ _ (by omega) (by omega) (by omega), F1.1 _ _ (by omega) (by omega) (by omega)]
            exact hC.1 j x c4 e1
          · rw [c4] at e1 ⊢
            rw [c3]
            have h5 : K p = 5 := by rcases hbx with y | y <;> omega
            have ek : (rTn K (zB g) (zL g) p C.length (C.length + (rdT K (zB g) (zL g) p).2.2.length)).2.1 = zB g := if_pos h5
            obtain ⟨v1, v2, v3, v4⟩ := B1 h5
            rw [ek, (u4 h5).1]
            exact ⟨v1, v2, v3, v4, N1⟩
        · by_cases hi2 : i < C.length
          · rw [List.getElem?_append_left hi2] at hi
            obtain ⟨a1, a2⟩ := hC.2 i x hi
            have e3 := eO_c (rv := zrv g) (rv' := zrv (zS K pl vl p (rdT K (zB g) (zL g) p).2.2 g)) (vl := vl) (x := x) (fun e3 => o3 _ (hN x (List.mem_of_getElem? hi) e3))
            rw [e3.1, e3.2, F1.1 _ _ (by omega) (by omega) (by omega), F1.1 _ _ (by omega) (by omega) (by omega)]
            exact ⟨a1, a2⟩
          · rw [List.getElem?_append_right (by omega)] at hi
            have := R1 u1 _ _ hi
            rw [show C.length + (i - C.length) = i by omega] at this
            rw [eR]
            exact this
        · rw [F1.1 _ _ (by omega) (by omega) (by omega), F1.1 _ _ (by omega) (by omega) (by omega)]
          exact hU i x hi (by omega)
        · rcases List.mem_append.1 hx with z | z
          · have := hN x z e3; omega
          · rcases hsT.1 x z with y | y <;> omega
      · have W3 := s2 c2 m
        have hk := hok μ1 (tl.length + 1) U1 (by rw [W3]; exact W1) (fun z => absurd (by rw [← W3]; exact z) c2)
        have w31 := W1.2.1
        have w5 := W1.1
        by_cases g2 : TL.length ≤ tl.length + 1
        · refine b_X2_parse_69 hX ?_
          simp (disch := omega) only [B_X2_parse_69, ↓n_gb, ↓n_gb0, ↓n_ic, ↓n_icm, ↓n_lc, ↓e_lc, ↓e_null, ↓e_ldI, ↓e_ldL, ↓e_ldA, ↓e_stI, ↓e_stL, ↓e_stA, ↓n_inc, ↓n_incm1, ↓n_incm8, ↓e_iadd, ↓e_isub, ↓e_imul, ↓e_iand, ↓e_ior, ↓e_ixor, ↓n_ishl, ↓n_ishr, ↓e_iushr, ↓n_idiv, ↓e_ineg, ↓e_ladd, ↓e_lsub, ↓e_lmul, ↓e_lor, ↓e_lshl, ↓e_lshr, ↓e_i2l, ↓e_l2i, ↓e_i2b, ↓e_lcmp, ↓e_dup, ↓e_dup2, ↓e_pop, ↓e_ceq, ↓e_cne, ↓e_clt, ↓e_cge, ↓e_cgt, ↓e_cle, ↓n_zeq, ↓n_zne, ↓n_zlt, ↓n_zge, ↓n_zgt, ↓n_zle, ↓e_goto, ↓e_nn, ↓e_retI, ↓e_retL, ↓e_retV, ↓n_retZ, ↓e_retA, ↓e_gfI, ↓e_gfL, ↓e_gfR, ↓e_pfI, ↓n_pfZ, ↓e_pfL, ↓e_pfR, ↓e_iald, ↓e_lald, ↓e_aald, ↓e_alen, ↓e_iast, ↓e_bast, ↓n_zast, ↓e_last, ↓e_aast, ↓e_cV, ↓e_cS, ↓e_gsW, ↓e_gsK, ↓e_mmax, ↓e_mmin, ↓e_mmaxL, ↓e_mminL, gEnt, gPad, gArgs, gGet, gS1, gS2, gCl, gNo, gSp, gCt, n_sw, n_gSw, n_gSw0, Option.toList, List.cons_append, List.nil_append, Value.category, and_true, true_and, and_self, not_false_eq_true, not_true_eq_false, Nat.reduceAdd, Nat.reduceSub, Nat.reduceMul, Nat.reduceLeDiff, Nat.reduceLT, Nat.reduceEqDiff, forall_const, true_implies, false_implies, implies_true, Nat.zero_add, Option.some.injEq, Sum.inr.injEq, Sum.inl.injEq, Prod.mk.injEq, exists_eq_left', exists_eq_left, w_ne0, nI_add, w_lt, w_le, w_eq, w_meq, w_eqm, w_mlt, w_ltm, w_mle, w_lem, w_clamp, w_in, w_31, w_ite0, w_ite1, w_ite01, true_or, or_true, false_or, or_false, Nat.le_refl, Nat.lt_irrefl, S_3 hS, S_4 hS, R_3_0 hR, sq_S0 hS hq, sq_S1 hS hq, sq_S2 hS hq, sq_S3 hS hq, sq_S4 hS hq, sq_S5 hS hq, sq_S6 hS hq, sq_S7 hS hq, sq_S26 hS hq, sq_r0 hR hq, sq_r1 hR hq, sq_r2 hR hq, sq_r3 hR hq, sq_r4 hR hq, sq_r5 hR hq, sq_r6 hR hq, tl_S hS hq, tl_r hR hq, hd1, t41, g2]
          exact hk
        · refine b_X2_parse_69 hX ?_
          simp (disch := omega) only [B_X2_parse_69, ↓n_gb, ↓n_gb0, ↓n_ic, ↓n_icm, ↓n_lc, ↓e_lc, ↓e_null, ↓e_ldI, ↓e_ldL, ↓e_ldA, ↓e_stI, ↓e_stL, ↓e_stA, ↓n_inc, ↓n_incm1, ↓n_incm8, ↓e_iadd, ↓e_isub, ↓e_imul, ↓e_iand, ↓e_ior, ↓e_ixor, ↓n_ishl, ↓n_ishr, ↓e_iushr, ↓n_idiv, ↓e_ineg, ↓e_ladd, ↓e_lsub, ↓e_lmul, ↓e_lor, ↓e_lshl, ↓e_lshr, ↓e_i2l, ↓e_l2i, ↓e_i2b, ↓e_lcmp, ↓e_dup, ↓e_dup2, ↓e_pop, ↓e_ceq, ↓e_cne, ↓e_clt, ↓e_cge, ↓e_cgt, ↓e_cle, ↓n_zeq, ↓n_zne, ↓n_zlt, ↓n_zge, ↓n_zgt, ↓n_zle, ↓e_goto, ↓e_nn, ↓e_retI, ↓e_retL, ↓e_retV, ↓n_retZ, ↓e_retA, ↓e_gfI, ↓e_gfL, ↓e_gfR, ↓e_pfI, ↓n_pfZ, ↓e_pfL, ↓e_pfR, ↓e_iald, ↓e_lald, ↓e_aald, ↓e_alen, ↓e_iast, ↓e_bast, ↓n_zast, ↓e_last, ↓e_aast, ↓e_cV, ↓e_cS, ↓e_gsW, ↓e_gsK, ↓e_mmax, ↓e_mmin, ↓e_mmaxL, ↓e_mminL, gEnt, gPad, gArgs, gGet, gS1, gS2, gCl, gNo, gSp, gCt, n_sw, n_gSw, n_gSw0, Option.toList, List.cons_append, List.nil_append, Value.category, and_true, true_and, and_self, not_false_eq_true, not_true_eq_false, Nat.reduceAdd, Nat.reduceSub, Nat.reduceMul, Nat.reduceLeDiff, Nat.reduceLT, Nat.reduceEqDiff, forall_const, true_implies, false_implies, implies_true, Nat.zero_add, Option.some.injEq, Sum.inr.injEq, Sum.inl.injEq, Prod.mk.injEq, exists_eq_left', exists_eq_left, w_ne0, nI_add, w_lt, w_le, w_eq, w_meq, w_eqm, w_mlt, w_ltm, w_mle, w_lem, w_clamp, w_in, w_31, w_ite0, w_ite1, w_ite01, true_or, or_true, false_or, or_false, Nat.le_refl, Nat.lt_irrefl, S_3 hS, S_4 hS, R_3_0 hR, sq_S0 hS hq, sq_S1 hS hq, sq_S2 hS hq, sq_S3 hS hq, sq_S4 hS hq, sq_S5 hS hq, sq_S6 hS hq, sq_S7 hS hq, sq_S26 hS hq, sq_r0 hR hq, sq_r1 hR hq, sq_r2 hR hq, sq_r3 hR hq, sq_r4 hR hq, sq_r5 hR hq, sq_r6 hR hq, tl_S hS hq, tl_r hR hq, hd1, t41, g2, w31, c2]
          exact hk
    · rw [if_pos c1] at e0
      exact absurd e0 c1
