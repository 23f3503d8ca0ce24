/-! THE TEXT: what a new wall keeps -/
theorem zF_rv {K pl vl : Nat → Nat} : ∀ m p g, (∀ t, (zrv g t).1 < 3) → ∀ t, (zrv (zF K pl vl m p g) t).1 < 3
  | 0, _, _, h => h
  | m + 1, p, g, h => by
    rw [zF_s]
    split
    · exact h
    · split
      · exact h
      · refine zF_rv m _ _ (fun t => ?_)
        obtain ⟨-, -, o3, o4⟩ := zS_o (K := K) (pl := pl) (vl := vl) (p := p) (c := (rdT K (zB g) (zL g) p).2.2) (g := g)
        by_cases c : t < p
        · rw [o3 t c]; exact h t
        · rw [o4 t (by omega)]
          rcases eRv_k (vl := vl) (g := g) (q := t) with z | z | z <;> omega
/-- the places of a script -/
abbrev dSame (β q : Nat) (μ μ' : gM) : Prop := ∀ a i, ((a = β + q ∧ 8 ≤ i ∧ i ≤ 11) ∨ (β + (q + 2) ≤ a ∧ a ≤ β + (q + 5)) ∨ (β + (q + 8) ≤ a ∧ a ≤ β + (q + 25))) → μ'.1 a i = μ.1 a i
theorem dTl_c {β q nb nl : Nat} {tl : List rTl} {μ μ' : gM} (h : dSame β q μ μ') (d : dTl β q nb nl tl μ) : dTl β q nb nl tl μ' := by
  obtain ⟨t1, t2, t3, t4, t5, t6, t7⟩ := d
  refine ⟨t1, t2, t3, (h _ _ (by omega)).trans t4, (h _ _ (by omega)).trans t5, (h _ _ (by omega)).trans t6, fun j x hx => ?_⟩
  have hj := lt_get hx
  rw [h _ _ (by omega), h _ _ (by omega), h _ _ (by omega), h _ _ (by omega), h _ _ (by omega), h _ _ (by omega), h _ _ (by omega)]
  exact t7 j x hx
theorem dCk_c {β q : Nat} {vl : Nat → Nat} {g : zG} {tl : List rTl} {C : List (Nat × Nat)} {μ μ' : gM} (hl : tl.length ≤ 18) (h : dSame β q μ μ') (d : dCk β q vl g tl C μ) : dCk β q vl g tl C μ' := by
  refine ⟨fun j x hx e1 => ?_, fun i x hx => ?_⟩
  · have hj := lt_get hx
    rw [h _ _ (by omega), h _ _ (by omega), h _ _ (by omega), h _ _ (by omega), h _ _ (by omega)]
    exact d.1 j x hx e1
  · rw [h _ _ (by omega), h _ _ (by omega)]
    exact d.2 i x hx
theorem eRc_c {β sd : Nat} {vl : Nat → Nat} {g : zG} {tl : List rTl} {μ μ' : gM} (h : ∀ a i, β + 121 ≤ a → a ≤ β + 131 → μ'.1 a i = μ.1 a i) (d : eRc β sd vl g tl μ) : eRc β sd vl g tl μ' := fun j x hx => by
  rw [h _ _ (by omega) (by omega), h _ _ (by omega) (by omega), h _ _ (by omega) (by omega), h _ _ (by omega) (by omega), h _ _ (by omega) (by omega), h _ _ (by omega) (by omega), h _ _ (by omega) (by omega), h _ _ (by omega) (by omega), h _ _ (by omega) (by omega)]
  exact d j x hx
/-- box k and its tell -/
abbrev dBt (β : Nat) (vl : Nat → Nat) (g : zG) (TL : List rTl) (μ : gM) : Prop := ∀ k, k < zB g → ∃ (j : Nat) (x : rTl), TL[j]? = some x ∧ x.1 = 1 ∧ x.2.1 = k ∧ μ.1 (β + (19 + 3 * k)) 0 = nI (vl (x.2.2.1 + 3)) ∧ μ.1 (β + (19 + 3 * k)) 1 = nI (vl (x.2.2.1 + 5)) ∧ μ.1 (β + (19 + 3 * k)) 2 = nI (vl (x.2.2.1 + 7)) ∧ μ.1 (β + (19 + 3 * k)) 3 = nI (vl (x.2.2.1 + 8)) ∧ μ.1 (β + (19 + 3 * k)) 4 = nI (zbs g k) ∧ μ.1 (β + (19 + 3 * k)) 5 = nI x.2.2.2.1 ∧ μ.1 (β + (19 + 3 * k)) 6 = nI x.2.2.2.2
theorem ok_sc {β q sd E : Nat} {vl : Nat → Nat} {g : zG} {TL : List rTl} {CC : List (Nat × Nat)} {μ : gM} (hr : zRl g TL) (hz : zP vl E g TL CC) (h3 : ∀ t, (zrv g t).1 < 3) (dt : dTl β q (zB g) (zL g) TL μ) (dc : dCk β q vl g TL CC μ) (h11 : μ.1 (β + q) 11 = nI CC.length) (hC : CC.length ≤ 400) (ec : eC β sd (zrv g) vl CC μ) (er : eRc β sd vl g TL μ) (l : μ.1 (β + 118) sd = nI (zL g)) (bt : dBt β vl g TL μ) : gI_sc β q sd (zB g) μ := by
  obtain ⟨t1, t2, t3, t4, t5, t6, t7⟩ := dt
  obtain ⟨r1, r2, r3, r4, r5⟩ := hr
  have wf : ∀ (j : Nat) (x : rTl) lb, TL[j]? = some x → (if x.1 = 0 then x.2.1 else zL g) = lb → gWf (fun i => match CC[i]? with | some x => eO (zrv g) x | none => 0) (fun i => match CC[i]? with | some x => nI (eV (zrv g) vl x) | none => nI 0) lb (x.2.2.2.2 - x.2.2.2.1) x.2.2.2.1 0 = some 1 := by
    intro j x lb hx elb
    obtain ⟨a1, a2, a3, ⟨c, b1, b2, b3, b4⟩, a5⟩ := hz.2 j x hx
    rw [← b1, ← elb]
    refine sD_W (rv := zrv g) (vl := vl) c x.2.2.2.1 0 1 (fun i y hy => ?_) (fun y hy e3 => (b4 y hy e3).2) b3
    have := b2 i y hy
    rw [this]
    exact ⟨rfl, rfl⟩
  refine ⟨zL g, CC.length, fun i => match CC[i]? with | some x => eO (zrv g) x | none => 0, fun i => match CC[i]? with | some x => nI (eV (zrv g) vl x) | none => nI 0, t2, hC, t6, l, h11, fun i hi => ?_, fun k hk => ?_, fun k hk => ?_⟩
  · obtain ⟨x, hx⟩ := get_lt hi
    dsimp only
    rw [hx]
    dsimp only
    obtain ⟨d1, d2⟩ := dc.2 i x hx
    obtain ⟨f1, f2⟩ := ec.2 i x hx
    refine ⟨?_, d1, d2, f1, f2⟩
    unfold eO
    have := h3 x.2
    split
    · omega
    · split
      · omega
      · split
        · omega
        · split
          · omega
          · split
            · omega
            · split <;> omega
  · obtain ⟨j, x, x1, x2, x3⟩ := r3 k hk
    obtain ⟨f0, f1, f2, f9, f10, fb⟩ := t7 j x x1
    obtain ⟨a1, a2, -⟩ := hz.2 j x x1
    obtain ⟨e1, e2, e3⟩ := (er j x x1).1 x2
    have w := wf j x k x1 (by rw [if_pos x2]; exact x3)
    have hj := lt_get x1
    rw [x3] at e2 e3 fb
    refine ⟨j, x.2.2.2.1, x.2.2.2.2, by omega, a1, a2, ?_, f9, f10, e2, e3, w⟩
    rcases fb with z | z
    · omega
    · exact z.2.2
  · obtain ⟨j, x, x1, x2, x3, -, -, -, -, -, y5, y6⟩ := bt k hk
    obtain ⟨a1, a2, -⟩ := hz.2 j x x1
    obtain ⟨e1, e2, e3, -⟩ := (er j x x1).2 x2
    rw [x3] at e2 e3
    exact ⟨x.2.2.2.1, x.2.2.2.2, a1, a2, y5, y6, e2, e3, wf j x (zL g) x1 (if_neg (by omega))⟩
theorem ok_bx {β sd E k : Nat} {vl : Nat → Nat} {g : zG} {TL : List rTl} {CC : List (Nat × Nat)} {μ : gM} (hz : zP vl E g TL CC) (er : eRc β sd vl g TL μ) (bt : dBt β vl g TL μ) (hk : k < zB g) : gI_bx β sd k μ := by
  obtain ⟨j, x, x1, x2, x3, y0, y1, y2, y3, y4, y5, y6⟩ := bt k hk
  obtain ⟨a1, a2, a3, -, a5⟩ := hz.2 j x x1
  obtain ⟨v1, v2, v3, v4, v5, v6, v7, v8, v9⟩ := a5 x2
  obtain ⟨e1, e2, e3, e4, e5, e6, e7, e8⟩ := (er j x x1).2 x2
  rw [x3] at v1 v2 e4 e5 e6 e7 e8
  exact ⟨vl (x.2.2.1 + 3), vl (x.2.2.1 + 5), vl (x.2.2.1 + 7), vl (x.2.2.1 + 8), zbs g k, v3, v4, v5, v6, v7, v8, v9, v1, v2, y0, e5, y1, e6, y2, e7, y3, e8, y4, e4⟩
/-- a box that nobody has touched -/
theorem ok_new {β T t k : Nat} {μ0 μ : gM} (ht : t < 400) (d : dBx β T t k μ0 μ) (m : mBx β k μ) : gI_lk β t k μ ∧ gI_hs β t k μ ∧ gI_fx β k μ := by
  obtain ⟨d1, d2, d3, d4, d5, d6⟩ := d
  obtain ⟨m1, m2, m3, m4, m5, m6, m7⟩ := m
  refine ⟨⟨by rw [d2, m1], by rw [d3, m2], Or.inl d3, by rw [d4, m3]⟩, ⟨fun u hu => Or.inl (d6 u hu).1, ?_, ?_, fun u hu => ⟨?_, ?_⟩⟩, Or.inl ⟨d5, m6⟩⟩
  · rw [(d6 t (Nat.le_refl _)).1, m4]
  · rw [(d6 t (Nat.le_refl _)).2, m5]
  · rw [(d6 u (by omega)).1, (m7 u (by omega)).1]
  · rw [(d6 u (by omega)).2, (m7 u (by omega)).2]
theorem gm1_ne {r : Nat} (h : r ≤ 30) : gm1 ≠ nI r := by
  have : ∀ r : Fin 31, gm1 ≠ nI r.val := by decide +kernel
  exact this ⟨r, by omega⟩
theorem ok_ov {β n : Nat} {μ : gM} (h : ∀ k, k < n → μ.1 (β + (19 + 3 * k)) 10 = gm1) : gI_ov β n μ := by
  intro j k hj hk hjk r c d g r' c' d' g' h1 h2 h3 h4 h5 h6 h7 h8 e1
  rw [h j hj] at e1
  exact absurd e1 (gm1_ne h1)
