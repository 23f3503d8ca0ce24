theorem gCls {ci : Nat} {r : vw_C} (h : vwCl[ci]? = some r) : (∀ w ∈ u_ws r.1 r.2.1 r.2.2, w ∈ gTab) ∧ (∀ k, k < r.2.2 → parseFieldDescriptor (r.2.1 k).2.2.1 = some (gTy ci k)) ∧ (∀ a, a < r.2.2 → ∀ b, b < r.2.2 → a ≠ b → (r.2.1 a).2.1 ≠ (r.2.1 b).2.1) := by
  match ci, h with
  | 0, h => cases h; exact ⟨gIn_0, tyX0_ok, nmX0⟩
  | 1, h => cases h; exact ⟨gIn_1, tyX1_ok, nmX1⟩
  | 2, h => cases h; exact ⟨gIn_2, tyX2_ok, nmX2⟩
  | 3, h => cases h; exact ⟨gIn_3, tyX3_ok, nmX3⟩
  | 4, h => cases h; exact ⟨gIn_4, tyX4_ok, nmX4⟩
  | 5, h => cases h; exact ⟨gIn_5, tyX5_ok, nmX5⟩
  | 6, h => cases h; exact ⟨gIn_6, tyX6_ok, nmX6⟩
  | 7, h => cases h; exact ⟨gIn_7, tyX7_ok, nmX7⟩
  | 8, h => cases h; exact ⟨gIn_8, tyX8_ok, nmX8⟩
  | 9, h => cases h; exact ⟨gIn_9, tyX9_ok, nmX9⟩
  | 10, h => cases h; exact ⟨gIn_10, tyX10_ok, nmX10⟩
  | 11, h => cases h; exact ⟨gIn_11, tyX11_ok, nmX11⟩
  | k + 12, h => simp [vwCl] at h
theorem gAt.kept {E : gE} {U : State} {μ μ' : gM} {H H' : Heap} {a : Nat} {sh : Nat ⊕ (Nat × Nat)} (hq : H'[a]? = H[a]?) (h1 : μ'.1 a = μ.1 a) (h2 : μ'.2.1 a = μ.2.1 a) (h3 : μ'.2.2 a = μ.2.2 a) (h : gAt E U μ H a sh) : gAt E U μ' H' a sh := by
  cases sh with
  | inl ci =>
    obtain ⟨g1, r, g2, g3⟩ := h
    refine ⟨g1, r, g2, (g3.kept hq).to fun k _ => ?_⟩
    unfold gV
    split <;> simp [h1, h2, h3]
  | inr q =>
    obtain ⟨t, n⟩ := q
    unfold gAt at h ⊢
    dsimp only at h ⊢
    split at h
    · rename_i h10
      rw [if_pos h10, h1]
      obtain ⟨cell, g1, g2⟩ := h
      exact ⟨cell, by rw [hq]; exact g1, g2⟩
    · rename_i h10
      rw [if_neg h10]
      split at h
      · rename_i h11
        rw [if_pos h11, h2]
        obtain ⟨cell, g1, g2⟩ := h
        exact ⟨cell, by rw [hq]; exact g1, g2⟩
      · rename_i h11
        rw [if_neg h11, hq]
        refine ⟨h.1, h.2.1, ?_⟩
        have : gAr t n μ' a = gAr t n μ a := by simp [gAr, h1, h2, h3]
        rw [this]
        exact h.2.2
/-- one cell is written anew -/
theorem gRep.put {E : gE} {S : gSh} {U : State} {μ μ' : gM} {H H' : Heap} {a : Nat} {sh : Nat ⊕ (Nat × Nat)} (h : gRep E S μ U H) (ha : S a = some sh) (hb : E.2.2.1 ≤ a) (hz : H'.size = H.size) (oq : ∀ q, q ≠ a → H'[q]? = H[q]?) (hm : ∀ b, b ≠ a → μ'.1 b = μ.1 b ∧ μ'.2.1 b = μ.2.1 b ∧ μ'.2.2 b = μ.2.2 b) (hat : gAt E U μ' H' a sh) : gRep E S μ' U H' := by
  have hW : ¬ E.2.2.1 ≤ E.2.2.2.2.1 := by
    obtain ⟨cell, g1, g2, g3, g4, g5, g6, g7⟩ := h.2.1 _ _ h.2.2.1.1
    exact g7
  have hT : ¬ E.2.2.1 ≤ E.2.2.2.2.2 := by
    obtain ⟨cell, g1, g2, g3, g4, g5, g6, g7⟩ := h.2.1 _ _ h.2.2.1.2.1
    exact g7
  refine ⟨fun q hq => ?_, fun b sb hs => ?_, ⟨h.2.2.1.1, h.2.2.1.2.1, fun j hj => ?_, fun j hj => ?_⟩, fun b hb hs => by rw [hz]; exact h.2.2.2 b hb hs⟩
  · rw [oq q (by omega)]
    exact h.1 q hq
  rotate_left
  · rw [(hm _ (fun z => hW (by rw [z]; exact hb))).2.1]
    exact h.2.2.1.2.2.1 j hj
  · rw [(hm _ (fun z => hT (by rw [z]; exact hb))).1]
    exact h.2.2.1.2.2.2 j hj
  · by_cases hba : b = a
    · subst hba
      rw [ha] at hs
      cases hs
      exact hat
    · obtain ⟨m1, m2, m3⟩ := hm b hba
      exact (h.2.1 b sb hs).kept (oq b hba) m1 m2 m3
theorem gU_o {α : Type} {f : Nat → Nat → α} {a k b : Nat} {v : α} (h : b ≠ a) : gU f a k v b = f b := by
  funext j
  simp [gU, h]
/-- getfield -/
theorem g_get {p : Program} {l : Launch} {e : Env} {R : Room} {s : State} {m : MethodId} {args : Array Value} {below : List Frame} {meth : Method} {c : Code} {cells slots : Nat} {Q : State → Prop} {E : gE} {S : gSh} {own : String} {cc : ByteArray} {nL pc idx ci k a : Nat} {r : vw_C} {H : Heap} {locs : List Loc} {ls : Array Slot} {rest : List Value} {μ : gM} (hB : gBd p s m args c E own cc nL) (hc : vwCl[ci]? = some r) (hk : k < r.2.2)
    (hl : Cond.fieldLink own idx (r.2.1 k).1 (r.2.1 k).2.1 (r.2.1 k).2.2.1 ∈ gTab ∨ ∃ host, Cond.fieldLinkNest own idx (r.2.1 k).1 (r.2.1 k).2.1 (r.2.1 k).2.2.1 host ∈ gNest) (hd : decode cc pc = .ok (.getfield idx, 3)) (hr : gRep E S μ s H) (ha : S a = some (.inl ci))
    (kk : W p l e R s m args below meth c H locs cells slots Q (F0 m (pc + 3) ls (gV (gTy ci k) μ a k :: rest))) : W p l e R s m args below meth c H locs cells slots Q (F0 m pc ls (.ref a :: rest)) := by
  obtain ⟨hx, hb, hml, hown, hts, hK, hN, -⟩ := hB
  obtain ⟨-, r', g2, g3⟩ := hr.2.1 a _ ha
  cases hc.symm.trans g2
  obtain ⟨C, T, N⟩ := r
  have hP : va_P E.1 vwCl [(a, .inr (ci, (List.range N).map (fun k => gV (gTy ci k) μ a k)))] H := by
    intro i q hq
    match i, hq with
    | 0, hq =>
      cases hq
      refine ⟨_, hc, g3.to fun j hj => ?_⟩
      have hj : j < N := hj
      simp [vp_V, hj]
    | i + 1, hq => simp at hq
  have hv : ((List.range N).map (fun k => gV (gTy ci k) μ a k))[k]? = some (gV (gTy ci k) μ a k) := by
    have hk : k < N := hk
    simp [hk]
  rcases hl with hl | ⟨host, hl⟩
  · exact va_get hx hb hts (gCls hc).1 hown hK hP 0 rfl hc k hk (hts _ hl) (fun _ h => h) hv hd kk
  · exact va_getN hx hb hts (gCls hc).1 hown hK hP 0 rfl hc k hk (va_Nw.use rfl (hN _ hl)) (fun _ h => h) hv hd kk
/-- putfield, of a field that is no final -/
theorem g_put {p : Program} {l : Launch} {e : Env} {R : Room} {s : State} {m : MethodId} {args : Array Value} {below : List Frame} {meth : Method} {c : Code} {cells slots : Nat} {Q : State → Prop} {E : gE} {S : gSh} {own : String} {cc : ByteArray} {nL pc idx ci k a : Nat} {r : vw_C} {H : Heap} {locs : List Loc} {ls : Array Slot} {rest : List Value} {μ μ' : gM} {v : Value} (hB : gBd p s m args c E own cc nL) (hc : vwCl[ci]? = some r) (hk : k < r.2.2) (hfin : (r.2.1 k).2.2.2 = false)
    (hl : Cond.fieldLink own idx (r.2.1 k).1 (r.2.1 k).2.1 (r.2.1 k).2.2.1 ∈ gTab ∨ ∃ host, Cond.fieldLinkNest own idx (r.2.1 k).1 (r.2.1 k).2.1 (r.2.1 k).2.2.1 host ∈ gNest) (hd : decode cc pc = .ok (.putfield idx, 3)) (hr : gRep E S μ s H) (hlo : ∀ q ∈ locs, gFr E q.base) (ha : S a = some (.inl ci))
    (hn : narrow (gTy ci k) v = v) (hfit : fits (gTy ci k) v = true) (hm : ∀ b, b ≠ a → μ'.1 b = μ.1 b ∧ μ'.2.1 b = μ.2.1 b ∧ μ'.2.2 b = μ.2.2 b) (hv : ∀ j, j < r.2.2 → gV (gTy ci j) μ' a j = if j = k then v else gV (gTy ci j) μ a j)
    (kk : ∀ (H1 : Heap) (locs1 : List Loc), gRep E S μ' s H1 → (∀ q ∈ locs1, gFr E q.base) → W p l e R s m args below meth c H1 locs1 cells slots Q (F0 m (pc + 3) ls rest)) : W p l e R s m args below meth c H locs cells slots Q (F0 m pc ls (v :: .ref a :: rest)) := by
  obtain ⟨hx, hb, hml, hown, hts, hK, hN, -⟩ := hB
  obtain ⟨g1, r', g2, cell, q1, q2, q3, q4⟩ := hr.2.1 a _ ha
  cases hc.symm.trans g2
  obtain ⟨C, T, N⟩ := r
  have hap := va_apart (own := own) hts (gCls hc).1 _ (gCls hc).2.1 (gCls hc).2.2 hK hc
  obtain ⟨hS, hfc, kC, hkC, hkind⟩ := hK.1 ci _ hc
  obtain ⟨cf, kf, fi, f, hi, hsl⟩ := hS k hk
  have hlay := hts _ ((gCls hc).1 _ (u_in_lay hk))
  unfold u_lay at hlay
  rw [if_neg (by rw [hfin]; decide)] at hlay
  have hst := (u_facts hfc hkC (u_lays hts (gCls hc).1 hk) hi).1
  have h6 := u_store hfc hkC hkind hlay hi ((gCls hc).2.1 k hk) hn hfit
  have key : ∀ H' : Heap, H'[a]? = some (cell.setSlot f.slot v) → H'.size = H.size → (∀ q, q ≠ a → H'[q]? = H[q]?) → W p l e R s m args below meth c H' (locs ++ [⟨a, f.slot⟩]) cells slots Q (F0 m (pc + 3) ls rest) := by
    intro H' e1 e2 e3
    refine kk H' _ (hr.put ha g1 e2 e3 hm ⟨g1, _, hc, ?_⟩) (fun q hq => ?_)
    · rw [hsl] at e1
      exact t_OB.to (V := updV (fun k => gV (gTy ci k) μ a k) k v) ⟨_, e1, q2, q3, t_set q4 hap hk v⟩ (fun j hj => (hv j hj).symm)
    · rcases List.mem_append.mp hq with h | h
      · exact hlo q h
      · rw [List.mem_singleton.mp h]
        exact g1
  rcases hl with hl | ⟨host, hl⟩
  · exact W.putK hx hb (f := f) ⟨hown, hts _ hl, ⟨_, _, _, hi⟩, hst⟩ (by rw [q2]; exact h6) q1 q3 (by rw [hsl]; exact k2_hasslot (q4 k hk)) rfl rfl hd key
  · exact va_WputK hx hb hown (va_Nw.use rfl (hN _ hl)) hi hst (by rw [q2]; exact h6) q1 q3 (by rw [hsl]; exact k2_hasslot (q4 k hk)) rfl rfl hd key
