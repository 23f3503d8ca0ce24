def i_iald (t : Nat) : gT := fun S _ _ _ K μ lc st => match st with
  | .int i :: .ref a :: r => ∃ n, S a = some (.inr (t, n)) ∧ vp_in i n ∧ K μ lc (.int (μ.1 a i.toNatClampNeg) :: r)
  | _ => False
def i_lald (t : Nat) : gT := fun S _ _ _ K μ lc st => match st with
  | .int i :: .ref a :: r => ∃ n, S a = some (.inr (t, n)) ∧ vp_in i n ∧ K μ lc (.long (μ.2.1 a i.toNatClampNeg) :: r)
  | _ => False
def i_aald (t : Nat) : gT := fun S _ _ _ K μ lc st => match st with
  | .int i :: .ref a :: r => ∃ n, S a = some (.inr (t, n)) ∧ vp_in i n ∧ μ.2.2 a i.toNatClampNeg ≠ 0 ∧ K μ lc (.ref (μ.2.2 a i.toNatClampNeg) :: r)
  | _ => False
def i_alen (t : Nat) : gT := fun S _ _ _ K μ lc st => match st with
  | .ref a :: r => ∃ n, S a = some (.inr (t, n)) ∧ K μ lc (.int (nI n) :: r)
  | _ => False
section SND
variable {mt : List gMi} {own : String} {cc : ByteArray} {nL : Nat} {rt : Option FieldType} {pc : Nat}
theorem s_iald (hd : decode cc pc = .ok (.iaload, 1)) : gSnd mt own cc nL rt pc 1 (i_iald 0) := by
  intro p l e R s m args below meth c cells slots Q E S C X P hB hC hX hR hf K hK μ lc st h
  simp only [i_iald] at h
  split at h
  · obtain ⟨n, h1, h2, h3⟩ := h
    exact fun H locs ls hr hl hh => va_iald hB.1 hB.2.1 hB.2.2.2.2.2.1 ((hr.2.1 _ _ h1).one (by decide)) 0 0 rfl rfl h2 hd (hK _ _ _ h3 H locs ls hr hl hh)
  · exact h.elim
theorem s_bald (hd : decode cc pc = .ok (.baload, 1)) : gSnd mt own cc nL rt pc 1 (i_iald 2) := by
  intro p l e R s m args below meth c cells slots Q E S C X P hB hC hX hR hf K hK μ lc st h
  simp only [i_iald] at h
  split at h
  · obtain ⟨n, h1, h2, h3⟩ := h
    exact fun H locs ls hr hl hh => va_bald hB.1 hB.2.1 hB.2.2.2.2.2.1 ((hr.2.1 _ _ h1).one (by decide)) 0 2 rfl rfl h2 hd (hK _ _ _ h3 H locs ls hr hl hh)
  · exact h.elim
theorem s_zald (hd : decode cc pc = .ok (.baload, 1)) : gSnd mt own cc nL rt pc 1 (i_iald 3) := by
  intro p l e R s m args below meth c cells slots Q E S C X P hB hC hX hR hf K hK μ lc st h
  simp only [i_iald] at h
  split at h
  · obtain ⟨n, h1, h2, h3⟩ := h
    exact fun H locs ls hr hl hh => va_zald hB.1 hB.2.1 hB.2.2.2.2.2.1 ((hr.2.1 _ _ h1).one (by decide)) 0 3 rfl rfl h2 hd (hK _ _ _ h3 H locs ls hr hl hh)
  · exact h.elim
theorem s_lald (hd : decode cc pc = .ok (.laload, 1)) : gSnd mt own cc nL rt pc 1 (i_lald 1) := by
  intro p l e R s m args below meth c cells slots Q E S C X P hB hC hX hR hf K hK μ lc st h
  simp only [i_lald] at h
  split at h
  · obtain ⟨n, h1, h2, h3⟩ := h
    exact fun H locs ls hr hl hh => va_lald hB.1 hB.2.1 hB.2.2.2.2.2.1 ((hr.2.1 _ _ h1).one (by decide)) 0 1 rfl rfl h2 hd (hK _ _ _ h3 H locs ls hr hl hh)
  · exact h.elim
theorem s_iald10 (hd : decode cc pc = .ok (.iaload, 1)) : gSnd mt own cc nL rt pc 1 (i_iald 10) := by
  intro p l e R s m args below meth c cells slots Q E S C X P hB hC hX hR hf K hK μ lc st h
  simp only [i_iald] at h
  split at h
  · obtain ⟨n, h1, h2, h3⟩ := h
    intro H locs ls hr hl hh
    obtain ⟨cell, g1, g2, g3, g4, g5, g6, g7⟩ : va_T .int _ n _ _ s H := hr.2.1 _ _ h1
    have hlt := Nat.not_le.mp fun q => h2 (Or.inr q)
    exact W.iald hB.1 hB.2.1 g1 g2 g3 (fun q => h2 (q.imp id (fun z => Nat.le_trans g4 z))) (g6 _ hlt) rfl rfl hd (hK _ _ _ h3 H locs ls hr hl hh)
  · exact h.elim
theorem s_lald11 (hd : decode cc pc = .ok (.laload, 1)) : gSnd mt own cc nL rt pc 1 (i_lald 11) := by
  intro p l e R s m args below meth c cells slots Q E S C X P hB hC hX hR hf K hK μ lc st h
  simp only [i_lald] at h
  split at h
  · obtain ⟨n, h1, h2, h3⟩ := h
    intro H locs ls hr hl hh
    obtain ⟨cell, g1, g2, g3, g4, g5, g6, g7⟩ : va_T .long _ n _ _ s H := hr.2.1 _ _ h1
    have hlt := Nat.not_le.mp fun q => h2 (Or.inr q)
    exact W.lald hB.1 hB.2.1 g1 g2 g3 (fun q => h2 (q.imp id (fun z => Nat.le_trans g4 z))) (g6 _ hlt) rfl rfl hd (hK _ _ _ h3 H locs ls hr hl hh)
  · exact h.elim
theorem s_aald (t : Nat) (ht : t = 4 ∨ t = 5) (hd : decode cc pc = .ok (.aaload, 1)) : gSnd mt own cc nL rt pc 1 (i_aald t) := by
  intro p l e R s m args below meth c cells slots Q E S C X P hB hC hX hR hf K hK μ lc st h
  simp only [i_aald] at h
  split at h
  · rename_i i a r
    obtain ⟨n, h1, h2, h4, h3⟩ := h
    have hg : gOp (μ.2.2 a i.toNatClampNeg) = some (μ.2.2 a i.toNatClampNeg) := by simp [gOp, h4]
    rcases ht with rfl | rfl
    · exact fun H locs ls hr hl hh => va_aldq hB.1 hB.2.1 hB.2.2.2.2.2.1 ((hr.2.1 _ _ h1).one (by decide)) 0 4 (f := fun j => gOp (μ.2.2 a j)) rfl rfl h2 hd (by rw [hg]; exact hK _ _ _ h3 H locs ls hr hl hh)
    · exact fun H locs ls hr hl hh => va_aldq hB.1 hB.2.1 hB.2.2.2.2.2.1 ((hr.2.1 _ _ h1).one (by decide)) 0 5 (f := fun j => gOp (μ.2.2 a j)) rfl rfl h2 hd (by rw [hg]; exact hK _ _ _ h3 H locs ls hr hl hh)
  · exact h.elim
theorem gAr_1 (t n : Nat) (μ : gM) (a : Nat) : (gAr t n μ a).1 = n := by
  unfold gAr
  split
  · rfl
  · split <;> rfl
theorem s_alen (t : Nat) (ht : t < 6) (hd : decode cc pc = .ok (.arraylength, 1)) : gSnd mt own cc nL rt pc 1 (i_alen t) := by
  intro p l e R s m args below meth c cells slots Q E S C X P hB hC hX hR hf K hK μ lc st h
  simp only [i_alen] at h
  split at h
  · obtain ⟨n, h1, h3⟩ := h
    exact fun H locs ls hr hl hh => va_alen hB.1 hB.2.1 hB.2.2.2.2.2.1 ((hr.2.1 _ _ h1).one ht) 0 t rfl (gTys_get ht) (by rw [gAr_1]; rfl) hd (hK _ _ _ h3 H locs ls hr hl hh)
  · exact h.elim
theorem s_alen10 (t : Nat) (ht : t = 10 ∨ t = 11) (hd : decode cc pc = .ok (.arraylength, 1)) : gSnd mt own cc nL rt pc 1 (i_alen t) := by
  intro p l e R s m args below meth c cells slots Q E S C X P hB hC hX hR hf K hK μ lc st h
  simp only [i_alen] at h
  split at h
  · obtain ⟨n, h1, h3⟩ := h
    intro H locs ls hr hl hh
    rcases ht with rfl | rfl
    · obtain ⟨cell, g1, g2, g3, g4, g5, g6, g7⟩ : va_T .int _ n _ _ s H := hr.2.1 _ _ h1
      exact W.alen hB.1 hB.2.1 g1 g2 g5 rfl rfl hd (hK _ _ _ h3 H locs ls hr hl hh)
    · obtain ⟨cell, g1, g2, g3, g4, g5, g6, g7⟩ : va_T .long _ n _ _ s H := hr.2.1 _ _ h1
      exact W.alen hB.1 hB.2.1 g1 g2 g5 rfl rfl hd (hK _ _ _ h3 H locs ls hr hl hh)
  · exact h.elim
end SND
def i_iast : gT := fun S _ _ _ K μ lc st => match st with
  | .int x :: .int i :: .ref a :: r => ∃ n, S a = some (.inr (0, n)) ∧ vp_in i n ∧ K (gU μ.1 a i.toNatClampNeg x, μ.2) lc r
  | _ => False
def i_bast : gT := fun S _ _ _ K μ lc st => match st with
  | .int x :: .int i :: .ref a :: r => ∃ n, S a = some (.inr (2, n)) ∧ vp_in i n ∧ K (gU μ.1 a i.toNatClampNeg x.toInt8.toInt32, μ.2) lc r
  | _ => False
def i_zast : gT := fun S _ _ _ K μ lc st => match st with
  | .int x :: .int i :: .ref a :: r => ∃ n, S a = some (.inr (3, n)) ∧ vp_in i n ∧ (x = 0 ∨ x = 1) ∧ K (gU μ.1 a i.toNatClampNeg x, μ.2) lc r
  | _ => False
def i_last : gT := fun S _ _ _ K μ lc st => match st with
  | .long x :: .int i :: .ref a :: r => ∃ n, S a = some (.inr (1, n)) ∧ vp_in i n ∧ K (μ.1, gU μ.2.1 a i.toNatClampNeg x, μ.2.2) lc r
  | _ => False
def i_aast (t ci : Nat) : gT := fun S _ _ _ K μ lc st => match st with
  | .ref x :: .int i :: .ref a :: r => ∃ n, S a = some (.inr (t, n)) ∧ S x = some (.inl ci) ∧ vp_in i n ∧ K (μ.1, μ.2.1, gU μ.2.2 a i.toNatClampNeg x) lc r
  | _ => False
theorem gAr_uI {t n : Nat} {μ : gM} {a k : Nat} {x : Int32} (cA : ClassId) (ht : t = 0 ∨ t = 2 ∨ t = 3) : (vp_cell cA (gAr t n μ a)).setSlot k (.int x) = vp_cell cA (gAr t n (gU μ.1 a k x, μ.2) a) := by
  have e : ∀ μ : gM, gAr t n μ a = (n, .inl (μ.1 a)) := fun μ => by rcases ht with rfl | rfl | rfl <;> rfl
  rw [e, e, vp_cell_i, vp_cell_i, arrV_store]
  congr 2
  funext q
  by_cases hq : q = k <;> simp [updV, gU, hq]
theorem gAr_uL {n : Nat} {μ : gM} {a k : Nat} {x : Int64} (cA : ClassId) : (vp_cell cA (gAr 1 n μ a)).setSlot k (.long x) = vp_cell cA (gAr 1 n (μ.1, gU μ.2.1 a k x, μ.2.2) a) := by
  have e : ∀ μ : gM, gAr 1 n μ a = (n, .inr (.inl (μ.2.1 a))) := fun μ => rfl
  rw [e, e, vp_cell_l, vp_cell_l, arrV_store]
  congr 2
  funext q
  by_cases hq : q = k <;> simp [updV, gU, hq]
theorem gAr_uR {t n : Nat} {μ : gM} {a k x : Nat} (cA : ClassId) (ht : t = 4 ∨ t = 5) (hx : x ≠ 0) : (vp_cell cA (gAr t n μ a)).setSlot k (.ref x) = vp_cell cA (gAr t n (μ.1, μ.2.1, gU μ.2.2 a k x) a) := by
  have e : ∀ μ : gM, gAr t n μ a = (n, .inr (.inr (.inr (.inr (fun j => gOp (μ.2.2 a j)))))) := fun μ => by rcases ht with rfl | rfl <;> rfl
  rw [e, e, vp_cell_q, vp_cell_q, arrV_store]
  congr 2
  funext q
  by_cases hq : q = k <;> simp [updV, gU, hq, gOp, va_rf, hx]
theorem gVin {cA : ClassId} {t n : Nat} {μ : gM} {a : Nat} {i : Int32} (h : vp_in i n) : ¬ (i < 0 ∨ (vp_cell cA (gAr t n μ a)).slots.size ≤ i.toNatClampNeg) := by
  have : (vp_cell cA (gAr t n μ a)).slots.size = n := by
    unfold gAr
    split
    · rw [vp_cell_l]; exact arrV_size _ _ _
    · split
      · rw [vp_cell_i]; exact arrV_size _ _ _
      · rw [vp_cell_q]; exact arrV_size _ _ _
  rw [this]
  exact h
theorem gVof {E : gE} {U : State} {t n : Nat} {μ : gM} {a : Nat} (hK : va_K E.1 vwCl (gTys E) U) (ht : t < 6) : U.isArrayOf (vp_cell (E.2.1 t) (gAr t n μ a)) (gElt t) := by
  have h := (hK.2 t _ (gTys_get ht)).1
  unfold gAr
  split
  · exact h n (fun j => .long (μ.2.1 a j))
  · split
    · exact h n (fun j => .int (μ.1 a j))
    · exact h n (fun j => va_rf (gOp (μ.2.2 a j)))
theorem gVvm {cA : ClassId} {t n : Nat} {μ : gM} {a : Nat} : (vp_cell cA (gAr t n μ a)).vm = .none := by
  unfold gAr
  split
  · rfl
  · split <;> rfl
section SND
variable {mt : List gMi} {own : String} {cc : ByteArray} {nL : Nat} {rt : Option FieldType} {pc : Nat}
theorem s_iast (hd : decode cc pc = .ok (.iastore, 1)) : gSnd mt own cc nL rt pc 1 i_iast := by
  intro p l e R s m args below meth c cells slots Q E S C X P hB hC hX hR hf K hK μ lc st h
  simp only [i_iast] at h
  split at h
  · rename_i x i a r
    obtain ⟨n, h1, h2, h3⟩ := h
    intro H locs ls hr hl hh
    have g := (hr.2.1 _ _ h1).arr (by decide)
    refine W.iast hB.1 hB.2.1 g.2 (gVof hB.2.2.2.2.2.1 (by decide)) (by rw [gVvm]; exact fun q => by cases q) (gVin h2) rfl rfl hd (fun H' e1 e2 e3 => ?_)
    exact hK _ _ _ h3 H' _ ls (hr.put h1 g.1 e2 e3 (fun b hb => ⟨gU_o hb, rfl, rfl⟩) (gAt.to (by decide) ⟨g.1, by rw [e1, gAr_uI _ (by decide)]⟩)) (gLast hl g.1) hh
  · exact h.elim
theorem s_bast (hd : decode cc pc = .ok (.bastore, 1)) : gSnd mt own cc nL rt pc 1 i_bast := by
  intro p l e R s m args below meth c cells slots Q E S C X P hB hC hX hR hf K hK μ lc st h
  simp only [i_bast] at h
  split at h
  · rename_i x i a r
    obtain ⟨n, h1, h2, h3⟩ := h
    intro H locs ls hr hl hh
    have g := (hr.2.1 _ _ h1).arr (by decide)
    refine W.bast hB.1 hB.2.1 g.2 (gVof hB.2.2.2.2.2.1 (by decide)) (by rw [gVvm]; exact fun q => by cases q) (gVin h2) rfl rfl hd (fun H' e1 e2 e3 => ?_)
    exact hK _ _ _ h3 H' _ ls (hr.put h1 g.1 e2 e3 (fun b hb => ⟨gU_o hb, rfl, rfl⟩) (gAt.to (by decide) ⟨g.1, by rw [e1, narrow_byte, gAr_uI _ (by decide)]⟩)) (gLast hl g.1) hh
  · exact h.elim
theorem s_zast (hd : decode cc pc = .ok (.bastore, 1)) : gSnd mt own cc nL rt pc 1 i_zast := by
  intro p l e R s m args below meth c cells slots Q E S C X P hB hC hX hR hf K hK μ lc st h
  simp only [i_zast] at h
  split at h
  · rename_i x i a r
    obtain ⟨n, h1, h2, h4, h3⟩ := h
    intro H locs ls hr hl hh
    have g := (hr.2.1 _ _ h1).arr (by decide)
    refine W.zast hB.1 hB.2.1 g.2 (gVof hB.2.2.2.2.2.1 (by decide)) (by rw [gVvm]; exact fun q => by cases q) (gVin h2) rfl rfl hd (fun H' e1 e2 e3 => ?_)
    exact hK _ _ _ h3 H' _ ls (hr.put h1 g.1 e2 e3 (fun b hb => ⟨gU_o hb, rfl, rfl⟩) (gAt.to (by decide) ⟨g.1, by rw [e1, g_nz h4, gAr_uI _ (by decide)]⟩)) (gLast hl g.1) hh
  · exact h.elim
theorem s_last (hd : decode cc pc = .ok (.lastore, 1)) : gSnd mt own cc nL rt pc 1 i_last := by
  intro p l e R s m args below meth c cells slots Q E S C X P hB hC hX hR hf K hK μ lc st h
  simp only [i_last] at h
  split at h
  · rename_i x i a r
    obtain ⟨n, h1, h2, h3⟩ := h
    intro H locs ls hr hl hh
    have g := (hr.2.1 _ _ h1).arr (by decide)
    refine W.last hB.1 hB.2.1 g.2 (gVof hB.2.2.2.2.2.1 (by decide)) (by rw [gVvm]; exact fun q => by cases q) (gVin h2) rfl rfl hd (fun H' e1 e2 e3 => ?_)
    exact hK _ _ _ h3 H' _ ls (hr.put h1 g.1 e2 e3 (fun b hb => ⟨rfl, gU_o hb, rfl⟩) (gAt.to (by decide) ⟨g.1, by rw [e1, gAr_uL]⟩)) (gLast hl g.1) hh
  · exact h.elim
theorem s_aast (t ci : Nat) (ht : (t = 4 ∧ ci = 0) ∨ (t = 5 ∧ ci = 8)) (hd : decode cc pc = .ok (.aastore, 1)) : gSnd mt own cc nL rt pc 1 (i_aast t ci) := by
  intro p l e R s m args below meth c cells slots Q E S C X P hB hC hX hR hf K hK μ lc st h
  simp only [i_aast] at h
  split at h
  · rename_i x i a r
    obtain ⟨n, h1, h5, h2, h3⟩ := h
    intro H locs ls hr hl hh
    have ht6 : t < 6 := by omega
    have ht4 : t = 4 ∨ t = 5 := by omega
    have g := (hr.2.1 _ _ h1).arr ht6
    obtain ⟨hK0, -, -, -, hpos, -⟩ := hB.2.2.2.2.2
    obtain ⟨b1, q, hq, cellV, v1, v2, v3, -⟩ := hr.2.1 _ _ h5
    have hx0 : x ≠ 0 := fun z => absurd (Nat.lt_of_lt_of_le hpos (z ▸ b1)) (Nat.lt_irrefl 0)
    have hcls := (hK0.1 ci q hq).2
    have hRA : ∃ (kA : Class) (comp : ClassId), s.vm.classes[E.2.1 t]? = some kA ∧ kA.kind = .array comp (.object q.1) ∧ s.vm.findClass q.1 = some comp := by
      have hz := (hK0.2 t _ (gTys_get ht6)).2
      rcases ht with ⟨rfl, rfl⟩ | ⟨rfl, rfl⟩
      · cases hq
        obtain ⟨kA, comp, k1, k2, k3, -⟩ := hz
        exact ⟨kA, comp, k1, k2, k3⟩
      · cases hq
        obtain ⟨kA, comp, k1, k2, k3, -⟩ := hz
        exact ⟨kA, comp, k1, k2, k3⟩
    obtain ⟨kA, comp, k1, k2, k3⟩ := hRA
    have hcomp : comp = E.1.1 ci := Option.some.inj (k3.symm.trans hcls.1)
    subst hcomp
    obtain ⟨kC, hkC, -⟩ := hcls.2
    have hc0 : (vp_cell (E.2.1 t) (gAr t n μ a)).cls = E.2.1 t := by
      rcases ht4 with rfl | rfl <;> rfl
    refine W.aast hB.1 hB.2.1 g.2 (fun q => by rw [gVvm]; exact fun h => by cases h) (by rw [gVvm]; exact fun h => by cases h) (by rw [hc0]; exact k1) k2 rfl hkC ⟨fun z => h2 (Or.inl z), Nat.not_le.mp fun z => gVin (cA := E.2.1 t) (t := t) (μ := μ) (a := a) h2 (Or.inr z)⟩ v1 (fun q h => by rw [v3] at h; cases h) (by rw [v2]; exact hkC) (by rw [v2]; exact va_assign hcls) rfl rfl hd (fun H' e1 e2 e3 => ?_)
    exact hK _ _ _ h3 H' _ ls (hr.put h1 g.1 e2 e3 (fun b hb => ⟨rfl, rfl, gU_o hb⟩) (gAt.to ht6 ⟨g.1, by rw [e1, gAr_uR _ ht4 hx0]⟩)) (gLast hl g.1) hh
  · exact h.elim
end SND
