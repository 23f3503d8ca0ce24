theorem gTys_get {E : gE} {t : Nat} (h : t < 6) : (gTys E)[t]? = some (E.2.1 t, gElt t) := by
  rcases (show t = 0 ∨ t = 1 ∨ t = 2 ∨ t = 3 ∨ t = 4 ∨ t = 5 by omega) with rfl | rfl | rfl | rfl | rfl | rfl <;> rfl
theorem gAt.arr {E : gE} {U : State} {μ : gM} {H : Heap} {a t n : Nat} (ht : t < 6) (h : gAt E U μ H a (.inr (t, n))) : E.2.2.1 ≤ a ∧ H[a]? = some (vp_cell (E.2.1 t) (gAr t n μ a)) := by
  unfold gAt at h
  dsimp only at h
  rw [if_neg (by omega), if_neg (by omega)] at h
  exact h.2
theorem gAt.to {E : gE} {U : State} {μ : gM} {H : Heap} {a t n : Nat} (ht : t < 6) (h : E.2.2.1 ≤ a ∧ H[a]? = some (vp_cell (E.2.1 t) (gAr t n μ a))) : gAt E U μ H a (.inr (t, n)) := by
  unfold gAt
  dsimp only
  rw [if_neg (by omega), if_neg (by omega)]
  exact ⟨ht, h⟩
theorem gAt.one {E : gE} {U : State} {μ : gM} {H : Heap} {a t n : Nat} (ht : t < 6) (h : gAt E U μ H a (.inr (t, n))) : va_P E.1 vwCl [(a, .inl (E.2.1 t, gAr t n μ a))] H := by
  intro i q hq
  match i, hq with
  | 0, hq => cases hq; exact (h.arr ht).2
  | i + 1, hq => simp at hq
theorem gLast {E : gE} {locs : List Loc} {a k : Nat} (hl : ∀ q ∈ locs, gFr E q.base) (ha : E.2.2.1 ≤ a) : ∀ q ∈ locs ++ [(⟨a, k⟩ : Loc)], gFr E q.base := by
  intro q hq
  rcases List.mem_append.mp hq with h | h
  · exact hl q h
  · rw [List.mem_singleton.mp h]
    exact ha
def i_gfI (ci k : Nat) : gT := fun S _ _ _ K μ lc st => match st with
  | .ref a :: r => S a = some (.inl ci) ∧ K μ lc (.int (μ.1 a k) :: r)
  | _ => False
def i_gfL (ci k : Nat) : gT := fun S _ _ _ K μ lc st => match st with
  | .ref a :: r => S a = some (.inl ci) ∧ K μ lc (.long (μ.2.1 a k) :: r)
  | _ => False
def i_gfR (ci k : Nat) : gT := fun S _ _ _ K μ lc st => match st with
  | .ref a :: r => S a = some (.inl ci) ∧ μ.2.2 a k ≠ 0 ∧ K μ lc (.ref (μ.2.2 a k) :: r)
  | _ => False
section SND
variable {mt : List gMi} {own : String} {cc : ByteArray} {nL : Nat} {rt : Option FieldType} {pc : Nat}
theorem s_gfI (ci k : Nat) {idx : Nat} {r : vw_C} (hc : vwCl[ci]? = some r) (hk : k < r.2.2) (hv : ∀ μ a, gV (gTy ci k) μ a k = .int (μ.1 a k)) (hw : gLk own idx k r) (hd : decode cc pc = .ok (.getfield idx, 3)) : gSnd mt own cc nL rt pc 3 (i_gfI ci k) := by
  intro p l e R s m args below meth c cells slots Q E S C X P hB hC hX hR hf K hK μ lc st h
  simp only [i_gfI] at h
  split at h
  · exact fun H locs ls hr hl hh => g_get hB hc hk hw hd hr h.1 (by rw [hv]; exact hK _ _ _ h.2 H locs ls hr hl hh)
  · exact h.elim
theorem s_gfL (ci k : Nat) {idx : Nat} {r : vw_C} (hc : vwCl[ci]? = some r) (hk : k < r.2.2) (hv : ∀ μ a, gV (gTy ci k) μ a k = .long (μ.2.1 a k)) (hw : gLk own idx k r) (hd : decode cc pc = .ok (.getfield idx, 3)) : gSnd mt own cc nL rt pc 3 (i_gfL ci k) := by
  intro p l e R s m args below meth c cells slots Q E S C X P hB hC hX hR hf K hK μ lc st h
  simp only [i_gfL] at h
  split at h
  · exact fun H locs ls hr hl hh => g_get hB hc hk hw hd hr h.1 (by rw [hv]; exact hK _ _ _ h.2 H locs ls hr hl hh)
  · exact h.elim
theorem s_gfR (ci k : Nat) {idx : Nat} {r : vw_C} (hc : vwCl[ci]? = some r) (hk : k < r.2.2) (hv : ∀ μ a, gV (gTy ci k) μ a k = gRf (μ.2.2 a k)) (hw : gLk own idx k r) (hd : decode cc pc = .ok (.getfield idx, 3)) : gSnd mt own cc nL rt pc 3 (i_gfR ci k) := by
  intro p l e R s m args below meth c cells slots Q E S C X P hB hC hX hR hf K hK μ lc st h
  simp only [i_gfR] at h
  split at h
  · exact fun H locs ls hr hl hh => g_get hB hc hk hw hd hr h.1 (by rw [hv, gRf_pos h.2.1]; exact hK _ _ _ h.2.2 H locs ls hr hl hh)
  · exact h.elim
end SND
def i_pfI (ci k : Nat) : gT := fun S _ _ _ K μ lc st => match st with
  | .int x :: .ref a :: r => S a = some (.inl ci) ∧ K (gU μ.1 a k x, μ.2) lc r
  | _ => False
def i_pfZ (ci k : Nat) : gT := fun S _ _ _ K μ lc st => match st with
  | .int x :: .ref a :: r => S a = some (.inl ci) ∧ (x = 0 ∨ x = 1) ∧ K (gU μ.1 a k x, μ.2) lc r
  | _ => False
def i_pfL (ci k : Nat) : gT := fun S _ _ _ K μ lc st => match st with
  | .long x :: .ref a :: r => S a = some (.inl ci) ∧ K (μ.1, gU μ.2.1 a k x, μ.2.2) lc r
  | _ => False
def i_pfR (ci k : Nat) : gT := fun S _ _ _ K μ lc st => match st with
  | .ref x :: .ref a :: r => S a = some (.inl ci) ∧ x ≠ 0 ∧ K (μ.1, μ.2.1, gU μ.2.2 a k x) lc r
  | _ => False
/-- which of the three a type is -/
def gIs (ty : FieldType) (n : Nat) : Bool := match ty with
  | .long => n == 1
  | .object _ => n == 2
  | .array _ => n == 2
  | _ => n == 0
theorem gV_uI {ty ty' : FieldType} {μ : gM} {a j k : Nat} {x : Int32} (hk : gIs ty' 0 = true) (hj : j = k → ty = ty') : gV ty (gU μ.1 a k x, μ.2) a j = if j = k then .int x else gV ty μ a j := by
  by_cases h : j = k
  · subst h
    rw [if_pos rfl, hj rfl]
    unfold gIs at hk
    unfold gV
    split <;> simp_all [gU]
  · rw [if_neg h]
    unfold gV
    split <;> simp [gU, h]
theorem gV_uL {ty ty' : FieldType} {μ : gM} {a j k : Nat} {x : Int64} (hk : gIs ty' 1 = true) (hj : j = k → ty = ty') : gV ty (μ.1, gU μ.2.1 a k x, μ.2.2) a j = if j = k then .long x else gV ty μ a j := by
  by_cases h : j = k
  · subst h
    rw [if_pos rfl, hj rfl]
    unfold gIs at hk
    unfold gV
    split <;> simp_all [gU]
  · rw [if_neg h]
    unfold gV
    split <;> simp [gU, h]
theorem gV_uR {ty ty' : FieldType} {μ : gM} {a j k : Nat} {x : Nat} (hk : gIs ty' 2 = true) (hx : x ≠ 0) (hj : j = k → ty = ty') : gV ty (μ.1, μ.2.1, gU μ.2.2 a k x) a j = if j = k then .ref x else gV ty μ a j := by
  by_cases h : j = k
  · subst h
    rw [if_pos rfl, hj rfl]
    unfold gIs at hk
    unfold gV
    split <;> simp_all [gU, gRf, gOp, va_rf]
  · rw [if_neg h]
    unfold gV
    split <;> simp [gU, h]
section SND
variable {mt : List gMi} {own : String} {cc : ByteArray} {nL : Nat} {rt : Option FieldType} {pc : Nat}
theorem s_pfI (ci k : Nat) {idx : Nat} {r : vw_C} (hc : vwCl[ci]? = some r) (hk : k < r.2.2) (hfin : (r.2.1 k).2.2.2 = false) (ht : gTy ci k = .int) (hw : gLk own idx k r) (hd : decode cc pc = .ok (.putfield idx, 3)) : gSnd mt own cc nL rt pc 3 (i_pfI ci k) := by
  intro p l e R s m args below meth c cells slots Q E S C X P hB hC hX hR hf K hK μ lc st h
  simp only [i_pfI] at h
  split at h
  · rename_i x a r9
    exact fun H locs ls hr hl hh => g_put (μ' := (gU μ.1 a k x, μ.2)) hB hc hk hfin hw hd hr hl h.1 (by rw [ht]; rfl) (by rw [ht]; rfl) (fun b hb => ⟨gU_o hb, rfl, rfl⟩) (fun j _ => gV_uI (ty' := gTy ci k) (by rw [ht]; rfl) (fun e => by rw [e])) (fun H1 locs1 hr1 hl1 => hK _ _ _ h.2 H1 locs1 ls hr1 hl1 hh)
  · exact h.elim
theorem s_pfZ (ci k : Nat) {idx : Nat} {r : vw_C} (hc : vwCl[ci]? = some r) (hk : k < r.2.2) (hfin : (r.2.1 k).2.2.2 = false) (ht : gTy ci k = .boolean) (hw : gLk own idx k r) (hd : decode cc pc = .ok (.putfield idx, 3)) : gSnd mt own cc nL rt pc 3 (i_pfZ ci k) := by
  intro p l e R s m args below meth c cells slots Q E S C X P hB hC hX hR hf K hK μ lc st h
  simp only [i_pfZ] at h
  split at h
  · rename_i x a r9
    exact fun H locs ls hr hl hh => g_put (μ' := (gU μ.1 a k x, μ.2)) hB hc hk hfin hw hd hr hl h.1 (by rw [ht]; exact g_nz h.2.1) (by rw [ht]; rcases h.2.1 with rfl | rfl <;> rfl) (fun b hb => ⟨gU_o hb, rfl, rfl⟩) (fun j _ => gV_uI (ty' := gTy ci k) (by rw [ht]; rfl) (fun e => by rw [e])) (fun H1 locs1 hr1 hl1 => hK _ _ _ h.2.2 H1 locs1 ls hr1 hl1 hh)
  · exact h.elim
theorem s_pfL (ci k : Nat) {idx : Nat} {r : vw_C} (hc : vwCl[ci]? = some r) (hk : k < r.2.2) (hfin : (r.2.1 k).2.2.2 = false) (ht : gTy ci k = .long) (hw : gLk own idx k r) (hd : decode cc pc = .ok (.putfield idx, 3)) : gSnd mt own cc nL rt pc 3 (i_pfL ci k) := by
  intro p l e R s m args below meth c cells slots Q E S C X P hB hC hX hR hf K hK μ lc st h
  simp only [i_pfL] at h
  split at h
  · rename_i x a r9
    exact fun H locs ls hr hl hh => g_put (μ' := (μ.1, gU μ.2.1 a k x, μ.2.2)) hB hc hk hfin hw hd hr hl h.1 (by rw [ht]; rfl) (by rw [ht]; rfl) (fun b hb => ⟨rfl, gU_o hb, rfl⟩) (fun j _ => gV_uL (ty' := gTy ci k) (by rw [ht]; rfl) (fun e => by rw [e])) (fun H1 locs1 hr1 hl1 => hK _ _ _ h.2 H1 locs1 ls hr1 hl1 hh)
  · exact h.elim
theorem s_pfR (ci k : Nat) {idx : Nat} {r : vw_C} (hc : vwCl[ci]? = some r) (hk : k < r.2.2) (hfin : (r.2.1 k).2.2.2 = false) (ht : gIs (gTy ci k) 2 = true) (hn : ∀ x, narrow (gTy ci k) (.ref x) = .ref x) (hfi : ∀ x, fits (gTy ci k) (.ref x) = true) (hw : gLk own idx k r) (hd : decode cc pc = .ok (.putfield idx, 3)) : gSnd mt own cc nL rt pc 3 (i_pfR ci k) := by
  intro p l e R s m args below meth c cells slots Q E S C X P hB hC hX hR hf K hK μ lc st h
  simp only [i_pfR] at h
  split at h
  · rename_i x a r9
    exact fun H locs ls hr hl hh => g_put (μ' := (μ.1, μ.2.1, gU μ.2.2 a k x)) hB hc hk hfin hw hd hr hl h.1 (hn _) (hfi _) (fun b hb => ⟨rfl, rfl, gU_o hb⟩) (fun j _ => gV_uR (ty' := gTy ci k) ht h.2.1 (fun e => by rw [e])) (fun H1 locs1 hr1 hl1 => hK _ _ _ h.2.2 H1 locs1 ls hr1 hl1 hh)
  · exact h.elim
end SND
