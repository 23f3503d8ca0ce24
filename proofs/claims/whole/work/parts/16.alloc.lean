/-! CODE THAT MAKES OBJECTS: the shape grows; the next address is the heap's size; what was never written is 0 -/
abbrev gA : Type := gSh × Nat × Nat × Nat
abbrev gK2 : Type := gA → gK
abbrev gP2 : Type := Option Value → gSh → Nat → gM → Prop
abbrev gC2 : Type := Nat → List Value → gSh → Nat → gM → gP2 → Prop
abbrev gT2 : Type := (gSh → gCS) → gC2 → Nat → Nat → (Nat → gK2) → gP2 → gK2 → gK2
def gUS (S : gSh) (n : Nat) (sh : Nat ⊕ (Nat × Nat)) : gSh := fun a => if a = n then some sh else S a
def gZn (n : Nat) (μ : gM) : Prop := ∀ k, μ.1 n k = 0 ∧ μ.2.1 n k = 0 ∧ μ.2.2 n k = 0
def gAok (E : gE) (S : gSh) (n : Nat) : Prop := (∀ a, E.2.2.1 ≤ a → (S a = none ↔ n ≤ a)) ∧ E.2.2.1 ≤ n
def gCy (E : gE) (U : State) : Prop := gCx E U ∧ va_AO "GaugeWall$Box" U ∧ va_AO "GaugeWall$Tell" U
theorem gCy.moved {E : gE} {s U : State} (hW : s.WarmedH U.vm) (h : gCy E s) : gCy E U := ⟨h.1.moved hW, h.2.1.moved hW.alike, h.2.2.moved hW.alike⟩
theorem gCy.same {E : gE} {u U : State} (hvm : u.vm = U.vm) (h : gCy E u) : gCy E U := ⟨h.1.same hvm, h.2.1.moved (hvm ▸ Vm.Alike.refl u.vm), h.2.2.moved (hvm ▸ Vm.Alike.refl u.vm)⟩
theorem gSz {E : gE} {S : gSh} {n : Nat} {μ : gM} {U : State} {H : Heap} (hA : gAok E S n) (hx : gCx E U) (hr : gRep E S μ U H) : H.size = n := by
  obtain ⟨-, -, -, -, hpos, hsz⟩ := hx
  have h1 : H.size ≤ n := hr.2.2.2 n hA.2 ((hA.1 n hA.2).mpr (Nat.le_refl n))
  have h2 : n ≤ H.size := by
    by_cases hb : n = E.2.2.1
    · have h3 := hr.1 (n - 1) (by omega)
      have h4 : n - 1 < E.2.2.2.1.size := by omega
      rw [Array.getElem?_eq_getElem h4] at h3
      have := (Array.getElem?_eq_some_iff.mp h3).1
      omega
    · have hn := hA.2
      cases hs : S (n - 1) with
      | none => have := (hA.1 (n - 1) (by omega)).mp hs; omega
      | some sh =>
        have h3 := hr.2.1 (n - 1) sh hs
        have hlt : n - 1 < H.size := by
          cases sh with
          | inl ci =>
            obtain ⟨-, r, -, cell, q1, -⟩ := h3
            exact (Array.getElem?_eq_some_iff.mp q1).1
          | inr q =>
            obtain ⟨t, k⟩ := q
            unfold gAt at h3
            dsimp only at h3
            split at h3
            · obtain ⟨cell, q1, -⟩ := h3
              exact (Array.getElem?_eq_some_iff.mp q1).1
            · split at h3
              · obtain ⟨cell, q1, -⟩ := h3
                exact (Array.getElem?_eq_some_iff.mp q1).1
              · exact (Array.getElem?_eq_some_iff.mp h3.2.2).1
        omega
  omega
theorem gAok.push {E : gE} {S : gSh} {n : Nat} {sh : Nat ⊕ (Nat × Nat)} (h : gAok E S n) : gAok E (gUS S n sh) (n + 1) := by
  refine ⟨fun a ha => ?_, by have := h.2; omega⟩
  unfold gUS
  by_cases hn : a = n
  · subst hn; simp
  · rw [if_neg hn, h.1 a ha]; omega
theorem gRep.push {E : gE} {S : gSh} {n : Nat} {sh : Nat ⊕ (Nat × Nat)} {μ : gM} {U : State} {H H1 : Heap} (hA : gAok E S n) (hx : gCx E U) (hr : gRep E S μ U H) (hz : H1.size = n + 1) (ho : ∀ q, q < n → H1[q]? = H[q]?) (hat : gAt E U μ H1 n sh) : gRep E (gUS S n sh) μ U H1 := by
  have hsz := gSz hA hx hr
  obtain ⟨-, -, -, -, hpos, -⟩ := hx
  have hlow : ∀ a, a < E.2.2.1 → a ≠ n := fun a h => by have := hA.2; omega
  have hW : E.2.2.2.2.1 < E.2.2.1 := by
    obtain ⟨cell, g1, g2, g3, g4, g5, g6, g7⟩ := hr.2.1 _ _ hr.2.2.1.1
    exact Nat.not_le.mp g7
  have hT : E.2.2.2.2.2 < E.2.2.1 := by
    obtain ⟨cell, g1, g2, g3, g4, g5, g6, g7⟩ := hr.2.1 _ _ hr.2.2.1.2.1
    exact Nat.not_le.mp g7
  refine ⟨fun q hq => ?_, fun a s2 ha => ?_, ⟨?_, ?_, hr.2.2.1.2.2⟩, fun a ha hs => ?_⟩
  · rw [ho q (by have := hA.2; omega)]; exact hr.1 q hq
  · unfold gUS at ha
    by_cases hn : a = n
    · subst hn
      rw [if_pos rfl] at ha
      cases ha
      exact hat
    · rw [if_neg hn] at ha
      have hlt : a < n := by
        by_cases hb : E.2.2.1 ≤ a
        · exact Nat.not_le.mp fun z => by rw [(hA.1 a hb).mpr z] at ha; cases ha
        · have := hA.2; omega
      exact (hr.2.1 a s2 ha).kept (ho a hlt) rfl rfl rfl
  · unfold gUS; rw [if_neg (hlow _ hW)]; exact hr.2.2.1.1
  · unfold gUS; rw [if_neg (hlow _ hT)]; exact hr.2.2.1.2.1
  · unfold gUS at hs
    by_cases hn : a = n
    · rw [if_pos hn] at hs; cases hs
    · rw [if_neg hn] at hs
      have := hr.2.2.2 a ha hs
      omega
/-- lifted: nothing is made -/
def j_l (t : gT) : gT2 := fun C _ mc ms X P K A μ lc st => t A.1 (C A.1) (fun q μ lc st => X q A μ lc st) (fun v μ => A.2.2.1 ≤ mc ∧ A.2.2.2 ≤ ms ∧ P v A.1 A.2.1 μ) (fun μ lc st => K A μ lc st) μ lc st
def j_new (ci N : Nat) : gT2 := fun _ _ mc ms _ _ K A μ lc st => gZn A.2.1 μ ∧ (A.2.2.1 + 1 ≤ mc ∧ A.2.2.2 + N ≤ ms) ∧ K (gUS A.1 A.2.1 (.inl ci), A.2.1 + 1, A.2.2.1 + 1, A.2.2.2 + N) μ lc (.ref A.2.1 :: st)
def j_newa (t : Nat) : gT2 := fun _ _ mc ms _ _ K A μ lc st => match st with
  | .int x :: r => (¬ x < 0 ∧ x.toNatClampNeg ≤ 60000) ∧ gZn A.2.1 μ ∧ (A.2.2.1 + 1 ≤ mc ∧ A.2.2.2 + x.toNatClampNeg ≤ ms) ∧ K (gUS A.1 A.2.1 (.inr (t, x.toNatClampNeg)), A.2.1 + 1, A.2.2.1 + 1, A.2.2.2 + x.toNatClampNeg) μ lc (.ref A.2.1 :: r)
  | _ => False
def j_obj : gT2 := fun _ _ _ _ _ _ K A μ lc st => match st with
  | .ref _ :: r => gCt r ≤ 8 ∧ K A μ lc r
  | _ => False
def j_cI (y mc' ms' : Nat) : gT2 := fun _ C2 mc ms _ _ K A μ lc st => match st with
  | .ref b :: r => gCt r ≤ 8 ∧ (A.2.2.1 + mc' ≤ mc ∧ A.2.2.2 + ms' ≤ ms) ∧ C2 y [.ref b] A.1 A.2.1 μ (fun v S n μ' => v = none ∧ K (S, n, A.2.2.1 + mc', A.2.2.2 + ms') μ' lc r)
  | _ => False
abbrev gMj : Type := gMi × Nat × Nat
def gRm2 (h mc ms : Nat) : Room := { frames := h, cells := mc, slots := ms, locals := 60 * h }
def gPy (E : gE) (as : List Value) (S : gSh) (n : Nat) (μ : gM) : Array Value → State → Prop := fun a U => a = as.toArray ∧ gCy E U ∧ gAok E S n ∧ gRep E S μ U U.heap
def gQy (E : gE) (P : gP2) : Array Value → State → Outcome → State → Prop := fun _ _ o t => ∃ (v : Option Value) (S : gSh) (n : Nat) (μ : gM), o = .returned v ∧ P v S n μ ∧ gAok E S n ∧ gRep E S μ t t.heap
def gCb (l : Launch) (R : Room) (E : gE) (ct : List gMj) (C2 : gC2) : Prop :=
  ∀ (y : Nat) (i : gMj) (as : List Value) (S : gSh) (n : Nat) (μ : gM) (P : gP2), ct[y]? = some i → C2 y as S n μ P → ∃ h, h + 1 ≤ R.frames ∧ 8 + (i.1.2.2.1 + 11) + 60 * h ≤ R.locals ∧ Met l i.1.1 (gWs i.1) (gRm2 h i.2.1 i.2.2) (gPy E as S n μ) (gQy E P) i.2.1 i.2.2 (gFr E)
def gGy (p : Program) (l : Launch) (e : Env) (R : Room) (s : State) (m : MethodId) (args : Array Value) (below : List Frame) (meth : Method) (c : Code) (Q : State → Prop) (E : gE) (nL pc : Nat) (A : gA) (μ : gM) (lc : gLc) (st : List Value) : Prop :=
  gAok E A.1 A.2.1 → A.2.2.1 ≤ R.cells ∧ A.2.2.2 ≤ R.slots → gG p l e R s m args below meth c A.2.2.1 A.2.2.2 Q E A.1 nL pc μ lc st
def gRSy (p : Program) (l : Launch) (e : Env) (R : Room) (s : State) (m : MethodId) (args : Array Value) (below : List Frame) (meth : Method) (c : Code) (mc ms : Nat) (Q : State → Prop) (E : gE) (cc : ByteArray) (rt : Option FieldType) (P : gP2) : Prop :=
  ∀ (A : gA), gAok E A.1 A.2.1 → gRS p l e R s m args below meth c A.2.2.1 A.2.2.2 Q E A.1 cc rt (fun v μ => A.2.2.1 ≤ mc ∧ A.2.2.2 ≤ ms ∧ P v A.1 A.2.1 μ)
def gSny (ct : List gMj) (nm own : String) (cc : ByteArray) (nL : Nat) (rt : Option FieldType) (pc len : Nat) (t : gT2) : Prop :=
  ∀ (p : Program) (l : Launch) (e : Env) (R : Room) (s : State) (m : MethodId) (args : Array Value) (below : List Frame) (meth : Method) (c : Code) (mc ms : Nat) (Q : State → Prop) (E : gE) (C : gSh → gCS) (C2 : gC2) (X : Nat → gK2) (P : gP2),
  gBd p s m args c E own cc nL → gCy E s → meth.name = nm → (∀ S, gCa l R E S mTb (C S)) → gCb l R E ct C2 → (∀ (q : Nat) (A : gA) (μ : gM) (lc : gLc) (st : List Value), X q A μ lc st → gGy p l e R s m args below meth c Q E nL q A μ lc st) →
  gRSy p l e R s m args below meth c mc ms Q E cc rt P → (R.cells = mc ∧ R.slots = ms ∧ 1 ≤ R.frames ∧ 60 ≤ R.locals) → ∀ K : gK2, (∀ (A : gA) (μ : gM) (lc : gLc) (st : List Value), K A μ lc st → gGy p l e R s m args below meth c Q E nL (pc + len) A μ lc st) →
  ∀ (A : gA) (μ : gM) (lc : gLc) (st : List Value), t C C2 mc ms X P K A μ lc st → gGy p l e R s m args below meth c Q E nL pc A μ lc st
theorem gAr_zero {t N n : Nat} {μ : gM} {cA : ClassId} (ht : t < 6) (hz : gZn n μ) : vp_cell cA (gAr t N μ n) = arrV cA N (fun _ => defaultValue (gElt t)) := by
  rcases (show t = 0 ∨ t = 1 ∨ t = 2 ∨ t = 3 ∨ t = 4 ∨ t = 5 by omega) with rfl | rfl | rfl | rfl | rfl | rfl
  · rw [show gAr 0 N μ n = (N, .inl (μ.1 n)) from rfl, vp_cell_i]; congr 1; funext j; rw [(hz j).1]; rfl
  · rw [show gAr 1 N μ n = (N, .inr (.inl (μ.2.1 n))) from rfl, vp_cell_l]; congr 1; funext j; rw [(hz j).2.1]; rfl
  · rw [show gAr 2 N μ n = (N, .inl (μ.1 n)) from rfl, vp_cell_i]; congr 1; funext j; rw [(hz j).1]; rfl
  · rw [show gAr 3 N μ n = (N, .inl (μ.1 n)) from rfl, vp_cell_i]; congr 1; funext j; rw [(hz j).1]; rfl
  · rw [show gAr 4 N μ n = (N, .inr (.inr (.inr (.inr (fun j => gOp (μ.2.2 n j)))))) from rfl, vp_cell_q]; congr 1; funext j; rw [(hz j).2.2]; rfl
  · rw [show gAr 5 N μ n = (N, .inr (.inr (.inr (.inr (fun j => gOp (μ.2.2 n j)))))) from rfl, vp_cell_q]; congr 1; funext j; rw [(hz j).2.2]; rfl
section SNY
variable {ct : List gMj} {nm own : String} {cc : ByteArray} {nL : Nat} {rt : Option FieldType} {pc len : Nat}
theorem y_l {t : gT} (h : gSnd mTb own cc nL rt pc len t) : gSny ct nm own cc nL rt pc len (j_l t) := by
  intro p l e R s m args below meth c mc ms Q E C C2 X P hB hY hnm hC hC2 hX hR hf K hK A μ lc st ht hA hkk
  exact h p l e R s m args below meth c A.2.2.1 A.2.2.2 Q E A.1 (C A.1) (fun q μ lc st => X q A μ lc st) _ hB (hC A.1) (fun q μ lc st hx => hX q A μ lc st hx hA hkk) (hR A hA) ⟨hkk.1, hkk.2, hf.2.2⟩ (fun μ lc st => K A μ lc st) (fun μ lc st hk => hK A μ lc st hk hA hkk) μ lc st ht
theorem y_obj {idx : Nat} (w1 : Cond.methodLink own idx Lib.objectInit ∈ gTab) (w2 : Cond.instanceMethod Lib.objectInit ∈ gTab) (w3 : Cond.code Lib.objectInit ⟨#[0xb1]⟩ 1 none ∈ gTab) (hd : decode cc pc = .ok (.invokespecial idx, 3)) : gSny ct nm own cc nL rt pc 3 j_obj := by
  intro p l e R s m args below meth c mc ms Q E C C2 X P hB hY hnm hC hC2 hX hR hf K hK A μ lc st ht hA hkk
  simp only [j_obj] at ht
  split at ht
  · intro H locs ls hr hl hh
    obtain ⟨hx, hb, hml, hown, hts, hK0⟩ := id hB
    have h8 := ht.1
    rw [gCt_eq] at h8
    have h60 := hf.2.2.2
    exact W.objInit hx hb hown (hts _ w1) (hts _ w2) (hts _ w3) rfl (by rw [hml]; exact hh.1) rfl hd hf.2.2.1 (by show 2 * 0 + _ + 12 ≤ _; omega) (hK A μ lc _ ht.2 hA hkk H locs ls hr hl hh)
  · exact ht.elim
/-- types whose default is what 0 is -/
def gDf (ty : FieldType) : Bool := match ty with
  | .float => false
  | .double => false
  | _ => true
theorem gV_df {ty : FieldType} (h : gDf ty = true) {μ : gM} {n k : Nat} (hz : gZn n μ) : defaultValue ty = gV ty μ n k := by
  obtain ⟨h1, h2, h3⟩ := hz k
  cases ty <;> simp_all [gDf, gV, defaultValue, gRf, gOp, va_rf]
theorem gDf_all {ci k : Nat} {r : vw_C} (h : vwCl[ci]? = some r) (hk : k < r.2.2) : gDf (gTy ci k) = true := by
  have key : ∀ ci, ci < 12 → ∀ k, k < 87 → gDf (gTy ci k) = true := by decide +kernel
  have h12 : ci < 12 := (List.getElem?_eq_some_iff.mp h).1
  have h87 : r.2.2 ≤ 87 := by
    match ci, h with
    | 0, h => cases h; decide
    | 1, h => cases h; decide
    | 2, h => cases h; decide
    | 3, h => cases h; decide
    | 4, h => cases h; decide
    | 5, h => cases h; decide
    | 6, h => cases h; decide
    | 7, h => cases h; decide
    | 8, h => cases h; decide
    | 9, h => cases h; decide
    | 10, h => cases h; decide
    | 11, h => cases h; decide
    | k + 12, h => omega
  exact key ci h12 k (by omega)
theorem y_new (ci N : Nat) {idx : Nat} {r : vw_C} (hc : vwCl[ci]? = some r) (hN : r.2.2 = N) (w1 : Cond.classLink own idx r.1 ∈ gTab) (w2 : Cond.instantiable r.1 r.2.2 ∈ gTab) (w3 : Cond.initialized r.1 ∈ gTab) (hd : decode cc pc = .ok (.new idx, 3)) : gSny ct nm own cc nL rt pc 3 (j_new ci N) := by
  intro p l e R s m args below meth c mc ms Q E C C2 X P hB hY hnm hC hC2 hX hR hf K hK A μ lc st ht hA hkk
  subst hN
  obtain ⟨hz, hlim, hk⟩ := ht
  intro H locs ls hr hl hh
  obtain ⟨hx, hb, hml, hown, hts, hK0⟩ := id hB
  have hKn := hK0.1.1 ci _ hc
  have hsz := gSz hA hK0 hr
  refine W.newcK hx hb hown (hts _ w1) (hts _ w2) (hts _ w3) rfl hd (by omega) (by omega) hKn.2.1 hsz fun H1 kC hkC e1 z1 o1 => ?_
  refine hK _ μ lc _ hk hA.push ⟨by show A.2.2.1 + 1 ≤ R.cells; omega, by show A.2.2.2 + r.2.2 ≤ R.slots; omega⟩ H1 locs ls (hr.push hA hK0 z1 o1 ⟨hA.2, r, hc, ?_⟩) hl hh
  exact (u_born (gTy ci) hts (gCls hc).1 hKn hkC e1 (gCls hc).2.1).to (fun k hk => gV_df (gDf_all hc hk) hz)
theorem gFind {E : gE} {U : State} {t : Nat} (hK : va_K E.1 vwCl (gTys E) U) (ht : t < 6) : U.vm.findClass ("[" ++ (gElt t).toString) = some (E.2.1 t) := by
  have h := (hK.2 t _ (gTys_get ht)).2
  rcases (show t = 0 ∨ t = 1 ∨ t = 2 ∨ t = 3 ∨ t = 4 ∨ t = 5 by omega) with rfl | rfl | rfl | rfl | rfl | rfl
  · exact h
  · exact h
  · exact h
  · exact h
  · exact h.choose_spec.choose_spec.2.2.2
  · exact h.choose_spec.choose_spec.2.2.2
theorem y_newa (t : Nat) {at0 : ArrayType} (ht4 : t < 4) (hty : newarray.typeOf at0 = gElt t) (w1 : Cond.arrayClass (newarray.typeOf at0) ∈ gTab) (hd : decode cc pc = .ok (.newarray at0, 2)) : gSny ct nm own cc nL rt pc 2 (j_newa t) := by
  intro p l e R s m args below meth c mc ms Q E C C2 X P hB hY hnm hC hC2 hX hR hf K hK A μ lc st ht hA hkk
  simp only [j_newa] at ht
  split at ht
  · rename_i x r
    obtain ⟨⟨hx0, hx1⟩, hz, hlim, hk⟩ := ht
    intro H locs ls hr hl hh
    obtain ⟨hx, hb, hml, hown, hts, hK0⟩ := id hB
    have hsz := gSz hA hK0 hr
    have hbytes : x.toNatClampNeg * componentBytes (newarray.typeOf at0) ≤ 536870912 := by
      have : componentBytes (newarray.typeOf at0) ≤ 8 := by
        rw [hty]
        rcases (show t = 0 ∨ t = 1 ∨ t = 2 ∨ t = 3 by omega) with rfl | rfl | rfl | rfl <;> decide
      have := Nat.mul_le_mul hx1 this
      omega
    refine va_newaK hx hb (hts _ w1) rfl hd rfl hx0 rfl hbytes (by omega) (by omega) hsz fun H1 cA e1 z1 o1 hAr hNm => ?_
    have hcA : cA = E.2.1 t := by
      have h1 := gFind hK0.1 (t := t) (by omega)
      rw [← hty, hNm] at h1
      exact Option.some.inj h1
    subst hcA
    refine hK _ μ lc _ hk hA.push ⟨by show A.2.2.1 + 1 ≤ R.cells; omega, by show A.2.2.2 + x.toNatClampNeg ≤ R.slots; omega⟩ H1 locs ls (hr.push hA hK0 z1 o1 (gAt.to (by omega) ⟨hA.2, ?_⟩)) hl hh
    rw [e1, hty, gAr_zero (by omega) hz]
  · exact ht.elim
theorem y_anew (t : Nat) {idx : Nat} {C0 : String} (ht4 : (t = 4 ∧ C0 = "GaugeWall$Box") ∨ (t = 5 ∧ C0 = "GaugeWall$Tell")) (w1 : Cond.classLink own idx C0 ∈ gTab) (hd : decode cc pc = .ok (.anewarray idx, 3)) : gSny ct nm own cc nL rt pc 3 (j_newa t) := by
  intro p l e R s m args below meth c mc ms Q E C C2 X P hB hY hnm hC hC2 hX hR hf K hK A μ lc st ht hA hkk
  simp only [j_newa] at ht
  split at ht
  · rename_i x r
    obtain ⟨⟨hx0, hx1⟩, hz, hlim, hk⟩ := ht
    intro H locs ls hr hl hh
    obtain ⟨hx, hb, hml, hown, hts, hK0⟩ := id hB
    have hsz := gSz hA hK0 hr
    have hov : va_AO C0 s := by
      rcases ht4 with ⟨-, rfl⟩ | ⟨-, rfl⟩
      · exact hY.2.1
      · exact hY.2.2
    have hel : gElt t = .object C0 := by
      rcases ht4 with ⟨rfl, rfl⟩ | ⟨rfl, rfl⟩ <;> rfl
    refine W.anew hx hb hown (hts _ w1) (va_AO.use hov) rfl hd rfl hx0 (by omega) (by omega) (by omega) fun cA kA comp f1 f2 f3 f4 => ?_
    have hcA : cA = E.2.1 t := by
      have h1 := gFind hK0.1 (t := t) (by omega)
      rw [hel, f1] at h1
      exact Option.some.inj h1
    subst hcA
    rw [hsz]
    refine hK _ μ lc _ hk hA.push ⟨by show A.2.2.1 + 1 ≤ R.cells; omega, by show A.2.2.2 + x.toNatClampNeg ≤ R.slots; omega⟩ _ locs ls (hr.push hA hK0 (by rw [Array.size_push, hsz]) (fun q hq => by rw [Array.getElem?_push, if_neg (by omega)]) (gAt.to (by omega) ⟨hA.2, ?_⟩)) hl hh
    rw [gAr_zero (by omega) hz, hel, show defaultValue (.object C0) = .null from rfl, ← arrV_new, ← hsz, Array.getElem?_push_size]
  · exact ht.elim
end SNY
