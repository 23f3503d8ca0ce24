/-! THE ABSTRACT MACHINE: a memory of three functions (ints, longs, references; reference 0 is null), a fixed shape of the heap,
    instructions as transformers of what is to be reached, methods as least sets closed under their instructions -/
abbrev gM : Type := (Nat → Nat → Int32) × (Nat → Nat → Int64) × (Nat → Nat → Nat)
abbrev gSh : Type := Nat → Option (Nat ⊕ (Nat × Nat))
abbrev gLc : Type := List (Option Value)
abbrev gP : Type := Option Value → gM → Prop
abbrev gK : Type := gM → gLc → List Value → Prop
abbrev gCS : Type := Nat → List Value → gM → gP → Prop
abbrev gT : Type := gSh → gCS → (Nat → gK) → gP → gK → gK
abbrev gE : Type := va_G × (Nat → ClassId) × Nat × Heap × Nat × Nat
/-- a reference, 0 for null -/
def gOp (r : Nat) : Option Nat := if r = 0 then none else some r
def gRf (r : Nat) : Value := va_rf (gOp r)
theorem gRf_pos {r : Nat} (h : r ≠ 0) : gRf r = .ref r := by simp [gRf, gOp, h, va_rf]
def gTy (ci k : Nat) : FieldType := match ci with
  | 0 => tyX0 k
  | 1 => tyX1 k
  | 2 => tyX2 k
  | 3 => tyX3 k
  | 4 => tyX4 k
  | 5 => tyX5 k
  | 6 => tyX6 k
  | 7 => tyX7 k
  | 8 => tyX8 k
  | 9 => tyX9 k
  | 10 => tyX10 k
  | _ => tyX11 k
def gV (ty : FieldType) (μ : gM) (a k : Nat) : Value := match ty with
  | .long => .long (μ.2.1 a k)
  | .object _ => gRf (μ.2.2 a k)
  | .array _ => gRf (μ.2.2 a k)
  | _ => .int (μ.1 a k)
/-- what an array's cell holds, by the kind of its elements: 0 int, 1 long, 2 byte, 3 boolean, 4 Box, 5 Tell -/
def gAr (t n : Nat) (μ : gM) (a : Nat) : vp_A := if t = 1 then (n, .inr (.inl (μ.2.1 a))) else if t < 4 then (n, .inl (μ.1 a)) else (n, .inr (.inr (.inr (.inr (fun j => gOp (μ.2.2 a j))))))
def gElt (t : Nat) : FieldType := match t with
  | 0 => .int
  | 1 => .long
  | 2 => .byte
  | 3 => .boolean
  | 4 => .object "GaugeWall$Box"
  | _ => .object "GaugeWall$Tell"
abbrev gTys (E : gE) : List (ClassId × FieldType) := [(E.2.1 0, .int), (E.2.1 1, .long), (E.2.1 2, .byte), (E.2.1 3, .boolean), (E.2.1 4, .object "GaugeWall$Box"), (E.2.1 5, .object "GaugeWall$Tell")]
/-- may be written: from the law's start on -/
def gFr (E : gE) : Nat → Prop := fun q => E.2.2.1 ≤ q
def gCx (E : gE) (U : State) : Prop := va_K E.1 vwCl (gTys E) U ∧ (∀ w ∈ gNest, va_Nw w U) ∧ va_Z "GaugeWall$Tokens" "WORDS" "[J" (.ref E.2.2.2.2.1) (gFr E) U E.2.2.2.1 ∧ va_Z "GaugeWall$Tokens" "WORD_KINDS" "[I" (.ref E.2.2.2.2.2) (gFr E) U E.2.2.2.1 ∧ 0 < E.2.2.1 ∧ E.2.2.2.1.size = E.2.2.1
/-- the cell at a is of this shape, with the memory's values; kinds 10 and 11: arrays that nobody writes -/
def gAt (E : gE) (U : State) (μ : gM) (H : Heap) (a : Nat) (sh : Nat ⊕ (Nat × Nat)) : Prop := match sh with
  | .inl ci => E.2.2.1 ≤ a ∧ ∃ r : vw_C, vwCl[ci]? = some r ∧ t_OB a (E.1.1 ci) r.2.2 (E.1.2 ci) H (fun k => gV (gTy ci k) μ a k)
  | .inr (t, n) => if t = 10 then va_T .int a n (fun j => .int (μ.1 a j)) (gFr E) U H else if t = 11 then va_T .long a n (fun j => .long (μ.2.1 a j)) (gFr E) U H else t < 6 ∧ E.2.2.1 ≤ a ∧ H[a]? = some (vp_cell (E.2.1 t) (gAr t n μ a))
/-- the two tables of words, as the class has them -/
def gWords : Nat → Int64 := fun j => match j with
  | 0 => 0x6c6574
  | 1 => 0x626f78
  | 2 => 0x776f727468
  | 3 => 0x6672657368
  | 4 => 0x73697a65
  | 5 => 0x6d696e
  | _ => 0x6d6178
def gKinds : Nat → Int32 := fun j => match j with
  | 0 => 4
  | 1 => 5
  | 2 => 6
  | 3 => 7
  | 4 => 8
  | 5 => 9
  | _ => 10
def gStc (tW tK : Nat) (S : gSh) (μ : gM) : Prop := S tW = some (.inr (11, 7)) ∧ S tK = some (.inr (10, 7)) ∧ (∀ j, j < 7 → μ.2.1 tW j = gWords j) ∧ (∀ j, j < 7 → μ.1 tK j = gKinds j)
def gRep (E : gE) (S : gSh) (μ : gM) (U : State) (H : Heap) : Prop := (∀ q, q < E.2.2.1 → H[q]? = E.2.2.2.1[q]?) ∧ (∀ (a : Nat) (sh : Nat ⊕ (Nat × Nat)), S a = some sh → gAt E U μ H a sh) ∧ gStc E.2.2.2.2.1 E.2.2.2.2.2 S μ ∧ ∀ a, E.2.2.1 ≤ a → S a = none → H.size ≤ a
/-- locals by place -/
def gGet : gLc → Nat → Option Value
  | [], _ => none
  | x :: _, 0 => x
  | _ :: r, i + 1 => gGet r i
def gCl : Option Value → Option Value
  | some (.long _) => none
  | some (.double _) => none
  | x => x
def gS1 : gLc → Nat → Value → gLc
  | [], _, _ => []
  | _ :: r, 0, v => some v :: r
  | x :: r, 1, v => gCl x :: gS1 r 0 v
  | x :: r, i + 2, v => x :: gS1 r (i + 1) v
def gNo : gLc → gLc
  | [] => []
  | _ :: r => none :: r
def gS2 : gLc → Nat → Value → gLc
  | [], _, _ => []
  | _ :: r, 0, v => some v :: gNo r
  | x :: r, 1, v => gCl x :: gS2 r 0 v
  | x :: r, i + 2, v => x :: gS2 r (i + 1) v
def gHas (ls : Array Slot) (nL : Nat) (l : gLc) : Prop := ls.size = nL ∧ lv_wf ls ∧ ∀ (i : Nat) (v : Value), gGet l i = some v → ls[i]? = some (.val v)
def gPr : Nat → gLc → List (Nat × Value)
  | _, [] => []
  | i, none :: r => gPr (i + 1) r
  | i, some v :: r => (i, v) :: gPr (i + 1) r
theorem gPr_mem : ∀ (l : gLc) (k j : Nat) (v : Value), (j, v) ∈ gPr k l ↔ k ≤ j ∧ gGet l (j - k) = some v
  | [], k, j, v => by simp [gPr, gGet]
  | none :: r, k, j, v => by
    rw [gPr, gPr_mem r (k + 1) j v]
    constructor
    · rintro ⟨h1, h2⟩
      refine ⟨by omega, ?_⟩
      rw [show j - k = (j - (k + 1)) + 1 by omega]
      exact h2
    · rintro ⟨h1, h2⟩
      by_cases hj : j = k
      · subst hj
        simp [gGet] at h2
      · refine ⟨by omega, ?_⟩
        rw [show j - k = (j - (k + 1)) + 1 by omega] at h2
        exact h2
  | some w :: r, k, j, v => by
    rw [gPr, List.mem_cons, gPr_mem r (k + 1) j v]
    constructor
    · rintro (h | ⟨h1, h2⟩)
      · cases h
        exact ⟨Nat.le_refl _, by simp [gGet]⟩
      · refine ⟨by omega, ?_⟩
        rw [show j - k = (j - (k + 1)) + 1 by omega]
        exact h2
    · rintro ⟨h1, h2⟩
      by_cases hj : j = k
      · subst hj
        simp [gGet] at h2
        left
        rw [h2]
      · right
        refine ⟨by omega, ?_⟩
        rw [show j - k = (j - (k + 1)) + 1 by omega] at h2
        exact h2
theorem gHas.lv {ls : Array Slot} {nL : Nat} {l : gLc} (h : gHas ls nL l) : lv_has ls nL (gPr 0 l) := ⟨h.1, h.2.1, fun q hq => h.2.2 q.1 q.2 (by have := (gPr_mem l 0 q.1 q.2).mp hq; simpa using this.2)⟩
theorem gCl_some {x : Option Value} {v : Value} (h : gCl x = some v) : x = some v ∧ v.category ≠ 2 := by
  cases x with
  | none => simp [gCl] at h
  | some w => cases w <;> simp [gCl] at h <;> subst h <;> simp [Value.category]
theorem gS1_get : ∀ (l : gLc) (i : Nat) (v : Value) (j : Nat) (w : Value), gGet (gS1 l i v) j = some w → (j = i ∧ w = v) ∨ (j ≠ i ∧ gGet l j = some w ∧ ¬ (j + 1 = i ∧ w.category = 2))
  | [], i, v, j, w, h => by simp [gS1, gGet] at h
  | x :: r, 0, v, j, w, h => by
    cases j with
    | zero => simp [gS1, gGet] at h; exact Or.inl ⟨rfl, h.symm⟩
    | succ j => simp [gS1, gGet] at h; exact Or.inr ⟨by omega, h, by omega⟩
  | x :: r, 1, v, j, w, h => by
    cases j with
    | zero => simp [gS1, gGet] at h; obtain ⟨h1, h2⟩ := gCl_some h; exact Or.inr ⟨by omega, h1, fun q => h2 q.2⟩
    | succ j =>
      simp only [gS1, gGet] at h
      rcases gS1_get r 0 v j w h with ⟨a, b⟩ | ⟨a, b, c⟩
      · exact Or.inl ⟨by omega, b⟩
      · exact Or.inr ⟨by omega, b, by omega⟩
  | x :: r, i + 2, v, j, w, h => by
    cases j with
    | zero => simp [gS1, gGet] at h; exact Or.inr ⟨by omega, h, by omega⟩
    | succ j =>
      simp only [gS1, gGet] at h
      rcases gS1_get r (i + 1) v j w h with ⟨a, b⟩ | ⟨a, b, c⟩
      · exact Or.inl ⟨by omega, b⟩
      · exact Or.inr ⟨by omega, b, fun q => c ⟨by omega, q.2⟩⟩
theorem gS2_get : ∀ (l : gLc) (i : Nat) (v : Value) (j : Nat) (w : Value), gGet (gS2 l i v) j = some w → (j = i ∧ w = v) ∨ (j ≠ i ∧ j ≠ i + 1 ∧ gGet l j = some w ∧ ¬ (j + 1 = i ∧ w.category = 2))
  | [], i, v, j, w, h => by simp [gS2, gGet] at h
  | x :: r, 0, v, j, w, h => by
    cases j with
    | zero => simp [gS2, gGet] at h; exact Or.inl ⟨rfl, h.symm⟩
    | succ j =>
      simp only [gS2, gGet] at h
      cases r with
      | nil => simp [gNo, gGet] at h
      | cons y r =>
        cases j with
        | zero => simp [gNo, gGet] at h
        | succ j => simp only [gNo, gGet] at h; exact Or.inr ⟨by omega, by omega, h, by omega⟩
  | x :: r, 1, v, j, w, h => by
    cases j with
    | zero => simp [gS2, gGet] at h; obtain ⟨h1, h2⟩ := gCl_some h; exact Or.inr ⟨by omega, by omega, h1, fun q => h2 q.2⟩
    | succ j =>
      simp only [gS2, gGet] at h
      rcases gS2_get r 0 v j w h with ⟨a, b⟩ | ⟨a, a2, b, c⟩
      · exact Or.inl ⟨by omega, b⟩
      · exact Or.inr ⟨by omega, by omega, b, by omega⟩
  | x :: r, i + 2, v, j, w, h => by
    cases j with
    | zero => simp [gS2, gGet] at h; exact Or.inr ⟨by omega, by omega, h, by omega⟩
    | succ j =>
      simp only [gS2, gGet] at h
      rcases gS2_get r (i + 1) v j w h with ⟨a, b⟩ | ⟨a, a2, b, c⟩
      · exact Or.inl ⟨by omega, b⟩
      · exact Or.inr ⟨by omega, by omega, b, fun q => c ⟨by omega, q.2⟩⟩
theorem gHas.st1 {ls' : Array Slot} {nL i : Nat} {l : gLc} {v : Value} (h : lv_has ls' nL ((i, v) :: (gPr 0 l).filter (fun q => !(q.1 == i) && !(q.1 + 1 == i && q.2.category == 2)))) : gHas ls' nL (gS1 l i v) := by
  refine ⟨h.1, h.2.1, fun j w hj => ?_⟩
  rcases gS1_get l i v j w hj with ⟨a, b⟩ | ⟨a, b, c⟩
  · subst a; subst b
    exact h.2.2 (j, w) List.mem_cons_self
  · refine h.2.2 (j, w) (List.mem_cons_of_mem _ (List.mem_filter.mpr ⟨(gPr_mem l 0 j w).mpr ⟨Nat.zero_le _, by simpa using b⟩, ?_⟩))
    simp only [Bool.and_eq_true, Bool.not_eq_true', beq_eq_false_iff_ne, ne_eq, Bool.and_eq_false_iff]
    exact ⟨a, by by_cases q : j + 1 = i; exact Or.inr (fun z => c ⟨q, z⟩); exact Or.inl q⟩
theorem gHas.st2 {ls' : Array Slot} {nL i : Nat} {l : gLc} {v : Value} (h : lv_has ls' nL ((i, v) :: (gPr 0 l).filter (fun q => !(q.1 == i) && (!(q.1 == i + 1) && !(q.1 + 1 == i && q.2.category == 2))))) : gHas ls' nL (gS2 l i v) := by
  refine ⟨h.1, h.2.1, fun j w hj => ?_⟩
  rcases gS2_get l i v j w hj with ⟨a, b⟩ | ⟨a, a2, b, c⟩
  · subst a; subst b
    exact h.2.2 (j, w) List.mem_cons_self
  · refine h.2.2 (j, w) (List.mem_cons_of_mem _ (List.mem_filter.mpr ⟨(gPr_mem l 0 j w).mpr ⟨Nat.zero_le _, by simpa using b⟩, ?_⟩))
    simp only [Bool.and_eq_true, Bool.not_eq_true', beq_eq_false_iff_ne, ne_eq, Bool.and_eq_false_iff]
    exact ⟨a, a2, by by_cases q : j + 1 = i; exact Or.inr (fun z => c ⟨q, z⟩); exact Or.inl q⟩
/-- the locals at a method's entry -/
def gArgs : List Value → gLc
  | [] => []
  | .long x :: r => some (.long x) :: none :: gArgs r
  | .double x :: r => some (.double x) :: none :: gArgs r
  | v :: r => some v :: gArgs r
def gPad : Nat → gLc → gLc
  | 0, l => l
  | n + 1, [] => none :: gPad n []
  | n + 1, x :: r => x :: gPad n r
theorem gPad_get : ∀ (n : Nat) (l : gLc) (j : Nat) (w : Value), gGet (gPad n l) j = some w → gGet l j = some w
  | 0, l, j, w, h => h
  | n + 1, [], j, w, h => by
    cases j with
    | zero => simp [gPad, gGet] at h
    | succ j => simp only [gPad, gGet] at h; have := gPad_get n [] j w h; simp [gGet] at this
  | n + 1, x :: r, j, w, h => by
    cases j with
    | zero => simpa [gPad, gGet] using h
    | succ j => simp only [gPad, gGet] at h ⊢; exact gPad_get n r j w h
theorem gArgs_mem : ∀ (vs : List Value) (k j : Nat) (w : Value), gGet (gArgs vs) j = some w → (k + j, w) ∈ lv_args k vs
  | [], k, j, w, h => by simp [gArgs, gGet] at h
  | v :: r, k, j, w, h => by
    have two : v.category = 2 → gArgs (v :: r) = some v :: none :: gArgs r := by intro hc; cases v <;> simp_all [gArgs, Value.category]
    have one : ¬ v.category = 2 → gArgs (v :: r) = some v :: gArgs r := by intro hc; cases v <;> simp_all [gArgs, Value.category]
    by_cases hc : v.category = 2
    · rw [two hc] at h
      match j, h with
      | 0, h => simp [gGet] at h; subst h; simp [lv_args, hc]
      | 1, h => simp [gGet] at h
      | j + 2, h =>
        simp only [gGet] at h
        have := gArgs_mem r (k + 2) j w h
        refine List.mem_cons_of_mem _ ?_
        rw [if_pos hc, show k + (j + 2) = k + 2 + j by omega]
        exact this
    · rw [one hc] at h
      match j, h with
      | 0, h => simp [gGet] at h; subst h; simp [lv_args, hc]
      | j + 1, h =>
        simp only [gGet] at h
        have := gArgs_mem r (k + 1) j w h
        refine List.mem_cons_of_mem _ ?_
        rw [if_neg hc, show k + (j + 1) = k + 1 + j by omega]
        exact this
def gEnt (nL : Nat) (vs : List Value) : gLc := gPad nL (gArgs vs)
theorem gEnt_has (vs : List Value) {n : Nat} (h : (lg_sl vs).length ≤ n) : gHas ((lg_sl vs ++ List.replicate (n - (lg_sl vs).length) Slot.unset).toArray) n (gEnt n vs) := by
  have hl := lv_entry vs h
  refine ⟨hl.1, hl.2.1, fun j w hj => ?_⟩
  have h1 := gArgs_mem vs 0 j w (gPad_get n _ j w hj)
  rw [Nat.zero_add] at h1
  exact hl.2.2 (j, w) h1
theorem gCx.moved {E : gE} {s U : State} (hW : s.WarmedH U.vm) (h : gCx E s) : gCx E U := by
  obtain ⟨h1, h2, h3, h4, h5⟩ := h
  refine ⟨va_K.moved hW.alike h1, fun w hw => ?_, va_Z.moved hW.alike h3, va_Z.moved hW.alike h4, h5⟩
  have hn := (List.mem_filter.mp hw).2
  have hz := h2 w hw
  cases w with
  | fieldLinkNest a i b n d h => exact va_Nw.warmF hW hz
  | methodLinkNest a i x h => exact va_Nw.warmM hW hz
  | _ => cases hn
theorem gAt.moved {E : gE} {s U : State} (hvm : s.vm.Alike U.vm) {μ : gM} {H : Heap} {a : Nat} {sh : Nat ⊕ (Nat × Nat)} (h : gAt E s μ H a sh) : gAt E U μ H a sh := by
  cases sh with
  | inl ci => exact h
  | inr q =>
    obtain ⟨t, n⟩ := q
    unfold gAt at h ⊢
    dsimp only at h ⊢
    split at h
    · rename_i h10
      rw [if_pos h10]
      exact va_T.moved hvm h
    · rename_i h10
      rw [if_neg h10]
      split at h
      · rename_i h11
        rw [if_pos h11]
        exact va_T.moved hvm h
      · rename_i h11
        rw [if_neg h11]
        exact h
theorem gRep.moved {E : gE} {S : gSh} {s U : State} (hvm : s.vm.Alike U.vm) {μ : gM} {H : Heap} (h : gRep E S μ s H) : gRep E S μ U H := ⟨h.1, fun a sh ha => (h.2.1 a sh ha).moved hvm, h.2.2⟩
/-- one place of the memory -/
def gU {α : Type} (f : Nat → Nat → α) (a k : Nat) (v : α) : Nat → Nat → α := fun b j => if b = a ∧ j = k then v else f b j
theorem gU_s {α : Type} {f : Nat → Nat → α} {a k : Nat} {v : α} : gU f a k v a k = v := by simp [gU]
theorem gU_n {α : Type} {f : Nat → Nat → α} {a k b j : Nat} {v : α} (h : ¬ (b = a ∧ j = k)) : gU f a k v b j = f b j := by simp [gU, h]
/-- the judgement -/
def gG (p : Program) (l : Launch) (e : Env) (R : Room) (s : State) (m : MethodId) (args : Array Value) (below : List Frame) (meth : Method) (c : Code) (cells slots : Nat) (Q : State → Prop) (E : gE) (S : gSh) (nL pc : Nat) (μ : gM) (lc : gLc) (st : List Value) : Prop :=
  ∀ (H : Heap) (locs : List Loc) (ls : Array Slot), gRep E S μ s H → (∀ q ∈ locs, gFr E q.base) → gHas ls nL lc → W p l e R s m args below meth c H locs cells slots Q (F0 m pc ls st)
/-- a method of ours: name, bytes, locals, answer -/
abbrev gMi : Type := MethodName × ByteArray × Nat × Option FieldType
def gWs (i : gMi) : List Cond := .code i.1 i.2.1 i.2.2.1 i.2.2.2 :: gTab
def gRm (h : Nat) : Room := { frames := h, cells := 0, slots := 0, locals := 60 * h }
def gPc (E : gE) (S : gSh) (as : List Value) (μ : gM) : Array Value → State → Prop := fun a U => a = as.toArray ∧ gCx E U ∧ gRep E S μ U U.heap
def gQc (E : gE) (S : gSh) (P : gP) : Array Value → State → Outcome → State → Prop := fun _ _ o t => ∃ (v : Option Value) (μ : gM), o = .returned v ∧ P v μ ∧ gRep E S μ t t.heap
/-- what is known inside a body -/
def gBd (p : Program) (s : State) (m : MethodId) (args : Array Value) (c : Code) (E : gE) (own : String) (cc : ByteArray) (nL : Nat) : Prop :=
  p.tables.exec = Jvm.exec ∧ c.code = cc ∧ c.maxLocals = nL ∧ s.vm.findClass own = some m.cls ∧ (∀ w ∈ gTab, w.before args s = true) ∧ gCx E s
/-- the callees are met -/
def gCa (l : Launch) (R : Room) (E : gE) (S : gSh) (mt : List gMi) (C : gCS) : Prop :=
  ∀ (y : Nat) (i : gMi) (as : List Value) (μ : gM) (P : gP), mt[y]? = some i → C y as μ P → ∃ h, h + 1 ≤ R.frames ∧ 8 + (i.2.2.1 + 11) + 60 * h ≤ R.locals ∧ Met l i.1 (gWs i) (gRm h) (gPc E S as μ) (gQc E S P) 0 0 (gFr E)
/-- an answer that fits the method's type -/
def gRo (rt : Option FieldType) (v : Option Value) : Prop := (rt = none ∧ v = none) ∨ (rt = some .int ∧ ∃ x, v = some (.int x)) ∨ (rt = some .boolean ∧ ∃ x, v = some (.int x) ∧ narrow .boolean (.int x) = .int x) ∨ (rt = some .long ∧ ∃ x, v = some (.long x)) ∨ (((∃ n, rt = some (.object n)) ∨ ∃ t, rt = some (.array t)) ∧ (v = some .null ∨ ∃ a, v = some (.ref a)))
def gRi (v : Option Value) : Instr := match v with
  | none => .return_
  | some (.int _) => .ireturn
  | some (.long _) => .lreturn
  | _ => .areturn
