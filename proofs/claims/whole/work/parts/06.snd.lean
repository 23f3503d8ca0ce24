def gRS (p : Program) (l : Launch) (e : Env) (R : Room) (s : State) (m : MethodId) (args : Array Value) (below : List Frame) (meth : Method) (c : Code) (cells slots : Nat) (Q : State → Prop) (E : gE) (S : gSh) (cc : ByteArray) (rt : Option FieldType) (P : gP) : Prop :=
  ∀ (pc : Nat) (v : Option Value) (μ : gM) (H : Heap) (locs : List Loc) (ls : Array Slot), P v μ → gRep E S μ s H → (∀ q ∈ locs, gFr E q.base) → gRo rt v → decode cc pc = .ok (gRi v, 1) → W p l e R s m args below meth c H locs cells slots Q (F0 m pc ls v.toList)
def gSnd (mt : List gMi) (own : String) (cc : ByteArray) (nL : Nat) (rt : Option FieldType) (pc len : Nat) (t : gT) : Prop :=
  ∀ (p : Program) (l : Launch) (e : Env) (R : Room) (s : State) (m : MethodId) (args : Array Value) (below : List Frame) (meth : Method) (c : Code) (cells slots : Nat) (Q : State → Prop) (E : gE) (S : gSh) (C : gCS) (X : Nat → gK) (P : gP),
  gBd p s m args c E own cc nL → gCa l R E S mt C → (∀ (q : Nat) (μ : gM) (lc : gLc) (st : List Value), X q μ lc st → gG p l e R s m args below meth c cells slots Q E S nL q μ lc st) →
  gRS p l e R s m args below meth c cells slots Q E S cc rt P → (cells ≤ R.cells ∧ slots ≤ R.slots ∧ 1 ≤ R.frames ∧ 60 ≤ R.locals) → ∀ K : gK, (∀ (μ : gM) (lc : gLc) (st : List Value), K μ lc st → gG p l e R s m args below meth c cells slots Q E S nL (pc + len) μ lc st) →
  ∀ (μ : gM) (lc : gLc) (st : List Value), t S C X P K μ lc st → gG p l e R s m args below meth c cells slots Q E S nL pc μ lc st
def i_ic (v : Int32) : gT := fun _ _ _ _ K μ lc st => K μ lc (.int v :: st)
theorem s_iconst {mt : List gMi} {own : String} {cc : ByteArray} {nL : Nat} {rt : Option FieldType} {pc : Nat} (v : Int32) {n : Int} (hv : Int32.ofInt n = v) (hd : decode cc pc = .ok (.iconst n, 1)) : gSnd mt own cc nL rt pc 1 (i_ic v) := by
  intro p l e R s m args below meth c cells slots Q E S C X P hB hC hX hR hf K hK μ lc st h
  exact fun H locs ls hr hl hh => lv_iconst hB.1 hB.2.1 hd hv (hK _ _ _ h H locs ls hr hl hh)
theorem s_bipush {mt : List gMi} {own : String} {cc : ByteArray} {nL : Nat} {rt : Option FieldType} {pc : Nat} (v : Int32) {n : Int} (hv : (Int8.ofInt n).toInt32 = v) (hd : decode cc pc = .ok (.bipush n, 2)) : gSnd mt own cc nL rt pc 2 (i_ic v) := by
  intro p l e R s m args below meth c cells slots Q E S C X P hB hC hX hR hf K hK μ lc st h
  exact fun H locs ls hr hl hh => lv_bipush hB.1 hB.2.1 hd hv (hK _ _ _ h H locs ls hr hl hh)
theorem s_sipush {mt : List gMi} {own : String} {cc : ByteArray} {nL : Nat} {rt : Option FieldType} {pc : Nat} (v : Int32) {n : Int} (hv : (Int16.ofInt n).toInt32 = v) (hd : decode cc pc = .ok (.sipush n, 3)) : gSnd mt own cc nL rt pc 3 (i_ic v) := by
  intro p l e R s m args below meth c cells slots Q E S C X P hB hC hX hR hf K hK μ lc st h
  exact fun H locs ls hr hl hh => lv_sipush hB.1 hB.2.1 hd hv (hK _ _ _ h H locs ls hr hl hh)
theorem s_ldc {mt : List gMi} {own : String} {cc : ByteArray} {nL : Nat} {rt : Option FieldType} {pc : Nat} (v : Int32) {n : Nat} (hw : Cond.constant own n v ∈ gTab) (hd : decode cc pc = .ok (.ldc n, 2)) : gSnd mt own cc nL rt pc 2 (i_ic v) := by
  intro p l e R s m args below meth c cells slots Q E S C X P hB hC hX hR hf K hK μ lc st h
  exact fun H locs ls hr hl hh => lv_ldc hB.1 hB.2.1 hB.2.2.2.1 (hB.2.2.2.2.1 _ hw) hd (hK _ _ _ h H locs ls hr hl hh)
theorem s_ldcw {mt : List gMi} {own : String} {cc : ByteArray} {nL : Nat} {rt : Option FieldType} {pc : Nat} (v : Int32) {n : Nat} (hw : Cond.constant own n v ∈ gTab) (hd : decode cc pc = .ok (.ldc_w n, 3)) : gSnd mt own cc nL rt pc 3 (i_ic v) := by
  intro p l e R s m args below meth c cells slots Q E S C X P hB hC hX hR hf K hK μ lc st h
  exact fun H locs ls hr hl hh => lv_ldcw hB.1 hB.2.1 hB.2.2.2.1 (hB.2.2.2.2.1 _ hw) hd (hK _ _ _ h H locs ls hr hl hh)
def i_lc (v : Int64) : gT := fun _ _ _ _ K μ lc st => K μ lc (.long v :: st)
theorem s_lconst {mt : List gMi} {own : String} {cc : ByteArray} {nL : Nat} {rt : Option FieldType} {pc : Nat} (v : Int64) {n : Fin 2} (hv : Int64.ofNat (n : Nat) = v) (hd : decode cc pc = .ok (.lconst n, 1)) : gSnd mt own cc nL rt pc 1 (i_lc v) := by
  intro p l e R s m args below meth c cells slots Q E S C X P hB hC hX hR hf K hK μ lc st h
  exact fun H locs ls hr hl hh => lv_lconst hB.1 hB.2.1 hd hv (hK _ _ _ h H locs ls hr hl hh)
theorem s_ldc2 {mt : List gMi} {own : String} {cc : ByteArray} {nL : Nat} {rt : Option FieldType} {pc : Nat} (v : Int64) {n : Nat} (hw : Cond.constantLong own n v ∈ gTab) (hd : decode cc pc = .ok (.ldc2_w n, 3)) : gSnd mt own cc nL rt pc 3 (i_lc v) := by
  intro p l e R s m args below meth c cells slots Q E S C X P hB hC hX hR hf K hK μ lc st h
  exact fun H locs ls hr hl hh => lv_ldc2 hB.1 hB.2.1 hB.2.2.2.1 (hB.2.2.2.2.1 _ hw) hd (hK _ _ _ h H locs ls hr hl hh)
def i_null : gT := fun _ _ _ _ K μ lc st => K μ lc (.null :: st)
theorem s_null {mt : List gMi} {own : String} {cc : ByteArray} {nL : Nat} {rt : Option FieldType} {pc : Nat} (hd : decode cc pc = .ok (.aconst_null, 1)) : gSnd mt own cc nL rt pc 1 i_null := by
  intro p l e R s m args below meth c cells slots Q E S C X P hB hC hX hR hf K hK μ lc st h
  exact fun H locs ls hr hl hh => lv_null hB.1 hB.2.1 hd (hK _ _ _ h H locs ls hr hl hh)
def i_ldI (i : Nat) : gT := fun _ _ _ _ K μ lc st => match gGet lc i with
  | some (.int x) => K μ lc (.int x :: st)
  | _ => False
theorem s_iload {mt : List gMi} {own : String} {cc : ByteArray} {nL : Nat} {rt : Option FieldType} {pc : Nat} (i : Nat) (hd : decode cc pc = .ok (.iload i, 2)) : gSnd mt own cc nL rt pc 2 (i_ldI i) := by
  intro p l e R s m args below meth c cells slots Q E S C X P hB hC hX hR hf K hK μ lc st h
  simp only [i_ldI] at h
  split at h
  · rename_i x hx
    exact fun H locs ls hr hl hh => lv_iload hB.1 hB.2.1 hd (hh.2.2 _ _ hx) (hK _ _ _ h H locs ls hr hl hh)
  · exact h.elim
theorem s_iload_n {mt : List gMi} {own : String} {cc : ByteArray} {nL : Nat} {rt : Option FieldType} {pc : Nat} (i : Nat) {k : Fin 4} (hi : (k : Nat) = i) (hd : decode cc pc = .ok (.iload_n k, 1)) : gSnd mt own cc nL rt pc 1 (i_ldI i) := by
  intro p l e R s m args below meth c cells slots Q E S C X P hB hC hX hR hf K hK μ lc st h
  simp only [i_ldI] at h
  split at h
  · rename_i x hx
    exact fun H locs ls hr hl hh => lv_iload_n hB.1 hB.2.1 hd hi (hh.2.2 _ _ hx) (hK _ _ _ h H locs ls hr hl hh)
  · exact h.elim
def i_ldL (i : Nat) : gT := fun _ _ _ _ K μ lc st => match gGet lc i with
  | some (.long x) => K μ lc (.long x :: st)
  | _ => False
theorem s_lload {mt : List gMi} {own : String} {cc : ByteArray} {nL : Nat} {rt : Option FieldType} {pc : Nat} (i : Nat) (hd : decode cc pc = .ok (.lload i, 2)) : gSnd mt own cc nL rt pc 2 (i_ldL i) := by
  intro p l e R s m args below meth c cells slots Q E S C X P hB hC hX hR hf K hK μ lc st h
  simp only [i_ldL] at h
  split at h
  · rename_i x hx
    exact fun H locs ls hr hl hh => lv_lload hB.1 hB.2.1 hd (hh.2.2 _ _ hx) (hK _ _ _ h H locs ls hr hl hh)
  · exact h.elim
theorem s_lload_n {mt : List gMi} {own : String} {cc : ByteArray} {nL : Nat} {rt : Option FieldType} {pc : Nat} (i : Nat) {k : Fin 4} (hi : (k : Nat) = i) (hd : decode cc pc = .ok (.lload_n k, 1)) : gSnd mt own cc nL rt pc 1 (i_ldL i) := by
  intro p l e R s m args below meth c cells slots Q E S C X P hB hC hX hR hf K hK μ lc st h
  simp only [i_ldL] at h
  split at h
  · rename_i x hx
    exact fun H locs ls hr hl hh => lv_lload_n hB.1 hB.2.1 hd hi (hh.2.2 _ _ hx) (hK _ _ _ h H locs ls hr hl hh)
  · exact h.elim
def i_ldA (i : Nat) : gT := fun _ _ _ _ K μ lc st => match gGet lc i with
  | some (.ref x) => K μ lc (.ref x :: st)
  | some .null => K μ lc (.null :: st)
  | _ => False
theorem s_aload {mt : List gMi} {own : String} {cc : ByteArray} {nL : Nat} {rt : Option FieldType} {pc : Nat} (i : Nat) (hd : decode cc pc = .ok (.aload i, 2)) : gSnd mt own cc nL rt pc 2 (i_ldA i) := by
  intro p l e R s m args below meth c cells slots Q E S C X P hB hC hX hR hf K hK μ lc st h
  simp only [i_ldA] at h
  split at h
  · rename_i x hx
    exact fun H locs ls hr hl hh => lv_aload hB.1 hB.2.1 hd (hh.2.2 _ _ hx) (hK _ _ _ h H locs ls hr hl hh)
  · rename_i hx
    exact fun H locs ls hr hl hh => lv_aloadN hB.1 hB.2.1 hd (hh.2.2 _ _ hx) (hK _ _ _ h H locs ls hr hl hh)
  · exact h.elim
theorem s_aload_n {mt : List gMi} {own : String} {cc : ByteArray} {nL : Nat} {rt : Option FieldType} {pc : Nat} (i : Nat) {k : Fin 4} (hi : (k : Nat) = i) (hd : decode cc pc = .ok (.aload_n k, 1)) : gSnd mt own cc nL rt pc 1 (i_ldA i) := by
  intro p l e R s m args below meth c cells slots Q E S C X P hB hC hX hR hf K hK μ lc st h
  simp only [i_ldA] at h
  split at h
  · rename_i x hx
    exact fun H locs ls hr hl hh => lv_aload_n hB.1 hB.2.1 hd hi (hh.2.2 _ _ hx) (hK _ _ _ h H locs ls hr hl hh)
  · rename_i hx
    exact fun H locs ls hr hl hh => lv_aload_nN hB.1 hB.2.1 hd hi (hh.2.2 _ _ hx) (hK _ _ _ h H locs ls hr hl hh)
  · exact h.elim
def i_stI (i : Nat) : gT := fun _ _ _ _ K μ lc st => match st with
  | .int x :: r => K μ (gS1 lc i (.int x)) r
  | _ => False
theorem s_istore {mt : List gMi} {own : String} {cc : ByteArray} {nL : Nat} {rt : Option FieldType} {pc : Nat} (i : Nat) (hn : i < nL) (hd : decode cc pc = .ok (.istore i, 2)) : gSnd mt own cc nL rt pc 2 (i_stI i) := by
  intro p l e R s m args below meth c cells slots Q E S C X P hB hC hX hR hf K hK μ lc st h
  simp only [i_stI] at h
  split at h
  · exact fun H locs ls hr hl hh => lv_istore hB.1 hB.2.1 hd hh.lv hn rfl (fun ls2 h2 => hK _ _ _ h H locs ls2 hr hl (gHas.st1 h2))
  · exact h.elim
theorem s_istore_n {mt : List gMi} {own : String} {cc : ByteArray} {nL : Nat} {rt : Option FieldType} {pc : Nat} (i : Nat) {k : Fin 4} (hi : (k : Nat) = i) (hn : i < nL) (hd : decode cc pc = .ok (.istore_n k, 1)) : gSnd mt own cc nL rt pc 1 (i_stI i) := by
  intro p l e R s m args below meth c cells slots Q E S C X P hB hC hX hR hf K hK μ lc st h
  simp only [i_stI] at h
  split at h
  · exact fun H locs ls hr hl hh => lv_istore_n hB.1 hB.2.1 hd hi hh.lv hn rfl (fun ls2 h2 => hK _ _ _ h H locs ls2 hr hl (gHas.st1 h2))
  · exact h.elim
def i_stL (i : Nat) : gT := fun _ _ _ _ K μ lc st => match st with
  | .long x :: r => K μ (gS2 lc i (.long x)) r
  | _ => False
theorem s_lstore {mt : List gMi} {own : String} {cc : ByteArray} {nL : Nat} {rt : Option FieldType} {pc : Nat} (i : Nat) (hn : i + 1 < nL) (hd : decode cc pc = .ok (.lstore i, 2)) : gSnd mt own cc nL rt pc 2 (i_stL i) := by
  intro p l e R s m args below meth c cells slots Q E S C X P hB hC hX hR hf K hK μ lc st h
  simp only [i_stL] at h
  split at h
  · exact fun H locs ls hr hl hh => lv_lstore hB.1 hB.2.1 hd hh.lv hn rfl (fun ls2 h2 => hK _ _ _ h H locs ls2 hr hl (gHas.st2 h2))
  · exact h.elim
theorem s_lstore_n {mt : List gMi} {own : String} {cc : ByteArray} {nL : Nat} {rt : Option FieldType} {pc : Nat} (i : Nat) {k : Fin 4} (hi : (k : Nat) = i) (hn : i + 1 < nL) (hd : decode cc pc = .ok (.lstore_n k, 1)) : gSnd mt own cc nL rt pc 1 (i_stL i) := by
  intro p l e R s m args below meth c cells slots Q E S C X P hB hC hX hR hf K hK μ lc st h
  simp only [i_stL] at h
  split at h
  · exact fun H locs ls hr hl hh => lv_lstore_n hB.1 hB.2.1 hd hi hh.lv hn rfl (fun ls2 h2 => hK _ _ _ h H locs ls2 hr hl (gHas.st2 h2))
  · exact h.elim
def i_stA (i : Nat) : gT := fun _ _ _ _ K μ lc st => match st with
  | .ref x :: r => K μ (gS1 lc i (.ref x)) r
  | .null :: r => K μ (gS1 lc i .null) r
  | _ => False
theorem s_astore {mt : List gMi} {own : String} {cc : ByteArray} {nL : Nat} {rt : Option FieldType} {pc : Nat} (i : Nat) (hn : i < nL) (hd : decode cc pc = .ok (.astore i, 2)) : gSnd mt own cc nL rt pc 2 (i_stA i) := by
  intro p l e R s m args below meth c cells slots Q E S C X P hB hC hX hR hf K hK μ lc st h
  simp only [i_stA] at h
  split at h
  · exact fun H locs ls hr hl hh => lv_astore hB.1 hB.2.1 hd hh.lv hn rfl (fun ls2 h2 => hK _ _ _ h H locs ls2 hr hl (gHas.st1 h2))
  · exact fun H locs ls hr hl hh => lv_astoreN hB.1 hB.2.1 hd hh.lv hn rfl (fun ls2 h2 => hK _ _ _ h H locs ls2 hr hl (gHas.st1 h2))
  · exact h.elim
theorem s_astore_n {mt : List gMi} {own : String} {cc : ByteArray} {nL : Nat} {rt : Option FieldType} {pc : Nat} (i : Nat) {k : Fin 4} (hi : (k : Nat) = i) (hn : i < nL) (hd : decode cc pc = .ok (.astore_n k, 1)) : gSnd mt own cc nL rt pc 1 (i_stA i) := by
  intro p l e R s m args below meth c cells slots Q E S C X P hB hC hX hR hf K hK μ lc st h
  simp only [i_stA] at h
  split at h
  · exact fun H locs ls hr hl hh => lv_astore_n hB.1 hB.2.1 hd hi hh.lv hn rfl (fun ls2 h2 => hK _ _ _ h H locs ls2 hr hl (gHas.st1 h2))
  · exact fun H locs ls hr hl hh => lv_astore_nN hB.1 hB.2.1 hd hi hh.lv hn rfl (fun ls2 h2 => hK _ _ _ h H locs ls2 hr hl (gHas.st1 h2))
  · exact h.elim
def i_inc (i : Nat) (v : Int32) : gT := fun _ _ _ _ K μ lc st => match gGet lc i with
  | some (.int x) => K μ (gS1 lc i (.int (x + v))) st
  | _ => False
theorem s_iinc {mt : List gMi} {own : String} {cc : ByteArray} {nL : Nat} {rt : Option FieldType} {pc : Nat} (i : Nat) (v : Int32) {n : Int} (hn : i < nL) (hv : Int32.ofInt n = v) (hd : decode cc pc = .ok (.iinc i n, 3)) : gSnd mt own cc nL rt pc 3 (i_inc i v) := by
  intro p l e R s m args below meth c cells slots Q E S C X P hB hC hX hR hf K hK μ lc st h
  simp only [i_inc] at h
  split at h
  · rename_i x hx
    obtain ⟨k, hk⟩ := List.getElem?_of_mem ((gPr_mem lc 0 i (.int x)).mpr ⟨Nat.zero_le _, by simpa using hx⟩)
    exact fun H locs ls hr hl hh => lv_iinc hB.1 hB.2.1 hd hh.lv hk (by rw [hv]) hn rfl (fun ls2 h2 => hK _ _ _ h H locs ls2 hr hl (gHas.st1 h2))
  · exact h.elim
def i_iadd : gT := fun _ _ _ _ K μ lc st => match st with
  | .int y :: .int x :: r => K μ lc (.int (x + y) :: r)
  | _ => False
theorem s_iadd {mt : List gMi} {own : String} {cc : ByteArray} {nL : Nat} {rt : Option FieldType} {pc : Nat} (hd : decode cc pc = .ok (.iadd, 1)) : gSnd mt own cc nL rt pc 1 (i_iadd) := by
  intro p l e R s m args below meth c cells slots Q E S C X P hB hC hX hR hf K hK μ lc st h
  simp only [i_iadd] at h
  split at h
  · exact fun H locs ls hr hl hh => lv_iadd hB.1 hB.2.1 hd (hK _ _ _ h H locs ls hr hl hh)
  · exact h.elim
def i_isub : gT := fun _ _ _ _ K μ lc st => match st with
  | .int y :: .int x :: r => K μ lc (.int (x - y) :: r)
  | _ => False
theorem s_isub {mt : List gMi} {own : String} {cc : ByteArray} {nL : Nat} {rt : Option FieldType} {pc : Nat} (hd : decode cc pc = .ok (.isub, 1)) : gSnd mt own cc nL rt pc 1 (i_isub) := by
  intro p l e R s m args below meth c cells slots Q E S C X P hB hC hX hR hf K hK μ lc st h
  simp only [i_isub] at h
  split at h
  · exact fun H locs ls hr hl hh => lv_isub hB.1 hB.2.1 hd (hK _ _ _ h H locs ls hr hl hh)
  · exact h.elim
def i_imul : gT := fun _ _ _ _ K μ lc st => match st with
  | .int y :: .int x :: r => K μ lc (.int (x * y) :: r)
  | _ => False
theorem s_imul {mt : List gMi} {own : String} {cc : ByteArray} {nL : Nat} {rt : Option FieldType} {pc : Nat} (hd : decode cc pc = .ok (.imul, 1)) : gSnd mt own cc nL rt pc 1 (i_imul) := by
  intro p l e R s m args below meth c cells slots Q E S C X P hB hC hX hR hf K hK μ lc st h
  simp only [i_imul] at h
  split at h
  · exact fun H locs ls hr hl hh => lv_imul hB.1 hB.2.1 hd (hK _ _ _ h H locs ls hr hl hh)
  · exact h.elim
def i_iand : gT := fun _ _ _ _ K μ lc st => match st with
  | .int y :: .int x :: r => K μ lc (.int (x &&& y) :: r)
  | _ => False
theorem s_iand {mt : List gMi} {own : String} {cc : ByteArray} {nL : Nat} {rt : Option FieldType} {pc : Nat} (hd : decode cc pc = .ok (.iand, 1)) : gSnd mt own cc nL rt pc 1 (i_iand) := by
  intro p l e R s m args below meth c cells slots Q E S C X P hB hC hX hR hf K hK μ lc st h
  simp only [i_iand] at h
  split at h
  · exact fun H locs ls hr hl hh => lv_iand hB.1 hB.2.1 hd (hK _ _ _ h H locs ls hr hl hh)
  · exact h.elim
def i_ior : gT := fun _ _ _ _ K μ lc st => match st with
  | .int y :: .int x :: r => K μ lc (.int (x ||| y) :: r)
  | _ => False
theorem s_ior {mt : List gMi} {own : String} {cc : ByteArray} {nL : Nat} {rt : Option FieldType} {pc : Nat} (hd : decode cc pc = .ok (.ior, 1)) : gSnd mt own cc nL rt pc 1 (i_ior) := by
  intro p l e R s m args below meth c cells slots Q E S C X P hB hC hX hR hf K hK μ lc st h
  simp only [i_ior] at h
  split at h
  · exact fun H locs ls hr hl hh => lv_ior hB.1 hB.2.1 hd (hK _ _ _ h H locs ls hr hl hh)
  · exact h.elim
def i_ixor : gT := fun _ _ _ _ K μ lc st => match st with
  | .int y :: .int x :: r => K μ lc (.int (x ^^^ y) :: r)
  | _ => False
theorem s_ixor {mt : List gMi} {own : String} {cc : ByteArray} {nL : Nat} {rt : Option FieldType} {pc : Nat} (hd : decode cc pc = .ok (.ixor, 1)) : gSnd mt own cc nL rt pc 1 (i_ixor) := by
  intro p l e R s m args below meth c cells slots Q E S C X P hB hC hX hR hf K hK μ lc st h
  simp only [i_ixor] at h
  split at h
  · exact fun H locs ls hr hl hh => lv_ixor hB.1 hB.2.1 hd (hK _ _ _ h H locs ls hr hl hh)
  · exact h.elim
def i_ishl : gT := fun _ _ _ _ K μ lc st => match st with
  | .int y :: .int x :: r => K μ lc (.int (x <<< (y &&& 31)) :: r)
  | _ => False
theorem s_ishl {mt : List gMi} {own : String} {cc : ByteArray} {nL : Nat} {rt : Option FieldType} {pc : Nat} (hd : decode cc pc = .ok (.ishl, 1)) : gSnd mt own cc nL rt pc 1 (i_ishl) := by
  intro p l e R s m args below meth c cells slots Q E S C X P hB hC hX hR hf K hK μ lc st h
  simp only [i_ishl] at h
  split at h
  · exact fun H locs ls hr hl hh => lv_ishl hB.1 hB.2.1 hd (hK _ _ _ h H locs ls hr hl hh)
  · exact h.elim
def i_ishr : gT := fun _ _ _ _ K μ lc st => match st with
  | .int y :: .int x :: r => K μ lc (.int (x >>> (y &&& 31)) :: r)
  | _ => False
theorem s_ishr {mt : List gMi} {own : String} {cc : ByteArray} {nL : Nat} {rt : Option FieldType} {pc : Nat} (hd : decode cc pc = .ok (.ishr, 1)) : gSnd mt own cc nL rt pc 1 (i_ishr) := by
  intro p l e R s m args below meth c cells slots Q E S C X P hB hC hX hR hf K hK μ lc st h
  simp only [i_ishr] at h
  split at h
  · exact fun H locs ls hr hl hh => lv_ishr hB.1 hB.2.1 hd (hK _ _ _ h H locs ls hr hl hh)
  · exact h.elim
def i_iushr : gT := fun _ _ _ _ K μ lc st => match st with
  | .int y :: .int x :: r => K μ lc (.int (x.toUInt32 >>> (y.toUInt32 &&& Int32.toUInt32 31)).toInt32 :: r)
  | _ => False
theorem s_iushr {mt : List gMi} {own : String} {cc : ByteArray} {nL : Nat} {rt : Option FieldType} {pc : Nat} (hd : decode cc pc = .ok (.iushr, 1)) : gSnd mt own cc nL rt pc 1 (i_iushr) := by
  intro p l e R s m args below meth c cells slots Q E S C X P hB hC hX hR hf K hK μ lc st h
  simp only [i_iushr] at h
  split at h
  · exact fun H locs ls hr hl hh => lv_iushr hB.1 hB.2.1 hd rfl (hK _ _ _ h H locs ls hr hl hh)
  · exact h.elim
def i_idiv : gT := fun _ _ _ _ K μ lc st => match st with
  | .int y :: .int x :: r => ¬ y = 0 ∧ K μ lc (.int (x / y) :: r)
  | _ => False
theorem s_idiv {mt : List gMi} {own : String} {cc : ByteArray} {nL : Nat} {rt : Option FieldType} {pc : Nat} (hd : decode cc pc = .ok (.idiv, 1)) : gSnd mt own cc nL rt pc 1 i_idiv := by
  intro p l e R s m args below meth c cells slots Q E S C X P hB hC hX hR hf K hK μ lc st h
  simp only [i_idiv] at h
  split at h
  · exact fun H locs ls hr hl hh => lv_idiv hB.1 hB.2.1 hd h.1 (hK _ _ _ h.2 H locs ls hr hl hh)
  · exact h.elim
def i_ineg : gT := fun _ _ _ _ K μ lc st => match st with
  | .int x :: r => K μ lc (.int (-x) :: r)
  | _ => False
theorem s_ineg {mt : List gMi} {own : String} {cc : ByteArray} {nL : Nat} {rt : Option FieldType} {pc : Nat} (hd : decode cc pc = .ok (.ineg, 1)) : gSnd mt own cc nL rt pc 1 (i_ineg) := by
  intro p l e R s m args below meth c cells slots Q E S C X P hB hC hX hR hf K hK μ lc st h
  simp only [i_ineg] at h
  split at h
  · exact fun H locs ls hr hl hh => lv_ineg hB.1 hB.2.1 hd (hK _ _ _ h H locs ls hr hl hh)
  · exact h.elim
def i_ladd : gT := fun _ _ _ _ K μ lc st => match st with
  | .long y :: .long x :: r => K μ lc (.long (x + y) :: r)
  | _ => False
theorem s_ladd {mt : List gMi} {own : String} {cc : ByteArray} {nL : Nat} {rt : Option FieldType} {pc : Nat} (hd : decode cc pc = .ok (.ladd, 1)) : gSnd mt own cc nL rt pc 1 (i_ladd) := by
  intro p l e R s m args below meth c cells slots Q E S C X P hB hC hX hR hf K hK μ lc st h
  simp only [i_ladd] at h
  split at h
  · exact fun H locs ls hr hl hh => lv_ladd hB.1 hB.2.1 hd (hK _ _ _ h H locs ls hr hl hh)
  · exact h.elim
def i_lsub : gT := fun _ _ _ _ K μ lc st => match st with
  | .long y :: .long x :: r => K μ lc (.long (x - y) :: r)
  | _ => False
theorem s_lsub {mt : List gMi} {own : String} {cc : ByteArray} {nL : Nat} {rt : Option FieldType} {pc : Nat} (hd : decode cc pc = .ok (.lsub, 1)) : gSnd mt own cc nL rt pc 1 (i_lsub) := by
  intro p l e R s m args below meth c cells slots Q E S C X P hB hC hX hR hf K hK μ lc st h
  simp only [i_lsub] at h
  split at h
  · exact fun H locs ls hr hl hh => lv_lsub hB.1 hB.2.1 hd (hK _ _ _ h H locs ls hr hl hh)
  · exact h.elim
def i_lmul : gT := fun _ _ _ _ K μ lc st => match st with
  | .long y :: .long x :: r => K μ lc (.long (x * y) :: r)
  | _ => False
theorem s_lmul {mt : List gMi} {own : String} {cc : ByteArray} {nL : Nat} {rt : Option FieldType} {pc : Nat} (hd : decode cc pc = .ok (.lmul, 1)) : gSnd mt own cc nL rt pc 1 (i_lmul) := by
  intro p l e R s m args below meth c cells slots Q E S C X P hB hC hX hR hf K hK μ lc st h
  simp only [i_lmul] at h
  split at h
  · exact fun H locs ls hr hl hh => lv_lmul hB.1 hB.2.1 hd (hK _ _ _ h H locs ls hr hl hh)
  · exact h.elim
def i_lor : gT := fun _ _ _ _ K μ lc st => match st with
  | .long y :: .long x :: r => K μ lc (.long (x ||| y) :: r)
  | _ => False
theorem s_lor {mt : List gMi} {own : String} {cc : ByteArray} {nL : Nat} {rt : Option FieldType} {pc : Nat} (hd : decode cc pc = .ok (.lor, 1)) : gSnd mt own cc nL rt pc 1 (i_lor) := by
  intro p l e R s m args below meth c cells slots Q E S C X P hB hC hX hR hf K hK μ lc st h
  simp only [i_lor] at h
  split at h
  · exact fun H locs ls hr hl hh => lv_lor hB.1 hB.2.1 hd (hK _ _ _ h H locs ls hr hl hh)
  · exact h.elim
def i_lshl : gT := fun _ _ _ _ K μ lc st => match st with
  | .int y :: .long x :: r => K μ lc (.long (x <<< (y.toInt64 &&& 63)) :: r)
  | _ => False
theorem s_lshl {mt : List gMi} {own : String} {cc : ByteArray} {nL : Nat} {rt : Option FieldType} {pc : Nat} (hd : decode cc pc = .ok (.lshl, 1)) : gSnd mt own cc nL rt pc 1 (i_lshl) := by
  intro p l e R s m args below meth c cells slots Q E S C X P hB hC hX hR hf K hK μ lc st h
  simp only [i_lshl] at h
  split at h
  · exact fun H locs ls hr hl hh => lv_lshl hB.1 hB.2.1 hd rfl (hK _ _ _ h H locs ls hr hl hh)
  · exact h.elim
def i_lshr : gT := fun _ _ _ _ K μ lc st => match st with
  | .int y :: .long x :: r => K μ lc (.long (x >>> (y.toInt64 &&& 63)) :: r)
  | _ => False
theorem s_lshr {mt : List gMi} {own : String} {cc : ByteArray} {nL : Nat} {rt : Option FieldType} {pc : Nat} (hd : decode cc pc = .ok (.lshr, 1)) : gSnd mt own cc nL rt pc 1 (i_lshr) := by
  intro p l e R s m args below meth c cells slots Q E S C X P hB hC hX hR hf K hK μ lc st h
  simp only [i_lshr] at h
  split at h
  · exact fun H locs ls hr hl hh => lv_lshr hB.1 hB.2.1 hd rfl (hK _ _ _ h H locs ls hr hl hh)
  · exact h.elim
def i_i2l : gT := fun _ _ _ _ K μ lc st => match st with
  | .int x :: r => K μ lc (.long x.toInt64 :: r)
  | _ => False
theorem s_i2l {mt : List gMi} {own : String} {cc : ByteArray} {nL : Nat} {rt : Option FieldType} {pc : Nat} (hd : decode cc pc = .ok (.i2l, 1)) : gSnd mt own cc nL rt pc 1 (i_i2l) := by
  intro p l e R s m args below meth c cells slots Q E S C X P hB hC hX hR hf K hK μ lc st h
  simp only [i_i2l] at h
  split at h
  · exact fun H locs ls hr hl hh => lv_i2l hB.1 hB.2.1 hd rfl (hK _ _ _ h H locs ls hr hl hh)
  · exact h.elim
def i_l2i : gT := fun _ _ _ _ K μ lc st => match st with
  | .long x :: r => K μ lc (.int x.toInt32 :: r)
  | _ => False
theorem s_l2i {mt : List gMi} {own : String} {cc : ByteArray} {nL : Nat} {rt : Option FieldType} {pc : Nat} (hd : decode cc pc = .ok (.l2i, 1)) : gSnd mt own cc nL rt pc 1 (i_l2i) := by
  intro p l e R s m args below meth c cells slots Q E S C X P hB hC hX hR hf K hK μ lc st h
  simp only [i_l2i] at h
  split at h
  · exact fun H locs ls hr hl hh => lv_l2i hB.1 hB.2.1 hd rfl (hK _ _ _ h H locs ls hr hl hh)
  · exact h.elim
def i_i2b : gT := fun _ _ _ _ K μ lc st => match st with
  | .int x :: r => K μ lc (.int x.toInt8.toInt32 :: r)
  | _ => False
theorem s_i2b {mt : List gMi} {own : String} {cc : ByteArray} {nL : Nat} {rt : Option FieldType} {pc : Nat} (hd : decode cc pc = .ok (.i2b, 1)) : gSnd mt own cc nL rt pc 1 (i_i2b) := by
  intro p l e R s m args below meth c cells slots Q E S C X P hB hC hX hR hf K hK μ lc st h
  simp only [i_i2b] at h
  split at h
  · exact fun H locs ls hr hl hh => lv_i2b hB.1 hB.2.1 hd rfl (hK _ _ _ h H locs ls hr hl hh)
  · exact h.elim
def i_lcmp : gT := fun _ _ _ _ K μ lc st => match st with
  | .long y :: .long x :: r => K μ lc (.int (lg_cmp x y) :: r)
  | _ => False
theorem s_lcmp {mt : List gMi} {own : String} {cc : ByteArray} {nL : Nat} {rt : Option FieldType} {pc : Nat} (hd : decode cc pc = .ok (.lcmp, 1)) : gSnd mt own cc nL rt pc 1 (i_lcmp) := by
  intro p l e R s m args below meth c cells slots Q E S C X P hB hC hX hR hf K hK μ lc st h
  simp only [i_lcmp] at h
  split at h
  · exact fun H locs ls hr hl hh => W.lcmp hB.1 hB.2.1 hd (hK _ _ _ h H locs ls hr hl hh)
  · exact h.elim
def i_dup : gT := fun _ _ _ _ K μ lc st => match st with
  | v :: r => v.category = 1 ∧ K μ lc (v :: v :: r)
  | _ => False
theorem s_dup {mt : List gMi} {own : String} {cc : ByteArray} {nL : Nat} {rt : Option FieldType} {pc : Nat} (hd : decode cc pc = .ok (.dup, 1)) : gSnd mt own cc nL rt pc 1 i_dup := by
  intro p l e R s m args below meth c cells slots Q E S C X P hB hC hX hR hf K hK μ lc st h
  simp only [i_dup] at h
  split at h
  · exact fun H locs ls hr hl hh => lv_dup hB.1 hB.2.1 hd h.1 (hK _ _ _ h.2 H locs ls hr hl hh)
  · exact h.elim
def i_dup2 : gT := fun _ _ _ _ K μ lc st => match st with
  | v :: w :: r => (v.category = 1 ∧ w.category = 1) ∧ K μ lc (v :: w :: v :: w :: r)
  | _ => False
theorem s_dup2 {mt : List gMi} {own : String} {cc : ByteArray} {nL : Nat} {rt : Option FieldType} {pc : Nat} (hd : decode cc pc = .ok (.dup2, 1)) : gSnd mt own cc nL rt pc 1 i_dup2 := by
  intro p l e R s m args below meth c cells slots Q E S C X P hB hC hX hR hf K hK μ lc st h
  simp only [i_dup2] at h
  split at h
  · exact fun H locs ls hr hl hh => lv_dup2_11 hB.1 hB.2.1 hd h.1.1 h.1.2 (hK _ _ _ h.2 H locs ls hr hl hh)
  · exact h.elim
def i_pop : gT := fun _ _ _ _ K μ lc st => match st with
  | v :: r => v.category = 1 ∧ K μ lc r
  | _ => False
theorem s_pop {mt : List gMi} {own : String} {cc : ByteArray} {nL : Nat} {rt : Option FieldType} {pc : Nat} (hd : decode cc pc = .ok (.pop, 1)) : gSnd mt own cc nL rt pc 1 i_pop := by
  intro p l e R s m args below meth c cells slots Q E S C X P hB hC hX hR hf K hK μ lc st h
  simp only [i_pop] at h
  split at h
  · exact fun H locs ls hr hl hh => lv_pop hB.1 hB.2.1 hd h.1 (hK _ _ _ h.2 H locs ls hr hl hh)
  · exact h.elim
def i_ceq (tgt : Nat) : gT := fun _ _ X _ K μ lc st => match st with
  | .int y :: .int x :: r => (x = y → X tgt μ lc r) ∧ (¬ x = y → K μ lc r)
  | _ => False
theorem s_ceq {mt : List gMi} {own : String} {cc : ByteArray} {nL : Nat} {rt : Option FieldType} {pc : Nat} (tgt : Nat) {off : Int} (ht : (pc : Int) + off = (tgt : Int)) (hd : decode cc pc = .ok (.if_icmp .eq off, 3)) : gSnd mt own cc nL rt pc 3 (i_ceq tgt) := by
  intro p l e R s m args below meth c cells slots Q E S C X P hB hC hX hR hf K hK μ lc st h
  simp only [i_ceq] at h
  split at h
  · exact fun H locs ls hr hl hh => lv_icmp_eq hB.1 hB.2.1 hd ht (fun q => hX _ _ _ _ (h.1 q) H locs ls hr hl hh) (fun q => hK _ _ _ (h.2 q) H locs ls hr hl hh)
  · exact h.elim
def i_cne (tgt : Nat) : gT := fun _ _ X _ K μ lc st => match st with
  | .int y :: .int x :: r => (¬ x = y → X tgt μ lc r) ∧ (x = y → K μ lc r)
  | _ => False
theorem s_cne {mt : List gMi} {own : String} {cc : ByteArray} {nL : Nat} {rt : Option FieldType} {pc : Nat} (tgt : Nat) {off : Int} (ht : (pc : Int) + off = (tgt : Int)) (hd : decode cc pc = .ok (.if_icmp .ne off, 3)) : gSnd mt own cc nL rt pc 3 (i_cne tgt) := by
  intro p l e R s m args below meth c cells slots Q E S C X P hB hC hX hR hf K hK μ lc st h
  simp only [i_cne] at h
  split at h
  · exact fun H locs ls hr hl hh => lv_icmp_ne hB.1 hB.2.1 hd ht (fun q => hX _ _ _ _ (h.1 q) H locs ls hr hl hh) (fun q => hK _ _ _ (h.2 q) H locs ls hr hl hh)
  · exact h.elim
def i_clt (tgt : Nat) : gT := fun _ _ X _ K μ lc st => match st with
  | .int y :: .int x :: r => (x < y → X tgt μ lc r) ∧ (¬ x < y → K μ lc r)
  | _ => False
theorem s_clt {mt : List gMi} {own : String} {cc : ByteArray} {nL : Nat} {rt : Option FieldType} {pc : Nat} (tgt : Nat) {off : Int} (ht : (pc : Int) + off = (tgt : Int)) (hd : decode cc pc = .ok (.if_icmp .lt off, 3)) : gSnd mt own cc nL rt pc 3 (i_clt tgt) := by
  intro p l e R s m args below meth c cells slots Q E S C X P hB hC hX hR hf K hK μ lc st h
  simp only [i_clt] at h
  split at h
  · exact fun H locs ls hr hl hh => lv_icmp_lt hB.1 hB.2.1 hd ht (fun q => hX _ _ _ _ (h.1 q) H locs ls hr hl hh) (fun q => hK _ _ _ (h.2 q) H locs ls hr hl hh)
  · exact h.elim
def i_cge (tgt : Nat) : gT := fun _ _ X _ K μ lc st => match st with
  | .int y :: .int x :: r => (y ≤ x → X tgt μ lc r) ∧ (¬ y ≤ x → K μ lc r)
  | _ => False
theorem s_cge {mt : List gMi} {own : String} {cc : ByteArray} {nL : Nat} {rt : Option FieldType} {pc : Nat} (tgt : Nat) {off : Int} (ht : (pc : Int) + off = (tgt : Int)) (hd : decode cc pc = .ok (.if_icmp .ge off, 3)) : gSnd mt own cc nL rt pc 3 (i_cge tgt) := by
  intro p l e R s m args below meth c cells slots Q E S C X P hB hC hX hR hf K hK μ lc st h
  simp only [i_cge] at h
  split at h
  · exact fun H locs ls hr hl hh => lv_icmp_ge hB.1 hB.2.1 hd ht (fun q => hX _ _ _ _ (h.1 q) H locs ls hr hl hh) (fun q => hK _ _ _ (h.2 q) H locs ls hr hl hh)
  · exact h.elim
def i_cgt (tgt : Nat) : gT := fun _ _ X _ K μ lc st => match st with
  | .int y :: .int x :: r => (y < x → X tgt μ lc r) ∧ (¬ y < x → K μ lc r)
  | _ => False
theorem s_cgt {mt : List gMi} {own : String} {cc : ByteArray} {nL : Nat} {rt : Option FieldType} {pc : Nat} (tgt : Nat) {off : Int} (ht : (pc : Int) + off = (tgt : Int)) (hd : decode cc pc = .ok (.if_icmp .gt off, 3)) : gSnd mt own cc nL rt pc 3 (i_cgt tgt) := by
  intro p l e R s m args below meth c cells slots Q E S C X P hB hC hX hR hf K hK μ lc st h
  simp only [i_cgt] at h
  split at h
  · exact fun H locs ls hr hl hh => lv_icmp_gt hB.1 hB.2.1 hd ht (fun q => hX _ _ _ _ (h.1 q) H locs ls hr hl hh) (fun q => hK _ _ _ (h.2 q) H locs ls hr hl hh)
  · exact h.elim
def i_cle (tgt : Nat) : gT := fun _ _ X _ K μ lc st => match st with
  | .int y :: .int x :: r => (x ≤ y → X tgt μ lc r) ∧ (¬ x ≤ y → K μ lc r)
  | _ => False
theorem s_cle {mt : List gMi} {own : String} {cc : ByteArray} {nL : Nat} {rt : Option FieldType} {pc : Nat} (tgt : Nat) {off : Int} (ht : (pc : Int) + off = (tgt : Int)) (hd : decode cc pc = .ok (.if_icmp .le off, 3)) : gSnd mt own cc nL rt pc 3 (i_cle tgt) := by
  intro p l e R s m args below meth c cells slots Q E S C X P hB hC hX hR hf K hK μ lc st h
  simp only [i_cle] at h
  split at h
  · exact fun H locs ls hr hl hh => lv_icmp_le hB.1 hB.2.1 hd ht (fun q => hX _ _ _ _ (h.1 q) H locs ls hr hl hh) (fun q => hK _ _ _ (h.2 q) H locs ls hr hl hh)
  · exact h.elim
def i_zeq (tgt : Nat) : gT := fun _ _ X _ K μ lc st => match st with
  | .int x :: r => (x = 0 → X tgt μ lc r) ∧ (¬ x = 0 → K μ lc r)
  | _ => False
theorem s_zeq {mt : List gMi} {own : String} {cc : ByteArray} {nL : Nat} {rt : Option FieldType} {pc : Nat} (tgt : Nat) {off : Int} (ht : (pc : Int) + off = (tgt : Int)) (hd : decode cc pc = .ok (.ifCond .eq off, 3)) : gSnd mt own cc nL rt pc 3 (i_zeq tgt) := by
  intro p l e R s m args below meth c cells slots Q E S C X P hB hC hX hR hf K hK μ lc st h
  simp only [i_zeq] at h
  split at h
  · exact fun H locs ls hr hl hh => lv_if_eq hB.1 hB.2.1 hd ht (fun q => hX _ _ _ _ (h.1 q) H locs ls hr hl hh) (fun q => hK _ _ _ (h.2 q) H locs ls hr hl hh)
  · exact h.elim
def i_zne (tgt : Nat) : gT := fun _ _ X _ K μ lc st => match st with
  | .int x :: r => (¬ x = 0 → X tgt μ lc r) ∧ (x = 0 → K μ lc r)
  | _ => False
theorem s_zne {mt : List gMi} {own : String} {cc : ByteArray} {nL : Nat} {rt : Option FieldType} {pc : Nat} (tgt : Nat) {off : Int} (ht : (pc : Int) + off = (tgt : Int)) (hd : decode cc pc = .ok (.ifCond .ne off, 3)) : gSnd mt own cc nL rt pc 3 (i_zne tgt) := by
  intro p l e R s m args below meth c cells slots Q E S C X P hB hC hX hR hf K hK μ lc st h
  simp only [i_zne] at h
  split at h
  · exact fun H locs ls hr hl hh => lv_if_ne hB.1 hB.2.1 hd ht (fun q => hX _ _ _ _ (h.1 q) H locs ls hr hl hh) (fun q => hK _ _ _ (h.2 q) H locs ls hr hl hh)
  · exact h.elim
def i_zlt (tgt : Nat) : gT := fun _ _ X _ K μ lc st => match st with
  | .int x :: r => (x < 0 → X tgt μ lc r) ∧ (¬ x < 0 → K μ lc r)
  | _ => False
theorem s_zlt {mt : List gMi} {own : String} {cc : ByteArray} {nL : Nat} {rt : Option FieldType} {pc : Nat} (tgt : Nat) {off : Int} (ht : (pc : Int) + off = (tgt : Int)) (hd : decode cc pc = .ok (.ifCond .lt off, 3)) : gSnd mt own cc nL rt pc 3 (i_zlt tgt) := by
  intro p l e R s m args below meth c cells slots Q E S C X P hB hC hX hR hf K hK μ lc st h
  simp only [i_zlt] at h
  split at h
  · exact fun H locs ls hr hl hh => lv_if_lt hB.1 hB.2.1 hd ht (fun q => hX _ _ _ _ (h.1 q) H locs ls hr hl hh) (fun q => hK _ _ _ (h.2 q) H locs ls hr hl hh)
  · exact h.elim
def i_zge (tgt : Nat) : gT := fun _ _ X _ K μ lc st => match st with
  | .int x :: r => (0 ≤ x → X tgt μ lc r) ∧ (¬ 0 ≤ x → K μ lc r)
  | _ => False
theorem s_zge {mt : List gMi} {own : String} {cc : ByteArray} {nL : Nat} {rt : Option FieldType} {pc : Nat} (tgt : Nat) {off : Int} (ht : (pc : Int) + off = (tgt : Int)) (hd : decode cc pc = .ok (.ifCond .ge off, 3)) : gSnd mt own cc nL rt pc 3 (i_zge tgt) := by
  intro p l e R s m args below meth c cells slots Q E S C X P hB hC hX hR hf K hK μ lc st h
  simp only [i_zge] at h
  split at h
  · exact fun H locs ls hr hl hh => lv_if_ge hB.1 hB.2.1 hd ht (fun q => hX _ _ _ _ (h.1 q) H locs ls hr hl hh) (fun q => hK _ _ _ (h.2 q) H locs ls hr hl hh)
  · exact h.elim
def i_zgt (tgt : Nat) : gT := fun _ _ X _ K μ lc st => match st with
  | .int x :: r => (0 < x → X tgt μ lc r) ∧ (¬ 0 < x → K μ lc r)
  | _ => False
theorem s_zgt {mt : List gMi} {own : String} {cc : ByteArray} {nL : Nat} {rt : Option FieldType} {pc : Nat} (tgt : Nat) {off : Int} (ht : (pc : Int) + off = (tgt : Int)) (hd : decode cc pc = .ok (.ifCond .gt off, 3)) : gSnd mt own cc nL rt pc 3 (i_zgt tgt) := by
  intro p l e R s m args below meth c cells slots Q E S C X P hB hC hX hR hf K hK μ lc st h
  simp only [i_zgt] at h
  split at h
  · exact fun H locs ls hr hl hh => lv_if_gt hB.1 hB.2.1 hd ht (fun q => hX _ _ _ _ (h.1 q) H locs ls hr hl hh) (fun q => hK _ _ _ (h.2 q) H locs ls hr hl hh)
  · exact h.elim
def i_zle (tgt : Nat) : gT := fun _ _ X _ K μ lc st => match st with
  | .int x :: r => (x ≤ 0 → X tgt μ lc r) ∧ (¬ x ≤ 0 → K μ lc r)
  | _ => False
theorem s_zle {mt : List gMi} {own : String} {cc : ByteArray} {nL : Nat} {rt : Option FieldType} {pc : Nat} (tgt : Nat) {off : Int} (ht : (pc : Int) + off = (tgt : Int)) (hd : decode cc pc = .ok (.ifCond .le off, 3)) : gSnd mt own cc nL rt pc 3 (i_zle tgt) := by
  intro p l e R s m args below meth c cells slots Q E S C X P hB hC hX hR hf K hK μ lc st h
  simp only [i_zle] at h
  split at h
  · exact fun H locs ls hr hl hh => lv_if_le hB.1 hB.2.1 hd ht (fun q => hX _ _ _ _ (h.1 q) H locs ls hr hl hh) (fun q => hK _ _ _ (h.2 q) H locs ls hr hl hh)
  · exact h.elim
def i_goto (tgt : Nat) : gT := fun _ _ X _ _ μ lc st => X tgt μ lc st
theorem s_goto {mt : List gMi} {own : String} {cc : ByteArray} {nL : Nat} {rt : Option FieldType} {pc : Nat} (tgt : Nat) {off : Int} (ht : (pc : Int) + off = (tgt : Int)) (hd : decode cc pc = .ok (.goto off, 3)) : gSnd mt own cc nL rt pc 3 (i_goto tgt) := by
  intro p l e R s m args below meth c cells slots Q E S C X P hB hC hX hR hf K hK μ lc st h
  exact fun H locs ls hr hl hh => lv_goto hB.1 hB.2.1 hd ht (hX _ _ _ _ h H locs ls hr hl hh)
def i_nn (tgt : Nat) : gT := fun _ _ X _ K μ lc st => match st with
  | .ref _ :: r => X tgt μ lc r
  | .null :: r => K μ lc r
  | _ => False
theorem s_nn {mt : List gMi} {own : String} {cc : ByteArray} {nL : Nat} {rt : Option FieldType} {pc : Nat} (tgt : Nat) {off : Int} (ht : (pc : Int) + off = (tgt : Int)) (hd : decode cc pc = .ok (.ifnonnull off, 3)) : gSnd mt own cc nL rt pc 3 (i_nn tgt) := by
  intro p l e R s m args below meth c cells slots Q E S C X P hB hC hX hR hf K hK μ lc st h
  simp only [i_nn] at h
  split at h
  · exact fun H locs ls hr hl hh => lv_ifnonnull hB.1 hB.2.1 hd ht (hX _ _ _ _ h H locs ls hr hl hh)
  · exact fun H locs ls hr hl hh => lv_ifnonnullN hB.1 hB.2.1 hd (hK _ _ _ h H locs ls hr hl hh)
  · exact h.elim
def i_retI : gT := fun _ _ _ P _ μ _ st => match st with
  | [.int x] => P (some (.int x)) μ
  | _ => False
theorem s_retI {mt : List gMi} {own : String} {cc : ByteArray} {nL : Nat} {rt : Option FieldType} {pc : Nat} (hrt : rt = some .int) (hd : decode cc pc = .ok (.ireturn, 1)) : gSnd mt own cc nL rt pc 1 i_retI := by
  intro p l e R s m args below meth c cells slots Q E S C X P hB hC hX hR hf K hK μ lc st h
  simp only [i_retI] at h
  split at h
  · exact fun H locs ls hr hl hh => hR pc _ μ H locs ls h hr hl (Or.inr (Or.inl ⟨hrt, _, rfl⟩)) hd
  · exact h.elim
def i_retL : gT := fun _ _ _ P _ μ _ st => match st with
  | [.long x] => P (some (.long x)) μ
  | _ => False
theorem s_retL {mt : List gMi} {own : String} {cc : ByteArray} {nL : Nat} {rt : Option FieldType} {pc : Nat} (hrt : rt = some .long) (hd : decode cc pc = .ok (.lreturn, 1)) : gSnd mt own cc nL rt pc 1 i_retL := by
  intro p l e R s m args below meth c cells slots Q E S C X P hB hC hX hR hf K hK μ lc st h
  simp only [i_retL] at h
  split at h
  · exact fun H locs ls hr hl hh => hR pc _ μ H locs ls h hr hl (Or.inr (Or.inr (Or.inr (Or.inl ⟨hrt, _, rfl⟩)))) hd
  · exact h.elim
def i_retV : gT := fun _ _ _ P _ μ _ st => match st with
  | [] => P (none) μ
  | _ => False
theorem s_retV {mt : List gMi} {own : String} {cc : ByteArray} {nL : Nat} {rt : Option FieldType} {pc : Nat} (hrt : rt = none) (hd : decode cc pc = .ok (.return_, 1)) : gSnd mt own cc nL rt pc 1 i_retV := by
  intro p l e R s m args below meth c cells slots Q E S C X P hB hC hX hR hf K hK μ lc st h
  simp only [i_retV] at h
  split at h
  · exact fun H locs ls hr hl hh => hR pc _ μ H locs ls h hr hl (Or.inl ⟨hrt, rfl⟩) hd
  · exact h.elim
def i_retZ : gT := fun _ _ _ P _ μ _ st => match st with
  | [.int x] => (x = 0 ∨ x = 1) ∧ P (some (.int x)) μ
  | _ => False
theorem g_nz {x : Int32} (h : x = 0 ∨ x = 1) : narrow .boolean (.int x) = .int x := by rcases h with rfl | rfl <;> rfl
theorem s_retZ {mt : List gMi} {own : String} {cc : ByteArray} {nL : Nat} {rt : Option FieldType} {pc : Nat} (hrt : rt = some .boolean) (hd : decode cc pc = .ok (.ireturn, 1)) : gSnd mt own cc nL rt pc 1 i_retZ := by
  intro p l e R s m args below meth c cells slots Q E S C X P hB hC hX hR hf K hK μ lc st h
  simp only [i_retZ] at h
  split at h
  · exact fun H locs ls hr hl hh => hR pc _ μ H locs ls h.2 hr hl (Or.inr (Or.inr (Or.inl ⟨hrt, _, rfl, g_nz h.1⟩))) hd
  · exact h.elim
def i_retA : gT := fun _ _ _ P _ μ _ st => match st with
  | [.ref x] => P (some (.ref x)) μ
  | [.null] => P (some .null) μ
  | _ => False
theorem s_retA {mt : List gMi} {own : String} {cc : ByteArray} {nL : Nat} {rt : Option FieldType} {pc : Nat} (hrt : (∃ n, rt = some (.object n)) ∨ ∃ t, rt = some (.array t)) (hd : decode cc pc = .ok (.areturn, 1)) : gSnd mt own cc nL rt pc 1 i_retA := by
  intro p l e R s m args below meth c cells slots Q E S C X P hB hC hX hR hf K hK μ lc st h
  simp only [i_retA] at h
  split at h
  · exact fun H locs ls hr hl hh => hR pc _ μ H locs ls h hr hl (Or.inr (Or.inr (Or.inr (Or.inr ⟨hrt, Or.inr ⟨_, rfl⟩⟩)))) hd
  · exact fun H locs ls hr hl hh => hR pc _ μ H locs ls h hr hl (Or.inr (Or.inr (Or.inr (Or.inr ⟨hrt, Or.inl rfl⟩)))) hd
  · exact h.elim
