abbrev kTb2 : List (List (Nat × Nat × gT2)) := [Q_X8_init, Q_X0_init, Q_X3_init, Q_X7_init, Q_X9_init, Q_X2_init, Q_X6_init, Q_X1_init, Q_X4_init, Q_X5_init, Q_X10_init, Q_X11_init]
def gRun2 : Nat → gC2
  | 0 => fun _ _ _ _ _ _ => False
  | h + 1 => fun y as S n μ P => ∃ (i : gMj) (k : List (Nat × Nat × gT2)), cTb[y]? = some i ∧ kTb2[y]? = some k ∧ (lg_sl as).length ≤ i.1.2.2.1 ∧ ∀ X : Nat → gK2, gClo2 k (fun S => gRun S h) (gRun2 h) i.2.1 i.2.2 P X → X 0 (S, n, 0, 0) μ (gEnt i.1.2.2.1 as) []
def gOk2 (i : gMj) (k : List (Nat × Nat × gT2)) : Prop := gAll2 cTb "<init>" i.1.1.cls i.1.2.1 i.1.2.2.1 i.1.2.2.2 k
def gZ2 : List gMj → List (List (Nat × Nat × gT2)) → Prop
  | [], [] => True
  | i :: r, k :: q => gOk2 i k ∧ gZ2 r q
  | _, _ => False
theorem gZ2_get : ∀ (a : List gMj) (b : List (List (Nat × Nat × gT2))) (y : Nat) (i : gMj) (k : List (Nat × Nat × gT2)), gZ2 a b → a[y]? = some i → b[y]? = some k → gOk2 i k
  | [], [], y, i, k, _, h1, _ => by simp at h1
  | i0 :: r, k0 :: q, 0, i, k, h, h1, h2 => by
    simp only [List.getElem?_cons_zero, Option.some.injEq] at h1 h2
    subst h1; subst h2
    exact h.1
  | i0 :: r, k0 :: q, y + 1, i, k, h, h1, h2 => by
    rw [List.getElem?_cons_succ] at h1 h2
    exact gZ2_get r q y i k h.2 h1 h2
  | [], _ :: _, _, _, _, h, _, _ => h.elim
  | _ :: _, [], _, _, _, h, _, _ => h.elim
theorem gZ2_c {i : gMj} {k : List (Nat × Nat × gT2)} {r : List gMj} {q : List (List (Nat × Nat × gT2))} (h1 : gOk2 i k) (h2 : gZ2 r q) : gZ2 (i :: r) (k :: q) := ⟨h1, h2⟩
set_option maxRecDepth 20000 in
theorem gZ2_all : gZ2 cTb kTb2 := gZ2_c (i := ((yX8_init, cX8_init, 1, none), 0, 0)) U_X8_init (gZ2_c (i := ((yX0_init, cX0_init, 1, none), 2, 800)) U_X0_init (gZ2_c (i := ((yX3_init, cX3_init, 1, none), 1, 10)) U_X3_init (gZ2_c (i := ((yX7_init, cX7_init, 1, none), 1, 2000)) U_X7_init (gZ2_c (i := ((yX9_init, cX9_init, 1, none), 3, 1203)) U_X9_init (gZ2_c (i := ((yX2_init, cX2_init, 1, none), 4, 1207)) U_X2_init (gZ2_c (i := ((yX6_init, cX6_init, 2, none), 9, 1338)) U_X6_init (gZ2_c (i := ((yX1_init, cX1_init, 1, none), 5, 104)) U_X1_init (gZ2_c (i := ((yX4_init, cX4_init, 1, none), 10, 5014)) U_X4_init (gZ2_c (i := ((yX5_init, cX5_init, 2, none), 26, 1452)) U_X5_init (gZ2_c (i := ((yX10_init, cX10_init, 2, none), 109, 17546)) U_X10_init (gZ2_c (i := ((yX11_init, cX11_init, 2, none), 57, 150020)) U_X11_init (True.intro))))))))))))
theorem gPlain2 : cTb.all (fun i => plainName i.1.1.cls && decide (i.1.2.2.1 ≤ 41) && decide (i.1.2.2.2 = none) && decide (i.1.1.name = "<init>")) = true := by decide +kernel
theorem gPl2 {y : Nat} {i : gMj} (h : cTb[y]? = some i) : plainName i.1.1.cls = true ∧ i.1.2.2.1 ≤ 41 ∧ i.1.2.2.2 = none ∧ i.1.1.name = "<init>" := by
  have := List.all_eq_true.mp gPlain2 i (List.mem_of_getElem? h)
  simp only [Bool.and_eq_true, decide_eq_true_eq] at this
  exact ⟨this.1.1.1, this.1.1.2, this.1.2, this.2⟩
theorem gRSy_met {p : Program} {l : Launch} {e : Env} {R : Room} {s : State} {m : MethodId} {args : Array Value} {below : List Frame} {meth : Method} {c : Code} {mc ms : Nat} {E : gE} {cc : ByteArray} {rt : Option FieldType} {P : gP2} (hx : p.tables.exec = Jvm.exec) (hb : c.code = cc) (hr : meth.sig.returnType = rt) (hrt : rt = none) (hlocks : meth.locks = false) :
    gRSy p l e R s m args below meth c mc ms (MQ below (gQy E P) args s mc ms (gFr E)) E cc rt P := by
  intro A hA pc v μ H locs ls hP hrep hl hro hd
  subst hrt
  rcases hro with ⟨h1, rfl⟩ | ⟨h1, -⟩ | ⟨h1, -⟩ | ⟨h1, -⟩ | ⟨h1, -⟩
  · refine W.widen (k := mc) (n := ms) hP.1 hP.2.1 ?_
    exact W.vret hx hb hr (fun t ht hW => ⟨none, A.1, A.2.1, μ, rfl, hP.2.2, hA, by rw [ht]; exact gRep.moved hW.alike hrep⟩) hl hd hlocks
  · cases h1
  · cases h1
  · cases h1
  · rcases h1 with ⟨n, h1⟩ | ⟨t, h1⟩ <;> cases h1
theorem gRun2_met (l : Launch) (E : gE) : ∀ (h y : Nat) (i : gMj) (as : List Value) (S : gSh) (n : Nat) (μ : gM) (P : gP2), cTb[y]? = some i → gRun2 h y as S n μ P → Met l i.1.1 (gWs i.1) (gRm2 h i.2.1 i.2.2) (gPy E as S n μ) (gQy E P) i.2.1 i.2.2 (gFr E) := by
  intro h
  induction h with
  | zero => intro y i as S n μ P hi hr; exact hr.elim
  | succ h ih =>
    intro y i as S n μ P hi hr
    obtain ⟨i', k, hi', hk, hlen, hX⟩ := hr
    cases hi.symm.trans hi'
    have hS := gZ2_get cTb kTb2 y i k gZ2_all hi hk
    obtain ⟨p1, p2, p3, p4⟩ := gPl2 hi
    refine Met.ofW (cc := i.1.2.1) (maxL := i.1.2.2.1) (ret := i.1.2.2.2) p1 rfl ?_
    intro p e s m args below meth c s₁ B hml hv
    obtain ⟨rfl, hcy, hA, hrep⟩ := hv
    rw [lg_entry_eq]
    have hB : gBd p s m as.toArray c E i.1.1.cls i.1.2.1 i.1.2.2.1 := ⟨B.exec, B.bytes, hml, findClass_of_methodNamed B.named, fun w hw => atoms_spec (ws := gWs i.1) B.pre w (List.mem_cons_of_mem _ hw), hcy.1⟩
    have hC : ∀ S, gCa l (headSpec (gWs i.1) (gRm2 (h + 1) i.2.1 i.2.2)).room E S mTb (gRun S h) := fun S y2 i2 as2 μ2 P2 hy2 hr2 => ⟨h, Nat.le_refl _, by have := (gPl hy2).2; show 8 + (i2.2.2.1 + 11) + 60 * h ≤ 60 * (h + 1); omega, gRun_met l E S h y2 i2 as2 μ2 P2 hy2 hr2⟩
    have hC2 : gCb l (headSpec (gWs i.1) (gRm2 (h + 1) i.2.1 i.2.2)).room E cTb (gRun2 h) := fun y2 i2 as2 S2 n2 μ2 P2 hy2 hr2 => ⟨h, Nat.le_refl _, by have := (gPl2 hy2).2.1; show 8 + (i2.1.2.2.1 + 11) + 60 * h ≤ 60 * (h + 1); omega, ih y2 i2 as2 S2 n2 μ2 P2 hy2 hr2⟩
    refine hX (fun pc A μ lc st => gGy p l e (headSpec (gWs i.1) (gRm2 (h + 1) i.2.1 i.2.2)).room s m as.toArray below meth c (MQ below (gQy E P) as.toArray s i.2.1 i.2.2 (gFr E)) E i.1.2.2.1 pc A μ lc st) ?_ hA ⟨Nat.zero_le _, Nat.zero_le _⟩ s.heap [] _ hrep (fun q hq => absurd hq List.not_mem_nil) (gEnt_has as hlen)
    intro en he K hK A μ lc st ht
    exact hS en he p l e _ s m as.toArray below meth c i.2.1 i.2.2 _ E (fun S => gRun S h) (gRun2 h) _ P hB hcy ((name_of_methodNamed B.named B.method).1.trans p4) hC hC2 (fun q A μ lc st hx => hx) (gRSy_met B.exec B.bytes B.returns p3 B.notSynchronized) ⟨rfl, rfl, (by show 1 ≤ h + 1; omega), (by show 60 ≤ 60 * (h + 1); omega)⟩ K hK A μ lc st ht
theorem r2_X8 {h : Nat} {as : List Value} {S : gSh} {n : Nat} {μ : gM} {P : gP2} (hl : (lg_sl as).length ≤ 1) (hX : ∀ X : Nat → gK2, gClo2 Q_X8_init (fun S => gRun S h) (gRun2 h) 0 0 P X → X 0 (S, n, 0, 0) μ (gEnt 1 as) []) : gRun2 (h + 1) 0 as S n μ P := ⟨((yX8_init, cX8_init, 1, none), 0, 0), Q_X8_init, rfl, rfl, hl, hX⟩
theorem r2_X0 {h : Nat} {as : List Value} {S : gSh} {n : Nat} {μ : gM} {P : gP2} (hl : (lg_sl as).length ≤ 1) (hX : ∀ X : Nat → gK2, gClo2 Q_X0_init (fun S => gRun S h) (gRun2 h) 2 800 P X → X 0 (S, n, 0, 0) μ (gEnt 1 as) []) : gRun2 (h + 1) 1 as S n μ P := ⟨((yX0_init, cX0_init, 1, none), 2, 800), Q_X0_init, rfl, rfl, hl, hX⟩
theorem r2_X3 {h : Nat} {as : List Value} {S : gSh} {n : Nat} {μ : gM} {P : gP2} (hl : (lg_sl as).length ≤ 1) (hX : ∀ X : Nat → gK2, gClo2 Q_X3_init (fun S => gRun S h) (gRun2 h) 1 10 P X → X 0 (S, n, 0, 0) μ (gEnt 1 as) []) : gRun2 (h + 1) 2 as S n μ P := ⟨((yX3_init, cX3_init, 1, none), 1, 10), Q_X3_init, rfl, rfl, hl, hX⟩
theorem r2_X7 {h : Nat} {as : List Value} {S : gSh} {n : Nat} {μ : gM} {P : gP2} (hl : (lg_sl as).length ≤ 1) (hX : ∀ X : Nat → gK2, gClo2 Q_X7_init (fun S => gRun S h) (gRun2 h) 1 2000 P X → X 0 (S, n, 0, 0) μ (gEnt 1 as) []) : gRun2 (h + 1) 3 as S n μ P := ⟨((yX7_init, cX7_init, 1, none), 1, 2000), Q_X7_init, rfl, rfl, hl, hX⟩
theorem r2_X9 {h : Nat} {as : List Value} {S : gSh} {n : Nat} {μ : gM} {P : gP2} (hl : (lg_sl as).length ≤ 1) (hX : ∀ X : Nat → gK2, gClo2 Q_X9_init (fun S => gRun S h) (gRun2 h) 3 1203 P X → X 0 (S, n, 0, 0) μ (gEnt 1 as) []) : gRun2 (h + 1) 4 as S n μ P := ⟨((yX9_init, cX9_init, 1, none), 3, 1203), Q_X9_init, rfl, rfl, hl, hX⟩
theorem r2_X2 {h : Nat} {as : List Value} {S : gSh} {n : Nat} {μ : gM} {P : gP2} (hl : (lg_sl as).length ≤ 1) (hX : ∀ X : Nat → gK2, gClo2 Q_X2_init (fun S => gRun S h) (gRun2 h) 4 1207 P X → X 0 (S, n, 0, 0) μ (gEnt 1 as) []) : gRun2 (h + 1) 5 as S n μ P := ⟨((yX2_init, cX2_init, 1, none), 4, 1207), Q_X2_init, rfl, rfl, hl, hX⟩
theorem r2_X6 {h : Nat} {as : List Value} {S : gSh} {n : Nat} {μ : gM} {P : gP2} (hl : (lg_sl as).length ≤ 2) (hX : ∀ X : Nat → gK2, gClo2 Q_X6_init (fun S => gRun S h) (gRun2 h) 9 1338 P X → X 0 (S, n, 0, 0) μ (gEnt 2 as) []) : gRun2 (h + 1) 6 as S n μ P := ⟨((yX6_init, cX6_init, 2, none), 9, 1338), Q_X6_init, rfl, rfl, hl, hX⟩
theorem r2_X1 {h : Nat} {as : List Value} {S : gSh} {n : Nat} {μ : gM} {P : gP2} (hl : (lg_sl as).length ≤ 1) (hX : ∀ X : Nat → gK2, gClo2 Q_X1_init (fun S => gRun S h) (gRun2 h) 5 104 P X → X 0 (S, n, 0, 0) μ (gEnt 1 as) []) : gRun2 (h + 1) 7 as S n μ P := ⟨((yX1_init, cX1_init, 1, none), 5, 104), Q_X1_init, rfl, rfl, hl, hX⟩
theorem r2_X4 {h : Nat} {as : List Value} {S : gSh} {n : Nat} {μ : gM} {P : gP2} (hl : (lg_sl as).length ≤ 1) (hX : ∀ X : Nat → gK2, gClo2 Q_X4_init (fun S => gRun S h) (gRun2 h) 10 5014 P X → X 0 (S, n, 0, 0) μ (gEnt 1 as) []) : gRun2 (h + 1) 8 as S n μ P := ⟨((yX4_init, cX4_init, 1, none), 10, 5014), Q_X4_init, rfl, rfl, hl, hX⟩
theorem r2_X5 {h : Nat} {as : List Value} {S : gSh} {n : Nat} {μ : gM} {P : gP2} (hl : (lg_sl as).length ≤ 2) (hX : ∀ X : Nat → gK2, gClo2 Q_X5_init (fun S => gRun S h) (gRun2 h) 26 1452 P X → X 0 (S, n, 0, 0) μ (gEnt 2 as) []) : gRun2 (h + 1) 9 as S n μ P := ⟨((yX5_init, cX5_init, 2, none), 26, 1452), Q_X5_init, rfl, rfl, hl, hX⟩
theorem r2_X10 {h : Nat} {as : List Value} {S : gSh} {n : Nat} {μ : gM} {P : gP2} (hl : (lg_sl as).length ≤ 2) (hX : ∀ X : Nat → gK2, gClo2 Q_X10_init (fun S => gRun S h) (gRun2 h) 109 17546 P X → X 0 (S, n, 0, 0) μ (gEnt 2 as) []) : gRun2 (h + 1) 10 as S n μ P := ⟨((yX10_init, cX10_init, 2, none), 109, 17546), Q_X10_init, rfl, rfl, hl, hX⟩
theorem r2_X11 {h : Nat} {as : List Value} {S : gSh} {n : Nat} {μ : gM} {P : gP2} (hl : (lg_sl as).length ≤ 2) (hX : ∀ X : Nat → gK2, gClo2 Q_X11_init (fun S => gRun S h) (gRun2 h) 57 150020 P X → X 0 (S, n, 0, 0) μ (gEnt 2 as) []) : gRun2 (h + 1) 11 as S n μ P := ⟨((yX11_init, cX11_init, 2, none), 57, 150020), Q_X11_init, rfl, rfl, hl, hX⟩
