def g0S (tW tK b L : Nat) : gSh := fun a => if a = tW then some (.inr (11, 7)) else if a = tK then some (.inr (10, 7)) else if a = b then some (.inr (10, L)) else none
def g0M (tW tK b : Nat) (xs : Nat → Int32) : gM := (fun a j => if a = tK then gKinds j else if a = b then xs j else 0, fun a j => if a = tW then gWords j else 0, fun _ _ => 0)
/-- THE LAW, of the abstract machine: what is left to be shown -/
def gLaw : Prop := ∀ (base tW tK b L : Nat) (xs : Nat → Int32), 0 < base → tW < base → tK < base → b < base → tW ≠ tK → tW ≠ b → (b = tK → L = 7 ∧ ∀ j, j < 7 → xs j = gKinds j) → L ≤ 3072 →
  ∀ X : Nat → gK2, gClo2 Q_Z_law (fun S => gRun S 100) (gRun2 101) 600000 7302250 (fun v _ _ _ => v = some (.int 1)) X → X 0 (g0S tW tK b L, base, 0, 0) (g0M tW tK b xs) (gEnt 4 [.ref b]) []
theorem gKey {s : State} {args : Array Value} (hts : ∀ w ∈ lw_tbl, w.before args s = true) : ∀ k : Nat, ∃ (cC : ClassId) (iS : Nat → Nat), ∀ q : vw_C, vwCl[k]? = some q → u_Kn s q.1 q.2.1 q.2.2 cC iS := by
  intro k
  have sub : ∀ {C : String} {T : u_T} {N : Nat}, (∀ w ∈ u_ws C T N, w ∈ gTab) → ∀ w ∈ u_ws C T N, w ∈ lw_tbl := fun h w hw => (gTab_good (h w hw)).1
  match k with
  | 0 => obtain ⟨a, i, h⟩ := u_known (C := RX0) (T := TX0) (N := 14) (n := 14) hts (sub gIn_0) (hts _ (gTab_good in_X0).1); exact ⟨a, i, fun q hq => by cases hq; exact h⟩
  | 1 => obtain ⟨a, i, h⟩ := u_known (C := RX1) (T := TX1) (N := 10) (n := 10) hts (sub gIn_1) (hts _ (gTab_good in_X1).1); exact ⟨a, i, fun q hq => by cases hq; exact h⟩
  | 2 => obtain ⟨a, i, h⟩ := u_known (C := RX2) (T := TX2) (N := 5) (n := 5) hts (sub gIn_2) (hts _ (gTab_good in_X2).1); exact ⟨a, i, fun q hq => by cases hq; exact h⟩
  | 3 => obtain ⟨a, i, h⟩ := u_known (C := RX3) (T := TX3) (N := 4) (n := 4) hts (sub gIn_3) (hts _ (gTab_good in_X3).1); exact ⟨a, i, fun q hq => by cases hq; exact h⟩
  | 4 => obtain ⟨a, i, h⟩ := u_known (C := RX4) (T := TX4) (N := 17) (n := 17) hts (sub gIn_4) (hts _ (gTab_good in_X4).1); exact ⟨a, i, fun q hq => by cases hq; exact h⟩
  | 5 => obtain ⟨a, i, h⟩ := u_known (C := RX5) (T := TX5) (N := 13) (n := 13) hts (sub gIn_5) (hts _ (gTab_good in_X5).1); exact ⟨a, i, fun q hq => by cases hq; exact h⟩
  | 6 => obtain ⟨a, i, h⟩ := u_known (C := RX6) (T := TX6) (N := 15) (n := 15) hts (sub gIn_6) (hts _ (gTab_good in_X6).1); exact ⟨a, i, fun q hq => by cases hq; exact h⟩
  | 7 => obtain ⟨a, i, h⟩ := u_known (C := RX7) (T := TX7) (N := 2) (n := 2) hts (sub gIn_7) (hts _ (gTab_good in_X7).1); exact ⟨a, i, fun q hq => by cases hq; exact h⟩
  | 8 => obtain ⟨a, i, h⟩ := u_known (C := RX8) (T := TX8) (N := 11) (n := 11) hts (sub gIn_8) (hts _ (gTab_good in_X8).1); exact ⟨a, i, fun q hq => by cases hq; exact h⟩
  | 9 => obtain ⟨a, i, h⟩ := u_known (C := RX9) (T := TX9) (N := 4) (n := 4) hts (sub gIn_9) (hts _ (gTab_good in_X9).1); exact ⟨a, i, fun q hq => by cases hq; exact h⟩
  | 10 => obtain ⟨a, i, h⟩ := u_known (C := RX10) (T := TX10) (N := 12) (n := 12) hts (sub gIn_10) (hts _ (gTab_good in_X10).1); exact ⟨a, i, fun q hq => by cases hq; exact h⟩
  | 11 => obtain ⟨a, i, h⟩ := u_known (C := RX11) (T := TX11) (N := 87) (n := 87) hts (sub gIn_11) (hts _ (gTab_good in_X11).1); exact ⟨a, i, fun q hq => by cases hq; exact h⟩
  | k + 12 => exact ⟨0, fun _ => 0, fun q hq => by simp [vwCl] at hq⟩
theorem gArrs {s : State} {args : Array Value} (hts : ∀ w ∈ lw_tbl, w.before args s = true) (hB : (Cond.arrayOver (.object "GaugeWall$Box")) ∈ lw_tbl) (hT : (Cond.arrayOver (.object "GaugeWall$Tell")) ∈ lw_tbl) : ∃ dA : Nat → ClassId, ∀ t, t < 6 → ArrOfT s (dA t) (gElt t) ∧ va_RA s (dA t) (gElt t) := by
  have prim : ∀ {ty : FieldType}, Cond.arrayClass ty ∈ lw_tbl → ∃ c : ClassId, s.vm.findClass ("[" ++ ty.toString) = some c ∧ ArrOfT s c ty := by
    intro ty hm
    obtain ⟨c, k, comp, h1, h2, h3⟩ := Cond.arrayClass_spec (hts _ hm)
    exact ⟨c, h1, fun n z => ⟨fun k h => (by cases h), k, h2, comp, h3⟩⟩
  have refs : ∀ {C : String}, Cond.arrayOver (.object C) ∈ lw_tbl → ∃ c : ClassId, ArrOfT s c (.object C) ∧ va_RA s c (.object C) := by
    intro C hm
    obtain ⟨comp, c, k, h1, h2, h3, h4, h5⟩ := Cond.arrayOver_spec (hts _ hm)
    exact ⟨c, fun n z => ⟨fun k h => (by cases h), k, h3, comp, h4⟩, k, comp, h3, h4, h1, h5⟩
  obtain ⟨c0, a0, b0⟩ := prim (gTab_good ac_int).1
  obtain ⟨c1, a1, b1⟩ := prim (gTab_good ac_long).1
  obtain ⟨c2, a2, b2⟩ := prim (gTab_good ac_byte).1
  obtain ⟨c3, a3, b3⟩ := prim (gTab_good ac_boolean).1
  obtain ⟨c4, a4, b4⟩ := refs hB
  obtain ⟨c5, a5, b5⟩ := refs hT
  refine ⟨fun t => match t with | 0 => c0 | 1 => c1 | 2 => c2 | 3 => c3 | 4 => c4 | _ => c5, fun t ht => ?_⟩
  rcases (show t = 0 ∨ t = 1 ∨ t = 2 ∨ t = 3 ∨ t = 4 ∨ t = 5 by omega) with rfl | rfl | rfl | rfl | rfl | rfl
  · exact ⟨b0, a0⟩
  · exact ⟨b1, a1⟩
  · exact ⟨b2, a2⟩
  · exact ⟨b3, a3⟩
  · exact ⟨a4, b4⟩
  · exact ⟨a5, b5⟩
theorem gStat {s : State} {args : Array Value} {A : Nat → Prop} (hts : ∀ w ∈ lw_tbl, w.before args s = true) (hgv : (Jvm.Cond.and given_1 narrow_1).before args s = true) (hA : ∀ a : Nat, a < s.heap.size → ¬ A a) (l1 : Cond.laysStatic "GaugeWall$Tokens" "WORDS" "[J" ∈ lw_tbl) (l2 : Cond.laysStatic "GaugeWall$Tokens" "WORD_KINDS" "[I" ∈ lw_tbl) :
    ∃ tW tK : Nat, va_T .long tW 7 (fun j => .long (gWords j)) A s s.heap ∧ va_T .int tK 7 (fun j => .int (gKinds j)) A s s.heap ∧ va_Z "GaugeWall$Tokens" "WORDS" "[J" (.ref tW) A s s.heap ∧ va_Z "GaugeWall$Tokens" "WORD_KINDS" "[I" (.ref tK) A s s.heap := by
  have hs := flat_of_before _ hgv
  have hini : (Cond.initialized "GaugeWall$Tokens").before args s = true := hts _ (gTab_good mn_X9).1
  obtain ⟨tW, w1, w2⟩ := va_Tof (tm := .static "GaugeWall$Tokens" "WORDS" "[J") (ty := .long) (N := 7) (f := fun j => .long (gWords j)) (A := A) (by decide) (hs _ (by decide +kernel)) (va_eqt (z := 7) (hs _ (by decide +kernel))) (fun j hj => by
    rcases (show j = 0 ∨ j = 1 ∨ j = 2 ∨ j = 3 ∨ j = 4 ∨ j = 5 ∨ j = 6 by omega) with rfl | rfl | rfl | rfl | rfl | rfl | rfl <;> exact va_eqtl (hs _ (by decide +kernel))) hA
  obtain ⟨tK, k1, k2⟩ := va_Tof (tm := .static "GaugeWall$Tokens" "WORD_KINDS" "[I") (ty := .int) (N := 7) (f := fun j => .int (gKinds j)) (A := A) (by decide) (hs _ (by decide +kernel)) (va_eqt (z := 7) (hs _ (by decide +kernel))) (fun j hj => by
    rcases (show j = 0 ∨ j = 1 ∨ j = 2 ∨ j = 3 ∨ j = 4 ∨ j = 5 ∨ j = 6 by omega) with rfl | rfl | rfl | rfl | rfl | rfl | rfl <;> exact va_eqt (hs _ (by decide +kernel))) hA
  exact ⟨tW, tK, w2, k2, va_Zof (hts _ l1) hini w1 hA, va_Zof (hts _ l2) hini k1 hA⟩
theorem gWd_oB : Cond.arrayOver (.object "GaugeWall$Box") ∈ lw_tbl := (gTb_1 _ (List.mem_of_getElem? (i := 145) rfl))
theorem gWd_oT : Cond.arrayOver (.object "GaugeWall$Tell") ∈ lw_tbl := (gTb_2 _ (List.mem_of_getElem? (i := 105) rfl))
theorem gWd_lW : Cond.laysStatic "GaugeWall$Tokens" "WORDS" "[J" ∈ lw_tbl := (gTb_3 _ (List.mem_of_getElem? (i := 63) rfl))
theorem gWd_lK : Cond.laysStatic "GaugeWall$Tokens" "WORD_KINDS" "[I" ∈ lw_tbl := (gTb_3 _ (List.mem_of_getElem? (i := 65) rfl))
def R_law : String := "GaugeWallLaw"
def lw_P (b : Addr) (xs : List Int32) (args : Array Value) (s : State) : Prop := args = #[.ref b] ∧ s.IntsAt b xs ∧ xs.length ≤ 3072 ∧ (Jvm.Cond.and given_1 narrow_1).before args s = true
def lw_Q (_ : Array Value) (s : State) (o : Outcome) (t : State) : Prop := o = .returned (some (.int 1)) ∧ Framed s o t [] 600000 7302250
def lw_Z (below : List Frame) (a : Array Value) (s : State) : State → Prop := fun t => ∃ o, t.status = .running ∧ Ended t below o ∧ lw_Q a s o t
/-- the law's own end, with 1 on the stack, nothing written that was there before, its room as the claim has it -/
theorem lw_ret {p : Program} {l : Launch} {e : Env} {s : State} {m : MethodId} {below : List Frame} {meth : Method} {c : Code} {b : Nat} (hx : p.tables.exec = Jvm.exec) (hb : c.code = code) (hr : meth.sig.returnType = ret) (hlocks : meth.locks = false) {pc : Nat} {H : Heap} {ls : Array Slot} (hdg : decode code pc = .ok (.ireturn, 1)) : W p l e room_1 s m #[Value.ref b] below meth c H [] 600000 7302250 (lw_Z below #[Value.ref b] s) (F0 m pc ls [.int 1]) := by
  intro T hT X
  obtain ⟨fs, hret, hrun, hended, hW, hframe⟩ := X.leave (v := some (.int 1)) (hlocks := hlocks) (fun h => by rw [hr] at h; cases h)
  have hmeth' : T.vm.method? m = some meth := X.method'
  refine ⟨T.setFrames fs, ?_, .returned (some (.int 1)), hrun, hended, rfl, ⟨_, rfl⟩, hW, hframe⟩
  jvm_step X.here [X.here.top, hx, hb, hdg, hmeth', hr, ret, narrow_b1]
  (try refine ⟨rfl, ?_⟩); (try refine ⟨rfl, ?_⟩)
  first | (intro acts; rw [hret _ acts rfl rfl rfl]) | rw [hret _ _ rfl rfl rfl]
  exact Steps.refl _
/-- what holds at the law's entry: the machine, the code, the tables' words (any of lw_tbl by 'hts w (by decide +kernel)'), the script of L ints xs at the cell b, what the Statement gives of the start (any of its parts by flat_of_before) -/
def lw_At (p : Program) (s : State) (m : MethodId) (meth : Method) (c : Code) (b L : Nat) (xs : Nat → Int32) : Prop :=
  p.tables.exec = Jvm.exec ∧ c.code = code ∧ meth.sig.returnType = ret ∧ c.maxLocals = 4 ∧ s.vm.findClass R_law = some m.cls ∧ (∀ w ∈ lw_tbl, w.before #[Value.ref b] s = true) ∧ va_X b L xs s s.heap ∧ b < s.heap.size ∧ meth.locks = false ∧ (Jvm.Cond.and given_1 narrow_1).before #[Value.ref b] s = true
theorem gStart {p : Program} {e : Env} {s : State} {m : MethodId} {below : List Frame} {meth : Method} {c : Code} (l : Launch) {b L : Nat} {xs : Nat → Int32} (hL : L ≤ 3072) (C0 : lw_At p s m meth c b L xs) (hlaw : gLaw) : W p l e room_1 s m #[Value.ref b] below meth c s.heap [] 0 0 (lw_Z below #[Value.ref b] s) (entryFrame m ([Value.ref b] : List Value).toArray 4) := by
  obtain ⟨hx, hb, hr, hml, hown, hts, hX, hbl, hlocks, hgv⟩ := id C0
  have hA0 : ∀ a : Nat, a < s.heap.size → ¬ (fun q : Nat => s.heap.size ≤ q) a := fun a h => Nat.not_le.mpr h
  obtain ⟨tW, tK, vW, vK, zW, zK⟩ := gStat hts hgv hA0 gWd_lW gWd_lK
  obtain ⟨dA, hdA⟩ := gArrs hts gWd_oB gWd_oT
  have key := gKey hts
  let E : gE := ((fun k => (key k).choose, fun k => (key k).choose_spec.choose), dA, s.heap.size, s.heap, tW, tK)
  have hK : va_K E.1 vwCl (gTys E) s := by
    refine ⟨fun k q hq => (key k).choose_spec.choose_spec q hq, fun t q hq => ?_⟩
    have ht : t < 6 := (List.getElem?_eq_some_iff.mp hq).1
    rw [gTys_get ht] at hq
    cases hq
    exact hdA t ht
  have hN : ∀ w ∈ gNest, va_Nw w s := by
    intro w hw
    obtain ⟨h1, h2⟩ := List.mem_filter.mp hw
    have hz := hts w h1
    cases w with
    | fieldLinkNest a i b n d h => exact va_Nw.of rfl hz
    | methodLinkNest a i x h => exact va_Nw.of rfl hz
    | _ => cases h2
  have hCx : gCx E s := ⟨hK, hN, zW, zK, by show 0 < s.heap.size; omega, rfl⟩
  have hCy : gCy E s := ⟨hCx, va_AO.of (hts _ gWd_oB), va_AO.of (hts _ gWd_oT)⟩
  obtain ⟨scr, x1, x2, x3, x4, x5⟩ := id hX
  obtain ⟨cw, w1, w2, w3, w4, w5, w6, w7⟩ := id vW
  obtain ⟨ck, k1, k2, k3, k4, k5, k6, k7⟩ := id vK
  have hWK : tW ≠ tK := by
    intro h
    subst h
    rw [w1] at k1
    cases k1
    obtain ⟨-, ka, a1, ca, a2⟩ := w2
    obtain ⟨-, kb, b1, cb, b2⟩ := k2
    rw [a1] at b1
    cases b1
    rw [a2] at b2
    cases b2
  have hWb : tW ≠ b := by
    intro h
    subst h
    rw [w1] at x1
    cases x1
    obtain ⟨-, ka, a1, ca, a2⟩ := w2
    obtain ⟨-, kb, b1, cb, b2⟩ := x2
    rw [a1] at b1
    cases b1
    rw [a2] at b2
    cases b2
  have hKb : b = tK → L = 7 ∧ ∀ j, j < 7 → xs j = gKinds j := by
    intro h
    subst h
    rw [k1] at x1
    cases x1
    have h7 : L = 7 := by
      rw [x4] at k5 k4
      have e1 : (L.toInt32).toInt = ((7 : Nat).toInt32).toInt := by rw [k5]
      have e2 : (nI L).toInt = (nI 7).toInt := e1
      rw [nI_toInt (by omega), nI_toInt (by omega)] at e2
      omega
    refine ⟨h7, fun j hj => ?_⟩
    have h1 := x5 j (by omega)
    have h2 := k6 j hj
    rw [h1] at h2
    exact Value.int.inj (Option.some.inj h2)
  have hlt : ∀ a, ¬ s.heap.size ≤ a → a < s.heap.size := fun a h => Nat.not_le.mp h
  have hAok : gAok E (g0S tW tK b L) s.heap.size := by
    refine ⟨fun a ha => ⟨fun _ => ha, fun _ => ?_⟩, Nat.le_refl _⟩
    have ha : s.heap.size ≤ a := ha
    have h1 : a ≠ tW := fun h => w7 (by rw [← h]; exact ha)
    have h2 : a ≠ tK := fun h => k7 (by rw [← h]; exact ha)
    have h3 : a ≠ b := by omega
    simp [g0S, h1, h2, h3]
  have hRep : gRep E (g0S tW tK b L) (g0M tW tK b xs) s s.heap := by
    refine ⟨fun q _ => rfl, fun a sh ha => ?_, ⟨?_, ?_, fun j _ => ?_, fun j _ => ?_⟩, fun a ha _ => ha⟩
    · unfold g0S at ha
      by_cases h1 : a = tW
      · subst h1
        rw [if_pos rfl] at ha
        cases ha
        refine ⟨cw, w1, w2, w3, w4, w5, fun j hj => ?_, w7⟩
        rw [w6 j hj]
        simp [g0M]
      · rw [if_neg h1] at ha
        by_cases h2 : a = tK
        · subst h2
          rw [if_pos rfl] at ha
          cases ha
          refine ⟨ck, k1, k2, k3, k4, k5, fun j hj => ?_, k7⟩
          rw [k6 j hj]
          simp [g0M]
        · rw [if_neg h2] at ha
          by_cases h3 : a = b
          · subst h3
            rw [if_pos rfl] at ha
            cases ha
            refine ⟨scr, x1, x2, x3, Nat.le_of_eq x4.symm, by rw [x4], fun j hj => ?_, Nat.not_le.mpr hbl⟩
            rw [x5 j hj]
            simp [g0M, h2]
          · rw [if_neg h3] at ha
            cases ha
    · simp [g0S, E]
    · simp [g0S, E, Ne.symm hWK]
    · simp [g0M, E]
    · simp [g0M, E]
  have hB : gBd p s m #[Value.ref b] c E RL cL_law 4 := ⟨hx, hb, hml, hown, fun w hw => hts w (gTab_good hw).1, hCx⟩
  have hC : ∀ S, gCa l room_1 E S mTb (gRun S 100) := fun S y2 i2 as2 μ2 P2 hy2 hr2 => ⟨100, by decide, by have := (gPl hy2).2; show 8 + (i2.2.2.1 + 11) + 60 * 100 ≤ 84000; omega, gRun_met l E S 100 y2 i2 as2 μ2 P2 hy2 hr2⟩
  have hC2 : gCb l room_1 E cTb (gRun2 101) := fun y2 i2 as2 S2 n2 μ2 P2 hy2 hr2 => ⟨101, by decide, by have := (gPl2 hy2).2.1; show 8 + (i2.1.2.2.1 + 11) + 60 * 101 ≤ 84000; omega, gRun2_met l E 101 y2 i2 as2 S2 n2 μ2 P2 hy2 hr2⟩
  rw [lg_entry_eq]
  refine hlaw s.heap.size tW tK b L xs (by omega) (hlt _ w7) (hlt _ k7) hbl hWK hWb hKb hL (fun pc A μ lc st => gGy p l e room_1 s m #[Value.ref b] below meth c (lw_Z below #[Value.ref b] s) E 4 pc A μ lc st) ?_ hAok ⟨Nat.zero_le _, Nat.zero_le _⟩ s.heap [] _ hRep (fun q hq => absurd hq List.not_mem_nil) (gEnt_has [.ref b] (by simp [lg_sl, Value.category]))
  intro en he K hK2 A μ lc st ht
  refine U_Z_law en he p l e room_1 s m #[Value.ref b] below meth c 600000 7302250 _ E (fun S => gRun S 100) (gRun2 101) _ _ hB hCy rfl hC hC2 (fun q A μ lc st hx => hx) ?_ ⟨rfl, rfl, by decide, by decide⟩ K hK2 A μ lc st ht
  intro A hA pc v μ H locs ls hP hrep hl hro hd
  obtain ⟨p1, p2, rfl⟩ := hP
  refine va_forget (fun q hq => hl q hq) ?_
  refine W.widen (k := 600000) (n := 7302250) p1 p2 ?_
  exact lw_ret hx hb hr hlocks hd
