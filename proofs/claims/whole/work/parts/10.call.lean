def gSp : Nat → List Value → List Value → Option (List Value × List Value)
  | 0, acc, st => some (acc, st)
  | n + 1, acc, v :: st => gSp n (v :: acc) st
  | _ + 1, _, [] => none
theorem gSp_spec : ∀ (n : Nat) (acc st as rest : List Value), gSp n acc st = some (as, rest) → ∃ fr : List Value, st = fr ++ rest ∧ as = fr.reverse ++ acc ∧ fr.length = n
  | 0, acc, st, as, rest, h => by
    simp only [gSp, Option.some.injEq, Prod.mk.injEq] at h
    exact ⟨[], by simp [h.2], by simp [h.1], rfl⟩
  | n + 1, acc, v :: st, as, rest, h => by
    simp only [gSp] at h
    obtain ⟨fr, h1, h2, h3⟩ := gSp_spec n (v :: acc) st as rest h
    exact ⟨v :: fr, by simp [h1], by simp [h2], by simp [h3]⟩
  | n + 1, acc, [], as, rest, h => by simp [gSp] at h
theorem gSp_nil {n : Nat} {st as rest : List Value} (h : gSp n [] st = some (as, rest)) : st = as.reverse ++ rest ∧ as.length = n := by
  obtain ⟨fr, h1, h2, h3⟩ := gSp_spec n [] st as rest h
  rw [List.append_nil] at h2
  exact ⟨by rw [h2, List.reverse_reverse]; exact h1, by rw [h2, List.length_reverse]; exact h3⟩
def gCt : List Value → Nat
  | [] => 0
  | v :: r => v.category + gCt r
theorem gCt_eq : ∀ st : List Value, gCt st = (st.map fun v => v.category).sum
  | [] => rfl
  | v :: r => by simp [gCt, gCt_eq r]
def i_cV (ci y n : Nat) : gT := fun S C _ _ K μ lc st => match gSp n [] st with
  | some (as, .ref b :: rest) => S b = some (.inl ci) ∧ gCt rest ≤ 8 ∧ C y (.ref b :: as) μ (fun v μ' => K μ' lc (v.toList ++ rest))
  | _ => False
def i_cS (y n : Nat) : gT := fun _ C _ _ K μ lc st => match gSp n [] st with
  | some (as, rest) => gCt rest ≤ 8 ∧ C y as μ (fun v μ' => K μ' lc (v.toList ++ rest))
  | _ => False
theorem gCx.same {E : gE} {u U : State} (hvm : u.vm = U.vm) (h : gCx E u) : gCx E U := by
  obtain ⟨h1, h2, h3, h4, h5⟩ := h
  have ha : u.vm.Alike U.vm := hvm ▸ Vm.Alike.refl u.vm
  refine ⟨va_K.moved ha h1, fun w hw => ?_, va_Z.moved ha h3, va_Z.moved ha h4, h5⟩
  have hn := (List.mem_filter.mp hw).2
  have hz := h2 w hw
  cases w with
  | fieldLinkNest a i b n d h => exact va_Nw.same rfl hvm hz
  | methodLinkNest a i x h => exact va_Nw.same rfl hvm hz
  | _ => cases hn
theorem gPc_blind (E : gE) (S : gSh) (as : List Value) (μ : gM) : FrameBlind (gPc E S as μ) := by
  intro a U g mk h
  obtain ⟨h1, h2, h3⟩ := h
  exact ⟨h1, gCx.same (u := U) (U := U.calling g mk a) rfl h2, gRep.moved (s := U) (U := U.calling g mk a) (Vm.Alike.refl U.vm) h3⟩
theorem gGood {i : gMi} (h : Cond.code i.1 i.2.1 i.2.2.1 i.2.2.2 ∈ gTab) : GoodIn gTab (gWs i) := by
  intro w hw
  rcases List.mem_cons.mp hw with rfl | hw
  · exact ⟨h, good_of_word (gTab_good h).2⟩
  · exact ⟨hw, good_of_word (gTab_good hw).2⟩
/-- behind a call -/
theorem g_back {p : Program} {l : Launch} {e : Env} {R : Room} {s : State} {m : MethodId} {args : Array Value} {below : List Frame} {meth : Method} {c : Code} {cells slots : Nat} {Q : State → Prop} {E : gE} {S : gSh} {nL pc : Nat} {H : Heap} {locs : List Loc} {ls : Array Slot} {st0 rest : List Value} {lc : gLc} {K : gK} {P : gP} {a : Array Value}
    (hr : va_Run p l e R s m args below meth c H locs cells slots 0 0 (F0 m pc ls st0) rest (gQc E S P a) (gFr E)) (hP : ∀ v μ, P v μ → K μ lc (v.toList ++ rest)) (hK : ∀ (μ : gM) (lc : gLc) (st : List Value), K μ lc st → gG p l e R s m args below meth c cells slots Q E S nL (pc + 3) μ lc st) (hl : ∀ q ∈ locs, gFr E q.base) (hh : gHas ls nL lc) : W p l e R s m args below meth c H locs cells slots Q (F0 m pc ls st0) := by
  intro T hT X
  obtain ⟨v, st₀, t, T', L, h0, X', hL, e1, e2, ⟨v', μ', hv, hp, hrep⟩, st⟩ := hr T hT X
  cases hv
  have hw : s.vm.Alike t.vm := by rw [← e2]; exact X'.warmed.alike
  obtain ⟨t2, a1, b1⟩ := hK μ' lc _ (hP v μ' hp) T'.heap (locs ++ L) ls (by rw [e1]; exact gRep.moved hw.symm hrep) (fun q hq => by
      rcases List.mem_append.mp hq with h | h
      · exact hl q h
      · exact hL q h) hh T' rfl X'
  exact ⟨t2, st t2 a1, b1⟩
section SND
variable {mt : List gMi} {own : String} {cc : ByteArray} {nL : Nat} {rt : Option FieldType} {pc : Nat}
theorem s_cV (ci y n : Nat) {idx : Nat} {i : gMi} {r : vw_C} (hy : mt[y]? = some i) (hc : vwCl[ci]? = some r) (hcl : i.1.cls = r.1)
    (w1 : Cond.methodLink own idx i.1 ∈ gTab) (w2 : Cond.instanceMethod i.1 ∈ gTab) (w3 : Cond.selects r.1 i.1 i.1 ∈ gTab) (w4 : Cond.initialized r.1 ∈ gTab) (w5 : Cond.code i.1 i.2.1 i.2.2.1 i.2.2.2 ∈ gTab)
    (hn : i.1.cls ≠ "java/lang/invoke/MethodHandle" ∧ i.1.cls ≠ "java/lang/invoke/VarHandle" ∧ (parseMethodDescriptor i.1.desc).map (fun d => d.parameters.length) = some n) (hd : decode cc pc = .ok (.invokevirtual idx, 3)) : gSnd mt own cc nL rt pc 3 (i_cV ci y n) := by
  intro p l e R s m args below meth c cells slots Q E S C X P hB hC hX hR hf K hK μ lc st h
  simp only [i_cV] at h
  split at h
  · rename_i as b rest hs
    obtain ⟨h1, h2, h3⟩ := h
    obtain ⟨hst, hlen⟩ := gSp_nil hs
    obtain ⟨k, r1, r2, hM⟩ := hC y i _ _ _ hy h3
    intro H locs ls hr hl hh
    obtain ⟨hx, hb, hml, hown, hts, hK0⟩ := id hB
    obtain ⟨b1, q, hq, cellV, v1, v2, v3, -⟩ := hr.2.1 _ _ h1
    cases hc.symm.trans hq
    have hG : GoodIn gTab (wsV own idx r.1 i.1 (gWs i)) := by
      intro w hw
      rcases List.mem_append.mp hw with h | h
      · simp only [List.mem_cons, List.not_mem_nil, or_false] at h
        rcases h with rfl | rfl | rfl | rfl
        · exact ⟨w1, good_of_word (gTab_good w1).2⟩
        · exact ⟨w2, good_of_word (gTab_good w2).2⟩
        · exact ⟨w3, good_of_word (gTab_good w3).2⟩
        · exact ⟨w4, good_of_word (gTab_good w4).2⟩
      · exact gGood w5 w h
    rw [hst]
    refine g_back (va_runV (C := r.1) (As := as) (rest := rest) ⟨hx, hb, hml, hown, hts⟩ hM (cwV n hts hG rfl rfl rfl ⟨hcl, hn⟩ ⟨r1, r2⟩) ⟨gPc_blind _ _ _ _, ⟨cellV, v1, by rw [v3]; rfl, by rw [v2]; exact (hK0.1.1 ci _ hc).2.1⟩, fun U hU hW => ⟨rfl, hK0.moved hW, by rw [hU]; exact gRep.moved hW.alike hr⟩⟩ rfl hlen hh.1 rfl (lv_room (by rw [← gCt_eq]; exact h2)) hd ⟨hf.1, hf.2.1⟩) (fun v μ h => h) hK hl hh
  · exact h.elim
theorem s_cS (y n : Nat) {idx : Nat} {i : gMi} (hy : mt[y]? = some i)
    (w1 : Cond.methodLink own idx i.1 ∈ gTab) (w2 : Cond.static i.1 ∈ gTab) (w4 : Cond.initialized i.1.cls ∈ gTab) (w5 : Cond.code i.1 i.2.1 i.2.2.1 i.2.2.2 ∈ gTab)
    (hn : i.1.cls ≠ "java/lang/invoke/MethodHandle" ∧ i.1.cls ≠ "java/lang/invoke/VarHandle" ∧ (parseMethodDescriptor i.1.desc).map (fun d => d.parameters.length) = some n) (hd : decode cc pc = .ok (.invokestatic idx, 3)) : gSnd mt own cc nL rt pc 3 (i_cS y n) := by
  intro p l e R s m args below meth c cells slots Q E S C X P hB hC hX hR hf K hK μ lc st h
  simp only [i_cS] at h
  split at h
  · rename_i as rest hs
    obtain ⟨h2, h3⟩ := h
    obtain ⟨hst, hlen⟩ := gSp_nil hs
    obtain ⟨k, r1, r2, hM⟩ := hC y i _ _ _ hy h3
    intro H locs ls hr hl hh
    obtain ⟨hx, hb, hml, hown, hts, hK0⟩ := id hB
    have hG : GoodIn gTab (va_wsS own idx i.1 (gWs i)) := by
      intro w hw
      rcases List.mem_append.mp hw with h | h
      · simp only [List.mem_cons, List.not_mem_nil, or_false] at h
        rcases h with rfl | rfl | rfl
        · exact ⟨w1, good_of_word (gTab_good w1).2⟩
        · exact ⟨w2, good_of_word (gTab_good w2).2⟩
        · exact ⟨w4, good_of_word (gTab_good w4).2⟩
      · exact gGood w5 w h
    rw [hst]
    refine g_back (va_runS (As := as) (rest := rest) ⟨hx, hb, hml, hown, hts⟩ hM (va_cwS n hts hG rfl rfl rfl hn ⟨r1, r2⟩) ⟨gPc_blind _ _ _ _, fun U hU hW => ⟨rfl, hK0.moved hW, by rw [hU]; exact gRep.moved hW.alike hr⟩⟩ rfl hlen hh.1 rfl (lv_room (by rw [← gCt_eq]; exact h2)) hd ⟨hf.1, hf.2.1⟩) (fun v μ h => h) hK hl hh
  · exact h.elim
end SND
/-- the two static tables -/
def i_gsW : gT := fun S _ _ _ K μ lc st => ∀ a, S a = some (.inr (11, 7)) → (∀ j, j < 7 → μ.2.1 a j = gWords j) → K μ lc (.ref a :: st)
def i_gsK : gT := fun S _ _ _ K μ lc st => ∀ a, S a = some (.inr (10, 7)) → (∀ j, j < 7 → μ.1 a j = gKinds j) → K μ lc (.ref a :: st)
def gSw (X : Nat → gK) (d : Nat) (x : Int32) : List (Int32 × Nat) → gK
  | [] => X d
  | (k, t) :: r => fun μ lc st => (x = k → X t μ lc st) ∧ (¬ x = k → gSw X d x r μ lc st)
def i_sw (ks : List (Int32 × Nat)) (d : Nat) : gT := fun _ _ X _ _ μ lc st => match st with
  | .int x :: r => gSw X d x ks μ lc r
  | _ => False
def gFi (d : Nat) (x : Int32) : List (Int32 × Nat) → Nat
  | [] => d
  | (k, t) :: r => if x = k then t else gFi d x r
theorem gSw_fi {X : Nat → gK} {d : Nat} {x : Int32} : ∀ (ks : List (Int32 × Nat)) {μ : gM} {lc : gLc} {st : List Value}, gSw X d x ks μ lc st → X (gFi d x ks) μ lc st
  | [], _, _, _, h => h
  | (k, t) :: r, μ, lc, st, h => by
    unfold gFi
    by_cases hx : x = k
    · rw [if_pos hx]; exact h.1 hx
    · rw [if_neg hx]; exact gSw_fi r (h.2 hx)
theorem gFi_out {d : Nat} {x : Int32} : ∀ (ks : List (Int32 × Nat)), (∀ q ∈ ks, x ≠ q.1) → gFi d x ks = d
  | [], _ => rfl
  | (k, t) :: r, h => by
    unfold gFi
    rw [if_neg (h (k, t) List.mem_cons_self)]
    exact gFi_out r (fun q hq => h q (List.mem_cons_of_mem _ hq))
section SND
variable {mt : List gMi} {own : String} {cc : ByteArray} {nL : Nat} {rt : Option FieldType} {pc : Nat}
theorem s_gsW {idx : Nat} (hw : Cond.fieldLink own idx "GaugeWall$Tokens" "WORDS" "[J" ∈ gTab) (hd : decode cc pc = .ok (.getstatic idx, 3)) : gSnd mt own cc nL rt pc 3 i_gsW := by
  intro p l e R s m args below meth c cells slots Q E S C X P hB hC hX hR hf K hK μ lc st h
  intro H locs ls hr hl hh
  obtain ⟨hx, hb, hml, hown, hts, hK0⟩ := id hB
  obtain ⟨cf, kf, fi, f, a, cell, h1, h2, h3, h4, h5, h6, h7, h8⟩ := hK0.2.2.1
  exact W.gets hx hb hown (hts _ hw) h1 h2 h3 h4 (by rw [hr.1 a (Nat.not_le.mp h8)]; exact h5) (fun e => by rw [e] at h6; cases h6) h7 rfl hd (hK _ _ _ (h _ hr.2.2.1.1 hr.2.2.1.2.2.1) H locs ls hr hl hh)
theorem s_gsK {idx : Nat} (hw : Cond.fieldLink own idx "GaugeWall$Tokens" "WORD_KINDS" "[I" ∈ gTab) (hd : decode cc pc = .ok (.getstatic idx, 3)) : gSnd mt own cc nL rt pc 3 i_gsK := by
  intro p l e R s m args below meth c cells slots Q E S C X P hB hC hX hR hf K hK μ lc st h
  intro H locs ls hr hl hh
  obtain ⟨hx, hb, hml, hown, hts, hK0⟩ := id hB
  obtain ⟨cf, kf, fi, f, a, cell, h1, h2, h3, h4, h5, h6, h7, h8⟩ := hK0.2.2.2.1
  exact W.gets hx hb hown (hts _ hw) h1 h2 h3 h4 (by rw [hr.1 a (Nat.not_le.mp h8)]; exact h5) (fun e => by rw [e] at h6; cases h6) h7 rfl hd (hK _ _ _ (h _ hr.2.2.1.2.1 hr.2.2.1.2.2.2) H locs ls hr hl hh)
theorem s_table (ks : List (Int32 × Nat)) (d : Nat) {dflt lo hi : Int} {offs : Array Int} {len : Nat} (hlo : -2147483648 ≤ lo) (hhi : hi < 2147483648) (hdf : (pc : Int) + dflt = (d : Int)) (hks : ∀ q ∈ ks, lo ≤ q.1.toInt ∧ q.1.toInt ≤ hi)
    (hof : ∀ j, j < (hi - lo + 1).toNat → ∃ off, offs[j]? = some off ∧ (pc : Int) + off = (gFi d (Int32.ofInt (lo + j)) ks : Int)) (hd : decode cc pc = .ok (.tableswitch dflt lo hi offs, len)) : gSnd mt own cc nL rt pc len (i_sw ks d) := by
  intro p l e R s m args below meth c cells slots Q E S C X P hB hC hX hR hf K hK μ lc st h
  simp only [i_sw] at h
  split at h
  · rename_i x r
    have h := gSw_fi ks h
    intro H locs ls hr hl hh
    by_cases hin : x.toInt < lo ∨ hi < x.toInt
    · have e : gFi d x ks = d := gFi_out ks (fun q hq z => by have := hks q hq; rw [← z] at this; omega)
      rw [e] at h
      exact lv_tableOut hB.1 hB.2.1 hd hin hdf (hX _ _ _ _ h H locs ls hr hl hh)
    · have hj : (x.toInt - lo).toNat < (hi - lo + 1).toNat := by omega
      obtain ⟨off, o1, o2⟩ := hof _ hj
      have ex : Int32.ofInt (lo + ((x.toInt - lo).toNat : Nat)) = x := by
        rw [show lo + ((x.toInt - lo).toNat : Int) = x.toInt by omega]
        exact Int32.ofInt_toInt x
      rw [ex] at o2
      exact lv_tableIn hB.1 hB.2.1 hd (by omega) (by omega) o1 o2 (hX _ _ _ _ h H locs ls hr hl hh)
  · exact h.elim
theorem s_lookup (ks : List (Int32 × Nat)) (d : Nat) {dflt : Int} {ps : Array (Int × Int)} {len : Nat} (hp : (ps.toList.zip (ps.toList.drop 1)).all (fun (a, next) => a.1 < next.1) = true) (hof : ∀ x : Int32, (pc : Int) + Op.lookupswitch.offset ps.toList dflt x.toInt = (gFi d x ks : Int)) (hd : decode cc pc = .ok (.lookupswitch dflt ps, len)) : gSnd mt own cc nL rt pc len (i_sw ks d) := by
  intro p l e R s m args below meth c cells slots Q E S C X P hB hC hX hR hf K hK μ lc st h
  simp only [i_sw] at h
  split at h
  · rename_i x r
    have h := gSw_fi ks h
    intro H locs ls hr hl hh
    exact lv_lookup hB.1 hB.2.1 hd hp rfl (hof x) (hX _ _ _ _ h H locs ls hr hl hh)
  · exact h.elim
end SND
def i_mmax : gT := fun _ _ _ _ K μ lc st => match st with
  | .int y :: .int x :: r => gCt r ≤ 8 ∧ K μ lc (.int (if x < y then y else x) :: r)
  | _ => False
def i_mmin : gT := fun _ _ _ _ K μ lc st => match st with
  | .int y :: .int x :: r => gCt r ≤ 8 ∧ K μ lc (.int (if y < x then y else x) :: r)
  | _ => False
def i_mmaxL : gT := fun _ _ _ _ K μ lc st => match st with
  | .long y :: .long x :: r => gCt r ≤ 8 ∧ K μ lc (.long (if y < x then x else y) :: r)
  | _ => False
def i_mminL : gT := fun _ _ _ _ K μ lc st => match st with
  | .long y :: .long x :: r => gCt r ≤ 8 ∧ K μ lc (.long (if y < x then y else x) :: r)
  | _ => False
section SND
variable {mt : List gMi} {own : String} {cc : ByteArray} {nL : Nat} {rt : Option FieldType} {pc : Nat}
theorem s_mmax {idx : Nat} (w1 : Cond.methodLink own idx Lib.Math.max.name ∈ gTab) (w2 : Cond.static Lib.Math.max.name ∈ gTab) (w3 : Cond.initialized "java/lang/Math" ∈ gTab) (w4 : Cond.code Lib.Math.max.name Lib.Math.max.code 2 (some .int) ∈ gTab) (hd : decode cc pc = .ok (.invokestatic idx, 3)) : gSnd mt own cc nL rt pc 3 i_mmax := by
  intro p l e R s m args below meth c cells slots Q E S C X P hB hC hX hR hf K hK μ lc st h
  simp only [i_mmax] at h
  split at h
  · rename_i y x r
    intro H locs ls hr hl hh
    obtain ⟨hx, hb, hml, hown, hts, hK0⟩ := id hB
    have h8 := h.1
    rw [gCt_eq] at h8
    have h60 := hf.2.2.2
    exact va_mmax hx hb (hml.trans hh.1.symm) hown (hts _ w1) (hts _ w2) (hts _ w3) (hts _ w4) hf.2.2.1 (by omega) hf.1 hf.2.1 hd (hK _ _ _ h.2 H locs ls hr hl hh)
  · exact h.elim
theorem s_mmin {idx : Nat} (w1 : Cond.methodLink own idx Lib.Math.min.name ∈ gTab) (w2 : Cond.static Lib.Math.min.name ∈ gTab) (w3 : Cond.initialized "java/lang/Math" ∈ gTab) (w4 : Cond.code Lib.Math.min.name Lib.Math.min.code 2 (some .int) ∈ gTab) (hd : decode cc pc = .ok (.invokestatic idx, 3)) : gSnd mt own cc nL rt pc 3 i_mmin := by
  intro p l e R s m args below meth c cells slots Q E S C X P hB hC hX hR hf K hK μ lc st h
  simp only [i_mmin] at h
  split at h
  · rename_i y x r
    intro H locs ls hr hl hh
    obtain ⟨hx, hb, hml, hown, hts, hK0⟩ := id hB
    have h8 := h.1
    rw [gCt_eq] at h8
    have h60 := hf.2.2.2
    exact va_mmin hx hb (hml.trans hh.1.symm) hown (hts _ w1) (hts _ w2) (hts _ w3) (hts _ w4) hf.2.2.1 (by omega) hf.1 hf.2.1 hd (hK _ _ _ h.2 H locs ls hr hl hh)
  · exact h.elim
theorem s_mmaxL {idx : Nat} (w1 : Cond.methodLink own idx Lib.MathLoose.max_long.x ∈ gTab) (w2 : Cond.static Lib.MathLoose.max_long.x ∈ gTab) (w3 : Cond.initialized "java/lang/Math" ∈ gTab) (w4 : Cond.code Lib.MathLoose.max_long.x Lib.MathLoose.max_long.code 4 (some .long) ∈ gTab) (hd : decode cc pc = .ok (.invokestatic idx, 3)) : gSnd mt own cc nL rt pc 3 i_mmaxL := by
  intro p l e R s m args below meth c cells slots Q E S C X P hB hC hX hR hf K hK μ lc st h
  simp only [i_mmaxL] at h
  split at h
  · rename_i y x r
    intro H locs ls hr hl hh
    obtain ⟨hx, hb, hml, hown, hts, hK0⟩ := id hB
    have h8 := h.1
    rw [gCt_eq] at h8
    have h60 := hf.2.2.2
    exact va_mmax_long hx hb (hml.trans hh.1.symm) hown (hts _ w1) (hts _ w2) (hts _ w3) (hts _ w4) hf.2.2.1 (by omega) hf.1 hf.2.1 hd (hK _ _ _ h.2 H locs ls hr hl hh)
  · exact h.elim
theorem s_mminL {idx : Nat} (w1 : Cond.methodLink own idx Lib.MathLoose.min_long.x ∈ gTab) (w2 : Cond.static Lib.MathLoose.min_long.x ∈ gTab) (w3 : Cond.initialized "java/lang/Math" ∈ gTab) (w4 : Cond.code Lib.MathLoose.min_long.x Lib.MathLoose.min_long.code 4 (some .long) ∈ gTab) (hd : decode cc pc = .ok (.invokestatic idx, 3)) : gSnd mt own cc nL rt pc 3 i_mminL := by
  intro p l e R s m args below meth c cells slots Q E S C X P hB hC hX hR hf K hK μ lc st h
  simp only [i_mminL] at h
  split at h
  · rename_i y x r
    intro H locs ls hr hl hh
    obtain ⟨hx, hb, hml, hown, hts, hK0⟩ := id hB
    have h8 := h.1
    rw [gCt_eq] at h8
    have h60 := hf.2.2.2
    exact va_mmin_long hx hb (hml.trans hh.1.symm) hown (hts _ w1) (hts _ w2) (hts _ w3) (hts _ w4) hf.2.2.1 (by omega) hf.1 hf.2.1 hd (hK _ _ _ h.2 H locs ls hr hl hh)
  · exact h.elim
end SND
