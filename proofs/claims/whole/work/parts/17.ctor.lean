/-- putfield of a final field, in its class's constructor -/
theorem g_putF {p : Program} {l : Launch} {e : Env} {R : Room} {s : State} {m : MethodId} {args : Array Value} {below : List Frame} {meth : Method} {c : Code} {cells slots : Nat} {Q : State → Prop} {E : gE} {S : gSh} {own : String} {cc : ByteArray} {nL pc idx ci k a : Nat} {r : vw_C} {H : Heap} {locs : List Loc} {ls : Array Slot} {rest : List Value} {μ μ' : gM} {v : Value} (hB : gBd p s m args c E own cc nL) (hnm : meth.name = "<init>") (hc : vwCl[ci]? = some r) (hk : k < r.2.2) (hfin : (r.2.1 k).2.2.2 = true) (hdecl : (r.2.1 k).1 = own)
    (hl : Cond.fieldLink own idx (r.2.1 k).1 (r.2.1 k).2.1 (r.2.1 k).2.2.1 ∈ gTab) (hd : decode cc pc = .ok (.putfield idx, 3)) (hr : gRep E S μ s H) (hlo : ∀ q ∈ locs, gFr E q.base) (ha : S a = some (.inl ci))
    (hn : narrow (gTy ci k) v = v) (hfit : fits (gTy ci k) v = true) (hm : ∀ b, b ≠ a → μ'.1 b = μ.1 b ∧ μ'.2.1 b = μ.2.1 b ∧ μ'.2.2 b = μ.2.2 b) (hv : ∀ j, j < r.2.2 → gV (gTy ci j) μ' a j = if j = k then v else gV (gTy ci j) μ a j)
    (kk : ∀ (H1 : Heap) (locs1 : List Loc), gRep E S μ' s H1 → (∀ q ∈ locs1, gFr E q.base) → W p l e R s m args below meth c H1 locs1 cells slots Q (F0 m (pc + 3) ls rest)) : W p l e R s m args below meth c H locs cells slots Q (F0 m pc ls (v :: .ref a :: rest)) := by
  obtain ⟨hx, hb, hml, hown, hts, hK, hN, -⟩ := hB
  obtain ⟨g1, r', g2, cell, q1, q2, q3, q4⟩ := hr.2.1 a _ ha
  cases hc.symm.trans g2
  obtain ⟨C, T, N⟩ := r
  have hap := va_apart (own := own) hts (gCls hc).1 _ (gCls hc).2.1 (gCls hc).2.2 hK hc
  obtain ⟨hS, hfc, kC, hkC, hkind⟩ := hK.1 ci _ hc
  obtain ⟨cf, kf, fi, f, hi, hsl⟩ := hS k hk
  have hlay := hts _ ((gCls hc).1 _ (u_in_lay hk))
  unfold u_lay at hlay
  rw [if_pos hfin] at hlay
  have hst := (u_facts hfc hkC (u_lays hts (gCls hc).1 hk) hi).1
  have hcf : m.cls = cf := by
    obtain ⟨_, _, c', _, _, _, -, -, hf', -, -, -, hown2, -⟩ := Cond.laysFinal_spec hlay
    have e1 : c' = cf := by have := hi.symm.trans hf'; simp at this; exact this.1.symm
    rw [hdecl] at hown2
    rw [← e1]; exact Option.some.inj (hown.symm.trans hown2)
  have h6 := u_fits hfc hkC hkind (Or.inr hlay) hi ((gCls hc).2.1 k hk) hn hfit
  have key : ∀ H' : Heap, H'[a]? = some (cell.setSlot f.slot v) → H'.size = H.size → (∀ q, q ≠ a → H'[q]? = H[q]?) → W p l e R s m args below meth c H' (locs ++ [⟨a, f.slot⟩]) cells slots Q (F0 m (pc + 3) ls rest) := by
    intro H' e1 e2 e3
    refine kk H' _ (hr.put ha g1 e2 e3 hm ⟨g1, _, hc, ?_⟩) (gLast hlo g1)
    rw [hsl] at e1
    exact t_OB.to (V := updV (fun k => gV (gTy ci k) μ a k) k v) ⟨_, e1, q2, q3, t_set q4 hap hk v⟩ (fun j hj => (hv j hj).symm)
  exact W.putFinK hx hb hown (hts _ hl) hi hst hcf hnm (by rw [q2]; exact h6) q1 q3 (by rw [hsl]; exact k2_hasslot (q4 k hk)) rfl rfl hd key
section SNY
variable {ct : List gMj} {nm own : String} {cc : ByteArray} {nL : Nat} {rt : Option FieldType} {pc len : Nat}
theorem y_pfF (ci k : Nat) {idx : Nat} {r : vw_C} (hc : vwCl[ci]? = some r) (hk : k < r.2.2) (hfin : (r.2.1 k).2.2.2 = true) (hdecl : (r.2.1 k).1 = own) (ht : gIs (gTy ci k) 2 = true) (hn : ∀ x, narrow (gTy ci k) (.ref x) = .ref x) (hfi : ∀ x, fits (gTy ci k) (.ref x) = true) (hw : Cond.fieldLink own idx (r.2.1 k).1 (r.2.1 k).2.1 (r.2.1 k).2.2.1 ∈ gTab) (hd : decode cc pc = .ok (.putfield idx, 3)) : gSny ct "<init>" own cc nL rt pc 3 (j_l (i_pfR ci k)) := by
  intro p l e R s m args below meth c mc ms Q E C C2 X P hB hY hnm hC hC2 hX hR hf K hK A μ lc st h hA hkk
  simp only [j_l, i_pfR] at h
  split at h
  · rename_i x a r9
    exact fun H locs ls hr hl hh => g_putF (μ' := (μ.1, μ.2.1, gU μ.2.2 a k x)) hB hnm hc hk hfin hdecl hw hd hr hl h.1 (hn _) (hfi _) (fun b hb => ⟨rfl, rfl, gU_o hb⟩) (fun j _ => gV_uR (ty' := gTy ci k) ht h.2.1 (fun e => by rw [e])) (fun H1 locs1 hr1 hl1 => hK A _ _ _ h.2.2 hA hkk H1 locs1 ls hr1 hl1 hh)
  · exact h.elim
theorem gPy_blind (E : gE) (as : List Value) (S : gSh) (n : Nat) (μ : gM) : FrameBlind (gPy E as S n μ) := by
  intro a U g mk h
  obtain ⟨h1, h2, h3, h4⟩ := h
  exact ⟨h1, gCy.same (u := U) (U := U.calling g mk a) rfl h2, h3, gRep.moved (s := U) (U := U.calling g mk a) (Vm.Alike.refl U.vm) h4⟩
theorem y_cI (y mc' ms' : Nat) {idx : Nat} {i : gMj} (hy : ct[y]? = some i) (hm : i.2 = (mc', ms')) (hret : i.1.2.2.2 = none) (hin : i.1.1.name = "<init>")
    (w1 : Cond.methodLink own idx i.1.1 ∈ gTab ∨ ∃ host, Cond.methodLinkNest own idx i.1.1 host ∈ gNest) (w2 : Cond.instanceMethod i.1.1 ∈ gTab) (w4 : Cond.initialized i.1.1.cls ∈ gTab) (w5 : Cond.code i.1.1 i.1.2.1 i.1.2.2.1 i.1.2.2.2 ∈ gTab)
    (hn : i.1.1.cls ≠ "java/lang/invoke/MethodHandle" ∧ i.1.1.cls ≠ "java/lang/invoke/VarHandle" ∧ (parseMethodDescriptor i.1.1.desc).map (fun d => d.parameters.length) = some 0) (hd : decode cc pc = .ok (.invokespecial idx, 3)) : gSny ct nm own cc nL rt pc 3 (j_cI y mc' ms') := by
  intro p l e R s m args below meth c mc ms Q E C C2 X P hB hY hnm hC hC2 hX hR hf K hK A μ lc st h hA hkk
  simp only [j_cI] at h
  split at h
  · rename_i b rest
    obtain ⟨h8, hlim, h3⟩ := h
    obtain ⟨⟨y0, cd, mL, rt0⟩, mc2, ms2⟩ := i
    cases hm
    cases hret
    obtain ⟨k, r1, r2, hM⟩ := hC2 y _ _ _ _ _ _ hy h3
    intro H locs ls hr hl hh
    obtain ⟨hx, hb, hml, hown, hts, hK0⟩ := id hB
    rw [gCt_eq] at h8
    have hP : PreS s H (gPy E [.ref b] A.1 A.2.1 μ) (.ref b :: []) := ⟨gPy_blind _ _ _ _ _, fun U hU hW => ⟨rfl, hY.moved hW, hA, by rw [hU]; exact gRep.moved hW.alike hr⟩⟩
    have run : va_Run p l e R s m args below meth c H locs A.2.2.1 A.2.2.2 mc' ms' (F0 m pc ls (.ref b :: rest)) rest (gQy E (fun v S n μ' => v = none ∧ K (S, n, A.2.2.1 + mc', A.2.2.2 + ms') μ' lc rest) ([.ref b] : List Value).toArray) (gFr E) := by
      rcases w1 with w1 | ⟨host, w1⟩
      · exact va_runI (As := []) (rest := rest) ⟨hx, hb, hml, hown, hts⟩ hM (cwI 0 hts (gGood (i := (y0, cd, mL, none)) w5) rfl rfl rfl (hts _ w4) (hts _ w1) (hts _ w2) hin hn ⟨r1, r2⟩) hP rfl rfl hh.1 rfl (lv_room h8) hd ⟨by rw [hf.1]; exact hlim.1, by rw [hf.2.1]; exact hlim.2⟩
      · exact va_runIN (host := host) (As := []) (rest := rest) ⟨hx, hb, hml, hown, hts⟩ hM ⟨va_cnB 0 hts (gGood (i := (y0, cd, mL, none)) w5) rfl rfl rfl (hK0.2.1 _ w1) (hts _ w4) hn ⟨r1, r2⟩, hin, hts _ w2⟩ hP rfl rfl hh.1 rfl (lv_room h8) hd ⟨by rw [hf.1]; exact hlim.1, by rw [hf.2.1]; exact hlim.2⟩
    intro T hT X0
    obtain ⟨v, st₀, t, T', L, h0, X', hL, e1, e2, ⟨v', S', n', μ', hv, hp, hAok, hrep⟩, stp⟩ := run T hT X0
    cases hv
    obtain ⟨rfl, hk⟩ := hp
    have hw : s.vm.Alike t.vm := by rw [← e2]; exact X'.warmed.alike
    obtain ⟨t2, a1, b1⟩ := hK (S', n', A.2.2.1 + mc', A.2.2.2 + ms') μ' lc rest hk hAok ⟨by rw [hf.1]; exact hlim.1, by rw [hf.2.1]; exact hlim.2⟩ T'.heap (locs ++ L) ls (by rw [e1]; exact gRep.moved hw.symm hrep) (fun q hq => by
      rcases List.mem_append.mp hq with h | h
      · exact hl q h
      · exact hL q h) hh T' rfl X'
    exact ⟨t2, stp t2 a1, b1⟩
  · exact h.elim
end SNY
/-- a set of states closed under a code that makes objects -/
def gClo2 (code : List (Nat × Nat × gT2)) (C : gSh → gCS) (C2 : gC2) (mc ms : Nat) (P : gP2) (X : Nat → gK2) : Prop := ∀ e ∈ code, ∀ K : gK2, (∀ A μ lc st, K A μ lc st → X (e.1 + e.2.1) A μ lc st) → ∀ A μ lc st, e.2.2 C C2 mc ms X P K A μ lc st → X e.1 A μ lc st
def gb2 (C : gSh → gCS) (C2 : gC2) (mc ms : Nat) (X : Nat → gK2) (P : gP2) : List (Nat × Nat × gT2) → Nat → gK2
  | [], pc => X pc
  | e :: r, pc => e.2.2 C C2 mc ms X P (gb2 C C2 mc ms X P r pc)
def gChn2 : List (Nat × Nat × gT2) → Nat → Nat → Bool
  | [], a, z => a == z
  | e :: r, a, z => e.1 == a && gChn2 r (e.1 + e.2.1) z
theorem gb2_ok {code : List (Nat × Nat × gT2)} {C : gSh → gCS} {C2 : gC2} {mc ms : Nat} {P : gP2} {X : Nat → gK2} (hX : gClo2 code C C2 mc ms P X) : ∀ (b : List (Nat × Nat × gT2)) {a z : Nat}, (∀ e ∈ b, e ∈ code) → gChn2 b a z = true → ∀ {A : gA} {μ : gM} {lc : gLc} {st : List Value}, gb2 C C2 mc ms X P b z A μ lc st → X a A μ lc st
  | [], a, z, _, hc, A, μ, lc, st, h => by
    simp only [gChn2, beq_iff_eq] at hc
    rw [hc]
    exact h
  | e :: r, a, z, hm, hc, A, μ, lc, st, h => by
    simp only [gChn2, Bool.and_eq_true, beq_iff_eq] at hc
    rw [← hc.1]
    exact hX e (hm e List.mem_cons_self) (gb2 C C2 mc ms X P r z) (fun A μ lc st h => gb2_ok hX r (fun x hx => hm x (List.mem_cons_of_mem _ hx)) hc.2 h) A μ lc st h
def gAll2 (ct : List gMj) (nm own : String) (cc : ByteArray) (nL : Nat) (rt : Option FieldType) (b : List (Nat × Nat × gT2)) : Prop := ∀ e ∈ b, gSny ct nm own cc nL rt e.1 e.2.1 e.2.2
theorem gB_n {ct : List gMj} {nm own : String} {cc : ByteArray} {nL : Nat} {rt : Option FieldType} : gAll2 ct nm own cc nL rt [] := fun _ h => absurd h List.not_mem_nil
theorem gB_c {ct : List gMj} {nm own : String} {cc : ByteArray} {nL : Nat} {rt : Option FieldType} {pc len : Nat} {t : gT2} {b : List (Nat × Nat × gT2)} (h1 : gSny ct nm own cc nL rt pc len t) (h2 : gAll2 ct nm own cc nL rt b) : gAll2 ct nm own cc nL rt ((pc, len, t) :: b) := by
  intro e he
  rcases List.mem_cons.mp he with rfl | he
  · exact h1
  · exact h2 e he
theorem gB_a {ct : List gMj} {nm own : String} {cc : ByteArray} {nL : Nat} {rt : Option FieldType} {a b : List (Nat × Nat × gT2)} (h1 : gAll2 ct nm own cc nL rt a) (h2 : gAll2 ct nm own cc nL rt b) : gAll2 ct nm own cc nL rt (a ++ b) := fun e he => (List.mem_append.mp he).elim (h1 e) (h2 e)
/-- a code that makes nothing, lifted -/
def gLf (b : List (Nat × Nat × gT)) : List (Nat × Nat × gT2) := b.map fun e => (e.1, e.2.1, j_l e.2.2)
theorem gB_l {ct : List gMj} {nm own : String} {cc : ByteArray} {nL : Nat} {rt : Option FieldType} {b : List (Nat × Nat × gT)} (h : gAll own cc nL rt b) : gAll2 ct nm own cc nL rt (gLf b) := by
  intro e he
  obtain ⟨e0, h0, rfl⟩ := List.mem_map.mp he
  exact y_l (h e0 h0)
