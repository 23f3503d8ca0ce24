theorem e_gb {S : gSh} {C : gCS} {X : Nat → gK} {P : gP} {pc len z : Nat} {t : gT} {r : List (Nat × Nat × gT)} {μ : gM} {lc : gLc} {st : List Value} : gb S C X P ((pc, len, t) :: r) z μ lc st = t S C X P (gb S C X P r z) μ lc st := rfl
theorem e_gb0 {S : gSh} {C : gCS} {X : Nat → gK} {P : gP} {z : Nat} {μ : gM} {lc : gLc} {st : List Value} : gb S C X P [] z μ lc st = X z μ lc st := rfl
theorem e_gb2 {C : gSh → gCS} {C2 : gC2} {mc ms : Nat} {X : Nat → gK2} {P : gP2} {pc len z : Nat} {t : gT2} {r : List (Nat × Nat × gT2)} {A : gA} {μ : gM} {lc : gLc} {st : List Value} : gb2 C C2 mc ms X P ((pc, len, t) :: r) z A μ lc st = t C C2 mc ms X P (gb2 C C2 mc ms X P r z) A μ lc st := rfl
theorem e_gb20 {C : gSh → gCS} {C2 : gC2} {mc ms : Nat} {X : Nat → gK2} {P : gP2} {z : Nat} {A : gA} {μ : gM} {lc : gLc} {st : List Value} : gb2 C C2 mc ms X P [] z A μ lc st = X z A μ lc st := rfl
theorem e_ic {v : Int32} {S : gSh} {C : gCS} {X : Nat → gK} {P : gP} {K : gK} {μ : gM} {lc : gLc} {st : List Value} : i_ic v S C X P K μ lc st = (K μ lc (.int v :: st)) := rfl
theorem e_lc {v : Int64} {S : gSh} {C : gCS} {X : Nat → gK} {P : gP} {K : gK} {μ : gM} {lc : gLc} {st : List Value} : i_lc v S C X P K μ lc st = (K μ lc (.long v :: st)) := rfl
theorem e_null {S : gSh} {C : gCS} {X : Nat → gK} {P : gP} {K : gK} {μ : gM} {lc : gLc} {st : List Value} : i_null S C X P K μ lc st = (K μ lc (.null :: st)) := rfl
theorem e_ldI {i : Nat} {S : gSh} {C : gCS} {X : Nat → gK} {P : gP} {K : gK} {μ : gM} {lc : gLc} {st : List Value} : i_ldI i S C X P K μ lc st = (match gGet lc i with
  | some (.int x) => K μ lc (.int x :: st)
  | _ => False) := rfl
theorem e_ldL {i : Nat} {S : gSh} {C : gCS} {X : Nat → gK} {P : gP} {K : gK} {μ : gM} {lc : gLc} {st : List Value} : i_ldL i S C X P K μ lc st = (match gGet lc i with
  | some (.long x) => K μ lc (.long x :: st)
  | _ => False) := rfl
theorem e_ldA {i : Nat} {S : gSh} {C : gCS} {X : Nat → gK} {P : gP} {K : gK} {μ : gM} {lc : gLc} {st : List Value} : i_ldA i S C X P K μ lc st = (match gGet lc i with
  | some (.ref x) => K μ lc (.ref x :: st)
  | some .null => K μ lc (.null :: st)
  | _ => False) := rfl
theorem e_stI {i : Nat} {S : gSh} {C : gCS} {X : Nat → gK} {P : gP} {K : gK} {μ : gM} {lc : gLc} {st : List Value} : i_stI i S C X P K μ lc st = (match st with
  | .int x :: r => K μ (gS1 lc i (.int x)) r
  | _ => False) := rfl
theorem e_stL {i : Nat} {S : gSh} {C : gCS} {X : Nat → gK} {P : gP} {K : gK} {μ : gM} {lc : gLc} {st : List Value} : i_stL i S C X P K μ lc st = (match st with
  | .long x :: r => K μ (gS2 lc i (.long x)) r
  | _ => False) := rfl
theorem e_stA {i : Nat} {S : gSh} {C : gCS} {X : Nat → gK} {P : gP} {K : gK} {μ : gM} {lc : gLc} {st : List Value} : i_stA i S C X P K μ lc st = (match st with
  | .ref x :: r => K μ (gS1 lc i (.ref x)) r
  | .null :: r => K μ (gS1 lc i .null) r
  | _ => False) := rfl
theorem e_inc {i : Nat} {v : Int32} {S : gSh} {C : gCS} {X : Nat → gK} {P : gP} {K : gK} {μ : gM} {lc : gLc} {st : List Value} : i_inc i v S C X P K μ lc st = (match gGet lc i with
  | some (.int x) => K μ (gS1 lc i (.int (x + v))) st
  | _ => False) := rfl
theorem e_iadd {S : gSh} {C : gCS} {X : Nat → gK} {P : gP} {K : gK} {μ : gM} {lc : gLc} {st : List Value} : i_iadd S C X P K μ lc st = (match st with
  | .int y :: .int x :: r => K μ lc (.int (x + y) :: r)
  | _ => False) := rfl
theorem e_isub {S : gSh} {C : gCS} {X : Nat → gK} {P : gP} {K : gK} {μ : gM} {lc : gLc} {st : List Value} : i_isub S C X P K μ lc st = (match st with
  | .int y :: .int x :: r => K μ lc (.int (x - y) :: r)
  | _ => False) := rfl
theorem e_imul {S : gSh} {C : gCS} {X : Nat → gK} {P : gP} {K : gK} {μ : gM} {lc : gLc} {st : List Value} : i_imul S C X P K μ lc st = (match st with
  | .int y :: .int x :: r => K μ lc (.int (x * y) :: r)
  | _ => False) := rfl
theorem e_iand {S : gSh} {C : gCS} {X : Nat → gK} {P : gP} {K : gK} {μ : gM} {lc : gLc} {st : List Value} : i_iand S C X P K μ lc st = (match st with
  | .int y :: .int x :: r => K μ lc (.int (x &&& y) :: r)
  | _ => False) := rfl
theorem e_ior {S : gSh} {C : gCS} {X : Nat → gK} {P : gP} {K : gK} {μ : gM} {lc : gLc} {st : List Value} : i_ior S C X P K μ lc st = (match st with
  | .int y :: .int x :: r => K μ lc (.int (x ||| y) :: r)
  | _ => False) := rfl
theorem e_ixor {S : gSh} {C : gCS} {X : Nat → gK} {P : gP} {K : gK} {μ : gM} {lc : gLc} {st : List Value} : i_ixor S C X P K μ lc st = (match st with
  | .int y :: .int x :: r => K μ lc (.int (x ^^^ y) :: r)
  | _ => False) := rfl
theorem e_ishl {S : gSh} {C : gCS} {X : Nat → gK} {P : gP} {K : gK} {μ : gM} {lc : gLc} {st : List Value} : i_ishl S C X P K μ lc st = (match st with
  | .int y :: .int x :: r => K μ lc (.int (x <<< (y &&& 31)) :: r)
  | _ => False) := rfl
theorem e_ishr {S : gSh} {C : gCS} {X : Nat → gK} {P : gP} {K : gK} {μ : gM} {lc : gLc} {st : List Value} : i_ishr S C X P K μ lc st = (match st with
  | .int y :: .int x :: r => K μ lc (.int (x >>> (y &&& 31)) :: r)
  | _ => False) := rfl
theorem e_iushr {S : gSh} {C : gCS} {X : Nat → gK} {P : gP} {K : gK} {μ : gM} {lc : gLc} {st : List Value} : i_iushr S C X P K μ lc st = (match st with
  | .int y :: .int x :: r => K μ lc (.int (x.toUInt32 >>> (y.toUInt32 &&& Int32.toUInt32 31)).toInt32 :: r)
  | _ => False) := rfl
theorem e_idiv {S : gSh} {C : gCS} {X : Nat → gK} {P : gP} {K : gK} {μ : gM} {lc : gLc} {st : List Value} : i_idiv S C X P K μ lc st = (match st with
  | .int y :: .int x :: r => ¬ y = 0 ∧ K μ lc (.int (x / y) :: r)
  | _ => False) := rfl
theorem e_ineg {S : gSh} {C : gCS} {X : Nat → gK} {P : gP} {K : gK} {μ : gM} {lc : gLc} {st : List Value} : i_ineg S C X P K μ lc st = (match st with
  | .int x :: r => K μ lc (.int (-x) :: r)
  | _ => False) := rfl
theorem e_ladd {S : gSh} {C : gCS} {X : Nat → gK} {P : gP} {K : gK} {μ : gM} {lc : gLc} {st : List Value} : i_ladd S C X P K μ lc st = (match st with
  | .long y :: .long x :: r => K μ lc (.long (x + y) :: r)
  | _ => False) := rfl
theorem e_lsub {S : gSh} {C : gCS} {X : Nat → gK} {P : gP} {K : gK} {μ : gM} {lc : gLc} {st : List Value} : i_lsub S C X P K μ lc st = (match st with
  | .long y :: .long x :: r => K μ lc (.long (x - y) :: r)
  | _ => False) := rfl
theorem e_lmul {S : gSh} {C : gCS} {X : Nat → gK} {P : gP} {K : gK} {μ : gM} {lc : gLc} {st : List Value} : i_lmul S C X P K μ lc st = (match st with
  | .long y :: .long x :: r => K μ lc (.long (x * y) :: r)
  | _ => False) := rfl
theorem e_lor {S : gSh} {C : gCS} {X : Nat → gK} {P : gP} {K : gK} {μ : gM} {lc : gLc} {st : List Value} : i_lor S C X P K μ lc st = (match st with
  | .long y :: .long x :: r => K μ lc (.long (x ||| y) :: r)
  | _ => False) := rfl
theorem e_lshl {S : gSh} {C : gCS} {X : Nat → gK} {P : gP} {K : gK} {μ : gM} {lc : gLc} {st : List Value} : i_lshl S C X P K μ lc st = (match st with
  | .int y :: .long x :: r => K μ lc (.long (x <<< (y.toInt64 &&& 63)) :: r)
  | _ => False) := rfl
theorem e_lshr {S : gSh} {C : gCS} {X : Nat → gK} {P : gP} {K : gK} {μ : gM} {lc : gLc} {st : List Value} : i_lshr S C X P K μ lc st = (match st with
  | .int y :: .long x :: r => K μ lc (.long (x >>> (y.toInt64 &&& 63)) :: r)
  | _ => False) := rfl
theorem e_i2l {S : gSh} {C : gCS} {X : Nat → gK} {P : gP} {K : gK} {μ : gM} {lc : gLc} {st : List Value} : i_i2l S C X P K μ lc st = (match st with
  | .int x :: r => K μ lc (.long x.toInt64 :: r)
  | _ => False) := rfl
theorem e_l2i {S : gSh} {C : gCS} {X : Nat → gK} {P : gP} {K : gK} {μ : gM} {lc : gLc} {st : List Value} : i_l2i S C X P K μ lc st = (match st with
  | .long x :: r => K μ lc (.int x.toInt32 :: r)
  | _ => False) := rfl
theorem e_i2b {S : gSh} {C : gCS} {X : Nat → gK} {P : gP} {K : gK} {μ : gM} {lc : gLc} {st : List Value} : i_i2b S C X P K μ lc st = (match st with
  | .int x :: r => K μ lc (.int x.toInt8.toInt32 :: r)
  | _ => False) := rfl
theorem e_lcmp {S : gSh} {C : gCS} {X : Nat → gK} {P : gP} {K : gK} {μ : gM} {lc : gLc} {st : List Value} : i_lcmp S C X P K μ lc st = (match st with
  | .long y :: .long x :: r => K μ lc (.int (lg_cmp x y) :: r)
  | _ => False) := rfl
theorem e_dup {S : gSh} {C : gCS} {X : Nat → gK} {P : gP} {K : gK} {μ : gM} {lc : gLc} {st : List Value} : i_dup S C X P K μ lc st = (match st with
  | v :: r => v.category = 1 ∧ K μ lc (v :: v :: r)
  | _ => False) := rfl
theorem e_dup2 {S : gSh} {C : gCS} {X : Nat → gK} {P : gP} {K : gK} {μ : gM} {lc : gLc} {st : List Value} : i_dup2 S C X P K μ lc st = (match st with
  | v :: w :: r => (v.category = 1 ∧ w.category = 1) ∧ K μ lc (v :: w :: v :: w :: r)
  | _ => False) := rfl
theorem e_pop {S : gSh} {C : gCS} {X : Nat → gK} {P : gP} {K : gK} {μ : gM} {lc : gLc} {st : List Value} : i_pop S C X P K μ lc st = (match st with
  | v :: r => v.category = 1 ∧ K μ lc r
  | _ => False) := rfl
theorem e_ceq {tgt : Nat} {S : gSh} {C : gCS} {X : Nat → gK} {P : gP} {K : gK} {μ : gM} {lc : gLc} {st : List Value} : i_ceq tgt S C X P K μ lc st = (match st with
  | .int y :: .int x :: r => (x = y → X tgt μ lc r) ∧ (¬ x = y → K μ lc r)
  | _ => False) := rfl
theorem e_cne {tgt : Nat} {S : gSh} {C : gCS} {X : Nat → gK} {P : gP} {K : gK} {μ : gM} {lc : gLc} {st : List Value} : i_cne tgt S C X P K μ lc st = (match st with
  | .int y :: .int x :: r => (¬ x = y → X tgt μ lc r) ∧ (x = y → K μ lc r)
  | _ => False) := rfl
theorem e_clt {tgt : Nat} {S : gSh} {C : gCS} {X : Nat → gK} {P : gP} {K : gK} {μ : gM} {lc : gLc} {st : List Value} : i_clt tgt S C X P K μ lc st = (match st with
  | .int y :: .int x :: r => (x < y → X tgt μ lc r) ∧ (¬ x < y → K μ lc r)
  | _ => False) := rfl
theorem e_cge {tgt : Nat} {S : gSh} {C : gCS} {X : Nat → gK} {P : gP} {K : gK} {μ : gM} {lc : gLc} {st : List Value} : i_cge tgt S C X P K μ lc st = (match st with
  | .int y :: .int x :: r => (y ≤ x → X tgt μ lc r) ∧ (¬ y ≤ x → K μ lc r)
  | _ => False) := rfl
theorem e_cgt {tgt : Nat} {S : gSh} {C : gCS} {X : Nat → gK} {P : gP} {K : gK} {μ : gM} {lc : gLc} {st : List Value} : i_cgt tgt S C X P K μ lc st = (match st with
  | .int y :: .int x :: r => (y < x → X tgt μ lc r) ∧ (¬ y < x → K μ lc r)
  | _ => False) := rfl
theorem e_cle {tgt : Nat} {S : gSh} {C : gCS} {X : Nat → gK} {P : gP} {K : gK} {μ : gM} {lc : gLc} {st : List Value} : i_cle tgt S C X P K μ lc st = (match st with
  | .int y :: .int x :: r => (x ≤ y → X tgt μ lc r) ∧ (¬ x ≤ y → K μ lc r)
  | _ => False) := rfl
theorem e_zeq {tgt : Nat} {S : gSh} {C : gCS} {X : Nat → gK} {P : gP} {K : gK} {μ : gM} {lc : gLc} {st : List Value} : i_zeq tgt S C X P K μ lc st = (match st with
  | .int x :: r => (x = 0 → X tgt μ lc r) ∧ (¬ x = 0 → K μ lc r)
  | _ => False) := rfl
theorem e_zne {tgt : Nat} {S : gSh} {C : gCS} {X : Nat → gK} {P : gP} {K : gK} {μ : gM} {lc : gLc} {st : List Value} : i_zne tgt S C X P K μ lc st = (match st with
  | .int x :: r => (¬ x = 0 → X tgt μ lc r) ∧ (x = 0 → K μ lc r)
  | _ => False) := rfl
theorem e_zlt {tgt : Nat} {S : gSh} {C : gCS} {X : Nat → gK} {P : gP} {K : gK} {μ : gM} {lc : gLc} {st : List Value} : i_zlt tgt S C X P K μ lc st = (match st with
  | .int x :: r => (x < 0 → X tgt μ lc r) ∧ (¬ x < 0 → K μ lc r)
  | _ => False) := rfl
theorem e_zge {tgt : Nat} {S : gSh} {C : gCS} {X : Nat → gK} {P : gP} {K : gK} {μ : gM} {lc : gLc} {st : List Value} : i_zge tgt S C X P K μ lc st = (match st with
  | .int x :: r => (0 ≤ x → X tgt μ lc r) ∧ (¬ 0 ≤ x → K μ lc r)
  | _ => False) := rfl
theorem e_zgt {tgt : Nat} {S : gSh} {C : gCS} {X : Nat → gK} {P : gP} {K : gK} {μ : gM} {lc : gLc} {st : List Value} : i_zgt tgt S C X P K μ lc st = (match st with
  | .int x :: r => (0 < x → X tgt μ lc r) ∧ (¬ 0 < x → K μ lc r)
  | _ => False) := rfl
theorem e_zle {tgt : Nat} {S : gSh} {C : gCS} {X : Nat → gK} {P : gP} {K : gK} {μ : gM} {lc : gLc} {st : List Value} : i_zle tgt S C X P K μ lc st = (match st with
  | .int x :: r => (x ≤ 0 → X tgt μ lc r) ∧ (¬ x ≤ 0 → K μ lc r)
  | _ => False) := rfl
theorem e_goto {tgt : Nat} {S : gSh} {C : gCS} {X : Nat → gK} {P : gP} {K : gK} {μ : gM} {lc : gLc} {st : List Value} : i_goto tgt S C X P K μ lc st = (X tgt μ lc st) := rfl
theorem e_nn {tgt : Nat} {S : gSh} {C : gCS} {X : Nat → gK} {P : gP} {K : gK} {μ : gM} {lc : gLc} {st : List Value} : i_nn tgt S C X P K μ lc st = (match st with
  | .ref _ :: r => X tgt μ lc r
  | .null :: r => K μ lc r
  | _ => False) := rfl
theorem e_retI {S : gSh} {C : gCS} {X : Nat → gK} {P : gP} {K : gK} {μ : gM} {lc : gLc} {st : List Value} : i_retI S C X P K μ lc st = (match st with
  | [.int x] => P (some (.int x)) μ
  | _ => False) := rfl
theorem e_retL {S : gSh} {C : gCS} {X : Nat → gK} {P : gP} {K : gK} {μ : gM} {lc : gLc} {st : List Value} : i_retL S C X P K μ lc st = (match st with
  | [.long x] => P (some (.long x)) μ
  | _ => False) := rfl
theorem e_retV {S : gSh} {C : gCS} {X : Nat → gK} {P : gP} {K : gK} {μ : gM} {lc : gLc} {st : List Value} : i_retV S C X P K μ lc st = (match st with
  | [] => P (none) μ
  | _ => False) := rfl
theorem e_retZ {S : gSh} {C : gCS} {X : Nat → gK} {P : gP} {K : gK} {μ : gM} {lc : gLc} {st : List Value} : i_retZ S C X P K μ lc st = (match st with
  | [.int x] => (x = 0 ∨ x = 1) ∧ P (some (.int x)) μ
  | _ => False) := rfl
theorem e_retA {S : gSh} {C : gCS} {X : Nat → gK} {P : gP} {K : gK} {μ : gM} {lc : gLc} {st : List Value} : i_retA S C X P K μ lc st = (match st with
  | [.ref x] => P (some (.ref x)) μ
  | [.null] => P (some .null) μ
  | _ => False) := rfl
theorem e_gfI {ci k : Nat} {S : gSh} {C : gCS} {X : Nat → gK} {P : gP} {K : gK} {μ : gM} {lc : gLc} {st : List Value} : i_gfI ci k S C X P K μ lc st = (match st with
  | .ref a :: r => S a = some (.inl ci) ∧ K μ lc (.int (μ.1 a k) :: r)
  | _ => False) := rfl
theorem e_gfL {ci k : Nat} {S : gSh} {C : gCS} {X : Nat → gK} {P : gP} {K : gK} {μ : gM} {lc : gLc} {st : List Value} : i_gfL ci k S C X P K μ lc st = (match st with
  | .ref a :: r => S a = some (.inl ci) ∧ K μ lc (.long (μ.2.1 a k) :: r)
  | _ => False) := rfl
theorem e_gfR {ci k : Nat} {S : gSh} {C : gCS} {X : Nat → gK} {P : gP} {K : gK} {μ : gM} {lc : gLc} {st : List Value} : i_gfR ci k S C X P K μ lc st = (match st with
  | .ref a :: r => S a = some (.inl ci) ∧ μ.2.2 a k ≠ 0 ∧ K μ lc (.ref (μ.2.2 a k) :: r)
  | _ => False) := rfl
theorem e_pfI {ci k : Nat} {S : gSh} {C : gCS} {X : Nat → gK} {P : gP} {K : gK} {μ : gM} {lc : gLc} {st : List Value} : i_pfI ci k S C X P K μ lc st = (match st with
  | .int x :: .ref a :: r => S a = some (.inl ci) ∧ K (gU μ.1 a k x, μ.2) lc r
  | _ => False) := rfl
theorem e_pfZ {ci k : Nat} {S : gSh} {C : gCS} {X : Nat → gK} {P : gP} {K : gK} {μ : gM} {lc : gLc} {st : List Value} : i_pfZ ci k S C X P K μ lc st = (match st with
  | .int x :: .ref a :: r => S a = some (.inl ci) ∧ (x = 0 ∨ x = 1) ∧ K (gU μ.1 a k x, μ.2) lc r
  | _ => False) := rfl
theorem e_pfL {ci k : Nat} {S : gSh} {C : gCS} {X : Nat → gK} {P : gP} {K : gK} {μ : gM} {lc : gLc} {st : List Value} : i_pfL ci k S C X P K μ lc st = (match st with
  | .long x :: .ref a :: r => S a = some (.inl ci) ∧ K (μ.1, gU μ.2.1 a k x, μ.2.2) lc r
  | _ => False) := rfl
theorem e_pfR {ci k : Nat} {S : gSh} {C : gCS} {X : Nat → gK} {P : gP} {K : gK} {μ : gM} {lc : gLc} {st : List Value} : i_pfR ci k S C X P K μ lc st = (match st with
  | .ref x :: .ref a :: r => S a = some (.inl ci) ∧ x ≠ 0 ∧ K (μ.1, μ.2.1, gU μ.2.2 a k x) lc r
  | _ => False) := rfl
theorem e_iald {t : Nat} {S : gSh} {C : gCS} {X : Nat → gK} {P : gP} {K : gK} {μ : gM} {lc : gLc} {st : List Value} : i_iald t S C X P K μ lc st = (match st with
  | .int i :: .ref a :: r => ∃ n, S a = some (.inr (t, n)) ∧ vp_in i n ∧ K μ lc (.int (μ.1 a i.toNatClampNeg) :: r)
  | _ => False) := rfl
theorem e_lald {t : Nat} {S : gSh} {C : gCS} {X : Nat → gK} {P : gP} {K : gK} {μ : gM} {lc : gLc} {st : List Value} : i_lald t S C X P K μ lc st = (match st with
  | .int i :: .ref a :: r => ∃ n, S a = some (.inr (t, n)) ∧ vp_in i n ∧ K μ lc (.long (μ.2.1 a i.toNatClampNeg) :: r)
  | _ => False) := rfl
theorem e_aald {t : Nat} {S : gSh} {C : gCS} {X : Nat → gK} {P : gP} {K : gK} {μ : gM} {lc : gLc} {st : List Value} : i_aald t S C X P K μ lc st = (match st with
  | .int i :: .ref a :: r => ∃ n, S a = some (.inr (t, n)) ∧ vp_in i n ∧ μ.2.2 a i.toNatClampNeg ≠ 0 ∧ K μ lc (.ref (μ.2.2 a i.toNatClampNeg) :: r)
  | _ => False) := rfl
theorem e_alen {t : Nat} {S : gSh} {C : gCS} {X : Nat → gK} {P : gP} {K : gK} {μ : gM} {lc : gLc} {st : List Value} : i_alen t S C X P K μ lc st = (match st with
  | .ref a :: r => ∃ n, S a = some (.inr (t, n)) ∧ K μ lc (.int (nI n) :: r)
  | _ => False) := rfl
theorem e_iast {S : gSh} {C : gCS} {X : Nat → gK} {P : gP} {K : gK} {μ : gM} {lc : gLc} {st : List Value} : i_iast S C X P K μ lc st = (match st with
  | .int x :: .int i :: .ref a :: r => ∃ n, S a = some (.inr (0, n)) ∧ vp_in i n ∧ K (gU μ.1 a i.toNatClampNeg x, μ.2) lc r
  | _ => False) := rfl
theorem e_bast {S : gSh} {C : gCS} {X : Nat → gK} {P : gP} {K : gK} {μ : gM} {lc : gLc} {st : List Value} : i_bast S C X P K μ lc st = (match st with
  | .int x :: .int i :: .ref a :: r => ∃ n, S a = some (.inr (2, n)) ∧ vp_in i n ∧ K (gU μ.1 a i.toNatClampNeg x.toInt8.toInt32, μ.2) lc r
  | _ => False) := rfl
theorem e_zast {S : gSh} {C : gCS} {X : Nat → gK} {P : gP} {K : gK} {μ : gM} {lc : gLc} {st : List Value} : i_zast S C X P K μ lc st = (match st with
  | .int x :: .int i :: .ref a :: r => ∃ n, S a = some (.inr (3, n)) ∧ vp_in i n ∧ (x = 0 ∨ x = 1) ∧ K (gU μ.1 a i.toNatClampNeg x, μ.2) lc r
  | _ => False) := rfl
theorem e_last {S : gSh} {C : gCS} {X : Nat → gK} {P : gP} {K : gK} {μ : gM} {lc : gLc} {st : List Value} : i_last S C X P K μ lc st = (match st with
  | .long x :: .int i :: .ref a :: r => ∃ n, S a = some (.inr (1, n)) ∧ vp_in i n ∧ K (μ.1, gU μ.2.1 a i.toNatClampNeg x, μ.2.2) lc r
  | _ => False) := rfl
theorem e_aast {t ci : Nat} {S : gSh} {C : gCS} {X : Nat → gK} {P : gP} {K : gK} {μ : gM} {lc : gLc} {st : List Value} : i_aast t ci S C X P K μ lc st = (match st with
  | .ref x :: .int i :: .ref a :: r => ∃ n, S a = some (.inr (t, n)) ∧ S x = some (.inl ci) ∧ vp_in i n ∧ K (μ.1, μ.2.1, gU μ.2.2 a i.toNatClampNeg x) lc r
  | _ => False) := rfl
theorem e_cV {ci y n : Nat} {S : gSh} {C : gCS} {X : Nat → gK} {P : gP} {K : gK} {μ : gM} {lc : gLc} {st : List Value} : i_cV ci y n S C X P K μ lc st = (match gSp n [] st with
  | some (as, .ref b :: rest) => S b = some (.inl ci) ∧ gCt rest ≤ 8 ∧ C y (.ref b :: as) μ (fun v μ' => K μ' lc (v.toList ++ rest))
  | _ => False) := rfl
theorem e_cS {y n : Nat} {S : gSh} {C : gCS} {X : Nat → gK} {P : gP} {K : gK} {μ : gM} {lc : gLc} {st : List Value} : i_cS y n S C X P K μ lc st = (match gSp n [] st with
  | some (as, rest) => gCt rest ≤ 8 ∧ C y as μ (fun v μ' => K μ' lc (v.toList ++ rest))
  | _ => False) := rfl
theorem e_gsW {S : gSh} {C : gCS} {X : Nat → gK} {P : gP} {K : gK} {μ : gM} {lc : gLc} {st : List Value} : i_gsW S C X P K μ lc st = (∀ a, S a = some (.inr (11, 7)) → (∀ j, j < 7 → μ.2.1 a j = gWords j) → K μ lc (.ref a :: st)) := rfl
theorem e_gsK {S : gSh} {C : gCS} {X : Nat → gK} {P : gP} {K : gK} {μ : gM} {lc : gLc} {st : List Value} : i_gsK S C X P K μ lc st = (∀ a, S a = some (.inr (10, 7)) → (∀ j, j < 7 → μ.1 a j = gKinds j) → K μ lc (.ref a :: st)) := rfl
theorem e_mmax {S : gSh} {C : gCS} {X : Nat → gK} {P : gP} {K : gK} {μ : gM} {lc : gLc} {st : List Value} : i_mmax S C X P K μ lc st = (match st with
  | .int y :: .int x :: r => gCt r ≤ 8 ∧ K μ lc (.int (if x < y then y else x) :: r)
  | _ => False) := rfl
theorem e_mmin {S : gSh} {C : gCS} {X : Nat → gK} {P : gP} {K : gK} {μ : gM} {lc : gLc} {st : List Value} : i_mmin S C X P K μ lc st = (match st with
  | .int y :: .int x :: r => gCt r ≤ 8 ∧ K μ lc (.int (if y < x then y else x) :: r)
  | _ => False) := rfl
theorem e_mmaxL {S : gSh} {C : gCS} {X : Nat → gK} {P : gP} {K : gK} {μ : gM} {lc : gLc} {st : List Value} : i_mmaxL S C X P K μ lc st = (match st with
  | .long y :: .long x :: r => gCt r ≤ 8 ∧ K μ lc (.long (if y < x then x else y) :: r)
  | _ => False) := rfl
theorem e_mminL {S : gSh} {C : gCS} {X : Nat → gK} {P : gP} {K : gK} {μ : gM} {lc : gLc} {st : List Value} : i_mminL S C X P K μ lc st = (match st with
  | .long y :: .long x :: r => gCt r ≤ 8 ∧ K μ lc (.long (if y < x then y else x) :: r)
  | _ => False) := rfl
theorem e_j_l {t : gT} {C : gSh → gCS} {C2 : gC2} {mc ms : Nat} {X : Nat → gK2} {P : gP2} {K : gK2} {A : gA} {μ : gM} {lc : gLc} {st : List Value} : j_l t C C2 mc ms X P K A μ lc st = (t A.1 (C A.1) (fun q μ lc st => X q A μ lc st) (fun v μ => A.2.2.1 ≤ mc ∧ A.2.2.2 ≤ ms ∧ P v A.1 A.2.1 μ) (fun μ lc st => K A μ lc st) μ lc st) := rfl
theorem e_j_new {ci N : Nat} {C : gSh → gCS} {C2 : gC2} {mc ms : Nat} {X : Nat → gK2} {P : gP2} {K : gK2} {A : gA} {μ : gM} {lc : gLc} {st : List Value} : j_new ci N C C2 mc ms X P K A μ lc st = (gZn A.2.1 μ ∧ (A.2.2.1 + 1 ≤ mc ∧ A.2.2.2 + N ≤ ms) ∧ K (gUS A.1 A.2.1 (.inl ci), A.2.1 + 1, A.2.2.1 + 1, A.2.2.2 + N) μ lc (.ref A.2.1 :: st)) := rfl
theorem e_j_newa {t : Nat} {C : gSh → gCS} {C2 : gC2} {mc ms : Nat} {X : Nat → gK2} {P : gP2} {K : gK2} {A : gA} {μ : gM} {lc : gLc} {st : List Value} : j_newa t C C2 mc ms X P K A μ lc st = (match st with
  | .int x :: r => (¬ x < 0 ∧ x.toNatClampNeg ≤ 60000) ∧ gZn A.2.1 μ ∧ (A.2.2.1 + 1 ≤ mc ∧ A.2.2.2 + x.toNatClampNeg ≤ ms) ∧ K (gUS A.1 A.2.1 (.inr (t, x.toNatClampNeg)), A.2.1 + 1, A.2.2.1 + 1, A.2.2.2 + x.toNatClampNeg) μ lc (.ref A.2.1 :: r)
  | _ => False) := rfl
theorem e_j_obj  {C : gSh → gCS} {C2 : gC2} {mc ms : Nat} {X : Nat → gK2} {P : gP2} {K : gK2} {A : gA} {μ : gM} {lc : gLc} {st : List Value} : j_obj C C2 mc ms X P K A μ lc st = (match st with
  | .ref _ :: r => gCt r ≤ 8 ∧ K A μ lc r
  | _ => False) := rfl
theorem e_j_cI {y mc' ms' : Nat} {C : gSh → gCS} {C2 : gC2} {mc ms : Nat} {X : Nat → gK2} {P : gP2} {K : gK2} {A : gA} {μ : gM} {lc : gLc} {st : List Value} : j_cI y mc' ms' C C2 mc ms X P K A μ lc st = (match st with
  | .ref b :: r => gCt r ≤ 8 ∧ (A.2.2.1 + mc' ≤ mc ∧ A.2.2.2 + ms' ≤ ms) ∧ C2 y [.ref b] A.1 A.2.1 μ (fun v S n μ' => v = none ∧ K (S, n, A.2.2.1 + mc', A.2.2.2 + ms') μ' lc r)
  | _ => False) := rfl
