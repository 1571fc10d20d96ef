/-! THE SMALL MACHINE'S STEP -/
abbrev fL : Type := List (Nat × Value)
abbrev fR : Type := Option (Option Prop × fL × List Value × fS)
def fGet : fL → Nat → Option Value
  | [], _ => none
  | q :: t, i => bif Nat.beq q.1 i then some q.2 else fGet t i
def fIns (i : Nat) (v : Value) : fL → fL
  | [] => [(i, v)]
  | q :: t => bif Nat.blt i q.1 then (i, v) :: q :: t else q :: fIns i v t
def fSet1 (L : fL) (i : Nat) (v : Value) : fL := fIns i v (L.filter (fun q => !(Nat.beq q.1 i) && !(Nat.beq (q.1 + 1) i && Nat.beq q.2.category 2)))
def fSet2 (L : fL) (i : Nat) (v : Value) : fL := fIns i v (L.filter (fun q => !(Nat.beq q.1 i) && (!(Nat.beq q.1 (i + 1)) && !(Nat.beq (q.1 + 1) i && Nat.beq q.2.category 2))))
/-- a constant as it is written -/
def fLit (n : Int) : Int32 := match n with
  | .ofNat k => OfNat.ofNat k
  | .negSucc k => -(OfNat.ofNat (k + 1))
def fLdI (L : fL) (i : Nat) (st : List Value) (S : fS) : fR := match fGet L i with
  | some (.int x) => some (none, L, .int x :: st, S)
  | _ => none
def fLdJ (L : fL) (i : Nat) (st : List Value) (S : fS) : fR := match fGet L i with
  | some (.long x) => some (none, L, .long x :: st, S)
  | _ => none
def fLdA (L : fL) (i : Nat) (st : List Value) (S : fS) : fR := match fGet L i with
  | some (.ref x) => some (none, L, .ref x :: st, S)
  | _ => none
def fStI (nl : Nat) (L : fL) (i : Nat) (st : List Value) (S : fS) : fR := match st with
  | .int x :: r => bif Nat.blt i nl then some (none, fSet1 L i (.int x), r, S) else none
  | _ => none
def fStA (nl : Nat) (L : fL) (i : Nat) (st : List Value) (S : fS) : fR := match st with
  | .ref x :: r => bif Nat.blt i nl then some (none, fSet1 L i (.ref x), r, S) else none
  | _ => none
def fStJ (nl : Nat) (L : fL) (i : Nat) (st : List Value) (S : fS) : fR := match st with
  | .long x :: r => bif Nat.blt (i + 1) nl then some (none, fSet2 L i (.long x), r, S) else none
  | _ => none
def fII (f : Int32 → Int32 → Int32) (L : fL) (st : List Value) (S : fS) : fR := match st with
  | .int y :: .int x :: r => some (none, L, .int (f x y) :: r, S)
  | _ => none
def fJJ (f : Int64 → Int64 → Int64) (L : fL) (st : List Value) (S : fS) : fR := match st with
  | .long y :: .long x :: r => some (none, L, .long (f x y) :: r, S)
  | _ => none
def fJI (f : Int64 → Int32 → Int64) (L : fL) (st : List Value) (S : fS) : fR := match st with
  | .int y :: .long x :: r => some (none, L, .long (f x y) :: r, S)
  | _ => none
def fIIq (f : Int32 → Int32 → Int32) (L : fL) (st : List Value) (S : fS) : fR := match st with
  | .int y :: .int x :: r => some (some (¬ y = 0), L, .int (f x y) :: r, S)
  | _ => none
def fJJq (f : Int64 → Int64 → Int64) (L : fL) (st : List Value) (S : fS) : fR := match st with
  | .long y :: .long x :: r => some (some (¬ y = 0), L, .long (f x y) :: r, S)
  | _ => none
def fCmp (L : fL) (st : List Value) (S : fS) : fR := match st with
  | .long y :: .long x :: r => some (none, L, .int (lg_cmp x y) :: r, S)
  | _ => none
def fUn (L : fL) (st : List Value) (S : fS) (f : Value → Option Value) : fR := match st with
  | v :: r => match f v with
    | some w => some (none, L, w :: r, S)
    | none => none
  | _ => none
def fI2L (v : Value) : Option Value := match v with
  | .int x => some (.long x.toInt64)
  | _ => none
def fL2I (v : Value) : Option Value := match v with
  | .long x => some (.int x.toInt32)
  | _ => none
def fIneg (v : Value) : Option Value := match v with
  | .int x => some (.int (-x))
  | _ => none
def fLneg (v : Value) : Option Value := match v with
  | .long x => some (.long (-x))
  | _ => none
def fDup (L : fL) (st : List Value) (S : fS) : fR := match st with
  | v :: r => bif Nat.beq v.category 1 then some (none, L, v :: v :: r, S) else none
  | _ => none
def fIinc (nl : Nat) (L : fL) (i : Nat) (n : Int) (st : List Value) (S : fS) : fR := match fGet L i with
  | some (.int x) => bif Nat.blt i nl then some (none, fSet1 L i (.int (x + fLit n)), st, S) else none
  | _ => none
def fGetf (d : Option (Nat × Nat)) (L : fL) (st : List Value) (S : fS) : fR := match d, st with
  | some (ci, k), .ref o :: r => match fLay[o]? with
    | some e => bif Nat.beq e.1 ci then (match e.2[k]? with
      | some d => some (none, L, fFld S o k d :: r, S)
      | none => none) else none
    | none => none
  | _, _ => none
def fPut1 (L : fL) (r : List Value) (S : fS) (o k : Nat) (t : Nat) (v : Value) : fR := match t, v with
  | 1, .int x => some (none, L, r, wI S o k x)
  | 2, .long x => some (none, L, r, wJ S o k x)
  | 3, .int x => some (some (x = 0 ∨ x = 1), L, r, wI S o k x)
  | _, _ => none
def fPutf (d : Option (Nat × Nat)) (L : fL) (st : List Value) (S : fS) : fR := match d, st with
  | some (ci, k), v :: .ref o :: r => match fLay[o]? with
    | some e => bif Nat.beq e.1 ci then (match e.2[k]? with
      | some d => fPut1 L r S o k d.1 v
      | none => none) else none
    | none => none
  | _, _ => none
def fIald (sc : Option (Nat × (Nat → Int32))) (L : fL) (st : List Value) (S : fS) : fR := match st with
  | .int i :: .ref o :: r => bif Nat.beq o 99 then (match sc with
      | some q => some (some (vp_in i q.1), L, .int (q.2 i.toNatClampNeg) :: r, S)
      | none => none)
    else match fLay[o]? with
      | some e => bif Nat.beq e.1 20 then some (some (vp_in i (fLen e)), L, .int (gA S o i.toNatClampNeg) :: r, S) else none
      | none => none
  | _ => none
def fLald (L : fL) (st : List Value) (S : fS) : fR := match st with
  | .int i :: .ref o :: r => match fLay[o]? with
      | some e => bif Nat.beq e.1 21 then some (some (vp_in i (fLen e)), L, .long (gB S o i.toNatClampNeg) :: r, S) else none
      | none => none
  | _ => none
def fIast (L : fL) (st : List Value) (S : fS) : fR := match st with
  | .int x :: .int i :: .ref o :: r => match fLay[o]? with
      | some e => bif Nat.beq e.1 20 then some (some (vp_in i (fLen e)), L, r, wA S o (upd (gA S o) i.toNatClampNeg x)) else none
      | none => none
  | _ => none
def fLast (L : fL) (st : List Value) (S : fS) : fR := match st with
  | .long x :: .int i :: .ref o :: r => match fLay[o]? with
      | some e => bif Nat.beq e.1 21 then some (some (vp_in i (fLen e)), L, r, wB S o (vp_updL (gB S o) i.toNatClampNeg x)) else none
      | none => none
  | _ => none
def fAlen (sc : Option (Nat × (Nat → Int32))) (L : fL) (st : List Value) (S : fS) : fR := match st with
  | .ref o :: r => bif Nat.beq o 99 then (match sc with
      | some q => some (none, L, .int (Int32.ofNat q.1) :: r, S)
      | none => none)
    else match fLay[o]? with
      | some e => bif Nat.beq e.1 20 then some (none, L, .int (OfNat.ofNat (fLen e)) :: r, S) else none
      | none => none
  | _ => none
def fKcI (d : Option Value) (L : fL) (st : List Value) (S : fS) : fR := match d with
  | some (.int x) => some (none, L, .int x :: st, S)
  | _ => none
def fKcJ (d : Option Value) (L : fL) (st : List Value) (S : fS) : fR := match d with
  | some (.long x) => some (none, L, .long x :: st, S)
  | _ => none
abbrev fSc : Type := Option (Nat × (Nat → Int32))
/-- one instruction that neither branches nor calls -/
def fStp (fl : Nat → Option (Nat × Nat)) (kc : Nat → Option Value) (nl : Nat) (sc : fSc) (i : Instr) (L : fL) (st : List Value) (S : fS) : fR := match i with
  | .iload_n k => fLdI L k.val st S
  | .iload k => fLdI L k st S
  | .lload_n k => fLdJ L k.val st S
  | .lload k => fLdJ L k st S
  | .aload_n k => fLdA L k.val st S
  | .aload k => fLdA L k st S
  | .istore_n k => fStI nl L k.val st S
  | .istore k => fStI nl L k st S
  | .lstore_n k => fStJ nl L k.val st S
  | .lstore k => fStJ nl L k st S
  | .astore_n k => fStA nl L k.val st S
  | .astore k => fStA nl L k st S
  | .iconst n => some (none, L, .int (fLit n) :: st, S)
  | .bipush n => bif decide (-128 ≤ n ∧ n < 128) then some (none, L, .int (fLit n) :: st, S) else none
  | .sipush n => bif decide (-32768 ≤ n ∧ n < 32768) then some (none, L, .int (fLit n) :: st, S) else none
  | .lconst n => some (none, L, .long (OfNat.ofNat n.val) :: st, S)
  | .ldc k => fKcI (kc k) L st S
  | .ldc_w k => fKcI (kc k) L st S
  | .ldc2_w k => fKcJ (kc k) L st S
  | .iadd => fII (fun x y => x + y) L st S
  | .isub => fII (fun x y => x - y) L st S
  | .imul => fII (fun x y => x * y) L st S
  | .iand => fII (fun x y => x &&& y) L st S
  | .ior => fII (fun x y => x ||| y) L st S
  | .ishl => fII (fun x y => x <<< (y &&& 31)) L st S
  | .ishr => fII (fun x y => x >>> (y &&& 31)) L st S
  | .iushr => fII (fun x y => (x.toUInt32 >>> (y.toUInt32 &&& Int32.toUInt32 31)).toInt32) L st S
  | .idiv => fIIq (fun x y => x / y) L st S
  | .irem => fIIq (fun x y => x - x / y * y) L st S
  | .ladd => fJJ (fun x y => x + y) L st S
  | .lsub => fJJ (fun x y => x - y) L st S
  | .lmul => fJJ (fun x y => x * y) L st S
  | .land => fJJ (fun x y => x &&& y) L st S
  | .lor => fJJ (fun x y => x ||| y) L st S
  | .ldiv => fJJq (fun x y => x / y) L st S
  | .lshl => fJI (fun x y => x <<< (y.toInt64 &&& 63)) L st S
  | .lshr => fJI (fun x y => x >>> (y.toInt64 &&& 63)) L st S
  | .lcmp => fCmp L st S
  | .i2l => fUn L st S fI2L
  | .l2i => fUn L st S fL2I
  | .ineg => fUn L st S fIneg
  | .lneg => fUn L st S fLneg
  | .dup => fDup L st S
  | .iinc k n => fIinc nl L k n st S
  | .getfield k => fGetf (fl k) L st S
  | .putfield k => fPutf (fl k) L st S
  | .iaload => fIald sc L st S
  | .laload => fLald L st S
  | .iastore => fIast L st S
  | .lastore => fLast L st S
  | .arraylength => fAlen sc L st S
  | .goto _ => some (none, L, st, S)
  | _ => none
def fIl (i : Instr) : Nat := match i with
  | .iload _ => 2
  | .lload _ => 2
  | .aload _ => 2
  | .istore _ => 2
  | .lstore _ => 2
  | .astore _ => 2
  | .bipush _ => 2
  | .ldc _ => 2
  | .sipush _ => 3
  | .ldc_w _ => 3
  | .ldc2_w _ => 3
  | .iinc _ _ => 3
  | .getfield _ => 3
  | .putfield _ => 3
  | .goto _ => 3
  | _ => 1
def fNext (i : Instr) (pc : Nat) : Nat := match i with
  | .goto off => ((pc : Int) + off).toNat
  | i => pc + fIl i
def fGo (i : Instr) (pc : Nat) : Bool := match i with
  | .goto off => decide (0 ≤ (pc : Int) + off)
  | _ => true
/-- the code has these instructions from there on, one behind the other -/
def fOkB (cc : ByteArray) : Nat → List Instr → Bool
  | _, [] => true
  | pc, i :: t => decide (decode cc pc = .ok (i, fIl i)) && (fGo i pc && fOkB cc (fNext i pc) t)
def fRun (fl : Nat → Option (Nat × Nat)) (kc : Nat → Option Value) (nl : Nat) (sc : fSc) : List Instr → Nat → fL → List Value → fS → Option (Prop × Nat × fL × List Value × fS)
  | [], pc, L, st, S => some (True, pc, L, st, S)
  | i :: t, pc, L, st, S => match fStp fl kc nl sc i L st S with
    | none => none
    | some (none, L', st', S') => fRun fl kc nl sc t (fNext i pc) L' st' S'
    | some (some P, L', st', S') => match fRun fl kc nl sc t (fNext i pc) L' st' S' with
      | none => none
      | some (P2, z) => some (P ∧ P2, z)
