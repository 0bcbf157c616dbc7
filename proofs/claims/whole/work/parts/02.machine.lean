/-! A small machine of my own: values, a heap of numbers, a step function over pre-linked code. What it does is tied to the real machine once (part 'sound'); all methods are then read over it. -/
abbrev AV : Type := Int ⊕ Int64 ⊕ Option Nat ⊕ Unit
abbrev vI (x : Int) : AV := Sum.inl x
abbrev vL (x : Int64) : AV := Sum.inr (Sum.inl x)
abbrev vR (r : Option Nat) : AV := Sum.inr (Sum.inr (Sum.inl r))
abbrev vU : AV := Sum.inr (Sum.inr (Sum.inr ()))
/-- numbers, longs, references by address and place; the kind of each address (shape, length); how many cells, how many slots -/
abbrev AH : Type := (Nat → Nat → Int) × (Nat → Nat → Int64) × (Nat → Nat → Option Nat) × (Nat → Nat × Nat) × Nat × Nat
/-- what is fixed: references that stay, kinds that stay, which addresses may be written -/
abbrev GB : Type := (Nat → Nat → Option Nat) × (Nat → Option (Nat × Nat)) × (Nat → Bool)
def rdI (h : AH) (a k : Nat) : Int := h.1 a k
def rdL (h : AH) (a k : Nat) : Int64 := h.2.1 a k
def rdQ (h : AH) (a k : Nat) : Option Nat := h.2.2.1 a k
def rdK (h : AH) (a : Nat) : Nat × Nat := h.2.2.2.1 a
def hpN (h : AH) : Nat := h.2.2.2.2.1
def hpS (h : AH) : Nat := h.2.2.2.2.2
def rdR (G : GB) (h : AH) (a k : Nat) : Option Nat := match G.1 a k with
  | some r => some r
  | none => rdQ h a k
def knd (G : GB) (h : AH) (a : Nat) : Nat × Nat := match G.2.1 a with
  | some K => K
  | none => rdK h a
def wrI (h : AH) (a k : Nat) (v : Int) : AH := (fun b j => if b = a ∧ j = k then v else h.1 b j, h.2)
def wrL (h : AH) (a k : Nat) (v : Int64) : AH := (h.1, fun b j => if b = a ∧ j = k then v else h.2.1 b j, h.2.2)
def wrR (h : AH) (a k : Nat) (v : Option Nat) : AH := (h.1, h.2.1, fun b j => if b = a ∧ j = k then v else h.2.2.1 b j, h.2.2.2)
/-- a new cell at the end, all its places empty -/
def hpA (h : AH) (K : Nat × Nat) : AH :=
  (fun b j => if b = hpN h then 0 else h.1 b j, fun b j => if b = hpN h then 0 else h.2.1 b j, fun b j => if b = hpN h then none else h.2.2.1 b j,
   fun b => if b = hpN h then K else h.2.2.2.1 b, hpN h + 1, hpS h + K.2)
def w32 (z : Int) : Int := (Int32.ofInt z).toInt
def tyA : AV → Nat
  | .inl _ => 0
  | .inr (.inl _) => 1
  | .inr (.inr (.inl _)) => 2
  | .inr (.inr (.inr _)) => 9
def catA : AV → Nat
  | .inr (.inl _) => 2
  | _ => 1
def cats : List AV → Nat
  | [] => 0
  | v :: l => catA v + cats l
def cmpA (c : ClassFile.Cond) (x y : Int) : Bool := match c with
  | .eq => decide (x = y)
  | .ne => decide (¬ x = y)
  | .lt => decide (x < y)
  | .ge => decide (y ≤ x)
  | .gt => decide (y < x)
  | .le => decide (x ≤ y)
def lcmpA (x y : Int64) : Int := if y < x then 1 else if x = y then 0 else -1
def binI : Instr → Option (Int → Int → Int)
  | .iadd => some (fun x y => w32 (x + y))
  | .isub => some (fun x y => w32 (x - y))
  | .imul => some (fun x y => w32 (x * y))
  | .iand => some (fun x y => (Int32.ofInt x &&& Int32.ofInt y).toInt)
  | .ior => some (fun x y => (Int32.ofInt x ||| Int32.ofInt y).toInt)
  | .ixor => some (fun x y => (Int32.ofInt x ^^^ Int32.ofInt y).toInt)
  | .ishl => some (fun x y => (Int32.ofInt x <<< (Int32.ofInt y &&& 31)).toInt)
  | .ishr => some (fun x y => (Int32.ofInt x >>> (Int32.ofInt y &&& 31)).toInt)
  | .iushr => some (fun x y => ((Int32.ofInt x).toUInt32 >>> ((Int32.ofInt y).toUInt32 &&& Int32.toUInt32 31)).toInt32.toInt)
  | _ => none
def divI : Instr → Option (Int → Int → Int)
  | .idiv => some (fun x y => (Int32.ofInt x / Int32.ofInt y).toInt)
  | .irem => some (fun x y => (Int32.ofInt x - Int32.ofInt x / Int32.ofInt y * Int32.ofInt y).toInt)
  | _ => none
def unI : Instr → Option (Int → Int)
  | .ineg => some (fun x => (- Int32.ofInt x).toInt)
  | .i2b => some (fun x => (Int32.ofInt x).toInt8.toInt32.toInt)
  | .i2c => some (fun x => ((Int32.ofInt x).toUInt32 % 65536).toInt32.toInt)
  | _ => none
def binL : Instr → Option (Int64 → Int64 → Int64)
  | .ladd => some (fun x y => x + y)
  | .lsub => some (fun x y => x - y)
  | .lmul => some (fun x y => x * y)
  | .land => some (fun x y => x &&& y)
  | .lor => some (fun x y => x ||| y)
  | .lxor => some (fun x y => x ^^^ y)
  | _ => none
def divL : Instr → Option (Int64 → Int64 → Int64)
  | .ldiv => some (fun x y => x / y)
  | .lrem => some (fun x y => x - x / y * y)
  | _ => none
def shL : Instr → Option (Int64 → Int → Int64)
  | .lshl => some (fun x y => x <<< ((Int32.ofInt y).toInt64 &&& 63))
  | .lushr => some (fun x y => (x.toUInt64 >>> ((Int32.ofInt y).toInt64.toUInt64 &&& Int64.toUInt64 63)).toInt64)
  | _ => none
/-- the stack's own instructions (monitorexit stands for Object's constructor, jsr_w for a long's constant; getstatic 0: the key words, else String's COMPACT_STRINGS) -/
def pureOp (i : Instr) (st : List AV) : Option (List AV) :=
  match i with
  | .iconst n => some (vI n :: st)
  | .jsr_w n => some (vL (Int64.ofInt n) :: st)
  | .aconst_null => some (vR none :: st)
  | .ldc _ => some (vR (some 2) :: st)
  | .getstatic n => match n with
    | 0 => some (vR (some 1) :: st)
    | _ => some (vI 1 :: st)
  | .monitorexit => match st with
    | .inr (.inr (.inl (some _))) :: r => if cats r ≤ 8 then some r else none
    | _ => none
  | .dup => match st with
    | v :: r => if catA v = 1 then some (v :: v :: r) else none
    | _ => none
  | .pop => match st with
    | v :: r => if catA v = 1 then some r else none
    | _ => none
  | .dup2 => match st with
    | .inr (.inl x) :: r => some (vL x :: vL x :: r)
    | v :: w :: r => if catA v = 1 ∧ catA w = 1 then some (v :: w :: v :: w :: r) else none
    | _ => none
  | .pop2 => match st with
    | .inr (.inl _) :: r => some r
    | _ => none
  | .i2l => match st with
    | .inl x :: r => some (vL (Int32.ofInt x).toInt64 :: r)
    | _ => none
  | .l2i => match st with
    | .inr (.inl x) :: r => some (vI x.toInt32.toInt :: r)
    | _ => none
  | .lneg => match st with
    | .inr (.inl x) :: r => some (vL (-x) :: r)
    | _ => none
  | .lcmp => match st with
    | .inr (.inl y) :: .inr (.inl x) :: r => some (vI (lcmpA x y) :: r)
    | _ => none
  | i => match binI i with
    | some f => match st with
      | .inl y :: .inl x :: r => some (vI (f x y) :: r)
      | _ => none
    | none => match binL i with
      | some f => match st with
        | .inr (.inl y) :: .inr (.inl x) :: r => some (vL (f x y) :: r)
        | _ => none
      | none => match shL i with
        | some f => match st with
          | .inl y :: .inr (.inl x) :: r => some (vL (f x y) :: r)
          | _ => none
        | none => match unI i with
          | some f => match st with
            | .inl x :: r => some (vI (f x) :: r)
            | _ => none
          | none => match divI i with
            | some f => match st with
              | .inl y :: .inl x :: r => if y = 0 then none else some (vI (f x y) :: r)
              | _ => none
            | none => match divL i with
              | some f => match st with
                | .inr (.inl y) :: .inr (.inl x) :: r => if y = 0 then none else some (vL (f x y) :: r)
                | _ => none
              | none => none
/-- locals -/
def locOp (i : Instr) (ls st : List AV) : Option (List AV × List AV) :=
  match i with
  | .iload k => match ls[k]? with
    | some (.inl x) => some (ls, vI x :: st)
    | _ => none
  | .lload k => match ls[k]? with
    | some (.inr (.inl x)) => some (ls, vL x :: st)
    | _ => none
  | .aload k => match ls[k]? with
    | some (.inr (.inr (.inl r))) => some (ls, vR r :: st)
    | _ => none
  | .istore k => match st with
    | .inl x :: r => some (ls.set k (vI x), r)
    | _ => none
  | .lstore k => match st with
    | .inr (.inl x) :: r => some (ls.set k (vL x), r)
    | _ => none
  | .astore k => match st with
    | .inr (.inr (.inl x)) :: r => some (ls.set k (vR x), r)
    | _ => none
  | .iinc k n => match ls[k]? with
    | some (.inl x) => some (ls.set k (vI (w32 (x + n))), st)
    | _ => none
  | _ => none
/-- a field's code: its class * 1000 + its place * 10 + its sort (0 a number, 1 a long, 2 a reference, 3 a boolean) -/
def gfA (G : GB) (h : AH) (a k t : Nat) : AV := if t = 1 then vL (rdL h a k) else if t = 2 then vR (rdR G h a k) else vI (rdI h a k)
def isZ (x : Int) : Bool := decide (x = 0) || decide (x = 1)
/-- shapes: below 20 a class; 20 int[], 21 long[], 22 byte[], 23 boolean[], 24 + c: an array of objects of class c -/
def shpN : ArrayType → Option Nat
  | .int => some 20
  | .long => some 21
  | .byte => some 22
  | .boolean => some 23
  | _ => none
def inA (j : Int) (n : Nat) : Bool := decide (0 ≤ j) && decide (j < n)
def heapOp (nF : Nat → Nat) (G : GB) (i : Instr) (st : List AV) (h : AH) : Option (List AV × AH) :=
  match i with
  | .getfield c => match st with
    | .inr (.inr (.inl (some a))) :: r => if (knd G h a).1 = c / 1000 then some (gfA G h a (c / 10 % 100) (c % 10) :: r, h) else none
    | _ => none
  | .putfield c => match st with
    | v :: .inr (.inr (.inl (some a))) :: r =>
      if (knd G h a).1 = c / 1000 ∧ G.2.2 a = true then
        match v with
        | .inl x => if c % 10 = 0 ∨ (c % 10 = 3 ∧ isZ x = true) then some (r, wrI h a (c / 10 % 100) x) else none
        | .inr (.inl x) => if c % 10 = 1 then some (r, wrL h a (c / 10 % 100) x) else none
        | .inr (.inr (.inl x)) => if c % 10 = 2 ∧ G.1 a (c / 10 % 100) = none then some (r, wrR h a (c / 10 % 100) x) else none
        | _ => none
      else none
    | _ => none
  | .arraylength => match st with
    | .inr (.inr (.inl (some a))) :: r => if 20 ≤ (knd G h a).1 ∧ (knd G h a).1 < 50 then some (vI ((knd G h a).2 : Nat) :: r, h) else none
    | _ => none
  | .iaload => match st with
    | .inl j :: .inr (.inr (.inl (some a))) :: r => if (knd G h a).1 = 20 ∧ inA j (knd G h a).2 = true then some (vI (rdI h a j.toNat) :: r, h) else none
    | _ => none
  | .baload => match st with
    | .inl j :: .inr (.inr (.inl (some a))) :: r => if ((knd G h a).1 = 22 ∨ (knd G h a).1 = 23) ∧ inA j (knd G h a).2 = true then some (vI (rdI h a j.toNat) :: r, h) else none
    | _ => none
  | .laload => match st with
    | .inl j :: .inr (.inr (.inl (some a))) :: r => if (knd G h a).1 = 21 ∧ inA j (knd G h a).2 = true then some (vL (rdL h a j.toNat) :: r, h) else none
    | _ => none
  | .aaload => match st with
    | .inl j :: .inr (.inr (.inl (some a))) :: r => if 24 ≤ (knd G h a).1 ∧ (knd G h a).1 < 50 ∧ inA j (knd G h a).2 = true then some (vR (rdR G h a j.toNat) :: r, h) else none
    | _ => none
  | .iastore => match st with
    | .inl x :: .inl j :: .inr (.inr (.inl (some a))) :: r => if (knd G h a).1 = 20 ∧ G.2.2 a = true ∧ inA j (knd G h a).2 = true then some (r, wrI h a j.toNat x) else none
    | _ => none
  | .bastore => match st with
    | .inl x :: .inl j :: .inr (.inr (.inl (some a))) :: r =>
      if G.2.2 a = true ∧ inA j (knd G h a).2 = true then
        if (knd G h a).1 = 22 then some (r, wrI h a j.toNat (Int32.ofInt x).toInt8.toInt32.toInt)
        else if (knd G h a).1 = 23 ∧ isZ x = true then some (r, wrI h a j.toNat x) else none
      else none
    | _ => none
  | .lastore => match st with
    | .inr (.inl x) :: .inl j :: .inr (.inr (.inl (some a))) :: r => if (knd G h a).1 = 21 ∧ G.2.2 a = true ∧ inA j (knd G h a).2 = true then some (r, wrL h a j.toNat x) else none
    | _ => none
  | .aastore => match st with
    | .inr (.inr (.inl (some y))) :: .inl j :: .inr (.inr (.inl (some a))) :: r =>
      if 24 ≤ (knd G h a).1 ∧ (knd G h a).1 < 36 ∧ G.2.2 a = true ∧ inA j (knd G h a).2 = true ∧ G.1 a j.toNat = none ∧ (knd G h y).1 + 24 = (knd G h a).1 then some (r, wrR h a j.toNat (some y)) else none
    | _ => none
  | .new c => if G.2.1 (hpN h) = none ∧ c < 20 then some (vR (some (hpN h)) :: st, hpA h (c, nF c)) else none
  | .newarray t => match st with
    | .inl n :: r => match shpN t with
      | some s => if G.2.1 (hpN h) = none ∧ inA n 100000 = true then some (vR (some (hpN h)) :: r, hpA h (s, n.toNat)) else none
      | none => none
    | _ => none
  | .anewarray c => match st with
    | .inl n :: r => if G.2.1 (hpN h) = none ∧ inA n 100000 = true ∧ c < 20 then some (vR (some (hpN h)) :: r, hpA h (24 + c, n.toNat)) else none
    | _ => none
  | _ => none
/-- where a jump goes: some t, or on -/
def swA : Int → Int → List Int → Int → Int
  | d, _, [], _ => d
  | d, lo, o :: os, x => if x = lo then o else swA d (lo + 1) os x
def lkA : Int → List (Int × Int) → Int → Int
  | d, [], _ => d
  | d, p :: ps, x => if x = p.1 then p.2 else lkA d ps x
def jmpA (i : Instr) (st : List AV) : Option (Option Nat × List AV) :=
  match i with
  | .goto t => some (some t.toNat, st)
  | .goto_w t => some (some t.toNat, st)
  | .ifCond c t => match st with
    | .inl x :: r => some (if cmpA c x 0 = true then some t.toNat else none, r)
    | _ => none
  | .if_icmp c t => match st with
    | .inl y :: .inl x :: r => some (if cmpA c x y = true then some t.toNat else none, r)
    | _ => none
  | .ifnull t => match st with
    | .inr (.inr (.inl none)) :: r => some (some t.toNat, r)
    | .inr (.inr (.inl (some _))) :: r => some (none, r)
    | _ => none
  | .ifnonnull t => match st with
    | .inr (.inr (.inl none)) :: r => some (none, r)
    | .inr (.inr (.inl (some _))) :: r => some (some t.toNat, r)
    | _ => none
  | .tableswitch d lo _ os => match st with
    | .inl x :: r => some (some (swA d lo os.toList x).toNat, r)
    | _ => none
  | .lookupswitch d ps => match st with
    | .inl x :: r => some (some (lkA d ps.toList x).toNat, r)
    | _ => none
  | _ => none
/-- an answer: t is the method's sort of answer (0 a number, 1 a long, 2 a reference, 3 none, 4 a boolean, 5 a byte) -/
def retA (t : Nat) (i : Instr) (st : List AV) : Option (Option AV) :=
  match i with
  | .ireturn => match st with
    | [.inl x] => if t = 0 ∨ (t = 4 ∧ isZ x = true) ∨ (t = 5 ∧ inA (x + 128) 256 = true) then some (some (vI x)) else none
    | _ => none
  | .lreturn => match st with
    | [.inr (.inl x)] => if t = 1 then some (some (vL x)) else none
    | _ => none
  | .areturn => match st with
    | [.inr (.inr (.inl x))] => if t = 2 then some (some (vR x)) else none
    | _ => none
  | .return_ => match st with
    | [] => if t = 3 then some none else none
    | _ => none
  | _ => none
def lay : List AV → List AV
  | [] => []
  | .inr (.inl x) :: l => vL x :: vU :: lay l
  | v :: l => v :: lay l
/-- arguments off the stack, the last first; their sorts, the last first -/
def popA : List Nat → List AV → List AV → Option (List AV × List AV)
  | [], as, st => some (as, st)
  | t :: ts, as, v :: st => if tyA v = t then popA ts (v :: as) st else none
  | _ :: _, _, [] => none
/-- the system's code -/
abbrev Sys : Type := (Nat → MInf) × (Nat → Nat → List Instr) × (Nat → Nat)
def rcvA (G : GB) (h : AH) (M : MInf) (as : List AV) : Bool :=
  match M.2.2.2.1 with
  | 0 => true
  | _ => match as with
    | .inr (.inr (.inl (some a))) :: _ => decide ((knd G h a).1 = M.2.2.2.2)
    | _ => false
def invA (S : Sys) (G : GB) (i : Instr) (st : List AV) (h : AH) : Option (Nat × List AV × List AV) :=
  match i with
  | .invokevirtual k => match popA (S.1 k).1 [] st with
    | some (as, r) => if (S.1 k).2.2.2.1 = 1 ∧ rcvA G h (S.1 k) as = true ∧ cats r ≤ 16 then some (k, as, r) else none
    | none => none
  | .invokespecial k => match popA (S.1 k).1 [] st with
    | some (as, r) => if (S.1 k).2.2.2.1 = 2 ∧ rcvA G h (S.1 k) as = true ∧ cats r ≤ 8 then some (k, as, r) else none
    | none => none
  | .invokestatic k => match popA (S.1 k).1 [] st with
    | some (as, r) => if (S.1 k).2.2.2.1 = 0 ∧ cats r ≤ 8 then some (k, as, r) else none
    | none => none
  | _ => none
def lay0 (n : Nat) (as : List AV) : List AV := lay as ++ List.replicate (n - (lay as).length) vU
def opt2 (r : Option AV) (st : List AV) : List AV := match r with
  | some v => v :: st
  | none => st
/-- the machine: fuel, how many calls may still stand open, the method, what is to be done, locals, stack, heap -/
def exec (S : Sys) (G : GB) : Nat → Nat → Nat → List Instr → List AV → List AV → AH → Option (Option AV × AH)
  | 0, _, _, _, _, _, _ => none
  | _ + 1, _, _, [], _, _, _ => none
  | n + 1, L, mi, i :: is, ls, st, h =>
    match pureOp i st with
    | some st' => exec S G n L mi is ls st' h
    | none => match locOp i ls st with
      | some (ls', st') => exec S G n L mi is ls' st' h
      | none => match heapOp S.2.2 G i st h with
        | some (st', h') => exec S G n L mi is ls st' h'
        | none => match jmpA i st with
          | some (some t, st') => exec S G n L mi (S.2.1 mi t) ls st' h
          | some (none, st') => exec S G n L mi is ls st' h
          | none => match retA (S.1 mi).2.1 i st with
            | some r => some (r, h)
            | none => match invA S G i st h, L with
              | some (k, as, rest), L' + 1 => match exec S G n L' k (S.2.1 k 0) (lay0 (S.1 k).2.2.1 as) [] h with
                | some (r, h') => exec S G n (L' + 1) mi is ls (opt2 r rest) h'
                | none => none
              | _, _ => none
/-- it comes to an end, and its end is Q's -/
def Run (S : Sys) (G : GB) (L mi : Nat) (is : List Instr) (ls st : List AV) (h : AH) (Q : Option AV → AH → Prop) : Prop := ∃ n r h', exec S G n L mi is ls st h = some (r, h') ∧ Q r h'
def Call (S : Sys) (G : GB) (L k : Nat) (as : List AV) (h : AH) (Q : Option AV → AH → Prop) : Prop := Run S G L k (S.2.1 k 0) (lay0 (S.1 k).2.2.1 as) [] h Q
