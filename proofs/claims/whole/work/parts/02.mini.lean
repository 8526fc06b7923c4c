/-! A small machine of our own over a heap of our own. A cell is a tag and its values: tags below 50 are objects (the class's place in 'classes'), 50 + k arrays of kind k (0 int, 1 boolean, 2 char, 3 long, from 4 on references), 99 a hole (a cell of which nothing is said). A reference is counted from a base. -/
abbrev mn_C : Type := Nat × List Value
abbrev mn_H : Type := List mn_C
/-- what a place of the constant pool means: 1 field (class, slot, nest mate's), 2 class to make (and the kind of arrays of it), 3 exception class, 5 int, 6 long, 7 static method, 8 virtual method, 9 constructor, 10 Object's constructor, 11 arraycopy, 12 max, 13 min -/
abbrev mn_K : Type := Nat × Nat × Nat × Nat × Int
def mn_tr (b : Nat × Nat) (v : Value) : Value := match v with
  | .ref i => .ref (b.1 + i)
  | .retAddr _ => .ref b.2
  | w => w
def mn_i (o : Option Value) : Int32 := match o with
  | some (.int x) => x
  | _ => 0
def mn_l (o : Option Value) : Int64 := match o with
  | some (.long x) => x
  | _ => 0
def mn_r (b : Nat × Nat) (o : Option Value) : Option Nat := match o with
  | some (.ref i) => some (b.1 + i)
  | _ => none
def mn_E (aC : Nat → ClassId) (b : Nat × Nat) (c : mn_C) : va_E :=
  if c.1 < 50 then .inr (c.1, c.2.map (mn_tr b))
  else if c.1 < 53 then .inl (aC (c.1 - 50), c.2.length, .inl (fun i => mn_i c.2[i]?))
  else if c.1 < 54 then .inl (aC 3, c.2.length, .inr (.inl (fun i => mn_l c.2[i]?)))
  else .inl (aC (c.1 - 50), c.2.length, .inr (.inr (.inr (.inr (fun i => mn_r b c.2[i]?)))))
/-- pc, locals, operand stack, slots made so far, heap -/
abbrev mn_S : Type := Nat × List (Option Value) × List Value × Nat × mn_H
def mn_c2 (o : Option (Option Value)) : Bool := match o with
  | some (some v) => v.category == 2
  | _ => false
def mn_st1 (xs : List (Option Value)) (i : Nat) (v : Value) : Option (List (Option Value)) :=
  if i < xs.length ∧ (0 < i → mn_c2 xs[i - 1]? = false) then some (xs.set i (some v)) else none
def mn_st2 (xs : List (Option Value)) (i : Nat) (v : Value) : Option (List (Option Value)) :=
  if i + 1 < xs.length ∧ (0 < i → mn_c2 xs[i - 1]? = false) then some ((xs.set i (some v)).set (i + 1) none) else none
def mn_go (pc : Nat) (off : Int) : Nat := ((pc : Int) + off).toNat
def mn_gook (pc : Nat) (off : Int) : Bool := decide (0 ≤ (pc : Int) + off)
/-- constants, locals, stack -/
def mn_opA (q : Instr × Nat) (pc : Nat) (xs : List (Option Value)) (st : List Value) (ns : Nat) (hs : mn_H) : Option mn_S :=
  match q with
  | (.iconst n, 1) => some (pc + 1, xs, .int (Int32.ofInt n) :: st, ns, hs)
  | (.bipush n, 2) => some (pc + 2, xs, .int (Int8.ofInt n).toInt32 :: st, ns, hs)
  | (.sipush n, 3) => some (pc + 3, xs, .int (Int16.ofInt n).toInt32 :: st, ns, hs)
  | (.lconst n, 1) => some (pc + 1, xs, .long (Int64.ofNat (n : Nat)) :: st, ns, hs)
  | (.aconst_null, 1) => some (pc + 1, xs, .null :: st, ns, hs)
  | (.iload_n k, 1) => match xs[(k : Nat)]? with
    | some (some (.int x)) => some (pc + 1, xs, .int x :: st, ns, hs)
    | _ => none
  | (.iload k, 2) => match xs[k]? with
    | some (some (.int x)) => some (pc + 2, xs, .int x :: st, ns, hs)
    | _ => none
  | (.lload_n k, 1) => match xs[(k : Nat)]? with
    | some (some (.long x)) => some (pc + 1, xs, .long x :: st, ns, hs)
    | _ => none
  | (.lload k, 2) => match xs[k]? with
    | some (some (.long x)) => some (pc + 2, xs, .long x :: st, ns, hs)
    | _ => none
  | (.aload_n k, 1) => match xs[(k : Nat)]? with
    | some (some (.ref x)) => some (pc + 1, xs, .ref x :: st, ns, hs)
    | some (some (.retAddr x)) => some (pc + 1, xs, .retAddr x :: st, ns, hs)
    | _ => none
  | (.aload k, 2) => match xs[k]? with
    | some (some (.ref x)) => some (pc + 2, xs, .ref x :: st, ns, hs)
    | some (some .null) => some (pc + 2, xs, .null :: st, ns, hs)
    | _ => none
  | (.istore_n k, 1) => match st with
    | .int x :: r => (mn_st1 xs (k : Nat) (.int x)).map fun ys => (pc + 1, ys, r, ns, hs)
    | _ => none
  | (.istore k, 2) => match st with
    | .int x :: r => (mn_st1 xs k (.int x)).map fun ys => (pc + 2, ys, r, ns, hs)
    | _ => none
  | (.lstore_n k, 1) => match st with
    | .long x :: r => (mn_st2 xs (k : Nat) (.long x)).map fun ys => (pc + 1, ys, r, ns, hs)
    | _ => none
  | (.lstore k, 2) => match st with
    | .long x :: r => (mn_st2 xs k (.long x)).map fun ys => (pc + 2, ys, r, ns, hs)
    | _ => none
  | (.astore_n k, 1) => match st with
    | .ref x :: r => (mn_st1 xs (k : Nat) (.ref x)).map fun ys => (pc + 1, ys, r, ns, hs)
    | _ => none
  | (.astore k, 2) => match st with
    | .ref x :: r => (mn_st1 xs k (.ref x)).map fun ys => (pc + 2, ys, r, ns, hs)
    | .null :: r => (mn_st1 xs k .null).map fun ys => (pc + 2, ys, r, ns, hs)
    | _ => none
  | (.iinc k n, 3) => match xs[k]? with
    | some (some (.int x)) => (mn_st1 xs k (.int (x + Int32.ofInt n))).map fun ys => (pc + 3, ys, st, ns, hs)
    | _ => none
  | (.dup, 1) => match st with
    | v :: r => if v.category = 1 then some (pc + 1, xs, v :: v :: r, ns, hs) else none
    | _ => none
  | (.pop, 1) => match st with
    | v :: r => if v.category = 1 then some (pc + 1, xs, r, ns, hs) else none
    | _ => none
  | (.dup2, 1) => match st with
    | v :: w :: r => if v.category = 1 ∧ w.category = 1 then some (pc + 1, xs, v :: w :: v :: w :: r, ns, hs) else none
    | _ => none
  | _ => none
/-- arithmetic on two numbers from the stack -/
def mn_ar (i : Instr) (x y : Int32) : Option Int32 := match i with
  | .iadd => some (x + y)
  | .isub => some (x - y)
  | .imul => some (x * y)
  | .iand => some (x &&& y)
  | .ior => some (x ||| y)
  | .ixor => some (x ^^^ y)
  | .idiv => if y = 0 then none else some (x / y)
  | .irem => if y = 0 then none else some (x - x / y * y)
  | .ishl => some (x <<< (y &&& 31))
  | .ishr => some (x >>> (y &&& 31))
  | _ => none
def mn_opB (q : Instr × Nat) (pc : Nat) (xs : List (Option Value)) (st : List Value) (ns : Nat) (hs : mn_H) : Option mn_S :=
  match q with
  | (i, 1) => match st with
    | .int y :: .int x :: r => (mn_ar i x y).map fun v => (pc + 1, xs, .int v :: r, ns, hs)
    | .long y :: .long x :: r => match i with
      | .land => some (pc + 1, xs, .long (x &&& y) :: r, ns, hs)
      | .lor => some (pc + 1, xs, .long (x ||| y) :: r, ns, hs)
      | .lcmp => some (pc + 1, xs, .int (lg_cmp x y) :: r, ns, hs)
      | _ => none
    | .int y :: .long x :: r => match i with
      | .lushr => some (pc + 1, xs, .long (x.toUInt64 >>> (y.toInt64.toUInt64 &&& Int64.toUInt64 63)).toInt64 :: r, ns, hs)
      | .lshl => some (pc + 1, xs, .long (x <<< (y.toInt64 &&& 63)) :: r, ns, hs)
      | _ => none
    | _ => none
  | _ => none
def mn_opB1 (q : Instr × Nat) (pc : Nat) (xs : List (Option Value)) (st : List Value) (ns : Nat) (hs : mn_H) : Option mn_S :=
  match q with
  | (i, 1) => match st with
    | .int x :: r => match i with
      | .i2l => some (pc + 1, xs, .long x.toInt64 :: r, ns, hs)
      | .i2c => some (pc + 1, xs, .int (x.toUInt32 % 65536).toInt32 :: r, ns, hs)
      | _ => none
    | .long x :: r => match i with
      | .l2i => some (pc + 1, xs, .int x.toInt32 :: r, ns, hs)
      | _ => none
    | _ => none
  | _ => none
/-- branches -/
def mn_cmp (k : ClassFile.Cond) (x y : Int32) : Bool := match k with
  | .eq => decide (x = y)
  | .ne => decide (¬ x = y)
  | .lt => decide (x < y)
  | .ge => decide (y ≤ x)
  | .gt => decide (y < x)
  | .le => decide (x ≤ y)
def mn_opC (q : Instr × Nat) (pc : Nat) (xs : List (Option Value)) (st : List Value) (ns : Nat) (hs : mn_H) : Option mn_S :=
  match q with
  | (.goto off, 3) => if mn_gook pc off then some (mn_go pc off, xs, st, ns, hs) else none
  | (.ifCond k off, 3) => match st with
    | .int x :: r => if mn_gook pc off then some (if mn_cmp k x 0 then mn_go pc off else pc + 3, xs, r, ns, hs) else none
    | _ => none
  | (.if_icmp k off, 3) => match st with
    | .int y :: .int x :: r => if mn_gook pc off then some (if mn_cmp k x y then mn_go pc off else pc + 3, xs, r, ns, hs) else none
    | _ => none
  | (.ifnull off, 3) => match st with
    | .ref _ :: r => some (pc + 3, xs, r, ns, hs)
    | .null :: r => if mn_gook pc off then some (mn_go pc off, xs, r, ns, hs) else none
    | _ => none
  | (.tableswitch d lo hi offs, _) => match st with
    | .int x :: r => if x.toInt < lo ∨ hi < x.toInt then (if mn_gook pc d then some (mn_go pc d, xs, r, ns, hs) else none) else match offs[(x.toInt - lo).toNat]? with
      | some off => if mn_gook pc off then some (mn_go pc off, xs, r, ns, hs) else none
      | none => none
    | _ => none
  | (.lookupswitch d ps, _) => match st with
    | .int x :: r => if (ps.toList.zip (ps.toList.drop 1)).all (fun (a, next) => a.1 < next.1) = true ∧ mn_gook pc (Op.lookupswitch.offset ps.toList d x.toInt) then some (mn_go pc (Op.lookupswitch.offset ps.toList d x.toInt), xs, r, ns, hs) else none
    | _ => none
  | _ => none
