/-! the evaluator: a method's body run over abstract cells (exact numbers, references by their places in the world's list, named unknowns .retAddr u) -/
abbrev xe_C : Type := (Nat × Nat × List (Nat × Value)) ⊕ (Nat × List Value)
abbrev xe_W : Type := List xe_C
abbrev xe_I : Type := Nat × Instr × Nat × List Nat
/-- code, number of arguments (the receiver too), kind of the answer (0 none, 1 int, 2 long, 3 reference), cells, slots, handlers (from, to, handler, exception's number) -/
abbrev xe_M : Type := List xe_I × Nat × Nat × Nat × Nat × List (Nat × Nat × Nat × Nat)
/-- ranges of the unknowns; what an operation with an unknown gives -/
abbrev xe_G : Type := List (Nat × Int × Int) × List ((Nat × Value × Value) × Value)
noncomputable def xe_nth {α : Type} (l : List α) : Nat → Option α := List.rec (motive := fun _ => Nat → Option α) (fun _ => none) (fun a _ ih i => Nat.rec (motive := fun _ => Option α) (some a) (fun j _ => ih j) i) l
noncomputable def xe_set {α : Type} (l : List α) (v : α) : Nat → List α := List.rec (motive := fun _ => Nat → List α) (fun _ => []) (fun a t ih i => Nat.rec (motive := fun _ => List α) (v :: t) (fun j _ => a :: ih j) i) l
noncomputable def xe_look (l : List (Nat × Value)) (i : Nat) : Option Value := List.rec (motive := fun _ => Option Value) none (fun a _ ih => bif Nat.beq a.1 i then some a.2 else ih) l
noncomputable def xe_flt (p : Nat × Value → Bool) (l : List (Nat × Value)) : List (Nat × Value) := List.rec (motive := fun _ => List (Nat × Value)) [] (fun a _ ih => bif p a then a :: ih else ih) l
noncomputable def xe_at (l : List xe_I) (pc : Nat) : List xe_I := List.rec (motive := fun _ => List xe_I) [] (fun a t ih => bif Nat.beq a.1 pc then a :: t else ih) l
noncomputable def xe_mk (x : Int32) : Value := Nat.rec (motive := fun _ => Value) (.int 0) (fun n _ => .int (Int32.ofNat (n + 1))) x.toBitVec.toNat
noncomputable def xe_mkL (x : Int64) : Value := Nat.rec (motive := fun _ => Value) (.long 0) (fun n _ => .long (Int64.ofNat (n + 1))) x.toBitVec.toNat
noncomputable def xe_rl (l : List (Nat × Int × Int)) (i : Nat) : Option (Int × Int) := List.rec (motive := fun _ => Option (Int × Int)) none (fun a _ ih => bif Nat.beq a.1 i then some a.2 else ih) l
/-- n values off the stack, the deepest first, and what is left -/
noncomputable def xe_pop (n : Nat) : List Value → List Value → Option (List Value × List Value) := Nat.rec (motive := fun _ => List Value → List Value → Option (List Value × List Value)) (fun st acc => some (acc, st)) (fun _ ih st acc => match st with
  | [] => none
  | v :: st => ih st (v :: acc)) n
noncomputable def xe_rng (G : xe_G) : Value → Option (Int × Int)
  | .int x => some (x.toInt, x.toInt)
  | .retAddr u => xe_rl G.1 u
  | _ => none
def xe_lt (a b : Int × Int) : Option Bool := if a.2 < b.1 then some true else if b.2 ≤ a.1 then some false else none
def xe_eq (a b : Int × Int) : Option Bool := if a.1 = a.2 ∧ b.1 = b.2 ∧ a.1 = b.1 then some true else if a.2 < b.1 ∨ b.2 < a.1 then some false else none
def xe_neg (o : Option Bool) : Option Bool := match o with
  | some b => some (!b)
  | none => none
/-- numbers in the order of their signs -/
def xe_bi (x : Int32) : Nat := (x.toBitVec.toNat + 2147483648) % 4294967296
noncomputable def xe_cmpR (G : xe_G) (c : ClassFile.Cond) (a b : Value) : Option Bool :=
  match xe_rng G a, xe_rng G b with
  | some ra, some rb => match c with
    | .lt => xe_lt ra rb
    | .ge => xe_neg (xe_lt ra rb)
    | .gt => xe_lt rb ra
    | .le => xe_neg (xe_lt rb ra)
    | .eq => xe_eq ra rb
    | .ne => xe_neg (xe_eq ra rb)
  | _, _ => none
def xe_cmpI (c : ClassFile.Cond) (a b : Nat) : Bool := match c with
  | .lt => Nat.blt a b
  | .ge => Nat.ble b a
  | .gt => Nat.blt b a
  | .le => Nat.ble a b
  | .eq => Nat.beq a b
  | .ne => !Nat.beq a b
noncomputable def xe_cmp (G : xe_G) (c : ClassFile.Cond) (a b : Value) : Option Bool := match a, b with
  | .int x, .int y => some (xe_cmpI c (xe_bi x) (xe_bi y))
  | _, _ => xe_cmpR G c a b
noncomputable def xe_sd (l : List ((Nat × Value × Value) × Value)) (op : Nat) (x y : Value) : Option Value := List.rec (motive := fun _ => Option Value) none (fun a _ ih => if a.1 = (op, x, y) then some a.2 else ih) l
/-- the numbers' operations -/
def xe_op (op : Nat) (x y : Int32) : Int32 := match op with
  | 0 => x + y
  | 1 => x - y
  | 2 => x * y
  | 3 => x &&& y
  | 4 => x ||| y
  | 5 => x ^^^ y
  | 6 => x <<< (y &&& 31)
  | 7 => x >>> (y &&& 31)
  | 8 => (x.toUInt32 >>> (y.toUInt32 &&& Int32.toUInt32 31)).toInt32
  | 9 => -x
  | _ => x.toInt8.toInt32
noncomputable def xe_bin (G : xe_G) (op : Nat) (a b : Value) : Option Value := match a, b with
  | .int x, .int y => some (xe_mk (xe_op op x y))
  | _, _ => xe_sd G.2 op a b
noncomputable def xe_s1 (al : List (Nat × Value)) (i : Nat) (v : Value) : List (Nat × Value) := (i, v) :: xe_flt (fun q => !(Nat.beq q.1 i) && !(Nat.beq (q.1 + 1) i && Nat.beq q.2.category 2)) al
noncomputable def xe_s2 (al : List (Nat × Value)) (i : Nat) (v : Value) : List (Nat × Value) := (i, v) :: xe_flt (fun q => !(Nat.beq q.1 i) && (!(Nat.beq q.1 (i + 1)) && !(Nat.beq (q.1 + 1) i && Nat.beq q.2.category 2))) al
noncomputable def xe_get (ty : Nat) (sp : List (Nat × Value)) (i : Nat) : Value := match xe_look sp i with
  | some v => v
  | none => if ty = 2 then .long 0 else .int 0
noncomputable def xe_put (ty : Nat) (sp : List (Nat × Value)) (i : Nat) (v : Value) : List (Nat × Value) := if xe_get ty sp i = v then sp else (i, v) :: xe_flt (fun q => !(Nat.beq q.1 i)) sp
def xe_tgt (pc : Nat) (off : Int) : Nat := ((pc : Int) + off).toNat
/-- what is behind an instruction that neither calls nor returns -/
abbrev xe_N : Type := Nat × List (Nat × Value) × List Value × xe_W × Nat × Nat
def xe_zero (d : Char) : Value := if d = 'J' then .long 0 else if d = 'I' ∨ d = 'Z' then .int 0 else .null
def xe_arr (i : Instr) (ty : Nat) : Bool := match i, ty with
  | .iaload, 1 => true
  | .baload, 0 => true
  | .laload, 2 => true
  | .iastore, 1 => true
  | .bastore, 0 => true
  | .lastore, 2 => true
  | .bastore, 3 => true
  | .baload, 3 => true
  | _, _ => false
def xe_aty : ArrayType → Nat
  | .byte => 0
  | .int => 1
  | .long => 2
  | .boolean => 3
  | _ => 9
abbrev xe_F : Type := xe_G → List (List Value) → Nat → Nat → Nat → Nat → List Nat → List (Nat × Value) → List Value → xe_W → Nat → Nat → Option xe_N
noncomputable def xe_iL (k : Nat) (G : xe_G) (Z : List (List Value)) (mc ms pc len : Nat) (res : List Nat) (al : List (Nat × Value)) (st : List Value) (w : xe_W) (nc ns : Nat) : Option xe_N := match xe_look al k with
  | some v => some (pc + len, al, v :: st, w, nc, ns)
  | none => none
noncomputable def xe_iC (v : Value) (G : xe_G) (Z : List (List Value)) (mc ms pc len : Nat) (res : List Nat) (al : List (Nat × Value)) (st : List Value) (w : xe_W) (nc ns : Nat) : Option xe_N := some (pc + len, al, v :: st, w, nc, ns)
noncomputable def xe_iK (G : xe_G) (Z : List (List Value)) (mc ms pc len : Nat) (res : List Nat) (al : List (Nat × Value)) (st : List Value) (w : xe_W) (nc ns : Nat) : Option xe_N := match res with
  | [n] => some (pc + len, al, .int (Int32.ofNat n) :: st, w, nc, ns)
  | _ => none
noncomputable def xe_iS (k : Nat) (G : xe_G) (Z : List (List Value)) (mc ms pc len : Nat) (res : List Nat) (al : List (Nat × Value)) (st : List Value) (w : xe_W) (nc ns : Nat) : Option xe_N := match st with
  | v :: st => some (pc + len, xe_s1 al k v, st, w, nc, ns)
  | _ => none
noncomputable def xe_iS2 (k : Nat) (G : xe_G) (Z : List (List Value)) (mc ms pc len : Nat) (res : List Nat) (al : List (Nat × Value)) (st : List Value) (w : xe_W) (nc ns : Nat) : Option xe_N := match st with
  | v :: st => some (pc + len, xe_s2 al k v, st, w, nc, ns)
  | _ => none
noncomputable def xe_iInc (k : Nat) (n : Int) (G : xe_G) (Z : List (List Value)) (mc ms pc len : Nat) (res : List Nat) (al : List (Nat × Value)) (st : List Value) (w : xe_W) (nc ns : Nat) : Option xe_N := match xe_look al k with
  | some v => match xe_bin G 0 v (.int (Int32.ofInt n)) with
    | some v => some (pc + len, xe_s1 al k v, st, w, nc, ns)
    | none => none
  | none => none
noncomputable def xe_iDup (G : xe_G) (Z : List (List Value)) (mc ms pc len : Nat) (res : List Nat) (al : List (Nat × Value)) (st : List Value) (w : xe_W) (nc ns : Nat) : Option xe_N := match st with
  | v :: st => some (pc + len, al, v :: v :: st, w, nc, ns)
  | _ => none
noncomputable def xe_iDup2 (G : xe_G) (Z : List (List Value)) (mc ms pc len : Nat) (res : List Nat) (al : List (Nat × Value)) (st : List Value) (w : xe_W) (nc ns : Nat) : Option xe_N := match st with
  | v :: u :: st => some (pc + len, al, v :: u :: v :: u :: st, w, nc, ns)
  | _ => none
noncomputable def xe_iPop (G : xe_G) (Z : List (List Value)) (mc ms pc len : Nat) (res : List Nat) (al : List (Nat × Value)) (st : List Value) (w : xe_W) (nc ns : Nat) : Option xe_N := match st with
  | _ :: st => some (pc + len, al, st, w, nc, ns)
  | _ => none
noncomputable def xe_iGoto (off : Int) (G : xe_G) (Z : List (List Value)) (mc ms pc len : Nat) (res : List Nat) (al : List (Nat × Value)) (st : List Value) (w : xe_W) (nc ns : Nat) : Option xe_N := some (xe_tgt pc off, al, st, w, nc, ns)
noncomputable def xe_iIf (c : ClassFile.Cond) (off : Int) (G : xe_G) (Z : List (List Value)) (mc ms pc len : Nat) (res : List Nat) (al : List (Nat × Value)) (st : List Value) (w : xe_W) (nc ns : Nat) : Option xe_N := match st with
  | v :: st => match xe_cmp G c v (.int 0) with
    | some true => some (xe_tgt pc off, al, st, w, nc, ns)
    | some false => some (pc + len, al, st, w, nc, ns)
    | none => none
  | _ => none
noncomputable def xe_iCmp (c : ClassFile.Cond) (off : Int) (G : xe_G) (Z : List (List Value)) (mc ms pc len : Nat) (res : List Nat) (al : List (Nat × Value)) (st : List Value) (w : xe_W) (nc ns : Nat) : Option xe_N := match st with
  | u :: v :: st => match xe_cmp G c v u with
    | some true => some (xe_tgt pc off, al, st, w, nc, ns)
    | some false => some (pc + len, al, st, w, nc, ns)
    | none => none
  | _ => none
noncomputable def xe_iB (op : Nat) (G : xe_G) (Z : List (List Value)) (mc ms pc len : Nat) (res : List Nat) (al : List (Nat × Value)) (st : List Value) (w : xe_W) (nc ns : Nat) : Option xe_N := match st with
  | u :: v :: st => match xe_bin G op v u with
    | some x => some (pc + len, al, x :: st, w, nc, ns)
    | none => none
  | _ => none
noncomputable def xe_iU (op : Nat) (G : xe_G) (Z : List (List Value)) (mc ms pc len : Nat) (res : List Nat) (al : List (Nat × Value)) (st : List Value) (w : xe_W) (nc ns : Nat) : Option xe_N := match st with
  | v :: st => match xe_bin G op v (.int 0) with
    | some x => some (pc + len, al, x :: st, w, nc, ns)
    | none => none
  | _ => none
noncomputable def xe_iDiv (G : xe_G) (Z : List (List Value)) (mc ms pc len : Nat) (res : List Nat) (al : List (Nat × Value)) (st : List Value) (w : xe_W) (nc ns : Nat) : Option xe_N := match st with
  | .int y :: .int x :: st => if y = 0 then none else some (pc + len, al, xe_mk (x / y) :: st, w, nc, ns)
  | _ => none
noncomputable def xe_iI2l (G : xe_G) (Z : List (List Value)) (mc ms pc len : Nat) (res : List Nat) (al : List (Nat × Value)) (st : List Value) (w : xe_W) (nc ns : Nat) : Option xe_N := match st with
  | .int x :: st => some (pc + len, al, xe_mkL x.toInt64 :: st, w, nc, ns)
  | _ => none
noncomputable def xe_iLadd (G : xe_G) (Z : List (List Value)) (mc ms pc len : Nat) (res : List Nat) (al : List (Nat × Value)) (st : List Value) (w : xe_W) (nc ns : Nat) : Option xe_N := match st with
  | .long y :: .long x :: st => some (pc + len, al, xe_mkL (x + y) :: st, w, nc, ns)
  | _ => none
noncomputable def xe_iLmul (G : xe_G) (Z : List (List Value)) (mc ms pc len : Nat) (res : List Nat) (al : List (Nat × Value)) (st : List Value) (w : xe_W) (nc ns : Nat) : Option xe_N := match st with
  | .long y :: .long x :: st => some (pc + len, al, xe_mkL (x * y) :: st, w, nc, ns)
  | _ => none
noncomputable def xe_iLdiv (G : xe_G) (Z : List (List Value)) (mc ms pc len : Nat) (res : List Nat) (al : List (Nat × Value)) (st : List Value) (w : xe_W) (nc ns : Nat) : Option xe_N := match st with
  | .long y :: .long x :: st => if y = 0 then none else some (pc + len, al, xe_mkL (x / y) :: st, w, nc, ns)
  | _ => none
noncomputable def xe_iLcmp (G : xe_G) (Z : List (List Value)) (mc ms pc len : Nat) (res : List Nat) (al : List (Nat × Value)) (st : List Value) (w : xe_W) (nc ns : Nat) : Option xe_N := match st with
  | .long y :: .long x :: st => some (pc + len, al, .int (if x < y then -1 else if x = y then 0 else 1) :: st, w, nc, ns)
  | _ => none
noncomputable def xe_iTab (dd lo hi : Int) (offs : Array Int) (G : xe_G) (Z : List (List Value)) (mc ms pc len : Nat) (res : List Nat) (al : List (Nat × Value)) (st : List Value) (w : xe_W) (nc ns : Nat) : Option xe_N := match st with
  | v :: st => match xe_rng G v with
    | some (a, b) => if a = b ∧ ¬ a < lo ∧ ¬ hi < a then
        match offs[(a - lo).toNat]? with
        | some off => some (xe_tgt pc off, al, st, w, nc, ns)
        | none => none
      else if b < lo ∨ hi < a then some (xe_tgt pc dd, al, st, w, nc, ns) else none
    | none => none
  | _ => none
noncomputable def xe_iGet (G : xe_G) (Z : List (List Value)) (mc ms pc len : Nat) (res : List Nat) (al : List (Nat × Value)) (st : List Value) (w : xe_W) (nc ns : Nat) : Option xe_N := match st, res with
  | .ref a :: st, [ci, k] => match xe_nth w a with
    | some (.inr (cj, fs)) => bif Nat.beq ci cj then
        match xe_nth fs k with
        | some v => some (pc + len, al, v :: st, w, nc, ns)
        | none => none
      else none
    | _ => none
  | _, _ => none
noncomputable def xe_iPut (G : xe_G) (Z : List (List Value)) (mc ms pc len : Nat) (res : List Nat) (al : List (Nat × Value)) (st : List Value) (w : xe_W) (nc ns : Nat) : Option xe_N := match st, res with
  | v :: .ref a :: st, [ci, k] => match xe_nth w a with
    | some (.inr (cj, fs)) => bif Nat.beq ci cj then
        bif Nat.blt k fs.length then some (pc + len, al, st, xe_set w (.inr (cj, xe_set fs v k)) a, nc, ns) else none
      else none
    | _ => none
  | _, _ => none
noncomputable def xe_iLen (G : xe_G) (Z : List (List Value)) (mc ms pc len : Nat) (res : List Nat) (al : List (Nat × Value)) (st : List Value) (w : xe_W) (nc ns : Nat) : Option xe_N := match st with
  | .ref a :: st => match xe_nth w a with
    | some (.inl (_, n, _)) => some (pc + len, al, .int (Int32.ofNat n) :: st, w, nc, ns)
    | _ => none
  | .double _ :: st => some (pc + len, al, .int 5 :: st, w, nc, ns)
  | _ => none
noncomputable def xe_iNewa (t : ArrayType) (G : xe_G) (Z : List (List Value)) (mc ms pc len : Nat) (res : List Nat) (al : List (Nat × Value)) (st : List Value) (w : xe_W) (nc ns : Nat) : Option xe_N := match st with
  | .int n :: st => match n.toInt with
    | .ofNat k => bif xe_aty t == 9 || Nat.blt mc (nc + 1) || Nat.blt ms (ns + k) then none
      else some (pc + len, al, .ref w.length :: st, w ++ [.inl (xe_aty t, k, [])], nc + 1, ns + k)
    | _ => none
  | _ => none
noncomputable def xe_iNew (G : xe_G) (Z : List (List Value)) (mc ms pc len : Nat) (res : List Nat) (al : List (Nat × Value)) (st : List Value) (w : xe_W) (nc ns : Nat) : Option xe_N := match res with
  | [ci, n] => match xe_nth Z ci with
    | some fs => bif Nat.blt mc (nc + 1) || Nat.blt ms (ns + n) || !(Nat.beq fs.length n) then none
      else some (pc + len, al, .ref w.length :: st, w ++ [.inr (ci, fs)], nc + 1, ns + n)
    | none => none
  | _ => none
noncomputable def xe_iAld (i : Instr) (G : xe_G) (Z : List (List Value)) (mc ms pc len : Nat) (res : List Nat) (al : List (Nat × Value)) (st : List Value) (w : xe_W) (nc ns : Nat) : Option xe_N := match st with
  | .int j :: .ref a :: st => match xe_nth w a with
    | some (.inl (ty, n, sp)) => match j.toInt with
      | .ofNat k => bif xe_arr i ty && Nat.blt k n then some (pc + len, al, xe_get ty sp k :: st, w, nc, ns) else none
      | _ => none
    | _ => none
  | _ => none
noncomputable def xe_iAst (i : Instr) (G : xe_G) (Z : List (List Value)) (mc ms pc len : Nat) (res : List Nat) (al : List (Nat × Value)) (st : List Value) (w : xe_W) (nc ns : Nat) : Option xe_N := match st with
  | v :: .int j :: .ref a :: st => match xe_nth w a with
    | some (.inl (ty, n, sp)) => match j.toInt with
      | .ofNat k => bif xe_arr i ty && Nat.blt k n then some (pc + len, al, st, xe_set w (.inl (ty, n, xe_put ty sp k v)) a, nc, ns) else none
      | _ => none
    | _ => none
  | _ => none
noncomputable def xe_iNo (G : xe_G) (Z : List (List Value)) (mc ms pc len : Nat) (res : List Nat) (al : List (Nat × Value)) (st : List Value) (w : xe_W) (nc ns : Nat) : Option xe_N := none
noncomputable def xe_iCast (G : xe_G) (Z : List (List Value)) (mc ms pc len : Nat) (res : List Nat) (al : List (Nat × Value)) (st : List Value) (w : xe_W) (nc ns : Nat) : Option xe_N := some (pc + len, al, st, w, nc, ns)
noncomputable def xe_step (i : Instr) : xe_F := match i with
  | .aload_n k => xe_iL k
  | .iload_n k => xe_iL k
  | .lload_n k => xe_iL k
  | .aload k => xe_iL k
  | .iload k => xe_iL k
  | .lload k => xe_iL k
  | .iconst n => xe_iC (.int (Int32.ofInt n))
  | .bipush n => xe_iC (.int (Int8.ofInt n).toInt32)
  | .sipush n => xe_iC (.int (Int16.ofInt n).toInt32)
  | .lconst n => xe_iC (.long (Int64.ofNat (n : Nat)))
  | .getstatic _ => xe_iC (.double 0)
  | .ldc _ => xe_iK
  | .ldc_w _ => xe_iK
  | .istore_n k => xe_iS k
  | .astore_n k => xe_iS k
  | .istore k => xe_iS k
  | .astore k => xe_iS k
  | .lstore_n k => xe_iS2 k
  | .lstore k => xe_iS2 k
  | .iinc k n => xe_iInc k n
  | .dup => xe_iDup
  | .dup2 => xe_iDup2
  | .pop => xe_iPop
  | .goto off => xe_iGoto off
  | .ifCond c off => xe_iIf c off
  | .if_icmp c off => xe_iCmp c off
  | .iadd => xe_iB 0
  | .isub => xe_iB 1
  | .imul => xe_iB 2
  | .iand => xe_iB 3
  | .ior => xe_iB 4
  | .ixor => xe_iB 5
  | .ishl => xe_iB 6
  | .ishr => xe_iB 7
  | .iushr => xe_iB 8
  | .ineg => xe_iU 9
  | .i2b => xe_iU 10
  | .idiv => xe_iDiv
  | .i2l => xe_iI2l
  | .ladd => xe_iLadd
  | .lmul => xe_iLmul
  | .ldiv => xe_iLdiv
  | .lcmp => xe_iLcmp
  | .tableswitch d lo hi offs => xe_iTab d lo hi offs
  | .getfield _ => xe_iGet
  | .putfield _ => xe_iPut
  | .arraylength => xe_iLen
  | .newarray t => xe_iNewa t
  | .new _ => xe_iNew
  | .iaload => xe_iAld .iaload
  | .laload => xe_iAld .laload
  | .iastore => xe_iAst .iastore
  | .bastore => xe_iAst .bastore
  | .lastore => xe_iAst .lastore
  | .checkcast _ => xe_iCast
  | _ => xe_iNo
/-- the answer: (0, _) none, (1, v) v, (2, k) the exception k was thrown; the world behind it -/
abbrev xe_R : Type := Nat × Value × xe_W
noncomputable def xe_copy (ty : Nat) (src : List (Nat × Value)) (dst : List (Nat × Value)) (sp dp : Nat) : Nat → List (Nat × Value)
  | 0 => dst
  | n + 1 => xe_put ty (xe_copy ty src dst sp dp n) (dp + n) (xe_get ty src (sp + n))
/-- the row of handlers that takes the exception k thrown at pc: its code answers a constant -/
noncomputable def xe_catch (code : List xe_I) (pc k : Nat) : List (Nat × Nat × Nat × Nat) → Option Value
  | [] => none
  | (a, b, h, k') :: t => bif Nat.ble a pc && Nat.blt pc b && Nat.beq k k' then
      match xe_at code h with
      | (_, _, _, _) :: (_, .iconst c, _, _) :: (_, .ireturn, _, _) :: _ => some (.int (Int32.ofInt c))
      | _ => none
    else xe_catch code pc k t
/-- the static row of settings -/
def xe_SF : List (Nat × Value) := [(0, .int 1), (1, .int 11), (2, .int 5), (3, .int 6), (4, .int 10)]
abbrev xe_K : Type := xe_M → List xe_I → Nat → List (Nat × Value) → List Value → xe_W → Nat → Nat → Option xe_R
abbrev xe_B : Type := List xe_M → xe_G → List (List Value) → xe_K → xe_M → xe_I → List xe_I → Nat → List (Nat × Value) → List Value → xe_W → Nat → Nat → Option xe_R
noncomputable def xe_bCall (y n : Nat) (P : List xe_M) (G : xe_G) (Z : List (List Value)) (rr : xe_K) (M : xe_M) (e : xe_I) (tl : List xe_I) (pc : Nat) (al : List (Nat × Value)) (st : List Value) (w : xe_W) (nc ns : Nat) : Option xe_R := match xe_nth P y with
  | none => none
  | some Y => bif Nat.blt M.2.2.2.1 (nc + Y.2.2.2.1) || Nat.blt M.2.2.2.2.1 (ns + Y.2.2.2.2.1) then none else
    match xe_pop n st [] with
    | none => none
    | some (as, rest) => match rr Y Y.1 0 (lv_args 0 as) [] w 0 0 with
      | some (0, _, w') => rr M tl (pc + 3) al rest w' (nc + Y.2.2.2.1) (ns + Y.2.2.2.2.1)
      | some (1, v, w') => rr M tl (pc + 3) al (v :: rest) w' (nc + Y.2.2.2.1) (ns + Y.2.2.2.2.1)
      | some (2, .int k, w') => match xe_catch M.1 pc k.toNatClampNeg M.2.2.2.2.2 with
        | some v => some (1, v, w')
        | none => some (2, .int k, w')
      | _ => none
noncomputable def xe_bThrow (k : Nat) (P : List xe_M) (G : xe_G) (Z : List (List Value)) (rr : xe_K) (M : xe_M) (e : xe_I) (tl : List xe_I) (pc : Nat) (al : List (Nat × Value)) (st : List Value) (w : xe_W) (nc ns : Nat) : Option xe_R := some (2, .int (Int32.ofNat k), w)
noncomputable def xe_bObj (P : List xe_M) (G : xe_G) (Z : List (List Value)) (rr : xe_K) (M : xe_M) (e : xe_I) (tl : List xe_I) (pc : Nat) (al : List (Nat × Value)) (st : List Value) (w : xe_W) (nc ns : Nat) : Option xe_R := rr M tl (pc + 3) al (st.drop 1) w nc ns
noncomputable def xe_bCopy (P : List xe_M) (G : xe_G) (Z : List (List Value)) (rr : xe_K) (M : xe_M) (e : xe_I) (tl : List xe_I) (pc : Nat) (al : List (Nat × Value)) (st : List Value) (w : xe_W) (nc ns : Nat) : Option xe_R := match st with
  | .int n :: .int dp :: .ref b :: .int sp :: s :: rest => match xe_nth w b, n.toInt, dp.toInt, sp.toInt with
    | some (.inl (ty, m, d)), .ofNat n, .ofNat dp, .ofNat sp => bif Nat.beq ty 1 && Nat.ble (dp + n) m then
        match s with
        | .ref a => match xe_nth w a with
          | some (.inl (ty2, m2, sr)) => bif Nat.beq ty2 1 && Nat.ble (sp + n) m2 then rr M tl (pc + 3) al rest (xe_set w (.inl (ty, m, xe_copy ty sr d sp dp n)) b) nc ns else none
          | _ => none
        | .double _ => bif Nat.ble (sp + n) 5 then rr M tl (pc + 3) al rest (xe_set w (.inl (ty, m, xe_copy ty xe_SF d sp dp n)) b) nc ns else none
        | _ => none
      else none
    | _, _, _, _ => none
  | _ => none
noncomputable def xe_bClone (P : List xe_M) (G : xe_G) (Z : List (List Value)) (rr : xe_K) (M : xe_M) (e : xe_I) (tl : List xe_I) (pc : Nat) (al : List (Nat × Value)) (st : List Value) (w : xe_W) (nc ns : Nat) : Option xe_R := match st with
  | .double _ :: rest => bif Nat.blt M.2.2.2.1 (nc + 1) || Nat.blt M.2.2.2.2.1 (ns + 5) then none else
      rr M tl (pc + 3) al (.ref w.length :: rest) (w ++ [.inl (1, 5, xe_SF)]) (nc + 1) (ns + 5)
  | _ => none
noncomputable def xe_bRet0 (P : List xe_M) (G : xe_G) (Z : List (List Value)) (rr : xe_K) (M : xe_M) (e : xe_I) (tl : List xe_I) (pc : Nat) (al : List (Nat × Value)) (st : List Value) (w : xe_W) (nc ns : Nat) : Option xe_R := some (0, .null, w)
noncomputable def xe_bRet (P : List xe_M) (G : xe_G) (Z : List (List Value)) (rr : xe_K) (M : xe_M) (e : xe_I) (tl : List xe_I) (pc : Nat) (al : List (Nat × Value)) (st : List Value) (w : xe_W) (nc ns : Nat) : Option xe_R := match st with
  | [v] => some (1, v, w)
  | _ => none
noncomputable def xe_bOn (P : List xe_M) (G : xe_G) (Z : List (List Value)) (rr : xe_K) (M : xe_M) (e : xe_I) (tl : List xe_I) (pc : Nat) (al : List (Nat × Value)) (st : List Value) (w : xe_W) (nc ns : Nat) : Option xe_R := match xe_step e.2.1 G Z M.2.2.2.1 M.2.2.2.2.1 pc e.2.2.1 e.2.2.2 al st w nc ns with
  | some (pc2, al2, st2, w2, nc2, ns2) => rr M (bif Nat.beq pc2 (pc + e.2.2.1) then tl else xe_at M.1 pc2) pc2 al2 st2 w2 nc2 ns2
  | none => none
noncomputable def xe_bI (i : Instr) : xe_B := match i with
  | .return_ => xe_bRet0
  | .ireturn => xe_bRet
  | .lreturn => xe_bRet
  | .areturn => xe_bRet
  | _ => xe_bOn
noncomputable def xe_bR (i : Instr) (res : List Nat) : xe_B := match res with
  | [0, y, n, _] => xe_bCall y n
  | [1, k, _, _, _] => xe_bThrow k
  | [2, _, _] => xe_bObj
  | [3, _, _] => xe_bCopy
  | [4, _, _] => xe_bClone
  | _ => xe_bI i
noncomputable def xe_body (P : List xe_M) (G : xe_G) (Z : List (List Value)) (rr : xe_K) : xe_K := fun M cur pc al st w nc ns => match cur with
  | [] => none
  | e :: tl => bif Nat.beq e.1 pc then xe_bR e.2.1 e.2.2.2 P G Z rr M e tl pc al st w nc ns else none
noncomputable def xe_run (P : List xe_M) (G : xe_G) (Z : List (List Value)) (f : Nat) : xe_K := Nat.rec (motive := fun _ => xe_K) (fun _ _ _ _ _ _ _ _ => none) (fun _ ih => xe_body P G Z ih) f
