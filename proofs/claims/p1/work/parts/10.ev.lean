/-! the evaluator: a method's body run over abstract cells (exact numbers, references by their places in the world's list, named unknowns .retAddr u) -/
abbrev xe_C : Type := (Nat × Nat × List (Nat × Value)) ⊕ (Nat × List Value)
abbrev xe_W : Type := List xe_C
abbrev xe_I : Type := Nat × Instr × Nat × List Nat
/-- code, number of arguments (the receiver too), kind of the answer (0 none, 1 int, 2 long, 3 reference), cells, slots, handlers (from, to, handler, exception's number) -/
abbrev xe_M : Type := List xe_I × Nat × Nat × Nat × Nat × List (Nat × Nat × Nat × Nat)
/-- ranges of the unknowns; what an operation with an unknown gives; the script's numbers; the unknowns that are bytes -/
abbrev xe_G : Type := List (Nat × Int × Int) × List ((Nat × Value × Value) × Value) × List Value × List Nat
noncomputable def xe_nth {α : Type} (l : List α) : Nat → Option α := List.rec (motive := fun _ => Nat → Option α) (fun _ => none) (fun a _ ih i => Nat.rec (motive := fun _ => Option α) (some a) (fun j _ => ih j) i) l
noncomputable def xe_set {α : Type} (l : List α) (v : α) : Nat → List α := List.rec (motive := fun _ => Nat → List α) (fun _ => []) (fun a t ih i => Nat.rec (motive := fun _ => List α) (v :: t) (fun j _ => a :: ih j) i) l
noncomputable def xe_look (l : List (Nat × Value)) (i : Nat) : Option Value := List.rec (motive := fun _ => Option Value) none (fun a _ ih => bif Nat.beq a.1 i then some a.2 else ih) l
noncomputable def xe_flt (p : Nat × Value → Bool) (l : List (Nat × Value)) : List (Nat × Value) := List.rec (motive := fun _ => List (Nat × Value)) [] (fun a _ ih => bif p a then a :: ih else ih) l
noncomputable def xe_at (l : List xe_I) (pc : Nat) : List xe_I := List.rec (motive := fun _ => List xe_I) [] (fun a t ih => bif Nat.beq a.1 pc then a :: t else ih) l
noncomputable def xe_mk (x : Int32) : Value := Nat.rec (motive := fun _ => Value) (.int 0) (fun n _ => .int (Int32.ofNat (n + 1))) x.toBitVec.toNat
noncomputable def xe_mkL (x : Int64) : Value := Nat.rec (motive := fun _ => Value) (.long 0) (fun n _ => .long (Int64.ofNat (n + 1))) x.toBitVec.toNat
noncomputable def xe_rl (l : List (Nat × Int × Int)) (i : Nat) : Option (Int × Int) := List.rec (motive := fun _ => Option (Int × Int)) none (fun a _ ih => bif Nat.beq a.1 i then some a.2 else ih) l
/-- n values off the stack, the deepest first, and what is left -/
noncomputable def xe_pop (n : Nat) : List Value → List Value → Option (List Value × List Value) := Nat.rec (motive := fun _ => List Value → List Value → Option (List Value × List Value)) (fun st acc => some (acc, st)) (fun _ ih st acc => match st with
  | [] => none
  | v :: st => ih st (v :: acc)) n
noncomputable def xe_rng (G : xe_G) : Value → Option (Int × Int)
  | .int x => some (x.toInt, x.toInt)
  | .retAddr u => xe_rl G.1 u
  | _ => none
def xe_lt (a b : Int × Int) : Option Bool := if a.2 < b.1 then some true else if b.2 ≤ a.1 then some false else none
def xe_eq (a b : Int × Int) : Option Bool := if a.1 = a.2 ∧ b.1 = b.2 ∧ a.1 = b.1 then some true else if a.2 < b.1 ∨ b.2 < a.1 then some false else none
def xe_neg (o : Option Bool) : Option Bool := match o with
  | some b => some (!b)
  | none => none
/-- numbers in the order of their signs -/
def xe_bi (x : Int32) : Nat := (x.toBitVec.toNat + 2147483648) % 4294967296
noncomputable def xe_cmpR (G : xe_G) (c : ClassFile.Cond) (a b : Value) : Option Bool :=
  match xe_rng G a, xe_rng G b with
  | some ra, some rb => match c with
    | .lt => xe_lt ra rb
    | .ge => xe_neg (xe_lt ra rb)
    | .gt => xe_lt rb ra
    | .le => xe_neg (xe_lt rb ra)
    | .eq => xe_eq ra rb
    | .ne => xe_neg (xe_eq ra rb)
  | _, _ => none
def xe_cmpI (c : ClassFile.Cond) (a b : Nat) : Bool := match c with
  | .lt => Nat.blt a b
  | .ge => Nat.ble b a
  | .gt => Nat.blt b a
  | .le => Nat.ble a b
  | .eq => Nat.beq a b
  | .ne => !Nat.beq a b
noncomputable def xe_cmp (G : xe_G) (c : ClassFile.Cond) (a b : Value) : Option Bool := match a, b with
  | .int x, .int y => some (xe_cmpI c (xe_bi x) (xe_bi y))
  | _, _ => xe_cmpR G c a b
noncomputable def xe_sd (l : List ((Nat × Value × Value) × Value)) (op : Nat) (x y : Value) : Option Value := List.rec (motive := fun _ => Option Value) none (fun a _ ih => if a.1 = (op, x, y) then some a.2 else ih) l
/-- the numbers' operations -/
def xe_op (op : Nat) (x y : Int32) : Int32 := match op with
  | 0 => x + y
  | 1 => x - y
  | 2 => x * y
  | 3 => x &&& y
  | 4 => x ||| y
  | 5 => x ^^^ y
  | 6 => x <<< (y &&& 31)
  | 7 => x >>> (y &&& 31)
  | 8 => (x.toUInt32 >>> (y.toUInt32 &&& Int32.toUInt32 31)).toInt32
  | 9 => -x
  | _ => x.toInt8.toInt32
noncomputable def xe_bin (G : xe_G) (op : Nat) (a b : Value) : Option Value := match a, b with
  | .int x, .int y => some (xe_mk (xe_op op x y))
  | _, _ => xe_sd G.2.1 op a b
noncomputable def xe_s1 (al : List (Nat × Value)) (i : Nat) (v : Value) : List (Nat × Value) := (i, v) :: xe_flt (fun q => !(Nat.beq q.1 i) && !(Nat.beq (q.1 + 1) i && Nat.beq q.2.category 2)) al
noncomputable def xe_s2 (al : List (Nat × Value)) (i : Nat) (v : Value) : List (Nat × Value) := (i, v) :: xe_flt (fun q => !(Nat.beq q.1 i) && (!(Nat.beq q.1 (i + 1)) && !(Nat.beq (q.1 + 1) i && Nat.beq q.2.category 2))) al
noncomputable def xe_get (ty : Nat) (sp : List (Nat × Value)) (i : Nat) : Value := match xe_look sp i with
  | some v => v
  | none => if ty = 2 then .long 0 else .int 0
noncomputable def xe_put (ty : Nat) (sp : List (Nat × Value)) (i : Nat) (v : Value) : List (Nat × Value) := if xe_get ty sp i = v then sp else (i, v) :: xe_flt (fun q => !(Nat.beq q.1 i)) sp
/-- of which kind a value is: 0 a number, 1 a reference, 2 a long -/
def xe_kd (k : Nat) (v : Value) : Bool := match v with
  | .int _ => Nat.beq k 0
  | .retAddr _ => Nat.beq k 0
  | .ref _ => Nat.beq k 1
  | .float _ => Nat.beq k 1
  | .long _ => Nat.beq k 2
  | _ => false
def xe_c1 (v : Value) : Bool := match v with
  | .int _ => true
  | .retAddr _ => true
  | .ref _ => true
  | .float _ => true
  | _ => false
/-- what fits a field: 0 int, 1 boolean, 2 long, 3 a reference -/
def xe_fit (k : Nat) (v : Value) : Bool := match k with
  | 0 => xe_kd 0 v
  | 1 => decide (v = .int 0) || decide (v = .int 1)
  | 2 => xe_kd 2 v
  | 3 => xe_kd 1 v
  | _ => false
/-- references lie below n -/
def xe_okv (n : Nat) (v : Value) : Bool := match v with
  | .ref k => Nat.blt k n
  | _ => true
noncomputable def xe_okS (n : Nat) (l : List Value) : Bool := List.rec (motive := fun _ => Bool) true (fun a _ ih => xe_okv n a && ih) l
noncomputable def xe_okA (n : Nat) (l : List (Nat × Value)) : Bool := List.rec (motive := fun _ => Bool) true (fun a _ ih => xe_okv n a.2 && ih) l
noncomputable def xe_okC (n : Nat) (c : xe_C) : Bool := match c with
  | .inl _ => true
  | .inr o => xe_okS n o.2
noncomputable def xe_okW (n : Nat) (w : xe_W) : Bool := List.rec (motive := fun _ => Bool) true (fun a _ ih => xe_okC n a && ih) w
noncomputable def xe_ok (n : Nat) (al : List (Nat × Value)) (st : List Value) (w : xe_W) : Bool := xe_okA n al && (xe_okS n st && xe_okW n w)
def xe_tgt (pc : Nat) (off : Int) : Option Nat := match (pc : Int) + off with
  | .ofNat t => some t
  | _ => none
/-- what is behind an instruction that neither calls nor returns -/
abbrev xe_N : Type := Nat × List (Nat × Value) × List Value × xe_W × Nat × Nat
def xe_aty : ArrayType → Nat
  | .byte => 0
  | .int => 1
  | .long => 2
  | .boolean => 3
  | _ => 9
def xe_nn (x : Int32) : Option Nat := match x.toInt with
  | .ofNat k => some k
  | _ => none
abbrev xe_F : Type := xe_G → List (List Value) → Nat → Nat → Nat → Nat → List Nat → List (Nat × Value) → List Value → xe_W → Nat → Nat → Option xe_N
noncomputable def xe_iL (kd k : Nat) (G : xe_G) (Z : List (List Value)) (mc ms pc len : Nat) (res : List Nat) (al : List (Nat × Value)) (st : List Value) (w : xe_W) (nc ns : Nat) : Option xe_N := match xe_look al k with
  | some v => bif xe_kd kd v then some (pc + len, al, v :: st, w, nc, ns) else none
  | none => none
noncomputable def xe_iC (v : Value) (G : xe_G) (Z : List (List Value)) (mc ms pc len : Nat) (res : List Nat) (al : List (Nat × Value)) (st : List Value) (w : xe_W) (nc ns : Nat) : Option xe_N := some (pc + len, al, v :: st, w, nc, ns)
noncomputable def xe_iK (G : xe_G) (Z : List (List Value)) (mc ms pc len : Nat) (res : List Nat) (al : List (Nat × Value)) (st : List Value) (w : xe_W) (nc ns : Nat) : Option xe_N := match res with
  | [13, n] => some (pc + len, al, .int (Int32.ofNat n) :: st, w, nc, ns)
  | _ => none
noncomputable def xe_iS (kd k : Nat) (G : xe_G) (Z : List (List Value)) (mc ms pc len : Nat) (res : List Nat) (al : List (Nat × Value)) (st : List Value) (w : xe_W) (nc ns : Nat) : Option xe_N := match st with
  | v :: st => bif xe_kd kd v then some (pc + len, xe_s1 al k v, st, w, nc, ns) else none
  | _ => none
noncomputable def xe_iS2 (k : Nat) (G : xe_G) (Z : List (List Value)) (mc ms pc len : Nat) (res : List Nat) (al : List (Nat × Value)) (st : List Value) (w : xe_W) (nc ns : Nat) : Option xe_N := match st with
  | v :: st => bif xe_kd 2 v then some (pc + len, xe_s2 al k v, st, w, nc, ns) else none
  | _ => none
noncomputable def xe_iInc (k : Nat) (n : Int) (G : xe_G) (Z : List (List Value)) (mc ms pc len : Nat) (res : List Nat) (al : List (Nat × Value)) (st : List Value) (w : xe_W) (nc ns : Nat) : Option xe_N := match xe_look al k with
  | some (.int x) => some (pc + len, xe_s1 al k (xe_mk (x + Int32.ofInt n)), st, w, nc, ns)
  | _ => none
noncomputable def xe_iDup (G : xe_G) (Z : List (List Value)) (mc ms pc len : Nat) (res : List Nat) (al : List (Nat × Value)) (st : List Value) (w : xe_W) (nc ns : Nat) : Option xe_N := match st with
  | v :: st => bif xe_c1 v then some (pc + len, al, v :: v :: st, w, nc, ns) else none
  | _ => none
noncomputable def xe_iDup2 (G : xe_G) (Z : List (List Value)) (mc ms pc len : Nat) (res : List Nat) (al : List (Nat × Value)) (st : List Value) (w : xe_W) (nc ns : Nat) : Option xe_N := match st with
  | v :: u :: st => bif xe_c1 v && xe_c1 u then some (pc + len, al, v :: u :: v :: u :: st, w, nc, ns) else none
  | _ => none
noncomputable def xe_iGoto (off : Int) (G : xe_G) (Z : List (List Value)) (mc ms pc len : Nat) (res : List Nat) (al : List (Nat × Value)) (st : List Value) (w : xe_W) (nc ns : Nat) : Option xe_N := match xe_tgt pc off with
  | some t => some (t, al, st, w, nc, ns)
  | none => none
noncomputable def xe_iIf (c : ClassFile.Cond) (off : Int) (G : xe_G) (Z : List (List Value)) (mc ms pc len : Nat) (res : List Nat) (al : List (Nat × Value)) (st : List Value) (w : xe_W) (nc ns : Nat) : Option xe_N := match st with
  | v :: st => match xe_cmp G c v (.int 0), xe_tgt pc off with
    | some true, some t => some (t, al, st, w, nc, ns)
    | some false, some _ => some (pc + len, al, st, w, nc, ns)
    | _, _ => none
  | _ => none
noncomputable def xe_iCmp (c : ClassFile.Cond) (off : Int) (G : xe_G) (Z : List (List Value)) (mc ms pc len : Nat) (res : List Nat) (al : List (Nat × Value)) (st : List Value) (w : xe_W) (nc ns : Nat) : Option xe_N := match st with
  | u :: v :: st => match xe_cmp G c v u, xe_tgt pc off with
    | some true, some t => some (t, al, st, w, nc, ns)
    | some false, some _ => some (pc + len, al, st, w, nc, ns)
    | _, _ => none
  | _ => none
noncomputable def xe_iB (op : Nat) (G : xe_G) (Z : List (List Value)) (mc ms pc len : Nat) (res : List Nat) (al : List (Nat × Value)) (st : List Value) (w : xe_W) (nc ns : Nat) : Option xe_N := match st with
  | u :: v :: st => match xe_bin G op v u with
    | some x => bif xe_kd 0 v && xe_kd 0 u then some (pc + len, al, x :: st, w, nc, ns) else none
    | none => none
  | _ => none
noncomputable def xe_iU (op : Nat) (G : xe_G) (Z : List (List Value)) (mc ms pc len : Nat) (res : List Nat) (al : List (Nat × Value)) (st : List Value) (w : xe_W) (nc ns : Nat) : Option xe_N := match st with
  | v :: st => match xe_bin G op v (.int 0) with
    | some x => bif xe_kd 0 v then some (pc + len, al, x :: st, w, nc, ns) else none
    | none => none
  | _ => none
noncomputable def xe_iDiv (G : xe_G) (Z : List (List Value)) (mc ms pc len : Nat) (res : List Nat) (al : List (Nat × Value)) (st : List Value) (w : xe_W) (nc ns : Nat) : Option xe_N := match st with
  | .int y :: .int x :: st => if y = 0 then none else some (pc + len, al, xe_mk (x / y) :: st, w, nc, ns)
  | _ => none
noncomputable def xe_iI2l (G : xe_G) (Z : List (List Value)) (mc ms pc len : Nat) (res : List Nat) (al : List (Nat × Value)) (st : List Value) (w : xe_W) (nc ns : Nat) : Option xe_N := match st with
  | .int x :: st => some (pc + len, al, xe_mkL x.toInt64 :: st, w, nc, ns)
  | _ => none
noncomputable def xe_iLadd (G : xe_G) (Z : List (List Value)) (mc ms pc len : Nat) (res : List Nat) (al : List (Nat × Value)) (st : List Value) (w : xe_W) (nc ns : Nat) : Option xe_N := match st with
  | .long y :: .long x :: st => some (pc + len, al, xe_mkL (x + y) :: st, w, nc, ns)
  | _ => none
noncomputable def xe_iLmul (G : xe_G) (Z : List (List Value)) (mc ms pc len : Nat) (res : List Nat) (al : List (Nat × Value)) (st : List Value) (w : xe_W) (nc ns : Nat) : Option xe_N := match st with
  | .long y :: .long x :: st => some (pc + len, al, xe_mkL (x * y) :: st, w, nc, ns)
  | _ => none
noncomputable def xe_iLdiv (G : xe_G) (Z : List (List Value)) (mc ms pc len : Nat) (res : List Nat) (al : List (Nat × Value)) (st : List Value) (w : xe_W) (nc ns : Nat) : Option xe_N := match st with
  | .long y :: .long x :: st => if y = 0 then none else some (pc + len, al, xe_mkL (x / y) :: st, w, nc, ns)
  | _ => none
noncomputable def xe_iLcmp (G : xe_G) (Z : List (List Value)) (mc ms pc len : Nat) (res : List Nat) (al : List (Nat × Value)) (st : List Value) (w : xe_W) (nc ns : Nat) : Option xe_N := match st with
  | .long y :: .long x :: st => some (pc + len, al, .int (lg_cmp x y) :: st, w, nc, ns)
  | _ => none
noncomputable def xe_iTab (dd lo hi : Int) (offs : Array Int) (G : xe_G) (Z : List (List Value)) (mc ms pc len : Nat) (res : List Nat) (al : List (Nat × Value)) (st : List Value) (w : xe_W) (nc ns : Nat) : Option xe_N := match st with
  | v :: st => match xe_rng G v with
    | some (a, b) => if a = b ∧ ¬ a < lo ∧ ¬ hi < a then
        match offs[(a - lo).toNat]? with
        | some off => match xe_tgt pc off with
          | some t => some (t, al, st, w, nc, ns)
          | none => none
        | none => none
      else if b < lo ∨ hi < a then
        match xe_tgt pc dd with
        | some t => some (t, al, st, w, nc, ns)
        | none => none
      else none
    | none => none
  | _ => none
noncomputable def xe_iGet (G : xe_G) (Z : List (List Value)) (mc ms pc len : Nat) (res : List Nat) (al : List (Nat × Value)) (st : List Value) (w : xe_W) (nc ns : Nat) : Option xe_N := match st, res with
  | .ref a :: st, [10, ci, k] => match xe_nth w a with
    | some (.inr (cj, fs)) => bif Nat.beq ci cj then
        match xe_nth fs k with
        | some v => some (pc + len, al, v :: st, w, nc, ns)
        | none => none
      else none
    | _ => none
  | _, _ => none
noncomputable def xe_iPut (G : xe_G) (Z : List (List Value)) (mc ms pc len : Nat) (res : List Nat) (al : List (Nat × Value)) (st : List Value) (w : xe_W) (nc ns : Nat) : Option xe_N := match st, res with
  | v :: .ref a :: st, [11, ci, k, tc, _] => match xe_nth w a with
    | some (.inr (cj, fs)) => bif Nat.beq ci cj && xe_fit tc v then
        match xe_nth fs k with
        | some _ => some (pc + len, al, st, xe_set w (.inr (cj, xe_set fs v k)) a, nc, ns)
        | none => none
      else none
    | _ => none
  | _, _ => none
noncomputable def xe_iLen (G : xe_G) (Z : List (List Value)) (mc ms pc len : Nat) (res : List Nat) (al : List (Nat × Value)) (st : List Value) (w : xe_W) (nc ns : Nat) : Option xe_N := match st with
  | .ref a :: st => match xe_nth w a with
    | some (.inl (ty, n, _)) => bif Nat.blt ty 4 then some (pc + len, al, .int (Int32.ofNat n) :: st, w, nc, ns) else none
    | _ => none
  | .float u :: st => if u = 0 then some (pc + len, al, .int 5 :: st, w, nc, ns) else if u = 1 then some (pc + len, al, .int (Int32.ofNat G.2.2.1.length) :: st, w, nc, ns) else none
  | _ => none
noncomputable def xe_iNewa (t : ArrayType) (G : xe_G) (Z : List (List Value)) (mc ms pc len : Nat) (res : List Nat) (al : List (Nat × Value)) (st : List Value) (w : xe_W) (nc ns : Nat) : Option xe_N := match st with
  | .int n :: st => match xe_nn n with
    | some k => bif Nat.blt (xe_aty t) 4 && Nat.ble (nc + 1) mc && Nat.ble (ns + k) ms && Nat.ble k 60000000 && xe_ok w.length al st w then
        some (pc + len, al, .ref w.length :: st, w ++ [.inl (xe_aty t, k, [])], nc + 1, ns + k) else none
    | _ => none
  | _ => none
noncomputable def xe_iNew (G : xe_G) (Z : List (List Value)) (mc ms pc len : Nat) (res : List Nat) (al : List (Nat × Value)) (st : List Value) (w : xe_W) (nc ns : Nat) : Option xe_N := match res with
  | [12, ci, n] => match xe_nth Z ci with
    | some fs => bif Nat.ble (nc + 1) mc && Nat.ble (ns + n) ms && Nat.beq fs.length n && xe_ok w.length al st w then
        some (pc + len, al, .ref w.length :: st, w ++ [.inr (ci, fs)], nc + 1, ns + n) else none
    | none => none
  | _ => none
noncomputable def xe_iAld (ty0 kd : Nat) (G : xe_G) (Z : List (List Value)) (mc ms pc len : Nat) (res : List Nat) (al : List (Nat × Value)) (st : List Value) (w : xe_W) (nc ns : Nat) : Option xe_N := match st with
  | .int j :: .ref a :: st => match xe_nth w a with
    | some (.inl (ty, n, sp)) => match xe_nn j with
      | some k => bif Nat.beq ty ty0 && Nat.blt k n && xe_kd kd (xe_get ty sp k) then some (pc + len, al, xe_get ty sp k :: st, w, nc, ns) else none
      | _ => none
    | _ => none
  | _ => none
noncomputable def xe_iAldS (G : xe_G) (Z : List (List Value)) (mc ms pc len : Nat) (res : List Nat) (al : List (Nat × Value)) (st : List Value) (w : xe_W) (nc ns : Nat) : Option xe_N := match st with
  | .int j :: .float u :: st => match xe_nn j with
    | some k => match xe_nth G.2.2.1 k with
      | some v => if u = 1 then some (pc + len, al, v :: st, w, nc, ns) else none
      | none => none
    | _ => none
  | _ => xe_iAld 1 0 G Z mc ms pc len res al st w nc ns
noncomputable def xe_iBst (G : xe_G) (Z : List (List Value)) (mc ms pc len : Nat) (res : List Nat) (al : List (Nat × Value)) (st : List Value) (w : xe_W) (nc ns : Nat) : Option xe_N := match st with
  | .retAddr u :: .int j :: .ref a :: st => match xe_nth w a with
    | some (.inl (ty, n, sp)) => match xe_nn j with
      | some k => bif Nat.beq ty 0 && Nat.blt k n && decide (u ∈ G.2.2.2) then some (pc + len, al, st, xe_set w (.inl (ty, n, xe_put ty sp k (.retAddr u))) a, nc, ns) else none
      | _ => none
    | _ => none
  | _ => none
noncomputable def xe_iAst (ty0 kd : Nat) (G : xe_G) (Z : List (List Value)) (mc ms pc len : Nat) (res : List Nat) (al : List (Nat × Value)) (st : List Value) (w : xe_W) (nc ns : Nat) : Option xe_N := match st with
  | v :: .int j :: .ref a :: st => match xe_nth w a with
    | some (.inl (ty, n, sp)) => match xe_nn j with
      | some k => bif Nat.beq ty ty0 && Nat.blt k n && xe_kd kd v then some (pc + len, al, st, xe_set w (.inl (ty, n, xe_put ty sp k v)) a, nc, ns) else none
      | _ => none
    | _ => none
  | _ => none
noncomputable def xe_iNo (G : xe_G) (Z : List (List Value)) (mc ms pc len : Nat) (res : List Nat) (al : List (Nat × Value)) (st : List Value) (w : xe_W) (nc ns : Nat) : Option xe_N := none
noncomputable def xe_step (i : Instr) : xe_F := @Instr.rec (fun _ => xe_F) xe_iNo xe_iNo xe_iNo (fun k => xe_iL 1 k) (fun k => xe_iL 1 k) (fun _ => xe_iNo) xe_iNo xe_iLen (fun k => xe_iS 1 k) (fun k => xe_iS 1 k) xe_iNo xe_iNo xe_iBst (fun n => xe_iC (.int (Int8.ofInt n).toInt32)) xe_iNo xe_iNo (fun _ => xe_iNo) xe_iNo xe_iNo xe_iNo xe_iNo xe_iNo xe_iNo (fun _ => xe_iNo) (fun _ => xe_iNo) xe_iNo (fun _ => xe_iNo) (fun _ => xe_iNo) xe_iNo xe_iNo xe_iNo xe_iNo (fun _ => xe_iNo) (fun _ => xe_iNo) xe_iNo xe_iDup xe_iNo xe_iNo xe_iDup2 xe_iNo xe_iNo xe_iNo xe_iNo xe_iNo xe_iNo xe_iNo xe_iNo (fun _ => xe_iNo) (fun _ => xe_iNo) xe_iNo (fun _ => xe_iNo) (fun _ => xe_iNo) xe_iNo xe_iNo xe_iNo xe_iNo (fun _ => xe_iNo) (fun _ => xe_iNo) xe_iNo (fun _ => xe_iGet) (fun _ => xe_iC (.float 0)) (fun off => xe_iGoto off) (fun _ => xe_iNo) (xe_iU 10) xe_iNo xe_iNo xe_iNo xe_iI2l xe_iNo (xe_iB 0) xe_iAldS (xe_iB 3) (xe_iAst 1 0) (fun n => xe_iC (.int (Int32.ofInt n))) xe_iDiv (fun _ _ => xe_iNo) (fun c off => xe_iCmp c off) (fun c off => xe_iIf c off) (fun _ => xe_iNo) (fun _ => xe_iNo) (fun k n => xe_iInc k n) (fun k => xe_iL 0 k) (fun k => xe_iL 0 k) (xe_iB 2) (xe_iU 9) (fun _ => xe_iNo) (fun _ => xe_iNo) (fun _ _ => xe_iNo) (fun _ => xe_iNo) (fun _ => xe_iNo) (fun _ => xe_iNo) (xe_iB 4) xe_iNo xe_iNo (xe_iB 6) (xe_iB 7) (fun k => xe_iS 0 k) (fun k => xe_iS 0 k) (xe_iB 1) (xe_iB 8) (xe_iB 5) (fun _ => xe_iNo) (fun _ => xe_iNo) xe_iNo xe_iNo xe_iNo xe_iLadd (xe_iAld 2 2) xe_iNo (xe_iAst 2 2) xe_iLcmp (fun n => xe_iC (.long (Int64.ofNat (n : Nat)))) (fun _ => xe_iK) (fun _ => xe_iK) (fun _ => xe_iNo) xe_iLdiv (fun k => xe_iL 2 k) (fun k => xe_iL 2 k) xe_iLmul xe_iNo (fun _ _ => xe_iNo) xe_iNo xe_iNo xe_iNo xe_iNo xe_iNo (fun k => xe_iS2 k) (fun k => xe_iS2 k) xe_iNo xe_iNo xe_iNo xe_iNo xe_iNo (fun _ _ => xe_iNo) (fun _ => xe_iNew) (fun t => xe_iNewa t) xe_iNo xe_iNo xe_iNo (fun _ => xe_iPut) (fun _ => xe_iNo) (fun _ => xe_iNo) xe_iNo xe_iNo xe_iNo (fun n => xe_iC (.int (Int16.ofInt n).toInt32)) xe_iNo (fun d lo hi offs => xe_iTab d lo hi offs) i
/-- the answer: (0, _) none, (1, v) v, (2, k) the exception k was thrown; the world behind it -/
abbrev xe_R : Type := Nat × Value × xe_W
noncomputable def xe_copy (src : List (Nat × Value)) (dst : List (Nat × Value)) (sp dp : Nat) (n : Nat) : List (Nat × Value) := Nat.rec (motive := fun _ => List (Nat × Value)) dst (fun n ih => xe_put 1 ih (dp + n) (xe_get 1 src (sp + n))) n
noncomputable def xe_allI (sp : List (Nat × Value)) : Bool := List.rec (motive := fun _ => Bool) true (fun a _ ih => xe_kd 0 a.2 && ih) sp
/-- a handler that answers a constant -/
noncomputable def xe_hand (l : List xe_I) (h : Nat) : Option Value := match l with
  | (p1, .astore_n _, _, []) :: (p2, .iconst c, _, []) :: (p3, .ireturn, _, []) :: _ => bif Nat.beq p1 h && Nat.beq p2 (h + 1) && Nat.beq p3 (h + 2) then some (.int (Int32.ofInt c)) else none
  | (p1, .astore _, _, []) :: (p2, .iconst c, _, []) :: (p3, .ireturn, _, []) :: _ => bif Nat.beq p1 h && Nat.beq p2 (h + 2) && Nat.beq p3 (h + 3) then some (.int (Int32.ofInt c)) else none
  | _ => none
/-- the row of handlers that takes the exception k thrown at pc -/
noncomputable def xe_catch (code : List xe_I) (pc k : Nat) (hh : List (Nat × Nat × Nat × Nat)) : Option Value := List.rec (motive := fun _ => Option Value) none (fun r _ ih => bif Nat.ble r.1 pc && Nat.blt pc r.2.1 && Nat.beq k r.2.2.2 then xe_hand (xe_at code r.2.2.1) r.2.2.1 else ih) hh
/-- the static row of settings -/
def xe_SF : List (Nat × Value) := [(0, .int 1), (1, .int 11), (2, .int 5), (3, .int 6), (4, .int 10)]
/-- what a method of this kind answers -/
def xe_rk (k : Nat) (v : Value) : Bool := match k with
  | 1 => xe_kd 0 v
  | 2 => xe_kd 2 v
  | 3 => xe_kd 1 v
  | 4 => decide (v = .int 0) || decide (v = .int 1)
  | _ => false
abbrev xe_K : Type := xe_M → List xe_I → Nat → List (Nat × Value) → List Value → xe_W → Nat → Nat → Option xe_R
abbrev xe_B : Type := List xe_M → xe_G → List (List Value) → xe_K → xe_M → xe_I → List xe_I → Nat → List (Nat × Value) → List Value → xe_W → Nat → Nat → Option xe_R
/-- the words that arguments take -/
noncomputable def xe_sl (l : List Value) : Nat := List.rec (motive := fun _ => Nat) 0 (fun a _ ih => a.category + ih) l
/-- the receiver: an object of the class (a call by its name), or some reference -/
noncomputable def xe_rcv (kd : Nat) (as : List Value) (w : xe_W) : Bool := match as with
  | .ref a :: _ => bif Nat.ble 10 kd then
      match xe_nth w a with
      | some (.inr o) => Nat.beq (o.1 + 10) kd
      | _ => false
    else true
  | _ => Nat.beq kd 2
noncomputable def xe_bCall (y n kd : Nat) (P : List xe_M) (G : xe_G) (Z : List (List Value)) (rr : xe_K) (M : xe_M) (e : xe_I) (tl : List xe_I) (pc : Nat) (al : List (Nat × Value)) (st : List Value) (w : xe_W) (nc ns : Nat) : Option xe_R := match xe_nth P y with
  | none => none
  | some Y => match xe_pop n st [] with
    | none => none
    | some (as, rest) => bif xe_rcv kd as w && Nat.ble (xe_sl as) Y.2.1 && Nat.ble (nc + Y.2.2.2.1) M.2.2.2.1 && Nat.ble (ns + Y.2.2.2.2.1) M.2.2.2.2.1 && Nat.ble rest.length 4 && (Nat.beq Y.2.2.2.1 0 || (xe_okA w.length al && xe_okS w.length rest)) then
      match rr Y Y.1 0 (lv_args 0 as) [] w 0 0 with
      | some (0, _, w') => rr M tl (pc + 3) al rest w' (nc + Y.2.2.2.1) (ns + Y.2.2.2.2.1)
      | some (1, v, w') => rr M tl (pc + 3) al (v :: rest) w' (nc + Y.2.2.2.1) (ns + Y.2.2.2.2.1)
      | some (2, .int k, w') => bif Nat.ble 10 kd then
          match M.2.2.2.2.2 with
          | [] => some (2, .int k, w')
          | _ :: _ => match xe_catch M.1 pc k.toNatClampNeg M.2.2.2.2.2 with
            | some v => bif Nat.beq M.2.2.1 1 then some (1, v, w') else none
            | none => none
        else none
      | _ => none
      else none
noncomputable def xe_bThrow (k : Nat) (P : List xe_M) (G : xe_G) (Z : List (List Value)) (rr : xe_K) (M : xe_M) (e : xe_I) (tl : List xe_I) (pc : Nat) (al : List (Nat × Value)) (st : List Value) (w : xe_W) (nc ns : Nat) : Option xe_R := bif Nat.ble (nc + 1) M.2.2.2.1 && Nat.ble (ns + 6) M.2.2.2.2.1 && Nat.ble st.length 4 then some (2, .int (Int32.ofNat k), w) else none
def xe_mm (mx : Bool) (x y : Int32) : Int32 := bif mx then (bif Nat.blt (xe_bi x) (xe_bi y) then y else x) else (bif Nat.blt (xe_bi y) (xe_bi x) then y else x)
noncomputable def xe_bMath (mx : Bool) (P : List xe_M) (G : xe_G) (Z : List (List Value)) (rr : xe_K) (M : xe_M) (e : xe_I) (tl : List xe_I) (pc : Nat) (al : List (Nat × Value)) (st : List Value) (w : xe_W) (nc ns : Nat) : Option xe_R := match st with
  | .int y :: .int x :: rest => bif Nat.ble rest.length 4 && Nat.ble nc M.2.2.2.1 && Nat.ble ns M.2.2.2.2.1 then rr M tl (pc + 3) al (.int (xe_mm mx x y) :: rest) w nc ns else none
  | _ => none
noncomputable def xe_bObj (P : List xe_M) (G : xe_G) (Z : List (List Value)) (rr : xe_K) (M : xe_M) (e : xe_I) (tl : List xe_I) (pc : Nat) (al : List (Nat × Value)) (st : List Value) (w : xe_W) (nc ns : Nat) : Option xe_R := match st with
  | .ref _ :: rest => bif Nat.ble rest.length 4 then rr M tl (pc + 3) al rest w nc ns else none
  | _ => none
noncomputable def xe_bCopy (P : List xe_M) (G : xe_G) (Z : List (List Value)) (rr : xe_K) (M : xe_M) (e : xe_I) (tl : List xe_I) (pc : Nat) (al : List (Nat × Value)) (st : List Value) (w : xe_W) (nc ns : Nat) : Option xe_R := match st with
  | .int n :: .int dp :: .ref b :: .int sp :: s :: rest => match xe_nth w b, xe_nn n, xe_nn dp, xe_nn sp with
    | some (.inl (ty, m, d)), some n, some dp, some sp => bif Nat.beq ty 1 && Nat.ble (dp + n) m && Nat.ble rest.length 4 then
        match s with
        | .ref a => match xe_nth w a with
          | some (.inl (ty2, m2, sr)) => bif Nat.beq ty2 1 && Nat.ble (sp + n) m2 then rr M tl (pc + 3) al rest (xe_set w (.inl (ty, m, xe_copy sr d sp dp n)) b) nc ns else none
          | _ => none
        | .float u => bif decide (u = 0) && Nat.ble (sp + n) 5 then rr M tl (pc + 3) al rest (xe_set w (.inl (ty, m, xe_copy xe_SF d sp dp n)) b) nc ns else none
        | _ => none
      else none
    | _, _, _, _ => none
  | _ => none
/-- 'clone' of the static row, and the cast behind it -/
noncomputable def xe_bClone (P : List xe_M) (G : xe_G) (Z : List (List Value)) (rr : xe_K) (M : xe_M) (e : xe_I) (tl : List xe_I) (pc : Nat) (al : List (Nat × Value)) (st : List Value) (w : xe_W) (nc ns : Nat) : Option xe_R := match st, tl with
  | .float u :: rest, (pc', .checkcast _, 3, [5]) :: tl => bif decide (u = 0) && Nat.beq pc' (pc + 3) && Nat.ble (nc + 1) M.2.2.2.1 && Nat.ble (ns + 5) M.2.2.2.2.1 && Nat.ble rest.length 4 && xe_ok w.length al rest w then
      rr M tl (pc + 6) al (.ref w.length :: rest) (w ++ [.inl (1, 5, xe_SF)]) (nc + 1) (ns + 5) else none
  | _, _ => none
noncomputable def xe_bRet0 (P : List xe_M) (G : xe_G) (Z : List (List Value)) (rr : xe_K) (M : xe_M) (e : xe_I) (tl : List xe_I) (pc : Nat) (al : List (Nat × Value)) (st : List Value) (w : xe_W) (nc ns : Nat) : Option xe_R := match st with
  | [] => bif Nat.beq M.2.2.1 0 && Nat.ble nc M.2.2.2.1 && Nat.ble ns M.2.2.2.2.1 then some (0, .null, w) else none
  | _ => none
noncomputable def xe_bRet (k : Nat) (P : List xe_M) (G : xe_G) (Z : List (List Value)) (rr : xe_K) (M : xe_M) (e : xe_I) (tl : List xe_I) (pc : Nat) (al : List (Nat × Value)) (st : List Value) (w : xe_W) (nc ns : Nat) : Option xe_R := match st with
  | [v] => bif xe_rk M.2.2.1 v && xe_kd k v && Nat.ble nc M.2.2.2.1 && Nat.ble ns M.2.2.2.2.1 then some (1, v, w) else none
  | _ => none
def xe_ceq (a b : xe_C) : Bool := match a, b with
  | .inl x, .inl y => decide (x = y)
  | .inr x, .inr y => decide (x = y)
  | _, _ => false
noncomputable def xe_weq (a : xe_W) : xe_W → Bool := List.rec (motive := fun _ => xe_W → Bool) (fun b => match b with
  | [] => true
  | _ => false) (fun x _ ih b => match b with
  | [] => false
  | y :: t => xe_ceq x y && ih t) a
noncomputable def xe_Req (a b : xe_R) : Bool := Nat.beq a.1 b.1 && decide (a.2.1 = b.2.1) && xe_weq a.2.2 b.2.2
noncomputable def xe_bOn (P : List xe_M) (G : xe_G) (Z : List (List Value)) (rr : xe_K) (M : xe_M) (e : xe_I) (tl : List xe_I) (pc : Nat) (al : List (Nat × Value)) (st : List Value) (w : xe_W) (nc ns : Nat) : Option xe_R := match xe_step e.2.1 G Z M.2.2.2.1 M.2.2.2.2.1 pc e.2.2.1 e.2.2.2 al st w nc ns with
  | some (pc2, al2, st2, w2, nc2, ns2) => rr M (bif Nat.beq pc2 (pc + e.2.2.1) then tl else xe_at M.1 pc2) pc2 al2 st2 w2 nc2 ns2
  | none => match e.2.1, st with
    | .ifCond _ off, v :: st => bif xe_kd 0 v then
        match xe_tgt pc off with
        | some t => match rr M (xe_at M.1 t) t al st w nc ns, rr M tl (pc + 3) al st w nc ns with
          | some r1, some r2 => bif xe_Req r1 r2 then some r1 else none
          | _, _ => none
        | none => none
      else none
    | .if_icmp _ off, u :: v :: st => bif xe_kd 0 v && xe_kd 0 u then
        match xe_tgt pc off with
        | some t => match rr M (xe_at M.1 t) t al st w nc ns, rr M tl (pc + 3) al st w nc ns with
          | some r1, some r2 => bif xe_Req r1 r2 then some r1 else none
          | _, _ => none
        | none => none
      else none
    | _, _ => none
/-- the locals but the third -/
noncomputable def xe_zF (al : List (Nat × Value)) : List (Nat × Value) := xe_flt (fun q => !(Nat.beq q.1 3) && !(Nat.beq (q.1 + 1) 3 && Nat.beq q.2.category 2)) al
/-- a loop that copies zeros over zeros: how many -/
noncomputable def xe_zero (al : List (Nat × Value)) (w : xe_W) : Option Nat := match xe_look al 3, xe_look al 1, xe_look al 2 with
  | some (.int i), some (.ref a), some (.ref b) => match xe_nth w a, xe_nth w b with
    | some (.inl (ta, n, [])), some (.inl (tb, m, [])) => bif Nat.beq ta 1 && Nat.beq tb 1 && Nat.ble n m && Nat.blt n 2147483648 && Nat.blt 0 n && decide (i = 0) then some n else none
    | _, _ => none
  | _, _, _ => none
noncomputable def xe_bZero (P : List xe_M) (G : xe_G) (Z : List (List Value)) (rr : xe_K) (M : xe_M) (e : xe_I) (tl : List xe_I) (pc : Nat) (al : List (Nat × Value)) (st : List Value) (w : xe_W) (nc ns : Nat) : Option xe_R := match xe_zero al w, st with
  | some n, [] => rr M (xe_at M.1 20) 20 ((3, .int (Int32.ofNat n)) :: xe_zF al) [] w nc ns
  | _, _ => xe_bOn P G Z rr M e tl pc al st w nc ns
noncomputable def xe_bI (i : Instr) : xe_B := @Instr.rec (fun _ => xe_B) xe_bOn xe_bOn xe_bOn (fun _ => xe_bOn) (fun _ => xe_bOn) (fun _ => xe_bOn) (xe_bRet 1) xe_bOn (fun _ => xe_bOn) (fun _ => xe_bOn) xe_bOn xe_bOn xe_bOn (fun _ => xe_bOn) xe_bOn xe_bOn (fun _ => xe_bOn) xe_bOn xe_bOn xe_bOn xe_bOn xe_bOn xe_bOn (fun _ => xe_bOn) (fun _ => xe_bOn) xe_bOn (fun _ => xe_bOn) (fun _ => xe_bOn) xe_bOn xe_bOn xe_bOn xe_bOn (fun _ => xe_bOn) (fun _ => xe_bOn) xe_bOn xe_bOn xe_bOn xe_bOn xe_bOn xe_bOn xe_bOn xe_bOn xe_bOn xe_bOn xe_bOn xe_bOn xe_bOn (fun _ => xe_bOn) (fun _ => xe_bOn) xe_bOn (fun _ => xe_bOn) (fun _ => xe_bOn) xe_bOn xe_bOn xe_bOn xe_bOn (fun _ => xe_bOn) (fun _ => xe_bOn) xe_bOn (fun _ => xe_bOn) (fun _ => xe_bOn) (fun _ => xe_bOn) (fun _ => xe_bOn) xe_bOn xe_bOn xe_bOn xe_bOn xe_bOn xe_bOn xe_bOn xe_bOn xe_bOn xe_bOn (fun _ => xe_bOn) xe_bOn (fun _ _ => xe_bOn) (fun _ _ => xe_bOn) (fun _ _ => xe_bOn) (fun _ => xe_bOn) (fun _ => xe_bOn) (fun _ _ => xe_bOn) (fun _ => xe_bOn) (fun _ => xe_bOn) xe_bOn xe_bOn (fun _ => xe_bOn) (fun _ => xe_bOn) (fun _ _ => xe_bOn) (fun _ => xe_bOn) (fun _ => xe_bOn) (fun _ => xe_bOn) xe_bOn xe_bOn (xe_bRet 0) xe_bOn xe_bOn (fun _ => xe_bOn) (fun _ => xe_bOn) xe_bOn xe_bOn xe_bOn (fun _ => xe_bOn) (fun _ => xe_bOn) xe_bOn xe_bOn xe_bOn xe_bOn xe_bOn xe_bOn xe_bOn xe_bOn (fun _ => xe_bOn) (fun _ => xe_bOn) (fun _ => xe_bOn) (fun _ => xe_bOn) xe_bOn (fun _ => xe_bOn) (fun _ => xe_bOn) xe_bOn xe_bOn (fun _ _ => xe_bOn) xe_bOn xe_bOn (xe_bRet 2) xe_bOn xe_bOn (fun _ => xe_bOn) (fun _ => xe_bOn) xe_bOn xe_bOn xe_bOn xe_bOn xe_bOn (fun _ _ => xe_bOn) (fun _ => xe_bOn) (fun _ => xe_bOn) xe_bOn xe_bOn xe_bOn (fun _ => xe_bOn) (fun _ => xe_bOn) (fun _ => xe_bOn) xe_bRet0 xe_bOn xe_bOn (fun _ => xe_bOn) xe_bOn (fun _ _ _ _ => xe_bOn) i
noncomputable def xe_bR (i : Instr) (res : List Nat) : xe_B := match res with
  | [0, y, n, kd] => xe_bCall y n kd
  | [1, k, _, _, _] => xe_bThrow k
  | [2] => xe_bObj
  | [3] => xe_bCopy
  | [4] => xe_bClone
  | [6] => xe_bMath true
  | [7] => xe_bMath false
  | [8] => xe_bZero
  | _ => xe_bI i
noncomputable def xe_body (P : List xe_M) (G : xe_G) (Z : List (List Value)) (rr : xe_K) : xe_K := fun M cur pc al st w nc ns => match cur with
  | [] => none
  | e :: tl => bif Nat.beq e.1 pc then xe_bR e.2.1 e.2.2.2 P G Z rr M e tl pc al st w nc ns else none
noncomputable def xe_run (P : List xe_M) (G : xe_G) (Z : List (List Value)) (f : Nat) : xe_K := Nat.rec (motive := fun _ => xe_K) (fun _ _ _ _ _ _ _ _ => none) (fun _ ih => xe_body P G Z ih) f
