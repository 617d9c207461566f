/-! a whole body: what the evaluator answers, the machine answers -/
theorem xs_good {ws : List Cond} (h : ∀ w ∈ ws, w ∈ xw_T) : GoodIn xw_T ws := fun w hw => ⟨h w hw, good_of_word (xw_good (h w hw))⟩
def xd_ws (d : xd_D) : List Cond := .code d.2.1 d.2.2.1 d.2.2.2.1 d.2.2.2.2.1 :: xw_T
def xd_rm (M : xe_M) (d : xd_D) : Room := { frames := 20 + d.2.2.2.2.2.2.1, cells := M.2.2.2.1, slots := M.2.2.2.2.1, locals := 40 * (20 + d.2.2.2.2.2.2.1) }
def xd_cl : MethodName := ⟨"[I", "clone", "()Ljava/lang/Object;"⟩
def xd_oc : MethodName := ⟨"java/lang/Object", "clone", "()Ljava/lang/Object;"⟩
/-- a call, as the tables have it -/
def xk_CallA (d : xd_D) (i : Instr) (len y n kd : Nat) : Prop := ∃ (M' : xe_M) (d' : xd_D), xe_P[y]? = some M' ∧ xd_P[y]? = some d' ∧ len = 3 ∧ d'.2.2.2.2.2.2.1 + 1 ≤ d.2.2.2.2.2.2.1 ∧ d'.2.2.2.1 ≤ 21 ∧ d'.2.2.2.1 = M'.2.1 ∧ d'.2.2.2.2.2.2.2 = [] ∧ plainName d'.2.1.cls = true ∧ d'.2.1.cls = d'.1 ∧ d'.2.1.cls ≠ "java/lang/invoke/MethodHandle" ∧ d'.2.1.cls ≠ "java/lang/invoke/VarHandle" ∧ Cond.code d'.2.1 d'.2.2.1 d'.2.2.2.1 d'.2.2.2.2.1 ∈ xw_T ∧ Cond.initialized d'.2.1.cls ∈ xw_T ∧
  ((∃ (idx np ci : Nat) (q : vw_C), i = .invokevirtual idx ∧ kd = ci + 10 ∧ n = np + 1 ∧ vwCl[ci]? = some q ∧ q.1 = d'.2.1.cls ∧ (parseMethodDescriptor d'.2.1.desc).map (fun d => d.parameters.length) = some np ∧ Cond.methodLink d.1 idx d'.2.1 ∈ xw_T ∧ Cond.instanceMethod d'.2.1 ∈ xw_T ∧ Cond.selects d'.2.1.cls d'.2.1 d'.2.1 ∈ xw_T) ∨
   (∃ (idx np : Nat), i = .invokespecial idx ∧ kd = 1 ∧ n = np + 1 ∧ d'.2.2.2.2.1 = none ∧ (parseMethodDescriptor d'.2.1.desc).map (fun d => d.parameters.length) = some np ∧ d'.2.1.name = "<init>" ∧ Cond.methodLink d.1 idx d'.2.1 ∈ xw_T ∧ Cond.instanceMethod d'.2.1 ∈ xw_T) ∨
   (∃ (idx : Nat), i = .invokestatic idx ∧ kd = 2 ∧ (parseMethodDescriptor d'.2.1.desc).map (fun d => d.parameters.length) = some n ∧ Cond.methodLink d.1 idx d'.2.1 ∈ xw_T ∧ Cond.static d'.2.1 ∈ xw_T) ∨
   (∃ (idx np : Nat), i = .invokespecial idx ∧ kd = 3 ∧ n = np + 1 ∧ d'.2.2.2.2.1 = none ∧ (parseMethodDescriptor d'.2.1.desc).map (fun d => d.parameters.length) = some np ∧ d'.2.1.name = "<init>" ∧ Cond.instanceMethod d'.2.1 ∈ xw_T ∧ ((d.1, idx, d'.2.1) = ("TingDecks", 29, yX5_init) ∨ (d.1, idx, d'.2.1) = ("TingDecks$Trip", 11, yX4_init) ∨ (d.1, idx, d'.2.1) = ("TingDecks", 60, yX2_init) ∨ (d.1, idx, d'.2.1) = ("TingDecks", 67, yX1_init))))
/-- a call of a method with handlers -/
def xk_CallW (d : xd_D) (i : Instr) (len y n kd : Nat) : Prop := ∃ (M' : xe_M) (d' : xd_D), xe_P[y]? = some M' ∧ xd_P[y]? = some d' ∧ len = 3 ∧ d'.2.2.2.2.2.2.1 + 1 ≤ d.2.2.2.2.2.2.1 ∧ d'.2.2.2.1 ≤ 21 ∧ d'.2.2.2.1 = M'.2.1 ∧ plainName d'.2.1.cls = true ∧ d'.2.1.cls = d'.1 ∧ d'.2.1.cls ≠ "java/lang/invoke/MethodHandle" ∧ d'.2.1.cls ≠ "java/lang/invoke/VarHandle" ∧ Cond.codeWith d'.2.1 d'.2.2.1 d'.2.2.2.1 d'.2.2.2.2.1 d'.2.2.2.2.2.2.2 ∈ xw_T ∧ Cond.initialized d'.2.1.cls ∈ xw_T ∧ kd = 4 ∧ ∃ (idx : Nat), i = .invokestatic idx ∧ (parseMethodDescriptor d'.2.1.desc).map (fun d => d.parameters.length) = some n ∧ Cond.methodLink d.1 idx d'.2.1 ∈ xw_T ∧ Cond.static d'.2.1 ∈ xw_T
def xk_Call (d : xd_D) (i : Instr) (len y n kd : Nat) : Prop := xk_CallA d i len y n kd ∨ xk_CallW d i len y n kd
def xd_wsW (d : xd_D) : List Cond := .codeWith d.2.1 d.2.2.1 d.2.2.2.1 d.2.2.2.2.1 d.2.2.2.2.2.2.2 :: xw_T
def xd_ex (k : Nat) : String := if k = 0 then "java/lang/IllegalArgumentException" else "java/util/NoSuchElementException"
def xd_nm : List String := ["java/lang/Exception"]
def xd_ix (k : Nat) : Nat := if k = 0 then 7 else 13
def xd_rx (k : Nat) : ByteArray := if k = 0 then ⟨#[0x2a, 0x2b, 0xb7, 0x00, 0x07, 0xb1]⟩ else ⟨#[0x2a, 0x2b, 0xb7, 0x00, 0x0d, 0xb1]⟩
def xd_at (k ic : Nat) : List Cond := xh_at "TingDecks" ic (xd_ex k) "java/lang/RuntimeException" xd_nm (xd_ix k) (xd_rx k)
def xk_Thr (d : xd_D) (pc : Nat) (i : Instr) (k is ic x : Nat) : Prop := d.1 = "TingDecks" ∧ d.2.2.2.2.2.2.2 = [] ∧ k < 2 ∧ decode d.2.2.1 (pc + 3) = .ok (.dup, 1) ∧ (∃ ik text, i = .new ik ∧ (is, text) ∈ xw_Str ∧ Cond.classLink "TingDecks" ik (xd_ex k) ∈ xw_T ∧ Cond.initialized (xd_ex k) ∈ xw_T ∧ (∀ w ∈ Cond.classLink "TingDecks" ik (xd_ex k) :: Cond.initialized (xd_ex k) :: xd_at k ic, vx_ot w = true)) ∧ (∀ w ∈ xd_at k ic, w ∈ xw_T ∨ w ∈ xw_N) ∧
  ((x = 2 ∧ decode d.2.2.1 (pc + 4) = .ok (.ldc is, 2) ∧ decode d.2.2.1 (pc + 6) = .ok (.invokespecial ic, 3) ∧ decode d.2.2.1 (pc + 9) = .ok (.athrow, 1)) ∨ (x = 3 ∧ decode d.2.2.1 (pc + 4) = .ok (.ldc_w is, 3) ∧ decode d.2.2.1 (pc + 7) = .ok (.invokespecial ic, 3) ∧ decode d.2.2.1 (pc + 10) = .ok (.athrow, 1)))
/-- a loop that copies a row of numbers over another -/
def xk_Z (d : xd_D) : Prop := decode d.2.2.1 2 = .ok (.iload_n 3, 1) ∧ decode d.2.2.1 3 = .ok (.aload_n 1, 1) ∧ decode d.2.2.1 4 = .ok (.arraylength, 1) ∧ decode d.2.2.1 5 = .ok (.if_icmp .ge 15, 3) ∧ decode d.2.2.1 8 = .ok (.aload_n 2, 1) ∧ decode d.2.2.1 9 = .ok (.iload_n 3, 1) ∧ decode d.2.2.1 10 = .ok (.aload_n 1, 1) ∧ decode d.2.2.1 11 = .ok (.iload_n 3, 1) ∧ decode d.2.2.1 12 = .ok (.iaload, 1) ∧ decode d.2.2.1 13 = .ok (.iastore, 1) ∧ decode d.2.2.1 14 = .ok (.iinc 3 1, 3) ∧ decode d.2.2.1 17 = .ok (.goto (-15), 3) ∧ 3 < d.2.2.2.1
def xk_E (d : xd_D) (e : xe_I) : Prop := match e.2.2.2 with
  | [0, y, n, kd] => xk_Call d e.2.1 e.2.2.1 y n kd
  | [1, k, is, ic, x] => e.2.2.1 = 3 ∧ xk_Thr d e.1 e.2.1 k is ic x
  | [2] => ∃ idx, e.2.1 = .invokespecial idx ∧ e.2.2.1 = 3 ∧ Cond.methodLink d.1 idx Lib.objectInit ∈ xw_T ∧ Cond.instanceMethod Lib.objectInit ∈ xw_T ∧ Cond.code Lib.objectInit ⟨#[0xb1]⟩ 1 none ∈ xw_T
  | [3] => ∃ idx, e.2.1 = .invokestatic idx ∧ e.2.2.1 = 3 ∧ Cond.methodLink d.1 idx arraycopyName ∈ xw_T ∧ Cond.native arraycopyName ∈ xw_T ∧ Cond.static arraycopyName ∈ xw_T ∧ Cond.initialized "java/lang/System" ∈ xw_T
  | [4] => ∃ idx, e.2.1 = .invokevirtual idx ∧ e.2.2.1 = 3 ∧ Cond.methodLink d.1 idx xd_cl ∈ xw_T ∧ Cond.sameMethod "[I" "java/lang/Object" "clone" "()Ljava/lang/Object;" ∈ xw_T ∧ Cond.native xd_oc ∈ xw_T ∧ Cond.instanceMethod xd_oc ∈ xw_T ∧ Cond.selects "[I" xd_cl xd_oc ∈ xw_T
  | [5] => ∃ idx, e.2.1 = .checkcast idx ∧ Cond.classLink d.1 idx "[I" ∈ xw_T
  | [6] => ∃ idx, e.2.1 = .invokestatic idx ∧ e.2.2.1 = 3 ∧ Cond.methodLink d.1 idx Lib.Math.max.name ∈ xw_T ∧ Cond.static Lib.Math.max.name ∈ xw_T ∧ Cond.initialized "java/lang/Math" ∈ xw_T ∧ Cond.code Lib.Math.max.name Lib.Math.max.code 2 (some .int) ∈ xw_T
  | [7] => ∃ idx, e.2.1 = .invokestatic idx ∧ e.2.2.1 = 3 ∧ Cond.methodLink d.1 idx Lib.Math.min.name ∈ xw_T ∧ Cond.static Lib.Math.min.name ∈ xw_T ∧ Cond.initialized "java/lang/Math" ∈ xw_T ∧ Cond.code Lib.Math.min.name Lib.Math.min.code 2 (some .int) ∈ xw_T
  | [8] => e.1 = 2 ∧ e.2.1 = .iload_n 3 ∧ e.2.2.1 = 1 ∧ xk_Z d
  | res => e.2.2.1 = xk_ln e.2.1 e.2.2.1 ∧ xk_L d.1 d.2.2.2.1 d.2.2.2.2.2.1 e.2.1 res
/-- the answer's kind -/
def xk_ret (k : Nat) (r : Option FieldType) : Prop := (k = 0 ∧ r = none) ∨ (k = 1 ∧ r = some .int) ∨ (k = 2 ∧ r = some .long) ∨ (k = 3 ∧ ∃ n, r = some (.object n)) ∨ (k = 4 ∧ r = some .boolean)
/-- the handlers: the evaluator's rows are the table's, each of an exception's class -/
def xk_hh (M : xe_M) (d : xd_D) : Prop := M.2.2.2.2.2.length = d.2.2.2.2.2.2.2.length ∧ ∀ (j : Nat) (a b : Nat × Nat × Nat × Nat), M.2.2.2.2.2[j]? = some a → d.2.2.2.2.2.2.2[j]? = some b → a.1 = b.1 ∧ a.2.1 = b.2.1 ∧ a.2.2.1 = b.2.2.1 ∧ a.2.2.2 < 2 ∧ b.2.2.2 ≠ 0 ∧ Cond.classLink d.1 b.2.2.2 (xd_ex a.2.2.2) ∈ xw_T
def xk_Meth (M : xe_M) (d : xd_D) : Prop := (∀ e ∈ M.1, decode d.2.2.1 e.1 = .ok (e.2.1, e.2.2.1) ∧ xk_E d e) ∧ xk_ret M.2.2.1 d.2.2.2.2.1 ∧ (d.2.2.2.2.2.1 = true → d.2.1.name = "<init>") ∧ xk_hh M d
def xk_All : Prop := ∀ (y : Nat) (M : xe_M) (d : xd_D), xe_P[y]? = some M → xd_P[y]? = some d → xk_Meth M d
theorem xe_pop_ok (n : Nat) : ∀ (st acc as rest : List Value), xe_pop n st acc = some (as, rest) → ∃ b : List Value, as = b.reverse ++ acc ∧ st = b ++ rest ∧ b.length = n := by
  induction n with
  | zero =>
    intro st acc as rest h
    have h : some (acc, st) = some (as, rest) := h
    cases h
    exact ⟨[], rfl, rfl, rfl⟩
  | succ n ih =>
    intro st acc as rest h
    cases st with
    | nil => cases (show (none : Option (List Value × List Value)) = some (as, rest) from h)
    | cons v st =>
      obtain ⟨b, e1, e2, e3⟩ := ih st (v :: acc) as rest h
      exact ⟨v :: b, by rw [e1]; simp, by rw [e2]; rfl, by simp [e3]⟩
theorem xs_args (ad : Nat → Nat) (sa : UInt32 → Nat) (ρ : Nat → Int32) (as : List Value) : ∀ i, lv_args i (as.map (xs_v ad sa ρ)) = xs_al ad sa ρ (lv_args i as) := by
  induction as with
  | nil => intro i; rfl
  | cons a t ih =>
    intro i
    show (i, xs_v ad sa ρ a) :: lv_args (if (xs_v ad sa ρ a).category = 2 then i + 2 else i + 1) _ = (i, xs_v ad sa ρ a) :: _
    rw [xs_cat, ih]
    rfl
theorem xs_sl (ad : Nat → Nat) (sa : UInt32 → Nat) (ρ : Nat → Int32) (as : List Value) : (lg_sl (as.map (xs_v ad sa ρ))).length = xe_sl as := by
  induction as with
  | nil => rfl
  | cons a t ih =>
    show ((if (xs_v ad sa ρ a).category = 2 then [Slot.val (xs_v ad sa ρ a), .second] else [.val (xs_v ad sa ρ a)]) ++ lg_sl (t.map (xs_v ad sa ρ))).length = a.category + xe_sl t
    rw [List.length_append, ih, xs_cat]
    cases a <;> rfl
theorem xs_room {ad : Nat → Nat} {sa : UInt32 → Nat} {ρ : Nat → Int32} {st : List Value} (h : st.length ≤ 4) : ((st.map (xs_v ad sa ρ)).map fun v => v.category).sum ≤ 8 := by
  have h2 : ∀ l : List Value, ((l.map (xs_v ad sa ρ)).map fun v => v.category).sum ≤ 2 * l.length := by
    intro l
    induction l with
    | nil => exact Nat.le_refl _
    | cons a t ih =>
      rw [List.map_cons, List.map_cons, List.sum_cons, List.length_cons]
      have : (xs_v ad sa ρ a).category ≤ 2 := by rcases lv_cat (xs_v ad sa ρ a) with h | h <;> omega
      omega
  have := h2 st
  omega
theorem xs_at_mem (l : List xe_I) (pc : Nat) : ∀ e ∈ xe_at l pc, e ∈ l := by
  induction l with
  | nil => intro e h; exact h
  | cons a t ih =>
    intro e h
    have h : e ∈ (bif Nat.beq a.1 pc then a :: t else xe_at t pc) := h
    cases hb : Nat.beq a.1 pc with
    | true => rw [hb] at h; exact h
    | false => rw [hb] at h; exact List.mem_cons_of_mem _ (ih e h)
theorem xs_ag_trans {mc n m : Nat} {a b c : Nat → Nat} (h1 : xs_ag mc n a b) (h2 : xs_ag mc m b c) (h : n ≤ m) : xs_ag mc n a c := ⟨fun z => (h2.1 z).trans (h1.1 z), fun k hk => (h2.2 k (by omega)).trans (h1.2 k hk)⟩
theorem xs_ag_up {mc mc' n : Nat} {a b : Nat → Nat} (h : xs_ag mc' n a b) (hm : mc' ≤ mc) : xs_ag mc n a b := ⟨fun z => h.1 (by omega), h.2⟩
/-- a contract's start -/
def xs_Pc (Ls : Nat × (Nat → Int32)) (D : va_G) (dA : Nat → ClassId) (sa : UInt32 → Nat) (ρ : Nat → Int32) (ad : Nat → Nat) (w : xe_W) (as : List Value) (sz : Nat) : Array Value → State → Prop := va_Pc (as.map (xs_v ad sa ρ)) (fun U => U.heap.size = sz ∧ va_P D vwCl (xs_w ad sa ρ dA w) U.heap ∧ va_K D vwCl (xs_tys dA) U ∧ va_D (fun _ => True) (xs_w ad sa ρ dA w) ∧ xs_X Ls sa (va_A (xs_w ad sa ρ dA w) sz) U U.heap ∧ xs_Nw U)
/-- .. and its end -/
def xs_Qc (D : va_G) (dA : Nat → ClassId) (sa : UInt32 → Nat) (ρ : Nat → Int32) (ad : Nat → Nat) (n0 mc : Nat) (A : Nat → Prop) (r : xe_R) : Array Value → State → Outcome → State → Prop := fun _ st oc t =>
  (∃ ad' : Nat → Nat, xs_ag mc n0 ad ad' ∧ n0 ≤ r.2.2.length ∧ oc = .returned (bif Nat.beq r.1 0 then none else some (xs_v ad' sa ρ r.2.1)) ∧ va_P D vwCl (xs_w ad' sa ρ dA r.2.2) t.heap ∧ va_D A (xs_w ad' sa ρ dA r.2.2)) ∧ va_F A st t
def xs_XC (D : va_G) (dA : Nat → ClassId) (sa : UInt32 → Nat) (ρ : Nat → Int32) (ad : Nat → Nat) (n0 mc : Nat) (A : Nat → Prop) (r : xe_R) : String → State → State → Prop := fun E st t =>
  E = xd_ex (xs_i ρ r.2.1).toNatClampNeg ∧ (∃ ad' : Nat → Nat, xs_ag mc n0 ad ad' ∧ n0 ≤ r.2.2.length ∧ va_P D vwCl (xs_w ad' sa ρ dA r.2.2) t.heap ∧ va_D A (xs_w ad' sa ρ dA r.2.2)) ∧ va_F A st t
def xs_FQ (D : va_G) (dA : Nat → ClassId) (sa : UInt32 → Nat) (ρ : Nat → Int32) (ad : Nat → Nat) (n0 mc ms : Nat) (A : Nat → Prop) (r : xe_R) (below : List Frame) (args : Array Value) (s : State) : State → Prop := bif Nat.beq r.1 2 then vx_MQ below (fun _ _ _ _ => False) (xs_XC D dA sa ρ ad n0 mc A r) args s mc ms A else MQ below (xs_Qc D dA sa ρ ad n0 mc A r) args s mc ms A
def xs_S (l : Launch) (G : xe_G) (ρ : Nat → Int32) (f : Nat) : Prop := ∀ (y : Nat) (M : xe_M) (d : xd_D), xe_P[y]? = some M → xd_P[y]? = some d → ∀ (cur : List xe_I) (pc : Nat) (al : List (Nat × Value)) (st : List Value) (w : xe_W) (nc ns : Nat) (r : xe_R), (∀ e ∈ cur, e ∈ M.1) → xe_run xe_P G xe_Z f M cur pc al st w nc ns = some r →
  ∀ (p : Program) (e : Env) (R : Room) (s : State) (m : MethodId) (args : Array Value) (below : List Frame) (meth : Method) (c : Code) (H : Heap) (locs : List Loc) (ls : Array Slot) (ad ad0 : Nat → Nat) (n0 : Nat) (A : Nat → Prop) (D : va_G) (dA : Nat → ClassId) (sa : UInt32 → Nat),
    xs_En (xs_Ls G ρ) p s m args meth c d.1 d.2.2.1 d.2.2.2.1 A D dA sa d.2.2.2.2.2.1 → meth.sig.returnType = d.2.2.2.2.1 → c.exceptionTable.toList = tableOf d.2.2.2.2.2.2.2 → xs_Rel D dA sa ρ A s d.2.2.2.1 ad al w ls H locs → xs_ag M.2.2.2.1 n0 ad0 ad → n0 ≤ w.length → (20 + d.2.2.2.2.2.2.1 ≤ R.frames ∧ 40 * (20 + d.2.2.2.2.2.2.1) ≤ R.locals ∧ M.2.2.2.1 ≤ R.cells ∧ M.2.2.2.2.1 ≤ R.slots) →
    W p l e R s m args below meth c H locs nc ns (xs_FQ D dA sa ρ ad0 n0 M.2.2.2.1 M.2.2.2.2.1 A r below args s) (F0 m pc ls (st.map (xs_v ad sa ρ)))
theorem xs_X_kept {Ls : Nat × (Nat → Int32)} {sa : UInt32 → Nat} {A B : Nat → Prop} {s U : State} {H : Heap} {locs : List Loc} (h : xs_X Ls sa A s s.heap) (hvm : s.vm.Alike U.vm) (hS : va_S A s.heap H locs) (hU : U.heap = H) (hB : ∀ q, B q → A q) : xs_X Ls sa B U U.heap := by
  have hq : ∀ a : Nat, a < s.heap.size → ¬ A a → U.heap[a]? = s.heap[a]? := fun a h1 h2 => by rw [hU]; exact hS.2.1 a h1 h2
  exact ⟨((h.1.kept hq).moved hvm).narrow hB, ((h.2.1.kept hq).moved hvm).narrow hB, ((h.2.2.1.kept hq).moved hvm).narrow hB, ((h.2.2.2.1.kept hq).moved hvm).narrow hB, (h.2.2.2.2.1.kept (by obtain ⟨z, z1, -⟩ := h.2.2.2.2.1; exact hq _ (Array.getElem?_eq_some_iff.mp z1).1 h.2.2.2.2.2)).moved hvm, fun z => h.2.2.2.2.2 (hB _ z)⟩
theorem xs_Nw_warm {s U : State} (h : xs_Nw s) (hW : s.WarmedH U.vm) : xs_Nw U := ⟨h.1.warmF hW, h.2.1.warmC hW, h.2.2.1.warmM hW, h.2.2.2.1.warmM hW, h.2.2.2.2.1.warmM hW, h.2.2.2.2.2.1.warmM hW, xw_N_warm hW h.2.2.2.2.2.2.1, fun q hq => (h.2.2.2.2.2.2.2.1 q hq).elim fun a ha => ⟨a, ha.warm hW⟩, xw_Nc_warm hW h.2.2.2.2.2.2.2.2.1, xw_Nc_warm hW h.2.2.2.2.2.2.2.2.2⟩
theorem xs_blind (Ls : Nat × (Nat → Int32)) (D : va_G) (dA : Nat → ClassId) (sa : UInt32 → Nat) (ρ : Nat → Int32) (ad : Nat → Nat) (w : xe_W) (as : List Value) (sz : Nat) : FrameBlind (xs_Pc Ls D dA sa ρ ad w as sz) := fun a U g mk q => by
  obtain ⟨q0, q1, qP, qK, qD, qX, qN⟩ := q
  exact ⟨q0, q1, qP, va_K.moved (u := U) (U := U.calling g mk a) (Vm.Alike.refl U.vm) qK, qD, ⟨va_Z.moved (u := U) (U := U.calling g mk a) (Vm.Alike.refl U.vm) qX.1, xs_SA.moved (u := U) (U := U.calling g mk a) (Vm.Alike.refl U.vm) qX.2.1, vx_Zq.moved (u := U) (U := U.calling g mk a) (Vm.Alike.refl U.vm) qX.2.2.1, vx_Zq.moved (u := U) (U := U.calling g mk a) (Vm.Alike.refl U.vm) qX.2.2.2.1, va_X.moved (u := U) (U := U.calling g mk a) (Vm.Alike.refl U.vm) qX.2.2.2.2.1, qX.2.2.2.2.2⟩, xs_Nw_warm (U := U.calling g mk a) qN (State.WarmedH.refl U)⟩
