/-! one instruction: what the evaluator does, the machine does -/
def xs_tys (dA : Nat → ClassId) : List (ClassId × FieldType) := [(dA 0, .byte), (dA 1, .int), (dA 2, .long), (dA 3, .boolean)]
/-- the static row's numbers -/
noncomputable def xs_sf (j : Nat) : Int32 := xs_i (fun _ => 0) (xe_get 1 xe_SF j)
/-- the static row of settings, in a heap -/
def xs_SA (sa : Nat) (A : Nat → Prop) (U : State) (H : Heap) : Prop := va_X sa 5 xs_sf U H ∧ ¬ A sa ∧ ∃ cell : Cell, H[sa]? = some cell ∧ U.vm.findClass "[I" = some cell.cls
theorem xs_SA.kept {sa : Nat} {A : Nat → Prop} {U : State} {H H1 : Heap} (h : xs_SA sa A U H) (hq : ∀ a : Nat, a < H.size → ¬ A a → H1[a]? = H[a]?) : xs_SA sa A U H1 := by
  obtain ⟨h1, h2, cell, h3, h4⟩ := h
  have e := hq sa (Array.getElem?_eq_some_iff.mp h3).1 h2
  exact ⟨h1.kept e, h2, cell, by rw [e]; exact h3, h4⟩
theorem xs_SA.moved {sa : Nat} {A : Nat → Prop} {u U : State} {H : Heap} (hvm : u.vm.Alike U.vm) (h : xs_SA sa A u H) : xs_SA sa A U H := by
  obtain ⟨h1, h2, cell, h3, h4⟩ := h
  exact ⟨h1.moved hvm, h2, cell, h3, by rw [hvm.findClass]; exact h4⟩
theorem xs_SA.narrow {sa : Nat} {A B : Nat → Prop} {U : State} {H : Heap} (h : xs_SA sa A U H) (hAB : ∀ q, B q → A q) : xs_SA sa B U H := ⟨h.1, fun z => h.2.1 (hAB _ z), h.2.2⟩
/-- the script: its length, its numbers by their unknowns -/
def xs_Ls (G : xe_G) (ρ : Nat → Int32) : Nat × (Nat → Int32) := (G.2.2.1.length, fun j => ρ (100 + j))
def xs_X (Ls : Nat × (Nat → Int32)) (sa : UInt32 → Nat) (A : Nat → Prop) (U : State) (H : Heap) : Prop := va_Z "TingDecks" "SETTING_FIRST" "[I" (.ref (sa 0)) A U H ∧ xs_SA (sa 0) A U H ∧ vx_Zq Bundle.tN "UNASSIGNED_STACK" Bundle.steD A U H ∧ vx_Zq Bundle.tN "SUPPRESSED_SENTINEL" Bundle.listD A U H ∧ va_X (sa 1) Ls.1 Ls.2 U H ∧ ¬ A (sa 1)
def xs_Nw (U : State) : Prop := va_Nw (.fieldLinkNest "TingDecks$Bus" 27 "TingDecks" "SETTING_FIRST" "[I" "TingDecks") U ∧ va_Nw (.castable "[I" "java/lang/Cloneable") U ∧ va_Nw (.methodLinkNest "TingDecks" 29 yX5_init "TingDecks") U ∧ va_Nw (.methodLinkNest "TingDecks$Trip" 11 yX4_init "TingDecks") U ∧ va_Nw (.methodLinkNest "TingDecks" 60 yX2_init "TingDecks") U ∧ va_Nw (.methodLinkNest "TingDecks" 67 yX1_init "TingDecks") U ∧ (∀ w ∈ xw_N, va_Nw w U) ∧ (∀ q ∈ xw_Str, ∃ a, vk_R "TingDecks" q.1 q.2 a U) ∧ va_Nc "java/lang/IllegalArgumentException" "java/util/NoSuchElementException" U ∧ va_Nc "java/util/NoSuchElementException" "java/lang/IllegalArgumentException" U
def xs_Rel (D : va_G) (dA : Nat → ClassId) (sa : UInt32 → Nat) (ρ : Nat → Int32) (A : Nat → Prop) (s : State) (nL : Nat) (ad : Nat → Nat) (al : List (Nat × Value)) (w : xe_W) (ls : Array Slot) (H : Heap) (locs : List Loc) : Prop :=
  lv_has ls nL (xs_al ad sa ρ al) ∧ va_P D vwCl (xs_w ad sa ρ dA w) H ∧ va_D A (xs_w ad sa ρ dA w) ∧ va_S A s.heap H locs
def xs_En (Ls : Nat × (Nat → Int32)) (p : Program) (s : State) (m : MethodId) (args : Array Value) (meth : Method) (c : Code) (own : String) (cc : ByteArray) (nL : Nat) (A : Nat → Prop) (D : va_G) (dA : Nat → ClassId) (sa : UInt32 → Nat) (ini : Bool) : Prop :=
  p.tables.exec = Jvm.exec ∧ c.code = cc ∧ c.maxLocals = nL ∧ s.vm.findClass own = some m.cls ∧ (∀ w ∈ xw_T, w.before args s = true) ∧ va_K D vwCl (xs_tys dA) s ∧ (∀ q, s.heap.size ≤ q → A q) ∧ xs_X Ls sa A s s.heap ∧ xs_Nw s ∧ (ini = true → meth.name = "<init>") ∧ meth.locks = false
/-- the unknowns are in their ranges, and their operations give what is said -/
def xs_G (G : xe_G) (ρ : Nat → Int32) : Prop := (∀ u r, xe_rl G.1 u = some r → r.1 ≤ (ρ u).toInt ∧ (ρ u).toInt ≤ r.2) ∧ (∀ op a b v, xe_sd G.2.1 op a b = some v → xe_kd 0 v = true ∧ xs_i ρ v = xe_op op (xs_i ρ a) (xs_i ρ b)) ∧ (∀ u ∈ G.2.2.2, vp_nar .byte (ρ u) = ρ u) ∧ ∀ j v, G.2.2.1[j]? = some v → xe_kd 0 v = true ∧ xs_i ρ v = ρ (100 + j)
/-- of which kind a field's type is -/
def xk_tc (tc : Nat) (ty : FieldType) : Prop := (tc = 0 ∧ ty = .int) ∨ (tc = 1 ∧ ty = .boolean) ∨ (tc = 2 ∧ ty = .long) ∨ (tc = 3 ∧ ((∃ n, ty = .object n) ∨ ∃ t, ty = .array t))
/-- an instruction's length -/
def xk_ln (i : Instr) (n : Nat) : Nat := match i with
  | .aload _ => 2
  | .iload _ => 2
  | .lload _ => 2
  | .istore _ => 2
  | .astore _ => 2
  | .lstore _ => 2
  | .bipush _ => 2
  | .sipush _ => 3
  | .ldc _ => 2
  | .ldc_w _ => 3
  | .iinc _ _ => 3
  | .goto _ => 3
  | .ifCond _ _ => 3
  | .if_icmp _ _ => 3
  | .getfield _ => 3
  | .putfield _ => 3
  | .getstatic _ => 3
  | .newarray _ => 2
  | .new _ => 3
  | .tableswitch _ _ _ _ => n
  | _ => 1
def xk_L (own : String) (nL : Nat) (ini : Bool) (i : Instr) (res : List Nat) : Prop := match i, res with
  | .getfield idx, [10, ci, k] => ∃ (C : String) (T : u_T) (N : Nat) (ty : Nat → FieldType), xk_C ci C T N ty ∧ k < N ∧ Cond.fieldLink own idx (T k).1 (T k).2.1 (T k).2.2.1 ∈ xw_T
  | .putfield idx, [11, ci, k, tc, _] => ∃ (C : String) (T : u_T) (N : Nat) (ty : Nat → FieldType), xk_C ci C T N ty ∧ k < N ∧ Cond.fieldLink own idx (T k).1 (T k).2.1 (T k).2.2.1 ∈ xw_T ∧ xk_tc tc (ty k) ∧ ((T k).2.2.2 = false ∨ ((T k).2.2.2 = true ∧ (T k).1 = own ∧ ini = true))
  | .new idx, [12, ci, n] => ∃ (C : String) (T : u_T) (ty : Nat → FieldType), xk_C ci C T n ty ∧ Cond.classLink own idx C ∈ xw_T ∧ Cond.instantiable C n ∈ xw_T ∧ Cond.initialized C ∈ xw_T
  | .ldc idx, [13, n] => Cond.constant own idx (Int32.ofNat n) ∈ xw_T
  | .ldc_w idx, [13, n] => Cond.constant own idx (Int32.ofNat n) ∈ xw_T
  | .getstatic idx, _ => own = "TingDecks$Bus" ∧ idx = 27
  | .newarray t, _ => Cond.arrayClass (newarray.typeOf t) ∈ xw_T
  | .istore_n k, _ => (k : Nat) < nL
  | .istore k, _ => k < nL
  | .astore_n k, _ => (k : Nat) < nL
  | .astore k, _ => k < nL
  | .lstore_n k, _ => (k : Nat) + 1 < nL
  | .lstore k, _ => k + 1 < nL
  | .iinc k _, _ => k < nL
  | _, _ => True
theorem xs_get_rng {G : xe_G} {ρ : Nat → Int32} (hG : xs_G G ρ) {v : Value} {r : Int × Int} (h : xe_rng G v = some r) : xe_kd 0 v = true ∧ r.1 ≤ (xs_i ρ v).toInt ∧ (xs_i ρ v).toInt ≤ r.2 := by
  cases v with
  | int x =>
    have h : some (x.toInt, x.toInt) = some r := h
    cases h
    exact ⟨rfl, Int.le_refl _, Int.le_refl _⟩
  | retAddr u => exact ⟨rfl, hG.1 u r h⟩
  | _ => cases (show (none : Option (Int × Int)) = some r from h)
/-- what a comparison says -/
def xs_cd (c : ClassFile.Cond) (x y : Int32) : Prop := match c with
  | .lt => x < y
  | .ge => x ≥ y
  | .gt => x > y
  | .le => x ≤ y
  | .eq => x = y
  | .ne => x ≠ y
theorem xs_lt_ok {a b : Int × Int} {x y : Int32} {r : Bool} (ha : a.1 ≤ x.toInt ∧ x.toInt ≤ a.2) (hb : b.1 ≤ y.toInt ∧ y.toInt ≤ b.2) (h : xe_lt a b = some r) : r = true ↔ x < y := by
  unfold xe_lt at h
  rw [Int32.lt_iff_toInt_lt]
  split at h
  · cases h; simp; omega
  · split at h
    · cases h; simp; omega
    · cases h
theorem xs_eq_ok {a b : Int × Int} {x y : Int32} {r : Bool} (ha : a.1 ≤ x.toInt ∧ x.toInt ≤ a.2) (hb : b.1 ≤ y.toInt ∧ y.toInt ≤ b.2) (h : xe_eq a b = some r) : r = true ↔ x = y := by
  unfold xe_eq at h
  rw [← Int32.toInt_inj]
  split at h
  · cases h; simp; omega
  · split at h
    · cases h; simp; omega
    · cases h
theorem xs_neg_some {o : Option Bool} {r : Bool} (h : xe_neg o = some r) : o = some (!r) := by
  cases o with
  | none => cases h
  | some b =>
    have h : some (!b) = some r := h
    cases h
    simp
theorem xs_cmp_ok {G : xe_G} {ρ : Nat → Int32} (hG : xs_G G ρ) {c : ClassFile.Cond} {a b : Value} {r : Bool} (h : xe_cmp G c a b = some r) : xe_kd 0 a = true ∧ xe_kd 0 b = true ∧ (r = true ↔ xs_cd c (xs_i ρ a) (xs_i ρ b)) := by
  have gen : xe_cmpR G c a b = some r → xe_kd 0 a = true ∧ xe_kd 0 b = true ∧ (r = true ↔ xs_cd c (xs_i ρ a) (xs_i ρ b)) := by
    intro h
    unfold xe_cmpR at h
    split at h
    · next ra rb ea eb =>
      obtain ⟨k1, h1⟩ := xs_get_rng hG ea
      obtain ⟨k2, h2⟩ := xs_get_rng hG eb
      refine ⟨k1, k2, ?_⟩
      cases c with
      | lt => exact xs_lt_ok h1 h2 h
      | gt => exact xs_lt_ok h2 h1 h
      | eq => exact xs_eq_ok h1 h2 h
      | ge =>
        have q := xs_lt_ok h1 h2 (xs_neg_some h)
        show r = true ↔ xs_i ρ b ≤ xs_i ρ a
        rw [← Int32.not_lt, ← q]
        cases r <;> simp
      | le =>
        have q := xs_lt_ok h2 h1 (xs_neg_some h)
        show r = true ↔ xs_i ρ a ≤ xs_i ρ b
        rw [← Int32.not_lt, ← q]
        cases r <;> simp
      | ne =>
        have q := xs_eq_ok h1 h2 (xs_neg_some h)
        show r = true ↔ ¬ (xs_i ρ a = xs_i ρ b)
        rw [← q]
        cases r <;> simp
    · cases h
  unfold xe_cmp at h
  split at h
  · next x y =>
    refine ⟨rfl, rfl, ?_⟩
    have h : some (xe_cmpI c (xe_bi x) (xe_bi y)) = some r := h
    cases h
    show xe_cmpI c (xe_bi x) (xe_bi y) = true ↔ xs_cd c x y
    cases c with
    | lt =>
      show Nat.ble (xe_bi x + 1) (xe_bi y) = true ↔ x < y
      rw [Nat.ble_eq, ← xe_bi_lt]
      exact Iff.rfl
    | gt =>
      show Nat.ble (xe_bi y + 1) (xe_bi x) = true ↔ y < x
      rw [Nat.ble_eq, ← xe_bi_lt]
      exact Iff.rfl
    | ge =>
      show Nat.ble (xe_bi y) (xe_bi x) = true ↔ y ≤ x
      rw [Nat.ble_eq, ← Int32.not_lt, ← xe_bi_lt, Nat.not_lt]
    | le =>
      show Nat.ble (xe_bi x) (xe_bi y) = true ↔ x ≤ y
      rw [Nat.ble_eq, ← Int32.not_lt, ← xe_bi_lt, Nat.not_lt]
    | eq =>
      show Nat.beq (xe_bi x) (xe_bi y) = true ↔ x = y
      rw [← xe_bi_inj, Nat.beq_eq]
    | ne =>
      show (!Nat.beq (xe_bi x) (xe_bi y)) = true ↔ ¬ x = y
      rw [← xe_bi_inj, ← Nat.beq_eq]
      cases Nat.beq (xe_bi x) (xe_bi y) <;> simp
  · exact gen h
theorem xs_bin_ok {G : xe_G} {ρ : Nat → Int32} (hG : xs_G G ρ) {op : Nat} {a b v : Value} (h : xe_bin G op a b = some v) : xe_kd 0 v = true ∧ xs_i ρ v = xe_op op (xs_i ρ a) (xs_i ρ b) := by
  unfold xe_bin at h
  split at h
  · next x y =>
    cases h
    rw [xe_mk_eq]
    exact ⟨rfl, rfl⟩
  · exact hG.2.1 _ _ _ _ h
theorem xs_tgt_ok {pc t : Nat} {off : Int} (h : xe_tgt pc off = some t) : (pc : Int) + off = (t : Int) := by
  unfold xe_tgt at h
  split at h
  · next k e => cases h; exact e
  · cases h
theorem xs_nn_ok {x : Int32} {k : Nat} (h : xe_nn x = some k) : ¬ x < 0 ∧ x.toNatClampNeg = k ∧ x.toInt = (k : Int) := by
  unfold xe_nn at h
  split at h
  · next j e =>
    cases h
    have e : x.toInt = (k : Int) := e
    refine ⟨?_, ?_, e⟩
    · rw [Int32.lt_iff_toInt_lt, e]
      show ¬ (k : Int) < 0
      omega
    · show x.toInt.toNat = k
      rw [e]
      rfl
  · cases h
theorem xs_fit_ok {ad : Nat → Nat} {sa : UInt32 → Nat} {ρ : Nat → Int32} {tc : Nat} {v : Value} {ty : FieldType} (h : xe_fit tc v = true) (ht : xk_tc tc ty) : narrow ty (xs_v ad sa ρ v) = xs_v ad sa ρ v ∧ fits ty (xs_v ad sa ρ v) = true := by
  rcases ht with ⟨rfl, rfl⟩ | ⟨rfl, rfl⟩ | ⟨rfl, rfl⟩ | ⟨rfl, hr⟩
  · rw [xs_num h]; exact ⟨rfl, rfl⟩
  · have h : (decide (v = .int 0) || decide (v = .int 1)) = true := h
    simp only [Bool.or_eq_true, decide_eq_true_eq] at h
    rcases h with rfl | rfl
    · exact ⟨rfl, rfl⟩
    · exact ⟨rfl, rfl⟩
  · rw [xs_lng h]; exact ⟨rfl, rfl⟩
  · obtain ⟨a, e⟩ := xs_ref (ad := ad) (sa := sa) (ρ := ρ) (show xe_kd 1 v = true from h)
    rw [e]
    rcases hr with ⟨n, rfl⟩ | ⟨t, rfl⟩
    · exact ⟨rfl, rfl⟩
    · exact ⟨rfl, rfl⟩
