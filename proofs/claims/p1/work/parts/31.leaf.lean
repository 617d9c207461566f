/-! the cases of the script: by the operation, and by ranges of its arguments -/
/-- what the unknowns stand for: the script's numbers from 100 on; below 60 the bytes of a number that is fed, by a shift, as a byte, as a number of 0 to 255; at 90 the operation -/
def xl_rho (xs : Nat → Int32) (u : Nat) : Int32 := if 100 ≤ u then xs (u - 100) else if u < 20 then xe_op 7 (xs (1 + u / 4)) (Int32.ofNat (8 * (u % 4))) else if u < 40 then xe_op 10 (xe_op 7 (xs (1 + (u - 20) / 4)) (Int32.ofNat (8 * ((u - 20) % 4)))) 0 else if u < 60 then xe_op 3 (xe_op 7 (xs (1 + (u - 40) / 4)) (Int32.ofNat (8 * ((u - 40) % 4)))) 255 else xs 0 &&& 63
theorem xl_rho100 (xs : Nat → Int32) (j : Nat) : xl_rho xs (100 + j) = xs j := by
  unfold xl_rho
  rw [if_pos (by omega), Nat.add_sub_cancel_left]
def xl_sdk (xs : Nat → Int32) (q : (Nat × Value × Value) × Value) : Prop := xe_kd 0 q.2 = true ∧ xs_i (xl_rho xs) q.2 = xe_op q.1.1 (xs_i (xl_rho xs) q.1.2.1) (xs_i (xl_rho xs) q.1.2.2)
theorem xl_sd {xs : Nat → Int32} : ∀ (l : List ((Nat × Value × Value) × Value)), (∀ q ∈ l, xl_sdk xs q) → ∀ op a b v, xe_sd l op a b = some v → xe_kd 0 v = true ∧ xs_i (xl_rho xs) v = xe_op op (xs_i (xl_rho xs) a) (xs_i (xl_rho xs) b) := by
  intro l
  induction l with
  | nil => intro _ op a b v h; cases h
  | cons q t ih =>
    intro hq op a b v h
    have h : (if q.1 = (op, a, b) then some q.2 else xe_sd t op a b) = some v := h
    by_cases e : q.1 = (op, a, b)
    · rw [if_pos e] at h
      cases h
      have h1 := hq q List.mem_cons_self
      unfold xl_sdk at h1
      rw [e] at h1
      exact h1
    · rw [if_neg e] at h
      exact ih (fun q' h' => hq q' (List.mem_cons_of_mem _ h')) op a b v h
def xl_in (xs : Nat → Int32) : Nat → List (Int × Int) → Prop
  | _, [] => True
  | j, q :: t => (q.1 ≤ (xs j).toInt ∧ (xs j).toInt ≤ q.2) ∧ xl_in xs (j + 1) t
def xl_ints : Nat → List (Int × Int) → List (Nat × Int × Int)
  | _, [] => []
  | j, q :: t => (100 + j, q.1, q.2) :: xl_ints (j + 1) t
def xl_args : Nat → Nat → List (Int × Int) → List Value
  | _, 0, _ => []
  | j, n + 1, [] => .retAddr (100 + j) :: xl_args (j + 1) n []
  | j, n + 1, q :: t => (if q.1 = q.2 then .int (Int32.ofInt q.1) else .retAddr (100 + j)) :: xl_args (j + 1) n t
def xl_GI (v : Value) (I : List (Int × Int)) : xe_G := (xl_ints 1 I, [((3, .retAddr 100, .int 63), v)], .retAddr 100 :: xl_args 1 5 I, [])
theorem xl_ints_ok {xs : Nat → Int32} : ∀ (I : List (Int × Int)) (j : Nat), xl_in xs j I → ∀ u r, xe_rl (xl_ints j I) u = some r → r.1 ≤ (xl_rho xs u).toInt ∧ (xl_rho xs u).toInt ≤ r.2 := by
  intro I
  induction I with
  | nil => intro j _ u r h; cases h
  | cons q t ih =>
    intro j hI u r h
    have h : (bif Nat.beq (100 + j) u then some (q.1, q.2) else xe_rl (xl_ints (j + 1) t) u) = some r := h
    cases hb : Nat.beq (100 + j) u with
    | true =>
      rw [hb] at h
      cases h
      have e := Nat.eq_of_beq_eq_true hb
      subst e
      rw [xl_rho100]
      exact hI.1
    | false => rw [hb] at h; exact ih (j + 1) hI.2 u r h
theorem xl_args_ok {xs : Nat → Int32} : ∀ (n : Nat) (I : List (Int × Int)) (j : Nat), xl_in xs j I → ∀ i v, (xl_args j n I)[i]? = some v → xe_kd 0 v = true ∧ xs_i (xl_rho xs) v = xl_rho xs (100 + (j + i)) := by
  intro n
  induction n with
  | zero => intro I j _ i v h; simp [xl_args] at h
  | succ n ih =>
    intro I j hI i v h
    cases I with
    | nil =>
      cases i with
      | zero =>
        have e : Value.retAddr (100 + j) = v := by simpa [xl_args] using h
        subst e
        exact ⟨rfl, rfl⟩
      | succ i =>
        have h2 := ih [] (j + 1) trivial i v (by simpa [xl_args] using h)
        rw [show j + (i + 1) = j + 1 + i by omega]
        exact h2
    | cons q t =>
      cases i with
      | zero =>
        have e : (if q.1 = q.2 then Value.int (Int32.ofInt q.1) else .retAddr (100 + j)) = v := by simpa [xl_args] using h
        by_cases hq : q.1 = q.2
        · rw [if_pos hq] at e
          subst e
          refine ⟨rfl, ?_⟩
          show Int32.ofInt q.1 = xl_rho xs (100 + (j + 0))
          rw [Nat.add_zero, xl_rho100]
          have h1 := hI.1
          have h2 : (xs j).toInt = q.1 := by omega
          rw [← h2]
          exact Int32.ofInt_toInt _
        · rw [if_neg hq] at e
          subst e
          exact ⟨rfl, rfl⟩
      | succ i =>
        have h2 := ih t (j + 1) hI.2 i v (by simpa [xl_args] using h)
        rw [show j + (i + 1) = j + 1 + i by omega]
        exact h2
theorem xl_scr {xs : Nat → Int32} {as : List Value} (h : ∀ i v, as[i]? = some v → xe_kd 0 v = true ∧ xs_i (xl_rho xs) v = xl_rho xs (100 + (1 + i))) : ∀ j v, (Value.retAddr 100 :: as)[j]? = some v → xe_kd 0 v = true ∧ xs_i (xl_rho xs) v = xl_rho xs (100 + j) := by
  intro j v hv
  cases j with
  | zero =>
    have e : Value.retAddr 100 = v := by simpa using hv
    subst e
    exact ⟨rfl, rfl⟩
  | succ j =>
    have h2 := h j v (by simpa using hv)
    rw [show 1 + j = j + 1 by omega] at h2
    exact h2
theorem xl_GI_ok {xs : Nat → Int32} {v : Value} {I : List (Int × Int)} (hk : xe_kd 0 v = true) (hop : xs_i (xl_rho xs) v = xs 0 &&& 63) (hI : xl_in xs 1 I) : xs_G (xl_GI v I) (xl_rho xs) := by
  refine ⟨xl_ints_ok I 1 hI, xl_sd _ (fun q hq => ?_), (fun u hu => by cases hu), xl_scr (xl_args_ok 5 I 1 hI)⟩
  have e := List.mem_singleton.mp hq
  subst e
  refine ⟨hk, ?_⟩
  show xs_i (xl_rho xs) v = xe_op 3 (xl_rho xs 100) 63
  rw [hop, xl_rho100 xs 0]
  rfl
noncomputable def xl_run (G : xe_G) : Option xe_R := xe_run xe_P G xe_Z 100000 xm_187 xm_187.1 0 [(0, .float 1)] [] [] 0 0
def xl_is (r : Option xe_R) : Bool := match r with
  | some (1, .int x, _) => decide (x = 1)
  | _ => false
theorem xl_is_ok {r : Option xe_R} (h : xl_is r = true) : ∃ w, r = some (1, .int 1, w) := by
  unfold xl_is at h
  split at h
  · next x w =>
    rw [decide_eq_true_eq] at h
    subst h
    exact ⟨w, rfl⟩
  · cases h
/-- the law's answer, as it is owed -/
def xl_Goal (xs : Nat → Int32) (L : Nat) : Prop := ∀ (p : Program) (e : Env) (s : State) (m : MethodId) (below : List Frame) (meth : Method) (c : Code) (l : Launch) (b : Nat), l.stackTraces = false → lw_At p s m meth c b L xs → W p l e room_1 s m #[Value.ref b] below meth c s.heap [] 0 0 (lw_Z below #[Value.ref b] s) (entryFrame m ([Value.ref b] : List Value).toArray 8)
theorem xl_any {xs : Nat → Int32} {G : xe_G} {L : Nat} (hG : xs_G G (xl_rho xs)) (hlen : G.2.2.1.length = L) (h : xl_is (xl_run G) = true) : xl_Goal xs L := by
  intro p e s m below meth c l b hl C0
  obtain ⟨w, hw⟩ := xl_is_ok h
  exact xl_go xk_all hl C0 hG hlen (xl_rho100 xs) hw
theorem xl_argl : ∀ (n j : Nat) (I : List (Int × Int)), (xl_args j n I).length = n := by
  intro n
  induction n with
  | zero => intro j I; rfl
  | succ n ih =>
    intro j I
    cases I with
    | nil => show (xl_args (j + 1) n []).length + 1 = n + 1; rw [ih]
    | cons q t => show (xl_args (j + 1) n t).length + 1 = n + 1; rw [ih]
theorem xl_app {xs : Nat → Int32} {n : Nat} (hop : xs 0 &&& 63 = Int32.ofNat n) (I : List (Int × Int)) (hI : xl_in xs 1 I) (h : xl_is (xl_run (xl_GI (.int (Int32.ofNat n)) I)) = true) : xl_Goal xs 6 :=
  xl_any (xl_GI_ok (v := .int (Int32.ofNat n)) rfl hop.symm hI) (by show (xl_args 1 5 I).length + 1 = 6; rw [xl_argl]) h
theorem xl_lo (x : Int32) : -2147483648 ≤ x.toInt := Int32.le_toInt x
theorem xl_hi (x : Int32) : x.toInt ≤ 2147483647 := by have := Int32.toInt_lt x; omega
/-- scripts that are too short for a call -/
def xl_G0 (L : Nat) : xe_G := ([], [], (List.range L).map (fun j => .retAddr (100 + j)), [])
theorem xl_G0_ok (xs : Nat → Int32) (L : Nat) : xs_G (xl_G0 L) (xl_rho xs) := by
  refine ⟨(fun u r h => by cases h), (fun op a b v h => by cases h), (fun u hu => by cases hu), fun j v h => ?_⟩
  have h : ((List.range L).map (fun j => Value.retAddr (100 + j)))[j]? = some v := h
  rw [List.getElem?_map] at h
  obtain ⟨k, hk, e⟩ := Option.map_eq_some_iff.mp h
  have e2 : k = j := by
    have := List.getElem?_eq_some_iff.mp hk
    obtain ⟨h1, h2⟩ := this
    simpa using h2.symm
  subst e; subst e2
  exact ⟨rfl, rfl⟩
