def xk_pn (y : MethodName) (n : Nat) : Bool := decide ((parseMethodDescriptor y.desc).map (fun d => d.parameters.length) = some n)
def xk_com (d d' : xd_D) (M' : xe_M) (len : Nat) : Bool := Nat.beq len 3 && Nat.ble (d'.2.2.2.2.2.2.1 + 1) d.2.2.2.2.2.2.1 && Nat.ble d'.2.2.2.1 21 && Nat.beq d'.2.2.2.1 M'.2.1 && plainName d'.2.1.cls && decide (d'.2.1.cls = d'.1) && decide (d'.2.1.cls ≠ "java/lang/invoke/MethodHandle") && decide (d'.2.1.cls ≠ "java/lang/invoke/VarHandle") && xk_has (.initialized d'.2.1.cls)
def xk_Callb (d : xd_D) (i : Instr) (len y n kd : Nat) : Bool := match xe_P[y]?, xd_P[y]? with
  | some M', some d' => xk_com d d' M' len && match i with
    | .invokevirtual idx => match vwCl[kd - 10]? with
      | some q => d'.2.2.2.2.2.2.2.isEmpty && xk_has (.code d'.2.1 d'.2.2.1 d'.2.2.2.1 d'.2.2.2.2.1) && Nat.ble 10 kd && Nat.ble 1 n && decide (q.1 = d'.2.1.cls) && xk_pn d'.2.1 (n - 1) && xk_has (.methodLink d.1 idx d'.2.1) && xk_has (.instanceMethod d'.2.1) && xk_has (.selects d'.2.1.cls d'.2.1 d'.2.1)
      | none => false
    | .invokespecial idx => d'.2.2.2.2.2.2.2.isEmpty && xk_has (.code d'.2.1 d'.2.2.1 d'.2.2.2.1 d'.2.2.2.2.1) && Nat.ble 1 n && decide (d'.2.2.2.2.1 = none) && xk_pn d'.2.1 (n - 1) && decide (d'.2.1.name = "<init>") && xk_has (.instanceMethod d'.2.1) && ((Nat.beq kd 1 && xk_has (.methodLink d.1 idx d'.2.1)) || (Nat.beq kd 3 && (decide ((d.1, idx, d'.2.1) = ("TingDecks", 29, yX5_init)) || decide ((d.1, idx, d'.2.1) = ("TingDecks$Trip", 11, yX4_init)) || decide ((d.1, idx, d'.2.1) = ("TingDecks", 60, yX2_init)) || decide ((d.1, idx, d'.2.1) = ("TingDecks", 67, yX1_init)))))
    | .invokestatic idx => xk_pn d'.2.1 n && xk_has (.methodLink d.1 idx d'.2.1) && xk_has (.static d'.2.1) && ((Nat.beq kd 2 && d'.2.2.2.2.2.2.2.isEmpty && xk_has (.code d'.2.1 d'.2.2.1 d'.2.2.2.1 d'.2.2.2.2.1)) || (Nat.beq kd 4 && xk_has (.codeWith d'.2.1 d'.2.2.1 d'.2.2.2.1 d'.2.2.2.2.1 d'.2.2.2.2.2.2.2)))
    | _ => false
  | _, _ => false
theorem xk_Callb_ok {d : xd_D} {i : Instr} {len y n kd : Nat} (h : xk_Callb d i len y n kd = true) : xk_Call d i len y n kd := by
  unfold xk_Callb at h
  split at h
  · next M' d' hM hd =>
    rw [Bool.and_eq_true] at h
    obtain ⟨hc, h⟩ := h
    simp only [xk_com, Bool.and_eq_true, decide_eq_true_eq, Nat.ble_eq] at hc
    obtain ⟨⟨⟨⟨⟨⟨⟨⟨c1, c2⟩, c3⟩, c4⟩, c5⟩, c6⟩, c7⟩, c8⟩, c9⟩ := hc
    have c1 := Nat.eq_of_beq_eq_true c1
    have c4 := Nat.eq_of_beq_eq_true c4
    split at h
    · next idx =>
      split at h
      · next q hq =>
        simp only [xk_pn, Bool.and_eq_true, decide_eq_true_eq, Nat.ble_eq, List.isEmpty_iff] at h
        obtain ⟨⟨⟨⟨⟨⟨⟨⟨g1, g2⟩, g3⟩, g4⟩, g5⟩, g6⟩, g7⟩, g8⟩, g9⟩ := h
        exact Or.inl ⟨M', d', hM, hd, c1, c2, c3, c4, g1, c5, c6, c7, c8, xk_has_in g2, xk_has_in c9, Or.inl ⟨idx, n - 1, kd - 10, q, rfl, by omega, by omega, hq, g5, g6, xk_has_in g7, xk_has_in g8, xk_has_in g9⟩⟩
      · cases h
    · next idx =>
      simp only [xk_pn, Bool.and_eq_true, Bool.or_eq_true, decide_eq_true_eq, Nat.ble_eq, List.isEmpty_iff] at h
      obtain ⟨⟨⟨⟨⟨⟨⟨g1, g2⟩, g3⟩, g4⟩, g5⟩, g6⟩, g7⟩, g8⟩ := h
      refine Or.inl ⟨M', d', hM, hd, c1, c2, c3, c4, g1, c5, c6, c7, c8, xk_has_in g2, xk_has_in c9, ?_⟩
      rcases g8 with ⟨k1, k2⟩ | ⟨k1, k2⟩
      · exact Or.inr (Or.inl ⟨idx, n - 1, rfl, Nat.eq_of_beq_eq_true k1, by omega, g4, g5, g6, xk_has_in k2, xk_has_in g7⟩)
      · refine Or.inr (Or.inr (Or.inr ⟨idx, n - 1, rfl, Nat.eq_of_beq_eq_true k1, by omega, g4, g5, g6, xk_has_in g7, ?_⟩))
        rcases k2 with ((k2 | k2) | k2) | k2
        · exact Or.inl k2
        · exact Or.inr (Or.inl k2)
        · exact Or.inr (Or.inr (Or.inl k2))
        · exact Or.inr (Or.inr (Or.inr k2))
    · next idx =>
      simp only [xk_pn, Bool.and_eq_true, Bool.or_eq_true, decide_eq_true_eq, List.isEmpty_iff] at h
      obtain ⟨⟨⟨g1, g2⟩, g3⟩, g4⟩ := h
      rcases g4 with ⟨⟨k1, k2⟩, k3⟩ | ⟨k1, k2⟩
      · exact Or.inl ⟨M', d', hM, hd, c1, c2, c3, c4, k2, c5, c6, c7, c8, xk_has_in k3, xk_has_in c9, Or.inr (Or.inr (Or.inl ⟨idx, rfl, Nat.eq_of_beq_eq_true k1, g1, xk_has_in g2, xk_has_in g3⟩))⟩
      · exact Or.inr ⟨M', d', hM, hd, c1, c2, c3, c4, c5, c6, c7, c8, xk_has_in k2, xk_has_in c9, Nat.eq_of_beq_eq_true k1, idx, rfl, g1, xk_has_in g2, xk_has_in g3⟩
    · cases h
  · cases h
def xk_strOf (is : Nat) : String := match xw_Str.find? (fun q => Nat.beq q.1 is) with
  | some q => q.2
  | none => ""
def xk_Thrb (d : xd_D) (pc : Nat) (i : Instr) (k is ic x : Nat) : Bool := match i with
  | .new ik => decide (d.1 = "TingDecks") && d.2.2.2.2.2.2.2.isEmpty && Nat.blt k 2 && decide (decode d.2.2.1 (pc + 3) = .ok (.dup, 1)) && decide ((is, xk_strOf is) ∈ xw_Str) && xk_has (.classLink "TingDecks" ik (xd_ex k)) && xk_has (.initialized (xd_ex k)) && (Cond.classLink "TingDecks" ik (xd_ex k) :: Cond.initialized (xd_ex k) :: vx_atS "TingDecks" ic (xd_ex k) xd_nm).all vx_ot && (vx_atS "TingDecks" ic (xd_ex k) xd_nm).all (fun w => xk_has w || decide (w ∈ xw_N)) &&
      ((Nat.beq x 2 && decide (decode d.2.2.1 (pc + 4) = .ok (.ldc is, 2)) && decide (decode d.2.2.1 (pc + 6) = .ok (.invokespecial ic, 3)) && decide (decode d.2.2.1 (pc + 9) = .ok (.athrow, 1))) || (Nat.beq x 3 && decide (decode d.2.2.1 (pc + 4) = .ok (.ldc_w is, 3)) && decide (decode d.2.2.1 (pc + 7) = .ok (.invokespecial ic, 3)) && decide (decode d.2.2.1 (pc + 10) = .ok (.athrow, 1))))
  | _ => false
theorem xk_Thrb_ok {d : xd_D} {pc : Nat} {i : Instr} {k is ic x : Nat} (h : xk_Thrb d pc i k is ic x = true) : xk_Thr d pc i k is ic x := by
  unfold xk_Thrb at h
  split at h
  · next ik =>
    simp only [Bool.and_eq_true, Bool.or_eq_true, decide_eq_true_eq, List.isEmpty_iff] at h
    obtain ⟨⟨⟨⟨⟨⟨⟨⟨⟨g1, g2⟩, g3⟩, g4⟩, g5⟩, g6⟩, g7⟩, g8⟩, g9⟩, g10⟩ := h
    refine ⟨g1, g2, Nat.ble_eq.mp g3, g4, ⟨ik, _, rfl, g5, xk_has_in g6, xk_has_in g7, fun w hw => List.all_eq_true.mp g8 w hw⟩, fun w hw => ?_, ?_⟩
    · have h1 := List.all_eq_true.mp g9 w hw
      rw [Bool.or_eq_true, decide_eq_true_eq] at h1
      exact h1.elim (fun z => Or.inl (xk_has_in z)) Or.inr
    · rcases g10 with ⟨⟨⟨k1, k2⟩, k3⟩, k4⟩ | ⟨⟨⟨k1, k2⟩, k3⟩, k4⟩
      · exact Or.inl ⟨Nat.eq_of_beq_eq_true k1, k2, k3, k4⟩
      · exact Or.inr ⟨Nat.eq_of_beq_eq_true k1, k2, k3, k4⟩
  · cases h
def xk_Eb (d : xd_D) (e : xe_I) : Bool := match e.2.2.2 with
  | [0, y, n, kd] => xk_Callb d e.2.1 e.2.2.1 y n kd
  | [1, k, is, ic, x] => Nat.beq e.2.2.1 3 && xk_Thrb d e.1 e.2.1 k is ic x
  | [2] => match e.2.1 with
    | .invokespecial idx => Nat.beq e.2.2.1 3 && xk_has (.methodLink d.1 idx Lib.objectInit) && xk_has (.instanceMethod Lib.objectInit) && xk_has (.code Lib.objectInit ⟨#[0xb1]⟩ 1 none)
    | _ => false
  | [3] => match e.2.1 with
    | .invokestatic idx => Nat.beq e.2.2.1 3 && xk_has (.methodLink d.1 idx arraycopyName) && xk_has (.native arraycopyName) && xk_has (.static arraycopyName) && xk_has (.initialized "java/lang/System")
    | _ => false
  | [4] => match e.2.1 with
    | .invokevirtual idx => Nat.beq e.2.2.1 3 && xk_has (.methodLink d.1 idx xd_cl) && xk_has (.sameMethod "[I" "java/lang/Object" "clone" "()Ljava/lang/Object;") && xk_has (.native xd_oc) && xk_has (.instanceMethod xd_oc) && xk_has (.selects "[I" xd_cl xd_oc)
    | _ => false
  | [5] => match e.2.1 with
    | .checkcast idx => xk_has (.classLink d.1 idx "[I")
    | _ => false
  | res => Nat.beq e.2.2.1 (xk_ln e.2.1 e.2.2.1) && xk_Lb d.1 d.2.2.2.1 d.2.2.2.2.2.1 e.2.1 res
theorem xk_Eb_ok {d : xd_D} {e : xe_I} (h : xk_Eb d e = true) : xk_E d e := by
  obtain ⟨pc, i, len, res⟩ := e
  unfold xk_Eb at h
  unfold xk_E
  dsimp only at h ⊢
  split at h
  · exact xk_Callb_ok h
  · rw [Bool.and_eq_true] at h
    exact ⟨Nat.eq_of_beq_eq_true h.1, xk_Thrb_ok h.2⟩
  · split at h
    · next idx =>
      simp only [Bool.and_eq_true] at h
      obtain ⟨⟨⟨h1, h2⟩, h3⟩, h4⟩ := h
      exact ⟨idx, rfl, Nat.eq_of_beq_eq_true h1, xk_has_in h2, xk_has_in h3, xk_has_in h4⟩
    · cases h
  · split at h
    · next idx =>
      simp only [Bool.and_eq_true] at h
      obtain ⟨⟨⟨⟨h1, h2⟩, h3⟩, h4⟩, h5⟩ := h
      exact ⟨idx, rfl, Nat.eq_of_beq_eq_true h1, xk_has_in h2, xk_has_in h3, xk_has_in h4, xk_has_in h5⟩
    · cases h
  · split at h
    · next idx =>
      simp only [Bool.and_eq_true] at h
      obtain ⟨⟨⟨⟨⟨h1, h2⟩, h3⟩, h4⟩, h5⟩, h6⟩ := h
      exact ⟨idx, rfl, Nat.eq_of_beq_eq_true h1, xk_has_in h2, xk_has_in h3, xk_has_in h4, xk_has_in h5, xk_has_in h6⟩
    · cases h
  · split at h
    · next idx => exact ⟨idx, rfl, xk_has_in h⟩
    · cases h
  · next n1 n2 n3 n4 n5 n6 =>
    rw [Bool.and_eq_true] at h
    have h2 : len = xk_ln i len ∧ xk_L d.1 d.2.2.2.1 d.2.2.2.2.2.1 i res := ⟨Nat.eq_of_beq_eq_true h.1, xk_Lb_ok h.2⟩
    split
    · exact absurd rfl (n1 _ _ _)
    · exact absurd rfl (n2 _ _ _ _)
    · exact absurd rfl n3
    · exact absurd rfl n4
    · exact absurd rfl n5
    · exact absurd rfl n6
    · exact h2
def xk_retb (k : Nat) (r : Option FieldType) : Bool := match k, r with
  | 0, none => true
  | 1, some .int => true
  | 2, some .long => true
  | 3, some (.object _) => true
  | 4, some .boolean => true
  | _, _ => false
theorem xk_retb_ok {k : Nat} {r : Option FieldType} (h : xk_retb k r = true) : xk_ret k r := by
  unfold xk_retb at h
  split at h
  · exact Or.inl ⟨rfl, rfl⟩
  · exact Or.inr (Or.inl ⟨rfl, rfl⟩)
  · exact Or.inr (Or.inr (Or.inl ⟨rfl, rfl⟩))
  · exact Or.inr (Or.inr (Or.inr (Or.inl ⟨rfl, _, rfl⟩)))
  · exact Or.inr (Or.inr (Or.inr (Or.inr ⟨rfl, rfl⟩)))
  · cases h
def xk_hb (own : String) (a b : Nat × Nat × Nat × Nat) : Bool := Nat.beq a.1 b.1 && Nat.beq a.2.1 b.2.1 && Nat.beq a.2.2.1 b.2.2.1 && Nat.blt a.2.2.2 2 && !(Nat.beq b.2.2.2 0) && xk_has (.classLink own b.2.2.2 (xd_ex a.2.2.2))
def xk_hhb (own : String) : List (Nat × Nat × Nat × Nat) → List (Nat × Nat × Nat × Nat) → Bool
  | [], [] => true
  | a :: t, b :: u => xk_hb own a b && xk_hhb own t u
  | _, _ => false
theorem xk_hhb_ok {own : String} : ∀ (l1 l2 : List (Nat × Nat × Nat × Nat)), xk_hhb own l1 l2 = true → l1.length = l2.length ∧ ∀ (j : Nat) (a b : Nat × Nat × Nat × Nat), l1[j]? = some a → l2[j]? = some b → a.1 = b.1 ∧ a.2.1 = b.2.1 ∧ a.2.2.1 = b.2.2.1 ∧ a.2.2.2 < 2 ∧ b.2.2.2 ≠ 0 ∧ Cond.classLink own b.2.2.2 (xd_ex a.2.2.2) ∈ xw_T := by
  intro l1
  induction l1 with
  | nil =>
    intro l2 h
    cases l2 with
    | nil => exact ⟨rfl, fun j a b h1 => by simp at h1⟩
    | cons b u => cases h
  | cons a t ih =>
    intro l2 h
    cases l2 with
    | nil => cases h
    | cons b u =>
      have h : (xk_hb own a b && xk_hhb own t u) = true := h
      rw [Bool.and_eq_true] at h
      obtain ⟨h1, h2⟩ := ih u h.2
      refine ⟨by rw [List.length_cons, List.length_cons, h1], fun j x y hx hy => ?_⟩
      cases j with
      | zero =>
        have e1 : a = x := by simpa using hx
        have e2 : b = y := by simpa using hy
        subst e1; subst e2
        have h3 := h.1
        simp only [xk_hb, Bool.and_eq_true, Bool.not_eq_true'] at h3
        obtain ⟨⟨⟨⟨⟨k1, k2⟩, k3⟩, k4⟩, k5⟩, k6⟩ := h3
        exact ⟨Nat.eq_of_beq_eq_true k1, Nat.eq_of_beq_eq_true k2, Nat.eq_of_beq_eq_true k3, Nat.ble_eq.mp k4, (fun z => by rw [z] at k5; cases k5), xk_has_in k6⟩
      | succ j => exact h2 j x y (by simpa using hx) (by simpa using hy)
def xk_mb (M : xe_M) (d : xd_D) : Bool := M.1.all (fun e => decide (decode d.2.2.1 e.1 = .ok (e.2.1, e.2.2.1)) && xk_Eb d e) && xk_retb M.2.2.1 d.2.2.2.2.1 && (!d.2.2.2.2.2.1 || decide (d.2.1.name = "<init>")) && xk_hhb d.1 M.2.2.2.2.2 d.2.2.2.2.2.2.2
theorem xk_mb_ok {M : xe_M} {d : xd_D} (h : xk_mb M d = true) : xk_Meth M d := by
  unfold xk_mb at h
  simp only [Bool.and_eq_true, Bool.or_eq_true, decide_eq_true_eq] at h
  obtain ⟨⟨⟨h1, h2⟩, h3⟩, h4⟩ := h
  refine ⟨fun e he => ?_, xk_retb_ok h2, fun z => ?_, xk_hhb_ok _ _ h4⟩
  · have h5 := List.all_eq_true.mp h1 e he
    rw [Bool.and_eq_true, decide_eq_true_eq] at h5
    exact ⟨h5.1, xk_Eb_ok h5.2⟩
  · rw [z] at h3
    rcases h3 with h3 | h3
    · cases h3
    · exact h3
