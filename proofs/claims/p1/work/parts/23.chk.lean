/-! the tables are the machine's: checked by the kernel, method by method -/
def xk_tyL : List (Nat → FieldType) := [tyX0, tyX1, tyX2, tyX3, tyX4, tyX5, tyX6, tyX7, tyX8, tyX9]
theorem xk_cls2 {ci : Nat} {q : vw_C} {ty : Nat → FieldType} (h : vwCl[ci]? = some q) (ht : xk_tyL[ci]? = some ty) : xk_C ci q.1 q.2.1 q.2.2 ty := by
  match ci, h, ht with
  | 0, h, ht => cases h; cases ht; exact ⟨rfl, xk_u0, tyX0_ok, nmX0, xk_z0⟩
  | 1, h, ht => cases h; cases ht; exact ⟨rfl, xk_u1, tyX1_ok, nmX1, xk_z1⟩
  | 2, h, ht => cases h; cases ht; exact ⟨rfl, xk_u2, tyX2_ok, nmX2, xk_z2⟩
  | 3, h, ht => cases h; cases ht; exact ⟨rfl, xk_u3, tyX3_ok, nmX3, xk_z3⟩
  | 4, h, ht => cases h; cases ht; exact ⟨rfl, xk_u4, tyX4_ok, nmX4, xk_z4⟩
  | 5, h, ht => cases h; cases ht; exact ⟨rfl, xk_u5, tyX5_ok, nmX5, xk_z5⟩
  | 6, h, ht => cases h; cases ht; exact ⟨rfl, xk_u6, tyX6_ok, nmX6, xk_z6⟩
  | 7, h, ht => cases h; cases ht; exact ⟨rfl, xk_u7, tyX7_ok, nmX7, xk_z7⟩
  | 8, h, ht => cases h; cases ht; exact ⟨rfl, xk_u8, tyX8_ok, nmX8, xk_z8⟩
  | 9, h, ht => cases h; cases ht; exact ⟨rfl, xk_u9, tyX9_ok, nmX9, xk_z9⟩
  | k + 10, h, ht => simp [vwCl] at h
def xk_tcb (tc : Nat) (ty : FieldType) : Bool := match tc, ty with
  | 0, .int => true
  | 1, .boolean => true
  | 2, .long => true
  | 3, .object _ => true
  | 3, .array _ => true
  | _, _ => false
theorem xk_tcb_ok {tc : Nat} {ty : FieldType} (h : xk_tcb tc ty = true) : xk_tc tc ty := by
  unfold xk_tcb at h
  split at h
  · exact Or.inl ⟨rfl, rfl⟩
  · exact Or.inr (Or.inl ⟨rfl, rfl⟩)
  · exact Or.inr (Or.inr (Or.inl ⟨rfl, rfl⟩))
  · exact Or.inr (Or.inr (Or.inr ⟨rfl, Or.inl ⟨_, rfl⟩⟩))
  · exact Or.inr (Or.inr (Or.inr ⟨rfl, Or.inr ⟨_, rfl⟩⟩))
  · cases h
def xk_Lb (own : String) (nL : Nat) (ini : Bool) (i : Instr) (res : List Nat) : Bool := match i, res with
  | .getfield idx, [10, ci, k] => match vwCl[ci]?, xk_tyL[ci]? with
    | some q, some _ => Nat.blt k q.2.2 && xk_has (.fieldLink own idx (q.2.1 k).1 (q.2.1 k).2.1 (q.2.1 k).2.2.1)
    | _, _ => false
  | .putfield idx, [11, ci, k, tc, _] => match vwCl[ci]?, xk_tyL[ci]? with
    | some q, some ty => Nat.blt k q.2.2 && xk_has (.fieldLink own idx (q.2.1 k).1 (q.2.1 k).2.1 (q.2.1 k).2.2.1) && xk_tcb tc (ty k) && (!(q.2.1 k).2.2.2 || (decide ((q.2.1 k).1 = own) && ini))
    | _, _ => false
  | .new idx, [12, ci, n] => match vwCl[ci]?, xk_tyL[ci]? with
    | some q, some _ => Nat.beq q.2.2 n && xk_has (.classLink own idx q.1) && xk_has (.instantiable q.1 n) && xk_has (.initialized q.1)
    | _, _ => false
  | .ldc idx, [13, n] => xk_has (.constant own idx (Int32.ofNat n))
  | .ldc_w idx, [13, n] => xk_has (.constant own idx (Int32.ofNat n))
  | .getstatic idx, _ => decide (own = "TingDecks$Bus") && Nat.beq idx 27
  | .newarray t, _ => xk_has (.arrayClass (newarray.typeOf t))
  | .istore_n k, _ => Nat.blt k nL
  | .istore k, _ => Nat.blt k nL
  | .astore_n k, _ => Nat.blt k nL
  | .astore k, _ => Nat.blt k nL
  | .lstore_n k, _ => Nat.blt (k + 1) nL
  | .lstore k, _ => Nat.blt (k + 1) nL
  | .iinc k _, _ => Nat.blt k nL
  | .ldc _, _ => false
  | .ldc_w _, _ => false
  | .getfield _, _ => false
  | .putfield _, _ => false
  | .new _, _ => false
  | _, _ => true
theorem xk_Lb_ok {own : String} {nL : Nat} {ini : Bool} {i : Instr} {res : List Nat} (h : xk_Lb own nL ini i res = true) : xk_L own nL ini i res := by
  unfold xk_Lb at h
  split at h
  · next idx ci k =>
    split at h
    · next q ty hq hty =>
      rw [Bool.and_eq_true] at h
      exact ⟨_, _, _, _, xk_cls2 hq hty, Nat.ble_eq.mp h.1, xk_has_in h.2⟩
    · cases h
  · next idx ci k tc z =>
    split at h
    · next q ty hq hty =>
      simp only [Bool.and_eq_true, Bool.or_eq_true, decide_eq_true_eq] at h
      obtain ⟨⟨⟨h1, h2⟩, h3⟩, h4⟩ := h
      refine ⟨_, _, _, _, xk_cls2 hq hty, Nat.ble_eq.mp h1, xk_has_in h2, xk_tcb_ok h3, ?_⟩
      cases hf : (q.2.1 k).2.2.2 with
      | false => exact Or.inl rfl
      | true =>
        rw [hf] at h4
        rcases h4 with h4 | h4
        · cases h4
        · exact Or.inr ⟨rfl, h4.1, h4.2⟩
    · cases h
  · next idx ci n =>
    split at h
    · next q ty hq hty =>
      simp only [Bool.and_eq_true] at h
      obtain ⟨⟨⟨h1, h2⟩, h3⟩, h4⟩ := h
      have e := Nat.eq_of_beq_eq_true h1
      subst e
      exact ⟨_, _, _, xk_cls2 hq hty, xk_has_in h2, xk_has_in h3, xk_has_in h4⟩
    · cases h
  · exact xk_has_in h
  · exact xk_has_in h
  · rw [Bool.and_eq_true, decide_eq_true_eq] at h
    exact ⟨h.1, Nat.eq_of_beq_eq_true h.2⟩
  · exact xk_has_in h
  · exact Nat.ble_eq.mp h
  · exact Nat.ble_eq.mp h
  · exact Nat.ble_eq.mp h
  · exact Nat.ble_eq.mp h
  · exact Nat.ble_eq.mp h
  · exact Nat.ble_eq.mp h
  · exact Nat.ble_eq.mp h
  · cases h
  · cases h
  · cases h
  · cases h
  · cases h
  · unfold xk_L
    split <;> first | trivial | (exfalso; simp_all)
