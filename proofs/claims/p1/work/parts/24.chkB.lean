noncomputable def xk_l3 (l : List (Nat × Nat × Nat)) (a b c : Nat) : Bool := List.rec (motive := fun _ => Bool) false (fun q _ ih => bif Nat.beq q.1 a then Nat.beq q.2.1 b && Nat.beq q.2.2 c else ih) l
noncomputable def xk_l2 (l : List (Nat × Nat)) (a b : Nat) : Bool := List.rec (motive := fun _ => Bool) false (fun q _ ih => bif Nat.beq q.1 a then Nat.beq q.2 b else ih) l
noncomputable def xk_l1 (l : List Nat) (a : Nat) : Bool := List.rec (motive := fun _ => Bool) false (fun q _ ih => bif Nat.beq q a then true else ih) l
theorem xk_l3_ok {l : List (Nat × Nat × Nat)} {a b c : Nat} (h : xk_l3 l a b c = true) : (a, b, c) ∈ l := by
  induction l with
  | nil => cases h
  | cons q t ih =>
    have h : (bif Nat.beq q.1 a then Nat.beq q.2.1 b && Nat.beq q.2.2 c else xk_l3 t a b c) = true := h
    cases hb : Nat.beq q.1 a with
    | true =>
      rw [hb] at h
      have h : (Nat.beq q.2.1 b && Nat.beq q.2.2 c) = true := h
      rw [Bool.and_eq_true] at h
      have e1 := Nat.eq_of_beq_eq_true hb
      have e2 := Nat.eq_of_beq_eq_true h.1
      have e3 := Nat.eq_of_beq_eq_true h.2
      rw [← e1, ← e2, ← e3]
      exact List.mem_cons_self
    | false => rw [hb] at h; exact List.mem_cons_of_mem _ (ih h)
theorem xk_l2_ok {l : List (Nat × Nat)} {a b : Nat} (h : xk_l2 l a b = true) : (a, b) ∈ l := by
  induction l with
  | nil => cases h
  | cons q t ih =>
    have h : (bif Nat.beq q.1 a then Nat.beq q.2 b else xk_l2 t a b) = true := h
    cases hb : Nat.beq q.1 a with
    | true =>
      rw [hb] at h
      have e1 := Nat.eq_of_beq_eq_true hb
      have e2 := Nat.eq_of_beq_eq_true h
      rw [← e1, ← e2]
      exact List.mem_cons_self
    | false => rw [hb] at h; exact List.mem_cons_of_mem _ (ih h)
theorem xk_l1_ok {l : List Nat} {a : Nat} (h : xk_l1 l a = true) : a ∈ l := by
  induction l with
  | nil => cases h
  | cons q t ih =>
    have h : (bif Nat.beq q a then true else xk_l1 t a) = true := h
    cases hb : Nat.beq q a with
    | true => rw [← Nat.eq_of_beq_eq_true hb]; exact List.mem_cons_self
    | false => rw [hb] at h; exact List.mem_cons_of_mem _ (ih h)
theorem xt_eq {ci k : Nat} {q : vw_C} (h : vwCl[ci]? = some q) : xt ci k = q.2.1 k := by unfold xt; rw [h]
theorem xk_arr0 : Cond.arrayClass (newarray.typeOf .byte) ∈ xw_T := xk_has_in (by decide +kernel)
theorem xk_arr1 : Cond.arrayClass (newarray.typeOf .int) ∈ xw_T := xk_has_in (by decide +kernel)
theorem xk_arr2 : Cond.arrayClass (newarray.typeOf .long) ∈ xw_T := xk_has_in (by decide +kernel)
theorem xk_arr3 : Cond.arrayClass (newarray.typeOf .boolean) ∈ xw_T := xk_has_in (by decide +kernel)
def xk_arrb : ArrayType → Bool
  | .byte => true
  | .int => true
  | .long => true
  | .boolean => true
  | _ => false
theorem xk_arrb_ok {t : ArrayType} (h : xk_arrb t = true) : Cond.arrayClass (newarray.typeOf t) ∈ xw_T := by
  cases t <;> first | exact xk_arr0 | exact xk_arr1 | exact xk_arr2 | exact xk_arr3 | cases h
noncomputable def xk_Lb (o nL : Nat) (ini : Bool) (i : Instr) (res : List Nat) : Bool := match i, res with
  | .getfield idx, [10, ci, k] => match vwCl[ci]?, xk_tyL[ci]? with
    | some q, some _ => Nat.blt k q.2.2 && xk_l3 (xf o) idx ci k
    | _, _ => false
  | .putfield idx, [11, ci, k, tc, _] => match vwCl[ci]?, xk_tyL[ci]? with
    | some q, some ty => Nat.blt k q.2.2 && xk_l3 (xf o) idx ci k && xk_tcb tc (ty k) && (!(q.2.1 k).2.2.2 || (decide ((q.2.1 k).1 = xo_n o) && ini))
    | _, _ => false
  | .new idx, [12, ci, n] => match vwCl[ci]?, xk_tyL[ci]? with
    | some q, some _ => Nat.beq q.2.2 n && xk_l2 (xn o) idx ci && xk_l1 xk_cn ci
    | _, _ => false
  | .ldc idx, [13, n] => xk_l2 (xq o) idx n
  | .ldc_w idx, [13, n] => xk_l2 (xq o) idx n
  | .getstatic idx, _ => Nat.beq o 0 && Nat.beq idx 27
  | .newarray t, _ => xk_arrb t
  | .istore_n k, _ => Nat.blt k nL
  | .istore k, _ => Nat.blt k nL
  | .astore_n k, _ => Nat.blt k nL
  | .astore k, _ => Nat.blt k nL
  | .lstore_n k, _ => Nat.blt (k + 1) nL
  | .lstore k, _ => Nat.blt (k + 1) nL
  | .iinc k _, _ => Nat.blt k nL
  | .ldc _, _ => false
  | .ldc_w _, _ => false
  | .getfield _, _ => false
  | .putfield _, _ => false
  | .new _, _ => false
  | _, _ => true
theorem xk_Lb_ok {o nL : Nat} {ini : Bool} {i : Instr} {res : List Nat} (h : xk_Lb o nL ini i res = true) : xk_L (xo_n o) nL ini i res := by
  unfold xk_Lb at h
  split at h
  · next idx ci k =>
    split at h
    · next q ty hq hty =>
      rw [Bool.and_eq_true] at h
      have h2 := xf_ok o _ (xk_l3_ok h.2)
      unfold xk_fw at h2
      rw [xt_eq hq] at h2
      exact ⟨_, _, _, _, xk_cls2 hq hty, Nat.ble_eq.mp h.1, h2⟩
    · cases h
  · next idx ci k tc z =>
    split at h
    · next q ty hq hty =>
      simp only [Bool.and_eq_true, Bool.or_eq_true, decide_eq_true_eq] at h
      obtain ⟨⟨⟨h1, h2⟩, h3⟩, h4⟩ := h
      have h2 := xf_ok o _ (xk_l3_ok h2)
      unfold xk_fw at h2
      rw [xt_eq hq] at h2
      refine ⟨_, _, _, _, xk_cls2 hq hty, Nat.ble_eq.mp h1, h2, xk_tcb_ok h3, ?_⟩
      cases hf : (q.2.1 k).2.2.2 with
      | false => exact Or.inl rfl
      | true =>
        rw [hf] at h4
        rcases h4 with h4 | h4
        · cases h4
        · exact Or.inr ⟨rfl, h4.1, h4.2⟩
    · cases h
  · next idx ci n =>
    split at h
    · next q ty hq hty =>
      simp only [Bool.and_eq_true] at h
      obtain ⟨⟨h1, h2⟩, h3⟩ := h
      have e := Nat.eq_of_beq_eq_true h1
      subst e
      have h2 := xn_ok o _ (xk_l2_ok h2)
      unfold xk_nw at h2
      rw [xk_cls3 ci q hq] at h2
      have h4 := xk_cn_ok ci (xk_l1_ok h3)
      unfold xk_cw at h4
      rw [hq] at h4
      exact ⟨_, _, _, xk_cls2 hq hty, h2, h4 _ List.mem_cons_self, h4 _ (List.mem_cons_of_mem _ List.mem_cons_self)⟩
    · cases h
  · exact xq_ok o _ (xk_l2_ok h)
  · exact xq_ok o _ (xk_l2_ok h)
  · rw [Bool.and_eq_true] at h
    have e := Nat.eq_of_beq_eq_true h.1
    subst e
    exact ⟨rfl, Nat.eq_of_beq_eq_true h.2⟩
  · exact xk_arrb_ok h
  · exact Nat.ble_eq.mp h
  · exact Nat.ble_eq.mp h
  · exact Nat.ble_eq.mp h
  · exact Nat.ble_eq.mp h
  · exact Nat.ble_eq.mp h
  · exact Nat.ble_eq.mp h
  · exact Nat.ble_eq.mp h
  · cases h
  · cases h
  · cases h
  · cases h
  · cases h
  · unfold xk_L
    split <;> first | trivial | (exfalso; simp_all)
def xk_pn (y : MethodName) (n : Nat) : Bool := decide ((parseMethodDescriptor y.desc).map (fun d => d.parameters.length) = some n)
/-- a callee's own words: of kind 0 called by its object, 1 a constructor, 2 static, 4 static with handlers -/
def xk_yw (d : xd_D) (k : Nat) : List Cond := match k with
  | 0 => [.code d.2.1 d.2.2.1 d.2.2.2.1 d.2.2.2.2.1, .initialized d.2.1.cls, .instanceMethod d.2.1, .selects d.2.1.cls d.2.1 d.2.1]
  | 1 => [.code d.2.1 d.2.2.1 d.2.2.2.1 d.2.2.2.2.1, .initialized d.2.1.cls, .instanceMethod d.2.1]
  | 2 => [.code d.2.1 d.2.2.1 d.2.2.2.1 d.2.2.2.2.1, .initialized d.2.1.cls, .static d.2.1]
  | 4 => [.codeWith d.2.1 d.2.2.1 d.2.2.2.1 d.2.2.2.2.1 d.2.2.2.2.2.2.2, .initialized d.2.1.cls, .static d.2.1]
  | _ => []
def xk_yb (M : xe_M) (d : xd_D) (q : Nat × Nat × Nat) : Bool := Nat.ble d.2.2.2.1 21 && Nat.beq d.2.2.2.1 M.2.1 && plainName d.2.1.cls && decide (d.2.1.cls = d.1) && decide (d.2.1.cls ≠ "java/lang/invoke/MethodHandle") && decide (d.2.1.cls ≠ "java/lang/invoke/VarHandle") && xk_pn d.2.1 q.2.1 && match q.1 with
  | 0 => d.2.2.2.2.2.2.2.isEmpty && decide (vwCl[q.2.2]?.map (fun z => z.1) = some d.2.1.cls)
  | 1 => d.2.2.2.2.2.2.2.isEmpty && decide (d.2.2.2.2.1 = none) && decide (d.2.1.name = "<init>")
  | 2 => d.2.2.2.2.2.2.2.isEmpty
  | 4 => true
  | _ => false
def xk_Y (M : xe_M) (d : xd_D) (q : Nat × Nat × Nat) : Prop := q.1 = 9 ∨ ((∀ w ∈ xk_yw d q.1, w ∈ xw_T) ∧ xk_yb M d q = true)
theorem xk_Y9 {M : xe_M} {d : xd_D} {n c : Nat} : xk_Y M d (9, n, c) := Or.inl rfl
theorem xk_Y1 {M : xe_M} {d : xd_D} {q : Nat × Nat × Nat} {ps : List Nat} (h : (xk_pl (xk_yw d q.1) ps && xk_yb M d q) = true) : xk_Y M d q := by
  rw [Bool.and_eq_true] at h
  exact Or.inr ⟨xk_pl_ok h.1, h.2⟩
def xk_YP (l1 : List xe_M) (l2 : List xd_D) (l3 : List (Nat × Nat × Nat)) : Prop := ∀ (j : Nat) (M : xe_M) (d : xd_D) (q : Nat × Nat × Nat), l1[j]? = some M → l2[j]? = some d → l3[j]? = some q → xk_Y M d q
theorem xk_Yn : xk_YP [] [] [] := fun j M d q h => by simp at h
theorem xk_Yc {a : xe_M} {b : xd_D} {c : Nat × Nat × Nat} {t : List xe_M} {u : List xd_D} {v : List (Nat × Nat × Nat)} (h : xk_Y a b c) (ht : xk_YP t u v) : xk_YP (a :: t) (b :: u) (c :: v) := by
  intro j M d q hM hd hq
  cases j with
  | zero =>
    have e1 : a = M := by simpa using hM
    have e2 : b = d := by simpa using hd
    have e3 : c = q := by simpa using hq
    subst e1; subst e2; subst e3
    exact h
  | succ j => exact ht j M d q (by simpa using hM) (by simpa using hd) (by simpa using hq)
