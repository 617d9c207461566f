noncomputable def xk_Callb (o : Nat) (d : xd_D) (i : Instr) (len y n kd : Nat) : Bool := match xe_nth xd_P y, xe_nth xd_K y with
  | some d', some q => Nat.beq len 3 && Nat.ble (d'.2.2.2.2.2.2.1 + 1) d.2.2.2.2.2.2.1 && match i with
    | .invokevirtual idx => Nat.beq q.1 0 && Nat.beq n (q.2.1 + 1) && Nat.beq kd (q.2.2 + 10) && xk_l2 (xj o) idx y
    | .invokespecial idx => Nat.beq q.1 1 && Nat.beq n (q.2.1 + 1) && ((Nat.beq kd 1 && xk_l2 (xj o) idx y) || (Nat.beq kd 3 && (decide ((d.1, idx, d'.2.1) = ("TingDecks", 29, yX5_init)) || decide ((d.1, idx, d'.2.1) = ("TingDecks$Trip", 11, yX4_init)) || decide ((d.1, idx, d'.2.1) = ("TingDecks", 60, yX2_init)) || decide ((d.1, idx, d'.2.1) = ("TingDecks", 67, yX1_init)))))
    | .invokestatic idx => Nat.beq n q.2.1 && xk_l2 (xj o) idx y && ((Nat.beq kd 2 && Nat.beq q.1 2) || (Nat.beq kd 4 && Nat.beq q.1 4))
    | _ => false
  | _, _ => false
theorem xk_dy_eq {y : Nat} {d : xd_D} (h : xd_P[y]? = some d) : xk_dy y = d := by unfold xk_dy; rw [h]
theorem xk_Callb_ok {o : Nat} {d : xd_D} {i : Instr} {len y n kd : Nat} (ho : d.1 = xo_n o) (h : xk_Callb o d i len y n kd = true) : xk_Call d i len y n kd := by
  unfold xk_Callb at h
  rw [xe_nth_eq, xe_nth_eq] at h
  split at h
  · next d' q hd hq =>
    have hlt : y < xe_P.length := by
      have h1 := (List.getElem?_eq_some_iff.mp hd).1
      have h2 : xe_P.length = xd_P.length := rfl
      rw [h2]; exact h1
    have hM : xe_P[y]? = some xe_P[y] := List.getElem?_eq_getElem hlt
    generalize xe_P[y] = M' at hM
    simp only [Bool.and_eq_true, Nat.ble_eq] at h
    obtain ⟨⟨c1, c2⟩, h⟩ := h
    have c1 := Nat.eq_of_beq_eq_true c1
    have hY := xk_Yall y M' d' q hM hd hq
    have hyd := xk_dy_eq hd
    obtain ⟨k, np, ci⟩ := q
    split at h
    · next idx =>
      simp only [Bool.and_eq_true] at h
      obtain ⟨⟨⟨g1, g2⟩, g3⟩, g4⟩ := h
      have e := Nat.eq_of_beq_eq_true g1
      subst e
      have g2 := Nat.eq_of_beq_eq_true g2
      have g3 := Nat.eq_of_beq_eq_true g3
      have g4 := xj_ok o _ (xk_l2_ok g4)
      unfold xk_mw at g4
      rw [hyd, ← ho] at g4
      rcases hY with hY | ⟨hw, hb⟩
      · cases hY
      simp only [xk_yb, xk_pn, Bool.and_eq_true, decide_eq_true_eq, Nat.ble_eq, List.isEmpty_iff] at hb
      obtain ⟨⟨⟨⟨⟨⟨⟨b1, b2⟩, b3⟩, b4⟩, b5⟩, b6⟩, b7⟩, b8, b9⟩ := hb
      obtain ⟨q, hq9, hq8⟩ := Option.map_eq_some_iff.mp b9
      exact Or.inl ⟨M', d', hM, hd, c1, c2, b1, Nat.eq_of_beq_eq_true b2, b8, b3, b4, b5, b6, hw _ (by simp [xk_yw]), hw _ (by simp [xk_yw]), Or.inl ⟨idx, np, ci, q, rfl, g3, g2, hq9, hq8, b7, g4, hw _ (by simp [xk_yw]), hw _ (by simp [xk_yw])⟩⟩
    · next idx =>
      simp only [Bool.and_eq_true, Bool.or_eq_true, decide_eq_true_eq] at h
      obtain ⟨⟨g1, g2⟩, g8⟩ := h
      have e := Nat.eq_of_beq_eq_true g1
      subst e
      have g2 := Nat.eq_of_beq_eq_true g2
      rcases hY with hY | ⟨hw, hb⟩
      · cases hY
      simp only [xk_yb, xk_pn, Bool.and_eq_true, decide_eq_true_eq, Nat.ble_eq, List.isEmpty_iff] at hb
      obtain ⟨⟨⟨⟨⟨⟨⟨b1, b2⟩, b3⟩, b4⟩, b5⟩, b6⟩, b7⟩, ⟨b8, b9⟩, b10⟩ := hb
      refine Or.inl ⟨M', d', hM, hd, c1, c2, b1, Nat.eq_of_beq_eq_true b2, b8, b3, b4, b5, b6, hw _ (by simp [xk_yw]), hw _ (by simp [xk_yw]), ?_⟩
      rcases g8 with ⟨k1, k2⟩ | ⟨k1, k2⟩
      · have k2 := xj_ok o _ (xk_l2_ok k2)
        unfold xk_mw at k2
        rw [hyd, ← ho] at k2
        exact Or.inr (Or.inl ⟨idx, np, rfl, Nat.eq_of_beq_eq_true k1, g2, b9, b7, b10, k2, hw _ (by simp [xk_yw])⟩)
      · refine Or.inr (Or.inr (Or.inr ⟨idx, np, rfl, Nat.eq_of_beq_eq_true k1, g2, b9, b7, b10, hw _ (by simp [xk_yw]), ?_⟩))
        rcases k2 with ((k2 | k2) | k2) | k2
        · exact Or.inl k2
        · exact Or.inr (Or.inl k2)
        · exact Or.inr (Or.inr (Or.inl k2))
        · exact Or.inr (Or.inr (Or.inr k2))
    · next idx =>
      simp only [Bool.and_eq_true, Bool.or_eq_true] at h
      obtain ⟨⟨g1, g2⟩, g4⟩ := h
      have g1 := Nat.eq_of_beq_eq_true g1
      have g2 := xj_ok o _ (xk_l2_ok g2)
      unfold xk_mw at g2
      rw [hyd, ← ho] at g2
      rcases g4 with ⟨k1, k2⟩ | ⟨k1, k2⟩
      · have e := Nat.eq_of_beq_eq_true k2
        subst e
        rcases hY with hY | ⟨hw, hb⟩
        · cases hY
        simp only [xk_yb, xk_pn, Bool.and_eq_true, decide_eq_true_eq, Nat.ble_eq, List.isEmpty_iff] at hb
        obtain ⟨⟨⟨⟨⟨⟨⟨b1, b2⟩, b3⟩, b4⟩, b5⟩, b6⟩, b7⟩, b8⟩ := hb
        rw [g1]
        exact Or.inl ⟨M', d', hM, hd, c1, c2, b1, Nat.eq_of_beq_eq_true b2, b8, b3, b4, b5, b6, hw _ (by simp [xk_yw]), hw _ (by simp [xk_yw]), Or.inr (Or.inr (Or.inl ⟨idx, rfl, Nat.eq_of_beq_eq_true k1, b7, g2, hw _ (by simp [xk_yw])⟩))⟩
      · have e := Nat.eq_of_beq_eq_true k2
        subst e
        rcases hY with hY | ⟨hw, hb⟩
        · cases hY
        simp only [xk_yb, xk_pn, Bool.and_eq_true, decide_eq_true_eq, Nat.ble_eq, List.isEmpty_iff] at hb
        obtain ⟨⟨⟨⟨⟨⟨⟨b1, b2⟩, b3⟩, b4⟩, b5⟩, b6⟩, b7⟩, -⟩ := hb
        rw [g1]
        exact Or.inr ⟨M', d', hM, hd, c1, c2, b1, Nat.eq_of_beq_eq_true b2, b3, b4, b5, b6, hw _ (by simp [xk_yw]), hw _ (by simp [xk_yw]), Nat.eq_of_beq_eq_true k1, idx, rfl, b7, g2, hw _ (by simp [xk_yw])⟩
    · cases h
  · cases h
def xk_strOf (is : Nat) : String := match xw_Str.find? (fun q => Nat.beq q.1 is) with
  | some q => q.2
  | none => ""
def xk_strb (is : Nat) : Bool := (xw_Str.find? (fun q => Nat.beq q.1 is)).isSome
theorem xk_strb_ok {is : Nat} (h : xk_strb is = true) : (is, xk_strOf is) ∈ xw_Str := by
  unfold xk_strb at h
  obtain ⟨q, hq⟩ := Option.isSome_iff_exists.mp h
  have h1 := List.find?_some hq
  have h2 := List.mem_of_find?_eq_some hq
  have e1 := Nat.eq_of_beq_eq_true h1
  unfold xk_strOf
  rw [hq, ← e1]
  exact h2
def xk_thw (k ik ic : Nat) : Bool := xk_has (.classLink "TingDecks" ik (xd_ex k)) && xk_has (.initialized (xd_ex k)) && (Cond.classLink "TingDecks" ik (xd_ex k) :: Cond.initialized (xd_ex k) :: xd_at k ic).all vx_ot && (xd_at k ic).all (fun w => decide (w ∈ xw_N) || xk_has w)
theorem xk_th0 : xk_thw 0 xk_ik0.1 xk_ik0.2 = true := by decide +kernel
theorem xk_th1 : xk_thw 1 xk_ik1.1 xk_ik1.2 = true := by decide +kernel
def xk_ikb (k ik ic : Nat) : Bool := (Nat.beq k 0 && Nat.beq ik xk_ik0.1 && Nat.beq ic xk_ik0.2) || (Nat.beq k 1 && Nat.beq ik xk_ik1.1 && Nat.beq ic xk_ik1.2)
theorem xk_ikb_ok {k ik ic : Nat} (h : xk_ikb k ik ic = true) : k < 2 ∧ xk_thw k ik ic = true := by
  simp only [xk_ikb, Bool.and_eq_true, Bool.or_eq_true] at h
  rcases h with ⟨⟨h1, h2⟩, h3⟩ | ⟨⟨h1, h2⟩, h3⟩
  · rw [Nat.eq_of_beq_eq_true h1, Nat.eq_of_beq_eq_true h2, Nat.eq_of_beq_eq_true h3]
    exact ⟨by omega, xk_th0⟩
  · rw [Nat.eq_of_beq_eq_true h1, Nat.eq_of_beq_eq_true h2, Nat.eq_of_beq_eq_true h3]
    exact ⟨by omega, xk_th1⟩
def xk_Thrb (o : Nat) (d : xd_D) (pc : Nat) (i : Instr) (k is ic x : Nat) : Bool := match i with
  | .new ik => Nat.beq o 8 && d.2.2.2.2.2.2.2.isEmpty && decide (decode d.2.2.1 (pc + 3) = .ok (.dup, 1)) && xk_strb is && xk_ikb k ik ic &&
      ((Nat.beq x 2 && decide (decode d.2.2.1 (pc + 4) = .ok (.ldc is, 2)) && decide (decode d.2.2.1 (pc + 6) = .ok (.invokespecial ic, 3)) && decide (decode d.2.2.1 (pc + 9) = .ok (.athrow, 1))) || (Nat.beq x 3 && decide (decode d.2.2.1 (pc + 4) = .ok (.ldc_w is, 3)) && decide (decode d.2.2.1 (pc + 7) = .ok (.invokespecial ic, 3)) && decide (decode d.2.2.1 (pc + 10) = .ok (.athrow, 1))))
  | _ => false
theorem xk_Thrb_ok {o : Nat} {d : xd_D} {pc : Nat} {i : Instr} {k is ic x : Nat} (ho : d.1 = xo_n o) (h : xk_Thrb o d pc i k is ic x = true) : xk_Thr d pc i k is ic x := by
  unfold xk_Thrb at h
  split at h
  · next ik =>
    simp only [Bool.and_eq_true, Bool.or_eq_true, decide_eq_true_eq, List.isEmpty_iff] at h
    obtain ⟨⟨⟨⟨⟨g1, g2⟩, g4⟩, g5⟩, g6⟩, g10⟩ := h
    have e := Nat.eq_of_beq_eq_true g1
    subst e
    obtain ⟨g3, g6⟩ := xk_ikb_ok g6
    simp only [xk_thw, Bool.and_eq_true] at g6
    obtain ⟨⟨⟨g6, g7⟩, g8⟩, g9⟩ := g6
    refine ⟨ho, g2, g3, g4, ⟨ik, _, rfl, xk_strb_ok g5, xk_has_in g6, xk_has_in g7, fun w hw => List.all_eq_true.mp g8 w hw⟩, fun w hw => ?_, ?_⟩
    · have h1 := List.all_eq_true.mp g9 w hw
      rw [Bool.or_eq_true, decide_eq_true_eq] at h1
      exact h1.elim Or.inr (fun z => Or.inl (xk_has_in z))
    · rcases g10 with ⟨⟨⟨k1, k2⟩, k3⟩, k4⟩ | ⟨⟨⟨k1, k2⟩, k3⟩, k4⟩
      · exact Or.inl ⟨Nat.eq_of_beq_eq_true k1, k2, k3, k4⟩
      · exact Or.inr ⟨Nat.eq_of_beq_eq_true k1, k2, k3, k4⟩
  · cases h
theorem xk_ob1 : Cond.instanceMethod Lib.objectInit ∈ xw_T := xk_has_in (by decide +kernel)
theorem xk_ob2 : Cond.code Lib.objectInit ⟨#[0xb1]⟩ 1 none ∈ xw_T := xk_has_in (by decide +kernel)
theorem xk_ac1 : Cond.native arraycopyName ∈ xw_T := xk_has_in (by decide +kernel)
theorem xk_ac2 : Cond.static arraycopyName ∈ xw_T := xk_has_in (by decide +kernel)
theorem xk_ac3 : Cond.initialized "java/lang/System" ∈ xw_T := xk_has_in (by decide +kernel)
theorem xk_mi0 : Cond.initialized "java/lang/Math" ∈ xw_T := xk_has_in (by decide +kernel)
theorem xk_mx1 : Cond.static Lib.Math.max.name ∈ xw_T := xk_has_in (by decide +kernel)
theorem xk_mx2 : Cond.code Lib.Math.max.name Lib.Math.max.code 2 (some .int) ∈ xw_T := xk_has_in (by decide +kernel)
theorem xk_mi1 : Cond.static Lib.Math.min.name ∈ xw_T := xk_has_in (by decide +kernel)
theorem xk_mi2 : Cond.code Lib.Math.min.name Lib.Math.min.code 2 (some .int) ∈ xw_T := xk_has_in (by decide +kernel)
def xk_Zb (d : xd_D) : Bool := decide (decode d.2.2.1 2 = .ok (.iload_n 3, 1)) && decide (decode d.2.2.1 3 = .ok (.aload_n 1, 1)) && decide (decode d.2.2.1 4 = .ok (.arraylength, 1)) && decide (decode d.2.2.1 5 = .ok (.if_icmp .ge 15, 3)) && decide (decode d.2.2.1 8 = .ok (.aload_n 2, 1)) && decide (decode d.2.2.1 9 = .ok (.iload_n 3, 1)) && decide (decode d.2.2.1 10 = .ok (.aload_n 1, 1)) && decide (decode d.2.2.1 11 = .ok (.iload_n 3, 1)) && decide (decode d.2.2.1 12 = .ok (.iaload, 1)) && decide (decode d.2.2.1 13 = .ok (.iastore, 1)) && decide (decode d.2.2.1 14 = .ok (.iinc 3 1, 3)) && decide (decode d.2.2.1 17 = .ok (.goto (-15), 3)) && Nat.blt 3 d.2.2.2.1
theorem xk_Zb_ok {d : xd_D} (h : xk_Zb d = true) : xk_Z d := by
  unfold xk_Zb at h
  simp only [Bool.and_eq_true, decide_eq_true_eq] at h
  obtain ⟨⟨⟨⟨⟨⟨⟨⟨⟨⟨⟨⟨h1, h2⟩, h3⟩, h4⟩, h5⟩, h6⟩, h7⟩, h8⟩, h9⟩, h10⟩, h11⟩, h12⟩, h13⟩ := h
  exact ⟨h1, h2, h3, h4, h5, h6, h7, h8, h9, h10, h11, h12, Nat.ble_eq.mp h13⟩
noncomputable def xk_Eb (o : Nat) (d : xd_D) (e : xe_I) : Bool := match e.2.2.2 with
  | [0, y, n, kd] => xk_Callb o d e.2.1 e.2.2.1 y n kd
  | [1, k, is, ic, x] => Nat.beq e.2.2.1 3 && xk_Thrb o d e.1 e.2.1 k is ic x
  | [2] => match e.2.1 with
    | .invokespecial idx => Nat.beq e.2.2.1 3 && xk_l1 (xi o) idx
    | _ => false
  | [3] => match e.2.1 with
    | .invokestatic idx => Nat.beq e.2.2.1 3 && xk_l1 (xa o) idx
    | _ => false
  | [4] => match e.2.1 with
    | .invokevirtual idx => Nat.beq e.2.2.1 3 && xk_has (.methodLink d.1 idx xd_cl) && xk_has (.sameMethod "[I" "java/lang/Object" "clone" "()Ljava/lang/Object;") && xk_has (.native xd_oc) && xk_has (.instanceMethod xd_oc) && xk_has (.selects "[I" xd_cl xd_oc)
    | _ => false
  | [5] => match e.2.1 with
    | .checkcast idx => xk_has (.classLink d.1 idx "[I")
    | _ => false
  | [6] => match e.2.1 with
    | .invokestatic idx => Nat.beq e.2.2.1 3 && xk_has (.methodLink d.1 idx Lib.Math.max.name)
    | _ => false
  | [7] => match e.2.1 with
    | .invokestatic idx => Nat.beq e.2.2.1 3 && xk_has (.methodLink d.1 idx Lib.Math.min.name)
    | _ => false
  | [8] => Nat.beq e.1 2 && decide (e.2.1 = .iload_n 3) && Nat.beq e.2.2.1 1 && xk_Zb d
  | res => Nat.beq e.2.2.1 (xk_ln e.2.1 e.2.2.1) && xk_Lb o d.2.2.2.1 d.2.2.2.2.2.1 e.2.1 res
theorem xk_Eb_ok {o : Nat} {d : xd_D} {e : xe_I} (ho : d.1 = xo_n o) (h : xk_Eb o d e = true) : xk_E d e := by
  obtain ⟨pc, i, len, res⟩ := e
  unfold xk_Eb at h
  unfold xk_E
  dsimp only at h ⊢
  split at h
  · exact xk_Callb_ok ho h
  · rw [Bool.and_eq_true] at h
    exact ⟨Nat.eq_of_beq_eq_true h.1, xk_Thrb_ok ho h.2⟩
  · split at h
    · next idx =>
      simp only [Bool.and_eq_true] at h
      exact ⟨idx, rfl, Nat.eq_of_beq_eq_true h.1, by rw [ho]; exact xi_ok o _ (xk_l1_ok h.2), xk_ob1, xk_ob2⟩
    · cases h
  · split at h
    · next idx =>
      simp only [Bool.and_eq_true] at h
      exact ⟨idx, rfl, Nat.eq_of_beq_eq_true h.1, by rw [ho]; exact xa_ok o _ (xk_l1_ok h.2), xk_ac1, xk_ac2, xk_ac3⟩
    · cases h
  · split at h
    · next idx =>
      simp only [Bool.and_eq_true] at h
      obtain ⟨⟨⟨⟨⟨h1, h2⟩, h3⟩, h4⟩, h5⟩, h6⟩ := h
      exact ⟨idx, rfl, Nat.eq_of_beq_eq_true h1, xk_has_in h2, xk_has_in h3, xk_has_in h4, xk_has_in h5, xk_has_in h6⟩
    · cases h
  · split at h
    · next idx => exact ⟨idx, rfl, xk_has_in h⟩
    · cases h
  · split at h
    · next idx =>
      simp only [Bool.and_eq_true] at h
      exact ⟨idx, rfl, Nat.eq_of_beq_eq_true h.1, xk_has_in h.2, xk_mx1, xk_mi0, xk_mx2⟩
    · cases h
  · split at h
    · next idx =>
      simp only [Bool.and_eq_true] at h
      exact ⟨idx, rfl, Nat.eq_of_beq_eq_true h.1, xk_has_in h.2, xk_mi1, xk_mi0, xk_mi2⟩
    · cases h
  · simp only [Bool.and_eq_true, decide_eq_true_eq] at h
    exact ⟨Nat.eq_of_beq_eq_true h.1.1.1, h.1.1.2, Nat.eq_of_beq_eq_true h.1.2, xk_Zb_ok h.2⟩
  · next n1 n2 n3 n4 n5 n6 n7 n8 n9 =>
    rw [Bool.and_eq_true] at h
    have h2 : len = xk_ln i len ∧ xk_L d.1 d.2.2.2.1 d.2.2.2.2.2.1 i res := ⟨Nat.eq_of_beq_eq_true h.1, by rw [ho]; exact xk_Lb_ok h.2⟩
    split
    · exact absurd rfl (n1 _ _ _)
    · exact absurd rfl (n2 _ _ _ _)
    · exact absurd rfl n3
    · exact absurd rfl n4
    · exact absurd rfl n5
    · exact absurd rfl n6
    · exact absurd rfl n7
    · exact absurd rfl n8
    · exact absurd rfl n9
    · exact h2
def xk_retb (k : Nat) (r : Option FieldType) : Bool := match k, r with
  | 0, none => true
  | 1, some .int => true
  | 2, some .long => true
  | 3, some (.object _) => true
  | 4, some .boolean => true
  | _, _ => false
theorem xk_retb_ok {k : Nat} {r : Option FieldType} (h : xk_retb k r = true) : xk_ret k r := by
  unfold xk_retb at h
  split at h
  · exact Or.inl ⟨rfl, rfl⟩
  · exact Or.inr (Or.inl ⟨rfl, rfl⟩)
  · exact Or.inr (Or.inr (Or.inl ⟨rfl, rfl⟩))
  · exact Or.inr (Or.inr (Or.inr (Or.inl ⟨rfl, _, rfl⟩)))
  · exact Or.inr (Or.inr (Or.inr (Or.inr ⟨rfl, rfl⟩)))
  · cases h
noncomputable def xk_hb (o : Nat) (a b : Nat × Nat × Nat × Nat) : Bool := Nat.beq a.1 b.1 && Nat.beq a.2.1 b.2.1 && Nat.beq a.2.2.1 b.2.2.1 && Nat.blt a.2.2.2 2 && !(Nat.beq b.2.2.2 0) && decide ((o, b.2.2.2, a.2.2.2) ∈ xhk)
noncomputable def xk_hhb (o : Nat) : List (Nat × Nat × Nat × Nat) → List (Nat × Nat × Nat × Nat) → Bool
  | [], [] => true
  | a :: t, b :: u => xk_hb o a b && xk_hhb o t u
  | _, _ => false
theorem xk_hhb_ok {o : Nat} : ∀ (l1 l2 : List (Nat × Nat × Nat × Nat)), xk_hhb o l1 l2 = true → l1.length = l2.length ∧ ∀ (j : Nat) (a b : Nat × Nat × Nat × Nat), l1[j]? = some a → l2[j]? = some b → a.1 = b.1 ∧ a.2.1 = b.2.1 ∧ a.2.2.1 = b.2.2.1 ∧ a.2.2.2 < 2 ∧ b.2.2.2 ≠ 0 ∧ Cond.classLink (xo_n o) b.2.2.2 (xd_ex a.2.2.2) ∈ xw_T := by
  intro l1
  induction l1 with
  | nil =>
    intro l2 h
    cases l2 with
    | nil => exact ⟨rfl, fun j a b h1 => by simp at h1⟩
    | cons b u => simp [xk_hhb] at h
  | cons a t ih =>
    intro l2 h
    cases l2 with
    | nil => simp [xk_hhb] at h
    | cons b u =>
      have h : (xk_hb o a b && xk_hhb o t u) = true := by simpa only [xk_hhb] using h
      rw [Bool.and_eq_true] at h
      obtain ⟨h1, h2⟩ := ih u h.2
      refine ⟨by rw [List.length_cons, List.length_cons, h1], fun j x y hx hy => ?_⟩
      cases j with
      | zero =>
        have e1 : a = x := by simpa using hx
        have e2 : b = y := by simpa using hy
        subst e1; subst e2
        have h3 := h.1
        simp only [xk_hb, Bool.and_eq_true, Bool.not_eq_true', decide_eq_true_eq] at h3
        obtain ⟨⟨⟨⟨⟨k1, k2⟩, k3⟩, k4⟩, k5⟩, k6⟩ := h3
        exact ⟨Nat.eq_of_beq_eq_true k1, Nat.eq_of_beq_eq_true k2, Nat.eq_of_beq_eq_true k3, Nat.ble_eq.mp k4, (fun z => by rw [z] at k5; cases k5), xhk_ok _ k6⟩
      | succ j => exact h2 j x y (by simpa using hx) (by simpa using hy)
noncomputable def xk_eb (o : Nat) (d : xd_D) (e : xe_I) : Bool := decide (decode d.2.2.1 e.1 = .ok (e.2.1, e.2.2.1)) && xk_Eb o d e
noncomputable def xk_mh (o : Nat) (M : xe_M) (d : xd_D) : Bool := decide (d.1 = xo_n o) && xk_retb M.2.2.1 d.2.2.2.2.1 && (!d.2.2.2.2.2.1 || decide (d.2.1.name = "<init>")) && xk_hhb o M.2.2.2.2.2 d.2.2.2.2.2.2.2
theorem xk_mb_ok (o : Nat) {M : xe_M} {d : xd_D} (h : xk_mh o M d = true) (hh : ∀ e ∈ M.1, xk_eb o d e = true) : xk_Meth M d := by
  unfold xk_mh at h
  simp only [Bool.and_eq_true, Bool.or_eq_true, decide_eq_true_eq] at h
  obtain ⟨⟨⟨h0, h2⟩, h3⟩, h4⟩ := h
  refine ⟨fun e he => ?_, xk_retb_ok h2, fun z => ?_, ?_⟩
  · have h5 := hh e he
    unfold xk_eb at h5
    rw [Bool.and_eq_true, decide_eq_true_eq] at h5
    exact ⟨h5.1, xk_Eb_ok h0 h5.2⟩
  · rw [z] at h3
    rcases h3 with h3 | h3
    · cases h3
    · exact h3
  · have h5 := xk_hhb_ok _ _ h4
    unfold xk_hh
    rw [h0]
    exact h5
noncomputable def xk_bb (o : Nat) (d : xd_D) (l : List xe_I) : Bool := List.rec (motive := fun _ => Bool) true (fun e _ ih => xk_eb o d e && ih) l
theorem xk_bb_ok {o : Nat} {d : xd_D} {l : List xe_I} (h : xk_bb o d l = true) : ∀ e ∈ l, xk_eb o d e = true := by
  induction l with
  | nil => intro e he; cases he
  | cons a t ih =>
    have h : (xk_eb o d a && xk_bb o d t) = true := h
    rw [Bool.and_eq_true] at h
    intro e he
    rcases List.mem_cons.mp he with rfl | he
    · exact h.1
    · exact ih h.2 e he
theorem xk_one (o : Nat) {M : xe_M} {d : xd_D} (h : (xk_mh o M d && xk_bb o d M.1) = true) : xk_Meth M d := by
  rw [Bool.and_eq_true] at h
  exact xk_mb_ok o h.1 (xk_bb_ok h.2)
def xk_allP (l1 : List xe_M) (l2 : List xd_D) : Prop := ∀ (j : Nat) (M : xe_M) (d : xd_D), l1[j]? = some M → l2[j]? = some d → xk_Meth M d
theorem xk_nil : xk_allP [] [] := fun j M d h => by simp at h
theorem xk_cons {a : xe_M} {b : xd_D} {t : List xe_M} {u : List xd_D} (h : xk_Meth a b) (ht : xk_allP t u) : xk_allP (a :: t) (b :: u) := by
  intro j M d hM hd
  cases j with
  | zero =>
    have e1 : a = M := by simpa using hM
    have e2 : b = d := by simpa using hd
    subst e1; subst e2
    exact h
  | succ j => exact ht j M d (by simpa using hM) (by simpa using hd)
