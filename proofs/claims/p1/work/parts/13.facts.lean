/-! the words that every method is given: all good ones of the tables -/
def xw_T : List Cond := lw_tbl.filter goodWord
theorem xw_in {w : Cond} (h : w ∈ lw_tbl) (g : goodWord w = true) : w ∈ xw_T := List.mem_filter.mpr ⟨h, g⟩
theorem xw_tb {w : Cond} (h : w ∈ xw_T) : w ∈ lw_tbl := (List.mem_filter.mp h).1
theorem xw_good {w : Cond} (h : w ∈ xw_T) : goodWord w = true := (List.mem_filter.mp h).2
def xk_has (w : Cond) : Bool := decide (w ∈ lw_tbl) && goodWord w
theorem xk_has_in {w : Cond} (h : xk_has w = true) : w ∈ xw_T := by
  simp only [xk_has, Bool.and_eq_true, decide_eq_true_eq] at h
  exact xw_in h.1 h.2
theorem xk_u {C : String} {T : u_T} {N : Nat} (h1 : ∀ w ∈ u_ws C T N, w ∈ lw_tbl) (h2 : (u_ws C T N).all goodWord = true) : ∀ w ∈ u_ws C T N, w ∈ xw_T := fun w h => xw_in (h1 w h) (List.all_eq_true.mp h2 w h)
theorem xk_u0 : ∀ w ∈ u_ws RX0 TX0 14, w ∈ xw_T := xk_u (by decide +kernel) (by decide +kernel)
theorem xk_z0 : ∀ j, j < 14 → defaultValue (tyX0 j) = vp_V (xe_Z.getD 0 []) j := by decide +kernel
theorem xk_u1 : ∀ w ∈ u_ws RX1 TX1 6, w ∈ xw_T := xk_u (by decide +kernel) (by decide +kernel)
theorem xk_z1 : ∀ j, j < 6 → defaultValue (tyX1 j) = vp_V (xe_Z.getD 1 []) j := by decide +kernel
theorem xk_u2 : ∀ w ∈ u_ws RX2 TX2 4, w ∈ xw_T := xk_u (by decide +kernel) (by decide +kernel)
theorem xk_z2 : ∀ j, j < 4 → defaultValue (tyX2 j) = vp_V (xe_Z.getD 2 []) j := by decide +kernel
theorem xk_u3 : ∀ w ∈ u_ws RX3 TX3 6, w ∈ xw_T := xk_u (by decide +kernel) (by decide +kernel)
theorem xk_z3 : ∀ j, j < 6 → defaultValue (tyX3 j) = vp_V (xe_Z.getD 3 []) j := by decide +kernel
theorem xk_u4 : ∀ w ∈ u_ws RX4 TX4 2, w ∈ xw_T := xk_u (by decide +kernel) (by decide +kernel)
theorem xk_z4 : ∀ j, j < 2 → defaultValue (tyX4 j) = vp_V (xe_Z.getD 4 []) j := by decide +kernel
theorem xk_u5 : ∀ w ∈ u_ws RX5 TX5 11, w ∈ xw_T := xk_u (by decide +kernel) (by decide +kernel)
theorem xk_z5 : ∀ j, j < 11 → defaultValue (tyX5 j) = vp_V (xe_Z.getD 5 []) j := by decide +kernel
theorem xk_u6 : ∀ w ∈ u_ws RX6 TX6 6, w ∈ xw_T := xk_u (by decide +kernel) (by decide +kernel)
theorem xk_z6 : ∀ j, j < 6 → defaultValue (tyX6 j) = vp_V (xe_Z.getD 6 []) j := by decide +kernel
theorem xk_u7 : ∀ w ∈ u_ws RX7 TX7 21, w ∈ xw_T := xk_u (by decide +kernel) (by decide +kernel)
theorem xk_z7 : ∀ j, j < 21 → defaultValue (tyX7 j) = vp_V (xe_Z.getD 7 []) j := by decide +kernel
theorem xk_u8 : ∀ w ∈ u_ws RX8 TX8 17, w ∈ xw_T := xk_u (by decide +kernel) (by decide +kernel)
theorem xk_z8 : ∀ j, j < 17 → defaultValue (tyX8 j) = vp_V (xe_Z.getD 8 []) j := by decide +kernel
theorem xk_u9 : ∀ w ∈ u_ws RX9 TX9 83, w ∈ xw_T := xk_u (by decide +kernel) (by decide +kernel)
theorem xk_z9 : ∀ j, j < 83 → defaultValue (tyX9 j) = vp_V (xe_Z.getD 9 []) j := by decide +kernel
/-- what is known of a class of the list -/
def xk_C (ci : Nat) (C : String) (T : u_T) (N : Nat) (ty : Nat → FieldType) : Prop := vwCl[ci]? = some (C, T, N) ∧ (∀ w ∈ u_ws C T N, w ∈ xw_T) ∧ (∀ k, k < N → parseFieldDescriptor (T k).2.2.1 = some (ty k)) ∧ (∀ a, a < N → ∀ b, b < N → a ≠ b → (T a).2.1 ≠ (T b).2.1) ∧ (∀ j, j < N → defaultValue (ty j) = vp_V (xe_Z.getD ci []) j)
theorem xk_cls (ci : Nat) (q : vw_C) (h : vwCl[ci]? = some q) : ∃ ty : Nat → FieldType, xk_C ci q.1 q.2.1 q.2.2 ty := by
  match ci, h with
  | 0, h => cases h; exact ⟨tyX0, rfl, xk_u0, tyX0_ok, nmX0, xk_z0⟩
  | 1, h => cases h; exact ⟨tyX1, rfl, xk_u1, tyX1_ok, nmX1, xk_z1⟩
  | 2, h => cases h; exact ⟨tyX2, rfl, xk_u2, tyX2_ok, nmX2, xk_z2⟩
  | 3, h => cases h; exact ⟨tyX3, rfl, xk_u3, tyX3_ok, nmX3, xk_z3⟩
  | 4, h => cases h; exact ⟨tyX4, rfl, xk_u4, tyX4_ok, nmX4, xk_z4⟩
  | 5, h => cases h; exact ⟨tyX5, rfl, xk_u5, tyX5_ok, nmX5, xk_z5⟩
  | 6, h => cases h; exact ⟨tyX6, rfl, xk_u6, tyX6_ok, nmX6, xk_z6⟩
  | 7, h => cases h; exact ⟨tyX7, rfl, xk_u7, tyX7_ok, nmX7, xk_z7⟩
  | 8, h => cases h; exact ⟨tyX8, rfl, xk_u8, tyX8_ok, nmX8, xk_z8⟩
  | 9, h => cases h; exact ⟨tyX9, rfl, xk_u9, tyX9_ok, nmX9, xk_z9⟩
  | k + 10, h => simp [vwCl] at h
/-- words that aren't good ones: what a throw needs, and a catch -/
def xw_N : List Cond := [.castable "java/lang/IllegalArgumentException" "java/lang/IllegalArgumentException", .castable "java/util/NoSuchElementException" "java/util/NoSuchElementException", .declares ⟨"java/lang/RuntimeException", "<init>", "()V"⟩, .declares ⟨"java/lang/RuntimeException", "<init>", "(Ljava/lang/String;)V"⟩, .declares ⟨"java/lang/Exception", "<init>", "()V"⟩, .declares ⟨"java/lang/Exception", "<init>", "(Ljava/lang/String;)V"⟩, .declares ⟨"java/lang/Throwable", "<init>", "()V"⟩, .declares ⟨"java/lang/Throwable", "<init>", "(Ljava/lang/String;)V"⟩]
def xw_Str : List (Nat × String) := [(88, "the tape has not so many bytes"), (146, "no such count"), (165, "no such thing of a stop"), (206, "the bus does not ride then"), (236, "no such rule"), (276, "not 0 to 12 stops"), (301, "not 0 to 60 days"), (329, "not so many paid"), (334, "there are no such riders"), (365, "no such stop"), (367, "no such rider"), (369, "no such what")]
theorem xw_N_warm {s U : State} (hW : s.WarmedH U.vm) (h : ∀ w ∈ xw_N, va_Nw w s) : ∀ w ∈ xw_N, va_Nw w U := by
  intro w hw
  have h1 := h w hw
  simp only [xw_N, List.mem_cons, List.not_mem_nil, or_false] at hw
  rcases hw with rfl | rfl | rfl | rfl | rfl | rfl | rfl | rfl
  · exact h1.warmC hW
  · exact h1.warmC hW
  · exact h1.warmD hW
  · exact h1.warmD hW
  · exact h1.warmD hW
  · exact h1.warmD hW
  · exact h1.warmD hW
  · exact h1.warmD hW
theorem xw_Nc_warm {C T : String} {s U : State} (hW : s.WarmedH U.vm) (h : va_Nc C T s) : va_Nc C T U := by
  obtain ⟨c, t, h1, h2, h3⟩ := h
  exact ⟨c, t, by rw [hW.alike.findClass]; exact h1, by rw [hW.alike.findClass]; exact h2, by rw [hW.alike.assignable]; exact h3⟩
