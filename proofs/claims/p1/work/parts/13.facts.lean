theorem xk_z0 : ∀ j, j < 14 → defaultValue (tyX0 j) = vp_V (xe_Z.getD 0 []) j := by decide +kernel
theorem xk_z1 : ∀ j, j < 6 → defaultValue (tyX1 j) = vp_V (xe_Z.getD 1 []) j := by decide +kernel
theorem xk_z2 : ∀ j, j < 4 → defaultValue (tyX2 j) = vp_V (xe_Z.getD 2 []) j := by decide +kernel
theorem xk_z3 : ∀ j, j < 6 → defaultValue (tyX3 j) = vp_V (xe_Z.getD 3 []) j := by decide +kernel
theorem xk_z4 : ∀ j, j < 2 → defaultValue (tyX4 j) = vp_V (xe_Z.getD 4 []) j := by decide +kernel
theorem xk_z5 : ∀ j, j < 11 → defaultValue (tyX5 j) = vp_V (xe_Z.getD 5 []) j := by decide +kernel
theorem xk_z6 : ∀ j, j < 6 → defaultValue (tyX6 j) = vp_V (xe_Z.getD 6 []) j := by decide +kernel
theorem xk_z7 : ∀ j, j < 21 → defaultValue (tyX7 j) = vp_V (xe_Z.getD 7 []) j := by decide +kernel
theorem xk_z8 : ∀ j, j < 17 → defaultValue (tyX8 j) = vp_V (xe_Z.getD 8 []) j := by decide +kernel
theorem xk_z9 : ∀ j, j < 83 → defaultValue (tyX9 j) = vp_V (xe_Z.getD 9 []) j := by decide +kernel
/-- what is known of a class of the list -/
def xk_C (ci : Nat) (C : String) (T : u_T) (N : Nat) (ty : Nat → FieldType) : Prop := vwCl[ci]? = some (C, T, N) ∧ (∀ w ∈ u_ws C T N, w ∈ xw_T) ∧ (∀ k, k < N → parseFieldDescriptor (T k).2.2.1 = some (ty k)) ∧ (∀ a, a < N → ∀ b, b < N → a ≠ b → (T a).2.1 ≠ (T b).2.1) ∧ (∀ j, j < N → defaultValue (ty j) = vp_V (xe_Z.getD ci []) j)
theorem xk_cls (ci : Nat) (q : vw_C) (h : vwCl[ci]? = some q) : ∃ ty : Nat → FieldType, xk_C ci q.1 q.2.1 q.2.2 ty := by
  match ci, h with
  | 0, h => cases h; exact ⟨tyX0, rfl, xk_u0, tyX0_ok, nmX0, xk_z0⟩
  | 1, h => cases h; exact ⟨tyX1, rfl, xk_u1, tyX1_ok, nmX1, xk_z1⟩
  | 2, h => cases h; exact ⟨tyX2, rfl, xk_u2, tyX2_ok, nmX2, xk_z2⟩
  | 3, h => cases h; exact ⟨tyX3, rfl, xk_u3, tyX3_ok, nmX3, xk_z3⟩
  | 4, h => cases h; exact ⟨tyX4, rfl, xk_u4, tyX4_ok, nmX4, xk_z4⟩
  | 5, h => cases h; exact ⟨tyX5, rfl, xk_u5, tyX5_ok, nmX5, xk_z5⟩
  | 6, h => cases h; exact ⟨tyX6, rfl, xk_u6, tyX6_ok, nmX6, xk_z6⟩
  | 7, h => cases h; exact ⟨tyX7, rfl, xk_u7, tyX7_ok, nmX7, xk_z7⟩
  | 8, h => cases h; exact ⟨tyX8, rfl, xk_u8, tyX8_ok, nmX8, xk_z8⟩
  | 9, h => cases h; exact ⟨tyX9, rfl, xk_u9, tyX9_ok, nmX9, xk_z9⟩
  | k + 10, h => simp [vwCl] at h
