/-! the leaves' grounds: boxes of the arguments, numbers that are fed, operations that there are not -/
theorem xl_in0 {xs : Nat → Int32} : xl_in xs 1 [] := trivial
theorem xl_in1 {xs : Nat → Int32} {a b : Int} (h1 : a ≤ (xs 1).toInt) (h2 : (xs 1).toInt ≤ b) : xl_in xs 1 [(a, b)] := ⟨⟨h1, h2⟩, trivial⟩
theorem xl_in2 {xs : Nat → Int32} {a b a2 b2 : Int} (h1 : a ≤ (xs 1).toInt) (h2 : (xs 1).toInt ≤ b) (h3 : a2 ≤ (xs 2).toInt) (h4 : (xs 2).toInt ≤ b2) : xl_in xs 1 [(a, b), (a2, b2)] := ⟨⟨h1, h2⟩, ⟨h3, h4⟩, trivial⟩
theorem xl_in3 {xs : Nat → Int32} {a b a2 b2 a3 b3 : Int} (h1 : a ≤ (xs 1).toInt) (h2 : (xs 1).toInt ≤ b) (h3 : a2 ≤ (xs 2).toInt) (h4 : (xs 2).toInt ≤ b2) (h5 : a3 ≤ (xs 3).toInt) (h6 : (xs 3).toInt ≤ b3) : xl_in xs 1 [(a, b), (a2, b2), (a3, b3)] := ⟨⟨h1, h2⟩, ⟨h3, h4⟩, ⟨h5, h6⟩, trivial⟩
def xl_GX (v : Value) (I : List (Int × Int)) (S : List ((Nat × Value × Value) × Value)) : xe_G := (xl_ints 1 I, ((3, .retAddr 100, .int 63), v) :: S, .retAddr 100 :: xl_args 1 5 I, [])
def xl_SS : List ((Nat × Value × Value) × Value) := [((3, .retAddr 101, .int (-1)), .retAddr 101)]
theorem xl_opk {xs : Nat → Int32} {v : Value} (hk : xe_kd 0 v = true) (hop : xs_i (xl_rho xs) v = xs 0 &&& 63) : xl_sdk xs ((3, .retAddr 100, .int 63), v) := by
  refine ⟨hk, ?_⟩
  show xs_i (xl_rho xs) v = xe_op 3 (xl_rho xs 100) 63
  rw [hop, xl_rho100 xs 0]
  rfl
theorem xl_GX_ok {xs : Nat → Int32} {v : Value} {I : List (Int × Int)} {S : List ((Nat × Value × Value) × Value)} (hk : xe_kd 0 v = true) (hop : xs_i (xl_rho xs) v = xs 0 &&& 63) (hI : xl_in xs 1 I) (hS : ∀ q ∈ S, xl_sdk xs q) : xs_G (xl_GX v I S) (xl_rho xs) := by
  refine ⟨xl_ints_ok I 1 hI, xl_sd _ (fun q hq => ?_), (fun u hu => by cases hu), xl_scr (xl_args_ok 5 I 1 hI)⟩
  rcases List.mem_cons.mp hq with e | e
  · subst e
    exact xl_opk hk hop
  · exact hS q e
theorem xl_SS_ok (xs : Nat → Int32) : ∀ q ∈ xl_SS, xl_sdk xs q := by
  intro q hq
  have e := List.mem_singleton.mp hq
  subst e
  refine ⟨rfl, ?_⟩
  show xl_rho xs 101 = xl_rho xs 101 &&& (-1)
  rw [Int32.and_neg_one]
theorem xl_appS {xs : Nat → Int32} {n : Nat} (hop : xs 0 &&& 63 = Int32.ofNat n) (I : List (Int × Int)) (hI : xl_in xs 1 I) (h : xl_is (xl_run (xl_GX (.int (Int32.ofNat n)) I xl_SS)) = true) : xl_Goal xs 6 :=
  xl_any (xl_GX_ok (v := .int (Int32.ofNat n)) rfl hop.symm hI (xl_SS_ok xs)) (by show (xl_args 1 5 I).length + 1 = 6; rw [xl_argl]) h
/-- what is fed -/
def xl_SF : List ((Nat × Value × Value) × Value) := [((7, .retAddr 101, .int 0), .retAddr 0), ((7, .retAddr 101, .int 8), .retAddr 1), ((7, .retAddr 101, .int 16), .retAddr 2), ((7, .retAddr 101, .int 24), .retAddr 3), ((7, .retAddr 102, .int 0), .retAddr 4), ((7, .retAddr 102, .int 8), .retAddr 5), ((7, .retAddr 102, .int 16), .retAddr 6), ((7, .retAddr 102, .int 24), .retAddr 7), ((7, .retAddr 103, .int 0), .retAddr 8), ((7, .retAddr 103, .int 8), .retAddr 9), ((7, .retAddr 103, .int 16), .retAddr 10), ((7, .retAddr 103, .int 24), .retAddr 11), ((7, .retAddr 104, .int 0), .retAddr 12), ((7, .retAddr 104, .int 8), .retAddr 13), ((7, .retAddr 104, .int 16), .retAddr 14), ((7, .retAddr 104, .int 24), .retAddr 15), ((7, .retAddr 105, .int 0), .retAddr 16), ((7, .retAddr 105, .int 8), .retAddr 17), ((7, .retAddr 105, .int 16), .retAddr 18), ((7, .retAddr 105, .int 24), .retAddr 19), ((10, .retAddr 0, .int 0), .retAddr 20), ((10, .retAddr 1, .int 0), .retAddr 21), ((10, .retAddr 2, .int 0), .retAddr 22), ((10, .retAddr 3, .int 0), .retAddr 23), ((10, .retAddr 4, .int 0), .retAddr 24), ((10, .retAddr 5, .int 0), .retAddr 25), ((10, .retAddr 6, .int 0), .retAddr 26), ((10, .retAddr 7, .int 0), .retAddr 27), ((10, .retAddr 8, .int 0), .retAddr 28), ((10, .retAddr 9, .int 0), .retAddr 29), ((10, .retAddr 10, .int 0), .retAddr 30), ((10, .retAddr 11, .int 0), .retAddr 31), ((10, .retAddr 12, .int 0), .retAddr 32), ((10, .retAddr 13, .int 0), .retAddr 33), ((10, .retAddr 14, .int 0), .retAddr 34), ((10, .retAddr 15, .int 0), .retAddr 35), ((10, .retAddr 16, .int 0), .retAddr 36), ((10, .retAddr 17, .int 0), .retAddr 37), ((10, .retAddr 18, .int 0), .retAddr 38), ((10, .retAddr 19, .int 0), .retAddr 39), ((3, .retAddr 0, .int 255), .retAddr 40), ((3, .retAddr 1, .int 255), .retAddr 41), ((3, .retAddr 2, .int 255), .retAddr 42), ((3, .retAddr 3, .int 255), .retAddr 43), ((3, .retAddr 4, .int 255), .retAddr 44), ((3, .retAddr 5, .int 255), .retAddr 45), ((3, .retAddr 6, .int 255), .retAddr 46), ((3, .retAddr 7, .int 255), .retAddr 47), ((3, .retAddr 8, .int 255), .retAddr 48), ((3, .retAddr 9, .int 255), .retAddr 49), ((3, .retAddr 10, .int 255), .retAddr 50), ((3, .retAddr 11, .int 255), .retAddr 51), ((3, .retAddr 12, .int 255), .retAddr 52), ((3, .retAddr 13, .int 255), .retAddr 53), ((3, .retAddr 14, .int 255), .retAddr 54), ((3, .retAddr 15, .int 255), .retAddr 55), ((3, .retAddr 16, .int 255), .retAddr 56), ((3, .retAddr 17, .int 255), .retAddr 57), ((3, .retAddr 18, .int 255), .retAddr 58), ((3, .retAddr 19, .int 255), .retAddr 59)]
def xl_GF : xe_G := ([], ((3, .retAddr 100, .int 63), .int 0) :: xl_SF, (List.range 6).map (fun j => .retAddr (100 + j)), [20, 21, 22, 23, 24, 25, 26, 27, 28, 29, 30, 31, 32, 33, 34, 35, 36, 37, 38, 39])
theorem xl_sh (xs : Nat → Int32) (u : Nat) (h : u < 20) : xl_rho xs u = xe_op 7 (xs (1 + u / 4)) (Int32.ofNat (8 * (u % 4))) := by
  unfold xl_rho
  rw [if_neg (by omega), if_pos h]
theorem xl_by (xs : Nat → Int32) (u : Nat) (h : u < 20) : xl_rho xs (20 + u) = xe_op 10 (xl_rho xs u) 0 := by
  rw [xl_sh xs u h]
  unfold xl_rho
  rw [if_neg (by omega), if_neg (by omega), if_pos (by omega), Nat.add_sub_cancel_left]
theorem xl_ub (xs : Nat → Int32) (u : Nat) (h : u < 20) : xl_rho xs (40 + u) = xe_op 3 (xl_rho xs u) 255 := by
  rw [xl_sh xs u h]
  unfold xl_rho
  rw [if_neg (by omega), if_neg (by omega), if_neg (by omega), if_pos (by omega), Nat.add_sub_cancel_left]
theorem xl_SF_ok (xs : Nat → Int32) : ∀ q ∈ xl_SF, xl_sdk xs q := by
  intro q hq
  simp only [xl_SF, List.mem_cons, List.not_mem_nil, or_false] at hq
  rcases hq with rfl | rfl | rfl | rfl | rfl | rfl | rfl | rfl | rfl | rfl | rfl | rfl | rfl | rfl | rfl | rfl | rfl | rfl | rfl | rfl | rfl | rfl | rfl | rfl | rfl | rfl | rfl | rfl | rfl | rfl | rfl | rfl | rfl | rfl | rfl | rfl | rfl | rfl | rfl | rfl | rfl | rfl | rfl | rfl | rfl | rfl | rfl | rfl | rfl | rfl | rfl | rfl | rfl | rfl | rfl | rfl | rfl | rfl | rfl | rfl
  · exact ⟨rfl, rfl⟩
  · exact ⟨rfl, rfl⟩
  · exact ⟨rfl, rfl⟩
  · exact ⟨rfl, rfl⟩
  · exact ⟨rfl, rfl⟩
  · exact ⟨rfl, rfl⟩
  · exact ⟨rfl, rfl⟩
  · exact ⟨rfl, rfl⟩
  · exact ⟨rfl, rfl⟩
  · exact ⟨rfl, rfl⟩
  · exact ⟨rfl, rfl⟩
  · exact ⟨rfl, rfl⟩
  · exact ⟨rfl, rfl⟩
  · exact ⟨rfl, rfl⟩
  · exact ⟨rfl, rfl⟩
  · exact ⟨rfl, rfl⟩
  · exact ⟨rfl, rfl⟩
  · exact ⟨rfl, rfl⟩
  · exact ⟨rfl, rfl⟩
  · exact ⟨rfl, rfl⟩
  · exact ⟨rfl, xl_by xs 0 (by decide)⟩
  · exact ⟨rfl, xl_by xs 1 (by decide)⟩
  · exact ⟨rfl, xl_by xs 2 (by decide)⟩
  · exact ⟨rfl, xl_by xs 3 (by decide)⟩
  · exact ⟨rfl, xl_by xs 4 (by decide)⟩
  · exact ⟨rfl, xl_by xs 5 (by decide)⟩
  · exact ⟨rfl, xl_by xs 6 (by decide)⟩
  · exact ⟨rfl, xl_by xs 7 (by decide)⟩
  · exact ⟨rfl, xl_by xs 8 (by decide)⟩
  · exact ⟨rfl, xl_by xs 9 (by decide)⟩
  · exact ⟨rfl, xl_by xs 10 (by decide)⟩
  · exact ⟨rfl, xl_by xs 11 (by decide)⟩
  · exact ⟨rfl, xl_by xs 12 (by decide)⟩
  · exact ⟨rfl, xl_by xs 13 (by decide)⟩
  · exact ⟨rfl, xl_by xs 14 (by decide)⟩
  · exact ⟨rfl, xl_by xs 15 (by decide)⟩
  · exact ⟨rfl, xl_by xs 16 (by decide)⟩
  · exact ⟨rfl, xl_by xs 17 (by decide)⟩
  · exact ⟨rfl, xl_by xs 18 (by decide)⟩
  · exact ⟨rfl, xl_by xs 19 (by decide)⟩
  · exact ⟨rfl, xl_ub xs 0 (by decide)⟩
  · exact ⟨rfl, xl_ub xs 1 (by decide)⟩
  · exact ⟨rfl, xl_ub xs 2 (by decide)⟩
  · exact ⟨rfl, xl_ub xs 3 (by decide)⟩
  · exact ⟨rfl, xl_ub xs 4 (by decide)⟩
  · exact ⟨rfl, xl_ub xs 5 (by decide)⟩
  · exact ⟨rfl, xl_ub xs 6 (by decide)⟩
  · exact ⟨rfl, xl_ub xs 7 (by decide)⟩
  · exact ⟨rfl, xl_ub xs 8 (by decide)⟩
  · exact ⟨rfl, xl_ub xs 9 (by decide)⟩
  · exact ⟨rfl, xl_ub xs 10 (by decide)⟩
  · exact ⟨rfl, xl_ub xs 11 (by decide)⟩
  · exact ⟨rfl, xl_ub xs 12 (by decide)⟩
  · exact ⟨rfl, xl_ub xs 13 (by decide)⟩
  · exact ⟨rfl, xl_ub xs 14 (by decide)⟩
  · exact ⟨rfl, xl_ub xs 15 (by decide)⟩
  · exact ⟨rfl, xl_ub xs 16 (by decide)⟩
  · exact ⟨rfl, xl_ub xs 17 (by decide)⟩
  · exact ⟨rfl, xl_ub xs 18 (by decide)⟩
  · exact ⟨rfl, xl_ub xs 19 (by decide)⟩
theorem xl_nar (x : Int32) : vp_nar .byte (xe_op 10 x 0) = xe_op 10 x 0 := by
  show (x.toInt8.toInt32).toInt8.toInt32 = x.toInt8.toInt32
  rw [Int8.toInt8_toInt32]
theorem xl_GF_ok {xs : Nat → Int32} (hop : xs 0 &&& 63 = Int32.ofNat 0) : xs_G xl_GF (xl_rho xs) := by
  refine ⟨(fun u r h => by cases h), xl_sd _ (fun q hq => ?_), (fun u hu => ?_), (xl_G0_ok xs 6).2.2.2⟩
  · rcases List.mem_cons.mp hq with e | e
    · subst e
      exact xl_opk rfl hop.symm
    · exact xl_SF_ok xs q e
  · have h2 : ∀ u ∈ xl_GF.2.2.2, 20 ≤ u ∧ u < 40 := by decide
    obtain ⟨h3, h4⟩ := h2 u hu
    obtain ⟨k, rfl⟩ : ∃ k, u = 20 + k := ⟨u - 20, by omega⟩
    rw [xl_by xs k (by omega)]
    exact xl_nar _
/-- no such operation -/
def xl_GD : xe_G := ([(90, 37, 63)], [((3, .retAddr 100, .int 63), .retAddr 90)], (List.range 6).map (fun j => .retAddr (100 + j)), [])
theorem xl_GD_ok {xs : Nat → Int32} (h1 : 37 ≤ (xs 0 &&& 63).toInt) (h2 : (xs 0 &&& 63).toInt ≤ 63) : xs_G xl_GD (xl_rho xs) := by
  have e90 : xl_rho xs 90 = xs 0 &&& 63 := rfl
  refine ⟨(fun u r h => ?_), xl_sd _ (fun q hq => ?_), (fun u hu => by cases hu), (xl_G0_ok xs 6).2.2.2⟩
  · have h : (bif Nat.beq 90 u then some (37, 63) else none) = some r := h
    cases hb : Nat.beq 90 u with
    | true =>
      rw [hb] at h
      cases h
      rw [← Nat.eq_of_beq_eq_true hb, e90]
      exact ⟨h1, h2⟩
    | false => rw [hb] at h; cases h
  · have e := List.mem_singleton.mp hq
    subst e
    exact xl_opk rfl e90
