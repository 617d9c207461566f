/-! every script comes to a leaf -/
theorem xl_op1 {xs : Nat → Int32} (hop : xs 0 &&& 63 = Int32.ofNat 1) : xl_Goal xs 6 := by
  have l1 := xl_lo (xs 1)
  have u1 := xl_hi (xs 1)
  by_cases h1_0 : (xs 1).toInt ≤ (-1)
  · exact xl_app hop [((-2147483648), (-1))] (xl_in1 (by omega) (by omega)) xl_t0
  by_cases h1_1 : (xs 1).toInt ≤ 0
  · exact xl_app hop [(0, 0)] (xl_in1 (by omega) (by omega)) xl_t1
  exact xl_app hop [(1, 2147483647)] (xl_in1 (by omega) (by omega)) xl_t2
theorem xl_op2 {xs : Nat → Int32} (hop : xs 0 &&& 63 = Int32.ofNat 2) : xl_Goal xs 6 := by
  exact xl_app hop [] (xl_in0) xl_t3
theorem xl_op3 {xs : Nat → Int32} (hop : xs 0 &&& 63 = Int32.ofNat 3) : xl_Goal xs 6 := by
  have l1 := xl_lo (xs 1)
  have u1 := xl_hi (xs 1)
  by_cases h1_0 : (xs 1).toInt ≤ (-1)
  · exact xl_app hop [((-2147483648), (-1))] (xl_in1 (by omega) (by omega)) xl_t4
  by_cases h1_1 : (xs 1).toInt ≤ 0
  · exact xl_app hop [(0, 0)] (xl_in1 (by omega) (by omega)) xl_t5
  by_cases h1_2 : (xs 1).toInt ≤ 1
  · exact xl_app hop [(1, 1)] (xl_in1 (by omega) (by omega)) xl_t6
  by_cases h1_3 : (xs 1).toInt ≤ 2
  · exact xl_app hop [(2, 2)] (xl_in1 (by omega) (by omega)) xl_t7
  by_cases h1_4 : (xs 1).toInt ≤ 3
  · exact xl_app hop [(3, 3)] (xl_in1 (by omega) (by omega)) xl_t8
  by_cases h1_5 : (xs 1).toInt ≤ 4
  · exact xl_app hop [(4, 4)] (xl_in1 (by omega) (by omega)) xl_t9
  by_cases h1_6 : (xs 1).toInt ≤ 5
  · exact xl_app hop [(5, 5)] (xl_in1 (by omega) (by omega)) xl_t10
  by_cases h1_7 : (xs 1).toInt ≤ 6
  · exact xl_app hop [(6, 6)] (xl_in1 (by omega) (by omega)) xl_t11
  by_cases h1_8 : (xs 1).toInt ≤ 7
  · exact xl_app hop [(7, 7)] (xl_in1 (by omega) (by omega)) xl_t12
  by_cases h1_9 : (xs 1).toInt ≤ 8
  · exact xl_app hop [(8, 8)] (xl_in1 (by omega) (by omega)) xl_t13
  by_cases h1_10 : (xs 1).toInt ≤ 9
  · exact xl_app hop [(9, 9)] (xl_in1 (by omega) (by omega)) xl_t14
  by_cases h1_11 : (xs 1).toInt ≤ 10
  · exact xl_app hop [(10, 10)] (xl_in1 (by omega) (by omega)) xl_t15
  by_cases h1_12 : (xs 1).toInt ≤ 11
  · exact xl_app hop [(11, 11)] (xl_in1 (by omega) (by omega)) xl_t16
  by_cases h1_13 : (xs 1).toInt ≤ 12
  · exact xl_app hop [(12, 12)] (xl_in1 (by omega) (by omega)) xl_t17
  by_cases h1_14 : (xs 1).toInt ≤ 13
  · exact xl_app hop [(13, 13)] (xl_in1 (by omega) (by omega)) xl_t18
  by_cases h1_15 : (xs 1).toInt ≤ 14
  · exact xl_app hop [(14, 14)] (xl_in1 (by omega) (by omega)) xl_t19
  by_cases h1_16 : (xs 1).toInt ≤ 15
  · exact xl_app hop [(15, 15)] (xl_in1 (by omega) (by omega)) xl_t20
  by_cases h1_17 : (xs 1).toInt ≤ 16
  · exact xl_app hop [(16, 16)] (xl_in1 (by omega) (by omega)) xl_t21
  by_cases h1_18 : (xs 1).toInt ≤ 17
  · exact xl_app hop [(17, 17)] (xl_in1 (by omega) (by omega)) xl_t22
  exact xl_app hop [(18, 2147483647)] (xl_in1 (by omega) (by omega)) xl_t23
theorem xl_op4 {xs : Nat → Int32} (hop : xs 0 &&& 63 = Int32.ofNat 4) : xl_Goal xs 6 := by
  have l1 := xl_lo (xs 1)
  have u1 := xl_hi (xs 1)
  have l2 := xl_lo (xs 2)
  have u2 := xl_hi (xs 2)
  by_cases h1_0 : (xs 1).toInt ≤ (-1)
  · exact xl_app hop [((-2147483648), (-1)), ((-2147483648), 2147483647)] (xl_in2 (by omega) (by omega) (by omega) (by omega)) xl_t24
  by_cases h1_1 : (xs 1).toInt ≤ 0
  · by_cases h2_0 : (xs 2).toInt ≤ (-1)
    · exact xl_app hop [(0, 0), ((-2147483648), (-1))] (xl_in2 (by omega) (by omega) (by omega) (by omega)) xl_t25
    by_cases h2_1 : (xs 2).toInt ≤ 0
    · exact xl_app hop [(0, 0), (0, 0)] (xl_in2 (by omega) (by omega) (by omega) (by omega)) xl_t26
    by_cases h2_2 : (xs 2).toInt ≤ 1
    · exact xl_app hop [(0, 0), (1, 1)] (xl_in2 (by omega) (by omega) (by omega) (by omega)) xl_t27
    by_cases h2_3 : (xs 2).toInt ≤ 2
    · exact xl_app hop [(0, 0), (2, 2)] (xl_in2 (by omega) (by omega) (by omega) (by omega)) xl_t28
    by_cases h2_4 : (xs 2).toInt ≤ 3
    · exact xl_app hop [(0, 0), (3, 3)] (xl_in2 (by omega) (by omega) (by omega) (by omega)) xl_t29
    exact xl_app hop [(0, 0), (4, 2147483647)] (xl_in2 (by omega) (by omega) (by omega) (by omega)) xl_t30
  by_cases h1_2 : (xs 1).toInt ≤ 1
  · by_cases h2_0 : (xs 2).toInt ≤ (-1)
    · exact xl_app hop [(1, 1), ((-2147483648), (-1))] (xl_in2 (by omega) (by omega) (by omega) (by omega)) xl_t31
    by_cases h2_1 : (xs 2).toInt ≤ 0
    · exact xl_app hop [(1, 1), (0, 0)] (xl_in2 (by omega) (by omega) (by omega) (by omega)) xl_t32
    by_cases h2_2 : (xs 2).toInt ≤ 1
    · exact xl_app hop [(1, 1), (1, 1)] (xl_in2 (by omega) (by omega) (by omega) (by omega)) xl_t33
    by_cases h2_3 : (xs 2).toInt ≤ 2
    · exact xl_app hop [(1, 1), (2, 2)] (xl_in2 (by omega) (by omega) (by omega) (by omega)) xl_t34
    by_cases h2_4 : (xs 2).toInt ≤ 3
    · exact xl_app hop [(1, 1), (3, 3)] (xl_in2 (by omega) (by omega) (by omega) (by omega)) xl_t35
    exact xl_app hop [(1, 1), (4, 2147483647)] (xl_in2 (by omega) (by omega) (by omega) (by omega)) xl_t36
  exact xl_app hop [(2, 2147483647), ((-2147483648), 2147483647)] (xl_in2 (by omega) (by omega) (by omega) (by omega)) xl_t37
theorem xl_op5 {xs : Nat → Int32} (hop : xs 0 &&& 63 = Int32.ofNat 5) : xl_Goal xs 6 := by
  have l1 := xl_lo (xs 1)
  have u1 := xl_hi (xs 1)
  have l2 := xl_lo (xs 2)
  have u2 := xl_hi (xs 2)
  by_cases h1_0 : (xs 1).toInt ≤ (-1)
  · exact xl_app hop [((-2147483648), (-1)), ((-2147483648), 2147483647)] (xl_in2 (by omega) (by omega) (by omega) (by omega)) xl_t38
  exact xl_app hop [(0, 2147483647), ((-2147483648), 2147483647)] (xl_in2 (by omega) (by omega) (by omega) (by omega)) xl_t39
theorem xl_op6 {xs : Nat → Int32} (hop : xs 0 &&& 63 = Int32.ofNat 6) : xl_Goal xs 6 := by
  have l1 := xl_lo (xs 1)
  have u1 := xl_hi (xs 1)
  have l2 := xl_lo (xs 2)
  have u2 := xl_hi (xs 2)
  by_cases h1_0 : (xs 1).toInt ≤ (-1)
  · exact xl_app hop [((-2147483648), (-1)), ((-2147483648), 2147483647)] (xl_in2 (by omega) (by omega) (by omega) (by omega)) xl_t40
  exact xl_app hop [(0, 2147483647), ((-2147483648), 2147483647)] (xl_in2 (by omega) (by omega) (by omega) (by omega)) xl_t41
theorem xl_op7 {xs : Nat → Int32} (hop : xs 0 &&& 63 = Int32.ofNat 7) : xl_Goal xs 6 := by
  have l1 := xl_lo (xs 1)
  have u1 := xl_hi (xs 1)
  have l2 := xl_lo (xs 2)
  have u2 := xl_hi (xs 2)
  by_cases h1_0 : (xs 1).toInt ≤ (-1)
  · exact xl_app hop [((-2147483648), (-1)), ((-2147483648), 2147483647)] (xl_in2 (by omega) (by omega) (by omega) (by omega)) xl_t42
  exact xl_app hop [(0, 2147483647), ((-2147483648), 2147483647)] (xl_in2 (by omega) (by omega) (by omega) (by omega)) xl_t43
theorem xl_op8 {xs : Nat → Int32} (hop : xs 0 &&& 63 = Int32.ofNat 8) : xl_Goal xs 6 := by
  have l1 := xl_lo (xs 1)
  have u1 := xl_hi (xs 1)
  by_cases h1_0 : (xs 1).toInt ≤ (-1)
  · exact xl_app hop [((-2147483648), (-1))] (xl_in1 (by omega) (by omega)) xl_t44
  by_cases h1_1 : (xs 1).toInt ≤ 60
  · exact xl_app hop [(0, 60)] (xl_in1 (by omega) (by omega)) xl_t45
  exact xl_app hop [(61, 2147483647)] (xl_in1 (by omega) (by omega)) xl_t46
theorem xl_op9 {xs : Nat → Int32} (hop : xs 0 &&& 63 = Int32.ofNat 9) : xl_Goal xs 6 := by
  have l1 := xl_lo (xs 1)
  have u1 := xl_hi (xs 1)
  have l2 := xl_lo (xs 2)
  have u2 := xl_hi (xs 2)
  by_cases h1_0 : (xs 1).toInt ≤ (-1)
  · exact xl_app hop [((-2147483648), (-1)), ((-2147483648), 2147483647)] (xl_in2 (by omega) (by omega) (by omega) (by omega)) xl_t47
  by_cases h1_1 : (xs 1).toInt ≤ 0
  · by_cases h2_0 : (xs 2).toInt ≤ (-1)
    · exact xl_app hop [(0, 0), ((-2147483648), (-1))] (xl_in2 (by omega) (by omega) (by omega) (by omega)) xl_t48
    by_cases h2_1 : (xs 2).toInt ≤ 60
    · exact xl_app hop [(0, 0), (0, 60)] (xl_in2 (by omega) (by omega) (by omega) (by omega)) xl_t49
    exact xl_app hop [(0, 0), (61, 2147483647)] (xl_in2 (by omega) (by omega) (by omega) (by omega)) xl_t50
  by_cases h1_2 : (xs 1).toInt ≤ 1
  · by_cases h2_0 : (xs 2).toInt ≤ (-1)
    · exact xl_app hop [(1, 1), ((-2147483648), (-1))] (xl_in2 (by omega) (by omega) (by omega) (by omega)) xl_t51
    by_cases h2_1 : (xs 2).toInt ≤ 60
    · exact xl_app hop [(1, 1), (0, 60)] (xl_in2 (by omega) (by omega) (by omega) (by omega)) xl_t52
    exact xl_app hop [(1, 1), (61, 2147483647)] (xl_in2 (by omega) (by omega) (by omega) (by omega)) xl_t53
  exact xl_app hop [(2, 2147483647), ((-2147483648), 2147483647)] (xl_in2 (by omega) (by omega) (by omega) (by omega)) xl_t54
theorem xl_op10 {xs : Nat → Int32} (hop : xs 0 &&& 63 = Int32.ofNat 10) : xl_Goal xs 6 := by
  have l1 := xl_lo (xs 1)
  have u1 := xl_hi (xs 1)
  have l2 := xl_lo (xs 2)
  have u2 := xl_hi (xs 2)
  have l3 := xl_lo (xs 3)
  have u3 := xl_hi (xs 3)
  by_cases h1_0 : (xs 1).toInt ≤ (-1)
  · exact xl_app hop [((-2147483648), (-1)), ((-2147483648), 2147483647), ((-2147483648), 2147483647)] (xl_in3 (by omega) (by omega) (by omega) (by omega) (by omega) (by omega)) xl_t55
  exact xl_app hop [(0, 2147483647), ((-2147483648), 2147483647), ((-2147483648), 2147483647)] (xl_in3 (by omega) (by omega) (by omega) (by omega) (by omega) (by omega)) xl_t56
theorem xl_op11 {xs : Nat → Int32} (hop : xs 0 &&& 63 = Int32.ofNat 11) : xl_Goal xs 6 := by
  have l1 := xl_lo (xs 1)
  have u1 := xl_hi (xs 1)
  by_cases h1_0 : (xs 1).toInt ≤ (-2)
  · exact xl_app hop [((-2147483648), (-2))] (xl_in1 (by omega) (by omega)) xl_t57
  by_cases h1_1 : (xs 1).toInt ≤ (-1)
  · exact xl_app hop [((-1), (-1))] (xl_in1 (by omega) (by omega)) xl_t58
  exact xl_app hop [(0, 2147483647)] (xl_in1 (by omega) (by omega)) xl_t59
theorem xl_op12 {xs : Nat → Int32} (hop : xs 0 &&& 63 = Int32.ofNat 12) : xl_Goal xs 6 := by
  exact xl_app hop [] (xl_in0) xl_t60
theorem xl_op13 {xs : Nat → Int32} (hop : xs 0 &&& 63 = Int32.ofNat 13) : xl_Goal xs 6 := by
  have l1 := xl_lo (xs 1)
  have u1 := xl_hi (xs 1)
  by_cases h1_0 : (xs 1).toInt ≤ (-1)
  · exact xl_app hop [((-2147483648), (-1))] (xl_in1 (by omega) (by omega)) xl_t61
  by_cases h1_1 : (xs 1).toInt ≤ 0
  · exact xl_app hop [(0, 0)] (xl_in1 (by omega) (by omega)) xl_t62
  by_cases h1_2 : (xs 1).toInt ≤ 1
  · exact xl_app hop [(1, 1)] (xl_in1 (by omega) (by omega)) xl_t63
  exact xl_app hop [(2, 2147483647)] (xl_in1 (by omega) (by omega)) xl_t64
theorem xl_op14 {xs : Nat → Int32} (hop : xs 0 &&& 63 = Int32.ofNat 14) : xl_Goal xs 6 := by
  have l1 := xl_lo (xs 1)
  have u1 := xl_hi (xs 1)
  by_cases h1_0 : (xs 1).toInt ≤ (-2)
  · exact xl_app hop [((-2147483648), (-2))] (xl_in1 (by omega) (by omega)) xl_t65
  by_cases h1_1 : (xs 1).toInt ≤ (-1)
  · exact xl_app hop [((-1), (-1))] (xl_in1 (by omega) (by omega)) xl_t66
  exact xl_app hop [(0, 2147483647)] (xl_in1 (by omega) (by omega)) xl_t67
theorem xl_op15 {xs : Nat → Int32} (hop : xs 0 &&& 63 = Int32.ofNat 15) : xl_Goal xs 6 := by
  exact xl_app hop [] (xl_in0) xl_t68
theorem xl_op16 {xs : Nat → Int32} (hop : xs 0 &&& 63 = Int32.ofNat 16) : xl_Goal xs 6 := by
  have l1 := xl_lo (xs 1)
  have u1 := xl_hi (xs 1)
  have l2 := xl_lo (xs 2)
  have u2 := xl_hi (xs 2)
  by_cases h1_0 : (xs 1).toInt ≤ (-1)
  · exact xl_app hop [((-2147483648), (-1)), ((-2147483648), 2147483647)] (xl_in2 (by omega) (by omega) (by omega) (by omega)) xl_t69
  by_cases h1_1 : (xs 1).toInt ≤ 0
  · by_cases h2_0 : (xs 2).toInt ≤ (-1)
    · exact xl_app hop [(0, 0), ((-2147483648), (-1))] (xl_in2 (by omega) (by omega) (by omega) (by omega)) xl_t70
    by_cases h2_1 : (xs 2).toInt ≤ 0
    · exact xl_app hop [(0, 0), (0, 0)] (xl_in2 (by omega) (by omega) (by omega) (by omega)) xl_t71
    by_cases h2_2 : (xs 2).toInt ≤ 1
    · exact xl_app hop [(0, 0), (1, 1)] (xl_in2 (by omega) (by omega) (by omega) (by omega)) xl_t72
    exact xl_app hop [(0, 0), (2, 2147483647)] (xl_in2 (by omega) (by omega) (by omega) (by omega)) xl_t73
  by_cases h1_2 : (xs 1).toInt ≤ 1
  · by_cases h2_0 : (xs 2).toInt ≤ (-1)
    · exact xl_app hop [(1, 1), ((-2147483648), (-1))] (xl_in2 (by omega) (by omega) (by omega) (by omega)) xl_t74
    by_cases h2_1 : (xs 2).toInt ≤ 0
    · exact xl_app hop [(1, 1), (0, 0)] (xl_in2 (by omega) (by omega) (by omega) (by omega)) xl_t75
    by_cases h2_2 : (xs 2).toInt ≤ 1
    · exact xl_app hop [(1, 1), (1, 1)] (xl_in2 (by omega) (by omega) (by omega) (by omega)) xl_t76
    exact xl_app hop [(1, 1), (2, 2147483647)] (xl_in2 (by omega) (by omega) (by omega) (by omega)) xl_t77
  exact xl_app hop [(2, 2147483647), ((-2147483648), 2147483647)] (xl_in2 (by omega) (by omega) (by omega) (by omega)) xl_t78
theorem xl_op17 {xs : Nat → Int32} (hop : xs 0 &&& 63 = Int32.ofNat 17) : xl_Goal xs 6 := by
  have l1 := xl_lo (xs 1)
  have u1 := xl_hi (xs 1)
  by_cases h1_0 : (xs 1).toInt ≤ (-1)
  · exact xl_app hop [((-2147483648), (-1))] (xl_in1 (by omega) (by omega)) xl_t79
  by_cases h1_1 : (xs 1).toInt ≤ 0
  · exact xl_app hop [(0, 0)] (xl_in1 (by omega) (by omega)) xl_t80
  by_cases h1_2 : (xs 1).toInt ≤ 1
  · exact xl_app hop [(1, 1)] (xl_in1 (by omega) (by omega)) xl_t81
  by_cases h1_3 : (xs 1).toInt ≤ 2
  · exact xl_app hop [(2, 2)] (xl_in1 (by omega) (by omega)) xl_t82
  exact xl_app hop [(3, 2147483647)] (xl_in1 (by omega) (by omega)) xl_t83
theorem xl_op18 {xs : Nat → Int32} (hop : xs 0 &&& 63 = Int32.ofNat 18) : xl_Goal xs 6 := by
  have l1 := xl_lo (xs 1)
  have u1 := xl_hi (xs 1)
  by_cases h1_0 : (xs 1).toInt ≤ (-1)
  · exact xl_app hop [((-2147483648), (-1))] (xl_in1 (by omega) (by omega)) xl_t84
  by_cases h1_1 : (xs 1).toInt ≤ 0
  · exact xl_app hop [(0, 0)] (xl_in1 (by omega) (by omega)) xl_t85
  by_cases h1_2 : (xs 1).toInt ≤ 1
  · exact xl_app hop [(1, 1)] (xl_in1 (by omega) (by omega)) xl_t86
  exact xl_app hop [(2, 2147483647)] (xl_in1 (by omega) (by omega)) xl_t87
theorem xl_op19 {xs : Nat → Int32} (hop : xs 0 &&& 63 = Int32.ofNat 19) : xl_Goal xs 6 := by
  exact xl_app hop [] (xl_in0) xl_t88
theorem xl_op20 {xs : Nat → Int32} (hop : xs 0 &&& 63 = Int32.ofNat 20) : xl_Goal xs 6 := by
  have l1 := xl_lo (xs 1)
  have u1 := xl_hi (xs 1)
  by_cases h1_0 : (xs 1).toInt ≤ (-1)
  · exact xl_app hop [((-2147483648), (-1))] (xl_in1 (by omega) (by omega)) xl_t89
  by_cases h1_1 : (xs 1).toInt ≤ 12
  · exact xl_app hop [(0, 12)] (xl_in1 (by omega) (by omega)) xl_t90
  exact xl_app hop [(13, 2147483647)] (xl_in1 (by omega) (by omega)) xl_t91
theorem xl_op21 {xs : Nat → Int32} (hop : xs 0 &&& 63 = Int32.ofNat 21) : xl_Goal xs 6 := by
  have l1 := xl_lo (xs 1)
  have u1 := xl_hi (xs 1)
  by_cases h1_0 : (xs 1).toInt ≤ (-1)
  · exact xl_app hop [((-2147483648), (-1))] (xl_in1 (by omega) (by omega)) xl_t92
  by_cases h1_1 : (xs 1).toInt ≤ 0
  · exact xl_app hop [(0, 0)] (xl_in1 (by omega) (by omega)) xl_t93
  by_cases h1_2 : (xs 1).toInt ≤ 1
  · exact xl_app hop [(1, 1)] (xl_in1 (by omega) (by omega)) xl_t94
  exact xl_app hop [(2, 2147483647)] (xl_in1 (by omega) (by omega)) xl_t95
theorem xl_op22 {xs : Nat → Int32} (hop : xs 0 &&& 63 = Int32.ofNat 22) : xl_Goal xs 6 := by
  have l1 := xl_lo (xs 1)
  have u1 := xl_hi (xs 1)
  have l2 := xl_lo (xs 2)
  have u2 := xl_hi (xs 2)
  have l3 := xl_lo (xs 3)
  have u3 := xl_hi (xs 3)
  by_cases h1_0 : (xs 1).toInt ≤ (-1)
  · exact xl_app hop [((-2147483648), (-1)), ((-2147483648), 2147483647), ((-2147483648), 2147483647)] (xl_in3 (by omega) (by omega) (by omega) (by omega) (by omega) (by omega)) xl_t96
  by_cases h1_1 : (xs 1).toInt ≤ 0
  · by_cases h2_0 : (xs 2).toInt ≤ (-1)
    · exact xl_app hop [(0, 0), ((-2147483648), (-1)), ((-2147483648), 2147483647)] (xl_in3 (by omega) (by omega) (by omega) (by omega) (by omega) (by omega)) xl_t97
    by_cases h2_1 : (xs 2).toInt ≤ 1
    · by_cases h3_0 : (xs 3).toInt ≤ (-1)
      · exact xl_app hop [(0, 0), (0, 1), ((-2147483648), (-1))] (xl_in3 (by omega) (by omega) (by omega) (by omega) (by omega) (by omega)) xl_t98
      by_cases h3_1 : (xs 3).toInt ≤ 12
      · exact xl_app hop [(0, 0), (0, 1), (0, 12)] (xl_in3 (by omega) (by omega) (by omega) (by omega) (by omega) (by omega)) xl_t99
      exact xl_app hop [(0, 0), (0, 1), (13, 2147483647)] (xl_in3 (by omega) (by omega) (by omega) (by omega) (by omega) (by omega)) xl_t100
    exact xl_app hop [(0, 0), (2, 2147483647), ((-2147483648), 2147483647)] (xl_in3 (by omega) (by omega) (by omega) (by omega) (by omega) (by omega)) xl_t101
  by_cases h1_2 : (xs 1).toInt ≤ 1
  · by_cases h2_0 : (xs 2).toInt ≤ (-1)
    · exact xl_app hop [(1, 1), ((-2147483648), (-1)), ((-2147483648), 2147483647)] (xl_in3 (by omega) (by omega) (by omega) (by omega) (by omega) (by omega)) xl_t102
    by_cases h2_1 : (xs 2).toInt ≤ 1
    · by_cases h3_0 : (xs 3).toInt ≤ (-1)
      · exact xl_app hop [(1, 1), (0, 1), ((-2147483648), (-1))] (xl_in3 (by omega) (by omega) (by omega) (by omega) (by omega) (by omega)) xl_t103
      by_cases h3_1 : (xs 3).toInt ≤ 12
      · exact xl_app hop [(1, 1), (0, 1), (0, 12)] (xl_in3 (by omega) (by omega) (by omega) (by omega) (by omega) (by omega)) xl_t104
      exact xl_app hop [(1, 1), (0, 1), (13, 2147483647)] (xl_in3 (by omega) (by omega) (by omega) (by omega) (by omega) (by omega)) xl_t105
    exact xl_app hop [(1, 1), (2, 2147483647), ((-2147483648), 2147483647)] (xl_in3 (by omega) (by omega) (by omega) (by omega) (by omega) (by omega)) xl_t106
  exact xl_app hop [(2, 2147483647), ((-2147483648), 2147483647), ((-2147483648), 2147483647)] (xl_in3 (by omega) (by omega) (by omega) (by omega) (by omega) (by omega)) xl_t107
theorem xl_op23 {xs : Nat → Int32} (hop : xs 0 &&& 63 = Int32.ofNat 23) : xl_Goal xs 6 := by
  exact xl_app hop [] (xl_in0) xl_t108
theorem xl_op24 {xs : Nat → Int32} (hop : xs 0 &&& 63 = Int32.ofNat 24) : xl_Goal xs 6 := by
  have l1 := xl_lo (xs 1)
  have u1 := xl_hi (xs 1)
  by_cases h1_0 : (xs 1).toInt ≤ (-1)
  · exact xl_app hop [((-2147483648), (-1))] (xl_in1 (by omega) (by omega)) xl_t109
  by_cases h1_1 : (xs 1).toInt ≤ 0
  · exact xl_app hop [(0, 0)] (xl_in1 (by omega) (by omega)) xl_t110
  by_cases h1_2 : (xs 1).toInt ≤ 1
  · exact xl_app hop [(1, 1)] (xl_in1 (by omega) (by omega)) xl_t111
  by_cases h1_3 : (xs 1).toInt ≤ 2
  · exact xl_app hop [(2, 2)] (xl_in1 (by omega) (by omega)) xl_t112
  exact xl_app hop [(3, 2147483647)] (xl_in1 (by omega) (by omega)) xl_t113
theorem xl_op25 {xs : Nat → Int32} (hop : xs 0 &&& 63 = Int32.ofNat 25) : xl_Goal xs 6 := by
  have l1 := xl_lo (xs 1)
  have u1 := xl_hi (xs 1)
  have l2 := xl_lo (xs 2)
  have u2 := xl_hi (xs 2)
  have l3 := xl_lo (xs 3)
  have u3 := xl_hi (xs 3)
  by_cases h1_0 : (xs 1).toInt ≤ (-1)
  · exact xl_app hop [((-2147483648), (-1)), ((-2147483648), 2147483647), ((-2147483648), 2147483647)] (xl_in3 (by omega) (by omega) (by omega) (by omega) (by omega) (by omega)) xl_t114
  by_cases h1_1 : (xs 1).toInt ≤ 0
  · by_cases h2_0 : (xs 2).toInt ≤ (-1)
    · exact xl_app hop [(0, 0), ((-2147483648), (-1)), ((-2147483648), 2147483647)] (xl_in3 (by omega) (by omega) (by omega) (by omega) (by omega) (by omega)) xl_t115
    exact xl_app hop [(0, 0), (0, 2147483647), ((-2147483648), 2147483647)] (xl_in3 (by omega) (by omega) (by omega) (by omega) (by omega) (by omega)) xl_t116
  by_cases h1_2 : (xs 1).toInt ≤ 1
  · by_cases h2_0 : (xs 2).toInt ≤ (-1)
    · exact xl_app hop [(1, 1), ((-2147483648), (-1)), ((-2147483648), 2147483647)] (xl_in3 (by omega) (by omega) (by omega) (by omega) (by omega) (by omega)) xl_t117
    exact xl_app hop [(1, 1), (0, 2147483647), ((-2147483648), 2147483647)] (xl_in3 (by omega) (by omega) (by omega) (by omega) (by omega) (by omega)) xl_t118
  exact xl_app hop [(2, 2147483647), ((-2147483648), 2147483647), ((-2147483648), 2147483647)] (xl_in3 (by omega) (by omega) (by omega) (by omega) (by omega) (by omega)) xl_t119
theorem xl_op26 {xs : Nat → Int32} (hop : xs 0 &&& 63 = Int32.ofNat 26) : xl_Goal xs 6 := by
  have l1 := xl_lo (xs 1)
  have u1 := xl_hi (xs 1)
  have l2 := xl_lo (xs 2)
  have u2 := xl_hi (xs 2)
  have l3 := xl_lo (xs 3)
  have u3 := xl_hi (xs 3)
  by_cases h1_0 : (xs 3).toInt ≤ (-1)
  · exact xl_app hop [((-2147483648), 2147483647), ((-2147483648), 2147483647), ((-2147483648), (-1))] (xl_in3 (by omega) (by omega) (by omega) (by omega) (by omega) (by omega)) xl_t120
  by_cases h1_1 : (xs 3).toInt ≤ 2
  · by_cases h2_0 : (xs 2).toInt ≤ (-1)
    · exact xl_app hop [((-2147483648), 2147483647), ((-2147483648), (-1)), (0, 2)] (xl_in3 (by omega) (by omega) (by omega) (by omega) (by omega) (by omega)) xl_t121
    by_cases h2_1 : (xs 2).toInt ≤ 0
    · exact xl_app hop [((-2147483648), 2147483647), (0, 0), (0, 2)] (xl_in3 (by omega) (by omega) (by omega) (by omega) (by omega) (by omega)) xl_t122
    by_cases h2_2 : (xs 2).toInt ≤ 1
    · exact xl_app hop [((-2147483648), 2147483647), (1, 1), (0, 2)] (xl_in3 (by omega) (by omega) (by omega) (by omega) (by omega) (by omega)) xl_t123
    by_cases h2_3 : (xs 2).toInt ≤ 2
    · exact xl_app hop [((-2147483648), 2147483647), (2, 2), (0, 2)] (xl_in3 (by omega) (by omega) (by omega) (by omega) (by omega) (by omega)) xl_t124
    by_cases h2_4 : (xs 2).toInt ≤ 3
    · exact xl_app hop [((-2147483648), 2147483647), (3, 3), (0, 2)] (xl_in3 (by omega) (by omega) (by omega) (by omega) (by omega) (by omega)) xl_t125
    by_cases h2_5 : (xs 2).toInt ≤ 4
    · exact xl_app hop [((-2147483648), 2147483647), (4, 4), (0, 2)] (xl_in3 (by omega) (by omega) (by omega) (by omega) (by omega) (by omega)) xl_t126
    by_cases h2_6 : (xs 2).toInt ≤ 5
    · exact xl_app hop [((-2147483648), 2147483647), (5, 5), (0, 2)] (xl_in3 (by omega) (by omega) (by omega) (by omega) (by omega) (by omega)) xl_t127
    by_cases h2_7 : (xs 2).toInt ≤ 6
    · exact xl_app hop [((-2147483648), 2147483647), (6, 6), (0, 2)] (xl_in3 (by omega) (by omega) (by omega) (by omega) (by omega) (by omega)) xl_t128
    by_cases h2_8 : (xs 2).toInt ≤ 7
    · exact xl_app hop [((-2147483648), 2147483647), (7, 7), (0, 2)] (xl_in3 (by omega) (by omega) (by omega) (by omega) (by omega) (by omega)) xl_t129
    by_cases h2_9 : (xs 2).toInt ≤ 8
    · exact xl_app hop [((-2147483648), 2147483647), (8, 8), (0, 2)] (xl_in3 (by omega) (by omega) (by omega) (by omega) (by omega) (by omega)) xl_t130
    by_cases h2_10 : (xs 2).toInt ≤ 9
    · exact xl_app hop [((-2147483648), 2147483647), (9, 9), (0, 2)] (xl_in3 (by omega) (by omega) (by omega) (by omega) (by omega) (by omega)) xl_t131
    by_cases h2_11 : (xs 2).toInt ≤ 10
    · exact xl_app hop [((-2147483648), 2147483647), (10, 10), (0, 2)] (xl_in3 (by omega) (by omega) (by omega) (by omega) (by omega) (by omega)) xl_t132
    by_cases h2_12 : (xs 2).toInt ≤ 11
    · exact xl_app hop [((-2147483648), 2147483647), (11, 11), (0, 2)] (xl_in3 (by omega) (by omega) (by omega) (by omega) (by omega) (by omega)) xl_t133
    by_cases h2_13 : (xs 2).toInt ≤ 12
    · exact xl_app hop [((-2147483648), 2147483647), (12, 12), (0, 2)] (xl_in3 (by omega) (by omega) (by omega) (by omega) (by omega) (by omega)) xl_t134
    by_cases h2_14 : (xs 2).toInt ≤ 13
    · exact xl_app hop [((-2147483648), 2147483647), (13, 13), (0, 2)] (xl_in3 (by omega) (by omega) (by omega) (by omega) (by omega) (by omega)) xl_t135
    by_cases h2_15 : (xs 2).toInt ≤ 14
    · exact xl_app hop [((-2147483648), 2147483647), (14, 14), (0, 2)] (xl_in3 (by omega) (by omega) (by omega) (by omega) (by omega) (by omega)) xl_t136
    by_cases h2_16 : (xs 2).toInt ≤ 15
    · exact xl_app hop [((-2147483648), 2147483647), (15, 15), (0, 2)] (xl_in3 (by omega) (by omega) (by omega) (by omega) (by omega) (by omega)) xl_t137
    by_cases h2_17 : (xs 2).toInt ≤ 16
    · exact xl_app hop [((-2147483648), 2147483647), (16, 16), (0, 2)] (xl_in3 (by omega) (by omega) (by omega) (by omega) (by omega) (by omega)) xl_t138
    by_cases h2_18 : (xs 2).toInt ≤ 17
    · exact xl_app hop [((-2147483648), 2147483647), (17, 17), (0, 2)] (xl_in3 (by omega) (by omega) (by omega) (by omega) (by omega) (by omega)) xl_t139
    by_cases h2_19 : (xs 2).toInt ≤ 18
    · exact xl_app hop [((-2147483648), 2147483647), (18, 18), (0, 2)] (xl_in3 (by omega) (by omega) (by omega) (by omega) (by omega) (by omega)) xl_t140
    by_cases h2_20 : (xs 2).toInt ≤ 19
    · exact xl_app hop [((-2147483648), 2147483647), (19, 19), (0, 2)] (xl_in3 (by omega) (by omega) (by omega) (by omega) (by omega) (by omega)) xl_t141
    by_cases h2_21 : (xs 2).toInt ≤ 20
    · exact xl_app hop [((-2147483648), 2147483647), (20, 20), (0, 2)] (xl_in3 (by omega) (by omega) (by omega) (by omega) (by omega) (by omega)) xl_t142
    by_cases h2_22 : (xs 2).toInt ≤ 21
    · exact xl_app hop [((-2147483648), 2147483647), (21, 21), (0, 2)] (xl_in3 (by omega) (by omega) (by omega) (by omega) (by omega) (by omega)) xl_t143
    by_cases h2_23 : (xs 2).toInt ≤ 22
    · exact xl_app hop [((-2147483648), 2147483647), (22, 22), (0, 2)] (xl_in3 (by omega) (by omega) (by omega) (by omega) (by omega) (by omega)) xl_t144
    by_cases h2_24 : (xs 2).toInt ≤ 23
    · exact xl_app hop [((-2147483648), 2147483647), (23, 23), (0, 2)] (xl_in3 (by omega) (by omega) (by omega) (by omega) (by omega) (by omega)) xl_t145
    by_cases h2_25 : (xs 2).toInt ≤ 24
    · exact xl_app hop [((-2147483648), 2147483647), (24, 24), (0, 2)] (xl_in3 (by omega) (by omega) (by omega) (by omega) (by omega) (by omega)) xl_t146
    by_cases h2_26 : (xs 2).toInt ≤ 25
    · exact xl_app hop [((-2147483648), 2147483647), (25, 25), (0, 2)] (xl_in3 (by omega) (by omega) (by omega) (by omega) (by omega) (by omega)) xl_t147
    by_cases h2_27 : (xs 2).toInt ≤ 26
    · exact xl_app hop [((-2147483648), 2147483647), (26, 26), (0, 2)] (xl_in3 (by omega) (by omega) (by omega) (by omega) (by omega) (by omega)) xl_t148
    by_cases h2_28 : (xs 2).toInt ≤ 27
    · exact xl_app hop [((-2147483648), 2147483647), (27, 27), (0, 2)] (xl_in3 (by omega) (by omega) (by omega) (by omega) (by omega) (by omega)) xl_t149
    by_cases h2_29 : (xs 2).toInt ≤ 28
    · exact xl_app hop [((-2147483648), 2147483647), (28, 28), (0, 2)] (xl_in3 (by omega) (by omega) (by omega) (by omega) (by omega) (by omega)) xl_t150
    by_cases h2_30 : (xs 2).toInt ≤ 29
    · exact xl_app hop [((-2147483648), 2147483647), (29, 29), (0, 2)] (xl_in3 (by omega) (by omega) (by omega) (by omega) (by omega) (by omega)) xl_t151
    by_cases h2_31 : (xs 2).toInt ≤ 30
    · exact xl_app hop [((-2147483648), 2147483647), (30, 30), (0, 2)] (xl_in3 (by omega) (by omega) (by omega) (by omega) (by omega) (by omega)) xl_t152
    by_cases h2_32 : (xs 2).toInt ≤ 31
    · exact xl_app hop [((-2147483648), 2147483647), (31, 31), (0, 2)] (xl_in3 (by omega) (by omega) (by omega) (by omega) (by omega) (by omega)) xl_t153
    by_cases h2_33 : (xs 2).toInt ≤ 32
    · exact xl_app hop [((-2147483648), 2147483647), (32, 32), (0, 2)] (xl_in3 (by omega) (by omega) (by omega) (by omega) (by omega) (by omega)) xl_t154
    by_cases h2_34 : (xs 2).toInt ≤ 33
    · exact xl_app hop [((-2147483648), 2147483647), (33, 33), (0, 2)] (xl_in3 (by omega) (by omega) (by omega) (by omega) (by omega) (by omega)) xl_t155
    by_cases h2_35 : (xs 2).toInt ≤ 34
    · exact xl_app hop [((-2147483648), 2147483647), (34, 34), (0, 2)] (xl_in3 (by omega) (by omega) (by omega) (by omega) (by omega) (by omega)) xl_t156
    by_cases h2_36 : (xs 2).toInt ≤ 35
    · exact xl_app hop [((-2147483648), 2147483647), (35, 35), (0, 2)] (xl_in3 (by omega) (by omega) (by omega) (by omega) (by omega) (by omega)) xl_t157
    by_cases h2_37 : (xs 2).toInt ≤ 36
    · exact xl_app hop [((-2147483648), 2147483647), (36, 36), (0, 2)] (xl_in3 (by omega) (by omega) (by omega) (by omega) (by omega) (by omega)) xl_t158
    by_cases h2_38 : (xs 2).toInt ≤ 37
    · exact xl_app hop [((-2147483648), 2147483647), (37, 37), (0, 2)] (xl_in3 (by omega) (by omega) (by omega) (by omega) (by omega) (by omega)) xl_t159
    by_cases h2_39 : (xs 2).toInt ≤ 38
    · exact xl_app hop [((-2147483648), 2147483647), (38, 38), (0, 2)] (xl_in3 (by omega) (by omega) (by omega) (by omega) (by omega) (by omega)) xl_t160
    by_cases h2_40 : (xs 2).toInt ≤ 39
    · exact xl_app hop [((-2147483648), 2147483647), (39, 39), (0, 2)] (xl_in3 (by omega) (by omega) (by omega) (by omega) (by omega) (by omega)) xl_t161
    by_cases h2_41 : (xs 2).toInt ≤ 40
    · exact xl_app hop [((-2147483648), 2147483647), (40, 40), (0, 2)] (xl_in3 (by omega) (by omega) (by omega) (by omega) (by omega) (by omega)) xl_t162
    by_cases h2_42 : (xs 2).toInt ≤ 41
    · exact xl_app hop [((-2147483648), 2147483647), (41, 41), (0, 2)] (xl_in3 (by omega) (by omega) (by omega) (by omega) (by omega) (by omega)) xl_t163
    by_cases h2_43 : (xs 2).toInt ≤ 42
    · exact xl_app hop [((-2147483648), 2147483647), (42, 42), (0, 2)] (xl_in3 (by omega) (by omega) (by omega) (by omega) (by omega) (by omega)) xl_t164
    by_cases h2_44 : (xs 2).toInt ≤ 43
    · exact xl_app hop [((-2147483648), 2147483647), (43, 43), (0, 2)] (xl_in3 (by omega) (by omega) (by omega) (by omega) (by omega) (by omega)) xl_t165
    by_cases h2_45 : (xs 2).toInt ≤ 44
    · exact xl_app hop [((-2147483648), 2147483647), (44, 44), (0, 2)] (xl_in3 (by omega) (by omega) (by omega) (by omega) (by omega) (by omega)) xl_t166
    by_cases h2_46 : (xs 2).toInt ≤ 45
    · exact xl_app hop [((-2147483648), 2147483647), (45, 45), (0, 2)] (xl_in3 (by omega) (by omega) (by omega) (by omega) (by omega) (by omega)) xl_t167
    by_cases h2_47 : (xs 2).toInt ≤ 46
    · exact xl_app hop [((-2147483648), 2147483647), (46, 46), (0, 2)] (xl_in3 (by omega) (by omega) (by omega) (by omega) (by omega) (by omega)) xl_t168
    by_cases h2_48 : (xs 2).toInt ≤ 47
    · exact xl_app hop [((-2147483648), 2147483647), (47, 47), (0, 2)] (xl_in3 (by omega) (by omega) (by omega) (by omega) (by omega) (by omega)) xl_t169
    by_cases h2_49 : (xs 2).toInt ≤ 48
    · exact xl_app hop [((-2147483648), 2147483647), (48, 48), (0, 2)] (xl_in3 (by omega) (by omega) (by omega) (by omega) (by omega) (by omega)) xl_t170
    by_cases h2_50 : (xs 2).toInt ≤ 49
    · exact xl_app hop [((-2147483648), 2147483647), (49, 49), (0, 2)] (xl_in3 (by omega) (by omega) (by omega) (by omega) (by omega) (by omega)) xl_t171
    by_cases h2_51 : (xs 2).toInt ≤ 50
    · exact xl_app hop [((-2147483648), 2147483647), (50, 50), (0, 2)] (xl_in3 (by omega) (by omega) (by omega) (by omega) (by omega) (by omega)) xl_t172
    by_cases h2_52 : (xs 2).toInt ≤ 51
    · exact xl_app hop [((-2147483648), 2147483647), (51, 51), (0, 2)] (xl_in3 (by omega) (by omega) (by omega) (by omega) (by omega) (by omega)) xl_t173
    by_cases h2_53 : (xs 2).toInt ≤ 52
    · exact xl_app hop [((-2147483648), 2147483647), (52, 52), (0, 2)] (xl_in3 (by omega) (by omega) (by omega) (by omega) (by omega) (by omega)) xl_t174
    by_cases h2_54 : (xs 2).toInt ≤ 53
    · exact xl_app hop [((-2147483648), 2147483647), (53, 53), (0, 2)] (xl_in3 (by omega) (by omega) (by omega) (by omega) (by omega) (by omega)) xl_t175
    by_cases h2_55 : (xs 2).toInt ≤ 54
    · exact xl_app hop [((-2147483648), 2147483647), (54, 54), (0, 2)] (xl_in3 (by omega) (by omega) (by omega) (by omega) (by omega) (by omega)) xl_t176
    by_cases h2_56 : (xs 2).toInt ≤ 55
    · exact xl_app hop [((-2147483648), 2147483647), (55, 55), (0, 2)] (xl_in3 (by omega) (by omega) (by omega) (by omega) (by omega) (by omega)) xl_t177
    by_cases h2_57 : (xs 2).toInt ≤ 56
    · exact xl_app hop [((-2147483648), 2147483647), (56, 56), (0, 2)] (xl_in3 (by omega) (by omega) (by omega) (by omega) (by omega) (by omega)) xl_t178
    by_cases h2_58 : (xs 2).toInt ≤ 57
    · exact xl_app hop [((-2147483648), 2147483647), (57, 57), (0, 2)] (xl_in3 (by omega) (by omega) (by omega) (by omega) (by omega) (by omega)) xl_t179
    by_cases h2_59 : (xs 2).toInt ≤ 58
    · exact xl_app hop [((-2147483648), 2147483647), (58, 58), (0, 2)] (xl_in3 (by omega) (by omega) (by omega) (by omega) (by omega) (by omega)) xl_t180
    by_cases h2_60 : (xs 2).toInt ≤ 59
    · exact xl_app hop [((-2147483648), 2147483647), (59, 59), (0, 2)] (xl_in3 (by omega) (by omega) (by omega) (by omega) (by omega) (by omega)) xl_t181
    by_cases h2_61 : (xs 2).toInt ≤ 60
    · exact xl_app hop [((-2147483648), 2147483647), (60, 60), (0, 2)] (xl_in3 (by omega) (by omega) (by omega) (by omega) (by omega) (by omega)) xl_t182
    exact xl_app hop [((-2147483648), 2147483647), (61, 2147483647), (0, 2)] (xl_in3 (by omega) (by omega) (by omega) (by omega) (by omega) (by omega)) xl_t183
  exact xl_app hop [((-2147483648), 2147483647), ((-2147483648), 2147483647), (3, 2147483647)] (xl_in3 (by omega) (by omega) (by omega) (by omega) (by omega) (by omega)) xl_t184
theorem xl_op27 {xs : Nat → Int32} (hop : xs 0 &&& 63 = Int32.ofNat 27) : xl_Goal xs 6 := by
  have l1 := xl_lo (xs 1)
  have u1 := xl_hi (xs 1)
  by_cases h1_0 : (xs 1).toInt ≤ (-1)
  · exact xl_app hop [((-2147483648), (-1))] (xl_in1 (by omega) (by omega)) xl_t185
  by_cases h1_1 : (xs 1).toInt ≤ 0
  · exact xl_app hop [(0, 0)] (xl_in1 (by omega) (by omega)) xl_t186
  by_cases h1_2 : (xs 1).toInt ≤ 1
  · exact xl_app hop [(1, 1)] (xl_in1 (by omega) (by omega)) xl_t187
  by_cases h1_3 : (xs 1).toInt ≤ 2
  · exact xl_app hop [(2, 2)] (xl_in1 (by omega) (by omega)) xl_t188
  by_cases h1_4 : (xs 1).toInt ≤ 3
  · exact xl_app hop [(3, 3)] (xl_in1 (by omega) (by omega)) xl_t189
  by_cases h1_5 : (xs 1).toInt ≤ 4
  · exact xl_app hop [(4, 4)] (xl_in1 (by omega) (by omega)) xl_t190
  by_cases h1_6 : (xs 1).toInt ≤ 5
  · exact xl_app hop [(5, 5)] (xl_in1 (by omega) (by omega)) xl_t191
  exact xl_app hop [(6, 2147483647)] (xl_in1 (by omega) (by omega)) xl_t192
theorem xl_op28 {xs : Nat → Int32} (hop : xs 0 &&& 63 = Int32.ofNat 28) : xl_Goal xs 6 := by
  have l1 := xl_lo (xs 1)
  have u1 := xl_hi (xs 1)
  by_cases h1_0 : (xs 1).toInt ≤ (-1)
  · exact xl_app hop [((-2147483648), (-1))] (xl_in1 (by omega) (by omega)) xl_t193
  exact xl_app hop [(0, 2147483647)] (xl_in1 (by omega) (by omega)) xl_t194
theorem xl_op29 {xs : Nat → Int32} (hop : xs 0 &&& 63 = Int32.ofNat 29) : xl_Goal xs 6 := by
  have l1 := xl_lo (xs 1)
  have u1 := xl_hi (xs 1)
  by_cases h1_0 : (xs 1).toInt ≤ (-1)
  · exact xl_appS hop [((-2147483648), (-1))] (xl_in1 (by omega) (by omega)) xl_t195
  by_cases h1_1 : (xs 1).toInt ≤ 0
  · exact xl_app hop [(0, 0)] (xl_in1 (by omega) (by omega)) xl_t196
  exact xl_appS hop [(1, 2147483647)] (xl_in1 (by omega) (by omega)) xl_t197
theorem xl_op30 {xs : Nat → Int32} (hop : xs 0 &&& 63 = Int32.ofNat 30) : xl_Goal xs 6 := by
  have l1 := xl_lo (xs 1)
  have u1 := xl_hi (xs 1)
  have l2 := xl_lo (xs 2)
  have u2 := xl_hi (xs 2)
  by_cases h1_0 : (xs 1).toInt ≤ (-1)
  · exact xl_app hop [((-2147483648), (-1)), ((-2147483648), 2147483647)] (xl_in2 (by omega) (by omega) (by omega) (by omega)) xl_t198
  exact xl_app hop [(0, 2147483647), ((-2147483648), 2147483647)] (xl_in2 (by omega) (by omega) (by omega) (by omega)) xl_t199
theorem xl_op31 {xs : Nat → Int32} (hop : xs 0 &&& 63 = Int32.ofNat 31) : xl_Goal xs 6 := by
  have l1 := xl_lo (xs 1)
  have u1 := xl_hi (xs 1)
  by_cases h1_0 : (xs 1).toInt ≤ (-1)
  · exact xl_app hop [((-2147483648), (-1))] (xl_in1 (by omega) (by omega)) xl_t200
  exact xl_app hop [(0, 2147483647)] (xl_in1 (by omega) (by omega)) xl_t201
theorem xl_op32 {xs : Nat → Int32} (hop : xs 0 &&& 63 = Int32.ofNat 32) : xl_Goal xs 6 := by
  exact xl_app hop [] (xl_in0) xl_t202
theorem xl_op33 {xs : Nat → Int32} (hop : xs 0 &&& 63 = Int32.ofNat 33) : xl_Goal xs 6 := by
  have l1 := xl_lo (xs 1)
  have u1 := xl_hi (xs 1)
  have l2 := xl_lo (xs 2)
  have u2 := xl_hi (xs 2)
  by_cases h1_0 : (xs 1).toInt ≤ (-1)
  · exact xl_app hop [((-2147483648), (-1)), ((-2147483648), 2147483647)] (xl_in2 (by omega) (by omega) (by omega) (by omega)) xl_t203
  exact xl_app hop [(0, 2147483647), ((-2147483648), 2147483647)] (xl_in2 (by omega) (by omega) (by omega) (by omega)) xl_t204
theorem xl_op34 {xs : Nat → Int32} (hop : xs 0 &&& 63 = Int32.ofNat 34) : xl_Goal xs 6 := by
  have l1 := xl_lo (xs 1)
  have u1 := xl_hi (xs 1)
  by_cases h1_0 : (xs 1).toInt ≤ (-1)
  · exact xl_app hop [((-2147483648), (-1))] (xl_in1 (by omega) (by omega)) xl_t205
  by_cases h1_1 : (xs 1).toInt ≤ 0
  · exact xl_app hop [(0, 0)] (xl_in1 (by omega) (by omega)) xl_t206
  by_cases h1_2 : (xs 1).toInt ≤ 1
  · exact xl_app hop [(1, 1)] (xl_in1 (by omega) (by omega)) xl_t207
  exact xl_app hop [(2, 2147483647)] (xl_in1 (by omega) (by omega)) xl_t208
theorem xl_op35 {xs : Nat → Int32} (hop : xs 0 &&& 63 = Int32.ofNat 35) : xl_Goal xs 6 := by
  exact xl_app hop [] (xl_in0) xl_t209
theorem xl_op36 {xs : Nat → Int32} (hop : xs 0 &&& 63 = Int32.ofNat 36) : xl_Goal xs 6 := by
  exact xl_app hop [] (xl_in0) xl_t210
theorem xl_op0 {xs : Nat → Int32} (hop : xs 0 &&& 63 = Int32.ofNat 0) : xl_Goal xs 6 := xl_any (xl_GF_ok hop) rfl xl_tF
theorem xl_opD {xs : Nat → Int32} (h1 : 37 ≤ (xs 0 &&& 63).toInt) (h2 : (xs 0 &&& 63).toInt ≤ 63) : xl_Goal xs 6 := xl_any (xl_GD_ok h1 h2) rfl xl_tD
theorem xl_63 (x : Int32) : 0 ≤ (x &&& 63).toInt ∧ (x &&& 63).toInt ≤ 63 := by
  have h : (x.toBitVec &&& 63#32).toNat ≤ 63 := by
    rw [BitVec.toNat_and]
    exact Nat.and_le_right
  have e : (x &&& 63).toInt = ((x.toBitVec &&& 63#32).toNat : Int) := by
    show (x.toBitVec &&& 63#32).toInt = _
    rw [BitVec.toInt_eq_toNat_cond, if_pos (by omega)]
  omega
theorem xl_six (xs : Nat → Int32) : xl_Goal xs 6 := by
  obtain ⟨h1, h2⟩ := xl_63 (xs 0)
  by_cases hD : 37 ≤ (xs 0 &&& 63).toInt
  · exact xl_opD hD h2
  obtain ⟨n, hn⟩ : ∃ n : Nat, (xs 0 &&& 63).toInt = (n : Int) := ⟨(xs 0 &&& 63).toInt.toNat, by omega⟩
  have hn2 : n < 37 := by omega
  have hop : xs 0 &&& 63 = Int32.ofNat n := by
    rw [← Int32.toInt_inj, hn, xs_zToInt (by omega)]
  match n, hn2, hop with
  | 0, _, hop => exact xl_op0 hop
  | 1, _, hop => exact xl_op1 hop
  | 2, _, hop => exact xl_op2 hop
  | 3, _, hop => exact xl_op3 hop
  | 4, _, hop => exact xl_op4 hop
  | 5, _, hop => exact xl_op5 hop
  | 6, _, hop => exact xl_op6 hop
  | 7, _, hop => exact xl_op7 hop
  | 8, _, hop => exact xl_op8 hop
  | 9, _, hop => exact xl_op9 hop
  | 10, _, hop => exact xl_op10 hop
  | 11, _, hop => exact xl_op11 hop
  | 12, _, hop => exact xl_op12 hop
  | 13, _, hop => exact xl_op13 hop
  | 14, _, hop => exact xl_op14 hop
  | 15, _, hop => exact xl_op15 hop
  | 16, _, hop => exact xl_op16 hop
  | 17, _, hop => exact xl_op17 hop
  | 18, _, hop => exact xl_op18 hop
  | 19, _, hop => exact xl_op19 hop
  | 20, _, hop => exact xl_op20 hop
  | 21, _, hop => exact xl_op21 hop
  | 22, _, hop => exact xl_op22 hop
  | 23, _, hop => exact xl_op23 hop
  | 24, _, hop => exact xl_op24 hop
  | 25, _, hop => exact xl_op25 hop
  | 26, _, hop => exact xl_op26 hop
  | 27, _, hop => exact xl_op27 hop
  | 28, _, hop => exact xl_op28 hop
  | 29, _, hop => exact xl_op29 hop
  | 30, _, hop => exact xl_op30 hop
  | 31, _, hop => exact xl_op31 hop
  | 32, _, hop => exact xl_op32 hop
  | 33, _, hop => exact xl_op33 hop
  | 34, _, hop => exact xl_op34 hop
  | 35, _, hop => exact xl_op35 hop
  | 36, _, hop => exact xl_op36 hop
  | k + 37, h, _ => omega
theorem xl_every (xs : Nat → Int32) (L : Nat) (hL : L ≤ 6) : xl_Goal xs L := by
  match L, hL with
  | 0, _ => exact xl_any (xl_G0_ok xs 0) rfl xl_tS0
  | 1, _ => exact xl_any (xl_G0_ok xs 1) rfl xl_tS1
  | 2, _ => exact xl_any (xl_G0_ok xs 2) rfl xl_tS2
  | 3, _ => exact xl_any (xl_G0_ok xs 3) rfl xl_tS3
  | 4, _ => exact xl_any (xl_G0_ok xs 4) rfl xl_tS4
  | 5, _ => exact xl_any (xl_G0_ok xs 5) rfl xl_tS5
  | 6, _ => exact xl_six xs
  | k + 7, h => omega
