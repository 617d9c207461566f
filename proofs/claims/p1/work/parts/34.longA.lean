/-! the leaves: long runs -/
theorem xl_t1 : xl_is (xl_run (xl_GI (.int (Int32.ofNat 1)) [(0, 0)])) = true := by decide +kernel
theorem xl_t71 : xl_is (xl_run (xl_GI (.int (Int32.ofNat 16)) [(0, 0), (0, 0)])) = true := by decide +kernel
theorem xl_t72 : xl_is (xl_run (xl_GI (.int (Int32.ofNat 16)) [(0, 0), (1, 1)])) = true := by decide +kernel
theorem xl_t75 : xl_is (xl_run (xl_GI (.int (Int32.ofNat 16)) [(1, 1), (0, 0)])) = true := by decide +kernel
theorem xl_t76 : xl_is (xl_run (xl_GI (.int (Int32.ofNat 16)) [(1, 1), (1, 1)])) = true := by decide +kernel
theorem xl_t130 : xl_is (xl_run (xl_GI (.int (Int32.ofNat 26)) [((-2147483648), 2147483647), (8, 8), (0, 2)])) = true := by decide +kernel
theorem xl_t131 : xl_is (xl_run (xl_GI (.int (Int32.ofNat 26)) [((-2147483648), 2147483647), (9, 9), (0, 2)])) = true := by decide +kernel
theorem xl_t132 : xl_is (xl_run (xl_GI (.int (Int32.ofNat 26)) [((-2147483648), 2147483647), (10, 10), (0, 2)])) = true := by decide +kernel
theorem xl_t133 : xl_is (xl_run (xl_GI (.int (Int32.ofNat 26)) [((-2147483648), 2147483647), (11, 11), (0, 2)])) = true := by decide +kernel
theorem xl_t134 : xl_is (xl_run (xl_GI (.int (Int32.ofNat 26)) [((-2147483648), 2147483647), (12, 12), (0, 2)])) = true := by decide +kernel
theorem xl_t135 : xl_is (xl_run (xl_GI (.int (Int32.ofNat 26)) [((-2147483648), 2147483647), (13, 13), (0, 2)])) = true := by decide +kernel
theorem xl_t136 : xl_is (xl_run (xl_GI (.int (Int32.ofNat 26)) [((-2147483648), 2147483647), (14, 14), (0, 2)])) = true := by decide +kernel
theorem xl_t137 : xl_is (xl_run (xl_GI (.int (Int32.ofNat 26)) [((-2147483648), 2147483647), (15, 15), (0, 2)])) = true := by decide +kernel
theorem xl_t138 : xl_is (xl_run (xl_GI (.int (Int32.ofNat 26)) [((-2147483648), 2147483647), (16, 16), (0, 2)])) = true := by decide +kernel
theorem xl_t139 : xl_is (xl_run (xl_GI (.int (Int32.ofNat 26)) [((-2147483648), 2147483647), (17, 17), (0, 2)])) = true := by decide +kernel
theorem xl_t140 : xl_is (xl_run (xl_GI (.int (Int32.ofNat 26)) [((-2147483648), 2147483647), (18, 18), (0, 2)])) = true := by decide +kernel
theorem xl_t141 : xl_is (xl_run (xl_GI (.int (Int32.ofNat 26)) [((-2147483648), 2147483647), (19, 19), (0, 2)])) = true := by decide +kernel
theorem xl_t142 : xl_is (xl_run (xl_GI (.int (Int32.ofNat 26)) [((-2147483648), 2147483647), (20, 20), (0, 2)])) = true := by decide +kernel
theorem xl_t143 : xl_is (xl_run (xl_GI (.int (Int32.ofNat 26)) [((-2147483648), 2147483647), (21, 21), (0, 2)])) = true := by decide +kernel
theorem xl_t144 : xl_is (xl_run (xl_GI (.int (Int32.ofNat 26)) [((-2147483648), 2147483647), (22, 22), (0, 2)])) = true := by decide +kernel
