/-! the leaves: long runs -/
theorem xl_t174 : xl_is (xl_run (xl_GI (.int (Int32.ofNat 26)) [((-2147483648), 2147483647), (52, 52), (0, 2)])) = true := by decide +kernel
theorem xl_t175 : xl_is (xl_run (xl_GI (.int (Int32.ofNat 26)) [((-2147483648), 2147483647), (53, 53), (0, 2)])) = true := by decide +kernel
theorem xl_t176 : xl_is (xl_run (xl_GI (.int (Int32.ofNat 26)) [((-2147483648), 2147483647), (54, 54), (0, 2)])) = true := by decide +kernel
theorem xl_t177 : xl_is (xl_run (xl_GI (.int (Int32.ofNat 26)) [((-2147483648), 2147483647), (55, 55), (0, 2)])) = true := by decide +kernel
theorem xl_t178 : xl_is (xl_run (xl_GI (.int (Int32.ofNat 26)) [((-2147483648), 2147483647), (56, 56), (0, 2)])) = true := by decide +kernel
theorem xl_t179 : xl_is (xl_run (xl_GI (.int (Int32.ofNat 26)) [((-2147483648), 2147483647), (57, 57), (0, 2)])) = true := by decide +kernel
theorem xl_t180 : xl_is (xl_run (xl_GI (.int (Int32.ofNat 26)) [((-2147483648), 2147483647), (58, 58), (0, 2)])) = true := by decide +kernel
theorem xl_t181 : xl_is (xl_run (xl_GI (.int (Int32.ofNat 26)) [((-2147483648), 2147483647), (59, 59), (0, 2)])) = true := by decide +kernel
theorem xl_t182 : xl_is (xl_run (xl_GI (.int (Int32.ofNat 26)) [((-2147483648), 2147483647), (60, 60), (0, 2)])) = true := by decide +kernel
