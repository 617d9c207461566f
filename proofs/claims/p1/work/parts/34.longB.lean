/-! the leaves: long runs -/
theorem xl_t145 : xl_is (xl_run (xl_GI (.int (Int32.ofNat 26)) [((-2147483648), 2147483647), (23, 23), (0, 2)])) = true := by decide +kernel
theorem xl_t146 : xl_is (xl_run (xl_GI (.int (Int32.ofNat 26)) [((-2147483648), 2147483647), (24, 24), (0, 2)])) = true := by decide +kernel
theorem xl_t147 : xl_is (xl_run (xl_GI (.int (Int32.ofNat 26)) [((-2147483648), 2147483647), (25, 25), (0, 2)])) = true := by decide +kernel
theorem xl_t148 : xl_is (xl_run (xl_GI (.int (Int32.ofNat 26)) [((-2147483648), 2147483647), (26, 26), (0, 2)])) = true := by decide +kernel
theorem xl_t149 : xl_is (xl_run (xl_GI (.int (Int32.ofNat 26)) [((-2147483648), 2147483647), (27, 27), (0, 2)])) = true := by decide +kernel
theorem xl_t150 : xl_is (xl_run (xl_GI (.int (Int32.ofNat 26)) [((-2147483648), 2147483647), (28, 28), (0, 2)])) = true := by decide +kernel
theorem xl_t151 : xl_is (xl_run (xl_GI (.int (Int32.ofNat 26)) [((-2147483648), 2147483647), (29, 29), (0, 2)])) = true := by decide +kernel
theorem xl_t152 : xl_is (xl_run (xl_GI (.int (Int32.ofNat 26)) [((-2147483648), 2147483647), (30, 30), (0, 2)])) = true := by decide +kernel
theorem xl_t153 : xl_is (xl_run (xl_GI (.int (Int32.ofNat 26)) [((-2147483648), 2147483647), (31, 31), (0, 2)])) = true := by decide +kernel
theorem xl_t154 : xl_is (xl_run (xl_GI (.int (Int32.ofNat 26)) [((-2147483648), 2147483647), (32, 32), (0, 2)])) = true := by decide +kernel
theorem xl_t155 : xl_is (xl_run (xl_GI (.int (Int32.ofNat 26)) [((-2147483648), 2147483647), (33, 33), (0, 2)])) = true := by decide +kernel
theorem xl_t156 : xl_is (xl_run (xl_GI (.int (Int32.ofNat 26)) [((-2147483648), 2147483647), (34, 34), (0, 2)])) = true := by decide +kernel
theorem xl_t157 : xl_is (xl_run (xl_GI (.int (Int32.ofNat 26)) [((-2147483648), 2147483647), (35, 35), (0, 2)])) = true := by decide +kernel
theorem xl_t158 : xl_is (xl_run (xl_GI (.int (Int32.ofNat 26)) [((-2147483648), 2147483647), (36, 36), (0, 2)])) = true := by decide +kernel
theorem xl_t159 : xl_is (xl_run (xl_GI (.int (Int32.ofNat 26)) [((-2147483648), 2147483647), (37, 37), (0, 2)])) = true := by decide +kernel
theorem xl_t160 : xl_is (xl_run (xl_GI (.int (Int32.ofNat 26)) [((-2147483648), 2147483647), (38, 38), (0, 2)])) = true := by decide +kernel
theorem xl_t161 : xl_is (xl_run (xl_GI (.int (Int32.ofNat 26)) [((-2147483648), 2147483647), (39, 39), (0, 2)])) = true := by decide +kernel
