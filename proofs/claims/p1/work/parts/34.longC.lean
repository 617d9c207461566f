/-! the leaves: long runs -/
theorem xl_t162 : xl_is (xl_run (xl_GI (.int (Int32.ofNat 26)) [((-2147483648), 2147483647), (40, 40), (0, 2)])) = true := by decide +kernel
theorem xl_t163 : xl_is (xl_run (xl_GI (.int (Int32.ofNat 26)) [((-2147483648), 2147483647), (41, 41), (0, 2)])) = true := by decide +kernel
theorem xl_t164 : xl_is (xl_run (xl_GI (.int (Int32.ofNat 26)) [((-2147483648), 2147483647), (42, 42), (0, 2)])) = true := by decide +kernel
theorem xl_t165 : xl_is (xl_run (xl_GI (.int (Int32.ofNat 26)) [((-2147483648), 2147483647), (43, 43), (0, 2)])) = true := by decide +kernel
theorem xl_t166 : xl_is (xl_run (xl_GI (.int (Int32.ofNat 26)) [((-2147483648), 2147483647), (44, 44), (0, 2)])) = true := by decide +kernel
theorem xl_t167 : xl_is (xl_run (xl_GI (.int (Int32.ofNat 26)) [((-2147483648), 2147483647), (45, 45), (0, 2)])) = true := by decide +kernel
theorem xl_t168 : xl_is (xl_run (xl_GI (.int (Int32.ofNat 26)) [((-2147483648), 2147483647), (46, 46), (0, 2)])) = true := by decide +kernel
theorem xl_t169 : xl_is (xl_run (xl_GI (.int (Int32.ofNat 26)) [((-2147483648), 2147483647), (47, 47), (0, 2)])) = true := by decide +kernel
theorem xl_t170 : xl_is (xl_run (xl_GI (.int (Int32.ofNat 26)) [((-2147483648), 2147483647), (48, 48), (0, 2)])) = true := by decide +kernel
theorem xl_t171 : xl_is (xl_run (xl_GI (.int (Int32.ofNat 26)) [((-2147483648), 2147483647), (49, 49), (0, 2)])) = true := by decide +kernel
theorem xl_t172 : xl_is (xl_run (xl_GI (.int (Int32.ofNat 26)) [((-2147483648), 2147483647), (50, 50), (0, 2)])) = true := by decide +kernel
theorem xl_t173 : xl_is (xl_run (xl_GI (.int (Int32.ofNat 26)) [((-2147483648), 2147483647), (51, 51), (0, 2)])) = true := by decide +kernel
