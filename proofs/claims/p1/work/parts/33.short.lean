/-! the leaves: short runs -/
theorem xl_tF : xl_is (xl_run xl_GF) = true := by decide +kernel
theorem xl_tD : xl_is (xl_run xl_GD) = true := by decide +kernel
theorem xl_tS0 : xl_is (xl_run (xl_G0 0)) = true := by decide +kernel
theorem xl_tS1 : xl_is (xl_run (xl_G0 1)) = true := by decide +kernel
theorem xl_tS2 : xl_is (xl_run (xl_G0 2)) = true := by decide +kernel
theorem xl_tS3 : xl_is (xl_run (xl_G0 3)) = true := by decide +kernel
theorem xl_tS4 : xl_is (xl_run (xl_G0 4)) = true := by decide +kernel
theorem xl_tS5 : xl_is (xl_run (xl_G0 5)) = true := by decide +kernel
theorem xl_t0 : xl_is (xl_run (xl_GI (.int (Int32.ofNat 1)) [((-2147483648), (-1))])) = true := by decide +kernel
theorem xl_t2 : xl_is (xl_run (xl_GI (.int (Int32.ofNat 1)) [(1, 2147483647)])) = true := by decide +kernel
theorem xl_t3 : xl_is (xl_run (xl_GI (.int (Int32.ofNat 2)) [])) = true := by decide +kernel
theorem xl_t4 : xl_is (xl_run (xl_GI (.int (Int32.ofNat 3)) [((-2147483648), (-1))])) = true := by decide +kernel
theorem xl_t5 : xl_is (xl_run (xl_GI (.int (Int32.ofNat 3)) [(0, 0)])) = true := by decide +kernel
theorem xl_t6 : xl_is (xl_run (xl_GI (.int (Int32.ofNat 3)) [(1, 1)])) = true := by decide +kernel
theorem xl_t7 : xl_is (xl_run (xl_GI (.int (Int32.ofNat 3)) [(2, 2)])) = true := by decide +kernel
theorem xl_t8 : xl_is (xl_run (xl_GI (.int (Int32.ofNat 3)) [(3, 3)])) = true := by decide +kernel
theorem xl_t9 : xl_is (xl_run (xl_GI (.int (Int32.ofNat 3)) [(4, 4)])) = true := by decide +kernel
theorem xl_t10 : xl_is (xl_run (xl_GI (.int (Int32.ofNat 3)) [(5, 5)])) = true := by decide +kernel
theorem xl_t11 : xl_is (xl_run (xl_GI (.int (Int32.ofNat 3)) [(6, 6)])) = true := by decide +kernel
theorem xl_t12 : xl_is (xl_run (xl_GI (.int (Int32.ofNat 3)) [(7, 7)])) = true := by decide +kernel
theorem xl_t13 : xl_is (xl_run (xl_GI (.int (Int32.ofNat 3)) [(8, 8)])) = true := by decide +kernel
theorem xl_t14 : xl_is (xl_run (xl_GI (.int (Int32.ofNat 3)) [(9, 9)])) = true := by decide +kernel
theorem xl_t15 : xl_is (xl_run (xl_GI (.int (Int32.ofNat 3)) [(10, 10)])) = true := by decide +kernel
theorem xl_t16 : xl_is (xl_run (xl_GI (.int (Int32.ofNat 3)) [(11, 11)])) = true := by decide +kernel
theorem xl_t17 : xl_is (xl_run (xl_GI (.int (Int32.ofNat 3)) [(12, 12)])) = true := by decide +kernel
theorem xl_t18 : xl_is (xl_run (xl_GI (.int (Int32.ofNat 3)) [(13, 13)])) = true := by decide +kernel
theorem xl_t19 : xl_is (xl_run (xl_GI (.int (Int32.ofNat 3)) [(14, 14)])) = true := by decide +kernel
theorem xl_t20 : xl_is (xl_run (xl_GI (.int (Int32.ofNat 3)) [(15, 15)])) = true := by decide +kernel
theorem xl_t21 : xl_is (xl_run (xl_GI (.int (Int32.ofNat 3)) [(16, 16)])) = true := by decide +kernel
theorem xl_t22 : xl_is (xl_run (xl_GI (.int (Int32.ofNat 3)) [(17, 17)])) = true := by decide +kernel
theorem xl_t23 : xl_is (xl_run (xl_GI (.int (Int32.ofNat 3)) [(18, 2147483647)])) = true := by decide +kernel
theorem xl_t24 : xl_is (xl_run (xl_GI (.int (Int32.ofNat 4)) [((-2147483648), (-1)), ((-2147483648), 2147483647)])) = true := by decide +kernel
theorem xl_t25 : xl_is (xl_run (xl_GI (.int (Int32.ofNat 4)) [(0, 0), ((-2147483648), (-1))])) = true := by decide +kernel
theorem xl_t26 : xl_is (xl_run (xl_GI (.int (Int32.ofNat 4)) [(0, 0), (0, 0)])) = true := by decide +kernel
theorem xl_t27 : xl_is (xl_run (xl_GI (.int (Int32.ofNat 4)) [(0, 0), (1, 1)])) = true := by decide +kernel
theorem xl_t28 : xl_is (xl_run (xl_GI (.int (Int32.ofNat 4)) [(0, 0), (2, 2)])) = true := by decide +kernel
theorem xl_t29 : xl_is (xl_run (xl_GI (.int (Int32.ofNat 4)) [(0, 0), (3, 3)])) = true := by decide +kernel
theorem xl_t30 : xl_is (xl_run (xl_GI (.int (Int32.ofNat 4)) [(0, 0), (4, 2147483647)])) = true := by decide +kernel
theorem xl_t31 : xl_is (xl_run (xl_GI (.int (Int32.ofNat 4)) [(1, 1), ((-2147483648), (-1))])) = true := by decide +kernel
theorem xl_t32 : xl_is (xl_run (xl_GI (.int (Int32.ofNat 4)) [(1, 1), (0, 0)])) = true := by decide +kernel
theorem xl_t33 : xl_is (xl_run (xl_GI (.int (Int32.ofNat 4)) [(1, 1), (1, 1)])) = true := by decide +kernel
theorem xl_t34 : xl_is (xl_run (xl_GI (.int (Int32.ofNat 4)) [(1, 1), (2, 2)])) = true := by decide +kernel
theorem xl_t35 : xl_is (xl_run (xl_GI (.int (Int32.ofNat 4)) [(1, 1), (3, 3)])) = true := by decide +kernel
theorem xl_t36 : xl_is (xl_run (xl_GI (.int (Int32.ofNat 4)) [(1, 1), (4, 2147483647)])) = true := by decide +kernel
theorem xl_t37 : xl_is (xl_run (xl_GI (.int (Int32.ofNat 4)) [(2, 2147483647), ((-2147483648), 2147483647)])) = true := by decide +kernel
theorem xl_t38 : xl_is (xl_run (xl_GI (.int (Int32.ofNat 5)) [((-2147483648), (-1)), ((-2147483648), 2147483647)])) = true := by decide +kernel
theorem xl_t39 : xl_is (xl_run (xl_GI (.int (Int32.ofNat 5)) [(0, 2147483647), ((-2147483648), 2147483647)])) = true := by decide +kernel
theorem xl_t40 : xl_is (xl_run (xl_GI (.int (Int32.ofNat 6)) [((-2147483648), (-1)), ((-2147483648), 2147483647)])) = true := by decide +kernel
theorem xl_t41 : xl_is (xl_run (xl_GI (.int (Int32.ofNat 6)) [(0, 2147483647), ((-2147483648), 2147483647)])) = true := by decide +kernel
theorem xl_t42 : xl_is (xl_run (xl_GI (.int (Int32.ofNat 7)) [((-2147483648), (-1)), ((-2147483648), 2147483647)])) = true := by decide +kernel
theorem xl_t43 : xl_is (xl_run (xl_GI (.int (Int32.ofNat 7)) [(0, 2147483647), ((-2147483648), 2147483647)])) = true := by decide +kernel
theorem xl_t44 : xl_is (xl_run (xl_GI (.int (Int32.ofNat 8)) [((-2147483648), (-1))])) = true := by decide +kernel
theorem xl_t45 : xl_is (xl_run (xl_GI (.int (Int32.ofNat 8)) [(0, 60)])) = true := by decide +kernel
theorem xl_t46 : xl_is (xl_run (xl_GI (.int (Int32.ofNat 8)) [(61, 2147483647)])) = true := by decide +kernel
theorem xl_t47 : xl_is (xl_run (xl_GI (.int (Int32.ofNat 9)) [((-2147483648), (-1)), ((-2147483648), 2147483647)])) = true := by decide +kernel
theorem xl_t48 : xl_is (xl_run (xl_GI (.int (Int32.ofNat 9)) [(0, 0), ((-2147483648), (-1))])) = true := by decide +kernel
theorem xl_t49 : xl_is (xl_run (xl_GI (.int (Int32.ofNat 9)) [(0, 0), (0, 60)])) = true := by decide +kernel
theorem xl_t50 : xl_is (xl_run (xl_GI (.int (Int32.ofNat 9)) [(0, 0), (61, 2147483647)])) = true := by decide +kernel
theorem xl_t51 : xl_is (xl_run (xl_GI (.int (Int32.ofNat 9)) [(1, 1), ((-2147483648), (-1))])) = true := by decide +kernel
theorem xl_t52 : xl_is (xl_run (xl_GI (.int (Int32.ofNat 9)) [(1, 1), (0, 60)])) = true := by decide +kernel
theorem xl_t53 : xl_is (xl_run (xl_GI (.int (Int32.ofNat 9)) [(1, 1), (61, 2147483647)])) = true := by decide +kernel
theorem xl_t54 : xl_is (xl_run (xl_GI (.int (Int32.ofNat 9)) [(2, 2147483647), ((-2147483648), 2147483647)])) = true := by decide +kernel
theorem xl_t55 : xl_is (xl_run (xl_GI (.int (Int32.ofNat 10)) [((-2147483648), (-1)), ((-2147483648), 2147483647), ((-2147483648), 2147483647)])) = true := by decide +kernel
theorem xl_t56 : xl_is (xl_run (xl_GI (.int (Int32.ofNat 10)) [(0, 2147483647), ((-2147483648), 2147483647), ((-2147483648), 2147483647)])) = true := by decide +kernel
theorem xl_t57 : xl_is (xl_run (xl_GI (.int (Int32.ofNat 11)) [((-2147483648), (-2))])) = true := by decide +kernel
theorem xl_t58 : xl_is (xl_run (xl_GI (.int (Int32.ofNat 11)) [((-1), (-1))])) = true := by decide +kernel
theorem xl_t59 : xl_is (xl_run (xl_GI (.int (Int32.ofNat 11)) [(0, 2147483647)])) = true := by decide +kernel
theorem xl_t60 : xl_is (xl_run (xl_GI (.int (Int32.ofNat 12)) [])) = true := by decide +kernel
theorem xl_t61 : xl_is (xl_run (xl_GI (.int (Int32.ofNat 13)) [((-2147483648), (-1))])) = true := by decide +kernel
theorem xl_t62 : xl_is (xl_run (xl_GI (.int (Int32.ofNat 13)) [(0, 0)])) = true := by decide +kernel
theorem xl_t63 : xl_is (xl_run (xl_GI (.int (Int32.ofNat 13)) [(1, 1)])) = true := by decide +kernel
theorem xl_t64 : xl_is (xl_run (xl_GI (.int (Int32.ofNat 13)) [(2, 2147483647)])) = true := by decide +kernel
theorem xl_t65 : xl_is (xl_run (xl_GI (.int (Int32.ofNat 14)) [((-2147483648), (-2))])) = true := by decide +kernel
theorem xl_t66 : xl_is (xl_run (xl_GI (.int (Int32.ofNat 14)) [((-1), (-1))])) = true := by decide +kernel
theorem xl_t67 : xl_is (xl_run (xl_GI (.int (Int32.ofNat 14)) [(0, 2147483647)])) = true := by decide +kernel
theorem xl_t68 : xl_is (xl_run (xl_GI (.int (Int32.ofNat 15)) [])) = true := by decide +kernel
theorem xl_t69 : xl_is (xl_run (xl_GI (.int (Int32.ofNat 16)) [((-2147483648), (-1)), ((-2147483648), 2147483647)])) = true := by decide +kernel
theorem xl_t70 : xl_is (xl_run (xl_GI (.int (Int32.ofNat 16)) [(0, 0), ((-2147483648), (-1))])) = true := by decide +kernel
theorem xl_t73 : xl_is (xl_run (xl_GI (.int (Int32.ofNat 16)) [(0, 0), (2, 2147483647)])) = true := by decide +kernel
theorem xl_t74 : xl_is (xl_run (xl_GI (.int (Int32.ofNat 16)) [(1, 1), ((-2147483648), (-1))])) = true := by decide +kernel
theorem xl_t77 : xl_is (xl_run (xl_GI (.int (Int32.ofNat 16)) [(1, 1), (2, 2147483647)])) = true := by decide +kernel
theorem xl_t78 : xl_is (xl_run (xl_GI (.int (Int32.ofNat 16)) [(2, 2147483647), ((-2147483648), 2147483647)])) = true := by decide +kernel
theorem xl_t79 : xl_is (xl_run (xl_GI (.int (Int32.ofNat 17)) [((-2147483648), (-1))])) = true := by decide +kernel
theorem xl_t80 : xl_is (xl_run (xl_GI (.int (Int32.ofNat 17)) [(0, 0)])) = true := by decide +kernel
theorem xl_t81 : xl_is (xl_run (xl_GI (.int (Int32.ofNat 17)) [(1, 1)])) = true := by decide +kernel
theorem xl_t82 : xl_is (xl_run (xl_GI (.int (Int32.ofNat 17)) [(2, 2)])) = true := by decide +kernel
theorem xl_t83 : xl_is (xl_run (xl_GI (.int (Int32.ofNat 17)) [(3, 2147483647)])) = true := by decide +kernel
theorem xl_t84 : xl_is (xl_run (xl_GI (.int (Int32.ofNat 18)) [((-2147483648), (-1))])) = true := by decide +kernel
theorem xl_t85 : xl_is (xl_run (xl_GI (.int (Int32.ofNat 18)) [(0, 0)])) = true := by decide +kernel
theorem xl_t86 : xl_is (xl_run (xl_GI (.int (Int32.ofNat 18)) [(1, 1)])) = true := by decide +kernel
theorem xl_t87 : xl_is (xl_run (xl_GI (.int (Int32.ofNat 18)) [(2, 2147483647)])) = true := by decide +kernel
theorem xl_t88 : xl_is (xl_run (xl_GI (.int (Int32.ofNat 19)) [])) = true := by decide +kernel
theorem xl_t89 : xl_is (xl_run (xl_GI (.int (Int32.ofNat 20)) [((-2147483648), (-1))])) = true := by decide +kernel
theorem xl_t90 : xl_is (xl_run (xl_GI (.int (Int32.ofNat 20)) [(0, 12)])) = true := by decide +kernel
theorem xl_t91 : xl_is (xl_run (xl_GI (.int (Int32.ofNat 20)) [(13, 2147483647)])) = true := by decide +kernel
theorem xl_t92 : xl_is (xl_run (xl_GI (.int (Int32.ofNat 21)) [((-2147483648), (-1))])) = true := by decide +kernel
theorem xl_t93 : xl_is (xl_run (xl_GI (.int (Int32.ofNat 21)) [(0, 0)])) = true := by decide +kernel
theorem xl_t94 : xl_is (xl_run (xl_GI (.int (Int32.ofNat 21)) [(1, 1)])) = true := by decide +kernel
theorem xl_t95 : xl_is (xl_run (xl_GI (.int (Int32.ofNat 21)) [(2, 2147483647)])) = true := by decide +kernel
theorem xl_t96 : xl_is (xl_run (xl_GI (.int (Int32.ofNat 22)) [((-2147483648), (-1)), ((-2147483648), 2147483647), ((-2147483648), 2147483647)])) = true := by decide +kernel
theorem xl_t97 : xl_is (xl_run (xl_GI (.int (Int32.ofNat 22)) [(0, 0), ((-2147483648), (-1)), ((-2147483648), 2147483647)])) = true := by decide +kernel
theorem xl_t98 : xl_is (xl_run (xl_GI (.int (Int32.ofNat 22)) [(0, 0), (0, 1), ((-2147483648), (-1))])) = true := by decide +kernel
theorem xl_t99 : xl_is (xl_run (xl_GI (.int (Int32.ofNat 22)) [(0, 0), (0, 1), (0, 12)])) = true := by decide +kernel
theorem xl_t100 : xl_is (xl_run (xl_GI (.int (Int32.ofNat 22)) [(0, 0), (0, 1), (13, 2147483647)])) = true := by decide +kernel
theorem xl_t101 : xl_is (xl_run (xl_GI (.int (Int32.ofNat 22)) [(0, 0), (2, 2147483647), ((-2147483648), 2147483647)])) = true := by decide +kernel
theorem xl_t102 : xl_is (xl_run (xl_GI (.int (Int32.ofNat 22)) [(1, 1), ((-2147483648), (-1)), ((-2147483648), 2147483647)])) = true := by decide +kernel
theorem xl_t103 : xl_is (xl_run (xl_GI (.int (Int32.ofNat 22)) [(1, 1), (0, 1), ((-2147483648), (-1))])) = true := by decide +kernel
theorem xl_t104 : xl_is (xl_run (xl_GI (.int (Int32.ofNat 22)) [(1, 1), (0, 1), (0, 12)])) = true := by decide +kernel
theorem xl_t105 : xl_is (xl_run (xl_GI (.int (Int32.ofNat 22)) [(1, 1), (0, 1), (13, 2147483647)])) = true := by decide +kernel
theorem xl_t106 : xl_is (xl_run (xl_GI (.int (Int32.ofNat 22)) [(1, 1), (2, 2147483647), ((-2147483648), 2147483647)])) = true := by decide +kernel
theorem xl_t107 : xl_is (xl_run (xl_GI (.int (Int32.ofNat 22)) [(2, 2147483647), ((-2147483648), 2147483647), ((-2147483648), 2147483647)])) = true := by decide +kernel
theorem xl_t108 : xl_is (xl_run (xl_GI (.int (Int32.ofNat 23)) [])) = true := by decide +kernel
theorem xl_t109 : xl_is (xl_run (xl_GI (.int (Int32.ofNat 24)) [((-2147483648), (-1))])) = true := by decide +kernel
theorem xl_t110 : xl_is (xl_run (xl_GI (.int (Int32.ofNat 24)) [(0, 0)])) = true := by decide +kernel
theorem xl_t111 : xl_is (xl_run (xl_GI (.int (Int32.ofNat 24)) [(1, 1)])) = true := by decide +kernel
theorem xl_t112 : xl_is (xl_run (xl_GI (.int (Int32.ofNat 24)) [(2, 2)])) = true := by decide +kernel
theorem xl_t113 : xl_is (xl_run (xl_GI (.int (Int32.ofNat 24)) [(3, 2147483647)])) = true := by decide +kernel
theorem xl_t114 : xl_is (xl_run (xl_GI (.int (Int32.ofNat 25)) [((-2147483648), (-1)), ((-2147483648), 2147483647), ((-2147483648), 2147483647)])) = true := by decide +kernel
theorem xl_t115 : xl_is (xl_run (xl_GI (.int (Int32.ofNat 25)) [(0, 0), ((-2147483648), (-1)), ((-2147483648), 2147483647)])) = true := by decide +kernel
theorem xl_t116 : xl_is (xl_run (xl_GI (.int (Int32.ofNat 25)) [(0, 0), (0, 2147483647), ((-2147483648), 2147483647)])) = true := by decide +kernel
theorem xl_t117 : xl_is (xl_run (xl_GI (.int (Int32.ofNat 25)) [(1, 1), ((-2147483648), (-1)), ((-2147483648), 2147483647)])) = true := by decide +kernel
theorem xl_t118 : xl_is (xl_run (xl_GI (.int (Int32.ofNat 25)) [(1, 1), (0, 2147483647), ((-2147483648), 2147483647)])) = true := by decide +kernel
theorem xl_t119 : xl_is (xl_run (xl_GI (.int (Int32.ofNat 25)) [(2, 2147483647), ((-2147483648), 2147483647), ((-2147483648), 2147483647)])) = true := by decide +kernel
theorem xl_t120 : xl_is (xl_run (xl_GI (.int (Int32.ofNat 26)) [((-2147483648), 2147483647), ((-2147483648), 2147483647), ((-2147483648), (-1))])) = true := by decide +kernel
theorem xl_t121 : xl_is (xl_run (xl_GI (.int (Int32.ofNat 26)) [((-2147483648), 2147483647), ((-2147483648), (-1)), (0, 2)])) = true := by decide +kernel
theorem xl_t122 : xl_is (xl_run (xl_GI (.int (Int32.ofNat 26)) [((-2147483648), 2147483647), (0, 0), (0, 2)])) = true := by decide +kernel
theorem xl_t123 : xl_is (xl_run (xl_GI (.int (Int32.ofNat 26)) [((-2147483648), 2147483647), (1, 1), (0, 2)])) = true := by decide +kernel
theorem xl_t124 : xl_is (xl_run (xl_GI (.int (Int32.ofNat 26)) [((-2147483648), 2147483647), (2, 2), (0, 2)])) = true := by decide +kernel
theorem xl_t125 : xl_is (xl_run (xl_GI (.int (Int32.ofNat 26)) [((-2147483648), 2147483647), (3, 3), (0, 2)])) = true := by decide +kernel
theorem xl_t126 : xl_is (xl_run (xl_GI (.int (Int32.ofNat 26)) [((-2147483648), 2147483647), (4, 4), (0, 2)])) = true := by decide +kernel
theorem xl_t127 : xl_is (xl_run (xl_GI (.int (Int32.ofNat 26)) [((-2147483648), 2147483647), (5, 5), (0, 2)])) = true := by decide +kernel
theorem xl_t128 : xl_is (xl_run (xl_GI (.int (Int32.ofNat 26)) [((-2147483648), 2147483647), (6, 6), (0, 2)])) = true := by decide +kernel
theorem xl_t129 : xl_is (xl_run (xl_GI (.int (Int32.ofNat 26)) [((-2147483648), 2147483647), (7, 7), (0, 2)])) = true := by decide +kernel
theorem xl_t183 : xl_is (xl_run (xl_GI (.int (Int32.ofNat 26)) [((-2147483648), 2147483647), (61, 2147483647), (0, 2)])) = true := by decide +kernel
theorem xl_t184 : xl_is (xl_run (xl_GI (.int (Int32.ofNat 26)) [((-2147483648), 2147483647), ((-2147483648), 2147483647), (3, 2147483647)])) = true := by decide +kernel
theorem xl_t185 : xl_is (xl_run (xl_GI (.int (Int32.ofNat 27)) [((-2147483648), (-1))])) = true := by decide +kernel
theorem xl_t186 : xl_is (xl_run (xl_GI (.int (Int32.ofNat 27)) [(0, 0)])) = true := by decide +kernel
theorem xl_t187 : xl_is (xl_run (xl_GI (.int (Int32.ofNat 27)) [(1, 1)])) = true := by decide +kernel
theorem xl_t188 : xl_is (xl_run (xl_GI (.int (Int32.ofNat 27)) [(2, 2)])) = true := by decide +kernel
theorem xl_t189 : xl_is (xl_run (xl_GI (.int (Int32.ofNat 27)) [(3, 3)])) = true := by decide +kernel
theorem xl_t190 : xl_is (xl_run (xl_GI (.int (Int32.ofNat 27)) [(4, 4)])) = true := by decide +kernel
theorem xl_t191 : xl_is (xl_run (xl_GI (.int (Int32.ofNat 27)) [(5, 5)])) = true := by decide +kernel
theorem xl_t192 : xl_is (xl_run (xl_GI (.int (Int32.ofNat 27)) [(6, 2147483647)])) = true := by decide +kernel
theorem xl_t193 : xl_is (xl_run (xl_GI (.int (Int32.ofNat 28)) [((-2147483648), (-1))])) = true := by decide +kernel
theorem xl_t194 : xl_is (xl_run (xl_GI (.int (Int32.ofNat 28)) [(0, 2147483647)])) = true := by decide +kernel
theorem xl_t195 : xl_is (xl_run (xl_GX (.int (Int32.ofNat 29)) [((-2147483648), (-1))] xl_SS)) = true := by decide +kernel
theorem xl_t196 : xl_is (xl_run (xl_GI (.int (Int32.ofNat 29)) [(0, 0)])) = true := by decide +kernel
theorem xl_t197 : xl_is (xl_run (xl_GX (.int (Int32.ofNat 29)) [(1, 2147483647)] xl_SS)) = true := by decide +kernel
theorem xl_t198 : xl_is (xl_run (xl_GI (.int (Int32.ofNat 30)) [((-2147483648), (-1)), ((-2147483648), 2147483647)])) = true := by decide +kernel
theorem xl_t199 : xl_is (xl_run (xl_GI (.int (Int32.ofNat 30)) [(0, 2147483647), ((-2147483648), 2147483647)])) = true := by decide +kernel
theorem xl_t200 : xl_is (xl_run (xl_GI (.int (Int32.ofNat 31)) [((-2147483648), (-1))])) = true := by decide +kernel
theorem xl_t201 : xl_is (xl_run (xl_GI (.int (Int32.ofNat 31)) [(0, 2147483647)])) = true := by decide +kernel
theorem xl_t202 : xl_is (xl_run (xl_GI (.int (Int32.ofNat 32)) [])) = true := by decide +kernel
theorem xl_t203 : xl_is (xl_run (xl_GI (.int (Int32.ofNat 33)) [((-2147483648), (-1)), ((-2147483648), 2147483647)])) = true := by decide +kernel
theorem xl_t204 : xl_is (xl_run (xl_GI (.int (Int32.ofNat 33)) [(0, 2147483647), ((-2147483648), 2147483647)])) = true := by decide +kernel
theorem xl_t205 : xl_is (xl_run (xl_GI (.int (Int32.ofNat 34)) [((-2147483648), (-1))])) = true := by decide +kernel
theorem xl_t206 : xl_is (xl_run (xl_GI (.int (Int32.ofNat 34)) [(0, 0)])) = true := by decide +kernel
theorem xl_t207 : xl_is (xl_run (xl_GI (.int (Int32.ofNat 34)) [(1, 1)])) = true := by decide +kernel
theorem xl_t208 : xl_is (xl_run (xl_GI (.int (Int32.ofNat 34)) [(2, 2147483647)])) = true := by decide +kernel
theorem xl_t209 : xl_is (xl_run (xl_GI (.int (Int32.ofNat 35)) [])) = true := by decide +kernel
theorem xl_t210 : xl_is (xl_run (xl_GI (.int (Int32.ofNat 36)) [])) = true := by decide +kernel
