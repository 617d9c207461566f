theorem xk_m184 : xk_Meth xm_184 xd_184 := xk_mb_ok 9 (by decide +kernel) (xk_td 60 (xk_bb_ok (by decide +kernel)) (xk_bb_ok (by decide +kernel)))
theorem xk_m185 : xk_Meth xm_185 xd_185 := xk_one 9 (by decide +kernel)
theorem xk_m186 : xk_Meth xm_186 xd_186 := xk_one 9 (by decide +kernel)
