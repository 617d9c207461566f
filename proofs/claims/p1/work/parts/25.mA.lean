def xk_allP (l1 : List xe_M) (l2 : List xd_D) : Prop := ∀ (j : Nat) (M : xe_M) (d : xd_D), l1[j]? = some M → l2[j]? = some d → xk_Meth M d
theorem xk_nil : xk_allP [] [] := fun j M d h => by simp at h
theorem xk_cons {a : xe_M} {b : xd_D} {t : List xe_M} {u : List xd_D} (h : xk_mb a b = true) (ht : xk_allP t u) : xk_allP (a :: t) (b :: u) := by
  intro j M d hM hd
  cases j with
  | zero =>
    have e1 : a = M := by simpa using hM
    have e2 : b = d := by simpa using hd
    subst e1; subst e2
    exact xk_mb_ok h
  | succ j => exact ht j M d (by simpa using hM) (by simpa using hd)
theorem xk_m0 : xk_mb xm_0 xd_0 = true := by decide +kernel
theorem xk_m1 : xk_mb xm_1 xd_1 = true := by decide +kernel
theorem xk_m2 : xk_mb xm_2 xd_2 = true := by decide +kernel
theorem xk_m3 : xk_mb xm_3 xd_3 = true := by decide +kernel
theorem xk_m4 : xk_mb xm_4 xd_4 = true := by decide +kernel
theorem xk_m5 : xk_mb xm_5 xd_5 = true := by decide +kernel
theorem xk_m6 : xk_mb xm_6 xd_6 = true := by decide +kernel
theorem xk_m7 : xk_mb xm_7 xd_7 = true := by decide +kernel
theorem xk_m8 : xk_mb xm_8 xd_8 = true := by decide +kernel
theorem xk_m9 : xk_mb xm_9 xd_9 = true := by decide +kernel
theorem xk_m10 : xk_mb xm_10 xd_10 = true := by decide +kernel
theorem xk_m11 : xk_mb xm_11 xd_11 = true := by decide +kernel
theorem xk_m12 : xk_mb xm_12 xd_12 = true := by decide +kernel
theorem xk_m13 : xk_mb xm_13 xd_13 = true := by decide +kernel
theorem xk_m14 : xk_mb xm_14 xd_14 = true := by decide +kernel
theorem xk_m15 : xk_mb xm_15 xd_15 = true := by decide +kernel
theorem xk_m16 : xk_mb xm_16 xd_16 = true := by decide +kernel
theorem xk_m17 : xk_mb xm_17 xd_17 = true := by decide +kernel
theorem xk_m18 : xk_mb xm_18 xd_18 = true := by decide +kernel
theorem xk_m19 : xk_mb xm_19 xd_19 = true := by decide +kernel
theorem xk_m20 : xk_mb xm_20 xd_20 = true := by decide +kernel
theorem xk_m21 : xk_mb xm_21 xd_21 = true := by decide +kernel
theorem xk_m22 : xk_mb xm_22 xd_22 = true := by decide +kernel
theorem xk_m23 : xk_mb xm_23 xd_23 = true := by decide +kernel
theorem xk_m24 : xk_mb xm_24 xd_24 = true := by decide +kernel
theorem xk_m25 : xk_mb xm_25 xd_25 = true := by decide +kernel
theorem xk_m26 : xk_mb xm_26 xd_26 = true := by decide +kernel
theorem xk_m27 : xk_mb xm_27 xd_27 = true := by decide +kernel
theorem xk_m28 : xk_mb xm_28 xd_28 = true := by decide +kernel
theorem xk_m29 : xk_mb xm_29 xd_29 = true := by decide +kernel
theorem xk_m30 : xk_mb xm_30 xd_30 = true := by decide +kernel
theorem xk_m31 : xk_mb xm_31 xd_31 = true := by decide +kernel
theorem xk_m32 : xk_mb xm_32 xd_32 = true := by decide +kernel
theorem xk_m33 : xk_mb xm_33 xd_33 = true := by decide +kernel
theorem xk_m34 : xk_mb xm_34 xd_34 = true := by decide +kernel
theorem xk_m35 : xk_mb xm_35 xd_35 = true := by decide +kernel
theorem xk_m36 : xk_mb xm_36 xd_36 = true := by decide +kernel
theorem xk_m37 : xk_mb xm_37 xd_37 = true := by decide +kernel
theorem xk_m38 : xk_mb xm_38 xd_38 = true := by decide +kernel
theorem xk_m39 : xk_mb xm_39 xd_39 = true := by decide +kernel
theorem xk_m40 : xk_mb xm_40 xd_40 = true := by decide +kernel
theorem xk_m41 : xk_mb xm_41 xd_41 = true := by decide +kernel
theorem xk_m42 : xk_mb xm_42 xd_42 = true := by decide +kernel
theorem xk_m43 : xk_mb xm_43 xd_43 = true := by decide +kernel
theorem xk_m44 : xk_mb xm_44 xd_44 = true := by decide +kernel
theorem xk_m45 : xk_mb xm_45 xd_45 = true := by decide +kernel
theorem xk_m46 : xk_mb xm_46 xd_46 = true := by decide +kernel
theorem xk_m47 : xk_mb xm_47 xd_47 = true := by decide +kernel
theorem xk_m48 : xk_mb xm_48 xd_48 = true := by decide +kernel
theorem xk_m49 : xk_mb xm_49 xd_49 = true := by decide +kernel
theorem xk_m50 : xk_mb xm_50 xd_50 = true := by decide +kernel
theorem xk_m51 : xk_mb xm_51 xd_51 = true := by decide +kernel
theorem xk_m52 : xk_mb xm_52 xd_52 = true := by decide +kernel
theorem xk_m53 : xk_mb xm_53 xd_53 = true := by decide +kernel
theorem xk_m54 : xk_mb xm_54 xd_54 = true := by decide +kernel
theorem xk_m55 : xk_mb xm_55 xd_55 = true := by decide +kernel
theorem xk_m56 : xk_mb xm_56 xd_56 = true := by decide +kernel
theorem xk_m57 : xk_mb xm_57 xd_57 = true := by decide +kernel
theorem xk_m58 : xk_mb xm_58 xd_58 = true := by decide +kernel
theorem xk_m59 : xk_mb xm_59 xd_59 = true := by decide +kernel
theorem xk_m60 : xk_mb xm_60 xd_60 = true := by decide +kernel
theorem xk_m61 : xk_mb xm_61 xd_61 = true := by decide +kernel
theorem xk_m62 : xk_mb xm_62 xd_62 = true := by decide +kernel
theorem xk_m63 : xk_mb xm_63 xd_63 = true := by decide +kernel
