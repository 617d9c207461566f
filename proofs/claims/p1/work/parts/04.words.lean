/-! the words that every method is given: all good ones of the tables -/
def xw_T : List Cond := lw_tbl.filter goodWord
theorem xw_in {w : Cond} (h : w ∈ lw_tbl) (g : goodWord w = true) : w ∈ xw_T := List.mem_filter.mpr ⟨h, g⟩
theorem xw_tb {w : Cond} (h : w ∈ xw_T) : w ∈ lw_tbl := (List.mem_filter.mp h).1
theorem xw_good {w : Cond} (h : w ∈ xw_T) : goodWord w = true := (List.mem_filter.mp h).2
def xk_has (w : Cond) : Bool := decide (w ∈ lw_tbl) && goodWord w
theorem xk_has_in {w : Cond} (h : xk_has w = true) : w ∈ xw_T := by
  simp only [xk_has, Bool.and_eq_true, decide_eq_true_eq] at h
  exact xw_in h.1 h.2
theorem xk_u {C : String} {T : u_T} {N : Nat} (h1 : ∀ w ∈ u_ws C T N, w ∈ lw_tbl) (h2 : (u_ws C T N).all goodWord = true) : ∀ w ∈ u_ws C T N, w ∈ xw_T := fun w h => xw_in (h1 w h) (List.all_eq_true.mp h2 w h)
theorem xk_u0 : ∀ w ∈ u_ws RX0 TX0 14, w ∈ xw_T := xk_u (by decide +kernel) (by decide +kernel)
theorem xk_u1 : ∀ w ∈ u_ws RX1 TX1 6, w ∈ xw_T := xk_u (by decide +kernel) (by decide +kernel)
theorem xk_u2 : ∀ w ∈ u_ws RX2 TX2 4, w ∈ xw_T := xk_u (by decide +kernel) (by decide +kernel)
theorem xk_u3 : ∀ w ∈ u_ws RX3 TX3 6, w ∈ xw_T := xk_u (by decide +kernel) (by decide +kernel)
theorem xk_u4 : ∀ w ∈ u_ws RX4 TX4 2, w ∈ xw_T := xk_u (by decide +kernel) (by decide +kernel)
theorem xk_u5 : ∀ w ∈ u_ws RX5 TX5 11, w ∈ xw_T := xk_u (by decide +kernel) (by decide +kernel)
theorem xk_u6 : ∀ w ∈ u_ws RX6 TX6 6, w ∈ xw_T := xk_u (by decide +kernel) (by decide +kernel)
theorem xk_u7 : ∀ w ∈ u_ws RX7 TX7 21, w ∈ xw_T := xk_u (by decide +kernel) (by decide +kernel)
theorem xk_u8 : ∀ w ∈ u_ws RX8 TX8 17, w ∈ xw_T := xk_u (by decide +kernel) (by decide +kernel)
theorem xk_u9 : ∀ w ∈ u_ws RX9 TX9 83, w ∈ xw_T := xk_u (by decide +kernel) (by decide +kernel)
/-- words that aren't good ones: what a throw needs, and a catch -/
def xw_N : List Cond := [.castable "java/lang/IllegalArgumentException" "java/lang/IllegalArgumentException", .castable "java/util/NoSuchElementException" "java/util/NoSuchElementException", .declares ⟨"java/lang/RuntimeException", "<init>", "()V"⟩, .declares ⟨"java/lang/RuntimeException", "<init>", "(Ljava/lang/String;)V"⟩, .declares ⟨"java/lang/Exception", "<init>", "()V"⟩, .declares ⟨"java/lang/Exception", "<init>", "(Ljava/lang/String;)V"⟩, .declares ⟨"java/lang/Throwable", "<init>", "()V"⟩, .declares ⟨"java/lang/Throwable", "<init>", "(Ljava/lang/String;)V"⟩]
def xw_Str : List (Nat × String) := [(88, "the tape has not so many bytes"), (146, "no such count"), (165, "no such thing of a stop"), (206, "the bus does not ride then"), (236, "no such rule"), (276, "not 0 to 12 stops"), (301, "not 0 to 60 days"), (329, "not so many paid"), (334, "there are no such riders"), (365, "no such stop"), (367, "no such rider"), (369, "no such what")]
theorem xw_N_warm {s U : State} (hW : s.WarmedH U.vm) (h : ∀ w ∈ xw_N, va_Nw w s) : ∀ w ∈ xw_N, va_Nw w U := by
  intro w hw
  have h1 := h w hw
  simp only [xw_N, List.mem_cons, List.not_mem_nil, or_false] at hw
  rcases hw with rfl | rfl | rfl | rfl | rfl | rfl | rfl | rfl
  · exact h1.warmC hW
  · exact h1.warmC hW
  · exact h1.warmD hW
  · exact h1.warmD hW
  · exact h1.warmD hW
  · exact h1.warmD hW
  · exact h1.warmD hW
  · exact h1.warmD hW
theorem xw_Nc_warm {C T : String} {s U : State} (hW : s.WarmedH U.vm) (h : va_Nc C T s) : va_Nc C T U := by
  obtain ⟨c, t, h1, h2, h3⟩ := h
  exact ⟨c, t, by rw [hW.alike.findClass]; exact h1, by rw [hW.alike.findClass]; exact h2, by rw [hW.alike.assignable]; exact h3⟩
