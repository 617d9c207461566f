section
variable {l : Launch} {G : xe_G} {ρ : Nat → Int32} {f : Nat} {y : Nat} {M : xe_M} {d : xd_D} {tl : List xe_I} {pc : Nat} {al : List (Nat × Value)} {st : List Value} {w : xe_W} {nc ns : Nat} {r : xe_R} {p : Program} {e : Env} {R : Room} {s : State} {m : MethodId} {args : Array Value} {below : List Frame} {meth : Method} {c : Code} {H : Heap} {locs : List Loc} {ls : Array Slot} {ad ad0 : Nat → Nat} {n0 : Nat} {A : Nat → Prop} {D : va_G} {dA : Nat → ClassId} {sa : UInt32 → Nat}
theorem xd_exOk {k : Nat} (h : k < 2) : Bundle.fit (xd_ex k) = true ∧ (xs_i ρ (.int (Int32.ofNat k))).toNatClampNeg = k := by
  match k, h with
  | 0, _ => exact ⟨by decide +kernel, show (Int32.ofNat 0).toNatClampNeg = 0 by decide⟩
  | 1, _ => exact ⟨by decide +kernel, show (Int32.ofNat 1).toNatClampNeg = 1 by decide⟩
theorem xd_nmOk : ∀ n ∈ xd_nm, Bundle.fit n = true := by decide +kernel
theorem xd_six {k : Nat} (h : k < 2) : xh_six (xd_ix k) (xd_rx k) := by
  match k, h with
  | 0, _ => exact ⟨by decide +kernel, by decide +kernel, by decide +kernel, by decide +kernel⟩
  | 1, _ => exact ⟨by decide +kernel, by decide +kernel, by decide +kernel, by decide +kernel⟩
theorem xs_bThrow_ok (hl : l.stackTraces = false) (hM : xe_P[y]? = some M) (hd : xd_P[y]? = some d) (rr : xe_K) {i : Instr} {len : Nat} {res : List Nat} {k is ic x : Nat} (hdec : decode d.2.2.1 pc = .ok (i, len)) (hk : len = 3 ∧ xk_Thr d pc i k is ic x) (hrun : xe_bThrow k xe_P G xe_Z rr M (pc, i, len, res) tl pc al st w nc ns = some r) (hI : xs_In (xs_Ls G ρ) M d w al p R s m args meth c H locs ls ad ad0 n0 A D dA sa ρ) :
    W p l e R s m args below meth c H locs nc ns (xs_FQ D dA sa ρ ad0 n0 M.2.2.2.1 M.2.2.2.2.1 A r below args s) (F0 m pc ls (st.map (xs_v ad sa ρ))) := by
  obtain ⟨rfl, hown9, hhh, hk2, hd3, ⟨ik, text, rfl, hstr, hw1, hw2, hgood⟩, hat, hx9⟩ := hk
  unfold xe_bThrow at hrun
  cases hb : Nat.ble (nc + 1) M.2.2.2.1 && Nat.ble (ns + 6) M.2.2.2.2.1 && Nat.ble st.length 4 with
  | false => rw [hb] at hrun; cases hrun
  | true =>
    rw [hb] at hrun
    cases hrun
    simp only [Bool.and_eq_true, Nat.ble_eq] at hb
    obtain ⟨⟨h1, h2⟩, h3⟩ := hb
    obtain ⟨hE, hrt, htab, ⟨hlv, hP, hD, hS⟩, hag, hn0, hrm⟩ := hI
    obtain ⟨hx, hb2, hml, hown, hts, hK, hA, hX, hNw, hini, hlk⟩ := hE
    obtain ⟨a, ha⟩ := hNw.2.2.2.2.2.2.2.1 _ hstr
    have hr8 := xs_room (ad := ad) (sa := sa) (ρ := ρ) h3
    have hown : s.vm.findClass "TingDecks" = some m.cls := by rw [← hown9]; exact hown
    have hat2 : ∀ w ∈ xd_at k ic, w.before args s = true := fun w0 hw0 => (hat w0 hw0).elim (fun h => hts w0 h) (fun h => va_Nw.use ?_ (hNw.2.2.2.2.2.2.1 w0 h))
    have hout : ∀ (z : ExceptionTableEntry) , z ∈ c.exceptionTable.toList → False := fun z hz => by
      rw [htab, hhh] at hz
      cases hz
    have hxx : ∀ t : State, s.vm.Alike t.vm → H.size ≤ t.heap.size → (∀ q : Nat, q < H.size → t.heap[q]? = H[q]?) → xs_XC D dA sa ρ ad0 n0 M.2.2.2.1 A (2, .int (Int32.ofNat k), w) (xd_ex k) s t := by
      intro t _ hz hq
      refine ⟨by rw [(xd_exOk (ρ := ρ) hk2).2], ⟨ad, hag, hn0, hP.kept (fun j q hj => hq _ (hP j q hj).lt), hD⟩, Nat.le_trans hS.1 hz, fun q h4 h5 => (hq q (Nat.lt_of_lt_of_le h4 hS.1)).trans (hS.2.1 q h4 h5)⟩
    show W p l e R s m args below meth c H locs nc ns (vx_MQ below (fun _ _ _ _ => False) (xs_XC D dA sa ρ ad0 n0 M.2.2.2.1 A (2, .int (Int32.ofNat k), w)) args s M.2.2.2.1 M.2.2.2.2.1 A) (F0 m pc ls (st.map (xs_v ad sa ρ)))
    have hlen : (xd_nm.length) = 1 := rfl
    rcases hx9 with ⟨-, hd4, hd6, hd9⟩ | ⟨-, hd4, hd6, hd9⟩
    · exact xh_throwS (own := "TingDecks") (cls := xd_ex k) (Y1 := "java/lang/RuntimeException") (text := text) (names := xd_nm) (A := A) hx hb2 hl (xd_six hk2) hown (xd_exOk (ρ := ρ) hk2).1 (by decide +kernel) xd_nmOk (hts _ hw1) (hts _ hw2) ha hat2 hgood hX.2.2.1 hX.2.2.2.1 hS (by rw [hml]; exact hlv.1) hdec hd3 hd4 hd6 hd9 (fun z hz => (hout z hz).elim) (by rw [hlen]; omega) (by rw [hlen]; omega) (by omega) (by omega) hlk hxx hS.2.2 h1 h2
    · exact xh_throwSW (own := "TingDecks") (cls := xd_ex k) (Y1 := "java/lang/RuntimeException") (text := text) (names := xd_nm) (A := A) hx hb2 hl (xd_six hk2) hown (xd_exOk (ρ := ρ) hk2).1 (by decide +kernel) xd_nmOk (hts _ hw1) (hts _ hw2) ha hat2 hgood hX.2.2.1 hX.2.2.2.1 hS (by rw [hml]; exact hlv.1) hdec hd3 hd4 hd6 hd9 (fun z hz => (hout z hz).elim) (by rw [hlen]; omega) (by rw [hlen]; omega) (by omega) (by omega) hlk hxx hS.2.2 h1 h2
    · simp only [xw_N, List.mem_cons, List.not_mem_nil, or_false] at h
      rcases h with rfl | rfl | rfl | rfl | rfl | rfl | rfl | rfl <;> rfl
theorem xs_copy_get (sr dt : List (Nat × Value)) (sp dp n : Nat) : ∀ j, xe_get 1 (xe_copy sr dt sp dp n) j = if dp ≤ j ∧ j < dp + n then xe_get 1 sr (sp + (j - dp)) else xe_get 1 dt j := by
  induction n with
  | zero =>
    intro j
    rw [if_neg (by omega)]
    rfl
  | succ n ih =>
    intro j
    show xe_get 1 (xe_put 1 (xe_copy sr dt sp dp n) (dp + n) (xe_get 1 sr (sp + n))) j = _
    rw [xe_get_put, ih]
    by_cases h : j = dp + n
    · rw [if_pos h, if_pos (by omega), h, show dp + n - dp = n by omega]
    · rw [if_neg h]
      by_cases h2 : dp ≤ j ∧ j < dp + n
      · rw [if_pos h2, if_pos (by omega)]
      · rw [if_neg h2, if_neg (by omega)]
theorem xs_copy_cpy (ρ : Nat → Int32) (sr dt : List (Nat × Value)) (sp dp n : Nat) : va_cpy (fun j => xs_i ρ (xe_get 1 sr j)) (fun j => xs_i ρ (xe_get 1 dt j)) sp dp n = fun j => xs_i ρ (xe_get 1 (xe_copy sr dt sp dp n) j) := by
  funext j
  rw [xs_copy_get]
  unfold va_cpy
  split <;> rfl
theorem xs_SF_rho (ρ : Nat → Int32) (j : Nat) : xs_sf j = xs_i ρ (xe_get 1 xe_SF j) := by
  show xs_i (fun _ => 0) (xe_get 1 xe_SF j) = _
  have h : ∀ v, xe_get 1 xe_SF j = v → (∃ x, v = .int x) := by
    intro v hv
    rw [← hv]
    match j with
    | 0 => exact ⟨_, rfl⟩
    | 1 => exact ⟨_, rfl⟩
    | 2 => exact ⟨_, rfl⟩
    | 3 => exact ⟨_, rfl⟩
    | 4 => exact ⟨_, rfl⟩
    | k + 5 => exact ⟨0, rfl⟩
  obtain ⟨x, hx⟩ := h _ rfl
  rw [hx]
  rfl
theorem xs_SF_fun (ρ : Nat → Int32) : xs_sf = fun j => xs_i ρ (xe_get 1 xe_SF j) := funext (xs_SF_rho ρ)
theorem xs_bCopy_ok (ih : xs_S l G ρ f) (hM : xe_P[y]? = some M) (hd : xd_P[y]? = some d) (hcur : ∀ e ∈ tl, e ∈ M.1) {i : Instr} {len : Nat} {res : List Nat} (hdec : decode d.2.2.1 pc = .ok (i, len)) (hk : ∃ idx, i = .invokestatic idx ∧ len = 3 ∧ Cond.methodLink d.1 idx arraycopyName ∈ xw_T ∧ Cond.native arraycopyName ∈ xw_T ∧ Cond.static arraycopyName ∈ xw_T ∧ Cond.initialized "java/lang/System" ∈ xw_T) (hrun : xe_bCopy xe_P G xe_Z (xe_run xe_P G xe_Z f) M (pc, i, len, res) tl pc al st w nc ns = some r) (hI : xs_In (xs_Ls G ρ) M d w al p R s m args meth c H locs ls ad ad0 n0 A D dA sa ρ) :
    W p l e R s m args below meth c H locs nc ns (xs_FQ D dA sa ρ ad0 n0 M.2.2.2.1 M.2.2.2.2.1 A r below args s) (F0 m pc ls (st.map (xs_v ad sa ρ))) := by
  obtain ⟨idx, rfl, rfl, h1, h2, h3, h4⟩ := hk
  obtain ⟨hx, hb2, hml, hown, hts, hK, hA, hX, hNw, hini, hlk⟩ := id hI.1
  obtain ⟨hlv, hP, hD, hS⟩ := hI.2.2.2.1
  have hrm := hI.2.2.2.2.2.2
  have hnf : nativeFrameWords "java/lang/System" "arraycopy" 5 + 11 ≤ 700 := by decide +kernel
  unfold xe_bCopy at hrun
  split at hrun
  · next n dp b sp s0 rest =>
    rw [xe_nth_eq] at hrun
    split at hrun
    · next ty mm dt n1 dp1 sp1 hc hn1 hn2 hn3 =>
      obtain ⟨a1, a2, a3⟩ := xs_nn_ok hn1
      obtain ⟨b1, b2, b3⟩ := xs_nn_ok hn2
      obtain ⟨c1, c2, c3⟩ := xs_nn_ok hn3
      cases hb : Nat.beq ty 1 && Nat.ble (dp1 + n1) mm && Nat.ble rest.length 4 with
      | false => rw [hb] at hrun; cases hrun
      | true =>
        rw [hb] at hrun
        simp only [Bool.and_eq_true, Nat.ble_eq] at hb
        obtain ⟨⟨g1, g2⟩, g3⟩ := hb
        have g1 := Nat.eq_of_beq_eq_true g1
        subst g1
        have hr8 := xs_room (ad := ad) (sa := sa) (ρ := ρ) g3
        dsimp only [cond_true] at hrun
        split at hrun
        · next a =>
          rw [xe_nth_eq] at hrun
          split at hrun
          · next ty2 m2 sr hc2 =>
            cases hb : Nat.beq ty2 1 && Nat.ble (sp1 + n1) m2 with
            | false => rw [hb] at hrun; cases hrun
            | true =>
              rw [hb] at hrun
              simp only [Bool.and_eq_true, Nat.ble_eq] at hb
              obtain ⟨g4, g5⟩ := hb
              have g4 := Nat.eq_of_beq_eq_true g4
              subst g4
              dsimp only [cond_true] at hrun
              refine va_copyi (ty := .int) hx hb2 (by rw [hml]; exact hlv.1.symm) hown (hts _ h1) (hts _ h2) (hts _ h3) (hts _ h4) hK hP hD hS a b 1 1 (xs_w_get ad sa ρ dA hc2) (xs_w_get ad sa ρ dA hc) rfl rfl rfl c1 b1 a1 (by rw [c2, a2]; exact g5) (by rw [b2, a2]; exact g2) (fun _ _ => rfl) (by omega) (by omega) hdec (fun H1 locs1 hP1 hD1 hS1 => ?_)
              rw [c2, b2, a2, xs_copy_cpy] at hP1 hD1
              have e4 := xs_w_set ad sa ρ dA w b (.inl (1, mm, xe_copy sr dt sp1 dp1 n1))
              rw [← xe_set_eq w] at e4
              exact xs_go ih hM hd hcur hrun ⟨hI.1, hI.2.1, hI.2.2.1, ⟨hlv, by rw [← e4]; exact hP1, by rw [← e4]; exact hD1, hS1⟩, hI.2.2.2.2.1, Nat.le_trans hI.2.2.2.2.2.1 (xs_len_set _ _ _), hrm⟩
          · cases hrun
        · next u =>
          cases hb : decide (u = 0) && Nat.ble (sp1 + n1) 5 with
          | false => rw [hb] at hrun; cases hrun
          | true =>
            rw [hb] at hrun
            dsimp only [cond_true] at hrun
            rw [Bool.and_eq_true, decide_eq_true_eq] at hb
            obtain ⟨hu, hb⟩ := hb
            subst hu
            refine va_copyx hx hb2 (by rw [hml]; exact hlv.1.symm) hown (hts _ h1) (hts _ h2) (hts _ h3) (hts _ h4) hK hP hD hS hX.2.1.1 (Array.getElem?_eq_some_iff.mp hX.2.1.2.2.choose_spec.1).1 hX.2.1.2.1 b 1 (xs_w_get ad sa ρ dA hc) rfl c1 b1 a1 (by rw [c2, a2]; exact Nat.ble_eq.mp hb) (by rw [b2, a2]; exact g2) (by omega) (by omega) hdec (fun H1 locs1 hP1 hD1 hS1 => ?_)
            rw [c2, b2, a2, xs_SF_fun ρ, xs_copy_cpy] at hP1 hD1
            have e4 := xs_w_set ad sa ρ dA w b (.inl (1, mm, xe_copy xe_SF dt sp1 dp1 n1))
            rw [← xe_set_eq w] at e4
            exact xs_go ih hM hd hcur hrun ⟨hI.1, hI.2.1, hI.2.2.1, ⟨hlv, by rw [← e4]; exact hP1, by rw [← e4]; exact hD1, hS1⟩, hI.2.2.2.2.1, Nat.le_trans hI.2.2.2.2.2.1 (xs_len_set _ _ _), hrm⟩
        · cases hrun
    · cases hrun
  · cases hrun
end
