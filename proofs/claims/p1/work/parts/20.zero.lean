/-! a loop that copies zeros over zeros -/
section
variable {l : Launch} {G : xe_G} {ρ : Nat → Int32} {f : Nat} {y : Nat} {M : xe_M} {d : xd_D} {tl : List xe_I} {pc : Nat} {al : List (Nat × Value)} {st : List Value} {w : xe_W} {nc ns : Nat} {r : xe_R} {p : Program} {e : Env} {R : Room} {s : State} {m : MethodId} {args : Array Value} {below : List Frame} {meth : Method} {c : Code} {H : Heap} {locs : List Loc} {ls : Array Slot} {ad ad0 : Nat → Nat} {n0 : Nat} {A : Nat → Prop} {D : va_G} {dA : Nat → ClassId} {sa : UInt32 → Nat} {Q : State → Prop}
theorem xs_one (hG : xs_G G ρ) (hI : xs_In (xs_Ls G ρ) M d w al p R s m args meth c H locs ls ad ad0 n0 A D dA sa ρ) {i : Instr} {len : Nat} (hdec : decode d.2.2.1 pc = .ok (i, len)) (hn : len = xk_ln i len) (hL : xk_L d.1 d.2.2.2.1 d.2.2.2.2.2.1 i []) (pc2 : Nat) (al2 : List (Nat × Value)) (st2 : List Value) (h : xe_step i G xe_Z M.2.2.2.1 M.2.2.2.2.1 pc len [] al st w nc ns = some (pc2, al2, st2, w, nc, ns))
    (kk : ∀ (ad2 : Nat → Nat) (ls2 : Array Slot) (H2 : Heap) (locs2 : List Loc), xs_In (xs_Ls G ρ) M d w al2 p R s m args meth c H2 locs2 ls2 ad2 ad0 n0 A D dA sa ρ → W p l e R s m args below meth c H2 locs2 nc ns Q (F0 m pc2 ls2 (st2.map (xs_v ad2 sa ρ)))) : W p l e R s m args below meth c H locs nc ns Q (F0 m pc ls (st.map (xs_v ad sa ρ))) := by
  refine xs_stp hI.1 hG hI.2.2.2.1 hI.2.2.2.2.2.2.2.2 hdec hn hL h ?_
  intro ad2 ls2 H2 locs2 hag hlen hR2
  exact kk ad2 ls2 H2 locs2 ⟨hI.1, hI.2.1, hI.2.2.1, hR2, xs_ag_trans hI.2.2.2.2.1 hag hI.2.2.2.2.2.1, Nat.le_trans hI.2.2.2.2.2.1 hlen, hI.2.2.2.2.2.2⟩
theorem xe_look_flt {q : Nat × Value → Bool} {i : Nat} {v : Value} (hq : q (i, v) = true) (al : List (Nat × Value)) (h : xe_look al i = some v) : xe_look (xe_flt q al) i = some v := by
  induction al with
  | nil => cases h
  | cons a t ih =>
    rw [xe_look_cons] at h
    show xe_look (bif q a then a :: xe_flt q t else xe_flt q t) i = some v
    cases hb : Nat.beq a.1 i with
    | true =>
      rw [hb] at h
      have e1 : a.1 = i := Nat.eq_of_beq_eq_true hb
      have e2 : a.2 = v := Option.some.inj h
      have e3 : a = (i, v) := Prod.ext e1 e2
      rw [e3, hq]
      show xe_look ((i, v) :: xe_flt q t) i = some v
      rw [xe_look_cons, Nat.beq_refl]
      rfl
    | false =>
      rw [hb] at h
      cases q a with
      | true =>
        show xe_look (a :: xe_flt q t) i = some v
        rw [xe_look_cons, hb]
        exact ih h
      | false => exact ih h
theorem xe_zF_cons (x : Value) (al : List (Nat × Value)) : xe_zF ((3, x) :: al) = xe_zF al := rfl
theorem xe_zF_zF (al : List (Nat × Value)) : xe_zF (xe_zF al) = xe_zF al := by
  unfold xe_zF
  rw [xe_flt_eq, xe_flt_eq, List.filter_filter]
  congr 1
  funext q
  rw [Bool.and_self]
theorem xs_set_same (w : xe_W) (b : Nat) (c : xe_C) (h : w[b]? = some c) : xe_set w c b = w := by
  rw [xe_set_eq]
  apply List.ext_getElem?
  intro j
  rw [List.getElem?_set]
  by_cases hj : b = j
  · subst hj
    rw [if_pos rfl, h, if_pos (List.getElem?_eq_some_iff.mp h).1]
  · rw [if_neg hj]
theorem xs_zToInt {j : Nat} (h : j < 2147483648) : (Int32.ofNat j).toInt = (j : Int) := Int32.toInt_ofNat_of_lt h
theorem xs_zNn {j : Nat} (h : j < 2147483648) : xe_nn (Int32.ofNat j) = some j := by
  unfold xe_nn
  rw [xs_zToInt h]
theorem xs_zCmp {G : xe_G} {x y : Int32} (h : x.toInt ≤ y.toInt) : xe_cmp G .ge (.int x) (.int y) = some (decide (x.toInt = y.toInt)) := by
  have e : xe_cmp G .ge (.int x) (.int y) = some (Nat.ble (xe_bi y) (xe_bi x)) := rfl
  rw [e]
  have hq := xe_bi_lt x y
  rw [Int32.lt_iff_toInt_lt] at hq
  refine congrArg some ?_
  by_cases h2 : x.toInt = y.toInt
  · rw [decide_eq_true h2, Int32.toInt_inj.mp h2]
    exact Nat.ble_eq.mpr (Nat.le_refl _)
  · rw [decide_eq_false h2]
    have h1 : xe_bi x < xe_bi y := hq.mpr (by omega)
    exact Bool.eq_false_iff.mpr (fun z => by have := Nat.ble_eq.mp z; omega)
theorem xs_zLen {G : xe_G} {mc ms a n : Nat} {ty : List (Nat × Value)} {st : List Value} (h : w[a]? = some (.inl (1, n, ty))) : xe_iLen G xe_Z mc ms 4 1 [] al (.ref a :: st) w nc ns = some (5, al, .int (Int32.ofNat n) :: st, w, nc, ns) := by
  unfold xe_iLen
  dsimp only
  rw [xe_nth_eq, h]
  rfl
theorem xs_zIf {G : xe_G} {mc ms : Nat} {v u : Value} {r : Bool} (h : xe_cmp G .ge v u = some r) : xe_iCmp .ge 15 G xe_Z mc ms 5 3 [] al [u, v] w nc ns = some (bif r then 20 else 8, al, [], w, nc, ns) := by
  unfold xe_iCmp
  dsimp only
  rw [h]
  cases r with
  | true => rfl
  | false => rfl
theorem xs_zGet {G : xe_G} {mc ms a j n : Nat} {x : Int32} {st : List Value} (h : w[a]? = some (.inl (1, n, []))) (hx : xe_nn x = some j) (hj : j < n) : xe_iAld 1 0 G xe_Z mc ms 12 1 [] al (.int x :: .ref a :: st) w nc ns = some (13, al, .int 0 :: st, w, nc, ns) := by
  unfold xe_iAld
  dsimp only
  rw [xe_nth_eq, h, hx]
  dsimp only
  have e1 : Nat.blt j n = true := Nat.ble_eq.mpr hj
  rw [e1]
  rfl
theorem xs_zPut {G : xe_G} {mc ms b j mm : Nat} {x : Int32} {st : List Value} (h : w[b]? = some (.inl (1, mm, []))) (hx : xe_nn x = some j) (hj : j < mm) : xe_iAst 1 0 G xe_Z mc ms 13 1 [] al (.int 0 :: .int x :: .ref b :: st) w nc ns = some (14, al, st, w, nc, ns) := by
  unfold xe_iAst
  dsimp only
  rw [xe_nth_eq, h, hx]
  dsimp only
  have e1 : Nat.blt j mm = true := Nat.ble_eq.mpr hj
  have e2 : xe_put 1 [] j (.int 0) = [] := if_pos rfl
  rw [e1, e2, xs_set_same _ _ _ h]
  rfl
theorem xs_zInc {G : xe_G} {mc ms : Nat} {x : Int32} (h : xe_look al 3 = some (.int x)) : xe_iInc 3 1 G xe_Z mc ms 14 3 [] al [] w nc ns = some (17, (3, .int (x + Int32.ofInt 1)) :: xe_zF al, [], w, nc, ns) := by
  unfold xe_iInc
  rw [h]
  dsimp only
  rw [xe_mk_eq]
  rfl
theorem xs_zLd {G : xe_G} {mc ms kd k pc : Nat} {v : Value} {st : List Value} (h : xe_look al k = some v) (hk : xe_kd kd v = true) : xe_iL kd k G xe_Z mc ms pc 1 [] al st w nc ns = some (pc + 1, al, v :: st, w, nc, ns) := by
  unfold xe_iL
  rw [h]
  dsimp only
  rw [hk]
  rfl
/-- what holds of the locals and cells -/
def xs_zI (al : List (Nat × Value)) (w : xe_W) (j a b n mm : Nat) : Prop := xe_look al 3 = some (.int (Int32.ofNat j)) ∧ xe_look al 1 = some (.ref a) ∧ xe_look al 2 = some (.ref b) ∧ w[a]? = some (.inl (1, n, [])) ∧ w[b]? = some (.inl (1, mm, [])) ∧ n ≤ mm ∧ n < 2147483648
/-- the loop's head -/
theorem xs_zHead (hG : xs_G G ρ) (hZ : xk_Z d) {j a b n mm : Nat} (hz : xs_zI al w j a b n mm) (hj : j ≤ n) (hI : xs_In (xs_Ls G ρ) M d w al p R s m args meth c H locs ls ad ad0 n0 A D dA sa ρ)
    (k1 : j = n → ∀ (ad2 : Nat → Nat) (ls2 : Array Slot) (H2 : Heap) (locs2 : List Loc), xs_In (xs_Ls G ρ) M d w al p R s m args meth c H2 locs2 ls2 ad2 ad0 n0 A D dA sa ρ → W p l e R s m args below meth c H2 locs2 nc ns Q (F0 m 20 ls2 []))
    (k2 : j < n → ∀ (ad2 : Nat → Nat) (ls2 : Array Slot) (H2 : Heap) (locs2 : List Loc), xs_In (xs_Ls G ρ) M d w al p R s m args meth c H2 locs2 ls2 ad2 ad0 n0 A D dA sa ρ → W p l e R s m args below meth c H2 locs2 nc ns Q (F0 m 8 ls2 [])) :
    W p l e R s m args below meth c H locs nc ns Q (F0 m 2 ls []) := by
  obtain ⟨z3, z1, z2, za, zb, zn, zl⟩ := hz
  obtain ⟨d2, d3, d4, d5, d8, d9, d10, d11, d12, d13, d14, d17, dl⟩ := hZ
  have hxi : (Int32.ofNat j).toInt = (j : Int) := xs_zToInt (by omega)
  have hyi : (Int32.ofNat n).toInt = (n : Int) := xs_zToInt zl
  have hlen := xs_zLen (G := G) (mc := M.2.2.2.1) (ms := M.2.2.2.2.1) (al := al) (nc := nc) (ns := ns) (st := [.int (Int32.ofNat j)]) za
  generalize Int32.ofNat j = x at z3 hxi hlen
  generalize Int32.ofNat n = y at hyi hlen
  refine xs_one (st := []) hG hI d2 rfl trivial 3 al [.int x] (xs_zLd (G := G) (mc := M.2.2.2.1) (ms := M.2.2.2.2.1) z3 rfl) ?_
  intro ad ls H locs hI
  refine xs_one hG hI d3 rfl trivial 4 al [.ref a, .int x] (xs_zLd (G := G) (mc := M.2.2.2.1) (ms := M.2.2.2.2.1) z1 rfl) ?_
  intro ad ls H locs hI
  refine xs_one hG hI d4 rfl trivial 5 al [.int y, .int x] hlen ?_
  intro ad ls H locs hI
  have hif := xs_zIf (mc := M.2.2.2.1) (ms := M.2.2.2.2.1) (al := al) (w := w) (nc := nc) (ns := ns) (xs_zCmp (G := G) (x := x) (y := y) (by omega))
  by_cases h : j = n
  · rw [decide_eq_true (by omega)] at hif
    exact xs_one hG hI d5 rfl trivial 20 al [] hif (k1 h)
  · rw [decide_eq_false (by omega)] at hif
    exact xs_one hG hI d5 rfl trivial 8 al [] hif (k2 (by omega))
/-- one turn -/
theorem xs_zTurn (hG : xs_G G ρ) (hZ : xk_Z d) {j a b n mm : Nat} (hz : xs_zI al w j a b n mm) (hj : j < n) (hI : xs_In (xs_Ls G ρ) M d w al p R s m args meth c H locs ls ad ad0 n0 A D dA sa ρ)
    (k1 : ∀ (ad2 : Nat → Nat) (ls2 : Array Slot) (H2 : Heap) (locs2 : List Loc), xs_In (xs_Ls G ρ) M d w ((3, .int (Int32.ofNat (j + 1))) :: xe_zF al) p R s m args meth c H2 locs2 ls2 ad2 ad0 n0 A D dA sa ρ → W p l e R s m args below meth c H2 locs2 nc ns Q (F0 m 2 ls2 [])) :
    W p l e R s m args below meth c H locs nc ns Q (F0 m 8 ls []) := by
  obtain ⟨z3, z1, z2, za, zb, zn, zl⟩ := hz
  obtain ⟨d2, d3, d4, d5, d8, d9, d10, d11, d12, d13, d14, d17, dl⟩ := hZ
  have hxi : xe_nn (Int32.ofNat j) = some j := xs_zNn (by omega)
  have hx1 : Int32.ofNat j + Int32.ofInt 1 = Int32.ofNat (j + 1) := by rw [Int32.ofNat_add]; rfl
  generalize Int32.ofNat j = x at z3 hxi hx1
  generalize Int32.ofNat (j + 1) = x1 at hx1 k1
  refine xs_one (st := []) hG hI d8 rfl trivial 9 al [.ref b] (xs_zLd (G := G) (mc := M.2.2.2.1) (ms := M.2.2.2.2.1) z2 rfl) ?_
  intro ad ls H locs hI
  refine xs_one hG hI d9 rfl trivial 10 al [.int x, .ref b] (xs_zLd (G := G) (mc := M.2.2.2.1) (ms := M.2.2.2.2.1) z3 rfl) ?_
  intro ad ls H locs hI
  refine xs_one hG hI d10 rfl trivial 11 al [.ref a, .int x, .ref b] (xs_zLd (G := G) (mc := M.2.2.2.1) (ms := M.2.2.2.2.1) z1 rfl) ?_
  intro ad ls H locs hI
  refine xs_one hG hI d11 rfl trivial 12 al [.int x, .ref a, .int x, .ref b] (xs_zLd (G := G) (mc := M.2.2.2.1) (ms := M.2.2.2.2.1) z3 rfl) ?_
  intro ad ls H locs hI
  refine xs_one hG hI d12 rfl trivial 13 al [.int 0, .int x, .ref b] (xs_zGet (G := G) (mc := M.2.2.2.1) (ms := M.2.2.2.2.1) za hxi hj) ?_
  intro ad ls H locs hI
  refine xs_one hG hI d13 rfl trivial 14 al [] (xs_zPut (G := G) (mc := M.2.2.2.1) (ms := M.2.2.2.2.1) zb hxi (Nat.lt_of_lt_of_le hj zn)) ?_
  intro ad ls H locs hI
  have hinc := xs_zInc (G := G) (mc := M.2.2.2.1) (ms := M.2.2.2.2.1) (w := w) (nc := nc) (ns := ns) z3
  rw [hx1] at hinc
  refine xs_one hG hI d14 rfl dl 17 ((3, .int x1) :: xe_zF al) [] hinc ?_
  intro ad ls H locs hI
  exact xs_one hG hI d17 rfl trivial 2 ((3, .int x1) :: xe_zF al) [] rfl k1
theorem xs_zNext {j a b n mm : Nat} (hz : xs_zI al w j a b n mm) : xs_zI ((3, .int (Int32.ofNat (j + 1))) :: xe_zF al) w (j + 1) a b n mm := by
  obtain ⟨z3, z1, z2, za, zb, zn, zl⟩ := hz
  exact ⟨rfl, xe_look_flt rfl al z1, xe_look_flt rfl al z2, za, zb, zn, zl⟩
theorem xs_zLoop (hG : xs_G G ρ) (hZ : xk_Z d) {a b n mm : Nat} (al0 : List (Nat × Value)) (h0 : xe_zF al0 = al0) (kend : ∀ (ad2 : Nat → Nat) (ls2 : Array Slot) (H2 : Heap) (locs2 : List Loc), xs_In (xs_Ls G ρ) M d w ((3, .int (Int32.ofNat n)) :: al0) p R s m args meth c H2 locs2 ls2 ad2 ad0 n0 A D dA sa ρ → W p l e R s m args below meth c H2 locs2 nc ns Q (F0 m 20 ls2 [])) (k : Nat) :
    ∀ (j : Nat), j + k = n → xs_zI ((3, .int (Int32.ofNat j)) :: al0) w j a b n mm → ∀ (ad : Nat → Nat) (ls : Array Slot) (H : Heap) (locs : List Loc), xs_In (xs_Ls G ρ) M d w ((3, .int (Int32.ofNat j)) :: al0) p R s m args meth c H locs ls ad ad0 n0 A D dA sa ρ → W p l e R s m args below meth c H locs nc ns Q (F0 m 2 ls []) := by
  induction k with
  | zero =>
    intro j hj hz ad ls H locs hI
    have e : j = n := by omega
    subst e
    exact xs_zHead hG hZ hz (Nat.le_refl _) hI (fun _ => kend) (fun h => absurd h (Nat.lt_irrefl _))
  | succ k ih =>
    intro j hj hz ad ls H locs hI
    refine xs_zHead hG hZ hz (by omega) hI (fun h => by omega) (fun h ad2 ls2 H2 locs2 hI2 => ?_)
    refine xs_zTurn hG hZ hz h hI2 (fun ad3 ls3 H3 locs3 hI3 => ?_)
    have hz2 := xs_zNext hz
    rw [xe_zF_cons, h0] at hI3 hz2
    exact ih (j + 1) (by omega) hz2 ad3 ls3 H3 locs3 hI3
theorem xe_zero_ok {n : Nat} (h : xe_zero al w = some n) : ∃ a b mm : Nat, xs_zI al w 0 a b n mm ∧ 0 < n := by
  unfold xe_zero at h
  split at h
  · next i a b h3 h1 h2 =>
    rw [xe_nth_eq, xe_nth_eq] at h
    split at h
    · next ta n1 tb mm ha hb =>
      cases hc : Nat.beq ta 1 && Nat.beq tb 1 && Nat.ble n1 mm && Nat.blt n1 2147483648 && Nat.blt 0 n1 && decide (i = 0) with
      | false => rw [hc] at h; cases h
      | true =>
        rw [hc] at h
        cases h
        simp only [Bool.and_eq_true, decide_eq_true_eq] at hc
        obtain ⟨⟨⟨⟨⟨c1, c2⟩, c3⟩, c4⟩, c5⟩, c6⟩ := hc
        have c1 := Nat.eq_of_beq_eq_true c1
        have c2 := Nat.eq_of_beq_eq_true c2
        subst c1; subst c2; subst c6
        exact ⟨a, b, mm, ⟨h3, h1, h2, ha, hb, Nat.ble_eq.mp c3, Nat.ble_eq.mp c4⟩, Nat.ble_eq.mp c5⟩
    · cases h
  · cases h
theorem xs_bZero_ok (hG : xs_G G ρ) (ih : xs_S l G ρ f) (hM : xe_P[y]? = some M) (hd : xd_P[y]? = some d) (hcur : ∀ e ∈ tl, e ∈ M.1) {i : Instr} {len : Nat} {res : List Nat} (hdec : decode d.2.2.1 pc = .ok (i, len)) (hk : pc = 2 ∧ i = .iload_n 3 ∧ len = 1 ∧ xk_Z d) (hrun : xe_bZero xe_P G xe_Z (xe_run xe_P G xe_Z f) M (pc, i, len, res) tl pc al st w nc ns = some r) (hI : xs_In (xs_Ls G ρ) M d w al p R s m args meth c H locs ls ad ad0 n0 A D dA sa ρ) :
    W p l e R s m args below meth c H locs nc ns (xs_FQ D dA sa ρ ad0 n0 M.2.2.2.1 M.2.2.2.2.1 A r below args s) (F0 m pc ls (st.map (xs_v ad sa ρ))) := by
  obtain ⟨rfl, rfl, rfl, hZ⟩ := hk
  unfold xe_bZero at hrun
  split at hrun
  · next n hz =>
    obtain ⟨a, b, mm, hi, hn⟩ := xe_zero_ok hz
    have hfin : ∀ (ad2 : Nat → Nat) (ls2 : Array Slot) (H2 : Heap) (locs2 : List Loc), xs_In (xs_Ls G ρ) M d w ((3, .int (Int32.ofNat n)) :: xe_zF al) p R s m args meth c H2 locs2 ls2 ad2 ad0 n0 A D dA sa ρ → W p l e R s m args below meth c H2 locs2 nc ns (xs_FQ D dA sa ρ ad0 n0 M.2.2.2.1 M.2.2.2.2.1 A r below args s) (F0 m 20 ls2 []) := fun ad2 ls2 H2 locs2 hI2 => xs_go ih hM hd (xs_at_mem M.1 20) hrun hI2
    refine xs_zHead hG hZ hi (by omega) hI (fun h => by omega) (fun h ad2 ls2 H2 locs2 hI2 => ?_)
    refine xs_zTurn hG hZ hi h hI2 (fun ad3 ls3 H3 locs3 hI3 => ?_)
    exact xs_zLoop hG hZ (xe_zF al) (xe_zF_zF al) hfin (n - 1) 1 (by omega) (xs_zNext hi) ad3 ls3 H3 locs3 hI3
  · exact xs_bOn_ok hG ih hM hd hcur hdec ⟨rfl, trivial⟩ hrun hI
end
