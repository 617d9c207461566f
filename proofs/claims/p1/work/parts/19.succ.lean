section
variable {l : Launch} {G : xe_G} {ρ : Nat → Int32} {f : Nat}
theorem xe_weq_ok : ∀ (a b : xe_W), xe_weq a b = true → a = b := by
  intro a
  induction a with
  | nil =>
    intro b h
    cases b with
    | nil => rfl
    | cons y t => cases h
  | cons x t ih =>
    intro b h
    cases b with
    | nil => cases h
    | cons y t2 =>
      have h : (xe_ceq x y && xe_weq t t2) = true := h
      rw [Bool.and_eq_true] at h
      rw [ih t2 h.2]
      have hc := h.1
      unfold xe_ceq at hc
      split at hc
      · rw [decide_eq_true_eq.mp hc]
      · rw [decide_eq_true_eq.mp hc]
      · cases hc
theorem xe_Req_ok {a b : xe_R} (h : xe_Req a b = true) : a = b := by
  unfold xe_Req at h
  simp only [Bool.and_eq_true, decide_eq_true_eq] at h
  exact Prod.ext (Nat.eq_of_beq_eq_true h.1.1) (Prod.ext h.1.2 (xe_weq_ok _ _ h.2))
theorem xs_kdx {a b : Nat} {v : Value} (h1 : xe_kd a v = true) (h2 : xe_kd b v = true) : a = b := by
  cases v <;> first | exact (Nat.eq_of_beq_eq_true h1).trans (Nat.eq_of_beq_eq_true h2).symm | cases h1
theorem xs_zero : xs_S l G ρ 0 := by
  intro y M d hM hd cur pc al st w nc ns r hcur hrun
  cases (show (none : Option xe_R) = some r from hrun)
/-- where a callee has made nothing, or nothing here speaks of what is new -/
theorem xs_okAfter {mc' n : Nat} {ad ad' : Nat → Nat} {sa : UInt32 → Nat} {al : List (Nat × Value)} {rest : List Value} (hag : xs_ag mc' n ad ad') (hok : (Nat.beq mc' 0 || (xe_okA n al && xe_okS n rest)) = true) : xs_al ad' sa ρ al = xs_al ad sa ρ al ∧ rest.map (xs_v ad' sa ρ) = rest.map (xs_v ad sa ρ) := by
  rw [Bool.or_eq_true, Bool.and_eq_true] at hok
  rcases hok with h | h
  · rw [hag.1 (Nat.eq_of_beq_eq_true h)]
    exact ⟨rfl, rfl⟩
  · exact ⟨xs_okA hag.2 h.1, xs_okS hag.2 h.2⟩
section
variable {y : Nat} {M : xe_M} {d : xd_D} {tl : List xe_I} {pc : Nat} {al : List (Nat × Value)} {st : List Value} {w : xe_W} {nc ns : Nat} {r : xe_R} {p : Program} {e : Env} {R : Room} {s : State} {m : MethodId} {args : Array Value} {below : List Frame} {meth : Method} {c : Code} {H : Heap} {locs : List Loc} {ls : Array Slot} {ad ad0 : Nat → Nat} {n0 : Nat} {A : Nat → Prop} {D : va_G} {dA : Nat → ClassId} {sa : UInt32 → Nat}
/-- all that holds where a body's walk goes on -/
def xs_In (Ls : Nat × (Nat → Int32)) (M : xe_M) (d : xd_D) (w : xe_W) (al : List (Nat × Value)) (p : Program) (R : Room) (s : State) (m : MethodId) (args : Array Value) (meth : Method) (c : Code) (H : Heap) (locs : List Loc) (ls : Array Slot) (ad ad0 : Nat → Nat) (n0 : Nat) (A : Nat → Prop) (D : va_G) (dA : Nat → ClassId) (sa : UInt32 → Nat) (ρ : Nat → Int32) : Prop :=
  xs_En Ls p s m args meth c d.1 d.2.2.1 d.2.2.2.1 A D dA sa d.2.2.2.2.2.1 ∧ meth.sig.returnType = d.2.2.2.2.1 ∧ c.exceptionTable.toList = tableOf d.2.2.2.2.2.2.2 ∧ xs_Rel D dA sa ρ A s d.2.2.2.1 ad al w ls H locs ∧ xs_ag M.2.2.2.1 n0 ad0 ad ∧ n0 ≤ w.length ∧ (20 + d.2.2.2.2.2.2.1 ≤ R.frames ∧ 40 * (20 + d.2.2.2.2.2.2.1) ≤ R.locals ∧ M.2.2.2.1 ≤ R.cells ∧ M.2.2.2.2.1 ≤ R.slots)
theorem xs_go (ih : xs_S l G ρ f) (hM : xe_P[y]? = some M) (hd : xd_P[y]? = some d) {cur : List xe_I} (hcur : ∀ e ∈ cur, e ∈ M.1) (hrun : xe_run xe_P G xe_Z f M cur pc al st w nc ns = some r) (hI : xs_In (xs_Ls G ρ) M d w al p R s m args meth c H locs ls ad ad0 n0 A D dA sa ρ) :
    W p l e R s m args below meth c H locs nc ns (xs_FQ D dA sa ρ ad0 n0 M.2.2.2.1 M.2.2.2.2.1 A r below args s) (F0 m pc ls (st.map (xs_v ad sa ρ))) :=
  ih y M d hM hd cur pc al st w nc ns r hcur hrun p e R s m args below meth c H locs ls ad ad0 n0 A D dA sa hI.1 hI.2.1 hI.2.2.1 hI.2.2.2.1 hI.2.2.2.2.1 hI.2.2.2.2.2.1 hI.2.2.2.2.2.2
theorem xs_bObj_ok (ih : xs_S l G ρ f) (hM : xe_P[y]? = some M) (hd : xd_P[y]? = some d) (hcur : ∀ e ∈ tl, e ∈ M.1) {i : Instr} {len : Nat} {res : List Nat} (hdec : decode d.2.2.1 pc = .ok (i, len)) (hk : ∃ idx, i = .invokespecial idx ∧ len = 3 ∧ Cond.methodLink d.1 idx Lib.objectInit ∈ xw_T ∧ Cond.instanceMethod Lib.objectInit ∈ xw_T ∧ Cond.code Lib.objectInit ⟨#[0xb1]⟩ 1 none ∈ xw_T) (hrun : xe_bObj xe_P G xe_Z (xe_run xe_P G xe_Z f) M (pc, i, len, res) tl pc al st w nc ns = some r) (hI : xs_In (xs_Ls G ρ) M d w al p R s m args meth c H locs ls ad ad0 n0 A D dA sa ρ) :
    W p l e R s m args below meth c H locs nc ns (xs_FQ D dA sa ρ ad0 n0 M.2.2.2.1 M.2.2.2.2.1 A r below args s) (F0 m pc ls (st.map (xs_v ad sa ρ))) := by
  obtain ⟨idx, rfl, rfl, h1, h2, h3⟩ := hk
  unfold xe_bObj at hrun
  split at hrun
  · next a rest =>
    cases hb : Nat.ble rest.length 4 with
    | false => rw [hb] at hrun; cases hrun
    | true =>
      rw [hb] at hrun
      obtain ⟨hx, hb2, hml, hown, hts, hK, hA, hX, hNw, hini, hlk⟩ := hI.1
      have hr8 := xs_room (ad := ad) (sa := sa) (ρ := ρ) (Nat.ble_eq.mp hb)
      have hfr := hI.2.2.2.2.2.2
      exact W.objInit hx hb2 hown (hts _ h1) (hts _ h2) (hts _ h3) rfl (by rw [hml]; exact hI.2.2.2.1.1.1) rfl hdec (by omega) (by show 2 * 0 + _ + 12 ≤ _; omega) (xs_go ih hM hd hcur hrun hI)
  · cases hrun
theorem xe_mm_max (x y : Int32) : xe_mm true x y = if x < y then y else x := by
  unfold xe_mm
  by_cases h : x < y
  · rw [if_pos h]
    have : Nat.blt (xe_bi x) (xe_bi y) = true := Nat.ble_eq.mpr ((xe_bi_lt x y).mpr h)
    rw [this]; rfl
  · rw [if_neg h]
    have : Nat.blt (xe_bi x) (xe_bi y) = false := Bool.eq_false_iff.mpr (fun z => h ((xe_bi_lt x y).mp (Nat.ble_eq.mp z)))
    rw [this]; rfl
theorem xe_mm_min (x y : Int32) : xe_mm false x y = if y < x then y else x := by
  unfold xe_mm
  by_cases h : y < x
  · rw [if_pos h]
    have : Nat.blt (xe_bi y) (xe_bi x) = true := Nat.ble_eq.mpr ((xe_bi_lt y x).mpr h)
    rw [this]; rfl
  · rw [if_neg h]
    have : Nat.blt (xe_bi y) (xe_bi x) = false := Bool.eq_false_iff.mpr (fun z => h ((xe_bi_lt y x).mp (Nat.ble_eq.mp z)))
    rw [this]; rfl
theorem xs_bMax_ok (ih : xs_S l G ρ f) (hM : xe_P[y]? = some M) (hd : xd_P[y]? = some d) (hcur : ∀ e ∈ tl, e ∈ M.1) {i : Instr} {len : Nat} {res : List Nat} (hdec : decode d.2.2.1 pc = .ok (i, len)) (hk : ∃ idx, i = .invokestatic idx ∧ len = 3 ∧ Cond.methodLink d.1 idx Lib.Math.max.name ∈ xw_T ∧ Cond.static Lib.Math.max.name ∈ xw_T ∧ Cond.initialized "java/lang/Math" ∈ xw_T ∧ Cond.code Lib.Math.max.name Lib.Math.max.code 2 (some .int) ∈ xw_T) (hrun : xe_bMath true xe_P G xe_Z (xe_run xe_P G xe_Z f) M (pc, i, len, res) tl pc al st w nc ns = some r) (hI : xs_In (xs_Ls G ρ) M d w al p R s m args meth c H locs ls ad ad0 n0 A D dA sa ρ) :
    W p l e R s m args below meth c H locs nc ns (xs_FQ D dA sa ρ ad0 n0 M.2.2.2.1 M.2.2.2.2.1 A r below args s) (F0 m pc ls (st.map (xs_v ad sa ρ))) := by
  obtain ⟨idx, rfl, rfl, h1, h2, h3, h4⟩ := hk
  unfold xe_bMath at hrun
  split at hrun
  · next b a rest =>
    cases hb : Nat.ble rest.length 4 && Nat.ble nc M.2.2.2.1 && Nat.ble ns M.2.2.2.2.1 with
    | false => rw [hb] at hrun; cases hrun
    | true =>
      rw [hb] at hrun
      simp only [Bool.and_eq_true, Nat.ble_eq] at hb
      obtain ⟨hx, hb2, hml, hown, hts, hK, hA, hX, hNw, hini, hlk⟩ := hI.1
      have hr8 := xs_room (ad := ad) (sa := sa) (ρ := ρ) hb.1.1
      have hfr := hI.2.2.2.2.2.2
      have hgo := xs_go (e := e) (below := below) ih hM hd hcur hrun hI
      rw [xe_mm_max] at hgo
      exact va_mmax hx hb2 (by rw [hml]; exact hI.2.2.2.1.1.1.symm) hown (hts _ h1) (hts _ h2) (hts _ h3) (hts _ h4) (by omega) (by omega) (by omega) (by omega) hdec hgo
  · cases hrun
theorem xs_bMin_ok (ih : xs_S l G ρ f) (hM : xe_P[y]? = some M) (hd : xd_P[y]? = some d) (hcur : ∀ e ∈ tl, e ∈ M.1) {i : Instr} {len : Nat} {res : List Nat} (hdec : decode d.2.2.1 pc = .ok (i, len)) (hk : ∃ idx, i = .invokestatic idx ∧ len = 3 ∧ Cond.methodLink d.1 idx Lib.Math.min.name ∈ xw_T ∧ Cond.static Lib.Math.min.name ∈ xw_T ∧ Cond.initialized "java/lang/Math" ∈ xw_T ∧ Cond.code Lib.Math.min.name Lib.Math.min.code 2 (some .int) ∈ xw_T) (hrun : xe_bMath false xe_P G xe_Z (xe_run xe_P G xe_Z f) M (pc, i, len, res) tl pc al st w nc ns = some r) (hI : xs_In (xs_Ls G ρ) M d w al p R s m args meth c H locs ls ad ad0 n0 A D dA sa ρ) :
    W p l e R s m args below meth c H locs nc ns (xs_FQ D dA sa ρ ad0 n0 M.2.2.2.1 M.2.2.2.2.1 A r below args s) (F0 m pc ls (st.map (xs_v ad sa ρ))) := by
  obtain ⟨idx, rfl, rfl, h1, h2, h3, h4⟩ := hk
  unfold xe_bMath at hrun
  split at hrun
  · next b a rest =>
    cases hb : Nat.ble rest.length 4 && Nat.ble nc M.2.2.2.1 && Nat.ble ns M.2.2.2.2.1 with
    | false => rw [hb] at hrun; cases hrun
    | true =>
      rw [hb] at hrun
      simp only [Bool.and_eq_true, Nat.ble_eq] at hb
      obtain ⟨hx, hb2, hml, hown, hts, hK, hA, hX, hNw, hini, hlk⟩ := hI.1
      have hr8 := xs_room (ad := ad) (sa := sa) (ρ := ρ) hb.1.1
      have hfr := hI.2.2.2.2.2.2
      have hgo := xs_go (e := e) (below := below) ih hM hd hcur hrun hI
      rw [xe_mm_min] at hgo
      exact va_mmin hx hb2 (by rw [hml]; exact hI.2.2.2.1.1.1.symm) hown (hts _ h1) (hts _ h2) (hts _ h3) (hts _ h4) (by omega) (by omega) (by omega) (by omega) hdec hgo
  · cases hrun
theorem xs_bOn_ok (hG : xs_G G ρ) (ih : xs_S l G ρ f) (hM : xe_P[y]? = some M) (hd : xd_P[y]? = some d) (hcur : ∀ e ∈ tl, e ∈ M.1) {i : Instr} {len : Nat} {res : List Nat} (hdec : decode d.2.2.1 pc = .ok (i, len)) (hk : len = xk_ln i len ∧ xk_L d.1 d.2.2.2.1 d.2.2.2.2.2.1 i res) (hrun : xe_bOn xe_P G xe_Z (xe_run xe_P G xe_Z f) M (pc, i, len, res) tl pc al st w nc ns = some r) (hI : xs_In (xs_Ls G ρ) M d w al p R s m args meth c H locs ls ad ad0 n0 A D dA sa ρ) :
    W p l e R s m args below meth c H locs nc ns (xs_FQ D dA sa ρ ad0 n0 M.2.2.2.1 M.2.2.2.2.1 A r below args s) (F0 m pc ls (st.map (xs_v ad sa ρ))) := by
  unfold xe_bOn at hrun
  split at hrun
  · next pc2 al2 st2 w2 nc2 ns2 hs =>
    refine xs_stp hI.1 hG hI.2.2.2.1 hI.2.2.2.2.2.2.2.2 hdec hk.1 hk.2 hs ?_
    intro ad2 ls2 H2 locs2 hag hlen hR2
    refine xs_go ih hM hd ?_ hrun ⟨hI.1, hI.2.1, hI.2.2.1, hR2, xs_ag_trans hI.2.2.2.2.1 hag hI.2.2.2.2.2.1, Nat.le_trans hI.2.2.2.2.2.1 hlen, hI.2.2.2.2.2.2⟩
    intro e1 he1
    cases hb : Nat.beq pc2 (pc + (pc, i, len, res).2.2.1) with
    | true => rw [hb] at he1; exact hcur e1 he1
    | false => rw [hb] at he1; exact xs_at_mem _ _ e1 he1
  · cases i with
    | ifCond cd off =>
     cases st with
     | nil => cases (show (none : Option xe_R) = some r from hrun)
     | cons v st =>
      dsimp only at hrun
      cases hk0 : xe_kd 0 v with
      | false => rw [hk0] at hrun; cases hrun
      | true =>
        rw [hk0] at hrun
        dsimp only [cond_true] at hrun
        have e1 : len = 3 := hk.1
        subst e1
        obtain ⟨hx, hb2, hml, hown, hts, hK, hA, hX, hNw, hini, hlk⟩ := id hI.1
        split at hrun
        · next t ht =>
          split at hrun
          · next r1 r2 hr1 hr2 =>
            cases her : xe_Req r1 r2 with
            | false => rw [her] at hrun; cases hrun
            | true =>
              rw [her] at hrun
              cases hrun
              have er := xe_Req_ok her
              subst er
              have q1 := xs_go (e := e) (below := below) ih hM hd (xs_at_mem M.1 t) hr1 hI
              have q2 := xs_go (e := e) (below := below) ih hM hd hcur hr2 hI
              rw [List.map_cons, xs_num hk0]
              cases cd with
              | lt => exact lv_if_lt hx hb2 hdec (xs_tgt_ok ht) (fun _ => q1) (fun _ => q2)
              | ge => exact lv_if_ge hx hb2 hdec (xs_tgt_ok ht) (fun _ => q1) (fun _ => q2)
              | gt => exact lv_if_gt hx hb2 hdec (xs_tgt_ok ht) (fun _ => q1) (fun _ => q2)
              | le => exact lv_if_le hx hb2 hdec (xs_tgt_ok ht) (fun _ => q1) (fun _ => q2)
              | eq => exact lv_if_eq hx hb2 hdec (xs_tgt_ok ht) (fun _ => q1) (fun _ => q2)
              | ne => exact lv_if_ne hx hb2 hdec (xs_tgt_ok ht) (fun _ => q1) (fun _ => q2)
          · cases hrun
        · cases hrun
    | if_icmp cd off =>
     cases st with
     | nil => cases (show (none : Option xe_R) = some r from hrun)
     | cons u st =>
     cases st with
     | nil => cases (show (none : Option xe_R) = some r from hrun)
     | cons v st =>
      dsimp only at hrun
      cases hk0 : xe_kd 0 v && xe_kd 0 u with
      | false => rw [hk0] at hrun; cases hrun
      | true =>
        rw [hk0] at hrun
        dsimp only [cond_true] at hrun
        rw [Bool.and_eq_true] at hk0
        have e1 : len = 3 := hk.1
        subst e1
        obtain ⟨hx, hb2, hml, hown, hts, hK, hA, hX, hNw, hini, hlk⟩ := id hI.1
        split at hrun
        · next t ht =>
          split at hrun
          · next r1 r2 hr1 hr2 =>
            cases her : xe_Req r1 r2 with
            | false => rw [her] at hrun; cases hrun
            | true =>
              rw [her] at hrun
              cases hrun
              have er := xe_Req_ok her
              subst er
              have q1 := xs_go (e := e) (below := below) ih hM hd (xs_at_mem M.1 t) hr1 hI
              have q2 := xs_go (e := e) (below := below) ih hM hd hcur hr2 hI
              rw [List.map_cons, List.map_cons, xs_num hk0.1, xs_num hk0.2]
              cases cd with
              | lt => exact lv_icmp_lt hx hb2 hdec (xs_tgt_ok ht) (fun _ => q1) (fun _ => q2)
              | ge => exact lv_icmp_ge hx hb2 hdec (xs_tgt_ok ht) (fun _ => q1) (fun _ => q2)
              | gt => exact lv_icmp_gt hx hb2 hdec (xs_tgt_ok ht) (fun _ => q1) (fun _ => q2)
              | le => exact lv_icmp_le hx hb2 hdec (xs_tgt_ok ht) (fun _ => q1) (fun _ => q2)
              | eq => exact lv_icmp_eq hx hb2 hdec (xs_tgt_ok ht) (fun _ => q1) (fun _ => q2)
              | ne => exact lv_icmp_ne hx hb2 hdec (xs_tgt_ok ht) (fun _ => q1) (fun _ => q2)
          · cases hrun
        · cases hrun
    | _ => cases (show (none : Option xe_R) = some r from hrun)
theorem xs_bRet0_ok (hM : xe_P[y]? = some M) (hd : xd_P[y]? = some d) (hret : xk_ret M.2.2.1 d.2.2.2.2.1) (rr : xe_K) {res : List Nat} (hdec : decode d.2.2.1 pc = .ok (.return_, 1)) (hrun : xe_bRet0 xe_P G xe_Z rr M (pc, .return_, 1, res) tl pc al st w nc ns = some r) (hI : xs_In (xs_Ls G ρ) M d w al p R s m args meth c H locs ls ad ad0 n0 A D dA sa ρ) :
    W p l e R s m args below meth c H locs nc ns (xs_FQ D dA sa ρ ad0 n0 M.2.2.2.1 M.2.2.2.2.1 A r below args s) (F0 m pc ls (st.map (xs_v ad sa ρ))) := by
  unfold xe_bRet0 at hrun
  split at hrun
  · cases hb : Nat.beq M.2.2.1 0 && Nat.ble nc M.2.2.2.1 && Nat.ble ns M.2.2.2.2.1 with
    | false => rw [hb] at hrun; cases hrun
    | true =>
      rw [hb] at hrun
      cases hrun
      simp only [Bool.and_eq_true, Nat.ble_eq] at hb
      obtain ⟨⟨h0, h1⟩, h2⟩ := hb
      have h0 := Nat.eq_of_beq_eq_true h0
      obtain ⟨hE, hrt, htab, ⟨hl, hP, hD, hS⟩, hag, hn0, hrm⟩ := hI
      obtain ⟨hx, hb2, hml, hown, hts, hK, hA, hX, hNw, hini, hlk⟩ := hE
      have hr0 : meth.sig.returnType = none := by
        rcases hret with h | h | h | h | h
        · rw [hrt]; exact h.2
        all_goals (exact absurd (h0.symm.trans h.1) (by decide))
      refine W.widen h1 h2 ?_
      exact W.vret hx hb2 hr0 (fun t ht hW => ⟨⟨ad, hag, hn0, rfl, by rw [ht]; exact hP, hD⟩, hS.F ht⟩) hS.2.2 hdec hlk
  · cases hrun
theorem xs_bRet_ok (hM : xe_P[y]? = some M) (hd : xd_P[y]? = some d) (hret : xk_ret M.2.2.1 d.2.2.2.2.1) (rr : xe_K) {res : List Nat} {i : Instr} {k : Nat} (hi : (i = .ireturn ∧ k = 0) ∨ (i = .lreturn ∧ k = 2) ∨ (i = .areturn ∧ k = 1)) (hdec : decode d.2.2.1 pc = .ok (i, 1)) (hrun : xe_bRet k xe_P G xe_Z rr M (pc, i, 1, res) tl pc al st w nc ns = some r) (hI : xs_In (xs_Ls G ρ) M d w al p R s m args meth c H locs ls ad ad0 n0 A D dA sa ρ) :
    W p l e R s m args below meth c H locs nc ns (xs_FQ D dA sa ρ ad0 n0 M.2.2.2.1 M.2.2.2.2.1 A r below args s) (F0 m pc ls (st.map (xs_v ad sa ρ))) := by
  unfold xe_bRet at hrun
  split at hrun
  · next v =>
    cases hb : xe_rk M.2.2.1 v && xe_kd k v && Nat.ble nc M.2.2.2.1 && Nat.ble ns M.2.2.2.2.1 with
    | false => rw [hb] at hrun; cases hrun
    | true =>
      rw [hb] at hrun
      cases hrun
      simp only [Bool.and_eq_true, Nat.ble_eq] at hb
      obtain ⟨⟨⟨h0, h3⟩, h1⟩, h2⟩ := hb
      obtain ⟨hE, hrt, htab, ⟨hl, hP, hD, hS⟩, hag, hn0, hrm⟩ := hI
      obtain ⟨hx, hb2, hml, hown, hts, hK, hA, hX, hNw, hini, hlk⟩ := hE
      refine W.widen h1 h2 ?_
      have q : ∀ (t : State), t.heap = H → xs_Qc D dA sa ρ ad0 n0 M.2.2.2.1 A (1, v, w) args s (.returned (some (xs_v ad sa ρ v))) t := fun t ht => ⟨⟨ad, hag, hn0, rfl, by rw [ht]; exact hP, hD⟩, hS.F ht⟩
      show W p l e R s m args below meth c H locs M.2.2.2.1 M.2.2.2.2.1 (MQ below (xs_Qc D dA sa ρ ad0 n0 M.2.2.2.1 A (1, v, w)) args s M.2.2.2.1 M.2.2.2.2.1 A) (F0 m pc ls [xs_v ad sa ρ v])
      rcases hret with ⟨e1, e2⟩ | ⟨e1, e2⟩ | ⟨e1, e2⟩ | ⟨e1, n, e2⟩ | ⟨e1, e2⟩
      · rw [e1] at h0; cases h0
      · rw [e1] at h0
        have h0 : xe_kd 0 v = true := h0
        rw [xs_num h0] at q ⊢
        rcases hi with ⟨rfl, rfl⟩ | ⟨rfl, rfl⟩ | ⟨rfl, rfl⟩
        · exact W.iret hx hb2 (hrt.trans e2) (fun t ht _ => q t ht) hS.2.2 hdec hlk
        · exact absurd (xs_kdx h0 h3) (by decide)
        · exact absurd (xs_kdx h0 h3) (by decide)
      · rw [e1] at h0
        have h0 : xe_kd 2 v = true := h0
        rw [xs_lng h0] at q ⊢
        rcases hi with ⟨rfl, rfl⟩ | ⟨rfl, rfl⟩ | ⟨rfl, rfl⟩
        · exact absurd (xs_kdx h0 h3) (by decide)
        · exact W.lret hx hb2 (hrt.trans e2) (fun t ht _ => q t ht) hS.2.2 hdec hlk
        · exact absurd (xs_kdx h0 h3) (by decide)
      · rw [e1] at h0
        have h0 : xe_kd 1 v = true := h0
        obtain ⟨a, ea⟩ := xs_ref (ad := ad) (sa := sa) (ρ := ρ) h0
        rw [ea] at q ⊢
        rcases hi with ⟨rfl, rfl⟩ | ⟨rfl, rfl⟩ | ⟨rfl, rfl⟩
        · exact absurd (xs_kdx h0 h3) (by decide)
        · exact absurd (xs_kdx h0 h3) (by decide)
        · exact W.aret hx hb2 (hrt.trans e2) (Or.inl ⟨n, rfl⟩) (Or.inr ⟨a, rfl⟩) (fun t ht _ => q t ht) hS.2.2 hdec hlk
      · rw [e1] at h0
        have h0 : (decide (v = .int 0) || decide (v = .int 1)) = true := h0
        simp only [Bool.or_eq_true, decide_eq_true_eq] at h0
        rcases hi with ⟨rfl, rfl⟩ | ⟨rfl, rfl⟩ | ⟨rfl, rfl⟩
        · rcases h0 with rfl | rfl
          · exact W.zret (v := 0) hx hb2 (hrt.trans e2) rfl (fun t ht _ => q t ht) hS.2.2 hdec hlk
          · exact W.zret (v := 1) hx hb2 (hrt.trans e2) rfl (fun t ht _ => q t ht) hS.2.2 hdec hlk
        · rcases h0 with rfl | rfl <;> cases h3
        · rcases h0 with rfl | rfl <;> cases h3
  · cases hrun
end
end
