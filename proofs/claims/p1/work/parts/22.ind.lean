section
variable {l : Launch} {G : xe_G} {ρ : Nat → Int32} {f : Nat} {y : Nat} {M : xe_M} {d : xd_D} {tl : List xe_I} {pc : Nat} {al : List (Nat × Value)} {st : List Value} {w : xe_W} {nc ns : Nat} {r : xe_R} {p : Program} {e : Env} {R : Room} {s : State} {m : MethodId} {args : Array Value} {below : List Frame} {meth : Method} {c : Code} {H : Heap} {locs : List Loc} {ls : Array Slot} {ad ad0 : Nat → Nat} {n0 : Nat} {A : Nat → Prop} {D : va_G} {dA : Nat → ClassId} {sa : UInt32 → Nat} {Q : State → Prop}
/-- the run of a call that throws -/
theorem xs_callRunX (hall : xk_All) (ih : xs_S l G ρ f) (hE : xs_En (xs_Ls G ρ) p s m args meth c d.1 d.2.2.1 d.2.2.2.1 A D dA sa d.2.2.2.2.2.1) (hR : xs_Rel D dA sa ρ A s d.2.2.2.1 ad al w ls H locs) {i : Instr} {len y n kd : Nat} (hC : xk_Call d i len y n kd) (hdec : decode d.2.2.1 pc = .ok (i, len)) {Y : xe_M} (hY : xe_P[y]? = some Y) {as rest : List Value} (hpop : xe_pop n st [] = some (as, rest)) (hrc : xe_rcv kd as w = true) (hkd : 10 ≤ kd) (hsl : xe_sl as ≤ Y.2.1) (hrl : rest.length ≤ 4) (hc1 : nc + Y.2.2.2.1 ≤ R.cells) (hc2 : ns + Y.2.2.2.2.1 ≤ R.slots) (hrm : 20 + d.2.2.2.2.2.2.1 ≤ R.frames ∧ 40 * (20 + d.2.2.2.2.2.2.1) ≤ R.locals) {r : xe_R} (hrun : xe_run xe_P G xe_Z f Y Y.1 0 (lv_args 0 as) [] w 0 0 = some r) (hr : Nat.beq r.1 2 = true) :
    ∃ a' : Array Value, vx_Run p l e R s m args below meth c H locs nc ns Y.2.2.2.1 Y.2.2.2.2.1 (F0 m pc ls (st.map (xs_v ad sa ρ))) (rest.map (xs_v ad sa ρ)) ((fun _ _ _ _ => False : Array Value → State → Outcome → State → Prop) a') (xs_XC D dA sa ρ ad w.length Y.2.2.2.1 (va_A (xs_w ad sa ρ dA w) H.size) r) (va_A (xs_w ad sa ρ dA w) H.size) := by
  rcases hC with hC | hC
  case inr =>
    obtain ⟨M', d', hM', hd', hlen, hh, hnl, hnl2, hpl, hcls, hm1, hm2, hco, hin, rfl, -⟩ := hC
    omega
  obtain ⟨M', d', hM', hd', hlen, hh, hnl, hnl2, hhh, hpl, hcls, hm1, hm2, hco, hin, hk⟩ := hC
  cases Option.some.inj (hM'.symm.trans hY)
  subst hlen
  have hM := xs_metX (D := D) (dA := dA) (sa := sa) (ad := ad) (sz := H.size) hall ih hY hd' hhh hcls hpl (by rw [hnl2]; exact hsl) hrun hr
  obtain ⟨hx, hb, hml, hown, hts, hK, hA, hX, hNw, hini, hlk⟩ := id hE
  obtain ⟨b, e1, e2, e3⟩ := xe_pop_ok n st [] as rest hpop
  rw [List.append_nil] at e1
  have e4 : st = as.reverse ++ rest := by rw [e1, List.reverse_reverse]; exact e2
  have e5 : as.length = n := by rw [e1, List.length_reverse]; exact e3
  have hfr : (xd_rm Y d').frames + 1 ≤ R.frames ∧ 8 + (d'.2.2.2.1 + 11) + (xd_rm Y d').locals ≤ R.locals := by
    show (20 + d'.2.2.2.2.2.2.1) + 1 ≤ R.frames ∧ 8 + (d'.2.2.2.1 + 11) + 40 * (20 + d'.2.2.2.2.2.2.1) ≤ R.locals
    omega
  have hpre := xs_pre hE hR as
  have hroom : 2 * (F0 m pc ls (st.map (xs_v ad sa ρ))).monitorRoom + ((rest.map (xs_v ad sa ρ)).map fun v => v.category).sum ≤ 8 := lv_room (xs_room hrl)
  have hfix : CallFix p m c d.2.2.1 d.2.2.2.1 s args xw_T d.1 := ⟨hx, hb, hml, hown, hts⟩
  rcases hk with ⟨idx, np, ci, q, rfl, rfl, rfl, hq, hqc, hpar, hw1, hw2, hw3⟩ | ⟨idx, np, rfl, rfl, -⟩ | ⟨idx, rfl, rfl, -⟩ | ⟨idx, np, rfl, rfl, -⟩
  · unfold xe_rcv at hrc
    split at hrc
    · next a as' =>
      rw [show Nat.ble 10 (ci + 10) = true from Nat.ble_eq.mpr (by omega)] at hrc
      change (match xe_nth w a with | some (.inr o) => Nat.beq (o.1 + 10) (ci + 10) | _ => false) = true at hrc
      rw [xe_nth_eq] at hrc
      split at hrc
      · next o ho =>
        have eo : o.1 = ci := by have := Nat.eq_of_beq_eq_true hrc; omega
        have he := xs_w_get ad sa ρ dA ho
        have hrv := va_recv (ci := ci) (q := q) (a := ad a) (q0 := a) (fs := o.2.map (xs_v ad sa ρ)) hK hR.2.1 hq (by rw [he, ← eo]; rfl)
        rw [hqc] at hrv
        refine ⟨#[], vx_runV (As := as'.map (xs_v ad sa ρ)) hfix hM (cwV np hts (xs_good ?_) rfl rfl rfl ⟨rfl, hm1, hm2, hpar⟩ hfr) ⟨xs_blind _ _ _ _ _ _ _ _ _, hrv, hpre⟩ rfl ?_ hR.1.1 ?_ hroom hdec ⟨hc1, hc2⟩⟩
        · intro w0 hw0
          rcases List.mem_append.mp hw0 with h9 | h9
          · simp only [List.mem_cons, List.not_mem_nil, or_false] at h9
            rcases h9 with rfl | rfl | rfl | rfl
            · exact hw1
            · exact hw2
            · exact hw3
            · exact hin
          · exact xs_ws_in hco w0 h9
        · rw [List.length_map]
          simpa using e5
        · show st.map (xs_v ad sa ρ) = _
          rw [e4]
          simp [xs_v]
      · cases hrc
    · cases (show Nat.beq (ci + 10) 2 = true from hrc)
  · omega
  · omega
  · omega
theorem xs_tab_at (hh : List (Nat × Nat × Nat × Nat)) (j : Nat) (b : Nat × Nat × Nat × Nat) (h : hh[j]? = some b) : ∃ pre suf : List ExceptionTableEntry, tableOf hh = pre ++ (⟨b.1, b.2.1, b.2.2.1, b.2.2.2⟩ : ExceptionTableEntry) :: suf ∧ ∀ z ∈ pre, ∃ (i : Nat) (q : Nat × Nat × Nat × Nat), i < j ∧ hh[i]? = some q ∧ z = ⟨q.1, q.2.1, q.2.2.1, q.2.2.2⟩ := by
  induction hh generalizing j with
  | nil => simp at h
  | cons a t ih =>
    cases j with
    | zero =>
      have ea : a = b := by simpa using h
      subst ea
      exact ⟨[], tableOf t, rfl, fun z hz => by cases hz⟩
    | succ j =>
      obtain ⟨pre, suf, g1, g2⟩ := ih j (by simpa using h)
      refine ⟨⟨a.1, a.2.1, a.2.2.1, a.2.2.2⟩ :: pre, suf, ?_, fun z hz => ?_⟩
      · show (⟨a.1, a.2.1, a.2.2.1, a.2.2.2⟩ : ExceptionTableEntry) :: tableOf t = _
        rw [g1]
        rfl
      · rcases List.mem_cons.mp hz with e1 | e1
        · exact ⟨0, a, by omega, rfl, e1⟩
        · obtain ⟨i, q, q1, q2, q3⟩ := g2 z e1
          exact ⟨i + 1, q, by omega, by simpa using q2, q3⟩
/-- a thrown exception is caught: the handler answers a constant -/
theorem xs_caught (hall : xk_All) (hM : xe_P[y]? = some M) (hd : xd_P[y]? = some d) {k : Nat} {v : Value} (hcat : xe_catch M.1 pc k M.2.2.2.2.2 = some v) (hri : M.2.2.1 = 1) {w' : xe_W} {rest : List Value} {q9 : Addr} {ce : Cell} (hI : xs_In (xs_Ls G ρ) M d w' al p R s m args meth c H locs ls ad ad0 n0 A D dA sa ρ) (h1 : nc ≤ M.2.2.2.1) (h2 : ns ≤ M.2.2.2.2.1) (hce : H[q9]? = some ce) (hcv : ce.vm = .none) (hcl : s.vm.findClass (xd_ex k) = some ce.cls) :
    vx_W p l e R s m args below meth c H locs nc ns (xs_FQ D dA sa ρ ad0 n0 M.2.2.2.1 M.2.2.2.2.1 A (1, v, w') below args s) (F0 m pc ls rest) q9 := by
  obtain ⟨j, a, g1, g2, g3, g4, g5, g6⟩ := xe_catch_ok hcat
  obtain ⟨hms, hrets, -, hhl, hhp⟩ := hall y M d hM hd
  have hjl : j < d.2.2.2.2.2.2.2.length := by rw [← hhl]; exact (List.getElem?_eq_some_iff.mp g1).1
  obtain ⟨b, hbj⟩ : ∃ b, d.2.2.2.2.2.2.2[j]? = some b := ⟨_, List.getElem?_eq_getElem hjl⟩
  obtain ⟨q1, q2, q3, q4, q5, q6⟩ := hhp j a b g1 hbj
  obtain ⟨pre, suf, t1, t2⟩ := xs_tab_at _ j b hbj
  obtain ⟨hE, hrt, htab, ⟨hlv, hP, hD, hS⟩, hag, hn0, hrm⟩ := hI
  obtain ⟨hx, hb2, hml, hown, hts, hK, hA, hX, hNw, hini, hlk⟩ := hE
  have hret : d.2.2.2.2.1 = some .int := by
    rcases hrets with h | h | h | h | h
    · exact absurd (hri.symm.trans h.1) (by decide)
    · exact h.2
    · exact absurd (hri.symm.trans h.1) (by decide)
    · exact absurd (hri.symm.trans h.1) (by decide)
    · exact absurd (hri.symm.trans h.1) (by decide)
  refine xh_catch (own := d.1) (name := xd_ex a.2.2.2) (E := xd_ex k) hown pre ⟨b.1, b.2.1, b.2.2.1, b.2.2.2⟩ suf (htab.trans t1) ?_ ?_ q5 (hts _ q6) ?_ hce hcv hcl ?_
  · intro z hz
    obtain ⟨i, q, z1, z2, z3⟩ := t2 z hz
    have hil : i < M.2.2.2.2.2.length := by rw [hhl]; exact (List.getElem?_eq_some_iff.mp z2).1
    obtain ⟨a2, ha2⟩ : ∃ a2, M.2.2.2.2.2[i]? = some a2 := ⟨_, List.getElem?_eq_getElem hil⟩
    obtain ⟨u1, u2, u3, u4, u5, u6⟩ := hhp i a2 q ha2 z2
    subst z3
    rcases g6 i a2 z1 ha2 with h | h
    · left
      show (decide (q.1 ≤ pc) && decide (pc < q.2.1)) = false
      rw [← u1, ← u2]
      rw [Bool.and_eq_false_iff]
      by_cases h5 : a2.1 ≤ pc
      · right
        exact decide_eq_false (fun h6 => h ⟨h5, h6⟩)
      · left
        exact decide_eq_false h5
    · right
      refine ⟨u5, xd_ex a2.2.2.2, hts _ u6, ?_⟩
      have hk2 : k < 2 := by rw [g4]; exact q4
      revert h u4
      generalize a2.2.2.2 = z
      intro u4 h
      match k, hk2, z, u4 with
      | 0, _, 0, _ => exact absurd rfl h
      | 1, _, 1, _ => exact absurd rfl h
      | 0, _, 1, _ => exact hNw.2.2.2.2.2.2.2.2.1
      | 1, _, 0, _ => exact hNw.2.2.2.2.2.2.2.2.2
  · show (decide (b.1 ≤ pc) && decide (pc < b.2.1)) = true
    rw [← q1, ← q2, decide_eq_true g2, decide_eq_true g3]
    rfl
  · have hk2 : k < 2 := by rw [g4]; exact q4
    rw [← g4]
    match k, hk2 with
    | 0, _ => exact va_Nw.use rfl (hNw.2.2.2.2.2.2.1 _ (by decide +kernel))
    | 1, _ => exact va_Nw.use rfl (hNw.2.2.2.2.2.2.1 _ (by decide +kernel))
  · obtain ⟨cst, l1, l2, l3, rs, rfl, hh⟩ := xe_hand_ok g5
    rw [show (⟨b.1, b.2.1, b.2.2.1, b.2.2.2⟩ : ExceptionTableEntry).handlerPc = a.2.2.1 from q3.symm]
    have hfin : ∀ (ls2 : Array Slot) (pc2 : Nat), decode d.2.2.1 pc2 = .ok (.iconst cst, 1) → decode d.2.2.1 (pc2 + 1) = .ok (.ireturn, 1) → W p l e R s m args below meth c H locs nc ns (xs_FQ D dA sa ρ ad0 n0 M.2.2.2.1 M.2.2.2.2.1 A (1, .int (Int32.ofInt cst), w') below args s) (F0 m pc2 ls2 []) := by
      intro ls2 pc2 dd1 dd2
      refine lv_iconst hx hb2 dd1 rfl ?_
      refine W.widen h1 h2 ?_
      exact W.iret hx hb2 (hrt.trans hret) (fun t ht _ => ⟨⟨ad, hag, hn0, rfl, by rw [ht]; exact hP, hD⟩, hS.F ht⟩) hS.2.2 dd2 hlk
    rcases hh with ⟨kk, hh⟩ | ⟨kk, hh⟩
    · have m1 := hms _ (xs_at_mem M.1 a.2.2.1 _ (by rw [hh]; exact List.mem_cons_self))
      have m2 := hms _ (xs_at_mem M.1 a.2.2.1 _ (by rw [hh]; exact List.mem_cons_of_mem _ List.mem_cons_self))
      have m3 := hms _ (xs_at_mem M.1 a.2.2.1 _ (by rw [hh]; exact List.mem_cons_of_mem _ (List.mem_cons_of_mem _ List.mem_cons_self)))
      have e1 : l1 = 1 := m1.2.1
      have e2 : l2 = 1 := m2.2.1
      have e3 : l3 = 1 := m3.2.1
      subst e1; subst e2; subst e3
      exact lv_astore_n hx hb2 m1.1 rfl hlv m1.2.2 rfl (fun ls2 _ => hfin ls2 _ m2.1 m3.1)
    · have m1 := hms _ (xs_at_mem M.1 a.2.2.1 _ (by rw [hh]; exact List.mem_cons_self))
      have m2 := hms _ (xs_at_mem M.1 a.2.2.1 _ (by rw [hh]; exact List.mem_cons_of_mem _ List.mem_cons_self))
      have m3 := hms _ (xs_at_mem M.1 a.2.2.1 _ (by rw [hh]; exact List.mem_cons_of_mem _ (List.mem_cons_of_mem _ List.mem_cons_self)))
      have e1 : l1 = 2 := m1.2.1
      have e2 : l2 = 1 := m2.2.1
      have e3 : l3 = 1 := m3.2.1
      subst e1; subst e2; subst e3
      exact lv_astore hx hb2 m1.1 hlv m1.2.2 rfl (fun ls2 _ => hfin ls2 _ m2.1 m3.1)
theorem xs_bCall_ok (hall : xk_All) (ih : xs_S l G ρ f) (hM : xe_P[y]? = some M) (hd : xd_P[y]? = some d) (hcur : ∀ e ∈ tl, e ∈ M.1) {i : Instr} {len : Nat} {res : List Nat} {y2 n kd : Nat} (hdec : decode d.2.2.1 pc = .ok (i, len)) (hC : xk_Call d i len y2 n kd) (hrun : xe_bCall y2 n kd xe_P G xe_Z (xe_run xe_P G xe_Z f) M (pc, i, len, res) tl pc al st w nc ns = some r) (hI : xs_In (xs_Ls G ρ) M d w al p R s m args meth c H locs ls ad ad0 n0 A D dA sa ρ) :
    W p l e R s m args below meth c H locs nc ns (xs_FQ D dA sa ρ ad0 n0 M.2.2.2.1 M.2.2.2.2.1 A r below args s) (F0 m pc ls (st.map (xs_v ad sa ρ))) := by
  have hrm := hI.2.2.2.2.2.2
  unfold xe_bCall at hrun
  rw [xe_nth_eq] at hrun
  split at hrun
  · cases hrun
  · next Y hY =>
    split at hrun
    · cases hrun
    · next as rest hpop =>
      cases hb : xe_rcv kd as w && Nat.ble (xe_sl as) Y.2.1 && Nat.ble (nc + Y.2.2.2.1) M.2.2.2.1 && Nat.ble (ns + Y.2.2.2.2.1) M.2.2.2.2.1 && Nat.ble rest.length 4 && (Nat.beq Y.2.2.2.1 0 || (xe_okA w.length al && xe_okS w.length rest)) with
      | false => rw [hb] at hrun; cases hrun
      | true =>
        rw [hb] at hrun
        dsimp only [cond_true] at hrun
        rw [Bool.and_eq_true] at hb
        obtain ⟨hb, hok⟩ := hb
        simp only [Bool.and_eq_true, Nat.ble_eq] at hb
        obtain ⟨⟨⟨⟨g1, g2⟩, g3⟩, g4⟩, g5⟩ := hb
        have hfree := xs_free hI.1 hI.2.2.2.1
        have hmcY : Y.2.2.2.1 ≤ M.2.2.2.1 := by omega
        split at hrun
        · next v w' hcal =>
          obtain ⟨a', hrn⟩ := xs_callRun (e := e) (below := below) (nc := nc) (ns := ns) (R := R) hall ih hI.1 hI.2.2.2.1 hC hdec hY hpop g1 g2 g5 (by omega) (by omega) ⟨hrm.1, hrm.2.1⟩ hcal rfl
          refine xs_cont hrn hI.2.2.2.1.2.2.2 hfree (fun ad' H1 locs1 k1 k2 k3 k4 k5 => ?_)
          obtain ⟨o1, o2⟩ := xs_okAfter (sa := sa) (ρ := ρ) k1 hok
          have q9 := xs_go (e := e) (below := below) ih hM hd hcur hrun (R := R) ⟨hI.1, hI.2.1, hI.2.2.1, ⟨by rw [o1]; exact hI.2.2.2.1.1, k3, k4, k5⟩, xs_ag_trans hI.2.2.2.2.1 (xs_ag_up k1 hmcY) hI.2.2.2.2.2.1, Nat.le_trans hI.2.2.2.2.2.1 k2, hrm⟩
          rw [o2] at q9
          exact q9
        · next v w' hcal =>
          obtain ⟨a', hrn⟩ := xs_callRun (e := e) (below := below) (nc := nc) (ns := ns) (R := R) hall ih hI.1 hI.2.2.2.1 hC hdec hY hpop g1 g2 g5 (by omega) (by omega) ⟨hrm.1, hrm.2.1⟩ hcal rfl
          refine xs_cont hrn hI.2.2.2.1.2.2.2 hfree (fun ad' H1 locs1 k1 k2 k3 k4 k5 => ?_)
          obtain ⟨o1, o2⟩ := xs_okAfter (sa := sa) (ρ := ρ) k1 hok
          have q9 := xs_go (e := e) (below := below) ih hM hd hcur hrun (R := R) ⟨hI.1, hI.2.1, hI.2.2.1, ⟨by rw [o1]; exact hI.2.2.2.1.1, k3, k4, k5⟩, xs_ag_trans hI.2.2.2.2.1 (xs_ag_up k1 hmcY) hI.2.2.2.2.2.1, Nat.le_trans hI.2.2.2.2.2.1 k2, hrm⟩
          rw [List.map_cons, o2] at q9
          exact q9
        · next k w' hcal =>
          cases hk : Nat.ble 10 kd with
          | false => rw [hk] at hrun; cases hrun
          | true =>
            rw [hk] at hrun
            dsimp only [cond_true] at hrun
            obtain ⟨a', hrn⟩ := xs_callRunX (e := e) (below := below) (nc := nc) (ns := ns) (R := R) hall ih hI.1 hI.2.2.2.1 hC hdec hY hpop g1 (Nat.ble_eq.mp hk) g2 g5 (by omega) (by omega) ⟨hrm.1, hrm.2.1⟩ hcal rfl
            refine xs_contX (free := A) (a := #[]) hrn hI.2.2.2.1.2.2.2 hfree (fun ce q9 ad' H1 locs1 k1 k2 k3 k4 k5 k6 k7 k8 => ?_)
            obtain ⟨o1, o2⟩ := xs_okAfter (sa := sa) (ρ := ρ) k1 hok
            have hI2 : xs_In (xs_Ls G ρ) M d w' al p R s m args meth c H1 locs1 ls ad' ad0 n0 A D dA sa ρ := ⟨hI.1, hI.2.1, hI.2.2.1, ⟨by rw [o1]; exact hI.2.2.2.1.1, k3, k4, k5⟩, xs_ag_trans hI.2.2.2.2.1 (xs_ag_up k1 hmcY) hI.2.2.2.2.2.1, Nat.le_trans hI.2.2.2.2.2.1 k2, hrm⟩
            split at hrun
            · next hnil =>
              cases hrun
              have hd0 : d.2.2.2.2.2.2.2 = [] := by
                have := (hall y M d hM hd).2.2.2.1
                rw [hnil] at this
                exact List.eq_nil_of_length_eq_zero this.symm
              exact vx_out (fun x hx => by rw [hI.2.2.1, hd0] at hx; cases hx) hI.1.2.2.2.2.2.2.2.2.2.2 k6 k7 k8 (fun t ht _ => ⟨rfl, ⟨ad', hI2.2.2.2.2.1, hI2.2.2.2.2.2.1, by rw [ht]; exact k3, k4⟩, k5.F ht⟩) k5.2.2 (by omega) (by omega)
            · split at hrun
              · next v hcat =>
                cases hri : Nat.beq M.2.2.1 1 with
                | false => rw [hri] at hrun; cases hrun
                | true =>
                  rw [hri] at hrun
                  cases hrun
                  exact xs_caught hall hM hd hcat (Nat.eq_of_beq_eq_true hri) hI2 (by omega) (by omega) k6 k7 k8
              · cases hrun
        · cases hrun
theorem xs_succ (hall : xk_All) (hl : l.stackTraces = false) (hG : xs_G G ρ) (ih : xs_S l G ρ f) : xs_S l G ρ (f + 1) := by
  intro y M d hM hd cur pc al st w nc ns r hcur hrun p e R s m args below meth c H locs ls ad ad0 n0 A D dA sa hE hret htab hR hag hn0 hrm
  have hI : xs_In (xs_Ls G ρ) M d w al p R s m args meth c H locs ls ad ad0 n0 A D dA sa ρ := ⟨hE, hret, htab, hR, hag, hn0, hrm⟩
  have hrun : xe_body xe_P G xe_Z (xe_run xe_P G xe_Z f) M cur pc al st w nc ns = some r := hrun
  unfold xe_body at hrun
  cases cur with
  | nil => cases hrun
  | cons ei tl =>
    have hcur2 : ∀ e ∈ tl, e ∈ M.1 := fun e he => hcur e (List.mem_cons_of_mem _ he)
    obtain ⟨hdec, hEi⟩ := (hall y M d hM hd).1 ei (hcur ei List.mem_cons_self)
    have hrets := (hall y M d hM hd).2.1
    obtain ⟨pc', i, len, res⟩ := ei
    dsimp only at hrun hdec hEi
    cases hb : Nat.beq pc' pc with
    | false => rw [hb] at hrun; cases hrun
    | true =>
      rw [hb] at hrun
      dsimp only [cond_true] at hrun
      have epc := Nat.eq_of_beq_eq_true hb
      subst epc
      unfold xe_bR at hrun
      split at hrun
      · next y2 n kd => exact xs_bCall_ok hall ih hM hd hcur2 hdec hEi hrun hI
      · next k is ic x => exact xs_bThrow_ok hl hM hd _ hdec hEi hrun hI
      · exact xs_bObj_ok ih hM hd hcur2 hdec hEi hrun hI
      · exact xs_bCopy_ok ih hM hd hcur2 hdec hEi hrun hI
      · exact xs_bClone_ok hall ih hM hd hcur2 hdec hEi hrun hI
      · exact xs_bMax_ok ih hM hd hcur2 hdec hEi hrun hI
      · exact xs_bMin_ok ih hM hd hcur2 hdec hEi hrun hI
      · exact xs_bZero_ok hG ih hM hd hcur2 hdec hEi hrun hI
      · next n1 n2 n3 n4 n5 n6 n7 n8 =>
        by_cases h5 : res = [5]
        · subst h5
          obtain ⟨idx, rfl, -⟩ := hEi
          have hrun : xe_bOn xe_P G xe_Z (xe_run xe_P G xe_Z f) M (pc', .checkcast idx, len, [5]) tl pc' al st w nc ns = some r := hrun
          unfold xe_bOn at hrun
          cases hrun
        · have hEi : len = xk_ln i len ∧ xk_L d.1 d.2.2.2.1 d.2.2.2.2.2.1 i res := by
            unfold xk_E at hEi
            dsimp only at hEi
            split at hEi
            · exact absurd rfl (n1 _ _ _)
            · exact absurd rfl (n2 _ _ _ _)
            · exact absurd rfl n3
            · exact absurd rfl n4
            · exact absurd rfl n5
            · exact absurd rfl h5
            · exact absurd rfl n6
            · exact absurd rfl n7
            · exact absurd rfl n8
            · exact hEi
          cases i with
          | return_ =>
            have e1 : len = 1 := hEi.1
            subst e1
            exact xs_bRet0_ok (tl := tl) (res := res) hM hd hrets (xe_run xe_P G xe_Z f) hdec hrun hI
          | ireturn =>
            have e1 : len = 1 := hEi.1
            subst e1
            exact xs_bRet_ok (tl := tl) (res := res) hM hd hrets (xe_run xe_P G xe_Z f) (Or.inl ⟨rfl, rfl⟩) hdec hrun hI
          | lreturn =>
            have e1 : len = 1 := hEi.1
            subst e1
            exact xs_bRet_ok (tl := tl) (res := res) hM hd hrets (xe_run xe_P G xe_Z f) (Or.inr (Or.inl ⟨rfl, rfl⟩)) hdec hrun hI
          | areturn =>
            have e1 : len = 1 := hEi.1
            subst e1
            exact xs_bRet_ok (tl := tl) (res := res) hM hd hrets (xe_run xe_P G xe_Z f) (Or.inr (Or.inr ⟨rfl, rfl⟩)) hdec hrun hI
          | _ => exact xs_bOn_ok hG ih hM hd hcur2 hdec hEi hrun hI
theorem xs_run (hall : xk_All) (hl : l.stackTraces = false) (hG : xs_G G ρ) (f : Nat) : xs_S l G ρ f := by
  induction f with
  | zero => exact xs_zero
  | succ f ih => exact xs_succ hall hl hG ih
end
