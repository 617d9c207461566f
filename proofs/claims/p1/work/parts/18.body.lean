section
variable {l : Launch} {G : xe_G} {f : Nat} {p : Program} {e : Env} {R : Room} {s : State} {m : MethodId} {args : Array Value} {below : List Frame} {meth : Method} {c : Code} {H : Heap} {locs : List Loc} {nc ns : Nat} {A : Nat → Prop} {D : va_G} {dA : Nat → ClassId} {sa : UInt32 → Nat} {ρ : Nat → Int32} {ad : Nat → Nat} {pc : Nat} {ls : Array Slot} {al : List (Nat × Value)} {st : List Value} {w : xe_W} {d : xd_D}
theorem xs_pre (hE : xs_En (xs_Ls G ρ) p s m args meth c d.1 d.2.2.1 d.2.2.2.1 A D dA sa d.2.2.2.2.2.1) (hR : xs_Rel D dA sa ρ A s d.2.2.2.1 ad al w ls H locs) (as : List Value) : ∀ U : State, U.heap = H → s.WarmedH U.vm → xs_Pc (xs_Ls G ρ) D dA sa ρ ad w as H.size (as.map (xs_v ad sa ρ)).toArray U := by
  obtain ⟨hx, hb, hml, hown, hts, hK, hA, hX, hNw, hini, hlk⟩ := hE
  obtain ⟨hl, hP, hD, hS⟩ := hR
  intro U hU hW
  refine ⟨rfl, by rw [hU], by rw [hU]; exact hP, va_K.moved hW.alike hK, hD.weaken (fun _ _ _ _ => trivial), ?_, xs_Nw_warm hNw hW⟩
  refine xs_X_kept hX hW.alike hS hU ?_
  intro q h
  rcases h with ⟨k, e2, hk⟩ | h
  · exact hD.2 k _ hk
  · exact hA q (Nat.le_trans hS.1 h)
theorem xs_free (hE : xs_En (xs_Ls G ρ) p s m args meth c d.1 d.2.2.1 d.2.2.2.1 A D dA sa d.2.2.2.2.2.1) (hR : xs_Rel D dA sa ρ A s d.2.2.2.1 ad al w ls H locs) : ∀ q, va_A (xs_w ad sa ρ dA w) H.size q → A q := by
  intro q h
  rcases h with ⟨k, e2, hk⟩ | h
  · exact hR.2.2.1.2 k _ hk
  · exact hE.2.2.2.2.2.2.1 q (Nat.le_trans hR.2.2.2.1 h)
theorem xs_ws_in {d' : xd_D} (h : Cond.code d'.2.1 d'.2.2.1 d'.2.2.2.1 d'.2.2.2.2.1 ∈ xw_T) : ∀ w ∈ xd_ws d', w ∈ xw_T := fun w hw => (List.mem_cons.mp hw).elim (fun e => by rw [e]; exact h) id
/-- the run of a call -/
theorem xs_callRun (hall : xk_All) (ih : xs_S l G ρ f) (hE : xs_En (xs_Ls G ρ) p s m args meth c d.1 d.2.2.1 d.2.2.2.1 A D dA sa d.2.2.2.2.2.1) (hR : xs_Rel D dA sa ρ A s d.2.2.2.1 ad al w ls H locs) {i : Instr} {len y n kd : Nat} (hC : xk_Call d i len y n kd) (hdec : decode d.2.2.1 pc = .ok (i, len)) {Y : xe_M} (hY : xe_P[y]? = some Y) {as rest : List Value} (hpop : xe_pop n st [] = some (as, rest)) (hrc : xe_rcv kd as w = true) (hsl : xe_sl as ≤ Y.2.1) (hrl : rest.length ≤ 4) (hc1 : nc + Y.2.2.2.1 ≤ R.cells) (hc2 : ns + Y.2.2.2.2.1 ≤ R.slots) (hrm : 20 + d.2.2.2.2.2.2.1 ≤ R.frames ∧ 40 * (20 + d.2.2.2.2.2.2.1) ≤ R.locals) {r : xe_R} (hrun : xe_run xe_P G xe_Z f Y Y.1 0 (lv_args 0 as) [] w 0 0 = some r) (hr : Nat.beq r.1 2 = false) :
    ∃ a', va_Run p l e R s m args below meth c H locs nc ns Y.2.2.2.1 Y.2.2.2.2.1 (F0 m pc ls (st.map (xs_v ad sa ρ))) (rest.map (xs_v ad sa ρ)) (xs_Qc D dA sa ρ ad w.length Y.2.2.2.1 (va_A (xs_w ad sa ρ dA w) H.size) r a') (va_A (xs_w ad sa ρ dA w) H.size) := by
  rcases hC with hC | hC
  case inr =>
    obtain ⟨M', d', hM', hd', hlen, hh, hnl, hnl2, hpl, hcls, hm1, hm2, hco, hin, rfl, idx, rfl, hpar, hw1, hw2⟩ := hC
    cases Option.some.inj (hM'.symm.trans hY)
    subst hlen
    have hM := xs_metW (D := D) (dA := dA) (sa := sa) (ad := ad) (sz := H.size) hall ih hY hd' hcls hpl (by rw [hnl2]; exact hsl) hrun hr
    obtain ⟨hx, hb, hml, hown, hts, hK, hA, hX, hNw, hini, hlk⟩ := id hE
    obtain ⟨b, e1, e2, e3⟩ := xe_pop_ok n st [] as rest hpop
    rw [List.append_nil] at e1
    have e4 : st = as.reverse ++ rest := by rw [e1, List.reverse_reverse]; exact e2
    have e5 : as.length = n := by rw [e1, List.length_reverse]; exact e3
    have hfr : (xd_rm Y d').frames + 1 ≤ R.frames ∧ 8 + (d'.2.2.2.1 + 11) + (xd_rm Y d').locals ≤ R.locals := by
      show (20 + d'.2.2.2.2.2.2.1) + 1 ≤ R.frames ∧ 8 + (d'.2.2.2.1 + 11) + 40 * (20 + d'.2.2.2.2.2.2.1) ≤ R.locals
      omega
    refine ⟨_, vx_runSW (As := as.map (xs_v ad sa ρ)) (hh := d'.2.2.2.2.2.2.2) (⟨hx, hb, hml, hown, hts⟩ : CallFix p m c d.2.2.1 d.2.2.2.1 s args xw_T d.1) hM (vx_cwSW n hts (xs_good ?_) rfl rfl rfl ⟨hm1, hm2, hpar⟩ hfr) ⟨xs_blind _ _ _ _ _ _ _ _ _, xs_pre hE hR as⟩ rfl ?_ hR.1.1 ?_ (lv_room (xs_room hrl)) hdec ⟨hc1, hc2⟩⟩
    · intro w0 hw0
      rcases List.mem_append.mp hw0 with h9 | h9
      · simp only [List.mem_cons, List.not_mem_nil, or_false] at h9
        rcases h9 with rfl | rfl | rfl
        · exact hw1
        · exact hw2
        · exact hin
      · exact (List.mem_cons.mp h9).elim (fun e => by rw [e]; exact hco) id
    · rw [List.length_map]
      exact e5
    · show st.map (xs_v ad sa ρ) = _
      rw [e4]
      simp
  obtain ⟨M', d', hM', hd', hlen, hh, hnl, hnl2, hhh, hpl, hcls, hm1, hm2, hco, hin, hk⟩ := hC
  cases Option.some.inj (hM'.symm.trans hY)
  subst hlen
  have hM := xs_met (D := D) (dA := dA) (sa := sa) (ad := ad) (sz := H.size) hall ih hY hd' hhh hcls hpl (by rw [hnl2]; exact hsl) hrun hr
  obtain ⟨hx, hb, hml, hown, hts, hK, hA, hX, hNw, hini, hlk⟩ := id hE
  obtain ⟨b, e1, e2, e3⟩ := xe_pop_ok n st [] as rest hpop
  rw [List.append_nil] at e1
  have e4 : st = as.reverse ++ rest := by rw [e1, List.reverse_reverse]; exact e2
  have e5 : as.length = n := by rw [e1, List.length_reverse]; exact e3
  have hfr : (xd_rm Y d').frames + 1 ≤ R.frames ∧ 8 + (d'.2.2.2.1 + 11) + (xd_rm Y d').locals ≤ R.locals := by
    show (20 + d'.2.2.2.2.2.2.1) + 1 ≤ R.frames ∧ 8 + (d'.2.2.2.1 + 11) + 40 * (20 + d'.2.2.2.2.2.2.1) ≤ R.locals
    omega
  have hpre := xs_pre hE hR as
  have hroom : 2 * (F0 m pc ls (st.map (xs_v ad sa ρ))).monitorRoom + ((rest.map (xs_v ad sa ρ)).map fun v => v.category).sum ≤ 8 := lv_room (xs_room hrl)
  have hfix : CallFix p m c d.2.2.1 d.2.2.2.1 s args xw_T d.1 := ⟨hx, hb, hml, hown, hts⟩
  rcases hk with ⟨idx, np, ci, q, rfl, rfl, rfl, hq, hqc, hpar, hw1, hw2, hw3⟩ | ⟨idx, np, rfl, rfl, rfl, hnone, hpar, hnm, hw1, hw2⟩ | ⟨idx, rfl, rfl, hpar, hw1, hw2⟩ | ⟨idx, np, rfl, rfl, rfl, hnone, hpar, hnm, hw2, hnest⟩
  · -- by a name
    unfold xe_rcv at hrc
    split at hrc
    · next a as' =>
      rw [show Nat.ble 10 (ci + 10) = true from Nat.ble_eq.mpr (by omega)] at hrc
      change (match xe_nth w a with | some (.inr o) => Nat.beq (o.1 + 10) (ci + 10) | _ => false) = true at hrc
      rw [xe_nth_eq] at hrc
      split at hrc
      · next o ho =>
        have eo : o.1 = ci := by have := Nat.eq_of_beq_eq_true hrc; omega
        have he := xs_w_get ad sa ρ dA ho
        have hrv := va_recv (ci := ci) (q := q) (a := ad a) (q0 := a) (fs := o.2.map (xs_v ad sa ρ)) hK hR.2.1 hq (by rw [he, ← eo]; rfl)
        rw [hqc] at hrv
        refine ⟨_, va_runV (As := as'.map (xs_v ad sa ρ)) hfix hM (cwV np hts (xs_good ?_) rfl rfl rfl ⟨rfl, hm1, hm2, hpar⟩ hfr) ⟨xs_blind _ _ _ _ _ _ _ _ _, hrv, hpre⟩ rfl ?_ hR.1.1 ?_ hroom hdec ⟨hc1, hc2⟩⟩
        · intro w0 hw0
          rcases List.mem_append.mp hw0 with h9 | h9
          · simp only [List.mem_cons, List.not_mem_nil, or_false] at h9
            rcases h9 with rfl | rfl | rfl | rfl
            · exact hw1
            · exact hw2
            · exact hw3
            · exact hin
          · exact xs_ws_in hco w0 h9
        · rw [List.length_map]
          simpa using e5
        · show st.map (xs_v ad sa ρ) = _
          rw [e4]
          simp [xs_v]
      · cases hrc
    · cases (show Nat.beq (ci + 10) 2 = true from hrc)
  · -- a constructor
    unfold xe_rcv at hrc
    split at hrc
    · next a as' =>
      have hwd : xd_ws d' = Cond.code d'.2.1 d'.2.2.1 d'.2.2.2.1 none :: xw_T := by unfold xd_ws; rw [hnone]
      refine ⟨_, va_runI (As := as'.map (xs_v ad sa ρ)) (b := ad a) hfix hM (cwI np hts (xs_good (xs_ws_in hco)) hwd rfl rfl (hts _ hin) (hts _ hw1) (hts _ hw2) hnm ⟨hm1, hm2, hpar⟩ hfr) ⟨xs_blind _ _ _ _ _ _ _ _ _, hpre⟩ rfl ?_ hR.1.1 ?_ hroom hdec ⟨hc1, hc2⟩⟩
      · rw [List.length_map]
        simpa using e5
      · show st.map (xs_v ad sa ρ) = _
        rw [e4]
        simp [xs_v]
    · cases (show Nat.beq 1 2 = true from hrc)
  · -- static
    refine ⟨_, va_runS (As := as.map (xs_v ad sa ρ)) hfix hM (va_cwS n hts (xs_good ?_) rfl rfl rfl ⟨hm1, hm2, hpar⟩ hfr) ⟨xs_blind _ _ _ _ _ _ _ _ _, hpre⟩ rfl ?_ hR.1.1 ?_ hroom hdec ⟨hc1, hc2⟩⟩
    · intro w0 hw0
      rcases List.mem_append.mp hw0 with h9 | h9
      · simp only [List.mem_cons, List.not_mem_nil, or_false] at h9
        rcases h9 with rfl | rfl | rfl
        · exact hw1
        · exact hw2
        · exact hin
      · exact xs_ws_in hco w0 h9
    · rw [List.length_map]
      exact e5
    · show st.map (xs_v ad sa ρ) = _
      rw [e4]
      simp
  · -- a nest mate's constructor
    unfold xe_rcv at hrc
    split at hrc
    · next a as' =>
      have hwd : xd_ws d' = Cond.code d'.2.1 d'.2.2.1 d'.2.2.2.1 none :: xw_T := by unfold xd_ws; rw [hnone]
      have hnl9 : va_Nw (.methodLinkNest d.1 idx d'.2.1 "TingDecks") s := by
        rcases hnest with h9 | h9 | h9 | h9
        · simp only [Prod.mk.injEq] at h9; rw [h9.1, h9.2.1, h9.2.2]; exact hNw.2.2.1
        · simp only [Prod.mk.injEq] at h9; rw [h9.1, h9.2.1, h9.2.2]; exact hNw.2.2.2.1
        · simp only [Prod.mk.injEq] at h9; rw [h9.1, h9.2.1, h9.2.2]; exact hNw.2.2.2.2.1
        · simp only [Prod.mk.injEq] at h9; rw [h9.1, h9.2.1, h9.2.2]; exact hNw.2.2.2.2.2.1
      refine ⟨_, va_runIN (As := as'.map (xs_v ad sa ρ)) (b := ad a) (host := "TingDecks") hfix hM ⟨va_cnB np hts (xs_good (xs_ws_in hco)) hwd rfl rfl hnl9 (hts _ hin) ⟨hm1, hm2, hpar⟩ hfr, hnm, hts _ hw2⟩ ⟨xs_blind _ _ _ _ _ _ _ _ _, hpre⟩ rfl ?_ hR.1.1 ?_ hroom hdec ⟨hc1, hc2⟩⟩
      · rw [List.length_map]
        simpa using e5
      · show st.map (xs_v ad sa ρ) = _
        rw [e4]
        simp [xs_v]
    · cases (show Nat.beq 3 2 = true from hrc)
end
