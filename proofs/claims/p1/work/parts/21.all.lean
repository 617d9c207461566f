section
variable {l : Launch} {G : xe_G} {ρ : Nat → Int32} {f : Nat} {y : Nat} {M : xe_M} {d : xd_D} {tl : List xe_I} {pc : Nat} {al : List (Nat × Value)} {st : List Value} {w : xe_W} {nc ns : Nat} {r : xe_R} {p : Program} {e : Env} {R : Room} {s : State} {m : MethodId} {args : Array Value} {below : List Frame} {meth : Method} {c : Code} {H : Heap} {locs : List Loc} {ls : Array Slot} {ad ad0 : Nat → Nat} {n0 : Nat} {A : Nat → Prop} {D : va_G} {dA : Nat → ClassId} {sa : UInt32 → Nat} {Q : State → Prop} {cc : ByteArray} {ws : va_W} {tys : List (ClassId × FieldType)} {rest : List Value} {cells slots : Nat}
/-- 'clone' of the static row -/
theorem xs_cloneT (hexec : p.tables.exec = Jvm.exec) (hb : c.code = cc) (hml : c.maxLocals = ls.size) {own : String} {index : Nat} (hown : s.vm.findClass own = some m.cls)
    (hlink : (Cond.methodLink own index xd_cl).before args s = true) (hsame : (Cond.sameMethod "[I" "java/lang/Object" "clone" "()Ljava/lang/Object;").before args s = true) (hnat : (Cond.native xd_oc).before args s = true) (hinst : (Cond.instanceMethod xd_oc).before args s = true) (hsel : (Cond.selects "[I" xd_cl xd_oc).before args s = true) (hcl : va_Nw (.castable "[I" "java/lang/Cloneable") s)
    (hK : va_K D vwCl tys s) (hP : va_P D vwCl ws H) (hD : va_D A ws) (hS : va_S A s.heap H locs) (hA : ∀ q, s.heap.size ≤ q → A q) (hX : xs_SA (sa 0) A s s.heap) (t0 : Nat) {cA : ClassId} (ht : tys[t0]? = some (cA, .int))
    (hframes : 1 ≤ R.frames) (hlocals : (rest.map fun v => v.category).sum + 14 ≤ R.locals) (hcells : cells + 1 ≤ R.cells) (hslots : slots + 5 ≤ R.slots) (hdg : decode cc pc = .ok (.invokevirtual index, 3))
    (kk : ∀ (q : Nat) (H1 : Heap), va_P D vwCl (ws ++ [(q, .inl (cA, 5, .inl xs_sf))]) H1 → va_D A (ws ++ [(q, .inl (cA, 5, .inl xs_sf))]) → va_S A s.heap H1 locs →
      W p l e R s m args below meth c H1 locs (cells + 1) (slots + 5) Q (F0 m (pc + 3) ls (.ref q :: rest))) : W p l e R s m args below meth c H locs cells slots Q (F0 m pc ls (.ref (sa 0) :: rest)) := by
  obtain ⟨⟨scr, g1, g2, g3, g4, g5⟩, hnA, cell, g6, g7⟩ := hX
  cases Option.some.inj (g6.symm.trans g1)
  have hra := (hK.2 t0 _ ht).2
  have ecA : scr.cls = cA := Option.some.inj (g7.symm.trans hra)
  have hslE : scr.slots = (arrV cA 5 (fun j => .int (xs_sf j))).slots := by
    apply Array.ext_getElem?
    intro j
    by_cases hj : j < 5
    · rw [g5 j hj, arrV_read _ _ hj]
    · rw [Array.getElem?_eq_none (by omega), Array.getElem?_eq_none (by rw [arrV_size]; omega)]
  have hcellE : ({ cls := scr.cls, slots := scr.slots } : Cell) = vp_cell cA (5, .inl xs_sf) := by
    rw [ecA, hslE]
    rfl
  obtain ⟨c0, t0', f1, f2, f3⟩ := Cond.castable_spec (va_Nw.use (A := args) rfl hcl)
  cases Option.some.inj (f1.symm.trans g7)
  intro T hT X
  have hlt : sa 0 < s.heap.size := (Array.getElem?_eq_some_iff.mp g1).1
  have hcellT : T.heap[sa 0]? = some scr := by rw [hT, hS.2.1 (sa 0) hlt hnA]; exact g1
  obtain ⟨hst, kA, hkA, comp, hkind⟩ := State.isArrayOf_alike X.warmed.alike g2
  obtain ⟨-, kS, hkS, compS, hkindS⟩ := g2
  obtain ⟨vm', X', st⟩ := X.cloneArray hexec hown hlink hsame hnat hinst hsel (a := sa 0) (cell := scr) hcellT hst g3 g7 f2 f3
    (fun i v hv => by
      have hj : i < 5 := by
        have := (Array.getElem?_eq_some_iff.mp hv).1
        omega
      rw [g5 i hj] at hv
      cases hv
      have hk' : T.vm.classes[scr.cls]? = some kA := hkA
      simp [State.fitsSlot, State.slotType?, hk', hkind, fits])
    (g := F0 m pc ls (.ref (sa 0) :: rest)) rfl (by rw [hml]) rfl (by rw [hb]; exact hdg) hframes (by show 2 * 0 + _ + 14 ≤ _; omega) hcells (by rw [g4]; exact hslots) (hloader := Vm.clonesLoader_of_array hkS hkindS)
  rw [hcellE, g4] at X'
  generalize hH1 : H.push (vp_cell cA (5, .inl xs_sf)) = H1
  have z1 : H1.size = H.size + 1 := by rw [← hH1, Array.size_push]
  have e1 : H1[H.size]? = some (vp_cell cA (5, .inl xs_sf)) := by rw [← hH1, Array.getElem?_push_size]
  have o1 : ∀ q : Nat, q < H.size → H1[q]? = H[q]? := fun q hq => by rw [← hH1, Array.getElem?_push, if_neg (Nat.ne_of_lt hq)]
  have hk : ∀ (k : Nat) (y : Nat × va_E), ws[k]? = some y → H1[y.1]? = H[y.1]? := fun k y hy => o1 y.1 ((hP k y hy).lt)
  obtain ⟨t, b1, b2⟩ := kk H.size H1 ((hP.kept hk).app (fun k y hy => by
      have hz : k < 1 := (List.getElem?_eq_some_iff.mp hy).1
      rw [show k = 0 by omega] at hy
      cases hy
      exact e1)) (hD.push hP rfl (hA _ hS.1)) ⟨Nat.le_trans hS.1 (by omega), fun y h1 h2 => (o1 y (Nat.lt_of_lt_of_le h1 hS.1)).trans (hS.2.1 y h1 h2), hS.2.2⟩
    ((T.setVm vm').pushCell (vp_cell cA (5, .inl xs_sf))) (by rw [← hH1, ← hT]; rfl) X'
  refine ⟨t, st t ?_, b2⟩
  rw [hcellE, hT]
  exact b1
theorem xs_bClone_ok (hall : xk_All) (ih : xs_S l G ρ f) (hM : xe_P[y]? = some M) (hd : xd_P[y]? = some d) (hcur : ∀ e ∈ tl, e ∈ M.1) {i : Instr} {len : Nat} {res : List Nat} (hdec : decode d.2.2.1 pc = .ok (i, len)) (hk : ∃ idx, i = .invokevirtual idx ∧ len = 3 ∧ Cond.methodLink d.1 idx xd_cl ∈ xw_T ∧ Cond.sameMethod "[I" "java/lang/Object" "clone" "()Ljava/lang/Object;" ∈ xw_T ∧ Cond.native xd_oc ∈ xw_T ∧ Cond.instanceMethod xd_oc ∈ xw_T ∧ Cond.selects "[I" xd_cl xd_oc ∈ xw_T) (hrun : xe_bClone xe_P G xe_Z (xe_run xe_P G xe_Z f) M (pc, i, len, res) tl pc al st w nc ns = some r) (hI : xs_In (xs_Ls G ρ) M d w al p R s m args meth c H locs ls ad ad0 n0 A D dA sa ρ) :
    W p l e R s m args below meth c H locs nc ns (xs_FQ D dA sa ρ ad0 n0 M.2.2.2.1 M.2.2.2.2.1 A r below args s) (F0 m pc ls (st.map (xs_v ad sa ρ))) := by
  obtain ⟨idx, rfl, rfl, h1, h2, h3, h4, h5⟩ := hk
  obtain ⟨hx, hb2, hml, hown, hts, hK, hA, hX, hNw, hini, hlk⟩ := id hI.1
  obtain ⟨hlv, hP, hD, hS⟩ := hI.2.2.2.1
  have hrm := hI.2.2.2.2.2.2
  unfold xe_bClone at hrun
  split at hrun
  · next u rest pc' jdx tl2 =>
    cases hb : decide (u = 0) && Nat.beq pc' (pc + 3) && Nat.ble (nc + 1) M.2.2.2.1 && Nat.ble (ns + 5) M.2.2.2.2.1 && Nat.ble rest.length 4 && xe_ok w.length al rest w with
    | false => rw [hb] at hrun; cases hrun
    | true =>
      rw [hb] at hrun
      dsimp only [cond_true] at hrun
      simp only [Bool.and_eq_true, Nat.ble_eq, decide_eq_true_eq] at hb
      obtain ⟨⟨⟨⟨⟨g0, g1⟩, g2⟩, g3⟩, g4⟩, g5⟩ := hb
      subst g0
      have g1 := Nat.eq_of_beq_eq_true g1
      subst g1
      have hr8 := xs_room (ad := ad) (sa := sa) (ρ := ρ) g4
      obtain ⟨hdec2, kdx, hk1, hk2⟩ := (hall y M d hM hd).1 _ (hcur _ List.mem_cons_self)
      cases hk1
      refine xs_cloneT hx hb2 (by rw [hml]; exact hlv.1.symm) hown (hts _ h1) (hts _ h2) (hts _ h3) (hts _ h4) (hts _ h5) hNw.2.1 hK hP hD hS hA hX.2.1 1 rfl (by omega) (by omega) (by omega) (by omega) hdec (fun q H1 hP1 hD1 hS1 => ?_)
      rw [xs_SF_fun ρ] at hP1 hD1
      have hnm : s.vm.findClass "[I" = some (dA 1) := (hK.2 1 _ rfl).2
      refine va_castA hx hb2 hown (hts _ hk2) hP1 w.length (by rw [List.getElem?_append_right (by rw [xs_w_len]; exact Nat.le_refl _), xs_w_len, Nat.sub_self]; rfl) hnm hdec2 ?_
      obtain ⟨r1, r2⟩ := xs_pushed (st := rest) (c2 := .inl (1, 5, xe_SF)) hlv g5 hP1 hD1 hS1
      have q9 := xs_go (e := e) (below := below) ih hM hd (fun e he => hcur e (List.mem_cons_of_mem _ he)) hrun ⟨hI.1, hI.2.1, hI.2.2.1, r1, xs_ag_trans hI.2.2.2.2.1 (xs_ad_ag g2) hI.2.2.2.2.2.1, Nat.le_trans hI.2.2.2.2.2.1 (by rw [List.length_append]; omega), hrm⟩
      rw [r2] at q9
      exact q9
  · cases hrun
theorem xe_hand_ok {li : List xe_I} {h : Nat} {v : Value} (hh : xe_hand li h = some v) : ∃ (cst : Int) (l1 l2 l3 : Nat) (rs : List xe_I), v = .int (Int32.ofInt cst) ∧ ((∃ k : Fin 4, li = (h, .astore_n k, l1, []) :: (h + 1, .iconst cst, l2, []) :: (h + 2, .ireturn, l3, []) :: rs) ∨ (∃ k : Nat, li = (h, .astore k, l1, []) :: (h + 2, .iconst cst, l2, []) :: (h + 3, .ireturn, l3, []) :: rs)) := by
  unfold xe_hand at hh
  split at hh
  · next p1 k l1 p2 cst l2 p3 l3 rs =>
    cases hb : Nat.beq p1 h && Nat.beq p2 (h + 1) && Nat.beq p3 (h + 2) with
    | false => rw [hb] at hh; cases hh
    | true =>
      rw [hb] at hh
      cases hh
      simp only [Bool.and_eq_true] at hb
      obtain ⟨⟨e1, e2⟩, e3⟩ := hb
      have e1 := Nat.eq_of_beq_eq_true e1
      have e2 := Nat.eq_of_beq_eq_true e2
      have e3 := Nat.eq_of_beq_eq_true e3
      subst e1; subst e2; subst e3
      exact ⟨cst, l1, l2, l3, rs, rfl, Or.inl ⟨k, rfl⟩⟩
  · next p1 k l1 p2 cst l2 p3 l3 rs =>
    cases hb : Nat.beq p1 h && Nat.beq p2 (h + 2) && Nat.beq p3 (h + 3) with
    | false => rw [hb] at hh; cases hh
    | true =>
      rw [hb] at hh
      cases hh
      simp only [Bool.and_eq_true] at hb
      obtain ⟨⟨e1, e2⟩, e3⟩ := hb
      have e1 := Nat.eq_of_beq_eq_true e1
      have e2 := Nat.eq_of_beq_eq_true e2
      have e3 := Nat.eq_of_beq_eq_true e3
      subst e1; subst e2; subst e3
      exact ⟨cst, l1, l2, l3, rs, rfl, Or.inr ⟨k, rfl⟩⟩
  · cases hh
theorem xe_catch_ok {code : List xe_I} {pc k : Nat} {hh : List (Nat × Nat × Nat × Nat)} {v : Value} (h : xe_catch code pc k hh = some v) : ∃ (j : Nat) (r : Nat × Nat × Nat × Nat), hh[j]? = some r ∧ r.1 ≤ pc ∧ pc < r.2.1 ∧ k = r.2.2.2 ∧ xe_hand (xe_at code r.2.2.1) r.2.2.1 = some v ∧ ∀ (i : Nat) (z : Nat × Nat × Nat × Nat), i < j → hh[i]? = some z → ¬ (z.1 ≤ pc ∧ pc < z.2.1) ∨ k ≠ z.2.2.2 := by
  induction hh with
  | nil => cases h
  | cons a t ih =>
    have h : (bif Nat.ble a.1 pc && Nat.blt pc a.2.1 && Nat.beq k a.2.2.2 then xe_hand (xe_at code a.2.2.1) a.2.2.1 else xe_catch code pc k t) = some v := h
    cases hb : Nat.ble a.1 pc && Nat.blt pc a.2.1 && Nat.beq k a.2.2.2 with
    | true =>
      rw [hb] at h
      simp only [Bool.and_eq_true, Nat.ble_eq] at hb
      obtain ⟨⟨e1, e2⟩, e3⟩ := hb
      exact ⟨0, a, rfl, e1, Nat.ble_eq.mp e2, Nat.eq_of_beq_eq_true e3, h, fun i z hi _ => absurd hi (Nat.not_lt_zero i)⟩
    | false =>
      rw [hb] at h
      obtain ⟨j, r, g1, g2, g3, g4, g5, g6⟩ := ih h
      refine ⟨j + 1, r, by simpa using g1, g2, g3, g4, g5, fun i z hi hz => ?_⟩
      cases i with
      | zero =>
        have ez : a = z := by simpa using hz
        subst ez
        by_cases hk : k = a.2.2.2
        · left
          intro hp
          have : (Nat.ble a.1 pc && Nat.blt pc a.2.1 && Nat.beq k a.2.2.2) = true := by
            rw [Nat.ble_eq.mpr hp.1, show Nat.blt pc a.2.1 = true from Nat.ble_eq.mpr hp.2, hk]
            simp
          rw [this] at hb
          cases hb
        · exact Or.inr hk
      | succ i => exact g6 i z (by omega) (by simpa using hz)
end
