section
variable {l : Launch} {G : xe_G} {ρ : Nat → Int32} {f : Nat}
theorem xs_noTab {p : Program} {y : MethodName} {S : Spec} {cc bytes : ByteArray} {maxL maxL' : Nat} {ret ret' : Option FieldType} {e : Env} {s s₁ : State} {m : MethodId} {args : Array Value} {below : List Frame} {meth : Method} {c : Code} (B : BodyLoose p l y S cc maxL ret e s m args below meth c s₁) (h : (Cond.code y bytes maxL' ret').before args s = true) : c.exceptionTable.toList = [] := by
  obtain ⟨meth9, c9, h1, h2, -, -, -, -, h7, -⟩ := Cond.code_spec B.named h
  cases Option.some.inj (h1.symm.trans B.method)
  cases Option.some.inj (h2.symm.trans (Stand.of_body B).code)
  rw [Array.isEmpty_iff.mp h7]
/-- the body's walk, at a contract's start -/
theorem xs_start (hall : xk_All) (ih : xs_S l G ρ f) {y : Nat} {M : xe_M} {d : xd_D} (hM : xe_P[y]? = some M) (hd : xd_P[y]? = some d) (hcls : d.2.1.cls = d.1) {D : va_G} {dA : Nat → ClassId} {sa : UInt32 → Nat} {ad : Nat → Nat} {w : xe_W} {as : List Value} {r : xe_R} {sz : Nat} (hsl : xe_sl as ≤ d.2.2.2.1) (hrun : xe_run xe_P G xe_Z f M M.1 0 (lv_args 0 as) [] w 0 0 = some r) {ws : List Cond} (hws : ∀ w ∈ xw_T, w ∈ ws)
    {p : Program} {e : Env} {s : State} {m : MethodId} {args : Array Value} {below : List Frame} {meth : Method} {c : Code} {s₁ : State} (B : BodyLoose p l d.2.1 (headSpec ws (xd_rm M d)) d.2.2.1 d.2.2.2.1 d.2.2.2.2.1 e s m args below meth c s₁) (hml : c.maxLocals = d.2.2.2.1) (htab : c.exceptionTable.toList = tableOf d.2.2.2.2.2.2.2) (hv : xs_Pc (xs_Ls G ρ) D dA sa ρ ad w as sz args s) :
    W p l e (xd_rm M d) s m args below meth c s.heap [] 0 0 (xs_FQ D dA sa ρ ad w.length M.2.2.2.1 M.2.2.2.2.1 (va_A (xs_w ad sa ρ dA w) sz) r below args s) (entryFrame m args d.2.2.2.1) := by
  obtain ⟨rfl, hsz, hP, hK, hD0, hX, hNw⟩ := hv
  have hts := atoms_spec (ws := ws) B.pre
  have hown : s.vm.findClass d.1 = some m.cls := by rw [← hcls]; exact findClass_of_methodNamed B.named
  subst hsz
  have hD := hD0.self (sz := s.heap.size)
  have hl := lv_entry (as.map (xs_v ad sa ρ)) (n := d.2.2.2.1) (by rw [xs_sl]; exact hsl)
  rw [lg_entry_eq]
  generalize (lg_sl (as.map (xs_v ad sa ρ)) ++ List.replicate (d.2.2.2.1 - (lg_sl (as.map (xs_v ad sa ρ))).length) Slot.unset).toArray = ls at hl ⊢
  rw [xs_args] at hl
  exact ih y M d hM hd M.1 0 _ [] w 0 0 r (fun _ h => h) hrun p e (xd_rm M d) s m _ below meth c s.heap [] ls ad ad w.length _ D dA sa
    ⟨B.exec, B.bytes, hml, hown, fun w hw => hts w (hws w hw), hK, fun q h => Or.inr h, hX, hNw, fun hi => (name_of_methodNamed B.named B.method).1.trans ((hall y M d hM hd).2.2.1 hi), B.notSynchronized⟩ B.returns htab ⟨hl, hP, hD, va_S.rf⟩ (xs_ag_rf _ _ _) (Nat.le_refl _) ⟨Nat.le_refl _, Nat.le_refl _, Nat.le_refl _, Nat.le_refl _⟩
theorem xs_met (hall : xk_All) (ih : xs_S l G ρ f) {y : Nat} {M : xe_M} {d : xd_D} (hM : xe_P[y]? = some M) (hd : xd_P[y]? = some d) (hh : d.2.2.2.2.2.2.2 = []) (hcls : d.2.1.cls = d.1) (hpl : plainName d.2.1.cls = true) {D : va_G} {dA : Nat → ClassId} {sa : UInt32 → Nat} {ad : Nat → Nat} {w : xe_W} {as : List Value} {r : xe_R} {sz : Nat} (hsl : xe_sl as ≤ d.2.2.2.1) (hrun : xe_run xe_P G xe_Z f M M.1 0 (lv_args 0 as) [] w 0 0 = some r) (hr : Nat.beq r.1 2 = false) :
    Met l d.2.1 (xd_ws d) (xd_rm M d) (xs_Pc (xs_Ls G ρ) D dA sa ρ ad w as sz) (xs_Qc D dA sa ρ ad w.length M.2.2.2.1 (va_A (xs_w ad sa ρ dA w) sz) r) M.2.2.2.1 M.2.2.2.2.1 (va_A (xs_w ad sa ρ dA w) sz) := by
  refine Met.ofW (cc := d.2.2.1) (maxL := d.2.2.2.1) (ret := d.2.2.2.2.1) hpl rfl ?_
  intro p e s m args below meth c s₁ B hml hv
  have q := xs_start hall ih hM hd hcls hsl hrun (ws := xd_ws d) (fun _ h => List.mem_cons_of_mem _ h) B hml (by rw [xs_noTab B (atoms_spec (ws := xd_ws d) B.pre _ List.mem_cons_self), hh]; rfl) hv
  unfold xs_FQ at q
  rw [hr] at q
  exact q
theorem xs_metW (hall : xk_All) (ih : xs_S l G ρ f) {y : Nat} {M : xe_M} {d : xd_D} (hM : xe_P[y]? = some M) (hd : xd_P[y]? = some d) (hcls : d.2.1.cls = d.1) (hpl : plainName d.2.1.cls = true) {D : va_G} {dA : Nat → ClassId} {sa : UInt32 → Nat} {ad : Nat → Nat} {w : xe_W} {as : List Value} {r : xe_R} {sz : Nat} (hsl : xe_sl as ≤ d.2.2.2.1) (hrun : xe_run xe_P G xe_Z f M M.1 0 (lv_args 0 as) [] w 0 0 = some r) (hr : Nat.beq r.1 2 = false) :
    Met l d.2.1 (xd_wsW d) (xd_rm M d) (xs_Pc (xs_Ls G ρ) D dA sa ρ ad w as sz) (xs_Qc D dA sa ρ ad w.length M.2.2.2.1 (va_A (xs_w ad sa ρ dA w) sz) r) M.2.2.2.1 M.2.2.2.2.1 (va_A (xs_w ad sa ρ dA w) sz) := by
  refine MetFree.of_bodyS (code := d.2.2.1) (maxLocals := d.2.2.2.1) (ret := d.2.2.2.2.1) hpl ?_ ?_
  · intro args s m h hn
    obtain ⟨m9, meth, c, hn9, h1, h2, h3, h4, -, h5, h6, -⟩ := Cond.codeWith_spec (atoms_spec (ws := xd_wsW d) h _ List.mem_cons_self)
    cases hn.symm.trans hn9
    exact ⟨meth, c, h1, h2, h3, h4, h5, h6⟩
  · intro p e s m args below meth c s₁ B hml hP _
    have hh0 : s₁.heap = s.heap := by rw [B.state]; rfl
    have q := xs_start hall ih hM hd hcls hsl hrun (ws := xd_wsW d) (fun _ h => List.mem_cons_of_mem _ h) B hml (vx_table (x := d.2.1) B (atoms_spec (ws := xd_wsW d) B.pre _ List.mem_cons_self)) hP
    unfold xs_FQ at q
    rw [hr] at q
    obtain ⟨t, a1, o, b1, b2, b3⟩ := q s₁ hh0 (Stand.of_body B)
    exact ⟨t, o, a1, b1, b2, ⟨b3.1, b3.2⟩⟩
theorem xs_metX (hall : xk_All) (ih : xs_S l G ρ f) {y : Nat} {M : xe_M} {d : xd_D} (hM : xe_P[y]? = some M) (hd : xd_P[y]? = some d) (hh : d.2.2.2.2.2.2.2 = []) (hcls : d.2.1.cls = d.1) (hpl : plainName d.2.1.cls = true) {D : va_G} {dA : Nat → ClassId} {sa : UInt32 → Nat} {ad : Nat → Nat} {w : xe_W} {as : List Value} {r : xe_R} {sz : Nat} (hsl : xe_sl as ≤ d.2.2.2.1) (hrun : xe_run xe_P G xe_Z f M M.1 0 (lv_args 0 as) [] w 0 0 = some r) (hr : Nat.beq r.1 2 = true) :
    vx_Met l d.2.1 (xd_ws d) (xd_rm M d) (xs_Pc (xs_Ls G ρ) D dA sa ρ ad w as sz) (fun _ _ _ _ => False) (xs_XC D dA sa ρ ad w.length M.2.2.2.1 (va_A (xs_w ad sa ρ dA w) sz) r) M.2.2.2.1 M.2.2.2.2.1 (va_A (xs_w ad sa ρ dA w) sz) := by
  refine vx_ofW (cc := d.2.2.1) (maxL := d.2.2.2.1) (ret := d.2.2.2.2.1) hpl rfl ?_
  intro p e s m args below meth c s₁ B hml htab hv
  have q := xs_start hall ih hM hd hcls hsl hrun (ws := xd_ws d) (fun _ h => List.mem_cons_of_mem _ h) B hml (by rw [xs_noTab B (atoms_spec (ws := xd_ws d) B.pre _ List.mem_cons_self), hh]; rfl) hv
  unfold xs_FQ at q
  rw [hr] at q
  exact q
end
section
variable {p : Program} {l : Launch} {e : Env} {R : Room} {s : State} {m : MethodId} {args : Array Value} {below : List Frame} {meth : Method} {c : Code} {H : Heap} {locs : List Loc} {Q : State → Prop} {cells slots mc ms : Nat} {A0 A1 : Nat → Prop} {D : va_G} {dA : Nat → ClassId} {sa : UInt32 → Nat} {ρ : Nat → Int32} {ad : Nat → Nat} {n0 : Nat} {r : xe_R} {a : Array Value} {pc : Nat} {ls : Array Slot} {st0 rest : List Value}
/-- behind a call that returns -/
theorem xs_cont (hr : va_Run p l e R s m args below meth c H locs cells slots mc ms (F0 m pc ls st0) rest (xs_Qc D dA sa ρ ad n0 mc A1 r a) A1) (hS : va_S A0 s.heap H locs) (hA : ∀ q, A1 q → A0 q)
    (kk : ∀ (ad' : Nat → Nat) (H1 : Heap) (locs1 : List Loc), xs_ag mc n0 ad ad' → n0 ≤ r.2.2.length → va_P D vwCl (xs_w ad' sa ρ dA r.2.2) H1 → va_D A0 (xs_w ad' sa ρ dA r.2.2) → va_S A0 s.heap H1 locs1 → W p l e R s m args below meth c H1 locs1 (cells + mc) (slots + ms) Q (F0 m (pc + 3) ls ((bif Nat.beq r.1 0 then none else some (xs_v ad' sa ρ r.2.1) : Option Value).toList ++ rest))) : W p l e R s m args below meth c H locs cells slots Q (F0 m pc ls st0) := by
  intro T hT X
  obtain ⟨v, st₀, t, T', L, h0, X', hL, e1, e2, ⟨⟨ad', g1, g2, hv, hp, hd⟩, hF⟩, st⟩ := hr T hT X
  cases hv
  obtain ⟨k1, k2, k3⟩ := vx_keep h0 e1 hS (fun q _ h => hA q h) hA hL hF
  obtain ⟨t2, a1, b1⟩ := kk ad' T'.heap (locs ++ L) g1 g2 (by rw [e1]; exact hp) (hd.weaken (fun _ _ _ h => hA _ h)) k3 T' rfl X'
  exact ⟨t2, st t2 a1, b1⟩
/-- behind a call that throws -/
theorem xs_contX {free : Nat → Prop} (hr : vx_Run p l e R s m args below meth c H locs cells slots mc ms (F0 m pc ls st0) rest ((fun _ _ _ _ => False : Array Value → State → Outcome → State → Prop) a) (xs_XC D dA sa ρ ad n0 mc A1 r) A1) (hS : va_S A0 s.heap H locs) (hA : ∀ q, A1 q → A0 q)
    (kx : ∀ (ce : Cell) (q9 : Addr) (ad' : Nat → Nat) (H1 : Heap) (locs1 : List Loc), xs_ag mc n0 ad ad' → n0 ≤ r.2.2.length → va_P D vwCl (xs_w ad' sa ρ dA r.2.2) H1 → va_D A0 (xs_w ad' sa ρ dA r.2.2) → va_S A0 s.heap H1 locs1 → H1[q9]? = some ce → ce.vm = .none → s.vm.findClass (xd_ex (xs_i ρ r.2.1).toNatClampNeg) = some ce.cls → vx_W p l e R s m args below meth c H1 locs1 (cells + mc) (slots + ms) Q (F0 m pc ls rest) q9) : W p l e R s m args below meth c H locs cells slots Q (F0 m pc ls st0) := by
  intro T hT X
  rcases hr T hT X with ⟨v, st₀, t, T', L, h0, X', hL, e1, e2, hF, st⟩ | ⟨q, st₀, t, T', L, E, ce, h0, X', hL, e1, e2, ⟨rfl, ⟨ad', g1, g2, hp, hd⟩, hF⟩, hce, hcv, hcl, st⟩
  · exact hF.elim
  · obtain ⟨k1, k2, k3⟩ := vx_keep h0 e1 hS (fun q _ h => hA q h) hA hL hF
    obtain ⟨t2, a1, b1⟩ := kx ce q ad' T'.heap (locs ++ L) g1 g2 (by rw [e1]; exact hp) (hd.weaken (fun _ _ _ h => hA _ h)) k3 (by rw [e1]; exact hce) hcv hcl T' rfl X'
    exact ⟨t2, st.trans a1, b1⟩
end
