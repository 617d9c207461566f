/-! the law's entry: what the Statement gives of the start is what the evaluator stands on -/
theorem xl_sf (j : Nat) (h : j < 5) : xs_sf j = ([1, 11, 5, 6, 10] : List Int32).getD j 0 := by
  match j, h with
  | 0, _ => rfl
  | 1, _ => rfl
  | 2, _ => rfl
  | 3, _ => rfl
  | 4, _ => rfl
theorem xl_SA {args : Array Value} {s : State} (hgv : (Jvm.Cond.and given_1 narrow_1).before args s = true) {A : Nat → Prop} (hA : ∀ a : Nat, a < s.heap.size → ¬ A a) : ∃ t : Nat, (Term.static "TingDecks" "SETTING_FIRST" "[I").eval args s none [] s = some (.ref t) ∧ xs_SA t A s s.heap := by
  have hs := flat_of_before _ hgv
  have harr : (Cond.arrayOf (.static "TingDecks" "SETTING_FIRST" "[I") .int).before args s = true := hs _ (by decide +kernel)
  have hlen : (Term.length (.static "TingDecks" "SETTING_FIRST" "[I")).eval args s none [] s = some (.int (Int32.ofNat 5)) := va_eqt (hs (.eq (.length (.static "TingDecks" "SETTING_FIRST" "[I")) (.int 5)) (by decide +kernel))
  have e0 : (Term.elem (.static "TingDecks" "SETTING_FIRST" "[I") (.int (Int32.ofNat 0))).eval args s none [] s = some (.int (xs_sf 0)) := by
    rw [xl_sf 0 (by decide)]
    exact va_eqt (hs (.eq (.elem (.static "TingDecks" "SETTING_FIRST" "[I") (.int 0)) (.int 1)) (by decide +kernel))
  have e1 : (Term.elem (.static "TingDecks" "SETTING_FIRST" "[I") (.int (Int32.ofNat 1))).eval args s none [] s = some (.int (xs_sf 1)) := by
    rw [xl_sf 1 (by decide)]
    exact va_eqt (hs (.eq (.elem (.static "TingDecks" "SETTING_FIRST" "[I") (.int 1)) (.int 11)) (by decide +kernel))
  have e2 : (Term.elem (.static "TingDecks" "SETTING_FIRST" "[I") (.int (Int32.ofNat 2))).eval args s none [] s = some (.int (xs_sf 2)) := by
    rw [xl_sf 2 (by decide)]
    exact va_eqt (hs (.eq (.elem (.static "TingDecks" "SETTING_FIRST" "[I") (.int 2)) (.int 5)) (by decide +kernel))
  have e3 : (Term.elem (.static "TingDecks" "SETTING_FIRST" "[I") (.int (Int32.ofNat 3))).eval args s none [] s = some (.int (xs_sf 3)) := by
    rw [xl_sf 3 (by decide)]
    exact va_eqt (hs (.eq (.elem (.static "TingDecks" "SETTING_FIRST" "[I") (.int 3)) (.int 6)) (by decide +kernel))
  have e4 : (Term.elem (.static "TingDecks" "SETTING_FIRST" "[I") (.int (Int32.ofNat 4))).eval args s none [] s = some (.int (xs_sf 4)) := by
    rw [xl_sf 4 (by decide)]
    exact va_eqt (hs (.eq (.elem (.static "TingDecks" "SETTING_FIRST" "[I") (.int 4)) (.int 10)) (by decide +kernel))
  obtain ⟨t, ht, cell, h1, h2, h3, h4, h5, h6, h7⟩ := va_Tof (N := 5) (f := fun j => .int (xs_sf j)) (A := A) (by decide) harr hlen (fun j hj => match j, hj with
    | 0, _ => e0
    | 1, _ => e1
    | 2, _ => e2
    | 3, _ => e3
    | 4, _ => e4) hA
  obtain ⟨b, cell2, hb, hat, -⟩ := Term.length_spec hlen
  have hsz : cell2.slots.size < 2 ^ 31 := by
    have hv := hlen
    simp only [Term.eval, Option.bind_eq_bind] at hv hb
    rw [hb] at hv
    simp only [hat, Option.bind_some] at hv
    by_cases hlt : cell2.slots.size < 2147483648
    · exact hlt
    · simp [hlt] at hv
  cases ht.symm.trans hb
  obtain ⟨hcell2, -, -, -⟩ := State.arrayAt?_spec hat
  cases h1.symm.trans hcell2
  have hs5 : cell.slots.size = 5 := by
    have h8 := congrArg Int32.toNatClampNeg h5
    have h9 : (cell.slots.size.toInt32).toNatClampNeg = cell.slots.size := Int32.toNatClampNeg_ofNat_of_lt hsz
    rw [h9] at h8
    exact h8
  obtain ⟨a, cc, cell3, k3, g1, g2, g3, g4, g5, g6, -⟩ := Cond.exactly_spec (show (Cond.exactly (.static "TingDecks" "SETTING_FIRST" "[I") "[I").holds args s none s [] = true from hs (.exactly (.static "TingDecks" "SETTING_FIRST" "[I") "[I") (by decide +kernel))
  cases ht.symm.trans g1
  cases h1.symm.trans g3
  exact ⟨t, ht, ⟨cell, h1, h2, h3, hs5, h6⟩, h7, cell, h1, by rw [g6]; exact g2⟩
theorem xl_Nm : ∀ w ∈ xw_N, w ∈ lw_tbl := by decide +kernel
theorem xl_Nt : xw_N.all (fun w => w.onTables) = true := by decide +kernel
theorem xl_Sm : ∀ q ∈ xw_Str, Cond.stringRef "TingDecks" q.1 q.2 ∈ lw_tbl := by decide +kernel
def xl_Sx : List Cond := xw_Str.map (fun q => .exactly (.string "TingDecks" q.1) "java/lang/String")
theorem xl_Nw {args : Array Value} {s : State} (hts : ∀ w ∈ lw_tbl, w.before args s = true) (hgv : (Jvm.Cond.and given_1 narrow_1).before args s = true) : xs_Nw s := by
  have hs := flat_of_before _ hgv
  refine ⟨va_Nw.of rfl (hts _ (by decide +kernel)), va_Nw.of rfl (hts _ (by decide +kernel)), va_Nw.of rfl (hts _ (by decide +kernel)), va_Nw.of rfl (hts _ (by decide +kernel)), va_Nw.of rfl (hts _ (by decide +kernel)), va_Nw.of rfl (hts _ (by decide +kernel)), fun w hw => va_Nw.of (List.all_eq_true.mp xl_Nt w hw) (hts w (xl_Nm w hw)), fun q hq => ?_, va_Nc.of (hs _ (by decide +kernel)), va_Nc.of (hs _ (by decide +kernel))⟩
  have h1 := hts _ (xl_Sm q hq)
  have h2 : (Cond.exactly (.string "TingDecks" q.1) "java/lang/String").before args s = true := by
    simp only [xw_Str, List.mem_cons, List.not_mem_nil, or_false] at hq
    rcases hq with rfl | rfl | rfl | rfl | rfl | rfl | rfl | rfl | rfl | rfl | rfl | rfl <;> exact hs _ (by decide +kernel)
  obtain ⟨a, c, cell, k, ha, -⟩ := Cond.exactly_spec (show (Cond.exactly (.string "TingDecks" q.1) "java/lang/String").holds args s none s [] = true from h2)
  exact ⟨a, vk_R.of h1 ha⟩
theorem xl_arr {args : Array Value} {s : State} {ty : FieldType} (h : (Cond.arrayClass ty).before args s = true) : ∃ cA : ClassId, ArrOfT s cA ty ∧ s.vm.findClass ("[" ++ ty.toString) = some cA := by
  obtain ⟨cA, kA, comp, h1, h2, h3⟩ := Cond.arrayClass_spec (show (Cond.arrayClass ty).holds args s none s [] = true from h)
  exact ⟨cA, fun n z => ⟨fun k h => (by cases h), kA, h2, comp, h3⟩, h1⟩
theorem xl_K {args : Array Value} {s : State} (hts : ∀ w ∈ lw_tbl, w.before args s = true) : ∃ (D : va_G) (dA : Nat → ClassId), va_K D vwCl (xs_tys dA) s := by
  have ht : ∀ w ∈ xw_T, w.before args s = true := fun w hw => hts w (xw_tb hw)
  obtain ⟨c0, i0, k0⟩ := u_known (C := RX0) (T := TX0) (N := 14) (n := 14) ht xk_u0 (hts (.instantiable RX0 14) (by decide +kernel))
  obtain ⟨c1, i1, k1⟩ := u_known (C := RX1) (T := TX1) (N := 6) (n := 6) ht xk_u1 (hts (.instantiable RX1 6) (by decide +kernel))
  obtain ⟨c2, i2, k2⟩ := u_known (C := RX2) (T := TX2) (N := 4) (n := 4) ht xk_u2 (hts (.instantiable RX2 4) (by decide +kernel))
  obtain ⟨c3, i3, k3⟩ := u_known (C := RX3) (T := TX3) (N := 6) (n := 6) ht xk_u3 (hts (.instantiable RX3 6) (by decide +kernel))
  obtain ⟨c4, i4, k4⟩ := u_known (C := RX4) (T := TX4) (N := 2) (n := 2) ht xk_u4 (hts (.instantiable RX4 2) (by decide +kernel))
  obtain ⟨c5, i5, k5⟩ := u_known (C := RX5) (T := TX5) (N := 11) (n := 11) ht xk_u5 (hts (.instantiable RX5 11) (by decide +kernel))
  obtain ⟨c6, i6, k6⟩ := u_known (C := RX6) (T := TX6) (N := 6) (n := 6) ht xk_u6 (hts (.instantiable RX6 6) (by decide +kernel))
  obtain ⟨c7, i7, k7⟩ := u_known (C := RX7) (T := TX7) (N := 21) (n := 21) ht xk_u7 (hts (.instantiable RX7 21) (by decide +kernel))
  obtain ⟨c8, i8, k8⟩ := u_known (C := RX8) (T := TX8) (N := 17) (n := 17) ht xk_u8 (hts (.instantiable RX8 17) (by decide +kernel))
  obtain ⟨c9, i9, k9⟩ := u_known (C := RX9) (T := TX9) (N := 83) (n := 83) ht xk_u9 (hts (.instantiable RX9 83) (by decide +kernel))
  obtain ⟨a0, r0, f0⟩ := xl_arr (hts (.arrayClass .byte) (by decide +kernel))
  obtain ⟨a1, r1, f1⟩ := xl_arr (hts (.arrayClass .int) (by decide +kernel))
  obtain ⟨a2, r2, f2⟩ := xl_arr (hts (.arrayClass .long) (by decide +kernel))
  obtain ⟨a3, r3, f3⟩ := xl_arr (hts (.arrayClass .boolean) (by decide +kernel))
  refine ⟨(fun k => match k with
    | 0 => c0
    | 1 => c1
    | 2 => c2
    | 3 => c3
    | 4 => c4
    | 5 => c5
    | 6 => c6
    | 7 => c7
    | 8 => c8
    | _ => c9, fun k => match k with
    | 0 => i0
    | 1 => i1
    | 2 => i2
    | 3 => i3
    | 4 => i4
    | 5 => i5
    | 6 => i6
    | 7 => i7
    | 8 => i8
    | _ => i9), fun k => match k with
    | 0 => a0
    | 1 => a1
    | 2 => a2
    | _ => a3, fun k q hq => ?_, fun k q hq => ?_⟩
  · match k, hq with
    | 0, hq => cases hq; exact k0
    | 1, hq => cases hq; exact k1
    | 2, hq => cases hq; exact k2
    | 3, hq => cases hq; exact k3
    | 4, hq => cases hq; exact k4
    | 5, hq => cases hq; exact k5
    | 6, hq => cases hq; exact k6
    | 7, hq => cases hq; exact k7
    | 8, hq => cases hq; exact k8
    | 9, hq => cases hq; exact k9
    | k + 10, hq => simp [vwCl] at hq
  · match k, hq with
    | 0, hq => cases hq; exact ⟨r0, f0⟩
    | 1, hq => cases hq; exact ⟨r1, f1⟩
    | 2, hq => cases hq; exact ⟨r2, f2⟩
    | 3, hq => cases hq; exact ⟨r3, f3⟩
    | k + 4, hq => simp [xs_tys] at hq
def R_law : String := "TingDecksLaw"
def lw_P (b : Addr) (xs : List Int32) (args : Array Value) (s : State) : Prop := args = #[.ref b] ∧ s.IntsAt b xs ∧ xs.length ≤ 6 ∧ (Jvm.Cond.and given_1 narrow_1).before args s = true
def lw_Q (_ : Array Value) (s : State) (o : Outcome) (t : State) : Prop := o = .returned (some (.int 1)) ∧ Framed s o t [] 600002 7302232
def lw_Z (below : List Frame) (a : Array Value) (s : State) : State → Prop := fun t => ∃ o, t.status = .running ∧ Ended t below o ∧ lw_Q a s o t
/-- what holds at the law's entry -/
def lw_At (p : Program) (s : State) (m : MethodId) (meth : Method) (c : Code) (b L : Nat) (xs : Nat → Int32) : Prop :=
  p.tables.exec = Jvm.exec ∧ c.code = code ∧ meth.sig.returnType = ret ∧ c.maxLocals = 8 ∧ s.vm.findClass R_law = some m.cls ∧ (∀ w ∈ lw_tbl, w.before #[Value.ref b] s = true) ∧ va_X b L xs s s.heap ∧ b < s.heap.size ∧ meth.locks = false ∧ (Jvm.Cond.and given_1 narrow_1).before #[Value.ref b] s = true ∧ c.exceptionTable.toList = []
/-- a run of the evaluator over the law's body that answers true is the machine's -/
theorem xl_go (hall : xk_All) {p : Program} {e : Env} {s : State} {m : MethodId} {below : List Frame} {meth : Method} {c : Code} {l : Launch} (hl : l.stackTraces = false) {b L : Nat} {xs : Nat → Int32} (C0 : lw_At p s m meth c b L xs) {G : xe_G} {ρ : Nat → Int32} (hG : xs_G G ρ) (hlen : G.2.2.1.length = L) (hρ : ∀ j, ρ (100 + j) = xs j) {f : Nat} {w : xe_W}
    (hrun : xe_run xe_P G xe_Z f xm_187 xm_187.1 0 [(0, .float 1)] [] [] 0 0 = some (1, .int 1, w)) : W p l e room_1 s m #[Value.ref b] below meth c s.heap [] 0 0 (lw_Z below #[Value.ref b] s) (entryFrame m ([Value.ref b] : List Value).toArray 8) := by
  obtain ⟨hx, hb, hr, hml, hown, hts, hX, hbl, hlocks, hgv, htab⟩ := C0
  have hA : ∀ a : Nat, a < s.heap.size → ¬ (fun q : Nat => s.heap.size ≤ q) a := fun a h => Nat.not_le.mpr h
  have ht : ∀ w ∈ xw_T, w.before #[Value.ref b] s = true := fun w hw => hts w (xw_tb hw)
  obtain ⟨D, dA, hK⟩ := xl_K hts
  obtain ⟨t0, ht0, hSA⟩ := xl_SA hgv hA
  have hs := flat_of_before _ hgv
  have hZ := va_Zof (A := fun q : Nat => s.heap.size ≤ q) (hts (.laysStatic "TingDecks" "SETTING_FIRST" "[I") (by decide +kernel)) (hts (.initialized "TingDecks") (by decide +kernel)) ht0 hA
  have hU := vx_Zqof (A := fun q : Nat => s.heap.size ≤ q) (hts (.laysStatic Bundle.tN "UNASSIGNED_STACK" Bundle.steD) (by decide +kernel)) (hts (.initialized Bundle.tN) (by decide +kernel)) (hs (.isRef (.static Bundle.tN "UNASSIGNED_STACK" Bundle.steD)) (by decide +kernel)) hA
  have hN := vx_Zqof (A := fun q : Nat => s.heap.size ≤ q) (hts (.laysStatic Bundle.tN "SUPPRESSED_SENTINEL" Bundle.listD) (by decide +kernel)) (hts (.initialized Bundle.tN) (by decide +kernel)) (hs (.isRef (.static Bundle.tN "SUPPRESSED_SENTINEL" Bundle.listD)) (by decide +kernel)) hA
  obtain ⟨sa, hsa⟩ : ∃ sa : UInt32 → Nat, sa = fun u => if u = 0 then t0 else b := ⟨_, rfl⟩
  have hs0 : sa 0 = t0 := by rw [hsa]; rfl
  have hs1 : sa 1 = b := by rw [hsa]; rfl
  have hXX : xs_X (xs_Ls G ρ) sa (fun q : Nat => s.heap.size ≤ q) s s.heap := by
    unfold xs_X xs_Ls
    rw [hs0, hs1]
    refine ⟨hZ, hSA, hU, hN, ?_, hA b hbl⟩
    dsimp only
    rw [hlen, show (fun j => ρ (100 + j)) = xs from funext hρ]
    exact hX
  have hl9 := lv_entry ([.ref b]) (n := 8) (Nat.le_of_ble_eq_true rfl)
  rw [lg_entry_eq]
  generalize (lg_sl ([.ref b]) ++ List.replicate (8 - (lg_sl ([.ref b])).length) Slot.unset).toArray = ls at hl9 ⊢
  have hl9 : lv_has ls 8 (xs_al (fun _ => 0) sa ρ [(0, .float 1)]) := by
    show lv_has ls 8 [(0, .ref (sa 1))]
    rw [hs1]; exact hl9
  have q := xs_run (l := l) hall hl hG f 187 xm_187 xd_187 rfl rfl xm_187.1 0 [(0, .float 1)] [] [] 0 0 (1, .int 1, w) (fun _ h => h) hrun p e room_1 s m #[Value.ref b] below meth c s.heap [] ls (fun _ => 0) (fun _ => 0) 0 (fun q : Nat => s.heap.size ≤ q) D dA sa
    ⟨hx, hb, hml, hown, ht, hK, fun _ h => h, hXX, xl_Nw hts hgv, (fun h => by cases h), hlocks⟩ hr (by rw [htab]; rfl) ⟨hl9, fun k q h => by simp [xs_w] at h, ⟨fun i j p q h => by simp [xs_w] at h, fun k q h => by simp [xs_w] at h⟩, va_S.rf⟩ (xs_ag_rf _ _ _) (Nat.le_refl _) (by decide)
  intro T hT X
  obtain ⟨t, a1, a2⟩ := q T hT X
  obtain ⟨o, b1, b2, b3, L9, b4, b5⟩ := (show MQ below (xs_Qc D dA sa ρ (fun _ => 0) 0 xm_187.2.2.2.1 (fun q : Nat => s.heap.size ≤ q) (1, .int 1, w)) #[Value.ref b] s xm_187.2.2.2.1 xm_187.2.2.2.2.1 (fun q : Nat => s.heap.size ≤ q) t from a2)
  obtain ⟨⟨ad', -, -, ho, -⟩, -⟩ := b3
  refine ⟨t, a1, o, b1, b2, ho, b4.1, b4.2.1, ?_⟩
  exact b4.2.2.weaken (fun y hy hlt => absurd (b5 y hy) (Nat.not_le.mpr hlt)) (by decide) (by decide)
