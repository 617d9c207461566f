/-! what the abstract values and cells stand for -/
def xs_v (ad : Nat → Nat) (sa : UInt32 → Nat) (ρ : Nat → Int32) (v : Value) : Value := match v with
  | .ref k => .ref (ad k)
  | .retAddr u => .int (ρ u)
  | .float u => .ref (sa u)
  | .int x => .int x
  | .long x => .long x
  | .double x => .double x
  | .null => .null
def xs_i (ρ : Nat → Int32) (v : Value) : Int32 := match v with
  | .int x => x
  | .retAddr u => ρ u
  | _ => 0
def xs_l (v : Value) : Int64 := match v with
  | .long x => x
  | _ => 0
noncomputable def xs_c (ad : Nat → Nat) (sa : UInt32 → Nat) (ρ : Nat → Int32) (dA : Nat → ClassId) (c : xe_C) : va_E := match c with
  | .inl q => .inl (dA q.1, q.2.1, bif Nat.beq q.1 2 then .inr (.inl (fun j => xs_l (xe_get 2 q.2.2 j))) else .inl (fun j => xs_i ρ (xe_get q.1 q.2.2 j)))
  | .inr o => .inr (o.1, o.2.map (xs_v ad sa ρ))
noncomputable def xs_w (ad : Nat → Nat) (sa : UInt32 → Nat) (ρ : Nat → Int32) (dA : Nat → ClassId) (w : xe_W) : va_W := w.mapIdx (fun k c => (ad k, xs_c ad sa ρ dA c))
theorem xs_nbeq {a b : Nat} (h : a ≠ b) : Nat.beq a b = false := by
  cases hb : Nat.beq a b with
  | true => exact absurd (Nat.eq_of_beq_eq_true hb) h
  | false => rfl
theorem xe_nth_eq {α : Type} (l : List α) : ∀ k, xe_nth l k = l[k]? := by
  induction l with
  | nil => intro k; rfl
  | cons a t ih =>
    intro k
    cases k with
    | zero => rfl
    | succ k => exact (ih k).trans (by simp)
theorem xe_set_eq {α : Type} (l : List α) (v : α) : ∀ k, xe_set l v k = l.set k v := by
  induction l with
  | nil => intro k; rfl
  | cons a t ih =>
    intro k
    cases k with
    | zero => rfl
    | succ k => exact congrArg (a :: ·) (ih k)
theorem xe_flt_eq (p : Nat × Value → Bool) (l : List (Nat × Value)) : xe_flt p l = l.filter p := by
  induction l with
  | nil => rfl
  | cons a t ih =>
    show (bif p a then a :: xe_flt p t else xe_flt p t) = _
    rw [ih, List.filter_cons]
    cases p a <;> rfl
theorem xe_look_cons (a : Nat × Value) (t : List (Nat × Value)) (i : Nat) : xe_look (a :: t) i = bif Nat.beq a.1 i then some a.2 else xe_look t i := rfl
theorem xe_look_mem {l : List (Nat × Value)} {i : Nat} {v : Value} (h : xe_look l i = some v) : (i, v) ∈ l := by
  induction l with
  | nil => cases h
  | cons a t ih =>
    rw [xe_look_cons] at h
    cases hb : Nat.beq a.1 i with
    | true =>
      rw [hb] at h
      have e1 : a.1 = i := Nat.eq_of_beq_eq_true hb
      have e2 : a.2 = v := Option.some.inj h
      rw [← e1, ← e2]
      exact List.mem_cons_self
    | false =>
      rw [hb] at h
      exact List.mem_cons_of_mem _ (ih h)
theorem xe_look_del (l : List (Nat × Value)) (k j : Nat) : xe_look (xe_flt (fun q => !(Nat.beq q.1 k)) l) j = if j = k then none else xe_look l j := by
  induction l with
  | nil => show none = _; split <;> rfl
  | cons a t ih =>
    show xe_look (bif !(Nat.beq a.1 k) then a :: xe_flt _ t else xe_flt _ t) j = _
    cases hb : Nat.beq a.1 k with
    | true =>
      have e1 : a.1 = k := Nat.eq_of_beq_eq_true hb
      show xe_look (xe_flt _ t) j = _
      rw [ih, xe_look_cons]
      by_cases hj : j = k
      · rw [if_pos hj, if_pos hj]
      · rw [if_neg hj, if_neg hj, show Nat.beq a.1 j = false from by rw [e1]; exact xs_nbeq (Ne.symm hj)]
        rfl
    | false =>
      show xe_look (a :: xe_flt _ t) j = _
      rw [xe_look_cons, ih, xe_look_cons]
      by_cases hj : j = k
      · rw [if_pos hj, if_pos hj, hj, hb]; rfl
      · rw [if_neg hj, if_neg hj]
theorem xe_get_put (ty : Nat) (sp : List (Nat × Value)) (k : Nat) (v : Value) (j : Nat) : xe_get ty (xe_put ty sp k v) j = if j = k then v else xe_get ty sp j := by
  unfold xe_put
  by_cases h : xe_get ty sp k = v
  · rw [if_pos h]
    by_cases hj : j = k
    · rw [if_pos hj, hj, h]
    · rw [if_neg hj]
  · rw [if_neg h]
    unfold xe_get
    rw [xe_look_cons]
    by_cases hj : j = k
    · rw [if_pos hj, show Nat.beq (k, v).1 j = true from by rw [hj]; exact Nat.beq_refl k]
      rfl
    · rw [if_neg hj, show Nat.beq (k, v).1 j = false from xs_nbeq (Ne.symm hj), xe_look_del, if_neg hj]
      rfl
theorem xe_mk_eq (x : Int32) : xe_mk x = .int x := by
  unfold xe_mk
  have h : ∀ n : Nat, x.toBitVec.toNat = n → Nat.rec (motive := fun _ => Value) (.int 0) (fun n _ => .int (Int32.ofNat (n + 1))) n = Value.int x := by
    intro n hn
    have e : Int32.ofNat n = x := by
      rw [← hn]
      apply Int32.toBitVec_inj.mp
      simp
    cases n with
    | zero => exact congrArg Value.int e
    | succ n => exact congrArg Value.int e
  exact h _ rfl
theorem xe_mkL_eq (x : Int64) : xe_mkL x = .long x := by
  unfold xe_mkL
  have h : ∀ n : Nat, x.toBitVec.toNat = n → Nat.rec (motive := fun _ => Value) (.long 0) (fun n _ => .long (Int64.ofNat (n + 1))) n = Value.long x := by
    intro n hn
    have e : Int64.ofNat n = x := by
      rw [← hn]
      apply Int64.toBitVec_inj.mp
      simp
    cases n with
    | zero => exact congrArg Value.long e
    | succ n => exact congrArg Value.long e
  exact h _ rfl
theorem xs_cat (ad : Nat → Nat) (sa : UInt32 → Nat) (ρ : Nat → Int32) (v : Value) : (xs_v ad sa ρ v).category = v.category := by cases v <;> rfl
theorem xs_num {ad : Nat → Nat} {sa : UInt32 → Nat} {ρ : Nat → Int32} {v : Value} (h : xe_kd 0 v = true) : xs_v ad sa ρ v = .int (xs_i ρ v) := by
  cases v <;> first | rfl | cases h
theorem xs_ref {ad : Nat → Nat} {sa : UInt32 → Nat} {ρ : Nat → Int32} {v : Value} (h : xe_kd 1 v = true) : ∃ a, xs_v ad sa ρ v = .ref a := by
  cases v <;> first | exact ⟨_, rfl⟩ | cases h
theorem xs_lng {ad : Nat → Nat} {sa : UInt32 → Nat} {ρ : Nat → Int32} {v : Value} (h : xe_kd 2 v = true) : xs_v ad sa ρ v = .long (xs_l v) := by
  cases v <;> first | rfl | cases h
theorem xs_c1 {ad : Nat → Nat} {sa : UInt32 → Nat} {ρ : Nat → Int32} {v : Value} (h : xe_c1 v = true) : (xs_v ad sa ρ v).category = 1 := by
  cases v <;> first | rfl | cases h
theorem xs_w_get (ad : Nat → Nat) (sa : UInt32 → Nat) (ρ : Nat → Int32) (dA : Nat → ClassId) {w : xe_W} {k : Nat} {c : xe_C} (h : w[k]? = some c) : (xs_w ad sa ρ dA w)[k]? = some (ad k, xs_c ad sa ρ dA c) := by
  unfold xs_w
  rw [List.getElem?_mapIdx, h]
  rfl
theorem xs_w_set (ad : Nat → Nat) (sa : UInt32 → Nat) (ρ : Nat → Int32) (dA : Nat → ClassId) (w : xe_W) (k : Nat) (c : xe_C) : (xs_w ad sa ρ dA w).set k (ad k, xs_c ad sa ρ dA c) = xs_w ad sa ρ dA (w.set k c) := by
  unfold xs_w
  apply List.ext_getElem?
  intro j
  rw [List.getElem?_set, List.getElem?_mapIdx, List.getElem?_mapIdx, List.getElem?_set, List.length_mapIdx]
  by_cases h : k = j
  · subst h
    by_cases h2 : k < w.length
    · simp [h2]
    · simp [h2]
  · simp [h]
/-- addresses: nothing known of old cells changes -/
def xs_ag (mc n : Nat) (ad ad' : Nat → Nat) : Prop := (mc = 0 → ad' = ad) ∧ ∀ k, k < n → ad' k = ad k
theorem xs_ag_rf (mc n : Nat) (ad : Nat → Nat) : xs_ag mc n ad ad := ⟨fun _ => rfl, fun _ _ => rfl⟩
theorem xs_okv {n : Nat} {ad ad' : Nat → Nat} {sa : UInt32 → Nat} {ρ : Nat → Int32} (h : ∀ k, k < n → ad' k = ad k) {v : Value} (hv : xe_okv n v = true) : xs_v ad' sa ρ v = xs_v ad sa ρ v := by
  cases v <;> first | rfl | (show Value.ref (ad' _) = .ref (ad _); rw [h _ (Nat.ble_eq.mp hv)])
theorem xs_okS {n : Nat} {ad ad' : Nat → Nat} {sa : UInt32 → Nat} {ρ : Nat → Int32} (h : ∀ k, k < n → ad' k = ad k) {l : List Value} (hv : xe_okS n l = true) : l.map (xs_v ad' sa ρ) = l.map (xs_v ad sa ρ) := by
  induction l with
  | nil => rfl
  | cons a t ih =>
    have hv : (xe_okv n a && xe_okS n t) = true := hv
    rw [Bool.and_eq_true] at hv
    rw [List.map_cons, List.map_cons, xs_okv h hv.1, ih hv.2]
theorem xs_okA {n : Nat} {ad ad' : Nat → Nat} {sa : UInt32 → Nat} {ρ : Nat → Int32} (h : ∀ k, k < n → ad' k = ad k) {l : List (Nat × Value)} (hv : xe_okA n l = true) : l.map (fun q => (q.1, xs_v ad' sa ρ q.2)) = l.map (fun q => (q.1, xs_v ad sa ρ q.2)) := by
  induction l with
  | nil => rfl
  | cons a t ih =>
    have hv : (xe_okv n a.2 && xe_okA n t) = true := hv
    rw [Bool.and_eq_true] at hv
    rw [List.map_cons, List.map_cons, xs_okv h hv.1, ih hv.2]
theorem xs_okC {n : Nat} {ad ad' : Nat → Nat} {sa : UInt32 → Nat} {ρ : Nat → Int32} {dA : Nat → ClassId} (h : ∀ k, k < n → ad' k = ad k) {c : xe_C} (hv : xe_okC n c = true) : xs_c ad' sa ρ dA c = xs_c ad sa ρ dA c := by
  cases c with
  | inl q => rfl
  | inr o =>
    show Sum.inr (o.1, o.2.map _) = Sum.inr (o.1, o.2.map _)
    rw [xs_okS h hv]
theorem xs_okW_at {n : Nat} {w : xe_W} (hv : xe_okW n w = true) {k : Nat} {c : xe_C} (hk : w[k]? = some c) : xe_okC n c = true := by
  induction w generalizing k with
  | nil => simp at hk
  | cons a t ih =>
    have hv : (xe_okC n a && xe_okW n t) = true := hv
    rw [Bool.and_eq_true] at hv
    cases k with
    | zero =>
      have e : a = c := by simpa using hk
      rw [← e]; exact hv.1
    | succ k => exact ih hv.2 (by simpa using hk)
theorem xs_w_push (ad : Nat → Nat) (sa : UInt32 → Nat) (ρ : Nat → Int32) (dA : Nat → ClassId) {w : xe_W} (c : xe_C) (q : Nat) (hv : xe_okW w.length w = true) :
    xs_w (fun k => if k = w.length then q else ad k) sa ρ dA (w ++ [c]) = xs_w ad sa ρ dA w ++ [(q, xs_c (fun k => if k = w.length then q else ad k) sa ρ dA c)] := by
  unfold xs_w
  apply List.ext_getElem?
  intro j
  rw [List.getElem?_mapIdx]
  rcases Nat.lt_trichotomy j w.length with h | h | h
  · rw [List.getElem?_append_left h, List.getElem?_append_left (by rw [List.length_mapIdx]; exact h), List.getElem?_mapIdx]
    cases hj : w[j]? with
    | none => rfl
    | some c2 =>
      show some ((if j = w.length then q else ad j), xs_c (fun k => if k = w.length then q else ad k) sa ρ dA c2) = some (ad j, xs_c ad sa ρ dA c2)
      rw [if_neg (Nat.ne_of_lt h), xs_okC (n := w.length) (fun k hk => if_neg (Nat.ne_of_lt hk)) (xs_okW_at hv hj)]
  · subst h
    rw [List.getElem?_append_right (Nat.le_refl _), List.getElem?_append_right (by rw [List.length_mapIdx]; exact Nat.le_refl _), List.length_mapIdx]
    simp
  · rw [List.getElem?_eq_none (by rw [List.length_append]; show w.length + 1 ≤ j; omega), List.getElem?_eq_none (by rw [List.length_append, List.length_mapIdx]; show w.length + 1 ≤ j; omega)]
    rfl
theorem xs_w_len (ad : Nat → Nat) (sa : UInt32 → Nat) (ρ : Nat → Int32) (dA : Nat → ClassId) (w : xe_W) : (xs_w ad sa ρ dA w).length = w.length := by
  unfold xs_w
  rw [List.length_mapIdx]
/-- locals, as the rows of the kit keep them -/
def xs_al (ad : Nat → Nat) (sa : UInt32 → Nat) (ρ : Nat → Int32) (al : List (Nat × Value)) : List (Nat × Value) := al.map (fun q => (q.1, xs_v ad sa ρ q.2))
theorem xs_beq (a b : Nat) : (a == b) = Nat.beq a b := by
  cases h : Nat.beq a b with
  | true => rw [Nat.eq_of_beq_eq_true h]; exact beq_self_eq_true b
  | false => exact beq_eq_false_iff_ne.mpr (Nat.ne_of_beq_eq_false h)
theorem xs_al_s1 (ad : Nat → Nat) (sa : UInt32 → Nat) (ρ : Nat → Int32) (al : List (Nat × Value)) (i : Nat) (v : Value) : (i, xs_v ad sa ρ v) :: (xs_al ad sa ρ al).filter (fun q => !(q.1 == i) && !(q.1 + 1 == i && q.2.category == 2)) = xs_al ad sa ρ (xe_s1 al i v) := by
  unfold xe_s1 xs_al
  rw [xe_flt_eq, List.map_cons, List.filter_map]
  congr 2
  apply List.filter_congr
  intro q hq
  show (!(q.1 == i) && !(q.1 + 1 == i && (xs_v ad sa ρ q.2).category == 2)) = _
  rw [xs_cat]
  simp only [xs_beq]
theorem xs_al_s2 (ad : Nat → Nat) (sa : UInt32 → Nat) (ρ : Nat → Int32) (al : List (Nat × Value)) (i : Nat) (v : Value) : (i, xs_v ad sa ρ v) :: (xs_al ad sa ρ al).filter (fun q => !(q.1 == i) && (!(q.1 == i + 1) && !(q.1 + 1 == i && q.2.category == 2))) = xs_al ad sa ρ (xe_s2 al i v) := by
  unfold xe_s2 xs_al
  rw [xe_flt_eq, List.map_cons, List.filter_map]
  congr 2
  apply List.filter_congr
  intro q hq
  show (!(q.1 == i) && (!(q.1 == i + 1) && !(q.1 + 1 == i && (xs_v ad sa ρ q.2).category == 2))) = _
  rw [xs_cat]
  simp only [xs_beq]
theorem xs_al_mem {ad : Nat → Nat} {sa : UInt32 → Nat} {ρ : Nat → Int32} {al : List (Nat × Value)} {i : Nat} {v : Value} (h : xe_look al i = some v) : (i, xs_v ad sa ρ v) ∈ xs_al ad sa ρ al := List.mem_map.mpr ⟨(i, v), xe_look_mem h, rfl⟩
/-- comparisons -/
theorem xe_bi_lt (x y : Int32) : xe_bi x < xe_bi y ↔ x < y := by
  rw [Int32.lt_iff_toInt_lt]
  unfold xe_bi
  have e : ∀ z : Int32, z.toInt = if 2 * z.toBitVec.toNat < 2 ^ 32 then (z.toBitVec.toNat : Int) else (z.toBitVec.toNat : Int) - ((2 ^ 32 : Nat) : Int) := fun z => BitVec.toInt_eq_toNat_cond z.toBitVec
  have hx := x.toBitVec.isLt
  have hy := y.toBitVec.isLt
  rw [e x, e y]
  split <;> split <;> omega
theorem xe_bi_inj (x y : Int32) : xe_bi x = xe_bi y ↔ x = y := by
  constructor
  · intro h
    have h1 : ¬ x < y := fun q => by have := (xe_bi_lt x y).mpr q; omega
    have h2 : ¬ y < x := fun q => by have := (xe_bi_lt y x).mpr q; omega
    rw [Int32.lt_iff_toInt_lt] at h1 h2
    exact Int32.toInt_inj.mp (by omega)
  · intro h; rw [h]
