section
variable {p : Program} {l : Launch} {e : Env} {R : Room} {s : State} {m : MethodId} {args : Array Value} {below : List Frame} {meth : Method} {c : Code} {H : Heap} {locs : List Loc} {Q : State → Prop} {cc : ByteArray} {own : String} {nL : Nat} {A : Nat → Prop} {D : va_G} {dA : Nat → ClassId} {sa : UInt32 → Nat} {ρ : Nat → Int32} {ini : Bool} {G : xe_G} {mc ms pc len nc ns : Nat} {res : List Nat} {al : List (Nat × Value)} {st : List Value} {w : xe_W} {ls : Array Slot} {ad : Nat → Nat} {i : Instr}
/-- what is owed behind an instruction -/
def xs_On (p : Program) (l : Launch) (e : Env) (R : Room) (s : State) (m : MethodId) (args : Array Value) (below : List Frame) (meth : Method) (c : Code) (Q : State → Prop) (nL : Nat) (A : Nat → Prop) (D : va_G) (dA : Nat → ClassId) (sa : UInt32 → Nat) (ρ : Nat → Int32) (mc : Nat) (ad : Nat → Nat) (w : xe_W) (N : xe_N) : Prop :=
  ∀ (ad2 : Nat → Nat) (ls2 : Array Slot) (H2 : Heap) (locs2 : List Loc), xs_ag mc w.length ad ad2 → w.length ≤ N.2.2.2.1.length → xs_Rel D dA sa ρ A s nL ad2 N.2.1 N.2.2.2.1 ls2 H2 locs2 → W p l e R s m args below meth c H2 locs2 N.2.2.2.2.1 N.2.2.2.2.2 Q (F0 m N.1 ls2 (N.2.2.1.map (xs_v ad2 sa ρ)))
theorem xs_on0 {N : xe_N} (kk : xs_On p l e R s m args below meth c Q nL A D dA sa ρ mc ad w N) (hw : N.2.2.2.1 = w) (hR : xs_Rel D dA sa ρ A s nL ad N.2.1 w ls H locs) : W p l e R s m args below meth c H locs N.2.2.2.2.1 N.2.2.2.2.2 Q (F0 m N.1 ls (N.2.2.1.map (xs_v ad sa ρ))) := kk ad ls H locs (xs_ag_rf _ _ _) (by rw [hw]; exact Nat.le_refl _) (by rw [hw]; exact hR)
theorem xk_zp : ∀ fs ∈ xe_Z, ∀ v ∈ fs, v = .int 0 ∨ v = .long 0 ∨ v = .null := by decide +kernel
theorem xk_zmap {ci : Nat} {fs : List Value} (h : xe_Z[ci]? = some fs) (ad : Nat → Nat) (sa : UInt32 → Nat) (ρ : Nat → Int32) : fs.map (xs_v ad sa ρ) = fs := by
  have h1 := xk_zp fs (List.mem_of_getElem? h)
  rw [List.map_congr_left (g := id)]
  · simp
  · intro v hv
    rcases h1 v hv with rfl | rfl | rfl <;> rfl
theorem xs_upd (ρ : Nat → Int32) (sp : List (Nat × Value)) (k : Nat) (v : Value) : upd (fun j => xs_i ρ (xe_get 1 sp j)) k (xs_i ρ v) = fun j => xs_i ρ (xe_get 1 (xe_put 1 sp k v) j) := by
  funext j
  rw [xe_get_put]
  unfold upd
  split <;> rfl
theorem xs_upd0 (ρ : Nat → Int32) (sp : List (Nat × Value)) (k : Nat) (u : Nat) : upd (fun j => xs_i ρ (xe_get 0 sp j)) k (ρ u) = fun j => xs_i ρ (xe_get 0 (xe_put 0 sp k (.retAddr u)) j) := by
  funext j
  rw [xe_get_put]
  unfold upd
  split <;> rfl
theorem xs_updL (sp : List (Nat × Value)) (k : Nat) (v : Value) : vp_updL (fun j => xs_l (xe_get 2 sp j)) k (xs_l v) = fun j => xs_l (xe_get 2 (xe_put 2 sp k v) j) := by
  funext j
  rw [xe_get_put]
  unfold vp_updL
  split <;> rfl
/-- a new cell: the addresses behind it -/
def xs_ad (ad : Nat → Nat) (n q : Nat) : Nat → Nat := fun k => if k = n then q else ad k
theorem xs_ad_ag {mc nc n q : Nat} {ad : Nat → Nat} (h : nc + 1 ≤ mc) : xs_ag mc n ad (xs_ad ad n q) := ⟨fun h0 => by omega, fun k hk => if_neg (Nat.ne_of_lt hk)⟩
theorem xs_ad_at (ad : Nat → Nat) (n q : Nat) : xs_ad ad n q n = q := if_pos rfl
theorem xs_pushed {q : Nat} {c2 : xe_C} {H1 : Heap} (hl : lv_has ls nL (xs_al ad sa ρ al)) (hok : xe_ok w.length al st w = true) (hP : va_P D vwCl (xs_w ad sa ρ dA w ++ [(q, xs_c (xs_ad ad w.length q) sa ρ dA c2)]) H1) (hD : va_D A (xs_w ad sa ρ dA w ++ [(q, xs_c (xs_ad ad w.length q) sa ρ dA c2)])) (hS : va_S A s.heap H1 locs) :
    xs_Rel D dA sa ρ A s nL (xs_ad ad w.length q) al (w ++ [c2]) ls H1 locs ∧ (Value.ref w.length :: st).map (xs_v (xs_ad ad w.length q) sa ρ) = .ref q :: st.map (xs_v ad sa ρ) := by
  have hok : (xe_okA w.length al && (xe_okS w.length st && xe_okW w.length w)) = true := hok
  rw [Bool.and_eq_true, Bool.and_eq_true] at hok
  have hk : ∀ k, k < w.length → xs_ad ad w.length q k = ad k := fun k h => if_neg (Nat.ne_of_lt h)
  have e := xs_w_push ad sa ρ dA c2 q hok.2.2
  refine ⟨⟨?_, ?_, ?_, hS⟩, ?_⟩
  · unfold xs_al
    rw [xs_okA hk hok.1]
    exact hl
  · show va_P D vwCl (xs_w (fun k => if k = w.length then q else ad k) sa ρ dA (w ++ [c2])) H1
    rw [e]; exact hP
  · show va_D A (xs_w (fun k => if k = w.length then q else ad k) sa ρ dA (w ++ [c2]))
    rw [e]; exact hD
  · rw [List.map_cons, xs_okS hk hok.2.1]
    show Value.ref (xs_ad ad w.length q w.length) :: _ = _
    rw [xs_ad_at]
theorem xs_len_set (w : xe_W) (c2 : xe_C) (a : Nat) : w.length ≤ (xe_set w c2 a).length := by rw [xe_set_eq, List.length_set]; exact Nat.le_refl _
theorem xs_tys_at (dA : Nat → ClassId) {t : Nat} (h : Nat.blt t 4 = true) : ∃ ty, (xs_tys dA)[t]? = some (dA t, ty) := by
  match t, h with
  | 0, _ => exact ⟨_, rfl⟩
  | 1, _ => exact ⟨_, rfl⟩
  | 2, _ => exact ⟨_, rfl⟩
  | 3, _ => exact ⟨_, rfl⟩
  | k + 4, h => exact absurd (Nat.ble_eq.mp h) (by omega)
set_option maxHeartbeats 8000000 in
theorem xs_stp (hE : xs_En (xs_Ls G ρ) p s m args meth c own cc nL A D dA sa ini) (hG : xs_G G ρ) (hR : xs_Rel D dA sa ρ A s nL ad al w ls H locs) (hRm : mc ≤ R.cells ∧ ms ≤ R.slots) (hd : decode cc pc = .ok (i, len)) (hn : len = xk_ln i len) (hL : xk_L own nL ini i res) {N : xe_N} (h : xe_step i G xe_Z mc ms pc len res al st w nc ns = some N)
    (kk : xs_On p l e R s m args below meth c Q nL A D dA sa ρ mc ad w N) : W p l e R s m args below meth c H locs nc ns Q (F0 m pc ls (st.map (xs_v ad sa ρ))) := by
  obtain ⟨hx, hb, hml, hown, hts, hK, hA, hX, hNw, hini, hlk⟩ := hE
  obtain ⟨hl, hP, hD, hS⟩ := id hR
  cases i with
  | aload_n k =>
    have hn : len = 1 := hn
    subst hn
    change xe_iL 1 k G xe_Z mc ms pc 1 res al st w nc ns = some N at h
    unfold xe_iL at h
    split at h
    · next v hv =>
      cases hk : xe_kd 1 v with
      | false => rw [hk] at h; cases h
      | true =>
        rw [hk] at h; cases h
        obtain ⟨a, ea⟩ := xs_ref (ad := ad) (sa := sa) (ρ := ρ) hk
        have q := xs_on0 kk rfl hR
        have hm := hl.2.2 _ (xs_al_mem (ad := ad) (sa := sa) (ρ := ρ) hv)
        simp only [List.map_cons, ea] at q hm
        exact lv_aload_n hx hb hd rfl hm q
    · cases h
  | aload k =>
    have hn : len = 2 := hn
    subst hn
    change xe_iL 1 k G xe_Z mc ms pc 2 res al st w nc ns = some N at h
    unfold xe_iL at h
    split at h
    · next v hv =>
      cases hk : xe_kd 1 v with
      | false => rw [hk] at h; cases h
      | true =>
        rw [hk] at h; cases h
        obtain ⟨a, ea⟩ := xs_ref (ad := ad) (sa := sa) (ρ := ρ) hk
        have q := xs_on0 kk rfl hR
        have hm := hl.2.2 _ (xs_al_mem (ad := ad) (sa := sa) (ρ := ρ) hv)
        simp only [List.map_cons, ea] at q hm
        exact lv_aload hx hb hd hm q
    · cases h
  | iload_n k =>
    have hn : len = 1 := hn
    subst hn
    change xe_iL 0 k G xe_Z mc ms pc 1 res al st w nc ns = some N at h
    unfold xe_iL at h
    split at h
    · next v hv =>
      cases hk : xe_kd 0 v with
      | false => rw [hk] at h; cases h
      | true =>
        rw [hk] at h; cases h
        have ea := xs_num (ad := ad) (sa := sa) (ρ := ρ) hk
        have q := xs_on0 kk rfl hR
        have hm := hl.2.2 _ (xs_al_mem (ad := ad) (sa := sa) (ρ := ρ) hv)
        simp only [List.map_cons, ea] at q hm
        exact lv_iload_n hx hb hd rfl hm q
    · cases h
  | iload k =>
    have hn : len = 2 := hn
    subst hn
    change xe_iL 0 k G xe_Z mc ms pc 2 res al st w nc ns = some N at h
    unfold xe_iL at h
    split at h
    · next v hv =>
      cases hk : xe_kd 0 v with
      | false => rw [hk] at h; cases h
      | true =>
        rw [hk] at h; cases h
        have ea := xs_num (ad := ad) (sa := sa) (ρ := ρ) hk
        have q := xs_on0 kk rfl hR
        have hm := hl.2.2 _ (xs_al_mem (ad := ad) (sa := sa) (ρ := ρ) hv)
        simp only [List.map_cons, ea] at q hm
        exact lv_iload hx hb hd hm q
    · cases h
  | lload_n k =>
    have hn : len = 1 := hn
    subst hn
    change xe_iL 2 k G xe_Z mc ms pc 1 res al st w nc ns = some N at h
    unfold xe_iL at h
    split at h
    · next v hv =>
      cases hk : xe_kd 2 v with
      | false => rw [hk] at h; cases h
      | true =>
        rw [hk] at h; cases h
        have ea := xs_lng (ad := ad) (sa := sa) (ρ := ρ) hk
        have q := xs_on0 kk rfl hR
        have hm := hl.2.2 _ (xs_al_mem (ad := ad) (sa := sa) (ρ := ρ) hv)
        simp only [List.map_cons, ea] at q hm
        exact lv_lload_n hx hb hd rfl hm q
    · cases h
  | lload k =>
    have hn : len = 2 := hn
    subst hn
    change xe_iL 2 k G xe_Z mc ms pc 2 res al st w nc ns = some N at h
    unfold xe_iL at h
    split at h
    · next v hv =>
      cases hk : xe_kd 2 v with
      | false => rw [hk] at h; cases h
      | true =>
        rw [hk] at h; cases h
        have ea := xs_lng (ad := ad) (sa := sa) (ρ := ρ) hk
        have q := xs_on0 kk rfl hR
        have hm := hl.2.2 _ (xs_al_mem (ad := ad) (sa := sa) (ρ := ρ) hv)
        simp only [List.map_cons, ea] at q hm
        exact lv_lload hx hb hd hm q
    · cases h
  | istore_n k =>
    have hn : len = 1 := hn
    subst hn
    change xe_iS 0 k G xe_Z mc ms pc 1 res al st w nc ns = some N at h
    unfold xe_iS at h
    split at h
    · next v st =>
      cases hk : xe_kd 0 v with
      | false => rw [hk] at h; cases h
      | true =>
        rw [hk] at h; cases h
        have ea := xs_num (ad := ad) (sa := sa) (ρ := ρ) hk
        have q := xs_al_s1 ad sa ρ al k v
        simp only [ea] at q
        simp only [List.map_cons, ea]
        exact lv_istore_n hx hb hd rfl hl hL q (fun ls2 hl2 => kk ad ls2 H locs (xs_ag_rf _ _ _) (Nat.le_refl _) ⟨hl2, hP, hD, hS⟩)
    · cases h
  | istore k =>
    have hn : len = 2 := hn
    subst hn
    change xe_iS 0 k G xe_Z mc ms pc 2 res al st w nc ns = some N at h
    unfold xe_iS at h
    split at h
    · next v st =>
      cases hk : xe_kd 0 v with
      | false => rw [hk] at h; cases h
      | true =>
        rw [hk] at h; cases h
        have ea := xs_num (ad := ad) (sa := sa) (ρ := ρ) hk
        have q := xs_al_s1 ad sa ρ al k v
        simp only [ea] at q
        simp only [List.map_cons, ea]
        exact lv_istore hx hb hd hl hL q (fun ls2 hl2 => kk ad ls2 H locs (xs_ag_rf _ _ _) (Nat.le_refl _) ⟨hl2, hP, hD, hS⟩)
    · cases h
  | astore_n k =>
    have hn : len = 1 := hn
    subst hn
    change xe_iS 1 k G xe_Z mc ms pc 1 res al st w nc ns = some N at h
    unfold xe_iS at h
    split at h
    · next v st =>
      cases hk : xe_kd 1 v with
      | false => rw [hk] at h; cases h
      | true =>
        rw [hk] at h; cases h
        obtain ⟨a, ea⟩ := xs_ref (ad := ad) (sa := sa) (ρ := ρ) hk
        have q := xs_al_s1 ad sa ρ al k v
        simp only [ea] at q
        simp only [List.map_cons, ea]
        exact lv_astore_n hx hb hd rfl hl hL q (fun ls2 hl2 => kk ad ls2 H locs (xs_ag_rf _ _ _) (Nat.le_refl _) ⟨hl2, hP, hD, hS⟩)
    · cases h
  | astore k =>
    have hn : len = 2 := hn
    subst hn
    change xe_iS 1 k G xe_Z mc ms pc 2 res al st w nc ns = some N at h
    unfold xe_iS at h
    split at h
    · next v st =>
      cases hk : xe_kd 1 v with
      | false => rw [hk] at h; cases h
      | true =>
        rw [hk] at h; cases h
        obtain ⟨a, ea⟩ := xs_ref (ad := ad) (sa := sa) (ρ := ρ) hk
        have q := xs_al_s1 ad sa ρ al k v
        simp only [ea] at q
        simp only [List.map_cons, ea]
        exact lv_astore hx hb hd hl hL q (fun ls2 hl2 => kk ad ls2 H locs (xs_ag_rf _ _ _) (Nat.le_refl _) ⟨hl2, hP, hD, hS⟩)
    · cases h
  | lstore_n k =>
    have hn : len = 1 := hn
    subst hn
    change xe_iS2 k G xe_Z mc ms pc 1 res al st w nc ns = some N at h
    unfold xe_iS2 at h
    split at h
    · next v st =>
      cases hk : xe_kd 2 v with
      | false => rw [hk] at h; cases h
      | true =>
        rw [hk] at h; cases h
        have ea := xs_lng (ad := ad) (sa := sa) (ρ := ρ) hk
        have q := xs_al_s2 ad sa ρ al k v
        simp only [ea] at q
        simp only [List.map_cons, ea]
        exact lv_lstore_n hx hb hd rfl hl hL q (fun ls2 hl2 => kk ad ls2 H locs (xs_ag_rf _ _ _) (Nat.le_refl _) ⟨hl2, hP, hD, hS⟩)
    · cases h
  | lstore k =>
    have hn : len = 2 := hn
    subst hn
    change xe_iS2 k G xe_Z mc ms pc 2 res al st w nc ns = some N at h
    unfold xe_iS2 at h
    split at h
    · next v st =>
      cases hk : xe_kd 2 v with
      | false => rw [hk] at h; cases h
      | true =>
        rw [hk] at h; cases h
        have ea := xs_lng (ad := ad) (sa := sa) (ρ := ρ) hk
        have q := xs_al_s2 ad sa ρ al k v
        simp only [ea] at q
        simp only [List.map_cons, ea]
        exact lv_lstore hx hb hd hl hL q (fun ls2 hl2 => kk ad ls2 H locs (xs_ag_rf _ _ _) (Nat.le_refl _) ⟨hl2, hP, hD, hS⟩)
    · cases h
  | iconst n =>
    have hn : len = 1 := hn
    subst hn
    change some _ = some N at h
    cases h
    exact lv_iconst hx hb hd rfl (xs_on0 kk rfl hR)
  | bipush n =>
    have hn : len = 2 := hn
    subst hn
    change some _ = some N at h
    cases h
    exact lv_bipush hx hb hd rfl (xs_on0 kk rfl hR)
  | sipush n =>
    have hn : len = 3 := hn
    subst hn
    change some _ = some N at h
    cases h
    exact lv_sipush hx hb hd rfl (xs_on0 kk rfl hR)
  | lconst n =>
    have hn : len = 1 := hn
    subst hn
    change some _ = some N at h
    cases h
    exact lv_lconst hx hb hd rfl (xs_on0 kk rfl hR)
  | ldc idx =>
    have hn : len = 2 := hn
    subst hn
    change xe_iK G xe_Z mc ms pc 2 res al st w nc ns = some N at h
    unfold xe_iK at h
    split at h
    · next n =>
      cases h
      exact lv_ldc hx hb hown (hts _ hL) hd (xs_on0 kk rfl hR)
    · cases h
  | ldc_w idx =>
    have hn : len = 3 := hn
    subst hn
    change xe_iK G xe_Z mc ms pc 3 res al st w nc ns = some N at h
    unfold xe_iK at h
    split at h
    · next n =>
      cases h
      exact lv_ldcw hx hb hown (hts _ hL) hd (xs_on0 kk rfl hR)
    · cases h
  | iinc k n =>
    have hn : len = 3 := hn
    subst hn
    change xe_iInc k n G xe_Z mc ms pc 3 res al st w nc ns = some N at h
    unfold xe_iInc at h
    split at h
    · next x hv =>
      rw [xe_mk_eq] at h
      cases h
      obtain ⟨j, hj⟩ := List.getElem?_of_mem (xs_al_mem (ad := ad) (sa := sa) (ρ := ρ) hv)
      exact lv_iinc hx hb hd hl hj rfl hL (xs_al_s1 ad sa ρ al k (.int (x + Int32.ofInt n))) (fun ls2 hl2 => kk ad ls2 H locs (xs_ag_rf _ _ _) (Nat.le_refl _) ⟨hl2, hP, hD, hS⟩)
    · cases h
  | dup =>
    have hn : len = 1 := hn
    subst hn
    change xe_iDup G xe_Z mc ms pc 1 res al st w nc ns = some N at h
    unfold xe_iDup at h
    split at h
    · next v st =>
      cases hk : xe_c1 v with
      | false => rw [hk] at h; cases h
      | true =>
        rw [hk] at h; cases h
        exact lv_dup hx hb hd (xs_c1 hk) (xs_on0 kk rfl hR)
    · cases h
  | dup2 =>
    have hn : len = 1 := hn
    subst hn
    change xe_iDup2 G xe_Z mc ms pc 1 res al st w nc ns = some N at h
    unfold xe_iDup2 at h
    split at h
    · next v u st =>
      cases hk : xe_c1 v && xe_c1 u with
      | false => rw [hk] at h; cases h
      | true =>
        rw [hk] at h; cases h
        rw [Bool.and_eq_true] at hk
        exact lv_dup2_11 hx hb hd (xs_c1 hk.1) (xs_c1 hk.2) (xs_on0 kk rfl hR)
    · cases h
  | goto off =>
    have hn : len = 3 := hn
    subst hn
    change xe_iGoto off G xe_Z mc ms pc 3 res al st w nc ns = some N at h
    unfold xe_iGoto at h
    split at h
    · next t ht =>
      cases h
      exact lv_goto hx hb hd (xs_tgt_ok ht) (xs_on0 kk rfl hR)
    · cases h
  | ifCond cd off =>
    have hn : len = 3 := hn
    subst hn
    change xe_iIf cd off G xe_Z mc ms pc 3 res al st w nc ns = some N at h
    unfold xe_iIf at h
    split at h
    · next v st =>
      split at h
      · next t hc ht =>
        cases h
        obtain ⟨k1, k2, k3⟩ := xs_cmp_ok hG hc
        have k3 : xs_cd cd (xs_i ρ v) 0 := k3.mp rfl
        have q := xs_on0 kk rfl hR
        rw [List.map_cons, xs_num k1]
        cases cd with
        | lt => exact lv_if_lt hx hb hd (xs_tgt_ok ht) (fun _ => q) (fun z => absurd k3 z)
        | ge => exact lv_if_ge hx hb hd (xs_tgt_ok ht) (fun _ => q) (fun z => absurd k3 z)
        | gt => exact lv_if_gt hx hb hd (xs_tgt_ok ht) (fun _ => q) (fun z => absurd k3 z)
        | le => exact lv_if_le hx hb hd (xs_tgt_ok ht) (fun _ => q) (fun z => absurd k3 z)
        | eq => exact lv_if_eq hx hb hd (xs_tgt_ok ht) (fun _ => q) (fun z => absurd k3 z)
        | ne => exact lv_if_ne hx hb hd (xs_tgt_ok ht) (fun _ => q) (fun z => absurd z k3)
      · next t hc ht =>
        cases h
        obtain ⟨k1, k2, k3⟩ := xs_cmp_ok hG hc
        have k3 : ¬ xs_cd cd (xs_i ρ v) 0 := fun z => by cases k3.mpr z
        have q := xs_on0 kk rfl hR
        rw [List.map_cons, xs_num k1]
        cases cd with
        | lt => exact lv_if_lt hx hb hd (xs_tgt_ok ht) (fun z => absurd z k3) (fun _ => q)
        | ge => exact lv_if_ge hx hb hd (xs_tgt_ok ht) (fun z => absurd z k3) (fun _ => q)
        | gt => exact lv_if_gt hx hb hd (xs_tgt_ok ht) (fun z => absurd z k3) (fun _ => q)
        | le => exact lv_if_le hx hb hd (xs_tgt_ok ht) (fun z => absurd z k3) (fun _ => q)
        | eq => exact lv_if_eq hx hb hd (xs_tgt_ok ht) (fun z => absurd z k3) (fun _ => q)
        | ne => exact lv_if_ne hx hb hd (xs_tgt_ok ht) (fun z => absurd z k3) (fun _ => q)
      · cases h
    · cases h
  | if_icmp cd off =>
    have hn : len = 3 := hn
    subst hn
    change xe_iCmp cd off G xe_Z mc ms pc 3 res al st w nc ns = some N at h
    unfold xe_iCmp at h
    split at h
    · next u v st =>
      split at h
      · next t hc ht =>
        cases h
        obtain ⟨k1, k2, k3⟩ := xs_cmp_ok hG hc
        have k3 : xs_cd cd (xs_i ρ v) (xs_i ρ u) := k3.mp rfl
        have q := xs_on0 kk rfl hR
        rw [List.map_cons, List.map_cons, xs_num k1, xs_num k2]
        cases cd with
        | lt => exact lv_icmp_lt hx hb hd (xs_tgt_ok ht) (fun _ => q) (fun z => absurd k3 z)
        | ge => exact lv_icmp_ge hx hb hd (xs_tgt_ok ht) (fun _ => q) (fun z => absurd k3 z)
        | gt => exact lv_icmp_gt hx hb hd (xs_tgt_ok ht) (fun _ => q) (fun z => absurd k3 z)
        | le => exact lv_icmp_le hx hb hd (xs_tgt_ok ht) (fun _ => q) (fun z => absurd k3 z)
        | eq => exact lv_icmp_eq hx hb hd (xs_tgt_ok ht) (fun _ => q) (fun z => absurd k3 z)
        | ne => exact lv_icmp_ne hx hb hd (xs_tgt_ok ht) (fun _ => q) (fun z => absurd z k3)
      · next t hc ht =>
        cases h
        obtain ⟨k1, k2, k3⟩ := xs_cmp_ok hG hc
        have k3 : ¬ xs_cd cd (xs_i ρ v) (xs_i ρ u) := fun z => by cases k3.mpr z
        have q := xs_on0 kk rfl hR
        rw [List.map_cons, List.map_cons, xs_num k1, xs_num k2]
        cases cd with
        | lt => exact lv_icmp_lt hx hb hd (xs_tgt_ok ht) (fun z => absurd z k3) (fun _ => q)
        | ge => exact lv_icmp_ge hx hb hd (xs_tgt_ok ht) (fun z => absurd z k3) (fun _ => q)
        | gt => exact lv_icmp_gt hx hb hd (xs_tgt_ok ht) (fun z => absurd z k3) (fun _ => q)
        | le => exact lv_icmp_le hx hb hd (xs_tgt_ok ht) (fun z => absurd z k3) (fun _ => q)
        | eq => exact lv_icmp_eq hx hb hd (xs_tgt_ok ht) (fun z => absurd z k3) (fun _ => q)
        | ne => exact lv_icmp_ne hx hb hd (xs_tgt_ok ht) (fun z => absurd z k3) (fun _ => q)
      · cases h
    · cases h
  | iadd =>
    have hn : len = 1 := hn
    subst hn
    change xe_iB 0 G xe_Z mc ms pc 1 res al st w nc ns = some N at h
    unfold xe_iB at h
    split at h
    · next u v st =>
      split at h
      · next x hx2 =>
        cases hk : xe_kd 0 v && xe_kd 0 u with
        | false => rw [hk] at h; cases h
        | true =>
          rw [hk] at h; cases h
          rw [Bool.and_eq_true] at hk
          obtain ⟨k1, k2⟩ := xs_bin_ok hG hx2
          have q := xs_on0 kk rfl hR
          simp only [List.map_cons, xs_num k1, k2] at q
          simp only [List.map_cons, xs_num hk.1, xs_num hk.2]
          exact lv_iadd hx hb hd q
      · cases h
    · cases h
  | isub =>
    have hn : len = 1 := hn
    subst hn
    change xe_iB 1 G xe_Z mc ms pc 1 res al st w nc ns = some N at h
    unfold xe_iB at h
    split at h
    · next u v st =>
      split at h
      · next x hx2 =>
        cases hk : xe_kd 0 v && xe_kd 0 u with
        | false => rw [hk] at h; cases h
        | true =>
          rw [hk] at h; cases h
          rw [Bool.and_eq_true] at hk
          obtain ⟨k1, k2⟩ := xs_bin_ok hG hx2
          have q := xs_on0 kk rfl hR
          simp only [List.map_cons, xs_num k1, k2] at q
          simp only [List.map_cons, xs_num hk.1, xs_num hk.2]
          exact lv_isub hx hb hd q
      · cases h
    · cases h
  | imul =>
    have hn : len = 1 := hn
    subst hn
    change xe_iB 2 G xe_Z mc ms pc 1 res al st w nc ns = some N at h
    unfold xe_iB at h
    split at h
    · next u v st =>
      split at h
      · next x hx2 =>
        cases hk : xe_kd 0 v && xe_kd 0 u with
        | false => rw [hk] at h; cases h
        | true =>
          rw [hk] at h; cases h
          rw [Bool.and_eq_true] at hk
          obtain ⟨k1, k2⟩ := xs_bin_ok hG hx2
          have q := xs_on0 kk rfl hR
          simp only [List.map_cons, xs_num k1, k2] at q
          simp only [List.map_cons, xs_num hk.1, xs_num hk.2]
          exact lv_imul hx hb hd q
      · cases h
    · cases h
  | iand =>
    have hn : len = 1 := hn
    subst hn
    change xe_iB 3 G xe_Z mc ms pc 1 res al st w nc ns = some N at h
    unfold xe_iB at h
    split at h
    · next u v st =>
      split at h
      · next x hx2 =>
        cases hk : xe_kd 0 v && xe_kd 0 u with
        | false => rw [hk] at h; cases h
        | true =>
          rw [hk] at h; cases h
          rw [Bool.and_eq_true] at hk
          obtain ⟨k1, k2⟩ := xs_bin_ok hG hx2
          have q := xs_on0 kk rfl hR
          simp only [List.map_cons, xs_num k1, k2] at q
          simp only [List.map_cons, xs_num hk.1, xs_num hk.2]
          exact lv_iand hx hb hd q
      · cases h
    · cases h
  | ior =>
    have hn : len = 1 := hn
    subst hn
    change xe_iB 4 G xe_Z mc ms pc 1 res al st w nc ns = some N at h
    unfold xe_iB at h
    split at h
    · next u v st =>
      split at h
      · next x hx2 =>
        cases hk : xe_kd 0 v && xe_kd 0 u with
        | false => rw [hk] at h; cases h
        | true =>
          rw [hk] at h; cases h
          rw [Bool.and_eq_true] at hk
          obtain ⟨k1, k2⟩ := xs_bin_ok hG hx2
          have q := xs_on0 kk rfl hR
          simp only [List.map_cons, xs_num k1, k2] at q
          simp only [List.map_cons, xs_num hk.1, xs_num hk.2]
          exact lv_ior hx hb hd q
      · cases h
    · cases h
  | ixor =>
    have hn : len = 1 := hn
    subst hn
    change xe_iB 5 G xe_Z mc ms pc 1 res al st w nc ns = some N at h
    unfold xe_iB at h
    split at h
    · next u v st =>
      split at h
      · next x hx2 =>
        cases hk : xe_kd 0 v && xe_kd 0 u with
        | false => rw [hk] at h; cases h
        | true =>
          rw [hk] at h; cases h
          rw [Bool.and_eq_true] at hk
          obtain ⟨k1, k2⟩ := xs_bin_ok hG hx2
          have q := xs_on0 kk rfl hR
          simp only [List.map_cons, xs_num k1, k2] at q
          simp only [List.map_cons, xs_num hk.1, xs_num hk.2]
          exact lv_ixor hx hb hd q
      · cases h
    · cases h
  | ishl =>
    have hn : len = 1 := hn
    subst hn
    change xe_iB 6 G xe_Z mc ms pc 1 res al st w nc ns = some N at h
    unfold xe_iB at h
    split at h
    · next u v st =>
      split at h
      · next x hx2 =>
        cases hk : xe_kd 0 v && xe_kd 0 u with
        | false => rw [hk] at h; cases h
        | true =>
          rw [hk] at h; cases h
          rw [Bool.and_eq_true] at hk
          obtain ⟨k1, k2⟩ := xs_bin_ok hG hx2
          have q := xs_on0 kk rfl hR
          simp only [List.map_cons, xs_num k1, k2] at q
          simp only [List.map_cons, xs_num hk.1, xs_num hk.2]
          exact lv_ishl hx hb hd q
      · cases h
    · cases h
  | ishr =>
    have hn : len = 1 := hn
    subst hn
    change xe_iB 7 G xe_Z mc ms pc 1 res al st w nc ns = some N at h
    unfold xe_iB at h
    split at h
    · next u v st =>
      split at h
      · next x hx2 =>
        cases hk : xe_kd 0 v && xe_kd 0 u with
        | false => rw [hk] at h; cases h
        | true =>
          rw [hk] at h; cases h
          rw [Bool.and_eq_true] at hk
          obtain ⟨k1, k2⟩ := xs_bin_ok hG hx2
          have q := xs_on0 kk rfl hR
          simp only [List.map_cons, xs_num k1, k2] at q
          simp only [List.map_cons, xs_num hk.1, xs_num hk.2]
          exact lv_ishr hx hb hd q
      · cases h
    · cases h
  | iushr =>
    have hn : len = 1 := hn
    subst hn
    change xe_iB 8 G xe_Z mc ms pc 1 res al st w nc ns = some N at h
    unfold xe_iB at h
    split at h
    · next u v st =>
      split at h
      · next x hx2 =>
        cases hk : xe_kd 0 v && xe_kd 0 u with
        | false => rw [hk] at h; cases h
        | true =>
          rw [hk] at h; cases h
          rw [Bool.and_eq_true] at hk
          obtain ⟨k1, k2⟩ := xs_bin_ok hG hx2
          have q := xs_on0 kk rfl hR
          simp only [List.map_cons, xs_num k1, k2] at q
          simp only [List.map_cons, xs_num hk.1, xs_num hk.2]
          exact lv_iushr hx hb hd rfl q
      · cases h
    · cases h
  | ineg =>
    have hn : len = 1 := hn
    subst hn
    change xe_iU 9 G xe_Z mc ms pc 1 res al st w nc ns = some N at h
    unfold xe_iU at h
    split at h
    · next v st =>
      split at h
      · next x hx2 =>
        cases hk : xe_kd 0 v with
        | false => rw [hk] at h; cases h
        | true =>
          rw [hk] at h; cases h
          obtain ⟨k1, k2⟩ := xs_bin_ok hG hx2
          have q := xs_on0 kk rfl hR
          simp only [List.map_cons, xs_num k1, k2] at q
          simp only [List.map_cons, xs_num hk]
          exact lv_ineg hx hb hd q
      · cases h
    · cases h
  | i2b =>
    have hn : len = 1 := hn
    subst hn
    change xe_iU 10 G xe_Z mc ms pc 1 res al st w nc ns = some N at h
    unfold xe_iU at h
    split at h
    · next v st =>
      split at h
      · next x hx2 =>
        cases hk : xe_kd 0 v with
        | false => rw [hk] at h; cases h
        | true =>
          rw [hk] at h; cases h
          obtain ⟨k1, k2⟩ := xs_bin_ok hG hx2
          have q := xs_on0 kk rfl hR
          simp only [List.map_cons, xs_num k1, k2] at q
          simp only [List.map_cons, xs_num hk]
          exact lv_i2b hx hb hd rfl q
      · cases h
    · cases h
  | idiv =>
    have hn : len = 1 := hn
    subst hn
    change xe_iDiv G xe_Z mc ms pc 1 res al st w nc ns = some N at h
    unfold xe_iDiv at h
    split at h
    · next y x st =>
      split at h
      · cases h
      · next hy =>
        rw [xe_mk_eq] at h
        cases h
        exact lv_idiv hx hb hd hy (xs_on0 kk rfl hR)
    · cases h
  | ldiv =>
    have hn : len = 1 := hn
    subst hn
    change xe_iLdiv G xe_Z mc ms pc 1 res al st w nc ns = some N at h
    unfold xe_iLdiv at h
    split at h
    · next y x st =>
      split at h
      · cases h
      · next hy =>
        rw [xe_mkL_eq] at h
        cases h
        exact lv_ldiv hx hb hd hy (xs_on0 kk rfl hR)
    · cases h
  | i2l =>
    have hn : len = 1 := hn
    subst hn
    change xe_iI2l G xe_Z mc ms pc 1 res al st w nc ns = some N at h
    unfold xe_iI2l at h
    split at h
    · next x st =>
      rw [xe_mkL_eq] at h
      cases h
      exact lv_i2l hx hb hd rfl (xs_on0 kk rfl hR)
    · cases h
  | ladd =>
    have hn : len = 1 := hn
    subst hn
    change xe_iLadd G xe_Z mc ms pc 1 res al st w nc ns = some N at h
    unfold xe_iLadd at h
    split at h
    · next y x st =>
      rw [xe_mkL_eq] at h
      cases h
      exact lv_ladd hx hb hd (xs_on0 kk rfl hR)
    · cases h
  | lmul =>
    have hn : len = 1 := hn
    subst hn
    change xe_iLmul G xe_Z mc ms pc 1 res al st w nc ns = some N at h
    unfold xe_iLmul at h
    split at h
    · next y x st =>
      rw [xe_mkL_eq] at h
      cases h
      exact lv_lmul hx hb hd (xs_on0 kk rfl hR)
    · cases h
  | lcmp =>
    have hn : len = 1 := hn
    subst hn
    change xe_iLcmp G xe_Z mc ms pc 1 res al st w nc ns = some N at h
    unfold xe_iLcmp at h
    split at h
    · next y x st =>
      cases h
      exact W.lcmp hx hb hd (xs_on0 kk rfl hR)
    · cases h
  | tableswitch dd lo hi offs =>
    change xe_iTab dd lo hi offs G xe_Z mc ms pc len res al st w nc ns = some N at h
    unfold xe_iTab at h
    split at h
    · next v st =>
      split at h
      · next a b hr =>
        obtain ⟨k1, k2, k3⟩ := xs_get_rng hG hr
        have k2 : a ≤ (xs_i ρ v).toInt := k2
        have k3 : (xs_i ρ v).toInt ≤ b := k3
        split at h
        · next hc =>
          obtain ⟨hab, h1, h2⟩ := hc
          have ev : (xs_i ρ v).toInt = a := by omega
          split at h
          · next off hoff =>
            split at h
            · next t ht =>
              cases h
              have q := xs_on0 kk rfl hR
              rw [List.map_cons, xs_num k1]
              exact lv_tableIn hx hb hd (by rw [ev]; exact h1) (by rw [ev]; exact h2) (by rw [ev]; exact hoff) (xs_tgt_ok ht) q
            · cases h
          · cases h
        · split at h
          · next hc =>
            split at h
            · next t ht =>
              cases h
              have q := xs_on0 kk rfl hR
              rw [List.map_cons, xs_num k1]
              exact lv_tableOut hx hb hd (by omega) (xs_tgt_ok ht) q
            · cases h
          · cases h
      · cases h
    · cases h
  | getfield idx =>
    have hn : len = 3 := hn
    subst hn
    change xe_iGet G xe_Z mc ms pc 3 res al st w nc ns = some N at h
    unfold xe_iGet at h
    split at h
    · next a st ci k =>
      rw [xe_nth_eq] at h
      split at h
      · next cj fs hc =>
        cases hk : Nat.beq ci cj with
        | false => rw [hk] at h; cases h
        | true =>
          rw [hk] at h
          have ec := Nat.eq_of_beq_eq_true hk
          subst ec
          change (match xe_nth fs k with | some v => some (pc + 3, al, v :: st, w, nc, ns) | none => none) = some N at h
          rw [xe_nth_eq] at h
          split at h
          · next v hv =>
            cases h
            obtain ⟨C, T, N0, ty, hC, hk0, hlk0⟩ := hL
            exact va_get (D := D) hx hb hts hC.2.1 hown hK hP a (xs_w_get ad sa ρ dA hc) hC.1 k hk0 (hts _ hlk0) (fun _ z => z) (v := xs_v ad sa ρ v) (by rw [List.getElem?_map, hv]; rfl) hd (xs_on0 kk rfl hR)
          · cases h
      · cases h
    · cases h
  | putfield idx =>
    have hn : len = 3 := hn
    subst hn
    change xe_iPut G xe_Z mc ms pc 3 res al st w nc ns = some N at h
    unfold xe_iPut at h
    split at h
    · next v a st ci k tc fin =>
      rw [xe_nth_eq] at h
      split at h
      · next cj fs hc =>
        cases hk : Nat.beq ci cj && xe_fit tc v with
        | false => rw [hk] at h; cases h
        | true =>
          rw [hk] at h
          rw [Bool.and_eq_true] at hk
          have ec := Nat.eq_of_beq_eq_true hk.1
          subst ec
          change (match xe_nth fs k with | some _ => some (pc + 3, al, st, xe_set w (.inr (ci, xe_set fs v k)) a, nc, ns) | none => none) = some N at h
          rw [xe_nth_eq] at h
          split at h
          · next v0 hv =>
            cases h
            obtain ⟨C, T, N0, ty, hC, hk0, hlk0, htc, hfin⟩ := hL
            obtain ⟨hn1, hn2⟩ := xs_fit_ok (ad := ad) (sa := sa) (ρ := ρ) hk.2 htc
            have hlen : k < (fs.map (xs_v ad sa ρ)).length := by rw [List.length_map]; exact (List.getElem?_eq_some_iff.mp hv).1
            have e1 : (xs_w ad sa ρ dA w).set a (ad a, .inr (ci, (fs.map (xs_v ad sa ρ)).set k (xs_v ad sa ρ v))) = xs_w ad sa ρ dA (xe_set w (.inr (ci, xe_set fs v k)) a) := by
              rw [xe_set_eq, xe_set_eq, ← xs_w_set, ← List.map_set]
              rfl
            have q : ∀ (H1 : Heap) (locs1 : List Loc), va_P D vwCl ((xs_w ad sa ρ dA w).set a (ad a, .inr (ci, (fs.map (xs_v ad sa ρ)).set k (xs_v ad sa ρ v)))) H1 → va_D A ((xs_w ad sa ρ dA w).set a (ad a, .inr (ci, (fs.map (xs_v ad sa ρ)).set k (xs_v ad sa ρ v)))) → va_S A s.heap H1 locs1 → W p l e R s m args below meth c H1 locs1 nc ns Q (F0 m (pc + 3) ls (st.map (xs_v ad sa ρ))) := by
              intro H1 locs1 hP1 hD1 hS1
              rw [e1] at hP1 hD1
              exact kk ad ls H1 locs1 (xs_ag_rf _ _ _) (xs_len_set _ _ _) ⟨hl, hP1, hD1, hS1⟩
            rcases hfin with hf | ⟨hf, hf2, hf3⟩
            · exact va_put (D := D) hx hb hts hC.2.1 ty hC.2.2.1 hC.2.2.2.1 hown hK hP hD hS a (xs_w_get ad sa ρ dA hc) hC.1 k hk0 (hts _ hlk0) (fun _ z => z) hf (hC.2.2.1 k hk0) hn1 hn2 hlen hd q
            · exact va_putF (D := D) hx hb hts hC.2.1 ty hC.2.2.1 hC.2.2.2.1 hown hK hP hD hS a (xs_w_get ad sa ρ dA hc) hC.1 k hk0 (hts _ hlk0) (fun _ z => z) hf (hini hf3) hf2 (hC.2.2.1 k hk0) hn1 hn2 hlen hd q
          · cases h
      · cases h
    · cases h
  | new idx =>
    have hn : len = 3 := hn
    subst hn
    change xe_iNew G xe_Z mc ms pc 3 res al st w nc ns = some N at h
    unfold xe_iNew at h
    split at h
    · next ci n =>
      rw [xe_nth_eq] at h
      split at h
      · next fs hf =>
        cases hk : Nat.ble (nc + 1) mc && Nat.ble (ns + n) ms && Nat.beq fs.length n && xe_ok w.length al st w with
        | false => rw [hk] at h; cases h
        | true =>
          rw [hk] at h
          cases h
          simp only [Bool.and_eq_true, Nat.ble_eq] at hk
          obtain ⟨⟨⟨h1, h2⟩, h3⟩, hok⟩ := hk
          obtain ⟨C, T, ty, hC, hl1, hl2, hl3⟩ := hL
          have ez : xe_Z.getD ci [] = fs := by rw [List.getD_eq_getElem?_getD, hf]; rfl
          refine va_new (ci := ci) (fs := fs) hx hb hts hC.2.1 ty hC.2.2.1 hown (hts _ hl1) (hts _ hl2) (hts _ hl3) hK hP hD hS hA hC.1 (fun j hj => by rw [← ez]; exact hC.2.2.2.2 j hj) (Nat.le_trans h1 hRm.1) (Nat.le_trans h2 hRm.2) hd (fun q H1 hP1 hD1 hS1 => ?_)
          have ec : (Sum.inr (ci, fs) : va_E) = xs_c (xs_ad ad w.length q) sa ρ dA (.inr (ci, fs)) := by
            show _ = Sum.inr (ci, fs.map _)
            rw [xk_zmap hf]
          rw [ec] at hP1 hD1
          obtain ⟨r1, r2⟩ := xs_pushed (st := st) hl hok hP1 hD1 hS1
          rw [← r2]
          exact kk _ ls H1 locs (xs_ad_ag h1) (by show w.length ≤ (w ++ _).length; rw [List.length_append]; omega) r1
      · cases h
    · cases h
  | newarray t =>
    have hn : len = 2 := hn
    subst hn
    change xe_iNewa t G xe_Z mc ms pc 2 res al st w nc ns = some N at h
    unfold xe_iNewa at h
    split at h
    · next n st =>
      split at h
      · next k hnn =>
        cases hk : Nat.blt (xe_aty t) 4 && Nat.ble (nc + 1) mc && Nat.ble (ns + k) ms && Nat.ble k 60000000 && xe_ok w.length al st w with
        | false => rw [hk] at h; cases h
        | true =>
          rw [hk] at h
          cases h
          simp only [Bool.and_eq_true, Nat.ble_eq] at hk
          obtain ⟨⟨⟨⟨h0, h1⟩, h2⟩, h3⟩, hok⟩ := hk
          obtain ⟨e1, e2, e3⟩ := xs_nn_ok hnn
          rw [List.map_cons]
          show W p l e R s m args below meth c H locs nc ns Q (F0 m pc ls (.int n :: st.map (xs_v ad sa ρ)))
          cases t with
          | byte =>
            refine va_newa (ty := .byte) (a0 := (k, .inl (fun j => xs_i ρ (xe_get 0 [] j)))) hx hb (hts _ hL) rfl hK hP hD hS hA (fun cA => rfl) e1 e2 (by show k * 1 ≤ _; omega) (Nat.le_trans h1 hRm.1) (Nat.le_trans h2 hRm.2) hd (fun q cA H1 hK1 hP1 hD1 hS1 => ?_)
            have ea : cA = dA 0 := Option.some.inj ((hK1.2 4 (cA, .byte) rfl).2.symm.trans (hK.2 0 _ rfl).2)
            subst ea
            obtain ⟨r1, r2⟩ := xs_pushed (st := st) (c2 := .inl (0, k, [])) hl hok hP1 hD1 hS1
            rw [← r2]
            exact kk _ ls H1 locs (xs_ad_ag h1) (by show w.length ≤ (w ++ _).length; rw [List.length_append]; omega) r1
          | int =>
            refine va_newa (ty := .int) (a0 := (k, .inl (fun j => xs_i ρ (xe_get 1 [] j)))) hx hb (hts _ hL) rfl hK hP hD hS hA (fun cA => rfl) e1 e2 (by show k * 4 ≤ _; omega) (Nat.le_trans h1 hRm.1) (Nat.le_trans h2 hRm.2) hd (fun q cA H1 hK1 hP1 hD1 hS1 => ?_)
            have ea : cA = dA 1 := Option.some.inj ((hK1.2 4 (cA, .int) rfl).2.symm.trans (hK.2 1 _ rfl).2)
            subst ea
            obtain ⟨r1, r2⟩ := xs_pushed (st := st) (c2 := .inl (1, k, [])) hl hok hP1 hD1 hS1
            rw [← r2]
            exact kk _ ls H1 locs (xs_ad_ag h1) (by show w.length ≤ (w ++ _).length; rw [List.length_append]; omega) r1
          | long =>
            refine va_newa (ty := .long) (a0 := (k, .inr (.inl (fun j => xs_l (xe_get 2 [] j))))) hx hb (hts _ hL) rfl hK hP hD hS hA (fun cA => rfl) e1 e2 (by show k * 8 ≤ _; omega) (Nat.le_trans h1 hRm.1) (Nat.le_trans h2 hRm.2) hd (fun q cA H1 hK1 hP1 hD1 hS1 => ?_)
            have ea : cA = dA 2 := Option.some.inj ((hK1.2 4 (cA, .long) rfl).2.symm.trans (hK.2 2 _ rfl).2)
            subst ea
            obtain ⟨r1, r2⟩ := xs_pushed (st := st) (c2 := .inl (2, k, [])) hl hok hP1 hD1 hS1
            rw [← r2]
            exact kk _ ls H1 locs (xs_ad_ag h1) (by show w.length ≤ (w ++ _).length; rw [List.length_append]; omega) r1
          | boolean =>
            refine va_newa (ty := .boolean) (a0 := (k, .inl (fun j => xs_i ρ (xe_get 3 [] j)))) hx hb (hts _ hL) rfl hK hP hD hS hA (fun cA => rfl) e1 e2 (by show k * 1 ≤ _; omega) (Nat.le_trans h1 hRm.1) (Nat.le_trans h2 hRm.2) hd (fun q cA H1 hK1 hP1 hD1 hS1 => ?_)
            have ea : cA = dA 3 := Option.some.inj ((hK1.2 4 (cA, .boolean) rfl).2.symm.trans (hK.2 3 _ rfl).2)
            subst ea
            obtain ⟨r1, r2⟩ := xs_pushed (st := st) (c2 := .inl (3, k, [])) hl hok hP1 hD1 hS1
            rw [← r2]
            exact kk _ ls H1 locs (xs_ad_ag h1) (by show w.length ≤ (w ++ _).length; rw [List.length_append]; omega) r1
          | _ => exact absurd h0 (by decide)
      · cases h
    · cases h
  | iaload =>
    have hn : len = 1 := hn
    subst hn
    change xe_iAldS G xe_Z mc ms pc 1 res al st w nc ns = some N at h
    unfold xe_iAldS at h
    split at h
    · next j u st =>
      split at h
      · next k hnn =>
        rw [xe_nth_eq] at h
        split at h
        · next v hv =>
          split at h
          · next hu =>
            subst hu
            cases h
            obtain ⟨e1, e2, e3⟩ := xs_nn_ok hnn
            obtain ⟨v1, v2⟩ := hG.2.2.2 k v hv
            have q := xs_on0 kk rfl hR
            simp only [List.map_cons, xs_num v1, v2] at q
            have hlt : sa 1 < s.heap.size := by
              obtain ⟨z, z1, -⟩ := hX.2.2.2.2.1
              exact (Array.getElem?_eq_some_iff.mp z1).1
            have hk : k < G.2.2.1.length := (List.getElem?_eq_some_iff.mp hv).1
            exact va_sld hx hb hX.2.2.2.2.1 hlt hX.2.2.2.2.2 hS (fun z => by rcases z with z | z; exact e1 z; exact absurd (show G.2.2.1.length ≤ k by rw [← e2]; exact z) (by omega)) hd (by rw [e2]; exact q)
          · cases h
        · cases h
      · cases h
    · unfold xe_iAld at h
      split at h
      · next j a st hz =>
        rw [xe_nth_eq] at h
        split at h
        · next ty n sp hc =>
          split at h
          · next k hnn =>
            cases hk : Nat.beq ty 1 && Nat.blt k n && xe_kd 0 (xe_get ty sp k) with
            | false => rw [hk] at h; cases h
            | true =>
              rw [hk] at h
              cases h
              simp only [Bool.and_eq_true] at hk
              obtain ⟨⟨h1, h2⟩, h3⟩ := hk
              have h1 := Nat.eq_of_beq_eq_true h1
              subst h1
              obtain ⟨e1, e2, e3⟩ := xs_nn_ok hnn
              have q := xs_on0 kk rfl hR
              simp only [List.map_cons, xs_num h3] at q
              have hlt : k < n := Nat.ble_eq.mp h2
              exact va_iald hx hb hK hP a 1 (xs_w_get ad sa ρ dA hc) rfl (fun z => by rcases z with z | z; exact e1 z; exact absurd (show n ≤ k by rw [← e2]; exact z) (by omega)) hd (by rw [e2]; exact q)
          · cases h
        · cases h
      · cases h
  | laload =>
    have hn : len = 1 := hn
    subst hn
    change xe_iAld 2 2 G xe_Z mc ms pc 1 res al st w nc ns = some N at h
    unfold xe_iAld at h
    split at h
    · next j a st =>
      rw [xe_nth_eq] at h
      split at h
      · next ty n sp hc =>
        split at h
        · next k hnn =>
          cases hk : Nat.beq ty 2 && Nat.blt k n && xe_kd 2 (xe_get ty sp k) with
          | false => rw [hk] at h; cases h
          | true =>
            rw [hk] at h
            cases h
            simp only [Bool.and_eq_true] at hk
            obtain ⟨⟨h1, h2⟩, h3⟩ := hk
            have h1 := Nat.eq_of_beq_eq_true h1
            subst h1
            obtain ⟨e1, e2, e3⟩ := xs_nn_ok hnn
            have q := xs_on0 kk rfl hR
            simp only [List.map_cons, xs_lng h3] at q
            have hlt : k < n := Nat.ble_eq.mp h2
            exact va_lald hx hb hK hP a 2 (xs_w_get ad sa ρ dA hc) rfl (fun z => by rcases z with z | z; exact e1 z; exact absurd (show n ≤ k by rw [← e2]; exact z) (by omega)) hd (by rw [e2]; exact q)
        · cases h
      · cases h
    · cases h
  | bastore =>
    have hn : len = 1 := hn
    subst hn
    change xe_iBst G xe_Z mc ms pc 1 res al st w nc ns = some N at h
    unfold xe_iBst at h
    split at h
    · next u j a st =>
      rw [xe_nth_eq] at h
      split at h
      · next ty n sp hc =>
        split at h
        · next k hnn =>
          cases hk : Nat.beq ty 0 && Nat.blt k n && decide (u ∈ G.2.2.2) with
          | false => rw [hk] at h; cases h
          | true =>
            rw [hk] at h
            cases h
            simp only [Bool.and_eq_true, decide_eq_true_eq] at hk
            obtain ⟨⟨h1, h2⟩, h3⟩ := hk
            have h1 := Nat.eq_of_beq_eq_true h1
            subst h1
            obtain ⟨e1, e2, e3⟩ := xs_nn_ok hnn
            have hlt : k < n := Nat.ble_eq.mp h2
            refine va_bast hx hb hK hP hD hS a 0 (xs_w_get ad sa ρ dA hc) rfl (fun z => by rcases z with z | z; exact e1 z; exact absurd (show n ≤ k by rw [← e2]; exact z) (by omega)) hd (fun H1 locs1 hP1 hD1 hS1 => ?_)
            rw [e2, hG.2.2.1 u h3, xs_upd0 ρ sp k u] at hP1 hD1
            have e4 := xs_w_set ad sa ρ dA w a (.inl (0, n, xe_put 0 sp k (.retAddr u)))
            rw [← xe_set_eq w] at e4
            exact kk ad ls H1 locs1 (xs_ag_rf _ _ _) (xs_len_set _ _ _) ⟨hl, by show va_P D vwCl (xs_w ad sa ρ dA (xe_set w _ a)) H1; rw [← e4]; exact hP1, by show va_D A (xs_w ad sa ρ dA (xe_set w _ a)); rw [← e4]; exact hD1, hS1⟩
        · cases h
      · cases h
    · cases h
  | iastore =>
    have hn : len = 1 := hn
    subst hn
    change xe_iAst 1 0 G xe_Z mc ms pc 1 res al st w nc ns = some N at h
    unfold xe_iAst at h
    split at h
    · next v j a st =>
      rw [xe_nth_eq] at h
      split at h
      · next ty n sp hc =>
        split at h
        · next k hnn =>
          cases hk : Nat.beq ty 1 && Nat.blt k n && xe_kd 0 v with
          | false => rw [hk] at h; cases h
          | true =>
            rw [hk] at h
            cases h
            simp only [Bool.and_eq_true] at hk
            obtain ⟨⟨h1, h2⟩, h3⟩ := hk
            have h1 := Nat.eq_of_beq_eq_true h1
            subst h1
            obtain ⟨e1, e2, e3⟩ := xs_nn_ok hnn
            have hlt : k < n := Nat.ble_eq.mp h2
            rw [List.map_cons, xs_num h3]
            refine va_iast hx hb hK hP hD hS a 1 (xs_w_get ad sa ρ dA hc) rfl (fun z => by rcases z with z | z; exact e1 z; exact absurd (show n ≤ k by rw [← e2]; exact z) (by omega)) hd (fun H1 locs1 hP1 hD1 hS1 => ?_)
            rw [e2, xs_upd ρ sp k v] at hP1 hD1
            have e4 := xs_w_set ad sa ρ dA w a (.inl (1, n, xe_put 1 sp k v))
            rw [← xe_set_eq w] at e4
            exact kk ad ls H1 locs1 (xs_ag_rf _ _ _) (xs_len_set _ _ _) ⟨hl, by show va_P D vwCl (xs_w ad sa ρ dA (xe_set w _ a)) H1; rw [← e4]; exact hP1, by show va_D A (xs_w ad sa ρ dA (xe_set w _ a)); rw [← e4]; exact hD1, hS1⟩
        · cases h
      · cases h
    · cases h
  | lastore =>
    have hn : len = 1 := hn
    subst hn
    change xe_iAst 2 2 G xe_Z mc ms pc 1 res al st w nc ns = some N at h
    unfold xe_iAst at h
    split at h
    · next v j a st =>
      rw [xe_nth_eq] at h
      split at h
      · next ty n sp hc =>
        split at h
        · next k hnn =>
          cases hk : Nat.beq ty 2 && Nat.blt k n && xe_kd 2 v with
          | false => rw [hk] at h; cases h
          | true =>
            rw [hk] at h
            cases h
            simp only [Bool.and_eq_true] at hk
            obtain ⟨⟨h1, h2⟩, h3⟩ := hk
            have h1 := Nat.eq_of_beq_eq_true h1
            subst h1
            obtain ⟨e1, e2, e3⟩ := xs_nn_ok hnn
            have hlt : k < n := Nat.ble_eq.mp h2
            rw [List.map_cons, xs_lng h3]
            refine va_last hx hb hK hP hD hS a 2 (xs_w_get ad sa ρ dA hc) rfl (fun z => by rcases z with z | z; exact e1 z; exact absurd (show n ≤ k by rw [← e2]; exact z) (by omega)) hd (fun H1 locs1 hP1 hD1 hS1 => ?_)
            rw [e2, xs_updL sp k v] at hP1 hD1
            have e4 := xs_w_set ad sa ρ dA w a (.inl (2, n, xe_put 2 sp k v))
            rw [← xe_set_eq w] at e4
            exact kk ad ls H1 locs1 (xs_ag_rf _ _ _) (xs_len_set _ _ _) ⟨hl, by show va_P D vwCl (xs_w ad sa ρ dA (xe_set w _ a)) H1; rw [← e4]; exact hP1, by show va_D A (xs_w ad sa ρ dA (xe_set w _ a)); rw [← e4]; exact hD1, hS1⟩
        · cases h
      · cases h
    · cases h
  | arraylength =>
    have hn : len = 1 := hn
    subst hn
    change xe_iLen G xe_Z mc ms pc 1 res al st w nc ns = some N at h
    unfold xe_iLen at h
    split at h
    · next a st =>
      rw [xe_nth_eq] at h
      split at h
      · next ty n sp hc =>
        cases hk : Nat.blt ty 4 with
        | false => rw [hk] at h; cases h
        | true =>
          rw [hk] at h
          cases h
          obtain ⟨fty, hft⟩ := xs_tys_at dA hk
          exact va_alen hx hb hK hP a ty (xs_w_get ad sa ρ dA hc) hft rfl hd (xs_on0 kk rfl hR)
      · cases h
    · next u st =>
      split at h
      · next hu =>
        subst hu
        cases h
        exact va_slen hx hb hX.2.1.1 (Array.getElem?_eq_some_iff.mp hX.2.1.2.2.choose_spec.1).1 hX.2.1.2.1 hS hd (xs_on0 kk rfl hR)
      · split at h
        · next hu =>
          subst hu
          cases h
          have hlt : sa 1 < s.heap.size := by
            obtain ⟨z, z1, -⟩ := hX.2.2.2.2.1
            exact (Array.getElem?_eq_some_iff.mp z1).1
          exact va_slen hx hb hX.2.2.2.2.1 hlt hX.2.2.2.2.2 hS hd (xs_on0 kk rfl hR)
        · cases h
    · cases h
  | getstatic idx =>
    have hn : len = 3 := hn
    subst hn
    change some _ = some N at h
    cases h
    obtain ⟨rfl, rfl⟩ := hL
    exact va_getsN hx hb hX.1 hS hown (va_Nw.use rfl hNw.1) (fun _ z => z) hd (xs_on0 kk rfl hR)
  | _ => cases (show (none : Option xe_N) = some N from h)
end
