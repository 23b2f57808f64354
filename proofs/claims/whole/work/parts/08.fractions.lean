/-! PaperStorm$Fractions.clear()V X5_clear -/
abbrev rm_X5_clear : Room := { frames := 0, cells := 0, slots := 0, locals := 0 }
theorem in_X5_clear_X5 : ∀ w ∈ wsX50, w ∈ wsX5_clear := by decide +kernel
theorem lk_X5_clear_15 : Cond.fieldLink RX5 15 "PaperStorm$Fractions" "denominators" "[J" ∈ wsX5_clear := by decide +kernel
theorem lk_X5_clear_9 : Cond.fieldLink RX5 9 "PaperStorm$Fractions" "numerators" "[J" ∈ wsX5_clear := by decide +kernel
noncomputable def f_X5_clear_2 (z27 : (Nat → Int64) → (Nat → Int64) → Option ((Nat → Int64) × (Nat → Int64))) : Nat → Int32 → (Nat → Int64) → (Nat → Int64) → Option ((Nat → Int64) × (Nat → Int64))
  | 0, _, _, _ => none
  | n + 1, l1_2, x_numerators_2, x_denominators_2 => if 4 ≤ l1_2 then z27 x_numerators_2 x_denominators_2 else if l1_2 < 0 ∨ 4 ≤ l1_2.toNatClampNeg then none else f_X5_clear_2 z27 n (l1_2 + 1) (vp_updL x_numerators_2 l1_2.toNatClampNeg 0) (vp_updL x_denominators_2 l1_2.toNatClampNeg 1)
noncomputable def f_X5_clear (x_numerators : Nat → Int64) (x_denominators : Nat → Int64) : Option ((Nat → Int64) × (Nat → Int64)) :=
  f_X5_clear_2 (fun x_numerators_27e x_denominators_27e => some (x_numerators_27e, x_denominators_27e)) 1000 0 x_numerators x_denominators
abbrev G_X5_clear (p : Program) (l : Launch) (e : Env) (s : State) (m : MethodId) (args : Array Value) (below : List Frame) (meth : Method) (c : Code) (g : GE) (A : Nat → Prop) (h0 h1 h2 : Nat) (res : (Nat → Int64) × (Nat → Int64)) (H : Heap) (locs : List Loc) (pc : Nat) (ls : Array Slot) (st : List Value) : Prop := W p l e (headSpec wsX5_clear rm_X5_clear).room s m args below meth c H locs 0 0 (MQ below (PoV g A (w_X5 g h0 h1 h2 res.1 res.2)) args s 0 0 A) (F0 m pc ls st)
set_option maxHeartbeats 4000000 in
set_option maxRecDepth 100000 in
theorem k_X5_clear_2 {p : Program} {l : Launch} {e : Env} {s : State} {m : MethodId} {args : Array Value} {below : List Frame} {meth : Method} {c : Code} {g : GE} {A : Nat → Prop} {h0 h1 h2 : Nat} {res : (Nat → Int64) × (Nat → Int64)} {z27 : (Nat → Int64) → (Nat → Int64) → Option ((Nat → Int64) × (Nat → Int64))}
    (E : En cX5_clear RX5 wsX5_clear 2 none p s m args meth c) (hK : KK g s) (hA : ∀ q, s.heap.size ≤ q → A q)
    (hz27 : ∀ (x_numerators_27e : Nat → Int64) (x_denominators_27e : Nat → Int64) (H : Heap) (locs : List Loc) (ls : Array Slot), z27 x_numerators_27e x_denominators_27e = some res → Wo g A s H locs (w_X5 g h0 h1 h2 x_numerators_27e x_denominators_27e) → lv_has ls 2 [] → G_X5_clear p l e s m args below meth c g A h0 h1 h2 res H locs 27 ls [])
    : ∀ (n : Nat) (l1_2 : Int32) (x_numerators_2 : Nat → Int64) (x_denominators_2 : Nat → Int64) (H : Heap) (locs : List Loc) (ls : Array Slot), f_X5_clear_2 z27 n l1_2 x_numerators_2 x_denominators_2 = some res → Wo g A s H locs (w_X5 g h0 h1 h2 x_numerators_2 x_denominators_2) → lv_has ls 2 [(0, .ref h0), (1, .int l1_2)] → G_X5_clear p l e s m args below meth c g A h0 h1 h2 res H locs 2 ls [] := by
  have hts := E.2.2.2.1
  intro n
  induction n with
  | zero => intro l1_2 x_numerators_2 x_denominators_2 H locs ls h hW hl; rw [f_X5_clear_2] at h; cases h
  | succ n ih =>
    intro l1_2 x_numerators_2 x_denominators_2 H locs ls h hW hl
    rw [f_X5_clear_2] at h
    refine lv_iload_n E.1 E.2.1 dX5_clear_2 rfl (lv_at hl 1 rfl) ?_
    refine lv_iconst (v := 4) E.1 E.2.1 dX5_clear_3 (by decide) ?_
    refine lv_icmp_ge (tgt := 27) E.1 E.2.1 dX5_clear_4 (by decide) (fun c4 => ?_) (fun c4 => ?_)
    · have h := it c4 h
      exact hz27 x_numerators_2 x_denominators_2 H locs ls h hW (lv_sub hl [] rfl)
    · have h := ie c4 h
      refine lv_aload_n E.1 E.2.1 dX5_clear_7 rfl (lv_at hl 0 rfl) ?_
      refine wGet (v := .ref h1) E hK in_X5_clear_X5 hW 0 lk_X5_clear_9 0 rfl rfl (by decide) rfl rfl dX5_clear_8 ?_
      refine lv_iload_n E.1 E.2.1 dX5_clear_11 rfl (lv_at hl 1 rfl) ?_
      refine lv_lconst (v := 0) E.1 E.2.1 dX5_clear_12 (by decide) ?_
      obtain ⟨hi13, h⟩ := ox h
      refine wLast (world' := (w_X5 g h0 h1 h2 (vp_updL x_numerators_2 l1_2.toNatClampNeg 0) x_denominators_2)) E hK hW 1 rfl hi13 dX5_clear_13 rfl (fun H locs hW => ?_)
      refine lv_aload_n E.1 E.2.1 dX5_clear_14 rfl (lv_at hl 0 rfl) ?_
      refine wGet (v := .ref h2) E hK in_X5_clear_X5 hW 1 lk_X5_clear_15 0 rfl rfl (by decide) rfl rfl dX5_clear_15 ?_
      refine lv_iload_n E.1 E.2.1 dX5_clear_18 rfl (lv_at hl 1 rfl) ?_
      refine lv_lconst (v := 1) E.1 E.2.1 dX5_clear_19 (by decide) ?_
      refine wLast (world' := (w_X5 g h0 h1 h2 (vp_updL x_numerators_2 l1_2.toNatClampNeg 0) (vp_updL x_denominators_2 l1_2.toNatClampNeg 1))) E hK hW 2 rfl hi13 dX5_clear_20 rfl (fun H locs hW => ?_)
      refine lv_iinc (v := (l1_2 + 1)) (lv' := [(1, .int (l1_2 + 1)), (0, .ref h0)]) E.1 E.2.1 dX5_clear_21 hl (k := 1) rfl rfl (by decide) rfl (fun ls hl => ?_)
      refine lv_goto (tgt := 2) E.1 E.2.1 dX5_clear_24 (by decide) ?_
      exact ih (l1_2 + 1) (vp_updL x_numerators_2 l1_2.toNatClampNeg 0) (vp_updL x_denominators_2 l1_2.toNatClampNeg 1) H locs ls h hW (lv_sub hl [1, 0] rfl)
set_option maxHeartbeats 4000000 in
set_option maxRecDepth 100000 in
theorem k_X5_clear_0 {p : Program} {l : Launch} {e : Env} {s : State} {m : MethodId} {args : Array Value} {below : List Frame} {meth : Method} {c : Code} {g : GE} {A : Nat → Prop} {h0 h1 h2 : Nat} {x_numerators : Nat → Int64} {x_denominators : Nat → Int64} {res : (Nat → Int64) × (Nat → Int64)} {H : Heap} {locs : List Loc} {ls : Array Slot} 
    (E : En cX5_clear RX5 wsX5_clear 2 none p s m args meth c) (hK : KK g s) (hA : ∀ q, s.heap.size ≤ q → A q) (h : f_X5_clear x_numerators x_denominators = some res) (hW : Wo g A s H locs (w_X5 g h0 h1 h2 x_numerators x_denominators)) (hl : lv_has ls 2 [(0, .ref h0)]) : G_X5_clear p l e s m args below meth c g A h0 h1 h2 res H locs 0 ls [] := by
  have hts := E.2.2.2.1
  unfold f_X5_clear at h
  refine lv_iconst (v := 0) E.1 E.2.1 dX5_clear_0 (by decide) ?_
  refine lv_istore_n (lv' := [(1, .int 0), (0, .ref h0)]) E.1 E.2.1 dX5_clear_1 rfl hl (by decide) rfl (fun ls hl => ?_)
  refine k_X5_clear_2 E hK hA ?_ 1000 0 x_numerators x_denominators H locs ls h hW (lv_sub hl [1, 0] rfl)
  · intro x_numerators_27e x_denominators_27e H locs ls h hW hl
    obtain rfl := Option.some.inj h
    exact endV E hW dX5_clear_27
theorem c_X5_clear (l : Launch) (g : GE) (h0 h1 h2 : Nat) (x_numerators : Nat → Int64) (x_denominators : Nat → Int64) {res : (Nat → Int64) × (Nat → Int64)} (hf : f_X5_clear x_numerators x_denominators = some res) : CV l yX5_clear wsX5_clear rm_X5_clear g [.ref h0] (w_X5 g h0 h1 h2 x_numerators x_denominators) (w_X5 g h0 h1 h2 res.1 res.2) :=
  mkV (cc := cX5_clear) (maxL := 2) (by decide) rfl (Nat.le_of_ble_eq_true rfl) (fun p e s m args below meth c A H locs ls E hK hA hW hl => k_X5_clear_0 E hK hA hf hW hl)

/-! PaperStorm$Fractions.copyFrom(LPaperStorm$Fractions;)V X5_copyFrom -/
abbrev rm_X5_copyFrom : Room := { frames := 0, cells := 0, slots := 0, locals := 0 }
theorem in_X5_copyFrom_X5 : ∀ w ∈ wsX50, w ∈ wsX5_copyFrom := by decide +kernel
theorem lk_X5_copyFrom_15 : Cond.fieldLink RX5 15 "PaperStorm$Fractions" "denominators" "[J" ∈ wsX5_copyFrom := by decide +kernel
theorem lk_X5_copyFrom_9 : Cond.fieldLink RX5 9 "PaperStorm$Fractions" "numerators" "[J" ∈ wsX5_copyFrom := by decide +kernel
noncomputable def f_X5_copyFrom_2 (x_a1_numerators : Nat → Int64) (x_a1_denominators : Nat → Int64) (z37 : (Nat → Int64) → (Nat → Int64) → Option ((Nat → Int64) × (Nat → Int64))) : Nat → Int32 → (Nat → Int64) → (Nat → Int64) → Option ((Nat → Int64) × (Nat → Int64))
  | 0, _, _, _ => none
  | n + 1, l2_2, x_numerators_2, x_denominators_2 => if 4 ≤ l2_2 then z37 x_numerators_2 x_denominators_2 else if l2_2 < 0 ∨ 4 ≤ l2_2.toNatClampNeg then none else f_X5_copyFrom_2 x_a1_numerators x_a1_denominators z37 n (l2_2 + 1) (vp_updL x_numerators_2 l2_2.toNatClampNeg (x_a1_numerators l2_2.toNatClampNeg)) (vp_updL x_denominators_2 l2_2.toNatClampNeg (x_a1_denominators l2_2.toNatClampNeg))
noncomputable def f_X5_copyFrom (x_numerators : Nat → Int64) (x_denominators : Nat → Int64) (x_a1_numerators : Nat → Int64) (x_a1_denominators : Nat → Int64) : Option ((Nat → Int64) × (Nat → Int64)) :=
  f_X5_copyFrom_2 x_a1_numerators x_a1_denominators (fun x_numerators_37e x_denominators_37e => some (x_numerators_37e, x_denominators_37e)) 1000 0 x_numerators x_denominators
abbrev G_X5_copyFrom (p : Program) (l : Launch) (e : Env) (s : State) (m : MethodId) (args : Array Value) (below : List Frame) (meth : Method) (c : Code) (g : GE) (A : Nat → Prop) (h0 h1 h2 h3 h4 h5 : Nat) (x_a1_numerators : Nat → Int64) (x_a1_denominators : Nat → Int64) (res : (Nat → Int64) × (Nat → Int64)) (H : Heap) (locs : List Loc) (pc : Nat) (ls : Array Slot) (st : List Value) : Prop := W p l e (headSpec wsX5_copyFrom rm_X5_copyFrom).room s m args below meth c H locs 0 0 (MQ below (PoV g A ((w_X5 g h0 h1 h2 res.1 res.2) ++ (w_X5 g h3 h4 h5 x_a1_numerators x_a1_denominators))) args s 0 0 A) (F0 m pc ls st)
set_option maxHeartbeats 4000000 in
set_option maxRecDepth 100000 in
theorem k_X5_copyFrom_2 {p : Program} {l : Launch} {e : Env} {s : State} {m : MethodId} {args : Array Value} {below : List Frame} {meth : Method} {c : Code} {g : GE} {A : Nat → Prop} {h0 h1 h2 h3 h4 h5 : Nat} {x_a1_numerators : Nat → Int64} {x_a1_denominators : Nat → Int64} {res : (Nat → Int64) × (Nat → Int64)} {z37 : (Nat → Int64) → (Nat → Int64) → Option ((Nat → Int64) × (Nat → Int64))}
    (E : En cX5_copyFrom RX5 wsX5_copyFrom 3 none p s m args meth c) (hK : KK g s) (hA : ∀ q, s.heap.size ≤ q → A q)
    (hz37 : ∀ (x_numerators_37e : Nat → Int64) (x_denominators_37e : Nat → Int64) (H : Heap) (locs : List Loc) (ls : Array Slot), z37 x_numerators_37e x_denominators_37e = some res → Wo g A s H locs ((w_X5 g h0 h1 h2 x_numerators_37e x_denominators_37e) ++ (w_X5 g h3 h4 h5 x_a1_numerators x_a1_denominators)) → lv_has ls 3 [] → G_X5_copyFrom p l e s m args below meth c g A h0 h1 h2 h3 h4 h5 x_a1_numerators x_a1_denominators res H locs 37 ls [])
    : ∀ (n : Nat) (l2_2 : Int32) (x_numerators_2 : Nat → Int64) (x_denominators_2 : Nat → Int64) (H : Heap) (locs : List Loc) (ls : Array Slot), f_X5_copyFrom_2 x_a1_numerators x_a1_denominators z37 n l2_2 x_numerators_2 x_denominators_2 = some res → Wo g A s H locs ((w_X5 g h0 h1 h2 x_numerators_2 x_denominators_2) ++ (w_X5 g h3 h4 h5 x_a1_numerators x_a1_denominators)) → lv_has ls 3 [(0, .ref h0), (1, .ref h3), (2, .int l2_2)] → G_X5_copyFrom p l e s m args below meth c g A h0 h1 h2 h3 h4 h5 x_a1_numerators x_a1_denominators res H locs 2 ls [] := by
  have hts := E.2.2.2.1
  intro n
  induction n with
  | zero => intro l2_2 x_numerators_2 x_denominators_2 H locs ls h hW hl; rw [f_X5_copyFrom_2] at h; cases h
  | succ n ih =>
    intro l2_2 x_numerators_2 x_denominators_2 H locs ls h hW hl
    rw [f_X5_copyFrom_2] at h
    refine lv_iload_n E.1 E.2.1 dX5_copyFrom_2 rfl (lv_at hl 2 rfl) ?_
    refine lv_iconst (v := 4) E.1 E.2.1 dX5_copyFrom_3 (by decide) ?_
    refine lv_icmp_ge (tgt := 37) E.1 E.2.1 dX5_copyFrom_4 (by decide) (fun c4 => ?_) (fun c4 => ?_)
    · have h := it c4 h
      exact hz37 x_numerators_2 x_denominators_2 H locs ls h hW (lv_sub hl [] rfl)
    · have h := ie c4 h
      refine lv_aload_n E.1 E.2.1 dX5_copyFrom_7 rfl (lv_at hl 0 rfl) ?_
      refine wGet (v := .ref h1) E hK in_X5_copyFrom_X5 hW 0 lk_X5_copyFrom_9 0 rfl rfl (by decide) rfl rfl dX5_copyFrom_8 ?_
      refine lv_iload_n E.1 E.2.1 dX5_copyFrom_11 rfl (lv_at hl 2 rfl) ?_
      refine lv_aload_n E.1 E.2.1 dX5_copyFrom_12 rfl (lv_at hl 1 rfl) ?_
      refine wGet (v := .ref h4) E hK in_X5_copyFrom_X5 hW 0 lk_X5_copyFrom_9 3 rfl rfl (by decide) rfl rfl dX5_copyFrom_13 ?_
      refine lv_iload_n E.1 E.2.1 dX5_copyFrom_16 rfl (lv_at hl 2 rfl) ?_
      obtain ⟨hi17, h⟩ := ox h
      refine wLald E hK hW 4 rfl hi17 dX5_copyFrom_17 ?_
      refine wLast (world' := ((w_X5 g h0 h1 h2 (vp_updL x_numerators_2 l2_2.toNatClampNeg (x_a1_numerators l2_2.toNatClampNeg)) x_denominators_2) ++ (w_X5 g h3 h4 h5 x_a1_numerators x_a1_denominators))) E hK hW 1 rfl hi17 dX5_copyFrom_18 rfl (fun H locs hW => ?_)
      refine lv_aload_n E.1 E.2.1 dX5_copyFrom_19 rfl (lv_at hl 0 rfl) ?_
      refine wGet (v := .ref h2) E hK in_X5_copyFrom_X5 hW 1 lk_X5_copyFrom_15 0 rfl rfl (by decide) rfl rfl dX5_copyFrom_20 ?_
      refine lv_iload_n E.1 E.2.1 dX5_copyFrom_23 rfl (lv_at hl 2 rfl) ?_
      refine lv_aload_n E.1 E.2.1 dX5_copyFrom_24 rfl (lv_at hl 1 rfl) ?_
      refine wGet (v := .ref h5) E hK in_X5_copyFrom_X5 hW 1 lk_X5_copyFrom_15 3 rfl rfl (by decide) rfl rfl dX5_copyFrom_25 ?_
      refine lv_iload_n E.1 E.2.1 dX5_copyFrom_28 rfl (lv_at hl 2 rfl) ?_
      refine wLald E hK hW 5 rfl hi17 dX5_copyFrom_29 ?_
      refine wLast (world' := ((w_X5 g h0 h1 h2 (vp_updL x_numerators_2 l2_2.toNatClampNeg (x_a1_numerators l2_2.toNatClampNeg)) (vp_updL x_denominators_2 l2_2.toNatClampNeg (x_a1_denominators l2_2.toNatClampNeg))) ++ (w_X5 g h3 h4 h5 x_a1_numerators x_a1_denominators))) E hK hW 2 rfl hi17 dX5_copyFrom_30 rfl (fun H locs hW => ?_)
      refine lv_iinc (v := (l2_2 + 1)) (lv' := [(2, .int (l2_2 + 1)), (0, .ref h0), (1, .ref h3)]) E.1 E.2.1 dX5_copyFrom_31 hl (k := 2) rfl rfl (by decide) rfl (fun ls hl => ?_)
      refine lv_goto (tgt := 2) E.1 E.2.1 dX5_copyFrom_34 (by decide) ?_
      exact ih (l2_2 + 1) (vp_updL x_numerators_2 l2_2.toNatClampNeg (x_a1_numerators l2_2.toNatClampNeg)) (vp_updL x_denominators_2 l2_2.toNatClampNeg (x_a1_denominators l2_2.toNatClampNeg)) H locs ls h hW (lv_sub hl [1, 2, 0] rfl)
set_option maxHeartbeats 4000000 in
set_option maxRecDepth 100000 in
theorem k_X5_copyFrom_0 {p : Program} {l : Launch} {e : Env} {s : State} {m : MethodId} {args : Array Value} {below : List Frame} {meth : Method} {c : Code} {g : GE} {A : Nat → Prop} {h0 h1 h2 h3 h4 h5 : Nat} {x_numerators : Nat → Int64} {x_denominators : Nat → Int64} {x_a1_numerators : Nat → Int64} {x_a1_denominators : Nat → Int64} {res : (Nat → Int64) × (Nat → Int64)} {H : Heap} {locs : List Loc} {ls : Array Slot} 
    (E : En cX5_copyFrom RX5 wsX5_copyFrom 3 none p s m args meth c) (hK : KK g s) (hA : ∀ q, s.heap.size ≤ q → A q) (h : f_X5_copyFrom x_numerators x_denominators x_a1_numerators x_a1_denominators = some res) (hW : Wo g A s H locs ((w_X5 g h0 h1 h2 x_numerators x_denominators) ++ (w_X5 g h3 h4 h5 x_a1_numerators x_a1_denominators))) (hl : lv_has ls 3 [(0, .ref h0), (1, .ref h3)]) : G_X5_copyFrom p l e s m args below meth c g A h0 h1 h2 h3 h4 h5 x_a1_numerators x_a1_denominators res H locs 0 ls [] := by
  have hts := E.2.2.2.1
  unfold f_X5_copyFrom at h
  refine lv_iconst (v := 0) E.1 E.2.1 dX5_copyFrom_0 (by decide) ?_
  refine lv_istore_n (lv' := [(2, .int 0), (0, .ref h0), (1, .ref h3)]) E.1 E.2.1 dX5_copyFrom_1 rfl hl (by decide) rfl (fun ls hl => ?_)
  refine k_X5_copyFrom_2 E hK hA ?_ 1000 0 x_numerators x_denominators H locs ls h hW (lv_sub hl [1, 2, 0] rfl)
  · intro x_numerators_37e x_denominators_37e H locs ls h hW hl
    obtain rfl := Option.some.inj h
    exact endV E hW dX5_copyFrom_37
theorem c_X5_copyFrom (l : Launch) (g : GE) (h0 h1 h2 h3 h4 h5 : Nat) (x_numerators : Nat → Int64) (x_denominators : Nat → Int64) (x_a1_numerators : Nat → Int64) (x_a1_denominators : Nat → Int64) {res : (Nat → Int64) × (Nat → Int64)} (hf : f_X5_copyFrom x_numerators x_denominators x_a1_numerators x_a1_denominators = some res) : CV l yX5_copyFrom wsX5_copyFrom rm_X5_copyFrom g [.ref h0, .ref h3] ((w_X5 g h0 h1 h2 x_numerators x_denominators) ++ (w_X5 g h3 h4 h5 x_a1_numerators x_a1_denominators)) ((w_X5 g h0 h1 h2 res.1 res.2) ++ (w_X5 g h3 h4 h5 x_a1_numerators x_a1_denominators)) :=
  mkV (cc := cX5_copyFrom) (maxL := 3) (by decide) rfl (Nat.le_of_ble_eq_true rfl) (fun p e s m args below meth c A H locs ls E hK hA hW hl => k_X5_copyFrom_0 E hK hA hf hW hl)

/-! PaperStorm$Fractions.numerator(I)J X5_numerator -/
abbrev rm_X5_numerator : Room := { frames := 1, cells := 0, slots := 0, locals := 20 }
theorem in_X5_numerator_X5 : ∀ w ∈ wsX50, w ∈ wsX5_numerator := by decide +kernel
theorem lk_X5_numerator_9 : Cond.fieldLink RX5 9 "PaperStorm$Fractions" "numerators" "[J" ∈ wsX5_numerator := by decide +kernel
noncomputable def f_X5_numerator (x_numerators : Nat → Int64) (a1 : Int32) : Option (Int64) :=
  jo (fun (s0_17 : Int64) => some (s0_17)) (fun j17 => (f_X2_isWeather a1).bind fun r1 => if r1 = 0 then j17 0 else if a1 < 0 ∨ 4 ≤ a1.toNatClampNeg then none else j17 (x_numerators a1.toNatClampNeg))
abbrev G_X5_numerator (p : Program) (l : Launch) (e : Env) (s : State) (m : MethodId) (args : Array Value) (below : List Frame) (meth : Method) (c : Code) (g : GE) (A : Nat → Prop) (h0 h1 h2 : Nat) (x_numerators : Nat → Int64) (x_denominators : Nat → Int64) (res : Int64) (H : Heap) (locs : List Loc) (pc : Nat) (ls : Array Slot) (st : List Value) : Prop := W p l e (headSpec wsX5_numerator rm_X5_numerator).room s m args below meth c H locs 0 0 (MQ below (PoJ g A (w_X5 g h0 h1 h2 x_numerators x_denominators) res) args s 0 0 A) (F0 m pc ls st)
set_option maxHeartbeats 4000000 in
set_option maxRecDepth 100000 in
theorem k_X5_numerator_0 {p : Program} {l : Launch} {e : Env} {s : State} {m : MethodId} {args : Array Value} {below : List Frame} {meth : Method} {c : Code} {g : GE} {A : Nat → Prop} {h0 h1 h2 : Nat} {x_numerators : Nat → Int64} {x_denominators : Nat → Int64} {res : Int64} {H : Heap} {locs : List Loc} {ls : Array Slot} {a1 : Int32}
    (E : En cX5_numerator RX5 wsX5_numerator 2 (some .long) p s m args meth c) (hK : KK g s) (hA : ∀ q, s.heap.size ≤ q → A q) (h : f_X5_numerator x_numerators a1 = some res) (hW : Wo g A s H locs (w_X5 g h0 h1 h2 x_numerators x_denominators)) (hl : lv_has ls 2 [(0, .ref h0), (1, .int a1)]) : G_X5_numerator p l e s m args below meth c g A h0 h1 h2 x_numerators x_denominators res H locs 0 ls [] := by
  have hts := E.2.2.2.1
  unfold f_X5_numerator at h
  obtain ⟨j17, hj17, h⟩ := jox1 h
  have J17 : ∀ (s0_17 : Int64) (H : Heap) (locs : List Loc) (ls : Array Slot), j17 s0_17 = some res → Wo g A s H locs (w_X5 g h0 h1 h2 x_numerators x_denominators) → lv_has ls 2 [] → G_X5_numerator p l e s m args below meth c g A h0 h1 h2 x_numerators x_denominators res H locs 17 ls [.long s0_17] := by
    intro s0_17 H locs ls h hW hl
    rw [hj17] at h
    obtain rfl := Option.some.inj h
    exact endJ E hW dX5_numerator_17
  refine lv_iload_n E.1 E.2.1 dX5_numerator_0 rfl (lv_at hl 1 rfl) ?_
  obtain ⟨r1, hc, h⟩ := bx h
  refine goI (world' := (w_X5 g h0 h1 h2 x_numerators x_denominators)) hW hA (is := []) rfl (goS (rest := []) E hK hW [] rfl rfl (c_X2_isWeather l g a1 (hf := hc) H.size) (va_cwS 1 hts gX5_numerator_X2_isWeather rfl rfl rfl (by decide +kernel) ⟨Nat.le_of_ble_eq_true rfl, Nat.le_of_ble_eq_true rfl⟩) hl.1 rfl rfl (Nat.le_of_ble_eq_true rfl) dX5_numerator_1 ⟨Nat.zero_le _, Nat.zero_le _⟩) rfl rfl (fun H locs hW => ?_)
  refine lv_if_eq (tgt := 16) E.1 E.2.1 dX5_numerator_4 (by decide) (fun c4 => ?_) (fun c4 => ?_)
  · have h := it c4 h
    refine lv_lconst (v := 0) E.1 E.2.1 dX5_numerator_16 (by decide) ?_
    exact J17 0 H locs ls h hW (lv_sub hl [] rfl)
  · have h := ie c4 h
    refine lv_aload_n E.1 E.2.1 dX5_numerator_7 rfl (lv_at hl 0 rfl) ?_
    refine wGet (v := .ref h1) E hK in_X5_numerator_X5 hW 0 lk_X5_numerator_9 0 rfl rfl (by decide) rfl rfl dX5_numerator_8 ?_
    refine lv_iload_n E.1 E.2.1 dX5_numerator_11 rfl (lv_at hl 1 rfl) ?_
    obtain ⟨hi12, h⟩ := ox h
    refine wLald E hK hW 1 rfl hi12 dX5_numerator_12 ?_
    refine lv_goto (tgt := 17) E.1 E.2.1 dX5_numerator_13 (by decide) ?_
    exact J17 (x_numerators a1.toNatClampNeg) H locs ls h hW (lv_sub hl [] rfl)
theorem c_X5_numerator (l : Launch) (g : GE) (h0 h1 h2 : Nat) (x_numerators : Nat → Int64) (x_denominators : Nat → Int64) (a1 : Int32) {res : Int64} (hf : f_X5_numerator x_numerators a1 = some res) : CJ l yX5_numerator wsX5_numerator rm_X5_numerator g [.ref h0, .int a1] (w_X5 g h0 h1 h2 x_numerators x_denominators) (w_X5 g h0 h1 h2 x_numerators x_denominators) res :=
  mkJ (cc := cX5_numerator) (maxL := 2) (by decide) rfl (Nat.le_of_ble_eq_true rfl) (fun p e s m args below meth c A H locs ls E hK hA hW hl => k_X5_numerator_0 E hK hA hf hW hl)

/-! PaperStorm$Fractions.denominator(I)J X5_denominator -/
abbrev rm_X5_denominator : Room := { frames := 1, cells := 0, slots := 0, locals := 20 }
theorem in_X5_denominator_X5 : ∀ w ∈ wsX50, w ∈ wsX5_denominator := by decide +kernel
theorem lk_X5_denominator_15 : Cond.fieldLink RX5 15 "PaperStorm$Fractions" "denominators" "[J" ∈ wsX5_denominator := by decide +kernel
noncomputable def f_X5_denominator (x_denominators : Nat → Int64) (a1 : Int32) : Option (Int64) :=
  jo (fun (s0_17 : Int64) => some (s0_17)) (fun j17 => (f_X2_isWeather a1).bind fun r1 => if r1 = 0 then j17 1 else if a1 < 0 ∨ 4 ≤ a1.toNatClampNeg then none else j17 (x_denominators a1.toNatClampNeg))
abbrev G_X5_denominator (p : Program) (l : Launch) (e : Env) (s : State) (m : MethodId) (args : Array Value) (below : List Frame) (meth : Method) (c : Code) (g : GE) (A : Nat → Prop) (h0 h1 h2 : Nat) (x_numerators : Nat → Int64) (x_denominators : Nat → Int64) (res : Int64) (H : Heap) (locs : List Loc) (pc : Nat) (ls : Array Slot) (st : List Value) : Prop := W p l e (headSpec wsX5_denominator rm_X5_denominator).room s m args below meth c H locs 0 0 (MQ below (PoJ g A (w_X5 g h0 h1 h2 x_numerators x_denominators) res) args s 0 0 A) (F0 m pc ls st)
set_option maxHeartbeats 4000000 in
set_option maxRecDepth 100000 in
theorem k_X5_denominator_0 {p : Program} {l : Launch} {e : Env} {s : State} {m : MethodId} {args : Array Value} {below : List Frame} {meth : Method} {c : Code} {g : GE} {A : Nat → Prop} {h0 h1 h2 : Nat} {x_numerators : Nat → Int64} {x_denominators : Nat → Int64} {res : Int64} {H : Heap} {locs : List Loc} {ls : Array Slot} {a1 : Int32}
    (E : En cX5_denominator RX5 wsX5_denominator 2 (some .long) p s m args meth c) (hK : KK g s) (hA : ∀ q, s.heap.size ≤ q → A q) (h : f_X5_denominator x_denominators a1 = some res) (hW : Wo g A s H locs (w_X5 g h0 h1 h2 x_numerators x_denominators)) (hl : lv_has ls 2 [(0, .ref h0), (1, .int a1)]) : G_X5_denominator p l e s m args below meth c g A h0 h1 h2 x_numerators x_denominators res H locs 0 ls [] := by
  have hts := E.2.2.2.1
  unfold f_X5_denominator at h
  obtain ⟨j17, hj17, h⟩ := jox1 h
  have J17 : ∀ (s0_17 : Int64) (H : Heap) (locs : List Loc) (ls : Array Slot), j17 s0_17 = some res → Wo g A s H locs (w_X5 g h0 h1 h2 x_numerators x_denominators) → lv_has ls 2 [] → G_X5_denominator p l e s m args below meth c g A h0 h1 h2 x_numerators x_denominators res H locs 17 ls [.long s0_17] := by
    intro s0_17 H locs ls h hW hl
    rw [hj17] at h
    obtain rfl := Option.some.inj h
    exact endJ E hW dX5_denominator_17
  refine lv_iload_n E.1 E.2.1 dX5_denominator_0 rfl (lv_at hl 1 rfl) ?_
  obtain ⟨r1, hc, h⟩ := bx h
  refine goI (world' := (w_X5 g h0 h1 h2 x_numerators x_denominators)) hW hA (is := []) rfl (goS (rest := []) E hK hW [] rfl rfl (c_X2_isWeather l g a1 (hf := hc) H.size) (va_cwS 1 hts gX5_denominator_X2_isWeather rfl rfl rfl (by decide +kernel) ⟨Nat.le_of_ble_eq_true rfl, Nat.le_of_ble_eq_true rfl⟩) hl.1 rfl rfl (Nat.le_of_ble_eq_true rfl) dX5_denominator_1 ⟨Nat.zero_le _, Nat.zero_le _⟩) rfl rfl (fun H locs hW => ?_)
  refine lv_if_eq (tgt := 16) E.1 E.2.1 dX5_denominator_4 (by decide) (fun c4 => ?_) (fun c4 => ?_)
  · have h := it c4 h
    refine lv_lconst (v := 1) E.1 E.2.1 dX5_denominator_16 (by decide) ?_
    exact J17 1 H locs ls h hW (lv_sub hl [] rfl)
  · have h := ie c4 h
    refine lv_aload_n E.1 E.2.1 dX5_denominator_7 rfl (lv_at hl 0 rfl) ?_
    refine wGet (v := .ref h2) E hK in_X5_denominator_X5 hW 1 lk_X5_denominator_15 0 rfl rfl (by decide) rfl rfl dX5_denominator_8 ?_
    refine lv_iload_n E.1 E.2.1 dX5_denominator_11 rfl (lv_at hl 1 rfl) ?_
    obtain ⟨hi12, h⟩ := ox h
    refine wLald E hK hW 2 rfl hi12 dX5_denominator_12 ?_
    refine lv_goto (tgt := 17) E.1 E.2.1 dX5_denominator_13 (by decide) ?_
    exact J17 (x_denominators a1.toNatClampNeg) H locs ls h hW (lv_sub hl [] rfl)
theorem c_X5_denominator (l : Launch) (g : GE) (h0 h1 h2 : Nat) (x_numerators : Nat → Int64) (x_denominators : Nat → Int64) (a1 : Int32) {res : Int64} (hf : f_X5_denominator x_denominators a1 = some res) : CJ l yX5_denominator wsX5_denominator rm_X5_denominator g [.ref h0, .int a1] (w_X5 g h0 h1 h2 x_numerators x_denominators) (w_X5 g h0 h1 h2 x_numerators x_denominators) res :=
  mkJ (cc := cX5_denominator) (maxL := 2) (by decide) rfl (Nat.le_of_ble_eq_true rfl) (fun p e s m args below meth c A H locs ls E hK hA hW hl => k_X5_denominator_0 E hK hA hf hW hl)

/-! PaperStorm$Fractions.greatestDivisor(JJ)J X5_greatestDivisor -/
abbrev rm_X5_greatestDivisor : Room := { frames := 0, cells := 0, slots := 0, locals := 0 }
noncomputable def f_X5_greatestDivisor_9 (z44 : Int64 → Option (Int64)) : Nat → Int64 → Int64 → Int32 → Option (Int64)
  | 0, _, _, _ => none
  | n + 1, l4_9, l6_9, l8_9 => if 100 ≤ l8_9 then z44 l4_9 else if (lg_cmp l6_9 0) = 0 then z44 l4_9 else if l6_9 = 0 then none else f_X5_greatestDivisor_9 z44 n l6_9 (l4_9 - l4_9 / l6_9 * l6_9) (l8_9 + 1)
noncomputable def f_X5_greatestDivisor (a0 : Int64) (a2 : Int64) : Option (Int64) :=
  f_X5_greatestDivisor_9 (fun l4_44e => jo (fun (s0_57 : Int64) => some (s0_57)) (fun j57 => if (lg_cmp l4_44e 0) ≤ 0 then j57 1 else j57 l4_44e)) 1000 a0 a2 0
abbrev G_X5_greatestDivisor (p : Program) (l : Launch) (e : Env) (s : State) (m : MethodId) (args : Array Value) (below : List Frame) (meth : Method) (c : Code) (g : GE) (A : Nat → Prop) (res : Int64) (H : Heap) (locs : List Loc) (pc : Nat) (ls : Array Slot) (st : List Value) : Prop := W p l e (headSpec wsX5_greatestDivisor rm_X5_greatestDivisor).room s m args below meth c H locs 0 0 (MQ below (PoJ g A ([] : va_W) res) args s 0 0 A) (F0 m pc ls st)
set_option maxHeartbeats 4000000 in
set_option maxRecDepth 100000 in
theorem k_X5_greatestDivisor_9 {p : Program} {l : Launch} {e : Env} {s : State} {m : MethodId} {args : Array Value} {below : List Frame} {meth : Method} {c : Code} {g : GE} {A : Nat → Prop} {res : Int64} {z44 : Int64 → Option (Int64)}
    (E : En cX5_greatestDivisor RX5 wsX5_greatestDivisor 11 (some .long) p s m args meth c) (hK : KK g s) (hA : ∀ q, s.heap.size ≤ q → A q)
    (hz44 : ∀ (l4_44e : Int64) (H : Heap) (locs : List Loc) (ls : Array Slot), z44 l4_44e = some res → Wo g A s H locs ([] : va_W) → lv_has ls 11 [(4, .long l4_44e)] → G_X5_greatestDivisor p l e s m args below meth c g A res H locs 44 ls [])
    : ∀ (n : Nat) (l4_9 : Int64) (l6_9 : Int64) (l8_9 : Int32) (H : Heap) (locs : List Loc) (ls : Array Slot), f_X5_greatestDivisor_9 z44 n l4_9 l6_9 l8_9 = some res → Wo g A s H locs ([] : va_W) → lv_has ls 11 [(4, .long l4_9), (6, .long l6_9), (8, .int l8_9)] → G_X5_greatestDivisor p l e s m args below meth c g A res H locs 9 ls [] := by
  have hts := E.2.2.2.1
  intro n
  induction n with
  | zero => intro l4_9 l6_9 l8_9 H locs ls h hW hl; rw [f_X5_greatestDivisor_9] at h; cases h
  | succ n ih =>
    intro l4_9 l6_9 l8_9 H locs ls h hW hl
    rw [f_X5_greatestDivisor_9] at h
    refine lv_iload E.1 E.2.1 dX5_greatestDivisor_9 (lv_at hl 2 rfl) ?_
    refine lv_bipush (v := 100) E.1 E.2.1 dX5_greatestDivisor_11 (by decide) ?_
    refine lv_icmp_ge (tgt := 44) E.1 E.2.1 dX5_greatestDivisor_13 (by decide) (fun c13 => ?_) (fun c13 => ?_)
    · have h := it c13 h
      exact hz44 l4_9 H locs ls h hW (lv_sub hl [0] rfl)
    · have h := ie c13 h
      refine lv_lload E.1 E.2.1 dX5_greatestDivisor_16 (lv_at hl 1 rfl) ?_
      refine lv_lconst (v := 0) E.1 E.2.1 dX5_greatestDivisor_18 (by decide) ?_
      refine W.lcmp E.1 E.2.1 dX5_greatestDivisor_19 ?_
      refine lv_if_eq (tgt := 44) E.1 E.2.1 dX5_greatestDivisor_20 (by decide) (fun c20 => ?_) (fun c20 => ?_)
      · have h := it c20 h
        exact hz44 l4_9 H locs ls h hW (lv_sub hl [0] rfl)
      · have h := ie c20 h
        refine lv_lload E.1 E.2.1 dX5_greatestDivisor_23 (lv_at hl 0 rfl) ?_
        refine lv_lload E.1 E.2.1 dX5_greatestDivisor_25 (lv_at hl 1 rfl) ?_
        obtain ⟨hn27, h⟩ := ox h
        refine lv_lrem E.1 E.2.1 dX5_greatestDivisor_27 hn27 ?_
        refine lv_lstore (lv' := [(9, .long (l4_9 - l4_9 / l6_9 * l6_9)), (4, .long l4_9), (6, .long l6_9), (8, .int l8_9)]) E.1 E.2.1 dX5_greatestDivisor_28 hl (by decide) rfl (fun ls hl => ?_)
        refine lv_lload E.1 E.2.1 dX5_greatestDivisor_30 (lv_at hl 2 rfl) ?_
        refine lv_lstore (lv' := [(4, .long l6_9), (9, .long (l4_9 - l4_9 / l6_9 * l6_9)), (6, .long l6_9), (8, .int l8_9)]) E.1 E.2.1 dX5_greatestDivisor_32 hl (by decide) rfl (fun ls hl => ?_)
        refine lv_lload E.1 E.2.1 dX5_greatestDivisor_34 (lv_at hl 1 rfl) ?_
        refine lv_lstore (lv' := [(6, .long (l4_9 - l4_9 / l6_9 * l6_9)), (4, .long l6_9), (9, .long (l4_9 - l4_9 / l6_9 * l6_9)), (8, .int l8_9)]) E.1 E.2.1 dX5_greatestDivisor_36 hl (by decide) rfl (fun ls hl => ?_)
        refine lv_iinc (v := (l8_9 + 1)) (lv' := [(8, .int (l8_9 + 1)), (6, .long (l4_9 - l4_9 / l6_9 * l6_9)), (4, .long l6_9), (9, .long (l4_9 - l4_9 / l6_9 * l6_9))]) E.1 E.2.1 dX5_greatestDivisor_38 hl (k := 3) rfl rfl (by decide) rfl (fun ls hl => ?_)
        refine lv_goto (tgt := 9) E.1 E.2.1 dX5_greatestDivisor_41 (by decide) ?_
        exact ih l6_9 (l4_9 - l4_9 / l6_9 * l6_9) (l8_9 + 1) H locs ls h hW (lv_sub hl [2, 1, 0] rfl)
set_option maxHeartbeats 4000000 in
set_option maxRecDepth 100000 in
theorem k_X5_greatestDivisor_0 {p : Program} {l : Launch} {e : Env} {s : State} {m : MethodId} {args : Array Value} {below : List Frame} {meth : Method} {c : Code} {g : GE} {A : Nat → Prop} {res : Int64} {H : Heap} {locs : List Loc} {ls : Array Slot} {a0 : Int64} {a2 : Int64}
    (E : En cX5_greatestDivisor RX5 wsX5_greatestDivisor 11 (some .long) p s m args meth c) (hK : KK g s) (hA : ∀ q, s.heap.size ≤ q → A q) (h : f_X5_greatestDivisor a0 a2 = some res) (hW : Wo g A s H locs ([] : va_W)) (hl : lv_has ls 11 [(0, .long a0), (2, .long a2)]) : G_X5_greatestDivisor p l e s m args below meth c g A res H locs 0 ls [] := by
  have hts := E.2.2.2.1
  unfold f_X5_greatestDivisor at h
  refine lv_lload_n E.1 E.2.1 dX5_greatestDivisor_0 rfl (lv_at hl 0 rfl) ?_
  refine lv_lstore (lv' := [(4, .long a0), (0, .long a0), (2, .long a2)]) E.1 E.2.1 dX5_greatestDivisor_1 hl (by decide) rfl (fun ls hl => ?_)
  refine lv_lload_n E.1 E.2.1 dX5_greatestDivisor_3 rfl (lv_at hl 2 rfl) ?_
  refine lv_lstore (lv' := [(6, .long a2), (4, .long a0), (0, .long a0), (2, .long a2)]) E.1 E.2.1 dX5_greatestDivisor_4 hl (by decide) rfl (fun ls hl => ?_)
  refine lv_iconst (v := 0) E.1 E.2.1 dX5_greatestDivisor_6 (by decide) ?_
  refine lv_istore (lv' := [(8, .int 0), (6, .long a2), (4, .long a0), (0, .long a0), (2, .long a2)]) E.1 E.2.1 dX5_greatestDivisor_7 hl (by decide) rfl (fun ls hl => ?_)
  refine k_X5_greatestDivisor_9 E hK hA ?_ 1000 a0 a2 0 H locs ls h hW (lv_sub hl [2, 1, 0] rfl)
  · intro l4_44e H locs ls h hW hl
    obtain ⟨j57, hj57, h⟩ := jox1 h
    have J57 : ∀ (s0_57 : Int64) (H : Heap) (locs : List Loc) (ls : Array Slot), j57 s0_57 = some res → Wo g A s H locs ([] : va_W) → lv_has ls 11 [] → G_X5_greatestDivisor p l e s m args below meth c g A res H locs 57 ls [.long s0_57] := by
      intro s0_57 H locs ls h hW hl
      rw [hj57] at h
      obtain rfl := Option.some.inj h
      exact endJ E hW dX5_greatestDivisor_57
    refine lv_lload E.1 E.2.1 dX5_greatestDivisor_44 (lv_at hl 0 rfl) ?_
    refine lv_lconst (v := 0) E.1 E.2.1 dX5_greatestDivisor_46 (by decide) ?_
    refine W.lcmp E.1 E.2.1 dX5_greatestDivisor_47 ?_
    refine lv_if_le (tgt := 56) E.1 E.2.1 dX5_greatestDivisor_48 (by decide) (fun c48 => ?_) (fun c48 => ?_)
    · have h := it c48 h
      refine lv_lconst (v := 1) E.1 E.2.1 dX5_greatestDivisor_56 (by decide) ?_
      exact J57 1 H locs ls h hW (lv_sub hl [] rfl)
    · have h := ie c48 h
      refine lv_lload E.1 E.2.1 dX5_greatestDivisor_51 (lv_at hl 0 rfl) ?_
      refine lv_goto (tgt := 57) E.1 E.2.1 dX5_greatestDivisor_53 (by decide) ?_
      exact J57 l4_44e H locs ls h hW (lv_sub hl [] rfl)
theorem c_X5_greatestDivisor (l : Launch) (g : GE) (a0 : Int64) (a2 : Int64) {res : Int64} (hf : f_X5_greatestDivisor a0 a2 = some res) : CJ l yX5_greatestDivisor wsX5_greatestDivisor rm_X5_greatestDivisor g [.long a0, .long a2] ([] : va_W) ([] : va_W) res :=
  mkJ (cc := cX5_greatestDivisor) (maxL := 11) (by decide) rfl (Nat.le_of_ble_eq_true rfl) (fun p e s m args below meth c A H locs ls E hK hA hW hl => k_X5_greatestDivisor_0 E hK hA hf hW hl)

/-! PaperStorm$Fractions.add(IJJ)V X5_add -/
abbrev rm_X5_add : Room := { frames := 1, cells := 0, slots := 0, locals := 30 }
theorem in_X5_add_X5 : ∀ w ∈ wsX50, w ∈ wsX5_add := by decide +kernel
theorem lk_X5_add_15 : Cond.fieldLink RX5 15 "PaperStorm$Fractions" "denominators" "[J" ∈ wsX5_add := by decide +kernel
theorem lk_X5_add_9 : Cond.fieldLink RX5 9 "PaperStorm$Fractions" "numerators" "[J" ∈ wsX5_add := by decide +kernel
noncomputable def f_X5_add (x_numerators : Nat → Int64) (x_denominators : Nat → Int64) (a1 : Int32) (a2 : Int64) (a4 : Int64) : Option ((Nat → Int64) × (Nat → Int64)) :=
  jo (some (x_numerators, x_denominators)) (fun j13 => (f_X2_isWeather a1).bind fun r1 => if r1 = 0 then j13 else if (lg_cmp a2 0) = 0 then j13 else if a1 < 0 ∨ 4 ≤ a1.toNatClampNeg then none else (f_X5_greatestDivisor (x_denominators a1.toNatClampNeg) a4).bind fun r22 => if r22 = 0 then none else (f_X5_greatestDivisor (((x_numerators a1.toNatClampNeg) * (a4 / r22)) + (a2 * ((x_denominators a1.toNatClampNeg) / r22))) (((x_denominators a1.toNatClampNeg) / r22) * a4)).bind fun r72 => if r72 = 0 then none else some ((vp_updL x_numerators a1.toNatClampNeg ((((x_numerators a1.toNatClampNeg) * (a4 / r22)) + (a2 * ((x_denominators a1.toNatClampNeg) / r22))) / r72)), (vp_updL x_denominators a1.toNatClampNeg ((((x_denominators a1.toNatClampNeg) / r22) * a4) / r72))))
abbrev G_X5_add (p : Program) (l : Launch) (e : Env) (s : State) (m : MethodId) (args : Array Value) (below : List Frame) (meth : Method) (c : Code) (g : GE) (A : Nat → Prop) (h0 h1 h2 : Nat) (res : (Nat → Int64) × (Nat → Int64)) (H : Heap) (locs : List Loc) (pc : Nat) (ls : Array Slot) (st : List Value) : Prop := W p l e (headSpec wsX5_add rm_X5_add).room s m args below meth c H locs 0 0 (MQ below (PoV g A (w_X5 g h0 h1 h2 res.1 res.2)) args s 0 0 A) (F0 m pc ls st)
set_option maxHeartbeats 4000000 in
set_option maxRecDepth 100000 in
theorem k_X5_add_0 {p : Program} {l : Launch} {e : Env} {s : State} {m : MethodId} {args : Array Value} {below : List Frame} {meth : Method} {c : Code} {g : GE} {A : Nat → Prop} {h0 h1 h2 : Nat} {x_numerators : Nat → Int64} {x_denominators : Nat → Int64} {res : (Nat → Int64) × (Nat → Int64)} {H : Heap} {locs : List Loc} {ls : Array Slot} {a1 : Int32} {a2 : Int64} {a4 : Int64}
    (E : En cX5_add RX5 wsX5_add 18 none p s m args meth c) (hK : KK g s) (hA : ∀ q, s.heap.size ≤ q → A q) (h : f_X5_add x_numerators x_denominators a1 a2 a4 = some res) (hW : Wo g A s H locs (w_X5 g h0 h1 h2 x_numerators x_denominators)) (hl : lv_has ls 18 [(0, .ref h0), (1, .int a1), (2, .long a2), (4, .long a4)]) : G_X5_add p l e s m args below meth c g A h0 h1 h2 res H locs 0 ls [] := by
  have hts := E.2.2.2.1
  unfold f_X5_add at h
  obtain ⟨j13, hj13, h⟩ := jox0 h
  have J13 : ∀ (H : Heap) (locs : List Loc) (ls : Array Slot), j13 = some res → Wo g A s H locs (w_X5 g h0 h1 h2 x_numerators x_denominators) → lv_has ls 18 [] → G_X5_add p l e s m args below meth c g A h0 h1 h2 res H locs 13 ls [] := by
    intro H locs ls h hW hl
    rw [hj13] at h
    obtain rfl := Option.some.inj h
    exact endV E hW dX5_add_13
  refine lv_iload_n E.1 E.2.1 dX5_add_0 rfl (lv_at hl 1 rfl) ?_
  obtain ⟨r1, hc, h⟩ := bx h
  refine goI (world' := (w_X5 g h0 h1 h2 x_numerators x_denominators)) hW hA (is := []) rfl (goS (rest := []) E hK hW [] rfl rfl (c_X2_isWeather l g a1 (hf := hc) H.size) (va_cwS 1 hts gX5_add_X2_isWeather rfl rfl rfl (by decide +kernel) ⟨Nat.le_of_ble_eq_true rfl, Nat.le_of_ble_eq_true rfl⟩) hl.1 rfl rfl (Nat.le_of_ble_eq_true rfl) dX5_add_1 ⟨Nat.zero_le _, Nat.zero_le _⟩) rfl rfl (fun H locs hW => ?_)
  refine lv_if_eq (tgt := 13) E.1 E.2.1 dX5_add_4 (by decide) (fun c4 => ?_) (fun c4 => ?_)
  · have h := it c4 h
    exact J13  H locs ls h hW (lv_sub hl [] rfl)
  · have h := ie c4 h
    refine lv_lload_n E.1 E.2.1 dX5_add_7 rfl (lv_at hl 2 rfl) ?_
    refine lv_lconst (v := 0) E.1 E.2.1 dX5_add_8 (by decide) ?_
    refine W.lcmp E.1 E.2.1 dX5_add_9 ?_
    refine lv_if_ne (tgt := 14) E.1 E.2.1 dX5_add_10 (by decide) (fun c10 => ?_) (fun c10 => ?_)
    · have h := ie c10 h
      refine lv_aload_n E.1 E.2.1 dX5_add_14 rfl (lv_at hl 0 rfl) ?_
      refine wGet (v := .ref h2) E hK in_X5_add_X5 hW 1 lk_X5_add_15 0 rfl rfl (by decide) rfl rfl dX5_add_15 ?_
      refine lv_iload_n E.1 E.2.1 dX5_add_18 rfl (lv_at hl 1 rfl) ?_
      obtain ⟨hi19, h⟩ := ox h
      refine wLald E hK hW 2 rfl hi19 dX5_add_19 ?_
      refine lv_lload E.1 E.2.1 dX5_add_20 (lv_at hl 3 rfl) ?_
      obtain ⟨r22, hc, h⟩ := bx h
      refine goJ (world' := (w_X5 g h0 h1 h2 x_numerators x_denominators)) hW hA (is := []) rfl (goS (rest := []) E hK hW [] rfl rfl (c_X5_greatestDivisor l g (x_denominators a1.toNatClampNeg) a4 (hf := hc) H.size) (va_cwS 2 hts gX5_add_X5_greatestDivisor rfl rfl rfl (by decide +kernel) ⟨Nat.le_of_ble_eq_true rfl, Nat.le_of_ble_eq_true rfl⟩) hl.1 rfl rfl (Nat.le_of_ble_eq_true rfl) dX5_add_22 ⟨Nat.zero_le _, Nat.zero_le _⟩) rfl rfl (fun H locs hW => ?_)
      refine lv_lstore (lv' := [(6, .long r22), (0, .ref h0), (1, .int a1), (2, .long a2), (4, .long a4)]) E.1 E.2.1 dX5_add_25 hl (by decide) rfl (fun ls hl => ?_)
      refine lv_lload E.1 E.2.1 dX5_add_27 (lv_at hl 4 rfl) ?_
      refine lv_lload E.1 E.2.1 dX5_add_29 (lv_at hl 0 rfl) ?_
      obtain ⟨hn31, h⟩ := ox h
      refine lv_ldiv E.1 E.2.1 dX5_add_31 hn31 ?_
      refine lv_lstore (lv' := [(8, .long (a4 / r22)), (6, .long r22), (0, .ref h0), (1, .int a1), (2, .long a2), (4, .long a4)]) E.1 E.2.1 dX5_add_32 hl (by decide) rfl (fun ls hl => ?_)
      refine lv_aload_n E.1 E.2.1 dX5_add_34 rfl (lv_at hl 2 rfl) ?_
      refine wGet (v := .ref h2) E hK in_X5_add_X5 hW 1 lk_X5_add_15 0 rfl rfl (by decide) rfl rfl dX5_add_35 ?_
      refine lv_iload_n E.1 E.2.1 dX5_add_38 rfl (lv_at hl 3 rfl) ?_
      refine wLald E hK hW 2 rfl hi19 dX5_add_39 ?_
      refine lv_lload E.1 E.2.1 dX5_add_40 (lv_at hl 1 rfl) ?_
      refine lv_ldiv E.1 E.2.1 dX5_add_42 hn31 ?_
      refine lv_lstore (lv' := [(10, .long ((x_denominators a1.toNatClampNeg) / r22)), (8, .long (a4 / r22)), (6, .long r22), (0, .ref h0), (1, .int a1), (2, .long a2), (4, .long a4)]) E.1 E.2.1 dX5_add_43 hl (by decide) rfl (fun ls hl => ?_)
      refine lv_aload_n E.1 E.2.1 dX5_add_45 rfl (lv_at hl 3 rfl) ?_
      refine wGet (v := .ref h1) E hK in_X5_add_X5 hW 0 lk_X5_add_9 0 rfl rfl (by decide) rfl rfl dX5_add_46 ?_
      refine lv_iload_n E.1 E.2.1 dX5_add_49 rfl (lv_at hl 4 rfl) ?_
      refine wLald E hK hW 1 rfl hi19 dX5_add_50 ?_
      refine lv_lload E.1 E.2.1 dX5_add_51 (lv_at hl 1 rfl) ?_
      refine lv_lmul E.1 E.2.1 dX5_add_53 ?_
      refine lv_lload_n E.1 E.2.1 dX5_add_54 rfl (lv_at hl 5 rfl) ?_
      refine lv_lload E.1 E.2.1 dX5_add_55 (lv_at hl 0 rfl) ?_
      refine lv_lmul E.1 E.2.1 dX5_add_57 ?_
      refine lv_ladd E.1 E.2.1 dX5_add_58 ?_
      refine lv_lstore (lv' := [(12, .long (((x_numerators a1.toNatClampNeg) * (a4 / r22)) + (a2 * ((x_denominators a1.toNatClampNeg) / r22)))), (10, .long ((x_denominators a1.toNatClampNeg) / r22)), (8, .long (a4 / r22)), (6, .long r22), (0, .ref h0), (1, .int a1), (2, .long a2), (4, .long a4)]) E.1 E.2.1 dX5_add_59 hl (by decide) rfl (fun ls hl => ?_)
      refine lv_lload E.1 E.2.1 dX5_add_61 (lv_at hl 1 rfl) ?_
      refine lv_lload E.1 E.2.1 dX5_add_63 (lv_at hl 7 rfl) ?_
      refine lv_lmul E.1 E.2.1 dX5_add_65 ?_
      refine lv_lstore (lv' := [(14, .long (((x_denominators a1.toNatClampNeg) / r22) * a4)), (12, .long (((x_numerators a1.toNatClampNeg) * (a4 / r22)) + (a2 * ((x_denominators a1.toNatClampNeg) / r22)))), (10, .long ((x_denominators a1.toNatClampNeg) / r22)), (8, .long (a4 / r22)), (6, .long r22), (0, .ref h0), (1, .int a1), (2, .long a2), (4, .long a4)]) E.1 E.2.1 dX5_add_66 hl (by decide) rfl (fun ls hl => ?_)
      refine lv_lload E.1 E.2.1 dX5_add_68 (lv_at hl 1 rfl) ?_
      refine lv_lload E.1 E.2.1 dX5_add_70 (lv_at hl 0 rfl) ?_
      obtain ⟨r72, hc, h⟩ := bx h
      refine goJ (world' := (w_X5 g h0 h1 h2 x_numerators x_denominators)) hW hA (is := []) rfl (goS (rest := []) E hK hW [] rfl rfl (c_X5_greatestDivisor l g (((x_numerators a1.toNatClampNeg) * (a4 / r22)) + (a2 * ((x_denominators a1.toNatClampNeg) / r22))) (((x_denominators a1.toNatClampNeg) / r22) * a4) (hf := hc) H.size) (va_cwS 2 hts gX5_add_X5_greatestDivisor rfl rfl rfl (by decide +kernel) ⟨Nat.le_of_ble_eq_true rfl, Nat.le_of_ble_eq_true rfl⟩) hl.1 rfl rfl (Nat.le_of_ble_eq_true rfl) dX5_add_72 ⟨Nat.zero_le _, Nat.zero_le _⟩) rfl rfl (fun H locs hW => ?_)
      refine lv_lstore (lv' := [(16, .long r72), (14, .long (((x_denominators a1.toNatClampNeg) / r22) * a4)), (12, .long (((x_numerators a1.toNatClampNeg) * (a4 / r22)) + (a2 * ((x_denominators a1.toNatClampNeg) / r22)))), (10, .long ((x_denominators a1.toNatClampNeg) / r22)), (8, .long (a4 / r22)), (6, .long r22), (0, .ref h0), (1, .int a1), (2, .long a2), (4, .long a4)]) E.1 E.2.1 dX5_add_75 hl (by decide) rfl (fun ls hl => ?_)
      refine lv_aload_n E.1 E.2.1 dX5_add_77 rfl (lv_at hl 6 rfl) ?_
      refine wGet (v := .ref h1) E hK in_X5_add_X5 hW 0 lk_X5_add_9 0 rfl rfl (by decide) rfl rfl dX5_add_78 ?_
      refine lv_iload_n E.1 E.2.1 dX5_add_81 rfl (lv_at hl 7 rfl) ?_
      refine lv_lload E.1 E.2.1 dX5_add_82 (lv_at hl 2 rfl) ?_
      refine lv_lload E.1 E.2.1 dX5_add_84 (lv_at hl 0 rfl) ?_
      obtain ⟨hn86, h⟩ := ox h
      refine lv_ldiv E.1 E.2.1 dX5_add_86 hn86 ?_
      refine wLast (world' := (w_X5 g h0 h1 h2 (vp_updL x_numerators a1.toNatClampNeg ((((x_numerators a1.toNatClampNeg) * (a4 / r22)) + (a2 * ((x_denominators a1.toNatClampNeg) / r22))) / r72)) x_denominators)) E hK hW 1 rfl hi19 dX5_add_87 rfl (fun H locs hW => ?_)
      refine lv_aload_n E.1 E.2.1 dX5_add_88 rfl (lv_at hl 6 rfl) ?_
      refine wGet (v := .ref h2) E hK in_X5_add_X5 hW 1 lk_X5_add_15 0 rfl rfl (by decide) rfl rfl dX5_add_89 ?_
      refine lv_iload_n E.1 E.2.1 dX5_add_92 rfl (lv_at hl 7 rfl) ?_
      refine lv_lload E.1 E.2.1 dX5_add_93 (lv_at hl 1 rfl) ?_
      refine lv_lload E.1 E.2.1 dX5_add_95 (lv_at hl 0 rfl) ?_
      refine lv_ldiv E.1 E.2.1 dX5_add_97 hn86 ?_
      refine wLast (world' := (w_X5 g h0 h1 h2 (vp_updL x_numerators a1.toNatClampNeg ((((x_numerators a1.toNatClampNeg) * (a4 / r22)) + (a2 * ((x_denominators a1.toNatClampNeg) / r22))) / r72)) (vp_updL x_denominators a1.toNatClampNeg ((((x_denominators a1.toNatClampNeg) / r22) * a4) / r72)))) E hK hW 2 rfl hi19 dX5_add_98 rfl (fun H locs hW => ?_)
      obtain rfl := Option.some.inj h
      exact endV E hW dX5_add_99
    · have h := it c10 h
      exact J13  H locs ls h hW (lv_sub hl [] rfl)
theorem c_X5_add (l : Launch) (g : GE) (h0 h1 h2 : Nat) (x_numerators : Nat → Int64) (x_denominators : Nat → Int64) (a1 : Int32) (a2 : Int64) (a4 : Int64) {res : (Nat → Int64) × (Nat → Int64)} (hf : f_X5_add x_numerators x_denominators a1 a2 a4 = some res) : CV l yX5_add wsX5_add rm_X5_add g [.ref h0, .int a1, .long a2, .long a4] (w_X5 g h0 h1 h2 x_numerators x_denominators) (w_X5 g h0 h1 h2 res.1 res.2) :=
  mkV (cc := cX5_add) (maxL := 18) (by decide) rfl (Nat.le_of_ble_eq_true rfl) (fun p e s m args below meth c A H locs ls E hK hA hW hl => k_X5_add_0 E hK hA hf hW hl)

/-! PaperStorm$Fractions.greatest()I X5_greatest -/
abbrev rm_X5_greatest : Room := { frames := 2, cells := 0, slots := 0, locals := 41 }
theorem in_X5_greatest_X5 : ∀ w ∈ wsX50, w ∈ wsX5_greatest := by decide +kernel
theorem lk_X5_greatest_15 : Cond.fieldLink RX5 15 "PaperStorm$Fractions" "denominators" "[J" ∈ wsX5_greatest := by decide +kernel
theorem lk_X5_greatest_9 : Cond.fieldLink RX5 9 "PaperStorm$Fractions" "numerators" "[J" ∈ wsX5_greatest := by decide +kernel
noncomputable def f_X5_greatest_4 (x_numerators : Nat → Int64) (x_denominators : Nat → Int64) (z45 : Int32 → Option (Int32)) : Nat → Int32 → Int32 → Option (Int32)
  | 0, _, _ => none
  | n + 1, l1_4, l2_4 => if 4 ≤ l2_4 then z45 l1_4 else jo (fun (l1_39 : Int32) => f_X5_greatest_4 x_numerators x_denominators z45 n l1_39 (l2_4 + 1)) (fun j39 => if l2_4 < 0 ∨ 4 ≤ l2_4.toNatClampNeg then none else (f_X5_denominator x_denominators l1_4).bind fun r17 => (f_X5_numerator x_numerators l1_4).bind fun r23 => if (lg_cmp ((x_numerators l2_4.toNatClampNeg) * r17) (r23 * (x_denominators l2_4.toNatClampNeg))) ≤ 0 then j39 l1_4 else j39 l2_4)
noncomputable def f_X5_greatest (x_numerators : Nat → Int64) (x_denominators : Nat → Int64) : Option (Int32) :=
  f_X5_greatest_4 x_numerators x_denominators (fun l1_45e => some (l1_45e)) 1000 0 1
abbrev G_X5_greatest (p : Program) (l : Launch) (e : Env) (s : State) (m : MethodId) (args : Array Value) (below : List Frame) (meth : Method) (c : Code) (g : GE) (A : Nat → Prop) (h0 h1 h2 : Nat) (x_numerators : Nat → Int64) (x_denominators : Nat → Int64) (res : Int32) (H : Heap) (locs : List Loc) (pc : Nat) (ls : Array Slot) (st : List Value) : Prop := W p l e (headSpec wsX5_greatest rm_X5_greatest).room s m args below meth c H locs 0 0 (MQ below (PoI g A (w_X5 g h0 h1 h2 x_numerators x_denominators) res) args s 0 0 A) (F0 m pc ls st)
set_option maxHeartbeats 4000000 in
set_option maxRecDepth 100000 in
theorem k_X5_greatest_4 {p : Program} {l : Launch} {e : Env} {s : State} {m : MethodId} {args : Array Value} {below : List Frame} {meth : Method} {c : Code} {g : GE} {A : Nat → Prop} {h0 h1 h2 : Nat} {x_numerators : Nat → Int64} {x_denominators : Nat → Int64} {res : Int32} {z45 : Int32 → Option (Int32)}
    (E : En cX5_greatest RX5 wsX5_greatest 3 (some .int) p s m args meth c) (hK : KK g s) (hA : ∀ q, s.heap.size ≤ q → A q)
    (hz45 : ∀ (l1_45e : Int32) (H : Heap) (locs : List Loc) (ls : Array Slot), z45 l1_45e = some res → Wo g A s H locs (w_X5 g h0 h1 h2 x_numerators x_denominators) → lv_has ls 3 [(1, .int l1_45e)] → G_X5_greatest p l e s m args below meth c g A h0 h1 h2 x_numerators x_denominators res H locs 45 ls [])
    : ∀ (n : Nat) (l1_4 : Int32) (l2_4 : Int32) (H : Heap) (locs : List Loc) (ls : Array Slot), f_X5_greatest_4 x_numerators x_denominators z45 n l1_4 l2_4 = some res → Wo g A s H locs (w_X5 g h0 h1 h2 x_numerators x_denominators) → lv_has ls 3 [(0, .ref h0), (1, .int l1_4), (2, .int l2_4)] → G_X5_greatest p l e s m args below meth c g A h0 h1 h2 x_numerators x_denominators res H locs 4 ls [] := by
  have hts := E.2.2.2.1
  intro n
  induction n with
  | zero => intro l1_4 l2_4 H locs ls h hW hl; rw [f_X5_greatest_4] at h; cases h
  | succ n ih =>
    intro l1_4 l2_4 H locs ls h hW hl
    rw [f_X5_greatest_4] at h
    refine lv_iload_n E.1 E.2.1 dX5_greatest_4 rfl (lv_at hl 2 rfl) ?_
    refine lv_iconst (v := 4) E.1 E.2.1 dX5_greatest_5 (by decide) ?_
    refine lv_icmp_ge (tgt := 45) E.1 E.2.1 dX5_greatest_6 (by decide) (fun c6 => ?_) (fun c6 => ?_)
    · have h := it c6 h
      exact hz45 l1_4 H locs ls h hW (lv_sub hl [1] rfl)
    · have h := ie c6 h
      obtain ⟨j39, hj39, h⟩ := jox1 h
      have J39 : ∀ (l1_39 : Int32) (H : Heap) (locs : List Loc) (ls : Array Slot), j39 l1_39 = some res → Wo g A s H locs (w_X5 g h0 h1 h2 x_numerators x_denominators) → lv_has ls 3 [(0, .ref h0), (1, .int l1_39), (2, .int l2_4)] → G_X5_greatest p l e s m args below meth c g A h0 h1 h2 x_numerators x_denominators res H locs 39 ls [] := by
        intro l1_39 H locs ls h hW hl
        rw [hj39] at h
        refine lv_iinc (v := (l2_4 + 1)) (lv' := [(2, .int (l2_4 + 1)), (0, .ref h0), (1, .int l1_39)]) E.1 E.2.1 dX5_greatest_39 hl (k := 2) rfl rfl (by decide) rfl (fun ls hl => ?_)
        refine lv_goto (tgt := 4) E.1 E.2.1 dX5_greatest_42 (by decide) ?_
        exact ih l1_39 (l2_4 + 1) H locs ls h hW (lv_sub hl [1, 2, 0] rfl)
      refine lv_aload_n E.1 E.2.1 dX5_greatest_9 rfl (lv_at hl 0 rfl) ?_
      refine wGet (v := .ref h1) E hK in_X5_greatest_X5 hW 0 lk_X5_greatest_9 0 rfl rfl (by decide) rfl rfl dX5_greatest_10 ?_
      refine lv_iload_n E.1 E.2.1 dX5_greatest_13 rfl (lv_at hl 2 rfl) ?_
      obtain ⟨hi14, h⟩ := ox h
      refine wLald E hK hW 1 rfl hi14 dX5_greatest_14 ?_
      refine lv_aload_n E.1 E.2.1 dX5_greatest_15 rfl (lv_at hl 0 rfl) ?_
      refine lv_iload_n E.1 E.2.1 dX5_greatest_16 rfl (lv_at hl 1 rfl) ?_
      obtain ⟨r17, hc, h⟩ := bx h
      refine goJ (world' := (w_X5 g h0 h1 h2 x_numerators x_denominators)) hW hA (is := [0, 1, 2]) rfl (goV (rest := [.long (x_numerators l2_4.toNatClampNeg)]) E hK hW [0, 1, 2] rfl rfl (c_X5_denominator l g h0 h1 h2 x_numerators x_denominators l1_4 (hf := hc) H.size) (cwV 1 hts gX5_greatest_X5_denominator rfl rfl rfl (by decide +kernel) ⟨Nat.le_of_ble_eq_true rfl, Nat.le_of_ble_eq_true rfl⟩) 0 rfl rfl rfl hl.1 rfl rfl (Nat.le_of_ble_eq_true rfl) dX5_greatest_17 ⟨Nat.zero_le _, Nat.zero_le _⟩) rfl rfl (fun H locs hW => ?_)
      refine lv_lmul E.1 E.2.1 dX5_greatest_20 ?_
      refine lv_aload_n E.1 E.2.1 dX5_greatest_21 rfl (lv_at hl 0 rfl) ?_
      refine lv_iload_n E.1 E.2.1 dX5_greatest_22 rfl (lv_at hl 1 rfl) ?_
      obtain ⟨r23, hc, h⟩ := bx h
      refine goJ (world' := (w_X5 g h0 h1 h2 x_numerators x_denominators)) hW hA (is := [0, 1, 2]) rfl (goV (rest := [.long ((x_numerators l2_4.toNatClampNeg) * r17)]) E hK hW [0, 1, 2] rfl rfl (c_X5_numerator l g h0 h1 h2 x_numerators x_denominators l1_4 (hf := hc) H.size) (cwV 1 hts gX5_greatest_X5_numerator rfl rfl rfl (by decide +kernel) ⟨Nat.le_of_ble_eq_true rfl, Nat.le_of_ble_eq_true rfl⟩) 0 rfl rfl rfl hl.1 rfl rfl (Nat.le_of_ble_eq_true rfl) dX5_greatest_23 ⟨Nat.zero_le _, Nat.zero_le _⟩) rfl rfl (fun H locs hW => ?_)
      refine lv_aload_n E.1 E.2.1 dX5_greatest_26 rfl (lv_at hl 0 rfl) ?_
      refine wGet (v := .ref h2) E hK in_X5_greatest_X5 hW 1 lk_X5_greatest_15 0 rfl rfl (by decide) rfl rfl dX5_greatest_27 ?_
      refine lv_iload_n E.1 E.2.1 dX5_greatest_30 rfl (lv_at hl 2 rfl) ?_
      refine wLald E hK hW 2 rfl hi14 dX5_greatest_31 ?_
      refine lv_lmul E.1 E.2.1 dX5_greatest_32 ?_
      refine W.lcmp E.1 E.2.1 dX5_greatest_33 ?_
      refine lv_if_le (tgt := 39) E.1 E.2.1 dX5_greatest_34 (by decide) (fun c34 => ?_) (fun c34 => ?_)
      · have h := it c34 h
        exact J39 l1_4 H locs ls h hW (lv_sub hl [0, 1, 2] rfl)
      · have h := ie c34 h
        refine lv_iload_n E.1 E.2.1 dX5_greatest_37 rfl (lv_at hl 2 rfl) ?_
        refine lv_istore_n (lv' := [(1, .int l2_4), (0, .ref h0), (2, .int l2_4)]) E.1 E.2.1 dX5_greatest_38 rfl hl (by decide) rfl (fun ls hl => ?_)
        exact J39 l2_4 H locs ls h hW (lv_sub hl [1, 0, 2] rfl)
set_option maxHeartbeats 4000000 in
set_option maxRecDepth 100000 in
theorem k_X5_greatest_0 {p : Program} {l : Launch} {e : Env} {s : State} {m : MethodId} {args : Array Value} {below : List Frame} {meth : Method} {c : Code} {g : GE} {A : Nat → Prop} {h0 h1 h2 : Nat} {x_numerators : Nat → Int64} {x_denominators : Nat → Int64} {res : Int32} {H : Heap} {locs : List Loc} {ls : Array Slot} 
    (E : En cX5_greatest RX5 wsX5_greatest 3 (some .int) p s m args meth c) (hK : KK g s) (hA : ∀ q, s.heap.size ≤ q → A q) (h : f_X5_greatest x_numerators x_denominators = some res) (hW : Wo g A s H locs (w_X5 g h0 h1 h2 x_numerators x_denominators)) (hl : lv_has ls 3 [(0, .ref h0)]) : G_X5_greatest p l e s m args below meth c g A h0 h1 h2 x_numerators x_denominators res H locs 0 ls [] := by
  have hts := E.2.2.2.1
  unfold f_X5_greatest at h
  refine lv_iconst (v := 0) E.1 E.2.1 dX5_greatest_0 (by decide) ?_
  refine lv_istore_n (lv' := [(1, .int 0), (0, .ref h0)]) E.1 E.2.1 dX5_greatest_1 rfl hl (by decide) rfl (fun ls hl => ?_)
  refine lv_iconst (v := 1) E.1 E.2.1 dX5_greatest_2 (by decide) ?_
  refine lv_istore_n (lv' := [(2, .int 1), (1, .int 0), (0, .ref h0)]) E.1 E.2.1 dX5_greatest_3 rfl hl (by decide) rfl (fun ls hl => ?_)
  refine k_X5_greatest_4 E hK hA ?_ 1000 0 1 H locs ls h hW (lv_sub hl [2, 1, 0] rfl)
  · intro l1_45e H locs ls h hW hl
    refine lv_iload_n E.1 E.2.1 dX5_greatest_45 rfl (lv_at hl 0 rfl) ?_
    obtain rfl := Option.some.inj h
    exact endI E rfl hW dX5_greatest_46
theorem c_X5_greatest (l : Launch) (g : GE) (h0 h1 h2 : Nat) (x_numerators : Nat → Int64) (x_denominators : Nat → Int64) {res : Int32} (hf : f_X5_greatest x_numerators x_denominators = some res) : CI l yX5_greatest wsX5_greatest rm_X5_greatest g [.ref h0] (w_X5 g h0 h1 h2 x_numerators x_denominators) (w_X5 g h0 h1 h2 x_numerators x_denominators) res :=
  mkI (cc := cX5_greatest) (maxL := 3) (by decide) rfl (Nat.le_of_ble_eq_true rfl) (fun p e s m args below meth c A H locs ls E hK hA hW hl => k_X5_greatest_0 E hK hA hf hW hl)

/-! PaperStorm$Fractions.equalsEach(LPaperStorm$Fractions;)Z X5_equalsEach -/
abbrev rm_X5_equalsEach : Room := { frames := 0, cells := 0, slots := 0, locals := 0 }
theorem in_X5_equalsEach_X5 : ∀ w ∈ wsX50, w ∈ wsX5_equalsEach := by decide +kernel
theorem lk_X5_equalsEach_15 : Cond.fieldLink RX5 15 "PaperStorm$Fractions" "denominators" "[J" ∈ wsX5_equalsEach := by decide +kernel
theorem lk_X5_equalsEach_9 : Cond.fieldLink RX5 9 "PaperStorm$Fractions" "numerators" "[J" ∈ wsX5_equalsEach := by decide +kernel
noncomputable def f_X5_equalsEach_4 (x_numerators : Nat → Int64) (x_denominators : Nat → Int64) (x_a1_numerators : Nat → Int64) (x_a1_denominators : Nat → Int64) (z57 : Int32 → Option (Int32)) : Nat → Int32 → Int32 → Option (Int32)
  | 0, _, _ => none
  | n + 1, l2_4, l3_4 => if 4 ≤ l3_4 then z57 l2_4 else jo (fun (s0_50 : Int32) => f_X5_equalsEach_4 x_numerators x_denominators x_a1_numerators x_a1_denominators z57 n s0_50 (l3_4 + 1)) (fun j50 => jo (j50 0) (fun j49 => if l2_4 = 0 then j49 else if l3_4 < 0 ∨ 4 ≤ l3_4.toNatClampNeg then none else if (lg_cmp (x_numerators l3_4.toNatClampNeg) (x_a1_numerators l3_4.toNatClampNeg)) = 0 then if (lg_cmp (x_denominators l3_4.toNatClampNeg) (x_a1_denominators l3_4.toNatClampNeg)) = 0 then j50 1 else j49 else j49))
noncomputable def f_X5_equalsEach (x_numerators : Nat → Int64) (x_denominators : Nat → Int64) (x_a1_numerators : Nat → Int64) (x_a1_denominators : Nat → Int64) : Option (Int32) :=
  f_X5_equalsEach_4 x_numerators x_denominators x_a1_numerators x_a1_denominators (fun l2_57e => if ¬ vp_nar .boolean l2_57e = l2_57e then none else some (l2_57e)) 1000 1 0
abbrev G_X5_equalsEach (p : Program) (l : Launch) (e : Env) (s : State) (m : MethodId) (args : Array Value) (below : List Frame) (meth : Method) (c : Code) (g : GE) (A : Nat → Prop) (h0 h1 h2 h3 h4 h5 : Nat) (x_numerators : Nat → Int64) (x_denominators : Nat → Int64) (x_a1_numerators : Nat → Int64) (x_a1_denominators : Nat → Int64) (res : Int32) (H : Heap) (locs : List Loc) (pc : Nat) (ls : Array Slot) (st : List Value) : Prop := W p l e (headSpec wsX5_equalsEach rm_X5_equalsEach).room s m args below meth c H locs 0 0 (MQ below (PoI g A ((w_X5 g h0 h1 h2 x_numerators x_denominators) ++ (w_X5 g h3 h4 h5 x_a1_numerators x_a1_denominators)) res) args s 0 0 A) (F0 m pc ls st)
set_option maxHeartbeats 4000000 in
set_option maxRecDepth 100000 in
theorem k_X5_equalsEach_4 {p : Program} {l : Launch} {e : Env} {s : State} {m : MethodId} {args : Array Value} {below : List Frame} {meth : Method} {c : Code} {g : GE} {A : Nat → Prop} {h0 h1 h2 h3 h4 h5 : Nat} {x_numerators : Nat → Int64} {x_denominators : Nat → Int64} {x_a1_numerators : Nat → Int64} {x_a1_denominators : Nat → Int64} {res : Int32} {z57 : Int32 → Option (Int32)}
    (E : En cX5_equalsEach RX5 wsX5_equalsEach 4 (some .boolean) p s m args meth c) (hK : KK g s) (hA : ∀ q, s.heap.size ≤ q → A q)
    (hz57 : ∀ (l2_57e : Int32) (H : Heap) (locs : List Loc) (ls : Array Slot), z57 l2_57e = some res → Wo g A s H locs ((w_X5 g h0 h1 h2 x_numerators x_denominators) ++ (w_X5 g h3 h4 h5 x_a1_numerators x_a1_denominators)) → lv_has ls 4 [(2, .int l2_57e)] → G_X5_equalsEach p l e s m args below meth c g A h0 h1 h2 h3 h4 h5 x_numerators x_denominators x_a1_numerators x_a1_denominators res H locs 57 ls [])
    : ∀ (n : Nat) (l2_4 : Int32) (l3_4 : Int32) (H : Heap) (locs : List Loc) (ls : Array Slot), f_X5_equalsEach_4 x_numerators x_denominators x_a1_numerators x_a1_denominators z57 n l2_4 l3_4 = some res → Wo g A s H locs ((w_X5 g h0 h1 h2 x_numerators x_denominators) ++ (w_X5 g h3 h4 h5 x_a1_numerators x_a1_denominators)) → lv_has ls 4 [(0, .ref h0), (1, .ref h3), (2, .int l2_4), (3, .int l3_4)] → G_X5_equalsEach p l e s m args below meth c g A h0 h1 h2 h3 h4 h5 x_numerators x_denominators x_a1_numerators x_a1_denominators res H locs 4 ls [] := by
  have hts := E.2.2.2.1
  intro n
  induction n with
  | zero => intro l2_4 l3_4 H locs ls h hW hl; rw [f_X5_equalsEach_4] at h; cases h
  | succ n ih =>
    intro l2_4 l3_4 H locs ls h hW hl
    rw [f_X5_equalsEach_4] at h
    refine lv_iload_n E.1 E.2.1 dX5_equalsEach_4 rfl (lv_at hl 3 rfl) ?_
    refine lv_iconst (v := 4) E.1 E.2.1 dX5_equalsEach_5 (by decide) ?_
    refine lv_icmp_ge (tgt := 57) E.1 E.2.1 dX5_equalsEach_6 (by decide) (fun c6 => ?_) (fun c6 => ?_)
    · have h := it c6 h
      exact hz57 l2_4 H locs ls h hW (lv_sub hl [2] rfl)
    · have h := ie c6 h
      obtain ⟨j50, hj50, h⟩ := jox1 h
      have J50 : ∀ (s0_50 : Int32) (H : Heap) (locs : List Loc) (ls : Array Slot), j50 s0_50 = some res → Wo g A s H locs ((w_X5 g h0 h1 h2 x_numerators x_denominators) ++ (w_X5 g h3 h4 h5 x_a1_numerators x_a1_denominators)) → lv_has ls 4 [(0, .ref h0), (1, .ref h3), (3, .int l3_4)] → G_X5_equalsEach p l e s m args below meth c g A h0 h1 h2 h3 h4 h5 x_numerators x_denominators x_a1_numerators x_a1_denominators res H locs 50 ls [.int s0_50] := by
        intro s0_50 H locs ls h hW hl
        rw [hj50] at h
        refine lv_istore_n (lv' := [(2, .int s0_50), (0, .ref h0), (1, .ref h3), (3, .int l3_4)]) E.1 E.2.1 dX5_equalsEach_50 rfl hl (by decide) rfl (fun ls hl => ?_)
        refine lv_iinc (v := (l3_4 + 1)) (lv' := [(3, .int (l3_4 + 1)), (2, .int s0_50), (0, .ref h0), (1, .ref h3)]) E.1 E.2.1 dX5_equalsEach_51 hl (k := 3) rfl rfl (by decide) rfl (fun ls hl => ?_)
        refine lv_goto (tgt := 4) E.1 E.2.1 dX5_equalsEach_54 (by decide) ?_
        exact ih s0_50 (l3_4 + 1) H locs ls h hW (lv_sub hl [2, 3, 1, 0] rfl)
      obtain ⟨j49, hj49, h⟩ := jox0 h
      have J49 : ∀ (H : Heap) (locs : List Loc) (ls : Array Slot), j49 = some res → Wo g A s H locs ((w_X5 g h0 h1 h2 x_numerators x_denominators) ++ (w_X5 g h3 h4 h5 x_a1_numerators x_a1_denominators)) → lv_has ls 4 [(0, .ref h0), (1, .ref h3), (3, .int l3_4)] → G_X5_equalsEach p l e s m args below meth c g A h0 h1 h2 h3 h4 h5 x_numerators x_denominators x_a1_numerators x_a1_denominators res H locs 49 ls [] := by
        intro H locs ls h hW hl
        rw [hj49] at h
        refine lv_iconst (v := 0) E.1 E.2.1 dX5_equalsEach_49 (by decide) ?_
        exact J50 0 H locs ls h hW (lv_sub hl [0, 1, 2] rfl)
      refine lv_iload_n E.1 E.2.1 dX5_equalsEach_9 rfl (lv_at hl 2 rfl) ?_
      refine lv_if_eq (tgt := 49) E.1 E.2.1 dX5_equalsEach_10 (by decide) (fun c10 => ?_) (fun c10 => ?_)
      · have h := it c10 h
        exact J49  H locs ls h hW (lv_sub hl [0, 1, 3] rfl)
      · have h := ie c10 h
        refine lv_aload_n E.1 E.2.1 dX5_equalsEach_13 rfl (lv_at hl 0 rfl) ?_
        refine wGet (v := .ref h1) E hK in_X5_equalsEach_X5 hW 0 lk_X5_equalsEach_9 0 rfl rfl (by decide) rfl rfl dX5_equalsEach_14 ?_
        refine lv_iload_n E.1 E.2.1 dX5_equalsEach_17 rfl (lv_at hl 3 rfl) ?_
        obtain ⟨hi18, h⟩ := ox h
        refine wLald E hK hW 1 rfl hi18 dX5_equalsEach_18 ?_
        refine lv_aload_n E.1 E.2.1 dX5_equalsEach_19 rfl (lv_at hl 1 rfl) ?_
        refine wGet (v := .ref h4) E hK in_X5_equalsEach_X5 hW 0 lk_X5_equalsEach_9 3 rfl rfl (by decide) rfl rfl dX5_equalsEach_20 ?_
        refine lv_iload_n E.1 E.2.1 dX5_equalsEach_23 rfl (lv_at hl 3 rfl) ?_
        refine wLald E hK hW 4 rfl hi18 dX5_equalsEach_24 ?_
        refine W.lcmp E.1 E.2.1 dX5_equalsEach_25 ?_
        refine lv_if_ne (tgt := 49) E.1 E.2.1 dX5_equalsEach_26 (by decide) (fun c26 => ?_) (fun c26 => ?_)
        · have h := ie c26 h
          exact J49  H locs ls h hW (lv_sub hl [0, 1, 3] rfl)
        · have h := it c26 h
          refine lv_aload_n E.1 E.2.1 dX5_equalsEach_29 rfl (lv_at hl 0 rfl) ?_
          refine wGet (v := .ref h2) E hK in_X5_equalsEach_X5 hW 1 lk_X5_equalsEach_15 0 rfl rfl (by decide) rfl rfl dX5_equalsEach_30 ?_
          refine lv_iload_n E.1 E.2.1 dX5_equalsEach_33 rfl (lv_at hl 3 rfl) ?_
          refine wLald E hK hW 2 rfl hi18 dX5_equalsEach_34 ?_
          refine lv_aload_n E.1 E.2.1 dX5_equalsEach_35 rfl (lv_at hl 1 rfl) ?_
          refine wGet (v := .ref h5) E hK in_X5_equalsEach_X5 hW 1 lk_X5_equalsEach_15 3 rfl rfl (by decide) rfl rfl dX5_equalsEach_36 ?_
          refine lv_iload_n E.1 E.2.1 dX5_equalsEach_39 rfl (lv_at hl 3 rfl) ?_
          refine wLald E hK hW 5 rfl hi18 dX5_equalsEach_40 ?_
          refine W.lcmp E.1 E.2.1 dX5_equalsEach_41 ?_
          refine lv_if_ne (tgt := 49) E.1 E.2.1 dX5_equalsEach_42 (by decide) (fun c42 => ?_) (fun c42 => ?_)
          · have h := ie c42 h
            exact J49  H locs ls h hW (lv_sub hl [0, 1, 3] rfl)
          · have h := it c42 h
            refine lv_iconst (v := 1) E.1 E.2.1 dX5_equalsEach_45 (by decide) ?_
            refine lv_goto (tgt := 50) E.1 E.2.1 dX5_equalsEach_46 (by decide) ?_
            exact J50 1 H locs ls h hW (lv_sub hl [0, 1, 3] rfl)
set_option maxHeartbeats 4000000 in
set_option maxRecDepth 100000 in
theorem k_X5_equalsEach_0 {p : Program} {l : Launch} {e : Env} {s : State} {m : MethodId} {args : Array Value} {below : List Frame} {meth : Method} {c : Code} {g : GE} {A : Nat → Prop} {h0 h1 h2 h3 h4 h5 : Nat} {x_numerators : Nat → Int64} {x_denominators : Nat → Int64} {x_a1_numerators : Nat → Int64} {x_a1_denominators : Nat → Int64} {res : Int32} {H : Heap} {locs : List Loc} {ls : Array Slot} 
    (E : En cX5_equalsEach RX5 wsX5_equalsEach 4 (some .boolean) p s m args meth c) (hK : KK g s) (hA : ∀ q, s.heap.size ≤ q → A q) (h : f_X5_equalsEach x_numerators x_denominators x_a1_numerators x_a1_denominators = some res) (hW : Wo g A s H locs ((w_X5 g h0 h1 h2 x_numerators x_denominators) ++ (w_X5 g h3 h4 h5 x_a1_numerators x_a1_denominators))) (hl : lv_has ls 4 [(0, .ref h0), (1, .ref h3)]) : G_X5_equalsEach p l e s m args below meth c g A h0 h1 h2 h3 h4 h5 x_numerators x_denominators x_a1_numerators x_a1_denominators res H locs 0 ls [] := by
  have hts := E.2.2.2.1
  unfold f_X5_equalsEach at h
  refine lv_iconst (v := 1) E.1 E.2.1 dX5_equalsEach_0 (by decide) ?_
  refine lv_istore_n (lv' := [(2, .int 1), (0, .ref h0), (1, .ref h3)]) E.1 E.2.1 dX5_equalsEach_1 rfl hl (by decide) rfl (fun ls hl => ?_)
  refine lv_iconst (v := 0) E.1 E.2.1 dX5_equalsEach_2 (by decide) ?_
  refine lv_istore_n (lv' := [(3, .int 0), (2, .int 1), (0, .ref h0), (1, .ref h3)]) E.1 E.2.1 dX5_equalsEach_3 rfl hl (by decide) rfl (fun ls hl => ?_)
  refine k_X5_equalsEach_4 E hK hA ?_ 1000 1 0 H locs ls h hW (lv_sub hl [2, 3, 1, 0] rfl)
  · intro l2_57e H locs ls h hW hl
    refine lv_iload_n E.1 E.2.1 dX5_equalsEach_57 rfl (lv_at hl 0 rfl) ?_
    obtain ⟨hz, h⟩ := ox h
    obtain rfl := Option.some.inj h
    exact endI E (nar_z (Decidable.not_not.mp hz)) hW dX5_equalsEach_58
theorem c_X5_equalsEach (l : Launch) (g : GE) (h0 h1 h2 h3 h4 h5 : Nat) (x_numerators : Nat → Int64) (x_denominators : Nat → Int64) (x_a1_numerators : Nat → Int64) (x_a1_denominators : Nat → Int64) {res : Int32} (hf : f_X5_equalsEach x_numerators x_denominators x_a1_numerators x_a1_denominators = some res) : CI l yX5_equalsEach wsX5_equalsEach rm_X5_equalsEach g [.ref h0, .ref h3] ((w_X5 g h0 h1 h2 x_numerators x_denominators) ++ (w_X5 g h3 h4 h5 x_a1_numerators x_a1_denominators)) ((w_X5 g h0 h1 h2 x_numerators x_denominators) ++ (w_X5 g h3 h4 h5 x_a1_numerators x_a1_denominators)) res :=
  mkI (cc := cX5_equalsEach) (maxL := 4) (by decide) rfl (Nat.le_of_ble_eq_true rfl) (fun p e s m args below meth c A H locs ls E hK hA hW hl => k_X5_equalsEach_0 E hK hA hf hW hl)

/-! PaperStorm$Fractions.addUpToOne()Z X5_addUpToOne -/
abbrev rm_X5_addUpToOne : Room := { frames := 1, cells := 0, slots := 0, locals := 30 }
theorem in_X5_addUpToOne_X5 : ∀ w ∈ wsX50, w ∈ wsX5_addUpToOne := by decide +kernel
theorem lk_X5_addUpToOne_15 : Cond.fieldLink RX5 15 "PaperStorm$Fractions" "denominators" "[J" ∈ wsX5_addUpToOne := by decide +kernel
theorem lk_X5_addUpToOne_9 : Cond.fieldLink RX5 9 "PaperStorm$Fractions" "numerators" "[J" ∈ wsX5_addUpToOne := by decide +kernel
noncomputable def f_X5_addUpToOne_7 (x_numerators : Nat → Int64) (x_denominators : Nat → Int64) (z67 : Int64 → Int64 → Option (Int32)) : Nat → Int64 → Int64 → Int32 → Option (Int32)
  | 0, _, _, _ => none
  | n + 1, l1_7, l3_7, l5_7 => if 4 ≤ l5_7 then z67 l1_7 l3_7 else if l5_7 < 0 ∨ 4 ≤ l5_7.toNatClampNeg then none else (f_X5_greatestDivisor l3_7 (x_denominators l5_7.toNatClampNeg)).bind fun r21 => if r21 = 0 then none else f_X5_addUpToOne_7 x_numerators x_denominators z67 n ((l1_7 * ((x_denominators l5_7.toNatClampNeg) / r21)) + ((x_numerators l5_7.toNatClampNeg) * (l3_7 / r21))) (l3_7 * ((x_denominators l5_7.toNatClampNeg) / r21)) (l5_7 + 1)
noncomputable def f_X5_addUpToOne (x_numerators : Nat → Int64) (x_denominators : Nat → Int64) : Option (Int32) :=
  f_X5_addUpToOne_7 x_numerators x_denominators (fun l1_67e l3_67e => jo (fun (s0_78 : Int32) => if ¬ vp_nar .boolean s0_78 = s0_78 then none else some (s0_78)) (fun j78 => if (lg_cmp l1_67e l3_67e) = 0 then j78 1 else j78 0)) 1000 0 1 0
abbrev G_X5_addUpToOne (p : Program) (l : Launch) (e : Env) (s : State) (m : MethodId) (args : Array Value) (below : List Frame) (meth : Method) (c : Code) (g : GE) (A : Nat → Prop) (h0 h1 h2 : Nat) (x_numerators : Nat → Int64) (x_denominators : Nat → Int64) (res : Int32) (H : Heap) (locs : List Loc) (pc : Nat) (ls : Array Slot) (st : List Value) : Prop := W p l e (headSpec wsX5_addUpToOne rm_X5_addUpToOne).room s m args below meth c H locs 0 0 (MQ below (PoI g A (w_X5 g h0 h1 h2 x_numerators x_denominators) res) args s 0 0 A) (F0 m pc ls st)
set_option maxHeartbeats 4000000 in
set_option maxRecDepth 100000 in
theorem k_X5_addUpToOne_7 {p : Program} {l : Launch} {e : Env} {s : State} {m : MethodId} {args : Array Value} {below : List Frame} {meth : Method} {c : Code} {g : GE} {A : Nat → Prop} {h0 h1 h2 : Nat} {x_numerators : Nat → Int64} {x_denominators : Nat → Int64} {res : Int32} {z67 : Int64 → Int64 → Option (Int32)}
    (E : En cX5_addUpToOne RX5 wsX5_addUpToOne 10 (some .boolean) p s m args meth c) (hK : KK g s) (hA : ∀ q, s.heap.size ≤ q → A q)
    (hz67 : ∀ (l1_67e : Int64) (l3_67e : Int64) (H : Heap) (locs : List Loc) (ls : Array Slot), z67 l1_67e l3_67e = some res → Wo g A s H locs (w_X5 g h0 h1 h2 x_numerators x_denominators) → lv_has ls 10 [(1, .long l1_67e), (3, .long l3_67e)] → G_X5_addUpToOne p l e s m args below meth c g A h0 h1 h2 x_numerators x_denominators res H locs 67 ls [])
    : ∀ (n : Nat) (l1_7 : Int64) (l3_7 : Int64) (l5_7 : Int32) (H : Heap) (locs : List Loc) (ls : Array Slot), f_X5_addUpToOne_7 x_numerators x_denominators z67 n l1_7 l3_7 l5_7 = some res → Wo g A s H locs (w_X5 g h0 h1 h2 x_numerators x_denominators) → lv_has ls 10 [(0, .ref h0), (1, .long l1_7), (3, .long l3_7), (5, .int l5_7)] → G_X5_addUpToOne p l e s m args below meth c g A h0 h1 h2 x_numerators x_denominators res H locs 7 ls [] := by
  have hts := E.2.2.2.1
  intro n
  induction n with
  | zero => intro l1_7 l3_7 l5_7 H locs ls h hW hl; rw [f_X5_addUpToOne_7] at h; cases h
  | succ n ih =>
    intro l1_7 l3_7 l5_7 H locs ls h hW hl
    rw [f_X5_addUpToOne_7] at h
    refine lv_iload E.1 E.2.1 dX5_addUpToOne_7 (lv_at hl 3 rfl) ?_
    refine lv_iconst (v := 4) E.1 E.2.1 dX5_addUpToOne_9 (by decide) ?_
    refine lv_icmp_ge (tgt := 67) E.1 E.2.1 dX5_addUpToOne_10 (by decide) (fun c10 => ?_) (fun c10 => ?_)
    · have h := it c10 h
      exact hz67 l1_7 l3_7 H locs ls h hW (lv_sub hl [1, 2] rfl)
    · have h := ie c10 h
      refine lv_lload_n E.1 E.2.1 dX5_addUpToOne_13 rfl (lv_at hl 2 rfl) ?_
      refine lv_aload_n E.1 E.2.1 dX5_addUpToOne_14 rfl (lv_at hl 0 rfl) ?_
      refine wGet (v := .ref h2) E hK in_X5_addUpToOne_X5 hW 1 lk_X5_addUpToOne_15 0 rfl rfl (by decide) rfl rfl dX5_addUpToOne_15 ?_
      refine lv_iload E.1 E.2.1 dX5_addUpToOne_18 (lv_at hl 3 rfl) ?_
      obtain ⟨hi20, h⟩ := ox h
      refine wLald E hK hW 2 rfl hi20 dX5_addUpToOne_20 ?_
      obtain ⟨r21, hc, h⟩ := bx h
      refine goJ (world' := (w_X5 g h0 h1 h2 x_numerators x_denominators)) hW hA (is := []) rfl (goS (rest := []) E hK hW [] rfl rfl (c_X5_greatestDivisor l g l3_7 (x_denominators l5_7.toNatClampNeg) (hf := hc) H.size) (va_cwS 2 hts gX5_addUpToOne_X5_greatestDivisor rfl rfl rfl (by decide +kernel) ⟨Nat.le_of_ble_eq_true rfl, Nat.le_of_ble_eq_true rfl⟩) hl.1 rfl rfl (Nat.le_of_ble_eq_true rfl) dX5_addUpToOne_21 ⟨Nat.zero_le _, Nat.zero_le _⟩) rfl rfl (fun H locs hW => ?_)
      refine lv_lstore (lv' := [(6, .long r21), (0, .ref h0), (1, .long l1_7), (3, .long l3_7), (5, .int l5_7)]) E.1 E.2.1 dX5_addUpToOne_24 hl (by decide) rfl (fun ls hl => ?_)
      refine lv_aload_n E.1 E.2.1 dX5_addUpToOne_26 rfl (lv_at hl 1 rfl) ?_
      refine wGet (v := .ref h2) E hK in_X5_addUpToOne_X5 hW 1 lk_X5_addUpToOne_15 0 rfl rfl (by decide) rfl rfl dX5_addUpToOne_27 ?_
      refine lv_iload E.1 E.2.1 dX5_addUpToOne_30 (lv_at hl 4 rfl) ?_
      refine wLald E hK hW 2 rfl hi20 dX5_addUpToOne_32 ?_
      refine lv_lload E.1 E.2.1 dX5_addUpToOne_33 (lv_at hl 0 rfl) ?_
      obtain ⟨hn35, h⟩ := ox h
      refine lv_ldiv E.1 E.2.1 dX5_addUpToOne_35 hn35 ?_
      refine lv_lstore (lv' := [(8, .long ((x_denominators l5_7.toNatClampNeg) / r21)), (6, .long r21), (0, .ref h0), (1, .long l1_7), (3, .long l3_7), (5, .int l5_7)]) E.1 E.2.1 dX5_addUpToOne_36 hl (by decide) rfl (fun ls hl => ?_)
      refine lv_lload_n E.1 E.2.1 dX5_addUpToOne_38 rfl (lv_at hl 3 rfl) ?_
      refine lv_lload E.1 E.2.1 dX5_addUpToOne_39 (lv_at hl 0 rfl) ?_
      refine lv_lmul E.1 E.2.1 dX5_addUpToOne_41 ?_
      refine lv_aload_n E.1 E.2.1 dX5_addUpToOne_42 rfl (lv_at hl 2 rfl) ?_
      refine wGet (v := .ref h1) E hK in_X5_addUpToOne_X5 hW 0 lk_X5_addUpToOne_9 0 rfl rfl (by decide) rfl rfl dX5_addUpToOne_43 ?_
      refine lv_iload E.1 E.2.1 dX5_addUpToOne_46 (lv_at hl 5 rfl) ?_
      refine wLald E hK hW 1 rfl hi20 dX5_addUpToOne_48 ?_
      refine lv_lload_n E.1 E.2.1 dX5_addUpToOne_49 rfl (lv_at hl 4 rfl) ?_
      refine lv_lload E.1 E.2.1 dX5_addUpToOne_50 (lv_at hl 1 rfl) ?_
      refine lv_ldiv E.1 E.2.1 dX5_addUpToOne_52 hn35 ?_
      refine lv_lmul E.1 E.2.1 dX5_addUpToOne_53 ?_
      refine lv_ladd E.1 E.2.1 dX5_addUpToOne_54 ?_
      refine lv_lstore_n (lv' := [(1, .long ((l1_7 * ((x_denominators l5_7.toNatClampNeg) / r21)) + ((x_numerators l5_7.toNatClampNeg) * (l3_7 / r21)))), (8, .long ((x_denominators l5_7.toNatClampNeg) / r21)), (6, .long r21), (0, .ref h0), (3, .long l3_7), (5, .int l5_7)]) E.1 E.2.1 dX5_addUpToOne_55 rfl hl (by decide) rfl (fun ls hl => ?_)
      refine lv_lload_n E.1 E.2.1 dX5_addUpToOne_56 rfl (lv_at hl 4 rfl) ?_
      refine lv_lload E.1 E.2.1 dX5_addUpToOne_57 (lv_at hl 1 rfl) ?_
      refine lv_lmul E.1 E.2.1 dX5_addUpToOne_59 ?_
      refine lv_lstore_n (lv' := [(3, .long (l3_7 * ((x_denominators l5_7.toNatClampNeg) / r21))), (1, .long ((l1_7 * ((x_denominators l5_7.toNatClampNeg) / r21)) + ((x_numerators l5_7.toNatClampNeg) * (l3_7 / r21)))), (8, .long ((x_denominators l5_7.toNatClampNeg) / r21)), (6, .long r21), (0, .ref h0), (5, .int l5_7)]) E.1 E.2.1 dX5_addUpToOne_60 rfl hl (by decide) rfl (fun ls hl => ?_)
      refine lv_iinc (v := (l5_7 + 1)) (lv' := [(5, .int (l5_7 + 1)), (3, .long (l3_7 * ((x_denominators l5_7.toNatClampNeg) / r21))), (1, .long ((l1_7 * ((x_denominators l5_7.toNatClampNeg) / r21)) + ((x_numerators l5_7.toNatClampNeg) * (l3_7 / r21)))), (8, .long ((x_denominators l5_7.toNatClampNeg) / r21)), (6, .long r21), (0, .ref h0)]) E.1 E.2.1 dX5_addUpToOne_61 hl (k := 5) rfl rfl (by decide) rfl (fun ls hl => ?_)
      refine lv_goto (tgt := 7) E.1 E.2.1 dX5_addUpToOne_64 (by decide) ?_
      exact ih ((l1_7 * ((x_denominators l5_7.toNatClampNeg) / r21)) + ((x_numerators l5_7.toNatClampNeg) * (l3_7 / r21))) (l3_7 * ((x_denominators l5_7.toNatClampNeg) / r21)) (l5_7 + 1) H locs ls h hW (lv_sub hl [5, 2, 1, 0] rfl)
set_option maxHeartbeats 4000000 in
set_option maxRecDepth 100000 in
theorem k_X5_addUpToOne_0 {p : Program} {l : Launch} {e : Env} {s : State} {m : MethodId} {args : Array Value} {below : List Frame} {meth : Method} {c : Code} {g : GE} {A : Nat → Prop} {h0 h1 h2 : Nat} {x_numerators : Nat → Int64} {x_denominators : Nat → Int64} {res : Int32} {H : Heap} {locs : List Loc} {ls : Array Slot} 
    (E : En cX5_addUpToOne RX5 wsX5_addUpToOne 10 (some .boolean) p s m args meth c) (hK : KK g s) (hA : ∀ q, s.heap.size ≤ q → A q) (h : f_X5_addUpToOne x_numerators x_denominators = some res) (hW : Wo g A s H locs (w_X5 g h0 h1 h2 x_numerators x_denominators)) (hl : lv_has ls 10 [(0, .ref h0)]) : G_X5_addUpToOne p l e s m args below meth c g A h0 h1 h2 x_numerators x_denominators res H locs 0 ls [] := by
  have hts := E.2.2.2.1
  unfold f_X5_addUpToOne at h
  refine lv_lconst (v := 0) E.1 E.2.1 dX5_addUpToOne_0 (by decide) ?_
  refine lv_lstore_n (lv' := [(1, .long 0), (0, .ref h0)]) E.1 E.2.1 dX5_addUpToOne_1 rfl hl (by decide) rfl (fun ls hl => ?_)
  refine lv_lconst (v := 1) E.1 E.2.1 dX5_addUpToOne_2 (by decide) ?_
  refine lv_lstore_n (lv' := [(3, .long 1), (1, .long 0), (0, .ref h0)]) E.1 E.2.1 dX5_addUpToOne_3 rfl hl (by decide) rfl (fun ls hl => ?_)
  refine lv_iconst (v := 0) E.1 E.2.1 dX5_addUpToOne_4 (by decide) ?_
  refine lv_istore (lv' := [(5, .int 0), (3, .long 1), (1, .long 0), (0, .ref h0)]) E.1 E.2.1 dX5_addUpToOne_5 hl (by decide) rfl (fun ls hl => ?_)
  refine k_X5_addUpToOne_7 E hK hA ?_ 1000 0 1 0 H locs ls h hW (lv_sub hl [3, 2, 1, 0] rfl)
  · intro l1_67e l3_67e H locs ls h hW hl
    obtain ⟨j78, hj78, h⟩ := jox1 h
    have J78 : ∀ (s0_78 : Int32) (H : Heap) (locs : List Loc) (ls : Array Slot), j78 s0_78 = some res → Wo g A s H locs (w_X5 g h0 h1 h2 x_numerators x_denominators) → lv_has ls 10 [] → G_X5_addUpToOne p l e s m args below meth c g A h0 h1 h2 x_numerators x_denominators res H locs 78 ls [.int s0_78] := by
      intro s0_78 H locs ls h hW hl
      rw [hj78] at h
      obtain ⟨hz, h⟩ := ox h
      obtain rfl := Option.some.inj h
      exact endI E (nar_z (Decidable.not_not.mp hz)) hW dX5_addUpToOne_78
    refine lv_lload_n E.1 E.2.1 dX5_addUpToOne_67 rfl (lv_at hl 0 rfl) ?_
    refine lv_lload_n E.1 E.2.1 dX5_addUpToOne_68 rfl (lv_at hl 1 rfl) ?_
    refine W.lcmp E.1 E.2.1 dX5_addUpToOne_69 ?_
    refine lv_if_ne (tgt := 77) E.1 E.2.1 dX5_addUpToOne_70 (by decide) (fun c70 => ?_) (fun c70 => ?_)
    · have h := ie c70 h
      refine lv_iconst (v := 0) E.1 E.2.1 dX5_addUpToOne_77 (by decide) ?_
      exact J78 0 H locs ls h hW (lv_sub hl [] rfl)
    · have h := it c70 h
      refine lv_iconst (v := 1) E.1 E.2.1 dX5_addUpToOne_73 (by decide) ?_
      refine lv_goto (tgt := 78) E.1 E.2.1 dX5_addUpToOne_74 (by decide) ?_
      exact J78 1 H locs ls h hW (lv_sub hl [] rfl)
theorem c_X5_addUpToOne (l : Launch) (g : GE) (h0 h1 h2 : Nat) (x_numerators : Nat → Int64) (x_denominators : Nat → Int64) {res : Int32} (hf : f_X5_addUpToOne x_numerators x_denominators = some res) : CI l yX5_addUpToOne wsX5_addUpToOne rm_X5_addUpToOne g [.ref h0] (w_X5 g h0 h1 h2 x_numerators x_denominators) (w_X5 g h0 h1 h2 x_numerators x_denominators) res :=
  mkI (cc := cX5_addUpToOne) (maxL := 10) (by decide) rfl (Nat.le_of_ble_eq_true rfl) (fun p e s m args below meth c A H locs ls E hK hA hW hl => k_X5_addUpToOne_0 E hK hA hf hW hl)

