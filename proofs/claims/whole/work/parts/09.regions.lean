/-! PaperStorm$Regions.enter(II)V X9_enter -/
abbrev rm_X9_enter : Room := { frames := 0, cells := 0, slots := 0, locals := 0 }
theorem in_X9_enter_X9 : ∀ w ∈ wsX90, w ∈ wsX9_enter := by decide +kernel
theorem lk_X9_enter_15 : Cond.fieldLink RX9 15 "PaperStorm$Regions" "queue" "[I" ∈ wsX9_enter := by decide +kernel
theorem lk_X9_enter_18 : Cond.fieldLink RX9 18 "PaperStorm$Regions" "queued" "I" ∈ wsX9_enter := by decide +kernel
theorem lk_X9_enter_9 : Cond.fieldLink RX9 9 "PaperStorm$Regions" "regionOfCell" "[I" ∈ wsX9_enter := by decide +kernel
noncomputable def f_X9_enter (x_regionOfCell : Nat → Int32) (x_queue : Nat → Int32) (x_queued : Int32) (a1 : Int32) (a2 : Int32) : Option ((Nat → Int32) × (Nat → Int32) × Int32) :=
  jo (fun (x_regionOfCell_53 : Nat → Int32) (x_queue_53 : Nat → Int32) (x_queued_53 : Int32) => some (x_regionOfCell_53, x_queue_53, x_queued_53)) (fun j53 => if a1 < 0 then j53 x_regionOfCell x_queue x_queued else if 25 ≤ a1 then j53 x_regionOfCell x_queue x_queued else if x_queued < 0 then j53 x_regionOfCell x_queue x_queued else if 25 ≤ x_queued then j53 x_regionOfCell x_queue x_queued else if a1 < 0 ∨ 25 ≤ a1.toNatClampNeg then none else if x_queued < 0 ∨ 25 ≤ x_queued.toNatClampNeg then none else j53 (upd x_regionOfCell a1.toNatClampNeg a2) (upd x_queue x_queued.toNatClampNeg a1) (x_queued + 1))
abbrev G_X9_enter (p : Program) (l : Launch) (e : Env) (s : State) (m : MethodId) (args : Array Value) (below : List Frame) (meth : Method) (c : Code) (g : GE) (A : Nat → Prop) (h0 h1 h2 h3 : Nat) (x_groupOfCell : Nat → Int32) (res : (Nat → Int32) × (Nat → Int32) × Int32) (H : Heap) (locs : List Loc) (pc : Nat) (ls : Array Slot) (st : List Value) : Prop := W p l e (headSpec wsX9_enter rm_X9_enter).room s m args below meth c H locs 0 0 (MQ below (PoV g A (w_X9 g h0 h1 h2 h3 res.1 res.2.1 res.2.2 x_groupOfCell)) args s 0 0 A) (F0 m pc ls st)
set_option maxHeartbeats 4000000 in
set_option maxRecDepth 100000 in
theorem k_X9_enter_0 {p : Program} {l : Launch} {e : Env} {s : State} {m : MethodId} {args : Array Value} {below : List Frame} {meth : Method} {c : Code} {g : GE} {A : Nat → Prop} {h0 h1 h2 h3 : Nat} {x_regionOfCell : Nat → Int32} {x_queue : Nat → Int32} {x_queued : Int32} {x_groupOfCell : Nat → Int32} {res : (Nat → Int32) × (Nat → Int32) × Int32} {H : Heap} {locs : List Loc} {ls : Array Slot} {a1 : Int32} {a2 : Int32}
    (E : En cX9_enter RX9 wsX9_enter 3 none p s m args meth c) (hK : KK g s) (hA : ∀ q, s.heap.size ≤ q → A q) (h : f_X9_enter x_regionOfCell x_queue x_queued a1 a2 = some res) (hW : Wo g A s H locs (w_X9 g h0 h1 h2 h3 x_regionOfCell x_queue x_queued x_groupOfCell)) (hl : lv_has ls 3 [(0, .ref h0), (1, .int a1), (2, .int a2)]) : G_X9_enter p l e s m args below meth c g A h0 h1 h2 h3 x_groupOfCell res H locs 0 ls [] := by
  have hts := E.2.2.2.1
  unfold f_X9_enter at h
  obtain ⟨j53, hj53, h⟩ := jox3 h
  have J53 : ∀ (x_regionOfCell_53 : Nat → Int32) (x_queue_53 : Nat → Int32) (x_queued_53 : Int32) (H : Heap) (locs : List Loc) (ls : Array Slot), j53 x_regionOfCell_53 x_queue_53 x_queued_53 = some res → Wo g A s H locs (w_X9 g h0 h1 h2 h3 x_regionOfCell_53 x_queue_53 x_queued_53 x_groupOfCell) → lv_has ls 3 [] → G_X9_enter p l e s m args below meth c g A h0 h1 h2 h3 x_groupOfCell res H locs 53 ls [] := by
    intro x_regionOfCell_53 x_queue_53 x_queued_53 H locs ls h hW hl
    rw [hj53] at h
    obtain rfl := Option.some.inj h
    exact endV E hW dX9_enter_53
  refine lv_iload_n E.1 E.2.1 dX9_enter_0 rfl (lv_at hl 1 rfl) ?_
  refine lv_if_lt (tgt := 53) E.1 E.2.1 dX9_enter_1 (by decide) (fun c1 => ?_) (fun c1 => ?_)
  · have h := it c1 h
    exact J53 x_regionOfCell x_queue x_queued H locs ls h hW (lv_sub hl [] rfl)
  · have h := ie c1 h
    refine lv_iload_n E.1 E.2.1 dX9_enter_4 rfl (lv_at hl 1 rfl) ?_
    refine lv_bipush (v := 25) E.1 E.2.1 dX9_enter_5 (by decide) ?_
    refine lv_icmp_ge (tgt := 53) E.1 E.2.1 dX9_enter_7 (by decide) (fun c7 => ?_) (fun c7 => ?_)
    · have h := it c7 h
      exact J53 x_regionOfCell x_queue x_queued H locs ls h hW (lv_sub hl [] rfl)
    · have h := ie c7 h
      refine lv_aload_n E.1 E.2.1 dX9_enter_10 rfl (lv_at hl 0 rfl) ?_
      refine wGet (v := .int x_queued) E hK in_X9_enter_X9 hW 2 lk_X9_enter_18 0 rfl rfl (by decide) rfl rfl dX9_enter_11 ?_
      refine lv_if_lt (tgt := 53) E.1 E.2.1 dX9_enter_14 (by decide) (fun c14 => ?_) (fun c14 => ?_)
      · have h := it c14 h
        exact J53 x_regionOfCell x_queue x_queued H locs ls h hW (lv_sub hl [] rfl)
      · have h := ie c14 h
        refine lv_aload_n E.1 E.2.1 dX9_enter_17 rfl (lv_at hl 0 rfl) ?_
        refine wGet (v := .int x_queued) E hK in_X9_enter_X9 hW 2 lk_X9_enter_18 0 rfl rfl (by decide) rfl rfl dX9_enter_18 ?_
        refine lv_bipush (v := 25) E.1 E.2.1 dX9_enter_21 (by decide) ?_
        refine lv_icmp_ge (tgt := 53) E.1 E.2.1 dX9_enter_23 (by decide) (fun c23 => ?_) (fun c23 => ?_)
        · have h := it c23 h
          exact J53 x_regionOfCell x_queue x_queued H locs ls h hW (lv_sub hl [] rfl)
        · have h := ie c23 h
          refine lv_aload_n E.1 E.2.1 dX9_enter_26 rfl (lv_at hl 0 rfl) ?_
          refine wGet (v := .ref h1) E hK in_X9_enter_X9 hW 0 lk_X9_enter_9 0 rfl rfl (by decide) rfl rfl dX9_enter_27 ?_
          refine lv_iload_n E.1 E.2.1 dX9_enter_30 rfl (lv_at hl 1 rfl) ?_
          refine lv_iload_n E.1 E.2.1 dX9_enter_31 rfl (lv_at hl 2 rfl) ?_
          obtain ⟨hi32, h⟩ := ox h
          refine wIast (world' := (w_X9 g h0 h1 h2 h3 (upd x_regionOfCell a1.toNatClampNeg a2) x_queue x_queued x_groupOfCell)) E hK hW 1 rfl hi32 dX9_enter_32 rfl (fun H locs hW => ?_)
          refine lv_aload_n E.1 E.2.1 dX9_enter_33 rfl (lv_at hl 0 rfl) ?_
          refine wGet (v := .ref h2) E hK in_X9_enter_X9 hW 1 lk_X9_enter_15 0 rfl rfl (by decide) rfl rfl dX9_enter_34 ?_
          refine lv_aload_n E.1 E.2.1 dX9_enter_37 rfl (lv_at hl 0 rfl) ?_
          refine wGet (v := .int x_queued) E hK in_X9_enter_X9 hW 2 lk_X9_enter_18 0 rfl rfl (by decide) rfl rfl dX9_enter_38 ?_
          refine lv_iload_n E.1 E.2.1 dX9_enter_41 rfl (lv_at hl 1 rfl) ?_
          obtain ⟨hi42, h⟩ := ox h
          refine wIast (world' := (w_X9 g h0 h1 h2 h3 (upd x_regionOfCell a1.toNatClampNeg a2) (upd x_queue x_queued.toNatClampNeg a1) x_queued x_groupOfCell)) E hK hW 2 rfl hi42 dX9_enter_42 rfl (fun H locs hW => ?_)
          refine lv_aload_n E.1 E.2.1 dX9_enter_43 rfl (lv_at hl 0 rfl) ?_
          refine lv_dup E.1 E.2.1 dX9_enter_44 rfl ?_
          refine wGet (v := .int x_queued) E hK in_X9_enter_X9 hW 2 lk_X9_enter_18 0 rfl rfl (by decide) rfl rfl dX9_enter_45 ?_
          refine lv_iconst (v := 1) E.1 E.2.1 dX9_enter_48 (by decide) ?_
          refine lv_iadd E.1 E.2.1 dX9_enter_49 ?_
          refine wPut (world' := (w_X9 g h0 h1 h2 h3 (upd x_regionOfCell a1.toNatClampNeg a2) (upd x_queue x_queued.toNatClampNeg a1) (x_queued + 1) x_groupOfCell)) E hK in_X9_enter_X9 tyX9 tyX9_ok nmX9 hW 2 lk_X9_enter_18 0 rfl rfl (by decide) rfl rfl rfl rfl rfl (Nat.le_of_ble_eq_true rfl) dX9_enter_50 rfl (fun H locs hW => ?_)
          exact J53 (upd x_regionOfCell a1.toNatClampNeg a2) (upd x_queue x_queued.toNatClampNeg a1) (x_queued + 1) H locs ls h hW (lv_sub hl [] rfl)
theorem c_X9_enter (l : Launch) (g : GE) (h0 h1 h2 h3 : Nat) (x_regionOfCell : Nat → Int32) (x_queue : Nat → Int32) (x_queued : Int32) (x_groupOfCell : Nat → Int32) (a1 : Int32) (a2 : Int32) {res : (Nat → Int32) × (Nat → Int32) × Int32} (hf : f_X9_enter x_regionOfCell x_queue x_queued a1 a2 = some res) : CV l yX9_enter wsX9_enter rm_X9_enter g [.ref h0, .int a1, .int a2] (w_X9 g h0 h1 h2 h3 x_regionOfCell x_queue x_queued x_groupOfCell) (w_X9 g h0 h1 h2 h3 res.1 res.2.1 res.2.2 x_groupOfCell) :=
  mkV (cc := cX9_enter) (maxL := 3) (by decide) rfl (Nat.le_of_ble_eq_true rfl) (fun p e s m args below meth c A H locs ls E hK hA hW hl => k_X9_enter_0 E hK hA hf hW hl)

/-! PaperStorm$Regions.regionOf(I)I X9_regionOf -/
abbrev rm_X9_regionOf : Room := { frames := 0, cells := 0, slots := 0, locals := 0 }
theorem in_X9_regionOf_X9 : ∀ w ∈ wsX90, w ∈ wsX9_regionOf := by decide +kernel
theorem lk_X9_regionOf_9 : Cond.fieldLink RX9 9 "PaperStorm$Regions" "regionOfCell" "[I" ∈ wsX9_regionOf := by decide +kernel
noncomputable def f_X9_regionOf (x_regionOfCell : Nat → Int32) (a1 : Int32) : Option (Int32) :=
  jo (fun (s0_20 : Int32) => some (s0_20)) (fun j20 => jo (j20 (-1)) (fun j19 => if a1 < 0 then j19 else if 25 ≤ a1 then j19 else if a1 < 0 ∨ 25 ≤ a1.toNatClampNeg then none else j20 (x_regionOfCell a1.toNatClampNeg)))
abbrev G_X9_regionOf (p : Program) (l : Launch) (e : Env) (s : State) (m : MethodId) (args : Array Value) (below : List Frame) (meth : Method) (c : Code) (g : GE) (A : Nat → Prop) (h0 h1 h2 h3 : Nat) (x_regionOfCell : Nat → Int32) (x_queue : Nat → Int32) (x_queued : Int32) (x_groupOfCell : Nat → Int32) (res : Int32) (H : Heap) (locs : List Loc) (pc : Nat) (ls : Array Slot) (st : List Value) : Prop := W p l e (headSpec wsX9_regionOf rm_X9_regionOf).room s m args below meth c H locs 0 0 (MQ below (PoI g A (w_X9 g h0 h1 h2 h3 x_regionOfCell x_queue x_queued x_groupOfCell) res) args s 0 0 A) (F0 m pc ls st)
set_option maxHeartbeats 4000000 in
set_option maxRecDepth 100000 in
theorem k_X9_regionOf_0 {p : Program} {l : Launch} {e : Env} {s : State} {m : MethodId} {args : Array Value} {below : List Frame} {meth : Method} {c : Code} {g : GE} {A : Nat → Prop} {h0 h1 h2 h3 : Nat} {x_regionOfCell : Nat → Int32} {x_queue : Nat → Int32} {x_queued : Int32} {x_groupOfCell : Nat → Int32} {res : Int32} {H : Heap} {locs : List Loc} {ls : Array Slot} {a1 : Int32}
    (E : En cX9_regionOf RX9 wsX9_regionOf 2 (some .int) p s m args meth c) (hK : KK g s) (hA : ∀ q, s.heap.size ≤ q → A q) (h : f_X9_regionOf x_regionOfCell a1 = some res) (hW : Wo g A s H locs (w_X9 g h0 h1 h2 h3 x_regionOfCell x_queue x_queued x_groupOfCell)) (hl : lv_has ls 2 [(0, .ref h0), (1, .int a1)]) : G_X9_regionOf p l e s m args below meth c g A h0 h1 h2 h3 x_regionOfCell x_queue x_queued x_groupOfCell res H locs 0 ls [] := by
  have hts := E.2.2.2.1
  unfold f_X9_regionOf at h
  obtain ⟨j20, hj20, h⟩ := jox1 h
  have J20 : ∀ (s0_20 : Int32) (H : Heap) (locs : List Loc) (ls : Array Slot), j20 s0_20 = some res → Wo g A s H locs (w_X9 g h0 h1 h2 h3 x_regionOfCell x_queue x_queued x_groupOfCell) → lv_has ls 2 [] → G_X9_regionOf p l e s m args below meth c g A h0 h1 h2 h3 x_regionOfCell x_queue x_queued x_groupOfCell res H locs 20 ls [.int s0_20] := by
    intro s0_20 H locs ls h hW hl
    rw [hj20] at h
    obtain rfl := Option.some.inj h
    exact endI E rfl hW dX9_regionOf_20
  obtain ⟨j19, hj19, h⟩ := jox0 h
  have J19 : ∀ (H : Heap) (locs : List Loc) (ls : Array Slot), j19 = some res → Wo g A s H locs (w_X9 g h0 h1 h2 h3 x_regionOfCell x_queue x_queued x_groupOfCell) → lv_has ls 2 [] → G_X9_regionOf p l e s m args below meth c g A h0 h1 h2 h3 x_regionOfCell x_queue x_queued x_groupOfCell res H locs 19 ls [] := by
    intro H locs ls h hW hl
    rw [hj19] at h
    refine lv_iconst (v := (-1)) E.1 E.2.1 dX9_regionOf_19 (by decide) ?_
    exact J20 (-1) H locs ls h hW (lv_sub hl [] rfl)
  refine lv_iload_n E.1 E.2.1 dX9_regionOf_0 rfl (lv_at hl 1 rfl) ?_
  refine lv_if_lt (tgt := 19) E.1 E.2.1 dX9_regionOf_1 (by decide) (fun c1 => ?_) (fun c1 => ?_)
  · have h := it c1 h
    exact J19  H locs ls h hW (lv_sub hl [] rfl)
  · have h := ie c1 h
    refine lv_iload_n E.1 E.2.1 dX9_regionOf_4 rfl (lv_at hl 1 rfl) ?_
    refine lv_bipush (v := 25) E.1 E.2.1 dX9_regionOf_5 (by decide) ?_
    refine lv_icmp_ge (tgt := 19) E.1 E.2.1 dX9_regionOf_7 (by decide) (fun c7 => ?_) (fun c7 => ?_)
    · have h := it c7 h
      exact J19  H locs ls h hW (lv_sub hl [] rfl)
    · have h := ie c7 h
      refine lv_aload_n E.1 E.2.1 dX9_regionOf_10 rfl (lv_at hl 0 rfl) ?_
      refine wGet (v := .ref h1) E hK in_X9_regionOf_X9 hW 0 lk_X9_regionOf_9 0 rfl rfl (by decide) rfl rfl dX9_regionOf_11 ?_
      refine lv_iload_n E.1 E.2.1 dX9_regionOf_14 rfl (lv_at hl 1 rfl) ?_
      obtain ⟨hi15, h⟩ := ox h
      refine wIald E hK hW 1 rfl hi15 dX9_regionOf_15 ?_
      refine lv_goto (tgt := 20) E.1 E.2.1 dX9_regionOf_16 (by decide) ?_
      exact J20 (x_regionOfCell a1.toNatClampNeg) H locs ls h hW (lv_sub hl [] rfl)
theorem c_X9_regionOf (l : Launch) (g : GE) (h0 h1 h2 h3 : Nat) (x_regionOfCell : Nat → Int32) (x_queue : Nat → Int32) (x_queued : Int32) (x_groupOfCell : Nat → Int32) (a1 : Int32) {res : Int32} (hf : f_X9_regionOf x_regionOfCell a1 = some res) : CI l yX9_regionOf wsX9_regionOf rm_X9_regionOf g [.ref h0, .int a1] (w_X9 g h0 h1 h2 h3 x_regionOfCell x_queue x_queued x_groupOfCell) (w_X9 g h0 h1 h2 h3 x_regionOfCell x_queue x_queued x_groupOfCell) res :=
  mkI (cc := cX9_regionOf) (maxL := 2) (by decide) rfl (Nat.le_of_ble_eq_true rfl) (fun p e s m args below meth c A H locs ls E hK hA hW hl => k_X9_regionOf_0 E hK hA hf hW hl)

/-! PaperStorm$Regions.firstUnreached()I X9_firstUnreached -/
abbrev rm_X9_firstUnreached : Room := { frames := 0, cells := 0, slots := 0, locals := 0 }
theorem in_X9_firstUnreached_X9 : ∀ w ∈ wsX90, w ∈ wsX9_firstUnreached := by decide +kernel
theorem lk_X9_firstUnreached_9 : Cond.fieldLink RX9 9 "PaperStorm$Regions" "regionOfCell" "[I" ∈ wsX9_firstUnreached := by decide +kernel
noncomputable def f_X9_firstUnreached_5 (x_regionOfCell : Nat → Int32) (z27 : Int32 → Option (Int32)) : Nat → Int32 → Int32 → Option (Int32)
  | 0, _, _ => none
  | n + 1, l1_5, l2_5 => if l2_5 < 0 then z27 l1_5 else jo (fun (l1_21 : Int32) => f_X9_firstUnreached_5 x_regionOfCell z27 n l1_21 (l2_5 + (-1))) (fun j21 => if l2_5 < 0 ∨ 25 ≤ l2_5.toNatClampNeg then none else if (x_regionOfCell l2_5.toNatClampNeg) = (-1) then j21 l2_5 else j21 l1_5)
noncomputable def f_X9_firstUnreached (x_regionOfCell : Nat → Int32) : Option (Int32) :=
  f_X9_firstUnreached_5 x_regionOfCell (fun l1_27e => some (l1_27e)) 1000 0 24
abbrev G_X9_firstUnreached (p : Program) (l : Launch) (e : Env) (s : State) (m : MethodId) (args : Array Value) (below : List Frame) (meth : Method) (c : Code) (g : GE) (A : Nat → Prop) (h0 h1 h2 h3 : Nat) (x_regionOfCell : Nat → Int32) (x_queue : Nat → Int32) (x_queued : Int32) (x_groupOfCell : Nat → Int32) (res : Int32) (H : Heap) (locs : List Loc) (pc : Nat) (ls : Array Slot) (st : List Value) : Prop := W p l e (headSpec wsX9_firstUnreached rm_X9_firstUnreached).room s m args below meth c H locs 0 0 (MQ below (PoI g A (w_X9 g h0 h1 h2 h3 x_regionOfCell x_queue x_queued x_groupOfCell) res) args s 0 0 A) (F0 m pc ls st)
set_option maxHeartbeats 4000000 in
set_option maxRecDepth 100000 in
theorem k_X9_firstUnreached_5 {p : Program} {l : Launch} {e : Env} {s : State} {m : MethodId} {args : Array Value} {below : List Frame} {meth : Method} {c : Code} {g : GE} {A : Nat → Prop} {h0 h1 h2 h3 : Nat} {x_regionOfCell : Nat → Int32} {x_queue : Nat → Int32} {x_queued : Int32} {x_groupOfCell : Nat → Int32} {res : Int32} {z27 : Int32 → Option (Int32)}
    (E : En cX9_firstUnreached RX9 wsX9_firstUnreached 3 (some .int) p s m args meth c) (hK : KK g s) (hA : ∀ q, s.heap.size ≤ q → A q)
    (hz27 : ∀ (l1_27e : Int32) (H : Heap) (locs : List Loc) (ls : Array Slot), z27 l1_27e = some res → Wo g A s H locs (w_X9 g h0 h1 h2 h3 x_regionOfCell x_queue x_queued x_groupOfCell) → lv_has ls 3 [(1, .int l1_27e)] → G_X9_firstUnreached p l e s m args below meth c g A h0 h1 h2 h3 x_regionOfCell x_queue x_queued x_groupOfCell res H locs 27 ls [])
    : ∀ (n : Nat) (l1_5 : Int32) (l2_5 : Int32) (H : Heap) (locs : List Loc) (ls : Array Slot), f_X9_firstUnreached_5 x_regionOfCell z27 n l1_5 l2_5 = some res → Wo g A s H locs (w_X9 g h0 h1 h2 h3 x_regionOfCell x_queue x_queued x_groupOfCell) → lv_has ls 3 [(0, .ref h0), (1, .int l1_5), (2, .int l2_5)] → G_X9_firstUnreached p l e s m args below meth c g A h0 h1 h2 h3 x_regionOfCell x_queue x_queued x_groupOfCell res H locs 5 ls [] := by
  have hts := E.2.2.2.1
  intro n
  induction n with
  | zero => intro l1_5 l2_5 H locs ls h hW hl; rw [f_X9_firstUnreached_5] at h; cases h
  | succ n ih =>
    intro l1_5 l2_5 H locs ls h hW hl
    rw [f_X9_firstUnreached_5] at h
    refine lv_iload_n E.1 E.2.1 dX9_firstUnreached_5 rfl (lv_at hl 2 rfl) ?_
    refine lv_if_lt (tgt := 27) E.1 E.2.1 dX9_firstUnreached_6 (by decide) (fun c6 => ?_) (fun c6 => ?_)
    · have h := it c6 h
      exact hz27 l1_5 H locs ls h hW (lv_sub hl [1] rfl)
    · have h := ie c6 h
      obtain ⟨j21, hj21, h⟩ := jox1 h
      have J21 : ∀ (l1_21 : Int32) (H : Heap) (locs : List Loc) (ls : Array Slot), j21 l1_21 = some res → Wo g A s H locs (w_X9 g h0 h1 h2 h3 x_regionOfCell x_queue x_queued x_groupOfCell) → lv_has ls 3 [(0, .ref h0), (1, .int l1_21), (2, .int l2_5)] → G_X9_firstUnreached p l e s m args below meth c g A h0 h1 h2 h3 x_regionOfCell x_queue x_queued x_groupOfCell res H locs 21 ls [] := by
        intro l1_21 H locs ls h hW hl
        rw [hj21] at h
        refine lv_iinc (v := (l2_5 + (-1))) (lv' := [(2, .int (l2_5 + (-1))), (0, .ref h0), (1, .int l1_21)]) E.1 E.2.1 dX9_firstUnreached_21 hl (k := 2) rfl rfl (by decide) rfl (fun ls hl => ?_)
        refine lv_goto (tgt := 5) E.1 E.2.1 dX9_firstUnreached_24 (by decide) ?_
        exact ih l1_21 (l2_5 + (-1)) H locs ls h hW (lv_sub hl [1, 2, 0] rfl)
      refine lv_aload_n E.1 E.2.1 dX9_firstUnreached_9 rfl (lv_at hl 0 rfl) ?_
      refine wGet (v := .ref h1) E hK in_X9_firstUnreached_X9 hW 0 lk_X9_firstUnreached_9 0 rfl rfl (by decide) rfl rfl dX9_firstUnreached_10 ?_
      refine lv_iload_n E.1 E.2.1 dX9_firstUnreached_13 rfl (lv_at hl 2 rfl) ?_
      obtain ⟨hi14, h⟩ := ox h
      refine wIald E hK hW 1 rfl hi14 dX9_firstUnreached_14 ?_
      refine lv_iconst (v := (-1)) E.1 E.2.1 dX9_firstUnreached_15 (by decide) ?_
      refine lv_icmp_ne (tgt := 21) E.1 E.2.1 dX9_firstUnreached_16 (by decide) (fun c16 => ?_) (fun c16 => ?_)
      · have h := ie c16 h
        exact J21 l1_5 H locs ls h hW (lv_sub hl [0, 1, 2] rfl)
      · have h := it c16 h
        refine lv_iload_n E.1 E.2.1 dX9_firstUnreached_19 rfl (lv_at hl 2 rfl) ?_
        refine lv_istore_n (lv' := [(1, .int l2_5), (0, .ref h0), (2, .int l2_5)]) E.1 E.2.1 dX9_firstUnreached_20 rfl hl (by decide) rfl (fun ls hl => ?_)
        exact J21 l2_5 H locs ls h hW (lv_sub hl [1, 0, 2] rfl)
set_option maxHeartbeats 4000000 in
set_option maxRecDepth 100000 in
theorem k_X9_firstUnreached_0 {p : Program} {l : Launch} {e : Env} {s : State} {m : MethodId} {args : Array Value} {below : List Frame} {meth : Method} {c : Code} {g : GE} {A : Nat → Prop} {h0 h1 h2 h3 : Nat} {x_regionOfCell : Nat → Int32} {x_queue : Nat → Int32} {x_queued : Int32} {x_groupOfCell : Nat → Int32} {res : Int32} {H : Heap} {locs : List Loc} {ls : Array Slot} 
    (E : En cX9_firstUnreached RX9 wsX9_firstUnreached 3 (some .int) p s m args meth c) (hK : KK g s) (hA : ∀ q, s.heap.size ≤ q → A q) (h : f_X9_firstUnreached x_regionOfCell = some res) (hW : Wo g A s H locs (w_X9 g h0 h1 h2 h3 x_regionOfCell x_queue x_queued x_groupOfCell)) (hl : lv_has ls 3 [(0, .ref h0)]) : G_X9_firstUnreached p l e s m args below meth c g A h0 h1 h2 h3 x_regionOfCell x_queue x_queued x_groupOfCell res H locs 0 ls [] := by
  have hts := E.2.2.2.1
  unfold f_X9_firstUnreached at h
  refine lv_iconst (v := 0) E.1 E.2.1 dX9_firstUnreached_0 (by decide) ?_
  refine lv_istore_n (lv' := [(1, .int 0), (0, .ref h0)]) E.1 E.2.1 dX9_firstUnreached_1 rfl hl (by decide) rfl (fun ls hl => ?_)
  refine lv_bipush (v := 24) E.1 E.2.1 dX9_firstUnreached_2 (by decide) ?_
  refine lv_istore_n (lv' := [(2, .int 24), (1, .int 0), (0, .ref h0)]) E.1 E.2.1 dX9_firstUnreached_4 rfl hl (by decide) rfl (fun ls hl => ?_)
  refine k_X9_firstUnreached_5 E hK hA ?_ 1000 0 24 H locs ls h hW (lv_sub hl [2, 1, 0] rfl)
  · intro l1_27e H locs ls h hW hl
    refine lv_iload_n E.1 E.2.1 dX9_firstUnreached_27 rfl (lv_at hl 0 rfl) ?_
    obtain rfl := Option.some.inj h
    exact endI E rfl hW dX9_firstUnreached_28
theorem c_X9_firstUnreached (l : Launch) (g : GE) (h0 h1 h2 h3 : Nat) (x_regionOfCell : Nat → Int32) (x_queue : Nat → Int32) (x_queued : Int32) (x_groupOfCell : Nat → Int32) {res : Int32} (hf : f_X9_firstUnreached x_regionOfCell = some res) : CI l yX9_firstUnreached wsX9_firstUnreached rm_X9_firstUnreached g [.ref h0] (w_X9 g h0 h1 h2 h3 x_regionOfCell x_queue x_queued x_groupOfCell) (w_X9 g h0 h1 h2 h3 x_regionOfCell x_queue x_queued x_groupOfCell) res :=
  mkI (cc := cX9_firstUnreached) (maxL := 3) (by decide) rfl (Nat.le_of_ble_eq_true rfl) (fun p e s m args below meth c A H locs ls E hK hA hW hl => k_X9_firstUnreached_0 E hK hA hf hW hl)

/-! PaperStorm$Regions.step(LPaperStorm$Sheet;III)V X9_step -/
abbrev rm_X9_step : Room := { frames := 2, cells := 0, slots := 0, locals := 45 }
noncomputable def f_X9_step (x_regionOfCell : Nat → Int32) (x_queue : Nat → Int32) (x_queued : Int32) (x_a1_cells : Nat → Int32) (x_a1_threshold : Int32) (a2 : Int32) (a3 : Int32) (a4 : Int32) : Option ((Nat → Int32) × (Nat → Int32) × Int32) :=
  (f_X10_isCell a3 a4).bind fun r3 => if r3 = 0 then some (x_regionOfCell, x_queue, x_queued) else jo (fun (x_regionOfCell_49 : Nat → Int32) (x_queue_49 : Nat → Int32) (x_queued_49 : Int32) => some (x_regionOfCell_49, x_queue_49, x_queued_49)) (fun j49 => (f_X10_cellOf a3 a4).bind fun r13 => (f_X9_regionOf x_regionOfCell r13).bind fun r21 => if r21 = (-1) then (f_X10_hasFront x_a1_cells x_a1_threshold a2 r13).bind fun r32 => if r32 = 0 then (f_X9_regionOf x_regionOfCell a2).bind fun r43 => (f_X9_enter x_regionOfCell x_queue x_queued r13 r43).bind fun r46 => j49 r46.1 r46.2.1 r46.2.2 else j49 x_regionOfCell x_queue x_queued else j49 x_regionOfCell x_queue x_queued)
abbrev G_X9_step (p : Program) (l : Launch) (e : Env) (s : State) (m : MethodId) (args : Array Value) (below : List Frame) (meth : Method) (c : Code) (g : GE) (A : Nat → Prop) (h0 h1 h2 h3 h4 h5 : Nat) (x_groupOfCell : Nat → Int32) (x_a1_cells : Nat → Int32) (x_a1_threshold : Int32) (res : (Nat → Int32) × (Nat → Int32) × Int32) (H : Heap) (locs : List Loc) (pc : Nat) (ls : Array Slot) (st : List Value) : Prop := W p l e (headSpec wsX9_step rm_X9_step).room s m args below meth c H locs 0 0 (MQ below (PoV g A ((w_X9 g h0 h1 h2 h3 res.1 res.2.1 res.2.2 x_groupOfCell) ++ (w_X10 g h4 h5 x_a1_cells x_a1_threshold))) args s 0 0 A) (F0 m pc ls st)
set_option maxHeartbeats 4000000 in
set_option maxRecDepth 100000 in
theorem k_X9_step_0 {p : Program} {l : Launch} {e : Env} {s : State} {m : MethodId} {args : Array Value} {below : List Frame} {meth : Method} {c : Code} {g : GE} {A : Nat → Prop} {h0 h1 h2 h3 h4 h5 : Nat} {x_regionOfCell : Nat → Int32} {x_queue : Nat → Int32} {x_queued : Int32} {x_groupOfCell : Nat → Int32} {x_a1_cells : Nat → Int32} {x_a1_threshold : Int32} {res : (Nat → Int32) × (Nat → Int32) × Int32} {H : Heap} {locs : List Loc} {ls : Array Slot} {a2 : Int32} {a3 : Int32} {a4 : Int32}
    (E : En cX9_step RX9 wsX9_step 6 none p s m args meth c) (hK : KK g s) (hA : ∀ q, s.heap.size ≤ q → A q) (h : f_X9_step x_regionOfCell x_queue x_queued x_a1_cells x_a1_threshold a2 a3 a4 = some res) (hW : Wo g A s H locs ((w_X9 g h0 h1 h2 h3 x_regionOfCell x_queue x_queued x_groupOfCell) ++ (w_X10 g h4 h5 x_a1_cells x_a1_threshold))) (hl : lv_has ls 6 [(0, .ref h0), (1, .ref h4), (2, .int a2), (3, .int a3), (4, .int a4)]) : G_X9_step p l e s m args below meth c g A h0 h1 h2 h3 h4 h5 x_groupOfCell x_a1_cells x_a1_threshold res H locs 0 ls [] := by
  have hts := E.2.2.2.1
  unfold f_X9_step at h
  refine lv_iload_n E.1 E.2.1 dX9_step_0 rfl (lv_at hl 3 rfl) ?_
  refine lv_iload E.1 E.2.1 dX9_step_1 (lv_at hl 4 rfl) ?_
  obtain ⟨r3, hc, h⟩ := bx h
  refine goI (world' := ((w_X9 g h0 h1 h2 h3 x_regionOfCell x_queue x_queued x_groupOfCell) ++ (w_X10 g h4 h5 x_a1_cells x_a1_threshold))) hW hA (is := []) rfl (goS (rest := []) E hK hW [] rfl rfl (c_X10_isCell l g a3 a4 (hf := hc) H.size) (va_cwS 2 hts gX9_step_X10_isCell rfl rfl rfl (by decide +kernel) ⟨Nat.le_of_ble_eq_true rfl, Nat.le_of_ble_eq_true rfl⟩) hl.1 rfl rfl (Nat.le_of_ble_eq_true rfl) dX9_step_3 ⟨Nat.zero_le _, Nat.zero_le _⟩) rfl rfl (fun H locs hW => ?_)
  refine lv_if_ne (tgt := 10) E.1 E.2.1 dX9_step_6 (by decide) (fun c6 => ?_) (fun c6 => ?_)
  · have h := ie c6 h
    obtain ⟨j49, hj49, h⟩ := jox3 h
    have J49 : ∀ (x_regionOfCell_49 : Nat → Int32) (x_queue_49 : Nat → Int32) (x_queued_49 : Int32) (H : Heap) (locs : List Loc) (ls : Array Slot), j49 x_regionOfCell_49 x_queue_49 x_queued_49 = some res → Wo g A s H locs ((w_X9 g h0 h1 h2 h3 x_regionOfCell_49 x_queue_49 x_queued_49 x_groupOfCell) ++ (w_X10 g h4 h5 x_a1_cells x_a1_threshold)) → lv_has ls 6 [] → G_X9_step p l e s m args below meth c g A h0 h1 h2 h3 h4 h5 x_groupOfCell x_a1_cells x_a1_threshold res H locs 49 ls [] := by
      intro x_regionOfCell_49 x_queue_49 x_queued_49 H locs ls h hW hl
      rw [hj49] at h
      obtain rfl := Option.some.inj h
      exact endV E hW dX9_step_49
    refine lv_iload_n E.1 E.2.1 dX9_step_10 rfl (lv_at hl 3 rfl) ?_
    refine lv_iload E.1 E.2.1 dX9_step_11 (lv_at hl 4 rfl) ?_
    obtain ⟨r13, hc, h⟩ := bx h
    refine goI (world' := ((w_X9 g h0 h1 h2 h3 x_regionOfCell x_queue x_queued x_groupOfCell) ++ (w_X10 g h4 h5 x_a1_cells x_a1_threshold))) hW hA (is := []) rfl (goS (rest := []) E hK hW [] rfl rfl (c_X10_cellOf l g a3 a4 (hf := hc) H.size) (va_cwS 2 hts gX9_step_X10_cellOf rfl rfl rfl (by decide +kernel) ⟨Nat.le_of_ble_eq_true rfl, Nat.le_of_ble_eq_true rfl⟩) hl.1 rfl rfl (Nat.le_of_ble_eq_true rfl) dX9_step_13 ⟨Nat.zero_le _, Nat.zero_le _⟩) rfl rfl (fun H locs hW => ?_)
    refine lv_istore (lv' := [(5, .int r13), (0, .ref h0), (1, .ref h4), (2, .int a2), (3, .int a3), (4, .int a4)]) E.1 E.2.1 dX9_step_16 hl (by decide) rfl (fun ls hl => ?_)
    refine lv_aload_n E.1 E.2.1 dX9_step_18 rfl (lv_at hl 1 rfl) ?_
    refine lv_iload E.1 E.2.1 dX9_step_19 (lv_at hl 0 rfl) ?_
    obtain ⟨r21, hc, h⟩ := bx h
    refine goI (world' := ((w_X9 g h0 h1 h2 h3 x_regionOfCell x_queue x_queued x_groupOfCell) ++ (w_X10 g h4 h5 x_a1_cells x_a1_threshold))) hW hA (is := [0, 1, 2, 3]) rfl (goV (rest := []) E hK hW [0, 1, 2, 3] rfl rfl (c_X9_regionOf l g h0 h1 h2 h3 x_regionOfCell x_queue x_queued x_groupOfCell r13 (hf := hc) H.size) (cwV 1 hts gX9_step_X9_regionOf rfl rfl rfl (by decide +kernel) ⟨Nat.le_of_ble_eq_true rfl, Nat.le_of_ble_eq_true rfl⟩) 0 rfl rfl rfl hl.1 rfl rfl (Nat.le_of_ble_eq_true rfl) dX9_step_21 ⟨Nat.zero_le _, Nat.zero_le _⟩) rfl rfl (fun H locs hW => ?_)
    refine lv_iconst (v := (-1)) E.1 E.2.1 dX9_step_24 (by decide) ?_
    refine lv_icmp_ne (tgt := 49) E.1 E.2.1 dX9_step_25 (by decide) (fun c25 => ?_) (fun c25 => ?_)
    · have h := ie c25 h
      exact J49 x_regionOfCell x_queue x_queued H locs ls h hW (lv_sub hl [] rfl)
    · have h := it c25 h
      refine lv_aload_n E.1 E.2.1 dX9_step_28 rfl (lv_at hl 2 rfl) ?_
      refine lv_iload_n E.1 E.2.1 dX9_step_29 rfl (lv_at hl 3 rfl) ?_
      refine lv_iload E.1 E.2.1 dX9_step_30 (lv_at hl 0 rfl) ?_
      obtain ⟨r32, hc, h⟩ := bx h
      refine goI (world' := ((w_X9 g h0 h1 h2 h3 x_regionOfCell x_queue x_queued x_groupOfCell) ++ (w_X10 g h4 h5 x_a1_cells x_a1_threshold))) hW hA (is := [4, 5]) rfl (goV (rest := []) E hK hW [4, 5] rfl rfl (c_X10_hasFront l g h4 h5 x_a1_cells x_a1_threshold a2 r13 (hf := hc) H.size) (cwV 2 hts gX9_step_X10_hasFront rfl rfl rfl (by decide +kernel) ⟨Nat.le_of_ble_eq_true rfl, Nat.le_of_ble_eq_true rfl⟩) 0 rfl rfl rfl hl.1 rfl rfl (Nat.le_of_ble_eq_true rfl) dX9_step_32 ⟨Nat.zero_le _, Nat.zero_le _⟩) rfl rfl (fun H locs hW => ?_)
      refine lv_if_ne (tgt := 49) E.1 E.2.1 dX9_step_35 (by decide) (fun c35 => ?_) (fun c35 => ?_)
      · have h := ie c35 h
        exact J49 x_regionOfCell x_queue x_queued H locs ls h hW (lv_sub hl [] rfl)
      · have h := it c35 h
        refine lv_aload_n E.1 E.2.1 dX9_step_38 rfl (lv_at hl 1 rfl) ?_
        refine lv_iload E.1 E.2.1 dX9_step_39 (lv_at hl 0 rfl) ?_
        refine lv_aload_n E.1 E.2.1 dX9_step_41 rfl (lv_at hl 1 rfl) ?_
        refine lv_iload_n E.1 E.2.1 dX9_step_42 rfl (lv_at hl 3 rfl) ?_
        obtain ⟨r43, hc, h⟩ := bx h
        refine goI (world' := ((w_X9 g h0 h1 h2 h3 x_regionOfCell x_queue x_queued x_groupOfCell) ++ (w_X10 g h4 h5 x_a1_cells x_a1_threshold))) hW hA (is := [0, 1, 2, 3]) rfl (goV (rest := [.int r13, .ref h0]) E hK hW [0, 1, 2, 3] rfl rfl (c_X9_regionOf l g h0 h1 h2 h3 x_regionOfCell x_queue x_queued x_groupOfCell a2 (hf := hc) H.size) (cwV 1 hts gX9_step_X9_regionOf rfl rfl rfl (by decide +kernel) ⟨Nat.le_of_ble_eq_true rfl, Nat.le_of_ble_eq_true rfl⟩) 0 rfl rfl rfl hl.1 rfl rfl (Nat.le_of_ble_eq_true rfl) dX9_step_43 ⟨Nat.zero_le _, Nat.zero_le _⟩) rfl rfl (fun H locs hW => ?_)
        obtain ⟨r46, hc, h⟩ := bx h
        refine goU (world' := ((w_X9 g h0 h1 h2 h3 r46.1 r46.2.1 r46.2.2 x_groupOfCell) ++ (w_X10 g h4 h5 x_a1_cells x_a1_threshold))) hW hA (is := [0, 1, 2, 3]) rfl (goV (rest := []) E hK hW [0, 1, 2, 3] rfl rfl (c_X9_enter l g h0 h1 h2 h3 x_regionOfCell x_queue x_queued x_groupOfCell r13 r43 (hf := hc) H.size) (cwV 2 hts gX9_step_X9_enter rfl rfl rfl (by decide +kernel) ⟨Nat.le_of_ble_eq_true rfl, Nat.le_of_ble_eq_true rfl⟩) 0 rfl rfl rfl hl.1 rfl rfl (Nat.le_of_ble_eq_true rfl) dX9_step_46 ⟨Nat.zero_le _, Nat.zero_le _⟩) rfl rfl (fun H locs hW => ?_)
        exact J49 r46.1 r46.2.1 r46.2.2 H locs ls h hW (lv_sub hl [] rfl)
  · have h := it c6 h
    obtain rfl := Option.some.inj h
    exact endV E hW dX9_step_9
theorem c_X9_step (l : Launch) (g : GE) (h0 h1 h2 h3 h4 h5 : Nat) (x_regionOfCell : Nat → Int32) (x_queue : Nat → Int32) (x_queued : Int32) (x_groupOfCell : Nat → Int32) (x_a1_cells : Nat → Int32) (x_a1_threshold : Int32) (a2 : Int32) (a3 : Int32) (a4 : Int32) {res : (Nat → Int32) × (Nat → Int32) × Int32} (hf : f_X9_step x_regionOfCell x_queue x_queued x_a1_cells x_a1_threshold a2 a3 a4 = some res) : CV l yX9_step wsX9_step rm_X9_step g [.ref h0, .ref h4, .int a2, .int a3, .int a4] ((w_X9 g h0 h1 h2 h3 x_regionOfCell x_queue x_queued x_groupOfCell) ++ (w_X10 g h4 h5 x_a1_cells x_a1_threshold)) ((w_X9 g h0 h1 h2 h3 res.1 res.2.1 res.2.2 x_groupOfCell) ++ (w_X10 g h4 h5 x_a1_cells x_a1_threshold)) :=
  mkV (cc := cX9_step) (maxL := 6) (by decide) rfl (Nat.le_of_ble_eq_true rfl) (fun p e s m args below meth c A H locs ls E hK hA hW hl => k_X9_step_0 E hK hA hf hW hl)

/-! PaperStorm$Regions.flood(LPaperStorm$Sheet;)I X9_flood -/
abbrev rm_X9_flood : Room := { frames := 3, cells := 0, slots := 0, locals := 70 }
theorem in_X9_flood_X9 : ∀ w ∈ wsX90, w ∈ wsX9_flood := by decide +kernel
theorem lk_X9_flood_15 : Cond.fieldLink RX9 15 "PaperStorm$Regions" "queue" "[I" ∈ wsX9_flood := by decide +kernel
theorem lk_X9_flood_18 : Cond.fieldLink RX9 18 "PaperStorm$Regions" "queued" "I" ∈ wsX9_flood := by decide +kernel
theorem lk_X9_flood_9 : Cond.fieldLink RX9 9 "PaperStorm$Regions" "regionOfCell" "[I" ∈ wsX9_flood := by decide +kernel
noncomputable def f_X9_flood_2 (z21 : (Nat → Int32) → Option (Int32 × (Nat → Int32) × (Nat → Int32) × Int32)) : Nat → Int32 → (Nat → Int32) → Option (Int32 × (Nat → Int32) × (Nat → Int32) × Int32)
  | 0, _, _ => none
  | n + 1, l2_2, x_regionOfCell_2 => if 25 ≤ l2_2 then z21 x_regionOfCell_2 else if l2_2 < 0 ∨ 25 ≤ l2_2.toNatClampNeg then none else f_X9_flood_2 z21 n (l2_2 + 1) (upd x_regionOfCell_2 l2_2.toNatClampNeg (-1))
noncomputable def f_X9_flood_30 (x_a1_cells : Nat → Int32) (x_a1_threshold : Int32) (z134 : Int32 → (Nat → Int32) → (Nat → Int32) → Int32 → Option (Int32 × (Nat → Int32) × (Nat → Int32) × Int32)) : Nat → Int32 → Int32 → (Nat → Int32) → (Nat → Int32) → Int32 → Option (Int32 × (Nat → Int32) × (Nat → Int32) × Int32)
  | 0, _, _, _, _, _ => none
  | n + 1, l2_30, l3_30, x_regionOfCell_30, x_queue_30, x_queued_30 => if 25 ≤ l3_30 then z134 l2_30 x_regionOfCell_30 x_queue_30 x_queued_30 else jo (fun (l2_56 : Int32) (x_regionOfCell_56 : Nat → Int32) (x_queue_56 : Nat → Int32) (x_queued_56 : Int32) => if l3_30 < 0 ∨ 25 ≤ l3_30.toNatClampNeg then none else (f_X9_step x_regionOfCell_56 x_queue_56 x_queued_56 x_a1_cells x_a1_threshold (x_queue_56 l3_30.toNatClampNeg) (((x_queue_56 l3_30.toNatClampNeg) / 5) - 1) ((x_queue_56 l3_30.toNatClampNeg) - (x_queue_56 l3_30.toNatClampNeg) / 5 * 5)).bind fun r86 => (f_X9_step r86.1 r86.2.1 r86.2.2 x_a1_cells x_a1_threshold (x_queue_56 l3_30.toNatClampNeg) (((x_queue_56 l3_30.toNatClampNeg) / 5) + 1) ((x_queue_56 l3_30.toNatClampNeg) - (x_queue_56 l3_30.toNatClampNeg) / 5 * 5)).bind fun r99 => (f_X9_step r99.1 r99.2.1 r99.2.2 x_a1_cells x_a1_threshold (x_queue_56 l3_30.toNatClampNeg) ((x_queue_56 l3_30.toNatClampNeg) / 5) (((x_queue_56 l3_30.toNatClampNeg) - (x_queue_56 l3_30.toNatClampNeg) / 5 * 5) - 1)).bind fun r112 => (f_X9_step r112.1 r112.2.1 r112.2.2 x_a1_cells x_a1_threshold (x_queue_56 l3_30.toNatClampNeg) ((x_queue_56 l3_30.toNatClampNeg) / 5) (((x_queue_56 l3_30.toNatClampNeg) - (x_queue_56 l3_30.toNatClampNeg) / 5 * 5) + 1)).bind fun r125 => f_X9_flood_30 x_a1_cells x_a1_threshold z134 n l2_56 (l3_30 + 1) r125.1 r125.2.1 r125.2.2) (fun j56 => if l3_30 = x_queued_30 then (f_X9_firstUnreached x_regionOfCell_30).bind fun r46 => (f_X9_enter x_regionOfCell_30 x_queue_30 x_queued_30 r46 l2_30).bind fun r50 => j56 (l2_30 + 1) r50.1 r50.2.1 r50.2.2 else j56 l2_30 x_regionOfCell_30 x_queue_30 x_queued_30)
noncomputable def f_X9_flood (x_regionOfCell : Nat → Int32) (x_queue : Nat → Int32) (x_queued : Int32) (x_a1_cells : Nat → Int32) (x_a1_threshold : Int32) : Option (Int32 × (Nat → Int32) × (Nat → Int32) × Int32) :=
  f_X9_flood_2 (fun x_regionOfCell_21e => f_X9_flood_30 x_a1_cells x_a1_threshold (fun l2_134e x_regionOfCell_134e x_queue_134e x_queued_134e => some (l2_134e, x_regionOfCell_134e, x_queue_134e, x_queued_134e)) 1000 0 0 x_regionOfCell_21e x_queue 0) 1000 0 x_regionOfCell
abbrev G_X9_flood (p : Program) (l : Launch) (e : Env) (s : State) (m : MethodId) (args : Array Value) (below : List Frame) (meth : Method) (c : Code) (g : GE) (A : Nat → Prop) (h0 h1 h2 h3 h4 h5 : Nat) (x_groupOfCell : Nat → Int32) (x_a1_cells : Nat → Int32) (x_a1_threshold : Int32) (res : Int32 × (Nat → Int32) × (Nat → Int32) × Int32) (H : Heap) (locs : List Loc) (pc : Nat) (ls : Array Slot) (st : List Value) : Prop := W p l e (headSpec wsX9_flood rm_X9_flood).room s m args below meth c H locs 0 0 (MQ below (PoI g A ((w_X9 g h0 h1 h2 h3 res.2.1 res.2.2.1 res.2.2.2 x_groupOfCell) ++ (w_X10 g h4 h5 x_a1_cells x_a1_threshold)) res.1) args s 0 0 A) (F0 m pc ls st)
set_option maxHeartbeats 4000000 in
set_option maxRecDepth 100000 in
theorem k_X9_flood_2 {p : Program} {l : Launch} {e : Env} {s : State} {m : MethodId} {args : Array Value} {below : List Frame} {meth : Method} {c : Code} {g : GE} {A : Nat → Prop} {h0 h1 h2 h3 h4 h5 : Nat} {x_queue : Nat → Int32} {x_queued : Int32} {x_groupOfCell : Nat → Int32} {x_a1_cells : Nat → Int32} {x_a1_threshold : Int32} {res : Int32 × (Nat → Int32) × (Nat → Int32) × Int32} {z21 : (Nat → Int32) → Option (Int32 × (Nat → Int32) × (Nat → Int32) × Int32)}
    (E : En cX9_flood RX9 wsX9_flood 7 (some .int) p s m args meth c) (hK : KK g s) (hA : ∀ q, s.heap.size ≤ q → A q)
    (hz21 : ∀ (x_regionOfCell_21e : Nat → Int32) (H : Heap) (locs : List Loc) (ls : Array Slot), z21 x_regionOfCell_21e = some res → Wo g A s H locs ((w_X9 g h0 h1 h2 h3 x_regionOfCell_21e x_queue x_queued x_groupOfCell) ++ (w_X10 g h4 h5 x_a1_cells x_a1_threshold)) → lv_has ls 7 [(0, .ref h0), (1, .ref h4)] → G_X9_flood p l e s m args below meth c g A h0 h1 h2 h3 h4 h5 x_groupOfCell x_a1_cells x_a1_threshold res H locs 21 ls [])
    : ∀ (n : Nat) (l2_2 : Int32) (x_regionOfCell_2 : Nat → Int32) (H : Heap) (locs : List Loc) (ls : Array Slot), f_X9_flood_2 z21 n l2_2 x_regionOfCell_2 = some res → Wo g A s H locs ((w_X9 g h0 h1 h2 h3 x_regionOfCell_2 x_queue x_queued x_groupOfCell) ++ (w_X10 g h4 h5 x_a1_cells x_a1_threshold)) → lv_has ls 7 [(0, .ref h0), (1, .ref h4), (2, .int l2_2)] → G_X9_flood p l e s m args below meth c g A h0 h1 h2 h3 h4 h5 x_groupOfCell x_a1_cells x_a1_threshold res H locs 2 ls [] := by
  have hts := E.2.2.2.1
  intro n
  induction n with
  | zero => intro l2_2 x_regionOfCell_2 H locs ls h hW hl; rw [f_X9_flood_2] at h; cases h
  | succ n ih =>
    intro l2_2 x_regionOfCell_2 H locs ls h hW hl
    rw [f_X9_flood_2] at h
    refine lv_iload_n E.1 E.2.1 dX9_flood_2 rfl (lv_at hl 2 rfl) ?_
    refine lv_bipush (v := 25) E.1 E.2.1 dX9_flood_3 (by decide) ?_
    refine lv_icmp_ge (tgt := 21) E.1 E.2.1 dX9_flood_5 (by decide) (fun c5 => ?_) (fun c5 => ?_)
    · have h := it c5 h
      exact hz21 x_regionOfCell_2 H locs ls h hW (lv_sub hl [0, 1] rfl)
    · have h := ie c5 h
      refine lv_aload_n E.1 E.2.1 dX9_flood_8 rfl (lv_at hl 0 rfl) ?_
      refine wGet (v := .ref h1) E hK in_X9_flood_X9 hW 0 lk_X9_flood_9 0 rfl rfl (by decide) rfl rfl dX9_flood_9 ?_
      refine lv_iload_n E.1 E.2.1 dX9_flood_12 rfl (lv_at hl 2 rfl) ?_
      refine lv_iconst (v := (-1)) E.1 E.2.1 dX9_flood_13 (by decide) ?_
      obtain ⟨hi14, h⟩ := ox h
      refine wIast (world' := ((w_X9 g h0 h1 h2 h3 (upd x_regionOfCell_2 l2_2.toNatClampNeg (-1)) x_queue x_queued x_groupOfCell) ++ (w_X10 g h4 h5 x_a1_cells x_a1_threshold))) E hK hW 1 rfl hi14 dX9_flood_14 rfl (fun H locs hW => ?_)
      refine lv_iinc (v := (l2_2 + 1)) (lv' := [(2, .int (l2_2 + 1)), (0, .ref h0), (1, .ref h4)]) E.1 E.2.1 dX9_flood_15 hl (k := 2) rfl rfl (by decide) rfl (fun ls hl => ?_)
      refine lv_goto (tgt := 2) E.1 E.2.1 dX9_flood_18 (by decide) ?_
      exact ih (l2_2 + 1) (upd x_regionOfCell_2 l2_2.toNatClampNeg (-1)) H locs ls h hW (lv_sub hl [1, 2, 0] rfl)
set_option maxHeartbeats 4000000 in
set_option maxRecDepth 100000 in
theorem k_X9_flood_30 {p : Program} {l : Launch} {e : Env} {s : State} {m : MethodId} {args : Array Value} {below : List Frame} {meth : Method} {c : Code} {g : GE} {A : Nat → Prop} {h0 h1 h2 h3 h4 h5 : Nat} {x_groupOfCell : Nat → Int32} {x_a1_cells : Nat → Int32} {x_a1_threshold : Int32} {res : Int32 × (Nat → Int32) × (Nat → Int32) × Int32} {z134 : Int32 → (Nat → Int32) → (Nat → Int32) → Int32 → Option (Int32 × (Nat → Int32) × (Nat → Int32) × Int32)}
    (E : En cX9_flood RX9 wsX9_flood 7 (some .int) p s m args meth c) (hK : KK g s) (hA : ∀ q, s.heap.size ≤ q → A q)
    (hz134 : ∀ (l2_134e : Int32) (x_regionOfCell_134e : Nat → Int32) (x_queue_134e : Nat → Int32) (x_queued_134e : Int32) (H : Heap) (locs : List Loc) (ls : Array Slot), z134 l2_134e x_regionOfCell_134e x_queue_134e x_queued_134e = some res → Wo g A s H locs ((w_X9 g h0 h1 h2 h3 x_regionOfCell_134e x_queue_134e x_queued_134e x_groupOfCell) ++ (w_X10 g h4 h5 x_a1_cells x_a1_threshold)) → lv_has ls 7 [(2, .int l2_134e)] → G_X9_flood p l e s m args below meth c g A h0 h1 h2 h3 h4 h5 x_groupOfCell x_a1_cells x_a1_threshold res H locs 134 ls [])
    : ∀ (n : Nat) (l2_30 : Int32) (l3_30 : Int32) (x_regionOfCell_30 : Nat → Int32) (x_queue_30 : Nat → Int32) (x_queued_30 : Int32) (H : Heap) (locs : List Loc) (ls : Array Slot), f_X9_flood_30 x_a1_cells x_a1_threshold z134 n l2_30 l3_30 x_regionOfCell_30 x_queue_30 x_queued_30 = some res → Wo g A s H locs ((w_X9 g h0 h1 h2 h3 x_regionOfCell_30 x_queue_30 x_queued_30 x_groupOfCell) ++ (w_X10 g h4 h5 x_a1_cells x_a1_threshold)) → lv_has ls 7 [(0, .ref h0), (1, .ref h4), (2, .int l2_30), (3, .int l3_30)] → G_X9_flood p l e s m args below meth c g A h0 h1 h2 h3 h4 h5 x_groupOfCell x_a1_cells x_a1_threshold res H locs 30 ls [] := by
  have hts := E.2.2.2.1
  intro n
  induction n with
  | zero => intro l2_30 l3_30 x_regionOfCell_30 x_queue_30 x_queued_30 H locs ls h hW hl; rw [f_X9_flood_30] at h; cases h
  | succ n ih =>
    intro l2_30 l3_30 x_regionOfCell_30 x_queue_30 x_queued_30 H locs ls h hW hl
    rw [f_X9_flood_30] at h
    refine lv_iload_n E.1 E.2.1 dX9_flood_30 rfl (lv_at hl 3 rfl) ?_
    refine lv_bipush (v := 25) E.1 E.2.1 dX9_flood_31 (by decide) ?_
    refine lv_icmp_ge (tgt := 134) E.1 E.2.1 dX9_flood_33 (by decide) (fun c33 => ?_) (fun c33 => ?_)
    · have h := it c33 h
      exact hz134 l2_30 x_regionOfCell_30 x_queue_30 x_queued_30 H locs ls h hW (lv_sub hl [2] rfl)
    · have h := ie c33 h
      obtain ⟨j56, hj56, h⟩ := jox4 h
      have J56 : ∀ (l2_56 : Int32) (x_regionOfCell_56 : Nat → Int32) (x_queue_56 : Nat → Int32) (x_queued_56 : Int32) (H : Heap) (locs : List Loc) (ls : Array Slot), j56 l2_56 x_regionOfCell_56 x_queue_56 x_queued_56 = some res → Wo g A s H locs ((w_X9 g h0 h1 h2 h3 x_regionOfCell_56 x_queue_56 x_queued_56 x_groupOfCell) ++ (w_X10 g h4 h5 x_a1_cells x_a1_threshold)) → lv_has ls 7 [(0, .ref h0), (1, .ref h4), (2, .int l2_56), (3, .int l3_30)] → G_X9_flood p l e s m args below meth c g A h0 h1 h2 h3 h4 h5 x_groupOfCell x_a1_cells x_a1_threshold res H locs 56 ls [] := by
        intro l2_56 x_regionOfCell_56 x_queue_56 x_queued_56 H locs ls h hW hl
        rw [hj56] at h
        refine lv_aload_n E.1 E.2.1 dX9_flood_56 rfl (lv_at hl 0 rfl) ?_
        refine wGet (v := .ref h2) E hK in_X9_flood_X9 hW 1 lk_X9_flood_15 0 rfl rfl (by decide) rfl rfl dX9_flood_57 ?_
        refine lv_iload_n E.1 E.2.1 dX9_flood_60 rfl (lv_at hl 3 rfl) ?_
        obtain ⟨hi61, h⟩ := ox h
        refine wIald E hK hW 2 rfl hi61 dX9_flood_61 ?_
        refine lv_istore (lv' := [(4, .int (x_queue_56 l3_30.toNatClampNeg)), (0, .ref h0), (1, .ref h4), (2, .int l2_56), (3, .int l3_30)]) E.1 E.2.1 dX9_flood_62 hl (by decide) rfl (fun ls hl => ?_)
        refine lv_iload E.1 E.2.1 dX9_flood_64 (lv_at hl 0 rfl) ?_
        refine lv_iconst (v := 5) E.1 E.2.1 dX9_flood_66 (by decide) ?_
        refine lv_idiv E.1 E.2.1 dX9_flood_67 (by decide) ?_
        refine lv_istore (lv' := [(5, .int ((x_queue_56 l3_30.toNatClampNeg) / 5)), (4, .int (x_queue_56 l3_30.toNatClampNeg)), (0, .ref h0), (1, .ref h4), (2, .int l2_56), (3, .int l3_30)]) E.1 E.2.1 dX9_flood_68 hl (by decide) rfl (fun ls hl => ?_)
        refine lv_iload E.1 E.2.1 dX9_flood_70 (lv_at hl 1 rfl) ?_
        refine lv_iconst (v := 5) E.1 E.2.1 dX9_flood_72 (by decide) ?_
        refine lv_irem E.1 E.2.1 dX9_flood_73 (by decide) ?_
        refine lv_istore (lv' := [(6, .int ((x_queue_56 l3_30.toNatClampNeg) - (x_queue_56 l3_30.toNatClampNeg) / 5 * 5)), (5, .int ((x_queue_56 l3_30.toNatClampNeg) / 5)), (4, .int (x_queue_56 l3_30.toNatClampNeg)), (0, .ref h0), (1, .ref h4), (2, .int l2_56), (3, .int l3_30)]) E.1 E.2.1 dX9_flood_74 hl (by decide) rfl (fun ls hl => ?_)
        refine lv_aload_n E.1 E.2.1 dX9_flood_76 rfl (lv_at hl 3 rfl) ?_
        refine lv_aload_n E.1 E.2.1 dX9_flood_77 rfl (lv_at hl 4 rfl) ?_
        refine lv_iload E.1 E.2.1 dX9_flood_78 (lv_at hl 2 rfl) ?_
        refine lv_iload E.1 E.2.1 dX9_flood_80 (lv_at hl 1 rfl) ?_
        refine lv_iconst (v := 1) E.1 E.2.1 dX9_flood_82 (by decide) ?_
        refine lv_isub E.1 E.2.1 dX9_flood_83 ?_
        refine lv_iload E.1 E.2.1 dX9_flood_84 (lv_at hl 0 rfl) ?_
        obtain ⟨r86, hc, h⟩ := bx h
        refine goU (world' := ((w_X9 g h0 h1 h2 h3 r86.1 r86.2.1 r86.2.2 x_groupOfCell) ++ (w_X10 g h4 h5 x_a1_cells x_a1_threshold))) hW hA (is := [0, 1, 2, 3, 4, 5]) rfl (goV (rest := []) E hK hW [0, 1, 2, 3, 4, 5] rfl rfl (c_X9_step l g h0 h1 h2 h3 h4 h5 x_regionOfCell_56 x_queue_56 x_queued_56 x_groupOfCell x_a1_cells x_a1_threshold (x_queue_56 l3_30.toNatClampNeg) (((x_queue_56 l3_30.toNatClampNeg) / 5) - 1) ((x_queue_56 l3_30.toNatClampNeg) - (x_queue_56 l3_30.toNatClampNeg) / 5 * 5) (hf := hc) H.size) (cwV 4 hts gX9_flood_X9_step rfl rfl rfl (by decide +kernel) ⟨Nat.le_of_ble_eq_true rfl, Nat.le_of_ble_eq_true rfl⟩) 0 rfl rfl rfl hl.1 rfl rfl (Nat.le_of_ble_eq_true rfl) dX9_flood_86 ⟨Nat.zero_le _, Nat.zero_le _⟩) rfl rfl (fun H locs hW => ?_)
        refine lv_aload_n E.1 E.2.1 dX9_flood_89 rfl (lv_at hl 3 rfl) ?_
        refine lv_aload_n E.1 E.2.1 dX9_flood_90 rfl (lv_at hl 4 rfl) ?_
        refine lv_iload E.1 E.2.1 dX9_flood_91 (lv_at hl 2 rfl) ?_
        refine lv_iload E.1 E.2.1 dX9_flood_93 (lv_at hl 1 rfl) ?_
        refine lv_iconst (v := 1) E.1 E.2.1 dX9_flood_95 (by decide) ?_
        refine lv_iadd E.1 E.2.1 dX9_flood_96 ?_
        refine lv_iload E.1 E.2.1 dX9_flood_97 (lv_at hl 0 rfl) ?_
        obtain ⟨r99, hc, h⟩ := bx h
        refine goU (world' := ((w_X9 g h0 h1 h2 h3 r99.1 r99.2.1 r99.2.2 x_groupOfCell) ++ (w_X10 g h4 h5 x_a1_cells x_a1_threshold))) hW hA (is := [0, 1, 2, 3, 4, 5]) rfl (goV (rest := []) E hK hW [0, 1, 2, 3, 4, 5] rfl rfl (c_X9_step l g h0 h1 h2 h3 h4 h5 r86.1 r86.2.1 r86.2.2 x_groupOfCell x_a1_cells x_a1_threshold (x_queue_56 l3_30.toNatClampNeg) (((x_queue_56 l3_30.toNatClampNeg) / 5) + 1) ((x_queue_56 l3_30.toNatClampNeg) - (x_queue_56 l3_30.toNatClampNeg) / 5 * 5) (hf := hc) H.size) (cwV 4 hts gX9_flood_X9_step rfl rfl rfl (by decide +kernel) ⟨Nat.le_of_ble_eq_true rfl, Nat.le_of_ble_eq_true rfl⟩) 0 rfl rfl rfl hl.1 rfl rfl (Nat.le_of_ble_eq_true rfl) dX9_flood_99 ⟨Nat.zero_le _, Nat.zero_le _⟩) rfl rfl (fun H locs hW => ?_)
        refine lv_aload_n E.1 E.2.1 dX9_flood_102 rfl (lv_at hl 3 rfl) ?_
        refine lv_aload_n E.1 E.2.1 dX9_flood_103 rfl (lv_at hl 4 rfl) ?_
        refine lv_iload E.1 E.2.1 dX9_flood_104 (lv_at hl 2 rfl) ?_
        refine lv_iload E.1 E.2.1 dX9_flood_106 (lv_at hl 1 rfl) ?_
        refine lv_iload E.1 E.2.1 dX9_flood_108 (lv_at hl 0 rfl) ?_
        refine lv_iconst (v := 1) E.1 E.2.1 dX9_flood_110 (by decide) ?_
        refine lv_isub E.1 E.2.1 dX9_flood_111 ?_
        obtain ⟨r112, hc, h⟩ := bx h
        refine goU (world' := ((w_X9 g h0 h1 h2 h3 r112.1 r112.2.1 r112.2.2 x_groupOfCell) ++ (w_X10 g h4 h5 x_a1_cells x_a1_threshold))) hW hA (is := [0, 1, 2, 3, 4, 5]) rfl (goV (rest := []) E hK hW [0, 1, 2, 3, 4, 5] rfl rfl (c_X9_step l g h0 h1 h2 h3 h4 h5 r99.1 r99.2.1 r99.2.2 x_groupOfCell x_a1_cells x_a1_threshold (x_queue_56 l3_30.toNatClampNeg) ((x_queue_56 l3_30.toNatClampNeg) / 5) (((x_queue_56 l3_30.toNatClampNeg) - (x_queue_56 l3_30.toNatClampNeg) / 5 * 5) - 1) (hf := hc) H.size) (cwV 4 hts gX9_flood_X9_step rfl rfl rfl (by decide +kernel) ⟨Nat.le_of_ble_eq_true rfl, Nat.le_of_ble_eq_true rfl⟩) 0 rfl rfl rfl hl.1 rfl rfl (Nat.le_of_ble_eq_true rfl) dX9_flood_112 ⟨Nat.zero_le _, Nat.zero_le _⟩) rfl rfl (fun H locs hW => ?_)
        refine lv_aload_n E.1 E.2.1 dX9_flood_115 rfl (lv_at hl 3 rfl) ?_
        refine lv_aload_n E.1 E.2.1 dX9_flood_116 rfl (lv_at hl 4 rfl) ?_
        refine lv_iload E.1 E.2.1 dX9_flood_117 (lv_at hl 2 rfl) ?_
        refine lv_iload E.1 E.2.1 dX9_flood_119 (lv_at hl 1 rfl) ?_
        refine lv_iload E.1 E.2.1 dX9_flood_121 (lv_at hl 0 rfl) ?_
        refine lv_iconst (v := 1) E.1 E.2.1 dX9_flood_123 (by decide) ?_
        refine lv_iadd E.1 E.2.1 dX9_flood_124 ?_
        obtain ⟨r125, hc, h⟩ := bx h
        refine goU (world' := ((w_X9 g h0 h1 h2 h3 r125.1 r125.2.1 r125.2.2 x_groupOfCell) ++ (w_X10 g h4 h5 x_a1_cells x_a1_threshold))) hW hA (is := [0, 1, 2, 3, 4, 5]) rfl (goV (rest := []) E hK hW [0, 1, 2, 3, 4, 5] rfl rfl (c_X9_step l g h0 h1 h2 h3 h4 h5 r112.1 r112.2.1 r112.2.2 x_groupOfCell x_a1_cells x_a1_threshold (x_queue_56 l3_30.toNatClampNeg) ((x_queue_56 l3_30.toNatClampNeg) / 5) (((x_queue_56 l3_30.toNatClampNeg) - (x_queue_56 l3_30.toNatClampNeg) / 5 * 5) + 1) (hf := hc) H.size) (cwV 4 hts gX9_flood_X9_step rfl rfl rfl (by decide +kernel) ⟨Nat.le_of_ble_eq_true rfl, Nat.le_of_ble_eq_true rfl⟩) 0 rfl rfl rfl hl.1 rfl rfl (Nat.le_of_ble_eq_true rfl) dX9_flood_125 ⟨Nat.zero_le _, Nat.zero_le _⟩) rfl rfl (fun H locs hW => ?_)
        refine lv_iinc (v := (l3_30 + 1)) (lv' := [(3, .int (l3_30 + 1)), (6, .int ((x_queue_56 l3_30.toNatClampNeg) - (x_queue_56 l3_30.toNatClampNeg) / 5 * 5)), (5, .int ((x_queue_56 l3_30.toNatClampNeg) / 5)), (4, .int (x_queue_56 l3_30.toNatClampNeg)), (0, .ref h0), (1, .ref h4), (2, .int l2_56)]) E.1 E.2.1 dX9_flood_128 hl (k := 6) rfl rfl (by decide) rfl (fun ls hl => ?_)
        refine lv_goto (tgt := 30) E.1 E.2.1 dX9_flood_131 (by decide) ?_
        exact ih l2_56 (l3_30 + 1) r125.1 r125.2.1 r125.2.2 H locs ls h hW (lv_sub hl [4, 5, 6, 0] rfl)
      refine lv_iload_n E.1 E.2.1 dX9_flood_36 rfl (lv_at hl 3 rfl) ?_
      refine lv_aload_n E.1 E.2.1 dX9_flood_37 rfl (lv_at hl 0 rfl) ?_
      refine wGet (v := .int x_queued_30) E hK in_X9_flood_X9 hW 2 lk_X9_flood_18 0 rfl rfl (by decide) rfl rfl dX9_flood_38 ?_
      refine lv_icmp_ne (tgt := 56) E.1 E.2.1 dX9_flood_41 (by decide) (fun c41 => ?_) (fun c41 => ?_)
      · have h := ie c41 h
        exact J56 l2_30 x_regionOfCell_30 x_queue_30 x_queued_30 H locs ls h hW (lv_sub hl [0, 1, 2, 3] rfl)
      · have h := it c41 h
        refine lv_aload_n E.1 E.2.1 dX9_flood_44 rfl (lv_at hl 0 rfl) ?_
        refine lv_aload_n E.1 E.2.1 dX9_flood_45 rfl (lv_at hl 0 rfl) ?_
        obtain ⟨r46, hc, h⟩ := bx h
        refine goI (world' := ((w_X9 g h0 h1 h2 h3 x_regionOfCell_30 x_queue_30 x_queued_30 x_groupOfCell) ++ (w_X10 g h4 h5 x_a1_cells x_a1_threshold))) hW hA (is := [0, 1, 2, 3]) rfl (goV (rest := [.ref h0]) E hK hW [0, 1, 2, 3] rfl rfl (c_X9_firstUnreached l g h0 h1 h2 h3 x_regionOfCell_30 x_queue_30 x_queued_30 x_groupOfCell (hf := hc) H.size) (cwV 0 hts gX9_flood_X9_firstUnreached rfl rfl rfl (by decide +kernel) ⟨Nat.le_of_ble_eq_true rfl, Nat.le_of_ble_eq_true rfl⟩) 0 rfl rfl rfl hl.1 rfl rfl (Nat.le_of_ble_eq_true rfl) dX9_flood_46 ⟨Nat.zero_le _, Nat.zero_le _⟩) rfl rfl (fun H locs hW => ?_)
        refine lv_iload_n E.1 E.2.1 dX9_flood_49 rfl (lv_at hl 2 rfl) ?_
        obtain ⟨r50, hc, h⟩ := bx h
        refine goU (world' := ((w_X9 g h0 h1 h2 h3 r50.1 r50.2.1 r50.2.2 x_groupOfCell) ++ (w_X10 g h4 h5 x_a1_cells x_a1_threshold))) hW hA (is := [0, 1, 2, 3]) rfl (goV (rest := []) E hK hW [0, 1, 2, 3] rfl rfl (c_X9_enter l g h0 h1 h2 h3 x_regionOfCell_30 x_queue_30 x_queued_30 x_groupOfCell r46 l2_30 (hf := hc) H.size) (cwV 2 hts gX9_flood_X9_enter rfl rfl rfl (by decide +kernel) ⟨Nat.le_of_ble_eq_true rfl, Nat.le_of_ble_eq_true rfl⟩) 0 rfl rfl rfl hl.1 rfl rfl (Nat.le_of_ble_eq_true rfl) dX9_flood_50 ⟨Nat.zero_le _, Nat.zero_le _⟩) rfl rfl (fun H locs hW => ?_)
        refine lv_iinc (v := (l2_30 + 1)) (lv' := [(2, .int (l2_30 + 1)), (0, .ref h0), (1, .ref h4), (3, .int l3_30)]) E.1 E.2.1 dX9_flood_53 hl (k := 2) rfl rfl (by decide) rfl (fun ls hl => ?_)
        exact J56 (l2_30 + 1) r50.1 r50.2.1 r50.2.2 H locs ls h hW (lv_sub hl [1, 2, 0, 3] rfl)
set_option maxHeartbeats 4000000 in
set_option maxRecDepth 100000 in
theorem k_X9_flood_0 {p : Program} {l : Launch} {e : Env} {s : State} {m : MethodId} {args : Array Value} {below : List Frame} {meth : Method} {c : Code} {g : GE} {A : Nat → Prop} {h0 h1 h2 h3 h4 h5 : Nat} {x_regionOfCell : Nat → Int32} {x_queue : Nat → Int32} {x_queued : Int32} {x_groupOfCell : Nat → Int32} {x_a1_cells : Nat → Int32} {x_a1_threshold : Int32} {res : Int32 × (Nat → Int32) × (Nat → Int32) × Int32} {H : Heap} {locs : List Loc} {ls : Array Slot} 
    (E : En cX9_flood RX9 wsX9_flood 7 (some .int) p s m args meth c) (hK : KK g s) (hA : ∀ q, s.heap.size ≤ q → A q) (h : f_X9_flood x_regionOfCell x_queue x_queued x_a1_cells x_a1_threshold = some res) (hW : Wo g A s H locs ((w_X9 g h0 h1 h2 h3 x_regionOfCell x_queue x_queued x_groupOfCell) ++ (w_X10 g h4 h5 x_a1_cells x_a1_threshold))) (hl : lv_has ls 7 [(0, .ref h0), (1, .ref h4)]) : G_X9_flood p l e s m args below meth c g A h0 h1 h2 h3 h4 h5 x_groupOfCell x_a1_cells x_a1_threshold res H locs 0 ls [] := by
  have hts := E.2.2.2.1
  unfold f_X9_flood at h
  refine lv_iconst (v := 0) E.1 E.2.1 dX9_flood_0 (by decide) ?_
  refine lv_istore_n (lv' := [(2, .int 0), (0, .ref h0), (1, .ref h4)]) E.1 E.2.1 dX9_flood_1 rfl hl (by decide) rfl (fun ls hl => ?_)
  refine k_X9_flood_2 E hK hA ?_ 1000 0 x_regionOfCell H locs ls h hW (lv_sub hl [1, 2, 0] rfl)
  · intro x_regionOfCell_21e H locs ls h hW hl
    refine lv_aload_n E.1 E.2.1 dX9_flood_21 rfl (lv_at hl 0 rfl) ?_
    refine lv_iconst (v := 0) E.1 E.2.1 dX9_flood_22 (by decide) ?_
    refine wPut (world' := ((w_X9 g h0 h1 h2 h3 x_regionOfCell_21e x_queue 0 x_groupOfCell) ++ (w_X10 g h4 h5 x_a1_cells x_a1_threshold))) E hK in_X9_flood_X9 tyX9 tyX9_ok nmX9 hW 2 lk_X9_flood_18 0 rfl rfl (by decide) rfl rfl rfl rfl rfl (Nat.le_of_ble_eq_true rfl) dX9_flood_23 rfl (fun H locs hW => ?_)
    refine lv_iconst (v := 0) E.1 E.2.1 dX9_flood_26 (by decide) ?_
    refine lv_istore_n (lv' := [(2, .int 0), (0, .ref h0), (1, .ref h4)]) E.1 E.2.1 dX9_flood_27 rfl hl (by decide) rfl (fun ls hl => ?_)
    refine lv_iconst (v := 0) E.1 E.2.1 dX9_flood_28 (by decide) ?_
    refine lv_istore_n (lv' := [(3, .int 0), (2, .int 0), (0, .ref h0), (1, .ref h4)]) E.1 E.2.1 dX9_flood_29 rfl hl (by decide) rfl (fun ls hl => ?_)
    refine k_X9_flood_30 E hK hA ?_ 1000 0 0 x_regionOfCell_21e x_queue 0 H locs ls h hW (lv_sub hl [2, 3, 1, 0] rfl)
    · intro l2_134e x_regionOfCell_134e x_queue_134e x_queued_134e H locs ls h hW hl
      refine lv_iload_n E.1 E.2.1 dX9_flood_134 rfl (lv_at hl 0 rfl) ?_
      obtain rfl := Option.some.inj h
      exact endI E rfl hW dX9_flood_135
theorem c_X9_flood (l : Launch) (g : GE) (h0 h1 h2 h3 h4 h5 : Nat) (x_regionOfCell : Nat → Int32) (x_queue : Nat → Int32) (x_queued : Int32) (x_groupOfCell : Nat → Int32) (x_a1_cells : Nat → Int32) (x_a1_threshold : Int32) {res : Int32 × (Nat → Int32) × (Nat → Int32) × Int32} (hf : f_X9_flood x_regionOfCell x_queue x_queued x_a1_cells x_a1_threshold = some res) : CI l yX9_flood wsX9_flood rm_X9_flood g [.ref h0, .ref h4] ((w_X9 g h0 h1 h2 h3 x_regionOfCell x_queue x_queued x_groupOfCell) ++ (w_X10 g h4 h5 x_a1_cells x_a1_threshold)) ((w_X9 g h0 h1 h2 h3 res.2.1 res.2.2.1 res.2.2.2 x_groupOfCell) ++ (w_X10 g h4 h5 x_a1_cells x_a1_threshold)) res.1 :=
  mkI (cc := cX9_flood) (maxL := 7) (by decide) rfl (Nat.le_of_ble_eq_true rfl) (fun p e s m args below meth c A H locs ls E hK hA hW hl => k_X9_flood_0 E hK hA hf hW hl)

/-! PaperStorm$Regions.sizeAround(I)I X9_sizeAround -/
abbrev rm_X9_sizeAround : Room := { frames := 1, cells := 0, slots := 0, locals := 21 }
theorem in_X9_sizeAround_X9 : ∀ w ∈ wsX90, w ∈ wsX9_sizeAround := by decide +kernel
theorem lk_X9_sizeAround_9 : Cond.fieldLink RX9 9 "PaperStorm$Regions" "regionOfCell" "[I" ∈ wsX9_sizeAround := by decide +kernel
noncomputable def f_X9_sizeAround_11 (x_regionOfCell : Nat → Int32) (l2 : Int32) (z38 : Int32 → Option (Int32)) : Nat → Int32 → Int32 → Option (Int32)
  | 0, _, _ => none
  | n + 1, l3_11, l4_11 => if 25 ≤ l4_11 then z38 l3_11 else jo (fun (l3_32 : Int32) => f_X9_sizeAround_11 x_regionOfCell l2 z38 n l3_32 (l4_11 + 1)) (fun j32 => if l4_11 < 0 ∨ 25 ≤ l4_11.toNatClampNeg then none else if (x_regionOfCell l4_11.toNatClampNeg) = l2 then j32 (l3_11 + 1) else j32 l3_11)
noncomputable def f_X9_sizeAround (x_regionOfCell : Nat → Int32) (a1 : Int32) : Option (Int32) :=
  (f_X9_regionOf x_regionOfCell a1).bind fun r2 => f_X9_sizeAround_11 x_regionOfCell r2 (fun l3_38e => some (l3_38e)) 1000 0 0
abbrev G_X9_sizeAround (p : Program) (l : Launch) (e : Env) (s : State) (m : MethodId) (args : Array Value) (below : List Frame) (meth : Method) (c : Code) (g : GE) (A : Nat → Prop) (h0 h1 h2 h3 : Nat) (x_regionOfCell : Nat → Int32) (x_queue : Nat → Int32) (x_queued : Int32) (x_groupOfCell : Nat → Int32) (res : Int32) (H : Heap) (locs : List Loc) (pc : Nat) (ls : Array Slot) (st : List Value) : Prop := W p l e (headSpec wsX9_sizeAround rm_X9_sizeAround).room s m args below meth c H locs 0 0 (MQ below (PoI g A (w_X9 g h0 h1 h2 h3 x_regionOfCell x_queue x_queued x_groupOfCell) res) args s 0 0 A) (F0 m pc ls st)
set_option maxHeartbeats 4000000 in
set_option maxRecDepth 100000 in
theorem k_X9_sizeAround_11 {p : Program} {l : Launch} {e : Env} {s : State} {m : MethodId} {args : Array Value} {below : List Frame} {meth : Method} {c : Code} {g : GE} {A : Nat → Prop} {h0 h1 h2 h3 : Nat} {x_regionOfCell : Nat → Int32} {x_queue : Nat → Int32} {x_queued : Int32} {x_groupOfCell : Nat → Int32} {res : Int32} {l2 : Int32} {z38 : Int32 → Option (Int32)}
    (E : En cX9_sizeAround RX9 wsX9_sizeAround 5 (some .int) p s m args meth c) (hK : KK g s) (hA : ∀ q, s.heap.size ≤ q → A q)
    (hz38 : ∀ (l3_38e : Int32) (H : Heap) (locs : List Loc) (ls : Array Slot), z38 l3_38e = some res → Wo g A s H locs (w_X9 g h0 h1 h2 h3 x_regionOfCell x_queue x_queued x_groupOfCell) → lv_has ls 5 [(3, .int l3_38e)] → G_X9_sizeAround p l e s m args below meth c g A h0 h1 h2 h3 x_regionOfCell x_queue x_queued x_groupOfCell res H locs 38 ls [])
    : ∀ (n : Nat) (l3_11 : Int32) (l4_11 : Int32) (H : Heap) (locs : List Loc) (ls : Array Slot), f_X9_sizeAround_11 x_regionOfCell l2 z38 n l3_11 l4_11 = some res → Wo g A s H locs (w_X9 g h0 h1 h2 h3 x_regionOfCell x_queue x_queued x_groupOfCell) → lv_has ls 5 [(0, .ref h0), (2, .int l2), (3, .int l3_11), (4, .int l4_11)] → G_X9_sizeAround p l e s m args below meth c g A h0 h1 h2 h3 x_regionOfCell x_queue x_queued x_groupOfCell res H locs 11 ls [] := by
  have hts := E.2.2.2.1
  intro n
  induction n with
  | zero => intro l3_11 l4_11 H locs ls h hW hl; rw [f_X9_sizeAround_11] at h; cases h
  | succ n ih =>
    intro l3_11 l4_11 H locs ls h hW hl
    rw [f_X9_sizeAround_11] at h
    refine lv_iload E.1 E.2.1 dX9_sizeAround_11 (lv_at hl 3 rfl) ?_
    refine lv_bipush (v := 25) E.1 E.2.1 dX9_sizeAround_13 (by decide) ?_
    refine lv_icmp_ge (tgt := 38) E.1 E.2.1 dX9_sizeAround_15 (by decide) (fun c15 => ?_) (fun c15 => ?_)
    · have h := it c15 h
      exact hz38 l3_11 H locs ls h hW (lv_sub hl [2] rfl)
    · have h := ie c15 h
      obtain ⟨j32, hj32, h⟩ := jox1 h
      have J32 : ∀ (l3_32 : Int32) (H : Heap) (locs : List Loc) (ls : Array Slot), j32 l3_32 = some res → Wo g A s H locs (w_X9 g h0 h1 h2 h3 x_regionOfCell x_queue x_queued x_groupOfCell) → lv_has ls 5 [(0, .ref h0), (2, .int l2), (3, .int l3_32), (4, .int l4_11)] → G_X9_sizeAround p l e s m args below meth c g A h0 h1 h2 h3 x_regionOfCell x_queue x_queued x_groupOfCell res H locs 32 ls [] := by
        intro l3_32 H locs ls h hW hl
        rw [hj32] at h
        refine lv_iinc (v := (l4_11 + 1)) (lv' := [(4, .int (l4_11 + 1)), (0, .ref h0), (2, .int l2), (3, .int l3_32)]) E.1 E.2.1 dX9_sizeAround_32 hl (k := 3) rfl rfl (by decide) rfl (fun ls hl => ?_)
        refine lv_goto (tgt := 11) E.1 E.2.1 dX9_sizeAround_35 (by decide) ?_
        exact ih l3_32 (l4_11 + 1) H locs ls h hW (lv_sub hl [1, 2, 3, 0] rfl)
      refine lv_aload_n E.1 E.2.1 dX9_sizeAround_18 rfl (lv_at hl 0 rfl) ?_
      refine wGet (v := .ref h1) E hK in_X9_sizeAround_X9 hW 0 lk_X9_sizeAround_9 0 rfl rfl (by decide) rfl rfl dX9_sizeAround_19 ?_
      refine lv_iload E.1 E.2.1 dX9_sizeAround_22 (lv_at hl 3 rfl) ?_
      obtain ⟨hi24, h⟩ := ox h
      refine wIald E hK hW 1 rfl hi24 dX9_sizeAround_24 ?_
      refine lv_iload_n E.1 E.2.1 dX9_sizeAround_25 rfl (lv_at hl 1 rfl) ?_
      refine lv_icmp_ne (tgt := 32) E.1 E.2.1 dX9_sizeAround_26 (by decide) (fun c26 => ?_) (fun c26 => ?_)
      · have h := ie c26 h
        exact J32 l3_11 H locs ls h hW (lv_sub hl [0, 1, 2, 3] rfl)
      · have h := it c26 h
        refine lv_iinc (v := (l3_11 + 1)) (lv' := [(3, .int (l3_11 + 1)), (0, .ref h0), (2, .int l2), (4, .int l4_11)]) E.1 E.2.1 dX9_sizeAround_29 hl (k := 2) rfl rfl (by decide) rfl (fun ls hl => ?_)
        exact J32 (l3_11 + 1) H locs ls h hW (lv_sub hl [1, 2, 0, 3] rfl)
set_option maxHeartbeats 4000000 in
set_option maxRecDepth 100000 in
theorem k_X9_sizeAround_0 {p : Program} {l : Launch} {e : Env} {s : State} {m : MethodId} {args : Array Value} {below : List Frame} {meth : Method} {c : Code} {g : GE} {A : Nat → Prop} {h0 h1 h2 h3 : Nat} {x_regionOfCell : Nat → Int32} {x_queue : Nat → Int32} {x_queued : Int32} {x_groupOfCell : Nat → Int32} {res : Int32} {H : Heap} {locs : List Loc} {ls : Array Slot} {a1 : Int32}
    (E : En cX9_sizeAround RX9 wsX9_sizeAround 5 (some .int) p s m args meth c) (hK : KK g s) (hA : ∀ q, s.heap.size ≤ q → A q) (h : f_X9_sizeAround x_regionOfCell a1 = some res) (hW : Wo g A s H locs (w_X9 g h0 h1 h2 h3 x_regionOfCell x_queue x_queued x_groupOfCell)) (hl : lv_has ls 5 [(0, .ref h0), (1, .int a1)]) : G_X9_sizeAround p l e s m args below meth c g A h0 h1 h2 h3 x_regionOfCell x_queue x_queued x_groupOfCell res H locs 0 ls [] := by
  have hts := E.2.2.2.1
  unfold f_X9_sizeAround at h
  refine lv_aload_n E.1 E.2.1 dX9_sizeAround_0 rfl (lv_at hl 0 rfl) ?_
  refine lv_iload_n E.1 E.2.1 dX9_sizeAround_1 rfl (lv_at hl 1 rfl) ?_
  obtain ⟨r2, hc, h⟩ := bx h
  refine goI (world' := (w_X9 g h0 h1 h2 h3 x_regionOfCell x_queue x_queued x_groupOfCell)) hW hA (is := [0, 1, 2, 3]) rfl (goV (rest := []) E hK hW [0, 1, 2, 3] rfl rfl (c_X9_regionOf l g h0 h1 h2 h3 x_regionOfCell x_queue x_queued x_groupOfCell a1 (hf := hc) H.size) (cwV 1 hts gX9_sizeAround_X9_regionOf rfl rfl rfl (by decide +kernel) ⟨Nat.le_of_ble_eq_true rfl, Nat.le_of_ble_eq_true rfl⟩) 0 rfl rfl rfl hl.1 rfl rfl (Nat.le_of_ble_eq_true rfl) dX9_sizeAround_2 ⟨Nat.zero_le _, Nat.zero_le _⟩) rfl rfl (fun H locs hW => ?_)
  refine lv_istore_n (lv' := [(2, .int r2), (0, .ref h0), (1, .int a1)]) E.1 E.2.1 dX9_sizeAround_5 rfl hl (by decide) rfl (fun ls hl => ?_)
  refine lv_iconst (v := 0) E.1 E.2.1 dX9_sizeAround_6 (by decide) ?_
  refine lv_istore_n (lv' := [(3, .int 0), (2, .int r2), (0, .ref h0), (1, .int a1)]) E.1 E.2.1 dX9_sizeAround_7 rfl hl (by decide) rfl (fun ls hl => ?_)
  refine lv_iconst (v := 0) E.1 E.2.1 dX9_sizeAround_8 (by decide) ?_
  refine lv_istore (lv' := [(4, .int 0), (3, .int 0), (2, .int r2), (0, .ref h0), (1, .int a1)]) E.1 E.2.1 dX9_sizeAround_9 hl (by decide) rfl (fun ls hl => ?_)
  refine k_X9_sizeAround_11 E hK hA ?_ 1000 0 0 H locs ls h hW (lv_sub hl [3, 2, 1, 0] rfl)
  · intro l3_38e H locs ls h hW hl
    refine lv_iload_n E.1 E.2.1 dX9_sizeAround_38 rfl (lv_at hl 0 rfl) ?_
    obtain rfl := Option.some.inj h
    exact endI E rfl hW dX9_sizeAround_39
theorem c_X9_sizeAround (l : Launch) (g : GE) (h0 h1 h2 h3 : Nat) (x_regionOfCell : Nat → Int32) (x_queue : Nat → Int32) (x_queued : Int32) (x_groupOfCell : Nat → Int32) (a1 : Int32) {res : Int32} (hf : f_X9_sizeAround x_regionOfCell a1 = some res) : CI l yX9_sizeAround wsX9_sizeAround rm_X9_sizeAround g [.ref h0, .int a1] (w_X9 g h0 h1 h2 h3 x_regionOfCell x_queue x_queued x_groupOfCell) (w_X9 g h0 h1 h2 h3 x_regionOfCell x_queue x_queued x_groupOfCell) res :=
  mkI (cc := cX9_sizeAround) (maxL := 5) (by decide) rfl (Nat.le_of_ble_eq_true rfl) (fun p e s m args below meth c A H locs ls E hK hA hW hl => k_X9_sizeAround_0 E hK hA hf hW hl)

/-! PaperStorm$Regions.join(II)I X9_join -/
abbrev rm_X9_join : Room := { frames := 0, cells := 0, slots := 0, locals := 0 }
theorem in_X9_join_X9 : ∀ w ∈ wsX90, w ∈ wsX9_join := by decide +kernel
theorem lk_X9_join_22 : Cond.fieldLink RX9 22 "PaperStorm$Regions" "groupOfCell" "[I" ∈ wsX9_join := by decide +kernel
noncomputable def f_X9_join_48 (l3 : Int32) (l4 : Int32) (z81 : (Nat → Int32) → Option (Int32 × (Nat → Int32))) : Nat → Int32 → (Nat → Int32) → Option (Int32 × (Nat → Int32))
  | 0, _, _ => none
  | n + 1, l5_48, x_groupOfCell_48 => if 25 ≤ l5_48 then z81 x_groupOfCell_48 else jo (fun (x_groupOfCell_75 : Nat → Int32) => f_X9_join_48 l3 l4 z81 n (l5_48 + 1) x_groupOfCell_75) (fun j75 => if l5_48 < 0 ∨ 25 ≤ l5_48.toNatClampNeg then none else if (x_groupOfCell_48 l5_48.toNatClampNeg) = l4 then j75 (upd x_groupOfCell_48 l5_48.toNatClampNeg l3) else j75 x_groupOfCell_48)
noncomputable def f_X9_join (x_groupOfCell : Nat → Int32) (a1 : Int32) (a2 : Int32) : Option (Int32 × (Nat → Int32)) :=
  jo (some (0, x_groupOfCell)) (fun j20 => if a1 < 0 then j20 else if 25 ≤ a1 then j20 else if a2 < 0 then j20 else if a2 < 25 then if a1 < 0 ∨ 25 ≤ a1.toNatClampNeg then none else if a2 < 0 ∨ 25 ≤ a2.toNatClampNeg then none else if (x_groupOfCell a1.toNatClampNeg) = (x_groupOfCell a2.toNatClampNeg) then some (0, x_groupOfCell) else f_X9_join_48 (x_groupOfCell a1.toNatClampNeg) (x_groupOfCell a2.toNatClampNeg) (fun x_groupOfCell_81e => some (1, x_groupOfCell_81e)) 1000 0 x_groupOfCell else j20)
abbrev G_X9_join (p : Program) (l : Launch) (e : Env) (s : State) (m : MethodId) (args : Array Value) (below : List Frame) (meth : Method) (c : Code) (g : GE) (A : Nat → Prop) (h0 h1 h2 h3 : Nat) (x_regionOfCell : Nat → Int32) (x_queue : Nat → Int32) (x_queued : Int32) (res : Int32 × (Nat → Int32)) (H : Heap) (locs : List Loc) (pc : Nat) (ls : Array Slot) (st : List Value) : Prop := W p l e (headSpec wsX9_join rm_X9_join).room s m args below meth c H locs 0 0 (MQ below (PoI g A (w_X9 g h0 h1 h2 h3 x_regionOfCell x_queue x_queued res.2) res.1) args s 0 0 A) (F0 m pc ls st)
set_option maxHeartbeats 4000000 in
set_option maxRecDepth 100000 in
theorem k_X9_join_48 {p : Program} {l : Launch} {e : Env} {s : State} {m : MethodId} {args : Array Value} {below : List Frame} {meth : Method} {c : Code} {g : GE} {A : Nat → Prop} {h0 h1 h2 h3 : Nat} {x_regionOfCell : Nat → Int32} {x_queue : Nat → Int32} {x_queued : Int32} {res : Int32 × (Nat → Int32)} {l3 : Int32} {l4 : Int32} {z81 : (Nat → Int32) → Option (Int32 × (Nat → Int32))}
    (E : En cX9_join RX9 wsX9_join 6 (some .int) p s m args meth c) (hK : KK g s) (hA : ∀ q, s.heap.size ≤ q → A q)
    (hz81 : ∀ (x_groupOfCell_81e : Nat → Int32) (H : Heap) (locs : List Loc) (ls : Array Slot), z81 x_groupOfCell_81e = some res → Wo g A s H locs (w_X9 g h0 h1 h2 h3 x_regionOfCell x_queue x_queued x_groupOfCell_81e) → lv_has ls 6 [] → G_X9_join p l e s m args below meth c g A h0 h1 h2 h3 x_regionOfCell x_queue x_queued res H locs 81 ls [])
    : ∀ (n : Nat) (l5_48 : Int32) (x_groupOfCell_48 : Nat → Int32) (H : Heap) (locs : List Loc) (ls : Array Slot), f_X9_join_48 l3 l4 z81 n l5_48 x_groupOfCell_48 = some res → Wo g A s H locs (w_X9 g h0 h1 h2 h3 x_regionOfCell x_queue x_queued x_groupOfCell_48) → lv_has ls 6 [(0, .ref h0), (3, .int l3), (4, .int l4), (5, .int l5_48)] → G_X9_join p l e s m args below meth c g A h0 h1 h2 h3 x_regionOfCell x_queue x_queued res H locs 48 ls [] := by
  have hts := E.2.2.2.1
  intro n
  induction n with
  | zero => intro l5_48 x_groupOfCell_48 H locs ls h hW hl; rw [f_X9_join_48] at h; cases h
  | succ n ih =>
    intro l5_48 x_groupOfCell_48 H locs ls h hW hl
    rw [f_X9_join_48] at h
    refine lv_iload E.1 E.2.1 dX9_join_48 (lv_at hl 3 rfl) ?_
    refine lv_bipush (v := 25) E.1 E.2.1 dX9_join_50 (by decide) ?_
    refine lv_icmp_ge (tgt := 81) E.1 E.2.1 dX9_join_52 (by decide) (fun c52 => ?_) (fun c52 => ?_)
    · have h := it c52 h
      exact hz81 x_groupOfCell_48 H locs ls h hW (lv_sub hl [] rfl)
    · have h := ie c52 h
      obtain ⟨j75, hj75, h⟩ := jox1 h
      have J75 : ∀ (x_groupOfCell_75 : Nat → Int32) (H : Heap) (locs : List Loc) (ls : Array Slot), j75 x_groupOfCell_75 = some res → Wo g A s H locs (w_X9 g h0 h1 h2 h3 x_regionOfCell x_queue x_queued x_groupOfCell_75) → lv_has ls 6 [(0, .ref h0), (3, .int l3), (4, .int l4), (5, .int l5_48)] → G_X9_join p l e s m args below meth c g A h0 h1 h2 h3 x_regionOfCell x_queue x_queued res H locs 75 ls [] := by
        intro x_groupOfCell_75 H locs ls h hW hl
        rw [hj75] at h
        refine lv_iinc (v := (l5_48 + 1)) (lv' := [(5, .int (l5_48 + 1)), (0, .ref h0), (3, .int l3), (4, .int l4)]) E.1 E.2.1 dX9_join_75 hl (k := 3) rfl rfl (by decide) rfl (fun ls hl => ?_)
        refine lv_goto (tgt := 48) E.1 E.2.1 dX9_join_78 (by decide) ?_
        exact ih (l5_48 + 1) x_groupOfCell_75 H locs ls h hW (lv_sub hl [1, 2, 3, 0] rfl)
      refine lv_aload_n E.1 E.2.1 dX9_join_55 rfl (lv_at hl 0 rfl) ?_
      refine wGet (v := .ref h3) E hK in_X9_join_X9 hW 3 lk_X9_join_22 0 rfl rfl (by decide) rfl rfl dX9_join_56 ?_
      refine lv_iload E.1 E.2.1 dX9_join_59 (lv_at hl 3 rfl) ?_
      obtain ⟨hi61, h⟩ := ox h
      refine wIald E hK hW 3 rfl hi61 dX9_join_61 ?_
      refine lv_iload E.1 E.2.1 dX9_join_62 (lv_at hl 2 rfl) ?_
      refine lv_icmp_ne (tgt := 75) E.1 E.2.1 dX9_join_64 (by decide) (fun c64 => ?_) (fun c64 => ?_)
      · have h := ie c64 h
        exact J75 x_groupOfCell_48 H locs ls h hW (lv_sub hl [0, 1, 2, 3] rfl)
      · have h := it c64 h
        refine lv_aload_n E.1 E.2.1 dX9_join_67 rfl (lv_at hl 0 rfl) ?_
        refine wGet (v := .ref h3) E hK in_X9_join_X9 hW 3 lk_X9_join_22 0 rfl rfl (by decide) rfl rfl dX9_join_68 ?_
        refine lv_iload E.1 E.2.1 dX9_join_71 (lv_at hl 3 rfl) ?_
        refine lv_iload_n E.1 E.2.1 dX9_join_73 rfl (lv_at hl 1 rfl) ?_
        refine wIast (world' := (w_X9 g h0 h1 h2 h3 x_regionOfCell x_queue x_queued (upd x_groupOfCell_48 l5_48.toNatClampNeg l3))) E hK hW 3 rfl hi61 dX9_join_74 rfl (fun H locs hW => ?_)
        exact J75 (upd x_groupOfCell_48 l5_48.toNatClampNeg l3) H locs ls h hW (lv_sub hl [0, 1, 2, 3] rfl)
set_option maxHeartbeats 4000000 in
set_option maxRecDepth 100000 in
theorem k_X9_join_0 {p : Program} {l : Launch} {e : Env} {s : State} {m : MethodId} {args : Array Value} {below : List Frame} {meth : Method} {c : Code} {g : GE} {A : Nat → Prop} {h0 h1 h2 h3 : Nat} {x_regionOfCell : Nat → Int32} {x_queue : Nat → Int32} {x_queued : Int32} {x_groupOfCell : Nat → Int32} {res : Int32 × (Nat → Int32)} {H : Heap} {locs : List Loc} {ls : Array Slot} {a1 : Int32} {a2 : Int32}
    (E : En cX9_join RX9 wsX9_join 6 (some .int) p s m args meth c) (hK : KK g s) (hA : ∀ q, s.heap.size ≤ q → A q) (h : f_X9_join x_groupOfCell a1 a2 = some res) (hW : Wo g A s H locs (w_X9 g h0 h1 h2 h3 x_regionOfCell x_queue x_queued x_groupOfCell)) (hl : lv_has ls 6 [(0, .ref h0), (1, .int a1), (2, .int a2)]) : G_X9_join p l e s m args below meth c g A h0 h1 h2 h3 x_regionOfCell x_queue x_queued res H locs 0 ls [] := by
  have hts := E.2.2.2.1
  unfold f_X9_join at h
  obtain ⟨j20, hj20, h⟩ := jox0 h
  have J20 : ∀ (H : Heap) (locs : List Loc) (ls : Array Slot), j20 = some res → Wo g A s H locs (w_X9 g h0 h1 h2 h3 x_regionOfCell x_queue x_queued x_groupOfCell) → lv_has ls 6 [] → G_X9_join p l e s m args below meth c g A h0 h1 h2 h3 x_regionOfCell x_queue x_queued res H locs 20 ls [] := by
    intro H locs ls h hW hl
    rw [hj20] at h
    refine lv_iconst (v := 0) E.1 E.2.1 dX9_join_20 (by decide) ?_
    obtain rfl := Option.some.inj h
    exact endI E rfl hW dX9_join_21
  refine lv_iload_n E.1 E.2.1 dX9_join_0 rfl (lv_at hl 1 rfl) ?_
  refine lv_if_lt (tgt := 20) E.1 E.2.1 dX9_join_1 (by decide) (fun c1 => ?_) (fun c1 => ?_)
  · have h := it c1 h
    exact J20  H locs ls h hW (lv_sub hl [] rfl)
  · have h := ie c1 h
    refine lv_iload_n E.1 E.2.1 dX9_join_4 rfl (lv_at hl 1 rfl) ?_
    refine lv_bipush (v := 25) E.1 E.2.1 dX9_join_5 (by decide) ?_
    refine lv_icmp_ge (tgt := 20) E.1 E.2.1 dX9_join_7 (by decide) (fun c7 => ?_) (fun c7 => ?_)
    · have h := it c7 h
      exact J20  H locs ls h hW (lv_sub hl [] rfl)
    · have h := ie c7 h
      refine lv_iload_n E.1 E.2.1 dX9_join_10 rfl (lv_at hl 2 rfl) ?_
      refine lv_if_lt (tgt := 20) E.1 E.2.1 dX9_join_11 (by decide) (fun c11 => ?_) (fun c11 => ?_)
      · have h := it c11 h
        exact J20  H locs ls h hW (lv_sub hl [] rfl)
      · have h := ie c11 h
        refine lv_iload_n E.1 E.2.1 dX9_join_14 rfl (lv_at hl 2 rfl) ?_
        refine lv_bipush (v := 25) E.1 E.2.1 dX9_join_15 (by decide) ?_
        refine lv_icmp_lt (tgt := 22) E.1 E.2.1 dX9_join_17 (by decide) (fun c17 => ?_) (fun c17 => ?_)
        · have h := it c17 h
          refine lv_aload_n E.1 E.2.1 dX9_join_22 rfl (lv_at hl 0 rfl) ?_
          refine wGet (v := .ref h3) E hK in_X9_join_X9 hW 3 lk_X9_join_22 0 rfl rfl (by decide) rfl rfl dX9_join_23 ?_
          refine lv_iload_n E.1 E.2.1 dX9_join_26 rfl (lv_at hl 1 rfl) ?_
          obtain ⟨hi27, h⟩ := ox h
          refine wIald E hK hW 3 rfl hi27 dX9_join_27 ?_
          refine lv_istore_n (lv' := [(3, .int (x_groupOfCell a1.toNatClampNeg)), (0, .ref h0), (1, .int a1), (2, .int a2)]) E.1 E.2.1 dX9_join_28 rfl hl (by decide) rfl (fun ls hl => ?_)
          refine lv_aload_n E.1 E.2.1 dX9_join_29 rfl (lv_at hl 1 rfl) ?_
          refine wGet (v := .ref h3) E hK in_X9_join_X9 hW 3 lk_X9_join_22 0 rfl rfl (by decide) rfl rfl dX9_join_30 ?_
          refine lv_iload_n E.1 E.2.1 dX9_join_33 rfl (lv_at hl 3 rfl) ?_
          obtain ⟨hi34, h⟩ := ox h
          refine wIald E hK hW 3 rfl hi34 dX9_join_34 ?_
          refine lv_istore (lv' := [(4, .int (x_groupOfCell a2.toNatClampNeg)), (3, .int (x_groupOfCell a1.toNatClampNeg)), (0, .ref h0), (1, .int a1), (2, .int a2)]) E.1 E.2.1 dX9_join_35 hl (by decide) rfl (fun ls hl => ?_)
          refine lv_iload_n E.1 E.2.1 dX9_join_37 rfl (lv_at hl 1 rfl) ?_
          refine lv_iload E.1 E.2.1 dX9_join_38 (lv_at hl 0 rfl) ?_
          refine lv_icmp_ne (tgt := 45) E.1 E.2.1 dX9_join_40 (by decide) (fun c40 => ?_) (fun c40 => ?_)
          · have h := ie c40 h
            refine lv_iconst (v := 0) E.1 E.2.1 dX9_join_45 (by decide) ?_
            refine lv_istore (lv' := [(5, .int 0), (4, .int (x_groupOfCell a2.toNatClampNeg)), (3, .int (x_groupOfCell a1.toNatClampNeg)), (0, .ref h0), (1, .int a1), (2, .int a2)]) E.1 E.2.1 dX9_join_46 hl (by decide) rfl (fun ls hl => ?_)
            refine k_X9_join_48 E hK hA ?_ 1000 0 x_groupOfCell H locs ls h hW (lv_sub hl [3, 2, 1, 0] rfl)
            · intro x_groupOfCell_81e H locs ls h hW hl
              refine lv_iconst (v := 1) E.1 E.2.1 dX9_join_81 (by decide) ?_
              obtain rfl := Option.some.inj h
              exact endI E rfl hW dX9_join_82
          · have h := it c40 h
            refine lv_iconst (v := 0) E.1 E.2.1 dX9_join_43 (by decide) ?_
            obtain rfl := Option.some.inj h
            exact endI E rfl hW dX9_join_44
        · have h := ie c17 h
          exact J20  H locs ls h hW (lv_sub hl [] rfl)
theorem c_X9_join (l : Launch) (g : GE) (h0 h1 h2 h3 : Nat) (x_regionOfCell : Nat → Int32) (x_queue : Nat → Int32) (x_queued : Int32) (x_groupOfCell : Nat → Int32) (a1 : Int32) (a2 : Int32) {res : Int32 × (Nat → Int32)} (hf : f_X9_join x_groupOfCell a1 a2 = some res) : CI l yX9_join wsX9_join rm_X9_join g [.ref h0, .int a1, .int a2] (w_X9 g h0 h1 h2 h3 x_regionOfCell x_queue x_queued x_groupOfCell) (w_X9 g h0 h1 h2 h3 x_regionOfCell x_queue x_queued res.2) res.1 :=
  mkI (cc := cX9_join) (maxL := 6) (by decide) rfl (Nat.le_of_ble_eq_true rfl) (fun p e s m args below meth c A H locs ls E hK hA hW hl => k_X9_join_0 E hK hA hf hW hl)

/-! PaperStorm$Regions.unite(LPaperStorm$Sheet;)I X9_unite -/
abbrev rm_X9_unite : Room := { frames := 2, cells := 0, slots := 0, locals := 45 }
theorem in_X9_unite_X9 : ∀ w ∈ wsX90, w ∈ wsX9_unite := by decide +kernel
theorem lk_X9_unite_22 : Cond.fieldLink RX9 22 "PaperStorm$Regions" "groupOfCell" "[I" ∈ wsX9_unite := by decide +kernel
noncomputable def f_X9_unite_2 (z21 : (Nat → Int32) → Option (Int32 × (Nat → Int32))) : Nat → Int32 → (Nat → Int32) → Option (Int32 × (Nat → Int32))
  | 0, _, _ => none
  | n + 1, l2_2, x_groupOfCell_2 => if 25 ≤ l2_2 then z21 x_groupOfCell_2 else if l2_2 < 0 ∨ 25 ≤ l2_2.toNatClampNeg then none else f_X9_unite_2 z21 n (l2_2 + 1) (upd x_groupOfCell_2 l2_2.toNatClampNeg l2_2)
noncomputable def f_X9_unite_26 (x_a1_cells : Nat → Int32) (x_a1_threshold : Int32) (z96 : Int32 → (Nat → Int32) → Option (Int32 × (Nat → Int32))) : Nat → Int32 → Int32 → (Nat → Int32) → Option (Int32 × (Nat → Int32))
  | 0, _, _, _ => none
  | n + 1, l2_26, l3_26, x_groupOfCell_26 => if 25 ≤ l3_26 then z96 l2_26 x_groupOfCell_26 else jo (fun (l2_61 : Int32) (x_groupOfCell_61 : Nat → Int32) => jo (fun (l2_90 : Int32) (x_groupOfCell_90 : Nat → Int32) => f_X9_unite_26 x_a1_cells x_a1_threshold z96 n l2_90 (l3_26 + 1) x_groupOfCell_90) (fun j90 => (f_X10_hasLowerNeighbour l3_26).bind fun r62 => if r62 = 0 then j90 l2_61 x_groupOfCell_61 else (f_X10_hasFront x_a1_cells x_a1_threshold l3_26 (l3_26 + 5)).bind fun r73 => if r73 = 0 then (f_X9_join x_groupOfCell_61 l3_26 (l3_26 + 5)).bind fun r85 => j90 (l2_61 - r85.1) r85.2 else j90 l2_61 x_groupOfCell_61)) (fun j61 => (f_X10_hasRightNeighbour l3_26).bind fun r33 => if r33 = 0 then j61 l2_26 x_groupOfCell_26 else (f_X10_hasFront x_a1_cells x_a1_threshold l3_26 (l3_26 + 1)).bind fun r44 => if r44 = 0 then (f_X9_join x_groupOfCell_26 l3_26 (l3_26 + 1)).bind fun r56 => j61 (l2_26 - r56.1) r56.2 else j61 l2_26 x_groupOfCell_26)
noncomputable def f_X9_unite (x_groupOfCell : Nat → Int32) (x_a1_cells : Nat → Int32) (x_a1_threshold : Int32) : Option (Int32 × (Nat → Int32)) :=
  f_X9_unite_2 (fun x_groupOfCell_21e => f_X9_unite_26 x_a1_cells x_a1_threshold (fun l2_96e x_groupOfCell_96e => some (l2_96e, x_groupOfCell_96e)) 1000 25 0 x_groupOfCell_21e) 1000 0 x_groupOfCell
abbrev G_X9_unite (p : Program) (l : Launch) (e : Env) (s : State) (m : MethodId) (args : Array Value) (below : List Frame) (meth : Method) (c : Code) (g : GE) (A : Nat → Prop) (h0 h1 h2 h3 h4 h5 : Nat) (x_regionOfCell : Nat → Int32) (x_queue : Nat → Int32) (x_queued : Int32) (x_a1_cells : Nat → Int32) (x_a1_threshold : Int32) (res : Int32 × (Nat → Int32)) (H : Heap) (locs : List Loc) (pc : Nat) (ls : Array Slot) (st : List Value) : Prop := W p l e (headSpec wsX9_unite rm_X9_unite).room s m args below meth c H locs 0 0 (MQ below (PoI g A ((w_X9 g h0 h1 h2 h3 x_regionOfCell x_queue x_queued res.2) ++ (w_X10 g h4 h5 x_a1_cells x_a1_threshold)) res.1) args s 0 0 A) (F0 m pc ls st)
set_option maxHeartbeats 4000000 in
set_option maxRecDepth 100000 in
theorem k_X9_unite_2 {p : Program} {l : Launch} {e : Env} {s : State} {m : MethodId} {args : Array Value} {below : List Frame} {meth : Method} {c : Code} {g : GE} {A : Nat → Prop} {h0 h1 h2 h3 h4 h5 : Nat} {x_regionOfCell : Nat → Int32} {x_queue : Nat → Int32} {x_queued : Int32} {x_a1_cells : Nat → Int32} {x_a1_threshold : Int32} {res : Int32 × (Nat → Int32)} {z21 : (Nat → Int32) → Option (Int32 × (Nat → Int32))}
    (E : En cX9_unite RX9 wsX9_unite 4 (some .int) p s m args meth c) (hK : KK g s) (hA : ∀ q, s.heap.size ≤ q → A q)
    (hz21 : ∀ (x_groupOfCell_21e : Nat → Int32) (H : Heap) (locs : List Loc) (ls : Array Slot), z21 x_groupOfCell_21e = some res → Wo g A s H locs ((w_X9 g h0 h1 h2 h3 x_regionOfCell x_queue x_queued x_groupOfCell_21e) ++ (w_X10 g h4 h5 x_a1_cells x_a1_threshold)) → lv_has ls 4 [(0, .ref h0), (1, .ref h4)] → G_X9_unite p l e s m args below meth c g A h0 h1 h2 h3 h4 h5 x_regionOfCell x_queue x_queued x_a1_cells x_a1_threshold res H locs 21 ls [])
    : ∀ (n : Nat) (l2_2 : Int32) (x_groupOfCell_2 : Nat → Int32) (H : Heap) (locs : List Loc) (ls : Array Slot), f_X9_unite_2 z21 n l2_2 x_groupOfCell_2 = some res → Wo g A s H locs ((w_X9 g h0 h1 h2 h3 x_regionOfCell x_queue x_queued x_groupOfCell_2) ++ (w_X10 g h4 h5 x_a1_cells x_a1_threshold)) → lv_has ls 4 [(0, .ref h0), (1, .ref h4), (2, .int l2_2)] → G_X9_unite p l e s m args below meth c g A h0 h1 h2 h3 h4 h5 x_regionOfCell x_queue x_queued x_a1_cells x_a1_threshold res H locs 2 ls [] := by
  have hts := E.2.2.2.1
  intro n
  induction n with
  | zero => intro l2_2 x_groupOfCell_2 H locs ls h hW hl; rw [f_X9_unite_2] at h; cases h
  | succ n ih =>
    intro l2_2 x_groupOfCell_2 H locs ls h hW hl
    rw [f_X9_unite_2] at h
    refine lv_iload_n E.1 E.2.1 dX9_unite_2 rfl (lv_at hl 2 rfl) ?_
    refine lv_bipush (v := 25) E.1 E.2.1 dX9_unite_3 (by decide) ?_
    refine lv_icmp_ge (tgt := 21) E.1 E.2.1 dX9_unite_5 (by decide) (fun c5 => ?_) (fun c5 => ?_)
    · have h := it c5 h
      exact hz21 x_groupOfCell_2 H locs ls h hW (lv_sub hl [0, 1] rfl)
    · have h := ie c5 h
      refine lv_aload_n E.1 E.2.1 dX9_unite_8 rfl (lv_at hl 0 rfl) ?_
      refine wGet (v := .ref h3) E hK in_X9_unite_X9 hW 3 lk_X9_unite_22 0 rfl rfl (by decide) rfl rfl dX9_unite_9 ?_
      refine lv_iload_n E.1 E.2.1 dX9_unite_12 rfl (lv_at hl 2 rfl) ?_
      refine lv_iload_n E.1 E.2.1 dX9_unite_13 rfl (lv_at hl 2 rfl) ?_
      obtain ⟨hi14, h⟩ := ox h
      refine wIast (world' := ((w_X9 g h0 h1 h2 h3 x_regionOfCell x_queue x_queued (upd x_groupOfCell_2 l2_2.toNatClampNeg l2_2)) ++ (w_X10 g h4 h5 x_a1_cells x_a1_threshold))) E hK hW 3 rfl hi14 dX9_unite_14 rfl (fun H locs hW => ?_)
      refine lv_iinc (v := (l2_2 + 1)) (lv' := [(2, .int (l2_2 + 1)), (0, .ref h0), (1, .ref h4)]) E.1 E.2.1 dX9_unite_15 hl (k := 2) rfl rfl (by decide) rfl (fun ls hl => ?_)
      refine lv_goto (tgt := 2) E.1 E.2.1 dX9_unite_18 (by decide) ?_
      exact ih (l2_2 + 1) (upd x_groupOfCell_2 l2_2.toNatClampNeg l2_2) H locs ls h hW (lv_sub hl [1, 2, 0] rfl)
set_option maxHeartbeats 4000000 in
set_option maxRecDepth 100000 in
theorem k_X9_unite_26 {p : Program} {l : Launch} {e : Env} {s : State} {m : MethodId} {args : Array Value} {below : List Frame} {meth : Method} {c : Code} {g : GE} {A : Nat → Prop} {h0 h1 h2 h3 h4 h5 : Nat} {x_regionOfCell : Nat → Int32} {x_queue : Nat → Int32} {x_queued : Int32} {x_a1_cells : Nat → Int32} {x_a1_threshold : Int32} {res : Int32 × (Nat → Int32)} {z96 : Int32 → (Nat → Int32) → Option (Int32 × (Nat → Int32))}
    (E : En cX9_unite RX9 wsX9_unite 4 (some .int) p s m args meth c) (hK : KK g s) (hA : ∀ q, s.heap.size ≤ q → A q)
    (hz96 : ∀ (l2_96e : Int32) (x_groupOfCell_96e : Nat → Int32) (H : Heap) (locs : List Loc) (ls : Array Slot), z96 l2_96e x_groupOfCell_96e = some res → Wo g A s H locs ((w_X9 g h0 h1 h2 h3 x_regionOfCell x_queue x_queued x_groupOfCell_96e) ++ (w_X10 g h4 h5 x_a1_cells x_a1_threshold)) → lv_has ls 4 [(2, .int l2_96e)] → G_X9_unite p l e s m args below meth c g A h0 h1 h2 h3 h4 h5 x_regionOfCell x_queue x_queued x_a1_cells x_a1_threshold res H locs 96 ls [])
    : ∀ (n : Nat) (l2_26 : Int32) (l3_26 : Int32) (x_groupOfCell_26 : Nat → Int32) (H : Heap) (locs : List Loc) (ls : Array Slot), f_X9_unite_26 x_a1_cells x_a1_threshold z96 n l2_26 l3_26 x_groupOfCell_26 = some res → Wo g A s H locs ((w_X9 g h0 h1 h2 h3 x_regionOfCell x_queue x_queued x_groupOfCell_26) ++ (w_X10 g h4 h5 x_a1_cells x_a1_threshold)) → lv_has ls 4 [(0, .ref h0), (1, .ref h4), (2, .int l2_26), (3, .int l3_26)] → G_X9_unite p l e s m args below meth c g A h0 h1 h2 h3 h4 h5 x_regionOfCell x_queue x_queued x_a1_cells x_a1_threshold res H locs 26 ls [] := by
  have hts := E.2.2.2.1
  intro n
  induction n with
  | zero => intro l2_26 l3_26 x_groupOfCell_26 H locs ls h hW hl; rw [f_X9_unite_26] at h; cases h
  | succ n ih =>
    intro l2_26 l3_26 x_groupOfCell_26 H locs ls h hW hl
    rw [f_X9_unite_26] at h
    refine lv_iload_n E.1 E.2.1 dX9_unite_26 rfl (lv_at hl 3 rfl) ?_
    refine lv_bipush (v := 25) E.1 E.2.1 dX9_unite_27 (by decide) ?_
    refine lv_icmp_ge (tgt := 96) E.1 E.2.1 dX9_unite_29 (by decide) (fun c29 => ?_) (fun c29 => ?_)
    · have h := it c29 h
      exact hz96 l2_26 x_groupOfCell_26 H locs ls h hW (lv_sub hl [2] rfl)
    · have h := ie c29 h
      obtain ⟨j61, hj61, h⟩ := jox2 h
      have J61 : ∀ (l2_61 : Int32) (x_groupOfCell_61 : Nat → Int32) (H : Heap) (locs : List Loc) (ls : Array Slot), j61 l2_61 x_groupOfCell_61 = some res → Wo g A s H locs ((w_X9 g h0 h1 h2 h3 x_regionOfCell x_queue x_queued x_groupOfCell_61) ++ (w_X10 g h4 h5 x_a1_cells x_a1_threshold)) → lv_has ls 4 [(0, .ref h0), (1, .ref h4), (2, .int l2_61), (3, .int l3_26)] → G_X9_unite p l e s m args below meth c g A h0 h1 h2 h3 h4 h5 x_regionOfCell x_queue x_queued x_a1_cells x_a1_threshold res H locs 61 ls [] := by
        intro l2_61 x_groupOfCell_61 H locs ls h hW hl
        rw [hj61] at h
        obtain ⟨j90, hj90, h⟩ := jox2 h
        have J90 : ∀ (l2_90 : Int32) (x_groupOfCell_90 : Nat → Int32) (H : Heap) (locs : List Loc) (ls : Array Slot), j90 l2_90 x_groupOfCell_90 = some res → Wo g A s H locs ((w_X9 g h0 h1 h2 h3 x_regionOfCell x_queue x_queued x_groupOfCell_90) ++ (w_X10 g h4 h5 x_a1_cells x_a1_threshold)) → lv_has ls 4 [(0, .ref h0), (1, .ref h4), (2, .int l2_90), (3, .int l3_26)] → G_X9_unite p l e s m args below meth c g A h0 h1 h2 h3 h4 h5 x_regionOfCell x_queue x_queued x_a1_cells x_a1_threshold res H locs 90 ls [] := by
          intro l2_90 x_groupOfCell_90 H locs ls h hW hl
          rw [hj90] at h
          refine lv_iinc (v := (l3_26 + 1)) (lv' := [(3, .int (l3_26 + 1)), (0, .ref h0), (1, .ref h4), (2, .int l2_90)]) E.1 E.2.1 dX9_unite_90 hl (k := 3) rfl rfl (by decide) rfl (fun ls hl => ?_)
          refine lv_goto (tgt := 26) E.1 E.2.1 dX9_unite_93 (by decide) ?_
          exact ih l2_90 (l3_26 + 1) x_groupOfCell_90 H locs ls h hW (lv_sub hl [1, 2, 3, 0] rfl)
        refine lv_iload_n E.1 E.2.1 dX9_unite_61 rfl (lv_at hl 3 rfl) ?_
        obtain ⟨r62, hc, h⟩ := bx h
        refine goI (world' := ((w_X9 g h0 h1 h2 h3 x_regionOfCell x_queue x_queued x_groupOfCell_61) ++ (w_X10 g h4 h5 x_a1_cells x_a1_threshold))) hW hA (is := []) rfl (goS (rest := []) E hK hW [] rfl rfl (c_X10_hasLowerNeighbour l g l3_26 (hf := hc) H.size) (va_cwS 1 hts gX9_unite_X10_hasLowerNeighbour rfl rfl rfl (by decide +kernel) ⟨Nat.le_of_ble_eq_true rfl, Nat.le_of_ble_eq_true rfl⟩) hl.1 rfl rfl (Nat.le_of_ble_eq_true rfl) dX9_unite_62 ⟨Nat.zero_le _, Nat.zero_le _⟩) rfl rfl (fun H locs hW => ?_)
        refine lv_if_eq (tgt := 90) E.1 E.2.1 dX9_unite_65 (by decide) (fun c65 => ?_) (fun c65 => ?_)
        · have h := it c65 h
          exact J90 l2_61 x_groupOfCell_61 H locs ls h hW (lv_sub hl [0, 1, 2, 3] rfl)
        · have h := ie c65 h
          refine lv_aload_n E.1 E.2.1 dX9_unite_68 rfl (lv_at hl 1 rfl) ?_
          refine lv_iload_n E.1 E.2.1 dX9_unite_69 rfl (lv_at hl 3 rfl) ?_
          refine lv_iload_n E.1 E.2.1 dX9_unite_70 rfl (lv_at hl 3 rfl) ?_
          refine lv_iconst (v := 5) E.1 E.2.1 dX9_unite_71 (by decide) ?_
          refine lv_iadd E.1 E.2.1 dX9_unite_72 ?_
          obtain ⟨r73, hc, h⟩ := bx h
          refine goI (world' := ((w_X9 g h0 h1 h2 h3 x_regionOfCell x_queue x_queued x_groupOfCell_61) ++ (w_X10 g h4 h5 x_a1_cells x_a1_threshold))) hW hA (is := [4, 5]) rfl (goV (rest := []) E hK hW [4, 5] rfl rfl (c_X10_hasFront l g h4 h5 x_a1_cells x_a1_threshold l3_26 (l3_26 + 5) (hf := hc) H.size) (cwV 2 hts gX9_unite_X10_hasFront rfl rfl rfl (by decide +kernel) ⟨Nat.le_of_ble_eq_true rfl, Nat.le_of_ble_eq_true rfl⟩) 0 rfl rfl rfl hl.1 rfl rfl (Nat.le_of_ble_eq_true rfl) dX9_unite_73 ⟨Nat.zero_le _, Nat.zero_le _⟩) rfl rfl (fun H locs hW => ?_)
          refine lv_if_ne (tgt := 90) E.1 E.2.1 dX9_unite_76 (by decide) (fun c76 => ?_) (fun c76 => ?_)
          · have h := ie c76 h
            exact J90 l2_61 x_groupOfCell_61 H locs ls h hW (lv_sub hl [0, 1, 2, 3] rfl)
          · have h := it c76 h
            refine lv_iload_n E.1 E.2.1 dX9_unite_79 rfl (lv_at hl 2 rfl) ?_
            refine lv_aload_n E.1 E.2.1 dX9_unite_80 rfl (lv_at hl 0 rfl) ?_
            refine lv_iload_n E.1 E.2.1 dX9_unite_81 rfl (lv_at hl 3 rfl) ?_
            refine lv_iload_n E.1 E.2.1 dX9_unite_82 rfl (lv_at hl 3 rfl) ?_
            refine lv_iconst (v := 5) E.1 E.2.1 dX9_unite_83 (by decide) ?_
            refine lv_iadd E.1 E.2.1 dX9_unite_84 ?_
            obtain ⟨r85, hc, h⟩ := bx h
            refine goI (world' := ((w_X9 g h0 h1 h2 h3 x_regionOfCell x_queue x_queued r85.2) ++ (w_X10 g h4 h5 x_a1_cells x_a1_threshold))) hW hA (is := [0, 1, 2, 3]) rfl (goV (rest := [.int l2_61]) E hK hW [0, 1, 2, 3] rfl rfl (c_X9_join l g h0 h1 h2 h3 x_regionOfCell x_queue x_queued x_groupOfCell_61 l3_26 (l3_26 + 5) (hf := hc) H.size) (cwV 2 hts gX9_unite_X9_join rfl rfl rfl (by decide +kernel) ⟨Nat.le_of_ble_eq_true rfl, Nat.le_of_ble_eq_true rfl⟩) 0 rfl rfl rfl hl.1 rfl rfl (Nat.le_of_ble_eq_true rfl) dX9_unite_85 ⟨Nat.zero_le _, Nat.zero_le _⟩) rfl rfl (fun H locs hW => ?_)
            refine lv_isub E.1 E.2.1 dX9_unite_88 ?_
            refine lv_istore_n (lv' := [(2, .int (l2_61 - r85.1)), (0, .ref h0), (1, .ref h4), (3, .int l3_26)]) E.1 E.2.1 dX9_unite_89 rfl hl (by decide) rfl (fun ls hl => ?_)
            exact J90 (l2_61 - r85.1) r85.2 H locs ls h hW (lv_sub hl [1, 2, 0, 3] rfl)
      refine lv_iload_n E.1 E.2.1 dX9_unite_32 rfl (lv_at hl 3 rfl) ?_
      obtain ⟨r33, hc, h⟩ := bx h
      refine goI (world' := ((w_X9 g h0 h1 h2 h3 x_regionOfCell x_queue x_queued x_groupOfCell_26) ++ (w_X10 g h4 h5 x_a1_cells x_a1_threshold))) hW hA (is := []) rfl (goS (rest := []) E hK hW [] rfl rfl (c_X10_hasRightNeighbour l g l3_26 (hf := hc) H.size) (va_cwS 1 hts gX9_unite_X10_hasRightNeighbour rfl rfl rfl (by decide +kernel) ⟨Nat.le_of_ble_eq_true rfl, Nat.le_of_ble_eq_true rfl⟩) hl.1 rfl rfl (Nat.le_of_ble_eq_true rfl) dX9_unite_33 ⟨Nat.zero_le _, Nat.zero_le _⟩) rfl rfl (fun H locs hW => ?_)
      refine lv_if_eq (tgt := 61) E.1 E.2.1 dX9_unite_36 (by decide) (fun c36 => ?_) (fun c36 => ?_)
      · have h := it c36 h
        exact J61 l2_26 x_groupOfCell_26 H locs ls h hW (lv_sub hl [0, 1, 2, 3] rfl)
      · have h := ie c36 h
        refine lv_aload_n E.1 E.2.1 dX9_unite_39 rfl (lv_at hl 1 rfl) ?_
        refine lv_iload_n E.1 E.2.1 dX9_unite_40 rfl (lv_at hl 3 rfl) ?_
        refine lv_iload_n E.1 E.2.1 dX9_unite_41 rfl (lv_at hl 3 rfl) ?_
        refine lv_iconst (v := 1) E.1 E.2.1 dX9_unite_42 (by decide) ?_
        refine lv_iadd E.1 E.2.1 dX9_unite_43 ?_
        obtain ⟨r44, hc, h⟩ := bx h
        refine goI (world' := ((w_X9 g h0 h1 h2 h3 x_regionOfCell x_queue x_queued x_groupOfCell_26) ++ (w_X10 g h4 h5 x_a1_cells x_a1_threshold))) hW hA (is := [4, 5]) rfl (goV (rest := []) E hK hW [4, 5] rfl rfl (c_X10_hasFront l g h4 h5 x_a1_cells x_a1_threshold l3_26 (l3_26 + 1) (hf := hc) H.size) (cwV 2 hts gX9_unite_X10_hasFront rfl rfl rfl (by decide +kernel) ⟨Nat.le_of_ble_eq_true rfl, Nat.le_of_ble_eq_true rfl⟩) 0 rfl rfl rfl hl.1 rfl rfl (Nat.le_of_ble_eq_true rfl) dX9_unite_44 ⟨Nat.zero_le _, Nat.zero_le _⟩) rfl rfl (fun H locs hW => ?_)
        refine lv_if_ne (tgt := 61) E.1 E.2.1 dX9_unite_47 (by decide) (fun c47 => ?_) (fun c47 => ?_)
        · have h := ie c47 h
          exact J61 l2_26 x_groupOfCell_26 H locs ls h hW (lv_sub hl [0, 1, 2, 3] rfl)
        · have h := it c47 h
          refine lv_iload_n E.1 E.2.1 dX9_unite_50 rfl (lv_at hl 2 rfl) ?_
          refine lv_aload_n E.1 E.2.1 dX9_unite_51 rfl (lv_at hl 0 rfl) ?_
          refine lv_iload_n E.1 E.2.1 dX9_unite_52 rfl (lv_at hl 3 rfl) ?_
          refine lv_iload_n E.1 E.2.1 dX9_unite_53 rfl (lv_at hl 3 rfl) ?_
          refine lv_iconst (v := 1) E.1 E.2.1 dX9_unite_54 (by decide) ?_
          refine lv_iadd E.1 E.2.1 dX9_unite_55 ?_
          obtain ⟨r56, hc, h⟩ := bx h
          refine goI (world' := ((w_X9 g h0 h1 h2 h3 x_regionOfCell x_queue x_queued r56.2) ++ (w_X10 g h4 h5 x_a1_cells x_a1_threshold))) hW hA (is := [0, 1, 2, 3]) rfl (goV (rest := [.int l2_26]) E hK hW [0, 1, 2, 3] rfl rfl (c_X9_join l g h0 h1 h2 h3 x_regionOfCell x_queue x_queued x_groupOfCell_26 l3_26 (l3_26 + 1) (hf := hc) H.size) (cwV 2 hts gX9_unite_X9_join rfl rfl rfl (by decide +kernel) ⟨Nat.le_of_ble_eq_true rfl, Nat.le_of_ble_eq_true rfl⟩) 0 rfl rfl rfl hl.1 rfl rfl (Nat.le_of_ble_eq_true rfl) dX9_unite_56 ⟨Nat.zero_le _, Nat.zero_le _⟩) rfl rfl (fun H locs hW => ?_)
          refine lv_isub E.1 E.2.1 dX9_unite_59 ?_
          refine lv_istore_n (lv' := [(2, .int (l2_26 - r56.1)), (0, .ref h0), (1, .ref h4), (3, .int l3_26)]) E.1 E.2.1 dX9_unite_60 rfl hl (by decide) rfl (fun ls hl => ?_)
          exact J61 (l2_26 - r56.1) r56.2 H locs ls h hW (lv_sub hl [1, 2, 0, 3] rfl)
set_option maxHeartbeats 4000000 in
set_option maxRecDepth 100000 in
theorem k_X9_unite_0 {p : Program} {l : Launch} {e : Env} {s : State} {m : MethodId} {args : Array Value} {below : List Frame} {meth : Method} {c : Code} {g : GE} {A : Nat → Prop} {h0 h1 h2 h3 h4 h5 : Nat} {x_regionOfCell : Nat → Int32} {x_queue : Nat → Int32} {x_queued : Int32} {x_groupOfCell : Nat → Int32} {x_a1_cells : Nat → Int32} {x_a1_threshold : Int32} {res : Int32 × (Nat → Int32)} {H : Heap} {locs : List Loc} {ls : Array Slot} 
    (E : En cX9_unite RX9 wsX9_unite 4 (some .int) p s m args meth c) (hK : KK g s) (hA : ∀ q, s.heap.size ≤ q → A q) (h : f_X9_unite x_groupOfCell x_a1_cells x_a1_threshold = some res) (hW : Wo g A s H locs ((w_X9 g h0 h1 h2 h3 x_regionOfCell x_queue x_queued x_groupOfCell) ++ (w_X10 g h4 h5 x_a1_cells x_a1_threshold))) (hl : lv_has ls 4 [(0, .ref h0), (1, .ref h4)]) : G_X9_unite p l e s m args below meth c g A h0 h1 h2 h3 h4 h5 x_regionOfCell x_queue x_queued x_a1_cells x_a1_threshold res H locs 0 ls [] := by
  have hts := E.2.2.2.1
  unfold f_X9_unite at h
  refine lv_iconst (v := 0) E.1 E.2.1 dX9_unite_0 (by decide) ?_
  refine lv_istore_n (lv' := [(2, .int 0), (0, .ref h0), (1, .ref h4)]) E.1 E.2.1 dX9_unite_1 rfl hl (by decide) rfl (fun ls hl => ?_)
  refine k_X9_unite_2 E hK hA ?_ 1000 0 x_groupOfCell H locs ls h hW (lv_sub hl [1, 2, 0] rfl)
  · intro x_groupOfCell_21e H locs ls h hW hl
    refine lv_bipush (v := 25) E.1 E.2.1 dX9_unite_21 (by decide) ?_
    refine lv_istore_n (lv' := [(2, .int 25), (0, .ref h0), (1, .ref h4)]) E.1 E.2.1 dX9_unite_23 rfl hl (by decide) rfl (fun ls hl => ?_)
    refine lv_iconst (v := 0) E.1 E.2.1 dX9_unite_24 (by decide) ?_
    refine lv_istore_n (lv' := [(3, .int 0), (2, .int 25), (0, .ref h0), (1, .ref h4)]) E.1 E.2.1 dX9_unite_25 rfl hl (by decide) rfl (fun ls hl => ?_)
    refine k_X9_unite_26 E hK hA ?_ 1000 25 0 x_groupOfCell_21e H locs ls h hW (lv_sub hl [2, 3, 1, 0] rfl)
    · intro l2_96e x_groupOfCell_96e H locs ls h hW hl
      refine lv_iload_n E.1 E.2.1 dX9_unite_96 rfl (lv_at hl 0 rfl) ?_
      obtain rfl := Option.some.inj h
      exact endI E rfl hW dX9_unite_97
theorem c_X9_unite (l : Launch) (g : GE) (h0 h1 h2 h3 h4 h5 : Nat) (x_regionOfCell : Nat → Int32) (x_queue : Nat → Int32) (x_queued : Int32) (x_groupOfCell : Nat → Int32) (x_a1_cells : Nat → Int32) (x_a1_threshold : Int32) {res : Int32 × (Nat → Int32)} (hf : f_X9_unite x_groupOfCell x_a1_cells x_a1_threshold = some res) : CI l yX9_unite wsX9_unite rm_X9_unite g [.ref h0, .ref h4] ((w_X9 g h0 h1 h2 h3 x_regionOfCell x_queue x_queued x_groupOfCell) ++ (w_X10 g h4 h5 x_a1_cells x_a1_threshold)) ((w_X9 g h0 h1 h2 h3 x_regionOfCell x_queue x_queued res.2) ++ (w_X10 g h4 h5 x_a1_cells x_a1_threshold)) res.1 :=
  mkI (cc := cX9_unite) (maxL := 4) (by decide) rfl (Nat.le_of_ble_eq_true rfl) (fun p e s m args below meth c A H locs ls E hK hA hW hl => k_X9_unite_0 E hK hA hf hW hl)

