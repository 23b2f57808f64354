/-! PaperStorm$CommandText.hasRoom()Z X3_hasRoom -/
abbrev rm_X3_hasRoom : Room := { frames := 0, cells := 0, slots := 0, locals := 0 }
theorem in_X3_hasRoom_X3 : ∀ w ∈ wsX30, w ∈ wsX3_hasRoom := by decide +kernel
theorem lk_X3_hasRoom_15 : Cond.fieldLink RX3 15 "PaperStorm$CommandText" "length" "I" ∈ wsX3_hasRoom := by decide +kernel
noncomputable def f_X3_hasRoom (x_length : Int32) : Option (Int32) :=
  jo (fun (s0_21 : Int32) => if ¬ vp_nar .boolean s0_21 = s0_21 then none else some (s0_21)) (fun j21 => jo (j21 0) (fun j20 => if x_length < 0 then j20 else if 60 ≤ x_length then j20 else j21 1))
abbrev G_X3_hasRoom (p : Program) (l : Launch) (e : Env) (s : State) (m : MethodId) (args : Array Value) (below : List Frame) (meth : Method) (c : Code) (g : GE) (A : Nat → Prop) (h0 h1 h2 h3 : Nat) (h4 : Nat → Nat) (x_signs : Nat → Int32) (x_length : Int32) (x_position : Int32) (x_kinds : Nat → Option Nat) (x_values : Nat → Nat → Int32) (x_commandCount : Int32) (res : Int32) (H : Heap) (locs : List Loc) (pc : Nat) (ls : Array Slot) (st : List Value) : Prop := W p l e (headSpec wsX3_hasRoom rm_X3_hasRoom).room s m args below meth c H locs 0 0 (MQ below (PoI g A (w_X3 g z h0 h1 h2 h3 h4 x_signs x_length x_position x_kinds x_values x_commandCount) res) args s 0 0 A) (F0 m pc ls st)
set_option maxHeartbeats 4000000 in
set_option maxRecDepth 100000 in
theorem k_X3_hasRoom_0 {p : Program} {l : Launch} {e : Env} {s : State} {m : MethodId} {args : Array Value} {below : List Frame} {meth : Method} {c : Code} {g : GE} {A : Nat → Prop} {h0 h1 h2 h3 : Nat} {h4 : Nat → Nat} {x_signs : Nat → Int32} {x_length : Int32} {x_position : Int32} {x_kinds : Nat → Option Nat} {x_values : Nat → Nat → Int32} {x_commandCount : Int32} {res : Int32} {H : Heap} {locs : List Loc} {ls : Array Slot} 
    (E : En cX3_hasRoom RX3 wsX3_hasRoom 1 (some .boolean) p s m args meth c) (hK : KK g s) (hA : ∀ q, s.heap.size ≤ q → A q) (h : f_X3_hasRoom x_length = some res) (hW : Wo g A s H locs (w_X3 g z h0 h1 h2 h3 h4 x_signs x_length x_position x_kinds x_values x_commandCount)) (hl : lv_has ls 1 [(0, .ref h0)]) : G_X3_hasRoom p l e s m args below meth c g A h0 h1 h2 h3 h4 x_signs x_length x_position x_kinds x_values x_commandCount res H locs 0 ls [] := by
  have hts := E.2.2.2.1
  unfold f_X3_hasRoom at h
  obtain ⟨j21, hj21, h⟩ := jox1 h
  have J21 : ∀ (s0_21 : Int32) (H : Heap) (locs : List Loc) (ls : Array Slot), j21 s0_21 = some res → Wo g A s H locs (w_X3 g z h0 h1 h2 h3 h4 x_signs x_length x_position x_kinds x_values x_commandCount) → lv_has ls 1 [] → G_X3_hasRoom p l e s m args below meth c g A h0 h1 h2 h3 h4 x_signs x_length x_position x_kinds x_values x_commandCount res H locs 21 ls [.int s0_21] := by
    intro s0_21 H locs ls h hW hl
    rw [hj21] at h
    obtain ⟨hz, h⟩ := ox h
    obtain rfl := Option.some.inj h
    exact endI E (nar_z (Decidable.not_not.mp hz)) hW dX3_hasRoom_21
  obtain ⟨j20, hj20, h⟩ := jox0 h
  have J20 : ∀ (H : Heap) (locs : List Loc) (ls : Array Slot), j20 = some res → Wo g A s H locs (w_X3 g z h0 h1 h2 h3 h4 x_signs x_length x_position x_kinds x_values x_commandCount) → lv_has ls 1 [] → G_X3_hasRoom p l e s m args below meth c g A h0 h1 h2 h3 h4 x_signs x_length x_position x_kinds x_values x_commandCount res H locs 20 ls [] := by
    intro H locs ls h hW hl
    rw [hj20] at h
    refine lv_iconst (v := 0) E.1 E.2.1 dX3_hasRoom_20 (by decide) ?_
    exact J21 0 H locs ls h hW (lv_sub hl [] rfl)
  refine lv_aload_n E.1 E.2.1 dX3_hasRoom_0 rfl (lv_at hl 0 rfl) ?_
  refine wGet (v := .int x_length) E hK in_X3_hasRoom_X3 hW 1 lk_X3_hasRoom_15 0 rfl rfl (by decide) rfl rfl dX3_hasRoom_1 ?_
  refine lv_if_lt (tgt := 20) E.1 E.2.1 dX3_hasRoom_4 (by decide) (fun c4 => ?_) (fun c4 => ?_)
  · have h := it c4 h
    exact J20  H locs ls h hW (lv_sub hl [] rfl)
  · have h := ie c4 h
    refine lv_aload_n E.1 E.2.1 dX3_hasRoom_7 rfl (lv_at hl 0 rfl) ?_
    refine wGet (v := .int x_length) E hK in_X3_hasRoom_X3 hW 1 lk_X3_hasRoom_15 0 rfl rfl (by decide) rfl rfl dX3_hasRoom_8 ?_
    refine lv_bipush (v := 60) E.1 E.2.1 dX3_hasRoom_11 (by decide) ?_
    refine lv_icmp_ge (tgt := 20) E.1 E.2.1 dX3_hasRoom_13 (by decide) (fun c13 => ?_) (fun c13 => ?_)
    · have h := it c13 h
      exact J20  H locs ls h hW (lv_sub hl [] rfl)
    · have h := ie c13 h
      refine lv_iconst (v := 1) E.1 E.2.1 dX3_hasRoom_16 (by decide) ?_
      refine lv_goto (tgt := 21) E.1 E.2.1 dX3_hasRoom_17 (by decide) ?_
      exact J21 1 H locs ls h hW (lv_sub hl [] rfl)
theorem c_X3_hasRoom (l : Launch) (g : GE) (h0 h1 h2 h3 : Nat) (h4 : Nat → Nat) (x_signs : Nat → Int32) (x_length : Int32) (x_position : Int32) (x_kinds : Nat → Option Nat) (x_values : Nat → Nat → Int32) (x_commandCount : Int32) {res : Int32} (hf : f_X3_hasRoom x_length = some res) : CI l yX3_hasRoom wsX3_hasRoom rm_X3_hasRoom g [.ref h0] (w_X3 g z h0 h1 h2 h3 h4 x_signs x_length x_position x_kinds x_values x_commandCount) (w_X3 g z h0 h1 h2 h3 h4 x_signs x_length x_position x_kinds x_values x_commandCount) res :=
  mkI (cc := cX3_hasRoom) (maxL := 1) (by decide) rfl (Nat.le_of_ble_eq_true rfl) (fun p e s m args below meth c A H locs ls E hK hA hW hl => k_X3_hasRoom_0 E hK hA hf hW hl)

/-! PaperStorm$CommandText.append(C)V X3_append -/
abbrev rm_X3_append : Room := { frames := 1, cells := 0, slots := 0, locals := 20 }
theorem in_X3_append_X3 : ∀ w ∈ wsX30, w ∈ wsX3_append := by decide +kernel
theorem lk_X3_append_15 : Cond.fieldLink RX3 15 "PaperStorm$CommandText" "length" "I" ∈ wsX3_append := by decide +kernel
theorem lk_X3_append_9 : Cond.fieldLink RX3 9 "PaperStorm$CommandText" "signs" "[C" ∈ wsX3_append := by decide +kernel
noncomputable def f_X3_append (x_signs : Nat → Int32) (x_length : Int32) (a1 : Int32) : Option ((Nat → Int32) × Int32) :=
  jo (fun (x_signs_27 : Nat → Int32) (x_length_27 : Int32) => some (x_signs_27, x_length_27)) (fun j27 => (f_X3_hasRoom x_length).bind fun r1 => if r1 = 0 then j27 x_signs x_length else if x_length < 0 ∨ 60 ≤ x_length.toNatClampNeg then none else j27 (upd x_signs x_length.toNatClampNeg (vp_nar .char a1)) (x_length + 1))
abbrev G_X3_append (p : Program) (l : Launch) (e : Env) (s : State) (m : MethodId) (args : Array Value) (below : List Frame) (meth : Method) (c : Code) (g : GE) (A : Nat → Prop) (h0 h1 h2 h3 : Nat) (h4 : Nat → Nat) (x_position : Int32) (x_kinds : Nat → Option Nat) (x_values : Nat → Nat → Int32) (x_commandCount : Int32) (res : (Nat → Int32) × Int32) (H : Heap) (locs : List Loc) (pc : Nat) (ls : Array Slot) (st : List Value) : Prop := W p l e (headSpec wsX3_append rm_X3_append).room s m args below meth c H locs 0 0 (MQ below (PoV g A (w_X3 g z h0 h1 h2 h3 h4 res.1 res.2 x_position x_kinds x_values x_commandCount)) args s 0 0 A) (F0 m pc ls st)
set_option maxHeartbeats 4000000 in
set_option maxRecDepth 100000 in
theorem k_X3_append_0 {p : Program} {l : Launch} {e : Env} {s : State} {m : MethodId} {args : Array Value} {below : List Frame} {meth : Method} {c : Code} {g : GE} {A : Nat → Prop} {h0 h1 h2 h3 : Nat} {h4 : Nat → Nat} {x_signs : Nat → Int32} {x_length : Int32} {x_position : Int32} {x_kinds : Nat → Option Nat} {x_values : Nat → Nat → Int32} {x_commandCount : Int32} {res : (Nat → Int32) × Int32} {H : Heap} {locs : List Loc} {ls : Array Slot} {a1 : Int32}
    (E : En cX3_append RX3 wsX3_append 2 none p s m args meth c) (hK : KK g s) (hA : ∀ q, s.heap.size ≤ q → A q) (h : f_X3_append x_signs x_length a1 = some res) (hW : Wo g A s H locs (w_X3 g z h0 h1 h2 h3 h4 x_signs x_length x_position x_kinds x_values x_commandCount)) (hl : lv_has ls 2 [(0, .ref h0), (1, .int a1)]) : G_X3_append p l e s m args below meth c g A h0 h1 h2 h3 h4 x_position x_kinds x_values x_commandCount res H locs 0 ls [] := by
  have hts := E.2.2.2.1
  unfold f_X3_append at h
  obtain ⟨j27, hj27, h⟩ := jox2 h
  have J27 : ∀ (x_signs_27 : Nat → Int32) (x_length_27 : Int32) (H : Heap) (locs : List Loc) (ls : Array Slot), j27 x_signs_27 x_length_27 = some res → Wo g A s H locs (w_X3 g z h0 h1 h2 h3 h4 x_signs_27 x_length_27 x_position x_kinds x_values x_commandCount) → lv_has ls 2 [] → G_X3_append p l e s m args below meth c g A h0 h1 h2 h3 h4 x_position x_kinds x_values x_commandCount res H locs 27 ls [] := by
    intro x_signs_27 x_length_27 H locs ls h hW hl
    rw [hj27] at h
    obtain rfl := Option.some.inj h
    exact endV E hW dX3_append_27
  refine lv_aload_n E.1 E.2.1 dX3_append_0 rfl (lv_at hl 0 rfl) ?_
  obtain ⟨r1, hc, h⟩ := bx h
  refine goI (world' := (w_X3 g z h0 h1 h2 h3 h4 x_signs x_length x_position x_kinds x_values x_commandCount)) hW hA (is := [0, 1, 2, 3, 4, 5, 6, 7, 8, 9, 10, 11, 12, 13, 14, 15, 16, 17, 18]) rfl (goV (rest := []) E hK hW [0, 1, 2, 3, 4, 5, 6, 7, 8, 9, 10, 11, 12, 13, 14, 15, 16, 17, 18] rfl rfl (c_X3_hasRoom l g h0 h1 h2 h3 h4 x_signs x_length x_position x_kinds x_values x_commandCount (hf := hc) H.size) (cwV 0 hts gX3_append_X3_hasRoom rfl rfl rfl (by decide +kernel) ⟨Nat.le_of_ble_eq_true rfl, Nat.le_of_ble_eq_true rfl⟩) 0 rfl rfl rfl hl.1 rfl rfl (Nat.le_of_ble_eq_true rfl) dX3_append_1 ⟨Nat.zero_le _, Nat.zero_le _⟩) rfl rfl (fun H locs hW => ?_)
  refine lv_if_eq (tgt := 27) E.1 E.2.1 dX3_append_4 (by decide) (fun c4 => ?_) (fun c4 => ?_)
  · have h := it c4 h
    exact J27 x_signs x_length H locs ls h hW (lv_sub hl [] rfl)
  · have h := ie c4 h
    refine lv_aload_n E.1 E.2.1 dX3_append_7 rfl (lv_at hl 0 rfl) ?_
    refine wGet (v := .ref h1) E hK in_X3_append_X3 hW 0 lk_X3_append_9 0 rfl rfl (by decide) rfl rfl dX3_append_8 ?_
    refine lv_aload_n E.1 E.2.1 dX3_append_11 rfl (lv_at hl 0 rfl) ?_
    refine wGet (v := .int x_length) E hK in_X3_append_X3 hW 1 lk_X3_append_15 0 rfl rfl (by decide) rfl rfl dX3_append_12 ?_
    refine lv_iload_n E.1 E.2.1 dX3_append_15 rfl (lv_at hl 1 rfl) ?_
    obtain ⟨hi16, h⟩ := ox h
    refine wCast (world' := (w_X3 g z h0 h1 h2 h3 h4 (upd x_signs x_length.toNatClampNeg (vp_nar .char a1)) x_length x_position x_kinds x_values x_commandCount)) E hK hW 1 rfl hi16 dX3_append_16 rfl (fun H locs hW => ?_)
    refine lv_aload_n E.1 E.2.1 dX3_append_17 rfl (lv_at hl 0 rfl) ?_
    refine lv_dup E.1 E.2.1 dX3_append_18 rfl ?_
    refine wGet (v := .int x_length) E hK in_X3_append_X3 hW 1 lk_X3_append_15 0 rfl rfl (by decide) rfl rfl dX3_append_19 ?_
    refine lv_iconst (v := 1) E.1 E.2.1 dX3_append_22 (by decide) ?_
    refine lv_iadd E.1 E.2.1 dX3_append_23 ?_
    refine wPut (world' := (w_X3 g z h0 h1 h2 h3 h4 (upd x_signs x_length.toNatClampNeg (vp_nar .char a1)) (x_length + 1) x_position x_kinds x_values x_commandCount)) E hK in_X3_append_X3 tyX3 tyX3_ok nmX3 hW 1 lk_X3_append_15 0 rfl rfl (by decide) rfl rfl rfl rfl rfl (Nat.le_of_ble_eq_true rfl) dX3_append_24 rfl (fun H locs hW => ?_)
    exact J27 (upd x_signs x_length.toNatClampNeg (vp_nar .char a1)) (x_length + 1) H locs ls h hW (lv_sub hl [] rfl)
theorem c_X3_append (l : Launch) (g : GE) (h0 h1 h2 h3 : Nat) (h4 : Nat → Nat) (x_signs : Nat → Int32) (x_length : Int32) (x_position : Int32) (x_kinds : Nat → Option Nat) (x_values : Nat → Nat → Int32) (x_commandCount : Int32) (a1 : Int32) {res : (Nat → Int32) × Int32} (hf : f_X3_append x_signs x_length a1 = some res) : CV l yX3_append wsX3_append rm_X3_append g [.ref h0, .int a1] (w_X3 g z h0 h1 h2 h3 h4 x_signs x_length x_position x_kinds x_values x_commandCount) (w_X3 g z h0 h1 h2 h3 h4 res.1 res.2 x_position x_kinds x_values x_commandCount) :=
  mkV (cc := cX3_append) (maxL := 2) (by decide) rfl (Nat.le_of_ble_eq_true rfl) (fun p e s m args below meth c A H locs ls E hK hA hW hl => k_X3_append_0 E hK hA hf hW hl)

/-! PaperStorm$CommandText.clear()V X3_clear -/
abbrev rm_X3_clear : Room := { frames := 0, cells := 0, slots := 0, locals := 0 }
theorem in_X3_clear_X3 : ∀ w ∈ wsX30, w ∈ wsX3_clear := by decide +kernel
theorem lk_X3_clear_15 : Cond.fieldLink RX3 15 "PaperStorm$CommandText" "length" "I" ∈ wsX3_clear := by decide +kernel
noncomputable def f_X3_clear (x_length : Int32) : Option (Int32) :=
  some (0)
abbrev G_X3_clear (p : Program) (l : Launch) (e : Env) (s : State) (m : MethodId) (args : Array Value) (below : List Frame) (meth : Method) (c : Code) (g : GE) (A : Nat → Prop) (h0 h1 h2 h3 : Nat) (h4 : Nat → Nat) (x_signs : Nat → Int32) (x_position : Int32) (x_kinds : Nat → Option Nat) (x_values : Nat → Nat → Int32) (x_commandCount : Int32) (res : Int32) (H : Heap) (locs : List Loc) (pc : Nat) (ls : Array Slot) (st : List Value) : Prop := W p l e (headSpec wsX3_clear rm_X3_clear).room s m args below meth c H locs 0 0 (MQ below (PoV g A (w_X3 g z h0 h1 h2 h3 h4 x_signs res x_position x_kinds x_values x_commandCount)) args s 0 0 A) (F0 m pc ls st)
set_option maxHeartbeats 4000000 in
set_option maxRecDepth 100000 in
theorem k_X3_clear_0 {p : Program} {l : Launch} {e : Env} {s : State} {m : MethodId} {args : Array Value} {below : List Frame} {meth : Method} {c : Code} {g : GE} {A : Nat → Prop} {h0 h1 h2 h3 : Nat} {h4 : Nat → Nat} {x_signs : Nat → Int32} {x_length : Int32} {x_position : Int32} {x_kinds : Nat → Option Nat} {x_values : Nat → Nat → Int32} {x_commandCount : Int32} {res : Int32} {H : Heap} {locs : List Loc} {ls : Array Slot} 
    (E : En cX3_clear RX3 wsX3_clear 1 none p s m args meth c) (hK : KK g s) (hA : ∀ q, s.heap.size ≤ q → A q) (h : f_X3_clear x_length = some res) (hW : Wo g A s H locs (w_X3 g z h0 h1 h2 h3 h4 x_signs x_length x_position x_kinds x_values x_commandCount)) (hl : lv_has ls 1 [(0, .ref h0)]) : G_X3_clear p l e s m args below meth c g A h0 h1 h2 h3 h4 x_signs x_position x_kinds x_values x_commandCount res H locs 0 ls [] := by
  have hts := E.2.2.2.1
  unfold f_X3_clear at h
  refine lv_aload_n E.1 E.2.1 dX3_clear_0 rfl (lv_at hl 0 rfl) ?_
  refine lv_iconst (v := 0) E.1 E.2.1 dX3_clear_1 (by decide) ?_
  refine wPut (world' := (w_X3 g z h0 h1 h2 h3 h4 x_signs 0 x_position x_kinds x_values x_commandCount)) E hK in_X3_clear_X3 tyX3 tyX3_ok nmX3 hW 1 lk_X3_clear_15 0 rfl rfl (by decide) rfl rfl rfl rfl rfl (Nat.le_of_ble_eq_true rfl) dX3_clear_2 rfl (fun H locs hW => ?_)
  obtain rfl := Option.some.inj h
  exact endV E hW dX3_clear_5
theorem c_X3_clear (l : Launch) (g : GE) (h0 h1 h2 h3 : Nat) (h4 : Nat → Nat) (x_signs : Nat → Int32) (x_length : Int32) (x_position : Int32) (x_kinds : Nat → Option Nat) (x_values : Nat → Nat → Int32) (x_commandCount : Int32) {res : Int32} (hf : f_X3_clear x_length = some res) : CV l yX3_clear wsX3_clear rm_X3_clear g [.ref h0] (w_X3 g z h0 h1 h2 h3 h4 x_signs x_length x_position x_kinds x_values x_commandCount) (w_X3 g z h0 h1 h2 h3 h4 x_signs res x_position x_kinds x_values x_commandCount) :=
  mkV (cc := cX3_clear) (maxL := 1) (by decide) rfl (Nat.le_of_ble_eq_true rfl) (fun p e s m args below meth c A H locs ls E hK hA hW hl => k_X3_clear_0 E hK hA hf hW hl)

/-! PaperStorm$CommandText.isPlace(I)Z X3_isPlace -/
abbrev rm_X3_isPlace : Room := { frames := 0, cells := 0, slots := 0, locals := 0 }
noncomputable def f_X3_isPlace (a0 : Int32) : Option (Int32) :=
  jo (fun (s0_15 : Int32) => if ¬ vp_nar .boolean s0_15 = s0_15 then none else some (s0_15)) (fun j15 => jo (j15 0) (fun j14 => if a0 < 0 then j14 else if 15 ≤ a0 then j14 else j15 1))
abbrev G_X3_isPlace (p : Program) (l : Launch) (e : Env) (s : State) (m : MethodId) (args : Array Value) (below : List Frame) (meth : Method) (c : Code) (g : GE) (A : Nat → Prop) (res : Int32) (H : Heap) (locs : List Loc) (pc : Nat) (ls : Array Slot) (st : List Value) : Prop := W p l e (headSpec wsX3_isPlace rm_X3_isPlace).room s m args below meth c H locs 0 0 (MQ below (PoI g A ([] : va_W) res) args s 0 0 A) (F0 m pc ls st)
set_option maxHeartbeats 4000000 in
set_option maxRecDepth 100000 in
theorem k_X3_isPlace_0 {p : Program} {l : Launch} {e : Env} {s : State} {m : MethodId} {args : Array Value} {below : List Frame} {meth : Method} {c : Code} {g : GE} {A : Nat → Prop} {res : Int32} {H : Heap} {locs : List Loc} {ls : Array Slot} {a0 : Int32}
    (E : En cX3_isPlace RX3 wsX3_isPlace 1 (some .boolean) p s m args meth c) (hK : KK g s) (hA : ∀ q, s.heap.size ≤ q → A q) (h : f_X3_isPlace a0 = some res) (hW : Wo g A s H locs ([] : va_W)) (hl : lv_has ls 1 [(0, .int a0)]) : G_X3_isPlace p l e s m args below meth c g A res H locs 0 ls [] := by
  have hts := E.2.2.2.1
  unfold f_X3_isPlace at h
  obtain ⟨j15, hj15, h⟩ := jox1 h
  have J15 : ∀ (s0_15 : Int32) (H : Heap) (locs : List Loc) (ls : Array Slot), j15 s0_15 = some res → Wo g A s H locs ([] : va_W) → lv_has ls 1 [] → G_X3_isPlace p l e s m args below meth c g A res H locs 15 ls [.int s0_15] := by
    intro s0_15 H locs ls h hW hl
    rw [hj15] at h
    obtain ⟨hz, h⟩ := ox h
    obtain rfl := Option.some.inj h
    exact endI E (nar_z (Decidable.not_not.mp hz)) hW dX3_isPlace_15
  obtain ⟨j14, hj14, h⟩ := jox0 h
  have J14 : ∀ (H : Heap) (locs : List Loc) (ls : Array Slot), j14 = some res → Wo g A s H locs ([] : va_W) → lv_has ls 1 [] → G_X3_isPlace p l e s m args below meth c g A res H locs 14 ls [] := by
    intro H locs ls h hW hl
    rw [hj14] at h
    refine lv_iconst (v := 0) E.1 E.2.1 dX3_isPlace_14 (by decide) ?_
    exact J15 0 H locs ls h hW (lv_sub hl [] rfl)
  refine lv_iload_n E.1 E.2.1 dX3_isPlace_0 rfl (lv_at hl 0 rfl) ?_
  refine lv_if_lt (tgt := 14) E.1 E.2.1 dX3_isPlace_1 (by decide) (fun c1 => ?_) (fun c1 => ?_)
  · have h := it c1 h
    exact J14  H locs ls h hW (lv_sub hl [] rfl)
  · have h := ie c1 h
    refine lv_iload_n E.1 E.2.1 dX3_isPlace_4 rfl (lv_at hl 0 rfl) ?_
    refine lv_bipush (v := 15) E.1 E.2.1 dX3_isPlace_5 (by decide) ?_
    refine lv_icmp_ge (tgt := 14) E.1 E.2.1 dX3_isPlace_7 (by decide) (fun c7 => ?_) (fun c7 => ?_)
    · have h := it c7 h
      exact J14  H locs ls h hW (lv_sub hl [] rfl)
    · have h := ie c7 h
      refine lv_iconst (v := 1) E.1 E.2.1 dX3_isPlace_10 (by decide) ?_
      refine lv_goto (tgt := 15) E.1 E.2.1 dX3_isPlace_11 (by decide) ?_
      exact J15 1 H locs ls h hW (lv_sub hl [] rfl)
theorem c_X3_isPlace (l : Launch) (g : GE) (a0 : Int32) {res : Int32} (hf : f_X3_isPlace a0 = some res) : CI l yX3_isPlace wsX3_isPlace rm_X3_isPlace g [.int a0] ([] : va_W) ([] : va_W) res :=
  mkI (cc := cX3_isPlace) (maxL := 1) (by decide) rfl (Nat.le_of_ble_eq_true rfl) (fun p e s m args below meth c A H locs ls E hK hA hW hl => k_X3_isPlace_0 E hK hA hf hW hl)

/-! PaperStorm$CommandText.kindAt(I)LPaperStorm$Kind; X3_kindAt -/
abbrev rm_X3_kindAt : Room := { frames := 1, cells := 0, slots := 0, locals := 20 }
theorem in_X3_kindAt_X3 : ∀ w ∈ wsX30, w ∈ wsX3_kindAt := by decide +kernel
theorem lk_X3_kindAt_24 : Cond.fieldLink RX3 24 "PaperStorm$CommandText" "kinds" "[LPaperStorm$Kind;" ∈ wsX3_kindAt := by decide +kernel
theorem lk_X3_kindAt_36 : Cond.fieldLink RX3 36 "PaperStorm$Kind" "LOOK" "LPaperStorm$Kind;" ∈ wsX3_kindAt := by decide +kernel
noncomputable def f_X3_kindAt (x_kinds : Nat → Option Nat) (a1 : Int32) : Option (Option Nat) :=
  jo (fun (s0_19 : Option Nat) => some (s0_19)) (fun j19 => (f_X3_isPlace a1).bind fun r1 => if r1 = 0 then j19 (some 9) else if a1 < 0 ∨ 15 ≤ a1.toNatClampNeg then none else j19 (x_kinds a1.toNatClampNeg))
abbrev G_X3_kindAt (p : Program) (l : Launch) (e : Env) (s : State) (m : MethodId) (args : Array Value) (below : List Frame) (meth : Method) (c : Code) (g : GE) (A : Nat → Prop) (z : ZE) (h0 h1 h2 h3 : Nat) (h4 : Nat → Nat) (x_signs : Nat → Int32) (x_length : Int32) (x_position : Int32) (x_kinds : Nat → Option Nat) (x_values : Nat → Nat → Int32) (x_commandCount : Int32) (res : Option Nat) (H : Heap) (locs : List Loc) (pc : Nat) (ls : Array Slot) (st : List Value) : Prop := W p l e (headSpec wsX3_kindAt rm_X3_kindAt).room s m args below meth c H locs 0 0 (MQ below (PoE g z A (w_X3 g z h0 h1 h2 h3 h4 x_signs x_length x_position x_kinds x_values x_commandCount) res) args s 0 0 A) (F0 m pc ls st)
set_option maxHeartbeats 4000000 in
set_option maxRecDepth 100000 in
theorem k_X3_kindAt_0 {p : Program} {l : Launch} {e : Env} {s : State} {m : MethodId} {args : Array Value} {below : List Frame} {meth : Method} {c : Code} {g : GE} {A : Nat → Prop} {z : ZE} {h0 h1 h2 h3 : Nat} {h4 : Nat → Nat} {x_signs : Nat → Int32} {x_length : Int32} {x_position : Int32} {x_kinds : Nat → Option Nat} {x_values : Nat → Nat → Int32} {x_commandCount : Int32} {res : Option Nat} {H : Heap} {locs : List Loc} {ls : Array Slot} {a1 : Int32}
    (E : En cX3_kindAt RX3 wsX3_kindAt 2 (some (.object "PaperStorm$Kind")) p s m args meth c) (hK : KK g s) (hz : KS z s) (hC : CS z A s s.heap) (hA : ∀ q, s.heap.size ≤ q → A q) (h : f_X3_kindAt x_kinds a1 = some res) (hW : Wo g A s H locs (w_X3 g z h0 h1 h2 h3 h4 x_signs x_length x_position x_kinds x_values x_commandCount)) (hl : lv_has ls 2 [(0, .ref h0), (1, .int a1)]) : G_X3_kindAt p l e s m args below meth c g A z h0 h1 h2 h3 h4 x_signs x_length x_position x_kinds x_values x_commandCount res H locs 0 ls [] := by
  have hts := E.2.2.2.1
  unfold f_X3_kindAt at h
  obtain ⟨j19, hj19, h⟩ := jox1 h
  have J19 : ∀ (s0_19 : Option Nat) (H : Heap) (locs : List Loc) (ls : Array Slot), j19 s0_19 = some res → Wo g A s H locs (w_X3 g z h0 h1 h2 h3 h4 x_signs x_length x_position x_kinds x_values x_commandCount) → lv_has ls 2 [] → G_X3_kindAt p l e s m args below meth c g A z h0 h1 h2 h3 h4 x_signs x_length x_position x_kinds x_values x_commandCount res H locs 19 ls [(va_re z.2 s0_19)] := by
    intro s0_19 H locs ls h hW hl
    rw [hj19] at h
    obtain rfl := Option.some.inj h
    exact endE E hW dX3_kindAt_19
  refine lv_iload_n E.1 E.2.1 dX3_kindAt_0 rfl (lv_at hl 1 rfl) ?_
  obtain ⟨r1, hc, h⟩ := bx h
  refine goI (world' := (w_X3 g z h0 h1 h2 h3 h4 x_signs x_length x_position x_kinds x_values x_commandCount)) hW hA (is := []) rfl (goS (rest := []) E hK hW [] rfl rfl (c_X3_isPlace l g a1 (hf := hc) H.size) (va_cwS 1 hts gX3_kindAt_X3_isPlace rfl rfl rfl (by decide +kernel) ⟨Nat.le_of_ble_eq_true rfl, Nat.le_of_ble_eq_true rfl⟩) hl.1 rfl rfl (Nat.le_of_ble_eq_true rfl) dX3_kindAt_1 ⟨Nat.zero_le _, Nat.zero_le _⟩) rfl rfl (fun H locs hW => ?_)
  refine lv_if_eq (tgt := 16) E.1 E.2.1 dX3_kindAt_4 (by decide) (fun c4 => ?_) (fun c4 => ?_)
  · have h := it c4 h
    refine va_gets (v := .ref (z.2 9)) E.1 E.2.1 ((hC.2.2.2.1.1 9 (by decide)).1) hW.2.2 E.2.2.2.2.1 (hts _ lk_X3_kindAt_36) (fun _ h => h) dX3_kindAt_16 ?_
    exact J19 (some 9) H locs ls h hW (lv_sub hl [] rfl)
  · have h := ie c4 h
    refine lv_aload_n E.1 E.2.1 dX3_kindAt_7 rfl (lv_at hl 0 rfl) ?_
    refine wGet (v := .ref h2) E hK in_X3_kindAt_X3 hW 3 lk_X3_kindAt_24 0 rfl rfl (by decide) rfl rfl dX3_kindAt_8 ?_
    refine lv_iload_n E.1 E.2.1 dX3_kindAt_11 rfl (lv_at hl 1 rfl) ?_
    obtain ⟨hi12, h⟩ := ox h
    refine wKald E hK hW 2 rfl hi12 dX3_kindAt_12 ?_
    refine lv_goto (tgt := 19) E.1 E.2.1 dX3_kindAt_13 (by decide) ?_
    exact J19 (x_kinds a1.toNatClampNeg) H locs ls h hW (lv_sub hl [] rfl)
theorem c_X3_kindAt (l : Launch) (g : GE) (z : ZE) (h0 h1 h2 h3 : Nat) (h4 : Nat → Nat) (x_signs : Nat → Int32) (x_length : Int32) (x_position : Int32) (x_kinds : Nat → Option Nat) (x_values : Nat → Nat → Int32) (x_commandCount : Int32) (a1 : Int32) {res : Option Nat} (hf : f_X3_kindAt x_kinds a1 = some res) : XE l yX3_kindAt wsX3_kindAt rm_X3_kindAt g z [.ref h0, .int a1] (w_X3 g z h0 h1 h2 h3 h4 x_signs x_length x_position x_kinds x_values x_commandCount) (w_X3 g z h0 h1 h2 h3 h4 x_signs x_length x_position x_kinds x_values x_commandCount) res :=
  mkXE (cc := cX3_kindAt) (maxL := 2) (by decide) rfl (Nat.le_of_ble_eq_true rfl) (fun p e s m args below meth c A H locs ls E hK hz hC hA hW hl => k_X3_kindAt_0 E hK hz hC hA hf hW hl)

/-! PaperStorm$CommandText.valueAt(II)I X3_valueAt -/
abbrev rm_X3_valueAt : Room := { frames := 1, cells := 0, slots := 0, locals := 20 }
theorem in_X3_valueAt_X3 : ∀ w ∈ wsX30, w ∈ wsX3_valueAt := by decide +kernel
theorem lk_X3_valueAt_30 : Cond.fieldLink RX3 30 "PaperStorm$CommandText" "values" "[[I" ∈ wsX3_valueAt := by decide +kernel
noncomputable def f_X3_valueAt (x_values : Nat → Nat → Int32) (a1 : Int32) (a2 : Int32) : Option (Int32) :=
  jo (fun (s0_28 : Int32) => some (s0_28)) (fun j28 => jo (j28 0) (fun j27 => (f_X3_isPlace a1).bind fun r1 => if r1 = 0 then j27 else if a2 < 0 then j27 else if 3 ≤ a2 then j27 else if a1 < 0 ∨ 15 ≤ a1.toNatClampNeg then none else if a2 < 0 ∨ 3 ≤ a2.toNatClampNeg then none else j28 (x_values a1.toNatClampNeg a2.toNatClampNeg)))
abbrev G_X3_valueAt (p : Program) (l : Launch) (e : Env) (s : State) (m : MethodId) (args : Array Value) (below : List Frame) (meth : Method) (c : Code) (g : GE) (A : Nat → Prop) (h0 h1 h2 h3 : Nat) (h4 : Nat → Nat) (x_signs : Nat → Int32) (x_length : Int32) (x_position : Int32) (x_kinds : Nat → Option Nat) (x_values : Nat → Nat → Int32) (x_commandCount : Int32) (res : Int32) (H : Heap) (locs : List Loc) (pc : Nat) (ls : Array Slot) (st : List Value) : Prop := W p l e (headSpec wsX3_valueAt rm_X3_valueAt).room s m args below meth c H locs 0 0 (MQ below (PoI g A (w_X3 g z h0 h1 h2 h3 h4 x_signs x_length x_position x_kinds x_values x_commandCount) res) args s 0 0 A) (F0 m pc ls st)
set_option maxHeartbeats 4000000 in
set_option maxRecDepth 100000 in
theorem k_X3_valueAt_0 {p : Program} {l : Launch} {e : Env} {s : State} {m : MethodId} {args : Array Value} {below : List Frame} {meth : Method} {c : Code} {g : GE} {A : Nat → Prop} {h0 h1 h2 h3 : Nat} {h4 : Nat → Nat} {x_signs : Nat → Int32} {x_length : Int32} {x_position : Int32} {x_kinds : Nat → Option Nat} {x_values : Nat → Nat → Int32} {x_commandCount : Int32} {res : Int32} {H : Heap} {locs : List Loc} {ls : Array Slot} {a1 : Int32} {a2 : Int32}
    (E : En cX3_valueAt RX3 wsX3_valueAt 3 (some .int) p s m args meth c) (hK : KK g s) (hA : ∀ q, s.heap.size ≤ q → A q) (h : f_X3_valueAt x_values a1 a2 = some res) (hW : Wo g A s H locs (w_X3 g z h0 h1 h2 h3 h4 x_signs x_length x_position x_kinds x_values x_commandCount)) (hl : lv_has ls 3 [(0, .ref h0), (1, .int a1), (2, .int a2)]) : G_X3_valueAt p l e s m args below meth c g A h0 h1 h2 h3 h4 x_signs x_length x_position x_kinds x_values x_commandCount res H locs 0 ls [] := by
  have hts := E.2.2.2.1
  unfold f_X3_valueAt at h
  obtain ⟨j28, hj28, h⟩ := jox1 h
  have J28 : ∀ (s0_28 : Int32) (H : Heap) (locs : List Loc) (ls : Array Slot), j28 s0_28 = some res → Wo g A s H locs (w_X3 g z h0 h1 h2 h3 h4 x_signs x_length x_position x_kinds x_values x_commandCount) → lv_has ls 3 [] → G_X3_valueAt p l e s m args below meth c g A h0 h1 h2 h3 h4 x_signs x_length x_position x_kinds x_values x_commandCount res H locs 28 ls [.int s0_28] := by
    intro s0_28 H locs ls h hW hl
    rw [hj28] at h
    obtain rfl := Option.some.inj h
    exact endI E rfl hW dX3_valueAt_28
  obtain ⟨j27, hj27, h⟩ := jox0 h
  have J27 : ∀ (H : Heap) (locs : List Loc) (ls : Array Slot), j27 = some res → Wo g A s H locs (w_X3 g z h0 h1 h2 h3 h4 x_signs x_length x_position x_kinds x_values x_commandCount) → lv_has ls 3 [] → G_X3_valueAt p l e s m args below meth c g A h0 h1 h2 h3 h4 x_signs x_length x_position x_kinds x_values x_commandCount res H locs 27 ls [] := by
    intro H locs ls h hW hl
    rw [hj27] at h
    refine lv_iconst (v := 0) E.1 E.2.1 dX3_valueAt_27 (by decide) ?_
    exact J28 0 H locs ls h hW (lv_sub hl [] rfl)
  refine lv_iload_n E.1 E.2.1 dX3_valueAt_0 rfl (lv_at hl 1 rfl) ?_
  obtain ⟨r1, hc, h⟩ := bx h
  refine goI (world' := (w_X3 g z h0 h1 h2 h3 h4 x_signs x_length x_position x_kinds x_values x_commandCount)) hW hA (is := []) rfl (goS (rest := []) E hK hW [] rfl rfl (c_X3_isPlace l g a1 (hf := hc) H.size) (va_cwS 1 hts gX3_valueAt_X3_isPlace rfl rfl rfl (by decide +kernel) ⟨Nat.le_of_ble_eq_true rfl, Nat.le_of_ble_eq_true rfl⟩) hl.1 rfl rfl (Nat.le_of_ble_eq_true rfl) dX3_valueAt_1 ⟨Nat.zero_le _, Nat.zero_le _⟩) rfl rfl (fun H locs hW => ?_)
  refine lv_if_eq (tgt := 27) E.1 E.2.1 dX3_valueAt_4 (by decide) (fun c4 => ?_) (fun c4 => ?_)
  · have h := it c4 h
    exact J27  H locs ls h hW (lv_sub hl [] rfl)
  · have h := ie c4 h
    refine lv_iload_n E.1 E.2.1 dX3_valueAt_7 rfl (lv_at hl 2 rfl) ?_
    refine lv_if_lt (tgt := 27) E.1 E.2.1 dX3_valueAt_8 (by decide) (fun c8 => ?_) (fun c8 => ?_)
    · have h := it c8 h
      exact J27  H locs ls h hW (lv_sub hl [] rfl)
    · have h := ie c8 h
      refine lv_iload_n E.1 E.2.1 dX3_valueAt_11 rfl (lv_at hl 2 rfl) ?_
      refine lv_iconst (v := 3) E.1 E.2.1 dX3_valueAt_12 (by decide) ?_
      refine lv_icmp_ge (tgt := 27) E.1 E.2.1 dX3_valueAt_13 (by decide) (fun c13 => ?_) (fun c13 => ?_)
      · have h := it c13 h
        exact J27  H locs ls h hW (lv_sub hl [] rfl)
      · have h := ie c13 h
        refine lv_aload_n E.1 E.2.1 dX3_valueAt_16 rfl (lv_at hl 0 rfl) ?_
        refine wGet (v := .ref h3) E hK in_X3_valueAt_X3 hW 4 lk_X3_valueAt_30 0 rfl rfl (by decide) rfl rfl dX3_valueAt_17 ?_
        refine lv_iload_n E.1 E.2.1 dX3_valueAt_20 rfl (lv_at hl 1 rfl) ?_
        obtain ⟨hi21, h⟩ := ox h
        refine wGald E hK hW 3 rfl hi21 dX3_valueAt_21 ?_
        refine lv_iload_n E.1 E.2.1 dX3_valueAt_22 rfl (lv_at hl 2 rfl) ?_
        obtain ⟨hi23, h⟩ := ox h
        refine wIald E hK hW (4 + a1.toNatClampNeg) (gridAt (Nat.not_le.mp (fun q => hi21 (Or.inr q)))) hi23 dX3_valueAt_23 ?_
        refine lv_goto (tgt := 28) E.1 E.2.1 dX3_valueAt_24 (by decide) ?_
        exact J28 (x_values a1.toNatClampNeg a2.toNatClampNeg) H locs ls h hW (lv_sub hl [] rfl)
theorem c_X3_valueAt (l : Launch) (g : GE) (h0 h1 h2 h3 : Nat) (h4 : Nat → Nat) (x_signs : Nat → Int32) (x_length : Int32) (x_position : Int32) (x_kinds : Nat → Option Nat) (x_values : Nat → Nat → Int32) (x_commandCount : Int32) (a1 : Int32) (a2 : Int32) {res : Int32} (hf : f_X3_valueAt x_values a1 a2 = some res) : CI l yX3_valueAt wsX3_valueAt rm_X3_valueAt g [.ref h0, .int a1, .int a2] (w_X3 g z h0 h1 h2 h3 h4 x_signs x_length x_position x_kinds x_values x_commandCount) (w_X3 g z h0 h1 h2 h3 h4 x_signs x_length x_position x_kinds x_values x_commandCount) res :=
  mkI (cc := cX3_valueAt) (maxL := 3) (by decide) rfl (Nat.le_of_ble_eq_true rfl) (fun p e s m args below meth c A H locs ls E hK hA hW hl => k_X3_valueAt_0 E hK hA hf hW hl)

/-! PaperStorm$CommandText.signAt(I)C X3_signAt -/
abbrev rm_X3_signAt : Room := { frames := 0, cells := 0, slots := 0, locals := 0 }
theorem in_X3_signAt_X3 : ∀ w ∈ wsX30, w ∈ wsX3_signAt := by decide +kernel
theorem lk_X3_signAt_15 : Cond.fieldLink RX3 15 "PaperStorm$CommandText" "length" "I" ∈ wsX3_signAt := by decide +kernel
theorem lk_X3_signAt_9 : Cond.fieldLink RX3 9 "PaperStorm$CommandText" "signs" "[C" ∈ wsX3_signAt := by decide +kernel
noncomputable def f_X3_signAt (x_signs : Nat → Int32) (x_length : Int32) (a1 : Int32) : Option (Int32) :=
  jo (fun (s0_28 : Int32) => if ¬ vp_nar .char s0_28 = s0_28 then none else some (s0_28)) (fun j28 => jo (j28 0) (fun j27 => if a1 < 0 then j27 else if x_length ≤ a1 then j27 else if 60 ≤ a1 then j27 else if a1 < 0 ∨ 60 ≤ a1.toNatClampNeg then none else j28 (x_signs a1.toNatClampNeg)))
abbrev G_X3_signAt (p : Program) (l : Launch) (e : Env) (s : State) (m : MethodId) (args : Array Value) (below : List Frame) (meth : Method) (c : Code) (g : GE) (A : Nat → Prop) (h0 h1 h2 h3 : Nat) (h4 : Nat → Nat) (x_signs : Nat → Int32) (x_length : Int32) (x_position : Int32) (x_kinds : Nat → Option Nat) (x_values : Nat → Nat → Int32) (x_commandCount : Int32) (res : Int32) (H : Heap) (locs : List Loc) (pc : Nat) (ls : Array Slot) (st : List Value) : Prop := W p l e (headSpec wsX3_signAt rm_X3_signAt).room s m args below meth c H locs 0 0 (MQ below (PoI g A (w_X3 g z h0 h1 h2 h3 h4 x_signs x_length x_position x_kinds x_values x_commandCount) res) args s 0 0 A) (F0 m pc ls st)
set_option maxHeartbeats 4000000 in
set_option maxRecDepth 100000 in
theorem k_X3_signAt_0 {p : Program} {l : Launch} {e : Env} {s : State} {m : MethodId} {args : Array Value} {below : List Frame} {meth : Method} {c : Code} {g : GE} {A : Nat → Prop} {h0 h1 h2 h3 : Nat} {h4 : Nat → Nat} {x_signs : Nat → Int32} {x_length : Int32} {x_position : Int32} {x_kinds : Nat → Option Nat} {x_values : Nat → Nat → Int32} {x_commandCount : Int32} {res : Int32} {H : Heap} {locs : List Loc} {ls : Array Slot} {a1 : Int32}
    (E : En cX3_signAt RX3 wsX3_signAt 2 (some .char) p s m args meth c) (hK : KK g s) (hA : ∀ q, s.heap.size ≤ q → A q) (h : f_X3_signAt x_signs x_length a1 = some res) (hW : Wo g A s H locs (w_X3 g z h0 h1 h2 h3 h4 x_signs x_length x_position x_kinds x_values x_commandCount)) (hl : lv_has ls 2 [(0, .ref h0), (1, .int a1)]) : G_X3_signAt p l e s m args below meth c g A h0 h1 h2 h3 h4 x_signs x_length x_position x_kinds x_values x_commandCount res H locs 0 ls [] := by
  have hts := E.2.2.2.1
  unfold f_X3_signAt at h
  obtain ⟨j28, hj28, h⟩ := jox1 h
  have J28 : ∀ (s0_28 : Int32) (H : Heap) (locs : List Loc) (ls : Array Slot), j28 s0_28 = some res → Wo g A s H locs (w_X3 g z h0 h1 h2 h3 h4 x_signs x_length x_position x_kinds x_values x_commandCount) → lv_has ls 2 [] → G_X3_signAt p l e s m args below meth c g A h0 h1 h2 h3 h4 x_signs x_length x_position x_kinds x_values x_commandCount res H locs 28 ls [.int s0_28] := by
    intro s0_28 H locs ls h hW hl
    rw [hj28] at h
    obtain ⟨hz, h⟩ := ox h
    obtain rfl := Option.some.inj h
    exact endI E (nar_c (Decidable.not_not.mp hz)) hW dX3_signAt_28
  obtain ⟨j27, hj27, h⟩ := jox0 h
  have J27 : ∀ (H : Heap) (locs : List Loc) (ls : Array Slot), j27 = some res → Wo g A s H locs (w_X3 g z h0 h1 h2 h3 h4 x_signs x_length x_position x_kinds x_values x_commandCount) → lv_has ls 2 [] → G_X3_signAt p l e s m args below meth c g A h0 h1 h2 h3 h4 x_signs x_length x_position x_kinds x_values x_commandCount res H locs 27 ls [] := by
    intro H locs ls h hW hl
    rw [hj27] at h
    refine lv_iconst (v := 0) E.1 E.2.1 dX3_signAt_27 (by decide) ?_
    exact J28 0 H locs ls h hW (lv_sub hl [] rfl)
  refine lv_iload_n E.1 E.2.1 dX3_signAt_0 rfl (lv_at hl 1 rfl) ?_
  refine lv_if_lt (tgt := 27) E.1 E.2.1 dX3_signAt_1 (by decide) (fun c1 => ?_) (fun c1 => ?_)
  · have h := it c1 h
    exact J27  H locs ls h hW (lv_sub hl [] rfl)
  · have h := ie c1 h
    refine lv_iload_n E.1 E.2.1 dX3_signAt_4 rfl (lv_at hl 1 rfl) ?_
    refine lv_aload_n E.1 E.2.1 dX3_signAt_5 rfl (lv_at hl 0 rfl) ?_
    refine wGet (v := .int x_length) E hK in_X3_signAt_X3 hW 1 lk_X3_signAt_15 0 rfl rfl (by decide) rfl rfl dX3_signAt_6 ?_
    refine lv_icmp_ge (tgt := 27) E.1 E.2.1 dX3_signAt_9 (by decide) (fun c9 => ?_) (fun c9 => ?_)
    · have h := it c9 h
      exact J27  H locs ls h hW (lv_sub hl [] rfl)
    · have h := ie c9 h
      refine lv_iload_n E.1 E.2.1 dX3_signAt_12 rfl (lv_at hl 1 rfl) ?_
      refine lv_bipush (v := 60) E.1 E.2.1 dX3_signAt_13 (by decide) ?_
      refine lv_icmp_ge (tgt := 27) E.1 E.2.1 dX3_signAt_15 (by decide) (fun c15 => ?_) (fun c15 => ?_)
      · have h := it c15 h
        exact J27  H locs ls h hW (lv_sub hl [] rfl)
      · have h := ie c15 h
        refine lv_aload_n E.1 E.2.1 dX3_signAt_18 rfl (lv_at hl 0 rfl) ?_
        refine wGet (v := .ref h1) E hK in_X3_signAt_X3 hW 0 lk_X3_signAt_9 0 rfl rfl (by decide) rfl rfl dX3_signAt_19 ?_
        refine lv_iload_n E.1 E.2.1 dX3_signAt_22 rfl (lv_at hl 1 rfl) ?_
        obtain ⟨hi23, h⟩ := ox h
        refine wCald E hK hW 1 rfl hi23 dX3_signAt_23 ?_
        refine lv_goto (tgt := 28) E.1 E.2.1 dX3_signAt_24 (by decide) ?_
        exact J28 (x_signs a1.toNatClampNeg) H locs ls h hW (lv_sub hl [] rfl)
theorem c_X3_signAt (l : Launch) (g : GE) (h0 h1 h2 h3 : Nat) (h4 : Nat → Nat) (x_signs : Nat → Int32) (x_length : Int32) (x_position : Int32) (x_kinds : Nat → Option Nat) (x_values : Nat → Nat → Int32) (x_commandCount : Int32) (a1 : Int32) {res : Int32} (hf : f_X3_signAt x_signs x_length a1 = some res) : CI l yX3_signAt wsX3_signAt rm_X3_signAt g [.ref h0, .int a1] (w_X3 g z h0 h1 h2 h3 h4 x_signs x_length x_position x_kinds x_values x_commandCount) (w_X3 g z h0 h1 h2 h3 h4 x_signs x_length x_position x_kinds x_values x_commandCount) res :=
  mkI (cc := cX3_signAt) (maxL := 2) (by decide) rfl (Nat.le_of_ble_eq_true rfl) (fun p e s m args below meth c A H locs ls E hK hA hW hl => k_X3_signAt_0 E hK hA hf hW hl)

/-! PaperStorm$CommandText.isSignAt(IC)Z X3_isSignAt -/
abbrev rm_X3_isSignAt : Room := { frames := 1, cells := 0, slots := 0, locals := 21 }
noncomputable def f_X3_isSignAt (x_signs : Nat → Int32) (x_length : Int32) (a1 : Int32) (a2 : Int32) : Option (Int32) :=
  jo (fun (s0_14 : Int32) => if ¬ vp_nar .boolean s0_14 = s0_14 then none else some (s0_14)) (fun j14 => (f_X3_signAt x_signs x_length a1).bind fun r2 => if r2 = a2 then j14 1 else j14 0)
abbrev G_X3_isSignAt (p : Program) (l : Launch) (e : Env) (s : State) (m : MethodId) (args : Array Value) (below : List Frame) (meth : Method) (c : Code) (g : GE) (A : Nat → Prop) (h0 h1 h2 h3 : Nat) (h4 : Nat → Nat) (x_signs : Nat → Int32) (x_length : Int32) (x_position : Int32) (x_kinds : Nat → Option Nat) (x_values : Nat → Nat → Int32) (x_commandCount : Int32) (res : Int32) (H : Heap) (locs : List Loc) (pc : Nat) (ls : Array Slot) (st : List Value) : Prop := W p l e (headSpec wsX3_isSignAt rm_X3_isSignAt).room s m args below meth c H locs 0 0 (MQ below (PoI g A (w_X3 g z h0 h1 h2 h3 h4 x_signs x_length x_position x_kinds x_values x_commandCount) res) args s 0 0 A) (F0 m pc ls st)
set_option maxHeartbeats 4000000 in
set_option maxRecDepth 100000 in
theorem k_X3_isSignAt_0 {p : Program} {l : Launch} {e : Env} {s : State} {m : MethodId} {args : Array Value} {below : List Frame} {meth : Method} {c : Code} {g : GE} {A : Nat → Prop} {h0 h1 h2 h3 : Nat} {h4 : Nat → Nat} {x_signs : Nat → Int32} {x_length : Int32} {x_position : Int32} {x_kinds : Nat → Option Nat} {x_values : Nat → Nat → Int32} {x_commandCount : Int32} {res : Int32} {H : Heap} {locs : List Loc} {ls : Array Slot} {a1 : Int32} {a2 : Int32}
    (E : En cX3_isSignAt RX3 wsX3_isSignAt 3 (some .boolean) p s m args meth c) (hK : KK g s) (hA : ∀ q, s.heap.size ≤ q → A q) (h : f_X3_isSignAt x_signs x_length a1 a2 = some res) (hW : Wo g A s H locs (w_X3 g z h0 h1 h2 h3 h4 x_signs x_length x_position x_kinds x_values x_commandCount)) (hl : lv_has ls 3 [(0, .ref h0), (1, .int a1), (2, .int a2)]) : G_X3_isSignAt p l e s m args below meth c g A h0 h1 h2 h3 h4 x_signs x_length x_position x_kinds x_values x_commandCount res H locs 0 ls [] := by
  have hts := E.2.2.2.1
  unfold f_X3_isSignAt at h
  obtain ⟨j14, hj14, h⟩ := jox1 h
  have J14 : ∀ (s0_14 : Int32) (H : Heap) (locs : List Loc) (ls : Array Slot), j14 s0_14 = some res → Wo g A s H locs (w_X3 g z h0 h1 h2 h3 h4 x_signs x_length x_position x_kinds x_values x_commandCount) → lv_has ls 3 [] → G_X3_isSignAt p l e s m args below meth c g A h0 h1 h2 h3 h4 x_signs x_length x_position x_kinds x_values x_commandCount res H locs 14 ls [.int s0_14] := by
    intro s0_14 H locs ls h hW hl
    rw [hj14] at h
    obtain ⟨hz, h⟩ := ox h
    obtain rfl := Option.some.inj h
    exact endI E (nar_z (Decidable.not_not.mp hz)) hW dX3_isSignAt_14
  refine lv_aload_n E.1 E.2.1 dX3_isSignAt_0 rfl (lv_at hl 0 rfl) ?_
  refine lv_iload_n E.1 E.2.1 dX3_isSignAt_1 rfl (lv_at hl 1 rfl) ?_
  obtain ⟨r2, hc, h⟩ := bx h
  refine goI (world' := (w_X3 g z h0 h1 h2 h3 h4 x_signs x_length x_position x_kinds x_values x_commandCount)) hW hA (is := [0, 1, 2, 3, 4, 5, 6, 7, 8, 9, 10, 11, 12, 13, 14, 15, 16, 17, 18]) rfl (goV (rest := []) E hK hW [0, 1, 2, 3, 4, 5, 6, 7, 8, 9, 10, 11, 12, 13, 14, 15, 16, 17, 18] rfl rfl (c_X3_signAt l g h0 h1 h2 h3 h4 x_signs x_length x_position x_kinds x_values x_commandCount a1 (hf := hc) H.size) (cwV 1 hts gX3_isSignAt_X3_signAt rfl rfl rfl (by decide +kernel) ⟨Nat.le_of_ble_eq_true rfl, Nat.le_of_ble_eq_true rfl⟩) 0 rfl rfl rfl hl.1 rfl rfl (Nat.le_of_ble_eq_true rfl) dX3_isSignAt_2 ⟨Nat.zero_le _, Nat.zero_le _⟩) rfl rfl (fun H locs hW => ?_)
  refine lv_iload_n E.1 E.2.1 dX3_isSignAt_5 rfl (lv_at hl 2 rfl) ?_
  refine lv_icmp_ne (tgt := 13) E.1 E.2.1 dX3_isSignAt_6 (by decide) (fun c6 => ?_) (fun c6 => ?_)
  · have h := ie c6 h
    refine lv_iconst (v := 0) E.1 E.2.1 dX3_isSignAt_13 (by decide) ?_
    exact J14 0 H locs ls h hW (lv_sub hl [] rfl)
  · have h := it c6 h
    refine lv_iconst (v := 1) E.1 E.2.1 dX3_isSignAt_9 (by decide) ?_
    refine lv_goto (tgt := 14) E.1 E.2.1 dX3_isSignAt_10 (by decide) ?_
    exact J14 1 H locs ls h hW (lv_sub hl [] rfl)
theorem c_X3_isSignAt (l : Launch) (g : GE) (h0 h1 h2 h3 : Nat) (h4 : Nat → Nat) (x_signs : Nat → Int32) (x_length : Int32) (x_position : Int32) (x_kinds : Nat → Option Nat) (x_values : Nat → Nat → Int32) (x_commandCount : Int32) (a1 : Int32) (a2 : Int32) {res : Int32} (hf : f_X3_isSignAt x_signs x_length a1 a2 = some res) : CI l yX3_isSignAt wsX3_isSignAt rm_X3_isSignAt g [.ref h0, .int a1, .int a2] (w_X3 g z h0 h1 h2 h3 h4 x_signs x_length x_position x_kinds x_values x_commandCount) (w_X3 g z h0 h1 h2 h3 h4 x_signs x_length x_position x_kinds x_values x_commandCount) res :=
  mkI (cc := cX3_isSignAt) (maxL := 3) (by decide) rfl (Nat.le_of_ble_eq_true rfl) (fun p e s m args below meth c A H locs ls E hK hA hW hl => k_X3_isSignAt_0 E hK hA hf hW hl)

/-! PaperStorm$CommandText.readSign(C)Z X3_readSign -/
abbrev rm_X3_readSign : Room := { frames := 2, cells := 0, slots := 0, locals := 43 }
theorem in_X3_readSign_X3 : ∀ w ∈ wsX30, w ∈ wsX3_readSign := by decide +kernel
theorem lk_X3_readSign_19 : Cond.fieldLink RX3 19 "PaperStorm$CommandText" "position" "I" ∈ wsX3_readSign := by decide +kernel
noncomputable def f_X3_readSign (x_signs : Nat → Int32) (x_length : Int32) (x_position : Int32) (a1 : Int32) : Option (Int32 × Int32) :=
  (f_X3_isSignAt x_signs x_length x_position a1).bind fun r6 => if r6 = 0 then some (0, x_position) else some (1, (x_position + 1))
abbrev G_X3_readSign (p : Program) (l : Launch) (e : Env) (s : State) (m : MethodId) (args : Array Value) (below : List Frame) (meth : Method) (c : Code) (g : GE) (A : Nat → Prop) (h0 h1 h2 h3 : Nat) (h4 : Nat → Nat) (x_signs : Nat → Int32) (x_length : Int32) (x_kinds : Nat → Option Nat) (x_values : Nat → Nat → Int32) (x_commandCount : Int32) (res : Int32 × Int32) (H : Heap) (locs : List Loc) (pc : Nat) (ls : Array Slot) (st : List Value) : Prop := W p l e (headSpec wsX3_readSign rm_X3_readSign).room s m args below meth c H locs 0 0 (MQ below (PoI g A (w_X3 g z h0 h1 h2 h3 h4 x_signs x_length res.2 x_kinds x_values x_commandCount) res.1) args s 0 0 A) (F0 m pc ls st)
set_option maxHeartbeats 4000000 in
set_option maxRecDepth 100000 in
theorem k_X3_readSign_0 {p : Program} {l : Launch} {e : Env} {s : State} {m : MethodId} {args : Array Value} {below : List Frame} {meth : Method} {c : Code} {g : GE} {A : Nat → Prop} {h0 h1 h2 h3 : Nat} {h4 : Nat → Nat} {x_signs : Nat → Int32} {x_length : Int32} {x_position : Int32} {x_kinds : Nat → Option Nat} {x_values : Nat → Nat → Int32} {x_commandCount : Int32} {res : Int32 × Int32} {H : Heap} {locs : List Loc} {ls : Array Slot} {a1 : Int32}
    (E : En cX3_readSign RX3 wsX3_readSign 2 (some .boolean) p s m args meth c) (hK : KK g s) (hA : ∀ q, s.heap.size ≤ q → A q) (h : f_X3_readSign x_signs x_length x_position a1 = some res) (hW : Wo g A s H locs (w_X3 g z h0 h1 h2 h3 h4 x_signs x_length x_position x_kinds x_values x_commandCount)) (hl : lv_has ls 2 [(0, .ref h0), (1, .int a1)]) : G_X3_readSign p l e s m args below meth c g A h0 h1 h2 h3 h4 x_signs x_length x_kinds x_values x_commandCount res H locs 0 ls [] := by
  have hts := E.2.2.2.1
  unfold f_X3_readSign at h
  refine lv_aload_n E.1 E.2.1 dX3_readSign_0 rfl (lv_at hl 0 rfl) ?_
  refine lv_aload_n E.1 E.2.1 dX3_readSign_1 rfl (lv_at hl 0 rfl) ?_
  refine wGet (v := .int x_position) E hK in_X3_readSign_X3 hW 2 lk_X3_readSign_19 0 rfl rfl (by decide) rfl rfl dX3_readSign_2 ?_
  refine lv_iload_n E.1 E.2.1 dX3_readSign_5 rfl (lv_at hl 1 rfl) ?_
  obtain ⟨r6, hc, h⟩ := bx h
  refine goI (world' := (w_X3 g z h0 h1 h2 h3 h4 x_signs x_length x_position x_kinds x_values x_commandCount)) hW hA (is := [0, 1, 2, 3, 4, 5, 6, 7, 8, 9, 10, 11, 12, 13, 14, 15, 16, 17, 18]) rfl (goV (rest := []) E hK hW [0, 1, 2, 3, 4, 5, 6, 7, 8, 9, 10, 11, 12, 13, 14, 15, 16, 17, 18] rfl rfl (c_X3_isSignAt l g h0 h1 h2 h3 h4 x_signs x_length x_position x_kinds x_values x_commandCount x_position a1 (hf := hc) H.size) (cwV 2 hts gX3_readSign_X3_isSignAt rfl rfl rfl (by decide +kernel) ⟨Nat.le_of_ble_eq_true rfl, Nat.le_of_ble_eq_true rfl⟩) 0 rfl rfl rfl hl.1 rfl rfl (Nat.le_of_ble_eq_true rfl) dX3_readSign_6 ⟨Nat.zero_le _, Nat.zero_le _⟩) rfl rfl (fun H locs hW => ?_)
  refine lv_if_ne (tgt := 14) E.1 E.2.1 dX3_readSign_9 (by decide) (fun c9 => ?_) (fun c9 => ?_)
  · have h := ie c9 h
    refine lv_aload_n E.1 E.2.1 dX3_readSign_14 rfl (lv_at hl 0 rfl) ?_
    refine lv_dup E.1 E.2.1 dX3_readSign_15 rfl ?_
    refine wGet (v := .int x_position) E hK in_X3_readSign_X3 hW 2 lk_X3_readSign_19 0 rfl rfl (by decide) rfl rfl dX3_readSign_16 ?_
    refine lv_iconst (v := 1) E.1 E.2.1 dX3_readSign_19 (by decide) ?_
    refine lv_iadd E.1 E.2.1 dX3_readSign_20 ?_
    refine wPut (world' := (w_X3 g z h0 h1 h2 h3 h4 x_signs x_length (x_position + 1) x_kinds x_values x_commandCount)) E hK in_X3_readSign_X3 tyX3 tyX3_ok nmX3 hW 2 lk_X3_readSign_19 0 rfl rfl (by decide) rfl rfl rfl rfl rfl (Nat.le_of_ble_eq_true rfl) dX3_readSign_21 rfl (fun H locs hW => ?_)
    refine lv_iconst (v := 1) E.1 E.2.1 dX3_readSign_24 (by decide) ?_
    obtain rfl := Option.some.inj h
    exact endI E (show narrow .boolean (.int 1) = .int 1 by decide) hW dX3_readSign_25
  · have h := it c9 h
    refine lv_iconst (v := 0) E.1 E.2.1 dX3_readSign_12 (by decide) ?_
    obtain rfl := Option.some.inj h
    exact endI E (show narrow .boolean (.int 0) = .int 0 by decide) hW dX3_readSign_13
theorem c_X3_readSign (l : Launch) (g : GE) (h0 h1 h2 h3 : Nat) (h4 : Nat → Nat) (x_signs : Nat → Int32) (x_length : Int32) (x_position : Int32) (x_kinds : Nat → Option Nat) (x_values : Nat → Nat → Int32) (x_commandCount : Int32) (a1 : Int32) {res : Int32 × Int32} (hf : f_X3_readSign x_signs x_length x_position a1 = some res) : CI l yX3_readSign wsX3_readSign rm_X3_readSign g [.ref h0, .int a1] (w_X3 g z h0 h1 h2 h3 h4 x_signs x_length x_position x_kinds x_values x_commandCount) (w_X3 g z h0 h1 h2 h3 h4 x_signs x_length res.2 x_kinds x_values x_commandCount) res.1 :=
  mkI (cc := cX3_readSign) (maxL := 2) (by decide) rfl (Nat.le_of_ble_eq_true rfl) (fun p e s m args below meth c A H locs ls E hK hA hW hl => k_X3_readSign_0 E hK hA hf hW hl)

/-! PaperStorm$CommandText.readDigit()I X3_readDigit -/
abbrev rm_X3_readDigit : Room := { frames := 1, cells := 0, slots := 0, locals := 21 }
theorem in_X3_readDigit_X3 : ∀ w ∈ wsX30, w ∈ wsX3_readDigit := by decide +kernel
theorem lk_X3_readDigit_19 : Cond.fieldLink RX3 19 "PaperStorm$CommandText" "position" "I" ∈ wsX3_readDigit := by decide +kernel
noncomputable def f_X3_readDigit (x_signs : Nat → Int32) (x_length : Int32) (x_position : Int32) : Option (Int32 × Int32) :=
  jo (some ((-1), x_position)) (fun j21 => (f_X3_signAt x_signs x_length x_position).bind fun r5 => if r5 < 48 then j21 else if r5 ≤ 57 then some ((r5 - 48), (x_position + 1)) else j21)
abbrev G_X3_readDigit (p : Program) (l : Launch) (e : Env) (s : State) (m : MethodId) (args : Array Value) (below : List Frame) (meth : Method) (c : Code) (g : GE) (A : Nat → Prop) (h0 h1 h2 h3 : Nat) (h4 : Nat → Nat) (x_signs : Nat → Int32) (x_length : Int32) (x_kinds : Nat → Option Nat) (x_values : Nat → Nat → Int32) (x_commandCount : Int32) (res : Int32 × Int32) (H : Heap) (locs : List Loc) (pc : Nat) (ls : Array Slot) (st : List Value) : Prop := W p l e (headSpec wsX3_readDigit rm_X3_readDigit).room s m args below meth c H locs 0 0 (MQ below (PoI g A (w_X3 g z h0 h1 h2 h3 h4 x_signs x_length res.2 x_kinds x_values x_commandCount) res.1) args s 0 0 A) (F0 m pc ls st)
set_option maxHeartbeats 4000000 in
set_option maxRecDepth 100000 in
theorem k_X3_readDigit_0 {p : Program} {l : Launch} {e : Env} {s : State} {m : MethodId} {args : Array Value} {below : List Frame} {meth : Method} {c : Code} {g : GE} {A : Nat → Prop} {h0 h1 h2 h3 : Nat} {h4 : Nat → Nat} {x_signs : Nat → Int32} {x_length : Int32} {x_position : Int32} {x_kinds : Nat → Option Nat} {x_values : Nat → Nat → Int32} {x_commandCount : Int32} {res : Int32 × Int32} {H : Heap} {locs : List Loc} {ls : Array Slot} 
    (E : En cX3_readDigit RX3 wsX3_readDigit 2 (some .int) p s m args meth c) (hK : KK g s) (hA : ∀ q, s.heap.size ≤ q → A q) (h : f_X3_readDigit x_signs x_length x_position = some res) (hW : Wo g A s H locs (w_X3 g z h0 h1 h2 h3 h4 x_signs x_length x_position x_kinds x_values x_commandCount)) (hl : lv_has ls 2 [(0, .ref h0)]) : G_X3_readDigit p l e s m args below meth c g A h0 h1 h2 h3 h4 x_signs x_length x_kinds x_values x_commandCount res H locs 0 ls [] := by
  have hts := E.2.2.2.1
  unfold f_X3_readDigit at h
  obtain ⟨j21, hj21, h⟩ := jox0 h
  have J21 : ∀ (H : Heap) (locs : List Loc) (ls : Array Slot), j21 = some res → Wo g A s H locs (w_X3 g z h0 h1 h2 h3 h4 x_signs x_length x_position x_kinds x_values x_commandCount) → lv_has ls 2 [] → G_X3_readDigit p l e s m args below meth c g A h0 h1 h2 h3 h4 x_signs x_length x_kinds x_values x_commandCount res H locs 21 ls [] := by
    intro H locs ls h hW hl
    rw [hj21] at h
    refine lv_iconst (v := (-1)) E.1 E.2.1 dX3_readDigit_21 (by decide) ?_
    obtain rfl := Option.some.inj h
    exact endI E rfl hW dX3_readDigit_22
  refine lv_aload_n E.1 E.2.1 dX3_readDigit_0 rfl (lv_at hl 0 rfl) ?_
  refine lv_aload_n E.1 E.2.1 dX3_readDigit_1 rfl (lv_at hl 0 rfl) ?_
  refine wGet (v := .int x_position) E hK in_X3_readDigit_X3 hW 2 lk_X3_readDigit_19 0 rfl rfl (by decide) rfl rfl dX3_readDigit_2 ?_
  obtain ⟨r5, hc, h⟩ := bx h
  refine goI (world' := (w_X3 g z h0 h1 h2 h3 h4 x_signs x_length x_position x_kinds x_values x_commandCount)) hW hA (is := [0, 1, 2, 3, 4, 5, 6, 7, 8, 9, 10, 11, 12, 13, 14, 15, 16, 17, 18]) rfl (goV (rest := []) E hK hW [0, 1, 2, 3, 4, 5, 6, 7, 8, 9, 10, 11, 12, 13, 14, 15, 16, 17, 18] rfl rfl (c_X3_signAt l g h0 h1 h2 h3 h4 x_signs x_length x_position x_kinds x_values x_commandCount x_position (hf := hc) H.size) (cwV 1 hts gX3_readDigit_X3_signAt rfl rfl rfl (by decide +kernel) ⟨Nat.le_of_ble_eq_true rfl, Nat.le_of_ble_eq_true rfl⟩) 0 rfl rfl rfl hl.1 rfl rfl (Nat.le_of_ble_eq_true rfl) dX3_readDigit_5 ⟨Nat.zero_le _, Nat.zero_le _⟩) rfl rfl (fun H locs hW => ?_)
  refine lv_istore_n (lv' := [(1, .int r5), (0, .ref h0)]) E.1 E.2.1 dX3_readDigit_8 rfl hl (by decide) rfl (fun ls hl => ?_)
  refine lv_iload_n E.1 E.2.1 dX3_readDigit_9 rfl (lv_at hl 0 rfl) ?_
  refine lv_bipush (v := 48) E.1 E.2.1 dX3_readDigit_10 (by decide) ?_
  refine lv_icmp_lt (tgt := 21) E.1 E.2.1 dX3_readDigit_12 (by decide) (fun c12 => ?_) (fun c12 => ?_)
  · have h := it c12 h
    exact J21  H locs ls h hW (lv_sub hl [] rfl)
  · have h := ie c12 h
    refine lv_iload_n E.1 E.2.1 dX3_readDigit_15 rfl (lv_at hl 0 rfl) ?_
    refine lv_bipush (v := 57) E.1 E.2.1 dX3_readDigit_16 (by decide) ?_
    refine lv_icmp_le (tgt := 23) E.1 E.2.1 dX3_readDigit_18 (by decide) (fun c18 => ?_) (fun c18 => ?_)
    · have h := it c18 h
      refine lv_aload_n E.1 E.2.1 dX3_readDigit_23 rfl (lv_at hl 1 rfl) ?_
      refine lv_dup E.1 E.2.1 dX3_readDigit_24 rfl ?_
      refine wGet (v := .int x_position) E hK in_X3_readDigit_X3 hW 2 lk_X3_readDigit_19 0 rfl rfl (by decide) rfl rfl dX3_readDigit_25 ?_
      refine lv_iconst (v := 1) E.1 E.2.1 dX3_readDigit_28 (by decide) ?_
      refine lv_iadd E.1 E.2.1 dX3_readDigit_29 ?_
      refine wPut (world' := (w_X3 g z h0 h1 h2 h3 h4 x_signs x_length (x_position + 1) x_kinds x_values x_commandCount)) E hK in_X3_readDigit_X3 tyX3 tyX3_ok nmX3 hW 2 lk_X3_readDigit_19 0 rfl rfl (by decide) rfl rfl rfl rfl rfl (Nat.le_of_ble_eq_true rfl) dX3_readDigit_30 rfl (fun H locs hW => ?_)
      refine lv_iload_n E.1 E.2.1 dX3_readDigit_33 rfl (lv_at hl 0 rfl) ?_
      refine lv_bipush (v := 48) E.1 E.2.1 dX3_readDigit_34 (by decide) ?_
      refine lv_isub E.1 E.2.1 dX3_readDigit_36 ?_
      obtain rfl := Option.some.inj h
      exact endI E rfl hW dX3_readDigit_37
    · have h := ie c18 h
      exact J21  H locs ls h hW (lv_sub hl [] rfl)
theorem c_X3_readDigit (l : Launch) (g : GE) (h0 h1 h2 h3 : Nat) (h4 : Nat → Nat) (x_signs : Nat → Int32) (x_length : Int32) (x_position : Int32) (x_kinds : Nat → Option Nat) (x_values : Nat → Nat → Int32) (x_commandCount : Int32) {res : Int32 × Int32} (hf : f_X3_readDigit x_signs x_length x_position = some res) : CI l yX3_readDigit wsX3_readDigit rm_X3_readDigit g [.ref h0] (w_X3 g z h0 h1 h2 h3 h4 x_signs x_length x_position x_kinds x_values x_commandCount) (w_X3 g z h0 h1 h2 h3 h4 x_signs x_length res.2 x_kinds x_values x_commandCount) res.1 :=
  mkI (cc := cX3_readDigit) (maxL := 2) (by decide) rfl (Nat.le_of_ble_eq_true rfl) (fun p e s m args below meth c A H locs ls E hK hA hW hl => k_X3_readDigit_0 E hK hA hf hW hl)

/-! PaperStorm$CommandText.readDirection()I X3_readDirection -/
abbrev rm_X3_readDirection : Room := { frames := 1, cells := 0, slots := 0, locals := 21 }
theorem in_X3_readDirection_X3 : ∀ w ∈ wsX30, w ∈ wsX3_readDirection := by decide +kernel
theorem lk_X3_readDirection_19 : Cond.fieldLink RX3 19 "PaperStorm$CommandText" "position" "I" ∈ wsX3_readDirection := by decide +kernel
noncomputable def f_X3_readDirection (x_signs : Nat → Int32) (x_length : Int32) (x_position : Int32) : Option (Int32 × Int32) :=
  (f_X3_signAt x_signs x_length x_position).bind fun r5 => (f_X10_isDirection r5).bind fun r10 => if r10 = 0 then some ((-1), x_position) else some (r5, (x_position + 1))
abbrev G_X3_readDirection (p : Program) (l : Launch) (e : Env) (s : State) (m : MethodId) (args : Array Value) (below : List Frame) (meth : Method) (c : Code) (g : GE) (A : Nat → Prop) (h0 h1 h2 h3 : Nat) (h4 : Nat → Nat) (x_signs : Nat → Int32) (x_length : Int32) (x_kinds : Nat → Option Nat) (x_values : Nat → Nat → Int32) (x_commandCount : Int32) (res : Int32 × Int32) (H : Heap) (locs : List Loc) (pc : Nat) (ls : Array Slot) (st : List Value) : Prop := W p l e (headSpec wsX3_readDirection rm_X3_readDirection).room s m args below meth c H locs 0 0 (MQ below (PoI g A (w_X3 g z h0 h1 h2 h3 h4 x_signs x_length res.2 x_kinds x_values x_commandCount) res.1) args s 0 0 A) (F0 m pc ls st)
set_option maxHeartbeats 4000000 in
set_option maxRecDepth 100000 in
theorem k_X3_readDirection_0 {p : Program} {l : Launch} {e : Env} {s : State} {m : MethodId} {args : Array Value} {below : List Frame} {meth : Method} {c : Code} {g : GE} {A : Nat → Prop} {h0 h1 h2 h3 : Nat} {h4 : Nat → Nat} {x_signs : Nat → Int32} {x_length : Int32} {x_position : Int32} {x_kinds : Nat → Option Nat} {x_values : Nat → Nat → Int32} {x_commandCount : Int32} {res : Int32 × Int32} {H : Heap} {locs : List Loc} {ls : Array Slot} 
    (E : En cX3_readDirection RX3 wsX3_readDirection 2 (some .int) p s m args meth c) (hK : KK g s) (hA : ∀ q, s.heap.size ≤ q → A q) (h : f_X3_readDirection x_signs x_length x_position = some res) (hW : Wo g A s H locs (w_X3 g z h0 h1 h2 h3 h4 x_signs x_length x_position x_kinds x_values x_commandCount)) (hl : lv_has ls 2 [(0, .ref h0)]) : G_X3_readDirection p l e s m args below meth c g A h0 h1 h2 h3 h4 x_signs x_length x_kinds x_values x_commandCount res H locs 0 ls [] := by
  have hts := E.2.2.2.1
  unfold f_X3_readDirection at h
  refine lv_aload_n E.1 E.2.1 dX3_readDirection_0 rfl (lv_at hl 0 rfl) ?_
  refine lv_aload_n E.1 E.2.1 dX3_readDirection_1 rfl (lv_at hl 0 rfl) ?_
  refine wGet (v := .int x_position) E hK in_X3_readDirection_X3 hW 2 lk_X3_readDirection_19 0 rfl rfl (by decide) rfl rfl dX3_readDirection_2 ?_
  obtain ⟨r5, hc, h⟩ := bx h
  refine goI (world' := (w_X3 g z h0 h1 h2 h3 h4 x_signs x_length x_position x_kinds x_values x_commandCount)) hW hA (is := [0, 1, 2, 3, 4, 5, 6, 7, 8, 9, 10, 11, 12, 13, 14, 15, 16, 17, 18]) rfl (goV (rest := []) E hK hW [0, 1, 2, 3, 4, 5, 6, 7, 8, 9, 10, 11, 12, 13, 14, 15, 16, 17, 18] rfl rfl (c_X3_signAt l g h0 h1 h2 h3 h4 x_signs x_length x_position x_kinds x_values x_commandCount x_position (hf := hc) H.size) (cwV 1 hts gX3_readDirection_X3_signAt rfl rfl rfl (by decide +kernel) ⟨Nat.le_of_ble_eq_true rfl, Nat.le_of_ble_eq_true rfl⟩) 0 rfl rfl rfl hl.1 rfl rfl (Nat.le_of_ble_eq_true rfl) dX3_readDirection_5 ⟨Nat.zero_le _, Nat.zero_le _⟩) rfl rfl (fun H locs hW => ?_)
  refine lv_istore_n (lv' := [(1, .int r5), (0, .ref h0)]) E.1 E.2.1 dX3_readDirection_8 rfl hl (by decide) rfl (fun ls hl => ?_)
  refine lv_iload_n E.1 E.2.1 dX3_readDirection_9 rfl (lv_at hl 0 rfl) ?_
  obtain ⟨r10, hc, h⟩ := bx h
  refine goI (world' := (w_X3 g z h0 h1 h2 h3 h4 x_signs x_length x_position x_kinds x_values x_commandCount)) hW hA (is := []) rfl (goS (rest := []) E hK hW [] rfl rfl (c_X10_isDirection l g r5 (hf := hc) H.size) (va_cwS 1 hts gX3_readDirection_X10_isDirection rfl rfl rfl (by decide +kernel) ⟨Nat.le_of_ble_eq_true rfl, Nat.le_of_ble_eq_true rfl⟩) hl.1 rfl rfl (Nat.le_of_ble_eq_true rfl) dX3_readDirection_10 ⟨Nat.zero_le _, Nat.zero_le _⟩) rfl rfl (fun H locs hW => ?_)
  refine lv_if_ne (tgt := 18) E.1 E.2.1 dX3_readDirection_13 (by decide) (fun c13 => ?_) (fun c13 => ?_)
  · have h := ie c13 h
    refine lv_aload_n E.1 E.2.1 dX3_readDirection_18 rfl (lv_at hl 1 rfl) ?_
    refine lv_dup E.1 E.2.1 dX3_readDirection_19 rfl ?_
    refine wGet (v := .int x_position) E hK in_X3_readDirection_X3 hW 2 lk_X3_readDirection_19 0 rfl rfl (by decide) rfl rfl dX3_readDirection_20 ?_
    refine lv_iconst (v := 1) E.1 E.2.1 dX3_readDirection_23 (by decide) ?_
    refine lv_iadd E.1 E.2.1 dX3_readDirection_24 ?_
    refine wPut (world' := (w_X3 g z h0 h1 h2 h3 h4 x_signs x_length (x_position + 1) x_kinds x_values x_commandCount)) E hK in_X3_readDirection_X3 tyX3 tyX3_ok nmX3 hW 2 lk_X3_readDirection_19 0 rfl rfl (by decide) rfl rfl rfl rfl rfl (Nat.le_of_ble_eq_true rfl) dX3_readDirection_25 rfl (fun H locs hW => ?_)
    refine lv_iload_n E.1 E.2.1 dX3_readDirection_28 rfl (lv_at hl 0 rfl) ?_
    obtain rfl := Option.some.inj h
    exact endI E rfl hW dX3_readDirection_29
  · have h := it c13 h
    refine lv_iconst (v := (-1)) E.1 E.2.1 dX3_readDirection_16 (by decide) ?_
    obtain rfl := Option.some.inj h
    exact endI E rfl hW dX3_readDirection_17
theorem c_X3_readDirection (l : Launch) (g : GE) (h0 h1 h2 h3 : Nat) (h4 : Nat → Nat) (x_signs : Nat → Int32) (x_length : Int32) (x_position : Int32) (x_kinds : Nat → Option Nat) (x_values : Nat → Nat → Int32) (x_commandCount : Int32) {res : Int32 × Int32} (hf : f_X3_readDirection x_signs x_length x_position = some res) : CI l yX3_readDirection wsX3_readDirection rm_X3_readDirection g [.ref h0] (w_X3 g z h0 h1 h2 h3 h4 x_signs x_length x_position x_kinds x_values x_commandCount) (w_X3 g z h0 h1 h2 h3 h4 x_signs x_length res.2 x_kinds x_values x_commandCount) res.1 :=
  mkI (cc := cX3_readDirection) (maxL := 2) (by decide) rfl (Nat.le_of_ble_eq_true rfl) (fun p e s m args below meth c A H locs ls E hK hA hW hl => k_X3_readDirection_0 E hK hA hf hW hl)

/-! PaperStorm$CommandText.readParameter(C)I X3_readParameter -/
abbrev rm_X3_readParameter : Room := { frames := 3, cells := 0, slots := 0, locals := 64 }
noncomputable def f_X3_readParameter (x_signs : Nat → Int32) (x_length : Int32) (x_position : Int32) (a1 : Int32) : Option (Int32 × Int32) :=
  if a1 = 99 then (f_X3_readDirection x_signs x_length x_position).bind fun r7 => some (r7.1, r7.2) else (f_X3_readSign x_signs x_length x_position 32).bind fun r14 => if r14.1 = 0 then some ((-1), r14.2) else jo (fun (l2_59 : Int32) (x_position_59 : Int32) => some (l2_59, x_position_59)) (fun j59 => (f_X3_readDigit x_signs x_length r14.2).bind fun r23 => if a1 = 110 then if r23.1 = (-1) then j59 r23.1 r23.2 else jo (fun (x_position_58 : Int32) (s0_58 : Int32) => some (s0_58, x_position_58)) (fun j58 => (f_X3_readDigit x_signs x_length r23.2).bind fun r39 => if r39.1 = (-1) then j58 r39.2 r23.1 else j58 r39.2 ((r23.1 * 10) + r39.1)) else j59 r23.1 r23.2)
abbrev G_X3_readParameter (p : Program) (l : Launch) (e : Env) (s : State) (m : MethodId) (args : Array Value) (below : List Frame) (meth : Method) (c : Code) (g : GE) (A : Nat → Prop) (h0 h1 h2 h3 : Nat) (h4 : Nat → Nat) (x_signs : Nat → Int32) (x_length : Int32) (x_kinds : Nat → Option Nat) (x_values : Nat → Nat → Int32) (x_commandCount : Int32) (res : Int32 × Int32) (H : Heap) (locs : List Loc) (pc : Nat) (ls : Array Slot) (st : List Value) : Prop := W p l e (headSpec wsX3_readParameter rm_X3_readParameter).room s m args below meth c H locs 0 0 (MQ below (PoI g A (w_X3 g z h0 h1 h2 h3 h4 x_signs x_length res.2 x_kinds x_values x_commandCount) res.1) args s 0 0 A) (F0 m pc ls st)
set_option maxHeartbeats 4000000 in
set_option maxRecDepth 100000 in
theorem k_X3_readParameter_0 {p : Program} {l : Launch} {e : Env} {s : State} {m : MethodId} {args : Array Value} {below : List Frame} {meth : Method} {c : Code} {g : GE} {A : Nat → Prop} {h0 h1 h2 h3 : Nat} {h4 : Nat → Nat} {x_signs : Nat → Int32} {x_length : Int32} {x_position : Int32} {x_kinds : Nat → Option Nat} {x_values : Nat → Nat → Int32} {x_commandCount : Int32} {res : Int32 × Int32} {H : Heap} {locs : List Loc} {ls : Array Slot} {a1 : Int32}
    (E : En cX3_readParameter RX3 wsX3_readParameter 4 (some .int) p s m args meth c) (hK : KK g s) (hA : ∀ q, s.heap.size ≤ q → A q) (h : f_X3_readParameter x_signs x_length x_position a1 = some res) (hW : Wo g A s H locs (w_X3 g z h0 h1 h2 h3 h4 x_signs x_length x_position x_kinds x_values x_commandCount)) (hl : lv_has ls 4 [(0, .ref h0), (1, .int a1)]) : G_X3_readParameter p l e s m args below meth c g A h0 h1 h2 h3 h4 x_signs x_length x_kinds x_values x_commandCount res H locs 0 ls [] := by
  have hts := E.2.2.2.1
  unfold f_X3_readParameter at h
  refine lv_iload_n E.1 E.2.1 dX3_readParameter_0 rfl (lv_at hl 1 rfl) ?_
  refine lv_bipush (v := 99) E.1 E.2.1 dX3_readParameter_1 (by decide) ?_
  refine lv_icmp_ne (tgt := 11) E.1 E.2.1 dX3_readParameter_3 (by decide) (fun c3 => ?_) (fun c3 => ?_)
  · have h := ie c3 h
    refine lv_aload_n E.1 E.2.1 dX3_readParameter_11 rfl (lv_at hl 0 rfl) ?_
    refine lv_bipush (v := 32) E.1 E.2.1 dX3_readParameter_12 (by decide) ?_
    obtain ⟨r14, hc, h⟩ := bx h
    refine goI (world' := (w_X3 g z h0 h1 h2 h3 h4 x_signs x_length r14.2 x_kinds x_values x_commandCount)) hW hA (is := [0, 1, 2, 3, 4, 5, 6, 7, 8, 9, 10, 11, 12, 13, 14, 15, 16, 17, 18]) rfl (goV (rest := []) E hK hW [0, 1, 2, 3, 4, 5, 6, 7, 8, 9, 10, 11, 12, 13, 14, 15, 16, 17, 18] rfl rfl (c_X3_readSign l g h0 h1 h2 h3 h4 x_signs x_length x_position x_kinds x_values x_commandCount 32 (hf := hc) H.size) (cwV 1 hts gX3_readParameter_X3_readSign rfl rfl rfl (by decide +kernel) ⟨Nat.le_of_ble_eq_true rfl, Nat.le_of_ble_eq_true rfl⟩) 0 rfl rfl rfl hl.1 rfl rfl (Nat.le_of_ble_eq_true rfl) dX3_readParameter_14 ⟨Nat.zero_le _, Nat.zero_le _⟩) rfl rfl (fun H locs hW => ?_)
    refine lv_if_ne (tgt := 22) E.1 E.2.1 dX3_readParameter_17 (by decide) (fun c17 => ?_) (fun c17 => ?_)
    · have h := ie c17 h
      obtain ⟨j59, hj59, h⟩ := jox2 h
      have J59 : ∀ (l2_59 : Int32) (x_position_59 : Int32) (H : Heap) (locs : List Loc) (ls : Array Slot), j59 l2_59 x_position_59 = some res → Wo g A s H locs (w_X3 g z h0 h1 h2 h3 h4 x_signs x_length x_position_59 x_kinds x_values x_commandCount) → lv_has ls 4 [(2, .int l2_59)] → G_X3_readParameter p l e s m args below meth c g A h0 h1 h2 h3 h4 x_signs x_length x_kinds x_values x_commandCount res H locs 59 ls [] := by
        intro l2_59 x_position_59 H locs ls h hW hl
        rw [hj59] at h
        refine lv_iload_n E.1 E.2.1 dX3_readParameter_59 rfl (lv_at hl 0 rfl) ?_
        obtain rfl := Option.some.inj h
        exact endI E rfl hW dX3_readParameter_60
      refine lv_aload_n E.1 E.2.1 dX3_readParameter_22 rfl (lv_at hl 0 rfl) ?_
      obtain ⟨r23, hc, h⟩ := bx h
      refine goI (world' := (w_X3 g z h0 h1 h2 h3 h4 x_signs x_length r23.2 x_kinds x_values x_commandCount)) hW hA (is := [0, 1, 2, 3, 4, 5, 6, 7, 8, 9, 10, 11, 12, 13, 14, 15, 16, 17, 18]) rfl (goV (rest := []) E hK hW [0, 1, 2, 3, 4, 5, 6, 7, 8, 9, 10, 11, 12, 13, 14, 15, 16, 17, 18] rfl rfl (c_X3_readDigit l g h0 h1 h2 h3 h4 x_signs x_length r14.2 x_kinds x_values x_commandCount (hf := hc) H.size) (cwV 0 hts gX3_readParameter_X3_readDigit rfl rfl rfl (by decide +kernel) ⟨Nat.le_of_ble_eq_true rfl, Nat.le_of_ble_eq_true rfl⟩) 0 rfl rfl rfl hl.1 rfl rfl (Nat.le_of_ble_eq_true rfl) dX3_readParameter_23 ⟨Nat.zero_le _, Nat.zero_le _⟩) rfl rfl (fun H locs hW => ?_)
      refine lv_istore_n (lv' := [(2, .int r23.1), (0, .ref h0), (1, .int a1)]) E.1 E.2.1 dX3_readParameter_26 rfl hl (by decide) rfl (fun ls hl => ?_)
      refine lv_iload_n E.1 E.2.1 dX3_readParameter_27 rfl (lv_at hl 2 rfl) ?_
      refine lv_bipush (v := 110) E.1 E.2.1 dX3_readParameter_28 (by decide) ?_
      refine lv_icmp_ne (tgt := 59) E.1 E.2.1 dX3_readParameter_30 (by decide) (fun c30 => ?_) (fun c30 => ?_)
      · have h := ie c30 h
        exact J59 r23.1 r23.2 H locs ls h hW (lv_sub hl [0] rfl)
      · have h := it c30 h
        refine lv_iload_n E.1 E.2.1 dX3_readParameter_33 rfl (lv_at hl 0 rfl) ?_
        refine lv_iconst (v := (-1)) E.1 E.2.1 dX3_readParameter_34 (by decide) ?_
        refine lv_icmp_eq (tgt := 59) E.1 E.2.1 dX3_readParameter_35 (by decide) (fun c35 => ?_) (fun c35 => ?_)
        · have h := it c35 h
          exact J59 r23.1 r23.2 H locs ls h hW (lv_sub hl [0] rfl)
        · have h := ie c35 h
          obtain ⟨j58, hj58, h⟩ := jox2 h
          have J58 : ∀ (x_position_58 : Int32) (s0_58 : Int32) (H : Heap) (locs : List Loc) (ls : Array Slot), j58 x_position_58 s0_58 = some res → Wo g A s H locs (w_X3 g z h0 h1 h2 h3 h4 x_signs x_length x_position_58 x_kinds x_values x_commandCount) → lv_has ls 4 [] → G_X3_readParameter p l e s m args below meth c g A h0 h1 h2 h3 h4 x_signs x_length x_kinds x_values x_commandCount res H locs 58 ls [.int s0_58] := by
            intro x_position_58 s0_58 H locs ls h hW hl
            rw [hj58] at h
            obtain rfl := Option.some.inj h
            exact endI E rfl hW dX3_readParameter_58
          refine lv_aload_n E.1 E.2.1 dX3_readParameter_38 rfl (lv_at hl 1 rfl) ?_
          obtain ⟨r39, hc, h⟩ := bx h
          refine goI (world' := (w_X3 g z h0 h1 h2 h3 h4 x_signs x_length r39.2 x_kinds x_values x_commandCount)) hW hA (is := [0, 1, 2, 3, 4, 5, 6, 7, 8, 9, 10, 11, 12, 13, 14, 15, 16, 17, 18]) rfl (goV (rest := []) E hK hW [0, 1, 2, 3, 4, 5, 6, 7, 8, 9, 10, 11, 12, 13, 14, 15, 16, 17, 18] rfl rfl (c_X3_readDigit l g h0 h1 h2 h3 h4 x_signs x_length r23.2 x_kinds x_values x_commandCount (hf := hc) H.size) (cwV 0 hts gX3_readParameter_X3_readDigit rfl rfl rfl (by decide +kernel) ⟨Nat.le_of_ble_eq_true rfl, Nat.le_of_ble_eq_true rfl⟩) 0 rfl rfl rfl hl.1 rfl rfl (Nat.le_of_ble_eq_true rfl) dX3_readParameter_39 ⟨Nat.zero_le _, Nat.zero_le _⟩) rfl rfl (fun H locs hW => ?_)
          refine lv_istore_n (lv' := [(3, .int r39.1), (2, .int r23.1), (0, .ref h0), (1, .int a1)]) E.1 E.2.1 dX3_readParameter_42 rfl hl (by decide) rfl (fun ls hl => ?_)
          refine lv_iload_n E.1 E.2.1 dX3_readParameter_43 rfl (lv_at hl 0 rfl) ?_
          refine lv_iconst (v := (-1)) E.1 E.2.1 dX3_readParameter_44 (by decide) ?_
          refine lv_icmp_ne (tgt := 52) E.1 E.2.1 dX3_readParameter_45 (by decide) (fun c45 => ?_) (fun c45 => ?_)
          · have h := ie c45 h
            refine lv_iload_n E.1 E.2.1 dX3_readParameter_52 rfl (lv_at hl 1 rfl) ?_
            refine lv_bipush (v := 10) E.1 E.2.1 dX3_readParameter_53 (by decide) ?_
            refine lv_imul E.1 E.2.1 dX3_readParameter_55 ?_
            refine lv_iload_n E.1 E.2.1 dX3_readParameter_56 rfl (lv_at hl 0 rfl) ?_
            refine lv_iadd E.1 E.2.1 dX3_readParameter_57 ?_
            exact J58 r39.2 ((r23.1 * 10) + r39.1) H locs ls h hW (lv_sub hl [] rfl)
          · have h := it c45 h
            refine lv_iload_n E.1 E.2.1 dX3_readParameter_48 rfl (lv_at hl 1 rfl) ?_
            refine lv_goto (tgt := 58) E.1 E.2.1 dX3_readParameter_49 (by decide) ?_
            exact J58 r39.2 r23.1 H locs ls h hW (lv_sub hl [] rfl)
    · have h := it c17 h
      refine lv_iconst (v := (-1)) E.1 E.2.1 dX3_readParameter_20 (by decide) ?_
      obtain rfl := Option.some.inj h
      exact endI E rfl hW dX3_readParameter_21
  · have h := it c3 h
    refine lv_aload_n E.1 E.2.1 dX3_readParameter_6 rfl (lv_at hl 0 rfl) ?_
    obtain ⟨r7, hc, h⟩ := bx h
    refine goI (world' := (w_X3 g z h0 h1 h2 h3 h4 x_signs x_length r7.2 x_kinds x_values x_commandCount)) hW hA (is := [0, 1, 2, 3, 4, 5, 6, 7, 8, 9, 10, 11, 12, 13, 14, 15, 16, 17, 18]) rfl (goV (rest := []) E hK hW [0, 1, 2, 3, 4, 5, 6, 7, 8, 9, 10, 11, 12, 13, 14, 15, 16, 17, 18] rfl rfl (c_X3_readDirection l g h0 h1 h2 h3 h4 x_signs x_length x_position x_kinds x_values x_commandCount (hf := hc) H.size) (cwV 0 hts gX3_readParameter_X3_readDirection rfl rfl rfl (by decide +kernel) ⟨Nat.le_of_ble_eq_true rfl, Nat.le_of_ble_eq_true rfl⟩) 0 rfl rfl rfl hl.1 rfl rfl (Nat.le_of_ble_eq_true rfl) dX3_readParameter_7 ⟨Nat.zero_le _, Nat.zero_le _⟩) rfl rfl (fun H locs hW => ?_)
    obtain rfl := Option.some.inj h
    exact endI E rfl hW dX3_readParameter_10
theorem c_X3_readParameter (l : Launch) (g : GE) (h0 h1 h2 h3 : Nat) (h4 : Nat → Nat) (x_signs : Nat → Int32) (x_length : Int32) (x_position : Int32) (x_kinds : Nat → Option Nat) (x_values : Nat → Nat → Int32) (x_commandCount : Int32) (a1 : Int32) {res : Int32 × Int32} (hf : f_X3_readParameter x_signs x_length x_position a1 = some res) : CI l yX3_readParameter wsX3_readParameter rm_X3_readParameter g [.ref h0, .int a1] (w_X3 g z h0 h1 h2 h3 h4 x_signs x_length x_position x_kinds x_values x_commandCount) (w_X3 g z h0 h1 h2 h3 h4 x_signs x_length res.2 x_kinds x_values x_commandCount) res.1 :=
  mkI (cc := cX3_readParameter) (maxL := 4) (by decide) rfl (Nat.le_of_ble_eq_true rfl) (fun p e s m args below meth c A H locs ls E hK hA hW hl => k_X3_readParameter_0 E hK hA hf hW hl)

/-! PaperStorm$CommandText.fittingLength(Ljava/lang/String;)I X3_fittingLength -/
abbrev rm_X3_fittingLength : Room := { frames := 4, cells := 0, slots := 0, locals := 85 }
theorem in_X3_fittingLength_X3 : ∀ w ∈ wsX30, w ∈ wsX3_fittingLength := by decide +kernel
theorem lk_X3_fittingLength_19 : Cond.fieldLink RX3 19 "PaperStorm$CommandText" "position" "I" ∈ wsX3_fittingLength := by decide +kernel
noncomputable def f_X3_fittingLength_4 (x_signs : Nat → Int32) (x_length : Int32) (x_position : Int32) (b1 : List Int32) (z44 : Int32 → Option (Int32)) : Nat → Int32 → Int32 → Option (Int32)
  | 0, _, _ => none
  | n + 1, l2_4, l3_4 => if (nI (b1 : List Int32).length) ≤ l3_4 then z44 l2_4 else jo (fun (l2_38 : Int32) => f_X3_fittingLength_4 x_signs x_length x_position b1 z44 n l2_38 (l3_4 + 1)) (fun j38 => if l2_4 = l3_4 then if l3_4 < 0 ∨ (b1 : List Int32).length ≤ l3_4.toNatClampNeg then none else (f_X3_isSignAt x_signs x_length (x_position + l3_4) (chAt (b1 : List Int32) l3_4)).bind fun r29 => if r29 = 0 then j38 l2_4 else j38 (l2_4 + 1) else j38 l2_4)
noncomputable def f_X3_fittingLength (x_signs : Nat → Int32) (x_length : Int32) (x_position : Int32) (b1 : List Int32) : Option (Int32) :=
  f_X3_fittingLength_4 x_signs x_length x_position b1 (fun l2_44e => some (l2_44e)) 1000 0 0
abbrev G_X3_fittingLength (p : Program) (l : Launch) (e : Env) (s : State) (m : MethodId) (args : Array Value) (below : List Frame) (meth : Method) (c : Code) (g : GE) (A : Nat → Prop) (z : ZE) (h0 h1 h2 h3 : Nat) (h4 : Nat → Nat) (x_signs : Nat → Int32) (x_length : Int32) (x_position : Int32) (x_kinds : Nat → Option Nat) (x_values : Nat → Nat → Int32) (x_commandCount : Int32) (res : Int32) (H : Heap) (locs : List Loc) (pc : Nat) (ls : Array Slot) (st : List Value) : Prop := W p l e (headSpec wsX3_fittingLength rm_X3_fittingLength).room s m args below meth c H locs 0 0 (MQ below (PoI g A (w_X3 g z h0 h1 h2 h3 h4 x_signs x_length x_position x_kinds x_values x_commandCount) res) args s 0 0 A) (F0 m pc ls st)
set_option maxHeartbeats 4000000 in
set_option maxRecDepth 100000 in
theorem k_X3_fittingLength_4 {p : Program} {l : Launch} {e : Env} {s : State} {m : MethodId} {args : Array Value} {below : List Frame} {meth : Method} {c : Code} {g : GE} {A : Nat → Prop} {z : ZE} {o1 : String} {k1 : Nat} {h0 h1 h2 h3 : Nat} {h4 : Nat → Nat} {x_signs : Nat → Int32} {x_length : Int32} {x_position : Int32} {x_kinds : Nat → Option Nat} {x_values : Nat → Nat → Int32} {x_commandCount : Int32} {res : Int32} {b1 : List Int32} {z44 : Int32 → Option (Int32)}
    (E : En cX3_fittingLength RX3 wsX3_fittingLength 4 (some .int) p s m args meth c) (hK : KK g s) (hz : KS z s) (hC : CS z A s s.heap) (hx1 : ((o1, k1, b1) : String × Nat × List Int32) ∈ strT) (hA : ∀ q, s.heap.size ≤ q → A q)
    (hz44 : ∀ (l2_44e : Int32) (H : Heap) (locs : List Loc) (ls : Array Slot), z44 l2_44e = some res → Wo g A s H locs (w_X3 g z h0 h1 h2 h3 h4 x_signs x_length x_position x_kinds x_values x_commandCount) → lv_has ls 4 [(2, .int l2_44e)] → G_X3_fittingLength p l e s m args below meth c g A z h0 h1 h2 h3 h4 x_signs x_length x_position x_kinds x_values x_commandCount res H locs 44 ls [])
    : ∀ (n : Nat) (l2_4 : Int32) (l3_4 : Int32) (H : Heap) (locs : List Loc) (ls : Array Slot), f_X3_fittingLength_4 x_signs x_length x_position b1 z44 n l2_4 l3_4 = some res → Wo g A s H locs (w_X3 g z h0 h1 h2 h3 h4 x_signs x_length x_position x_kinds x_values x_commandCount) → lv_has ls 4 [(0, .ref h0), (1, .ref (z.1 o1 k1)), (2, .int l2_4), (3, .int l3_4)] → G_X3_fittingLength p l e s m args below meth c g A z h0 h1 h2 h3 h4 x_signs x_length x_position x_kinds x_values x_commandCount res H locs 4 ls [] := by
  have hts := E.2.2.2.1
  intro n
  induction n with
  | zero => intro l2_4 l3_4 H locs ls h hW hl; rw [f_X3_fittingLength_4] at h; cases h
  | succ n ih =>
    intro l2_4 l3_4 H locs ls h hW hl
    rw [f_X3_fittingLength_4] at h
    refine lv_iload_n E.1 E.2.1 dX3_fittingLength_4 rfl (lv_at hl 3 rfl) ?_
    refine lv_aload_n E.1 E.2.1 dX3_fittingLength_5 rfl (lv_at hl 1 rfl) ?_
    refine wLen (o1, k1, b1) hx1 E hC hW (cwV 0 hts gX3_fittingLength_J0_length_8abf5 rfl rfl rfl (by decide +kernel) ⟨Nat.le_of_ble_eq_true rfl, Nat.le_of_ble_eq_true rfl⟩) hl.1 (Nat.le_of_ble_eq_true rfl) dX3_fittingLength_6 ⟨Nat.zero_le _, Nat.zero_le _⟩ (fun H locs hW => ?_)
    refine lv_icmp_ge (tgt := 44) E.1 E.2.1 dX3_fittingLength_9 (by decide) (fun c9 => ?_) (fun c9 => ?_)
    · have h := it c9 h
      exact hz44 l2_4 H locs ls h hW (lv_sub hl [2] rfl)
    · have h := ie c9 h
      obtain ⟨j38, hj38, h⟩ := jox1 h
      have J38 : ∀ (l2_38 : Int32) (H : Heap) (locs : List Loc) (ls : Array Slot), j38 l2_38 = some res → Wo g A s H locs (w_X3 g z h0 h1 h2 h3 h4 x_signs x_length x_position x_kinds x_values x_commandCount) → lv_has ls 4 [(0, .ref h0), (1, .ref (z.1 o1 k1)), (2, .int l2_38), (3, .int l3_4)] → G_X3_fittingLength p l e s m args below meth c g A z h0 h1 h2 h3 h4 x_signs x_length x_position x_kinds x_values x_commandCount res H locs 38 ls [] := by
        intro l2_38 H locs ls h hW hl
        rw [hj38] at h
        refine lv_iinc (v := (l3_4 + 1)) (lv' := [(3, .int (l3_4 + 1)), (0, .ref h0), (1, .ref (z.1 o1 k1)), (2, .int l2_38)]) E.1 E.2.1 dX3_fittingLength_38 hl (k := 3) rfl rfl (by decide) rfl (fun ls hl => ?_)
        refine lv_goto (tgt := 4) E.1 E.2.1 dX3_fittingLength_41 (by decide) ?_
        exact ih l2_38 (l3_4 + 1) H locs ls h hW (lv_sub hl [1, 2, 3, 0] rfl)
      refine lv_iload_n E.1 E.2.1 dX3_fittingLength_12 rfl (lv_at hl 2 rfl) ?_
      refine lv_iload_n E.1 E.2.1 dX3_fittingLength_13 rfl (lv_at hl 3 rfl) ?_
      refine lv_icmp_ne (tgt := 38) E.1 E.2.1 dX3_fittingLength_14 (by decide) (fun c14 => ?_) (fun c14 => ?_)
      · have h := ie c14 h
        exact J38 l2_4 H locs ls h hW (lv_sub hl [0, 1, 2, 3] rfl)
      · have h := it c14 h
        refine lv_aload_n E.1 E.2.1 dX3_fittingLength_17 rfl (lv_at hl 0 rfl) ?_
        refine lv_aload_n E.1 E.2.1 dX3_fittingLength_18 rfl (lv_at hl 0 rfl) ?_
        refine wGet (v := .int x_position) E hK in_X3_fittingLength_X3 hW 2 lk_X3_fittingLength_19 0 rfl rfl (by decide) rfl rfl dX3_fittingLength_19 ?_
        refine lv_iload_n E.1 E.2.1 dX3_fittingLength_22 rfl (lv_at hl 3 rfl) ?_
        refine lv_iadd E.1 E.2.1 dX3_fittingLength_23 ?_
        refine lv_aload_n E.1 E.2.1 dX3_fittingLength_24 rfl (lv_at hl 1 rfl) ?_
        refine lv_iload_n E.1 E.2.1 dX3_fittingLength_25 rfl (lv_at hl 3 rfl) ?_
        obtain ⟨hi26, h⟩ := ox h
        refine wChr (o1, k1, b1) hx1 hi26 E hC hW (cwV 1 hts gX3_fittingLength_J0_charAt_5068e rfl rfl rfl (by decide +kernel) ⟨Nat.le_of_ble_eq_true rfl, Nat.le_of_ble_eq_true rfl⟩) hl.1 (Nat.le_of_ble_eq_true rfl) dX3_fittingLength_26 ⟨Nat.zero_le _, Nat.zero_le _⟩ (fun H locs hW => ?_)
        obtain ⟨r29, hc, h⟩ := bx h
        refine goI (world' := (w_X3 g z h0 h1 h2 h3 h4 x_signs x_length x_position x_kinds x_values x_commandCount)) hW hA (is := [0, 1, 2, 3, 4, 5, 6, 7, 8, 9, 10, 11, 12, 13, 14, 15, 16, 17, 18]) rfl (goV (rest := []) E hK hW [0, 1, 2, 3, 4, 5, 6, 7, 8, 9, 10, 11, 12, 13, 14, 15, 16, 17, 18] rfl rfl (c_X3_isSignAt l g h0 h1 h2 h3 h4 x_signs x_length x_position x_kinds x_values x_commandCount (x_position + l3_4) (chAt (b1 : List Int32) l3_4) (hf := hc) H.size) (cwV 2 hts gX3_fittingLength_X3_isSignAt rfl rfl rfl (by decide +kernel) ⟨Nat.le_of_ble_eq_true rfl, Nat.le_of_ble_eq_true rfl⟩) 0 rfl rfl rfl hl.1 rfl rfl (Nat.le_of_ble_eq_true rfl) dX3_fittingLength_29 ⟨Nat.zero_le _, Nat.zero_le _⟩) rfl rfl (fun H locs hW => ?_)
        refine lv_if_eq (tgt := 38) E.1 E.2.1 dX3_fittingLength_32 (by decide) (fun c32 => ?_) (fun c32 => ?_)
        · have h := it c32 h
          exact J38 l2_4 H locs ls h hW (lv_sub hl [0, 1, 2, 3] rfl)
        · have h := ie c32 h
          refine lv_iinc (v := (l2_4 + 1)) (lv' := [(2, .int (l2_4 + 1)), (0, .ref h0), (1, .ref (z.1 o1 k1)), (3, .int l3_4)]) E.1 E.2.1 dX3_fittingLength_35 hl (k := 2) rfl rfl (by decide) rfl (fun ls hl => ?_)
          exact J38 (l2_4 + 1) H locs ls h hW (lv_sub hl [1, 2, 0, 3] rfl)
set_option maxHeartbeats 4000000 in
set_option maxRecDepth 100000 in
theorem k_X3_fittingLength_0 {p : Program} {l : Launch} {e : Env} {s : State} {m : MethodId} {args : Array Value} {below : List Frame} {meth : Method} {c : Code} {g : GE} {A : Nat → Prop} {z : ZE} {o1 : String} {k1 : Nat} {h0 h1 h2 h3 : Nat} {h4 : Nat → Nat} {x_signs : Nat → Int32} {x_length : Int32} {x_position : Int32} {x_kinds : Nat → Option Nat} {x_values : Nat → Nat → Int32} {x_commandCount : Int32} {res : Int32} {H : Heap} {locs : List Loc} {ls : Array Slot} {b1 : List Int32}
    (E : En cX3_fittingLength RX3 wsX3_fittingLength 4 (some .int) p s m args meth c) (hK : KK g s) (hz : KS z s) (hC : CS z A s s.heap) (hx1 : ((o1, k1, b1) : String × Nat × List Int32) ∈ strT) (hA : ∀ q, s.heap.size ≤ q → A q) (h : f_X3_fittingLength x_signs x_length x_position b1 = some res) (hW : Wo g A s H locs (w_X3 g z h0 h1 h2 h3 h4 x_signs x_length x_position x_kinds x_values x_commandCount)) (hl : lv_has ls 4 [(0, .ref h0), (1, .ref (z.1 o1 k1))]) : G_X3_fittingLength p l e s m args below meth c g A z h0 h1 h2 h3 h4 x_signs x_length x_position x_kinds x_values x_commandCount res H locs 0 ls [] := by
  have hts := E.2.2.2.1
  unfold f_X3_fittingLength at h
  refine lv_iconst (v := 0) E.1 E.2.1 dX3_fittingLength_0 (by decide) ?_
  refine lv_istore_n (lv' := [(2, .int 0), (0, .ref h0), (1, .ref (z.1 o1 k1))]) E.1 E.2.1 dX3_fittingLength_1 rfl hl (by decide) rfl (fun ls hl => ?_)
  refine lv_iconst (v := 0) E.1 E.2.1 dX3_fittingLength_2 (by decide) ?_
  refine lv_istore_n (lv' := [(3, .int 0), (2, .int 0), (0, .ref h0), (1, .ref (z.1 o1 k1))]) E.1 E.2.1 dX3_fittingLength_3 rfl hl (by decide) rfl (fun ls hl => ?_)
  refine k_X3_fittingLength_4 E hK hz hC hx1 hA ?_ 1000 0 0 H locs ls h hW (lv_sub hl [2, 3, 1, 0] rfl)
  · intro l2_44e H locs ls h hW hl
    refine lv_iload_n E.1 E.2.1 dX3_fittingLength_44 rfl (lv_at hl 0 rfl) ?_
    obtain rfl := Option.some.inj h
    exact endI E rfl hW dX3_fittingLength_45
theorem c_X3_fittingLength (l : Launch) (g : GE) (z : ZE) (o1 : String) (k1 : Nat) (h0 h1 h2 h3 : Nat) (h4 : Nat → Nat) (x_signs : Nat → Int32) (x_length : Int32) (x_position : Int32) (x_kinds : Nat → Option Nat) (x_values : Nat → Nat → Int32) (x_commandCount : Int32) (b1 : List Int32) (hx1 : ((o1, k1, b1) : String × Nat × List Int32) ∈ strT) {res : Int32} (hf : f_X3_fittingLength x_signs x_length x_position b1 = some res) : XI l yX3_fittingLength wsX3_fittingLength rm_X3_fittingLength g z [.ref h0, .ref (z.1 o1 k1)] (w_X3 g z h0 h1 h2 h3 h4 x_signs x_length x_position x_kinds x_values x_commandCount) (w_X3 g z h0 h1 h2 h3 h4 x_signs x_length x_position x_kinds x_values x_commandCount) res :=
  mkXI (cc := cX3_fittingLength) (maxL := 4) (by decide) rfl (Nat.le_of_ble_eq_true rfl) (fun p e s m args below meth c A H locs ls E hK hz hC hA hW hl => k_X3_fittingLength_0 E hK hz hC hx1 hA hf hW hl)

/-! PaperStorm$CommandText.readWord()LPaperStorm$Kind; X3_readWord -/
abbrev rm_X3_readWord : Room := { frames := 5, cells := 0, slots := 0, locals := 108 }
theorem in_X3_readWord_X3 : ∀ w ∈ wsX30, w ∈ wsX3_readWord := by decide +kernel
theorem lk_X3_readWord_19 : Cond.fieldLink RX3 19 "PaperStorm$CommandText" "position" "I" ∈ wsX3_readWord := by decide +kernel
theorem lk_X3_readWord_76 : Cond.fieldLinkNest "PaperStorm$CommandText" 76 "PaperStorm" "KINDS" "[LPaperStorm$Kind;" "PaperStorm" ∈ nestW := by decide +kernel
theorem lk_X3_readWord_79 : Cond.fieldLinkNest "PaperStorm$CommandText" 79 "PaperStorm$Kind" "word" "Ljava/lang/String;" "PaperStorm" ∈ nestW := by decide +kernel
theorem lk_X3_readWord_86a : Cond.methodLink RX3 86 Lib.Math.max.name ∈ wsX3_readWord := by decide +kernel
theorem lk_X3_readWord_86b : Cond.static Lib.Math.max.name ∈ wsX3_readWord := by decide +kernel
theorem lk_X3_readWord_86c : Cond.initialized "java/lang/Math" ∈ wsX3_readWord := by decide +kernel
theorem lk_X3_readWord_86d : Cond.code Lib.Math.max.name Lib.Math.max.code 2 (some .int) ∈ wsX3_readWord := by decide +kernel
noncomputable def f_X3_readWord_6 (x_signs : Nat → Int32) (x_length : Int32) (x_position : Int32) (z61 : Option Nat → Int32 → Option (Option Nat × Int32)) : Nat → Option Nat → Int32 → Int32 → Option (Option Nat × Int32)
  | 0, _, _, _ => none
  | n + 1, l1_6, l2_6, l3_6 => if 10 ≤ l3_6 then z61 l1_6 l2_6 else jo (fun (l1_55 : Option Nat) (l2_55 : Int32) => f_X3_readWord_6 x_signs x_length x_position z61 n l1_55 l2_55 (l3_6 + 1)) (fun j55 => if l3_6 < 0 ∨ 10 ≤ l3_6.toNatClampNeg then none else (f_X3_fittingLength x_signs x_length x_position ((kwX l3_6.toNatClampNeg).2.2)).bind fun r27 => if r27 = (nI ((kwX l3_6.toNatClampNeg).2.2 : List Int32).length) then j55 (some l3_6.toNatClampNeg) (if l2_6 < r27 then r27 else l2_6) else j55 l1_6 (if l2_6 < r27 then r27 else l2_6))
noncomputable def f_X3_readWord (x_signs : Nat → Int32) (x_length : Int32) (x_position : Int32) : Option (Option Nat × Int32) :=
  f_X3_readWord_6 x_signs x_length x_position (fun l1_61e l2_61e => some (l1_61e, (x_position + l2_61e))) 1000 none 0 0
abbrev G_X3_readWord (p : Program) (l : Launch) (e : Env) (s : State) (m : MethodId) (args : Array Value) (below : List Frame) (meth : Method) (c : Code) (g : GE) (A : Nat → Prop) (z : ZE) (h0 h1 h2 h3 : Nat) (h4 : Nat → Nat) (x_signs : Nat → Int32) (x_length : Int32) (x_kinds : Nat → Option Nat) (x_values : Nat → Nat → Int32) (x_commandCount : Int32) (res : Option Nat × Int32) (H : Heap) (locs : List Loc) (pc : Nat) (ls : Array Slot) (st : List Value) : Prop := W p l e (headSpec wsX3_readWord rm_X3_readWord).room s m args below meth c H locs 0 0 (MQ below (PoE g z A (w_X3 g z h0 h1 h2 h3 h4 x_signs x_length res.2 x_kinds x_values x_commandCount) res.1) args s 0 0 A) (F0 m pc ls st)
set_option maxHeartbeats 4000000 in
set_option maxRecDepth 100000 in
theorem k_X3_readWord_6 {p : Program} {l : Launch} {e : Env} {s : State} {m : MethodId} {args : Array Value} {below : List Frame} {meth : Method} {c : Code} {g : GE} {A : Nat → Prop} {z : ZE} {h0 h1 h2 h3 : Nat} {h4 : Nat → Nat} {x_signs : Nat → Int32} {x_length : Int32} {x_position : Int32} {x_kinds : Nat → Option Nat} {x_values : Nat → Nat → Int32} {x_commandCount : Int32} {res : Option Nat × Int32} {z61 : Option Nat → Int32 → Option (Option Nat × Int32)}
    (E : En cX3_readWord RX3 wsX3_readWord 6 (some (.object "PaperStorm$Kind")) p s m args meth c) (hK : KK g s) (hz : KS z s) (hC : CS z A s s.heap) (hA : ∀ q, s.heap.size ≤ q → A q)
    (hz61 : ∀ (l1_61e : Option Nat) (l2_61e : Int32) (H : Heap) (locs : List Loc) (ls : Array Slot), z61 l1_61e l2_61e = some res → Wo g A s H locs (w_X3 g z h0 h1 h2 h3 h4 x_signs x_length x_position x_kinds x_values x_commandCount) → lv_has ls 6 [(0, .ref h0), (1, (va_re z.2 l1_61e)), (2, .int l2_61e)] → G_X3_readWord p l e s m args below meth c g A z h0 h1 h2 h3 h4 x_signs x_length x_kinds x_values x_commandCount res H locs 61 ls [])
    : ∀ (n : Nat) (l1_6 : Option Nat) (l2_6 : Int32) (l3_6 : Int32) (H : Heap) (locs : List Loc) (ls : Array Slot), f_X3_readWord_6 x_signs x_length x_position z61 n l1_6 l2_6 l3_6 = some res → Wo g A s H locs (w_X3 g z h0 h1 h2 h3 h4 x_signs x_length x_position x_kinds x_values x_commandCount) → lv_has ls 6 [(0, .ref h0), (1, (va_re z.2 l1_6)), (2, .int l2_6), (3, .int l3_6)] → G_X3_readWord p l e s m args below meth c g A z h0 h1 h2 h3 h4 x_signs x_length x_kinds x_values x_commandCount res H locs 6 ls [] := by
  have hts := E.2.2.2.1
  obtain ⟨tK, hZK, hTK⟩ := hC.2.2.2.2.2.1
  intro n
  induction n with
  | zero => intro l1_6 l2_6 l3_6 H locs ls h hW hl; rw [f_X3_readWord_6] at h; cases h
  | succ n ih =>
    intro l1_6 l2_6 l3_6 H locs ls h hW hl
    rw [f_X3_readWord_6] at h
    refine lv_iload_n E.1 E.2.1 dX3_readWord_6 rfl (lv_at hl 3 rfl) ?_
    refine va_getsN (v := .ref tK) E.1 E.2.1 hZK hW.2.2 E.2.2.2.2.1 (va_Nw.use (nestW_tab _ lk_X3_readWord_76) (hK.2 _ lk_X3_readWord_76)) (fun _ h => h) dX3_readWord_7 ?_
    refine va_tlen (v := 10) E.1 E.2.1 hTK hW.2.2 rfl dX3_readWord_10 ?_
    refine lv_icmp_ge (tgt := 61) E.1 E.2.1 dX3_readWord_11 (by decide) (fun c11 => ?_) (fun c11 => ?_)
    · have h := it c11 h
      exact hz61 l1_6 l2_6 H locs ls h hW (lv_sub hl [0, 1, 2] rfl)
    · have h := ie c11 h
      obtain ⟨j55, hj55, h⟩ := jox2 h
      have J55 : ∀ (l1_55 : Option Nat) (l2_55 : Int32) (H : Heap) (locs : List Loc) (ls : Array Slot), j55 l1_55 l2_55 = some res → Wo g A s H locs (w_X3 g z h0 h1 h2 h3 h4 x_signs x_length x_position x_kinds x_values x_commandCount) → lv_has ls 6 [(0, .ref h0), (1, (va_re z.2 l1_55)), (2, .int l2_55), (3, .int l3_6)] → G_X3_readWord p l e s m args below meth c g A z h0 h1 h2 h3 h4 x_signs x_length x_kinds x_values x_commandCount res H locs 55 ls [] := by
        intro l1_55 l2_55 H locs ls h hW hl
        rw [hj55] at h
        refine lv_iinc (v := (l3_6 + 1)) (lv' := [(3, .int (l3_6 + 1)), (0, .ref h0), (1, (va_re z.2 l1_55)), (2, .int l2_55)]) E.1 E.2.1 dX3_readWord_55 hl (k := 3) rfl rfl (by decide) rfl (fun ls hl => ?_)
        refine lv_goto (tgt := 6) E.1 E.2.1 dX3_readWord_58 (by decide) ?_
        exact ih l1_55 l2_55 (l3_6 + 1) H locs ls h hW (lv_sub hl [1, 2, 3, 0] rfl)
      refine va_getsN (v := .ref tK) E.1 E.2.1 hZK hW.2.2 E.2.2.2.2.1 (va_Nw.use (nestW_tab _ lk_X3_readWord_76) (hK.2 _ lk_X3_readWord_76)) (fun _ h => h) dX3_readWord_14 ?_
      refine lv_iload_n E.1 E.2.1 dX3_readWord_17 rfl (lv_at hl 3 rfl) ?_
      obtain ⟨hi18, h⟩ := ox h
      refine vb_tq (v := .ref (z.2 l3_6.toNatClampNeg)) E.1 E.2.1 hTK hW.2.2 hi18 rfl dX3_readWord_18 ?_
      refine wKstr (v := .ref (z.1 ((kwX l3_6.toNatClampNeg).1) ((kwX l3_6.toNatClampNeg).2.1))) hC.2.2.2.2.1.1 (Nat.not_le.mp (fun q => hi18 (Or.inr q))) E hK hW lk_X3_readWord_79 dX3_readWord_19 ?_
      refine lv_astore (lv' := [(4, .ref (z.1 ((kwX l3_6.toNatClampNeg).1) ((kwX l3_6.toNatClampNeg).2.1))), (0, .ref h0), (1, (va_re z.2 l1_6)), (2, .int l2_6), (3, .int l3_6)]) E.1 E.2.1 dX3_readWord_22 hl (by decide) rfl (fun ls hl => ?_)
      refine lv_aload_n E.1 E.2.1 dX3_readWord_24 rfl (lv_at hl 1 rfl) ?_
      refine lv_aload E.1 E.2.1 dX3_readWord_25 (lv_at hl 0 rfl) ?_
      obtain ⟨r27, hc, h⟩ := bx h
      refine goI (world' := (w_X3 g z h0 h1 h2 h3 h4 x_signs x_length x_position x_kinds x_values x_commandCount)) hW hA (is := [0, 1, 2, 3, 4, 5, 6, 7, 8, 9, 10, 11, 12, 13, 14, 15, 16, 17, 18]) rfl (goVX (rest := []) E hK hz hC hA hW [0, 1, 2, 3, 4, 5, 6, 7, 8, 9, 10, 11, 12, 13, 14, 15, 16, 17, 18] rfl rfl (c_X3_fittingLength l g z ((kwX l3_6.toNatClampNeg).1) ((kwX l3_6.toNatClampNeg).2.1) h0 h1 h2 h3 h4 x_signs x_length x_position x_kinds x_values x_commandCount ((kwX l3_6.toNatClampNeg).2.2) (kwX_in _ (Nat.not_le.mp (fun q => hi18 (Or.inr q)))) (hf := hc) H.size) (cwV 1 hts gX3_readWord_X3_fittingLength rfl rfl rfl (by decide +kernel) ⟨Nat.le_of_ble_eq_true rfl, Nat.le_of_ble_eq_true rfl⟩) 0 rfl rfl rfl hl.1 rfl rfl (Nat.le_of_ble_eq_true rfl) dX3_readWord_27 ⟨Nat.zero_le _, Nat.zero_le _⟩) rfl rfl (fun H locs hW => ?_)
      refine lv_istore (lv' := [(5, .int r27), (4, .ref (z.1 ((kwX l3_6.toNatClampNeg).1) ((kwX l3_6.toNatClampNeg).2.1))), (0, .ref h0), (1, (va_re z.2 l1_6)), (2, .int l2_6), (3, .int l3_6)]) E.1 E.2.1 dX3_readWord_30 hl (by decide) rfl (fun ls hl => ?_)
      refine lv_iload_n E.1 E.2.1 dX3_readWord_32 rfl (lv_at hl 4 rfl) ?_
      refine lv_iload E.1 E.2.1 dX3_readWord_33 (lv_at hl 0 rfl) ?_
      refine va_mmax E.1 E.2.1 (E.2.2.2.2.2.2.trans hl.1.symm) E.2.2.2.2.1 (hts _ lk_X3_readWord_86a) (hts _ lk_X3_readWord_86b) (hts _ lk_X3_readWord_86c) (hts _ lk_X3_readWord_86d) (Nat.le_of_ble_eq_true rfl) (Nat.le_of_ble_eq_true rfl) (Nat.zero_le _) (Nat.zero_le _) dX3_readWord_35 ?_
      refine lv_istore_n (lv' := [(2, .int (if l2_6 < r27 then r27 else l2_6)), (5, .int r27), (4, .ref (z.1 ((kwX l3_6.toNatClampNeg).1) ((kwX l3_6.toNatClampNeg).2.1))), (0, .ref h0), (1, (va_re z.2 l1_6)), (3, .int l3_6)]) E.1 E.2.1 dX3_readWord_38 rfl hl (by decide) rfl (fun ls hl => ?_)
      refine lv_iload E.1 E.2.1 dX3_readWord_39 (lv_at hl 1 rfl) ?_
      refine lv_aload E.1 E.2.1 dX3_readWord_41 (lv_at hl 2 rfl) ?_
      refine wLen ((kwX l3_6.toNatClampNeg).1, (kwX l3_6.toNatClampNeg).2.1, (kwX l3_6.toNatClampNeg).2.2) (kwX_in _ (Nat.not_le.mp (fun q => hi18 (Or.inr q)))) E hC hW (cwV 0 hts gX3_readWord_J0_length_8abf5 rfl rfl rfl (by decide +kernel) ⟨Nat.le_of_ble_eq_true rfl, Nat.le_of_ble_eq_true rfl⟩) hl.1 (Nat.le_of_ble_eq_true rfl) dX3_readWord_43 ⟨Nat.zero_le _, Nat.zero_le _⟩ (fun H locs hW => ?_)
      refine lv_icmp_ne (tgt := 55) E.1 E.2.1 dX3_readWord_46 (by decide) (fun c46 => ?_) (fun c46 => ?_)
      · have h := ie c46 h
        exact J55 l1_6 (if l2_6 < r27 then r27 else l2_6) H locs ls h hW (lv_sub hl [3, 4, 0, 5] rfl)
      · have h := it c46 h
        refine va_getsN (v := .ref tK) E.1 E.2.1 hZK hW.2.2 E.2.2.2.2.1 (va_Nw.use (nestW_tab _ lk_X3_readWord_76) (hK.2 _ lk_X3_readWord_76)) (fun _ h => h) dX3_readWord_49 ?_
        refine lv_iload_n E.1 E.2.1 dX3_readWord_52 rfl (lv_at hl 5 rfl) ?_
        refine vb_tq (v := .ref (z.2 l3_6.toNatClampNeg)) E.1 E.2.1 hTK hW.2.2 hi18 rfl dX3_readWord_53 ?_
        refine lv_astore_n (lv' := [(1, .ref (z.2 l3_6.toNatClampNeg)), (2, .int (if l2_6 < r27 then r27 else l2_6)), (5, .int r27), (4, .ref (z.1 ((kwX l3_6.toNatClampNeg).1) ((kwX l3_6.toNatClampNeg).2.1))), (0, .ref h0), (3, .int l3_6)]) E.1 E.2.1 dX3_readWord_54 rfl hl (by decide) rfl (fun ls hl => ?_)
        exact J55 (some l3_6.toNatClampNeg) (if l2_6 < r27 then r27 else l2_6) H locs ls h hW (lv_sub hl [4, 0, 1, 5] rfl)
set_option maxHeartbeats 4000000 in
set_option maxRecDepth 100000 in
theorem k_X3_readWord_0 {p : Program} {l : Launch} {e : Env} {s : State} {m : MethodId} {args : Array Value} {below : List Frame} {meth : Method} {c : Code} {g : GE} {A : Nat → Prop} {z : ZE} {h0 h1 h2 h3 : Nat} {h4 : Nat → Nat} {x_signs : Nat → Int32} {x_length : Int32} {x_position : Int32} {x_kinds : Nat → Option Nat} {x_values : Nat → Nat → Int32} {x_commandCount : Int32} {res : Option Nat × Int32} {H : Heap} {locs : List Loc} {ls : Array Slot} 
    (E : En cX3_readWord RX3 wsX3_readWord 6 (some (.object "PaperStorm$Kind")) p s m args meth c) (hK : KK g s) (hz : KS z s) (hC : CS z A s s.heap) (hA : ∀ q, s.heap.size ≤ q → A q) (h : f_X3_readWord x_signs x_length x_position = some res) (hW : Wo g A s H locs (w_X3 g z h0 h1 h2 h3 h4 x_signs x_length x_position x_kinds x_values x_commandCount)) (hl : lv_has ls 6 [(0, .ref h0)]) : G_X3_readWord p l e s m args below meth c g A z h0 h1 h2 h3 h4 x_signs x_length x_kinds x_values x_commandCount res H locs 0 ls [] := by
  have hts := E.2.2.2.1
  unfold f_X3_readWord at h
  refine lv_null E.1 E.2.1 dX3_readWord_0 ?_
  refine lv_astore_nN (lv' := [(1, .null), (0, .ref h0)]) E.1 E.2.1 dX3_readWord_1 rfl hl (by decide) rfl (fun ls hl => ?_)
  refine lv_iconst (v := 0) E.1 E.2.1 dX3_readWord_2 (by decide) ?_
  refine lv_istore_n (lv' := [(2, .int 0), (1, .null), (0, .ref h0)]) E.1 E.2.1 dX3_readWord_3 rfl hl (by decide) rfl (fun ls hl => ?_)
  refine lv_iconst (v := 0) E.1 E.2.1 dX3_readWord_4 (by decide) ?_
  refine lv_istore_n (lv' := [(3, .int 0), (2, .int 0), (1, .null), (0, .ref h0)]) E.1 E.2.1 dX3_readWord_5 rfl hl (by decide) rfl (fun ls hl => ?_)
  refine k_X3_readWord_6 E hK hz hC hA ?_ 1000 none 0 0 H locs ls h hW (lv_sub hl [3, 2, 1, 0] rfl)
  · intro l1_61e l2_61e H locs ls h hW hl
    refine lv_aload_n E.1 E.2.1 dX3_readWord_61 rfl (lv_at hl 0 rfl) ?_
    refine lv_dup E.1 E.2.1 dX3_readWord_62 rfl ?_
    refine wGet (v := .int x_position) E hK in_X3_readWord_X3 hW 2 lk_X3_readWord_19 0 rfl rfl (by decide) rfl rfl dX3_readWord_63 ?_
    refine lv_iload_n E.1 E.2.1 dX3_readWord_66 rfl (lv_at hl 2 rfl) ?_
    refine lv_iadd E.1 E.2.1 dX3_readWord_67 ?_
    refine wPut (world' := (w_X3 g z h0 h1 h2 h3 h4 x_signs x_length (x_position + l2_61e) x_kinds x_values x_commandCount)) E hK in_X3_readWord_X3 tyX3 tyX3_ok nmX3 hW 2 lk_X3_readWord_19 0 rfl rfl (by decide) rfl rfl rfl rfl rfl (Nat.le_of_ble_eq_true rfl) dX3_readWord_68 rfl (fun H locs hW => ?_)
    refine lv_aloadR_n E.1 E.2.1 dX3_readWord_71 rfl (lv_at hl 1 rfl) ?_
    obtain rfl := Option.some.inj h
    exact endE E hW dX3_readWord_72
theorem c_X3_readWord (l : Launch) (g : GE) (z : ZE) (h0 h1 h2 h3 : Nat) (h4 : Nat → Nat) (x_signs : Nat → Int32) (x_length : Int32) (x_position : Int32) (x_kinds : Nat → Option Nat) (x_values : Nat → Nat → Int32) (x_commandCount : Int32) {res : Option Nat × Int32} (hf : f_X3_readWord x_signs x_length x_position = some res) : XE l yX3_readWord wsX3_readWord rm_X3_readWord g z [.ref h0] (w_X3 g z h0 h1 h2 h3 h4 x_signs x_length x_position x_kinds x_values x_commandCount) (w_X3 g z h0 h1 h2 h3 h4 x_signs x_length res.2 x_kinds x_values x_commandCount) res.1 :=
  mkXE (cc := cX3_readWord) (maxL := 6) (by decide) rfl (Nat.le_of_ble_eq_true rfl) (fun p e s m args below meth c A H locs ls E hK hz hC hA hW hl => k_X3_readWord_0 E hK hz hC hA hf hW hl)

/-! PaperStorm$CommandText.readCommand(I)Z X3_readCommand -/
abbrev rm_X3_readCommand : Room := { frames := 6, cells := 0, slots := 0, locals := 133 }
theorem in_X3_readCommand_X3 : ∀ w ∈ wsX30, w ∈ wsX3_readCommand := by decide +kernel
theorem lk_X3_readCommand_24 : Cond.fieldLink RX3 24 "PaperStorm$CommandText" "kinds" "[LPaperStorm$Kind;" ∈ wsX3_readCommand := by decide +kernel
theorem lk_X3_readCommand_30 : Cond.fieldLink RX3 30 "PaperStorm$CommandText" "values" "[[I" ∈ wsX3_readCommand := by decide +kernel
theorem lk_X3_readCommand_59 : Cond.fieldLinkNest "PaperStorm$CommandText" 59 "PaperStorm$Kind" "parameters" "Ljava/lang/String;" "PaperStorm" ∈ nestW := by decide +kernel
noncomputable def f_X3_readCommand_27 (x_signs : Nat → Int32) (x_length : Int32) (l1 : Int32) (l2 : Nat) (z81 : Int32 → (Nat → Nat → Int32) → Option (Int32 × Int32 × (Nat → Option Nat) × (Nat → Nat → Int32))) (z63 : Int32 → (Nat → Nat → Int32) → Option (Int32 × Int32 × (Nat → Option Nat) × (Nat → Nat → Int32))) : Nat → Int32 → Int32 → (Nat → Nat → Int32) → Option (Int32 × Int32 × (Nat → Option Nat) × (Nat → Nat → Int32))
  | 0, _, _, _ => none
  | n + 1, l3_27, x_position_27, x_values_27 => if (nI ((kpX l2).2.2 : List Int32).length) ≤ l3_27 then z81 x_position_27 x_values_27 else if 3 ≤ l3_27 then z81 x_position_27 x_values_27 else if l3_27 < 0 ∨ ((kpX l2).2.2 : List Int32).length ≤ l3_27.toNatClampNeg then none else (f_X3_readParameter x_signs x_length x_position_27 (chAt ((kpX l2).2.2 : List Int32) l3_27)).bind fun r52 => if r52.1 = (-1) then z63 r52.2 x_values_27 else if l1 < 0 ∨ 15 ≤ l1.toNatClampNeg then none else if l3_27 < 0 ∨ 3 ≤ l3_27.toNatClampNeg then none else f_X3_readCommand_27 x_signs x_length l1 l2 z81 z63 n (l3_27 + 1) r52.2 (va_up x_values_27 l1.toNatClampNeg (upd (x_values_27 l1.toNatClampNeg) l3_27.toNatClampNeg r52.1))
noncomputable def f_X3_readCommand (x_signs : Nat → Int32) (x_length : Int32) (x_position : Int32) (x_kinds : Nat → Option Nat) (x_values : Nat → Nat → Int32) (a1 : Int32) : Option (Int32 × Int32 × (Nat → Option Nat) × (Nat → Nat → Int32)) :=
  jo (fun (x_position_16 : Int32) => some (0, x_position_16, x_kinds, x_values)) (fun j16 => (f_X3_readWord x_signs x_length x_position).bind fun r1 => oN r1.1 (j16 r1.2) (fun i6 => if 10 ≤ i6 then none else (f_X3_isPlace a1).bind fun r10 => if r10 = 0 then j16 r1.2 else if a1 < 0 ∨ 15 ≤ a1.toNatClampNeg then none else f_X3_readCommand_27 x_signs x_length a1 i6 (fun x_position_81e x_values_81e => some (1, x_position_81e, (va_up x_kinds a1.toNatClampNeg (some i6)), x_values_81e)) (fun x_position_63e x_values_63e => some (0, x_position_63e, (va_up x_kinds a1.toNatClampNeg (some i6)), x_values_63e)) 1000 0 r1.2 x_values))
abbrev G_X3_readCommand (p : Program) (l : Launch) (e : Env) (s : State) (m : MethodId) (args : Array Value) (below : List Frame) (meth : Method) (c : Code) (g : GE) (A : Nat → Prop) (z : ZE) (h0 h1 h2 h3 : Nat) (h4 : Nat → Nat) (x_signs : Nat → Int32) (x_length : Int32) (x_commandCount : Int32) (res : Int32 × Int32 × (Nat → Option Nat) × (Nat → Nat → Int32)) (H : Heap) (locs : List Loc) (pc : Nat) (ls : Array Slot) (st : List Value) : Prop := W p l e (headSpec wsX3_readCommand rm_X3_readCommand).room s m args below meth c H locs 0 0 (MQ below (PoI g A (w_X3 g z h0 h1 h2 h3 h4 x_signs x_length res.2.1 res.2.2.1 res.2.2.2 x_commandCount) res.1) args s 0 0 A) (F0 m pc ls st)
set_option maxHeartbeats 4000000 in
set_option maxRecDepth 100000 in
theorem k_X3_readCommand_27 {p : Program} {l : Launch} {e : Env} {s : State} {m : MethodId} {args : Array Value} {below : List Frame} {meth : Method} {c : Code} {g : GE} {A : Nat → Prop} {z : ZE} {h0 h1 h2 h3 : Nat} {h4 : Nat → Nat} {x_signs : Nat → Int32} {x_length : Int32} {x_kinds : Nat → Option Nat} {x_commandCount : Int32} {res : Int32 × Int32 × (Nat → Option Nat) × (Nat → Nat → Int32)} {l1 : Int32} {l2 : Nat} {z81 : Int32 → (Nat → Nat → Int32) → Option (Int32 × Int32 × (Nat → Option Nat) × (Nat → Nat → Int32))} {z63 : Int32 → (Nat → Nat → Int32) → Option (Int32 × Int32 × (Nat → Option Nat) × (Nat → Nat → Int32))}
    (E : En cX3_readCommand RX3 wsX3_readCommand 5 (some .boolean) p s m args meth c) (hK : KK g s) (hz : KS z s) (hC : CS z A s s.heap) (hE2 : l2 < 10) (hA : ∀ q, s.heap.size ≤ q → A q)
    (hz81 : ∀ (x_position_81e : Int32) (x_values_81e : Nat → Nat → Int32) (H : Heap) (locs : List Loc) (ls : Array Slot), z81 x_position_81e x_values_81e = some res → Wo g A s H locs (w_X3 g z h0 h1 h2 h3 h4 x_signs x_length x_position_81e x_kinds x_values_81e x_commandCount) → lv_has ls 5 [] → G_X3_readCommand p l e s m args below meth c g A z h0 h1 h2 h3 h4 x_signs x_length x_commandCount res H locs 81 ls [])
    (hz63 : ∀ (x_position_63e : Int32) (x_values_63e : Nat → Nat → Int32) (H : Heap) (locs : List Loc) (ls : Array Slot), z63 x_position_63e x_values_63e = some res → Wo g A s H locs (w_X3 g z h0 h1 h2 h3 h4 x_signs x_length x_position_63e x_kinds x_values_63e x_commandCount) → lv_has ls 5 [] → G_X3_readCommand p l e s m args below meth c g A z h0 h1 h2 h3 h4 x_signs x_length x_commandCount res H locs 63 ls [])
    : ∀ (n : Nat) (l3_27 : Int32) (x_position_27 : Int32) (x_values_27 : Nat → Nat → Int32) (H : Heap) (locs : List Loc) (ls : Array Slot), f_X3_readCommand_27 x_signs x_length l1 l2 z81 z63 n l3_27 x_position_27 x_values_27 = some res → Wo g A s H locs (w_X3 g z h0 h1 h2 h3 h4 x_signs x_length x_position_27 x_kinds x_values_27 x_commandCount) → lv_has ls 5 [(0, .ref h0), (1, .int l1), (2, .ref (z.2 l2)), (3, .int l3_27)] → G_X3_readCommand p l e s m args below meth c g A z h0 h1 h2 h3 h4 x_signs x_length x_commandCount res H locs 27 ls [] := by
  have hts := E.2.2.2.1
  intro n
  induction n with
  | zero => intro l3_27 x_position_27 x_values_27 H locs ls h hW hl; rw [f_X3_readCommand_27] at h; cases h
  | succ n ih =>
    intro l3_27 x_position_27 x_values_27 H locs ls h hW hl
    rw [f_X3_readCommand_27] at h
    refine lv_iload_n E.1 E.2.1 dX3_readCommand_27 rfl (lv_at hl 3 rfl) ?_
    refine lv_aload_n E.1 E.2.1 dX3_readCommand_28 rfl (lv_at hl 2 rfl) ?_
    refine wKstr (v := .ref (z.1 ((kpX l2).1) ((kpX l2).2.1))) hC.2.2.2.2.1.2 hE2 E hK hW lk_X3_readCommand_59 dX3_readCommand_29 ?_
    refine wLen ((kpX l2).1, (kpX l2).2.1, (kpX l2).2.2) (kpX_in _ hE2) E hC hW (cwV 0 hts gX3_readCommand_J0_length_8abf5 rfl rfl rfl (by decide +kernel) ⟨Nat.le_of_ble_eq_true rfl, Nat.le_of_ble_eq_true rfl⟩) hl.1 (Nat.le_of_ble_eq_true rfl) dX3_readCommand_32 ⟨Nat.zero_le _, Nat.zero_le _⟩ (fun H locs hW => ?_)
    refine lv_icmp_ge (tgt := 81) E.1 E.2.1 dX3_readCommand_35 (by decide) (fun c35 => ?_) (fun c35 => ?_)
    · have h := it c35 h
      exact hz81 x_position_27 x_values_27 H locs ls h hW (lv_sub hl [] rfl)
    · have h := ie c35 h
      refine lv_iload_n E.1 E.2.1 dX3_readCommand_38 rfl (lv_at hl 3 rfl) ?_
      refine lv_iconst (v := 3) E.1 E.2.1 dX3_readCommand_39 (by decide) ?_
      refine lv_icmp_ge (tgt := 81) E.1 E.2.1 dX3_readCommand_40 (by decide) (fun c40 => ?_) (fun c40 => ?_)
      · have h := it c40 h
        exact hz81 x_position_27 x_values_27 H locs ls h hW (lv_sub hl [] rfl)
      · have h := ie c40 h
        refine lv_aload_n E.1 E.2.1 dX3_readCommand_43 rfl (lv_at hl 0 rfl) ?_
        refine lv_aload_n E.1 E.2.1 dX3_readCommand_44 rfl (lv_at hl 2 rfl) ?_
        refine wKstr (v := .ref (z.1 ((kpX l2).1) ((kpX l2).2.1))) hC.2.2.2.2.1.2 hE2 E hK hW lk_X3_readCommand_59 dX3_readCommand_45 ?_
        refine lv_iload_n E.1 E.2.1 dX3_readCommand_48 rfl (lv_at hl 3 rfl) ?_
        obtain ⟨hi49, h⟩ := ox h
        refine wChr ((kpX l2).1, (kpX l2).2.1, (kpX l2).2.2) (kpX_in _ hE2) hi49 E hC hW (cwV 1 hts gX3_readCommand_J0_charAt_5068e rfl rfl rfl (by decide +kernel) ⟨Nat.le_of_ble_eq_true rfl, Nat.le_of_ble_eq_true rfl⟩) hl.1 (Nat.le_of_ble_eq_true rfl) dX3_readCommand_49 ⟨Nat.zero_le _, Nat.zero_le _⟩ (fun H locs hW => ?_)
        obtain ⟨r52, hc, h⟩ := bx h
        refine goI (world' := (w_X3 g z h0 h1 h2 h3 h4 x_signs x_length r52.2 x_kinds x_values_27 x_commandCount)) hW hA (is := [0, 1, 2, 3, 4, 5, 6, 7, 8, 9, 10, 11, 12, 13, 14, 15, 16, 17, 18]) rfl (goV (rest := []) E hK hW [0, 1, 2, 3, 4, 5, 6, 7, 8, 9, 10, 11, 12, 13, 14, 15, 16, 17, 18] rfl rfl (c_X3_readParameter l g h0 h1 h2 h3 h4 x_signs x_length x_position_27 x_kinds x_values_27 x_commandCount (chAt ((kpX l2).2.2 : List Int32) l3_27) (hf := hc) H.size) (cwV 1 hts gX3_readCommand_X3_readParameter rfl rfl rfl (by decide +kernel) ⟨Nat.le_of_ble_eq_true rfl, Nat.le_of_ble_eq_true rfl⟩) 0 rfl rfl rfl hl.1 rfl rfl (Nat.le_of_ble_eq_true rfl) dX3_readCommand_52 ⟨Nat.zero_le _, Nat.zero_le _⟩) rfl rfl (fun H locs hW => ?_)
        refine lv_istore (lv' := [(4, .int r52.1), (0, .ref h0), (1, .int l1), (2, .ref (z.2 l2)), (3, .int l3_27)]) E.1 E.2.1 dX3_readCommand_55 hl (by decide) rfl (fun ls hl => ?_)
        refine lv_iload E.1 E.2.1 dX3_readCommand_57 (lv_at hl 0 rfl) ?_
        refine lv_iconst (v := (-1)) E.1 E.2.1 dX3_readCommand_59 (by decide) ?_
        refine lv_icmp_ne (tgt := 65) E.1 E.2.1 dX3_readCommand_60 (by decide) (fun c60 => ?_) (fun c60 => ?_)
        · have h := ie c60 h
          refine lv_aload_n E.1 E.2.1 dX3_readCommand_65 rfl (lv_at hl 1 rfl) ?_
          refine wGet (v := .ref h3) E hK in_X3_readCommand_X3 hW 4 lk_X3_readCommand_30 0 rfl rfl (by decide) rfl rfl dX3_readCommand_66 ?_
          refine lv_iload_n E.1 E.2.1 dX3_readCommand_69 rfl (lv_at hl 2 rfl) ?_
          obtain ⟨hi70, h⟩ := ox h
          refine wGald E hK hW 3 rfl hi70 dX3_readCommand_70 ?_
          refine lv_iload_n E.1 E.2.1 dX3_readCommand_71 rfl (lv_at hl 4 rfl) ?_
          refine lv_iload E.1 E.2.1 dX3_readCommand_72 (lv_at hl 0 rfl) ?_
          obtain ⟨hi74, h⟩ := ox h
          refine wIast (world' := (w_X3 g z h0 h1 h2 h3 h4 x_signs x_length r52.2 x_kinds (va_up x_values_27 l1.toNatClampNeg (upd (x_values_27 l1.toNatClampNeg) l3_27.toNatClampNeg r52.1)) x_commandCount)) E hK hW (4 + l1.toNatClampNeg) (gridAt (Nat.not_le.mp (fun q => hi70 (Or.inr q)))) hi74 dX3_readCommand_74 (gridSet (Nat.not_le.mp (fun q => hi70 (Or.inr q)))) (fun H locs hW => ?_)
          refine lv_iinc (v := (l3_27 + 1)) (lv' := [(3, .int (l3_27 + 1)), (4, .int r52.1), (0, .ref h0), (1, .int l1), (2, .ref (z.2 l2))]) E.1 E.2.1 dX3_readCommand_75 hl (k := 4) rfl rfl (by decide) rfl (fun ls hl => ?_)
          refine lv_goto (tgt := 27) E.1 E.2.1 dX3_readCommand_78 (by decide) ?_
          exact ih (l3_27 + 1) r52.2 (va_up x_values_27 l1.toNatClampNeg (upd (x_values_27 l1.toNatClampNeg) l3_27.toNatClampNeg r52.1)) H locs ls h hW (lv_sub hl [2, 3, 4, 0] rfl)
        · have h := it c60 h
          exact hz63 r52.2 x_values_27 H locs ls h hW (lv_sub hl [] rfl)
set_option maxHeartbeats 4000000 in
set_option maxRecDepth 100000 in
theorem k_X3_readCommand_0 {p : Program} {l : Launch} {e : Env} {s : State} {m : MethodId} {args : Array Value} {below : List Frame} {meth : Method} {c : Code} {g : GE} {A : Nat → Prop} {z : ZE} {h0 h1 h2 h3 : Nat} {h4 : Nat → Nat} {x_signs : Nat → Int32} {x_length : Int32} {x_position : Int32} {x_kinds : Nat → Option Nat} {x_values : Nat → Nat → Int32} {x_commandCount : Int32} {res : Int32 × Int32 × (Nat → Option Nat) × (Nat → Nat → Int32)} {H : Heap} {locs : List Loc} {ls : Array Slot} {a1 : Int32}
    (E : En cX3_readCommand RX3 wsX3_readCommand 5 (some .boolean) p s m args meth c) (hK : KK g s) (hz : KS z s) (hC : CS z A s s.heap) (hA : ∀ q, s.heap.size ≤ q → A q) (h : f_X3_readCommand x_signs x_length x_position x_kinds x_values a1 = some res) (hW : Wo g A s H locs (w_X3 g z h0 h1 h2 h3 h4 x_signs x_length x_position x_kinds x_values x_commandCount)) (hl : lv_has ls 5 [(0, .ref h0), (1, .int a1)]) : G_X3_readCommand p l e s m args below meth c g A z h0 h1 h2 h3 h4 x_signs x_length x_commandCount res H locs 0 ls [] := by
  have hts := E.2.2.2.1
  unfold f_X3_readCommand at h
  obtain ⟨j16, hj16, h⟩ := jox1 h
  have J16 : ∀ (x_position_16 : Int32) (H : Heap) (locs : List Loc) (ls : Array Slot), j16 x_position_16 = some res → Wo g A s H locs (w_X3 g z h0 h1 h2 h3 h4 x_signs x_length x_position_16 x_kinds x_values x_commandCount) → lv_has ls 5 [] → G_X3_readCommand p l e s m args below meth c g A z h0 h1 h2 h3 h4 x_signs x_length x_commandCount res H locs 16 ls [] := by
    intro x_position_16 H locs ls h hW hl
    rw [hj16] at h
    refine lv_iconst (v := 0) E.1 E.2.1 dX3_readCommand_16 (by decide) ?_
    obtain rfl := Option.some.inj h
    exact endI E (show narrow .boolean (.int 0) = .int 0 by decide) hW dX3_readCommand_17
  refine lv_aload_n E.1 E.2.1 dX3_readCommand_0 rfl (lv_at hl 0 rfl) ?_
  obtain ⟨r1, hc, h⟩ := bx h
  refine goE (world' := (w_X3 g z h0 h1 h2 h3 h4 x_signs x_length r1.2 x_kinds x_values x_commandCount)) hW hA (is := [0, 1, 2, 3, 4, 5, 6, 7, 8, 9, 10, 11, 12, 13, 14, 15, 16, 17, 18]) rfl (goVX (rest := []) E hK hz hC hA hW [0, 1, 2, 3, 4, 5, 6, 7, 8, 9, 10, 11, 12, 13, 14, 15, 16, 17, 18] rfl rfl (c_X3_readWord l g z h0 h1 h2 h3 h4 x_signs x_length x_position x_kinds x_values x_commandCount (hf := hc) H.size) (cwV 0 hts gX3_readCommand_X3_readWord rfl rfl rfl (by decide +kernel) ⟨Nat.le_of_ble_eq_true rfl, Nat.le_of_ble_eq_true rfl⟩) 0 rfl rfl rfl hl.1 rfl rfl (Nat.le_of_ble_eq_true rfl) dX3_readCommand_1 ⟨Nat.zero_le _, Nat.zero_le _⟩) rfl rfl (fun H locs hW => ?_)
  refine lv_astoreR_n (lv' := [(2, (va_re z.2 r1.1)), (0, .ref h0), (1, .int a1)]) E.1 E.2.1 dX3_readCommand_4 rfl hl (by decide) rfl (fun ls hl => ?_)
  refine lv_aloadR_n E.1 E.2.1 dX3_readCommand_5 rfl (lv_at hl 0 rfl) ?_
  rcases oNx h with ⟨ho6, h⟩ | ⟨i6, ho6, h⟩
  · rw [ho6] at hl
    have hl : lv_has ls 5 [(2, .null), (0, .ref h0), (1, .int a1)] := hl
    rw [ho6]
    refine lv_ifnullN (tgt := 16) E.1 E.2.1 dX3_readCommand_6 (by decide) ?_
    exact J16 r1.2 H locs ls h hW (lv_sub hl [] rfl)
  · obtain ⟨hk6, h⟩ := ox h
    rw [ho6] at hl
    have hl : lv_has ls 5 [(2, .ref (z.2 i6)), (0, .ref h0), (1, .int a1)] := hl
    rw [ho6]
    refine lv_ifnullR (x := z.2 i6) E.1 E.2.1 dX3_readCommand_6 ?_
    refine lv_iload_n E.1 E.2.1 dX3_readCommand_9 rfl (lv_at hl 2 rfl) ?_
    obtain ⟨r10, hc, h⟩ := bx h
    refine goI (world' := (w_X3 g z h0 h1 h2 h3 h4 x_signs x_length r1.2 x_kinds x_values x_commandCount)) hW hA (is := []) rfl (goS (rest := []) E hK hW [] rfl rfl (c_X3_isPlace l g a1 (hf := hc) H.size) (va_cwS 1 hts gX3_readCommand_X3_isPlace rfl rfl rfl (by decide +kernel) ⟨Nat.le_of_ble_eq_true rfl, Nat.le_of_ble_eq_true rfl⟩) hl.1 rfl rfl (Nat.le_of_ble_eq_true rfl) dX3_readCommand_10 ⟨Nat.zero_le _, Nat.zero_le _⟩) rfl rfl (fun H locs hW => ?_)
    refine lv_if_ne (tgt := 18) E.1 E.2.1 dX3_readCommand_13 (by decide) (fun c13 => ?_) (fun c13 => ?_)
    · have h := ie c13 h
      refine lv_aload_n E.1 E.2.1 dX3_readCommand_18 rfl (lv_at hl 1 rfl) ?_
      refine wGet (v := .ref h2) E hK in_X3_readCommand_X3 hW 3 lk_X3_readCommand_24 0 rfl rfl (by decide) rfl rfl dX3_readCommand_19 ?_
      refine lv_iload_n E.1 E.2.1 dX3_readCommand_22 rfl (lv_at hl 2 rfl) ?_
      refine lv_aload_n E.1 E.2.1 dX3_readCommand_23 rfl (lv_at hl 0 rfl) ?_
      obtain ⟨hi24, h⟩ := ox h
      refine wKast (world' := (w_X3 g z h0 h1 h2 h3 h4 x_signs x_length r1.2 (va_up x_kinds a1.toNatClampNeg (some i6)) x_values x_commandCount)) E hK hC (Nat.lt_of_not_le hk6) hW 2 rfl hi24 dX3_readCommand_24 (by rw [kst_map]; rfl) (fun H locs hW => ?_)
      refine lv_iconst (v := 0) E.1 E.2.1 dX3_readCommand_25 (by decide) ?_
      refine lv_istore_n (lv' := [(3, .int 0), (2, .ref (z.2 i6)), (0, .ref h0), (1, .int a1)]) E.1 E.2.1 dX3_readCommand_26 rfl hl (by decide) rfl (fun ls hl => ?_)
      refine k_X3_readCommand_27 E hK hz hC (Nat.lt_of_not_le hk6) hA ?_ ?_ 1000 0 r1.2 x_values H locs ls h hW (lv_sub hl [2, 3, 1, 0] rfl)
      · intro x_position_81e x_values_81e H locs ls h hW hl
        refine lv_iconst (v := 1) E.1 E.2.1 dX3_readCommand_81 (by decide) ?_
        obtain rfl := Option.some.inj h
        exact endI E (show narrow .boolean (.int 1) = .int 1 by decide) hW dX3_readCommand_82
      · intro x_position_63e x_values_63e H locs ls h hW hl
        refine lv_iconst (v := 0) E.1 E.2.1 dX3_readCommand_63 (by decide) ?_
        obtain rfl := Option.some.inj h
        exact endI E (show narrow .boolean (.int 0) = .int 0 by decide) hW dX3_readCommand_64
    · have h := it c13 h
      exact J16 r1.2 H locs ls h hW (lv_sub hl [] rfl)
theorem c_X3_readCommand (l : Launch) (g : GE) (z : ZE) (h0 h1 h2 h3 : Nat) (h4 : Nat → Nat) (x_signs : Nat → Int32) (x_length : Int32) (x_position : Int32) (x_kinds : Nat → Option Nat) (x_values : Nat → Nat → Int32) (x_commandCount : Int32) (a1 : Int32) {res : Int32 × Int32 × (Nat → Option Nat) × (Nat → Nat → Int32)} (hf : f_X3_readCommand x_signs x_length x_position x_kinds x_values a1 = some res) : XI l yX3_readCommand wsX3_readCommand rm_X3_readCommand g z [.ref h0, .int a1] (w_X3 g z h0 h1 h2 h3 h4 x_signs x_length x_position x_kinds x_values x_commandCount) (w_X3 g z h0 h1 h2 h3 h4 x_signs x_length res.2.1 res.2.2.1 res.2.2.2 x_commandCount) res.1 :=
  mkXI (cc := cX3_readCommand) (maxL := 5) (by decide) rfl (Nat.le_of_ble_eq_true rfl) (fun p e s m args below meth c A H locs ls E hK hz hC hA hW hl => k_X3_readCommand_0 E hK hz hC hA hf hW hl)

/-! PaperStorm$CommandText.parse()I X3_parse -/
abbrev rm_X3_parse : Room := { frames := 7, cells := 0, slots := 0, locals := 157 }
theorem in_X3_parse_X3 : ∀ w ∈ wsX30, w ∈ wsX3_parse := by decide +kernel
theorem lk_X3_parse_15 : Cond.fieldLink RX3 15 "PaperStorm$CommandText" "length" "I" ∈ wsX3_parse := by decide +kernel
theorem lk_X3_parse_19 : Cond.fieldLink RX3 19 "PaperStorm$CommandText" "position" "I" ∈ wsX3_parse := by decide +kernel
theorem lk_X3_parse_33 : Cond.fieldLink RX3 33 "PaperStorm$CommandText" "commandCount" "I" ∈ wsX3_parse := by decide +kernel
noncomputable def f_X3_parse_12 (x_signs : Nat → Int32) (x_length : Int32) (z74 : Int32 → (Nat → Option Nat) → (Nat → Nat → Int32) → Int32 → Option (Int32 × Int32 × (Nat → Option Nat) × (Nat → Nat → Int32) × Int32)) (z26 : Int32 → (Nat → Option Nat) → (Nat → Nat → Int32) → Int32 → Option (Int32 × Int32 × (Nat → Option Nat) × (Nat → Nat → Int32) × Int32)) (z52 : Int32 → (Nat → Option Nat) → (Nat → Nat → Int32) → Int32 → Option (Int32 × Int32 × (Nat → Option Nat) × (Nat → Nat → Int32) × Int32)) (z63 : Int32 → (Nat → Option Nat) → (Nat → Nat → Int32) → Int32 → Option (Int32 × Int32 × (Nat → Option Nat) × (Nat → Nat → Int32) × Int32)) : Nat → Int32 → Int32 → (Nat → Option Nat) → (Nat → Nat → Int32) → Int32 → Option (Int32 × Int32 × (Nat → Option Nat) × (Nat → Nat → Int32) × Int32)
  | 0, _, _, _, _, _ => none
  | n + 1, l1_12, x_position_12, x_kinds_12, x_values_12, x_commandCount_12 => if 15 ≤ l1_12 then z74 x_position_12 x_kinds_12 x_values_12 x_commandCount_12 else (f_X3_readCommand x_signs x_length x_position_12 x_kinds_12 x_values_12 l1_12).bind fun r20 => if r20.1 = 0 then z26 r20.2.1 r20.2.2.1 r20.2.2.2 x_commandCount_12 else if r20.2.1 < x_length then (f_X3_readSign x_signs x_length r20.2.1 59).bind fun r57 => if r57.1 = 0 then z63 r57.2 r20.2.2.1 r20.2.2.2 (x_commandCount_12 + 1) else f_X3_parse_12 x_signs x_length z74 z26 z52 z63 n (l1_12 + 1) r57.2 r20.2.2.1 r20.2.2.2 (x_commandCount_12 + 1) else z52 r20.2.1 r20.2.2.1 r20.2.2.2 (x_commandCount_12 + 1)
noncomputable def f_X3_parse (x_signs : Nat → Int32) (x_length : Int32) (x_position : Int32) (x_kinds : Nat → Option Nat) (x_values : Nat → Nat → Int32) (x_commandCount : Int32) : Option (Int32 × Int32 × (Nat → Option Nat) × (Nat → Nat → Int32) × Int32) :=
  f_X3_parse_12 x_signs x_length (fun x_position_74e x_kinds_74e x_values_74e x_commandCount_74e => some (x_position_74e, x_position_74e, x_kinds_74e, x_values_74e, x_commandCount_74e)) (fun x_position_26e x_kinds_26e x_values_26e x_commandCount_26e => some (x_position_26e, x_position_26e, x_kinds_26e, x_values_26e, x_commandCount_26e)) (fun x_position_52e x_kinds_52e x_values_52e x_commandCount_52e => some ((-1), x_position_52e, x_kinds_52e, x_values_52e, x_commandCount_52e)) (fun x_position_63e x_kinds_63e x_values_63e x_commandCount_63e => some (x_position_63e, x_position_63e, x_kinds_63e, x_values_63e, x_commandCount_63e)) 1000 0 0 x_kinds x_values 0
abbrev G_X3_parse (p : Program) (l : Launch) (e : Env) (s : State) (m : MethodId) (args : Array Value) (below : List Frame) (meth : Method) (c : Code) (g : GE) (A : Nat → Prop) (z : ZE) (h0 h1 h2 h3 : Nat) (h4 : Nat → Nat) (x_signs : Nat → Int32) (x_length : Int32) (res : Int32 × Int32 × (Nat → Option Nat) × (Nat → Nat → Int32) × Int32) (H : Heap) (locs : List Loc) (pc : Nat) (ls : Array Slot) (st : List Value) : Prop := W p l e (headSpec wsX3_parse rm_X3_parse).room s m args below meth c H locs 0 0 (MQ below (PoI g A (w_X3 g z h0 h1 h2 h3 h4 x_signs x_length res.2.1 res.2.2.1 res.2.2.2.1 res.2.2.2.2) res.1) args s 0 0 A) (F0 m pc ls st)
set_option maxHeartbeats 4000000 in
set_option maxRecDepth 100000 in
theorem k_X3_parse_12 {p : Program} {l : Launch} {e : Env} {s : State} {m : MethodId} {args : Array Value} {below : List Frame} {meth : Method} {c : Code} {g : GE} {A : Nat → Prop} {z : ZE} {h0 h1 h2 h3 : Nat} {h4 : Nat → Nat} {x_signs : Nat → Int32} {x_length : Int32} {res : Int32 × Int32 × (Nat → Option Nat) × (Nat → Nat → Int32) × Int32} {z74 : Int32 → (Nat → Option Nat) → (Nat → Nat → Int32) → Int32 → Option (Int32 × Int32 × (Nat → Option Nat) × (Nat → Nat → Int32) × Int32)} {z26 : Int32 → (Nat → Option Nat) → (Nat → Nat → Int32) → Int32 → Option (Int32 × Int32 × (Nat → Option Nat) × (Nat → Nat → Int32) × Int32)} {z52 : Int32 → (Nat → Option Nat) → (Nat → Nat → Int32) → Int32 → Option (Int32 × Int32 × (Nat → Option Nat) × (Nat → Nat → Int32) × Int32)} {z63 : Int32 → (Nat → Option Nat) → (Nat → Nat → Int32) → Int32 → Option (Int32 × Int32 × (Nat → Option Nat) × (Nat → Nat → Int32) × Int32)}
    (E : En cX3_parse RX3 wsX3_parse 2 (some .int) p s m args meth c) (hK : KK g s) (hz : KS z s) (hC : CS z A s s.heap) (hA : ∀ q, s.heap.size ≤ q → A q)
    (hz74 : ∀ (x_position_74e : Int32) (x_kinds_74e : Nat → Option Nat) (x_values_74e : Nat → Nat → Int32) (x_commandCount_74e : Int32) (H : Heap) (locs : List Loc) (ls : Array Slot), z74 x_position_74e x_kinds_74e x_values_74e x_commandCount_74e = some res → Wo g A s H locs (w_X3 g z h0 h1 h2 h3 h4 x_signs x_length x_position_74e x_kinds_74e x_values_74e x_commandCount_74e) → lv_has ls 2 [(0, .ref h0)] → G_X3_parse p l e s m args below meth c g A z h0 h1 h2 h3 h4 x_signs x_length res H locs 74 ls [])
    (hz26 : ∀ (x_position_26e : Int32) (x_kinds_26e : Nat → Option Nat) (x_values_26e : Nat → Nat → Int32) (x_commandCount_26e : Int32) (H : Heap) (locs : List Loc) (ls : Array Slot), z26 x_position_26e x_kinds_26e x_values_26e x_commandCount_26e = some res → Wo g A s H locs (w_X3 g z h0 h1 h2 h3 h4 x_signs x_length x_position_26e x_kinds_26e x_values_26e x_commandCount_26e) → lv_has ls 2 [(0, .ref h0)] → G_X3_parse p l e s m args below meth c g A z h0 h1 h2 h3 h4 x_signs x_length res H locs 26 ls [])
    (hz52 : ∀ (x_position_52e : Int32) (x_kinds_52e : Nat → Option Nat) (x_values_52e : Nat → Nat → Int32) (x_commandCount_52e : Int32) (H : Heap) (locs : List Loc) (ls : Array Slot), z52 x_position_52e x_kinds_52e x_values_52e x_commandCount_52e = some res → Wo g A s H locs (w_X3 g z h0 h1 h2 h3 h4 x_signs x_length x_position_52e x_kinds_52e x_values_52e x_commandCount_52e) → lv_has ls 2 [] → G_X3_parse p l e s m args below meth c g A z h0 h1 h2 h3 h4 x_signs x_length res H locs 52 ls [])
    (hz63 : ∀ (x_position_63e : Int32) (x_kinds_63e : Nat → Option Nat) (x_values_63e : Nat → Nat → Int32) (x_commandCount_63e : Int32) (H : Heap) (locs : List Loc) (ls : Array Slot), z63 x_position_63e x_kinds_63e x_values_63e x_commandCount_63e = some res → Wo g A s H locs (w_X3 g z h0 h1 h2 h3 h4 x_signs x_length x_position_63e x_kinds_63e x_values_63e x_commandCount_63e) → lv_has ls 2 [(0, .ref h0)] → G_X3_parse p l e s m args below meth c g A z h0 h1 h2 h3 h4 x_signs x_length res H locs 63 ls [])
    : ∀ (n : Nat) (l1_12 : Int32) (x_position_12 : Int32) (x_kinds_12 : Nat → Option Nat) (x_values_12 : Nat → Nat → Int32) (x_commandCount_12 : Int32) (H : Heap) (locs : List Loc) (ls : Array Slot), f_X3_parse_12 x_signs x_length z74 z26 z52 z63 n l1_12 x_position_12 x_kinds_12 x_values_12 x_commandCount_12 = some res → Wo g A s H locs (w_X3 g z h0 h1 h2 h3 h4 x_signs x_length x_position_12 x_kinds_12 x_values_12 x_commandCount_12) → lv_has ls 2 [(0, .ref h0), (1, .int l1_12)] → G_X3_parse p l e s m args below meth c g A z h0 h1 h2 h3 h4 x_signs x_length res H locs 12 ls [] := by
  have hts := E.2.2.2.1
  intro n
  induction n with
  | zero => intro l1_12 x_position_12 x_kinds_12 x_values_12 x_commandCount_12 H locs ls h hW hl; rw [f_X3_parse_12] at h; cases h
  | succ n ih =>
    intro l1_12 x_position_12 x_kinds_12 x_values_12 x_commandCount_12 H locs ls h hW hl
    rw [f_X3_parse_12] at h
    refine lv_iload_n E.1 E.2.1 dX3_parse_12 rfl (lv_at hl 1 rfl) ?_
    refine lv_bipush (v := 15) E.1 E.2.1 dX3_parse_13 (by decide) ?_
    refine lv_icmp_ge (tgt := 74) E.1 E.2.1 dX3_parse_15 (by decide) (fun c15 => ?_) (fun c15 => ?_)
    · have h := it c15 h
      exact hz74 x_position_12 x_kinds_12 x_values_12 x_commandCount_12 H locs ls h hW (lv_sub hl [0] rfl)
    · have h := ie c15 h
      refine lv_aload_n E.1 E.2.1 dX3_parse_18 rfl (lv_at hl 0 rfl) ?_
      refine lv_iload_n E.1 E.2.1 dX3_parse_19 rfl (lv_at hl 1 rfl) ?_
      obtain ⟨r20, hc, h⟩ := bx h
      refine goI (world' := (w_X3 g z h0 h1 h2 h3 h4 x_signs x_length r20.2.1 r20.2.2.1 r20.2.2.2 x_commandCount_12)) hW hA (is := [0, 1, 2, 3, 4, 5, 6, 7, 8, 9, 10, 11, 12, 13, 14, 15, 16, 17, 18]) rfl (goVX (rest := []) E hK hz hC hA hW [0, 1, 2, 3, 4, 5, 6, 7, 8, 9, 10, 11, 12, 13, 14, 15, 16, 17, 18] rfl rfl (c_X3_readCommand l g z h0 h1 h2 h3 h4 x_signs x_length x_position_12 x_kinds_12 x_values_12 x_commandCount_12 l1_12 (hf := hc) H.size) (cwV 1 hts gX3_parse_X3_readCommand rfl rfl rfl (by decide +kernel) ⟨Nat.le_of_ble_eq_true rfl, Nat.le_of_ble_eq_true rfl⟩) 0 rfl rfl rfl hl.1 rfl rfl (Nat.le_of_ble_eq_true rfl) dX3_parse_20 ⟨Nat.zero_le _, Nat.zero_le _⟩) rfl rfl (fun H locs hW => ?_)
      refine lv_if_ne (tgt := 31) E.1 E.2.1 dX3_parse_23 (by decide) (fun c23 => ?_) (fun c23 => ?_)
      · have h := ie c23 h
        refine lv_aload_n E.1 E.2.1 dX3_parse_31 rfl (lv_at hl 0 rfl) ?_
        refine lv_dup E.1 E.2.1 dX3_parse_32 rfl ?_
        refine wGet (v := .int x_commandCount_12) E hK in_X3_parse_X3 hW 5 lk_X3_parse_33 0 rfl rfl (by decide) rfl rfl dX3_parse_33 ?_
        refine lv_iconst (v := 1) E.1 E.2.1 dX3_parse_36 (by decide) ?_
        refine lv_iadd E.1 E.2.1 dX3_parse_37 ?_
        refine wPut (world' := (w_X3 g z h0 h1 h2 h3 h4 x_signs x_length r20.2.1 r20.2.2.1 r20.2.2.2 (x_commandCount_12 + 1))) E hK in_X3_parse_X3 tyX3 tyX3_ok nmX3 hW 5 lk_X3_parse_33 0 rfl rfl (by decide) rfl rfl rfl rfl rfl (Nat.le_of_ble_eq_true rfl) dX3_parse_38 rfl (fun H locs hW => ?_)
        refine lv_aload_n E.1 E.2.1 dX3_parse_41 rfl (lv_at hl 0 rfl) ?_
        refine wGet (v := .int r20.2.1) E hK in_X3_parse_X3 hW 2 lk_X3_parse_19 0 rfl rfl (by decide) rfl rfl dX3_parse_42 ?_
        refine lv_aload_n E.1 E.2.1 dX3_parse_45 rfl (lv_at hl 0 rfl) ?_
        refine wGet (v := .int x_length) E hK in_X3_parse_X3 hW 1 lk_X3_parse_15 0 rfl rfl (by decide) rfl rfl dX3_parse_46 ?_
        refine lv_icmp_lt (tgt := 54) E.1 E.2.1 dX3_parse_49 (by decide) (fun c49 => ?_) (fun c49 => ?_)
        · have h := it c49 h
          refine lv_aload_n E.1 E.2.1 dX3_parse_54 rfl (lv_at hl 0 rfl) ?_
          refine lv_bipush (v := 59) E.1 E.2.1 dX3_parse_55 (by decide) ?_
          obtain ⟨r57, hc, h⟩ := bx h
          refine goI (world' := (w_X3 g z h0 h1 h2 h3 h4 x_signs x_length r57.2 r20.2.2.1 r20.2.2.2 (x_commandCount_12 + 1))) hW hA (is := [0, 1, 2, 3, 4, 5, 6, 7, 8, 9, 10, 11, 12, 13, 14, 15, 16, 17, 18]) rfl (goV (rest := []) E hK hW [0, 1, 2, 3, 4, 5, 6, 7, 8, 9, 10, 11, 12, 13, 14, 15, 16, 17, 18] rfl rfl (c_X3_readSign l g h0 h1 h2 h3 h4 x_signs x_length r20.2.1 r20.2.2.1 r20.2.2.2 (x_commandCount_12 + 1) 59 (hf := hc) H.size) (cwV 1 hts gX3_parse_X3_readSign rfl rfl rfl (by decide +kernel) ⟨Nat.le_of_ble_eq_true rfl, Nat.le_of_ble_eq_true rfl⟩) 0 rfl rfl rfl hl.1 rfl rfl (Nat.le_of_ble_eq_true rfl) dX3_parse_57 ⟨Nat.zero_le _, Nat.zero_le _⟩) rfl rfl (fun H locs hW => ?_)
          refine lv_if_ne (tgt := 68) E.1 E.2.1 dX3_parse_60 (by decide) (fun c60 => ?_) (fun c60 => ?_)
          · have h := ie c60 h
            refine lv_iinc (v := (l1_12 + 1)) (lv' := [(1, .int (l1_12 + 1)), (0, .ref h0)]) E.1 E.2.1 dX3_parse_68 hl (k := 1) rfl rfl (by decide) rfl (fun ls hl => ?_)
            refine lv_goto (tgt := 12) E.1 E.2.1 dX3_parse_71 (by decide) ?_
            exact ih (l1_12 + 1) r57.2 r20.2.2.1 r20.2.2.2 (x_commandCount_12 + 1) H locs ls h hW (lv_sub hl [1, 0] rfl)
          · have h := it c60 h
            exact hz63 r57.2 r20.2.2.1 r20.2.2.2 (x_commandCount_12 + 1) H locs ls h hW (lv_sub hl [0] rfl)
        · have h := ie c49 h
          exact hz52 r20.2.1 r20.2.2.1 r20.2.2.2 (x_commandCount_12 + 1) H locs ls h hW (lv_sub hl [] rfl)
      · have h := it c23 h
        exact hz26 r20.2.1 r20.2.2.1 r20.2.2.2 x_commandCount_12 H locs ls h hW (lv_sub hl [0] rfl)
set_option maxHeartbeats 4000000 in
set_option maxRecDepth 100000 in
theorem k_X3_parse_0 {p : Program} {l : Launch} {e : Env} {s : State} {m : MethodId} {args : Array Value} {below : List Frame} {meth : Method} {c : Code} {g : GE} {A : Nat → Prop} {z : ZE} {h0 h1 h2 h3 : Nat} {h4 : Nat → Nat} {x_signs : Nat → Int32} {x_length : Int32} {x_position : Int32} {x_kinds : Nat → Option Nat} {x_values : Nat → Nat → Int32} {x_commandCount : Int32} {res : Int32 × Int32 × (Nat → Option Nat) × (Nat → Nat → Int32) × Int32} {H : Heap} {locs : List Loc} {ls : Array Slot} 
    (E : En cX3_parse RX3 wsX3_parse 2 (some .int) p s m args meth c) (hK : KK g s) (hz : KS z s) (hC : CS z A s s.heap) (hA : ∀ q, s.heap.size ≤ q → A q) (h : f_X3_parse x_signs x_length x_position x_kinds x_values x_commandCount = some res) (hW : Wo g A s H locs (w_X3 g z h0 h1 h2 h3 h4 x_signs x_length x_position x_kinds x_values x_commandCount)) (hl : lv_has ls 2 [(0, .ref h0)]) : G_X3_parse p l e s m args below meth c g A z h0 h1 h2 h3 h4 x_signs x_length res H locs 0 ls [] := by
  have hts := E.2.2.2.1
  unfold f_X3_parse at h
  refine lv_aload_n E.1 E.2.1 dX3_parse_0 rfl (lv_at hl 0 rfl) ?_
  refine lv_iconst (v := 0) E.1 E.2.1 dX3_parse_1 (by decide) ?_
  refine wPut (world' := (w_X3 g z h0 h1 h2 h3 h4 x_signs x_length 0 x_kinds x_values x_commandCount)) E hK in_X3_parse_X3 tyX3 tyX3_ok nmX3 hW 2 lk_X3_parse_19 0 rfl rfl (by decide) rfl rfl rfl rfl rfl (Nat.le_of_ble_eq_true rfl) dX3_parse_2 rfl (fun H locs hW => ?_)
  refine lv_aload_n E.1 E.2.1 dX3_parse_5 rfl (lv_at hl 0 rfl) ?_
  refine lv_iconst (v := 0) E.1 E.2.1 dX3_parse_6 (by decide) ?_
  refine wPut (world' := (w_X3 g z h0 h1 h2 h3 h4 x_signs x_length 0 x_kinds x_values 0)) E hK in_X3_parse_X3 tyX3 tyX3_ok nmX3 hW 5 lk_X3_parse_33 0 rfl rfl (by decide) rfl rfl rfl rfl rfl (Nat.le_of_ble_eq_true rfl) dX3_parse_7 rfl (fun H locs hW => ?_)
  refine lv_iconst (v := 0) E.1 E.2.1 dX3_parse_10 (by decide) ?_
  refine lv_istore_n (lv' := [(1, .int 0), (0, .ref h0)]) E.1 E.2.1 dX3_parse_11 rfl hl (by decide) rfl (fun ls hl => ?_)
  refine k_X3_parse_12 E hK hz hC hA ?_ ?_ ?_ ?_ 1000 0 0 x_kinds x_values 0 H locs ls h hW (lv_sub hl [1, 0] rfl)
  · intro x_position_74e x_kinds_74e x_values_74e x_commandCount_74e H locs ls h hW hl
    refine lv_aload_n E.1 E.2.1 dX3_parse_74 rfl (lv_at hl 0 rfl) ?_
    refine wGet (v := .int x_position_74e) E hK in_X3_parse_X3 hW 2 lk_X3_parse_19 0 rfl rfl (by decide) rfl rfl dX3_parse_75 ?_
    obtain rfl := Option.some.inj h
    exact endI E rfl hW dX3_parse_78
  · intro x_position_26e x_kinds_26e x_values_26e x_commandCount_26e H locs ls h hW hl
    refine lv_aload_n E.1 E.2.1 dX3_parse_26 rfl (lv_at hl 0 rfl) ?_
    refine wGet (v := .int x_position_26e) E hK in_X3_parse_X3 hW 2 lk_X3_parse_19 0 rfl rfl (by decide) rfl rfl dX3_parse_27 ?_
    obtain rfl := Option.some.inj h
    exact endI E rfl hW dX3_parse_30
  · intro x_position_52e x_kinds_52e x_values_52e x_commandCount_52e H locs ls h hW hl
    refine lv_iconst (v := (-1)) E.1 E.2.1 dX3_parse_52 (by decide) ?_
    obtain rfl := Option.some.inj h
    exact endI E rfl hW dX3_parse_53
  · intro x_position_63e x_kinds_63e x_values_63e x_commandCount_63e H locs ls h hW hl
    refine lv_aload_n E.1 E.2.1 dX3_parse_63 rfl (lv_at hl 0 rfl) ?_
    refine wGet (v := .int x_position_63e) E hK in_X3_parse_X3 hW 2 lk_X3_parse_19 0 rfl rfl (by decide) rfl rfl dX3_parse_64 ?_
    obtain rfl := Option.some.inj h
    exact endI E rfl hW dX3_parse_67
theorem c_X3_parse (l : Launch) (g : GE) (z : ZE) (h0 h1 h2 h3 : Nat) (h4 : Nat → Nat) (x_signs : Nat → Int32) (x_length : Int32) (x_position : Int32) (x_kinds : Nat → Option Nat) (x_values : Nat → Nat → Int32) (x_commandCount : Int32) {res : Int32 × Int32 × (Nat → Option Nat) × (Nat → Nat → Int32) × Int32} (hf : f_X3_parse x_signs x_length x_position x_kinds x_values x_commandCount = some res) : XI l yX3_parse wsX3_parse rm_X3_parse g z [.ref h0] (w_X3 g z h0 h1 h2 h3 h4 x_signs x_length x_position x_kinds x_values x_commandCount) (w_X3 g z h0 h1 h2 h3 h4 x_signs x_length res.2.1 res.2.2.1 res.2.2.2.1 res.2.2.2.2) res.1 :=
  mkXI (cc := cX3_parse) (maxL := 2) (by decide) rfl (Nat.le_of_ble_eq_true rfl) (fun p e s m args below meth c A H locs ls E hK hz hC hA hW hl => k_X3_parse_0 E hK hz hC hA hf hW hl)

/-! PaperStorm$Line.putAll(Ljava/lang/String;)V X8_putAll -/
abbrev rm_X8_putAll : Room := { frames := 4, cells := 0, slots := 0, locals := 85 }
noncomputable def f_X8_putAll_2 (b1 : List Int32) (z25 : (Nat → Int32) → Int32 → Option ((Nat → Int32) × Int32)) : Nat → Int32 → (Nat → Int32) → Int32 → Option ((Nat → Int32) × Int32)
  | 0, _, _, _ => none
  | n + 1, l2_2, x_signs_2, x_length_2 => if (nI (b1 : List Int32).length) ≤ l2_2 then z25 x_signs_2 x_length_2 else if l2_2 < 0 ∨ (b1 : List Int32).length ≤ l2_2.toNatClampNeg then none else (f_X8_put x_signs_2 x_length_2 (chAt (b1 : List Int32) l2_2)).bind fun r16 => f_X8_putAll_2 b1 z25 n (l2_2 + 1) r16.1 r16.2
noncomputable def f_X8_putAll (x_signs : Nat → Int32) (x_length : Int32) (b1 : List Int32) : Option ((Nat → Int32) × Int32) :=
  f_X8_putAll_2 b1 (fun x_signs_25e x_length_25e => some (x_signs_25e, x_length_25e)) 1000 0 x_signs x_length
abbrev G_X8_putAll (p : Program) (l : Launch) (e : Env) (s : State) (m : MethodId) (args : Array Value) (below : List Frame) (meth : Method) (c : Code) (g : GE) (A : Nat → Prop) (z : ZE) (h0 h1 : Nat) (res : (Nat → Int32) × Int32) (H : Heap) (locs : List Loc) (pc : Nat) (ls : Array Slot) (st : List Value) : Prop := W p l e (headSpec wsX8_putAll rm_X8_putAll).room s m args below meth c H locs 0 0 (MQ below (PoV g A (w_X8 g h0 h1 res.1 res.2)) args s 0 0 A) (F0 m pc ls st)
set_option maxHeartbeats 4000000 in
set_option maxRecDepth 100000 in
theorem k_X8_putAll_2 {p : Program} {l : Launch} {e : Env} {s : State} {m : MethodId} {args : Array Value} {below : List Frame} {meth : Method} {c : Code} {g : GE} {A : Nat → Prop} {z : ZE} {o1 : String} {k1 : Nat} {h0 h1 : Nat} {res : (Nat → Int32) × Int32} {b1 : List Int32} {z25 : (Nat → Int32) → Int32 → Option ((Nat → Int32) × Int32)}
    (E : En cX8_putAll RX8 wsX8_putAll 3 none p s m args meth c) (hK : KK g s) (hz : KS z s) (hC : CS z A s s.heap) (hx1 : ((o1, k1, b1) : String × Nat × List Int32) ∈ strT) (hA : ∀ q, s.heap.size ≤ q → A q)
    (hz25 : ∀ (x_signs_25e : Nat → Int32) (x_length_25e : Int32) (H : Heap) (locs : List Loc) (ls : Array Slot), z25 x_signs_25e x_length_25e = some res → Wo g A s H locs (w_X8 g h0 h1 x_signs_25e x_length_25e) → lv_has ls 3 [] → G_X8_putAll p l e s m args below meth c g A z h0 h1 res H locs 25 ls [])
    : ∀ (n : Nat) (l2_2 : Int32) (x_signs_2 : Nat → Int32) (x_length_2 : Int32) (H : Heap) (locs : List Loc) (ls : Array Slot), f_X8_putAll_2 b1 z25 n l2_2 x_signs_2 x_length_2 = some res → Wo g A s H locs (w_X8 g h0 h1 x_signs_2 x_length_2) → lv_has ls 3 [(0, .ref h0), (1, .ref (z.1 o1 k1)), (2, .int l2_2)] → G_X8_putAll p l e s m args below meth c g A z h0 h1 res H locs 2 ls [] := by
  have hts := E.2.2.2.1
  intro n
  induction n with
  | zero => intro l2_2 x_signs_2 x_length_2 H locs ls h hW hl; rw [f_X8_putAll_2] at h; cases h
  | succ n ih =>
    intro l2_2 x_signs_2 x_length_2 H locs ls h hW hl
    rw [f_X8_putAll_2] at h
    refine lv_iload_n E.1 E.2.1 dX8_putAll_2 rfl (lv_at hl 2 rfl) ?_
    refine lv_aload_n E.1 E.2.1 dX8_putAll_3 rfl (lv_at hl 1 rfl) ?_
    refine wLen (o1, k1, b1) hx1 E hC hW (cwV 0 hts gX8_putAll_J0_length_8abf5 rfl rfl rfl (by decide +kernel) ⟨Nat.le_of_ble_eq_true rfl, Nat.le_of_ble_eq_true rfl⟩) hl.1 (Nat.le_of_ble_eq_true rfl) dX8_putAll_4 ⟨Nat.zero_le _, Nat.zero_le _⟩ (fun H locs hW => ?_)
    refine lv_icmp_ge (tgt := 25) E.1 E.2.1 dX8_putAll_7 (by decide) (fun c7 => ?_) (fun c7 => ?_)
    · have h := it c7 h
      exact hz25 x_signs_2 x_length_2 H locs ls h hW (lv_sub hl [] rfl)
    · have h := ie c7 h
      refine lv_aload_n E.1 E.2.1 dX8_putAll_10 rfl (lv_at hl 0 rfl) ?_
      refine lv_aload_n E.1 E.2.1 dX8_putAll_11 rfl (lv_at hl 1 rfl) ?_
      refine lv_iload_n E.1 E.2.1 dX8_putAll_12 rfl (lv_at hl 2 rfl) ?_
      obtain ⟨hi13, h⟩ := ox h
      refine wChr (o1, k1, b1) hx1 hi13 E hC hW (cwV 1 hts gX8_putAll_J0_charAt_5068e rfl rfl rfl (by decide +kernel) ⟨Nat.le_of_ble_eq_true rfl, Nat.le_of_ble_eq_true rfl⟩) hl.1 (Nat.le_of_ble_eq_true rfl) dX8_putAll_13 ⟨Nat.zero_le _, Nat.zero_le _⟩ (fun H locs hW => ?_)
      obtain ⟨r16, hc, h⟩ := bx h
      refine goU (world' := (w_X8 g h0 h1 r16.1 r16.2)) hW hA (is := [0, 1]) rfl (goV (rest := []) E hK hW [0, 1] rfl rfl (c_X8_put l g h0 h1 x_signs_2 x_length_2 (chAt (b1 : List Int32) l2_2) (hf := hc) H.size) (cwV 1 hts gX8_putAll_X8_put rfl rfl rfl (by decide +kernel) ⟨Nat.le_of_ble_eq_true rfl, Nat.le_of_ble_eq_true rfl⟩) 0 rfl rfl rfl hl.1 rfl rfl (Nat.le_of_ble_eq_true rfl) dX8_putAll_16 ⟨Nat.zero_le _, Nat.zero_le _⟩) rfl rfl (fun H locs hW => ?_)
      refine lv_iinc (v := (l2_2 + 1)) (lv' := [(2, .int (l2_2 + 1)), (0, .ref h0), (1, .ref (z.1 o1 k1))]) E.1 E.2.1 dX8_putAll_19 hl (k := 2) rfl rfl (by decide) rfl (fun ls hl => ?_)
      refine lv_goto (tgt := 2) E.1 E.2.1 dX8_putAll_22 (by decide) ?_
      exact ih (l2_2 + 1) r16.1 r16.2 H locs ls h hW (lv_sub hl [1, 2, 0] rfl)
set_option maxHeartbeats 4000000 in
set_option maxRecDepth 100000 in
theorem k_X8_putAll_0 {p : Program} {l : Launch} {e : Env} {s : State} {m : MethodId} {args : Array Value} {below : List Frame} {meth : Method} {c : Code} {g : GE} {A : Nat → Prop} {z : ZE} {o1 : String} {k1 : Nat} {h0 h1 : Nat} {x_signs : Nat → Int32} {x_length : Int32} {res : (Nat → Int32) × Int32} {H : Heap} {locs : List Loc} {ls : Array Slot} {b1 : List Int32}
    (E : En cX8_putAll RX8 wsX8_putAll 3 none p s m args meth c) (hK : KK g s) (hz : KS z s) (hC : CS z A s s.heap) (hx1 : ((o1, k1, b1) : String × Nat × List Int32) ∈ strT) (hA : ∀ q, s.heap.size ≤ q → A q) (h : f_X8_putAll x_signs x_length b1 = some res) (hW : Wo g A s H locs (w_X8 g h0 h1 x_signs x_length)) (hl : lv_has ls 3 [(0, .ref h0), (1, .ref (z.1 o1 k1))]) : G_X8_putAll p l e s m args below meth c g A z h0 h1 res H locs 0 ls [] := by
  have hts := E.2.2.2.1
  unfold f_X8_putAll at h
  refine lv_iconst (v := 0) E.1 E.2.1 dX8_putAll_0 (by decide) ?_
  refine lv_istore_n (lv' := [(2, .int 0), (0, .ref h0), (1, .ref (z.1 o1 k1))]) E.1 E.2.1 dX8_putAll_1 rfl hl (by decide) rfl (fun ls hl => ?_)
  refine k_X8_putAll_2 E hK hz hC hx1 hA ?_ 1000 0 x_signs x_length H locs ls h hW (lv_sub hl [1, 2, 0] rfl)
  · intro x_signs_25e x_length_25e H locs ls h hW hl
    obtain rfl := Option.some.inj h
    exact endV E hW dX8_putAll_25
theorem c_X8_putAll (l : Launch) (g : GE) (z : ZE) (o1 : String) (k1 : Nat) (h0 h1 : Nat) (x_signs : Nat → Int32) (x_length : Int32) (b1 : List Int32) (hx1 : ((o1, k1, b1) : String × Nat × List Int32) ∈ strT) {res : (Nat → Int32) × Int32} (hf : f_X8_putAll x_signs x_length b1 = some res) : XV l yX8_putAll wsX8_putAll rm_X8_putAll g z [.ref h0, .ref (z.1 o1 k1)] (w_X8 g h0 h1 x_signs x_length) (w_X8 g h0 h1 res.1 res.2) :=
  mkXV (cc := cX8_putAll) (maxL := 3) (by decide) rfl (Nat.le_of_ble_eq_true rfl) (fun p e s m args below meth c A H locs ls E hK hz hC hA hW hl => k_X8_putAll_0 E hK hz hC hx1 hA hf hW hl)

