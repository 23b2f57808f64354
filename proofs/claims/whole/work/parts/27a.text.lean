/-! PaperStorm$CommandText.hasRoom()Z X3_hasRoom -/
abbrev rm_X3_hasRoom : Room := { frames := 0, cells := 0, slots := 0, locals := 0 }
theorem in_X3_hasRoom_X3 : ∀ w ∈ wsX30, w ∈ wsX3_hasRoom := by decide +kernel
theorem lk_X3_hasRoom_15 : Cond.fieldLink RX3 15 "PaperStorm$CommandText" "length" "I" ∈ wsX3_hasRoom := by decide +kernel
noncomputable def f_X3_hasRoom (x_length : Int32) : Option (Int32) :=
  jo (fun (s0_21 : Int32) => if ¬ vp_nar .boolean s0_21 = s0_21 then none else some (s0_21)) (fun j21 => jo (j21 0) (fun j20 => if x_length < 0 then j20 else if 60 ≤ x_length then j20 else j21 1))
abbrev G_X3_hasRoom (p : Program) (l : Launch) (e : Env) (s : State) (m : MethodId) (args : Array Value) (below : List Frame) (meth : Method) (c : Code) (g : GE) (A : Nat → Prop) (z : ZE) (h0 h1 h2 h3 : Nat) (h4 : Nat → Nat) (x_signs : Nat → Int32) (x_length : Int32) (x_position : Int32) (x_kinds : Nat → Option Nat) (x_values : Nat → Nat → Int32) (x_commandCount : Int32) (res : Int32) (H : Heap) (locs : List Loc) (pc : Nat) (ls : Array Slot) (st : List Value) : Prop := W p l e (headSpec wsX3_hasRoom rm_X3_hasRoom).room s m args below meth c H locs 0 0 (MQ below (PoI g A (w_X3 g z h0 h1 h2 h3 h4 x_signs x_length x_position x_kinds x_values x_commandCount) res) args s 0 0 A) (F0 m pc ls st)
set_option maxHeartbeats 4000000 in
set_option maxRecDepth 100000 in
theorem k_X3_hasRoom_0 {p : Program} {l : Launch} {e : Env} {s : State} {m : MethodId} {args : Array Value} {below : List Frame} {meth : Method} {c : Code} {g : GE} {A : Nat → Prop} {z : ZE} {h0 h1 h2 h3 : Nat} {h4 : Nat → Nat} {x_signs : Nat → Int32} {x_length : Int32} {x_position : Int32} {x_kinds : Nat → Option Nat} {x_values : Nat → Nat → Int32} {x_commandCount : Int32} {res : Int32} {H : Heap} {locs : List Loc} {ls : Array Slot} 
    (E : En cX3_hasRoom RX3 wsX3_hasRoom 1 (some .boolean) p s m args meth c) (hK : KK g s) (hz : KS z s) (hC : CS z A s s.heap) (hA : ∀ q, s.heap.size ≤ q → A q) (h : f_X3_hasRoom x_length = some res) (hW : Wo g A s H locs (w_X3 g z h0 h1 h2 h3 h4 x_signs x_length x_position x_kinds x_values x_commandCount)) (hl : lv_has ls 1 [(0, .ref h0)]) : G_X3_hasRoom p l e s m args below meth c g A z h0 h1 h2 h3 h4 x_signs x_length x_position x_kinds x_values x_commandCount res H locs 0 ls [] := by
  have hts := E.2.2.2.1
  unfold f_X3_hasRoom at h
  obtain ⟨j21, hj21, h⟩ := jox1 h
  have J21 : ∀ (s0_21 : Int32) (H : Heap) (locs : List Loc) (ls : Array Slot), j21 s0_21 = some res → Wo g A s H locs (w_X3 g z h0 h1 h2 h3 h4 x_signs x_length x_position x_kinds x_values x_commandCount) → lv_has ls 1 [] → G_X3_hasRoom p l e s m args below meth c g A z h0 h1 h2 h3 h4 x_signs x_length x_position x_kinds x_values x_commandCount res H locs 21 ls [.int s0_21] := by
    intro s0_21 H locs ls h hW hl
    rw [hj21] at h
    obtain ⟨hz, h⟩ := ox h
    obtain rfl := Option.some.inj h
    exact endI E (nar_z (Decidable.not_not.mp hz)) hW dX3_hasRoom_21
  obtain ⟨j20, hj20, h⟩ := jox0 h
  have J20 : ∀ (H : Heap) (locs : List Loc) (ls : Array Slot), j20 = some res → Wo g A s H locs (w_X3 g z h0 h1 h2 h3 h4 x_signs x_length x_position x_kinds x_values x_commandCount) → lv_has ls 1 [] → G_X3_hasRoom p l e s m args below meth c g A z h0 h1 h2 h3 h4 x_signs x_length x_position x_kinds x_values x_commandCount res H locs 20 ls [] := by
    intro H locs ls h hW hl
    rw [hj20] at h
    refine lv_iconst (v := 0) E.1 E.2.1 dX3_hasRoom_20 (by decide) ?_
    exact J21 0 H locs ls h hW (lv_sub hl [] rfl)
  refine lv_aload_n E.1 E.2.1 dX3_hasRoom_0 rfl (lv_at hl 0 rfl) ?_
  refine wGet (v := .int x_length) E hK in_X3_hasRoom_X3 hW 1 lk_X3_hasRoom_15 0 rfl rfl (by decide) rfl rfl dX3_hasRoom_1 ?_
  refine lv_if_lt (tgt := 20) E.1 E.2.1 dX3_hasRoom_4 (by decide) (fun c4 => ?_) (fun c4 => ?_)
  · have h := it c4 h
    exact J20  H locs ls h hW (lv_sub hl [] rfl)
  · have h := ie c4 h
    refine lv_aload_n E.1 E.2.1 dX3_hasRoom_7 rfl (lv_at hl 0 rfl) ?_
    refine wGet (v := .int x_length) E hK in_X3_hasRoom_X3 hW 1 lk_X3_hasRoom_15 0 rfl rfl (by decide) rfl rfl dX3_hasRoom_8 ?_
    refine lv_bipush (v := 60) E.1 E.2.1 dX3_hasRoom_11 (by decide) ?_
    refine lv_icmp_ge (tgt := 20) E.1 E.2.1 dX3_hasRoom_13 (by decide) (fun c13 => ?_) (fun c13 => ?_)
    · have h := it c13 h
      exact J20  H locs ls h hW (lv_sub hl [] rfl)
    · have h := ie c13 h
      refine lv_iconst (v := 1) E.1 E.2.1 dX3_hasRoom_16 (by decide) ?_
      refine lv_goto (tgt := 21) E.1 E.2.1 dX3_hasRoom_17 (by decide) ?_
      exact J21 1 H locs ls h hW (lv_sub hl [] rfl)
theorem c_X3_hasRoom (l : Launch) (g : GE) (z : ZE) (h0 h1 h2 h3 : Nat) (h4 : Nat → Nat) (x_signs : Nat → Int32) (x_length : Int32) (x_position : Int32) (x_kinds : Nat → Option Nat) (x_values : Nat → Nat → Int32) (x_commandCount : Int32) {res : Int32} (hf : f_X3_hasRoom x_length = some res) : XI l yX3_hasRoom wsX3_hasRoom rm_X3_hasRoom g z [.ref h0] (w_X3 g z h0 h1 h2 h3 h4 x_signs x_length x_position x_kinds x_values x_commandCount) (w_X3 g z h0 h1 h2 h3 h4 x_signs x_length x_position x_kinds x_values x_commandCount) res :=
  mkXI (cc := cX3_hasRoom) (maxL := 1) (by decide) rfl (Nat.le_of_ble_eq_true rfl) (fun p e s m args below meth c A H locs ls E hK hz hC hA hW hl => k_X3_hasRoom_0 E hK hz hC hA hf hW hl)

/-! PaperStorm$CommandText.append(C)V X3_append -/
abbrev rm_X3_append : Room := { frames := 1, cells := 0, slots := 0, locals := 20 }
theorem in_X3_append_X3 : ∀ w ∈ wsX30, w ∈ wsX3_append := by decide +kernel
theorem lk_X3_append_15 : Cond.fieldLink RX3 15 "PaperStorm$CommandText" "length" "I" ∈ wsX3_append := by decide +kernel
theorem lk_X3_append_9 : Cond.fieldLink RX3 9 "PaperStorm$CommandText" "signs" "[C" ∈ wsX3_append := by decide +kernel
noncomputable def f_X3_append (x_signs : Nat → Int32) (x_length : Int32) (a1 : Int32) : Option ((Nat → Int32) × Int32) :=
  jo (fun (x_signs_27 : Nat → Int32) (x_length_27 : Int32) => some (x_signs_27, x_length_27)) (fun j27 => (f_X3_hasRoom x_length).bind fun r1 => if r1 = 0 then j27 x_signs x_length else if x_length < 0 ∨ 60 ≤ x_length.toNatClampNeg then none else j27 (upd x_signs x_length.toNatClampNeg (vp_nar .char a1)) (x_length + 1))
abbrev G_X3_append (p : Program) (l : Launch) (e : Env) (s : State) (m : MethodId) (args : Array Value) (below : List Frame) (meth : Method) (c : Code) (g : GE) (A : Nat → Prop) (z : ZE) (h0 h1 h2 h3 : Nat) (h4 : Nat → Nat) (x_position : Int32) (x_kinds : Nat → Option Nat) (x_values : Nat → Nat → Int32) (x_commandCount : Int32) (res : (Nat → Int32) × Int32) (H : Heap) (locs : List Loc) (pc : Nat) (ls : Array Slot) (st : List Value) : Prop := W p l e (headSpec wsX3_append rm_X3_append).room s m args below meth c H locs 0 0 (MQ below (PoV g A (w_X3 g z h0 h1 h2 h3 h4 res.1 res.2 x_position x_kinds x_values x_commandCount)) args s 0 0 A) (F0 m pc ls st)
set_option maxHeartbeats 4000000 in
set_option maxRecDepth 100000 in
theorem k_X3_append_0 {p : Program} {l : Launch} {e : Env} {s : State} {m : MethodId} {args : Array Value} {below : List Frame} {meth : Method} {c : Code} {g : GE} {A : Nat → Prop} {z : ZE} {h0 h1 h2 h3 : Nat} {h4 : Nat → Nat} {x_signs : Nat → Int32} {x_length : Int32} {x_position : Int32} {x_kinds : Nat → Option Nat} {x_values : Nat → Nat → Int32} {x_commandCount : Int32} {res : (Nat → Int32) × Int32} {H : Heap} {locs : List Loc} {ls : Array Slot} {a1 : Int32}
    (E : En cX3_append RX3 wsX3_append 2 none p s m args meth c) (hK : KK g s) (hz : KS z s) (hC : CS z A s s.heap) (hA : ∀ q, s.heap.size ≤ q → A q) (h : f_X3_append x_signs x_length a1 = some res) (hW : Wo g A s H locs (w_X3 g z h0 h1 h2 h3 h4 x_signs x_length x_position x_kinds x_values x_commandCount)) (hl : lv_has ls 2 [(0, .ref h0), (1, .int a1)]) : G_X3_append p l e s m args below meth c g A z h0 h1 h2 h3 h4 x_position x_kinds x_values x_commandCount res H locs 0 ls [] := by
  have hts := E.2.2.2.1
  unfold f_X3_append at h
  obtain ⟨j27, hj27, h⟩ := jox2 h
  have J27 : ∀ (x_signs_27 : Nat → Int32) (x_length_27 : Int32) (H : Heap) (locs : List Loc) (ls : Array Slot), j27 x_signs_27 x_length_27 = some res → Wo g A s H locs (w_X3 g z h0 h1 h2 h3 h4 x_signs_27 x_length_27 x_position x_kinds x_values x_commandCount) → lv_has ls 2 [] → G_X3_append p l e s m args below meth c g A z h0 h1 h2 h3 h4 x_position x_kinds x_values x_commandCount res H locs 27 ls [] := by
    intro x_signs_27 x_length_27 H locs ls h hW hl
    rw [hj27] at h
    obtain rfl := Option.some.inj h
    exact endV E hW dX3_append_27
  refine lv_aload_n E.1 E.2.1 dX3_append_0 rfl (lv_at hl 0 rfl) ?_
  obtain ⟨r1, hc, h⟩ := bx h
  refine goI (world' := (w_X3 g z h0 h1 h2 h3 h4 x_signs x_length x_position x_kinds x_values x_commandCount)) hW hA (is := (rgB 0 19)) (getB rfl rfl) (goVX (rest := []) E hK hz hC hA hW (rgB 0 19) (getB rfl rfl) (by decide +kernel) (c_X3_hasRoom l g z h0 h1 h2 h3 h4 x_signs x_length x_position x_kinds x_values x_commandCount (hf := hc) H.size) (cwV 0 hts gX3_append_X3_hasRoom rfl rfl rfl (by decide +kernel) ⟨Nat.le_of_ble_eq_true rfl, Nat.le_of_ble_eq_true rfl⟩) 0 rfl rfl rfl hl.1 rfl rfl (Nat.le_of_ble_eq_true rfl) dX3_append_1 ⟨Nat.zero_le _, Nat.zero_le _⟩) rfl (putB rfl rfl rfl (Nat.le_of_ble_eq_true rfl) rfl) (fun H locs hW => ?_)
  refine lv_if_eq (tgt := 27) E.1 E.2.1 dX3_append_4 (by decide) (fun c4 => ?_) (fun c4 => ?_)
  · have h := it c4 h
    exact J27 x_signs x_length H locs ls h hW (lv_sub hl [] rfl)
  · have h := ie c4 h
    refine lv_aload_n E.1 E.2.1 dX3_append_7 rfl (lv_at hl 0 rfl) ?_
    refine wGet (v := .ref h1) E hK in_X3_append_X3 hW 0 lk_X3_append_9 0 rfl rfl (by decide) rfl rfl dX3_append_8 ?_
    refine lv_aload_n E.1 E.2.1 dX3_append_11 rfl (lv_at hl 0 rfl) ?_
    refine wGet (v := .int x_length) E hK in_X3_append_X3 hW 1 lk_X3_append_15 0 rfl rfl (by decide) rfl rfl dX3_append_12 ?_
    refine lv_iload_n E.1 E.2.1 dX3_append_15 rfl (lv_at hl 1 rfl) ?_
    obtain ⟨hi16, h⟩ := ox h
    refine wCast (world' := (w_X3 g z h0 h1 h2 h3 h4 (upd x_signs x_length.toNatClampNeg (vp_nar .char a1)) x_length x_position x_kinds x_values x_commandCount)) E hK hW 1 rfl hi16 dX3_append_16 rfl (fun H locs hW => ?_)
    refine lv_aload_n E.1 E.2.1 dX3_append_17 rfl (lv_at hl 0 rfl) ?_
    refine lv_dup E.1 E.2.1 dX3_append_18 rfl ?_
    refine wGet (v := .int x_length) E hK in_X3_append_X3 hW 1 lk_X3_append_15 0 rfl rfl (by decide) rfl rfl dX3_append_19 ?_
    refine lv_iconst (v := 1) E.1 E.2.1 dX3_append_22 (by decide) ?_
    refine lv_iadd E.1 E.2.1 dX3_append_23 ?_
    refine wPut (world' := (w_X3 g z h0 h1 h2 h3 h4 (upd x_signs x_length.toNatClampNeg (vp_nar .char a1)) (x_length + 1) x_position x_kinds x_values x_commandCount)) E hK in_X3_append_X3 tyX3 tyX3_ok nmX3 hW 1 lk_X3_append_15 0 rfl rfl (by decide) rfl rfl rfl rfl rfl (Nat.le_of_ble_eq_true rfl) dX3_append_24 rfl (fun H locs hW => ?_)
    exact J27 (upd x_signs x_length.toNatClampNeg (vp_nar .char a1)) (x_length + 1) H locs ls h hW (lv_sub hl [] rfl)
theorem c_X3_append (l : Launch) (g : GE) (z : ZE) (h0 h1 h2 h3 : Nat) (h4 : Nat → Nat) (x_signs : Nat → Int32) (x_length : Int32) (x_position : Int32) (x_kinds : Nat → Option Nat) (x_values : Nat → Nat → Int32) (x_commandCount : Int32) (a1 : Int32) {res : (Nat → Int32) × Int32} (hf : f_X3_append x_signs x_length a1 = some res) : XV l yX3_append wsX3_append rm_X3_append g z [.ref h0, .int a1] (w_X3 g z h0 h1 h2 h3 h4 x_signs x_length x_position x_kinds x_values x_commandCount) (w_X3 g z h0 h1 h2 h3 h4 res.1 res.2 x_position x_kinds x_values x_commandCount) :=
  mkXV (cc := cX3_append) (maxL := 2) (by decide) rfl (Nat.le_of_ble_eq_true rfl) (fun p e s m args below meth c A H locs ls E hK hz hC hA hW hl => k_X3_append_0 E hK hz hC hA hf hW hl)

/-! PaperStorm$CommandText.clear()V X3_clear -/
abbrev rm_X3_clear : Room := { frames := 0, cells := 0, slots := 0, locals := 0 }
theorem in_X3_clear_X3 : ∀ w ∈ wsX30, w ∈ wsX3_clear := by decide +kernel
theorem lk_X3_clear_15 : Cond.fieldLink RX3 15 "PaperStorm$CommandText" "length" "I" ∈ wsX3_clear := by decide +kernel
noncomputable def f_X3_clear (x_length : Int32) : Option (Int32) :=
  some (0)
abbrev G_X3_clear (p : Program) (l : Launch) (e : Env) (s : State) (m : MethodId) (args : Array Value) (below : List Frame) (meth : Method) (c : Code) (g : GE) (A : Nat → Prop) (z : ZE) (h0 h1 h2 h3 : Nat) (h4 : Nat → Nat) (x_signs : Nat → Int32) (x_position : Int32) (x_kinds : Nat → Option Nat) (x_values : Nat → Nat → Int32) (x_commandCount : Int32) (res : Int32) (H : Heap) (locs : List Loc) (pc : Nat) (ls : Array Slot) (st : List Value) : Prop := W p l e (headSpec wsX3_clear rm_X3_clear).room s m args below meth c H locs 0 0 (MQ below (PoV g A (w_X3 g z h0 h1 h2 h3 h4 x_signs res x_position x_kinds x_values x_commandCount)) args s 0 0 A) (F0 m pc ls st)
set_option maxHeartbeats 4000000 in
set_option maxRecDepth 100000 in
theorem k_X3_clear_0 {p : Program} {l : Launch} {e : Env} {s : State} {m : MethodId} {args : Array Value} {below : List Frame} {meth : Method} {c : Code} {g : GE} {A : Nat → Prop} {z : ZE} {h0 h1 h2 h3 : Nat} {h4 : Nat → Nat} {x_signs : Nat → Int32} {x_length : Int32} {x_position : Int32} {x_kinds : Nat → Option Nat} {x_values : Nat → Nat → Int32} {x_commandCount : Int32} {res : Int32} {H : Heap} {locs : List Loc} {ls : Array Slot} 
    (E : En cX3_clear RX3 wsX3_clear 1 none p s m args meth c) (hK : KK g s) (hz : KS z s) (hC : CS z A s s.heap) (hA : ∀ q, s.heap.size ≤ q → A q) (h : f_X3_clear x_length = some res) (hW : Wo g A s H locs (w_X3 g z h0 h1 h2 h3 h4 x_signs x_length x_position x_kinds x_values x_commandCount)) (hl : lv_has ls 1 [(0, .ref h0)]) : G_X3_clear p l e s m args below meth c g A z h0 h1 h2 h3 h4 x_signs x_position x_kinds x_values x_commandCount res H locs 0 ls [] := by
  have hts := E.2.2.2.1
  unfold f_X3_clear at h
  refine lv_aload_n E.1 E.2.1 dX3_clear_0 rfl (lv_at hl 0 rfl) ?_
  refine lv_iconst (v := 0) E.1 E.2.1 dX3_clear_1 (by decide) ?_
  refine wPut (world' := (w_X3 g z h0 h1 h2 h3 h4 x_signs 0 x_position x_kinds x_values x_commandCount)) E hK in_X3_clear_X3 tyX3 tyX3_ok nmX3 hW 1 lk_X3_clear_15 0 rfl rfl (by decide) rfl rfl rfl rfl rfl (Nat.le_of_ble_eq_true rfl) dX3_clear_2 rfl (fun H locs hW => ?_)
  obtain rfl := Option.some.inj h
  exact endV E hW dX3_clear_5
theorem c_X3_clear (l : Launch) (g : GE) (z : ZE) (h0 h1 h2 h3 : Nat) (h4 : Nat → Nat) (x_signs : Nat → Int32) (x_length : Int32) (x_position : Int32) (x_kinds : Nat → Option Nat) (x_values : Nat → Nat → Int32) (x_commandCount : Int32) {res : Int32} (hf : f_X3_clear x_length = some res) : XV l yX3_clear wsX3_clear rm_X3_clear g z [.ref h0] (w_X3 g z h0 h1 h2 h3 h4 x_signs x_length x_position x_kinds x_values x_commandCount) (w_X3 g z h0 h1 h2 h3 h4 x_signs res x_position x_kinds x_values x_commandCount) :=
  mkXV (cc := cX3_clear) (maxL := 1) (by decide) rfl (Nat.le_of_ble_eq_true rfl) (fun p e s m args below meth c A H locs ls E hK hz hC hA hW hl => k_X3_clear_0 E hK hz hC hA hf hW hl)

/-! PaperStorm$CommandText.isPlace(I)Z X3_isPlace -/
abbrev rm_X3_isPlace : Room := { frames := 0, cells := 0, slots := 0, locals := 0 }
noncomputable def f_X3_isPlace (a0 : Int32) : Option (Int32) :=
  jo (fun (s0_15 : Int32) => if ¬ vp_nar .boolean s0_15 = s0_15 then none else some (s0_15)) (fun j15 => jo (j15 0) (fun j14 => if a0 < 0 then j14 else if 15 ≤ a0 then j14 else j15 1))
abbrev G_X3_isPlace (p : Program) (l : Launch) (e : Env) (s : State) (m : MethodId) (args : Array Value) (below : List Frame) (meth : Method) (c : Code) (g : GE) (A : Nat → Prop) (res : Int32) (H : Heap) (locs : List Loc) (pc : Nat) (ls : Array Slot) (st : List Value) : Prop := W p l e (headSpec wsX3_isPlace rm_X3_isPlace).room s m args below meth c H locs 0 0 (MQ below (PoI g A ([] : va_W) res) args s 0 0 A) (F0 m pc ls st)
set_option maxHeartbeats 4000000 in
set_option maxRecDepth 100000 in
theorem k_X3_isPlace_0 {p : Program} {l : Launch} {e : Env} {s : State} {m : MethodId} {args : Array Value} {below : List Frame} {meth : Method} {c : Code} {g : GE} {A : Nat → Prop} {res : Int32} {H : Heap} {locs : List Loc} {ls : Array Slot} {a0 : Int32}
    (E : En cX3_isPlace RX3 wsX3_isPlace 1 (some .boolean) p s m args meth c) (hK : KK g s) (hA : ∀ q, s.heap.size ≤ q → A q) (h : f_X3_isPlace a0 = some res) (hW : Wo g A s H locs ([] : va_W)) (hl : lv_has ls 1 [(0, .int a0)]) : G_X3_isPlace p l e s m args below meth c g A res H locs 0 ls [] := by
  have hts := E.2.2.2.1
  unfold f_X3_isPlace at h
  obtain ⟨j15, hj15, h⟩ := jox1 h
  have J15 : ∀ (s0_15 : Int32) (H : Heap) (locs : List Loc) (ls : Array Slot), j15 s0_15 = some res → Wo g A s H locs ([] : va_W) → lv_has ls 1 [] → G_X3_isPlace p l e s m args below meth c g A res H locs 15 ls [.int s0_15] := by
    intro s0_15 H locs ls h hW hl
    rw [hj15] at h
    obtain ⟨hz, h⟩ := ox h
    obtain rfl := Option.some.inj h
    exact endI E (nar_z (Decidable.not_not.mp hz)) hW dX3_isPlace_15
  obtain ⟨j14, hj14, h⟩ := jox0 h
  have J14 : ∀ (H : Heap) (locs : List Loc) (ls : Array Slot), j14 = some res → Wo g A s H locs ([] : va_W) → lv_has ls 1 [] → G_X3_isPlace p l e s m args below meth c g A res H locs 14 ls [] := by
    intro H locs ls h hW hl
    rw [hj14] at h
    refine lv_iconst (v := 0) E.1 E.2.1 dX3_isPlace_14 (by decide) ?_
    exact J15 0 H locs ls h hW (lv_sub hl [] rfl)
  refine lv_iload_n E.1 E.2.1 dX3_isPlace_0 rfl (lv_at hl 0 rfl) ?_
  refine lv_if_lt (tgt := 14) E.1 E.2.1 dX3_isPlace_1 (by decide) (fun c1 => ?_) (fun c1 => ?_)
  · have h := it c1 h
    exact J14  H locs ls h hW (lv_sub hl [] rfl)
  · have h := ie c1 h
    refine lv_iload_n E.1 E.2.1 dX3_isPlace_4 rfl (lv_at hl 0 rfl) ?_
    refine lv_bipush (v := 15) E.1 E.2.1 dX3_isPlace_5 (by decide) ?_
    refine lv_icmp_ge (tgt := 14) E.1 E.2.1 dX3_isPlace_7 (by decide) (fun c7 => ?_) (fun c7 => ?_)
    · have h := it c7 h
      exact J14  H locs ls h hW (lv_sub hl [] rfl)
    · have h := ie c7 h
      refine lv_iconst (v := 1) E.1 E.2.1 dX3_isPlace_10 (by decide) ?_
      refine lv_goto (tgt := 15) E.1 E.2.1 dX3_isPlace_11 (by decide) ?_
      exact J15 1 H locs ls h hW (lv_sub hl [] rfl)
theorem c_X3_isPlace (l : Launch) (g : GE) (a0 : Int32) {res : Int32} (hf : f_X3_isPlace a0 = some res) : CI l yX3_isPlace wsX3_isPlace rm_X3_isPlace g [.int a0] ([] : va_W) ([] : va_W) res :=
  mkI (cc := cX3_isPlace) (maxL := 1) (by decide) rfl (Nat.le_of_ble_eq_true rfl) (fun p e s m args below meth c A H locs ls E hK hA hW hl => k_X3_isPlace_0 E hK hA hf hW hl)

/-! PaperStorm$CommandText.kindAt(I)LPaperStorm$Kind; X3_kindAt -/
abbrev rm_X3_kindAt : Room := { frames := 1, cells := 0, slots := 0, locals := 20 }
theorem in_X3_kindAt_X3 : ∀ w ∈ wsX30, w ∈ wsX3_kindAt := by decide +kernel
theorem lk_X3_kindAt_24 : Cond.fieldLink RX3 24 "PaperStorm$CommandText" "kinds" "[LPaperStorm$Kind;" ∈ wsX3_kindAt := by decide +kernel
theorem lk_X3_kindAt_36 : Cond.fieldLink RX3 36 "PaperStorm$Kind" "LOOK" "LPaperStorm$Kind;" ∈ wsX3_kindAt := by decide +kernel
noncomputable def f_X3_kindAt (x_kinds : Nat → Option Nat) (a1 : Int32) : Option (Option Nat) :=
  jo (fun (s0_19 : Option Nat) => some (s0_19)) (fun j19 => (f_X3_isPlace a1).bind fun r1 => if r1 = 0 then j19 (some 9) else if a1 < 0 ∨ 15 ≤ a1.toNatClampNeg then none else j19 (x_kinds a1.toNatClampNeg))
abbrev G_X3_kindAt (p : Program) (l : Launch) (e : Env) (s : State) (m : MethodId) (args : Array Value) (below : List Frame) (meth : Method) (c : Code) (g : GE) (A : Nat → Prop) (z : ZE) (h0 h1 h2 h3 : Nat) (h4 : Nat → Nat) (x_signs : Nat → Int32) (x_length : Int32) (x_position : Int32) (x_kinds : Nat → Option Nat) (x_values : Nat → Nat → Int32) (x_commandCount : Int32) (res : Option Nat) (H : Heap) (locs : List Loc) (pc : Nat) (ls : Array Slot) (st : List Value) : Prop := W p l e (headSpec wsX3_kindAt rm_X3_kindAt).room s m args below meth c H locs 0 0 (MQ below (PoE g z A (w_X3 g z h0 h1 h2 h3 h4 x_signs x_length x_position x_kinds x_values x_commandCount) res) args s 0 0 A) (F0 m pc ls st)
set_option maxHeartbeats 4000000 in
set_option maxRecDepth 100000 in
theorem k_X3_kindAt_0 {p : Program} {l : Launch} {e : Env} {s : State} {m : MethodId} {args : Array Value} {below : List Frame} {meth : Method} {c : Code} {g : GE} {A : Nat → Prop} {z : ZE} {h0 h1 h2 h3 : Nat} {h4 : Nat → Nat} {x_signs : Nat → Int32} {x_length : Int32} {x_position : Int32} {x_kinds : Nat → Option Nat} {x_values : Nat → Nat → Int32} {x_commandCount : Int32} {res : Option Nat} {H : Heap} {locs : List Loc} {ls : Array Slot} {a1 : Int32}
    (E : En cX3_kindAt RX3 wsX3_kindAt 2 (some (.object "PaperStorm$Kind")) p s m args meth c) (hK : KK g s) (hz : KS z s) (hC : CS z A s s.heap) (hA : ∀ q, s.heap.size ≤ q → A q) (h : f_X3_kindAt x_kinds a1 = some res) (hW : Wo g A s H locs (w_X3 g z h0 h1 h2 h3 h4 x_signs x_length x_position x_kinds x_values x_commandCount)) (hl : lv_has ls 2 [(0, .ref h0), (1, .int a1)]) : G_X3_kindAt p l e s m args below meth c g A z h0 h1 h2 h3 h4 x_signs x_length x_position x_kinds x_values x_commandCount res H locs 0 ls [] := by
  have hts := E.2.2.2.1
  unfold f_X3_kindAt at h
  obtain ⟨j19, hj19, h⟩ := jox1 h
  have J19 : ∀ (s0_19 : Option Nat) (H : Heap) (locs : List Loc) (ls : Array Slot), j19 s0_19 = some res → Wo g A s H locs (w_X3 g z h0 h1 h2 h3 h4 x_signs x_length x_position x_kinds x_values x_commandCount) → lv_has ls 2 [] → G_X3_kindAt p l e s m args below meth c g A z h0 h1 h2 h3 h4 x_signs x_length x_position x_kinds x_values x_commandCount res H locs 19 ls [(va_re z.2 s0_19)] := by
    intro s0_19 H locs ls h hW hl
    rw [hj19] at h
    obtain rfl := Option.some.inj h
    exact endE E hW dX3_kindAt_19
  refine lv_iload_n E.1 E.2.1 dX3_kindAt_0 rfl (lv_at hl 1 rfl) ?_
  obtain ⟨r1, hc, h⟩ := bx h
  refine goI (world' := (w_X3 g z h0 h1 h2 h3 h4 x_signs x_length x_position x_kinds x_values x_commandCount)) hW hA (is := []) rfl (goS (rest := []) E hK hW [] rfl rfl (c_X3_isPlace l g a1 (hf := hc) H.size) (va_cwS 1 hts gX3_kindAt_X3_isPlace rfl rfl rfl (by decide +kernel) ⟨Nat.le_of_ble_eq_true rfl, Nat.le_of_ble_eq_true rfl⟩) hl.1 rfl rfl (Nat.le_of_ble_eq_true rfl) dX3_kindAt_1 ⟨Nat.zero_le _, Nat.zero_le _⟩) rfl rfl (fun H locs hW => ?_)
  refine lv_if_eq (tgt := 16) E.1 E.2.1 dX3_kindAt_4 (by decide) (fun c4 => ?_) (fun c4 => ?_)
  · have h := it c4 h
    refine va_gets (v := .ref (z.2 9)) E.1 E.2.1 ((hC.2.2.2.1.1 9 (by decide)).1) hW.2.2 E.2.2.2.2.1 (hts _ lk_X3_kindAt_36) (fun _ h => h) dX3_kindAt_16 ?_
    exact J19 (some 9) H locs ls h hW (lv_sub hl [] rfl)
  · have h := ie c4 h
    refine lv_aload_n E.1 E.2.1 dX3_kindAt_7 rfl (lv_at hl 0 rfl) ?_
    refine wGet (v := .ref h2) E hK in_X3_kindAt_X3 hW 3 lk_X3_kindAt_24 0 rfl rfl (by decide) rfl rfl dX3_kindAt_8 ?_
    refine lv_iload_n E.1 E.2.1 dX3_kindAt_11 rfl (lv_at hl 1 rfl) ?_
    obtain ⟨hi12, h⟩ := ox h
    refine wKald E hK hW 2 rfl hi12 dX3_kindAt_12 ?_
    refine lv_goto (tgt := 19) E.1 E.2.1 dX3_kindAt_13 (by decide) ?_
    exact J19 (x_kinds a1.toNatClampNeg) H locs ls h hW (lv_sub hl [] rfl)
theorem c_X3_kindAt (l : Launch) (g : GE) (z : ZE) (h0 h1 h2 h3 : Nat) (h4 : Nat → Nat) (x_signs : Nat → Int32) (x_length : Int32) (x_position : Int32) (x_kinds : Nat → Option Nat) (x_values : Nat → Nat → Int32) (x_commandCount : Int32) (a1 : Int32) {res : Option Nat} (hf : f_X3_kindAt x_kinds a1 = some res) : XE l yX3_kindAt wsX3_kindAt rm_X3_kindAt g z [.ref h0, .int a1] (w_X3 g z h0 h1 h2 h3 h4 x_signs x_length x_position x_kinds x_values x_commandCount) (w_X3 g z h0 h1 h2 h3 h4 x_signs x_length x_position x_kinds x_values x_commandCount) res :=
  mkXE (cc := cX3_kindAt) (maxL := 2) (by decide) rfl (Nat.le_of_ble_eq_true rfl) (fun p e s m args below meth c A H locs ls E hK hz hC hA hW hl => k_X3_kindAt_0 E hK hz hC hA hf hW hl)

/-! PaperStorm$CommandText.valueAt(II)I X3_valueAt -/
abbrev rm_X3_valueAt : Room := { frames := 1, cells := 0, slots := 0, locals := 20 }
theorem in_X3_valueAt_X3 : ∀ w ∈ wsX30, w ∈ wsX3_valueAt := by decide +kernel
theorem lk_X3_valueAt_30 : Cond.fieldLink RX3 30 "PaperStorm$CommandText" "values" "[[I" ∈ wsX3_valueAt := by decide +kernel
noncomputable def f_X3_valueAt (x_values : Nat → Nat → Int32) (a1 : Int32) (a2 : Int32) : Option (Int32) :=
  jo (fun (s0_28 : Int32) => some (s0_28)) (fun j28 => jo (j28 0) (fun j27 => (f_X3_isPlace a1).bind fun r1 => if r1 = 0 then j27 else if a2 < 0 then j27 else if 3 ≤ a2 then j27 else if a1 < 0 ∨ 15 ≤ a1.toNatClampNeg then none else if a2 < 0 ∨ 3 ≤ a2.toNatClampNeg then none else j28 (x_values a1.toNatClampNeg a2.toNatClampNeg)))
abbrev G_X3_valueAt (p : Program) (l : Launch) (e : Env) (s : State) (m : MethodId) (args : Array Value) (below : List Frame) (meth : Method) (c : Code) (g : GE) (A : Nat → Prop) (z : ZE) (h0 h1 h2 h3 : Nat) (h4 : Nat → Nat) (x_signs : Nat → Int32) (x_length : Int32) (x_position : Int32) (x_kinds : Nat → Option Nat) (x_values : Nat → Nat → Int32) (x_commandCount : Int32) (res : Int32) (H : Heap) (locs : List Loc) (pc : Nat) (ls : Array Slot) (st : List Value) : Prop := W p l e (headSpec wsX3_valueAt rm_X3_valueAt).room s m args below meth c H locs 0 0 (MQ below (PoI g A (w_X3 g z h0 h1 h2 h3 h4 x_signs x_length x_position x_kinds x_values x_commandCount) res) args s 0 0 A) (F0 m pc ls st)
set_option maxHeartbeats 4000000 in
set_option maxRecDepth 100000 in
theorem k_X3_valueAt_0 {p : Program} {l : Launch} {e : Env} {s : State} {m : MethodId} {args : Array Value} {below : List Frame} {meth : Method} {c : Code} {g : GE} {A : Nat → Prop} {z : ZE} {h0 h1 h2 h3 : Nat} {h4 : Nat → Nat} {x_signs : Nat → Int32} {x_length : Int32} {x_position : Int32} {x_kinds : Nat → Option Nat} {x_values : Nat → Nat → Int32} {x_commandCount : Int32} {res : Int32} {H : Heap} {locs : List Loc} {ls : Array Slot} {a1 : Int32} {a2 : Int32}
    (E : En cX3_valueAt RX3 wsX3_valueAt 3 (some .int) p s m args meth c) (hK : KK g s) (hz : KS z s) (hC : CS z A s s.heap) (hA : ∀ q, s.heap.size ≤ q → A q) (h : f_X3_valueAt x_values a1 a2 = some res) (hW : Wo g A s H locs (w_X3 g z h0 h1 h2 h3 h4 x_signs x_length x_position x_kinds x_values x_commandCount)) (hl : lv_has ls 3 [(0, .ref h0), (1, .int a1), (2, .int a2)]) : G_X3_valueAt p l e s m args below meth c g A z h0 h1 h2 h3 h4 x_signs x_length x_position x_kinds x_values x_commandCount res H locs 0 ls [] := by
  have hts := E.2.2.2.1
  unfold f_X3_valueAt at h
  obtain ⟨j28, hj28, h⟩ := jox1 h
  have J28 : ∀ (s0_28 : Int32) (H : Heap) (locs : List Loc) (ls : Array Slot), j28 s0_28 = some res → Wo g A s H locs (w_X3 g z h0 h1 h2 h3 h4 x_signs x_length x_position x_kinds x_values x_commandCount) → lv_has ls 3 [] → G_X3_valueAt p l e s m args below meth c g A z h0 h1 h2 h3 h4 x_signs x_length x_position x_kinds x_values x_commandCount res H locs 28 ls [.int s0_28] := by
    intro s0_28 H locs ls h hW hl
    rw [hj28] at h
    obtain rfl := Option.some.inj h
    exact endI E rfl hW dX3_valueAt_28
  obtain ⟨j27, hj27, h⟩ := jox0 h
  have J27 : ∀ (H : Heap) (locs : List Loc) (ls : Array Slot), j27 = some res → Wo g A s H locs (w_X3 g z h0 h1 h2 h3 h4 x_signs x_length x_position x_kinds x_values x_commandCount) → lv_has ls 3 [] → G_X3_valueAt p l e s m args below meth c g A z h0 h1 h2 h3 h4 x_signs x_length x_position x_kinds x_values x_commandCount res H locs 27 ls [] := by
    intro H locs ls h hW hl
    rw [hj27] at h
    refine lv_iconst (v := 0) E.1 E.2.1 dX3_valueAt_27 (by decide) ?_
    exact J28 0 H locs ls h hW (lv_sub hl [] rfl)
  refine lv_iload_n E.1 E.2.1 dX3_valueAt_0 rfl (lv_at hl 1 rfl) ?_
  obtain ⟨r1, hc, h⟩ := bx h
  refine goI (world' := (w_X3 g z h0 h1 h2 h3 h4 x_signs x_length x_position x_kinds x_values x_commandCount)) hW hA (is := []) rfl (goS (rest := []) E hK hW [] rfl rfl (c_X3_isPlace l g a1 (hf := hc) H.size) (va_cwS 1 hts gX3_valueAt_X3_isPlace rfl rfl rfl (by decide +kernel) ⟨Nat.le_of_ble_eq_true rfl, Nat.le_of_ble_eq_true rfl⟩) hl.1 rfl rfl (Nat.le_of_ble_eq_true rfl) dX3_valueAt_1 ⟨Nat.zero_le _, Nat.zero_le _⟩) rfl rfl (fun H locs hW => ?_)
  refine lv_if_eq (tgt := 27) E.1 E.2.1 dX3_valueAt_4 (by decide) (fun c4 => ?_) (fun c4 => ?_)
  · have h := it c4 h
    exact J27  H locs ls h hW (lv_sub hl [] rfl)
  · have h := ie c4 h
    refine lv_iload_n E.1 E.2.1 dX3_valueAt_7 rfl (lv_at hl 2 rfl) ?_
    refine lv_if_lt (tgt := 27) E.1 E.2.1 dX3_valueAt_8 (by decide) (fun c8 => ?_) (fun c8 => ?_)
    · have h := it c8 h
      exact J27  H locs ls h hW (lv_sub hl [] rfl)
    · have h := ie c8 h
      refine lv_iload_n E.1 E.2.1 dX3_valueAt_11 rfl (lv_at hl 2 rfl) ?_
      refine lv_iconst (v := 3) E.1 E.2.1 dX3_valueAt_12 (by decide) ?_
      refine lv_icmp_ge (tgt := 27) E.1 E.2.1 dX3_valueAt_13 (by decide) (fun c13 => ?_) (fun c13 => ?_)
      · have h := it c13 h
        exact J27  H locs ls h hW (lv_sub hl [] rfl)
      · have h := ie c13 h
        refine lv_aload_n E.1 E.2.1 dX3_valueAt_16 rfl (lv_at hl 0 rfl) ?_
        refine wGet (v := .ref h3) E hK in_X3_valueAt_X3 hW 4 lk_X3_valueAt_30 0 rfl rfl (by decide) rfl rfl dX3_valueAt_17 ?_
        refine lv_iload_n E.1 E.2.1 dX3_valueAt_20 rfl (lv_at hl 1 rfl) ?_
        obtain ⟨hi21, h⟩ := ox h
        refine wGald E hK hW 3 rfl hi21 dX3_valueAt_21 ?_
        refine lv_iload_n E.1 E.2.1 dX3_valueAt_22 rfl (lv_at hl 2 rfl) ?_
        obtain ⟨hi23, h⟩ := ox h
        refine wIald E hK hW (4 + a1.toNatClampNeg) (gridAt (Nat.not_le.mp (fun q => hi21 (Or.inr q)))) hi23 dX3_valueAt_23 ?_
        refine lv_goto (tgt := 28) E.1 E.2.1 dX3_valueAt_24 (by decide) ?_
        exact J28 (x_values a1.toNatClampNeg a2.toNatClampNeg) H locs ls h hW (lv_sub hl [] rfl)
theorem c_X3_valueAt (l : Launch) (g : GE) (z : ZE) (h0 h1 h2 h3 : Nat) (h4 : Nat → Nat) (x_signs : Nat → Int32) (x_length : Int32) (x_position : Int32) (x_kinds : Nat → Option Nat) (x_values : Nat → Nat → Int32) (x_commandCount : Int32) (a1 : Int32) (a2 : Int32) {res : Int32} (hf : f_X3_valueAt x_values a1 a2 = some res) : XI l yX3_valueAt wsX3_valueAt rm_X3_valueAt g z [.ref h0, .int a1, .int a2] (w_X3 g z h0 h1 h2 h3 h4 x_signs x_length x_position x_kinds x_values x_commandCount) (w_X3 g z h0 h1 h2 h3 h4 x_signs x_length x_position x_kinds x_values x_commandCount) res :=
  mkXI (cc := cX3_valueAt) (maxL := 3) (by decide) rfl (Nat.le_of_ble_eq_true rfl) (fun p e s m args below meth c A H locs ls E hK hz hC hA hW hl => k_X3_valueAt_0 E hK hz hC hA hf hW hl)

/-! PaperStorm$CommandText.signAt(I)C X3_signAt -/
abbrev rm_X3_signAt : Room := { frames := 0, cells := 0, slots := 0, locals := 0 }
theorem in_X3_signAt_X3 : ∀ w ∈ wsX30, w ∈ wsX3_signAt := by decide +kernel
theorem lk_X3_signAt_15 : Cond.fieldLink RX3 15 "PaperStorm$CommandText" "length" "I" ∈ wsX3_signAt := by decide +kernel
theorem lk_X3_signAt_9 : Cond.fieldLink RX3 9 "PaperStorm$CommandText" "signs" "[C" ∈ wsX3_signAt := by decide +kernel
noncomputable def f_X3_signAt (x_signs : Nat → Int32) (x_length : Int32) (a1 : Int32) : Option (Int32) :=
  jo (fun (s0_28 : Int32) => if ¬ vp_nar .char s0_28 = s0_28 then none else some (s0_28)) (fun j28 => jo (j28 0) (fun j27 => if a1 < 0 then j27 else if x_length ≤ a1 then j27 else if 60 ≤ a1 then j27 else if a1 < 0 ∨ 60 ≤ a1.toNatClampNeg then none else j28 (x_signs a1.toNatClampNeg)))
abbrev G_X3_signAt (p : Program) (l : Launch) (e : Env) (s : State) (m : MethodId) (args : Array Value) (below : List Frame) (meth : Method) (c : Code) (g : GE) (A : Nat → Prop) (z : ZE) (h0 h1 h2 h3 : Nat) (h4 : Nat → Nat) (x_signs : Nat → Int32) (x_length : Int32) (x_position : Int32) (x_kinds : Nat → Option Nat) (x_values : Nat → Nat → Int32) (x_commandCount : Int32) (res : Int32) (H : Heap) (locs : List Loc) (pc : Nat) (ls : Array Slot) (st : List Value) : Prop := W p l e (headSpec wsX3_signAt rm_X3_signAt).room s m args below meth c H locs 0 0 (MQ below (PoI g A (w_X3 g z h0 h1 h2 h3 h4 x_signs x_length x_position x_kinds x_values x_commandCount) res) args s 0 0 A) (F0 m pc ls st)
set_option maxHeartbeats 4000000 in
set_option maxRecDepth 100000 in
theorem k_X3_signAt_0 {p : Program} {l : Launch} {e : Env} {s : State} {m : MethodId} {args : Array Value} {below : List Frame} {meth : Method} {c : Code} {g : GE} {A : Nat → Prop} {z : ZE} {h0 h1 h2 h3 : Nat} {h4 : Nat → Nat} {x_signs : Nat → Int32} {x_length : Int32} {x_position : Int32} {x_kinds : Nat → Option Nat} {x_values : Nat → Nat → Int32} {x_commandCount : Int32} {res : Int32} {H : Heap} {locs : List Loc} {ls : Array Slot} {a1 : Int32}
    (E : En cX3_signAt RX3 wsX3_signAt 2 (some .char) p s m args meth c) (hK : KK g s) (hz : KS z s) (hC : CS z A s s.heap) (hA : ∀ q, s.heap.size ≤ q → A q) (h : f_X3_signAt x_signs x_length a1 = some res) (hW : Wo g A s H locs (w_X3 g z h0 h1 h2 h3 h4 x_signs x_length x_position x_kinds x_values x_commandCount)) (hl : lv_has ls 2 [(0, .ref h0), (1, .int a1)]) : G_X3_signAt p l e s m args below meth c g A z h0 h1 h2 h3 h4 x_signs x_length x_position x_kinds x_values x_commandCount res H locs 0 ls [] := by
  have hts := E.2.2.2.1
  unfold f_X3_signAt at h
  obtain ⟨j28, hj28, h⟩ := jox1 h
  have J28 : ∀ (s0_28 : Int32) (H : Heap) (locs : List Loc) (ls : Array Slot), j28 s0_28 = some res → Wo g A s H locs (w_X3 g z h0 h1 h2 h3 h4 x_signs x_length x_position x_kinds x_values x_commandCount) → lv_has ls 2 [] → G_X3_signAt p l e s m args below meth c g A z h0 h1 h2 h3 h4 x_signs x_length x_position x_kinds x_values x_commandCount res H locs 28 ls [.int s0_28] := by
    intro s0_28 H locs ls h hW hl
    rw [hj28] at h
    obtain ⟨hz, h⟩ := ox h
    obtain rfl := Option.some.inj h
    exact endI E (nar_c (Decidable.not_not.mp hz)) hW dX3_signAt_28
  obtain ⟨j27, hj27, h⟩ := jox0 h
  have J27 : ∀ (H : Heap) (locs : List Loc) (ls : Array Slot), j27 = some res → Wo g A s H locs (w_X3 g z h0 h1 h2 h3 h4 x_signs x_length x_position x_kinds x_values x_commandCount) → lv_has ls 2 [] → G_X3_signAt p l e s m args below meth c g A z h0 h1 h2 h3 h4 x_signs x_length x_position x_kinds x_values x_commandCount res H locs 27 ls [] := by
    intro H locs ls h hW hl
    rw [hj27] at h
    refine lv_iconst (v := 0) E.1 E.2.1 dX3_signAt_27 (by decide) ?_
    exact J28 0 H locs ls h hW (lv_sub hl [] rfl)
  refine lv_iload_n E.1 E.2.1 dX3_signAt_0 rfl (lv_at hl 1 rfl) ?_
  refine lv_if_lt (tgt := 27) E.1 E.2.1 dX3_signAt_1 (by decide) (fun c1 => ?_) (fun c1 => ?_)
  · have h := it c1 h
    exact J27  H locs ls h hW (lv_sub hl [] rfl)
  · have h := ie c1 h
    refine lv_iload_n E.1 E.2.1 dX3_signAt_4 rfl (lv_at hl 1 rfl) ?_
    refine lv_aload_n E.1 E.2.1 dX3_signAt_5 rfl (lv_at hl 0 rfl) ?_
    refine wGet (v := .int x_length) E hK in_X3_signAt_X3 hW 1 lk_X3_signAt_15 0 rfl rfl (by decide) rfl rfl dX3_signAt_6 ?_
    refine lv_icmp_ge (tgt := 27) E.1 E.2.1 dX3_signAt_9 (by decide) (fun c9 => ?_) (fun c9 => ?_)
    · have h := it c9 h
      exact J27  H locs ls h hW (lv_sub hl [] rfl)
    · have h := ie c9 h
      refine lv_iload_n E.1 E.2.1 dX3_signAt_12 rfl (lv_at hl 1 rfl) ?_
      refine lv_bipush (v := 60) E.1 E.2.1 dX3_signAt_13 (by decide) ?_
      refine lv_icmp_ge (tgt := 27) E.1 E.2.1 dX3_signAt_15 (by decide) (fun c15 => ?_) (fun c15 => ?_)
      · have h := it c15 h
        exact J27  H locs ls h hW (lv_sub hl [] rfl)
      · have h := ie c15 h
        refine lv_aload_n E.1 E.2.1 dX3_signAt_18 rfl (lv_at hl 0 rfl) ?_
        refine wGet (v := .ref h1) E hK in_X3_signAt_X3 hW 0 lk_X3_signAt_9 0 rfl rfl (by decide) rfl rfl dX3_signAt_19 ?_
        refine lv_iload_n E.1 E.2.1 dX3_signAt_22 rfl (lv_at hl 1 rfl) ?_
        obtain ⟨hi23, h⟩ := ox h
        refine wCald E hK hW 1 rfl hi23 dX3_signAt_23 ?_
        refine lv_goto (tgt := 28) E.1 E.2.1 dX3_signAt_24 (by decide) ?_
        exact J28 (x_signs a1.toNatClampNeg) H locs ls h hW (lv_sub hl [] rfl)
theorem c_X3_signAt (l : Launch) (g : GE) (z : ZE) (h0 h1 h2 h3 : Nat) (h4 : Nat → Nat) (x_signs : Nat → Int32) (x_length : Int32) (x_position : Int32) (x_kinds : Nat → Option Nat) (x_values : Nat → Nat → Int32) (x_commandCount : Int32) (a1 : Int32) {res : Int32} (hf : f_X3_signAt x_signs x_length a1 = some res) : XI l yX3_signAt wsX3_signAt rm_X3_signAt g z [.ref h0, .int a1] (w_X3 g z h0 h1 h2 h3 h4 x_signs x_length x_position x_kinds x_values x_commandCount) (w_X3 g z h0 h1 h2 h3 h4 x_signs x_length x_position x_kinds x_values x_commandCount) res :=
  mkXI (cc := cX3_signAt) (maxL := 2) (by decide) rfl (Nat.le_of_ble_eq_true rfl) (fun p e s m args below meth c A H locs ls E hK hz hC hA hW hl => k_X3_signAt_0 E hK hz hC hA hf hW hl)

