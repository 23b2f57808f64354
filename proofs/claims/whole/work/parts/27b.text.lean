/-! PaperStorm$CommandText.isSignAt(IC)Z X3_isSignAt -/
abbrev rm_X3_isSignAt : Room := { frames := 1, cells := 0, slots := 0, locals := 21 }
noncomputable def f_X3_isSignAt (x_signs : Nat → Int32) (x_length : Int32) (a1 : Int32) (a2 : Int32) : Option (Int32) :=
  jo (fun (s0_14 : Int32) => if ¬ vp_nar .boolean s0_14 = s0_14 then none else some (s0_14)) (fun j14 => (f_X3_signAt x_signs x_length a1).bind fun r2 => if r2 = a2 then j14 1 else j14 0)
abbrev G_X3_isSignAt (p : Program) (l : Launch) (e : Env) (s : State) (m : MethodId) (args : Array Value) (below : List Frame) (meth : Method) (c : Code) (g : GE) (A : Nat → Prop) (z : ZE) (h0 h1 h2 h3 : Nat) (h4 : Nat → Nat) (x_signs : Nat → Int32) (x_length : Int32) (x_position : Int32) (x_kinds : Nat → Option Nat) (x_values : Nat → Nat → Int32) (x_commandCount : Int32) (res : Int32) (H : Heap) (locs : List Loc) (pc : Nat) (ls : Array Slot) (st : List Value) : Prop := W p l e (headSpec wsX3_isSignAt rm_X3_isSignAt).room s m args below meth c H locs 0 0 (MQ below (PoI g A (w_X3 g z h0 h1 h2 h3 h4 x_signs x_length x_position x_kinds x_values x_commandCount) res) args s 0 0 A) (F0 m pc ls st)
set_option maxHeartbeats 4000000 in
set_option maxRecDepth 100000 in
theorem k_X3_isSignAt_0 {p : Program} {l : Launch} {e : Env} {s : State} {m : MethodId} {args : Array Value} {below : List Frame} {meth : Method} {c : Code} {g : GE} {A : Nat → Prop} {z : ZE} {h0 h1 h2 h3 : Nat} {h4 : Nat → Nat} {x_signs : Nat → Int32} {x_length : Int32} {x_position : Int32} {x_kinds : Nat → Option Nat} {x_values : Nat → Nat → Int32} {x_commandCount : Int32} {res : Int32} {H : Heap} {locs : List Loc} {ls : Array Slot} {a1 : Int32} {a2 : Int32}
    (E : En cX3_isSignAt RX3 wsX3_isSignAt 3 (some .boolean) p s m args meth c) (hK : KK g s) (hz : KS z s) (hC : CS z A s s.heap) (hA : ∀ q, s.heap.size ≤ q → A q) (h : f_X3_isSignAt x_signs x_length a1 a2 = some res) (hW : Wo g A s H locs (w_X3 g z h0 h1 h2 h3 h4 x_signs x_length x_position x_kinds x_values x_commandCount)) (hl : lv_has ls 3 [(0, .ref h0), (1, .int a1), (2, .int a2)]) : G_X3_isSignAt p l e s m args below meth c g A z h0 h1 h2 h3 h4 x_signs x_length x_position x_kinds x_values x_commandCount res H locs 0 ls [] := by
  have hts := E.2.2.2.1
  unfold f_X3_isSignAt at h
  obtain ⟨j14, hj14, h⟩ := jox1 h
  have J14 : ∀ (s0_14 : Int32) (H : Heap) (locs : List Loc) (ls : Array Slot), j14 s0_14 = some res → Wo g A s H locs (w_X3 g z h0 h1 h2 h3 h4 x_signs x_length x_position x_kinds x_values x_commandCount) → lv_has ls 3 [] → G_X3_isSignAt p l e s m args below meth c g A z h0 h1 h2 h3 h4 x_signs x_length x_position x_kinds x_values x_commandCount res H locs 14 ls [.int s0_14] := by
    intro s0_14 H locs ls h hW hl
    rw [hj14] at h
    obtain ⟨hz, h⟩ := ox h
    obtain rfl := Option.some.inj h
    exact endI E (nar_z (Decidable.not_not.mp hz)) hW dX3_isSignAt_14
  refine lv_aload_n E.1 E.2.1 dX3_isSignAt_0 rfl (lv_at hl 0 rfl) ?_
  refine lv_iload_n E.1 E.2.1 dX3_isSignAt_1 rfl (lv_at hl 1 rfl) ?_
  obtain ⟨r2, hc, h⟩ := bx h
  refine goI (world' := (w_X3 g z h0 h1 h2 h3 h4 x_signs x_length x_position x_kinds x_values x_commandCount)) hW hA (is := (rgB 0 19)) (getB rfl rfl) (goVX (rest := []) E hK hz hC hA hW (rgB 0 19) (getB rfl rfl) (by decide +kernel) (c_X3_signAt l g z h0 h1 h2 h3 h4 x_signs x_length x_position x_kinds x_values x_commandCount a1 (hf := hc) H.size) (cwV 1 hts gX3_isSignAt_X3_signAt rfl rfl rfl (by decide +kernel) ⟨Nat.le_of_ble_eq_true rfl, Nat.le_of_ble_eq_true rfl⟩) 0 rfl rfl rfl hl.1 rfl rfl (Nat.le_of_ble_eq_true rfl) dX3_isSignAt_2 ⟨Nat.zero_le _, Nat.zero_le _⟩) rfl (putB rfl rfl rfl (Nat.le_of_ble_eq_true rfl) rfl) (fun H locs hW => ?_)
  refine lv_iload_n E.1 E.2.1 dX3_isSignAt_5 rfl (lv_at hl 2 rfl) ?_
  refine lv_icmp_ne (tgt := 13) E.1 E.2.1 dX3_isSignAt_6 (by decide) (fun c6 => ?_) (fun c6 => ?_)
  · have h := ie c6 h
    refine lv_iconst (v := 0) E.1 E.2.1 dX3_isSignAt_13 (by decide) ?_
    exact J14 0 H locs ls h hW (lv_sub hl [] rfl)
  · have h := it c6 h
    refine lv_iconst (v := 1) E.1 E.2.1 dX3_isSignAt_9 (by decide) ?_
    refine lv_goto (tgt := 14) E.1 E.2.1 dX3_isSignAt_10 (by decide) ?_
    exact J14 1 H locs ls h hW (lv_sub hl [] rfl)
theorem c_X3_isSignAt (l : Launch) (g : GE) (z : ZE) (h0 h1 h2 h3 : Nat) (h4 : Nat → Nat) (x_signs : Nat → Int32) (x_length : Int32) (x_position : Int32) (x_kinds : Nat → Option Nat) (x_values : Nat → Nat → Int32) (x_commandCount : Int32) (a1 : Int32) (a2 : Int32) {res : Int32} (hf : f_X3_isSignAt x_signs x_length a1 a2 = some res) : XI l yX3_isSignAt wsX3_isSignAt rm_X3_isSignAt g z [.ref h0, .int a1, .int a2] (w_X3 g z h0 h1 h2 h3 h4 x_signs x_length x_position x_kinds x_values x_commandCount) (w_X3 g z h0 h1 h2 h3 h4 x_signs x_length x_position x_kinds x_values x_commandCount) res :=
  mkXI (cc := cX3_isSignAt) (maxL := 3) (by decide) rfl (Nat.le_of_ble_eq_true rfl) (fun p e s m args below meth c A H locs ls E hK hz hC hA hW hl => k_X3_isSignAt_0 E hK hz hC hA hf hW hl)

/-! PaperStorm$CommandText.readSign(C)Z X3_readSign -/
abbrev rm_X3_readSign : Room := { frames := 2, cells := 0, slots := 0, locals := 43 }
theorem in_X3_readSign_X3 : ∀ w ∈ wsX30, w ∈ wsX3_readSign := by decide +kernel
theorem lk_X3_readSign_19 : Cond.fieldLink RX3 19 "PaperStorm$CommandText" "position" "I" ∈ wsX3_readSign := by decide +kernel
noncomputable def f_X3_readSign (x_signs : Nat → Int32) (x_length : Int32) (x_position : Int32) (a1 : Int32) : Option (Int32 × Int32) :=
  (f_X3_isSignAt x_signs x_length x_position a1).bind fun r6 => if r6 = 0 then some (0, x_position) else some (1, (x_position + 1))
abbrev G_X3_readSign (p : Program) (l : Launch) (e : Env) (s : State) (m : MethodId) (args : Array Value) (below : List Frame) (meth : Method) (c : Code) (g : GE) (A : Nat → Prop) (z : ZE) (h0 h1 h2 h3 : Nat) (h4 : Nat → Nat) (x_signs : Nat → Int32) (x_length : Int32) (x_kinds : Nat → Option Nat) (x_values : Nat → Nat → Int32) (x_commandCount : Int32) (res : Int32 × Int32) (H : Heap) (locs : List Loc) (pc : Nat) (ls : Array Slot) (st : List Value) : Prop := W p l e (headSpec wsX3_readSign rm_X3_readSign).room s m args below meth c H locs 0 0 (MQ below (PoI g A (w_X3 g z h0 h1 h2 h3 h4 x_signs x_length res.2 x_kinds x_values x_commandCount) res.1) args s 0 0 A) (F0 m pc ls st)
set_option maxHeartbeats 4000000 in
set_option maxRecDepth 100000 in
theorem k_X3_readSign_0 {p : Program} {l : Launch} {e : Env} {s : State} {m : MethodId} {args : Array Value} {below : List Frame} {meth : Method} {c : Code} {g : GE} {A : Nat → Prop} {z : ZE} {h0 h1 h2 h3 : Nat} {h4 : Nat → Nat} {x_signs : Nat → Int32} {x_length : Int32} {x_position : Int32} {x_kinds : Nat → Option Nat} {x_values : Nat → Nat → Int32} {x_commandCount : Int32} {res : Int32 × Int32} {H : Heap} {locs : List Loc} {ls : Array Slot} {a1 : Int32}
    (E : En cX3_readSign RX3 wsX3_readSign 2 (some .boolean) p s m args meth c) (hK : KK g s) (hz : KS z s) (hC : CS z A s s.heap) (hA : ∀ q, s.heap.size ≤ q → A q) (h : f_X3_readSign x_signs x_length x_position a1 = some res) (hW : Wo g A s H locs (w_X3 g z h0 h1 h2 h3 h4 x_signs x_length x_position x_kinds x_values x_commandCount)) (hl : lv_has ls 2 [(0, .ref h0), (1, .int a1)]) : G_X3_readSign p l e s m args below meth c g A z h0 h1 h2 h3 h4 x_signs x_length x_kinds x_values x_commandCount res H locs 0 ls [] := by
  have hts := E.2.2.2.1
  unfold f_X3_readSign at h
  refine lv_aload_n E.1 E.2.1 dX3_readSign_0 rfl (lv_at hl 0 rfl) ?_
  refine lv_aload_n E.1 E.2.1 dX3_readSign_1 rfl (lv_at hl 0 rfl) ?_
  refine wGet (v := .int x_position) E hK in_X3_readSign_X3 hW 2 lk_X3_readSign_19 0 rfl rfl (by decide) rfl rfl dX3_readSign_2 ?_
  refine lv_iload_n E.1 E.2.1 dX3_readSign_5 rfl (lv_at hl 1 rfl) ?_
  obtain ⟨r6, hc, h⟩ := bx h
  refine goI (world' := (w_X3 g z h0 h1 h2 h3 h4 x_signs x_length x_position x_kinds x_values x_commandCount)) hW hA (is := (rgB 0 19)) (getB rfl rfl) (goVX (rest := []) E hK hz hC hA hW (rgB 0 19) (getB rfl rfl) (by decide +kernel) (c_X3_isSignAt l g z h0 h1 h2 h3 h4 x_signs x_length x_position x_kinds x_values x_commandCount x_position a1 (hf := hc) H.size) (cwV 2 hts gX3_readSign_X3_isSignAt rfl rfl rfl (by decide +kernel) ⟨Nat.le_of_ble_eq_true rfl, Nat.le_of_ble_eq_true rfl⟩) 0 rfl rfl rfl hl.1 rfl rfl (Nat.le_of_ble_eq_true rfl) dX3_readSign_6 ⟨Nat.zero_le _, Nat.zero_le _⟩) rfl (putB rfl rfl rfl (Nat.le_of_ble_eq_true rfl) rfl) (fun H locs hW => ?_)
  refine lv_if_ne (tgt := 14) E.1 E.2.1 dX3_readSign_9 (by decide) (fun c9 => ?_) (fun c9 => ?_)
  · have h := ie c9 h
    refine lv_aload_n E.1 E.2.1 dX3_readSign_14 rfl (lv_at hl 0 rfl) ?_
    refine lv_dup E.1 E.2.1 dX3_readSign_15 rfl ?_
    refine wGet (v := .int x_position) E hK in_X3_readSign_X3 hW 2 lk_X3_readSign_19 0 rfl rfl (by decide) rfl rfl dX3_readSign_16 ?_
    refine lv_iconst (v := 1) E.1 E.2.1 dX3_readSign_19 (by decide) ?_
    refine lv_iadd E.1 E.2.1 dX3_readSign_20 ?_
    refine wPut (world' := (w_X3 g z h0 h1 h2 h3 h4 x_signs x_length (x_position + 1) x_kinds x_values x_commandCount)) E hK in_X3_readSign_X3 tyX3 tyX3_ok nmX3 hW 2 lk_X3_readSign_19 0 rfl rfl (by decide) rfl rfl rfl rfl rfl (Nat.le_of_ble_eq_true rfl) dX3_readSign_21 rfl (fun H locs hW => ?_)
    refine lv_iconst (v := 1) E.1 E.2.1 dX3_readSign_24 (by decide) ?_
    obtain rfl := Option.some.inj h
    exact endI E (show narrow .boolean (.int 1) = .int 1 by decide) hW dX3_readSign_25
  · have h := it c9 h
    refine lv_iconst (v := 0) E.1 E.2.1 dX3_readSign_12 (by decide) ?_
    obtain rfl := Option.some.inj h
    exact endI E (show narrow .boolean (.int 0) = .int 0 by decide) hW dX3_readSign_13
theorem c_X3_readSign (l : Launch) (g : GE) (z : ZE) (h0 h1 h2 h3 : Nat) (h4 : Nat → Nat) (x_signs : Nat → Int32) (x_length : Int32) (x_position : Int32) (x_kinds : Nat → Option Nat) (x_values : Nat → Nat → Int32) (x_commandCount : Int32) (a1 : Int32) {res : Int32 × Int32} (hf : f_X3_readSign x_signs x_length x_position a1 = some res) : XI l yX3_readSign wsX3_readSign rm_X3_readSign g z [.ref h0, .int a1] (w_X3 g z h0 h1 h2 h3 h4 x_signs x_length x_position x_kinds x_values x_commandCount) (w_X3 g z h0 h1 h2 h3 h4 x_signs x_length res.2 x_kinds x_values x_commandCount) res.1 :=
  mkXI (cc := cX3_readSign) (maxL := 2) (by decide) rfl (Nat.le_of_ble_eq_true rfl) (fun p e s m args below meth c A H locs ls E hK hz hC hA hW hl => k_X3_readSign_0 E hK hz hC hA hf hW hl)

/-! PaperStorm$CommandText.readDigit()I X3_readDigit -/
abbrev rm_X3_readDigit : Room := { frames := 1, cells := 0, slots := 0, locals := 21 }
theorem in_X3_readDigit_X3 : ∀ w ∈ wsX30, w ∈ wsX3_readDigit := by decide +kernel
theorem lk_X3_readDigit_19 : Cond.fieldLink RX3 19 "PaperStorm$CommandText" "position" "I" ∈ wsX3_readDigit := by decide +kernel
noncomputable def f_X3_readDigit (x_signs : Nat → Int32) (x_length : Int32) (x_position : Int32) : Option (Int32 × Int32) :=
  jo (some ((-1), x_position)) (fun j21 => (f_X3_signAt x_signs x_length x_position).bind fun r5 => if r5 < 48 then j21 else if r5 ≤ 57 then some ((r5 - 48), (x_position + 1)) else j21)
abbrev G_X3_readDigit (p : Program) (l : Launch) (e : Env) (s : State) (m : MethodId) (args : Array Value) (below : List Frame) (meth : Method) (c : Code) (g : GE) (A : Nat → Prop) (z : ZE) (h0 h1 h2 h3 : Nat) (h4 : Nat → Nat) (x_signs : Nat → Int32) (x_length : Int32) (x_kinds : Nat → Option Nat) (x_values : Nat → Nat → Int32) (x_commandCount : Int32) (res : Int32 × Int32) (H : Heap) (locs : List Loc) (pc : Nat) (ls : Array Slot) (st : List Value) : Prop := W p l e (headSpec wsX3_readDigit rm_X3_readDigit).room s m args below meth c H locs 0 0 (MQ below (PoI g A (w_X3 g z h0 h1 h2 h3 h4 x_signs x_length res.2 x_kinds x_values x_commandCount) res.1) args s 0 0 A) (F0 m pc ls st)
set_option maxHeartbeats 4000000 in
set_option maxRecDepth 100000 in
theorem k_X3_readDigit_0 {p : Program} {l : Launch} {e : Env} {s : State} {m : MethodId} {args : Array Value} {below : List Frame} {meth : Method} {c : Code} {g : GE} {A : Nat → Prop} {z : ZE} {h0 h1 h2 h3 : Nat} {h4 : Nat → Nat} {x_signs : Nat → Int32} {x_length : Int32} {x_position : Int32} {x_kinds : Nat → Option Nat} {x_values : Nat → Nat → Int32} {x_commandCount : Int32} {res : Int32 × Int32} {H : Heap} {locs : List Loc} {ls : Array Slot} 
    (E : En cX3_readDigit RX3 wsX3_readDigit 2 (some .int) p s m args meth c) (hK : KK g s) (hz : KS z s) (hC : CS z A s s.heap) (hA : ∀ q, s.heap.size ≤ q → A q) (h : f_X3_readDigit x_signs x_length x_position = some res) (hW : Wo g A s H locs (w_X3 g z h0 h1 h2 h3 h4 x_signs x_length x_position x_kinds x_values x_commandCount)) (hl : lv_has ls 2 [(0, .ref h0)]) : G_X3_readDigit p l e s m args below meth c g A z h0 h1 h2 h3 h4 x_signs x_length x_kinds x_values x_commandCount res H locs 0 ls [] := by
  have hts := E.2.2.2.1
  unfold f_X3_readDigit at h
  obtain ⟨j21, hj21, h⟩ := jox0 h
  have J21 : ∀ (H : Heap) (locs : List Loc) (ls : Array Slot), j21 = some res → Wo g A s H locs (w_X3 g z h0 h1 h2 h3 h4 x_signs x_length x_position x_kinds x_values x_commandCount) → lv_has ls 2 [] → G_X3_readDigit p l e s m args below meth c g A z h0 h1 h2 h3 h4 x_signs x_length x_kinds x_values x_commandCount res H locs 21 ls [] := by
    intro H locs ls h hW hl
    rw [hj21] at h
    refine lv_iconst (v := (-1)) E.1 E.2.1 dX3_readDigit_21 (by decide) ?_
    obtain rfl := Option.some.inj h
    exact endI E rfl hW dX3_readDigit_22
  refine lv_aload_n E.1 E.2.1 dX3_readDigit_0 rfl (lv_at hl 0 rfl) ?_
  refine lv_aload_n E.1 E.2.1 dX3_readDigit_1 rfl (lv_at hl 0 rfl) ?_
  refine wGet (v := .int x_position) E hK in_X3_readDigit_X3 hW 2 lk_X3_readDigit_19 0 rfl rfl (by decide) rfl rfl dX3_readDigit_2 ?_
  obtain ⟨r5, hc, h⟩ := bx h
  refine goI (world' := (w_X3 g z h0 h1 h2 h3 h4 x_signs x_length x_position x_kinds x_values x_commandCount)) hW hA (is := (rgB 0 19)) (getB rfl rfl) (goVX (rest := []) E hK hz hC hA hW (rgB 0 19) (getB rfl rfl) (by decide +kernel) (c_X3_signAt l g z h0 h1 h2 h3 h4 x_signs x_length x_position x_kinds x_values x_commandCount x_position (hf := hc) H.size) (cwV 1 hts gX3_readDigit_X3_signAt rfl rfl rfl (by decide +kernel) ⟨Nat.le_of_ble_eq_true rfl, Nat.le_of_ble_eq_true rfl⟩) 0 rfl rfl rfl hl.1 rfl rfl (Nat.le_of_ble_eq_true rfl) dX3_readDigit_5 ⟨Nat.zero_le _, Nat.zero_le _⟩) rfl (putB rfl rfl rfl (Nat.le_of_ble_eq_true rfl) rfl) (fun H locs hW => ?_)
  refine lv_istore_n (lv' := [(1, .int r5), (0, .ref h0)]) E.1 E.2.1 dX3_readDigit_8 rfl hl (by decide) rfl (fun ls hl => ?_)
  refine lv_iload_n E.1 E.2.1 dX3_readDigit_9 rfl (lv_at hl 0 rfl) ?_
  refine lv_bipush (v := 48) E.1 E.2.1 dX3_readDigit_10 (by decide) ?_
  refine lv_icmp_lt (tgt := 21) E.1 E.2.1 dX3_readDigit_12 (by decide) (fun c12 => ?_) (fun c12 => ?_)
  · have h := it c12 h
    exact J21  H locs ls h hW (lv_sub hl [] rfl)
  · have h := ie c12 h
    refine lv_iload_n E.1 E.2.1 dX3_readDigit_15 rfl (lv_at hl 0 rfl) ?_
    refine lv_bipush (v := 57) E.1 E.2.1 dX3_readDigit_16 (by decide) ?_
    refine lv_icmp_le (tgt := 23) E.1 E.2.1 dX3_readDigit_18 (by decide) (fun c18 => ?_) (fun c18 => ?_)
    · have h := it c18 h
      refine lv_aload_n E.1 E.2.1 dX3_readDigit_23 rfl (lv_at hl 1 rfl) ?_
      refine lv_dup E.1 E.2.1 dX3_readDigit_24 rfl ?_
      refine wGet (v := .int x_position) E hK in_X3_readDigit_X3 hW 2 lk_X3_readDigit_19 0 rfl rfl (by decide) rfl rfl dX3_readDigit_25 ?_
      refine lv_iconst (v := 1) E.1 E.2.1 dX3_readDigit_28 (by decide) ?_
      refine lv_iadd E.1 E.2.1 dX3_readDigit_29 ?_
      refine wPut (world' := (w_X3 g z h0 h1 h2 h3 h4 x_signs x_length (x_position + 1) x_kinds x_values x_commandCount)) E hK in_X3_readDigit_X3 tyX3 tyX3_ok nmX3 hW 2 lk_X3_readDigit_19 0 rfl rfl (by decide) rfl rfl rfl rfl rfl (Nat.le_of_ble_eq_true rfl) dX3_readDigit_30 rfl (fun H locs hW => ?_)
      refine lv_iload_n E.1 E.2.1 dX3_readDigit_33 rfl (lv_at hl 0 rfl) ?_
      refine lv_bipush (v := 48) E.1 E.2.1 dX3_readDigit_34 (by decide) ?_
      refine lv_isub E.1 E.2.1 dX3_readDigit_36 ?_
      obtain rfl := Option.some.inj h
      exact endI E rfl hW dX3_readDigit_37
    · have h := ie c18 h
      exact J21  H locs ls h hW (lv_sub hl [] rfl)
theorem c_X3_readDigit (l : Launch) (g : GE) (z : ZE) (h0 h1 h2 h3 : Nat) (h4 : Nat → Nat) (x_signs : Nat → Int32) (x_length : Int32) (x_position : Int32) (x_kinds : Nat → Option Nat) (x_values : Nat → Nat → Int32) (x_commandCount : Int32) {res : Int32 × Int32} (hf : f_X3_readDigit x_signs x_length x_position = some res) : XI l yX3_readDigit wsX3_readDigit rm_X3_readDigit g z [.ref h0] (w_X3 g z h0 h1 h2 h3 h4 x_signs x_length x_position x_kinds x_values x_commandCount) (w_X3 g z h0 h1 h2 h3 h4 x_signs x_length res.2 x_kinds x_values x_commandCount) res.1 :=
  mkXI (cc := cX3_readDigit) (maxL := 2) (by decide) rfl (Nat.le_of_ble_eq_true rfl) (fun p e s m args below meth c A H locs ls E hK hz hC hA hW hl => k_X3_readDigit_0 E hK hz hC hA hf hW hl)

/-! PaperStorm$CommandText.readDirection()I X3_readDirection -/
abbrev rm_X3_readDirection : Room := { frames := 1, cells := 0, slots := 0, locals := 21 }
theorem in_X3_readDirection_X3 : ∀ w ∈ wsX30, w ∈ wsX3_readDirection := by decide +kernel
theorem lk_X3_readDirection_19 : Cond.fieldLink RX3 19 "PaperStorm$CommandText" "position" "I" ∈ wsX3_readDirection := by decide +kernel
noncomputable def f_X3_readDirection (x_signs : Nat → Int32) (x_length : Int32) (x_position : Int32) : Option (Int32 × Int32) :=
  (f_X3_signAt x_signs x_length x_position).bind fun r5 => (f_X10_isDirection r5).bind fun r10 => if r10 = 0 then some ((-1), x_position) else some (r5, (x_position + 1))
abbrev G_X3_readDirection (p : Program) (l : Launch) (e : Env) (s : State) (m : MethodId) (args : Array Value) (below : List Frame) (meth : Method) (c : Code) (g : GE) (A : Nat → Prop) (z : ZE) (h0 h1 h2 h3 : Nat) (h4 : Nat → Nat) (x_signs : Nat → Int32) (x_length : Int32) (x_kinds : Nat → Option Nat) (x_values : Nat → Nat → Int32) (x_commandCount : Int32) (res : Int32 × Int32) (H : Heap) (locs : List Loc) (pc : Nat) (ls : Array Slot) (st : List Value) : Prop := W p l e (headSpec wsX3_readDirection rm_X3_readDirection).room s m args below meth c H locs 0 0 (MQ below (PoI g A (w_X3 g z h0 h1 h2 h3 h4 x_signs x_length res.2 x_kinds x_values x_commandCount) res.1) args s 0 0 A) (F0 m pc ls st)
set_option maxHeartbeats 4000000 in
set_option maxRecDepth 100000 in
theorem k_X3_readDirection_0 {p : Program} {l : Launch} {e : Env} {s : State} {m : MethodId} {args : Array Value} {below : List Frame} {meth : Method} {c : Code} {g : GE} {A : Nat → Prop} {z : ZE} {h0 h1 h2 h3 : Nat} {h4 : Nat → Nat} {x_signs : Nat → Int32} {x_length : Int32} {x_position : Int32} {x_kinds : Nat → Option Nat} {x_values : Nat → Nat → Int32} {x_commandCount : Int32} {res : Int32 × Int32} {H : Heap} {locs : List Loc} {ls : Array Slot} 
    (E : En cX3_readDirection RX3 wsX3_readDirection 2 (some .int) p s m args meth c) (hK : KK g s) (hz : KS z s) (hC : CS z A s s.heap) (hA : ∀ q, s.heap.size ≤ q → A q) (h : f_X3_readDirection x_signs x_length x_position = some res) (hW : Wo g A s H locs (w_X3 g z h0 h1 h2 h3 h4 x_signs x_length x_position x_kinds x_values x_commandCount)) (hl : lv_has ls 2 [(0, .ref h0)]) : G_X3_readDirection p l e s m args below meth c g A z h0 h1 h2 h3 h4 x_signs x_length x_kinds x_values x_commandCount res H locs 0 ls [] := by
  have hts := E.2.2.2.1
  unfold f_X3_readDirection at h
  refine lv_aload_n E.1 E.2.1 dX3_readDirection_0 rfl (lv_at hl 0 rfl) ?_
  refine lv_aload_n E.1 E.2.1 dX3_readDirection_1 rfl (lv_at hl 0 rfl) ?_
  refine wGet (v := .int x_position) E hK in_X3_readDirection_X3 hW 2 lk_X3_readDirection_19 0 rfl rfl (by decide) rfl rfl dX3_readDirection_2 ?_
  obtain ⟨r5, hc, h⟩ := bx h
  refine goI (world' := (w_X3 g z h0 h1 h2 h3 h4 x_signs x_length x_position x_kinds x_values x_commandCount)) hW hA (is := (rgB 0 19)) (getB rfl rfl) (goVX (rest := []) E hK hz hC hA hW (rgB 0 19) (getB rfl rfl) (by decide +kernel) (c_X3_signAt l g z h0 h1 h2 h3 h4 x_signs x_length x_position x_kinds x_values x_commandCount x_position (hf := hc) H.size) (cwV 1 hts gX3_readDirection_X3_signAt rfl rfl rfl (by decide +kernel) ⟨Nat.le_of_ble_eq_true rfl, Nat.le_of_ble_eq_true rfl⟩) 0 rfl rfl rfl hl.1 rfl rfl (Nat.le_of_ble_eq_true rfl) dX3_readDirection_5 ⟨Nat.zero_le _, Nat.zero_le _⟩) rfl (putB rfl rfl rfl (Nat.le_of_ble_eq_true rfl) rfl) (fun H locs hW => ?_)
  refine lv_istore_n (lv' := [(1, .int r5), (0, .ref h0)]) E.1 E.2.1 dX3_readDirection_8 rfl hl (by decide) rfl (fun ls hl => ?_)
  refine lv_iload_n E.1 E.2.1 dX3_readDirection_9 rfl (lv_at hl 0 rfl) ?_
  obtain ⟨r10, hc, h⟩ := bx h
  refine goI (world' := (w_X3 g z h0 h1 h2 h3 h4 x_signs x_length x_position x_kinds x_values x_commandCount)) hW hA (is := []) rfl (goS (rest := []) E hK hW [] rfl rfl (c_X10_isDirection l g r5 (hf := hc) H.size) (va_cwS 1 hts gX3_readDirection_X10_isDirection rfl rfl rfl (by decide +kernel) ⟨Nat.le_of_ble_eq_true rfl, Nat.le_of_ble_eq_true rfl⟩) hl.1 rfl rfl (Nat.le_of_ble_eq_true rfl) dX3_readDirection_10 ⟨Nat.zero_le _, Nat.zero_le _⟩) rfl rfl (fun H locs hW => ?_)
  refine lv_if_ne (tgt := 18) E.1 E.2.1 dX3_readDirection_13 (by decide) (fun c13 => ?_) (fun c13 => ?_)
  · have h := ie c13 h
    refine lv_aload_n E.1 E.2.1 dX3_readDirection_18 rfl (lv_at hl 1 rfl) ?_
    refine lv_dup E.1 E.2.1 dX3_readDirection_19 rfl ?_
    refine wGet (v := .int x_position) E hK in_X3_readDirection_X3 hW 2 lk_X3_readDirection_19 0 rfl rfl (by decide) rfl rfl dX3_readDirection_20 ?_
    refine lv_iconst (v := 1) E.1 E.2.1 dX3_readDirection_23 (by decide) ?_
    refine lv_iadd E.1 E.2.1 dX3_readDirection_24 ?_
    refine wPut (world' := (w_X3 g z h0 h1 h2 h3 h4 x_signs x_length (x_position + 1) x_kinds x_values x_commandCount)) E hK in_X3_readDirection_X3 tyX3 tyX3_ok nmX3 hW 2 lk_X3_readDirection_19 0 rfl rfl (by decide) rfl rfl rfl rfl rfl (Nat.le_of_ble_eq_true rfl) dX3_readDirection_25 rfl (fun H locs hW => ?_)
    refine lv_iload_n E.1 E.2.1 dX3_readDirection_28 rfl (lv_at hl 0 rfl) ?_
    obtain rfl := Option.some.inj h
    exact endI E rfl hW dX3_readDirection_29
  · have h := it c13 h
    refine lv_iconst (v := (-1)) E.1 E.2.1 dX3_readDirection_16 (by decide) ?_
    obtain rfl := Option.some.inj h
    exact endI E rfl hW dX3_readDirection_17
theorem c_X3_readDirection (l : Launch) (g : GE) (z : ZE) (h0 h1 h2 h3 : Nat) (h4 : Nat → Nat) (x_signs : Nat → Int32) (x_length : Int32) (x_position : Int32) (x_kinds : Nat → Option Nat) (x_values : Nat → Nat → Int32) (x_commandCount : Int32) {res : Int32 × Int32} (hf : f_X3_readDirection x_signs x_length x_position = some res) : XI l yX3_readDirection wsX3_readDirection rm_X3_readDirection g z [.ref h0] (w_X3 g z h0 h1 h2 h3 h4 x_signs x_length x_position x_kinds x_values x_commandCount) (w_X3 g z h0 h1 h2 h3 h4 x_signs x_length res.2 x_kinds x_values x_commandCount) res.1 :=
  mkXI (cc := cX3_readDirection) (maxL := 2) (by decide) rfl (Nat.le_of_ble_eq_true rfl) (fun p e s m args below meth c A H locs ls E hK hz hC hA hW hl => k_X3_readDirection_0 E hK hz hC hA hf hW hl)

