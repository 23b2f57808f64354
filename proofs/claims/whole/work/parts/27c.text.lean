/-! PaperStorm$CommandText.readParameter(C)I X3_readParameter -/
abbrev rm_X3_readParameter : Room := { frames := 3, cells := 0, slots := 0, locals := 64 }
noncomputable def f_X3_readParameter (x_signs : Nat → Int32) (x_length : Int32) (x_position : Int32) (a1 : Int32) : Option (Int32 × Int32) :=
  if a1 = 99 then (f_X3_readDirection x_signs x_length x_position).bind fun r7 => some (r7.1, r7.2) else (f_X3_readSign x_signs x_length x_position 32).bind fun r14 => if r14.1 = 0 then some ((-1), r14.2) else jo (fun (l2_59 : Int32) (x_position_59 : Int32) => some (l2_59, x_position_59)) (fun j59 => (f_X3_readDigit x_signs x_length r14.2).bind fun r23 => if a1 = 110 then if r23.1 = (-1) then j59 r23.1 r23.2 else jo (fun (x_position_58 : Int32) (s0_58 : Int32) => some (s0_58, x_position_58)) (fun j58 => (f_X3_readDigit x_signs x_length r23.2).bind fun r39 => if r39.1 = (-1) then j58 r39.2 r23.1 else j58 r39.2 ((r23.1 * 10) + r39.1)) else j59 r23.1 r23.2)
abbrev G_X3_readParameter (p : Program) (l : Launch) (e : Env) (s : State) (m : MethodId) (args : Array Value) (below : List Frame) (meth : Method) (c : Code) (g : GE) (A : Nat → Prop) (z : ZE) (h0 h1 h2 h3 : Nat) (h4 : Nat → Nat) (x_signs : Nat → Int32) (x_length : Int32) (x_kinds : Nat → Option Nat) (x_values : Nat → Nat → Int32) (x_commandCount : Int32) (res : Int32 × Int32) (H : Heap) (locs : List Loc) (pc : Nat) (ls : Array Slot) (st : List Value) : Prop := W p l e (headSpec wsX3_readParameter rm_X3_readParameter).room s m args below meth c H locs 0 0 (MQ below (PoI g A (w_X3 g z h0 h1 h2 h3 h4 x_signs x_length res.2 x_kinds x_values x_commandCount) res.1) args s 0 0 A) (F0 m pc ls st)
set_option maxHeartbeats 4000000 in
set_option maxRecDepth 100000 in
theorem k_X3_readParameter_0 {p : Program} {l : Launch} {e : Env} {s : State} {m : MethodId} {args : Array Value} {below : List Frame} {meth : Method} {c : Code} {g : GE} {A : Nat → Prop} {z : ZE} {h0 h1 h2 h3 : Nat} {h4 : Nat → Nat} {x_signs : Nat → Int32} {x_length : Int32} {x_position : Int32} {x_kinds : Nat → Option Nat} {x_values : Nat → Nat → Int32} {x_commandCount : Int32} {res : Int32 × Int32} {H : Heap} {locs : List Loc} {ls : Array Slot} {a1 : Int32}
    (E : En cX3_readParameter RX3 wsX3_readParameter 4 (some .int) p s m args meth c) (hK : KK g s) (hz : KS z s) (hC : CS z A s s.heap) (hA : ∀ q, s.heap.size ≤ q → A q) (h : f_X3_readParameter x_signs x_length x_position a1 = some res) (hW : Wo g A s H locs (w_X3 g z h0 h1 h2 h3 h4 x_signs x_length x_position x_kinds x_values x_commandCount)) (hl : lv_has ls 4 [(0, .ref h0), (1, .int a1)]) : G_X3_readParameter p l e s m args below meth c g A z h0 h1 h2 h3 h4 x_signs x_length x_kinds x_values x_commandCount res H locs 0 ls [] := by
  have hts := E.2.2.2.1
  unfold f_X3_readParameter at h
  refine lv_iload_n E.1 E.2.1 dX3_readParameter_0 rfl (lv_at hl 1 rfl) ?_
  refine lv_bipush (v := 99) E.1 E.2.1 dX3_readParameter_1 (by decide) ?_
  refine lv_icmp_ne (tgt := 11) E.1 E.2.1 dX3_readParameter_3 (by decide) (fun c3 => ?_) (fun c3 => ?_)
  · have h := ie c3 h
    refine lv_aload_n E.1 E.2.1 dX3_readParameter_11 rfl (lv_at hl 0 rfl) ?_
    refine lv_bipush (v := 32) E.1 E.2.1 dX3_readParameter_12 (by decide) ?_
    obtain ⟨r14, hc, h⟩ := bx h
    refine goI (world' := (w_X3 g z h0 h1 h2 h3 h4 x_signs x_length r14.2 x_kinds x_values x_commandCount)) hW hA (is := (rgB 0 19)) (getB rfl rfl) (goVX (rest := []) E hK hz hC hA hW (rgB 0 19) (getB rfl rfl) (by decide +kernel) (c_X3_readSign l g z h0 h1 h2 h3 h4 x_signs x_length x_position x_kinds x_values x_commandCount 32 (hf := hc) H.size) (cwV 1 hts gX3_readParameter_X3_readSign rfl rfl rfl (by decide +kernel) ⟨Nat.le_of_ble_eq_true rfl, Nat.le_of_ble_eq_true rfl⟩) 0 rfl rfl rfl hl.1 rfl rfl (Nat.le_of_ble_eq_true rfl) dX3_readParameter_14 ⟨Nat.zero_le _, Nat.zero_le _⟩) rfl (putB rfl rfl rfl (Nat.le_of_ble_eq_true rfl) rfl) (fun H locs hW => ?_)
    refine lv_if_ne (tgt := 22) E.1 E.2.1 dX3_readParameter_17 (by decide) (fun c17 => ?_) (fun c17 => ?_)
    · have h := ie c17 h
      obtain ⟨j59, hj59, h⟩ := jox2 h
      have J59 : ∀ (l2_59 : Int32) (x_position_59 : Int32) (H : Heap) (locs : List Loc) (ls : Array Slot), j59 l2_59 x_position_59 = some res → Wo g A s H locs (w_X3 g z h0 h1 h2 h3 h4 x_signs x_length x_position_59 x_kinds x_values x_commandCount) → lv_has ls 4 [(2, .int l2_59)] → G_X3_readParameter p l e s m args below meth c g A z h0 h1 h2 h3 h4 x_signs x_length x_kinds x_values x_commandCount res H locs 59 ls [] := by
        intro l2_59 x_position_59 H locs ls h hW hl
        rw [hj59] at h
        refine lv_iload_n E.1 E.2.1 dX3_readParameter_59 rfl (lv_at hl 0 rfl) ?_
        obtain rfl := Option.some.inj h
        exact endI E rfl hW dX3_readParameter_60
      refine lv_aload_n E.1 E.2.1 dX3_readParameter_22 rfl (lv_at hl 0 rfl) ?_
      obtain ⟨r23, hc, h⟩ := bx h
      refine goI (world' := (w_X3 g z h0 h1 h2 h3 h4 x_signs x_length r23.2 x_kinds x_values x_commandCount)) hW hA (is := (rgB 0 19)) (getB rfl rfl) (goVX (rest := []) E hK hz hC hA hW (rgB 0 19) (getB rfl rfl) (by decide +kernel) (c_X3_readDigit l g z h0 h1 h2 h3 h4 x_signs x_length r14.2 x_kinds x_values x_commandCount (hf := hc) H.size) (cwV 0 hts gX3_readParameter_X3_readDigit rfl rfl rfl (by decide +kernel) ⟨Nat.le_of_ble_eq_true rfl, Nat.le_of_ble_eq_true rfl⟩) 0 rfl rfl rfl hl.1 rfl rfl (Nat.le_of_ble_eq_true rfl) dX3_readParameter_23 ⟨Nat.zero_le _, Nat.zero_le _⟩) rfl (putB rfl rfl rfl (Nat.le_of_ble_eq_true rfl) rfl) (fun H locs hW => ?_)
      refine lv_istore_n (lv' := [(2, .int r23.1), (0, .ref h0), (1, .int a1)]) E.1 E.2.1 dX3_readParameter_26 rfl hl (by decide) rfl (fun ls hl => ?_)
      refine lv_iload_n E.1 E.2.1 dX3_readParameter_27 rfl (lv_at hl 2 rfl) ?_
      refine lv_bipush (v := 110) E.1 E.2.1 dX3_readParameter_28 (by decide) ?_
      refine lv_icmp_ne (tgt := 59) E.1 E.2.1 dX3_readParameter_30 (by decide) (fun c30 => ?_) (fun c30 => ?_)
      · have h := ie c30 h
        exact J59 r23.1 r23.2 H locs ls h hW (lv_sub hl [0] rfl)
      · have h := it c30 h
        refine lv_iload_n E.1 E.2.1 dX3_readParameter_33 rfl (lv_at hl 0 rfl) ?_
        refine lv_iconst (v := (-1)) E.1 E.2.1 dX3_readParameter_34 (by decide) ?_
        refine lv_icmp_eq (tgt := 59) E.1 E.2.1 dX3_readParameter_35 (by decide) (fun c35 => ?_) (fun c35 => ?_)
        · have h := it c35 h
          exact J59 r23.1 r23.2 H locs ls h hW (lv_sub hl [0] rfl)
        · have h := ie c35 h
          obtain ⟨j58, hj58, h⟩ := jox2 h
          have J58 : ∀ (x_position_58 : Int32) (s0_58 : Int32) (H : Heap) (locs : List Loc) (ls : Array Slot), j58 x_position_58 s0_58 = some res → Wo g A s H locs (w_X3 g z h0 h1 h2 h3 h4 x_signs x_length x_position_58 x_kinds x_values x_commandCount) → lv_has ls 4 [] → G_X3_readParameter p l e s m args below meth c g A z h0 h1 h2 h3 h4 x_signs x_length x_kinds x_values x_commandCount res H locs 58 ls [.int s0_58] := by
            intro x_position_58 s0_58 H locs ls h hW hl
            rw [hj58] at h
            obtain rfl := Option.some.inj h
            exact endI E rfl hW dX3_readParameter_58
          refine lv_aload_n E.1 E.2.1 dX3_readParameter_38 rfl (lv_at hl 1 rfl) ?_
          obtain ⟨r39, hc, h⟩ := bx h
          refine goI (world' := (w_X3 g z h0 h1 h2 h3 h4 x_signs x_length r39.2 x_kinds x_values x_commandCount)) hW hA (is := (rgB 0 19)) (getB rfl rfl) (goVX (rest := []) E hK hz hC hA hW (rgB 0 19) (getB rfl rfl) (by decide +kernel) (c_X3_readDigit l g z h0 h1 h2 h3 h4 x_signs x_length r23.2 x_kinds x_values x_commandCount (hf := hc) H.size) (cwV 0 hts gX3_readParameter_X3_readDigit rfl rfl rfl (by decide +kernel) ⟨Nat.le_of_ble_eq_true rfl, Nat.le_of_ble_eq_true rfl⟩) 0 rfl rfl rfl hl.1 rfl rfl (Nat.le_of_ble_eq_true rfl) dX3_readParameter_39 ⟨Nat.zero_le _, Nat.zero_le _⟩) rfl (putB rfl rfl rfl (Nat.le_of_ble_eq_true rfl) rfl) (fun H locs hW => ?_)
          refine lv_istore_n (lv' := [(3, .int r39.1), (2, .int r23.1), (0, .ref h0), (1, .int a1)]) E.1 E.2.1 dX3_readParameter_42 rfl hl (by decide) rfl (fun ls hl => ?_)
          refine lv_iload_n E.1 E.2.1 dX3_readParameter_43 rfl (lv_at hl 0 rfl) ?_
          refine lv_iconst (v := (-1)) E.1 E.2.1 dX3_readParameter_44 (by decide) ?_
          refine lv_icmp_ne (tgt := 52) E.1 E.2.1 dX3_readParameter_45 (by decide) (fun c45 => ?_) (fun c45 => ?_)
          · have h := ie c45 h
            refine lv_iload_n E.1 E.2.1 dX3_readParameter_52 rfl (lv_at hl 1 rfl) ?_
            refine lv_bipush (v := 10) E.1 E.2.1 dX3_readParameter_53 (by decide) ?_
            refine lv_imul E.1 E.2.1 dX3_readParameter_55 ?_
            refine lv_iload_n E.1 E.2.1 dX3_readParameter_56 rfl (lv_at hl 0 rfl) ?_
            refine lv_iadd E.1 E.2.1 dX3_readParameter_57 ?_
            exact J58 r39.2 ((r23.1 * 10) + r39.1) H locs ls h hW (lv_sub hl [] rfl)
          · have h := it c45 h
            refine lv_iload_n E.1 E.2.1 dX3_readParameter_48 rfl (lv_at hl 1 rfl) ?_
            refine lv_goto (tgt := 58) E.1 E.2.1 dX3_readParameter_49 (by decide) ?_
            exact J58 r39.2 r23.1 H locs ls h hW (lv_sub hl [] rfl)
    · have h := it c17 h
      refine lv_iconst (v := (-1)) E.1 E.2.1 dX3_readParameter_20 (by decide) ?_
      obtain rfl := Option.some.inj h
      exact endI E rfl hW dX3_readParameter_21
  · have h := it c3 h
    refine lv_aload_n E.1 E.2.1 dX3_readParameter_6 rfl (lv_at hl 0 rfl) ?_
    obtain ⟨r7, hc, h⟩ := bx h
    refine goI (world' := (w_X3 g z h0 h1 h2 h3 h4 x_signs x_length r7.2 x_kinds x_values x_commandCount)) hW hA (is := (rgB 0 19)) (getB rfl rfl) (goVX (rest := []) E hK hz hC hA hW (rgB 0 19) (getB rfl rfl) (by decide +kernel) (c_X3_readDirection l g z h0 h1 h2 h3 h4 x_signs x_length x_position x_kinds x_values x_commandCount (hf := hc) H.size) (cwV 0 hts gX3_readParameter_X3_readDirection rfl rfl rfl (by decide +kernel) ⟨Nat.le_of_ble_eq_true rfl, Nat.le_of_ble_eq_true rfl⟩) 0 rfl rfl rfl hl.1 rfl rfl (Nat.le_of_ble_eq_true rfl) dX3_readParameter_7 ⟨Nat.zero_le _, Nat.zero_le _⟩) rfl (putB rfl rfl rfl (Nat.le_of_ble_eq_true rfl) rfl) (fun H locs hW => ?_)
    obtain rfl := Option.some.inj h
    exact endI E rfl hW dX3_readParameter_10
theorem c_X3_readParameter (l : Launch) (g : GE) (z : ZE) (h0 h1 h2 h3 : Nat) (h4 : Nat → Nat) (x_signs : Nat → Int32) (x_length : Int32) (x_position : Int32) (x_kinds : Nat → Option Nat) (x_values : Nat → Nat → Int32) (x_commandCount : Int32) (a1 : Int32) {res : Int32 × Int32} (hf : f_X3_readParameter x_signs x_length x_position a1 = some res) : XI l yX3_readParameter wsX3_readParameter rm_X3_readParameter g z [.ref h0, .int a1] (w_X3 g z h0 h1 h2 h3 h4 x_signs x_length x_position x_kinds x_values x_commandCount) (w_X3 g z h0 h1 h2 h3 h4 x_signs x_length res.2 x_kinds x_values x_commandCount) res.1 :=
  mkXI (cc := cX3_readParameter) (maxL := 4) (by decide) rfl (Nat.le_of_ble_eq_true rfl) (fun p e s m args below meth c A H locs ls E hK hz hC hA hW hl => k_X3_readParameter_0 E hK hz hC hA hf hW hl)

