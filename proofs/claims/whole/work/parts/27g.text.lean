/-! PaperStorm$CommandText.parse()I X3_parse -/
abbrev rm_X3_parse : Room := { frames := 7, cells := 0, slots := 0, locals := 157 }
theorem in_X3_parse_X3 : ∀ w ∈ wsX30, w ∈ wsX3_parse := by decide +kernel
theorem lk_X3_parse_15 : Cond.fieldLink RX3 15 "PaperStorm$CommandText" "length" "I" ∈ wsX3_parse := by decide +kernel
theorem lk_X3_parse_19 : Cond.fieldLink RX3 19 "PaperStorm$CommandText" "position" "I" ∈ wsX3_parse := by decide +kernel
theorem lk_X3_parse_33 : Cond.fieldLink RX3 33 "PaperStorm$CommandText" "commandCount" "I" ∈ wsX3_parse := by decide +kernel
noncomputable def f_X3_parse_12 (x_signs : Nat → Int32) (x_length : Int32) (z74 : Int32 → (Nat → Option Nat) → (Nat → Nat → Int32) → Int32 → Option (Int32 × Int32 × (Nat → Option Nat) × (Nat → Nat → Int32) × Int32)) (z26 : Int32 → (Nat → Option Nat) → (Nat → Nat → Int32) → Int32 → Option (Int32 × Int32 × (Nat → Option Nat) × (Nat → Nat → Int32) × Int32)) (z52 : Int32 → (Nat → Option Nat) → (Nat → Nat → Int32) → Int32 → Option (Int32 × Int32 × (Nat → Option Nat) × (Nat → Nat → Int32) × Int32)) (z63 : Int32 → (Nat → Option Nat) → (Nat → Nat → Int32) → Int32 → Option (Int32 × Int32 × (Nat → Option Nat) × (Nat → Nat → Int32) × Int32)) : Nat → Int32 → Int32 → (Nat → Option Nat) → (Nat → Nat → Int32) → Int32 → Option (Int32 × Int32 × (Nat → Option Nat) × (Nat → Nat → Int32) × Int32)
  | 0, _, _, _, _, _ => none
  | n + 1, l1_12, x_position_12, x_kinds_12, x_values_12, x_commandCount_12 => if 15 ≤ l1_12 then z74 x_position_12 x_kinds_12 x_values_12 x_commandCount_12 else (f_X3_readCommand x_signs x_length x_position_12 x_kinds_12 x_values_12 l1_12).bind fun r20 => if r20.1 = 0 then z26 r20.2.1 r20.2.2.1 r20.2.2.2 x_commandCount_12 else if r20.2.1 < x_length then (f_X3_readSign x_signs x_length r20.2.1 59).bind fun r57 => if r57.1 = 0 then z63 r57.2 r20.2.2.1 r20.2.2.2 (x_commandCount_12 + 1) else f_X3_parse_12 x_signs x_length z74 z26 z52 z63 n (l1_12 + 1) r57.2 r20.2.2.1 r20.2.2.2 (x_commandCount_12 + 1) else z52 r20.2.1 r20.2.2.1 r20.2.2.2 (x_commandCount_12 + 1)
noncomputable def f_X3_parse (x_signs : Nat → Int32) (x_length : Int32) (x_position : Int32) (x_kinds : Nat → Option Nat) (x_values : Nat → Nat → Int32) (x_commandCount : Int32) : Option (Int32 × Int32 × (Nat → Option Nat) × (Nat → Nat → Int32) × Int32) :=
  f_X3_parse_12 x_signs x_length (fun x_position_74e x_kinds_74e x_values_74e x_commandCount_74e => some (x_position_74e, x_position_74e, x_kinds_74e, x_values_74e, x_commandCount_74e)) (fun x_position_26e x_kinds_26e x_values_26e x_commandCount_26e => some (x_position_26e, x_position_26e, x_kinds_26e, x_values_26e, x_commandCount_26e)) (fun x_position_52e x_kinds_52e x_values_52e x_commandCount_52e => some ((-1), x_position_52e, x_kinds_52e, x_values_52e, x_commandCount_52e)) (fun x_position_63e x_kinds_63e x_values_63e x_commandCount_63e => some (x_position_63e, x_position_63e, x_kinds_63e, x_values_63e, x_commandCount_63e)) 1000 0 0 x_kinds x_values 0
abbrev G_X3_parse (p : Program) (l : Launch) (e : Env) (s : State) (m : MethodId) (args : Array Value) (below : List Frame) (meth : Method) (c : Code) (g : GE) (A : Nat → Prop) (z : ZE) (h0 h1 h2 h3 : Nat) (h4 : Nat → Nat) (x_signs : Nat → Int32) (x_length : Int32) (res : Int32 × Int32 × (Nat → Option Nat) × (Nat → Nat → Int32) × Int32) (H : Heap) (locs : List Loc) (pc : Nat) (ls : Array Slot) (st : List Value) : Prop := W p l e (headSpec wsX3_parse rm_X3_parse).room s m args below meth c H locs 0 0 (MQ below (PoI g A (w_X3 g z h0 h1 h2 h3 h4 x_signs x_length res.2.1 res.2.2.1 res.2.2.2.1 res.2.2.2.2) res.1) args s 0 0 A) (F0 m pc ls st)
set_option maxHeartbeats 4000000 in
set_option maxRecDepth 100000 in
theorem k_X3_parse_12 {p : Program} {l : Launch} {e : Env} {s : State} {m : MethodId} {args : Array Value} {below : List Frame} {meth : Method} {c : Code} {g : GE} {A : Nat → Prop} {z : ZE} {h0 h1 h2 h3 : Nat} {h4 : Nat → Nat} {x_signs : Nat → Int32} {x_length : Int32} {res : Int32 × Int32 × (Nat → Option Nat) × (Nat → Nat → Int32) × Int32} {z74 : Int32 → (Nat → Option Nat) → (Nat → Nat → Int32) → Int32 → Option (Int32 × Int32 × (Nat → Option Nat) × (Nat → Nat → Int32) × Int32)} {z26 : Int32 → (Nat → Option Nat) → (Nat → Nat → Int32) → Int32 → Option (Int32 × Int32 × (Nat → Option Nat) × (Nat → Nat → Int32) × Int32)} {z52 : Int32 → (Nat → Option Nat) → (Nat → Nat → Int32) → Int32 → Option (Int32 × Int32 × (Nat → Option Nat) × (Nat → Nat → Int32) × Int32)} {z63 : Int32 → (Nat → Option Nat) → (Nat → Nat → Int32) → Int32 → Option (Int32 × Int32 × (Nat → Option Nat) × (Nat → Nat → Int32) × Int32)}
    (E : En cX3_parse RX3 wsX3_parse 2 (some .int) p s m args meth c) (hK : KK g s) (hz : KS z s) (hC : CS z A s s.heap) (hA : ∀ q, s.heap.size ≤ q → A q)
    (hz74 : ∀ (x_position_74e : Int32) (x_kinds_74e : Nat → Option Nat) (x_values_74e : Nat → Nat → Int32) (x_commandCount_74e : Int32) (H : Heap) (locs : List Loc) (ls : Array Slot), z74 x_position_74e x_kinds_74e x_values_74e x_commandCount_74e = some res → Wo g A s H locs (w_X3 g z h0 h1 h2 h3 h4 x_signs x_length x_position_74e x_kinds_74e x_values_74e x_commandCount_74e) → lv_has ls 2 [(0, .ref h0)] → G_X3_parse p l e s m args below meth c g A z h0 h1 h2 h3 h4 x_signs x_length res H locs 74 ls [])
    (hz26 : ∀ (x_position_26e : Int32) (x_kinds_26e : Nat → Option Nat) (x_values_26e : Nat → Nat → Int32) (x_commandCount_26e : Int32) (H : Heap) (locs : List Loc) (ls : Array Slot), z26 x_position_26e x_kinds_26e x_values_26e x_commandCount_26e = some res → Wo g A s H locs (w_X3 g z h0 h1 h2 h3 h4 x_signs x_length x_position_26e x_kinds_26e x_values_26e x_commandCount_26e) → lv_has ls 2 [(0, .ref h0)] → G_X3_parse p l e s m args below meth c g A z h0 h1 h2 h3 h4 x_signs x_length res H locs 26 ls [])
    (hz52 : ∀ (x_position_52e : Int32) (x_kinds_52e : Nat → Option Nat) (x_values_52e : Nat → Nat → Int32) (x_commandCount_52e : Int32) (H : Heap) (locs : List Loc) (ls : Array Slot), z52 x_position_52e x_kinds_52e x_values_52e x_commandCount_52e = some res → Wo g A s H locs (w_X3 g z h0 h1 h2 h3 h4 x_signs x_length x_position_52e x_kinds_52e x_values_52e x_commandCount_52e) → lv_has ls 2 [] → G_X3_parse p l e s m args below meth c g A z h0 h1 h2 h3 h4 x_signs x_length res H locs 52 ls [])
    (hz63 : ∀ (x_position_63e : Int32) (x_kinds_63e : Nat → Option Nat) (x_values_63e : Nat → Nat → Int32) (x_commandCount_63e : Int32) (H : Heap) (locs : List Loc) (ls : Array Slot), z63 x_position_63e x_kinds_63e x_values_63e x_commandCount_63e = some res → Wo g A s H locs (w_X3 g z h0 h1 h2 h3 h4 x_signs x_length x_position_63e x_kinds_63e x_values_63e x_commandCount_63e) → lv_has ls 2 [(0, .ref h0)] → G_X3_parse p l e s m args below meth c g A z h0 h1 h2 h3 h4 x_signs x_length res H locs 63 ls [])
    : ∀ (n : Nat) (l1_12 : Int32) (x_position_12 : Int32) (x_kinds_12 : Nat → Option Nat) (x_values_12 : Nat → Nat → Int32) (x_commandCount_12 : Int32) (H : Heap) (locs : List Loc) (ls : Array Slot), f_X3_parse_12 x_signs x_length z74 z26 z52 z63 n l1_12 x_position_12 x_kinds_12 x_values_12 x_commandCount_12 = some res → Wo g A s H locs (w_X3 g z h0 h1 h2 h3 h4 x_signs x_length x_position_12 x_kinds_12 x_values_12 x_commandCount_12) → lv_has ls 2 [(0, .ref h0), (1, .int l1_12)] → G_X3_parse p l e s m args below meth c g A z h0 h1 h2 h3 h4 x_signs x_length res H locs 12 ls [] := by
  have hts := E.2.2.2.1
  intro n
  induction n with
  | zero => intro l1_12 x_position_12 x_kinds_12 x_values_12 x_commandCount_12 H locs ls h hW hl; rw [f_X3_parse_12] at h; cases h
  | succ n ih =>
    intro l1_12 x_position_12 x_kinds_12 x_values_12 x_commandCount_12 H locs ls h hW hl
    rw [f_X3_parse_12] at h
    refine lv_iload_n E.1 E.2.1 dX3_parse_12 rfl (lv_at hl 1 rfl) ?_
    refine lv_bipush (v := 15) E.1 E.2.1 dX3_parse_13 (by decide) ?_
    refine lv_icmp_ge (tgt := 74) E.1 E.2.1 dX3_parse_15 (by decide) (fun c15 => ?_) (fun c15 => ?_)
    · have h := it c15 h
      exact hz74 x_position_12 x_kinds_12 x_values_12 x_commandCount_12 H locs ls h hW (lv_sub hl [0] rfl)
    · have h := ie c15 h
      refine lv_aload_n E.1 E.2.1 dX3_parse_18 rfl (lv_at hl 0 rfl) ?_
      refine lv_iload_n E.1 E.2.1 dX3_parse_19 rfl (lv_at hl 1 rfl) ?_
      obtain ⟨r20, hc, h⟩ := bx h
      refine goI (world' := (w_X3 g z h0 h1 h2 h3 h4 x_signs x_length r20.2.1 r20.2.2.1 r20.2.2.2 x_commandCount_12)) hW hA (is := (rgB 0 19)) (getB rfl rfl) (goVX (rest := []) E hK hz hC hA hW (rgB 0 19) (getB rfl rfl) (by decide +kernel) (c_X3_readCommand l g z h0 h1 h2 h3 h4 x_signs x_length x_position_12 x_kinds_12 x_values_12 x_commandCount_12 l1_12 (hf := hc) H.size) (cwV 1 hts gX3_parse_X3_readCommand rfl rfl rfl (by decide +kernel) ⟨Nat.le_of_ble_eq_true rfl, Nat.le_of_ble_eq_true rfl⟩) 0 rfl rfl rfl hl.1 rfl rfl (Nat.le_of_ble_eq_true rfl) dX3_parse_20 ⟨Nat.zero_le _, Nat.zero_le _⟩) rfl (putB rfl rfl rfl (Nat.le_of_ble_eq_true rfl) rfl) (fun H locs hW => ?_)
      refine lv_if_ne (tgt := 31) E.1 E.2.1 dX3_parse_23 (by decide) (fun c23 => ?_) (fun c23 => ?_)
      · have h := ie c23 h
        refine lv_aload_n E.1 E.2.1 dX3_parse_31 rfl (lv_at hl 0 rfl) ?_
        refine lv_dup E.1 E.2.1 dX3_parse_32 rfl ?_
        refine wGet (v := .int x_commandCount_12) E hK in_X3_parse_X3 hW 5 lk_X3_parse_33 0 rfl rfl (by decide) rfl rfl dX3_parse_33 ?_
        refine lv_iconst (v := 1) E.1 E.2.1 dX3_parse_36 (by decide) ?_
        refine lv_iadd E.1 E.2.1 dX3_parse_37 ?_
        refine wPut (world' := (w_X3 g z h0 h1 h2 h3 h4 x_signs x_length r20.2.1 r20.2.2.1 r20.2.2.2 (x_commandCount_12 + 1))) E hK in_X3_parse_X3 tyX3 tyX3_ok nmX3 hW 5 lk_X3_parse_33 0 rfl rfl (by decide) rfl rfl rfl rfl rfl (Nat.le_of_ble_eq_true rfl) dX3_parse_38 rfl (fun H locs hW => ?_)
        refine lv_aload_n E.1 E.2.1 dX3_parse_41 rfl (lv_at hl 0 rfl) ?_
        refine wGet (v := .int r20.2.1) E hK in_X3_parse_X3 hW 2 lk_X3_parse_19 0 rfl rfl (by decide) rfl rfl dX3_parse_42 ?_
        refine lv_aload_n E.1 E.2.1 dX3_parse_45 rfl (lv_at hl 0 rfl) ?_
        refine wGet (v := .int x_length) E hK in_X3_parse_X3 hW 1 lk_X3_parse_15 0 rfl rfl (by decide) rfl rfl dX3_parse_46 ?_
        refine lv_icmp_lt (tgt := 54) E.1 E.2.1 dX3_parse_49 (by decide) (fun c49 => ?_) (fun c49 => ?_)
        · have h := it c49 h
          refine lv_aload_n E.1 E.2.1 dX3_parse_54 rfl (lv_at hl 0 rfl) ?_
          refine lv_bipush (v := 59) E.1 E.2.1 dX3_parse_55 (by decide) ?_
          obtain ⟨r57, hc, h⟩ := bx h
          refine goI (world' := (w_X3 g z h0 h1 h2 h3 h4 x_signs x_length r57.2 r20.2.2.1 r20.2.2.2 (x_commandCount_12 + 1))) hW hA (is := (rgB 0 19)) (getB rfl rfl) (goVX (rest := []) E hK hz hC hA hW (rgB 0 19) (getB rfl rfl) (by decide +kernel) (c_X3_readSign l g z h0 h1 h2 h3 h4 x_signs x_length r20.2.1 r20.2.2.1 r20.2.2.2 (x_commandCount_12 + 1) 59 (hf := hc) H.size) (cwV 1 hts gX3_parse_X3_readSign rfl rfl rfl (by decide +kernel) ⟨Nat.le_of_ble_eq_true rfl, Nat.le_of_ble_eq_true rfl⟩) 0 rfl rfl rfl hl.1 rfl rfl (Nat.le_of_ble_eq_true rfl) dX3_parse_57 ⟨Nat.zero_le _, Nat.zero_le _⟩) rfl (putB rfl rfl rfl (Nat.le_of_ble_eq_true rfl) rfl) (fun H locs hW => ?_)
          refine lv_if_ne (tgt := 68) E.1 E.2.1 dX3_parse_60 (by decide) (fun c60 => ?_) (fun c60 => ?_)
          · have h := ie c60 h
            refine lv_iinc (v := (l1_12 + 1)) (lv' := [(1, .int (l1_12 + 1)), (0, .ref h0)]) E.1 E.2.1 dX3_parse_68 hl (k := 1) rfl rfl (by decide) rfl (fun ls hl => ?_)
            refine lv_goto (tgt := 12) E.1 E.2.1 dX3_parse_71 (by decide) ?_
            exact ih (l1_12 + 1) r57.2 r20.2.2.1 r20.2.2.2 (x_commandCount_12 + 1) H locs ls h hW (lv_sub hl [1, 0] rfl)
          · have h := it c60 h
            exact hz63 r57.2 r20.2.2.1 r20.2.2.2 (x_commandCount_12 + 1) H locs ls h hW (lv_sub hl [0] rfl)
        · have h := ie c49 h
          exact hz52 r20.2.1 r20.2.2.1 r20.2.2.2 (x_commandCount_12 + 1) H locs ls h hW (lv_sub hl [] rfl)
      · have h := it c23 h
        exact hz26 r20.2.1 r20.2.2.1 r20.2.2.2 x_commandCount_12 H locs ls h hW (lv_sub hl [0] rfl)
set_option maxHeartbeats 4000000 in
set_option maxRecDepth 100000 in
theorem k_X3_parse_0 {p : Program} {l : Launch} {e : Env} {s : State} {m : MethodId} {args : Array Value} {below : List Frame} {meth : Method} {c : Code} {g : GE} {A : Nat → Prop} {z : ZE} {h0 h1 h2 h3 : Nat} {h4 : Nat → Nat} {x_signs : Nat → Int32} {x_length : Int32} {x_position : Int32} {x_kinds : Nat → Option Nat} {x_values : Nat → Nat → Int32} {x_commandCount : Int32} {res : Int32 × Int32 × (Nat → Option Nat) × (Nat → Nat → Int32) × Int32} {H : Heap} {locs : List Loc} {ls : Array Slot} 
    (E : En cX3_parse RX3 wsX3_parse 2 (some .int) p s m args meth c) (hK : KK g s) (hz : KS z s) (hC : CS z A s s.heap) (hA : ∀ q, s.heap.size ≤ q → A q) (h : f_X3_parse x_signs x_length x_position x_kinds x_values x_commandCount = some res) (hW : Wo g A s H locs (w_X3 g z h0 h1 h2 h3 h4 x_signs x_length x_position x_kinds x_values x_commandCount)) (hl : lv_has ls 2 [(0, .ref h0)]) : G_X3_parse p l e s m args below meth c g A z h0 h1 h2 h3 h4 x_signs x_length res H locs 0 ls [] := by
  have hts := E.2.2.2.1
  unfold f_X3_parse at h
  refine lv_aload_n E.1 E.2.1 dX3_parse_0 rfl (lv_at hl 0 rfl) ?_
  refine lv_iconst (v := 0) E.1 E.2.1 dX3_parse_1 (by decide) ?_
  refine wPut (world' := (w_X3 g z h0 h1 h2 h3 h4 x_signs x_length 0 x_kinds x_values x_commandCount)) E hK in_X3_parse_X3 tyX3 tyX3_ok nmX3 hW 2 lk_X3_parse_19 0 rfl rfl (by decide) rfl rfl rfl rfl rfl (Nat.le_of_ble_eq_true rfl) dX3_parse_2 rfl (fun H locs hW => ?_)
  refine lv_aload_n E.1 E.2.1 dX3_parse_5 rfl (lv_at hl 0 rfl) ?_
  refine lv_iconst (v := 0) E.1 E.2.1 dX3_parse_6 (by decide) ?_
  refine wPut (world' := (w_X3 g z h0 h1 h2 h3 h4 x_signs x_length 0 x_kinds x_values 0)) E hK in_X3_parse_X3 tyX3 tyX3_ok nmX3 hW 5 lk_X3_parse_33 0 rfl rfl (by decide) rfl rfl rfl rfl rfl (Nat.le_of_ble_eq_true rfl) dX3_parse_7 rfl (fun H locs hW => ?_)
  refine lv_iconst (v := 0) E.1 E.2.1 dX3_parse_10 (by decide) ?_
  refine lv_istore_n (lv' := [(1, .int 0), (0, .ref h0)]) E.1 E.2.1 dX3_parse_11 rfl hl (by decide) rfl (fun ls hl => ?_)
  refine k_X3_parse_12 E hK hz hC hA ?_ ?_ ?_ ?_ 1000 0 0 x_kinds x_values 0 H locs ls h hW (lv_sub hl [1, 0] rfl)
  · intro x_position_74e x_kinds_74e x_values_74e x_commandCount_74e H locs ls h hW hl
    refine lv_aload_n E.1 E.2.1 dX3_parse_74 rfl (lv_at hl 0 rfl) ?_
    refine wGet (v := .int x_position_74e) E hK in_X3_parse_X3 hW 2 lk_X3_parse_19 0 rfl rfl (by decide) rfl rfl dX3_parse_75 ?_
    obtain rfl := Option.some.inj h
    exact endI E rfl hW dX3_parse_78
  · intro x_position_26e x_kinds_26e x_values_26e x_commandCount_26e H locs ls h hW hl
    refine lv_aload_n E.1 E.2.1 dX3_parse_26 rfl (lv_at hl 0 rfl) ?_
    refine wGet (v := .int x_position_26e) E hK in_X3_parse_X3 hW 2 lk_X3_parse_19 0 rfl rfl (by decide) rfl rfl dX3_parse_27 ?_
    obtain rfl := Option.some.inj h
    exact endI E rfl hW dX3_parse_30
  · intro x_position_52e x_kinds_52e x_values_52e x_commandCount_52e H locs ls h hW hl
    refine lv_iconst (v := (-1)) E.1 E.2.1 dX3_parse_52 (by decide) ?_
    obtain rfl := Option.some.inj h
    exact endI E rfl hW dX3_parse_53
  · intro x_position_63e x_kinds_63e x_values_63e x_commandCount_63e H locs ls h hW hl
    refine lv_aload_n E.1 E.2.1 dX3_parse_63 rfl (lv_at hl 0 rfl) ?_
    refine wGet (v := .int x_position_63e) E hK in_X3_parse_X3 hW 2 lk_X3_parse_19 0 rfl rfl (by decide) rfl rfl dX3_parse_64 ?_
    obtain rfl := Option.some.inj h
    exact endI E rfl hW dX3_parse_67
theorem c_X3_parse (l : Launch) (g : GE) (z : ZE) (h0 h1 h2 h3 : Nat) (h4 : Nat → Nat) (x_signs : Nat → Int32) (x_length : Int32) (x_position : Int32) (x_kinds : Nat → Option Nat) (x_values : Nat → Nat → Int32) (x_commandCount : Int32) {res : Int32 × Int32 × (Nat → Option Nat) × (Nat → Nat → Int32) × Int32} (hf : f_X3_parse x_signs x_length x_position x_kinds x_values x_commandCount = some res) : XI l yX3_parse wsX3_parse rm_X3_parse g z [.ref h0] (w_X3 g z h0 h1 h2 h3 h4 x_signs x_length x_position x_kinds x_values x_commandCount) (w_X3 g z h0 h1 h2 h3 h4 x_signs x_length res.2.1 res.2.2.1 res.2.2.2.1 res.2.2.2.2) res.1 :=
  mkXI (cc := cX3_parse) (maxL := 2) (by decide) rfl (Nat.le_of_ble_eq_true rfl) (fun p e s m args below meth c A H locs ls E hK hz hC hA hW hl => k_X3_parse_0 E hK hz hC hA hf hW hl)

/-! PaperStorm$Line.putAll(Ljava/lang/String;)V X8_putAll -/
abbrev rm_X8_putAll : Room := { frames := 4, cells := 0, slots := 0, locals := 85 }
noncomputable def f_X8_putAll_2 (b1 : List Int32) (z25 : (Nat → Int32) → Int32 → Option ((Nat → Int32) × Int32)) : Nat → Int32 → (Nat → Int32) → Int32 → Option ((Nat → Int32) × Int32)
  | 0, _, _, _ => none
  | n + 1, l2_2, x_signs_2, x_length_2 => if (nI (b1 : List Int32).length) ≤ l2_2 then z25 x_signs_2 x_length_2 else if l2_2 < 0 ∨ (b1 : List Int32).length ≤ l2_2.toNatClampNeg then none else (f_X8_put x_signs_2 x_length_2 (chAt (b1 : List Int32) l2_2)).bind fun r16 => f_X8_putAll_2 b1 z25 n (l2_2 + 1) r16.1 r16.2
noncomputable def f_X8_putAll (x_signs : Nat → Int32) (x_length : Int32) (b1 : List Int32) : Option ((Nat → Int32) × Int32) :=
  f_X8_putAll_2 b1 (fun x_signs_25e x_length_25e => some (x_signs_25e, x_length_25e)) 1000 0 x_signs x_length
abbrev G_X8_putAll (p : Program) (l : Launch) (e : Env) (s : State) (m : MethodId) (args : Array Value) (below : List Frame) (meth : Method) (c : Code) (g : GE) (A : Nat → Prop) (z : ZE) (h0 h1 : Nat) (res : (Nat → Int32) × Int32) (H : Heap) (locs : List Loc) (pc : Nat) (ls : Array Slot) (st : List Value) : Prop := W p l e (headSpec wsX8_putAll rm_X8_putAll).room s m args below meth c H locs 0 0 (MQ below (PoV g A (w_X8 g h0 h1 res.1 res.2)) args s 0 0 A) (F0 m pc ls st)
set_option maxHeartbeats 4000000 in
set_option maxRecDepth 100000 in
theorem k_X8_putAll_2 {p : Program} {l : Launch} {e : Env} {s : State} {m : MethodId} {args : Array Value} {below : List Frame} {meth : Method} {c : Code} {g : GE} {A : Nat → Prop} {z : ZE} {o1 : String} {k1 : Nat} {h0 h1 : Nat} {res : (Nat → Int32) × Int32} {b1 : List Int32} {z25 : (Nat → Int32) → Int32 → Option ((Nat → Int32) × Int32)}
    (E : En cX8_putAll RX8 wsX8_putAll 3 none p s m args meth c) (hK : KK g s) (hz : KS z s) (hC : CS z A s s.heap) (hx1 : ((o1, k1, b1) : String × Nat × List Int32) ∈ strT) (hA : ∀ q, s.heap.size ≤ q → A q)
    (hz25 : ∀ (x_signs_25e : Nat → Int32) (x_length_25e : Int32) (H : Heap) (locs : List Loc) (ls : Array Slot), z25 x_signs_25e x_length_25e = some res → Wo g A s H locs (w_X8 g h0 h1 x_signs_25e x_length_25e) → lv_has ls 3 [] → G_X8_putAll p l e s m args below meth c g A z h0 h1 res H locs 25 ls [])
    : ∀ (n : Nat) (l2_2 : Int32) (x_signs_2 : Nat → Int32) (x_length_2 : Int32) (H : Heap) (locs : List Loc) (ls : Array Slot), f_X8_putAll_2 b1 z25 n l2_2 x_signs_2 x_length_2 = some res → Wo g A s H locs (w_X8 g h0 h1 x_signs_2 x_length_2) → lv_has ls 3 [(0, .ref h0), (1, .ref (z.1 o1 k1)), (2, .int l2_2)] → G_X8_putAll p l e s m args below meth c g A z h0 h1 res H locs 2 ls [] := by
  have hts := E.2.2.2.1
  intro n
  induction n with
  | zero => intro l2_2 x_signs_2 x_length_2 H locs ls h hW hl; rw [f_X8_putAll_2] at h; cases h
  | succ n ih =>
    intro l2_2 x_signs_2 x_length_2 H locs ls h hW hl
    rw [f_X8_putAll_2] at h
    refine lv_iload_n E.1 E.2.1 dX8_putAll_2 rfl (lv_at hl 2 rfl) ?_
    refine lv_aload_n E.1 E.2.1 dX8_putAll_3 rfl (lv_at hl 1 rfl) ?_
    refine wLen (o1, k1, b1) hx1 E hC hW (cwV 0 hts gX8_putAll_J0_length_8abf5 rfl rfl rfl (by decide +kernel) ⟨Nat.le_of_ble_eq_true rfl, Nat.le_of_ble_eq_true rfl⟩) hl.1 (Nat.le_of_ble_eq_true rfl) dX8_putAll_4 ⟨Nat.zero_le _, Nat.zero_le _⟩ (fun H locs hW => ?_)
    refine lv_icmp_ge (tgt := 25) E.1 E.2.1 dX8_putAll_7 (by decide) (fun c7 => ?_) (fun c7 => ?_)
    · have h := it c7 h
      exact hz25 x_signs_2 x_length_2 H locs ls h hW (lv_sub hl [] rfl)
    · have h := ie c7 h
      refine lv_aload_n E.1 E.2.1 dX8_putAll_10 rfl (lv_at hl 0 rfl) ?_
      refine lv_aload_n E.1 E.2.1 dX8_putAll_11 rfl (lv_at hl 1 rfl) ?_
      refine lv_iload_n E.1 E.2.1 dX8_putAll_12 rfl (lv_at hl 2 rfl) ?_
      obtain ⟨hi13, h⟩ := ox h
      refine wChr (o1, k1, b1) hx1 hi13 E hC hW (cwV 1 hts gX8_putAll_J0_charAt_5068e rfl rfl rfl (by decide +kernel) ⟨Nat.le_of_ble_eq_true rfl, Nat.le_of_ble_eq_true rfl⟩) hl.1 (Nat.le_of_ble_eq_true rfl) dX8_putAll_13 ⟨Nat.zero_le _, Nat.zero_le _⟩ (fun H locs hW => ?_)
      obtain ⟨r16, hc, h⟩ := bx h
      refine goU (world' := (w_X8 g h0 h1 r16.1 r16.2)) hW hA (is := [0, 1]) rfl (goV (rest := []) E hK hW [0, 1] rfl rfl (c_X8_put l g h0 h1 x_signs_2 x_length_2 (chAt (b1 : List Int32) l2_2) (hf := hc) H.size) (cwV 1 hts gX8_putAll_X8_put rfl rfl rfl (by decide +kernel) ⟨Nat.le_of_ble_eq_true rfl, Nat.le_of_ble_eq_true rfl⟩) 0 rfl rfl rfl hl.1 rfl rfl (Nat.le_of_ble_eq_true rfl) dX8_putAll_16 ⟨Nat.zero_le _, Nat.zero_le _⟩) rfl rfl (fun H locs hW => ?_)
      refine lv_iinc (v := (l2_2 + 1)) (lv' := [(2, .int (l2_2 + 1)), (0, .ref h0), (1, .ref (z.1 o1 k1))]) E.1 E.2.1 dX8_putAll_19 hl (k := 2) rfl rfl (by decide) rfl (fun ls hl => ?_)
      refine lv_goto (tgt := 2) E.1 E.2.1 dX8_putAll_22 (by decide) ?_
      exact ih (l2_2 + 1) r16.1 r16.2 H locs ls h hW (lv_sub hl [1, 2, 0] rfl)
set_option maxHeartbeats 4000000 in
set_option maxRecDepth 100000 in
theorem k_X8_putAll_0 {p : Program} {l : Launch} {e : Env} {s : State} {m : MethodId} {args : Array Value} {below : List Frame} {meth : Method} {c : Code} {g : GE} {A : Nat → Prop} {z : ZE} {o1 : String} {k1 : Nat} {h0 h1 : Nat} {x_signs : Nat → Int32} {x_length : Int32} {res : (Nat → Int32) × Int32} {H : Heap} {locs : List Loc} {ls : Array Slot} {b1 : List Int32}
    (E : En cX8_putAll RX8 wsX8_putAll 3 none p s m args meth c) (hK : KK g s) (hz : KS z s) (hC : CS z A s s.heap) (hx1 : ((o1, k1, b1) : String × Nat × List Int32) ∈ strT) (hA : ∀ q, s.heap.size ≤ q → A q) (h : f_X8_putAll x_signs x_length b1 = some res) (hW : Wo g A s H locs (w_X8 g h0 h1 x_signs x_length)) (hl : lv_has ls 3 [(0, .ref h0), (1, .ref (z.1 o1 k1))]) : G_X8_putAll p l e s m args below meth c g A z h0 h1 res H locs 0 ls [] := by
  have hts := E.2.2.2.1
  unfold f_X8_putAll at h
  refine lv_iconst (v := 0) E.1 E.2.1 dX8_putAll_0 (by decide) ?_
  refine lv_istore_n (lv' := [(2, .int 0), (0, .ref h0), (1, .ref (z.1 o1 k1))]) E.1 E.2.1 dX8_putAll_1 rfl hl (by decide) rfl (fun ls hl => ?_)
  refine k_X8_putAll_2 E hK hz hC hx1 hA ?_ 1000 0 x_signs x_length H locs ls h hW (lv_sub hl [1, 2, 0] rfl)
  · intro x_signs_25e x_length_25e H locs ls h hW hl
    obtain rfl := Option.some.inj h
    exact endV E hW dX8_putAll_25
theorem c_X8_putAll (l : Launch) (g : GE) (z : ZE) (o1 : String) (k1 : Nat) (h0 h1 : Nat) (x_signs : Nat → Int32) (x_length : Int32) (b1 : List Int32) (hx1 : ((o1, k1, b1) : String × Nat × List Int32) ∈ strT) {res : (Nat → Int32) × Int32} (hf : f_X8_putAll x_signs x_length b1 = some res) : XV l yX8_putAll wsX8_putAll rm_X8_putAll g z [.ref h0, .ref (z.1 o1 k1)] (w_X8 g h0 h1 x_signs x_length) (w_X8 g h0 h1 res.1 res.2) :=
  mkXV (cc := cX8_putAll) (maxL := 3) (by decide) rfl (Nat.le_of_ble_eq_true rfl) (fun p e s m args below meth c A H locs ls E hK hz hC hA hW hl => k_X8_putAll_0 E hK hz hC hx1 hA hf hW hl)

