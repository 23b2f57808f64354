/-! PaperStorm$CommandText.fittingLength(Ljava/lang/String;)I X3_fittingLength -/
abbrev rm_X3_fittingLength : Room := { frames := 4, cells := 0, slots := 0, locals := 85 }
theorem in_X3_fittingLength_X3 : ∀ w ∈ wsX30, w ∈ wsX3_fittingLength := by decide +kernel
theorem lk_X3_fittingLength_19 : Cond.fieldLink RX3 19 "PaperStorm$CommandText" "position" "I" ∈ wsX3_fittingLength := by decide +kernel
noncomputable def f_X3_fittingLength_4 (x_signs : Nat → Int32) (x_length : Int32) (x_position : Int32) (b1 : List Int32) (z44 : Int32 → Option (Int32)) : Nat → Int32 → Int32 → Option (Int32)
  | 0, _, _ => none
  | n + 1, l2_4, l3_4 => if (nI (b1 : List Int32).length) ≤ l3_4 then z44 l2_4 else jo (fun (l2_38 : Int32) => f_X3_fittingLength_4 x_signs x_length x_position b1 z44 n l2_38 (l3_4 + 1)) (fun j38 => if l2_4 = l3_4 then if l3_4 < 0 ∨ (b1 : List Int32).length ≤ l3_4.toNatClampNeg then none else (f_X3_isSignAt x_signs x_length (x_position + l3_4) (chAt (b1 : List Int32) l3_4)).bind fun r29 => if r29 = 0 then j38 l2_4 else j38 (l2_4 + 1) else j38 l2_4)
noncomputable def f_X3_fittingLength (x_signs : Nat → Int32) (x_length : Int32) (x_position : Int32) (b1 : List Int32) : Option (Int32) :=
  f_X3_fittingLength_4 x_signs x_length x_position b1 (fun l2_44e => some (l2_44e)) 1000 0 0
abbrev G_X3_fittingLength (p : Program) (l : Launch) (e : Env) (s : State) (m : MethodId) (args : Array Value) (below : List Frame) (meth : Method) (c : Code) (g : GE) (A : Nat → Prop) (z : ZE) (h0 h1 h2 h3 : Nat) (h4 : Nat → Nat) (x_signs : Nat → Int32) (x_length : Int32) (x_position : Int32) (x_kinds : Nat → Option Nat) (x_values : Nat → Nat → Int32) (x_commandCount : Int32) (res : Int32) (H : Heap) (locs : List Loc) (pc : Nat) (ls : Array Slot) (st : List Value) : Prop := W p l e (headSpec wsX3_fittingLength rm_X3_fittingLength).room s m args below meth c H locs 0 0 (MQ below (PoI g A (w_X3 g z h0 h1 h2 h3 h4 x_signs x_length x_position x_kinds x_values x_commandCount) res) args s 0 0 A) (F0 m pc ls st)
set_option maxHeartbeats 4000000 in
set_option maxRecDepth 100000 in
theorem k_X3_fittingLength_4 {p : Program} {l : Launch} {e : Env} {s : State} {m : MethodId} {args : Array Value} {below : List Frame} {meth : Method} {c : Code} {g : GE} {A : Nat → Prop} {z : ZE} {o1 : String} {k1 : Nat} {h0 h1 h2 h3 : Nat} {h4 : Nat → Nat} {x_signs : Nat → Int32} {x_length : Int32} {x_position : Int32} {x_kinds : Nat → Option Nat} {x_values : Nat → Nat → Int32} {x_commandCount : Int32} {res : Int32} {b1 : List Int32} {z44 : Int32 → Option (Int32)}
    (E : En cX3_fittingLength RX3 wsX3_fittingLength 4 (some .int) p s m args meth c) (hK : KK g s) (hz : KS z s) (hC : CS z A s s.heap) (hx1 : ((o1, k1, b1) : String × Nat × List Int32) ∈ strT) (hA : ∀ q, s.heap.size ≤ q → A q)
    (hz44 : ∀ (l2_44e : Int32) (H : Heap) (locs : List Loc) (ls : Array Slot), z44 l2_44e = some res → Wo g A s H locs (w_X3 g z h0 h1 h2 h3 h4 x_signs x_length x_position x_kinds x_values x_commandCount) → lv_has ls 4 [(2, .int l2_44e)] → G_X3_fittingLength p l e s m args below meth c g A z h0 h1 h2 h3 h4 x_signs x_length x_position x_kinds x_values x_commandCount res H locs 44 ls [])
    : ∀ (n : Nat) (l2_4 : Int32) (l3_4 : Int32) (H : Heap) (locs : List Loc) (ls : Array Slot), f_X3_fittingLength_4 x_signs x_length x_position b1 z44 n l2_4 l3_4 = some res → Wo g A s H locs (w_X3 g z h0 h1 h2 h3 h4 x_signs x_length x_position x_kinds x_values x_commandCount) → lv_has ls 4 [(0, .ref h0), (1, .ref (z.1 o1 k1)), (2, .int l2_4), (3, .int l3_4)] → G_X3_fittingLength p l e s m args below meth c g A z h0 h1 h2 h3 h4 x_signs x_length x_position x_kinds x_values x_commandCount res H locs 4 ls [] := by
  have hts := E.2.2.2.1
  intro n
  induction n with
  | zero => intro l2_4 l3_4 H locs ls h hW hl; rw [f_X3_fittingLength_4] at h; cases h
  | succ n ih =>
    intro l2_4 l3_4 H locs ls h hW hl
    rw [f_X3_fittingLength_4] at h
    refine lv_iload_n E.1 E.2.1 dX3_fittingLength_4 rfl (lv_at hl 3 rfl) ?_
    refine lv_aload_n E.1 E.2.1 dX3_fittingLength_5 rfl (lv_at hl 1 rfl) ?_
    refine wLen (o1, k1, b1) hx1 E hC hW (cwV 0 hts gX3_fittingLength_J0_length_8abf5 rfl rfl rfl (by decide +kernel) ⟨Nat.le_of_ble_eq_true rfl, Nat.le_of_ble_eq_true rfl⟩) hl.1 (Nat.le_of_ble_eq_true rfl) dX3_fittingLength_6 ⟨Nat.zero_le _, Nat.zero_le _⟩ (fun H locs hW => ?_)
    refine lv_icmp_ge (tgt := 44) E.1 E.2.1 dX3_fittingLength_9 (by decide) (fun c9 => ?_) (fun c9 => ?_)
    · have h := it c9 h
      exact hz44 l2_4 H locs ls h hW (lv_sub hl [2] rfl)
    · have h := ie c9 h
      obtain ⟨j38, hj38, h⟩ := jox1 h
      have J38 : ∀ (l2_38 : Int32) (H : Heap) (locs : List Loc) (ls : Array Slot), j38 l2_38 = some res → Wo g A s H locs (w_X3 g z h0 h1 h2 h3 h4 x_signs x_length x_position x_kinds x_values x_commandCount) → lv_has ls 4 [(0, .ref h0), (1, .ref (z.1 o1 k1)), (2, .int l2_38), (3, .int l3_4)] → G_X3_fittingLength p l e s m args below meth c g A z h0 h1 h2 h3 h4 x_signs x_length x_position x_kinds x_values x_commandCount res H locs 38 ls [] := by
        intro l2_38 H locs ls h hW hl
        rw [hj38] at h
        refine lv_iinc (v := (l3_4 + 1)) (lv' := [(3, .int (l3_4 + 1)), (0, .ref h0), (1, .ref (z.1 o1 k1)), (2, .int l2_38)]) E.1 E.2.1 dX3_fittingLength_38 hl (k := 3) rfl rfl (by decide) rfl (fun ls hl => ?_)
        refine lv_goto (tgt := 4) E.1 E.2.1 dX3_fittingLength_41 (by decide) ?_
        exact ih l2_38 (l3_4 + 1) H locs ls h hW (lv_sub hl [1, 2, 3, 0] rfl)
      refine lv_iload_n E.1 E.2.1 dX3_fittingLength_12 rfl (lv_at hl 2 rfl) ?_
      refine lv_iload_n E.1 E.2.1 dX3_fittingLength_13 rfl (lv_at hl 3 rfl) ?_
      refine lv_icmp_ne (tgt := 38) E.1 E.2.1 dX3_fittingLength_14 (by decide) (fun c14 => ?_) (fun c14 => ?_)
      · have h := ie c14 h
        exact J38 l2_4 H locs ls h hW (lv_sub hl [0, 1, 2, 3] rfl)
      · have h := it c14 h
        refine lv_aload_n E.1 E.2.1 dX3_fittingLength_17 rfl (lv_at hl 0 rfl) ?_
        refine lv_aload_n E.1 E.2.1 dX3_fittingLength_18 rfl (lv_at hl 0 rfl) ?_
        refine wGet (v := .int x_position) E hK in_X3_fittingLength_X3 hW 2 lk_X3_fittingLength_19 0 rfl rfl (by decide) rfl rfl dX3_fittingLength_19 ?_
        refine lv_iload_n E.1 E.2.1 dX3_fittingLength_22 rfl (lv_at hl 3 rfl) ?_
        refine lv_iadd E.1 E.2.1 dX3_fittingLength_23 ?_
        refine lv_aload_n E.1 E.2.1 dX3_fittingLength_24 rfl (lv_at hl 1 rfl) ?_
        refine lv_iload_n E.1 E.2.1 dX3_fittingLength_25 rfl (lv_at hl 3 rfl) ?_
        obtain ⟨hi26, h⟩ := ox h
        refine wChr (o1, k1, b1) hx1 hi26 E hC hW (cwV 1 hts gX3_fittingLength_J0_charAt_5068e rfl rfl rfl (by decide +kernel) ⟨Nat.le_of_ble_eq_true rfl, Nat.le_of_ble_eq_true rfl⟩) hl.1 (Nat.le_of_ble_eq_true rfl) dX3_fittingLength_26 ⟨Nat.zero_le _, Nat.zero_le _⟩ (fun H locs hW => ?_)
        obtain ⟨r29, hc, h⟩ := bx h
        refine goI (world' := (w_X3 g z h0 h1 h2 h3 h4 x_signs x_length x_position x_kinds x_values x_commandCount)) hW hA (is := (rgB 0 19)) (getB rfl rfl) (goVX (rest := []) E hK hz hC hA hW (rgB 0 19) (getB rfl rfl) (by decide +kernel) (c_X3_isSignAt l g z h0 h1 h2 h3 h4 x_signs x_length x_position x_kinds x_values x_commandCount (x_position + l3_4) (chAt (b1 : List Int32) l3_4) (hf := hc) H.size) (cwV 2 hts gX3_fittingLength_X3_isSignAt rfl rfl rfl (by decide +kernel) ⟨Nat.le_of_ble_eq_true rfl, Nat.le_of_ble_eq_true rfl⟩) 0 rfl rfl rfl hl.1 rfl rfl (Nat.le_of_ble_eq_true rfl) dX3_fittingLength_29 ⟨Nat.zero_le _, Nat.zero_le _⟩) rfl (putB rfl rfl rfl (Nat.le_of_ble_eq_true rfl) rfl) (fun H locs hW => ?_)
        refine lv_if_eq (tgt := 38) E.1 E.2.1 dX3_fittingLength_32 (by decide) (fun c32 => ?_) (fun c32 => ?_)
        · have h := it c32 h
          exact J38 l2_4 H locs ls h hW (lv_sub hl [0, 1, 2, 3] rfl)
        · have h := ie c32 h
          refine lv_iinc (v := (l2_4 + 1)) (lv' := [(2, .int (l2_4 + 1)), (0, .ref h0), (1, .ref (z.1 o1 k1)), (3, .int l3_4)]) E.1 E.2.1 dX3_fittingLength_35 hl (k := 2) rfl rfl (by decide) rfl (fun ls hl => ?_)
          exact J38 (l2_4 + 1) H locs ls h hW (lv_sub hl [1, 2, 0, 3] rfl)
set_option maxHeartbeats 4000000 in
set_option maxRecDepth 100000 in
theorem k_X3_fittingLength_0 {p : Program} {l : Launch} {e : Env} {s : State} {m : MethodId} {args : Array Value} {below : List Frame} {meth : Method} {c : Code} {g : GE} {A : Nat → Prop} {z : ZE} {o1 : String} {k1 : Nat} {h0 h1 h2 h3 : Nat} {h4 : Nat → Nat} {x_signs : Nat → Int32} {x_length : Int32} {x_position : Int32} {x_kinds : Nat → Option Nat} {x_values : Nat → Nat → Int32} {x_commandCount : Int32} {res : Int32} {H : Heap} {locs : List Loc} {ls : Array Slot} {b1 : List Int32}
    (E : En cX3_fittingLength RX3 wsX3_fittingLength 4 (some .int) p s m args meth c) (hK : KK g s) (hz : KS z s) (hC : CS z A s s.heap) (hx1 : ((o1, k1, b1) : String × Nat × List Int32) ∈ strT) (hA : ∀ q, s.heap.size ≤ q → A q) (h : f_X3_fittingLength x_signs x_length x_position b1 = some res) (hW : Wo g A s H locs (w_X3 g z h0 h1 h2 h3 h4 x_signs x_length x_position x_kinds x_values x_commandCount)) (hl : lv_has ls 4 [(0, .ref h0), (1, .ref (z.1 o1 k1))]) : G_X3_fittingLength p l e s m args below meth c g A z h0 h1 h2 h3 h4 x_signs x_length x_position x_kinds x_values x_commandCount res H locs 0 ls [] := by
  have hts := E.2.2.2.1
  unfold f_X3_fittingLength at h
  refine lv_iconst (v := 0) E.1 E.2.1 dX3_fittingLength_0 (by decide) ?_
  refine lv_istore_n (lv' := [(2, .int 0), (0, .ref h0), (1, .ref (z.1 o1 k1))]) E.1 E.2.1 dX3_fittingLength_1 rfl hl (by decide) rfl (fun ls hl => ?_)
  refine lv_iconst (v := 0) E.1 E.2.1 dX3_fittingLength_2 (by decide) ?_
  refine lv_istore_n (lv' := [(3, .int 0), (2, .int 0), (0, .ref h0), (1, .ref (z.1 o1 k1))]) E.1 E.2.1 dX3_fittingLength_3 rfl hl (by decide) rfl (fun ls hl => ?_)
  refine k_X3_fittingLength_4 E hK hz hC hx1 hA ?_ 1000 0 0 H locs ls h hW (lv_sub hl [2, 3, 1, 0] rfl)
  · intro l2_44e H locs ls h hW hl
    refine lv_iload_n E.1 E.2.1 dX3_fittingLength_44 rfl (lv_at hl 0 rfl) ?_
    obtain rfl := Option.some.inj h
    exact endI E rfl hW dX3_fittingLength_45
theorem c_X3_fittingLength (l : Launch) (g : GE) (z : ZE) (o1 : String) (k1 : Nat) (h0 h1 h2 h3 : Nat) (h4 : Nat → Nat) (x_signs : Nat → Int32) (x_length : Int32) (x_position : Int32) (x_kinds : Nat → Option Nat) (x_values : Nat → Nat → Int32) (x_commandCount : Int32) (b1 : List Int32) (hx1 : ((o1, k1, b1) : String × Nat × List Int32) ∈ strT) {res : Int32} (hf : f_X3_fittingLength x_signs x_length x_position b1 = some res) : XI l yX3_fittingLength wsX3_fittingLength rm_X3_fittingLength g z [.ref h0, .ref (z.1 o1 k1)] (w_X3 g z h0 h1 h2 h3 h4 x_signs x_length x_position x_kinds x_values x_commandCount) (w_X3 g z h0 h1 h2 h3 h4 x_signs x_length x_position x_kinds x_values x_commandCount) res :=
  mkXI (cc := cX3_fittingLength) (maxL := 4) (by decide) rfl (Nat.le_of_ble_eq_true rfl) (fun p e s m args below meth c A H locs ls E hK hz hC hA hW hl => k_X3_fittingLength_0 E hK hz hC hx1 hA hf hW hl)

