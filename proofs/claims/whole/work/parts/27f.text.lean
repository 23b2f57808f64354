/-! PaperStorm$CommandText.readCommand(I)Z X3_readCommand -/
abbrev rm_X3_readCommand : Room := { frames := 6, cells := 0, slots := 0, locals := 133 }
theorem in_X3_readCommand_X3 : ∀ w ∈ wsX30, w ∈ wsX3_readCommand := by decide +kernel
theorem lk_X3_readCommand_24 : Cond.fieldLink RX3 24 "PaperStorm$CommandText" "kinds" "[LPaperStorm$Kind;" ∈ wsX3_readCommand := by decide +kernel
theorem lk_X3_readCommand_30 : Cond.fieldLink RX3 30 "PaperStorm$CommandText" "values" "[[I" ∈ wsX3_readCommand := by decide +kernel
theorem lk_X3_readCommand_59 : Cond.fieldLinkNest "PaperStorm$CommandText" 59 "PaperStorm$Kind" "parameters" "Ljava/lang/String;" "PaperStorm" ∈ nestW := by decide +kernel
noncomputable def f_X3_readCommand_27 (x_signs : Nat → Int32) (x_length : Int32) (l1 : Int32) (l2 : Nat) (z81 : Int32 → (Nat → Nat → Int32) → Option (Int32 × Int32 × (Nat → Option Nat) × (Nat → Nat → Int32))) (z63 : Int32 → (Nat → Nat → Int32) → Option (Int32 × Int32 × (Nat → Option Nat) × (Nat → Nat → Int32))) : Nat → Int32 → Int32 → (Nat → Nat → Int32) → Option (Int32 × Int32 × (Nat → Option Nat) × (Nat → Nat → Int32))
  | 0, _, _, _ => none
  | n + 1, l3_27, x_position_27, x_values_27 => if (nI ((kpX l2).2.2 : List Int32).length) ≤ l3_27 then z81 x_position_27 x_values_27 else if 3 ≤ l3_27 then z81 x_position_27 x_values_27 else if l3_27 < 0 ∨ ((kpX l2).2.2 : List Int32).length ≤ l3_27.toNatClampNeg then none else (f_X3_readParameter x_signs x_length x_position_27 (chAt ((kpX l2).2.2 : List Int32) l3_27)).bind fun r52 => if r52.1 = (-1) then z63 r52.2 x_values_27 else if l1 < 0 ∨ 15 ≤ l1.toNatClampNeg then none else if l3_27 < 0 ∨ 3 ≤ l3_27.toNatClampNeg then none else f_X3_readCommand_27 x_signs x_length l1 l2 z81 z63 n (l3_27 + 1) r52.2 (va_up x_values_27 l1.toNatClampNeg (upd (x_values_27 l1.toNatClampNeg) l3_27.toNatClampNeg r52.1))
noncomputable def f_X3_readCommand (x_signs : Nat → Int32) (x_length : Int32) (x_position : Int32) (x_kinds : Nat → Option Nat) (x_values : Nat → Nat → Int32) (a1 : Int32) : Option (Int32 × Int32 × (Nat → Option Nat) × (Nat → Nat → Int32)) :=
  jo (fun (x_position_16 : Int32) => some (0, x_position_16, x_kinds, x_values)) (fun j16 => (f_X3_readWord x_signs x_length x_position).bind fun r1 => oN r1.1 (j16 r1.2) (fun i6 => if 10 ≤ i6 then none else (f_X3_isPlace a1).bind fun r10 => if r10 = 0 then j16 r1.2 else if a1 < 0 ∨ 15 ≤ a1.toNatClampNeg then none else f_X3_readCommand_27 x_signs x_length a1 i6 (fun x_position_81e x_values_81e => some (1, x_position_81e, (va_up x_kinds a1.toNatClampNeg (some i6)), x_values_81e)) (fun x_position_63e x_values_63e => some (0, x_position_63e, (va_up x_kinds a1.toNatClampNeg (some i6)), x_values_63e)) 1000 0 r1.2 x_values))
abbrev G_X3_readCommand (p : Program) (l : Launch) (e : Env) (s : State) (m : MethodId) (args : Array Value) (below : List Frame) (meth : Method) (c : Code) (g : GE) (A : Nat → Prop) (z : ZE) (h0 h1 h2 h3 : Nat) (h4 : Nat → Nat) (x_signs : Nat → Int32) (x_length : Int32) (x_commandCount : Int32) (res : Int32 × Int32 × (Nat → Option Nat) × (Nat → Nat → Int32)) (H : Heap) (locs : List Loc) (pc : Nat) (ls : Array Slot) (st : List Value) : Prop := W p l e (headSpec wsX3_readCommand rm_X3_readCommand).room s m args below meth c H locs 0 0 (MQ below (PoI g A (w_X3 g z h0 h1 h2 h3 h4 x_signs x_length res.2.1 res.2.2.1 res.2.2.2 x_commandCount) res.1) args s 0 0 A) (F0 m pc ls st)
set_option maxHeartbeats 4000000 in
set_option maxRecDepth 100000 in
theorem k_X3_readCommand_27 {p : Program} {l : Launch} {e : Env} {s : State} {m : MethodId} {args : Array Value} {below : List Frame} {meth : Method} {c : Code} {g : GE} {A : Nat → Prop} {z : ZE} {h0 h1 h2 h3 : Nat} {h4 : Nat → Nat} {x_signs : Nat → Int32} {x_length : Int32} {x_kinds : Nat → Option Nat} {x_commandCount : Int32} {res : Int32 × Int32 × (Nat → Option Nat) × (Nat → Nat → Int32)} {l1 : Int32} {l2 : Nat} {z81 : Int32 → (Nat → Nat → Int32) → Option (Int32 × Int32 × (Nat → Option Nat) × (Nat → Nat → Int32))} {z63 : Int32 → (Nat → Nat → Int32) → Option (Int32 × Int32 × (Nat → Option Nat) × (Nat → Nat → Int32))}
    (E : En cX3_readCommand RX3 wsX3_readCommand 5 (some .boolean) p s m args meth c) (hK : KK g s) (hz : KS z s) (hC : CS z A s s.heap) (hE2 : l2 < 10) (hA : ∀ q, s.heap.size ≤ q → A q)
    (hz81 : ∀ (x_position_81e : Int32) (x_values_81e : Nat → Nat → Int32) (H : Heap) (locs : List Loc) (ls : Array Slot), z81 x_position_81e x_values_81e = some res → Wo g A s H locs (w_X3 g z h0 h1 h2 h3 h4 x_signs x_length x_position_81e x_kinds x_values_81e x_commandCount) → lv_has ls 5 [] → G_X3_readCommand p l e s m args below meth c g A z h0 h1 h2 h3 h4 x_signs x_length x_commandCount res H locs 81 ls [])
    (hz63 : ∀ (x_position_63e : Int32) (x_values_63e : Nat → Nat → Int32) (H : Heap) (locs : List Loc) (ls : Array Slot), z63 x_position_63e x_values_63e = some res → Wo g A s H locs (w_X3 g z h0 h1 h2 h3 h4 x_signs x_length x_position_63e x_kinds x_values_63e x_commandCount) → lv_has ls 5 [] → G_X3_readCommand p l e s m args below meth c g A z h0 h1 h2 h3 h4 x_signs x_length x_commandCount res H locs 63 ls [])
    : ∀ (n : Nat) (l3_27 : Int32) (x_position_27 : Int32) (x_values_27 : Nat → Nat → Int32) (H : Heap) (locs : List Loc) (ls : Array Slot), f_X3_readCommand_27 x_signs x_length l1 l2 z81 z63 n l3_27 x_position_27 x_values_27 = some res → Wo g A s H locs (w_X3 g z h0 h1 h2 h3 h4 x_signs x_length x_position_27 x_kinds x_values_27 x_commandCount) → lv_has ls 5 [(0, .ref h0), (1, .int l1), (2, .ref (z.2 l2)), (3, .int l3_27)] → G_X3_readCommand p l e s m args below meth c g A z h0 h1 h2 h3 h4 x_signs x_length x_commandCount res H locs 27 ls [] := by
  have hts := E.2.2.2.1
  intro n
  induction n with
  | zero => intro l3_27 x_position_27 x_values_27 H locs ls h hW hl; rw [f_X3_readCommand_27] at h; cases h
  | succ n ih =>
    intro l3_27 x_position_27 x_values_27 H locs ls h hW hl
    rw [f_X3_readCommand_27] at h
    refine lv_iload_n E.1 E.2.1 dX3_readCommand_27 rfl (lv_at hl 3 rfl) ?_
    refine lv_aload_n E.1 E.2.1 dX3_readCommand_28 rfl (lv_at hl 2 rfl) ?_
    refine wKstr (v := .ref (z.1 ((kpX l2).1) ((kpX l2).2.1))) hC.2.2.2.2.1.2 hE2 lk_X3_readCommand_59 E hK hW dX3_readCommand_29 ?_
    refine wLen ((kpX l2).1, (kpX l2).2.1, (kpX l2).2.2) (kpX_in _ hE2) E hC hW (cwV 0 hts gX3_readCommand_J0_length_8abf5 rfl rfl rfl (by decide +kernel) ⟨Nat.le_of_ble_eq_true rfl, Nat.le_of_ble_eq_true rfl⟩) hl.1 (Nat.le_of_ble_eq_true rfl) dX3_readCommand_32 ⟨Nat.zero_le _, Nat.zero_le _⟩ (fun H locs hW => ?_)
    refine lv_icmp_ge (tgt := 81) E.1 E.2.1 dX3_readCommand_35 (by decide) (fun c35 => ?_) (fun c35 => ?_)
    · have h := it c35 h
      exact hz81 x_position_27 x_values_27 H locs ls h hW (lv_sub hl [] rfl)
    · have h := ie c35 h
      refine lv_iload_n E.1 E.2.1 dX3_readCommand_38 rfl (lv_at hl 3 rfl) ?_
      refine lv_iconst (v := 3) E.1 E.2.1 dX3_readCommand_39 (by decide) ?_
      refine lv_icmp_ge (tgt := 81) E.1 E.2.1 dX3_readCommand_40 (by decide) (fun c40 => ?_) (fun c40 => ?_)
      · have h := it c40 h
        exact hz81 x_position_27 x_values_27 H locs ls h hW (lv_sub hl [] rfl)
      · have h := ie c40 h
        refine lv_aload_n E.1 E.2.1 dX3_readCommand_43 rfl (lv_at hl 0 rfl) ?_
        refine lv_aload_n E.1 E.2.1 dX3_readCommand_44 rfl (lv_at hl 2 rfl) ?_
        refine wKstr (v := .ref (z.1 ((kpX l2).1) ((kpX l2).2.1))) hC.2.2.2.2.1.2 hE2 lk_X3_readCommand_59 E hK hW dX3_readCommand_45 ?_
        refine lv_iload_n E.1 E.2.1 dX3_readCommand_48 rfl (lv_at hl 3 rfl) ?_
        obtain ⟨hi49, h⟩ := ox h
        refine wChr ((kpX l2).1, (kpX l2).2.1, (kpX l2).2.2) (kpX_in _ hE2) hi49 E hC hW (cwV 1 hts gX3_readCommand_J0_charAt_5068e rfl rfl rfl (by decide +kernel) ⟨Nat.le_of_ble_eq_true rfl, Nat.le_of_ble_eq_true rfl⟩) hl.1 (Nat.le_of_ble_eq_true rfl) dX3_readCommand_49 ⟨Nat.zero_le _, Nat.zero_le _⟩ (fun H locs hW => ?_)
        obtain ⟨r52, hc, h⟩ := bx h
        refine goI (world' := (w_X3 g z h0 h1 h2 h3 h4 x_signs x_length r52.2 x_kinds x_values_27 x_commandCount)) hW hA (is := (rgB 0 19)) (getB rfl rfl) (goVX (rest := []) E hK hz hC hA hW (rgB 0 19) (getB rfl rfl) (by decide +kernel) (c_X3_readParameter l g z h0 h1 h2 h3 h4 x_signs x_length x_position_27 x_kinds x_values_27 x_commandCount (chAt ((kpX l2).2.2 : List Int32) l3_27) (hf := hc) H.size) (cwV 1 hts gX3_readCommand_X3_readParameter rfl rfl rfl (by decide +kernel) ⟨Nat.le_of_ble_eq_true rfl, Nat.le_of_ble_eq_true rfl⟩) 0 rfl rfl rfl hl.1 rfl rfl (Nat.le_of_ble_eq_true rfl) dX3_readCommand_52 ⟨Nat.zero_le _, Nat.zero_le _⟩) rfl (putB rfl rfl rfl (Nat.le_of_ble_eq_true rfl) rfl) (fun H locs hW => ?_)
        refine lv_istore (lv' := [(4, .int r52.1), (0, .ref h0), (1, .int l1), (2, .ref (z.2 l2)), (3, .int l3_27)]) E.1 E.2.1 dX3_readCommand_55 hl (by decide) rfl (fun ls hl => ?_)
        refine lv_iload E.1 E.2.1 dX3_readCommand_57 (lv_at hl 0 rfl) ?_
        refine lv_iconst (v := (-1)) E.1 E.2.1 dX3_readCommand_59 (by decide) ?_
        refine lv_icmp_ne (tgt := 65) E.1 E.2.1 dX3_readCommand_60 (by decide) (fun c60 => ?_) (fun c60 => ?_)
        · have h := ie c60 h
          refine lv_aload_n E.1 E.2.1 dX3_readCommand_65 rfl (lv_at hl 1 rfl) ?_
          refine wGet (v := .ref h3) E hK in_X3_readCommand_X3 hW 4 lk_X3_readCommand_30 0 rfl rfl (by decide) rfl rfl dX3_readCommand_66 ?_
          refine lv_iload_n E.1 E.2.1 dX3_readCommand_69 rfl (lv_at hl 2 rfl) ?_
          obtain ⟨hi70, h⟩ := ox h
          refine wGald E hK hW 3 rfl hi70 dX3_readCommand_70 ?_
          refine lv_iload_n E.1 E.2.1 dX3_readCommand_71 rfl (lv_at hl 4 rfl) ?_
          refine lv_iload E.1 E.2.1 dX3_readCommand_72 (lv_at hl 0 rfl) ?_
          obtain ⟨hi74, h⟩ := ox h
          refine wIast (world' := (w_X3 g z h0 h1 h2 h3 h4 x_signs x_length r52.2 x_kinds (va_up x_values_27 l1.toNatClampNeg (upd (x_values_27 l1.toNatClampNeg) l3_27.toNatClampNeg r52.1)) x_commandCount)) E hK hW (4 + l1.toNatClampNeg) (gridAt (Nat.not_le.mp (fun q => hi70 (Or.inr q)))) hi74 dX3_readCommand_74 (gridSet (Nat.not_le.mp (fun q => hi70 (Or.inr q)))) (fun H locs hW => ?_)
          refine lv_iinc (v := (l3_27 + 1)) (lv' := [(3, .int (l3_27 + 1)), (4, .int r52.1), (0, .ref h0), (1, .int l1), (2, .ref (z.2 l2))]) E.1 E.2.1 dX3_readCommand_75 hl (k := 4) rfl rfl (by decide) rfl (fun ls hl => ?_)
          refine lv_goto (tgt := 27) E.1 E.2.1 dX3_readCommand_78 (by decide) ?_
          exact ih (l3_27 + 1) r52.2 (va_up x_values_27 l1.toNatClampNeg (upd (x_values_27 l1.toNatClampNeg) l3_27.toNatClampNeg r52.1)) H locs ls h hW (lv_sub hl [2, 3, 4, 0] rfl)
        · have h := it c60 h
          exact hz63 r52.2 x_values_27 H locs ls h hW (lv_sub hl [] rfl)
set_option maxHeartbeats 4000000 in
set_option maxRecDepth 100000 in
theorem k_X3_readCommand_0 {p : Program} {l : Launch} {e : Env} {s : State} {m : MethodId} {args : Array Value} {below : List Frame} {meth : Method} {c : Code} {g : GE} {A : Nat → Prop} {z : ZE} {h0 h1 h2 h3 : Nat} {h4 : Nat → Nat} {x_signs : Nat → Int32} {x_length : Int32} {x_position : Int32} {x_kinds : Nat → Option Nat} {x_values : Nat → Nat → Int32} {x_commandCount : Int32} {res : Int32 × Int32 × (Nat → Option Nat) × (Nat → Nat → Int32)} {H : Heap} {locs : List Loc} {ls : Array Slot} {a1 : Int32}
    (E : En cX3_readCommand RX3 wsX3_readCommand 5 (some .boolean) p s m args meth c) (hK : KK g s) (hz : KS z s) (hC : CS z A s s.heap) (hA : ∀ q, s.heap.size ≤ q → A q) (h : f_X3_readCommand x_signs x_length x_position x_kinds x_values a1 = some res) (hW : Wo g A s H locs (w_X3 g z h0 h1 h2 h3 h4 x_signs x_length x_position x_kinds x_values x_commandCount)) (hl : lv_has ls 5 [(0, .ref h0), (1, .int a1)]) : G_X3_readCommand p l e s m args below meth c g A z h0 h1 h2 h3 h4 x_signs x_length x_commandCount res H locs 0 ls [] := by
  have hts := E.2.2.2.1
  unfold f_X3_readCommand at h
  obtain ⟨j16, hj16, h⟩ := jox1 h
  have J16 : ∀ (x_position_16 : Int32) (H : Heap) (locs : List Loc) (ls : Array Slot), j16 x_position_16 = some res → Wo g A s H locs (w_X3 g z h0 h1 h2 h3 h4 x_signs x_length x_position_16 x_kinds x_values x_commandCount) → lv_has ls 5 [] → G_X3_readCommand p l e s m args below meth c g A z h0 h1 h2 h3 h4 x_signs x_length x_commandCount res H locs 16 ls [] := by
    intro x_position_16 H locs ls h hW hl
    rw [hj16] at h
    refine lv_iconst (v := 0) E.1 E.2.1 dX3_readCommand_16 (by decide) ?_
    obtain rfl := Option.some.inj h
    exact endI E (show narrow .boolean (.int 0) = .int 0 by decide) hW dX3_readCommand_17
  refine lv_aload_n E.1 E.2.1 dX3_readCommand_0 rfl (lv_at hl 0 rfl) ?_
  obtain ⟨r1, hc, h⟩ := bx h
  refine goE (world' := (w_X3 g z h0 h1 h2 h3 h4 x_signs x_length r1.2 x_kinds x_values x_commandCount)) hW hA (is := (rgB 0 19)) (getB rfl rfl) (goVX (rest := []) E hK hz hC hA hW (rgB 0 19) (getB rfl rfl) (by decide +kernel) (c_X3_readWord l g z h0 h1 h2 h3 h4 x_signs x_length x_position x_kinds x_values x_commandCount (hf := hc) H.size) (cwV 0 hts gX3_readCommand_X3_readWord rfl rfl rfl (by decide +kernel) ⟨Nat.le_of_ble_eq_true rfl, Nat.le_of_ble_eq_true rfl⟩) 0 rfl rfl rfl hl.1 rfl rfl (Nat.le_of_ble_eq_true rfl) dX3_readCommand_1 ⟨Nat.zero_le _, Nat.zero_le _⟩) rfl (putB rfl rfl rfl (Nat.le_of_ble_eq_true rfl) rfl) (fun H locs hW => ?_)
  refine lv_astoreR_n (lv' := [(2, (va_re z.2 r1.1)), (0, .ref h0), (1, .int a1)]) E.1 E.2.1 dX3_readCommand_4 rfl hl (by decide) rfl (fun ls hl => ?_)
  refine lv_aloadR_n E.1 E.2.1 dX3_readCommand_5 rfl (lv_at hl 0 rfl) ?_
  rcases oNx h with ⟨ho6, h⟩ | ⟨i6, ho6, h⟩
  · rw [ho6] at hl
    have hl : lv_has ls 5 [(2, .null), (0, .ref h0), (1, .int a1)] := hl
    rw [ho6]
    refine lv_ifnullN (tgt := 16) E.1 E.2.1 dX3_readCommand_6 (by decide) ?_
    exact J16 r1.2 H locs ls h hW (lv_sub hl [] rfl)
  · obtain ⟨hk6, h⟩ := ox h
    rw [ho6] at hl
    have hl : lv_has ls 5 [(2, .ref (z.2 i6)), (0, .ref h0), (1, .int a1)] := hl
    rw [ho6]
    refine lv_ifnullR (x := z.2 i6) E.1 E.2.1 dX3_readCommand_6 ?_
    refine lv_iload_n E.1 E.2.1 dX3_readCommand_9 rfl (lv_at hl 2 rfl) ?_
    obtain ⟨r10, hc, h⟩ := bx h
    refine goI (world' := (w_X3 g z h0 h1 h2 h3 h4 x_signs x_length r1.2 x_kinds x_values x_commandCount)) hW hA (is := []) rfl (goS (rest := []) E hK hW [] rfl rfl (c_X3_isPlace l g a1 (hf := hc) H.size) (va_cwS 1 hts gX3_readCommand_X3_isPlace rfl rfl rfl (by decide +kernel) ⟨Nat.le_of_ble_eq_true rfl, Nat.le_of_ble_eq_true rfl⟩) hl.1 rfl rfl (Nat.le_of_ble_eq_true rfl) dX3_readCommand_10 ⟨Nat.zero_le _, Nat.zero_le _⟩) rfl rfl (fun H locs hW => ?_)
    refine lv_if_ne (tgt := 18) E.1 E.2.1 dX3_readCommand_13 (by decide) (fun c13 => ?_) (fun c13 => ?_)
    · have h := ie c13 h
      refine lv_aload_n E.1 E.2.1 dX3_readCommand_18 rfl (lv_at hl 1 rfl) ?_
      refine wGet (v := .ref h2) E hK in_X3_readCommand_X3 hW 3 lk_X3_readCommand_24 0 rfl rfl (by decide) rfl rfl dX3_readCommand_19 ?_
      refine lv_iload_n E.1 E.2.1 dX3_readCommand_22 rfl (lv_at hl 2 rfl) ?_
      refine lv_aload_n E.1 E.2.1 dX3_readCommand_23 rfl (lv_at hl 0 rfl) ?_
      obtain ⟨hi24, h⟩ := ox h
      refine wKast (world' := (w_X3 g z h0 h1 h2 h3 h4 x_signs x_length r1.2 (va_up x_kinds a1.toNatClampNeg (some i6)) x_values x_commandCount)) E hK hC (Nat.lt_of_not_le hk6) hW 2 rfl hi24 dX3_readCommand_24 (by rw [kst_map]; rfl) (fun H locs hW => ?_)
      refine lv_iconst (v := 0) E.1 E.2.1 dX3_readCommand_25 (by decide) ?_
      refine lv_istore_n (lv' := [(3, .int 0), (2, .ref (z.2 i6)), (0, .ref h0), (1, .int a1)]) E.1 E.2.1 dX3_readCommand_26 rfl hl (by decide) rfl (fun ls hl => ?_)
      refine k_X3_readCommand_27 E hK hz hC (Nat.lt_of_not_le hk6) hA ?_ ?_ 1000 0 r1.2 x_values H locs ls h hW (lv_sub hl [2, 3, 1, 0] rfl)
      · intro x_position_81e x_values_81e H locs ls h hW hl
        refine lv_iconst (v := 1) E.1 E.2.1 dX3_readCommand_81 (by decide) ?_
        obtain rfl := Option.some.inj h
        exact endI E (show narrow .boolean (.int 1) = .int 1 by decide) hW dX3_readCommand_82
      · intro x_position_63e x_values_63e H locs ls h hW hl
        refine lv_iconst (v := 0) E.1 E.2.1 dX3_readCommand_63 (by decide) ?_
        obtain rfl := Option.some.inj h
        exact endI E (show narrow .boolean (.int 0) = .int 0 by decide) hW dX3_readCommand_64
    · have h := it c13 h
      exact J16 r1.2 H locs ls h hW (lv_sub hl [] rfl)
theorem c_X3_readCommand (l : Launch) (g : GE) (z : ZE) (h0 h1 h2 h3 : Nat) (h4 : Nat → Nat) (x_signs : Nat → Int32) (x_length : Int32) (x_position : Int32) (x_kinds : Nat → Option Nat) (x_values : Nat → Nat → Int32) (x_commandCount : Int32) (a1 : Int32) {res : Int32 × Int32 × (Nat → Option Nat) × (Nat → Nat → Int32)} (hf : f_X3_readCommand x_signs x_length x_position x_kinds x_values a1 = some res) : XI l yX3_readCommand wsX3_readCommand rm_X3_readCommand g z [.ref h0, .int a1] (w_X3 g z h0 h1 h2 h3 h4 x_signs x_length x_position x_kinds x_values x_commandCount) (w_X3 g z h0 h1 h2 h3 h4 x_signs x_length res.2.1 res.2.2.1 res.2.2.2 x_commandCount) res.1 :=
  mkXI (cc := cX3_readCommand) (maxL := 5) (by decide) rfl (Nat.le_of_ble_eq_true rfl) (fun p e s m args below meth c A H locs ls E hK hz hC hA hW hl => k_X3_readCommand_0 E hK hz hC hA hf hW hl)

