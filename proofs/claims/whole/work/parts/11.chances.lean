/-! PaperStorm$Chances.spread(LPaperStorm$Climate;I)V X1_spread -/
abbrev rm_X1_spread : Room := { frames := 2, cells := 0, slots := 0, locals := 67 }
theorem in_X1_spread_X1 : ∀ w ∈ wsX10, w ∈ wsX1_spread := by decide +kernel
theorem lk_X1_spread_12 : Cond.fieldLink RX1 12 "PaperStorm$Chances" "byDay" "LPaperStorm$Fractions;" ∈ wsX1_spread := by decide +kernel
theorem lk_X1_spread_18 : Cond.fieldLink RX1 18 "PaperStorm$Chances" "nextDay" "LPaperStorm$Fractions;" ∈ wsX1_spread := by decide +kernel
noncomputable def f_X1_spread_9 (x_byDay_numerators : Nat → Int64) (x_byDay_denominators : Nat → Int64) (x_a1_weights : Nat → Int32) (l2 : Int32) (l3 : Int32) (z58 : (Nat → Int64) → (Nat → Int64) → Option ((Nat → Int64) × (Nat → Int64))) : Nat → Int32 → (Nat → Int64) → (Nat → Int64) → Option ((Nat → Int64) × (Nat → Int64))
  | 0, _, _, _ => none
  | n + 1, l4_9, x_nextDay_numerators_9, x_nextDay_denominators_9 => if 4 ≤ l4_9 then z58 x_nextDay_numerators_9 x_nextDay_denominators_9 else (f_X5_numerator x_byDay_numerators l2).bind fun r26 => (f_X2_weight x_a1_weights l2 l4_9).bind fun r33 => (f_X5_denominator x_byDay_denominators l2).bind fun r43 => (f_X5_add x_nextDay_numerators_9 x_nextDay_denominators_9 l4_9 (r26 * ((r33).toInt64)) (r43 * ((l3).toInt64))).bind fun r49 => f_X1_spread_9 x_byDay_numerators x_byDay_denominators x_a1_weights l2 l3 z58 n (l4_9 + 1) r49.1 r49.2
noncomputable def f_X1_spread (x_byDay_numerators : Nat → Int64) (x_byDay_denominators : Nat → Int64) (x_nextDay_numerators : Nat → Int64) (x_nextDay_denominators : Nat → Int64) (x_a1_weights : Nat → Int32) (a2 : Int32) : Option ((Nat → Int64) × (Nat → Int64)) :=
  (f_X2_weightSum x_a1_weights a2).bind fun r2 => f_X1_spread_9 x_byDay_numerators x_byDay_denominators x_a1_weights a2 r2 (fun x_nextDay_numerators_58e x_nextDay_denominators_58e => some (x_nextDay_numerators_58e, x_nextDay_denominators_58e)) 1000 0 x_nextDay_numerators x_nextDay_denominators
abbrev G_X1_spread (p : Program) (l : Launch) (e : Env) (s : State) (m : MethodId) (args : Array Value) (below : List Frame) (meth : Method) (c : Code) (g : GE) (A : Nat → Prop) (h0 h1 h2 h3 h4 h5 h6 h7 h8 h9 h10 h11 h12 : Nat) (x_byDay_numerators : Nat → Int64) (x_byDay_denominators : Nat → Int64) (x_byBranch_numerators : Nat → Int64) (x_byBranch_denominators : Nat → Int64) (x_sequences : Nat → Int32) (x_a1_weights : Nat → Int32) (x_a1_present : Int32) (res : (Nat → Int64) × (Nat → Int64)) (H : Heap) (locs : List Loc) (pc : Nat) (ls : Array Slot) (st : List Value) : Prop := W p l e (headSpec wsX1_spread rm_X1_spread).room s m args below meth c H locs 0 0 (MQ below (PoV g A ((w_X1 g h0 h1 h2 h3 h4 h5 h6 h7 h8 h9 h10 x_byDay_numerators x_byDay_denominators res.1 res.2 x_byBranch_numerators x_byBranch_denominators x_sequences) ++ (w_X2 g h11 h12 x_a1_weights x_a1_present))) args s 0 0 A) (F0 m pc ls st)
set_option maxHeartbeats 4000000 in
set_option maxRecDepth 100000 in
theorem k_X1_spread_9 {p : Program} {l : Launch} {e : Env} {s : State} {m : MethodId} {args : Array Value} {below : List Frame} {meth : Method} {c : Code} {g : GE} {A : Nat → Prop} {h0 h1 h2 h3 h4 h5 h6 h7 h8 h9 h10 h11 h12 : Nat} {x_byDay_numerators : Nat → Int64} {x_byDay_denominators : Nat → Int64} {x_byBranch_numerators : Nat → Int64} {x_byBranch_denominators : Nat → Int64} {x_sequences : Nat → Int32} {x_a1_weights : Nat → Int32} {x_a1_present : Int32} {res : (Nat → Int64) × (Nat → Int64)} {l2 : Int32} {l3 : Int32} {z58 : (Nat → Int64) → (Nat → Int64) → Option ((Nat → Int64) × (Nat → Int64))}
    (E : En cX1_spread RX1 wsX1_spread 5 none p s m args meth c) (hK : KK g s) (hA : ∀ q, s.heap.size ≤ q → A q)
    (hz58 : ∀ (x_nextDay_numerators_58e : Nat → Int64) (x_nextDay_denominators_58e : Nat → Int64) (H : Heap) (locs : List Loc) (ls : Array Slot), z58 x_nextDay_numerators_58e x_nextDay_denominators_58e = some res → Wo g A s H locs ((w_X1 g h0 h1 h2 h3 h4 h5 h6 h7 h8 h9 h10 x_byDay_numerators x_byDay_denominators x_nextDay_numerators_58e x_nextDay_denominators_58e x_byBranch_numerators x_byBranch_denominators x_sequences) ++ (w_X2 g h11 h12 x_a1_weights x_a1_present)) → lv_has ls 5 [] → G_X1_spread p l e s m args below meth c g A h0 h1 h2 h3 h4 h5 h6 h7 h8 h9 h10 h11 h12 x_byDay_numerators x_byDay_denominators x_byBranch_numerators x_byBranch_denominators x_sequences x_a1_weights x_a1_present res H locs 58 ls [])
    : ∀ (n : Nat) (l4_9 : Int32) (x_nextDay_numerators_9 : Nat → Int64) (x_nextDay_denominators_9 : Nat → Int64) (H : Heap) (locs : List Loc) (ls : Array Slot), f_X1_spread_9 x_byDay_numerators x_byDay_denominators x_a1_weights l2 l3 z58 n l4_9 x_nextDay_numerators_9 x_nextDay_denominators_9 = some res → Wo g A s H locs ((w_X1 g h0 h1 h2 h3 h4 h5 h6 h7 h8 h9 h10 x_byDay_numerators x_byDay_denominators x_nextDay_numerators_9 x_nextDay_denominators_9 x_byBranch_numerators x_byBranch_denominators x_sequences) ++ (w_X2 g h11 h12 x_a1_weights x_a1_present)) → lv_has ls 5 [(0, .ref h0), (1, .ref h11), (2, .int l2), (3, .int l3), (4, .int l4_9)] → G_X1_spread p l e s m args below meth c g A h0 h1 h2 h3 h4 h5 h6 h7 h8 h9 h10 h11 h12 x_byDay_numerators x_byDay_denominators x_byBranch_numerators x_byBranch_denominators x_sequences x_a1_weights x_a1_present res H locs 9 ls [] := by
  have hts := E.2.2.2.1
  intro n
  induction n with
  | zero => intro l4_9 x_nextDay_numerators_9 x_nextDay_denominators_9 H locs ls h hW hl; rw [f_X1_spread_9] at h; cases h
  | succ n ih =>
    intro l4_9 x_nextDay_numerators_9 x_nextDay_denominators_9 H locs ls h hW hl
    rw [f_X1_spread_9] at h
    refine lv_iload E.1 E.2.1 dX1_spread_9 (lv_at hl 4 rfl) ?_
    refine lv_iconst (v := 4) E.1 E.2.1 dX1_spread_11 (by decide) ?_
    refine lv_icmp_ge (tgt := 58) E.1 E.2.1 dX1_spread_12 (by decide) (fun c12 => ?_) (fun c12 => ?_)
    · have h := it c12 h
      exact hz58 x_nextDay_numerators_9 x_nextDay_denominators_9 H locs ls h hW (lv_sub hl [] rfl)
    · have h := ie c12 h
      refine lv_aload_n E.1 E.2.1 dX1_spread_15 rfl (lv_at hl 0 rfl) ?_
      refine wGet (v := .ref h4) E hK in_X1_spread_X1 hW 1 lk_X1_spread_18 0 rfl rfl (by decide) rfl rfl dX1_spread_16 ?_
      refine lv_iload E.1 E.2.1 dX1_spread_19 (lv_at hl 4 rfl) ?_
      refine lv_aload_n E.1 E.2.1 dX1_spread_21 rfl (lv_at hl 0 rfl) ?_
      refine wGet (v := .ref h1) E hK in_X1_spread_X1 hW 0 lk_X1_spread_12 0 rfl rfl (by decide) rfl rfl dX1_spread_22 ?_
      refine lv_iload_n E.1 E.2.1 dX1_spread_25 rfl (lv_at hl 2 rfl) ?_
      obtain ⟨r26, hc, h⟩ := bx h
      refine goJ (world' := ((w_X1 g h0 h1 h2 h3 h4 h5 h6 h7 h8 h9 h10 x_byDay_numerators x_byDay_denominators x_nextDay_numerators_9 x_nextDay_denominators_9 x_byBranch_numerators x_byBranch_denominators x_sequences) ++ (w_X2 g h11 h12 x_a1_weights x_a1_present))) hW hA (is := [1, 2, 3]) rfl (goV (rest := [.int l4_9, .ref h4]) E hK hW [1, 2, 3] rfl rfl (c_X5_numerator l g h1 h2 h3 x_byDay_numerators x_byDay_denominators l2 (hf := hc) H.size) (cwV 1 hts gX1_spread_X5_numerator rfl rfl rfl (by decide +kernel) ⟨Nat.le_of_ble_eq_true rfl, Nat.le_of_ble_eq_true rfl⟩) 0 rfl rfl rfl hl.1 rfl rfl (Nat.le_of_ble_eq_true rfl) dX1_spread_26 ⟨Nat.zero_le _, Nat.zero_le _⟩) rfl rfl (fun H locs hW => ?_)
      refine lv_aload_n E.1 E.2.1 dX1_spread_29 rfl (lv_at hl 1 rfl) ?_
      refine lv_iload_n E.1 E.2.1 dX1_spread_30 rfl (lv_at hl 2 rfl) ?_
      refine lv_iload E.1 E.2.1 dX1_spread_31 (lv_at hl 4 rfl) ?_
      obtain ⟨r33, hc, h⟩ := bx h
      refine goI (world' := ((w_X1 g h0 h1 h2 h3 h4 h5 h6 h7 h8 h9 h10 x_byDay_numerators x_byDay_denominators x_nextDay_numerators_9 x_nextDay_denominators_9 x_byBranch_numerators x_byBranch_denominators x_sequences) ++ (w_X2 g h11 h12 x_a1_weights x_a1_present))) hW hA (is := [11, 12]) rfl (goV (rest := [.long r26, .int l4_9, .ref h4]) E hK hW [11, 12] rfl rfl (c_X2_weight l g h11 h12 x_a1_weights x_a1_present l2 l4_9 (hf := hc) H.size) (cwV 2 hts gX1_spread_X2_weight rfl rfl rfl (by decide +kernel) ⟨Nat.le_of_ble_eq_true rfl, Nat.le_of_ble_eq_true rfl⟩) 0 rfl rfl rfl hl.1 rfl rfl (Nat.le_of_ble_eq_true rfl) dX1_spread_33 ⟨Nat.zero_le _, Nat.zero_le _⟩) rfl rfl (fun H locs hW => ?_)
      refine lv_i2l (v := (r33).toInt64) E.1 E.2.1 dX1_spread_36 rfl ?_
      refine lv_lmul E.1 E.2.1 dX1_spread_37 ?_
      refine lv_aload_n E.1 E.2.1 dX1_spread_38 rfl (lv_at hl 0 rfl) ?_
      refine wGet (v := .ref h1) E hK in_X1_spread_X1 hW 0 lk_X1_spread_12 0 rfl rfl (by decide) rfl rfl dX1_spread_39 ?_
      refine lv_iload_n E.1 E.2.1 dX1_spread_42 rfl (lv_at hl 2 rfl) ?_
      obtain ⟨r43, hc, h⟩ := bx h
      refine goJ (world' := ((w_X1 g h0 h1 h2 h3 h4 h5 h6 h7 h8 h9 h10 x_byDay_numerators x_byDay_denominators x_nextDay_numerators_9 x_nextDay_denominators_9 x_byBranch_numerators x_byBranch_denominators x_sequences) ++ (w_X2 g h11 h12 x_a1_weights x_a1_present))) hW hA (is := [1, 2, 3]) rfl (goV (rest := [.long (r26 * ((r33).toInt64)), .int l4_9, .ref h4]) E hK hW [1, 2, 3] rfl rfl (c_X5_denominator l g h1 h2 h3 x_byDay_numerators x_byDay_denominators l2 (hf := hc) H.size) (cwV 1 hts gX1_spread_X5_denominator rfl rfl rfl (by decide +kernel) ⟨Nat.le_of_ble_eq_true rfl, Nat.le_of_ble_eq_true rfl⟩) 0 rfl rfl rfl hl.1 rfl rfl (Nat.le_of_ble_eq_true rfl) dX1_spread_43 ⟨Nat.zero_le _, Nat.zero_le _⟩) rfl rfl (fun H locs hW => ?_)
      refine lv_iload_n E.1 E.2.1 dX1_spread_46 rfl (lv_at hl 3 rfl) ?_
      refine lv_i2l (v := (l3).toInt64) E.1 E.2.1 dX1_spread_47 rfl ?_
      refine lv_lmul E.1 E.2.1 dX1_spread_48 ?_
      obtain ⟨r49, hc, h⟩ := bx h
      refine goU (world' := ((w_X1 g h0 h1 h2 h3 h4 h5 h6 h7 h8 h9 h10 x_byDay_numerators x_byDay_denominators r49.1 r49.2 x_byBranch_numerators x_byBranch_denominators x_sequences) ++ (w_X2 g h11 h12 x_a1_weights x_a1_present))) hW hA (is := [4, 5, 6]) rfl (goV (rest := []) E hK hW [4, 5, 6] rfl rfl (c_X5_add l g h4 h5 h6 x_nextDay_numerators_9 x_nextDay_denominators_9 l4_9 (r26 * ((r33).toInt64)) (r43 * ((l3).toInt64)) (hf := hc) H.size) (cwV 3 hts gX1_spread_X5_add rfl rfl rfl (by decide +kernel) ⟨Nat.le_of_ble_eq_true rfl, Nat.le_of_ble_eq_true rfl⟩) 0 rfl rfl rfl hl.1 rfl rfl (Nat.le_of_ble_eq_true rfl) dX1_spread_49 ⟨Nat.zero_le _, Nat.zero_le _⟩) rfl rfl (fun H locs hW => ?_)
      refine lv_iinc (v := (l4_9 + 1)) (lv' := [(4, .int (l4_9 + 1)), (0, .ref h0), (1, .ref h11), (2, .int l2), (3, .int l3)]) E.1 E.2.1 dX1_spread_52 hl (k := 4) rfl rfl (by decide) rfl (fun ls hl => ?_)
      refine lv_goto (tgt := 9) E.1 E.2.1 dX1_spread_55 (by decide) ?_
      exact ih (l4_9 + 1) r49.1 r49.2 H locs ls h hW (lv_sub hl [1, 2, 3, 4, 0] rfl)
set_option maxHeartbeats 4000000 in
set_option maxRecDepth 100000 in
theorem k_X1_spread_0 {p : Program} {l : Launch} {e : Env} {s : State} {m : MethodId} {args : Array Value} {below : List Frame} {meth : Method} {c : Code} {g : GE} {A : Nat → Prop} {h0 h1 h2 h3 h4 h5 h6 h7 h8 h9 h10 h11 h12 : Nat} {x_byDay_numerators : Nat → Int64} {x_byDay_denominators : Nat → Int64} {x_nextDay_numerators : Nat → Int64} {x_nextDay_denominators : Nat → Int64} {x_byBranch_numerators : Nat → Int64} {x_byBranch_denominators : Nat → Int64} {x_sequences : Nat → Int32} {x_a1_weights : Nat → Int32} {x_a1_present : Int32} {res : (Nat → Int64) × (Nat → Int64)} {H : Heap} {locs : List Loc} {ls : Array Slot} {a2 : Int32}
    (E : En cX1_spread RX1 wsX1_spread 5 none p s m args meth c) (hK : KK g s) (hA : ∀ q, s.heap.size ≤ q → A q) (h : f_X1_spread x_byDay_numerators x_byDay_denominators x_nextDay_numerators x_nextDay_denominators x_a1_weights a2 = some res) (hW : Wo g A s H locs ((w_X1 g h0 h1 h2 h3 h4 h5 h6 h7 h8 h9 h10 x_byDay_numerators x_byDay_denominators x_nextDay_numerators x_nextDay_denominators x_byBranch_numerators x_byBranch_denominators x_sequences) ++ (w_X2 g h11 h12 x_a1_weights x_a1_present))) (hl : lv_has ls 5 [(0, .ref h0), (1, .ref h11), (2, .int a2)]) : G_X1_spread p l e s m args below meth c g A h0 h1 h2 h3 h4 h5 h6 h7 h8 h9 h10 h11 h12 x_byDay_numerators x_byDay_denominators x_byBranch_numerators x_byBranch_denominators x_sequences x_a1_weights x_a1_present res H locs 0 ls [] := by
  have hts := E.2.2.2.1
  unfold f_X1_spread at h
  refine lv_aload_n E.1 E.2.1 dX1_spread_0 rfl (lv_at hl 1 rfl) ?_
  refine lv_iload_n E.1 E.2.1 dX1_spread_1 rfl (lv_at hl 2 rfl) ?_
  obtain ⟨r2, hc, h⟩ := bx h
  refine goI (world' := ((w_X1 g h0 h1 h2 h3 h4 h5 h6 h7 h8 h9 h10 x_byDay_numerators x_byDay_denominators x_nextDay_numerators x_nextDay_denominators x_byBranch_numerators x_byBranch_denominators x_sequences) ++ (w_X2 g h11 h12 x_a1_weights x_a1_present))) hW hA (is := [11, 12]) rfl (goV (rest := []) E hK hW [11, 12] rfl rfl (c_X2_weightSum l g h11 h12 x_a1_weights x_a1_present a2 (hf := hc) H.size) (cwV 1 hts gX1_spread_X2_weightSum rfl rfl rfl (by decide +kernel) ⟨Nat.le_of_ble_eq_true rfl, Nat.le_of_ble_eq_true rfl⟩) 0 rfl rfl rfl hl.1 rfl rfl (Nat.le_of_ble_eq_true rfl) dX1_spread_2 ⟨Nat.zero_le _, Nat.zero_le _⟩) rfl rfl (fun H locs hW => ?_)
  refine lv_istore_n (lv' := [(3, .int r2), (0, .ref h0), (1, .ref h11), (2, .int a2)]) E.1 E.2.1 dX1_spread_5 rfl hl (by decide) rfl (fun ls hl => ?_)
  refine lv_iconst (v := 0) E.1 E.2.1 dX1_spread_6 (by decide) ?_
  refine lv_istore (lv' := [(4, .int 0), (3, .int r2), (0, .ref h0), (1, .ref h11), (2, .int a2)]) E.1 E.2.1 dX1_spread_7 hl (by decide) rfl (fun ls hl => ?_)
  refine k_X1_spread_9 E hK hA ?_ 1000 0 x_nextDay_numerators x_nextDay_denominators H locs ls h hW (lv_sub hl [2, 3, 4, 1, 0] rfl)
  · intro x_nextDay_numerators_58e x_nextDay_denominators_58e H locs ls h hW hl
    obtain rfl := Option.some.inj h
    exact endV E hW dX1_spread_58
theorem c_X1_spread (l : Launch) (g : GE) (h0 h1 h2 h3 h4 h5 h6 h7 h8 h9 h10 h11 h12 : Nat) (x_byDay_numerators : Nat → Int64) (x_byDay_denominators : Nat → Int64) (x_nextDay_numerators : Nat → Int64) (x_nextDay_denominators : Nat → Int64) (x_byBranch_numerators : Nat → Int64) (x_byBranch_denominators : Nat → Int64) (x_sequences : Nat → Int32) (x_a1_weights : Nat → Int32) (x_a1_present : Int32) (a2 : Int32) {res : (Nat → Int64) × (Nat → Int64)} (hf : f_X1_spread x_byDay_numerators x_byDay_denominators x_nextDay_numerators x_nextDay_denominators x_a1_weights a2 = some res) : CV l yX1_spread wsX1_spread rm_X1_spread g [.ref h0, .ref h11, .int a2] ((w_X1 g h0 h1 h2 h3 h4 h5 h6 h7 h8 h9 h10 x_byDay_numerators x_byDay_denominators x_nextDay_numerators x_nextDay_denominators x_byBranch_numerators x_byBranch_denominators x_sequences) ++ (w_X2 g h11 h12 x_a1_weights x_a1_present)) ((w_X1 g h0 h1 h2 h3 h4 h5 h6 h7 h8 h9 h10 x_byDay_numerators x_byDay_denominators res.1 res.2 x_byBranch_numerators x_byBranch_denominators x_sequences) ++ (w_X2 g h11 h12 x_a1_weights x_a1_present)) :=
  mkV (cc := cX1_spread) (maxL := 5) (by decide) rfl (Nat.le_of_ble_eq_true rfl) (fun p e s m args below meth c A H locs ls E hK hA hW hl => k_X1_spread_0 E hK hA hf hW hl)

/-! PaperStorm$Chances.dayByDay(LPaperStorm$Climate;I)LPaperStorm$Fractions; X1_dayByDay -/
abbrev rm_X1_dayByDay : Room := { frames := 3, cells := 0, slots := 0, locals := 91 }
theorem in_X1_dayByDay_X1 : ∀ w ∈ wsX10, w ∈ wsX1_dayByDay := by decide +kernel
theorem in_X1_dayByDay_X2 : ∀ w ∈ wsX20, w ∈ wsX1_dayByDay := by decide +kernel
theorem lk_X1_dayByDay_12 : Cond.fieldLink RX1 12 "PaperStorm$Chances" "byDay" "LPaperStorm$Fractions;" ∈ wsX1_dayByDay := by decide +kernel
theorem lk_X1_dayByDay_18 : Cond.fieldLink RX1 18 "PaperStorm$Chances" "nextDay" "LPaperStorm$Fractions;" ∈ wsX1_dayByDay := by decide +kernel
theorem lk_X1_dayByDay_31 : Cond.fieldLinkNest "PaperStorm$Chances" 31 "PaperStorm$Climate" "present" "I" "PaperStorm" ∈ nestW := by decide +kernel
noncomputable def f_X1_dayByDay_42 (x_byDay_numerators : Nat → Int64) (x_byDay_denominators : Nat → Int64) (x_a1_weights : Nat → Int32) (z61 : (Nat → Int64) → (Nat → Int64) → Option ((Nat → Int64) × (Nat → Int64) × (Nat → Int64) × (Nat → Int64))) : Nat → Int32 → (Nat → Int64) → (Nat → Int64) → Option ((Nat → Int64) × (Nat → Int64) × (Nat → Int64) × (Nat → Int64))
  | 0, _, _, _ => none
  | n + 1, l4_42, x_nextDay_numerators_42, x_nextDay_denominators_42 => if 4 ≤ l4_42 then z61 x_nextDay_numerators_42 x_nextDay_denominators_42 else (f_X1_spread x_byDay_numerators x_byDay_denominators x_nextDay_numerators_42 x_nextDay_denominators_42 x_a1_weights l4_42).bind fun r52 => f_X1_dayByDay_42 x_byDay_numerators x_byDay_denominators x_a1_weights z61 n (l4_42 + 1) r52.1 r52.2
noncomputable def f_X1_dayByDay_22 (x_a1_weights : Nat → Int32) (l2 : Int32) (z78 : (Nat → Int64) → (Nat → Int64) → (Nat → Int64) → (Nat → Int64) → Option ((Nat → Int64) × (Nat → Int64) × (Nat → Int64) × (Nat → Int64))) : Nat → Int32 → (Nat → Int64) → (Nat → Int64) → (Nat → Int64) → (Nat → Int64) → Option ((Nat → Int64) × (Nat → Int64) × (Nat → Int64) × (Nat → Int64))
  | 0, _, _, _, _, _ => none
  | n + 1, l3_22, x_byDay_numerators_22, x_byDay_denominators_22, x_nextDay_numerators_22, x_nextDay_denominators_22 => if l2 ≤ l3_22 then z78 x_byDay_numerators_22 x_byDay_denominators_22 x_nextDay_numerators_22 x_nextDay_denominators_22 else if 3 ≤ l3_22 then z78 x_byDay_numerators_22 x_byDay_denominators_22 x_nextDay_numerators_22 x_nextDay_denominators_22 else (f_X5_clear x_nextDay_numerators_22 x_nextDay_denominators_22).bind fun r36 => f_X1_dayByDay_42 x_byDay_numerators_22 x_byDay_denominators_22 x_a1_weights (fun x_nextDay_numerators_61e x_nextDay_denominators_61e => (f_X5_copyFrom x_byDay_numerators_22 x_byDay_denominators_22 x_nextDay_numerators_61e x_nextDay_denominators_61e).bind fun r69 => f_X1_dayByDay_22 x_a1_weights l2 z78 n (l3_22 + 1) r69.1 r69.2 x_nextDay_numerators_61e x_nextDay_denominators_61e) 1000 0 r36.1 r36.2
noncomputable def f_X1_dayByDay (x_byDay_numerators : Nat → Int64) (x_byDay_denominators : Nat → Int64) (x_nextDay_numerators : Nat → Int64) (x_nextDay_denominators : Nat → Int64) (x_a1_weights : Nat → Int32) (x_a1_present : Int32) (a2 : Int32) : Option ((Nat → Int64) × (Nat → Int64) × (Nat → Int64) × (Nat → Int64)) :=
  (f_X5_clear x_byDay_numerators x_byDay_denominators).bind fun r4 => (f_X5_add r4.1 r4.2 x_a1_present 1 1).bind fun r17 => f_X1_dayByDay_22 x_a1_weights a2 (fun x_byDay_numerators_78e x_byDay_denominators_78e x_nextDay_numerators_78e x_nextDay_denominators_78e => some (x_byDay_numerators_78e, x_byDay_denominators_78e, x_nextDay_numerators_78e, x_nextDay_denominators_78e)) 1000 0 r17.1 r17.2 x_nextDay_numerators x_nextDay_denominators
abbrev G_X1_dayByDay (p : Program) (l : Launch) (e : Env) (s : State) (m : MethodId) (args : Array Value) (below : List Frame) (meth : Method) (c : Code) (g : GE) (A : Nat → Prop) (h0 h1 h2 h3 h4 h5 h6 h7 h8 h9 h10 h11 h12 : Nat) (x_byBranch_numerators : Nat → Int64) (x_byBranch_denominators : Nat → Int64) (x_sequences : Nat → Int32) (x_a1_weights : Nat → Int32) (x_a1_present : Int32) (res : (Nat → Int64) × (Nat → Int64) × (Nat → Int64) × (Nat → Int64)) (H : Heap) (locs : List Loc) (pc : Nat) (ls : Array Slot) (st : List Value) : Prop := W p l e (headSpec wsX1_dayByDay rm_X1_dayByDay).room s m args below meth c H locs 0 0 (MQ below (PoA g A ((w_X1 g h0 h1 h2 h3 h4 h5 h6 h7 h8 h9 h10 res.1 res.2.1 res.2.2.1 res.2.2.2 x_byBranch_numerators x_byBranch_denominators x_sequences) ++ (w_X2 g h11 h12 x_a1_weights x_a1_present)) h1) args s 0 0 A) (F0 m pc ls st)
set_option maxHeartbeats 4000000 in
set_option maxRecDepth 100000 in
theorem k_X1_dayByDay_42 {p : Program} {l : Launch} {e : Env} {s : State} {m : MethodId} {args : Array Value} {below : List Frame} {meth : Method} {c : Code} {g : GE} {A : Nat → Prop} {h0 h1 h2 h3 h4 h5 h6 h7 h8 h9 h10 h11 h12 : Nat} {x_byDay_numerators : Nat → Int64} {x_byDay_denominators : Nat → Int64} {x_byBranch_numerators : Nat → Int64} {x_byBranch_denominators : Nat → Int64} {x_sequences : Nat → Int32} {x_a1_weights : Nat → Int32} {x_a1_present : Int32} {res : (Nat → Int64) × (Nat → Int64) × (Nat → Int64) × (Nat → Int64)} {l2 : Int32} {l3 : Int32} {z61 : (Nat → Int64) → (Nat → Int64) → Option ((Nat → Int64) × (Nat → Int64) × (Nat → Int64) × (Nat → Int64))}
    (E : En cX1_dayByDay RX1 wsX1_dayByDay 5 (some (.object "PaperStorm$Fractions")) p s m args meth c) (hK : KK g s) (hA : ∀ q, s.heap.size ≤ q → A q)
    (hz61 : ∀ (x_nextDay_numerators_61e : Nat → Int64) (x_nextDay_denominators_61e : Nat → Int64) (H : Heap) (locs : List Loc) (ls : Array Slot), z61 x_nextDay_numerators_61e x_nextDay_denominators_61e = some res → Wo g A s H locs ((w_X1 g h0 h1 h2 h3 h4 h5 h6 h7 h8 h9 h10 x_byDay_numerators x_byDay_denominators x_nextDay_numerators_61e x_nextDay_denominators_61e x_byBranch_numerators x_byBranch_denominators x_sequences) ++ (w_X2 g h11 h12 x_a1_weights x_a1_present)) → lv_has ls 5 [(0, .ref h0), (1, .ref h11), (2, .int l2), (3, .int l3)] → G_X1_dayByDay p l e s m args below meth c g A h0 h1 h2 h3 h4 h5 h6 h7 h8 h9 h10 h11 h12 x_byBranch_numerators x_byBranch_denominators x_sequences x_a1_weights x_a1_present res H locs 61 ls [])
    : ∀ (n : Nat) (l4_42 : Int32) (x_nextDay_numerators_42 : Nat → Int64) (x_nextDay_denominators_42 : Nat → Int64) (H : Heap) (locs : List Loc) (ls : Array Slot), f_X1_dayByDay_42 x_byDay_numerators x_byDay_denominators x_a1_weights z61 n l4_42 x_nextDay_numerators_42 x_nextDay_denominators_42 = some res → Wo g A s H locs ((w_X1 g h0 h1 h2 h3 h4 h5 h6 h7 h8 h9 h10 x_byDay_numerators x_byDay_denominators x_nextDay_numerators_42 x_nextDay_denominators_42 x_byBranch_numerators x_byBranch_denominators x_sequences) ++ (w_X2 g h11 h12 x_a1_weights x_a1_present)) → lv_has ls 5 [(0, .ref h0), (1, .ref h11), (2, .int l2), (3, .int l3), (4, .int l4_42)] → G_X1_dayByDay p l e s m args below meth c g A h0 h1 h2 h3 h4 h5 h6 h7 h8 h9 h10 h11 h12 x_byBranch_numerators x_byBranch_denominators x_sequences x_a1_weights x_a1_present res H locs 42 ls [] := by
  have hts := E.2.2.2.1
  intro n
  induction n with
  | zero => intro l4_42 x_nextDay_numerators_42 x_nextDay_denominators_42 H locs ls h hW hl; rw [f_X1_dayByDay_42] at h; cases h
  | succ n ih =>
    intro l4_42 x_nextDay_numerators_42 x_nextDay_denominators_42 H locs ls h hW hl
    rw [f_X1_dayByDay_42] at h
    refine lv_iload E.1 E.2.1 dX1_dayByDay_42 (lv_at hl 4 rfl) ?_
    refine lv_iconst (v := 4) E.1 E.2.1 dX1_dayByDay_44 (by decide) ?_
    refine lv_icmp_ge (tgt := 61) E.1 E.2.1 dX1_dayByDay_45 (by decide) (fun c45 => ?_) (fun c45 => ?_)
    · have h := it c45 h
      exact hz61 x_nextDay_numerators_42 x_nextDay_denominators_42 H locs ls h hW (lv_sub hl [0, 1, 2, 3] rfl)
    · have h := ie c45 h
      refine lv_aload_n E.1 E.2.1 dX1_dayByDay_48 rfl (lv_at hl 0 rfl) ?_
      refine lv_aload_n E.1 E.2.1 dX1_dayByDay_49 rfl (lv_at hl 1 rfl) ?_
      refine lv_iload E.1 E.2.1 dX1_dayByDay_50 (lv_at hl 4 rfl) ?_
      obtain ⟨r52, hc, h⟩ := bx h
      refine goU (world' := ((w_X1 g h0 h1 h2 h3 h4 h5 h6 h7 h8 h9 h10 x_byDay_numerators x_byDay_denominators r52.1 r52.2 x_byBranch_numerators x_byBranch_denominators x_sequences) ++ (w_X2 g h11 h12 x_a1_weights x_a1_present))) hW hA (is := [0, 1, 2, 3, 4, 5, 6, 7, 8, 9, 10, 11, 12]) rfl (goV (rest := []) E hK hW [0, 1, 2, 3, 4, 5, 6, 7, 8, 9, 10, 11, 12] rfl rfl (c_X1_spread l g h0 h1 h2 h3 h4 h5 h6 h7 h8 h9 h10 h11 h12 x_byDay_numerators x_byDay_denominators x_nextDay_numerators_42 x_nextDay_denominators_42 x_byBranch_numerators x_byBranch_denominators x_sequences x_a1_weights x_a1_present l4_42 (hf := hc) H.size) (cwV 2 hts gX1_dayByDay_X1_spread rfl rfl rfl (by decide +kernel) ⟨Nat.le_of_ble_eq_true rfl, Nat.le_of_ble_eq_true rfl⟩) 0 rfl rfl rfl hl.1 rfl rfl (Nat.le_of_ble_eq_true rfl) dX1_dayByDay_52 ⟨Nat.zero_le _, Nat.zero_le _⟩) rfl rfl (fun H locs hW => ?_)
      refine lv_iinc (v := (l4_42 + 1)) (lv' := [(4, .int (l4_42 + 1)), (0, .ref h0), (1, .ref h11), (2, .int l2), (3, .int l3)]) E.1 E.2.1 dX1_dayByDay_55 hl (k := 4) rfl rfl (by decide) rfl (fun ls hl => ?_)
      refine lv_goto (tgt := 42) E.1 E.2.1 dX1_dayByDay_58 (by decide) ?_
      exact ih (l4_42 + 1) r52.1 r52.2 H locs ls h hW (lv_sub hl [1, 2, 3, 4, 0] rfl)
set_option maxHeartbeats 4000000 in
set_option maxRecDepth 100000 in
theorem k_X1_dayByDay_22 {p : Program} {l : Launch} {e : Env} {s : State} {m : MethodId} {args : Array Value} {below : List Frame} {meth : Method} {c : Code} {g : GE} {A : Nat → Prop} {h0 h1 h2 h3 h4 h5 h6 h7 h8 h9 h10 h11 h12 : Nat} {x_byBranch_numerators : Nat → Int64} {x_byBranch_denominators : Nat → Int64} {x_sequences : Nat → Int32} {x_a1_weights : Nat → Int32} {x_a1_present : Int32} {res : (Nat → Int64) × (Nat → Int64) × (Nat → Int64) × (Nat → Int64)} {l2 : Int32} {z78 : (Nat → Int64) → (Nat → Int64) → (Nat → Int64) → (Nat → Int64) → Option ((Nat → Int64) × (Nat → Int64) × (Nat → Int64) × (Nat → Int64))}
    (E : En cX1_dayByDay RX1 wsX1_dayByDay 5 (some (.object "PaperStorm$Fractions")) p s m args meth c) (hK : KK g s) (hA : ∀ q, s.heap.size ≤ q → A q)
    (hz78 : ∀ (x_byDay_numerators_78e : Nat → Int64) (x_byDay_denominators_78e : Nat → Int64) (x_nextDay_numerators_78e : Nat → Int64) (x_nextDay_denominators_78e : Nat → Int64) (H : Heap) (locs : List Loc) (ls : Array Slot), z78 x_byDay_numerators_78e x_byDay_denominators_78e x_nextDay_numerators_78e x_nextDay_denominators_78e = some res → Wo g A s H locs ((w_X1 g h0 h1 h2 h3 h4 h5 h6 h7 h8 h9 h10 x_byDay_numerators_78e x_byDay_denominators_78e x_nextDay_numerators_78e x_nextDay_denominators_78e x_byBranch_numerators x_byBranch_denominators x_sequences) ++ (w_X2 g h11 h12 x_a1_weights x_a1_present)) → lv_has ls 5 [(0, .ref h0)] → G_X1_dayByDay p l e s m args below meth c g A h0 h1 h2 h3 h4 h5 h6 h7 h8 h9 h10 h11 h12 x_byBranch_numerators x_byBranch_denominators x_sequences x_a1_weights x_a1_present res H locs 78 ls [])
    : ∀ (n : Nat) (l3_22 : Int32) (x_byDay_numerators_22 : Nat → Int64) (x_byDay_denominators_22 : Nat → Int64) (x_nextDay_numerators_22 : Nat → Int64) (x_nextDay_denominators_22 : Nat → Int64) (H : Heap) (locs : List Loc) (ls : Array Slot), f_X1_dayByDay_22 x_a1_weights l2 z78 n l3_22 x_byDay_numerators_22 x_byDay_denominators_22 x_nextDay_numerators_22 x_nextDay_denominators_22 = some res → Wo g A s H locs ((w_X1 g h0 h1 h2 h3 h4 h5 h6 h7 h8 h9 h10 x_byDay_numerators_22 x_byDay_denominators_22 x_nextDay_numerators_22 x_nextDay_denominators_22 x_byBranch_numerators x_byBranch_denominators x_sequences) ++ (w_X2 g h11 h12 x_a1_weights x_a1_present)) → lv_has ls 5 [(0, .ref h0), (1, .ref h11), (2, .int l2), (3, .int l3_22)] → G_X1_dayByDay p l e s m args below meth c g A h0 h1 h2 h3 h4 h5 h6 h7 h8 h9 h10 h11 h12 x_byBranch_numerators x_byBranch_denominators x_sequences x_a1_weights x_a1_present res H locs 22 ls [] := by
  have hts := E.2.2.2.1
  intro n
  induction n with
  | zero => intro l3_22 x_byDay_numerators_22 x_byDay_denominators_22 x_nextDay_numerators_22 x_nextDay_denominators_22 H locs ls h hW hl; rw [f_X1_dayByDay_22] at h; cases h
  | succ n ih =>
    intro l3_22 x_byDay_numerators_22 x_byDay_denominators_22 x_nextDay_numerators_22 x_nextDay_denominators_22 H locs ls h hW hl
    rw [f_X1_dayByDay_22] at h
    refine lv_iload_n E.1 E.2.1 dX1_dayByDay_22 rfl (lv_at hl 3 rfl) ?_
    refine lv_iload_n E.1 E.2.1 dX1_dayByDay_23 rfl (lv_at hl 2 rfl) ?_
    refine lv_icmp_ge (tgt := 78) E.1 E.2.1 dX1_dayByDay_24 (by decide) (fun c24 => ?_) (fun c24 => ?_)
    · have h := it c24 h
      exact hz78 x_byDay_numerators_22 x_byDay_denominators_22 x_nextDay_numerators_22 x_nextDay_denominators_22 H locs ls h hW (lv_sub hl [0] rfl)
    · have h := ie c24 h
      refine lv_iload_n E.1 E.2.1 dX1_dayByDay_27 rfl (lv_at hl 3 rfl) ?_
      refine lv_iconst (v := 3) E.1 E.2.1 dX1_dayByDay_28 (by decide) ?_
      refine lv_icmp_ge (tgt := 78) E.1 E.2.1 dX1_dayByDay_29 (by decide) (fun c29 => ?_) (fun c29 => ?_)
      · have h := it c29 h
        exact hz78 x_byDay_numerators_22 x_byDay_denominators_22 x_nextDay_numerators_22 x_nextDay_denominators_22 H locs ls h hW (lv_sub hl [0] rfl)
      · have h := ie c29 h
        refine lv_aload_n E.1 E.2.1 dX1_dayByDay_32 rfl (lv_at hl 0 rfl) ?_
        refine wGet (v := .ref h4) E hK in_X1_dayByDay_X1 hW 1 lk_X1_dayByDay_18 0 rfl rfl (by decide) rfl rfl dX1_dayByDay_33 ?_
        obtain ⟨r36, hc, h⟩ := bx h
        refine goU (world' := ((w_X1 g h0 h1 h2 h3 h4 h5 h6 h7 h8 h9 h10 x_byDay_numerators_22 x_byDay_denominators_22 r36.1 r36.2 x_byBranch_numerators x_byBranch_denominators x_sequences) ++ (w_X2 g h11 h12 x_a1_weights x_a1_present))) hW hA (is := [4, 5, 6]) rfl (goV (rest := []) E hK hW [4, 5, 6] rfl rfl (c_X5_clear l g h4 h5 h6 x_nextDay_numerators_22 x_nextDay_denominators_22 (hf := hc) H.size) (cwV 0 hts gX1_dayByDay_X5_clear rfl rfl rfl (by decide +kernel) ⟨Nat.le_of_ble_eq_true rfl, Nat.le_of_ble_eq_true rfl⟩) 0 rfl rfl rfl hl.1 rfl rfl (Nat.le_of_ble_eq_true rfl) dX1_dayByDay_36 ⟨Nat.zero_le _, Nat.zero_le _⟩) rfl rfl (fun H locs hW => ?_)
        refine lv_iconst (v := 0) E.1 E.2.1 dX1_dayByDay_39 (by decide) ?_
        refine lv_istore (lv' := [(4, .int 0), (0, .ref h0), (1, .ref h11), (2, .int l2), (3, .int l3_22)]) E.1 E.2.1 dX1_dayByDay_40 hl (by decide) rfl (fun ls hl => ?_)
        refine k_X1_dayByDay_42 E hK hA ?_ 1000 0 r36.1 r36.2 H locs ls h hW (lv_sub hl [1, 2, 3, 4, 0] rfl)
        · intro x_nextDay_numerators_61e x_nextDay_denominators_61e H locs ls h hW hl
          refine lv_aload_n E.1 E.2.1 dX1_dayByDay_61 rfl (lv_at hl 0 rfl) ?_
          refine wGet (v := .ref h1) E hK in_X1_dayByDay_X1 hW 0 lk_X1_dayByDay_12 0 rfl rfl (by decide) rfl rfl dX1_dayByDay_62 ?_
          refine lv_aload_n E.1 E.2.1 dX1_dayByDay_65 rfl (lv_at hl 0 rfl) ?_
          refine wGet (v := .ref h4) E hK in_X1_dayByDay_X1 hW 1 lk_X1_dayByDay_18 0 rfl rfl (by decide) rfl rfl dX1_dayByDay_66 ?_
          obtain ⟨r69, hc, h⟩ := bx h
          refine goU (world' := ((w_X1 g h0 h1 h2 h3 h4 h5 h6 h7 h8 h9 h10 r69.1 r69.2 x_nextDay_numerators_61e x_nextDay_denominators_61e x_byBranch_numerators x_byBranch_denominators x_sequences) ++ (w_X2 g h11 h12 x_a1_weights x_a1_present))) hW hA (is := [1, 2, 3, 4, 5, 6]) rfl (goV (rest := []) E hK hW [1, 2, 3, 4, 5, 6] rfl rfl (c_X5_copyFrom l g h1 h2 h3 h4 h5 h6 x_byDay_numerators_22 x_byDay_denominators_22 x_nextDay_numerators_61e x_nextDay_denominators_61e (hf := hc) H.size) (cwV 1 hts gX1_dayByDay_X5_copyFrom rfl rfl rfl (by decide +kernel) ⟨Nat.le_of_ble_eq_true rfl, Nat.le_of_ble_eq_true rfl⟩) 0 rfl rfl rfl hl.1 rfl rfl (Nat.le_of_ble_eq_true rfl) dX1_dayByDay_69 ⟨Nat.zero_le _, Nat.zero_le _⟩) rfl rfl (fun H locs hW => ?_)
          refine lv_iinc (v := (l3_22 + 1)) (lv' := [(3, .int (l3_22 + 1)), (0, .ref h0), (1, .ref h11), (2, .int l2)]) E.1 E.2.1 dX1_dayByDay_72 hl (k := 3) rfl rfl (by decide) rfl (fun ls hl => ?_)
          refine lv_goto (tgt := 22) E.1 E.2.1 dX1_dayByDay_75 (by decide) ?_
          exact ih (l3_22 + 1) r69.1 r69.2 x_nextDay_numerators_61e x_nextDay_denominators_61e H locs ls h hW (lv_sub hl [1, 2, 3, 0] rfl)
set_option maxHeartbeats 4000000 in
set_option maxRecDepth 100000 in
theorem k_X1_dayByDay_0 {p : Program} {l : Launch} {e : Env} {s : State} {m : MethodId} {args : Array Value} {below : List Frame} {meth : Method} {c : Code} {g : GE} {A : Nat → Prop} {h0 h1 h2 h3 h4 h5 h6 h7 h8 h9 h10 h11 h12 : Nat} {x_byDay_numerators : Nat → Int64} {x_byDay_denominators : Nat → Int64} {x_nextDay_numerators : Nat → Int64} {x_nextDay_denominators : Nat → Int64} {x_byBranch_numerators : Nat → Int64} {x_byBranch_denominators : Nat → Int64} {x_sequences : Nat → Int32} {x_a1_weights : Nat → Int32} {x_a1_present : Int32} {res : (Nat → Int64) × (Nat → Int64) × (Nat → Int64) × (Nat → Int64)} {H : Heap} {locs : List Loc} {ls : Array Slot} {a2 : Int32}
    (E : En cX1_dayByDay RX1 wsX1_dayByDay 5 (some (.object "PaperStorm$Fractions")) p s m args meth c) (hK : KK g s) (hA : ∀ q, s.heap.size ≤ q → A q) (h : f_X1_dayByDay x_byDay_numerators x_byDay_denominators x_nextDay_numerators x_nextDay_denominators x_a1_weights x_a1_present a2 = some res) (hW : Wo g A s H locs ((w_X1 g h0 h1 h2 h3 h4 h5 h6 h7 h8 h9 h10 x_byDay_numerators x_byDay_denominators x_nextDay_numerators x_nextDay_denominators x_byBranch_numerators x_byBranch_denominators x_sequences) ++ (w_X2 g h11 h12 x_a1_weights x_a1_present))) (hl : lv_has ls 5 [(0, .ref h0), (1, .ref h11), (2, .int a2)]) : G_X1_dayByDay p l e s m args below meth c g A h0 h1 h2 h3 h4 h5 h6 h7 h8 h9 h10 h11 h12 x_byBranch_numerators x_byBranch_denominators x_sequences x_a1_weights x_a1_present res H locs 0 ls [] := by
  have hts := E.2.2.2.1
  unfold f_X1_dayByDay at h
  refine lv_aload_n E.1 E.2.1 dX1_dayByDay_0 rfl (lv_at hl 0 rfl) ?_
  refine wGet (v := .ref h1) E hK in_X1_dayByDay_X1 hW 0 lk_X1_dayByDay_12 0 rfl rfl (by decide) rfl rfl dX1_dayByDay_1 ?_
  obtain ⟨r4, hc, h⟩ := bx h
  refine goU (world' := ((w_X1 g h0 h1 h2 h3 h4 h5 h6 h7 h8 h9 h10 r4.1 r4.2 x_nextDay_numerators x_nextDay_denominators x_byBranch_numerators x_byBranch_denominators x_sequences) ++ (w_X2 g h11 h12 x_a1_weights x_a1_present))) hW hA (is := [1, 2, 3]) rfl (goV (rest := []) E hK hW [1, 2, 3] rfl rfl (c_X5_clear l g h1 h2 h3 x_byDay_numerators x_byDay_denominators (hf := hc) H.size) (cwV 0 hts gX1_dayByDay_X5_clear rfl rfl rfl (by decide +kernel) ⟨Nat.le_of_ble_eq_true rfl, Nat.le_of_ble_eq_true rfl⟩) 0 rfl rfl rfl hl.1 rfl rfl (Nat.le_of_ble_eq_true rfl) dX1_dayByDay_4 ⟨Nat.zero_le _, Nat.zero_le _⟩) rfl rfl (fun H locs hW => ?_)
  refine lv_aload_n E.1 E.2.1 dX1_dayByDay_7 rfl (lv_at hl 0 rfl) ?_
  refine wGet (v := .ref h1) E hK in_X1_dayByDay_X1 hW 0 lk_X1_dayByDay_12 0 rfl rfl (by decide) rfl rfl dX1_dayByDay_8 ?_
  refine lv_aload_n E.1 E.2.1 dX1_dayByDay_11 rfl (lv_at hl 1 rfl) ?_
  refine wGetN (v := .int x_a1_present) E hK in_X1_dayByDay_X2 hW 1 lk_X1_dayByDay_31 11 rfl rfl (by decide) rfl rfl dX1_dayByDay_12 ?_
  refine lv_lconst (v := 1) E.1 E.2.1 dX1_dayByDay_15 (by decide) ?_
  refine lv_lconst (v := 1) E.1 E.2.1 dX1_dayByDay_16 (by decide) ?_
  obtain ⟨r17, hc, h⟩ := bx h
  refine goU (world' := ((w_X1 g h0 h1 h2 h3 h4 h5 h6 h7 h8 h9 h10 r17.1 r17.2 x_nextDay_numerators x_nextDay_denominators x_byBranch_numerators x_byBranch_denominators x_sequences) ++ (w_X2 g h11 h12 x_a1_weights x_a1_present))) hW hA (is := [1, 2, 3]) rfl (goV (rest := []) E hK hW [1, 2, 3] rfl rfl (c_X5_add l g h1 h2 h3 r4.1 r4.2 x_a1_present 1 1 (hf := hc) H.size) (cwV 3 hts gX1_dayByDay_X5_add rfl rfl rfl (by decide +kernel) ⟨Nat.le_of_ble_eq_true rfl, Nat.le_of_ble_eq_true rfl⟩) 0 rfl rfl rfl hl.1 rfl rfl (Nat.le_of_ble_eq_true rfl) dX1_dayByDay_17 ⟨Nat.zero_le _, Nat.zero_le _⟩) rfl rfl (fun H locs hW => ?_)
  refine lv_iconst (v := 0) E.1 E.2.1 dX1_dayByDay_20 (by decide) ?_
  refine lv_istore_n (lv' := [(3, .int 0), (0, .ref h0), (1, .ref h11), (2, .int a2)]) E.1 E.2.1 dX1_dayByDay_21 rfl hl (by decide) rfl (fun ls hl => ?_)
  refine k_X1_dayByDay_22 E hK hA ?_ 1000 0 r17.1 r17.2 x_nextDay_numerators x_nextDay_denominators H locs ls h hW (lv_sub hl [1, 2, 3, 0] rfl)
  · intro x_byDay_numerators_78e x_byDay_denominators_78e x_nextDay_numerators_78e x_nextDay_denominators_78e H locs ls h hW hl
    refine lv_aload_n E.1 E.2.1 dX1_dayByDay_78 rfl (lv_at hl 0 rfl) ?_
    refine wGet (v := .ref h1) E hK in_X1_dayByDay_X1 hW 0 lk_X1_dayByDay_12 0 rfl rfl (by decide) rfl rfl dX1_dayByDay_79 ?_
    obtain rfl := Option.some.inj h
    exact endA E (Or.inl ⟨_, rfl⟩) hW dX1_dayByDay_82
theorem c_X1_dayByDay (l : Launch) (g : GE) (h0 h1 h2 h3 h4 h5 h6 h7 h8 h9 h10 h11 h12 : Nat) (x_byDay_numerators : Nat → Int64) (x_byDay_denominators : Nat → Int64) (x_nextDay_numerators : Nat → Int64) (x_nextDay_denominators : Nat → Int64) (x_byBranch_numerators : Nat → Int64) (x_byBranch_denominators : Nat → Int64) (x_sequences : Nat → Int32) (x_a1_weights : Nat → Int32) (x_a1_present : Int32) (a2 : Int32) {res : (Nat → Int64) × (Nat → Int64) × (Nat → Int64) × (Nat → Int64)} (hf : f_X1_dayByDay x_byDay_numerators x_byDay_denominators x_nextDay_numerators x_nextDay_denominators x_a1_weights x_a1_present a2 = some res) : CA l yX1_dayByDay wsX1_dayByDay rm_X1_dayByDay g [.ref h0, .ref h11, .int a2] ((w_X1 g h0 h1 h2 h3 h4 h5 h6 h7 h8 h9 h10 x_byDay_numerators x_byDay_denominators x_nextDay_numerators x_nextDay_denominators x_byBranch_numerators x_byBranch_denominators x_sequences) ++ (w_X2 g h11 h12 x_a1_weights x_a1_present)) ((w_X1 g h0 h1 h2 h3 h4 h5 h6 h7 h8 h9 h10 res.1 res.2.1 res.2.2.1 res.2.2.2 x_byBranch_numerators x_byBranch_denominators x_sequences) ++ (w_X2 g h11 h12 x_a1_weights x_a1_present)) h1 :=
  mkA (cc := cX1_dayByDay) (maxL := 5) (by decide) rfl (Nat.le_of_ble_eq_true rfl) (fun p e s m args below meth c A H locs ls E hK hA hW hl => k_X1_dayByDay_0 E hK hA hf hW hl)

/-! PaperStorm$Chances.follow(LPaperStorm$Climate;II)V X1_follow -/
abbrev rm_X1_follow : Room := { frames := 2, cells := 0, slots := 0, locals := 67 }
theorem in_X1_follow_X1 : ∀ w ∈ wsX10, w ∈ wsX1_follow := by decide +kernel
theorem in_X1_follow_X2 : ∀ w ∈ wsX20, w ∈ wsX1_follow := by decide +kernel
theorem lk_X1_follow_21 : Cond.fieldLink RX1 21 "PaperStorm$Chances" "byBranch" "LPaperStorm$Fractions;" ∈ wsX1_follow := by decide +kernel
theorem lk_X1_follow_24 : Cond.fieldLink RX1 24 "PaperStorm$Chances" "sequences" "[I" ∈ wsX1_follow := by decide +kernel
theorem lk_X1_follow_31 : Cond.fieldLinkNest "PaperStorm$Chances" 31 "PaperStorm$Climate" "present" "I" "PaperStorm" ∈ nestW := by decide +kernel
noncomputable def f_X1_follow_18 (x_a1_weights : Nat → Int32) (l2 : Int32) (z78 : Int32 → Int64 → Int64 → Option ((Nat → Int64) × (Nat → Int64) × (Nat → Int32))) : Nat → Int32 → Int64 → Int64 → Int32 → Int32 → Option ((Nat → Int64) × (Nat → Int64) × (Nat → Int32))
  | 0, _, _, _, _, _ => none
  | n + 1, l4_18, l5_18, l7_18, l9_18, l10_18 => if l2 ≤ l10_18 then z78 l4_18 l5_18 l7_18 else if 3 ≤ l10_18 then z78 l4_18 l5_18 l7_18 else (f_X2_weight x_a1_weights l4_18 (l9_18 - l9_18 / 4 * 4)).bind fun r49 => (f_X2_weightSum x_a1_weights l4_18).bind fun r61 => f_X1_follow_18 x_a1_weights l2 z78 n (l9_18 - l9_18 / 4 * 4) (l5_18 * ((r49).toInt64)) (l7_18 * ((r61).toInt64)) (l9_18 / 4) (l10_18 + 1)
noncomputable def f_X1_follow (x_byBranch_numerators : Nat → Int64) (x_byBranch_denominators : Nat → Int64) (x_sequences : Nat → Int32) (x_a1_weights : Nat → Int32) (x_a1_present : Int32) (a2 : Int32) (a3 : Int32) : Option ((Nat → Int64) × (Nat → Int64) × (Nat → Int32)) :=
  f_X1_follow_18 x_a1_weights a2 (fun l4_78e l5_78e l7_78e => jo (fun (x_byBranch_numerators_117 : Nat → Int64) (x_byBranch_denominators_117 : Nat → Int64) (x_sequences_117 : Nat → Int32) => some (x_byBranch_numerators_117, x_byBranch_denominators_117, x_sequences_117)) (fun j117 => if (lg_cmp l5_78e 0) ≤ 0 then j117 x_byBranch_numerators x_byBranch_denominators x_sequences else (f_X2_isWeather l4_78e).bind fun r87 => if r87 = 0 then j117 x_byBranch_numerators x_byBranch_denominators x_sequences else (f_X5_add x_byBranch_numerators x_byBranch_denominators l4_78e l5_78e l7_78e).bind fun r103 => if l4_78e < 0 ∨ 4 ≤ l4_78e.toNatClampNeg then none else j117 r103.1 r103.2 (upd x_sequences l4_78e.toNatClampNeg ((x_sequences l4_78e.toNatClampNeg) + 1)))) 1000 x_a1_present 1 1 a3 0
abbrev G_X1_follow (p : Program) (l : Launch) (e : Env) (s : State) (m : MethodId) (args : Array Value) (below : List Frame) (meth : Method) (c : Code) (g : GE) (A : Nat → Prop) (h0 h1 h2 h3 h4 h5 h6 h7 h8 h9 h10 h11 h12 : Nat) (x_byDay_numerators : Nat → Int64) (x_byDay_denominators : Nat → Int64) (x_nextDay_numerators : Nat → Int64) (x_nextDay_denominators : Nat → Int64) (x_a1_weights : Nat → Int32) (x_a1_present : Int32) (res : (Nat → Int64) × (Nat → Int64) × (Nat → Int32)) (H : Heap) (locs : List Loc) (pc : Nat) (ls : Array Slot) (st : List Value) : Prop := W p l e (headSpec wsX1_follow rm_X1_follow).room s m args below meth c H locs 0 0 (MQ below (PoV g A ((w_X1 g h0 h1 h2 h3 h4 h5 h6 h7 h8 h9 h10 x_byDay_numerators x_byDay_denominators x_nextDay_numerators x_nextDay_denominators res.1 res.2.1 res.2.2) ++ (w_X2 g h11 h12 x_a1_weights x_a1_present))) args s 0 0 A) (F0 m pc ls st)
set_option maxHeartbeats 4000000 in
set_option maxRecDepth 100000 in
theorem k_X1_follow_18 {p : Program} {l : Launch} {e : Env} {s : State} {m : MethodId} {args : Array Value} {below : List Frame} {meth : Method} {c : Code} {g : GE} {A : Nat → Prop} {h0 h1 h2 h3 h4 h5 h6 h7 h8 h9 h10 h11 h12 : Nat} {x_byDay_numerators : Nat → Int64} {x_byDay_denominators : Nat → Int64} {x_nextDay_numerators : Nat → Int64} {x_nextDay_denominators : Nat → Int64} {x_byBranch_numerators : Nat → Int64} {x_byBranch_denominators : Nat → Int64} {x_sequences : Nat → Int32} {x_a1_weights : Nat → Int32} {x_a1_present : Int32} {res : (Nat → Int64) × (Nat → Int64) × (Nat → Int32)} {l2 : Int32} {z78 : Int32 → Int64 → Int64 → Option ((Nat → Int64) × (Nat → Int64) × (Nat → Int32))}
    (E : En cX1_follow RX1 wsX1_follow 12 none p s m args meth c) (hK : KK g s) (hA : ∀ q, s.heap.size ≤ q → A q)
    (hz78 : ∀ (l4_78e : Int32) (l5_78e : Int64) (l7_78e : Int64) (H : Heap) (locs : List Loc) (ls : Array Slot), z78 l4_78e l5_78e l7_78e = some res → Wo g A s H locs ((w_X1 g h0 h1 h2 h3 h4 h5 h6 h7 h8 h9 h10 x_byDay_numerators x_byDay_denominators x_nextDay_numerators x_nextDay_denominators x_byBranch_numerators x_byBranch_denominators x_sequences) ++ (w_X2 g h11 h12 x_a1_weights x_a1_present)) → lv_has ls 12 [(0, .ref h0), (4, .int l4_78e), (5, .long l5_78e), (7, .long l7_78e)] → G_X1_follow p l e s m args below meth c g A h0 h1 h2 h3 h4 h5 h6 h7 h8 h9 h10 h11 h12 x_byDay_numerators x_byDay_denominators x_nextDay_numerators x_nextDay_denominators x_a1_weights x_a1_present res H locs 78 ls [])
    : ∀ (n : Nat) (l4_18 : Int32) (l5_18 : Int64) (l7_18 : Int64) (l9_18 : Int32) (l10_18 : Int32) (H : Heap) (locs : List Loc) (ls : Array Slot), f_X1_follow_18 x_a1_weights l2 z78 n l4_18 l5_18 l7_18 l9_18 l10_18 = some res → Wo g A s H locs ((w_X1 g h0 h1 h2 h3 h4 h5 h6 h7 h8 h9 h10 x_byDay_numerators x_byDay_denominators x_nextDay_numerators x_nextDay_denominators x_byBranch_numerators x_byBranch_denominators x_sequences) ++ (w_X2 g h11 h12 x_a1_weights x_a1_present)) → lv_has ls 12 [(0, .ref h0), (1, .ref h11), (2, .int l2), (4, .int l4_18), (5, .long l5_18), (7, .long l7_18), (9, .int l9_18), (10, .int l10_18)] → G_X1_follow p l e s m args below meth c g A h0 h1 h2 h3 h4 h5 h6 h7 h8 h9 h10 h11 h12 x_byDay_numerators x_byDay_denominators x_nextDay_numerators x_nextDay_denominators x_a1_weights x_a1_present res H locs 18 ls [] := by
  have hts := E.2.2.2.1
  intro n
  induction n with
  | zero => intro l4_18 l5_18 l7_18 l9_18 l10_18 H locs ls h hW hl; rw [f_X1_follow_18] at h; cases h
  | succ n ih =>
    intro l4_18 l5_18 l7_18 l9_18 l10_18 H locs ls h hW hl
    rw [f_X1_follow_18] at h
    refine lv_iload E.1 E.2.1 dX1_follow_18 (lv_at hl 7 rfl) ?_
    refine lv_iload_n E.1 E.2.1 dX1_follow_20 rfl (lv_at hl 2 rfl) ?_
    refine lv_icmp_ge (tgt := 78) E.1 E.2.1 dX1_follow_21 (by decide) (fun c21 => ?_) (fun c21 => ?_)
    · have h := it c21 h
      exact hz78 l4_18 l5_18 l7_18 H locs ls h hW (lv_sub hl [0, 3, 4, 5] rfl)
    · have h := ie c21 h
      refine lv_iload E.1 E.2.1 dX1_follow_24 (lv_at hl 7 rfl) ?_
      refine lv_iconst (v := 3) E.1 E.2.1 dX1_follow_26 (by decide) ?_
      refine lv_icmp_ge (tgt := 78) E.1 E.2.1 dX1_follow_27 (by decide) (fun c27 => ?_) (fun c27 => ?_)
      · have h := it c27 h
        exact hz78 l4_18 l5_18 l7_18 H locs ls h hW (lv_sub hl [0, 3, 4, 5] rfl)
      · have h := ie c27 h
        refine lv_iload E.1 E.2.1 dX1_follow_30 (lv_at hl 6 rfl) ?_
        refine lv_iconst (v := 4) E.1 E.2.1 dX1_follow_32 (by decide) ?_
        refine lv_irem E.1 E.2.1 dX1_follow_33 (by decide) ?_
        refine lv_istore (lv' := [(11, .int (l9_18 - l9_18 / 4 * 4)), (0, .ref h0), (1, .ref h11), (2, .int l2), (4, .int l4_18), (5, .long l5_18), (7, .long l7_18), (9, .int l9_18), (10, .int l10_18)]) E.1 E.2.1 dX1_follow_34 hl (by decide) rfl (fun ls hl => ?_)
        refine lv_iload E.1 E.2.1 dX1_follow_36 (lv_at hl 7 rfl) ?_
        refine lv_iconst (v := 4) E.1 E.2.1 dX1_follow_38 (by decide) ?_
        refine lv_idiv E.1 E.2.1 dX1_follow_39 (by decide) ?_
        refine lv_istore (lv' := [(9, .int (l9_18 / 4)), (11, .int (l9_18 - l9_18 / 4 * 4)), (0, .ref h0), (1, .ref h11), (2, .int l2), (4, .int l4_18), (5, .long l5_18), (7, .long l7_18), (10, .int l10_18)]) E.1 E.2.1 dX1_follow_40 hl (by decide) rfl (fun ls hl => ?_)
        refine lv_lload E.1 E.2.1 dX1_follow_42 (lv_at hl 6 rfl) ?_
        refine lv_aload_n E.1 E.2.1 dX1_follow_44 rfl (lv_at hl 3 rfl) ?_
        refine lv_iload E.1 E.2.1 dX1_follow_45 (lv_at hl 5 rfl) ?_
        refine lv_iload E.1 E.2.1 dX1_follow_47 (lv_at hl 1 rfl) ?_
        obtain ⟨r49, hc, h⟩ := bx h
        refine goI (world' := ((w_X1 g h0 h1 h2 h3 h4 h5 h6 h7 h8 h9 h10 x_byDay_numerators x_byDay_denominators x_nextDay_numerators x_nextDay_denominators x_byBranch_numerators x_byBranch_denominators x_sequences) ++ (w_X2 g h11 h12 x_a1_weights x_a1_present))) hW hA (is := [11, 12]) rfl (goV (rest := [.long l5_18]) E hK hW [11, 12] rfl rfl (c_X2_weight l g h11 h12 x_a1_weights x_a1_present l4_18 (l9_18 - l9_18 / 4 * 4) (hf := hc) H.size) (cwV 2 hts gX1_follow_X2_weight rfl rfl rfl (by decide +kernel) ⟨Nat.le_of_ble_eq_true rfl, Nat.le_of_ble_eq_true rfl⟩) 0 rfl rfl rfl hl.1 rfl rfl (Nat.le_of_ble_eq_true rfl) dX1_follow_49 ⟨Nat.zero_le _, Nat.zero_le _⟩) rfl rfl (fun H locs hW => ?_)
        refine lv_i2l (v := (r49).toInt64) E.1 E.2.1 dX1_follow_52 rfl ?_
        refine lv_lmul E.1 E.2.1 dX1_follow_53 ?_
        refine lv_lstore (lv' := [(5, .long (l5_18 * ((r49).toInt64))), (9, .int (l9_18 / 4)), (11, .int (l9_18 - l9_18 / 4 * 4)), (0, .ref h0), (1, .ref h11), (2, .int l2), (4, .int l4_18), (7, .long l7_18), (10, .int l10_18)]) E.1 E.2.1 dX1_follow_54 hl (by decide) rfl (fun ls hl => ?_)
        refine lv_lload E.1 E.2.1 dX1_follow_56 (lv_at hl 7 rfl) ?_
        refine lv_aload_n E.1 E.2.1 dX1_follow_58 rfl (lv_at hl 4 rfl) ?_
        refine lv_iload E.1 E.2.1 dX1_follow_59 (lv_at hl 6 rfl) ?_
        obtain ⟨r61, hc, h⟩ := bx h
        refine goI (world' := ((w_X1 g h0 h1 h2 h3 h4 h5 h6 h7 h8 h9 h10 x_byDay_numerators x_byDay_denominators x_nextDay_numerators x_nextDay_denominators x_byBranch_numerators x_byBranch_denominators x_sequences) ++ (w_X2 g h11 h12 x_a1_weights x_a1_present))) hW hA (is := [11, 12]) rfl (goV (rest := [.long l7_18]) E hK hW [11, 12] rfl rfl (c_X2_weightSum l g h11 h12 x_a1_weights x_a1_present l4_18 (hf := hc) H.size) (cwV 1 hts gX1_follow_X2_weightSum rfl rfl rfl (by decide +kernel) ⟨Nat.le_of_ble_eq_true rfl, Nat.le_of_ble_eq_true rfl⟩) 0 rfl rfl rfl hl.1 rfl rfl (Nat.le_of_ble_eq_true rfl) dX1_follow_61 ⟨Nat.zero_le _, Nat.zero_le _⟩) rfl rfl (fun H locs hW => ?_)
        refine lv_i2l (v := (r61).toInt64) E.1 E.2.1 dX1_follow_64 rfl ?_
        refine lv_lmul E.1 E.2.1 dX1_follow_65 ?_
        refine lv_lstore (lv' := [(7, .long (l7_18 * ((r61).toInt64))), (5, .long (l5_18 * ((r49).toInt64))), (9, .int (l9_18 / 4)), (11, .int (l9_18 - l9_18 / 4 * 4)), (0, .ref h0), (1, .ref h11), (2, .int l2), (4, .int l4_18), (10, .int l10_18)]) E.1 E.2.1 dX1_follow_66 hl (by decide) rfl (fun ls hl => ?_)
        refine lv_iload E.1 E.2.1 dX1_follow_68 (lv_at hl 3 rfl) ?_
        refine lv_istore (lv' := [(4, .int (l9_18 - l9_18 / 4 * 4)), (7, .long (l7_18 * ((r61).toInt64))), (5, .long (l5_18 * ((r49).toInt64))), (9, .int (l9_18 / 4)), (11, .int (l9_18 - l9_18 / 4 * 4)), (0, .ref h0), (1, .ref h11), (2, .int l2), (10, .int l10_18)]) E.1 E.2.1 dX1_follow_70 hl (by decide) rfl (fun ls hl => ?_)
        refine lv_iinc (v := (l10_18 + 1)) (lv' := [(10, .int (l10_18 + 1)), (4, .int (l9_18 - l9_18 / 4 * 4)), (7, .long (l7_18 * ((r61).toInt64))), (5, .long (l5_18 * ((r49).toInt64))), (9, .int (l9_18 / 4)), (11, .int (l9_18 - l9_18 / 4 * 4)), (0, .ref h0), (1, .ref h11), (2, .int l2)]) E.1 E.2.1 dX1_follow_72 hl (k := 8) rfl rfl (by decide) rfl (fun ls hl => ?_)
        refine lv_goto (tgt := 18) E.1 E.2.1 dX1_follow_75 (by decide) ?_
        exact ih (l9_18 - l9_18 / 4 * 4) (l5_18 * ((r49).toInt64)) (l7_18 * ((r61).toInt64)) (l9_18 / 4) (l10_18 + 1) H locs ls h hW (lv_sub hl [6, 7, 8, 1, 3, 2, 4, 0] rfl)
set_option maxHeartbeats 4000000 in
set_option maxRecDepth 100000 in
theorem k_X1_follow_0 {p : Program} {l : Launch} {e : Env} {s : State} {m : MethodId} {args : Array Value} {below : List Frame} {meth : Method} {c : Code} {g : GE} {A : Nat → Prop} {h0 h1 h2 h3 h4 h5 h6 h7 h8 h9 h10 h11 h12 : Nat} {x_byDay_numerators : Nat → Int64} {x_byDay_denominators : Nat → Int64} {x_nextDay_numerators : Nat → Int64} {x_nextDay_denominators : Nat → Int64} {x_byBranch_numerators : Nat → Int64} {x_byBranch_denominators : Nat → Int64} {x_sequences : Nat → Int32} {x_a1_weights : Nat → Int32} {x_a1_present : Int32} {res : (Nat → Int64) × (Nat → Int64) × (Nat → Int32)} {H : Heap} {locs : List Loc} {ls : Array Slot} {a2 : Int32} {a3 : Int32}
    (E : En cX1_follow RX1 wsX1_follow 12 none p s m args meth c) (hK : KK g s) (hA : ∀ q, s.heap.size ≤ q → A q) (h : f_X1_follow x_byBranch_numerators x_byBranch_denominators x_sequences x_a1_weights x_a1_present a2 a3 = some res) (hW : Wo g A s H locs ((w_X1 g h0 h1 h2 h3 h4 h5 h6 h7 h8 h9 h10 x_byDay_numerators x_byDay_denominators x_nextDay_numerators x_nextDay_denominators x_byBranch_numerators x_byBranch_denominators x_sequences) ++ (w_X2 g h11 h12 x_a1_weights x_a1_present))) (hl : lv_has ls 12 [(0, .ref h0), (1, .ref h11), (2, .int a2), (3, .int a3)]) : G_X1_follow p l e s m args below meth c g A h0 h1 h2 h3 h4 h5 h6 h7 h8 h9 h10 h11 h12 x_byDay_numerators x_byDay_denominators x_nextDay_numerators x_nextDay_denominators x_a1_weights x_a1_present res H locs 0 ls [] := by
  have hts := E.2.2.2.1
  unfold f_X1_follow at h
  refine lv_aload_n E.1 E.2.1 dX1_follow_0 rfl (lv_at hl 1 rfl) ?_
  refine wGetN (v := .int x_a1_present) E hK in_X1_follow_X2 hW 1 lk_X1_follow_31 11 rfl rfl (by decide) rfl rfl dX1_follow_1 ?_
  refine lv_istore (lv' := [(4, .int x_a1_present), (0, .ref h0), (1, .ref h11), (2, .int a2), (3, .int a3)]) E.1 E.2.1 dX1_follow_4 hl (by decide) rfl (fun ls hl => ?_)
  refine lv_lconst (v := 1) E.1 E.2.1 dX1_follow_6 (by decide) ?_
  refine lv_lstore (lv' := [(5, .long 1), (4, .int x_a1_present), (0, .ref h0), (1, .ref h11), (2, .int a2), (3, .int a3)]) E.1 E.2.1 dX1_follow_7 hl (by decide) rfl (fun ls hl => ?_)
  refine lv_lconst (v := 1) E.1 E.2.1 dX1_follow_9 (by decide) ?_
  refine lv_lstore (lv' := [(7, .long 1), (5, .long 1), (4, .int x_a1_present), (0, .ref h0), (1, .ref h11), (2, .int a2), (3, .int a3)]) E.1 E.2.1 dX1_follow_10 hl (by decide) rfl (fun ls hl => ?_)
  refine lv_iload_n E.1 E.2.1 dX1_follow_12 rfl (lv_at hl 6 rfl) ?_
  refine lv_istore (lv' := [(9, .int a3), (7, .long 1), (5, .long 1), (4, .int x_a1_present), (0, .ref h0), (1, .ref h11), (2, .int a2), (3, .int a3)]) E.1 E.2.1 dX1_follow_13 hl (by decide) rfl (fun ls hl => ?_)
  refine lv_iconst (v := 0) E.1 E.2.1 dX1_follow_15 (by decide) ?_
  refine lv_istore (lv' := [(10, .int 0), (9, .int a3), (7, .long 1), (5, .long 1), (4, .int x_a1_present), (0, .ref h0), (1, .ref h11), (2, .int a2), (3, .int a3)]) E.1 E.2.1 dX1_follow_16 hl (by decide) rfl (fun ls hl => ?_)
  refine k_X1_follow_18 E hK hA ?_ 1000 x_a1_present 1 1 a3 0 H locs ls h hW (lv_sub hl [5, 6, 7, 4, 3, 2, 1, 0] rfl)
  · intro l4_78e l5_78e l7_78e H locs ls h hW hl
    obtain ⟨j117, hj117, h⟩ := jox3 h
    have J117 : ∀ (x_byBranch_numerators_117 : Nat → Int64) (x_byBranch_denominators_117 : Nat → Int64) (x_sequences_117 : Nat → Int32) (H : Heap) (locs : List Loc) (ls : Array Slot), j117 x_byBranch_numerators_117 x_byBranch_denominators_117 x_sequences_117 = some res → Wo g A s H locs ((w_X1 g h0 h1 h2 h3 h4 h5 h6 h7 h8 h9 h10 x_byDay_numerators x_byDay_denominators x_nextDay_numerators x_nextDay_denominators x_byBranch_numerators_117 x_byBranch_denominators_117 x_sequences_117) ++ (w_X2 g h11 h12 x_a1_weights x_a1_present)) → lv_has ls 12 [] → G_X1_follow p l e s m args below meth c g A h0 h1 h2 h3 h4 h5 h6 h7 h8 h9 h10 h11 h12 x_byDay_numerators x_byDay_denominators x_nextDay_numerators x_nextDay_denominators x_a1_weights x_a1_present res H locs 117 ls [] := by
      intro x_byBranch_numerators_117 x_byBranch_denominators_117 x_sequences_117 H locs ls h hW hl
      rw [hj117] at h
      obtain rfl := Option.some.inj h
      exact endV E hW dX1_follow_117
    refine lv_lload E.1 E.2.1 dX1_follow_78 (lv_at hl 2 rfl) ?_
    refine lv_lconst (v := 0) E.1 E.2.1 dX1_follow_80 (by decide) ?_
    refine W.lcmp E.1 E.2.1 dX1_follow_81 ?_
    refine lv_if_le (tgt := 117) E.1 E.2.1 dX1_follow_82 (by decide) (fun c82 => ?_) (fun c82 => ?_)
    · have h := it c82 h
      exact J117 x_byBranch_numerators x_byBranch_denominators x_sequences H locs ls h hW (lv_sub hl [] rfl)
    · have h := ie c82 h
      refine lv_iload E.1 E.2.1 dX1_follow_85 (lv_at hl 1 rfl) ?_
      obtain ⟨r87, hc, h⟩ := bx h
      refine goI (world' := ((w_X1 g h0 h1 h2 h3 h4 h5 h6 h7 h8 h9 h10 x_byDay_numerators x_byDay_denominators x_nextDay_numerators x_nextDay_denominators x_byBranch_numerators x_byBranch_denominators x_sequences) ++ (w_X2 g h11 h12 x_a1_weights x_a1_present))) hW hA (is := []) rfl (goS (rest := []) E hK hW [] rfl rfl (c_X2_isWeather l g l4_78e (hf := hc) H.size) (va_cwS 1 hts gX1_follow_X2_isWeather rfl rfl rfl (by decide +kernel) ⟨Nat.le_of_ble_eq_true rfl, Nat.le_of_ble_eq_true rfl⟩) hl.1 rfl rfl (Nat.le_of_ble_eq_true rfl) dX1_follow_87 ⟨Nat.zero_le _, Nat.zero_le _⟩) rfl rfl (fun H locs hW => ?_)
      refine lv_if_eq (tgt := 117) E.1 E.2.1 dX1_follow_90 (by decide) (fun c90 => ?_) (fun c90 => ?_)
      · have h := it c90 h
        exact J117 x_byBranch_numerators x_byBranch_denominators x_sequences H locs ls h hW (lv_sub hl [] rfl)
      · have h := ie c90 h
        refine lv_aload_n E.1 E.2.1 dX1_follow_93 rfl (lv_at hl 0 rfl) ?_
        refine wGet (v := .ref h7) E hK in_X1_follow_X1 hW 2 lk_X1_follow_21 0 rfl rfl (by decide) rfl rfl dX1_follow_94 ?_
        refine lv_iload E.1 E.2.1 dX1_follow_97 (lv_at hl 1 rfl) ?_
        refine lv_lload E.1 E.2.1 dX1_follow_99 (lv_at hl 2 rfl) ?_
        refine lv_lload E.1 E.2.1 dX1_follow_101 (lv_at hl 3 rfl) ?_
        obtain ⟨r103, hc, h⟩ := bx h
        refine goU (world' := ((w_X1 g h0 h1 h2 h3 h4 h5 h6 h7 h8 h9 h10 x_byDay_numerators x_byDay_denominators x_nextDay_numerators x_nextDay_denominators r103.1 r103.2 x_sequences) ++ (w_X2 g h11 h12 x_a1_weights x_a1_present))) hW hA (is := [7, 8, 9]) rfl (goV (rest := []) E hK hW [7, 8, 9] rfl rfl (c_X5_add l g h7 h8 h9 x_byBranch_numerators x_byBranch_denominators l4_78e l5_78e l7_78e (hf := hc) H.size) (cwV 3 hts gX1_follow_X5_add rfl rfl rfl (by decide +kernel) ⟨Nat.le_of_ble_eq_true rfl, Nat.le_of_ble_eq_true rfl⟩) 0 rfl rfl rfl hl.1 rfl rfl (Nat.le_of_ble_eq_true rfl) dX1_follow_103 ⟨Nat.zero_le _, Nat.zero_le _⟩) rfl rfl (fun H locs hW => ?_)
        refine lv_aload_n E.1 E.2.1 dX1_follow_106 rfl (lv_at hl 0 rfl) ?_
        refine wGet (v := .ref h10) E hK in_X1_follow_X1 hW 3 lk_X1_follow_24 0 rfl rfl (by decide) rfl rfl dX1_follow_107 ?_
        refine lv_iload E.1 E.2.1 dX1_follow_110 (lv_at hl 1 rfl) ?_
        refine lv_dup2_11 E.1 E.2.1 dX1_follow_112 rfl rfl ?_
        obtain ⟨hi113, h⟩ := ox h
        refine wIald E hK hW 10 rfl hi113 dX1_follow_113 ?_
        refine lv_iconst (v := 1) E.1 E.2.1 dX1_follow_114 (by decide) ?_
        refine lv_iadd E.1 E.2.1 dX1_follow_115 ?_
        refine wIast (world' := ((w_X1 g h0 h1 h2 h3 h4 h5 h6 h7 h8 h9 h10 x_byDay_numerators x_byDay_denominators x_nextDay_numerators x_nextDay_denominators r103.1 r103.2 (upd x_sequences l4_78e.toNatClampNeg ((x_sequences l4_78e.toNatClampNeg) + 1))) ++ (w_X2 g h11 h12 x_a1_weights x_a1_present))) E hK hW 10 rfl hi113 dX1_follow_116 rfl (fun H locs hW => ?_)
        exact J117 r103.1 r103.2 (upd x_sequences l4_78e.toNatClampNeg ((x_sequences l4_78e.toNatClampNeg) + 1)) H locs ls h hW (lv_sub hl [] rfl)
theorem c_X1_follow (l : Launch) (g : GE) (h0 h1 h2 h3 h4 h5 h6 h7 h8 h9 h10 h11 h12 : Nat) (x_byDay_numerators : Nat → Int64) (x_byDay_denominators : Nat → Int64) (x_nextDay_numerators : Nat → Int64) (x_nextDay_denominators : Nat → Int64) (x_byBranch_numerators : Nat → Int64) (x_byBranch_denominators : Nat → Int64) (x_sequences : Nat → Int32) (x_a1_weights : Nat → Int32) (x_a1_present : Int32) (a2 : Int32) (a3 : Int32) {res : (Nat → Int64) × (Nat → Int64) × (Nat → Int32)} (hf : f_X1_follow x_byBranch_numerators x_byBranch_denominators x_sequences x_a1_weights x_a1_present a2 a3 = some res) : CV l yX1_follow wsX1_follow rm_X1_follow g [.ref h0, .ref h11, .int a2, .int a3] ((w_X1 g h0 h1 h2 h3 h4 h5 h6 h7 h8 h9 h10 x_byDay_numerators x_byDay_denominators x_nextDay_numerators x_nextDay_denominators x_byBranch_numerators x_byBranch_denominators x_sequences) ++ (w_X2 g h11 h12 x_a1_weights x_a1_present)) ((w_X1 g h0 h1 h2 h3 h4 h5 h6 h7 h8 h9 h10 x_byDay_numerators x_byDay_denominators x_nextDay_numerators x_nextDay_denominators res.1 res.2.1 res.2.2) ++ (w_X2 g h11 h12 x_a1_weights x_a1_present)) :=
  mkV (cc := cX1_follow) (maxL := 12) (by decide) rfl (Nat.le_of_ble_eq_true rfl) (fun p e s m args below meth c A H locs ls E hK hA hW hl => k_X1_follow_0 E hK hA hf hW hl)

/-! PaperStorm$Chances.branchByBranch(LPaperStorm$Climate;I)LPaperStorm$Fractions; X1_branchByBranch -/
abbrev rm_X1_branchByBranch : Room := { frames := 3, cells := 0, slots := 0, locals := 98 }
theorem in_X1_branchByBranch_X1 : ∀ w ∈ wsX10, w ∈ wsX1_branchByBranch := by decide +kernel
theorem lk_X1_branchByBranch_21 : Cond.fieldLink RX1 21 "PaperStorm$Chances" "byBranch" "LPaperStorm$Fractions;" ∈ wsX1_branchByBranch := by decide +kernel
theorem lk_X1_branchByBranch_24 : Cond.fieldLink RX1 24 "PaperStorm$Chances" "sequences" "[I" ∈ wsX1_branchByBranch := by decide +kernel
noncomputable def f_X1_branchByBranch_12 (l2 : Int32) (z34 : Int32 → Option ((Nat → Int64) × (Nat → Int64) × (Nat → Int32))) : Nat → Int32 → Int32 → Option ((Nat → Int64) × (Nat → Int64) × (Nat → Int32))
  | 0, _, _ => none
  | n + 1, l3_12, l4_12 => if l2 ≤ l4_12 then z34 l3_12 else if 3 ≤ l4_12 then z34 l3_12 else f_X1_branchByBranch_12 l2 z34 n (l3_12 * 4) (l4_12 + 1)
noncomputable def f_X1_branchByBranch_37 (z57 : (Nat → Int32) → Option ((Nat → Int64) × (Nat → Int64) × (Nat → Int32))) : Nat → Int32 → (Nat → Int32) → Option ((Nat → Int64) × (Nat → Int64) × (Nat → Int32))
  | 0, _, _ => none
  | n + 1, l4_37, x_sequences_37 => if 4 ≤ l4_37 then z57 x_sequences_37 else if l4_37 < 0 ∨ 4 ≤ l4_37.toNatClampNeg then none else f_X1_branchByBranch_37 z57 n (l4_37 + 1) (upd x_sequences_37 l4_37.toNatClampNeg 0)
noncomputable def f_X1_branchByBranch_60 (x_a1_weights : Nat → Int32) (x_a1_present : Int32) (l2 : Int32) (l3 : Int32) (z80 : (Nat → Int64) → (Nat → Int64) → (Nat → Int32) → Option ((Nat → Int64) × (Nat → Int64) × (Nat → Int32))) : Nat → Int32 → (Nat → Int64) → (Nat → Int64) → (Nat → Int32) → Option ((Nat → Int64) × (Nat → Int64) × (Nat → Int32))
  | 0, _, _, _, _ => none
  | n + 1, l4_60, x_byBranch_numerators_60, x_byBranch_denominators_60, x_sequences_60 => if l3 ≤ l4_60 then z80 x_byBranch_numerators_60 x_byBranch_denominators_60 x_sequences_60 else (f_X1_follow x_byBranch_numerators_60 x_byBranch_denominators_60 x_sequences_60 x_a1_weights x_a1_present l2 l4_60).bind fun r71 => f_X1_branchByBranch_60 x_a1_weights x_a1_present l2 l3 z80 n (l4_60 + 1) r71.1 r71.2.1 r71.2.2
noncomputable def f_X1_branchByBranch (x_byBranch_numerators : Nat → Int64) (x_byBranch_denominators : Nat → Int64) (x_sequences : Nat → Int32) (x_a1_weights : Nat → Int32) (x_a1_present : Int32) (a2 : Int32) : Option ((Nat → Int64) × (Nat → Int64) × (Nat → Int32)) :=
  (f_X5_clear x_byBranch_numerators x_byBranch_denominators).bind fun r4 => f_X1_branchByBranch_12 a2 (fun l3_34e => f_X1_branchByBranch_37 (fun x_sequences_57e => f_X1_branchByBranch_60 x_a1_weights x_a1_present a2 l3_34e (fun x_byBranch_numerators_80e x_byBranch_denominators_80e x_sequences_80e => some (x_byBranch_numerators_80e, x_byBranch_denominators_80e, x_sequences_80e)) 1000 0 r4.1 r4.2 x_sequences_57e) 1000 0 x_sequences) 1000 1 0
abbrev G_X1_branchByBranch (p : Program) (l : Launch) (e : Env) (s : State) (m : MethodId) (args : Array Value) (below : List Frame) (meth : Method) (c : Code) (g : GE) (A : Nat → Prop) (h0 h1 h2 h3 h4 h5 h6 h7 h8 h9 h10 h11 h12 : Nat) (x_byDay_numerators : Nat → Int64) (x_byDay_denominators : Nat → Int64) (x_nextDay_numerators : Nat → Int64) (x_nextDay_denominators : Nat → Int64) (x_a1_weights : Nat → Int32) (x_a1_present : Int32) (res : (Nat → Int64) × (Nat → Int64) × (Nat → Int32)) (H : Heap) (locs : List Loc) (pc : Nat) (ls : Array Slot) (st : List Value) : Prop := W p l e (headSpec wsX1_branchByBranch rm_X1_branchByBranch).room s m args below meth c H locs 0 0 (MQ below (PoA g A ((w_X1 g h0 h1 h2 h3 h4 h5 h6 h7 h8 h9 h10 x_byDay_numerators x_byDay_denominators x_nextDay_numerators x_nextDay_denominators res.1 res.2.1 res.2.2) ++ (w_X2 g h11 h12 x_a1_weights x_a1_present)) h7) args s 0 0 A) (F0 m pc ls st)
set_option maxHeartbeats 4000000 in
set_option maxRecDepth 100000 in
theorem k_X1_branchByBranch_12 {p : Program} {l : Launch} {e : Env} {s : State} {m : MethodId} {args : Array Value} {below : List Frame} {meth : Method} {c : Code} {g : GE} {A : Nat → Prop} {h0 h1 h2 h3 h4 h5 h6 h7 h8 h9 h10 h11 h12 : Nat} {x_byDay_numerators : Nat → Int64} {x_byDay_denominators : Nat → Int64} {x_nextDay_numerators : Nat → Int64} {x_nextDay_denominators : Nat → Int64} {x_byBranch_numerators : Nat → Int64} {x_byBranch_denominators : Nat → Int64} {x_sequences : Nat → Int32} {x_a1_weights : Nat → Int32} {x_a1_present : Int32} {res : (Nat → Int64) × (Nat → Int64) × (Nat → Int32)} {l2 : Int32} {z34 : Int32 → Option ((Nat → Int64) × (Nat → Int64) × (Nat → Int32))}
    (E : En cX1_branchByBranch RX1 wsX1_branchByBranch 5 (some (.object "PaperStorm$Fractions")) p s m args meth c) (hK : KK g s) (hA : ∀ q, s.heap.size ≤ q → A q)
    (hz34 : ∀ (l3_34e : Int32) (H : Heap) (locs : List Loc) (ls : Array Slot), z34 l3_34e = some res → Wo g A s H locs ((w_X1 g h0 h1 h2 h3 h4 h5 h6 h7 h8 h9 h10 x_byDay_numerators x_byDay_denominators x_nextDay_numerators x_nextDay_denominators x_byBranch_numerators x_byBranch_denominators x_sequences) ++ (w_X2 g h11 h12 x_a1_weights x_a1_present)) → lv_has ls 5 [(0, .ref h0), (1, .ref h11), (2, .int l2), (3, .int l3_34e)] → G_X1_branchByBranch p l e s m args below meth c g A h0 h1 h2 h3 h4 h5 h6 h7 h8 h9 h10 h11 h12 x_byDay_numerators x_byDay_denominators x_nextDay_numerators x_nextDay_denominators x_a1_weights x_a1_present res H locs 34 ls [])
    : ∀ (n : Nat) (l3_12 : Int32) (l4_12 : Int32) (H : Heap) (locs : List Loc) (ls : Array Slot), f_X1_branchByBranch_12 l2 z34 n l3_12 l4_12 = some res → Wo g A s H locs ((w_X1 g h0 h1 h2 h3 h4 h5 h6 h7 h8 h9 h10 x_byDay_numerators x_byDay_denominators x_nextDay_numerators x_nextDay_denominators x_byBranch_numerators x_byBranch_denominators x_sequences) ++ (w_X2 g h11 h12 x_a1_weights x_a1_present)) → lv_has ls 5 [(0, .ref h0), (1, .ref h11), (2, .int l2), (3, .int l3_12), (4, .int l4_12)] → G_X1_branchByBranch p l e s m args below meth c g A h0 h1 h2 h3 h4 h5 h6 h7 h8 h9 h10 h11 h12 x_byDay_numerators x_byDay_denominators x_nextDay_numerators x_nextDay_denominators x_a1_weights x_a1_present res H locs 12 ls [] := by
  have hts := E.2.2.2.1
  intro n
  induction n with
  | zero => intro l3_12 l4_12 H locs ls h hW hl; rw [f_X1_branchByBranch_12] at h; cases h
  | succ n ih =>
    intro l3_12 l4_12 H locs ls h hW hl
    rw [f_X1_branchByBranch_12] at h
    refine lv_iload E.1 E.2.1 dX1_branchByBranch_12 (lv_at hl 4 rfl) ?_
    refine lv_iload_n E.1 E.2.1 dX1_branchByBranch_14 rfl (lv_at hl 2 rfl) ?_
    refine lv_icmp_ge (tgt := 34) E.1 E.2.1 dX1_branchByBranch_15 (by decide) (fun c15 => ?_) (fun c15 => ?_)
    · have h := it c15 h
      exact hz34 l3_12 H locs ls h hW (lv_sub hl [0, 1, 2, 3] rfl)
    · have h := ie c15 h
      refine lv_iload E.1 E.2.1 dX1_branchByBranch_18 (lv_at hl 4 rfl) ?_
      refine lv_iconst (v := 3) E.1 E.2.1 dX1_branchByBranch_20 (by decide) ?_
      refine lv_icmp_ge (tgt := 34) E.1 E.2.1 dX1_branchByBranch_21 (by decide) (fun c21 => ?_) (fun c21 => ?_)
      · have h := it c21 h
        exact hz34 l3_12 H locs ls h hW (lv_sub hl [0, 1, 2, 3] rfl)
      · have h := ie c21 h
        refine lv_iload_n E.1 E.2.1 dX1_branchByBranch_24 rfl (lv_at hl 3 rfl) ?_
        refine lv_iconst (v := 4) E.1 E.2.1 dX1_branchByBranch_25 (by decide) ?_
        refine lv_imul E.1 E.2.1 dX1_branchByBranch_26 ?_
        refine lv_istore_n (lv' := [(3, .int (l3_12 * 4)), (0, .ref h0), (1, .ref h11), (2, .int l2), (4, .int l4_12)]) E.1 E.2.1 dX1_branchByBranch_27 rfl hl (by decide) rfl (fun ls hl => ?_)
        refine lv_iinc (v := (l4_12 + 1)) (lv' := [(4, .int (l4_12 + 1)), (3, .int (l3_12 * 4)), (0, .ref h0), (1, .ref h11), (2, .int l2)]) E.1 E.2.1 dX1_branchByBranch_28 hl (k := 4) rfl rfl (by decide) rfl (fun ls hl => ?_)
        refine lv_goto (tgt := 12) E.1 E.2.1 dX1_branchByBranch_31 (by decide) ?_
        exact ih (l3_12 * 4) (l4_12 + 1) H locs ls h hW (lv_sub hl [2, 3, 4, 1, 0] rfl)
set_option maxHeartbeats 4000000 in
set_option maxRecDepth 100000 in
theorem k_X1_branchByBranch_37 {p : Program} {l : Launch} {e : Env} {s : State} {m : MethodId} {args : Array Value} {below : List Frame} {meth : Method} {c : Code} {g : GE} {A : Nat → Prop} {h0 h1 h2 h3 h4 h5 h6 h7 h8 h9 h10 h11 h12 : Nat} {x_byDay_numerators : Nat → Int64} {x_byDay_denominators : Nat → Int64} {x_nextDay_numerators : Nat → Int64} {x_nextDay_denominators : Nat → Int64} {x_byBranch_numerators : Nat → Int64} {x_byBranch_denominators : Nat → Int64} {x_a1_weights : Nat → Int32} {x_a1_present : Int32} {res : (Nat → Int64) × (Nat → Int64) × (Nat → Int32)} {l2 : Int32} {l3 : Int32} {z57 : (Nat → Int32) → Option ((Nat → Int64) × (Nat → Int64) × (Nat → Int32))}
    (E : En cX1_branchByBranch RX1 wsX1_branchByBranch 5 (some (.object "PaperStorm$Fractions")) p s m args meth c) (hK : KK g s) (hA : ∀ q, s.heap.size ≤ q → A q)
    (hz57 : ∀ (x_sequences_57e : Nat → Int32) (H : Heap) (locs : List Loc) (ls : Array Slot), z57 x_sequences_57e = some res → Wo g A s H locs ((w_X1 g h0 h1 h2 h3 h4 h5 h6 h7 h8 h9 h10 x_byDay_numerators x_byDay_denominators x_nextDay_numerators x_nextDay_denominators x_byBranch_numerators x_byBranch_denominators x_sequences_57e) ++ (w_X2 g h11 h12 x_a1_weights x_a1_present)) → lv_has ls 5 [(0, .ref h0), (1, .ref h11), (2, .int l2), (3, .int l3)] → G_X1_branchByBranch p l e s m args below meth c g A h0 h1 h2 h3 h4 h5 h6 h7 h8 h9 h10 h11 h12 x_byDay_numerators x_byDay_denominators x_nextDay_numerators x_nextDay_denominators x_a1_weights x_a1_present res H locs 57 ls [])
    : ∀ (n : Nat) (l4_37 : Int32) (x_sequences_37 : Nat → Int32) (H : Heap) (locs : List Loc) (ls : Array Slot), f_X1_branchByBranch_37 z57 n l4_37 x_sequences_37 = some res → Wo g A s H locs ((w_X1 g h0 h1 h2 h3 h4 h5 h6 h7 h8 h9 h10 x_byDay_numerators x_byDay_denominators x_nextDay_numerators x_nextDay_denominators x_byBranch_numerators x_byBranch_denominators x_sequences_37) ++ (w_X2 g h11 h12 x_a1_weights x_a1_present)) → lv_has ls 5 [(0, .ref h0), (1, .ref h11), (2, .int l2), (3, .int l3), (4, .int l4_37)] → G_X1_branchByBranch p l e s m args below meth c g A h0 h1 h2 h3 h4 h5 h6 h7 h8 h9 h10 h11 h12 x_byDay_numerators x_byDay_denominators x_nextDay_numerators x_nextDay_denominators x_a1_weights x_a1_present res H locs 37 ls [] := by
  have hts := E.2.2.2.1
  intro n
  induction n with
  | zero => intro l4_37 x_sequences_37 H locs ls h hW hl; rw [f_X1_branchByBranch_37] at h; cases h
  | succ n ih =>
    intro l4_37 x_sequences_37 H locs ls h hW hl
    rw [f_X1_branchByBranch_37] at h
    refine lv_iload E.1 E.2.1 dX1_branchByBranch_37 (lv_at hl 4 rfl) ?_
    refine lv_iconst (v := 4) E.1 E.2.1 dX1_branchByBranch_39 (by decide) ?_
    refine lv_icmp_ge (tgt := 57) E.1 E.2.1 dX1_branchByBranch_40 (by decide) (fun c40 => ?_) (fun c40 => ?_)
    · have h := it c40 h
      exact hz57 x_sequences_37 H locs ls h hW (lv_sub hl [0, 1, 2, 3] rfl)
    · have h := ie c40 h
      refine lv_aload_n E.1 E.2.1 dX1_branchByBranch_43 rfl (lv_at hl 0 rfl) ?_
      refine wGet (v := .ref h10) E hK in_X1_branchByBranch_X1 hW 3 lk_X1_branchByBranch_24 0 rfl rfl (by decide) rfl rfl dX1_branchByBranch_44 ?_
      refine lv_iload E.1 E.2.1 dX1_branchByBranch_47 (lv_at hl 4 rfl) ?_
      refine lv_iconst (v := 0) E.1 E.2.1 dX1_branchByBranch_49 (by decide) ?_
      obtain ⟨hi50, h⟩ := ox h
      refine wIast (world' := ((w_X1 g h0 h1 h2 h3 h4 h5 h6 h7 h8 h9 h10 x_byDay_numerators x_byDay_denominators x_nextDay_numerators x_nextDay_denominators x_byBranch_numerators x_byBranch_denominators (upd x_sequences_37 l4_37.toNatClampNeg 0)) ++ (w_X2 g h11 h12 x_a1_weights x_a1_present))) E hK hW 10 rfl hi50 dX1_branchByBranch_50 rfl (fun H locs hW => ?_)
      refine lv_iinc (v := (l4_37 + 1)) (lv' := [(4, .int (l4_37 + 1)), (0, .ref h0), (1, .ref h11), (2, .int l2), (3, .int l3)]) E.1 E.2.1 dX1_branchByBranch_51 hl (k := 4) rfl rfl (by decide) rfl (fun ls hl => ?_)
      refine lv_goto (tgt := 37) E.1 E.2.1 dX1_branchByBranch_54 (by decide) ?_
      exact ih (l4_37 + 1) (upd x_sequences_37 l4_37.toNatClampNeg 0) H locs ls h hW (lv_sub hl [1, 2, 3, 4, 0] rfl)
set_option maxHeartbeats 4000000 in
set_option maxRecDepth 100000 in
theorem k_X1_branchByBranch_60 {p : Program} {l : Launch} {e : Env} {s : State} {m : MethodId} {args : Array Value} {below : List Frame} {meth : Method} {c : Code} {g : GE} {A : Nat → Prop} {h0 h1 h2 h3 h4 h5 h6 h7 h8 h9 h10 h11 h12 : Nat} {x_byDay_numerators : Nat → Int64} {x_byDay_denominators : Nat → Int64} {x_nextDay_numerators : Nat → Int64} {x_nextDay_denominators : Nat → Int64} {x_a1_weights : Nat → Int32} {x_a1_present : Int32} {res : (Nat → Int64) × (Nat → Int64) × (Nat → Int32)} {l2 : Int32} {l3 : Int32} {z80 : (Nat → Int64) → (Nat → Int64) → (Nat → Int32) → Option ((Nat → Int64) × (Nat → Int64) × (Nat → Int32))}
    (E : En cX1_branchByBranch RX1 wsX1_branchByBranch 5 (some (.object "PaperStorm$Fractions")) p s m args meth c) (hK : KK g s) (hA : ∀ q, s.heap.size ≤ q → A q)
    (hz80 : ∀ (x_byBranch_numerators_80e : Nat → Int64) (x_byBranch_denominators_80e : Nat → Int64) (x_sequences_80e : Nat → Int32) (H : Heap) (locs : List Loc) (ls : Array Slot), z80 x_byBranch_numerators_80e x_byBranch_denominators_80e x_sequences_80e = some res → Wo g A s H locs ((w_X1 g h0 h1 h2 h3 h4 h5 h6 h7 h8 h9 h10 x_byDay_numerators x_byDay_denominators x_nextDay_numerators x_nextDay_denominators x_byBranch_numerators_80e x_byBranch_denominators_80e x_sequences_80e) ++ (w_X2 g h11 h12 x_a1_weights x_a1_present)) → lv_has ls 5 [(0, .ref h0)] → G_X1_branchByBranch p l e s m args below meth c g A h0 h1 h2 h3 h4 h5 h6 h7 h8 h9 h10 h11 h12 x_byDay_numerators x_byDay_denominators x_nextDay_numerators x_nextDay_denominators x_a1_weights x_a1_present res H locs 80 ls [])
    : ∀ (n : Nat) (l4_60 : Int32) (x_byBranch_numerators_60 : Nat → Int64) (x_byBranch_denominators_60 : Nat → Int64) (x_sequences_60 : Nat → Int32) (H : Heap) (locs : List Loc) (ls : Array Slot), f_X1_branchByBranch_60 x_a1_weights x_a1_present l2 l3 z80 n l4_60 x_byBranch_numerators_60 x_byBranch_denominators_60 x_sequences_60 = some res → Wo g A s H locs ((w_X1 g h0 h1 h2 h3 h4 h5 h6 h7 h8 h9 h10 x_byDay_numerators x_byDay_denominators x_nextDay_numerators x_nextDay_denominators x_byBranch_numerators_60 x_byBranch_denominators_60 x_sequences_60) ++ (w_X2 g h11 h12 x_a1_weights x_a1_present)) → lv_has ls 5 [(0, .ref h0), (1, .ref h11), (2, .int l2), (3, .int l3), (4, .int l4_60)] → G_X1_branchByBranch p l e s m args below meth c g A h0 h1 h2 h3 h4 h5 h6 h7 h8 h9 h10 h11 h12 x_byDay_numerators x_byDay_denominators x_nextDay_numerators x_nextDay_denominators x_a1_weights x_a1_present res H locs 60 ls [] := by
  have hts := E.2.2.2.1
  intro n
  induction n with
  | zero => intro l4_60 x_byBranch_numerators_60 x_byBranch_denominators_60 x_sequences_60 H locs ls h hW hl; rw [f_X1_branchByBranch_60] at h; cases h
  | succ n ih =>
    intro l4_60 x_byBranch_numerators_60 x_byBranch_denominators_60 x_sequences_60 H locs ls h hW hl
    rw [f_X1_branchByBranch_60] at h
    refine lv_iload E.1 E.2.1 dX1_branchByBranch_60 (lv_at hl 4 rfl) ?_
    refine lv_iload_n E.1 E.2.1 dX1_branchByBranch_62 rfl (lv_at hl 3 rfl) ?_
    refine lv_icmp_ge (tgt := 80) E.1 E.2.1 dX1_branchByBranch_63 (by decide) (fun c63 => ?_) (fun c63 => ?_)
    · have h := it c63 h
      exact hz80 x_byBranch_numerators_60 x_byBranch_denominators_60 x_sequences_60 H locs ls h hW (lv_sub hl [0] rfl)
    · have h := ie c63 h
      refine lv_aload_n E.1 E.2.1 dX1_branchByBranch_66 rfl (lv_at hl 0 rfl) ?_
      refine lv_aload_n E.1 E.2.1 dX1_branchByBranch_67 rfl (lv_at hl 1 rfl) ?_
      refine lv_iload_n E.1 E.2.1 dX1_branchByBranch_68 rfl (lv_at hl 2 rfl) ?_
      refine lv_iload E.1 E.2.1 dX1_branchByBranch_69 (lv_at hl 4 rfl) ?_
      obtain ⟨r71, hc, h⟩ := bx h
      refine goU (world' := ((w_X1 g h0 h1 h2 h3 h4 h5 h6 h7 h8 h9 h10 x_byDay_numerators x_byDay_denominators x_nextDay_numerators x_nextDay_denominators r71.1 r71.2.1 r71.2.2) ++ (w_X2 g h11 h12 x_a1_weights x_a1_present))) hW hA (is := [0, 1, 2, 3, 4, 5, 6, 7, 8, 9, 10, 11, 12]) rfl (goV (rest := []) E hK hW [0, 1, 2, 3, 4, 5, 6, 7, 8, 9, 10, 11, 12] rfl rfl (c_X1_follow l g h0 h1 h2 h3 h4 h5 h6 h7 h8 h9 h10 h11 h12 x_byDay_numerators x_byDay_denominators x_nextDay_numerators x_nextDay_denominators x_byBranch_numerators_60 x_byBranch_denominators_60 x_sequences_60 x_a1_weights x_a1_present l2 l4_60 (hf := hc) H.size) (cwV 3 hts gX1_branchByBranch_X1_follow rfl rfl rfl (by decide +kernel) ⟨Nat.le_of_ble_eq_true rfl, Nat.le_of_ble_eq_true rfl⟩) 0 rfl rfl rfl hl.1 rfl rfl (Nat.le_of_ble_eq_true rfl) dX1_branchByBranch_71 ⟨Nat.zero_le _, Nat.zero_le _⟩) rfl rfl (fun H locs hW => ?_)
      refine lv_iinc (v := (l4_60 + 1)) (lv' := [(4, .int (l4_60 + 1)), (0, .ref h0), (1, .ref h11), (2, .int l2), (3, .int l3)]) E.1 E.2.1 dX1_branchByBranch_74 hl (k := 4) rfl rfl (by decide) rfl (fun ls hl => ?_)
      refine lv_goto (tgt := 60) E.1 E.2.1 dX1_branchByBranch_77 (by decide) ?_
      exact ih (l4_60 + 1) r71.1 r71.2.1 r71.2.2 H locs ls h hW (lv_sub hl [1, 2, 3, 4, 0] rfl)
set_option maxHeartbeats 4000000 in
set_option maxRecDepth 100000 in
theorem k_X1_branchByBranch_0 {p : Program} {l : Launch} {e : Env} {s : State} {m : MethodId} {args : Array Value} {below : List Frame} {meth : Method} {c : Code} {g : GE} {A : Nat → Prop} {h0 h1 h2 h3 h4 h5 h6 h7 h8 h9 h10 h11 h12 : Nat} {x_byDay_numerators : Nat → Int64} {x_byDay_denominators : Nat → Int64} {x_nextDay_numerators : Nat → Int64} {x_nextDay_denominators : Nat → Int64} {x_byBranch_numerators : Nat → Int64} {x_byBranch_denominators : Nat → Int64} {x_sequences : Nat → Int32} {x_a1_weights : Nat → Int32} {x_a1_present : Int32} {res : (Nat → Int64) × (Nat → Int64) × (Nat → Int32)} {H : Heap} {locs : List Loc} {ls : Array Slot} {a2 : Int32}
    (E : En cX1_branchByBranch RX1 wsX1_branchByBranch 5 (some (.object "PaperStorm$Fractions")) p s m args meth c) (hK : KK g s) (hA : ∀ q, s.heap.size ≤ q → A q) (h : f_X1_branchByBranch x_byBranch_numerators x_byBranch_denominators x_sequences x_a1_weights x_a1_present a2 = some res) (hW : Wo g A s H locs ((w_X1 g h0 h1 h2 h3 h4 h5 h6 h7 h8 h9 h10 x_byDay_numerators x_byDay_denominators x_nextDay_numerators x_nextDay_denominators x_byBranch_numerators x_byBranch_denominators x_sequences) ++ (w_X2 g h11 h12 x_a1_weights x_a1_present))) (hl : lv_has ls 5 [(0, .ref h0), (1, .ref h11), (2, .int a2)]) : G_X1_branchByBranch p l e s m args below meth c g A h0 h1 h2 h3 h4 h5 h6 h7 h8 h9 h10 h11 h12 x_byDay_numerators x_byDay_denominators x_nextDay_numerators x_nextDay_denominators x_a1_weights x_a1_present res H locs 0 ls [] := by
  have hts := E.2.2.2.1
  unfold f_X1_branchByBranch at h
  refine lv_aload_n E.1 E.2.1 dX1_branchByBranch_0 rfl (lv_at hl 0 rfl) ?_
  refine wGet (v := .ref h7) E hK in_X1_branchByBranch_X1 hW 2 lk_X1_branchByBranch_21 0 rfl rfl (by decide) rfl rfl dX1_branchByBranch_1 ?_
  obtain ⟨r4, hc, h⟩ := bx h
  refine goU (world' := ((w_X1 g h0 h1 h2 h3 h4 h5 h6 h7 h8 h9 h10 x_byDay_numerators x_byDay_denominators x_nextDay_numerators x_nextDay_denominators r4.1 r4.2 x_sequences) ++ (w_X2 g h11 h12 x_a1_weights x_a1_present))) hW hA (is := [7, 8, 9]) rfl (goV (rest := []) E hK hW [7, 8, 9] rfl rfl (c_X5_clear l g h7 h8 h9 x_byBranch_numerators x_byBranch_denominators (hf := hc) H.size) (cwV 0 hts gX1_branchByBranch_X5_clear rfl rfl rfl (by decide +kernel) ⟨Nat.le_of_ble_eq_true rfl, Nat.le_of_ble_eq_true rfl⟩) 0 rfl rfl rfl hl.1 rfl rfl (Nat.le_of_ble_eq_true rfl) dX1_branchByBranch_4 ⟨Nat.zero_le _, Nat.zero_le _⟩) rfl rfl (fun H locs hW => ?_)
  refine lv_iconst (v := 1) E.1 E.2.1 dX1_branchByBranch_7 (by decide) ?_
  refine lv_istore_n (lv' := [(3, .int 1), (0, .ref h0), (1, .ref h11), (2, .int a2)]) E.1 E.2.1 dX1_branchByBranch_8 rfl hl (by decide) rfl (fun ls hl => ?_)
  refine lv_iconst (v := 0) E.1 E.2.1 dX1_branchByBranch_9 (by decide) ?_
  refine lv_istore (lv' := [(4, .int 0), (3, .int 1), (0, .ref h0), (1, .ref h11), (2, .int a2)]) E.1 E.2.1 dX1_branchByBranch_10 hl (by decide) rfl (fun ls hl => ?_)
  refine k_X1_branchByBranch_12 E hK hA ?_ 1000 1 0 H locs ls h hW (lv_sub hl [2, 3, 4, 1, 0] rfl)
  · intro l3_34e H locs ls h hW hl
    refine lv_iconst (v := 0) E.1 E.2.1 dX1_branchByBranch_34 (by decide) ?_
    refine lv_istore (lv' := [(4, .int 0), (0, .ref h0), (1, .ref h11), (2, .int a2), (3, .int l3_34e)]) E.1 E.2.1 dX1_branchByBranch_35 hl (by decide) rfl (fun ls hl => ?_)
    refine k_X1_branchByBranch_37 E hK hA ?_ 1000 0 x_sequences H locs ls h hW (lv_sub hl [1, 2, 3, 4, 0] rfl)
    · intro x_sequences_57e H locs ls h hW hl
      refine lv_iconst (v := 0) E.1 E.2.1 dX1_branchByBranch_57 (by decide) ?_
      refine lv_istore (lv' := [(4, .int 0), (0, .ref h0), (1, .ref h11), (2, .int a2), (3, .int l3_34e)]) E.1 E.2.1 dX1_branchByBranch_58 hl (by decide) rfl (fun ls hl => ?_)
      refine k_X1_branchByBranch_60 E hK hA ?_ 1000 0 r4.1 r4.2 x_sequences_57e H locs ls h hW (lv_sub hl [1, 2, 3, 4, 0] rfl)
      · intro x_byBranch_numerators_80e x_byBranch_denominators_80e x_sequences_80e H locs ls h hW hl
        refine lv_aload_n E.1 E.2.1 dX1_branchByBranch_80 rfl (lv_at hl 0 rfl) ?_
        refine wGet (v := .ref h7) E hK in_X1_branchByBranch_X1 hW 2 lk_X1_branchByBranch_21 0 rfl rfl (by decide) rfl rfl dX1_branchByBranch_81 ?_
        obtain rfl := Option.some.inj h
        exact endA E (Or.inl ⟨_, rfl⟩) hW dX1_branchByBranch_84
theorem c_X1_branchByBranch (l : Launch) (g : GE) (h0 h1 h2 h3 h4 h5 h6 h7 h8 h9 h10 h11 h12 : Nat) (x_byDay_numerators : Nat → Int64) (x_byDay_denominators : Nat → Int64) (x_nextDay_numerators : Nat → Int64) (x_nextDay_denominators : Nat → Int64) (x_byBranch_numerators : Nat → Int64) (x_byBranch_denominators : Nat → Int64) (x_sequences : Nat → Int32) (x_a1_weights : Nat → Int32) (x_a1_present : Int32) (a2 : Int32) {res : (Nat → Int64) × (Nat → Int64) × (Nat → Int32)} (hf : f_X1_branchByBranch x_byBranch_numerators x_byBranch_denominators x_sequences x_a1_weights x_a1_present a2 = some res) : CA l yX1_branchByBranch wsX1_branchByBranch rm_X1_branchByBranch g [.ref h0, .ref h11, .int a2] ((w_X1 g h0 h1 h2 h3 h4 h5 h6 h7 h8 h9 h10 x_byDay_numerators x_byDay_denominators x_nextDay_numerators x_nextDay_denominators x_byBranch_numerators x_byBranch_denominators x_sequences) ++ (w_X2 g h11 h12 x_a1_weights x_a1_present)) ((w_X1 g h0 h1 h2 h3 h4 h5 h6 h7 h8 h9 h10 x_byDay_numerators x_byDay_denominators x_nextDay_numerators x_nextDay_denominators res.1 res.2.1 res.2.2) ++ (w_X2 g h11 h12 x_a1_weights x_a1_present)) h7 :=
  mkA (cc := cX1_branchByBranch) (maxL := 5) (by decide) rfl (Nat.le_of_ble_eq_true rfl) (fun p e s m args below meth c A H locs ls E hK hA hW hl => k_X1_branchByBranch_0 E hK hA hf hW hl)

/-! PaperStorm$Chances.sequencesTo(I)I X1_sequencesTo -/
abbrev rm_X1_sequencesTo : Room := { frames := 1, cells := 0, slots := 0, locals := 20 }
theorem in_X1_sequencesTo_X1 : ∀ w ∈ wsX10, w ∈ wsX1_sequencesTo := by decide +kernel
theorem lk_X1_sequencesTo_24 : Cond.fieldLink RX1 24 "PaperStorm$Chances" "sequences" "[I" ∈ wsX1_sequencesTo := by decide +kernel
noncomputable def f_X1_sequencesTo (x_sequences : Nat → Int32) (a1 : Int32) : Option (Int32) :=
  jo (fun (s0_17 : Int32) => some (s0_17)) (fun j17 => (f_X2_isWeather a1).bind fun r1 => if r1 = 0 then j17 0 else if a1 < 0 ∨ 4 ≤ a1.toNatClampNeg then none else j17 (x_sequences a1.toNatClampNeg))
abbrev G_X1_sequencesTo (p : Program) (l : Launch) (e : Env) (s : State) (m : MethodId) (args : Array Value) (below : List Frame) (meth : Method) (c : Code) (g : GE) (A : Nat → Prop) (h0 h1 h2 h3 h4 h5 h6 h7 h8 h9 h10 : Nat) (x_byDay_numerators : Nat → Int64) (x_byDay_denominators : Nat → Int64) (x_nextDay_numerators : Nat → Int64) (x_nextDay_denominators : Nat → Int64) (x_byBranch_numerators : Nat → Int64) (x_byBranch_denominators : Nat → Int64) (x_sequences : Nat → Int32) (res : Int32) (H : Heap) (locs : List Loc) (pc : Nat) (ls : Array Slot) (st : List Value) : Prop := W p l e (headSpec wsX1_sequencesTo rm_X1_sequencesTo).room s m args below meth c H locs 0 0 (MQ below (PoI g A (w_X1 g h0 h1 h2 h3 h4 h5 h6 h7 h8 h9 h10 x_byDay_numerators x_byDay_denominators x_nextDay_numerators x_nextDay_denominators x_byBranch_numerators x_byBranch_denominators x_sequences) res) args s 0 0 A) (F0 m pc ls st)
set_option maxHeartbeats 4000000 in
set_option maxRecDepth 100000 in
theorem k_X1_sequencesTo_0 {p : Program} {l : Launch} {e : Env} {s : State} {m : MethodId} {args : Array Value} {below : List Frame} {meth : Method} {c : Code} {g : GE} {A : Nat → Prop} {h0 h1 h2 h3 h4 h5 h6 h7 h8 h9 h10 : Nat} {x_byDay_numerators : Nat → Int64} {x_byDay_denominators : Nat → Int64} {x_nextDay_numerators : Nat → Int64} {x_nextDay_denominators : Nat → Int64} {x_byBranch_numerators : Nat → Int64} {x_byBranch_denominators : Nat → Int64} {x_sequences : Nat → Int32} {res : Int32} {H : Heap} {locs : List Loc} {ls : Array Slot} {a1 : Int32}
    (E : En cX1_sequencesTo RX1 wsX1_sequencesTo 2 (some .int) p s m args meth c) (hK : KK g s) (hA : ∀ q, s.heap.size ≤ q → A q) (h : f_X1_sequencesTo x_sequences a1 = some res) (hW : Wo g A s H locs (w_X1 g h0 h1 h2 h3 h4 h5 h6 h7 h8 h9 h10 x_byDay_numerators x_byDay_denominators x_nextDay_numerators x_nextDay_denominators x_byBranch_numerators x_byBranch_denominators x_sequences)) (hl : lv_has ls 2 [(0, .ref h0), (1, .int a1)]) : G_X1_sequencesTo p l e s m args below meth c g A h0 h1 h2 h3 h4 h5 h6 h7 h8 h9 h10 x_byDay_numerators x_byDay_denominators x_nextDay_numerators x_nextDay_denominators x_byBranch_numerators x_byBranch_denominators x_sequences res H locs 0 ls [] := by
  have hts := E.2.2.2.1
  unfold f_X1_sequencesTo at h
  obtain ⟨j17, hj17, h⟩ := jox1 h
  have J17 : ∀ (s0_17 : Int32) (H : Heap) (locs : List Loc) (ls : Array Slot), j17 s0_17 = some res → Wo g A s H locs (w_X1 g h0 h1 h2 h3 h4 h5 h6 h7 h8 h9 h10 x_byDay_numerators x_byDay_denominators x_nextDay_numerators x_nextDay_denominators x_byBranch_numerators x_byBranch_denominators x_sequences) → lv_has ls 2 [] → G_X1_sequencesTo p l e s m args below meth c g A h0 h1 h2 h3 h4 h5 h6 h7 h8 h9 h10 x_byDay_numerators x_byDay_denominators x_nextDay_numerators x_nextDay_denominators x_byBranch_numerators x_byBranch_denominators x_sequences res H locs 17 ls [.int s0_17] := by
    intro s0_17 H locs ls h hW hl
    rw [hj17] at h
    obtain rfl := Option.some.inj h
    exact endI E rfl hW dX1_sequencesTo_17
  refine lv_iload_n E.1 E.2.1 dX1_sequencesTo_0 rfl (lv_at hl 1 rfl) ?_
  obtain ⟨r1, hc, h⟩ := bx h
  refine goI (world' := (w_X1 g h0 h1 h2 h3 h4 h5 h6 h7 h8 h9 h10 x_byDay_numerators x_byDay_denominators x_nextDay_numerators x_nextDay_denominators x_byBranch_numerators x_byBranch_denominators x_sequences)) hW hA (is := []) rfl (goS (rest := []) E hK hW [] rfl rfl (c_X2_isWeather l g a1 (hf := hc) H.size) (va_cwS 1 hts gX1_sequencesTo_X2_isWeather rfl rfl rfl (by decide +kernel) ⟨Nat.le_of_ble_eq_true rfl, Nat.le_of_ble_eq_true rfl⟩) hl.1 rfl rfl (Nat.le_of_ble_eq_true rfl) dX1_sequencesTo_1 ⟨Nat.zero_le _, Nat.zero_le _⟩) rfl rfl (fun H locs hW => ?_)
  refine lv_if_eq (tgt := 16) E.1 E.2.1 dX1_sequencesTo_4 (by decide) (fun c4 => ?_) (fun c4 => ?_)
  · have h := it c4 h
    refine lv_iconst (v := 0) E.1 E.2.1 dX1_sequencesTo_16 (by decide) ?_
    exact J17 0 H locs ls h hW (lv_sub hl [] rfl)
  · have h := ie c4 h
    refine lv_aload_n E.1 E.2.1 dX1_sequencesTo_7 rfl (lv_at hl 0 rfl) ?_
    refine wGet (v := .ref h10) E hK in_X1_sequencesTo_X1 hW 3 lk_X1_sequencesTo_24 0 rfl rfl (by decide) rfl rfl dX1_sequencesTo_8 ?_
    refine lv_iload_n E.1 E.2.1 dX1_sequencesTo_11 rfl (lv_at hl 1 rfl) ?_
    obtain ⟨hi12, h⟩ := ox h
    refine wIald E hK hW 10 rfl hi12 dX1_sequencesTo_12 ?_
    refine lv_goto (tgt := 17) E.1 E.2.1 dX1_sequencesTo_13 (by decide) ?_
    exact J17 (x_sequences a1.toNatClampNeg) H locs ls h hW (lv_sub hl [] rfl)
theorem c_X1_sequencesTo (l : Launch) (g : GE) (h0 h1 h2 h3 h4 h5 h6 h7 h8 h9 h10 : Nat) (x_byDay_numerators : Nat → Int64) (x_byDay_denominators : Nat → Int64) (x_nextDay_numerators : Nat → Int64) (x_nextDay_denominators : Nat → Int64) (x_byBranch_numerators : Nat → Int64) (x_byBranch_denominators : Nat → Int64) (x_sequences : Nat → Int32) (a1 : Int32) {res : Int32} (hf : f_X1_sequencesTo x_sequences a1 = some res) : CI l yX1_sequencesTo wsX1_sequencesTo rm_X1_sequencesTo g [.ref h0, .int a1] (w_X1 g h0 h1 h2 h3 h4 h5 h6 h7 h8 h9 h10 x_byDay_numerators x_byDay_denominators x_nextDay_numerators x_nextDay_denominators x_byBranch_numerators x_byBranch_denominators x_sequences) (w_X1 g h0 h1 h2 h3 h4 h5 h6 h7 h8 h9 h10 x_byDay_numerators x_byDay_denominators x_nextDay_numerators x_nextDay_denominators x_byBranch_numerators x_byBranch_denominators x_sequences) res :=
  mkI (cc := cX1_sequencesTo) (maxL := 2) (by decide) rfl (Nat.le_of_ble_eq_true rfl) (fun p e s m args below meth c A H locs ls E hK hA hW hl => k_X1_sequencesTo_0 E hK hA hf hW hl)

