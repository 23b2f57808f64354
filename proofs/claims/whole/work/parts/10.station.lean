/-! PaperStorm$Station.copyFrom(LPaperStorm$Station;)V X11_copyFrom -/
abbrev rm_X11_copyFrom : Room := { frames := 1, cells := 0, slots := 0, locals := 22 }
theorem in_X11_copyFrom_X11 : ∀ w ∈ wsX110, w ∈ wsX11_copyFrom := by decide +kernel
theorem lk_X11_copyFrom_10 : Cond.fieldLink RX11 10 "PaperStorm$Station" "sheet" "LPaperStorm$Sheet;" ∈ wsX11_copyFrom := by decide +kernel
theorem lk_X11_copyFrom_19 : Cond.fieldLink RX11 19 "PaperStorm$Station" "climate" "LPaperStorm$Climate;" ∈ wsX11_copyFrom := by decide +kernel
theorem lk_X11_copyFrom_26 : Cond.fieldLink RX11 26 "PaperStorm$Station" "forecasts" "LPaperStorm$Forecasts;" ∈ wsX11_copyFrom := by decide +kernel
theorem lk_X11_copyFrom_30 : Cond.fieldLink RX11 30 "PaperStorm$Station" "day" "I" ∈ wsX11_copyFrom := by decide +kernel
noncomputable def f_X11_copyFrom (x_sheet_cells : Nat → Int32) (x_sheet_threshold : Int32) (x_climate_weights : Nat → Int32) (x_climate_present : Int32) (x_forecasts_days : Nat → Int32) (x_forecasts_weathers : Nat → Int32) (x_forecasts_count : Int32) (x_forecasts_scored : Int32) (x_forecasts_errors : Int32) (x_forecasts_hits : Int32) (x_day : Int32) (x_a1_sheet_cells : Nat → Int32) (x_a1_sheet_threshold : Int32) (x_a1_climate_weights : Nat → Int32) (x_a1_climate_present : Int32) (x_a1_forecasts_days : Nat → Int32) (x_a1_forecasts_weathers : Nat → Int32) (x_a1_forecasts_count : Int32) (x_a1_forecasts_scored : Int32) (x_a1_forecasts_errors : Int32) (x_a1_forecasts_hits : Int32) (x_a1_day : Int32) : Option ((Nat → Int32) × Int32 × (Nat → Int32) × Int32 × (Nat → Int32) × (Nat → Int32) × Int32 × Int32 × Int32 × Int32 × Int32) :=
  (f_X10_copyFrom x_sheet_cells x_sheet_threshold x_a1_sheet_cells x_a1_sheet_threshold).bind fun r8 => (f_X2_copyFrom x_climate_weights x_climate_present x_a1_climate_weights x_a1_climate_present).bind fun r19 => (f_X4_copyFrom x_forecasts_days x_forecasts_weathers x_forecasts_count x_forecasts_scored x_forecasts_errors x_forecasts_hits x_a1_forecasts_days x_a1_forecasts_weathers x_a1_forecasts_count x_a1_forecasts_scored x_a1_forecasts_errors x_a1_forecasts_hits).bind fun r30 => some (r8.1, r8.2, r19.1, r19.2, r30.1, r30.2.1, r30.2.2.1, r30.2.2.2.1, r30.2.2.2.2.1, r30.2.2.2.2.2, x_a1_day)
abbrev G_X11_copyFrom (p : Program) (l : Launch) (e : Env) (s : State) (m : MethodId) (args : Array Value) (below : List Frame) (meth : Method) (c : Code) (g : GE) (A : Nat → Prop) (h0 h1 h2 h3 h4 h5 h6 h7 h8 h9 h10 h11 h12 h13 h14 h15 : Nat) (x_a1_sheet_cells : Nat → Int32) (x_a1_sheet_threshold : Int32) (x_a1_climate_weights : Nat → Int32) (x_a1_climate_present : Int32) (x_a1_forecasts_days : Nat → Int32) (x_a1_forecasts_weathers : Nat → Int32) (x_a1_forecasts_count : Int32) (x_a1_forecasts_scored : Int32) (x_a1_forecasts_errors : Int32) (x_a1_forecasts_hits : Int32) (x_a1_day : Int32) (res : (Nat → Int32) × Int32 × (Nat → Int32) × Int32 × (Nat → Int32) × (Nat → Int32) × Int32 × Int32 × Int32 × Int32 × Int32) (H : Heap) (locs : List Loc) (pc : Nat) (ls : Array Slot) (st : List Value) : Prop := W p l e (headSpec wsX11_copyFrom rm_X11_copyFrom).room s m args below meth c H locs 0 0 (MQ below (PoV g A ((w_X11 g h0 h1 h2 h3 h4 h5 h6 h7 res.1 res.2.1 res.2.2.1 res.2.2.2.1 res.2.2.2.2.1 res.2.2.2.2.2.1 res.2.2.2.2.2.2.1 res.2.2.2.2.2.2.2.1 res.2.2.2.2.2.2.2.2.1 res.2.2.2.2.2.2.2.2.2.1 res.2.2.2.2.2.2.2.2.2.2) ++ (w_X11 g h8 h9 h10 h11 h12 h13 h14 h15 x_a1_sheet_cells x_a1_sheet_threshold x_a1_climate_weights x_a1_climate_present x_a1_forecasts_days x_a1_forecasts_weathers x_a1_forecasts_count x_a1_forecasts_scored x_a1_forecasts_errors x_a1_forecasts_hits x_a1_day))) args s 0 0 A) (F0 m pc ls st)
set_option maxHeartbeats 4000000 in
set_option maxRecDepth 100000 in
theorem k_X11_copyFrom_0 {p : Program} {l : Launch} {e : Env} {s : State} {m : MethodId} {args : Array Value} {below : List Frame} {meth : Method} {c : Code} {g : GE} {A : Nat → Prop} {h0 h1 h2 h3 h4 h5 h6 h7 h8 h9 h10 h11 h12 h13 h14 h15 : Nat} {x_sheet_cells : Nat → Int32} {x_sheet_threshold : Int32} {x_climate_weights : Nat → Int32} {x_climate_present : Int32} {x_forecasts_days : Nat → Int32} {x_forecasts_weathers : Nat → Int32} {x_forecasts_count : Int32} {x_forecasts_scored : Int32} {x_forecasts_errors : Int32} {x_forecasts_hits : Int32} {x_day : Int32} {x_a1_sheet_cells : Nat → Int32} {x_a1_sheet_threshold : Int32} {x_a1_climate_weights : Nat → Int32} {x_a1_climate_present : Int32} {x_a1_forecasts_days : Nat → Int32} {x_a1_forecasts_weathers : Nat → Int32} {x_a1_forecasts_count : Int32} {x_a1_forecasts_scored : Int32} {x_a1_forecasts_errors : Int32} {x_a1_forecasts_hits : Int32} {x_a1_day : Int32} {res : (Nat → Int32) × Int32 × (Nat → Int32) × Int32 × (Nat → Int32) × (Nat → Int32) × Int32 × Int32 × Int32 × Int32 × Int32} {H : Heap} {locs : List Loc} {ls : Array Slot} 
    (E : En cX11_copyFrom RX11 wsX11_copyFrom 2 none p s m args meth c) (hK : KK g s) (hA : ∀ q, s.heap.size ≤ q → A q) (h : f_X11_copyFrom x_sheet_cells x_sheet_threshold x_climate_weights x_climate_present x_forecasts_days x_forecasts_weathers x_forecasts_count x_forecasts_scored x_forecasts_errors x_forecasts_hits x_day x_a1_sheet_cells x_a1_sheet_threshold x_a1_climate_weights x_a1_climate_present x_a1_forecasts_days x_a1_forecasts_weathers x_a1_forecasts_count x_a1_forecasts_scored x_a1_forecasts_errors x_a1_forecasts_hits x_a1_day = some res) (hW : Wo g A s H locs ((w_X11 g h0 h1 h2 h3 h4 h5 h6 h7 x_sheet_cells x_sheet_threshold x_climate_weights x_climate_present x_forecasts_days x_forecasts_weathers x_forecasts_count x_forecasts_scored x_forecasts_errors x_forecasts_hits x_day) ++ (w_X11 g h8 h9 h10 h11 h12 h13 h14 h15 x_a1_sheet_cells x_a1_sheet_threshold x_a1_climate_weights x_a1_climate_present x_a1_forecasts_days x_a1_forecasts_weathers x_a1_forecasts_count x_a1_forecasts_scored x_a1_forecasts_errors x_a1_forecasts_hits x_a1_day))) (hl : lv_has ls 2 [(0, .ref h0), (1, .ref h8)]) : G_X11_copyFrom p l e s m args below meth c g A h0 h1 h2 h3 h4 h5 h6 h7 h8 h9 h10 h11 h12 h13 h14 h15 x_a1_sheet_cells x_a1_sheet_threshold x_a1_climate_weights x_a1_climate_present x_a1_forecasts_days x_a1_forecasts_weathers x_a1_forecasts_count x_a1_forecasts_scored x_a1_forecasts_errors x_a1_forecasts_hits x_a1_day res H locs 0 ls [] := by
  have hts := E.2.2.2.1
  unfold f_X11_copyFrom at h
  refine lv_aload_n E.1 E.2.1 dX11_copyFrom_0 rfl (lv_at hl 0 rfl) ?_
  refine wGet (v := .ref h1) E hK in_X11_copyFrom_X11 hW 0 lk_X11_copyFrom_10 0 rfl rfl (by decide) rfl rfl dX11_copyFrom_1 ?_
  refine lv_aload_n E.1 E.2.1 dX11_copyFrom_4 rfl (lv_at hl 1 rfl) ?_
  refine wGet (v := .ref h9) E hK in_X11_copyFrom_X11 hW 0 lk_X11_copyFrom_10 8 rfl rfl (by decide) rfl rfl dX11_copyFrom_5 ?_
  obtain ⟨r8, hc, h⟩ := bx h
  refine goU (world' := ((w_X11 g h0 h1 h2 h3 h4 h5 h6 h7 r8.1 r8.2 x_climate_weights x_climate_present x_forecasts_days x_forecasts_weathers x_forecasts_count x_forecasts_scored x_forecasts_errors x_forecasts_hits x_day) ++ (w_X11 g h8 h9 h10 h11 h12 h13 h14 h15 x_a1_sheet_cells x_a1_sheet_threshold x_a1_climate_weights x_a1_climate_present x_a1_forecasts_days x_a1_forecasts_weathers x_a1_forecasts_count x_a1_forecasts_scored x_a1_forecasts_errors x_a1_forecasts_hits x_a1_day))) hW hA (is := [1, 2, 9, 10]) rfl (goV (rest := []) E hK hW [1, 2, 9, 10] rfl rfl (c_X10_copyFrom l g h1 h2 h9 h10 x_sheet_cells x_sheet_threshold x_a1_sheet_cells x_a1_sheet_threshold (hf := hc) H.size) (cwV 1 hts gX11_copyFrom_X10_copyFrom rfl rfl rfl (by decide +kernel) ⟨Nat.le_of_ble_eq_true rfl, Nat.le_of_ble_eq_true rfl⟩) 0 rfl rfl rfl hl.1 rfl rfl (Nat.le_of_ble_eq_true rfl) dX11_copyFrom_8 ⟨Nat.zero_le _, Nat.zero_le _⟩) rfl rfl (fun H locs hW => ?_)
  refine lv_aload_n E.1 E.2.1 dX11_copyFrom_11 rfl (lv_at hl 0 rfl) ?_
  refine wGet (v := .ref h3) E hK in_X11_copyFrom_X11 hW 1 lk_X11_copyFrom_19 0 rfl rfl (by decide) rfl rfl dX11_copyFrom_12 ?_
  refine lv_aload_n E.1 E.2.1 dX11_copyFrom_15 rfl (lv_at hl 1 rfl) ?_
  refine wGet (v := .ref h11) E hK in_X11_copyFrom_X11 hW 1 lk_X11_copyFrom_19 8 rfl rfl (by decide) rfl rfl dX11_copyFrom_16 ?_
  obtain ⟨r19, hc, h⟩ := bx h
  refine goU (world' := ((w_X11 g h0 h1 h2 h3 h4 h5 h6 h7 r8.1 r8.2 r19.1 r19.2 x_forecasts_days x_forecasts_weathers x_forecasts_count x_forecasts_scored x_forecasts_errors x_forecasts_hits x_day) ++ (w_X11 g h8 h9 h10 h11 h12 h13 h14 h15 x_a1_sheet_cells x_a1_sheet_threshold x_a1_climate_weights x_a1_climate_present x_a1_forecasts_days x_a1_forecasts_weathers x_a1_forecasts_count x_a1_forecasts_scored x_a1_forecasts_errors x_a1_forecasts_hits x_a1_day))) hW hA (is := [3, 4, 11, 12]) rfl (goV (rest := []) E hK hW [3, 4, 11, 12] rfl rfl (c_X2_copyFrom l g h3 h4 h11 h12 x_climate_weights x_climate_present x_a1_climate_weights x_a1_climate_present (hf := hc) H.size) (cwV 1 hts gX11_copyFrom_X2_copyFrom rfl rfl rfl (by decide +kernel) ⟨Nat.le_of_ble_eq_true rfl, Nat.le_of_ble_eq_true rfl⟩) 0 rfl rfl rfl hl.1 rfl rfl (Nat.le_of_ble_eq_true rfl) dX11_copyFrom_19 ⟨Nat.zero_le _, Nat.zero_le _⟩) rfl rfl (fun H locs hW => ?_)
  refine lv_aload_n E.1 E.2.1 dX11_copyFrom_22 rfl (lv_at hl 0 rfl) ?_
  refine wGet (v := .ref h5) E hK in_X11_copyFrom_X11 hW 2 lk_X11_copyFrom_26 0 rfl rfl (by decide) rfl rfl dX11_copyFrom_23 ?_
  refine lv_aload_n E.1 E.2.1 dX11_copyFrom_26 rfl (lv_at hl 1 rfl) ?_
  refine wGet (v := .ref h13) E hK in_X11_copyFrom_X11 hW 2 lk_X11_copyFrom_26 8 rfl rfl (by decide) rfl rfl dX11_copyFrom_27 ?_
  obtain ⟨r30, hc, h⟩ := bx h
  refine goU (world' := ((w_X11 g h0 h1 h2 h3 h4 h5 h6 h7 r8.1 r8.2 r19.1 r19.2 r30.1 r30.2.1 r30.2.2.1 r30.2.2.2.1 r30.2.2.2.2.1 r30.2.2.2.2.2 x_day) ++ (w_X11 g h8 h9 h10 h11 h12 h13 h14 h15 x_a1_sheet_cells x_a1_sheet_threshold x_a1_climate_weights x_a1_climate_present x_a1_forecasts_days x_a1_forecasts_weathers x_a1_forecasts_count x_a1_forecasts_scored x_a1_forecasts_errors x_a1_forecasts_hits x_a1_day))) hW hA (is := [5, 6, 7, 13, 14, 15]) rfl (goV (rest := []) E hK hW [5, 6, 7, 13, 14, 15] rfl rfl (c_X4_copyFrom l g h5 h6 h7 h13 h14 h15 x_forecasts_days x_forecasts_weathers x_forecasts_count x_forecasts_scored x_forecasts_errors x_forecasts_hits x_a1_forecasts_days x_a1_forecasts_weathers x_a1_forecasts_count x_a1_forecasts_scored x_a1_forecasts_errors x_a1_forecasts_hits (hf := hc) H.size) (cwV 1 hts gX11_copyFrom_X4_copyFrom rfl rfl rfl (by decide +kernel) ⟨Nat.le_of_ble_eq_true rfl, Nat.le_of_ble_eq_true rfl⟩) 0 rfl rfl rfl hl.1 rfl rfl (Nat.le_of_ble_eq_true rfl) dX11_copyFrom_30 ⟨Nat.zero_le _, Nat.zero_le _⟩) rfl rfl (fun H locs hW => ?_)
  refine lv_aload_n E.1 E.2.1 dX11_copyFrom_33 rfl (lv_at hl 0 rfl) ?_
  refine lv_aload_n E.1 E.2.1 dX11_copyFrom_34 rfl (lv_at hl 1 rfl) ?_
  refine wGet (v := .int x_a1_day) E hK in_X11_copyFrom_X11 hW 3 lk_X11_copyFrom_30 8 rfl rfl (by decide) rfl rfl dX11_copyFrom_35 ?_
  refine wPut (world' := ((w_X11 g h0 h1 h2 h3 h4 h5 h6 h7 r8.1 r8.2 r19.1 r19.2 r30.1 r30.2.1 r30.2.2.1 r30.2.2.2.1 r30.2.2.2.2.1 r30.2.2.2.2.2 x_a1_day) ++ (w_X11 g h8 h9 h10 h11 h12 h13 h14 h15 x_a1_sheet_cells x_a1_sheet_threshold x_a1_climate_weights x_a1_climate_present x_a1_forecasts_days x_a1_forecasts_weathers x_a1_forecasts_count x_a1_forecasts_scored x_a1_forecasts_errors x_a1_forecasts_hits x_a1_day))) E hK in_X11_copyFrom_X11 tyX11 tyX11_ok nmX11 hW 3 lk_X11_copyFrom_30 0 rfl rfl (by decide) rfl rfl rfl rfl rfl (Nat.le_of_ble_eq_true rfl) dX11_copyFrom_38 rfl (fun H locs hW => ?_)
  obtain rfl := Option.some.inj h
  exact endV E hW dX11_copyFrom_41
theorem c_X11_copyFrom (l : Launch) (g : GE) (h0 h1 h2 h3 h4 h5 h6 h7 h8 h9 h10 h11 h12 h13 h14 h15 : Nat) (x_sheet_cells : Nat → Int32) (x_sheet_threshold : Int32) (x_climate_weights : Nat → Int32) (x_climate_present : Int32) (x_forecasts_days : Nat → Int32) (x_forecasts_weathers : Nat → Int32) (x_forecasts_count : Int32) (x_forecasts_scored : Int32) (x_forecasts_errors : Int32) (x_forecasts_hits : Int32) (x_day : Int32) (x_a1_sheet_cells : Nat → Int32) (x_a1_sheet_threshold : Int32) (x_a1_climate_weights : Nat → Int32) (x_a1_climate_present : Int32) (x_a1_forecasts_days : Nat → Int32) (x_a1_forecasts_weathers : Nat → Int32) (x_a1_forecasts_count : Int32) (x_a1_forecasts_scored : Int32) (x_a1_forecasts_errors : Int32) (x_a1_forecasts_hits : Int32) (x_a1_day : Int32) {res : (Nat → Int32) × Int32 × (Nat → Int32) × Int32 × (Nat → Int32) × (Nat → Int32) × Int32 × Int32 × Int32 × Int32 × Int32} (hf : f_X11_copyFrom x_sheet_cells x_sheet_threshold x_climate_weights x_climate_present x_forecasts_days x_forecasts_weathers x_forecasts_count x_forecasts_scored x_forecasts_errors x_forecasts_hits x_day x_a1_sheet_cells x_a1_sheet_threshold x_a1_climate_weights x_a1_climate_present x_a1_forecasts_days x_a1_forecasts_weathers x_a1_forecasts_count x_a1_forecasts_scored x_a1_forecasts_errors x_a1_forecasts_hits x_a1_day = some res) : CV l yX11_copyFrom wsX11_copyFrom rm_X11_copyFrom g [.ref h0, .ref h8] ((w_X11 g h0 h1 h2 h3 h4 h5 h6 h7 x_sheet_cells x_sheet_threshold x_climate_weights x_climate_present x_forecasts_days x_forecasts_weathers x_forecasts_count x_forecasts_scored x_forecasts_errors x_forecasts_hits x_day) ++ (w_X11 g h8 h9 h10 h11 h12 h13 h14 h15 x_a1_sheet_cells x_a1_sheet_threshold x_a1_climate_weights x_a1_climate_present x_a1_forecasts_days x_a1_forecasts_weathers x_a1_forecasts_count x_a1_forecasts_scored x_a1_forecasts_errors x_a1_forecasts_hits x_a1_day)) ((w_X11 g h0 h1 h2 h3 h4 h5 h6 h7 res.1 res.2.1 res.2.2.1 res.2.2.2.1 res.2.2.2.2.1 res.2.2.2.2.2.1 res.2.2.2.2.2.2.1 res.2.2.2.2.2.2.2.1 res.2.2.2.2.2.2.2.2.1 res.2.2.2.2.2.2.2.2.2.1 res.2.2.2.2.2.2.2.2.2.2) ++ (w_X11 g h8 h9 h10 h11 h12 h13 h14 h15 x_a1_sheet_cells x_a1_sheet_threshold x_a1_climate_weights x_a1_climate_present x_a1_forecasts_days x_a1_forecasts_weathers x_a1_forecasts_count x_a1_forecasts_scored x_a1_forecasts_errors x_a1_forecasts_hits x_a1_day)) :=
  mkV (cc := cX11_copyFrom) (maxL := 2) (by decide) rfl (Nat.le_of_ble_eq_true rfl) (fun p e s m args below meth c A H locs ls E hK hA hW hl => k_X11_copyFrom_0 E hK hA hf hW hl)

/-! PaperStorm$Station.passDay(I)I X11_passDay -/
abbrev rm_X11_passDay : Room := { frames := 3, cells := 0, slots := 0, locals := 68 }
theorem in_X11_passDay_X11 : ∀ w ∈ wsX110, w ∈ wsX11_passDay := by decide +kernel
theorem lk_X11_passDay_19 : Cond.fieldLink RX11 19 "PaperStorm$Station" "climate" "LPaperStorm$Climate;" ∈ wsX11_passDay := by decide +kernel
theorem lk_X11_passDay_26 : Cond.fieldLink RX11 26 "PaperStorm$Station" "forecasts" "LPaperStorm$Forecasts;" ∈ wsX11_passDay := by decide +kernel
theorem lk_X11_passDay_30 : Cond.fieldLink RX11 30 "PaperStorm$Station" "day" "I" ∈ wsX11_passDay := by decide +kernel
noncomputable def f_X11_passDay (x_climate_weights : Nat → Int32) (x_climate_present : Int32) (x_forecasts_days : Nat → Int32) (x_forecasts_weathers : Nat → Int32) (x_forecasts_count : Int32) (x_forecasts_scored : Int32) (x_forecasts_errors : Int32) (x_forecasts_hits : Int32) (x_day : Int32) (a1 : Int32) : Option (Int32 × (Nat → Int32) × Int32 × (Nat → Int32) × (Nat → Int32) × Int32 × Int32 × Int32 × Int32 × Int32) :=
  (f_X2_changeTo x_climate_weights x_climate_present a1).bind fun r15 => (f_X4_score x_forecasts_days x_forecasts_weathers x_forecasts_count x_forecasts_scored x_forecasts_errors x_forecasts_hits (x_day + 1) a1).bind fun r27 => some (r27.1, r15.1, r15.2, r27.2.1, r27.2.2.1, r27.2.2.2.1, r27.2.2.2.2.1, r27.2.2.2.2.2.1, r27.2.2.2.2.2.2, (x_day + 1))
abbrev G_X11_passDay (p : Program) (l : Launch) (e : Env) (s : State) (m : MethodId) (args : Array Value) (below : List Frame) (meth : Method) (c : Code) (g : GE) (A : Nat → Prop) (h0 h1 h2 h3 h4 h5 h6 h7 : Nat) (x_sheet_cells : Nat → Int32) (x_sheet_threshold : Int32) (res : Int32 × (Nat → Int32) × Int32 × (Nat → Int32) × (Nat → Int32) × Int32 × Int32 × Int32 × Int32 × Int32) (H : Heap) (locs : List Loc) (pc : Nat) (ls : Array Slot) (st : List Value) : Prop := W p l e (headSpec wsX11_passDay rm_X11_passDay).room s m args below meth c H locs 0 0 (MQ below (PoI g A (w_X11 g h0 h1 h2 h3 h4 h5 h6 h7 x_sheet_cells x_sheet_threshold res.2.1 res.2.2.1 res.2.2.2.1 res.2.2.2.2.1 res.2.2.2.2.2.1 res.2.2.2.2.2.2.1 res.2.2.2.2.2.2.2.1 res.2.2.2.2.2.2.2.2.1 res.2.2.2.2.2.2.2.2.2) res.1) args s 0 0 A) (F0 m pc ls st)
set_option maxHeartbeats 4000000 in
set_option maxRecDepth 100000 in
theorem k_X11_passDay_0 {p : Program} {l : Launch} {e : Env} {s : State} {m : MethodId} {args : Array Value} {below : List Frame} {meth : Method} {c : Code} {g : GE} {A : Nat → Prop} {h0 h1 h2 h3 h4 h5 h6 h7 : Nat} {x_sheet_cells : Nat → Int32} {x_sheet_threshold : Int32} {x_climate_weights : Nat → Int32} {x_climate_present : Int32} {x_forecasts_days : Nat → Int32} {x_forecasts_weathers : Nat → Int32} {x_forecasts_count : Int32} {x_forecasts_scored : Int32} {x_forecasts_errors : Int32} {x_forecasts_hits : Int32} {x_day : Int32} {res : Int32 × (Nat → Int32) × Int32 × (Nat → Int32) × (Nat → Int32) × Int32 × Int32 × Int32 × Int32 × Int32} {H : Heap} {locs : List Loc} {ls : Array Slot} {a1 : Int32}
    (E : En cX11_passDay RX11 wsX11_passDay 2 (some .int) p s m args meth c) (hK : KK g s) (hA : ∀ q, s.heap.size ≤ q → A q) (h : f_X11_passDay x_climate_weights x_climate_present x_forecasts_days x_forecasts_weathers x_forecasts_count x_forecasts_scored x_forecasts_errors x_forecasts_hits x_day a1 = some res) (hW : Wo g A s H locs (w_X11 g h0 h1 h2 h3 h4 h5 h6 h7 x_sheet_cells x_sheet_threshold x_climate_weights x_climate_present x_forecasts_days x_forecasts_weathers x_forecasts_count x_forecasts_scored x_forecasts_errors x_forecasts_hits x_day)) (hl : lv_has ls 2 [(0, .ref h0), (1, .int a1)]) : G_X11_passDay p l e s m args below meth c g A h0 h1 h2 h3 h4 h5 h6 h7 x_sheet_cells x_sheet_threshold res H locs 0 ls [] := by
  have hts := E.2.2.2.1
  unfold f_X11_passDay at h
  refine lv_aload_n E.1 E.2.1 dX11_passDay_0 rfl (lv_at hl 0 rfl) ?_
  refine lv_dup E.1 E.2.1 dX11_passDay_1 rfl ?_
  refine wGet (v := .int x_day) E hK in_X11_passDay_X11 hW 3 lk_X11_passDay_30 0 rfl rfl (by decide) rfl rfl dX11_passDay_2 ?_
  refine lv_iconst (v := 1) E.1 E.2.1 dX11_passDay_5 (by decide) ?_
  refine lv_iadd E.1 E.2.1 dX11_passDay_6 ?_
  refine wPut (world' := (w_X11 g h0 h1 h2 h3 h4 h5 h6 h7 x_sheet_cells x_sheet_threshold x_climate_weights x_climate_present x_forecasts_days x_forecasts_weathers x_forecasts_count x_forecasts_scored x_forecasts_errors x_forecasts_hits (x_day + 1))) E hK in_X11_passDay_X11 tyX11 tyX11_ok nmX11 hW 3 lk_X11_passDay_30 0 rfl rfl (by decide) rfl rfl rfl rfl rfl (Nat.le_of_ble_eq_true rfl) dX11_passDay_7 rfl (fun H locs hW => ?_)
  refine lv_aload_n E.1 E.2.1 dX11_passDay_10 rfl (lv_at hl 0 rfl) ?_
  refine wGet (v := .ref h3) E hK in_X11_passDay_X11 hW 1 lk_X11_passDay_19 0 rfl rfl (by decide) rfl rfl dX11_passDay_11 ?_
  refine lv_iload_n E.1 E.2.1 dX11_passDay_14 rfl (lv_at hl 1 rfl) ?_
  obtain ⟨r15, hc, h⟩ := bx h
  refine goU (world' := (w_X11 g h0 h1 h2 h3 h4 h5 h6 h7 x_sheet_cells x_sheet_threshold r15.1 r15.2 x_forecasts_days x_forecasts_weathers x_forecasts_count x_forecasts_scored x_forecasts_errors x_forecasts_hits (x_day + 1))) hW hA (is := [3, 4]) rfl (goV (rest := []) E hK hW [3, 4] rfl rfl (c_X2_changeTo l g h3 h4 x_climate_weights x_climate_present a1 (hf := hc) H.size) (cwV 1 hts gX11_passDay_X2_changeTo rfl rfl rfl (by decide +kernel) ⟨Nat.le_of_ble_eq_true rfl, Nat.le_of_ble_eq_true rfl⟩) 0 rfl rfl rfl hl.1 rfl rfl (Nat.le_of_ble_eq_true rfl) dX11_passDay_15 ⟨Nat.zero_le _, Nat.zero_le _⟩) rfl rfl (fun H locs hW => ?_)
  refine lv_aload_n E.1 E.2.1 dX11_passDay_18 rfl (lv_at hl 0 rfl) ?_
  refine wGet (v := .ref h5) E hK in_X11_passDay_X11 hW 2 lk_X11_passDay_26 0 rfl rfl (by decide) rfl rfl dX11_passDay_19 ?_
  refine lv_aload_n E.1 E.2.1 dX11_passDay_22 rfl (lv_at hl 0 rfl) ?_
  refine wGet (v := .int (x_day + 1)) E hK in_X11_passDay_X11 hW 3 lk_X11_passDay_30 0 rfl rfl (by decide) rfl rfl dX11_passDay_23 ?_
  refine lv_iload_n E.1 E.2.1 dX11_passDay_26 rfl (lv_at hl 1 rfl) ?_
  obtain ⟨r27, hc, h⟩ := bx h
  refine goI (world' := (w_X11 g h0 h1 h2 h3 h4 h5 h6 h7 x_sheet_cells x_sheet_threshold r15.1 r15.2 r27.2.1 r27.2.2.1 r27.2.2.2.1 r27.2.2.2.2.1 r27.2.2.2.2.2.1 r27.2.2.2.2.2.2 (x_day + 1))) hW hA (is := [5, 6, 7]) rfl (goV (rest := []) E hK hW [5, 6, 7] rfl rfl (c_X4_score l g h5 h6 h7 x_forecasts_days x_forecasts_weathers x_forecasts_count x_forecasts_scored x_forecasts_errors x_forecasts_hits (x_day + 1) a1 (hf := hc) H.size) (cwV 2 hts gX11_passDay_X4_score rfl rfl rfl (by decide +kernel) ⟨Nat.le_of_ble_eq_true rfl, Nat.le_of_ble_eq_true rfl⟩) 0 rfl rfl rfl hl.1 rfl rfl (Nat.le_of_ble_eq_true rfl) dX11_passDay_27 ⟨Nat.zero_le _, Nat.zero_le _⟩) rfl rfl (fun H locs hW => ?_)
  obtain rfl := Option.some.inj h
  exact endI E rfl hW dX11_passDay_30
theorem c_X11_passDay (l : Launch) (g : GE) (h0 h1 h2 h3 h4 h5 h6 h7 : Nat) (x_sheet_cells : Nat → Int32) (x_sheet_threshold : Int32) (x_climate_weights : Nat → Int32) (x_climate_present : Int32) (x_forecasts_days : Nat → Int32) (x_forecasts_weathers : Nat → Int32) (x_forecasts_count : Int32) (x_forecasts_scored : Int32) (x_forecasts_errors : Int32) (x_forecasts_hits : Int32) (x_day : Int32) (a1 : Int32) {res : Int32 × (Nat → Int32) × Int32 × (Nat → Int32) × (Nat → Int32) × Int32 × Int32 × Int32 × Int32 × Int32} (hf : f_X11_passDay x_climate_weights x_climate_present x_forecasts_days x_forecasts_weathers x_forecasts_count x_forecasts_scored x_forecasts_errors x_forecasts_hits x_day a1 = some res) : CI l yX11_passDay wsX11_passDay rm_X11_passDay g [.ref h0, .int a1] (w_X11 g h0 h1 h2 h3 h4 h5 h6 h7 x_sheet_cells x_sheet_threshold x_climate_weights x_climate_present x_forecasts_days x_forecasts_weathers x_forecasts_count x_forecasts_scored x_forecasts_errors x_forecasts_hits x_day) (w_X11 g h0 h1 h2 h3 h4 h5 h6 h7 x_sheet_cells x_sheet_threshold res.2.1 res.2.2.1 res.2.2.2.1 res.2.2.2.2.1 res.2.2.2.2.2.1 res.2.2.2.2.2.2.1 res.2.2.2.2.2.2.2.1 res.2.2.2.2.2.2.2.2.1 res.2.2.2.2.2.2.2.2.2) res.1 :=
  mkI (cc := cX11_passDay) (maxL := 2) (by decide) rfl (Nat.le_of_ble_eq_true rfl) (fun p e s m args below meth c A H locs ls E hK hA hW hl => k_X11_passDay_0 E hK hA hf hW hl)

/-! PaperStorm$Line.clear()V X8_clear -/
abbrev rm_X8_clear : Room := { frames := 0, cells := 0, slots := 0, locals := 0 }
theorem in_X8_clear_X8 : ∀ w ∈ wsX80, w ∈ wsX8_clear := by decide +kernel
theorem lk_X8_clear_15 : Cond.fieldLink RX8 15 "PaperStorm$Line" "length" "I" ∈ wsX8_clear := by decide +kernel
noncomputable def f_X8_clear (x_length : Int32) : Option (Int32) :=
  some (0)
abbrev G_X8_clear (p : Program) (l : Launch) (e : Env) (s : State) (m : MethodId) (args : Array Value) (below : List Frame) (meth : Method) (c : Code) (g : GE) (A : Nat → Prop) (h0 h1 : Nat) (x_signs : Nat → Int32) (res : Int32) (H : Heap) (locs : List Loc) (pc : Nat) (ls : Array Slot) (st : List Value) : Prop := W p l e (headSpec wsX8_clear rm_X8_clear).room s m args below meth c H locs 0 0 (MQ below (PoV g A (w_X8 g h0 h1 x_signs res)) args s 0 0 A) (F0 m pc ls st)
set_option maxHeartbeats 4000000 in
set_option maxRecDepth 100000 in
theorem k_X8_clear_0 {p : Program} {l : Launch} {e : Env} {s : State} {m : MethodId} {args : Array Value} {below : List Frame} {meth : Method} {c : Code} {g : GE} {A : Nat → Prop} {h0 h1 : Nat} {x_signs : Nat → Int32} {x_length : Int32} {res : Int32} {H : Heap} {locs : List Loc} {ls : Array Slot} 
    (E : En cX8_clear RX8 wsX8_clear 1 none p s m args meth c) (hK : KK g s) (hA : ∀ q, s.heap.size ≤ q → A q) (h : f_X8_clear x_length = some res) (hW : Wo g A s H locs (w_X8 g h0 h1 x_signs x_length)) (hl : lv_has ls 1 [(0, .ref h0)]) : G_X8_clear p l e s m args below meth c g A h0 h1 x_signs res H locs 0 ls [] := by
  have hts := E.2.2.2.1
  unfold f_X8_clear at h
  refine lv_aload_n E.1 E.2.1 dX8_clear_0 rfl (lv_at hl 0 rfl) ?_
  refine lv_iconst (v := 0) E.1 E.2.1 dX8_clear_1 (by decide) ?_
  refine wPut (world' := (w_X8 g h0 h1 x_signs 0)) E hK in_X8_clear_X8 tyX8 tyX8_ok nmX8 hW 1 lk_X8_clear_15 0 rfl rfl (by decide) rfl rfl rfl rfl rfl (Nat.le_of_ble_eq_true rfl) dX8_clear_2 rfl (fun H locs hW => ?_)
  obtain rfl := Option.some.inj h
  exact endV E hW dX8_clear_5
theorem c_X8_clear (l : Launch) (g : GE) (h0 h1 : Nat) (x_signs : Nat → Int32) (x_length : Int32) {res : Int32} (hf : f_X8_clear x_length = some res) : CV l yX8_clear wsX8_clear rm_X8_clear g [.ref h0] (w_X8 g h0 h1 x_signs x_length) (w_X8 g h0 h1 x_signs res) :=
  mkV (cc := cX8_clear) (maxL := 1) (by decide) rfl (Nat.le_of_ble_eq_true rfl) (fun p e s m args below meth c A H locs ls E hK hA hW hl => k_X8_clear_0 E hK hA hf hW hl)

/-! PaperStorm$Line.has(I)Z X8_has -/
abbrev rm_X8_has : Room := { frames := 0, cells := 0, slots := 0, locals := 0 }
theorem in_X8_has_X8 : ∀ w ∈ wsX80, w ∈ wsX8_has := by decide +kernel
theorem lk_X8_has_15 : Cond.fieldLink RX8 15 "PaperStorm$Line" "length" "I" ∈ wsX8_has := by decide +kernel
noncomputable def f_X8_has (x_length : Int32) (a1 : Int32) : Option (Int32) :=
  jo (fun (s0_24 : Int32) => if ¬ vp_nar .boolean s0_24 = s0_24 then none else some (s0_24)) (fun j24 => jo (j24 0) (fun j23 => if a1 < 0 then j23 else if x_length ≤ a1 then j23 else if 160 ≤ a1 then j23 else j24 1))
abbrev G_X8_has (p : Program) (l : Launch) (e : Env) (s : State) (m : MethodId) (args : Array Value) (below : List Frame) (meth : Method) (c : Code) (g : GE) (A : Nat → Prop) (h0 h1 : Nat) (x_signs : Nat → Int32) (x_length : Int32) (res : Int32) (H : Heap) (locs : List Loc) (pc : Nat) (ls : Array Slot) (st : List Value) : Prop := W p l e (headSpec wsX8_has rm_X8_has).room s m args below meth c H locs 0 0 (MQ below (PoI g A (w_X8 g h0 h1 x_signs x_length) res) args s 0 0 A) (F0 m pc ls st)
set_option maxHeartbeats 4000000 in
set_option maxRecDepth 100000 in
theorem k_X8_has_0 {p : Program} {l : Launch} {e : Env} {s : State} {m : MethodId} {args : Array Value} {below : List Frame} {meth : Method} {c : Code} {g : GE} {A : Nat → Prop} {h0 h1 : Nat} {x_signs : Nat → Int32} {x_length : Int32} {res : Int32} {H : Heap} {locs : List Loc} {ls : Array Slot} {a1 : Int32}
    (E : En cX8_has RX8 wsX8_has 2 (some .boolean) p s m args meth c) (hK : KK g s) (hA : ∀ q, s.heap.size ≤ q → A q) (h : f_X8_has x_length a1 = some res) (hW : Wo g A s H locs (w_X8 g h0 h1 x_signs x_length)) (hl : lv_has ls 2 [(0, .ref h0), (1, .int a1)]) : G_X8_has p l e s m args below meth c g A h0 h1 x_signs x_length res H locs 0 ls [] := by
  have hts := E.2.2.2.1
  unfold f_X8_has at h
  obtain ⟨j24, hj24, h⟩ := jox1 h
  have J24 : ∀ (s0_24 : Int32) (H : Heap) (locs : List Loc) (ls : Array Slot), j24 s0_24 = some res → Wo g A s H locs (w_X8 g h0 h1 x_signs x_length) → lv_has ls 2 [] → G_X8_has p l e s m args below meth c g A h0 h1 x_signs x_length res H locs 24 ls [.int s0_24] := by
    intro s0_24 H locs ls h hW hl
    rw [hj24] at h
    obtain ⟨hz, h⟩ := ox h
    obtain rfl := Option.some.inj h
    exact endI E (nar_z (Decidable.not_not.mp hz)) hW dX8_has_24
  obtain ⟨j23, hj23, h⟩ := jox0 h
  have J23 : ∀ (H : Heap) (locs : List Loc) (ls : Array Slot), j23 = some res → Wo g A s H locs (w_X8 g h0 h1 x_signs x_length) → lv_has ls 2 [] → G_X8_has p l e s m args below meth c g A h0 h1 x_signs x_length res H locs 23 ls [] := by
    intro H locs ls h hW hl
    rw [hj23] at h
    refine lv_iconst (v := 0) E.1 E.2.1 dX8_has_23 (by decide) ?_
    exact J24 0 H locs ls h hW (lv_sub hl [] rfl)
  refine lv_iload_n E.1 E.2.1 dX8_has_0 rfl (lv_at hl 1 rfl) ?_
  refine lv_if_lt (tgt := 23) E.1 E.2.1 dX8_has_1 (by decide) (fun c1 => ?_) (fun c1 => ?_)
  · have h := it c1 h
    exact J23  H locs ls h hW (lv_sub hl [] rfl)
  · have h := ie c1 h
    refine lv_iload_n E.1 E.2.1 dX8_has_4 rfl (lv_at hl 1 rfl) ?_
    refine lv_aload_n E.1 E.2.1 dX8_has_5 rfl (lv_at hl 0 rfl) ?_
    refine wGet (v := .int x_length) E hK in_X8_has_X8 hW 1 lk_X8_has_15 0 rfl rfl (by decide) rfl rfl dX8_has_6 ?_
    refine lv_icmp_ge (tgt := 23) E.1 E.2.1 dX8_has_9 (by decide) (fun c9 => ?_) (fun c9 => ?_)
    · have h := it c9 h
      exact J23  H locs ls h hW (lv_sub hl [] rfl)
    · have h := ie c9 h
      refine lv_iload_n E.1 E.2.1 dX8_has_12 rfl (lv_at hl 1 rfl) ?_
      refine lv_sipush (v := 160) E.1 E.2.1 dX8_has_13 (by decide) ?_
      refine lv_icmp_ge (tgt := 23) E.1 E.2.1 dX8_has_16 (by decide) (fun c16 => ?_) (fun c16 => ?_)
      · have h := it c16 h
        exact J23  H locs ls h hW (lv_sub hl [] rfl)
      · have h := ie c16 h
        refine lv_iconst (v := 1) E.1 E.2.1 dX8_has_19 (by decide) ?_
        refine lv_goto (tgt := 24) E.1 E.2.1 dX8_has_20 (by decide) ?_
        exact J24 1 H locs ls h hW (lv_sub hl [] rfl)
theorem c_X8_has (l : Launch) (g : GE) (h0 h1 : Nat) (x_signs : Nat → Int32) (x_length : Int32) (a1 : Int32) {res : Int32} (hf : f_X8_has x_length a1 = some res) : CI l yX8_has wsX8_has rm_X8_has g [.ref h0, .int a1] (w_X8 g h0 h1 x_signs x_length) (w_X8 g h0 h1 x_signs x_length) res :=
  mkI (cc := cX8_has) (maxL := 2) (by decide) rfl (Nat.le_of_ble_eq_true rfl) (fun p e s m args below meth c A H locs ls E hK hA hW hl => k_X8_has_0 E hK hA hf hW hl)

/-! PaperStorm$Line.signAt(I)C X8_signAt -/
abbrev rm_X8_signAt : Room := { frames := 1, cells := 0, slots := 0, locals := 21 }
theorem in_X8_signAt_X8 : ∀ w ∈ wsX80, w ∈ wsX8_signAt := by decide +kernel
theorem lk_X8_signAt_9 : Cond.fieldLink RX8 9 "PaperStorm$Line" "signs" "[C" ∈ wsX8_signAt := by decide +kernel
noncomputable def f_X8_signAt (x_signs : Nat → Int32) (x_length : Int32) (a1 : Int32) : Option (Int32) :=
  jo (fun (s0_18 : Int32) => if ¬ vp_nar .char s0_18 = s0_18 then none else some (s0_18)) (fun j18 => (f_X8_has x_length a1).bind fun r2 => if r2 = 0 then j18 0 else if a1 < 0 ∨ 160 ≤ a1.toNatClampNeg then none else j18 (x_signs a1.toNatClampNeg))
abbrev G_X8_signAt (p : Program) (l : Launch) (e : Env) (s : State) (m : MethodId) (args : Array Value) (below : List Frame) (meth : Method) (c : Code) (g : GE) (A : Nat → Prop) (h0 h1 : Nat) (x_signs : Nat → Int32) (x_length : Int32) (res : Int32) (H : Heap) (locs : List Loc) (pc : Nat) (ls : Array Slot) (st : List Value) : Prop := W p l e (headSpec wsX8_signAt rm_X8_signAt).room s m args below meth c H locs 0 0 (MQ below (PoI g A (w_X8 g h0 h1 x_signs x_length) res) args s 0 0 A) (F0 m pc ls st)
set_option maxHeartbeats 4000000 in
set_option maxRecDepth 100000 in
theorem k_X8_signAt_0 {p : Program} {l : Launch} {e : Env} {s : State} {m : MethodId} {args : Array Value} {below : List Frame} {meth : Method} {c : Code} {g : GE} {A : Nat → Prop} {h0 h1 : Nat} {x_signs : Nat → Int32} {x_length : Int32} {res : Int32} {H : Heap} {locs : List Loc} {ls : Array Slot} {a1 : Int32}
    (E : En cX8_signAt RX8 wsX8_signAt 2 (some .char) p s m args meth c) (hK : KK g s) (hA : ∀ q, s.heap.size ≤ q → A q) (h : f_X8_signAt x_signs x_length a1 = some res) (hW : Wo g A s H locs (w_X8 g h0 h1 x_signs x_length)) (hl : lv_has ls 2 [(0, .ref h0), (1, .int a1)]) : G_X8_signAt p l e s m args below meth c g A h0 h1 x_signs x_length res H locs 0 ls [] := by
  have hts := E.2.2.2.1
  unfold f_X8_signAt at h
  obtain ⟨j18, hj18, h⟩ := jox1 h
  have J18 : ∀ (s0_18 : Int32) (H : Heap) (locs : List Loc) (ls : Array Slot), j18 s0_18 = some res → Wo g A s H locs (w_X8 g h0 h1 x_signs x_length) → lv_has ls 2 [] → G_X8_signAt p l e s m args below meth c g A h0 h1 x_signs x_length res H locs 18 ls [.int s0_18] := by
    intro s0_18 H locs ls h hW hl
    rw [hj18] at h
    obtain ⟨hz, h⟩ := ox h
    obtain rfl := Option.some.inj h
    exact endI E (nar_c (Decidable.not_not.mp hz)) hW dX8_signAt_18
  refine lv_aload_n E.1 E.2.1 dX8_signAt_0 rfl (lv_at hl 0 rfl) ?_
  refine lv_iload_n E.1 E.2.1 dX8_signAt_1 rfl (lv_at hl 1 rfl) ?_
  obtain ⟨r2, hc, h⟩ := bx h
  refine goI (world' := (w_X8 g h0 h1 x_signs x_length)) hW hA (is := [0, 1]) rfl (goV (rest := []) E hK hW [0, 1] rfl rfl (c_X8_has l g h0 h1 x_signs x_length a1 (hf := hc) H.size) (cwV 1 hts gX8_signAt_X8_has rfl rfl rfl (by decide +kernel) ⟨Nat.le_of_ble_eq_true rfl, Nat.le_of_ble_eq_true rfl⟩) 0 rfl rfl rfl hl.1 rfl rfl (Nat.le_of_ble_eq_true rfl) dX8_signAt_2 ⟨Nat.zero_le _, Nat.zero_le _⟩) rfl rfl (fun H locs hW => ?_)
  refine lv_if_eq (tgt := 17) E.1 E.2.1 dX8_signAt_5 (by decide) (fun c5 => ?_) (fun c5 => ?_)
  · have h := it c5 h
    refine lv_iconst (v := 0) E.1 E.2.1 dX8_signAt_17 (by decide) ?_
    exact J18 0 H locs ls h hW (lv_sub hl [] rfl)
  · have h := ie c5 h
    refine lv_aload_n E.1 E.2.1 dX8_signAt_8 rfl (lv_at hl 0 rfl) ?_
    refine wGet (v := .ref h1) E hK in_X8_signAt_X8 hW 0 lk_X8_signAt_9 0 rfl rfl (by decide) rfl rfl dX8_signAt_9 ?_
    refine lv_iload_n E.1 E.2.1 dX8_signAt_12 rfl (lv_at hl 1 rfl) ?_
    obtain ⟨hi13, h⟩ := ox h
    refine wCald E hK hW 1 rfl hi13 dX8_signAt_13 ?_
    refine lv_goto (tgt := 18) E.1 E.2.1 dX8_signAt_14 (by decide) ?_
    exact J18 (x_signs a1.toNatClampNeg) H locs ls h hW (lv_sub hl [] rfl)
theorem c_X8_signAt (l : Launch) (g : GE) (h0 h1 : Nat) (x_signs : Nat → Int32) (x_length : Int32) (a1 : Int32) {res : Int32} (hf : f_X8_signAt x_signs x_length a1 = some res) : CI l yX8_signAt wsX8_signAt rm_X8_signAt g [.ref h0, .int a1] (w_X8 g h0 h1 x_signs x_length) (w_X8 g h0 h1 x_signs x_length) res :=
  mkI (cc := cX8_signAt) (maxL := 2) (by decide) rfl (Nat.le_of_ble_eq_true rfl) (fun p e s m args below meth c A H locs ls E hK hA hW hl => k_X8_signAt_0 E hK hA hf hW hl)

/-! PaperStorm$Line.put(C)V X8_put -/
abbrev rm_X8_put : Room := { frames := 0, cells := 0, slots := 0, locals := 0 }
theorem in_X8_put_X8 : ∀ w ∈ wsX80, w ∈ wsX8_put := by decide +kernel
theorem lk_X8_put_15 : Cond.fieldLink RX8 15 "PaperStorm$Line" "length" "I" ∈ wsX8_put := by decide +kernel
theorem lk_X8_put_9 : Cond.fieldLink RX8 9 "PaperStorm$Line" "signs" "[C" ∈ wsX8_put := by decide +kernel
noncomputable def f_X8_put (x_signs : Nat → Int32) (x_length : Int32) (a1 : Int32) : Option ((Nat → Int32) × Int32) :=
  jo (fun (x_signs_37 : Nat → Int32) (x_length_37 : Int32) => some (x_signs_37, x_length_37)) (fun j37 => if x_length < 0 then j37 x_signs x_length else if 160 ≤ x_length then j37 x_signs x_length else if x_length < 0 ∨ 160 ≤ x_length.toNatClampNeg then none else j37 (upd x_signs x_length.toNatClampNeg (vp_nar .char a1)) (x_length + 1))
abbrev G_X8_put (p : Program) (l : Launch) (e : Env) (s : State) (m : MethodId) (args : Array Value) (below : List Frame) (meth : Method) (c : Code) (g : GE) (A : Nat → Prop) (h0 h1 : Nat) (res : (Nat → Int32) × Int32) (H : Heap) (locs : List Loc) (pc : Nat) (ls : Array Slot) (st : List Value) : Prop := W p l e (headSpec wsX8_put rm_X8_put).room s m args below meth c H locs 0 0 (MQ below (PoV g A (w_X8 g h0 h1 res.1 res.2)) args s 0 0 A) (F0 m pc ls st)
set_option maxHeartbeats 4000000 in
set_option maxRecDepth 100000 in
theorem k_X8_put_0 {p : Program} {l : Launch} {e : Env} {s : State} {m : MethodId} {args : Array Value} {below : List Frame} {meth : Method} {c : Code} {g : GE} {A : Nat → Prop} {h0 h1 : Nat} {x_signs : Nat → Int32} {x_length : Int32} {res : (Nat → Int32) × Int32} {H : Heap} {locs : List Loc} {ls : Array Slot} {a1 : Int32}
    (E : En cX8_put RX8 wsX8_put 2 none p s m args meth c) (hK : KK g s) (hA : ∀ q, s.heap.size ≤ q → A q) (h : f_X8_put x_signs x_length a1 = some res) (hW : Wo g A s H locs (w_X8 g h0 h1 x_signs x_length)) (hl : lv_has ls 2 [(0, .ref h0), (1, .int a1)]) : G_X8_put p l e s m args below meth c g A h0 h1 res H locs 0 ls [] := by
  have hts := E.2.2.2.1
  unfold f_X8_put at h
  obtain ⟨j37, hj37, h⟩ := jox2 h
  have J37 : ∀ (x_signs_37 : Nat → Int32) (x_length_37 : Int32) (H : Heap) (locs : List Loc) (ls : Array Slot), j37 x_signs_37 x_length_37 = some res → Wo g A s H locs (w_X8 g h0 h1 x_signs_37 x_length_37) → lv_has ls 2 [] → G_X8_put p l e s m args below meth c g A h0 h1 res H locs 37 ls [] := by
    intro x_signs_37 x_length_37 H locs ls h hW hl
    rw [hj37] at h
    obtain rfl := Option.some.inj h
    exact endV E hW dX8_put_37
  refine lv_aload_n E.1 E.2.1 dX8_put_0 rfl (lv_at hl 0 rfl) ?_
  refine wGet (v := .int x_length) E hK in_X8_put_X8 hW 1 lk_X8_put_15 0 rfl rfl (by decide) rfl rfl dX8_put_1 ?_
  refine lv_if_lt (tgt := 37) E.1 E.2.1 dX8_put_4 (by decide) (fun c4 => ?_) (fun c4 => ?_)
  · have h := it c4 h
    exact J37 x_signs x_length H locs ls h hW (lv_sub hl [] rfl)
  · have h := ie c4 h
    refine lv_aload_n E.1 E.2.1 dX8_put_7 rfl (lv_at hl 0 rfl) ?_
    refine wGet (v := .int x_length) E hK in_X8_put_X8 hW 1 lk_X8_put_15 0 rfl rfl (by decide) rfl rfl dX8_put_8 ?_
    refine lv_sipush (v := 160) E.1 E.2.1 dX8_put_11 (by decide) ?_
    refine lv_icmp_ge (tgt := 37) E.1 E.2.1 dX8_put_14 (by decide) (fun c14 => ?_) (fun c14 => ?_)
    · have h := it c14 h
      exact J37 x_signs x_length H locs ls h hW (lv_sub hl [] rfl)
    · have h := ie c14 h
      refine lv_aload_n E.1 E.2.1 dX8_put_17 rfl (lv_at hl 0 rfl) ?_
      refine wGet (v := .ref h1) E hK in_X8_put_X8 hW 0 lk_X8_put_9 0 rfl rfl (by decide) rfl rfl dX8_put_18 ?_
      refine lv_aload_n E.1 E.2.1 dX8_put_21 rfl (lv_at hl 0 rfl) ?_
      refine wGet (v := .int x_length) E hK in_X8_put_X8 hW 1 lk_X8_put_15 0 rfl rfl (by decide) rfl rfl dX8_put_22 ?_
      refine lv_iload_n E.1 E.2.1 dX8_put_25 rfl (lv_at hl 1 rfl) ?_
      obtain ⟨hi26, h⟩ := ox h
      refine wCast (world' := (w_X8 g h0 h1 (upd x_signs x_length.toNatClampNeg (vp_nar .char a1)) x_length)) E hK hW 1 rfl hi26 dX8_put_26 rfl (fun H locs hW => ?_)
      refine lv_aload_n E.1 E.2.1 dX8_put_27 rfl (lv_at hl 0 rfl) ?_
      refine lv_dup E.1 E.2.1 dX8_put_28 rfl ?_
      refine wGet (v := .int x_length) E hK in_X8_put_X8 hW 1 lk_X8_put_15 0 rfl rfl (by decide) rfl rfl dX8_put_29 ?_
      refine lv_iconst (v := 1) E.1 E.2.1 dX8_put_32 (by decide) ?_
      refine lv_iadd E.1 E.2.1 dX8_put_33 ?_
      refine wPut (world' := (w_X8 g h0 h1 (upd x_signs x_length.toNatClampNeg (vp_nar .char a1)) (x_length + 1))) E hK in_X8_put_X8 tyX8 tyX8_ok nmX8 hW 1 lk_X8_put_15 0 rfl rfl (by decide) rfl rfl rfl rfl rfl (Nat.le_of_ble_eq_true rfl) dX8_put_34 rfl (fun H locs hW => ?_)
      exact J37 (upd x_signs x_length.toNatClampNeg (vp_nar .char a1)) (x_length + 1) H locs ls h hW (lv_sub hl [] rfl)
theorem c_X8_put (l : Launch) (g : GE) (h0 h1 : Nat) (x_signs : Nat → Int32) (x_length : Int32) (a1 : Int32) {res : (Nat → Int32) × Int32} (hf : f_X8_put x_signs x_length a1 = some res) : CV l yX8_put wsX8_put rm_X8_put g [.ref h0, .int a1] (w_X8 g h0 h1 x_signs x_length) (w_X8 g h0 h1 res.1 res.2) :=
  mkV (cc := cX8_put) (maxL := 2) (by decide) rfl (Nat.le_of_ble_eq_true rfl) (fun p e s m args below meth c A H locs ls E hK hA hW hl => k_X8_put_0 E hK hA hf hW hl)

/-! PaperStorm$Line.putNumber(J)V X8_putNumber -/
abbrev rm_X8_putNumber : Room := { frames := 1, cells := 0, slots := 0, locals := 21 }
theorem lk_X8_putNumber_36 : Cond.constantLong RX8 36 10 ∈ wsX8_putNumber := by decide +kernel
theorem lk_X8_putNumber_38 : Cond.constantLong RX8 38 48 ∈ wsX8_putNumber := by decide +kernel
noncomputable def f_X8_putNumber_5 (l1 : Int64) (z34 : Int64 → Option ((Nat → Int32) × Int32)) : Nat → Int64 → Int32 → Option ((Nat → Int32) × Int32)
  | 0, _, _ => none
  | n + 1, l3_5, l5_5 => if 18 ≤ l5_5 then z34 l3_5 else if 0 < (lg_cmp l3_5 (l1 / 10)) then z34 l3_5 else f_X8_putNumber_5 l1 z34 n (l3_5 * 10) (l5_5 + 1)
noncomputable def f_X8_putNumber_34 (l1 : Int64) (z66 : (Nat → Int32) → Int32 → Option ((Nat → Int32) × Int32)) : Nat → Int64 → (Nat → Int32) → Int32 → Option ((Nat → Int32) × Int32)
  | 0, _, _, _ => none
  | n + 1, l3_34, x_signs_34, x_length_34 => if (lg_cmp l3_34 0) ≤ 0 then z66 x_signs_34 x_length_34 else if l3_34 = 0 then none else (f_X8_put x_signs_34 x_length_34 ((((((48 + ((l1 / l3_34) - (l1 / l3_34) / 10 * 10))).toInt32) : Int32).toUInt32 % 65536).toInt32)).bind fun r54 => f_X8_putNumber_34 l1 z66 n (l3_34 / 10) r54.1 r54.2
noncomputable def f_X8_putNumber (x_signs : Nat → Int32) (x_length : Int32) (a1 : Int64) : Option ((Nat → Int32) × Int32) :=
  f_X8_putNumber_5 a1 (fun l3_34e => f_X8_putNumber_34 a1 (fun x_signs_66e x_length_66e => some (x_signs_66e, x_length_66e)) 1000 l3_34e x_signs x_length) 1000 1 1
abbrev G_X8_putNumber (p : Program) (l : Launch) (e : Env) (s : State) (m : MethodId) (args : Array Value) (below : List Frame) (meth : Method) (c : Code) (g : GE) (A : Nat → Prop) (h0 h1 : Nat) (res : (Nat → Int32) × Int32) (H : Heap) (locs : List Loc) (pc : Nat) (ls : Array Slot) (st : List Value) : Prop := W p l e (headSpec wsX8_putNumber rm_X8_putNumber).room s m args below meth c H locs 0 0 (MQ below (PoV g A (w_X8 g h0 h1 res.1 res.2)) args s 0 0 A) (F0 m pc ls st)
set_option maxHeartbeats 4000000 in
set_option maxRecDepth 100000 in
theorem k_X8_putNumber_5 {p : Program} {l : Launch} {e : Env} {s : State} {m : MethodId} {args : Array Value} {below : List Frame} {meth : Method} {c : Code} {g : GE} {A : Nat → Prop} {h0 h1 : Nat} {x_signs : Nat → Int32} {x_length : Int32} {res : (Nat → Int32) × Int32} {l1 : Int64} {z34 : Int64 → Option ((Nat → Int32) × Int32)}
    (E : En cX8_putNumber RX8 wsX8_putNumber 6 none p s m args meth c) (hK : KK g s) (hA : ∀ q, s.heap.size ≤ q → A q)
    (hz34 : ∀ (l3_34e : Int64) (H : Heap) (locs : List Loc) (ls : Array Slot), z34 l3_34e = some res → Wo g A s H locs (w_X8 g h0 h1 x_signs x_length) → lv_has ls 6 [(0, .ref h0), (1, .long l1), (3, .long l3_34e)] → G_X8_putNumber p l e s m args below meth c g A h0 h1 res H locs 34 ls [])
    : ∀ (n : Nat) (l3_5 : Int64) (l5_5 : Int32) (H : Heap) (locs : List Loc) (ls : Array Slot), f_X8_putNumber_5 l1 z34 n l3_5 l5_5 = some res → Wo g A s H locs (w_X8 g h0 h1 x_signs x_length) → lv_has ls 6 [(0, .ref h0), (1, .long l1), (3, .long l3_5), (5, .int l5_5)] → G_X8_putNumber p l e s m args below meth c g A h0 h1 res H locs 5 ls [] := by
  have hts := E.2.2.2.1
  intro n
  induction n with
  | zero => intro l3_5 l5_5 H locs ls h hW hl; rw [f_X8_putNumber_5] at h; cases h
  | succ n ih =>
    intro l3_5 l5_5 H locs ls h hW hl
    rw [f_X8_putNumber_5] at h
    refine lv_iload E.1 E.2.1 dX8_putNumber_5 (lv_at hl 3 rfl) ?_
    refine lv_bipush (v := 18) E.1 E.2.1 dX8_putNumber_7 (by decide) ?_
    refine lv_icmp_ge (tgt := 34) E.1 E.2.1 dX8_putNumber_9 (by decide) (fun c9 => ?_) (fun c9 => ?_)
    · have h := it c9 h
      exact hz34 l3_5 H locs ls h hW (lv_sub hl [0, 1, 2] rfl)
    · have h := ie c9 h
      refine lv_lload_n E.1 E.2.1 dX8_putNumber_12 rfl (lv_at hl 2 rfl) ?_
      refine lv_lload_n E.1 E.2.1 dX8_putNumber_13 rfl (lv_at hl 1 rfl) ?_
      refine lv_ldc2 (v := 10) E.1 E.2.1 E.2.2.2.2.1 (hts _ lk_X8_putNumber_36) dX8_putNumber_14 ?_
      refine lv_ldiv E.1 E.2.1 dX8_putNumber_17 (by decide) ?_
      refine W.lcmp E.1 E.2.1 dX8_putNumber_18 ?_
      refine lv_if_gt (tgt := 34) E.1 E.2.1 dX8_putNumber_19 (by decide) (fun c19 => ?_) (fun c19 => ?_)
      · have h := it c19 h
        exact hz34 l3_5 H locs ls h hW (lv_sub hl [0, 1, 2] rfl)
      · have h := ie c19 h
        refine lv_lload_n E.1 E.2.1 dX8_putNumber_22 rfl (lv_at hl 2 rfl) ?_
        refine lv_ldc2 (v := 10) E.1 E.2.1 E.2.2.2.2.1 (hts _ lk_X8_putNumber_36) dX8_putNumber_23 ?_
        refine lv_lmul E.1 E.2.1 dX8_putNumber_26 ?_
        refine lv_lstore_n (lv' := [(3, .long (l3_5 * 10)), (0, .ref h0), (1, .long l1), (5, .int l5_5)]) E.1 E.2.1 dX8_putNumber_27 rfl hl (by decide) rfl (fun ls hl => ?_)
        refine lv_iinc (v := (l5_5 + 1)) (lv' := [(5, .int (l5_5 + 1)), (3, .long (l3_5 * 10)), (0, .ref h0), (1, .long l1)]) E.1 E.2.1 dX8_putNumber_28 hl (k := 3) rfl rfl (by decide) rfl (fun ls hl => ?_)
        refine lv_goto (tgt := 5) E.1 E.2.1 dX8_putNumber_31 (by decide) ?_
        exact ih (l3_5 * 10) (l5_5 + 1) H locs ls h hW (lv_sub hl [2, 3, 1, 0] rfl)
set_option maxHeartbeats 4000000 in
set_option maxRecDepth 100000 in
theorem k_X8_putNumber_34 {p : Program} {l : Launch} {e : Env} {s : State} {m : MethodId} {args : Array Value} {below : List Frame} {meth : Method} {c : Code} {g : GE} {A : Nat → Prop} {h0 h1 : Nat} {res : (Nat → Int32) × Int32} {l1 : Int64} {z66 : (Nat → Int32) → Int32 → Option ((Nat → Int32) × Int32)}
    (E : En cX8_putNumber RX8 wsX8_putNumber 6 none p s m args meth c) (hK : KK g s) (hA : ∀ q, s.heap.size ≤ q → A q)
    (hz66 : ∀ (x_signs_66e : Nat → Int32) (x_length_66e : Int32) (H : Heap) (locs : List Loc) (ls : Array Slot), z66 x_signs_66e x_length_66e = some res → Wo g A s H locs (w_X8 g h0 h1 x_signs_66e x_length_66e) → lv_has ls 6 [] → G_X8_putNumber p l e s m args below meth c g A h0 h1 res H locs 66 ls [])
    : ∀ (n : Nat) (l3_34 : Int64) (x_signs_34 : Nat → Int32) (x_length_34 : Int32) (H : Heap) (locs : List Loc) (ls : Array Slot), f_X8_putNumber_34 l1 z66 n l3_34 x_signs_34 x_length_34 = some res → Wo g A s H locs (w_X8 g h0 h1 x_signs_34 x_length_34) → lv_has ls 6 [(0, .ref h0), (1, .long l1), (3, .long l3_34)] → G_X8_putNumber p l e s m args below meth c g A h0 h1 res H locs 34 ls [] := by
  have hts := E.2.2.2.1
  intro n
  induction n with
  | zero => intro l3_34 x_signs_34 x_length_34 H locs ls h hW hl; rw [f_X8_putNumber_34] at h; cases h
  | succ n ih =>
    intro l3_34 x_signs_34 x_length_34 H locs ls h hW hl
    rw [f_X8_putNumber_34] at h
    refine lv_lload_n E.1 E.2.1 dX8_putNumber_34 rfl (lv_at hl 2 rfl) ?_
    refine lv_lconst (v := 0) E.1 E.2.1 dX8_putNumber_35 (by decide) ?_
    refine W.lcmp E.1 E.2.1 dX8_putNumber_36 ?_
    refine lv_if_le (tgt := 66) E.1 E.2.1 dX8_putNumber_37 (by decide) (fun c37 => ?_) (fun c37 => ?_)
    · have h := it c37 h
      exact hz66 x_signs_34 x_length_34 H locs ls h hW (lv_sub hl [] rfl)
    · have h := ie c37 h
      refine lv_aload_n E.1 E.2.1 dX8_putNumber_40 rfl (lv_at hl 0 rfl) ?_
      refine lv_ldc2 (v := 48) E.1 E.2.1 E.2.2.2.2.1 (hts _ lk_X8_putNumber_38) dX8_putNumber_41 ?_
      refine lv_lload_n E.1 E.2.1 dX8_putNumber_44 rfl (lv_at hl 1 rfl) ?_
      refine lv_lload_n E.1 E.2.1 dX8_putNumber_45 rfl (lv_at hl 2 rfl) ?_
      obtain ⟨hn46, h⟩ := ox h
      refine lv_ldiv E.1 E.2.1 dX8_putNumber_46 hn46 ?_
      refine lv_ldc2 (v := 10) E.1 E.2.1 E.2.2.2.2.1 (hts _ lk_X8_putNumber_36) dX8_putNumber_47 ?_
      refine lv_lrem E.1 E.2.1 dX8_putNumber_50 (by decide) ?_
      refine lv_ladd E.1 E.2.1 dX8_putNumber_51 ?_
      refine lv_l2i (v := ((48 + ((l1 / l3_34) - (l1 / l3_34) / 10 * 10))).toInt32) E.1 E.2.1 dX8_putNumber_52 rfl ?_
      refine lv_i2c (v := (((((48 + ((l1 / l3_34) - (l1 / l3_34) / 10 * 10))).toInt32) : Int32).toUInt32 % 65536).toInt32) E.1 E.2.1 dX8_putNumber_53 rfl ?_
      obtain ⟨r54, hc, h⟩ := bx h
      refine goU (world' := (w_X8 g h0 h1 r54.1 r54.2)) hW hA (is := [0, 1]) rfl (goV (rest := []) E hK hW [0, 1] rfl rfl (c_X8_put l g h0 h1 x_signs_34 x_length_34 ((((((48 + ((l1 / l3_34) - (l1 / l3_34) / 10 * 10))).toInt32) : Int32).toUInt32 % 65536).toInt32) (hf := hc) H.size) (cwV 1 hts gX8_putNumber_X8_put rfl rfl rfl (by decide +kernel) ⟨Nat.le_of_ble_eq_true rfl, Nat.le_of_ble_eq_true rfl⟩) 0 rfl rfl rfl hl.1 rfl rfl (Nat.le_of_ble_eq_true rfl) dX8_putNumber_54 ⟨Nat.zero_le _, Nat.zero_le _⟩) rfl rfl (fun H locs hW => ?_)
      refine lv_lload_n E.1 E.2.1 dX8_putNumber_57 rfl (lv_at hl 2 rfl) ?_
      refine lv_ldc2 (v := 10) E.1 E.2.1 E.2.2.2.2.1 (hts _ lk_X8_putNumber_36) dX8_putNumber_58 ?_
      refine lv_ldiv E.1 E.2.1 dX8_putNumber_61 (by decide) ?_
      refine lv_lstore_n (lv' := [(3, .long (l3_34 / 10)), (0, .ref h0), (1, .long l1)]) E.1 E.2.1 dX8_putNumber_62 rfl hl (by decide) rfl (fun ls hl => ?_)
      refine lv_goto (tgt := 34) E.1 E.2.1 dX8_putNumber_63 (by decide) ?_
      exact ih (l3_34 / 10) r54.1 r54.2 H locs ls h hW (lv_sub hl [1, 2, 0] rfl)
set_option maxHeartbeats 4000000 in
set_option maxRecDepth 100000 in
theorem k_X8_putNumber_0 {p : Program} {l : Launch} {e : Env} {s : State} {m : MethodId} {args : Array Value} {below : List Frame} {meth : Method} {c : Code} {g : GE} {A : Nat → Prop} {h0 h1 : Nat} {x_signs : Nat → Int32} {x_length : Int32} {res : (Nat → Int32) × Int32} {H : Heap} {locs : List Loc} {ls : Array Slot} {a1 : Int64}
    (E : En cX8_putNumber RX8 wsX8_putNumber 6 none p s m args meth c) (hK : KK g s) (hA : ∀ q, s.heap.size ≤ q → A q) (h : f_X8_putNumber x_signs x_length a1 = some res) (hW : Wo g A s H locs (w_X8 g h0 h1 x_signs x_length)) (hl : lv_has ls 6 [(0, .ref h0), (1, .long a1)]) : G_X8_putNumber p l e s m args below meth c g A h0 h1 res H locs 0 ls [] := by
  have hts := E.2.2.2.1
  unfold f_X8_putNumber at h
  refine lv_lconst (v := 1) E.1 E.2.1 dX8_putNumber_0 (by decide) ?_
  refine lv_lstore_n (lv' := [(3, .long 1), (0, .ref h0), (1, .long a1)]) E.1 E.2.1 dX8_putNumber_1 rfl hl (by decide) rfl (fun ls hl => ?_)
  refine lv_iconst (v := 1) E.1 E.2.1 dX8_putNumber_2 (by decide) ?_
  refine lv_istore (lv' := [(5, .int 1), (3, .long 1), (0, .ref h0), (1, .long a1)]) E.1 E.2.1 dX8_putNumber_3 hl (by decide) rfl (fun ls hl => ?_)
  refine k_X8_putNumber_5 E hK hA ?_ 1000 1 1 H locs ls h hW (lv_sub hl [2, 3, 1, 0] rfl)
  · intro l3_34e H locs ls h hW hl
    refine k_X8_putNumber_34 E hK hA ?_ 1000 l3_34e x_signs x_length H locs ls h hW (lv_sub hl [0, 1, 2] rfl)
    · intro x_signs_66e x_length_66e H locs ls h hW hl
      obtain rfl := Option.some.inj h
      exact endV E hW dX8_putNumber_66
theorem c_X8_putNumber (l : Launch) (g : GE) (h0 h1 : Nat) (x_signs : Nat → Int32) (x_length : Int32) (a1 : Int64) {res : (Nat → Int32) × Int32} (hf : f_X8_putNumber x_signs x_length a1 = some res) : CV l yX8_putNumber wsX8_putNumber rm_X8_putNumber g [.ref h0, .long a1] (w_X8 g h0 h1 x_signs x_length) (w_X8 g h0 h1 res.1 res.2) :=
  mkV (cc := cX8_putNumber) (maxL := 6) (by decide) rfl (Nat.le_of_ble_eq_true rfl) (fun p e s m args below meth c A H locs ls E hK hA hW hl => k_X8_putNumber_0 E hK hA hf hW hl)

