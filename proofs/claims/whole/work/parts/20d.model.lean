/-! PaperStormModel.setWeight(III)I X13_setWeight -/
abbrev rm_X13_setWeight : Room := { frames := 2, cells := 0, slots := 0, locals := 46 }
theorem in_X13_setWeight_X13 : ∀ w ∈ wsX130, w ∈ wsX13_setWeight := by decide +kernel
theorem lk_X13_setWeight_7 : Cond.fieldLink RX13 7 "PaperStormModel" "g" "[I" ∈ wsX13_setWeight := by decide +kernel
noncomputable def f_X13_setWeight (x_g : Nat → Int32) (x_kept : Nat → Int32) (x_changes : Int32) (x_isWithin : Int32) (x_code : Int32) (a1 : Int32) (a2 : Int32) (a3 : Int32) : Option (Int32 × (Nat → Int32) × (Nat → Int32) × Int32 × Int32) :=
  jo (fun (s1_50 : Int32) => (f_X13_fails x_code s1_50).bind fun r50 => if r50.1 = 0 then (f_X13_weighs x_g a1 a2).bind fun r61 => (f_X13_keeps__g x_g x_kept x_changes x_isWithin r50.2).bind fun r71 => if ((32 + (4 * a1)) + a2) < 0 ∨ 60 ≤ ((32 + (4 * a1)) + a2).toNatClampNeg then none else some (r61, (upd x_g ((32 + (4 * a1)) + a2).toNatClampNeg a3), r71.1, r71.2.1, r71.2.2) else some (0, x_g, x_kept, x_changes, r50.2)) (fun j50 => jo (j50 1) (fun j24 => (f_X13_isSort a1).bind fun r2 => if r2 = 0 then j24 else (f_X13_isSort a2).bind fun r9 => if r9 = 0 then j24 else (f_X13_in a3 0 3).bind fun r18 => if r18 = 0 then j24 else (f_X13_sum x_g a1).bind fun r30 => (f_X13_weighs x_g a1 a2).bind fun r36 => if ((r30 - r36) + a3) = 0 then j50 2 else j50 0))
abbrev G_X13_setWeight (p : Program) (l : Launch) (e : Env) (s : State) (m : MethodId) (args : Array Value) (below : List Frame) (meth : Method) (c : Code) (g : GE) (A : Nat → Prop) (h0 h1 h2 h3 h4 h5 h6 h7 h8 h9 h10 h11 h12 h13 : Nat) (x_saved : Nat → Int32) (x_before : Nat → Int32) (x_was : Nat → Int32) (x_region : Nat → Int32) (x_parts : Nat → Int64) (x_next : Nat → Int64) (x_ways : Nat → Int32) (x_more : Nat → Int32) (x_whole : Int64) (x_isSaved : Int32) (x_isWithin : Int32) (x_input : Nat → Int32) (x_length : Int32) (x_fault : Int32) (x_failed : Int32) (x_signs : Nat → Int32) (x_signMany : Int32) (x_at : Int32) (x_told : Nat → Int32) (x_toldMany : Int32) (res : Int32 × (Nat → Int32) × (Nat → Int32) × Int32 × Int32) (H : Heap) (locs : List Loc) (pc : Nat) (ls : Array Slot) (st : List Value) : Prop := W p l e (headSpec wsX13_setWeight rm_X13_setWeight).room s m args below meth c H locs 0 0 (MQ below (PoI g A (w_X13 g h0 h1 h2 h3 h4 h5 h6 h7 h8 h9 h10 h11 h12 h13 res.2.1 res.2.2.1 x_saved x_before x_was x_region x_parts x_next x_ways x_more x_whole x_isSaved res.2.2.2.1 x_isWithin res.2.2.2.2 x_input x_length x_fault x_failed x_signs x_signMany x_at x_told x_toldMany) res.1) args s 0 0 A) (F0 m pc ls st)
set_option maxHeartbeats 4000000 in
set_option maxRecDepth 100000 in
theorem k_X13_setWeight_0 {p : Program} {l : Launch} {e : Env} {s : State} {m : MethodId} {args : Array Value} {below : List Frame} {meth : Method} {c : Code} {g : GE} {A : Nat → Prop} {h0 h1 h2 h3 h4 h5 h6 h7 h8 h9 h10 h11 h12 h13 : Nat} {x_g : Nat → Int32} {x_kept : Nat → Int32} {x_saved : Nat → Int32} {x_before : Nat → Int32} {x_was : Nat → Int32} {x_region : Nat → Int32} {x_parts : Nat → Int64} {x_next : Nat → Int64} {x_ways : Nat → Int32} {x_more : Nat → Int32} {x_whole : Int64} {x_isSaved : Int32} {x_changes : Int32} {x_isWithin : Int32} {x_code : Int32} {x_input : Nat → Int32} {x_length : Int32} {x_fault : Int32} {x_failed : Int32} {x_signs : Nat → Int32} {x_signMany : Int32} {x_at : Int32} {x_told : Nat → Int32} {x_toldMany : Int32} {res : Int32 × (Nat → Int32) × (Nat → Int32) × Int32 × Int32} {H : Heap} {locs : List Loc} {ls : Array Slot} {a1 : Int32} {a2 : Int32} {a3 : Int32}
    (E : En cX13_setWeight RX13 wsX13_setWeight 5 (some .int) p s m args meth c) (hK : KK g s) (hA : ∀ q, s.heap.size ≤ q → A q) (h : f_X13_setWeight x_g x_kept x_changes x_isWithin x_code a1 a2 a3 = some res) (hW : Wo g A s H locs (w_X13 g h0 h1 h2 h3 h4 h5 h6 h7 h8 h9 h10 h11 h12 h13 x_g x_kept x_saved x_before x_was x_region x_parts x_next x_ways x_more x_whole x_isSaved x_changes x_isWithin x_code x_input x_length x_fault x_failed x_signs x_signMany x_at x_told x_toldMany)) (hl : lv_has ls 5 [(0, .ref h0), (1, .int a1), (2, .int a2), (3, .int a3)]) : G_X13_setWeight p l e s m args below meth c g A h0 h1 h2 h3 h4 h5 h6 h7 h8 h9 h10 h11 h12 h13 x_saved x_before x_was x_region x_parts x_next x_ways x_more x_whole x_isSaved x_isWithin x_input x_length x_fault x_failed x_signs x_signMany x_at x_told x_toldMany res H locs 0 ls [] := by
  have hts := E.2.2.2.1
  unfold f_X13_setWeight at h
  obtain ⟨j50, hj50, h⟩ := jox1 h
  have J50 : ∀ (s1_50 : Int32) (H : Heap) (locs : List Loc) (ls : Array Slot), j50 s1_50 = some res → Wo g A s H locs (w_X13 g h0 h1 h2 h3 h4 h5 h6 h7 h8 h9 h10 h11 h12 h13 x_g x_kept x_saved x_before x_was x_region x_parts x_next x_ways x_more x_whole x_isSaved x_changes x_isWithin x_code x_input x_length x_fault x_failed x_signs x_signMany x_at x_told x_toldMany) → lv_has ls 5 [(0, .ref h0), (1, .int a1), (2, .int a2), (3, .int a3)] → G_X13_setWeight p l e s m args below meth c g A h0 h1 h2 h3 h4 h5 h6 h7 h8 h9 h10 h11 h12 h13 x_saved x_before x_was x_region x_parts x_next x_ways x_more x_whole x_isSaved x_isWithin x_input x_length x_fault x_failed x_signs x_signMany x_at x_told x_toldMany res H locs 50 ls [.int s1_50, .ref h0] := by
    intro s1_50 H locs ls h hW hl
    rw [hj50] at h
    obtain ⟨r50, hc, h⟩ := bx h
    refine goI (world' := (w_X13 g h0 h1 h2 h3 h4 h5 h6 h7 h8 h9 h10 h11 h12 h13 x_g x_kept x_saved x_before x_was x_region x_parts x_next x_ways x_more x_whole x_isSaved x_changes x_isWithin r50.2 x_input x_length x_fault x_failed x_signs x_signMany x_at x_told x_toldMany)) hW hA (is := [0, 1, 2, 3, 4, 5, 6, 7, 8, 9, 10, 11, 12, 13]) rfl (goV (rest := []) E hK hW [0, 1, 2, 3, 4, 5, 6, 7, 8, 9, 10, 11, 12, 13] rfl rfl (c_X13_fails l g h0 h1 h2 h3 h4 h5 h6 h7 h8 h9 h10 h11 h12 h13 x_g x_kept x_saved x_before x_was x_region x_parts x_next x_ways x_more x_whole x_isSaved x_changes x_isWithin x_code x_input x_length x_fault x_failed x_signs x_signMany x_at x_told x_toldMany s1_50 (hf := hc) H.size) (cwV 1 hts gX13_setWeight_X13_fails rfl rfl rfl (by decide +kernel) ⟨Nat.le_of_ble_eq_true rfl, Nat.le_of_ble_eq_true rfl⟩) 0 rfl rfl rfl hl.1 rfl rfl (Nat.le_of_ble_eq_true rfl) dX13_setWeight_50 ⟨Nat.zero_le _, Nat.zero_le _⟩) rfl rfl (fun H locs hW => ?_)
    refine lv_if_eq (tgt := 58) E.1 E.2.1 dX13_setWeight_53 (by decide) (fun c53 => ?_) (fun c53 => ?_)
    · have h := it c53 h
      refine lv_aload_n E.1 E.2.1 dX13_setWeight_58 rfl (lv_at hl 0 rfl) ?_
      refine lv_iload_n E.1 E.2.1 dX13_setWeight_59 rfl (lv_at hl 1 rfl) ?_
      refine lv_iload_n E.1 E.2.1 dX13_setWeight_60 rfl (lv_at hl 2 rfl) ?_
      obtain ⟨r61, hc, h⟩ := bx h
      refine goI (world' := (w_X13 g h0 h1 h2 h3 h4 h5 h6 h7 h8 h9 h10 h11 h12 h13 x_g x_kept x_saved x_before x_was x_region x_parts x_next x_ways x_more x_whole x_isSaved x_changes x_isWithin r50.2 x_input x_length x_fault x_failed x_signs x_signMany x_at x_told x_toldMany)) hW hA (is := [0, 1, 2, 3, 4, 5, 6, 7, 8, 9, 10, 11, 12, 13]) rfl (goV (rest := []) E hK hW [0, 1, 2, 3, 4, 5, 6, 7, 8, 9, 10, 11, 12, 13] rfl rfl (c_X13_weighs l g h0 h1 h2 h3 h4 h5 h6 h7 h8 h9 h10 h11 h12 h13 x_g x_kept x_saved x_before x_was x_region x_parts x_next x_ways x_more x_whole x_isSaved x_changes x_isWithin r50.2 x_input x_length x_fault x_failed x_signs x_signMany x_at x_told x_toldMany a1 a2 (hf := hc) H.size) (cwV 2 hts gX13_setWeight_X13_weighs rfl rfl rfl (by decide +kernel) ⟨Nat.le_of_ble_eq_true rfl, Nat.le_of_ble_eq_true rfl⟩) 0 rfl rfl rfl hl.1 rfl rfl (Nat.le_of_ble_eq_true rfl) dX13_setWeight_61 ⟨Nat.zero_le _, Nat.zero_le _⟩) rfl rfl (fun H locs hW => ?_)
      refine lv_istore (lv' := [(4, .int r61), (0, .ref h0), (1, .int a1), (2, .int a2), (3, .int a3)]) E.1 E.2.1 dX13_setWeight_64 hl (by decide) rfl (fun ls hl => ?_)
      refine lv_aload_n E.1 E.2.1 dX13_setWeight_66 rfl (lv_at hl 1 rfl) ?_
      refine lv_aload_n E.1 E.2.1 dX13_setWeight_67 rfl (lv_at hl 1 rfl) ?_
      refine wGet (v := .ref h1) E hK in_X13_setWeight_X13 hW 0 lk_X13_setWeight_7 0 rfl rfl (by decide) rfl rfl dX13_setWeight_68 ?_
      obtain ⟨r71, hc, h⟩ := bx h
      refine goU (world' := (w_X13 g h0 h1 h2 h3 h4 h5 h6 h7 h8 h9 h10 h11 h12 h13 x_g r71.1 x_saved x_before x_was x_region x_parts x_next x_ways x_more x_whole x_isSaved r71.2.1 x_isWithin r71.2.2 x_input x_length x_fault x_failed x_signs x_signMany x_at x_told x_toldMany)) hW hA (is := [0, 1, 2, 3, 4, 5, 6, 7, 8, 9, 10, 11, 12, 13]) rfl (goV (rest := []) E hK hW [0, 1, 2, 3, 4, 5, 6, 7, 8, 9, 10, 11, 12, 13] rfl rfl (c_X13_keeps__g l g h0 h1 h2 h3 h4 h5 h6 h7 h8 h9 h10 h11 h12 h13 x_g x_kept x_saved x_before x_was x_region x_parts x_next x_ways x_more x_whole x_isSaved x_changes x_isWithin r50.2 x_input x_length x_fault x_failed x_signs x_signMany x_at x_told x_toldMany (hf := hc) H.size) (cwV 1 hts gX13_setWeight_X13_keeps rfl rfl rfl (by decide +kernel) ⟨Nat.le_of_ble_eq_true rfl, Nat.le_of_ble_eq_true rfl⟩) 0 rfl rfl rfl hl.1 rfl rfl (Nat.le_of_ble_eq_true rfl) dX13_setWeight_71 ⟨Nat.zero_le _, Nat.zero_le _⟩) rfl rfl (fun H locs hW => ?_)
      refine lv_aload_n E.1 E.2.1 dX13_setWeight_74 rfl (lv_at hl 1 rfl) ?_
      refine wGet (v := .ref h1) E hK in_X13_setWeight_X13 hW 0 lk_X13_setWeight_7 0 rfl rfl (by decide) rfl rfl dX13_setWeight_75 ?_
      refine lv_bipush (v := 32) E.1 E.2.1 dX13_setWeight_78 (by decide) ?_
      refine lv_iconst (v := 4) E.1 E.2.1 dX13_setWeight_80 (by decide) ?_
      refine lv_iload_n E.1 E.2.1 dX13_setWeight_81 rfl (lv_at hl 2 rfl) ?_
      refine lv_imul E.1 E.2.1 dX13_setWeight_82 ?_
      refine lv_iadd E.1 E.2.1 dX13_setWeight_83 ?_
      refine lv_iload_n E.1 E.2.1 dX13_setWeight_84 rfl (lv_at hl 3 rfl) ?_
      refine lv_iadd E.1 E.2.1 dX13_setWeight_85 ?_
      refine lv_iload_n E.1 E.2.1 dX13_setWeight_86 rfl (lv_at hl 4 rfl) ?_
      obtain ⟨hi87, h⟩ := ox h
      refine wIast (world' := (w_X13 g h0 h1 h2 h3 h4 h5 h6 h7 h8 h9 h10 h11 h12 h13 (upd x_g ((32 + (4 * a1)) + a2).toNatClampNeg a3) r71.1 x_saved x_before x_was x_region x_parts x_next x_ways x_more x_whole x_isSaved r71.2.1 x_isWithin r71.2.2 x_input x_length x_fault x_failed x_signs x_signMany x_at x_told x_toldMany)) E hK hW 1 rfl hi87 dX13_setWeight_87 rfl (fun H locs hW => ?_)
      refine lv_iload E.1 E.2.1 dX13_setWeight_88 (lv_at hl 0 rfl) ?_
      obtain rfl := Option.some.inj h
      exact endI E rfl hW dX13_setWeight_90
    · have h := ie c53 h
      refine lv_iconst (v := 0) E.1 E.2.1 dX13_setWeight_56 (by decide) ?_
      obtain rfl := Option.some.inj h
      exact endI E rfl hW dX13_setWeight_57
  obtain ⟨j24, hj24, h⟩ := jox0 h
  have J24 : ∀ (H : Heap) (locs : List Loc) (ls : Array Slot), j24 = some res → Wo g A s H locs (w_X13 g h0 h1 h2 h3 h4 h5 h6 h7 h8 h9 h10 h11 h12 h13 x_g x_kept x_saved x_before x_was x_region x_parts x_next x_ways x_more x_whole x_isSaved x_changes x_isWithin x_code x_input x_length x_fault x_failed x_signs x_signMany x_at x_told x_toldMany) → lv_has ls 5 [(0, .ref h0), (1, .int a1), (2, .int a2), (3, .int a3)] → G_X13_setWeight p l e s m args below meth c g A h0 h1 h2 h3 h4 h5 h6 h7 h8 h9 h10 h11 h12 h13 x_saved x_before x_was x_region x_parts x_next x_ways x_more x_whole x_isSaved x_isWithin x_input x_length x_fault x_failed x_signs x_signMany x_at x_told x_toldMany res H locs 24 ls [.ref h0] := by
    intro H locs ls h hW hl
    rw [hj24] at h
    refine lv_iconst (v := 1) E.1 E.2.1 dX13_setWeight_24 (by decide) ?_
    refine lv_goto (tgt := 50) E.1 E.2.1 dX13_setWeight_25 (by decide) ?_
    exact J50 1 H locs ls h hW (lv_sub hl [0, 1, 2, 3] rfl)
  refine lv_aload_n E.1 E.2.1 dX13_setWeight_0 rfl (lv_at hl 0 rfl) ?_
  refine lv_iload_n E.1 E.2.1 dX13_setWeight_1 rfl (lv_at hl 1 rfl) ?_
  obtain ⟨r2, hc, h⟩ := bx h
  refine goI (world' := (w_X13 g h0 h1 h2 h3 h4 h5 h6 h7 h8 h9 h10 h11 h12 h13 x_g x_kept x_saved x_before x_was x_region x_parts x_next x_ways x_more x_whole x_isSaved x_changes x_isWithin x_code x_input x_length x_fault x_failed x_signs x_signMany x_at x_told x_toldMany)) hW hA (is := []) rfl (goS (rest := [.ref h0]) E hK hW [] rfl rfl (c_X13_isSort l g a1 (hf := hc) H.size) (va_cwS 1 hts gX13_setWeight_X13_isSort rfl rfl rfl (by decide +kernel) ⟨Nat.le_of_ble_eq_true rfl, Nat.le_of_ble_eq_true rfl⟩) hl.1 rfl rfl (Nat.le_of_ble_eq_true rfl) dX13_setWeight_2 ⟨Nat.zero_le _, Nat.zero_le _⟩) rfl rfl (fun H locs hW => ?_)
  refine lv_if_eq (tgt := 24) E.1 E.2.1 dX13_setWeight_5 (by decide) (fun c5 => ?_) (fun c5 => ?_)
  · have h := it c5 h
    exact J24  H locs ls h hW (lv_sub hl [0, 1, 2, 3] rfl)
  · have h := ie c5 h
    refine lv_iload_n E.1 E.2.1 dX13_setWeight_8 rfl (lv_at hl 2 rfl) ?_
    obtain ⟨r9, hc, h⟩ := bx h
    refine goI (world' := (w_X13 g h0 h1 h2 h3 h4 h5 h6 h7 h8 h9 h10 h11 h12 h13 x_g x_kept x_saved x_before x_was x_region x_parts x_next x_ways x_more x_whole x_isSaved x_changes x_isWithin x_code x_input x_length x_fault x_failed x_signs x_signMany x_at x_told x_toldMany)) hW hA (is := []) rfl (goS (rest := [.ref h0]) E hK hW [] rfl rfl (c_X13_isSort l g a2 (hf := hc) H.size) (va_cwS 1 hts gX13_setWeight_X13_isSort rfl rfl rfl (by decide +kernel) ⟨Nat.le_of_ble_eq_true rfl, Nat.le_of_ble_eq_true rfl⟩) hl.1 rfl rfl (Nat.le_of_ble_eq_true rfl) dX13_setWeight_9 ⟨Nat.zero_le _, Nat.zero_le _⟩) rfl rfl (fun H locs hW => ?_)
    refine lv_if_eq (tgt := 24) E.1 E.2.1 dX13_setWeight_12 (by decide) (fun c12 => ?_) (fun c12 => ?_)
    · have h := it c12 h
      exact J24  H locs ls h hW (lv_sub hl [0, 1, 2, 3] rfl)
    · have h := ie c12 h
      refine lv_iload_n E.1 E.2.1 dX13_setWeight_15 rfl (lv_at hl 3 rfl) ?_
      refine lv_iconst (v := 0) E.1 E.2.1 dX13_setWeight_16 (by decide) ?_
      refine lv_iconst (v := 3) E.1 E.2.1 dX13_setWeight_17 (by decide) ?_
      obtain ⟨r18, hc, h⟩ := bx h
      refine goI (world' := (w_X13 g h0 h1 h2 h3 h4 h5 h6 h7 h8 h9 h10 h11 h12 h13 x_g x_kept x_saved x_before x_was x_region x_parts x_next x_ways x_more x_whole x_isSaved x_changes x_isWithin x_code x_input x_length x_fault x_failed x_signs x_signMany x_at x_told x_toldMany)) hW hA (is := []) rfl (goS (rest := [.ref h0]) E hK hW [] rfl rfl (c_X13_in l g a3 0 3 (hf := hc) H.size) (va_cwS 3 hts gX13_setWeight_X13_in rfl rfl rfl (by decide +kernel) ⟨Nat.le_of_ble_eq_true rfl, Nat.le_of_ble_eq_true rfl⟩) hl.1 rfl rfl (Nat.le_of_ble_eq_true rfl) dX13_setWeight_18 ⟨Nat.zero_le _, Nat.zero_le _⟩) rfl rfl (fun H locs hW => ?_)
      refine lv_if_ne (tgt := 28) E.1 E.2.1 dX13_setWeight_21 (by decide) (fun c21 => ?_) (fun c21 => ?_)
      · have h := ie c21 h
        refine lv_aload_n E.1 E.2.1 dX13_setWeight_28 rfl (lv_at hl 0 rfl) ?_
        refine lv_iload_n E.1 E.2.1 dX13_setWeight_29 rfl (lv_at hl 1 rfl) ?_
        obtain ⟨r30, hc, h⟩ := bx h
        refine goI (world' := (w_X13 g h0 h1 h2 h3 h4 h5 h6 h7 h8 h9 h10 h11 h12 h13 x_g x_kept x_saved x_before x_was x_region x_parts x_next x_ways x_more x_whole x_isSaved x_changes x_isWithin x_code x_input x_length x_fault x_failed x_signs x_signMany x_at x_told x_toldMany)) hW hA (is := [0, 1, 2, 3, 4, 5, 6, 7, 8, 9, 10, 11, 12, 13]) rfl (goV (rest := [.ref h0]) E hK hW [0, 1, 2, 3, 4, 5, 6, 7, 8, 9, 10, 11, 12, 13] rfl rfl (c_X13_sum l g h0 h1 h2 h3 h4 h5 h6 h7 h8 h9 h10 h11 h12 h13 x_g x_kept x_saved x_before x_was x_region x_parts x_next x_ways x_more x_whole x_isSaved x_changes x_isWithin x_code x_input x_length x_fault x_failed x_signs x_signMany x_at x_told x_toldMany a1 (hf := hc) H.size) (cwV 1 hts gX13_setWeight_X13_sum rfl rfl rfl (by decide +kernel) ⟨Nat.le_of_ble_eq_true rfl, Nat.le_of_ble_eq_true rfl⟩) 0 rfl rfl rfl hl.1 rfl rfl (Nat.le_of_ble_eq_true rfl) dX13_setWeight_30 ⟨Nat.zero_le _, Nat.zero_le _⟩) rfl rfl (fun H locs hW => ?_)
        refine lv_aload_n E.1 E.2.1 dX13_setWeight_33 rfl (lv_at hl 0 rfl) ?_
        refine lv_iload_n E.1 E.2.1 dX13_setWeight_34 rfl (lv_at hl 1 rfl) ?_
        refine lv_iload_n E.1 E.2.1 dX13_setWeight_35 rfl (lv_at hl 2 rfl) ?_
        obtain ⟨r36, hc, h⟩ := bx h
        refine goI (world' := (w_X13 g h0 h1 h2 h3 h4 h5 h6 h7 h8 h9 h10 h11 h12 h13 x_g x_kept x_saved x_before x_was x_region x_parts x_next x_ways x_more x_whole x_isSaved x_changes x_isWithin x_code x_input x_length x_fault x_failed x_signs x_signMany x_at x_told x_toldMany)) hW hA (is := [0, 1, 2, 3, 4, 5, 6, 7, 8, 9, 10, 11, 12, 13]) rfl (goV (rest := [.int r30, .ref h0]) E hK hW [0, 1, 2, 3, 4, 5, 6, 7, 8, 9, 10, 11, 12, 13] rfl rfl (c_X13_weighs l g h0 h1 h2 h3 h4 h5 h6 h7 h8 h9 h10 h11 h12 h13 x_g x_kept x_saved x_before x_was x_region x_parts x_next x_ways x_more x_whole x_isSaved x_changes x_isWithin x_code x_input x_length x_fault x_failed x_signs x_signMany x_at x_told x_toldMany a1 a2 (hf := hc) H.size) (cwV 2 hts gX13_setWeight_X13_weighs rfl rfl rfl (by decide +kernel) ⟨Nat.le_of_ble_eq_true rfl, Nat.le_of_ble_eq_true rfl⟩) 0 rfl rfl rfl hl.1 rfl rfl (Nat.le_of_ble_eq_true rfl) dX13_setWeight_36 ⟨Nat.zero_le _, Nat.zero_le _⟩) rfl rfl (fun H locs hW => ?_)
        refine lv_isub E.1 E.2.1 dX13_setWeight_39 ?_
        refine lv_iload_n E.1 E.2.1 dX13_setWeight_40 rfl (lv_at hl 3 rfl) ?_
        refine lv_iadd E.1 E.2.1 dX13_setWeight_41 ?_
        refine lv_if_ne (tgt := 49) E.1 E.2.1 dX13_setWeight_42 (by decide) (fun c42 => ?_) (fun c42 => ?_)
        · have h := ie c42 h
          refine lv_iconst (v := 0) E.1 E.2.1 dX13_setWeight_49 (by decide) ?_
          exact J50 0 H locs ls h hW (lv_sub hl [0, 1, 2, 3] rfl)
        · have h := it c42 h
          refine lv_iconst (v := 2) E.1 E.2.1 dX13_setWeight_45 (by decide) ?_
          refine lv_goto (tgt := 50) E.1 E.2.1 dX13_setWeight_46 (by decide) ?_
          exact J50 2 H locs ls h hW (lv_sub hl [0, 1, 2, 3] rfl)
      · have h := it c21 h
        exact J24  H locs ls h hW (lv_sub hl [0, 1, 2, 3] rfl)
theorem c_X13_setWeight (l : Launch) (g : GE) (h0 h1 h2 h3 h4 h5 h6 h7 h8 h9 h10 h11 h12 h13 : Nat) (x_g : Nat → Int32) (x_kept : Nat → Int32) (x_saved : Nat → Int32) (x_before : Nat → Int32) (x_was : Nat → Int32) (x_region : Nat → Int32) (x_parts : Nat → Int64) (x_next : Nat → Int64) (x_ways : Nat → Int32) (x_more : Nat → Int32) (x_whole : Int64) (x_isSaved : Int32) (x_changes : Int32) (x_isWithin : Int32) (x_code : Int32) (x_input : Nat → Int32) (x_length : Int32) (x_fault : Int32) (x_failed : Int32) (x_signs : Nat → Int32) (x_signMany : Int32) (x_at : Int32) (x_told : Nat → Int32) (x_toldMany : Int32) (a1 : Int32) (a2 : Int32) (a3 : Int32) {res : Int32 × (Nat → Int32) × (Nat → Int32) × Int32 × Int32} (hf : f_X13_setWeight x_g x_kept x_changes x_isWithin x_code a1 a2 a3 = some res) : CI l yX13_setWeight wsX13_setWeight rm_X13_setWeight g [.ref h0, .int a1, .int a2, .int a3] (w_X13 g h0 h1 h2 h3 h4 h5 h6 h7 h8 h9 h10 h11 h12 h13 x_g x_kept x_saved x_before x_was x_region x_parts x_next x_ways x_more x_whole x_isSaved x_changes x_isWithin x_code x_input x_length x_fault x_failed x_signs x_signMany x_at x_told x_toldMany) (w_X13 g h0 h1 h2 h3 h4 h5 h6 h7 h8 h9 h10 h11 h12 h13 res.2.1 res.2.2.1 x_saved x_before x_was x_region x_parts x_next x_ways x_more x_whole x_isSaved res.2.2.2.1 x_isWithin res.2.2.2.2 x_input x_length x_fault x_failed x_signs x_signMany x_at x_told x_toldMany) res.1 :=
  mkI (cc := cX13_setWeight) (maxL := 5) (by decide) rfl (Nat.le_of_ble_eq_true rfl) (fun p e s m args below meth c A H locs ls E hK hA hW hl => k_X13_setWeight_0 E hK hA hf hW hl)

/-! PaperStormModel.weightOf(II)I X13_weightOf -/
abbrev rm_X13_weightOf : Room := { frames := 2, cells := 0, slots := 0, locals := 42 }
noncomputable def f_X13_weightOf (x_g : Nat → Int32) (x_code : Int32) (a1 : Int32) (a2 : Int32) : Option (Int32 × Int32) :=
  jo (fun (s1_20 : Int32) => jo (fun (x_code_36 : Int32) (s0_36 : Int32) => some (s0_36, x_code_36)) (fun j36 => (f_X13_fails x_code s1_20).bind fun r20 => if r20.1 = 0 then (f_X13_weighs x_g a1 a2).bind fun r33 => j36 r20.2 r33 else j36 r20.2 0)) (fun j20 => jo (j20 1) (fun j19 => (f_X13_isSort a1).bind fun r2 => if r2 = 0 then j19 else (f_X13_isSort a2).bind fun r9 => if r9 = 0 then j19 else j20 0))
abbrev G_X13_weightOf (p : Program) (l : Launch) (e : Env) (s : State) (m : MethodId) (args : Array Value) (below : List Frame) (meth : Method) (c : Code) (g : GE) (A : Nat → Prop) (h0 h1 h2 h3 h4 h5 h6 h7 h8 h9 h10 h11 h12 h13 : Nat) (x_g : Nat → Int32) (x_kept : Nat → Int32) (x_saved : Nat → Int32) (x_before : Nat → Int32) (x_was : Nat → Int32) (x_region : Nat → Int32) (x_parts : Nat → Int64) (x_next : Nat → Int64) (x_ways : Nat → Int32) (x_more : Nat → Int32) (x_whole : Int64) (x_isSaved : Int32) (x_changes : Int32) (x_isWithin : Int32) (x_input : Nat → Int32) (x_length : Int32) (x_fault : Int32) (x_failed : Int32) (x_signs : Nat → Int32) (x_signMany : Int32) (x_at : Int32) (x_told : Nat → Int32) (x_toldMany : Int32) (res : Int32 × Int32) (H : Heap) (locs : List Loc) (pc : Nat) (ls : Array Slot) (st : List Value) : Prop := W p l e (headSpec wsX13_weightOf rm_X13_weightOf).room s m args below meth c H locs 0 0 (MQ below (PoI g A (w_X13 g h0 h1 h2 h3 h4 h5 h6 h7 h8 h9 h10 h11 h12 h13 x_g x_kept x_saved x_before x_was x_region x_parts x_next x_ways x_more x_whole x_isSaved x_changes x_isWithin res.2 x_input x_length x_fault x_failed x_signs x_signMany x_at x_told x_toldMany) res.1) args s 0 0 A) (F0 m pc ls st)
set_option maxHeartbeats 4000000 in
set_option maxRecDepth 100000 in
theorem k_X13_weightOf_0 {p : Program} {l : Launch} {e : Env} {s : State} {m : MethodId} {args : Array Value} {below : List Frame} {meth : Method} {c : Code} {g : GE} {A : Nat → Prop} {h0 h1 h2 h3 h4 h5 h6 h7 h8 h9 h10 h11 h12 h13 : Nat} {x_g : Nat → Int32} {x_kept : Nat → Int32} {x_saved : Nat → Int32} {x_before : Nat → Int32} {x_was : Nat → Int32} {x_region : Nat → Int32} {x_parts : Nat → Int64} {x_next : Nat → Int64} {x_ways : Nat → Int32} {x_more : Nat → Int32} {x_whole : Int64} {x_isSaved : Int32} {x_changes : Int32} {x_isWithin : Int32} {x_code : Int32} {x_input : Nat → Int32} {x_length : Int32} {x_fault : Int32} {x_failed : Int32} {x_signs : Nat → Int32} {x_signMany : Int32} {x_at : Int32} {x_told : Nat → Int32} {x_toldMany : Int32} {res : Int32 × Int32} {H : Heap} {locs : List Loc} {ls : Array Slot} {a1 : Int32} {a2 : Int32}
    (E : En cX13_weightOf RX13 wsX13_weightOf 3 (some .int) p s m args meth c) (hK : KK g s) (hA : ∀ q, s.heap.size ≤ q → A q) (h : f_X13_weightOf x_g x_code a1 a2 = some res) (hW : Wo g A s H locs (w_X13 g h0 h1 h2 h3 h4 h5 h6 h7 h8 h9 h10 h11 h12 h13 x_g x_kept x_saved x_before x_was x_region x_parts x_next x_ways x_more x_whole x_isSaved x_changes x_isWithin x_code x_input x_length x_fault x_failed x_signs x_signMany x_at x_told x_toldMany)) (hl : lv_has ls 3 [(0, .ref h0), (1, .int a1), (2, .int a2)]) : G_X13_weightOf p l e s m args below meth c g A h0 h1 h2 h3 h4 h5 h6 h7 h8 h9 h10 h11 h12 h13 x_g x_kept x_saved x_before x_was x_region x_parts x_next x_ways x_more x_whole x_isSaved x_changes x_isWithin x_input x_length x_fault x_failed x_signs x_signMany x_at x_told x_toldMany res H locs 0 ls [] := by
  have hts := E.2.2.2.1
  unfold f_X13_weightOf at h
  obtain ⟨j20, hj20, h⟩ := jox1 h
  have J20 : ∀ (s1_20 : Int32) (H : Heap) (locs : List Loc) (ls : Array Slot), j20 s1_20 = some res → Wo g A s H locs (w_X13 g h0 h1 h2 h3 h4 h5 h6 h7 h8 h9 h10 h11 h12 h13 x_g x_kept x_saved x_before x_was x_region x_parts x_next x_ways x_more x_whole x_isSaved x_changes x_isWithin x_code x_input x_length x_fault x_failed x_signs x_signMany x_at x_told x_toldMany) → lv_has ls 3 [(0, .ref h0), (1, .int a1), (2, .int a2)] → G_X13_weightOf p l e s m args below meth c g A h0 h1 h2 h3 h4 h5 h6 h7 h8 h9 h10 h11 h12 h13 x_g x_kept x_saved x_before x_was x_region x_parts x_next x_ways x_more x_whole x_isSaved x_changes x_isWithin x_input x_length x_fault x_failed x_signs x_signMany x_at x_told x_toldMany res H locs 20 ls [.int s1_20, .ref h0] := by
    intro s1_20 H locs ls h hW hl
    rw [hj20] at h
    obtain ⟨j36, hj36, h⟩ := jox2 h
    have J36 : ∀ (x_code_36 : Int32) (s0_36 : Int32) (H : Heap) (locs : List Loc) (ls : Array Slot), j36 x_code_36 s0_36 = some res → Wo g A s H locs (w_X13 g h0 h1 h2 h3 h4 h5 h6 h7 h8 h9 h10 h11 h12 h13 x_g x_kept x_saved x_before x_was x_region x_parts x_next x_ways x_more x_whole x_isSaved x_changes x_isWithin x_code_36 x_input x_length x_fault x_failed x_signs x_signMany x_at x_told x_toldMany) → lv_has ls 3 [] → G_X13_weightOf p l e s m args below meth c g A h0 h1 h2 h3 h4 h5 h6 h7 h8 h9 h10 h11 h12 h13 x_g x_kept x_saved x_before x_was x_region x_parts x_next x_ways x_more x_whole x_isSaved x_changes x_isWithin x_input x_length x_fault x_failed x_signs x_signMany x_at x_told x_toldMany res H locs 36 ls [.int s0_36] := by
      intro x_code_36 s0_36 H locs ls h hW hl
      rw [hj36] at h
      obtain rfl := Option.some.inj h
      exact endI E rfl hW dX13_weightOf_36
    obtain ⟨r20, hc, h⟩ := bx h
    refine goI (world' := (w_X13 g h0 h1 h2 h3 h4 h5 h6 h7 h8 h9 h10 h11 h12 h13 x_g x_kept x_saved x_before x_was x_region x_parts x_next x_ways x_more x_whole x_isSaved x_changes x_isWithin r20.2 x_input x_length x_fault x_failed x_signs x_signMany x_at x_told x_toldMany)) hW hA (is := [0, 1, 2, 3, 4, 5, 6, 7, 8, 9, 10, 11, 12, 13]) rfl (goV (rest := []) E hK hW [0, 1, 2, 3, 4, 5, 6, 7, 8, 9, 10, 11, 12, 13] rfl rfl (c_X13_fails l g h0 h1 h2 h3 h4 h5 h6 h7 h8 h9 h10 h11 h12 h13 x_g x_kept x_saved x_before x_was x_region x_parts x_next x_ways x_more x_whole x_isSaved x_changes x_isWithin x_code x_input x_length x_fault x_failed x_signs x_signMany x_at x_told x_toldMany s1_20 (hf := hc) H.size) (cwV 1 hts gX13_weightOf_X13_fails rfl rfl rfl (by decide +kernel) ⟨Nat.le_of_ble_eq_true rfl, Nat.le_of_ble_eq_true rfl⟩) 0 rfl rfl rfl hl.1 rfl rfl (Nat.le_of_ble_eq_true rfl) dX13_weightOf_20 ⟨Nat.zero_le _, Nat.zero_le _⟩) rfl rfl (fun H locs hW => ?_)
    refine lv_if_eq (tgt := 30) E.1 E.2.1 dX13_weightOf_23 (by decide) (fun c23 => ?_) (fun c23 => ?_)
    · have h := it c23 h
      refine lv_aload_n E.1 E.2.1 dX13_weightOf_30 rfl (lv_at hl 0 rfl) ?_
      refine lv_iload_n E.1 E.2.1 dX13_weightOf_31 rfl (lv_at hl 1 rfl) ?_
      refine lv_iload_n E.1 E.2.1 dX13_weightOf_32 rfl (lv_at hl 2 rfl) ?_
      obtain ⟨r33, hc, h⟩ := bx h
      refine goI (world' := (w_X13 g h0 h1 h2 h3 h4 h5 h6 h7 h8 h9 h10 h11 h12 h13 x_g x_kept x_saved x_before x_was x_region x_parts x_next x_ways x_more x_whole x_isSaved x_changes x_isWithin r20.2 x_input x_length x_fault x_failed x_signs x_signMany x_at x_told x_toldMany)) hW hA (is := [0, 1, 2, 3, 4, 5, 6, 7, 8, 9, 10, 11, 12, 13]) rfl (goV (rest := []) E hK hW [0, 1, 2, 3, 4, 5, 6, 7, 8, 9, 10, 11, 12, 13] rfl rfl (c_X13_weighs l g h0 h1 h2 h3 h4 h5 h6 h7 h8 h9 h10 h11 h12 h13 x_g x_kept x_saved x_before x_was x_region x_parts x_next x_ways x_more x_whole x_isSaved x_changes x_isWithin r20.2 x_input x_length x_fault x_failed x_signs x_signMany x_at x_told x_toldMany a1 a2 (hf := hc) H.size) (cwV 2 hts gX13_weightOf_X13_weighs rfl rfl rfl (by decide +kernel) ⟨Nat.le_of_ble_eq_true rfl, Nat.le_of_ble_eq_true rfl⟩) 0 rfl rfl rfl hl.1 rfl rfl (Nat.le_of_ble_eq_true rfl) dX13_weightOf_33 ⟨Nat.zero_le _, Nat.zero_le _⟩) rfl rfl (fun H locs hW => ?_)
      exact J36 r20.2 r33 H locs ls h hW (lv_sub hl [] rfl)
    · have h := ie c23 h
      refine lv_iconst (v := 0) E.1 E.2.1 dX13_weightOf_26 (by decide) ?_
      refine lv_goto (tgt := 36) E.1 E.2.1 dX13_weightOf_27 (by decide) ?_
      exact J36 r20.2 0 H locs ls h hW (lv_sub hl [] rfl)
  obtain ⟨j19, hj19, h⟩ := jox0 h
  have J19 : ∀ (H : Heap) (locs : List Loc) (ls : Array Slot), j19 = some res → Wo g A s H locs (w_X13 g h0 h1 h2 h3 h4 h5 h6 h7 h8 h9 h10 h11 h12 h13 x_g x_kept x_saved x_before x_was x_region x_parts x_next x_ways x_more x_whole x_isSaved x_changes x_isWithin x_code x_input x_length x_fault x_failed x_signs x_signMany x_at x_told x_toldMany) → lv_has ls 3 [(0, .ref h0), (1, .int a1), (2, .int a2)] → G_X13_weightOf p l e s m args below meth c g A h0 h1 h2 h3 h4 h5 h6 h7 h8 h9 h10 h11 h12 h13 x_g x_kept x_saved x_before x_was x_region x_parts x_next x_ways x_more x_whole x_isSaved x_changes x_isWithin x_input x_length x_fault x_failed x_signs x_signMany x_at x_told x_toldMany res H locs 19 ls [.ref h0] := by
    intro H locs ls h hW hl
    rw [hj19] at h
    refine lv_iconst (v := 1) E.1 E.2.1 dX13_weightOf_19 (by decide) ?_
    exact J20 1 H locs ls h hW (lv_sub hl [0, 1, 2] rfl)
  refine lv_aload_n E.1 E.2.1 dX13_weightOf_0 rfl (lv_at hl 0 rfl) ?_
  refine lv_iload_n E.1 E.2.1 dX13_weightOf_1 rfl (lv_at hl 1 rfl) ?_
  obtain ⟨r2, hc, h⟩ := bx h
  refine goI (world' := (w_X13 g h0 h1 h2 h3 h4 h5 h6 h7 h8 h9 h10 h11 h12 h13 x_g x_kept x_saved x_before x_was x_region x_parts x_next x_ways x_more x_whole x_isSaved x_changes x_isWithin x_code x_input x_length x_fault x_failed x_signs x_signMany x_at x_told x_toldMany)) hW hA (is := []) rfl (goS (rest := [.ref h0]) E hK hW [] rfl rfl (c_X13_isSort l g a1 (hf := hc) H.size) (va_cwS 1 hts gX13_weightOf_X13_isSort rfl rfl rfl (by decide +kernel) ⟨Nat.le_of_ble_eq_true rfl, Nat.le_of_ble_eq_true rfl⟩) hl.1 rfl rfl (Nat.le_of_ble_eq_true rfl) dX13_weightOf_2 ⟨Nat.zero_le _, Nat.zero_le _⟩) rfl rfl (fun H locs hW => ?_)
  refine lv_if_eq (tgt := 19) E.1 E.2.1 dX13_weightOf_5 (by decide) (fun c5 => ?_) (fun c5 => ?_)
  · have h := it c5 h
    exact J19  H locs ls h hW (lv_sub hl [0, 1, 2] rfl)
  · have h := ie c5 h
    refine lv_iload_n E.1 E.2.1 dX13_weightOf_8 rfl (lv_at hl 2 rfl) ?_
    obtain ⟨r9, hc, h⟩ := bx h
    refine goI (world' := (w_X13 g h0 h1 h2 h3 h4 h5 h6 h7 h8 h9 h10 h11 h12 h13 x_g x_kept x_saved x_before x_was x_region x_parts x_next x_ways x_more x_whole x_isSaved x_changes x_isWithin x_code x_input x_length x_fault x_failed x_signs x_signMany x_at x_told x_toldMany)) hW hA (is := []) rfl (goS (rest := [.ref h0]) E hK hW [] rfl rfl (c_X13_isSort l g a2 (hf := hc) H.size) (va_cwS 1 hts gX13_weightOf_X13_isSort rfl rfl rfl (by decide +kernel) ⟨Nat.le_of_ble_eq_true rfl, Nat.le_of_ble_eq_true rfl⟩) hl.1 rfl rfl (Nat.le_of_ble_eq_true rfl) dX13_weightOf_9 ⟨Nat.zero_le _, Nat.zero_le _⟩) rfl rfl (fun H locs hW => ?_)
    refine lv_if_eq (tgt := 19) E.1 E.2.1 dX13_weightOf_12 (by decide) (fun c12 => ?_) (fun c12 => ?_)
    · have h := it c12 h
      exact J19  H locs ls h hW (lv_sub hl [0, 1, 2] rfl)
    · have h := ie c12 h
      refine lv_iconst (v := 0) E.1 E.2.1 dX13_weightOf_15 (by decide) ?_
      refine lv_goto (tgt := 20) E.1 E.2.1 dX13_weightOf_16 (by decide) ?_
      exact J20 0 H locs ls h hW (lv_sub hl [0, 1, 2] rfl)
theorem c_X13_weightOf (l : Launch) (g : GE) (h0 h1 h2 h3 h4 h5 h6 h7 h8 h9 h10 h11 h12 h13 : Nat) (x_g : Nat → Int32) (x_kept : Nat → Int32) (x_saved : Nat → Int32) (x_before : Nat → Int32) (x_was : Nat → Int32) (x_region : Nat → Int32) (x_parts : Nat → Int64) (x_next : Nat → Int64) (x_ways : Nat → Int32) (x_more : Nat → Int32) (x_whole : Int64) (x_isSaved : Int32) (x_changes : Int32) (x_isWithin : Int32) (x_code : Int32) (x_input : Nat → Int32) (x_length : Int32) (x_fault : Int32) (x_failed : Int32) (x_signs : Nat → Int32) (x_signMany : Int32) (x_at : Int32) (x_told : Nat → Int32) (x_toldMany : Int32) (a1 : Int32) (a2 : Int32) {res : Int32 × Int32} (hf : f_X13_weightOf x_g x_code a1 a2 = some res) : CI l yX13_weightOf wsX13_weightOf rm_X13_weightOf g [.ref h0, .int a1, .int a2] (w_X13 g h0 h1 h2 h3 h4 h5 h6 h7 h8 h9 h10 h11 h12 h13 x_g x_kept x_saved x_before x_was x_region x_parts x_next x_ways x_more x_whole x_isSaved x_changes x_isWithin x_code x_input x_length x_fault x_failed x_signs x_signMany x_at x_told x_toldMany) (w_X13 g h0 h1 h2 h3 h4 h5 h6 h7 h8 h9 h10 h11 h12 h13 x_g x_kept x_saved x_before x_was x_region x_parts x_next x_ways x_more x_whole x_isSaved x_changes x_isWithin res.2 x_input x_length x_fault x_failed x_signs x_signMany x_at x_told x_toldMany) res.1 :=
  mkI (cc := cX13_weightOf) (maxL := 3) (by decide) rfl (Nat.le_of_ble_eq_true rfl) (fun p e s m args below meth c A H locs ls E hK hA hW hl => k_X13_weightOf_0 E hK hA hf hW hl)

/-! PaperStormModel.weather()I X13_weather -/
abbrev rm_X13_weather : Room := { frames := 0, cells := 0, slots := 0, locals := 0 }
theorem in_X13_weather_X13 : ∀ w ∈ wsX130, w ∈ wsX13_weather := by decide +kernel
theorem lk_X13_weather_58 : Cond.fieldLink RX13 58 "PaperStormModel" "code" "I" ∈ wsX13_weather := by decide +kernel
theorem lk_X13_weather_7 : Cond.fieldLink RX13 7 "PaperStormModel" "g" "[I" ∈ wsX13_weather := by decide +kernel
noncomputable def f_X13_weather (x_g : Nat → Int32) (x_code : Int32) : Option (Int32 × Int32) :=
  some ((x_g (1 : Int32).toNatClampNeg), 0)
abbrev G_X13_weather (p : Program) (l : Launch) (e : Env) (s : State) (m : MethodId) (args : Array Value) (below : List Frame) (meth : Method) (c : Code) (g : GE) (A : Nat → Prop) (h0 h1 h2 h3 h4 h5 h6 h7 h8 h9 h10 h11 h12 h13 : Nat) (x_g : Nat → Int32) (x_kept : Nat → Int32) (x_saved : Nat → Int32) (x_before : Nat → Int32) (x_was : Nat → Int32) (x_region : Nat → Int32) (x_parts : Nat → Int64) (x_next : Nat → Int64) (x_ways : Nat → Int32) (x_more : Nat → Int32) (x_whole : Int64) (x_isSaved : Int32) (x_changes : Int32) (x_isWithin : Int32) (x_input : Nat → Int32) (x_length : Int32) (x_fault : Int32) (x_failed : Int32) (x_signs : Nat → Int32) (x_signMany : Int32) (x_at : Int32) (x_told : Nat → Int32) (x_toldMany : Int32) (res : Int32 × Int32) (H : Heap) (locs : List Loc) (pc : Nat) (ls : Array Slot) (st : List Value) : Prop := W p l e (headSpec wsX13_weather rm_X13_weather).room s m args below meth c H locs 0 0 (MQ below (PoI g A (w_X13 g h0 h1 h2 h3 h4 h5 h6 h7 h8 h9 h10 h11 h12 h13 x_g x_kept x_saved x_before x_was x_region x_parts x_next x_ways x_more x_whole x_isSaved x_changes x_isWithin res.2 x_input x_length x_fault x_failed x_signs x_signMany x_at x_told x_toldMany) res.1) args s 0 0 A) (F0 m pc ls st)
set_option maxHeartbeats 4000000 in
set_option maxRecDepth 100000 in
theorem k_X13_weather_0 {p : Program} {l : Launch} {e : Env} {s : State} {m : MethodId} {args : Array Value} {below : List Frame} {meth : Method} {c : Code} {g : GE} {A : Nat → Prop} {h0 h1 h2 h3 h4 h5 h6 h7 h8 h9 h10 h11 h12 h13 : Nat} {x_g : Nat → Int32} {x_kept : Nat → Int32} {x_saved : Nat → Int32} {x_before : Nat → Int32} {x_was : Nat → Int32} {x_region : Nat → Int32} {x_parts : Nat → Int64} {x_next : Nat → Int64} {x_ways : Nat → Int32} {x_more : Nat → Int32} {x_whole : Int64} {x_isSaved : Int32} {x_changes : Int32} {x_isWithin : Int32} {x_code : Int32} {x_input : Nat → Int32} {x_length : Int32} {x_fault : Int32} {x_failed : Int32} {x_signs : Nat → Int32} {x_signMany : Int32} {x_at : Int32} {x_told : Nat → Int32} {x_toldMany : Int32} {res : Int32 × Int32} {H : Heap} {locs : List Loc} {ls : Array Slot} 
    (E : En cX13_weather RX13 wsX13_weather 1 (some .int) p s m args meth c) (hK : KK g s) (hA : ∀ q, s.heap.size ≤ q → A q) (h : f_X13_weather x_g x_code = some res) (hW : Wo g A s H locs (w_X13 g h0 h1 h2 h3 h4 h5 h6 h7 h8 h9 h10 h11 h12 h13 x_g x_kept x_saved x_before x_was x_region x_parts x_next x_ways x_more x_whole x_isSaved x_changes x_isWithin x_code x_input x_length x_fault x_failed x_signs x_signMany x_at x_told x_toldMany)) (hl : lv_has ls 1 [(0, .ref h0)]) : G_X13_weather p l e s m args below meth c g A h0 h1 h2 h3 h4 h5 h6 h7 h8 h9 h10 h11 h12 h13 x_g x_kept x_saved x_before x_was x_region x_parts x_next x_ways x_more x_whole x_isSaved x_changes x_isWithin x_input x_length x_fault x_failed x_signs x_signMany x_at x_told x_toldMany res H locs 0 ls [] := by
  have hts := E.2.2.2.1
  unfold f_X13_weather at h
  refine lv_aload_n E.1 E.2.1 dX13_weather_0 rfl (lv_at hl 0 rfl) ?_
  refine lv_iconst (v := 0) E.1 E.2.1 dX13_weather_1 (by decide) ?_
  refine wPut (world' := (w_X13 g h0 h1 h2 h3 h4 h5 h6 h7 h8 h9 h10 h11 h12 h13 x_g x_kept x_saved x_before x_was x_region x_parts x_next x_ways x_more x_whole x_isSaved x_changes x_isWithin 0 x_input x_length x_fault x_failed x_signs x_signMany x_at x_told x_toldMany)) E hK in_X13_weather_X13 tyX13 tyX13_ok nmX13 hW 14 lk_X13_weather_58 0 rfl rfl (by decide) rfl rfl rfl rfl rfl (Nat.le_of_ble_eq_true rfl) dX13_weather_2 rfl (fun H locs hW => ?_)
  refine lv_aload_n E.1 E.2.1 dX13_weather_5 rfl (lv_at hl 0 rfl) ?_
  refine wGet (v := .ref h1) E hK in_X13_weather_X13 hW 0 lk_X13_weather_7 0 rfl rfl (by decide) rfl rfl dX13_weather_6 ?_
  refine lv_iconst (v := 1) E.1 E.2.1 dX13_weather_9 (by decide) ?_
  refine wIald E hK hW 1 rfl (by decide) dX13_weather_10 ?_
  obtain rfl := Option.some.inj h
  exact endI E rfl hW dX13_weather_11
theorem c_X13_weather (l : Launch) (g : GE) (h0 h1 h2 h3 h4 h5 h6 h7 h8 h9 h10 h11 h12 h13 : Nat) (x_g : Nat → Int32) (x_kept : Nat → Int32) (x_saved : Nat → Int32) (x_before : Nat → Int32) (x_was : Nat → Int32) (x_region : Nat → Int32) (x_parts : Nat → Int64) (x_next : Nat → Int64) (x_ways : Nat → Int32) (x_more : Nat → Int32) (x_whole : Int64) (x_isSaved : Int32) (x_changes : Int32) (x_isWithin : Int32) (x_code : Int32) (x_input : Nat → Int32) (x_length : Int32) (x_fault : Int32) (x_failed : Int32) (x_signs : Nat → Int32) (x_signMany : Int32) (x_at : Int32) (x_told : Nat → Int32) (x_toldMany : Int32) {res : Int32 × Int32} (hf : f_X13_weather x_g x_code = some res) : CI l yX13_weather wsX13_weather rm_X13_weather g [.ref h0] (w_X13 g h0 h1 h2 h3 h4 h5 h6 h7 h8 h9 h10 h11 h12 h13 x_g x_kept x_saved x_before x_was x_region x_parts x_next x_ways x_more x_whole x_isSaved x_changes x_isWithin x_code x_input x_length x_fault x_failed x_signs x_signMany x_at x_told x_toldMany) (w_X13 g h0 h1 h2 h3 h4 h5 h6 h7 h8 h9 h10 h11 h12 h13 x_g x_kept x_saved x_before x_was x_region x_parts x_next x_ways x_more x_whole x_isSaved x_changes x_isWithin res.2 x_input x_length x_fault x_failed x_signs x_signMany x_at x_told x_toldMany) res.1 :=
  mkI (cc := cX13_weather) (maxL := 1) (by decide) rfl (Nat.le_of_ble_eq_true rfl) (fun p e s m args below meth c A H locs ls E hK hA hW hl => k_X13_weather_0 E hK hA hf hW hl)

/-! PaperStormModel.day()I X13_day -/
abbrev rm_X13_day : Room := { frames := 0, cells := 0, slots := 0, locals := 0 }
theorem in_X13_day_X13 : ∀ w ∈ wsX130, w ∈ wsX13_day := by decide +kernel
theorem lk_X13_day_58 : Cond.fieldLink RX13 58 "PaperStormModel" "code" "I" ∈ wsX13_day := by decide +kernel
theorem lk_X13_day_7 : Cond.fieldLink RX13 7 "PaperStormModel" "g" "[I" ∈ wsX13_day := by decide +kernel
noncomputable def f_X13_day (x_g : Nat → Int32) (x_code : Int32) : Option (Int32 × Int32) :=
  some ((x_g (0 : Int32).toNatClampNeg), 0)
abbrev G_X13_day (p : Program) (l : Launch) (e : Env) (s : State) (m : MethodId) (args : Array Value) (below : List Frame) (meth : Method) (c : Code) (g : GE) (A : Nat → Prop) (h0 h1 h2 h3 h4 h5 h6 h7 h8 h9 h10 h11 h12 h13 : Nat) (x_g : Nat → Int32) (x_kept : Nat → Int32) (x_saved : Nat → Int32) (x_before : Nat → Int32) (x_was : Nat → Int32) (x_region : Nat → Int32) (x_parts : Nat → Int64) (x_next : Nat → Int64) (x_ways : Nat → Int32) (x_more : Nat → Int32) (x_whole : Int64) (x_isSaved : Int32) (x_changes : Int32) (x_isWithin : Int32) (x_input : Nat → Int32) (x_length : Int32) (x_fault : Int32) (x_failed : Int32) (x_signs : Nat → Int32) (x_signMany : Int32) (x_at : Int32) (x_told : Nat → Int32) (x_toldMany : Int32) (res : Int32 × Int32) (H : Heap) (locs : List Loc) (pc : Nat) (ls : Array Slot) (st : List Value) : Prop := W p l e (headSpec wsX13_day rm_X13_day).room s m args below meth c H locs 0 0 (MQ below (PoI g A (w_X13 g h0 h1 h2 h3 h4 h5 h6 h7 h8 h9 h10 h11 h12 h13 x_g x_kept x_saved x_before x_was x_region x_parts x_next x_ways x_more x_whole x_isSaved x_changes x_isWithin res.2 x_input x_length x_fault x_failed x_signs x_signMany x_at x_told x_toldMany) res.1) args s 0 0 A) (F0 m pc ls st)
set_option maxHeartbeats 4000000 in
set_option maxRecDepth 100000 in
theorem k_X13_day_0 {p : Program} {l : Launch} {e : Env} {s : State} {m : MethodId} {args : Array Value} {below : List Frame} {meth : Method} {c : Code} {g : GE} {A : Nat → Prop} {h0 h1 h2 h3 h4 h5 h6 h7 h8 h9 h10 h11 h12 h13 : Nat} {x_g : Nat → Int32} {x_kept : Nat → Int32} {x_saved : Nat → Int32} {x_before : Nat → Int32} {x_was : Nat → Int32} {x_region : Nat → Int32} {x_parts : Nat → Int64} {x_next : Nat → Int64} {x_ways : Nat → Int32} {x_more : Nat → Int32} {x_whole : Int64} {x_isSaved : Int32} {x_changes : Int32} {x_isWithin : Int32} {x_code : Int32} {x_input : Nat → Int32} {x_length : Int32} {x_fault : Int32} {x_failed : Int32} {x_signs : Nat → Int32} {x_signMany : Int32} {x_at : Int32} {x_told : Nat → Int32} {x_toldMany : Int32} {res : Int32 × Int32} {H : Heap} {locs : List Loc} {ls : Array Slot} 
    (E : En cX13_day RX13 wsX13_day 1 (some .int) p s m args meth c) (hK : KK g s) (hA : ∀ q, s.heap.size ≤ q → A q) (h : f_X13_day x_g x_code = some res) (hW : Wo g A s H locs (w_X13 g h0 h1 h2 h3 h4 h5 h6 h7 h8 h9 h10 h11 h12 h13 x_g x_kept x_saved x_before x_was x_region x_parts x_next x_ways x_more x_whole x_isSaved x_changes x_isWithin x_code x_input x_length x_fault x_failed x_signs x_signMany x_at x_told x_toldMany)) (hl : lv_has ls 1 [(0, .ref h0)]) : G_X13_day p l e s m args below meth c g A h0 h1 h2 h3 h4 h5 h6 h7 h8 h9 h10 h11 h12 h13 x_g x_kept x_saved x_before x_was x_region x_parts x_next x_ways x_more x_whole x_isSaved x_changes x_isWithin x_input x_length x_fault x_failed x_signs x_signMany x_at x_told x_toldMany res H locs 0 ls [] := by
  have hts := E.2.2.2.1
  unfold f_X13_day at h
  refine lv_aload_n E.1 E.2.1 dX13_day_0 rfl (lv_at hl 0 rfl) ?_
  refine lv_iconst (v := 0) E.1 E.2.1 dX13_day_1 (by decide) ?_
  refine wPut (world' := (w_X13 g h0 h1 h2 h3 h4 h5 h6 h7 h8 h9 h10 h11 h12 h13 x_g x_kept x_saved x_before x_was x_region x_parts x_next x_ways x_more x_whole x_isSaved x_changes x_isWithin 0 x_input x_length x_fault x_failed x_signs x_signMany x_at x_told x_toldMany)) E hK in_X13_day_X13 tyX13 tyX13_ok nmX13 hW 14 lk_X13_day_58 0 rfl rfl (by decide) rfl rfl rfl rfl rfl (Nat.le_of_ble_eq_true rfl) dX13_day_2 rfl (fun H locs hW => ?_)
  refine lv_aload_n E.1 E.2.1 dX13_day_5 rfl (lv_at hl 0 rfl) ?_
  refine wGet (v := .ref h1) E hK in_X13_day_X13 hW 0 lk_X13_day_7 0 rfl rfl (by decide) rfl rfl dX13_day_6 ?_
  refine lv_iconst (v := 0) E.1 E.2.1 dX13_day_9 (by decide) ?_
  refine wIald E hK hW 1 rfl (by decide) dX13_day_10 ?_
  obtain rfl := Option.some.inj h
  exact endI E rfl hW dX13_day_11
theorem c_X13_day (l : Launch) (g : GE) (h0 h1 h2 h3 h4 h5 h6 h7 h8 h9 h10 h11 h12 h13 : Nat) (x_g : Nat → Int32) (x_kept : Nat → Int32) (x_saved : Nat → Int32) (x_before : Nat → Int32) (x_was : Nat → Int32) (x_region : Nat → Int32) (x_parts : Nat → Int64) (x_next : Nat → Int64) (x_ways : Nat → Int32) (x_more : Nat → Int32) (x_whole : Int64) (x_isSaved : Int32) (x_changes : Int32) (x_isWithin : Int32) (x_code : Int32) (x_input : Nat → Int32) (x_length : Int32) (x_fault : Int32) (x_failed : Int32) (x_signs : Nat → Int32) (x_signMany : Int32) (x_at : Int32) (x_told : Nat → Int32) (x_toldMany : Int32) {res : Int32 × Int32} (hf : f_X13_day x_g x_code = some res) : CI l yX13_day wsX13_day rm_X13_day g [.ref h0] (w_X13 g h0 h1 h2 h3 h4 h5 h6 h7 h8 h9 h10 h11 h12 h13 x_g x_kept x_saved x_before x_was x_region x_parts x_next x_ways x_more x_whole x_isSaved x_changes x_isWithin x_code x_input x_length x_fault x_failed x_signs x_signMany x_at x_told x_toldMany) (w_X13 g h0 h1 h2 h3 h4 h5 h6 h7 h8 h9 h10 h11 h12 h13 x_g x_kept x_saved x_before x_was x_region x_parts x_next x_ways x_more x_whole x_isSaved x_changes x_isWithin res.2 x_input x_length x_fault x_failed x_signs x_signMany x_at x_told x_toldMany) res.1 :=
  mkI (cc := cX13_day) (maxL := 1) (by decide) rfl (Nat.le_of_ble_eq_true rfl) (fun p e s m args below meth c A H locs ls E hK hA hW hl => k_X13_day_0 E hK hA hf hW hl)

/-! PaperStormModel.shared(JJ)J X13_shared -/
abbrev rm_X13_shared : Room := { frames := 0, cells := 0, slots := 0, locals := 0 }
noncomputable def f_X13_shared_6 (z31 : Int64 → Option (Int64)) : Nat → Int64 → Int64 → Option (Int64)
  | 0, _, _ => none
  | n + 1, l4_6, l6_6 => if (lg_cmp l6_6 0) ≤ 0 then z31 l4_6 else if l6_6 = 0 then none else f_X13_shared_6 z31 n l6_6 (l4_6 - l4_6 / l6_6 * l6_6)
noncomputable def f_X13_shared (a0 : Int64) (a2 : Int64) : Option (Int64) :=
  f_X13_shared_6 (fun l4_31e => some (l4_31e)) 1000 a0 a2
abbrev G_X13_shared (p : Program) (l : Launch) (e : Env) (s : State) (m : MethodId) (args : Array Value) (below : List Frame) (meth : Method) (c : Code) (g : GE) (A : Nat → Prop) (res : Int64) (H : Heap) (locs : List Loc) (pc : Nat) (ls : Array Slot) (st : List Value) : Prop := W p l e (headSpec wsX13_shared rm_X13_shared).room s m args below meth c H locs 0 0 (MQ below (PoJ g A ([] : va_W) res) args s 0 0 A) (F0 m pc ls st)
set_option maxHeartbeats 4000000 in
set_option maxRecDepth 100000 in
theorem k_X13_shared_6 {p : Program} {l : Launch} {e : Env} {s : State} {m : MethodId} {args : Array Value} {below : List Frame} {meth : Method} {c : Code} {g : GE} {A : Nat → Prop} {res : Int64} {z31 : Int64 → Option (Int64)}
    (E : En cX13_shared RX13 wsX13_shared 10 (some .long) p s m args meth c) (hK : KK g s) (hA : ∀ q, s.heap.size ≤ q → A q)
    (hz31 : ∀ (l4_31e : Int64) (H : Heap) (locs : List Loc) (ls : Array Slot), z31 l4_31e = some res → Wo g A s H locs ([] : va_W) → lv_has ls 10 [(4, .long l4_31e)] → G_X13_shared p l e s m args below meth c g A res H locs 31 ls [])
    : ∀ (n : Nat) (l4_6 : Int64) (l6_6 : Int64) (H : Heap) (locs : List Loc) (ls : Array Slot), f_X13_shared_6 z31 n l4_6 l6_6 = some res → Wo g A s H locs ([] : va_W) → lv_has ls 10 [(4, .long l4_6), (6, .long l6_6)] → G_X13_shared p l e s m args below meth c g A res H locs 6 ls [] := by
  have hts := E.2.2.2.1
  intro n
  induction n with
  | zero => intro l4_6 l6_6 H locs ls h hW hl; rw [f_X13_shared_6] at h; cases h
  | succ n ih =>
    intro l4_6 l6_6 H locs ls h hW hl
    rw [f_X13_shared_6] at h
    refine lv_lload E.1 E.2.1 dX13_shared_6 (lv_at hl 1 rfl) ?_
    refine lv_lconst (v := 0) E.1 E.2.1 dX13_shared_8 (by decide) ?_
    refine W.lcmp E.1 E.2.1 dX13_shared_9 ?_
    refine lv_if_le (tgt := 31) E.1 E.2.1 dX13_shared_10 (by decide) (fun c10 => ?_) (fun c10 => ?_)
    · have h := it c10 h
      exact hz31 l4_6 H locs ls h hW (lv_sub hl [0] rfl)
    · have h := ie c10 h
      refine lv_lload E.1 E.2.1 dX13_shared_13 (lv_at hl 0 rfl) ?_
      refine lv_lload E.1 E.2.1 dX13_shared_15 (lv_at hl 1 rfl) ?_
      obtain ⟨hn17, h⟩ := ox h
      refine lv_lrem E.1 E.2.1 dX13_shared_17 hn17 ?_
      refine lv_lstore (lv' := [(8, .long (l4_6 - l4_6 / l6_6 * l6_6)), (4, .long l4_6), (6, .long l6_6)]) E.1 E.2.1 dX13_shared_18 hl (by decide) rfl (fun ls hl => ?_)
      refine lv_lload E.1 E.2.1 dX13_shared_20 (lv_at hl 2 rfl) ?_
      refine lv_lstore (lv' := [(4, .long l6_6), (8, .long (l4_6 - l4_6 / l6_6 * l6_6)), (6, .long l6_6)]) E.1 E.2.1 dX13_shared_22 hl (by decide) rfl (fun ls hl => ?_)
      refine lv_lload E.1 E.2.1 dX13_shared_24 (lv_at hl 1 rfl) ?_
      refine lv_lstore (lv' := [(6, .long (l4_6 - l4_6 / l6_6 * l6_6)), (4, .long l6_6), (8, .long (l4_6 - l4_6 / l6_6 * l6_6))]) E.1 E.2.1 dX13_shared_26 hl (by decide) rfl (fun ls hl => ?_)
      refine lv_goto (tgt := 6) E.1 E.2.1 dX13_shared_28 (by decide) ?_
      exact ih l6_6 (l4_6 - l4_6 / l6_6 * l6_6) H locs ls h hW (lv_sub hl [1, 0] rfl)
set_option maxHeartbeats 4000000 in
set_option maxRecDepth 100000 in
theorem k_X13_shared_0 {p : Program} {l : Launch} {e : Env} {s : State} {m : MethodId} {args : Array Value} {below : List Frame} {meth : Method} {c : Code} {g : GE} {A : Nat → Prop} {res : Int64} {H : Heap} {locs : List Loc} {ls : Array Slot} {a0 : Int64} {a2 : Int64}
    (E : En cX13_shared RX13 wsX13_shared 10 (some .long) p s m args meth c) (hK : KK g s) (hA : ∀ q, s.heap.size ≤ q → A q) (h : f_X13_shared a0 a2 = some res) (hW : Wo g A s H locs ([] : va_W)) (hl : lv_has ls 10 [(0, .long a0), (2, .long a2)]) : G_X13_shared p l e s m args below meth c g A res H locs 0 ls [] := by
  have hts := E.2.2.2.1
  unfold f_X13_shared at h
  refine lv_lload_n E.1 E.2.1 dX13_shared_0 rfl (lv_at hl 0 rfl) ?_
  refine lv_lstore (lv' := [(4, .long a0), (0, .long a0), (2, .long a2)]) E.1 E.2.1 dX13_shared_1 hl (by decide) rfl (fun ls hl => ?_)
  refine lv_lload_n E.1 E.2.1 dX13_shared_3 rfl (lv_at hl 2 rfl) ?_
  refine lv_lstore (lv' := [(6, .long a2), (4, .long a0), (0, .long a0), (2, .long a2)]) E.1 E.2.1 dX13_shared_4 hl (by decide) rfl (fun ls hl => ?_)
  refine k_X13_shared_6 E hK hA ?_ 1000 a0 a2 H locs ls h hW (lv_sub hl [1, 0] rfl)
  · intro l4_31e H locs ls h hW hl
    refine lv_lload E.1 E.2.1 dX13_shared_31 (lv_at hl 0 rfl) ?_
    obtain rfl := Option.some.inj h
    exact endJ E hW dX13_shared_33
theorem c_X13_shared (l : Launch) (g : GE) (a0 : Int64) (a2 : Int64) {res : Int64} (hf : f_X13_shared a0 a2 = some res) : CJ l yX13_shared wsX13_shared rm_X13_shared g [.long a0, .long a2] ([] : va_W) ([] : va_W) res :=
  mkJ (cc := cX13_shared) (maxL := 10) (by decide) rfl (Nat.le_of_ble_eq_true rfl) (fun p e s m args below meth c A H locs ls E hK hA hW hl => k_X13_shared_0 E hK hA hf hW hl)

/-! PaperStormModel.goes(I)V X13_goes -/
abbrev rm_X13_goes : Room := { frames := 2, cells := 0, slots := 0, locals := 43 }
theorem in_X13_goes_X13 : ∀ w ∈ wsX130, w ∈ wsX13_goes := by decide +kernel
theorem lk_X13_goes_133 : Cond.fieldLink RX13 133 "PaperStormModel" "whole" "J" ∈ wsX13_goes := by decide +kernel
theorem lk_X13_goes_28 : Cond.fieldLink RX13 28 "PaperStormModel" "parts" "[J" ∈ wsX13_goes := by decide +kernel
theorem lk_X13_goes_32 : Cond.fieldLink RX13 32 "PaperStormModel" "next" "[J" ∈ wsX13_goes := by decide +kernel
theorem lk_X13_goes_35 : Cond.fieldLink RX13 35 "PaperStormModel" "ways" "[I" ∈ wsX13_goes := by decide +kernel
theorem lk_X13_goes_38 : Cond.fieldLink RX13 38 "PaperStormModel" "more" "[I" ∈ wsX13_goes := by decide +kernel
theorem lk_X13_goes_7 : Cond.fieldLink RX13 7 "PaperStormModel" "g" "[I" ∈ wsX13_goes := by decide +kernel
noncomputable def f_X13_goes_5 (x_g : Nat → Int32) (z39 : Int64 → Option ((Nat → Int64) × (Nat → Int64) × (Nat → Int32) × (Nat → Int32) × Int64)) : Nat → Int64 → Int32 → Option ((Nat → Int64) × (Nat → Int64) × (Nat → Int32) × (Nat → Int32) × Int64)
  | 0, _, _ => none
  | n + 1, l2_5, l4_5 => if 4 ≤ l4_5 then z39 l2_5 else (f_X13_sum x_g l4_5).bind fun r16 => (f_X13_shared l2_5 ((r16).toInt64)).bind fun r20 => if r20 = 0 then none else (f_X13_sum x_g l4_5).bind fun r27 => f_X13_goes_5 x_g z39 n ((l2_5 / r20) * ((r27).toInt64)) (l4_5 + 1)
noncomputable def f_X13_goes_42 (x_g : Nat → Int32) (z100 : (Nat → Int64) → (Nat → Int32) → Option ((Nat → Int64) × (Nat → Int64) × (Nat → Int32) × (Nat → Int32) × Int64)) : Nat → Int32 → (Nat → Int64) → (Nat → Int32) → Option ((Nat → Int64) × (Nat → Int64) × (Nat → Int32) × (Nat → Int32) × Int64)
  | 0, _, _, _ => none
  | n + 1, l4_42, x_parts_42, x_ways_42 => if 4 ≤ l4_42 then z100 x_parts_42 x_ways_42 else jo (fun (s1_70 : Int32) (s2_70 : Int64) => jo (fun (x_parts_93 : Nat → Int64) (s1_93 : Int32) (s2_93 : Int32) => if s1_93 < 0 ∨ 4 ≤ s1_93.toNatClampNeg then none else f_X13_goes_42 x_g z100 n (l4_42 + 1) x_parts_93 (upd x_ways_42 s1_93.toNatClampNeg s2_93)) (fun j93 => if s1_70 < 0 ∨ 4 ≤ s1_70.toNatClampNeg then none else if l4_42 = (x_g (1 : Int32).toNatClampNeg) then j93 (vp_updL x_parts_42 s1_70.toNatClampNeg s2_70) l4_42 1 else j93 (vp_updL x_parts_42 s1_70.toNatClampNeg s2_70) l4_42 0)) (fun j70 => if l4_42 = (x_g (1 : Int32).toNatClampNeg) then j70 l4_42 1 else j70 l4_42 0)
noncomputable def f_X13_goes_142 (x_g : Nat → Int32) (x_parts : Nat → Int64) (x_ways : Nat → Int32) (l2 : Int64) (l5 : Int32) (z223 : (Nat → Int64) → (Nat → Int32) → Option ((Nat → Int64) × (Nat → Int64) × (Nat → Int32) × (Nat → Int32) × Int64)) : Nat → Int32 → (Nat → Int64) → (Nat → Int32) → Option ((Nat → Int64) × (Nat → Int64) × (Nat → Int32) × (Nat → Int32) × Int64)
  | 0, _, _, _ => none
  | n + 1, l6_142, x_next_142, x_more_142 => if 4 ≤ l6_142 then z223 x_next_142 x_more_142 else jo (fun (x_next_215 : Nat → Int64) (s1_215 : Int32) (s2_215 : Int32) (s3_215 : Int32) => if s1_215 < 0 ∨ 4 ≤ s1_215.toNatClampNeg then none else f_X13_goes_142 x_g x_parts x_ways l2 l5 z223 n (l6_142 + 1) x_next_215 (upd x_more_142 s1_215.toNatClampNeg (s2_215 + s3_215))) (fun j215 => if l5 < 0 ∨ 4 ≤ l5.toNatClampNeg then none else if l6_142 < 0 ∨ 4 ≤ l6_142.toNatClampNeg then none else (f_X13_weighs x_g l6_142 l5).bind fun r168 => (f_X13_sum x_g l6_142).bind fun r177 => if ((r177).toInt64) = 0 then none else (f_X13_weighs x_g l6_142 l5).bind fun r198 => if r198 ≤ 0 then j215 (vp_updL x_next_142 l5.toNatClampNeg ((x_next_142 l5.toNatClampNeg) + (((x_parts l6_142.toNatClampNeg) * ((r168).toInt64)) * (l2 / ((r177).toInt64))))) l5 (x_more_142 l5.toNatClampNeg) 0 else j215 (vp_updL x_next_142 l5.toNatClampNeg ((x_next_142 l5.toNatClampNeg) + (((x_parts l6_142.toNatClampNeg) * ((r168).toInt64)) * (l2 / ((r177).toInt64))))) l5 (x_more_142 l5.toNatClampNeg) (x_ways l6_142.toNatClampNeg))
noncomputable def f_X13_goes_117 (x_g : Nat → Int32) (x_parts : Nat → Int64) (x_ways : Nat → Int32) (l2 : Int64) (z229 : (Nat → Int64) → (Nat → Int32) → Option ((Nat → Int64) × (Nat → Int64) × (Nat → Int32) × (Nat → Int32) × Int64)) : Nat → Int32 → (Nat → Int64) → (Nat → Int32) → Option ((Nat → Int64) × (Nat → Int64) × (Nat → Int32) × (Nat → Int32) × Int64)
  | 0, _, _, _ => none
  | n + 1, l5_117, x_next_117, x_more_117 => if 4 ≤ l5_117 then z229 x_next_117 x_more_117 else if l5_117 < 0 ∨ 4 ≤ l5_117.toNatClampNeg then none else f_X13_goes_142 x_g x_parts x_ways l2 l5_117 (fun x_next_223e x_more_223e => f_X13_goes_117 x_g x_parts x_ways l2 z229 n (l5_117 + 1) x_next_223e x_more_223e) 1000 0 (vp_updL x_next_117 l5_117.toNatClampNeg 0) (upd x_more_117 l5_117.toNatClampNeg 0)
noncomputable def f_X13_goes_232 (x_next : Nat → Int64) (x_more : Nat → Int32) (z272 : (Nat → Int64) → (Nat → Int32) → Option ((Nat → Int64) × (Nat → Int64) × (Nat → Int32) × (Nat → Int32) × Int64)) : Nat → Int32 → (Nat → Int64) → (Nat → Int32) → Option ((Nat → Int64) × (Nat → Int64) × (Nat → Int32) × (Nat → Int32) × Int64)
  | 0, _, _, _ => none
  | n + 1, l5_232, x_parts_232, x_ways_232 => if 4 ≤ l5_232 then z272 x_parts_232 x_ways_232 else if l5_232 < 0 ∨ 4 ≤ l5_232.toNatClampNeg then none else f_X13_goes_232 x_next x_more z272 n (l5_232 + 1) (vp_updL x_parts_232 l5_232.toNatClampNeg (x_next l5_232.toNatClampNeg)) (upd x_ways_232 l5_232.toNatClampNeg (x_more l5_232.toNatClampNeg))
noncomputable def f_X13_goes_108 (x_g : Nat → Int32) (l1 : Int32) (l2 : Int64) (z288 : (Nat → Int64) → (Nat → Int64) → (Nat → Int32) → (Nat → Int32) → Int64 → Option ((Nat → Int64) × (Nat → Int64) × (Nat → Int32) × (Nat → Int32) × Int64)) : Nat → Int32 → (Nat → Int64) → (Nat → Int64) → (Nat → Int32) → (Nat → Int32) → Int64 → Option ((Nat → Int64) × (Nat → Int64) × (Nat → Int32) × (Nat → Int32) × Int64)
  | 0, _, _, _, _, _, _ => none
  | n + 1, l4_108, x_parts_108, x_next_108, x_ways_108, x_more_108, x_whole_108 => if l1 ≤ l4_108 then z288 x_parts_108 x_next_108 x_ways_108 x_more_108 x_whole_108 else f_X13_goes_117 x_g x_parts_108 x_ways_108 l2 (fun x_next_229e x_more_229e => f_X13_goes_232 x_next_229e x_more_229e (fun x_parts_272e x_ways_272e => f_X13_goes_108 x_g l1 l2 z288 n (l4_108 + 1) x_parts_272e x_next_229e x_ways_272e x_more_229e (x_whole_108 * l2)) 1000 0 x_parts_108 x_ways_108) 1000 0 x_next_108 x_more_108
noncomputable def f_X13_goes (x_g : Nat → Int32) (x_parts : Nat → Int64) (x_next : Nat → Int64) (x_ways : Nat → Int32) (x_more : Nat → Int32) (x_whole : Int64) (a1 : Int32) : Option ((Nat → Int64) × (Nat → Int64) × (Nat → Int32) × (Nat → Int32) × Int64) :=
  f_X13_goes_5 x_g (fun l2_39e => f_X13_goes_42 x_g (fun x_parts_100e x_ways_100e => f_X13_goes_108 x_g a1 l2_39e (fun x_parts_288e x_next_288e x_ways_288e x_more_288e x_whole_288e => some (x_parts_288e, x_next_288e, x_ways_288e, x_more_288e, x_whole_288e)) 1000 0 x_parts_100e x_next x_ways_100e x_more 1) 1000 0 x_parts x_ways) 1000 1 0
abbrev G_X13_goes (p : Program) (l : Launch) (e : Env) (s : State) (m : MethodId) (args : Array Value) (below : List Frame) (meth : Method) (c : Code) (g : GE) (A : Nat → Prop) (h0 h1 h2 h3 h4 h5 h6 h7 h8 h9 h10 h11 h12 h13 : Nat) (x_g : Nat → Int32) (x_kept : Nat → Int32) (x_saved : Nat → Int32) (x_before : Nat → Int32) (x_was : Nat → Int32) (x_region : Nat → Int32) (x_isSaved : Int32) (x_changes : Int32) (x_isWithin : Int32) (x_code : Int32) (x_input : Nat → Int32) (x_length : Int32) (x_fault : Int32) (x_failed : Int32) (x_signs : Nat → Int32) (x_signMany : Int32) (x_at : Int32) (x_told : Nat → Int32) (x_toldMany : Int32) (res : (Nat → Int64) × (Nat → Int64) × (Nat → Int32) × (Nat → Int32) × Int64) (H : Heap) (locs : List Loc) (pc : Nat) (ls : Array Slot) (st : List Value) : Prop := W p l e (headSpec wsX13_goes rm_X13_goes).room s m args below meth c H locs 0 0 (MQ below (PoV g A (w_X13 g h0 h1 h2 h3 h4 h5 h6 h7 h8 h9 h10 h11 h12 h13 x_g x_kept x_saved x_before x_was x_region res.1 res.2.1 res.2.2.1 res.2.2.2.1 res.2.2.2.2 x_isSaved x_changes x_isWithin x_code x_input x_length x_fault x_failed x_signs x_signMany x_at x_told x_toldMany)) args s 0 0 A) (F0 m pc ls st)
set_option maxHeartbeats 4000000 in
set_option maxRecDepth 100000 in
theorem k_X13_goes_5 {p : Program} {l : Launch} {e : Env} {s : State} {m : MethodId} {args : Array Value} {below : List Frame} {meth : Method} {c : Code} {g : GE} {A : Nat → Prop} {h0 h1 h2 h3 h4 h5 h6 h7 h8 h9 h10 h11 h12 h13 : Nat} {x_g : Nat → Int32} {x_kept : Nat → Int32} {x_saved : Nat → Int32} {x_before : Nat → Int32} {x_was : Nat → Int32} {x_region : Nat → Int32} {x_parts : Nat → Int64} {x_next : Nat → Int64} {x_ways : Nat → Int32} {x_more : Nat → Int32} {x_whole : Int64} {x_isSaved : Int32} {x_changes : Int32} {x_isWithin : Int32} {x_code : Int32} {x_input : Nat → Int32} {x_length : Int32} {x_fault : Int32} {x_failed : Int32} {x_signs : Nat → Int32} {x_signMany : Int32} {x_at : Int32} {x_told : Nat → Int32} {x_toldMany : Int32} {res : (Nat → Int64) × (Nat → Int64) × (Nat → Int32) × (Nat → Int32) × Int64} {l1 : Int32} {z39 : Int64 → Option ((Nat → Int64) × (Nat → Int64) × (Nat → Int32) × (Nat → Int32) × Int64)}
    (E : En cX13_goes RX13 wsX13_goes 7 none p s m args meth c) (hK : KK g s) (hA : ∀ q, s.heap.size ≤ q → A q)
    (hz39 : ∀ (l2_39e : Int64) (H : Heap) (locs : List Loc) (ls : Array Slot), z39 l2_39e = some res → Wo g A s H locs (w_X13 g h0 h1 h2 h3 h4 h5 h6 h7 h8 h9 h10 h11 h12 h13 x_g x_kept x_saved x_before x_was x_region x_parts x_next x_ways x_more x_whole x_isSaved x_changes x_isWithin x_code x_input x_length x_fault x_failed x_signs x_signMany x_at x_told x_toldMany) → lv_has ls 7 [(0, .ref h0), (1, .int l1), (2, .long l2_39e)] → G_X13_goes p l e s m args below meth c g A h0 h1 h2 h3 h4 h5 h6 h7 h8 h9 h10 h11 h12 h13 x_g x_kept x_saved x_before x_was x_region x_isSaved x_changes x_isWithin x_code x_input x_length x_fault x_failed x_signs x_signMany x_at x_told x_toldMany res H locs 39 ls [])
    : ∀ (n : Nat) (l2_5 : Int64) (l4_5 : Int32) (H : Heap) (locs : List Loc) (ls : Array Slot), f_X13_goes_5 x_g z39 n l2_5 l4_5 = some res → Wo g A s H locs (w_X13 g h0 h1 h2 h3 h4 h5 h6 h7 h8 h9 h10 h11 h12 h13 x_g x_kept x_saved x_before x_was x_region x_parts x_next x_ways x_more x_whole x_isSaved x_changes x_isWithin x_code x_input x_length x_fault x_failed x_signs x_signMany x_at x_told x_toldMany) → lv_has ls 7 [(0, .ref h0), (1, .int l1), (2, .long l2_5), (4, .int l4_5)] → G_X13_goes p l e s m args below meth c g A h0 h1 h2 h3 h4 h5 h6 h7 h8 h9 h10 h11 h12 h13 x_g x_kept x_saved x_before x_was x_region x_isSaved x_changes x_isWithin x_code x_input x_length x_fault x_failed x_signs x_signMany x_at x_told x_toldMany res H locs 5 ls [] := by
  have hts := E.2.2.2.1
  intro n
  induction n with
  | zero => intro l2_5 l4_5 H locs ls h hW hl; rw [f_X13_goes_5] at h; cases h
  | succ n ih =>
    intro l2_5 l4_5 H locs ls h hW hl
    rw [f_X13_goes_5] at h
    refine lv_iload E.1 E.2.1 dX13_goes_5 (lv_at hl 3 rfl) ?_
    refine lv_iconst (v := 4) E.1 E.2.1 dX13_goes_7 (by decide) ?_
    refine lv_icmp_ge (tgt := 39) E.1 E.2.1 dX13_goes_8 (by decide) (fun c8 => ?_) (fun c8 => ?_)
    · have h := it c8 h
      exact hz39 l2_5 H locs ls h hW (lv_sub hl [0, 1, 2] rfl)
    · have h := ie c8 h
      refine lv_lload_n E.1 E.2.1 dX13_goes_11 rfl (lv_at hl 2 rfl) ?_
      refine lv_lload_n E.1 E.2.1 dX13_goes_12 rfl (lv_at hl 2 rfl) ?_
      refine lv_aload_n E.1 E.2.1 dX13_goes_13 rfl (lv_at hl 0 rfl) ?_
      refine lv_iload E.1 E.2.1 dX13_goes_14 (lv_at hl 3 rfl) ?_
      obtain ⟨r16, hc, h⟩ := bx h
      refine goI (world' := (w_X13 g h0 h1 h2 h3 h4 h5 h6 h7 h8 h9 h10 h11 h12 h13 x_g x_kept x_saved x_before x_was x_region x_parts x_next x_ways x_more x_whole x_isSaved x_changes x_isWithin x_code x_input x_length x_fault x_failed x_signs x_signMany x_at x_told x_toldMany)) hW hA (is := [0, 1, 2, 3, 4, 5, 6, 7, 8, 9, 10, 11, 12, 13]) rfl (goV (rest := [.long l2_5, .long l2_5]) E hK hW [0, 1, 2, 3, 4, 5, 6, 7, 8, 9, 10, 11, 12, 13] rfl rfl (c_X13_sum l g h0 h1 h2 h3 h4 h5 h6 h7 h8 h9 h10 h11 h12 h13 x_g x_kept x_saved x_before x_was x_region x_parts x_next x_ways x_more x_whole x_isSaved x_changes x_isWithin x_code x_input x_length x_fault x_failed x_signs x_signMany x_at x_told x_toldMany l4_5 (hf := hc) H.size) (cwV 1 hts gX13_goes_X13_sum rfl rfl rfl (by decide +kernel) ⟨Nat.le_of_ble_eq_true rfl, Nat.le_of_ble_eq_true rfl⟩) 0 rfl rfl rfl hl.1 rfl rfl (Nat.le_of_ble_eq_true rfl) dX13_goes_16 ⟨Nat.zero_le _, Nat.zero_le _⟩) rfl rfl (fun H locs hW => ?_)
      refine lv_i2l (v := (r16).toInt64) E.1 E.2.1 dX13_goes_19 rfl ?_
      obtain ⟨r20, hc, h⟩ := bx h
      refine goJ (world' := (w_X13 g h0 h1 h2 h3 h4 h5 h6 h7 h8 h9 h10 h11 h12 h13 x_g x_kept x_saved x_before x_was x_region x_parts x_next x_ways x_more x_whole x_isSaved x_changes x_isWithin x_code x_input x_length x_fault x_failed x_signs x_signMany x_at x_told x_toldMany)) hW hA (is := []) rfl (goS (rest := [.long l2_5]) E hK hW [] rfl rfl (c_X13_shared l g l2_5 ((r16).toInt64) (hf := hc) H.size) (va_cwS 2 hts gX13_goes_X13_shared rfl rfl rfl (by decide +kernel) ⟨Nat.le_of_ble_eq_true rfl, Nat.le_of_ble_eq_true rfl⟩) hl.1 rfl rfl (Nat.le_of_ble_eq_true rfl) dX13_goes_20 ⟨Nat.zero_le _, Nat.zero_le _⟩) rfl rfl (fun H locs hW => ?_)
      obtain ⟨hn23, h⟩ := ox h
      refine lv_ldiv E.1 E.2.1 dX13_goes_23 hn23 ?_
      refine lv_aload_n E.1 E.2.1 dX13_goes_24 rfl (lv_at hl 0 rfl) ?_
      refine lv_iload E.1 E.2.1 dX13_goes_25 (lv_at hl 3 rfl) ?_
      obtain ⟨r27, hc, h⟩ := bx h
      refine goI (world' := (w_X13 g h0 h1 h2 h3 h4 h5 h6 h7 h8 h9 h10 h11 h12 h13 x_g x_kept x_saved x_before x_was x_region x_parts x_next x_ways x_more x_whole x_isSaved x_changes x_isWithin x_code x_input x_length x_fault x_failed x_signs x_signMany x_at x_told x_toldMany)) hW hA (is := [0, 1, 2, 3, 4, 5, 6, 7, 8, 9, 10, 11, 12, 13]) rfl (goV (rest := [.long (l2_5 / r20)]) E hK hW [0, 1, 2, 3, 4, 5, 6, 7, 8, 9, 10, 11, 12, 13] rfl rfl (c_X13_sum l g h0 h1 h2 h3 h4 h5 h6 h7 h8 h9 h10 h11 h12 h13 x_g x_kept x_saved x_before x_was x_region x_parts x_next x_ways x_more x_whole x_isSaved x_changes x_isWithin x_code x_input x_length x_fault x_failed x_signs x_signMany x_at x_told x_toldMany l4_5 (hf := hc) H.size) (cwV 1 hts gX13_goes_X13_sum rfl rfl rfl (by decide +kernel) ⟨Nat.le_of_ble_eq_true rfl, Nat.le_of_ble_eq_true rfl⟩) 0 rfl rfl rfl hl.1 rfl rfl (Nat.le_of_ble_eq_true rfl) dX13_goes_27 ⟨Nat.zero_le _, Nat.zero_le _⟩) rfl rfl (fun H locs hW => ?_)
      refine lv_i2l (v := (r27).toInt64) E.1 E.2.1 dX13_goes_30 rfl ?_
      refine lv_lmul E.1 E.2.1 dX13_goes_31 ?_
      refine lv_lstore_n (lv' := [(2, .long ((l2_5 / r20) * ((r27).toInt64))), (0, .ref h0), (1, .int l1), (4, .int l4_5)]) E.1 E.2.1 dX13_goes_32 rfl hl (by decide) rfl (fun ls hl => ?_)
      refine lv_iinc (v := (l4_5 + 1)) (lv' := [(4, .int (l4_5 + 1)), (2, .long ((l2_5 / r20) * ((r27).toInt64))), (0, .ref h0), (1, .int l1)]) E.1 E.2.1 dX13_goes_33 hl (k := 3) rfl rfl (by decide) rfl (fun ls hl => ?_)
      refine lv_goto (tgt := 5) E.1 E.2.1 dX13_goes_36 (by decide) ?_
      exact ih ((l2_5 / r20) * ((r27).toInt64)) (l4_5 + 1) H locs ls h hW (lv_sub hl [2, 3, 1, 0] rfl)
set_option maxHeartbeats 4000000 in
set_option maxRecDepth 100000 in
theorem k_X13_goes_42 {p : Program} {l : Launch} {e : Env} {s : State} {m : MethodId} {args : Array Value} {below : List Frame} {meth : Method} {c : Code} {g : GE} {A : Nat → Prop} {h0 h1 h2 h3 h4 h5 h6 h7 h8 h9 h10 h11 h12 h13 : Nat} {x_g : Nat → Int32} {x_kept : Nat → Int32} {x_saved : Nat → Int32} {x_before : Nat → Int32} {x_was : Nat → Int32} {x_region : Nat → Int32} {x_next : Nat → Int64} {x_more : Nat → Int32} {x_whole : Int64} {x_isSaved : Int32} {x_changes : Int32} {x_isWithin : Int32} {x_code : Int32} {x_input : Nat → Int32} {x_length : Int32} {x_fault : Int32} {x_failed : Int32} {x_signs : Nat → Int32} {x_signMany : Int32} {x_at : Int32} {x_told : Nat → Int32} {x_toldMany : Int32} {res : (Nat → Int64) × (Nat → Int64) × (Nat → Int32) × (Nat → Int32) × Int64} {l1 : Int32} {l2 : Int64} {z100 : (Nat → Int64) → (Nat → Int32) → Option ((Nat → Int64) × (Nat → Int64) × (Nat → Int32) × (Nat → Int32) × Int64)}
    (E : En cX13_goes RX13 wsX13_goes 7 none p s m args meth c) (hK : KK g s) (hA : ∀ q, s.heap.size ≤ q → A q)
    (hz100 : ∀ (x_parts_100e : Nat → Int64) (x_ways_100e : Nat → Int32) (H : Heap) (locs : List Loc) (ls : Array Slot), z100 x_parts_100e x_ways_100e = some res → Wo g A s H locs (w_X13 g h0 h1 h2 h3 h4 h5 h6 h7 h8 h9 h10 h11 h12 h13 x_g x_kept x_saved x_before x_was x_region x_parts_100e x_next x_ways_100e x_more x_whole x_isSaved x_changes x_isWithin x_code x_input x_length x_fault x_failed x_signs x_signMany x_at x_told x_toldMany) → lv_has ls 7 [(0, .ref h0), (1, .int l1), (2, .long l2)] → G_X13_goes p l e s m args below meth c g A h0 h1 h2 h3 h4 h5 h6 h7 h8 h9 h10 h11 h12 h13 x_g x_kept x_saved x_before x_was x_region x_isSaved x_changes x_isWithin x_code x_input x_length x_fault x_failed x_signs x_signMany x_at x_told x_toldMany res H locs 100 ls [])
    : ∀ (n : Nat) (l4_42 : Int32) (x_parts_42 : Nat → Int64) (x_ways_42 : Nat → Int32) (H : Heap) (locs : List Loc) (ls : Array Slot), f_X13_goes_42 x_g z100 n l4_42 x_parts_42 x_ways_42 = some res → Wo g A s H locs (w_X13 g h0 h1 h2 h3 h4 h5 h6 h7 h8 h9 h10 h11 h12 h13 x_g x_kept x_saved x_before x_was x_region x_parts_42 x_next x_ways_42 x_more x_whole x_isSaved x_changes x_isWithin x_code x_input x_length x_fault x_failed x_signs x_signMany x_at x_told x_toldMany) → lv_has ls 7 [(0, .ref h0), (1, .int l1), (2, .long l2), (4, .int l4_42)] → G_X13_goes p l e s m args below meth c g A h0 h1 h2 h3 h4 h5 h6 h7 h8 h9 h10 h11 h12 h13 x_g x_kept x_saved x_before x_was x_region x_isSaved x_changes x_isWithin x_code x_input x_length x_fault x_failed x_signs x_signMany x_at x_told x_toldMany res H locs 42 ls [] := by
  have hts := E.2.2.2.1
  intro n
  induction n with
  | zero => intro l4_42 x_parts_42 x_ways_42 H locs ls h hW hl; rw [f_X13_goes_42] at h; cases h
  | succ n ih =>
    intro l4_42 x_parts_42 x_ways_42 H locs ls h hW hl
    rw [f_X13_goes_42] at h
    refine lv_iload E.1 E.2.1 dX13_goes_42 (lv_at hl 3 rfl) ?_
    refine lv_iconst (v := 4) E.1 E.2.1 dX13_goes_44 (by decide) ?_
    refine lv_icmp_ge (tgt := 100) E.1 E.2.1 dX13_goes_45 (by decide) (fun c45 => ?_) (fun c45 => ?_)
    · have h := it c45 h
      exact hz100 x_parts_42 x_ways_42 H locs ls h hW (lv_sub hl [0, 1, 2] rfl)
    · have h := ie c45 h
      obtain ⟨j70, hj70, h⟩ := jox2 h
      have J70 : ∀ (s1_70 : Int32) (s2_70 : Int64) (H : Heap) (locs : List Loc) (ls : Array Slot), j70 s1_70 s2_70 = some res → Wo g A s H locs (w_X13 g h0 h1 h2 h3 h4 h5 h6 h7 h8 h9 h10 h11 h12 h13 x_g x_kept x_saved x_before x_was x_region x_parts_42 x_next x_ways_42 x_more x_whole x_isSaved x_changes x_isWithin x_code x_input x_length x_fault x_failed x_signs x_signMany x_at x_told x_toldMany) → lv_has ls 7 [(0, .ref h0), (1, .int l1), (2, .long l2), (4, .int l4_42)] → G_X13_goes p l e s m args below meth c g A h0 h1 h2 h3 h4 h5 h6 h7 h8 h9 h10 h11 h12 h13 x_g x_kept x_saved x_before x_was x_region x_isSaved x_changes x_isWithin x_code x_input x_length x_fault x_failed x_signs x_signMany x_at x_told x_toldMany res H locs 70 ls [.long s2_70, .int s1_70, .ref h7] := by
        intro s1_70 s2_70 H locs ls h hW hl
        rw [hj70] at h
        obtain ⟨j93, hj93, h⟩ := jox3 h
        have J93 : ∀ (x_parts_93 : Nat → Int64) (s1_93 : Int32) (s2_93 : Int32) (H : Heap) (locs : List Loc) (ls : Array Slot), j93 x_parts_93 s1_93 s2_93 = some res → Wo g A s H locs (w_X13 g h0 h1 h2 h3 h4 h5 h6 h7 h8 h9 h10 h11 h12 h13 x_g x_kept x_saved x_before x_was x_region x_parts_93 x_next x_ways_42 x_more x_whole x_isSaved x_changes x_isWithin x_code x_input x_length x_fault x_failed x_signs x_signMany x_at x_told x_toldMany) → lv_has ls 7 [(0, .ref h0), (1, .int l1), (2, .long l2), (4, .int l4_42)] → G_X13_goes p l e s m args below meth c g A h0 h1 h2 h3 h4 h5 h6 h7 h8 h9 h10 h11 h12 h13 x_g x_kept x_saved x_before x_was x_region x_isSaved x_changes x_isWithin x_code x_input x_length x_fault x_failed x_signs x_signMany x_at x_told x_toldMany res H locs 93 ls [.int s2_93, .int s1_93, .ref h9] := by
          intro x_parts_93 s1_93 s2_93 H locs ls h hW hl
          rw [hj93] at h
          obtain ⟨hi93, h⟩ := ox h
          refine wIast (world' := (w_X13 g h0 h1 h2 h3 h4 h5 h6 h7 h8 h9 h10 h11 h12 h13 x_g x_kept x_saved x_before x_was x_region x_parts_93 x_next (upd x_ways_42 s1_93.toNatClampNeg s2_93) x_more x_whole x_isSaved x_changes x_isWithin x_code x_input x_length x_fault x_failed x_signs x_signMany x_at x_told x_toldMany)) E hK hW 9 rfl hi93 dX13_goes_93 rfl (fun H locs hW => ?_)
          refine lv_iinc (v := (l4_42 + 1)) (lv' := [(4, .int (l4_42 + 1)), (0, .ref h0), (1, .int l1), (2, .long l2)]) E.1 E.2.1 dX13_goes_94 hl (k := 3) rfl rfl (by decide) rfl (fun ls hl => ?_)
          refine lv_goto (tgt := 42) E.1 E.2.1 dX13_goes_97 (by decide) ?_
          exact ih (l4_42 + 1) x_parts_93 (upd x_ways_42 s1_93.toNatClampNeg s2_93) H locs ls h hW (lv_sub hl [1, 2, 3, 0] rfl)
        obtain ⟨hi70, h⟩ := ox h
        refine wLast (world' := (w_X13 g h0 h1 h2 h3 h4 h5 h6 h7 h8 h9 h10 h11 h12 h13 x_g x_kept x_saved x_before x_was x_region (vp_updL x_parts_42 s1_70.toNatClampNeg s2_70) x_next x_ways_42 x_more x_whole x_isSaved x_changes x_isWithin x_code x_input x_length x_fault x_failed x_signs x_signMany x_at x_told x_toldMany)) E hK hW 7 rfl hi70 dX13_goes_70 rfl (fun H locs hW => ?_)
        refine lv_aload_n E.1 E.2.1 dX13_goes_71 rfl (lv_at hl 0 rfl) ?_
        refine wGet (v := .ref h9) E hK in_X13_goes_X13 hW 8 lk_X13_goes_35 0 rfl rfl (by decide) rfl rfl dX13_goes_72 ?_
        refine lv_iload E.1 E.2.1 dX13_goes_75 (lv_at hl 3 rfl) ?_
        refine lv_iload E.1 E.2.1 dX13_goes_77 (lv_at hl 3 rfl) ?_
        refine lv_aload_n E.1 E.2.1 dX13_goes_79 rfl (lv_at hl 0 rfl) ?_
        refine wGet (v := .ref h1) E hK in_X13_goes_X13 hW 0 lk_X13_goes_7 0 rfl rfl (by decide) rfl rfl dX13_goes_80 ?_
        refine lv_iconst (v := 1) E.1 E.2.1 dX13_goes_83 (by decide) ?_
        refine wIald E hK hW 1 rfl (by decide) dX13_goes_84 ?_
        refine lv_icmp_ne (tgt := 92) E.1 E.2.1 dX13_goes_85 (by decide) (fun c85 => ?_) (fun c85 => ?_)
        · have h := ie c85 h
          refine lv_iconst (v := 0) E.1 E.2.1 dX13_goes_92 (by decide) ?_
          exact J93 (vp_updL x_parts_42 s1_70.toNatClampNeg s2_70) l4_42 0 H locs ls h hW (lv_sub hl [0, 1, 2, 3] rfl)
        · have h := it c85 h
          refine lv_iconst (v := 1) E.1 E.2.1 dX13_goes_88 (by decide) ?_
          refine lv_goto (tgt := 93) E.1 E.2.1 dX13_goes_89 (by decide) ?_
          exact J93 (vp_updL x_parts_42 s1_70.toNatClampNeg s2_70) l4_42 1 H locs ls h hW (lv_sub hl [0, 1, 2, 3] rfl)
      refine lv_aload_n E.1 E.2.1 dX13_goes_48 rfl (lv_at hl 0 rfl) ?_
      refine wGet (v := .ref h7) E hK in_X13_goes_X13 hW 6 lk_X13_goes_28 0 rfl rfl (by decide) rfl rfl dX13_goes_49 ?_
      refine lv_iload E.1 E.2.1 dX13_goes_52 (lv_at hl 3 rfl) ?_
      refine lv_iload E.1 E.2.1 dX13_goes_54 (lv_at hl 3 rfl) ?_
      refine lv_aload_n E.1 E.2.1 dX13_goes_56 rfl (lv_at hl 0 rfl) ?_
      refine wGet (v := .ref h1) E hK in_X13_goes_X13 hW 0 lk_X13_goes_7 0 rfl rfl (by decide) rfl rfl dX13_goes_57 ?_
      refine lv_iconst (v := 1) E.1 E.2.1 dX13_goes_60 (by decide) ?_
      refine wIald E hK hW 1 rfl (by decide) dX13_goes_61 ?_
      refine lv_icmp_ne (tgt := 69) E.1 E.2.1 dX13_goes_62 (by decide) (fun c62 => ?_) (fun c62 => ?_)
      · have h := ie c62 h
        refine lv_lconst (v := 0) E.1 E.2.1 dX13_goes_69 (by decide) ?_
        exact J70 l4_42 0 H locs ls h hW (lv_sub hl [0, 1, 2, 3] rfl)
      · have h := it c62 h
        refine lv_lconst (v := 1) E.1 E.2.1 dX13_goes_65 (by decide) ?_
        refine lv_goto (tgt := 70) E.1 E.2.1 dX13_goes_66 (by decide) ?_
        exact J70 l4_42 1 H locs ls h hW (lv_sub hl [0, 1, 2, 3] rfl)
set_option maxHeartbeats 4000000 in
set_option maxRecDepth 100000 in
theorem k_X13_goes_142 {p : Program} {l : Launch} {e : Env} {s : State} {m : MethodId} {args : Array Value} {below : List Frame} {meth : Method} {c : Code} {g : GE} {A : Nat → Prop} {h0 h1 h2 h3 h4 h5 h6 h7 h8 h9 h10 h11 h12 h13 : Nat} {x_g : Nat → Int32} {x_kept : Nat → Int32} {x_saved : Nat → Int32} {x_before : Nat → Int32} {x_was : Nat → Int32} {x_region : Nat → Int32} {x_parts : Nat → Int64} {x_ways : Nat → Int32} {x_whole : Int64} {x_isSaved : Int32} {x_changes : Int32} {x_isWithin : Int32} {x_code : Int32} {x_input : Nat → Int32} {x_length : Int32} {x_fault : Int32} {x_failed : Int32} {x_signs : Nat → Int32} {x_signMany : Int32} {x_at : Int32} {x_told : Nat → Int32} {x_toldMany : Int32} {res : (Nat → Int64) × (Nat → Int64) × (Nat → Int32) × (Nat → Int32) × Int64} {l1 : Int32} {l2 : Int64} {l4 : Int32} {l5 : Int32} {z223 : (Nat → Int64) → (Nat → Int32) → Option ((Nat → Int64) × (Nat → Int64) × (Nat → Int32) × (Nat → Int32) × Int64)}
    (E : En cX13_goes RX13 wsX13_goes 7 none p s m args meth c) (hK : KK g s) (hA : ∀ q, s.heap.size ≤ q → A q)
    (hz223 : ∀ (x_next_223e : Nat → Int64) (x_more_223e : Nat → Int32) (H : Heap) (locs : List Loc) (ls : Array Slot), z223 x_next_223e x_more_223e = some res → Wo g A s H locs (w_X13 g h0 h1 h2 h3 h4 h5 h6 h7 h8 h9 h10 h11 h12 h13 x_g x_kept x_saved x_before x_was x_region x_parts x_next_223e x_ways x_more_223e x_whole x_isSaved x_changes x_isWithin x_code x_input x_length x_fault x_failed x_signs x_signMany x_at x_told x_toldMany) → lv_has ls 7 [(0, .ref h0), (1, .int l1), (2, .long l2), (4, .int l4), (5, .int l5)] → G_X13_goes p l e s m args below meth c g A h0 h1 h2 h3 h4 h5 h6 h7 h8 h9 h10 h11 h12 h13 x_g x_kept x_saved x_before x_was x_region x_isSaved x_changes x_isWithin x_code x_input x_length x_fault x_failed x_signs x_signMany x_at x_told x_toldMany res H locs 223 ls [])
    : ∀ (n : Nat) (l6_142 : Int32) (x_next_142 : Nat → Int64) (x_more_142 : Nat → Int32) (H : Heap) (locs : List Loc) (ls : Array Slot), f_X13_goes_142 x_g x_parts x_ways l2 l5 z223 n l6_142 x_next_142 x_more_142 = some res → Wo g A s H locs (w_X13 g h0 h1 h2 h3 h4 h5 h6 h7 h8 h9 h10 h11 h12 h13 x_g x_kept x_saved x_before x_was x_region x_parts x_next_142 x_ways x_more_142 x_whole x_isSaved x_changes x_isWithin x_code x_input x_length x_fault x_failed x_signs x_signMany x_at x_told x_toldMany) → lv_has ls 7 [(0, .ref h0), (1, .int l1), (2, .long l2), (4, .int l4), (5, .int l5), (6, .int l6_142)] → G_X13_goes p l e s m args below meth c g A h0 h1 h2 h3 h4 h5 h6 h7 h8 h9 h10 h11 h12 h13 x_g x_kept x_saved x_before x_was x_region x_isSaved x_changes x_isWithin x_code x_input x_length x_fault x_failed x_signs x_signMany x_at x_told x_toldMany res H locs 142 ls [] := by
  have hts := E.2.2.2.1
  intro n
  induction n with
  | zero => intro l6_142 x_next_142 x_more_142 H locs ls h hW hl; rw [f_X13_goes_142] at h; cases h
  | succ n ih =>
    intro l6_142 x_next_142 x_more_142 H locs ls h hW hl
    rw [f_X13_goes_142] at h
    refine lv_iload E.1 E.2.1 dX13_goes_142 (lv_at hl 5 rfl) ?_
    refine lv_iconst (v := 4) E.1 E.2.1 dX13_goes_144 (by decide) ?_
    refine lv_icmp_ge (tgt := 223) E.1 E.2.1 dX13_goes_145 (by decide) (fun c145 => ?_) (fun c145 => ?_)
    · have h := it c145 h
      exact hz223 x_next_142 x_more_142 H locs ls h hW (lv_sub hl [0, 1, 2, 3, 4] rfl)
    · have h := ie c145 h
      obtain ⟨j215, hj215, h⟩ := jox4 h
      have J215 : ∀ (x_next_215 : Nat → Int64) (s1_215 : Int32) (s2_215 : Int32) (s3_215 : Int32) (H : Heap) (locs : List Loc) (ls : Array Slot), j215 x_next_215 s1_215 s2_215 s3_215 = some res → Wo g A s H locs (w_X13 g h0 h1 h2 h3 h4 h5 h6 h7 h8 h9 h10 h11 h12 h13 x_g x_kept x_saved x_before x_was x_region x_parts x_next_215 x_ways x_more_142 x_whole x_isSaved x_changes x_isWithin x_code x_input x_length x_fault x_failed x_signs x_signMany x_at x_told x_toldMany) → lv_has ls 7 [(0, .ref h0), (1, .int l1), (2, .long l2), (4, .int l4), (5, .int l5), (6, .int l6_142)] → G_X13_goes p l e s m args below meth c g A h0 h1 h2 h3 h4 h5 h6 h7 h8 h9 h10 h11 h12 h13 x_g x_kept x_saved x_before x_was x_region x_isSaved x_changes x_isWithin x_code x_input x_length x_fault x_failed x_signs x_signMany x_at x_told x_toldMany res H locs 215 ls [.int s3_215, .int s2_215, .int s1_215, .ref h10] := by
        intro x_next_215 s1_215 s2_215 s3_215 H locs ls h hW hl
        rw [hj215] at h
        refine lv_iadd E.1 E.2.1 dX13_goes_215 ?_
        obtain ⟨hi216, h⟩ := ox h
        refine wIast (world' := (w_X13 g h0 h1 h2 h3 h4 h5 h6 h7 h8 h9 h10 h11 h12 h13 x_g x_kept x_saved x_before x_was x_region x_parts x_next_215 x_ways (upd x_more_142 s1_215.toNatClampNeg (s2_215 + s3_215)) x_whole x_isSaved x_changes x_isWithin x_code x_input x_length x_fault x_failed x_signs x_signMany x_at x_told x_toldMany)) E hK hW 10 rfl hi216 dX13_goes_216 rfl (fun H locs hW => ?_)
        refine lv_iinc (v := (l6_142 + 1)) (lv' := [(6, .int (l6_142 + 1)), (0, .ref h0), (1, .int l1), (2, .long l2), (4, .int l4), (5, .int l5)]) E.1 E.2.1 dX13_goes_217 hl (k := 5) rfl rfl (by decide) rfl (fun ls hl => ?_)
        refine lv_goto (tgt := 142) E.1 E.2.1 dX13_goes_220 (by decide) ?_
        exact ih (l6_142 + 1) x_next_215 (upd x_more_142 s1_215.toNatClampNeg (s2_215 + s3_215)) H locs ls h hW (lv_sub hl [1, 2, 3, 4, 5, 0] rfl)
      refine lv_aload_n E.1 E.2.1 dX13_goes_148 rfl (lv_at hl 0 rfl) ?_
      refine wGet (v := .ref h8) E hK in_X13_goes_X13 hW 7 lk_X13_goes_32 0 rfl rfl (by decide) rfl rfl dX13_goes_149 ?_
      refine lv_iload E.1 E.2.1 dX13_goes_152 (lv_at hl 4 rfl) ?_
      refine lv_dup2_11 E.1 E.2.1 dX13_goes_154 rfl rfl ?_
      obtain ⟨hi155, h⟩ := ox h
      refine wLald E hK hW 8 rfl hi155 dX13_goes_155 ?_
      refine lv_aload_n E.1 E.2.1 dX13_goes_156 rfl (lv_at hl 0 rfl) ?_
      refine wGet (v := .ref h7) E hK in_X13_goes_X13 hW 6 lk_X13_goes_28 0 rfl rfl (by decide) rfl rfl dX13_goes_157 ?_
      refine lv_iload E.1 E.2.1 dX13_goes_160 (lv_at hl 5 rfl) ?_
      obtain ⟨hi162, h⟩ := ox h
      refine wLald E hK hW 7 rfl hi162 dX13_goes_162 ?_
      refine lv_aload_n E.1 E.2.1 dX13_goes_163 rfl (lv_at hl 0 rfl) ?_
      refine lv_iload E.1 E.2.1 dX13_goes_164 (lv_at hl 5 rfl) ?_
      refine lv_iload E.1 E.2.1 dX13_goes_166 (lv_at hl 4 rfl) ?_
      obtain ⟨r168, hc, h⟩ := bx h
      refine goI (world' := (w_X13 g h0 h1 h2 h3 h4 h5 h6 h7 h8 h9 h10 h11 h12 h13 x_g x_kept x_saved x_before x_was x_region x_parts x_next_142 x_ways x_more_142 x_whole x_isSaved x_changes x_isWithin x_code x_input x_length x_fault x_failed x_signs x_signMany x_at x_told x_toldMany)) hW hA (is := [0, 1, 2, 3, 4, 5, 6, 7, 8, 9, 10, 11, 12, 13]) rfl (goV (rest := [.long (x_parts l6_142.toNatClampNeg), .long (x_next_142 l5.toNatClampNeg), .int l5, .ref h8]) E hK hW [0, 1, 2, 3, 4, 5, 6, 7, 8, 9, 10, 11, 12, 13] rfl rfl (c_X13_weighs l g h0 h1 h2 h3 h4 h5 h6 h7 h8 h9 h10 h11 h12 h13 x_g x_kept x_saved x_before x_was x_region x_parts x_next_142 x_ways x_more_142 x_whole x_isSaved x_changes x_isWithin x_code x_input x_length x_fault x_failed x_signs x_signMany x_at x_told x_toldMany l6_142 l5 (hf := hc) H.size) (cwV 2 hts gX13_goes_X13_weighs rfl rfl rfl (by decide +kernel) ⟨Nat.le_of_ble_eq_true rfl, Nat.le_of_ble_eq_true rfl⟩) 0 rfl rfl rfl hl.1 rfl rfl (Nat.le_of_ble_eq_true rfl) dX13_goes_168 ⟨Nat.zero_le _, Nat.zero_le _⟩) rfl rfl (fun H locs hW => ?_)
      refine lv_i2l (v := (r168).toInt64) E.1 E.2.1 dX13_goes_171 rfl ?_
      refine lv_lmul E.1 E.2.1 dX13_goes_172 ?_
      refine lv_lload_n E.1 E.2.1 dX13_goes_173 rfl (lv_at hl 2 rfl) ?_
      refine lv_aload_n E.1 E.2.1 dX13_goes_174 rfl (lv_at hl 0 rfl) ?_
      refine lv_iload E.1 E.2.1 dX13_goes_175 (lv_at hl 5 rfl) ?_
      obtain ⟨r177, hc, h⟩ := bx h
      refine goI (world' := (w_X13 g h0 h1 h2 h3 h4 h5 h6 h7 h8 h9 h10 h11 h12 h13 x_g x_kept x_saved x_before x_was x_region x_parts x_next_142 x_ways x_more_142 x_whole x_isSaved x_changes x_isWithin x_code x_input x_length x_fault x_failed x_signs x_signMany x_at x_told x_toldMany)) hW hA (is := [0, 1, 2, 3, 4, 5, 6, 7, 8, 9, 10, 11, 12, 13]) rfl (goV (rest := [.long l2, .long ((x_parts l6_142.toNatClampNeg) * ((r168).toInt64)), .long (x_next_142 l5.toNatClampNeg), .int l5, .ref h8]) E hK hW [0, 1, 2, 3, 4, 5, 6, 7, 8, 9, 10, 11, 12, 13] rfl rfl (c_X13_sum l g h0 h1 h2 h3 h4 h5 h6 h7 h8 h9 h10 h11 h12 h13 x_g x_kept x_saved x_before x_was x_region x_parts x_next_142 x_ways x_more_142 x_whole x_isSaved x_changes x_isWithin x_code x_input x_length x_fault x_failed x_signs x_signMany x_at x_told x_toldMany l6_142 (hf := hc) H.size) (cwV 1 hts gX13_goes_X13_sum rfl rfl rfl (by decide +kernel) ⟨Nat.le_of_ble_eq_true rfl, Nat.le_of_ble_eq_true rfl⟩) 0 rfl rfl rfl hl.1 rfl rfl (Nat.le_of_ble_eq_true rfl) dX13_goes_177 ⟨Nat.zero_le _, Nat.zero_le _⟩) rfl rfl (fun H locs hW => ?_)
      refine lv_i2l (v := (r177).toInt64) E.1 E.2.1 dX13_goes_180 rfl ?_
      obtain ⟨hn181, h⟩ := ox h
      refine lv_ldiv E.1 E.2.1 dX13_goes_181 hn181 ?_
      refine lv_lmul E.1 E.2.1 dX13_goes_182 ?_
      refine lv_ladd E.1 E.2.1 dX13_goes_183 ?_
      refine wLast (world' := (w_X13 g h0 h1 h2 h3 h4 h5 h6 h7 h8 h9 h10 h11 h12 h13 x_g x_kept x_saved x_before x_was x_region x_parts (vp_updL x_next_142 l5.toNatClampNeg ((x_next_142 l5.toNatClampNeg) + (((x_parts l6_142.toNatClampNeg) * ((r168).toInt64)) * (l2 / ((r177).toInt64))))) x_ways x_more_142 x_whole x_isSaved x_changes x_isWithin x_code x_input x_length x_fault x_failed x_signs x_signMany x_at x_told x_toldMany)) E hK hW 8 rfl hi155 dX13_goes_184 rfl (fun H locs hW => ?_)
      refine lv_aload_n E.1 E.2.1 dX13_goes_185 rfl (lv_at hl 0 rfl) ?_
      refine wGet (v := .ref h10) E hK in_X13_goes_X13 hW 9 lk_X13_goes_38 0 rfl rfl (by decide) rfl rfl dX13_goes_186 ?_
      refine lv_iload E.1 E.2.1 dX13_goes_189 (lv_at hl 4 rfl) ?_
      refine lv_dup2_11 E.1 E.2.1 dX13_goes_191 rfl rfl ?_
      refine wIald E hK hW 10 rfl hi155 dX13_goes_192 ?_
      refine lv_aload_n E.1 E.2.1 dX13_goes_193 rfl (lv_at hl 0 rfl) ?_
      refine lv_iload E.1 E.2.1 dX13_goes_194 (lv_at hl 5 rfl) ?_
      refine lv_iload E.1 E.2.1 dX13_goes_196 (lv_at hl 4 rfl) ?_
      obtain ⟨r198, hc, h⟩ := bx h
      refine goI (world' := (w_X13 g h0 h1 h2 h3 h4 h5 h6 h7 h8 h9 h10 h11 h12 h13 x_g x_kept x_saved x_before x_was x_region x_parts (vp_updL x_next_142 l5.toNatClampNeg ((x_next_142 l5.toNatClampNeg) + (((x_parts l6_142.toNatClampNeg) * ((r168).toInt64)) * (l2 / ((r177).toInt64))))) x_ways x_more_142 x_whole x_isSaved x_changes x_isWithin x_code x_input x_length x_fault x_failed x_signs x_signMany x_at x_told x_toldMany)) hW hA (is := [0, 1, 2, 3, 4, 5, 6, 7, 8, 9, 10, 11, 12, 13]) rfl (goV (rest := [.int (x_more_142 l5.toNatClampNeg), .int l5, .ref h10]) E hK hW [0, 1, 2, 3, 4, 5, 6, 7, 8, 9, 10, 11, 12, 13] rfl rfl (c_X13_weighs l g h0 h1 h2 h3 h4 h5 h6 h7 h8 h9 h10 h11 h12 h13 x_g x_kept x_saved x_before x_was x_region x_parts (vp_updL x_next_142 l5.toNatClampNeg ((x_next_142 l5.toNatClampNeg) + (((x_parts l6_142.toNatClampNeg) * ((r168).toInt64)) * (l2 / ((r177).toInt64))))) x_ways x_more_142 x_whole x_isSaved x_changes x_isWithin x_code x_input x_length x_fault x_failed x_signs x_signMany x_at x_told x_toldMany l6_142 l5 (hf := hc) H.size) (cwV 2 hts gX13_goes_X13_weighs rfl rfl rfl (by decide +kernel) ⟨Nat.le_of_ble_eq_true rfl, Nat.le_of_ble_eq_true rfl⟩) 0 rfl rfl rfl hl.1 rfl rfl (Nat.le_of_ble_eq_true rfl) dX13_goes_198 ⟨Nat.zero_le _, Nat.zero_le _⟩) rfl rfl (fun H locs hW => ?_)
      refine lv_if_le (tgt := 214) E.1 E.2.1 dX13_goes_201 (by decide) (fun c201 => ?_) (fun c201 => ?_)
      · have h := it c201 h
        refine lv_iconst (v := 0) E.1 E.2.1 dX13_goes_214 (by decide) ?_
        exact J215 (vp_updL x_next_142 l5.toNatClampNeg ((x_next_142 l5.toNatClampNeg) + (((x_parts l6_142.toNatClampNeg) * ((r168).toInt64)) * (l2 / ((r177).toInt64))))) l5 (x_more_142 l5.toNatClampNeg) 0 H locs ls h hW (lv_sub hl [0, 1, 2, 3, 4, 5] rfl)
      · have h := ie c201 h
        refine lv_aload_n E.1 E.2.1 dX13_goes_204 rfl (lv_at hl 0 rfl) ?_
        refine wGet (v := .ref h9) E hK in_X13_goes_X13 hW 8 lk_X13_goes_35 0 rfl rfl (by decide) rfl rfl dX13_goes_205 ?_
        refine lv_iload E.1 E.2.1 dX13_goes_208 (lv_at hl 5 rfl) ?_
        refine wIald E hK hW 9 rfl hi162 dX13_goes_210 ?_
        refine lv_goto (tgt := 215) E.1 E.2.1 dX13_goes_211 (by decide) ?_
        exact J215 (vp_updL x_next_142 l5.toNatClampNeg ((x_next_142 l5.toNatClampNeg) + (((x_parts l6_142.toNatClampNeg) * ((r168).toInt64)) * (l2 / ((r177).toInt64))))) l5 (x_more_142 l5.toNatClampNeg) (x_ways l6_142.toNatClampNeg) H locs ls h hW (lv_sub hl [0, 1, 2, 3, 4, 5] rfl)
set_option maxHeartbeats 4000000 in
set_option maxRecDepth 100000 in
theorem k_X13_goes_117 {p : Program} {l : Launch} {e : Env} {s : State} {m : MethodId} {args : Array Value} {below : List Frame} {meth : Method} {c : Code} {g : GE} {A : Nat → Prop} {h0 h1 h2 h3 h4 h5 h6 h7 h8 h9 h10 h11 h12 h13 : Nat} {x_g : Nat → Int32} {x_kept : Nat → Int32} {x_saved : Nat → Int32} {x_before : Nat → Int32} {x_was : Nat → Int32} {x_region : Nat → Int32} {x_parts : Nat → Int64} {x_ways : Nat → Int32} {x_whole : Int64} {x_isSaved : Int32} {x_changes : Int32} {x_isWithin : Int32} {x_code : Int32} {x_input : Nat → Int32} {x_length : Int32} {x_fault : Int32} {x_failed : Int32} {x_signs : Nat → Int32} {x_signMany : Int32} {x_at : Int32} {x_told : Nat → Int32} {x_toldMany : Int32} {res : (Nat → Int64) × (Nat → Int64) × (Nat → Int32) × (Nat → Int32) × Int64} {l1 : Int32} {l2 : Int64} {l4 : Int32} {z229 : (Nat → Int64) → (Nat → Int32) → Option ((Nat → Int64) × (Nat → Int64) × (Nat → Int32) × (Nat → Int32) × Int64)}
    (E : En cX13_goes RX13 wsX13_goes 7 none p s m args meth c) (hK : KK g s) (hA : ∀ q, s.heap.size ≤ q → A q)
    (hz229 : ∀ (x_next_229e : Nat → Int64) (x_more_229e : Nat → Int32) (H : Heap) (locs : List Loc) (ls : Array Slot), z229 x_next_229e x_more_229e = some res → Wo g A s H locs (w_X13 g h0 h1 h2 h3 h4 h5 h6 h7 h8 h9 h10 h11 h12 h13 x_g x_kept x_saved x_before x_was x_region x_parts x_next_229e x_ways x_more_229e x_whole x_isSaved x_changes x_isWithin x_code x_input x_length x_fault x_failed x_signs x_signMany x_at x_told x_toldMany) → lv_has ls 7 [(0, .ref h0), (1, .int l1), (2, .long l2), (4, .int l4)] → G_X13_goes p l e s m args below meth c g A h0 h1 h2 h3 h4 h5 h6 h7 h8 h9 h10 h11 h12 h13 x_g x_kept x_saved x_before x_was x_region x_isSaved x_changes x_isWithin x_code x_input x_length x_fault x_failed x_signs x_signMany x_at x_told x_toldMany res H locs 229 ls [])
    : ∀ (n : Nat) (l5_117 : Int32) (x_next_117 : Nat → Int64) (x_more_117 : Nat → Int32) (H : Heap) (locs : List Loc) (ls : Array Slot), f_X13_goes_117 x_g x_parts x_ways l2 z229 n l5_117 x_next_117 x_more_117 = some res → Wo g A s H locs (w_X13 g h0 h1 h2 h3 h4 h5 h6 h7 h8 h9 h10 h11 h12 h13 x_g x_kept x_saved x_before x_was x_region x_parts x_next_117 x_ways x_more_117 x_whole x_isSaved x_changes x_isWithin x_code x_input x_length x_fault x_failed x_signs x_signMany x_at x_told x_toldMany) → lv_has ls 7 [(0, .ref h0), (1, .int l1), (2, .long l2), (4, .int l4), (5, .int l5_117)] → G_X13_goes p l e s m args below meth c g A h0 h1 h2 h3 h4 h5 h6 h7 h8 h9 h10 h11 h12 h13 x_g x_kept x_saved x_before x_was x_region x_isSaved x_changes x_isWithin x_code x_input x_length x_fault x_failed x_signs x_signMany x_at x_told x_toldMany res H locs 117 ls [] := by
  have hts := E.2.2.2.1
  intro n
  induction n with
  | zero => intro l5_117 x_next_117 x_more_117 H locs ls h hW hl; rw [f_X13_goes_117] at h; cases h
  | succ n ih =>
    intro l5_117 x_next_117 x_more_117 H locs ls h hW hl
    rw [f_X13_goes_117] at h
    refine lv_iload E.1 E.2.1 dX13_goes_117 (lv_at hl 4 rfl) ?_
    refine lv_iconst (v := 4) E.1 E.2.1 dX13_goes_119 (by decide) ?_
    refine lv_icmp_ge (tgt := 229) E.1 E.2.1 dX13_goes_120 (by decide) (fun c120 => ?_) (fun c120 => ?_)
    · have h := it c120 h
      exact hz229 x_next_117 x_more_117 H locs ls h hW (lv_sub hl [0, 1, 2, 3] rfl)
    · have h := ie c120 h
      refine lv_aload_n E.1 E.2.1 dX13_goes_123 rfl (lv_at hl 0 rfl) ?_
      refine wGet (v := .ref h8) E hK in_X13_goes_X13 hW 7 lk_X13_goes_32 0 rfl rfl (by decide) rfl rfl dX13_goes_124 ?_
      refine lv_iload E.1 E.2.1 dX13_goes_127 (lv_at hl 4 rfl) ?_
      refine lv_lconst (v := 0) E.1 E.2.1 dX13_goes_129 (by decide) ?_
      obtain ⟨hi130, h⟩ := ox h
      refine wLast (world' := (w_X13 g h0 h1 h2 h3 h4 h5 h6 h7 h8 h9 h10 h11 h12 h13 x_g x_kept x_saved x_before x_was x_region x_parts (vp_updL x_next_117 l5_117.toNatClampNeg 0) x_ways x_more_117 x_whole x_isSaved x_changes x_isWithin x_code x_input x_length x_fault x_failed x_signs x_signMany x_at x_told x_toldMany)) E hK hW 8 rfl hi130 dX13_goes_130 rfl (fun H locs hW => ?_)
      refine lv_aload_n E.1 E.2.1 dX13_goes_131 rfl (lv_at hl 0 rfl) ?_
      refine wGet (v := .ref h10) E hK in_X13_goes_X13 hW 9 lk_X13_goes_38 0 rfl rfl (by decide) rfl rfl dX13_goes_132 ?_
      refine lv_iload E.1 E.2.1 dX13_goes_135 (lv_at hl 4 rfl) ?_
      refine lv_iconst (v := 0) E.1 E.2.1 dX13_goes_137 (by decide) ?_
      refine wIast (world' := (w_X13 g h0 h1 h2 h3 h4 h5 h6 h7 h8 h9 h10 h11 h12 h13 x_g x_kept x_saved x_before x_was x_region x_parts (vp_updL x_next_117 l5_117.toNatClampNeg 0) x_ways (upd x_more_117 l5_117.toNatClampNeg 0) x_whole x_isSaved x_changes x_isWithin x_code x_input x_length x_fault x_failed x_signs x_signMany x_at x_told x_toldMany)) E hK hW 10 rfl hi130 dX13_goes_138 rfl (fun H locs hW => ?_)
      refine lv_iconst (v := 0) E.1 E.2.1 dX13_goes_139 (by decide) ?_
      refine lv_istore (lv' := [(6, .int 0), (0, .ref h0), (1, .int l1), (2, .long l2), (4, .int l4), (5, .int l5_117)]) E.1 E.2.1 dX13_goes_140 hl (by decide) rfl (fun ls hl => ?_)
      refine k_X13_goes_142 E hK hA ?_ 1000 0 (vp_updL x_next_117 l5_117.toNatClampNeg 0) (upd x_more_117 l5_117.toNatClampNeg 0) H locs ls h hW (lv_sub hl [1, 2, 3, 4, 5, 0] rfl)
      · intro x_next_223e x_more_223e H locs ls h hW hl
        refine lv_iinc (v := (l5_117 + 1)) (lv' := [(5, .int (l5_117 + 1)), (0, .ref h0), (1, .int l1), (2, .long l2), (4, .int l4)]) E.1 E.2.1 dX13_goes_223 hl (k := 4) rfl rfl (by decide) rfl (fun ls hl => ?_)
        refine lv_goto (tgt := 117) E.1 E.2.1 dX13_goes_226 (by decide) ?_
        exact ih (l5_117 + 1) x_next_223e x_more_223e H locs ls h hW (lv_sub hl [1, 2, 3, 4, 0] rfl)
set_option maxHeartbeats 4000000 in
set_option maxRecDepth 100000 in
theorem k_X13_goes_232 {p : Program} {l : Launch} {e : Env} {s : State} {m : MethodId} {args : Array Value} {below : List Frame} {meth : Method} {c : Code} {g : GE} {A : Nat → Prop} {h0 h1 h2 h3 h4 h5 h6 h7 h8 h9 h10 h11 h12 h13 : Nat} {x_g : Nat → Int32} {x_kept : Nat → Int32} {x_saved : Nat → Int32} {x_before : Nat → Int32} {x_was : Nat → Int32} {x_region : Nat → Int32} {x_next : Nat → Int64} {x_more : Nat → Int32} {x_whole : Int64} {x_isSaved : Int32} {x_changes : Int32} {x_isWithin : Int32} {x_code : Int32} {x_input : Nat → Int32} {x_length : Int32} {x_fault : Int32} {x_failed : Int32} {x_signs : Nat → Int32} {x_signMany : Int32} {x_at : Int32} {x_told : Nat → Int32} {x_toldMany : Int32} {res : (Nat → Int64) × (Nat → Int64) × (Nat → Int32) × (Nat → Int32) × Int64} {l1 : Int32} {l2 : Int64} {l4 : Int32} {z272 : (Nat → Int64) → (Nat → Int32) → Option ((Nat → Int64) × (Nat → Int64) × (Nat → Int32) × (Nat → Int32) × Int64)}
    (E : En cX13_goes RX13 wsX13_goes 7 none p s m args meth c) (hK : KK g s) (hA : ∀ q, s.heap.size ≤ q → A q)
    (hz272 : ∀ (x_parts_272e : Nat → Int64) (x_ways_272e : Nat → Int32) (H : Heap) (locs : List Loc) (ls : Array Slot), z272 x_parts_272e x_ways_272e = some res → Wo g A s H locs (w_X13 g h0 h1 h2 h3 h4 h5 h6 h7 h8 h9 h10 h11 h12 h13 x_g x_kept x_saved x_before x_was x_region x_parts_272e x_next x_ways_272e x_more x_whole x_isSaved x_changes x_isWithin x_code x_input x_length x_fault x_failed x_signs x_signMany x_at x_told x_toldMany) → lv_has ls 7 [(0, .ref h0), (1, .int l1), (2, .long l2), (4, .int l4)] → G_X13_goes p l e s m args below meth c g A h0 h1 h2 h3 h4 h5 h6 h7 h8 h9 h10 h11 h12 h13 x_g x_kept x_saved x_before x_was x_region x_isSaved x_changes x_isWithin x_code x_input x_length x_fault x_failed x_signs x_signMany x_at x_told x_toldMany res H locs 272 ls [])
    : ∀ (n : Nat) (l5_232 : Int32) (x_parts_232 : Nat → Int64) (x_ways_232 : Nat → Int32) (H : Heap) (locs : List Loc) (ls : Array Slot), f_X13_goes_232 x_next x_more z272 n l5_232 x_parts_232 x_ways_232 = some res → Wo g A s H locs (w_X13 g h0 h1 h2 h3 h4 h5 h6 h7 h8 h9 h10 h11 h12 h13 x_g x_kept x_saved x_before x_was x_region x_parts_232 x_next x_ways_232 x_more x_whole x_isSaved x_changes x_isWithin x_code x_input x_length x_fault x_failed x_signs x_signMany x_at x_told x_toldMany) → lv_has ls 7 [(0, .ref h0), (1, .int l1), (2, .long l2), (4, .int l4), (5, .int l5_232)] → G_X13_goes p l e s m args below meth c g A h0 h1 h2 h3 h4 h5 h6 h7 h8 h9 h10 h11 h12 h13 x_g x_kept x_saved x_before x_was x_region x_isSaved x_changes x_isWithin x_code x_input x_length x_fault x_failed x_signs x_signMany x_at x_told x_toldMany res H locs 232 ls [] := by
  have hts := E.2.2.2.1
  intro n
  induction n with
  | zero => intro l5_232 x_parts_232 x_ways_232 H locs ls h hW hl; rw [f_X13_goes_232] at h; cases h
  | succ n ih =>
    intro l5_232 x_parts_232 x_ways_232 H locs ls h hW hl
    rw [f_X13_goes_232] at h
    refine lv_iload E.1 E.2.1 dX13_goes_232 (lv_at hl 4 rfl) ?_
    refine lv_iconst (v := 4) E.1 E.2.1 dX13_goes_234 (by decide) ?_
    refine lv_icmp_ge (tgt := 272) E.1 E.2.1 dX13_goes_235 (by decide) (fun c235 => ?_) (fun c235 => ?_)
    · have h := it c235 h
      exact hz272 x_parts_232 x_ways_232 H locs ls h hW (lv_sub hl [0, 1, 2, 3] rfl)
    · have h := ie c235 h
      refine lv_aload_n E.1 E.2.1 dX13_goes_238 rfl (lv_at hl 0 rfl) ?_
      refine wGet (v := .ref h7) E hK in_X13_goes_X13 hW 6 lk_X13_goes_28 0 rfl rfl (by decide) rfl rfl dX13_goes_239 ?_
      refine lv_iload E.1 E.2.1 dX13_goes_242 (lv_at hl 4 rfl) ?_
      refine lv_aload_n E.1 E.2.1 dX13_goes_244 rfl (lv_at hl 0 rfl) ?_
      refine wGet (v := .ref h8) E hK in_X13_goes_X13 hW 7 lk_X13_goes_32 0 rfl rfl (by decide) rfl rfl dX13_goes_245 ?_
      refine lv_iload E.1 E.2.1 dX13_goes_248 (lv_at hl 4 rfl) ?_
      obtain ⟨hi250, h⟩ := ox h
      refine wLald E hK hW 8 rfl hi250 dX13_goes_250 ?_
      refine wLast (world' := (w_X13 g h0 h1 h2 h3 h4 h5 h6 h7 h8 h9 h10 h11 h12 h13 x_g x_kept x_saved x_before x_was x_region (vp_updL x_parts_232 l5_232.toNatClampNeg (x_next l5_232.toNatClampNeg)) x_next x_ways_232 x_more x_whole x_isSaved x_changes x_isWithin x_code x_input x_length x_fault x_failed x_signs x_signMany x_at x_told x_toldMany)) E hK hW 7 rfl hi250 dX13_goes_251 rfl (fun H locs hW => ?_)
      refine lv_aload_n E.1 E.2.1 dX13_goes_252 rfl (lv_at hl 0 rfl) ?_
      refine wGet (v := .ref h9) E hK in_X13_goes_X13 hW 8 lk_X13_goes_35 0 rfl rfl (by decide) rfl rfl dX13_goes_253 ?_
      refine lv_iload E.1 E.2.1 dX13_goes_256 (lv_at hl 4 rfl) ?_
      refine lv_aload_n E.1 E.2.1 dX13_goes_258 rfl (lv_at hl 0 rfl) ?_
      refine wGet (v := .ref h10) E hK in_X13_goes_X13 hW 9 lk_X13_goes_38 0 rfl rfl (by decide) rfl rfl dX13_goes_259 ?_
      refine lv_iload E.1 E.2.1 dX13_goes_262 (lv_at hl 4 rfl) ?_
      refine wIald E hK hW 10 rfl hi250 dX13_goes_264 ?_
      refine wIast (world' := (w_X13 g h0 h1 h2 h3 h4 h5 h6 h7 h8 h9 h10 h11 h12 h13 x_g x_kept x_saved x_before x_was x_region (vp_updL x_parts_232 l5_232.toNatClampNeg (x_next l5_232.toNatClampNeg)) x_next (upd x_ways_232 l5_232.toNatClampNeg (x_more l5_232.toNatClampNeg)) x_more x_whole x_isSaved x_changes x_isWithin x_code x_input x_length x_fault x_failed x_signs x_signMany x_at x_told x_toldMany)) E hK hW 9 rfl hi250 dX13_goes_265 rfl (fun H locs hW => ?_)
      refine lv_iinc (v := (l5_232 + 1)) (lv' := [(5, .int (l5_232 + 1)), (0, .ref h0), (1, .int l1), (2, .long l2), (4, .int l4)]) E.1 E.2.1 dX13_goes_266 hl (k := 4) rfl rfl (by decide) rfl (fun ls hl => ?_)
      refine lv_goto (tgt := 232) E.1 E.2.1 dX13_goes_269 (by decide) ?_
      exact ih (l5_232 + 1) (vp_updL x_parts_232 l5_232.toNatClampNeg (x_next l5_232.toNatClampNeg)) (upd x_ways_232 l5_232.toNatClampNeg (x_more l5_232.toNatClampNeg)) H locs ls h hW (lv_sub hl [1, 2, 3, 4, 0] rfl)
set_option maxHeartbeats 4000000 in
set_option maxRecDepth 100000 in
theorem k_X13_goes_108 {p : Program} {l : Launch} {e : Env} {s : State} {m : MethodId} {args : Array Value} {below : List Frame} {meth : Method} {c : Code} {g : GE} {A : Nat → Prop} {h0 h1 h2 h3 h4 h5 h6 h7 h8 h9 h10 h11 h12 h13 : Nat} {x_g : Nat → Int32} {x_kept : Nat → Int32} {x_saved : Nat → Int32} {x_before : Nat → Int32} {x_was : Nat → Int32} {x_region : Nat → Int32} {x_isSaved : Int32} {x_changes : Int32} {x_isWithin : Int32} {x_code : Int32} {x_input : Nat → Int32} {x_length : Int32} {x_fault : Int32} {x_failed : Int32} {x_signs : Nat → Int32} {x_signMany : Int32} {x_at : Int32} {x_told : Nat → Int32} {x_toldMany : Int32} {res : (Nat → Int64) × (Nat → Int64) × (Nat → Int32) × (Nat → Int32) × Int64} {l1 : Int32} {l2 : Int64} {z288 : (Nat → Int64) → (Nat → Int64) → (Nat → Int32) → (Nat → Int32) → Int64 → Option ((Nat → Int64) × (Nat → Int64) × (Nat → Int32) × (Nat → Int32) × Int64)}
    (E : En cX13_goes RX13 wsX13_goes 7 none p s m args meth c) (hK : KK g s) (hA : ∀ q, s.heap.size ≤ q → A q)
    (hz288 : ∀ (x_parts_288e : Nat → Int64) (x_next_288e : Nat → Int64) (x_ways_288e : Nat → Int32) (x_more_288e : Nat → Int32) (x_whole_288e : Int64) (H : Heap) (locs : List Loc) (ls : Array Slot), z288 x_parts_288e x_next_288e x_ways_288e x_more_288e x_whole_288e = some res → Wo g A s H locs (w_X13 g h0 h1 h2 h3 h4 h5 h6 h7 h8 h9 h10 h11 h12 h13 x_g x_kept x_saved x_before x_was x_region x_parts_288e x_next_288e x_ways_288e x_more_288e x_whole_288e x_isSaved x_changes x_isWithin x_code x_input x_length x_fault x_failed x_signs x_signMany x_at x_told x_toldMany) → lv_has ls 7 [] → G_X13_goes p l e s m args below meth c g A h0 h1 h2 h3 h4 h5 h6 h7 h8 h9 h10 h11 h12 h13 x_g x_kept x_saved x_before x_was x_region x_isSaved x_changes x_isWithin x_code x_input x_length x_fault x_failed x_signs x_signMany x_at x_told x_toldMany res H locs 288 ls [])
    : ∀ (n : Nat) (l4_108 : Int32) (x_parts_108 : Nat → Int64) (x_next_108 : Nat → Int64) (x_ways_108 : Nat → Int32) (x_more_108 : Nat → Int32) (x_whole_108 : Int64) (H : Heap) (locs : List Loc) (ls : Array Slot), f_X13_goes_108 x_g l1 l2 z288 n l4_108 x_parts_108 x_next_108 x_ways_108 x_more_108 x_whole_108 = some res → Wo g A s H locs (w_X13 g h0 h1 h2 h3 h4 h5 h6 h7 h8 h9 h10 h11 h12 h13 x_g x_kept x_saved x_before x_was x_region x_parts_108 x_next_108 x_ways_108 x_more_108 x_whole_108 x_isSaved x_changes x_isWithin x_code x_input x_length x_fault x_failed x_signs x_signMany x_at x_told x_toldMany) → lv_has ls 7 [(0, .ref h0), (1, .int l1), (2, .long l2), (4, .int l4_108)] → G_X13_goes p l e s m args below meth c g A h0 h1 h2 h3 h4 h5 h6 h7 h8 h9 h10 h11 h12 h13 x_g x_kept x_saved x_before x_was x_region x_isSaved x_changes x_isWithin x_code x_input x_length x_fault x_failed x_signs x_signMany x_at x_told x_toldMany res H locs 108 ls [] := by
  have hts := E.2.2.2.1
  intro n
  induction n with
  | zero => intro l4_108 x_parts_108 x_next_108 x_ways_108 x_more_108 x_whole_108 H locs ls h hW hl; rw [f_X13_goes_108] at h; cases h
  | succ n ih =>
    intro l4_108 x_parts_108 x_next_108 x_ways_108 x_more_108 x_whole_108 H locs ls h hW hl
    rw [f_X13_goes_108] at h
    refine lv_iload E.1 E.2.1 dX13_goes_108 (lv_at hl 3 rfl) ?_
    refine lv_iload_n E.1 E.2.1 dX13_goes_110 rfl (lv_at hl 1 rfl) ?_
    refine lv_icmp_ge (tgt := 288) E.1 E.2.1 dX13_goes_111 (by decide) (fun c111 => ?_) (fun c111 => ?_)
    · have h := it c111 h
      exact hz288 x_parts_108 x_next_108 x_ways_108 x_more_108 x_whole_108 H locs ls h hW (lv_sub hl [] rfl)
    · have h := ie c111 h
      refine lv_iconst (v := 0) E.1 E.2.1 dX13_goes_114 (by decide) ?_
      refine lv_istore (lv' := [(5, .int 0), (0, .ref h0), (1, .int l1), (2, .long l2), (4, .int l4_108)]) E.1 E.2.1 dX13_goes_115 hl (by decide) rfl (fun ls hl => ?_)
      refine k_X13_goes_117 E hK hA ?_ 1000 0 x_next_108 x_more_108 H locs ls h hW (lv_sub hl [1, 2, 3, 4, 0] rfl)
      · intro x_next_229e x_more_229e H locs ls h hW hl
        refine lv_iconst (v := 0) E.1 E.2.1 dX13_goes_229 (by decide) ?_
        refine lv_istore (lv' := [(5, .int 0), (0, .ref h0), (1, .int l1), (2, .long l2), (4, .int l4_108)]) E.1 E.2.1 dX13_goes_230 hl (by decide) rfl (fun ls hl => ?_)
        refine k_X13_goes_232 E hK hA ?_ 1000 0 x_parts_108 x_ways_108 H locs ls h hW (lv_sub hl [1, 2, 3, 4, 0] rfl)
        · intro x_parts_272e x_ways_272e H locs ls h hW hl
          refine lv_aload_n E.1 E.2.1 dX13_goes_272 rfl (lv_at hl 0 rfl) ?_
          refine lv_dup E.1 E.2.1 dX13_goes_273 rfl ?_
          refine wGet (v := .long x_whole_108) E hK in_X13_goes_X13 hW 10 lk_X13_goes_133 0 rfl rfl (by decide) rfl rfl dX13_goes_274 ?_
          refine lv_lload_n E.1 E.2.1 dX13_goes_277 rfl (lv_at hl 2 rfl) ?_
          refine lv_lmul E.1 E.2.1 dX13_goes_278 ?_
          refine wPut (world' := (w_X13 g h0 h1 h2 h3 h4 h5 h6 h7 h8 h9 h10 h11 h12 h13 x_g x_kept x_saved x_before x_was x_region x_parts_272e x_next_229e x_ways_272e x_more_229e (x_whole_108 * l2) x_isSaved x_changes x_isWithin x_code x_input x_length x_fault x_failed x_signs x_signMany x_at x_told x_toldMany)) E hK in_X13_goes_X13 tyX13 tyX13_ok nmX13 hW 10 lk_X13_goes_133 0 rfl rfl (by decide) rfl rfl rfl rfl rfl (Nat.le_of_ble_eq_true rfl) dX13_goes_279 rfl (fun H locs hW => ?_)
          refine lv_iinc (v := (l4_108 + 1)) (lv' := [(4, .int (l4_108 + 1)), (0, .ref h0), (1, .int l1), (2, .long l2)]) E.1 E.2.1 dX13_goes_282 hl (k := 3) rfl rfl (by decide) rfl (fun ls hl => ?_)
          refine lv_goto (tgt := 108) E.1 E.2.1 dX13_goes_285 (by decide) ?_
          exact ih (l4_108 + 1) x_parts_272e x_next_229e x_ways_272e x_more_229e (x_whole_108 * l2) H locs ls h hW (lv_sub hl [1, 2, 3, 0] rfl)
set_option maxHeartbeats 4000000 in
set_option maxRecDepth 100000 in
theorem k_X13_goes_0 {p : Program} {l : Launch} {e : Env} {s : State} {m : MethodId} {args : Array Value} {below : List Frame} {meth : Method} {c : Code} {g : GE} {A : Nat → Prop} {h0 h1 h2 h3 h4 h5 h6 h7 h8 h9 h10 h11 h12 h13 : Nat} {x_g : Nat → Int32} {x_kept : Nat → Int32} {x_saved : Nat → Int32} {x_before : Nat → Int32} {x_was : Nat → Int32} {x_region : Nat → Int32} {x_parts : Nat → Int64} {x_next : Nat → Int64} {x_ways : Nat → Int32} {x_more : Nat → Int32} {x_whole : Int64} {x_isSaved : Int32} {x_changes : Int32} {x_isWithin : Int32} {x_code : Int32} {x_input : Nat → Int32} {x_length : Int32} {x_fault : Int32} {x_failed : Int32} {x_signs : Nat → Int32} {x_signMany : Int32} {x_at : Int32} {x_told : Nat → Int32} {x_toldMany : Int32} {res : (Nat → Int64) × (Nat → Int64) × (Nat → Int32) × (Nat → Int32) × Int64} {H : Heap} {locs : List Loc} {ls : Array Slot} {a1 : Int32}
    (E : En cX13_goes RX13 wsX13_goes 7 none p s m args meth c) (hK : KK g s) (hA : ∀ q, s.heap.size ≤ q → A q) (h : f_X13_goes x_g x_parts x_next x_ways x_more x_whole a1 = some res) (hW : Wo g A s H locs (w_X13 g h0 h1 h2 h3 h4 h5 h6 h7 h8 h9 h10 h11 h12 h13 x_g x_kept x_saved x_before x_was x_region x_parts x_next x_ways x_more x_whole x_isSaved x_changes x_isWithin x_code x_input x_length x_fault x_failed x_signs x_signMany x_at x_told x_toldMany)) (hl : lv_has ls 7 [(0, .ref h0), (1, .int a1)]) : G_X13_goes p l e s m args below meth c g A h0 h1 h2 h3 h4 h5 h6 h7 h8 h9 h10 h11 h12 h13 x_g x_kept x_saved x_before x_was x_region x_isSaved x_changes x_isWithin x_code x_input x_length x_fault x_failed x_signs x_signMany x_at x_told x_toldMany res H locs 0 ls [] := by
  have hts := E.2.2.2.1
  unfold f_X13_goes at h
  refine lv_lconst (v := 1) E.1 E.2.1 dX13_goes_0 (by decide) ?_
  refine lv_lstore_n (lv' := [(2, .long 1), (0, .ref h0), (1, .int a1)]) E.1 E.2.1 dX13_goes_1 rfl hl (by decide) rfl (fun ls hl => ?_)
  refine lv_iconst (v := 0) E.1 E.2.1 dX13_goes_2 (by decide) ?_
  refine lv_istore (lv' := [(4, .int 0), (2, .long 1), (0, .ref h0), (1, .int a1)]) E.1 E.2.1 dX13_goes_3 hl (by decide) rfl (fun ls hl => ?_)
  refine k_X13_goes_5 E hK hA ?_ 1000 1 0 H locs ls h hW (lv_sub hl [2, 3, 1, 0] rfl)
  · intro l2_39e H locs ls h hW hl
    refine lv_iconst (v := 0) E.1 E.2.1 dX13_goes_39 (by decide) ?_
    refine lv_istore (lv' := [(4, .int 0), (0, .ref h0), (1, .int a1), (2, .long l2_39e)]) E.1 E.2.1 dX13_goes_40 hl (by decide) rfl (fun ls hl => ?_)
    refine k_X13_goes_42 E hK hA ?_ 1000 0 x_parts x_ways H locs ls h hW (lv_sub hl [1, 2, 3, 0] rfl)
    · intro x_parts_100e x_ways_100e H locs ls h hW hl
      refine lv_aload_n E.1 E.2.1 dX13_goes_100 rfl (lv_at hl 0 rfl) ?_
      refine lv_lconst (v := 1) E.1 E.2.1 dX13_goes_101 (by decide) ?_
      refine wPut (world' := (w_X13 g h0 h1 h2 h3 h4 h5 h6 h7 h8 h9 h10 h11 h12 h13 x_g x_kept x_saved x_before x_was x_region x_parts_100e x_next x_ways_100e x_more 1 x_isSaved x_changes x_isWithin x_code x_input x_length x_fault x_failed x_signs x_signMany x_at x_told x_toldMany)) E hK in_X13_goes_X13 tyX13 tyX13_ok nmX13 hW 10 lk_X13_goes_133 0 rfl rfl (by decide) rfl rfl rfl rfl rfl (Nat.le_of_ble_eq_true rfl) dX13_goes_102 rfl (fun H locs hW => ?_)
      refine lv_iconst (v := 0) E.1 E.2.1 dX13_goes_105 (by decide) ?_
      refine lv_istore (lv' := [(4, .int 0), (0, .ref h0), (1, .int a1), (2, .long l2_39e)]) E.1 E.2.1 dX13_goes_106 hl (by decide) rfl (fun ls hl => ?_)
      refine k_X13_goes_108 E hK hA ?_ 1000 0 x_parts_100e x_next x_ways_100e x_more 1 H locs ls h hW (lv_sub hl [1, 2, 3, 0] rfl)
      · intro x_parts_288e x_next_288e x_ways_288e x_more_288e x_whole_288e H locs ls h hW hl
        obtain rfl := Option.some.inj h
        exact endV E hW dX13_goes_288
theorem c_X13_goes (l : Launch) (g : GE) (h0 h1 h2 h3 h4 h5 h6 h7 h8 h9 h10 h11 h12 h13 : Nat) (x_g : Nat → Int32) (x_kept : Nat → Int32) (x_saved : Nat → Int32) (x_before : Nat → Int32) (x_was : Nat → Int32) (x_region : Nat → Int32) (x_parts : Nat → Int64) (x_next : Nat → Int64) (x_ways : Nat → Int32) (x_more : Nat → Int32) (x_whole : Int64) (x_isSaved : Int32) (x_changes : Int32) (x_isWithin : Int32) (x_code : Int32) (x_input : Nat → Int32) (x_length : Int32) (x_fault : Int32) (x_failed : Int32) (x_signs : Nat → Int32) (x_signMany : Int32) (x_at : Int32) (x_told : Nat → Int32) (x_toldMany : Int32) (a1 : Int32) {res : (Nat → Int64) × (Nat → Int64) × (Nat → Int32) × (Nat → Int32) × Int64} (hf : f_X13_goes x_g x_parts x_next x_ways x_more x_whole a1 = some res) : CV l yX13_goes wsX13_goes rm_X13_goes g [.ref h0, .int a1] (w_X13 g h0 h1 h2 h3 h4 h5 h6 h7 h8 h9 h10 h11 h12 h13 x_g x_kept x_saved x_before x_was x_region x_parts x_next x_ways x_more x_whole x_isSaved x_changes x_isWithin x_code x_input x_length x_fault x_failed x_signs x_signMany x_at x_told x_toldMany) (w_X13 g h0 h1 h2 h3 h4 h5 h6 h7 h8 h9 h10 h11 h12 h13 x_g x_kept x_saved x_before x_was x_region res.1 res.2.1 res.2.2.1 res.2.2.2.1 res.2.2.2.2 x_isSaved x_changes x_isWithin x_code x_input x_length x_fault x_failed x_signs x_signMany x_at x_told x_toldMany) :=
  mkV (cc := cX13_goes) (maxL := 7) (by decide) rfl (Nat.le_of_ble_eq_true rfl) (fun p e s m args below meth c A H locs ls E hK hA hW hl => k_X13_goes_0 E hK hA hf hW hl)

/-! PaperStormModel.isSoon(I)Z X13_isSoon -/
abbrev rm_X13_isSoon : Room := { frames := 1, cells := 0, slots := 0, locals := 22 }
noncomputable def f_X13_isSoon (a0 : Int32) : Option (Int32) :=
  (f_X13_in a0 0 3).bind fun r3 => if ¬ vp_nar .boolean r3 = r3 then none else some (r3)
abbrev G_X13_isSoon (p : Program) (l : Launch) (e : Env) (s : State) (m : MethodId) (args : Array Value) (below : List Frame) (meth : Method) (c : Code) (g : GE) (A : Nat → Prop) (res : Int32) (H : Heap) (locs : List Loc) (pc : Nat) (ls : Array Slot) (st : List Value) : Prop := W p l e (headSpec wsX13_isSoon rm_X13_isSoon).room s m args below meth c H locs 0 0 (MQ below (PoI g A ([] : va_W) res) args s 0 0 A) (F0 m pc ls st)
set_option maxHeartbeats 4000000 in
set_option maxRecDepth 100000 in
theorem k_X13_isSoon_0 {p : Program} {l : Launch} {e : Env} {s : State} {m : MethodId} {args : Array Value} {below : List Frame} {meth : Method} {c : Code} {g : GE} {A : Nat → Prop} {res : Int32} {H : Heap} {locs : List Loc} {ls : Array Slot} {a0 : Int32}
    (E : En cX13_isSoon RX13 wsX13_isSoon 1 (some .boolean) p s m args meth c) (hK : KK g s) (hA : ∀ q, s.heap.size ≤ q → A q) (h : f_X13_isSoon a0 = some res) (hW : Wo g A s H locs ([] : va_W)) (hl : lv_has ls 1 [(0, .int a0)]) : G_X13_isSoon p l e s m args below meth c g A res H locs 0 ls [] := by
  have hts := E.2.2.2.1
  unfold f_X13_isSoon at h
  refine lv_iload_n E.1 E.2.1 dX13_isSoon_0 rfl (lv_at hl 0 rfl) ?_
  refine lv_iconst (v := 0) E.1 E.2.1 dX13_isSoon_1 (by decide) ?_
  refine lv_iconst (v := 3) E.1 E.2.1 dX13_isSoon_2 (by decide) ?_
  obtain ⟨r3, hc, h⟩ := bx h
  refine goI (world' := ([] : va_W)) hW hA (is := []) rfl (goS (rest := []) E hK hW [] rfl rfl (c_X13_in l g a0 0 3 (hf := hc) H.size) (va_cwS 3 hts gX13_isSoon_X13_in rfl rfl rfl (by decide +kernel) ⟨Nat.le_of_ble_eq_true rfl, Nat.le_of_ble_eq_true rfl⟩) hl.1 rfl rfl (Nat.le_of_ble_eq_true rfl) dX13_isSoon_3 ⟨Nat.zero_le _, Nat.zero_le _⟩) rfl rfl (fun H locs hW => ?_)
  obtain ⟨hz, h⟩ := ox h
  obtain rfl := Option.some.inj h
  exact endI E (nar_z (Decidable.not_not.mp hz)) hW dX13_isSoon_6
theorem c_X13_isSoon (l : Launch) (g : GE) (a0 : Int32) {res : Int32} (hf : f_X13_isSoon a0 = some res) : CI l yX13_isSoon wsX13_isSoon rm_X13_isSoon g [.int a0] ([] : va_W) ([] : va_W) res :=
  mkI (cc := cX13_isSoon) (maxL := 1) (by decide) rfl (Nat.le_of_ble_eq_true rfl) (fun p e s m args below meth c A H locs ls E hK hA hW hl => k_X13_isSoon_0 E hK hA hf hW hl)

