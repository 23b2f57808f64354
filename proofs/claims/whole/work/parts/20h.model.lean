/-! PaperStormModel.lineAt(I)C X13_lineAt -/
abbrev rm_X13_lineAt : Room := { frames := 1, cells := 0, slots := 0, locals := 22 }
theorem in_X13_lineAt_X13 : ∀ w ∈ wsX130, w ∈ wsX13_lineAt := by decide +kernel
theorem lk_X13_lineAt_169 : Cond.fieldLink RX13 169 "PaperStormModel" "signMany" "I" ∈ wsX13_lineAt := by decide +kernel
theorem lk_X13_lineAt_51 : Cond.fieldLink RX13 51 "PaperStormModel" "signs" "[C" ∈ wsX13_lineAt := by decide +kernel
noncomputable def f_X13_lineAt (x_code : Int32) (x_signs : Nat → Int32) (x_signMany : Int32) (a1 : Int32) : Option (Int32 × Int32) :=
  jo (fun (s1_20 : Int32) => jo (fun (x_code_37 : Int32) (s0_37 : Int32) => if ¬ vp_nar .char s0_37 = s0_37 then none else some (s0_37, x_code_37)) (fun j37 => (f_X13_fails x_code s1_20).bind fun r20 => if r20.1 = 0 then if a1 < 0 ∨ 180 ≤ a1.toNatClampNeg then none else j37 r20.2 (x_signs a1.toNatClampNeg) else j37 r20.2 32)) (fun j20 => (f_X13_in a1 0 (x_signMany - 1)).bind fun r9 => if r9 = 0 then j20 1 else j20 0)
abbrev G_X13_lineAt (p : Program) (l : Launch) (e : Env) (s : State) (m : MethodId) (args : Array Value) (below : List Frame) (meth : Method) (c : Code) (g : GE) (A : Nat → Prop) (h0 h1 h2 h3 h4 h5 h6 h7 h8 h9 h10 h11 h12 h13 : Nat) (x_g : Nat → Int32) (x_kept : Nat → Int32) (x_saved : Nat → Int32) (x_before : Nat → Int32) (x_was : Nat → Int32) (x_region : Nat → Int32) (x_parts : Nat → Int64) (x_next : Nat → Int64) (x_ways : Nat → Int32) (x_more : Nat → Int32) (x_whole : Int64) (x_isSaved : Int32) (x_changes : Int32) (x_isWithin : Int32) (x_input : Nat → Int32) (x_length : Int32) (x_fault : Int32) (x_failed : Int32) (x_signs : Nat → Int32) (x_signMany : Int32) (x_at : Int32) (x_told : Nat → Int32) (x_toldMany : Int32) (res : Int32 × Int32) (H : Heap) (locs : List Loc) (pc : Nat) (ls : Array Slot) (st : List Value) : Prop := W p l e (headSpec wsX13_lineAt rm_X13_lineAt).room s m args below meth c H locs 0 0 (MQ below (PoI g A (w_X13 g h0 h1 h2 h3 h4 h5 h6 h7 h8 h9 h10 h11 h12 h13 x_g x_kept x_saved x_before x_was x_region x_parts x_next x_ways x_more x_whole x_isSaved x_changes x_isWithin res.2 x_input x_length x_fault x_failed x_signs x_signMany x_at x_told x_toldMany) res.1) args s 0 0 A) (F0 m pc ls st)
set_option maxHeartbeats 4000000 in
set_option maxRecDepth 100000 in
theorem k_X13_lineAt_0 {p : Program} {l : Launch} {e : Env} {s : State} {m : MethodId} {args : Array Value} {below : List Frame} {meth : Method} {c : Code} {g : GE} {A : Nat → Prop} {h0 h1 h2 h3 h4 h5 h6 h7 h8 h9 h10 h11 h12 h13 : Nat} {x_g : Nat → Int32} {x_kept : Nat → Int32} {x_saved : Nat → Int32} {x_before : Nat → Int32} {x_was : Nat → Int32} {x_region : Nat → Int32} {x_parts : Nat → Int64} {x_next : Nat → Int64} {x_ways : Nat → Int32} {x_more : Nat → Int32} {x_whole : Int64} {x_isSaved : Int32} {x_changes : Int32} {x_isWithin : Int32} {x_code : Int32} {x_input : Nat → Int32} {x_length : Int32} {x_fault : Int32} {x_failed : Int32} {x_signs : Nat → Int32} {x_signMany : Int32} {x_at : Int32} {x_told : Nat → Int32} {x_toldMany : Int32} {res : Int32 × Int32} {H : Heap} {locs : List Loc} {ls : Array Slot} {a1 : Int32}
    (E : En cX13_lineAt RX13 wsX13_lineAt 2 (some .char) p s m args meth c) (hK : KK g s) (hA : ∀ q, s.heap.size ≤ q → A q) (h : f_X13_lineAt x_code x_signs x_signMany a1 = some res) (hW : Wo g A s H locs (w_X13 g h0 h1 h2 h3 h4 h5 h6 h7 h8 h9 h10 h11 h12 h13 x_g x_kept x_saved x_before x_was x_region x_parts x_next x_ways x_more x_whole x_isSaved x_changes x_isWithin x_code x_input x_length x_fault x_failed x_signs x_signMany x_at x_told x_toldMany)) (hl : lv_has ls 2 [(0, .ref h0), (1, .int a1)]) : G_X13_lineAt p l e s m args below meth c g A h0 h1 h2 h3 h4 h5 h6 h7 h8 h9 h10 h11 h12 h13 x_g x_kept x_saved x_before x_was x_region x_parts x_next x_ways x_more x_whole x_isSaved x_changes x_isWithin x_input x_length x_fault x_failed x_signs x_signMany x_at x_told x_toldMany res H locs 0 ls [] := by
  have hts := E.2.2.2.1
  unfold f_X13_lineAt at h
  obtain ⟨j20, hj20, h⟩ := jox1 h
  have J20 : ∀ (s1_20 : Int32) (H : Heap) (locs : List Loc) (ls : Array Slot), j20 s1_20 = some res → Wo g A s H locs (w_X13 g h0 h1 h2 h3 h4 h5 h6 h7 h8 h9 h10 h11 h12 h13 x_g x_kept x_saved x_before x_was x_region x_parts x_next x_ways x_more x_whole x_isSaved x_changes x_isWithin x_code x_input x_length x_fault x_failed x_signs x_signMany x_at x_told x_toldMany) → lv_has ls 2 [(0, .ref h0), (1, .int a1)] → G_X13_lineAt p l e s m args below meth c g A h0 h1 h2 h3 h4 h5 h6 h7 h8 h9 h10 h11 h12 h13 x_g x_kept x_saved x_before x_was x_region x_parts x_next x_ways x_more x_whole x_isSaved x_changes x_isWithin x_input x_length x_fault x_failed x_signs x_signMany x_at x_told x_toldMany res H locs 20 ls [.int s1_20, .ref h0] := by
    intro s1_20 H locs ls h hW hl
    rw [hj20] at h
    obtain ⟨j37, hj37, h⟩ := jox2 h
    have J37 : ∀ (x_code_37 : Int32) (s0_37 : Int32) (H : Heap) (locs : List Loc) (ls : Array Slot), j37 x_code_37 s0_37 = some res → Wo g A s H locs (w_X13 g h0 h1 h2 h3 h4 h5 h6 h7 h8 h9 h10 h11 h12 h13 x_g x_kept x_saved x_before x_was x_region x_parts x_next x_ways x_more x_whole x_isSaved x_changes x_isWithin x_code_37 x_input x_length x_fault x_failed x_signs x_signMany x_at x_told x_toldMany) → lv_has ls 2 [] → G_X13_lineAt p l e s m args below meth c g A h0 h1 h2 h3 h4 h5 h6 h7 h8 h9 h10 h11 h12 h13 x_g x_kept x_saved x_before x_was x_region x_parts x_next x_ways x_more x_whole x_isSaved x_changes x_isWithin x_input x_length x_fault x_failed x_signs x_signMany x_at x_told x_toldMany res H locs 37 ls [.int s0_37] := by
      intro x_code_37 s0_37 H locs ls h hW hl
      rw [hj37] at h
      obtain ⟨hz, h⟩ := ox h
      obtain rfl := Option.some.inj h
      exact endI E (nar_c (Decidable.not_not.mp hz)) hW dX13_lineAt_37
    obtain ⟨r20, hc, h⟩ := bx h
    refine goI (world' := (w_X13 g h0 h1 h2 h3 h4 h5 h6 h7 h8 h9 h10 h11 h12 h13 x_g x_kept x_saved x_before x_was x_region x_parts x_next x_ways x_more x_whole x_isSaved x_changes x_isWithin r20.2 x_input x_length x_fault x_failed x_signs x_signMany x_at x_told x_toldMany)) hW hA (is := [0, 1, 2, 3, 4, 5, 6, 7, 8, 9, 10, 11, 12, 13]) rfl (goV (rest := []) E hK hW [0, 1, 2, 3, 4, 5, 6, 7, 8, 9, 10, 11, 12, 13] rfl rfl (c_X13_fails l g h0 h1 h2 h3 h4 h5 h6 h7 h8 h9 h10 h11 h12 h13 x_g x_kept x_saved x_before x_was x_region x_parts x_next x_ways x_more x_whole x_isSaved x_changes x_isWithin x_code x_input x_length x_fault x_failed x_signs x_signMany x_at x_told x_toldMany s1_20 (hf := hc) H.size) (cwV 1 hts gX13_lineAt_X13_fails rfl rfl rfl (by decide +kernel) ⟨Nat.le_of_ble_eq_true rfl, Nat.le_of_ble_eq_true rfl⟩) 0 rfl rfl rfl hl.1 rfl rfl (Nat.le_of_ble_eq_true rfl) dX13_lineAt_20 ⟨Nat.zero_le _, Nat.zero_le _⟩) rfl rfl (fun H locs hW => ?_)
    refine lv_if_eq (tgt := 31) E.1 E.2.1 dX13_lineAt_23 (by decide) (fun c23 => ?_) (fun c23 => ?_)
    · have h := it c23 h
      refine lv_aload_n E.1 E.2.1 dX13_lineAt_31 rfl (lv_at hl 0 rfl) ?_
      refine wGet (v := .ref h12) E hK in_X13_lineAt_X13 hW 19 lk_X13_lineAt_51 0 rfl rfl (by decide) rfl rfl dX13_lineAt_32 ?_
      refine lv_iload_n E.1 E.2.1 dX13_lineAt_35 rfl (lv_at hl 1 rfl) ?_
      obtain ⟨hi36, h⟩ := ox h
      refine wCald E hK hW 12 rfl hi36 dX13_lineAt_36 ?_
      exact J37 r20.2 (x_signs a1.toNatClampNeg) H locs ls h hW (lv_sub hl [] rfl)
    · have h := ie c23 h
      refine lv_bipush (v := 32) E.1 E.2.1 dX13_lineAt_26 (by decide) ?_
      refine lv_goto (tgt := 37) E.1 E.2.1 dX13_lineAt_28 (by decide) ?_
      exact J37 r20.2 32 H locs ls h hW (lv_sub hl [] rfl)
  refine lv_aload_n E.1 E.2.1 dX13_lineAt_0 rfl (lv_at hl 0 rfl) ?_
  refine lv_iload_n E.1 E.2.1 dX13_lineAt_1 rfl (lv_at hl 1 rfl) ?_
  refine lv_iconst (v := 0) E.1 E.2.1 dX13_lineAt_2 (by decide) ?_
  refine lv_aload_n E.1 E.2.1 dX13_lineAt_3 rfl (lv_at hl 0 rfl) ?_
  refine wGet (v := .int x_signMany) E hK in_X13_lineAt_X13 hW 20 lk_X13_lineAt_169 0 rfl rfl (by decide) rfl rfl dX13_lineAt_4 ?_
  refine lv_iconst (v := 1) E.1 E.2.1 dX13_lineAt_7 (by decide) ?_
  refine lv_isub E.1 E.2.1 dX13_lineAt_8 ?_
  obtain ⟨r9, hc, h⟩ := bx h
  refine goI (world' := (w_X13 g h0 h1 h2 h3 h4 h5 h6 h7 h8 h9 h10 h11 h12 h13 x_g x_kept x_saved x_before x_was x_region x_parts x_next x_ways x_more x_whole x_isSaved x_changes x_isWithin x_code x_input x_length x_fault x_failed x_signs x_signMany x_at x_told x_toldMany)) hW hA (is := []) rfl (goS (rest := [.ref h0]) E hK hW [] rfl rfl (c_X13_in l g a1 0 (x_signMany - 1) (hf := hc) H.size) (va_cwS 3 hts gX13_lineAt_X13_in rfl rfl rfl (by decide +kernel) ⟨Nat.le_of_ble_eq_true rfl, Nat.le_of_ble_eq_true rfl⟩) hl.1 rfl rfl (Nat.le_of_ble_eq_true rfl) dX13_lineAt_9 ⟨Nat.zero_le _, Nat.zero_le _⟩) rfl rfl (fun H locs hW => ?_)
  refine lv_if_eq (tgt := 19) E.1 E.2.1 dX13_lineAt_12 (by decide) (fun c12 => ?_) (fun c12 => ?_)
  · have h := it c12 h
    refine lv_iconst (v := 1) E.1 E.2.1 dX13_lineAt_19 (by decide) ?_
    exact J20 1 H locs ls h hW (lv_sub hl [0, 1] rfl)
  · have h := ie c12 h
    refine lv_iconst (v := 0) E.1 E.2.1 dX13_lineAt_15 (by decide) ?_
    refine lv_goto (tgt := 20) E.1 E.2.1 dX13_lineAt_16 (by decide) ?_
    exact J20 0 H locs ls h hW (lv_sub hl [0, 1] rfl)
theorem c_X13_lineAt (l : Launch) (g : GE) (h0 h1 h2 h3 h4 h5 h6 h7 h8 h9 h10 h11 h12 h13 : Nat) (x_g : Nat → Int32) (x_kept : Nat → Int32) (x_saved : Nat → Int32) (x_before : Nat → Int32) (x_was : Nat → Int32) (x_region : Nat → Int32) (x_parts : Nat → Int64) (x_next : Nat → Int64) (x_ways : Nat → Int32) (x_more : Nat → Int32) (x_whole : Int64) (x_isSaved : Int32) (x_changes : Int32) (x_isWithin : Int32) (x_code : Int32) (x_input : Nat → Int32) (x_length : Int32) (x_fault : Int32) (x_failed : Int32) (x_signs : Nat → Int32) (x_signMany : Int32) (x_at : Int32) (x_told : Nat → Int32) (x_toldMany : Int32) (a1 : Int32) {res : Int32 × Int32} (hf : f_X13_lineAt x_code x_signs x_signMany a1 = some res) : CI l yX13_lineAt wsX13_lineAt rm_X13_lineAt g [.ref h0, .int a1] (w_X13 g h0 h1 h2 h3 h4 h5 h6 h7 h8 h9 h10 h11 h12 h13 x_g x_kept x_saved x_before x_was x_region x_parts x_next x_ways x_more x_whole x_isSaved x_changes x_isWithin x_code x_input x_length x_fault x_failed x_signs x_signMany x_at x_told x_toldMany) (w_X13 g h0 h1 h2 h3 h4 h5 h6 h7 h8 h9 h10 h11 h12 h13 x_g x_kept x_saved x_before x_was x_region x_parts x_next x_ways x_more x_whole x_isSaved x_changes x_isWithin res.2 x_input x_length x_fault x_failed x_signs x_signMany x_at x_told x_toldMany) res.1 :=
  mkI (cc := cX13_lineAt) (maxL := 2) (by decide) rfl (Nat.le_of_ble_eq_true rfl) (fun p e s m args below meth c A H locs ls E hK hA hW hl => k_X13_lineAt_0 E hK hA hf hW hl)

/-! PaperStormModel.isConsistent()Z X13_isConsistent -/
abbrev rm_X13_isConsistent : Room := { frames := 0, cells := 0, slots := 0, locals := 0 }
theorem in_X13_isConsistent_X13 : ∀ w ∈ wsX130, w ∈ wsX13_isConsistent := by decide +kernel
theorem lk_X13_isConsistent_58 : Cond.fieldLink RX13 58 "PaperStormModel" "code" "I" ∈ wsX13_isConsistent := by decide +kernel
noncomputable def f_X13_isConsistent (x_code : Int32) : Option (Int32 × Int32) :=
  some (1, 0)
abbrev G_X13_isConsistent (p : Program) (l : Launch) (e : Env) (s : State) (m : MethodId) (args : Array Value) (below : List Frame) (meth : Method) (c : Code) (g : GE) (A : Nat → Prop) (h0 h1 h2 h3 h4 h5 h6 h7 h8 h9 h10 h11 h12 h13 : Nat) (x_g : Nat → Int32) (x_kept : Nat → Int32) (x_saved : Nat → Int32) (x_before : Nat → Int32) (x_was : Nat → Int32) (x_region : Nat → Int32) (x_parts : Nat → Int64) (x_next : Nat → Int64) (x_ways : Nat → Int32) (x_more : Nat → Int32) (x_whole : Int64) (x_isSaved : Int32) (x_changes : Int32) (x_isWithin : Int32) (x_input : Nat → Int32) (x_length : Int32) (x_fault : Int32) (x_failed : Int32) (x_signs : Nat → Int32) (x_signMany : Int32) (x_at : Int32) (x_told : Nat → Int32) (x_toldMany : Int32) (res : Int32 × Int32) (H : Heap) (locs : List Loc) (pc : Nat) (ls : Array Slot) (st : List Value) : Prop := W p l e (headSpec wsX13_isConsistent rm_X13_isConsistent).room s m args below meth c H locs 0 0 (MQ below (PoI g A (w_X13 g h0 h1 h2 h3 h4 h5 h6 h7 h8 h9 h10 h11 h12 h13 x_g x_kept x_saved x_before x_was x_region x_parts x_next x_ways x_more x_whole x_isSaved x_changes x_isWithin res.2 x_input x_length x_fault x_failed x_signs x_signMany x_at x_told x_toldMany) res.1) args s 0 0 A) (F0 m pc ls st)
set_option maxHeartbeats 4000000 in
set_option maxRecDepth 100000 in
theorem k_X13_isConsistent_0 {p : Program} {l : Launch} {e : Env} {s : State} {m : MethodId} {args : Array Value} {below : List Frame} {meth : Method} {c : Code} {g : GE} {A : Nat → Prop} {h0 h1 h2 h3 h4 h5 h6 h7 h8 h9 h10 h11 h12 h13 : Nat} {x_g : Nat → Int32} {x_kept : Nat → Int32} {x_saved : Nat → Int32} {x_before : Nat → Int32} {x_was : Nat → Int32} {x_region : Nat → Int32} {x_parts : Nat → Int64} {x_next : Nat → Int64} {x_ways : Nat → Int32} {x_more : Nat → Int32} {x_whole : Int64} {x_isSaved : Int32} {x_changes : Int32} {x_isWithin : Int32} {x_code : Int32} {x_input : Nat → Int32} {x_length : Int32} {x_fault : Int32} {x_failed : Int32} {x_signs : Nat → Int32} {x_signMany : Int32} {x_at : Int32} {x_told : Nat → Int32} {x_toldMany : Int32} {res : Int32 × Int32} {H : Heap} {locs : List Loc} {ls : Array Slot} 
    (E : En cX13_isConsistent RX13 wsX13_isConsistent 1 (some .boolean) p s m args meth c) (hK : KK g s) (hA : ∀ q, s.heap.size ≤ q → A q) (h : f_X13_isConsistent x_code = some res) (hW : Wo g A s H locs (w_X13 g h0 h1 h2 h3 h4 h5 h6 h7 h8 h9 h10 h11 h12 h13 x_g x_kept x_saved x_before x_was x_region x_parts x_next x_ways x_more x_whole x_isSaved x_changes x_isWithin x_code x_input x_length x_fault x_failed x_signs x_signMany x_at x_told x_toldMany)) (hl : lv_has ls 1 [(0, .ref h0)]) : G_X13_isConsistent p l e s m args below meth c g A h0 h1 h2 h3 h4 h5 h6 h7 h8 h9 h10 h11 h12 h13 x_g x_kept x_saved x_before x_was x_region x_parts x_next x_ways x_more x_whole x_isSaved x_changes x_isWithin x_input x_length x_fault x_failed x_signs x_signMany x_at x_told x_toldMany res H locs 0 ls [] := by
  have hts := E.2.2.2.1
  unfold f_X13_isConsistent at h
  refine lv_aload_n E.1 E.2.1 dX13_isConsistent_0 rfl (lv_at hl 0 rfl) ?_
  refine lv_iconst (v := 0) E.1 E.2.1 dX13_isConsistent_1 (by decide) ?_
  refine wPut (world' := (w_X13 g h0 h1 h2 h3 h4 h5 h6 h7 h8 h9 h10 h11 h12 h13 x_g x_kept x_saved x_before x_was x_region x_parts x_next x_ways x_more x_whole x_isSaved x_changes x_isWithin 0 x_input x_length x_fault x_failed x_signs x_signMany x_at x_told x_toldMany)) E hK in_X13_isConsistent_X13 tyX13 tyX13_ok nmX13 hW 14 lk_X13_isConsistent_58 0 rfl rfl (by decide) rfl rfl rfl rfl rfl (Nat.le_of_ble_eq_true rfl) dX13_isConsistent_2 rfl (fun H locs hW => ?_)
  refine lv_iconst (v := 1) E.1 E.2.1 dX13_isConsistent_5 (by decide) ?_
  obtain rfl := Option.some.inj h
  exact endI E (show narrow .boolean (.int 1) = .int 1 by decide) hW dX13_isConsistent_6
theorem c_X13_isConsistent (l : Launch) (g : GE) (h0 h1 h2 h3 h4 h5 h6 h7 h8 h9 h10 h11 h12 h13 : Nat) (x_g : Nat → Int32) (x_kept : Nat → Int32) (x_saved : Nat → Int32) (x_before : Nat → Int32) (x_was : Nat → Int32) (x_region : Nat → Int32) (x_parts : Nat → Int64) (x_next : Nat → Int64) (x_ways : Nat → Int32) (x_more : Nat → Int32) (x_whole : Int64) (x_isSaved : Int32) (x_changes : Int32) (x_isWithin : Int32) (x_code : Int32) (x_input : Nat → Int32) (x_length : Int32) (x_fault : Int32) (x_failed : Int32) (x_signs : Nat → Int32) (x_signMany : Int32) (x_at : Int32) (x_told : Nat → Int32) (x_toldMany : Int32) {res : Int32 × Int32} (hf : f_X13_isConsistent x_code = some res) : CI l yX13_isConsistent wsX13_isConsistent rm_X13_isConsistent g [.ref h0] (w_X13 g h0 h1 h2 h3 h4 h5 h6 h7 h8 h9 h10 h11 h12 h13 x_g x_kept x_saved x_before x_was x_region x_parts x_next x_ways x_more x_whole x_isSaved x_changes x_isWithin x_code x_input x_length x_fault x_failed x_signs x_signMany x_at x_told x_toldMany) (w_X13 g h0 h1 h2 h3 h4 h5 h6 h7 h8 h9 h10 h11 h12 h13 x_g x_kept x_saved x_before x_was x_region x_parts x_next x_ways x_more x_whole x_isSaved x_changes x_isWithin res.2 x_input x_length x_fault x_failed x_signs x_signMany x_at x_told x_toldMany) res.1 :=
  mkI (cc := cX13_isConsistent) (maxL := 1) (by decide) rfl (Nat.le_of_ble_eq_true rfl) (fun p e s m args below meth c A H locs ls E hK hA hW hl => k_X13_isConsistent_0 E hK hA hf hW hl)

/-! PaperStormModel.type(C)I X13_type -/
abbrev rm_X13_type : Room := { frames := 1, cells := 0, slots := 0, locals := 22 }
theorem in_X13_type_X13 : ∀ w ∈ wsX130, w ∈ wsX13_type := by decide +kernel
theorem lk_X13_type_204 : Cond.fieldLink RX13 204 "PaperStormModel" "length" "I" ∈ wsX13_type := by decide +kernel
theorem lk_X13_type_41 : Cond.fieldLink RX13 41 "PaperStormModel" "input" "[I" ∈ wsX13_type := by decide +kernel
noncomputable def f_X13_type (x_code : Int32) (x_input : Nat → Int32) (x_length : Int32) (a1 : Int32) : Option (Int32 × Int32 × (Nat → Int32) × Int32) :=
  jo (fun (s1_30 : Int32) => (f_X13_fails x_code s1_30).bind fun r30 => if r30.1 = 0 then if x_length < 0 ∨ 60 ≤ x_length.toNatClampNeg then none else some ((x_length + 1), r30.2, (upd x_input x_length.toNatClampNeg a1), (x_length + 1)) else some (0, r30.2, x_input, x_length)) (fun j30 => (f_X13_in a1 32 126).bind fun r6 => if r6 = 0 then j30 1 else if x_length = 60 then j30 2 else j30 0)
abbrev G_X13_type (p : Program) (l : Launch) (e : Env) (s : State) (m : MethodId) (args : Array Value) (below : List Frame) (meth : Method) (c : Code) (g : GE) (A : Nat → Prop) (h0 h1 h2 h3 h4 h5 h6 h7 h8 h9 h10 h11 h12 h13 : Nat) (x_g : Nat → Int32) (x_kept : Nat → Int32) (x_saved : Nat → Int32) (x_before : Nat → Int32) (x_was : Nat → Int32) (x_region : Nat → Int32) (x_parts : Nat → Int64) (x_next : Nat → Int64) (x_ways : Nat → Int32) (x_more : Nat → Int32) (x_whole : Int64) (x_isSaved : Int32) (x_changes : Int32) (x_isWithin : Int32) (x_fault : Int32) (x_failed : Int32) (x_signs : Nat → Int32) (x_signMany : Int32) (x_at : Int32) (x_told : Nat → Int32) (x_toldMany : Int32) (res : Int32 × Int32 × (Nat → Int32) × Int32) (H : Heap) (locs : List Loc) (pc : Nat) (ls : Array Slot) (st : List Value) : Prop := W p l e (headSpec wsX13_type rm_X13_type).room s m args below meth c H locs 0 0 (MQ below (PoI g A (w_X13 g h0 h1 h2 h3 h4 h5 h6 h7 h8 h9 h10 h11 h12 h13 x_g x_kept x_saved x_before x_was x_region x_parts x_next x_ways x_more x_whole x_isSaved x_changes x_isWithin res.2.1 res.2.2.1 res.2.2.2 x_fault x_failed x_signs x_signMany x_at x_told x_toldMany) res.1) args s 0 0 A) (F0 m pc ls st)
set_option maxHeartbeats 4000000 in
set_option maxRecDepth 100000 in
theorem k_X13_type_0 {p : Program} {l : Launch} {e : Env} {s : State} {m : MethodId} {args : Array Value} {below : List Frame} {meth : Method} {c : Code} {g : GE} {A : Nat → Prop} {h0 h1 h2 h3 h4 h5 h6 h7 h8 h9 h10 h11 h12 h13 : Nat} {x_g : Nat → Int32} {x_kept : Nat → Int32} {x_saved : Nat → Int32} {x_before : Nat → Int32} {x_was : Nat → Int32} {x_region : Nat → Int32} {x_parts : Nat → Int64} {x_next : Nat → Int64} {x_ways : Nat → Int32} {x_more : Nat → Int32} {x_whole : Int64} {x_isSaved : Int32} {x_changes : Int32} {x_isWithin : Int32} {x_code : Int32} {x_input : Nat → Int32} {x_length : Int32} {x_fault : Int32} {x_failed : Int32} {x_signs : Nat → Int32} {x_signMany : Int32} {x_at : Int32} {x_told : Nat → Int32} {x_toldMany : Int32} {res : Int32 × Int32 × (Nat → Int32) × Int32} {H : Heap} {locs : List Loc} {ls : Array Slot} {a1 : Int32}
    (E : En cX13_type RX13 wsX13_type 2 (some .int) p s m args meth c) (hK : KK g s) (hA : ∀ q, s.heap.size ≤ q → A q) (h : f_X13_type x_code x_input x_length a1 = some res) (hW : Wo g A s H locs (w_X13 g h0 h1 h2 h3 h4 h5 h6 h7 h8 h9 h10 h11 h12 h13 x_g x_kept x_saved x_before x_was x_region x_parts x_next x_ways x_more x_whole x_isSaved x_changes x_isWithin x_code x_input x_length x_fault x_failed x_signs x_signMany x_at x_told x_toldMany)) (hl : lv_has ls 2 [(0, .ref h0), (1, .int a1)]) : G_X13_type p l e s m args below meth c g A h0 h1 h2 h3 h4 h5 h6 h7 h8 h9 h10 h11 h12 h13 x_g x_kept x_saved x_before x_was x_region x_parts x_next x_ways x_more x_whole x_isSaved x_changes x_isWithin x_fault x_failed x_signs x_signMany x_at x_told x_toldMany res H locs 0 ls [] := by
  have hts := E.2.2.2.1
  unfold f_X13_type at h
  obtain ⟨j30, hj30, h⟩ := jox1 h
  have J30 : ∀ (s1_30 : Int32) (H : Heap) (locs : List Loc) (ls : Array Slot), j30 s1_30 = some res → Wo g A s H locs (w_X13 g h0 h1 h2 h3 h4 h5 h6 h7 h8 h9 h10 h11 h12 h13 x_g x_kept x_saved x_before x_was x_region x_parts x_next x_ways x_more x_whole x_isSaved x_changes x_isWithin x_code x_input x_length x_fault x_failed x_signs x_signMany x_at x_told x_toldMany) → lv_has ls 2 [(0, .ref h0), (1, .int a1)] → G_X13_type p l e s m args below meth c g A h0 h1 h2 h3 h4 h5 h6 h7 h8 h9 h10 h11 h12 h13 x_g x_kept x_saved x_before x_was x_region x_parts x_next x_ways x_more x_whole x_isSaved x_changes x_isWithin x_fault x_failed x_signs x_signMany x_at x_told x_toldMany res H locs 30 ls [.int s1_30, .ref h0] := by
    intro s1_30 H locs ls h hW hl
    rw [hj30] at h
    obtain ⟨r30, hc, h⟩ := bx h
    refine goI (world' := (w_X13 g h0 h1 h2 h3 h4 h5 h6 h7 h8 h9 h10 h11 h12 h13 x_g x_kept x_saved x_before x_was x_region x_parts x_next x_ways x_more x_whole x_isSaved x_changes x_isWithin r30.2 x_input x_length x_fault x_failed x_signs x_signMany x_at x_told x_toldMany)) hW hA (is := [0, 1, 2, 3, 4, 5, 6, 7, 8, 9, 10, 11, 12, 13]) rfl (goV (rest := []) E hK hW [0, 1, 2, 3, 4, 5, 6, 7, 8, 9, 10, 11, 12, 13] rfl rfl (c_X13_fails l g h0 h1 h2 h3 h4 h5 h6 h7 h8 h9 h10 h11 h12 h13 x_g x_kept x_saved x_before x_was x_region x_parts x_next x_ways x_more x_whole x_isSaved x_changes x_isWithin x_code x_input x_length x_fault x_failed x_signs x_signMany x_at x_told x_toldMany s1_30 (hf := hc) H.size) (cwV 1 hts gX13_type_X13_fails rfl rfl rfl (by decide +kernel) ⟨Nat.le_of_ble_eq_true rfl, Nat.le_of_ble_eq_true rfl⟩) 0 rfl rfl rfl hl.1 rfl rfl (Nat.le_of_ble_eq_true rfl) dX13_type_30 ⟨Nat.zero_le _, Nat.zero_le _⟩) rfl rfl (fun H locs hW => ?_)
    refine lv_if_eq (tgt := 38) E.1 E.2.1 dX13_type_33 (by decide) (fun c33 => ?_) (fun c33 => ?_)
    · have h := it c33 h
      refine lv_aload_n E.1 E.2.1 dX13_type_38 rfl (lv_at hl 0 rfl) ?_
      refine wGet (v := .ref h11) E hK in_X13_type_X13 hW 15 lk_X13_type_41 0 rfl rfl (by decide) rfl rfl dX13_type_39 ?_
      refine lv_aload_n E.1 E.2.1 dX13_type_42 rfl (lv_at hl 0 rfl) ?_
      refine wGet (v := .int x_length) E hK in_X13_type_X13 hW 16 lk_X13_type_204 0 rfl rfl (by decide) rfl rfl dX13_type_43 ?_
      refine lv_iload_n E.1 E.2.1 dX13_type_46 rfl (lv_at hl 1 rfl) ?_
      obtain ⟨hi47, h⟩ := ox h
      refine wIast (world' := (w_X13 g h0 h1 h2 h3 h4 h5 h6 h7 h8 h9 h10 h11 h12 h13 x_g x_kept x_saved x_before x_was x_region x_parts x_next x_ways x_more x_whole x_isSaved x_changes x_isWithin r30.2 (upd x_input x_length.toNatClampNeg a1) x_length x_fault x_failed x_signs x_signMany x_at x_told x_toldMany)) E hK hW 11 rfl hi47 dX13_type_47 rfl (fun H locs hW => ?_)
      refine lv_aload_n E.1 E.2.1 dX13_type_48 rfl (lv_at hl 0 rfl) ?_
      refine lv_dup E.1 E.2.1 dX13_type_49 rfl ?_
      refine wGet (v := .int x_length) E hK in_X13_type_X13 hW 16 lk_X13_type_204 0 rfl rfl (by decide) rfl rfl dX13_type_50 ?_
      refine lv_iconst (v := 1) E.1 E.2.1 dX13_type_53 (by decide) ?_
      refine lv_iadd E.1 E.2.1 dX13_type_54 ?_
      refine wPut (world' := (w_X13 g h0 h1 h2 h3 h4 h5 h6 h7 h8 h9 h10 h11 h12 h13 x_g x_kept x_saved x_before x_was x_region x_parts x_next x_ways x_more x_whole x_isSaved x_changes x_isWithin r30.2 (upd x_input x_length.toNatClampNeg a1) (x_length + 1) x_fault x_failed x_signs x_signMany x_at x_told x_toldMany)) E hK in_X13_type_X13 tyX13 tyX13_ok nmX13 hW 16 lk_X13_type_204 0 rfl rfl (by decide) rfl rfl rfl rfl rfl (Nat.le_of_ble_eq_true rfl) dX13_type_55 rfl (fun H locs hW => ?_)
      refine lv_aload_n E.1 E.2.1 dX13_type_58 rfl (lv_at hl 0 rfl) ?_
      refine wGet (v := .int (x_length + 1)) E hK in_X13_type_X13 hW 16 lk_X13_type_204 0 rfl rfl (by decide) rfl rfl dX13_type_59 ?_
      obtain rfl := Option.some.inj h
      exact endI E rfl hW dX13_type_62
    · have h := ie c33 h
      refine lv_iconst (v := 0) E.1 E.2.1 dX13_type_36 (by decide) ?_
      obtain rfl := Option.some.inj h
      exact endI E rfl hW dX13_type_37
  refine lv_aload_n E.1 E.2.1 dX13_type_0 rfl (lv_at hl 0 rfl) ?_
  refine lv_iload_n E.1 E.2.1 dX13_type_1 rfl (lv_at hl 1 rfl) ?_
  refine lv_bipush (v := 32) E.1 E.2.1 dX13_type_2 (by decide) ?_
  refine lv_bipush (v := 126) E.1 E.2.1 dX13_type_4 (by decide) ?_
  obtain ⟨r6, hc, h⟩ := bx h
  refine goI (world' := (w_X13 g h0 h1 h2 h3 h4 h5 h6 h7 h8 h9 h10 h11 h12 h13 x_g x_kept x_saved x_before x_was x_region x_parts x_next x_ways x_more x_whole x_isSaved x_changes x_isWithin x_code x_input x_length x_fault x_failed x_signs x_signMany x_at x_told x_toldMany)) hW hA (is := []) rfl (goS (rest := [.ref h0]) E hK hW [] rfl rfl (c_X13_in l g a1 32 126 (hf := hc) H.size) (va_cwS 3 hts gX13_type_X13_in rfl rfl rfl (by decide +kernel) ⟨Nat.le_of_ble_eq_true rfl, Nat.le_of_ble_eq_true rfl⟩) hl.1 rfl rfl (Nat.le_of_ble_eq_true rfl) dX13_type_6 ⟨Nat.zero_le _, Nat.zero_le _⟩) rfl rfl (fun H locs hW => ?_)
  refine lv_if_ne (tgt := 16) E.1 E.2.1 dX13_type_9 (by decide) (fun c9 => ?_) (fun c9 => ?_)
  · have h := ie c9 h
    refine lv_aload_n E.1 E.2.1 dX13_type_16 rfl (lv_at hl 0 rfl) ?_
    refine wGet (v := .int x_length) E hK in_X13_type_X13 hW 16 lk_X13_type_204 0 rfl rfl (by decide) rfl rfl dX13_type_17 ?_
    refine lv_bipush (v := 60) E.1 E.2.1 dX13_type_20 (by decide) ?_
    refine lv_icmp_ne (tgt := 29) E.1 E.2.1 dX13_type_22 (by decide) (fun c22 => ?_) (fun c22 => ?_)
    · have h := ie c22 h
      refine lv_iconst (v := 0) E.1 E.2.1 dX13_type_29 (by decide) ?_
      exact J30 0 H locs ls h hW (lv_sub hl [0, 1] rfl)
    · have h := it c22 h
      refine lv_iconst (v := 2) E.1 E.2.1 dX13_type_25 (by decide) ?_
      refine lv_goto (tgt := 30) E.1 E.2.1 dX13_type_26 (by decide) ?_
      exact J30 2 H locs ls h hW (lv_sub hl [0, 1] rfl)
  · have h := it c9 h
    refine lv_iconst (v := 1) E.1 E.2.1 dX13_type_12 (by decide) ?_
    refine lv_goto (tgt := 30) E.1 E.2.1 dX13_type_13 (by decide) ?_
    exact J30 1 H locs ls h hW (lv_sub hl [0, 1] rfl)
theorem c_X13_type (l : Launch) (g : GE) (h0 h1 h2 h3 h4 h5 h6 h7 h8 h9 h10 h11 h12 h13 : Nat) (x_g : Nat → Int32) (x_kept : Nat → Int32) (x_saved : Nat → Int32) (x_before : Nat → Int32) (x_was : Nat → Int32) (x_region : Nat → Int32) (x_parts : Nat → Int64) (x_next : Nat → Int64) (x_ways : Nat → Int32) (x_more : Nat → Int32) (x_whole : Int64) (x_isSaved : Int32) (x_changes : Int32) (x_isWithin : Int32) (x_code : Int32) (x_input : Nat → Int32) (x_length : Int32) (x_fault : Int32) (x_failed : Int32) (x_signs : Nat → Int32) (x_signMany : Int32) (x_at : Int32) (x_told : Nat → Int32) (x_toldMany : Int32) (a1 : Int32) {res : Int32 × Int32 × (Nat → Int32) × Int32} (hf : f_X13_type x_code x_input x_length a1 = some res) : CI l yX13_type wsX13_type rm_X13_type g [.ref h0, .int a1] (w_X13 g h0 h1 h2 h3 h4 h5 h6 h7 h8 h9 h10 h11 h12 h13 x_g x_kept x_saved x_before x_was x_region x_parts x_next x_ways x_more x_whole x_isSaved x_changes x_isWithin x_code x_input x_length x_fault x_failed x_signs x_signMany x_at x_told x_toldMany) (w_X13 g h0 h1 h2 h3 h4 h5 h6 h7 h8 h9 h10 h11 h12 h13 x_g x_kept x_saved x_before x_was x_region x_parts x_next x_ways x_more x_whole x_isSaved x_changes x_isWithin res.2.1 res.2.2.1 res.2.2.2 x_fault x_failed x_signs x_signMany x_at x_told x_toldMany) res.1 :=
  mkI (cc := cX13_type) (maxL := 2) (by decide) rfl (Nat.le_of_ble_eq_true rfl) (fun p e s m args below meth c A H locs ls E hK hA hW hl => k_X13_type_0 E hK hA hf hW hl)

/-! PaperStormModel.here()I X13_here -/
abbrev rm_X13_here : Room := { frames := 0, cells := 0, slots := 0, locals := 0 }
theorem in_X13_here_X13 : ∀ w ∈ wsX130, w ∈ wsX13_here := by decide +kernel
theorem lk_X13_here_204 : Cond.fieldLink RX13 204 "PaperStormModel" "length" "I" ∈ wsX13_here := by decide +kernel
theorem lk_X13_here_206 : Cond.fieldLink RX13 206 "PaperStormModel" "at" "I" ∈ wsX13_here := by decide +kernel
theorem lk_X13_here_41 : Cond.fieldLink RX13 41 "PaperStormModel" "input" "[I" ∈ wsX13_here := by decide +kernel
noncomputable def f_X13_here (x_input : Nat → Int32) (x_length : Int32) (x_at : Int32) : Option (Int32) :=
  jo (fun (s0_24 : Int32) => some (s0_24)) (fun j24 => if x_length ≤ x_at then j24 (-1) else if x_at < 0 ∨ 60 ≤ x_at.toNatClampNeg then none else j24 (x_input x_at.toNatClampNeg))
abbrev G_X13_here (p : Program) (l : Launch) (e : Env) (s : State) (m : MethodId) (args : Array Value) (below : List Frame) (meth : Method) (c : Code) (g : GE) (A : Nat → Prop) (h0 h1 h2 h3 h4 h5 h6 h7 h8 h9 h10 h11 h12 h13 : Nat) (x_g : Nat → Int32) (x_kept : Nat → Int32) (x_saved : Nat → Int32) (x_before : Nat → Int32) (x_was : Nat → Int32) (x_region : Nat → Int32) (x_parts : Nat → Int64) (x_next : Nat → Int64) (x_ways : Nat → Int32) (x_more : Nat → Int32) (x_whole : Int64) (x_isSaved : Int32) (x_changes : Int32) (x_isWithin : Int32) (x_code : Int32) (x_input : Nat → Int32) (x_length : Int32) (x_fault : Int32) (x_failed : Int32) (x_signs : Nat → Int32) (x_signMany : Int32) (x_at : Int32) (x_told : Nat → Int32) (x_toldMany : Int32) (res : Int32) (H : Heap) (locs : List Loc) (pc : Nat) (ls : Array Slot) (st : List Value) : Prop := W p l e (headSpec wsX13_here rm_X13_here).room s m args below meth c H locs 0 0 (MQ below (PoI g A (w_X13 g h0 h1 h2 h3 h4 h5 h6 h7 h8 h9 h10 h11 h12 h13 x_g x_kept x_saved x_before x_was x_region x_parts x_next x_ways x_more x_whole x_isSaved x_changes x_isWithin x_code x_input x_length x_fault x_failed x_signs x_signMany x_at x_told x_toldMany) res) args s 0 0 A) (F0 m pc ls st)
set_option maxHeartbeats 4000000 in
set_option maxRecDepth 100000 in
theorem k_X13_here_0 {p : Program} {l : Launch} {e : Env} {s : State} {m : MethodId} {args : Array Value} {below : List Frame} {meth : Method} {c : Code} {g : GE} {A : Nat → Prop} {h0 h1 h2 h3 h4 h5 h6 h7 h8 h9 h10 h11 h12 h13 : Nat} {x_g : Nat → Int32} {x_kept : Nat → Int32} {x_saved : Nat → Int32} {x_before : Nat → Int32} {x_was : Nat → Int32} {x_region : Nat → Int32} {x_parts : Nat → Int64} {x_next : Nat → Int64} {x_ways : Nat → Int32} {x_more : Nat → Int32} {x_whole : Int64} {x_isSaved : Int32} {x_changes : Int32} {x_isWithin : Int32} {x_code : Int32} {x_input : Nat → Int32} {x_length : Int32} {x_fault : Int32} {x_failed : Int32} {x_signs : Nat → Int32} {x_signMany : Int32} {x_at : Int32} {x_told : Nat → Int32} {x_toldMany : Int32} {res : Int32} {H : Heap} {locs : List Loc} {ls : Array Slot} 
    (E : En cX13_here RX13 wsX13_here 1 (some .int) p s m args meth c) (hK : KK g s) (hA : ∀ q, s.heap.size ≤ q → A q) (h : f_X13_here x_input x_length x_at = some res) (hW : Wo g A s H locs (w_X13 g h0 h1 h2 h3 h4 h5 h6 h7 h8 h9 h10 h11 h12 h13 x_g x_kept x_saved x_before x_was x_region x_parts x_next x_ways x_more x_whole x_isSaved x_changes x_isWithin x_code x_input x_length x_fault x_failed x_signs x_signMany x_at x_told x_toldMany)) (hl : lv_has ls 1 [(0, .ref h0)]) : G_X13_here p l e s m args below meth c g A h0 h1 h2 h3 h4 h5 h6 h7 h8 h9 h10 h11 h12 h13 x_g x_kept x_saved x_before x_was x_region x_parts x_next x_ways x_more x_whole x_isSaved x_changes x_isWithin x_code x_input x_length x_fault x_failed x_signs x_signMany x_at x_told x_toldMany res H locs 0 ls [] := by
  have hts := E.2.2.2.1
  unfold f_X13_here at h
  obtain ⟨j24, hj24, h⟩ := jox1 h
  have J24 : ∀ (s0_24 : Int32) (H : Heap) (locs : List Loc) (ls : Array Slot), j24 s0_24 = some res → Wo g A s H locs (w_X13 g h0 h1 h2 h3 h4 h5 h6 h7 h8 h9 h10 h11 h12 h13 x_g x_kept x_saved x_before x_was x_region x_parts x_next x_ways x_more x_whole x_isSaved x_changes x_isWithin x_code x_input x_length x_fault x_failed x_signs x_signMany x_at x_told x_toldMany) → lv_has ls 1 [] → G_X13_here p l e s m args below meth c g A h0 h1 h2 h3 h4 h5 h6 h7 h8 h9 h10 h11 h12 h13 x_g x_kept x_saved x_before x_was x_region x_parts x_next x_ways x_more x_whole x_isSaved x_changes x_isWithin x_code x_input x_length x_fault x_failed x_signs x_signMany x_at x_told x_toldMany res H locs 24 ls [.int s0_24] := by
    intro s0_24 H locs ls h hW hl
    rw [hj24] at h
    obtain rfl := Option.some.inj h
    exact endI E rfl hW dX13_here_24
  refine lv_aload_n E.1 E.2.1 dX13_here_0 rfl (lv_at hl 0 rfl) ?_
  refine wGet (v := .int x_at) E hK in_X13_here_X13 hW 21 lk_X13_here_206 0 rfl rfl (by decide) rfl rfl dX13_here_1 ?_
  refine lv_aload_n E.1 E.2.1 dX13_here_4 rfl (lv_at hl 0 rfl) ?_
  refine wGet (v := .int x_length) E hK in_X13_here_X13 hW 16 lk_X13_here_204 0 rfl rfl (by decide) rfl rfl dX13_here_5 ?_
  refine lv_icmp_ge (tgt := 23) E.1 E.2.1 dX13_here_8 (by decide) (fun c8 => ?_) (fun c8 => ?_)
  · have h := it c8 h
    refine lv_iconst (v := (-1)) E.1 E.2.1 dX13_here_23 (by decide) ?_
    exact J24 (-1) H locs ls h hW (lv_sub hl [] rfl)
  · have h := ie c8 h
    refine lv_aload_n E.1 E.2.1 dX13_here_11 rfl (lv_at hl 0 rfl) ?_
    refine wGet (v := .ref h11) E hK in_X13_here_X13 hW 15 lk_X13_here_41 0 rfl rfl (by decide) rfl rfl dX13_here_12 ?_
    refine lv_aload_n E.1 E.2.1 dX13_here_15 rfl (lv_at hl 0 rfl) ?_
    refine wGet (v := .int x_at) E hK in_X13_here_X13 hW 21 lk_X13_here_206 0 rfl rfl (by decide) rfl rfl dX13_here_16 ?_
    obtain ⟨hi19, h⟩ := ox h
    refine wIald E hK hW 11 rfl hi19 dX13_here_19 ?_
    refine lv_goto (tgt := 24) E.1 E.2.1 dX13_here_20 (by decide) ?_
    exact J24 (x_input x_at.toNatClampNeg) H locs ls h hW (lv_sub hl [] rfl)
theorem c_X13_here (l : Launch) (g : GE) (h0 h1 h2 h3 h4 h5 h6 h7 h8 h9 h10 h11 h12 h13 : Nat) (x_g : Nat → Int32) (x_kept : Nat → Int32) (x_saved : Nat → Int32) (x_before : Nat → Int32) (x_was : Nat → Int32) (x_region : Nat → Int32) (x_parts : Nat → Int64) (x_next : Nat → Int64) (x_ways : Nat → Int32) (x_more : Nat → Int32) (x_whole : Int64) (x_isSaved : Int32) (x_changes : Int32) (x_isWithin : Int32) (x_code : Int32) (x_input : Nat → Int32) (x_length : Int32) (x_fault : Int32) (x_failed : Int32) (x_signs : Nat → Int32) (x_signMany : Int32) (x_at : Int32) (x_told : Nat → Int32) (x_toldMany : Int32) {res : Int32} (hf : f_X13_here x_input x_length x_at = some res) : CI l yX13_here wsX13_here rm_X13_here g [.ref h0] (w_X13 g h0 h1 h2 h3 h4 h5 h6 h7 h8 h9 h10 h11 h12 h13 x_g x_kept x_saved x_before x_was x_region x_parts x_next x_ways x_more x_whole x_isSaved x_changes x_isWithin x_code x_input x_length x_fault x_failed x_signs x_signMany x_at x_told x_toldMany) (w_X13 g h0 h1 h2 h3 h4 h5 h6 h7 h8 h9 h10 h11 h12 h13 x_g x_kept x_saved x_before x_was x_region x_parts x_next x_ways x_more x_whole x_isSaved x_changes x_isWithin x_code x_input x_length x_fault x_failed x_signs x_signMany x_at x_told x_toldMany) res :=
  mkI (cc := cX13_here) (maxL := 1) (by decide) rfl (Nat.le_of_ble_eq_true rfl) (fun p e s m args below meth c A H locs ls E hK hA hW hl => k_X13_here_0 E hK hA hf hW hl)

/-! PaperStormModel.skips(I)Z X13_skips -/
abbrev rm_X13_skips : Room := { frames := 1, cells := 0, slots := 0, locals := 20 }
theorem in_X13_skips_X13 : ∀ w ∈ wsX130, w ∈ wsX13_skips := by decide +kernel
theorem lk_X13_skips_206 : Cond.fieldLink RX13 206 "PaperStormModel" "at" "I" ∈ wsX13_skips := by decide +kernel
noncomputable def f_X13_skips (x_input : Nat → Int32) (x_length : Int32) (x_at : Int32) (a1 : Int32) : Option (Int32 × Int32) :=
  (f_X13_here x_input x_length x_at).bind fun r1 => if r1 = a1 then some (1, (x_at + 1)) else some (0, x_at)
abbrev G_X13_skips (p : Program) (l : Launch) (e : Env) (s : State) (m : MethodId) (args : Array Value) (below : List Frame) (meth : Method) (c : Code) (g : GE) (A : Nat → Prop) (h0 h1 h2 h3 h4 h5 h6 h7 h8 h9 h10 h11 h12 h13 : Nat) (x_g : Nat → Int32) (x_kept : Nat → Int32) (x_saved : Nat → Int32) (x_before : Nat → Int32) (x_was : Nat → Int32) (x_region : Nat → Int32) (x_parts : Nat → Int64) (x_next : Nat → Int64) (x_ways : Nat → Int32) (x_more : Nat → Int32) (x_whole : Int64) (x_isSaved : Int32) (x_changes : Int32) (x_isWithin : Int32) (x_code : Int32) (x_input : Nat → Int32) (x_length : Int32) (x_fault : Int32) (x_failed : Int32) (x_signs : Nat → Int32) (x_signMany : Int32) (x_told : Nat → Int32) (x_toldMany : Int32) (res : Int32 × Int32) (H : Heap) (locs : List Loc) (pc : Nat) (ls : Array Slot) (st : List Value) : Prop := W p l e (headSpec wsX13_skips rm_X13_skips).room s m args below meth c H locs 0 0 (MQ below (PoI g A (w_X13 g h0 h1 h2 h3 h4 h5 h6 h7 h8 h9 h10 h11 h12 h13 x_g x_kept x_saved x_before x_was x_region x_parts x_next x_ways x_more x_whole x_isSaved x_changes x_isWithin x_code x_input x_length x_fault x_failed x_signs x_signMany res.2 x_told x_toldMany) res.1) args s 0 0 A) (F0 m pc ls st)
set_option maxHeartbeats 4000000 in
set_option maxRecDepth 100000 in
theorem k_X13_skips_0 {p : Program} {l : Launch} {e : Env} {s : State} {m : MethodId} {args : Array Value} {below : List Frame} {meth : Method} {c : Code} {g : GE} {A : Nat → Prop} {h0 h1 h2 h3 h4 h5 h6 h7 h8 h9 h10 h11 h12 h13 : Nat} {x_g : Nat → Int32} {x_kept : Nat → Int32} {x_saved : Nat → Int32} {x_before : Nat → Int32} {x_was : Nat → Int32} {x_region : Nat → Int32} {x_parts : Nat → Int64} {x_next : Nat → Int64} {x_ways : Nat → Int32} {x_more : Nat → Int32} {x_whole : Int64} {x_isSaved : Int32} {x_changes : Int32} {x_isWithin : Int32} {x_code : Int32} {x_input : Nat → Int32} {x_length : Int32} {x_fault : Int32} {x_failed : Int32} {x_signs : Nat → Int32} {x_signMany : Int32} {x_at : Int32} {x_told : Nat → Int32} {x_toldMany : Int32} {res : Int32 × Int32} {H : Heap} {locs : List Loc} {ls : Array Slot} {a1 : Int32}
    (E : En cX13_skips RX13 wsX13_skips 2 (some .boolean) p s m args meth c) (hK : KK g s) (hA : ∀ q, s.heap.size ≤ q → A q) (h : f_X13_skips x_input x_length x_at a1 = some res) (hW : Wo g A s H locs (w_X13 g h0 h1 h2 h3 h4 h5 h6 h7 h8 h9 h10 h11 h12 h13 x_g x_kept x_saved x_before x_was x_region x_parts x_next x_ways x_more x_whole x_isSaved x_changes x_isWithin x_code x_input x_length x_fault x_failed x_signs x_signMany x_at x_told x_toldMany)) (hl : lv_has ls 2 [(0, .ref h0), (1, .int a1)]) : G_X13_skips p l e s m args below meth c g A h0 h1 h2 h3 h4 h5 h6 h7 h8 h9 h10 h11 h12 h13 x_g x_kept x_saved x_before x_was x_region x_parts x_next x_ways x_more x_whole x_isSaved x_changes x_isWithin x_code x_input x_length x_fault x_failed x_signs x_signMany x_told x_toldMany res H locs 0 ls [] := by
  have hts := E.2.2.2.1
  unfold f_X13_skips at h
  refine lv_aload_n E.1 E.2.1 dX13_skips_0 rfl (lv_at hl 0 rfl) ?_
  obtain ⟨r1, hc, h⟩ := bx h
  refine goI (world' := (w_X13 g h0 h1 h2 h3 h4 h5 h6 h7 h8 h9 h10 h11 h12 h13 x_g x_kept x_saved x_before x_was x_region x_parts x_next x_ways x_more x_whole x_isSaved x_changes x_isWithin x_code x_input x_length x_fault x_failed x_signs x_signMany x_at x_told x_toldMany)) hW hA (is := [0, 1, 2, 3, 4, 5, 6, 7, 8, 9, 10, 11, 12, 13]) rfl (goV (rest := []) E hK hW [0, 1, 2, 3, 4, 5, 6, 7, 8, 9, 10, 11, 12, 13] rfl rfl (c_X13_here l g h0 h1 h2 h3 h4 h5 h6 h7 h8 h9 h10 h11 h12 h13 x_g x_kept x_saved x_before x_was x_region x_parts x_next x_ways x_more x_whole x_isSaved x_changes x_isWithin x_code x_input x_length x_fault x_failed x_signs x_signMany x_at x_told x_toldMany (hf := hc) H.size) (cwV 0 hts gX13_skips_X13_here rfl rfl rfl (by decide +kernel) ⟨Nat.le_of_ble_eq_true rfl, Nat.le_of_ble_eq_true rfl⟩) 0 rfl rfl rfl hl.1 rfl rfl (Nat.le_of_ble_eq_true rfl) dX13_skips_1 ⟨Nat.zero_le _, Nat.zero_le _⟩) rfl rfl (fun H locs hW => ?_)
  refine lv_iload_n E.1 E.2.1 dX13_skips_4 rfl (lv_at hl 1 rfl) ?_
  refine lv_icmp_eq (tgt := 10) E.1 E.2.1 dX13_skips_5 (by decide) (fun c5 => ?_) (fun c5 => ?_)
  · have h := it c5 h
    refine lv_aload_n E.1 E.2.1 dX13_skips_10 rfl (lv_at hl 0 rfl) ?_
    refine lv_dup E.1 E.2.1 dX13_skips_11 rfl ?_
    refine wGet (v := .int x_at) E hK in_X13_skips_X13 hW 21 lk_X13_skips_206 0 rfl rfl (by decide) rfl rfl dX13_skips_12 ?_
    refine lv_iconst (v := 1) E.1 E.2.1 dX13_skips_15 (by decide) ?_
    refine lv_iadd E.1 E.2.1 dX13_skips_16 ?_
    refine wPut (world' := (w_X13 g h0 h1 h2 h3 h4 h5 h6 h7 h8 h9 h10 h11 h12 h13 x_g x_kept x_saved x_before x_was x_region x_parts x_next x_ways x_more x_whole x_isSaved x_changes x_isWithin x_code x_input x_length x_fault x_failed x_signs x_signMany (x_at + 1) x_told x_toldMany)) E hK in_X13_skips_X13 tyX13 tyX13_ok nmX13 hW 21 lk_X13_skips_206 0 rfl rfl (by decide) rfl rfl rfl rfl rfl (Nat.le_of_ble_eq_true rfl) dX13_skips_17 rfl (fun H locs hW => ?_)
    refine lv_iconst (v := 1) E.1 E.2.1 dX13_skips_20 (by decide) ?_
    obtain rfl := Option.some.inj h
    exact endI E (show narrow .boolean (.int 1) = .int 1 by decide) hW dX13_skips_21
  · have h := ie c5 h
    refine lv_iconst (v := 0) E.1 E.2.1 dX13_skips_8 (by decide) ?_
    obtain rfl := Option.some.inj h
    exact endI E (show narrow .boolean (.int 0) = .int 0 by decide) hW dX13_skips_9
theorem c_X13_skips (l : Launch) (g : GE) (h0 h1 h2 h3 h4 h5 h6 h7 h8 h9 h10 h11 h12 h13 : Nat) (x_g : Nat → Int32) (x_kept : Nat → Int32) (x_saved : Nat → Int32) (x_before : Nat → Int32) (x_was : Nat → Int32) (x_region : Nat → Int32) (x_parts : Nat → Int64) (x_next : Nat → Int64) (x_ways : Nat → Int32) (x_more : Nat → Int32) (x_whole : Int64) (x_isSaved : Int32) (x_changes : Int32) (x_isWithin : Int32) (x_code : Int32) (x_input : Nat → Int32) (x_length : Int32) (x_fault : Int32) (x_failed : Int32) (x_signs : Nat → Int32) (x_signMany : Int32) (x_at : Int32) (x_told : Nat → Int32) (x_toldMany : Int32) (a1 : Int32) {res : Int32 × Int32} (hf : f_X13_skips x_input x_length x_at a1 = some res) : CI l yX13_skips wsX13_skips rm_X13_skips g [.ref h0, .int a1] (w_X13 g h0 h1 h2 h3 h4 h5 h6 h7 h8 h9 h10 h11 h12 h13 x_g x_kept x_saved x_before x_was x_region x_parts x_next x_ways x_more x_whole x_isSaved x_changes x_isWithin x_code x_input x_length x_fault x_failed x_signs x_signMany x_at x_told x_toldMany) (w_X13 g h0 h1 h2 h3 h4 h5 h6 h7 h8 h9 h10 h11 h12 h13 x_g x_kept x_saved x_before x_was x_region x_parts x_next x_ways x_more x_whole x_isSaved x_changes x_isWithin x_code x_input x_length x_fault x_failed x_signs x_signMany res.2 x_told x_toldMany) res.1 :=
  mkI (cc := cX13_skips) (maxL := 2) (by decide) rfl (Nat.le_of_ble_eq_true rfl) (fun p e s m args below meth c A H locs ls E hK hA hW hl => k_X13_skips_0 E hK hA hf hW hl)

/-! PaperStormModel.figures(II)Z X13_figures -/
abbrev rm_X13_figures : Room := { frames := 2, cells := 0, slots := 0, locals := 41 }
theorem in_X13_figures_X13 : ∀ w ∈ wsX130, w ∈ wsX13_figures := by decide +kernel
theorem lk_X13_figures_206 : Cond.fieldLink RX13 206 "PaperStormModel" "at" "I" ∈ wsX13_figures := by decide +kernel
theorem lk_X13_figures_55 : Cond.fieldLink RX13 55 "PaperStormModel" "told" "[I" ∈ wsX13_figures := by decide +kernel
noncomputable def f_X13_figures_34 (x_input : Nat → Int32) (x_length : Int32) (l1 : Int32) (l2 : Int32) (z92 : Int32 → (Nat → Int32) → Option (Int32 × Int32 × (Nat → Int32))) : Nat → Int32 → Int32 → (Nat → Int32) → Option (Int32 × Int32 × (Nat → Int32))
  | 0, _, _, _ => none
  | n + 1, l3_34, x_at_34, x_told_34 => if l2 ≤ l3_34 then z92 x_at_34 x_told_34 else (f_X13_here x_input x_length x_at_34).bind fun r40 => (f_X13_in r40 48 57).bind fun r47 => if r47 = 0 then z92 x_at_34 x_told_34 else if l1 < 0 ∨ 124 ≤ l1.toNatClampNeg then none else (f_X13_here x_input x_length x_at_34).bind fun r68 => f_X13_figures_34 x_input x_length l1 l2 z92 n (l3_34 + 1) (x_at_34 + 1) (upd x_told_34 l1.toNatClampNeg (((10 * (x_told_34 l1.toNatClampNeg)) + r68) - 48))
noncomputable def f_X13_figures (x_input : Nat → Int32) (x_length : Int32) (x_at : Int32) (x_told : Nat → Int32) (a1 : Int32) (a2 : Int32) : Option (Int32 × Int32 × (Nat → Int32)) :=
  jo (fun (x_at_23 : Int32) => some (0, x_at_23, x_told)) (fun j23 => (f_X13_skips x_input x_length x_at 32).bind fun r3 => if r3.1 = 0 then j23 r3.2 else (f_X13_here x_input x_length r3.2).bind fun r10 => (f_X13_in r10 48 57).bind fun r17 => if r17 = 0 then j23 r3.2 else if a1 < 0 ∨ 124 ≤ a1.toNatClampNeg then none else f_X13_figures_34 x_input x_length a1 a2 (fun x_at_92e x_told_92e => some (1, x_at_92e, x_told_92e)) 1000 0 r3.2 (upd x_told a1.toNatClampNeg 0))
abbrev G_X13_figures (p : Program) (l : Launch) (e : Env) (s : State) (m : MethodId) (args : Array Value) (below : List Frame) (meth : Method) (c : Code) (g : GE) (A : Nat → Prop) (h0 h1 h2 h3 h4 h5 h6 h7 h8 h9 h10 h11 h12 h13 : Nat) (x_g : Nat → Int32) (x_kept : Nat → Int32) (x_saved : Nat → Int32) (x_before : Nat → Int32) (x_was : Nat → Int32) (x_region : Nat → Int32) (x_parts : Nat → Int64) (x_next : Nat → Int64) (x_ways : Nat → Int32) (x_more : Nat → Int32) (x_whole : Int64) (x_isSaved : Int32) (x_changes : Int32) (x_isWithin : Int32) (x_code : Int32) (x_input : Nat → Int32) (x_length : Int32) (x_fault : Int32) (x_failed : Int32) (x_signs : Nat → Int32) (x_signMany : Int32) (x_toldMany : Int32) (res : Int32 × Int32 × (Nat → Int32)) (H : Heap) (locs : List Loc) (pc : Nat) (ls : Array Slot) (st : List Value) : Prop := W p l e (headSpec wsX13_figures rm_X13_figures).room s m args below meth c H locs 0 0 (MQ below (PoI g A (w_X13 g h0 h1 h2 h3 h4 h5 h6 h7 h8 h9 h10 h11 h12 h13 x_g x_kept x_saved x_before x_was x_region x_parts x_next x_ways x_more x_whole x_isSaved x_changes x_isWithin x_code x_input x_length x_fault x_failed x_signs x_signMany res.2.1 res.2.2 x_toldMany) res.1) args s 0 0 A) (F0 m pc ls st)
set_option maxHeartbeats 4000000 in
set_option maxRecDepth 100000 in
theorem k_X13_figures_34 {p : Program} {l : Launch} {e : Env} {s : State} {m : MethodId} {args : Array Value} {below : List Frame} {meth : Method} {c : Code} {g : GE} {A : Nat → Prop} {h0 h1 h2 h3 h4 h5 h6 h7 h8 h9 h10 h11 h12 h13 : Nat} {x_g : Nat → Int32} {x_kept : Nat → Int32} {x_saved : Nat → Int32} {x_before : Nat → Int32} {x_was : Nat → Int32} {x_region : Nat → Int32} {x_parts : Nat → Int64} {x_next : Nat → Int64} {x_ways : Nat → Int32} {x_more : Nat → Int32} {x_whole : Int64} {x_isSaved : Int32} {x_changes : Int32} {x_isWithin : Int32} {x_code : Int32} {x_input : Nat → Int32} {x_length : Int32} {x_fault : Int32} {x_failed : Int32} {x_signs : Nat → Int32} {x_signMany : Int32} {x_toldMany : Int32} {res : Int32 × Int32 × (Nat → Int32)} {l1 : Int32} {l2 : Int32} {z92 : Int32 → (Nat → Int32) → Option (Int32 × Int32 × (Nat → Int32))}
    (E : En cX13_figures RX13 wsX13_figures 4 (some .boolean) p s m args meth c) (hK : KK g s) (hA : ∀ q, s.heap.size ≤ q → A q)
    (hz92 : ∀ (x_at_92e : Int32) (x_told_92e : Nat → Int32) (H : Heap) (locs : List Loc) (ls : Array Slot), z92 x_at_92e x_told_92e = some res → Wo g A s H locs (w_X13 g h0 h1 h2 h3 h4 h5 h6 h7 h8 h9 h10 h11 h12 h13 x_g x_kept x_saved x_before x_was x_region x_parts x_next x_ways x_more x_whole x_isSaved x_changes x_isWithin x_code x_input x_length x_fault x_failed x_signs x_signMany x_at_92e x_told_92e x_toldMany) → lv_has ls 4 [] → G_X13_figures p l e s m args below meth c g A h0 h1 h2 h3 h4 h5 h6 h7 h8 h9 h10 h11 h12 h13 x_g x_kept x_saved x_before x_was x_region x_parts x_next x_ways x_more x_whole x_isSaved x_changes x_isWithin x_code x_input x_length x_fault x_failed x_signs x_signMany x_toldMany res H locs 92 ls [])
    : ∀ (n : Nat) (l3_34 : Int32) (x_at_34 : Int32) (x_told_34 : Nat → Int32) (H : Heap) (locs : List Loc) (ls : Array Slot), f_X13_figures_34 x_input x_length l1 l2 z92 n l3_34 x_at_34 x_told_34 = some res → Wo g A s H locs (w_X13 g h0 h1 h2 h3 h4 h5 h6 h7 h8 h9 h10 h11 h12 h13 x_g x_kept x_saved x_before x_was x_region x_parts x_next x_ways x_more x_whole x_isSaved x_changes x_isWithin x_code x_input x_length x_fault x_failed x_signs x_signMany x_at_34 x_told_34 x_toldMany) → lv_has ls 4 [(0, .ref h0), (1, .int l1), (2, .int l2), (3, .int l3_34)] → G_X13_figures p l e s m args below meth c g A h0 h1 h2 h3 h4 h5 h6 h7 h8 h9 h10 h11 h12 h13 x_g x_kept x_saved x_before x_was x_region x_parts x_next x_ways x_more x_whole x_isSaved x_changes x_isWithin x_code x_input x_length x_fault x_failed x_signs x_signMany x_toldMany res H locs 34 ls [] := by
  have hts := E.2.2.2.1
  intro n
  induction n with
  | zero => intro l3_34 x_at_34 x_told_34 H locs ls h hW hl; rw [f_X13_figures_34] at h; cases h
  | succ n ih =>
    intro l3_34 x_at_34 x_told_34 H locs ls h hW hl
    rw [f_X13_figures_34] at h
    refine lv_iload_n E.1 E.2.1 dX13_figures_34 rfl (lv_at hl 3 rfl) ?_
    refine lv_iload_n E.1 E.2.1 dX13_figures_35 rfl (lv_at hl 2 rfl) ?_
    refine lv_icmp_ge (tgt := 92) E.1 E.2.1 dX13_figures_36 (by decide) (fun c36 => ?_) (fun c36 => ?_)
    · have h := it c36 h
      exact hz92 x_at_34 x_told_34 H locs ls h hW (lv_sub hl [] rfl)
    · have h := ie c36 h
      refine lv_aload_n E.1 E.2.1 dX13_figures_39 rfl (lv_at hl 0 rfl) ?_
      obtain ⟨r40, hc, h⟩ := bx h
      refine goI (world' := (w_X13 g h0 h1 h2 h3 h4 h5 h6 h7 h8 h9 h10 h11 h12 h13 x_g x_kept x_saved x_before x_was x_region x_parts x_next x_ways x_more x_whole x_isSaved x_changes x_isWithin x_code x_input x_length x_fault x_failed x_signs x_signMany x_at_34 x_told_34 x_toldMany)) hW hA (is := [0, 1, 2, 3, 4, 5, 6, 7, 8, 9, 10, 11, 12, 13]) rfl (goV (rest := []) E hK hW [0, 1, 2, 3, 4, 5, 6, 7, 8, 9, 10, 11, 12, 13] rfl rfl (c_X13_here l g h0 h1 h2 h3 h4 h5 h6 h7 h8 h9 h10 h11 h12 h13 x_g x_kept x_saved x_before x_was x_region x_parts x_next x_ways x_more x_whole x_isSaved x_changes x_isWithin x_code x_input x_length x_fault x_failed x_signs x_signMany x_at_34 x_told_34 x_toldMany (hf := hc) H.size) (cwV 0 hts gX13_figures_X13_here rfl rfl rfl (by decide +kernel) ⟨Nat.le_of_ble_eq_true rfl, Nat.le_of_ble_eq_true rfl⟩) 0 rfl rfl rfl hl.1 rfl rfl (Nat.le_of_ble_eq_true rfl) dX13_figures_40 ⟨Nat.zero_le _, Nat.zero_le _⟩) rfl rfl (fun H locs hW => ?_)
      refine lv_bipush (v := 48) E.1 E.2.1 dX13_figures_43 (by decide) ?_
      refine lv_bipush (v := 57) E.1 E.2.1 dX13_figures_45 (by decide) ?_
      obtain ⟨r47, hc, h⟩ := bx h
      refine goI (world' := (w_X13 g h0 h1 h2 h3 h4 h5 h6 h7 h8 h9 h10 h11 h12 h13 x_g x_kept x_saved x_before x_was x_region x_parts x_next x_ways x_more x_whole x_isSaved x_changes x_isWithin x_code x_input x_length x_fault x_failed x_signs x_signMany x_at_34 x_told_34 x_toldMany)) hW hA (is := []) rfl (goS (rest := []) E hK hW [] rfl rfl (c_X13_in l g r40 48 57 (hf := hc) H.size) (va_cwS 3 hts gX13_figures_X13_in rfl rfl rfl (by decide +kernel) ⟨Nat.le_of_ble_eq_true rfl, Nat.le_of_ble_eq_true rfl⟩) hl.1 rfl rfl (Nat.le_of_ble_eq_true rfl) dX13_figures_47 ⟨Nat.zero_le _, Nat.zero_le _⟩) rfl rfl (fun H locs hW => ?_)
      refine lv_if_eq (tgt := 92) E.1 E.2.1 dX13_figures_50 (by decide) (fun c50 => ?_) (fun c50 => ?_)
      · have h := it c50 h
        exact hz92 x_at_34 x_told_34 H locs ls h hW (lv_sub hl [] rfl)
      · have h := ie c50 h
        refine lv_aload_n E.1 E.2.1 dX13_figures_53 rfl (lv_at hl 0 rfl) ?_
        refine wGet (v := .ref h13) E hK in_X13_figures_X13 hW 22 lk_X13_figures_55 0 rfl rfl (by decide) rfl rfl dX13_figures_54 ?_
        refine lv_iload_n E.1 E.2.1 dX13_figures_57 rfl (lv_at hl 1 rfl) ?_
        refine lv_bipush (v := 10) E.1 E.2.1 dX13_figures_58 (by decide) ?_
        refine lv_aload_n E.1 E.2.1 dX13_figures_60 rfl (lv_at hl 0 rfl) ?_
        refine wGet (v := .ref h13) E hK in_X13_figures_X13 hW 22 lk_X13_figures_55 0 rfl rfl (by decide) rfl rfl dX13_figures_61 ?_
        refine lv_iload_n E.1 E.2.1 dX13_figures_64 rfl (lv_at hl 1 rfl) ?_
        obtain ⟨hi65, h⟩ := ox h
        refine wIald E hK hW 13 rfl hi65 dX13_figures_65 ?_
        refine lv_imul E.1 E.2.1 dX13_figures_66 ?_
        refine lv_aload_n E.1 E.2.1 dX13_figures_67 rfl (lv_at hl 0 rfl) ?_
        obtain ⟨r68, hc, h⟩ := bx h
        refine goI (world' := (w_X13 g h0 h1 h2 h3 h4 h5 h6 h7 h8 h9 h10 h11 h12 h13 x_g x_kept x_saved x_before x_was x_region x_parts x_next x_ways x_more x_whole x_isSaved x_changes x_isWithin x_code x_input x_length x_fault x_failed x_signs x_signMany x_at_34 x_told_34 x_toldMany)) hW hA (is := [0, 1, 2, 3, 4, 5, 6, 7, 8, 9, 10, 11, 12, 13]) rfl (goV (rest := [.int (10 * (x_told_34 l1.toNatClampNeg)), .int l1, .ref h13]) E hK hW [0, 1, 2, 3, 4, 5, 6, 7, 8, 9, 10, 11, 12, 13] rfl rfl (c_X13_here l g h0 h1 h2 h3 h4 h5 h6 h7 h8 h9 h10 h11 h12 h13 x_g x_kept x_saved x_before x_was x_region x_parts x_next x_ways x_more x_whole x_isSaved x_changes x_isWithin x_code x_input x_length x_fault x_failed x_signs x_signMany x_at_34 x_told_34 x_toldMany (hf := hc) H.size) (cwV 0 hts gX13_figures_X13_here rfl rfl rfl (by decide +kernel) ⟨Nat.le_of_ble_eq_true rfl, Nat.le_of_ble_eq_true rfl⟩) 0 rfl rfl rfl hl.1 rfl rfl (Nat.le_of_ble_eq_true rfl) dX13_figures_68 ⟨Nat.zero_le _, Nat.zero_le _⟩) rfl rfl (fun H locs hW => ?_)
        refine lv_iadd E.1 E.2.1 dX13_figures_71 ?_
        refine lv_bipush (v := 48) E.1 E.2.1 dX13_figures_72 (by decide) ?_
        refine lv_isub E.1 E.2.1 dX13_figures_74 ?_
        refine wIast (world' := (w_X13 g h0 h1 h2 h3 h4 h5 h6 h7 h8 h9 h10 h11 h12 h13 x_g x_kept x_saved x_before x_was x_region x_parts x_next x_ways x_more x_whole x_isSaved x_changes x_isWithin x_code x_input x_length x_fault x_failed x_signs x_signMany x_at_34 (upd x_told_34 l1.toNatClampNeg (((10 * (x_told_34 l1.toNatClampNeg)) + r68) - 48)) x_toldMany)) E hK hW 13 rfl hi65 dX13_figures_75 rfl (fun H locs hW => ?_)
        refine lv_aload_n E.1 E.2.1 dX13_figures_76 rfl (lv_at hl 0 rfl) ?_
        refine lv_dup E.1 E.2.1 dX13_figures_77 rfl ?_
        refine wGet (v := .int x_at_34) E hK in_X13_figures_X13 hW 21 lk_X13_figures_206 0 rfl rfl (by decide) rfl rfl dX13_figures_78 ?_
        refine lv_iconst (v := 1) E.1 E.2.1 dX13_figures_81 (by decide) ?_
        refine lv_iadd E.1 E.2.1 dX13_figures_82 ?_
        refine wPut (world' := (w_X13 g h0 h1 h2 h3 h4 h5 h6 h7 h8 h9 h10 h11 h12 h13 x_g x_kept x_saved x_before x_was x_region x_parts x_next x_ways x_more x_whole x_isSaved x_changes x_isWithin x_code x_input x_length x_fault x_failed x_signs x_signMany (x_at_34 + 1) (upd x_told_34 l1.toNatClampNeg (((10 * (x_told_34 l1.toNatClampNeg)) + r68) - 48)) x_toldMany)) E hK in_X13_figures_X13 tyX13 tyX13_ok nmX13 hW 21 lk_X13_figures_206 0 rfl rfl (by decide) rfl rfl rfl rfl rfl (Nat.le_of_ble_eq_true rfl) dX13_figures_83 rfl (fun H locs hW => ?_)
        refine lv_iinc (v := (l3_34 + 1)) (lv' := [(3, .int (l3_34 + 1)), (0, .ref h0), (1, .int l1), (2, .int l2)]) E.1 E.2.1 dX13_figures_86 hl (k := 3) rfl rfl (by decide) rfl (fun ls hl => ?_)
        refine lv_goto (tgt := 34) E.1 E.2.1 dX13_figures_89 (by decide) ?_
        exact ih (l3_34 + 1) (x_at_34 + 1) (upd x_told_34 l1.toNatClampNeg (((10 * (x_told_34 l1.toNatClampNeg)) + r68) - 48)) H locs ls h hW (lv_sub hl [1, 2, 3, 0] rfl)
set_option maxHeartbeats 4000000 in
set_option maxRecDepth 100000 in
theorem k_X13_figures_0 {p : Program} {l : Launch} {e : Env} {s : State} {m : MethodId} {args : Array Value} {below : List Frame} {meth : Method} {c : Code} {g : GE} {A : Nat → Prop} {h0 h1 h2 h3 h4 h5 h6 h7 h8 h9 h10 h11 h12 h13 : Nat} {x_g : Nat → Int32} {x_kept : Nat → Int32} {x_saved : Nat → Int32} {x_before : Nat → Int32} {x_was : Nat → Int32} {x_region : Nat → Int32} {x_parts : Nat → Int64} {x_next : Nat → Int64} {x_ways : Nat → Int32} {x_more : Nat → Int32} {x_whole : Int64} {x_isSaved : Int32} {x_changes : Int32} {x_isWithin : Int32} {x_code : Int32} {x_input : Nat → Int32} {x_length : Int32} {x_fault : Int32} {x_failed : Int32} {x_signs : Nat → Int32} {x_signMany : Int32} {x_at : Int32} {x_told : Nat → Int32} {x_toldMany : Int32} {res : Int32 × Int32 × (Nat → Int32)} {H : Heap} {locs : List Loc} {ls : Array Slot} {a1 : Int32} {a2 : Int32}
    (E : En cX13_figures RX13 wsX13_figures 4 (some .boolean) p s m args meth c) (hK : KK g s) (hA : ∀ q, s.heap.size ≤ q → A q) (h : f_X13_figures x_input x_length x_at x_told a1 a2 = some res) (hW : Wo g A s H locs (w_X13 g h0 h1 h2 h3 h4 h5 h6 h7 h8 h9 h10 h11 h12 h13 x_g x_kept x_saved x_before x_was x_region x_parts x_next x_ways x_more x_whole x_isSaved x_changes x_isWithin x_code x_input x_length x_fault x_failed x_signs x_signMany x_at x_told x_toldMany)) (hl : lv_has ls 4 [(0, .ref h0), (1, .int a1), (2, .int a2)]) : G_X13_figures p l e s m args below meth c g A h0 h1 h2 h3 h4 h5 h6 h7 h8 h9 h10 h11 h12 h13 x_g x_kept x_saved x_before x_was x_region x_parts x_next x_ways x_more x_whole x_isSaved x_changes x_isWithin x_code x_input x_length x_fault x_failed x_signs x_signMany x_toldMany res H locs 0 ls [] := by
  have hts := E.2.2.2.1
  unfold f_X13_figures at h
  obtain ⟨j23, hj23, h⟩ := jox1 h
  have J23 : ∀ (x_at_23 : Int32) (H : Heap) (locs : List Loc) (ls : Array Slot), j23 x_at_23 = some res → Wo g A s H locs (w_X13 g h0 h1 h2 h3 h4 h5 h6 h7 h8 h9 h10 h11 h12 h13 x_g x_kept x_saved x_before x_was x_region x_parts x_next x_ways x_more x_whole x_isSaved x_changes x_isWithin x_code x_input x_length x_fault x_failed x_signs x_signMany x_at_23 x_told x_toldMany) → lv_has ls 4 [] → G_X13_figures p l e s m args below meth c g A h0 h1 h2 h3 h4 h5 h6 h7 h8 h9 h10 h11 h12 h13 x_g x_kept x_saved x_before x_was x_region x_parts x_next x_ways x_more x_whole x_isSaved x_changes x_isWithin x_code x_input x_length x_fault x_failed x_signs x_signMany x_toldMany res H locs 23 ls [] := by
    intro x_at_23 H locs ls h hW hl
    rw [hj23] at h
    refine lv_iconst (v := 0) E.1 E.2.1 dX13_figures_23 (by decide) ?_
    obtain rfl := Option.some.inj h
    exact endI E (show narrow .boolean (.int 0) = .int 0 by decide) hW dX13_figures_24
  refine lv_aload_n E.1 E.2.1 dX13_figures_0 rfl (lv_at hl 0 rfl) ?_
  refine lv_bipush (v := 32) E.1 E.2.1 dX13_figures_1 (by decide) ?_
  obtain ⟨r3, hc, h⟩ := bx h
  refine goI (world' := (w_X13 g h0 h1 h2 h3 h4 h5 h6 h7 h8 h9 h10 h11 h12 h13 x_g x_kept x_saved x_before x_was x_region x_parts x_next x_ways x_more x_whole x_isSaved x_changes x_isWithin x_code x_input x_length x_fault x_failed x_signs x_signMany r3.2 x_told x_toldMany)) hW hA (is := [0, 1, 2, 3, 4, 5, 6, 7, 8, 9, 10, 11, 12, 13]) rfl (goV (rest := []) E hK hW [0, 1, 2, 3, 4, 5, 6, 7, 8, 9, 10, 11, 12, 13] rfl rfl (c_X13_skips l g h0 h1 h2 h3 h4 h5 h6 h7 h8 h9 h10 h11 h12 h13 x_g x_kept x_saved x_before x_was x_region x_parts x_next x_ways x_more x_whole x_isSaved x_changes x_isWithin x_code x_input x_length x_fault x_failed x_signs x_signMany x_at x_told x_toldMany 32 (hf := hc) H.size) (cwV 1 hts gX13_figures_X13_skips rfl rfl rfl (by decide +kernel) ⟨Nat.le_of_ble_eq_true rfl, Nat.le_of_ble_eq_true rfl⟩) 0 rfl rfl rfl hl.1 rfl rfl (Nat.le_of_ble_eq_true rfl) dX13_figures_3 ⟨Nat.zero_le _, Nat.zero_le _⟩) rfl rfl (fun H locs hW => ?_)
  refine lv_if_eq (tgt := 23) E.1 E.2.1 dX13_figures_6 (by decide) (fun c6 => ?_) (fun c6 => ?_)
  · have h := it c6 h
    exact J23 r3.2 H locs ls h hW (lv_sub hl [] rfl)
  · have h := ie c6 h
    refine lv_aload_n E.1 E.2.1 dX13_figures_9 rfl (lv_at hl 0 rfl) ?_
    obtain ⟨r10, hc, h⟩ := bx h
    refine goI (world' := (w_X13 g h0 h1 h2 h3 h4 h5 h6 h7 h8 h9 h10 h11 h12 h13 x_g x_kept x_saved x_before x_was x_region x_parts x_next x_ways x_more x_whole x_isSaved x_changes x_isWithin x_code x_input x_length x_fault x_failed x_signs x_signMany r3.2 x_told x_toldMany)) hW hA (is := [0, 1, 2, 3, 4, 5, 6, 7, 8, 9, 10, 11, 12, 13]) rfl (goV (rest := []) E hK hW [0, 1, 2, 3, 4, 5, 6, 7, 8, 9, 10, 11, 12, 13] rfl rfl (c_X13_here l g h0 h1 h2 h3 h4 h5 h6 h7 h8 h9 h10 h11 h12 h13 x_g x_kept x_saved x_before x_was x_region x_parts x_next x_ways x_more x_whole x_isSaved x_changes x_isWithin x_code x_input x_length x_fault x_failed x_signs x_signMany r3.2 x_told x_toldMany (hf := hc) H.size) (cwV 0 hts gX13_figures_X13_here rfl rfl rfl (by decide +kernel) ⟨Nat.le_of_ble_eq_true rfl, Nat.le_of_ble_eq_true rfl⟩) 0 rfl rfl rfl hl.1 rfl rfl (Nat.le_of_ble_eq_true rfl) dX13_figures_10 ⟨Nat.zero_le _, Nat.zero_le _⟩) rfl rfl (fun H locs hW => ?_)
    refine lv_bipush (v := 48) E.1 E.2.1 dX13_figures_13 (by decide) ?_
    refine lv_bipush (v := 57) E.1 E.2.1 dX13_figures_15 (by decide) ?_
    obtain ⟨r17, hc, h⟩ := bx h
    refine goI (world' := (w_X13 g h0 h1 h2 h3 h4 h5 h6 h7 h8 h9 h10 h11 h12 h13 x_g x_kept x_saved x_before x_was x_region x_parts x_next x_ways x_more x_whole x_isSaved x_changes x_isWithin x_code x_input x_length x_fault x_failed x_signs x_signMany r3.2 x_told x_toldMany)) hW hA (is := []) rfl (goS (rest := []) E hK hW [] rfl rfl (c_X13_in l g r10 48 57 (hf := hc) H.size) (va_cwS 3 hts gX13_figures_X13_in rfl rfl rfl (by decide +kernel) ⟨Nat.le_of_ble_eq_true rfl, Nat.le_of_ble_eq_true rfl⟩) hl.1 rfl rfl (Nat.le_of_ble_eq_true rfl) dX13_figures_17 ⟨Nat.zero_le _, Nat.zero_le _⟩) rfl rfl (fun H locs hW => ?_)
    refine lv_if_ne (tgt := 25) E.1 E.2.1 dX13_figures_20 (by decide) (fun c20 => ?_) (fun c20 => ?_)
    · have h := ie c20 h
      refine lv_aload_n E.1 E.2.1 dX13_figures_25 rfl (lv_at hl 0 rfl) ?_
      refine wGet (v := .ref h13) E hK in_X13_figures_X13 hW 22 lk_X13_figures_55 0 rfl rfl (by decide) rfl rfl dX13_figures_26 ?_
      refine lv_iload_n E.1 E.2.1 dX13_figures_29 rfl (lv_at hl 1 rfl) ?_
      refine lv_iconst (v := 0) E.1 E.2.1 dX13_figures_30 (by decide) ?_
      obtain ⟨hi31, h⟩ := ox h
      refine wIast (world' := (w_X13 g h0 h1 h2 h3 h4 h5 h6 h7 h8 h9 h10 h11 h12 h13 x_g x_kept x_saved x_before x_was x_region x_parts x_next x_ways x_more x_whole x_isSaved x_changes x_isWithin x_code x_input x_length x_fault x_failed x_signs x_signMany r3.2 (upd x_told a1.toNatClampNeg 0) x_toldMany)) E hK hW 13 rfl hi31 dX13_figures_31 rfl (fun H locs hW => ?_)
      refine lv_iconst (v := 0) E.1 E.2.1 dX13_figures_32 (by decide) ?_
      refine lv_istore_n (lv' := [(3, .int 0), (0, .ref h0), (1, .int a1), (2, .int a2)]) E.1 E.2.1 dX13_figures_33 rfl hl (by decide) rfl (fun ls hl => ?_)
      refine k_X13_figures_34 E hK hA ?_ 1000 0 r3.2 (upd x_told a1.toNatClampNeg 0) H locs ls h hW (lv_sub hl [1, 2, 3, 0] rfl)
      · intro x_at_92e x_told_92e H locs ls h hW hl
        refine lv_iconst (v := 1) E.1 E.2.1 dX13_figures_92 (by decide) ?_
        obtain rfl := Option.some.inj h
        exact endI E (show narrow .boolean (.int 1) = .int 1 by decide) hW dX13_figures_93
    · have h := it c20 h
      exact J23 r3.2 H locs ls h hW (lv_sub hl [] rfl)
theorem c_X13_figures (l : Launch) (g : GE) (h0 h1 h2 h3 h4 h5 h6 h7 h8 h9 h10 h11 h12 h13 : Nat) (x_g : Nat → Int32) (x_kept : Nat → Int32) (x_saved : Nat → Int32) (x_before : Nat → Int32) (x_was : Nat → Int32) (x_region : Nat → Int32) (x_parts : Nat → Int64) (x_next : Nat → Int64) (x_ways : Nat → Int32) (x_more : Nat → Int32) (x_whole : Int64) (x_isSaved : Int32) (x_changes : Int32) (x_isWithin : Int32) (x_code : Int32) (x_input : Nat → Int32) (x_length : Int32) (x_fault : Int32) (x_failed : Int32) (x_signs : Nat → Int32) (x_signMany : Int32) (x_at : Int32) (x_told : Nat → Int32) (x_toldMany : Int32) (a1 : Int32) (a2 : Int32) {res : Int32 × Int32 × (Nat → Int32)} (hf : f_X13_figures x_input x_length x_at x_told a1 a2 = some res) : CI l yX13_figures wsX13_figures rm_X13_figures g [.ref h0, .int a1, .int a2] (w_X13 g h0 h1 h2 h3 h4 h5 h6 h7 h8 h9 h10 h11 h12 h13 x_g x_kept x_saved x_before x_was x_region x_parts x_next x_ways x_more x_whole x_isSaved x_changes x_isWithin x_code x_input x_length x_fault x_failed x_signs x_signMany x_at x_told x_toldMany) (w_X13 g h0 h1 h2 h3 h4 h5 h6 h7 h8 h9 h10 h11 h12 h13 x_g x_kept x_saved x_before x_was x_region x_parts x_next x_ways x_more x_whole x_isSaved x_changes x_isWithin x_code x_input x_length x_fault x_failed x_signs x_signMany res.2.1 res.2.2 x_toldMany) res.1 :=
  mkI (cc := cX13_figures) (maxL := 4) (by decide) rfl (Nat.le_of_ble_eq_true rfl) (fun p e s m args below meth c A H locs ls E hK hA hW hl => k_X13_figures_0 E hK hA hf hW hl)

/-! PaperStormModel.wayHere(I)Z X13_wayHere -/
abbrev rm_X13_wayHere : Room := { frames := 2, cells := 0, slots := 0, locals := 41 }
theorem in_X13_wayHere_X13 : ∀ w ∈ wsX130, w ∈ wsX13_wayHere := by decide +kernel
theorem lk_X13_wayHere_55 : Cond.fieldLink RX13 55 "PaperStormModel" "told" "[I" ∈ wsX13_wayHere := by decide +kernel
noncomputable def f_X13_wayHere (x_input : Nat → Int32) (x_length : Int32) (x_at : Int32) (x_told : Nat → Int32) (a1 : Int32) : Option (Int32 × Int32 × (Nat → Int32)) :=
  jo (fun (x_at_51 : Int32) (x_told_51 : Nat → Int32) (s0_51 : Int32) => if ¬ vp_nar .boolean s0_51 = s0_51 then none else some (s0_51, x_at_51, x_told_51)) (fun j51 => jo (fun (x_at_46 : Int32) (x_told_46 : Nat → Int32) => j51 x_at_46 x_told_46 1) (fun j46 => (f_X13_here x_input x_length x_at).bind fun r6 => if a1 < 0 ∨ 124 ≤ a1.toNatClampNeg then none else (f_X13_skips x_input x_length x_at 110).bind fun r13 => if r13.1 = 0 then (f_X13_skips x_input x_length r13.2 101).bind fun r22 => if r22.1 = 0 then (f_X13_skips x_input x_length r22.2 115).bind fun r31 => if r31.1 = 0 then (f_X13_skips x_input x_length r31.2 119).bind fun r40 => if r40.1 = 0 then j51 r40.2 (upd x_told a1.toNatClampNeg r6) 0 else j46 r40.2 (upd x_told a1.toNatClampNeg r6) else j46 r31.2 (upd x_told a1.toNatClampNeg r6) else j46 r22.2 (upd x_told a1.toNatClampNeg r6) else j46 r13.2 (upd x_told a1.toNatClampNeg r6)))
abbrev G_X13_wayHere (p : Program) (l : Launch) (e : Env) (s : State) (m : MethodId) (args : Array Value) (below : List Frame) (meth : Method) (c : Code) (g : GE) (A : Nat → Prop) (h0 h1 h2 h3 h4 h5 h6 h7 h8 h9 h10 h11 h12 h13 : Nat) (x_g : Nat → Int32) (x_kept : Nat → Int32) (x_saved : Nat → Int32) (x_before : Nat → Int32) (x_was : Nat → Int32) (x_region : Nat → Int32) (x_parts : Nat → Int64) (x_next : Nat → Int64) (x_ways : Nat → Int32) (x_more : Nat → Int32) (x_whole : Int64) (x_isSaved : Int32) (x_changes : Int32) (x_isWithin : Int32) (x_code : Int32) (x_input : Nat → Int32) (x_length : Int32) (x_fault : Int32) (x_failed : Int32) (x_signs : Nat → Int32) (x_signMany : Int32) (x_toldMany : Int32) (res : Int32 × Int32 × (Nat → Int32)) (H : Heap) (locs : List Loc) (pc : Nat) (ls : Array Slot) (st : List Value) : Prop := W p l e (headSpec wsX13_wayHere rm_X13_wayHere).room s m args below meth c H locs 0 0 (MQ below (PoI g A (w_X13 g h0 h1 h2 h3 h4 h5 h6 h7 h8 h9 h10 h11 h12 h13 x_g x_kept x_saved x_before x_was x_region x_parts x_next x_ways x_more x_whole x_isSaved x_changes x_isWithin x_code x_input x_length x_fault x_failed x_signs x_signMany res.2.1 res.2.2 x_toldMany) res.1) args s 0 0 A) (F0 m pc ls st)
set_option maxHeartbeats 4000000 in
set_option maxRecDepth 100000 in
theorem k_X13_wayHere_0 {p : Program} {l : Launch} {e : Env} {s : State} {m : MethodId} {args : Array Value} {below : List Frame} {meth : Method} {c : Code} {g : GE} {A : Nat → Prop} {h0 h1 h2 h3 h4 h5 h6 h7 h8 h9 h10 h11 h12 h13 : Nat} {x_g : Nat → Int32} {x_kept : Nat → Int32} {x_saved : Nat → Int32} {x_before : Nat → Int32} {x_was : Nat → Int32} {x_region : Nat → Int32} {x_parts : Nat → Int64} {x_next : Nat → Int64} {x_ways : Nat → Int32} {x_more : Nat → Int32} {x_whole : Int64} {x_isSaved : Int32} {x_changes : Int32} {x_isWithin : Int32} {x_code : Int32} {x_input : Nat → Int32} {x_length : Int32} {x_fault : Int32} {x_failed : Int32} {x_signs : Nat → Int32} {x_signMany : Int32} {x_at : Int32} {x_told : Nat → Int32} {x_toldMany : Int32} {res : Int32 × Int32 × (Nat → Int32)} {H : Heap} {locs : List Loc} {ls : Array Slot} {a1 : Int32}
    (E : En cX13_wayHere RX13 wsX13_wayHere 2 (some .boolean) p s m args meth c) (hK : KK g s) (hA : ∀ q, s.heap.size ≤ q → A q) (h : f_X13_wayHere x_input x_length x_at x_told a1 = some res) (hW : Wo g A s H locs (w_X13 g h0 h1 h2 h3 h4 h5 h6 h7 h8 h9 h10 h11 h12 h13 x_g x_kept x_saved x_before x_was x_region x_parts x_next x_ways x_more x_whole x_isSaved x_changes x_isWithin x_code x_input x_length x_fault x_failed x_signs x_signMany x_at x_told x_toldMany)) (hl : lv_has ls 2 [(0, .ref h0), (1, .int a1)]) : G_X13_wayHere p l e s m args below meth c g A h0 h1 h2 h3 h4 h5 h6 h7 h8 h9 h10 h11 h12 h13 x_g x_kept x_saved x_before x_was x_region x_parts x_next x_ways x_more x_whole x_isSaved x_changes x_isWithin x_code x_input x_length x_fault x_failed x_signs x_signMany x_toldMany res H locs 0 ls [] := by
  have hts := E.2.2.2.1
  unfold f_X13_wayHere at h
  obtain ⟨j51, hj51, h⟩ := jox3 h
  have J51 : ∀ (x_at_51 : Int32) (x_told_51 : Nat → Int32) (s0_51 : Int32) (H : Heap) (locs : List Loc) (ls : Array Slot), j51 x_at_51 x_told_51 s0_51 = some res → Wo g A s H locs (w_X13 g h0 h1 h2 h3 h4 h5 h6 h7 h8 h9 h10 h11 h12 h13 x_g x_kept x_saved x_before x_was x_region x_parts x_next x_ways x_more x_whole x_isSaved x_changes x_isWithin x_code x_input x_length x_fault x_failed x_signs x_signMany x_at_51 x_told_51 x_toldMany) → lv_has ls 2 [] → G_X13_wayHere p l e s m args below meth c g A h0 h1 h2 h3 h4 h5 h6 h7 h8 h9 h10 h11 h12 h13 x_g x_kept x_saved x_before x_was x_region x_parts x_next x_ways x_more x_whole x_isSaved x_changes x_isWithin x_code x_input x_length x_fault x_failed x_signs x_signMany x_toldMany res H locs 51 ls [.int s0_51] := by
    intro x_at_51 x_told_51 s0_51 H locs ls h hW hl
    rw [hj51] at h
    obtain ⟨hz, h⟩ := ox h
    obtain rfl := Option.some.inj h
    exact endI E (nar_z (Decidable.not_not.mp hz)) hW dX13_wayHere_51
  obtain ⟨j46, hj46, h⟩ := jox2 h
  have J46 : ∀ (x_at_46 : Int32) (x_told_46 : Nat → Int32) (H : Heap) (locs : List Loc) (ls : Array Slot), j46 x_at_46 x_told_46 = some res → Wo g A s H locs (w_X13 g h0 h1 h2 h3 h4 h5 h6 h7 h8 h9 h10 h11 h12 h13 x_g x_kept x_saved x_before x_was x_region x_parts x_next x_ways x_more x_whole x_isSaved x_changes x_isWithin x_code x_input x_length x_fault x_failed x_signs x_signMany x_at_46 x_told_46 x_toldMany) → lv_has ls 2 [] → G_X13_wayHere p l e s m args below meth c g A h0 h1 h2 h3 h4 h5 h6 h7 h8 h9 h10 h11 h12 h13 x_g x_kept x_saved x_before x_was x_region x_parts x_next x_ways x_more x_whole x_isSaved x_changes x_isWithin x_code x_input x_length x_fault x_failed x_signs x_signMany x_toldMany res H locs 46 ls [] := by
    intro x_at_46 x_told_46 H locs ls h hW hl
    rw [hj46] at h
    refine lv_iconst (v := 1) E.1 E.2.1 dX13_wayHere_46 (by decide) ?_
    refine lv_goto (tgt := 51) E.1 E.2.1 dX13_wayHere_47 (by decide) ?_
    exact J51 x_at_46 x_told_46 1 H locs ls h hW (lv_sub hl [] rfl)
  refine lv_aload_n E.1 E.2.1 dX13_wayHere_0 rfl (lv_at hl 0 rfl) ?_
  refine wGet (v := .ref h13) E hK in_X13_wayHere_X13 hW 22 lk_X13_wayHere_55 0 rfl rfl (by decide) rfl rfl dX13_wayHere_1 ?_
  refine lv_iload_n E.1 E.2.1 dX13_wayHere_4 rfl (lv_at hl 1 rfl) ?_
  refine lv_aload_n E.1 E.2.1 dX13_wayHere_5 rfl (lv_at hl 0 rfl) ?_
  obtain ⟨r6, hc, h⟩ := bx h
  refine goI (world' := (w_X13 g h0 h1 h2 h3 h4 h5 h6 h7 h8 h9 h10 h11 h12 h13 x_g x_kept x_saved x_before x_was x_region x_parts x_next x_ways x_more x_whole x_isSaved x_changes x_isWithin x_code x_input x_length x_fault x_failed x_signs x_signMany x_at x_told x_toldMany)) hW hA (is := [0, 1, 2, 3, 4, 5, 6, 7, 8, 9, 10, 11, 12, 13]) rfl (goV (rest := [.int a1, .ref h13]) E hK hW [0, 1, 2, 3, 4, 5, 6, 7, 8, 9, 10, 11, 12, 13] rfl rfl (c_X13_here l g h0 h1 h2 h3 h4 h5 h6 h7 h8 h9 h10 h11 h12 h13 x_g x_kept x_saved x_before x_was x_region x_parts x_next x_ways x_more x_whole x_isSaved x_changes x_isWithin x_code x_input x_length x_fault x_failed x_signs x_signMany x_at x_told x_toldMany (hf := hc) H.size) (cwV 0 hts gX13_wayHere_X13_here rfl rfl rfl (by decide +kernel) ⟨Nat.le_of_ble_eq_true rfl, Nat.le_of_ble_eq_true rfl⟩) 0 rfl rfl rfl hl.1 rfl rfl (Nat.le_of_ble_eq_true rfl) dX13_wayHere_6 ⟨Nat.zero_le _, Nat.zero_le _⟩) rfl rfl (fun H locs hW => ?_)
  obtain ⟨hi9, h⟩ := ox h
  refine wIast (world' := (w_X13 g h0 h1 h2 h3 h4 h5 h6 h7 h8 h9 h10 h11 h12 h13 x_g x_kept x_saved x_before x_was x_region x_parts x_next x_ways x_more x_whole x_isSaved x_changes x_isWithin x_code x_input x_length x_fault x_failed x_signs x_signMany x_at (upd x_told a1.toNatClampNeg r6) x_toldMany)) E hK hW 13 rfl hi9 dX13_wayHere_9 rfl (fun H locs hW => ?_)
  refine lv_aload_n E.1 E.2.1 dX13_wayHere_10 rfl (lv_at hl 0 rfl) ?_
  refine lv_bipush (v := 110) E.1 E.2.1 dX13_wayHere_11 (by decide) ?_
  obtain ⟨r13, hc, h⟩ := bx h
  refine goI (world' := (w_X13 g h0 h1 h2 h3 h4 h5 h6 h7 h8 h9 h10 h11 h12 h13 x_g x_kept x_saved x_before x_was x_region x_parts x_next x_ways x_more x_whole x_isSaved x_changes x_isWithin x_code x_input x_length x_fault x_failed x_signs x_signMany r13.2 (upd x_told a1.toNatClampNeg r6) x_toldMany)) hW hA (is := [0, 1, 2, 3, 4, 5, 6, 7, 8, 9, 10, 11, 12, 13]) rfl (goV (rest := []) E hK hW [0, 1, 2, 3, 4, 5, 6, 7, 8, 9, 10, 11, 12, 13] rfl rfl (c_X13_skips l g h0 h1 h2 h3 h4 h5 h6 h7 h8 h9 h10 h11 h12 h13 x_g x_kept x_saved x_before x_was x_region x_parts x_next x_ways x_more x_whole x_isSaved x_changes x_isWithin x_code x_input x_length x_fault x_failed x_signs x_signMany x_at (upd x_told a1.toNatClampNeg r6) x_toldMany 110 (hf := hc) H.size) (cwV 1 hts gX13_wayHere_X13_skips rfl rfl rfl (by decide +kernel) ⟨Nat.le_of_ble_eq_true rfl, Nat.le_of_ble_eq_true rfl⟩) 0 rfl rfl rfl hl.1 rfl rfl (Nat.le_of_ble_eq_true rfl) dX13_wayHere_13 ⟨Nat.zero_le _, Nat.zero_le _⟩) rfl rfl (fun H locs hW => ?_)
  refine lv_if_ne (tgt := 46) E.1 E.2.1 dX13_wayHere_16 (by decide) (fun c16 => ?_) (fun c16 => ?_)
  · have h := ie c16 h
    exact J46 r13.2 (upd x_told a1.toNatClampNeg r6) H locs ls h hW (lv_sub hl [] rfl)
  · have h := it c16 h
    refine lv_aload_n E.1 E.2.1 dX13_wayHere_19 rfl (lv_at hl 0 rfl) ?_
    refine lv_bipush (v := 101) E.1 E.2.1 dX13_wayHere_20 (by decide) ?_
    obtain ⟨r22, hc, h⟩ := bx h
    refine goI (world' := (w_X13 g h0 h1 h2 h3 h4 h5 h6 h7 h8 h9 h10 h11 h12 h13 x_g x_kept x_saved x_before x_was x_region x_parts x_next x_ways x_more x_whole x_isSaved x_changes x_isWithin x_code x_input x_length x_fault x_failed x_signs x_signMany r22.2 (upd x_told a1.toNatClampNeg r6) x_toldMany)) hW hA (is := [0, 1, 2, 3, 4, 5, 6, 7, 8, 9, 10, 11, 12, 13]) rfl (goV (rest := []) E hK hW [0, 1, 2, 3, 4, 5, 6, 7, 8, 9, 10, 11, 12, 13] rfl rfl (c_X13_skips l g h0 h1 h2 h3 h4 h5 h6 h7 h8 h9 h10 h11 h12 h13 x_g x_kept x_saved x_before x_was x_region x_parts x_next x_ways x_more x_whole x_isSaved x_changes x_isWithin x_code x_input x_length x_fault x_failed x_signs x_signMany r13.2 (upd x_told a1.toNatClampNeg r6) x_toldMany 101 (hf := hc) H.size) (cwV 1 hts gX13_wayHere_X13_skips rfl rfl rfl (by decide +kernel) ⟨Nat.le_of_ble_eq_true rfl, Nat.le_of_ble_eq_true rfl⟩) 0 rfl rfl rfl hl.1 rfl rfl (Nat.le_of_ble_eq_true rfl) dX13_wayHere_22 ⟨Nat.zero_le _, Nat.zero_le _⟩) rfl rfl (fun H locs hW => ?_)
    refine lv_if_ne (tgt := 46) E.1 E.2.1 dX13_wayHere_25 (by decide) (fun c25 => ?_) (fun c25 => ?_)
    · have h := ie c25 h
      exact J46 r22.2 (upd x_told a1.toNatClampNeg r6) H locs ls h hW (lv_sub hl [] rfl)
    · have h := it c25 h
      refine lv_aload_n E.1 E.2.1 dX13_wayHere_28 rfl (lv_at hl 0 rfl) ?_
      refine lv_bipush (v := 115) E.1 E.2.1 dX13_wayHere_29 (by decide) ?_
      obtain ⟨r31, hc, h⟩ := bx h
      refine goI (world' := (w_X13 g h0 h1 h2 h3 h4 h5 h6 h7 h8 h9 h10 h11 h12 h13 x_g x_kept x_saved x_before x_was x_region x_parts x_next x_ways x_more x_whole x_isSaved x_changes x_isWithin x_code x_input x_length x_fault x_failed x_signs x_signMany r31.2 (upd x_told a1.toNatClampNeg r6) x_toldMany)) hW hA (is := [0, 1, 2, 3, 4, 5, 6, 7, 8, 9, 10, 11, 12, 13]) rfl (goV (rest := []) E hK hW [0, 1, 2, 3, 4, 5, 6, 7, 8, 9, 10, 11, 12, 13] rfl rfl (c_X13_skips l g h0 h1 h2 h3 h4 h5 h6 h7 h8 h9 h10 h11 h12 h13 x_g x_kept x_saved x_before x_was x_region x_parts x_next x_ways x_more x_whole x_isSaved x_changes x_isWithin x_code x_input x_length x_fault x_failed x_signs x_signMany r22.2 (upd x_told a1.toNatClampNeg r6) x_toldMany 115 (hf := hc) H.size) (cwV 1 hts gX13_wayHere_X13_skips rfl rfl rfl (by decide +kernel) ⟨Nat.le_of_ble_eq_true rfl, Nat.le_of_ble_eq_true rfl⟩) 0 rfl rfl rfl hl.1 rfl rfl (Nat.le_of_ble_eq_true rfl) dX13_wayHere_31 ⟨Nat.zero_le _, Nat.zero_le _⟩) rfl rfl (fun H locs hW => ?_)
      refine lv_if_ne (tgt := 46) E.1 E.2.1 dX13_wayHere_34 (by decide) (fun c34 => ?_) (fun c34 => ?_)
      · have h := ie c34 h
        exact J46 r31.2 (upd x_told a1.toNatClampNeg r6) H locs ls h hW (lv_sub hl [] rfl)
      · have h := it c34 h
        refine lv_aload_n E.1 E.2.1 dX13_wayHere_37 rfl (lv_at hl 0 rfl) ?_
        refine lv_bipush (v := 119) E.1 E.2.1 dX13_wayHere_38 (by decide) ?_
        obtain ⟨r40, hc, h⟩ := bx h
        refine goI (world' := (w_X13 g h0 h1 h2 h3 h4 h5 h6 h7 h8 h9 h10 h11 h12 h13 x_g x_kept x_saved x_before x_was x_region x_parts x_next x_ways x_more x_whole x_isSaved x_changes x_isWithin x_code x_input x_length x_fault x_failed x_signs x_signMany r40.2 (upd x_told a1.toNatClampNeg r6) x_toldMany)) hW hA (is := [0, 1, 2, 3, 4, 5, 6, 7, 8, 9, 10, 11, 12, 13]) rfl (goV (rest := []) E hK hW [0, 1, 2, 3, 4, 5, 6, 7, 8, 9, 10, 11, 12, 13] rfl rfl (c_X13_skips l g h0 h1 h2 h3 h4 h5 h6 h7 h8 h9 h10 h11 h12 h13 x_g x_kept x_saved x_before x_was x_region x_parts x_next x_ways x_more x_whole x_isSaved x_changes x_isWithin x_code x_input x_length x_fault x_failed x_signs x_signMany r31.2 (upd x_told a1.toNatClampNeg r6) x_toldMany 119 (hf := hc) H.size) (cwV 1 hts gX13_wayHere_X13_skips rfl rfl rfl (by decide +kernel) ⟨Nat.le_of_ble_eq_true rfl, Nat.le_of_ble_eq_true rfl⟩) 0 rfl rfl rfl hl.1 rfl rfl (Nat.le_of_ble_eq_true rfl) dX13_wayHere_40 ⟨Nat.zero_le _, Nat.zero_le _⟩) rfl rfl (fun H locs hW => ?_)
        refine lv_if_eq (tgt := 50) E.1 E.2.1 dX13_wayHere_43 (by decide) (fun c43 => ?_) (fun c43 => ?_)
        · have h := it c43 h
          refine lv_iconst (v := 0) E.1 E.2.1 dX13_wayHere_50 (by decide) ?_
          exact J51 r40.2 (upd x_told a1.toNatClampNeg r6) 0 H locs ls h hW (lv_sub hl [] rfl)
        · have h := ie c43 h
          exact J46 r40.2 (upd x_told a1.toNatClampNeg r6) H locs ls h hW (lv_sub hl [] rfl)
theorem c_X13_wayHere (l : Launch) (g : GE) (h0 h1 h2 h3 h4 h5 h6 h7 h8 h9 h10 h11 h12 h13 : Nat) (x_g : Nat → Int32) (x_kept : Nat → Int32) (x_saved : Nat → Int32) (x_before : Nat → Int32) (x_was : Nat → Int32) (x_region : Nat → Int32) (x_parts : Nat → Int64) (x_next : Nat → Int64) (x_ways : Nat → Int32) (x_more : Nat → Int32) (x_whole : Int64) (x_isSaved : Int32) (x_changes : Int32) (x_isWithin : Int32) (x_code : Int32) (x_input : Nat → Int32) (x_length : Int32) (x_fault : Int32) (x_failed : Int32) (x_signs : Nat → Int32) (x_signMany : Int32) (x_at : Int32) (x_told : Nat → Int32) (x_toldMany : Int32) (a1 : Int32) {res : Int32 × Int32 × (Nat → Int32)} (hf : f_X13_wayHere x_input x_length x_at x_told a1 = some res) : CI l yX13_wayHere wsX13_wayHere rm_X13_wayHere g [.ref h0, .int a1] (w_X13 g h0 h1 h2 h3 h4 h5 h6 h7 h8 h9 h10 h11 h12 h13 x_g x_kept x_saved x_before x_was x_region x_parts x_next x_ways x_more x_whole x_isSaved x_changes x_isWithin x_code x_input x_length x_fault x_failed x_signs x_signMany x_at x_told x_toldMany) (w_X13 g h0 h1 h2 h3 h4 h5 h6 h7 h8 h9 h10 h11 h12 h13 x_g x_kept x_saved x_before x_was x_region x_parts x_next x_ways x_more x_whole x_isSaved x_changes x_isWithin x_code x_input x_length x_fault x_failed x_signs x_signMany res.2.1 res.2.2 x_toldMany) res.1 :=
  mkI (cc := cX13_wayHere) (maxL := 2) (by decide) rfl (Nat.le_of_ble_eq_true rfl) (fun p e s m args below meth c A H locs ls E hK hA hW hl => k_X13_wayHere_0 E hK hA hf hW hl)

/-! PaperStormModel.errorPosition()I X13_errorPosition -/
abbrev rm_X13_errorPosition : Room := { frames := 1, cells := 0, slots := 0, locals := 21 }
theorem in_X13_errorPosition_X13 : ∀ w ∈ wsX130, w ∈ wsX13_errorPosition := by decide +kernel
theorem lk_X13_errorPosition_44 : Cond.fieldLink RX13 44 "PaperStormModel" "fault" "I" ∈ wsX13_errorPosition := by decide +kernel
noncomputable def f_X13_errorPosition (x_code : Int32) (x_fault : Int32) : Option (Int32 × Int32) :=
  jo (fun (s1_13 : Int32) => jo (fun (x_code_27 : Int32) (s0_27 : Int32) => some (s0_27, x_code_27)) (fun j27 => (f_X13_fails x_code s1_13).bind fun r13 => if r13.1 = 0 then j27 r13.2 x_fault else j27 r13.2 0)) (fun j13 => if 0 ≤ x_fault then j13 0 else j13 1)
abbrev G_X13_errorPosition (p : Program) (l : Launch) (e : Env) (s : State) (m : MethodId) (args : Array Value) (below : List Frame) (meth : Method) (c : Code) (g : GE) (A : Nat → Prop) (h0 h1 h2 h3 h4 h5 h6 h7 h8 h9 h10 h11 h12 h13 : Nat) (x_g : Nat → Int32) (x_kept : Nat → Int32) (x_saved : Nat → Int32) (x_before : Nat → Int32) (x_was : Nat → Int32) (x_region : Nat → Int32) (x_parts : Nat → Int64) (x_next : Nat → Int64) (x_ways : Nat → Int32) (x_more : Nat → Int32) (x_whole : Int64) (x_isSaved : Int32) (x_changes : Int32) (x_isWithin : Int32) (x_input : Nat → Int32) (x_length : Int32) (x_fault : Int32) (x_failed : Int32) (x_signs : Nat → Int32) (x_signMany : Int32) (x_at : Int32) (x_told : Nat → Int32) (x_toldMany : Int32) (res : Int32 × Int32) (H : Heap) (locs : List Loc) (pc : Nat) (ls : Array Slot) (st : List Value) : Prop := W p l e (headSpec wsX13_errorPosition rm_X13_errorPosition).room s m args below meth c H locs 0 0 (MQ below (PoI g A (w_X13 g h0 h1 h2 h3 h4 h5 h6 h7 h8 h9 h10 h11 h12 h13 x_g x_kept x_saved x_before x_was x_region x_parts x_next x_ways x_more x_whole x_isSaved x_changes x_isWithin res.2 x_input x_length x_fault x_failed x_signs x_signMany x_at x_told x_toldMany) res.1) args s 0 0 A) (F0 m pc ls st)
set_option maxHeartbeats 4000000 in
set_option maxRecDepth 100000 in
theorem k_X13_errorPosition_0 {p : Program} {l : Launch} {e : Env} {s : State} {m : MethodId} {args : Array Value} {below : List Frame} {meth : Method} {c : Code} {g : GE} {A : Nat → Prop} {h0 h1 h2 h3 h4 h5 h6 h7 h8 h9 h10 h11 h12 h13 : Nat} {x_g : Nat → Int32} {x_kept : Nat → Int32} {x_saved : Nat → Int32} {x_before : Nat → Int32} {x_was : Nat → Int32} {x_region : Nat → Int32} {x_parts : Nat → Int64} {x_next : Nat → Int64} {x_ways : Nat → Int32} {x_more : Nat → Int32} {x_whole : Int64} {x_isSaved : Int32} {x_changes : Int32} {x_isWithin : Int32} {x_code : Int32} {x_input : Nat → Int32} {x_length : Int32} {x_fault : Int32} {x_failed : Int32} {x_signs : Nat → Int32} {x_signMany : Int32} {x_at : Int32} {x_told : Nat → Int32} {x_toldMany : Int32} {res : Int32 × Int32} {H : Heap} {locs : List Loc} {ls : Array Slot} 
    (E : En cX13_errorPosition RX13 wsX13_errorPosition 1 (some .int) p s m args meth c) (hK : KK g s) (hA : ∀ q, s.heap.size ≤ q → A q) (h : f_X13_errorPosition x_code x_fault = some res) (hW : Wo g A s H locs (w_X13 g h0 h1 h2 h3 h4 h5 h6 h7 h8 h9 h10 h11 h12 h13 x_g x_kept x_saved x_before x_was x_region x_parts x_next x_ways x_more x_whole x_isSaved x_changes x_isWithin x_code x_input x_length x_fault x_failed x_signs x_signMany x_at x_told x_toldMany)) (hl : lv_has ls 1 [(0, .ref h0)]) : G_X13_errorPosition p l e s m args below meth c g A h0 h1 h2 h3 h4 h5 h6 h7 h8 h9 h10 h11 h12 h13 x_g x_kept x_saved x_before x_was x_region x_parts x_next x_ways x_more x_whole x_isSaved x_changes x_isWithin x_input x_length x_fault x_failed x_signs x_signMany x_at x_told x_toldMany res H locs 0 ls [] := by
  have hts := E.2.2.2.1
  unfold f_X13_errorPosition at h
  obtain ⟨j13, hj13, h⟩ := jox1 h
  have J13 : ∀ (s1_13 : Int32) (H : Heap) (locs : List Loc) (ls : Array Slot), j13 s1_13 = some res → Wo g A s H locs (w_X13 g h0 h1 h2 h3 h4 h5 h6 h7 h8 h9 h10 h11 h12 h13 x_g x_kept x_saved x_before x_was x_region x_parts x_next x_ways x_more x_whole x_isSaved x_changes x_isWithin x_code x_input x_length x_fault x_failed x_signs x_signMany x_at x_told x_toldMany) → lv_has ls 1 [(0, .ref h0)] → G_X13_errorPosition p l e s m args below meth c g A h0 h1 h2 h3 h4 h5 h6 h7 h8 h9 h10 h11 h12 h13 x_g x_kept x_saved x_before x_was x_region x_parts x_next x_ways x_more x_whole x_isSaved x_changes x_isWithin x_input x_length x_fault x_failed x_signs x_signMany x_at x_told x_toldMany res H locs 13 ls [.int s1_13, .ref h0] := by
    intro s1_13 H locs ls h hW hl
    rw [hj13] at h
    obtain ⟨j27, hj27, h⟩ := jox2 h
    have J27 : ∀ (x_code_27 : Int32) (s0_27 : Int32) (H : Heap) (locs : List Loc) (ls : Array Slot), j27 x_code_27 s0_27 = some res → Wo g A s H locs (w_X13 g h0 h1 h2 h3 h4 h5 h6 h7 h8 h9 h10 h11 h12 h13 x_g x_kept x_saved x_before x_was x_region x_parts x_next x_ways x_more x_whole x_isSaved x_changes x_isWithin x_code_27 x_input x_length x_fault x_failed x_signs x_signMany x_at x_told x_toldMany) → lv_has ls 1 [] → G_X13_errorPosition p l e s m args below meth c g A h0 h1 h2 h3 h4 h5 h6 h7 h8 h9 h10 h11 h12 h13 x_g x_kept x_saved x_before x_was x_region x_parts x_next x_ways x_more x_whole x_isSaved x_changes x_isWithin x_input x_length x_fault x_failed x_signs x_signMany x_at x_told x_toldMany res H locs 27 ls [.int s0_27] := by
      intro x_code_27 s0_27 H locs ls h hW hl
      rw [hj27] at h
      obtain rfl := Option.some.inj h
      exact endI E rfl hW dX13_errorPosition_27
    obtain ⟨r13, hc, h⟩ := bx h
    refine goI (world' := (w_X13 g h0 h1 h2 h3 h4 h5 h6 h7 h8 h9 h10 h11 h12 h13 x_g x_kept x_saved x_before x_was x_region x_parts x_next x_ways x_more x_whole x_isSaved x_changes x_isWithin r13.2 x_input x_length x_fault x_failed x_signs x_signMany x_at x_told x_toldMany)) hW hA (is := [0, 1, 2, 3, 4, 5, 6, 7, 8, 9, 10, 11, 12, 13]) rfl (goV (rest := []) E hK hW [0, 1, 2, 3, 4, 5, 6, 7, 8, 9, 10, 11, 12, 13] rfl rfl (c_X13_fails l g h0 h1 h2 h3 h4 h5 h6 h7 h8 h9 h10 h11 h12 h13 x_g x_kept x_saved x_before x_was x_region x_parts x_next x_ways x_more x_whole x_isSaved x_changes x_isWithin x_code x_input x_length x_fault x_failed x_signs x_signMany x_at x_told x_toldMany s1_13 (hf := hc) H.size) (cwV 1 hts gX13_errorPosition_X13_fails rfl rfl rfl (by decide +kernel) ⟨Nat.le_of_ble_eq_true rfl, Nat.le_of_ble_eq_true rfl⟩) 0 rfl rfl rfl hl.1 rfl rfl (Nat.le_of_ble_eq_true rfl) dX13_errorPosition_13 ⟨Nat.zero_le _, Nat.zero_le _⟩) rfl rfl (fun H locs hW => ?_)
    refine lv_if_eq (tgt := 23) E.1 E.2.1 dX13_errorPosition_16 (by decide) (fun c16 => ?_) (fun c16 => ?_)
    · have h := it c16 h
      refine lv_aload_n E.1 E.2.1 dX13_errorPosition_23 rfl (lv_at hl 0 rfl) ?_
      refine wGet (v := .int x_fault) E hK in_X13_errorPosition_X13 hW 17 lk_X13_errorPosition_44 0 rfl rfl (by decide) rfl rfl dX13_errorPosition_24 ?_
      exact J27 r13.2 x_fault H locs ls h hW (lv_sub hl [] rfl)
    · have h := ie c16 h
      refine lv_iconst (v := 0) E.1 E.2.1 dX13_errorPosition_19 (by decide) ?_
      refine lv_goto (tgt := 27) E.1 E.2.1 dX13_errorPosition_20 (by decide) ?_
      exact J27 r13.2 0 H locs ls h hW (lv_sub hl [] rfl)
  refine lv_aload_n E.1 E.2.1 dX13_errorPosition_0 rfl (lv_at hl 0 rfl) ?_
  refine lv_aload_n E.1 E.2.1 dX13_errorPosition_1 rfl (lv_at hl 0 rfl) ?_
  refine wGet (v := .int x_fault) E hK in_X13_errorPosition_X13 hW 17 lk_X13_errorPosition_44 0 rfl rfl (by decide) rfl rfl dX13_errorPosition_2 ?_
  refine lv_if_ge (tgt := 12) E.1 E.2.1 dX13_errorPosition_5 (by decide) (fun c5 => ?_) (fun c5 => ?_)
  · have h := it c5 h
    refine lv_iconst (v := 0) E.1 E.2.1 dX13_errorPosition_12 (by decide) ?_
    exact J13 0 H locs ls h hW (lv_sub hl [0] rfl)
  · have h := ie c5 h
    refine lv_iconst (v := 1) E.1 E.2.1 dX13_errorPosition_8 (by decide) ?_
    refine lv_goto (tgt := 13) E.1 E.2.1 dX13_errorPosition_9 (by decide) ?_
    exact J13 1 H locs ls h hW (lv_sub hl [0] rfl)
theorem c_X13_errorPosition (l : Launch) (g : GE) (h0 h1 h2 h3 h4 h5 h6 h7 h8 h9 h10 h11 h12 h13 : Nat) (x_g : Nat → Int32) (x_kept : Nat → Int32) (x_saved : Nat → Int32) (x_before : Nat → Int32) (x_was : Nat → Int32) (x_region : Nat → Int32) (x_parts : Nat → Int64) (x_next : Nat → Int64) (x_ways : Nat → Int32) (x_more : Nat → Int32) (x_whole : Int64) (x_isSaved : Int32) (x_changes : Int32) (x_isWithin : Int32) (x_code : Int32) (x_input : Nat → Int32) (x_length : Int32) (x_fault : Int32) (x_failed : Int32) (x_signs : Nat → Int32) (x_signMany : Int32) (x_at : Int32) (x_told : Nat → Int32) (x_toldMany : Int32) {res : Int32 × Int32} (hf : f_X13_errorPosition x_code x_fault = some res) : CI l yX13_errorPosition wsX13_errorPosition rm_X13_errorPosition g [.ref h0] (w_X13 g h0 h1 h2 h3 h4 h5 h6 h7 h8 h9 h10 h11 h12 h13 x_g x_kept x_saved x_before x_was x_region x_parts x_next x_ways x_more x_whole x_isSaved x_changes x_isWithin x_code x_input x_length x_fault x_failed x_signs x_signMany x_at x_told x_toldMany) (w_X13 g h0 h1 h2 h3 h4 h5 h6 h7 h8 h9 h10 h11 h12 h13 x_g x_kept x_saved x_before x_was x_region x_parts x_next x_ways x_more x_whole x_isSaved x_changes x_isWithin res.2 x_input x_length x_fault x_failed x_signs x_signMany x_at x_told x_toldMany) res.1 :=
  mkI (cc := cX13_errorPosition) (maxL := 1) (by decide) rfl (Nat.le_of_ble_eq_true rfl) (fun p e s m args below meth c A H locs ls E hK hA hW hl => k_X13_errorPosition_0 E hK hA hf hW hl)

/-! PaperStormModel.failedCommand()I X13_failedCommand -/
abbrev rm_X13_failedCommand : Room := { frames := 1, cells := 0, slots := 0, locals := 21 }
theorem in_X13_failedCommand_X13 : ∀ w ∈ wsX130, w ∈ wsX13_failedCommand := by decide +kernel
theorem lk_X13_failedCommand_48 : Cond.fieldLink RX13 48 "PaperStormModel" "failed" "I" ∈ wsX13_failedCommand := by decide +kernel
noncomputable def f_X13_failedCommand (x_code : Int32) (x_failed : Int32) : Option (Int32 × Int32) :=
  jo (fun (s1_13 : Int32) => jo (fun (x_code_27 : Int32) (s0_27 : Int32) => some (s0_27, x_code_27)) (fun j27 => (f_X13_fails x_code s1_13).bind fun r13 => if r13.1 = 0 then j27 r13.2 x_failed else j27 r13.2 0)) (fun j13 => if 0 ≤ x_failed then j13 0 else j13 1)
abbrev G_X13_failedCommand (p : Program) (l : Launch) (e : Env) (s : State) (m : MethodId) (args : Array Value) (below : List Frame) (meth : Method) (c : Code) (g : GE) (A : Nat → Prop) (h0 h1 h2 h3 h4 h5 h6 h7 h8 h9 h10 h11 h12 h13 : Nat) (x_g : Nat → Int32) (x_kept : Nat → Int32) (x_saved : Nat → Int32) (x_before : Nat → Int32) (x_was : Nat → Int32) (x_region : Nat → Int32) (x_parts : Nat → Int64) (x_next : Nat → Int64) (x_ways : Nat → Int32) (x_more : Nat → Int32) (x_whole : Int64) (x_isSaved : Int32) (x_changes : Int32) (x_isWithin : Int32) (x_input : Nat → Int32) (x_length : Int32) (x_fault : Int32) (x_failed : Int32) (x_signs : Nat → Int32) (x_signMany : Int32) (x_at : Int32) (x_told : Nat → Int32) (x_toldMany : Int32) (res : Int32 × Int32) (H : Heap) (locs : List Loc) (pc : Nat) (ls : Array Slot) (st : List Value) : Prop := W p l e (headSpec wsX13_failedCommand rm_X13_failedCommand).room s m args below meth c H locs 0 0 (MQ below (PoI g A (w_X13 g h0 h1 h2 h3 h4 h5 h6 h7 h8 h9 h10 h11 h12 h13 x_g x_kept x_saved x_before x_was x_region x_parts x_next x_ways x_more x_whole x_isSaved x_changes x_isWithin res.2 x_input x_length x_fault x_failed x_signs x_signMany x_at x_told x_toldMany) res.1) args s 0 0 A) (F0 m pc ls st)
set_option maxHeartbeats 4000000 in
set_option maxRecDepth 100000 in
theorem k_X13_failedCommand_0 {p : Program} {l : Launch} {e : Env} {s : State} {m : MethodId} {args : Array Value} {below : List Frame} {meth : Method} {c : Code} {g : GE} {A : Nat → Prop} {h0 h1 h2 h3 h4 h5 h6 h7 h8 h9 h10 h11 h12 h13 : Nat} {x_g : Nat → Int32} {x_kept : Nat → Int32} {x_saved : Nat → Int32} {x_before : Nat → Int32} {x_was : Nat → Int32} {x_region : Nat → Int32} {x_parts : Nat → Int64} {x_next : Nat → Int64} {x_ways : Nat → Int32} {x_more : Nat → Int32} {x_whole : Int64} {x_isSaved : Int32} {x_changes : Int32} {x_isWithin : Int32} {x_code : Int32} {x_input : Nat → Int32} {x_length : Int32} {x_fault : Int32} {x_failed : Int32} {x_signs : Nat → Int32} {x_signMany : Int32} {x_at : Int32} {x_told : Nat → Int32} {x_toldMany : Int32} {res : Int32 × Int32} {H : Heap} {locs : List Loc} {ls : Array Slot} 
    (E : En cX13_failedCommand RX13 wsX13_failedCommand 1 (some .int) p s m args meth c) (hK : KK g s) (hA : ∀ q, s.heap.size ≤ q → A q) (h : f_X13_failedCommand x_code x_failed = some res) (hW : Wo g A s H locs (w_X13 g h0 h1 h2 h3 h4 h5 h6 h7 h8 h9 h10 h11 h12 h13 x_g x_kept x_saved x_before x_was x_region x_parts x_next x_ways x_more x_whole x_isSaved x_changes x_isWithin x_code x_input x_length x_fault x_failed x_signs x_signMany x_at x_told x_toldMany)) (hl : lv_has ls 1 [(0, .ref h0)]) : G_X13_failedCommand p l e s m args below meth c g A h0 h1 h2 h3 h4 h5 h6 h7 h8 h9 h10 h11 h12 h13 x_g x_kept x_saved x_before x_was x_region x_parts x_next x_ways x_more x_whole x_isSaved x_changes x_isWithin x_input x_length x_fault x_failed x_signs x_signMany x_at x_told x_toldMany res H locs 0 ls [] := by
  have hts := E.2.2.2.1
  unfold f_X13_failedCommand at h
  obtain ⟨j13, hj13, h⟩ := jox1 h
  have J13 : ∀ (s1_13 : Int32) (H : Heap) (locs : List Loc) (ls : Array Slot), j13 s1_13 = some res → Wo g A s H locs (w_X13 g h0 h1 h2 h3 h4 h5 h6 h7 h8 h9 h10 h11 h12 h13 x_g x_kept x_saved x_before x_was x_region x_parts x_next x_ways x_more x_whole x_isSaved x_changes x_isWithin x_code x_input x_length x_fault x_failed x_signs x_signMany x_at x_told x_toldMany) → lv_has ls 1 [(0, .ref h0)] → G_X13_failedCommand p l e s m args below meth c g A h0 h1 h2 h3 h4 h5 h6 h7 h8 h9 h10 h11 h12 h13 x_g x_kept x_saved x_before x_was x_region x_parts x_next x_ways x_more x_whole x_isSaved x_changes x_isWithin x_input x_length x_fault x_failed x_signs x_signMany x_at x_told x_toldMany res H locs 13 ls [.int s1_13, .ref h0] := by
    intro s1_13 H locs ls h hW hl
    rw [hj13] at h
    obtain ⟨j27, hj27, h⟩ := jox2 h
    have J27 : ∀ (x_code_27 : Int32) (s0_27 : Int32) (H : Heap) (locs : List Loc) (ls : Array Slot), j27 x_code_27 s0_27 = some res → Wo g A s H locs (w_X13 g h0 h1 h2 h3 h4 h5 h6 h7 h8 h9 h10 h11 h12 h13 x_g x_kept x_saved x_before x_was x_region x_parts x_next x_ways x_more x_whole x_isSaved x_changes x_isWithin x_code_27 x_input x_length x_fault x_failed x_signs x_signMany x_at x_told x_toldMany) → lv_has ls 1 [] → G_X13_failedCommand p l e s m args below meth c g A h0 h1 h2 h3 h4 h5 h6 h7 h8 h9 h10 h11 h12 h13 x_g x_kept x_saved x_before x_was x_region x_parts x_next x_ways x_more x_whole x_isSaved x_changes x_isWithin x_input x_length x_fault x_failed x_signs x_signMany x_at x_told x_toldMany res H locs 27 ls [.int s0_27] := by
      intro x_code_27 s0_27 H locs ls h hW hl
      rw [hj27] at h
      obtain rfl := Option.some.inj h
      exact endI E rfl hW dX13_failedCommand_27
    obtain ⟨r13, hc, h⟩ := bx h
    refine goI (world' := (w_X13 g h0 h1 h2 h3 h4 h5 h6 h7 h8 h9 h10 h11 h12 h13 x_g x_kept x_saved x_before x_was x_region x_parts x_next x_ways x_more x_whole x_isSaved x_changes x_isWithin r13.2 x_input x_length x_fault x_failed x_signs x_signMany x_at x_told x_toldMany)) hW hA (is := [0, 1, 2, 3, 4, 5, 6, 7, 8, 9, 10, 11, 12, 13]) rfl (goV (rest := []) E hK hW [0, 1, 2, 3, 4, 5, 6, 7, 8, 9, 10, 11, 12, 13] rfl rfl (c_X13_fails l g h0 h1 h2 h3 h4 h5 h6 h7 h8 h9 h10 h11 h12 h13 x_g x_kept x_saved x_before x_was x_region x_parts x_next x_ways x_more x_whole x_isSaved x_changes x_isWithin x_code x_input x_length x_fault x_failed x_signs x_signMany x_at x_told x_toldMany s1_13 (hf := hc) H.size) (cwV 1 hts gX13_failedCommand_X13_fails rfl rfl rfl (by decide +kernel) ⟨Nat.le_of_ble_eq_true rfl, Nat.le_of_ble_eq_true rfl⟩) 0 rfl rfl rfl hl.1 rfl rfl (Nat.le_of_ble_eq_true rfl) dX13_failedCommand_13 ⟨Nat.zero_le _, Nat.zero_le _⟩) rfl rfl (fun H locs hW => ?_)
    refine lv_if_eq (tgt := 23) E.1 E.2.1 dX13_failedCommand_16 (by decide) (fun c16 => ?_) (fun c16 => ?_)
    · have h := it c16 h
      refine lv_aload_n E.1 E.2.1 dX13_failedCommand_23 rfl (lv_at hl 0 rfl) ?_
      refine wGet (v := .int x_failed) E hK in_X13_failedCommand_X13 hW 18 lk_X13_failedCommand_48 0 rfl rfl (by decide) rfl rfl dX13_failedCommand_24 ?_
      exact J27 r13.2 x_failed H locs ls h hW (lv_sub hl [] rfl)
    · have h := ie c16 h
      refine lv_iconst (v := 0) E.1 E.2.1 dX13_failedCommand_19 (by decide) ?_
      refine lv_goto (tgt := 27) E.1 E.2.1 dX13_failedCommand_20 (by decide) ?_
      exact J27 r13.2 0 H locs ls h hW (lv_sub hl [] rfl)
  refine lv_aload_n E.1 E.2.1 dX13_failedCommand_0 rfl (lv_at hl 0 rfl) ?_
  refine lv_aload_n E.1 E.2.1 dX13_failedCommand_1 rfl (lv_at hl 0 rfl) ?_
  refine wGet (v := .int x_failed) E hK in_X13_failedCommand_X13 hW 18 lk_X13_failedCommand_48 0 rfl rfl (by decide) rfl rfl dX13_failedCommand_2 ?_
  refine lv_if_ge (tgt := 12) E.1 E.2.1 dX13_failedCommand_5 (by decide) (fun c5 => ?_) (fun c5 => ?_)
  · have h := it c5 h
    refine lv_iconst (v := 0) E.1 E.2.1 dX13_failedCommand_12 (by decide) ?_
    exact J13 0 H locs ls h hW (lv_sub hl [0] rfl)
  · have h := ie c5 h
    refine lv_iconst (v := 1) E.1 E.2.1 dX13_failedCommand_8 (by decide) ?_
    refine lv_goto (tgt := 13) E.1 E.2.1 dX13_failedCommand_9 (by decide) ?_
    exact J13 1 H locs ls h hW (lv_sub hl [0] rfl)
theorem c_X13_failedCommand (l : Launch) (g : GE) (h0 h1 h2 h3 h4 h5 h6 h7 h8 h9 h10 h11 h12 h13 : Nat) (x_g : Nat → Int32) (x_kept : Nat → Int32) (x_saved : Nat → Int32) (x_before : Nat → Int32) (x_was : Nat → Int32) (x_region : Nat → Int32) (x_parts : Nat → Int64) (x_next : Nat → Int64) (x_ways : Nat → Int32) (x_more : Nat → Int32) (x_whole : Int64) (x_isSaved : Int32) (x_changes : Int32) (x_isWithin : Int32) (x_code : Int32) (x_input : Nat → Int32) (x_length : Int32) (x_fault : Int32) (x_failed : Int32) (x_signs : Nat → Int32) (x_signMany : Int32) (x_at : Int32) (x_told : Nat → Int32) (x_toldMany : Int32) {res : Int32 × Int32} (hf : f_X13_failedCommand x_code x_failed = some res) : CI l yX13_failedCommand wsX13_failedCommand rm_X13_failedCommand g [.ref h0] (w_X13 g h0 h1 h2 h3 h4 h5 h6 h7 h8 h9 h10 h11 h12 h13 x_g x_kept x_saved x_before x_was x_region x_parts x_next x_ways x_more x_whole x_isSaved x_changes x_isWithin x_code x_input x_length x_fault x_failed x_signs x_signMany x_at x_told x_toldMany) (w_X13 g h0 h1 h2 h3 h4 h5 h6 h7 h8 h9 h10 h11 h12 h13 x_g x_kept x_saved x_before x_was x_region x_parts x_next x_ways x_more x_whole x_isSaved x_changes x_isWithin res.2 x_input x_length x_fault x_failed x_signs x_signMany x_at x_told x_toldMany) res.1 :=
  mkI (cc := cX13_failedCommand) (maxL := 1) (by decide) rfl (Nat.le_of_ble_eq_true rfl) (fun p e s m args below meth c A H locs ls E hK hA hW hl => k_X13_failedCommand_0 E hK hA hf hW hl)

/-! PaperStormModel.undo()I X13_undo -/
abbrev rm_X13_undo : Room := { frames := 1, cells := 0, slots := 0, locals := 24 }
theorem in_X13_undo_X13 : ∀ w ∈ wsX130, w ∈ wsX13_undo := by decide +kernel
theorem lk_X13_undo_13 : Cond.fieldLink RX13 13 "PaperStormModel" "kept" "[I" ∈ wsX13_undo := by decide +kernel
theorem lk_X13_undo_65 : Cond.fieldLink RX13 65 "PaperStormModel" "changes" "I" ∈ wsX13_undo := by decide +kernel
theorem lk_X13_undo_7 : Cond.fieldLink RX13 7 "PaperStormModel" "g" "[I" ∈ wsX13_undo := by decide +kernel
noncomputable def f_X13_undo (x_g : Nat → Int32) (x_kept : Nat → Int32) (x_changes : Int32) (x_code : Int32) : Option (Int32 × (Nat → Int32) × Int32 × Int32) :=
  jo (fun (s1_13 : Int32) => (f_X13_fails x_code s1_13).bind fun r13 => if r13.1 = 0 then (f_X13_copies x_kept x_g 480 60 (60 * (x_changes - 1)) 0).bind fun r47 => some ((x_changes - 1), r47, (x_changes - 1), r13.2) else some (0, x_g, x_changes, r13.2)) (fun j13 => if x_changes = 0 then j13 1 else j13 0)
abbrev G_X13_undo (p : Program) (l : Launch) (e : Env) (s : State) (m : MethodId) (args : Array Value) (below : List Frame) (meth : Method) (c : Code) (g : GE) (A : Nat → Prop) (h0 h1 h2 h3 h4 h5 h6 h7 h8 h9 h10 h11 h12 h13 : Nat) (x_kept : Nat → Int32) (x_saved : Nat → Int32) (x_before : Nat → Int32) (x_was : Nat → Int32) (x_region : Nat → Int32) (x_parts : Nat → Int64) (x_next : Nat → Int64) (x_ways : Nat → Int32) (x_more : Nat → Int32) (x_whole : Int64) (x_isSaved : Int32) (x_isWithin : Int32) (x_input : Nat → Int32) (x_length : Int32) (x_fault : Int32) (x_failed : Int32) (x_signs : Nat → Int32) (x_signMany : Int32) (x_at : Int32) (x_told : Nat → Int32) (x_toldMany : Int32) (res : Int32 × (Nat → Int32) × Int32 × Int32) (H : Heap) (locs : List Loc) (pc : Nat) (ls : Array Slot) (st : List Value) : Prop := W p l e (headSpec wsX13_undo rm_X13_undo).room s m args below meth c H locs 0 0 (MQ below (PoI g A (w_X13 g h0 h1 h2 h3 h4 h5 h6 h7 h8 h9 h10 h11 h12 h13 res.2.1 x_kept x_saved x_before x_was x_region x_parts x_next x_ways x_more x_whole x_isSaved res.2.2.1 x_isWithin res.2.2.2 x_input x_length x_fault x_failed x_signs x_signMany x_at x_told x_toldMany) res.1) args s 0 0 A) (F0 m pc ls st)
set_option maxHeartbeats 4000000 in
set_option maxRecDepth 100000 in
theorem k_X13_undo_0 {p : Program} {l : Launch} {e : Env} {s : State} {m : MethodId} {args : Array Value} {below : List Frame} {meth : Method} {c : Code} {g : GE} {A : Nat → Prop} {h0 h1 h2 h3 h4 h5 h6 h7 h8 h9 h10 h11 h12 h13 : Nat} {x_g : Nat → Int32} {x_kept : Nat → Int32} {x_saved : Nat → Int32} {x_before : Nat → Int32} {x_was : Nat → Int32} {x_region : Nat → Int32} {x_parts : Nat → Int64} {x_next : Nat → Int64} {x_ways : Nat → Int32} {x_more : Nat → Int32} {x_whole : Int64} {x_isSaved : Int32} {x_changes : Int32} {x_isWithin : Int32} {x_code : Int32} {x_input : Nat → Int32} {x_length : Int32} {x_fault : Int32} {x_failed : Int32} {x_signs : Nat → Int32} {x_signMany : Int32} {x_at : Int32} {x_told : Nat → Int32} {x_toldMany : Int32} {res : Int32 × (Nat → Int32) × Int32 × Int32} {H : Heap} {locs : List Loc} {ls : Array Slot} 
    (E : En cX13_undo RX13 wsX13_undo 1 (some .int) p s m args meth c) (hK : KK g s) (hA : ∀ q, s.heap.size ≤ q → A q) (h : f_X13_undo x_g x_kept x_changes x_code = some res) (hW : Wo g A s H locs (w_X13 g h0 h1 h2 h3 h4 h5 h6 h7 h8 h9 h10 h11 h12 h13 x_g x_kept x_saved x_before x_was x_region x_parts x_next x_ways x_more x_whole x_isSaved x_changes x_isWithin x_code x_input x_length x_fault x_failed x_signs x_signMany x_at x_told x_toldMany)) (hl : lv_has ls 1 [(0, .ref h0)]) : G_X13_undo p l e s m args below meth c g A h0 h1 h2 h3 h4 h5 h6 h7 h8 h9 h10 h11 h12 h13 x_kept x_saved x_before x_was x_region x_parts x_next x_ways x_more x_whole x_isSaved x_isWithin x_input x_length x_fault x_failed x_signs x_signMany x_at x_told x_toldMany res H locs 0 ls [] := by
  have hts := E.2.2.2.1
  unfold f_X13_undo at h
  obtain ⟨j13, hj13, h⟩ := jox1 h
  have J13 : ∀ (s1_13 : Int32) (H : Heap) (locs : List Loc) (ls : Array Slot), j13 s1_13 = some res → Wo g A s H locs (w_X13 g h0 h1 h2 h3 h4 h5 h6 h7 h8 h9 h10 h11 h12 h13 x_g x_kept x_saved x_before x_was x_region x_parts x_next x_ways x_more x_whole x_isSaved x_changes x_isWithin x_code x_input x_length x_fault x_failed x_signs x_signMany x_at x_told x_toldMany) → lv_has ls 1 [(0, .ref h0)] → G_X13_undo p l e s m args below meth c g A h0 h1 h2 h3 h4 h5 h6 h7 h8 h9 h10 h11 h12 h13 x_kept x_saved x_before x_was x_region x_parts x_next x_ways x_more x_whole x_isSaved x_isWithin x_input x_length x_fault x_failed x_signs x_signMany x_at x_told x_toldMany res H locs 13 ls [.int s1_13, .ref h0] := by
    intro s1_13 H locs ls h hW hl
    rw [hj13] at h
    obtain ⟨r13, hc, h⟩ := bx h
    refine goI (world' := (w_X13 g h0 h1 h2 h3 h4 h5 h6 h7 h8 h9 h10 h11 h12 h13 x_g x_kept x_saved x_before x_was x_region x_parts x_next x_ways x_more x_whole x_isSaved x_changes x_isWithin r13.2 x_input x_length x_fault x_failed x_signs x_signMany x_at x_told x_toldMany)) hW hA (is := [0, 1, 2, 3, 4, 5, 6, 7, 8, 9, 10, 11, 12, 13]) rfl (goV (rest := []) E hK hW [0, 1, 2, 3, 4, 5, 6, 7, 8, 9, 10, 11, 12, 13] rfl rfl (c_X13_fails l g h0 h1 h2 h3 h4 h5 h6 h7 h8 h9 h10 h11 h12 h13 x_g x_kept x_saved x_before x_was x_region x_parts x_next x_ways x_more x_whole x_isSaved x_changes x_isWithin x_code x_input x_length x_fault x_failed x_signs x_signMany x_at x_told x_toldMany s1_13 (hf := hc) H.size) (cwV 1 hts gX13_undo_X13_fails rfl rfl rfl (by decide +kernel) ⟨Nat.le_of_ble_eq_true rfl, Nat.le_of_ble_eq_true rfl⟩) 0 rfl rfl rfl hl.1 rfl rfl (Nat.le_of_ble_eq_true rfl) dX13_undo_13 ⟨Nat.zero_le _, Nat.zero_le _⟩) rfl rfl (fun H locs hW => ?_)
    refine lv_if_eq (tgt := 21) E.1 E.2.1 dX13_undo_16 (by decide) (fun c16 => ?_) (fun c16 => ?_)
    · have h := it c16 h
      refine lv_aload_n E.1 E.2.1 dX13_undo_21 rfl (lv_at hl 0 rfl) ?_
      refine lv_dup E.1 E.2.1 dX13_undo_22 rfl ?_
      refine wGet (v := .int x_changes) E hK in_X13_undo_X13 hW 12 lk_X13_undo_65 0 rfl rfl (by decide) rfl rfl dX13_undo_23 ?_
      refine lv_iconst (v := 1) E.1 E.2.1 dX13_undo_26 (by decide) ?_
      refine lv_isub E.1 E.2.1 dX13_undo_27 ?_
      refine wPut (world' := (w_X13 g h0 h1 h2 h3 h4 h5 h6 h7 h8 h9 h10 h11 h12 h13 x_g x_kept x_saved x_before x_was x_region x_parts x_next x_ways x_more x_whole x_isSaved (x_changes - 1) x_isWithin r13.2 x_input x_length x_fault x_failed x_signs x_signMany x_at x_told x_toldMany)) E hK in_X13_undo_X13 tyX13 tyX13_ok nmX13 hW 12 lk_X13_undo_65 0 rfl rfl (by decide) rfl rfl rfl rfl rfl (Nat.le_of_ble_eq_true rfl) dX13_undo_28 rfl (fun H locs hW => ?_)
      refine lv_aload_n E.1 E.2.1 dX13_undo_31 rfl (lv_at hl 0 rfl) ?_
      refine wGet (v := .ref h2) E hK in_X13_undo_X13 hW 1 lk_X13_undo_13 0 rfl rfl (by decide) rfl rfl dX13_undo_32 ?_
      refine lv_bipush (v := 60) E.1 E.2.1 dX13_undo_35 (by decide) ?_
      refine lv_aload_n E.1 E.2.1 dX13_undo_37 rfl (lv_at hl 0 rfl) ?_
      refine wGet (v := .int (x_changes - 1)) E hK in_X13_undo_X13 hW 12 lk_X13_undo_65 0 rfl rfl (by decide) rfl rfl dX13_undo_38 ?_
      refine lv_imul E.1 E.2.1 dX13_undo_41 ?_
      refine lv_aload_n E.1 E.2.1 dX13_undo_42 rfl (lv_at hl 0 rfl) ?_
      refine wGet (v := .ref h1) E hK in_X13_undo_X13 hW 0 lk_X13_undo_7 0 rfl rfl (by decide) rfl rfl dX13_undo_43 ?_
      refine lv_iconst (v := 0) E.1 E.2.1 dX13_undo_46 (by decide) ?_
      obtain ⟨r47, hc, h⟩ := bx h
      refine goU (world' := (w_X13 g h0 h1 h2 h3 h4 h5 h6 h7 h8 h9 h10 h11 h12 h13 r47 x_kept x_saved x_before x_was x_region x_parts x_next x_ways x_more x_whole x_isSaved (x_changes - 1) x_isWithin r13.2 x_input x_length x_fault x_failed x_signs x_signMany x_at x_told x_toldMany)) hW hA (is := [2, 1]) rfl (goS (rest := []) E hK hW [2, 1] rfl rfl (c_X13_copies l g h2 h1 480 60 x_kept x_g (60 * (x_changes - 1)) 0 (hf := hc) H.size) (va_cwS 4 hts gX13_undo_X13_copies rfl rfl rfl (by decide +kernel) ⟨Nat.le_of_ble_eq_true rfl, Nat.le_of_ble_eq_true rfl⟩) hl.1 rfl rfl (Nat.le_of_ble_eq_true rfl) dX13_undo_47 ⟨Nat.zero_le _, Nat.zero_le _⟩) rfl rfl (fun H locs hW => ?_)
      refine lv_aload_n E.1 E.2.1 dX13_undo_50 rfl (lv_at hl 0 rfl) ?_
      refine wGet (v := .int (x_changes - 1)) E hK in_X13_undo_X13 hW 12 lk_X13_undo_65 0 rfl rfl (by decide) rfl rfl dX13_undo_51 ?_
      obtain rfl := Option.some.inj h
      exact endI E rfl hW dX13_undo_54
    · have h := ie c16 h
      refine lv_iconst (v := 0) E.1 E.2.1 dX13_undo_19 (by decide) ?_
      obtain rfl := Option.some.inj h
      exact endI E rfl hW dX13_undo_20
  refine lv_aload_n E.1 E.2.1 dX13_undo_0 rfl (lv_at hl 0 rfl) ?_
  refine lv_aload_n E.1 E.2.1 dX13_undo_1 rfl (lv_at hl 0 rfl) ?_
  refine wGet (v := .int x_changes) E hK in_X13_undo_X13 hW 12 lk_X13_undo_65 0 rfl rfl (by decide) rfl rfl dX13_undo_2 ?_
  refine lv_if_ne (tgt := 12) E.1 E.2.1 dX13_undo_5 (by decide) (fun c5 => ?_) (fun c5 => ?_)
  · have h := ie c5 h
    refine lv_iconst (v := 0) E.1 E.2.1 dX13_undo_12 (by decide) ?_
    exact J13 0 H locs ls h hW (lv_sub hl [0] rfl)
  · have h := it c5 h
    refine lv_iconst (v := 1) E.1 E.2.1 dX13_undo_8 (by decide) ?_
    refine lv_goto (tgt := 13) E.1 E.2.1 dX13_undo_9 (by decide) ?_
    exact J13 1 H locs ls h hW (lv_sub hl [0] rfl)
theorem c_X13_undo (l : Launch) (g : GE) (h0 h1 h2 h3 h4 h5 h6 h7 h8 h9 h10 h11 h12 h13 : Nat) (x_g : Nat → Int32) (x_kept : Nat → Int32) (x_saved : Nat → Int32) (x_before : Nat → Int32) (x_was : Nat → Int32) (x_region : Nat → Int32) (x_parts : Nat → Int64) (x_next : Nat → Int64) (x_ways : Nat → Int32) (x_more : Nat → Int32) (x_whole : Int64) (x_isSaved : Int32) (x_changes : Int32) (x_isWithin : Int32) (x_code : Int32) (x_input : Nat → Int32) (x_length : Int32) (x_fault : Int32) (x_failed : Int32) (x_signs : Nat → Int32) (x_signMany : Int32) (x_at : Int32) (x_told : Nat → Int32) (x_toldMany : Int32) {res : Int32 × (Nat → Int32) × Int32 × Int32} (hf : f_X13_undo x_g x_kept x_changes x_code = some res) : CI l yX13_undo wsX13_undo rm_X13_undo g [.ref h0] (w_X13 g h0 h1 h2 h3 h4 h5 h6 h7 h8 h9 h10 h11 h12 h13 x_g x_kept x_saved x_before x_was x_region x_parts x_next x_ways x_more x_whole x_isSaved x_changes x_isWithin x_code x_input x_length x_fault x_failed x_signs x_signMany x_at x_told x_toldMany) (w_X13 g h0 h1 h2 h3 h4 h5 h6 h7 h8 h9 h10 h11 h12 h13 res.2.1 x_kept x_saved x_before x_was x_region x_parts x_next x_ways x_more x_whole x_isSaved res.2.2.1 x_isWithin res.2.2.2 x_input x_length x_fault x_failed x_signs x_signMany x_at x_told x_toldMany) res.1 :=
  mkI (cc := cX13_undo) (maxL := 1) (by decide) rfl (Nat.le_of_ble_eq_true rfl) (fun p e s m args below meth c A H locs ls E hK hA hW hl => k_X13_undo_0 E hK hA hf hW hl)

/-! PaperStormModel.save()I X13_save -/
abbrev rm_X13_save : Room := { frames := 1, cells := 0, slots := 0, locals := 24 }
theorem in_X13_save_X13 : ∀ w ∈ wsX130, w ∈ wsX13_save := by decide +kernel
theorem lk_X13_save_16 : Cond.fieldLink RX13 16 "PaperStormModel" "saved" "[I" ∈ wsX13_save := by decide +kernel
theorem lk_X13_save_286 : Cond.fieldLink RX13 286 "PaperStormModel" "isSaved" "Z" ∈ wsX13_save := by decide +kernel
theorem lk_X13_save_58 : Cond.fieldLink RX13 58 "PaperStormModel" "code" "I" ∈ wsX13_save := by decide +kernel
theorem lk_X13_save_7 : Cond.fieldLink RX13 7 "PaperStormModel" "g" "[I" ∈ wsX13_save := by decide +kernel
noncomputable def f_X13_save (x_g : Nat → Int32) (x_saved : Nat → Int32) (x_isSaved : Int32) (x_code : Int32) : Option (Int32 × (Nat → Int32) × Int32 × Int32) :=
  (f_X13_copies x_g x_saved 60 60 0 0).bind fun r20 => some ((x_g (0 : Int32).toNatClampNeg), r20, 1, 0)
abbrev G_X13_save (p : Program) (l : Launch) (e : Env) (s : State) (m : MethodId) (args : Array Value) (below : List Frame) (meth : Method) (c : Code) (g : GE) (A : Nat → Prop) (h0 h1 h2 h3 h4 h5 h6 h7 h8 h9 h10 h11 h12 h13 : Nat) (x_g : Nat → Int32) (x_kept : Nat → Int32) (x_before : Nat → Int32) (x_was : Nat → Int32) (x_region : Nat → Int32) (x_parts : Nat → Int64) (x_next : Nat → Int64) (x_ways : Nat → Int32) (x_more : Nat → Int32) (x_whole : Int64) (x_changes : Int32) (x_isWithin : Int32) (x_input : Nat → Int32) (x_length : Int32) (x_fault : Int32) (x_failed : Int32) (x_signs : Nat → Int32) (x_signMany : Int32) (x_at : Int32) (x_told : Nat → Int32) (x_toldMany : Int32) (res : Int32 × (Nat → Int32) × Int32 × Int32) (H : Heap) (locs : List Loc) (pc : Nat) (ls : Array Slot) (st : List Value) : Prop := W p l e (headSpec wsX13_save rm_X13_save).room s m args below meth c H locs 0 0 (MQ below (PoI g A (w_X13 g h0 h1 h2 h3 h4 h5 h6 h7 h8 h9 h10 h11 h12 h13 x_g x_kept res.2.1 x_before x_was x_region x_parts x_next x_ways x_more x_whole res.2.2.1 x_changes x_isWithin res.2.2.2 x_input x_length x_fault x_failed x_signs x_signMany x_at x_told x_toldMany) res.1) args s 0 0 A) (F0 m pc ls st)
set_option maxHeartbeats 4000000 in
set_option maxRecDepth 100000 in
theorem k_X13_save_0 {p : Program} {l : Launch} {e : Env} {s : State} {m : MethodId} {args : Array Value} {below : List Frame} {meth : Method} {c : Code} {g : GE} {A : Nat → Prop} {h0 h1 h2 h3 h4 h5 h6 h7 h8 h9 h10 h11 h12 h13 : Nat} {x_g : Nat → Int32} {x_kept : Nat → Int32} {x_saved : Nat → Int32} {x_before : Nat → Int32} {x_was : Nat → Int32} {x_region : Nat → Int32} {x_parts : Nat → Int64} {x_next : Nat → Int64} {x_ways : Nat → Int32} {x_more : Nat → Int32} {x_whole : Int64} {x_isSaved : Int32} {x_changes : Int32} {x_isWithin : Int32} {x_code : Int32} {x_input : Nat → Int32} {x_length : Int32} {x_fault : Int32} {x_failed : Int32} {x_signs : Nat → Int32} {x_signMany : Int32} {x_at : Int32} {x_told : Nat → Int32} {x_toldMany : Int32} {res : Int32 × (Nat → Int32) × Int32 × Int32} {H : Heap} {locs : List Loc} {ls : Array Slot} 
    (E : En cX13_save RX13 wsX13_save 1 (some .int) p s m args meth c) (hK : KK g s) (hA : ∀ q, s.heap.size ≤ q → A q) (h : f_X13_save x_g x_saved x_isSaved x_code = some res) (hW : Wo g A s H locs (w_X13 g h0 h1 h2 h3 h4 h5 h6 h7 h8 h9 h10 h11 h12 h13 x_g x_kept x_saved x_before x_was x_region x_parts x_next x_ways x_more x_whole x_isSaved x_changes x_isWithin x_code x_input x_length x_fault x_failed x_signs x_signMany x_at x_told x_toldMany)) (hl : lv_has ls 1 [(0, .ref h0)]) : G_X13_save p l e s m args below meth c g A h0 h1 h2 h3 h4 h5 h6 h7 h8 h9 h10 h11 h12 h13 x_g x_kept x_before x_was x_region x_parts x_next x_ways x_more x_whole x_changes x_isWithin x_input x_length x_fault x_failed x_signs x_signMany x_at x_told x_toldMany res H locs 0 ls [] := by
  have hts := E.2.2.2.1
  unfold f_X13_save at h
  refine lv_aload_n E.1 E.2.1 dX13_save_0 rfl (lv_at hl 0 rfl) ?_
  refine lv_iconst (v := 0) E.1 E.2.1 dX13_save_1 (by decide) ?_
  refine wPut (world' := (w_X13 g h0 h1 h2 h3 h4 h5 h6 h7 h8 h9 h10 h11 h12 h13 x_g x_kept x_saved x_before x_was x_region x_parts x_next x_ways x_more x_whole x_isSaved x_changes x_isWithin 0 x_input x_length x_fault x_failed x_signs x_signMany x_at x_told x_toldMany)) E hK in_X13_save_X13 tyX13 tyX13_ok nmX13 hW 14 lk_X13_save_58 0 rfl rfl (by decide) rfl rfl rfl rfl rfl (Nat.le_of_ble_eq_true rfl) dX13_save_2 rfl (fun H locs hW => ?_)
  refine lv_aload_n E.1 E.2.1 dX13_save_5 rfl (lv_at hl 0 rfl) ?_
  refine lv_iconst (v := 1) E.1 E.2.1 dX13_save_6 (by decide) ?_
  refine wPut (world' := (w_X13 g h0 h1 h2 h3 h4 h5 h6 h7 h8 h9 h10 h11 h12 h13 x_g x_kept x_saved x_before x_was x_region x_parts x_next x_ways x_more x_whole 1 x_changes x_isWithin 0 x_input x_length x_fault x_failed x_signs x_signMany x_at x_told x_toldMany)) E hK in_X13_save_X13 tyX13 tyX13_ok nmX13 hW 11 lk_X13_save_286 0 rfl rfl (by decide) rfl rfl rfl (by decide) (by decide) (Nat.le_of_ble_eq_true rfl) dX13_save_7 rfl (fun H locs hW => ?_)
  refine lv_aload_n E.1 E.2.1 dX13_save_10 rfl (lv_at hl 0 rfl) ?_
  refine wGet (v := .ref h1) E hK in_X13_save_X13 hW 0 lk_X13_save_7 0 rfl rfl (by decide) rfl rfl dX13_save_11 ?_
  refine lv_iconst (v := 0) E.1 E.2.1 dX13_save_14 (by decide) ?_
  refine lv_aload_n E.1 E.2.1 dX13_save_15 rfl (lv_at hl 0 rfl) ?_
  refine wGet (v := .ref h3) E hK in_X13_save_X13 hW 2 lk_X13_save_16 0 rfl rfl (by decide) rfl rfl dX13_save_16 ?_
  refine lv_iconst (v := 0) E.1 E.2.1 dX13_save_19 (by decide) ?_
  obtain ⟨r20, hc, h⟩ := bx h
  refine goU (world' := (w_X13 g h0 h1 h2 h3 h4 h5 h6 h7 h8 h9 h10 h11 h12 h13 x_g x_kept r20 x_before x_was x_region x_parts x_next x_ways x_more x_whole 1 x_changes x_isWithin 0 x_input x_length x_fault x_failed x_signs x_signMany x_at x_told x_toldMany)) hW hA (is := [1, 3]) rfl (goS (rest := []) E hK hW [1, 3] rfl rfl (c_X13_copies l g h1 h3 60 60 x_g x_saved 0 0 (hf := hc) H.size) (va_cwS 4 hts gX13_save_X13_copies rfl rfl rfl (by decide +kernel) ⟨Nat.le_of_ble_eq_true rfl, Nat.le_of_ble_eq_true rfl⟩) hl.1 rfl rfl (Nat.le_of_ble_eq_true rfl) dX13_save_20 ⟨Nat.zero_le _, Nat.zero_le _⟩) rfl rfl (fun H locs hW => ?_)
  refine lv_aload_n E.1 E.2.1 dX13_save_23 rfl (lv_at hl 0 rfl) ?_
  refine wGet (v := .ref h1) E hK in_X13_save_X13 hW 0 lk_X13_save_7 0 rfl rfl (by decide) rfl rfl dX13_save_24 ?_
  refine lv_iconst (v := 0) E.1 E.2.1 dX13_save_27 (by decide) ?_
  refine wIald E hK hW 1 rfl (by decide) dX13_save_28 ?_
  obtain rfl := Option.some.inj h
  exact endI E rfl hW dX13_save_29
theorem c_X13_save (l : Launch) (g : GE) (h0 h1 h2 h3 h4 h5 h6 h7 h8 h9 h10 h11 h12 h13 : Nat) (x_g : Nat → Int32) (x_kept : Nat → Int32) (x_saved : Nat → Int32) (x_before : Nat → Int32) (x_was : Nat → Int32) (x_region : Nat → Int32) (x_parts : Nat → Int64) (x_next : Nat → Int64) (x_ways : Nat → Int32) (x_more : Nat → Int32) (x_whole : Int64) (x_isSaved : Int32) (x_changes : Int32) (x_isWithin : Int32) (x_code : Int32) (x_input : Nat → Int32) (x_length : Int32) (x_fault : Int32) (x_failed : Int32) (x_signs : Nat → Int32) (x_signMany : Int32) (x_at : Int32) (x_told : Nat → Int32) (x_toldMany : Int32) {res : Int32 × (Nat → Int32) × Int32 × Int32} (hf : f_X13_save x_g x_saved x_isSaved x_code = some res) : CI l yX13_save wsX13_save rm_X13_save g [.ref h0] (w_X13 g h0 h1 h2 h3 h4 h5 h6 h7 h8 h9 h10 h11 h12 h13 x_g x_kept x_saved x_before x_was x_region x_parts x_next x_ways x_more x_whole x_isSaved x_changes x_isWithin x_code x_input x_length x_fault x_failed x_signs x_signMany x_at x_told x_toldMany) (w_X13 g h0 h1 h2 h3 h4 h5 h6 h7 h8 h9 h10 h11 h12 h13 x_g x_kept res.2.1 x_before x_was x_region x_parts x_next x_ways x_more x_whole res.2.2.1 x_changes x_isWithin res.2.2.2 x_input x_length x_fault x_failed x_signs x_signMany x_at x_told x_toldMany) res.1 :=
  mkI (cc := cX13_save) (maxL := 1) (by decide) rfl (Nat.le_of_ble_eq_true rfl) (fun p e s m args below meth c A H locs ls E hK hA hW hl => k_X13_save_0 E hK hA hf hW hl)

/-! PaperStormModel.restore()I X13_restore -/
abbrev rm_X13_restore : Room := { frames := 1, cells := 0, slots := 0, locals := 24 }
theorem in_X13_restore_X13 : ∀ w ∈ wsX130, w ∈ wsX13_restore := by decide +kernel
theorem lk_X13_restore_16 : Cond.fieldLink RX13 16 "PaperStormModel" "saved" "[I" ∈ wsX13_restore := by decide +kernel
theorem lk_X13_restore_286 : Cond.fieldLink RX13 286 "PaperStormModel" "isSaved" "Z" ∈ wsX13_restore := by decide +kernel
theorem lk_X13_restore_65 : Cond.fieldLink RX13 65 "PaperStormModel" "changes" "I" ∈ wsX13_restore := by decide +kernel
theorem lk_X13_restore_7 : Cond.fieldLink RX13 7 "PaperStormModel" "g" "[I" ∈ wsX13_restore := by decide +kernel
noncomputable def f_X13_restore (x_g : Nat → Int32) (x_saved : Nat → Int32) (x_isSaved : Int32) (x_changes : Int32) (x_code : Int32) : Option (Int32 × (Nat → Int32) × Int32 × Int32) :=
  jo (fun (s1_13 : Int32) => (f_X13_fails x_code s1_13).bind fun r13 => if r13.1 = 0 then (f_X13_copies x_saved x_g 60 60 0 0).bind fun r31 => some ((r31 (0 : Int32).toNatClampNeg), r31, 0, r13.2) else some (0, x_g, x_changes, r13.2)) (fun j13 => if x_isSaved = 0 then j13 1 else j13 0)
abbrev G_X13_restore (p : Program) (l : Launch) (e : Env) (s : State) (m : MethodId) (args : Array Value) (below : List Frame) (meth : Method) (c : Code) (g : GE) (A : Nat → Prop) (h0 h1 h2 h3 h4 h5 h6 h7 h8 h9 h10 h11 h12 h13 : Nat) (x_kept : Nat → Int32) (x_saved : Nat → Int32) (x_before : Nat → Int32) (x_was : Nat → Int32) (x_region : Nat → Int32) (x_parts : Nat → Int64) (x_next : Nat → Int64) (x_ways : Nat → Int32) (x_more : Nat → Int32) (x_whole : Int64) (x_isSaved : Int32) (x_isWithin : Int32) (x_input : Nat → Int32) (x_length : Int32) (x_fault : Int32) (x_failed : Int32) (x_signs : Nat → Int32) (x_signMany : Int32) (x_at : Int32) (x_told : Nat → Int32) (x_toldMany : Int32) (res : Int32 × (Nat → Int32) × Int32 × Int32) (H : Heap) (locs : List Loc) (pc : Nat) (ls : Array Slot) (st : List Value) : Prop := W p l e (headSpec wsX13_restore rm_X13_restore).room s m args below meth c H locs 0 0 (MQ below (PoI g A (w_X13 g h0 h1 h2 h3 h4 h5 h6 h7 h8 h9 h10 h11 h12 h13 res.2.1 x_kept x_saved x_before x_was x_region x_parts x_next x_ways x_more x_whole x_isSaved res.2.2.1 x_isWithin res.2.2.2 x_input x_length x_fault x_failed x_signs x_signMany x_at x_told x_toldMany) res.1) args s 0 0 A) (F0 m pc ls st)
set_option maxHeartbeats 4000000 in
set_option maxRecDepth 100000 in
theorem k_X13_restore_0 {p : Program} {l : Launch} {e : Env} {s : State} {m : MethodId} {args : Array Value} {below : List Frame} {meth : Method} {c : Code} {g : GE} {A : Nat → Prop} {h0 h1 h2 h3 h4 h5 h6 h7 h8 h9 h10 h11 h12 h13 : Nat} {x_g : Nat → Int32} {x_kept : Nat → Int32} {x_saved : Nat → Int32} {x_before : Nat → Int32} {x_was : Nat → Int32} {x_region : Nat → Int32} {x_parts : Nat → Int64} {x_next : Nat → Int64} {x_ways : Nat → Int32} {x_more : Nat → Int32} {x_whole : Int64} {x_isSaved : Int32} {x_changes : Int32} {x_isWithin : Int32} {x_code : Int32} {x_input : Nat → Int32} {x_length : Int32} {x_fault : Int32} {x_failed : Int32} {x_signs : Nat → Int32} {x_signMany : Int32} {x_at : Int32} {x_told : Nat → Int32} {x_toldMany : Int32} {res : Int32 × (Nat → Int32) × Int32 × Int32} {H : Heap} {locs : List Loc} {ls : Array Slot} 
    (E : En cX13_restore RX13 wsX13_restore 1 (some .int) p s m args meth c) (hK : KK g s) (hA : ∀ q, s.heap.size ≤ q → A q) (h : f_X13_restore x_g x_saved x_isSaved x_changes x_code = some res) (hW : Wo g A s H locs (w_X13 g h0 h1 h2 h3 h4 h5 h6 h7 h8 h9 h10 h11 h12 h13 x_g x_kept x_saved x_before x_was x_region x_parts x_next x_ways x_more x_whole x_isSaved x_changes x_isWithin x_code x_input x_length x_fault x_failed x_signs x_signMany x_at x_told x_toldMany)) (hl : lv_has ls 1 [(0, .ref h0)]) : G_X13_restore p l e s m args below meth c g A h0 h1 h2 h3 h4 h5 h6 h7 h8 h9 h10 h11 h12 h13 x_kept x_saved x_before x_was x_region x_parts x_next x_ways x_more x_whole x_isSaved x_isWithin x_input x_length x_fault x_failed x_signs x_signMany x_at x_told x_toldMany res H locs 0 ls [] := by
  have hts := E.2.2.2.1
  unfold f_X13_restore at h
  obtain ⟨j13, hj13, h⟩ := jox1 h
  have J13 : ∀ (s1_13 : Int32) (H : Heap) (locs : List Loc) (ls : Array Slot), j13 s1_13 = some res → Wo g A s H locs (w_X13 g h0 h1 h2 h3 h4 h5 h6 h7 h8 h9 h10 h11 h12 h13 x_g x_kept x_saved x_before x_was x_region x_parts x_next x_ways x_more x_whole x_isSaved x_changes x_isWithin x_code x_input x_length x_fault x_failed x_signs x_signMany x_at x_told x_toldMany) → lv_has ls 1 [(0, .ref h0)] → G_X13_restore p l e s m args below meth c g A h0 h1 h2 h3 h4 h5 h6 h7 h8 h9 h10 h11 h12 h13 x_kept x_saved x_before x_was x_region x_parts x_next x_ways x_more x_whole x_isSaved x_isWithin x_input x_length x_fault x_failed x_signs x_signMany x_at x_told x_toldMany res H locs 13 ls [.int s1_13, .ref h0] := by
    intro s1_13 H locs ls h hW hl
    rw [hj13] at h
    obtain ⟨r13, hc, h⟩ := bx h
    refine goI (world' := (w_X13 g h0 h1 h2 h3 h4 h5 h6 h7 h8 h9 h10 h11 h12 h13 x_g x_kept x_saved x_before x_was x_region x_parts x_next x_ways x_more x_whole x_isSaved x_changes x_isWithin r13.2 x_input x_length x_fault x_failed x_signs x_signMany x_at x_told x_toldMany)) hW hA (is := [0, 1, 2, 3, 4, 5, 6, 7, 8, 9, 10, 11, 12, 13]) rfl (goV (rest := []) E hK hW [0, 1, 2, 3, 4, 5, 6, 7, 8, 9, 10, 11, 12, 13] rfl rfl (c_X13_fails l g h0 h1 h2 h3 h4 h5 h6 h7 h8 h9 h10 h11 h12 h13 x_g x_kept x_saved x_before x_was x_region x_parts x_next x_ways x_more x_whole x_isSaved x_changes x_isWithin x_code x_input x_length x_fault x_failed x_signs x_signMany x_at x_told x_toldMany s1_13 (hf := hc) H.size) (cwV 1 hts gX13_restore_X13_fails rfl rfl rfl (by decide +kernel) ⟨Nat.le_of_ble_eq_true rfl, Nat.le_of_ble_eq_true rfl⟩) 0 rfl rfl rfl hl.1 rfl rfl (Nat.le_of_ble_eq_true rfl) dX13_restore_13 ⟨Nat.zero_le _, Nat.zero_le _⟩) rfl rfl (fun H locs hW => ?_)
    refine lv_if_eq (tgt := 21) E.1 E.2.1 dX13_restore_16 (by decide) (fun c16 => ?_) (fun c16 => ?_)
    · have h := it c16 h
      refine lv_aload_n E.1 E.2.1 dX13_restore_21 rfl (lv_at hl 0 rfl) ?_
      refine wGet (v := .ref h3) E hK in_X13_restore_X13 hW 2 lk_X13_restore_16 0 rfl rfl (by decide) rfl rfl dX13_restore_22 ?_
      refine lv_iconst (v := 0) E.1 E.2.1 dX13_restore_25 (by decide) ?_
      refine lv_aload_n E.1 E.2.1 dX13_restore_26 rfl (lv_at hl 0 rfl) ?_
      refine wGet (v := .ref h1) E hK in_X13_restore_X13 hW 0 lk_X13_restore_7 0 rfl rfl (by decide) rfl rfl dX13_restore_27 ?_
      refine lv_iconst (v := 0) E.1 E.2.1 dX13_restore_30 (by decide) ?_
      obtain ⟨r31, hc, h⟩ := bx h
      refine goU (world' := (w_X13 g h0 h1 h2 h3 h4 h5 h6 h7 h8 h9 h10 h11 h12 h13 r31 x_kept x_saved x_before x_was x_region x_parts x_next x_ways x_more x_whole x_isSaved x_changes x_isWithin r13.2 x_input x_length x_fault x_failed x_signs x_signMany x_at x_told x_toldMany)) hW hA (is := [3, 1]) rfl (goS (rest := []) E hK hW [3, 1] rfl rfl (c_X13_copies l g h3 h1 60 60 x_saved x_g 0 0 (hf := hc) H.size) (va_cwS 4 hts gX13_restore_X13_copies rfl rfl rfl (by decide +kernel) ⟨Nat.le_of_ble_eq_true rfl, Nat.le_of_ble_eq_true rfl⟩) hl.1 rfl rfl (Nat.le_of_ble_eq_true rfl) dX13_restore_31 ⟨Nat.zero_le _, Nat.zero_le _⟩) rfl rfl (fun H locs hW => ?_)
      refine lv_aload_n E.1 E.2.1 dX13_restore_34 rfl (lv_at hl 0 rfl) ?_
      refine lv_iconst (v := 0) E.1 E.2.1 dX13_restore_35 (by decide) ?_
      refine wPut (world' := (w_X13 g h0 h1 h2 h3 h4 h5 h6 h7 h8 h9 h10 h11 h12 h13 r31 x_kept x_saved x_before x_was x_region x_parts x_next x_ways x_more x_whole x_isSaved 0 x_isWithin r13.2 x_input x_length x_fault x_failed x_signs x_signMany x_at x_told x_toldMany)) E hK in_X13_restore_X13 tyX13 tyX13_ok nmX13 hW 12 lk_X13_restore_65 0 rfl rfl (by decide) rfl rfl rfl rfl rfl (Nat.le_of_ble_eq_true rfl) dX13_restore_36 rfl (fun H locs hW => ?_)
      refine lv_aload_n E.1 E.2.1 dX13_restore_39 rfl (lv_at hl 0 rfl) ?_
      refine wGet (v := .ref h1) E hK in_X13_restore_X13 hW 0 lk_X13_restore_7 0 rfl rfl (by decide) rfl rfl dX13_restore_40 ?_
      refine lv_iconst (v := 0) E.1 E.2.1 dX13_restore_43 (by decide) ?_
      refine wIald E hK hW 1 rfl (by decide) dX13_restore_44 ?_
      obtain rfl := Option.some.inj h
      exact endI E rfl hW dX13_restore_45
    · have h := ie c16 h
      refine lv_iconst (v := 0) E.1 E.2.1 dX13_restore_19 (by decide) ?_
      obtain rfl := Option.some.inj h
      exact endI E rfl hW dX13_restore_20
  refine lv_aload_n E.1 E.2.1 dX13_restore_0 rfl (lv_at hl 0 rfl) ?_
  refine lv_aload_n E.1 E.2.1 dX13_restore_1 rfl (lv_at hl 0 rfl) ?_
  refine wGet (v := .int x_isSaved) E hK in_X13_restore_X13 hW 11 lk_X13_restore_286 0 rfl rfl (by decide) rfl rfl dX13_restore_2 ?_
  refine lv_if_eq (tgt := 12) E.1 E.2.1 dX13_restore_5 (by decide) (fun c5 => ?_) (fun c5 => ?_)
  · have h := it c5 h
    refine lv_iconst (v := 1) E.1 E.2.1 dX13_restore_12 (by decide) ?_
    exact J13 1 H locs ls h hW (lv_sub hl [0] rfl)
  · have h := ie c5 h
    refine lv_iconst (v := 0) E.1 E.2.1 dX13_restore_8 (by decide) ?_
    refine lv_goto (tgt := 13) E.1 E.2.1 dX13_restore_9 (by decide) ?_
    exact J13 0 H locs ls h hW (lv_sub hl [0] rfl)
theorem c_X13_restore (l : Launch) (g : GE) (h0 h1 h2 h3 h4 h5 h6 h7 h8 h9 h10 h11 h12 h13 : Nat) (x_g : Nat → Int32) (x_kept : Nat → Int32) (x_saved : Nat → Int32) (x_before : Nat → Int32) (x_was : Nat → Int32) (x_region : Nat → Int32) (x_parts : Nat → Int64) (x_next : Nat → Int64) (x_ways : Nat → Int32) (x_more : Nat → Int32) (x_whole : Int64) (x_isSaved : Int32) (x_changes : Int32) (x_isWithin : Int32) (x_code : Int32) (x_input : Nat → Int32) (x_length : Int32) (x_fault : Int32) (x_failed : Int32) (x_signs : Nat → Int32) (x_signMany : Int32) (x_at : Int32) (x_told : Nat → Int32) (x_toldMany : Int32) {res : Int32 × (Nat → Int32) × Int32 × Int32} (hf : f_X13_restore x_g x_saved x_isSaved x_changes x_code = some res) : CI l yX13_restore wsX13_restore rm_X13_restore g [.ref h0] (w_X13 g h0 h1 h2 h3 h4 h5 h6 h7 h8 h9 h10 h11 h12 h13 x_g x_kept x_saved x_before x_was x_region x_parts x_next x_ways x_more x_whole x_isSaved x_changes x_isWithin x_code x_input x_length x_fault x_failed x_signs x_signMany x_at x_told x_toldMany) (w_X13 g h0 h1 h2 h3 h4 h5 h6 h7 h8 h9 h10 h11 h12 h13 res.2.1 x_kept x_saved x_before x_was x_region x_parts x_next x_ways x_more x_whole x_isSaved res.2.2.1 x_isWithin res.2.2.2 x_input x_length x_fault x_failed x_signs x_signMany x_at x_told x_toldMany) res.1 :=
  mkI (cc := cX13_restore) (maxL := 1) (by decide) rfl (Nat.le_of_ble_eq_true rfl) (fun p e s m args below meth c A H locs ls E hK hA hW hl => k_X13_restore_0 E hK hA hf hW hl)

