/-! PaperStormModel.thrown()I X13_thrown -/
abbrev rm_X13_thrown : Room := { frames := 0, cells := 0, slots := 0, locals := 0 }
theorem in_X13_thrown_X13 : ∀ w ∈ wsX130, w ∈ wsX13_thrown := by decide +kernel
theorem lk_X13_thrown_58 : Cond.fieldLink RX13 58 "PaperStormModel" "code" "I" ∈ wsX13_thrown := by decide +kernel
noncomputable def f_X13_thrown (x_code : Int32) : Option (Int32) :=
  some (x_code)
abbrev G_X13_thrown (p : Program) (l : Launch) (e : Env) (s : State) (m : MethodId) (args : Array Value) (below : List Frame) (meth : Method) (c : Code) (g : GE) (A : Nat → Prop) (h0 h1 h2 h3 h4 h5 h6 h7 h8 h9 h10 h11 h12 h13 : Nat) (x_g : Nat → Int32) (x_kept : Nat → Int32) (x_saved : Nat → Int32) (x_before : Nat → Int32) (x_was : Nat → Int32) (x_region : Nat → Int32) (x_parts : Nat → Int64) (x_next : Nat → Int64) (x_ways : Nat → Int32) (x_more : Nat → Int32) (x_whole : Int64) (x_isSaved : Int32) (x_changes : Int32) (x_isWithin : Int32) (x_code : Int32) (x_input : Nat → Int32) (x_length : Int32) (x_fault : Int32) (x_failed : Int32) (x_signs : Nat → Int32) (x_signMany : Int32) (x_at : Int32) (x_told : Nat → Int32) (x_toldMany : Int32) (res : Int32) (H : Heap) (locs : List Loc) (pc : Nat) (ls : Array Slot) (st : List Value) : Prop := W p l e (headSpec wsX13_thrown rm_X13_thrown).room s m args below meth c H locs 0 0 (MQ below (PoI g A (w_X13 g h0 h1 h2 h3 h4 h5 h6 h7 h8 h9 h10 h11 h12 h13 x_g x_kept x_saved x_before x_was x_region x_parts x_next x_ways x_more x_whole x_isSaved x_changes x_isWithin x_code x_input x_length x_fault x_failed x_signs x_signMany x_at x_told x_toldMany) res) args s 0 0 A) (F0 m pc ls st)
set_option maxHeartbeats 4000000 in
set_option maxRecDepth 100000 in
theorem k_X13_thrown_0 {p : Program} {l : Launch} {e : Env} {s : State} {m : MethodId} {args : Array Value} {below : List Frame} {meth : Method} {c : Code} {g : GE} {A : Nat → Prop} {h0 h1 h2 h3 h4 h5 h6 h7 h8 h9 h10 h11 h12 h13 : Nat} {x_g : Nat → Int32} {x_kept : Nat → Int32} {x_saved : Nat → Int32} {x_before : Nat → Int32} {x_was : Nat → Int32} {x_region : Nat → Int32} {x_parts : Nat → Int64} {x_next : Nat → Int64} {x_ways : Nat → Int32} {x_more : Nat → Int32} {x_whole : Int64} {x_isSaved : Int32} {x_changes : Int32} {x_isWithin : Int32} {x_code : Int32} {x_input : Nat → Int32} {x_length : Int32} {x_fault : Int32} {x_failed : Int32} {x_signs : Nat → Int32} {x_signMany : Int32} {x_at : Int32} {x_told : Nat → Int32} {x_toldMany : Int32} {res : Int32} {H : Heap} {locs : List Loc} {ls : Array Slot} 
    (E : En cX13_thrown RX13 wsX13_thrown 1 (some .int) p s m args meth c) (hK : KK g s) (hA : ∀ q, s.heap.size ≤ q → A q) (h : f_X13_thrown x_code = some res) (hW : Wo g A s H locs (w_X13 g h0 h1 h2 h3 h4 h5 h6 h7 h8 h9 h10 h11 h12 h13 x_g x_kept x_saved x_before x_was x_region x_parts x_next x_ways x_more x_whole x_isSaved x_changes x_isWithin x_code x_input x_length x_fault x_failed x_signs x_signMany x_at x_told x_toldMany)) (hl : lv_has ls 1 [(0, .ref h0)]) : G_X13_thrown p l e s m args below meth c g A h0 h1 h2 h3 h4 h5 h6 h7 h8 h9 h10 h11 h12 h13 x_g x_kept x_saved x_before x_was x_region x_parts x_next x_ways x_more x_whole x_isSaved x_changes x_isWithin x_code x_input x_length x_fault x_failed x_signs x_signMany x_at x_told x_toldMany res H locs 0 ls [] := by
  have hts := E.2.2.2.1
  unfold f_X13_thrown at h
  refine lv_aload_n E.1 E.2.1 dX13_thrown_0 rfl (lv_at hl 0 rfl) ?_
  refine wGet (v := .int x_code) E hK in_X13_thrown_X13 hW 14 lk_X13_thrown_58 0 rfl rfl (by decide) rfl rfl dX13_thrown_1 ?_
  obtain rfl := Option.some.inj h
  exact endI E rfl hW dX13_thrown_4
theorem c_X13_thrown (l : Launch) (g : GE) (h0 h1 h2 h3 h4 h5 h6 h7 h8 h9 h10 h11 h12 h13 : Nat) (x_g : Nat → Int32) (x_kept : Nat → Int32) (x_saved : Nat → Int32) (x_before : Nat → Int32) (x_was : Nat → Int32) (x_region : Nat → Int32) (x_parts : Nat → Int64) (x_next : Nat → Int64) (x_ways : Nat → Int32) (x_more : Nat → Int32) (x_whole : Int64) (x_isSaved : Int32) (x_changes : Int32) (x_isWithin : Int32) (x_code : Int32) (x_input : Nat → Int32) (x_length : Int32) (x_fault : Int32) (x_failed : Int32) (x_signs : Nat → Int32) (x_signMany : Int32) (x_at : Int32) (x_told : Nat → Int32) (x_toldMany : Int32) {res : Int32} (hf : f_X13_thrown x_code = some res) : CI l yX13_thrown wsX13_thrown rm_X13_thrown g [.ref h0] (w_X13 g h0 h1 h2 h3 h4 h5 h6 h7 h8 h9 h10 h11 h12 h13 x_g x_kept x_saved x_before x_was x_region x_parts x_next x_ways x_more x_whole x_isSaved x_changes x_isWithin x_code x_input x_length x_fault x_failed x_signs x_signMany x_at x_told x_toldMany) (w_X13 g h0 h1 h2 h3 h4 h5 h6 h7 h8 h9 h10 h11 h12 h13 x_g x_kept x_saved x_before x_was x_region x_parts x_next x_ways x_more x_whole x_isSaved x_changes x_isWithin x_code x_input x_length x_fault x_failed x_signs x_signMany x_at x_told x_toldMany) res :=
  mkI (cc := cX13_thrown) (maxL := 1) (by decide) rfl (Nat.le_of_ble_eq_true rfl) (fun p e s m args below meth c A H locs ls E hK hA hW hl => k_X13_thrown_0 E hK hA hf hW hl)

/-! PaperStormModel.fails(I)Z X13_fails -/
abbrev rm_X13_fails : Room := { frames := 0, cells := 0, slots := 0, locals := 0 }
theorem in_X13_fails_X13 : ∀ w ∈ wsX130, w ∈ wsX13_fails := by decide +kernel
theorem lk_X13_fails_58 : Cond.fieldLink RX13 58 "PaperStormModel" "code" "I" ∈ wsX13_fails := by decide +kernel
noncomputable def f_X13_fails (x_code : Int32) (a1 : Int32) : Option (Int32 × Int32) :=
  jo (fun (x_code_14 : Int32) (s0_14 : Int32) => if ¬ vp_nar .boolean s0_14 = s0_14 then none else some (s0_14, x_code_14)) (fun j14 => if a1 ≤ 0 then j14 a1 0 else j14 a1 1)
abbrev G_X13_fails (p : Program) (l : Launch) (e : Env) (s : State) (m : MethodId) (args : Array Value) (below : List Frame) (meth : Method) (c : Code) (g : GE) (A : Nat → Prop) (h0 h1 h2 h3 h4 h5 h6 h7 h8 h9 h10 h11 h12 h13 : Nat) (x_g : Nat → Int32) (x_kept : Nat → Int32) (x_saved : Nat → Int32) (x_before : Nat → Int32) (x_was : Nat → Int32) (x_region : Nat → Int32) (x_parts : Nat → Int64) (x_next : Nat → Int64) (x_ways : Nat → Int32) (x_more : Nat → Int32) (x_whole : Int64) (x_isSaved : Int32) (x_changes : Int32) (x_isWithin : Int32) (x_input : Nat → Int32) (x_length : Int32) (x_fault : Int32) (x_failed : Int32) (x_signs : Nat → Int32) (x_signMany : Int32) (x_at : Int32) (x_told : Nat → Int32) (x_toldMany : Int32) (res : Int32 × Int32) (H : Heap) (locs : List Loc) (pc : Nat) (ls : Array Slot) (st : List Value) : Prop := W p l e (headSpec wsX13_fails rm_X13_fails).room s m args below meth c H locs 0 0 (MQ below (PoI g A (w_X13 g h0 h1 h2 h3 h4 h5 h6 h7 h8 h9 h10 h11 h12 h13 x_g x_kept x_saved x_before x_was x_region x_parts x_next x_ways x_more x_whole x_isSaved x_changes x_isWithin res.2 x_input x_length x_fault x_failed x_signs x_signMany x_at x_told x_toldMany) res.1) args s 0 0 A) (F0 m pc ls st)
set_option maxHeartbeats 4000000 in
set_option maxRecDepth 100000 in
theorem k_X13_fails_0 {p : Program} {l : Launch} {e : Env} {s : State} {m : MethodId} {args : Array Value} {below : List Frame} {meth : Method} {c : Code} {g : GE} {A : Nat → Prop} {h0 h1 h2 h3 h4 h5 h6 h7 h8 h9 h10 h11 h12 h13 : Nat} {x_g : Nat → Int32} {x_kept : Nat → Int32} {x_saved : Nat → Int32} {x_before : Nat → Int32} {x_was : Nat → Int32} {x_region : Nat → Int32} {x_parts : Nat → Int64} {x_next : Nat → Int64} {x_ways : Nat → Int32} {x_more : Nat → Int32} {x_whole : Int64} {x_isSaved : Int32} {x_changes : Int32} {x_isWithin : Int32} {x_code : Int32} {x_input : Nat → Int32} {x_length : Int32} {x_fault : Int32} {x_failed : Int32} {x_signs : Nat → Int32} {x_signMany : Int32} {x_at : Int32} {x_told : Nat → Int32} {x_toldMany : Int32} {res : Int32 × Int32} {H : Heap} {locs : List Loc} {ls : Array Slot} {a1 : Int32}
    (E : En cX13_fails RX13 wsX13_fails 2 (some .boolean) p s m args meth c) (hK : KK g s) (hA : ∀ q, s.heap.size ≤ q → A q) (h : f_X13_fails x_code a1 = some res) (hW : Wo g A s H locs (w_X13 g h0 h1 h2 h3 h4 h5 h6 h7 h8 h9 h10 h11 h12 h13 x_g x_kept x_saved x_before x_was x_region x_parts x_next x_ways x_more x_whole x_isSaved x_changes x_isWithin x_code x_input x_length x_fault x_failed x_signs x_signMany x_at x_told x_toldMany)) (hl : lv_has ls 2 [(0, .ref h0), (1, .int a1)]) : G_X13_fails p l e s m args below meth c g A h0 h1 h2 h3 h4 h5 h6 h7 h8 h9 h10 h11 h12 h13 x_g x_kept x_saved x_before x_was x_region x_parts x_next x_ways x_more x_whole x_isSaved x_changes x_isWithin x_input x_length x_fault x_failed x_signs x_signMany x_at x_told x_toldMany res H locs 0 ls [] := by
  have hts := E.2.2.2.1
  unfold f_X13_fails at h
  obtain ⟨j14, hj14, h⟩ := jox2 h
  have J14 : ∀ (x_code_14 : Int32) (s0_14 : Int32) (H : Heap) (locs : List Loc) (ls : Array Slot), j14 x_code_14 s0_14 = some res → Wo g A s H locs (w_X13 g h0 h1 h2 h3 h4 h5 h6 h7 h8 h9 h10 h11 h12 h13 x_g x_kept x_saved x_before x_was x_region x_parts x_next x_ways x_more x_whole x_isSaved x_changes x_isWithin x_code_14 x_input x_length x_fault x_failed x_signs x_signMany x_at x_told x_toldMany) → lv_has ls 2 [] → G_X13_fails p l e s m args below meth c g A h0 h1 h2 h3 h4 h5 h6 h7 h8 h9 h10 h11 h12 h13 x_g x_kept x_saved x_before x_was x_region x_parts x_next x_ways x_more x_whole x_isSaved x_changes x_isWithin x_input x_length x_fault x_failed x_signs x_signMany x_at x_told x_toldMany res H locs 14 ls [.int s0_14] := by
    intro x_code_14 s0_14 H locs ls h hW hl
    rw [hj14] at h
    obtain ⟨hz, h⟩ := ox h
    obtain rfl := Option.some.inj h
    exact endI E (nar_z (Decidable.not_not.mp hz)) hW dX13_fails_14
  refine lv_aload_n E.1 E.2.1 dX13_fails_0 rfl (lv_at hl 0 rfl) ?_
  refine lv_iload_n E.1 E.2.1 dX13_fails_1 rfl (lv_at hl 1 rfl) ?_
  refine wPut (world' := (w_X13 g h0 h1 h2 h3 h4 h5 h6 h7 h8 h9 h10 h11 h12 h13 x_g x_kept x_saved x_before x_was x_region x_parts x_next x_ways x_more x_whole x_isSaved x_changes x_isWithin a1 x_input x_length x_fault x_failed x_signs x_signMany x_at x_told x_toldMany)) E hK in_X13_fails_X13 tyX13 tyX13_ok nmX13 hW 14 lk_X13_fails_58 0 rfl rfl (by decide) rfl rfl rfl rfl rfl (Nat.le_of_ble_eq_true rfl) dX13_fails_2 rfl (fun H locs hW => ?_)
  refine lv_iload_n E.1 E.2.1 dX13_fails_5 rfl (lv_at hl 1 rfl) ?_
  refine lv_if_le (tgt := 13) E.1 E.2.1 dX13_fails_6 (by decide) (fun c6 => ?_) (fun c6 => ?_)
  · have h := it c6 h
    refine lv_iconst (v := 0) E.1 E.2.1 dX13_fails_13 (by decide) ?_
    exact J14 a1 0 H locs ls h hW (lv_sub hl [] rfl)
  · have h := ie c6 h
    refine lv_iconst (v := 1) E.1 E.2.1 dX13_fails_9 (by decide) ?_
    refine lv_goto (tgt := 14) E.1 E.2.1 dX13_fails_10 (by decide) ?_
    exact J14 a1 1 H locs ls h hW (lv_sub hl [] rfl)
theorem c_X13_fails (l : Launch) (g : GE) (h0 h1 h2 h3 h4 h5 h6 h7 h8 h9 h10 h11 h12 h13 : Nat) (x_g : Nat → Int32) (x_kept : Nat → Int32) (x_saved : Nat → Int32) (x_before : Nat → Int32) (x_was : Nat → Int32) (x_region : Nat → Int32) (x_parts : Nat → Int64) (x_next : Nat → Int64) (x_ways : Nat → Int32) (x_more : Nat → Int32) (x_whole : Int64) (x_isSaved : Int32) (x_changes : Int32) (x_isWithin : Int32) (x_code : Int32) (x_input : Nat → Int32) (x_length : Int32) (x_fault : Int32) (x_failed : Int32) (x_signs : Nat → Int32) (x_signMany : Int32) (x_at : Int32) (x_told : Nat → Int32) (x_toldMany : Int32) (a1 : Int32) {res : Int32 × Int32} (hf : f_X13_fails x_code a1 = some res) : CI l yX13_fails wsX13_fails rm_X13_fails g [.ref h0, .int a1] (w_X13 g h0 h1 h2 h3 h4 h5 h6 h7 h8 h9 h10 h11 h12 h13 x_g x_kept x_saved x_before x_was x_region x_parts x_next x_ways x_more x_whole x_isSaved x_changes x_isWithin x_code x_input x_length x_fault x_failed x_signs x_signMany x_at x_told x_toldMany) (w_X13 g h0 h1 h2 h3 h4 h5 h6 h7 h8 h9 h10 h11 h12 h13 x_g x_kept x_saved x_before x_was x_region x_parts x_next x_ways x_more x_whole x_isSaved x_changes x_isWithin res.2 x_input x_length x_fault x_failed x_signs x_signMany x_at x_told x_toldMany) res.1 :=
  mkI (cc := cX13_fails) (maxL := 2) (by decide) rfl (Nat.le_of_ble_eq_true rfl) (fun p e s m args below meth c A H locs ls E hK hA hW hl => k_X13_fails_0 E hK hA hf hW hl)

/-! PaperStormModel.in(III)Z X13_in -/
abbrev rm_X13_in : Room := { frames := 0, cells := 0, slots := 0, locals := 0 }
noncomputable def f_X13_in (a0 : Int32) (a1 : Int32) (a2 : Int32) : Option (Int32) :=
  jo (fun (s0_15 : Int32) => if ¬ vp_nar .boolean s0_15 = s0_15 then none else some (s0_15)) (fun j15 => jo (j15 0) (fun j14 => if a0 < a1 then j14 else if a2 < a0 then j14 else j15 1))
abbrev G_X13_in (p : Program) (l : Launch) (e : Env) (s : State) (m : MethodId) (args : Array Value) (below : List Frame) (meth : Method) (c : Code) (g : GE) (A : Nat → Prop) (res : Int32) (H : Heap) (locs : List Loc) (pc : Nat) (ls : Array Slot) (st : List Value) : Prop := W p l e (headSpec wsX13_in rm_X13_in).room s m args below meth c H locs 0 0 (MQ below (PoI g A ([] : va_W) res) args s 0 0 A) (F0 m pc ls st)
set_option maxHeartbeats 4000000 in
set_option maxRecDepth 100000 in
theorem k_X13_in_0 {p : Program} {l : Launch} {e : Env} {s : State} {m : MethodId} {args : Array Value} {below : List Frame} {meth : Method} {c : Code} {g : GE} {A : Nat → Prop} {res : Int32} {H : Heap} {locs : List Loc} {ls : Array Slot} {a0 : Int32} {a1 : Int32} {a2 : Int32}
    (E : En cX13_in RX13 wsX13_in 3 (some .boolean) p s m args meth c) (hK : KK g s) (hA : ∀ q, s.heap.size ≤ q → A q) (h : f_X13_in a0 a1 a2 = some res) (hW : Wo g A s H locs ([] : va_W)) (hl : lv_has ls 3 [(0, .int a0), (1, .int a1), (2, .int a2)]) : G_X13_in p l e s m args below meth c g A res H locs 0 ls [] := by
  have hts := E.2.2.2.1
  unfold f_X13_in at h
  obtain ⟨j15, hj15, h⟩ := jox1 h
  have J15 : ∀ (s0_15 : Int32) (H : Heap) (locs : List Loc) (ls : Array Slot), j15 s0_15 = some res → Wo g A s H locs ([] : va_W) → lv_has ls 3 [] → G_X13_in p l e s m args below meth c g A res H locs 15 ls [.int s0_15] := by
    intro s0_15 H locs ls h hW hl
    rw [hj15] at h
    obtain ⟨hz, h⟩ := ox h
    obtain rfl := Option.some.inj h
    exact endI E (nar_z (Decidable.not_not.mp hz)) hW dX13_in_15
  obtain ⟨j14, hj14, h⟩ := jox0 h
  have J14 : ∀ (H : Heap) (locs : List Loc) (ls : Array Slot), j14 = some res → Wo g A s H locs ([] : va_W) → lv_has ls 3 [] → G_X13_in p l e s m args below meth c g A res H locs 14 ls [] := by
    intro H locs ls h hW hl
    rw [hj14] at h
    refine lv_iconst (v := 0) E.1 E.2.1 dX13_in_14 (by decide) ?_
    exact J15 0 H locs ls h hW (lv_sub hl [] rfl)
  refine lv_iload_n E.1 E.2.1 dX13_in_0 rfl (lv_at hl 0 rfl) ?_
  refine lv_iload_n E.1 E.2.1 dX13_in_1 rfl (lv_at hl 1 rfl) ?_
  refine lv_icmp_lt (tgt := 14) E.1 E.2.1 dX13_in_2 (by decide) (fun c2 => ?_) (fun c2 => ?_)
  · have h := it c2 h
    exact J14  H locs ls h hW (lv_sub hl [] rfl)
  · have h := ie c2 h
    refine lv_iload_n E.1 E.2.1 dX13_in_5 rfl (lv_at hl 0 rfl) ?_
    refine lv_iload_n E.1 E.2.1 dX13_in_6 rfl (lv_at hl 2 rfl) ?_
    refine lv_icmp_gt (tgt := 14) E.1 E.2.1 dX13_in_7 (by decide) (fun c7 => ?_) (fun c7 => ?_)
    · have h := it c7 h
      exact J14  H locs ls h hW (lv_sub hl [] rfl)
    · have h := ie c7 h
      refine lv_iconst (v := 1) E.1 E.2.1 dX13_in_10 (by decide) ?_
      refine lv_goto (tgt := 15) E.1 E.2.1 dX13_in_11 (by decide) ?_
      exact J15 1 H locs ls h hW (lv_sub hl [] rfl)
theorem c_X13_in (l : Launch) (g : GE) (a0 : Int32) (a1 : Int32) (a2 : Int32) {res : Int32} (hf : f_X13_in a0 a1 a2 = some res) : CI l yX13_in wsX13_in rm_X13_in g [.int a0, .int a1, .int a2] ([] : va_W) ([] : va_W) res :=
  mkI (cc := cX13_in) (maxL := 3) (by decide) rfl (Nat.le_of_ble_eq_true rfl) (fun p e s m args below meth c A H locs ls E hK hA hW hl => k_X13_in_0 E hK hA hf hW hl)

/-! PaperStormModel.apart(II)I X13_apart -/
abbrev rm_X13_apart : Room := { frames := 0, cells := 0, slots := 0, locals := 0 }
noncomputable def f_X13_apart (a0 : Int32) (a1 : Int32) : Option (Int32) :=
  jo (fun (s0_14 : Int32) => some (s0_14)) (fun j14 => if a0 ≤ a1 then j14 (a1 - a0) else j14 (a0 - a1))
abbrev G_X13_apart (p : Program) (l : Launch) (e : Env) (s : State) (m : MethodId) (args : Array Value) (below : List Frame) (meth : Method) (c : Code) (g : GE) (A : Nat → Prop) (res : Int32) (H : Heap) (locs : List Loc) (pc : Nat) (ls : Array Slot) (st : List Value) : Prop := W p l e (headSpec wsX13_apart rm_X13_apart).room s m args below meth c H locs 0 0 (MQ below (PoI g A ([] : va_W) res) args s 0 0 A) (F0 m pc ls st)
set_option maxHeartbeats 4000000 in
set_option maxRecDepth 100000 in
theorem k_X13_apart_0 {p : Program} {l : Launch} {e : Env} {s : State} {m : MethodId} {args : Array Value} {below : List Frame} {meth : Method} {c : Code} {g : GE} {A : Nat → Prop} {res : Int32} {H : Heap} {locs : List Loc} {ls : Array Slot} {a0 : Int32} {a1 : Int32}
    (E : En cX13_apart RX13 wsX13_apart 2 (some .int) p s m args meth c) (hK : KK g s) (hA : ∀ q, s.heap.size ≤ q → A q) (h : f_X13_apart a0 a1 = some res) (hW : Wo g A s H locs ([] : va_W)) (hl : lv_has ls 2 [(0, .int a0), (1, .int a1)]) : G_X13_apart p l e s m args below meth c g A res H locs 0 ls [] := by
  have hts := E.2.2.2.1
  unfold f_X13_apart at h
  obtain ⟨j14, hj14, h⟩ := jox1 h
  have J14 : ∀ (s0_14 : Int32) (H : Heap) (locs : List Loc) (ls : Array Slot), j14 s0_14 = some res → Wo g A s H locs ([] : va_W) → lv_has ls 2 [] → G_X13_apart p l e s m args below meth c g A res H locs 14 ls [.int s0_14] := by
    intro s0_14 H locs ls h hW hl
    rw [hj14] at h
    obtain rfl := Option.some.inj h
    exact endI E rfl hW dX13_apart_14
  refine lv_iload_n E.1 E.2.1 dX13_apart_0 rfl (lv_at hl 0 rfl) ?_
  refine lv_iload_n E.1 E.2.1 dX13_apart_1 rfl (lv_at hl 1 rfl) ?_
  refine lv_icmp_le (tgt := 11) E.1 E.2.1 dX13_apart_2 (by decide) (fun c2 => ?_) (fun c2 => ?_)
  · have h := it c2 h
    refine lv_iload_n E.1 E.2.1 dX13_apart_11 rfl (lv_at hl 1 rfl) ?_
    refine lv_iload_n E.1 E.2.1 dX13_apart_12 rfl (lv_at hl 0 rfl) ?_
    refine lv_isub E.1 E.2.1 dX13_apart_13 ?_
    exact J14 (a1 - a0) H locs ls h hW (lv_sub hl [] rfl)
  · have h := ie c2 h
    refine lv_iload_n E.1 E.2.1 dX13_apart_5 rfl (lv_at hl 0 rfl) ?_
    refine lv_iload_n E.1 E.2.1 dX13_apart_6 rfl (lv_at hl 1 rfl) ?_
    refine lv_isub E.1 E.2.1 dX13_apart_7 ?_
    refine lv_goto (tgt := 14) E.1 E.2.1 dX13_apart_8 (by decide) ?_
    exact J14 (a0 - a1) H locs ls h hW (lv_sub hl [] rfl)
theorem c_X13_apart (l : Launch) (g : GE) (a0 : Int32) (a1 : Int32) {res : Int32} (hf : f_X13_apart a0 a1 = some res) : CI l yX13_apart wsX13_apart rm_X13_apart g [.int a0, .int a1] ([] : va_W) ([] : va_W) res :=
  mkI (cc := cX13_apart) (maxL := 2) (by decide) rfl (Nat.le_of_ble_eq_true rfl) (fun p e s m args below meth c A H locs ls E hK hA hW hl => k_X13_apart_0 E hK hA hf hW hl)

/-! PaperStormModel.copies([II[II)V X13_copies -/
abbrev rm_X13_copies : Room := { frames := 0, cells := 0, slots := 0, locals := 0 }
noncomputable def f_X13_copies_3 (x_a0 : Nat → Int32) (n_a0 : Nat) (n_a2 : Nat) (l1 : Int32) (l3 : Int32) (z28 : (Nat → Int32) → Option ((Nat → Int32))) : Nat → Int32 → (Nat → Int32) → Option ((Nat → Int32))
  | 0, _, _ => none
  | n + 1, l4_3, x_a2_3 => if 60 ≤ l4_3 then z28 x_a2_3 else if (l1 + l4_3) < 0 ∨ n_a0 ≤ (l1 + l4_3).toNatClampNeg then none else if (l3 + l4_3) < 0 ∨ n_a2 ≤ (l3 + l4_3).toNatClampNeg then none else f_X13_copies_3 x_a0 n_a0 n_a2 l1 l3 z28 n (l4_3 + 1) (upd x_a2_3 (l3 + l4_3).toNatClampNeg (x_a0 (l1 + l4_3).toNatClampNeg))
noncomputable def f_X13_copies (x_a0 : Nat → Int32) (x_a2 : Nat → Int32) (n_a0 : Nat) (n_a2 : Nat) (a1 : Int32) (a3 : Int32) : Option ((Nat → Int32)) :=
  f_X13_copies_3 x_a0 n_a0 n_a2 a1 a3 (fun x_a2_28e => some (x_a2_28e)) 1000 0 x_a2
abbrev G_X13_copies (p : Program) (l : Launch) (e : Env) (s : State) (m : MethodId) (args : Array Value) (below : List Frame) (meth : Method) (c : Code) (g : GE) (A : Nat → Prop) (h0 h1 : Nat) (n_a0 n_a2 : Nat) (x_a0 : Nat → Int32) (res : (Nat → Int32)) (H : Heap) (locs : List Loc) (pc : Nat) (ls : Array Slot) (st : List Value) : Prop := W p l e (headSpec wsX13_copies rm_X13_copies).room s m args below meth c H locs 0 0 (MQ below (PoV g A ([(h0, .inl (g.2 0, n_a0, .inl x_a0))] ++ [(h1, .inl (g.2 0, n_a2, .inl res))])) args s 0 0 A) (F0 m pc ls st)
set_option maxHeartbeats 4000000 in
set_option maxRecDepth 100000 in
theorem k_X13_copies_3 {p : Program} {l : Launch} {e : Env} {s : State} {m : MethodId} {args : Array Value} {below : List Frame} {meth : Method} {c : Code} {g : GE} {A : Nat → Prop} {h0 h1 : Nat} {n_a0 n_a2 : Nat} {x_a0 : Nat → Int32} {res : (Nat → Int32)} {l1 : Int32} {l3 : Int32} {z28 : (Nat → Int32) → Option ((Nat → Int32))}
    (E : En cX13_copies RX13 wsX13_copies 5 none p s m args meth c) (hK : KK g s) (hA : ∀ q, s.heap.size ≤ q → A q)
    (hz28 : ∀ (x_a2_28e : Nat → Int32) (H : Heap) (locs : List Loc) (ls : Array Slot), z28 x_a2_28e = some res → Wo g A s H locs ([(h0, .inl (g.2 0, n_a0, .inl x_a0))] ++ [(h1, .inl (g.2 0, n_a2, .inl x_a2_28e))]) → lv_has ls 5 [] → G_X13_copies p l e s m args below meth c g A h0 h1 n_a0 n_a2 x_a0 res H locs 28 ls [])
    : ∀ (n : Nat) (l4_3 : Int32) (x_a2_3 : Nat → Int32) (H : Heap) (locs : List Loc) (ls : Array Slot), f_X13_copies_3 x_a0 n_a0 n_a2 l1 l3 z28 n l4_3 x_a2_3 = some res → Wo g A s H locs ([(h0, .inl (g.2 0, n_a0, .inl x_a0))] ++ [(h1, .inl (g.2 0, n_a2, .inl x_a2_3))]) → lv_has ls 5 [(0, .ref h0), (1, .int l1), (2, .ref h1), (3, .int l3), (4, .int l4_3)] → G_X13_copies p l e s m args below meth c g A h0 h1 n_a0 n_a2 x_a0 res H locs 3 ls [] := by
  have hts := E.2.2.2.1
  intro n
  induction n with
  | zero => intro l4_3 x_a2_3 H locs ls h hW hl; rw [f_X13_copies_3] at h; cases h
  | succ n ih =>
    intro l4_3 x_a2_3 H locs ls h hW hl
    rw [f_X13_copies_3] at h
    refine lv_iload E.1 E.2.1 dX13_copies_3 (lv_at hl 4 rfl) ?_
    refine lv_bipush (v := 60) E.1 E.2.1 dX13_copies_5 (by decide) ?_
    refine lv_icmp_ge (tgt := 28) E.1 E.2.1 dX13_copies_7 (by decide) (fun c7 => ?_) (fun c7 => ?_)
    · have h := it c7 h
      exact hz28 x_a2_3 H locs ls h hW (lv_sub hl [] rfl)
    · have h := ie c7 h
      refine lv_aload_n E.1 E.2.1 dX13_copies_10 rfl (lv_at hl 2 rfl) ?_
      refine lv_iload_n E.1 E.2.1 dX13_copies_11 rfl (lv_at hl 3 rfl) ?_
      refine lv_iload E.1 E.2.1 dX13_copies_12 (lv_at hl 4 rfl) ?_
      refine lv_iadd E.1 E.2.1 dX13_copies_14 ?_
      refine lv_aload_n E.1 E.2.1 dX13_copies_15 rfl (lv_at hl 0 rfl) ?_
      refine lv_iload_n E.1 E.2.1 dX13_copies_16 rfl (lv_at hl 1 rfl) ?_
      refine lv_iload E.1 E.2.1 dX13_copies_17 (lv_at hl 4 rfl) ?_
      refine lv_iadd E.1 E.2.1 dX13_copies_19 ?_
      obtain ⟨hi20, h⟩ := ox h
      refine wIald E hK hW 0 rfl hi20 dX13_copies_20 ?_
      obtain ⟨hi21, h⟩ := ox h
      refine wIast (world' := ([(h0, .inl (g.2 0, n_a0, .inl x_a0))] ++ [(h1, .inl (g.2 0, n_a2, .inl (upd x_a2_3 (l3 + l4_3).toNatClampNeg (x_a0 (l1 + l4_3).toNatClampNeg))))])) E hK hW 1 rfl hi21 dX13_copies_21 rfl (fun H locs hW => ?_)
      refine lv_iinc (v := (l4_3 + 1)) (lv' := [(4, .int (l4_3 + 1)), (0, .ref h0), (1, .int l1), (2, .ref h1), (3, .int l3)]) E.1 E.2.1 dX13_copies_22 hl (k := 4) rfl rfl (by decide) rfl (fun ls hl => ?_)
      refine lv_goto (tgt := 3) E.1 E.2.1 dX13_copies_25 (by decide) ?_
      exact ih (l4_3 + 1) (upd x_a2_3 (l3 + l4_3).toNatClampNeg (x_a0 (l1 + l4_3).toNatClampNeg)) H locs ls h hW (lv_sub hl [1, 2, 3, 4, 0] rfl)
set_option maxHeartbeats 4000000 in
set_option maxRecDepth 100000 in
theorem k_X13_copies_0 {p : Program} {l : Launch} {e : Env} {s : State} {m : MethodId} {args : Array Value} {below : List Frame} {meth : Method} {c : Code} {g : GE} {A : Nat → Prop} {h0 h1 : Nat} {n_a0 n_a2 : Nat} {x_a0 : Nat → Int32} {x_a2 : Nat → Int32} {res : (Nat → Int32)} {H : Heap} {locs : List Loc} {ls : Array Slot} {a1 : Int32} {a3 : Int32}
    (E : En cX13_copies RX13 wsX13_copies 5 none p s m args meth c) (hK : KK g s) (hA : ∀ q, s.heap.size ≤ q → A q) (h : f_X13_copies x_a0 x_a2 n_a0 n_a2 a1 a3 = some res) (hW : Wo g A s H locs ([(h0, .inl (g.2 0, n_a0, .inl x_a0))] ++ [(h1, .inl (g.2 0, n_a2, .inl x_a2))])) (hl : lv_has ls 5 [(0, .ref h0), (1, .int a1), (2, .ref h1), (3, .int a3)]) : G_X13_copies p l e s m args below meth c g A h0 h1 n_a0 n_a2 x_a0 res H locs 0 ls [] := by
  have hts := E.2.2.2.1
  unfold f_X13_copies at h
  refine lv_iconst (v := 0) E.1 E.2.1 dX13_copies_0 (by decide) ?_
  refine lv_istore (lv' := [(4, .int 0), (0, .ref h0), (1, .int a1), (2, .ref h1), (3, .int a3)]) E.1 E.2.1 dX13_copies_1 hl (by decide) rfl (fun ls hl => ?_)
  refine k_X13_copies_3 E hK hA ?_ 1000 0 x_a2 H locs ls h hW (lv_sub hl [1, 2, 3, 4, 0] rfl)
  · intro x_a2_28e H locs ls h hW hl
    obtain rfl := Option.some.inj h
    exact endV E hW dX13_copies_28
theorem c_X13_copies (l : Launch) (g : GE) (h0 h1 n_a0 n_a2 : Nat) (x_a0 : Nat → Int32) (x_a2 : Nat → Int32) (a1 : Int32) (a3 : Int32) {res : (Nat → Int32)} (hf : f_X13_copies x_a0 x_a2 n_a0 n_a2 a1 a3 = some res) : CV l yX13_copies wsX13_copies rm_X13_copies g [.ref h0, .int a1, .ref h1, .int a3] ([(h0, .inl (g.2 0, n_a0, .inl x_a0))] ++ [(h1, .inl (g.2 0, n_a2, .inl x_a2))]) ([(h0, .inl (g.2 0, n_a0, .inl x_a0))] ++ [(h1, .inl (g.2 0, n_a2, .inl res))]) :=
  mkV (cc := cX13_copies) (maxL := 5) (by decide) rfl (Nat.le_of_ble_eq_true rfl) (fun p e s m args below meth c A H locs ls E hK hA hW hl => k_X13_copies_0 E hK hA hf hW hl)

/-! PaperStormModel.keeps([I)V X13_keeps__g -/
abbrev rm_X13_keeps__g : Room := { frames := 1, cells := 0, slots := 0, locals := 24 }
theorem in_X13_keeps__g_X13 : ∀ w ∈ wsX130, w ∈ wsX13_keeps := by decide +kernel
theorem lk_X13_keeps__g_13 : Cond.fieldLink RX13 13 "PaperStormModel" "kept" "[I" ∈ wsX13_keeps := by decide +kernel
theorem lk_X13_keeps__g_58 : Cond.fieldLink RX13 58 "PaperStormModel" "code" "I" ∈ wsX13_keeps := by decide +kernel
theorem lk_X13_keeps__g_61 : Cond.fieldLink RX13 61 "PaperStormModel" "isWithin" "Z" ∈ wsX13_keeps := by decide +kernel
theorem lk_X13_keeps__g_65 : Cond.fieldLink RX13 65 "PaperStormModel" "changes" "I" ∈ wsX13_keeps := by decide +kernel
noncomputable def f_X13_keeps__g_24 (z52 : (Nat → Int32) → Option ((Nat → Int32) × Int32 × Int32)) : Nat → Int32 → (Nat → Int32) → Option ((Nat → Int32) × Int32 × Int32)
  | 0, _, _ => none
  | n + 1, l2_24, x_kept_24 => if 420 ≤ l2_24 then z52 x_kept_24 else if (l2_24 + 60) < 0 ∨ 480 ≤ (l2_24 + 60).toNatClampNeg then none else if l2_24 < 0 ∨ 480 ≤ l2_24.toNatClampNeg then none else f_X13_keeps__g_24 z52 n (l2_24 + 1) (upd x_kept_24 l2_24.toNatClampNeg (x_kept_24 (l2_24 + 60).toNatClampNeg))
noncomputable def f_X13_keeps__g (x_g : Nat → Int32) (x_kept : Nat → Int32) (x_changes : Int32) (x_isWithin : Int32) (x_code : Int32) : Option ((Nat → Int32) × Int32 × Int32) :=
  if x_isWithin = 0 then jo (fun (x_kept_62 : Nat → Int32) (x_changes_62 : Int32) => (f_X13_copies x_g x_kept_62 60 480 0 (60 * x_changes_62)).bind fun r75 => some (r75, (x_changes_62 + 1), 0)) (fun j62 => if x_changes = 8 then f_X13_keeps__g_24 (fun x_kept_52e => j62 x_kept_52e (x_changes - 1)) 1000 0 x_kept else j62 x_kept x_changes) else some (x_kept, x_changes, 0)
abbrev G_X13_keeps__g (p : Program) (l : Launch) (e : Env) (s : State) (m : MethodId) (args : Array Value) (below : List Frame) (meth : Method) (c : Code) (g : GE) (A : Nat → Prop) (h0 h1 h2 h3 h4 h5 h6 h7 h8 h9 h10 h11 h12 h13 : Nat) (x_g : Nat → Int32) (x_saved : Nat → Int32) (x_before : Nat → Int32) (x_was : Nat → Int32) (x_region : Nat → Int32) (x_parts : Nat → Int64) (x_next : Nat → Int64) (x_ways : Nat → Int32) (x_more : Nat → Int32) (x_whole : Int64) (x_isSaved : Int32) (x_isWithin : Int32) (x_input : Nat → Int32) (x_length : Int32) (x_fault : Int32) (x_failed : Int32) (x_signs : Nat → Int32) (x_signMany : Int32) (x_at : Int32) (x_told : Nat → Int32) (x_toldMany : Int32) (res : (Nat → Int32) × Int32 × Int32) (H : Heap) (locs : List Loc) (pc : Nat) (ls : Array Slot) (st : List Value) : Prop := W p l e (headSpec wsX13_keeps rm_X13_keeps__g).room s m args below meth c H locs 0 0 (MQ below (PoV g A (w_X13 g h0 h1 h2 h3 h4 h5 h6 h7 h8 h9 h10 h11 h12 h13 x_g res.1 x_saved x_before x_was x_region x_parts x_next x_ways x_more x_whole x_isSaved res.2.1 x_isWithin res.2.2 x_input x_length x_fault x_failed x_signs x_signMany x_at x_told x_toldMany)) args s 0 0 A) (F0 m pc ls st)
set_option maxHeartbeats 4000000 in
set_option maxRecDepth 100000 in
theorem k_X13_keeps__g_24 {p : Program} {l : Launch} {e : Env} {s : State} {m : MethodId} {args : Array Value} {below : List Frame} {meth : Method} {c : Code} {g : GE} {A : Nat → Prop} {h0 h1 h2 h3 h4 h5 h6 h7 h8 h9 h10 h11 h12 h13 : Nat} {x_g : Nat → Int32} {x_saved : Nat → Int32} {x_before : Nat → Int32} {x_was : Nat → Int32} {x_region : Nat → Int32} {x_parts : Nat → Int64} {x_next : Nat → Int64} {x_ways : Nat → Int32} {x_more : Nat → Int32} {x_whole : Int64} {x_isSaved : Int32} {x_changes : Int32} {x_isWithin : Int32} {x_code : Int32} {x_input : Nat → Int32} {x_length : Int32} {x_fault : Int32} {x_failed : Int32} {x_signs : Nat → Int32} {x_signMany : Int32} {x_at : Int32} {x_told : Nat → Int32} {x_toldMany : Int32} {res : (Nat → Int32) × Int32 × Int32} {z52 : (Nat → Int32) → Option ((Nat → Int32) × Int32 × Int32)}
    (E : En cX13_keeps RX13 wsX13_keeps 3 none p s m args meth c) (hK : KK g s) (hA : ∀ q, s.heap.size ≤ q → A q)
    (hz52 : ∀ (x_kept_52e : Nat → Int32) (H : Heap) (locs : List Loc) (ls : Array Slot), z52 x_kept_52e = some res → Wo g A s H locs (w_X13 g h0 h1 h2 h3 h4 h5 h6 h7 h8 h9 h10 h11 h12 h13 x_g x_kept_52e x_saved x_before x_was x_region x_parts x_next x_ways x_more x_whole x_isSaved x_changes x_isWithin x_code x_input x_length x_fault x_failed x_signs x_signMany x_at x_told x_toldMany) → lv_has ls 3 [(0, .ref h0), (1, .ref h1)] → G_X13_keeps__g p l e s m args below meth c g A h0 h1 h2 h3 h4 h5 h6 h7 h8 h9 h10 h11 h12 h13 x_g x_saved x_before x_was x_region x_parts x_next x_ways x_more x_whole x_isSaved x_isWithin x_input x_length x_fault x_failed x_signs x_signMany x_at x_told x_toldMany res H locs 52 ls [])
    : ∀ (n : Nat) (l2_24 : Int32) (x_kept_24 : Nat → Int32) (H : Heap) (locs : List Loc) (ls : Array Slot), f_X13_keeps__g_24 z52 n l2_24 x_kept_24 = some res → Wo g A s H locs (w_X13 g h0 h1 h2 h3 h4 h5 h6 h7 h8 h9 h10 h11 h12 h13 x_g x_kept_24 x_saved x_before x_was x_region x_parts x_next x_ways x_more x_whole x_isSaved x_changes x_isWithin x_code x_input x_length x_fault x_failed x_signs x_signMany x_at x_told x_toldMany) → lv_has ls 3 [(0, .ref h0), (1, .ref h1), (2, .int l2_24)] → G_X13_keeps__g p l e s m args below meth c g A h0 h1 h2 h3 h4 h5 h6 h7 h8 h9 h10 h11 h12 h13 x_g x_saved x_before x_was x_region x_parts x_next x_ways x_more x_whole x_isSaved x_isWithin x_input x_length x_fault x_failed x_signs x_signMany x_at x_told x_toldMany res H locs 24 ls [] := by
  have hts := E.2.2.2.1
  intro n
  induction n with
  | zero => intro l2_24 x_kept_24 H locs ls h hW hl; rw [f_X13_keeps__g_24] at h; cases h
  | succ n ih =>
    intro l2_24 x_kept_24 H locs ls h hW hl
    rw [f_X13_keeps__g_24] at h
    refine lv_iload_n E.1 E.2.1 dX13_keeps_24 rfl (lv_at hl 2 rfl) ?_
    refine lv_sipush (v := 420) E.1 E.2.1 dX13_keeps_25 (by decide) ?_
    refine lv_icmp_ge (tgt := 52) E.1 E.2.1 dX13_keeps_28 (by decide) (fun c28 => ?_) (fun c28 => ?_)
    · have h := it c28 h
      exact hz52 x_kept_24 H locs ls h hW (lv_sub hl [0, 1] rfl)
    · have h := ie c28 h
      refine lv_aload_n E.1 E.2.1 dX13_keeps_31 rfl (lv_at hl 0 rfl) ?_
      refine wGet (v := .ref h2) E hK in_X13_keeps__g_X13 hW 1 lk_X13_keeps__g_13 0 rfl rfl (by decide) rfl rfl dX13_keeps_32 ?_
      refine lv_iload_n E.1 E.2.1 dX13_keeps_35 rfl (lv_at hl 2 rfl) ?_
      refine lv_aload_n E.1 E.2.1 dX13_keeps_36 rfl (lv_at hl 0 rfl) ?_
      refine wGet (v := .ref h2) E hK in_X13_keeps__g_X13 hW 1 lk_X13_keeps__g_13 0 rfl rfl (by decide) rfl rfl dX13_keeps_37 ?_
      refine lv_iload_n E.1 E.2.1 dX13_keeps_40 rfl (lv_at hl 2 rfl) ?_
      refine lv_bipush (v := 60) E.1 E.2.1 dX13_keeps_41 (by decide) ?_
      refine lv_iadd E.1 E.2.1 dX13_keeps_43 ?_
      obtain ⟨hi44, h⟩ := ox h
      refine wIald E hK hW 2 rfl hi44 dX13_keeps_44 ?_
      obtain ⟨hi45, h⟩ := ox h
      refine wIast (world' := (w_X13 g h0 h1 h2 h3 h4 h5 h6 h7 h8 h9 h10 h11 h12 h13 x_g (upd x_kept_24 l2_24.toNatClampNeg (x_kept_24 (l2_24 + 60).toNatClampNeg)) x_saved x_before x_was x_region x_parts x_next x_ways x_more x_whole x_isSaved x_changes x_isWithin x_code x_input x_length x_fault x_failed x_signs x_signMany x_at x_told x_toldMany)) E hK hW 2 rfl hi45 dX13_keeps_45 rfl (fun H locs hW => ?_)
      refine lv_iinc (v := (l2_24 + 1)) (lv' := [(2, .int (l2_24 + 1)), (0, .ref h0), (1, .ref h1)]) E.1 E.2.1 dX13_keeps_46 hl (k := 2) rfl rfl (by decide) rfl (fun ls hl => ?_)
      refine lv_goto (tgt := 24) E.1 E.2.1 dX13_keeps_49 (by decide) ?_
      exact ih (l2_24 + 1) (upd x_kept_24 l2_24.toNatClampNeg (x_kept_24 (l2_24 + 60).toNatClampNeg)) H locs ls h hW (lv_sub hl [1, 2, 0] rfl)
set_option maxHeartbeats 4000000 in
set_option maxRecDepth 100000 in
theorem k_X13_keeps__g_0 {p : Program} {l : Launch} {e : Env} {s : State} {m : MethodId} {args : Array Value} {below : List Frame} {meth : Method} {c : Code} {g : GE} {A : Nat → Prop} {h0 h1 h2 h3 h4 h5 h6 h7 h8 h9 h10 h11 h12 h13 : Nat} {x_g : Nat → Int32} {x_kept : Nat → Int32} {x_saved : Nat → Int32} {x_before : Nat → Int32} {x_was : Nat → Int32} {x_region : Nat → Int32} {x_parts : Nat → Int64} {x_next : Nat → Int64} {x_ways : Nat → Int32} {x_more : Nat → Int32} {x_whole : Int64} {x_isSaved : Int32} {x_changes : Int32} {x_isWithin : Int32} {x_code : Int32} {x_input : Nat → Int32} {x_length : Int32} {x_fault : Int32} {x_failed : Int32} {x_signs : Nat → Int32} {x_signMany : Int32} {x_at : Int32} {x_told : Nat → Int32} {x_toldMany : Int32} {res : (Nat → Int32) × Int32 × Int32} {H : Heap} {locs : List Loc} {ls : Array Slot} 
    (E : En cX13_keeps RX13 wsX13_keeps 3 none p s m args meth c) (hK : KK g s) (hA : ∀ q, s.heap.size ≤ q → A q) (h : f_X13_keeps__g x_g x_kept x_changes x_isWithin x_code = some res) (hW : Wo g A s H locs (w_X13 g h0 h1 h2 h3 h4 h5 h6 h7 h8 h9 h10 h11 h12 h13 x_g x_kept x_saved x_before x_was x_region x_parts x_next x_ways x_more x_whole x_isSaved x_changes x_isWithin x_code x_input x_length x_fault x_failed x_signs x_signMany x_at x_told x_toldMany)) (hl : lv_has ls 3 [(0, .ref h0), (1, .ref h1)]) : G_X13_keeps__g p l e s m args below meth c g A h0 h1 h2 h3 h4 h5 h6 h7 h8 h9 h10 h11 h12 h13 x_g x_saved x_before x_was x_region x_parts x_next x_ways x_more x_whole x_isSaved x_isWithin x_input x_length x_fault x_failed x_signs x_signMany x_at x_told x_toldMany res H locs 0 ls [] := by
  have hts := E.2.2.2.1
  unfold f_X13_keeps__g at h
  refine lv_aload_n E.1 E.2.1 dX13_keeps_0 rfl (lv_at hl 0 rfl) ?_
  refine lv_iconst (v := 0) E.1 E.2.1 dX13_keeps_1 (by decide) ?_
  refine wPut (world' := (w_X13 g h0 h1 h2 h3 h4 h5 h6 h7 h8 h9 h10 h11 h12 h13 x_g x_kept x_saved x_before x_was x_region x_parts x_next x_ways x_more x_whole x_isSaved x_changes x_isWithin 0 x_input x_length x_fault x_failed x_signs x_signMany x_at x_told x_toldMany)) E hK in_X13_keeps__g_X13 tyX13 tyX13_ok nmX13 hW 14 lk_X13_keeps__g_58 0 rfl rfl (by decide) rfl rfl rfl rfl rfl (Nat.le_of_ble_eq_true rfl) dX13_keeps_2 rfl (fun H locs hW => ?_)
  refine lv_aload_n E.1 E.2.1 dX13_keeps_5 rfl (lv_at hl 0 rfl) ?_
  refine wGet (v := .int x_isWithin) E hK in_X13_keeps__g_X13 hW 13 lk_X13_keeps__g_61 0 rfl rfl (by decide) rfl rfl dX13_keeps_6 ?_
  refine lv_if_eq (tgt := 13) E.1 E.2.1 dX13_keeps_9 (by decide) (fun c9 => ?_) (fun c9 => ?_)
  · have h := it c9 h
    obtain ⟨j62, hj62, h⟩ := jox2 h
    have J62 : ∀ (x_kept_62 : Nat → Int32) (x_changes_62 : Int32) (H : Heap) (locs : List Loc) (ls : Array Slot), j62 x_kept_62 x_changes_62 = some res → Wo g A s H locs (w_X13 g h0 h1 h2 h3 h4 h5 h6 h7 h8 h9 h10 h11 h12 h13 x_g x_kept_62 x_saved x_before x_was x_region x_parts x_next x_ways x_more x_whole x_isSaved x_changes_62 x_isWithin 0 x_input x_length x_fault x_failed x_signs x_signMany x_at x_told x_toldMany) → lv_has ls 3 [(0, .ref h0), (1, .ref h1)] → G_X13_keeps__g p l e s m args below meth c g A h0 h1 h2 h3 h4 h5 h6 h7 h8 h9 h10 h11 h12 h13 x_g x_saved x_before x_was x_region x_parts x_next x_ways x_more x_whole x_isSaved x_isWithin x_input x_length x_fault x_failed x_signs x_signMany x_at x_told x_toldMany res H locs 62 ls [] := by
      intro x_kept_62 x_changes_62 H locs ls h hW hl
      rw [hj62] at h
      refine lv_aload_n E.1 E.2.1 dX13_keeps_62 rfl (lv_at hl 1 rfl) ?_
      refine lv_iconst (v := 0) E.1 E.2.1 dX13_keeps_63 (by decide) ?_
      refine lv_aload_n E.1 E.2.1 dX13_keeps_64 rfl (lv_at hl 0 rfl) ?_
      refine wGet (v := .ref h2) E hK in_X13_keeps__g_X13 hW 1 lk_X13_keeps__g_13 0 rfl rfl (by decide) rfl rfl dX13_keeps_65 ?_
      refine lv_bipush (v := 60) E.1 E.2.1 dX13_keeps_68 (by decide) ?_
      refine lv_aload_n E.1 E.2.1 dX13_keeps_70 rfl (lv_at hl 0 rfl) ?_
      refine wGet (v := .int x_changes_62) E hK in_X13_keeps__g_X13 hW 12 lk_X13_keeps__g_65 0 rfl rfl (by decide) rfl rfl dX13_keeps_71 ?_
      refine lv_imul E.1 E.2.1 dX13_keeps_74 ?_
      obtain ⟨r75, hc, h⟩ := bx h
      refine goU (world' := (w_X13 g h0 h1 h2 h3 h4 h5 h6 h7 h8 h9 h10 h11 h12 h13 x_g r75 x_saved x_before x_was x_region x_parts x_next x_ways x_more x_whole x_isSaved x_changes_62 x_isWithin 0 x_input x_length x_fault x_failed x_signs x_signMany x_at x_told x_toldMany)) hW hA (is := [1, 2]) rfl (goS (rest := []) E hK hW [1, 2] rfl rfl (c_X13_copies l g h1 h2 60 480 x_g x_kept_62 0 (60 * x_changes_62) (hf := hc) H.size) (va_cwS 4 hts gX13_keeps_X13_copies rfl rfl rfl (by decide +kernel) ⟨Nat.le_of_ble_eq_true rfl, Nat.le_of_ble_eq_true rfl⟩) hl.1 rfl rfl (Nat.le_of_ble_eq_true rfl) dX13_keeps_75 ⟨Nat.zero_le _, Nat.zero_le _⟩) rfl rfl (fun H locs hW => ?_)
      refine lv_aload_n E.1 E.2.1 dX13_keeps_78 rfl (lv_at hl 0 rfl) ?_
      refine lv_dup E.1 E.2.1 dX13_keeps_79 rfl ?_
      refine wGet (v := .int x_changes_62) E hK in_X13_keeps__g_X13 hW 12 lk_X13_keeps__g_65 0 rfl rfl (by decide) rfl rfl dX13_keeps_80 ?_
      refine lv_iconst (v := 1) E.1 E.2.1 dX13_keeps_83 (by decide) ?_
      refine lv_iadd E.1 E.2.1 dX13_keeps_84 ?_
      refine wPut (world' := (w_X13 g h0 h1 h2 h3 h4 h5 h6 h7 h8 h9 h10 h11 h12 h13 x_g r75 x_saved x_before x_was x_region x_parts x_next x_ways x_more x_whole x_isSaved (x_changes_62 + 1) x_isWithin 0 x_input x_length x_fault x_failed x_signs x_signMany x_at x_told x_toldMany)) E hK in_X13_keeps__g_X13 tyX13 tyX13_ok nmX13 hW 12 lk_X13_keeps__g_65 0 rfl rfl (by decide) rfl rfl rfl rfl rfl (Nat.le_of_ble_eq_true rfl) dX13_keeps_85 rfl (fun H locs hW => ?_)
      obtain rfl := Option.some.inj h
      exact endV E hW dX13_keeps_88
    refine lv_aload_n E.1 E.2.1 dX13_keeps_13 rfl (lv_at hl 0 rfl) ?_
    refine wGet (v := .int x_changes) E hK in_X13_keeps__g_X13 hW 12 lk_X13_keeps__g_65 0 rfl rfl (by decide) rfl rfl dX13_keeps_14 ?_
    refine lv_bipush (v := 8) E.1 E.2.1 dX13_keeps_17 (by decide) ?_
    refine lv_icmp_ne (tgt := 62) E.1 E.2.1 dX13_keeps_19 (by decide) (fun c19 => ?_) (fun c19 => ?_)
    · have h := ie c19 h
      exact J62 x_kept x_changes H locs ls h hW (lv_sub hl [0, 1] rfl)
    · have h := it c19 h
      refine lv_iconst (v := 0) E.1 E.2.1 dX13_keeps_22 (by decide) ?_
      refine lv_istore_n (lv' := [(2, .int 0), (0, .ref h0), (1, .ref h1)]) E.1 E.2.1 dX13_keeps_23 rfl hl (by decide) rfl (fun ls hl => ?_)
      refine k_X13_keeps__g_24 E hK hA ?_ 1000 0 x_kept H locs ls h hW (lv_sub hl [1, 2, 0] rfl)
      · intro x_kept_52e H locs ls h hW hl
        refine lv_aload_n E.1 E.2.1 dX13_keeps_52 rfl (lv_at hl 0 rfl) ?_
        refine lv_dup E.1 E.2.1 dX13_keeps_53 rfl ?_
        refine wGet (v := .int x_changes) E hK in_X13_keeps__g_X13 hW 12 lk_X13_keeps__g_65 0 rfl rfl (by decide) rfl rfl dX13_keeps_54 ?_
        refine lv_iconst (v := 1) E.1 E.2.1 dX13_keeps_57 (by decide) ?_
        refine lv_isub E.1 E.2.1 dX13_keeps_58 ?_
        refine wPut (world' := (w_X13 g h0 h1 h2 h3 h4 h5 h6 h7 h8 h9 h10 h11 h12 h13 x_g x_kept_52e x_saved x_before x_was x_region x_parts x_next x_ways x_more x_whole x_isSaved (x_changes - 1) x_isWithin 0 x_input x_length x_fault x_failed x_signs x_signMany x_at x_told x_toldMany)) E hK in_X13_keeps__g_X13 tyX13 tyX13_ok nmX13 hW 12 lk_X13_keeps__g_65 0 rfl rfl (by decide) rfl rfl rfl rfl rfl (Nat.le_of_ble_eq_true rfl) dX13_keeps_59 rfl (fun H locs hW => ?_)
        exact J62 x_kept_52e (x_changes - 1) H locs ls h hW (lv_sub hl [0, 1] rfl)
  · have h := ie c9 h
    obtain rfl := Option.some.inj h
    exact endV E hW dX13_keeps_12
theorem c_X13_keeps__g (l : Launch) (g : GE) (h0 h1 h2 h3 h4 h5 h6 h7 h8 h9 h10 h11 h12 h13 : Nat) (x_g : Nat → Int32) (x_kept : Nat → Int32) (x_saved : Nat → Int32) (x_before : Nat → Int32) (x_was : Nat → Int32) (x_region : Nat → Int32) (x_parts : Nat → Int64) (x_next : Nat → Int64) (x_ways : Nat → Int32) (x_more : Nat → Int32) (x_whole : Int64) (x_isSaved : Int32) (x_changes : Int32) (x_isWithin : Int32) (x_code : Int32) (x_input : Nat → Int32) (x_length : Int32) (x_fault : Int32) (x_failed : Int32) (x_signs : Nat → Int32) (x_signMany : Int32) (x_at : Int32) (x_told : Nat → Int32) (x_toldMany : Int32) {res : (Nat → Int32) × Int32 × Int32} (hf : f_X13_keeps__g x_g x_kept x_changes x_isWithin x_code = some res) : CV l yX13_keeps wsX13_keeps rm_X13_keeps__g g [.ref h0, .ref h1] (w_X13 g h0 h1 h2 h3 h4 h5 h6 h7 h8 h9 h10 h11 h12 h13 x_g x_kept x_saved x_before x_was x_region x_parts x_next x_ways x_more x_whole x_isSaved x_changes x_isWithin x_code x_input x_length x_fault x_failed x_signs x_signMany x_at x_told x_toldMany) (w_X13 g h0 h1 h2 h3 h4 h5 h6 h7 h8 h9 h10 h11 h12 h13 x_g res.1 x_saved x_before x_was x_region x_parts x_next x_ways x_more x_whole x_isSaved res.2.1 x_isWithin res.2.2 x_input x_length x_fault x_failed x_signs x_signMany x_at x_told x_toldMany) :=
  mkV (cc := cX13_keeps) (maxL := 3) (by decide) rfl (Nat.le_of_ble_eq_true rfl) (fun p e s m args below meth c A H locs ls E hK hA hW hl => k_X13_keeps__g_0 E hK hA hf hW hl)

/-! PaperStormModel.keeps([I)V X13_keeps__before -/
abbrev rm_X13_keeps__before : Room := { frames := 1, cells := 0, slots := 0, locals := 24 }
theorem in_X13_keeps__before_X13 : ∀ w ∈ wsX130, w ∈ wsX13_keeps := by decide +kernel
theorem lk_X13_keeps__before_13 : Cond.fieldLink RX13 13 "PaperStormModel" "kept" "[I" ∈ wsX13_keeps := by decide +kernel
theorem lk_X13_keeps__before_58 : Cond.fieldLink RX13 58 "PaperStormModel" "code" "I" ∈ wsX13_keeps := by decide +kernel
theorem lk_X13_keeps__before_61 : Cond.fieldLink RX13 61 "PaperStormModel" "isWithin" "Z" ∈ wsX13_keeps := by decide +kernel
theorem lk_X13_keeps__before_65 : Cond.fieldLink RX13 65 "PaperStormModel" "changes" "I" ∈ wsX13_keeps := by decide +kernel
noncomputable def f_X13_keeps__before_24 (z52 : (Nat → Int32) → Option ((Nat → Int32) × Int32 × Int32)) : Nat → Int32 → (Nat → Int32) → Option ((Nat → Int32) × Int32 × Int32)
  | 0, _, _ => none
  | n + 1, l2_24, x_kept_24 => if 420 ≤ l2_24 then z52 x_kept_24 else if (l2_24 + 60) < 0 ∨ 480 ≤ (l2_24 + 60).toNatClampNeg then none else if l2_24 < 0 ∨ 480 ≤ l2_24.toNatClampNeg then none else f_X13_keeps__before_24 z52 n (l2_24 + 1) (upd x_kept_24 l2_24.toNatClampNeg (x_kept_24 (l2_24 + 60).toNatClampNeg))
noncomputable def f_X13_keeps__before (x_kept : Nat → Int32) (x_before : Nat → Int32) (x_changes : Int32) (x_isWithin : Int32) (x_code : Int32) : Option ((Nat → Int32) × Int32 × Int32) :=
  if x_isWithin = 0 then jo (fun (x_kept_62 : Nat → Int32) (x_changes_62 : Int32) => (f_X13_copies x_before x_kept_62 60 480 0 (60 * x_changes_62)).bind fun r75 => some (r75, (x_changes_62 + 1), 0)) (fun j62 => if x_changes = 8 then f_X13_keeps__before_24 (fun x_kept_52e => j62 x_kept_52e (x_changes - 1)) 1000 0 x_kept else j62 x_kept x_changes) else some (x_kept, x_changes, 0)
abbrev G_X13_keeps__before (p : Program) (l : Launch) (e : Env) (s : State) (m : MethodId) (args : Array Value) (below : List Frame) (meth : Method) (c : Code) (g : GE) (A : Nat → Prop) (h0 h1 h2 h3 h4 h5 h6 h7 h8 h9 h10 h11 h12 h13 : Nat) (x_g : Nat → Int32) (x_saved : Nat → Int32) (x_before : Nat → Int32) (x_was : Nat → Int32) (x_region : Nat → Int32) (x_parts : Nat → Int64) (x_next : Nat → Int64) (x_ways : Nat → Int32) (x_more : Nat → Int32) (x_whole : Int64) (x_isSaved : Int32) (x_isWithin : Int32) (x_input : Nat → Int32) (x_length : Int32) (x_fault : Int32) (x_failed : Int32) (x_signs : Nat → Int32) (x_signMany : Int32) (x_at : Int32) (x_told : Nat → Int32) (x_toldMany : Int32) (res : (Nat → Int32) × Int32 × Int32) (H : Heap) (locs : List Loc) (pc : Nat) (ls : Array Slot) (st : List Value) : Prop := W p l e (headSpec wsX13_keeps rm_X13_keeps__before).room s m args below meth c H locs 0 0 (MQ below (PoV g A (w_X13 g h0 h1 h2 h3 h4 h5 h6 h7 h8 h9 h10 h11 h12 h13 x_g res.1 x_saved x_before x_was x_region x_parts x_next x_ways x_more x_whole x_isSaved res.2.1 x_isWithin res.2.2 x_input x_length x_fault x_failed x_signs x_signMany x_at x_told x_toldMany)) args s 0 0 A) (F0 m pc ls st)
set_option maxHeartbeats 4000000 in
set_option maxRecDepth 100000 in
theorem k_X13_keeps__before_24 {p : Program} {l : Launch} {e : Env} {s : State} {m : MethodId} {args : Array Value} {below : List Frame} {meth : Method} {c : Code} {g : GE} {A : Nat → Prop} {h0 h1 h2 h3 h4 h5 h6 h7 h8 h9 h10 h11 h12 h13 : Nat} {x_g : Nat → Int32} {x_saved : Nat → Int32} {x_before : Nat → Int32} {x_was : Nat → Int32} {x_region : Nat → Int32} {x_parts : Nat → Int64} {x_next : Nat → Int64} {x_ways : Nat → Int32} {x_more : Nat → Int32} {x_whole : Int64} {x_isSaved : Int32} {x_changes : Int32} {x_isWithin : Int32} {x_code : Int32} {x_input : Nat → Int32} {x_length : Int32} {x_fault : Int32} {x_failed : Int32} {x_signs : Nat → Int32} {x_signMany : Int32} {x_at : Int32} {x_told : Nat → Int32} {x_toldMany : Int32} {res : (Nat → Int32) × Int32 × Int32} {z52 : (Nat → Int32) → Option ((Nat → Int32) × Int32 × Int32)}
    (E : En cX13_keeps RX13 wsX13_keeps 3 none p s m args meth c) (hK : KK g s) (hA : ∀ q, s.heap.size ≤ q → A q)
    (hz52 : ∀ (x_kept_52e : Nat → Int32) (H : Heap) (locs : List Loc) (ls : Array Slot), z52 x_kept_52e = some res → Wo g A s H locs (w_X13 g h0 h1 h2 h3 h4 h5 h6 h7 h8 h9 h10 h11 h12 h13 x_g x_kept_52e x_saved x_before x_was x_region x_parts x_next x_ways x_more x_whole x_isSaved x_changes x_isWithin x_code x_input x_length x_fault x_failed x_signs x_signMany x_at x_told x_toldMany) → lv_has ls 3 [(0, .ref h0), (1, .ref h4)] → G_X13_keeps__before p l e s m args below meth c g A h0 h1 h2 h3 h4 h5 h6 h7 h8 h9 h10 h11 h12 h13 x_g x_saved x_before x_was x_region x_parts x_next x_ways x_more x_whole x_isSaved x_isWithin x_input x_length x_fault x_failed x_signs x_signMany x_at x_told x_toldMany res H locs 52 ls [])
    : ∀ (n : Nat) (l2_24 : Int32) (x_kept_24 : Nat → Int32) (H : Heap) (locs : List Loc) (ls : Array Slot), f_X13_keeps__before_24 z52 n l2_24 x_kept_24 = some res → Wo g A s H locs (w_X13 g h0 h1 h2 h3 h4 h5 h6 h7 h8 h9 h10 h11 h12 h13 x_g x_kept_24 x_saved x_before x_was x_region x_parts x_next x_ways x_more x_whole x_isSaved x_changes x_isWithin x_code x_input x_length x_fault x_failed x_signs x_signMany x_at x_told x_toldMany) → lv_has ls 3 [(0, .ref h0), (1, .ref h4), (2, .int l2_24)] → G_X13_keeps__before p l e s m args below meth c g A h0 h1 h2 h3 h4 h5 h6 h7 h8 h9 h10 h11 h12 h13 x_g x_saved x_before x_was x_region x_parts x_next x_ways x_more x_whole x_isSaved x_isWithin x_input x_length x_fault x_failed x_signs x_signMany x_at x_told x_toldMany res H locs 24 ls [] := by
  have hts := E.2.2.2.1
  intro n
  induction n with
  | zero => intro l2_24 x_kept_24 H locs ls h hW hl; rw [f_X13_keeps__before_24] at h; cases h
  | succ n ih =>
    intro l2_24 x_kept_24 H locs ls h hW hl
    rw [f_X13_keeps__before_24] at h
    refine lv_iload_n E.1 E.2.1 dX13_keeps_24 rfl (lv_at hl 2 rfl) ?_
    refine lv_sipush (v := 420) E.1 E.2.1 dX13_keeps_25 (by decide) ?_
    refine lv_icmp_ge (tgt := 52) E.1 E.2.1 dX13_keeps_28 (by decide) (fun c28 => ?_) (fun c28 => ?_)
    · have h := it c28 h
      exact hz52 x_kept_24 H locs ls h hW (lv_sub hl [0, 1] rfl)
    · have h := ie c28 h
      refine lv_aload_n E.1 E.2.1 dX13_keeps_31 rfl (lv_at hl 0 rfl) ?_
      refine wGet (v := .ref h2) E hK in_X13_keeps__before_X13 hW 1 lk_X13_keeps__before_13 0 rfl rfl (by decide) rfl rfl dX13_keeps_32 ?_
      refine lv_iload_n E.1 E.2.1 dX13_keeps_35 rfl (lv_at hl 2 rfl) ?_
      refine lv_aload_n E.1 E.2.1 dX13_keeps_36 rfl (lv_at hl 0 rfl) ?_
      refine wGet (v := .ref h2) E hK in_X13_keeps__before_X13 hW 1 lk_X13_keeps__before_13 0 rfl rfl (by decide) rfl rfl dX13_keeps_37 ?_
      refine lv_iload_n E.1 E.2.1 dX13_keeps_40 rfl (lv_at hl 2 rfl) ?_
      refine lv_bipush (v := 60) E.1 E.2.1 dX13_keeps_41 (by decide) ?_
      refine lv_iadd E.1 E.2.1 dX13_keeps_43 ?_
      obtain ⟨hi44, h⟩ := ox h
      refine wIald E hK hW 2 rfl hi44 dX13_keeps_44 ?_
      obtain ⟨hi45, h⟩ := ox h
      refine wIast (world' := (w_X13 g h0 h1 h2 h3 h4 h5 h6 h7 h8 h9 h10 h11 h12 h13 x_g (upd x_kept_24 l2_24.toNatClampNeg (x_kept_24 (l2_24 + 60).toNatClampNeg)) x_saved x_before x_was x_region x_parts x_next x_ways x_more x_whole x_isSaved x_changes x_isWithin x_code x_input x_length x_fault x_failed x_signs x_signMany x_at x_told x_toldMany)) E hK hW 2 rfl hi45 dX13_keeps_45 rfl (fun H locs hW => ?_)
      refine lv_iinc (v := (l2_24 + 1)) (lv' := [(2, .int (l2_24 + 1)), (0, .ref h0), (1, .ref h4)]) E.1 E.2.1 dX13_keeps_46 hl (k := 2) rfl rfl (by decide) rfl (fun ls hl => ?_)
      refine lv_goto (tgt := 24) E.1 E.2.1 dX13_keeps_49 (by decide) ?_
      exact ih (l2_24 + 1) (upd x_kept_24 l2_24.toNatClampNeg (x_kept_24 (l2_24 + 60).toNatClampNeg)) H locs ls h hW (lv_sub hl [1, 2, 0] rfl)
set_option maxHeartbeats 4000000 in
set_option maxRecDepth 100000 in
theorem k_X13_keeps__before_0 {p : Program} {l : Launch} {e : Env} {s : State} {m : MethodId} {args : Array Value} {below : List Frame} {meth : Method} {c : Code} {g : GE} {A : Nat → Prop} {h0 h1 h2 h3 h4 h5 h6 h7 h8 h9 h10 h11 h12 h13 : Nat} {x_g : Nat → Int32} {x_kept : Nat → Int32} {x_saved : Nat → Int32} {x_before : Nat → Int32} {x_was : Nat → Int32} {x_region : Nat → Int32} {x_parts : Nat → Int64} {x_next : Nat → Int64} {x_ways : Nat → Int32} {x_more : Nat → Int32} {x_whole : Int64} {x_isSaved : Int32} {x_changes : Int32} {x_isWithin : Int32} {x_code : Int32} {x_input : Nat → Int32} {x_length : Int32} {x_fault : Int32} {x_failed : Int32} {x_signs : Nat → Int32} {x_signMany : Int32} {x_at : Int32} {x_told : Nat → Int32} {x_toldMany : Int32} {res : (Nat → Int32) × Int32 × Int32} {H : Heap} {locs : List Loc} {ls : Array Slot} 
    (E : En cX13_keeps RX13 wsX13_keeps 3 none p s m args meth c) (hK : KK g s) (hA : ∀ q, s.heap.size ≤ q → A q) (h : f_X13_keeps__before x_kept x_before x_changes x_isWithin x_code = some res) (hW : Wo g A s H locs (w_X13 g h0 h1 h2 h3 h4 h5 h6 h7 h8 h9 h10 h11 h12 h13 x_g x_kept x_saved x_before x_was x_region x_parts x_next x_ways x_more x_whole x_isSaved x_changes x_isWithin x_code x_input x_length x_fault x_failed x_signs x_signMany x_at x_told x_toldMany)) (hl : lv_has ls 3 [(0, .ref h0), (1, .ref h4)]) : G_X13_keeps__before p l e s m args below meth c g A h0 h1 h2 h3 h4 h5 h6 h7 h8 h9 h10 h11 h12 h13 x_g x_saved x_before x_was x_region x_parts x_next x_ways x_more x_whole x_isSaved x_isWithin x_input x_length x_fault x_failed x_signs x_signMany x_at x_told x_toldMany res H locs 0 ls [] := by
  have hts := E.2.2.2.1
  unfold f_X13_keeps__before at h
  refine lv_aload_n E.1 E.2.1 dX13_keeps_0 rfl (lv_at hl 0 rfl) ?_
  refine lv_iconst (v := 0) E.1 E.2.1 dX13_keeps_1 (by decide) ?_
  refine wPut (world' := (w_X13 g h0 h1 h2 h3 h4 h5 h6 h7 h8 h9 h10 h11 h12 h13 x_g x_kept x_saved x_before x_was x_region x_parts x_next x_ways x_more x_whole x_isSaved x_changes x_isWithin 0 x_input x_length x_fault x_failed x_signs x_signMany x_at x_told x_toldMany)) E hK in_X13_keeps__before_X13 tyX13 tyX13_ok nmX13 hW 14 lk_X13_keeps__before_58 0 rfl rfl (by decide) rfl rfl rfl rfl rfl (Nat.le_of_ble_eq_true rfl) dX13_keeps_2 rfl (fun H locs hW => ?_)
  refine lv_aload_n E.1 E.2.1 dX13_keeps_5 rfl (lv_at hl 0 rfl) ?_
  refine wGet (v := .int x_isWithin) E hK in_X13_keeps__before_X13 hW 13 lk_X13_keeps__before_61 0 rfl rfl (by decide) rfl rfl dX13_keeps_6 ?_
  refine lv_if_eq (tgt := 13) E.1 E.2.1 dX13_keeps_9 (by decide) (fun c9 => ?_) (fun c9 => ?_)
  · have h := it c9 h
    obtain ⟨j62, hj62, h⟩ := jox2 h
    have J62 : ∀ (x_kept_62 : Nat → Int32) (x_changes_62 : Int32) (H : Heap) (locs : List Loc) (ls : Array Slot), j62 x_kept_62 x_changes_62 = some res → Wo g A s H locs (w_X13 g h0 h1 h2 h3 h4 h5 h6 h7 h8 h9 h10 h11 h12 h13 x_g x_kept_62 x_saved x_before x_was x_region x_parts x_next x_ways x_more x_whole x_isSaved x_changes_62 x_isWithin 0 x_input x_length x_fault x_failed x_signs x_signMany x_at x_told x_toldMany) → lv_has ls 3 [(0, .ref h0), (1, .ref h4)] → G_X13_keeps__before p l e s m args below meth c g A h0 h1 h2 h3 h4 h5 h6 h7 h8 h9 h10 h11 h12 h13 x_g x_saved x_before x_was x_region x_parts x_next x_ways x_more x_whole x_isSaved x_isWithin x_input x_length x_fault x_failed x_signs x_signMany x_at x_told x_toldMany res H locs 62 ls [] := by
      intro x_kept_62 x_changes_62 H locs ls h hW hl
      rw [hj62] at h
      refine lv_aload_n E.1 E.2.1 dX13_keeps_62 rfl (lv_at hl 1 rfl) ?_
      refine lv_iconst (v := 0) E.1 E.2.1 dX13_keeps_63 (by decide) ?_
      refine lv_aload_n E.1 E.2.1 dX13_keeps_64 rfl (lv_at hl 0 rfl) ?_
      refine wGet (v := .ref h2) E hK in_X13_keeps__before_X13 hW 1 lk_X13_keeps__before_13 0 rfl rfl (by decide) rfl rfl dX13_keeps_65 ?_
      refine lv_bipush (v := 60) E.1 E.2.1 dX13_keeps_68 (by decide) ?_
      refine lv_aload_n E.1 E.2.1 dX13_keeps_70 rfl (lv_at hl 0 rfl) ?_
      refine wGet (v := .int x_changes_62) E hK in_X13_keeps__before_X13 hW 12 lk_X13_keeps__before_65 0 rfl rfl (by decide) rfl rfl dX13_keeps_71 ?_
      refine lv_imul E.1 E.2.1 dX13_keeps_74 ?_
      obtain ⟨r75, hc, h⟩ := bx h
      refine goU (world' := (w_X13 g h0 h1 h2 h3 h4 h5 h6 h7 h8 h9 h10 h11 h12 h13 x_g r75 x_saved x_before x_was x_region x_parts x_next x_ways x_more x_whole x_isSaved x_changes_62 x_isWithin 0 x_input x_length x_fault x_failed x_signs x_signMany x_at x_told x_toldMany)) hW hA (is := [4, 2]) rfl (goS (rest := []) E hK hW [4, 2] rfl rfl (c_X13_copies l g h4 h2 60 480 x_before x_kept_62 0 (60 * x_changes_62) (hf := hc) H.size) (va_cwS 4 hts gX13_keeps_X13_copies rfl rfl rfl (by decide +kernel) ⟨Nat.le_of_ble_eq_true rfl, Nat.le_of_ble_eq_true rfl⟩) hl.1 rfl rfl (Nat.le_of_ble_eq_true rfl) dX13_keeps_75 ⟨Nat.zero_le _, Nat.zero_le _⟩) rfl rfl (fun H locs hW => ?_)
      refine lv_aload_n E.1 E.2.1 dX13_keeps_78 rfl (lv_at hl 0 rfl) ?_
      refine lv_dup E.1 E.2.1 dX13_keeps_79 rfl ?_
      refine wGet (v := .int x_changes_62) E hK in_X13_keeps__before_X13 hW 12 lk_X13_keeps__before_65 0 rfl rfl (by decide) rfl rfl dX13_keeps_80 ?_
      refine lv_iconst (v := 1) E.1 E.2.1 dX13_keeps_83 (by decide) ?_
      refine lv_iadd E.1 E.2.1 dX13_keeps_84 ?_
      refine wPut (world' := (w_X13 g h0 h1 h2 h3 h4 h5 h6 h7 h8 h9 h10 h11 h12 h13 x_g r75 x_saved x_before x_was x_region x_parts x_next x_ways x_more x_whole x_isSaved (x_changes_62 + 1) x_isWithin 0 x_input x_length x_fault x_failed x_signs x_signMany x_at x_told x_toldMany)) E hK in_X13_keeps__before_X13 tyX13 tyX13_ok nmX13 hW 12 lk_X13_keeps__before_65 0 rfl rfl (by decide) rfl rfl rfl rfl rfl (Nat.le_of_ble_eq_true rfl) dX13_keeps_85 rfl (fun H locs hW => ?_)
      obtain rfl := Option.some.inj h
      exact endV E hW dX13_keeps_88
    refine lv_aload_n E.1 E.2.1 dX13_keeps_13 rfl (lv_at hl 0 rfl) ?_
    refine wGet (v := .int x_changes) E hK in_X13_keeps__before_X13 hW 12 lk_X13_keeps__before_65 0 rfl rfl (by decide) rfl rfl dX13_keeps_14 ?_
    refine lv_bipush (v := 8) E.1 E.2.1 dX13_keeps_17 (by decide) ?_
    refine lv_icmp_ne (tgt := 62) E.1 E.2.1 dX13_keeps_19 (by decide) (fun c19 => ?_) (fun c19 => ?_)
    · have h := ie c19 h
      exact J62 x_kept x_changes H locs ls h hW (lv_sub hl [0, 1] rfl)
    · have h := it c19 h
      refine lv_iconst (v := 0) E.1 E.2.1 dX13_keeps_22 (by decide) ?_
      refine lv_istore_n (lv' := [(2, .int 0), (0, .ref h0), (1, .ref h4)]) E.1 E.2.1 dX13_keeps_23 rfl hl (by decide) rfl (fun ls hl => ?_)
      refine k_X13_keeps__before_24 E hK hA ?_ 1000 0 x_kept H locs ls h hW (lv_sub hl [1, 2, 0] rfl)
      · intro x_kept_52e H locs ls h hW hl
        refine lv_aload_n E.1 E.2.1 dX13_keeps_52 rfl (lv_at hl 0 rfl) ?_
        refine lv_dup E.1 E.2.1 dX13_keeps_53 rfl ?_
        refine wGet (v := .int x_changes) E hK in_X13_keeps__before_X13 hW 12 lk_X13_keeps__before_65 0 rfl rfl (by decide) rfl rfl dX13_keeps_54 ?_
        refine lv_iconst (v := 1) E.1 E.2.1 dX13_keeps_57 (by decide) ?_
        refine lv_isub E.1 E.2.1 dX13_keeps_58 ?_
        refine wPut (world' := (w_X13 g h0 h1 h2 h3 h4 h5 h6 h7 h8 h9 h10 h11 h12 h13 x_g x_kept_52e x_saved x_before x_was x_region x_parts x_next x_ways x_more x_whole x_isSaved (x_changes - 1) x_isWithin 0 x_input x_length x_fault x_failed x_signs x_signMany x_at x_told x_toldMany)) E hK in_X13_keeps__before_X13 tyX13 tyX13_ok nmX13 hW 12 lk_X13_keeps__before_65 0 rfl rfl (by decide) rfl rfl rfl rfl rfl (Nat.le_of_ble_eq_true rfl) dX13_keeps_59 rfl (fun H locs hW => ?_)
        exact J62 x_kept_52e (x_changes - 1) H locs ls h hW (lv_sub hl [0, 1] rfl)
  · have h := ie c9 h
    obtain rfl := Option.some.inj h
    exact endV E hW dX13_keeps_12
theorem c_X13_keeps__before (l : Launch) (g : GE) (h0 h1 h2 h3 h4 h5 h6 h7 h8 h9 h10 h11 h12 h13 : Nat) (x_g : Nat → Int32) (x_kept : Nat → Int32) (x_saved : Nat → Int32) (x_before : Nat → Int32) (x_was : Nat → Int32) (x_region : Nat → Int32) (x_parts : Nat → Int64) (x_next : Nat → Int64) (x_ways : Nat → Int32) (x_more : Nat → Int32) (x_whole : Int64) (x_isSaved : Int32) (x_changes : Int32) (x_isWithin : Int32) (x_code : Int32) (x_input : Nat → Int32) (x_length : Int32) (x_fault : Int32) (x_failed : Int32) (x_signs : Nat → Int32) (x_signMany : Int32) (x_at : Int32) (x_told : Nat → Int32) (x_toldMany : Int32) {res : (Nat → Int32) × Int32 × Int32} (hf : f_X13_keeps__before x_kept x_before x_changes x_isWithin x_code = some res) : CV l yX13_keeps wsX13_keeps rm_X13_keeps__before g [.ref h0, .ref h4] (w_X13 g h0 h1 h2 h3 h4 h5 h6 h7 h8 h9 h10 h11 h12 h13 x_g x_kept x_saved x_before x_was x_region x_parts x_next x_ways x_more x_whole x_isSaved x_changes x_isWithin x_code x_input x_length x_fault x_failed x_signs x_signMany x_at x_told x_toldMany) (w_X13 g h0 h1 h2 h3 h4 h5 h6 h7 h8 h9 h10 h11 h12 h13 x_g res.1 x_saved x_before x_was x_region x_parts x_next x_ways x_more x_whole x_isSaved res.2.1 x_isWithin res.2.2 x_input x_length x_fault x_failed x_signs x_signMany x_at x_told x_toldMany) :=
  mkV (cc := cX13_keeps) (maxL := 3) (by decide) rfl (Nat.le_of_ble_eq_true rfl) (fun p e s m args below meth c A H locs ls E hK hA hW hl => k_X13_keeps__before_0 E hK hA hf hW hl)

/-! PaperStormModel.isCell(II)Z X13_isCell -/
abbrev rm_X13_isCell : Room := { frames := 1, cells := 0, slots := 0, locals := 22 }
noncomputable def f_X13_isCell (a0 : Int32) (a1 : Int32) : Option (Int32) :=
  jo (fun (s0_23 : Int32) => if ¬ vp_nar .boolean s0_23 = s0_23 then none else some (s0_23)) (fun j23 => jo (j23 0) (fun j22 => (f_X13_in a0 0 4).bind fun r3 => if r3 = 0 then j22 else (f_X13_in a1 0 4).bind fun r12 => if r12 = 0 then j22 else j23 1))
abbrev G_X13_isCell (p : Program) (l : Launch) (e : Env) (s : State) (m : MethodId) (args : Array Value) (below : List Frame) (meth : Method) (c : Code) (g : GE) (A : Nat → Prop) (res : Int32) (H : Heap) (locs : List Loc) (pc : Nat) (ls : Array Slot) (st : List Value) : Prop := W p l e (headSpec wsX13_isCell rm_X13_isCell).room s m args below meth c H locs 0 0 (MQ below (PoI g A ([] : va_W) res) args s 0 0 A) (F0 m pc ls st)
set_option maxHeartbeats 4000000 in
set_option maxRecDepth 100000 in
theorem k_X13_isCell_0 {p : Program} {l : Launch} {e : Env} {s : State} {m : MethodId} {args : Array Value} {below : List Frame} {meth : Method} {c : Code} {g : GE} {A : Nat → Prop} {res : Int32} {H : Heap} {locs : List Loc} {ls : Array Slot} {a0 : Int32} {a1 : Int32}
    (E : En cX13_isCell RX13 wsX13_isCell 2 (some .boolean) p s m args meth c) (hK : KK g s) (hA : ∀ q, s.heap.size ≤ q → A q) (h : f_X13_isCell a0 a1 = some res) (hW : Wo g A s H locs ([] : va_W)) (hl : lv_has ls 2 [(0, .int a0), (1, .int a1)]) : G_X13_isCell p l e s m args below meth c g A res H locs 0 ls [] := by
  have hts := E.2.2.2.1
  unfold f_X13_isCell at h
  obtain ⟨j23, hj23, h⟩ := jox1 h
  have J23 : ∀ (s0_23 : Int32) (H : Heap) (locs : List Loc) (ls : Array Slot), j23 s0_23 = some res → Wo g A s H locs ([] : va_W) → lv_has ls 2 [] → G_X13_isCell p l e s m args below meth c g A res H locs 23 ls [.int s0_23] := by
    intro s0_23 H locs ls h hW hl
    rw [hj23] at h
    obtain ⟨hz, h⟩ := ox h
    obtain rfl := Option.some.inj h
    exact endI E (nar_z (Decidable.not_not.mp hz)) hW dX13_isCell_23
  obtain ⟨j22, hj22, h⟩ := jox0 h
  have J22 : ∀ (H : Heap) (locs : List Loc) (ls : Array Slot), j22 = some res → Wo g A s H locs ([] : va_W) → lv_has ls 2 [] → G_X13_isCell p l e s m args below meth c g A res H locs 22 ls [] := by
    intro H locs ls h hW hl
    rw [hj22] at h
    refine lv_iconst (v := 0) E.1 E.2.1 dX13_isCell_22 (by decide) ?_
    exact J23 0 H locs ls h hW (lv_sub hl [] rfl)
  refine lv_iload_n E.1 E.2.1 dX13_isCell_0 rfl (lv_at hl 0 rfl) ?_
  refine lv_iconst (v := 0) E.1 E.2.1 dX13_isCell_1 (by decide) ?_
  refine lv_iconst (v := 4) E.1 E.2.1 dX13_isCell_2 (by decide) ?_
  obtain ⟨r3, hc, h⟩ := bx h
  refine goI (world' := ([] : va_W)) hW hA (is := []) rfl (goS (rest := []) E hK hW [] rfl rfl (c_X13_in l g a0 0 4 (hf := hc) H.size) (va_cwS 3 hts gX13_isCell_X13_in rfl rfl rfl (by decide +kernel) ⟨Nat.le_of_ble_eq_true rfl, Nat.le_of_ble_eq_true rfl⟩) hl.1 rfl rfl (Nat.le_of_ble_eq_true rfl) dX13_isCell_3 ⟨Nat.zero_le _, Nat.zero_le _⟩) rfl rfl (fun H locs hW => ?_)
  refine lv_if_eq (tgt := 22) E.1 E.2.1 dX13_isCell_6 (by decide) (fun c6 => ?_) (fun c6 => ?_)
  · have h := it c6 h
    exact J22  H locs ls h hW (lv_sub hl [] rfl)
  · have h := ie c6 h
    refine lv_iload_n E.1 E.2.1 dX13_isCell_9 rfl (lv_at hl 1 rfl) ?_
    refine lv_iconst (v := 0) E.1 E.2.1 dX13_isCell_10 (by decide) ?_
    refine lv_iconst (v := 4) E.1 E.2.1 dX13_isCell_11 (by decide) ?_
    obtain ⟨r12, hc, h⟩ := bx h
    refine goI (world' := ([] : va_W)) hW hA (is := []) rfl (goS (rest := []) E hK hW [] rfl rfl (c_X13_in l g a1 0 4 (hf := hc) H.size) (va_cwS 3 hts gX13_isCell_X13_in rfl rfl rfl (by decide +kernel) ⟨Nat.le_of_ble_eq_true rfl, Nat.le_of_ble_eq_true rfl⟩) hl.1 rfl rfl (Nat.le_of_ble_eq_true rfl) dX13_isCell_12 ⟨Nat.zero_le _, Nat.zero_le _⟩) rfl rfl (fun H locs hW => ?_)
    refine lv_if_eq (tgt := 22) E.1 E.2.1 dX13_isCell_15 (by decide) (fun c15 => ?_) (fun c15 => ?_)
    · have h := it c15 h
      exact J22  H locs ls h hW (lv_sub hl [] rfl)
    · have h := ie c15 h
      refine lv_iconst (v := 1) E.1 E.2.1 dX13_isCell_18 (by decide) ?_
      refine lv_goto (tgt := 23) E.1 E.2.1 dX13_isCell_19 (by decide) ?_
      exact J23 1 H locs ls h hW (lv_sub hl [] rfl)
theorem c_X13_isCell (l : Launch) (g : GE) (a0 : Int32) (a1 : Int32) {res : Int32} (hf : f_X13_isCell a0 a1 = some res) : CI l yX13_isCell wsX13_isCell rm_X13_isCell g [.int a0, .int a1] ([] : va_W) ([] : va_W) res :=
  mkI (cc := cX13_isCell) (maxL := 2) (by decide) rfl (Nat.le_of_ble_eq_true rfl) (fun p e s m args below meth c A H locs ls E hK hA hW hl => k_X13_isCell_0 E hK hA hf hW hl)

/-! PaperStormModel.setPressure(III)I X13_setPressure -/
abbrev rm_X13_setPressure : Room := { frames := 2, cells := 0, slots := 0, locals := 46 }
theorem in_X13_setPressure_X13 : ∀ w ∈ wsX130, w ∈ wsX13_setPressure := by decide +kernel
theorem lk_X13_setPressure_7 : Cond.fieldLink RX13 7 "PaperStormModel" "g" "[I" ∈ wsX13_setPressure := by decide +kernel
noncomputable def f_X13_setPressure (x_g : Nat → Int32) (x_kept : Nat → Int32) (x_changes : Int32) (x_isWithin : Int32) (x_code : Int32) (a1 : Int32) (a2 : Int32) (a3 : Int32) : Option (Int32 × (Nat → Int32) × (Nat → Int32) × Int32 × Int32) :=
  jo (fun (s1_28 : Int32) => (f_X13_fails x_code s1_28).bind fun r28 => if r28.1 = 0 then if ((7 + (5 * a1)) + a2) < 0 ∨ 60 ≤ ((7 + (5 * a1)) + a2).toNatClampNeg then none else (f_X13_keeps__g x_g x_kept x_changes x_isWithin r28.2).bind fun r60 => some ((x_g ((7 + (5 * a1)) + a2).toNatClampNeg), (upd x_g ((7 + (5 * a1)) + a2).toNatClampNeg a3), r60.1, r60.2.1, r60.2.2) else some (0, x_g, x_kept, x_changes, r28.2)) (fun j28 => (f_X13_isCell a1 a2).bind fun r3 => if r3 = 0 then j28 1 else (f_X13_in a3 0 99).bind fun r17 => if r17 = 0 then j28 2 else j28 0)
abbrev G_X13_setPressure (p : Program) (l : Launch) (e : Env) (s : State) (m : MethodId) (args : Array Value) (below : List Frame) (meth : Method) (c : Code) (g : GE) (A : Nat → Prop) (h0 h1 h2 h3 h4 h5 h6 h7 h8 h9 h10 h11 h12 h13 : Nat) (x_saved : Nat → Int32) (x_before : Nat → Int32) (x_was : Nat → Int32) (x_region : Nat → Int32) (x_parts : Nat → Int64) (x_next : Nat → Int64) (x_ways : Nat → Int32) (x_more : Nat → Int32) (x_whole : Int64) (x_isSaved : Int32) (x_isWithin : Int32) (x_input : Nat → Int32) (x_length : Int32) (x_fault : Int32) (x_failed : Int32) (x_signs : Nat → Int32) (x_signMany : Int32) (x_at : Int32) (x_told : Nat → Int32) (x_toldMany : Int32) (res : Int32 × (Nat → Int32) × (Nat → Int32) × Int32 × Int32) (H : Heap) (locs : List Loc) (pc : Nat) (ls : Array Slot) (st : List Value) : Prop := W p l e (headSpec wsX13_setPressure rm_X13_setPressure).room s m args below meth c H locs 0 0 (MQ below (PoI g A (w_X13 g h0 h1 h2 h3 h4 h5 h6 h7 h8 h9 h10 h11 h12 h13 res.2.1 res.2.2.1 x_saved x_before x_was x_region x_parts x_next x_ways x_more x_whole x_isSaved res.2.2.2.1 x_isWithin res.2.2.2.2 x_input x_length x_fault x_failed x_signs x_signMany x_at x_told x_toldMany) res.1) args s 0 0 A) (F0 m pc ls st)
set_option maxHeartbeats 4000000 in
set_option maxRecDepth 100000 in
theorem k_X13_setPressure_0 {p : Program} {l : Launch} {e : Env} {s : State} {m : MethodId} {args : Array Value} {below : List Frame} {meth : Method} {c : Code} {g : GE} {A : Nat → Prop} {h0 h1 h2 h3 h4 h5 h6 h7 h8 h9 h10 h11 h12 h13 : Nat} {x_g : Nat → Int32} {x_kept : Nat → Int32} {x_saved : Nat → Int32} {x_before : Nat → Int32} {x_was : Nat → Int32} {x_region : Nat → Int32} {x_parts : Nat → Int64} {x_next : Nat → Int64} {x_ways : Nat → Int32} {x_more : Nat → Int32} {x_whole : Int64} {x_isSaved : Int32} {x_changes : Int32} {x_isWithin : Int32} {x_code : Int32} {x_input : Nat → Int32} {x_length : Int32} {x_fault : Int32} {x_failed : Int32} {x_signs : Nat → Int32} {x_signMany : Int32} {x_at : Int32} {x_told : Nat → Int32} {x_toldMany : Int32} {res : Int32 × (Nat → Int32) × (Nat → Int32) × Int32 × Int32} {H : Heap} {locs : List Loc} {ls : Array Slot} {a1 : Int32} {a2 : Int32} {a3 : Int32}
    (E : En cX13_setPressure RX13 wsX13_setPressure 6 (some .int) p s m args meth c) (hK : KK g s) (hA : ∀ q, s.heap.size ≤ q → A q) (h : f_X13_setPressure x_g x_kept x_changes x_isWithin x_code a1 a2 a3 = some res) (hW : Wo g A s H locs (w_X13 g h0 h1 h2 h3 h4 h5 h6 h7 h8 h9 h10 h11 h12 h13 x_g x_kept x_saved x_before x_was x_region x_parts x_next x_ways x_more x_whole x_isSaved x_changes x_isWithin x_code x_input x_length x_fault x_failed x_signs x_signMany x_at x_told x_toldMany)) (hl : lv_has ls 6 [(0, .ref h0), (1, .int a1), (2, .int a2), (3, .int a3)]) : G_X13_setPressure p l e s m args below meth c g A h0 h1 h2 h3 h4 h5 h6 h7 h8 h9 h10 h11 h12 h13 x_saved x_before x_was x_region x_parts x_next x_ways x_more x_whole x_isSaved x_isWithin x_input x_length x_fault x_failed x_signs x_signMany x_at x_told x_toldMany res H locs 0 ls [] := by
  have hts := E.2.2.2.1
  unfold f_X13_setPressure at h
  obtain ⟨j28, hj28, h⟩ := jox1 h
  have J28 : ∀ (s1_28 : Int32) (H : Heap) (locs : List Loc) (ls : Array Slot), j28 s1_28 = some res → Wo g A s H locs (w_X13 g h0 h1 h2 h3 h4 h5 h6 h7 h8 h9 h10 h11 h12 h13 x_g x_kept x_saved x_before x_was x_region x_parts x_next x_ways x_more x_whole x_isSaved x_changes x_isWithin x_code x_input x_length x_fault x_failed x_signs x_signMany x_at x_told x_toldMany) → lv_has ls 6 [(0, .ref h0), (1, .int a1), (2, .int a2), (3, .int a3)] → G_X13_setPressure p l e s m args below meth c g A h0 h1 h2 h3 h4 h5 h6 h7 h8 h9 h10 h11 h12 h13 x_saved x_before x_was x_region x_parts x_next x_ways x_more x_whole x_isSaved x_isWithin x_input x_length x_fault x_failed x_signs x_signMany x_at x_told x_toldMany res H locs 28 ls [.int s1_28, .ref h0] := by
    intro s1_28 H locs ls h hW hl
    rw [hj28] at h
    obtain ⟨r28, hc, h⟩ := bx h
    refine goI (world' := (w_X13 g h0 h1 h2 h3 h4 h5 h6 h7 h8 h9 h10 h11 h12 h13 x_g x_kept x_saved x_before x_was x_region x_parts x_next x_ways x_more x_whole x_isSaved x_changes x_isWithin r28.2 x_input x_length x_fault x_failed x_signs x_signMany x_at x_told x_toldMany)) hW hA (is := [0, 1, 2, 3, 4, 5, 6, 7, 8, 9, 10, 11, 12, 13]) rfl (goV (rest := []) E hK hW [0, 1, 2, 3, 4, 5, 6, 7, 8, 9, 10, 11, 12, 13] rfl rfl (c_X13_fails l g h0 h1 h2 h3 h4 h5 h6 h7 h8 h9 h10 h11 h12 h13 x_g x_kept x_saved x_before x_was x_region x_parts x_next x_ways x_more x_whole x_isSaved x_changes x_isWithin x_code x_input x_length x_fault x_failed x_signs x_signMany x_at x_told x_toldMany s1_28 (hf := hc) H.size) (cwV 1 hts gX13_setPressure_X13_fails rfl rfl rfl (by decide +kernel) ⟨Nat.le_of_ble_eq_true rfl, Nat.le_of_ble_eq_true rfl⟩) 0 rfl rfl rfl hl.1 rfl rfl (Nat.le_of_ble_eq_true rfl) dX13_setPressure_28 ⟨Nat.zero_le _, Nat.zero_le _⟩) rfl rfl (fun H locs hW => ?_)
    refine lv_if_eq (tgt := 36) E.1 E.2.1 dX13_setPressure_31 (by decide) (fun c31 => ?_) (fun c31 => ?_)
    · have h := it c31 h
      refine lv_bipush (v := 7) E.1 E.2.1 dX13_setPressure_36 (by decide) ?_
      refine lv_iconst (v := 5) E.1 E.2.1 dX13_setPressure_38 (by decide) ?_
      refine lv_iload_n E.1 E.2.1 dX13_setPressure_39 rfl (lv_at hl 1 rfl) ?_
      refine lv_imul E.1 E.2.1 dX13_setPressure_40 ?_
      refine lv_iadd E.1 E.2.1 dX13_setPressure_41 ?_
      refine lv_iload_n E.1 E.2.1 dX13_setPressure_42 rfl (lv_at hl 2 rfl) ?_
      refine lv_iadd E.1 E.2.1 dX13_setPressure_43 ?_
      refine lv_istore (lv' := [(4, .int ((7 + (5 * a1)) + a2)), (0, .ref h0), (1, .int a1), (2, .int a2), (3, .int a3)]) E.1 E.2.1 dX13_setPressure_44 hl (by decide) rfl (fun ls hl => ?_)
      refine lv_aload_n E.1 E.2.1 dX13_setPressure_46 rfl (lv_at hl 1 rfl) ?_
      refine wGet (v := .ref h1) E hK in_X13_setPressure_X13 hW 0 lk_X13_setPressure_7 0 rfl rfl (by decide) rfl rfl dX13_setPressure_47 ?_
      refine lv_iload E.1 E.2.1 dX13_setPressure_50 (lv_at hl 0 rfl) ?_
      obtain ⟨hi52, h⟩ := ox h
      refine wIald E hK hW 1 rfl hi52 dX13_setPressure_52 ?_
      refine lv_istore (lv' := [(5, .int (x_g ((7 + (5 * a1)) + a2).toNatClampNeg)), (4, .int ((7 + (5 * a1)) + a2)), (0, .ref h0), (1, .int a1), (2, .int a2), (3, .int a3)]) E.1 E.2.1 dX13_setPressure_53 hl (by decide) rfl (fun ls hl => ?_)
      refine lv_aload_n E.1 E.2.1 dX13_setPressure_55 rfl (lv_at hl 2 rfl) ?_
      refine lv_aload_n E.1 E.2.1 dX13_setPressure_56 rfl (lv_at hl 2 rfl) ?_
      refine wGet (v := .ref h1) E hK in_X13_setPressure_X13 hW 0 lk_X13_setPressure_7 0 rfl rfl (by decide) rfl rfl dX13_setPressure_57 ?_
      obtain ⟨r60, hc, h⟩ := bx h
      refine goU (world' := (w_X13 g h0 h1 h2 h3 h4 h5 h6 h7 h8 h9 h10 h11 h12 h13 x_g r60.1 x_saved x_before x_was x_region x_parts x_next x_ways x_more x_whole x_isSaved r60.2.1 x_isWithin r60.2.2 x_input x_length x_fault x_failed x_signs x_signMany x_at x_told x_toldMany)) hW hA (is := [0, 1, 2, 3, 4, 5, 6, 7, 8, 9, 10, 11, 12, 13]) rfl (goV (rest := []) E hK hW [0, 1, 2, 3, 4, 5, 6, 7, 8, 9, 10, 11, 12, 13] rfl rfl (c_X13_keeps__g l g h0 h1 h2 h3 h4 h5 h6 h7 h8 h9 h10 h11 h12 h13 x_g x_kept x_saved x_before x_was x_region x_parts x_next x_ways x_more x_whole x_isSaved x_changes x_isWithin r28.2 x_input x_length x_fault x_failed x_signs x_signMany x_at x_told x_toldMany (hf := hc) H.size) (cwV 1 hts gX13_setPressure_X13_keeps rfl rfl rfl (by decide +kernel) ⟨Nat.le_of_ble_eq_true rfl, Nat.le_of_ble_eq_true rfl⟩) 0 rfl rfl rfl hl.1 rfl rfl (Nat.le_of_ble_eq_true rfl) dX13_setPressure_60 ⟨Nat.zero_le _, Nat.zero_le _⟩) rfl rfl (fun H locs hW => ?_)
      refine lv_aload_n E.1 E.2.1 dX13_setPressure_63 rfl (lv_at hl 2 rfl) ?_
      refine wGet (v := .ref h1) E hK in_X13_setPressure_X13 hW 0 lk_X13_setPressure_7 0 rfl rfl (by decide) rfl rfl dX13_setPressure_64 ?_
      refine lv_iload E.1 E.2.1 dX13_setPressure_67 (lv_at hl 1 rfl) ?_
      refine lv_iload_n E.1 E.2.1 dX13_setPressure_69 rfl (lv_at hl 5 rfl) ?_
      refine wIast (world' := (w_X13 g h0 h1 h2 h3 h4 h5 h6 h7 h8 h9 h10 h11 h12 h13 (upd x_g ((7 + (5 * a1)) + a2).toNatClampNeg a3) r60.1 x_saved x_before x_was x_region x_parts x_next x_ways x_more x_whole x_isSaved r60.2.1 x_isWithin r60.2.2 x_input x_length x_fault x_failed x_signs x_signMany x_at x_told x_toldMany)) E hK hW 1 rfl hi52 dX13_setPressure_70 rfl (fun H locs hW => ?_)
      refine lv_iload E.1 E.2.1 dX13_setPressure_71 (lv_at hl 0 rfl) ?_
      obtain rfl := Option.some.inj h
      exact endI E rfl hW dX13_setPressure_73
    · have h := ie c31 h
      refine lv_iconst (v := 0) E.1 E.2.1 dX13_setPressure_34 (by decide) ?_
      obtain rfl := Option.some.inj h
      exact endI E rfl hW dX13_setPressure_35
  refine lv_aload_n E.1 E.2.1 dX13_setPressure_0 rfl (lv_at hl 0 rfl) ?_
  refine lv_iload_n E.1 E.2.1 dX13_setPressure_1 rfl (lv_at hl 1 rfl) ?_
  refine lv_iload_n E.1 E.2.1 dX13_setPressure_2 rfl (lv_at hl 2 rfl) ?_
  obtain ⟨r3, hc, h⟩ := bx h
  refine goI (world' := (w_X13 g h0 h1 h2 h3 h4 h5 h6 h7 h8 h9 h10 h11 h12 h13 x_g x_kept x_saved x_before x_was x_region x_parts x_next x_ways x_more x_whole x_isSaved x_changes x_isWithin x_code x_input x_length x_fault x_failed x_signs x_signMany x_at x_told x_toldMany)) hW hA (is := []) rfl (goS (rest := [.ref h0]) E hK hW [] rfl rfl (c_X13_isCell l g a1 a2 (hf := hc) H.size) (va_cwS 2 hts gX13_setPressure_X13_isCell rfl rfl rfl (by decide +kernel) ⟨Nat.le_of_ble_eq_true rfl, Nat.le_of_ble_eq_true rfl⟩) hl.1 rfl rfl (Nat.le_of_ble_eq_true rfl) dX13_setPressure_3 ⟨Nat.zero_le _, Nat.zero_le _⟩) rfl rfl (fun H locs hW => ?_)
  refine lv_if_ne (tgt := 13) E.1 E.2.1 dX13_setPressure_6 (by decide) (fun c6 => ?_) (fun c6 => ?_)
  · have h := ie c6 h
    refine lv_iload_n E.1 E.2.1 dX13_setPressure_13 rfl (lv_at hl 3 rfl) ?_
    refine lv_iconst (v := 0) E.1 E.2.1 dX13_setPressure_14 (by decide) ?_
    refine lv_bipush (v := 99) E.1 E.2.1 dX13_setPressure_15 (by decide) ?_
    obtain ⟨r17, hc, h⟩ := bx h
    refine goI (world' := (w_X13 g h0 h1 h2 h3 h4 h5 h6 h7 h8 h9 h10 h11 h12 h13 x_g x_kept x_saved x_before x_was x_region x_parts x_next x_ways x_more x_whole x_isSaved x_changes x_isWithin x_code x_input x_length x_fault x_failed x_signs x_signMany x_at x_told x_toldMany)) hW hA (is := []) rfl (goS (rest := [.ref h0]) E hK hW [] rfl rfl (c_X13_in l g a3 0 99 (hf := hc) H.size) (va_cwS 3 hts gX13_setPressure_X13_in rfl rfl rfl (by decide +kernel) ⟨Nat.le_of_ble_eq_true rfl, Nat.le_of_ble_eq_true rfl⟩) hl.1 rfl rfl (Nat.le_of_ble_eq_true rfl) dX13_setPressure_17 ⟨Nat.zero_le _, Nat.zero_le _⟩) rfl rfl (fun H locs hW => ?_)
    refine lv_if_eq (tgt := 27) E.1 E.2.1 dX13_setPressure_20 (by decide) (fun c20 => ?_) (fun c20 => ?_)
    · have h := it c20 h
      refine lv_iconst (v := 2) E.1 E.2.1 dX13_setPressure_27 (by decide) ?_
      exact J28 2 H locs ls h hW (lv_sub hl [0, 1, 2, 3] rfl)
    · have h := ie c20 h
      refine lv_iconst (v := 0) E.1 E.2.1 dX13_setPressure_23 (by decide) ?_
      refine lv_goto (tgt := 28) E.1 E.2.1 dX13_setPressure_24 (by decide) ?_
      exact J28 0 H locs ls h hW (lv_sub hl [0, 1, 2, 3] rfl)
  · have h := it c6 h
    refine lv_iconst (v := 1) E.1 E.2.1 dX13_setPressure_9 (by decide) ?_
    refine lv_goto (tgt := 28) E.1 E.2.1 dX13_setPressure_10 (by decide) ?_
    exact J28 1 H locs ls h hW (lv_sub hl [0, 1, 2, 3] rfl)
theorem c_X13_setPressure (l : Launch) (g : GE) (h0 h1 h2 h3 h4 h5 h6 h7 h8 h9 h10 h11 h12 h13 : Nat) (x_g : Nat → Int32) (x_kept : Nat → Int32) (x_saved : Nat → Int32) (x_before : Nat → Int32) (x_was : Nat → Int32) (x_region : Nat → Int32) (x_parts : Nat → Int64) (x_next : Nat → Int64) (x_ways : Nat → Int32) (x_more : Nat → Int32) (x_whole : Int64) (x_isSaved : Int32) (x_changes : Int32) (x_isWithin : Int32) (x_code : Int32) (x_input : Nat → Int32) (x_length : Int32) (x_fault : Int32) (x_failed : Int32) (x_signs : Nat → Int32) (x_signMany : Int32) (x_at : Int32) (x_told : Nat → Int32) (x_toldMany : Int32) (a1 : Int32) (a2 : Int32) (a3 : Int32) {res : Int32 × (Nat → Int32) × (Nat → Int32) × Int32 × Int32} (hf : f_X13_setPressure x_g x_kept x_changes x_isWithin x_code a1 a2 a3 = some res) : CI l yX13_setPressure wsX13_setPressure rm_X13_setPressure g [.ref h0, .int a1, .int a2, .int a3] (w_X13 g h0 h1 h2 h3 h4 h5 h6 h7 h8 h9 h10 h11 h12 h13 x_g x_kept x_saved x_before x_was x_region x_parts x_next x_ways x_more x_whole x_isSaved x_changes x_isWithin x_code x_input x_length x_fault x_failed x_signs x_signMany x_at x_told x_toldMany) (w_X13 g h0 h1 h2 h3 h4 h5 h6 h7 h8 h9 h10 h11 h12 h13 res.2.1 res.2.2.1 x_saved x_before x_was x_region x_parts x_next x_ways x_more x_whole x_isSaved res.2.2.2.1 x_isWithin res.2.2.2.2 x_input x_length x_fault x_failed x_signs x_signMany x_at x_told x_toldMany) res.1 :=
  mkI (cc := cX13_setPressure) (maxL := 6) (by decide) rfl (Nat.le_of_ble_eq_true rfl) (fun p e s m args below meth c A H locs ls E hK hA hW hl => k_X13_setPressure_0 E hK hA hf hW hl)

/-! PaperStormModel.pressureAt(II)I X13_pressureAt -/
abbrev rm_X13_pressureAt : Room := { frames := 2, cells := 0, slots := 0, locals := 43 }
theorem in_X13_pressureAt_X13 : ∀ w ∈ wsX130, w ∈ wsX13_pressureAt := by decide +kernel
theorem lk_X13_pressureAt_7 : Cond.fieldLink RX13 7 "PaperStormModel" "g" "[I" ∈ wsX13_pressureAt := by decide +kernel
noncomputable def f_X13_pressureAt (x_g : Nat → Int32) (x_code : Int32) (a1 : Int32) (a2 : Int32) : Option (Int32 × Int32) :=
  jo (fun (s1_14 : Int32) => jo (fun (x_code_37 : Int32) (s0_37 : Int32) => some (s0_37, x_code_37)) (fun j37 => (f_X13_fails x_code s1_14).bind fun r14 => if r14.1 = 0 then if ((7 + (5 * a1)) + a2) < 0 ∨ 60 ≤ ((7 + (5 * a1)) + a2).toNatClampNeg then none else j37 r14.2 (x_g ((7 + (5 * a1)) + a2).toNatClampNeg) else j37 r14.2 0)) (fun j14 => (f_X13_isCell a1 a2).bind fun r3 => if r3 = 0 then j14 1 else j14 0)
abbrev G_X13_pressureAt (p : Program) (l : Launch) (e : Env) (s : State) (m : MethodId) (args : Array Value) (below : List Frame) (meth : Method) (c : Code) (g : GE) (A : Nat → Prop) (h0 h1 h2 h3 h4 h5 h6 h7 h8 h9 h10 h11 h12 h13 : Nat) (x_g : Nat → Int32) (x_kept : Nat → Int32) (x_saved : Nat → Int32) (x_before : Nat → Int32) (x_was : Nat → Int32) (x_region : Nat → Int32) (x_parts : Nat → Int64) (x_next : Nat → Int64) (x_ways : Nat → Int32) (x_more : Nat → Int32) (x_whole : Int64) (x_isSaved : Int32) (x_changes : Int32) (x_isWithin : Int32) (x_input : Nat → Int32) (x_length : Int32) (x_fault : Int32) (x_failed : Int32) (x_signs : Nat → Int32) (x_signMany : Int32) (x_at : Int32) (x_told : Nat → Int32) (x_toldMany : Int32) (res : Int32 × Int32) (H : Heap) (locs : List Loc) (pc : Nat) (ls : Array Slot) (st : List Value) : Prop := W p l e (headSpec wsX13_pressureAt rm_X13_pressureAt).room s m args below meth c H locs 0 0 (MQ below (PoI g A (w_X13 g h0 h1 h2 h3 h4 h5 h6 h7 h8 h9 h10 h11 h12 h13 x_g x_kept x_saved x_before x_was x_region x_parts x_next x_ways x_more x_whole x_isSaved x_changes x_isWithin res.2 x_input x_length x_fault x_failed x_signs x_signMany x_at x_told x_toldMany) res.1) args s 0 0 A) (F0 m pc ls st)
set_option maxHeartbeats 4000000 in
set_option maxRecDepth 100000 in
theorem k_X13_pressureAt_0 {p : Program} {l : Launch} {e : Env} {s : State} {m : MethodId} {args : Array Value} {below : List Frame} {meth : Method} {c : Code} {g : GE} {A : Nat → Prop} {h0 h1 h2 h3 h4 h5 h6 h7 h8 h9 h10 h11 h12 h13 : Nat} {x_g : Nat → Int32} {x_kept : Nat → Int32} {x_saved : Nat → Int32} {x_before : Nat → Int32} {x_was : Nat → Int32} {x_region : Nat → Int32} {x_parts : Nat → Int64} {x_next : Nat → Int64} {x_ways : Nat → Int32} {x_more : Nat → Int32} {x_whole : Int64} {x_isSaved : Int32} {x_changes : Int32} {x_isWithin : Int32} {x_code : Int32} {x_input : Nat → Int32} {x_length : Int32} {x_fault : Int32} {x_failed : Int32} {x_signs : Nat → Int32} {x_signMany : Int32} {x_at : Int32} {x_told : Nat → Int32} {x_toldMany : Int32} {res : Int32 × Int32} {H : Heap} {locs : List Loc} {ls : Array Slot} {a1 : Int32} {a2 : Int32}
    (E : En cX13_pressureAt RX13 wsX13_pressureAt 3 (some .int) p s m args meth c) (hK : KK g s) (hA : ∀ q, s.heap.size ≤ q → A q) (h : f_X13_pressureAt x_g x_code a1 a2 = some res) (hW : Wo g A s H locs (w_X13 g h0 h1 h2 h3 h4 h5 h6 h7 h8 h9 h10 h11 h12 h13 x_g x_kept x_saved x_before x_was x_region x_parts x_next x_ways x_more x_whole x_isSaved x_changes x_isWithin x_code x_input x_length x_fault x_failed x_signs x_signMany x_at x_told x_toldMany)) (hl : lv_has ls 3 [(0, .ref h0), (1, .int a1), (2, .int a2)]) : G_X13_pressureAt p l e s m args below meth c g A h0 h1 h2 h3 h4 h5 h6 h7 h8 h9 h10 h11 h12 h13 x_g x_kept x_saved x_before x_was x_region x_parts x_next x_ways x_more x_whole x_isSaved x_changes x_isWithin x_input x_length x_fault x_failed x_signs x_signMany x_at x_told x_toldMany res H locs 0 ls [] := by
  have hts := E.2.2.2.1
  unfold f_X13_pressureAt at h
  obtain ⟨j14, hj14, h⟩ := jox1 h
  have J14 : ∀ (s1_14 : Int32) (H : Heap) (locs : List Loc) (ls : Array Slot), j14 s1_14 = some res → Wo g A s H locs (w_X13 g h0 h1 h2 h3 h4 h5 h6 h7 h8 h9 h10 h11 h12 h13 x_g x_kept x_saved x_before x_was x_region x_parts x_next x_ways x_more x_whole x_isSaved x_changes x_isWithin x_code x_input x_length x_fault x_failed x_signs x_signMany x_at x_told x_toldMany) → lv_has ls 3 [(0, .ref h0), (1, .int a1), (2, .int a2)] → G_X13_pressureAt p l e s m args below meth c g A h0 h1 h2 h3 h4 h5 h6 h7 h8 h9 h10 h11 h12 h13 x_g x_kept x_saved x_before x_was x_region x_parts x_next x_ways x_more x_whole x_isSaved x_changes x_isWithin x_input x_length x_fault x_failed x_signs x_signMany x_at x_told x_toldMany res H locs 14 ls [.int s1_14, .ref h0] := by
    intro s1_14 H locs ls h hW hl
    rw [hj14] at h
    obtain ⟨j37, hj37, h⟩ := jox2 h
    have J37 : ∀ (x_code_37 : Int32) (s0_37 : Int32) (H : Heap) (locs : List Loc) (ls : Array Slot), j37 x_code_37 s0_37 = some res → Wo g A s H locs (w_X13 g h0 h1 h2 h3 h4 h5 h6 h7 h8 h9 h10 h11 h12 h13 x_g x_kept x_saved x_before x_was x_region x_parts x_next x_ways x_more x_whole x_isSaved x_changes x_isWithin x_code_37 x_input x_length x_fault x_failed x_signs x_signMany x_at x_told x_toldMany) → lv_has ls 3 [] → G_X13_pressureAt p l e s m args below meth c g A h0 h1 h2 h3 h4 h5 h6 h7 h8 h9 h10 h11 h12 h13 x_g x_kept x_saved x_before x_was x_region x_parts x_next x_ways x_more x_whole x_isSaved x_changes x_isWithin x_input x_length x_fault x_failed x_signs x_signMany x_at x_told x_toldMany res H locs 37 ls [.int s0_37] := by
      intro x_code_37 s0_37 H locs ls h hW hl
      rw [hj37] at h
      obtain rfl := Option.some.inj h
      exact endI E rfl hW dX13_pressureAt_37
    obtain ⟨r14, hc, h⟩ := bx h
    refine goI (world' := (w_X13 g h0 h1 h2 h3 h4 h5 h6 h7 h8 h9 h10 h11 h12 h13 x_g x_kept x_saved x_before x_was x_region x_parts x_next x_ways x_more x_whole x_isSaved x_changes x_isWithin r14.2 x_input x_length x_fault x_failed x_signs x_signMany x_at x_told x_toldMany)) hW hA (is := [0, 1, 2, 3, 4, 5, 6, 7, 8, 9, 10, 11, 12, 13]) rfl (goV (rest := []) E hK hW [0, 1, 2, 3, 4, 5, 6, 7, 8, 9, 10, 11, 12, 13] rfl rfl (c_X13_fails l g h0 h1 h2 h3 h4 h5 h6 h7 h8 h9 h10 h11 h12 h13 x_g x_kept x_saved x_before x_was x_region x_parts x_next x_ways x_more x_whole x_isSaved x_changes x_isWithin x_code x_input x_length x_fault x_failed x_signs x_signMany x_at x_told x_toldMany s1_14 (hf := hc) H.size) (cwV 1 hts gX13_pressureAt_X13_fails rfl rfl rfl (by decide +kernel) ⟨Nat.le_of_ble_eq_true rfl, Nat.le_of_ble_eq_true rfl⟩) 0 rfl rfl rfl hl.1 rfl rfl (Nat.le_of_ble_eq_true rfl) dX13_pressureAt_14 ⟨Nat.zero_le _, Nat.zero_le _⟩) rfl rfl (fun H locs hW => ?_)
    refine lv_if_eq (tgt := 24) E.1 E.2.1 dX13_pressureAt_17 (by decide) (fun c17 => ?_) (fun c17 => ?_)
    · have h := it c17 h
      refine lv_aload_n E.1 E.2.1 dX13_pressureAt_24 rfl (lv_at hl 0 rfl) ?_
      refine wGet (v := .ref h1) E hK in_X13_pressureAt_X13 hW 0 lk_X13_pressureAt_7 0 rfl rfl (by decide) rfl rfl dX13_pressureAt_25 ?_
      refine lv_bipush (v := 7) E.1 E.2.1 dX13_pressureAt_28 (by decide) ?_
      refine lv_iconst (v := 5) E.1 E.2.1 dX13_pressureAt_30 (by decide) ?_
      refine lv_iload_n E.1 E.2.1 dX13_pressureAt_31 rfl (lv_at hl 1 rfl) ?_
      refine lv_imul E.1 E.2.1 dX13_pressureAt_32 ?_
      refine lv_iadd E.1 E.2.1 dX13_pressureAt_33 ?_
      refine lv_iload_n E.1 E.2.1 dX13_pressureAt_34 rfl (lv_at hl 2 rfl) ?_
      refine lv_iadd E.1 E.2.1 dX13_pressureAt_35 ?_
      obtain ⟨hi36, h⟩ := ox h
      refine wIald E hK hW 1 rfl hi36 dX13_pressureAt_36 ?_
      exact J37 r14.2 (x_g ((7 + (5 * a1)) + a2).toNatClampNeg) H locs ls h hW (lv_sub hl [] rfl)
    · have h := ie c17 h
      refine lv_iconst (v := 0) E.1 E.2.1 dX13_pressureAt_20 (by decide) ?_
      refine lv_goto (tgt := 37) E.1 E.2.1 dX13_pressureAt_21 (by decide) ?_
      exact J37 r14.2 0 H locs ls h hW (lv_sub hl [] rfl)
  refine lv_aload_n E.1 E.2.1 dX13_pressureAt_0 rfl (lv_at hl 0 rfl) ?_
  refine lv_iload_n E.1 E.2.1 dX13_pressureAt_1 rfl (lv_at hl 1 rfl) ?_
  refine lv_iload_n E.1 E.2.1 dX13_pressureAt_2 rfl (lv_at hl 2 rfl) ?_
  obtain ⟨r3, hc, h⟩ := bx h
  refine goI (world' := (w_X13 g h0 h1 h2 h3 h4 h5 h6 h7 h8 h9 h10 h11 h12 h13 x_g x_kept x_saved x_before x_was x_region x_parts x_next x_ways x_more x_whole x_isSaved x_changes x_isWithin x_code x_input x_length x_fault x_failed x_signs x_signMany x_at x_told x_toldMany)) hW hA (is := []) rfl (goS (rest := [.ref h0]) E hK hW [] rfl rfl (c_X13_isCell l g a1 a2 (hf := hc) H.size) (va_cwS 2 hts gX13_pressureAt_X13_isCell rfl rfl rfl (by decide +kernel) ⟨Nat.le_of_ble_eq_true rfl, Nat.le_of_ble_eq_true rfl⟩) hl.1 rfl rfl (Nat.le_of_ble_eq_true rfl) dX13_pressureAt_3 ⟨Nat.zero_le _, Nat.zero_le _⟩) rfl rfl (fun H locs hW => ?_)
  refine lv_if_eq (tgt := 13) E.1 E.2.1 dX13_pressureAt_6 (by decide) (fun c6 => ?_) (fun c6 => ?_)
  · have h := it c6 h
    refine lv_iconst (v := 1) E.1 E.2.1 dX13_pressureAt_13 (by decide) ?_
    exact J14 1 H locs ls h hW (lv_sub hl [0, 1, 2] rfl)
  · have h := ie c6 h
    refine lv_iconst (v := 0) E.1 E.2.1 dX13_pressureAt_9 (by decide) ?_
    refine lv_goto (tgt := 14) E.1 E.2.1 dX13_pressureAt_10 (by decide) ?_
    exact J14 0 H locs ls h hW (lv_sub hl [0, 1, 2] rfl)
theorem c_X13_pressureAt (l : Launch) (g : GE) (h0 h1 h2 h3 h4 h5 h6 h7 h8 h9 h10 h11 h12 h13 : Nat) (x_g : Nat → Int32) (x_kept : Nat → Int32) (x_saved : Nat → Int32) (x_before : Nat → Int32) (x_was : Nat → Int32) (x_region : Nat → Int32) (x_parts : Nat → Int64) (x_next : Nat → Int64) (x_ways : Nat → Int32) (x_more : Nat → Int32) (x_whole : Int64) (x_isSaved : Int32) (x_changes : Int32) (x_isWithin : Int32) (x_code : Int32) (x_input : Nat → Int32) (x_length : Int32) (x_fault : Int32) (x_failed : Int32) (x_signs : Nat → Int32) (x_signMany : Int32) (x_at : Int32) (x_told : Nat → Int32) (x_toldMany : Int32) (a1 : Int32) (a2 : Int32) {res : Int32 × Int32} (hf : f_X13_pressureAt x_g x_code a1 a2 = some res) : CI l yX13_pressureAt wsX13_pressureAt rm_X13_pressureAt g [.ref h0, .int a1, .int a2] (w_X13 g h0 h1 h2 h3 h4 h5 h6 h7 h8 h9 h10 h11 h12 h13 x_g x_kept x_saved x_before x_was x_region x_parts x_next x_ways x_more x_whole x_isSaved x_changes x_isWithin x_code x_input x_length x_fault x_failed x_signs x_signMany x_at x_told x_toldMany) (w_X13 g h0 h1 h2 h3 h4 h5 h6 h7 h8 h9 h10 h11 h12 h13 x_g x_kept x_saved x_before x_was x_region x_parts x_next x_ways x_more x_whole x_isSaved x_changes x_isWithin res.2 x_input x_length x_fault x_failed x_signs x_signMany x_at x_told x_toldMany) res.1 :=
  mkI (cc := cX13_pressureAt) (maxL := 3) (by decide) rfl (Nat.le_of_ble_eq_true rfl) (fun p e s m args below meth c A H locs ls E hK hA hW hl => k_X13_pressureAt_0 E hK hA hf hW hl)

/-! PaperStormModel.totalPressure()I X13_totalPressure -/
abbrev rm_X13_totalPressure : Room := { frames := 0, cells := 0, slots := 0, locals := 0 }
theorem in_X13_totalPressure_X13 : ∀ w ∈ wsX130, w ∈ wsX13_totalPressure := by decide +kernel
theorem lk_X13_totalPressure_58 : Cond.fieldLink RX13 58 "PaperStormModel" "code" "I" ∈ wsX13_totalPressure := by decide +kernel
theorem lk_X13_totalPressure_7 : Cond.fieldLink RX13 7 "PaperStormModel" "g" "[I" ∈ wsX13_totalPressure := by decide +kernel
noncomputable def f_X13_totalPressure_9 (x_g : Nat → Int32) (z33 : Int32 → Option (Int32 × Int32)) : Nat → Int32 → Int32 → Option (Int32 × Int32)
  | 0, _, _ => none
  | n + 1, l1_9, l2_9 => if 25 ≤ l2_9 then z33 l1_9 else if (7 + l2_9) < 0 ∨ 60 ≤ (7 + l2_9).toNatClampNeg then none else f_X13_totalPressure_9 x_g z33 n (l1_9 + (x_g (7 + l2_9).toNatClampNeg)) (l2_9 + 1)
noncomputable def f_X13_totalPressure (x_g : Nat → Int32) (x_code : Int32) : Option (Int32 × Int32) :=
  f_X13_totalPressure_9 x_g (fun l1_33e => some (l1_33e, 0)) 1000 0 0
abbrev G_X13_totalPressure (p : Program) (l : Launch) (e : Env) (s : State) (m : MethodId) (args : Array Value) (below : List Frame) (meth : Method) (c : Code) (g : GE) (A : Nat → Prop) (h0 h1 h2 h3 h4 h5 h6 h7 h8 h9 h10 h11 h12 h13 : Nat) (x_g : Nat → Int32) (x_kept : Nat → Int32) (x_saved : Nat → Int32) (x_before : Nat → Int32) (x_was : Nat → Int32) (x_region : Nat → Int32) (x_parts : Nat → Int64) (x_next : Nat → Int64) (x_ways : Nat → Int32) (x_more : Nat → Int32) (x_whole : Int64) (x_isSaved : Int32) (x_changes : Int32) (x_isWithin : Int32) (x_input : Nat → Int32) (x_length : Int32) (x_fault : Int32) (x_failed : Int32) (x_signs : Nat → Int32) (x_signMany : Int32) (x_at : Int32) (x_told : Nat → Int32) (x_toldMany : Int32) (res : Int32 × Int32) (H : Heap) (locs : List Loc) (pc : Nat) (ls : Array Slot) (st : List Value) : Prop := W p l e (headSpec wsX13_totalPressure rm_X13_totalPressure).room s m args below meth c H locs 0 0 (MQ below (PoI g A (w_X13 g h0 h1 h2 h3 h4 h5 h6 h7 h8 h9 h10 h11 h12 h13 x_g x_kept x_saved x_before x_was x_region x_parts x_next x_ways x_more x_whole x_isSaved x_changes x_isWithin res.2 x_input x_length x_fault x_failed x_signs x_signMany x_at x_told x_toldMany) res.1) args s 0 0 A) (F0 m pc ls st)
set_option maxHeartbeats 4000000 in
set_option maxRecDepth 100000 in
theorem k_X13_totalPressure_9 {p : Program} {l : Launch} {e : Env} {s : State} {m : MethodId} {args : Array Value} {below : List Frame} {meth : Method} {c : Code} {g : GE} {A : Nat → Prop} {h0 h1 h2 h3 h4 h5 h6 h7 h8 h9 h10 h11 h12 h13 : Nat} {x_g : Nat → Int32} {x_kept : Nat → Int32} {x_saved : Nat → Int32} {x_before : Nat → Int32} {x_was : Nat → Int32} {x_region : Nat → Int32} {x_parts : Nat → Int64} {x_next : Nat → Int64} {x_ways : Nat → Int32} {x_more : Nat → Int32} {x_whole : Int64} {x_isSaved : Int32} {x_changes : Int32} {x_isWithin : Int32} {x_code : Int32} {x_input : Nat → Int32} {x_length : Int32} {x_fault : Int32} {x_failed : Int32} {x_signs : Nat → Int32} {x_signMany : Int32} {x_at : Int32} {x_told : Nat → Int32} {x_toldMany : Int32} {res : Int32 × Int32} {z33 : Int32 → Option (Int32 × Int32)}
    (E : En cX13_totalPressure RX13 wsX13_totalPressure 3 (some .int) p s m args meth c) (hK : KK g s) (hA : ∀ q, s.heap.size ≤ q → A q)
    (hz33 : ∀ (l1_33e : Int32) (H : Heap) (locs : List Loc) (ls : Array Slot), z33 l1_33e = some res → Wo g A s H locs (w_X13 g h0 h1 h2 h3 h4 h5 h6 h7 h8 h9 h10 h11 h12 h13 x_g x_kept x_saved x_before x_was x_region x_parts x_next x_ways x_more x_whole x_isSaved x_changes x_isWithin x_code x_input x_length x_fault x_failed x_signs x_signMany x_at x_told x_toldMany) → lv_has ls 3 [(1, .int l1_33e)] → G_X13_totalPressure p l e s m args below meth c g A h0 h1 h2 h3 h4 h5 h6 h7 h8 h9 h10 h11 h12 h13 x_g x_kept x_saved x_before x_was x_region x_parts x_next x_ways x_more x_whole x_isSaved x_changes x_isWithin x_input x_length x_fault x_failed x_signs x_signMany x_at x_told x_toldMany res H locs 33 ls [])
    : ∀ (n : Nat) (l1_9 : Int32) (l2_9 : Int32) (H : Heap) (locs : List Loc) (ls : Array Slot), f_X13_totalPressure_9 x_g z33 n l1_9 l2_9 = some res → Wo g A s H locs (w_X13 g h0 h1 h2 h3 h4 h5 h6 h7 h8 h9 h10 h11 h12 h13 x_g x_kept x_saved x_before x_was x_region x_parts x_next x_ways x_more x_whole x_isSaved x_changes x_isWithin x_code x_input x_length x_fault x_failed x_signs x_signMany x_at x_told x_toldMany) → lv_has ls 3 [(0, .ref h0), (1, .int l1_9), (2, .int l2_9)] → G_X13_totalPressure p l e s m args below meth c g A h0 h1 h2 h3 h4 h5 h6 h7 h8 h9 h10 h11 h12 h13 x_g x_kept x_saved x_before x_was x_region x_parts x_next x_ways x_more x_whole x_isSaved x_changes x_isWithin x_input x_length x_fault x_failed x_signs x_signMany x_at x_told x_toldMany res H locs 9 ls [] := by
  have hts := E.2.2.2.1
  intro n
  induction n with
  | zero => intro l1_9 l2_9 H locs ls h hW hl; rw [f_X13_totalPressure_9] at h; cases h
  | succ n ih =>
    intro l1_9 l2_9 H locs ls h hW hl
    rw [f_X13_totalPressure_9] at h
    refine lv_iload_n E.1 E.2.1 dX13_totalPressure_9 rfl (lv_at hl 2 rfl) ?_
    refine lv_bipush (v := 25) E.1 E.2.1 dX13_totalPressure_10 (by decide) ?_
    refine lv_icmp_ge (tgt := 33) E.1 E.2.1 dX13_totalPressure_12 (by decide) (fun c12 => ?_) (fun c12 => ?_)
    · have h := it c12 h
      exact hz33 l1_9 H locs ls h hW (lv_sub hl [1] rfl)
    · have h := ie c12 h
      refine lv_iload_n E.1 E.2.1 dX13_totalPressure_15 rfl (lv_at hl 1 rfl) ?_
      refine lv_aload_n E.1 E.2.1 dX13_totalPressure_16 rfl (lv_at hl 0 rfl) ?_
      refine wGet (v := .ref h1) E hK in_X13_totalPressure_X13 hW 0 lk_X13_totalPressure_7 0 rfl rfl (by decide) rfl rfl dX13_totalPressure_17 ?_
      refine lv_bipush (v := 7) E.1 E.2.1 dX13_totalPressure_20 (by decide) ?_
      refine lv_iload_n E.1 E.2.1 dX13_totalPressure_22 rfl (lv_at hl 2 rfl) ?_
      refine lv_iadd E.1 E.2.1 dX13_totalPressure_23 ?_
      obtain ⟨hi24, h⟩ := ox h
      refine wIald E hK hW 1 rfl hi24 dX13_totalPressure_24 ?_
      refine lv_iadd E.1 E.2.1 dX13_totalPressure_25 ?_
      refine lv_istore_n (lv' := [(1, .int (l1_9 + (x_g (7 + l2_9).toNatClampNeg))), (0, .ref h0), (2, .int l2_9)]) E.1 E.2.1 dX13_totalPressure_26 rfl hl (by decide) rfl (fun ls hl => ?_)
      refine lv_iinc (v := (l2_9 + 1)) (lv' := [(2, .int (l2_9 + 1)), (1, .int (l1_9 + (x_g (7 + l2_9).toNatClampNeg))), (0, .ref h0)]) E.1 E.2.1 dX13_totalPressure_27 hl (k := 2) rfl rfl (by decide) rfl (fun ls hl => ?_)
      refine lv_goto (tgt := 9) E.1 E.2.1 dX13_totalPressure_30 (by decide) ?_
      exact ih (l1_9 + (x_g (7 + l2_9).toNatClampNeg)) (l2_9 + 1) H locs ls h hW (lv_sub hl [2, 1, 0] rfl)
set_option maxHeartbeats 4000000 in
set_option maxRecDepth 100000 in
theorem k_X13_totalPressure_0 {p : Program} {l : Launch} {e : Env} {s : State} {m : MethodId} {args : Array Value} {below : List Frame} {meth : Method} {c : Code} {g : GE} {A : Nat → Prop} {h0 h1 h2 h3 h4 h5 h6 h7 h8 h9 h10 h11 h12 h13 : Nat} {x_g : Nat → Int32} {x_kept : Nat → Int32} {x_saved : Nat → Int32} {x_before : Nat → Int32} {x_was : Nat → Int32} {x_region : Nat → Int32} {x_parts : Nat → Int64} {x_next : Nat → Int64} {x_ways : Nat → Int32} {x_more : Nat → Int32} {x_whole : Int64} {x_isSaved : Int32} {x_changes : Int32} {x_isWithin : Int32} {x_code : Int32} {x_input : Nat → Int32} {x_length : Int32} {x_fault : Int32} {x_failed : Int32} {x_signs : Nat → Int32} {x_signMany : Int32} {x_at : Int32} {x_told : Nat → Int32} {x_toldMany : Int32} {res : Int32 × Int32} {H : Heap} {locs : List Loc} {ls : Array Slot} 
    (E : En cX13_totalPressure RX13 wsX13_totalPressure 3 (some .int) p s m args meth c) (hK : KK g s) (hA : ∀ q, s.heap.size ≤ q → A q) (h : f_X13_totalPressure x_g x_code = some res) (hW : Wo g A s H locs (w_X13 g h0 h1 h2 h3 h4 h5 h6 h7 h8 h9 h10 h11 h12 h13 x_g x_kept x_saved x_before x_was x_region x_parts x_next x_ways x_more x_whole x_isSaved x_changes x_isWithin x_code x_input x_length x_fault x_failed x_signs x_signMany x_at x_told x_toldMany)) (hl : lv_has ls 3 [(0, .ref h0)]) : G_X13_totalPressure p l e s m args below meth c g A h0 h1 h2 h3 h4 h5 h6 h7 h8 h9 h10 h11 h12 h13 x_g x_kept x_saved x_before x_was x_region x_parts x_next x_ways x_more x_whole x_isSaved x_changes x_isWithin x_input x_length x_fault x_failed x_signs x_signMany x_at x_told x_toldMany res H locs 0 ls [] := by
  have hts := E.2.2.2.1
  unfold f_X13_totalPressure at h
  refine lv_aload_n E.1 E.2.1 dX13_totalPressure_0 rfl (lv_at hl 0 rfl) ?_
  refine lv_iconst (v := 0) E.1 E.2.1 dX13_totalPressure_1 (by decide) ?_
  refine wPut (world' := (w_X13 g h0 h1 h2 h3 h4 h5 h6 h7 h8 h9 h10 h11 h12 h13 x_g x_kept x_saved x_before x_was x_region x_parts x_next x_ways x_more x_whole x_isSaved x_changes x_isWithin 0 x_input x_length x_fault x_failed x_signs x_signMany x_at x_told x_toldMany)) E hK in_X13_totalPressure_X13 tyX13 tyX13_ok nmX13 hW 14 lk_X13_totalPressure_58 0 rfl rfl (by decide) rfl rfl rfl rfl rfl (Nat.le_of_ble_eq_true rfl) dX13_totalPressure_2 rfl (fun H locs hW => ?_)
  refine lv_iconst (v := 0) E.1 E.2.1 dX13_totalPressure_5 (by decide) ?_
  refine lv_istore_n (lv' := [(1, .int 0), (0, .ref h0)]) E.1 E.2.1 dX13_totalPressure_6 rfl hl (by decide) rfl (fun ls hl => ?_)
  refine lv_iconst (v := 0) E.1 E.2.1 dX13_totalPressure_7 (by decide) ?_
  refine lv_istore_n (lv' := [(2, .int 0), (1, .int 0), (0, .ref h0)]) E.1 E.2.1 dX13_totalPressure_8 rfl hl (by decide) rfl (fun ls hl => ?_)
  refine k_X13_totalPressure_9 E hK hA ?_ 1000 0 0 H locs ls h hW (lv_sub hl [2, 1, 0] rfl)
  · intro l1_33e H locs ls h hW hl
    refine lv_iload_n E.1 E.2.1 dX13_totalPressure_33 rfl (lv_at hl 0 rfl) ?_
    obtain rfl := Option.some.inj h
    exact endI E rfl hW dX13_totalPressure_34
theorem c_X13_totalPressure (l : Launch) (g : GE) (h0 h1 h2 h3 h4 h5 h6 h7 h8 h9 h10 h11 h12 h13 : Nat) (x_g : Nat → Int32) (x_kept : Nat → Int32) (x_saved : Nat → Int32) (x_before : Nat → Int32) (x_was : Nat → Int32) (x_region : Nat → Int32) (x_parts : Nat → Int64) (x_next : Nat → Int64) (x_ways : Nat → Int32) (x_more : Nat → Int32) (x_whole : Int64) (x_isSaved : Int32) (x_changes : Int32) (x_isWithin : Int32) (x_code : Int32) (x_input : Nat → Int32) (x_length : Int32) (x_fault : Int32) (x_failed : Int32) (x_signs : Nat → Int32) (x_signMany : Int32) (x_at : Int32) (x_told : Nat → Int32) (x_toldMany : Int32) {res : Int32 × Int32} (hf : f_X13_totalPressure x_g x_code = some res) : CI l yX13_totalPressure wsX13_totalPressure rm_X13_totalPressure g [.ref h0] (w_X13 g h0 h1 h2 h3 h4 h5 h6 h7 h8 h9 h10 h11 h12 h13 x_g x_kept x_saved x_before x_was x_region x_parts x_next x_ways x_more x_whole x_isSaved x_changes x_isWithin x_code x_input x_length x_fault x_failed x_signs x_signMany x_at x_told x_toldMany) (w_X13 g h0 h1 h2 h3 h4 h5 h6 h7 h8 h9 h10 h11 h12 h13 x_g x_kept x_saved x_before x_was x_region x_parts x_next x_ways x_more x_whole x_isSaved x_changes x_isWithin res.2 x_input x_length x_fault x_failed x_signs x_signMany x_at x_told x_toldMany) res.1 :=
  mkI (cc := cX13_totalPressure) (maxL := 3) (by decide) rfl (Nat.le_of_ble_eq_true rfl) (fun p e s m args below meth c A H locs ls E hK hA hW hl => k_X13_totalPressure_0 E hK hA hf hW hl)

/-! PaperStormModel.looks()V X13_looks -/
abbrev rm_X13_looks : Room := { frames := 0, cells := 0, slots := 0, locals := 0 }
theorem in_X13_looks_X13 : ∀ w ∈ wsX130, w ∈ wsX13_looks := by decide +kernel
theorem lk_X13_looks_22 : Cond.fieldLink RX13 22 "PaperStormModel" "was" "[I" ∈ wsX13_looks := by decide +kernel
theorem lk_X13_looks_7 : Cond.fieldLink RX13 7 "PaperStormModel" "g" "[I" ∈ wsX13_looks := by decide +kernel
noncomputable def f_X13_looks_2 (x_g : Nat → Int32) (z29 : (Nat → Int32) → Option ((Nat → Int32))) : Nat → Int32 → (Nat → Int32) → Option ((Nat → Int32))
  | 0, _, _ => none
  | n + 1, l1_2, x_was_2 => if 25 ≤ l1_2 then z29 x_was_2 else if (7 + l1_2) < 0 ∨ 60 ≤ (7 + l1_2).toNatClampNeg then none else if l1_2 < 0 ∨ 25 ≤ l1_2.toNatClampNeg then none else f_X13_looks_2 x_g z29 n (l1_2 + 1) (upd x_was_2 l1_2.toNatClampNeg (x_g (7 + l1_2).toNatClampNeg))
noncomputable def f_X13_looks (x_g : Nat → Int32) (x_was : Nat → Int32) : Option ((Nat → Int32)) :=
  f_X13_looks_2 x_g (fun x_was_29e => some (x_was_29e)) 1000 0 x_was
abbrev G_X13_looks (p : Program) (l : Launch) (e : Env) (s : State) (m : MethodId) (args : Array Value) (below : List Frame) (meth : Method) (c : Code) (g : GE) (A : Nat → Prop) (h0 h1 h2 h3 h4 h5 h6 h7 h8 h9 h10 h11 h12 h13 : Nat) (x_g : Nat → Int32) (x_kept : Nat → Int32) (x_saved : Nat → Int32) (x_before : Nat → Int32) (x_region : Nat → Int32) (x_parts : Nat → Int64) (x_next : Nat → Int64) (x_ways : Nat → Int32) (x_more : Nat → Int32) (x_whole : Int64) (x_isSaved : Int32) (x_changes : Int32) (x_isWithin : Int32) (x_code : Int32) (x_input : Nat → Int32) (x_length : Int32) (x_fault : Int32) (x_failed : Int32) (x_signs : Nat → Int32) (x_signMany : Int32) (x_at : Int32) (x_told : Nat → Int32) (x_toldMany : Int32) (res : (Nat → Int32)) (H : Heap) (locs : List Loc) (pc : Nat) (ls : Array Slot) (st : List Value) : Prop := W p l e (headSpec wsX13_looks rm_X13_looks).room s m args below meth c H locs 0 0 (MQ below (PoV g A (w_X13 g h0 h1 h2 h3 h4 h5 h6 h7 h8 h9 h10 h11 h12 h13 x_g x_kept x_saved x_before res x_region x_parts x_next x_ways x_more x_whole x_isSaved x_changes x_isWithin x_code x_input x_length x_fault x_failed x_signs x_signMany x_at x_told x_toldMany)) args s 0 0 A) (F0 m pc ls st)
set_option maxHeartbeats 4000000 in
set_option maxRecDepth 100000 in
theorem k_X13_looks_2 {p : Program} {l : Launch} {e : Env} {s : State} {m : MethodId} {args : Array Value} {below : List Frame} {meth : Method} {c : Code} {g : GE} {A : Nat → Prop} {h0 h1 h2 h3 h4 h5 h6 h7 h8 h9 h10 h11 h12 h13 : Nat} {x_g : Nat → Int32} {x_kept : Nat → Int32} {x_saved : Nat → Int32} {x_before : Nat → Int32} {x_region : Nat → Int32} {x_parts : Nat → Int64} {x_next : Nat → Int64} {x_ways : Nat → Int32} {x_more : Nat → Int32} {x_whole : Int64} {x_isSaved : Int32} {x_changes : Int32} {x_isWithin : Int32} {x_code : Int32} {x_input : Nat → Int32} {x_length : Int32} {x_fault : Int32} {x_failed : Int32} {x_signs : Nat → Int32} {x_signMany : Int32} {x_at : Int32} {x_told : Nat → Int32} {x_toldMany : Int32} {res : (Nat → Int32)} {z29 : (Nat → Int32) → Option ((Nat → Int32))}
    (E : En cX13_looks RX13 wsX13_looks 2 none p s m args meth c) (hK : KK g s) (hA : ∀ q, s.heap.size ≤ q → A q)
    (hz29 : ∀ (x_was_29e : Nat → Int32) (H : Heap) (locs : List Loc) (ls : Array Slot), z29 x_was_29e = some res → Wo g A s H locs (w_X13 g h0 h1 h2 h3 h4 h5 h6 h7 h8 h9 h10 h11 h12 h13 x_g x_kept x_saved x_before x_was_29e x_region x_parts x_next x_ways x_more x_whole x_isSaved x_changes x_isWithin x_code x_input x_length x_fault x_failed x_signs x_signMany x_at x_told x_toldMany) → lv_has ls 2 [] → G_X13_looks p l e s m args below meth c g A h0 h1 h2 h3 h4 h5 h6 h7 h8 h9 h10 h11 h12 h13 x_g x_kept x_saved x_before x_region x_parts x_next x_ways x_more x_whole x_isSaved x_changes x_isWithin x_code x_input x_length x_fault x_failed x_signs x_signMany x_at x_told x_toldMany res H locs 29 ls [])
    : ∀ (n : Nat) (l1_2 : Int32) (x_was_2 : Nat → Int32) (H : Heap) (locs : List Loc) (ls : Array Slot), f_X13_looks_2 x_g z29 n l1_2 x_was_2 = some res → Wo g A s H locs (w_X13 g h0 h1 h2 h3 h4 h5 h6 h7 h8 h9 h10 h11 h12 h13 x_g x_kept x_saved x_before x_was_2 x_region x_parts x_next x_ways x_more x_whole x_isSaved x_changes x_isWithin x_code x_input x_length x_fault x_failed x_signs x_signMany x_at x_told x_toldMany) → lv_has ls 2 [(0, .ref h0), (1, .int l1_2)] → G_X13_looks p l e s m args below meth c g A h0 h1 h2 h3 h4 h5 h6 h7 h8 h9 h10 h11 h12 h13 x_g x_kept x_saved x_before x_region x_parts x_next x_ways x_more x_whole x_isSaved x_changes x_isWithin x_code x_input x_length x_fault x_failed x_signs x_signMany x_at x_told x_toldMany res H locs 2 ls [] := by
  have hts := E.2.2.2.1
  intro n
  induction n with
  | zero => intro l1_2 x_was_2 H locs ls h hW hl; rw [f_X13_looks_2] at h; cases h
  | succ n ih =>
    intro l1_2 x_was_2 H locs ls h hW hl
    rw [f_X13_looks_2] at h
    refine lv_iload_n E.1 E.2.1 dX13_looks_2 rfl (lv_at hl 1 rfl) ?_
    refine lv_bipush (v := 25) E.1 E.2.1 dX13_looks_3 (by decide) ?_
    refine lv_icmp_ge (tgt := 29) E.1 E.2.1 dX13_looks_5 (by decide) (fun c5 => ?_) (fun c5 => ?_)
    · have h := it c5 h
      exact hz29 x_was_2 H locs ls h hW (lv_sub hl [] rfl)
    · have h := ie c5 h
      refine lv_aload_n E.1 E.2.1 dX13_looks_8 rfl (lv_at hl 0 rfl) ?_
      refine wGet (v := .ref h5) E hK in_X13_looks_X13 hW 4 lk_X13_looks_22 0 rfl rfl (by decide) rfl rfl dX13_looks_9 ?_
      refine lv_iload_n E.1 E.2.1 dX13_looks_12 rfl (lv_at hl 1 rfl) ?_
      refine lv_aload_n E.1 E.2.1 dX13_looks_13 rfl (lv_at hl 0 rfl) ?_
      refine wGet (v := .ref h1) E hK in_X13_looks_X13 hW 0 lk_X13_looks_7 0 rfl rfl (by decide) rfl rfl dX13_looks_14 ?_
      refine lv_bipush (v := 7) E.1 E.2.1 dX13_looks_17 (by decide) ?_
      refine lv_iload_n E.1 E.2.1 dX13_looks_19 rfl (lv_at hl 1 rfl) ?_
      refine lv_iadd E.1 E.2.1 dX13_looks_20 ?_
      obtain ⟨hi21, h⟩ := ox h
      refine wIald E hK hW 1 rfl hi21 dX13_looks_21 ?_
      obtain ⟨hi22, h⟩ := ox h
      refine wIast (world' := (w_X13 g h0 h1 h2 h3 h4 h5 h6 h7 h8 h9 h10 h11 h12 h13 x_g x_kept x_saved x_before (upd x_was_2 l1_2.toNatClampNeg (x_g (7 + l1_2).toNatClampNeg)) x_region x_parts x_next x_ways x_more x_whole x_isSaved x_changes x_isWithin x_code x_input x_length x_fault x_failed x_signs x_signMany x_at x_told x_toldMany)) E hK hW 5 rfl hi22 dX13_looks_22 rfl (fun H locs hW => ?_)
      refine lv_iinc (v := (l1_2 + 1)) (lv' := [(1, .int (l1_2 + 1)), (0, .ref h0)]) E.1 E.2.1 dX13_looks_23 hl (k := 1) rfl rfl (by decide) rfl (fun ls hl => ?_)
      refine lv_goto (tgt := 2) E.1 E.2.1 dX13_looks_26 (by decide) ?_
      exact ih (l1_2 + 1) (upd x_was_2 l1_2.toNatClampNeg (x_g (7 + l1_2).toNatClampNeg)) H locs ls h hW (lv_sub hl [1, 0] rfl)
set_option maxHeartbeats 4000000 in
set_option maxRecDepth 100000 in
theorem k_X13_looks_0 {p : Program} {l : Launch} {e : Env} {s : State} {m : MethodId} {args : Array Value} {below : List Frame} {meth : Method} {c : Code} {g : GE} {A : Nat → Prop} {h0 h1 h2 h3 h4 h5 h6 h7 h8 h9 h10 h11 h12 h13 : Nat} {x_g : Nat → Int32} {x_kept : Nat → Int32} {x_saved : Nat → Int32} {x_before : Nat → Int32} {x_was : Nat → Int32} {x_region : Nat → Int32} {x_parts : Nat → Int64} {x_next : Nat → Int64} {x_ways : Nat → Int32} {x_more : Nat → Int32} {x_whole : Int64} {x_isSaved : Int32} {x_changes : Int32} {x_isWithin : Int32} {x_code : Int32} {x_input : Nat → Int32} {x_length : Int32} {x_fault : Int32} {x_failed : Int32} {x_signs : Nat → Int32} {x_signMany : Int32} {x_at : Int32} {x_told : Nat → Int32} {x_toldMany : Int32} {res : (Nat → Int32)} {H : Heap} {locs : List Loc} {ls : Array Slot} 
    (E : En cX13_looks RX13 wsX13_looks 2 none p s m args meth c) (hK : KK g s) (hA : ∀ q, s.heap.size ≤ q → A q) (h : f_X13_looks x_g x_was = some res) (hW : Wo g A s H locs (w_X13 g h0 h1 h2 h3 h4 h5 h6 h7 h8 h9 h10 h11 h12 h13 x_g x_kept x_saved x_before x_was x_region x_parts x_next x_ways x_more x_whole x_isSaved x_changes x_isWithin x_code x_input x_length x_fault x_failed x_signs x_signMany x_at x_told x_toldMany)) (hl : lv_has ls 2 [(0, .ref h0)]) : G_X13_looks p l e s m args below meth c g A h0 h1 h2 h3 h4 h5 h6 h7 h8 h9 h10 h11 h12 h13 x_g x_kept x_saved x_before x_region x_parts x_next x_ways x_more x_whole x_isSaved x_changes x_isWithin x_code x_input x_length x_fault x_failed x_signs x_signMany x_at x_told x_toldMany res H locs 0 ls [] := by
  have hts := E.2.2.2.1
  unfold f_X13_looks at h
  refine lv_iconst (v := 0) E.1 E.2.1 dX13_looks_0 (by decide) ?_
  refine lv_istore_n (lv' := [(1, .int 0), (0, .ref h0)]) E.1 E.2.1 dX13_looks_1 rfl hl (by decide) rfl (fun ls hl => ?_)
  refine k_X13_looks_2 E hK hA ?_ 1000 0 x_was H locs ls h hW (lv_sub hl [1, 0] rfl)
  · intro x_was_29e H locs ls h hW hl
    obtain rfl := Option.some.inj h
    exact endV E hW dX13_looks_29
theorem c_X13_looks (l : Launch) (g : GE) (h0 h1 h2 h3 h4 h5 h6 h7 h8 h9 h10 h11 h12 h13 : Nat) (x_g : Nat → Int32) (x_kept : Nat → Int32) (x_saved : Nat → Int32) (x_before : Nat → Int32) (x_was : Nat → Int32) (x_region : Nat → Int32) (x_parts : Nat → Int64) (x_next : Nat → Int64) (x_ways : Nat → Int32) (x_more : Nat → Int32) (x_whole : Int64) (x_isSaved : Int32) (x_changes : Int32) (x_isWithin : Int32) (x_code : Int32) (x_input : Nat → Int32) (x_length : Int32) (x_fault : Int32) (x_failed : Int32) (x_signs : Nat → Int32) (x_signMany : Int32) (x_at : Int32) (x_told : Nat → Int32) (x_toldMany : Int32) {res : (Nat → Int32)} (hf : f_X13_looks x_g x_was = some res) : CV l yX13_looks wsX13_looks rm_X13_looks g [.ref h0] (w_X13 g h0 h1 h2 h3 h4 h5 h6 h7 h8 h9 h10 h11 h12 h13 x_g x_kept x_saved x_before x_was x_region x_parts x_next x_ways x_more x_whole x_isSaved x_changes x_isWithin x_code x_input x_length x_fault x_failed x_signs x_signMany x_at x_told x_toldMany) (w_X13 g h0 h1 h2 h3 h4 h5 h6 h7 h8 h9 h10 h11 h12 h13 x_g x_kept x_saved x_before res x_region x_parts x_next x_ways x_more x_whole x_isSaved x_changes x_isWithin x_code x_input x_length x_fault x_failed x_signs x_signMany x_at x_told x_toldMany) :=
  mkV (cc := cX13_looks) (maxL := 2) (by decide) rfl (Nat.le_of_ble_eq_true rfl) (fun p e s m args below meth c A H locs ls E hK hA hW hl => k_X13_looks_0 E hK hA hf hW hl)

/-! PaperStormModel.others()I X13_others -/
abbrev rm_X13_others : Room := { frames := 0, cells := 0, slots := 0, locals := 0 }
theorem in_X13_others_X13 : ∀ w ∈ wsX130, w ∈ wsX13_others := by decide +kernel
theorem lk_X13_others_22 : Cond.fieldLink RX13 22 "PaperStormModel" "was" "[I" ∈ wsX13_others := by decide +kernel
theorem lk_X13_others_7 : Cond.fieldLink RX13 7 "PaperStormModel" "g" "[I" ∈ wsX13_others := by decide +kernel
noncomputable def f_X13_others_4 (x_g : Nat → Int32) (x_was : Nat → Int32) (z42 : Int32 → Option (Int32)) : Nat → Int32 → Int32 → Option (Int32)
  | 0, _, _ => none
  | n + 1, l1_4, l2_4 => if 25 ≤ l2_4 then z42 l1_4 else jo (fun (s0_34 : Int32) (s1_34 : Int32) => f_X13_others_4 x_g x_was z42 n (s0_34 + s1_34) (l2_4 + 1)) (fun j34 => if l2_4 < 0 ∨ 25 ≤ l2_4.toNatClampNeg then none else if (7 + l2_4) < 0 ∨ 60 ≤ (7 + l2_4).toNatClampNeg then none else if (x_was l2_4.toNatClampNeg) = (x_g (7 + l2_4).toNatClampNeg) then j34 l1_4 0 else j34 l1_4 1)
noncomputable def f_X13_others (x_g : Nat → Int32) (x_was : Nat → Int32) : Option (Int32) :=
  f_X13_others_4 x_g x_was (fun l1_42e => some (l1_42e)) 1000 0 0
abbrev G_X13_others (p : Program) (l : Launch) (e : Env) (s : State) (m : MethodId) (args : Array Value) (below : List Frame) (meth : Method) (c : Code) (g : GE) (A : Nat → Prop) (h0 h1 h2 h3 h4 h5 h6 h7 h8 h9 h10 h11 h12 h13 : Nat) (x_g : Nat → Int32) (x_kept : Nat → Int32) (x_saved : Nat → Int32) (x_before : Nat → Int32) (x_was : Nat → Int32) (x_region : Nat → Int32) (x_parts : Nat → Int64) (x_next : Nat → Int64) (x_ways : Nat → Int32) (x_more : Nat → Int32) (x_whole : Int64) (x_isSaved : Int32) (x_changes : Int32) (x_isWithin : Int32) (x_code : Int32) (x_input : Nat → Int32) (x_length : Int32) (x_fault : Int32) (x_failed : Int32) (x_signs : Nat → Int32) (x_signMany : Int32) (x_at : Int32) (x_told : Nat → Int32) (x_toldMany : Int32) (res : Int32) (H : Heap) (locs : List Loc) (pc : Nat) (ls : Array Slot) (st : List Value) : Prop := W p l e (headSpec wsX13_others rm_X13_others).room s m args below meth c H locs 0 0 (MQ below (PoI g A (w_X13 g h0 h1 h2 h3 h4 h5 h6 h7 h8 h9 h10 h11 h12 h13 x_g x_kept x_saved x_before x_was x_region x_parts x_next x_ways x_more x_whole x_isSaved x_changes x_isWithin x_code x_input x_length x_fault x_failed x_signs x_signMany x_at x_told x_toldMany) res) args s 0 0 A) (F0 m pc ls st)
set_option maxHeartbeats 4000000 in
set_option maxRecDepth 100000 in
theorem k_X13_others_4 {p : Program} {l : Launch} {e : Env} {s : State} {m : MethodId} {args : Array Value} {below : List Frame} {meth : Method} {c : Code} {g : GE} {A : Nat → Prop} {h0 h1 h2 h3 h4 h5 h6 h7 h8 h9 h10 h11 h12 h13 : Nat} {x_g : Nat → Int32} {x_kept : Nat → Int32} {x_saved : Nat → Int32} {x_before : Nat → Int32} {x_was : Nat → Int32} {x_region : Nat → Int32} {x_parts : Nat → Int64} {x_next : Nat → Int64} {x_ways : Nat → Int32} {x_more : Nat → Int32} {x_whole : Int64} {x_isSaved : Int32} {x_changes : Int32} {x_isWithin : Int32} {x_code : Int32} {x_input : Nat → Int32} {x_length : Int32} {x_fault : Int32} {x_failed : Int32} {x_signs : Nat → Int32} {x_signMany : Int32} {x_at : Int32} {x_told : Nat → Int32} {x_toldMany : Int32} {res : Int32} {z42 : Int32 → Option (Int32)}
    (E : En cX13_others RX13 wsX13_others 3 (some .int) p s m args meth c) (hK : KK g s) (hA : ∀ q, s.heap.size ≤ q → A q)
    (hz42 : ∀ (l1_42e : Int32) (H : Heap) (locs : List Loc) (ls : Array Slot), z42 l1_42e = some res → Wo g A s H locs (w_X13 g h0 h1 h2 h3 h4 h5 h6 h7 h8 h9 h10 h11 h12 h13 x_g x_kept x_saved x_before x_was x_region x_parts x_next x_ways x_more x_whole x_isSaved x_changes x_isWithin x_code x_input x_length x_fault x_failed x_signs x_signMany x_at x_told x_toldMany) → lv_has ls 3 [(1, .int l1_42e)] → G_X13_others p l e s m args below meth c g A h0 h1 h2 h3 h4 h5 h6 h7 h8 h9 h10 h11 h12 h13 x_g x_kept x_saved x_before x_was x_region x_parts x_next x_ways x_more x_whole x_isSaved x_changes x_isWithin x_code x_input x_length x_fault x_failed x_signs x_signMany x_at x_told x_toldMany res H locs 42 ls [])
    : ∀ (n : Nat) (l1_4 : Int32) (l2_4 : Int32) (H : Heap) (locs : List Loc) (ls : Array Slot), f_X13_others_4 x_g x_was z42 n l1_4 l2_4 = some res → Wo g A s H locs (w_X13 g h0 h1 h2 h3 h4 h5 h6 h7 h8 h9 h10 h11 h12 h13 x_g x_kept x_saved x_before x_was x_region x_parts x_next x_ways x_more x_whole x_isSaved x_changes x_isWithin x_code x_input x_length x_fault x_failed x_signs x_signMany x_at x_told x_toldMany) → lv_has ls 3 [(0, .ref h0), (1, .int l1_4), (2, .int l2_4)] → G_X13_others p l e s m args below meth c g A h0 h1 h2 h3 h4 h5 h6 h7 h8 h9 h10 h11 h12 h13 x_g x_kept x_saved x_before x_was x_region x_parts x_next x_ways x_more x_whole x_isSaved x_changes x_isWithin x_code x_input x_length x_fault x_failed x_signs x_signMany x_at x_told x_toldMany res H locs 4 ls [] := by
  have hts := E.2.2.2.1
  intro n
  induction n with
  | zero => intro l1_4 l2_4 H locs ls h hW hl; rw [f_X13_others_4] at h; cases h
  | succ n ih =>
    intro l1_4 l2_4 H locs ls h hW hl
    rw [f_X13_others_4] at h
    refine lv_iload_n E.1 E.2.1 dX13_others_4 rfl (lv_at hl 2 rfl) ?_
    refine lv_bipush (v := 25) E.1 E.2.1 dX13_others_5 (by decide) ?_
    refine lv_icmp_ge (tgt := 42) E.1 E.2.1 dX13_others_7 (by decide) (fun c7 => ?_) (fun c7 => ?_)
    · have h := it c7 h
      exact hz42 l1_4 H locs ls h hW (lv_sub hl [1] rfl)
    · have h := ie c7 h
      obtain ⟨j34, hj34, h⟩ := jox2 h
      have J34 : ∀ (s0_34 : Int32) (s1_34 : Int32) (H : Heap) (locs : List Loc) (ls : Array Slot), j34 s0_34 s1_34 = some res → Wo g A s H locs (w_X13 g h0 h1 h2 h3 h4 h5 h6 h7 h8 h9 h10 h11 h12 h13 x_g x_kept x_saved x_before x_was x_region x_parts x_next x_ways x_more x_whole x_isSaved x_changes x_isWithin x_code x_input x_length x_fault x_failed x_signs x_signMany x_at x_told x_toldMany) → lv_has ls 3 [(0, .ref h0), (2, .int l2_4)] → G_X13_others p l e s m args below meth c g A h0 h1 h2 h3 h4 h5 h6 h7 h8 h9 h10 h11 h12 h13 x_g x_kept x_saved x_before x_was x_region x_parts x_next x_ways x_more x_whole x_isSaved x_changes x_isWithin x_code x_input x_length x_fault x_failed x_signs x_signMany x_at x_told x_toldMany res H locs 34 ls [.int s1_34, .int s0_34] := by
        intro s0_34 s1_34 H locs ls h hW hl
        rw [hj34] at h
        refine lv_iadd E.1 E.2.1 dX13_others_34 ?_
        refine lv_istore_n (lv' := [(1, .int (s0_34 + s1_34)), (0, .ref h0), (2, .int l2_4)]) E.1 E.2.1 dX13_others_35 rfl hl (by decide) rfl (fun ls hl => ?_)
        refine lv_iinc (v := (l2_4 + 1)) (lv' := [(2, .int (l2_4 + 1)), (1, .int (s0_34 + s1_34)), (0, .ref h0)]) E.1 E.2.1 dX13_others_36 hl (k := 2) rfl rfl (by decide) rfl (fun ls hl => ?_)
        refine lv_goto (tgt := 4) E.1 E.2.1 dX13_others_39 (by decide) ?_
        exact ih (s0_34 + s1_34) (l2_4 + 1) H locs ls h hW (lv_sub hl [2, 1, 0] rfl)
      refine lv_iload_n E.1 E.2.1 dX13_others_10 rfl (lv_at hl 1 rfl) ?_
      refine lv_aload_n E.1 E.2.1 dX13_others_11 rfl (lv_at hl 0 rfl) ?_
      refine wGet (v := .ref h5) E hK in_X13_others_X13 hW 4 lk_X13_others_22 0 rfl rfl (by decide) rfl rfl dX13_others_12 ?_
      refine lv_iload_n E.1 E.2.1 dX13_others_15 rfl (lv_at hl 2 rfl) ?_
      obtain ⟨hi16, h⟩ := ox h
      refine wIald E hK hW 5 rfl hi16 dX13_others_16 ?_
      refine lv_aload_n E.1 E.2.1 dX13_others_17 rfl (lv_at hl 0 rfl) ?_
      refine wGet (v := .ref h1) E hK in_X13_others_X13 hW 0 lk_X13_others_7 0 rfl rfl (by decide) rfl rfl dX13_others_18 ?_
      refine lv_bipush (v := 7) E.1 E.2.1 dX13_others_21 (by decide) ?_
      refine lv_iload_n E.1 E.2.1 dX13_others_23 rfl (lv_at hl 2 rfl) ?_
      refine lv_iadd E.1 E.2.1 dX13_others_24 ?_
      obtain ⟨hi25, h⟩ := ox h
      refine wIald E hK hW 1 rfl hi25 dX13_others_25 ?_
      refine lv_icmp_ne (tgt := 33) E.1 E.2.1 dX13_others_26 (by decide) (fun c26 => ?_) (fun c26 => ?_)
      · have h := ie c26 h
        refine lv_iconst (v := 1) E.1 E.2.1 dX13_others_33 (by decide) ?_
        exact J34 l1_4 1 H locs ls h hW (lv_sub hl [0, 2] rfl)
      · have h := it c26 h
        refine lv_iconst (v := 0) E.1 E.2.1 dX13_others_29 (by decide) ?_
        refine lv_goto (tgt := 34) E.1 E.2.1 dX13_others_30 (by decide) ?_
        exact J34 l1_4 0 H locs ls h hW (lv_sub hl [0, 2] rfl)
set_option maxHeartbeats 4000000 in
set_option maxRecDepth 100000 in
theorem k_X13_others_0 {p : Program} {l : Launch} {e : Env} {s : State} {m : MethodId} {args : Array Value} {below : List Frame} {meth : Method} {c : Code} {g : GE} {A : Nat → Prop} {h0 h1 h2 h3 h4 h5 h6 h7 h8 h9 h10 h11 h12 h13 : Nat} {x_g : Nat → Int32} {x_kept : Nat → Int32} {x_saved : Nat → Int32} {x_before : Nat → Int32} {x_was : Nat → Int32} {x_region : Nat → Int32} {x_parts : Nat → Int64} {x_next : Nat → Int64} {x_ways : Nat → Int32} {x_more : Nat → Int32} {x_whole : Int64} {x_isSaved : Int32} {x_changes : Int32} {x_isWithin : Int32} {x_code : Int32} {x_input : Nat → Int32} {x_length : Int32} {x_fault : Int32} {x_failed : Int32} {x_signs : Nat → Int32} {x_signMany : Int32} {x_at : Int32} {x_told : Nat → Int32} {x_toldMany : Int32} {res : Int32} {H : Heap} {locs : List Loc} {ls : Array Slot} 
    (E : En cX13_others RX13 wsX13_others 3 (some .int) p s m args meth c) (hK : KK g s) (hA : ∀ q, s.heap.size ≤ q → A q) (h : f_X13_others x_g x_was = some res) (hW : Wo g A s H locs (w_X13 g h0 h1 h2 h3 h4 h5 h6 h7 h8 h9 h10 h11 h12 h13 x_g x_kept x_saved x_before x_was x_region x_parts x_next x_ways x_more x_whole x_isSaved x_changes x_isWithin x_code x_input x_length x_fault x_failed x_signs x_signMany x_at x_told x_toldMany)) (hl : lv_has ls 3 [(0, .ref h0)]) : G_X13_others p l e s m args below meth c g A h0 h1 h2 h3 h4 h5 h6 h7 h8 h9 h10 h11 h12 h13 x_g x_kept x_saved x_before x_was x_region x_parts x_next x_ways x_more x_whole x_isSaved x_changes x_isWithin x_code x_input x_length x_fault x_failed x_signs x_signMany x_at x_told x_toldMany res H locs 0 ls [] := by
  have hts := E.2.2.2.1
  unfold f_X13_others at h
  refine lv_iconst (v := 0) E.1 E.2.1 dX13_others_0 (by decide) ?_
  refine lv_istore_n (lv' := [(1, .int 0), (0, .ref h0)]) E.1 E.2.1 dX13_others_1 rfl hl (by decide) rfl (fun ls hl => ?_)
  refine lv_iconst (v := 0) E.1 E.2.1 dX13_others_2 (by decide) ?_
  refine lv_istore_n (lv' := [(2, .int 0), (1, .int 0), (0, .ref h0)]) E.1 E.2.1 dX13_others_3 rfl hl (by decide) rfl (fun ls hl => ?_)
  refine k_X13_others_4 E hK hA ?_ 1000 0 0 H locs ls h hW (lv_sub hl [2, 1, 0] rfl)
  · intro l1_42e H locs ls h hW hl
    refine lv_iload_n E.1 E.2.1 dX13_others_42 rfl (lv_at hl 0 rfl) ?_
    obtain rfl := Option.some.inj h
    exact endI E rfl hW dX13_others_43
theorem c_X13_others (l : Launch) (g : GE) (h0 h1 h2 h3 h4 h5 h6 h7 h8 h9 h10 h11 h12 h13 : Nat) (x_g : Nat → Int32) (x_kept : Nat → Int32) (x_saved : Nat → Int32) (x_before : Nat → Int32) (x_was : Nat → Int32) (x_region : Nat → Int32) (x_parts : Nat → Int64) (x_next : Nat → Int64) (x_ways : Nat → Int32) (x_more : Nat → Int32) (x_whole : Int64) (x_isSaved : Int32) (x_changes : Int32) (x_isWithin : Int32) (x_code : Int32) (x_input : Nat → Int32) (x_length : Int32) (x_fault : Int32) (x_failed : Int32) (x_signs : Nat → Int32) (x_signMany : Int32) (x_at : Int32) (x_told : Nat → Int32) (x_toldMany : Int32) {res : Int32} (hf : f_X13_others x_g x_was = some res) : CI l yX13_others wsX13_others rm_X13_others g [.ref h0] (w_X13 g h0 h1 h2 h3 h4 h5 h6 h7 h8 h9 h10 h11 h12 h13 x_g x_kept x_saved x_before x_was x_region x_parts x_next x_ways x_more x_whole x_isSaved x_changes x_isWithin x_code x_input x_length x_fault x_failed x_signs x_signMany x_at x_told x_toldMany) (w_X13 g h0 h1 h2 h3 h4 h5 h6 h7 h8 h9 h10 h11 h12 h13 x_g x_kept x_saved x_before x_was x_region x_parts x_next x_ways x_more x_whole x_isSaved x_changes x_isWithin x_code x_input x_length x_fault x_failed x_signs x_signMany x_at x_told x_toldMany) res :=
  mkI (cc := cX13_others) (maxL := 3) (by decide) rfl (Nat.le_of_ble_eq_true rfl) (fun p e s m args below meth c A H locs ls E hK hA hW hl => k_X13_others_0 E hK hA hf hW hl)

/-! PaperStormModel.folds(III)I X13_folds -/
abbrev rm_X13_folds : Room := { frames := 2, cells := 0, slots := 0, locals := 46 }
theorem in_X13_folds_X13 : ∀ w ∈ wsX130, w ∈ wsX13_folds := by decide +kernel
theorem lk_X13_folds_7 : Cond.fieldLink RX13 7 "PaperStormModel" "g" "[I" ∈ wsX13_folds := by decide +kernel
noncomputable def f_X13_folds_55 (l1 : Int32) (l2 : Int32) (l3 : Int32) (l4 : Int32) (z140 : (Nat → Int32) → Option (Int32 × (Nat → Int32) × (Nat → Int32) × (Nat → Int32) × Int32 × Int32)) : Nat → Int32 → (Nat → Int32) → Option (Int32 × (Nat → Int32) × (Nat → Int32) × (Nat → Int32) × Int32 × Int32)
  | 0, _, _ => none
  | n + 1, l5_55, x_g_55 => if 5 ≤ l5_55 then z140 x_g_55 else if ((7 + (l2 * (l1 - l4))) + (l3 * l5_55)) < 0 ∨ 60 ≤ ((7 + (l2 * (l1 - l4))) + (l3 * l5_55)).toNatClampNeg then none else if ((7 + (l2 * (l1 + l4))) + (l3 * l5_55)) < 0 ∨ 60 ≤ ((7 + (l2 * (l1 + l4))) + (l3 * l5_55)).toNatClampNeg then none else f_X13_folds_55 l1 l2 l3 l4 z140 n (l5_55 + 1) (upd (upd x_g_55 ((7 + (l2 * (l1 - l4))) + (l3 * l5_55)).toNatClampNeg ((((x_g_55 ((7 + (l2 * (l1 - l4))) + (l3 * l5_55)).toNatClampNeg) + (x_g_55 ((7 + (l2 * (l1 + l4))) + (l3 * l5_55)).toNatClampNeg)) + 1) / 2)) ((7 + (l2 * (l1 + l4))) + (l3 * l5_55)).toNatClampNeg (((x_g_55 ((7 + (l2 * (l1 - l4))) + (l3 * l5_55)).toNatClampNeg) + (x_g_55 ((7 + (l2 * (l1 + l4))) + (l3 * l5_55)).toNatClampNeg)) / 2))
noncomputable def f_X13_folds_38 (l1 : Int32) (l2 : Int32) (l3 : Int32) (z146 : (Nat → Int32) → Option (Int32 × (Nat → Int32) × (Nat → Int32) × (Nat → Int32) × Int32 × Int32)) : Nat → Int32 → (Nat → Int32) → Option (Int32 × (Nat → Int32) × (Nat → Int32) × (Nat → Int32) × Int32 × Int32)
  | 0, _, _ => none
  | n + 1, l4_38, x_g_38 => if l1 < l4_38 then z146 x_g_38 else if 5 ≤ (l1 + l4_38) then z146 x_g_38 else f_X13_folds_55 l1 l2 l3 l4_38 (fun x_g_140e => f_X13_folds_38 l1 l2 l3 z146 n (l4_38 + 1) x_g_140e) 1000 0 x_g_38
noncomputable def f_X13_folds (x_g : Nat → Int32) (x_kept : Nat → Int32) (x_was : Nat → Int32) (x_changes : Int32) (x_isWithin : Int32) (x_code : Int32) (a1 : Int32) (a2 : Int32) (a3 : Int32) : Option (Int32 × (Nat → Int32) × (Nat → Int32) × (Nat → Int32) × Int32 × Int32) :=
  jo (fun (s1_15 : Int32) => (f_X13_fails x_code s1_15).bind fun r15 => if r15.1 = 0 then (f_X13_looks x_g x_was).bind fun r24 => (f_X13_keeps__g x_g x_kept x_changes x_isWithin r15.2).bind fun r32 => f_X13_folds_38 a1 a2 a3 (fun x_g_146e => (f_X13_others x_g_146e r24).bind fun r147 => some (r147, x_g_146e, r32.1, r24, r32.2.1, r32.2.2)) 1000 1 x_g else some (0, x_g, x_kept, x_was, x_changes, r15.2)) (fun j15 => (f_X13_in a1 1 3).bind fun r4 => if r4 = 0 then j15 1 else j15 0)
abbrev G_X13_folds (p : Program) (l : Launch) (e : Env) (s : State) (m : MethodId) (args : Array Value) (below : List Frame) (meth : Method) (c : Code) (g : GE) (A : Nat → Prop) (h0 h1 h2 h3 h4 h5 h6 h7 h8 h9 h10 h11 h12 h13 : Nat) (x_saved : Nat → Int32) (x_before : Nat → Int32) (x_region : Nat → Int32) (x_parts : Nat → Int64) (x_next : Nat → Int64) (x_ways : Nat → Int32) (x_more : Nat → Int32) (x_whole : Int64) (x_isSaved : Int32) (x_isWithin : Int32) (x_input : Nat → Int32) (x_length : Int32) (x_fault : Int32) (x_failed : Int32) (x_signs : Nat → Int32) (x_signMany : Int32) (x_at : Int32) (x_told : Nat → Int32) (x_toldMany : Int32) (res : Int32 × (Nat → Int32) × (Nat → Int32) × (Nat → Int32) × Int32 × Int32) (H : Heap) (locs : List Loc) (pc : Nat) (ls : Array Slot) (st : List Value) : Prop := W p l e (headSpec wsX13_folds rm_X13_folds).room s m args below meth c H locs 0 0 (MQ below (PoI g A (w_X13 g h0 h1 h2 h3 h4 h5 h6 h7 h8 h9 h10 h11 h12 h13 res.2.1 res.2.2.1 x_saved x_before res.2.2.2.1 x_region x_parts x_next x_ways x_more x_whole x_isSaved res.2.2.2.2.1 x_isWithin res.2.2.2.2.2 x_input x_length x_fault x_failed x_signs x_signMany x_at x_told x_toldMany) res.1) args s 0 0 A) (F0 m pc ls st)
set_option maxHeartbeats 4000000 in
set_option maxRecDepth 100000 in
theorem k_X13_folds_55 {p : Program} {l : Launch} {e : Env} {s : State} {m : MethodId} {args : Array Value} {below : List Frame} {meth : Method} {c : Code} {g : GE} {A : Nat → Prop} {h0 h1 h2 h3 h4 h5 h6 h7 h8 h9 h10 h11 h12 h13 : Nat} {x_kept : Nat → Int32} {x_saved : Nat → Int32} {x_before : Nat → Int32} {x_was : Nat → Int32} {x_region : Nat → Int32} {x_parts : Nat → Int64} {x_next : Nat → Int64} {x_ways : Nat → Int32} {x_more : Nat → Int32} {x_whole : Int64} {x_isSaved : Int32} {x_changes : Int32} {x_isWithin : Int32} {x_code : Int32} {x_input : Nat → Int32} {x_length : Int32} {x_fault : Int32} {x_failed : Int32} {x_signs : Nat → Int32} {x_signMany : Int32} {x_at : Int32} {x_told : Nat → Int32} {x_toldMany : Int32} {res : Int32 × (Nat → Int32) × (Nat → Int32) × (Nat → Int32) × Int32 × Int32} {l1 : Int32} {l2 : Int32} {l3 : Int32} {l4 : Int32} {z140 : (Nat → Int32) → Option (Int32 × (Nat → Int32) × (Nat → Int32) × (Nat → Int32) × Int32 × Int32)}
    (E : En cX13_folds RX13 wsX13_folds 9 (some .int) p s m args meth c) (hK : KK g s) (hA : ∀ q, s.heap.size ≤ q → A q)
    (hz140 : ∀ (x_g_140e : Nat → Int32) (H : Heap) (locs : List Loc) (ls : Array Slot), z140 x_g_140e = some res → Wo g A s H locs (w_X13 g h0 h1 h2 h3 h4 h5 h6 h7 h8 h9 h10 h11 h12 h13 x_g_140e x_kept x_saved x_before x_was x_region x_parts x_next x_ways x_more x_whole x_isSaved x_changes x_isWithin x_code x_input x_length x_fault x_failed x_signs x_signMany x_at x_told x_toldMany) → lv_has ls 9 [(0, .ref h0), (1, .int l1), (2, .int l2), (3, .int l3), (4, .int l4)] → G_X13_folds p l e s m args below meth c g A h0 h1 h2 h3 h4 h5 h6 h7 h8 h9 h10 h11 h12 h13 x_saved x_before x_region x_parts x_next x_ways x_more x_whole x_isSaved x_isWithin x_input x_length x_fault x_failed x_signs x_signMany x_at x_told x_toldMany res H locs 140 ls [])
    : ∀ (n : Nat) (l5_55 : Int32) (x_g_55 : Nat → Int32) (H : Heap) (locs : List Loc) (ls : Array Slot), f_X13_folds_55 l1 l2 l3 l4 z140 n l5_55 x_g_55 = some res → Wo g A s H locs (w_X13 g h0 h1 h2 h3 h4 h5 h6 h7 h8 h9 h10 h11 h12 h13 x_g_55 x_kept x_saved x_before x_was x_region x_parts x_next x_ways x_more x_whole x_isSaved x_changes x_isWithin x_code x_input x_length x_fault x_failed x_signs x_signMany x_at x_told x_toldMany) → lv_has ls 9 [(0, .ref h0), (1, .int l1), (2, .int l2), (3, .int l3), (4, .int l4), (5, .int l5_55)] → G_X13_folds p l e s m args below meth c g A h0 h1 h2 h3 h4 h5 h6 h7 h8 h9 h10 h11 h12 h13 x_saved x_before x_region x_parts x_next x_ways x_more x_whole x_isSaved x_isWithin x_input x_length x_fault x_failed x_signs x_signMany x_at x_told x_toldMany res H locs 55 ls [] := by
  have hts := E.2.2.2.1
  intro n
  induction n with
  | zero => intro l5_55 x_g_55 H locs ls h hW hl; rw [f_X13_folds_55] at h; cases h
  | succ n ih =>
    intro l5_55 x_g_55 H locs ls h hW hl
    rw [f_X13_folds_55] at h
    refine lv_iload E.1 E.2.1 dX13_folds_55 (lv_at hl 5 rfl) ?_
    refine lv_iconst (v := 5) E.1 E.2.1 dX13_folds_57 (by decide) ?_
    refine lv_icmp_ge (tgt := 140) E.1 E.2.1 dX13_folds_58 (by decide) (fun c58 => ?_) (fun c58 => ?_)
    · have h := it c58 h
      exact hz140 x_g_55 H locs ls h hW (lv_sub hl [0, 1, 2, 3, 4] rfl)
    · have h := ie c58 h
      refine lv_bipush (v := 7) E.1 E.2.1 dX13_folds_61 (by decide) ?_
      refine lv_iload_n E.1 E.2.1 dX13_folds_63 rfl (lv_at hl 2 rfl) ?_
      refine lv_iload_n E.1 E.2.1 dX13_folds_64 rfl (lv_at hl 1 rfl) ?_
      refine lv_iload E.1 E.2.1 dX13_folds_65 (lv_at hl 4 rfl) ?_
      refine lv_isub E.1 E.2.1 dX13_folds_67 ?_
      refine lv_imul E.1 E.2.1 dX13_folds_68 ?_
      refine lv_iadd E.1 E.2.1 dX13_folds_69 ?_
      refine lv_iload_n E.1 E.2.1 dX13_folds_70 rfl (lv_at hl 3 rfl) ?_
      refine lv_iload E.1 E.2.1 dX13_folds_71 (lv_at hl 5 rfl) ?_
      refine lv_imul E.1 E.2.1 dX13_folds_73 ?_
      refine lv_iadd E.1 E.2.1 dX13_folds_74 ?_
      refine lv_istore (lv' := [(6, .int ((7 + (l2 * (l1 - l4))) + (l3 * l5_55))), (0, .ref h0), (1, .int l1), (2, .int l2), (3, .int l3), (4, .int l4), (5, .int l5_55)]) E.1 E.2.1 dX13_folds_75 hl (by decide) rfl (fun ls hl => ?_)
      refine lv_bipush (v := 7) E.1 E.2.1 dX13_folds_77 (by decide) ?_
      refine lv_iload_n E.1 E.2.1 dX13_folds_79 rfl (lv_at hl 3 rfl) ?_
      refine lv_iload_n E.1 E.2.1 dX13_folds_80 rfl (lv_at hl 2 rfl) ?_
      refine lv_iload E.1 E.2.1 dX13_folds_81 (lv_at hl 5 rfl) ?_
      refine lv_iadd E.1 E.2.1 dX13_folds_83 ?_
      refine lv_imul E.1 E.2.1 dX13_folds_84 ?_
      refine lv_iadd E.1 E.2.1 dX13_folds_85 ?_
      refine lv_iload_n E.1 E.2.1 dX13_folds_86 rfl (lv_at hl 4 rfl) ?_
      refine lv_iload E.1 E.2.1 dX13_folds_87 (lv_at hl 6 rfl) ?_
      refine lv_imul E.1 E.2.1 dX13_folds_89 ?_
      refine lv_iadd E.1 E.2.1 dX13_folds_90 ?_
      refine lv_istore (lv' := [(7, .int ((7 + (l2 * (l1 + l4))) + (l3 * l5_55))), (6, .int ((7 + (l2 * (l1 - l4))) + (l3 * l5_55))), (0, .ref h0), (1, .int l1), (2, .int l2), (3, .int l3), (4, .int l4), (5, .int l5_55)]) E.1 E.2.1 dX13_folds_91 hl (by decide) rfl (fun ls hl => ?_)
      refine lv_aload_n E.1 E.2.1 dX13_folds_93 rfl (lv_at hl 2 rfl) ?_
      refine wGet (v := .ref h1) E hK in_X13_folds_X13 hW 0 lk_X13_folds_7 0 rfl rfl (by decide) rfl rfl dX13_folds_94 ?_
      refine lv_iload E.1 E.2.1 dX13_folds_97 (lv_at hl 1 rfl) ?_
      obtain ⟨hi99, h⟩ := ox h
      refine wIald E hK hW 1 rfl hi99 dX13_folds_99 ?_
      refine lv_aload_n E.1 E.2.1 dX13_folds_100 rfl (lv_at hl 2 rfl) ?_
      refine wGet (v := .ref h1) E hK in_X13_folds_X13 hW 0 lk_X13_folds_7 0 rfl rfl (by decide) rfl rfl dX13_folds_101 ?_
      refine lv_iload E.1 E.2.1 dX13_folds_104 (lv_at hl 0 rfl) ?_
      obtain ⟨hi106, h⟩ := ox h
      refine wIald E hK hW 1 rfl hi106 dX13_folds_106 ?_
      refine lv_iadd E.1 E.2.1 dX13_folds_107 ?_
      refine lv_istore (lv' := [(8, .int ((x_g_55 ((7 + (l2 * (l1 - l4))) + (l3 * l5_55)).toNatClampNeg) + (x_g_55 ((7 + (l2 * (l1 + l4))) + (l3 * l5_55)).toNatClampNeg))), (7, .int ((7 + (l2 * (l1 + l4))) + (l3 * l5_55))), (6, .int ((7 + (l2 * (l1 - l4))) + (l3 * l5_55))), (0, .ref h0), (1, .int l1), (2, .int l2), (3, .int l3), (4, .int l4), (5, .int l5_55)]) E.1 E.2.1 dX13_folds_108 hl (by decide) rfl (fun ls hl => ?_)
      refine lv_aload_n E.1 E.2.1 dX13_folds_110 rfl (lv_at hl 3 rfl) ?_
      refine wGet (v := .ref h1) E hK in_X13_folds_X13 hW 0 lk_X13_folds_7 0 rfl rfl (by decide) rfl rfl dX13_folds_111 ?_
      refine lv_iload E.1 E.2.1 dX13_folds_114 (lv_at hl 2 rfl) ?_
      refine lv_iload E.1 E.2.1 dX13_folds_116 (lv_at hl 0 rfl) ?_
      refine lv_iconst (v := 1) E.1 E.2.1 dX13_folds_118 (by decide) ?_
      refine lv_iadd E.1 E.2.1 dX13_folds_119 ?_
      refine lv_iconst (v := 2) E.1 E.2.1 dX13_folds_120 (by decide) ?_
      refine lv_idiv E.1 E.2.1 dX13_folds_121 (by decide) ?_
      refine wIast (world' := (w_X13 g h0 h1 h2 h3 h4 h5 h6 h7 h8 h9 h10 h11 h12 h13 (upd x_g_55 ((7 + (l2 * (l1 - l4))) + (l3 * l5_55)).toNatClampNeg ((((x_g_55 ((7 + (l2 * (l1 - l4))) + (l3 * l5_55)).toNatClampNeg) + (x_g_55 ((7 + (l2 * (l1 + l4))) + (l3 * l5_55)).toNatClampNeg)) + 1) / 2)) x_kept x_saved x_before x_was x_region x_parts x_next x_ways x_more x_whole x_isSaved x_changes x_isWithin x_code x_input x_length x_fault x_failed x_signs x_signMany x_at x_told x_toldMany)) E hK hW 1 rfl hi99 dX13_folds_122 rfl (fun H locs hW => ?_)
      refine lv_aload_n E.1 E.2.1 dX13_folds_123 rfl (lv_at hl 3 rfl) ?_
      refine wGet (v := .ref h1) E hK in_X13_folds_X13 hW 0 lk_X13_folds_7 0 rfl rfl (by decide) rfl rfl dX13_folds_124 ?_
      refine lv_iload E.1 E.2.1 dX13_folds_127 (lv_at hl 1 rfl) ?_
      refine lv_iload E.1 E.2.1 dX13_folds_129 (lv_at hl 0 rfl) ?_
      refine lv_iconst (v := 2) E.1 E.2.1 dX13_folds_131 (by decide) ?_
      refine lv_idiv E.1 E.2.1 dX13_folds_132 (by decide) ?_
      refine wIast (world' := (w_X13 g h0 h1 h2 h3 h4 h5 h6 h7 h8 h9 h10 h11 h12 h13 (upd (upd x_g_55 ((7 + (l2 * (l1 - l4))) + (l3 * l5_55)).toNatClampNeg ((((x_g_55 ((7 + (l2 * (l1 - l4))) + (l3 * l5_55)).toNatClampNeg) + (x_g_55 ((7 + (l2 * (l1 + l4))) + (l3 * l5_55)).toNatClampNeg)) + 1) / 2)) ((7 + (l2 * (l1 + l4))) + (l3 * l5_55)).toNatClampNeg (((x_g_55 ((7 + (l2 * (l1 - l4))) + (l3 * l5_55)).toNatClampNeg) + (x_g_55 ((7 + (l2 * (l1 + l4))) + (l3 * l5_55)).toNatClampNeg)) / 2)) x_kept x_saved x_before x_was x_region x_parts x_next x_ways x_more x_whole x_isSaved x_changes x_isWithin x_code x_input x_length x_fault x_failed x_signs x_signMany x_at x_told x_toldMany)) E hK hW 1 rfl hi106 dX13_folds_133 rfl (fun H locs hW => ?_)
      refine lv_iinc (v := (l5_55 + 1)) (lv' := [(5, .int (l5_55 + 1)), (8, .int ((x_g_55 ((7 + (l2 * (l1 - l4))) + (l3 * l5_55)).toNatClampNeg) + (x_g_55 ((7 + (l2 * (l1 + l4))) + (l3 * l5_55)).toNatClampNeg))), (7, .int ((7 + (l2 * (l1 + l4))) + (l3 * l5_55))), (6, .int ((7 + (l2 * (l1 - l4))) + (l3 * l5_55))), (0, .ref h0), (1, .int l1), (2, .int l2), (3, .int l3), (4, .int l4)]) E.1 E.2.1 dX13_folds_134 hl (k := 8) rfl rfl (by decide) rfl (fun ls hl => ?_)
      refine lv_goto (tgt := 55) E.1 E.2.1 dX13_folds_137 (by decide) ?_
      exact ih (l5_55 + 1) (upd (upd x_g_55 ((7 + (l2 * (l1 - l4))) + (l3 * l5_55)).toNatClampNeg ((((x_g_55 ((7 + (l2 * (l1 - l4))) + (l3 * l5_55)).toNatClampNeg) + (x_g_55 ((7 + (l2 * (l1 + l4))) + (l3 * l5_55)).toNatClampNeg)) + 1) / 2)) ((7 + (l2 * (l1 + l4))) + (l3 * l5_55)).toNatClampNeg (((x_g_55 ((7 + (l2 * (l1 - l4))) + (l3 * l5_55)).toNatClampNeg) + (x_g_55 ((7 + (l2 * (l1 + l4))) + (l3 * l5_55)).toNatClampNeg)) / 2)) H locs ls h hW (lv_sub hl [4, 5, 6, 7, 8, 0] rfl)
set_option maxHeartbeats 4000000 in
set_option maxRecDepth 100000 in
theorem k_X13_folds_38 {p : Program} {l : Launch} {e : Env} {s : State} {m : MethodId} {args : Array Value} {below : List Frame} {meth : Method} {c : Code} {g : GE} {A : Nat → Prop} {h0 h1 h2 h3 h4 h5 h6 h7 h8 h9 h10 h11 h12 h13 : Nat} {x_kept : Nat → Int32} {x_saved : Nat → Int32} {x_before : Nat → Int32} {x_was : Nat → Int32} {x_region : Nat → Int32} {x_parts : Nat → Int64} {x_next : Nat → Int64} {x_ways : Nat → Int32} {x_more : Nat → Int32} {x_whole : Int64} {x_isSaved : Int32} {x_changes : Int32} {x_isWithin : Int32} {x_code : Int32} {x_input : Nat → Int32} {x_length : Int32} {x_fault : Int32} {x_failed : Int32} {x_signs : Nat → Int32} {x_signMany : Int32} {x_at : Int32} {x_told : Nat → Int32} {x_toldMany : Int32} {res : Int32 × (Nat → Int32) × (Nat → Int32) × (Nat → Int32) × Int32 × Int32} {l1 : Int32} {l2 : Int32} {l3 : Int32} {z146 : (Nat → Int32) → Option (Int32 × (Nat → Int32) × (Nat → Int32) × (Nat → Int32) × Int32 × Int32)}
    (E : En cX13_folds RX13 wsX13_folds 9 (some .int) p s m args meth c) (hK : KK g s) (hA : ∀ q, s.heap.size ≤ q → A q)
    (hz146 : ∀ (x_g_146e : Nat → Int32) (H : Heap) (locs : List Loc) (ls : Array Slot), z146 x_g_146e = some res → Wo g A s H locs (w_X13 g h0 h1 h2 h3 h4 h5 h6 h7 h8 h9 h10 h11 h12 h13 x_g_146e x_kept x_saved x_before x_was x_region x_parts x_next x_ways x_more x_whole x_isSaved x_changes x_isWithin x_code x_input x_length x_fault x_failed x_signs x_signMany x_at x_told x_toldMany) → lv_has ls 9 [(0, .ref h0)] → G_X13_folds p l e s m args below meth c g A h0 h1 h2 h3 h4 h5 h6 h7 h8 h9 h10 h11 h12 h13 x_saved x_before x_region x_parts x_next x_ways x_more x_whole x_isSaved x_isWithin x_input x_length x_fault x_failed x_signs x_signMany x_at x_told x_toldMany res H locs 146 ls [])
    : ∀ (n : Nat) (l4_38 : Int32) (x_g_38 : Nat → Int32) (H : Heap) (locs : List Loc) (ls : Array Slot), f_X13_folds_38 l1 l2 l3 z146 n l4_38 x_g_38 = some res → Wo g A s H locs (w_X13 g h0 h1 h2 h3 h4 h5 h6 h7 h8 h9 h10 h11 h12 h13 x_g_38 x_kept x_saved x_before x_was x_region x_parts x_next x_ways x_more x_whole x_isSaved x_changes x_isWithin x_code x_input x_length x_fault x_failed x_signs x_signMany x_at x_told x_toldMany) → lv_has ls 9 [(0, .ref h0), (1, .int l1), (2, .int l2), (3, .int l3), (4, .int l4_38)] → G_X13_folds p l e s m args below meth c g A h0 h1 h2 h3 h4 h5 h6 h7 h8 h9 h10 h11 h12 h13 x_saved x_before x_region x_parts x_next x_ways x_more x_whole x_isSaved x_isWithin x_input x_length x_fault x_failed x_signs x_signMany x_at x_told x_toldMany res H locs 38 ls [] := by
  have hts := E.2.2.2.1
  intro n
  induction n with
  | zero => intro l4_38 x_g_38 H locs ls h hW hl; rw [f_X13_folds_38] at h; cases h
  | succ n ih =>
    intro l4_38 x_g_38 H locs ls h hW hl
    rw [f_X13_folds_38] at h
    refine lv_iload E.1 E.2.1 dX13_folds_38 (lv_at hl 4 rfl) ?_
    refine lv_iload_n E.1 E.2.1 dX13_folds_40 rfl (lv_at hl 1 rfl) ?_
    refine lv_icmp_gt (tgt := 146) E.1 E.2.1 dX13_folds_41 (by decide) (fun c41 => ?_) (fun c41 => ?_)
    · have h := it c41 h
      exact hz146 x_g_38 H locs ls h hW (lv_sub hl [0] rfl)
    · have h := ie c41 h
      refine lv_iload_n E.1 E.2.1 dX13_folds_44 rfl (lv_at hl 1 rfl) ?_
      refine lv_iload E.1 E.2.1 dX13_folds_45 (lv_at hl 4 rfl) ?_
      refine lv_iadd E.1 E.2.1 dX13_folds_47 ?_
      refine lv_iconst (v := 5) E.1 E.2.1 dX13_folds_48 (by decide) ?_
      refine lv_icmp_ge (tgt := 146) E.1 E.2.1 dX13_folds_49 (by decide) (fun c49 => ?_) (fun c49 => ?_)
      · have h := it c49 h
        exact hz146 x_g_38 H locs ls h hW (lv_sub hl [0] rfl)
      · have h := ie c49 h
        refine lv_iconst (v := 0) E.1 E.2.1 dX13_folds_52 (by decide) ?_
        refine lv_istore (lv' := [(5, .int 0), (0, .ref h0), (1, .int l1), (2, .int l2), (3, .int l3), (4, .int l4_38)]) E.1 E.2.1 dX13_folds_53 hl (by decide) rfl (fun ls hl => ?_)
        refine k_X13_folds_55 E hK hA ?_ 1000 0 x_g_38 H locs ls h hW (lv_sub hl [1, 2, 3, 4, 5, 0] rfl)
        · intro x_g_140e H locs ls h hW hl
          refine lv_iinc (v := (l4_38 + 1)) (lv' := [(4, .int (l4_38 + 1)), (0, .ref h0), (1, .int l1), (2, .int l2), (3, .int l3)]) E.1 E.2.1 dX13_folds_140 hl (k := 4) rfl rfl (by decide) rfl (fun ls hl => ?_)
          refine lv_goto (tgt := 38) E.1 E.2.1 dX13_folds_143 (by decide) ?_
          exact ih (l4_38 + 1) x_g_140e H locs ls h hW (lv_sub hl [1, 2, 3, 4, 0] rfl)
set_option maxHeartbeats 4000000 in
set_option maxRecDepth 100000 in
theorem k_X13_folds_0 {p : Program} {l : Launch} {e : Env} {s : State} {m : MethodId} {args : Array Value} {below : List Frame} {meth : Method} {c : Code} {g : GE} {A : Nat → Prop} {h0 h1 h2 h3 h4 h5 h6 h7 h8 h9 h10 h11 h12 h13 : Nat} {x_g : Nat → Int32} {x_kept : Nat → Int32} {x_saved : Nat → Int32} {x_before : Nat → Int32} {x_was : Nat → Int32} {x_region : Nat → Int32} {x_parts : Nat → Int64} {x_next : Nat → Int64} {x_ways : Nat → Int32} {x_more : Nat → Int32} {x_whole : Int64} {x_isSaved : Int32} {x_changes : Int32} {x_isWithin : Int32} {x_code : Int32} {x_input : Nat → Int32} {x_length : Int32} {x_fault : Int32} {x_failed : Int32} {x_signs : Nat → Int32} {x_signMany : Int32} {x_at : Int32} {x_told : Nat → Int32} {x_toldMany : Int32} {res : Int32 × (Nat → Int32) × (Nat → Int32) × (Nat → Int32) × Int32 × Int32} {H : Heap} {locs : List Loc} {ls : Array Slot} {a1 : Int32} {a2 : Int32} {a3 : Int32}
    (E : En cX13_folds RX13 wsX13_folds 9 (some .int) p s m args meth c) (hK : KK g s) (hA : ∀ q, s.heap.size ≤ q → A q) (h : f_X13_folds x_g x_kept x_was x_changes x_isWithin x_code a1 a2 a3 = some res) (hW : Wo g A s H locs (w_X13 g h0 h1 h2 h3 h4 h5 h6 h7 h8 h9 h10 h11 h12 h13 x_g x_kept x_saved x_before x_was x_region x_parts x_next x_ways x_more x_whole x_isSaved x_changes x_isWithin x_code x_input x_length x_fault x_failed x_signs x_signMany x_at x_told x_toldMany)) (hl : lv_has ls 9 [(0, .ref h0), (1, .int a1), (2, .int a2), (3, .int a3)]) : G_X13_folds p l e s m args below meth c g A h0 h1 h2 h3 h4 h5 h6 h7 h8 h9 h10 h11 h12 h13 x_saved x_before x_region x_parts x_next x_ways x_more x_whole x_isSaved x_isWithin x_input x_length x_fault x_failed x_signs x_signMany x_at x_told x_toldMany res H locs 0 ls [] := by
  have hts := E.2.2.2.1
  unfold f_X13_folds at h
  obtain ⟨j15, hj15, h⟩ := jox1 h
  have J15 : ∀ (s1_15 : Int32) (H : Heap) (locs : List Loc) (ls : Array Slot), j15 s1_15 = some res → Wo g A s H locs (w_X13 g h0 h1 h2 h3 h4 h5 h6 h7 h8 h9 h10 h11 h12 h13 x_g x_kept x_saved x_before x_was x_region x_parts x_next x_ways x_more x_whole x_isSaved x_changes x_isWithin x_code x_input x_length x_fault x_failed x_signs x_signMany x_at x_told x_toldMany) → lv_has ls 9 [(0, .ref h0), (1, .int a1), (2, .int a2), (3, .int a3)] → G_X13_folds p l e s m args below meth c g A h0 h1 h2 h3 h4 h5 h6 h7 h8 h9 h10 h11 h12 h13 x_saved x_before x_region x_parts x_next x_ways x_more x_whole x_isSaved x_isWithin x_input x_length x_fault x_failed x_signs x_signMany x_at x_told x_toldMany res H locs 15 ls [.int s1_15, .ref h0] := by
    intro s1_15 H locs ls h hW hl
    rw [hj15] at h
    obtain ⟨r15, hc, h⟩ := bx h
    refine goI (world' := (w_X13 g h0 h1 h2 h3 h4 h5 h6 h7 h8 h9 h10 h11 h12 h13 x_g x_kept x_saved x_before x_was x_region x_parts x_next x_ways x_more x_whole x_isSaved x_changes x_isWithin r15.2 x_input x_length x_fault x_failed x_signs x_signMany x_at x_told x_toldMany)) hW hA (is := [0, 1, 2, 3, 4, 5, 6, 7, 8, 9, 10, 11, 12, 13]) rfl (goV (rest := []) E hK hW [0, 1, 2, 3, 4, 5, 6, 7, 8, 9, 10, 11, 12, 13] rfl rfl (c_X13_fails l g h0 h1 h2 h3 h4 h5 h6 h7 h8 h9 h10 h11 h12 h13 x_g x_kept x_saved x_before x_was x_region x_parts x_next x_ways x_more x_whole x_isSaved x_changes x_isWithin x_code x_input x_length x_fault x_failed x_signs x_signMany x_at x_told x_toldMany s1_15 (hf := hc) H.size) (cwV 1 hts gX13_folds_X13_fails rfl rfl rfl (by decide +kernel) ⟨Nat.le_of_ble_eq_true rfl, Nat.le_of_ble_eq_true rfl⟩) 0 rfl rfl rfl hl.1 rfl rfl (Nat.le_of_ble_eq_true rfl) dX13_folds_15 ⟨Nat.zero_le _, Nat.zero_le _⟩) rfl rfl (fun H locs hW => ?_)
    refine lv_if_eq (tgt := 23) E.1 E.2.1 dX13_folds_18 (by decide) (fun c18 => ?_) (fun c18 => ?_)
    · have h := it c18 h
      refine lv_aload_n E.1 E.2.1 dX13_folds_23 rfl (lv_at hl 0 rfl) ?_
      obtain ⟨r24, hc, h⟩ := bx h
      refine goU (world' := (w_X13 g h0 h1 h2 h3 h4 h5 h6 h7 h8 h9 h10 h11 h12 h13 x_g x_kept x_saved x_before r24 x_region x_parts x_next x_ways x_more x_whole x_isSaved x_changes x_isWithin r15.2 x_input x_length x_fault x_failed x_signs x_signMany x_at x_told x_toldMany)) hW hA (is := [0, 1, 2, 3, 4, 5, 6, 7, 8, 9, 10, 11, 12, 13]) rfl (goV (rest := []) E hK hW [0, 1, 2, 3, 4, 5, 6, 7, 8, 9, 10, 11, 12, 13] rfl rfl (c_X13_looks l g h0 h1 h2 h3 h4 h5 h6 h7 h8 h9 h10 h11 h12 h13 x_g x_kept x_saved x_before x_was x_region x_parts x_next x_ways x_more x_whole x_isSaved x_changes x_isWithin r15.2 x_input x_length x_fault x_failed x_signs x_signMany x_at x_told x_toldMany (hf := hc) H.size) (cwV 0 hts gX13_folds_X13_looks rfl rfl rfl (by decide +kernel) ⟨Nat.le_of_ble_eq_true rfl, Nat.le_of_ble_eq_true rfl⟩) 0 rfl rfl rfl hl.1 rfl rfl (Nat.le_of_ble_eq_true rfl) dX13_folds_24 ⟨Nat.zero_le _, Nat.zero_le _⟩) rfl rfl (fun H locs hW => ?_)
      refine lv_aload_n E.1 E.2.1 dX13_folds_27 rfl (lv_at hl 0 rfl) ?_
      refine lv_aload_n E.1 E.2.1 dX13_folds_28 rfl (lv_at hl 0 rfl) ?_
      refine wGet (v := .ref h1) E hK in_X13_folds_X13 hW 0 lk_X13_folds_7 0 rfl rfl (by decide) rfl rfl dX13_folds_29 ?_
      obtain ⟨r32, hc, h⟩ := bx h
      refine goU (world' := (w_X13 g h0 h1 h2 h3 h4 h5 h6 h7 h8 h9 h10 h11 h12 h13 x_g r32.1 x_saved x_before r24 x_region x_parts x_next x_ways x_more x_whole x_isSaved r32.2.1 x_isWithin r32.2.2 x_input x_length x_fault x_failed x_signs x_signMany x_at x_told x_toldMany)) hW hA (is := [0, 1, 2, 3, 4, 5, 6, 7, 8, 9, 10, 11, 12, 13]) rfl (goV (rest := []) E hK hW [0, 1, 2, 3, 4, 5, 6, 7, 8, 9, 10, 11, 12, 13] rfl rfl (c_X13_keeps__g l g h0 h1 h2 h3 h4 h5 h6 h7 h8 h9 h10 h11 h12 h13 x_g x_kept x_saved x_before r24 x_region x_parts x_next x_ways x_more x_whole x_isSaved x_changes x_isWithin r15.2 x_input x_length x_fault x_failed x_signs x_signMany x_at x_told x_toldMany (hf := hc) H.size) (cwV 1 hts gX13_folds_X13_keeps rfl rfl rfl (by decide +kernel) ⟨Nat.le_of_ble_eq_true rfl, Nat.le_of_ble_eq_true rfl⟩) 0 rfl rfl rfl hl.1 rfl rfl (Nat.le_of_ble_eq_true rfl) dX13_folds_32 ⟨Nat.zero_le _, Nat.zero_le _⟩) rfl rfl (fun H locs hW => ?_)
      refine lv_iconst (v := 1) E.1 E.2.1 dX13_folds_35 (by decide) ?_
      refine lv_istore (lv' := [(4, .int 1), (0, .ref h0), (1, .int a1), (2, .int a2), (3, .int a3)]) E.1 E.2.1 dX13_folds_36 hl (by decide) rfl (fun ls hl => ?_)
      refine k_X13_folds_38 E hK hA ?_ 1000 1 x_g H locs ls h hW (lv_sub hl [1, 2, 3, 4, 0] rfl)
      · intro x_g_146e H locs ls h hW hl
        refine lv_aload_n E.1 E.2.1 dX13_folds_146 rfl (lv_at hl 0 rfl) ?_
        obtain ⟨r147, hc, h⟩ := bx h
        refine goI (world' := (w_X13 g h0 h1 h2 h3 h4 h5 h6 h7 h8 h9 h10 h11 h12 h13 x_g_146e r32.1 x_saved x_before r24 x_region x_parts x_next x_ways x_more x_whole x_isSaved r32.2.1 x_isWithin r32.2.2 x_input x_length x_fault x_failed x_signs x_signMany x_at x_told x_toldMany)) hW hA (is := [0, 1, 2, 3, 4, 5, 6, 7, 8, 9, 10, 11, 12, 13]) rfl (goV (rest := []) E hK hW [0, 1, 2, 3, 4, 5, 6, 7, 8, 9, 10, 11, 12, 13] rfl rfl (c_X13_others l g h0 h1 h2 h3 h4 h5 h6 h7 h8 h9 h10 h11 h12 h13 x_g_146e r32.1 x_saved x_before r24 x_region x_parts x_next x_ways x_more x_whole x_isSaved r32.2.1 x_isWithin r32.2.2 x_input x_length x_fault x_failed x_signs x_signMany x_at x_told x_toldMany (hf := hc) H.size) (cwV 0 hts gX13_folds_X13_others rfl rfl rfl (by decide +kernel) ⟨Nat.le_of_ble_eq_true rfl, Nat.le_of_ble_eq_true rfl⟩) 0 rfl rfl rfl hl.1 rfl rfl (Nat.le_of_ble_eq_true rfl) dX13_folds_147 ⟨Nat.zero_le _, Nat.zero_le _⟩) rfl rfl (fun H locs hW => ?_)
        obtain rfl := Option.some.inj h
        exact endI E rfl hW dX13_folds_150
    · have h := ie c18 h
      refine lv_iconst (v := 0) E.1 E.2.1 dX13_folds_21 (by decide) ?_
      obtain rfl := Option.some.inj h
      exact endI E rfl hW dX13_folds_22
  refine lv_aload_n E.1 E.2.1 dX13_folds_0 rfl (lv_at hl 0 rfl) ?_
  refine lv_iload_n E.1 E.2.1 dX13_folds_1 rfl (lv_at hl 1 rfl) ?_
  refine lv_iconst (v := 1) E.1 E.2.1 dX13_folds_2 (by decide) ?_
  refine lv_iconst (v := 3) E.1 E.2.1 dX13_folds_3 (by decide) ?_
  obtain ⟨r4, hc, h⟩ := bx h
  refine goI (world' := (w_X13 g h0 h1 h2 h3 h4 h5 h6 h7 h8 h9 h10 h11 h12 h13 x_g x_kept x_saved x_before x_was x_region x_parts x_next x_ways x_more x_whole x_isSaved x_changes x_isWithin x_code x_input x_length x_fault x_failed x_signs x_signMany x_at x_told x_toldMany)) hW hA (is := []) rfl (goS (rest := [.ref h0]) E hK hW [] rfl rfl (c_X13_in l g a1 1 3 (hf := hc) H.size) (va_cwS 3 hts gX13_folds_X13_in rfl rfl rfl (by decide +kernel) ⟨Nat.le_of_ble_eq_true rfl, Nat.le_of_ble_eq_true rfl⟩) hl.1 rfl rfl (Nat.le_of_ble_eq_true rfl) dX13_folds_4 ⟨Nat.zero_le _, Nat.zero_le _⟩) rfl rfl (fun H locs hW => ?_)
  refine lv_if_eq (tgt := 14) E.1 E.2.1 dX13_folds_7 (by decide) (fun c7 => ?_) (fun c7 => ?_)
  · have h := it c7 h
    refine lv_iconst (v := 1) E.1 E.2.1 dX13_folds_14 (by decide) ?_
    exact J15 1 H locs ls h hW (lv_sub hl [0, 1, 2, 3] rfl)
  · have h := ie c7 h
    refine lv_iconst (v := 0) E.1 E.2.1 dX13_folds_10 (by decide) ?_
    refine lv_goto (tgt := 15) E.1 E.2.1 dX13_folds_11 (by decide) ?_
    exact J15 0 H locs ls h hW (lv_sub hl [0, 1, 2, 3] rfl)
theorem c_X13_folds (l : Launch) (g : GE) (h0 h1 h2 h3 h4 h5 h6 h7 h8 h9 h10 h11 h12 h13 : Nat) (x_g : Nat → Int32) (x_kept : Nat → Int32) (x_saved : Nat → Int32) (x_before : Nat → Int32) (x_was : Nat → Int32) (x_region : Nat → Int32) (x_parts : Nat → Int64) (x_next : Nat → Int64) (x_ways : Nat → Int32) (x_more : Nat → Int32) (x_whole : Int64) (x_isSaved : Int32) (x_changes : Int32) (x_isWithin : Int32) (x_code : Int32) (x_input : Nat → Int32) (x_length : Int32) (x_fault : Int32) (x_failed : Int32) (x_signs : Nat → Int32) (x_signMany : Int32) (x_at : Int32) (x_told : Nat → Int32) (x_toldMany : Int32) (a1 : Int32) (a2 : Int32) (a3 : Int32) {res : Int32 × (Nat → Int32) × (Nat → Int32) × (Nat → Int32) × Int32 × Int32} (hf : f_X13_folds x_g x_kept x_was x_changes x_isWithin x_code a1 a2 a3 = some res) : CI l yX13_folds wsX13_folds rm_X13_folds g [.ref h0, .int a1, .int a2, .int a3] (w_X13 g h0 h1 h2 h3 h4 h5 h6 h7 h8 h9 h10 h11 h12 h13 x_g x_kept x_saved x_before x_was x_region x_parts x_next x_ways x_more x_whole x_isSaved x_changes x_isWithin x_code x_input x_length x_fault x_failed x_signs x_signMany x_at x_told x_toldMany) (w_X13 g h0 h1 h2 h3 h4 h5 h6 h7 h8 h9 h10 h11 h12 h13 res.2.1 res.2.2.1 x_saved x_before res.2.2.2.1 x_region x_parts x_next x_ways x_more x_whole x_isSaved res.2.2.2.2.1 x_isWithin res.2.2.2.2.2 x_input x_length x_fault x_failed x_signs x_signMany x_at x_told x_toldMany) res.1 :=
  mkI (cc := cX13_folds) (maxL := 9) (by decide) rfl (Nat.le_of_ble_eq_true rfl) (fun p e s m args below meth c A H locs ls E hK hA hW hl => k_X13_folds_0 E hK hA hf hW hl)

/-! PaperStormModel.foldRow(I)I X13_foldRow -/
abbrev rm_X13_foldRow : Room := { frames := 3, cells := 0, slots := 0, locals := 74 }
noncomputable def f_X13_foldRow (x_g : Nat → Int32) (x_kept : Nat → Int32) (x_was : Nat → Int32) (x_changes : Int32) (x_isWithin : Int32) (x_code : Int32) (a1 : Int32) : Option (Int32 × (Nat → Int32) × (Nat → Int32) × (Nat → Int32) × Int32 × Int32) :=
  (f_X13_folds x_g x_kept x_was x_changes x_isWithin x_code a1 5 1).bind fun r4 => some (r4.1, r4.2.1, r4.2.2.1, r4.2.2.2.1, r4.2.2.2.2.1, r4.2.2.2.2.2)
abbrev G_X13_foldRow (p : Program) (l : Launch) (e : Env) (s : State) (m : MethodId) (args : Array Value) (below : List Frame) (meth : Method) (c : Code) (g : GE) (A : Nat → Prop) (h0 h1 h2 h3 h4 h5 h6 h7 h8 h9 h10 h11 h12 h13 : Nat) (x_saved : Nat → Int32) (x_before : Nat → Int32) (x_region : Nat → Int32) (x_parts : Nat → Int64) (x_next : Nat → Int64) (x_ways : Nat → Int32) (x_more : Nat → Int32) (x_whole : Int64) (x_isSaved : Int32) (x_isWithin : Int32) (x_input : Nat → Int32) (x_length : Int32) (x_fault : Int32) (x_failed : Int32) (x_signs : Nat → Int32) (x_signMany : Int32) (x_at : Int32) (x_told : Nat → Int32) (x_toldMany : Int32) (res : Int32 × (Nat → Int32) × (Nat → Int32) × (Nat → Int32) × Int32 × Int32) (H : Heap) (locs : List Loc) (pc : Nat) (ls : Array Slot) (st : List Value) : Prop := W p l e (headSpec wsX13_foldRow rm_X13_foldRow).room s m args below meth c H locs 0 0 (MQ below (PoI g A (w_X13 g h0 h1 h2 h3 h4 h5 h6 h7 h8 h9 h10 h11 h12 h13 res.2.1 res.2.2.1 x_saved x_before res.2.2.2.1 x_region x_parts x_next x_ways x_more x_whole x_isSaved res.2.2.2.2.1 x_isWithin res.2.2.2.2.2 x_input x_length x_fault x_failed x_signs x_signMany x_at x_told x_toldMany) res.1) args s 0 0 A) (F0 m pc ls st)
set_option maxHeartbeats 4000000 in
set_option maxRecDepth 100000 in
theorem k_X13_foldRow_0 {p : Program} {l : Launch} {e : Env} {s : State} {m : MethodId} {args : Array Value} {below : List Frame} {meth : Method} {c : Code} {g : GE} {A : Nat → Prop} {h0 h1 h2 h3 h4 h5 h6 h7 h8 h9 h10 h11 h12 h13 : Nat} {x_g : Nat → Int32} {x_kept : Nat → Int32} {x_saved : Nat → Int32} {x_before : Nat → Int32} {x_was : Nat → Int32} {x_region : Nat → Int32} {x_parts : Nat → Int64} {x_next : Nat → Int64} {x_ways : Nat → Int32} {x_more : Nat → Int32} {x_whole : Int64} {x_isSaved : Int32} {x_changes : Int32} {x_isWithin : Int32} {x_code : Int32} {x_input : Nat → Int32} {x_length : Int32} {x_fault : Int32} {x_failed : Int32} {x_signs : Nat → Int32} {x_signMany : Int32} {x_at : Int32} {x_told : Nat → Int32} {x_toldMany : Int32} {res : Int32 × (Nat → Int32) × (Nat → Int32) × (Nat → Int32) × Int32 × Int32} {H : Heap} {locs : List Loc} {ls : Array Slot} {a1 : Int32}
    (E : En cX13_foldRow RX13 wsX13_foldRow 2 (some .int) p s m args meth c) (hK : KK g s) (hA : ∀ q, s.heap.size ≤ q → A q) (h : f_X13_foldRow x_g x_kept x_was x_changes x_isWithin x_code a1 = some res) (hW : Wo g A s H locs (w_X13 g h0 h1 h2 h3 h4 h5 h6 h7 h8 h9 h10 h11 h12 h13 x_g x_kept x_saved x_before x_was x_region x_parts x_next x_ways x_more x_whole x_isSaved x_changes x_isWithin x_code x_input x_length x_fault x_failed x_signs x_signMany x_at x_told x_toldMany)) (hl : lv_has ls 2 [(0, .ref h0), (1, .int a1)]) : G_X13_foldRow p l e s m args below meth c g A h0 h1 h2 h3 h4 h5 h6 h7 h8 h9 h10 h11 h12 h13 x_saved x_before x_region x_parts x_next x_ways x_more x_whole x_isSaved x_isWithin x_input x_length x_fault x_failed x_signs x_signMany x_at x_told x_toldMany res H locs 0 ls [] := by
  have hts := E.2.2.2.1
  unfold f_X13_foldRow at h
  refine lv_aload_n E.1 E.2.1 dX13_foldRow_0 rfl (lv_at hl 0 rfl) ?_
  refine lv_iload_n E.1 E.2.1 dX13_foldRow_1 rfl (lv_at hl 1 rfl) ?_
  refine lv_iconst (v := 5) E.1 E.2.1 dX13_foldRow_2 (by decide) ?_
  refine lv_iconst (v := 1) E.1 E.2.1 dX13_foldRow_3 (by decide) ?_
  obtain ⟨r4, hc, h⟩ := bx h
  refine goI (world' := (w_X13 g h0 h1 h2 h3 h4 h5 h6 h7 h8 h9 h10 h11 h12 h13 r4.2.1 r4.2.2.1 x_saved x_before r4.2.2.2.1 x_region x_parts x_next x_ways x_more x_whole x_isSaved r4.2.2.2.2.1 x_isWithin r4.2.2.2.2.2 x_input x_length x_fault x_failed x_signs x_signMany x_at x_told x_toldMany)) hW hA (is := [0, 1, 2, 3, 4, 5, 6, 7, 8, 9, 10, 11, 12, 13]) rfl (goV (rest := []) E hK hW [0, 1, 2, 3, 4, 5, 6, 7, 8, 9, 10, 11, 12, 13] rfl rfl (c_X13_folds l g h0 h1 h2 h3 h4 h5 h6 h7 h8 h9 h10 h11 h12 h13 x_g x_kept x_saved x_before x_was x_region x_parts x_next x_ways x_more x_whole x_isSaved x_changes x_isWithin x_code x_input x_length x_fault x_failed x_signs x_signMany x_at x_told x_toldMany a1 5 1 (hf := hc) H.size) (cwV 3 hts gX13_foldRow_X13_folds rfl rfl rfl (by decide +kernel) ⟨Nat.le_of_ble_eq_true rfl, Nat.le_of_ble_eq_true rfl⟩) 0 rfl rfl rfl hl.1 rfl rfl (Nat.le_of_ble_eq_true rfl) dX13_foldRow_4 ⟨Nat.zero_le _, Nat.zero_le _⟩) rfl rfl (fun H locs hW => ?_)
  obtain rfl := Option.some.inj h
  exact endI E rfl hW dX13_foldRow_7
theorem c_X13_foldRow (l : Launch) (g : GE) (h0 h1 h2 h3 h4 h5 h6 h7 h8 h9 h10 h11 h12 h13 : Nat) (x_g : Nat → Int32) (x_kept : Nat → Int32) (x_saved : Nat → Int32) (x_before : Nat → Int32) (x_was : Nat → Int32) (x_region : Nat → Int32) (x_parts : Nat → Int64) (x_next : Nat → Int64) (x_ways : Nat → Int32) (x_more : Nat → Int32) (x_whole : Int64) (x_isSaved : Int32) (x_changes : Int32) (x_isWithin : Int32) (x_code : Int32) (x_input : Nat → Int32) (x_length : Int32) (x_fault : Int32) (x_failed : Int32) (x_signs : Nat → Int32) (x_signMany : Int32) (x_at : Int32) (x_told : Nat → Int32) (x_toldMany : Int32) (a1 : Int32) {res : Int32 × (Nat → Int32) × (Nat → Int32) × (Nat → Int32) × Int32 × Int32} (hf : f_X13_foldRow x_g x_kept x_was x_changes x_isWithin x_code a1 = some res) : CI l yX13_foldRow wsX13_foldRow rm_X13_foldRow g [.ref h0, .int a1] (w_X13 g h0 h1 h2 h3 h4 h5 h6 h7 h8 h9 h10 h11 h12 h13 x_g x_kept x_saved x_before x_was x_region x_parts x_next x_ways x_more x_whole x_isSaved x_changes x_isWithin x_code x_input x_length x_fault x_failed x_signs x_signMany x_at x_told x_toldMany) (w_X13 g h0 h1 h2 h3 h4 h5 h6 h7 h8 h9 h10 h11 h12 h13 res.2.1 res.2.2.1 x_saved x_before res.2.2.2.1 x_region x_parts x_next x_ways x_more x_whole x_isSaved res.2.2.2.2.1 x_isWithin res.2.2.2.2.2 x_input x_length x_fault x_failed x_signs x_signMany x_at x_told x_toldMany) res.1 :=
  mkI (cc := cX13_foldRow) (maxL := 2) (by decide) rfl (Nat.le_of_ble_eq_true rfl) (fun p e s m args below meth c A H locs ls E hK hA hW hl => k_X13_foldRow_0 E hK hA hf hW hl)

/-! PaperStormModel.foldColumn(I)I X13_foldColumn -/
abbrev rm_X13_foldColumn : Room := { frames := 3, cells := 0, slots := 0, locals := 74 }
noncomputable def f_X13_foldColumn (x_g : Nat → Int32) (x_kept : Nat → Int32) (x_was : Nat → Int32) (x_changes : Int32) (x_isWithin : Int32) (x_code : Int32) (a1 : Int32) : Option (Int32 × (Nat → Int32) × (Nat → Int32) × (Nat → Int32) × Int32 × Int32) :=
  (f_X13_folds x_g x_kept x_was x_changes x_isWithin x_code a1 1 5).bind fun r4 => some (r4.1, r4.2.1, r4.2.2.1, r4.2.2.2.1, r4.2.2.2.2.1, r4.2.2.2.2.2)
abbrev G_X13_foldColumn (p : Program) (l : Launch) (e : Env) (s : State) (m : MethodId) (args : Array Value) (below : List Frame) (meth : Method) (c : Code) (g : GE) (A : Nat → Prop) (h0 h1 h2 h3 h4 h5 h6 h7 h8 h9 h10 h11 h12 h13 : Nat) (x_saved : Nat → Int32) (x_before : Nat → Int32) (x_region : Nat → Int32) (x_parts : Nat → Int64) (x_next : Nat → Int64) (x_ways : Nat → Int32) (x_more : Nat → Int32) (x_whole : Int64) (x_isSaved : Int32) (x_isWithin : Int32) (x_input : Nat → Int32) (x_length : Int32) (x_fault : Int32) (x_failed : Int32) (x_signs : Nat → Int32) (x_signMany : Int32) (x_at : Int32) (x_told : Nat → Int32) (x_toldMany : Int32) (res : Int32 × (Nat → Int32) × (Nat → Int32) × (Nat → Int32) × Int32 × Int32) (H : Heap) (locs : List Loc) (pc : Nat) (ls : Array Slot) (st : List Value) : Prop := W p l e (headSpec wsX13_foldColumn rm_X13_foldColumn).room s m args below meth c H locs 0 0 (MQ below (PoI g A (w_X13 g h0 h1 h2 h3 h4 h5 h6 h7 h8 h9 h10 h11 h12 h13 res.2.1 res.2.2.1 x_saved x_before res.2.2.2.1 x_region x_parts x_next x_ways x_more x_whole x_isSaved res.2.2.2.2.1 x_isWithin res.2.2.2.2.2 x_input x_length x_fault x_failed x_signs x_signMany x_at x_told x_toldMany) res.1) args s 0 0 A) (F0 m pc ls st)
set_option maxHeartbeats 4000000 in
set_option maxRecDepth 100000 in
theorem k_X13_foldColumn_0 {p : Program} {l : Launch} {e : Env} {s : State} {m : MethodId} {args : Array Value} {below : List Frame} {meth : Method} {c : Code} {g : GE} {A : Nat → Prop} {h0 h1 h2 h3 h4 h5 h6 h7 h8 h9 h10 h11 h12 h13 : Nat} {x_g : Nat → Int32} {x_kept : Nat → Int32} {x_saved : Nat → Int32} {x_before : Nat → Int32} {x_was : Nat → Int32} {x_region : Nat → Int32} {x_parts : Nat → Int64} {x_next : Nat → Int64} {x_ways : Nat → Int32} {x_more : Nat → Int32} {x_whole : Int64} {x_isSaved : Int32} {x_changes : Int32} {x_isWithin : Int32} {x_code : Int32} {x_input : Nat → Int32} {x_length : Int32} {x_fault : Int32} {x_failed : Int32} {x_signs : Nat → Int32} {x_signMany : Int32} {x_at : Int32} {x_told : Nat → Int32} {x_toldMany : Int32} {res : Int32 × (Nat → Int32) × (Nat → Int32) × (Nat → Int32) × Int32 × Int32} {H : Heap} {locs : List Loc} {ls : Array Slot} {a1 : Int32}
    (E : En cX13_foldColumn RX13 wsX13_foldColumn 2 (some .int) p s m args meth c) (hK : KK g s) (hA : ∀ q, s.heap.size ≤ q → A q) (h : f_X13_foldColumn x_g x_kept x_was x_changes x_isWithin x_code a1 = some res) (hW : Wo g A s H locs (w_X13 g h0 h1 h2 h3 h4 h5 h6 h7 h8 h9 h10 h11 h12 h13 x_g x_kept x_saved x_before x_was x_region x_parts x_next x_ways x_more x_whole x_isSaved x_changes x_isWithin x_code x_input x_length x_fault x_failed x_signs x_signMany x_at x_told x_toldMany)) (hl : lv_has ls 2 [(0, .ref h0), (1, .int a1)]) : G_X13_foldColumn p l e s m args below meth c g A h0 h1 h2 h3 h4 h5 h6 h7 h8 h9 h10 h11 h12 h13 x_saved x_before x_region x_parts x_next x_ways x_more x_whole x_isSaved x_isWithin x_input x_length x_fault x_failed x_signs x_signMany x_at x_told x_toldMany res H locs 0 ls [] := by
  have hts := E.2.2.2.1
  unfold f_X13_foldColumn at h
  refine lv_aload_n E.1 E.2.1 dX13_foldColumn_0 rfl (lv_at hl 0 rfl) ?_
  refine lv_iload_n E.1 E.2.1 dX13_foldColumn_1 rfl (lv_at hl 1 rfl) ?_
  refine lv_iconst (v := 1) E.1 E.2.1 dX13_foldColumn_2 (by decide) ?_
  refine lv_iconst (v := 5) E.1 E.2.1 dX13_foldColumn_3 (by decide) ?_
  obtain ⟨r4, hc, h⟩ := bx h
  refine goI (world' := (w_X13 g h0 h1 h2 h3 h4 h5 h6 h7 h8 h9 h10 h11 h12 h13 r4.2.1 r4.2.2.1 x_saved x_before r4.2.2.2.1 x_region x_parts x_next x_ways x_more x_whole x_isSaved r4.2.2.2.2.1 x_isWithin r4.2.2.2.2.2 x_input x_length x_fault x_failed x_signs x_signMany x_at x_told x_toldMany)) hW hA (is := [0, 1, 2, 3, 4, 5, 6, 7, 8, 9, 10, 11, 12, 13]) rfl (goV (rest := []) E hK hW [0, 1, 2, 3, 4, 5, 6, 7, 8, 9, 10, 11, 12, 13] rfl rfl (c_X13_folds l g h0 h1 h2 h3 h4 h5 h6 h7 h8 h9 h10 h11 h12 h13 x_g x_kept x_saved x_before x_was x_region x_parts x_next x_ways x_more x_whole x_isSaved x_changes x_isWithin x_code x_input x_length x_fault x_failed x_signs x_signMany x_at x_told x_toldMany a1 1 5 (hf := hc) H.size) (cwV 3 hts gX13_foldColumn_X13_folds rfl rfl rfl (by decide +kernel) ⟨Nat.le_of_ble_eq_true rfl, Nat.le_of_ble_eq_true rfl⟩) 0 rfl rfl rfl hl.1 rfl rfl (Nat.le_of_ble_eq_true rfl) dX13_foldColumn_4 ⟨Nat.zero_le _, Nat.zero_le _⟩) rfl rfl (fun H locs hW => ?_)
  obtain rfl := Option.some.inj h
  exact endI E rfl hW dX13_foldColumn_7
theorem c_X13_foldColumn (l : Launch) (g : GE) (h0 h1 h2 h3 h4 h5 h6 h7 h8 h9 h10 h11 h12 h13 : Nat) (x_g : Nat → Int32) (x_kept : Nat → Int32) (x_saved : Nat → Int32) (x_before : Nat → Int32) (x_was : Nat → Int32) (x_region : Nat → Int32) (x_parts : Nat → Int64) (x_next : Nat → Int64) (x_ways : Nat → Int32) (x_more : Nat → Int32) (x_whole : Int64) (x_isSaved : Int32) (x_changes : Int32) (x_isWithin : Int32) (x_code : Int32) (x_input : Nat → Int32) (x_length : Int32) (x_fault : Int32) (x_failed : Int32) (x_signs : Nat → Int32) (x_signMany : Int32) (x_at : Int32) (x_told : Nat → Int32) (x_toldMany : Int32) (a1 : Int32) {res : Int32 × (Nat → Int32) × (Nat → Int32) × (Nat → Int32) × Int32 × Int32} (hf : f_X13_foldColumn x_g x_kept x_was x_changes x_isWithin x_code a1 = some res) : CI l yX13_foldColumn wsX13_foldColumn rm_X13_foldColumn g [.ref h0, .int a1] (w_X13 g h0 h1 h2 h3 h4 h5 h6 h7 h8 h9 h10 h11 h12 h13 x_g x_kept x_saved x_before x_was x_region x_parts x_next x_ways x_more x_whole x_isSaved x_changes x_isWithin x_code x_input x_length x_fault x_failed x_signs x_signMany x_at x_told x_toldMany) (w_X13 g h0 h1 h2 h3 h4 h5 h6 h7 h8 h9 h10 h11 h12 h13 res.2.1 res.2.2.1 x_saved x_before res.2.2.2.1 x_region x_parts x_next x_ways x_more x_whole x_isSaved res.2.2.2.2.1 x_isWithin res.2.2.2.2.2 x_input x_length x_fault x_failed x_signs x_signMany x_at x_told x_toldMany) res.1 :=
  mkI (cc := cX13_foldColumn) (maxL := 2) (by decide) rfl (Nat.le_of_ble_eq_true rfl) (fun p e s m args below meth c A H locs ls E hK hA hW hl => k_X13_foldColumn_0 E hK hA hf hW hl)

/-! PaperStormModel.shift(C)I X13_shift -/
abbrev rm_X13_shift : Room := { frames := 2, cells := 0, slots := 0, locals := 46 }
theorem in_X13_shift_X13 : ∀ w ∈ wsX130, w ∈ wsX13_shift := by decide +kernel
theorem lk_X13_shift_22 : Cond.fieldLink RX13 22 "PaperStormModel" "was" "[I" ∈ wsX13_shift := by decide +kernel
theorem lk_X13_shift_7 : Cond.fieldLink RX13 7 "PaperStormModel" "g" "[I" ∈ wsX13_shift := by decide +kernel
noncomputable def f_X13_shift_79 (x_was : Nat → Int32) (l2 : Int32) (l3 : Int32) (z126 : (Nat → Int32) → Option (Int32 × (Nat → Int32) × (Nat → Int32) × (Nat → Int32) × Int32 × Int32)) : Nat → Int32 → (Nat → Int32) → Option (Int32 × (Nat → Int32) × (Nat → Int32) × (Nat → Int32) × Int32 × Int32)
  | 0, _, _ => none
  | n + 1, l4_79, x_g_79 => if 25 ≤ l4_79 then z126 x_g_79 else if l4_79 < 0 ∨ 25 ≤ l4_79.toNatClampNeg then none else if ((7 + (5 * (((l4_79 / 5) + l2) - ((l4_79 / 5) + l2) / 5 * 5))) + (((l4_79 - l4_79 / 5 * 5) + l3) - ((l4_79 - l4_79 / 5 * 5) + l3) / 5 * 5)) < 0 ∨ 60 ≤ ((7 + (5 * (((l4_79 / 5) + l2) - ((l4_79 / 5) + l2) / 5 * 5))) + (((l4_79 - l4_79 / 5 * 5) + l3) - ((l4_79 - l4_79 / 5 * 5) + l3) / 5 * 5)).toNatClampNeg then none else f_X13_shift_79 x_was l2 l3 z126 n (l4_79 + 1) (upd x_g_79 ((7 + (5 * (((l4_79 / 5) + l2) - ((l4_79 / 5) + l2) / 5 * 5))) + (((l4_79 - l4_79 / 5 * 5) + l3) - ((l4_79 - l4_79 / 5 * 5) + l3) / 5 * 5)).toNatClampNeg (x_was l4_79.toNatClampNeg))
noncomputable def f_X13_shift (x_g : Nat → Int32) (x_kept : Nat → Int32) (x_was : Nat → Int32) (x_changes : Int32) (x_isWithin : Int32) (x_code : Int32) (a1 : Int32) : Option (Int32 × (Nat → Int32) × (Nat → Int32) × (Nat → Int32) × Int32 × Int32) :=
  jo (fun (s0_21 : Int32) => jo (fun (l2_43 : Int32) (s0_43 : Int32) => jo (fun (l3_56 : Int32) (s1_56 : Int32) => (f_X13_fails x_code s1_56).bind fun r56 => if r56.1 = 0 then (f_X13_looks x_g x_was).bind fun r65 => (f_X13_keeps__g x_g x_kept x_changes x_isWithin r56.2).bind fun r73 => f_X13_shift_79 r65 l2_43 l3_56 (fun x_g_126e => (f_X13_others x_g_126e r65).bind fun r127 => some (r127, x_g_126e, r73.1, r65, r73.2.1, r73.2.2)) 1000 0 x_g else some (0, x_g, x_kept, x_was, x_changes, r56.2)) (fun j56 => if (l2_43 + s0_43) = 0 then j56 s0_43 1 else j56 s0_43 0)) (fun j43 => if a1 = 119 then j43 s0_21 4 else if a1 = 101 then j43 s0_21 1 else j43 s0_21 0)) (fun j21 => if a1 = 110 then j21 4 else if a1 = 115 then j21 1 else j21 0)
abbrev G_X13_shift (p : Program) (l : Launch) (e : Env) (s : State) (m : MethodId) (args : Array Value) (below : List Frame) (meth : Method) (c : Code) (g : GE) (A : Nat → Prop) (h0 h1 h2 h3 h4 h5 h6 h7 h8 h9 h10 h11 h12 h13 : Nat) (x_saved : Nat → Int32) (x_before : Nat → Int32) (x_region : Nat → Int32) (x_parts : Nat → Int64) (x_next : Nat → Int64) (x_ways : Nat → Int32) (x_more : Nat → Int32) (x_whole : Int64) (x_isSaved : Int32) (x_isWithin : Int32) (x_input : Nat → Int32) (x_length : Int32) (x_fault : Int32) (x_failed : Int32) (x_signs : Nat → Int32) (x_signMany : Int32) (x_at : Int32) (x_told : Nat → Int32) (x_toldMany : Int32) (res : Int32 × (Nat → Int32) × (Nat → Int32) × (Nat → Int32) × Int32 × Int32) (H : Heap) (locs : List Loc) (pc : Nat) (ls : Array Slot) (st : List Value) : Prop := W p l e (headSpec wsX13_shift rm_X13_shift).room s m args below meth c H locs 0 0 (MQ below (PoI g A (w_X13 g h0 h1 h2 h3 h4 h5 h6 h7 h8 h9 h10 h11 h12 h13 res.2.1 res.2.2.1 x_saved x_before res.2.2.2.1 x_region x_parts x_next x_ways x_more x_whole x_isSaved res.2.2.2.2.1 x_isWithin res.2.2.2.2.2 x_input x_length x_fault x_failed x_signs x_signMany x_at x_told x_toldMany) res.1) args s 0 0 A) (F0 m pc ls st)
set_option maxHeartbeats 4000000 in
set_option maxRecDepth 100000 in
theorem k_X13_shift_79 {p : Program} {l : Launch} {e : Env} {s : State} {m : MethodId} {args : Array Value} {below : List Frame} {meth : Method} {c : Code} {g : GE} {A : Nat → Prop} {h0 h1 h2 h3 h4 h5 h6 h7 h8 h9 h10 h11 h12 h13 : Nat} {x_kept : Nat → Int32} {x_saved : Nat → Int32} {x_before : Nat → Int32} {x_was : Nat → Int32} {x_region : Nat → Int32} {x_parts : Nat → Int64} {x_next : Nat → Int64} {x_ways : Nat → Int32} {x_more : Nat → Int32} {x_whole : Int64} {x_isSaved : Int32} {x_changes : Int32} {x_isWithin : Int32} {x_code : Int32} {x_input : Nat → Int32} {x_length : Int32} {x_fault : Int32} {x_failed : Int32} {x_signs : Nat → Int32} {x_signMany : Int32} {x_at : Int32} {x_told : Nat → Int32} {x_toldMany : Int32} {res : Int32 × (Nat → Int32) × (Nat → Int32) × (Nat → Int32) × Int32 × Int32} {l2 : Int32} {l3 : Int32} {z126 : (Nat → Int32) → Option (Int32 × (Nat → Int32) × (Nat → Int32) × (Nat → Int32) × Int32 × Int32)}
    (E : En cX13_shift RX13 wsX13_shift 5 (some .int) p s m args meth c) (hK : KK g s) (hA : ∀ q, s.heap.size ≤ q → A q)
    (hz126 : ∀ (x_g_126e : Nat → Int32) (H : Heap) (locs : List Loc) (ls : Array Slot), z126 x_g_126e = some res → Wo g A s H locs (w_X13 g h0 h1 h2 h3 h4 h5 h6 h7 h8 h9 h10 h11 h12 h13 x_g_126e x_kept x_saved x_before x_was x_region x_parts x_next x_ways x_more x_whole x_isSaved x_changes x_isWithin x_code x_input x_length x_fault x_failed x_signs x_signMany x_at x_told x_toldMany) → lv_has ls 5 [(0, .ref h0)] → G_X13_shift p l e s m args below meth c g A h0 h1 h2 h3 h4 h5 h6 h7 h8 h9 h10 h11 h12 h13 x_saved x_before x_region x_parts x_next x_ways x_more x_whole x_isSaved x_isWithin x_input x_length x_fault x_failed x_signs x_signMany x_at x_told x_toldMany res H locs 126 ls [])
    : ∀ (n : Nat) (l4_79 : Int32) (x_g_79 : Nat → Int32) (H : Heap) (locs : List Loc) (ls : Array Slot), f_X13_shift_79 x_was l2 l3 z126 n l4_79 x_g_79 = some res → Wo g A s H locs (w_X13 g h0 h1 h2 h3 h4 h5 h6 h7 h8 h9 h10 h11 h12 h13 x_g_79 x_kept x_saved x_before x_was x_region x_parts x_next x_ways x_more x_whole x_isSaved x_changes x_isWithin x_code x_input x_length x_fault x_failed x_signs x_signMany x_at x_told x_toldMany) → lv_has ls 5 [(0, .ref h0), (2, .int l2), (3, .int l3), (4, .int l4_79)] → G_X13_shift p l e s m args below meth c g A h0 h1 h2 h3 h4 h5 h6 h7 h8 h9 h10 h11 h12 h13 x_saved x_before x_region x_parts x_next x_ways x_more x_whole x_isSaved x_isWithin x_input x_length x_fault x_failed x_signs x_signMany x_at x_told x_toldMany res H locs 79 ls [] := by
  have hts := E.2.2.2.1
  intro n
  induction n with
  | zero => intro l4_79 x_g_79 H locs ls h hW hl; rw [f_X13_shift_79] at h; cases h
  | succ n ih =>
    intro l4_79 x_g_79 H locs ls h hW hl
    rw [f_X13_shift_79] at h
    refine lv_iload E.1 E.2.1 dX13_shift_79 (lv_at hl 3 rfl) ?_
    refine lv_bipush (v := 25) E.1 E.2.1 dX13_shift_81 (by decide) ?_
    refine lv_icmp_ge (tgt := 126) E.1 E.2.1 dX13_shift_83 (by decide) (fun c83 => ?_) (fun c83 => ?_)
    · have h := it c83 h
      exact hz126 x_g_79 H locs ls h hW (lv_sub hl [0] rfl)
    · have h := ie c83 h
      refine lv_aload_n E.1 E.2.1 dX13_shift_86 rfl (lv_at hl 0 rfl) ?_
      refine wGet (v := .ref h1) E hK in_X13_shift_X13 hW 0 lk_X13_shift_7 0 rfl rfl (by decide) rfl rfl dX13_shift_87 ?_
      refine lv_bipush (v := 7) E.1 E.2.1 dX13_shift_90 (by decide) ?_
      refine lv_iconst (v := 5) E.1 E.2.1 dX13_shift_92 (by decide) ?_
      refine lv_iload E.1 E.2.1 dX13_shift_93 (lv_at hl 3 rfl) ?_
      refine lv_iconst (v := 5) E.1 E.2.1 dX13_shift_95 (by decide) ?_
      refine lv_idiv E.1 E.2.1 dX13_shift_96 (by decide) ?_
      refine lv_iload_n E.1 E.2.1 dX13_shift_97 rfl (lv_at hl 1 rfl) ?_
      refine lv_iadd E.1 E.2.1 dX13_shift_98 ?_
      refine lv_iconst (v := 5) E.1 E.2.1 dX13_shift_99 (by decide) ?_
      refine lv_irem E.1 E.2.1 dX13_shift_100 (by decide) ?_
      refine lv_imul E.1 E.2.1 dX13_shift_101 ?_
      refine lv_iadd E.1 E.2.1 dX13_shift_102 ?_
      refine lv_iload E.1 E.2.1 dX13_shift_103 (lv_at hl 3 rfl) ?_
      refine lv_iconst (v := 5) E.1 E.2.1 dX13_shift_105 (by decide) ?_
      refine lv_irem E.1 E.2.1 dX13_shift_106 (by decide) ?_
      refine lv_iload_n E.1 E.2.1 dX13_shift_107 rfl (lv_at hl 2 rfl) ?_
      refine lv_iadd E.1 E.2.1 dX13_shift_108 ?_
      refine lv_iconst (v := 5) E.1 E.2.1 dX13_shift_109 (by decide) ?_
      refine lv_irem E.1 E.2.1 dX13_shift_110 (by decide) ?_
      refine lv_iadd E.1 E.2.1 dX13_shift_111 ?_
      refine lv_aload_n E.1 E.2.1 dX13_shift_112 rfl (lv_at hl 0 rfl) ?_
      refine wGet (v := .ref h5) E hK in_X13_shift_X13 hW 4 lk_X13_shift_22 0 rfl rfl (by decide) rfl rfl dX13_shift_113 ?_
      refine lv_iload E.1 E.2.1 dX13_shift_116 (lv_at hl 3 rfl) ?_
      obtain ⟨hi118, h⟩ := ox h
      refine wIald E hK hW 5 rfl hi118 dX13_shift_118 ?_
      obtain ⟨hi119, h⟩ := ox h
      refine wIast (world' := (w_X13 g h0 h1 h2 h3 h4 h5 h6 h7 h8 h9 h10 h11 h12 h13 (upd x_g_79 ((7 + (5 * (((l4_79 / 5) + l2) - ((l4_79 / 5) + l2) / 5 * 5))) + (((l4_79 - l4_79 / 5 * 5) + l3) - ((l4_79 - l4_79 / 5 * 5) + l3) / 5 * 5)).toNatClampNeg (x_was l4_79.toNatClampNeg)) x_kept x_saved x_before x_was x_region x_parts x_next x_ways x_more x_whole x_isSaved x_changes x_isWithin x_code x_input x_length x_fault x_failed x_signs x_signMany x_at x_told x_toldMany)) E hK hW 1 rfl hi119 dX13_shift_119 rfl (fun H locs hW => ?_)
      refine lv_iinc (v := (l4_79 + 1)) (lv' := [(4, .int (l4_79 + 1)), (0, .ref h0), (2, .int l2), (3, .int l3)]) E.1 E.2.1 dX13_shift_120 hl (k := 3) rfl rfl (by decide) rfl (fun ls hl => ?_)
      refine lv_goto (tgt := 79) E.1 E.2.1 dX13_shift_123 (by decide) ?_
      exact ih (l4_79 + 1) (upd x_g_79 ((7 + (5 * (((l4_79 / 5) + l2) - ((l4_79 / 5) + l2) / 5 * 5))) + (((l4_79 - l4_79 / 5 * 5) + l3) - ((l4_79 - l4_79 / 5 * 5) + l3) / 5 * 5)).toNatClampNeg (x_was l4_79.toNatClampNeg)) H locs ls h hW (lv_sub hl [1, 2, 3, 0] rfl)
set_option maxHeartbeats 4000000 in
set_option maxRecDepth 100000 in
theorem k_X13_shift_0 {p : Program} {l : Launch} {e : Env} {s : State} {m : MethodId} {args : Array Value} {below : List Frame} {meth : Method} {c : Code} {g : GE} {A : Nat → Prop} {h0 h1 h2 h3 h4 h5 h6 h7 h8 h9 h10 h11 h12 h13 : Nat} {x_g : Nat → Int32} {x_kept : Nat → Int32} {x_saved : Nat → Int32} {x_before : Nat → Int32} {x_was : Nat → Int32} {x_region : Nat → Int32} {x_parts : Nat → Int64} {x_next : Nat → Int64} {x_ways : Nat → Int32} {x_more : Nat → Int32} {x_whole : Int64} {x_isSaved : Int32} {x_changes : Int32} {x_isWithin : Int32} {x_code : Int32} {x_input : Nat → Int32} {x_length : Int32} {x_fault : Int32} {x_failed : Int32} {x_signs : Nat → Int32} {x_signMany : Int32} {x_at : Int32} {x_told : Nat → Int32} {x_toldMany : Int32} {res : Int32 × (Nat → Int32) × (Nat → Int32) × (Nat → Int32) × Int32 × Int32} {H : Heap} {locs : List Loc} {ls : Array Slot} {a1 : Int32}
    (E : En cX13_shift RX13 wsX13_shift 5 (some .int) p s m args meth c) (hK : KK g s) (hA : ∀ q, s.heap.size ≤ q → A q) (h : f_X13_shift x_g x_kept x_was x_changes x_isWithin x_code a1 = some res) (hW : Wo g A s H locs (w_X13 g h0 h1 h2 h3 h4 h5 h6 h7 h8 h9 h10 h11 h12 h13 x_g x_kept x_saved x_before x_was x_region x_parts x_next x_ways x_more x_whole x_isSaved x_changes x_isWithin x_code x_input x_length x_fault x_failed x_signs x_signMany x_at x_told x_toldMany)) (hl : lv_has ls 5 [(0, .ref h0), (1, .int a1)]) : G_X13_shift p l e s m args below meth c g A h0 h1 h2 h3 h4 h5 h6 h7 h8 h9 h10 h11 h12 h13 x_saved x_before x_region x_parts x_next x_ways x_more x_whole x_isSaved x_isWithin x_input x_length x_fault x_failed x_signs x_signMany x_at x_told x_toldMany res H locs 0 ls [] := by
  have hts := E.2.2.2.1
  unfold f_X13_shift at h
  obtain ⟨j21, hj21, h⟩ := jox1 h
  have J21 : ∀ (s0_21 : Int32) (H : Heap) (locs : List Loc) (ls : Array Slot), j21 s0_21 = some res → Wo g A s H locs (w_X13 g h0 h1 h2 h3 h4 h5 h6 h7 h8 h9 h10 h11 h12 h13 x_g x_kept x_saved x_before x_was x_region x_parts x_next x_ways x_more x_whole x_isSaved x_changes x_isWithin x_code x_input x_length x_fault x_failed x_signs x_signMany x_at x_told x_toldMany) → lv_has ls 5 [(0, .ref h0), (1, .int a1)] → G_X13_shift p l e s m args below meth c g A h0 h1 h2 h3 h4 h5 h6 h7 h8 h9 h10 h11 h12 h13 x_saved x_before x_region x_parts x_next x_ways x_more x_whole x_isSaved x_isWithin x_input x_length x_fault x_failed x_signs x_signMany x_at x_told x_toldMany res H locs 21 ls [.int s0_21] := by
    intro s0_21 H locs ls h hW hl
    rw [hj21] at h
    obtain ⟨j43, hj43, h⟩ := jox2 h
    have J43 : ∀ (l2_43 : Int32) (s0_43 : Int32) (H : Heap) (locs : List Loc) (ls : Array Slot), j43 l2_43 s0_43 = some res → Wo g A s H locs (w_X13 g h0 h1 h2 h3 h4 h5 h6 h7 h8 h9 h10 h11 h12 h13 x_g x_kept x_saved x_before x_was x_region x_parts x_next x_ways x_more x_whole x_isSaved x_changes x_isWithin x_code x_input x_length x_fault x_failed x_signs x_signMany x_at x_told x_toldMany) → lv_has ls 5 [(0, .ref h0), (2, .int l2_43)] → G_X13_shift p l e s m args below meth c g A h0 h1 h2 h3 h4 h5 h6 h7 h8 h9 h10 h11 h12 h13 x_saved x_before x_region x_parts x_next x_ways x_more x_whole x_isSaved x_isWithin x_input x_length x_fault x_failed x_signs x_signMany x_at x_told x_toldMany res H locs 43 ls [.int s0_43] := by
      intro l2_43 s0_43 H locs ls h hW hl
      rw [hj43] at h
      obtain ⟨j56, hj56, h⟩ := jox2 h
      have J56 : ∀ (l3_56 : Int32) (s1_56 : Int32) (H : Heap) (locs : List Loc) (ls : Array Slot), j56 l3_56 s1_56 = some res → Wo g A s H locs (w_X13 g h0 h1 h2 h3 h4 h5 h6 h7 h8 h9 h10 h11 h12 h13 x_g x_kept x_saved x_before x_was x_region x_parts x_next x_ways x_more x_whole x_isSaved x_changes x_isWithin x_code x_input x_length x_fault x_failed x_signs x_signMany x_at x_told x_toldMany) → lv_has ls 5 [(0, .ref h0), (2, .int l2_43), (3, .int l3_56)] → G_X13_shift p l e s m args below meth c g A h0 h1 h2 h3 h4 h5 h6 h7 h8 h9 h10 h11 h12 h13 x_saved x_before x_region x_parts x_next x_ways x_more x_whole x_isSaved x_isWithin x_input x_length x_fault x_failed x_signs x_signMany x_at x_told x_toldMany res H locs 56 ls [.int s1_56, .ref h0] := by
        intro l3_56 s1_56 H locs ls h hW hl
        rw [hj56] at h
        obtain ⟨r56, hc, h⟩ := bx h
        refine goI (world' := (w_X13 g h0 h1 h2 h3 h4 h5 h6 h7 h8 h9 h10 h11 h12 h13 x_g x_kept x_saved x_before x_was x_region x_parts x_next x_ways x_more x_whole x_isSaved x_changes x_isWithin r56.2 x_input x_length x_fault x_failed x_signs x_signMany x_at x_told x_toldMany)) hW hA (is := [0, 1, 2, 3, 4, 5, 6, 7, 8, 9, 10, 11, 12, 13]) rfl (goV (rest := []) E hK hW [0, 1, 2, 3, 4, 5, 6, 7, 8, 9, 10, 11, 12, 13] rfl rfl (c_X13_fails l g h0 h1 h2 h3 h4 h5 h6 h7 h8 h9 h10 h11 h12 h13 x_g x_kept x_saved x_before x_was x_region x_parts x_next x_ways x_more x_whole x_isSaved x_changes x_isWithin x_code x_input x_length x_fault x_failed x_signs x_signMany x_at x_told x_toldMany s1_56 (hf := hc) H.size) (cwV 1 hts gX13_shift_X13_fails rfl rfl rfl (by decide +kernel) ⟨Nat.le_of_ble_eq_true rfl, Nat.le_of_ble_eq_true rfl⟩) 0 rfl rfl rfl hl.1 rfl rfl (Nat.le_of_ble_eq_true rfl) dX13_shift_56 ⟨Nat.zero_le _, Nat.zero_le _⟩) rfl rfl (fun H locs hW => ?_)
        refine lv_if_eq (tgt := 64) E.1 E.2.1 dX13_shift_59 (by decide) (fun c59 => ?_) (fun c59 => ?_)
        · have h := it c59 h
          refine lv_aload_n E.1 E.2.1 dX13_shift_64 rfl (lv_at hl 0 rfl) ?_
          obtain ⟨r65, hc, h⟩ := bx h
          refine goU (world' := (w_X13 g h0 h1 h2 h3 h4 h5 h6 h7 h8 h9 h10 h11 h12 h13 x_g x_kept x_saved x_before r65 x_region x_parts x_next x_ways x_more x_whole x_isSaved x_changes x_isWithin r56.2 x_input x_length x_fault x_failed x_signs x_signMany x_at x_told x_toldMany)) hW hA (is := [0, 1, 2, 3, 4, 5, 6, 7, 8, 9, 10, 11, 12, 13]) rfl (goV (rest := []) E hK hW [0, 1, 2, 3, 4, 5, 6, 7, 8, 9, 10, 11, 12, 13] rfl rfl (c_X13_looks l g h0 h1 h2 h3 h4 h5 h6 h7 h8 h9 h10 h11 h12 h13 x_g x_kept x_saved x_before x_was x_region x_parts x_next x_ways x_more x_whole x_isSaved x_changes x_isWithin r56.2 x_input x_length x_fault x_failed x_signs x_signMany x_at x_told x_toldMany (hf := hc) H.size) (cwV 0 hts gX13_shift_X13_looks rfl rfl rfl (by decide +kernel) ⟨Nat.le_of_ble_eq_true rfl, Nat.le_of_ble_eq_true rfl⟩) 0 rfl rfl rfl hl.1 rfl rfl (Nat.le_of_ble_eq_true rfl) dX13_shift_65 ⟨Nat.zero_le _, Nat.zero_le _⟩) rfl rfl (fun H locs hW => ?_)
          refine lv_aload_n E.1 E.2.1 dX13_shift_68 rfl (lv_at hl 0 rfl) ?_
          refine lv_aload_n E.1 E.2.1 dX13_shift_69 rfl (lv_at hl 0 rfl) ?_
          refine wGet (v := .ref h1) E hK in_X13_shift_X13 hW 0 lk_X13_shift_7 0 rfl rfl (by decide) rfl rfl dX13_shift_70 ?_
          obtain ⟨r73, hc, h⟩ := bx h
          refine goU (world' := (w_X13 g h0 h1 h2 h3 h4 h5 h6 h7 h8 h9 h10 h11 h12 h13 x_g r73.1 x_saved x_before r65 x_region x_parts x_next x_ways x_more x_whole x_isSaved r73.2.1 x_isWithin r73.2.2 x_input x_length x_fault x_failed x_signs x_signMany x_at x_told x_toldMany)) hW hA (is := [0, 1, 2, 3, 4, 5, 6, 7, 8, 9, 10, 11, 12, 13]) rfl (goV (rest := []) E hK hW [0, 1, 2, 3, 4, 5, 6, 7, 8, 9, 10, 11, 12, 13] rfl rfl (c_X13_keeps__g l g h0 h1 h2 h3 h4 h5 h6 h7 h8 h9 h10 h11 h12 h13 x_g x_kept x_saved x_before r65 x_region x_parts x_next x_ways x_more x_whole x_isSaved x_changes x_isWithin r56.2 x_input x_length x_fault x_failed x_signs x_signMany x_at x_told x_toldMany (hf := hc) H.size) (cwV 1 hts gX13_shift_X13_keeps rfl rfl rfl (by decide +kernel) ⟨Nat.le_of_ble_eq_true rfl, Nat.le_of_ble_eq_true rfl⟩) 0 rfl rfl rfl hl.1 rfl rfl (Nat.le_of_ble_eq_true rfl) dX13_shift_73 ⟨Nat.zero_le _, Nat.zero_le _⟩) rfl rfl (fun H locs hW => ?_)
          refine lv_iconst (v := 0) E.1 E.2.1 dX13_shift_76 (by decide) ?_
          refine lv_istore (lv' := [(4, .int 0), (0, .ref h0), (2, .int l2_43), (3, .int l3_56)]) E.1 E.2.1 dX13_shift_77 hl (by decide) rfl (fun ls hl => ?_)
          refine k_X13_shift_79 E hK hA ?_ 1000 0 x_g H locs ls h hW (lv_sub hl [1, 2, 3, 0] rfl)
          · intro x_g_126e H locs ls h hW hl
            refine lv_aload_n E.1 E.2.1 dX13_shift_126 rfl (lv_at hl 0 rfl) ?_
            obtain ⟨r127, hc, h⟩ := bx h
            refine goI (world' := (w_X13 g h0 h1 h2 h3 h4 h5 h6 h7 h8 h9 h10 h11 h12 h13 x_g_126e r73.1 x_saved x_before r65 x_region x_parts x_next x_ways x_more x_whole x_isSaved r73.2.1 x_isWithin r73.2.2 x_input x_length x_fault x_failed x_signs x_signMany x_at x_told x_toldMany)) hW hA (is := [0, 1, 2, 3, 4, 5, 6, 7, 8, 9, 10, 11, 12, 13]) rfl (goV (rest := []) E hK hW [0, 1, 2, 3, 4, 5, 6, 7, 8, 9, 10, 11, 12, 13] rfl rfl (c_X13_others l g h0 h1 h2 h3 h4 h5 h6 h7 h8 h9 h10 h11 h12 h13 x_g_126e r73.1 x_saved x_before r65 x_region x_parts x_next x_ways x_more x_whole x_isSaved r73.2.1 x_isWithin r73.2.2 x_input x_length x_fault x_failed x_signs x_signMany x_at x_told x_toldMany (hf := hc) H.size) (cwV 0 hts gX13_shift_X13_others rfl rfl rfl (by decide +kernel) ⟨Nat.le_of_ble_eq_true rfl, Nat.le_of_ble_eq_true rfl⟩) 0 rfl rfl rfl hl.1 rfl rfl (Nat.le_of_ble_eq_true rfl) dX13_shift_127 ⟨Nat.zero_le _, Nat.zero_le _⟩) rfl rfl (fun H locs hW => ?_)
            obtain rfl := Option.some.inj h
            exact endI E rfl hW dX13_shift_130
        · have h := ie c59 h
          refine lv_iconst (v := 0) E.1 E.2.1 dX13_shift_62 (by decide) ?_
          obtain rfl := Option.some.inj h
          exact endI E rfl hW dX13_shift_63
      refine lv_istore_n (lv' := [(3, .int s0_43), (0, .ref h0), (2, .int l2_43)]) E.1 E.2.1 dX13_shift_43 rfl hl (by decide) rfl (fun ls hl => ?_)
      refine lv_aload_n E.1 E.2.1 dX13_shift_44 rfl (lv_at hl 1 rfl) ?_
      refine lv_iload_n E.1 E.2.1 dX13_shift_45 rfl (lv_at hl 2 rfl) ?_
      refine lv_iload_n E.1 E.2.1 dX13_shift_46 rfl (lv_at hl 0 rfl) ?_
      refine lv_iadd E.1 E.2.1 dX13_shift_47 ?_
      refine lv_if_ne (tgt := 55) E.1 E.2.1 dX13_shift_48 (by decide) (fun c48 => ?_) (fun c48 => ?_)
      · have h := ie c48 h
        refine lv_iconst (v := 0) E.1 E.2.1 dX13_shift_55 (by decide) ?_
        exact J56 s0_43 0 H locs ls h hW (lv_sub hl [1, 2, 0] rfl)
      · have h := it c48 h
        refine lv_iconst (v := 1) E.1 E.2.1 dX13_shift_51 (by decide) ?_
        refine lv_goto (tgt := 56) E.1 E.2.1 dX13_shift_52 (by decide) ?_
        exact J56 s0_43 1 H locs ls h hW (lv_sub hl [1, 2, 0] rfl)
    refine lv_istore_n (lv' := [(2, .int s0_21), (0, .ref h0), (1, .int a1)]) E.1 E.2.1 dX13_shift_21 rfl hl (by decide) rfl (fun ls hl => ?_)
    refine lv_iload_n E.1 E.2.1 dX13_shift_22 rfl (lv_at hl 2 rfl) ?_
    refine lv_bipush (v := 119) E.1 E.2.1 dX13_shift_23 (by decide) ?_
    refine lv_icmp_ne (tgt := 32) E.1 E.2.1 dX13_shift_25 (by decide) (fun c25 => ?_) (fun c25 => ?_)
    · have h := ie c25 h
      refine lv_iload_n E.1 E.2.1 dX13_shift_32 rfl (lv_at hl 2 rfl) ?_
      refine lv_bipush (v := 101) E.1 E.2.1 dX13_shift_33 (by decide) ?_
      refine lv_icmp_ne (tgt := 42) E.1 E.2.1 dX13_shift_35 (by decide) (fun c35 => ?_) (fun c35 => ?_)
      · have h := ie c35 h
        refine lv_iconst (v := 0) E.1 E.2.1 dX13_shift_42 (by decide) ?_
        exact J43 s0_21 0 H locs ls h hW (lv_sub hl [1, 0] rfl)
      · have h := it c35 h
        refine lv_iconst (v := 1) E.1 E.2.1 dX13_shift_38 (by decide) ?_
        refine lv_goto (tgt := 43) E.1 E.2.1 dX13_shift_39 (by decide) ?_
        exact J43 s0_21 1 H locs ls h hW (lv_sub hl [1, 0] rfl)
    · have h := it c25 h
      refine lv_iconst (v := 4) E.1 E.2.1 dX13_shift_28 (by decide) ?_
      refine lv_goto (tgt := 43) E.1 E.2.1 dX13_shift_29 (by decide) ?_
      exact J43 s0_21 4 H locs ls h hW (lv_sub hl [1, 0] rfl)
  refine lv_iload_n E.1 E.2.1 dX13_shift_0 rfl (lv_at hl 1 rfl) ?_
  refine lv_bipush (v := 110) E.1 E.2.1 dX13_shift_1 (by decide) ?_
  refine lv_icmp_ne (tgt := 10) E.1 E.2.1 dX13_shift_3 (by decide) (fun c3 => ?_) (fun c3 => ?_)
  · have h := ie c3 h
    refine lv_iload_n E.1 E.2.1 dX13_shift_10 rfl (lv_at hl 1 rfl) ?_
    refine lv_bipush (v := 115) E.1 E.2.1 dX13_shift_11 (by decide) ?_
    refine lv_icmp_ne (tgt := 20) E.1 E.2.1 dX13_shift_13 (by decide) (fun c13 => ?_) (fun c13 => ?_)
    · have h := ie c13 h
      refine lv_iconst (v := 0) E.1 E.2.1 dX13_shift_20 (by decide) ?_
      exact J21 0 H locs ls h hW (lv_sub hl [0, 1] rfl)
    · have h := it c13 h
      refine lv_iconst (v := 1) E.1 E.2.1 dX13_shift_16 (by decide) ?_
      refine lv_goto (tgt := 21) E.1 E.2.1 dX13_shift_17 (by decide) ?_
      exact J21 1 H locs ls h hW (lv_sub hl [0, 1] rfl)
  · have h := it c3 h
    refine lv_iconst (v := 4) E.1 E.2.1 dX13_shift_6 (by decide) ?_
    refine lv_goto (tgt := 21) E.1 E.2.1 dX13_shift_7 (by decide) ?_
    exact J21 4 H locs ls h hW (lv_sub hl [0, 1] rfl)
theorem c_X13_shift (l : Launch) (g : GE) (h0 h1 h2 h3 h4 h5 h6 h7 h8 h9 h10 h11 h12 h13 : Nat) (x_g : Nat → Int32) (x_kept : Nat → Int32) (x_saved : Nat → Int32) (x_before : Nat → Int32) (x_was : Nat → Int32) (x_region : Nat → Int32) (x_parts : Nat → Int64) (x_next : Nat → Int64) (x_ways : Nat → Int32) (x_more : Nat → Int32) (x_whole : Int64) (x_isSaved : Int32) (x_changes : Int32) (x_isWithin : Int32) (x_code : Int32) (x_input : Nat → Int32) (x_length : Int32) (x_fault : Int32) (x_failed : Int32) (x_signs : Nat → Int32) (x_signMany : Int32) (x_at : Int32) (x_told : Nat → Int32) (x_toldMany : Int32) (a1 : Int32) {res : Int32 × (Nat → Int32) × (Nat → Int32) × (Nat → Int32) × Int32 × Int32} (hf : f_X13_shift x_g x_kept x_was x_changes x_isWithin x_code a1 = some res) : CI l yX13_shift wsX13_shift rm_X13_shift g [.ref h0, .int a1] (w_X13 g h0 h1 h2 h3 h4 h5 h6 h7 h8 h9 h10 h11 h12 h13 x_g x_kept x_saved x_before x_was x_region x_parts x_next x_ways x_more x_whole x_isSaved x_changes x_isWithin x_code x_input x_length x_fault x_failed x_signs x_signMany x_at x_told x_toldMany) (w_X13 g h0 h1 h2 h3 h4 h5 h6 h7 h8 h9 h10 h11 h12 h13 res.2.1 res.2.2.1 x_saved x_before res.2.2.2.1 x_region x_parts x_next x_ways x_more x_whole x_isSaved res.2.2.2.2.1 x_isWithin res.2.2.2.2.2 x_input x_length x_fault x_failed x_signs x_signMany x_at x_told x_toldMany) res.1 :=
  mkI (cc := cX13_shift) (maxL := 5) (by decide) rfl (Nat.le_of_ble_eq_true rfl) (fun p e s m args below meth c A H locs ls E hK hA hW hl => k_X13_shift_0 E hK hA hf hW hl)

/-! PaperStormModel.setThreshold(I)I X13_setThreshold -/
abbrev rm_X13_setThreshold : Room := { frames := 2, cells := 0, slots := 0, locals := 46 }
theorem in_X13_setThreshold_X13 : ∀ w ∈ wsX130, w ∈ wsX13_setThreshold := by decide +kernel
theorem lk_X13_setThreshold_7 : Cond.fieldLink RX13 7 "PaperStormModel" "g" "[I" ∈ wsX13_setThreshold := by decide +kernel
noncomputable def f_X13_setThreshold (x_g : Nat → Int32) (x_kept : Nat → Int32) (x_changes : Int32) (x_isWithin : Int32) (x_code : Int32) (a1 : Int32) : Option (Int32 × (Nat → Int32) × (Nat → Int32) × Int32 × Int32) :=
  jo (fun (s1_16 : Int32) => (f_X13_fails x_code s1_16).bind fun r16 => if r16.1 = 0 then (f_X13_keeps__g x_g x_kept x_changes x_isWithin r16.2).bind fun r36 => some ((x_g (2 : Int32).toNatClampNeg), (upd x_g (2 : Int32).toNatClampNeg a1), r36.1, r36.2.1, r36.2.2) else some (0, x_g, x_kept, x_changes, r16.2)) (fun j16 => (f_X13_in a1 1 50).bind fun r5 => if r5 = 0 then j16 1 else j16 0)
abbrev G_X13_setThreshold (p : Program) (l : Launch) (e : Env) (s : State) (m : MethodId) (args : Array Value) (below : List Frame) (meth : Method) (c : Code) (g : GE) (A : Nat → Prop) (h0 h1 h2 h3 h4 h5 h6 h7 h8 h9 h10 h11 h12 h13 : Nat) (x_saved : Nat → Int32) (x_before : Nat → Int32) (x_was : Nat → Int32) (x_region : Nat → Int32) (x_parts : Nat → Int64) (x_next : Nat → Int64) (x_ways : Nat → Int32) (x_more : Nat → Int32) (x_whole : Int64) (x_isSaved : Int32) (x_isWithin : Int32) (x_input : Nat → Int32) (x_length : Int32) (x_fault : Int32) (x_failed : Int32) (x_signs : Nat → Int32) (x_signMany : Int32) (x_at : Int32) (x_told : Nat → Int32) (x_toldMany : Int32) (res : Int32 × (Nat → Int32) × (Nat → Int32) × Int32 × Int32) (H : Heap) (locs : List Loc) (pc : Nat) (ls : Array Slot) (st : List Value) : Prop := W p l e (headSpec wsX13_setThreshold rm_X13_setThreshold).room s m args below meth c H locs 0 0 (MQ below (PoI g A (w_X13 g h0 h1 h2 h3 h4 h5 h6 h7 h8 h9 h10 h11 h12 h13 res.2.1 res.2.2.1 x_saved x_before x_was x_region x_parts x_next x_ways x_more x_whole x_isSaved res.2.2.2.1 x_isWithin res.2.2.2.2 x_input x_length x_fault x_failed x_signs x_signMany x_at x_told x_toldMany) res.1) args s 0 0 A) (F0 m pc ls st)
set_option maxHeartbeats 4000000 in
set_option maxRecDepth 100000 in
theorem k_X13_setThreshold_0 {p : Program} {l : Launch} {e : Env} {s : State} {m : MethodId} {args : Array Value} {below : List Frame} {meth : Method} {c : Code} {g : GE} {A : Nat → Prop} {h0 h1 h2 h3 h4 h5 h6 h7 h8 h9 h10 h11 h12 h13 : Nat} {x_g : Nat → Int32} {x_kept : Nat → Int32} {x_saved : Nat → Int32} {x_before : Nat → Int32} {x_was : Nat → Int32} {x_region : Nat → Int32} {x_parts : Nat → Int64} {x_next : Nat → Int64} {x_ways : Nat → Int32} {x_more : Nat → Int32} {x_whole : Int64} {x_isSaved : Int32} {x_changes : Int32} {x_isWithin : Int32} {x_code : Int32} {x_input : Nat → Int32} {x_length : Int32} {x_fault : Int32} {x_failed : Int32} {x_signs : Nat → Int32} {x_signMany : Int32} {x_at : Int32} {x_told : Nat → Int32} {x_toldMany : Int32} {res : Int32 × (Nat → Int32) × (Nat → Int32) × Int32 × Int32} {H : Heap} {locs : List Loc} {ls : Array Slot} {a1 : Int32}
    (E : En cX13_setThreshold RX13 wsX13_setThreshold 3 (some .int) p s m args meth c) (hK : KK g s) (hA : ∀ q, s.heap.size ≤ q → A q) (h : f_X13_setThreshold x_g x_kept x_changes x_isWithin x_code a1 = some res) (hW : Wo g A s H locs (w_X13 g h0 h1 h2 h3 h4 h5 h6 h7 h8 h9 h10 h11 h12 h13 x_g x_kept x_saved x_before x_was x_region x_parts x_next x_ways x_more x_whole x_isSaved x_changes x_isWithin x_code x_input x_length x_fault x_failed x_signs x_signMany x_at x_told x_toldMany)) (hl : lv_has ls 3 [(0, .ref h0), (1, .int a1)]) : G_X13_setThreshold p l e s m args below meth c g A h0 h1 h2 h3 h4 h5 h6 h7 h8 h9 h10 h11 h12 h13 x_saved x_before x_was x_region x_parts x_next x_ways x_more x_whole x_isSaved x_isWithin x_input x_length x_fault x_failed x_signs x_signMany x_at x_told x_toldMany res H locs 0 ls [] := by
  have hts := E.2.2.2.1
  unfold f_X13_setThreshold at h
  obtain ⟨j16, hj16, h⟩ := jox1 h
  have J16 : ∀ (s1_16 : Int32) (H : Heap) (locs : List Loc) (ls : Array Slot), j16 s1_16 = some res → Wo g A s H locs (w_X13 g h0 h1 h2 h3 h4 h5 h6 h7 h8 h9 h10 h11 h12 h13 x_g x_kept x_saved x_before x_was x_region x_parts x_next x_ways x_more x_whole x_isSaved x_changes x_isWithin x_code x_input x_length x_fault x_failed x_signs x_signMany x_at x_told x_toldMany) → lv_has ls 3 [(0, .ref h0), (1, .int a1)] → G_X13_setThreshold p l e s m args below meth c g A h0 h1 h2 h3 h4 h5 h6 h7 h8 h9 h10 h11 h12 h13 x_saved x_before x_was x_region x_parts x_next x_ways x_more x_whole x_isSaved x_isWithin x_input x_length x_fault x_failed x_signs x_signMany x_at x_told x_toldMany res H locs 16 ls [.int s1_16, .ref h0] := by
    intro s1_16 H locs ls h hW hl
    rw [hj16] at h
    obtain ⟨r16, hc, h⟩ := bx h
    refine goI (world' := (w_X13 g h0 h1 h2 h3 h4 h5 h6 h7 h8 h9 h10 h11 h12 h13 x_g x_kept x_saved x_before x_was x_region x_parts x_next x_ways x_more x_whole x_isSaved x_changes x_isWithin r16.2 x_input x_length x_fault x_failed x_signs x_signMany x_at x_told x_toldMany)) hW hA (is := [0, 1, 2, 3, 4, 5, 6, 7, 8, 9, 10, 11, 12, 13]) rfl (goV (rest := []) E hK hW [0, 1, 2, 3, 4, 5, 6, 7, 8, 9, 10, 11, 12, 13] rfl rfl (c_X13_fails l g h0 h1 h2 h3 h4 h5 h6 h7 h8 h9 h10 h11 h12 h13 x_g x_kept x_saved x_before x_was x_region x_parts x_next x_ways x_more x_whole x_isSaved x_changes x_isWithin x_code x_input x_length x_fault x_failed x_signs x_signMany x_at x_told x_toldMany s1_16 (hf := hc) H.size) (cwV 1 hts gX13_setThreshold_X13_fails rfl rfl rfl (by decide +kernel) ⟨Nat.le_of_ble_eq_true rfl, Nat.le_of_ble_eq_true rfl⟩) 0 rfl rfl rfl hl.1 rfl rfl (Nat.le_of_ble_eq_true rfl) dX13_setThreshold_16 ⟨Nat.zero_le _, Nat.zero_le _⟩) rfl rfl (fun H locs hW => ?_)
    refine lv_if_eq (tgt := 24) E.1 E.2.1 dX13_setThreshold_19 (by decide) (fun c19 => ?_) (fun c19 => ?_)
    · have h := it c19 h
      refine lv_aload_n E.1 E.2.1 dX13_setThreshold_24 rfl (lv_at hl 0 rfl) ?_
      refine wGet (v := .ref h1) E hK in_X13_setThreshold_X13 hW 0 lk_X13_setThreshold_7 0 rfl rfl (by decide) rfl rfl dX13_setThreshold_25 ?_
      refine lv_iconst (v := 2) E.1 E.2.1 dX13_setThreshold_28 (by decide) ?_
      refine wIald E hK hW 1 rfl (by decide) dX13_setThreshold_29 ?_
      refine lv_istore_n (lv' := [(2, .int (x_g (2 : Int32).toNatClampNeg)), (0, .ref h0), (1, .int a1)]) E.1 E.2.1 dX13_setThreshold_30 rfl hl (by decide) rfl (fun ls hl => ?_)
      refine lv_aload_n E.1 E.2.1 dX13_setThreshold_31 rfl (lv_at hl 1 rfl) ?_
      refine lv_aload_n E.1 E.2.1 dX13_setThreshold_32 rfl (lv_at hl 1 rfl) ?_
      refine wGet (v := .ref h1) E hK in_X13_setThreshold_X13 hW 0 lk_X13_setThreshold_7 0 rfl rfl (by decide) rfl rfl dX13_setThreshold_33 ?_
      obtain ⟨r36, hc, h⟩ := bx h
      refine goU (world' := (w_X13 g h0 h1 h2 h3 h4 h5 h6 h7 h8 h9 h10 h11 h12 h13 x_g r36.1 x_saved x_before x_was x_region x_parts x_next x_ways x_more x_whole x_isSaved r36.2.1 x_isWithin r36.2.2 x_input x_length x_fault x_failed x_signs x_signMany x_at x_told x_toldMany)) hW hA (is := [0, 1, 2, 3, 4, 5, 6, 7, 8, 9, 10, 11, 12, 13]) rfl (goV (rest := []) E hK hW [0, 1, 2, 3, 4, 5, 6, 7, 8, 9, 10, 11, 12, 13] rfl rfl (c_X13_keeps__g l g h0 h1 h2 h3 h4 h5 h6 h7 h8 h9 h10 h11 h12 h13 x_g x_kept x_saved x_before x_was x_region x_parts x_next x_ways x_more x_whole x_isSaved x_changes x_isWithin r16.2 x_input x_length x_fault x_failed x_signs x_signMany x_at x_told x_toldMany (hf := hc) H.size) (cwV 1 hts gX13_setThreshold_X13_keeps rfl rfl rfl (by decide +kernel) ⟨Nat.le_of_ble_eq_true rfl, Nat.le_of_ble_eq_true rfl⟩) 0 rfl rfl rfl hl.1 rfl rfl (Nat.le_of_ble_eq_true rfl) dX13_setThreshold_36 ⟨Nat.zero_le _, Nat.zero_le _⟩) rfl rfl (fun H locs hW => ?_)
      refine lv_aload_n E.1 E.2.1 dX13_setThreshold_39 rfl (lv_at hl 1 rfl) ?_
      refine wGet (v := .ref h1) E hK in_X13_setThreshold_X13 hW 0 lk_X13_setThreshold_7 0 rfl rfl (by decide) rfl rfl dX13_setThreshold_40 ?_
      refine lv_iconst (v := 2) E.1 E.2.1 dX13_setThreshold_43 (by decide) ?_
      refine lv_iload_n E.1 E.2.1 dX13_setThreshold_44 rfl (lv_at hl 2 rfl) ?_
      refine wIast (world' := (w_X13 g h0 h1 h2 h3 h4 h5 h6 h7 h8 h9 h10 h11 h12 h13 (upd x_g (2 : Int32).toNatClampNeg a1) r36.1 x_saved x_before x_was x_region x_parts x_next x_ways x_more x_whole x_isSaved r36.2.1 x_isWithin r36.2.2 x_input x_length x_fault x_failed x_signs x_signMany x_at x_told x_toldMany)) E hK hW 1 rfl (by decide) dX13_setThreshold_45 rfl (fun H locs hW => ?_)
      refine lv_iload_n E.1 E.2.1 dX13_setThreshold_46 rfl (lv_at hl 0 rfl) ?_
      obtain rfl := Option.some.inj h
      exact endI E rfl hW dX13_setThreshold_47
    · have h := ie c19 h
      refine lv_iconst (v := 0) E.1 E.2.1 dX13_setThreshold_22 (by decide) ?_
      obtain rfl := Option.some.inj h
      exact endI E rfl hW dX13_setThreshold_23
  refine lv_aload_n E.1 E.2.1 dX13_setThreshold_0 rfl (lv_at hl 0 rfl) ?_
  refine lv_iload_n E.1 E.2.1 dX13_setThreshold_1 rfl (lv_at hl 1 rfl) ?_
  refine lv_iconst (v := 1) E.1 E.2.1 dX13_setThreshold_2 (by decide) ?_
  refine lv_bipush (v := 50) E.1 E.2.1 dX13_setThreshold_3 (by decide) ?_
  obtain ⟨r5, hc, h⟩ := bx h
  refine goI (world' := (w_X13 g h0 h1 h2 h3 h4 h5 h6 h7 h8 h9 h10 h11 h12 h13 x_g x_kept x_saved x_before x_was x_region x_parts x_next x_ways x_more x_whole x_isSaved x_changes x_isWithin x_code x_input x_length x_fault x_failed x_signs x_signMany x_at x_told x_toldMany)) hW hA (is := []) rfl (goS (rest := [.ref h0]) E hK hW [] rfl rfl (c_X13_in l g a1 1 50 (hf := hc) H.size) (va_cwS 3 hts gX13_setThreshold_X13_in rfl rfl rfl (by decide +kernel) ⟨Nat.le_of_ble_eq_true rfl, Nat.le_of_ble_eq_true rfl⟩) hl.1 rfl rfl (Nat.le_of_ble_eq_true rfl) dX13_setThreshold_5 ⟨Nat.zero_le _, Nat.zero_le _⟩) rfl rfl (fun H locs hW => ?_)
  refine lv_if_eq (tgt := 15) E.1 E.2.1 dX13_setThreshold_8 (by decide) (fun c8 => ?_) (fun c8 => ?_)
  · have h := it c8 h
    refine lv_iconst (v := 1) E.1 E.2.1 dX13_setThreshold_15 (by decide) ?_
    exact J16 1 H locs ls h hW (lv_sub hl [0, 1] rfl)
  · have h := ie c8 h
    refine lv_iconst (v := 0) E.1 E.2.1 dX13_setThreshold_11 (by decide) ?_
    refine lv_goto (tgt := 16) E.1 E.2.1 dX13_setThreshold_12 (by decide) ?_
    exact J16 0 H locs ls h hW (lv_sub hl [0, 1] rfl)
theorem c_X13_setThreshold (l : Launch) (g : GE) (h0 h1 h2 h3 h4 h5 h6 h7 h8 h9 h10 h11 h12 h13 : Nat) (x_g : Nat → Int32) (x_kept : Nat → Int32) (x_saved : Nat → Int32) (x_before : Nat → Int32) (x_was : Nat → Int32) (x_region : Nat → Int32) (x_parts : Nat → Int64) (x_next : Nat → Int64) (x_ways : Nat → Int32) (x_more : Nat → Int32) (x_whole : Int64) (x_isSaved : Int32) (x_changes : Int32) (x_isWithin : Int32) (x_code : Int32) (x_input : Nat → Int32) (x_length : Int32) (x_fault : Int32) (x_failed : Int32) (x_signs : Nat → Int32) (x_signMany : Int32) (x_at : Int32) (x_told : Nat → Int32) (x_toldMany : Int32) (a1 : Int32) {res : Int32 × (Nat → Int32) × (Nat → Int32) × Int32 × Int32} (hf : f_X13_setThreshold x_g x_kept x_changes x_isWithin x_code a1 = some res) : CI l yX13_setThreshold wsX13_setThreshold rm_X13_setThreshold g [.ref h0, .int a1] (w_X13 g h0 h1 h2 h3 h4 h5 h6 h7 h8 h9 h10 h11 h12 h13 x_g x_kept x_saved x_before x_was x_region x_parts x_next x_ways x_more x_whole x_isSaved x_changes x_isWithin x_code x_input x_length x_fault x_failed x_signs x_signMany x_at x_told x_toldMany) (w_X13 g h0 h1 h2 h3 h4 h5 h6 h7 h8 h9 h10 h11 h12 h13 res.2.1 res.2.2.1 x_saved x_before x_was x_region x_parts x_next x_ways x_more x_whole x_isSaved res.2.2.2.1 x_isWithin res.2.2.2.2 x_input x_length x_fault x_failed x_signs x_signMany x_at x_told x_toldMany) res.1 :=
  mkI (cc := cX13_setThreshold) (maxL := 3) (by decide) rfl (Nat.le_of_ble_eq_true rfl) (fun p e s m args below meth c A H locs ls E hK hA hW hl => k_X13_setThreshold_0 E hK hA hf hW hl)

/-! PaperStormModel.threshold()I X13_threshold -/
abbrev rm_X13_threshold : Room := { frames := 0, cells := 0, slots := 0, locals := 0 }
theorem in_X13_threshold_X13 : ∀ w ∈ wsX130, w ∈ wsX13_threshold := by decide +kernel
theorem lk_X13_threshold_58 : Cond.fieldLink RX13 58 "PaperStormModel" "code" "I" ∈ wsX13_threshold := by decide +kernel
theorem lk_X13_threshold_7 : Cond.fieldLink RX13 7 "PaperStormModel" "g" "[I" ∈ wsX13_threshold := by decide +kernel
noncomputable def f_X13_threshold (x_g : Nat → Int32) (x_code : Int32) : Option (Int32 × Int32) :=
  some ((x_g (2 : Int32).toNatClampNeg), 0)
abbrev G_X13_threshold (p : Program) (l : Launch) (e : Env) (s : State) (m : MethodId) (args : Array Value) (below : List Frame) (meth : Method) (c : Code) (g : GE) (A : Nat → Prop) (h0 h1 h2 h3 h4 h5 h6 h7 h8 h9 h10 h11 h12 h13 : Nat) (x_g : Nat → Int32) (x_kept : Nat → Int32) (x_saved : Nat → Int32) (x_before : Nat → Int32) (x_was : Nat → Int32) (x_region : Nat → Int32) (x_parts : Nat → Int64) (x_next : Nat → Int64) (x_ways : Nat → Int32) (x_more : Nat → Int32) (x_whole : Int64) (x_isSaved : Int32) (x_changes : Int32) (x_isWithin : Int32) (x_input : Nat → Int32) (x_length : Int32) (x_fault : Int32) (x_failed : Int32) (x_signs : Nat → Int32) (x_signMany : Int32) (x_at : Int32) (x_told : Nat → Int32) (x_toldMany : Int32) (res : Int32 × Int32) (H : Heap) (locs : List Loc) (pc : Nat) (ls : Array Slot) (st : List Value) : Prop := W p l e (headSpec wsX13_threshold rm_X13_threshold).room s m args below meth c H locs 0 0 (MQ below (PoI g A (w_X13 g h0 h1 h2 h3 h4 h5 h6 h7 h8 h9 h10 h11 h12 h13 x_g x_kept x_saved x_before x_was x_region x_parts x_next x_ways x_more x_whole x_isSaved x_changes x_isWithin res.2 x_input x_length x_fault x_failed x_signs x_signMany x_at x_told x_toldMany) res.1) args s 0 0 A) (F0 m pc ls st)
set_option maxHeartbeats 4000000 in
set_option maxRecDepth 100000 in
theorem k_X13_threshold_0 {p : Program} {l : Launch} {e : Env} {s : State} {m : MethodId} {args : Array Value} {below : List Frame} {meth : Method} {c : Code} {g : GE} {A : Nat → Prop} {h0 h1 h2 h3 h4 h5 h6 h7 h8 h9 h10 h11 h12 h13 : Nat} {x_g : Nat → Int32} {x_kept : Nat → Int32} {x_saved : Nat → Int32} {x_before : Nat → Int32} {x_was : Nat → Int32} {x_region : Nat → Int32} {x_parts : Nat → Int64} {x_next : Nat → Int64} {x_ways : Nat → Int32} {x_more : Nat → Int32} {x_whole : Int64} {x_isSaved : Int32} {x_changes : Int32} {x_isWithin : Int32} {x_code : Int32} {x_input : Nat → Int32} {x_length : Int32} {x_fault : Int32} {x_failed : Int32} {x_signs : Nat → Int32} {x_signMany : Int32} {x_at : Int32} {x_told : Nat → Int32} {x_toldMany : Int32} {res : Int32 × Int32} {H : Heap} {locs : List Loc} {ls : Array Slot} 
    (E : En cX13_threshold RX13 wsX13_threshold 1 (some .int) p s m args meth c) (hK : KK g s) (hA : ∀ q, s.heap.size ≤ q → A q) (h : f_X13_threshold x_g x_code = some res) (hW : Wo g A s H locs (w_X13 g h0 h1 h2 h3 h4 h5 h6 h7 h8 h9 h10 h11 h12 h13 x_g x_kept x_saved x_before x_was x_region x_parts x_next x_ways x_more x_whole x_isSaved x_changes x_isWithin x_code x_input x_length x_fault x_failed x_signs x_signMany x_at x_told x_toldMany)) (hl : lv_has ls 1 [(0, .ref h0)]) : G_X13_threshold p l e s m args below meth c g A h0 h1 h2 h3 h4 h5 h6 h7 h8 h9 h10 h11 h12 h13 x_g x_kept x_saved x_before x_was x_region x_parts x_next x_ways x_more x_whole x_isSaved x_changes x_isWithin x_input x_length x_fault x_failed x_signs x_signMany x_at x_told x_toldMany res H locs 0 ls [] := by
  have hts := E.2.2.2.1
  unfold f_X13_threshold at h
  refine lv_aload_n E.1 E.2.1 dX13_threshold_0 rfl (lv_at hl 0 rfl) ?_
  refine lv_iconst (v := 0) E.1 E.2.1 dX13_threshold_1 (by decide) ?_
  refine wPut (world' := (w_X13 g h0 h1 h2 h3 h4 h5 h6 h7 h8 h9 h10 h11 h12 h13 x_g x_kept x_saved x_before x_was x_region x_parts x_next x_ways x_more x_whole x_isSaved x_changes x_isWithin 0 x_input x_length x_fault x_failed x_signs x_signMany x_at x_told x_toldMany)) E hK in_X13_threshold_X13 tyX13 tyX13_ok nmX13 hW 14 lk_X13_threshold_58 0 rfl rfl (by decide) rfl rfl rfl rfl rfl (Nat.le_of_ble_eq_true rfl) dX13_threshold_2 rfl (fun H locs hW => ?_)
  refine lv_aload_n E.1 E.2.1 dX13_threshold_5 rfl (lv_at hl 0 rfl) ?_
  refine wGet (v := .ref h1) E hK in_X13_threshold_X13 hW 0 lk_X13_threshold_7 0 rfl rfl (by decide) rfl rfl dX13_threshold_6 ?_
  refine lv_iconst (v := 2) E.1 E.2.1 dX13_threshold_9 (by decide) ?_
  refine wIald E hK hW 1 rfl (by decide) dX13_threshold_10 ?_
  obtain rfl := Option.some.inj h
  exact endI E rfl hW dX13_threshold_11
theorem c_X13_threshold (l : Launch) (g : GE) (h0 h1 h2 h3 h4 h5 h6 h7 h8 h9 h10 h11 h12 h13 : Nat) (x_g : Nat → Int32) (x_kept : Nat → Int32) (x_saved : Nat → Int32) (x_before : Nat → Int32) (x_was : Nat → Int32) (x_region : Nat → Int32) (x_parts : Nat → Int64) (x_next : Nat → Int64) (x_ways : Nat → Int32) (x_more : Nat → Int32) (x_whole : Int64) (x_isSaved : Int32) (x_changes : Int32) (x_isWithin : Int32) (x_code : Int32) (x_input : Nat → Int32) (x_length : Int32) (x_fault : Int32) (x_failed : Int32) (x_signs : Nat → Int32) (x_signMany : Int32) (x_at : Int32) (x_told : Nat → Int32) (x_toldMany : Int32) {res : Int32 × Int32} (hf : f_X13_threshold x_g x_code = some res) : CI l yX13_threshold wsX13_threshold rm_X13_threshold g [.ref h0] (w_X13 g h0 h1 h2 h3 h4 h5 h6 h7 h8 h9 h10 h11 h12 h13 x_g x_kept x_saved x_before x_was x_region x_parts x_next x_ways x_more x_whole x_isSaved x_changes x_isWithin x_code x_input x_length x_fault x_failed x_signs x_signMany x_at x_told x_toldMany) (w_X13 g h0 h1 h2 h3 h4 h5 h6 h7 h8 h9 h10 h11 h12 h13 x_g x_kept x_saved x_before x_was x_region x_parts x_next x_ways x_more x_whole x_isSaved x_changes x_isWithin res.2 x_input x_length x_fault x_failed x_signs x_signMany x_at x_told x_toldMany) res.1 :=
  mkI (cc := cX13_threshold) (maxL := 1) (by decide) rfl (Nat.le_of_ble_eq_true rfl) (fun p e s m args below meth c A H locs ls E hK hA hW hl => k_X13_threshold_0 E hK hA hf hW hl)

/-! PaperStormModel.slope(II)I X13_slope -/
abbrev rm_X13_slope : Room := { frames := 1, cells := 0, slots := 0, locals := 21 }
theorem in_X13_slope_X13 : ∀ w ∈ wsX130, w ∈ wsX13_slope := by decide +kernel
theorem lk_X13_slope_7 : Cond.fieldLink RX13 7 "PaperStormModel" "g" "[I" ∈ wsX13_slope := by decide +kernel
noncomputable def f_X13_slope (x_g : Nat → Int32) (a1 : Int32) (a2 : Int32) : Option (Int32) :=
  if (7 + a1) < 0 ∨ 60 ≤ (7 + a1).toNatClampNeg then none else if ((7 + a1) + a2) < 0 ∨ 60 ≤ ((7 + a1) + a2).toNatClampNeg then none else (f_X13_apart (x_g (7 + a1).toNatClampNeg) (x_g ((7 + a1) + a2).toNatClampNeg)).bind fun r20 => some (r20)
abbrev G_X13_slope (p : Program) (l : Launch) (e : Env) (s : State) (m : MethodId) (args : Array Value) (below : List Frame) (meth : Method) (c : Code) (g : GE) (A : Nat → Prop) (h0 h1 h2 h3 h4 h5 h6 h7 h8 h9 h10 h11 h12 h13 : Nat) (x_g : Nat → Int32) (x_kept : Nat → Int32) (x_saved : Nat → Int32) (x_before : Nat → Int32) (x_was : Nat → Int32) (x_region : Nat → Int32) (x_parts : Nat → Int64) (x_next : Nat → Int64) (x_ways : Nat → Int32) (x_more : Nat → Int32) (x_whole : Int64) (x_isSaved : Int32) (x_changes : Int32) (x_isWithin : Int32) (x_code : Int32) (x_input : Nat → Int32) (x_length : Int32) (x_fault : Int32) (x_failed : Int32) (x_signs : Nat → Int32) (x_signMany : Int32) (x_at : Int32) (x_told : Nat → Int32) (x_toldMany : Int32) (res : Int32) (H : Heap) (locs : List Loc) (pc : Nat) (ls : Array Slot) (st : List Value) : Prop := W p l e (headSpec wsX13_slope rm_X13_slope).room s m args below meth c H locs 0 0 (MQ below (PoI g A (w_X13 g h0 h1 h2 h3 h4 h5 h6 h7 h8 h9 h10 h11 h12 h13 x_g x_kept x_saved x_before x_was x_region x_parts x_next x_ways x_more x_whole x_isSaved x_changes x_isWithin x_code x_input x_length x_fault x_failed x_signs x_signMany x_at x_told x_toldMany) res) args s 0 0 A) (F0 m pc ls st)
set_option maxHeartbeats 4000000 in
set_option maxRecDepth 100000 in
theorem k_X13_slope_0 {p : Program} {l : Launch} {e : Env} {s : State} {m : MethodId} {args : Array Value} {below : List Frame} {meth : Method} {c : Code} {g : GE} {A : Nat → Prop} {h0 h1 h2 h3 h4 h5 h6 h7 h8 h9 h10 h11 h12 h13 : Nat} {x_g : Nat → Int32} {x_kept : Nat → Int32} {x_saved : Nat → Int32} {x_before : Nat → Int32} {x_was : Nat → Int32} {x_region : Nat → Int32} {x_parts : Nat → Int64} {x_next : Nat → Int64} {x_ways : Nat → Int32} {x_more : Nat → Int32} {x_whole : Int64} {x_isSaved : Int32} {x_changes : Int32} {x_isWithin : Int32} {x_code : Int32} {x_input : Nat → Int32} {x_length : Int32} {x_fault : Int32} {x_failed : Int32} {x_signs : Nat → Int32} {x_signMany : Int32} {x_at : Int32} {x_told : Nat → Int32} {x_toldMany : Int32} {res : Int32} {H : Heap} {locs : List Loc} {ls : Array Slot} {a1 : Int32} {a2 : Int32}
    (E : En cX13_slope RX13 wsX13_slope 3 (some .int) p s m args meth c) (hK : KK g s) (hA : ∀ q, s.heap.size ≤ q → A q) (h : f_X13_slope x_g a1 a2 = some res) (hW : Wo g A s H locs (w_X13 g h0 h1 h2 h3 h4 h5 h6 h7 h8 h9 h10 h11 h12 h13 x_g x_kept x_saved x_before x_was x_region x_parts x_next x_ways x_more x_whole x_isSaved x_changes x_isWithin x_code x_input x_length x_fault x_failed x_signs x_signMany x_at x_told x_toldMany)) (hl : lv_has ls 3 [(0, .ref h0), (1, .int a1), (2, .int a2)]) : G_X13_slope p l e s m args below meth c g A h0 h1 h2 h3 h4 h5 h6 h7 h8 h9 h10 h11 h12 h13 x_g x_kept x_saved x_before x_was x_region x_parts x_next x_ways x_more x_whole x_isSaved x_changes x_isWithin x_code x_input x_length x_fault x_failed x_signs x_signMany x_at x_told x_toldMany res H locs 0 ls [] := by
  have hts := E.2.2.2.1
  unfold f_X13_slope at h
  refine lv_aload_n E.1 E.2.1 dX13_slope_0 rfl (lv_at hl 0 rfl) ?_
  refine wGet (v := .ref h1) E hK in_X13_slope_X13 hW 0 lk_X13_slope_7 0 rfl rfl (by decide) rfl rfl dX13_slope_1 ?_
  refine lv_bipush (v := 7) E.1 E.2.1 dX13_slope_4 (by decide) ?_
  refine lv_iload_n E.1 E.2.1 dX13_slope_6 rfl (lv_at hl 1 rfl) ?_
  refine lv_iadd E.1 E.2.1 dX13_slope_7 ?_
  obtain ⟨hi8, h⟩ := ox h
  refine wIald E hK hW 1 rfl hi8 dX13_slope_8 ?_
  refine lv_aload_n E.1 E.2.1 dX13_slope_9 rfl (lv_at hl 0 rfl) ?_
  refine wGet (v := .ref h1) E hK in_X13_slope_X13 hW 0 lk_X13_slope_7 0 rfl rfl (by decide) rfl rfl dX13_slope_10 ?_
  refine lv_bipush (v := 7) E.1 E.2.1 dX13_slope_13 (by decide) ?_
  refine lv_iload_n E.1 E.2.1 dX13_slope_15 rfl (lv_at hl 1 rfl) ?_
  refine lv_iadd E.1 E.2.1 dX13_slope_16 ?_
  refine lv_iload_n E.1 E.2.1 dX13_slope_17 rfl (lv_at hl 2 rfl) ?_
  refine lv_iadd E.1 E.2.1 dX13_slope_18 ?_
  obtain ⟨hi19, h⟩ := ox h
  refine wIald E hK hW 1 rfl hi19 dX13_slope_19 ?_
  obtain ⟨r20, hc, h⟩ := bx h
  refine goI (world' := (w_X13 g h0 h1 h2 h3 h4 h5 h6 h7 h8 h9 h10 h11 h12 h13 x_g x_kept x_saved x_before x_was x_region x_parts x_next x_ways x_more x_whole x_isSaved x_changes x_isWithin x_code x_input x_length x_fault x_failed x_signs x_signMany x_at x_told x_toldMany)) hW hA (is := []) rfl (goS (rest := []) E hK hW [] rfl rfl (c_X13_apart l g (x_g (7 + a1).toNatClampNeg) (x_g ((7 + a1) + a2).toNatClampNeg) (hf := hc) H.size) (va_cwS 2 hts gX13_slope_X13_apart rfl rfl rfl (by decide +kernel) ⟨Nat.le_of_ble_eq_true rfl, Nat.le_of_ble_eq_true rfl⟩) hl.1 rfl rfl (Nat.le_of_ble_eq_true rfl) dX13_slope_20 ⟨Nat.zero_le _, Nat.zero_le _⟩) rfl rfl (fun H locs hW => ?_)
  obtain rfl := Option.some.inj h
  exact endI E rfl hW dX13_slope_23
theorem c_X13_slope (l : Launch) (g : GE) (h0 h1 h2 h3 h4 h5 h6 h7 h8 h9 h10 h11 h12 h13 : Nat) (x_g : Nat → Int32) (x_kept : Nat → Int32) (x_saved : Nat → Int32) (x_before : Nat → Int32) (x_was : Nat → Int32) (x_region : Nat → Int32) (x_parts : Nat → Int64) (x_next : Nat → Int64) (x_ways : Nat → Int32) (x_more : Nat → Int32) (x_whole : Int64) (x_isSaved : Int32) (x_changes : Int32) (x_isWithin : Int32) (x_code : Int32) (x_input : Nat → Int32) (x_length : Int32) (x_fault : Int32) (x_failed : Int32) (x_signs : Nat → Int32) (x_signMany : Int32) (x_at : Int32) (x_told : Nat → Int32) (x_toldMany : Int32) (a1 : Int32) (a2 : Int32) {res : Int32} (hf : f_X13_slope x_g a1 a2 = some res) : CI l yX13_slope wsX13_slope rm_X13_slope g [.ref h0, .int a1, .int a2] (w_X13 g h0 h1 h2 h3 h4 h5 h6 h7 h8 h9 h10 h11 h12 h13 x_g x_kept x_saved x_before x_was x_region x_parts x_next x_ways x_more x_whole x_isSaved x_changes x_isWithin x_code x_input x_length x_fault x_failed x_signs x_signMany x_at x_told x_toldMany) (w_X13 g h0 h1 h2 h3 h4 h5 h6 h7 h8 h9 h10 h11 h12 h13 x_g x_kept x_saved x_before x_was x_region x_parts x_next x_ways x_more x_whole x_isSaved x_changes x_isWithin x_code x_input x_length x_fault x_failed x_signs x_signMany x_at x_told x_toldMany) res :=
  mkI (cc := cX13_slope) (maxL := 3) (by decide) rfl (Nat.le_of_ble_eq_true rfl) (fun p e s m args below meth c A H locs ls E hK hA hW hl => k_X13_slope_0 E hK hA hf hW hl)

/-! PaperStormModel.isFront(II)Z X13_isFront -/
abbrev rm_X13_isFront : Room := { frames := 2, cells := 0, slots := 0, locals := 43 }
theorem in_X13_isFront_X13 : ∀ w ∈ wsX130, w ∈ wsX13_isFront := by decide +kernel
theorem lk_X13_isFront_7 : Cond.fieldLink RX13 7 "PaperStormModel" "g" "[I" ∈ wsX13_isFront := by decide +kernel
noncomputable def f_X13_isFront (x_g : Nat → Int32) (a1 : Int32) (a2 : Int32) : Option (Int32) :=
  jo (fun (s0_20 : Int32) => if ¬ vp_nar .boolean s0_20 = s0_20 then none else some (s0_20)) (fun j20 => (f_X13_slope x_g a1 a2).bind fun r3 => if r3 < (x_g (2 : Int32).toNatClampNeg) then j20 0 else j20 1)
abbrev G_X13_isFront (p : Program) (l : Launch) (e : Env) (s : State) (m : MethodId) (args : Array Value) (below : List Frame) (meth : Method) (c : Code) (g : GE) (A : Nat → Prop) (h0 h1 h2 h3 h4 h5 h6 h7 h8 h9 h10 h11 h12 h13 : Nat) (x_g : Nat → Int32) (x_kept : Nat → Int32) (x_saved : Nat → Int32) (x_before : Nat → Int32) (x_was : Nat → Int32) (x_region : Nat → Int32) (x_parts : Nat → Int64) (x_next : Nat → Int64) (x_ways : Nat → Int32) (x_more : Nat → Int32) (x_whole : Int64) (x_isSaved : Int32) (x_changes : Int32) (x_isWithin : Int32) (x_code : Int32) (x_input : Nat → Int32) (x_length : Int32) (x_fault : Int32) (x_failed : Int32) (x_signs : Nat → Int32) (x_signMany : Int32) (x_at : Int32) (x_told : Nat → Int32) (x_toldMany : Int32) (res : Int32) (H : Heap) (locs : List Loc) (pc : Nat) (ls : Array Slot) (st : List Value) : Prop := W p l e (headSpec wsX13_isFront rm_X13_isFront).room s m args below meth c H locs 0 0 (MQ below (PoI g A (w_X13 g h0 h1 h2 h3 h4 h5 h6 h7 h8 h9 h10 h11 h12 h13 x_g x_kept x_saved x_before x_was x_region x_parts x_next x_ways x_more x_whole x_isSaved x_changes x_isWithin x_code x_input x_length x_fault x_failed x_signs x_signMany x_at x_told x_toldMany) res) args s 0 0 A) (F0 m pc ls st)
set_option maxHeartbeats 4000000 in
set_option maxRecDepth 100000 in
theorem k_X13_isFront_0 {p : Program} {l : Launch} {e : Env} {s : State} {m : MethodId} {args : Array Value} {below : List Frame} {meth : Method} {c : Code} {g : GE} {A : Nat → Prop} {h0 h1 h2 h3 h4 h5 h6 h7 h8 h9 h10 h11 h12 h13 : Nat} {x_g : Nat → Int32} {x_kept : Nat → Int32} {x_saved : Nat → Int32} {x_before : Nat → Int32} {x_was : Nat → Int32} {x_region : Nat → Int32} {x_parts : Nat → Int64} {x_next : Nat → Int64} {x_ways : Nat → Int32} {x_more : Nat → Int32} {x_whole : Int64} {x_isSaved : Int32} {x_changes : Int32} {x_isWithin : Int32} {x_code : Int32} {x_input : Nat → Int32} {x_length : Int32} {x_fault : Int32} {x_failed : Int32} {x_signs : Nat → Int32} {x_signMany : Int32} {x_at : Int32} {x_told : Nat → Int32} {x_toldMany : Int32} {res : Int32} {H : Heap} {locs : List Loc} {ls : Array Slot} {a1 : Int32} {a2 : Int32}
    (E : En cX13_isFront RX13 wsX13_isFront 3 (some .boolean) p s m args meth c) (hK : KK g s) (hA : ∀ q, s.heap.size ≤ q → A q) (h : f_X13_isFront x_g a1 a2 = some res) (hW : Wo g A s H locs (w_X13 g h0 h1 h2 h3 h4 h5 h6 h7 h8 h9 h10 h11 h12 h13 x_g x_kept x_saved x_before x_was x_region x_parts x_next x_ways x_more x_whole x_isSaved x_changes x_isWithin x_code x_input x_length x_fault x_failed x_signs x_signMany x_at x_told x_toldMany)) (hl : lv_has ls 3 [(0, .ref h0), (1, .int a1), (2, .int a2)]) : G_X13_isFront p l e s m args below meth c g A h0 h1 h2 h3 h4 h5 h6 h7 h8 h9 h10 h11 h12 h13 x_g x_kept x_saved x_before x_was x_region x_parts x_next x_ways x_more x_whole x_isSaved x_changes x_isWithin x_code x_input x_length x_fault x_failed x_signs x_signMany x_at x_told x_toldMany res H locs 0 ls [] := by
  have hts := E.2.2.2.1
  unfold f_X13_isFront at h
  obtain ⟨j20, hj20, h⟩ := jox1 h
  have J20 : ∀ (s0_20 : Int32) (H : Heap) (locs : List Loc) (ls : Array Slot), j20 s0_20 = some res → Wo g A s H locs (w_X13 g h0 h1 h2 h3 h4 h5 h6 h7 h8 h9 h10 h11 h12 h13 x_g x_kept x_saved x_before x_was x_region x_parts x_next x_ways x_more x_whole x_isSaved x_changes x_isWithin x_code x_input x_length x_fault x_failed x_signs x_signMany x_at x_told x_toldMany) → lv_has ls 3 [] → G_X13_isFront p l e s m args below meth c g A h0 h1 h2 h3 h4 h5 h6 h7 h8 h9 h10 h11 h12 h13 x_g x_kept x_saved x_before x_was x_region x_parts x_next x_ways x_more x_whole x_isSaved x_changes x_isWithin x_code x_input x_length x_fault x_failed x_signs x_signMany x_at x_told x_toldMany res H locs 20 ls [.int s0_20] := by
    intro s0_20 H locs ls h hW hl
    rw [hj20] at h
    obtain ⟨hz, h⟩ := ox h
    obtain rfl := Option.some.inj h
    exact endI E (nar_z (Decidable.not_not.mp hz)) hW dX13_isFront_20
  refine lv_aload_n E.1 E.2.1 dX13_isFront_0 rfl (lv_at hl 0 rfl) ?_
  refine lv_iload_n E.1 E.2.1 dX13_isFront_1 rfl (lv_at hl 1 rfl) ?_
  refine lv_iload_n E.1 E.2.1 dX13_isFront_2 rfl (lv_at hl 2 rfl) ?_
  obtain ⟨r3, hc, h⟩ := bx h
  refine goI (world' := (w_X13 g h0 h1 h2 h3 h4 h5 h6 h7 h8 h9 h10 h11 h12 h13 x_g x_kept x_saved x_before x_was x_region x_parts x_next x_ways x_more x_whole x_isSaved x_changes x_isWithin x_code x_input x_length x_fault x_failed x_signs x_signMany x_at x_told x_toldMany)) hW hA (is := [0, 1, 2, 3, 4, 5, 6, 7, 8, 9, 10, 11, 12, 13]) rfl (goV (rest := []) E hK hW [0, 1, 2, 3, 4, 5, 6, 7, 8, 9, 10, 11, 12, 13] rfl rfl (c_X13_slope l g h0 h1 h2 h3 h4 h5 h6 h7 h8 h9 h10 h11 h12 h13 x_g x_kept x_saved x_before x_was x_region x_parts x_next x_ways x_more x_whole x_isSaved x_changes x_isWithin x_code x_input x_length x_fault x_failed x_signs x_signMany x_at x_told x_toldMany a1 a2 (hf := hc) H.size) (cwV 2 hts gX13_isFront_X13_slope rfl rfl rfl (by decide +kernel) ⟨Nat.le_of_ble_eq_true rfl, Nat.le_of_ble_eq_true rfl⟩) 0 rfl rfl rfl hl.1 rfl rfl (Nat.le_of_ble_eq_true rfl) dX13_isFront_3 ⟨Nat.zero_le _, Nat.zero_le _⟩) rfl rfl (fun H locs hW => ?_)
  refine lv_aload_n E.1 E.2.1 dX13_isFront_6 rfl (lv_at hl 0 rfl) ?_
  refine wGet (v := .ref h1) E hK in_X13_isFront_X13 hW 0 lk_X13_isFront_7 0 rfl rfl (by decide) rfl rfl dX13_isFront_7 ?_
  refine lv_iconst (v := 2) E.1 E.2.1 dX13_isFront_10 (by decide) ?_
  refine wIald E hK hW 1 rfl (by decide) dX13_isFront_11 ?_
  refine lv_icmp_lt (tgt := 19) E.1 E.2.1 dX13_isFront_12 (by decide) (fun c12 => ?_) (fun c12 => ?_)
  · have h := it c12 h
    refine lv_iconst (v := 0) E.1 E.2.1 dX13_isFront_19 (by decide) ?_
    exact J20 0 H locs ls h hW (lv_sub hl [] rfl)
  · have h := ie c12 h
    refine lv_iconst (v := 1) E.1 E.2.1 dX13_isFront_15 (by decide) ?_
    refine lv_goto (tgt := 20) E.1 E.2.1 dX13_isFront_16 (by decide) ?_
    exact J20 1 H locs ls h hW (lv_sub hl [] rfl)
theorem c_X13_isFront (l : Launch) (g : GE) (h0 h1 h2 h3 h4 h5 h6 h7 h8 h9 h10 h11 h12 h13 : Nat) (x_g : Nat → Int32) (x_kept : Nat → Int32) (x_saved : Nat → Int32) (x_before : Nat → Int32) (x_was : Nat → Int32) (x_region : Nat → Int32) (x_parts : Nat → Int64) (x_next : Nat → Int64) (x_ways : Nat → Int32) (x_more : Nat → Int32) (x_whole : Int64) (x_isSaved : Int32) (x_changes : Int32) (x_isWithin : Int32) (x_code : Int32) (x_input : Nat → Int32) (x_length : Int32) (x_fault : Int32) (x_failed : Int32) (x_signs : Nat → Int32) (x_signMany : Int32) (x_at : Int32) (x_told : Nat → Int32) (x_toldMany : Int32) (a1 : Int32) (a2 : Int32) {res : Int32} (hf : f_X13_isFront x_g a1 a2 = some res) : CI l yX13_isFront wsX13_isFront rm_X13_isFront g [.ref h0, .int a1, .int a2] (w_X13 g h0 h1 h2 h3 h4 h5 h6 h7 h8 h9 h10 h11 h12 h13 x_g x_kept x_saved x_before x_was x_region x_parts x_next x_ways x_more x_whole x_isSaved x_changes x_isWithin x_code x_input x_length x_fault x_failed x_signs x_signMany x_at x_told x_toldMany) (w_X13 g h0 h1 h2 h3 h4 h5 h6 h7 h8 h9 h10 h11 h12 h13 x_g x_kept x_saved x_before x_was x_region x_parts x_next x_ways x_more x_whole x_isSaved x_changes x_isWithin x_code x_input x_length x_fault x_failed x_signs x_signMany x_at x_told x_toldMany) res :=
  mkI (cc := cX13_isFront) (maxL := 3) (by decide) rfl (Nat.le_of_ble_eq_true rfl) (fun p e s m args below meth c A H locs ls E hK hA hW hl => k_X13_isFront_0 E hK hA hf hW hl)

/-! PaperStormModel.isFrontRight(II)Z X13_isFrontRight -/
abbrev rm_X13_isFrontRight : Room := { frames := 3, cells := 0, slots := 0, locals := 65 }
noncomputable def f_X13_isFrontRight (x_g : Nat → Int32) (x_code : Int32) (a1 : Int32) (a2 : Int32) : Option (Int32 × Int32) :=
  jo (fun (s1_23 : Int32) => jo (fun (x_code_47 : Int32) (s0_47 : Int32) => if ¬ vp_nar .boolean s0_47 = s0_47 then none else some (s0_47, x_code_47)) (fun j47 => jo (fun (x_code_46 : Int32) => j47 x_code_46 0) (fun j46 => (f_X13_fails x_code s1_23).bind fun r23 => if r23.1 = 0 then (f_X13_isFront x_g ((5 * a1) + a2) 1).bind fun r36 => if r36 = 0 then j46 r23.2 else j47 r23.2 1 else j46 r23.2))) (fun j23 => (f_X13_isCell a1 a2).bind fun r3 => if r3 = 0 then j23 1 else if a2 = 4 then j23 2 else j23 0)
abbrev G_X13_isFrontRight (p : Program) (l : Launch) (e : Env) (s : State) (m : MethodId) (args : Array Value) (below : List Frame) (meth : Method) (c : Code) (g : GE) (A : Nat → Prop) (h0 h1 h2 h3 h4 h5 h6 h7 h8 h9 h10 h11 h12 h13 : Nat) (x_g : Nat → Int32) (x_kept : Nat → Int32) (x_saved : Nat → Int32) (x_before : Nat → Int32) (x_was : Nat → Int32) (x_region : Nat → Int32) (x_parts : Nat → Int64) (x_next : Nat → Int64) (x_ways : Nat → Int32) (x_more : Nat → Int32) (x_whole : Int64) (x_isSaved : Int32) (x_changes : Int32) (x_isWithin : Int32) (x_input : Nat → Int32) (x_length : Int32) (x_fault : Int32) (x_failed : Int32) (x_signs : Nat → Int32) (x_signMany : Int32) (x_at : Int32) (x_told : Nat → Int32) (x_toldMany : Int32) (res : Int32 × Int32) (H : Heap) (locs : List Loc) (pc : Nat) (ls : Array Slot) (st : List Value) : Prop := W p l e (headSpec wsX13_isFrontRight rm_X13_isFrontRight).room s m args below meth c H locs 0 0 (MQ below (PoI g A (w_X13 g h0 h1 h2 h3 h4 h5 h6 h7 h8 h9 h10 h11 h12 h13 x_g x_kept x_saved x_before x_was x_region x_parts x_next x_ways x_more x_whole x_isSaved x_changes x_isWithin res.2 x_input x_length x_fault x_failed x_signs x_signMany x_at x_told x_toldMany) res.1) args s 0 0 A) (F0 m pc ls st)
set_option maxHeartbeats 4000000 in
set_option maxRecDepth 100000 in
theorem k_X13_isFrontRight_0 {p : Program} {l : Launch} {e : Env} {s : State} {m : MethodId} {args : Array Value} {below : List Frame} {meth : Method} {c : Code} {g : GE} {A : Nat → Prop} {h0 h1 h2 h3 h4 h5 h6 h7 h8 h9 h10 h11 h12 h13 : Nat} {x_g : Nat → Int32} {x_kept : Nat → Int32} {x_saved : Nat → Int32} {x_before : Nat → Int32} {x_was : Nat → Int32} {x_region : Nat → Int32} {x_parts : Nat → Int64} {x_next : Nat → Int64} {x_ways : Nat → Int32} {x_more : Nat → Int32} {x_whole : Int64} {x_isSaved : Int32} {x_changes : Int32} {x_isWithin : Int32} {x_code : Int32} {x_input : Nat → Int32} {x_length : Int32} {x_fault : Int32} {x_failed : Int32} {x_signs : Nat → Int32} {x_signMany : Int32} {x_at : Int32} {x_told : Nat → Int32} {x_toldMany : Int32} {res : Int32 × Int32} {H : Heap} {locs : List Loc} {ls : Array Slot} {a1 : Int32} {a2 : Int32}
    (E : En cX13_isFrontRight RX13 wsX13_isFrontRight 3 (some .boolean) p s m args meth c) (hK : KK g s) (hA : ∀ q, s.heap.size ≤ q → A q) (h : f_X13_isFrontRight x_g x_code a1 a2 = some res) (hW : Wo g A s H locs (w_X13 g h0 h1 h2 h3 h4 h5 h6 h7 h8 h9 h10 h11 h12 h13 x_g x_kept x_saved x_before x_was x_region x_parts x_next x_ways x_more x_whole x_isSaved x_changes x_isWithin x_code x_input x_length x_fault x_failed x_signs x_signMany x_at x_told x_toldMany)) (hl : lv_has ls 3 [(0, .ref h0), (1, .int a1), (2, .int a2)]) : G_X13_isFrontRight p l e s m args below meth c g A h0 h1 h2 h3 h4 h5 h6 h7 h8 h9 h10 h11 h12 h13 x_g x_kept x_saved x_before x_was x_region x_parts x_next x_ways x_more x_whole x_isSaved x_changes x_isWithin x_input x_length x_fault x_failed x_signs x_signMany x_at x_told x_toldMany res H locs 0 ls [] := by
  have hts := E.2.2.2.1
  unfold f_X13_isFrontRight at h
  obtain ⟨j23, hj23, h⟩ := jox1 h
  have J23 : ∀ (s1_23 : Int32) (H : Heap) (locs : List Loc) (ls : Array Slot), j23 s1_23 = some res → Wo g A s H locs (w_X13 g h0 h1 h2 h3 h4 h5 h6 h7 h8 h9 h10 h11 h12 h13 x_g x_kept x_saved x_before x_was x_region x_parts x_next x_ways x_more x_whole x_isSaved x_changes x_isWithin x_code x_input x_length x_fault x_failed x_signs x_signMany x_at x_told x_toldMany) → lv_has ls 3 [(0, .ref h0), (1, .int a1), (2, .int a2)] → G_X13_isFrontRight p l e s m args below meth c g A h0 h1 h2 h3 h4 h5 h6 h7 h8 h9 h10 h11 h12 h13 x_g x_kept x_saved x_before x_was x_region x_parts x_next x_ways x_more x_whole x_isSaved x_changes x_isWithin x_input x_length x_fault x_failed x_signs x_signMany x_at x_told x_toldMany res H locs 23 ls [.int s1_23, .ref h0] := by
    intro s1_23 H locs ls h hW hl
    rw [hj23] at h
    obtain ⟨j47, hj47, h⟩ := jox2 h
    have J47 : ∀ (x_code_47 : Int32) (s0_47 : Int32) (H : Heap) (locs : List Loc) (ls : Array Slot), j47 x_code_47 s0_47 = some res → Wo g A s H locs (w_X13 g h0 h1 h2 h3 h4 h5 h6 h7 h8 h9 h10 h11 h12 h13 x_g x_kept x_saved x_before x_was x_region x_parts x_next x_ways x_more x_whole x_isSaved x_changes x_isWithin x_code_47 x_input x_length x_fault x_failed x_signs x_signMany x_at x_told x_toldMany) → lv_has ls 3 [] → G_X13_isFrontRight p l e s m args below meth c g A h0 h1 h2 h3 h4 h5 h6 h7 h8 h9 h10 h11 h12 h13 x_g x_kept x_saved x_before x_was x_region x_parts x_next x_ways x_more x_whole x_isSaved x_changes x_isWithin x_input x_length x_fault x_failed x_signs x_signMany x_at x_told x_toldMany res H locs 47 ls [.int s0_47] := by
      intro x_code_47 s0_47 H locs ls h hW hl
      rw [hj47] at h
      obtain ⟨hz, h⟩ := ox h
      obtain rfl := Option.some.inj h
      exact endI E (nar_z (Decidable.not_not.mp hz)) hW dX13_isFrontRight_47
    obtain ⟨j46, hj46, h⟩ := jox1 h
    have J46 : ∀ (x_code_46 : Int32) (H : Heap) (locs : List Loc) (ls : Array Slot), j46 x_code_46 = some res → Wo g A s H locs (w_X13 g h0 h1 h2 h3 h4 h5 h6 h7 h8 h9 h10 h11 h12 h13 x_g x_kept x_saved x_before x_was x_region x_parts x_next x_ways x_more x_whole x_isSaved x_changes x_isWithin x_code_46 x_input x_length x_fault x_failed x_signs x_signMany x_at x_told x_toldMany) → lv_has ls 3 [] → G_X13_isFrontRight p l e s m args below meth c g A h0 h1 h2 h3 h4 h5 h6 h7 h8 h9 h10 h11 h12 h13 x_g x_kept x_saved x_before x_was x_region x_parts x_next x_ways x_more x_whole x_isSaved x_changes x_isWithin x_input x_length x_fault x_failed x_signs x_signMany x_at x_told x_toldMany res H locs 46 ls [] := by
      intro x_code_46 H locs ls h hW hl
      rw [hj46] at h
      refine lv_iconst (v := 0) E.1 E.2.1 dX13_isFrontRight_46 (by decide) ?_
      exact J47 x_code_46 0 H locs ls h hW (lv_sub hl [] rfl)
    obtain ⟨r23, hc, h⟩ := bx h
    refine goI (world' := (w_X13 g h0 h1 h2 h3 h4 h5 h6 h7 h8 h9 h10 h11 h12 h13 x_g x_kept x_saved x_before x_was x_region x_parts x_next x_ways x_more x_whole x_isSaved x_changes x_isWithin r23.2 x_input x_length x_fault x_failed x_signs x_signMany x_at x_told x_toldMany)) hW hA (is := [0, 1, 2, 3, 4, 5, 6, 7, 8, 9, 10, 11, 12, 13]) rfl (goV (rest := []) E hK hW [0, 1, 2, 3, 4, 5, 6, 7, 8, 9, 10, 11, 12, 13] rfl rfl (c_X13_fails l g h0 h1 h2 h3 h4 h5 h6 h7 h8 h9 h10 h11 h12 h13 x_g x_kept x_saved x_before x_was x_region x_parts x_next x_ways x_more x_whole x_isSaved x_changes x_isWithin x_code x_input x_length x_fault x_failed x_signs x_signMany x_at x_told x_toldMany s1_23 (hf := hc) H.size) (cwV 1 hts gX13_isFrontRight_X13_fails rfl rfl rfl (by decide +kernel) ⟨Nat.le_of_ble_eq_true rfl, Nat.le_of_ble_eq_true rfl⟩) 0 rfl rfl rfl hl.1 rfl rfl (Nat.le_of_ble_eq_true rfl) dX13_isFrontRight_23 ⟨Nat.zero_le _, Nat.zero_le _⟩) rfl rfl (fun H locs hW => ?_)
    refine lv_if_ne (tgt := 46) E.1 E.2.1 dX13_isFrontRight_26 (by decide) (fun c26 => ?_) (fun c26 => ?_)
    · have h := ie c26 h
      exact J46 r23.2 H locs ls h hW (lv_sub hl [] rfl)
    · have h := it c26 h
      refine lv_aload_n E.1 E.2.1 dX13_isFrontRight_29 rfl (lv_at hl 0 rfl) ?_
      refine lv_iconst (v := 5) E.1 E.2.1 dX13_isFrontRight_30 (by decide) ?_
      refine lv_iload_n E.1 E.2.1 dX13_isFrontRight_31 rfl (lv_at hl 1 rfl) ?_
      refine lv_imul E.1 E.2.1 dX13_isFrontRight_32 ?_
      refine lv_iload_n E.1 E.2.1 dX13_isFrontRight_33 rfl (lv_at hl 2 rfl) ?_
      refine lv_iadd E.1 E.2.1 dX13_isFrontRight_34 ?_
      refine lv_iconst (v := 1) E.1 E.2.1 dX13_isFrontRight_35 (by decide) ?_
      obtain ⟨r36, hc, h⟩ := bx h
      refine goI (world' := (w_X13 g h0 h1 h2 h3 h4 h5 h6 h7 h8 h9 h10 h11 h12 h13 x_g x_kept x_saved x_before x_was x_region x_parts x_next x_ways x_more x_whole x_isSaved x_changes x_isWithin r23.2 x_input x_length x_fault x_failed x_signs x_signMany x_at x_told x_toldMany)) hW hA (is := [0, 1, 2, 3, 4, 5, 6, 7, 8, 9, 10, 11, 12, 13]) rfl (goV (rest := []) E hK hW [0, 1, 2, 3, 4, 5, 6, 7, 8, 9, 10, 11, 12, 13] rfl rfl (c_X13_isFront l g h0 h1 h2 h3 h4 h5 h6 h7 h8 h9 h10 h11 h12 h13 x_g x_kept x_saved x_before x_was x_region x_parts x_next x_ways x_more x_whole x_isSaved x_changes x_isWithin r23.2 x_input x_length x_fault x_failed x_signs x_signMany x_at x_told x_toldMany ((5 * a1) + a2) 1 (hf := hc) H.size) (cwV 2 hts gX13_isFrontRight_X13_isFront rfl rfl rfl (by decide +kernel) ⟨Nat.le_of_ble_eq_true rfl, Nat.le_of_ble_eq_true rfl⟩) 0 rfl rfl rfl hl.1 rfl rfl (Nat.le_of_ble_eq_true rfl) dX13_isFrontRight_36 ⟨Nat.zero_le _, Nat.zero_le _⟩) rfl rfl (fun H locs hW => ?_)
      refine lv_if_eq (tgt := 46) E.1 E.2.1 dX13_isFrontRight_39 (by decide) (fun c39 => ?_) (fun c39 => ?_)
      · have h := it c39 h
        exact J46 r23.2 H locs ls h hW (lv_sub hl [] rfl)
      · have h := ie c39 h
        refine lv_iconst (v := 1) E.1 E.2.1 dX13_isFrontRight_42 (by decide) ?_
        refine lv_goto (tgt := 47) E.1 E.2.1 dX13_isFrontRight_43 (by decide) ?_
        exact J47 r23.2 1 H locs ls h hW (lv_sub hl [] rfl)
  refine lv_aload_n E.1 E.2.1 dX13_isFrontRight_0 rfl (lv_at hl 0 rfl) ?_
  refine lv_iload_n E.1 E.2.1 dX13_isFrontRight_1 rfl (lv_at hl 1 rfl) ?_
  refine lv_iload_n E.1 E.2.1 dX13_isFrontRight_2 rfl (lv_at hl 2 rfl) ?_
  obtain ⟨r3, hc, h⟩ := bx h
  refine goI (world' := (w_X13 g h0 h1 h2 h3 h4 h5 h6 h7 h8 h9 h10 h11 h12 h13 x_g x_kept x_saved x_before x_was x_region x_parts x_next x_ways x_more x_whole x_isSaved x_changes x_isWithin x_code x_input x_length x_fault x_failed x_signs x_signMany x_at x_told x_toldMany)) hW hA (is := []) rfl (goS (rest := [.ref h0]) E hK hW [] rfl rfl (c_X13_isCell l g a1 a2 (hf := hc) H.size) (va_cwS 2 hts gX13_isFrontRight_X13_isCell rfl rfl rfl (by decide +kernel) ⟨Nat.le_of_ble_eq_true rfl, Nat.le_of_ble_eq_true rfl⟩) hl.1 rfl rfl (Nat.le_of_ble_eq_true rfl) dX13_isFrontRight_3 ⟨Nat.zero_le _, Nat.zero_le _⟩) rfl rfl (fun H locs hW => ?_)
  refine lv_if_ne (tgt := 13) E.1 E.2.1 dX13_isFrontRight_6 (by decide) (fun c6 => ?_) (fun c6 => ?_)
  · have h := ie c6 h
    refine lv_iload_n E.1 E.2.1 dX13_isFrontRight_13 rfl (lv_at hl 2 rfl) ?_
    refine lv_iconst (v := 4) E.1 E.2.1 dX13_isFrontRight_14 (by decide) ?_
    refine lv_icmp_ne (tgt := 22) E.1 E.2.1 dX13_isFrontRight_15 (by decide) (fun c15 => ?_) (fun c15 => ?_)
    · have h := ie c15 h
      refine lv_iconst (v := 0) E.1 E.2.1 dX13_isFrontRight_22 (by decide) ?_
      exact J23 0 H locs ls h hW (lv_sub hl [0, 1, 2] rfl)
    · have h := it c15 h
      refine lv_iconst (v := 2) E.1 E.2.1 dX13_isFrontRight_18 (by decide) ?_
      refine lv_goto (tgt := 23) E.1 E.2.1 dX13_isFrontRight_19 (by decide) ?_
      exact J23 2 H locs ls h hW (lv_sub hl [0, 1, 2] rfl)
  · have h := it c6 h
    refine lv_iconst (v := 1) E.1 E.2.1 dX13_isFrontRight_9 (by decide) ?_
    refine lv_goto (tgt := 23) E.1 E.2.1 dX13_isFrontRight_10 (by decide) ?_
    exact J23 1 H locs ls h hW (lv_sub hl [0, 1, 2] rfl)
theorem c_X13_isFrontRight (l : Launch) (g : GE) (h0 h1 h2 h3 h4 h5 h6 h7 h8 h9 h10 h11 h12 h13 : Nat) (x_g : Nat → Int32) (x_kept : Nat → Int32) (x_saved : Nat → Int32) (x_before : Nat → Int32) (x_was : Nat → Int32) (x_region : Nat → Int32) (x_parts : Nat → Int64) (x_next : Nat → Int64) (x_ways : Nat → Int32) (x_more : Nat → Int32) (x_whole : Int64) (x_isSaved : Int32) (x_changes : Int32) (x_isWithin : Int32) (x_code : Int32) (x_input : Nat → Int32) (x_length : Int32) (x_fault : Int32) (x_failed : Int32) (x_signs : Nat → Int32) (x_signMany : Int32) (x_at : Int32) (x_told : Nat → Int32) (x_toldMany : Int32) (a1 : Int32) (a2 : Int32) {res : Int32 × Int32} (hf : f_X13_isFrontRight x_g x_code a1 a2 = some res) : CI l yX13_isFrontRight wsX13_isFrontRight rm_X13_isFrontRight g [.ref h0, .int a1, .int a2] (w_X13 g h0 h1 h2 h3 h4 h5 h6 h7 h8 h9 h10 h11 h12 h13 x_g x_kept x_saved x_before x_was x_region x_parts x_next x_ways x_more x_whole x_isSaved x_changes x_isWithin x_code x_input x_length x_fault x_failed x_signs x_signMany x_at x_told x_toldMany) (w_X13 g h0 h1 h2 h3 h4 h5 h6 h7 h8 h9 h10 h11 h12 h13 x_g x_kept x_saved x_before x_was x_region x_parts x_next x_ways x_more x_whole x_isSaved x_changes x_isWithin res.2 x_input x_length x_fault x_failed x_signs x_signMany x_at x_told x_toldMany) res.1 :=
  mkI (cc := cX13_isFrontRight) (maxL := 3) (by decide) rfl (Nat.le_of_ble_eq_true rfl) (fun p e s m args below meth c A H locs ls E hK hA hW hl => k_X13_isFrontRight_0 E hK hA hf hW hl)

/-! PaperStormModel.isFrontBelow(II)Z X13_isFrontBelow -/
abbrev rm_X13_isFrontBelow : Room := { frames := 3, cells := 0, slots := 0, locals := 65 }
noncomputable def f_X13_isFrontBelow (x_g : Nat → Int32) (x_code : Int32) (a1 : Int32) (a2 : Int32) : Option (Int32 × Int32) :=
  jo (fun (s1_23 : Int32) => jo (fun (x_code_47 : Int32) (s0_47 : Int32) => if ¬ vp_nar .boolean s0_47 = s0_47 then none else some (s0_47, x_code_47)) (fun j47 => jo (fun (x_code_46 : Int32) => j47 x_code_46 0) (fun j46 => (f_X13_fails x_code s1_23).bind fun r23 => if r23.1 = 0 then (f_X13_isFront x_g ((5 * a1) + a2) 5).bind fun r36 => if r36 = 0 then j46 r23.2 else j47 r23.2 1 else j46 r23.2))) (fun j23 => (f_X13_isCell a1 a2).bind fun r3 => if r3 = 0 then j23 1 else if a1 = 4 then j23 2 else j23 0)
abbrev G_X13_isFrontBelow (p : Program) (l : Launch) (e : Env) (s : State) (m : MethodId) (args : Array Value) (below : List Frame) (meth : Method) (c : Code) (g : GE) (A : Nat → Prop) (h0 h1 h2 h3 h4 h5 h6 h7 h8 h9 h10 h11 h12 h13 : Nat) (x_g : Nat → Int32) (x_kept : Nat → Int32) (x_saved : Nat → Int32) (x_before : Nat → Int32) (x_was : Nat → Int32) (x_region : Nat → Int32) (x_parts : Nat → Int64) (x_next : Nat → Int64) (x_ways : Nat → Int32) (x_more : Nat → Int32) (x_whole : Int64) (x_isSaved : Int32) (x_changes : Int32) (x_isWithin : Int32) (x_input : Nat → Int32) (x_length : Int32) (x_fault : Int32) (x_failed : Int32) (x_signs : Nat → Int32) (x_signMany : Int32) (x_at : Int32) (x_told : Nat → Int32) (x_toldMany : Int32) (res : Int32 × Int32) (H : Heap) (locs : List Loc) (pc : Nat) (ls : Array Slot) (st : List Value) : Prop := W p l e (headSpec wsX13_isFrontBelow rm_X13_isFrontBelow).room s m args below meth c H locs 0 0 (MQ below (PoI g A (w_X13 g h0 h1 h2 h3 h4 h5 h6 h7 h8 h9 h10 h11 h12 h13 x_g x_kept x_saved x_before x_was x_region x_parts x_next x_ways x_more x_whole x_isSaved x_changes x_isWithin res.2 x_input x_length x_fault x_failed x_signs x_signMany x_at x_told x_toldMany) res.1) args s 0 0 A) (F0 m pc ls st)
set_option maxHeartbeats 4000000 in
set_option maxRecDepth 100000 in
theorem k_X13_isFrontBelow_0 {p : Program} {l : Launch} {e : Env} {s : State} {m : MethodId} {args : Array Value} {below : List Frame} {meth : Method} {c : Code} {g : GE} {A : Nat → Prop} {h0 h1 h2 h3 h4 h5 h6 h7 h8 h9 h10 h11 h12 h13 : Nat} {x_g : Nat → Int32} {x_kept : Nat → Int32} {x_saved : Nat → Int32} {x_before : Nat → Int32} {x_was : Nat → Int32} {x_region : Nat → Int32} {x_parts : Nat → Int64} {x_next : Nat → Int64} {x_ways : Nat → Int32} {x_more : Nat → Int32} {x_whole : Int64} {x_isSaved : Int32} {x_changes : Int32} {x_isWithin : Int32} {x_code : Int32} {x_input : Nat → Int32} {x_length : Int32} {x_fault : Int32} {x_failed : Int32} {x_signs : Nat → Int32} {x_signMany : Int32} {x_at : Int32} {x_told : Nat → Int32} {x_toldMany : Int32} {res : Int32 × Int32} {H : Heap} {locs : List Loc} {ls : Array Slot} {a1 : Int32} {a2 : Int32}
    (E : En cX13_isFrontBelow RX13 wsX13_isFrontBelow 3 (some .boolean) p s m args meth c) (hK : KK g s) (hA : ∀ q, s.heap.size ≤ q → A q) (h : f_X13_isFrontBelow x_g x_code a1 a2 = some res) (hW : Wo g A s H locs (w_X13 g h0 h1 h2 h3 h4 h5 h6 h7 h8 h9 h10 h11 h12 h13 x_g x_kept x_saved x_before x_was x_region x_parts x_next x_ways x_more x_whole x_isSaved x_changes x_isWithin x_code x_input x_length x_fault x_failed x_signs x_signMany x_at x_told x_toldMany)) (hl : lv_has ls 3 [(0, .ref h0), (1, .int a1), (2, .int a2)]) : G_X13_isFrontBelow p l e s m args below meth c g A h0 h1 h2 h3 h4 h5 h6 h7 h8 h9 h10 h11 h12 h13 x_g x_kept x_saved x_before x_was x_region x_parts x_next x_ways x_more x_whole x_isSaved x_changes x_isWithin x_input x_length x_fault x_failed x_signs x_signMany x_at x_told x_toldMany res H locs 0 ls [] := by
  have hts := E.2.2.2.1
  unfold f_X13_isFrontBelow at h
  obtain ⟨j23, hj23, h⟩ := jox1 h
  have J23 : ∀ (s1_23 : Int32) (H : Heap) (locs : List Loc) (ls : Array Slot), j23 s1_23 = some res → Wo g A s H locs (w_X13 g h0 h1 h2 h3 h4 h5 h6 h7 h8 h9 h10 h11 h12 h13 x_g x_kept x_saved x_before x_was x_region x_parts x_next x_ways x_more x_whole x_isSaved x_changes x_isWithin x_code x_input x_length x_fault x_failed x_signs x_signMany x_at x_told x_toldMany) → lv_has ls 3 [(0, .ref h0), (1, .int a1), (2, .int a2)] → G_X13_isFrontBelow p l e s m args below meth c g A h0 h1 h2 h3 h4 h5 h6 h7 h8 h9 h10 h11 h12 h13 x_g x_kept x_saved x_before x_was x_region x_parts x_next x_ways x_more x_whole x_isSaved x_changes x_isWithin x_input x_length x_fault x_failed x_signs x_signMany x_at x_told x_toldMany res H locs 23 ls [.int s1_23, .ref h0] := by
    intro s1_23 H locs ls h hW hl
    rw [hj23] at h
    obtain ⟨j47, hj47, h⟩ := jox2 h
    have J47 : ∀ (x_code_47 : Int32) (s0_47 : Int32) (H : Heap) (locs : List Loc) (ls : Array Slot), j47 x_code_47 s0_47 = some res → Wo g A s H locs (w_X13 g h0 h1 h2 h3 h4 h5 h6 h7 h8 h9 h10 h11 h12 h13 x_g x_kept x_saved x_before x_was x_region x_parts x_next x_ways x_more x_whole x_isSaved x_changes x_isWithin x_code_47 x_input x_length x_fault x_failed x_signs x_signMany x_at x_told x_toldMany) → lv_has ls 3 [] → G_X13_isFrontBelow p l e s m args below meth c g A h0 h1 h2 h3 h4 h5 h6 h7 h8 h9 h10 h11 h12 h13 x_g x_kept x_saved x_before x_was x_region x_parts x_next x_ways x_more x_whole x_isSaved x_changes x_isWithin x_input x_length x_fault x_failed x_signs x_signMany x_at x_told x_toldMany res H locs 47 ls [.int s0_47] := by
      intro x_code_47 s0_47 H locs ls h hW hl
      rw [hj47] at h
      obtain ⟨hz, h⟩ := ox h
      obtain rfl := Option.some.inj h
      exact endI E (nar_z (Decidable.not_not.mp hz)) hW dX13_isFrontBelow_47
    obtain ⟨j46, hj46, h⟩ := jox1 h
    have J46 : ∀ (x_code_46 : Int32) (H : Heap) (locs : List Loc) (ls : Array Slot), j46 x_code_46 = some res → Wo g A s H locs (w_X13 g h0 h1 h2 h3 h4 h5 h6 h7 h8 h9 h10 h11 h12 h13 x_g x_kept x_saved x_before x_was x_region x_parts x_next x_ways x_more x_whole x_isSaved x_changes x_isWithin x_code_46 x_input x_length x_fault x_failed x_signs x_signMany x_at x_told x_toldMany) → lv_has ls 3 [] → G_X13_isFrontBelow p l e s m args below meth c g A h0 h1 h2 h3 h4 h5 h6 h7 h8 h9 h10 h11 h12 h13 x_g x_kept x_saved x_before x_was x_region x_parts x_next x_ways x_more x_whole x_isSaved x_changes x_isWithin x_input x_length x_fault x_failed x_signs x_signMany x_at x_told x_toldMany res H locs 46 ls [] := by
      intro x_code_46 H locs ls h hW hl
      rw [hj46] at h
      refine lv_iconst (v := 0) E.1 E.2.1 dX13_isFrontBelow_46 (by decide) ?_
      exact J47 x_code_46 0 H locs ls h hW (lv_sub hl [] rfl)
    obtain ⟨r23, hc, h⟩ := bx h
    refine goI (world' := (w_X13 g h0 h1 h2 h3 h4 h5 h6 h7 h8 h9 h10 h11 h12 h13 x_g x_kept x_saved x_before x_was x_region x_parts x_next x_ways x_more x_whole x_isSaved x_changes x_isWithin r23.2 x_input x_length x_fault x_failed x_signs x_signMany x_at x_told x_toldMany)) hW hA (is := [0, 1, 2, 3, 4, 5, 6, 7, 8, 9, 10, 11, 12, 13]) rfl (goV (rest := []) E hK hW [0, 1, 2, 3, 4, 5, 6, 7, 8, 9, 10, 11, 12, 13] rfl rfl (c_X13_fails l g h0 h1 h2 h3 h4 h5 h6 h7 h8 h9 h10 h11 h12 h13 x_g x_kept x_saved x_before x_was x_region x_parts x_next x_ways x_more x_whole x_isSaved x_changes x_isWithin x_code x_input x_length x_fault x_failed x_signs x_signMany x_at x_told x_toldMany s1_23 (hf := hc) H.size) (cwV 1 hts gX13_isFrontBelow_X13_fails rfl rfl rfl (by decide +kernel) ⟨Nat.le_of_ble_eq_true rfl, Nat.le_of_ble_eq_true rfl⟩) 0 rfl rfl rfl hl.1 rfl rfl (Nat.le_of_ble_eq_true rfl) dX13_isFrontBelow_23 ⟨Nat.zero_le _, Nat.zero_le _⟩) rfl rfl (fun H locs hW => ?_)
    refine lv_if_ne (tgt := 46) E.1 E.2.1 dX13_isFrontBelow_26 (by decide) (fun c26 => ?_) (fun c26 => ?_)
    · have h := ie c26 h
      exact J46 r23.2 H locs ls h hW (lv_sub hl [] rfl)
    · have h := it c26 h
      refine lv_aload_n E.1 E.2.1 dX13_isFrontBelow_29 rfl (lv_at hl 0 rfl) ?_
      refine lv_iconst (v := 5) E.1 E.2.1 dX13_isFrontBelow_30 (by decide) ?_
      refine lv_iload_n E.1 E.2.1 dX13_isFrontBelow_31 rfl (lv_at hl 1 rfl) ?_
      refine lv_imul E.1 E.2.1 dX13_isFrontBelow_32 ?_
      refine lv_iload_n E.1 E.2.1 dX13_isFrontBelow_33 rfl (lv_at hl 2 rfl) ?_
      refine lv_iadd E.1 E.2.1 dX13_isFrontBelow_34 ?_
      refine lv_iconst (v := 5) E.1 E.2.1 dX13_isFrontBelow_35 (by decide) ?_
      obtain ⟨r36, hc, h⟩ := bx h
      refine goI (world' := (w_X13 g h0 h1 h2 h3 h4 h5 h6 h7 h8 h9 h10 h11 h12 h13 x_g x_kept x_saved x_before x_was x_region x_parts x_next x_ways x_more x_whole x_isSaved x_changes x_isWithin r23.2 x_input x_length x_fault x_failed x_signs x_signMany x_at x_told x_toldMany)) hW hA (is := [0, 1, 2, 3, 4, 5, 6, 7, 8, 9, 10, 11, 12, 13]) rfl (goV (rest := []) E hK hW [0, 1, 2, 3, 4, 5, 6, 7, 8, 9, 10, 11, 12, 13] rfl rfl (c_X13_isFront l g h0 h1 h2 h3 h4 h5 h6 h7 h8 h9 h10 h11 h12 h13 x_g x_kept x_saved x_before x_was x_region x_parts x_next x_ways x_more x_whole x_isSaved x_changes x_isWithin r23.2 x_input x_length x_fault x_failed x_signs x_signMany x_at x_told x_toldMany ((5 * a1) + a2) 5 (hf := hc) H.size) (cwV 2 hts gX13_isFrontBelow_X13_isFront rfl rfl rfl (by decide +kernel) ⟨Nat.le_of_ble_eq_true rfl, Nat.le_of_ble_eq_true rfl⟩) 0 rfl rfl rfl hl.1 rfl rfl (Nat.le_of_ble_eq_true rfl) dX13_isFrontBelow_36 ⟨Nat.zero_le _, Nat.zero_le _⟩) rfl rfl (fun H locs hW => ?_)
      refine lv_if_eq (tgt := 46) E.1 E.2.1 dX13_isFrontBelow_39 (by decide) (fun c39 => ?_) (fun c39 => ?_)
      · have h := it c39 h
        exact J46 r23.2 H locs ls h hW (lv_sub hl [] rfl)
      · have h := ie c39 h
        refine lv_iconst (v := 1) E.1 E.2.1 dX13_isFrontBelow_42 (by decide) ?_
        refine lv_goto (tgt := 47) E.1 E.2.1 dX13_isFrontBelow_43 (by decide) ?_
        exact J47 r23.2 1 H locs ls h hW (lv_sub hl [] rfl)
  refine lv_aload_n E.1 E.2.1 dX13_isFrontBelow_0 rfl (lv_at hl 0 rfl) ?_
  refine lv_iload_n E.1 E.2.1 dX13_isFrontBelow_1 rfl (lv_at hl 1 rfl) ?_
  refine lv_iload_n E.1 E.2.1 dX13_isFrontBelow_2 rfl (lv_at hl 2 rfl) ?_
  obtain ⟨r3, hc, h⟩ := bx h
  refine goI (world' := (w_X13 g h0 h1 h2 h3 h4 h5 h6 h7 h8 h9 h10 h11 h12 h13 x_g x_kept x_saved x_before x_was x_region x_parts x_next x_ways x_more x_whole x_isSaved x_changes x_isWithin x_code x_input x_length x_fault x_failed x_signs x_signMany x_at x_told x_toldMany)) hW hA (is := []) rfl (goS (rest := [.ref h0]) E hK hW [] rfl rfl (c_X13_isCell l g a1 a2 (hf := hc) H.size) (va_cwS 2 hts gX13_isFrontBelow_X13_isCell rfl rfl rfl (by decide +kernel) ⟨Nat.le_of_ble_eq_true rfl, Nat.le_of_ble_eq_true rfl⟩) hl.1 rfl rfl (Nat.le_of_ble_eq_true rfl) dX13_isFrontBelow_3 ⟨Nat.zero_le _, Nat.zero_le _⟩) rfl rfl (fun H locs hW => ?_)
  refine lv_if_ne (tgt := 13) E.1 E.2.1 dX13_isFrontBelow_6 (by decide) (fun c6 => ?_) (fun c6 => ?_)
  · have h := ie c6 h
    refine lv_iload_n E.1 E.2.1 dX13_isFrontBelow_13 rfl (lv_at hl 1 rfl) ?_
    refine lv_iconst (v := 4) E.1 E.2.1 dX13_isFrontBelow_14 (by decide) ?_
    refine lv_icmp_ne (tgt := 22) E.1 E.2.1 dX13_isFrontBelow_15 (by decide) (fun c15 => ?_) (fun c15 => ?_)
    · have h := ie c15 h
      refine lv_iconst (v := 0) E.1 E.2.1 dX13_isFrontBelow_22 (by decide) ?_
      exact J23 0 H locs ls h hW (lv_sub hl [0, 1, 2] rfl)
    · have h := it c15 h
      refine lv_iconst (v := 2) E.1 E.2.1 dX13_isFrontBelow_18 (by decide) ?_
      refine lv_goto (tgt := 23) E.1 E.2.1 dX13_isFrontBelow_19 (by decide) ?_
      exact J23 2 H locs ls h hW (lv_sub hl [0, 1, 2] rfl)
  · have h := it c6 h
    refine lv_iconst (v := 1) E.1 E.2.1 dX13_isFrontBelow_9 (by decide) ?_
    refine lv_goto (tgt := 23) E.1 E.2.1 dX13_isFrontBelow_10 (by decide) ?_
    exact J23 1 H locs ls h hW (lv_sub hl [0, 1, 2] rfl)
theorem c_X13_isFrontBelow (l : Launch) (g : GE) (h0 h1 h2 h3 h4 h5 h6 h7 h8 h9 h10 h11 h12 h13 : Nat) (x_g : Nat → Int32) (x_kept : Nat → Int32) (x_saved : Nat → Int32) (x_before : Nat → Int32) (x_was : Nat → Int32) (x_region : Nat → Int32) (x_parts : Nat → Int64) (x_next : Nat → Int64) (x_ways : Nat → Int32) (x_more : Nat → Int32) (x_whole : Int64) (x_isSaved : Int32) (x_changes : Int32) (x_isWithin : Int32) (x_code : Int32) (x_input : Nat → Int32) (x_length : Int32) (x_fault : Int32) (x_failed : Int32) (x_signs : Nat → Int32) (x_signMany : Int32) (x_at : Int32) (x_told : Nat → Int32) (x_toldMany : Int32) (a1 : Int32) (a2 : Int32) {res : Int32 × Int32} (hf : f_X13_isFrontBelow x_g x_code a1 a2 = some res) : CI l yX13_isFrontBelow wsX13_isFrontBelow rm_X13_isFrontBelow g [.ref h0, .int a1, .int a2] (w_X13 g h0 h1 h2 h3 h4 h5 h6 h7 h8 h9 h10 h11 h12 h13 x_g x_kept x_saved x_before x_was x_region x_parts x_next x_ways x_more x_whole x_isSaved x_changes x_isWithin x_code x_input x_length x_fault x_failed x_signs x_signMany x_at x_told x_toldMany) (w_X13 g h0 h1 h2 h3 h4 h5 h6 h7 h8 h9 h10 h11 h12 h13 x_g x_kept x_saved x_before x_was x_region x_parts x_next x_ways x_more x_whole x_isSaved x_changes x_isWithin res.2 x_input x_length x_fault x_failed x_signs x_signMany x_at x_told x_toldMany) res.1 :=
  mkI (cc := cX13_isFrontBelow) (maxL := 3) (by decide) rfl (Nat.le_of_ble_eq_true rfl) (fun p e s m args below meth c A H locs ls E hK hA hW hl => k_X13_isFrontBelow_0 E hK hA hf hW hl)

/-! PaperStormModel.frontCount()I X13_frontCount -/
abbrev rm_X13_frontCount : Room := { frames := 3, cells := 0, slots := 0, locals := 65 }
theorem in_X13_frontCount_X13 : ∀ w ∈ wsX130, w ∈ wsX13_frontCount := by decide +kernel
theorem lk_X13_frontCount_58 : Cond.fieldLink RX13 58 "PaperStormModel" "code" "I" ∈ wsX13_frontCount := by decide +kernel
noncomputable def f_X13_frontCount_9 (x_g : Nat → Int32) (z66 : Int32 → Option (Int32 × Int32)) : Nat → Int32 → Int32 → Option (Int32 × Int32)
  | 0, _, _ => none
  | n + 1, l1_9, l2_9 => if 25 ≤ l2_9 then z66 l1_9 else jo (fun (s0_37 : Int32) (s1_37 : Int32) => jo (fun (s0_57 : Int32) (s1_57 : Int32) (s2_57 : Int32) => f_X13_frontCount_9 x_g z66 n (s0_57 + (s1_57 + s2_57)) (l2_9 + 1)) (fun j57 => jo (fun (s0_56 : Int32) (s1_56 : Int32) => j57 s0_56 s1_56 0) (fun j56 => if 20 ≤ l2_9 then j56 s0_37 s1_37 else (f_X13_isFront x_g l2_9 5).bind fun r46 => if r46 = 0 then j56 s0_37 s1_37 else j57 s0_37 s1_37 1))) (fun j37 => jo (fun (s0_36 : Int32) => j37 s0_36 0) (fun j36 => if 4 ≤ (l2_9 - l2_9 / 5 * 5) then j36 l1_9 else (f_X13_isFront x_g l2_9 1).bind fun r26 => if r26 = 0 then j36 l1_9 else j37 l1_9 1))
noncomputable def f_X13_frontCount (x_g : Nat → Int32) (x_code : Int32) : Option (Int32 × Int32) :=
  f_X13_frontCount_9 x_g (fun l1_66e => some (l1_66e, 0)) 1000 0 0
abbrev G_X13_frontCount (p : Program) (l : Launch) (e : Env) (s : State) (m : MethodId) (args : Array Value) (below : List Frame) (meth : Method) (c : Code) (g : GE) (A : Nat → Prop) (h0 h1 h2 h3 h4 h5 h6 h7 h8 h9 h10 h11 h12 h13 : Nat) (x_g : Nat → Int32) (x_kept : Nat → Int32) (x_saved : Nat → Int32) (x_before : Nat → Int32) (x_was : Nat → Int32) (x_region : Nat → Int32) (x_parts : Nat → Int64) (x_next : Nat → Int64) (x_ways : Nat → Int32) (x_more : Nat → Int32) (x_whole : Int64) (x_isSaved : Int32) (x_changes : Int32) (x_isWithin : Int32) (x_input : Nat → Int32) (x_length : Int32) (x_fault : Int32) (x_failed : Int32) (x_signs : Nat → Int32) (x_signMany : Int32) (x_at : Int32) (x_told : Nat → Int32) (x_toldMany : Int32) (res : Int32 × Int32) (H : Heap) (locs : List Loc) (pc : Nat) (ls : Array Slot) (st : List Value) : Prop := W p l e (headSpec wsX13_frontCount rm_X13_frontCount).room s m args below meth c H locs 0 0 (MQ below (PoI g A (w_X13 g h0 h1 h2 h3 h4 h5 h6 h7 h8 h9 h10 h11 h12 h13 x_g x_kept x_saved x_before x_was x_region x_parts x_next x_ways x_more x_whole x_isSaved x_changes x_isWithin res.2 x_input x_length x_fault x_failed x_signs x_signMany x_at x_told x_toldMany) res.1) args s 0 0 A) (F0 m pc ls st)
set_option maxHeartbeats 4000000 in
set_option maxRecDepth 100000 in
theorem k_X13_frontCount_9 {p : Program} {l : Launch} {e : Env} {s : State} {m : MethodId} {args : Array Value} {below : List Frame} {meth : Method} {c : Code} {g : GE} {A : Nat → Prop} {h0 h1 h2 h3 h4 h5 h6 h7 h8 h9 h10 h11 h12 h13 : Nat} {x_g : Nat → Int32} {x_kept : Nat → Int32} {x_saved : Nat → Int32} {x_before : Nat → Int32} {x_was : Nat → Int32} {x_region : Nat → Int32} {x_parts : Nat → Int64} {x_next : Nat → Int64} {x_ways : Nat → Int32} {x_more : Nat → Int32} {x_whole : Int64} {x_isSaved : Int32} {x_changes : Int32} {x_isWithin : Int32} {x_code : Int32} {x_input : Nat → Int32} {x_length : Int32} {x_fault : Int32} {x_failed : Int32} {x_signs : Nat → Int32} {x_signMany : Int32} {x_at : Int32} {x_told : Nat → Int32} {x_toldMany : Int32} {res : Int32 × Int32} {z66 : Int32 → Option (Int32 × Int32)}
    (E : En cX13_frontCount RX13 wsX13_frontCount 3 (some .int) p s m args meth c) (hK : KK g s) (hA : ∀ q, s.heap.size ≤ q → A q)
    (hz66 : ∀ (l1_66e : Int32) (H : Heap) (locs : List Loc) (ls : Array Slot), z66 l1_66e = some res → Wo g A s H locs (w_X13 g h0 h1 h2 h3 h4 h5 h6 h7 h8 h9 h10 h11 h12 h13 x_g x_kept x_saved x_before x_was x_region x_parts x_next x_ways x_more x_whole x_isSaved x_changes x_isWithin x_code x_input x_length x_fault x_failed x_signs x_signMany x_at x_told x_toldMany) → lv_has ls 3 [(1, .int l1_66e)] → G_X13_frontCount p l e s m args below meth c g A h0 h1 h2 h3 h4 h5 h6 h7 h8 h9 h10 h11 h12 h13 x_g x_kept x_saved x_before x_was x_region x_parts x_next x_ways x_more x_whole x_isSaved x_changes x_isWithin x_input x_length x_fault x_failed x_signs x_signMany x_at x_told x_toldMany res H locs 66 ls [])
    : ∀ (n : Nat) (l1_9 : Int32) (l2_9 : Int32) (H : Heap) (locs : List Loc) (ls : Array Slot), f_X13_frontCount_9 x_g z66 n l1_9 l2_9 = some res → Wo g A s H locs (w_X13 g h0 h1 h2 h3 h4 h5 h6 h7 h8 h9 h10 h11 h12 h13 x_g x_kept x_saved x_before x_was x_region x_parts x_next x_ways x_more x_whole x_isSaved x_changes x_isWithin x_code x_input x_length x_fault x_failed x_signs x_signMany x_at x_told x_toldMany) → lv_has ls 3 [(0, .ref h0), (1, .int l1_9), (2, .int l2_9)] → G_X13_frontCount p l e s m args below meth c g A h0 h1 h2 h3 h4 h5 h6 h7 h8 h9 h10 h11 h12 h13 x_g x_kept x_saved x_before x_was x_region x_parts x_next x_ways x_more x_whole x_isSaved x_changes x_isWithin x_input x_length x_fault x_failed x_signs x_signMany x_at x_told x_toldMany res H locs 9 ls [] := by
  have hts := E.2.2.2.1
  intro n
  induction n with
  | zero => intro l1_9 l2_9 H locs ls h hW hl; rw [f_X13_frontCount_9] at h; cases h
  | succ n ih =>
    intro l1_9 l2_9 H locs ls h hW hl
    rw [f_X13_frontCount_9] at h
    refine lv_iload_n E.1 E.2.1 dX13_frontCount_9 rfl (lv_at hl 2 rfl) ?_
    refine lv_bipush (v := 25) E.1 E.2.1 dX13_frontCount_10 (by decide) ?_
    refine lv_icmp_ge (tgt := 66) E.1 E.2.1 dX13_frontCount_12 (by decide) (fun c12 => ?_) (fun c12 => ?_)
    · have h := it c12 h
      exact hz66 l1_9 H locs ls h hW (lv_sub hl [1] rfl)
    · have h := ie c12 h
      obtain ⟨j37, hj37, h⟩ := jox2 h
      have J37 : ∀ (s0_37 : Int32) (s1_37 : Int32) (H : Heap) (locs : List Loc) (ls : Array Slot), j37 s0_37 s1_37 = some res → Wo g A s H locs (w_X13 g h0 h1 h2 h3 h4 h5 h6 h7 h8 h9 h10 h11 h12 h13 x_g x_kept x_saved x_before x_was x_region x_parts x_next x_ways x_more x_whole x_isSaved x_changes x_isWithin x_code x_input x_length x_fault x_failed x_signs x_signMany x_at x_told x_toldMany) → lv_has ls 3 [(0, .ref h0), (2, .int l2_9)] → G_X13_frontCount p l e s m args below meth c g A h0 h1 h2 h3 h4 h5 h6 h7 h8 h9 h10 h11 h12 h13 x_g x_kept x_saved x_before x_was x_region x_parts x_next x_ways x_more x_whole x_isSaved x_changes x_isWithin x_input x_length x_fault x_failed x_signs x_signMany x_at x_told x_toldMany res H locs 37 ls [.int s1_37, .int s0_37] := by
        intro s0_37 s1_37 H locs ls h hW hl
        rw [hj37] at h
        obtain ⟨j57, hj57, h⟩ := jox3 h
        have J57 : ∀ (s0_57 : Int32) (s1_57 : Int32) (s2_57 : Int32) (H : Heap) (locs : List Loc) (ls : Array Slot), j57 s0_57 s1_57 s2_57 = some res → Wo g A s H locs (w_X13 g h0 h1 h2 h3 h4 h5 h6 h7 h8 h9 h10 h11 h12 h13 x_g x_kept x_saved x_before x_was x_region x_parts x_next x_ways x_more x_whole x_isSaved x_changes x_isWithin x_code x_input x_length x_fault x_failed x_signs x_signMany x_at x_told x_toldMany) → lv_has ls 3 [(0, .ref h0), (2, .int l2_9)] → G_X13_frontCount p l e s m args below meth c g A h0 h1 h2 h3 h4 h5 h6 h7 h8 h9 h10 h11 h12 h13 x_g x_kept x_saved x_before x_was x_region x_parts x_next x_ways x_more x_whole x_isSaved x_changes x_isWithin x_input x_length x_fault x_failed x_signs x_signMany x_at x_told x_toldMany res H locs 57 ls [.int s2_57, .int s1_57, .int s0_57] := by
          intro s0_57 s1_57 s2_57 H locs ls h hW hl
          rw [hj57] at h
          refine lv_iadd E.1 E.2.1 dX13_frontCount_57 ?_
          refine lv_iadd E.1 E.2.1 dX13_frontCount_58 ?_
          refine lv_istore_n (lv' := [(1, .int (s0_57 + (s1_57 + s2_57))), (0, .ref h0), (2, .int l2_9)]) E.1 E.2.1 dX13_frontCount_59 rfl hl (by decide) rfl (fun ls hl => ?_)
          refine lv_iinc (v := (l2_9 + 1)) (lv' := [(2, .int (l2_9 + 1)), (1, .int (s0_57 + (s1_57 + s2_57))), (0, .ref h0)]) E.1 E.2.1 dX13_frontCount_60 hl (k := 2) rfl rfl (by decide) rfl (fun ls hl => ?_)
          refine lv_goto (tgt := 9) E.1 E.2.1 dX13_frontCount_63 (by decide) ?_
          exact ih (s0_57 + (s1_57 + s2_57)) (l2_9 + 1) H locs ls h hW (lv_sub hl [2, 1, 0] rfl)
        obtain ⟨j56, hj56, h⟩ := jox2 h
        have J56 : ∀ (s0_56 : Int32) (s1_56 : Int32) (H : Heap) (locs : List Loc) (ls : Array Slot), j56 s0_56 s1_56 = some res → Wo g A s H locs (w_X13 g h0 h1 h2 h3 h4 h5 h6 h7 h8 h9 h10 h11 h12 h13 x_g x_kept x_saved x_before x_was x_region x_parts x_next x_ways x_more x_whole x_isSaved x_changes x_isWithin x_code x_input x_length x_fault x_failed x_signs x_signMany x_at x_told x_toldMany) → lv_has ls 3 [(0, .ref h0), (2, .int l2_9)] → G_X13_frontCount p l e s m args below meth c g A h0 h1 h2 h3 h4 h5 h6 h7 h8 h9 h10 h11 h12 h13 x_g x_kept x_saved x_before x_was x_region x_parts x_next x_ways x_more x_whole x_isSaved x_changes x_isWithin x_input x_length x_fault x_failed x_signs x_signMany x_at x_told x_toldMany res H locs 56 ls [.int s1_56, .int s0_56] := by
          intro s0_56 s1_56 H locs ls h hW hl
          rw [hj56] at h
          refine lv_iconst (v := 0) E.1 E.2.1 dX13_frontCount_56 (by decide) ?_
          exact J57 s0_56 s1_56 0 H locs ls h hW (lv_sub hl [0, 1] rfl)
        refine lv_iload_n E.1 E.2.1 dX13_frontCount_37 rfl (lv_at hl 1 rfl) ?_
        refine lv_bipush (v := 20) E.1 E.2.1 dX13_frontCount_38 (by decide) ?_
        refine lv_icmp_ge (tgt := 56) E.1 E.2.1 dX13_frontCount_40 (by decide) (fun c40 => ?_) (fun c40 => ?_)
        · have h := it c40 h
          exact J56 s0_37 s1_37 H locs ls h hW (lv_sub hl [0, 1] rfl)
        · have h := ie c40 h
          refine lv_aload_n E.1 E.2.1 dX13_frontCount_43 rfl (lv_at hl 0 rfl) ?_
          refine lv_iload_n E.1 E.2.1 dX13_frontCount_44 rfl (lv_at hl 1 rfl) ?_
          refine lv_iconst (v := 5) E.1 E.2.1 dX13_frontCount_45 (by decide) ?_
          obtain ⟨r46, hc, h⟩ := bx h
          refine goI (world' := (w_X13 g h0 h1 h2 h3 h4 h5 h6 h7 h8 h9 h10 h11 h12 h13 x_g x_kept x_saved x_before x_was x_region x_parts x_next x_ways x_more x_whole x_isSaved x_changes x_isWithin x_code x_input x_length x_fault x_failed x_signs x_signMany x_at x_told x_toldMany)) hW hA (is := [0, 1, 2, 3, 4, 5, 6, 7, 8, 9, 10, 11, 12, 13]) rfl (goV (rest := [.int s1_37, .int s0_37]) E hK hW [0, 1, 2, 3, 4, 5, 6, 7, 8, 9, 10, 11, 12, 13] rfl rfl (c_X13_isFront l g h0 h1 h2 h3 h4 h5 h6 h7 h8 h9 h10 h11 h12 h13 x_g x_kept x_saved x_before x_was x_region x_parts x_next x_ways x_more x_whole x_isSaved x_changes x_isWithin x_code x_input x_length x_fault x_failed x_signs x_signMany x_at x_told x_toldMany l2_9 5 (hf := hc) H.size) (cwV 2 hts gX13_frontCount_X13_isFront rfl rfl rfl (by decide +kernel) ⟨Nat.le_of_ble_eq_true rfl, Nat.le_of_ble_eq_true rfl⟩) 0 rfl rfl rfl hl.1 rfl rfl (Nat.le_of_ble_eq_true rfl) dX13_frontCount_46 ⟨Nat.zero_le _, Nat.zero_le _⟩) rfl rfl (fun H locs hW => ?_)
          refine lv_if_eq (tgt := 56) E.1 E.2.1 dX13_frontCount_49 (by decide) (fun c49 => ?_) (fun c49 => ?_)
          · have h := it c49 h
            exact J56 s0_37 s1_37 H locs ls h hW (lv_sub hl [0, 1] rfl)
          · have h := ie c49 h
            refine lv_iconst (v := 1) E.1 E.2.1 dX13_frontCount_52 (by decide) ?_
            refine lv_goto (tgt := 57) E.1 E.2.1 dX13_frontCount_53 (by decide) ?_
            exact J57 s0_37 s1_37 1 H locs ls h hW (lv_sub hl [0, 1] rfl)
      obtain ⟨j36, hj36, h⟩ := jox1 h
      have J36 : ∀ (s0_36 : Int32) (H : Heap) (locs : List Loc) (ls : Array Slot), j36 s0_36 = some res → Wo g A s H locs (w_X13 g h0 h1 h2 h3 h4 h5 h6 h7 h8 h9 h10 h11 h12 h13 x_g x_kept x_saved x_before x_was x_region x_parts x_next x_ways x_more x_whole x_isSaved x_changes x_isWithin x_code x_input x_length x_fault x_failed x_signs x_signMany x_at x_told x_toldMany) → lv_has ls 3 [(0, .ref h0), (2, .int l2_9)] → G_X13_frontCount p l e s m args below meth c g A h0 h1 h2 h3 h4 h5 h6 h7 h8 h9 h10 h11 h12 h13 x_g x_kept x_saved x_before x_was x_region x_parts x_next x_ways x_more x_whole x_isSaved x_changes x_isWithin x_input x_length x_fault x_failed x_signs x_signMany x_at x_told x_toldMany res H locs 36 ls [.int s0_36] := by
        intro s0_36 H locs ls h hW hl
        rw [hj36] at h
        refine lv_iconst (v := 0) E.1 E.2.1 dX13_frontCount_36 (by decide) ?_
        exact J37 s0_36 0 H locs ls h hW (lv_sub hl [0, 1] rfl)
      refine lv_iload_n E.1 E.2.1 dX13_frontCount_15 rfl (lv_at hl 1 rfl) ?_
      refine lv_iload_n E.1 E.2.1 dX13_frontCount_16 rfl (lv_at hl 2 rfl) ?_
      refine lv_iconst (v := 5) E.1 E.2.1 dX13_frontCount_17 (by decide) ?_
      refine lv_irem E.1 E.2.1 dX13_frontCount_18 (by decide) ?_
      refine lv_iconst (v := 4) E.1 E.2.1 dX13_frontCount_19 (by decide) ?_
      refine lv_icmp_ge (tgt := 36) E.1 E.2.1 dX13_frontCount_20 (by decide) (fun c20 => ?_) (fun c20 => ?_)
      · have h := it c20 h
        exact J36 l1_9 H locs ls h hW (lv_sub hl [0, 2] rfl)
      · have h := ie c20 h
        refine lv_aload_n E.1 E.2.1 dX13_frontCount_23 rfl (lv_at hl 0 rfl) ?_
        refine lv_iload_n E.1 E.2.1 dX13_frontCount_24 rfl (lv_at hl 2 rfl) ?_
        refine lv_iconst (v := 1) E.1 E.2.1 dX13_frontCount_25 (by decide) ?_
        obtain ⟨r26, hc, h⟩ := bx h
        refine goI (world' := (w_X13 g h0 h1 h2 h3 h4 h5 h6 h7 h8 h9 h10 h11 h12 h13 x_g x_kept x_saved x_before x_was x_region x_parts x_next x_ways x_more x_whole x_isSaved x_changes x_isWithin x_code x_input x_length x_fault x_failed x_signs x_signMany x_at x_told x_toldMany)) hW hA (is := [0, 1, 2, 3, 4, 5, 6, 7, 8, 9, 10, 11, 12, 13]) rfl (goV (rest := [.int l1_9]) E hK hW [0, 1, 2, 3, 4, 5, 6, 7, 8, 9, 10, 11, 12, 13] rfl rfl (c_X13_isFront l g h0 h1 h2 h3 h4 h5 h6 h7 h8 h9 h10 h11 h12 h13 x_g x_kept x_saved x_before x_was x_region x_parts x_next x_ways x_more x_whole x_isSaved x_changes x_isWithin x_code x_input x_length x_fault x_failed x_signs x_signMany x_at x_told x_toldMany l2_9 1 (hf := hc) H.size) (cwV 2 hts gX13_frontCount_X13_isFront rfl rfl rfl (by decide +kernel) ⟨Nat.le_of_ble_eq_true rfl, Nat.le_of_ble_eq_true rfl⟩) 0 rfl rfl rfl hl.1 rfl rfl (Nat.le_of_ble_eq_true rfl) dX13_frontCount_26 ⟨Nat.zero_le _, Nat.zero_le _⟩) rfl rfl (fun H locs hW => ?_)
        refine lv_if_eq (tgt := 36) E.1 E.2.1 dX13_frontCount_29 (by decide) (fun c29 => ?_) (fun c29 => ?_)
        · have h := it c29 h
          exact J36 l1_9 H locs ls h hW (lv_sub hl [0, 2] rfl)
        · have h := ie c29 h
          refine lv_iconst (v := 1) E.1 E.2.1 dX13_frontCount_32 (by decide) ?_
          refine lv_goto (tgt := 37) E.1 E.2.1 dX13_frontCount_33 (by decide) ?_
          exact J37 l1_9 1 H locs ls h hW (lv_sub hl [0, 2] rfl)
set_option maxHeartbeats 4000000 in
set_option maxRecDepth 100000 in
theorem k_X13_frontCount_0 {p : Program} {l : Launch} {e : Env} {s : State} {m : MethodId} {args : Array Value} {below : List Frame} {meth : Method} {c : Code} {g : GE} {A : Nat → Prop} {h0 h1 h2 h3 h4 h5 h6 h7 h8 h9 h10 h11 h12 h13 : Nat} {x_g : Nat → Int32} {x_kept : Nat → Int32} {x_saved : Nat → Int32} {x_before : Nat → Int32} {x_was : Nat → Int32} {x_region : Nat → Int32} {x_parts : Nat → Int64} {x_next : Nat → Int64} {x_ways : Nat → Int32} {x_more : Nat → Int32} {x_whole : Int64} {x_isSaved : Int32} {x_changes : Int32} {x_isWithin : Int32} {x_code : Int32} {x_input : Nat → Int32} {x_length : Int32} {x_fault : Int32} {x_failed : Int32} {x_signs : Nat → Int32} {x_signMany : Int32} {x_at : Int32} {x_told : Nat → Int32} {x_toldMany : Int32} {res : Int32 × Int32} {H : Heap} {locs : List Loc} {ls : Array Slot} 
    (E : En cX13_frontCount RX13 wsX13_frontCount 3 (some .int) p s m args meth c) (hK : KK g s) (hA : ∀ q, s.heap.size ≤ q → A q) (h : f_X13_frontCount x_g x_code = some res) (hW : Wo g A s H locs (w_X13 g h0 h1 h2 h3 h4 h5 h6 h7 h8 h9 h10 h11 h12 h13 x_g x_kept x_saved x_before x_was x_region x_parts x_next x_ways x_more x_whole x_isSaved x_changes x_isWithin x_code x_input x_length x_fault x_failed x_signs x_signMany x_at x_told x_toldMany)) (hl : lv_has ls 3 [(0, .ref h0)]) : G_X13_frontCount p l e s m args below meth c g A h0 h1 h2 h3 h4 h5 h6 h7 h8 h9 h10 h11 h12 h13 x_g x_kept x_saved x_before x_was x_region x_parts x_next x_ways x_more x_whole x_isSaved x_changes x_isWithin x_input x_length x_fault x_failed x_signs x_signMany x_at x_told x_toldMany res H locs 0 ls [] := by
  have hts := E.2.2.2.1
  unfold f_X13_frontCount at h
  refine lv_aload_n E.1 E.2.1 dX13_frontCount_0 rfl (lv_at hl 0 rfl) ?_
  refine lv_iconst (v := 0) E.1 E.2.1 dX13_frontCount_1 (by decide) ?_
  refine wPut (world' := (w_X13 g h0 h1 h2 h3 h4 h5 h6 h7 h8 h9 h10 h11 h12 h13 x_g x_kept x_saved x_before x_was x_region x_parts x_next x_ways x_more x_whole x_isSaved x_changes x_isWithin 0 x_input x_length x_fault x_failed x_signs x_signMany x_at x_told x_toldMany)) E hK in_X13_frontCount_X13 tyX13 tyX13_ok nmX13 hW 14 lk_X13_frontCount_58 0 rfl rfl (by decide) rfl rfl rfl rfl rfl (Nat.le_of_ble_eq_true rfl) dX13_frontCount_2 rfl (fun H locs hW => ?_)
  refine lv_iconst (v := 0) E.1 E.2.1 dX13_frontCount_5 (by decide) ?_
  refine lv_istore_n (lv' := [(1, .int 0), (0, .ref h0)]) E.1 E.2.1 dX13_frontCount_6 rfl hl (by decide) rfl (fun ls hl => ?_)
  refine lv_iconst (v := 0) E.1 E.2.1 dX13_frontCount_7 (by decide) ?_
  refine lv_istore_n (lv' := [(2, .int 0), (1, .int 0), (0, .ref h0)]) E.1 E.2.1 dX13_frontCount_8 rfl hl (by decide) rfl (fun ls hl => ?_)
  refine k_X13_frontCount_9 E hK hA ?_ 1000 0 0 H locs ls h hW (lv_sub hl [2, 1, 0] rfl)
  · intro l1_66e H locs ls h hW hl
    refine lv_iload_n E.1 E.2.1 dX13_frontCount_66 rfl (lv_at hl 0 rfl) ?_
    obtain rfl := Option.some.inj h
    exact endI E rfl hW dX13_frontCount_67
theorem c_X13_frontCount (l : Launch) (g : GE) (h0 h1 h2 h3 h4 h5 h6 h7 h8 h9 h10 h11 h12 h13 : Nat) (x_g : Nat → Int32) (x_kept : Nat → Int32) (x_saved : Nat → Int32) (x_before : Nat → Int32) (x_was : Nat → Int32) (x_region : Nat → Int32) (x_parts : Nat → Int64) (x_next : Nat → Int64) (x_ways : Nat → Int32) (x_more : Nat → Int32) (x_whole : Int64) (x_isSaved : Int32) (x_changes : Int32) (x_isWithin : Int32) (x_code : Int32) (x_input : Nat → Int32) (x_length : Int32) (x_fault : Int32) (x_failed : Int32) (x_signs : Nat → Int32) (x_signMany : Int32) (x_at : Int32) (x_told : Nat → Int32) (x_toldMany : Int32) {res : Int32 × Int32} (hf : f_X13_frontCount x_g x_code = some res) : CI l yX13_frontCount wsX13_frontCount rm_X13_frontCount g [.ref h0] (w_X13 g h0 h1 h2 h3 h4 h5 h6 h7 h8 h9 h10 h11 h12 h13 x_g x_kept x_saved x_before x_was x_region x_parts x_next x_ways x_more x_whole x_isSaved x_changes x_isWithin x_code x_input x_length x_fault x_failed x_signs x_signMany x_at x_told x_toldMany) (w_X13 g h0 h1 h2 h3 h4 h5 h6 h7 h8 h9 h10 h11 h12 h13 x_g x_kept x_saved x_before x_was x_region x_parts x_next x_ways x_more x_whole x_isSaved x_changes x_isWithin res.2 x_input x_length x_fault x_failed x_signs x_signMany x_at x_told x_toldMany) res.1 :=
  mkI (cc := cX13_frontCount) (maxL := 3) (by decide) rfl (Nat.le_of_ble_eq_true rfl) (fun p e s m args below meth c A H locs ls E hK hA hW hl => k_X13_frontCount_0 E hK hA hf hW hl)

/-! PaperStormModel.steepest()I X13_steepest -/
abbrev rm_X13_steepest : Room := { frames := 2, cells := 0, slots := 0, locals := 43 }
theorem in_X13_steepest_X13 : ∀ w ∈ wsX130, w ∈ wsX13_steepest := by decide +kernel
theorem lk_X13_steepest_58 : Cond.fieldLink RX13 58 "PaperStormModel" "code" "I" ∈ wsX13_steepest := by decide +kernel
noncomputable def f_X13_steepest_9 (x_g : Nat → Int32) (z68 : Int32 → Option (Int32 × Int32)) : Nat → Int32 → Int32 → Option (Int32 × Int32)
  | 0, _, _ => none
  | n + 1, l1_9, l2_9 => if 25 ≤ l2_9 then z68 l1_9 else jo (fun (l1_39 : Int32) => jo (fun (l1_62 : Int32) => f_X13_steepest_9 x_g z68 n l1_62 (l2_9 + 1)) (fun j62 => if 20 ≤ l2_9 then j62 l1_39 else (f_X13_slope x_g l2_9 5).bind fun r48 => if r48 ≤ l1_39 then j62 l1_39 else (f_X13_slope x_g l2_9 5).bind fun r58 => j62 r58)) (fun j39 => if 4 ≤ (l2_9 - l2_9 / 5 * 5) then j39 l1_9 else (f_X13_slope x_g l2_9 1).bind fun r25 => if r25 ≤ l1_9 then j39 l1_9 else (f_X13_slope x_g l2_9 1).bind fun r35 => j39 r35)
noncomputable def f_X13_steepest (x_g : Nat → Int32) (x_code : Int32) : Option (Int32 × Int32) :=
  f_X13_steepest_9 x_g (fun l1_68e => some (l1_68e, 0)) 1000 0 0
abbrev G_X13_steepest (p : Program) (l : Launch) (e : Env) (s : State) (m : MethodId) (args : Array Value) (below : List Frame) (meth : Method) (c : Code) (g : GE) (A : Nat → Prop) (h0 h1 h2 h3 h4 h5 h6 h7 h8 h9 h10 h11 h12 h13 : Nat) (x_g : Nat → Int32) (x_kept : Nat → Int32) (x_saved : Nat → Int32) (x_before : Nat → Int32) (x_was : Nat → Int32) (x_region : Nat → Int32) (x_parts : Nat → Int64) (x_next : Nat → Int64) (x_ways : Nat → Int32) (x_more : Nat → Int32) (x_whole : Int64) (x_isSaved : Int32) (x_changes : Int32) (x_isWithin : Int32) (x_input : Nat → Int32) (x_length : Int32) (x_fault : Int32) (x_failed : Int32) (x_signs : Nat → Int32) (x_signMany : Int32) (x_at : Int32) (x_told : Nat → Int32) (x_toldMany : Int32) (res : Int32 × Int32) (H : Heap) (locs : List Loc) (pc : Nat) (ls : Array Slot) (st : List Value) : Prop := W p l e (headSpec wsX13_steepest rm_X13_steepest).room s m args below meth c H locs 0 0 (MQ below (PoI g A (w_X13 g h0 h1 h2 h3 h4 h5 h6 h7 h8 h9 h10 h11 h12 h13 x_g x_kept x_saved x_before x_was x_region x_parts x_next x_ways x_more x_whole x_isSaved x_changes x_isWithin res.2 x_input x_length x_fault x_failed x_signs x_signMany x_at x_told x_toldMany) res.1) args s 0 0 A) (F0 m pc ls st)
set_option maxHeartbeats 4000000 in
set_option maxRecDepth 100000 in
theorem k_X13_steepest_9 {p : Program} {l : Launch} {e : Env} {s : State} {m : MethodId} {args : Array Value} {below : List Frame} {meth : Method} {c : Code} {g : GE} {A : Nat → Prop} {h0 h1 h2 h3 h4 h5 h6 h7 h8 h9 h10 h11 h12 h13 : Nat} {x_g : Nat → Int32} {x_kept : Nat → Int32} {x_saved : Nat → Int32} {x_before : Nat → Int32} {x_was : Nat → Int32} {x_region : Nat → Int32} {x_parts : Nat → Int64} {x_next : Nat → Int64} {x_ways : Nat → Int32} {x_more : Nat → Int32} {x_whole : Int64} {x_isSaved : Int32} {x_changes : Int32} {x_isWithin : Int32} {x_code : Int32} {x_input : Nat → Int32} {x_length : Int32} {x_fault : Int32} {x_failed : Int32} {x_signs : Nat → Int32} {x_signMany : Int32} {x_at : Int32} {x_told : Nat → Int32} {x_toldMany : Int32} {res : Int32 × Int32} {z68 : Int32 → Option (Int32 × Int32)}
    (E : En cX13_steepest RX13 wsX13_steepest 3 (some .int) p s m args meth c) (hK : KK g s) (hA : ∀ q, s.heap.size ≤ q → A q)
    (hz68 : ∀ (l1_68e : Int32) (H : Heap) (locs : List Loc) (ls : Array Slot), z68 l1_68e = some res → Wo g A s H locs (w_X13 g h0 h1 h2 h3 h4 h5 h6 h7 h8 h9 h10 h11 h12 h13 x_g x_kept x_saved x_before x_was x_region x_parts x_next x_ways x_more x_whole x_isSaved x_changes x_isWithin x_code x_input x_length x_fault x_failed x_signs x_signMany x_at x_told x_toldMany) → lv_has ls 3 [(1, .int l1_68e)] → G_X13_steepest p l e s m args below meth c g A h0 h1 h2 h3 h4 h5 h6 h7 h8 h9 h10 h11 h12 h13 x_g x_kept x_saved x_before x_was x_region x_parts x_next x_ways x_more x_whole x_isSaved x_changes x_isWithin x_input x_length x_fault x_failed x_signs x_signMany x_at x_told x_toldMany res H locs 68 ls [])
    : ∀ (n : Nat) (l1_9 : Int32) (l2_9 : Int32) (H : Heap) (locs : List Loc) (ls : Array Slot), f_X13_steepest_9 x_g z68 n l1_9 l2_9 = some res → Wo g A s H locs (w_X13 g h0 h1 h2 h3 h4 h5 h6 h7 h8 h9 h10 h11 h12 h13 x_g x_kept x_saved x_before x_was x_region x_parts x_next x_ways x_more x_whole x_isSaved x_changes x_isWithin x_code x_input x_length x_fault x_failed x_signs x_signMany x_at x_told x_toldMany) → lv_has ls 3 [(0, .ref h0), (1, .int l1_9), (2, .int l2_9)] → G_X13_steepest p l e s m args below meth c g A h0 h1 h2 h3 h4 h5 h6 h7 h8 h9 h10 h11 h12 h13 x_g x_kept x_saved x_before x_was x_region x_parts x_next x_ways x_more x_whole x_isSaved x_changes x_isWithin x_input x_length x_fault x_failed x_signs x_signMany x_at x_told x_toldMany res H locs 9 ls [] := by
  have hts := E.2.2.2.1
  intro n
  induction n with
  | zero => intro l1_9 l2_9 H locs ls h hW hl; rw [f_X13_steepest_9] at h; cases h
  | succ n ih =>
    intro l1_9 l2_9 H locs ls h hW hl
    rw [f_X13_steepest_9] at h
    refine lv_iload_n E.1 E.2.1 dX13_steepest_9 rfl (lv_at hl 2 rfl) ?_
    refine lv_bipush (v := 25) E.1 E.2.1 dX13_steepest_10 (by decide) ?_
    refine lv_icmp_ge (tgt := 68) E.1 E.2.1 dX13_steepest_12 (by decide) (fun c12 => ?_) (fun c12 => ?_)
    · have h := it c12 h
      exact hz68 l1_9 H locs ls h hW (lv_sub hl [1] rfl)
    · have h := ie c12 h
      obtain ⟨j39, hj39, h⟩ := jox1 h
      have J39 : ∀ (l1_39 : Int32) (H : Heap) (locs : List Loc) (ls : Array Slot), j39 l1_39 = some res → Wo g A s H locs (w_X13 g h0 h1 h2 h3 h4 h5 h6 h7 h8 h9 h10 h11 h12 h13 x_g x_kept x_saved x_before x_was x_region x_parts x_next x_ways x_more x_whole x_isSaved x_changes x_isWithin x_code x_input x_length x_fault x_failed x_signs x_signMany x_at x_told x_toldMany) → lv_has ls 3 [(0, .ref h0), (1, .int l1_39), (2, .int l2_9)] → G_X13_steepest p l e s m args below meth c g A h0 h1 h2 h3 h4 h5 h6 h7 h8 h9 h10 h11 h12 h13 x_g x_kept x_saved x_before x_was x_region x_parts x_next x_ways x_more x_whole x_isSaved x_changes x_isWithin x_input x_length x_fault x_failed x_signs x_signMany x_at x_told x_toldMany res H locs 39 ls [] := by
        intro l1_39 H locs ls h hW hl
        rw [hj39] at h
        obtain ⟨j62, hj62, h⟩ := jox1 h
        have J62 : ∀ (l1_62 : Int32) (H : Heap) (locs : List Loc) (ls : Array Slot), j62 l1_62 = some res → Wo g A s H locs (w_X13 g h0 h1 h2 h3 h4 h5 h6 h7 h8 h9 h10 h11 h12 h13 x_g x_kept x_saved x_before x_was x_region x_parts x_next x_ways x_more x_whole x_isSaved x_changes x_isWithin x_code x_input x_length x_fault x_failed x_signs x_signMany x_at x_told x_toldMany) → lv_has ls 3 [(0, .ref h0), (1, .int l1_62), (2, .int l2_9)] → G_X13_steepest p l e s m args below meth c g A h0 h1 h2 h3 h4 h5 h6 h7 h8 h9 h10 h11 h12 h13 x_g x_kept x_saved x_before x_was x_region x_parts x_next x_ways x_more x_whole x_isSaved x_changes x_isWithin x_input x_length x_fault x_failed x_signs x_signMany x_at x_told x_toldMany res H locs 62 ls [] := by
          intro l1_62 H locs ls h hW hl
          rw [hj62] at h
          refine lv_iinc (v := (l2_9 + 1)) (lv' := [(2, .int (l2_9 + 1)), (0, .ref h0), (1, .int l1_62)]) E.1 E.2.1 dX13_steepest_62 hl (k := 2) rfl rfl (by decide) rfl (fun ls hl => ?_)
          refine lv_goto (tgt := 9) E.1 E.2.1 dX13_steepest_65 (by decide) ?_
          exact ih l1_62 (l2_9 + 1) H locs ls h hW (lv_sub hl [1, 2, 0] rfl)
        refine lv_iload_n E.1 E.2.1 dX13_steepest_39 rfl (lv_at hl 2 rfl) ?_
        refine lv_bipush (v := 20) E.1 E.2.1 dX13_steepest_40 (by decide) ?_
        refine lv_icmp_ge (tgt := 62) E.1 E.2.1 dX13_steepest_42 (by decide) (fun c42 => ?_) (fun c42 => ?_)
        · have h := it c42 h
          exact J62 l1_39 H locs ls h hW (lv_sub hl [0, 1, 2] rfl)
        · have h := ie c42 h
          refine lv_aload_n E.1 E.2.1 dX13_steepest_45 rfl (lv_at hl 0 rfl) ?_
          refine lv_iload_n E.1 E.2.1 dX13_steepest_46 rfl (lv_at hl 2 rfl) ?_
          refine lv_iconst (v := 5) E.1 E.2.1 dX13_steepest_47 (by decide) ?_
          obtain ⟨r48, hc, h⟩ := bx h
          refine goI (world' := (w_X13 g h0 h1 h2 h3 h4 h5 h6 h7 h8 h9 h10 h11 h12 h13 x_g x_kept x_saved x_before x_was x_region x_parts x_next x_ways x_more x_whole x_isSaved x_changes x_isWithin x_code x_input x_length x_fault x_failed x_signs x_signMany x_at x_told x_toldMany)) hW hA (is := [0, 1, 2, 3, 4, 5, 6, 7, 8, 9, 10, 11, 12, 13]) rfl (goV (rest := []) E hK hW [0, 1, 2, 3, 4, 5, 6, 7, 8, 9, 10, 11, 12, 13] rfl rfl (c_X13_slope l g h0 h1 h2 h3 h4 h5 h6 h7 h8 h9 h10 h11 h12 h13 x_g x_kept x_saved x_before x_was x_region x_parts x_next x_ways x_more x_whole x_isSaved x_changes x_isWithin x_code x_input x_length x_fault x_failed x_signs x_signMany x_at x_told x_toldMany l2_9 5 (hf := hc) H.size) (cwV 2 hts gX13_steepest_X13_slope rfl rfl rfl (by decide +kernel) ⟨Nat.le_of_ble_eq_true rfl, Nat.le_of_ble_eq_true rfl⟩) 0 rfl rfl rfl hl.1 rfl rfl (Nat.le_of_ble_eq_true rfl) dX13_steepest_48 ⟨Nat.zero_le _, Nat.zero_le _⟩) rfl rfl (fun H locs hW => ?_)
          refine lv_iload_n E.1 E.2.1 dX13_steepest_51 rfl (lv_at hl 1 rfl) ?_
          refine lv_icmp_le (tgt := 62) E.1 E.2.1 dX13_steepest_52 (by decide) (fun c52 => ?_) (fun c52 => ?_)
          · have h := it c52 h
            exact J62 l1_39 H locs ls h hW (lv_sub hl [0, 1, 2] rfl)
          · have h := ie c52 h
            refine lv_aload_n E.1 E.2.1 dX13_steepest_55 rfl (lv_at hl 0 rfl) ?_
            refine lv_iload_n E.1 E.2.1 dX13_steepest_56 rfl (lv_at hl 2 rfl) ?_
            refine lv_iconst (v := 5) E.1 E.2.1 dX13_steepest_57 (by decide) ?_
            obtain ⟨r58, hc, h⟩ := bx h
            refine goI (world' := (w_X13 g h0 h1 h2 h3 h4 h5 h6 h7 h8 h9 h10 h11 h12 h13 x_g x_kept x_saved x_before x_was x_region x_parts x_next x_ways x_more x_whole x_isSaved x_changes x_isWithin x_code x_input x_length x_fault x_failed x_signs x_signMany x_at x_told x_toldMany)) hW hA (is := [0, 1, 2, 3, 4, 5, 6, 7, 8, 9, 10, 11, 12, 13]) rfl (goV (rest := []) E hK hW [0, 1, 2, 3, 4, 5, 6, 7, 8, 9, 10, 11, 12, 13] rfl rfl (c_X13_slope l g h0 h1 h2 h3 h4 h5 h6 h7 h8 h9 h10 h11 h12 h13 x_g x_kept x_saved x_before x_was x_region x_parts x_next x_ways x_more x_whole x_isSaved x_changes x_isWithin x_code x_input x_length x_fault x_failed x_signs x_signMany x_at x_told x_toldMany l2_9 5 (hf := hc) H.size) (cwV 2 hts gX13_steepest_X13_slope rfl rfl rfl (by decide +kernel) ⟨Nat.le_of_ble_eq_true rfl, Nat.le_of_ble_eq_true rfl⟩) 0 rfl rfl rfl hl.1 rfl rfl (Nat.le_of_ble_eq_true rfl) dX13_steepest_58 ⟨Nat.zero_le _, Nat.zero_le _⟩) rfl rfl (fun H locs hW => ?_)
            refine lv_istore_n (lv' := [(1, .int r58), (0, .ref h0), (2, .int l2_9)]) E.1 E.2.1 dX13_steepest_61 rfl hl (by decide) rfl (fun ls hl => ?_)
            exact J62 r58 H locs ls h hW (lv_sub hl [1, 0, 2] rfl)
      refine lv_iload_n E.1 E.2.1 dX13_steepest_15 rfl (lv_at hl 2 rfl) ?_
      refine lv_iconst (v := 5) E.1 E.2.1 dX13_steepest_16 (by decide) ?_
      refine lv_irem E.1 E.2.1 dX13_steepest_17 (by decide) ?_
      refine lv_iconst (v := 4) E.1 E.2.1 dX13_steepest_18 (by decide) ?_
      refine lv_icmp_ge (tgt := 39) E.1 E.2.1 dX13_steepest_19 (by decide) (fun c19 => ?_) (fun c19 => ?_)
      · have h := it c19 h
        exact J39 l1_9 H locs ls h hW (lv_sub hl [0, 1, 2] rfl)
      · have h := ie c19 h
        refine lv_aload_n E.1 E.2.1 dX13_steepest_22 rfl (lv_at hl 0 rfl) ?_
        refine lv_iload_n E.1 E.2.1 dX13_steepest_23 rfl (lv_at hl 2 rfl) ?_
        refine lv_iconst (v := 1) E.1 E.2.1 dX13_steepest_24 (by decide) ?_
        obtain ⟨r25, hc, h⟩ := bx h
        refine goI (world' := (w_X13 g h0 h1 h2 h3 h4 h5 h6 h7 h8 h9 h10 h11 h12 h13 x_g x_kept x_saved x_before x_was x_region x_parts x_next x_ways x_more x_whole x_isSaved x_changes x_isWithin x_code x_input x_length x_fault x_failed x_signs x_signMany x_at x_told x_toldMany)) hW hA (is := [0, 1, 2, 3, 4, 5, 6, 7, 8, 9, 10, 11, 12, 13]) rfl (goV (rest := []) E hK hW [0, 1, 2, 3, 4, 5, 6, 7, 8, 9, 10, 11, 12, 13] rfl rfl (c_X13_slope l g h0 h1 h2 h3 h4 h5 h6 h7 h8 h9 h10 h11 h12 h13 x_g x_kept x_saved x_before x_was x_region x_parts x_next x_ways x_more x_whole x_isSaved x_changes x_isWithin x_code x_input x_length x_fault x_failed x_signs x_signMany x_at x_told x_toldMany l2_9 1 (hf := hc) H.size) (cwV 2 hts gX13_steepest_X13_slope rfl rfl rfl (by decide +kernel) ⟨Nat.le_of_ble_eq_true rfl, Nat.le_of_ble_eq_true rfl⟩) 0 rfl rfl rfl hl.1 rfl rfl (Nat.le_of_ble_eq_true rfl) dX13_steepest_25 ⟨Nat.zero_le _, Nat.zero_le _⟩) rfl rfl (fun H locs hW => ?_)
        refine lv_iload_n E.1 E.2.1 dX13_steepest_28 rfl (lv_at hl 1 rfl) ?_
        refine lv_icmp_le (tgt := 39) E.1 E.2.1 dX13_steepest_29 (by decide) (fun c29 => ?_) (fun c29 => ?_)
        · have h := it c29 h
          exact J39 l1_9 H locs ls h hW (lv_sub hl [0, 1, 2] rfl)
        · have h := ie c29 h
          refine lv_aload_n E.1 E.2.1 dX13_steepest_32 rfl (lv_at hl 0 rfl) ?_
          refine lv_iload_n E.1 E.2.1 dX13_steepest_33 rfl (lv_at hl 2 rfl) ?_
          refine lv_iconst (v := 1) E.1 E.2.1 dX13_steepest_34 (by decide) ?_
          obtain ⟨r35, hc, h⟩ := bx h
          refine goI (world' := (w_X13 g h0 h1 h2 h3 h4 h5 h6 h7 h8 h9 h10 h11 h12 h13 x_g x_kept x_saved x_before x_was x_region x_parts x_next x_ways x_more x_whole x_isSaved x_changes x_isWithin x_code x_input x_length x_fault x_failed x_signs x_signMany x_at x_told x_toldMany)) hW hA (is := [0, 1, 2, 3, 4, 5, 6, 7, 8, 9, 10, 11, 12, 13]) rfl (goV (rest := []) E hK hW [0, 1, 2, 3, 4, 5, 6, 7, 8, 9, 10, 11, 12, 13] rfl rfl (c_X13_slope l g h0 h1 h2 h3 h4 h5 h6 h7 h8 h9 h10 h11 h12 h13 x_g x_kept x_saved x_before x_was x_region x_parts x_next x_ways x_more x_whole x_isSaved x_changes x_isWithin x_code x_input x_length x_fault x_failed x_signs x_signMany x_at x_told x_toldMany l2_9 1 (hf := hc) H.size) (cwV 2 hts gX13_steepest_X13_slope rfl rfl rfl (by decide +kernel) ⟨Nat.le_of_ble_eq_true rfl, Nat.le_of_ble_eq_true rfl⟩) 0 rfl rfl rfl hl.1 rfl rfl (Nat.le_of_ble_eq_true rfl) dX13_steepest_35 ⟨Nat.zero_le _, Nat.zero_le _⟩) rfl rfl (fun H locs hW => ?_)
          refine lv_istore_n (lv' := [(1, .int r35), (0, .ref h0), (2, .int l2_9)]) E.1 E.2.1 dX13_steepest_38 rfl hl (by decide) rfl (fun ls hl => ?_)
          exact J39 r35 H locs ls h hW (lv_sub hl [1, 0, 2] rfl)
set_option maxHeartbeats 4000000 in
set_option maxRecDepth 100000 in
theorem k_X13_steepest_0 {p : Program} {l : Launch} {e : Env} {s : State} {m : MethodId} {args : Array Value} {below : List Frame} {meth : Method} {c : Code} {g : GE} {A : Nat → Prop} {h0 h1 h2 h3 h4 h5 h6 h7 h8 h9 h10 h11 h12 h13 : Nat} {x_g : Nat → Int32} {x_kept : Nat → Int32} {x_saved : Nat → Int32} {x_before : Nat → Int32} {x_was : Nat → Int32} {x_region : Nat → Int32} {x_parts : Nat → Int64} {x_next : Nat → Int64} {x_ways : Nat → Int32} {x_more : Nat → Int32} {x_whole : Int64} {x_isSaved : Int32} {x_changes : Int32} {x_isWithin : Int32} {x_code : Int32} {x_input : Nat → Int32} {x_length : Int32} {x_fault : Int32} {x_failed : Int32} {x_signs : Nat → Int32} {x_signMany : Int32} {x_at : Int32} {x_told : Nat → Int32} {x_toldMany : Int32} {res : Int32 × Int32} {H : Heap} {locs : List Loc} {ls : Array Slot} 
    (E : En cX13_steepest RX13 wsX13_steepest 3 (some .int) p s m args meth c) (hK : KK g s) (hA : ∀ q, s.heap.size ≤ q → A q) (h : f_X13_steepest x_g x_code = some res) (hW : Wo g A s H locs (w_X13 g h0 h1 h2 h3 h4 h5 h6 h7 h8 h9 h10 h11 h12 h13 x_g x_kept x_saved x_before x_was x_region x_parts x_next x_ways x_more x_whole x_isSaved x_changes x_isWithin x_code x_input x_length x_fault x_failed x_signs x_signMany x_at x_told x_toldMany)) (hl : lv_has ls 3 [(0, .ref h0)]) : G_X13_steepest p l e s m args below meth c g A h0 h1 h2 h3 h4 h5 h6 h7 h8 h9 h10 h11 h12 h13 x_g x_kept x_saved x_before x_was x_region x_parts x_next x_ways x_more x_whole x_isSaved x_changes x_isWithin x_input x_length x_fault x_failed x_signs x_signMany x_at x_told x_toldMany res H locs 0 ls [] := by
  have hts := E.2.2.2.1
  unfold f_X13_steepest at h
  refine lv_aload_n E.1 E.2.1 dX13_steepest_0 rfl (lv_at hl 0 rfl) ?_
  refine lv_iconst (v := 0) E.1 E.2.1 dX13_steepest_1 (by decide) ?_
  refine wPut (world' := (w_X13 g h0 h1 h2 h3 h4 h5 h6 h7 h8 h9 h10 h11 h12 h13 x_g x_kept x_saved x_before x_was x_region x_parts x_next x_ways x_more x_whole x_isSaved x_changes x_isWithin 0 x_input x_length x_fault x_failed x_signs x_signMany x_at x_told x_toldMany)) E hK in_X13_steepest_X13 tyX13 tyX13_ok nmX13 hW 14 lk_X13_steepest_58 0 rfl rfl (by decide) rfl rfl rfl rfl rfl (Nat.le_of_ble_eq_true rfl) dX13_steepest_2 rfl (fun H locs hW => ?_)
  refine lv_iconst (v := 0) E.1 E.2.1 dX13_steepest_5 (by decide) ?_
  refine lv_istore_n (lv' := [(1, .int 0), (0, .ref h0)]) E.1 E.2.1 dX13_steepest_6 rfl hl (by decide) rfl (fun ls hl => ?_)
  refine lv_iconst (v := 0) E.1 E.2.1 dX13_steepest_7 (by decide) ?_
  refine lv_istore_n (lv' := [(2, .int 0), (1, .int 0), (0, .ref h0)]) E.1 E.2.1 dX13_steepest_8 rfl hl (by decide) rfl (fun ls hl => ?_)
  refine k_X13_steepest_9 E hK hA ?_ 1000 0 0 H locs ls h hW (lv_sub hl [2, 1, 0] rfl)
  · intro l1_68e H locs ls h hW hl
    refine lv_iload_n E.1 E.2.1 dX13_steepest_68 rfl (lv_at hl 0 rfl) ?_
    obtain rfl := Option.some.inj h
    exact endI E rfl hW dX13_steepest_69
theorem c_X13_steepest (l : Launch) (g : GE) (h0 h1 h2 h3 h4 h5 h6 h7 h8 h9 h10 h11 h12 h13 : Nat) (x_g : Nat → Int32) (x_kept : Nat → Int32) (x_saved : Nat → Int32) (x_before : Nat → Int32) (x_was : Nat → Int32) (x_region : Nat → Int32) (x_parts : Nat → Int64) (x_next : Nat → Int64) (x_ways : Nat → Int32) (x_more : Nat → Int32) (x_whole : Int64) (x_isSaved : Int32) (x_changes : Int32) (x_isWithin : Int32) (x_code : Int32) (x_input : Nat → Int32) (x_length : Int32) (x_fault : Int32) (x_failed : Int32) (x_signs : Nat → Int32) (x_signMany : Int32) (x_at : Int32) (x_told : Nat → Int32) (x_toldMany : Int32) {res : Int32 × Int32} (hf : f_X13_steepest x_g x_code = some res) : CI l yX13_steepest wsX13_steepest rm_X13_steepest g [.ref h0] (w_X13 g h0 h1 h2 h3 h4 h5 h6 h7 h8 h9 h10 h11 h12 h13 x_g x_kept x_saved x_before x_was x_region x_parts x_next x_ways x_more x_whole x_isSaved x_changes x_isWithin x_code x_input x_length x_fault x_failed x_signs x_signMany x_at x_told x_toldMany) (w_X13 g h0 h1 h2 h3 h4 h5 h6 h7 h8 h9 h10 h11 h12 h13 x_g x_kept x_saved x_before x_was x_region x_parts x_next x_ways x_more x_whole x_isSaved x_changes x_isWithin res.2 x_input x_length x_fault x_failed x_signs x_signMany x_at x_told x_toldMany) res.1 :=
  mkI (cc := cX13_steepest) (maxL := 3) (by decide) rfl (Nat.le_of_ble_eq_true rfl) (fun p e s m args below meth c A H locs ls E hK hA hW hl => k_X13_steepest_0 E hK hA hf hW hl)

/-! PaperStormModel.joins(II)V X13_joins -/
abbrev rm_X13_joins : Room := { frames := 0, cells := 0, slots := 0, locals := 0 }
theorem in_X13_joins_X13 : ∀ w ∈ wsX130, w ∈ wsX13_joins := by decide +kernel
theorem lk_X13_joins_25 : Cond.fieldLink RX13 25 "PaperStormModel" "region" "[I" ∈ wsX13_joins := by decide +kernel
noncomputable def f_X13_joins_18 (l3 : Int32) (l4 : Int32) (z51 : (Nat → Int32) → Option ((Nat → Int32))) : Nat → Int32 → (Nat → Int32) → Option ((Nat → Int32))
  | 0, _, _ => none
  | n + 1, l5_18, x_region_18 => if 25 ≤ l5_18 then z51 x_region_18 else jo (fun (x_region_45 : Nat → Int32) => f_X13_joins_18 l3 l4 z51 n (l5_18 + 1) x_region_45) (fun j45 => if l5_18 < 0 ∨ 25 ≤ l5_18.toNatClampNeg then none else if (x_region_18 l5_18.toNatClampNeg) = l3 then j45 (upd x_region_18 l5_18.toNatClampNeg l4) else j45 x_region_18)
noncomputable def f_X13_joins (x_region : Nat → Int32) (a1 : Int32) (a2 : Int32) : Option ((Nat → Int32)) :=
  if a1 < 0 ∨ 25 ≤ a1.toNatClampNeg then none else if a2 < 0 ∨ 25 ≤ a2.toNatClampNeg then none else f_X13_joins_18 (x_region a1.toNatClampNeg) (x_region a2.toNatClampNeg) (fun x_region_51e => some (x_region_51e)) 1000 0 x_region
abbrev G_X13_joins (p : Program) (l : Launch) (e : Env) (s : State) (m : MethodId) (args : Array Value) (below : List Frame) (meth : Method) (c : Code) (g : GE) (A : Nat → Prop) (h0 h1 h2 h3 h4 h5 h6 h7 h8 h9 h10 h11 h12 h13 : Nat) (x_g : Nat → Int32) (x_kept : Nat → Int32) (x_saved : Nat → Int32) (x_before : Nat → Int32) (x_was : Nat → Int32) (x_parts : Nat → Int64) (x_next : Nat → Int64) (x_ways : Nat → Int32) (x_more : Nat → Int32) (x_whole : Int64) (x_isSaved : Int32) (x_changes : Int32) (x_isWithin : Int32) (x_code : Int32) (x_input : Nat → Int32) (x_length : Int32) (x_fault : Int32) (x_failed : Int32) (x_signs : Nat → Int32) (x_signMany : Int32) (x_at : Int32) (x_told : Nat → Int32) (x_toldMany : Int32) (res : (Nat → Int32)) (H : Heap) (locs : List Loc) (pc : Nat) (ls : Array Slot) (st : List Value) : Prop := W p l e (headSpec wsX13_joins rm_X13_joins).room s m args below meth c H locs 0 0 (MQ below (PoV g A (w_X13 g h0 h1 h2 h3 h4 h5 h6 h7 h8 h9 h10 h11 h12 h13 x_g x_kept x_saved x_before x_was res x_parts x_next x_ways x_more x_whole x_isSaved x_changes x_isWithin x_code x_input x_length x_fault x_failed x_signs x_signMany x_at x_told x_toldMany)) args s 0 0 A) (F0 m pc ls st)
set_option maxHeartbeats 4000000 in
set_option maxRecDepth 100000 in
theorem k_X13_joins_18 {p : Program} {l : Launch} {e : Env} {s : State} {m : MethodId} {args : Array Value} {below : List Frame} {meth : Method} {c : Code} {g : GE} {A : Nat → Prop} {h0 h1 h2 h3 h4 h5 h6 h7 h8 h9 h10 h11 h12 h13 : Nat} {x_g : Nat → Int32} {x_kept : Nat → Int32} {x_saved : Nat → Int32} {x_before : Nat → Int32} {x_was : Nat → Int32} {x_parts : Nat → Int64} {x_next : Nat → Int64} {x_ways : Nat → Int32} {x_more : Nat → Int32} {x_whole : Int64} {x_isSaved : Int32} {x_changes : Int32} {x_isWithin : Int32} {x_code : Int32} {x_input : Nat → Int32} {x_length : Int32} {x_fault : Int32} {x_failed : Int32} {x_signs : Nat → Int32} {x_signMany : Int32} {x_at : Int32} {x_told : Nat → Int32} {x_toldMany : Int32} {res : (Nat → Int32)} {l3 : Int32} {l4 : Int32} {z51 : (Nat → Int32) → Option ((Nat → Int32))}
    (E : En cX13_joins RX13 wsX13_joins 6 none p s m args meth c) (hK : KK g s) (hA : ∀ q, s.heap.size ≤ q → A q)
    (hz51 : ∀ (x_region_51e : Nat → Int32) (H : Heap) (locs : List Loc) (ls : Array Slot), z51 x_region_51e = some res → Wo g A s H locs (w_X13 g h0 h1 h2 h3 h4 h5 h6 h7 h8 h9 h10 h11 h12 h13 x_g x_kept x_saved x_before x_was x_region_51e x_parts x_next x_ways x_more x_whole x_isSaved x_changes x_isWithin x_code x_input x_length x_fault x_failed x_signs x_signMany x_at x_told x_toldMany) → lv_has ls 6 [] → G_X13_joins p l e s m args below meth c g A h0 h1 h2 h3 h4 h5 h6 h7 h8 h9 h10 h11 h12 h13 x_g x_kept x_saved x_before x_was x_parts x_next x_ways x_more x_whole x_isSaved x_changes x_isWithin x_code x_input x_length x_fault x_failed x_signs x_signMany x_at x_told x_toldMany res H locs 51 ls [])
    : ∀ (n : Nat) (l5_18 : Int32) (x_region_18 : Nat → Int32) (H : Heap) (locs : List Loc) (ls : Array Slot), f_X13_joins_18 l3 l4 z51 n l5_18 x_region_18 = some res → Wo g A s H locs (w_X13 g h0 h1 h2 h3 h4 h5 h6 h7 h8 h9 h10 h11 h12 h13 x_g x_kept x_saved x_before x_was x_region_18 x_parts x_next x_ways x_more x_whole x_isSaved x_changes x_isWithin x_code x_input x_length x_fault x_failed x_signs x_signMany x_at x_told x_toldMany) → lv_has ls 6 [(0, .ref h0), (3, .int l3), (4, .int l4), (5, .int l5_18)] → G_X13_joins p l e s m args below meth c g A h0 h1 h2 h3 h4 h5 h6 h7 h8 h9 h10 h11 h12 h13 x_g x_kept x_saved x_before x_was x_parts x_next x_ways x_more x_whole x_isSaved x_changes x_isWithin x_code x_input x_length x_fault x_failed x_signs x_signMany x_at x_told x_toldMany res H locs 18 ls [] := by
  have hts := E.2.2.2.1
  intro n
  induction n with
  | zero => intro l5_18 x_region_18 H locs ls h hW hl; rw [f_X13_joins_18] at h; cases h
  | succ n ih =>
    intro l5_18 x_region_18 H locs ls h hW hl
    rw [f_X13_joins_18] at h
    refine lv_iload E.1 E.2.1 dX13_joins_18 (lv_at hl 3 rfl) ?_
    refine lv_bipush (v := 25) E.1 E.2.1 dX13_joins_20 (by decide) ?_
    refine lv_icmp_ge (tgt := 51) E.1 E.2.1 dX13_joins_22 (by decide) (fun c22 => ?_) (fun c22 => ?_)
    · have h := it c22 h
      exact hz51 x_region_18 H locs ls h hW (lv_sub hl [] rfl)
    · have h := ie c22 h
      obtain ⟨j45, hj45, h⟩ := jox1 h
      have J45 : ∀ (x_region_45 : Nat → Int32) (H : Heap) (locs : List Loc) (ls : Array Slot), j45 x_region_45 = some res → Wo g A s H locs (w_X13 g h0 h1 h2 h3 h4 h5 h6 h7 h8 h9 h10 h11 h12 h13 x_g x_kept x_saved x_before x_was x_region_45 x_parts x_next x_ways x_more x_whole x_isSaved x_changes x_isWithin x_code x_input x_length x_fault x_failed x_signs x_signMany x_at x_told x_toldMany) → lv_has ls 6 [(0, .ref h0), (3, .int l3), (4, .int l4), (5, .int l5_18)] → G_X13_joins p l e s m args below meth c g A h0 h1 h2 h3 h4 h5 h6 h7 h8 h9 h10 h11 h12 h13 x_g x_kept x_saved x_before x_was x_parts x_next x_ways x_more x_whole x_isSaved x_changes x_isWithin x_code x_input x_length x_fault x_failed x_signs x_signMany x_at x_told x_toldMany res H locs 45 ls [] := by
        intro x_region_45 H locs ls h hW hl
        rw [hj45] at h
        refine lv_iinc (v := (l5_18 + 1)) (lv' := [(5, .int (l5_18 + 1)), (0, .ref h0), (3, .int l3), (4, .int l4)]) E.1 E.2.1 dX13_joins_45 hl (k := 3) rfl rfl (by decide) rfl (fun ls hl => ?_)
        refine lv_goto (tgt := 18) E.1 E.2.1 dX13_joins_48 (by decide) ?_
        exact ih (l5_18 + 1) x_region_45 H locs ls h hW (lv_sub hl [1, 2, 3, 0] rfl)
      refine lv_aload_n E.1 E.2.1 dX13_joins_25 rfl (lv_at hl 0 rfl) ?_
      refine wGet (v := .ref h6) E hK in_X13_joins_X13 hW 5 lk_X13_joins_25 0 rfl rfl (by decide) rfl rfl dX13_joins_26 ?_
      refine lv_iload E.1 E.2.1 dX13_joins_29 (lv_at hl 3 rfl) ?_
      obtain ⟨hi31, h⟩ := ox h
      refine wIald E hK hW 6 rfl hi31 dX13_joins_31 ?_
      refine lv_iload_n E.1 E.2.1 dX13_joins_32 rfl (lv_at hl 1 rfl) ?_
      refine lv_icmp_ne (tgt := 45) E.1 E.2.1 dX13_joins_33 (by decide) (fun c33 => ?_) (fun c33 => ?_)
      · have h := ie c33 h
        exact J45 x_region_18 H locs ls h hW (lv_sub hl [0, 1, 2, 3] rfl)
      · have h := it c33 h
        refine lv_aload_n E.1 E.2.1 dX13_joins_36 rfl (lv_at hl 0 rfl) ?_
        refine wGet (v := .ref h6) E hK in_X13_joins_X13 hW 5 lk_X13_joins_25 0 rfl rfl (by decide) rfl rfl dX13_joins_37 ?_
        refine lv_iload E.1 E.2.1 dX13_joins_40 (lv_at hl 3 rfl) ?_
        refine lv_iload E.1 E.2.1 dX13_joins_42 (lv_at hl 2 rfl) ?_
        refine wIast (world' := (w_X13 g h0 h1 h2 h3 h4 h5 h6 h7 h8 h9 h10 h11 h12 h13 x_g x_kept x_saved x_before x_was (upd x_region_18 l5_18.toNatClampNeg l4) x_parts x_next x_ways x_more x_whole x_isSaved x_changes x_isWithin x_code x_input x_length x_fault x_failed x_signs x_signMany x_at x_told x_toldMany)) E hK hW 6 rfl hi31 dX13_joins_44 rfl (fun H locs hW => ?_)
        exact J45 (upd x_region_18 l5_18.toNatClampNeg l4) H locs ls h hW (lv_sub hl [0, 1, 2, 3] rfl)
set_option maxHeartbeats 4000000 in
set_option maxRecDepth 100000 in
theorem k_X13_joins_0 {p : Program} {l : Launch} {e : Env} {s : State} {m : MethodId} {args : Array Value} {below : List Frame} {meth : Method} {c : Code} {g : GE} {A : Nat → Prop} {h0 h1 h2 h3 h4 h5 h6 h7 h8 h9 h10 h11 h12 h13 : Nat} {x_g : Nat → Int32} {x_kept : Nat → Int32} {x_saved : Nat → Int32} {x_before : Nat → Int32} {x_was : Nat → Int32} {x_region : Nat → Int32} {x_parts : Nat → Int64} {x_next : Nat → Int64} {x_ways : Nat → Int32} {x_more : Nat → Int32} {x_whole : Int64} {x_isSaved : Int32} {x_changes : Int32} {x_isWithin : Int32} {x_code : Int32} {x_input : Nat → Int32} {x_length : Int32} {x_fault : Int32} {x_failed : Int32} {x_signs : Nat → Int32} {x_signMany : Int32} {x_at : Int32} {x_told : Nat → Int32} {x_toldMany : Int32} {res : (Nat → Int32)} {H : Heap} {locs : List Loc} {ls : Array Slot} {a1 : Int32} {a2 : Int32}
    (E : En cX13_joins RX13 wsX13_joins 6 none p s m args meth c) (hK : KK g s) (hA : ∀ q, s.heap.size ≤ q → A q) (h : f_X13_joins x_region a1 a2 = some res) (hW : Wo g A s H locs (w_X13 g h0 h1 h2 h3 h4 h5 h6 h7 h8 h9 h10 h11 h12 h13 x_g x_kept x_saved x_before x_was x_region x_parts x_next x_ways x_more x_whole x_isSaved x_changes x_isWithin x_code x_input x_length x_fault x_failed x_signs x_signMany x_at x_told x_toldMany)) (hl : lv_has ls 6 [(0, .ref h0), (1, .int a1), (2, .int a2)]) : G_X13_joins p l e s m args below meth c g A h0 h1 h2 h3 h4 h5 h6 h7 h8 h9 h10 h11 h12 h13 x_g x_kept x_saved x_before x_was x_parts x_next x_ways x_more x_whole x_isSaved x_changes x_isWithin x_code x_input x_length x_fault x_failed x_signs x_signMany x_at x_told x_toldMany res H locs 0 ls [] := by
  have hts := E.2.2.2.1
  unfold f_X13_joins at h
  refine lv_aload_n E.1 E.2.1 dX13_joins_0 rfl (lv_at hl 0 rfl) ?_
  refine wGet (v := .ref h6) E hK in_X13_joins_X13 hW 5 lk_X13_joins_25 0 rfl rfl (by decide) rfl rfl dX13_joins_1 ?_
  refine lv_iload_n E.1 E.2.1 dX13_joins_4 rfl (lv_at hl 1 rfl) ?_
  obtain ⟨hi5, h⟩ := ox h
  refine wIald E hK hW 6 rfl hi5 dX13_joins_5 ?_
  refine lv_istore_n (lv' := [(3, .int (x_region a1.toNatClampNeg)), (0, .ref h0), (1, .int a1), (2, .int a2)]) E.1 E.2.1 dX13_joins_6 rfl hl (by decide) rfl (fun ls hl => ?_)
  refine lv_aload_n E.1 E.2.1 dX13_joins_7 rfl (lv_at hl 1 rfl) ?_
  refine wGet (v := .ref h6) E hK in_X13_joins_X13 hW 5 lk_X13_joins_25 0 rfl rfl (by decide) rfl rfl dX13_joins_8 ?_
  refine lv_iload_n E.1 E.2.1 dX13_joins_11 rfl (lv_at hl 3 rfl) ?_
  obtain ⟨hi12, h⟩ := ox h
  refine wIald E hK hW 6 rfl hi12 dX13_joins_12 ?_
  refine lv_istore (lv' := [(4, .int (x_region a2.toNatClampNeg)), (3, .int (x_region a1.toNatClampNeg)), (0, .ref h0), (1, .int a1), (2, .int a2)]) E.1 E.2.1 dX13_joins_13 hl (by decide) rfl (fun ls hl => ?_)
  refine lv_iconst (v := 0) E.1 E.2.1 dX13_joins_15 (by decide) ?_
  refine lv_istore (lv' := [(5, .int 0), (4, .int (x_region a2.toNatClampNeg)), (3, .int (x_region a1.toNatClampNeg)), (0, .ref h0), (1, .int a1), (2, .int a2)]) E.1 E.2.1 dX13_joins_16 hl (by decide) rfl (fun ls hl => ?_)
  refine k_X13_joins_18 E hK hA ?_ 1000 0 x_region H locs ls h hW (lv_sub hl [3, 2, 1, 0] rfl)
  · intro x_region_51e H locs ls h hW hl
    obtain rfl := Option.some.inj h
    exact endV E hW dX13_joins_51
theorem c_X13_joins (l : Launch) (g : GE) (h0 h1 h2 h3 h4 h5 h6 h7 h8 h9 h10 h11 h12 h13 : Nat) (x_g : Nat → Int32) (x_kept : Nat → Int32) (x_saved : Nat → Int32) (x_before : Nat → Int32) (x_was : Nat → Int32) (x_region : Nat → Int32) (x_parts : Nat → Int64) (x_next : Nat → Int64) (x_ways : Nat → Int32) (x_more : Nat → Int32) (x_whole : Int64) (x_isSaved : Int32) (x_changes : Int32) (x_isWithin : Int32) (x_code : Int32) (x_input : Nat → Int32) (x_length : Int32) (x_fault : Int32) (x_failed : Int32) (x_signs : Nat → Int32) (x_signMany : Int32) (x_at : Int32) (x_told : Nat → Int32) (x_toldMany : Int32) (a1 : Int32) (a2 : Int32) {res : (Nat → Int32)} (hf : f_X13_joins x_region a1 a2 = some res) : CV l yX13_joins wsX13_joins rm_X13_joins g [.ref h0, .int a1, .int a2] (w_X13 g h0 h1 h2 h3 h4 h5 h6 h7 h8 h9 h10 h11 h12 h13 x_g x_kept x_saved x_before x_was x_region x_parts x_next x_ways x_more x_whole x_isSaved x_changes x_isWithin x_code x_input x_length x_fault x_failed x_signs x_signMany x_at x_told x_toldMany) (w_X13 g h0 h1 h2 h3 h4 h5 h6 h7 h8 h9 h10 h11 h12 h13 x_g x_kept x_saved x_before x_was res x_parts x_next x_ways x_more x_whole x_isSaved x_changes x_isWithin x_code x_input x_length x_fault x_failed x_signs x_signMany x_at x_told x_toldMany) :=
  mkV (cc := cX13_joins) (maxL := 6) (by decide) rfl (Nat.le_of_ble_eq_true rfl) (fun p e s m args below meth c A H locs ls E hK hA hW hl => k_X13_joins_0 E hK hA hf hW hl)

/-! PaperStormModel.parted()V X13_parted -/
abbrev rm_X13_parted : Room := { frames := 3, cells := 0, slots := 0, locals := 65 }
theorem in_X13_parted_X13 : ∀ w ∈ wsX130, w ∈ wsX13_parted := by decide +kernel
theorem lk_X13_parted_25 : Cond.fieldLink RX13 25 "PaperStormModel" "region" "[I" ∈ wsX13_parted := by decide +kernel
noncomputable def f_X13_parted_2 (z21 : (Nat → Int32) → Option ((Nat → Int32))) : Nat → Int32 → (Nat → Int32) → Option ((Nat → Int32))
  | 0, _, _ => none
  | n + 1, l1_2, x_region_2 => if 25 ≤ l1_2 then z21 x_region_2 else if l1_2 < 0 ∨ 25 ≤ l1_2.toNatClampNeg then none else f_X13_parted_2 z21 n (l1_2 + 1) (upd x_region_2 l1_2.toNatClampNeg l1_2)
noncomputable def f_X13_parted_23 (x_g : Nat → Int32) (z82 : (Nat → Int32) → Option ((Nat → Int32))) : Nat → Int32 → (Nat → Int32) → Option ((Nat → Int32))
  | 0, _, _ => none
  | n + 1, l1_23, x_region_23 => if 25 ≤ l1_23 then z82 x_region_23 else jo (fun (x_region_53 : Nat → Int32) => jo (fun (x_region_76 : Nat → Int32) => f_X13_parted_23 x_g z82 n (l1_23 + 1) x_region_76) (fun j76 => if 20 ≤ l1_23 then j76 x_region_53 else (f_X13_isFront x_g l1_23 5).bind fun r62 => if r62 = 0 then (f_X13_joins x_region_53 l1_23 (l1_23 + 5)).bind fun r73 => j76 r73 else j76 x_region_53)) (fun j53 => if 4 ≤ (l1_23 - l1_23 / 5 * 5) then j53 x_region_23 else (f_X13_isFront x_g l1_23 1).bind fun r39 => if r39 = 0 then (f_X13_joins x_region_23 l1_23 (l1_23 + 1)).bind fun r50 => j53 r50 else j53 x_region_23)
noncomputable def f_X13_parted (x_g : Nat → Int32) (x_region : Nat → Int32) : Option ((Nat → Int32)) :=
  f_X13_parted_2 (fun x_region_21e => f_X13_parted_23 x_g (fun x_region_82e => some (x_region_82e)) 1000 0 x_region_21e) 1000 0 x_region
abbrev G_X13_parted (p : Program) (l : Launch) (e : Env) (s : State) (m : MethodId) (args : Array Value) (below : List Frame) (meth : Method) (c : Code) (g : GE) (A : Nat → Prop) (h0 h1 h2 h3 h4 h5 h6 h7 h8 h9 h10 h11 h12 h13 : Nat) (x_g : Nat → Int32) (x_kept : Nat → Int32) (x_saved : Nat → Int32) (x_before : Nat → Int32) (x_was : Nat → Int32) (x_parts : Nat → Int64) (x_next : Nat → Int64) (x_ways : Nat → Int32) (x_more : Nat → Int32) (x_whole : Int64) (x_isSaved : Int32) (x_changes : Int32) (x_isWithin : Int32) (x_code : Int32) (x_input : Nat → Int32) (x_length : Int32) (x_fault : Int32) (x_failed : Int32) (x_signs : Nat → Int32) (x_signMany : Int32) (x_at : Int32) (x_told : Nat → Int32) (x_toldMany : Int32) (res : (Nat → Int32)) (H : Heap) (locs : List Loc) (pc : Nat) (ls : Array Slot) (st : List Value) : Prop := W p l e (headSpec wsX13_parted rm_X13_parted).room s m args below meth c H locs 0 0 (MQ below (PoV g A (w_X13 g h0 h1 h2 h3 h4 h5 h6 h7 h8 h9 h10 h11 h12 h13 x_g x_kept x_saved x_before x_was res x_parts x_next x_ways x_more x_whole x_isSaved x_changes x_isWithin x_code x_input x_length x_fault x_failed x_signs x_signMany x_at x_told x_toldMany)) args s 0 0 A) (F0 m pc ls st)
set_option maxHeartbeats 4000000 in
set_option maxRecDepth 100000 in
theorem k_X13_parted_2 {p : Program} {l : Launch} {e : Env} {s : State} {m : MethodId} {args : Array Value} {below : List Frame} {meth : Method} {c : Code} {g : GE} {A : Nat → Prop} {h0 h1 h2 h3 h4 h5 h6 h7 h8 h9 h10 h11 h12 h13 : Nat} {x_g : Nat → Int32} {x_kept : Nat → Int32} {x_saved : Nat → Int32} {x_before : Nat → Int32} {x_was : Nat → Int32} {x_parts : Nat → Int64} {x_next : Nat → Int64} {x_ways : Nat → Int32} {x_more : Nat → Int32} {x_whole : Int64} {x_isSaved : Int32} {x_changes : Int32} {x_isWithin : Int32} {x_code : Int32} {x_input : Nat → Int32} {x_length : Int32} {x_fault : Int32} {x_failed : Int32} {x_signs : Nat → Int32} {x_signMany : Int32} {x_at : Int32} {x_told : Nat → Int32} {x_toldMany : Int32} {res : (Nat → Int32)} {z21 : (Nat → Int32) → Option ((Nat → Int32))}
    (E : En cX13_parted RX13 wsX13_parted 2 none p s m args meth c) (hK : KK g s) (hA : ∀ q, s.heap.size ≤ q → A q)
    (hz21 : ∀ (x_region_21e : Nat → Int32) (H : Heap) (locs : List Loc) (ls : Array Slot), z21 x_region_21e = some res → Wo g A s H locs (w_X13 g h0 h1 h2 h3 h4 h5 h6 h7 h8 h9 h10 h11 h12 h13 x_g x_kept x_saved x_before x_was x_region_21e x_parts x_next x_ways x_more x_whole x_isSaved x_changes x_isWithin x_code x_input x_length x_fault x_failed x_signs x_signMany x_at x_told x_toldMany) → lv_has ls 2 [(0, .ref h0)] → G_X13_parted p l e s m args below meth c g A h0 h1 h2 h3 h4 h5 h6 h7 h8 h9 h10 h11 h12 h13 x_g x_kept x_saved x_before x_was x_parts x_next x_ways x_more x_whole x_isSaved x_changes x_isWithin x_code x_input x_length x_fault x_failed x_signs x_signMany x_at x_told x_toldMany res H locs 21 ls [])
    : ∀ (n : Nat) (l1_2 : Int32) (x_region_2 : Nat → Int32) (H : Heap) (locs : List Loc) (ls : Array Slot), f_X13_parted_2 z21 n l1_2 x_region_2 = some res → Wo g A s H locs (w_X13 g h0 h1 h2 h3 h4 h5 h6 h7 h8 h9 h10 h11 h12 h13 x_g x_kept x_saved x_before x_was x_region_2 x_parts x_next x_ways x_more x_whole x_isSaved x_changes x_isWithin x_code x_input x_length x_fault x_failed x_signs x_signMany x_at x_told x_toldMany) → lv_has ls 2 [(0, .ref h0), (1, .int l1_2)] → G_X13_parted p l e s m args below meth c g A h0 h1 h2 h3 h4 h5 h6 h7 h8 h9 h10 h11 h12 h13 x_g x_kept x_saved x_before x_was x_parts x_next x_ways x_more x_whole x_isSaved x_changes x_isWithin x_code x_input x_length x_fault x_failed x_signs x_signMany x_at x_told x_toldMany res H locs 2 ls [] := by
  have hts := E.2.2.2.1
  intro n
  induction n with
  | zero => intro l1_2 x_region_2 H locs ls h hW hl; rw [f_X13_parted_2] at h; cases h
  | succ n ih =>
    intro l1_2 x_region_2 H locs ls h hW hl
    rw [f_X13_parted_2] at h
    refine lv_iload_n E.1 E.2.1 dX13_parted_2 rfl (lv_at hl 1 rfl) ?_
    refine lv_bipush (v := 25) E.1 E.2.1 dX13_parted_3 (by decide) ?_
    refine lv_icmp_ge (tgt := 21) E.1 E.2.1 dX13_parted_5 (by decide) (fun c5 => ?_) (fun c5 => ?_)
    · have h := it c5 h
      exact hz21 x_region_2 H locs ls h hW (lv_sub hl [0] rfl)
    · have h := ie c5 h
      refine lv_aload_n E.1 E.2.1 dX13_parted_8 rfl (lv_at hl 0 rfl) ?_
      refine wGet (v := .ref h6) E hK in_X13_parted_X13 hW 5 lk_X13_parted_25 0 rfl rfl (by decide) rfl rfl dX13_parted_9 ?_
      refine lv_iload_n E.1 E.2.1 dX13_parted_12 rfl (lv_at hl 1 rfl) ?_
      refine lv_iload_n E.1 E.2.1 dX13_parted_13 rfl (lv_at hl 1 rfl) ?_
      obtain ⟨hi14, h⟩ := ox h
      refine wIast (world' := (w_X13 g h0 h1 h2 h3 h4 h5 h6 h7 h8 h9 h10 h11 h12 h13 x_g x_kept x_saved x_before x_was (upd x_region_2 l1_2.toNatClampNeg l1_2) x_parts x_next x_ways x_more x_whole x_isSaved x_changes x_isWithin x_code x_input x_length x_fault x_failed x_signs x_signMany x_at x_told x_toldMany)) E hK hW 6 rfl hi14 dX13_parted_14 rfl (fun H locs hW => ?_)
      refine lv_iinc (v := (l1_2 + 1)) (lv' := [(1, .int (l1_2 + 1)), (0, .ref h0)]) E.1 E.2.1 dX13_parted_15 hl (k := 1) rfl rfl (by decide) rfl (fun ls hl => ?_)
      refine lv_goto (tgt := 2) E.1 E.2.1 dX13_parted_18 (by decide) ?_
      exact ih (l1_2 + 1) (upd x_region_2 l1_2.toNatClampNeg l1_2) H locs ls h hW (lv_sub hl [1, 0] rfl)
set_option maxHeartbeats 4000000 in
set_option maxRecDepth 100000 in
theorem k_X13_parted_23 {p : Program} {l : Launch} {e : Env} {s : State} {m : MethodId} {args : Array Value} {below : List Frame} {meth : Method} {c : Code} {g : GE} {A : Nat → Prop} {h0 h1 h2 h3 h4 h5 h6 h7 h8 h9 h10 h11 h12 h13 : Nat} {x_g : Nat → Int32} {x_kept : Nat → Int32} {x_saved : Nat → Int32} {x_before : Nat → Int32} {x_was : Nat → Int32} {x_parts : Nat → Int64} {x_next : Nat → Int64} {x_ways : Nat → Int32} {x_more : Nat → Int32} {x_whole : Int64} {x_isSaved : Int32} {x_changes : Int32} {x_isWithin : Int32} {x_code : Int32} {x_input : Nat → Int32} {x_length : Int32} {x_fault : Int32} {x_failed : Int32} {x_signs : Nat → Int32} {x_signMany : Int32} {x_at : Int32} {x_told : Nat → Int32} {x_toldMany : Int32} {res : (Nat → Int32)} {z82 : (Nat → Int32) → Option ((Nat → Int32))}
    (E : En cX13_parted RX13 wsX13_parted 2 none p s m args meth c) (hK : KK g s) (hA : ∀ q, s.heap.size ≤ q → A q)
    (hz82 : ∀ (x_region_82e : Nat → Int32) (H : Heap) (locs : List Loc) (ls : Array Slot), z82 x_region_82e = some res → Wo g A s H locs (w_X13 g h0 h1 h2 h3 h4 h5 h6 h7 h8 h9 h10 h11 h12 h13 x_g x_kept x_saved x_before x_was x_region_82e x_parts x_next x_ways x_more x_whole x_isSaved x_changes x_isWithin x_code x_input x_length x_fault x_failed x_signs x_signMany x_at x_told x_toldMany) → lv_has ls 2 [] → G_X13_parted p l e s m args below meth c g A h0 h1 h2 h3 h4 h5 h6 h7 h8 h9 h10 h11 h12 h13 x_g x_kept x_saved x_before x_was x_parts x_next x_ways x_more x_whole x_isSaved x_changes x_isWithin x_code x_input x_length x_fault x_failed x_signs x_signMany x_at x_told x_toldMany res H locs 82 ls [])
    : ∀ (n : Nat) (l1_23 : Int32) (x_region_23 : Nat → Int32) (H : Heap) (locs : List Loc) (ls : Array Slot), f_X13_parted_23 x_g z82 n l1_23 x_region_23 = some res → Wo g A s H locs (w_X13 g h0 h1 h2 h3 h4 h5 h6 h7 h8 h9 h10 h11 h12 h13 x_g x_kept x_saved x_before x_was x_region_23 x_parts x_next x_ways x_more x_whole x_isSaved x_changes x_isWithin x_code x_input x_length x_fault x_failed x_signs x_signMany x_at x_told x_toldMany) → lv_has ls 2 [(0, .ref h0), (1, .int l1_23)] → G_X13_parted p l e s m args below meth c g A h0 h1 h2 h3 h4 h5 h6 h7 h8 h9 h10 h11 h12 h13 x_g x_kept x_saved x_before x_was x_parts x_next x_ways x_more x_whole x_isSaved x_changes x_isWithin x_code x_input x_length x_fault x_failed x_signs x_signMany x_at x_told x_toldMany res H locs 23 ls [] := by
  have hts := E.2.2.2.1
  intro n
  induction n with
  | zero => intro l1_23 x_region_23 H locs ls h hW hl; rw [f_X13_parted_23] at h; cases h
  | succ n ih =>
    intro l1_23 x_region_23 H locs ls h hW hl
    rw [f_X13_parted_23] at h
    refine lv_iload_n E.1 E.2.1 dX13_parted_23 rfl (lv_at hl 1 rfl) ?_
    refine lv_bipush (v := 25) E.1 E.2.1 dX13_parted_24 (by decide) ?_
    refine lv_icmp_ge (tgt := 82) E.1 E.2.1 dX13_parted_26 (by decide) (fun c26 => ?_) (fun c26 => ?_)
    · have h := it c26 h
      exact hz82 x_region_23 H locs ls h hW (lv_sub hl [] rfl)
    · have h := ie c26 h
      obtain ⟨j53, hj53, h⟩ := jox1 h
      have J53 : ∀ (x_region_53 : Nat → Int32) (H : Heap) (locs : List Loc) (ls : Array Slot), j53 x_region_53 = some res → Wo g A s H locs (w_X13 g h0 h1 h2 h3 h4 h5 h6 h7 h8 h9 h10 h11 h12 h13 x_g x_kept x_saved x_before x_was x_region_53 x_parts x_next x_ways x_more x_whole x_isSaved x_changes x_isWithin x_code x_input x_length x_fault x_failed x_signs x_signMany x_at x_told x_toldMany) → lv_has ls 2 [(0, .ref h0), (1, .int l1_23)] → G_X13_parted p l e s m args below meth c g A h0 h1 h2 h3 h4 h5 h6 h7 h8 h9 h10 h11 h12 h13 x_g x_kept x_saved x_before x_was x_parts x_next x_ways x_more x_whole x_isSaved x_changes x_isWithin x_code x_input x_length x_fault x_failed x_signs x_signMany x_at x_told x_toldMany res H locs 53 ls [] := by
        intro x_region_53 H locs ls h hW hl
        rw [hj53] at h
        obtain ⟨j76, hj76, h⟩ := jox1 h
        have J76 : ∀ (x_region_76 : Nat → Int32) (H : Heap) (locs : List Loc) (ls : Array Slot), j76 x_region_76 = some res → Wo g A s H locs (w_X13 g h0 h1 h2 h3 h4 h5 h6 h7 h8 h9 h10 h11 h12 h13 x_g x_kept x_saved x_before x_was x_region_76 x_parts x_next x_ways x_more x_whole x_isSaved x_changes x_isWithin x_code x_input x_length x_fault x_failed x_signs x_signMany x_at x_told x_toldMany) → lv_has ls 2 [(0, .ref h0), (1, .int l1_23)] → G_X13_parted p l e s m args below meth c g A h0 h1 h2 h3 h4 h5 h6 h7 h8 h9 h10 h11 h12 h13 x_g x_kept x_saved x_before x_was x_parts x_next x_ways x_more x_whole x_isSaved x_changes x_isWithin x_code x_input x_length x_fault x_failed x_signs x_signMany x_at x_told x_toldMany res H locs 76 ls [] := by
          intro x_region_76 H locs ls h hW hl
          rw [hj76] at h
          refine lv_iinc (v := (l1_23 + 1)) (lv' := [(1, .int (l1_23 + 1)), (0, .ref h0)]) E.1 E.2.1 dX13_parted_76 hl (k := 1) rfl rfl (by decide) rfl (fun ls hl => ?_)
          refine lv_goto (tgt := 23) E.1 E.2.1 dX13_parted_79 (by decide) ?_
          exact ih (l1_23 + 1) x_region_76 H locs ls h hW (lv_sub hl [1, 0] rfl)
        refine lv_iload_n E.1 E.2.1 dX13_parted_53 rfl (lv_at hl 1 rfl) ?_
        refine lv_bipush (v := 20) E.1 E.2.1 dX13_parted_54 (by decide) ?_
        refine lv_icmp_ge (tgt := 76) E.1 E.2.1 dX13_parted_56 (by decide) (fun c56 => ?_) (fun c56 => ?_)
        · have h := it c56 h
          exact J76 x_region_53 H locs ls h hW (lv_sub hl [0, 1] rfl)
        · have h := ie c56 h
          refine lv_aload_n E.1 E.2.1 dX13_parted_59 rfl (lv_at hl 0 rfl) ?_
          refine lv_iload_n E.1 E.2.1 dX13_parted_60 rfl (lv_at hl 1 rfl) ?_
          refine lv_iconst (v := 5) E.1 E.2.1 dX13_parted_61 (by decide) ?_
          obtain ⟨r62, hc, h⟩ := bx h
          refine goI (world' := (w_X13 g h0 h1 h2 h3 h4 h5 h6 h7 h8 h9 h10 h11 h12 h13 x_g x_kept x_saved x_before x_was x_region_53 x_parts x_next x_ways x_more x_whole x_isSaved x_changes x_isWithin x_code x_input x_length x_fault x_failed x_signs x_signMany x_at x_told x_toldMany)) hW hA (is := [0, 1, 2, 3, 4, 5, 6, 7, 8, 9, 10, 11, 12, 13]) rfl (goV (rest := []) E hK hW [0, 1, 2, 3, 4, 5, 6, 7, 8, 9, 10, 11, 12, 13] rfl rfl (c_X13_isFront l g h0 h1 h2 h3 h4 h5 h6 h7 h8 h9 h10 h11 h12 h13 x_g x_kept x_saved x_before x_was x_region_53 x_parts x_next x_ways x_more x_whole x_isSaved x_changes x_isWithin x_code x_input x_length x_fault x_failed x_signs x_signMany x_at x_told x_toldMany l1_23 5 (hf := hc) H.size) (cwV 2 hts gX13_parted_X13_isFront rfl rfl rfl (by decide +kernel) ⟨Nat.le_of_ble_eq_true rfl, Nat.le_of_ble_eq_true rfl⟩) 0 rfl rfl rfl hl.1 rfl rfl (Nat.le_of_ble_eq_true rfl) dX13_parted_62 ⟨Nat.zero_le _, Nat.zero_le _⟩) rfl rfl (fun H locs hW => ?_)
          refine lv_if_ne (tgt := 76) E.1 E.2.1 dX13_parted_65 (by decide) (fun c65 => ?_) (fun c65 => ?_)
          · have h := ie c65 h
            exact J76 x_region_53 H locs ls h hW (lv_sub hl [0, 1] rfl)
          · have h := it c65 h
            refine lv_aload_n E.1 E.2.1 dX13_parted_68 rfl (lv_at hl 0 rfl) ?_
            refine lv_iload_n E.1 E.2.1 dX13_parted_69 rfl (lv_at hl 1 rfl) ?_
            refine lv_iload_n E.1 E.2.1 dX13_parted_70 rfl (lv_at hl 1 rfl) ?_
            refine lv_iconst (v := 5) E.1 E.2.1 dX13_parted_71 (by decide) ?_
            refine lv_iadd E.1 E.2.1 dX13_parted_72 ?_
            obtain ⟨r73, hc, h⟩ := bx h
            refine goU (world' := (w_X13 g h0 h1 h2 h3 h4 h5 h6 h7 h8 h9 h10 h11 h12 h13 x_g x_kept x_saved x_before x_was r73 x_parts x_next x_ways x_more x_whole x_isSaved x_changes x_isWithin x_code x_input x_length x_fault x_failed x_signs x_signMany x_at x_told x_toldMany)) hW hA (is := [0, 1, 2, 3, 4, 5, 6, 7, 8, 9, 10, 11, 12, 13]) rfl (goV (rest := []) E hK hW [0, 1, 2, 3, 4, 5, 6, 7, 8, 9, 10, 11, 12, 13] rfl rfl (c_X13_joins l g h0 h1 h2 h3 h4 h5 h6 h7 h8 h9 h10 h11 h12 h13 x_g x_kept x_saved x_before x_was x_region_53 x_parts x_next x_ways x_more x_whole x_isSaved x_changes x_isWithin x_code x_input x_length x_fault x_failed x_signs x_signMany x_at x_told x_toldMany l1_23 (l1_23 + 5) (hf := hc) H.size) (cwV 2 hts gX13_parted_X13_joins rfl rfl rfl (by decide +kernel) ⟨Nat.le_of_ble_eq_true rfl, Nat.le_of_ble_eq_true rfl⟩) 0 rfl rfl rfl hl.1 rfl rfl (Nat.le_of_ble_eq_true rfl) dX13_parted_73 ⟨Nat.zero_le _, Nat.zero_le _⟩) rfl rfl (fun H locs hW => ?_)
            exact J76 r73 H locs ls h hW (lv_sub hl [0, 1] rfl)
      refine lv_iload_n E.1 E.2.1 dX13_parted_29 rfl (lv_at hl 1 rfl) ?_
      refine lv_iconst (v := 5) E.1 E.2.1 dX13_parted_30 (by decide) ?_
      refine lv_irem E.1 E.2.1 dX13_parted_31 (by decide) ?_
      refine lv_iconst (v := 4) E.1 E.2.1 dX13_parted_32 (by decide) ?_
      refine lv_icmp_ge (tgt := 53) E.1 E.2.1 dX13_parted_33 (by decide) (fun c33 => ?_) (fun c33 => ?_)
      · have h := it c33 h
        exact J53 x_region_23 H locs ls h hW (lv_sub hl [0, 1] rfl)
      · have h := ie c33 h
        refine lv_aload_n E.1 E.2.1 dX13_parted_36 rfl (lv_at hl 0 rfl) ?_
        refine lv_iload_n E.1 E.2.1 dX13_parted_37 rfl (lv_at hl 1 rfl) ?_
        refine lv_iconst (v := 1) E.1 E.2.1 dX13_parted_38 (by decide) ?_
        obtain ⟨r39, hc, h⟩ := bx h
        refine goI (world' := (w_X13 g h0 h1 h2 h3 h4 h5 h6 h7 h8 h9 h10 h11 h12 h13 x_g x_kept x_saved x_before x_was x_region_23 x_parts x_next x_ways x_more x_whole x_isSaved x_changes x_isWithin x_code x_input x_length x_fault x_failed x_signs x_signMany x_at x_told x_toldMany)) hW hA (is := [0, 1, 2, 3, 4, 5, 6, 7, 8, 9, 10, 11, 12, 13]) rfl (goV (rest := []) E hK hW [0, 1, 2, 3, 4, 5, 6, 7, 8, 9, 10, 11, 12, 13] rfl rfl (c_X13_isFront l g h0 h1 h2 h3 h4 h5 h6 h7 h8 h9 h10 h11 h12 h13 x_g x_kept x_saved x_before x_was x_region_23 x_parts x_next x_ways x_more x_whole x_isSaved x_changes x_isWithin x_code x_input x_length x_fault x_failed x_signs x_signMany x_at x_told x_toldMany l1_23 1 (hf := hc) H.size) (cwV 2 hts gX13_parted_X13_isFront rfl rfl rfl (by decide +kernel) ⟨Nat.le_of_ble_eq_true rfl, Nat.le_of_ble_eq_true rfl⟩) 0 rfl rfl rfl hl.1 rfl rfl (Nat.le_of_ble_eq_true rfl) dX13_parted_39 ⟨Nat.zero_le _, Nat.zero_le _⟩) rfl rfl (fun H locs hW => ?_)
        refine lv_if_ne (tgt := 53) E.1 E.2.1 dX13_parted_42 (by decide) (fun c42 => ?_) (fun c42 => ?_)
        · have h := ie c42 h
          exact J53 x_region_23 H locs ls h hW (lv_sub hl [0, 1] rfl)
        · have h := it c42 h
          refine lv_aload_n E.1 E.2.1 dX13_parted_45 rfl (lv_at hl 0 rfl) ?_
          refine lv_iload_n E.1 E.2.1 dX13_parted_46 rfl (lv_at hl 1 rfl) ?_
          refine lv_iload_n E.1 E.2.1 dX13_parted_47 rfl (lv_at hl 1 rfl) ?_
          refine lv_iconst (v := 1) E.1 E.2.1 dX13_parted_48 (by decide) ?_
          refine lv_iadd E.1 E.2.1 dX13_parted_49 ?_
          obtain ⟨r50, hc, h⟩ := bx h
          refine goU (world' := (w_X13 g h0 h1 h2 h3 h4 h5 h6 h7 h8 h9 h10 h11 h12 h13 x_g x_kept x_saved x_before x_was r50 x_parts x_next x_ways x_more x_whole x_isSaved x_changes x_isWithin x_code x_input x_length x_fault x_failed x_signs x_signMany x_at x_told x_toldMany)) hW hA (is := [0, 1, 2, 3, 4, 5, 6, 7, 8, 9, 10, 11, 12, 13]) rfl (goV (rest := []) E hK hW [0, 1, 2, 3, 4, 5, 6, 7, 8, 9, 10, 11, 12, 13] rfl rfl (c_X13_joins l g h0 h1 h2 h3 h4 h5 h6 h7 h8 h9 h10 h11 h12 h13 x_g x_kept x_saved x_before x_was x_region_23 x_parts x_next x_ways x_more x_whole x_isSaved x_changes x_isWithin x_code x_input x_length x_fault x_failed x_signs x_signMany x_at x_told x_toldMany l1_23 (l1_23 + 1) (hf := hc) H.size) (cwV 2 hts gX13_parted_X13_joins rfl rfl rfl (by decide +kernel) ⟨Nat.le_of_ble_eq_true rfl, Nat.le_of_ble_eq_true rfl⟩) 0 rfl rfl rfl hl.1 rfl rfl (Nat.le_of_ble_eq_true rfl) dX13_parted_50 ⟨Nat.zero_le _, Nat.zero_le _⟩) rfl rfl (fun H locs hW => ?_)
          exact J53 r50 H locs ls h hW (lv_sub hl [0, 1] rfl)
set_option maxHeartbeats 4000000 in
set_option maxRecDepth 100000 in
theorem k_X13_parted_0 {p : Program} {l : Launch} {e : Env} {s : State} {m : MethodId} {args : Array Value} {below : List Frame} {meth : Method} {c : Code} {g : GE} {A : Nat → Prop} {h0 h1 h2 h3 h4 h5 h6 h7 h8 h9 h10 h11 h12 h13 : Nat} {x_g : Nat → Int32} {x_kept : Nat → Int32} {x_saved : Nat → Int32} {x_before : Nat → Int32} {x_was : Nat → Int32} {x_region : Nat → Int32} {x_parts : Nat → Int64} {x_next : Nat → Int64} {x_ways : Nat → Int32} {x_more : Nat → Int32} {x_whole : Int64} {x_isSaved : Int32} {x_changes : Int32} {x_isWithin : Int32} {x_code : Int32} {x_input : Nat → Int32} {x_length : Int32} {x_fault : Int32} {x_failed : Int32} {x_signs : Nat → Int32} {x_signMany : Int32} {x_at : Int32} {x_told : Nat → Int32} {x_toldMany : Int32} {res : (Nat → Int32)} {H : Heap} {locs : List Loc} {ls : Array Slot} 
    (E : En cX13_parted RX13 wsX13_parted 2 none p s m args meth c) (hK : KK g s) (hA : ∀ q, s.heap.size ≤ q → A q) (h : f_X13_parted x_g x_region = some res) (hW : Wo g A s H locs (w_X13 g h0 h1 h2 h3 h4 h5 h6 h7 h8 h9 h10 h11 h12 h13 x_g x_kept x_saved x_before x_was x_region x_parts x_next x_ways x_more x_whole x_isSaved x_changes x_isWithin x_code x_input x_length x_fault x_failed x_signs x_signMany x_at x_told x_toldMany)) (hl : lv_has ls 2 [(0, .ref h0)]) : G_X13_parted p l e s m args below meth c g A h0 h1 h2 h3 h4 h5 h6 h7 h8 h9 h10 h11 h12 h13 x_g x_kept x_saved x_before x_was x_parts x_next x_ways x_more x_whole x_isSaved x_changes x_isWithin x_code x_input x_length x_fault x_failed x_signs x_signMany x_at x_told x_toldMany res H locs 0 ls [] := by
  have hts := E.2.2.2.1
  unfold f_X13_parted at h
  refine lv_iconst (v := 0) E.1 E.2.1 dX13_parted_0 (by decide) ?_
  refine lv_istore_n (lv' := [(1, .int 0), (0, .ref h0)]) E.1 E.2.1 dX13_parted_1 rfl hl (by decide) rfl (fun ls hl => ?_)
  refine k_X13_parted_2 E hK hA ?_ 1000 0 x_region H locs ls h hW (lv_sub hl [1, 0] rfl)
  · intro x_region_21e H locs ls h hW hl
    refine lv_iconst (v := 0) E.1 E.2.1 dX13_parted_21 (by decide) ?_
    refine lv_istore_n (lv' := [(1, .int 0), (0, .ref h0)]) E.1 E.2.1 dX13_parted_22 rfl hl (by decide) rfl (fun ls hl => ?_)
    refine k_X13_parted_23 E hK hA ?_ 1000 0 x_region_21e H locs ls h hW (lv_sub hl [1, 0] rfl)
    · intro x_region_82e H locs ls h hW hl
      obtain rfl := Option.some.inj h
      exact endV E hW dX13_parted_82
theorem c_X13_parted (l : Launch) (g : GE) (h0 h1 h2 h3 h4 h5 h6 h7 h8 h9 h10 h11 h12 h13 : Nat) (x_g : Nat → Int32) (x_kept : Nat → Int32) (x_saved : Nat → Int32) (x_before : Nat → Int32) (x_was : Nat → Int32) (x_region : Nat → Int32) (x_parts : Nat → Int64) (x_next : Nat → Int64) (x_ways : Nat → Int32) (x_more : Nat → Int32) (x_whole : Int64) (x_isSaved : Int32) (x_changes : Int32) (x_isWithin : Int32) (x_code : Int32) (x_input : Nat → Int32) (x_length : Int32) (x_fault : Int32) (x_failed : Int32) (x_signs : Nat → Int32) (x_signMany : Int32) (x_at : Int32) (x_told : Nat → Int32) (x_toldMany : Int32) {res : (Nat → Int32)} (hf : f_X13_parted x_g x_region = some res) : CV l yX13_parted wsX13_parted rm_X13_parted g [.ref h0] (w_X13 g h0 h1 h2 h3 h4 h5 h6 h7 h8 h9 h10 h11 h12 h13 x_g x_kept x_saved x_before x_was x_region x_parts x_next x_ways x_more x_whole x_isSaved x_changes x_isWithin x_code x_input x_length x_fault x_failed x_signs x_signMany x_at x_told x_toldMany) (w_X13 g h0 h1 h2 h3 h4 h5 h6 h7 h8 h9 h10 h11 h12 h13 x_g x_kept x_saved x_before x_was res x_parts x_next x_ways x_more x_whole x_isSaved x_changes x_isWithin x_code x_input x_length x_fault x_failed x_signs x_signMany x_at x_told x_toldMany) :=
  mkV (cc := cX13_parted) (maxL := 2) (by decide) rfl (Nat.le_of_ble_eq_true rfl) (fun p e s m args below meth c A H locs ls E hK hA hW hl => k_X13_parted_0 E hK hA hf hW hl)

/-! PaperStormModel.regions()I X13_regions -/
abbrev rm_X13_regions : Room := { frames := 4, cells := 0, slots := 0, locals := 86 }
theorem in_X13_regions_X13 : ∀ w ∈ wsX130, w ∈ wsX13_regions := by decide +kernel
theorem lk_X13_regions_25 : Cond.fieldLink RX13 25 "PaperStormModel" "region" "[I" ∈ wsX13_regions := by decide +kernel
noncomputable def f_X13_regions_8 (x_region : Nat → Int32) (z38 : Int32 → Option (Int32 × (Nat → Int32))) : Nat → Int32 → Int32 → Option (Int32 × (Nat → Int32))
  | 0, _, _ => none
  | n + 1, l1_8, l2_8 => if 25 ≤ l2_8 then z38 l1_8 else jo (fun (s0_30 : Int32) (s1_30 : Int32) => f_X13_regions_8 x_region z38 n (s0_30 + s1_30) (l2_8 + 1)) (fun j30 => if l2_8 < 0 ∨ 25 ≤ l2_8.toNatClampNeg then none else if (x_region l2_8.toNatClampNeg) = l2_8 then j30 l1_8 1 else j30 l1_8 0)
noncomputable def f_X13_regions (x_g : Nat → Int32) (x_region : Nat → Int32) : Option (Int32 × (Nat → Int32)) :=
  (f_X13_parted x_g x_region).bind fun r1 => f_X13_regions_8 r1 (fun l1_38e => some (l1_38e, r1)) 1000 0 0
abbrev G_X13_regions (p : Program) (l : Launch) (e : Env) (s : State) (m : MethodId) (args : Array Value) (below : List Frame) (meth : Method) (c : Code) (g : GE) (A : Nat → Prop) (h0 h1 h2 h3 h4 h5 h6 h7 h8 h9 h10 h11 h12 h13 : Nat) (x_g : Nat → Int32) (x_kept : Nat → Int32) (x_saved : Nat → Int32) (x_before : Nat → Int32) (x_was : Nat → Int32) (x_parts : Nat → Int64) (x_next : Nat → Int64) (x_ways : Nat → Int32) (x_more : Nat → Int32) (x_whole : Int64) (x_isSaved : Int32) (x_changes : Int32) (x_isWithin : Int32) (x_code : Int32) (x_input : Nat → Int32) (x_length : Int32) (x_fault : Int32) (x_failed : Int32) (x_signs : Nat → Int32) (x_signMany : Int32) (x_at : Int32) (x_told : Nat → Int32) (x_toldMany : Int32) (res : Int32 × (Nat → Int32)) (H : Heap) (locs : List Loc) (pc : Nat) (ls : Array Slot) (st : List Value) : Prop := W p l e (headSpec wsX13_regions rm_X13_regions).room s m args below meth c H locs 0 0 (MQ below (PoI g A (w_X13 g h0 h1 h2 h3 h4 h5 h6 h7 h8 h9 h10 h11 h12 h13 x_g x_kept x_saved x_before x_was res.2 x_parts x_next x_ways x_more x_whole x_isSaved x_changes x_isWithin x_code x_input x_length x_fault x_failed x_signs x_signMany x_at x_told x_toldMany) res.1) args s 0 0 A) (F0 m pc ls st)
set_option maxHeartbeats 4000000 in
set_option maxRecDepth 100000 in
theorem k_X13_regions_8 {p : Program} {l : Launch} {e : Env} {s : State} {m : MethodId} {args : Array Value} {below : List Frame} {meth : Method} {c : Code} {g : GE} {A : Nat → Prop} {h0 h1 h2 h3 h4 h5 h6 h7 h8 h9 h10 h11 h12 h13 : Nat} {x_g : Nat → Int32} {x_kept : Nat → Int32} {x_saved : Nat → Int32} {x_before : Nat → Int32} {x_was : Nat → Int32} {x_region : Nat → Int32} {x_parts : Nat → Int64} {x_next : Nat → Int64} {x_ways : Nat → Int32} {x_more : Nat → Int32} {x_whole : Int64} {x_isSaved : Int32} {x_changes : Int32} {x_isWithin : Int32} {x_code : Int32} {x_input : Nat → Int32} {x_length : Int32} {x_fault : Int32} {x_failed : Int32} {x_signs : Nat → Int32} {x_signMany : Int32} {x_at : Int32} {x_told : Nat → Int32} {x_toldMany : Int32} {res : Int32 × (Nat → Int32)} {z38 : Int32 → Option (Int32 × (Nat → Int32))}
    (E : En cX13_regions RX13 wsX13_regions 3 (some .int) p s m args meth c) (hK : KK g s) (hA : ∀ q, s.heap.size ≤ q → A q)
    (hz38 : ∀ (l1_38e : Int32) (H : Heap) (locs : List Loc) (ls : Array Slot), z38 l1_38e = some res → Wo g A s H locs (w_X13 g h0 h1 h2 h3 h4 h5 h6 h7 h8 h9 h10 h11 h12 h13 x_g x_kept x_saved x_before x_was x_region x_parts x_next x_ways x_more x_whole x_isSaved x_changes x_isWithin x_code x_input x_length x_fault x_failed x_signs x_signMany x_at x_told x_toldMany) → lv_has ls 3 [(1, .int l1_38e)] → G_X13_regions p l e s m args below meth c g A h0 h1 h2 h3 h4 h5 h6 h7 h8 h9 h10 h11 h12 h13 x_g x_kept x_saved x_before x_was x_parts x_next x_ways x_more x_whole x_isSaved x_changes x_isWithin x_code x_input x_length x_fault x_failed x_signs x_signMany x_at x_told x_toldMany res H locs 38 ls [])
    : ∀ (n : Nat) (l1_8 : Int32) (l2_8 : Int32) (H : Heap) (locs : List Loc) (ls : Array Slot), f_X13_regions_8 x_region z38 n l1_8 l2_8 = some res → Wo g A s H locs (w_X13 g h0 h1 h2 h3 h4 h5 h6 h7 h8 h9 h10 h11 h12 h13 x_g x_kept x_saved x_before x_was x_region x_parts x_next x_ways x_more x_whole x_isSaved x_changes x_isWithin x_code x_input x_length x_fault x_failed x_signs x_signMany x_at x_told x_toldMany) → lv_has ls 3 [(0, .ref h0), (1, .int l1_8), (2, .int l2_8)] → G_X13_regions p l e s m args below meth c g A h0 h1 h2 h3 h4 h5 h6 h7 h8 h9 h10 h11 h12 h13 x_g x_kept x_saved x_before x_was x_parts x_next x_ways x_more x_whole x_isSaved x_changes x_isWithin x_code x_input x_length x_fault x_failed x_signs x_signMany x_at x_told x_toldMany res H locs 8 ls [] := by
  have hts := E.2.2.2.1
  intro n
  induction n with
  | zero => intro l1_8 l2_8 H locs ls h hW hl; rw [f_X13_regions_8] at h; cases h
  | succ n ih =>
    intro l1_8 l2_8 H locs ls h hW hl
    rw [f_X13_regions_8] at h
    refine lv_iload_n E.1 E.2.1 dX13_regions_8 rfl (lv_at hl 2 rfl) ?_
    refine lv_bipush (v := 25) E.1 E.2.1 dX13_regions_9 (by decide) ?_
    refine lv_icmp_ge (tgt := 38) E.1 E.2.1 dX13_regions_11 (by decide) (fun c11 => ?_) (fun c11 => ?_)
    · have h := it c11 h
      exact hz38 l1_8 H locs ls h hW (lv_sub hl [1] rfl)
    · have h := ie c11 h
      obtain ⟨j30, hj30, h⟩ := jox2 h
      have J30 : ∀ (s0_30 : Int32) (s1_30 : Int32) (H : Heap) (locs : List Loc) (ls : Array Slot), j30 s0_30 s1_30 = some res → Wo g A s H locs (w_X13 g h0 h1 h2 h3 h4 h5 h6 h7 h8 h9 h10 h11 h12 h13 x_g x_kept x_saved x_before x_was x_region x_parts x_next x_ways x_more x_whole x_isSaved x_changes x_isWithin x_code x_input x_length x_fault x_failed x_signs x_signMany x_at x_told x_toldMany) → lv_has ls 3 [(0, .ref h0), (2, .int l2_8)] → G_X13_regions p l e s m args below meth c g A h0 h1 h2 h3 h4 h5 h6 h7 h8 h9 h10 h11 h12 h13 x_g x_kept x_saved x_before x_was x_parts x_next x_ways x_more x_whole x_isSaved x_changes x_isWithin x_code x_input x_length x_fault x_failed x_signs x_signMany x_at x_told x_toldMany res H locs 30 ls [.int s1_30, .int s0_30] := by
        intro s0_30 s1_30 H locs ls h hW hl
        rw [hj30] at h
        refine lv_iadd E.1 E.2.1 dX13_regions_30 ?_
        refine lv_istore_n (lv' := [(1, .int (s0_30 + s1_30)), (0, .ref h0), (2, .int l2_8)]) E.1 E.2.1 dX13_regions_31 rfl hl (by decide) rfl (fun ls hl => ?_)
        refine lv_iinc (v := (l2_8 + 1)) (lv' := [(2, .int (l2_8 + 1)), (1, .int (s0_30 + s1_30)), (0, .ref h0)]) E.1 E.2.1 dX13_regions_32 hl (k := 2) rfl rfl (by decide) rfl (fun ls hl => ?_)
        refine lv_goto (tgt := 8) E.1 E.2.1 dX13_regions_35 (by decide) ?_
        exact ih (s0_30 + s1_30) (l2_8 + 1) H locs ls h hW (lv_sub hl [2, 1, 0] rfl)
      refine lv_iload_n E.1 E.2.1 dX13_regions_14 rfl (lv_at hl 1 rfl) ?_
      refine lv_aload_n E.1 E.2.1 dX13_regions_15 rfl (lv_at hl 0 rfl) ?_
      refine wGet (v := .ref h6) E hK in_X13_regions_X13 hW 5 lk_X13_regions_25 0 rfl rfl (by decide) rfl rfl dX13_regions_16 ?_
      refine lv_iload_n E.1 E.2.1 dX13_regions_19 rfl (lv_at hl 2 rfl) ?_
      obtain ⟨hi20, h⟩ := ox h
      refine wIald E hK hW 6 rfl hi20 dX13_regions_20 ?_
      refine lv_iload_n E.1 E.2.1 dX13_regions_21 rfl (lv_at hl 2 rfl) ?_
      refine lv_icmp_ne (tgt := 29) E.1 E.2.1 dX13_regions_22 (by decide) (fun c22 => ?_) (fun c22 => ?_)
      · have h := ie c22 h
        refine lv_iconst (v := 0) E.1 E.2.1 dX13_regions_29 (by decide) ?_
        exact J30 l1_8 0 H locs ls h hW (lv_sub hl [0, 2] rfl)
      · have h := it c22 h
        refine lv_iconst (v := 1) E.1 E.2.1 dX13_regions_25 (by decide) ?_
        refine lv_goto (tgt := 30) E.1 E.2.1 dX13_regions_26 (by decide) ?_
        exact J30 l1_8 1 H locs ls h hW (lv_sub hl [0, 2] rfl)
set_option maxHeartbeats 4000000 in
set_option maxRecDepth 100000 in
theorem k_X13_regions_0 {p : Program} {l : Launch} {e : Env} {s : State} {m : MethodId} {args : Array Value} {below : List Frame} {meth : Method} {c : Code} {g : GE} {A : Nat → Prop} {h0 h1 h2 h3 h4 h5 h6 h7 h8 h9 h10 h11 h12 h13 : Nat} {x_g : Nat → Int32} {x_kept : Nat → Int32} {x_saved : Nat → Int32} {x_before : Nat → Int32} {x_was : Nat → Int32} {x_region : Nat → Int32} {x_parts : Nat → Int64} {x_next : Nat → Int64} {x_ways : Nat → Int32} {x_more : Nat → Int32} {x_whole : Int64} {x_isSaved : Int32} {x_changes : Int32} {x_isWithin : Int32} {x_code : Int32} {x_input : Nat → Int32} {x_length : Int32} {x_fault : Int32} {x_failed : Int32} {x_signs : Nat → Int32} {x_signMany : Int32} {x_at : Int32} {x_told : Nat → Int32} {x_toldMany : Int32} {res : Int32 × (Nat → Int32)} {H : Heap} {locs : List Loc} {ls : Array Slot} 
    (E : En cX13_regions RX13 wsX13_regions 3 (some .int) p s m args meth c) (hK : KK g s) (hA : ∀ q, s.heap.size ≤ q → A q) (h : f_X13_regions x_g x_region = some res) (hW : Wo g A s H locs (w_X13 g h0 h1 h2 h3 h4 h5 h6 h7 h8 h9 h10 h11 h12 h13 x_g x_kept x_saved x_before x_was x_region x_parts x_next x_ways x_more x_whole x_isSaved x_changes x_isWithin x_code x_input x_length x_fault x_failed x_signs x_signMany x_at x_told x_toldMany)) (hl : lv_has ls 3 [(0, .ref h0)]) : G_X13_regions p l e s m args below meth c g A h0 h1 h2 h3 h4 h5 h6 h7 h8 h9 h10 h11 h12 h13 x_g x_kept x_saved x_before x_was x_parts x_next x_ways x_more x_whole x_isSaved x_changes x_isWithin x_code x_input x_length x_fault x_failed x_signs x_signMany x_at x_told x_toldMany res H locs 0 ls [] := by
  have hts := E.2.2.2.1
  unfold f_X13_regions at h
  refine lv_aload_n E.1 E.2.1 dX13_regions_0 rfl (lv_at hl 0 rfl) ?_
  obtain ⟨r1, hc, h⟩ := bx h
  refine goU (world' := (w_X13 g h0 h1 h2 h3 h4 h5 h6 h7 h8 h9 h10 h11 h12 h13 x_g x_kept x_saved x_before x_was r1 x_parts x_next x_ways x_more x_whole x_isSaved x_changes x_isWithin x_code x_input x_length x_fault x_failed x_signs x_signMany x_at x_told x_toldMany)) hW hA (is := [0, 1, 2, 3, 4, 5, 6, 7, 8, 9, 10, 11, 12, 13]) rfl (goV (rest := []) E hK hW [0, 1, 2, 3, 4, 5, 6, 7, 8, 9, 10, 11, 12, 13] rfl rfl (c_X13_parted l g h0 h1 h2 h3 h4 h5 h6 h7 h8 h9 h10 h11 h12 h13 x_g x_kept x_saved x_before x_was x_region x_parts x_next x_ways x_more x_whole x_isSaved x_changes x_isWithin x_code x_input x_length x_fault x_failed x_signs x_signMany x_at x_told x_toldMany (hf := hc) H.size) (cwV 0 hts gX13_regions_X13_parted rfl rfl rfl (by decide +kernel) ⟨Nat.le_of_ble_eq_true rfl, Nat.le_of_ble_eq_true rfl⟩) 0 rfl rfl rfl hl.1 rfl rfl (Nat.le_of_ble_eq_true rfl) dX13_regions_1 ⟨Nat.zero_le _, Nat.zero_le _⟩) rfl rfl (fun H locs hW => ?_)
  refine lv_iconst (v := 0) E.1 E.2.1 dX13_regions_4 (by decide) ?_
  refine lv_istore_n (lv' := [(1, .int 0), (0, .ref h0)]) E.1 E.2.1 dX13_regions_5 rfl hl (by decide) rfl (fun ls hl => ?_)
  refine lv_iconst (v := 0) E.1 E.2.1 dX13_regions_6 (by decide) ?_
  refine lv_istore_n (lv' := [(2, .int 0), (1, .int 0), (0, .ref h0)]) E.1 E.2.1 dX13_regions_7 rfl hl (by decide) rfl (fun ls hl => ?_)
  refine k_X13_regions_8 E hK hA ?_ 1000 0 0 H locs ls h hW (lv_sub hl [2, 1, 0] rfl)
  · intro l1_38e H locs ls h hW hl
    refine lv_iload_n E.1 E.2.1 dX13_regions_38 rfl (lv_at hl 0 rfl) ?_
    obtain rfl := Option.some.inj h
    exact endI E rfl hW dX13_regions_39
theorem c_X13_regions (l : Launch) (g : GE) (h0 h1 h2 h3 h4 h5 h6 h7 h8 h9 h10 h11 h12 h13 : Nat) (x_g : Nat → Int32) (x_kept : Nat → Int32) (x_saved : Nat → Int32) (x_before : Nat → Int32) (x_was : Nat → Int32) (x_region : Nat → Int32) (x_parts : Nat → Int64) (x_next : Nat → Int64) (x_ways : Nat → Int32) (x_more : Nat → Int32) (x_whole : Int64) (x_isSaved : Int32) (x_changes : Int32) (x_isWithin : Int32) (x_code : Int32) (x_input : Nat → Int32) (x_length : Int32) (x_fault : Int32) (x_failed : Int32) (x_signs : Nat → Int32) (x_signMany : Int32) (x_at : Int32) (x_told : Nat → Int32) (x_toldMany : Int32) {res : Int32 × (Nat → Int32)} (hf : f_X13_regions x_g x_region = some res) : CI l yX13_regions wsX13_regions rm_X13_regions g [.ref h0] (w_X13 g h0 h1 h2 h3 h4 h5 h6 h7 h8 h9 h10 h11 h12 h13 x_g x_kept x_saved x_before x_was x_region x_parts x_next x_ways x_more x_whole x_isSaved x_changes x_isWithin x_code x_input x_length x_fault x_failed x_signs x_signMany x_at x_told x_toldMany) (w_X13 g h0 h1 h2 h3 h4 h5 h6 h7 h8 h9 h10 h11 h12 h13 x_g x_kept x_saved x_before x_was res.2 x_parts x_next x_ways x_more x_whole x_isSaved x_changes x_isWithin x_code x_input x_length x_fault x_failed x_signs x_signMany x_at x_told x_toldMany) res.1 :=
  mkI (cc := cX13_regions) (maxL := 3) (by decide) rfl (Nat.le_of_ble_eq_true rfl) (fun p e s m args below meth c A H locs ls E hK hA hW hl => k_X13_regions_0 E hK hA hf hW hl)

/-! PaperStormModel.regionCount()I X13_regionCount -/
abbrev rm_X13_regionCount : Room := { frames := 5, cells := 0, slots := 0, locals := 108 }
theorem in_X13_regionCount_X13 : ∀ w ∈ wsX130, w ∈ wsX13_regionCount := by decide +kernel
theorem lk_X13_regionCount_58 : Cond.fieldLink RX13 58 "PaperStormModel" "code" "I" ∈ wsX13_regionCount := by decide +kernel
noncomputable def f_X13_regionCount (x_g : Nat → Int32) (x_region : Nat → Int32) (x_code : Int32) : Option (Int32 × (Nat → Int32) × Int32) :=
  (f_X13_regions x_g x_region).bind fun r6 => some (r6.1, r6.2, 0)
abbrev G_X13_regionCount (p : Program) (l : Launch) (e : Env) (s : State) (m : MethodId) (args : Array Value) (below : List Frame) (meth : Method) (c : Code) (g : GE) (A : Nat → Prop) (h0 h1 h2 h3 h4 h5 h6 h7 h8 h9 h10 h11 h12 h13 : Nat) (x_g : Nat → Int32) (x_kept : Nat → Int32) (x_saved : Nat → Int32) (x_before : Nat → Int32) (x_was : Nat → Int32) (x_parts : Nat → Int64) (x_next : Nat → Int64) (x_ways : Nat → Int32) (x_more : Nat → Int32) (x_whole : Int64) (x_isSaved : Int32) (x_changes : Int32) (x_isWithin : Int32) (x_input : Nat → Int32) (x_length : Int32) (x_fault : Int32) (x_failed : Int32) (x_signs : Nat → Int32) (x_signMany : Int32) (x_at : Int32) (x_told : Nat → Int32) (x_toldMany : Int32) (res : Int32 × (Nat → Int32) × Int32) (H : Heap) (locs : List Loc) (pc : Nat) (ls : Array Slot) (st : List Value) : Prop := W p l e (headSpec wsX13_regionCount rm_X13_regionCount).room s m args below meth c H locs 0 0 (MQ below (PoI g A (w_X13 g h0 h1 h2 h3 h4 h5 h6 h7 h8 h9 h10 h11 h12 h13 x_g x_kept x_saved x_before x_was res.2.1 x_parts x_next x_ways x_more x_whole x_isSaved x_changes x_isWithin res.2.2 x_input x_length x_fault x_failed x_signs x_signMany x_at x_told x_toldMany) res.1) args s 0 0 A) (F0 m pc ls st)
set_option maxHeartbeats 4000000 in
set_option maxRecDepth 100000 in
theorem k_X13_regionCount_0 {p : Program} {l : Launch} {e : Env} {s : State} {m : MethodId} {args : Array Value} {below : List Frame} {meth : Method} {c : Code} {g : GE} {A : Nat → Prop} {h0 h1 h2 h3 h4 h5 h6 h7 h8 h9 h10 h11 h12 h13 : Nat} {x_g : Nat → Int32} {x_kept : Nat → Int32} {x_saved : Nat → Int32} {x_before : Nat → Int32} {x_was : Nat → Int32} {x_region : Nat → Int32} {x_parts : Nat → Int64} {x_next : Nat → Int64} {x_ways : Nat → Int32} {x_more : Nat → Int32} {x_whole : Int64} {x_isSaved : Int32} {x_changes : Int32} {x_isWithin : Int32} {x_code : Int32} {x_input : Nat → Int32} {x_length : Int32} {x_fault : Int32} {x_failed : Int32} {x_signs : Nat → Int32} {x_signMany : Int32} {x_at : Int32} {x_told : Nat → Int32} {x_toldMany : Int32} {res : Int32 × (Nat → Int32) × Int32} {H : Heap} {locs : List Loc} {ls : Array Slot} 
    (E : En cX13_regionCount RX13 wsX13_regionCount 1 (some .int) p s m args meth c) (hK : KK g s) (hA : ∀ q, s.heap.size ≤ q → A q) (h : f_X13_regionCount x_g x_region x_code = some res) (hW : Wo g A s H locs (w_X13 g h0 h1 h2 h3 h4 h5 h6 h7 h8 h9 h10 h11 h12 h13 x_g x_kept x_saved x_before x_was x_region x_parts x_next x_ways x_more x_whole x_isSaved x_changes x_isWithin x_code x_input x_length x_fault x_failed x_signs x_signMany x_at x_told x_toldMany)) (hl : lv_has ls 1 [(0, .ref h0)]) : G_X13_regionCount p l e s m args below meth c g A h0 h1 h2 h3 h4 h5 h6 h7 h8 h9 h10 h11 h12 h13 x_g x_kept x_saved x_before x_was x_parts x_next x_ways x_more x_whole x_isSaved x_changes x_isWithin x_input x_length x_fault x_failed x_signs x_signMany x_at x_told x_toldMany res H locs 0 ls [] := by
  have hts := E.2.2.2.1
  unfold f_X13_regionCount at h
  refine lv_aload_n E.1 E.2.1 dX13_regionCount_0 rfl (lv_at hl 0 rfl) ?_
  refine lv_iconst (v := 0) E.1 E.2.1 dX13_regionCount_1 (by decide) ?_
  refine wPut (world' := (w_X13 g h0 h1 h2 h3 h4 h5 h6 h7 h8 h9 h10 h11 h12 h13 x_g x_kept x_saved x_before x_was x_region x_parts x_next x_ways x_more x_whole x_isSaved x_changes x_isWithin 0 x_input x_length x_fault x_failed x_signs x_signMany x_at x_told x_toldMany)) E hK in_X13_regionCount_X13 tyX13 tyX13_ok nmX13 hW 14 lk_X13_regionCount_58 0 rfl rfl (by decide) rfl rfl rfl rfl rfl (Nat.le_of_ble_eq_true rfl) dX13_regionCount_2 rfl (fun H locs hW => ?_)
  refine lv_aload_n E.1 E.2.1 dX13_regionCount_5 rfl (lv_at hl 0 rfl) ?_
  obtain ⟨r6, hc, h⟩ := bx h
  refine goI (world' := (w_X13 g h0 h1 h2 h3 h4 h5 h6 h7 h8 h9 h10 h11 h12 h13 x_g x_kept x_saved x_before x_was r6.2 x_parts x_next x_ways x_more x_whole x_isSaved x_changes x_isWithin 0 x_input x_length x_fault x_failed x_signs x_signMany x_at x_told x_toldMany)) hW hA (is := [0, 1, 2, 3, 4, 5, 6, 7, 8, 9, 10, 11, 12, 13]) rfl (goV (rest := []) E hK hW [0, 1, 2, 3, 4, 5, 6, 7, 8, 9, 10, 11, 12, 13] rfl rfl (c_X13_regions l g h0 h1 h2 h3 h4 h5 h6 h7 h8 h9 h10 h11 h12 h13 x_g x_kept x_saved x_before x_was x_region x_parts x_next x_ways x_more x_whole x_isSaved x_changes x_isWithin 0 x_input x_length x_fault x_failed x_signs x_signMany x_at x_told x_toldMany (hf := hc) H.size) (cwV 0 hts gX13_regionCount_X13_regions rfl rfl rfl (by decide +kernel) ⟨Nat.le_of_ble_eq_true rfl, Nat.le_of_ble_eq_true rfl⟩) 0 rfl rfl rfl hl.1 rfl rfl (Nat.le_of_ble_eq_true rfl) dX13_regionCount_6 ⟨Nat.zero_le _, Nat.zero_le _⟩) rfl rfl (fun H locs hW => ?_)
  obtain rfl := Option.some.inj h
  exact endI E rfl hW dX13_regionCount_9
theorem c_X13_regionCount (l : Launch) (g : GE) (h0 h1 h2 h3 h4 h5 h6 h7 h8 h9 h10 h11 h12 h13 : Nat) (x_g : Nat → Int32) (x_kept : Nat → Int32) (x_saved : Nat → Int32) (x_before : Nat → Int32) (x_was : Nat → Int32) (x_region : Nat → Int32) (x_parts : Nat → Int64) (x_next : Nat → Int64) (x_ways : Nat → Int32) (x_more : Nat → Int32) (x_whole : Int64) (x_isSaved : Int32) (x_changes : Int32) (x_isWithin : Int32) (x_code : Int32) (x_input : Nat → Int32) (x_length : Int32) (x_fault : Int32) (x_failed : Int32) (x_signs : Nat → Int32) (x_signMany : Int32) (x_at : Int32) (x_told : Nat → Int32) (x_toldMany : Int32) {res : Int32 × (Nat → Int32) × Int32} (hf : f_X13_regionCount x_g x_region x_code = some res) : CI l yX13_regionCount wsX13_regionCount rm_X13_regionCount g [.ref h0] (w_X13 g h0 h1 h2 h3 h4 h5 h6 h7 h8 h9 h10 h11 h12 h13 x_g x_kept x_saved x_before x_was x_region x_parts x_next x_ways x_more x_whole x_isSaved x_changes x_isWithin x_code x_input x_length x_fault x_failed x_signs x_signMany x_at x_told x_toldMany) (w_X13 g h0 h1 h2 h3 h4 h5 h6 h7 h8 h9 h10 h11 h12 h13 x_g x_kept x_saved x_before x_was res.2.1 x_parts x_next x_ways x_more x_whole x_isSaved x_changes x_isWithin res.2.2 x_input x_length x_fault x_failed x_signs x_signMany x_at x_told x_toldMany) res.1 :=
  mkI (cc := cX13_regionCount) (maxL := 1) (by decide) rfl (Nat.le_of_ble_eq_true rfl) (fun p e s m args below meth c A H locs ls E hK hA hW hl => k_X13_regionCount_0 E hK hA hf hW hl)

/-! PaperStormModel.regionCountByUnion()I X13_regionCountByUnion -/
abbrev rm_X13_regionCountByUnion : Room := { frames := 5, cells := 0, slots := 0, locals := 108 }
theorem in_X13_regionCountByUnion_X13 : ∀ w ∈ wsX130, w ∈ wsX13_regionCountByUnion := by decide +kernel
theorem lk_X13_regionCountByUnion_58 : Cond.fieldLink RX13 58 "PaperStormModel" "code" "I" ∈ wsX13_regionCountByUnion := by decide +kernel
noncomputable def f_X13_regionCountByUnion (x_g : Nat → Int32) (x_region : Nat → Int32) (x_code : Int32) : Option (Int32 × (Nat → Int32) × Int32) :=
  (f_X13_regions x_g x_region).bind fun r6 => some (r6.1, r6.2, 0)
abbrev G_X13_regionCountByUnion (p : Program) (l : Launch) (e : Env) (s : State) (m : MethodId) (args : Array Value) (below : List Frame) (meth : Method) (c : Code) (g : GE) (A : Nat → Prop) (h0 h1 h2 h3 h4 h5 h6 h7 h8 h9 h10 h11 h12 h13 : Nat) (x_g : Nat → Int32) (x_kept : Nat → Int32) (x_saved : Nat → Int32) (x_before : Nat → Int32) (x_was : Nat → Int32) (x_parts : Nat → Int64) (x_next : Nat → Int64) (x_ways : Nat → Int32) (x_more : Nat → Int32) (x_whole : Int64) (x_isSaved : Int32) (x_changes : Int32) (x_isWithin : Int32) (x_input : Nat → Int32) (x_length : Int32) (x_fault : Int32) (x_failed : Int32) (x_signs : Nat → Int32) (x_signMany : Int32) (x_at : Int32) (x_told : Nat → Int32) (x_toldMany : Int32) (res : Int32 × (Nat → Int32) × Int32) (H : Heap) (locs : List Loc) (pc : Nat) (ls : Array Slot) (st : List Value) : Prop := W p l e (headSpec wsX13_regionCountByUnion rm_X13_regionCountByUnion).room s m args below meth c H locs 0 0 (MQ below (PoI g A (w_X13 g h0 h1 h2 h3 h4 h5 h6 h7 h8 h9 h10 h11 h12 h13 x_g x_kept x_saved x_before x_was res.2.1 x_parts x_next x_ways x_more x_whole x_isSaved x_changes x_isWithin res.2.2 x_input x_length x_fault x_failed x_signs x_signMany x_at x_told x_toldMany) res.1) args s 0 0 A) (F0 m pc ls st)
set_option maxHeartbeats 4000000 in
set_option maxRecDepth 100000 in
theorem k_X13_regionCountByUnion_0 {p : Program} {l : Launch} {e : Env} {s : State} {m : MethodId} {args : Array Value} {below : List Frame} {meth : Method} {c : Code} {g : GE} {A : Nat → Prop} {h0 h1 h2 h3 h4 h5 h6 h7 h8 h9 h10 h11 h12 h13 : Nat} {x_g : Nat → Int32} {x_kept : Nat → Int32} {x_saved : Nat → Int32} {x_before : Nat → Int32} {x_was : Nat → Int32} {x_region : Nat → Int32} {x_parts : Nat → Int64} {x_next : Nat → Int64} {x_ways : Nat → Int32} {x_more : Nat → Int32} {x_whole : Int64} {x_isSaved : Int32} {x_changes : Int32} {x_isWithin : Int32} {x_code : Int32} {x_input : Nat → Int32} {x_length : Int32} {x_fault : Int32} {x_failed : Int32} {x_signs : Nat → Int32} {x_signMany : Int32} {x_at : Int32} {x_told : Nat → Int32} {x_toldMany : Int32} {res : Int32 × (Nat → Int32) × Int32} {H : Heap} {locs : List Loc} {ls : Array Slot} 
    (E : En cX13_regionCountByUnion RX13 wsX13_regionCountByUnion 1 (some .int) p s m args meth c) (hK : KK g s) (hA : ∀ q, s.heap.size ≤ q → A q) (h : f_X13_regionCountByUnion x_g x_region x_code = some res) (hW : Wo g A s H locs (w_X13 g h0 h1 h2 h3 h4 h5 h6 h7 h8 h9 h10 h11 h12 h13 x_g x_kept x_saved x_before x_was x_region x_parts x_next x_ways x_more x_whole x_isSaved x_changes x_isWithin x_code x_input x_length x_fault x_failed x_signs x_signMany x_at x_told x_toldMany)) (hl : lv_has ls 1 [(0, .ref h0)]) : G_X13_regionCountByUnion p l e s m args below meth c g A h0 h1 h2 h3 h4 h5 h6 h7 h8 h9 h10 h11 h12 h13 x_g x_kept x_saved x_before x_was x_parts x_next x_ways x_more x_whole x_isSaved x_changes x_isWithin x_input x_length x_fault x_failed x_signs x_signMany x_at x_told x_toldMany res H locs 0 ls [] := by
  have hts := E.2.2.2.1
  unfold f_X13_regionCountByUnion at h
  refine lv_aload_n E.1 E.2.1 dX13_regionCountByUnion_0 rfl (lv_at hl 0 rfl) ?_
  refine lv_iconst (v := 0) E.1 E.2.1 dX13_regionCountByUnion_1 (by decide) ?_
  refine wPut (world' := (w_X13 g h0 h1 h2 h3 h4 h5 h6 h7 h8 h9 h10 h11 h12 h13 x_g x_kept x_saved x_before x_was x_region x_parts x_next x_ways x_more x_whole x_isSaved x_changes x_isWithin 0 x_input x_length x_fault x_failed x_signs x_signMany x_at x_told x_toldMany)) E hK in_X13_regionCountByUnion_X13 tyX13 tyX13_ok nmX13 hW 14 lk_X13_regionCountByUnion_58 0 rfl rfl (by decide) rfl rfl rfl rfl rfl (Nat.le_of_ble_eq_true rfl) dX13_regionCountByUnion_2 rfl (fun H locs hW => ?_)
  refine lv_aload_n E.1 E.2.1 dX13_regionCountByUnion_5 rfl (lv_at hl 0 rfl) ?_
  obtain ⟨r6, hc, h⟩ := bx h
  refine goI (world' := (w_X13 g h0 h1 h2 h3 h4 h5 h6 h7 h8 h9 h10 h11 h12 h13 x_g x_kept x_saved x_before x_was r6.2 x_parts x_next x_ways x_more x_whole x_isSaved x_changes x_isWithin 0 x_input x_length x_fault x_failed x_signs x_signMany x_at x_told x_toldMany)) hW hA (is := [0, 1, 2, 3, 4, 5, 6, 7, 8, 9, 10, 11, 12, 13]) rfl (goV (rest := []) E hK hW [0, 1, 2, 3, 4, 5, 6, 7, 8, 9, 10, 11, 12, 13] rfl rfl (c_X13_regions l g h0 h1 h2 h3 h4 h5 h6 h7 h8 h9 h10 h11 h12 h13 x_g x_kept x_saved x_before x_was x_region x_parts x_next x_ways x_more x_whole x_isSaved x_changes x_isWithin 0 x_input x_length x_fault x_failed x_signs x_signMany x_at x_told x_toldMany (hf := hc) H.size) (cwV 0 hts gX13_regionCountByUnion_X13_regions rfl rfl rfl (by decide +kernel) ⟨Nat.le_of_ble_eq_true rfl, Nat.le_of_ble_eq_true rfl⟩) 0 rfl rfl rfl hl.1 rfl rfl (Nat.le_of_ble_eq_true rfl) dX13_regionCountByUnion_6 ⟨Nat.zero_le _, Nat.zero_le _⟩) rfl rfl (fun H locs hW => ?_)
  obtain rfl := Option.some.inj h
  exact endI E rfl hW dX13_regionCountByUnion_9
theorem c_X13_regionCountByUnion (l : Launch) (g : GE) (h0 h1 h2 h3 h4 h5 h6 h7 h8 h9 h10 h11 h12 h13 : Nat) (x_g : Nat → Int32) (x_kept : Nat → Int32) (x_saved : Nat → Int32) (x_before : Nat → Int32) (x_was : Nat → Int32) (x_region : Nat → Int32) (x_parts : Nat → Int64) (x_next : Nat → Int64) (x_ways : Nat → Int32) (x_more : Nat → Int32) (x_whole : Int64) (x_isSaved : Int32) (x_changes : Int32) (x_isWithin : Int32) (x_code : Int32) (x_input : Nat → Int32) (x_length : Int32) (x_fault : Int32) (x_failed : Int32) (x_signs : Nat → Int32) (x_signMany : Int32) (x_at : Int32) (x_told : Nat → Int32) (x_toldMany : Int32) {res : Int32 × (Nat → Int32) × Int32} (hf : f_X13_regionCountByUnion x_g x_region x_code = some res) : CI l yX13_regionCountByUnion wsX13_regionCountByUnion rm_X13_regionCountByUnion g [.ref h0] (w_X13 g h0 h1 h2 h3 h4 h5 h6 h7 h8 h9 h10 h11 h12 h13 x_g x_kept x_saved x_before x_was x_region x_parts x_next x_ways x_more x_whole x_isSaved x_changes x_isWithin x_code x_input x_length x_fault x_failed x_signs x_signMany x_at x_told x_toldMany) (w_X13 g h0 h1 h2 h3 h4 h5 h6 h7 h8 h9 h10 h11 h12 h13 x_g x_kept x_saved x_before x_was res.2.1 x_parts x_next x_ways x_more x_whole x_isSaved x_changes x_isWithin res.2.2 x_input x_length x_fault x_failed x_signs x_signMany x_at x_told x_toldMany) res.1 :=
  mkI (cc := cX13_regionCountByUnion) (maxL := 1) (by decide) rfl (Nat.le_of_ble_eq_true rfl) (fun p e s m args below meth c A H locs ls E hK hA hW hl => k_X13_regionCountByUnion_0 E hK hA hf hW hl)

/-! PaperStormModel.regionSize(II)I X13_regionSize -/
abbrev rm_X13_regionSize : Room := { frames := 4, cells := 0, slots := 0, locals := 86 }
theorem in_X13_regionSize_X13 : ∀ w ∈ wsX130, w ∈ wsX13_regionSize := by decide +kernel
theorem lk_X13_regionSize_25 : Cond.fieldLink RX13 25 "PaperStormModel" "region" "[I" ∈ wsX13_regionSize := by decide +kernel
noncomputable def f_X13_regionSize_31 (x_region : Nat → Int32) (l1 : Int32) (l2 : Int32) (z72 : Int32 → Option (Int32 × (Nat → Int32) × Int32)) : Nat → Int32 → Int32 → Option (Int32 × (Nat → Int32) × Int32)
  | 0, _, _ => none
  | n + 1, l3_31, l4_31 => if 25 ≤ l4_31 then z72 l3_31 else jo (fun (s0_64 : Int32) (s1_64 : Int32) => f_X13_regionSize_31 x_region l1 l2 z72 n (s0_64 + s1_64) (l4_31 + 1)) (fun j64 => if l4_31 < 0 ∨ 25 ≤ l4_31.toNatClampNeg then none else if ((5 * l1) + l2) < 0 ∨ 25 ≤ ((5 * l1) + l2).toNatClampNeg then none else if (x_region l4_31.toNatClampNeg) = (x_region ((5 * l1) + l2).toNatClampNeg) then j64 l3_31 1 else j64 l3_31 0)
noncomputable def f_X13_regionSize (x_g : Nat → Int32) (x_region : Nat → Int32) (x_code : Int32) (a1 : Int32) (a2 : Int32) : Option (Int32 × (Nat → Int32) × Int32) :=
  jo (fun (s1_14 : Int32) => (f_X13_fails x_code s1_14).bind fun r14 => if r14.1 = 0 then (f_X13_parted x_g x_region).bind fun r23 => f_X13_regionSize_31 r23 a1 a2 (fun l3_72e => some (l3_72e, r23, r14.2)) 1000 0 0 else some (0, x_region, r14.2)) (fun j14 => (f_X13_isCell a1 a2).bind fun r3 => if r3 = 0 then j14 1 else j14 0)
abbrev G_X13_regionSize (p : Program) (l : Launch) (e : Env) (s : State) (m : MethodId) (args : Array Value) (below : List Frame) (meth : Method) (c : Code) (g : GE) (A : Nat → Prop) (h0 h1 h2 h3 h4 h5 h6 h7 h8 h9 h10 h11 h12 h13 : Nat) (x_g : Nat → Int32) (x_kept : Nat → Int32) (x_saved : Nat → Int32) (x_before : Nat → Int32) (x_was : Nat → Int32) (x_parts : Nat → Int64) (x_next : Nat → Int64) (x_ways : Nat → Int32) (x_more : Nat → Int32) (x_whole : Int64) (x_isSaved : Int32) (x_changes : Int32) (x_isWithin : Int32) (x_input : Nat → Int32) (x_length : Int32) (x_fault : Int32) (x_failed : Int32) (x_signs : Nat → Int32) (x_signMany : Int32) (x_at : Int32) (x_told : Nat → Int32) (x_toldMany : Int32) (res : Int32 × (Nat → Int32) × Int32) (H : Heap) (locs : List Loc) (pc : Nat) (ls : Array Slot) (st : List Value) : Prop := W p l e (headSpec wsX13_regionSize rm_X13_regionSize).room s m args below meth c H locs 0 0 (MQ below (PoI g A (w_X13 g h0 h1 h2 h3 h4 h5 h6 h7 h8 h9 h10 h11 h12 h13 x_g x_kept x_saved x_before x_was res.2.1 x_parts x_next x_ways x_more x_whole x_isSaved x_changes x_isWithin res.2.2 x_input x_length x_fault x_failed x_signs x_signMany x_at x_told x_toldMany) res.1) args s 0 0 A) (F0 m pc ls st)
set_option maxHeartbeats 4000000 in
set_option maxRecDepth 100000 in
theorem k_X13_regionSize_31 {p : Program} {l : Launch} {e : Env} {s : State} {m : MethodId} {args : Array Value} {below : List Frame} {meth : Method} {c : Code} {g : GE} {A : Nat → Prop} {h0 h1 h2 h3 h4 h5 h6 h7 h8 h9 h10 h11 h12 h13 : Nat} {x_g : Nat → Int32} {x_kept : Nat → Int32} {x_saved : Nat → Int32} {x_before : Nat → Int32} {x_was : Nat → Int32} {x_region : Nat → Int32} {x_parts : Nat → Int64} {x_next : Nat → Int64} {x_ways : Nat → Int32} {x_more : Nat → Int32} {x_whole : Int64} {x_isSaved : Int32} {x_changes : Int32} {x_isWithin : Int32} {x_code : Int32} {x_input : Nat → Int32} {x_length : Int32} {x_fault : Int32} {x_failed : Int32} {x_signs : Nat → Int32} {x_signMany : Int32} {x_at : Int32} {x_told : Nat → Int32} {x_toldMany : Int32} {res : Int32 × (Nat → Int32) × Int32} {l1 : Int32} {l2 : Int32} {z72 : Int32 → Option (Int32 × (Nat → Int32) × Int32)}
    (E : En cX13_regionSize RX13 wsX13_regionSize 5 (some .int) p s m args meth c) (hK : KK g s) (hA : ∀ q, s.heap.size ≤ q → A q)
    (hz72 : ∀ (l3_72e : Int32) (H : Heap) (locs : List Loc) (ls : Array Slot), z72 l3_72e = some res → Wo g A s H locs (w_X13 g h0 h1 h2 h3 h4 h5 h6 h7 h8 h9 h10 h11 h12 h13 x_g x_kept x_saved x_before x_was x_region x_parts x_next x_ways x_more x_whole x_isSaved x_changes x_isWithin x_code x_input x_length x_fault x_failed x_signs x_signMany x_at x_told x_toldMany) → lv_has ls 5 [(3, .int l3_72e)] → G_X13_regionSize p l e s m args below meth c g A h0 h1 h2 h3 h4 h5 h6 h7 h8 h9 h10 h11 h12 h13 x_g x_kept x_saved x_before x_was x_parts x_next x_ways x_more x_whole x_isSaved x_changes x_isWithin x_input x_length x_fault x_failed x_signs x_signMany x_at x_told x_toldMany res H locs 72 ls [])
    : ∀ (n : Nat) (l3_31 : Int32) (l4_31 : Int32) (H : Heap) (locs : List Loc) (ls : Array Slot), f_X13_regionSize_31 x_region l1 l2 z72 n l3_31 l4_31 = some res → Wo g A s H locs (w_X13 g h0 h1 h2 h3 h4 h5 h6 h7 h8 h9 h10 h11 h12 h13 x_g x_kept x_saved x_before x_was x_region x_parts x_next x_ways x_more x_whole x_isSaved x_changes x_isWithin x_code x_input x_length x_fault x_failed x_signs x_signMany x_at x_told x_toldMany) → lv_has ls 5 [(0, .ref h0), (1, .int l1), (2, .int l2), (3, .int l3_31), (4, .int l4_31)] → G_X13_regionSize p l e s m args below meth c g A h0 h1 h2 h3 h4 h5 h6 h7 h8 h9 h10 h11 h12 h13 x_g x_kept x_saved x_before x_was x_parts x_next x_ways x_more x_whole x_isSaved x_changes x_isWithin x_input x_length x_fault x_failed x_signs x_signMany x_at x_told x_toldMany res H locs 31 ls [] := by
  have hts := E.2.2.2.1
  intro n
  induction n with
  | zero => intro l3_31 l4_31 H locs ls h hW hl; rw [f_X13_regionSize_31] at h; cases h
  | succ n ih =>
    intro l3_31 l4_31 H locs ls h hW hl
    rw [f_X13_regionSize_31] at h
    refine lv_iload E.1 E.2.1 dX13_regionSize_31 (lv_at hl 4 rfl) ?_
    refine lv_bipush (v := 25) E.1 E.2.1 dX13_regionSize_33 (by decide) ?_
    refine lv_icmp_ge (tgt := 72) E.1 E.2.1 dX13_regionSize_35 (by decide) (fun c35 => ?_) (fun c35 => ?_)
    · have h := it c35 h
      exact hz72 l3_31 H locs ls h hW (lv_sub hl [3] rfl)
    · have h := ie c35 h
      obtain ⟨j64, hj64, h⟩ := jox2 h
      have J64 : ∀ (s0_64 : Int32) (s1_64 : Int32) (H : Heap) (locs : List Loc) (ls : Array Slot), j64 s0_64 s1_64 = some res → Wo g A s H locs (w_X13 g h0 h1 h2 h3 h4 h5 h6 h7 h8 h9 h10 h11 h12 h13 x_g x_kept x_saved x_before x_was x_region x_parts x_next x_ways x_more x_whole x_isSaved x_changes x_isWithin x_code x_input x_length x_fault x_failed x_signs x_signMany x_at x_told x_toldMany) → lv_has ls 5 [(0, .ref h0), (1, .int l1), (2, .int l2), (4, .int l4_31)] → G_X13_regionSize p l e s m args below meth c g A h0 h1 h2 h3 h4 h5 h6 h7 h8 h9 h10 h11 h12 h13 x_g x_kept x_saved x_before x_was x_parts x_next x_ways x_more x_whole x_isSaved x_changes x_isWithin x_input x_length x_fault x_failed x_signs x_signMany x_at x_told x_toldMany res H locs 64 ls [.int s1_64, .int s0_64] := by
        intro s0_64 s1_64 H locs ls h hW hl
        rw [hj64] at h
        refine lv_iadd E.1 E.2.1 dX13_regionSize_64 ?_
        refine lv_istore_n (lv' := [(3, .int (s0_64 + s1_64)), (0, .ref h0), (1, .int l1), (2, .int l2), (4, .int l4_31)]) E.1 E.2.1 dX13_regionSize_65 rfl hl (by decide) rfl (fun ls hl => ?_)
        refine lv_iinc (v := (l4_31 + 1)) (lv' := [(4, .int (l4_31 + 1)), (3, .int (s0_64 + s1_64)), (0, .ref h0), (1, .int l1), (2, .int l2)]) E.1 E.2.1 dX13_regionSize_66 hl (k := 4) rfl rfl (by decide) rfl (fun ls hl => ?_)
        refine lv_goto (tgt := 31) E.1 E.2.1 dX13_regionSize_69 (by decide) ?_
        exact ih (s0_64 + s1_64) (l4_31 + 1) H locs ls h hW (lv_sub hl [2, 3, 4, 1, 0] rfl)
      refine lv_iload_n E.1 E.2.1 dX13_regionSize_38 rfl (lv_at hl 3 rfl) ?_
      refine lv_aload_n E.1 E.2.1 dX13_regionSize_39 rfl (lv_at hl 0 rfl) ?_
      refine wGet (v := .ref h6) E hK in_X13_regionSize_X13 hW 5 lk_X13_regionSize_25 0 rfl rfl (by decide) rfl rfl dX13_regionSize_40 ?_
      refine lv_iload E.1 E.2.1 dX13_regionSize_43 (lv_at hl 4 rfl) ?_
      obtain ⟨hi45, h⟩ := ox h
      refine wIald E hK hW 6 rfl hi45 dX13_regionSize_45 ?_
      refine lv_aload_n E.1 E.2.1 dX13_regionSize_46 rfl (lv_at hl 0 rfl) ?_
      refine wGet (v := .ref h6) E hK in_X13_regionSize_X13 hW 5 lk_X13_regionSize_25 0 rfl rfl (by decide) rfl rfl dX13_regionSize_47 ?_
      refine lv_iconst (v := 5) E.1 E.2.1 dX13_regionSize_50 (by decide) ?_
      refine lv_iload_n E.1 E.2.1 dX13_regionSize_51 rfl (lv_at hl 1 rfl) ?_
      refine lv_imul E.1 E.2.1 dX13_regionSize_52 ?_
      refine lv_iload_n E.1 E.2.1 dX13_regionSize_53 rfl (lv_at hl 2 rfl) ?_
      refine lv_iadd E.1 E.2.1 dX13_regionSize_54 ?_
      obtain ⟨hi55, h⟩ := ox h
      refine wIald E hK hW 6 rfl hi55 dX13_regionSize_55 ?_
      refine lv_icmp_ne (tgt := 63) E.1 E.2.1 dX13_regionSize_56 (by decide) (fun c56 => ?_) (fun c56 => ?_)
      · have h := ie c56 h
        refine lv_iconst (v := 0) E.1 E.2.1 dX13_regionSize_63 (by decide) ?_
        exact J64 l3_31 0 H locs ls h hW (lv_sub hl [0, 1, 2, 4] rfl)
      · have h := it c56 h
        refine lv_iconst (v := 1) E.1 E.2.1 dX13_regionSize_59 (by decide) ?_
        refine lv_goto (tgt := 64) E.1 E.2.1 dX13_regionSize_60 (by decide) ?_
        exact J64 l3_31 1 H locs ls h hW (lv_sub hl [0, 1, 2, 4] rfl)
set_option maxHeartbeats 4000000 in
set_option maxRecDepth 100000 in
theorem k_X13_regionSize_0 {p : Program} {l : Launch} {e : Env} {s : State} {m : MethodId} {args : Array Value} {below : List Frame} {meth : Method} {c : Code} {g : GE} {A : Nat → Prop} {h0 h1 h2 h3 h4 h5 h6 h7 h8 h9 h10 h11 h12 h13 : Nat} {x_g : Nat → Int32} {x_kept : Nat → Int32} {x_saved : Nat → Int32} {x_before : Nat → Int32} {x_was : Nat → Int32} {x_region : Nat → Int32} {x_parts : Nat → Int64} {x_next : Nat → Int64} {x_ways : Nat → Int32} {x_more : Nat → Int32} {x_whole : Int64} {x_isSaved : Int32} {x_changes : Int32} {x_isWithin : Int32} {x_code : Int32} {x_input : Nat → Int32} {x_length : Int32} {x_fault : Int32} {x_failed : Int32} {x_signs : Nat → Int32} {x_signMany : Int32} {x_at : Int32} {x_told : Nat → Int32} {x_toldMany : Int32} {res : Int32 × (Nat → Int32) × Int32} {H : Heap} {locs : List Loc} {ls : Array Slot} {a1 : Int32} {a2 : Int32}
    (E : En cX13_regionSize RX13 wsX13_regionSize 5 (some .int) p s m args meth c) (hK : KK g s) (hA : ∀ q, s.heap.size ≤ q → A q) (h : f_X13_regionSize x_g x_region x_code a1 a2 = some res) (hW : Wo g A s H locs (w_X13 g h0 h1 h2 h3 h4 h5 h6 h7 h8 h9 h10 h11 h12 h13 x_g x_kept x_saved x_before x_was x_region x_parts x_next x_ways x_more x_whole x_isSaved x_changes x_isWithin x_code x_input x_length x_fault x_failed x_signs x_signMany x_at x_told x_toldMany)) (hl : lv_has ls 5 [(0, .ref h0), (1, .int a1), (2, .int a2)]) : G_X13_regionSize p l e s m args below meth c g A h0 h1 h2 h3 h4 h5 h6 h7 h8 h9 h10 h11 h12 h13 x_g x_kept x_saved x_before x_was x_parts x_next x_ways x_more x_whole x_isSaved x_changes x_isWithin x_input x_length x_fault x_failed x_signs x_signMany x_at x_told x_toldMany res H locs 0 ls [] := by
  have hts := E.2.2.2.1
  unfold f_X13_regionSize at h
  obtain ⟨j14, hj14, h⟩ := jox1 h
  have J14 : ∀ (s1_14 : Int32) (H : Heap) (locs : List Loc) (ls : Array Slot), j14 s1_14 = some res → Wo g A s H locs (w_X13 g h0 h1 h2 h3 h4 h5 h6 h7 h8 h9 h10 h11 h12 h13 x_g x_kept x_saved x_before x_was x_region x_parts x_next x_ways x_more x_whole x_isSaved x_changes x_isWithin x_code x_input x_length x_fault x_failed x_signs x_signMany x_at x_told x_toldMany) → lv_has ls 5 [(0, .ref h0), (1, .int a1), (2, .int a2)] → G_X13_regionSize p l e s m args below meth c g A h0 h1 h2 h3 h4 h5 h6 h7 h8 h9 h10 h11 h12 h13 x_g x_kept x_saved x_before x_was x_parts x_next x_ways x_more x_whole x_isSaved x_changes x_isWithin x_input x_length x_fault x_failed x_signs x_signMany x_at x_told x_toldMany res H locs 14 ls [.int s1_14, .ref h0] := by
    intro s1_14 H locs ls h hW hl
    rw [hj14] at h
    obtain ⟨r14, hc, h⟩ := bx h
    refine goI (world' := (w_X13 g h0 h1 h2 h3 h4 h5 h6 h7 h8 h9 h10 h11 h12 h13 x_g x_kept x_saved x_before x_was x_region x_parts x_next x_ways x_more x_whole x_isSaved x_changes x_isWithin r14.2 x_input x_length x_fault x_failed x_signs x_signMany x_at x_told x_toldMany)) hW hA (is := [0, 1, 2, 3, 4, 5, 6, 7, 8, 9, 10, 11, 12, 13]) rfl (goV (rest := []) E hK hW [0, 1, 2, 3, 4, 5, 6, 7, 8, 9, 10, 11, 12, 13] rfl rfl (c_X13_fails l g h0 h1 h2 h3 h4 h5 h6 h7 h8 h9 h10 h11 h12 h13 x_g x_kept x_saved x_before x_was x_region x_parts x_next x_ways x_more x_whole x_isSaved x_changes x_isWithin x_code x_input x_length x_fault x_failed x_signs x_signMany x_at x_told x_toldMany s1_14 (hf := hc) H.size) (cwV 1 hts gX13_regionSize_X13_fails rfl rfl rfl (by decide +kernel) ⟨Nat.le_of_ble_eq_true rfl, Nat.le_of_ble_eq_true rfl⟩) 0 rfl rfl rfl hl.1 rfl rfl (Nat.le_of_ble_eq_true rfl) dX13_regionSize_14 ⟨Nat.zero_le _, Nat.zero_le _⟩) rfl rfl (fun H locs hW => ?_)
    refine lv_if_eq (tgt := 22) E.1 E.2.1 dX13_regionSize_17 (by decide) (fun c17 => ?_) (fun c17 => ?_)
    · have h := it c17 h
      refine lv_aload_n E.1 E.2.1 dX13_regionSize_22 rfl (lv_at hl 0 rfl) ?_
      obtain ⟨r23, hc, h⟩ := bx h
      refine goU (world' := (w_X13 g h0 h1 h2 h3 h4 h5 h6 h7 h8 h9 h10 h11 h12 h13 x_g x_kept x_saved x_before x_was r23 x_parts x_next x_ways x_more x_whole x_isSaved x_changes x_isWithin r14.2 x_input x_length x_fault x_failed x_signs x_signMany x_at x_told x_toldMany)) hW hA (is := [0, 1, 2, 3, 4, 5, 6, 7, 8, 9, 10, 11, 12, 13]) rfl (goV (rest := []) E hK hW [0, 1, 2, 3, 4, 5, 6, 7, 8, 9, 10, 11, 12, 13] rfl rfl (c_X13_parted l g h0 h1 h2 h3 h4 h5 h6 h7 h8 h9 h10 h11 h12 h13 x_g x_kept x_saved x_before x_was x_region x_parts x_next x_ways x_more x_whole x_isSaved x_changes x_isWithin r14.2 x_input x_length x_fault x_failed x_signs x_signMany x_at x_told x_toldMany (hf := hc) H.size) (cwV 0 hts gX13_regionSize_X13_parted rfl rfl rfl (by decide +kernel) ⟨Nat.le_of_ble_eq_true rfl, Nat.le_of_ble_eq_true rfl⟩) 0 rfl rfl rfl hl.1 rfl rfl (Nat.le_of_ble_eq_true rfl) dX13_regionSize_23 ⟨Nat.zero_le _, Nat.zero_le _⟩) rfl rfl (fun H locs hW => ?_)
      refine lv_iconst (v := 0) E.1 E.2.1 dX13_regionSize_26 (by decide) ?_
      refine lv_istore_n (lv' := [(3, .int 0), (0, .ref h0), (1, .int a1), (2, .int a2)]) E.1 E.2.1 dX13_regionSize_27 rfl hl (by decide) rfl (fun ls hl => ?_)
      refine lv_iconst (v := 0) E.1 E.2.1 dX13_regionSize_28 (by decide) ?_
      refine lv_istore (lv' := [(4, .int 0), (3, .int 0), (0, .ref h0), (1, .int a1), (2, .int a2)]) E.1 E.2.1 dX13_regionSize_29 hl (by decide) rfl (fun ls hl => ?_)
      refine k_X13_regionSize_31 E hK hA ?_ 1000 0 0 H locs ls h hW (lv_sub hl [2, 3, 4, 1, 0] rfl)
      · intro l3_72e H locs ls h hW hl
        refine lv_iload_n E.1 E.2.1 dX13_regionSize_72 rfl (lv_at hl 0 rfl) ?_
        obtain rfl := Option.some.inj h
        exact endI E rfl hW dX13_regionSize_73
    · have h := ie c17 h
      refine lv_iconst (v := 0) E.1 E.2.1 dX13_regionSize_20 (by decide) ?_
      obtain rfl := Option.some.inj h
      exact endI E rfl hW dX13_regionSize_21
  refine lv_aload_n E.1 E.2.1 dX13_regionSize_0 rfl (lv_at hl 0 rfl) ?_
  refine lv_iload_n E.1 E.2.1 dX13_regionSize_1 rfl (lv_at hl 1 rfl) ?_
  refine lv_iload_n E.1 E.2.1 dX13_regionSize_2 rfl (lv_at hl 2 rfl) ?_
  obtain ⟨r3, hc, h⟩ := bx h
  refine goI (world' := (w_X13 g h0 h1 h2 h3 h4 h5 h6 h7 h8 h9 h10 h11 h12 h13 x_g x_kept x_saved x_before x_was x_region x_parts x_next x_ways x_more x_whole x_isSaved x_changes x_isWithin x_code x_input x_length x_fault x_failed x_signs x_signMany x_at x_told x_toldMany)) hW hA (is := []) rfl (goS (rest := [.ref h0]) E hK hW [] rfl rfl (c_X13_isCell l g a1 a2 (hf := hc) H.size) (va_cwS 2 hts gX13_regionSize_X13_isCell rfl rfl rfl (by decide +kernel) ⟨Nat.le_of_ble_eq_true rfl, Nat.le_of_ble_eq_true rfl⟩) hl.1 rfl rfl (Nat.le_of_ble_eq_true rfl) dX13_regionSize_3 ⟨Nat.zero_le _, Nat.zero_le _⟩) rfl rfl (fun H locs hW => ?_)
  refine lv_if_eq (tgt := 13) E.1 E.2.1 dX13_regionSize_6 (by decide) (fun c6 => ?_) (fun c6 => ?_)
  · have h := it c6 h
    refine lv_iconst (v := 1) E.1 E.2.1 dX13_regionSize_13 (by decide) ?_
    exact J14 1 H locs ls h hW (lv_sub hl [0, 1, 2] rfl)
  · have h := ie c6 h
    refine lv_iconst (v := 0) E.1 E.2.1 dX13_regionSize_9 (by decide) ?_
    refine lv_goto (tgt := 14) E.1 E.2.1 dX13_regionSize_10 (by decide) ?_
    exact J14 0 H locs ls h hW (lv_sub hl [0, 1, 2] rfl)
theorem c_X13_regionSize (l : Launch) (g : GE) (h0 h1 h2 h3 h4 h5 h6 h7 h8 h9 h10 h11 h12 h13 : Nat) (x_g : Nat → Int32) (x_kept : Nat → Int32) (x_saved : Nat → Int32) (x_before : Nat → Int32) (x_was : Nat → Int32) (x_region : Nat → Int32) (x_parts : Nat → Int64) (x_next : Nat → Int64) (x_ways : Nat → Int32) (x_more : Nat → Int32) (x_whole : Int64) (x_isSaved : Int32) (x_changes : Int32) (x_isWithin : Int32) (x_code : Int32) (x_input : Nat → Int32) (x_length : Int32) (x_fault : Int32) (x_failed : Int32) (x_signs : Nat → Int32) (x_signMany : Int32) (x_at : Int32) (x_told : Nat → Int32) (x_toldMany : Int32) (a1 : Int32) (a2 : Int32) {res : Int32 × (Nat → Int32) × Int32} (hf : f_X13_regionSize x_g x_region x_code a1 a2 = some res) : CI l yX13_regionSize wsX13_regionSize rm_X13_regionSize g [.ref h0, .int a1, .int a2] (w_X13 g h0 h1 h2 h3 h4 h5 h6 h7 h8 h9 h10 h11 h12 h13 x_g x_kept x_saved x_before x_was x_region x_parts x_next x_ways x_more x_whole x_isSaved x_changes x_isWithin x_code x_input x_length x_fault x_failed x_signs x_signMany x_at x_told x_toldMany) (w_X13 g h0 h1 h2 h3 h4 h5 h6 h7 h8 h9 h10 h11 h12 h13 x_g x_kept x_saved x_before x_was res.2.1 x_parts x_next x_ways x_more x_whole x_isSaved x_changes x_isWithin res.2.2 x_input x_length x_fault x_failed x_signs x_signMany x_at x_told x_toldMany) res.1 :=
  mkI (cc := cX13_regionSize) (maxL := 5) (by decide) rfl (Nat.le_of_ble_eq_true rfl) (fun p e s m args below meth c A H locs ls E hK hA hW hl => k_X13_regionSize_0 E hK hA hf hW hl)

/-! PaperStormModel.isSameRegion(IIII)Z X13_isSameRegion -/
abbrev rm_X13_isSameRegion : Room := { frames := 4, cells := 0, slots := 0, locals := 86 }
theorem in_X13_isSameRegion_X13 : ∀ w ∈ wsX130, w ∈ wsX13_isSameRegion := by decide +kernel
theorem lk_X13_isSameRegion_25 : Cond.fieldLink RX13 25 "PaperStormModel" "region" "[I" ∈ wsX13_isSameRegion := by decide +kernel
noncomputable def f_X13_isSameRegion (x_g : Nat → Int32) (x_region : Nat → Int32) (x_code : Int32) (a1 : Int32) (a2 : Int32) (a3 : Int32) (a4 : Int32) : Option (Int32 × (Nat → Int32) × Int32) :=
  jo (fun (s1_23 : Int32) => (f_X13_fails x_code s1_23).bind fun r23 => if r23.1 = 0 then jo (fun (x_region_64 : Nat → Int32) (s0_64 : Int32) => if ¬ vp_nar .boolean s0_64 = s0_64 then none else some (s0_64, x_region_64, r23.2)) (fun j64 => (f_X13_parted x_g x_region).bind fun r32 => if ((5 * a1) + a2) < 0 ∨ 25 ≤ ((5 * a1) + a2).toNatClampNeg then none else if ((5 * a3) + a4) < 0 ∨ 25 ≤ ((5 * a3) + a4).toNatClampNeg then none else if (r32 ((5 * a1) + a2).toNatClampNeg) = (r32 ((5 * a3) + a4).toNatClampNeg) then j64 r32 1 else j64 r32 0) else some (0, x_region, r23.2)) (fun j23 => jo (j23 1) (fun j22 => (f_X13_isCell a1 a2).bind fun r3 => if r3 = 0 then j22 else (f_X13_isCell a3 a4).bind fun r12 => if r12 = 0 then j22 else j23 0))
abbrev G_X13_isSameRegion (p : Program) (l : Launch) (e : Env) (s : State) (m : MethodId) (args : Array Value) (below : List Frame) (meth : Method) (c : Code) (g : GE) (A : Nat → Prop) (h0 h1 h2 h3 h4 h5 h6 h7 h8 h9 h10 h11 h12 h13 : Nat) (x_g : Nat → Int32) (x_kept : Nat → Int32) (x_saved : Nat → Int32) (x_before : Nat → Int32) (x_was : Nat → Int32) (x_parts : Nat → Int64) (x_next : Nat → Int64) (x_ways : Nat → Int32) (x_more : Nat → Int32) (x_whole : Int64) (x_isSaved : Int32) (x_changes : Int32) (x_isWithin : Int32) (x_input : Nat → Int32) (x_length : Int32) (x_fault : Int32) (x_failed : Int32) (x_signs : Nat → Int32) (x_signMany : Int32) (x_at : Int32) (x_told : Nat → Int32) (x_toldMany : Int32) (res : Int32 × (Nat → Int32) × Int32) (H : Heap) (locs : List Loc) (pc : Nat) (ls : Array Slot) (st : List Value) : Prop := W p l e (headSpec wsX13_isSameRegion rm_X13_isSameRegion).room s m args below meth c H locs 0 0 (MQ below (PoI g A (w_X13 g h0 h1 h2 h3 h4 h5 h6 h7 h8 h9 h10 h11 h12 h13 x_g x_kept x_saved x_before x_was res.2.1 x_parts x_next x_ways x_more x_whole x_isSaved x_changes x_isWithin res.2.2 x_input x_length x_fault x_failed x_signs x_signMany x_at x_told x_toldMany) res.1) args s 0 0 A) (F0 m pc ls st)
set_option maxHeartbeats 4000000 in
set_option maxRecDepth 100000 in
theorem k_X13_isSameRegion_0 {p : Program} {l : Launch} {e : Env} {s : State} {m : MethodId} {args : Array Value} {below : List Frame} {meth : Method} {c : Code} {g : GE} {A : Nat → Prop} {h0 h1 h2 h3 h4 h5 h6 h7 h8 h9 h10 h11 h12 h13 : Nat} {x_g : Nat → Int32} {x_kept : Nat → Int32} {x_saved : Nat → Int32} {x_before : Nat → Int32} {x_was : Nat → Int32} {x_region : Nat → Int32} {x_parts : Nat → Int64} {x_next : Nat → Int64} {x_ways : Nat → Int32} {x_more : Nat → Int32} {x_whole : Int64} {x_isSaved : Int32} {x_changes : Int32} {x_isWithin : Int32} {x_code : Int32} {x_input : Nat → Int32} {x_length : Int32} {x_fault : Int32} {x_failed : Int32} {x_signs : Nat → Int32} {x_signMany : Int32} {x_at : Int32} {x_told : Nat → Int32} {x_toldMany : Int32} {res : Int32 × (Nat → Int32) × Int32} {H : Heap} {locs : List Loc} {ls : Array Slot} {a1 : Int32} {a2 : Int32} {a3 : Int32} {a4 : Int32}
    (E : En cX13_isSameRegion RX13 wsX13_isSameRegion 5 (some .boolean) p s m args meth c) (hK : KK g s) (hA : ∀ q, s.heap.size ≤ q → A q) (h : f_X13_isSameRegion x_g x_region x_code a1 a2 a3 a4 = some res) (hW : Wo g A s H locs (w_X13 g h0 h1 h2 h3 h4 h5 h6 h7 h8 h9 h10 h11 h12 h13 x_g x_kept x_saved x_before x_was x_region x_parts x_next x_ways x_more x_whole x_isSaved x_changes x_isWithin x_code x_input x_length x_fault x_failed x_signs x_signMany x_at x_told x_toldMany)) (hl : lv_has ls 5 [(0, .ref h0), (1, .int a1), (2, .int a2), (3, .int a3), (4, .int a4)]) : G_X13_isSameRegion p l e s m args below meth c g A h0 h1 h2 h3 h4 h5 h6 h7 h8 h9 h10 h11 h12 h13 x_g x_kept x_saved x_before x_was x_parts x_next x_ways x_more x_whole x_isSaved x_changes x_isWithin x_input x_length x_fault x_failed x_signs x_signMany x_at x_told x_toldMany res H locs 0 ls [] := by
  have hts := E.2.2.2.1
  unfold f_X13_isSameRegion at h
  obtain ⟨j23, hj23, h⟩ := jox1 h
  have J23 : ∀ (s1_23 : Int32) (H : Heap) (locs : List Loc) (ls : Array Slot), j23 s1_23 = some res → Wo g A s H locs (w_X13 g h0 h1 h2 h3 h4 h5 h6 h7 h8 h9 h10 h11 h12 h13 x_g x_kept x_saved x_before x_was x_region x_parts x_next x_ways x_more x_whole x_isSaved x_changes x_isWithin x_code x_input x_length x_fault x_failed x_signs x_signMany x_at x_told x_toldMany) → lv_has ls 5 [(0, .ref h0), (1, .int a1), (2, .int a2), (3, .int a3), (4, .int a4)] → G_X13_isSameRegion p l e s m args below meth c g A h0 h1 h2 h3 h4 h5 h6 h7 h8 h9 h10 h11 h12 h13 x_g x_kept x_saved x_before x_was x_parts x_next x_ways x_more x_whole x_isSaved x_changes x_isWithin x_input x_length x_fault x_failed x_signs x_signMany x_at x_told x_toldMany res H locs 23 ls [.int s1_23, .ref h0] := by
    intro s1_23 H locs ls h hW hl
    rw [hj23] at h
    obtain ⟨r23, hc, h⟩ := bx h
    refine goI (world' := (w_X13 g h0 h1 h2 h3 h4 h5 h6 h7 h8 h9 h10 h11 h12 h13 x_g x_kept x_saved x_before x_was x_region x_parts x_next x_ways x_more x_whole x_isSaved x_changes x_isWithin r23.2 x_input x_length x_fault x_failed x_signs x_signMany x_at x_told x_toldMany)) hW hA (is := [0, 1, 2, 3, 4, 5, 6, 7, 8, 9, 10, 11, 12, 13]) rfl (goV (rest := []) E hK hW [0, 1, 2, 3, 4, 5, 6, 7, 8, 9, 10, 11, 12, 13] rfl rfl (c_X13_fails l g h0 h1 h2 h3 h4 h5 h6 h7 h8 h9 h10 h11 h12 h13 x_g x_kept x_saved x_before x_was x_region x_parts x_next x_ways x_more x_whole x_isSaved x_changes x_isWithin x_code x_input x_length x_fault x_failed x_signs x_signMany x_at x_told x_toldMany s1_23 (hf := hc) H.size) (cwV 1 hts gX13_isSameRegion_X13_fails rfl rfl rfl (by decide +kernel) ⟨Nat.le_of_ble_eq_true rfl, Nat.le_of_ble_eq_true rfl⟩) 0 rfl rfl rfl hl.1 rfl rfl (Nat.le_of_ble_eq_true rfl) dX13_isSameRegion_23 ⟨Nat.zero_le _, Nat.zero_le _⟩) rfl rfl (fun H locs hW => ?_)
    refine lv_if_eq (tgt := 31) E.1 E.2.1 dX13_isSameRegion_26 (by decide) (fun c26 => ?_) (fun c26 => ?_)
    · have h := it c26 h
      obtain ⟨j64, hj64, h⟩ := jox2 h
      have J64 : ∀ (x_region_64 : Nat → Int32) (s0_64 : Int32) (H : Heap) (locs : List Loc) (ls : Array Slot), j64 x_region_64 s0_64 = some res → Wo g A s H locs (w_X13 g h0 h1 h2 h3 h4 h5 h6 h7 h8 h9 h10 h11 h12 h13 x_g x_kept x_saved x_before x_was x_region_64 x_parts x_next x_ways x_more x_whole x_isSaved x_changes x_isWithin r23.2 x_input x_length x_fault x_failed x_signs x_signMany x_at x_told x_toldMany) → lv_has ls 5 [] → G_X13_isSameRegion p l e s m args below meth c g A h0 h1 h2 h3 h4 h5 h6 h7 h8 h9 h10 h11 h12 h13 x_g x_kept x_saved x_before x_was x_parts x_next x_ways x_more x_whole x_isSaved x_changes x_isWithin x_input x_length x_fault x_failed x_signs x_signMany x_at x_told x_toldMany res H locs 64 ls [.int s0_64] := by
        intro x_region_64 s0_64 H locs ls h hW hl
        rw [hj64] at h
        obtain ⟨hz, h⟩ := ox h
        obtain rfl := Option.some.inj h
        exact endI E (nar_z (Decidable.not_not.mp hz)) hW dX13_isSameRegion_64
      refine lv_aload_n E.1 E.2.1 dX13_isSameRegion_31 rfl (lv_at hl 0 rfl) ?_
      obtain ⟨r32, hc, h⟩ := bx h
      refine goU (world' := (w_X13 g h0 h1 h2 h3 h4 h5 h6 h7 h8 h9 h10 h11 h12 h13 x_g x_kept x_saved x_before x_was r32 x_parts x_next x_ways x_more x_whole x_isSaved x_changes x_isWithin r23.2 x_input x_length x_fault x_failed x_signs x_signMany x_at x_told x_toldMany)) hW hA (is := [0, 1, 2, 3, 4, 5, 6, 7, 8, 9, 10, 11, 12, 13]) rfl (goV (rest := []) E hK hW [0, 1, 2, 3, 4, 5, 6, 7, 8, 9, 10, 11, 12, 13] rfl rfl (c_X13_parted l g h0 h1 h2 h3 h4 h5 h6 h7 h8 h9 h10 h11 h12 h13 x_g x_kept x_saved x_before x_was x_region x_parts x_next x_ways x_more x_whole x_isSaved x_changes x_isWithin r23.2 x_input x_length x_fault x_failed x_signs x_signMany x_at x_told x_toldMany (hf := hc) H.size) (cwV 0 hts gX13_isSameRegion_X13_parted rfl rfl rfl (by decide +kernel) ⟨Nat.le_of_ble_eq_true rfl, Nat.le_of_ble_eq_true rfl⟩) 0 rfl rfl rfl hl.1 rfl rfl (Nat.le_of_ble_eq_true rfl) dX13_isSameRegion_32 ⟨Nat.zero_le _, Nat.zero_le _⟩) rfl rfl (fun H locs hW => ?_)
      refine lv_aload_n E.1 E.2.1 dX13_isSameRegion_35 rfl (lv_at hl 0 rfl) ?_
      refine wGet (v := .ref h6) E hK in_X13_isSameRegion_X13 hW 5 lk_X13_isSameRegion_25 0 rfl rfl (by decide) rfl rfl dX13_isSameRegion_36 ?_
      refine lv_iconst (v := 5) E.1 E.2.1 dX13_isSameRegion_39 (by decide) ?_
      refine lv_iload_n E.1 E.2.1 dX13_isSameRegion_40 rfl (lv_at hl 1 rfl) ?_
      refine lv_imul E.1 E.2.1 dX13_isSameRegion_41 ?_
      refine lv_iload_n E.1 E.2.1 dX13_isSameRegion_42 rfl (lv_at hl 2 rfl) ?_
      refine lv_iadd E.1 E.2.1 dX13_isSameRegion_43 ?_
      obtain ⟨hi44, h⟩ := ox h
      refine wIald E hK hW 6 rfl hi44 dX13_isSameRegion_44 ?_
      refine lv_aload_n E.1 E.2.1 dX13_isSameRegion_45 rfl (lv_at hl 0 rfl) ?_
      refine wGet (v := .ref h6) E hK in_X13_isSameRegion_X13 hW 5 lk_X13_isSameRegion_25 0 rfl rfl (by decide) rfl rfl dX13_isSameRegion_46 ?_
      refine lv_iconst (v := 5) E.1 E.2.1 dX13_isSameRegion_49 (by decide) ?_
      refine lv_iload_n E.1 E.2.1 dX13_isSameRegion_50 rfl (lv_at hl 3 rfl) ?_
      refine lv_imul E.1 E.2.1 dX13_isSameRegion_51 ?_
      refine lv_iload E.1 E.2.1 dX13_isSameRegion_52 (lv_at hl 4 rfl) ?_
      refine lv_iadd E.1 E.2.1 dX13_isSameRegion_54 ?_
      obtain ⟨hi55, h⟩ := ox h
      refine wIald E hK hW 6 rfl hi55 dX13_isSameRegion_55 ?_
      refine lv_icmp_ne (tgt := 63) E.1 E.2.1 dX13_isSameRegion_56 (by decide) (fun c56 => ?_) (fun c56 => ?_)
      · have h := ie c56 h
        refine lv_iconst (v := 0) E.1 E.2.1 dX13_isSameRegion_63 (by decide) ?_
        exact J64 r32 0 H locs ls h hW (lv_sub hl [] rfl)
      · have h := it c56 h
        refine lv_iconst (v := 1) E.1 E.2.1 dX13_isSameRegion_59 (by decide) ?_
        refine lv_goto (tgt := 64) E.1 E.2.1 dX13_isSameRegion_60 (by decide) ?_
        exact J64 r32 1 H locs ls h hW (lv_sub hl [] rfl)
    · have h := ie c26 h
      refine lv_iconst (v := 0) E.1 E.2.1 dX13_isSameRegion_29 (by decide) ?_
      obtain rfl := Option.some.inj h
      exact endI E (by decide) hW dX13_isSameRegion_30
  obtain ⟨j22, hj22, h⟩ := jox0 h
  have J22 : ∀ (H : Heap) (locs : List Loc) (ls : Array Slot), j22 = some res → Wo g A s H locs (w_X13 g h0 h1 h2 h3 h4 h5 h6 h7 h8 h9 h10 h11 h12 h13 x_g x_kept x_saved x_before x_was x_region x_parts x_next x_ways x_more x_whole x_isSaved x_changes x_isWithin x_code x_input x_length x_fault x_failed x_signs x_signMany x_at x_told x_toldMany) → lv_has ls 5 [(0, .ref h0), (1, .int a1), (2, .int a2), (3, .int a3), (4, .int a4)] → G_X13_isSameRegion p l e s m args below meth c g A h0 h1 h2 h3 h4 h5 h6 h7 h8 h9 h10 h11 h12 h13 x_g x_kept x_saved x_before x_was x_parts x_next x_ways x_more x_whole x_isSaved x_changes x_isWithin x_input x_length x_fault x_failed x_signs x_signMany x_at x_told x_toldMany res H locs 22 ls [.ref h0] := by
    intro H locs ls h hW hl
    rw [hj22] at h
    refine lv_iconst (v := 1) E.1 E.2.1 dX13_isSameRegion_22 (by decide) ?_
    exact J23 1 H locs ls h hW (lv_sub hl [0, 1, 2, 3, 4] rfl)
  refine lv_aload_n E.1 E.2.1 dX13_isSameRegion_0 rfl (lv_at hl 0 rfl) ?_
  refine lv_iload_n E.1 E.2.1 dX13_isSameRegion_1 rfl (lv_at hl 1 rfl) ?_
  refine lv_iload_n E.1 E.2.1 dX13_isSameRegion_2 rfl (lv_at hl 2 rfl) ?_
  obtain ⟨r3, hc, h⟩ := bx h
  refine goI (world' := (w_X13 g h0 h1 h2 h3 h4 h5 h6 h7 h8 h9 h10 h11 h12 h13 x_g x_kept x_saved x_before x_was x_region x_parts x_next x_ways x_more x_whole x_isSaved x_changes x_isWithin x_code x_input x_length x_fault x_failed x_signs x_signMany x_at x_told x_toldMany)) hW hA (is := []) rfl (goS (rest := [.ref h0]) E hK hW [] rfl rfl (c_X13_isCell l g a1 a2 (hf := hc) H.size) (va_cwS 2 hts gX13_isSameRegion_X13_isCell rfl rfl rfl (by decide +kernel) ⟨Nat.le_of_ble_eq_true rfl, Nat.le_of_ble_eq_true rfl⟩) hl.1 rfl rfl (Nat.le_of_ble_eq_true rfl) dX13_isSameRegion_3 ⟨Nat.zero_le _, Nat.zero_le _⟩) rfl rfl (fun H locs hW => ?_)
  refine lv_if_eq (tgt := 22) E.1 E.2.1 dX13_isSameRegion_6 (by decide) (fun c6 => ?_) (fun c6 => ?_)
  · have h := it c6 h
    exact J22  H locs ls h hW (lv_sub hl [0, 1, 2, 3, 4] rfl)
  · have h := ie c6 h
    refine lv_iload_n E.1 E.2.1 dX13_isSameRegion_9 rfl (lv_at hl 3 rfl) ?_
    refine lv_iload E.1 E.2.1 dX13_isSameRegion_10 (lv_at hl 4 rfl) ?_
    obtain ⟨r12, hc, h⟩ := bx h
    refine goI (world' := (w_X13 g h0 h1 h2 h3 h4 h5 h6 h7 h8 h9 h10 h11 h12 h13 x_g x_kept x_saved x_before x_was x_region x_parts x_next x_ways x_more x_whole x_isSaved x_changes x_isWithin x_code x_input x_length x_fault x_failed x_signs x_signMany x_at x_told x_toldMany)) hW hA (is := []) rfl (goS (rest := [.ref h0]) E hK hW [] rfl rfl (c_X13_isCell l g a3 a4 (hf := hc) H.size) (va_cwS 2 hts gX13_isSameRegion_X13_isCell rfl rfl rfl (by decide +kernel) ⟨Nat.le_of_ble_eq_true rfl, Nat.le_of_ble_eq_true rfl⟩) hl.1 rfl rfl (Nat.le_of_ble_eq_true rfl) dX13_isSameRegion_12 ⟨Nat.zero_le _, Nat.zero_le _⟩) rfl rfl (fun H locs hW => ?_)
    refine lv_if_eq (tgt := 22) E.1 E.2.1 dX13_isSameRegion_15 (by decide) (fun c15 => ?_) (fun c15 => ?_)
    · have h := it c15 h
      exact J22  H locs ls h hW (lv_sub hl [0, 1, 2, 3, 4] rfl)
    · have h := ie c15 h
      refine lv_iconst (v := 0) E.1 E.2.1 dX13_isSameRegion_18 (by decide) ?_
      refine lv_goto (tgt := 23) E.1 E.2.1 dX13_isSameRegion_19 (by decide) ?_
      exact J23 0 H locs ls h hW (lv_sub hl [0, 1, 2, 3, 4] rfl)
theorem c_X13_isSameRegion (l : Launch) (g : GE) (h0 h1 h2 h3 h4 h5 h6 h7 h8 h9 h10 h11 h12 h13 : Nat) (x_g : Nat → Int32) (x_kept : Nat → Int32) (x_saved : Nat → Int32) (x_before : Nat → Int32) (x_was : Nat → Int32) (x_region : Nat → Int32) (x_parts : Nat → Int64) (x_next : Nat → Int64) (x_ways : Nat → Int32) (x_more : Nat → Int32) (x_whole : Int64) (x_isSaved : Int32) (x_changes : Int32) (x_isWithin : Int32) (x_code : Int32) (x_input : Nat → Int32) (x_length : Int32) (x_fault : Int32) (x_failed : Int32) (x_signs : Nat → Int32) (x_signMany : Int32) (x_at : Int32) (x_told : Nat → Int32) (x_toldMany : Int32) (a1 : Int32) (a2 : Int32) (a3 : Int32) (a4 : Int32) {res : Int32 × (Nat → Int32) × Int32} (hf : f_X13_isSameRegion x_g x_region x_code a1 a2 a3 a4 = some res) : CI l yX13_isSameRegion wsX13_isSameRegion rm_X13_isSameRegion g [.ref h0, .int a1, .int a2, .int a3, .int a4] (w_X13 g h0 h1 h2 h3 h4 h5 h6 h7 h8 h9 h10 h11 h12 h13 x_g x_kept x_saved x_before x_was x_region x_parts x_next x_ways x_more x_whole x_isSaved x_changes x_isWithin x_code x_input x_length x_fault x_failed x_signs x_signMany x_at x_told x_toldMany) (w_X13 g h0 h1 h2 h3 h4 h5 h6 h7 h8 h9 h10 h11 h12 h13 x_g x_kept x_saved x_before x_was res.2.1 x_parts x_next x_ways x_more x_whole x_isSaved x_changes x_isWithin res.2.2 x_input x_length x_fault x_failed x_signs x_signMany x_at x_told x_toldMany) res.1 :=
  mkI (cc := cX13_isSameRegion) (maxL := 5) (by decide) rfl (Nat.le_of_ble_eq_true rfl) (fun p e s m args below meth c A H locs ls E hK hA hW hl => k_X13_isSameRegion_0 E hK hA hf hW hl)

/-! PaperStormModel.isSort(I)Z X13_isSort -/
abbrev rm_X13_isSort : Room := { frames := 1, cells := 0, slots := 0, locals := 22 }
noncomputable def f_X13_isSort (a0 : Int32) : Option (Int32) :=
  (f_X13_in a0 0 3).bind fun r3 => if ¬ vp_nar .boolean r3 = r3 then none else some (r3)
abbrev G_X13_isSort (p : Program) (l : Launch) (e : Env) (s : State) (m : MethodId) (args : Array Value) (below : List Frame) (meth : Method) (c : Code) (g : GE) (A : Nat → Prop) (res : Int32) (H : Heap) (locs : List Loc) (pc : Nat) (ls : Array Slot) (st : List Value) : Prop := W p l e (headSpec wsX13_isSort rm_X13_isSort).room s m args below meth c H locs 0 0 (MQ below (PoI g A ([] : va_W) res) args s 0 0 A) (F0 m pc ls st)
set_option maxHeartbeats 4000000 in
set_option maxRecDepth 100000 in
theorem k_X13_isSort_0 {p : Program} {l : Launch} {e : Env} {s : State} {m : MethodId} {args : Array Value} {below : List Frame} {meth : Method} {c : Code} {g : GE} {A : Nat → Prop} {res : Int32} {H : Heap} {locs : List Loc} {ls : Array Slot} {a0 : Int32}
    (E : En cX13_isSort RX13 wsX13_isSort 1 (some .boolean) p s m args meth c) (hK : KK g s) (hA : ∀ q, s.heap.size ≤ q → A q) (h : f_X13_isSort a0 = some res) (hW : Wo g A s H locs ([] : va_W)) (hl : lv_has ls 1 [(0, .int a0)]) : G_X13_isSort p l e s m args below meth c g A res H locs 0 ls [] := by
  have hts := E.2.2.2.1
  unfold f_X13_isSort at h
  refine lv_iload_n E.1 E.2.1 dX13_isSort_0 rfl (lv_at hl 0 rfl) ?_
  refine lv_iconst (v := 0) E.1 E.2.1 dX13_isSort_1 (by decide) ?_
  refine lv_iconst (v := 3) E.1 E.2.1 dX13_isSort_2 (by decide) ?_
  obtain ⟨r3, hc, h⟩ := bx h
  refine goI (world' := ([] : va_W)) hW hA (is := []) rfl (goS (rest := []) E hK hW [] rfl rfl (c_X13_in l g a0 0 3 (hf := hc) H.size) (va_cwS 3 hts gX13_isSort_X13_in rfl rfl rfl (by decide +kernel) ⟨Nat.le_of_ble_eq_true rfl, Nat.le_of_ble_eq_true rfl⟩) hl.1 rfl rfl (Nat.le_of_ble_eq_true rfl) dX13_isSort_3 ⟨Nat.zero_le _, Nat.zero_le _⟩) rfl rfl (fun H locs hW => ?_)
  obtain ⟨hz, h⟩ := ox h
  obtain rfl := Option.some.inj h
  exact endI E (nar_z (Decidable.not_not.mp hz)) hW dX13_isSort_6
theorem c_X13_isSort (l : Launch) (g : GE) (a0 : Int32) {res : Int32} (hf : f_X13_isSort a0 = some res) : CI l yX13_isSort wsX13_isSort rm_X13_isSort g [.int a0] ([] : va_W) ([] : va_W) res :=
  mkI (cc := cX13_isSort) (maxL := 1) (by decide) rfl (Nat.le_of_ble_eq_true rfl) (fun p e s m args below meth c A H locs ls E hK hA hW hl => k_X13_isSort_0 E hK hA hf hW hl)

/-! PaperStormModel.weighs(II)I X13_weighs -/
abbrev rm_X13_weighs : Room := { frames := 0, cells := 0, slots := 0, locals := 0 }
theorem in_X13_weighs_X13 : ∀ w ∈ wsX130, w ∈ wsX13_weighs := by decide +kernel
theorem lk_X13_weighs_7 : Cond.fieldLink RX13 7 "PaperStormModel" "g" "[I" ∈ wsX13_weighs := by decide +kernel
noncomputable def f_X13_weighs (x_g : Nat → Int32) (a1 : Int32) (a2 : Int32) : Option (Int32) :=
  if ((32 + (4 * a1)) + a2) < 0 ∨ 60 ≤ ((32 + (4 * a1)) + a2).toNatClampNeg then none else some ((x_g ((32 + (4 * a1)) + a2).toNatClampNeg))
abbrev G_X13_weighs (p : Program) (l : Launch) (e : Env) (s : State) (m : MethodId) (args : Array Value) (below : List Frame) (meth : Method) (c : Code) (g : GE) (A : Nat → Prop) (h0 h1 h2 h3 h4 h5 h6 h7 h8 h9 h10 h11 h12 h13 : Nat) (x_g : Nat → Int32) (x_kept : Nat → Int32) (x_saved : Nat → Int32) (x_before : Nat → Int32) (x_was : Nat → Int32) (x_region : Nat → Int32) (x_parts : Nat → Int64) (x_next : Nat → Int64) (x_ways : Nat → Int32) (x_more : Nat → Int32) (x_whole : Int64) (x_isSaved : Int32) (x_changes : Int32) (x_isWithin : Int32) (x_code : Int32) (x_input : Nat → Int32) (x_length : Int32) (x_fault : Int32) (x_failed : Int32) (x_signs : Nat → Int32) (x_signMany : Int32) (x_at : Int32) (x_told : Nat → Int32) (x_toldMany : Int32) (res : Int32) (H : Heap) (locs : List Loc) (pc : Nat) (ls : Array Slot) (st : List Value) : Prop := W p l e (headSpec wsX13_weighs rm_X13_weighs).room s m args below meth c H locs 0 0 (MQ below (PoI g A (w_X13 g h0 h1 h2 h3 h4 h5 h6 h7 h8 h9 h10 h11 h12 h13 x_g x_kept x_saved x_before x_was x_region x_parts x_next x_ways x_more x_whole x_isSaved x_changes x_isWithin x_code x_input x_length x_fault x_failed x_signs x_signMany x_at x_told x_toldMany) res) args s 0 0 A) (F0 m pc ls st)
set_option maxHeartbeats 4000000 in
set_option maxRecDepth 100000 in
theorem k_X13_weighs_0 {p : Program} {l : Launch} {e : Env} {s : State} {m : MethodId} {args : Array Value} {below : List Frame} {meth : Method} {c : Code} {g : GE} {A : Nat → Prop} {h0 h1 h2 h3 h4 h5 h6 h7 h8 h9 h10 h11 h12 h13 : Nat} {x_g : Nat → Int32} {x_kept : Nat → Int32} {x_saved : Nat → Int32} {x_before : Nat → Int32} {x_was : Nat → Int32} {x_region : Nat → Int32} {x_parts : Nat → Int64} {x_next : Nat → Int64} {x_ways : Nat → Int32} {x_more : Nat → Int32} {x_whole : Int64} {x_isSaved : Int32} {x_changes : Int32} {x_isWithin : Int32} {x_code : Int32} {x_input : Nat → Int32} {x_length : Int32} {x_fault : Int32} {x_failed : Int32} {x_signs : Nat → Int32} {x_signMany : Int32} {x_at : Int32} {x_told : Nat → Int32} {x_toldMany : Int32} {res : Int32} {H : Heap} {locs : List Loc} {ls : Array Slot} {a1 : Int32} {a2 : Int32}
    (E : En cX13_weighs RX13 wsX13_weighs 3 (some .int) p s m args meth c) (hK : KK g s) (hA : ∀ q, s.heap.size ≤ q → A q) (h : f_X13_weighs x_g a1 a2 = some res) (hW : Wo g A s H locs (w_X13 g h0 h1 h2 h3 h4 h5 h6 h7 h8 h9 h10 h11 h12 h13 x_g x_kept x_saved x_before x_was x_region x_parts x_next x_ways x_more x_whole x_isSaved x_changes x_isWithin x_code x_input x_length x_fault x_failed x_signs x_signMany x_at x_told x_toldMany)) (hl : lv_has ls 3 [(0, .ref h0), (1, .int a1), (2, .int a2)]) : G_X13_weighs p l e s m args below meth c g A h0 h1 h2 h3 h4 h5 h6 h7 h8 h9 h10 h11 h12 h13 x_g x_kept x_saved x_before x_was x_region x_parts x_next x_ways x_more x_whole x_isSaved x_changes x_isWithin x_code x_input x_length x_fault x_failed x_signs x_signMany x_at x_told x_toldMany res H locs 0 ls [] := by
  have hts := E.2.2.2.1
  unfold f_X13_weighs at h
  refine lv_aload_n E.1 E.2.1 dX13_weighs_0 rfl (lv_at hl 0 rfl) ?_
  refine wGet (v := .ref h1) E hK in_X13_weighs_X13 hW 0 lk_X13_weighs_7 0 rfl rfl (by decide) rfl rfl dX13_weighs_1 ?_
  refine lv_bipush (v := 32) E.1 E.2.1 dX13_weighs_4 (by decide) ?_
  refine lv_iconst (v := 4) E.1 E.2.1 dX13_weighs_6 (by decide) ?_
  refine lv_iload_n E.1 E.2.1 dX13_weighs_7 rfl (lv_at hl 1 rfl) ?_
  refine lv_imul E.1 E.2.1 dX13_weighs_8 ?_
  refine lv_iadd E.1 E.2.1 dX13_weighs_9 ?_
  refine lv_iload_n E.1 E.2.1 dX13_weighs_10 rfl (lv_at hl 2 rfl) ?_
  refine lv_iadd E.1 E.2.1 dX13_weighs_11 ?_
  obtain ⟨hi12, h⟩ := ox h
  refine wIald E hK hW 1 rfl hi12 dX13_weighs_12 ?_
  obtain rfl := Option.some.inj h
  exact endI E rfl hW dX13_weighs_13
theorem c_X13_weighs (l : Launch) (g : GE) (h0 h1 h2 h3 h4 h5 h6 h7 h8 h9 h10 h11 h12 h13 : Nat) (x_g : Nat → Int32) (x_kept : Nat → Int32) (x_saved : Nat → Int32) (x_before : Nat → Int32) (x_was : Nat → Int32) (x_region : Nat → Int32) (x_parts : Nat → Int64) (x_next : Nat → Int64) (x_ways : Nat → Int32) (x_more : Nat → Int32) (x_whole : Int64) (x_isSaved : Int32) (x_changes : Int32) (x_isWithin : Int32) (x_code : Int32) (x_input : Nat → Int32) (x_length : Int32) (x_fault : Int32) (x_failed : Int32) (x_signs : Nat → Int32) (x_signMany : Int32) (x_at : Int32) (x_told : Nat → Int32) (x_toldMany : Int32) (a1 : Int32) (a2 : Int32) {res : Int32} (hf : f_X13_weighs x_g a1 a2 = some res) : CI l yX13_weighs wsX13_weighs rm_X13_weighs g [.ref h0, .int a1, .int a2] (w_X13 g h0 h1 h2 h3 h4 h5 h6 h7 h8 h9 h10 h11 h12 h13 x_g x_kept x_saved x_before x_was x_region x_parts x_next x_ways x_more x_whole x_isSaved x_changes x_isWithin x_code x_input x_length x_fault x_failed x_signs x_signMany x_at x_told x_toldMany) (w_X13 g h0 h1 h2 h3 h4 h5 h6 h7 h8 h9 h10 h11 h12 h13 x_g x_kept x_saved x_before x_was x_region x_parts x_next x_ways x_more x_whole x_isSaved x_changes x_isWithin x_code x_input x_length x_fault x_failed x_signs x_signMany x_at x_told x_toldMany) res :=
  mkI (cc := cX13_weighs) (maxL := 3) (by decide) rfl (Nat.le_of_ble_eq_true rfl) (fun p e s m args below meth c A H locs ls E hK hA hW hl => k_X13_weighs_0 E hK hA hf hW hl)

/-! PaperStormModel.sum(I)I X13_sum -/
abbrev rm_X13_sum : Room := { frames := 1, cells := 0, slots := 0, locals := 22 }
noncomputable def f_X13_sum (x_g : Nat → Int32) (a1 : Int32) : Option (Int32) :=
  (f_X13_weighs x_g a1 0).bind fun r3 => (f_X13_weighs x_g a1 1).bind fun r9 => (f_X13_weighs x_g a1 2).bind fun r16 => (f_X13_weighs x_g a1 3).bind fun r23 => some ((((r3 + r9) + r16) + r23))
abbrev G_X13_sum (p : Program) (l : Launch) (e : Env) (s : State) (m : MethodId) (args : Array Value) (below : List Frame) (meth : Method) (c : Code) (g : GE) (A : Nat → Prop) (h0 h1 h2 h3 h4 h5 h6 h7 h8 h9 h10 h11 h12 h13 : Nat) (x_g : Nat → Int32) (x_kept : Nat → Int32) (x_saved : Nat → Int32) (x_before : Nat → Int32) (x_was : Nat → Int32) (x_region : Nat → Int32) (x_parts : Nat → Int64) (x_next : Nat → Int64) (x_ways : Nat → Int32) (x_more : Nat → Int32) (x_whole : Int64) (x_isSaved : Int32) (x_changes : Int32) (x_isWithin : Int32) (x_code : Int32) (x_input : Nat → Int32) (x_length : Int32) (x_fault : Int32) (x_failed : Int32) (x_signs : Nat → Int32) (x_signMany : Int32) (x_at : Int32) (x_told : Nat → Int32) (x_toldMany : Int32) (res : Int32) (H : Heap) (locs : List Loc) (pc : Nat) (ls : Array Slot) (st : List Value) : Prop := W p l e (headSpec wsX13_sum rm_X13_sum).room s m args below meth c H locs 0 0 (MQ below (PoI g A (w_X13 g h0 h1 h2 h3 h4 h5 h6 h7 h8 h9 h10 h11 h12 h13 x_g x_kept x_saved x_before x_was x_region x_parts x_next x_ways x_more x_whole x_isSaved x_changes x_isWithin x_code x_input x_length x_fault x_failed x_signs x_signMany x_at x_told x_toldMany) res) args s 0 0 A) (F0 m pc ls st)
set_option maxHeartbeats 4000000 in
set_option maxRecDepth 100000 in
theorem k_X13_sum_0 {p : Program} {l : Launch} {e : Env} {s : State} {m : MethodId} {args : Array Value} {below : List Frame} {meth : Method} {c : Code} {g : GE} {A : Nat → Prop} {h0 h1 h2 h3 h4 h5 h6 h7 h8 h9 h10 h11 h12 h13 : Nat} {x_g : Nat → Int32} {x_kept : Nat → Int32} {x_saved : Nat → Int32} {x_before : Nat → Int32} {x_was : Nat → Int32} {x_region : Nat → Int32} {x_parts : Nat → Int64} {x_next : Nat → Int64} {x_ways : Nat → Int32} {x_more : Nat → Int32} {x_whole : Int64} {x_isSaved : Int32} {x_changes : Int32} {x_isWithin : Int32} {x_code : Int32} {x_input : Nat → Int32} {x_length : Int32} {x_fault : Int32} {x_failed : Int32} {x_signs : Nat → Int32} {x_signMany : Int32} {x_at : Int32} {x_told : Nat → Int32} {x_toldMany : Int32} {res : Int32} {H : Heap} {locs : List Loc} {ls : Array Slot} {a1 : Int32}
    (E : En cX13_sum RX13 wsX13_sum 2 (some .int) p s m args meth c) (hK : KK g s) (hA : ∀ q, s.heap.size ≤ q → A q) (h : f_X13_sum x_g a1 = some res) (hW : Wo g A s H locs (w_X13 g h0 h1 h2 h3 h4 h5 h6 h7 h8 h9 h10 h11 h12 h13 x_g x_kept x_saved x_before x_was x_region x_parts x_next x_ways x_more x_whole x_isSaved x_changes x_isWithin x_code x_input x_length x_fault x_failed x_signs x_signMany x_at x_told x_toldMany)) (hl : lv_has ls 2 [(0, .ref h0), (1, .int a1)]) : G_X13_sum p l e s m args below meth c g A h0 h1 h2 h3 h4 h5 h6 h7 h8 h9 h10 h11 h12 h13 x_g x_kept x_saved x_before x_was x_region x_parts x_next x_ways x_more x_whole x_isSaved x_changes x_isWithin x_code x_input x_length x_fault x_failed x_signs x_signMany x_at x_told x_toldMany res H locs 0 ls [] := by
  have hts := E.2.2.2.1
  unfold f_X13_sum at h
  refine lv_aload_n E.1 E.2.1 dX13_sum_0 rfl (lv_at hl 0 rfl) ?_
  refine lv_iload_n E.1 E.2.1 dX13_sum_1 rfl (lv_at hl 1 rfl) ?_
  refine lv_iconst (v := 0) E.1 E.2.1 dX13_sum_2 (by decide) ?_
  obtain ⟨r3, hc, h⟩ := bx h
  refine goI (world' := (w_X13 g h0 h1 h2 h3 h4 h5 h6 h7 h8 h9 h10 h11 h12 h13 x_g x_kept x_saved x_before x_was x_region x_parts x_next x_ways x_more x_whole x_isSaved x_changes x_isWithin x_code x_input x_length x_fault x_failed x_signs x_signMany x_at x_told x_toldMany)) hW hA (is := [0, 1, 2, 3, 4, 5, 6, 7, 8, 9, 10, 11, 12, 13]) rfl (goV (rest := []) E hK hW [0, 1, 2, 3, 4, 5, 6, 7, 8, 9, 10, 11, 12, 13] rfl rfl (c_X13_weighs l g h0 h1 h2 h3 h4 h5 h6 h7 h8 h9 h10 h11 h12 h13 x_g x_kept x_saved x_before x_was x_region x_parts x_next x_ways x_more x_whole x_isSaved x_changes x_isWithin x_code x_input x_length x_fault x_failed x_signs x_signMany x_at x_told x_toldMany a1 0 (hf := hc) H.size) (cwV 2 hts gX13_sum_X13_weighs rfl rfl rfl (by decide +kernel) ⟨Nat.le_of_ble_eq_true rfl, Nat.le_of_ble_eq_true rfl⟩) 0 rfl rfl rfl hl.1 rfl rfl (Nat.le_of_ble_eq_true rfl) dX13_sum_3 ⟨Nat.zero_le _, Nat.zero_le _⟩) rfl rfl (fun H locs hW => ?_)
  refine lv_aload_n E.1 E.2.1 dX13_sum_6 rfl (lv_at hl 0 rfl) ?_
  refine lv_iload_n E.1 E.2.1 dX13_sum_7 rfl (lv_at hl 1 rfl) ?_
  refine lv_iconst (v := 1) E.1 E.2.1 dX13_sum_8 (by decide) ?_
  obtain ⟨r9, hc, h⟩ := bx h
  refine goI (world' := (w_X13 g h0 h1 h2 h3 h4 h5 h6 h7 h8 h9 h10 h11 h12 h13 x_g x_kept x_saved x_before x_was x_region x_parts x_next x_ways x_more x_whole x_isSaved x_changes x_isWithin x_code x_input x_length x_fault x_failed x_signs x_signMany x_at x_told x_toldMany)) hW hA (is := [0, 1, 2, 3, 4, 5, 6, 7, 8, 9, 10, 11, 12, 13]) rfl (goV (rest := [.int r3]) E hK hW [0, 1, 2, 3, 4, 5, 6, 7, 8, 9, 10, 11, 12, 13] rfl rfl (c_X13_weighs l g h0 h1 h2 h3 h4 h5 h6 h7 h8 h9 h10 h11 h12 h13 x_g x_kept x_saved x_before x_was x_region x_parts x_next x_ways x_more x_whole x_isSaved x_changes x_isWithin x_code x_input x_length x_fault x_failed x_signs x_signMany x_at x_told x_toldMany a1 1 (hf := hc) H.size) (cwV 2 hts gX13_sum_X13_weighs rfl rfl rfl (by decide +kernel) ⟨Nat.le_of_ble_eq_true rfl, Nat.le_of_ble_eq_true rfl⟩) 0 rfl rfl rfl hl.1 rfl rfl (Nat.le_of_ble_eq_true rfl) dX13_sum_9 ⟨Nat.zero_le _, Nat.zero_le _⟩) rfl rfl (fun H locs hW => ?_)
  refine lv_iadd E.1 E.2.1 dX13_sum_12 ?_
  refine lv_aload_n E.1 E.2.1 dX13_sum_13 rfl (lv_at hl 0 rfl) ?_
  refine lv_iload_n E.1 E.2.1 dX13_sum_14 rfl (lv_at hl 1 rfl) ?_
  refine lv_iconst (v := 2) E.1 E.2.1 dX13_sum_15 (by decide) ?_
  obtain ⟨r16, hc, h⟩ := bx h
  refine goI (world' := (w_X13 g h0 h1 h2 h3 h4 h5 h6 h7 h8 h9 h10 h11 h12 h13 x_g x_kept x_saved x_before x_was x_region x_parts x_next x_ways x_more x_whole x_isSaved x_changes x_isWithin x_code x_input x_length x_fault x_failed x_signs x_signMany x_at x_told x_toldMany)) hW hA (is := [0, 1, 2, 3, 4, 5, 6, 7, 8, 9, 10, 11, 12, 13]) rfl (goV (rest := [.int (r3 + r9)]) E hK hW [0, 1, 2, 3, 4, 5, 6, 7, 8, 9, 10, 11, 12, 13] rfl rfl (c_X13_weighs l g h0 h1 h2 h3 h4 h5 h6 h7 h8 h9 h10 h11 h12 h13 x_g x_kept x_saved x_before x_was x_region x_parts x_next x_ways x_more x_whole x_isSaved x_changes x_isWithin x_code x_input x_length x_fault x_failed x_signs x_signMany x_at x_told x_toldMany a1 2 (hf := hc) H.size) (cwV 2 hts gX13_sum_X13_weighs rfl rfl rfl (by decide +kernel) ⟨Nat.le_of_ble_eq_true rfl, Nat.le_of_ble_eq_true rfl⟩) 0 rfl rfl rfl hl.1 rfl rfl (Nat.le_of_ble_eq_true rfl) dX13_sum_16 ⟨Nat.zero_le _, Nat.zero_le _⟩) rfl rfl (fun H locs hW => ?_)
  refine lv_iadd E.1 E.2.1 dX13_sum_19 ?_
  refine lv_aload_n E.1 E.2.1 dX13_sum_20 rfl (lv_at hl 0 rfl) ?_
  refine lv_iload_n E.1 E.2.1 dX13_sum_21 rfl (lv_at hl 1 rfl) ?_
  refine lv_iconst (v := 3) E.1 E.2.1 dX13_sum_22 (by decide) ?_
  obtain ⟨r23, hc, h⟩ := bx h
  refine goI (world' := (w_X13 g h0 h1 h2 h3 h4 h5 h6 h7 h8 h9 h10 h11 h12 h13 x_g x_kept x_saved x_before x_was x_region x_parts x_next x_ways x_more x_whole x_isSaved x_changes x_isWithin x_code x_input x_length x_fault x_failed x_signs x_signMany x_at x_told x_toldMany)) hW hA (is := [0, 1, 2, 3, 4, 5, 6, 7, 8, 9, 10, 11, 12, 13]) rfl (goV (rest := [.int ((r3 + r9) + r16)]) E hK hW [0, 1, 2, 3, 4, 5, 6, 7, 8, 9, 10, 11, 12, 13] rfl rfl (c_X13_weighs l g h0 h1 h2 h3 h4 h5 h6 h7 h8 h9 h10 h11 h12 h13 x_g x_kept x_saved x_before x_was x_region x_parts x_next x_ways x_more x_whole x_isSaved x_changes x_isWithin x_code x_input x_length x_fault x_failed x_signs x_signMany x_at x_told x_toldMany a1 3 (hf := hc) H.size) (cwV 2 hts gX13_sum_X13_weighs rfl rfl rfl (by decide +kernel) ⟨Nat.le_of_ble_eq_true rfl, Nat.le_of_ble_eq_true rfl⟩) 0 rfl rfl rfl hl.1 rfl rfl (Nat.le_of_ble_eq_true rfl) dX13_sum_23 ⟨Nat.zero_le _, Nat.zero_le _⟩) rfl rfl (fun H locs hW => ?_)
  refine lv_iadd E.1 E.2.1 dX13_sum_26 ?_
  obtain rfl := Option.some.inj h
  exact endI E rfl hW dX13_sum_27
theorem c_X13_sum (l : Launch) (g : GE) (h0 h1 h2 h3 h4 h5 h6 h7 h8 h9 h10 h11 h12 h13 : Nat) (x_g : Nat → Int32) (x_kept : Nat → Int32) (x_saved : Nat → Int32) (x_before : Nat → Int32) (x_was : Nat → Int32) (x_region : Nat → Int32) (x_parts : Nat → Int64) (x_next : Nat → Int64) (x_ways : Nat → Int32) (x_more : Nat → Int32) (x_whole : Int64) (x_isSaved : Int32) (x_changes : Int32) (x_isWithin : Int32) (x_code : Int32) (x_input : Nat → Int32) (x_length : Int32) (x_fault : Int32) (x_failed : Int32) (x_signs : Nat → Int32) (x_signMany : Int32) (x_at : Int32) (x_told : Nat → Int32) (x_toldMany : Int32) (a1 : Int32) {res : Int32} (hf : f_X13_sum x_g a1 = some res) : CI l yX13_sum wsX13_sum rm_X13_sum g [.ref h0, .int a1] (w_X13 g h0 h1 h2 h3 h4 h5 h6 h7 h8 h9 h10 h11 h12 h13 x_g x_kept x_saved x_before x_was x_region x_parts x_next x_ways x_more x_whole x_isSaved x_changes x_isWithin x_code x_input x_length x_fault x_failed x_signs x_signMany x_at x_told x_toldMany) (w_X13 g h0 h1 h2 h3 h4 h5 h6 h7 h8 h9 h10 h11 h12 h13 x_g x_kept x_saved x_before x_was x_region x_parts x_next x_ways x_more x_whole x_isSaved x_changes x_isWithin x_code x_input x_length x_fault x_failed x_signs x_signMany x_at x_told x_toldMany) res :=
  mkI (cc := cX13_sum) (maxL := 2) (by decide) rfl (Nat.le_of_ble_eq_true rfl) (fun p e s m args below meth c A H locs ls E hK hA hW hl => k_X13_sum_0 E hK hA hf hW hl)

/-! PaperStormModel.setWeight(III)I X13_setWeight -/
abbrev rm_X13_setWeight : Room := { frames := 2, cells := 0, slots := 0, locals := 46 }
theorem in_X13_setWeight_X13 : ∀ w ∈ wsX130, w ∈ wsX13_setWeight := by decide +kernel
theorem lk_X13_setWeight_7 : Cond.fieldLink RX13 7 "PaperStormModel" "g" "[I" ∈ wsX13_setWeight := by decide +kernel
noncomputable def f_X13_setWeight (x_g : Nat → Int32) (x_kept : Nat → Int32) (x_changes : Int32) (x_isWithin : Int32) (x_code : Int32) (a1 : Int32) (a2 : Int32) (a3 : Int32) : Option (Int32 × (Nat → Int32) × (Nat → Int32) × Int32 × Int32) :=
  jo (fun (s1_50 : Int32) => (f_X13_fails x_code s1_50).bind fun r50 => if r50.1 = 0 then (f_X13_weighs x_g a1 a2).bind fun r61 => (f_X13_keeps__g x_g x_kept x_changes x_isWithin r50.2).bind fun r71 => if ((32 + (4 * a1)) + a2) < 0 ∨ 60 ≤ ((32 + (4 * a1)) + a2).toNatClampNeg then none else some (r61, (upd x_g ((32 + (4 * a1)) + a2).toNatClampNeg a3), r71.1, r71.2.1, r71.2.2) else some (0, x_g, x_kept, x_changes, r50.2)) (fun j50 => jo (j50 1) (fun j24 => (f_X13_isSort a1).bind fun r2 => if r2 = 0 then j24 else (f_X13_isSort a2).bind fun r9 => if r9 = 0 then j24 else (f_X13_in a3 0 3).bind fun r18 => if r18 = 0 then j24 else (f_X13_sum x_g a1).bind fun r30 => (f_X13_weighs x_g a1 a2).bind fun r36 => if ((r30 - r36) + a3) = 0 then j50 2 else j50 0))
abbrev G_X13_setWeight (p : Program) (l : Launch) (e : Env) (s : State) (m : MethodId) (args : Array Value) (below : List Frame) (meth : Method) (c : Code) (g : GE) (A : Nat → Prop) (h0 h1 h2 h3 h4 h5 h6 h7 h8 h9 h10 h11 h12 h13 : Nat) (x_saved : Nat → Int32) (x_before : Nat → Int32) (x_was : Nat → Int32) (x_region : Nat → Int32) (x_parts : Nat → Int64) (x_next : Nat → Int64) (x_ways : Nat → Int32) (x_more : Nat → Int32) (x_whole : Int64) (x_isSaved : Int32) (x_isWithin : Int32) (x_input : Nat → Int32) (x_length : Int32) (x_fault : Int32) (x_failed : Int32) (x_signs : Nat → Int32) (x_signMany : Int32) (x_at : Int32) (x_told : Nat → Int32) (x_toldMany : Int32) (res : Int32 × (Nat → Int32) × (Nat → Int32) × Int32 × Int32) (H : Heap) (locs : List Loc) (pc : Nat) (ls : Array Slot) (st : List Value) : Prop := W p l e (headSpec wsX13_setWeight rm_X13_setWeight).room s m args below meth c H locs 0 0 (MQ below (PoI g A (w_X13 g h0 h1 h2 h3 h4 h5 h6 h7 h8 h9 h10 h11 h12 h13 res.2.1 res.2.2.1 x_saved x_before x_was x_region x_parts x_next x_ways x_more x_whole x_isSaved res.2.2.2.1 x_isWithin res.2.2.2.2 x_input x_length x_fault x_failed x_signs x_signMany x_at x_told x_toldMany) res.1) args s 0 0 A) (F0 m pc ls st)
set_option maxHeartbeats 4000000 in
set_option maxRecDepth 100000 in
theorem k_X13_setWeight_0 {p : Program} {l : Launch} {e : Env} {s : State} {m : MethodId} {args : Array Value} {below : List Frame} {meth : Method} {c : Code} {g : GE} {A : Nat → Prop} {h0 h1 h2 h3 h4 h5 h6 h7 h8 h9 h10 h11 h12 h13 : Nat} {x_g : Nat → Int32} {x_kept : Nat → Int32} {x_saved : Nat → Int32} {x_before : Nat → Int32} {x_was : Nat → Int32} {x_region : Nat → Int32} {x_parts : Nat → Int64} {x_next : Nat → Int64} {x_ways : Nat → Int32} {x_more : Nat → Int32} {x_whole : Int64} {x_isSaved : Int32} {x_changes : Int32} {x_isWithin : Int32} {x_code : Int32} {x_input : Nat → Int32} {x_length : Int32} {x_fault : Int32} {x_failed : Int32} {x_signs : Nat → Int32} {x_signMany : Int32} {x_at : Int32} {x_told : Nat → Int32} {x_toldMany : Int32} {res : Int32 × (Nat → Int32) × (Nat → Int32) × Int32 × Int32} {H : Heap} {locs : List Loc} {ls : Array Slot} {a1 : Int32} {a2 : Int32} {a3 : Int32}
    (E : En cX13_setWeight RX13 wsX13_setWeight 5 (some .int) p s m args meth c) (hK : KK g s) (hA : ∀ q, s.heap.size ≤ q → A q) (h : f_X13_setWeight x_g x_kept x_changes x_isWithin x_code a1 a2 a3 = some res) (hW : Wo g A s H locs (w_X13 g h0 h1 h2 h3 h4 h5 h6 h7 h8 h9 h10 h11 h12 h13 x_g x_kept x_saved x_before x_was x_region x_parts x_next x_ways x_more x_whole x_isSaved x_changes x_isWithin x_code x_input x_length x_fault x_failed x_signs x_signMany x_at x_told x_toldMany)) (hl : lv_has ls 5 [(0, .ref h0), (1, .int a1), (2, .int a2), (3, .int a3)]) : G_X13_setWeight p l e s m args below meth c g A h0 h1 h2 h3 h4 h5 h6 h7 h8 h9 h10 h11 h12 h13 x_saved x_before x_was x_region x_parts x_next x_ways x_more x_whole x_isSaved x_isWithin x_input x_length x_fault x_failed x_signs x_signMany x_at x_told x_toldMany res H locs 0 ls [] := by
  have hts := E.2.2.2.1
  unfold f_X13_setWeight at h
  obtain ⟨j50, hj50, h⟩ := jox1 h
  have J50 : ∀ (s1_50 : Int32) (H : Heap) (locs : List Loc) (ls : Array Slot), j50 s1_50 = some res → Wo g A s H locs (w_X13 g h0 h1 h2 h3 h4 h5 h6 h7 h8 h9 h10 h11 h12 h13 x_g x_kept x_saved x_before x_was x_region x_parts x_next x_ways x_more x_whole x_isSaved x_changes x_isWithin x_code x_input x_length x_fault x_failed x_signs x_signMany x_at x_told x_toldMany) → lv_has ls 5 [(0, .ref h0), (1, .int a1), (2, .int a2), (3, .int a3)] → G_X13_setWeight p l e s m args below meth c g A h0 h1 h2 h3 h4 h5 h6 h7 h8 h9 h10 h11 h12 h13 x_saved x_before x_was x_region x_parts x_next x_ways x_more x_whole x_isSaved x_isWithin x_input x_length x_fault x_failed x_signs x_signMany x_at x_told x_toldMany res H locs 50 ls [.int s1_50, .ref h0] := by
    intro s1_50 H locs ls h hW hl
    rw [hj50] at h
    obtain ⟨r50, hc, h⟩ := bx h
    refine goI (world' := (w_X13 g h0 h1 h2 h3 h4 h5 h6 h7 h8 h9 h10 h11 h12 h13 x_g x_kept x_saved x_before x_was x_region x_parts x_next x_ways x_more x_whole x_isSaved x_changes x_isWithin r50.2 x_input x_length x_fault x_failed x_signs x_signMany x_at x_told x_toldMany)) hW hA (is := [0, 1, 2, 3, 4, 5, 6, 7, 8, 9, 10, 11, 12, 13]) rfl (goV (rest := []) E hK hW [0, 1, 2, 3, 4, 5, 6, 7, 8, 9, 10, 11, 12, 13] rfl rfl (c_X13_fails l g h0 h1 h2 h3 h4 h5 h6 h7 h8 h9 h10 h11 h12 h13 x_g x_kept x_saved x_before x_was x_region x_parts x_next x_ways x_more x_whole x_isSaved x_changes x_isWithin x_code x_input x_length x_fault x_failed x_signs x_signMany x_at x_told x_toldMany s1_50 (hf := hc) H.size) (cwV 1 hts gX13_setWeight_X13_fails rfl rfl rfl (by decide +kernel) ⟨Nat.le_of_ble_eq_true rfl, Nat.le_of_ble_eq_true rfl⟩) 0 rfl rfl rfl hl.1 rfl rfl (Nat.le_of_ble_eq_true rfl) dX13_setWeight_50 ⟨Nat.zero_le _, Nat.zero_le _⟩) rfl rfl (fun H locs hW => ?_)
    refine lv_if_eq (tgt := 58) E.1 E.2.1 dX13_setWeight_53 (by decide) (fun c53 => ?_) (fun c53 => ?_)
    · have h := it c53 h
      refine lv_aload_n E.1 E.2.1 dX13_setWeight_58 rfl (lv_at hl 0 rfl) ?_
      refine lv_iload_n E.1 E.2.1 dX13_setWeight_59 rfl (lv_at hl 1 rfl) ?_
      refine lv_iload_n E.1 E.2.1 dX13_setWeight_60 rfl (lv_at hl 2 rfl) ?_
      obtain ⟨r61, hc, h⟩ := bx h
      refine goI (world' := (w_X13 g h0 h1 h2 h3 h4 h5 h6 h7 h8 h9 h10 h11 h12 h13 x_g x_kept x_saved x_before x_was x_region x_parts x_next x_ways x_more x_whole x_isSaved x_changes x_isWithin r50.2 x_input x_length x_fault x_failed x_signs x_signMany x_at x_told x_toldMany)) hW hA (is := [0, 1, 2, 3, 4, 5, 6, 7, 8, 9, 10, 11, 12, 13]) rfl (goV (rest := []) E hK hW [0, 1, 2, 3, 4, 5, 6, 7, 8, 9, 10, 11, 12, 13] rfl rfl (c_X13_weighs l g h0 h1 h2 h3 h4 h5 h6 h7 h8 h9 h10 h11 h12 h13 x_g x_kept x_saved x_before x_was x_region x_parts x_next x_ways x_more x_whole x_isSaved x_changes x_isWithin r50.2 x_input x_length x_fault x_failed x_signs x_signMany x_at x_told x_toldMany a1 a2 (hf := hc) H.size) (cwV 2 hts gX13_setWeight_X13_weighs rfl rfl rfl (by decide +kernel) ⟨Nat.le_of_ble_eq_true rfl, Nat.le_of_ble_eq_true rfl⟩) 0 rfl rfl rfl hl.1 rfl rfl (Nat.le_of_ble_eq_true rfl) dX13_setWeight_61 ⟨Nat.zero_le _, Nat.zero_le _⟩) rfl rfl (fun H locs hW => ?_)
      refine lv_istore (lv' := [(4, .int r61), (0, .ref h0), (1, .int a1), (2, .int a2), (3, .int a3)]) E.1 E.2.1 dX13_setWeight_64 hl (by decide) rfl (fun ls hl => ?_)
      refine lv_aload_n E.1 E.2.1 dX13_setWeight_66 rfl (lv_at hl 1 rfl) ?_
      refine lv_aload_n E.1 E.2.1 dX13_setWeight_67 rfl (lv_at hl 1 rfl) ?_
      refine wGet (v := .ref h1) E hK in_X13_setWeight_X13 hW 0 lk_X13_setWeight_7 0 rfl rfl (by decide) rfl rfl dX13_setWeight_68 ?_
      obtain ⟨r71, hc, h⟩ := bx h
      refine goU (world' := (w_X13 g h0 h1 h2 h3 h4 h5 h6 h7 h8 h9 h10 h11 h12 h13 x_g r71.1 x_saved x_before x_was x_region x_parts x_next x_ways x_more x_whole x_isSaved r71.2.1 x_isWithin r71.2.2 x_input x_length x_fault x_failed x_signs x_signMany x_at x_told x_toldMany)) hW hA (is := [0, 1, 2, 3, 4, 5, 6, 7, 8, 9, 10, 11, 12, 13]) rfl (goV (rest := []) E hK hW [0, 1, 2, 3, 4, 5, 6, 7, 8, 9, 10, 11, 12, 13] rfl rfl (c_X13_keeps__g l g h0 h1 h2 h3 h4 h5 h6 h7 h8 h9 h10 h11 h12 h13 x_g x_kept x_saved x_before x_was x_region x_parts x_next x_ways x_more x_whole x_isSaved x_changes x_isWithin r50.2 x_input x_length x_fault x_failed x_signs x_signMany x_at x_told x_toldMany (hf := hc) H.size) (cwV 1 hts gX13_setWeight_X13_keeps rfl rfl rfl (by decide +kernel) ⟨Nat.le_of_ble_eq_true rfl, Nat.le_of_ble_eq_true rfl⟩) 0 rfl rfl rfl hl.1 rfl rfl (Nat.le_of_ble_eq_true rfl) dX13_setWeight_71 ⟨Nat.zero_le _, Nat.zero_le _⟩) rfl rfl (fun H locs hW => ?_)
      refine lv_aload_n E.1 E.2.1 dX13_setWeight_74 rfl (lv_at hl 1 rfl) ?_
      refine wGet (v := .ref h1) E hK in_X13_setWeight_X13 hW 0 lk_X13_setWeight_7 0 rfl rfl (by decide) rfl rfl dX13_setWeight_75 ?_
      refine lv_bipush (v := 32) E.1 E.2.1 dX13_setWeight_78 (by decide) ?_
      refine lv_iconst (v := 4) E.1 E.2.1 dX13_setWeight_80 (by decide) ?_
      refine lv_iload_n E.1 E.2.1 dX13_setWeight_81 rfl (lv_at hl 2 rfl) ?_
      refine lv_imul E.1 E.2.1 dX13_setWeight_82 ?_
      refine lv_iadd E.1 E.2.1 dX13_setWeight_83 ?_
      refine lv_iload_n E.1 E.2.1 dX13_setWeight_84 rfl (lv_at hl 3 rfl) ?_
      refine lv_iadd E.1 E.2.1 dX13_setWeight_85 ?_
      refine lv_iload_n E.1 E.2.1 dX13_setWeight_86 rfl (lv_at hl 4 rfl) ?_
      obtain ⟨hi87, h⟩ := ox h
      refine wIast (world' := (w_X13 g h0 h1 h2 h3 h4 h5 h6 h7 h8 h9 h10 h11 h12 h13 (upd x_g ((32 + (4 * a1)) + a2).toNatClampNeg a3) r71.1 x_saved x_before x_was x_region x_parts x_next x_ways x_more x_whole x_isSaved r71.2.1 x_isWithin r71.2.2 x_input x_length x_fault x_failed x_signs x_signMany x_at x_told x_toldMany)) E hK hW 1 rfl hi87 dX13_setWeight_87 rfl (fun H locs hW => ?_)
      refine lv_iload E.1 E.2.1 dX13_setWeight_88 (lv_at hl 0 rfl) ?_
      obtain rfl := Option.some.inj h
      exact endI E rfl hW dX13_setWeight_90
    · have h := ie c53 h
      refine lv_iconst (v := 0) E.1 E.2.1 dX13_setWeight_56 (by decide) ?_
      obtain rfl := Option.some.inj h
      exact endI E rfl hW dX13_setWeight_57
  obtain ⟨j24, hj24, h⟩ := jox0 h
  have J24 : ∀ (H : Heap) (locs : List Loc) (ls : Array Slot), j24 = some res → Wo g A s H locs (w_X13 g h0 h1 h2 h3 h4 h5 h6 h7 h8 h9 h10 h11 h12 h13 x_g x_kept x_saved x_before x_was x_region x_parts x_next x_ways x_more x_whole x_isSaved x_changes x_isWithin x_code x_input x_length x_fault x_failed x_signs x_signMany x_at x_told x_toldMany) → lv_has ls 5 [(0, .ref h0), (1, .int a1), (2, .int a2), (3, .int a3)] → G_X13_setWeight p l e s m args below meth c g A h0 h1 h2 h3 h4 h5 h6 h7 h8 h9 h10 h11 h12 h13 x_saved x_before x_was x_region x_parts x_next x_ways x_more x_whole x_isSaved x_isWithin x_input x_length x_fault x_failed x_signs x_signMany x_at x_told x_toldMany res H locs 24 ls [.ref h0] := by
    intro H locs ls h hW hl
    rw [hj24] at h
    refine lv_iconst (v := 1) E.1 E.2.1 dX13_setWeight_24 (by decide) ?_
    refine lv_goto (tgt := 50) E.1 E.2.1 dX13_setWeight_25 (by decide) ?_
    exact J50 1 H locs ls h hW (lv_sub hl [0, 1, 2, 3] rfl)
  refine lv_aload_n E.1 E.2.1 dX13_setWeight_0 rfl (lv_at hl 0 rfl) ?_
  refine lv_iload_n E.1 E.2.1 dX13_setWeight_1 rfl (lv_at hl 1 rfl) ?_
  obtain ⟨r2, hc, h⟩ := bx h
  refine goI (world' := (w_X13 g h0 h1 h2 h3 h4 h5 h6 h7 h8 h9 h10 h11 h12 h13 x_g x_kept x_saved x_before x_was x_region x_parts x_next x_ways x_more x_whole x_isSaved x_changes x_isWithin x_code x_input x_length x_fault x_failed x_signs x_signMany x_at x_told x_toldMany)) hW hA (is := []) rfl (goS (rest := [.ref h0]) E hK hW [] rfl rfl (c_X13_isSort l g a1 (hf := hc) H.size) (va_cwS 1 hts gX13_setWeight_X13_isSort rfl rfl rfl (by decide +kernel) ⟨Nat.le_of_ble_eq_true rfl, Nat.le_of_ble_eq_true rfl⟩) hl.1 rfl rfl (Nat.le_of_ble_eq_true rfl) dX13_setWeight_2 ⟨Nat.zero_le _, Nat.zero_le _⟩) rfl rfl (fun H locs hW => ?_)
  refine lv_if_eq (tgt := 24) E.1 E.2.1 dX13_setWeight_5 (by decide) (fun c5 => ?_) (fun c5 => ?_)
  · have h := it c5 h
    exact J24  H locs ls h hW (lv_sub hl [0, 1, 2, 3] rfl)
  · have h := ie c5 h
    refine lv_iload_n E.1 E.2.1 dX13_setWeight_8 rfl (lv_at hl 2 rfl) ?_
    obtain ⟨r9, hc, h⟩ := bx h
    refine goI (world' := (w_X13 g h0 h1 h2 h3 h4 h5 h6 h7 h8 h9 h10 h11 h12 h13 x_g x_kept x_saved x_before x_was x_region x_parts x_next x_ways x_more x_whole x_isSaved x_changes x_isWithin x_code x_input x_length x_fault x_failed x_signs x_signMany x_at x_told x_toldMany)) hW hA (is := []) rfl (goS (rest := [.ref h0]) E hK hW [] rfl rfl (c_X13_isSort l g a2 (hf := hc) H.size) (va_cwS 1 hts gX13_setWeight_X13_isSort rfl rfl rfl (by decide +kernel) ⟨Nat.le_of_ble_eq_true rfl, Nat.le_of_ble_eq_true rfl⟩) hl.1 rfl rfl (Nat.le_of_ble_eq_true rfl) dX13_setWeight_9 ⟨Nat.zero_le _, Nat.zero_le _⟩) rfl rfl (fun H locs hW => ?_)
    refine lv_if_eq (tgt := 24) E.1 E.2.1 dX13_setWeight_12 (by decide) (fun c12 => ?_) (fun c12 => ?_)
    · have h := it c12 h
      exact J24  H locs ls h hW (lv_sub hl [0, 1, 2, 3] rfl)
    · have h := ie c12 h
      refine lv_iload_n E.1 E.2.1 dX13_setWeight_15 rfl (lv_at hl 3 rfl) ?_
      refine lv_iconst (v := 0) E.1 E.2.1 dX13_setWeight_16 (by decide) ?_
      refine lv_iconst (v := 3) E.1 E.2.1 dX13_setWeight_17 (by decide) ?_
      obtain ⟨r18, hc, h⟩ := bx h
      refine goI (world' := (w_X13 g h0 h1 h2 h3 h4 h5 h6 h7 h8 h9 h10 h11 h12 h13 x_g x_kept x_saved x_before x_was x_region x_parts x_next x_ways x_more x_whole x_isSaved x_changes x_isWithin x_code x_input x_length x_fault x_failed x_signs x_signMany x_at x_told x_toldMany)) hW hA (is := []) rfl (goS (rest := [.ref h0]) E hK hW [] rfl rfl (c_X13_in l g a3 0 3 (hf := hc) H.size) (va_cwS 3 hts gX13_setWeight_X13_in rfl rfl rfl (by decide +kernel) ⟨Nat.le_of_ble_eq_true rfl, Nat.le_of_ble_eq_true rfl⟩) hl.1 rfl rfl (Nat.le_of_ble_eq_true rfl) dX13_setWeight_18 ⟨Nat.zero_le _, Nat.zero_le _⟩) rfl rfl (fun H locs hW => ?_)
      refine lv_if_ne (tgt := 28) E.1 E.2.1 dX13_setWeight_21 (by decide) (fun c21 => ?_) (fun c21 => ?_)
      · have h := ie c21 h
        refine lv_aload_n E.1 E.2.1 dX13_setWeight_28 rfl (lv_at hl 0 rfl) ?_
        refine lv_iload_n E.1 E.2.1 dX13_setWeight_29 rfl (lv_at hl 1 rfl) ?_
        obtain ⟨r30, hc, h⟩ := bx h
        refine goI (world' := (w_X13 g h0 h1 h2 h3 h4 h5 h6 h7 h8 h9 h10 h11 h12 h13 x_g x_kept x_saved x_before x_was x_region x_parts x_next x_ways x_more x_whole x_isSaved x_changes x_isWithin x_code x_input x_length x_fault x_failed x_signs x_signMany x_at x_told x_toldMany)) hW hA (is := [0, 1, 2, 3, 4, 5, 6, 7, 8, 9, 10, 11, 12, 13]) rfl (goV (rest := [.ref h0]) E hK hW [0, 1, 2, 3, 4, 5, 6, 7, 8, 9, 10, 11, 12, 13] rfl rfl (c_X13_sum l g h0 h1 h2 h3 h4 h5 h6 h7 h8 h9 h10 h11 h12 h13 x_g x_kept x_saved x_before x_was x_region x_parts x_next x_ways x_more x_whole x_isSaved x_changes x_isWithin x_code x_input x_length x_fault x_failed x_signs x_signMany x_at x_told x_toldMany a1 (hf := hc) H.size) (cwV 1 hts gX13_setWeight_X13_sum rfl rfl rfl (by decide +kernel) ⟨Nat.le_of_ble_eq_true rfl, Nat.le_of_ble_eq_true rfl⟩) 0 rfl rfl rfl hl.1 rfl rfl (Nat.le_of_ble_eq_true rfl) dX13_setWeight_30 ⟨Nat.zero_le _, Nat.zero_le _⟩) rfl rfl (fun H locs hW => ?_)
        refine lv_aload_n E.1 E.2.1 dX13_setWeight_33 rfl (lv_at hl 0 rfl) ?_
        refine lv_iload_n E.1 E.2.1 dX13_setWeight_34 rfl (lv_at hl 1 rfl) ?_
        refine lv_iload_n E.1 E.2.1 dX13_setWeight_35 rfl (lv_at hl 2 rfl) ?_
        obtain ⟨r36, hc, h⟩ := bx h
        refine goI (world' := (w_X13 g h0 h1 h2 h3 h4 h5 h6 h7 h8 h9 h10 h11 h12 h13 x_g x_kept x_saved x_before x_was x_region x_parts x_next x_ways x_more x_whole x_isSaved x_changes x_isWithin x_code x_input x_length x_fault x_failed x_signs x_signMany x_at x_told x_toldMany)) hW hA (is := [0, 1, 2, 3, 4, 5, 6, 7, 8, 9, 10, 11, 12, 13]) rfl (goV (rest := [.int r30, .ref h0]) E hK hW [0, 1, 2, 3, 4, 5, 6, 7, 8, 9, 10, 11, 12, 13] rfl rfl (c_X13_weighs l g h0 h1 h2 h3 h4 h5 h6 h7 h8 h9 h10 h11 h12 h13 x_g x_kept x_saved x_before x_was x_region x_parts x_next x_ways x_more x_whole x_isSaved x_changes x_isWithin x_code x_input x_length x_fault x_failed x_signs x_signMany x_at x_told x_toldMany a1 a2 (hf := hc) H.size) (cwV 2 hts gX13_setWeight_X13_weighs rfl rfl rfl (by decide +kernel) ⟨Nat.le_of_ble_eq_true rfl, Nat.le_of_ble_eq_true rfl⟩) 0 rfl rfl rfl hl.1 rfl rfl (Nat.le_of_ble_eq_true rfl) dX13_setWeight_36 ⟨Nat.zero_le _, Nat.zero_le _⟩) rfl rfl (fun H locs hW => ?_)
        refine lv_isub E.1 E.2.1 dX13_setWeight_39 ?_
        refine lv_iload_n E.1 E.2.1 dX13_setWeight_40 rfl (lv_at hl 3 rfl) ?_
        refine lv_iadd E.1 E.2.1 dX13_setWeight_41 ?_
        refine lv_if_ne (tgt := 49) E.1 E.2.1 dX13_setWeight_42 (by decide) (fun c42 => ?_) (fun c42 => ?_)
        · have h := ie c42 h
          refine lv_iconst (v := 0) E.1 E.2.1 dX13_setWeight_49 (by decide) ?_
          exact J50 0 H locs ls h hW (lv_sub hl [0, 1, 2, 3] rfl)
        · have h := it c42 h
          refine lv_iconst (v := 2) E.1 E.2.1 dX13_setWeight_45 (by decide) ?_
          refine lv_goto (tgt := 50) E.1 E.2.1 dX13_setWeight_46 (by decide) ?_
          exact J50 2 H locs ls h hW (lv_sub hl [0, 1, 2, 3] rfl)
      · have h := it c21 h
        exact J24  H locs ls h hW (lv_sub hl [0, 1, 2, 3] rfl)
theorem c_X13_setWeight (l : Launch) (g : GE) (h0 h1 h2 h3 h4 h5 h6 h7 h8 h9 h10 h11 h12 h13 : Nat) (x_g : Nat → Int32) (x_kept : Nat → Int32) (x_saved : Nat → Int32) (x_before : Nat → Int32) (x_was : Nat → Int32) (x_region : Nat → Int32) (x_parts : Nat → Int64) (x_next : Nat → Int64) (x_ways : Nat → Int32) (x_more : Nat → Int32) (x_whole : Int64) (x_isSaved : Int32) (x_changes : Int32) (x_isWithin : Int32) (x_code : Int32) (x_input : Nat → Int32) (x_length : Int32) (x_fault : Int32) (x_failed : Int32) (x_signs : Nat → Int32) (x_signMany : Int32) (x_at : Int32) (x_told : Nat → Int32) (x_toldMany : Int32) (a1 : Int32) (a2 : Int32) (a3 : Int32) {res : Int32 × (Nat → Int32) × (Nat → Int32) × Int32 × Int32} (hf : f_X13_setWeight x_g x_kept x_changes x_isWithin x_code a1 a2 a3 = some res) : CI l yX13_setWeight wsX13_setWeight rm_X13_setWeight g [.ref h0, .int a1, .int a2, .int a3] (w_X13 g h0 h1 h2 h3 h4 h5 h6 h7 h8 h9 h10 h11 h12 h13 x_g x_kept x_saved x_before x_was x_region x_parts x_next x_ways x_more x_whole x_isSaved x_changes x_isWithin x_code x_input x_length x_fault x_failed x_signs x_signMany x_at x_told x_toldMany) (w_X13 g h0 h1 h2 h3 h4 h5 h6 h7 h8 h9 h10 h11 h12 h13 res.2.1 res.2.2.1 x_saved x_before x_was x_region x_parts x_next x_ways x_more x_whole x_isSaved res.2.2.2.1 x_isWithin res.2.2.2.2 x_input x_length x_fault x_failed x_signs x_signMany x_at x_told x_toldMany) res.1 :=
  mkI (cc := cX13_setWeight) (maxL := 5) (by decide) rfl (Nat.le_of_ble_eq_true rfl) (fun p e s m args below meth c A H locs ls E hK hA hW hl => k_X13_setWeight_0 E hK hA hf hW hl)

/-! PaperStormModel.weightOf(II)I X13_weightOf -/
abbrev rm_X13_weightOf : Room := { frames := 2, cells := 0, slots := 0, locals := 42 }
noncomputable def f_X13_weightOf (x_g : Nat → Int32) (x_code : Int32) (a1 : Int32) (a2 : Int32) : Option (Int32 × Int32) :=
  jo (fun (s1_20 : Int32) => jo (fun (x_code_36 : Int32) (s0_36 : Int32) => some (s0_36, x_code_36)) (fun j36 => (f_X13_fails x_code s1_20).bind fun r20 => if r20.1 = 0 then (f_X13_weighs x_g a1 a2).bind fun r33 => j36 r20.2 r33 else j36 r20.2 0)) (fun j20 => jo (j20 1) (fun j19 => (f_X13_isSort a1).bind fun r2 => if r2 = 0 then j19 else (f_X13_isSort a2).bind fun r9 => if r9 = 0 then j19 else j20 0))
abbrev G_X13_weightOf (p : Program) (l : Launch) (e : Env) (s : State) (m : MethodId) (args : Array Value) (below : List Frame) (meth : Method) (c : Code) (g : GE) (A : Nat → Prop) (h0 h1 h2 h3 h4 h5 h6 h7 h8 h9 h10 h11 h12 h13 : Nat) (x_g : Nat → Int32) (x_kept : Nat → Int32) (x_saved : Nat → Int32) (x_before : Nat → Int32) (x_was : Nat → Int32) (x_region : Nat → Int32) (x_parts : Nat → Int64) (x_next : Nat → Int64) (x_ways : Nat → Int32) (x_more : Nat → Int32) (x_whole : Int64) (x_isSaved : Int32) (x_changes : Int32) (x_isWithin : Int32) (x_input : Nat → Int32) (x_length : Int32) (x_fault : Int32) (x_failed : Int32) (x_signs : Nat → Int32) (x_signMany : Int32) (x_at : Int32) (x_told : Nat → Int32) (x_toldMany : Int32) (res : Int32 × Int32) (H : Heap) (locs : List Loc) (pc : Nat) (ls : Array Slot) (st : List Value) : Prop := W p l e (headSpec wsX13_weightOf rm_X13_weightOf).room s m args below meth c H locs 0 0 (MQ below (PoI g A (w_X13 g h0 h1 h2 h3 h4 h5 h6 h7 h8 h9 h10 h11 h12 h13 x_g x_kept x_saved x_before x_was x_region x_parts x_next x_ways x_more x_whole x_isSaved x_changes x_isWithin res.2 x_input x_length x_fault x_failed x_signs x_signMany x_at x_told x_toldMany) res.1) args s 0 0 A) (F0 m pc ls st)
set_option maxHeartbeats 4000000 in
set_option maxRecDepth 100000 in
theorem k_X13_weightOf_0 {p : Program} {l : Launch} {e : Env} {s : State} {m : MethodId} {args : Array Value} {below : List Frame} {meth : Method} {c : Code} {g : GE} {A : Nat → Prop} {h0 h1 h2 h3 h4 h5 h6 h7 h8 h9 h10 h11 h12 h13 : Nat} {x_g : Nat → Int32} {x_kept : Nat → Int32} {x_saved : Nat → Int32} {x_before : Nat → Int32} {x_was : Nat → Int32} {x_region : Nat → Int32} {x_parts : Nat → Int64} {x_next : Nat → Int64} {x_ways : Nat → Int32} {x_more : Nat → Int32} {x_whole : Int64} {x_isSaved : Int32} {x_changes : Int32} {x_isWithin : Int32} {x_code : Int32} {x_input : Nat → Int32} {x_length : Int32} {x_fault : Int32} {x_failed : Int32} {x_signs : Nat → Int32} {x_signMany : Int32} {x_at : Int32} {x_told : Nat → Int32} {x_toldMany : Int32} {res : Int32 × Int32} {H : Heap} {locs : List Loc} {ls : Array Slot} {a1 : Int32} {a2 : Int32}
    (E : En cX13_weightOf RX13 wsX13_weightOf 3 (some .int) p s m args meth c) (hK : KK g s) (hA : ∀ q, s.heap.size ≤ q → A q) (h : f_X13_weightOf x_g x_code a1 a2 = some res) (hW : Wo g A s H locs (w_X13 g h0 h1 h2 h3 h4 h5 h6 h7 h8 h9 h10 h11 h12 h13 x_g x_kept x_saved x_before x_was x_region x_parts x_next x_ways x_more x_whole x_isSaved x_changes x_isWithin x_code x_input x_length x_fault x_failed x_signs x_signMany x_at x_told x_toldMany)) (hl : lv_has ls 3 [(0, .ref h0), (1, .int a1), (2, .int a2)]) : G_X13_weightOf p l e s m args below meth c g A h0 h1 h2 h3 h4 h5 h6 h7 h8 h9 h10 h11 h12 h13 x_g x_kept x_saved x_before x_was x_region x_parts x_next x_ways x_more x_whole x_isSaved x_changes x_isWithin x_input x_length x_fault x_failed x_signs x_signMany x_at x_told x_toldMany res H locs 0 ls [] := by
  have hts := E.2.2.2.1
  unfold f_X13_weightOf at h
  obtain ⟨j20, hj20, h⟩ := jox1 h
  have J20 : ∀ (s1_20 : Int32) (H : Heap) (locs : List Loc) (ls : Array Slot), j20 s1_20 = some res → Wo g A s H locs (w_X13 g h0 h1 h2 h3 h4 h5 h6 h7 h8 h9 h10 h11 h12 h13 x_g x_kept x_saved x_before x_was x_region x_parts x_next x_ways x_more x_whole x_isSaved x_changes x_isWithin x_code x_input x_length x_fault x_failed x_signs x_signMany x_at x_told x_toldMany) → lv_has ls 3 [(0, .ref h0), (1, .int a1), (2, .int a2)] → G_X13_weightOf p l e s m args below meth c g A h0 h1 h2 h3 h4 h5 h6 h7 h8 h9 h10 h11 h12 h13 x_g x_kept x_saved x_before x_was x_region x_parts x_next x_ways x_more x_whole x_isSaved x_changes x_isWithin x_input x_length x_fault x_failed x_signs x_signMany x_at x_told x_toldMany res H locs 20 ls [.int s1_20, .ref h0] := by
    intro s1_20 H locs ls h hW hl
    rw [hj20] at h
    obtain ⟨j36, hj36, h⟩ := jox2 h
    have J36 : ∀ (x_code_36 : Int32) (s0_36 : Int32) (H : Heap) (locs : List Loc) (ls : Array Slot), j36 x_code_36 s0_36 = some res → Wo g A s H locs (w_X13 g h0 h1 h2 h3 h4 h5 h6 h7 h8 h9 h10 h11 h12 h13 x_g x_kept x_saved x_before x_was x_region x_parts x_next x_ways x_more x_whole x_isSaved x_changes x_isWithin x_code_36 x_input x_length x_fault x_failed x_signs x_signMany x_at x_told x_toldMany) → lv_has ls 3 [] → G_X13_weightOf p l e s m args below meth c g A h0 h1 h2 h3 h4 h5 h6 h7 h8 h9 h10 h11 h12 h13 x_g x_kept x_saved x_before x_was x_region x_parts x_next x_ways x_more x_whole x_isSaved x_changes x_isWithin x_input x_length x_fault x_failed x_signs x_signMany x_at x_told x_toldMany res H locs 36 ls [.int s0_36] := by
      intro x_code_36 s0_36 H locs ls h hW hl
      rw [hj36] at h
      obtain rfl := Option.some.inj h
      exact endI E rfl hW dX13_weightOf_36
    obtain ⟨r20, hc, h⟩ := bx h
    refine goI (world' := (w_X13 g h0 h1 h2 h3 h4 h5 h6 h7 h8 h9 h10 h11 h12 h13 x_g x_kept x_saved x_before x_was x_region x_parts x_next x_ways x_more x_whole x_isSaved x_changes x_isWithin r20.2 x_input x_length x_fault x_failed x_signs x_signMany x_at x_told x_toldMany)) hW hA (is := [0, 1, 2, 3, 4, 5, 6, 7, 8, 9, 10, 11, 12, 13]) rfl (goV (rest := []) E hK hW [0, 1, 2, 3, 4, 5, 6, 7, 8, 9, 10, 11, 12, 13] rfl rfl (c_X13_fails l g h0 h1 h2 h3 h4 h5 h6 h7 h8 h9 h10 h11 h12 h13 x_g x_kept x_saved x_before x_was x_region x_parts x_next x_ways x_more x_whole x_isSaved x_changes x_isWithin x_code x_input x_length x_fault x_failed x_signs x_signMany x_at x_told x_toldMany s1_20 (hf := hc) H.size) (cwV 1 hts gX13_weightOf_X13_fails rfl rfl rfl (by decide +kernel) ⟨Nat.le_of_ble_eq_true rfl, Nat.le_of_ble_eq_true rfl⟩) 0 rfl rfl rfl hl.1 rfl rfl (Nat.le_of_ble_eq_true rfl) dX13_weightOf_20 ⟨Nat.zero_le _, Nat.zero_le _⟩) rfl rfl (fun H locs hW => ?_)
    refine lv_if_eq (tgt := 30) E.1 E.2.1 dX13_weightOf_23 (by decide) (fun c23 => ?_) (fun c23 => ?_)
    · have h := it c23 h
      refine lv_aload_n E.1 E.2.1 dX13_weightOf_30 rfl (lv_at hl 0 rfl) ?_
      refine lv_iload_n E.1 E.2.1 dX13_weightOf_31 rfl (lv_at hl 1 rfl) ?_
      refine lv_iload_n E.1 E.2.1 dX13_weightOf_32 rfl (lv_at hl 2 rfl) ?_
      obtain ⟨r33, hc, h⟩ := bx h
      refine goI (world' := (w_X13 g h0 h1 h2 h3 h4 h5 h6 h7 h8 h9 h10 h11 h12 h13 x_g x_kept x_saved x_before x_was x_region x_parts x_next x_ways x_more x_whole x_isSaved x_changes x_isWithin r20.2 x_input x_length x_fault x_failed x_signs x_signMany x_at x_told x_toldMany)) hW hA (is := [0, 1, 2, 3, 4, 5, 6, 7, 8, 9, 10, 11, 12, 13]) rfl (goV (rest := []) E hK hW [0, 1, 2, 3, 4, 5, 6, 7, 8, 9, 10, 11, 12, 13] rfl rfl (c_X13_weighs l g h0 h1 h2 h3 h4 h5 h6 h7 h8 h9 h10 h11 h12 h13 x_g x_kept x_saved x_before x_was x_region x_parts x_next x_ways x_more x_whole x_isSaved x_changes x_isWithin r20.2 x_input x_length x_fault x_failed x_signs x_signMany x_at x_told x_toldMany a1 a2 (hf := hc) H.size) (cwV 2 hts gX13_weightOf_X13_weighs rfl rfl rfl (by decide +kernel) ⟨Nat.le_of_ble_eq_true rfl, Nat.le_of_ble_eq_true rfl⟩) 0 rfl rfl rfl hl.1 rfl rfl (Nat.le_of_ble_eq_true rfl) dX13_weightOf_33 ⟨Nat.zero_le _, Nat.zero_le _⟩) rfl rfl (fun H locs hW => ?_)
      exact J36 r20.2 r33 H locs ls h hW (lv_sub hl [] rfl)
    · have h := ie c23 h
      refine lv_iconst (v := 0) E.1 E.2.1 dX13_weightOf_26 (by decide) ?_
      refine lv_goto (tgt := 36) E.1 E.2.1 dX13_weightOf_27 (by decide) ?_
      exact J36 r20.2 0 H locs ls h hW (lv_sub hl [] rfl)
  obtain ⟨j19, hj19, h⟩ := jox0 h
  have J19 : ∀ (H : Heap) (locs : List Loc) (ls : Array Slot), j19 = some res → Wo g A s H locs (w_X13 g h0 h1 h2 h3 h4 h5 h6 h7 h8 h9 h10 h11 h12 h13 x_g x_kept x_saved x_before x_was x_region x_parts x_next x_ways x_more x_whole x_isSaved x_changes x_isWithin x_code x_input x_length x_fault x_failed x_signs x_signMany x_at x_told x_toldMany) → lv_has ls 3 [(0, .ref h0), (1, .int a1), (2, .int a2)] → G_X13_weightOf p l e s m args below meth c g A h0 h1 h2 h3 h4 h5 h6 h7 h8 h9 h10 h11 h12 h13 x_g x_kept x_saved x_before x_was x_region x_parts x_next x_ways x_more x_whole x_isSaved x_changes x_isWithin x_input x_length x_fault x_failed x_signs x_signMany x_at x_told x_toldMany res H locs 19 ls [.ref h0] := by
    intro H locs ls h hW hl
    rw [hj19] at h
    refine lv_iconst (v := 1) E.1 E.2.1 dX13_weightOf_19 (by decide) ?_
    exact J20 1 H locs ls h hW (lv_sub hl [0, 1, 2] rfl)
  refine lv_aload_n E.1 E.2.1 dX13_weightOf_0 rfl (lv_at hl 0 rfl) ?_
  refine lv_iload_n E.1 E.2.1 dX13_weightOf_1 rfl (lv_at hl 1 rfl) ?_
  obtain ⟨r2, hc, h⟩ := bx h
  refine goI (world' := (w_X13 g h0 h1 h2 h3 h4 h5 h6 h7 h8 h9 h10 h11 h12 h13 x_g x_kept x_saved x_before x_was x_region x_parts x_next x_ways x_more x_whole x_isSaved x_changes x_isWithin x_code x_input x_length x_fault x_failed x_signs x_signMany x_at x_told x_toldMany)) hW hA (is := []) rfl (goS (rest := [.ref h0]) E hK hW [] rfl rfl (c_X13_isSort l g a1 (hf := hc) H.size) (va_cwS 1 hts gX13_weightOf_X13_isSort rfl rfl rfl (by decide +kernel) ⟨Nat.le_of_ble_eq_true rfl, Nat.le_of_ble_eq_true rfl⟩) hl.1 rfl rfl (Nat.le_of_ble_eq_true rfl) dX13_weightOf_2 ⟨Nat.zero_le _, Nat.zero_le _⟩) rfl rfl (fun H locs hW => ?_)
  refine lv_if_eq (tgt := 19) E.1 E.2.1 dX13_weightOf_5 (by decide) (fun c5 => ?_) (fun c5 => ?_)
  · have h := it c5 h
    exact J19  H locs ls h hW (lv_sub hl [0, 1, 2] rfl)
  · have h := ie c5 h
    refine lv_iload_n E.1 E.2.1 dX13_weightOf_8 rfl (lv_at hl 2 rfl) ?_
    obtain ⟨r9, hc, h⟩ := bx h
    refine goI (world' := (w_X13 g h0 h1 h2 h3 h4 h5 h6 h7 h8 h9 h10 h11 h12 h13 x_g x_kept x_saved x_before x_was x_region x_parts x_next x_ways x_more x_whole x_isSaved x_changes x_isWithin x_code x_input x_length x_fault x_failed x_signs x_signMany x_at x_told x_toldMany)) hW hA (is := []) rfl (goS (rest := [.ref h0]) E hK hW [] rfl rfl (c_X13_isSort l g a2 (hf := hc) H.size) (va_cwS 1 hts gX13_weightOf_X13_isSort rfl rfl rfl (by decide +kernel) ⟨Nat.le_of_ble_eq_true rfl, Nat.le_of_ble_eq_true rfl⟩) hl.1 rfl rfl (Nat.le_of_ble_eq_true rfl) dX13_weightOf_9 ⟨Nat.zero_le _, Nat.zero_le _⟩) rfl rfl (fun H locs hW => ?_)
    refine lv_if_eq (tgt := 19) E.1 E.2.1 dX13_weightOf_12 (by decide) (fun c12 => ?_) (fun c12 => ?_)
    · have h := it c12 h
      exact J19  H locs ls h hW (lv_sub hl [0, 1, 2] rfl)
    · have h := ie c12 h
      refine lv_iconst (v := 0) E.1 E.2.1 dX13_weightOf_15 (by decide) ?_
      refine lv_goto (tgt := 20) E.1 E.2.1 dX13_weightOf_16 (by decide) ?_
      exact J20 0 H locs ls h hW (lv_sub hl [0, 1, 2] rfl)
theorem c_X13_weightOf (l : Launch) (g : GE) (h0 h1 h2 h3 h4 h5 h6 h7 h8 h9 h10 h11 h12 h13 : Nat) (x_g : Nat → Int32) (x_kept : Nat → Int32) (x_saved : Nat → Int32) (x_before : Nat → Int32) (x_was : Nat → Int32) (x_region : Nat → Int32) (x_parts : Nat → Int64) (x_next : Nat → Int64) (x_ways : Nat → Int32) (x_more : Nat → Int32) (x_whole : Int64) (x_isSaved : Int32) (x_changes : Int32) (x_isWithin : Int32) (x_code : Int32) (x_input : Nat → Int32) (x_length : Int32) (x_fault : Int32) (x_failed : Int32) (x_signs : Nat → Int32) (x_signMany : Int32) (x_at : Int32) (x_told : Nat → Int32) (x_toldMany : Int32) (a1 : Int32) (a2 : Int32) {res : Int32 × Int32} (hf : f_X13_weightOf x_g x_code a1 a2 = some res) : CI l yX13_weightOf wsX13_weightOf rm_X13_weightOf g [.ref h0, .int a1, .int a2] (w_X13 g h0 h1 h2 h3 h4 h5 h6 h7 h8 h9 h10 h11 h12 h13 x_g x_kept x_saved x_before x_was x_region x_parts x_next x_ways x_more x_whole x_isSaved x_changes x_isWithin x_code x_input x_length x_fault x_failed x_signs x_signMany x_at x_told x_toldMany) (w_X13 g h0 h1 h2 h3 h4 h5 h6 h7 h8 h9 h10 h11 h12 h13 x_g x_kept x_saved x_before x_was x_region x_parts x_next x_ways x_more x_whole x_isSaved x_changes x_isWithin res.2 x_input x_length x_fault x_failed x_signs x_signMany x_at x_told x_toldMany) res.1 :=
  mkI (cc := cX13_weightOf) (maxL := 3) (by decide) rfl (Nat.le_of_ble_eq_true rfl) (fun p e s m args below meth c A H locs ls E hK hA hW hl => k_X13_weightOf_0 E hK hA hf hW hl)

/-! PaperStormModel.weather()I X13_weather -/
abbrev rm_X13_weather : Room := { frames := 0, cells := 0, slots := 0, locals := 0 }
theorem in_X13_weather_X13 : ∀ w ∈ wsX130, w ∈ wsX13_weather := by decide +kernel
theorem lk_X13_weather_58 : Cond.fieldLink RX13 58 "PaperStormModel" "code" "I" ∈ wsX13_weather := by decide +kernel
theorem lk_X13_weather_7 : Cond.fieldLink RX13 7 "PaperStormModel" "g" "[I" ∈ wsX13_weather := by decide +kernel
noncomputable def f_X13_weather (x_g : Nat → Int32) (x_code : Int32) : Option (Int32 × Int32) :=
  some ((x_g (1 : Int32).toNatClampNeg), 0)
abbrev G_X13_weather (p : Program) (l : Launch) (e : Env) (s : State) (m : MethodId) (args : Array Value) (below : List Frame) (meth : Method) (c : Code) (g : GE) (A : Nat → Prop) (h0 h1 h2 h3 h4 h5 h6 h7 h8 h9 h10 h11 h12 h13 : Nat) (x_g : Nat → Int32) (x_kept : Nat → Int32) (x_saved : Nat → Int32) (x_before : Nat → Int32) (x_was : Nat → Int32) (x_region : Nat → Int32) (x_parts : Nat → Int64) (x_next : Nat → Int64) (x_ways : Nat → Int32) (x_more : Nat → Int32) (x_whole : Int64) (x_isSaved : Int32) (x_changes : Int32) (x_isWithin : Int32) (x_input : Nat → Int32) (x_length : Int32) (x_fault : Int32) (x_failed : Int32) (x_signs : Nat → Int32) (x_signMany : Int32) (x_at : Int32) (x_told : Nat → Int32) (x_toldMany : Int32) (res : Int32 × Int32) (H : Heap) (locs : List Loc) (pc : Nat) (ls : Array Slot) (st : List Value) : Prop := W p l e (headSpec wsX13_weather rm_X13_weather).room s m args below meth c H locs 0 0 (MQ below (PoI g A (w_X13 g h0 h1 h2 h3 h4 h5 h6 h7 h8 h9 h10 h11 h12 h13 x_g x_kept x_saved x_before x_was x_region x_parts x_next x_ways x_more x_whole x_isSaved x_changes x_isWithin res.2 x_input x_length x_fault x_failed x_signs x_signMany x_at x_told x_toldMany) res.1) args s 0 0 A) (F0 m pc ls st)
set_option maxHeartbeats 4000000 in
set_option maxRecDepth 100000 in
theorem k_X13_weather_0 {p : Program} {l : Launch} {e : Env} {s : State} {m : MethodId} {args : Array Value} {below : List Frame} {meth : Method} {c : Code} {g : GE} {A : Nat → Prop} {h0 h1 h2 h3 h4 h5 h6 h7 h8 h9 h10 h11 h12 h13 : Nat} {x_g : Nat → Int32} {x_kept : Nat → Int32} {x_saved : Nat → Int32} {x_before : Nat → Int32} {x_was : Nat → Int32} {x_region : Nat → Int32} {x_parts : Nat → Int64} {x_next : Nat → Int64} {x_ways : Nat → Int32} {x_more : Nat → Int32} {x_whole : Int64} {x_isSaved : Int32} {x_changes : Int32} {x_isWithin : Int32} {x_code : Int32} {x_input : Nat → Int32} {x_length : Int32} {x_fault : Int32} {x_failed : Int32} {x_signs : Nat → Int32} {x_signMany : Int32} {x_at : Int32} {x_told : Nat → Int32} {x_toldMany : Int32} {res : Int32 × Int32} {H : Heap} {locs : List Loc} {ls : Array Slot} 
    (E : En cX13_weather RX13 wsX13_weather 1 (some .int) p s m args meth c) (hK : KK g s) (hA : ∀ q, s.heap.size ≤ q → A q) (h : f_X13_weather x_g x_code = some res) (hW : Wo g A s H locs (w_X13 g h0 h1 h2 h3 h4 h5 h6 h7 h8 h9 h10 h11 h12 h13 x_g x_kept x_saved x_before x_was x_region x_parts x_next x_ways x_more x_whole x_isSaved x_changes x_isWithin x_code x_input x_length x_fault x_failed x_signs x_signMany x_at x_told x_toldMany)) (hl : lv_has ls 1 [(0, .ref h0)]) : G_X13_weather p l e s m args below meth c g A h0 h1 h2 h3 h4 h5 h6 h7 h8 h9 h10 h11 h12 h13 x_g x_kept x_saved x_before x_was x_region x_parts x_next x_ways x_more x_whole x_isSaved x_changes x_isWithin x_input x_length x_fault x_failed x_signs x_signMany x_at x_told x_toldMany res H locs 0 ls [] := by
  have hts := E.2.2.2.1
  unfold f_X13_weather at h
  refine lv_aload_n E.1 E.2.1 dX13_weather_0 rfl (lv_at hl 0 rfl) ?_
  refine lv_iconst (v := 0) E.1 E.2.1 dX13_weather_1 (by decide) ?_
  refine wPut (world' := (w_X13 g h0 h1 h2 h3 h4 h5 h6 h7 h8 h9 h10 h11 h12 h13 x_g x_kept x_saved x_before x_was x_region x_parts x_next x_ways x_more x_whole x_isSaved x_changes x_isWithin 0 x_input x_length x_fault x_failed x_signs x_signMany x_at x_told x_toldMany)) E hK in_X13_weather_X13 tyX13 tyX13_ok nmX13 hW 14 lk_X13_weather_58 0 rfl rfl (by decide) rfl rfl rfl rfl rfl (Nat.le_of_ble_eq_true rfl) dX13_weather_2 rfl (fun H locs hW => ?_)
  refine lv_aload_n E.1 E.2.1 dX13_weather_5 rfl (lv_at hl 0 rfl) ?_
  refine wGet (v := .ref h1) E hK in_X13_weather_X13 hW 0 lk_X13_weather_7 0 rfl rfl (by decide) rfl rfl dX13_weather_6 ?_
  refine lv_iconst (v := 1) E.1 E.2.1 dX13_weather_9 (by decide) ?_
  refine wIald E hK hW 1 rfl (by decide) dX13_weather_10 ?_
  obtain rfl := Option.some.inj h
  exact endI E rfl hW dX13_weather_11
theorem c_X13_weather (l : Launch) (g : GE) (h0 h1 h2 h3 h4 h5 h6 h7 h8 h9 h10 h11 h12 h13 : Nat) (x_g : Nat → Int32) (x_kept : Nat → Int32) (x_saved : Nat → Int32) (x_before : Nat → Int32) (x_was : Nat → Int32) (x_region : Nat → Int32) (x_parts : Nat → Int64) (x_next : Nat → Int64) (x_ways : Nat → Int32) (x_more : Nat → Int32) (x_whole : Int64) (x_isSaved : Int32) (x_changes : Int32) (x_isWithin : Int32) (x_code : Int32) (x_input : Nat → Int32) (x_length : Int32) (x_fault : Int32) (x_failed : Int32) (x_signs : Nat → Int32) (x_signMany : Int32) (x_at : Int32) (x_told : Nat → Int32) (x_toldMany : Int32) {res : Int32 × Int32} (hf : f_X13_weather x_g x_code = some res) : CI l yX13_weather wsX13_weather rm_X13_weather g [.ref h0] (w_X13 g h0 h1 h2 h3 h4 h5 h6 h7 h8 h9 h10 h11 h12 h13 x_g x_kept x_saved x_before x_was x_region x_parts x_next x_ways x_more x_whole x_isSaved x_changes x_isWithin x_code x_input x_length x_fault x_failed x_signs x_signMany x_at x_told x_toldMany) (w_X13 g h0 h1 h2 h3 h4 h5 h6 h7 h8 h9 h10 h11 h12 h13 x_g x_kept x_saved x_before x_was x_region x_parts x_next x_ways x_more x_whole x_isSaved x_changes x_isWithin res.2 x_input x_length x_fault x_failed x_signs x_signMany x_at x_told x_toldMany) res.1 :=
  mkI (cc := cX13_weather) (maxL := 1) (by decide) rfl (Nat.le_of_ble_eq_true rfl) (fun p e s m args below meth c A H locs ls E hK hA hW hl => k_X13_weather_0 E hK hA hf hW hl)

/-! PaperStormModel.day()I X13_day -/
abbrev rm_X13_day : Room := { frames := 0, cells := 0, slots := 0, locals := 0 }
theorem in_X13_day_X13 : ∀ w ∈ wsX130, w ∈ wsX13_day := by decide +kernel
theorem lk_X13_day_58 : Cond.fieldLink RX13 58 "PaperStormModel" "code" "I" ∈ wsX13_day := by decide +kernel
theorem lk_X13_day_7 : Cond.fieldLink RX13 7 "PaperStormModel" "g" "[I" ∈ wsX13_day := by decide +kernel
noncomputable def f_X13_day (x_g : Nat → Int32) (x_code : Int32) : Option (Int32 × Int32) :=
  some ((x_g (0 : Int32).toNatClampNeg), 0)
abbrev G_X13_day (p : Program) (l : Launch) (e : Env) (s : State) (m : MethodId) (args : Array Value) (below : List Frame) (meth : Method) (c : Code) (g : GE) (A : Nat → Prop) (h0 h1 h2 h3 h4 h5 h6 h7 h8 h9 h10 h11 h12 h13 : Nat) (x_g : Nat → Int32) (x_kept : Nat → Int32) (x_saved : Nat → Int32) (x_before : Nat → Int32) (x_was : Nat → Int32) (x_region : Nat → Int32) (x_parts : Nat → Int64) (x_next : Nat → Int64) (x_ways : Nat → Int32) (x_more : Nat → Int32) (x_whole : Int64) (x_isSaved : Int32) (x_changes : Int32) (x_isWithin : Int32) (x_input : Nat → Int32) (x_length : Int32) (x_fault : Int32) (x_failed : Int32) (x_signs : Nat → Int32) (x_signMany : Int32) (x_at : Int32) (x_told : Nat → Int32) (x_toldMany : Int32) (res : Int32 × Int32) (H : Heap) (locs : List Loc) (pc : Nat) (ls : Array Slot) (st : List Value) : Prop := W p l e (headSpec wsX13_day rm_X13_day).room s m args below meth c H locs 0 0 (MQ below (PoI g A (w_X13 g h0 h1 h2 h3 h4 h5 h6 h7 h8 h9 h10 h11 h12 h13 x_g x_kept x_saved x_before x_was x_region x_parts x_next x_ways x_more x_whole x_isSaved x_changes x_isWithin res.2 x_input x_length x_fault x_failed x_signs x_signMany x_at x_told x_toldMany) res.1) args s 0 0 A) (F0 m pc ls st)
set_option maxHeartbeats 4000000 in
set_option maxRecDepth 100000 in
theorem k_X13_day_0 {p : Program} {l : Launch} {e : Env} {s : State} {m : MethodId} {args : Array Value} {below : List Frame} {meth : Method} {c : Code} {g : GE} {A : Nat → Prop} {h0 h1 h2 h3 h4 h5 h6 h7 h8 h9 h10 h11 h12 h13 : Nat} {x_g : Nat → Int32} {x_kept : Nat → Int32} {x_saved : Nat → Int32} {x_before : Nat → Int32} {x_was : Nat → Int32} {x_region : Nat → Int32} {x_parts : Nat → Int64} {x_next : Nat → Int64} {x_ways : Nat → Int32} {x_more : Nat → Int32} {x_whole : Int64} {x_isSaved : Int32} {x_changes : Int32} {x_isWithin : Int32} {x_code : Int32} {x_input : Nat → Int32} {x_length : Int32} {x_fault : Int32} {x_failed : Int32} {x_signs : Nat → Int32} {x_signMany : Int32} {x_at : Int32} {x_told : Nat → Int32} {x_toldMany : Int32} {res : Int32 × Int32} {H : Heap} {locs : List Loc} {ls : Array Slot} 
    (E : En cX13_day RX13 wsX13_day 1 (some .int) p s m args meth c) (hK : KK g s) (hA : ∀ q, s.heap.size ≤ q → A q) (h : f_X13_day x_g x_code = some res) (hW : Wo g A s H locs (w_X13 g h0 h1 h2 h3 h4 h5 h6 h7 h8 h9 h10 h11 h12 h13 x_g x_kept x_saved x_before x_was x_region x_parts x_next x_ways x_more x_whole x_isSaved x_changes x_isWithin x_code x_input x_length x_fault x_failed x_signs x_signMany x_at x_told x_toldMany)) (hl : lv_has ls 1 [(0, .ref h0)]) : G_X13_day p l e s m args below meth c g A h0 h1 h2 h3 h4 h5 h6 h7 h8 h9 h10 h11 h12 h13 x_g x_kept x_saved x_before x_was x_region x_parts x_next x_ways x_more x_whole x_isSaved x_changes x_isWithin x_input x_length x_fault x_failed x_signs x_signMany x_at x_told x_toldMany res H locs 0 ls [] := by
  have hts := E.2.2.2.1
  unfold f_X13_day at h
  refine lv_aload_n E.1 E.2.1 dX13_day_0 rfl (lv_at hl 0 rfl) ?_
  refine lv_iconst (v := 0) E.1 E.2.1 dX13_day_1 (by decide) ?_
  refine wPut (world' := (w_X13 g h0 h1 h2 h3 h4 h5 h6 h7 h8 h9 h10 h11 h12 h13 x_g x_kept x_saved x_before x_was x_region x_parts x_next x_ways x_more x_whole x_isSaved x_changes x_isWithin 0 x_input x_length x_fault x_failed x_signs x_signMany x_at x_told x_toldMany)) E hK in_X13_day_X13 tyX13 tyX13_ok nmX13 hW 14 lk_X13_day_58 0 rfl rfl (by decide) rfl rfl rfl rfl rfl (Nat.le_of_ble_eq_true rfl) dX13_day_2 rfl (fun H locs hW => ?_)
  refine lv_aload_n E.1 E.2.1 dX13_day_5 rfl (lv_at hl 0 rfl) ?_
  refine wGet (v := .ref h1) E hK in_X13_day_X13 hW 0 lk_X13_day_7 0 rfl rfl (by decide) rfl rfl dX13_day_6 ?_
  refine lv_iconst (v := 0) E.1 E.2.1 dX13_day_9 (by decide) ?_
  refine wIald E hK hW 1 rfl (by decide) dX13_day_10 ?_
  obtain rfl := Option.some.inj h
  exact endI E rfl hW dX13_day_11
theorem c_X13_day (l : Launch) (g : GE) (h0 h1 h2 h3 h4 h5 h6 h7 h8 h9 h10 h11 h12 h13 : Nat) (x_g : Nat → Int32) (x_kept : Nat → Int32) (x_saved : Nat → Int32) (x_before : Nat → Int32) (x_was : Nat → Int32) (x_region : Nat → Int32) (x_parts : Nat → Int64) (x_next : Nat → Int64) (x_ways : Nat → Int32) (x_more : Nat → Int32) (x_whole : Int64) (x_isSaved : Int32) (x_changes : Int32) (x_isWithin : Int32) (x_code : Int32) (x_input : Nat → Int32) (x_length : Int32) (x_fault : Int32) (x_failed : Int32) (x_signs : Nat → Int32) (x_signMany : Int32) (x_at : Int32) (x_told : Nat → Int32) (x_toldMany : Int32) {res : Int32 × Int32} (hf : f_X13_day x_g x_code = some res) : CI l yX13_day wsX13_day rm_X13_day g [.ref h0] (w_X13 g h0 h1 h2 h3 h4 h5 h6 h7 h8 h9 h10 h11 h12 h13 x_g x_kept x_saved x_before x_was x_region x_parts x_next x_ways x_more x_whole x_isSaved x_changes x_isWithin x_code x_input x_length x_fault x_failed x_signs x_signMany x_at x_told x_toldMany) (w_X13 g h0 h1 h2 h3 h4 h5 h6 h7 h8 h9 h10 h11 h12 h13 x_g x_kept x_saved x_before x_was x_region x_parts x_next x_ways x_more x_whole x_isSaved x_changes x_isWithin res.2 x_input x_length x_fault x_failed x_signs x_signMany x_at x_told x_toldMany) res.1 :=
  mkI (cc := cX13_day) (maxL := 1) (by decide) rfl (Nat.le_of_ble_eq_true rfl) (fun p e s m args below meth c A H locs ls E hK hA hW hl => k_X13_day_0 E hK hA hf hW hl)

/-! PaperStormModel.shared(JJ)J X13_shared -/
abbrev rm_X13_shared : Room := { frames := 0, cells := 0, slots := 0, locals := 0 }
noncomputable def f_X13_shared_6 (z31 : Int64 → Option (Int64)) : Nat → Int64 → Int64 → Option (Int64)
  | 0, _, _ => none
  | n + 1, l4_6, l6_6 => if (lg_cmp l6_6 0) ≤ 0 then z31 l4_6 else if l6_6 = 0 then none else f_X13_shared_6 z31 n l6_6 (l4_6 - l4_6 / l6_6 * l6_6)
noncomputable def f_X13_shared (a0 : Int64) (a2 : Int64) : Option (Int64) :=
  f_X13_shared_6 (fun l4_31e => some (l4_31e)) 1000 a0 a2
abbrev G_X13_shared (p : Program) (l : Launch) (e : Env) (s : State) (m : MethodId) (args : Array Value) (below : List Frame) (meth : Method) (c : Code) (g : GE) (A : Nat → Prop) (res : Int64) (H : Heap) (locs : List Loc) (pc : Nat) (ls : Array Slot) (st : List Value) : Prop := W p l e (headSpec wsX13_shared rm_X13_shared).room s m args below meth c H locs 0 0 (MQ below (PoJ g A ([] : va_W) res) args s 0 0 A) (F0 m pc ls st)
set_option maxHeartbeats 4000000 in
set_option maxRecDepth 100000 in
theorem k_X13_shared_6 {p : Program} {l : Launch} {e : Env} {s : State} {m : MethodId} {args : Array Value} {below : List Frame} {meth : Method} {c : Code} {g : GE} {A : Nat → Prop} {res : Int64} {z31 : Int64 → Option (Int64)}
    (E : En cX13_shared RX13 wsX13_shared 10 (some .long) p s m args meth c) (hK : KK g s) (hA : ∀ q, s.heap.size ≤ q → A q)
    (hz31 : ∀ (l4_31e : Int64) (H : Heap) (locs : List Loc) (ls : Array Slot), z31 l4_31e = some res → Wo g A s H locs ([] : va_W) → lv_has ls 10 [(4, .long l4_31e)] → G_X13_shared p l e s m args below meth c g A res H locs 31 ls [])
    : ∀ (n : Nat) (l4_6 : Int64) (l6_6 : Int64) (H : Heap) (locs : List Loc) (ls : Array Slot), f_X13_shared_6 z31 n l4_6 l6_6 = some res → Wo g A s H locs ([] : va_W) → lv_has ls 10 [(4, .long l4_6), (6, .long l6_6)] → G_X13_shared p l e s m args below meth c g A res H locs 6 ls [] := by
  have hts := E.2.2.2.1
  intro n
  induction n with
  | zero => intro l4_6 l6_6 H locs ls h hW hl; rw [f_X13_shared_6] at h; cases h
  | succ n ih =>
    intro l4_6 l6_6 H locs ls h hW hl
    rw [f_X13_shared_6] at h
    refine lv_lload E.1 E.2.1 dX13_shared_6 (lv_at hl 1 rfl) ?_
    refine lv_lconst (v := 0) E.1 E.2.1 dX13_shared_8 (by decide) ?_
    refine W.lcmp E.1 E.2.1 dX13_shared_9 ?_
    refine lv_if_le (tgt := 31) E.1 E.2.1 dX13_shared_10 (by decide) (fun c10 => ?_) (fun c10 => ?_)
    · have h := it c10 h
      exact hz31 l4_6 H locs ls h hW (lv_sub hl [0] rfl)
    · have h := ie c10 h
      refine lv_lload E.1 E.2.1 dX13_shared_13 (lv_at hl 0 rfl) ?_
      refine lv_lload E.1 E.2.1 dX13_shared_15 (lv_at hl 1 rfl) ?_
      obtain ⟨hn17, h⟩ := ox h
      refine lv_lrem E.1 E.2.1 dX13_shared_17 hn17 ?_
      refine lv_lstore (lv' := [(8, .long (l4_6 - l4_6 / l6_6 * l6_6)), (4, .long l4_6), (6, .long l6_6)]) E.1 E.2.1 dX13_shared_18 hl (by decide) rfl (fun ls hl => ?_)
      refine lv_lload E.1 E.2.1 dX13_shared_20 (lv_at hl 2 rfl) ?_
      refine lv_lstore (lv' := [(4, .long l6_6), (8, .long (l4_6 - l4_6 / l6_6 * l6_6)), (6, .long l6_6)]) E.1 E.2.1 dX13_shared_22 hl (by decide) rfl (fun ls hl => ?_)
      refine lv_lload E.1 E.2.1 dX13_shared_24 (lv_at hl 1 rfl) ?_
      refine lv_lstore (lv' := [(6, .long (l4_6 - l4_6 / l6_6 * l6_6)), (4, .long l6_6), (8, .long (l4_6 - l4_6 / l6_6 * l6_6))]) E.1 E.2.1 dX13_shared_26 hl (by decide) rfl (fun ls hl => ?_)
      refine lv_goto (tgt := 6) E.1 E.2.1 dX13_shared_28 (by decide) ?_
      exact ih l6_6 (l4_6 - l4_6 / l6_6 * l6_6) H locs ls h hW (lv_sub hl [1, 0] rfl)
set_option maxHeartbeats 4000000 in
set_option maxRecDepth 100000 in
theorem k_X13_shared_0 {p : Program} {l : Launch} {e : Env} {s : State} {m : MethodId} {args : Array Value} {below : List Frame} {meth : Method} {c : Code} {g : GE} {A : Nat → Prop} {res : Int64} {H : Heap} {locs : List Loc} {ls : Array Slot} {a0 : Int64} {a2 : Int64}
    (E : En cX13_shared RX13 wsX13_shared 10 (some .long) p s m args meth c) (hK : KK g s) (hA : ∀ q, s.heap.size ≤ q → A q) (h : f_X13_shared a0 a2 = some res) (hW : Wo g A s H locs ([] : va_W)) (hl : lv_has ls 10 [(0, .long a0), (2, .long a2)]) : G_X13_shared p l e s m args below meth c g A res H locs 0 ls [] := by
  have hts := E.2.2.2.1
  unfold f_X13_shared at h
  refine lv_lload_n E.1 E.2.1 dX13_shared_0 rfl (lv_at hl 0 rfl) ?_
  refine lv_lstore (lv' := [(4, .long a0), (0, .long a0), (2, .long a2)]) E.1 E.2.1 dX13_shared_1 hl (by decide) rfl (fun ls hl => ?_)
  refine lv_lload_n E.1 E.2.1 dX13_shared_3 rfl (lv_at hl 2 rfl) ?_
  refine lv_lstore (lv' := [(6, .long a2), (4, .long a0), (0, .long a0), (2, .long a2)]) E.1 E.2.1 dX13_shared_4 hl (by decide) rfl (fun ls hl => ?_)
  refine k_X13_shared_6 E hK hA ?_ 1000 a0 a2 H locs ls h hW (lv_sub hl [1, 0] rfl)
  · intro l4_31e H locs ls h hW hl
    refine lv_lload E.1 E.2.1 dX13_shared_31 (lv_at hl 0 rfl) ?_
    obtain rfl := Option.some.inj h
    exact endJ E hW dX13_shared_33
theorem c_X13_shared (l : Launch) (g : GE) (a0 : Int64) (a2 : Int64) {res : Int64} (hf : f_X13_shared a0 a2 = some res) : CJ l yX13_shared wsX13_shared rm_X13_shared g [.long a0, .long a2] ([] : va_W) ([] : va_W) res :=
  mkJ (cc := cX13_shared) (maxL := 10) (by decide) rfl (Nat.le_of_ble_eq_true rfl) (fun p e s m args below meth c A H locs ls E hK hA hW hl => k_X13_shared_0 E hK hA hf hW hl)

/-! PaperStormModel.goes(I)V X13_goes -/
abbrev rm_X13_goes : Room := { frames := 2, cells := 0, slots := 0, locals := 43 }
theorem in_X13_goes_X13 : ∀ w ∈ wsX130, w ∈ wsX13_goes := by decide +kernel
theorem lk_X13_goes_133 : Cond.fieldLink RX13 133 "PaperStormModel" "whole" "J" ∈ wsX13_goes := by decide +kernel
theorem lk_X13_goes_28 : Cond.fieldLink RX13 28 "PaperStormModel" "parts" "[J" ∈ wsX13_goes := by decide +kernel
theorem lk_X13_goes_32 : Cond.fieldLink RX13 32 "PaperStormModel" "next" "[J" ∈ wsX13_goes := by decide +kernel
theorem lk_X13_goes_35 : Cond.fieldLink RX13 35 "PaperStormModel" "ways" "[I" ∈ wsX13_goes := by decide +kernel
theorem lk_X13_goes_38 : Cond.fieldLink RX13 38 "PaperStormModel" "more" "[I" ∈ wsX13_goes := by decide +kernel
theorem lk_X13_goes_7 : Cond.fieldLink RX13 7 "PaperStormModel" "g" "[I" ∈ wsX13_goes := by decide +kernel
noncomputable def f_X13_goes_5 (x_g : Nat → Int32) (z39 : Int64 → Option ((Nat → Int64) × (Nat → Int64) × (Nat → Int32) × (Nat → Int32) × Int64)) : Nat → Int64 → Int32 → Option ((Nat → Int64) × (Nat → Int64) × (Nat → Int32) × (Nat → Int32) × Int64)
  | 0, _, _ => none
  | n + 1, l2_5, l4_5 => if 4 ≤ l4_5 then z39 l2_5 else (f_X13_sum x_g l4_5).bind fun r16 => (f_X13_shared l2_5 ((r16).toInt64)).bind fun r20 => if r20 = 0 then none else (f_X13_sum x_g l4_5).bind fun r27 => f_X13_goes_5 x_g z39 n ((l2_5 / r20) * ((r27).toInt64)) (l4_5 + 1)
noncomputable def f_X13_goes_42 (x_g : Nat → Int32) (z100 : (Nat → Int64) → (Nat → Int32) → Option ((Nat → Int64) × (Nat → Int64) × (Nat → Int32) × (Nat → Int32) × Int64)) : Nat → Int32 → (Nat → Int64) → (Nat → Int32) → Option ((Nat → Int64) × (Nat → Int64) × (Nat → Int32) × (Nat → Int32) × Int64)
  | 0, _, _, _ => none
  | n + 1, l4_42, x_parts_42, x_ways_42 => if 4 ≤ l4_42 then z100 x_parts_42 x_ways_42 else jo (fun (s1_70 : Int32) (s2_70 : Int64) => jo (fun (x_parts_93 : Nat → Int64) (s1_93 : Int32) (s2_93 : Int32) => if s1_93 < 0 ∨ 4 ≤ s1_93.toNatClampNeg then none else f_X13_goes_42 x_g z100 n (l4_42 + 1) x_parts_93 (upd x_ways_42 s1_93.toNatClampNeg s2_93)) (fun j93 => if s1_70 < 0 ∨ 4 ≤ s1_70.toNatClampNeg then none else if l4_42 = (x_g (1 : Int32).toNatClampNeg) then j93 (vp_updL x_parts_42 s1_70.toNatClampNeg s2_70) l4_42 1 else j93 (vp_updL x_parts_42 s1_70.toNatClampNeg s2_70) l4_42 0)) (fun j70 => if l4_42 = (x_g (1 : Int32).toNatClampNeg) then j70 l4_42 1 else j70 l4_42 0)
noncomputable def f_X13_goes_142 (x_g : Nat → Int32) (x_parts : Nat → Int64) (x_ways : Nat → Int32) (l2 : Int64) (l5 : Int32) (z223 : (Nat → Int64) → (Nat → Int32) → Option ((Nat → Int64) × (Nat → Int64) × (Nat → Int32) × (Nat → Int32) × Int64)) : Nat → Int32 → (Nat → Int64) → (Nat → Int32) → Option ((Nat → Int64) × (Nat → Int64) × (Nat → Int32) × (Nat → Int32) × Int64)
  | 0, _, _, _ => none
  | n + 1, l6_142, x_next_142, x_more_142 => if 4 ≤ l6_142 then z223 x_next_142 x_more_142 else jo (fun (x_next_215 : Nat → Int64) (s1_215 : Int32) (s2_215 : Int32) (s3_215 : Int32) => if s1_215 < 0 ∨ 4 ≤ s1_215.toNatClampNeg then none else f_X13_goes_142 x_g x_parts x_ways l2 l5 z223 n (l6_142 + 1) x_next_215 (upd x_more_142 s1_215.toNatClampNeg (s2_215 + s3_215))) (fun j215 => if l5 < 0 ∨ 4 ≤ l5.toNatClampNeg then none else if l6_142 < 0 ∨ 4 ≤ l6_142.toNatClampNeg then none else (f_X13_weighs x_g l6_142 l5).bind fun r168 => (f_X13_sum x_g l6_142).bind fun r177 => if ((r177).toInt64) = 0 then none else (f_X13_weighs x_g l6_142 l5).bind fun r198 => if r198 ≤ 0 then j215 (vp_updL x_next_142 l5.toNatClampNeg ((x_next_142 l5.toNatClampNeg) + (((x_parts l6_142.toNatClampNeg) * ((r168).toInt64)) * (l2 / ((r177).toInt64))))) l5 (x_more_142 l5.toNatClampNeg) 0 else j215 (vp_updL x_next_142 l5.toNatClampNeg ((x_next_142 l5.toNatClampNeg) + (((x_parts l6_142.toNatClampNeg) * ((r168).toInt64)) * (l2 / ((r177).toInt64))))) l5 (x_more_142 l5.toNatClampNeg) (x_ways l6_142.toNatClampNeg))
noncomputable def f_X13_goes_117 (x_g : Nat → Int32) (x_parts : Nat → Int64) (x_ways : Nat → Int32) (l2 : Int64) (z229 : (Nat → Int64) → (Nat → Int32) → Option ((Nat → Int64) × (Nat → Int64) × (Nat → Int32) × (Nat → Int32) × Int64)) : Nat → Int32 → (Nat → Int64) → (Nat → Int32) → Option ((Nat → Int64) × (Nat → Int64) × (Nat → Int32) × (Nat → Int32) × Int64)
  | 0, _, _, _ => none
  | n + 1, l5_117, x_next_117, x_more_117 => if 4 ≤ l5_117 then z229 x_next_117 x_more_117 else if l5_117 < 0 ∨ 4 ≤ l5_117.toNatClampNeg then none else f_X13_goes_142 x_g x_parts x_ways l2 l5_117 (fun x_next_223e x_more_223e => f_X13_goes_117 x_g x_parts x_ways l2 z229 n (l5_117 + 1) x_next_223e x_more_223e) 1000 0 (vp_updL x_next_117 l5_117.toNatClampNeg 0) (upd x_more_117 l5_117.toNatClampNeg 0)
noncomputable def f_X13_goes_232 (x_next : Nat → Int64) (x_more : Nat → Int32) (z272 : (Nat → Int64) → (Nat → Int32) → Option ((Nat → Int64) × (Nat → Int64) × (Nat → Int32) × (Nat → Int32) × Int64)) : Nat → Int32 → (Nat → Int64) → (Nat → Int32) → Option ((Nat → Int64) × (Nat → Int64) × (Nat → Int32) × (Nat → Int32) × Int64)
  | 0, _, _, _ => none
  | n + 1, l5_232, x_parts_232, x_ways_232 => if 4 ≤ l5_232 then z272 x_parts_232 x_ways_232 else if l5_232 < 0 ∨ 4 ≤ l5_232.toNatClampNeg then none else f_X13_goes_232 x_next x_more z272 n (l5_232 + 1) (vp_updL x_parts_232 l5_232.toNatClampNeg (x_next l5_232.toNatClampNeg)) (upd x_ways_232 l5_232.toNatClampNeg (x_more l5_232.toNatClampNeg))
noncomputable def f_X13_goes_108 (x_g : Nat → Int32) (l1 : Int32) (l2 : Int64) (z288 : (Nat → Int64) → (Nat → Int64) → (Nat → Int32) → (Nat → Int32) → Int64 → Option ((Nat → Int64) × (Nat → Int64) × (Nat → Int32) × (Nat → Int32) × Int64)) : Nat → Int32 → (Nat → Int64) → (Nat → Int64) → (Nat → Int32) → (Nat → Int32) → Int64 → Option ((Nat → Int64) × (Nat → Int64) × (Nat → Int32) × (Nat → Int32) × Int64)
  | 0, _, _, _, _, _, _ => none
  | n + 1, l4_108, x_parts_108, x_next_108, x_ways_108, x_more_108, x_whole_108 => if l1 ≤ l4_108 then z288 x_parts_108 x_next_108 x_ways_108 x_more_108 x_whole_108 else f_X13_goes_117 x_g x_parts_108 x_ways_108 l2 (fun x_next_229e x_more_229e => f_X13_goes_232 x_next_229e x_more_229e (fun x_parts_272e x_ways_272e => f_X13_goes_108 x_g l1 l2 z288 n (l4_108 + 1) x_parts_272e x_next_229e x_ways_272e x_more_229e (x_whole_108 * l2)) 1000 0 x_parts_108 x_ways_108) 1000 0 x_next_108 x_more_108
noncomputable def f_X13_goes (x_g : Nat → Int32) (x_parts : Nat → Int64) (x_next : Nat → Int64) (x_ways : Nat → Int32) (x_more : Nat → Int32) (x_whole : Int64) (a1 : Int32) : Option ((Nat → Int64) × (Nat → Int64) × (Nat → Int32) × (Nat → Int32) × Int64) :=
  f_X13_goes_5 x_g (fun l2_39e => f_X13_goes_42 x_g (fun x_parts_100e x_ways_100e => f_X13_goes_108 x_g a1 l2_39e (fun x_parts_288e x_next_288e x_ways_288e x_more_288e x_whole_288e => some (x_parts_288e, x_next_288e, x_ways_288e, x_more_288e, x_whole_288e)) 1000 0 x_parts_100e x_next x_ways_100e x_more 1) 1000 0 x_parts x_ways) 1000 1 0
abbrev G_X13_goes (p : Program) (l : Launch) (e : Env) (s : State) (m : MethodId) (args : Array Value) (below : List Frame) (meth : Method) (c : Code) (g : GE) (A : Nat → Prop) (h0 h1 h2 h3 h4 h5 h6 h7 h8 h9 h10 h11 h12 h13 : Nat) (x_g : Nat → Int32) (x_kept : Nat → Int32) (x_saved : Nat → Int32) (x_before : Nat → Int32) (x_was : Nat → Int32) (x_region : Nat → Int32) (x_isSaved : Int32) (x_changes : Int32) (x_isWithin : Int32) (x_code : Int32) (x_input : Nat → Int32) (x_length : Int32) (x_fault : Int32) (x_failed : Int32) (x_signs : Nat → Int32) (x_signMany : Int32) (x_at : Int32) (x_told : Nat → Int32) (x_toldMany : Int32) (res : (Nat → Int64) × (Nat → Int64) × (Nat → Int32) × (Nat → Int32) × Int64) (H : Heap) (locs : List Loc) (pc : Nat) (ls : Array Slot) (st : List Value) : Prop := W p l e (headSpec wsX13_goes rm_X13_goes).room s m args below meth c H locs 0 0 (MQ below (PoV g A (w_X13 g h0 h1 h2 h3 h4 h5 h6 h7 h8 h9 h10 h11 h12 h13 x_g x_kept x_saved x_before x_was x_region res.1 res.2.1 res.2.2.1 res.2.2.2.1 res.2.2.2.2 x_isSaved x_changes x_isWithin x_code x_input x_length x_fault x_failed x_signs x_signMany x_at x_told x_toldMany)) args s 0 0 A) (F0 m pc ls st)
set_option maxHeartbeats 4000000 in
set_option maxRecDepth 100000 in
theorem k_X13_goes_5 {p : Program} {l : Launch} {e : Env} {s : State} {m : MethodId} {args : Array Value} {below : List Frame} {meth : Method} {c : Code} {g : GE} {A : Nat → Prop} {h0 h1 h2 h3 h4 h5 h6 h7 h8 h9 h10 h11 h12 h13 : Nat} {x_g : Nat → Int32} {x_kept : Nat → Int32} {x_saved : Nat → Int32} {x_before : Nat → Int32} {x_was : Nat → Int32} {x_region : Nat → Int32} {x_parts : Nat → Int64} {x_next : Nat → Int64} {x_ways : Nat → Int32} {x_more : Nat → Int32} {x_whole : Int64} {x_isSaved : Int32} {x_changes : Int32} {x_isWithin : Int32} {x_code : Int32} {x_input : Nat → Int32} {x_length : Int32} {x_fault : Int32} {x_failed : Int32} {x_signs : Nat → Int32} {x_signMany : Int32} {x_at : Int32} {x_told : Nat → Int32} {x_toldMany : Int32} {res : (Nat → Int64) × (Nat → Int64) × (Nat → Int32) × (Nat → Int32) × Int64} {l1 : Int32} {z39 : Int64 → Option ((Nat → Int64) × (Nat → Int64) × (Nat → Int32) × (Nat → Int32) × Int64)}
    (E : En cX13_goes RX13 wsX13_goes 7 none p s m args meth c) (hK : KK g s) (hA : ∀ q, s.heap.size ≤ q → A q)
    (hz39 : ∀ (l2_39e : Int64) (H : Heap) (locs : List Loc) (ls : Array Slot), z39 l2_39e = some res → Wo g A s H locs (w_X13 g h0 h1 h2 h3 h4 h5 h6 h7 h8 h9 h10 h11 h12 h13 x_g x_kept x_saved x_before x_was x_region x_parts x_next x_ways x_more x_whole x_isSaved x_changes x_isWithin x_code x_input x_length x_fault x_failed x_signs x_signMany x_at x_told x_toldMany) → lv_has ls 7 [(0, .ref h0), (1, .int l1), (2, .long l2_39e)] → G_X13_goes p l e s m args below meth c g A h0 h1 h2 h3 h4 h5 h6 h7 h8 h9 h10 h11 h12 h13 x_g x_kept x_saved x_before x_was x_region x_isSaved x_changes x_isWithin x_code x_input x_length x_fault x_failed x_signs x_signMany x_at x_told x_toldMany res H locs 39 ls [])
    : ∀ (n : Nat) (l2_5 : Int64) (l4_5 : Int32) (H : Heap) (locs : List Loc) (ls : Array Slot), f_X13_goes_5 x_g z39 n l2_5 l4_5 = some res → Wo g A s H locs (w_X13 g h0 h1 h2 h3 h4 h5 h6 h7 h8 h9 h10 h11 h12 h13 x_g x_kept x_saved x_before x_was x_region x_parts x_next x_ways x_more x_whole x_isSaved x_changes x_isWithin x_code x_input x_length x_fault x_failed x_signs x_signMany x_at x_told x_toldMany) → lv_has ls 7 [(0, .ref h0), (1, .int l1), (2, .long l2_5), (4, .int l4_5)] → G_X13_goes p l e s m args below meth c g A h0 h1 h2 h3 h4 h5 h6 h7 h8 h9 h10 h11 h12 h13 x_g x_kept x_saved x_before x_was x_region x_isSaved x_changes x_isWithin x_code x_input x_length x_fault x_failed x_signs x_signMany x_at x_told x_toldMany res H locs 5 ls [] := by
  have hts := E.2.2.2.1
  intro n
  induction n with
  | zero => intro l2_5 l4_5 H locs ls h hW hl; rw [f_X13_goes_5] at h; cases h
  | succ n ih =>
    intro l2_5 l4_5 H locs ls h hW hl
    rw [f_X13_goes_5] at h
    refine lv_iload E.1 E.2.1 dX13_goes_5 (lv_at hl 3 rfl) ?_
    refine lv_iconst (v := 4) E.1 E.2.1 dX13_goes_7 (by decide) ?_
    refine lv_icmp_ge (tgt := 39) E.1 E.2.1 dX13_goes_8 (by decide) (fun c8 => ?_) (fun c8 => ?_)
    · have h := it c8 h
      exact hz39 l2_5 H locs ls h hW (lv_sub hl [0, 1, 2] rfl)
    · have h := ie c8 h
      refine lv_lload_n E.1 E.2.1 dX13_goes_11 rfl (lv_at hl 2 rfl) ?_
      refine lv_lload_n E.1 E.2.1 dX13_goes_12 rfl (lv_at hl 2 rfl) ?_
      refine lv_aload_n E.1 E.2.1 dX13_goes_13 rfl (lv_at hl 0 rfl) ?_
      refine lv_iload E.1 E.2.1 dX13_goes_14 (lv_at hl 3 rfl) ?_
      obtain ⟨r16, hc, h⟩ := bx h
      refine goI (world' := (w_X13 g h0 h1 h2 h3 h4 h5 h6 h7 h8 h9 h10 h11 h12 h13 x_g x_kept x_saved x_before x_was x_region x_parts x_next x_ways x_more x_whole x_isSaved x_changes x_isWithin x_code x_input x_length x_fault x_failed x_signs x_signMany x_at x_told x_toldMany)) hW hA (is := [0, 1, 2, 3, 4, 5, 6, 7, 8, 9, 10, 11, 12, 13]) rfl (goV (rest := [.long l2_5, .long l2_5]) E hK hW [0, 1, 2, 3, 4, 5, 6, 7, 8, 9, 10, 11, 12, 13] rfl rfl (c_X13_sum l g h0 h1 h2 h3 h4 h5 h6 h7 h8 h9 h10 h11 h12 h13 x_g x_kept x_saved x_before x_was x_region x_parts x_next x_ways x_more x_whole x_isSaved x_changes x_isWithin x_code x_input x_length x_fault x_failed x_signs x_signMany x_at x_told x_toldMany l4_5 (hf := hc) H.size) (cwV 1 hts gX13_goes_X13_sum rfl rfl rfl (by decide +kernel) ⟨Nat.le_of_ble_eq_true rfl, Nat.le_of_ble_eq_true rfl⟩) 0 rfl rfl rfl hl.1 rfl rfl (Nat.le_of_ble_eq_true rfl) dX13_goes_16 ⟨Nat.zero_le _, Nat.zero_le _⟩) rfl rfl (fun H locs hW => ?_)
      refine lv_i2l (v := (r16).toInt64) E.1 E.2.1 dX13_goes_19 rfl ?_
      obtain ⟨r20, hc, h⟩ := bx h
      refine goJ (world' := (w_X13 g h0 h1 h2 h3 h4 h5 h6 h7 h8 h9 h10 h11 h12 h13 x_g x_kept x_saved x_before x_was x_region x_parts x_next x_ways x_more x_whole x_isSaved x_changes x_isWithin x_code x_input x_length x_fault x_failed x_signs x_signMany x_at x_told x_toldMany)) hW hA (is := []) rfl (goS (rest := [.long l2_5]) E hK hW [] rfl rfl (c_X13_shared l g l2_5 ((r16).toInt64) (hf := hc) H.size) (va_cwS 2 hts gX13_goes_X13_shared rfl rfl rfl (by decide +kernel) ⟨Nat.le_of_ble_eq_true rfl, Nat.le_of_ble_eq_true rfl⟩) hl.1 rfl rfl (Nat.le_of_ble_eq_true rfl) dX13_goes_20 ⟨Nat.zero_le _, Nat.zero_le _⟩) rfl rfl (fun H locs hW => ?_)
      obtain ⟨hn23, h⟩ := ox h
      refine lv_ldiv E.1 E.2.1 dX13_goes_23 hn23 ?_
      refine lv_aload_n E.1 E.2.1 dX13_goes_24 rfl (lv_at hl 0 rfl) ?_
      refine lv_iload E.1 E.2.1 dX13_goes_25 (lv_at hl 3 rfl) ?_
      obtain ⟨r27, hc, h⟩ := bx h
      refine goI (world' := (w_X13 g h0 h1 h2 h3 h4 h5 h6 h7 h8 h9 h10 h11 h12 h13 x_g x_kept x_saved x_before x_was x_region x_parts x_next x_ways x_more x_whole x_isSaved x_changes x_isWithin x_code x_input x_length x_fault x_failed x_signs x_signMany x_at x_told x_toldMany)) hW hA (is := [0, 1, 2, 3, 4, 5, 6, 7, 8, 9, 10, 11, 12, 13]) rfl (goV (rest := [.long (l2_5 / r20)]) E hK hW [0, 1, 2, 3, 4, 5, 6, 7, 8, 9, 10, 11, 12, 13] rfl rfl (c_X13_sum l g h0 h1 h2 h3 h4 h5 h6 h7 h8 h9 h10 h11 h12 h13 x_g x_kept x_saved x_before x_was x_region x_parts x_next x_ways x_more x_whole x_isSaved x_changes x_isWithin x_code x_input x_length x_fault x_failed x_signs x_signMany x_at x_told x_toldMany l4_5 (hf := hc) H.size) (cwV 1 hts gX13_goes_X13_sum rfl rfl rfl (by decide +kernel) ⟨Nat.le_of_ble_eq_true rfl, Nat.le_of_ble_eq_true rfl⟩) 0 rfl rfl rfl hl.1 rfl rfl (Nat.le_of_ble_eq_true rfl) dX13_goes_27 ⟨Nat.zero_le _, Nat.zero_le _⟩) rfl rfl (fun H locs hW => ?_)
      refine lv_i2l (v := (r27).toInt64) E.1 E.2.1 dX13_goes_30 rfl ?_
      refine lv_lmul E.1 E.2.1 dX13_goes_31 ?_
      refine lv_lstore_n (lv' := [(2, .long ((l2_5 / r20) * ((r27).toInt64))), (0, .ref h0), (1, .int l1), (4, .int l4_5)]) E.1 E.2.1 dX13_goes_32 rfl hl (by decide) rfl (fun ls hl => ?_)
      refine lv_iinc (v := (l4_5 + 1)) (lv' := [(4, .int (l4_5 + 1)), (2, .long ((l2_5 / r20) * ((r27).toInt64))), (0, .ref h0), (1, .int l1)]) E.1 E.2.1 dX13_goes_33 hl (k := 3) rfl rfl (by decide) rfl (fun ls hl => ?_)
      refine lv_goto (tgt := 5) E.1 E.2.1 dX13_goes_36 (by decide) ?_
      exact ih ((l2_5 / r20) * ((r27).toInt64)) (l4_5 + 1) H locs ls h hW (lv_sub hl [2, 3, 1, 0] rfl)
set_option maxHeartbeats 4000000 in
set_option maxRecDepth 100000 in
theorem k_X13_goes_42 {p : Program} {l : Launch} {e : Env} {s : State} {m : MethodId} {args : Array Value} {below : List Frame} {meth : Method} {c : Code} {g : GE} {A : Nat → Prop} {h0 h1 h2 h3 h4 h5 h6 h7 h8 h9 h10 h11 h12 h13 : Nat} {x_g : Nat → Int32} {x_kept : Nat → Int32} {x_saved : Nat → Int32} {x_before : Nat → Int32} {x_was : Nat → Int32} {x_region : Nat → Int32} {x_next : Nat → Int64} {x_more : Nat → Int32} {x_whole : Int64} {x_isSaved : Int32} {x_changes : Int32} {x_isWithin : Int32} {x_code : Int32} {x_input : Nat → Int32} {x_length : Int32} {x_fault : Int32} {x_failed : Int32} {x_signs : Nat → Int32} {x_signMany : Int32} {x_at : Int32} {x_told : Nat → Int32} {x_toldMany : Int32} {res : (Nat → Int64) × (Nat → Int64) × (Nat → Int32) × (Nat → Int32) × Int64} {l1 : Int32} {l2 : Int64} {z100 : (Nat → Int64) → (Nat → Int32) → Option ((Nat → Int64) × (Nat → Int64) × (Nat → Int32) × (Nat → Int32) × Int64)}
    (E : En cX13_goes RX13 wsX13_goes 7 none p s m args meth c) (hK : KK g s) (hA : ∀ q, s.heap.size ≤ q → A q)
    (hz100 : ∀ (x_parts_100e : Nat → Int64) (x_ways_100e : Nat → Int32) (H : Heap) (locs : List Loc) (ls : Array Slot), z100 x_parts_100e x_ways_100e = some res → Wo g A s H locs (w_X13 g h0 h1 h2 h3 h4 h5 h6 h7 h8 h9 h10 h11 h12 h13 x_g x_kept x_saved x_before x_was x_region x_parts_100e x_next x_ways_100e x_more x_whole x_isSaved x_changes x_isWithin x_code x_input x_length x_fault x_failed x_signs x_signMany x_at x_told x_toldMany) → lv_has ls 7 [(0, .ref h0), (1, .int l1), (2, .long l2)] → G_X13_goes p l e s m args below meth c g A h0 h1 h2 h3 h4 h5 h6 h7 h8 h9 h10 h11 h12 h13 x_g x_kept x_saved x_before x_was x_region x_isSaved x_changes x_isWithin x_code x_input x_length x_fault x_failed x_signs x_signMany x_at x_told x_toldMany res H locs 100 ls [])
    : ∀ (n : Nat) (l4_42 : Int32) (x_parts_42 : Nat → Int64) (x_ways_42 : Nat → Int32) (H : Heap) (locs : List Loc) (ls : Array Slot), f_X13_goes_42 x_g z100 n l4_42 x_parts_42 x_ways_42 = some res → Wo g A s H locs (w_X13 g h0 h1 h2 h3 h4 h5 h6 h7 h8 h9 h10 h11 h12 h13 x_g x_kept x_saved x_before x_was x_region x_parts_42 x_next x_ways_42 x_more x_whole x_isSaved x_changes x_isWithin x_code x_input x_length x_fault x_failed x_signs x_signMany x_at x_told x_toldMany) → lv_has ls 7 [(0, .ref h0), (1, .int l1), (2, .long l2), (4, .int l4_42)] → G_X13_goes p l e s m args below meth c g A h0 h1 h2 h3 h4 h5 h6 h7 h8 h9 h10 h11 h12 h13 x_g x_kept x_saved x_before x_was x_region x_isSaved x_changes x_isWithin x_code x_input x_length x_fault x_failed x_signs x_signMany x_at x_told x_toldMany res H locs 42 ls [] := by
  have hts := E.2.2.2.1
  intro n
  induction n with
  | zero => intro l4_42 x_parts_42 x_ways_42 H locs ls h hW hl; rw [f_X13_goes_42] at h; cases h
  | succ n ih =>
    intro l4_42 x_parts_42 x_ways_42 H locs ls h hW hl
    rw [f_X13_goes_42] at h
    refine lv_iload E.1 E.2.1 dX13_goes_42 (lv_at hl 3 rfl) ?_
    refine lv_iconst (v := 4) E.1 E.2.1 dX13_goes_44 (by decide) ?_
    refine lv_icmp_ge (tgt := 100) E.1 E.2.1 dX13_goes_45 (by decide) (fun c45 => ?_) (fun c45 => ?_)
    · have h := it c45 h
      exact hz100 x_parts_42 x_ways_42 H locs ls h hW (lv_sub hl [0, 1, 2] rfl)
    · have h := ie c45 h
      obtain ⟨j70, hj70, h⟩ := jox2 h
      have J70 : ∀ (s1_70 : Int32) (s2_70 : Int64) (H : Heap) (locs : List Loc) (ls : Array Slot), j70 s1_70 s2_70 = some res → Wo g A s H locs (w_X13 g h0 h1 h2 h3 h4 h5 h6 h7 h8 h9 h10 h11 h12 h13 x_g x_kept x_saved x_before x_was x_region x_parts_42 x_next x_ways_42 x_more x_whole x_isSaved x_changes x_isWithin x_code x_input x_length x_fault x_failed x_signs x_signMany x_at x_told x_toldMany) → lv_has ls 7 [(0, .ref h0), (1, .int l1), (2, .long l2), (4, .int l4_42)] → G_X13_goes p l e s m args below meth c g A h0 h1 h2 h3 h4 h5 h6 h7 h8 h9 h10 h11 h12 h13 x_g x_kept x_saved x_before x_was x_region x_isSaved x_changes x_isWithin x_code x_input x_length x_fault x_failed x_signs x_signMany x_at x_told x_toldMany res H locs 70 ls [.long s2_70, .int s1_70, .ref h7] := by
        intro s1_70 s2_70 H locs ls h hW hl
        rw [hj70] at h
        obtain ⟨j93, hj93, h⟩ := jox3 h
        have J93 : ∀ (x_parts_93 : Nat → Int64) (s1_93 : Int32) (s2_93 : Int32) (H : Heap) (locs : List Loc) (ls : Array Slot), j93 x_parts_93 s1_93 s2_93 = some res → Wo g A s H locs (w_X13 g h0 h1 h2 h3 h4 h5 h6 h7 h8 h9 h10 h11 h12 h13 x_g x_kept x_saved x_before x_was x_region x_parts_93 x_next x_ways_42 x_more x_whole x_isSaved x_changes x_isWithin x_code x_input x_length x_fault x_failed x_signs x_signMany x_at x_told x_toldMany) → lv_has ls 7 [(0, .ref h0), (1, .int l1), (2, .long l2), (4, .int l4_42)] → G_X13_goes p l e s m args below meth c g A h0 h1 h2 h3 h4 h5 h6 h7 h8 h9 h10 h11 h12 h13 x_g x_kept x_saved x_before x_was x_region x_isSaved x_changes x_isWithin x_code x_input x_length x_fault x_failed x_signs x_signMany x_at x_told x_toldMany res H locs 93 ls [.int s2_93, .int s1_93, .ref h9] := by
          intro x_parts_93 s1_93 s2_93 H locs ls h hW hl
          rw [hj93] at h
          obtain ⟨hi93, h⟩ := ox h
          refine wIast (world' := (w_X13 g h0 h1 h2 h3 h4 h5 h6 h7 h8 h9 h10 h11 h12 h13 x_g x_kept x_saved x_before x_was x_region x_parts_93 x_next (upd x_ways_42 s1_93.toNatClampNeg s2_93) x_more x_whole x_isSaved x_changes x_isWithin x_code x_input x_length x_fault x_failed x_signs x_signMany x_at x_told x_toldMany)) E hK hW 9 rfl hi93 dX13_goes_93 rfl (fun H locs hW => ?_)
          refine lv_iinc (v := (l4_42 + 1)) (lv' := [(4, .int (l4_42 + 1)), (0, .ref h0), (1, .int l1), (2, .long l2)]) E.1 E.2.1 dX13_goes_94 hl (k := 3) rfl rfl (by decide) rfl (fun ls hl => ?_)
          refine lv_goto (tgt := 42) E.1 E.2.1 dX13_goes_97 (by decide) ?_
          exact ih (l4_42 + 1) x_parts_93 (upd x_ways_42 s1_93.toNatClampNeg s2_93) H locs ls h hW (lv_sub hl [1, 2, 3, 0] rfl)
        obtain ⟨hi70, h⟩ := ox h
        refine wLast (world' := (w_X13 g h0 h1 h2 h3 h4 h5 h6 h7 h8 h9 h10 h11 h12 h13 x_g x_kept x_saved x_before x_was x_region (vp_updL x_parts_42 s1_70.toNatClampNeg s2_70) x_next x_ways_42 x_more x_whole x_isSaved x_changes x_isWithin x_code x_input x_length x_fault x_failed x_signs x_signMany x_at x_told x_toldMany)) E hK hW 7 rfl hi70 dX13_goes_70 rfl (fun H locs hW => ?_)
        refine lv_aload_n E.1 E.2.1 dX13_goes_71 rfl (lv_at hl 0 rfl) ?_
        refine wGet (v := .ref h9) E hK in_X13_goes_X13 hW 8 lk_X13_goes_35 0 rfl rfl (by decide) rfl rfl dX13_goes_72 ?_
        refine lv_iload E.1 E.2.1 dX13_goes_75 (lv_at hl 3 rfl) ?_
        refine lv_iload E.1 E.2.1 dX13_goes_77 (lv_at hl 3 rfl) ?_
        refine lv_aload_n E.1 E.2.1 dX13_goes_79 rfl (lv_at hl 0 rfl) ?_
        refine wGet (v := .ref h1) E hK in_X13_goes_X13 hW 0 lk_X13_goes_7 0 rfl rfl (by decide) rfl rfl dX13_goes_80 ?_
        refine lv_iconst (v := 1) E.1 E.2.1 dX13_goes_83 (by decide) ?_
        refine wIald E hK hW 1 rfl (by decide) dX13_goes_84 ?_
        refine lv_icmp_ne (tgt := 92) E.1 E.2.1 dX13_goes_85 (by decide) (fun c85 => ?_) (fun c85 => ?_)
        · have h := ie c85 h
          refine lv_iconst (v := 0) E.1 E.2.1 dX13_goes_92 (by decide) ?_
          exact J93 (vp_updL x_parts_42 s1_70.toNatClampNeg s2_70) l4_42 0 H locs ls h hW (lv_sub hl [0, 1, 2, 3] rfl)
        · have h := it c85 h
          refine lv_iconst (v := 1) E.1 E.2.1 dX13_goes_88 (by decide) ?_
          refine lv_goto (tgt := 93) E.1 E.2.1 dX13_goes_89 (by decide) ?_
          exact J93 (vp_updL x_parts_42 s1_70.toNatClampNeg s2_70) l4_42 1 H locs ls h hW (lv_sub hl [0, 1, 2, 3] rfl)
      refine lv_aload_n E.1 E.2.1 dX13_goes_48 rfl (lv_at hl 0 rfl) ?_
      refine wGet (v := .ref h7) E hK in_X13_goes_X13 hW 6 lk_X13_goes_28 0 rfl rfl (by decide) rfl rfl dX13_goes_49 ?_
      refine lv_iload E.1 E.2.1 dX13_goes_52 (lv_at hl 3 rfl) ?_
      refine lv_iload E.1 E.2.1 dX13_goes_54 (lv_at hl 3 rfl) ?_
      refine lv_aload_n E.1 E.2.1 dX13_goes_56 rfl (lv_at hl 0 rfl) ?_
      refine wGet (v := .ref h1) E hK in_X13_goes_X13 hW 0 lk_X13_goes_7 0 rfl rfl (by decide) rfl rfl dX13_goes_57 ?_
      refine lv_iconst (v := 1) E.1 E.2.1 dX13_goes_60 (by decide) ?_
      refine wIald E hK hW 1 rfl (by decide) dX13_goes_61 ?_
      refine lv_icmp_ne (tgt := 69) E.1 E.2.1 dX13_goes_62 (by decide) (fun c62 => ?_) (fun c62 => ?_)
      · have h := ie c62 h
        refine lv_lconst (v := 0) E.1 E.2.1 dX13_goes_69 (by decide) ?_
        exact J70 l4_42 0 H locs ls h hW (lv_sub hl [0, 1, 2, 3] rfl)
      · have h := it c62 h
        refine lv_lconst (v := 1) E.1 E.2.1 dX13_goes_65 (by decide) ?_
        refine lv_goto (tgt := 70) E.1 E.2.1 dX13_goes_66 (by decide) ?_
        exact J70 l4_42 1 H locs ls h hW (lv_sub hl [0, 1, 2, 3] rfl)
set_option maxHeartbeats 4000000 in
set_option maxRecDepth 100000 in
theorem k_X13_goes_142 {p : Program} {l : Launch} {e : Env} {s : State} {m : MethodId} {args : Array Value} {below : List Frame} {meth : Method} {c : Code} {g : GE} {A : Nat → Prop} {h0 h1 h2 h3 h4 h5 h6 h7 h8 h9 h10 h11 h12 h13 : Nat} {x_g : Nat → Int32} {x_kept : Nat → Int32} {x_saved : Nat → Int32} {x_before : Nat → Int32} {x_was : Nat → Int32} {x_region : Nat → Int32} {x_parts : Nat → Int64} {x_ways : Nat → Int32} {x_whole : Int64} {x_isSaved : Int32} {x_changes : Int32} {x_isWithin : Int32} {x_code : Int32} {x_input : Nat → Int32} {x_length : Int32} {x_fault : Int32} {x_failed : Int32} {x_signs : Nat → Int32} {x_signMany : Int32} {x_at : Int32} {x_told : Nat → Int32} {x_toldMany : Int32} {res : (Nat → Int64) × (Nat → Int64) × (Nat → Int32) × (Nat → Int32) × Int64} {l1 : Int32} {l2 : Int64} {l4 : Int32} {l5 : Int32} {z223 : (Nat → Int64) → (Nat → Int32) → Option ((Nat → Int64) × (Nat → Int64) × (Nat → Int32) × (Nat → Int32) × Int64)}
    (E : En cX13_goes RX13 wsX13_goes 7 none p s m args meth c) (hK : KK g s) (hA : ∀ q, s.heap.size ≤ q → A q)
    (hz223 : ∀ (x_next_223e : Nat → Int64) (x_more_223e : Nat → Int32) (H : Heap) (locs : List Loc) (ls : Array Slot), z223 x_next_223e x_more_223e = some res → Wo g A s H locs (w_X13 g h0 h1 h2 h3 h4 h5 h6 h7 h8 h9 h10 h11 h12 h13 x_g x_kept x_saved x_before x_was x_region x_parts x_next_223e x_ways x_more_223e x_whole x_isSaved x_changes x_isWithin x_code x_input x_length x_fault x_failed x_signs x_signMany x_at x_told x_toldMany) → lv_has ls 7 [(0, .ref h0), (1, .int l1), (2, .long l2), (4, .int l4), (5, .int l5)] → G_X13_goes p l e s m args below meth c g A h0 h1 h2 h3 h4 h5 h6 h7 h8 h9 h10 h11 h12 h13 x_g x_kept x_saved x_before x_was x_region x_isSaved x_changes x_isWithin x_code x_input x_length x_fault x_failed x_signs x_signMany x_at x_told x_toldMany res H locs 223 ls [])
    : ∀ (n : Nat) (l6_142 : Int32) (x_next_142 : Nat → Int64) (x_more_142 : Nat → Int32) (H : Heap) (locs : List Loc) (ls : Array Slot), f_X13_goes_142 x_g x_parts x_ways l2 l5 z223 n l6_142 x_next_142 x_more_142 = some res → Wo g A s H locs (w_X13 g h0 h1 h2 h3 h4 h5 h6 h7 h8 h9 h10 h11 h12 h13 x_g x_kept x_saved x_before x_was x_region x_parts x_next_142 x_ways x_more_142 x_whole x_isSaved x_changes x_isWithin x_code x_input x_length x_fault x_failed x_signs x_signMany x_at x_told x_toldMany) → lv_has ls 7 [(0, .ref h0), (1, .int l1), (2, .long l2), (4, .int l4), (5, .int l5), (6, .int l6_142)] → G_X13_goes p l e s m args below meth c g A h0 h1 h2 h3 h4 h5 h6 h7 h8 h9 h10 h11 h12 h13 x_g x_kept x_saved x_before x_was x_region x_isSaved x_changes x_isWithin x_code x_input x_length x_fault x_failed x_signs x_signMany x_at x_told x_toldMany res H locs 142 ls [] := by
  have hts := E.2.2.2.1
  intro n
  induction n with
  | zero => intro l6_142 x_next_142 x_more_142 H locs ls h hW hl; rw [f_X13_goes_142] at h; cases h
  | succ n ih =>
    intro l6_142 x_next_142 x_more_142 H locs ls h hW hl
    rw [f_X13_goes_142] at h
    refine lv_iload E.1 E.2.1 dX13_goes_142 (lv_at hl 5 rfl) ?_
    refine lv_iconst (v := 4) E.1 E.2.1 dX13_goes_144 (by decide) ?_
    refine lv_icmp_ge (tgt := 223) E.1 E.2.1 dX13_goes_145 (by decide) (fun c145 => ?_) (fun c145 => ?_)
    · have h := it c145 h
      exact hz223 x_next_142 x_more_142 H locs ls h hW (lv_sub hl [0, 1, 2, 3, 4] rfl)
    · have h := ie c145 h
      obtain ⟨j215, hj215, h⟩ := jox4 h
      have J215 : ∀ (x_next_215 : Nat → Int64) (s1_215 : Int32) (s2_215 : Int32) (s3_215 : Int32) (H : Heap) (locs : List Loc) (ls : Array Slot), j215 x_next_215 s1_215 s2_215 s3_215 = some res → Wo g A s H locs (w_X13 g h0 h1 h2 h3 h4 h5 h6 h7 h8 h9 h10 h11 h12 h13 x_g x_kept x_saved x_before x_was x_region x_parts x_next_215 x_ways x_more_142 x_whole x_isSaved x_changes x_isWithin x_code x_input x_length x_fault x_failed x_signs x_signMany x_at x_told x_toldMany) → lv_has ls 7 [(0, .ref h0), (1, .int l1), (2, .long l2), (4, .int l4), (5, .int l5), (6, .int l6_142)] → G_X13_goes p l e s m args below meth c g A h0 h1 h2 h3 h4 h5 h6 h7 h8 h9 h10 h11 h12 h13 x_g x_kept x_saved x_before x_was x_region x_isSaved x_changes x_isWithin x_code x_input x_length x_fault x_failed x_signs x_signMany x_at x_told x_toldMany res H locs 215 ls [.int s3_215, .int s2_215, .int s1_215, .ref h10] := by
        intro x_next_215 s1_215 s2_215 s3_215 H locs ls h hW hl
        rw [hj215] at h
        refine lv_iadd E.1 E.2.1 dX13_goes_215 ?_
        obtain ⟨hi216, h⟩ := ox h
        refine wIast (world' := (w_X13 g h0 h1 h2 h3 h4 h5 h6 h7 h8 h9 h10 h11 h12 h13 x_g x_kept x_saved x_before x_was x_region x_parts x_next_215 x_ways (upd x_more_142 s1_215.toNatClampNeg (s2_215 + s3_215)) x_whole x_isSaved x_changes x_isWithin x_code x_input x_length x_fault x_failed x_signs x_signMany x_at x_told x_toldMany)) E hK hW 10 rfl hi216 dX13_goes_216 rfl (fun H locs hW => ?_)
        refine lv_iinc (v := (l6_142 + 1)) (lv' := [(6, .int (l6_142 + 1)), (0, .ref h0), (1, .int l1), (2, .long l2), (4, .int l4), (5, .int l5)]) E.1 E.2.1 dX13_goes_217 hl (k := 5) rfl rfl (by decide) rfl (fun ls hl => ?_)
        refine lv_goto (tgt := 142) E.1 E.2.1 dX13_goes_220 (by decide) ?_
        exact ih (l6_142 + 1) x_next_215 (upd x_more_142 s1_215.toNatClampNeg (s2_215 + s3_215)) H locs ls h hW (lv_sub hl [1, 2, 3, 4, 5, 0] rfl)
      refine lv_aload_n E.1 E.2.1 dX13_goes_148 rfl (lv_at hl 0 rfl) ?_
      refine wGet (v := .ref h8) E hK in_X13_goes_X13 hW 7 lk_X13_goes_32 0 rfl rfl (by decide) rfl rfl dX13_goes_149 ?_
      refine lv_iload E.1 E.2.1 dX13_goes_152 (lv_at hl 4 rfl) ?_
      refine lv_dup2_11 E.1 E.2.1 dX13_goes_154 rfl rfl ?_
      obtain ⟨hi155, h⟩ := ox h
      refine wLald E hK hW 8 rfl hi155 dX13_goes_155 ?_
      refine lv_aload_n E.1 E.2.1 dX13_goes_156 rfl (lv_at hl 0 rfl) ?_
      refine wGet (v := .ref h7) E hK in_X13_goes_X13 hW 6 lk_X13_goes_28 0 rfl rfl (by decide) rfl rfl dX13_goes_157 ?_
      refine lv_iload E.1 E.2.1 dX13_goes_160 (lv_at hl 5 rfl) ?_
      obtain ⟨hi162, h⟩ := ox h
      refine wLald E hK hW 7 rfl hi162 dX13_goes_162 ?_
      refine lv_aload_n E.1 E.2.1 dX13_goes_163 rfl (lv_at hl 0 rfl) ?_
      refine lv_iload E.1 E.2.1 dX13_goes_164 (lv_at hl 5 rfl) ?_
      refine lv_iload E.1 E.2.1 dX13_goes_166 (lv_at hl 4 rfl) ?_
      obtain ⟨r168, hc, h⟩ := bx h
      refine goI (world' := (w_X13 g h0 h1 h2 h3 h4 h5 h6 h7 h8 h9 h10 h11 h12 h13 x_g x_kept x_saved x_before x_was x_region x_parts x_next_142 x_ways x_more_142 x_whole x_isSaved x_changes x_isWithin x_code x_input x_length x_fault x_failed x_signs x_signMany x_at x_told x_toldMany)) hW hA (is := [0, 1, 2, 3, 4, 5, 6, 7, 8, 9, 10, 11, 12, 13]) rfl (goV (rest := [.long (x_parts l6_142.toNatClampNeg), .long (x_next_142 l5.toNatClampNeg), .int l5, .ref h8]) E hK hW [0, 1, 2, 3, 4, 5, 6, 7, 8, 9, 10, 11, 12, 13] rfl rfl (c_X13_weighs l g h0 h1 h2 h3 h4 h5 h6 h7 h8 h9 h10 h11 h12 h13 x_g x_kept x_saved x_before x_was x_region x_parts x_next_142 x_ways x_more_142 x_whole x_isSaved x_changes x_isWithin x_code x_input x_length x_fault x_failed x_signs x_signMany x_at x_told x_toldMany l6_142 l5 (hf := hc) H.size) (cwV 2 hts gX13_goes_X13_weighs rfl rfl rfl (by decide +kernel) ⟨Nat.le_of_ble_eq_true rfl, Nat.le_of_ble_eq_true rfl⟩) 0 rfl rfl rfl hl.1 rfl rfl (Nat.le_of_ble_eq_true rfl) dX13_goes_168 ⟨Nat.zero_le _, Nat.zero_le _⟩) rfl rfl (fun H locs hW => ?_)
      refine lv_i2l (v := (r168).toInt64) E.1 E.2.1 dX13_goes_171 rfl ?_
      refine lv_lmul E.1 E.2.1 dX13_goes_172 ?_
      refine lv_lload_n E.1 E.2.1 dX13_goes_173 rfl (lv_at hl 2 rfl) ?_
      refine lv_aload_n E.1 E.2.1 dX13_goes_174 rfl (lv_at hl 0 rfl) ?_
      refine lv_iload E.1 E.2.1 dX13_goes_175 (lv_at hl 5 rfl) ?_
      obtain ⟨r177, hc, h⟩ := bx h
      refine goI (world' := (w_X13 g h0 h1 h2 h3 h4 h5 h6 h7 h8 h9 h10 h11 h12 h13 x_g x_kept x_saved x_before x_was x_region x_parts x_next_142 x_ways x_more_142 x_whole x_isSaved x_changes x_isWithin x_code x_input x_length x_fault x_failed x_signs x_signMany x_at x_told x_toldMany)) hW hA (is := [0, 1, 2, 3, 4, 5, 6, 7, 8, 9, 10, 11, 12, 13]) rfl (goV (rest := [.long l2, .long ((x_parts l6_142.toNatClampNeg) * ((r168).toInt64)), .long (x_next_142 l5.toNatClampNeg), .int l5, .ref h8]) E hK hW [0, 1, 2, 3, 4, 5, 6, 7, 8, 9, 10, 11, 12, 13] rfl rfl (c_X13_sum l g h0 h1 h2 h3 h4 h5 h6 h7 h8 h9 h10 h11 h12 h13 x_g x_kept x_saved x_before x_was x_region x_parts x_next_142 x_ways x_more_142 x_whole x_isSaved x_changes x_isWithin x_code x_input x_length x_fault x_failed x_signs x_signMany x_at x_told x_toldMany l6_142 (hf := hc) H.size) (cwV 1 hts gX13_goes_X13_sum rfl rfl rfl (by decide +kernel) ⟨Nat.le_of_ble_eq_true rfl, Nat.le_of_ble_eq_true rfl⟩) 0 rfl rfl rfl hl.1 rfl rfl (Nat.le_of_ble_eq_true rfl) dX13_goes_177 ⟨Nat.zero_le _, Nat.zero_le _⟩) rfl rfl (fun H locs hW => ?_)
      refine lv_i2l (v := (r177).toInt64) E.1 E.2.1 dX13_goes_180 rfl ?_
      obtain ⟨hn181, h⟩ := ox h
      refine lv_ldiv E.1 E.2.1 dX13_goes_181 hn181 ?_
      refine lv_lmul E.1 E.2.1 dX13_goes_182 ?_
      refine lv_ladd E.1 E.2.1 dX13_goes_183 ?_
      refine wLast (world' := (w_X13 g h0 h1 h2 h3 h4 h5 h6 h7 h8 h9 h10 h11 h12 h13 x_g x_kept x_saved x_before x_was x_region x_parts (vp_updL x_next_142 l5.toNatClampNeg ((x_next_142 l5.toNatClampNeg) + (((x_parts l6_142.toNatClampNeg) * ((r168).toInt64)) * (l2 / ((r177).toInt64))))) x_ways x_more_142 x_whole x_isSaved x_changes x_isWithin x_code x_input x_length x_fault x_failed x_signs x_signMany x_at x_told x_toldMany)) E hK hW 8 rfl hi155 dX13_goes_184 rfl (fun H locs hW => ?_)
      refine lv_aload_n E.1 E.2.1 dX13_goes_185 rfl (lv_at hl 0 rfl) ?_
      refine wGet (v := .ref h10) E hK in_X13_goes_X13 hW 9 lk_X13_goes_38 0 rfl rfl (by decide) rfl rfl dX13_goes_186 ?_
      refine lv_iload E.1 E.2.1 dX13_goes_189 (lv_at hl 4 rfl) ?_
      refine lv_dup2_11 E.1 E.2.1 dX13_goes_191 rfl rfl ?_
      refine wIald E hK hW 10 rfl hi155 dX13_goes_192 ?_
      refine lv_aload_n E.1 E.2.1 dX13_goes_193 rfl (lv_at hl 0 rfl) ?_
      refine lv_iload E.1 E.2.1 dX13_goes_194 (lv_at hl 5 rfl) ?_
      refine lv_iload E.1 E.2.1 dX13_goes_196 (lv_at hl 4 rfl) ?_
      obtain ⟨r198, hc, h⟩ := bx h
      refine goI (world' := (w_X13 g h0 h1 h2 h3 h4 h5 h6 h7 h8 h9 h10 h11 h12 h13 x_g x_kept x_saved x_before x_was x_region x_parts (vp_updL x_next_142 l5.toNatClampNeg ((x_next_142 l5.toNatClampNeg) + (((x_parts l6_142.toNatClampNeg) * ((r168).toInt64)) * (l2 / ((r177).toInt64))))) x_ways x_more_142 x_whole x_isSaved x_changes x_isWithin x_code x_input x_length x_fault x_failed x_signs x_signMany x_at x_told x_toldMany)) hW hA (is := [0, 1, 2, 3, 4, 5, 6, 7, 8, 9, 10, 11, 12, 13]) rfl (goV (rest := [.int (x_more_142 l5.toNatClampNeg), .int l5, .ref h10]) E hK hW [0, 1, 2, 3, 4, 5, 6, 7, 8, 9, 10, 11, 12, 13] rfl rfl (c_X13_weighs l g h0 h1 h2 h3 h4 h5 h6 h7 h8 h9 h10 h11 h12 h13 x_g x_kept x_saved x_before x_was x_region x_parts (vp_updL x_next_142 l5.toNatClampNeg ((x_next_142 l5.toNatClampNeg) + (((x_parts l6_142.toNatClampNeg) * ((r168).toInt64)) * (l2 / ((r177).toInt64))))) x_ways x_more_142 x_whole x_isSaved x_changes x_isWithin x_code x_input x_length x_fault x_failed x_signs x_signMany x_at x_told x_toldMany l6_142 l5 (hf := hc) H.size) (cwV 2 hts gX13_goes_X13_weighs rfl rfl rfl (by decide +kernel) ⟨Nat.le_of_ble_eq_true rfl, Nat.le_of_ble_eq_true rfl⟩) 0 rfl rfl rfl hl.1 rfl rfl (Nat.le_of_ble_eq_true rfl) dX13_goes_198 ⟨Nat.zero_le _, Nat.zero_le _⟩) rfl rfl (fun H locs hW => ?_)
      refine lv_if_le (tgt := 214) E.1 E.2.1 dX13_goes_201 (by decide) (fun c201 => ?_) (fun c201 => ?_)
      · have h := it c201 h
        refine lv_iconst (v := 0) E.1 E.2.1 dX13_goes_214 (by decide) ?_
        exact J215 (vp_updL x_next_142 l5.toNatClampNeg ((x_next_142 l5.toNatClampNeg) + (((x_parts l6_142.toNatClampNeg) * ((r168).toInt64)) * (l2 / ((r177).toInt64))))) l5 (x_more_142 l5.toNatClampNeg) 0 H locs ls h hW (lv_sub hl [0, 1, 2, 3, 4, 5] rfl)
      · have h := ie c201 h
        refine lv_aload_n E.1 E.2.1 dX13_goes_204 rfl (lv_at hl 0 rfl) ?_
        refine wGet (v := .ref h9) E hK in_X13_goes_X13 hW 8 lk_X13_goes_35 0 rfl rfl (by decide) rfl rfl dX13_goes_205 ?_
        refine lv_iload E.1 E.2.1 dX13_goes_208 (lv_at hl 5 rfl) ?_
        refine wIald E hK hW 9 rfl hi162 dX13_goes_210 ?_
        refine lv_goto (tgt := 215) E.1 E.2.1 dX13_goes_211 (by decide) ?_
        exact J215 (vp_updL x_next_142 l5.toNatClampNeg ((x_next_142 l5.toNatClampNeg) + (((x_parts l6_142.toNatClampNeg) * ((r168).toInt64)) * (l2 / ((r177).toInt64))))) l5 (x_more_142 l5.toNatClampNeg) (x_ways l6_142.toNatClampNeg) H locs ls h hW (lv_sub hl [0, 1, 2, 3, 4, 5] rfl)
set_option maxHeartbeats 4000000 in
set_option maxRecDepth 100000 in
theorem k_X13_goes_117 {p : Program} {l : Launch} {e : Env} {s : State} {m : MethodId} {args : Array Value} {below : List Frame} {meth : Method} {c : Code} {g : GE} {A : Nat → Prop} {h0 h1 h2 h3 h4 h5 h6 h7 h8 h9 h10 h11 h12 h13 : Nat} {x_g : Nat → Int32} {x_kept : Nat → Int32} {x_saved : Nat → Int32} {x_before : Nat → Int32} {x_was : Nat → Int32} {x_region : Nat → Int32} {x_parts : Nat → Int64} {x_ways : Nat → Int32} {x_whole : Int64} {x_isSaved : Int32} {x_changes : Int32} {x_isWithin : Int32} {x_code : Int32} {x_input : Nat → Int32} {x_length : Int32} {x_fault : Int32} {x_failed : Int32} {x_signs : Nat → Int32} {x_signMany : Int32} {x_at : Int32} {x_told : Nat → Int32} {x_toldMany : Int32} {res : (Nat → Int64) × (Nat → Int64) × (Nat → Int32) × (Nat → Int32) × Int64} {l1 : Int32} {l2 : Int64} {l4 : Int32} {z229 : (Nat → Int64) → (Nat → Int32) → Option ((Nat → Int64) × (Nat → Int64) × (Nat → Int32) × (Nat → Int32) × Int64)}
    (E : En cX13_goes RX13 wsX13_goes 7 none p s m args meth c) (hK : KK g s) (hA : ∀ q, s.heap.size ≤ q → A q)
    (hz229 : ∀ (x_next_229e : Nat → Int64) (x_more_229e : Nat → Int32) (H : Heap) (locs : List Loc) (ls : Array Slot), z229 x_next_229e x_more_229e = some res → Wo g A s H locs (w_X13 g h0 h1 h2 h3 h4 h5 h6 h7 h8 h9 h10 h11 h12 h13 x_g x_kept x_saved x_before x_was x_region x_parts x_next_229e x_ways x_more_229e x_whole x_isSaved x_changes x_isWithin x_code x_input x_length x_fault x_failed x_signs x_signMany x_at x_told x_toldMany) → lv_has ls 7 [(0, .ref h0), (1, .int l1), (2, .long l2), (4, .int l4)] → G_X13_goes p l e s m args below meth c g A h0 h1 h2 h3 h4 h5 h6 h7 h8 h9 h10 h11 h12 h13 x_g x_kept x_saved x_before x_was x_region x_isSaved x_changes x_isWithin x_code x_input x_length x_fault x_failed x_signs x_signMany x_at x_told x_toldMany res H locs 229 ls [])
    : ∀ (n : Nat) (l5_117 : Int32) (x_next_117 : Nat → Int64) (x_more_117 : Nat → Int32) (H : Heap) (locs : List Loc) (ls : Array Slot), f_X13_goes_117 x_g x_parts x_ways l2 z229 n l5_117 x_next_117 x_more_117 = some res → Wo g A s H locs (w_X13 g h0 h1 h2 h3 h4 h5 h6 h7 h8 h9 h10 h11 h12 h13 x_g x_kept x_saved x_before x_was x_region x_parts x_next_117 x_ways x_more_117 x_whole x_isSaved x_changes x_isWithin x_code x_input x_length x_fault x_failed x_signs x_signMany x_at x_told x_toldMany) → lv_has ls 7 [(0, .ref h0), (1, .int l1), (2, .long l2), (4, .int l4), (5, .int l5_117)] → G_X13_goes p l e s m args below meth c g A h0 h1 h2 h3 h4 h5 h6 h7 h8 h9 h10 h11 h12 h13 x_g x_kept x_saved x_before x_was x_region x_isSaved x_changes x_isWithin x_code x_input x_length x_fault x_failed x_signs x_signMany x_at x_told x_toldMany res H locs 117 ls [] := by
  have hts := E.2.2.2.1
  intro n
  induction n with
  | zero => intro l5_117 x_next_117 x_more_117 H locs ls h hW hl; rw [f_X13_goes_117] at h; cases h
  | succ n ih =>
    intro l5_117 x_next_117 x_more_117 H locs ls h hW hl
    rw [f_X13_goes_117] at h
    refine lv_iload E.1 E.2.1 dX13_goes_117 (lv_at hl 4 rfl) ?_
    refine lv_iconst (v := 4) E.1 E.2.1 dX13_goes_119 (by decide) ?_
    refine lv_icmp_ge (tgt := 229) E.1 E.2.1 dX13_goes_120 (by decide) (fun c120 => ?_) (fun c120 => ?_)
    · have h := it c120 h
      exact hz229 x_next_117 x_more_117 H locs ls h hW (lv_sub hl [0, 1, 2, 3] rfl)
    · have h := ie c120 h
      refine lv_aload_n E.1 E.2.1 dX13_goes_123 rfl (lv_at hl 0 rfl) ?_
      refine wGet (v := .ref h8) E hK in_X13_goes_X13 hW 7 lk_X13_goes_32 0 rfl rfl (by decide) rfl rfl dX13_goes_124 ?_
      refine lv_iload E.1 E.2.1 dX13_goes_127 (lv_at hl 4 rfl) ?_
      refine lv_lconst (v := 0) E.1 E.2.1 dX13_goes_129 (by decide) ?_
      obtain ⟨hi130, h⟩ := ox h
      refine wLast (world' := (w_X13 g h0 h1 h2 h3 h4 h5 h6 h7 h8 h9 h10 h11 h12 h13 x_g x_kept x_saved x_before x_was x_region x_parts (vp_updL x_next_117 l5_117.toNatClampNeg 0) x_ways x_more_117 x_whole x_isSaved x_changes x_isWithin x_code x_input x_length x_fault x_failed x_signs x_signMany x_at x_told x_toldMany)) E hK hW 8 rfl hi130 dX13_goes_130 rfl (fun H locs hW => ?_)
      refine lv_aload_n E.1 E.2.1 dX13_goes_131 rfl (lv_at hl 0 rfl) ?_
      refine wGet (v := .ref h10) E hK in_X13_goes_X13 hW 9 lk_X13_goes_38 0 rfl rfl (by decide) rfl rfl dX13_goes_132 ?_
      refine lv_iload E.1 E.2.1 dX13_goes_135 (lv_at hl 4 rfl) ?_
      refine lv_iconst (v := 0) E.1 E.2.1 dX13_goes_137 (by decide) ?_
      refine wIast (world' := (w_X13 g h0 h1 h2 h3 h4 h5 h6 h7 h8 h9 h10 h11 h12 h13 x_g x_kept x_saved x_before x_was x_region x_parts (vp_updL x_next_117 l5_117.toNatClampNeg 0) x_ways (upd x_more_117 l5_117.toNatClampNeg 0) x_whole x_isSaved x_changes x_isWithin x_code x_input x_length x_fault x_failed x_signs x_signMany x_at x_told x_toldMany)) E hK hW 10 rfl hi130 dX13_goes_138 rfl (fun H locs hW => ?_)
      refine lv_iconst (v := 0) E.1 E.2.1 dX13_goes_139 (by decide) ?_
      refine lv_istore (lv' := [(6, .int 0), (0, .ref h0), (1, .int l1), (2, .long l2), (4, .int l4), (5, .int l5_117)]) E.1 E.2.1 dX13_goes_140 hl (by decide) rfl (fun ls hl => ?_)
      refine k_X13_goes_142 E hK hA ?_ 1000 0 (vp_updL x_next_117 l5_117.toNatClampNeg 0) (upd x_more_117 l5_117.toNatClampNeg 0) H locs ls h hW (lv_sub hl [1, 2, 3, 4, 5, 0] rfl)
      · intro x_next_223e x_more_223e H locs ls h hW hl
        refine lv_iinc (v := (l5_117 + 1)) (lv' := [(5, .int (l5_117 + 1)), (0, .ref h0), (1, .int l1), (2, .long l2), (4, .int l4)]) E.1 E.2.1 dX13_goes_223 hl (k := 4) rfl rfl (by decide) rfl (fun ls hl => ?_)
        refine lv_goto (tgt := 117) E.1 E.2.1 dX13_goes_226 (by decide) ?_
        exact ih (l5_117 + 1) x_next_223e x_more_223e H locs ls h hW (lv_sub hl [1, 2, 3, 4, 0] rfl)
set_option maxHeartbeats 4000000 in
set_option maxRecDepth 100000 in
theorem k_X13_goes_232 {p : Program} {l : Launch} {e : Env} {s : State} {m : MethodId} {args : Array Value} {below : List Frame} {meth : Method} {c : Code} {g : GE} {A : Nat → Prop} {h0 h1 h2 h3 h4 h5 h6 h7 h8 h9 h10 h11 h12 h13 : Nat} {x_g : Nat → Int32} {x_kept : Nat → Int32} {x_saved : Nat → Int32} {x_before : Nat → Int32} {x_was : Nat → Int32} {x_region : Nat → Int32} {x_next : Nat → Int64} {x_more : Nat → Int32} {x_whole : Int64} {x_isSaved : Int32} {x_changes : Int32} {x_isWithin : Int32} {x_code : Int32} {x_input : Nat → Int32} {x_length : Int32} {x_fault : Int32} {x_failed : Int32} {x_signs : Nat → Int32} {x_signMany : Int32} {x_at : Int32} {x_told : Nat → Int32} {x_toldMany : Int32} {res : (Nat → Int64) × (Nat → Int64) × (Nat → Int32) × (Nat → Int32) × Int64} {l1 : Int32} {l2 : Int64} {l4 : Int32} {z272 : (Nat → Int64) → (Nat → Int32) → Option ((Nat → Int64) × (Nat → Int64) × (Nat → Int32) × (Nat → Int32) × Int64)}
    (E : En cX13_goes RX13 wsX13_goes 7 none p s m args meth c) (hK : KK g s) (hA : ∀ q, s.heap.size ≤ q → A q)
    (hz272 : ∀ (x_parts_272e : Nat → Int64) (x_ways_272e : Nat → Int32) (H : Heap) (locs : List Loc) (ls : Array Slot), z272 x_parts_272e x_ways_272e = some res → Wo g A s H locs (w_X13 g h0 h1 h2 h3 h4 h5 h6 h7 h8 h9 h10 h11 h12 h13 x_g x_kept x_saved x_before x_was x_region x_parts_272e x_next x_ways_272e x_more x_whole x_isSaved x_changes x_isWithin x_code x_input x_length x_fault x_failed x_signs x_signMany x_at x_told x_toldMany) → lv_has ls 7 [(0, .ref h0), (1, .int l1), (2, .long l2), (4, .int l4)] → G_X13_goes p l e s m args below meth c g A h0 h1 h2 h3 h4 h5 h6 h7 h8 h9 h10 h11 h12 h13 x_g x_kept x_saved x_before x_was x_region x_isSaved x_changes x_isWithin x_code x_input x_length x_fault x_failed x_signs x_signMany x_at x_told x_toldMany res H locs 272 ls [])
    : ∀ (n : Nat) (l5_232 : Int32) (x_parts_232 : Nat → Int64) (x_ways_232 : Nat → Int32) (H : Heap) (locs : List Loc) (ls : Array Slot), f_X13_goes_232 x_next x_more z272 n l5_232 x_parts_232 x_ways_232 = some res → Wo g A s H locs (w_X13 g h0 h1 h2 h3 h4 h5 h6 h7 h8 h9 h10 h11 h12 h13 x_g x_kept x_saved x_before x_was x_region x_parts_232 x_next x_ways_232 x_more x_whole x_isSaved x_changes x_isWithin x_code x_input x_length x_fault x_failed x_signs x_signMany x_at x_told x_toldMany) → lv_has ls 7 [(0, .ref h0), (1, .int l1), (2, .long l2), (4, .int l4), (5, .int l5_232)] → G_X13_goes p l e s m args below meth c g A h0 h1 h2 h3 h4 h5 h6 h7 h8 h9 h10 h11 h12 h13 x_g x_kept x_saved x_before x_was x_region x_isSaved x_changes x_isWithin x_code x_input x_length x_fault x_failed x_signs x_signMany x_at x_told x_toldMany res H locs 232 ls [] := by
  have hts := E.2.2.2.1
  intro n
  induction n with
  | zero => intro l5_232 x_parts_232 x_ways_232 H locs ls h hW hl; rw [f_X13_goes_232] at h; cases h
  | succ n ih =>
    intro l5_232 x_parts_232 x_ways_232 H locs ls h hW hl
    rw [f_X13_goes_232] at h
    refine lv_iload E.1 E.2.1 dX13_goes_232 (lv_at hl 4 rfl) ?_
    refine lv_iconst (v := 4) E.1 E.2.1 dX13_goes_234 (by decide) ?_
    refine lv_icmp_ge (tgt := 272) E.1 E.2.1 dX13_goes_235 (by decide) (fun c235 => ?_) (fun c235 => ?_)
    · have h := it c235 h
      exact hz272 x_parts_232 x_ways_232 H locs ls h hW (lv_sub hl [0, 1, 2, 3] rfl)
    · have h := ie c235 h
      refine lv_aload_n E.1 E.2.1 dX13_goes_238 rfl (lv_at hl 0 rfl) ?_
      refine wGet (v := .ref h7) E hK in_X13_goes_X13 hW 6 lk_X13_goes_28 0 rfl rfl (by decide) rfl rfl dX13_goes_239 ?_
      refine lv_iload E.1 E.2.1 dX13_goes_242 (lv_at hl 4 rfl) ?_
      refine lv_aload_n E.1 E.2.1 dX13_goes_244 rfl (lv_at hl 0 rfl) ?_
      refine wGet (v := .ref h8) E hK in_X13_goes_X13 hW 7 lk_X13_goes_32 0 rfl rfl (by decide) rfl rfl dX13_goes_245 ?_
      refine lv_iload E.1 E.2.1 dX13_goes_248 (lv_at hl 4 rfl) ?_
      obtain ⟨hi250, h⟩ := ox h
      refine wLald E hK hW 8 rfl hi250 dX13_goes_250 ?_
      refine wLast (world' := (w_X13 g h0 h1 h2 h3 h4 h5 h6 h7 h8 h9 h10 h11 h12 h13 x_g x_kept x_saved x_before x_was x_region (vp_updL x_parts_232 l5_232.toNatClampNeg (x_next l5_232.toNatClampNeg)) x_next x_ways_232 x_more x_whole x_isSaved x_changes x_isWithin x_code x_input x_length x_fault x_failed x_signs x_signMany x_at x_told x_toldMany)) E hK hW 7 rfl hi250 dX13_goes_251 rfl (fun H locs hW => ?_)
      refine lv_aload_n E.1 E.2.1 dX13_goes_252 rfl (lv_at hl 0 rfl) ?_
      refine wGet (v := .ref h9) E hK in_X13_goes_X13 hW 8 lk_X13_goes_35 0 rfl rfl (by decide) rfl rfl dX13_goes_253 ?_
      refine lv_iload E.1 E.2.1 dX13_goes_256 (lv_at hl 4 rfl) ?_
      refine lv_aload_n E.1 E.2.1 dX13_goes_258 rfl (lv_at hl 0 rfl) ?_
      refine wGet (v := .ref h10) E hK in_X13_goes_X13 hW 9 lk_X13_goes_38 0 rfl rfl (by decide) rfl rfl dX13_goes_259 ?_
      refine lv_iload E.1 E.2.1 dX13_goes_262 (lv_at hl 4 rfl) ?_
      refine wIald E hK hW 10 rfl hi250 dX13_goes_264 ?_
      refine wIast (world' := (w_X13 g h0 h1 h2 h3 h4 h5 h6 h7 h8 h9 h10 h11 h12 h13 x_g x_kept x_saved x_before x_was x_region (vp_updL x_parts_232 l5_232.toNatClampNeg (x_next l5_232.toNatClampNeg)) x_next (upd x_ways_232 l5_232.toNatClampNeg (x_more l5_232.toNatClampNeg)) x_more x_whole x_isSaved x_changes x_isWithin x_code x_input x_length x_fault x_failed x_signs x_signMany x_at x_told x_toldMany)) E hK hW 9 rfl hi250 dX13_goes_265 rfl (fun H locs hW => ?_)
      refine lv_iinc (v := (l5_232 + 1)) (lv' := [(5, .int (l5_232 + 1)), (0, .ref h0), (1, .int l1), (2, .long l2), (4, .int l4)]) E.1 E.2.1 dX13_goes_266 hl (k := 4) rfl rfl (by decide) rfl (fun ls hl => ?_)
      refine lv_goto (tgt := 232) E.1 E.2.1 dX13_goes_269 (by decide) ?_
      exact ih (l5_232 + 1) (vp_updL x_parts_232 l5_232.toNatClampNeg (x_next l5_232.toNatClampNeg)) (upd x_ways_232 l5_232.toNatClampNeg (x_more l5_232.toNatClampNeg)) H locs ls h hW (lv_sub hl [1, 2, 3, 4, 0] rfl)
set_option maxHeartbeats 4000000 in
set_option maxRecDepth 100000 in
theorem k_X13_goes_108 {p : Program} {l : Launch} {e : Env} {s : State} {m : MethodId} {args : Array Value} {below : List Frame} {meth : Method} {c : Code} {g : GE} {A : Nat → Prop} {h0 h1 h2 h3 h4 h5 h6 h7 h8 h9 h10 h11 h12 h13 : Nat} {x_g : Nat → Int32} {x_kept : Nat → Int32} {x_saved : Nat → Int32} {x_before : Nat → Int32} {x_was : Nat → Int32} {x_region : Nat → Int32} {x_isSaved : Int32} {x_changes : Int32} {x_isWithin : Int32} {x_code : Int32} {x_input : Nat → Int32} {x_length : Int32} {x_fault : Int32} {x_failed : Int32} {x_signs : Nat → Int32} {x_signMany : Int32} {x_at : Int32} {x_told : Nat → Int32} {x_toldMany : Int32} {res : (Nat → Int64) × (Nat → Int64) × (Nat → Int32) × (Nat → Int32) × Int64} {l1 : Int32} {l2 : Int64} {z288 : (Nat → Int64) → (Nat → Int64) → (Nat → Int32) → (Nat → Int32) → Int64 → Option ((Nat → Int64) × (Nat → Int64) × (Nat → Int32) × (Nat → Int32) × Int64)}
    (E : En cX13_goes RX13 wsX13_goes 7 none p s m args meth c) (hK : KK g s) (hA : ∀ q, s.heap.size ≤ q → A q)
    (hz288 : ∀ (x_parts_288e : Nat → Int64) (x_next_288e : Nat → Int64) (x_ways_288e : Nat → Int32) (x_more_288e : Nat → Int32) (x_whole_288e : Int64) (H : Heap) (locs : List Loc) (ls : Array Slot), z288 x_parts_288e x_next_288e x_ways_288e x_more_288e x_whole_288e = some res → Wo g A s H locs (w_X13 g h0 h1 h2 h3 h4 h5 h6 h7 h8 h9 h10 h11 h12 h13 x_g x_kept x_saved x_before x_was x_region x_parts_288e x_next_288e x_ways_288e x_more_288e x_whole_288e x_isSaved x_changes x_isWithin x_code x_input x_length x_fault x_failed x_signs x_signMany x_at x_told x_toldMany) → lv_has ls 7 [] → G_X13_goes p l e s m args below meth c g A h0 h1 h2 h3 h4 h5 h6 h7 h8 h9 h10 h11 h12 h13 x_g x_kept x_saved x_before x_was x_region x_isSaved x_changes x_isWithin x_code x_input x_length x_fault x_failed x_signs x_signMany x_at x_told x_toldMany res H locs 288 ls [])
    : ∀ (n : Nat) (l4_108 : Int32) (x_parts_108 : Nat → Int64) (x_next_108 : Nat → Int64) (x_ways_108 : Nat → Int32) (x_more_108 : Nat → Int32) (x_whole_108 : Int64) (H : Heap) (locs : List Loc) (ls : Array Slot), f_X13_goes_108 x_g l1 l2 z288 n l4_108 x_parts_108 x_next_108 x_ways_108 x_more_108 x_whole_108 = some res → Wo g A s H locs (w_X13 g h0 h1 h2 h3 h4 h5 h6 h7 h8 h9 h10 h11 h12 h13 x_g x_kept x_saved x_before x_was x_region x_parts_108 x_next_108 x_ways_108 x_more_108 x_whole_108 x_isSaved x_changes x_isWithin x_code x_input x_length x_fault x_failed x_signs x_signMany x_at x_told x_toldMany) → lv_has ls 7 [(0, .ref h0), (1, .int l1), (2, .long l2), (4, .int l4_108)] → G_X13_goes p l e s m args below meth c g A h0 h1 h2 h3 h4 h5 h6 h7 h8 h9 h10 h11 h12 h13 x_g x_kept x_saved x_before x_was x_region x_isSaved x_changes x_isWithin x_code x_input x_length x_fault x_failed x_signs x_signMany x_at x_told x_toldMany res H locs 108 ls [] := by
  have hts := E.2.2.2.1
  intro n
  induction n with
  | zero => intro l4_108 x_parts_108 x_next_108 x_ways_108 x_more_108 x_whole_108 H locs ls h hW hl; rw [f_X13_goes_108] at h; cases h
  | succ n ih =>
    intro l4_108 x_parts_108 x_next_108 x_ways_108 x_more_108 x_whole_108 H locs ls h hW hl
    rw [f_X13_goes_108] at h
    refine lv_iload E.1 E.2.1 dX13_goes_108 (lv_at hl 3 rfl) ?_
    refine lv_iload_n E.1 E.2.1 dX13_goes_110 rfl (lv_at hl 1 rfl) ?_
    refine lv_icmp_ge (tgt := 288) E.1 E.2.1 dX13_goes_111 (by decide) (fun c111 => ?_) (fun c111 => ?_)
    · have h := it c111 h
      exact hz288 x_parts_108 x_next_108 x_ways_108 x_more_108 x_whole_108 H locs ls h hW (lv_sub hl [] rfl)
    · have h := ie c111 h
      refine lv_iconst (v := 0) E.1 E.2.1 dX13_goes_114 (by decide) ?_
      refine lv_istore (lv' := [(5, .int 0), (0, .ref h0), (1, .int l1), (2, .long l2), (4, .int l4_108)]) E.1 E.2.1 dX13_goes_115 hl (by decide) rfl (fun ls hl => ?_)
      refine k_X13_goes_117 E hK hA ?_ 1000 0 x_next_108 x_more_108 H locs ls h hW (lv_sub hl [1, 2, 3, 4, 0] rfl)
      · intro x_next_229e x_more_229e H locs ls h hW hl
        refine lv_iconst (v := 0) E.1 E.2.1 dX13_goes_229 (by decide) ?_
        refine lv_istore (lv' := [(5, .int 0), (0, .ref h0), (1, .int l1), (2, .long l2), (4, .int l4_108)]) E.1 E.2.1 dX13_goes_230 hl (by decide) rfl (fun ls hl => ?_)
        refine k_X13_goes_232 E hK hA ?_ 1000 0 x_parts_108 x_ways_108 H locs ls h hW (lv_sub hl [1, 2, 3, 4, 0] rfl)
        · intro x_parts_272e x_ways_272e H locs ls h hW hl
          refine lv_aload_n E.1 E.2.1 dX13_goes_272 rfl (lv_at hl 0 rfl) ?_
          refine lv_dup E.1 E.2.1 dX13_goes_273 rfl ?_
          refine wGet (v := .long x_whole_108) E hK in_X13_goes_X13 hW 10 lk_X13_goes_133 0 rfl rfl (by decide) rfl rfl dX13_goes_274 ?_
          refine lv_lload_n E.1 E.2.1 dX13_goes_277 rfl (lv_at hl 2 rfl) ?_
          refine lv_lmul E.1 E.2.1 dX13_goes_278 ?_
          refine wPut (world' := (w_X13 g h0 h1 h2 h3 h4 h5 h6 h7 h8 h9 h10 h11 h12 h13 x_g x_kept x_saved x_before x_was x_region x_parts_272e x_next_229e x_ways_272e x_more_229e (x_whole_108 * l2) x_isSaved x_changes x_isWithin x_code x_input x_length x_fault x_failed x_signs x_signMany x_at x_told x_toldMany)) E hK in_X13_goes_X13 tyX13 tyX13_ok nmX13 hW 10 lk_X13_goes_133 0 rfl rfl (by decide) rfl rfl rfl rfl rfl (Nat.le_of_ble_eq_true rfl) dX13_goes_279 rfl (fun H locs hW => ?_)
          refine lv_iinc (v := (l4_108 + 1)) (lv' := [(4, .int (l4_108 + 1)), (0, .ref h0), (1, .int l1), (2, .long l2)]) E.1 E.2.1 dX13_goes_282 hl (k := 3) rfl rfl (by decide) rfl (fun ls hl => ?_)
          refine lv_goto (tgt := 108) E.1 E.2.1 dX13_goes_285 (by decide) ?_
          exact ih (l4_108 + 1) x_parts_272e x_next_229e x_ways_272e x_more_229e (x_whole_108 * l2) H locs ls h hW (lv_sub hl [1, 2, 3, 0] rfl)
set_option maxHeartbeats 4000000 in
set_option maxRecDepth 100000 in
theorem k_X13_goes_0 {p : Program} {l : Launch} {e : Env} {s : State} {m : MethodId} {args : Array Value} {below : List Frame} {meth : Method} {c : Code} {g : GE} {A : Nat → Prop} {h0 h1 h2 h3 h4 h5 h6 h7 h8 h9 h10 h11 h12 h13 : Nat} {x_g : Nat → Int32} {x_kept : Nat → Int32} {x_saved : Nat → Int32} {x_before : Nat → Int32} {x_was : Nat → Int32} {x_region : Nat → Int32} {x_parts : Nat → Int64} {x_next : Nat → Int64} {x_ways : Nat → Int32} {x_more : Nat → Int32} {x_whole : Int64} {x_isSaved : Int32} {x_changes : Int32} {x_isWithin : Int32} {x_code : Int32} {x_input : Nat → Int32} {x_length : Int32} {x_fault : Int32} {x_failed : Int32} {x_signs : Nat → Int32} {x_signMany : Int32} {x_at : Int32} {x_told : Nat → Int32} {x_toldMany : Int32} {res : (Nat → Int64) × (Nat → Int64) × (Nat → Int32) × (Nat → Int32) × Int64} {H : Heap} {locs : List Loc} {ls : Array Slot} {a1 : Int32}
    (E : En cX13_goes RX13 wsX13_goes 7 none p s m args meth c) (hK : KK g s) (hA : ∀ q, s.heap.size ≤ q → A q) (h : f_X13_goes x_g x_parts x_next x_ways x_more x_whole a1 = some res) (hW : Wo g A s H locs (w_X13 g h0 h1 h2 h3 h4 h5 h6 h7 h8 h9 h10 h11 h12 h13 x_g x_kept x_saved x_before x_was x_region x_parts x_next x_ways x_more x_whole x_isSaved x_changes x_isWithin x_code x_input x_length x_fault x_failed x_signs x_signMany x_at x_told x_toldMany)) (hl : lv_has ls 7 [(0, .ref h0), (1, .int a1)]) : G_X13_goes p l e s m args below meth c g A h0 h1 h2 h3 h4 h5 h6 h7 h8 h9 h10 h11 h12 h13 x_g x_kept x_saved x_before x_was x_region x_isSaved x_changes x_isWithin x_code x_input x_length x_fault x_failed x_signs x_signMany x_at x_told x_toldMany res H locs 0 ls [] := by
  have hts := E.2.2.2.1
  unfold f_X13_goes at h
  refine lv_lconst (v := 1) E.1 E.2.1 dX13_goes_0 (by decide) ?_
  refine lv_lstore_n (lv' := [(2, .long 1), (0, .ref h0), (1, .int a1)]) E.1 E.2.1 dX13_goes_1 rfl hl (by decide) rfl (fun ls hl => ?_)
  refine lv_iconst (v := 0) E.1 E.2.1 dX13_goes_2 (by decide) ?_
  refine lv_istore (lv' := [(4, .int 0), (2, .long 1), (0, .ref h0), (1, .int a1)]) E.1 E.2.1 dX13_goes_3 hl (by decide) rfl (fun ls hl => ?_)
  refine k_X13_goes_5 E hK hA ?_ 1000 1 0 H locs ls h hW (lv_sub hl [2, 3, 1, 0] rfl)
  · intro l2_39e H locs ls h hW hl
    refine lv_iconst (v := 0) E.1 E.2.1 dX13_goes_39 (by decide) ?_
    refine lv_istore (lv' := [(4, .int 0), (0, .ref h0), (1, .int a1), (2, .long l2_39e)]) E.1 E.2.1 dX13_goes_40 hl (by decide) rfl (fun ls hl => ?_)
    refine k_X13_goes_42 E hK hA ?_ 1000 0 x_parts x_ways H locs ls h hW (lv_sub hl [1, 2, 3, 0] rfl)
    · intro x_parts_100e x_ways_100e H locs ls h hW hl
      refine lv_aload_n E.1 E.2.1 dX13_goes_100 rfl (lv_at hl 0 rfl) ?_
      refine lv_lconst (v := 1) E.1 E.2.1 dX13_goes_101 (by decide) ?_
      refine wPut (world' := (w_X13 g h0 h1 h2 h3 h4 h5 h6 h7 h8 h9 h10 h11 h12 h13 x_g x_kept x_saved x_before x_was x_region x_parts_100e x_next x_ways_100e x_more 1 x_isSaved x_changes x_isWithin x_code x_input x_length x_fault x_failed x_signs x_signMany x_at x_told x_toldMany)) E hK in_X13_goes_X13 tyX13 tyX13_ok nmX13 hW 10 lk_X13_goes_133 0 rfl rfl (by decide) rfl rfl rfl rfl rfl (Nat.le_of_ble_eq_true rfl) dX13_goes_102 rfl (fun H locs hW => ?_)
      refine lv_iconst (v := 0) E.1 E.2.1 dX13_goes_105 (by decide) ?_
      refine lv_istore (lv' := [(4, .int 0), (0, .ref h0), (1, .int a1), (2, .long l2_39e)]) E.1 E.2.1 dX13_goes_106 hl (by decide) rfl (fun ls hl => ?_)
      refine k_X13_goes_108 E hK hA ?_ 1000 0 x_parts_100e x_next x_ways_100e x_more 1 H locs ls h hW (lv_sub hl [1, 2, 3, 0] rfl)
      · intro x_parts_288e x_next_288e x_ways_288e x_more_288e x_whole_288e H locs ls h hW hl
        obtain rfl := Option.some.inj h
        exact endV E hW dX13_goes_288
theorem c_X13_goes (l : Launch) (g : GE) (h0 h1 h2 h3 h4 h5 h6 h7 h8 h9 h10 h11 h12 h13 : Nat) (x_g : Nat → Int32) (x_kept : Nat → Int32) (x_saved : Nat → Int32) (x_before : Nat → Int32) (x_was : Nat → Int32) (x_region : Nat → Int32) (x_parts : Nat → Int64) (x_next : Nat → Int64) (x_ways : Nat → Int32) (x_more : Nat → Int32) (x_whole : Int64) (x_isSaved : Int32) (x_changes : Int32) (x_isWithin : Int32) (x_code : Int32) (x_input : Nat → Int32) (x_length : Int32) (x_fault : Int32) (x_failed : Int32) (x_signs : Nat → Int32) (x_signMany : Int32) (x_at : Int32) (x_told : Nat → Int32) (x_toldMany : Int32) (a1 : Int32) {res : (Nat → Int64) × (Nat → Int64) × (Nat → Int32) × (Nat → Int32) × Int64} (hf : f_X13_goes x_g x_parts x_next x_ways x_more x_whole a1 = some res) : CV l yX13_goes wsX13_goes rm_X13_goes g [.ref h0, .int a1] (w_X13 g h0 h1 h2 h3 h4 h5 h6 h7 h8 h9 h10 h11 h12 h13 x_g x_kept x_saved x_before x_was x_region x_parts x_next x_ways x_more x_whole x_isSaved x_changes x_isWithin x_code x_input x_length x_fault x_failed x_signs x_signMany x_at x_told x_toldMany) (w_X13 g h0 h1 h2 h3 h4 h5 h6 h7 h8 h9 h10 h11 h12 h13 x_g x_kept x_saved x_before x_was x_region res.1 res.2.1 res.2.2.1 res.2.2.2.1 res.2.2.2.2 x_isSaved x_changes x_isWithin x_code x_input x_length x_fault x_failed x_signs x_signMany x_at x_told x_toldMany) :=
  mkV (cc := cX13_goes) (maxL := 7) (by decide) rfl (Nat.le_of_ble_eq_true rfl) (fun p e s m args below meth c A H locs ls E hK hA hW hl => k_X13_goes_0 E hK hA hf hW hl)

/-! PaperStormModel.isSoon(I)Z X13_isSoon -/
abbrev rm_X13_isSoon : Room := { frames := 1, cells := 0, slots := 0, locals := 22 }
noncomputable def f_X13_isSoon (a0 : Int32) : Option (Int32) :=
  (f_X13_in a0 0 3).bind fun r3 => if ¬ vp_nar .boolean r3 = r3 then none else some (r3)
abbrev G_X13_isSoon (p : Program) (l : Launch) (e : Env) (s : State) (m : MethodId) (args : Array Value) (below : List Frame) (meth : Method) (c : Code) (g : GE) (A : Nat → Prop) (res : Int32) (H : Heap) (locs : List Loc) (pc : Nat) (ls : Array Slot) (st : List Value) : Prop := W p l e (headSpec wsX13_isSoon rm_X13_isSoon).room s m args below meth c H locs 0 0 (MQ below (PoI g A ([] : va_W) res) args s 0 0 A) (F0 m pc ls st)
set_option maxHeartbeats 4000000 in
set_option maxRecDepth 100000 in
theorem k_X13_isSoon_0 {p : Program} {l : Launch} {e : Env} {s : State} {m : MethodId} {args : Array Value} {below : List Frame} {meth : Method} {c : Code} {g : GE} {A : Nat → Prop} {res : Int32} {H : Heap} {locs : List Loc} {ls : Array Slot} {a0 : Int32}
    (E : En cX13_isSoon RX13 wsX13_isSoon 1 (some .boolean) p s m args meth c) (hK : KK g s) (hA : ∀ q, s.heap.size ≤ q → A q) (h : f_X13_isSoon a0 = some res) (hW : Wo g A s H locs ([] : va_W)) (hl : lv_has ls 1 [(0, .int a0)]) : G_X13_isSoon p l e s m args below meth c g A res H locs 0 ls [] := by
  have hts := E.2.2.2.1
  unfold f_X13_isSoon at h
  refine lv_iload_n E.1 E.2.1 dX13_isSoon_0 rfl (lv_at hl 0 rfl) ?_
  refine lv_iconst (v := 0) E.1 E.2.1 dX13_isSoon_1 (by decide) ?_
  refine lv_iconst (v := 3) E.1 E.2.1 dX13_isSoon_2 (by decide) ?_
  obtain ⟨r3, hc, h⟩ := bx h
  refine goI (world' := ([] : va_W)) hW hA (is := []) rfl (goS (rest := []) E hK hW [] rfl rfl (c_X13_in l g a0 0 3 (hf := hc) H.size) (va_cwS 3 hts gX13_isSoon_X13_in rfl rfl rfl (by decide +kernel) ⟨Nat.le_of_ble_eq_true rfl, Nat.le_of_ble_eq_true rfl⟩) hl.1 rfl rfl (Nat.le_of_ble_eq_true rfl) dX13_isSoon_3 ⟨Nat.zero_le _, Nat.zero_le _⟩) rfl rfl (fun H locs hW => ?_)
  obtain ⟨hz, h⟩ := ox h
  obtain rfl := Option.some.inj h
  exact endI E (nar_z (Decidable.not_not.mp hz)) hW dX13_isSoon_6
theorem c_X13_isSoon (l : Launch) (g : GE) (a0 : Int32) {res : Int32} (hf : f_X13_isSoon a0 = some res) : CI l yX13_isSoon wsX13_isSoon rm_X13_isSoon g [.int a0] ([] : va_W) ([] : va_W) res :=
  mkI (cc := cX13_isSoon) (maxL := 1) (by decide) rfl (Nat.le_of_ble_eq_true rfl) (fun p e s m args below meth c A H locs ls E hK hA hW hl => k_X13_isSoon_0 E hK hA hf hW hl)

/-! PaperStormModel.isUnasked(II)Z X13_isUnasked -/
abbrev rm_X13_isUnasked : Room := { frames := 2, cells := 0, slots := 0, locals := 42 }
noncomputable def f_X13_isUnasked (x_code : Int32) (a1 : Int32) (a2 : Int32) : Option (Int32 × Int32) :=
  jo (fun (s1_20 : Int32) => (f_X13_fails x_code s1_20).bind fun r20 => if ¬ vp_nar .boolean r20.1 = r20.1 then none else some (r20.1, r20.2)) (fun j20 => jo (j20 1) (fun j19 => (f_X13_isSoon a1).bind fun r2 => if r2 = 0 then j19 else (f_X13_isSort a2).bind fun r9 => if r9 = 0 then j19 else j20 0))
abbrev G_X13_isUnasked (p : Program) (l : Launch) (e : Env) (s : State) (m : MethodId) (args : Array Value) (below : List Frame) (meth : Method) (c : Code) (g : GE) (A : Nat → Prop) (h0 h1 h2 h3 h4 h5 h6 h7 h8 h9 h10 h11 h12 h13 : Nat) (x_g : Nat → Int32) (x_kept : Nat → Int32) (x_saved : Nat → Int32) (x_before : Nat → Int32) (x_was : Nat → Int32) (x_region : Nat → Int32) (x_parts : Nat → Int64) (x_next : Nat → Int64) (x_ways : Nat → Int32) (x_more : Nat → Int32) (x_whole : Int64) (x_isSaved : Int32) (x_changes : Int32) (x_isWithin : Int32) (x_input : Nat → Int32) (x_length : Int32) (x_fault : Int32) (x_failed : Int32) (x_signs : Nat → Int32) (x_signMany : Int32) (x_at : Int32) (x_told : Nat → Int32) (x_toldMany : Int32) (res : Int32 × Int32) (H : Heap) (locs : List Loc) (pc : Nat) (ls : Array Slot) (st : List Value) : Prop := W p l e (headSpec wsX13_isUnasked rm_X13_isUnasked).room s m args below meth c H locs 0 0 (MQ below (PoI g A (w_X13 g h0 h1 h2 h3 h4 h5 h6 h7 h8 h9 h10 h11 h12 h13 x_g x_kept x_saved x_before x_was x_region x_parts x_next x_ways x_more x_whole x_isSaved x_changes x_isWithin res.2 x_input x_length x_fault x_failed x_signs x_signMany x_at x_told x_toldMany) res.1) args s 0 0 A) (F0 m pc ls st)
set_option maxHeartbeats 4000000 in
set_option maxRecDepth 100000 in
theorem k_X13_isUnasked_0 {p : Program} {l : Launch} {e : Env} {s : State} {m : MethodId} {args : Array Value} {below : List Frame} {meth : Method} {c : Code} {g : GE} {A : Nat → Prop} {h0 h1 h2 h3 h4 h5 h6 h7 h8 h9 h10 h11 h12 h13 : Nat} {x_g : Nat → Int32} {x_kept : Nat → Int32} {x_saved : Nat → Int32} {x_before : Nat → Int32} {x_was : Nat → Int32} {x_region : Nat → Int32} {x_parts : Nat → Int64} {x_next : Nat → Int64} {x_ways : Nat → Int32} {x_more : Nat → Int32} {x_whole : Int64} {x_isSaved : Int32} {x_changes : Int32} {x_isWithin : Int32} {x_code : Int32} {x_input : Nat → Int32} {x_length : Int32} {x_fault : Int32} {x_failed : Int32} {x_signs : Nat → Int32} {x_signMany : Int32} {x_at : Int32} {x_told : Nat → Int32} {x_toldMany : Int32} {res : Int32 × Int32} {H : Heap} {locs : List Loc} {ls : Array Slot} {a1 : Int32} {a2 : Int32}
    (E : En cX13_isUnasked RX13 wsX13_isUnasked 3 (some .boolean) p s m args meth c) (hK : KK g s) (hA : ∀ q, s.heap.size ≤ q → A q) (h : f_X13_isUnasked x_code a1 a2 = some res) (hW : Wo g A s H locs (w_X13 g h0 h1 h2 h3 h4 h5 h6 h7 h8 h9 h10 h11 h12 h13 x_g x_kept x_saved x_before x_was x_region x_parts x_next x_ways x_more x_whole x_isSaved x_changes x_isWithin x_code x_input x_length x_fault x_failed x_signs x_signMany x_at x_told x_toldMany)) (hl : lv_has ls 3 [(0, .ref h0), (1, .int a1), (2, .int a2)]) : G_X13_isUnasked p l e s m args below meth c g A h0 h1 h2 h3 h4 h5 h6 h7 h8 h9 h10 h11 h12 h13 x_g x_kept x_saved x_before x_was x_region x_parts x_next x_ways x_more x_whole x_isSaved x_changes x_isWithin x_input x_length x_fault x_failed x_signs x_signMany x_at x_told x_toldMany res H locs 0 ls [] := by
  have hts := E.2.2.2.1
  unfold f_X13_isUnasked at h
  obtain ⟨j20, hj20, h⟩ := jox1 h
  have J20 : ∀ (s1_20 : Int32) (H : Heap) (locs : List Loc) (ls : Array Slot), j20 s1_20 = some res → Wo g A s H locs (w_X13 g h0 h1 h2 h3 h4 h5 h6 h7 h8 h9 h10 h11 h12 h13 x_g x_kept x_saved x_before x_was x_region x_parts x_next x_ways x_more x_whole x_isSaved x_changes x_isWithin x_code x_input x_length x_fault x_failed x_signs x_signMany x_at x_told x_toldMany) → lv_has ls 3 [] → G_X13_isUnasked p l e s m args below meth c g A h0 h1 h2 h3 h4 h5 h6 h7 h8 h9 h10 h11 h12 h13 x_g x_kept x_saved x_before x_was x_region x_parts x_next x_ways x_more x_whole x_isSaved x_changes x_isWithin x_input x_length x_fault x_failed x_signs x_signMany x_at x_told x_toldMany res H locs 20 ls [.int s1_20, .ref h0] := by
    intro s1_20 H locs ls h hW hl
    rw [hj20] at h
    obtain ⟨r20, hc, h⟩ := bx h
    refine goI (world' := (w_X13 g h0 h1 h2 h3 h4 h5 h6 h7 h8 h9 h10 h11 h12 h13 x_g x_kept x_saved x_before x_was x_region x_parts x_next x_ways x_more x_whole x_isSaved x_changes x_isWithin r20.2 x_input x_length x_fault x_failed x_signs x_signMany x_at x_told x_toldMany)) hW hA (is := [0, 1, 2, 3, 4, 5, 6, 7, 8, 9, 10, 11, 12, 13]) rfl (goV (rest := []) E hK hW [0, 1, 2, 3, 4, 5, 6, 7, 8, 9, 10, 11, 12, 13] rfl rfl (c_X13_fails l g h0 h1 h2 h3 h4 h5 h6 h7 h8 h9 h10 h11 h12 h13 x_g x_kept x_saved x_before x_was x_region x_parts x_next x_ways x_more x_whole x_isSaved x_changes x_isWithin x_code x_input x_length x_fault x_failed x_signs x_signMany x_at x_told x_toldMany s1_20 (hf := hc) H.size) (cwV 1 hts gX13_isUnasked_X13_fails rfl rfl rfl (by decide +kernel) ⟨Nat.le_of_ble_eq_true rfl, Nat.le_of_ble_eq_true rfl⟩) 0 rfl rfl rfl hl.1 rfl rfl (Nat.le_of_ble_eq_true rfl) dX13_isUnasked_20 ⟨Nat.zero_le _, Nat.zero_le _⟩) rfl rfl (fun H locs hW => ?_)
    obtain ⟨hz, h⟩ := ox h
    obtain rfl := Option.some.inj h
    exact endI E (nar_z (Decidable.not_not.mp hz)) hW dX13_isUnasked_23
  obtain ⟨j19, hj19, h⟩ := jox0 h
  have J19 : ∀ (H : Heap) (locs : List Loc) (ls : Array Slot), j19 = some res → Wo g A s H locs (w_X13 g h0 h1 h2 h3 h4 h5 h6 h7 h8 h9 h10 h11 h12 h13 x_g x_kept x_saved x_before x_was x_region x_parts x_next x_ways x_more x_whole x_isSaved x_changes x_isWithin x_code x_input x_length x_fault x_failed x_signs x_signMany x_at x_told x_toldMany) → lv_has ls 3 [] → G_X13_isUnasked p l e s m args below meth c g A h0 h1 h2 h3 h4 h5 h6 h7 h8 h9 h10 h11 h12 h13 x_g x_kept x_saved x_before x_was x_region x_parts x_next x_ways x_more x_whole x_isSaved x_changes x_isWithin x_input x_length x_fault x_failed x_signs x_signMany x_at x_told x_toldMany res H locs 19 ls [.ref h0] := by
    intro H locs ls h hW hl
    rw [hj19] at h
    refine lv_iconst (v := 1) E.1 E.2.1 dX13_isUnasked_19 (by decide) ?_
    exact J20 1 H locs ls h hW (lv_sub hl [] rfl)
  refine lv_aload_n E.1 E.2.1 dX13_isUnasked_0 rfl (lv_at hl 0 rfl) ?_
  refine lv_iload_n E.1 E.2.1 dX13_isUnasked_1 rfl (lv_at hl 1 rfl) ?_
  obtain ⟨r2, hc, h⟩ := bx h
  refine goI (world' := (w_X13 g h0 h1 h2 h3 h4 h5 h6 h7 h8 h9 h10 h11 h12 h13 x_g x_kept x_saved x_before x_was x_region x_parts x_next x_ways x_more x_whole x_isSaved x_changes x_isWithin x_code x_input x_length x_fault x_failed x_signs x_signMany x_at x_told x_toldMany)) hW hA (is := []) rfl (goS (rest := [.ref h0]) E hK hW [] rfl rfl (c_X13_isSoon l g a1 (hf := hc) H.size) (va_cwS 1 hts gX13_isUnasked_X13_isSoon rfl rfl rfl (by decide +kernel) ⟨Nat.le_of_ble_eq_true rfl, Nat.le_of_ble_eq_true rfl⟩) hl.1 rfl rfl (Nat.le_of_ble_eq_true rfl) dX13_isUnasked_2 ⟨Nat.zero_le _, Nat.zero_le _⟩) rfl rfl (fun H locs hW => ?_)
  refine lv_if_eq (tgt := 19) E.1 E.2.1 dX13_isUnasked_5 (by decide) (fun c5 => ?_) (fun c5 => ?_)
  · have h := it c5 h
    exact J19  H locs ls h hW (lv_sub hl [] rfl)
  · have h := ie c5 h
    refine lv_iload_n E.1 E.2.1 dX13_isUnasked_8 rfl (lv_at hl 2 rfl) ?_
    obtain ⟨r9, hc, h⟩ := bx h
    refine goI (world' := (w_X13 g h0 h1 h2 h3 h4 h5 h6 h7 h8 h9 h10 h11 h12 h13 x_g x_kept x_saved x_before x_was x_region x_parts x_next x_ways x_more x_whole x_isSaved x_changes x_isWithin x_code x_input x_length x_fault x_failed x_signs x_signMany x_at x_told x_toldMany)) hW hA (is := []) rfl (goS (rest := [.ref h0]) E hK hW [] rfl rfl (c_X13_isSort l g a2 (hf := hc) H.size) (va_cwS 1 hts gX13_isUnasked_X13_isSort rfl rfl rfl (by decide +kernel) ⟨Nat.le_of_ble_eq_true rfl, Nat.le_of_ble_eq_true rfl⟩) hl.1 rfl rfl (Nat.le_of_ble_eq_true rfl) dX13_isUnasked_9 ⟨Nat.zero_le _, Nat.zero_le _⟩) rfl rfl (fun H locs hW => ?_)
    refine lv_if_eq (tgt := 19) E.1 E.2.1 dX13_isUnasked_12 (by decide) (fun c12 => ?_) (fun c12 => ?_)
    · have h := it c12 h
      exact J19  H locs ls h hW (lv_sub hl [] rfl)
    · have h := ie c12 h
      refine lv_iconst (v := 0) E.1 E.2.1 dX13_isUnasked_15 (by decide) ?_
      refine lv_goto (tgt := 20) E.1 E.2.1 dX13_isUnasked_16 (by decide) ?_
      exact J20 0 H locs ls h hW (lv_sub hl [] rfl)
theorem c_X13_isUnasked (l : Launch) (g : GE) (h0 h1 h2 h3 h4 h5 h6 h7 h8 h9 h10 h11 h12 h13 : Nat) (x_g : Nat → Int32) (x_kept : Nat → Int32) (x_saved : Nat → Int32) (x_before : Nat → Int32) (x_was : Nat → Int32) (x_region : Nat → Int32) (x_parts : Nat → Int64) (x_next : Nat → Int64) (x_ways : Nat → Int32) (x_more : Nat → Int32) (x_whole : Int64) (x_isSaved : Int32) (x_changes : Int32) (x_isWithin : Int32) (x_code : Int32) (x_input : Nat → Int32) (x_length : Int32) (x_fault : Int32) (x_failed : Int32) (x_signs : Nat → Int32) (x_signMany : Int32) (x_at : Int32) (x_told : Nat → Int32) (x_toldMany : Int32) (a1 : Int32) (a2 : Int32) {res : Int32 × Int32} (hf : f_X13_isUnasked x_code a1 a2 = some res) : CI l yX13_isUnasked wsX13_isUnasked rm_X13_isUnasked g [.ref h0, .int a1, .int a2] (w_X13 g h0 h1 h2 h3 h4 h5 h6 h7 h8 h9 h10 h11 h12 h13 x_g x_kept x_saved x_before x_was x_region x_parts x_next x_ways x_more x_whole x_isSaved x_changes x_isWithin x_code x_input x_length x_fault x_failed x_signs x_signMany x_at x_told x_toldMany) (w_X13 g h0 h1 h2 h3 h4 h5 h6 h7 h8 h9 h10 h11 h12 h13 x_g x_kept x_saved x_before x_was x_region x_parts x_next x_ways x_more x_whole x_isSaved x_changes x_isWithin res.2 x_input x_length x_fault x_failed x_signs x_signMany x_at x_told x_toldMany) res.1 :=
  mkI (cc := cX13_isUnasked) (maxL := 3) (by decide) rfl (Nat.le_of_ble_eq_true rfl) (fun p e s m args below meth c A H locs ls E hK hA hW hl => k_X13_isUnasked_0 E hK hA hf hW hl)

/-! PaperStormModel.upper(II)J X13_upper -/
abbrev rm_X13_upper : Room := { frames := 3, cells := 0, slots := 0, locals := 69 }
theorem in_X13_upper_X13 : ∀ w ∈ wsX130, w ∈ wsX13_upper := by decide +kernel
theorem lk_X13_upper_133 : Cond.fieldLink RX13 133 "PaperStormModel" "whole" "J" ∈ wsX13_upper := by decide +kernel
theorem lk_X13_upper_28 : Cond.fieldLink RX13 28 "PaperStormModel" "parts" "[J" ∈ wsX13_upper := by decide +kernel
noncomputable def f_X13_upper (x_g : Nat → Int32) (x_parts : Nat → Int64) (x_next : Nat → Int64) (x_ways : Nat → Int32) (x_more : Nat → Int32) (x_whole : Int64) (x_code : Int32) (a1 : Int32) (a2 : Int32) : Option (Int64 × (Nat → Int64) × (Nat → Int64) × (Nat → Int32) × (Nat → Int32) × Int64 × Int32) :=
  (f_X13_isUnasked x_code a1 a2).bind fun r3 => if r3.1 = 0 then (f_X13_goes x_g x_parts x_next x_ways x_more x_whole a1).bind fun r13 => if a2 < 0 ∨ 4 ≤ a2.toNatClampNeg then none else (f_X13_shared r13.2.2.2.2 (r13.1 a2.toNatClampNeg)).bind fun r32 => if r32 = 0 then none else some (((r13.1 a2.toNatClampNeg) / r32), r13.1, r13.2.1, r13.2.2.1, r13.2.2.2.1, r13.2.2.2.2, r3.2) else some (0, x_parts, x_next, x_ways, x_more, x_whole, r3.2)
abbrev G_X13_upper (p : Program) (l : Launch) (e : Env) (s : State) (m : MethodId) (args : Array Value) (below : List Frame) (meth : Method) (c : Code) (g : GE) (A : Nat → Prop) (h0 h1 h2 h3 h4 h5 h6 h7 h8 h9 h10 h11 h12 h13 : Nat) (x_g : Nat → Int32) (x_kept : Nat → Int32) (x_saved : Nat → Int32) (x_before : Nat → Int32) (x_was : Nat → Int32) (x_region : Nat → Int32) (x_isSaved : Int32) (x_changes : Int32) (x_isWithin : Int32) (x_input : Nat → Int32) (x_length : Int32) (x_fault : Int32) (x_failed : Int32) (x_signs : Nat → Int32) (x_signMany : Int32) (x_at : Int32) (x_told : Nat → Int32) (x_toldMany : Int32) (res : Int64 × (Nat → Int64) × (Nat → Int64) × (Nat → Int32) × (Nat → Int32) × Int64 × Int32) (H : Heap) (locs : List Loc) (pc : Nat) (ls : Array Slot) (st : List Value) : Prop := W p l e (headSpec wsX13_upper rm_X13_upper).room s m args below meth c H locs 0 0 (MQ below (PoJ g A (w_X13 g h0 h1 h2 h3 h4 h5 h6 h7 h8 h9 h10 h11 h12 h13 x_g x_kept x_saved x_before x_was x_region res.2.1 res.2.2.1 res.2.2.2.1 res.2.2.2.2.1 res.2.2.2.2.2.1 x_isSaved x_changes x_isWithin res.2.2.2.2.2.2 x_input x_length x_fault x_failed x_signs x_signMany x_at x_told x_toldMany) res.1) args s 0 0 A) (F0 m pc ls st)
set_option maxHeartbeats 4000000 in
set_option maxRecDepth 100000 in
theorem k_X13_upper_0 {p : Program} {l : Launch} {e : Env} {s : State} {m : MethodId} {args : Array Value} {below : List Frame} {meth : Method} {c : Code} {g : GE} {A : Nat → Prop} {h0 h1 h2 h3 h4 h5 h6 h7 h8 h9 h10 h11 h12 h13 : Nat} {x_g : Nat → Int32} {x_kept : Nat → Int32} {x_saved : Nat → Int32} {x_before : Nat → Int32} {x_was : Nat → Int32} {x_region : Nat → Int32} {x_parts : Nat → Int64} {x_next : Nat → Int64} {x_ways : Nat → Int32} {x_more : Nat → Int32} {x_whole : Int64} {x_isSaved : Int32} {x_changes : Int32} {x_isWithin : Int32} {x_code : Int32} {x_input : Nat → Int32} {x_length : Int32} {x_fault : Int32} {x_failed : Int32} {x_signs : Nat → Int32} {x_signMany : Int32} {x_at : Int32} {x_told : Nat → Int32} {x_toldMany : Int32} {res : Int64 × (Nat → Int64) × (Nat → Int64) × (Nat → Int32) × (Nat → Int32) × Int64 × Int32} {H : Heap} {locs : List Loc} {ls : Array Slot} {a1 : Int32} {a2 : Int32}
    (E : En cX13_upper RX13 wsX13_upper 3 (some .long) p s m args meth c) (hK : KK g s) (hA : ∀ q, s.heap.size ≤ q → A q) (h : f_X13_upper x_g x_parts x_next x_ways x_more x_whole x_code a1 a2 = some res) (hW : Wo g A s H locs (w_X13 g h0 h1 h2 h3 h4 h5 h6 h7 h8 h9 h10 h11 h12 h13 x_g x_kept x_saved x_before x_was x_region x_parts x_next x_ways x_more x_whole x_isSaved x_changes x_isWithin x_code x_input x_length x_fault x_failed x_signs x_signMany x_at x_told x_toldMany)) (hl : lv_has ls 3 [(0, .ref h0), (1, .int a1), (2, .int a2)]) : G_X13_upper p l e s m args below meth c g A h0 h1 h2 h3 h4 h5 h6 h7 h8 h9 h10 h11 h12 h13 x_g x_kept x_saved x_before x_was x_region x_isSaved x_changes x_isWithin x_input x_length x_fault x_failed x_signs x_signMany x_at x_told x_toldMany res H locs 0 ls [] := by
  have hts := E.2.2.2.1
  unfold f_X13_upper at h
  refine lv_aload_n E.1 E.2.1 dX13_upper_0 rfl (lv_at hl 0 rfl) ?_
  refine lv_iload_n E.1 E.2.1 dX13_upper_1 rfl (lv_at hl 1 rfl) ?_
  refine lv_iload_n E.1 E.2.1 dX13_upper_2 rfl (lv_at hl 2 rfl) ?_
  obtain ⟨r3, hc, h⟩ := bx h
  refine goI (world' := (w_X13 g h0 h1 h2 h3 h4 h5 h6 h7 h8 h9 h10 h11 h12 h13 x_g x_kept x_saved x_before x_was x_region x_parts x_next x_ways x_more x_whole x_isSaved x_changes x_isWithin r3.2 x_input x_length x_fault x_failed x_signs x_signMany x_at x_told x_toldMany)) hW hA (is := [0, 1, 2, 3, 4, 5, 6, 7, 8, 9, 10, 11, 12, 13]) rfl (goV (rest := []) E hK hW [0, 1, 2, 3, 4, 5, 6, 7, 8, 9, 10, 11, 12, 13] rfl rfl (c_X13_isUnasked l g h0 h1 h2 h3 h4 h5 h6 h7 h8 h9 h10 h11 h12 h13 x_g x_kept x_saved x_before x_was x_region x_parts x_next x_ways x_more x_whole x_isSaved x_changes x_isWithin x_code x_input x_length x_fault x_failed x_signs x_signMany x_at x_told x_toldMany a1 a2 (hf := hc) H.size) (cwV 2 hts gX13_upper_X13_isUnasked rfl rfl rfl (by decide +kernel) ⟨Nat.le_of_ble_eq_true rfl, Nat.le_of_ble_eq_true rfl⟩) 0 rfl rfl rfl hl.1 rfl rfl (Nat.le_of_ble_eq_true rfl) dX13_upper_3 ⟨Nat.zero_le _, Nat.zero_le _⟩) rfl rfl (fun H locs hW => ?_)
  refine lv_if_eq (tgt := 11) E.1 E.2.1 dX13_upper_6 (by decide) (fun c6 => ?_) (fun c6 => ?_)
  · have h := it c6 h
    refine lv_aload_n E.1 E.2.1 dX13_upper_11 rfl (lv_at hl 0 rfl) ?_
    refine lv_iload_n E.1 E.2.1 dX13_upper_12 rfl (lv_at hl 1 rfl) ?_
    obtain ⟨r13, hc, h⟩ := bx h
    refine goU (world' := (w_X13 g h0 h1 h2 h3 h4 h5 h6 h7 h8 h9 h10 h11 h12 h13 x_g x_kept x_saved x_before x_was x_region r13.1 r13.2.1 r13.2.2.1 r13.2.2.2.1 r13.2.2.2.2 x_isSaved x_changes x_isWithin r3.2 x_input x_length x_fault x_failed x_signs x_signMany x_at x_told x_toldMany)) hW hA (is := [0, 1, 2, 3, 4, 5, 6, 7, 8, 9, 10, 11, 12, 13]) rfl (goV (rest := []) E hK hW [0, 1, 2, 3, 4, 5, 6, 7, 8, 9, 10, 11, 12, 13] rfl rfl (c_X13_goes l g h0 h1 h2 h3 h4 h5 h6 h7 h8 h9 h10 h11 h12 h13 x_g x_kept x_saved x_before x_was x_region x_parts x_next x_ways x_more x_whole x_isSaved x_changes x_isWithin r3.2 x_input x_length x_fault x_failed x_signs x_signMany x_at x_told x_toldMany a1 (hf := hc) H.size) (cwV 1 hts gX13_upper_X13_goes rfl rfl rfl (by decide +kernel) ⟨Nat.le_of_ble_eq_true rfl, Nat.le_of_ble_eq_true rfl⟩) 0 rfl rfl rfl hl.1 rfl rfl (Nat.le_of_ble_eq_true rfl) dX13_upper_13 ⟨Nat.zero_le _, Nat.zero_le _⟩) rfl rfl (fun H locs hW => ?_)
    refine lv_aload_n E.1 E.2.1 dX13_upper_16 rfl (lv_at hl 0 rfl) ?_
    refine wGet (v := .ref h7) E hK in_X13_upper_X13 hW 6 lk_X13_upper_28 0 rfl rfl (by decide) rfl rfl dX13_upper_17 ?_
    refine lv_iload_n E.1 E.2.1 dX13_upper_20 rfl (lv_at hl 2 rfl) ?_
    obtain ⟨hi21, h⟩ := ox h
    refine wLald E hK hW 7 rfl hi21 dX13_upper_21 ?_
    refine lv_aload_n E.1 E.2.1 dX13_upper_22 rfl (lv_at hl 0 rfl) ?_
    refine wGet (v := .long r13.2.2.2.2) E hK in_X13_upper_X13 hW 10 lk_X13_upper_133 0 rfl rfl (by decide) rfl rfl dX13_upper_23 ?_
    refine lv_aload_n E.1 E.2.1 dX13_upper_26 rfl (lv_at hl 0 rfl) ?_
    refine wGet (v := .ref h7) E hK in_X13_upper_X13 hW 6 lk_X13_upper_28 0 rfl rfl (by decide) rfl rfl dX13_upper_27 ?_
    refine lv_iload_n E.1 E.2.1 dX13_upper_30 rfl (lv_at hl 2 rfl) ?_
    refine wLald E hK hW 7 rfl hi21 dX13_upper_31 ?_
    obtain ⟨r32, hc, h⟩ := bx h
    refine goJ (world' := (w_X13 g h0 h1 h2 h3 h4 h5 h6 h7 h8 h9 h10 h11 h12 h13 x_g x_kept x_saved x_before x_was x_region r13.1 r13.2.1 r13.2.2.1 r13.2.2.2.1 r13.2.2.2.2 x_isSaved x_changes x_isWithin r3.2 x_input x_length x_fault x_failed x_signs x_signMany x_at x_told x_toldMany)) hW hA (is := []) rfl (goS (rest := [.long (r13.1 a2.toNatClampNeg)]) E hK hW [] rfl rfl (c_X13_shared l g r13.2.2.2.2 (r13.1 a2.toNatClampNeg) (hf := hc) H.size) (va_cwS 2 hts gX13_upper_X13_shared rfl rfl rfl (by decide +kernel) ⟨Nat.le_of_ble_eq_true rfl, Nat.le_of_ble_eq_true rfl⟩) hl.1 rfl rfl (Nat.le_of_ble_eq_true rfl) dX13_upper_32 ⟨Nat.zero_le _, Nat.zero_le _⟩) rfl rfl (fun H locs hW => ?_)
    obtain ⟨hn35, h⟩ := ox h
    refine lv_ldiv E.1 E.2.1 dX13_upper_35 hn35 ?_
    obtain rfl := Option.some.inj h
    exact endJ E hW dX13_upper_36
  · have h := ie c6 h
    refine lv_lconst (v := 0) E.1 E.2.1 dX13_upper_9 (by decide) ?_
    obtain rfl := Option.some.inj h
    exact endJ E hW dX13_upper_10
theorem c_X13_upper (l : Launch) (g : GE) (h0 h1 h2 h3 h4 h5 h6 h7 h8 h9 h10 h11 h12 h13 : Nat) (x_g : Nat → Int32) (x_kept : Nat → Int32) (x_saved : Nat → Int32) (x_before : Nat → Int32) (x_was : Nat → Int32) (x_region : Nat → Int32) (x_parts : Nat → Int64) (x_next : Nat → Int64) (x_ways : Nat → Int32) (x_more : Nat → Int32) (x_whole : Int64) (x_isSaved : Int32) (x_changes : Int32) (x_isWithin : Int32) (x_code : Int32) (x_input : Nat → Int32) (x_length : Int32) (x_fault : Int32) (x_failed : Int32) (x_signs : Nat → Int32) (x_signMany : Int32) (x_at : Int32) (x_told : Nat → Int32) (x_toldMany : Int32) (a1 : Int32) (a2 : Int32) {res : Int64 × (Nat → Int64) × (Nat → Int64) × (Nat → Int32) × (Nat → Int32) × Int64 × Int32} (hf : f_X13_upper x_g x_parts x_next x_ways x_more x_whole x_code a1 a2 = some res) : CJ l yX13_upper wsX13_upper rm_X13_upper g [.ref h0, .int a1, .int a2] (w_X13 g h0 h1 h2 h3 h4 h5 h6 h7 h8 h9 h10 h11 h12 h13 x_g x_kept x_saved x_before x_was x_region x_parts x_next x_ways x_more x_whole x_isSaved x_changes x_isWithin x_code x_input x_length x_fault x_failed x_signs x_signMany x_at x_told x_toldMany) (w_X13 g h0 h1 h2 h3 h4 h5 h6 h7 h8 h9 h10 h11 h12 h13 x_g x_kept x_saved x_before x_was x_region res.2.1 res.2.2.1 res.2.2.2.1 res.2.2.2.2.1 res.2.2.2.2.2.1 x_isSaved x_changes x_isWithin res.2.2.2.2.2.2 x_input x_length x_fault x_failed x_signs x_signMany x_at x_told x_toldMany) res.1 :=
  mkJ (cc := cX13_upper) (maxL := 3) (by decide) rfl (Nat.le_of_ble_eq_true rfl) (fun p e s m args below meth c A H locs ls E hK hA hW hl => k_X13_upper_0 E hK hA hf hW hl)

/-! PaperStormModel.lower(II)J X13_lower -/
abbrev rm_X13_lower : Room := { frames := 3, cells := 0, slots := 0, locals := 69 }
theorem in_X13_lower_X13 : ∀ w ∈ wsX130, w ∈ wsX13_lower := by decide +kernel
theorem lk_X13_lower_133 : Cond.fieldLink RX13 133 "PaperStormModel" "whole" "J" ∈ wsX13_lower := by decide +kernel
theorem lk_X13_lower_28 : Cond.fieldLink RX13 28 "PaperStormModel" "parts" "[J" ∈ wsX13_lower := by decide +kernel
noncomputable def f_X13_lower (x_g : Nat → Int32) (x_parts : Nat → Int64) (x_next : Nat → Int64) (x_ways : Nat → Int32) (x_more : Nat → Int32) (x_whole : Int64) (x_code : Int32) (a1 : Int32) (a2 : Int32) : Option (Int64 × (Nat → Int64) × (Nat → Int64) × (Nat → Int32) × (Nat → Int32) × Int64 × Int32) :=
  (f_X13_isUnasked x_code a1 a2).bind fun r3 => if r3.1 = 0 then (f_X13_goes x_g x_parts x_next x_ways x_more x_whole a1).bind fun r13 => if a2 < 0 ∨ 4 ≤ a2.toNatClampNeg then none else (f_X13_shared r13.2.2.2.2 (r13.1 a2.toNatClampNeg)).bind fun r30 => if r30 = 0 then none else some ((r13.2.2.2.2 / r30), r13.1, r13.2.1, r13.2.2.1, r13.2.2.2.1, r13.2.2.2.2, r3.2) else some (0, x_parts, x_next, x_ways, x_more, x_whole, r3.2)
abbrev G_X13_lower (p : Program) (l : Launch) (e : Env) (s : State) (m : MethodId) (args : Array Value) (below : List Frame) (meth : Method) (c : Code) (g : GE) (A : Nat → Prop) (h0 h1 h2 h3 h4 h5 h6 h7 h8 h9 h10 h11 h12 h13 : Nat) (x_g : Nat → Int32) (x_kept : Nat → Int32) (x_saved : Nat → Int32) (x_before : Nat → Int32) (x_was : Nat → Int32) (x_region : Nat → Int32) (x_isSaved : Int32) (x_changes : Int32) (x_isWithin : Int32) (x_input : Nat → Int32) (x_length : Int32) (x_fault : Int32) (x_failed : Int32) (x_signs : Nat → Int32) (x_signMany : Int32) (x_at : Int32) (x_told : Nat → Int32) (x_toldMany : Int32) (res : Int64 × (Nat → Int64) × (Nat → Int64) × (Nat → Int32) × (Nat → Int32) × Int64 × Int32) (H : Heap) (locs : List Loc) (pc : Nat) (ls : Array Slot) (st : List Value) : Prop := W p l e (headSpec wsX13_lower rm_X13_lower).room s m args below meth c H locs 0 0 (MQ below (PoJ g A (w_X13 g h0 h1 h2 h3 h4 h5 h6 h7 h8 h9 h10 h11 h12 h13 x_g x_kept x_saved x_before x_was x_region res.2.1 res.2.2.1 res.2.2.2.1 res.2.2.2.2.1 res.2.2.2.2.2.1 x_isSaved x_changes x_isWithin res.2.2.2.2.2.2 x_input x_length x_fault x_failed x_signs x_signMany x_at x_told x_toldMany) res.1) args s 0 0 A) (F0 m pc ls st)
set_option maxHeartbeats 4000000 in
set_option maxRecDepth 100000 in
theorem k_X13_lower_0 {p : Program} {l : Launch} {e : Env} {s : State} {m : MethodId} {args : Array Value} {below : List Frame} {meth : Method} {c : Code} {g : GE} {A : Nat → Prop} {h0 h1 h2 h3 h4 h5 h6 h7 h8 h9 h10 h11 h12 h13 : Nat} {x_g : Nat → Int32} {x_kept : Nat → Int32} {x_saved : Nat → Int32} {x_before : Nat → Int32} {x_was : Nat → Int32} {x_region : Nat → Int32} {x_parts : Nat → Int64} {x_next : Nat → Int64} {x_ways : Nat → Int32} {x_more : Nat → Int32} {x_whole : Int64} {x_isSaved : Int32} {x_changes : Int32} {x_isWithin : Int32} {x_code : Int32} {x_input : Nat → Int32} {x_length : Int32} {x_fault : Int32} {x_failed : Int32} {x_signs : Nat → Int32} {x_signMany : Int32} {x_at : Int32} {x_told : Nat → Int32} {x_toldMany : Int32} {res : Int64 × (Nat → Int64) × (Nat → Int64) × (Nat → Int32) × (Nat → Int32) × Int64 × Int32} {H : Heap} {locs : List Loc} {ls : Array Slot} {a1 : Int32} {a2 : Int32}
    (E : En cX13_lower RX13 wsX13_lower 3 (some .long) p s m args meth c) (hK : KK g s) (hA : ∀ q, s.heap.size ≤ q → A q) (h : f_X13_lower x_g x_parts x_next x_ways x_more x_whole x_code a1 a2 = some res) (hW : Wo g A s H locs (w_X13 g h0 h1 h2 h3 h4 h5 h6 h7 h8 h9 h10 h11 h12 h13 x_g x_kept x_saved x_before x_was x_region x_parts x_next x_ways x_more x_whole x_isSaved x_changes x_isWithin x_code x_input x_length x_fault x_failed x_signs x_signMany x_at x_told x_toldMany)) (hl : lv_has ls 3 [(0, .ref h0), (1, .int a1), (2, .int a2)]) : G_X13_lower p l e s m args below meth c g A h0 h1 h2 h3 h4 h5 h6 h7 h8 h9 h10 h11 h12 h13 x_g x_kept x_saved x_before x_was x_region x_isSaved x_changes x_isWithin x_input x_length x_fault x_failed x_signs x_signMany x_at x_told x_toldMany res H locs 0 ls [] := by
  have hts := E.2.2.2.1
  unfold f_X13_lower at h
  refine lv_aload_n E.1 E.2.1 dX13_lower_0 rfl (lv_at hl 0 rfl) ?_
  refine lv_iload_n E.1 E.2.1 dX13_lower_1 rfl (lv_at hl 1 rfl) ?_
  refine lv_iload_n E.1 E.2.1 dX13_lower_2 rfl (lv_at hl 2 rfl) ?_
  obtain ⟨r3, hc, h⟩ := bx h
  refine goI (world' := (w_X13 g h0 h1 h2 h3 h4 h5 h6 h7 h8 h9 h10 h11 h12 h13 x_g x_kept x_saved x_before x_was x_region x_parts x_next x_ways x_more x_whole x_isSaved x_changes x_isWithin r3.2 x_input x_length x_fault x_failed x_signs x_signMany x_at x_told x_toldMany)) hW hA (is := [0, 1, 2, 3, 4, 5, 6, 7, 8, 9, 10, 11, 12, 13]) rfl (goV (rest := []) E hK hW [0, 1, 2, 3, 4, 5, 6, 7, 8, 9, 10, 11, 12, 13] rfl rfl (c_X13_isUnasked l g h0 h1 h2 h3 h4 h5 h6 h7 h8 h9 h10 h11 h12 h13 x_g x_kept x_saved x_before x_was x_region x_parts x_next x_ways x_more x_whole x_isSaved x_changes x_isWithin x_code x_input x_length x_fault x_failed x_signs x_signMany x_at x_told x_toldMany a1 a2 (hf := hc) H.size) (cwV 2 hts gX13_lower_X13_isUnasked rfl rfl rfl (by decide +kernel) ⟨Nat.le_of_ble_eq_true rfl, Nat.le_of_ble_eq_true rfl⟩) 0 rfl rfl rfl hl.1 rfl rfl (Nat.le_of_ble_eq_true rfl) dX13_lower_3 ⟨Nat.zero_le _, Nat.zero_le _⟩) rfl rfl (fun H locs hW => ?_)
  refine lv_if_eq (tgt := 11) E.1 E.2.1 dX13_lower_6 (by decide) (fun c6 => ?_) (fun c6 => ?_)
  · have h := it c6 h
    refine lv_aload_n E.1 E.2.1 dX13_lower_11 rfl (lv_at hl 0 rfl) ?_
    refine lv_iload_n E.1 E.2.1 dX13_lower_12 rfl (lv_at hl 1 rfl) ?_
    obtain ⟨r13, hc, h⟩ := bx h
    refine goU (world' := (w_X13 g h0 h1 h2 h3 h4 h5 h6 h7 h8 h9 h10 h11 h12 h13 x_g x_kept x_saved x_before x_was x_region r13.1 r13.2.1 r13.2.2.1 r13.2.2.2.1 r13.2.2.2.2 x_isSaved x_changes x_isWithin r3.2 x_input x_length x_fault x_failed x_signs x_signMany x_at x_told x_toldMany)) hW hA (is := [0, 1, 2, 3, 4, 5, 6, 7, 8, 9, 10, 11, 12, 13]) rfl (goV (rest := []) E hK hW [0, 1, 2, 3, 4, 5, 6, 7, 8, 9, 10, 11, 12, 13] rfl rfl (c_X13_goes l g h0 h1 h2 h3 h4 h5 h6 h7 h8 h9 h10 h11 h12 h13 x_g x_kept x_saved x_before x_was x_region x_parts x_next x_ways x_more x_whole x_isSaved x_changes x_isWithin r3.2 x_input x_length x_fault x_failed x_signs x_signMany x_at x_told x_toldMany a1 (hf := hc) H.size) (cwV 1 hts gX13_lower_X13_goes rfl rfl rfl (by decide +kernel) ⟨Nat.le_of_ble_eq_true rfl, Nat.le_of_ble_eq_true rfl⟩) 0 rfl rfl rfl hl.1 rfl rfl (Nat.le_of_ble_eq_true rfl) dX13_lower_13 ⟨Nat.zero_le _, Nat.zero_le _⟩) rfl rfl (fun H locs hW => ?_)
    refine lv_aload_n E.1 E.2.1 dX13_lower_16 rfl (lv_at hl 0 rfl) ?_
    refine wGet (v := .long r13.2.2.2.2) E hK in_X13_lower_X13 hW 10 lk_X13_lower_133 0 rfl rfl (by decide) rfl rfl dX13_lower_17 ?_
    refine lv_aload_n E.1 E.2.1 dX13_lower_20 rfl (lv_at hl 0 rfl) ?_
    refine wGet (v := .long r13.2.2.2.2) E hK in_X13_lower_X13 hW 10 lk_X13_lower_133 0 rfl rfl (by decide) rfl rfl dX13_lower_21 ?_
    refine lv_aload_n E.1 E.2.1 dX13_lower_24 rfl (lv_at hl 0 rfl) ?_
    refine wGet (v := .ref h7) E hK in_X13_lower_X13 hW 6 lk_X13_lower_28 0 rfl rfl (by decide) rfl rfl dX13_lower_25 ?_
    refine lv_iload_n E.1 E.2.1 dX13_lower_28 rfl (lv_at hl 2 rfl) ?_
    obtain ⟨hi29, h⟩ := ox h
    refine wLald E hK hW 7 rfl hi29 dX13_lower_29 ?_
    obtain ⟨r30, hc, h⟩ := bx h
    refine goJ (world' := (w_X13 g h0 h1 h2 h3 h4 h5 h6 h7 h8 h9 h10 h11 h12 h13 x_g x_kept x_saved x_before x_was x_region r13.1 r13.2.1 r13.2.2.1 r13.2.2.2.1 r13.2.2.2.2 x_isSaved x_changes x_isWithin r3.2 x_input x_length x_fault x_failed x_signs x_signMany x_at x_told x_toldMany)) hW hA (is := []) rfl (goS (rest := [.long r13.2.2.2.2]) E hK hW [] rfl rfl (c_X13_shared l g r13.2.2.2.2 (r13.1 a2.toNatClampNeg) (hf := hc) H.size) (va_cwS 2 hts gX13_lower_X13_shared rfl rfl rfl (by decide +kernel) ⟨Nat.le_of_ble_eq_true rfl, Nat.le_of_ble_eq_true rfl⟩) hl.1 rfl rfl (Nat.le_of_ble_eq_true rfl) dX13_lower_30 ⟨Nat.zero_le _, Nat.zero_le _⟩) rfl rfl (fun H locs hW => ?_)
    obtain ⟨hn33, h⟩ := ox h
    refine lv_ldiv E.1 E.2.1 dX13_lower_33 hn33 ?_
    obtain rfl := Option.some.inj h
    exact endJ E hW dX13_lower_34
  · have h := ie c6 h
    refine lv_lconst (v := 0) E.1 E.2.1 dX13_lower_9 (by decide) ?_
    obtain rfl := Option.some.inj h
    exact endJ E hW dX13_lower_10
theorem c_X13_lower (l : Launch) (g : GE) (h0 h1 h2 h3 h4 h5 h6 h7 h8 h9 h10 h11 h12 h13 : Nat) (x_g : Nat → Int32) (x_kept : Nat → Int32) (x_saved : Nat → Int32) (x_before : Nat → Int32) (x_was : Nat → Int32) (x_region : Nat → Int32) (x_parts : Nat → Int64) (x_next : Nat → Int64) (x_ways : Nat → Int32) (x_more : Nat → Int32) (x_whole : Int64) (x_isSaved : Int32) (x_changes : Int32) (x_isWithin : Int32) (x_code : Int32) (x_input : Nat → Int32) (x_length : Int32) (x_fault : Int32) (x_failed : Int32) (x_signs : Nat → Int32) (x_signMany : Int32) (x_at : Int32) (x_told : Nat → Int32) (x_toldMany : Int32) (a1 : Int32) (a2 : Int32) {res : Int64 × (Nat → Int64) × (Nat → Int64) × (Nat → Int32) × (Nat → Int32) × Int64 × Int32} (hf : f_X13_lower x_g x_parts x_next x_ways x_more x_whole x_code a1 a2 = some res) : CJ l yX13_lower wsX13_lower rm_X13_lower g [.ref h0, .int a1, .int a2] (w_X13 g h0 h1 h2 h3 h4 h5 h6 h7 h8 h9 h10 h11 h12 h13 x_g x_kept x_saved x_before x_was x_region x_parts x_next x_ways x_more x_whole x_isSaved x_changes x_isWithin x_code x_input x_length x_fault x_failed x_signs x_signMany x_at x_told x_toldMany) (w_X13 g h0 h1 h2 h3 h4 h5 h6 h7 h8 h9 h10 h11 h12 h13 x_g x_kept x_saved x_before x_was x_region res.2.1 res.2.2.1 res.2.2.2.1 res.2.2.2.2.1 res.2.2.2.2.2.1 x_isSaved x_changes x_isWithin res.2.2.2.2.2.2 x_input x_length x_fault x_failed x_signs x_signMany x_at x_told x_toldMany) res.1 :=
  mkJ (cc := cX13_lower) (maxL := 3) (by decide) rfl (Nat.le_of_ble_eq_true rfl) (fun p e s m args below meth c A H locs ls E hK hA hW hl => k_X13_lower_0 E hK hA hf hW hl)

/-! PaperStormModel.chanceNumerator(II)J X13_chanceNumerator -/
abbrev rm_X13_chanceNumerator : Room := { frames := 4, cells := 0, slots := 0, locals := 91 }
noncomputable def f_X13_chanceNumerator (x_g : Nat → Int32) (x_parts : Nat → Int64) (x_next : Nat → Int64) (x_ways : Nat → Int32) (x_more : Nat → Int32) (x_whole : Int64) (x_code : Int32) (a1 : Int32) (a2 : Int32) : Option (Int64 × (Nat → Int64) × (Nat → Int64) × (Nat → Int32) × (Nat → Int32) × Int64 × Int32) :=
  (f_X13_upper x_g x_parts x_next x_ways x_more x_whole x_code a1 a2).bind fun r3 => some (r3.1, r3.2.1, r3.2.2.1, r3.2.2.2.1, r3.2.2.2.2.1, r3.2.2.2.2.2.1, r3.2.2.2.2.2.2)
abbrev G_X13_chanceNumerator (p : Program) (l : Launch) (e : Env) (s : State) (m : MethodId) (args : Array Value) (below : List Frame) (meth : Method) (c : Code) (g : GE) (A : Nat → Prop) (h0 h1 h2 h3 h4 h5 h6 h7 h8 h9 h10 h11 h12 h13 : Nat) (x_g : Nat → Int32) (x_kept : Nat → Int32) (x_saved : Nat → Int32) (x_before : Nat → Int32) (x_was : Nat → Int32) (x_region : Nat → Int32) (x_isSaved : Int32) (x_changes : Int32) (x_isWithin : Int32) (x_input : Nat → Int32) (x_length : Int32) (x_fault : Int32) (x_failed : Int32) (x_signs : Nat → Int32) (x_signMany : Int32) (x_at : Int32) (x_told : Nat → Int32) (x_toldMany : Int32) (res : Int64 × (Nat → Int64) × (Nat → Int64) × (Nat → Int32) × (Nat → Int32) × Int64 × Int32) (H : Heap) (locs : List Loc) (pc : Nat) (ls : Array Slot) (st : List Value) : Prop := W p l e (headSpec wsX13_chanceNumerator rm_X13_chanceNumerator).room s m args below meth c H locs 0 0 (MQ below (PoJ g A (w_X13 g h0 h1 h2 h3 h4 h5 h6 h7 h8 h9 h10 h11 h12 h13 x_g x_kept x_saved x_before x_was x_region res.2.1 res.2.2.1 res.2.2.2.1 res.2.2.2.2.1 res.2.2.2.2.2.1 x_isSaved x_changes x_isWithin res.2.2.2.2.2.2 x_input x_length x_fault x_failed x_signs x_signMany x_at x_told x_toldMany) res.1) args s 0 0 A) (F0 m pc ls st)
set_option maxHeartbeats 4000000 in
set_option maxRecDepth 100000 in
theorem k_X13_chanceNumerator_0 {p : Program} {l : Launch} {e : Env} {s : State} {m : MethodId} {args : Array Value} {below : List Frame} {meth : Method} {c : Code} {g : GE} {A : Nat → Prop} {h0 h1 h2 h3 h4 h5 h6 h7 h8 h9 h10 h11 h12 h13 : Nat} {x_g : Nat → Int32} {x_kept : Nat → Int32} {x_saved : Nat → Int32} {x_before : Nat → Int32} {x_was : Nat → Int32} {x_region : Nat → Int32} {x_parts : Nat → Int64} {x_next : Nat → Int64} {x_ways : Nat → Int32} {x_more : Nat → Int32} {x_whole : Int64} {x_isSaved : Int32} {x_changes : Int32} {x_isWithin : Int32} {x_code : Int32} {x_input : Nat → Int32} {x_length : Int32} {x_fault : Int32} {x_failed : Int32} {x_signs : Nat → Int32} {x_signMany : Int32} {x_at : Int32} {x_told : Nat → Int32} {x_toldMany : Int32} {res : Int64 × (Nat → Int64) × (Nat → Int64) × (Nat → Int32) × (Nat → Int32) × Int64 × Int32} {H : Heap} {locs : List Loc} {ls : Array Slot} {a1 : Int32} {a2 : Int32}
    (E : En cX13_chanceNumerator RX13 wsX13_chanceNumerator 3 (some .long) p s m args meth c) (hK : KK g s) (hA : ∀ q, s.heap.size ≤ q → A q) (h : f_X13_chanceNumerator x_g x_parts x_next x_ways x_more x_whole x_code a1 a2 = some res) (hW : Wo g A s H locs (w_X13 g h0 h1 h2 h3 h4 h5 h6 h7 h8 h9 h10 h11 h12 h13 x_g x_kept x_saved x_before x_was x_region x_parts x_next x_ways x_more x_whole x_isSaved x_changes x_isWithin x_code x_input x_length x_fault x_failed x_signs x_signMany x_at x_told x_toldMany)) (hl : lv_has ls 3 [(0, .ref h0), (1, .int a1), (2, .int a2)]) : G_X13_chanceNumerator p l e s m args below meth c g A h0 h1 h2 h3 h4 h5 h6 h7 h8 h9 h10 h11 h12 h13 x_g x_kept x_saved x_before x_was x_region x_isSaved x_changes x_isWithin x_input x_length x_fault x_failed x_signs x_signMany x_at x_told x_toldMany res H locs 0 ls [] := by
  have hts := E.2.2.2.1
  unfold f_X13_chanceNumerator at h
  refine lv_aload_n E.1 E.2.1 dX13_chanceNumerator_0 rfl (lv_at hl 0 rfl) ?_
  refine lv_iload_n E.1 E.2.1 dX13_chanceNumerator_1 rfl (lv_at hl 1 rfl) ?_
  refine lv_iload_n E.1 E.2.1 dX13_chanceNumerator_2 rfl (lv_at hl 2 rfl) ?_
  obtain ⟨r3, hc, h⟩ := bx h
  refine goJ (world' := (w_X13 g h0 h1 h2 h3 h4 h5 h6 h7 h8 h9 h10 h11 h12 h13 x_g x_kept x_saved x_before x_was x_region r3.2.1 r3.2.2.1 r3.2.2.2.1 r3.2.2.2.2.1 r3.2.2.2.2.2.1 x_isSaved x_changes x_isWithin r3.2.2.2.2.2.2 x_input x_length x_fault x_failed x_signs x_signMany x_at x_told x_toldMany)) hW hA (is := [0, 1, 2, 3, 4, 5, 6, 7, 8, 9, 10, 11, 12, 13]) rfl (goV (rest := []) E hK hW [0, 1, 2, 3, 4, 5, 6, 7, 8, 9, 10, 11, 12, 13] rfl rfl (c_X13_upper l g h0 h1 h2 h3 h4 h5 h6 h7 h8 h9 h10 h11 h12 h13 x_g x_kept x_saved x_before x_was x_region x_parts x_next x_ways x_more x_whole x_isSaved x_changes x_isWithin x_code x_input x_length x_fault x_failed x_signs x_signMany x_at x_told x_toldMany a1 a2 (hf := hc) H.size) (cwV 2 hts gX13_chanceNumerator_X13_upper rfl rfl rfl (by decide +kernel) ⟨Nat.le_of_ble_eq_true rfl, Nat.le_of_ble_eq_true rfl⟩) 0 rfl rfl rfl hl.1 rfl rfl (Nat.le_of_ble_eq_true rfl) dX13_chanceNumerator_3 ⟨Nat.zero_le _, Nat.zero_le _⟩) rfl rfl (fun H locs hW => ?_)
  obtain rfl := Option.some.inj h
  exact endJ E hW dX13_chanceNumerator_6
theorem c_X13_chanceNumerator (l : Launch) (g : GE) (h0 h1 h2 h3 h4 h5 h6 h7 h8 h9 h10 h11 h12 h13 : Nat) (x_g : Nat → Int32) (x_kept : Nat → Int32) (x_saved : Nat → Int32) (x_before : Nat → Int32) (x_was : Nat → Int32) (x_region : Nat → Int32) (x_parts : Nat → Int64) (x_next : Nat → Int64) (x_ways : Nat → Int32) (x_more : Nat → Int32) (x_whole : Int64) (x_isSaved : Int32) (x_changes : Int32) (x_isWithin : Int32) (x_code : Int32) (x_input : Nat → Int32) (x_length : Int32) (x_fault : Int32) (x_failed : Int32) (x_signs : Nat → Int32) (x_signMany : Int32) (x_at : Int32) (x_told : Nat → Int32) (x_toldMany : Int32) (a1 : Int32) (a2 : Int32) {res : Int64 × (Nat → Int64) × (Nat → Int64) × (Nat → Int32) × (Nat → Int32) × Int64 × Int32} (hf : f_X13_chanceNumerator x_g x_parts x_next x_ways x_more x_whole x_code a1 a2 = some res) : CJ l yX13_chanceNumerator wsX13_chanceNumerator rm_X13_chanceNumerator g [.ref h0, .int a1, .int a2] (w_X13 g h0 h1 h2 h3 h4 h5 h6 h7 h8 h9 h10 h11 h12 h13 x_g x_kept x_saved x_before x_was x_region x_parts x_next x_ways x_more x_whole x_isSaved x_changes x_isWithin x_code x_input x_length x_fault x_failed x_signs x_signMany x_at x_told x_toldMany) (w_X13 g h0 h1 h2 h3 h4 h5 h6 h7 h8 h9 h10 h11 h12 h13 x_g x_kept x_saved x_before x_was x_region res.2.1 res.2.2.1 res.2.2.2.1 res.2.2.2.2.1 res.2.2.2.2.2.1 x_isSaved x_changes x_isWithin res.2.2.2.2.2.2 x_input x_length x_fault x_failed x_signs x_signMany x_at x_told x_toldMany) res.1 :=
  mkJ (cc := cX13_chanceNumerator) (maxL := 3) (by decide) rfl (Nat.le_of_ble_eq_true rfl) (fun p e s m args below meth c A H locs ls E hK hA hW hl => k_X13_chanceNumerator_0 E hK hA hf hW hl)

/-! PaperStormModel.chanceDenominator(II)J X13_chanceDenominator -/
abbrev rm_X13_chanceDenominator : Room := { frames := 4, cells := 0, slots := 0, locals := 91 }
noncomputable def f_X13_chanceDenominator (x_g : Nat → Int32) (x_parts : Nat → Int64) (x_next : Nat → Int64) (x_ways : Nat → Int32) (x_more : Nat → Int32) (x_whole : Int64) (x_code : Int32) (a1 : Int32) (a2 : Int32) : Option (Int64 × (Nat → Int64) × (Nat → Int64) × (Nat → Int32) × (Nat → Int32) × Int64 × Int32) :=
  (f_X13_lower x_g x_parts x_next x_ways x_more x_whole x_code a1 a2).bind fun r3 => some (r3.1, r3.2.1, r3.2.2.1, r3.2.2.2.1, r3.2.2.2.2.1, r3.2.2.2.2.2.1, r3.2.2.2.2.2.2)
abbrev G_X13_chanceDenominator (p : Program) (l : Launch) (e : Env) (s : State) (m : MethodId) (args : Array Value) (below : List Frame) (meth : Method) (c : Code) (g : GE) (A : Nat → Prop) (h0 h1 h2 h3 h4 h5 h6 h7 h8 h9 h10 h11 h12 h13 : Nat) (x_g : Nat → Int32) (x_kept : Nat → Int32) (x_saved : Nat → Int32) (x_before : Nat → Int32) (x_was : Nat → Int32) (x_region : Nat → Int32) (x_isSaved : Int32) (x_changes : Int32) (x_isWithin : Int32) (x_input : Nat → Int32) (x_length : Int32) (x_fault : Int32) (x_failed : Int32) (x_signs : Nat → Int32) (x_signMany : Int32) (x_at : Int32) (x_told : Nat → Int32) (x_toldMany : Int32) (res : Int64 × (Nat → Int64) × (Nat → Int64) × (Nat → Int32) × (Nat → Int32) × Int64 × Int32) (H : Heap) (locs : List Loc) (pc : Nat) (ls : Array Slot) (st : List Value) : Prop := W p l e (headSpec wsX13_chanceDenominator rm_X13_chanceDenominator).room s m args below meth c H locs 0 0 (MQ below (PoJ g A (w_X13 g h0 h1 h2 h3 h4 h5 h6 h7 h8 h9 h10 h11 h12 h13 x_g x_kept x_saved x_before x_was x_region res.2.1 res.2.2.1 res.2.2.2.1 res.2.2.2.2.1 res.2.2.2.2.2.1 x_isSaved x_changes x_isWithin res.2.2.2.2.2.2 x_input x_length x_fault x_failed x_signs x_signMany x_at x_told x_toldMany) res.1) args s 0 0 A) (F0 m pc ls st)
set_option maxHeartbeats 4000000 in
set_option maxRecDepth 100000 in
theorem k_X13_chanceDenominator_0 {p : Program} {l : Launch} {e : Env} {s : State} {m : MethodId} {args : Array Value} {below : List Frame} {meth : Method} {c : Code} {g : GE} {A : Nat → Prop} {h0 h1 h2 h3 h4 h5 h6 h7 h8 h9 h10 h11 h12 h13 : Nat} {x_g : Nat → Int32} {x_kept : Nat → Int32} {x_saved : Nat → Int32} {x_before : Nat → Int32} {x_was : Nat → Int32} {x_region : Nat → Int32} {x_parts : Nat → Int64} {x_next : Nat → Int64} {x_ways : Nat → Int32} {x_more : Nat → Int32} {x_whole : Int64} {x_isSaved : Int32} {x_changes : Int32} {x_isWithin : Int32} {x_code : Int32} {x_input : Nat → Int32} {x_length : Int32} {x_fault : Int32} {x_failed : Int32} {x_signs : Nat → Int32} {x_signMany : Int32} {x_at : Int32} {x_told : Nat → Int32} {x_toldMany : Int32} {res : Int64 × (Nat → Int64) × (Nat → Int64) × (Nat → Int32) × (Nat → Int32) × Int64 × Int32} {H : Heap} {locs : List Loc} {ls : Array Slot} {a1 : Int32} {a2 : Int32}
    (E : En cX13_chanceDenominator RX13 wsX13_chanceDenominator 3 (some .long) p s m args meth c) (hK : KK g s) (hA : ∀ q, s.heap.size ≤ q → A q) (h : f_X13_chanceDenominator x_g x_parts x_next x_ways x_more x_whole x_code a1 a2 = some res) (hW : Wo g A s H locs (w_X13 g h0 h1 h2 h3 h4 h5 h6 h7 h8 h9 h10 h11 h12 h13 x_g x_kept x_saved x_before x_was x_region x_parts x_next x_ways x_more x_whole x_isSaved x_changes x_isWithin x_code x_input x_length x_fault x_failed x_signs x_signMany x_at x_told x_toldMany)) (hl : lv_has ls 3 [(0, .ref h0), (1, .int a1), (2, .int a2)]) : G_X13_chanceDenominator p l e s m args below meth c g A h0 h1 h2 h3 h4 h5 h6 h7 h8 h9 h10 h11 h12 h13 x_g x_kept x_saved x_before x_was x_region x_isSaved x_changes x_isWithin x_input x_length x_fault x_failed x_signs x_signMany x_at x_told x_toldMany res H locs 0 ls [] := by
  have hts := E.2.2.2.1
  unfold f_X13_chanceDenominator at h
  refine lv_aload_n E.1 E.2.1 dX13_chanceDenominator_0 rfl (lv_at hl 0 rfl) ?_
  refine lv_iload_n E.1 E.2.1 dX13_chanceDenominator_1 rfl (lv_at hl 1 rfl) ?_
  refine lv_iload_n E.1 E.2.1 dX13_chanceDenominator_2 rfl (lv_at hl 2 rfl) ?_
  obtain ⟨r3, hc, h⟩ := bx h
  refine goJ (world' := (w_X13 g h0 h1 h2 h3 h4 h5 h6 h7 h8 h9 h10 h11 h12 h13 x_g x_kept x_saved x_before x_was x_region r3.2.1 r3.2.2.1 r3.2.2.2.1 r3.2.2.2.2.1 r3.2.2.2.2.2.1 x_isSaved x_changes x_isWithin r3.2.2.2.2.2.2 x_input x_length x_fault x_failed x_signs x_signMany x_at x_told x_toldMany)) hW hA (is := [0, 1, 2, 3, 4, 5, 6, 7, 8, 9, 10, 11, 12, 13]) rfl (goV (rest := []) E hK hW [0, 1, 2, 3, 4, 5, 6, 7, 8, 9, 10, 11, 12, 13] rfl rfl (c_X13_lower l g h0 h1 h2 h3 h4 h5 h6 h7 h8 h9 h10 h11 h12 h13 x_g x_kept x_saved x_before x_was x_region x_parts x_next x_ways x_more x_whole x_isSaved x_changes x_isWithin x_code x_input x_length x_fault x_failed x_signs x_signMany x_at x_told x_toldMany a1 a2 (hf := hc) H.size) (cwV 2 hts gX13_chanceDenominator_X13_lower rfl rfl rfl (by decide +kernel) ⟨Nat.le_of_ble_eq_true rfl, Nat.le_of_ble_eq_true rfl⟩) 0 rfl rfl rfl hl.1 rfl rfl (Nat.le_of_ble_eq_true rfl) dX13_chanceDenominator_3 ⟨Nat.zero_le _, Nat.zero_le _⟩) rfl rfl (fun H locs hW => ?_)
  obtain rfl := Option.some.inj h
  exact endJ E hW dX13_chanceDenominator_6
theorem c_X13_chanceDenominator (l : Launch) (g : GE) (h0 h1 h2 h3 h4 h5 h6 h7 h8 h9 h10 h11 h12 h13 : Nat) (x_g : Nat → Int32) (x_kept : Nat → Int32) (x_saved : Nat → Int32) (x_before : Nat → Int32) (x_was : Nat → Int32) (x_region : Nat → Int32) (x_parts : Nat → Int64) (x_next : Nat → Int64) (x_ways : Nat → Int32) (x_more : Nat → Int32) (x_whole : Int64) (x_isSaved : Int32) (x_changes : Int32) (x_isWithin : Int32) (x_code : Int32) (x_input : Nat → Int32) (x_length : Int32) (x_fault : Int32) (x_failed : Int32) (x_signs : Nat → Int32) (x_signMany : Int32) (x_at : Int32) (x_told : Nat → Int32) (x_toldMany : Int32) (a1 : Int32) (a2 : Int32) {res : Int64 × (Nat → Int64) × (Nat → Int64) × (Nat → Int32) × (Nat → Int32) × Int64 × Int32} (hf : f_X13_chanceDenominator x_g x_parts x_next x_ways x_more x_whole x_code a1 a2 = some res) : CJ l yX13_chanceDenominator wsX13_chanceDenominator rm_X13_chanceDenominator g [.ref h0, .int a1, .int a2] (w_X13 g h0 h1 h2 h3 h4 h5 h6 h7 h8 h9 h10 h11 h12 h13 x_g x_kept x_saved x_before x_was x_region x_parts x_next x_ways x_more x_whole x_isSaved x_changes x_isWithin x_code x_input x_length x_fault x_failed x_signs x_signMany x_at x_told x_toldMany) (w_X13 g h0 h1 h2 h3 h4 h5 h6 h7 h8 h9 h10 h11 h12 h13 x_g x_kept x_saved x_before x_was x_region res.2.1 res.2.2.1 res.2.2.2.1 res.2.2.2.2.1 res.2.2.2.2.2.1 x_isSaved x_changes x_isWithin res.2.2.2.2.2.2 x_input x_length x_fault x_failed x_signs x_signMany x_at x_told x_toldMany) res.1 :=
  mkJ (cc := cX13_chanceDenominator) (maxL := 3) (by decide) rfl (Nat.le_of_ble_eq_true rfl) (fun p e s m args below meth c A H locs ls E hK hA hW hl => k_X13_chanceDenominator_0 E hK hA hf hW hl)

/-! PaperStormModel.numeratorByBranches(II)J X13_numeratorByBranches -/
abbrev rm_X13_numeratorByBranches : Room := { frames := 4, cells := 0, slots := 0, locals := 91 }
noncomputable def f_X13_numeratorByBranches (x_g : Nat → Int32) (x_parts : Nat → Int64) (x_next : Nat → Int64) (x_ways : Nat → Int32) (x_more : Nat → Int32) (x_whole : Int64) (x_code : Int32) (a1 : Int32) (a2 : Int32) : Option (Int64 × (Nat → Int64) × (Nat → Int64) × (Nat → Int32) × (Nat → Int32) × Int64 × Int32) :=
  (f_X13_upper x_g x_parts x_next x_ways x_more x_whole x_code a1 a2).bind fun r3 => some (r3.1, r3.2.1, r3.2.2.1, r3.2.2.2.1, r3.2.2.2.2.1, r3.2.2.2.2.2.1, r3.2.2.2.2.2.2)
abbrev G_X13_numeratorByBranches (p : Program) (l : Launch) (e : Env) (s : State) (m : MethodId) (args : Array Value) (below : List Frame) (meth : Method) (c : Code) (g : GE) (A : Nat → Prop) (h0 h1 h2 h3 h4 h5 h6 h7 h8 h9 h10 h11 h12 h13 : Nat) (x_g : Nat → Int32) (x_kept : Nat → Int32) (x_saved : Nat → Int32) (x_before : Nat → Int32) (x_was : Nat → Int32) (x_region : Nat → Int32) (x_isSaved : Int32) (x_changes : Int32) (x_isWithin : Int32) (x_input : Nat → Int32) (x_length : Int32) (x_fault : Int32) (x_failed : Int32) (x_signs : Nat → Int32) (x_signMany : Int32) (x_at : Int32) (x_told : Nat → Int32) (x_toldMany : Int32) (res : Int64 × (Nat → Int64) × (Nat → Int64) × (Nat → Int32) × (Nat → Int32) × Int64 × Int32) (H : Heap) (locs : List Loc) (pc : Nat) (ls : Array Slot) (st : List Value) : Prop := W p l e (headSpec wsX13_numeratorByBranches rm_X13_numeratorByBranches).room s m args below meth c H locs 0 0 (MQ below (PoJ g A (w_X13 g h0 h1 h2 h3 h4 h5 h6 h7 h8 h9 h10 h11 h12 h13 x_g x_kept x_saved x_before x_was x_region res.2.1 res.2.2.1 res.2.2.2.1 res.2.2.2.2.1 res.2.2.2.2.2.1 x_isSaved x_changes x_isWithin res.2.2.2.2.2.2 x_input x_length x_fault x_failed x_signs x_signMany x_at x_told x_toldMany) res.1) args s 0 0 A) (F0 m pc ls st)
set_option maxHeartbeats 4000000 in
set_option maxRecDepth 100000 in
theorem k_X13_numeratorByBranches_0 {p : Program} {l : Launch} {e : Env} {s : State} {m : MethodId} {args : Array Value} {below : List Frame} {meth : Method} {c : Code} {g : GE} {A : Nat → Prop} {h0 h1 h2 h3 h4 h5 h6 h7 h8 h9 h10 h11 h12 h13 : Nat} {x_g : Nat → Int32} {x_kept : Nat → Int32} {x_saved : Nat → Int32} {x_before : Nat → Int32} {x_was : Nat → Int32} {x_region : Nat → Int32} {x_parts : Nat → Int64} {x_next : Nat → Int64} {x_ways : Nat → Int32} {x_more : Nat → Int32} {x_whole : Int64} {x_isSaved : Int32} {x_changes : Int32} {x_isWithin : Int32} {x_code : Int32} {x_input : Nat → Int32} {x_length : Int32} {x_fault : Int32} {x_failed : Int32} {x_signs : Nat → Int32} {x_signMany : Int32} {x_at : Int32} {x_told : Nat → Int32} {x_toldMany : Int32} {res : Int64 × (Nat → Int64) × (Nat → Int64) × (Nat → Int32) × (Nat → Int32) × Int64 × Int32} {H : Heap} {locs : List Loc} {ls : Array Slot} {a1 : Int32} {a2 : Int32}
    (E : En cX13_numeratorByBranches RX13 wsX13_numeratorByBranches 3 (some .long) p s m args meth c) (hK : KK g s) (hA : ∀ q, s.heap.size ≤ q → A q) (h : f_X13_numeratorByBranches x_g x_parts x_next x_ways x_more x_whole x_code a1 a2 = some res) (hW : Wo g A s H locs (w_X13 g h0 h1 h2 h3 h4 h5 h6 h7 h8 h9 h10 h11 h12 h13 x_g x_kept x_saved x_before x_was x_region x_parts x_next x_ways x_more x_whole x_isSaved x_changes x_isWithin x_code x_input x_length x_fault x_failed x_signs x_signMany x_at x_told x_toldMany)) (hl : lv_has ls 3 [(0, .ref h0), (1, .int a1), (2, .int a2)]) : G_X13_numeratorByBranches p l e s m args below meth c g A h0 h1 h2 h3 h4 h5 h6 h7 h8 h9 h10 h11 h12 h13 x_g x_kept x_saved x_before x_was x_region x_isSaved x_changes x_isWithin x_input x_length x_fault x_failed x_signs x_signMany x_at x_told x_toldMany res H locs 0 ls [] := by
  have hts := E.2.2.2.1
  unfold f_X13_numeratorByBranches at h
  refine lv_aload_n E.1 E.2.1 dX13_numeratorByBranches_0 rfl (lv_at hl 0 rfl) ?_
  refine lv_iload_n E.1 E.2.1 dX13_numeratorByBranches_1 rfl (lv_at hl 1 rfl) ?_
  refine lv_iload_n E.1 E.2.1 dX13_numeratorByBranches_2 rfl (lv_at hl 2 rfl) ?_
  obtain ⟨r3, hc, h⟩ := bx h
  refine goJ (world' := (w_X13 g h0 h1 h2 h3 h4 h5 h6 h7 h8 h9 h10 h11 h12 h13 x_g x_kept x_saved x_before x_was x_region r3.2.1 r3.2.2.1 r3.2.2.2.1 r3.2.2.2.2.1 r3.2.2.2.2.2.1 x_isSaved x_changes x_isWithin r3.2.2.2.2.2.2 x_input x_length x_fault x_failed x_signs x_signMany x_at x_told x_toldMany)) hW hA (is := [0, 1, 2, 3, 4, 5, 6, 7, 8, 9, 10, 11, 12, 13]) rfl (goV (rest := []) E hK hW [0, 1, 2, 3, 4, 5, 6, 7, 8, 9, 10, 11, 12, 13] rfl rfl (c_X13_upper l g h0 h1 h2 h3 h4 h5 h6 h7 h8 h9 h10 h11 h12 h13 x_g x_kept x_saved x_before x_was x_region x_parts x_next x_ways x_more x_whole x_isSaved x_changes x_isWithin x_code x_input x_length x_fault x_failed x_signs x_signMany x_at x_told x_toldMany a1 a2 (hf := hc) H.size) (cwV 2 hts gX13_numeratorByBranches_X13_upper rfl rfl rfl (by decide +kernel) ⟨Nat.le_of_ble_eq_true rfl, Nat.le_of_ble_eq_true rfl⟩) 0 rfl rfl rfl hl.1 rfl rfl (Nat.le_of_ble_eq_true rfl) dX13_numeratorByBranches_3 ⟨Nat.zero_le _, Nat.zero_le _⟩) rfl rfl (fun H locs hW => ?_)
  obtain rfl := Option.some.inj h
  exact endJ E hW dX13_numeratorByBranches_6
theorem c_X13_numeratorByBranches (l : Launch) (g : GE) (h0 h1 h2 h3 h4 h5 h6 h7 h8 h9 h10 h11 h12 h13 : Nat) (x_g : Nat → Int32) (x_kept : Nat → Int32) (x_saved : Nat → Int32) (x_before : Nat → Int32) (x_was : Nat → Int32) (x_region : Nat → Int32) (x_parts : Nat → Int64) (x_next : Nat → Int64) (x_ways : Nat → Int32) (x_more : Nat → Int32) (x_whole : Int64) (x_isSaved : Int32) (x_changes : Int32) (x_isWithin : Int32) (x_code : Int32) (x_input : Nat → Int32) (x_length : Int32) (x_fault : Int32) (x_failed : Int32) (x_signs : Nat → Int32) (x_signMany : Int32) (x_at : Int32) (x_told : Nat → Int32) (x_toldMany : Int32) (a1 : Int32) (a2 : Int32) {res : Int64 × (Nat → Int64) × (Nat → Int64) × (Nat → Int32) × (Nat → Int32) × Int64 × Int32} (hf : f_X13_numeratorByBranches x_g x_parts x_next x_ways x_more x_whole x_code a1 a2 = some res) : CJ l yX13_numeratorByBranches wsX13_numeratorByBranches rm_X13_numeratorByBranches g [.ref h0, .int a1, .int a2] (w_X13 g h0 h1 h2 h3 h4 h5 h6 h7 h8 h9 h10 h11 h12 h13 x_g x_kept x_saved x_before x_was x_region x_parts x_next x_ways x_more x_whole x_isSaved x_changes x_isWithin x_code x_input x_length x_fault x_failed x_signs x_signMany x_at x_told x_toldMany) (w_X13 g h0 h1 h2 h3 h4 h5 h6 h7 h8 h9 h10 h11 h12 h13 x_g x_kept x_saved x_before x_was x_region res.2.1 res.2.2.1 res.2.2.2.1 res.2.2.2.2.1 res.2.2.2.2.2.1 x_isSaved x_changes x_isWithin res.2.2.2.2.2.2 x_input x_length x_fault x_failed x_signs x_signMany x_at x_told x_toldMany) res.1 :=
  mkJ (cc := cX13_numeratorByBranches) (maxL := 3) (by decide) rfl (Nat.le_of_ble_eq_true rfl) (fun p e s m args below meth c A H locs ls E hK hA hW hl => k_X13_numeratorByBranches_0 E hK hA hf hW hl)

/-! PaperStormModel.denominatorByBranches(II)J X13_denominatorByBranches -/
abbrev rm_X13_denominatorByBranches : Room := { frames := 4, cells := 0, slots := 0, locals := 91 }
noncomputable def f_X13_denominatorByBranches (x_g : Nat → Int32) (x_parts : Nat → Int64) (x_next : Nat → Int64) (x_ways : Nat → Int32) (x_more : Nat → Int32) (x_whole : Int64) (x_code : Int32) (a1 : Int32) (a2 : Int32) : Option (Int64 × (Nat → Int64) × (Nat → Int64) × (Nat → Int32) × (Nat → Int32) × Int64 × Int32) :=
  (f_X13_lower x_g x_parts x_next x_ways x_more x_whole x_code a1 a2).bind fun r3 => some (r3.1, r3.2.1, r3.2.2.1, r3.2.2.2.1, r3.2.2.2.2.1, r3.2.2.2.2.2.1, r3.2.2.2.2.2.2)
abbrev G_X13_denominatorByBranches (p : Program) (l : Launch) (e : Env) (s : State) (m : MethodId) (args : Array Value) (below : List Frame) (meth : Method) (c : Code) (g : GE) (A : Nat → Prop) (h0 h1 h2 h3 h4 h5 h6 h7 h8 h9 h10 h11 h12 h13 : Nat) (x_g : Nat → Int32) (x_kept : Nat → Int32) (x_saved : Nat → Int32) (x_before : Nat → Int32) (x_was : Nat → Int32) (x_region : Nat → Int32) (x_isSaved : Int32) (x_changes : Int32) (x_isWithin : Int32) (x_input : Nat → Int32) (x_length : Int32) (x_fault : Int32) (x_failed : Int32) (x_signs : Nat → Int32) (x_signMany : Int32) (x_at : Int32) (x_told : Nat → Int32) (x_toldMany : Int32) (res : Int64 × (Nat → Int64) × (Nat → Int64) × (Nat → Int32) × (Nat → Int32) × Int64 × Int32) (H : Heap) (locs : List Loc) (pc : Nat) (ls : Array Slot) (st : List Value) : Prop := W p l e (headSpec wsX13_denominatorByBranches rm_X13_denominatorByBranches).room s m args below meth c H locs 0 0 (MQ below (PoJ g A (w_X13 g h0 h1 h2 h3 h4 h5 h6 h7 h8 h9 h10 h11 h12 h13 x_g x_kept x_saved x_before x_was x_region res.2.1 res.2.2.1 res.2.2.2.1 res.2.2.2.2.1 res.2.2.2.2.2.1 x_isSaved x_changes x_isWithin res.2.2.2.2.2.2 x_input x_length x_fault x_failed x_signs x_signMany x_at x_told x_toldMany) res.1) args s 0 0 A) (F0 m pc ls st)
set_option maxHeartbeats 4000000 in
set_option maxRecDepth 100000 in
theorem k_X13_denominatorByBranches_0 {p : Program} {l : Launch} {e : Env} {s : State} {m : MethodId} {args : Array Value} {below : List Frame} {meth : Method} {c : Code} {g : GE} {A : Nat → Prop} {h0 h1 h2 h3 h4 h5 h6 h7 h8 h9 h10 h11 h12 h13 : Nat} {x_g : Nat → Int32} {x_kept : Nat → Int32} {x_saved : Nat → Int32} {x_before : Nat → Int32} {x_was : Nat → Int32} {x_region : Nat → Int32} {x_parts : Nat → Int64} {x_next : Nat → Int64} {x_ways : Nat → Int32} {x_more : Nat → Int32} {x_whole : Int64} {x_isSaved : Int32} {x_changes : Int32} {x_isWithin : Int32} {x_code : Int32} {x_input : Nat → Int32} {x_length : Int32} {x_fault : Int32} {x_failed : Int32} {x_signs : Nat → Int32} {x_signMany : Int32} {x_at : Int32} {x_told : Nat → Int32} {x_toldMany : Int32} {res : Int64 × (Nat → Int64) × (Nat → Int64) × (Nat → Int32) × (Nat → Int32) × Int64 × Int32} {H : Heap} {locs : List Loc} {ls : Array Slot} {a1 : Int32} {a2 : Int32}
    (E : En cX13_denominatorByBranches RX13 wsX13_denominatorByBranches 3 (some .long) p s m args meth c) (hK : KK g s) (hA : ∀ q, s.heap.size ≤ q → A q) (h : f_X13_denominatorByBranches x_g x_parts x_next x_ways x_more x_whole x_code a1 a2 = some res) (hW : Wo g A s H locs (w_X13 g h0 h1 h2 h3 h4 h5 h6 h7 h8 h9 h10 h11 h12 h13 x_g x_kept x_saved x_before x_was x_region x_parts x_next x_ways x_more x_whole x_isSaved x_changes x_isWithin x_code x_input x_length x_fault x_failed x_signs x_signMany x_at x_told x_toldMany)) (hl : lv_has ls 3 [(0, .ref h0), (1, .int a1), (2, .int a2)]) : G_X13_denominatorByBranches p l e s m args below meth c g A h0 h1 h2 h3 h4 h5 h6 h7 h8 h9 h10 h11 h12 h13 x_g x_kept x_saved x_before x_was x_region x_isSaved x_changes x_isWithin x_input x_length x_fault x_failed x_signs x_signMany x_at x_told x_toldMany res H locs 0 ls [] := by
  have hts := E.2.2.2.1
  unfold f_X13_denominatorByBranches at h
  refine lv_aload_n E.1 E.2.1 dX13_denominatorByBranches_0 rfl (lv_at hl 0 rfl) ?_
  refine lv_iload_n E.1 E.2.1 dX13_denominatorByBranches_1 rfl (lv_at hl 1 rfl) ?_
  refine lv_iload_n E.1 E.2.1 dX13_denominatorByBranches_2 rfl (lv_at hl 2 rfl) ?_
  obtain ⟨r3, hc, h⟩ := bx h
  refine goJ (world' := (w_X13 g h0 h1 h2 h3 h4 h5 h6 h7 h8 h9 h10 h11 h12 h13 x_g x_kept x_saved x_before x_was x_region r3.2.1 r3.2.2.1 r3.2.2.2.1 r3.2.2.2.2.1 r3.2.2.2.2.2.1 x_isSaved x_changes x_isWithin r3.2.2.2.2.2.2 x_input x_length x_fault x_failed x_signs x_signMany x_at x_told x_toldMany)) hW hA (is := [0, 1, 2, 3, 4, 5, 6, 7, 8, 9, 10, 11, 12, 13]) rfl (goV (rest := []) E hK hW [0, 1, 2, 3, 4, 5, 6, 7, 8, 9, 10, 11, 12, 13] rfl rfl (c_X13_lower l g h0 h1 h2 h3 h4 h5 h6 h7 h8 h9 h10 h11 h12 h13 x_g x_kept x_saved x_before x_was x_region x_parts x_next x_ways x_more x_whole x_isSaved x_changes x_isWithin x_code x_input x_length x_fault x_failed x_signs x_signMany x_at x_told x_toldMany a1 a2 (hf := hc) H.size) (cwV 2 hts gX13_denominatorByBranches_X13_lower rfl rfl rfl (by decide +kernel) ⟨Nat.le_of_ble_eq_true rfl, Nat.le_of_ble_eq_true rfl⟩) 0 rfl rfl rfl hl.1 rfl rfl (Nat.le_of_ble_eq_true rfl) dX13_denominatorByBranches_3 ⟨Nat.zero_le _, Nat.zero_le _⟩) rfl rfl (fun H locs hW => ?_)
  obtain rfl := Option.some.inj h
  exact endJ E hW dX13_denominatorByBranches_6
theorem c_X13_denominatorByBranches (l : Launch) (g : GE) (h0 h1 h2 h3 h4 h5 h6 h7 h8 h9 h10 h11 h12 h13 : Nat) (x_g : Nat → Int32) (x_kept : Nat → Int32) (x_saved : Nat → Int32) (x_before : Nat → Int32) (x_was : Nat → Int32) (x_region : Nat → Int32) (x_parts : Nat → Int64) (x_next : Nat → Int64) (x_ways : Nat → Int32) (x_more : Nat → Int32) (x_whole : Int64) (x_isSaved : Int32) (x_changes : Int32) (x_isWithin : Int32) (x_code : Int32) (x_input : Nat → Int32) (x_length : Int32) (x_fault : Int32) (x_failed : Int32) (x_signs : Nat → Int32) (x_signMany : Int32) (x_at : Int32) (x_told : Nat → Int32) (x_toldMany : Int32) (a1 : Int32) (a2 : Int32) {res : Int64 × (Nat → Int64) × (Nat → Int64) × (Nat → Int32) × (Nat → Int32) × Int64 × Int32} (hf : f_X13_denominatorByBranches x_g x_parts x_next x_ways x_more x_whole x_code a1 a2 = some res) : CJ l yX13_denominatorByBranches wsX13_denominatorByBranches rm_X13_denominatorByBranches g [.ref h0, .int a1, .int a2] (w_X13 g h0 h1 h2 h3 h4 h5 h6 h7 h8 h9 h10 h11 h12 h13 x_g x_kept x_saved x_before x_was x_region x_parts x_next x_ways x_more x_whole x_isSaved x_changes x_isWithin x_code x_input x_length x_fault x_failed x_signs x_signMany x_at x_told x_toldMany) (w_X13 g h0 h1 h2 h3 h4 h5 h6 h7 h8 h9 h10 h11 h12 h13 x_g x_kept x_saved x_before x_was x_region res.2.1 res.2.2.1 res.2.2.2.1 res.2.2.2.2.1 res.2.2.2.2.2.1 x_isSaved x_changes x_isWithin res.2.2.2.2.2.2 x_input x_length x_fault x_failed x_signs x_signMany x_at x_told x_toldMany) res.1 :=
  mkJ (cc := cX13_denominatorByBranches) (maxL := 3) (by decide) rfl (Nat.le_of_ble_eq_true rfl) (fun p e s m args below meth c A H locs ls E hK hA hW hl => k_X13_denominatorByBranches_0 E hK hA hf hW hl)

/-! PaperStormModel.sequenceCount(II)I X13_sequenceCount -/
abbrev rm_X13_sequenceCount : Room := { frames := 3, cells := 0, slots := 0, locals := 69 }
theorem in_X13_sequenceCount_X13 : ∀ w ∈ wsX130, w ∈ wsX13_sequenceCount := by decide +kernel
theorem lk_X13_sequenceCount_35 : Cond.fieldLink RX13 35 "PaperStormModel" "ways" "[I" ∈ wsX13_sequenceCount := by decide +kernel
noncomputable def f_X13_sequenceCount (x_g : Nat → Int32) (x_parts : Nat → Int64) (x_next : Nat → Int64) (x_ways : Nat → Int32) (x_more : Nat → Int32) (x_whole : Int64) (x_code : Int32) (a1 : Int32) (a2 : Int32) : Option (Int32 × (Nat → Int64) × (Nat → Int64) × (Nat → Int32) × (Nat → Int32) × Int64 × Int32) :=
  (f_X13_isUnasked x_code a1 a2).bind fun r3 => if r3.1 = 0 then (f_X13_goes x_g x_parts x_next x_ways x_more x_whole a1).bind fun r13 => if a2 < 0 ∨ 4 ≤ a2.toNatClampNeg then none else some ((r13.2.2.1 a2.toNatClampNeg), r13.1, r13.2.1, r13.2.2.1, r13.2.2.2.1, r13.2.2.2.2, r3.2) else some (0, x_parts, x_next, x_ways, x_more, x_whole, r3.2)
abbrev G_X13_sequenceCount (p : Program) (l : Launch) (e : Env) (s : State) (m : MethodId) (args : Array Value) (below : List Frame) (meth : Method) (c : Code) (g : GE) (A : Nat → Prop) (h0 h1 h2 h3 h4 h5 h6 h7 h8 h9 h10 h11 h12 h13 : Nat) (x_g : Nat → Int32) (x_kept : Nat → Int32) (x_saved : Nat → Int32) (x_before : Nat → Int32) (x_was : Nat → Int32) (x_region : Nat → Int32) (x_isSaved : Int32) (x_changes : Int32) (x_isWithin : Int32) (x_input : Nat → Int32) (x_length : Int32) (x_fault : Int32) (x_failed : Int32) (x_signs : Nat → Int32) (x_signMany : Int32) (x_at : Int32) (x_told : Nat → Int32) (x_toldMany : Int32) (res : Int32 × (Nat → Int64) × (Nat → Int64) × (Nat → Int32) × (Nat → Int32) × Int64 × Int32) (H : Heap) (locs : List Loc) (pc : Nat) (ls : Array Slot) (st : List Value) : Prop := W p l e (headSpec wsX13_sequenceCount rm_X13_sequenceCount).room s m args below meth c H locs 0 0 (MQ below (PoI g A (w_X13 g h0 h1 h2 h3 h4 h5 h6 h7 h8 h9 h10 h11 h12 h13 x_g x_kept x_saved x_before x_was x_region res.2.1 res.2.2.1 res.2.2.2.1 res.2.2.2.2.1 res.2.2.2.2.2.1 x_isSaved x_changes x_isWithin res.2.2.2.2.2.2 x_input x_length x_fault x_failed x_signs x_signMany x_at x_told x_toldMany) res.1) args s 0 0 A) (F0 m pc ls st)
set_option maxHeartbeats 4000000 in
set_option maxRecDepth 100000 in
theorem k_X13_sequenceCount_0 {p : Program} {l : Launch} {e : Env} {s : State} {m : MethodId} {args : Array Value} {below : List Frame} {meth : Method} {c : Code} {g : GE} {A : Nat → Prop} {h0 h1 h2 h3 h4 h5 h6 h7 h8 h9 h10 h11 h12 h13 : Nat} {x_g : Nat → Int32} {x_kept : Nat → Int32} {x_saved : Nat → Int32} {x_before : Nat → Int32} {x_was : Nat → Int32} {x_region : Nat → Int32} {x_parts : Nat → Int64} {x_next : Nat → Int64} {x_ways : Nat → Int32} {x_more : Nat → Int32} {x_whole : Int64} {x_isSaved : Int32} {x_changes : Int32} {x_isWithin : Int32} {x_code : Int32} {x_input : Nat → Int32} {x_length : Int32} {x_fault : Int32} {x_failed : Int32} {x_signs : Nat → Int32} {x_signMany : Int32} {x_at : Int32} {x_told : Nat → Int32} {x_toldMany : Int32} {res : Int32 × (Nat → Int64) × (Nat → Int64) × (Nat → Int32) × (Nat → Int32) × Int64 × Int32} {H : Heap} {locs : List Loc} {ls : Array Slot} {a1 : Int32} {a2 : Int32}
    (E : En cX13_sequenceCount RX13 wsX13_sequenceCount 3 (some .int) p s m args meth c) (hK : KK g s) (hA : ∀ q, s.heap.size ≤ q → A q) (h : f_X13_sequenceCount x_g x_parts x_next x_ways x_more x_whole x_code a1 a2 = some res) (hW : Wo g A s H locs (w_X13 g h0 h1 h2 h3 h4 h5 h6 h7 h8 h9 h10 h11 h12 h13 x_g x_kept x_saved x_before x_was x_region x_parts x_next x_ways x_more x_whole x_isSaved x_changes x_isWithin x_code x_input x_length x_fault x_failed x_signs x_signMany x_at x_told x_toldMany)) (hl : lv_has ls 3 [(0, .ref h0), (1, .int a1), (2, .int a2)]) : G_X13_sequenceCount p l e s m args below meth c g A h0 h1 h2 h3 h4 h5 h6 h7 h8 h9 h10 h11 h12 h13 x_g x_kept x_saved x_before x_was x_region x_isSaved x_changes x_isWithin x_input x_length x_fault x_failed x_signs x_signMany x_at x_told x_toldMany res H locs 0 ls [] := by
  have hts := E.2.2.2.1
  unfold f_X13_sequenceCount at h
  refine lv_aload_n E.1 E.2.1 dX13_sequenceCount_0 rfl (lv_at hl 0 rfl) ?_
  refine lv_iload_n E.1 E.2.1 dX13_sequenceCount_1 rfl (lv_at hl 1 rfl) ?_
  refine lv_iload_n E.1 E.2.1 dX13_sequenceCount_2 rfl (lv_at hl 2 rfl) ?_
  obtain ⟨r3, hc, h⟩ := bx h
  refine goI (world' := (w_X13 g h0 h1 h2 h3 h4 h5 h6 h7 h8 h9 h10 h11 h12 h13 x_g x_kept x_saved x_before x_was x_region x_parts x_next x_ways x_more x_whole x_isSaved x_changes x_isWithin r3.2 x_input x_length x_fault x_failed x_signs x_signMany x_at x_told x_toldMany)) hW hA (is := [0, 1, 2, 3, 4, 5, 6, 7, 8, 9, 10, 11, 12, 13]) rfl (goV (rest := []) E hK hW [0, 1, 2, 3, 4, 5, 6, 7, 8, 9, 10, 11, 12, 13] rfl rfl (c_X13_isUnasked l g h0 h1 h2 h3 h4 h5 h6 h7 h8 h9 h10 h11 h12 h13 x_g x_kept x_saved x_before x_was x_region x_parts x_next x_ways x_more x_whole x_isSaved x_changes x_isWithin x_code x_input x_length x_fault x_failed x_signs x_signMany x_at x_told x_toldMany a1 a2 (hf := hc) H.size) (cwV 2 hts gX13_sequenceCount_X13_isUnasked rfl rfl rfl (by decide +kernel) ⟨Nat.le_of_ble_eq_true rfl, Nat.le_of_ble_eq_true rfl⟩) 0 rfl rfl rfl hl.1 rfl rfl (Nat.le_of_ble_eq_true rfl) dX13_sequenceCount_3 ⟨Nat.zero_le _, Nat.zero_le _⟩) rfl rfl (fun H locs hW => ?_)
  refine lv_if_eq (tgt := 11) E.1 E.2.1 dX13_sequenceCount_6 (by decide) (fun c6 => ?_) (fun c6 => ?_)
  · have h := it c6 h
    refine lv_aload_n E.1 E.2.1 dX13_sequenceCount_11 rfl (lv_at hl 0 rfl) ?_
    refine lv_iload_n E.1 E.2.1 dX13_sequenceCount_12 rfl (lv_at hl 1 rfl) ?_
    obtain ⟨r13, hc, h⟩ := bx h
    refine goU (world' := (w_X13 g h0 h1 h2 h3 h4 h5 h6 h7 h8 h9 h10 h11 h12 h13 x_g x_kept x_saved x_before x_was x_region r13.1 r13.2.1 r13.2.2.1 r13.2.2.2.1 r13.2.2.2.2 x_isSaved x_changes x_isWithin r3.2 x_input x_length x_fault x_failed x_signs x_signMany x_at x_told x_toldMany)) hW hA (is := [0, 1, 2, 3, 4, 5, 6, 7, 8, 9, 10, 11, 12, 13]) rfl (goV (rest := []) E hK hW [0, 1, 2, 3, 4, 5, 6, 7, 8, 9, 10, 11, 12, 13] rfl rfl (c_X13_goes l g h0 h1 h2 h3 h4 h5 h6 h7 h8 h9 h10 h11 h12 h13 x_g x_kept x_saved x_before x_was x_region x_parts x_next x_ways x_more x_whole x_isSaved x_changes x_isWithin r3.2 x_input x_length x_fault x_failed x_signs x_signMany x_at x_told x_toldMany a1 (hf := hc) H.size) (cwV 1 hts gX13_sequenceCount_X13_goes rfl rfl rfl (by decide +kernel) ⟨Nat.le_of_ble_eq_true rfl, Nat.le_of_ble_eq_true rfl⟩) 0 rfl rfl rfl hl.1 rfl rfl (Nat.le_of_ble_eq_true rfl) dX13_sequenceCount_13 ⟨Nat.zero_le _, Nat.zero_le _⟩) rfl rfl (fun H locs hW => ?_)
    refine lv_aload_n E.1 E.2.1 dX13_sequenceCount_16 rfl (lv_at hl 0 rfl) ?_
    refine wGet (v := .ref h9) E hK in_X13_sequenceCount_X13 hW 8 lk_X13_sequenceCount_35 0 rfl rfl (by decide) rfl rfl dX13_sequenceCount_17 ?_
    refine lv_iload_n E.1 E.2.1 dX13_sequenceCount_20 rfl (lv_at hl 2 rfl) ?_
    obtain ⟨hi21, h⟩ := ox h
    refine wIald E hK hW 9 rfl hi21 dX13_sequenceCount_21 ?_
    obtain rfl := Option.some.inj h
    exact endI E rfl hW dX13_sequenceCount_22
  · have h := ie c6 h
    refine lv_iconst (v := 0) E.1 E.2.1 dX13_sequenceCount_9 (by decide) ?_
    obtain rfl := Option.some.inj h
    exact endI E rfl hW dX13_sequenceCount_10
theorem c_X13_sequenceCount (l : Launch) (g : GE) (h0 h1 h2 h3 h4 h5 h6 h7 h8 h9 h10 h11 h12 h13 : Nat) (x_g : Nat → Int32) (x_kept : Nat → Int32) (x_saved : Nat → Int32) (x_before : Nat → Int32) (x_was : Nat → Int32) (x_region : Nat → Int32) (x_parts : Nat → Int64) (x_next : Nat → Int64) (x_ways : Nat → Int32) (x_more : Nat → Int32) (x_whole : Int64) (x_isSaved : Int32) (x_changes : Int32) (x_isWithin : Int32) (x_code : Int32) (x_input : Nat → Int32) (x_length : Int32) (x_fault : Int32) (x_failed : Int32) (x_signs : Nat → Int32) (x_signMany : Int32) (x_at : Int32) (x_told : Nat → Int32) (x_toldMany : Int32) (a1 : Int32) (a2 : Int32) {res : Int32 × (Nat → Int64) × (Nat → Int64) × (Nat → Int32) × (Nat → Int32) × Int64 × Int32} (hf : f_X13_sequenceCount x_g x_parts x_next x_ways x_more x_whole x_code a1 a2 = some res) : CI l yX13_sequenceCount wsX13_sequenceCount rm_X13_sequenceCount g [.ref h0, .int a1, .int a2] (w_X13 g h0 h1 h2 h3 h4 h5 h6 h7 h8 h9 h10 h11 h12 h13 x_g x_kept x_saved x_before x_was x_region x_parts x_next x_ways x_more x_whole x_isSaved x_changes x_isWithin x_code x_input x_length x_fault x_failed x_signs x_signMany x_at x_told x_toldMany) (w_X13 g h0 h1 h2 h3 h4 h5 h6 h7 h8 h9 h10 h11 h12 h13 x_g x_kept x_saved x_before x_was x_region res.2.1 res.2.2.1 res.2.2.2.1 res.2.2.2.2.1 res.2.2.2.2.2.1 x_isSaved x_changes x_isWithin res.2.2.2.2.2.2 x_input x_length x_fault x_failed x_signs x_signMany x_at x_told x_toldMany) res.1 :=
  mkI (cc := cX13_sequenceCount) (maxL := 3) (by decide) rfl (Nat.le_of_ble_eq_true rfl) (fun p e s m args below meth c A H locs ls E hK hA hW hl => k_X13_sequenceCount_0 E hK hA hf hW hl)

/-! PaperStormModel.best(I)I X13_best -/
abbrev rm_X13_best : Room := { frames := 3, cells := 0, slots := 0, locals := 69 }
theorem in_X13_best_X13 : ∀ w ∈ wsX130, w ∈ wsX13_best := by decide +kernel
theorem lk_X13_best_28 : Cond.fieldLink RX13 28 "PaperStormModel" "parts" "[J" ∈ wsX13_best := by decide +kernel
noncomputable def f_X13_best_9 (x_parts : Nat → Int64) (z38 : Int32 → Option (Int32 × (Nat → Int64) × (Nat → Int64) × (Nat → Int32) × (Nat → Int32) × Int64)) : Nat → Int32 → Int32 → Option (Int32 × (Nat → Int64) × (Nat → Int64) × (Nat → Int32) × (Nat → Int32) × Int64)
  | 0, _, _ => none
  | n + 1, l2_9, l3_9 => if 4 ≤ l3_9 then z38 l2_9 else jo (fun (l2_32 : Int32) => f_X13_best_9 x_parts z38 n l2_32 (l3_9 + 1)) (fun j32 => if l3_9 < 0 ∨ 4 ≤ l3_9.toNatClampNeg then none else if l2_9 < 0 ∨ 4 ≤ l2_9.toNatClampNeg then none else if (lg_cmp (x_parts l3_9.toNatClampNeg) (x_parts l2_9.toNatClampNeg)) ≤ 0 then j32 l2_9 else j32 l3_9)
noncomputable def f_X13_best (x_g : Nat → Int32) (x_parts : Nat → Int64) (x_next : Nat → Int64) (x_ways : Nat → Int32) (x_more : Nat → Int32) (x_whole : Int64) (a1 : Int32) : Option (Int32 × (Nat → Int64) × (Nat → Int64) × (Nat → Int32) × (Nat → Int32) × Int64) :=
  (f_X13_goes x_g x_parts x_next x_ways x_more x_whole a1).bind fun r2 => f_X13_best_9 r2.1 (fun l2_38e => some (l2_38e, r2.1, r2.2.1, r2.2.2.1, r2.2.2.2.1, r2.2.2.2.2)) 1000 0 1
abbrev G_X13_best (p : Program) (l : Launch) (e : Env) (s : State) (m : MethodId) (args : Array Value) (below : List Frame) (meth : Method) (c : Code) (g : GE) (A : Nat → Prop) (h0 h1 h2 h3 h4 h5 h6 h7 h8 h9 h10 h11 h12 h13 : Nat) (x_g : Nat → Int32) (x_kept : Nat → Int32) (x_saved : Nat → Int32) (x_before : Nat → Int32) (x_was : Nat → Int32) (x_region : Nat → Int32) (x_isSaved : Int32) (x_changes : Int32) (x_isWithin : Int32) (x_code : Int32) (x_input : Nat → Int32) (x_length : Int32) (x_fault : Int32) (x_failed : Int32) (x_signs : Nat → Int32) (x_signMany : Int32) (x_at : Int32) (x_told : Nat → Int32) (x_toldMany : Int32) (res : Int32 × (Nat → Int64) × (Nat → Int64) × (Nat → Int32) × (Nat → Int32) × Int64) (H : Heap) (locs : List Loc) (pc : Nat) (ls : Array Slot) (st : List Value) : Prop := W p l e (headSpec wsX13_best rm_X13_best).room s m args below meth c H locs 0 0 (MQ below (PoI g A (w_X13 g h0 h1 h2 h3 h4 h5 h6 h7 h8 h9 h10 h11 h12 h13 x_g x_kept x_saved x_before x_was x_region res.2.1 res.2.2.1 res.2.2.2.1 res.2.2.2.2.1 res.2.2.2.2.2 x_isSaved x_changes x_isWithin x_code x_input x_length x_fault x_failed x_signs x_signMany x_at x_told x_toldMany) res.1) args s 0 0 A) (F0 m pc ls st)
set_option maxHeartbeats 4000000 in
set_option maxRecDepth 100000 in
theorem k_X13_best_9 {p : Program} {l : Launch} {e : Env} {s : State} {m : MethodId} {args : Array Value} {below : List Frame} {meth : Method} {c : Code} {g : GE} {A : Nat → Prop} {h0 h1 h2 h3 h4 h5 h6 h7 h8 h9 h10 h11 h12 h13 : Nat} {x_g : Nat → Int32} {x_kept : Nat → Int32} {x_saved : Nat → Int32} {x_before : Nat → Int32} {x_was : Nat → Int32} {x_region : Nat → Int32} {x_parts : Nat → Int64} {x_next : Nat → Int64} {x_ways : Nat → Int32} {x_more : Nat → Int32} {x_whole : Int64} {x_isSaved : Int32} {x_changes : Int32} {x_isWithin : Int32} {x_code : Int32} {x_input : Nat → Int32} {x_length : Int32} {x_fault : Int32} {x_failed : Int32} {x_signs : Nat → Int32} {x_signMany : Int32} {x_at : Int32} {x_told : Nat → Int32} {x_toldMany : Int32} {res : Int32 × (Nat → Int64) × (Nat → Int64) × (Nat → Int32) × (Nat → Int32) × Int64} {z38 : Int32 → Option (Int32 × (Nat → Int64) × (Nat → Int64) × (Nat → Int32) × (Nat → Int32) × Int64)}
    (E : En cX13_best RX13 wsX13_best 4 (some .int) p s m args meth c) (hK : KK g s) (hA : ∀ q, s.heap.size ≤ q → A q)
    (hz38 : ∀ (l2_38e : Int32) (H : Heap) (locs : List Loc) (ls : Array Slot), z38 l2_38e = some res → Wo g A s H locs (w_X13 g h0 h1 h2 h3 h4 h5 h6 h7 h8 h9 h10 h11 h12 h13 x_g x_kept x_saved x_before x_was x_region x_parts x_next x_ways x_more x_whole x_isSaved x_changes x_isWithin x_code x_input x_length x_fault x_failed x_signs x_signMany x_at x_told x_toldMany) → lv_has ls 4 [(2, .int l2_38e)] → G_X13_best p l e s m args below meth c g A h0 h1 h2 h3 h4 h5 h6 h7 h8 h9 h10 h11 h12 h13 x_g x_kept x_saved x_before x_was x_region x_isSaved x_changes x_isWithin x_code x_input x_length x_fault x_failed x_signs x_signMany x_at x_told x_toldMany res H locs 38 ls [])
    : ∀ (n : Nat) (l2_9 : Int32) (l3_9 : Int32) (H : Heap) (locs : List Loc) (ls : Array Slot), f_X13_best_9 x_parts z38 n l2_9 l3_9 = some res → Wo g A s H locs (w_X13 g h0 h1 h2 h3 h4 h5 h6 h7 h8 h9 h10 h11 h12 h13 x_g x_kept x_saved x_before x_was x_region x_parts x_next x_ways x_more x_whole x_isSaved x_changes x_isWithin x_code x_input x_length x_fault x_failed x_signs x_signMany x_at x_told x_toldMany) → lv_has ls 4 [(0, .ref h0), (2, .int l2_9), (3, .int l3_9)] → G_X13_best p l e s m args below meth c g A h0 h1 h2 h3 h4 h5 h6 h7 h8 h9 h10 h11 h12 h13 x_g x_kept x_saved x_before x_was x_region x_isSaved x_changes x_isWithin x_code x_input x_length x_fault x_failed x_signs x_signMany x_at x_told x_toldMany res H locs 9 ls [] := by
  have hts := E.2.2.2.1
  intro n
  induction n with
  | zero => intro l2_9 l3_9 H locs ls h hW hl; rw [f_X13_best_9] at h; cases h
  | succ n ih =>
    intro l2_9 l3_9 H locs ls h hW hl
    rw [f_X13_best_9] at h
    refine lv_iload_n E.1 E.2.1 dX13_best_9 rfl (lv_at hl 2 rfl) ?_
    refine lv_iconst (v := 4) E.1 E.2.1 dX13_best_10 (by decide) ?_
    refine lv_icmp_ge (tgt := 38) E.1 E.2.1 dX13_best_11 (by decide) (fun c11 => ?_) (fun c11 => ?_)
    · have h := it c11 h
      exact hz38 l2_9 H locs ls h hW (lv_sub hl [1] rfl)
    · have h := ie c11 h
      obtain ⟨j32, hj32, h⟩ := jox1 h
      have J32 : ∀ (l2_32 : Int32) (H : Heap) (locs : List Loc) (ls : Array Slot), j32 l2_32 = some res → Wo g A s H locs (w_X13 g h0 h1 h2 h3 h4 h5 h6 h7 h8 h9 h10 h11 h12 h13 x_g x_kept x_saved x_before x_was x_region x_parts x_next x_ways x_more x_whole x_isSaved x_changes x_isWithin x_code x_input x_length x_fault x_failed x_signs x_signMany x_at x_told x_toldMany) → lv_has ls 4 [(0, .ref h0), (2, .int l2_32), (3, .int l3_9)] → G_X13_best p l e s m args below meth c g A h0 h1 h2 h3 h4 h5 h6 h7 h8 h9 h10 h11 h12 h13 x_g x_kept x_saved x_before x_was x_region x_isSaved x_changes x_isWithin x_code x_input x_length x_fault x_failed x_signs x_signMany x_at x_told x_toldMany res H locs 32 ls [] := by
        intro l2_32 H locs ls h hW hl
        rw [hj32] at h
        refine lv_iinc (v := (l3_9 + 1)) (lv' := [(3, .int (l3_9 + 1)), (0, .ref h0), (2, .int l2_32)]) E.1 E.2.1 dX13_best_32 hl (k := 2) rfl rfl (by decide) rfl (fun ls hl => ?_)
        refine lv_goto (tgt := 9) E.1 E.2.1 dX13_best_35 (by decide) ?_
        exact ih l2_32 (l3_9 + 1) H locs ls h hW (lv_sub hl [1, 2, 0] rfl)
      refine lv_aload_n E.1 E.2.1 dX13_best_14 rfl (lv_at hl 0 rfl) ?_
      refine wGet (v := .ref h7) E hK in_X13_best_X13 hW 6 lk_X13_best_28 0 rfl rfl (by decide) rfl rfl dX13_best_15 ?_
      refine lv_iload_n E.1 E.2.1 dX13_best_18 rfl (lv_at hl 2 rfl) ?_
      obtain ⟨hi19, h⟩ := ox h
      refine wLald E hK hW 7 rfl hi19 dX13_best_19 ?_
      refine lv_aload_n E.1 E.2.1 dX13_best_20 rfl (lv_at hl 0 rfl) ?_
      refine wGet (v := .ref h7) E hK in_X13_best_X13 hW 6 lk_X13_best_28 0 rfl rfl (by decide) rfl rfl dX13_best_21 ?_
      refine lv_iload_n E.1 E.2.1 dX13_best_24 rfl (lv_at hl 1 rfl) ?_
      obtain ⟨hi25, h⟩ := ox h
      refine wLald E hK hW 7 rfl hi25 dX13_best_25 ?_
      refine W.lcmp E.1 E.2.1 dX13_best_26 ?_
      refine lv_if_le (tgt := 32) E.1 E.2.1 dX13_best_27 (by decide) (fun c27 => ?_) (fun c27 => ?_)
      · have h := it c27 h
        exact J32 l2_9 H locs ls h hW (lv_sub hl [0, 1, 2] rfl)
      · have h := ie c27 h
        refine lv_iload_n E.1 E.2.1 dX13_best_30 rfl (lv_at hl 2 rfl) ?_
        refine lv_istore_n (lv' := [(2, .int l3_9), (0, .ref h0), (3, .int l3_9)]) E.1 E.2.1 dX13_best_31 rfl hl (by decide) rfl (fun ls hl => ?_)
        exact J32 l3_9 H locs ls h hW (lv_sub hl [1, 0, 2] rfl)
set_option maxHeartbeats 4000000 in
set_option maxRecDepth 100000 in
theorem k_X13_best_0 {p : Program} {l : Launch} {e : Env} {s : State} {m : MethodId} {args : Array Value} {below : List Frame} {meth : Method} {c : Code} {g : GE} {A : Nat → Prop} {h0 h1 h2 h3 h4 h5 h6 h7 h8 h9 h10 h11 h12 h13 : Nat} {x_g : Nat → Int32} {x_kept : Nat → Int32} {x_saved : Nat → Int32} {x_before : Nat → Int32} {x_was : Nat → Int32} {x_region : Nat → Int32} {x_parts : Nat → Int64} {x_next : Nat → Int64} {x_ways : Nat → Int32} {x_more : Nat → Int32} {x_whole : Int64} {x_isSaved : Int32} {x_changes : Int32} {x_isWithin : Int32} {x_code : Int32} {x_input : Nat → Int32} {x_length : Int32} {x_fault : Int32} {x_failed : Int32} {x_signs : Nat → Int32} {x_signMany : Int32} {x_at : Int32} {x_told : Nat → Int32} {x_toldMany : Int32} {res : Int32 × (Nat → Int64) × (Nat → Int64) × (Nat → Int32) × (Nat → Int32) × Int64} {H : Heap} {locs : List Loc} {ls : Array Slot} {a1 : Int32}
    (E : En cX13_best RX13 wsX13_best 4 (some .int) p s m args meth c) (hK : KK g s) (hA : ∀ q, s.heap.size ≤ q → A q) (h : f_X13_best x_g x_parts x_next x_ways x_more x_whole a1 = some res) (hW : Wo g A s H locs (w_X13 g h0 h1 h2 h3 h4 h5 h6 h7 h8 h9 h10 h11 h12 h13 x_g x_kept x_saved x_before x_was x_region x_parts x_next x_ways x_more x_whole x_isSaved x_changes x_isWithin x_code x_input x_length x_fault x_failed x_signs x_signMany x_at x_told x_toldMany)) (hl : lv_has ls 4 [(0, .ref h0), (1, .int a1)]) : G_X13_best p l e s m args below meth c g A h0 h1 h2 h3 h4 h5 h6 h7 h8 h9 h10 h11 h12 h13 x_g x_kept x_saved x_before x_was x_region x_isSaved x_changes x_isWithin x_code x_input x_length x_fault x_failed x_signs x_signMany x_at x_told x_toldMany res H locs 0 ls [] := by
  have hts := E.2.2.2.1
  unfold f_X13_best at h
  refine lv_aload_n E.1 E.2.1 dX13_best_0 rfl (lv_at hl 0 rfl) ?_
  refine lv_iload_n E.1 E.2.1 dX13_best_1 rfl (lv_at hl 1 rfl) ?_
  obtain ⟨r2, hc, h⟩ := bx h
  refine goU (world' := (w_X13 g h0 h1 h2 h3 h4 h5 h6 h7 h8 h9 h10 h11 h12 h13 x_g x_kept x_saved x_before x_was x_region r2.1 r2.2.1 r2.2.2.1 r2.2.2.2.1 r2.2.2.2.2 x_isSaved x_changes x_isWithin x_code x_input x_length x_fault x_failed x_signs x_signMany x_at x_told x_toldMany)) hW hA (is := [0, 1, 2, 3, 4, 5, 6, 7, 8, 9, 10, 11, 12, 13]) rfl (goV (rest := []) E hK hW [0, 1, 2, 3, 4, 5, 6, 7, 8, 9, 10, 11, 12, 13] rfl rfl (c_X13_goes l g h0 h1 h2 h3 h4 h5 h6 h7 h8 h9 h10 h11 h12 h13 x_g x_kept x_saved x_before x_was x_region x_parts x_next x_ways x_more x_whole x_isSaved x_changes x_isWithin x_code x_input x_length x_fault x_failed x_signs x_signMany x_at x_told x_toldMany a1 (hf := hc) H.size) (cwV 1 hts gX13_best_X13_goes rfl rfl rfl (by decide +kernel) ⟨Nat.le_of_ble_eq_true rfl, Nat.le_of_ble_eq_true rfl⟩) 0 rfl rfl rfl hl.1 rfl rfl (Nat.le_of_ble_eq_true rfl) dX13_best_2 ⟨Nat.zero_le _, Nat.zero_le _⟩) rfl rfl (fun H locs hW => ?_)
  refine lv_iconst (v := 0) E.1 E.2.1 dX13_best_5 (by decide) ?_
  refine lv_istore_n (lv' := [(2, .int 0), (0, .ref h0), (1, .int a1)]) E.1 E.2.1 dX13_best_6 rfl hl (by decide) rfl (fun ls hl => ?_)
  refine lv_iconst (v := 1) E.1 E.2.1 dX13_best_7 (by decide) ?_
  refine lv_istore_n (lv' := [(3, .int 1), (2, .int 0), (0, .ref h0), (1, .int a1)]) E.1 E.2.1 dX13_best_8 rfl hl (by decide) rfl (fun ls hl => ?_)
  refine k_X13_best_9 E hK hA ?_ 1000 0 1 H locs ls h hW (lv_sub hl [2, 1, 0] rfl)
  · intro l2_38e H locs ls h hW hl
    refine lv_iload_n E.1 E.2.1 dX13_best_38 rfl (lv_at hl 0 rfl) ?_
    obtain rfl := Option.some.inj h
    exact endI E rfl hW dX13_best_39
theorem c_X13_best (l : Launch) (g : GE) (h0 h1 h2 h3 h4 h5 h6 h7 h8 h9 h10 h11 h12 h13 : Nat) (x_g : Nat → Int32) (x_kept : Nat → Int32) (x_saved : Nat → Int32) (x_before : Nat → Int32) (x_was : Nat → Int32) (x_region : Nat → Int32) (x_parts : Nat → Int64) (x_next : Nat → Int64) (x_ways : Nat → Int32) (x_more : Nat → Int32) (x_whole : Int64) (x_isSaved : Int32) (x_changes : Int32) (x_isWithin : Int32) (x_code : Int32) (x_input : Nat → Int32) (x_length : Int32) (x_fault : Int32) (x_failed : Int32) (x_signs : Nat → Int32) (x_signMany : Int32) (x_at : Int32) (x_told : Nat → Int32) (x_toldMany : Int32) (a1 : Int32) {res : Int32 × (Nat → Int64) × (Nat → Int64) × (Nat → Int32) × (Nat → Int32) × Int64} (hf : f_X13_best x_g x_parts x_next x_ways x_more x_whole a1 = some res) : CI l yX13_best wsX13_best rm_X13_best g [.ref h0, .int a1] (w_X13 g h0 h1 h2 h3 h4 h5 h6 h7 h8 h9 h10 h11 h12 h13 x_g x_kept x_saved x_before x_was x_region x_parts x_next x_ways x_more x_whole x_isSaved x_changes x_isWithin x_code x_input x_length x_fault x_failed x_signs x_signMany x_at x_told x_toldMany) (w_X13 g h0 h1 h2 h3 h4 h5 h6 h7 h8 h9 h10 h11 h12 h13 x_g x_kept x_saved x_before x_was x_region res.2.1 res.2.2.1 res.2.2.2.1 res.2.2.2.2.1 res.2.2.2.2.2 x_isSaved x_changes x_isWithin x_code x_input x_length x_fault x_failed x_signs x_signMany x_at x_told x_toldMany) res.1 :=
  mkI (cc := cX13_best) (maxL := 4) (by decide) rfl (Nat.le_of_ble_eq_true rfl) (fun p e s m args below meth c A H locs ls E hK hA hW hl => k_X13_best_0 E hK hA hf hW hl)

/-! PaperStormModel.likeliest(I)I X13_likeliest -/
abbrev rm_X13_likeliest : Room := { frames := 4, cells := 0, slots := 0, locals := 92 }
noncomputable def f_X13_likeliest (x_g : Nat → Int32) (x_parts : Nat → Int64) (x_next : Nat → Int64) (x_ways : Nat → Int32) (x_more : Nat → Int32) (x_whole : Int64) (x_code : Int32) (a1 : Int32) : Option (Int32 × (Nat → Int64) × (Nat → Int64) × (Nat → Int32) × (Nat → Int32) × Int64 × Int32) :=
  jo (fun (s1_13 : Int32) => jo (fun (x_parts_28 : Nat → Int64) (x_next_28 : Nat → Int64) (x_ways_28 : Nat → Int32) (x_more_28 : Nat → Int32) (x_whole_28 : Int64) (x_code_28 : Int32) (s0_28 : Int32) => some (s0_28, x_parts_28, x_next_28, x_ways_28, x_more_28, x_whole_28, x_code_28)) (fun j28 => (f_X13_fails x_code s1_13).bind fun r13 => if r13.1 = 0 then (f_X13_best x_g x_parts x_next x_ways x_more x_whole a1).bind fun r25 => j28 r25.2.1 r25.2.2.1 r25.2.2.2.1 r25.2.2.2.2.1 r25.2.2.2.2.2 r13.2 r25.1 else j28 x_parts x_next x_ways x_more x_whole r13.2 0)) (fun j13 => (f_X13_isSoon a1).bind fun r2 => if r2 = 0 then j13 1 else j13 0)
abbrev G_X13_likeliest (p : Program) (l : Launch) (e : Env) (s : State) (m : MethodId) (args : Array Value) (below : List Frame) (meth : Method) (c : Code) (g : GE) (A : Nat → Prop) (h0 h1 h2 h3 h4 h5 h6 h7 h8 h9 h10 h11 h12 h13 : Nat) (x_g : Nat → Int32) (x_kept : Nat → Int32) (x_saved : Nat → Int32) (x_before : Nat → Int32) (x_was : Nat → Int32) (x_region : Nat → Int32) (x_isSaved : Int32) (x_changes : Int32) (x_isWithin : Int32) (x_input : Nat → Int32) (x_length : Int32) (x_fault : Int32) (x_failed : Int32) (x_signs : Nat → Int32) (x_signMany : Int32) (x_at : Int32) (x_told : Nat → Int32) (x_toldMany : Int32) (res : Int32 × (Nat → Int64) × (Nat → Int64) × (Nat → Int32) × (Nat → Int32) × Int64 × Int32) (H : Heap) (locs : List Loc) (pc : Nat) (ls : Array Slot) (st : List Value) : Prop := W p l e (headSpec wsX13_likeliest rm_X13_likeliest).room s m args below meth c H locs 0 0 (MQ below (PoI g A (w_X13 g h0 h1 h2 h3 h4 h5 h6 h7 h8 h9 h10 h11 h12 h13 x_g x_kept x_saved x_before x_was x_region res.2.1 res.2.2.1 res.2.2.2.1 res.2.2.2.2.1 res.2.2.2.2.2.1 x_isSaved x_changes x_isWithin res.2.2.2.2.2.2 x_input x_length x_fault x_failed x_signs x_signMany x_at x_told x_toldMany) res.1) args s 0 0 A) (F0 m pc ls st)
set_option maxHeartbeats 4000000 in
set_option maxRecDepth 100000 in
theorem k_X13_likeliest_0 {p : Program} {l : Launch} {e : Env} {s : State} {m : MethodId} {args : Array Value} {below : List Frame} {meth : Method} {c : Code} {g : GE} {A : Nat → Prop} {h0 h1 h2 h3 h4 h5 h6 h7 h8 h9 h10 h11 h12 h13 : Nat} {x_g : Nat → Int32} {x_kept : Nat → Int32} {x_saved : Nat → Int32} {x_before : Nat → Int32} {x_was : Nat → Int32} {x_region : Nat → Int32} {x_parts : Nat → Int64} {x_next : Nat → Int64} {x_ways : Nat → Int32} {x_more : Nat → Int32} {x_whole : Int64} {x_isSaved : Int32} {x_changes : Int32} {x_isWithin : Int32} {x_code : Int32} {x_input : Nat → Int32} {x_length : Int32} {x_fault : Int32} {x_failed : Int32} {x_signs : Nat → Int32} {x_signMany : Int32} {x_at : Int32} {x_told : Nat → Int32} {x_toldMany : Int32} {res : Int32 × (Nat → Int64) × (Nat → Int64) × (Nat → Int32) × (Nat → Int32) × Int64 × Int32} {H : Heap} {locs : List Loc} {ls : Array Slot} {a1 : Int32}
    (E : En cX13_likeliest RX13 wsX13_likeliest 2 (some .int) p s m args meth c) (hK : KK g s) (hA : ∀ q, s.heap.size ≤ q → A q) (h : f_X13_likeliest x_g x_parts x_next x_ways x_more x_whole x_code a1 = some res) (hW : Wo g A s H locs (w_X13 g h0 h1 h2 h3 h4 h5 h6 h7 h8 h9 h10 h11 h12 h13 x_g x_kept x_saved x_before x_was x_region x_parts x_next x_ways x_more x_whole x_isSaved x_changes x_isWithin x_code x_input x_length x_fault x_failed x_signs x_signMany x_at x_told x_toldMany)) (hl : lv_has ls 2 [(0, .ref h0), (1, .int a1)]) : G_X13_likeliest p l e s m args below meth c g A h0 h1 h2 h3 h4 h5 h6 h7 h8 h9 h10 h11 h12 h13 x_g x_kept x_saved x_before x_was x_region x_isSaved x_changes x_isWithin x_input x_length x_fault x_failed x_signs x_signMany x_at x_told x_toldMany res H locs 0 ls [] := by
  have hts := E.2.2.2.1
  unfold f_X13_likeliest at h
  obtain ⟨j13, hj13, h⟩ := jox1 h
  have J13 : ∀ (s1_13 : Int32) (H : Heap) (locs : List Loc) (ls : Array Slot), j13 s1_13 = some res → Wo g A s H locs (w_X13 g h0 h1 h2 h3 h4 h5 h6 h7 h8 h9 h10 h11 h12 h13 x_g x_kept x_saved x_before x_was x_region x_parts x_next x_ways x_more x_whole x_isSaved x_changes x_isWithin x_code x_input x_length x_fault x_failed x_signs x_signMany x_at x_told x_toldMany) → lv_has ls 2 [(0, .ref h0), (1, .int a1)] → G_X13_likeliest p l e s m args below meth c g A h0 h1 h2 h3 h4 h5 h6 h7 h8 h9 h10 h11 h12 h13 x_g x_kept x_saved x_before x_was x_region x_isSaved x_changes x_isWithin x_input x_length x_fault x_failed x_signs x_signMany x_at x_told x_toldMany res H locs 13 ls [.int s1_13, .ref h0] := by
    intro s1_13 H locs ls h hW hl
    rw [hj13] at h
    obtain ⟨j28, hj28, h⟩ := jox7 h
    have J28 : ∀ (x_parts_28 : Nat → Int64) (x_next_28 : Nat → Int64) (x_ways_28 : Nat → Int32) (x_more_28 : Nat → Int32) (x_whole_28 : Int64) (x_code_28 : Int32) (s0_28 : Int32) (H : Heap) (locs : List Loc) (ls : Array Slot), j28 x_parts_28 x_next_28 x_ways_28 x_more_28 x_whole_28 x_code_28 s0_28 = some res → Wo g A s H locs (w_X13 g h0 h1 h2 h3 h4 h5 h6 h7 h8 h9 h10 h11 h12 h13 x_g x_kept x_saved x_before x_was x_region x_parts_28 x_next_28 x_ways_28 x_more_28 x_whole_28 x_isSaved x_changes x_isWithin x_code_28 x_input x_length x_fault x_failed x_signs x_signMany x_at x_told x_toldMany) → lv_has ls 2 [] → G_X13_likeliest p l e s m args below meth c g A h0 h1 h2 h3 h4 h5 h6 h7 h8 h9 h10 h11 h12 h13 x_g x_kept x_saved x_before x_was x_region x_isSaved x_changes x_isWithin x_input x_length x_fault x_failed x_signs x_signMany x_at x_told x_toldMany res H locs 28 ls [.int s0_28] := by
      intro x_parts_28 x_next_28 x_ways_28 x_more_28 x_whole_28 x_code_28 s0_28 H locs ls h hW hl
      rw [hj28] at h
      obtain rfl := Option.some.inj h
      exact endI E rfl hW dX13_likeliest_28
    obtain ⟨r13, hc, h⟩ := bx h
    refine goI (world' := (w_X13 g h0 h1 h2 h3 h4 h5 h6 h7 h8 h9 h10 h11 h12 h13 x_g x_kept x_saved x_before x_was x_region x_parts x_next x_ways x_more x_whole x_isSaved x_changes x_isWithin r13.2 x_input x_length x_fault x_failed x_signs x_signMany x_at x_told x_toldMany)) hW hA (is := [0, 1, 2, 3, 4, 5, 6, 7, 8, 9, 10, 11, 12, 13]) rfl (goV (rest := []) E hK hW [0, 1, 2, 3, 4, 5, 6, 7, 8, 9, 10, 11, 12, 13] rfl rfl (c_X13_fails l g h0 h1 h2 h3 h4 h5 h6 h7 h8 h9 h10 h11 h12 h13 x_g x_kept x_saved x_before x_was x_region x_parts x_next x_ways x_more x_whole x_isSaved x_changes x_isWithin x_code x_input x_length x_fault x_failed x_signs x_signMany x_at x_told x_toldMany s1_13 (hf := hc) H.size) (cwV 1 hts gX13_likeliest_X13_fails rfl rfl rfl (by decide +kernel) ⟨Nat.le_of_ble_eq_true rfl, Nat.le_of_ble_eq_true rfl⟩) 0 rfl rfl rfl hl.1 rfl rfl (Nat.le_of_ble_eq_true rfl) dX13_likeliest_13 ⟨Nat.zero_le _, Nat.zero_le _⟩) rfl rfl (fun H locs hW => ?_)
    refine lv_if_eq (tgt := 23) E.1 E.2.1 dX13_likeliest_16 (by decide) (fun c16 => ?_) (fun c16 => ?_)
    · have h := it c16 h
      refine lv_aload_n E.1 E.2.1 dX13_likeliest_23 rfl (lv_at hl 0 rfl) ?_
      refine lv_iload_n E.1 E.2.1 dX13_likeliest_24 rfl (lv_at hl 1 rfl) ?_
      obtain ⟨r25, hc, h⟩ := bx h
      refine goI (world' := (w_X13 g h0 h1 h2 h3 h4 h5 h6 h7 h8 h9 h10 h11 h12 h13 x_g x_kept x_saved x_before x_was x_region r25.2.1 r25.2.2.1 r25.2.2.2.1 r25.2.2.2.2.1 r25.2.2.2.2.2 x_isSaved x_changes x_isWithin r13.2 x_input x_length x_fault x_failed x_signs x_signMany x_at x_told x_toldMany)) hW hA (is := [0, 1, 2, 3, 4, 5, 6, 7, 8, 9, 10, 11, 12, 13]) rfl (goV (rest := []) E hK hW [0, 1, 2, 3, 4, 5, 6, 7, 8, 9, 10, 11, 12, 13] rfl rfl (c_X13_best l g h0 h1 h2 h3 h4 h5 h6 h7 h8 h9 h10 h11 h12 h13 x_g x_kept x_saved x_before x_was x_region x_parts x_next x_ways x_more x_whole x_isSaved x_changes x_isWithin r13.2 x_input x_length x_fault x_failed x_signs x_signMany x_at x_told x_toldMany a1 (hf := hc) H.size) (cwV 1 hts gX13_likeliest_X13_best rfl rfl rfl (by decide +kernel) ⟨Nat.le_of_ble_eq_true rfl, Nat.le_of_ble_eq_true rfl⟩) 0 rfl rfl rfl hl.1 rfl rfl (Nat.le_of_ble_eq_true rfl) dX13_likeliest_25 ⟨Nat.zero_le _, Nat.zero_le _⟩) rfl rfl (fun H locs hW => ?_)
      exact J28 r25.2.1 r25.2.2.1 r25.2.2.2.1 r25.2.2.2.2.1 r25.2.2.2.2.2 r13.2 r25.1 H locs ls h hW (lv_sub hl [] rfl)
    · have h := ie c16 h
      refine lv_iconst (v := 0) E.1 E.2.1 dX13_likeliest_19 (by decide) ?_
      refine lv_goto (tgt := 28) E.1 E.2.1 dX13_likeliest_20 (by decide) ?_
      exact J28 x_parts x_next x_ways x_more x_whole r13.2 0 H locs ls h hW (lv_sub hl [] rfl)
  refine lv_aload_n E.1 E.2.1 dX13_likeliest_0 rfl (lv_at hl 0 rfl) ?_
  refine lv_iload_n E.1 E.2.1 dX13_likeliest_1 rfl (lv_at hl 1 rfl) ?_
  obtain ⟨r2, hc, h⟩ := bx h
  refine goI (world' := (w_X13 g h0 h1 h2 h3 h4 h5 h6 h7 h8 h9 h10 h11 h12 h13 x_g x_kept x_saved x_before x_was x_region x_parts x_next x_ways x_more x_whole x_isSaved x_changes x_isWithin x_code x_input x_length x_fault x_failed x_signs x_signMany x_at x_told x_toldMany)) hW hA (is := []) rfl (goS (rest := [.ref h0]) E hK hW [] rfl rfl (c_X13_isSoon l g a1 (hf := hc) H.size) (va_cwS 1 hts gX13_likeliest_X13_isSoon rfl rfl rfl (by decide +kernel) ⟨Nat.le_of_ble_eq_true rfl, Nat.le_of_ble_eq_true rfl⟩) hl.1 rfl rfl (Nat.le_of_ble_eq_true rfl) dX13_likeliest_2 ⟨Nat.zero_le _, Nat.zero_le _⟩) rfl rfl (fun H locs hW => ?_)
  refine lv_if_eq (tgt := 12) E.1 E.2.1 dX13_likeliest_5 (by decide) (fun c5 => ?_) (fun c5 => ?_)
  · have h := it c5 h
    refine lv_iconst (v := 1) E.1 E.2.1 dX13_likeliest_12 (by decide) ?_
    exact J13 1 H locs ls h hW (lv_sub hl [0, 1] rfl)
  · have h := ie c5 h
    refine lv_iconst (v := 0) E.1 E.2.1 dX13_likeliest_8 (by decide) ?_
    refine lv_goto (tgt := 13) E.1 E.2.1 dX13_likeliest_9 (by decide) ?_
    exact J13 0 H locs ls h hW (lv_sub hl [0, 1] rfl)
theorem c_X13_likeliest (l : Launch) (g : GE) (h0 h1 h2 h3 h4 h5 h6 h7 h8 h9 h10 h11 h12 h13 : Nat) (x_g : Nat → Int32) (x_kept : Nat → Int32) (x_saved : Nat → Int32) (x_before : Nat → Int32) (x_was : Nat → Int32) (x_region : Nat → Int32) (x_parts : Nat → Int64) (x_next : Nat → Int64) (x_ways : Nat → Int32) (x_more : Nat → Int32) (x_whole : Int64) (x_isSaved : Int32) (x_changes : Int32) (x_isWithin : Int32) (x_code : Int32) (x_input : Nat → Int32) (x_length : Int32) (x_fault : Int32) (x_failed : Int32) (x_signs : Nat → Int32) (x_signMany : Int32) (x_at : Int32) (x_told : Nat → Int32) (x_toldMany : Int32) (a1 : Int32) {res : Int32 × (Nat → Int64) × (Nat → Int64) × (Nat → Int32) × (Nat → Int32) × Int64 × Int32} (hf : f_X13_likeliest x_g x_parts x_next x_ways x_more x_whole x_code a1 = some res) : CI l yX13_likeliest wsX13_likeliest rm_X13_likeliest g [.ref h0, .int a1] (w_X13 g h0 h1 h2 h3 h4 h5 h6 h7 h8 h9 h10 h11 h12 h13 x_g x_kept x_saved x_before x_was x_region x_parts x_next x_ways x_more x_whole x_isSaved x_changes x_isWithin x_code x_input x_length x_fault x_failed x_signs x_signMany x_at x_told x_toldMany) (w_X13 g h0 h1 h2 h3 h4 h5 h6 h7 h8 h9 h10 h11 h12 h13 x_g x_kept x_saved x_before x_was x_region res.2.1 res.2.2.1 res.2.2.2.1 res.2.2.2.2.1 res.2.2.2.2.2.1 x_isSaved x_changes x_isWithin res.2.2.2.2.2.2 x_input x_length x_fault x_failed x_signs x_signMany x_at x_told x_toldMany) res.1 :=
  mkI (cc := cX13_likeliest) (maxL := 2) (by decide) rfl (Nat.le_of_ble_eq_true rfl) (fun p e s m args below meth c A H locs ls E hK hA hW hl => k_X13_likeliest_0 E hK hA hf hW hl)

/-! PaperStormModel.shown()I X13_shown -/
abbrev rm_X13_shown : Room := { frames := 5, cells := 0, slots := 0, locals := 108 }
noncomputable def f_X13_shown (x_g : Nat → Int32) (x_region : Nat → Int32) : Option (Int32 × (Nat → Int32)) :=
  jo (fun (x_region_34 : Nat → Int32) (s0_34 : Int32) => some (s0_34, x_region_34)) (fun j34 => (f_X13_regions x_g x_region).bind fun r1 => if r1.1 = 1 then j34 r1.2 0 else if 4 ≤ r1.1 then if 8 ≤ r1.1 then j34 r1.2 3 else j34 r1.2 2 else j34 r1.2 1)
abbrev G_X13_shown (p : Program) (l : Launch) (e : Env) (s : State) (m : MethodId) (args : Array Value) (below : List Frame) (meth : Method) (c : Code) (g : GE) (A : Nat → Prop) (h0 h1 h2 h3 h4 h5 h6 h7 h8 h9 h10 h11 h12 h13 : Nat) (x_g : Nat → Int32) (x_kept : Nat → Int32) (x_saved : Nat → Int32) (x_before : Nat → Int32) (x_was : Nat → Int32) (x_parts : Nat → Int64) (x_next : Nat → Int64) (x_ways : Nat → Int32) (x_more : Nat → Int32) (x_whole : Int64) (x_isSaved : Int32) (x_changes : Int32) (x_isWithin : Int32) (x_code : Int32) (x_input : Nat → Int32) (x_length : Int32) (x_fault : Int32) (x_failed : Int32) (x_signs : Nat → Int32) (x_signMany : Int32) (x_at : Int32) (x_told : Nat → Int32) (x_toldMany : Int32) (res : Int32 × (Nat → Int32)) (H : Heap) (locs : List Loc) (pc : Nat) (ls : Array Slot) (st : List Value) : Prop := W p l e (headSpec wsX13_shown rm_X13_shown).room s m args below meth c H locs 0 0 (MQ below (PoI g A (w_X13 g h0 h1 h2 h3 h4 h5 h6 h7 h8 h9 h10 h11 h12 h13 x_g x_kept x_saved x_before x_was res.2 x_parts x_next x_ways x_more x_whole x_isSaved x_changes x_isWithin x_code x_input x_length x_fault x_failed x_signs x_signMany x_at x_told x_toldMany) res.1) args s 0 0 A) (F0 m pc ls st)
set_option maxHeartbeats 4000000 in
set_option maxRecDepth 100000 in
theorem k_X13_shown_0 {p : Program} {l : Launch} {e : Env} {s : State} {m : MethodId} {args : Array Value} {below : List Frame} {meth : Method} {c : Code} {g : GE} {A : Nat → Prop} {h0 h1 h2 h3 h4 h5 h6 h7 h8 h9 h10 h11 h12 h13 : Nat} {x_g : Nat → Int32} {x_kept : Nat → Int32} {x_saved : Nat → Int32} {x_before : Nat → Int32} {x_was : Nat → Int32} {x_region : Nat → Int32} {x_parts : Nat → Int64} {x_next : Nat → Int64} {x_ways : Nat → Int32} {x_more : Nat → Int32} {x_whole : Int64} {x_isSaved : Int32} {x_changes : Int32} {x_isWithin : Int32} {x_code : Int32} {x_input : Nat → Int32} {x_length : Int32} {x_fault : Int32} {x_failed : Int32} {x_signs : Nat → Int32} {x_signMany : Int32} {x_at : Int32} {x_told : Nat → Int32} {x_toldMany : Int32} {res : Int32 × (Nat → Int32)} {H : Heap} {locs : List Loc} {ls : Array Slot} 
    (E : En cX13_shown RX13 wsX13_shown 2 (some .int) p s m args meth c) (hK : KK g s) (hA : ∀ q, s.heap.size ≤ q → A q) (h : f_X13_shown x_g x_region = some res) (hW : Wo g A s H locs (w_X13 g h0 h1 h2 h3 h4 h5 h6 h7 h8 h9 h10 h11 h12 h13 x_g x_kept x_saved x_before x_was x_region x_parts x_next x_ways x_more x_whole x_isSaved x_changes x_isWithin x_code x_input x_length x_fault x_failed x_signs x_signMany x_at x_told x_toldMany)) (hl : lv_has ls 2 [(0, .ref h0)]) : G_X13_shown p l e s m args below meth c g A h0 h1 h2 h3 h4 h5 h6 h7 h8 h9 h10 h11 h12 h13 x_g x_kept x_saved x_before x_was x_parts x_next x_ways x_more x_whole x_isSaved x_changes x_isWithin x_code x_input x_length x_fault x_failed x_signs x_signMany x_at x_told x_toldMany res H locs 0 ls [] := by
  have hts := E.2.2.2.1
  unfold f_X13_shown at h
  obtain ⟨j34, hj34, h⟩ := jox2 h
  have J34 : ∀ (x_region_34 : Nat → Int32) (s0_34 : Int32) (H : Heap) (locs : List Loc) (ls : Array Slot), j34 x_region_34 s0_34 = some res → Wo g A s H locs (w_X13 g h0 h1 h2 h3 h4 h5 h6 h7 h8 h9 h10 h11 h12 h13 x_g x_kept x_saved x_before x_was x_region_34 x_parts x_next x_ways x_more x_whole x_isSaved x_changes x_isWithin x_code x_input x_length x_fault x_failed x_signs x_signMany x_at x_told x_toldMany) → lv_has ls 2 [] → G_X13_shown p l e s m args below meth c g A h0 h1 h2 h3 h4 h5 h6 h7 h8 h9 h10 h11 h12 h13 x_g x_kept x_saved x_before x_was x_parts x_next x_ways x_more x_whole x_isSaved x_changes x_isWithin x_code x_input x_length x_fault x_failed x_signs x_signMany x_at x_told x_toldMany res H locs 34 ls [.int s0_34] := by
    intro x_region_34 s0_34 H locs ls h hW hl
    rw [hj34] at h
    obtain rfl := Option.some.inj h
    exact endI E rfl hW dX13_shown_34
  refine lv_aload_n E.1 E.2.1 dX13_shown_0 rfl (lv_at hl 0 rfl) ?_
  obtain ⟨r1, hc, h⟩ := bx h
  refine goI (world' := (w_X13 g h0 h1 h2 h3 h4 h5 h6 h7 h8 h9 h10 h11 h12 h13 x_g x_kept x_saved x_before x_was r1.2 x_parts x_next x_ways x_more x_whole x_isSaved x_changes x_isWithin x_code x_input x_length x_fault x_failed x_signs x_signMany x_at x_told x_toldMany)) hW hA (is := [0, 1, 2, 3, 4, 5, 6, 7, 8, 9, 10, 11, 12, 13]) rfl (goV (rest := []) E hK hW [0, 1, 2, 3, 4, 5, 6, 7, 8, 9, 10, 11, 12, 13] rfl rfl (c_X13_regions l g h0 h1 h2 h3 h4 h5 h6 h7 h8 h9 h10 h11 h12 h13 x_g x_kept x_saved x_before x_was x_region x_parts x_next x_ways x_more x_whole x_isSaved x_changes x_isWithin x_code x_input x_length x_fault x_failed x_signs x_signMany x_at x_told x_toldMany (hf := hc) H.size) (cwV 0 hts gX13_shown_X13_regions rfl rfl rfl (by decide +kernel) ⟨Nat.le_of_ble_eq_true rfl, Nat.le_of_ble_eq_true rfl⟩) 0 rfl rfl rfl hl.1 rfl rfl (Nat.le_of_ble_eq_true rfl) dX13_shown_1 ⟨Nat.zero_le _, Nat.zero_le _⟩) rfl rfl (fun H locs hW => ?_)
  refine lv_istore_n (lv' := [(1, .int r1.1), (0, .ref h0)]) E.1 E.2.1 dX13_shown_4 rfl hl (by decide) rfl (fun ls hl => ?_)
  refine lv_iload_n E.1 E.2.1 dX13_shown_5 rfl (lv_at hl 0 rfl) ?_
  refine lv_iconst (v := 1) E.1 E.2.1 dX13_shown_6 (by decide) ?_
  refine lv_icmp_ne (tgt := 14) E.1 E.2.1 dX13_shown_7 (by decide) (fun c7 => ?_) (fun c7 => ?_)
  · have h := ie c7 h
    refine lv_iload_n E.1 E.2.1 dX13_shown_14 rfl (lv_at hl 0 rfl) ?_
    refine lv_iconst (v := 4) E.1 E.2.1 dX13_shown_15 (by decide) ?_
    refine lv_icmp_ge (tgt := 23) E.1 E.2.1 dX13_shown_16 (by decide) (fun c16 => ?_) (fun c16 => ?_)
    · have h := it c16 h
      refine lv_iload_n E.1 E.2.1 dX13_shown_23 rfl (lv_at hl 0 rfl) ?_
      refine lv_bipush (v := 8) E.1 E.2.1 dX13_shown_24 (by decide) ?_
      refine lv_icmp_ge (tgt := 33) E.1 E.2.1 dX13_shown_26 (by decide) (fun c26 => ?_) (fun c26 => ?_)
      · have h := it c26 h
        refine lv_iconst (v := 3) E.1 E.2.1 dX13_shown_33 (by decide) ?_
        exact J34 r1.2 3 H locs ls h hW (lv_sub hl [] rfl)
      · have h := ie c26 h
        refine lv_iconst (v := 2) E.1 E.2.1 dX13_shown_29 (by decide) ?_
        refine lv_goto (tgt := 34) E.1 E.2.1 dX13_shown_30 (by decide) ?_
        exact J34 r1.2 2 H locs ls h hW (lv_sub hl [] rfl)
    · have h := ie c16 h
      refine lv_iconst (v := 1) E.1 E.2.1 dX13_shown_19 (by decide) ?_
      refine lv_goto (tgt := 34) E.1 E.2.1 dX13_shown_20 (by decide) ?_
      exact J34 r1.2 1 H locs ls h hW (lv_sub hl [] rfl)
  · have h := it c7 h
    refine lv_iconst (v := 0) E.1 E.2.1 dX13_shown_10 (by decide) ?_
    refine lv_goto (tgt := 34) E.1 E.2.1 dX13_shown_11 (by decide) ?_
    exact J34 r1.2 0 H locs ls h hW (lv_sub hl [] rfl)
theorem c_X13_shown (l : Launch) (g : GE) (h0 h1 h2 h3 h4 h5 h6 h7 h8 h9 h10 h11 h12 h13 : Nat) (x_g : Nat → Int32) (x_kept : Nat → Int32) (x_saved : Nat → Int32) (x_before : Nat → Int32) (x_was : Nat → Int32) (x_region : Nat → Int32) (x_parts : Nat → Int64) (x_next : Nat → Int64) (x_ways : Nat → Int32) (x_more : Nat → Int32) (x_whole : Int64) (x_isSaved : Int32) (x_changes : Int32) (x_isWithin : Int32) (x_code : Int32) (x_input : Nat → Int32) (x_length : Int32) (x_fault : Int32) (x_failed : Int32) (x_signs : Nat → Int32) (x_signMany : Int32) (x_at : Int32) (x_told : Nat → Int32) (x_toldMany : Int32) {res : Int32 × (Nat → Int32)} (hf : f_X13_shown x_g x_region = some res) : CI l yX13_shown wsX13_shown rm_X13_shown g [.ref h0] (w_X13 g h0 h1 h2 h3 h4 h5 h6 h7 h8 h9 h10 h11 h12 h13 x_g x_kept x_saved x_before x_was x_region x_parts x_next x_ways x_more x_whole x_isSaved x_changes x_isWithin x_code x_input x_length x_fault x_failed x_signs x_signMany x_at x_told x_toldMany) (w_X13 g h0 h1 h2 h3 h4 h5 h6 h7 h8 h9 h10 h11 h12 h13 x_g x_kept x_saved x_before x_was res.2 x_parts x_next x_ways x_more x_whole x_isSaved x_changes x_isWithin x_code x_input x_length x_fault x_failed x_signs x_signMany x_at x_told x_toldMany) res.1 :=
  mkI (cc := cX13_shown) (maxL := 2) (by decide) rfl (Nat.le_of_ble_eq_true rfl) (fun p e s m args below meth c A H locs ls E hK hA hW hl => k_X13_shown_0 E hK hA hf hW hl)

/-! PaperStormModel.shownWeather()I X13_shownWeather -/
abbrev rm_X13_shownWeather : Room := { frames := 6, cells := 0, slots := 0, locals := 129 }
theorem in_X13_shownWeather_X13 : ∀ w ∈ wsX130, w ∈ wsX13_shownWeather := by decide +kernel
theorem lk_X13_shownWeather_58 : Cond.fieldLink RX13 58 "PaperStormModel" "code" "I" ∈ wsX13_shownWeather := by decide +kernel
noncomputable def f_X13_shownWeather (x_g : Nat → Int32) (x_region : Nat → Int32) (x_code : Int32) : Option (Int32 × (Nat → Int32) × Int32) :=
  (f_X13_shown x_g x_region).bind fun r6 => some (r6.1, r6.2, 0)
abbrev G_X13_shownWeather (p : Program) (l : Launch) (e : Env) (s : State) (m : MethodId) (args : Array Value) (below : List Frame) (meth : Method) (c : Code) (g : GE) (A : Nat → Prop) (h0 h1 h2 h3 h4 h5 h6 h7 h8 h9 h10 h11 h12 h13 : Nat) (x_g : Nat → Int32) (x_kept : Nat → Int32) (x_saved : Nat → Int32) (x_before : Nat → Int32) (x_was : Nat → Int32) (x_parts : Nat → Int64) (x_next : Nat → Int64) (x_ways : Nat → Int32) (x_more : Nat → Int32) (x_whole : Int64) (x_isSaved : Int32) (x_changes : Int32) (x_isWithin : Int32) (x_input : Nat → Int32) (x_length : Int32) (x_fault : Int32) (x_failed : Int32) (x_signs : Nat → Int32) (x_signMany : Int32) (x_at : Int32) (x_told : Nat → Int32) (x_toldMany : Int32) (res : Int32 × (Nat → Int32) × Int32) (H : Heap) (locs : List Loc) (pc : Nat) (ls : Array Slot) (st : List Value) : Prop := W p l e (headSpec wsX13_shownWeather rm_X13_shownWeather).room s m args below meth c H locs 0 0 (MQ below (PoI g A (w_X13 g h0 h1 h2 h3 h4 h5 h6 h7 h8 h9 h10 h11 h12 h13 x_g x_kept x_saved x_before x_was res.2.1 x_parts x_next x_ways x_more x_whole x_isSaved x_changes x_isWithin res.2.2 x_input x_length x_fault x_failed x_signs x_signMany x_at x_told x_toldMany) res.1) args s 0 0 A) (F0 m pc ls st)
set_option maxHeartbeats 4000000 in
set_option maxRecDepth 100000 in
theorem k_X13_shownWeather_0 {p : Program} {l : Launch} {e : Env} {s : State} {m : MethodId} {args : Array Value} {below : List Frame} {meth : Method} {c : Code} {g : GE} {A : Nat → Prop} {h0 h1 h2 h3 h4 h5 h6 h7 h8 h9 h10 h11 h12 h13 : Nat} {x_g : Nat → Int32} {x_kept : Nat → Int32} {x_saved : Nat → Int32} {x_before : Nat → Int32} {x_was : Nat → Int32} {x_region : Nat → Int32} {x_parts : Nat → Int64} {x_next : Nat → Int64} {x_ways : Nat → Int32} {x_more : Nat → Int32} {x_whole : Int64} {x_isSaved : Int32} {x_changes : Int32} {x_isWithin : Int32} {x_code : Int32} {x_input : Nat → Int32} {x_length : Int32} {x_fault : Int32} {x_failed : Int32} {x_signs : Nat → Int32} {x_signMany : Int32} {x_at : Int32} {x_told : Nat → Int32} {x_toldMany : Int32} {res : Int32 × (Nat → Int32) × Int32} {H : Heap} {locs : List Loc} {ls : Array Slot} 
    (E : En cX13_shownWeather RX13 wsX13_shownWeather 1 (some .int) p s m args meth c) (hK : KK g s) (hA : ∀ q, s.heap.size ≤ q → A q) (h : f_X13_shownWeather x_g x_region x_code = some res) (hW : Wo g A s H locs (w_X13 g h0 h1 h2 h3 h4 h5 h6 h7 h8 h9 h10 h11 h12 h13 x_g x_kept x_saved x_before x_was x_region x_parts x_next x_ways x_more x_whole x_isSaved x_changes x_isWithin x_code x_input x_length x_fault x_failed x_signs x_signMany x_at x_told x_toldMany)) (hl : lv_has ls 1 [(0, .ref h0)]) : G_X13_shownWeather p l e s m args below meth c g A h0 h1 h2 h3 h4 h5 h6 h7 h8 h9 h10 h11 h12 h13 x_g x_kept x_saved x_before x_was x_parts x_next x_ways x_more x_whole x_isSaved x_changes x_isWithin x_input x_length x_fault x_failed x_signs x_signMany x_at x_told x_toldMany res H locs 0 ls [] := by
  have hts := E.2.2.2.1
  unfold f_X13_shownWeather at h
  refine lv_aload_n E.1 E.2.1 dX13_shownWeather_0 rfl (lv_at hl 0 rfl) ?_
  refine lv_iconst (v := 0) E.1 E.2.1 dX13_shownWeather_1 (by decide) ?_
  refine wPut (world' := (w_X13 g h0 h1 h2 h3 h4 h5 h6 h7 h8 h9 h10 h11 h12 h13 x_g x_kept x_saved x_before x_was x_region x_parts x_next x_ways x_more x_whole x_isSaved x_changes x_isWithin 0 x_input x_length x_fault x_failed x_signs x_signMany x_at x_told x_toldMany)) E hK in_X13_shownWeather_X13 tyX13 tyX13_ok nmX13 hW 14 lk_X13_shownWeather_58 0 rfl rfl (by decide) rfl rfl rfl rfl rfl (Nat.le_of_ble_eq_true rfl) dX13_shownWeather_2 rfl (fun H locs hW => ?_)
  refine lv_aload_n E.1 E.2.1 dX13_shownWeather_5 rfl (lv_at hl 0 rfl) ?_
  obtain ⟨r6, hc, h⟩ := bx h
  refine goI (world' := (w_X13 g h0 h1 h2 h3 h4 h5 h6 h7 h8 h9 h10 h11 h12 h13 x_g x_kept x_saved x_before x_was r6.2 x_parts x_next x_ways x_more x_whole x_isSaved x_changes x_isWithin 0 x_input x_length x_fault x_failed x_signs x_signMany x_at x_told x_toldMany)) hW hA (is := [0, 1, 2, 3, 4, 5, 6, 7, 8, 9, 10, 11, 12, 13]) rfl (goV (rest := []) E hK hW [0, 1, 2, 3, 4, 5, 6, 7, 8, 9, 10, 11, 12, 13] rfl rfl (c_X13_shown l g h0 h1 h2 h3 h4 h5 h6 h7 h8 h9 h10 h11 h12 h13 x_g x_kept x_saved x_before x_was x_region x_parts x_next x_ways x_more x_whole x_isSaved x_changes x_isWithin 0 x_input x_length x_fault x_failed x_signs x_signMany x_at x_told x_toldMany (hf := hc) H.size) (cwV 0 hts gX13_shownWeather_X13_shown rfl rfl rfl (by decide +kernel) ⟨Nat.le_of_ble_eq_true rfl, Nat.le_of_ble_eq_true rfl⟩) 0 rfl rfl rfl hl.1 rfl rfl (Nat.le_of_ble_eq_true rfl) dX13_shownWeather_6 ⟨Nat.zero_le _, Nat.zero_le _⟩) rfl rfl (fun H locs hW => ?_)
  obtain rfl := Option.some.inj h
  exact endI E rfl hW dX13_shownWeather_9
theorem c_X13_shownWeather (l : Launch) (g : GE) (h0 h1 h2 h3 h4 h5 h6 h7 h8 h9 h10 h11 h12 h13 : Nat) (x_g : Nat → Int32) (x_kept : Nat → Int32) (x_saved : Nat → Int32) (x_before : Nat → Int32) (x_was : Nat → Int32) (x_region : Nat → Int32) (x_parts : Nat → Int64) (x_next : Nat → Int64) (x_ways : Nat → Int32) (x_more : Nat → Int32) (x_whole : Int64) (x_isSaved : Int32) (x_changes : Int32) (x_isWithin : Int32) (x_code : Int32) (x_input : Nat → Int32) (x_length : Int32) (x_fault : Int32) (x_failed : Int32) (x_signs : Nat → Int32) (x_signMany : Int32) (x_at : Int32) (x_told : Nat → Int32) (x_toldMany : Int32) {res : Int32 × (Nat → Int32) × Int32} (hf : f_X13_shownWeather x_g x_region x_code = some res) : CI l yX13_shownWeather wsX13_shownWeather rm_X13_shownWeather g [.ref h0] (w_X13 g h0 h1 h2 h3 h4 h5 h6 h7 h8 h9 h10 h11 h12 h13 x_g x_kept x_saved x_before x_was x_region x_parts x_next x_ways x_more x_whole x_isSaved x_changes x_isWithin x_code x_input x_length x_fault x_failed x_signs x_signMany x_at x_told x_toldMany) (w_X13 g h0 h1 h2 h3 h4 h5 h6 h7 h8 h9 h10 h11 h12 h13 x_g x_kept x_saved x_before x_was res.2.1 x_parts x_next x_ways x_more x_whole x_isSaved x_changes x_isWithin res.2.2 x_input x_length x_fault x_failed x_signs x_signMany x_at x_told x_toldMany) res.1 :=
  mkI (cc := cX13_shownWeather) (maxL := 1) (by decide) rfl (Nat.le_of_ble_eq_true rfl) (fun p e s m args below meth c A H locs ls E hK hA hW hl => k_X13_shownWeather_0 E hK hA hf hW hl)

/-! PaperStormModel.of(II)I X13_of -/
abbrev rm_X13_of : Room := { frames := 0, cells := 0, slots := 0, locals := 0 }
theorem in_X13_of_X13 : ∀ w ∈ wsX130, w ∈ wsX13_of := by decide +kernel
theorem lk_X13_of_7 : Cond.fieldLink RX13 7 "PaperStormModel" "g" "[I" ∈ wsX13_of := by decide +kernel
noncomputable def f_X13_of (x_g : Nat → Int32) (a1 : Int32) (a2 : Int32) : Option (Int32) :=
  if ((48 + (2 * a1)) + a2) < 0 ∨ 60 ≤ ((48 + (2 * a1)) + a2).toNatClampNeg then none else some ((x_g ((48 + (2 * a1)) + a2).toNatClampNeg))
abbrev G_X13_of (p : Program) (l : Launch) (e : Env) (s : State) (m : MethodId) (args : Array Value) (below : List Frame) (meth : Method) (c : Code) (g : GE) (A : Nat → Prop) (h0 h1 h2 h3 h4 h5 h6 h7 h8 h9 h10 h11 h12 h13 : Nat) (x_g : Nat → Int32) (x_kept : Nat → Int32) (x_saved : Nat → Int32) (x_before : Nat → Int32) (x_was : Nat → Int32) (x_region : Nat → Int32) (x_parts : Nat → Int64) (x_next : Nat → Int64) (x_ways : Nat → Int32) (x_more : Nat → Int32) (x_whole : Int64) (x_isSaved : Int32) (x_changes : Int32) (x_isWithin : Int32) (x_code : Int32) (x_input : Nat → Int32) (x_length : Int32) (x_fault : Int32) (x_failed : Int32) (x_signs : Nat → Int32) (x_signMany : Int32) (x_at : Int32) (x_told : Nat → Int32) (x_toldMany : Int32) (res : Int32) (H : Heap) (locs : List Loc) (pc : Nat) (ls : Array Slot) (st : List Value) : Prop := W p l e (headSpec wsX13_of rm_X13_of).room s m args below meth c H locs 0 0 (MQ below (PoI g A (w_X13 g h0 h1 h2 h3 h4 h5 h6 h7 h8 h9 h10 h11 h12 h13 x_g x_kept x_saved x_before x_was x_region x_parts x_next x_ways x_more x_whole x_isSaved x_changes x_isWithin x_code x_input x_length x_fault x_failed x_signs x_signMany x_at x_told x_toldMany) res) args s 0 0 A) (F0 m pc ls st)
set_option maxHeartbeats 4000000 in
set_option maxRecDepth 100000 in
theorem k_X13_of_0 {p : Program} {l : Launch} {e : Env} {s : State} {m : MethodId} {args : Array Value} {below : List Frame} {meth : Method} {c : Code} {g : GE} {A : Nat → Prop} {h0 h1 h2 h3 h4 h5 h6 h7 h8 h9 h10 h11 h12 h13 : Nat} {x_g : Nat → Int32} {x_kept : Nat → Int32} {x_saved : Nat → Int32} {x_before : Nat → Int32} {x_was : Nat → Int32} {x_region : Nat → Int32} {x_parts : Nat → Int64} {x_next : Nat → Int64} {x_ways : Nat → Int32} {x_more : Nat → Int32} {x_whole : Int64} {x_isSaved : Int32} {x_changes : Int32} {x_isWithin : Int32} {x_code : Int32} {x_input : Nat → Int32} {x_length : Int32} {x_fault : Int32} {x_failed : Int32} {x_signs : Nat → Int32} {x_signMany : Int32} {x_at : Int32} {x_told : Nat → Int32} {x_toldMany : Int32} {res : Int32} {H : Heap} {locs : List Loc} {ls : Array Slot} {a1 : Int32} {a2 : Int32}
    (E : En cX13_of RX13 wsX13_of 3 (some .int) p s m args meth c) (hK : KK g s) (hA : ∀ q, s.heap.size ≤ q → A q) (h : f_X13_of x_g a1 a2 = some res) (hW : Wo g A s H locs (w_X13 g h0 h1 h2 h3 h4 h5 h6 h7 h8 h9 h10 h11 h12 h13 x_g x_kept x_saved x_before x_was x_region x_parts x_next x_ways x_more x_whole x_isSaved x_changes x_isWithin x_code x_input x_length x_fault x_failed x_signs x_signMany x_at x_told x_toldMany)) (hl : lv_has ls 3 [(0, .ref h0), (1, .int a1), (2, .int a2)]) : G_X13_of p l e s m args below meth c g A h0 h1 h2 h3 h4 h5 h6 h7 h8 h9 h10 h11 h12 h13 x_g x_kept x_saved x_before x_was x_region x_parts x_next x_ways x_more x_whole x_isSaved x_changes x_isWithin x_code x_input x_length x_fault x_failed x_signs x_signMany x_at x_told x_toldMany res H locs 0 ls [] := by
  have hts := E.2.2.2.1
  unfold f_X13_of at h
  refine lv_aload_n E.1 E.2.1 dX13_of_0 rfl (lv_at hl 0 rfl) ?_
  refine wGet (v := .ref h1) E hK in_X13_of_X13 hW 0 lk_X13_of_7 0 rfl rfl (by decide) rfl rfl dX13_of_1 ?_
  refine lv_bipush (v := 48) E.1 E.2.1 dX13_of_4 (by decide) ?_
  refine lv_iconst (v := 2) E.1 E.2.1 dX13_of_6 (by decide) ?_
  refine lv_iload_n E.1 E.2.1 dX13_of_7 rfl (lv_at hl 1 rfl) ?_
  refine lv_imul E.1 E.2.1 dX13_of_8 ?_
  refine lv_iadd E.1 E.2.1 dX13_of_9 ?_
  refine lv_iload_n E.1 E.2.1 dX13_of_10 rfl (lv_at hl 2 rfl) ?_
  refine lv_iadd E.1 E.2.1 dX13_of_11 ?_
  obtain ⟨hi12, h⟩ := ox h
  refine wIald E hK hW 1 rfl hi12 dX13_of_12 ?_
  obtain rfl := Option.some.inj h
  exact endI E rfl hW dX13_of_13
theorem c_X13_of (l : Launch) (g : GE) (h0 h1 h2 h3 h4 h5 h6 h7 h8 h9 h10 h11 h12 h13 : Nat) (x_g : Nat → Int32) (x_kept : Nat → Int32) (x_saved : Nat → Int32) (x_before : Nat → Int32) (x_was : Nat → Int32) (x_region : Nat → Int32) (x_parts : Nat → Int64) (x_next : Nat → Int64) (x_ways : Nat → Int32) (x_more : Nat → Int32) (x_whole : Int64) (x_isSaved : Int32) (x_changes : Int32) (x_isWithin : Int32) (x_code : Int32) (x_input : Nat → Int32) (x_length : Int32) (x_fault : Int32) (x_failed : Int32) (x_signs : Nat → Int32) (x_signMany : Int32) (x_at : Int32) (x_told : Nat → Int32) (x_toldMany : Int32) (a1 : Int32) (a2 : Int32) {res : Int32} (hf : f_X13_of x_g a1 a2 = some res) : CI l yX13_of wsX13_of rm_X13_of g [.ref h0, .int a1, .int a2] (w_X13 g h0 h1 h2 h3 h4 h5 h6 h7 h8 h9 h10 h11 h12 h13 x_g x_kept x_saved x_before x_was x_region x_parts x_next x_ways x_more x_whole x_isSaved x_changes x_isWithin x_code x_input x_length x_fault x_failed x_signs x_signMany x_at x_told x_toldMany) (w_X13 g h0 h1 h2 h3 h4 h5 h6 h7 h8 h9 h10 h11 h12 h13 x_g x_kept x_saved x_before x_was x_region x_parts x_next x_ways x_more x_whole x_isSaved x_changes x_isWithin x_code x_input x_length x_fault x_failed x_signs x_signMany x_at x_told x_toldMany) res :=
  mkI (cc := cX13_of) (maxL := 3) (by decide) rfl (Nat.le_of_ble_eq_true rfl) (fun p e s m args below meth c A H locs ls E hK hA hW hl => k_X13_of_0 E hK hA hf hW hl)

/-! PaperStormModel.isForecast(I)Z X13_isForecast -/
abbrev rm_X13_isForecast : Room := { frames := 1, cells := 0, slots := 0, locals := 22 }
theorem in_X13_isForecast_X13 : ∀ w ∈ wsX130, w ∈ wsX13_isForecast := by decide +kernel
theorem lk_X13_isForecast_7 : Cond.fieldLink RX13 7 "PaperStormModel" "g" "[I" ∈ wsX13_isForecast := by decide +kernel
noncomputable def f_X13_isForecast (x_g : Nat → Int32) (a1 : Int32) : Option (Int32) :=
  (f_X13_in a1 0 ((x_g (3 : Int32).toNatClampNeg) - 1)).bind fun r10 => if ¬ vp_nar .boolean r10 = r10 then none else some (r10)
abbrev G_X13_isForecast (p : Program) (l : Launch) (e : Env) (s : State) (m : MethodId) (args : Array Value) (below : List Frame) (meth : Method) (c : Code) (g : GE) (A : Nat → Prop) (h0 h1 h2 h3 h4 h5 h6 h7 h8 h9 h10 h11 h12 h13 : Nat) (x_g : Nat → Int32) (x_kept : Nat → Int32) (x_saved : Nat → Int32) (x_before : Nat → Int32) (x_was : Nat → Int32) (x_region : Nat → Int32) (x_parts : Nat → Int64) (x_next : Nat → Int64) (x_ways : Nat → Int32) (x_more : Nat → Int32) (x_whole : Int64) (x_isSaved : Int32) (x_changes : Int32) (x_isWithin : Int32) (x_code : Int32) (x_input : Nat → Int32) (x_length : Int32) (x_fault : Int32) (x_failed : Int32) (x_signs : Nat → Int32) (x_signMany : Int32) (x_at : Int32) (x_told : Nat → Int32) (x_toldMany : Int32) (res : Int32) (H : Heap) (locs : List Loc) (pc : Nat) (ls : Array Slot) (st : List Value) : Prop := W p l e (headSpec wsX13_isForecast rm_X13_isForecast).room s m args below meth c H locs 0 0 (MQ below (PoI g A (w_X13 g h0 h1 h2 h3 h4 h5 h6 h7 h8 h9 h10 h11 h12 h13 x_g x_kept x_saved x_before x_was x_region x_parts x_next x_ways x_more x_whole x_isSaved x_changes x_isWithin x_code x_input x_length x_fault x_failed x_signs x_signMany x_at x_told x_toldMany) res) args s 0 0 A) (F0 m pc ls st)
set_option maxHeartbeats 4000000 in
set_option maxRecDepth 100000 in
theorem k_X13_isForecast_0 {p : Program} {l : Launch} {e : Env} {s : State} {m : MethodId} {args : Array Value} {below : List Frame} {meth : Method} {c : Code} {g : GE} {A : Nat → Prop} {h0 h1 h2 h3 h4 h5 h6 h7 h8 h9 h10 h11 h12 h13 : Nat} {x_g : Nat → Int32} {x_kept : Nat → Int32} {x_saved : Nat → Int32} {x_before : Nat → Int32} {x_was : Nat → Int32} {x_region : Nat → Int32} {x_parts : Nat → Int64} {x_next : Nat → Int64} {x_ways : Nat → Int32} {x_more : Nat → Int32} {x_whole : Int64} {x_isSaved : Int32} {x_changes : Int32} {x_isWithin : Int32} {x_code : Int32} {x_input : Nat → Int32} {x_length : Int32} {x_fault : Int32} {x_failed : Int32} {x_signs : Nat → Int32} {x_signMany : Int32} {x_at : Int32} {x_told : Nat → Int32} {x_toldMany : Int32} {res : Int32} {H : Heap} {locs : List Loc} {ls : Array Slot} {a1 : Int32}
    (E : En cX13_isForecast RX13 wsX13_isForecast 2 (some .boolean) p s m args meth c) (hK : KK g s) (hA : ∀ q, s.heap.size ≤ q → A q) (h : f_X13_isForecast x_g a1 = some res) (hW : Wo g A s H locs (w_X13 g h0 h1 h2 h3 h4 h5 h6 h7 h8 h9 h10 h11 h12 h13 x_g x_kept x_saved x_before x_was x_region x_parts x_next x_ways x_more x_whole x_isSaved x_changes x_isWithin x_code x_input x_length x_fault x_failed x_signs x_signMany x_at x_told x_toldMany)) (hl : lv_has ls 2 [(0, .ref h0), (1, .int a1)]) : G_X13_isForecast p l e s m args below meth c g A h0 h1 h2 h3 h4 h5 h6 h7 h8 h9 h10 h11 h12 h13 x_g x_kept x_saved x_before x_was x_region x_parts x_next x_ways x_more x_whole x_isSaved x_changes x_isWithin x_code x_input x_length x_fault x_failed x_signs x_signMany x_at x_told x_toldMany res H locs 0 ls [] := by
  have hts := E.2.2.2.1
  unfold f_X13_isForecast at h
  refine lv_iload_n E.1 E.2.1 dX13_isForecast_0 rfl (lv_at hl 1 rfl) ?_
  refine lv_iconst (v := 0) E.1 E.2.1 dX13_isForecast_1 (by decide) ?_
  refine lv_aload_n E.1 E.2.1 dX13_isForecast_2 rfl (lv_at hl 0 rfl) ?_
  refine wGet (v := .ref h1) E hK in_X13_isForecast_X13 hW 0 lk_X13_isForecast_7 0 rfl rfl (by decide) rfl rfl dX13_isForecast_3 ?_
  refine lv_iconst (v := 3) E.1 E.2.1 dX13_isForecast_6 (by decide) ?_
  refine wIald E hK hW 1 rfl (by decide) dX13_isForecast_7 ?_
  refine lv_iconst (v := 1) E.1 E.2.1 dX13_isForecast_8 (by decide) ?_
  refine lv_isub E.1 E.2.1 dX13_isForecast_9 ?_
  obtain ⟨r10, hc, h⟩ := bx h
  refine goI (world' := (w_X13 g h0 h1 h2 h3 h4 h5 h6 h7 h8 h9 h10 h11 h12 h13 x_g x_kept x_saved x_before x_was x_region x_parts x_next x_ways x_more x_whole x_isSaved x_changes x_isWithin x_code x_input x_length x_fault x_failed x_signs x_signMany x_at x_told x_toldMany)) hW hA (is := []) rfl (goS (rest := []) E hK hW [] rfl rfl (c_X13_in l g a1 0 ((x_g (3 : Int32).toNatClampNeg) - 1) (hf := hc) H.size) (va_cwS 3 hts gX13_isForecast_X13_in rfl rfl rfl (by decide +kernel) ⟨Nat.le_of_ble_eq_true rfl, Nat.le_of_ble_eq_true rfl⟩) hl.1 rfl rfl (Nat.le_of_ble_eq_true rfl) dX13_isForecast_10 ⟨Nat.zero_le _, Nat.zero_le _⟩) rfl rfl (fun H locs hW => ?_)
  obtain ⟨hz, h⟩ := ox h
  obtain rfl := Option.some.inj h
  exact endI E (nar_z (Decidable.not_not.mp hz)) hW dX13_isForecast_13
theorem c_X13_isForecast (l : Launch) (g : GE) (h0 h1 h2 h3 h4 h5 h6 h7 h8 h9 h10 h11 h12 h13 : Nat) (x_g : Nat → Int32) (x_kept : Nat → Int32) (x_saved : Nat → Int32) (x_before : Nat → Int32) (x_was : Nat → Int32) (x_region : Nat → Int32) (x_parts : Nat → Int64) (x_next : Nat → Int64) (x_ways : Nat → Int32) (x_more : Nat → Int32) (x_whole : Int64) (x_isSaved : Int32) (x_changes : Int32) (x_isWithin : Int32) (x_code : Int32) (x_input : Nat → Int32) (x_length : Int32) (x_fault : Int32) (x_failed : Int32) (x_signs : Nat → Int32) (x_signMany : Int32) (x_at : Int32) (x_told : Nat → Int32) (x_toldMany : Int32) (a1 : Int32) {res : Int32} (hf : f_X13_isForecast x_g a1 = some res) : CI l yX13_isForecast wsX13_isForecast rm_X13_isForecast g [.ref h0, .int a1] (w_X13 g h0 h1 h2 h3 h4 h5 h6 h7 h8 h9 h10 h11 h12 h13 x_g x_kept x_saved x_before x_was x_region x_parts x_next x_ways x_more x_whole x_isSaved x_changes x_isWithin x_code x_input x_length x_fault x_failed x_signs x_signMany x_at x_told x_toldMany) (w_X13 g h0 h1 h2 h3 h4 h5 h6 h7 h8 h9 h10 h11 h12 h13 x_g x_kept x_saved x_before x_was x_region x_parts x_next x_ways x_more x_whole x_isSaved x_changes x_isWithin x_code x_input x_length x_fault x_failed x_signs x_signMany x_at x_told x_toldMany) res :=
  mkI (cc := cX13_isForecast) (maxL := 2) (by decide) rfl (Nat.le_of_ble_eq_true rfl) (fun p e s m args below meth c A H locs ls E hK hA hW hl => k_X13_isForecast_0 E hK hA hf hW hl)

/-! PaperStormModel.issue(I)I X13_issue -/
abbrev rm_X13_issue : Room := { frames := 4, cells := 0, slots := 0, locals := 92 }
theorem in_X13_issue_X13 : ∀ w ∈ wsX130, w ∈ wsX13_issue := by decide +kernel
theorem lk_X13_issue_7 : Cond.fieldLink RX13 7 "PaperStormModel" "g" "[I" ∈ wsX13_issue := by decide +kernel
noncomputable def f_X13_issue (x_g : Nat → Int32) (x_kept : Nat → Int32) (x_parts : Nat → Int64) (x_next : Nat → Int64) (x_ways : Nat → Int32) (x_more : Nat → Int32) (x_whole : Int64) (x_changes : Int32) (x_isWithin : Int32) (x_code : Int32) (a1 : Int32) : Option (Int32 × (Nat → Int32) × (Nat → Int32) × (Nat → Int64) × (Nat → Int64) × (Nat → Int32) × (Nat → Int32) × Int64 × Int32 × Int32) :=
  jo (fun (s1_30 : Int32) => (f_X13_fails x_code s1_30).bind fun r30 => if r30.1 = 0 then (f_X13_keeps__g x_g x_kept x_changes x_isWithin r30.2).bind fun r43 => if (48 + (2 * (x_g (3 : Int32).toNatClampNeg))) < 0 ∨ 60 ≤ (48 + (2 * (x_g (3 : Int32).toNatClampNeg))).toNatClampNeg then none else (f_X13_best (upd x_g (48 + (2 * (x_g (3 : Int32).toNatClampNeg))).toNatClampNeg ((x_g (0 : Int32).toNatClampNeg) + a1)) x_parts x_next x_ways x_more x_whole a1).bind fun r81 => if ((48 + (2 * (x_g (3 : Int32).toNatClampNeg))) + 1) < 0 ∨ 60 ≤ ((48 + (2 * (x_g (3 : Int32).toNatClampNeg))) + 1).toNatClampNeg then none else some ((((upd (upd (upd x_g (48 + (2 * (x_g (3 : Int32).toNatClampNeg))).toNatClampNeg ((x_g (0 : Int32).toNatClampNeg) + a1)) ((48 + (2 * (x_g (3 : Int32).toNatClampNeg))) + 1).toNatClampNeg r81.1) (3 : Int32).toNatClampNeg (((upd (upd x_g (48 + (2 * (x_g (3 : Int32).toNatClampNeg))).toNatClampNeg ((x_g (0 : Int32).toNatClampNeg) + a1)) ((48 + (2 * (x_g (3 : Int32).toNatClampNeg))) + 1).toNatClampNeg r81.1) (3 : Int32).toNatClampNeg) + 1)) (3 : Int32).toNatClampNeg) - 1), (upd (upd (upd x_g (48 + (2 * (x_g (3 : Int32).toNatClampNeg))).toNatClampNeg ((x_g (0 : Int32).toNatClampNeg) + a1)) ((48 + (2 * (x_g (3 : Int32).toNatClampNeg))) + 1).toNatClampNeg r81.1) (3 : Int32).toNatClampNeg (((upd (upd x_g (48 + (2 * (x_g (3 : Int32).toNatClampNeg))).toNatClampNeg ((x_g (0 : Int32).toNatClampNeg) + a1)) ((48 + (2 * (x_g (3 : Int32).toNatClampNeg))) + 1).toNatClampNeg r81.1) (3 : Int32).toNatClampNeg) + 1)), r43.1, r81.2.1, r81.2.2.1, r81.2.2.2.1, r81.2.2.2.2.1, r81.2.2.2.2.2, r43.2.1, r43.2.2) else some (0, x_g, x_kept, x_parts, x_next, x_ways, x_more, x_whole, x_changes, r30.2)) (fun j30 => (f_X13_in a1 1 3).bind fun r4 => if r4 = 0 then j30 1 else if (x_g (3 : Int32).toNatClampNeg) = 6 then j30 2 else j30 0)
abbrev G_X13_issue (p : Program) (l : Launch) (e : Env) (s : State) (m : MethodId) (args : Array Value) (below : List Frame) (meth : Method) (c : Code) (g : GE) (A : Nat → Prop) (h0 h1 h2 h3 h4 h5 h6 h7 h8 h9 h10 h11 h12 h13 : Nat) (x_saved : Nat → Int32) (x_before : Nat → Int32) (x_was : Nat → Int32) (x_region : Nat → Int32) (x_isSaved : Int32) (x_isWithin : Int32) (x_input : Nat → Int32) (x_length : Int32) (x_fault : Int32) (x_failed : Int32) (x_signs : Nat → Int32) (x_signMany : Int32) (x_at : Int32) (x_told : Nat → Int32) (x_toldMany : Int32) (res : Int32 × (Nat → Int32) × (Nat → Int32) × (Nat → Int64) × (Nat → Int64) × (Nat → Int32) × (Nat → Int32) × Int64 × Int32 × Int32) (H : Heap) (locs : List Loc) (pc : Nat) (ls : Array Slot) (st : List Value) : Prop := W p l e (headSpec wsX13_issue rm_X13_issue).room s m args below meth c H locs 0 0 (MQ below (PoI g A (w_X13 g h0 h1 h2 h3 h4 h5 h6 h7 h8 h9 h10 h11 h12 h13 res.2.1 res.2.2.1 x_saved x_before x_was x_region res.2.2.2.1 res.2.2.2.2.1 res.2.2.2.2.2.1 res.2.2.2.2.2.2.1 res.2.2.2.2.2.2.2.1 x_isSaved res.2.2.2.2.2.2.2.2.1 x_isWithin res.2.2.2.2.2.2.2.2.2 x_input x_length x_fault x_failed x_signs x_signMany x_at x_told x_toldMany) res.1) args s 0 0 A) (F0 m pc ls st)
set_option maxHeartbeats 4000000 in
set_option maxRecDepth 100000 in
theorem k_X13_issue_0 {p : Program} {l : Launch} {e : Env} {s : State} {m : MethodId} {args : Array Value} {below : List Frame} {meth : Method} {c : Code} {g : GE} {A : Nat → Prop} {h0 h1 h2 h3 h4 h5 h6 h7 h8 h9 h10 h11 h12 h13 : Nat} {x_g : Nat → Int32} {x_kept : Nat → Int32} {x_saved : Nat → Int32} {x_before : Nat → Int32} {x_was : Nat → Int32} {x_region : Nat → Int32} {x_parts : Nat → Int64} {x_next : Nat → Int64} {x_ways : Nat → Int32} {x_more : Nat → Int32} {x_whole : Int64} {x_isSaved : Int32} {x_changes : Int32} {x_isWithin : Int32} {x_code : Int32} {x_input : Nat → Int32} {x_length : Int32} {x_fault : Int32} {x_failed : Int32} {x_signs : Nat → Int32} {x_signMany : Int32} {x_at : Int32} {x_told : Nat → Int32} {x_toldMany : Int32} {res : Int32 × (Nat → Int32) × (Nat → Int32) × (Nat → Int64) × (Nat → Int64) × (Nat → Int32) × (Nat → Int32) × Int64 × Int32 × Int32} {H : Heap} {locs : List Loc} {ls : Array Slot} {a1 : Int32}
    (E : En cX13_issue RX13 wsX13_issue 3 (some .int) p s m args meth c) (hK : KK g s) (hA : ∀ q, s.heap.size ≤ q → A q) (h : f_X13_issue x_g x_kept x_parts x_next x_ways x_more x_whole x_changes x_isWithin x_code a1 = some res) (hW : Wo g A s H locs (w_X13 g h0 h1 h2 h3 h4 h5 h6 h7 h8 h9 h10 h11 h12 h13 x_g x_kept x_saved x_before x_was x_region x_parts x_next x_ways x_more x_whole x_isSaved x_changes x_isWithin x_code x_input x_length x_fault x_failed x_signs x_signMany x_at x_told x_toldMany)) (hl : lv_has ls 3 [(0, .ref h0), (1, .int a1)]) : G_X13_issue p l e s m args below meth c g A h0 h1 h2 h3 h4 h5 h6 h7 h8 h9 h10 h11 h12 h13 x_saved x_before x_was x_region x_isSaved x_isWithin x_input x_length x_fault x_failed x_signs x_signMany x_at x_told x_toldMany res H locs 0 ls [] := by
  have hts := E.2.2.2.1
  unfold f_X13_issue at h
  obtain ⟨j30, hj30, h⟩ := jox1 h
  have J30 : ∀ (s1_30 : Int32) (H : Heap) (locs : List Loc) (ls : Array Slot), j30 s1_30 = some res → Wo g A s H locs (w_X13 g h0 h1 h2 h3 h4 h5 h6 h7 h8 h9 h10 h11 h12 h13 x_g x_kept x_saved x_before x_was x_region x_parts x_next x_ways x_more x_whole x_isSaved x_changes x_isWithin x_code x_input x_length x_fault x_failed x_signs x_signMany x_at x_told x_toldMany) → lv_has ls 3 [(0, .ref h0), (1, .int a1)] → G_X13_issue p l e s m args below meth c g A h0 h1 h2 h3 h4 h5 h6 h7 h8 h9 h10 h11 h12 h13 x_saved x_before x_was x_region x_isSaved x_isWithin x_input x_length x_fault x_failed x_signs x_signMany x_at x_told x_toldMany res H locs 30 ls [.int s1_30, .ref h0] := by
    intro s1_30 H locs ls h hW hl
    rw [hj30] at h
    obtain ⟨r30, hc, h⟩ := bx h
    refine goI (world' := (w_X13 g h0 h1 h2 h3 h4 h5 h6 h7 h8 h9 h10 h11 h12 h13 x_g x_kept x_saved x_before x_was x_region x_parts x_next x_ways x_more x_whole x_isSaved x_changes x_isWithin r30.2 x_input x_length x_fault x_failed x_signs x_signMany x_at x_told x_toldMany)) hW hA (is := [0, 1, 2, 3, 4, 5, 6, 7, 8, 9, 10, 11, 12, 13]) rfl (goV (rest := []) E hK hW [0, 1, 2, 3, 4, 5, 6, 7, 8, 9, 10, 11, 12, 13] rfl rfl (c_X13_fails l g h0 h1 h2 h3 h4 h5 h6 h7 h8 h9 h10 h11 h12 h13 x_g x_kept x_saved x_before x_was x_region x_parts x_next x_ways x_more x_whole x_isSaved x_changes x_isWithin x_code x_input x_length x_fault x_failed x_signs x_signMany x_at x_told x_toldMany s1_30 (hf := hc) H.size) (cwV 1 hts gX13_issue_X13_fails rfl rfl rfl (by decide +kernel) ⟨Nat.le_of_ble_eq_true rfl, Nat.le_of_ble_eq_true rfl⟩) 0 rfl rfl rfl hl.1 rfl rfl (Nat.le_of_ble_eq_true rfl) dX13_issue_30 ⟨Nat.zero_le _, Nat.zero_le _⟩) rfl rfl (fun H locs hW => ?_)
    refine lv_if_eq (tgt := 38) E.1 E.2.1 dX13_issue_33 (by decide) (fun c33 => ?_) (fun c33 => ?_)
    · have h := it c33 h
      refine lv_aload_n E.1 E.2.1 dX13_issue_38 rfl (lv_at hl 0 rfl) ?_
      refine lv_aload_n E.1 E.2.1 dX13_issue_39 rfl (lv_at hl 0 rfl) ?_
      refine wGet (v := .ref h1) E hK in_X13_issue_X13 hW 0 lk_X13_issue_7 0 rfl rfl (by decide) rfl rfl dX13_issue_40 ?_
      obtain ⟨r43, hc, h⟩ := bx h
      refine goU (world' := (w_X13 g h0 h1 h2 h3 h4 h5 h6 h7 h8 h9 h10 h11 h12 h13 x_g r43.1 x_saved x_before x_was x_region x_parts x_next x_ways x_more x_whole x_isSaved r43.2.1 x_isWithin r43.2.2 x_input x_length x_fault x_failed x_signs x_signMany x_at x_told x_toldMany)) hW hA (is := [0, 1, 2, 3, 4, 5, 6, 7, 8, 9, 10, 11, 12, 13]) rfl (goV (rest := []) E hK hW [0, 1, 2, 3, 4, 5, 6, 7, 8, 9, 10, 11, 12, 13] rfl rfl (c_X13_keeps__g l g h0 h1 h2 h3 h4 h5 h6 h7 h8 h9 h10 h11 h12 h13 x_g x_kept x_saved x_before x_was x_region x_parts x_next x_ways x_more x_whole x_isSaved x_changes x_isWithin r30.2 x_input x_length x_fault x_failed x_signs x_signMany x_at x_told x_toldMany (hf := hc) H.size) (cwV 1 hts gX13_issue_X13_keeps rfl rfl rfl (by decide +kernel) ⟨Nat.le_of_ble_eq_true rfl, Nat.le_of_ble_eq_true rfl⟩) 0 rfl rfl rfl hl.1 rfl rfl (Nat.le_of_ble_eq_true rfl) dX13_issue_43 ⟨Nat.zero_le _, Nat.zero_le _⟩) rfl rfl (fun H locs hW => ?_)
      refine lv_bipush (v := 48) E.1 E.2.1 dX13_issue_46 (by decide) ?_
      refine lv_iconst (v := 2) E.1 E.2.1 dX13_issue_48 (by decide) ?_
      refine lv_aload_n E.1 E.2.1 dX13_issue_49 rfl (lv_at hl 0 rfl) ?_
      refine wGet (v := .ref h1) E hK in_X13_issue_X13 hW 0 lk_X13_issue_7 0 rfl rfl (by decide) rfl rfl dX13_issue_50 ?_
      refine lv_iconst (v := 3) E.1 E.2.1 dX13_issue_53 (by decide) ?_
      refine wIald E hK hW 1 rfl (by decide) dX13_issue_54 ?_
      refine lv_imul E.1 E.2.1 dX13_issue_55 ?_
      refine lv_iadd E.1 E.2.1 dX13_issue_56 ?_
      refine lv_istore_n (lv' := [(2, .int (48 + (2 * (x_g (3 : Int32).toNatClampNeg)))), (0, .ref h0), (1, .int a1)]) E.1 E.2.1 dX13_issue_57 rfl hl (by decide) rfl (fun ls hl => ?_)
      refine lv_aload_n E.1 E.2.1 dX13_issue_58 rfl (lv_at hl 1 rfl) ?_
      refine wGet (v := .ref h1) E hK in_X13_issue_X13 hW 0 lk_X13_issue_7 0 rfl rfl (by decide) rfl rfl dX13_issue_59 ?_
      refine lv_iload_n E.1 E.2.1 dX13_issue_62 rfl (lv_at hl 0 rfl) ?_
      refine lv_aload_n E.1 E.2.1 dX13_issue_63 rfl (lv_at hl 1 rfl) ?_
      refine wGet (v := .ref h1) E hK in_X13_issue_X13 hW 0 lk_X13_issue_7 0 rfl rfl (by decide) rfl rfl dX13_issue_64 ?_
      refine lv_iconst (v := 0) E.1 E.2.1 dX13_issue_67 (by decide) ?_
      refine wIald E hK hW 1 rfl (by decide) dX13_issue_68 ?_
      refine lv_iload_n E.1 E.2.1 dX13_issue_69 rfl (lv_at hl 2 rfl) ?_
      refine lv_iadd E.1 E.2.1 dX13_issue_70 ?_
      obtain ⟨hi71, h⟩ := ox h
      refine wIast (world' := (w_X13 g h0 h1 h2 h3 h4 h5 h6 h7 h8 h9 h10 h11 h12 h13 (upd x_g (48 + (2 * (x_g (3 : Int32).toNatClampNeg))).toNatClampNeg ((x_g (0 : Int32).toNatClampNeg) + a1)) r43.1 x_saved x_before x_was x_region x_parts x_next x_ways x_more x_whole x_isSaved r43.2.1 x_isWithin r43.2.2 x_input x_length x_fault x_failed x_signs x_signMany x_at x_told x_toldMany)) E hK hW 1 rfl hi71 dX13_issue_71 rfl (fun H locs hW => ?_)
      refine lv_aload_n E.1 E.2.1 dX13_issue_72 rfl (lv_at hl 1 rfl) ?_
      refine wGet (v := .ref h1) E hK in_X13_issue_X13 hW 0 lk_X13_issue_7 0 rfl rfl (by decide) rfl rfl dX13_issue_73 ?_
      refine lv_iload_n E.1 E.2.1 dX13_issue_76 rfl (lv_at hl 0 rfl) ?_
      refine lv_iconst (v := 1) E.1 E.2.1 dX13_issue_77 (by decide) ?_
      refine lv_iadd E.1 E.2.1 dX13_issue_78 ?_
      refine lv_aload_n E.1 E.2.1 dX13_issue_79 rfl (lv_at hl 1 rfl) ?_
      refine lv_iload_n E.1 E.2.1 dX13_issue_80 rfl (lv_at hl 2 rfl) ?_
      obtain ⟨r81, hc, h⟩ := bx h
      refine goI (world' := (w_X13 g h0 h1 h2 h3 h4 h5 h6 h7 h8 h9 h10 h11 h12 h13 (upd x_g (48 + (2 * (x_g (3 : Int32).toNatClampNeg))).toNatClampNeg ((x_g (0 : Int32).toNatClampNeg) + a1)) r43.1 x_saved x_before x_was x_region r81.2.1 r81.2.2.1 r81.2.2.2.1 r81.2.2.2.2.1 r81.2.2.2.2.2 x_isSaved r43.2.1 x_isWithin r43.2.2 x_input x_length x_fault x_failed x_signs x_signMany x_at x_told x_toldMany)) hW hA (is := [0, 1, 2, 3, 4, 5, 6, 7, 8, 9, 10, 11, 12, 13]) rfl (goV (rest := [.int ((48 + (2 * (x_g (3 : Int32).toNatClampNeg))) + 1), .ref h1]) E hK hW [0, 1, 2, 3, 4, 5, 6, 7, 8, 9, 10, 11, 12, 13] rfl rfl (c_X13_best l g h0 h1 h2 h3 h4 h5 h6 h7 h8 h9 h10 h11 h12 h13 (upd x_g (48 + (2 * (x_g (3 : Int32).toNatClampNeg))).toNatClampNeg ((x_g (0 : Int32).toNatClampNeg) + a1)) r43.1 x_saved x_before x_was x_region x_parts x_next x_ways x_more x_whole x_isSaved r43.2.1 x_isWithin r43.2.2 x_input x_length x_fault x_failed x_signs x_signMany x_at x_told x_toldMany a1 (hf := hc) H.size) (cwV 1 hts gX13_issue_X13_best rfl rfl rfl (by decide +kernel) ⟨Nat.le_of_ble_eq_true rfl, Nat.le_of_ble_eq_true rfl⟩) 0 rfl rfl rfl hl.1 rfl rfl (Nat.le_of_ble_eq_true rfl) dX13_issue_81 ⟨Nat.zero_le _, Nat.zero_le _⟩) rfl rfl (fun H locs hW => ?_)
      obtain ⟨hi84, h⟩ := ox h
      refine wIast (world' := (w_X13 g h0 h1 h2 h3 h4 h5 h6 h7 h8 h9 h10 h11 h12 h13 (upd (upd x_g (48 + (2 * (x_g (3 : Int32).toNatClampNeg))).toNatClampNeg ((x_g (0 : Int32).toNatClampNeg) + a1)) ((48 + (2 * (x_g (3 : Int32).toNatClampNeg))) + 1).toNatClampNeg r81.1) r43.1 x_saved x_before x_was x_region r81.2.1 r81.2.2.1 r81.2.2.2.1 r81.2.2.2.2.1 r81.2.2.2.2.2 x_isSaved r43.2.1 x_isWithin r43.2.2 x_input x_length x_fault x_failed x_signs x_signMany x_at x_told x_toldMany)) E hK hW 1 rfl hi84 dX13_issue_84 rfl (fun H locs hW => ?_)
      refine lv_aload_n E.1 E.2.1 dX13_issue_85 rfl (lv_at hl 1 rfl) ?_
      refine wGet (v := .ref h1) E hK in_X13_issue_X13 hW 0 lk_X13_issue_7 0 rfl rfl (by decide) rfl rfl dX13_issue_86 ?_
      refine lv_iconst (v := 3) E.1 E.2.1 dX13_issue_89 (by decide) ?_
      refine lv_dup2_11 E.1 E.2.1 dX13_issue_90 rfl rfl ?_
      refine wIald E hK hW 1 rfl (by decide) dX13_issue_91 ?_
      refine lv_iconst (v := 1) E.1 E.2.1 dX13_issue_92 (by decide) ?_
      refine lv_iadd E.1 E.2.1 dX13_issue_93 ?_
      refine wIast (world' := (w_X13 g h0 h1 h2 h3 h4 h5 h6 h7 h8 h9 h10 h11 h12 h13 (upd (upd (upd x_g (48 + (2 * (x_g (3 : Int32).toNatClampNeg))).toNatClampNeg ((x_g (0 : Int32).toNatClampNeg) + a1)) ((48 + (2 * (x_g (3 : Int32).toNatClampNeg))) + 1).toNatClampNeg r81.1) (3 : Int32).toNatClampNeg (((upd (upd x_g (48 + (2 * (x_g (3 : Int32).toNatClampNeg))).toNatClampNeg ((x_g (0 : Int32).toNatClampNeg) + a1)) ((48 + (2 * (x_g (3 : Int32).toNatClampNeg))) + 1).toNatClampNeg r81.1) (3 : Int32).toNatClampNeg) + 1)) r43.1 x_saved x_before x_was x_region r81.2.1 r81.2.2.1 r81.2.2.2.1 r81.2.2.2.2.1 r81.2.2.2.2.2 x_isSaved r43.2.1 x_isWithin r43.2.2 x_input x_length x_fault x_failed x_signs x_signMany x_at x_told x_toldMany)) E hK hW 1 rfl (by decide) dX13_issue_94 rfl (fun H locs hW => ?_)
      refine lv_aload_n E.1 E.2.1 dX13_issue_95 rfl (lv_at hl 1 rfl) ?_
      refine wGet (v := .ref h1) E hK in_X13_issue_X13 hW 0 lk_X13_issue_7 0 rfl rfl (by decide) rfl rfl dX13_issue_96 ?_
      refine lv_iconst (v := 3) E.1 E.2.1 dX13_issue_99 (by decide) ?_
      refine wIald E hK hW 1 rfl (by decide) dX13_issue_100 ?_
      refine lv_iconst (v := 1) E.1 E.2.1 dX13_issue_101 (by decide) ?_
      refine lv_isub E.1 E.2.1 dX13_issue_102 ?_
      obtain rfl := Option.some.inj h
      exact endI E rfl hW dX13_issue_103
    · have h := ie c33 h
      refine lv_iconst (v := 0) E.1 E.2.1 dX13_issue_36 (by decide) ?_
      obtain rfl := Option.some.inj h
      exact endI E rfl hW dX13_issue_37
  refine lv_aload_n E.1 E.2.1 dX13_issue_0 rfl (lv_at hl 0 rfl) ?_
  refine lv_iload_n E.1 E.2.1 dX13_issue_1 rfl (lv_at hl 1 rfl) ?_
  refine lv_iconst (v := 1) E.1 E.2.1 dX13_issue_2 (by decide) ?_
  refine lv_iconst (v := 3) E.1 E.2.1 dX13_issue_3 (by decide) ?_
  obtain ⟨r4, hc, h⟩ := bx h
  refine goI (world' := (w_X13 g h0 h1 h2 h3 h4 h5 h6 h7 h8 h9 h10 h11 h12 h13 x_g x_kept x_saved x_before x_was x_region x_parts x_next x_ways x_more x_whole x_isSaved x_changes x_isWithin x_code x_input x_length x_fault x_failed x_signs x_signMany x_at x_told x_toldMany)) hW hA (is := []) rfl (goS (rest := [.ref h0]) E hK hW [] rfl rfl (c_X13_in l g a1 1 3 (hf := hc) H.size) (va_cwS 3 hts gX13_issue_X13_in rfl rfl rfl (by decide +kernel) ⟨Nat.le_of_ble_eq_true rfl, Nat.le_of_ble_eq_true rfl⟩) hl.1 rfl rfl (Nat.le_of_ble_eq_true rfl) dX13_issue_4 ⟨Nat.zero_le _, Nat.zero_le _⟩) rfl rfl (fun H locs hW => ?_)
  refine lv_if_ne (tgt := 14) E.1 E.2.1 dX13_issue_7 (by decide) (fun c7 => ?_) (fun c7 => ?_)
  · have h := ie c7 h
    refine lv_aload_n E.1 E.2.1 dX13_issue_14 rfl (lv_at hl 0 rfl) ?_
    refine wGet (v := .ref h1) E hK in_X13_issue_X13 hW 0 lk_X13_issue_7 0 rfl rfl (by decide) rfl rfl dX13_issue_15 ?_
    refine lv_iconst (v := 3) E.1 E.2.1 dX13_issue_18 (by decide) ?_
    refine wIald E hK hW 1 rfl (by decide) dX13_issue_19 ?_
    refine lv_bipush (v := 6) E.1 E.2.1 dX13_issue_20 (by decide) ?_
    refine lv_icmp_ne (tgt := 29) E.1 E.2.1 dX13_issue_22 (by decide) (fun c22 => ?_) (fun c22 => ?_)
    · have h := ie c22 h
      refine lv_iconst (v := 0) E.1 E.2.1 dX13_issue_29 (by decide) ?_
      exact J30 0 H locs ls h hW (lv_sub hl [0, 1] rfl)
    · have h := it c22 h
      refine lv_iconst (v := 2) E.1 E.2.1 dX13_issue_25 (by decide) ?_
      refine lv_goto (tgt := 30) E.1 E.2.1 dX13_issue_26 (by decide) ?_
      exact J30 2 H locs ls h hW (lv_sub hl [0, 1] rfl)
  · have h := it c7 h
    refine lv_iconst (v := 1) E.1 E.2.1 dX13_issue_10 (by decide) ?_
    refine lv_goto (tgt := 30) E.1 E.2.1 dX13_issue_11 (by decide) ?_
    exact J30 1 H locs ls h hW (lv_sub hl [0, 1] rfl)
theorem c_X13_issue (l : Launch) (g : GE) (h0 h1 h2 h3 h4 h5 h6 h7 h8 h9 h10 h11 h12 h13 : Nat) (x_g : Nat → Int32) (x_kept : Nat → Int32) (x_saved : Nat → Int32) (x_before : Nat → Int32) (x_was : Nat → Int32) (x_region : Nat → Int32) (x_parts : Nat → Int64) (x_next : Nat → Int64) (x_ways : Nat → Int32) (x_more : Nat → Int32) (x_whole : Int64) (x_isSaved : Int32) (x_changes : Int32) (x_isWithin : Int32) (x_code : Int32) (x_input : Nat → Int32) (x_length : Int32) (x_fault : Int32) (x_failed : Int32) (x_signs : Nat → Int32) (x_signMany : Int32) (x_at : Int32) (x_told : Nat → Int32) (x_toldMany : Int32) (a1 : Int32) {res : Int32 × (Nat → Int32) × (Nat → Int32) × (Nat → Int64) × (Nat → Int64) × (Nat → Int32) × (Nat → Int32) × Int64 × Int32 × Int32} (hf : f_X13_issue x_g x_kept x_parts x_next x_ways x_more x_whole x_changes x_isWithin x_code a1 = some res) : CI l yX13_issue wsX13_issue rm_X13_issue g [.ref h0, .int a1] (w_X13 g h0 h1 h2 h3 h4 h5 h6 h7 h8 h9 h10 h11 h12 h13 x_g x_kept x_saved x_before x_was x_region x_parts x_next x_ways x_more x_whole x_isSaved x_changes x_isWithin x_code x_input x_length x_fault x_failed x_signs x_signMany x_at x_told x_toldMany) (w_X13 g h0 h1 h2 h3 h4 h5 h6 h7 h8 h9 h10 h11 h12 h13 res.2.1 res.2.2.1 x_saved x_before x_was x_region res.2.2.2.1 res.2.2.2.2.1 res.2.2.2.2.2.1 res.2.2.2.2.2.2.1 res.2.2.2.2.2.2.2.1 x_isSaved res.2.2.2.2.2.2.2.2.1 x_isWithin res.2.2.2.2.2.2.2.2.2 x_input x_length x_fault x_failed x_signs x_signMany x_at x_told x_toldMany) res.1 :=
  mkI (cc := cX13_issue) (maxL := 3) (by decide) rfl (Nat.le_of_ble_eq_true rfl) (fun p e s m args below meth c A H locs ls E hK hA hW hl => k_X13_issue_0 E hK hA hf hW hl)

/-! PaperStormModel.drops(I)V X13_drops -/
abbrev rm_X13_drops : Room := { frames := 0, cells := 0, slots := 0, locals := 0 }
theorem in_X13_drops_X13 : ∀ w ∈ wsX130, w ∈ wsX13_drops := by decide +kernel
theorem lk_X13_drops_7 : Cond.fieldLink RX13 7 "PaperStormModel" "g" "[I" ∈ wsX13_drops := by decide +kernel
noncomputable def f_X13_drops_17 (z52 : (Nat → Int32) → Option ((Nat → Int32))) : Nat → Int32 → (Nat → Int32) → Option ((Nat → Int32))
  | 0, _, _ => none
  | n + 1, l2_17, x_g_17 => if (48 + (2 * (x_g_17 (3 : Int32).toNatClampNeg))) ≤ l2_17 then z52 x_g_17 else if (l2_17 + 2) < 0 ∨ 60 ≤ (l2_17 + 2).toNatClampNeg then none else if l2_17 < 0 ∨ 60 ≤ l2_17.toNatClampNeg then none else f_X13_drops_17 z52 n (l2_17 + 1) (upd x_g_17 l2_17.toNatClampNeg (x_g_17 (l2_17 + 2).toNatClampNeg))
noncomputable def f_X13_drops (x_g : Nat → Int32) (a1 : Int32) : Option ((Nat → Int32)) :=
  f_X13_drops_17 (fun x_g_52e => if (48 + (2 * (x_g_52e (3 : Int32).toNatClampNeg))) < 0 ∨ 60 ≤ (48 + (2 * (x_g_52e (3 : Int32).toNatClampNeg))).toNatClampNeg then none else if ((48 + (2 * ((upd x_g_52e (48 + (2 * (x_g_52e (3 : Int32).toNatClampNeg))).toNatClampNeg 0) (3 : Int32).toNatClampNeg))) + 1) < 0 ∨ 60 ≤ ((48 + (2 * ((upd x_g_52e (48 + (2 * (x_g_52e (3 : Int32).toNatClampNeg))).toNatClampNeg 0) (3 : Int32).toNatClampNeg))) + 1).toNatClampNeg then none else some ((upd (upd x_g_52e (48 + (2 * (x_g_52e (3 : Int32).toNatClampNeg))).toNatClampNeg 0) ((48 + (2 * ((upd x_g_52e (48 + (2 * (x_g_52e (3 : Int32).toNatClampNeg))).toNatClampNeg 0) (3 : Int32).toNatClampNeg))) + 1).toNatClampNeg 0))) 1000 (48 + (2 * a1)) (upd x_g (3 : Int32).toNatClampNeg ((x_g (3 : Int32).toNatClampNeg) - 1))
abbrev G_X13_drops (p : Program) (l : Launch) (e : Env) (s : State) (m : MethodId) (args : Array Value) (below : List Frame) (meth : Method) (c : Code) (g : GE) (A : Nat → Prop) (h0 h1 h2 h3 h4 h5 h6 h7 h8 h9 h10 h11 h12 h13 : Nat) (x_kept : Nat → Int32) (x_saved : Nat → Int32) (x_before : Nat → Int32) (x_was : Nat → Int32) (x_region : Nat → Int32) (x_parts : Nat → Int64) (x_next : Nat → Int64) (x_ways : Nat → Int32) (x_more : Nat → Int32) (x_whole : Int64) (x_isSaved : Int32) (x_changes : Int32) (x_isWithin : Int32) (x_code : Int32) (x_input : Nat → Int32) (x_length : Int32) (x_fault : Int32) (x_failed : Int32) (x_signs : Nat → Int32) (x_signMany : Int32) (x_at : Int32) (x_told : Nat → Int32) (x_toldMany : Int32) (res : (Nat → Int32)) (H : Heap) (locs : List Loc) (pc : Nat) (ls : Array Slot) (st : List Value) : Prop := W p l e (headSpec wsX13_drops rm_X13_drops).room s m args below meth c H locs 0 0 (MQ below (PoV g A (w_X13 g h0 h1 h2 h3 h4 h5 h6 h7 h8 h9 h10 h11 h12 h13 res x_kept x_saved x_before x_was x_region x_parts x_next x_ways x_more x_whole x_isSaved x_changes x_isWithin x_code x_input x_length x_fault x_failed x_signs x_signMany x_at x_told x_toldMany)) args s 0 0 A) (F0 m pc ls st)
set_option maxHeartbeats 4000000 in
set_option maxRecDepth 100000 in
theorem k_X13_drops_17 {p : Program} {l : Launch} {e : Env} {s : State} {m : MethodId} {args : Array Value} {below : List Frame} {meth : Method} {c : Code} {g : GE} {A : Nat → Prop} {h0 h1 h2 h3 h4 h5 h6 h7 h8 h9 h10 h11 h12 h13 : Nat} {x_kept : Nat → Int32} {x_saved : Nat → Int32} {x_before : Nat → Int32} {x_was : Nat → Int32} {x_region : Nat → Int32} {x_parts : Nat → Int64} {x_next : Nat → Int64} {x_ways : Nat → Int32} {x_more : Nat → Int32} {x_whole : Int64} {x_isSaved : Int32} {x_changes : Int32} {x_isWithin : Int32} {x_code : Int32} {x_input : Nat → Int32} {x_length : Int32} {x_fault : Int32} {x_failed : Int32} {x_signs : Nat → Int32} {x_signMany : Int32} {x_at : Int32} {x_told : Nat → Int32} {x_toldMany : Int32} {res : (Nat → Int32)} {z52 : (Nat → Int32) → Option ((Nat → Int32))}
    (E : En cX13_drops RX13 wsX13_drops 3 none p s m args meth c) (hK : KK g s) (hA : ∀ q, s.heap.size ≤ q → A q)
    (hz52 : ∀ (x_g_52e : Nat → Int32) (H : Heap) (locs : List Loc) (ls : Array Slot), z52 x_g_52e = some res → Wo g A s H locs (w_X13 g h0 h1 h2 h3 h4 h5 h6 h7 h8 h9 h10 h11 h12 h13 x_g_52e x_kept x_saved x_before x_was x_region x_parts x_next x_ways x_more x_whole x_isSaved x_changes x_isWithin x_code x_input x_length x_fault x_failed x_signs x_signMany x_at x_told x_toldMany) → lv_has ls 3 [(0, .ref h0)] → G_X13_drops p l e s m args below meth c g A h0 h1 h2 h3 h4 h5 h6 h7 h8 h9 h10 h11 h12 h13 x_kept x_saved x_before x_was x_region x_parts x_next x_ways x_more x_whole x_isSaved x_changes x_isWithin x_code x_input x_length x_fault x_failed x_signs x_signMany x_at x_told x_toldMany res H locs 52 ls [])
    : ∀ (n : Nat) (l2_17 : Int32) (x_g_17 : Nat → Int32) (H : Heap) (locs : List Loc) (ls : Array Slot), f_X13_drops_17 z52 n l2_17 x_g_17 = some res → Wo g A s H locs (w_X13 g h0 h1 h2 h3 h4 h5 h6 h7 h8 h9 h10 h11 h12 h13 x_g_17 x_kept x_saved x_before x_was x_region x_parts x_next x_ways x_more x_whole x_isSaved x_changes x_isWithin x_code x_input x_length x_fault x_failed x_signs x_signMany x_at x_told x_toldMany) → lv_has ls 3 [(0, .ref h0), (2, .int l2_17)] → G_X13_drops p l e s m args below meth c g A h0 h1 h2 h3 h4 h5 h6 h7 h8 h9 h10 h11 h12 h13 x_kept x_saved x_before x_was x_region x_parts x_next x_ways x_more x_whole x_isSaved x_changes x_isWithin x_code x_input x_length x_fault x_failed x_signs x_signMany x_at x_told x_toldMany res H locs 17 ls [] := by
  have hts := E.2.2.2.1
  intro n
  induction n with
  | zero => intro l2_17 x_g_17 H locs ls h hW hl; rw [f_X13_drops_17] at h; cases h
  | succ n ih =>
    intro l2_17 x_g_17 H locs ls h hW hl
    rw [f_X13_drops_17] at h
    refine lv_iload_n E.1 E.2.1 dX13_drops_17 rfl (lv_at hl 1 rfl) ?_
    refine lv_bipush (v := 48) E.1 E.2.1 dX13_drops_18 (by decide) ?_
    refine lv_iconst (v := 2) E.1 E.2.1 dX13_drops_20 (by decide) ?_
    refine lv_aload_n E.1 E.2.1 dX13_drops_21 rfl (lv_at hl 0 rfl) ?_
    refine wGet (v := .ref h1) E hK in_X13_drops_X13 hW 0 lk_X13_drops_7 0 rfl rfl (by decide) rfl rfl dX13_drops_22 ?_
    refine lv_iconst (v := 3) E.1 E.2.1 dX13_drops_25 (by decide) ?_
    refine wIald E hK hW 1 rfl (by decide) dX13_drops_26 ?_
    refine lv_imul E.1 E.2.1 dX13_drops_27 ?_
    refine lv_iadd E.1 E.2.1 dX13_drops_28 ?_
    refine lv_icmp_ge (tgt := 52) E.1 E.2.1 dX13_drops_29 (by decide) (fun c29 => ?_) (fun c29 => ?_)
    · have h := it c29 h
      exact hz52 x_g_17 H locs ls h hW (lv_sub hl [0] rfl)
    · have h := ie c29 h
      refine lv_aload_n E.1 E.2.1 dX13_drops_32 rfl (lv_at hl 0 rfl) ?_
      refine wGet (v := .ref h1) E hK in_X13_drops_X13 hW 0 lk_X13_drops_7 0 rfl rfl (by decide) rfl rfl dX13_drops_33 ?_
      refine lv_iload_n E.1 E.2.1 dX13_drops_36 rfl (lv_at hl 1 rfl) ?_
      refine lv_aload_n E.1 E.2.1 dX13_drops_37 rfl (lv_at hl 0 rfl) ?_
      refine wGet (v := .ref h1) E hK in_X13_drops_X13 hW 0 lk_X13_drops_7 0 rfl rfl (by decide) rfl rfl dX13_drops_38 ?_
      refine lv_iload_n E.1 E.2.1 dX13_drops_41 rfl (lv_at hl 1 rfl) ?_
      refine lv_iconst (v := 2) E.1 E.2.1 dX13_drops_42 (by decide) ?_
      refine lv_iadd E.1 E.2.1 dX13_drops_43 ?_
      obtain ⟨hi44, h⟩ := ox h
      refine wIald E hK hW 1 rfl hi44 dX13_drops_44 ?_
      obtain ⟨hi45, h⟩ := ox h
      refine wIast (world' := (w_X13 g h0 h1 h2 h3 h4 h5 h6 h7 h8 h9 h10 h11 h12 h13 (upd x_g_17 l2_17.toNatClampNeg (x_g_17 (l2_17 + 2).toNatClampNeg)) x_kept x_saved x_before x_was x_region x_parts x_next x_ways x_more x_whole x_isSaved x_changes x_isWithin x_code x_input x_length x_fault x_failed x_signs x_signMany x_at x_told x_toldMany)) E hK hW 1 rfl hi45 dX13_drops_45 rfl (fun H locs hW => ?_)
      refine lv_iinc (v := (l2_17 + 1)) (lv' := [(2, .int (l2_17 + 1)), (0, .ref h0)]) E.1 E.2.1 dX13_drops_46 hl (k := 1) rfl rfl (by decide) rfl (fun ls hl => ?_)
      refine lv_goto (tgt := 17) E.1 E.2.1 dX13_drops_49 (by decide) ?_
      exact ih (l2_17 + 1) (upd x_g_17 l2_17.toNatClampNeg (x_g_17 (l2_17 + 2).toNatClampNeg)) H locs ls h hW (lv_sub hl [1, 0] rfl)
set_option maxHeartbeats 4000000 in
set_option maxRecDepth 100000 in
theorem k_X13_drops_0 {p : Program} {l : Launch} {e : Env} {s : State} {m : MethodId} {args : Array Value} {below : List Frame} {meth : Method} {c : Code} {g : GE} {A : Nat → Prop} {h0 h1 h2 h3 h4 h5 h6 h7 h8 h9 h10 h11 h12 h13 : Nat} {x_g : Nat → Int32} {x_kept : Nat → Int32} {x_saved : Nat → Int32} {x_before : Nat → Int32} {x_was : Nat → Int32} {x_region : Nat → Int32} {x_parts : Nat → Int64} {x_next : Nat → Int64} {x_ways : Nat → Int32} {x_more : Nat → Int32} {x_whole : Int64} {x_isSaved : Int32} {x_changes : Int32} {x_isWithin : Int32} {x_code : Int32} {x_input : Nat → Int32} {x_length : Int32} {x_fault : Int32} {x_failed : Int32} {x_signs : Nat → Int32} {x_signMany : Int32} {x_at : Int32} {x_told : Nat → Int32} {x_toldMany : Int32} {res : (Nat → Int32)} {H : Heap} {locs : List Loc} {ls : Array Slot} {a1 : Int32}
    (E : En cX13_drops RX13 wsX13_drops 3 none p s m args meth c) (hK : KK g s) (hA : ∀ q, s.heap.size ≤ q → A q) (h : f_X13_drops x_g a1 = some res) (hW : Wo g A s H locs (w_X13 g h0 h1 h2 h3 h4 h5 h6 h7 h8 h9 h10 h11 h12 h13 x_g x_kept x_saved x_before x_was x_region x_parts x_next x_ways x_more x_whole x_isSaved x_changes x_isWithin x_code x_input x_length x_fault x_failed x_signs x_signMany x_at x_told x_toldMany)) (hl : lv_has ls 3 [(0, .ref h0), (1, .int a1)]) : G_X13_drops p l e s m args below meth c g A h0 h1 h2 h3 h4 h5 h6 h7 h8 h9 h10 h11 h12 h13 x_kept x_saved x_before x_was x_region x_parts x_next x_ways x_more x_whole x_isSaved x_changes x_isWithin x_code x_input x_length x_fault x_failed x_signs x_signMany x_at x_told x_toldMany res H locs 0 ls [] := by
  have hts := E.2.2.2.1
  unfold f_X13_drops at h
  refine lv_aload_n E.1 E.2.1 dX13_drops_0 rfl (lv_at hl 0 rfl) ?_
  refine wGet (v := .ref h1) E hK in_X13_drops_X13 hW 0 lk_X13_drops_7 0 rfl rfl (by decide) rfl rfl dX13_drops_1 ?_
  refine lv_iconst (v := 3) E.1 E.2.1 dX13_drops_4 (by decide) ?_
  refine lv_dup2_11 E.1 E.2.1 dX13_drops_5 rfl rfl ?_
  refine wIald E hK hW 1 rfl (by decide) dX13_drops_6 ?_
  refine lv_iconst (v := 1) E.1 E.2.1 dX13_drops_7 (by decide) ?_
  refine lv_isub E.1 E.2.1 dX13_drops_8 ?_
  refine wIast (world' := (w_X13 g h0 h1 h2 h3 h4 h5 h6 h7 h8 h9 h10 h11 h12 h13 (upd x_g (3 : Int32).toNatClampNeg ((x_g (3 : Int32).toNatClampNeg) - 1)) x_kept x_saved x_before x_was x_region x_parts x_next x_ways x_more x_whole x_isSaved x_changes x_isWithin x_code x_input x_length x_fault x_failed x_signs x_signMany x_at x_told x_toldMany)) E hK hW 1 rfl (by decide) dX13_drops_9 rfl (fun H locs hW => ?_)
  refine lv_bipush (v := 48) E.1 E.2.1 dX13_drops_10 (by decide) ?_
  refine lv_iconst (v := 2) E.1 E.2.1 dX13_drops_12 (by decide) ?_
  refine lv_iload_n E.1 E.2.1 dX13_drops_13 rfl (lv_at hl 1 rfl) ?_
  refine lv_imul E.1 E.2.1 dX13_drops_14 ?_
  refine lv_iadd E.1 E.2.1 dX13_drops_15 ?_
  refine lv_istore_n (lv' := [(2, .int (48 + (2 * a1))), (0, .ref h0), (1, .int a1)]) E.1 E.2.1 dX13_drops_16 rfl hl (by decide) rfl (fun ls hl => ?_)
  refine k_X13_drops_17 E hK hA ?_ 1000 (48 + (2 * a1)) (upd x_g (3 : Int32).toNatClampNeg ((x_g (3 : Int32).toNatClampNeg) - 1)) H locs ls h hW (lv_sub hl [1, 0] rfl)
  · intro x_g_52e H locs ls h hW hl
    refine lv_aload_n E.1 E.2.1 dX13_drops_52 rfl (lv_at hl 0 rfl) ?_
    refine wGet (v := .ref h1) E hK in_X13_drops_X13 hW 0 lk_X13_drops_7 0 rfl rfl (by decide) rfl rfl dX13_drops_53 ?_
    refine lv_bipush (v := 48) E.1 E.2.1 dX13_drops_56 (by decide) ?_
    refine lv_iconst (v := 2) E.1 E.2.1 dX13_drops_58 (by decide) ?_
    refine lv_aload_n E.1 E.2.1 dX13_drops_59 rfl (lv_at hl 0 rfl) ?_
    refine wGet (v := .ref h1) E hK in_X13_drops_X13 hW 0 lk_X13_drops_7 0 rfl rfl (by decide) rfl rfl dX13_drops_60 ?_
    refine lv_iconst (v := 3) E.1 E.2.1 dX13_drops_63 (by decide) ?_
    refine wIald E hK hW 1 rfl (by decide) dX13_drops_64 ?_
    refine lv_imul E.1 E.2.1 dX13_drops_65 ?_
    refine lv_iadd E.1 E.2.1 dX13_drops_66 ?_
    refine lv_iconst (v := 0) E.1 E.2.1 dX13_drops_67 (by decide) ?_
    obtain ⟨hi68, h⟩ := ox h
    refine wIast (world' := (w_X13 g h0 h1 h2 h3 h4 h5 h6 h7 h8 h9 h10 h11 h12 h13 (upd x_g_52e (48 + (2 * (x_g_52e (3 : Int32).toNatClampNeg))).toNatClampNeg 0) x_kept x_saved x_before x_was x_region x_parts x_next x_ways x_more x_whole x_isSaved x_changes x_isWithin x_code x_input x_length x_fault x_failed x_signs x_signMany x_at x_told x_toldMany)) E hK hW 1 rfl hi68 dX13_drops_68 rfl (fun H locs hW => ?_)
    refine lv_aload_n E.1 E.2.1 dX13_drops_69 rfl (lv_at hl 0 rfl) ?_
    refine wGet (v := .ref h1) E hK in_X13_drops_X13 hW 0 lk_X13_drops_7 0 rfl rfl (by decide) rfl rfl dX13_drops_70 ?_
    refine lv_bipush (v := 48) E.1 E.2.1 dX13_drops_73 (by decide) ?_
    refine lv_iconst (v := 2) E.1 E.2.1 dX13_drops_75 (by decide) ?_
    refine lv_aload_n E.1 E.2.1 dX13_drops_76 rfl (lv_at hl 0 rfl) ?_
    refine wGet (v := .ref h1) E hK in_X13_drops_X13 hW 0 lk_X13_drops_7 0 rfl rfl (by decide) rfl rfl dX13_drops_77 ?_
    refine lv_iconst (v := 3) E.1 E.2.1 dX13_drops_80 (by decide) ?_
    refine wIald E hK hW 1 rfl (by decide) dX13_drops_81 ?_
    refine lv_imul E.1 E.2.1 dX13_drops_82 ?_
    refine lv_iadd E.1 E.2.1 dX13_drops_83 ?_
    refine lv_iconst (v := 1) E.1 E.2.1 dX13_drops_84 (by decide) ?_
    refine lv_iadd E.1 E.2.1 dX13_drops_85 ?_
    refine lv_iconst (v := 0) E.1 E.2.1 dX13_drops_86 (by decide) ?_
    obtain ⟨hi87, h⟩ := ox h
    refine wIast (world' := (w_X13 g h0 h1 h2 h3 h4 h5 h6 h7 h8 h9 h10 h11 h12 h13 (upd (upd x_g_52e (48 + (2 * (x_g_52e (3 : Int32).toNatClampNeg))).toNatClampNeg 0) ((48 + (2 * ((upd x_g_52e (48 + (2 * (x_g_52e (3 : Int32).toNatClampNeg))).toNatClampNeg 0) (3 : Int32).toNatClampNeg))) + 1).toNatClampNeg 0) x_kept x_saved x_before x_was x_region x_parts x_next x_ways x_more x_whole x_isSaved x_changes x_isWithin x_code x_input x_length x_fault x_failed x_signs x_signMany x_at x_told x_toldMany)) E hK hW 1 rfl hi87 dX13_drops_87 rfl (fun H locs hW => ?_)
    obtain rfl := Option.some.inj h
    exact endV E hW dX13_drops_88
theorem c_X13_drops (l : Launch) (g : GE) (h0 h1 h2 h3 h4 h5 h6 h7 h8 h9 h10 h11 h12 h13 : Nat) (x_g : Nat → Int32) (x_kept : Nat → Int32) (x_saved : Nat → Int32) (x_before : Nat → Int32) (x_was : Nat → Int32) (x_region : Nat → Int32) (x_parts : Nat → Int64) (x_next : Nat → Int64) (x_ways : Nat → Int32) (x_more : Nat → Int32) (x_whole : Int64) (x_isSaved : Int32) (x_changes : Int32) (x_isWithin : Int32) (x_code : Int32) (x_input : Nat → Int32) (x_length : Int32) (x_fault : Int32) (x_failed : Int32) (x_signs : Nat → Int32) (x_signMany : Int32) (x_at : Int32) (x_told : Nat → Int32) (x_toldMany : Int32) (a1 : Int32) {res : (Nat → Int32)} (hf : f_X13_drops x_g a1 = some res) : CV l yX13_drops wsX13_drops rm_X13_drops g [.ref h0, .int a1] (w_X13 g h0 h1 h2 h3 h4 h5 h6 h7 h8 h9 h10 h11 h12 h13 x_g x_kept x_saved x_before x_was x_region x_parts x_next x_ways x_more x_whole x_isSaved x_changes x_isWithin x_code x_input x_length x_fault x_failed x_signs x_signMany x_at x_told x_toldMany) (w_X13 g h0 h1 h2 h3 h4 h5 h6 h7 h8 h9 h10 h11 h12 h13 res x_kept x_saved x_before x_was x_region x_parts x_next x_ways x_more x_whole x_isSaved x_changes x_isWithin x_code x_input x_length x_fault x_failed x_signs x_signMany x_at x_told x_toldMany) :=
  mkV (cc := cX13_drops) (maxL := 3) (by decide) rfl (Nat.le_of_ble_eq_true rfl) (fun p e s m args below meth c A H locs ls E hK hA hW hl => k_X13_drops_0 E hK hA hf hW hl)

/-! PaperStormModel.withdraw(I)I X13_withdraw -/
abbrev rm_X13_withdraw : Room := { frames := 2, cells := 0, slots := 0, locals := 46 }
theorem in_X13_withdraw_X13 : ∀ w ∈ wsX130, w ∈ wsX13_withdraw := by decide +kernel
theorem lk_X13_withdraw_7 : Cond.fieldLink RX13 7 "PaperStormModel" "g" "[I" ∈ wsX13_withdraw := by decide +kernel
noncomputable def f_X13_withdraw (x_g : Nat → Int32) (x_kept : Nat → Int32) (x_changes : Int32) (x_isWithin : Int32) (x_code : Int32) (a1 : Int32) : Option (Int32 × (Nat → Int32) × (Nat → Int32) × Int32 × Int32) :=
  jo (fun (s1_14 : Int32) => (f_X13_fails x_code s1_14).bind fun r14 => if r14.1 = 0 then (f_X13_keeps__g x_g x_kept x_changes x_isWithin r14.2).bind fun r27 => (f_X13_drops x_g a1).bind fun r32 => some ((r32 (3 : Int32).toNatClampNeg), r32, r27.1, r27.2.1, r27.2.2) else some (0, x_g, x_kept, x_changes, r14.2)) (fun j14 => (f_X13_isForecast x_g a1).bind fun r3 => if r3 = 0 then j14 1 else j14 0)
abbrev G_X13_withdraw (p : Program) (l : Launch) (e : Env) (s : State) (m : MethodId) (args : Array Value) (below : List Frame) (meth : Method) (c : Code) (g : GE) (A : Nat → Prop) (h0 h1 h2 h3 h4 h5 h6 h7 h8 h9 h10 h11 h12 h13 : Nat) (x_saved : Nat → Int32) (x_before : Nat → Int32) (x_was : Nat → Int32) (x_region : Nat → Int32) (x_parts : Nat → Int64) (x_next : Nat → Int64) (x_ways : Nat → Int32) (x_more : Nat → Int32) (x_whole : Int64) (x_isSaved : Int32) (x_isWithin : Int32) (x_input : Nat → Int32) (x_length : Int32) (x_fault : Int32) (x_failed : Int32) (x_signs : Nat → Int32) (x_signMany : Int32) (x_at : Int32) (x_told : Nat → Int32) (x_toldMany : Int32) (res : Int32 × (Nat → Int32) × (Nat → Int32) × Int32 × Int32) (H : Heap) (locs : List Loc) (pc : Nat) (ls : Array Slot) (st : List Value) : Prop := W p l e (headSpec wsX13_withdraw rm_X13_withdraw).room s m args below meth c H locs 0 0 (MQ below (PoI g A (w_X13 g h0 h1 h2 h3 h4 h5 h6 h7 h8 h9 h10 h11 h12 h13 res.2.1 res.2.2.1 x_saved x_before x_was x_region x_parts x_next x_ways x_more x_whole x_isSaved res.2.2.2.1 x_isWithin res.2.2.2.2 x_input x_length x_fault x_failed x_signs x_signMany x_at x_told x_toldMany) res.1) args s 0 0 A) (F0 m pc ls st)
set_option maxHeartbeats 4000000 in
set_option maxRecDepth 100000 in
theorem k_X13_withdraw_0 {p : Program} {l : Launch} {e : Env} {s : State} {m : MethodId} {args : Array Value} {below : List Frame} {meth : Method} {c : Code} {g : GE} {A : Nat → Prop} {h0 h1 h2 h3 h4 h5 h6 h7 h8 h9 h10 h11 h12 h13 : Nat} {x_g : Nat → Int32} {x_kept : Nat → Int32} {x_saved : Nat → Int32} {x_before : Nat → Int32} {x_was : Nat → Int32} {x_region : Nat → Int32} {x_parts : Nat → Int64} {x_next : Nat → Int64} {x_ways : Nat → Int32} {x_more : Nat → Int32} {x_whole : Int64} {x_isSaved : Int32} {x_changes : Int32} {x_isWithin : Int32} {x_code : Int32} {x_input : Nat → Int32} {x_length : Int32} {x_fault : Int32} {x_failed : Int32} {x_signs : Nat → Int32} {x_signMany : Int32} {x_at : Int32} {x_told : Nat → Int32} {x_toldMany : Int32} {res : Int32 × (Nat → Int32) × (Nat → Int32) × Int32 × Int32} {H : Heap} {locs : List Loc} {ls : Array Slot} {a1 : Int32}
    (E : En cX13_withdraw RX13 wsX13_withdraw 2 (some .int) p s m args meth c) (hK : KK g s) (hA : ∀ q, s.heap.size ≤ q → A q) (h : f_X13_withdraw x_g x_kept x_changes x_isWithin x_code a1 = some res) (hW : Wo g A s H locs (w_X13 g h0 h1 h2 h3 h4 h5 h6 h7 h8 h9 h10 h11 h12 h13 x_g x_kept x_saved x_before x_was x_region x_parts x_next x_ways x_more x_whole x_isSaved x_changes x_isWithin x_code x_input x_length x_fault x_failed x_signs x_signMany x_at x_told x_toldMany)) (hl : lv_has ls 2 [(0, .ref h0), (1, .int a1)]) : G_X13_withdraw p l e s m args below meth c g A h0 h1 h2 h3 h4 h5 h6 h7 h8 h9 h10 h11 h12 h13 x_saved x_before x_was x_region x_parts x_next x_ways x_more x_whole x_isSaved x_isWithin x_input x_length x_fault x_failed x_signs x_signMany x_at x_told x_toldMany res H locs 0 ls [] := by
  have hts := E.2.2.2.1
  unfold f_X13_withdraw at h
  obtain ⟨j14, hj14, h⟩ := jox1 h
  have J14 : ∀ (s1_14 : Int32) (H : Heap) (locs : List Loc) (ls : Array Slot), j14 s1_14 = some res → Wo g A s H locs (w_X13 g h0 h1 h2 h3 h4 h5 h6 h7 h8 h9 h10 h11 h12 h13 x_g x_kept x_saved x_before x_was x_region x_parts x_next x_ways x_more x_whole x_isSaved x_changes x_isWithin x_code x_input x_length x_fault x_failed x_signs x_signMany x_at x_told x_toldMany) → lv_has ls 2 [(0, .ref h0), (1, .int a1)] → G_X13_withdraw p l e s m args below meth c g A h0 h1 h2 h3 h4 h5 h6 h7 h8 h9 h10 h11 h12 h13 x_saved x_before x_was x_region x_parts x_next x_ways x_more x_whole x_isSaved x_isWithin x_input x_length x_fault x_failed x_signs x_signMany x_at x_told x_toldMany res H locs 14 ls [.int s1_14, .ref h0] := by
    intro s1_14 H locs ls h hW hl
    rw [hj14] at h
    obtain ⟨r14, hc, h⟩ := bx h
    refine goI (world' := (w_X13 g h0 h1 h2 h3 h4 h5 h6 h7 h8 h9 h10 h11 h12 h13 x_g x_kept x_saved x_before x_was x_region x_parts x_next x_ways x_more x_whole x_isSaved x_changes x_isWithin r14.2 x_input x_length x_fault x_failed x_signs x_signMany x_at x_told x_toldMany)) hW hA (is := [0, 1, 2, 3, 4, 5, 6, 7, 8, 9, 10, 11, 12, 13]) rfl (goV (rest := []) E hK hW [0, 1, 2, 3, 4, 5, 6, 7, 8, 9, 10, 11, 12, 13] rfl rfl (c_X13_fails l g h0 h1 h2 h3 h4 h5 h6 h7 h8 h9 h10 h11 h12 h13 x_g x_kept x_saved x_before x_was x_region x_parts x_next x_ways x_more x_whole x_isSaved x_changes x_isWithin x_code x_input x_length x_fault x_failed x_signs x_signMany x_at x_told x_toldMany s1_14 (hf := hc) H.size) (cwV 1 hts gX13_withdraw_X13_fails rfl rfl rfl (by decide +kernel) ⟨Nat.le_of_ble_eq_true rfl, Nat.le_of_ble_eq_true rfl⟩) 0 rfl rfl rfl hl.1 rfl rfl (Nat.le_of_ble_eq_true rfl) dX13_withdraw_14 ⟨Nat.zero_le _, Nat.zero_le _⟩) rfl rfl (fun H locs hW => ?_)
    refine lv_if_eq (tgt := 22) E.1 E.2.1 dX13_withdraw_17 (by decide) (fun c17 => ?_) (fun c17 => ?_)
    · have h := it c17 h
      refine lv_aload_n E.1 E.2.1 dX13_withdraw_22 rfl (lv_at hl 0 rfl) ?_
      refine lv_aload_n E.1 E.2.1 dX13_withdraw_23 rfl (lv_at hl 0 rfl) ?_
      refine wGet (v := .ref h1) E hK in_X13_withdraw_X13 hW 0 lk_X13_withdraw_7 0 rfl rfl (by decide) rfl rfl dX13_withdraw_24 ?_
      obtain ⟨r27, hc, h⟩ := bx h
      refine goU (world' := (w_X13 g h0 h1 h2 h3 h4 h5 h6 h7 h8 h9 h10 h11 h12 h13 x_g r27.1 x_saved x_before x_was x_region x_parts x_next x_ways x_more x_whole x_isSaved r27.2.1 x_isWithin r27.2.2 x_input x_length x_fault x_failed x_signs x_signMany x_at x_told x_toldMany)) hW hA (is := [0, 1, 2, 3, 4, 5, 6, 7, 8, 9, 10, 11, 12, 13]) rfl (goV (rest := []) E hK hW [0, 1, 2, 3, 4, 5, 6, 7, 8, 9, 10, 11, 12, 13] rfl rfl (c_X13_keeps__g l g h0 h1 h2 h3 h4 h5 h6 h7 h8 h9 h10 h11 h12 h13 x_g x_kept x_saved x_before x_was x_region x_parts x_next x_ways x_more x_whole x_isSaved x_changes x_isWithin r14.2 x_input x_length x_fault x_failed x_signs x_signMany x_at x_told x_toldMany (hf := hc) H.size) (cwV 1 hts gX13_withdraw_X13_keeps rfl rfl rfl (by decide +kernel) ⟨Nat.le_of_ble_eq_true rfl, Nat.le_of_ble_eq_true rfl⟩) 0 rfl rfl rfl hl.1 rfl rfl (Nat.le_of_ble_eq_true rfl) dX13_withdraw_27 ⟨Nat.zero_le _, Nat.zero_le _⟩) rfl rfl (fun H locs hW => ?_)
      refine lv_aload_n E.1 E.2.1 dX13_withdraw_30 rfl (lv_at hl 0 rfl) ?_
      refine lv_iload_n E.1 E.2.1 dX13_withdraw_31 rfl (lv_at hl 1 rfl) ?_
      obtain ⟨r32, hc, h⟩ := bx h
      refine goU (world' := (w_X13 g h0 h1 h2 h3 h4 h5 h6 h7 h8 h9 h10 h11 h12 h13 r32 r27.1 x_saved x_before x_was x_region x_parts x_next x_ways x_more x_whole x_isSaved r27.2.1 x_isWithin r27.2.2 x_input x_length x_fault x_failed x_signs x_signMany x_at x_told x_toldMany)) hW hA (is := [0, 1, 2, 3, 4, 5, 6, 7, 8, 9, 10, 11, 12, 13]) rfl (goV (rest := []) E hK hW [0, 1, 2, 3, 4, 5, 6, 7, 8, 9, 10, 11, 12, 13] rfl rfl (c_X13_drops l g h0 h1 h2 h3 h4 h5 h6 h7 h8 h9 h10 h11 h12 h13 x_g r27.1 x_saved x_before x_was x_region x_parts x_next x_ways x_more x_whole x_isSaved r27.2.1 x_isWithin r27.2.2 x_input x_length x_fault x_failed x_signs x_signMany x_at x_told x_toldMany a1 (hf := hc) H.size) (cwV 1 hts gX13_withdraw_X13_drops rfl rfl rfl (by decide +kernel) ⟨Nat.le_of_ble_eq_true rfl, Nat.le_of_ble_eq_true rfl⟩) 0 rfl rfl rfl hl.1 rfl rfl (Nat.le_of_ble_eq_true rfl) dX13_withdraw_32 ⟨Nat.zero_le _, Nat.zero_le _⟩) rfl rfl (fun H locs hW => ?_)
      refine lv_aload_n E.1 E.2.1 dX13_withdraw_35 rfl (lv_at hl 0 rfl) ?_
      refine wGet (v := .ref h1) E hK in_X13_withdraw_X13 hW 0 lk_X13_withdraw_7 0 rfl rfl (by decide) rfl rfl dX13_withdraw_36 ?_
      refine lv_iconst (v := 3) E.1 E.2.1 dX13_withdraw_39 (by decide) ?_
      refine wIald E hK hW 1 rfl (by decide) dX13_withdraw_40 ?_
      obtain rfl := Option.some.inj h
      exact endI E rfl hW dX13_withdraw_41
    · have h := ie c17 h
      refine lv_iconst (v := 0) E.1 E.2.1 dX13_withdraw_20 (by decide) ?_
      obtain rfl := Option.some.inj h
      exact endI E rfl hW dX13_withdraw_21
  refine lv_aload_n E.1 E.2.1 dX13_withdraw_0 rfl (lv_at hl 0 rfl) ?_
  refine lv_aload_n E.1 E.2.1 dX13_withdraw_1 rfl (lv_at hl 0 rfl) ?_
  refine lv_iload_n E.1 E.2.1 dX13_withdraw_2 rfl (lv_at hl 1 rfl) ?_
  obtain ⟨r3, hc, h⟩ := bx h
  refine goI (world' := (w_X13 g h0 h1 h2 h3 h4 h5 h6 h7 h8 h9 h10 h11 h12 h13 x_g x_kept x_saved x_before x_was x_region x_parts x_next x_ways x_more x_whole x_isSaved x_changes x_isWithin x_code x_input x_length x_fault x_failed x_signs x_signMany x_at x_told x_toldMany)) hW hA (is := [0, 1, 2, 3, 4, 5, 6, 7, 8, 9, 10, 11, 12, 13]) rfl (goV (rest := [.ref h0]) E hK hW [0, 1, 2, 3, 4, 5, 6, 7, 8, 9, 10, 11, 12, 13] rfl rfl (c_X13_isForecast l g h0 h1 h2 h3 h4 h5 h6 h7 h8 h9 h10 h11 h12 h13 x_g x_kept x_saved x_before x_was x_region x_parts x_next x_ways x_more x_whole x_isSaved x_changes x_isWithin x_code x_input x_length x_fault x_failed x_signs x_signMany x_at x_told x_toldMany a1 (hf := hc) H.size) (cwV 1 hts gX13_withdraw_X13_isForecast rfl rfl rfl (by decide +kernel) ⟨Nat.le_of_ble_eq_true rfl, Nat.le_of_ble_eq_true rfl⟩) 0 rfl rfl rfl hl.1 rfl rfl (Nat.le_of_ble_eq_true rfl) dX13_withdraw_3 ⟨Nat.zero_le _, Nat.zero_le _⟩) rfl rfl (fun H locs hW => ?_)
  refine lv_if_eq (tgt := 13) E.1 E.2.1 dX13_withdraw_6 (by decide) (fun c6 => ?_) (fun c6 => ?_)
  · have h := it c6 h
    refine lv_iconst (v := 1) E.1 E.2.1 dX13_withdraw_13 (by decide) ?_
    exact J14 1 H locs ls h hW (lv_sub hl [0, 1] rfl)
  · have h := ie c6 h
    refine lv_iconst (v := 0) E.1 E.2.1 dX13_withdraw_9 (by decide) ?_
    refine lv_goto (tgt := 14) E.1 E.2.1 dX13_withdraw_10 (by decide) ?_
    exact J14 0 H locs ls h hW (lv_sub hl [0, 1] rfl)
theorem c_X13_withdraw (l : Launch) (g : GE) (h0 h1 h2 h3 h4 h5 h6 h7 h8 h9 h10 h11 h12 h13 : Nat) (x_g : Nat → Int32) (x_kept : Nat → Int32) (x_saved : Nat → Int32) (x_before : Nat → Int32) (x_was : Nat → Int32) (x_region : Nat → Int32) (x_parts : Nat → Int64) (x_next : Nat → Int64) (x_ways : Nat → Int32) (x_more : Nat → Int32) (x_whole : Int64) (x_isSaved : Int32) (x_changes : Int32) (x_isWithin : Int32) (x_code : Int32) (x_input : Nat → Int32) (x_length : Int32) (x_fault : Int32) (x_failed : Int32) (x_signs : Nat → Int32) (x_signMany : Int32) (x_at : Int32) (x_told : Nat → Int32) (x_toldMany : Int32) (a1 : Int32) {res : Int32 × (Nat → Int32) × (Nat → Int32) × Int32 × Int32} (hf : f_X13_withdraw x_g x_kept x_changes x_isWithin x_code a1 = some res) : CI l yX13_withdraw wsX13_withdraw rm_X13_withdraw g [.ref h0, .int a1] (w_X13 g h0 h1 h2 h3 h4 h5 h6 h7 h8 h9 h10 h11 h12 h13 x_g x_kept x_saved x_before x_was x_region x_parts x_next x_ways x_more x_whole x_isSaved x_changes x_isWithin x_code x_input x_length x_fault x_failed x_signs x_signMany x_at x_told x_toldMany) (w_X13 g h0 h1 h2 h3 h4 h5 h6 h7 h8 h9 h10 h11 h12 h13 res.2.1 res.2.2.1 x_saved x_before x_was x_region x_parts x_next x_ways x_more x_whole x_isSaved res.2.2.2.1 x_isWithin res.2.2.2.2 x_input x_length x_fault x_failed x_signs x_signMany x_at x_told x_toldMany) res.1 :=
  mkI (cc := cX13_withdraw) (maxL := 2) (by decide) rfl (Nat.le_of_ble_eq_true rfl) (fun p e s m args below meth c A H locs ls E hK hA hW hl => k_X13_withdraw_0 E hK hA hf hW hl)

/-! PaperStormModel.observe(I)I X13_observe -/
abbrev rm_X13_observe : Room := { frames := 2, cells := 0, slots := 0, locals := 46 }
theorem in_X13_observe_X13 : ∀ w ∈ wsX130, w ∈ wsX13_observe := by decide +kernel
theorem lk_X13_observe_7 : Cond.fieldLink RX13 7 "PaperStormModel" "g" "[I" ∈ wsX13_observe := by decide +kernel
noncomputable def f_X13_observe_85 (l1 : Int32) (z175 : Int32 → (Nat → Int32) → Option (Int32 × (Nat → Int32) × (Nat → Int32) × Int32 × Int32)) : Nat → Int32 → Int32 → (Nat → Int32) → Option (Int32 × (Nat → Int32) × (Nat → Int32) × Int32 × Int32)
  | 0, _, _, _ => none
  | n + 1, l3_85, l4_85, x_g_85 => if (x_g_85 (3 : Int32).toNatClampNeg) ≤ l4_85 then z175 l3_85 x_g_85 else (f_X13_of x_g_85 l4_85 0).bind fun r100 => if r100 = (x_g_85 (0 : Int32).toNatClampNeg) then jo (fun (l3_158 : Int32) (x_g_158 : Nat → Int32) (s1_158 : Int32) (s2_158 : Int32) (s3_158 : Int32) => if s1_158 < 0 ∨ 60 ≤ s1_158.toNatClampNeg then none else (f_X13_drops (upd x_g_158 s1_158.toNatClampNeg (s2_158 + s3_158)) l4_85).bind fun r163 => f_X13_observe_85 l1 z175 n l3_158 l4_85 r163) (fun j158 => (f_X13_of x_g_85 l4_85 1).bind fun r116 => (f_X13_apart r116 l1).bind fun r120 => if r120 = 0 then j158 (l3_85 + r120) (upd x_g_85 (4 : Int32).toNatClampNeg ((x_g_85 (4 : Int32).toNatClampNeg) + 1)) 6 ((upd x_g_85 (4 : Int32).toNatClampNeg ((x_g_85 (4 : Int32).toNatClampNeg) + 1)) (6 : Int32).toNatClampNeg) 1 else j158 (l3_85 + r120) (upd x_g_85 (4 : Int32).toNatClampNeg ((x_g_85 (4 : Int32).toNatClampNeg) + 1)) 6 ((upd x_g_85 (4 : Int32).toNatClampNeg ((x_g_85 (4 : Int32).toNatClampNeg) + 1)) (6 : Int32).toNatClampNeg) 0) else f_X13_observe_85 l1 z175 n l3_85 (l4_85 + 1) x_g_85
noncomputable def f_X13_observe (x_g : Nat → Int32) (x_kept : Nat → Int32) (x_changes : Int32) (x_isWithin : Int32) (x_code : Int32) (a1 : Int32) : Option (Int32 × (Nat → Int32) × (Nat → Int32) × Int32 × Int32) :=
  jo (fun (s1_13 : Int32) => (f_X13_fails x_code s1_13).bind fun r13 => if r13.1 = 0 then jo (fun (x_g_63 : Nat → Int32) (x_kept_63 : Nat → Int32) (x_changes_63 : Int32) (x_code_63 : Int32) => f_X13_observe_85 a1 (fun l3_175e x_g_175e => some (l3_175e, (upd x_g_175e (5 : Int32).toNatClampNeg ((x_g_175e (5 : Int32).toNatClampNeg) + l3_175e)), x_kept_63, x_changes_63, x_code_63)) 1000 0 0 (upd (upd x_g_63 (0 : Int32).toNatClampNeg ((x_g_63 (0 : Int32).toNatClampNeg) + 1)) (1 : Int32).toNatClampNeg a1)) (fun j63 => (f_X13_keeps__g x_g x_kept x_changes x_isWithin r13.2).bind fun r26 => if ((32 + (4 * (x_g (1 : Int32).toNatClampNeg))) + a1) < 0 ∨ 60 ≤ ((32 + (4 * (x_g (1 : Int32).toNatClampNeg))) + a1).toNatClampNeg then none else if 3 ≤ (x_g ((32 + (4 * (x_g (1 : Int32).toNatClampNeg))) + a1).toNatClampNeg) then j63 x_g r26.1 r26.2.1 r26.2.2 else j63 (upd x_g ((32 + (4 * (x_g (1 : Int32).toNatClampNeg))) + a1).toNatClampNeg ((x_g ((32 + (4 * (x_g (1 : Int32).toNatClampNeg))) + a1).toNatClampNeg) + 1)) r26.1 r26.2.1 r26.2.2) else some (0, x_g, x_kept, x_changes, r13.2)) (fun j13 => (f_X13_isSort a1).bind fun r2 => if r2 = 0 then j13 1 else j13 0)
abbrev G_X13_observe (p : Program) (l : Launch) (e : Env) (s : State) (m : MethodId) (args : Array Value) (below : List Frame) (meth : Method) (c : Code) (g : GE) (A : Nat → Prop) (h0 h1 h2 h3 h4 h5 h6 h7 h8 h9 h10 h11 h12 h13 : Nat) (x_saved : Nat → Int32) (x_before : Nat → Int32) (x_was : Nat → Int32) (x_region : Nat → Int32) (x_parts : Nat → Int64) (x_next : Nat → Int64) (x_ways : Nat → Int32) (x_more : Nat → Int32) (x_whole : Int64) (x_isSaved : Int32) (x_isWithin : Int32) (x_input : Nat → Int32) (x_length : Int32) (x_fault : Int32) (x_failed : Int32) (x_signs : Nat → Int32) (x_signMany : Int32) (x_at : Int32) (x_told : Nat → Int32) (x_toldMany : Int32) (res : Int32 × (Nat → Int32) × (Nat → Int32) × Int32 × Int32) (H : Heap) (locs : List Loc) (pc : Nat) (ls : Array Slot) (st : List Value) : Prop := W p l e (headSpec wsX13_observe rm_X13_observe).room s m args below meth c H locs 0 0 (MQ below (PoI g A (w_X13 g h0 h1 h2 h3 h4 h5 h6 h7 h8 h9 h10 h11 h12 h13 res.2.1 res.2.2.1 x_saved x_before x_was x_region x_parts x_next x_ways x_more x_whole x_isSaved res.2.2.2.1 x_isWithin res.2.2.2.2 x_input x_length x_fault x_failed x_signs x_signMany x_at x_told x_toldMany) res.1) args s 0 0 A) (F0 m pc ls st)
set_option maxHeartbeats 4000000 in
set_option maxRecDepth 100000 in
theorem k_X13_observe_85 {p : Program} {l : Launch} {e : Env} {s : State} {m : MethodId} {args : Array Value} {below : List Frame} {meth : Method} {c : Code} {g : GE} {A : Nat → Prop} {h0 h1 h2 h3 h4 h5 h6 h7 h8 h9 h10 h11 h12 h13 : Nat} {x_kept : Nat → Int32} {x_saved : Nat → Int32} {x_before : Nat → Int32} {x_was : Nat → Int32} {x_region : Nat → Int32} {x_parts : Nat → Int64} {x_next : Nat → Int64} {x_ways : Nat → Int32} {x_more : Nat → Int32} {x_whole : Int64} {x_isSaved : Int32} {x_changes : Int32} {x_isWithin : Int32} {x_code : Int32} {x_input : Nat → Int32} {x_length : Int32} {x_fault : Int32} {x_failed : Int32} {x_signs : Nat → Int32} {x_signMany : Int32} {x_at : Int32} {x_told : Nat → Int32} {x_toldMany : Int32} {res : Int32 × (Nat → Int32) × (Nat → Int32) × Int32 × Int32} {l1 : Int32} {z175 : Int32 → (Nat → Int32) → Option (Int32 × (Nat → Int32) × (Nat → Int32) × Int32 × Int32)}
    (E : En cX13_observe RX13 wsX13_observe 6 (some .int) p s m args meth c) (hK : KK g s) (hA : ∀ q, s.heap.size ≤ q → A q)
    (hz175 : ∀ (l3_175e : Int32) (x_g_175e : Nat → Int32) (H : Heap) (locs : List Loc) (ls : Array Slot), z175 l3_175e x_g_175e = some res → Wo g A s H locs (w_X13 g h0 h1 h2 h3 h4 h5 h6 h7 h8 h9 h10 h11 h12 h13 x_g_175e x_kept x_saved x_before x_was x_region x_parts x_next x_ways x_more x_whole x_isSaved x_changes x_isWithin x_code x_input x_length x_fault x_failed x_signs x_signMany x_at x_told x_toldMany) → lv_has ls 6 [(0, .ref h0), (3, .int l3_175e)] → G_X13_observe p l e s m args below meth c g A h0 h1 h2 h3 h4 h5 h6 h7 h8 h9 h10 h11 h12 h13 x_saved x_before x_was x_region x_parts x_next x_ways x_more x_whole x_isSaved x_isWithin x_input x_length x_fault x_failed x_signs x_signMany x_at x_told x_toldMany res H locs 175 ls [])
    : ∀ (n : Nat) (l3_85 : Int32) (l4_85 : Int32) (x_g_85 : Nat → Int32) (H : Heap) (locs : List Loc) (ls : Array Slot), f_X13_observe_85 l1 z175 n l3_85 l4_85 x_g_85 = some res → Wo g A s H locs (w_X13 g h0 h1 h2 h3 h4 h5 h6 h7 h8 h9 h10 h11 h12 h13 x_g_85 x_kept x_saved x_before x_was x_region x_parts x_next x_ways x_more x_whole x_isSaved x_changes x_isWithin x_code x_input x_length x_fault x_failed x_signs x_signMany x_at x_told x_toldMany) → lv_has ls 6 [(0, .ref h0), (1, .int l1), (3, .int l3_85), (4, .int l4_85)] → G_X13_observe p l e s m args below meth c g A h0 h1 h2 h3 h4 h5 h6 h7 h8 h9 h10 h11 h12 h13 x_saved x_before x_was x_region x_parts x_next x_ways x_more x_whole x_isSaved x_isWithin x_input x_length x_fault x_failed x_signs x_signMany x_at x_told x_toldMany res H locs 85 ls [] := by
  have hts := E.2.2.2.1
  intro n
  induction n with
  | zero => intro l3_85 l4_85 x_g_85 H locs ls h hW hl; rw [f_X13_observe_85] at h; cases h
  | succ n ih =>
    intro l3_85 l4_85 x_g_85 H locs ls h hW hl
    rw [f_X13_observe_85] at h
    refine lv_iload E.1 E.2.1 dX13_observe_85 (lv_at hl 3 rfl) ?_
    refine lv_aload_n E.1 E.2.1 dX13_observe_87 rfl (lv_at hl 0 rfl) ?_
    refine wGet (v := .ref h1) E hK in_X13_observe_X13 hW 0 lk_X13_observe_7 0 rfl rfl (by decide) rfl rfl dX13_observe_88 ?_
    refine lv_iconst (v := 3) E.1 E.2.1 dX13_observe_91 (by decide) ?_
    refine wIald E hK hW 1 rfl (by decide) dX13_observe_92 ?_
    refine lv_icmp_ge (tgt := 175) E.1 E.2.1 dX13_observe_93 (by decide) (fun c93 => ?_) (fun c93 => ?_)
    · have h := it c93 h
      exact hz175 l3_85 x_g_85 H locs ls h hW (lv_sub hl [0, 2] rfl)
    · have h := ie c93 h
      refine lv_aload_n E.1 E.2.1 dX13_observe_96 rfl (lv_at hl 0 rfl) ?_
      refine lv_iload E.1 E.2.1 dX13_observe_97 (lv_at hl 3 rfl) ?_
      refine lv_iconst (v := 0) E.1 E.2.1 dX13_observe_99 (by decide) ?_
      obtain ⟨r100, hc, h⟩ := bx h
      refine goI (world' := (w_X13 g h0 h1 h2 h3 h4 h5 h6 h7 h8 h9 h10 h11 h12 h13 x_g_85 x_kept x_saved x_before x_was x_region x_parts x_next x_ways x_more x_whole x_isSaved x_changes x_isWithin x_code x_input x_length x_fault x_failed x_signs x_signMany x_at x_told x_toldMany)) hW hA (is := [0, 1, 2, 3, 4, 5, 6, 7, 8, 9, 10, 11, 12, 13]) rfl (goV (rest := []) E hK hW [0, 1, 2, 3, 4, 5, 6, 7, 8, 9, 10, 11, 12, 13] rfl rfl (c_X13_of l g h0 h1 h2 h3 h4 h5 h6 h7 h8 h9 h10 h11 h12 h13 x_g_85 x_kept x_saved x_before x_was x_region x_parts x_next x_ways x_more x_whole x_isSaved x_changes x_isWithin x_code x_input x_length x_fault x_failed x_signs x_signMany x_at x_told x_toldMany l4_85 0 (hf := hc) H.size) (cwV 2 hts gX13_observe_X13_of rfl rfl rfl (by decide +kernel) ⟨Nat.le_of_ble_eq_true rfl, Nat.le_of_ble_eq_true rfl⟩) 0 rfl rfl rfl hl.1 rfl rfl (Nat.le_of_ble_eq_true rfl) dX13_observe_100 ⟨Nat.zero_le _, Nat.zero_le _⟩) rfl rfl (fun H locs hW => ?_)
      refine lv_aload_n E.1 E.2.1 dX13_observe_103 rfl (lv_at hl 0 rfl) ?_
      refine wGet (v := .ref h1) E hK in_X13_observe_X13 hW 0 lk_X13_observe_7 0 rfl rfl (by decide) rfl rfl dX13_observe_104 ?_
      refine lv_iconst (v := 0) E.1 E.2.1 dX13_observe_107 (by decide) ?_
      refine wIald E hK hW 1 rfl (by decide) dX13_observe_108 ?_
      refine lv_icmp_ne (tgt := 169) E.1 E.2.1 dX13_observe_109 (by decide) (fun c109 => ?_) (fun c109 => ?_)
      · have h := ie c109 h
        refine lv_iinc (v := (l4_85 + 1)) (lv' := [(4, .int (l4_85 + 1)), (0, .ref h0), (1, .int l1), (3, .int l3_85)]) E.1 E.2.1 dX13_observe_169 hl (k := 3) rfl rfl (by decide) rfl (fun ls hl => ?_)
        refine lv_goto (tgt := 85) E.1 E.2.1 dX13_observe_172 (by decide) ?_
        exact ih l3_85 (l4_85 + 1) x_g_85 H locs ls h hW (lv_sub hl [1, 2, 3, 0] rfl)
      · have h := it c109 h
        obtain ⟨j158, hj158, h⟩ := jox5 h
        have J158 : ∀ (l3_158 : Int32) (x_g_158 : Nat → Int32) (s1_158 : Int32) (s2_158 : Int32) (s3_158 : Int32) (H : Heap) (locs : List Loc) (ls : Array Slot), j158 l3_158 x_g_158 s1_158 s2_158 s3_158 = some res → Wo g A s H locs (w_X13 g h0 h1 h2 h3 h4 h5 h6 h7 h8 h9 h10 h11 h12 h13 x_g_158 x_kept x_saved x_before x_was x_region x_parts x_next x_ways x_more x_whole x_isSaved x_changes x_isWithin x_code x_input x_length x_fault x_failed x_signs x_signMany x_at x_told x_toldMany) → lv_has ls 6 [(0, .ref h0), (1, .int l1), (3, .int l3_158), (4, .int l4_85)] → G_X13_observe p l e s m args below meth c g A h0 h1 h2 h3 h4 h5 h6 h7 h8 h9 h10 h11 h12 h13 x_saved x_before x_was x_region x_parts x_next x_ways x_more x_whole x_isSaved x_isWithin x_input x_length x_fault x_failed x_signs x_signMany x_at x_told x_toldMany res H locs 158 ls [.int s3_158, .int s2_158, .int s1_158, .ref h1] := by
          intro l3_158 x_g_158 s1_158 s2_158 s3_158 H locs ls h hW hl
          rw [hj158] at h
          refine lv_iadd E.1 E.2.1 dX13_observe_158 ?_
          obtain ⟨hi159, h⟩ := ox h
          refine wIast (world' := (w_X13 g h0 h1 h2 h3 h4 h5 h6 h7 h8 h9 h10 h11 h12 h13 (upd x_g_158 s1_158.toNatClampNeg (s2_158 + s3_158)) x_kept x_saved x_before x_was x_region x_parts x_next x_ways x_more x_whole x_isSaved x_changes x_isWithin x_code x_input x_length x_fault x_failed x_signs x_signMany x_at x_told x_toldMany)) E hK hW 1 rfl hi159 dX13_observe_159 rfl (fun H locs hW => ?_)
          refine lv_aload_n E.1 E.2.1 dX13_observe_160 rfl (lv_at hl 0 rfl) ?_
          refine lv_iload E.1 E.2.1 dX13_observe_161 (lv_at hl 3 rfl) ?_
          obtain ⟨r163, hc, h⟩ := bx h
          refine goU (world' := (w_X13 g h0 h1 h2 h3 h4 h5 h6 h7 h8 h9 h10 h11 h12 h13 r163 x_kept x_saved x_before x_was x_region x_parts x_next x_ways x_more x_whole x_isSaved x_changes x_isWithin x_code x_input x_length x_fault x_failed x_signs x_signMany x_at x_told x_toldMany)) hW hA (is := [0, 1, 2, 3, 4, 5, 6, 7, 8, 9, 10, 11, 12, 13]) rfl (goV (rest := []) E hK hW [0, 1, 2, 3, 4, 5, 6, 7, 8, 9, 10, 11, 12, 13] rfl rfl (c_X13_drops l g h0 h1 h2 h3 h4 h5 h6 h7 h8 h9 h10 h11 h12 h13 (upd x_g_158 s1_158.toNatClampNeg (s2_158 + s3_158)) x_kept x_saved x_before x_was x_region x_parts x_next x_ways x_more x_whole x_isSaved x_changes x_isWithin x_code x_input x_length x_fault x_failed x_signs x_signMany x_at x_told x_toldMany l4_85 (hf := hc) H.size) (cwV 1 hts gX13_observe_X13_drops rfl rfl rfl (by decide +kernel) ⟨Nat.le_of_ble_eq_true rfl, Nat.le_of_ble_eq_true rfl⟩) 0 rfl rfl rfl hl.1 rfl rfl (Nat.le_of_ble_eq_true rfl) dX13_observe_163 ⟨Nat.zero_le _, Nat.zero_le _⟩) rfl rfl (fun H locs hW => ?_)
          refine lv_goto (tgt := 85) E.1 E.2.1 dX13_observe_166 (by decide) ?_
          exact ih l3_158 l4_85 r163 H locs ls h hW (lv_sub hl [0, 1, 2, 3] rfl)
        refine lv_aload_n E.1 E.2.1 dX13_observe_112 rfl (lv_at hl 0 rfl) ?_
        refine lv_iload E.1 E.2.1 dX13_observe_113 (lv_at hl 3 rfl) ?_
        refine lv_iconst (v := 1) E.1 E.2.1 dX13_observe_115 (by decide) ?_
        obtain ⟨r116, hc, h⟩ := bx h
        refine goI (world' := (w_X13 g h0 h1 h2 h3 h4 h5 h6 h7 h8 h9 h10 h11 h12 h13 x_g_85 x_kept x_saved x_before x_was x_region x_parts x_next x_ways x_more x_whole x_isSaved x_changes x_isWithin x_code x_input x_length x_fault x_failed x_signs x_signMany x_at x_told x_toldMany)) hW hA (is := [0, 1, 2, 3, 4, 5, 6, 7, 8, 9, 10, 11, 12, 13]) rfl (goV (rest := []) E hK hW [0, 1, 2, 3, 4, 5, 6, 7, 8, 9, 10, 11, 12, 13] rfl rfl (c_X13_of l g h0 h1 h2 h3 h4 h5 h6 h7 h8 h9 h10 h11 h12 h13 x_g_85 x_kept x_saved x_before x_was x_region x_parts x_next x_ways x_more x_whole x_isSaved x_changes x_isWithin x_code x_input x_length x_fault x_failed x_signs x_signMany x_at x_told x_toldMany l4_85 1 (hf := hc) H.size) (cwV 2 hts gX13_observe_X13_of rfl rfl rfl (by decide +kernel) ⟨Nat.le_of_ble_eq_true rfl, Nat.le_of_ble_eq_true rfl⟩) 0 rfl rfl rfl hl.1 rfl rfl (Nat.le_of_ble_eq_true rfl) dX13_observe_116 ⟨Nat.zero_le _, Nat.zero_le _⟩) rfl rfl (fun H locs hW => ?_)
        refine lv_iload_n E.1 E.2.1 dX13_observe_119 rfl (lv_at hl 1 rfl) ?_
        obtain ⟨r120, hc, h⟩ := bx h
        refine goI (world' := (w_X13 g h0 h1 h2 h3 h4 h5 h6 h7 h8 h9 h10 h11 h12 h13 x_g_85 x_kept x_saved x_before x_was x_region x_parts x_next x_ways x_more x_whole x_isSaved x_changes x_isWithin x_code x_input x_length x_fault x_failed x_signs x_signMany x_at x_told x_toldMany)) hW hA (is := []) rfl (goS (rest := []) E hK hW [] rfl rfl (c_X13_apart l g r116 l1 (hf := hc) H.size) (va_cwS 2 hts gX13_observe_X13_apart rfl rfl rfl (by decide +kernel) ⟨Nat.le_of_ble_eq_true rfl, Nat.le_of_ble_eq_true rfl⟩) hl.1 rfl rfl (Nat.le_of_ble_eq_true rfl) dX13_observe_120 ⟨Nat.zero_le _, Nat.zero_le _⟩) rfl rfl (fun H locs hW => ?_)
        refine lv_istore (lv' := [(5, .int r120), (0, .ref h0), (1, .int l1), (3, .int l3_85), (4, .int l4_85)]) E.1 E.2.1 dX13_observe_123 hl (by decide) rfl (fun ls hl => ?_)
        refine lv_iload_n E.1 E.2.1 dX13_observe_125 rfl (lv_at hl 3 rfl) ?_
        refine lv_iload E.1 E.2.1 dX13_observe_126 (lv_at hl 0 rfl) ?_
        refine lv_iadd E.1 E.2.1 dX13_observe_128 ?_
        refine lv_istore_n (lv' := [(3, .int (l3_85 + r120)), (5, .int r120), (0, .ref h0), (1, .int l1), (4, .int l4_85)]) E.1 E.2.1 dX13_observe_129 rfl hl (by decide) rfl (fun ls hl => ?_)
        refine lv_aload_n E.1 E.2.1 dX13_observe_130 rfl (lv_at hl 2 rfl) ?_
        refine wGet (v := .ref h1) E hK in_X13_observe_X13 hW 0 lk_X13_observe_7 0 rfl rfl (by decide) rfl rfl dX13_observe_131 ?_
        refine lv_iconst (v := 4) E.1 E.2.1 dX13_observe_134 (by decide) ?_
        refine lv_dup2_11 E.1 E.2.1 dX13_observe_135 rfl rfl ?_
        refine wIald E hK hW 1 rfl (by decide) dX13_observe_136 ?_
        refine lv_iconst (v := 1) E.1 E.2.1 dX13_observe_137 (by decide) ?_
        refine lv_iadd E.1 E.2.1 dX13_observe_138 ?_
        refine wIast (world' := (w_X13 g h0 h1 h2 h3 h4 h5 h6 h7 h8 h9 h10 h11 h12 h13 (upd x_g_85 (4 : Int32).toNatClampNeg ((x_g_85 (4 : Int32).toNatClampNeg) + 1)) x_kept x_saved x_before x_was x_region x_parts x_next x_ways x_more x_whole x_isSaved x_changes x_isWithin x_code x_input x_length x_fault x_failed x_signs x_signMany x_at x_told x_toldMany)) E hK hW 1 rfl (by decide) dX13_observe_139 rfl (fun H locs hW => ?_)
        refine lv_aload_n E.1 E.2.1 dX13_observe_140 rfl (lv_at hl 2 rfl) ?_
        refine wGet (v := .ref h1) E hK in_X13_observe_X13 hW 0 lk_X13_observe_7 0 rfl rfl (by decide) rfl rfl dX13_observe_141 ?_
        refine lv_bipush (v := 6) E.1 E.2.1 dX13_observe_144 (by decide) ?_
        refine lv_dup2_11 E.1 E.2.1 dX13_observe_146 rfl rfl ?_
        refine wIald E hK hW 1 rfl (by decide) dX13_observe_147 ?_
        refine lv_iload E.1 E.2.1 dX13_observe_148 (lv_at hl 1 rfl) ?_
        refine lv_if_ne (tgt := 157) E.1 E.2.1 dX13_observe_150 (by decide) (fun c150 => ?_) (fun c150 => ?_)
        · have h := ie c150 h
          refine lv_iconst (v := 0) E.1 E.2.1 dX13_observe_157 (by decide) ?_
          exact J158 (l3_85 + r120) (upd x_g_85 (4 : Int32).toNatClampNeg ((x_g_85 (4 : Int32).toNatClampNeg) + 1)) 6 ((upd x_g_85 (4 : Int32).toNatClampNeg ((x_g_85 (4 : Int32).toNatClampNeg) + 1)) (6 : Int32).toNatClampNeg) 0 H locs ls h hW (lv_sub hl [2, 3, 0, 4] rfl)
        · have h := it c150 h
          refine lv_iconst (v := 1) E.1 E.2.1 dX13_observe_153 (by decide) ?_
          refine lv_goto (tgt := 158) E.1 E.2.1 dX13_observe_154 (by decide) ?_
          exact J158 (l3_85 + r120) (upd x_g_85 (4 : Int32).toNatClampNeg ((x_g_85 (4 : Int32).toNatClampNeg) + 1)) 6 ((upd x_g_85 (4 : Int32).toNatClampNeg ((x_g_85 (4 : Int32).toNatClampNeg) + 1)) (6 : Int32).toNatClampNeg) 1 H locs ls h hW (lv_sub hl [2, 3, 0, 4] rfl)
set_option maxHeartbeats 4000000 in
set_option maxRecDepth 100000 in
theorem k_X13_observe_0 {p : Program} {l : Launch} {e : Env} {s : State} {m : MethodId} {args : Array Value} {below : List Frame} {meth : Method} {c : Code} {g : GE} {A : Nat → Prop} {h0 h1 h2 h3 h4 h5 h6 h7 h8 h9 h10 h11 h12 h13 : Nat} {x_g : Nat → Int32} {x_kept : Nat → Int32} {x_saved : Nat → Int32} {x_before : Nat → Int32} {x_was : Nat → Int32} {x_region : Nat → Int32} {x_parts : Nat → Int64} {x_next : Nat → Int64} {x_ways : Nat → Int32} {x_more : Nat → Int32} {x_whole : Int64} {x_isSaved : Int32} {x_changes : Int32} {x_isWithin : Int32} {x_code : Int32} {x_input : Nat → Int32} {x_length : Int32} {x_fault : Int32} {x_failed : Int32} {x_signs : Nat → Int32} {x_signMany : Int32} {x_at : Int32} {x_told : Nat → Int32} {x_toldMany : Int32} {res : Int32 × (Nat → Int32) × (Nat → Int32) × Int32 × Int32} {H : Heap} {locs : List Loc} {ls : Array Slot} {a1 : Int32}
    (E : En cX13_observe RX13 wsX13_observe 6 (some .int) p s m args meth c) (hK : KK g s) (hA : ∀ q, s.heap.size ≤ q → A q) (h : f_X13_observe x_g x_kept x_changes x_isWithin x_code a1 = some res) (hW : Wo g A s H locs (w_X13 g h0 h1 h2 h3 h4 h5 h6 h7 h8 h9 h10 h11 h12 h13 x_g x_kept x_saved x_before x_was x_region x_parts x_next x_ways x_more x_whole x_isSaved x_changes x_isWithin x_code x_input x_length x_fault x_failed x_signs x_signMany x_at x_told x_toldMany)) (hl : lv_has ls 6 [(0, .ref h0), (1, .int a1)]) : G_X13_observe p l e s m args below meth c g A h0 h1 h2 h3 h4 h5 h6 h7 h8 h9 h10 h11 h12 h13 x_saved x_before x_was x_region x_parts x_next x_ways x_more x_whole x_isSaved x_isWithin x_input x_length x_fault x_failed x_signs x_signMany x_at x_told x_toldMany res H locs 0 ls [] := by
  have hts := E.2.2.2.1
  unfold f_X13_observe at h
  obtain ⟨j13, hj13, h⟩ := jox1 h
  have J13 : ∀ (s1_13 : Int32) (H : Heap) (locs : List Loc) (ls : Array Slot), j13 s1_13 = some res → Wo g A s H locs (w_X13 g h0 h1 h2 h3 h4 h5 h6 h7 h8 h9 h10 h11 h12 h13 x_g x_kept x_saved x_before x_was x_region x_parts x_next x_ways x_more x_whole x_isSaved x_changes x_isWithin x_code x_input x_length x_fault x_failed x_signs x_signMany x_at x_told x_toldMany) → lv_has ls 6 [(0, .ref h0), (1, .int a1)] → G_X13_observe p l e s m args below meth c g A h0 h1 h2 h3 h4 h5 h6 h7 h8 h9 h10 h11 h12 h13 x_saved x_before x_was x_region x_parts x_next x_ways x_more x_whole x_isSaved x_isWithin x_input x_length x_fault x_failed x_signs x_signMany x_at x_told x_toldMany res H locs 13 ls [.int s1_13, .ref h0] := by
    intro s1_13 H locs ls h hW hl
    rw [hj13] at h
    obtain ⟨r13, hc, h⟩ := bx h
    refine goI (world' := (w_X13 g h0 h1 h2 h3 h4 h5 h6 h7 h8 h9 h10 h11 h12 h13 x_g x_kept x_saved x_before x_was x_region x_parts x_next x_ways x_more x_whole x_isSaved x_changes x_isWithin r13.2 x_input x_length x_fault x_failed x_signs x_signMany x_at x_told x_toldMany)) hW hA (is := [0, 1, 2, 3, 4, 5, 6, 7, 8, 9, 10, 11, 12, 13]) rfl (goV (rest := []) E hK hW [0, 1, 2, 3, 4, 5, 6, 7, 8, 9, 10, 11, 12, 13] rfl rfl (c_X13_fails l g h0 h1 h2 h3 h4 h5 h6 h7 h8 h9 h10 h11 h12 h13 x_g x_kept x_saved x_before x_was x_region x_parts x_next x_ways x_more x_whole x_isSaved x_changes x_isWithin x_code x_input x_length x_fault x_failed x_signs x_signMany x_at x_told x_toldMany s1_13 (hf := hc) H.size) (cwV 1 hts gX13_observe_X13_fails rfl rfl rfl (by decide +kernel) ⟨Nat.le_of_ble_eq_true rfl, Nat.le_of_ble_eq_true rfl⟩) 0 rfl rfl rfl hl.1 rfl rfl (Nat.le_of_ble_eq_true rfl) dX13_observe_13 ⟨Nat.zero_le _, Nat.zero_le _⟩) rfl rfl (fun H locs hW => ?_)
    refine lv_if_eq (tgt := 21) E.1 E.2.1 dX13_observe_16 (by decide) (fun c16 => ?_) (fun c16 => ?_)
    · have h := it c16 h
      obtain ⟨j63, hj63, h⟩ := jox4 h
      have J63 : ∀ (x_g_63 : Nat → Int32) (x_kept_63 : Nat → Int32) (x_changes_63 : Int32) (x_code_63 : Int32) (H : Heap) (locs : List Loc) (ls : Array Slot), j63 x_g_63 x_kept_63 x_changes_63 x_code_63 = some res → Wo g A s H locs (w_X13 g h0 h1 h2 h3 h4 h5 h6 h7 h8 h9 h10 h11 h12 h13 x_g_63 x_kept_63 x_saved x_before x_was x_region x_parts x_next x_ways x_more x_whole x_isSaved x_changes_63 x_isWithin x_code_63 x_input x_length x_fault x_failed x_signs x_signMany x_at x_told x_toldMany) → lv_has ls 6 [(0, .ref h0), (1, .int a1)] → G_X13_observe p l e s m args below meth c g A h0 h1 h2 h3 h4 h5 h6 h7 h8 h9 h10 h11 h12 h13 x_saved x_before x_was x_region x_parts x_next x_ways x_more x_whole x_isSaved x_isWithin x_input x_length x_fault x_failed x_signs x_signMany x_at x_told x_toldMany res H locs 63 ls [] := by
        intro x_g_63 x_kept_63 x_changes_63 x_code_63 H locs ls h hW hl
        rw [hj63] at h
        refine lv_aload_n E.1 E.2.1 dX13_observe_63 rfl (lv_at hl 0 rfl) ?_
        refine wGet (v := .ref h1) E hK in_X13_observe_X13 hW 0 lk_X13_observe_7 0 rfl rfl (by decide) rfl rfl dX13_observe_64 ?_
        refine lv_iconst (v := 0) E.1 E.2.1 dX13_observe_67 (by decide) ?_
        refine lv_dup2_11 E.1 E.2.1 dX13_observe_68 rfl rfl ?_
        refine wIald E hK hW 1 rfl (by decide) dX13_observe_69 ?_
        refine lv_iconst (v := 1) E.1 E.2.1 dX13_observe_70 (by decide) ?_
        refine lv_iadd E.1 E.2.1 dX13_observe_71 ?_
        refine wIast (world' := (w_X13 g h0 h1 h2 h3 h4 h5 h6 h7 h8 h9 h10 h11 h12 h13 (upd x_g_63 (0 : Int32).toNatClampNeg ((x_g_63 (0 : Int32).toNatClampNeg) + 1)) x_kept_63 x_saved x_before x_was x_region x_parts x_next x_ways x_more x_whole x_isSaved x_changes_63 x_isWithin x_code_63 x_input x_length x_fault x_failed x_signs x_signMany x_at x_told x_toldMany)) E hK hW 1 rfl (by decide) dX13_observe_72 rfl (fun H locs hW => ?_)
        refine lv_aload_n E.1 E.2.1 dX13_observe_73 rfl (lv_at hl 0 rfl) ?_
        refine wGet (v := .ref h1) E hK in_X13_observe_X13 hW 0 lk_X13_observe_7 0 rfl rfl (by decide) rfl rfl dX13_observe_74 ?_
        refine lv_iconst (v := 1) E.1 E.2.1 dX13_observe_77 (by decide) ?_
        refine lv_iload_n E.1 E.2.1 dX13_observe_78 rfl (lv_at hl 1 rfl) ?_
        refine wIast (world' := (w_X13 g h0 h1 h2 h3 h4 h5 h6 h7 h8 h9 h10 h11 h12 h13 (upd (upd x_g_63 (0 : Int32).toNatClampNeg ((x_g_63 (0 : Int32).toNatClampNeg) + 1)) (1 : Int32).toNatClampNeg a1) x_kept_63 x_saved x_before x_was x_region x_parts x_next x_ways x_more x_whole x_isSaved x_changes_63 x_isWithin x_code_63 x_input x_length x_fault x_failed x_signs x_signMany x_at x_told x_toldMany)) E hK hW 1 rfl (by decide) dX13_observe_79 rfl (fun H locs hW => ?_)
        refine lv_iconst (v := 0) E.1 E.2.1 dX13_observe_80 (by decide) ?_
        refine lv_istore_n (lv' := [(3, .int 0), (0, .ref h0), (1, .int a1)]) E.1 E.2.1 dX13_observe_81 rfl hl (by decide) rfl (fun ls hl => ?_)
        refine lv_iconst (v := 0) E.1 E.2.1 dX13_observe_82 (by decide) ?_
        refine lv_istore (lv' := [(4, .int 0), (3, .int 0), (0, .ref h0), (1, .int a1)]) E.1 E.2.1 dX13_observe_83 hl (by decide) rfl (fun ls hl => ?_)
        refine k_X13_observe_85 E hK hA ?_ 1000 0 0 (upd (upd x_g_63 (0 : Int32).toNatClampNeg ((x_g_63 (0 : Int32).toNatClampNeg) + 1)) (1 : Int32).toNatClampNeg a1) H locs ls h hW (lv_sub hl [2, 3, 1, 0] rfl)
        · intro l3_175e x_g_175e H locs ls h hW hl
          refine lv_aload_n E.1 E.2.1 dX13_observe_175 rfl (lv_at hl 0 rfl) ?_
          refine wGet (v := .ref h1) E hK in_X13_observe_X13 hW 0 lk_X13_observe_7 0 rfl rfl (by decide) rfl rfl dX13_observe_176 ?_
          refine lv_iconst (v := 5) E.1 E.2.1 dX13_observe_179 (by decide) ?_
          refine lv_dup2_11 E.1 E.2.1 dX13_observe_180 rfl rfl ?_
          refine wIald E hK hW 1 rfl (by decide) dX13_observe_181 ?_
          refine lv_iload_n E.1 E.2.1 dX13_observe_182 rfl (lv_at hl 1 rfl) ?_
          refine lv_iadd E.1 E.2.1 dX13_observe_183 ?_
          refine wIast (world' := (w_X13 g h0 h1 h2 h3 h4 h5 h6 h7 h8 h9 h10 h11 h12 h13 (upd x_g_175e (5 : Int32).toNatClampNeg ((x_g_175e (5 : Int32).toNatClampNeg) + l3_175e)) x_kept_63 x_saved x_before x_was x_region x_parts x_next x_ways x_more x_whole x_isSaved x_changes_63 x_isWithin x_code_63 x_input x_length x_fault x_failed x_signs x_signMany x_at x_told x_toldMany)) E hK hW 1 rfl (by decide) dX13_observe_184 rfl (fun H locs hW => ?_)
          refine lv_iload_n E.1 E.2.1 dX13_observe_185 rfl (lv_at hl 1 rfl) ?_
          obtain rfl := Option.some.inj h
          exact endI E rfl hW dX13_observe_186
      refine lv_aload_n E.1 E.2.1 dX13_observe_21 rfl (lv_at hl 0 rfl) ?_
      refine lv_aload_n E.1 E.2.1 dX13_observe_22 rfl (lv_at hl 0 rfl) ?_
      refine wGet (v := .ref h1) E hK in_X13_observe_X13 hW 0 lk_X13_observe_7 0 rfl rfl (by decide) rfl rfl dX13_observe_23 ?_
      obtain ⟨r26, hc, h⟩ := bx h
      refine goU (world' := (w_X13 g h0 h1 h2 h3 h4 h5 h6 h7 h8 h9 h10 h11 h12 h13 x_g r26.1 x_saved x_before x_was x_region x_parts x_next x_ways x_more x_whole x_isSaved r26.2.1 x_isWithin r26.2.2 x_input x_length x_fault x_failed x_signs x_signMany x_at x_told x_toldMany)) hW hA (is := [0, 1, 2, 3, 4, 5, 6, 7, 8, 9, 10, 11, 12, 13]) rfl (goV (rest := []) E hK hW [0, 1, 2, 3, 4, 5, 6, 7, 8, 9, 10, 11, 12, 13] rfl rfl (c_X13_keeps__g l g h0 h1 h2 h3 h4 h5 h6 h7 h8 h9 h10 h11 h12 h13 x_g x_kept x_saved x_before x_was x_region x_parts x_next x_ways x_more x_whole x_isSaved x_changes x_isWithin r13.2 x_input x_length x_fault x_failed x_signs x_signMany x_at x_told x_toldMany (hf := hc) H.size) (cwV 1 hts gX13_observe_X13_keeps rfl rfl rfl (by decide +kernel) ⟨Nat.le_of_ble_eq_true rfl, Nat.le_of_ble_eq_true rfl⟩) 0 rfl rfl rfl hl.1 rfl rfl (Nat.le_of_ble_eq_true rfl) dX13_observe_26 ⟨Nat.zero_le _, Nat.zero_le _⟩) rfl rfl (fun H locs hW => ?_)
      refine lv_bipush (v := 32) E.1 E.2.1 dX13_observe_29 (by decide) ?_
      refine lv_iconst (v := 4) E.1 E.2.1 dX13_observe_31 (by decide) ?_
      refine lv_aload_n E.1 E.2.1 dX13_observe_32 rfl (lv_at hl 0 rfl) ?_
      refine wGet (v := .ref h1) E hK in_X13_observe_X13 hW 0 lk_X13_observe_7 0 rfl rfl (by decide) rfl rfl dX13_observe_33 ?_
      refine lv_iconst (v := 1) E.1 E.2.1 dX13_observe_36 (by decide) ?_
      refine wIald E hK hW 1 rfl (by decide) dX13_observe_37 ?_
      refine lv_imul E.1 E.2.1 dX13_observe_38 ?_
      refine lv_iadd E.1 E.2.1 dX13_observe_39 ?_
      refine lv_iload_n E.1 E.2.1 dX13_observe_40 rfl (lv_at hl 1 rfl) ?_
      refine lv_iadd E.1 E.2.1 dX13_observe_41 ?_
      refine lv_istore_n (lv' := [(2, .int ((32 + (4 * (x_g (1 : Int32).toNatClampNeg))) + a1)), (0, .ref h0), (1, .int a1)]) E.1 E.2.1 dX13_observe_42 rfl hl (by decide) rfl (fun ls hl => ?_)
      refine lv_aload_n E.1 E.2.1 dX13_observe_43 rfl (lv_at hl 1 rfl) ?_
      refine wGet (v := .ref h1) E hK in_X13_observe_X13 hW 0 lk_X13_observe_7 0 rfl rfl (by decide) rfl rfl dX13_observe_44 ?_
      refine lv_iload_n E.1 E.2.1 dX13_observe_47 rfl (lv_at hl 0 rfl) ?_
      obtain ⟨hi48, h⟩ := ox h
      refine wIald E hK hW 1 rfl hi48 dX13_observe_48 ?_
      refine lv_iconst (v := 3) E.1 E.2.1 dX13_observe_49 (by decide) ?_
      refine lv_icmp_ge (tgt := 63) E.1 E.2.1 dX13_observe_50 (by decide) (fun c50 => ?_) (fun c50 => ?_)
      · have h := it c50 h
        exact J63 x_g r26.1 r26.2.1 r26.2.2 H locs ls h hW (lv_sub hl [1, 2] rfl)
      · have h := ie c50 h
        refine lv_aload_n E.1 E.2.1 dX13_observe_53 rfl (lv_at hl 1 rfl) ?_
        refine wGet (v := .ref h1) E hK in_X13_observe_X13 hW 0 lk_X13_observe_7 0 rfl rfl (by decide) rfl rfl dX13_observe_54 ?_
        refine lv_iload_n E.1 E.2.1 dX13_observe_57 rfl (lv_at hl 0 rfl) ?_
        refine lv_dup2_11 E.1 E.2.1 dX13_observe_58 rfl rfl ?_
        refine wIald E hK hW 1 rfl hi48 dX13_observe_59 ?_
        refine lv_iconst (v := 1) E.1 E.2.1 dX13_observe_60 (by decide) ?_
        refine lv_iadd E.1 E.2.1 dX13_observe_61 ?_
        refine wIast (world' := (w_X13 g h0 h1 h2 h3 h4 h5 h6 h7 h8 h9 h10 h11 h12 h13 (upd x_g ((32 + (4 * (x_g (1 : Int32).toNatClampNeg))) + a1).toNatClampNeg ((x_g ((32 + (4 * (x_g (1 : Int32).toNatClampNeg))) + a1).toNatClampNeg) + 1)) r26.1 x_saved x_before x_was x_region x_parts x_next x_ways x_more x_whole x_isSaved r26.2.1 x_isWithin r26.2.2 x_input x_length x_fault x_failed x_signs x_signMany x_at x_told x_toldMany)) E hK hW 1 rfl hi48 dX13_observe_62 rfl (fun H locs hW => ?_)
        exact J63 (upd x_g ((32 + (4 * (x_g (1 : Int32).toNatClampNeg))) + a1).toNatClampNeg ((x_g ((32 + (4 * (x_g (1 : Int32).toNatClampNeg))) + a1).toNatClampNeg) + 1)) r26.1 r26.2.1 r26.2.2 H locs ls h hW (lv_sub hl [1, 2] rfl)
    · have h := ie c16 h
      refine lv_iconst (v := 0) E.1 E.2.1 dX13_observe_19 (by decide) ?_
      obtain rfl := Option.some.inj h
      exact endI E rfl hW dX13_observe_20
  refine lv_aload_n E.1 E.2.1 dX13_observe_0 rfl (lv_at hl 0 rfl) ?_
  refine lv_iload_n E.1 E.2.1 dX13_observe_1 rfl (lv_at hl 1 rfl) ?_
  obtain ⟨r2, hc, h⟩ := bx h
  refine goI (world' := (w_X13 g h0 h1 h2 h3 h4 h5 h6 h7 h8 h9 h10 h11 h12 h13 x_g x_kept x_saved x_before x_was x_region x_parts x_next x_ways x_more x_whole x_isSaved x_changes x_isWithin x_code x_input x_length x_fault x_failed x_signs x_signMany x_at x_told x_toldMany)) hW hA (is := []) rfl (goS (rest := [.ref h0]) E hK hW [] rfl rfl (c_X13_isSort l g a1 (hf := hc) H.size) (va_cwS 1 hts gX13_observe_X13_isSort rfl rfl rfl (by decide +kernel) ⟨Nat.le_of_ble_eq_true rfl, Nat.le_of_ble_eq_true rfl⟩) hl.1 rfl rfl (Nat.le_of_ble_eq_true rfl) dX13_observe_2 ⟨Nat.zero_le _, Nat.zero_le _⟩) rfl rfl (fun H locs hW => ?_)
  refine lv_if_eq (tgt := 12) E.1 E.2.1 dX13_observe_5 (by decide) (fun c5 => ?_) (fun c5 => ?_)
  · have h := it c5 h
    refine lv_iconst (v := 1) E.1 E.2.1 dX13_observe_12 (by decide) ?_
    exact J13 1 H locs ls h hW (lv_sub hl [0, 1] rfl)
  · have h := ie c5 h
    refine lv_iconst (v := 0) E.1 E.2.1 dX13_observe_8 (by decide) ?_
    refine lv_goto (tgt := 13) E.1 E.2.1 dX13_observe_9 (by decide) ?_
    exact J13 0 H locs ls h hW (lv_sub hl [0, 1] rfl)
theorem c_X13_observe (l : Launch) (g : GE) (h0 h1 h2 h3 h4 h5 h6 h7 h8 h9 h10 h11 h12 h13 : Nat) (x_g : Nat → Int32) (x_kept : Nat → Int32) (x_saved : Nat → Int32) (x_before : Nat → Int32) (x_was : Nat → Int32) (x_region : Nat → Int32) (x_parts : Nat → Int64) (x_next : Nat → Int64) (x_ways : Nat → Int32) (x_more : Nat → Int32) (x_whole : Int64) (x_isSaved : Int32) (x_changes : Int32) (x_isWithin : Int32) (x_code : Int32) (x_input : Nat → Int32) (x_length : Int32) (x_fault : Int32) (x_failed : Int32) (x_signs : Nat → Int32) (x_signMany : Int32) (x_at : Int32) (x_told : Nat → Int32) (x_toldMany : Int32) (a1 : Int32) {res : Int32 × (Nat → Int32) × (Nat → Int32) × Int32 × Int32} (hf : f_X13_observe x_g x_kept x_changes x_isWithin x_code a1 = some res) : CI l yX13_observe wsX13_observe rm_X13_observe g [.ref h0, .int a1] (w_X13 g h0 h1 h2 h3 h4 h5 h6 h7 h8 h9 h10 h11 h12 h13 x_g x_kept x_saved x_before x_was x_region x_parts x_next x_ways x_more x_whole x_isSaved x_changes x_isWithin x_code x_input x_length x_fault x_failed x_signs x_signMany x_at x_told x_toldMany) (w_X13 g h0 h1 h2 h3 h4 h5 h6 h7 h8 h9 h10 h11 h12 h13 res.2.1 res.2.2.1 x_saved x_before x_was x_region x_parts x_next x_ways x_more x_whole x_isSaved res.2.2.2.1 x_isWithin res.2.2.2.2 x_input x_length x_fault x_failed x_signs x_signMany x_at x_told x_toldMany) res.1 :=
  mkI (cc := cX13_observe) (maxL := 6) (by decide) rfl (Nat.le_of_ble_eq_true rfl) (fun p e s m args below meth c A H locs ls E hK hA hW hl => k_X13_observe_0 E hK hA hf hW hl)

/-! PaperStormModel.forecastCount()I X13_forecastCount -/
abbrev rm_X13_forecastCount : Room := { frames := 0, cells := 0, slots := 0, locals := 0 }
theorem in_X13_forecastCount_X13 : ∀ w ∈ wsX130, w ∈ wsX13_forecastCount := by decide +kernel
theorem lk_X13_forecastCount_58 : Cond.fieldLink RX13 58 "PaperStormModel" "code" "I" ∈ wsX13_forecastCount := by decide +kernel
theorem lk_X13_forecastCount_7 : Cond.fieldLink RX13 7 "PaperStormModel" "g" "[I" ∈ wsX13_forecastCount := by decide +kernel
noncomputable def f_X13_forecastCount (x_g : Nat → Int32) (x_code : Int32) : Option (Int32 × Int32) :=
  some ((x_g (3 : Int32).toNatClampNeg), 0)
abbrev G_X13_forecastCount (p : Program) (l : Launch) (e : Env) (s : State) (m : MethodId) (args : Array Value) (below : List Frame) (meth : Method) (c : Code) (g : GE) (A : Nat → Prop) (h0 h1 h2 h3 h4 h5 h6 h7 h8 h9 h10 h11 h12 h13 : Nat) (x_g : Nat → Int32) (x_kept : Nat → Int32) (x_saved : Nat → Int32) (x_before : Nat → Int32) (x_was : Nat → Int32) (x_region : Nat → Int32) (x_parts : Nat → Int64) (x_next : Nat → Int64) (x_ways : Nat → Int32) (x_more : Nat → Int32) (x_whole : Int64) (x_isSaved : Int32) (x_changes : Int32) (x_isWithin : Int32) (x_input : Nat → Int32) (x_length : Int32) (x_fault : Int32) (x_failed : Int32) (x_signs : Nat → Int32) (x_signMany : Int32) (x_at : Int32) (x_told : Nat → Int32) (x_toldMany : Int32) (res : Int32 × Int32) (H : Heap) (locs : List Loc) (pc : Nat) (ls : Array Slot) (st : List Value) : Prop := W p l e (headSpec wsX13_forecastCount rm_X13_forecastCount).room s m args below meth c H locs 0 0 (MQ below (PoI g A (w_X13 g h0 h1 h2 h3 h4 h5 h6 h7 h8 h9 h10 h11 h12 h13 x_g x_kept x_saved x_before x_was x_region x_parts x_next x_ways x_more x_whole x_isSaved x_changes x_isWithin res.2 x_input x_length x_fault x_failed x_signs x_signMany x_at x_told x_toldMany) res.1) args s 0 0 A) (F0 m pc ls st)
set_option maxHeartbeats 4000000 in
set_option maxRecDepth 100000 in
theorem k_X13_forecastCount_0 {p : Program} {l : Launch} {e : Env} {s : State} {m : MethodId} {args : Array Value} {below : List Frame} {meth : Method} {c : Code} {g : GE} {A : Nat → Prop} {h0 h1 h2 h3 h4 h5 h6 h7 h8 h9 h10 h11 h12 h13 : Nat} {x_g : Nat → Int32} {x_kept : Nat → Int32} {x_saved : Nat → Int32} {x_before : Nat → Int32} {x_was : Nat → Int32} {x_region : Nat → Int32} {x_parts : Nat → Int64} {x_next : Nat → Int64} {x_ways : Nat → Int32} {x_more : Nat → Int32} {x_whole : Int64} {x_isSaved : Int32} {x_changes : Int32} {x_isWithin : Int32} {x_code : Int32} {x_input : Nat → Int32} {x_length : Int32} {x_fault : Int32} {x_failed : Int32} {x_signs : Nat → Int32} {x_signMany : Int32} {x_at : Int32} {x_told : Nat → Int32} {x_toldMany : Int32} {res : Int32 × Int32} {H : Heap} {locs : List Loc} {ls : Array Slot} 
    (E : En cX13_forecastCount RX13 wsX13_forecastCount 1 (some .int) p s m args meth c) (hK : KK g s) (hA : ∀ q, s.heap.size ≤ q → A q) (h : f_X13_forecastCount x_g x_code = some res) (hW : Wo g A s H locs (w_X13 g h0 h1 h2 h3 h4 h5 h6 h7 h8 h9 h10 h11 h12 h13 x_g x_kept x_saved x_before x_was x_region x_parts x_next x_ways x_more x_whole x_isSaved x_changes x_isWithin x_code x_input x_length x_fault x_failed x_signs x_signMany x_at x_told x_toldMany)) (hl : lv_has ls 1 [(0, .ref h0)]) : G_X13_forecastCount p l e s m args below meth c g A h0 h1 h2 h3 h4 h5 h6 h7 h8 h9 h10 h11 h12 h13 x_g x_kept x_saved x_before x_was x_region x_parts x_next x_ways x_more x_whole x_isSaved x_changes x_isWithin x_input x_length x_fault x_failed x_signs x_signMany x_at x_told x_toldMany res H locs 0 ls [] := by
  have hts := E.2.2.2.1
  unfold f_X13_forecastCount at h
  refine lv_aload_n E.1 E.2.1 dX13_forecastCount_0 rfl (lv_at hl 0 rfl) ?_
  refine lv_iconst (v := 0) E.1 E.2.1 dX13_forecastCount_1 (by decide) ?_
  refine wPut (world' := (w_X13 g h0 h1 h2 h3 h4 h5 h6 h7 h8 h9 h10 h11 h12 h13 x_g x_kept x_saved x_before x_was x_region x_parts x_next x_ways x_more x_whole x_isSaved x_changes x_isWithin 0 x_input x_length x_fault x_failed x_signs x_signMany x_at x_told x_toldMany)) E hK in_X13_forecastCount_X13 tyX13 tyX13_ok nmX13 hW 14 lk_X13_forecastCount_58 0 rfl rfl (by decide) rfl rfl rfl rfl rfl (Nat.le_of_ble_eq_true rfl) dX13_forecastCount_2 rfl (fun H locs hW => ?_)
  refine lv_aload_n E.1 E.2.1 dX13_forecastCount_5 rfl (lv_at hl 0 rfl) ?_
  refine wGet (v := .ref h1) E hK in_X13_forecastCount_X13 hW 0 lk_X13_forecastCount_7 0 rfl rfl (by decide) rfl rfl dX13_forecastCount_6 ?_
  refine lv_iconst (v := 3) E.1 E.2.1 dX13_forecastCount_9 (by decide) ?_
  refine wIald E hK hW 1 rfl (by decide) dX13_forecastCount_10 ?_
  obtain rfl := Option.some.inj h
  exact endI E rfl hW dX13_forecastCount_11
theorem c_X13_forecastCount (l : Launch) (g : GE) (h0 h1 h2 h3 h4 h5 h6 h7 h8 h9 h10 h11 h12 h13 : Nat) (x_g : Nat → Int32) (x_kept : Nat → Int32) (x_saved : Nat → Int32) (x_before : Nat → Int32) (x_was : Nat → Int32) (x_region : Nat → Int32) (x_parts : Nat → Int64) (x_next : Nat → Int64) (x_ways : Nat → Int32) (x_more : Nat → Int32) (x_whole : Int64) (x_isSaved : Int32) (x_changes : Int32) (x_isWithin : Int32) (x_code : Int32) (x_input : Nat → Int32) (x_length : Int32) (x_fault : Int32) (x_failed : Int32) (x_signs : Nat → Int32) (x_signMany : Int32) (x_at : Int32) (x_told : Nat → Int32) (x_toldMany : Int32) {res : Int32 × Int32} (hf : f_X13_forecastCount x_g x_code = some res) : CI l yX13_forecastCount wsX13_forecastCount rm_X13_forecastCount g [.ref h0] (w_X13 g h0 h1 h2 h3 h4 h5 h6 h7 h8 h9 h10 h11 h12 h13 x_g x_kept x_saved x_before x_was x_region x_parts x_next x_ways x_more x_whole x_isSaved x_changes x_isWithin x_code x_input x_length x_fault x_failed x_signs x_signMany x_at x_told x_toldMany) (w_X13 g h0 h1 h2 h3 h4 h5 h6 h7 h8 h9 h10 h11 h12 h13 x_g x_kept x_saved x_before x_was x_region x_parts x_next x_ways x_more x_whole x_isSaved x_changes x_isWithin res.2 x_input x_length x_fault x_failed x_signs x_signMany x_at x_told x_toldMany) res.1 :=
  mkI (cc := cX13_forecastCount) (maxL := 1) (by decide) rfl (Nat.le_of_ble_eq_true rfl) (fun p e s m args below meth c A H locs ls E hK hA hW hl => k_X13_forecastCount_0 E hK hA hf hW hl)

/-! PaperStormModel.dayOf(I)I X13_dayOf -/
abbrev rm_X13_dayOf : Room := { frames := 2, cells := 0, slots := 0, locals := 43 }
noncomputable def f_X13_dayOf (x_g : Nat → Int32) (x_code : Int32) (a1 : Int32) : Option (Int32 × Int32) :=
  jo (fun (s1_14 : Int32) => jo (fun (x_code_30 : Int32) (s0_30 : Int32) => some (s0_30, x_code_30)) (fun j30 => (f_X13_fails x_code s1_14).bind fun r14 => if r14.1 = 0 then (f_X13_of x_g a1 0).bind fun r27 => j30 r14.2 r27 else j30 r14.2 0)) (fun j14 => (f_X13_isForecast x_g a1).bind fun r3 => if r3 = 0 then j14 1 else j14 0)
abbrev G_X13_dayOf (p : Program) (l : Launch) (e : Env) (s : State) (m : MethodId) (args : Array Value) (below : List Frame) (meth : Method) (c : Code) (g : GE) (A : Nat → Prop) (h0 h1 h2 h3 h4 h5 h6 h7 h8 h9 h10 h11 h12 h13 : Nat) (x_g : Nat → Int32) (x_kept : Nat → Int32) (x_saved : Nat → Int32) (x_before : Nat → Int32) (x_was : Nat → Int32) (x_region : Nat → Int32) (x_parts : Nat → Int64) (x_next : Nat → Int64) (x_ways : Nat → Int32) (x_more : Nat → Int32) (x_whole : Int64) (x_isSaved : Int32) (x_changes : Int32) (x_isWithin : Int32) (x_input : Nat → Int32) (x_length : Int32) (x_fault : Int32) (x_failed : Int32) (x_signs : Nat → Int32) (x_signMany : Int32) (x_at : Int32) (x_told : Nat → Int32) (x_toldMany : Int32) (res : Int32 × Int32) (H : Heap) (locs : List Loc) (pc : Nat) (ls : Array Slot) (st : List Value) : Prop := W p l e (headSpec wsX13_dayOf rm_X13_dayOf).room s m args below meth c H locs 0 0 (MQ below (PoI g A (w_X13 g h0 h1 h2 h3 h4 h5 h6 h7 h8 h9 h10 h11 h12 h13 x_g x_kept x_saved x_before x_was x_region x_parts x_next x_ways x_more x_whole x_isSaved x_changes x_isWithin res.2 x_input x_length x_fault x_failed x_signs x_signMany x_at x_told x_toldMany) res.1) args s 0 0 A) (F0 m pc ls st)
set_option maxHeartbeats 4000000 in
set_option maxRecDepth 100000 in
theorem k_X13_dayOf_0 {p : Program} {l : Launch} {e : Env} {s : State} {m : MethodId} {args : Array Value} {below : List Frame} {meth : Method} {c : Code} {g : GE} {A : Nat → Prop} {h0 h1 h2 h3 h4 h5 h6 h7 h8 h9 h10 h11 h12 h13 : Nat} {x_g : Nat → Int32} {x_kept : Nat → Int32} {x_saved : Nat → Int32} {x_before : Nat → Int32} {x_was : Nat → Int32} {x_region : Nat → Int32} {x_parts : Nat → Int64} {x_next : Nat → Int64} {x_ways : Nat → Int32} {x_more : Nat → Int32} {x_whole : Int64} {x_isSaved : Int32} {x_changes : Int32} {x_isWithin : Int32} {x_code : Int32} {x_input : Nat → Int32} {x_length : Int32} {x_fault : Int32} {x_failed : Int32} {x_signs : Nat → Int32} {x_signMany : Int32} {x_at : Int32} {x_told : Nat → Int32} {x_toldMany : Int32} {res : Int32 × Int32} {H : Heap} {locs : List Loc} {ls : Array Slot} {a1 : Int32}
    (E : En cX13_dayOf RX13 wsX13_dayOf 2 (some .int) p s m args meth c) (hK : KK g s) (hA : ∀ q, s.heap.size ≤ q → A q) (h : f_X13_dayOf x_g x_code a1 = some res) (hW : Wo g A s H locs (w_X13 g h0 h1 h2 h3 h4 h5 h6 h7 h8 h9 h10 h11 h12 h13 x_g x_kept x_saved x_before x_was x_region x_parts x_next x_ways x_more x_whole x_isSaved x_changes x_isWithin x_code x_input x_length x_fault x_failed x_signs x_signMany x_at x_told x_toldMany)) (hl : lv_has ls 2 [(0, .ref h0), (1, .int a1)]) : G_X13_dayOf p l e s m args below meth c g A h0 h1 h2 h3 h4 h5 h6 h7 h8 h9 h10 h11 h12 h13 x_g x_kept x_saved x_before x_was x_region x_parts x_next x_ways x_more x_whole x_isSaved x_changes x_isWithin x_input x_length x_fault x_failed x_signs x_signMany x_at x_told x_toldMany res H locs 0 ls [] := by
  have hts := E.2.2.2.1
  unfold f_X13_dayOf at h
  obtain ⟨j14, hj14, h⟩ := jox1 h
  have J14 : ∀ (s1_14 : Int32) (H : Heap) (locs : List Loc) (ls : Array Slot), j14 s1_14 = some res → Wo g A s H locs (w_X13 g h0 h1 h2 h3 h4 h5 h6 h7 h8 h9 h10 h11 h12 h13 x_g x_kept x_saved x_before x_was x_region x_parts x_next x_ways x_more x_whole x_isSaved x_changes x_isWithin x_code x_input x_length x_fault x_failed x_signs x_signMany x_at x_told x_toldMany) → lv_has ls 2 [(0, .ref h0), (1, .int a1)] → G_X13_dayOf p l e s m args below meth c g A h0 h1 h2 h3 h4 h5 h6 h7 h8 h9 h10 h11 h12 h13 x_g x_kept x_saved x_before x_was x_region x_parts x_next x_ways x_more x_whole x_isSaved x_changes x_isWithin x_input x_length x_fault x_failed x_signs x_signMany x_at x_told x_toldMany res H locs 14 ls [.int s1_14, .ref h0] := by
    intro s1_14 H locs ls h hW hl
    rw [hj14] at h
    obtain ⟨j30, hj30, h⟩ := jox2 h
    have J30 : ∀ (x_code_30 : Int32) (s0_30 : Int32) (H : Heap) (locs : List Loc) (ls : Array Slot), j30 x_code_30 s0_30 = some res → Wo g A s H locs (w_X13 g h0 h1 h2 h3 h4 h5 h6 h7 h8 h9 h10 h11 h12 h13 x_g x_kept x_saved x_before x_was x_region x_parts x_next x_ways x_more x_whole x_isSaved x_changes x_isWithin x_code_30 x_input x_length x_fault x_failed x_signs x_signMany x_at x_told x_toldMany) → lv_has ls 2 [] → G_X13_dayOf p l e s m args below meth c g A h0 h1 h2 h3 h4 h5 h6 h7 h8 h9 h10 h11 h12 h13 x_g x_kept x_saved x_before x_was x_region x_parts x_next x_ways x_more x_whole x_isSaved x_changes x_isWithin x_input x_length x_fault x_failed x_signs x_signMany x_at x_told x_toldMany res H locs 30 ls [.int s0_30] := by
      intro x_code_30 s0_30 H locs ls h hW hl
      rw [hj30] at h
      obtain rfl := Option.some.inj h
      exact endI E rfl hW dX13_dayOf_30
    obtain ⟨r14, hc, h⟩ := bx h
    refine goI (world' := (w_X13 g h0 h1 h2 h3 h4 h5 h6 h7 h8 h9 h10 h11 h12 h13 x_g x_kept x_saved x_before x_was x_region x_parts x_next x_ways x_more x_whole x_isSaved x_changes x_isWithin r14.2 x_input x_length x_fault x_failed x_signs x_signMany x_at x_told x_toldMany)) hW hA (is := [0, 1, 2, 3, 4, 5, 6, 7, 8, 9, 10, 11, 12, 13]) rfl (goV (rest := []) E hK hW [0, 1, 2, 3, 4, 5, 6, 7, 8, 9, 10, 11, 12, 13] rfl rfl (c_X13_fails l g h0 h1 h2 h3 h4 h5 h6 h7 h8 h9 h10 h11 h12 h13 x_g x_kept x_saved x_before x_was x_region x_parts x_next x_ways x_more x_whole x_isSaved x_changes x_isWithin x_code x_input x_length x_fault x_failed x_signs x_signMany x_at x_told x_toldMany s1_14 (hf := hc) H.size) (cwV 1 hts gX13_dayOf_X13_fails rfl rfl rfl (by decide +kernel) ⟨Nat.le_of_ble_eq_true rfl, Nat.le_of_ble_eq_true rfl⟩) 0 rfl rfl rfl hl.1 rfl rfl (Nat.le_of_ble_eq_true rfl) dX13_dayOf_14 ⟨Nat.zero_le _, Nat.zero_le _⟩) rfl rfl (fun H locs hW => ?_)
    refine lv_if_eq (tgt := 24) E.1 E.2.1 dX13_dayOf_17 (by decide) (fun c17 => ?_) (fun c17 => ?_)
    · have h := it c17 h
      refine lv_aload_n E.1 E.2.1 dX13_dayOf_24 rfl (lv_at hl 0 rfl) ?_
      refine lv_iload_n E.1 E.2.1 dX13_dayOf_25 rfl (lv_at hl 1 rfl) ?_
      refine lv_iconst (v := 0) E.1 E.2.1 dX13_dayOf_26 (by decide) ?_
      obtain ⟨r27, hc, h⟩ := bx h
      refine goI (world' := (w_X13 g h0 h1 h2 h3 h4 h5 h6 h7 h8 h9 h10 h11 h12 h13 x_g x_kept x_saved x_before x_was x_region x_parts x_next x_ways x_more x_whole x_isSaved x_changes x_isWithin r14.2 x_input x_length x_fault x_failed x_signs x_signMany x_at x_told x_toldMany)) hW hA (is := [0, 1, 2, 3, 4, 5, 6, 7, 8, 9, 10, 11, 12, 13]) rfl (goV (rest := []) E hK hW [0, 1, 2, 3, 4, 5, 6, 7, 8, 9, 10, 11, 12, 13] rfl rfl (c_X13_of l g h0 h1 h2 h3 h4 h5 h6 h7 h8 h9 h10 h11 h12 h13 x_g x_kept x_saved x_before x_was x_region x_parts x_next x_ways x_more x_whole x_isSaved x_changes x_isWithin r14.2 x_input x_length x_fault x_failed x_signs x_signMany x_at x_told x_toldMany a1 0 (hf := hc) H.size) (cwV 2 hts gX13_dayOf_X13_of rfl rfl rfl (by decide +kernel) ⟨Nat.le_of_ble_eq_true rfl, Nat.le_of_ble_eq_true rfl⟩) 0 rfl rfl rfl hl.1 rfl rfl (Nat.le_of_ble_eq_true rfl) dX13_dayOf_27 ⟨Nat.zero_le _, Nat.zero_le _⟩) rfl rfl (fun H locs hW => ?_)
      exact J30 r14.2 r27 H locs ls h hW (lv_sub hl [] rfl)
    · have h := ie c17 h
      refine lv_iconst (v := 0) E.1 E.2.1 dX13_dayOf_20 (by decide) ?_
      refine lv_goto (tgt := 30) E.1 E.2.1 dX13_dayOf_21 (by decide) ?_
      exact J30 r14.2 0 H locs ls h hW (lv_sub hl [] rfl)
  refine lv_aload_n E.1 E.2.1 dX13_dayOf_0 rfl (lv_at hl 0 rfl) ?_
  refine lv_aload_n E.1 E.2.1 dX13_dayOf_1 rfl (lv_at hl 0 rfl) ?_
  refine lv_iload_n E.1 E.2.1 dX13_dayOf_2 rfl (lv_at hl 1 rfl) ?_
  obtain ⟨r3, hc, h⟩ := bx h
  refine goI (world' := (w_X13 g h0 h1 h2 h3 h4 h5 h6 h7 h8 h9 h10 h11 h12 h13 x_g x_kept x_saved x_before x_was x_region x_parts x_next x_ways x_more x_whole x_isSaved x_changes x_isWithin x_code x_input x_length x_fault x_failed x_signs x_signMany x_at x_told x_toldMany)) hW hA (is := [0, 1, 2, 3, 4, 5, 6, 7, 8, 9, 10, 11, 12, 13]) rfl (goV (rest := [.ref h0]) E hK hW [0, 1, 2, 3, 4, 5, 6, 7, 8, 9, 10, 11, 12, 13] rfl rfl (c_X13_isForecast l g h0 h1 h2 h3 h4 h5 h6 h7 h8 h9 h10 h11 h12 h13 x_g x_kept x_saved x_before x_was x_region x_parts x_next x_ways x_more x_whole x_isSaved x_changes x_isWithin x_code x_input x_length x_fault x_failed x_signs x_signMany x_at x_told x_toldMany a1 (hf := hc) H.size) (cwV 1 hts gX13_dayOf_X13_isForecast rfl rfl rfl (by decide +kernel) ⟨Nat.le_of_ble_eq_true rfl, Nat.le_of_ble_eq_true rfl⟩) 0 rfl rfl rfl hl.1 rfl rfl (Nat.le_of_ble_eq_true rfl) dX13_dayOf_3 ⟨Nat.zero_le _, Nat.zero_le _⟩) rfl rfl (fun H locs hW => ?_)
  refine lv_if_eq (tgt := 13) E.1 E.2.1 dX13_dayOf_6 (by decide) (fun c6 => ?_) (fun c6 => ?_)
  · have h := it c6 h
    refine lv_iconst (v := 1) E.1 E.2.1 dX13_dayOf_13 (by decide) ?_
    exact J14 1 H locs ls h hW (lv_sub hl [0, 1] rfl)
  · have h := ie c6 h
    refine lv_iconst (v := 0) E.1 E.2.1 dX13_dayOf_9 (by decide) ?_
    refine lv_goto (tgt := 14) E.1 E.2.1 dX13_dayOf_10 (by decide) ?_
    exact J14 0 H locs ls h hW (lv_sub hl [0, 1] rfl)
theorem c_X13_dayOf (l : Launch) (g : GE) (h0 h1 h2 h3 h4 h5 h6 h7 h8 h9 h10 h11 h12 h13 : Nat) (x_g : Nat → Int32) (x_kept : Nat → Int32) (x_saved : Nat → Int32) (x_before : Nat → Int32) (x_was : Nat → Int32) (x_region : Nat → Int32) (x_parts : Nat → Int64) (x_next : Nat → Int64) (x_ways : Nat → Int32) (x_more : Nat → Int32) (x_whole : Int64) (x_isSaved : Int32) (x_changes : Int32) (x_isWithin : Int32) (x_code : Int32) (x_input : Nat → Int32) (x_length : Int32) (x_fault : Int32) (x_failed : Int32) (x_signs : Nat → Int32) (x_signMany : Int32) (x_at : Int32) (x_told : Nat → Int32) (x_toldMany : Int32) (a1 : Int32) {res : Int32 × Int32} (hf : f_X13_dayOf x_g x_code a1 = some res) : CI l yX13_dayOf wsX13_dayOf rm_X13_dayOf g [.ref h0, .int a1] (w_X13 g h0 h1 h2 h3 h4 h5 h6 h7 h8 h9 h10 h11 h12 h13 x_g x_kept x_saved x_before x_was x_region x_parts x_next x_ways x_more x_whole x_isSaved x_changes x_isWithin x_code x_input x_length x_fault x_failed x_signs x_signMany x_at x_told x_toldMany) (w_X13 g h0 h1 h2 h3 h4 h5 h6 h7 h8 h9 h10 h11 h12 h13 x_g x_kept x_saved x_before x_was x_region x_parts x_next x_ways x_more x_whole x_isSaved x_changes x_isWithin res.2 x_input x_length x_fault x_failed x_signs x_signMany x_at x_told x_toldMany) res.1 :=
  mkI (cc := cX13_dayOf) (maxL := 2) (by decide) rfl (Nat.le_of_ble_eq_true rfl) (fun p e s m args below meth c A H locs ls E hK hA hW hl => k_X13_dayOf_0 E hK hA hf hW hl)

/-! PaperStormModel.weatherOf(I)I X13_weatherOf -/
abbrev rm_X13_weatherOf : Room := { frames := 2, cells := 0, slots := 0, locals := 43 }
noncomputable def f_X13_weatherOf (x_g : Nat → Int32) (x_code : Int32) (a1 : Int32) : Option (Int32 × Int32) :=
  jo (fun (s1_14 : Int32) => jo (fun (x_code_30 : Int32) (s0_30 : Int32) => some (s0_30, x_code_30)) (fun j30 => (f_X13_fails x_code s1_14).bind fun r14 => if r14.1 = 0 then (f_X13_of x_g a1 1).bind fun r27 => j30 r14.2 r27 else j30 r14.2 0)) (fun j14 => (f_X13_isForecast x_g a1).bind fun r3 => if r3 = 0 then j14 1 else j14 0)
abbrev G_X13_weatherOf (p : Program) (l : Launch) (e : Env) (s : State) (m : MethodId) (args : Array Value) (below : List Frame) (meth : Method) (c : Code) (g : GE) (A : Nat → Prop) (h0 h1 h2 h3 h4 h5 h6 h7 h8 h9 h10 h11 h12 h13 : Nat) (x_g : Nat → Int32) (x_kept : Nat → Int32) (x_saved : Nat → Int32) (x_before : Nat → Int32) (x_was : Nat → Int32) (x_region : Nat → Int32) (x_parts : Nat → Int64) (x_next : Nat → Int64) (x_ways : Nat → Int32) (x_more : Nat → Int32) (x_whole : Int64) (x_isSaved : Int32) (x_changes : Int32) (x_isWithin : Int32) (x_input : Nat → Int32) (x_length : Int32) (x_fault : Int32) (x_failed : Int32) (x_signs : Nat → Int32) (x_signMany : Int32) (x_at : Int32) (x_told : Nat → Int32) (x_toldMany : Int32) (res : Int32 × Int32) (H : Heap) (locs : List Loc) (pc : Nat) (ls : Array Slot) (st : List Value) : Prop := W p l e (headSpec wsX13_weatherOf rm_X13_weatherOf).room s m args below meth c H locs 0 0 (MQ below (PoI g A (w_X13 g h0 h1 h2 h3 h4 h5 h6 h7 h8 h9 h10 h11 h12 h13 x_g x_kept x_saved x_before x_was x_region x_parts x_next x_ways x_more x_whole x_isSaved x_changes x_isWithin res.2 x_input x_length x_fault x_failed x_signs x_signMany x_at x_told x_toldMany) res.1) args s 0 0 A) (F0 m pc ls st)
set_option maxHeartbeats 4000000 in
set_option maxRecDepth 100000 in
theorem k_X13_weatherOf_0 {p : Program} {l : Launch} {e : Env} {s : State} {m : MethodId} {args : Array Value} {below : List Frame} {meth : Method} {c : Code} {g : GE} {A : Nat → Prop} {h0 h1 h2 h3 h4 h5 h6 h7 h8 h9 h10 h11 h12 h13 : Nat} {x_g : Nat → Int32} {x_kept : Nat → Int32} {x_saved : Nat → Int32} {x_before : Nat → Int32} {x_was : Nat → Int32} {x_region : Nat → Int32} {x_parts : Nat → Int64} {x_next : Nat → Int64} {x_ways : Nat → Int32} {x_more : Nat → Int32} {x_whole : Int64} {x_isSaved : Int32} {x_changes : Int32} {x_isWithin : Int32} {x_code : Int32} {x_input : Nat → Int32} {x_length : Int32} {x_fault : Int32} {x_failed : Int32} {x_signs : Nat → Int32} {x_signMany : Int32} {x_at : Int32} {x_told : Nat → Int32} {x_toldMany : Int32} {res : Int32 × Int32} {H : Heap} {locs : List Loc} {ls : Array Slot} {a1 : Int32}
    (E : En cX13_weatherOf RX13 wsX13_weatherOf 2 (some .int) p s m args meth c) (hK : KK g s) (hA : ∀ q, s.heap.size ≤ q → A q) (h : f_X13_weatherOf x_g x_code a1 = some res) (hW : Wo g A s H locs (w_X13 g h0 h1 h2 h3 h4 h5 h6 h7 h8 h9 h10 h11 h12 h13 x_g x_kept x_saved x_before x_was x_region x_parts x_next x_ways x_more x_whole x_isSaved x_changes x_isWithin x_code x_input x_length x_fault x_failed x_signs x_signMany x_at x_told x_toldMany)) (hl : lv_has ls 2 [(0, .ref h0), (1, .int a1)]) : G_X13_weatherOf p l e s m args below meth c g A h0 h1 h2 h3 h4 h5 h6 h7 h8 h9 h10 h11 h12 h13 x_g x_kept x_saved x_before x_was x_region x_parts x_next x_ways x_more x_whole x_isSaved x_changes x_isWithin x_input x_length x_fault x_failed x_signs x_signMany x_at x_told x_toldMany res H locs 0 ls [] := by
  have hts := E.2.2.2.1
  unfold f_X13_weatherOf at h
  obtain ⟨j14, hj14, h⟩ := jox1 h
  have J14 : ∀ (s1_14 : Int32) (H : Heap) (locs : List Loc) (ls : Array Slot), j14 s1_14 = some res → Wo g A s H locs (w_X13 g h0 h1 h2 h3 h4 h5 h6 h7 h8 h9 h10 h11 h12 h13 x_g x_kept x_saved x_before x_was x_region x_parts x_next x_ways x_more x_whole x_isSaved x_changes x_isWithin x_code x_input x_length x_fault x_failed x_signs x_signMany x_at x_told x_toldMany) → lv_has ls 2 [(0, .ref h0), (1, .int a1)] → G_X13_weatherOf p l e s m args below meth c g A h0 h1 h2 h3 h4 h5 h6 h7 h8 h9 h10 h11 h12 h13 x_g x_kept x_saved x_before x_was x_region x_parts x_next x_ways x_more x_whole x_isSaved x_changes x_isWithin x_input x_length x_fault x_failed x_signs x_signMany x_at x_told x_toldMany res H locs 14 ls [.int s1_14, .ref h0] := by
    intro s1_14 H locs ls h hW hl
    rw [hj14] at h
    obtain ⟨j30, hj30, h⟩ := jox2 h
    have J30 : ∀ (x_code_30 : Int32) (s0_30 : Int32) (H : Heap) (locs : List Loc) (ls : Array Slot), j30 x_code_30 s0_30 = some res → Wo g A s H locs (w_X13 g h0 h1 h2 h3 h4 h5 h6 h7 h8 h9 h10 h11 h12 h13 x_g x_kept x_saved x_before x_was x_region x_parts x_next x_ways x_more x_whole x_isSaved x_changes x_isWithin x_code_30 x_input x_length x_fault x_failed x_signs x_signMany x_at x_told x_toldMany) → lv_has ls 2 [] → G_X13_weatherOf p l e s m args below meth c g A h0 h1 h2 h3 h4 h5 h6 h7 h8 h9 h10 h11 h12 h13 x_g x_kept x_saved x_before x_was x_region x_parts x_next x_ways x_more x_whole x_isSaved x_changes x_isWithin x_input x_length x_fault x_failed x_signs x_signMany x_at x_told x_toldMany res H locs 30 ls [.int s0_30] := by
      intro x_code_30 s0_30 H locs ls h hW hl
      rw [hj30] at h
      obtain rfl := Option.some.inj h
      exact endI E rfl hW dX13_weatherOf_30
    obtain ⟨r14, hc, h⟩ := bx h
    refine goI (world' := (w_X13 g h0 h1 h2 h3 h4 h5 h6 h7 h8 h9 h10 h11 h12 h13 x_g x_kept x_saved x_before x_was x_region x_parts x_next x_ways x_more x_whole x_isSaved x_changes x_isWithin r14.2 x_input x_length x_fault x_failed x_signs x_signMany x_at x_told x_toldMany)) hW hA (is := [0, 1, 2, 3, 4, 5, 6, 7, 8, 9, 10, 11, 12, 13]) rfl (goV (rest := []) E hK hW [0, 1, 2, 3, 4, 5, 6, 7, 8, 9, 10, 11, 12, 13] rfl rfl (c_X13_fails l g h0 h1 h2 h3 h4 h5 h6 h7 h8 h9 h10 h11 h12 h13 x_g x_kept x_saved x_before x_was x_region x_parts x_next x_ways x_more x_whole x_isSaved x_changes x_isWithin x_code x_input x_length x_fault x_failed x_signs x_signMany x_at x_told x_toldMany s1_14 (hf := hc) H.size) (cwV 1 hts gX13_weatherOf_X13_fails rfl rfl rfl (by decide +kernel) ⟨Nat.le_of_ble_eq_true rfl, Nat.le_of_ble_eq_true rfl⟩) 0 rfl rfl rfl hl.1 rfl rfl (Nat.le_of_ble_eq_true rfl) dX13_weatherOf_14 ⟨Nat.zero_le _, Nat.zero_le _⟩) rfl rfl (fun H locs hW => ?_)
    refine lv_if_eq (tgt := 24) E.1 E.2.1 dX13_weatherOf_17 (by decide) (fun c17 => ?_) (fun c17 => ?_)
    · have h := it c17 h
      refine lv_aload_n E.1 E.2.1 dX13_weatherOf_24 rfl (lv_at hl 0 rfl) ?_
      refine lv_iload_n E.1 E.2.1 dX13_weatherOf_25 rfl (lv_at hl 1 rfl) ?_
      refine lv_iconst (v := 1) E.1 E.2.1 dX13_weatherOf_26 (by decide) ?_
      obtain ⟨r27, hc, h⟩ := bx h
      refine goI (world' := (w_X13 g h0 h1 h2 h3 h4 h5 h6 h7 h8 h9 h10 h11 h12 h13 x_g x_kept x_saved x_before x_was x_region x_parts x_next x_ways x_more x_whole x_isSaved x_changes x_isWithin r14.2 x_input x_length x_fault x_failed x_signs x_signMany x_at x_told x_toldMany)) hW hA (is := [0, 1, 2, 3, 4, 5, 6, 7, 8, 9, 10, 11, 12, 13]) rfl (goV (rest := []) E hK hW [0, 1, 2, 3, 4, 5, 6, 7, 8, 9, 10, 11, 12, 13] rfl rfl (c_X13_of l g h0 h1 h2 h3 h4 h5 h6 h7 h8 h9 h10 h11 h12 h13 x_g x_kept x_saved x_before x_was x_region x_parts x_next x_ways x_more x_whole x_isSaved x_changes x_isWithin r14.2 x_input x_length x_fault x_failed x_signs x_signMany x_at x_told x_toldMany a1 1 (hf := hc) H.size) (cwV 2 hts gX13_weatherOf_X13_of rfl rfl rfl (by decide +kernel) ⟨Nat.le_of_ble_eq_true rfl, Nat.le_of_ble_eq_true rfl⟩) 0 rfl rfl rfl hl.1 rfl rfl (Nat.le_of_ble_eq_true rfl) dX13_weatherOf_27 ⟨Nat.zero_le _, Nat.zero_le _⟩) rfl rfl (fun H locs hW => ?_)
      exact J30 r14.2 r27 H locs ls h hW (lv_sub hl [] rfl)
    · have h := ie c17 h
      refine lv_iconst (v := 0) E.1 E.2.1 dX13_weatherOf_20 (by decide) ?_
      refine lv_goto (tgt := 30) E.1 E.2.1 dX13_weatherOf_21 (by decide) ?_
      exact J30 r14.2 0 H locs ls h hW (lv_sub hl [] rfl)
  refine lv_aload_n E.1 E.2.1 dX13_weatherOf_0 rfl (lv_at hl 0 rfl) ?_
  refine lv_aload_n E.1 E.2.1 dX13_weatherOf_1 rfl (lv_at hl 0 rfl) ?_
  refine lv_iload_n E.1 E.2.1 dX13_weatherOf_2 rfl (lv_at hl 1 rfl) ?_
  obtain ⟨r3, hc, h⟩ := bx h
  refine goI (world' := (w_X13 g h0 h1 h2 h3 h4 h5 h6 h7 h8 h9 h10 h11 h12 h13 x_g x_kept x_saved x_before x_was x_region x_parts x_next x_ways x_more x_whole x_isSaved x_changes x_isWithin x_code x_input x_length x_fault x_failed x_signs x_signMany x_at x_told x_toldMany)) hW hA (is := [0, 1, 2, 3, 4, 5, 6, 7, 8, 9, 10, 11, 12, 13]) rfl (goV (rest := [.ref h0]) E hK hW [0, 1, 2, 3, 4, 5, 6, 7, 8, 9, 10, 11, 12, 13] rfl rfl (c_X13_isForecast l g h0 h1 h2 h3 h4 h5 h6 h7 h8 h9 h10 h11 h12 h13 x_g x_kept x_saved x_before x_was x_region x_parts x_next x_ways x_more x_whole x_isSaved x_changes x_isWithin x_code x_input x_length x_fault x_failed x_signs x_signMany x_at x_told x_toldMany a1 (hf := hc) H.size) (cwV 1 hts gX13_weatherOf_X13_isForecast rfl rfl rfl (by decide +kernel) ⟨Nat.le_of_ble_eq_true rfl, Nat.le_of_ble_eq_true rfl⟩) 0 rfl rfl rfl hl.1 rfl rfl (Nat.le_of_ble_eq_true rfl) dX13_weatherOf_3 ⟨Nat.zero_le _, Nat.zero_le _⟩) rfl rfl (fun H locs hW => ?_)
  refine lv_if_eq (tgt := 13) E.1 E.2.1 dX13_weatherOf_6 (by decide) (fun c6 => ?_) (fun c6 => ?_)
  · have h := it c6 h
    refine lv_iconst (v := 1) E.1 E.2.1 dX13_weatherOf_13 (by decide) ?_
    exact J14 1 H locs ls h hW (lv_sub hl [0, 1] rfl)
  · have h := ie c6 h
    refine lv_iconst (v := 0) E.1 E.2.1 dX13_weatherOf_9 (by decide) ?_
    refine lv_goto (tgt := 14) E.1 E.2.1 dX13_weatherOf_10 (by decide) ?_
    exact J14 0 H locs ls h hW (lv_sub hl [0, 1] rfl)
theorem c_X13_weatherOf (l : Launch) (g : GE) (h0 h1 h2 h3 h4 h5 h6 h7 h8 h9 h10 h11 h12 h13 : Nat) (x_g : Nat → Int32) (x_kept : Nat → Int32) (x_saved : Nat → Int32) (x_before : Nat → Int32) (x_was : Nat → Int32) (x_region : Nat → Int32) (x_parts : Nat → Int64) (x_next : Nat → Int64) (x_ways : Nat → Int32) (x_more : Nat → Int32) (x_whole : Int64) (x_isSaved : Int32) (x_changes : Int32) (x_isWithin : Int32) (x_code : Int32) (x_input : Nat → Int32) (x_length : Int32) (x_fault : Int32) (x_failed : Int32) (x_signs : Nat → Int32) (x_signMany : Int32) (x_at : Int32) (x_told : Nat → Int32) (x_toldMany : Int32) (a1 : Int32) {res : Int32 × Int32} (hf : f_X13_weatherOf x_g x_code a1 = some res) : CI l yX13_weatherOf wsX13_weatherOf rm_X13_weatherOf g [.ref h0, .int a1] (w_X13 g h0 h1 h2 h3 h4 h5 h6 h7 h8 h9 h10 h11 h12 h13 x_g x_kept x_saved x_before x_was x_region x_parts x_next x_ways x_more x_whole x_isSaved x_changes x_isWithin x_code x_input x_length x_fault x_failed x_signs x_signMany x_at x_told x_toldMany) (w_X13 g h0 h1 h2 h3 h4 h5 h6 h7 h8 h9 h10 h11 h12 h13 x_g x_kept x_saved x_before x_was x_region x_parts x_next x_ways x_more x_whole x_isSaved x_changes x_isWithin res.2 x_input x_length x_fault x_failed x_signs x_signMany x_at x_told x_toldMany) res.1 :=
  mkI (cc := cX13_weatherOf) (maxL := 2) (by decide) rfl (Nat.le_of_ble_eq_true rfl) (fun p e s m args below meth c A H locs ls E hK hA hW hl => k_X13_weatherOf_0 E hK hA hf hW hl)

/-! PaperStormModel.scoredCount()I X13_scoredCount -/
abbrev rm_X13_scoredCount : Room := { frames := 0, cells := 0, slots := 0, locals := 0 }
theorem in_X13_scoredCount_X13 : ∀ w ∈ wsX130, w ∈ wsX13_scoredCount := by decide +kernel
theorem lk_X13_scoredCount_58 : Cond.fieldLink RX13 58 "PaperStormModel" "code" "I" ∈ wsX13_scoredCount := by decide +kernel
theorem lk_X13_scoredCount_7 : Cond.fieldLink RX13 7 "PaperStormModel" "g" "[I" ∈ wsX13_scoredCount := by decide +kernel
noncomputable def f_X13_scoredCount (x_g : Nat → Int32) (x_code : Int32) : Option (Int32 × Int32) :=
  some ((x_g (4 : Int32).toNatClampNeg), 0)
abbrev G_X13_scoredCount (p : Program) (l : Launch) (e : Env) (s : State) (m : MethodId) (args : Array Value) (below : List Frame) (meth : Method) (c : Code) (g : GE) (A : Nat → Prop) (h0 h1 h2 h3 h4 h5 h6 h7 h8 h9 h10 h11 h12 h13 : Nat) (x_g : Nat → Int32) (x_kept : Nat → Int32) (x_saved : Nat → Int32) (x_before : Nat → Int32) (x_was : Nat → Int32) (x_region : Nat → Int32) (x_parts : Nat → Int64) (x_next : Nat → Int64) (x_ways : Nat → Int32) (x_more : Nat → Int32) (x_whole : Int64) (x_isSaved : Int32) (x_changes : Int32) (x_isWithin : Int32) (x_input : Nat → Int32) (x_length : Int32) (x_fault : Int32) (x_failed : Int32) (x_signs : Nat → Int32) (x_signMany : Int32) (x_at : Int32) (x_told : Nat → Int32) (x_toldMany : Int32) (res : Int32 × Int32) (H : Heap) (locs : List Loc) (pc : Nat) (ls : Array Slot) (st : List Value) : Prop := W p l e (headSpec wsX13_scoredCount rm_X13_scoredCount).room s m args below meth c H locs 0 0 (MQ below (PoI g A (w_X13 g h0 h1 h2 h3 h4 h5 h6 h7 h8 h9 h10 h11 h12 h13 x_g x_kept x_saved x_before x_was x_region x_parts x_next x_ways x_more x_whole x_isSaved x_changes x_isWithin res.2 x_input x_length x_fault x_failed x_signs x_signMany x_at x_told x_toldMany) res.1) args s 0 0 A) (F0 m pc ls st)
set_option maxHeartbeats 4000000 in
set_option maxRecDepth 100000 in
theorem k_X13_scoredCount_0 {p : Program} {l : Launch} {e : Env} {s : State} {m : MethodId} {args : Array Value} {below : List Frame} {meth : Method} {c : Code} {g : GE} {A : Nat → Prop} {h0 h1 h2 h3 h4 h5 h6 h7 h8 h9 h10 h11 h12 h13 : Nat} {x_g : Nat → Int32} {x_kept : Nat → Int32} {x_saved : Nat → Int32} {x_before : Nat → Int32} {x_was : Nat → Int32} {x_region : Nat → Int32} {x_parts : Nat → Int64} {x_next : Nat → Int64} {x_ways : Nat → Int32} {x_more : Nat → Int32} {x_whole : Int64} {x_isSaved : Int32} {x_changes : Int32} {x_isWithin : Int32} {x_code : Int32} {x_input : Nat → Int32} {x_length : Int32} {x_fault : Int32} {x_failed : Int32} {x_signs : Nat → Int32} {x_signMany : Int32} {x_at : Int32} {x_told : Nat → Int32} {x_toldMany : Int32} {res : Int32 × Int32} {H : Heap} {locs : List Loc} {ls : Array Slot} 
    (E : En cX13_scoredCount RX13 wsX13_scoredCount 1 (some .int) p s m args meth c) (hK : KK g s) (hA : ∀ q, s.heap.size ≤ q → A q) (h : f_X13_scoredCount x_g x_code = some res) (hW : Wo g A s H locs (w_X13 g h0 h1 h2 h3 h4 h5 h6 h7 h8 h9 h10 h11 h12 h13 x_g x_kept x_saved x_before x_was x_region x_parts x_next x_ways x_more x_whole x_isSaved x_changes x_isWithin x_code x_input x_length x_fault x_failed x_signs x_signMany x_at x_told x_toldMany)) (hl : lv_has ls 1 [(0, .ref h0)]) : G_X13_scoredCount p l e s m args below meth c g A h0 h1 h2 h3 h4 h5 h6 h7 h8 h9 h10 h11 h12 h13 x_g x_kept x_saved x_before x_was x_region x_parts x_next x_ways x_more x_whole x_isSaved x_changes x_isWithin x_input x_length x_fault x_failed x_signs x_signMany x_at x_told x_toldMany res H locs 0 ls [] := by
  have hts := E.2.2.2.1
  unfold f_X13_scoredCount at h
  refine lv_aload_n E.1 E.2.1 dX13_scoredCount_0 rfl (lv_at hl 0 rfl) ?_
  refine lv_iconst (v := 0) E.1 E.2.1 dX13_scoredCount_1 (by decide) ?_
  refine wPut (world' := (w_X13 g h0 h1 h2 h3 h4 h5 h6 h7 h8 h9 h10 h11 h12 h13 x_g x_kept x_saved x_before x_was x_region x_parts x_next x_ways x_more x_whole x_isSaved x_changes x_isWithin 0 x_input x_length x_fault x_failed x_signs x_signMany x_at x_told x_toldMany)) E hK in_X13_scoredCount_X13 tyX13 tyX13_ok nmX13 hW 14 lk_X13_scoredCount_58 0 rfl rfl (by decide) rfl rfl rfl rfl rfl (Nat.le_of_ble_eq_true rfl) dX13_scoredCount_2 rfl (fun H locs hW => ?_)
  refine lv_aload_n E.1 E.2.1 dX13_scoredCount_5 rfl (lv_at hl 0 rfl) ?_
  refine wGet (v := .ref h1) E hK in_X13_scoredCount_X13 hW 0 lk_X13_scoredCount_7 0 rfl rfl (by decide) rfl rfl dX13_scoredCount_6 ?_
  refine lv_iconst (v := 4) E.1 E.2.1 dX13_scoredCount_9 (by decide) ?_
  refine wIald E hK hW 1 rfl (by decide) dX13_scoredCount_10 ?_
  obtain rfl := Option.some.inj h
  exact endI E rfl hW dX13_scoredCount_11
theorem c_X13_scoredCount (l : Launch) (g : GE) (h0 h1 h2 h3 h4 h5 h6 h7 h8 h9 h10 h11 h12 h13 : Nat) (x_g : Nat → Int32) (x_kept : Nat → Int32) (x_saved : Nat → Int32) (x_before : Nat → Int32) (x_was : Nat → Int32) (x_region : Nat → Int32) (x_parts : Nat → Int64) (x_next : Nat → Int64) (x_ways : Nat → Int32) (x_more : Nat → Int32) (x_whole : Int64) (x_isSaved : Int32) (x_changes : Int32) (x_isWithin : Int32) (x_code : Int32) (x_input : Nat → Int32) (x_length : Int32) (x_fault : Int32) (x_failed : Int32) (x_signs : Nat → Int32) (x_signMany : Int32) (x_at : Int32) (x_told : Nat → Int32) (x_toldMany : Int32) {res : Int32 × Int32} (hf : f_X13_scoredCount x_g x_code = some res) : CI l yX13_scoredCount wsX13_scoredCount rm_X13_scoredCount g [.ref h0] (w_X13 g h0 h1 h2 h3 h4 h5 h6 h7 h8 h9 h10 h11 h12 h13 x_g x_kept x_saved x_before x_was x_region x_parts x_next x_ways x_more x_whole x_isSaved x_changes x_isWithin x_code x_input x_length x_fault x_failed x_signs x_signMany x_at x_told x_toldMany) (w_X13 g h0 h1 h2 h3 h4 h5 h6 h7 h8 h9 h10 h11 h12 h13 x_g x_kept x_saved x_before x_was x_region x_parts x_next x_ways x_more x_whole x_isSaved x_changes x_isWithin res.2 x_input x_length x_fault x_failed x_signs x_signMany x_at x_told x_toldMany) res.1 :=
  mkI (cc := cX13_scoredCount) (maxL := 1) (by decide) rfl (Nat.le_of_ble_eq_true rfl) (fun p e s m args below meth c A H locs ls E hK hA hW hl => k_X13_scoredCount_0 E hK hA hf hW hl)

/-! PaperStormModel.totalError()I X13_totalError -/
abbrev rm_X13_totalError : Room := { frames := 0, cells := 0, slots := 0, locals := 0 }
theorem in_X13_totalError_X13 : ∀ w ∈ wsX130, w ∈ wsX13_totalError := by decide +kernel
theorem lk_X13_totalError_58 : Cond.fieldLink RX13 58 "PaperStormModel" "code" "I" ∈ wsX13_totalError := by decide +kernel
theorem lk_X13_totalError_7 : Cond.fieldLink RX13 7 "PaperStormModel" "g" "[I" ∈ wsX13_totalError := by decide +kernel
noncomputable def f_X13_totalError (x_g : Nat → Int32) (x_code : Int32) : Option (Int32 × Int32) :=
  some ((x_g (5 : Int32).toNatClampNeg), 0)
abbrev G_X13_totalError (p : Program) (l : Launch) (e : Env) (s : State) (m : MethodId) (args : Array Value) (below : List Frame) (meth : Method) (c : Code) (g : GE) (A : Nat → Prop) (h0 h1 h2 h3 h4 h5 h6 h7 h8 h9 h10 h11 h12 h13 : Nat) (x_g : Nat → Int32) (x_kept : Nat → Int32) (x_saved : Nat → Int32) (x_before : Nat → Int32) (x_was : Nat → Int32) (x_region : Nat → Int32) (x_parts : Nat → Int64) (x_next : Nat → Int64) (x_ways : Nat → Int32) (x_more : Nat → Int32) (x_whole : Int64) (x_isSaved : Int32) (x_changes : Int32) (x_isWithin : Int32) (x_input : Nat → Int32) (x_length : Int32) (x_fault : Int32) (x_failed : Int32) (x_signs : Nat → Int32) (x_signMany : Int32) (x_at : Int32) (x_told : Nat → Int32) (x_toldMany : Int32) (res : Int32 × Int32) (H : Heap) (locs : List Loc) (pc : Nat) (ls : Array Slot) (st : List Value) : Prop := W p l e (headSpec wsX13_totalError rm_X13_totalError).room s m args below meth c H locs 0 0 (MQ below (PoI g A (w_X13 g h0 h1 h2 h3 h4 h5 h6 h7 h8 h9 h10 h11 h12 h13 x_g x_kept x_saved x_before x_was x_region x_parts x_next x_ways x_more x_whole x_isSaved x_changes x_isWithin res.2 x_input x_length x_fault x_failed x_signs x_signMany x_at x_told x_toldMany) res.1) args s 0 0 A) (F0 m pc ls st)
set_option maxHeartbeats 4000000 in
set_option maxRecDepth 100000 in
theorem k_X13_totalError_0 {p : Program} {l : Launch} {e : Env} {s : State} {m : MethodId} {args : Array Value} {below : List Frame} {meth : Method} {c : Code} {g : GE} {A : Nat → Prop} {h0 h1 h2 h3 h4 h5 h6 h7 h8 h9 h10 h11 h12 h13 : Nat} {x_g : Nat → Int32} {x_kept : Nat → Int32} {x_saved : Nat → Int32} {x_before : Nat → Int32} {x_was : Nat → Int32} {x_region : Nat → Int32} {x_parts : Nat → Int64} {x_next : Nat → Int64} {x_ways : Nat → Int32} {x_more : Nat → Int32} {x_whole : Int64} {x_isSaved : Int32} {x_changes : Int32} {x_isWithin : Int32} {x_code : Int32} {x_input : Nat → Int32} {x_length : Int32} {x_fault : Int32} {x_failed : Int32} {x_signs : Nat → Int32} {x_signMany : Int32} {x_at : Int32} {x_told : Nat → Int32} {x_toldMany : Int32} {res : Int32 × Int32} {H : Heap} {locs : List Loc} {ls : Array Slot} 
    (E : En cX13_totalError RX13 wsX13_totalError 1 (some .int) p s m args meth c) (hK : KK g s) (hA : ∀ q, s.heap.size ≤ q → A q) (h : f_X13_totalError x_g x_code = some res) (hW : Wo g A s H locs (w_X13 g h0 h1 h2 h3 h4 h5 h6 h7 h8 h9 h10 h11 h12 h13 x_g x_kept x_saved x_before x_was x_region x_parts x_next x_ways x_more x_whole x_isSaved x_changes x_isWithin x_code x_input x_length x_fault x_failed x_signs x_signMany x_at x_told x_toldMany)) (hl : lv_has ls 1 [(0, .ref h0)]) : G_X13_totalError p l e s m args below meth c g A h0 h1 h2 h3 h4 h5 h6 h7 h8 h9 h10 h11 h12 h13 x_g x_kept x_saved x_before x_was x_region x_parts x_next x_ways x_more x_whole x_isSaved x_changes x_isWithin x_input x_length x_fault x_failed x_signs x_signMany x_at x_told x_toldMany res H locs 0 ls [] := by
  have hts := E.2.2.2.1
  unfold f_X13_totalError at h
  refine lv_aload_n E.1 E.2.1 dX13_totalError_0 rfl (lv_at hl 0 rfl) ?_
  refine lv_iconst (v := 0) E.1 E.2.1 dX13_totalError_1 (by decide) ?_
  refine wPut (world' := (w_X13 g h0 h1 h2 h3 h4 h5 h6 h7 h8 h9 h10 h11 h12 h13 x_g x_kept x_saved x_before x_was x_region x_parts x_next x_ways x_more x_whole x_isSaved x_changes x_isWithin 0 x_input x_length x_fault x_failed x_signs x_signMany x_at x_told x_toldMany)) E hK in_X13_totalError_X13 tyX13 tyX13_ok nmX13 hW 14 lk_X13_totalError_58 0 rfl rfl (by decide) rfl rfl rfl rfl rfl (Nat.le_of_ble_eq_true rfl) dX13_totalError_2 rfl (fun H locs hW => ?_)
  refine lv_aload_n E.1 E.2.1 dX13_totalError_5 rfl (lv_at hl 0 rfl) ?_
  refine wGet (v := .ref h1) E hK in_X13_totalError_X13 hW 0 lk_X13_totalError_7 0 rfl rfl (by decide) rfl rfl dX13_totalError_6 ?_
  refine lv_iconst (v := 5) E.1 E.2.1 dX13_totalError_9 (by decide) ?_
  refine wIald E hK hW 1 rfl (by decide) dX13_totalError_10 ?_
  obtain rfl := Option.some.inj h
  exact endI E rfl hW dX13_totalError_11
theorem c_X13_totalError (l : Launch) (g : GE) (h0 h1 h2 h3 h4 h5 h6 h7 h8 h9 h10 h11 h12 h13 : Nat) (x_g : Nat → Int32) (x_kept : Nat → Int32) (x_saved : Nat → Int32) (x_before : Nat → Int32) (x_was : Nat → Int32) (x_region : Nat → Int32) (x_parts : Nat → Int64) (x_next : Nat → Int64) (x_ways : Nat → Int32) (x_more : Nat → Int32) (x_whole : Int64) (x_isSaved : Int32) (x_changes : Int32) (x_isWithin : Int32) (x_code : Int32) (x_input : Nat → Int32) (x_length : Int32) (x_fault : Int32) (x_failed : Int32) (x_signs : Nat → Int32) (x_signMany : Int32) (x_at : Int32) (x_told : Nat → Int32) (x_toldMany : Int32) {res : Int32 × Int32} (hf : f_X13_totalError x_g x_code = some res) : CI l yX13_totalError wsX13_totalError rm_X13_totalError g [.ref h0] (w_X13 g h0 h1 h2 h3 h4 h5 h6 h7 h8 h9 h10 h11 h12 h13 x_g x_kept x_saved x_before x_was x_region x_parts x_next x_ways x_more x_whole x_isSaved x_changes x_isWithin x_code x_input x_length x_fault x_failed x_signs x_signMany x_at x_told x_toldMany) (w_X13 g h0 h1 h2 h3 h4 h5 h6 h7 h8 h9 h10 h11 h12 h13 x_g x_kept x_saved x_before x_was x_region x_parts x_next x_ways x_more x_whole x_isSaved x_changes x_isWithin res.2 x_input x_length x_fault x_failed x_signs x_signMany x_at x_told x_toldMany) res.1 :=
  mkI (cc := cX13_totalError) (maxL := 1) (by decide) rfl (Nat.le_of_ble_eq_true rfl) (fun p e s m args below meth c A H locs ls E hK hA hW hl => k_X13_totalError_0 E hK hA hf hW hl)

/-! PaperStormModel.writes(I)V X13_writes -/
abbrev rm_X13_writes : Room := { frames := 0, cells := 0, slots := 0, locals := 0 }
theorem in_X13_writes_X13 : ∀ w ∈ wsX130, w ∈ wsX13_writes := by decide +kernel
theorem lk_X13_writes_169 : Cond.fieldLink RX13 169 "PaperStormModel" "signMany" "I" ∈ wsX13_writes := by decide +kernel
theorem lk_X13_writes_51 : Cond.fieldLink RX13 51 "PaperStormModel" "signs" "[C" ∈ wsX13_writes := by decide +kernel
noncomputable def f_X13_writes (x_signs : Nat → Int32) (x_signMany : Int32) (a1 : Int32) : Option ((Nat → Int32) × Int32) :=
  if x_signMany < 0 ∨ 180 ≤ x_signMany.toNatClampNeg then none else some ((upd x_signs x_signMany.toNatClampNeg (vp_nar .char (((a1 : Int32).toUInt32 % 65536).toInt32))), (x_signMany + 1))
abbrev G_X13_writes (p : Program) (l : Launch) (e : Env) (s : State) (m : MethodId) (args : Array Value) (below : List Frame) (meth : Method) (c : Code) (g : GE) (A : Nat → Prop) (h0 h1 h2 h3 h4 h5 h6 h7 h8 h9 h10 h11 h12 h13 : Nat) (x_g : Nat → Int32) (x_kept : Nat → Int32) (x_saved : Nat → Int32) (x_before : Nat → Int32) (x_was : Nat → Int32) (x_region : Nat → Int32) (x_parts : Nat → Int64) (x_next : Nat → Int64) (x_ways : Nat → Int32) (x_more : Nat → Int32) (x_whole : Int64) (x_isSaved : Int32) (x_changes : Int32) (x_isWithin : Int32) (x_code : Int32) (x_input : Nat → Int32) (x_length : Int32) (x_fault : Int32) (x_failed : Int32) (x_at : Int32) (x_told : Nat → Int32) (x_toldMany : Int32) (res : (Nat → Int32) × Int32) (H : Heap) (locs : List Loc) (pc : Nat) (ls : Array Slot) (st : List Value) : Prop := W p l e (headSpec wsX13_writes rm_X13_writes).room s m args below meth c H locs 0 0 (MQ below (PoV g A (w_X13 g h0 h1 h2 h3 h4 h5 h6 h7 h8 h9 h10 h11 h12 h13 x_g x_kept x_saved x_before x_was x_region x_parts x_next x_ways x_more x_whole x_isSaved x_changes x_isWithin x_code x_input x_length x_fault x_failed res.1 res.2 x_at x_told x_toldMany)) args s 0 0 A) (F0 m pc ls st)
set_option maxHeartbeats 4000000 in
set_option maxRecDepth 100000 in
theorem k_X13_writes_0 {p : Program} {l : Launch} {e : Env} {s : State} {m : MethodId} {args : Array Value} {below : List Frame} {meth : Method} {c : Code} {g : GE} {A : Nat → Prop} {h0 h1 h2 h3 h4 h5 h6 h7 h8 h9 h10 h11 h12 h13 : Nat} {x_g : Nat → Int32} {x_kept : Nat → Int32} {x_saved : Nat → Int32} {x_before : Nat → Int32} {x_was : Nat → Int32} {x_region : Nat → Int32} {x_parts : Nat → Int64} {x_next : Nat → Int64} {x_ways : Nat → Int32} {x_more : Nat → Int32} {x_whole : Int64} {x_isSaved : Int32} {x_changes : Int32} {x_isWithin : Int32} {x_code : Int32} {x_input : Nat → Int32} {x_length : Int32} {x_fault : Int32} {x_failed : Int32} {x_signs : Nat → Int32} {x_signMany : Int32} {x_at : Int32} {x_told : Nat → Int32} {x_toldMany : Int32} {res : (Nat → Int32) × Int32} {H : Heap} {locs : List Loc} {ls : Array Slot} {a1 : Int32}
    (E : En cX13_writes RX13 wsX13_writes 2 none p s m args meth c) (hK : KK g s) (hA : ∀ q, s.heap.size ≤ q → A q) (h : f_X13_writes x_signs x_signMany a1 = some res) (hW : Wo g A s H locs (w_X13 g h0 h1 h2 h3 h4 h5 h6 h7 h8 h9 h10 h11 h12 h13 x_g x_kept x_saved x_before x_was x_region x_parts x_next x_ways x_more x_whole x_isSaved x_changes x_isWithin x_code x_input x_length x_fault x_failed x_signs x_signMany x_at x_told x_toldMany)) (hl : lv_has ls 2 [(0, .ref h0), (1, .int a1)]) : G_X13_writes p l e s m args below meth c g A h0 h1 h2 h3 h4 h5 h6 h7 h8 h9 h10 h11 h12 h13 x_g x_kept x_saved x_before x_was x_region x_parts x_next x_ways x_more x_whole x_isSaved x_changes x_isWithin x_code x_input x_length x_fault x_failed x_at x_told x_toldMany res H locs 0 ls [] := by
  have hts := E.2.2.2.1
  unfold f_X13_writes at h
  refine lv_aload_n E.1 E.2.1 dX13_writes_0 rfl (lv_at hl 0 rfl) ?_
  refine wGet (v := .ref h12) E hK in_X13_writes_X13 hW 19 lk_X13_writes_51 0 rfl rfl (by decide) rfl rfl dX13_writes_1 ?_
  refine lv_aload_n E.1 E.2.1 dX13_writes_4 rfl (lv_at hl 0 rfl) ?_
  refine wGet (v := .int x_signMany) E hK in_X13_writes_X13 hW 20 lk_X13_writes_169 0 rfl rfl (by decide) rfl rfl dX13_writes_5 ?_
  refine lv_iload_n E.1 E.2.1 dX13_writes_8 rfl (lv_at hl 1 rfl) ?_
  refine lv_i2c (v := ((a1 : Int32).toUInt32 % 65536).toInt32) E.1 E.2.1 dX13_writes_9 rfl ?_
  obtain ⟨hi10, h⟩ := ox h
  refine wCast (world' := (w_X13 g h0 h1 h2 h3 h4 h5 h6 h7 h8 h9 h10 h11 h12 h13 x_g x_kept x_saved x_before x_was x_region x_parts x_next x_ways x_more x_whole x_isSaved x_changes x_isWithin x_code x_input x_length x_fault x_failed (upd x_signs x_signMany.toNatClampNeg (vp_nar .char (((a1 : Int32).toUInt32 % 65536).toInt32))) x_signMany x_at x_told x_toldMany)) E hK hW 12 rfl hi10 dX13_writes_10 rfl (fun H locs hW => ?_)
  refine lv_aload_n E.1 E.2.1 dX13_writes_11 rfl (lv_at hl 0 rfl) ?_
  refine lv_dup E.1 E.2.1 dX13_writes_12 rfl ?_
  refine wGet (v := .int x_signMany) E hK in_X13_writes_X13 hW 20 lk_X13_writes_169 0 rfl rfl (by decide) rfl rfl dX13_writes_13 ?_
  refine lv_iconst (v := 1) E.1 E.2.1 dX13_writes_16 (by decide) ?_
  refine lv_iadd E.1 E.2.1 dX13_writes_17 ?_
  refine wPut (world' := (w_X13 g h0 h1 h2 h3 h4 h5 h6 h7 h8 h9 h10 h11 h12 h13 x_g x_kept x_saved x_before x_was x_region x_parts x_next x_ways x_more x_whole x_isSaved x_changes x_isWithin x_code x_input x_length x_fault x_failed (upd x_signs x_signMany.toNatClampNeg (vp_nar .char (((a1 : Int32).toUInt32 % 65536).toInt32))) (x_signMany + 1) x_at x_told x_toldMany)) E hK in_X13_writes_X13 tyX13 tyX13_ok nmX13 hW 20 lk_X13_writes_169 0 rfl rfl (by decide) rfl rfl rfl rfl rfl (Nat.le_of_ble_eq_true rfl) dX13_writes_18 rfl (fun H locs hW => ?_)
  obtain rfl := Option.some.inj h
  exact endV E hW dX13_writes_21
theorem c_X13_writes (l : Launch) (g : GE) (h0 h1 h2 h3 h4 h5 h6 h7 h8 h9 h10 h11 h12 h13 : Nat) (x_g : Nat → Int32) (x_kept : Nat → Int32) (x_saved : Nat → Int32) (x_before : Nat → Int32) (x_was : Nat → Int32) (x_region : Nat → Int32) (x_parts : Nat → Int64) (x_next : Nat → Int64) (x_ways : Nat → Int32) (x_more : Nat → Int32) (x_whole : Int64) (x_isSaved : Int32) (x_changes : Int32) (x_isWithin : Int32) (x_code : Int32) (x_input : Nat → Int32) (x_length : Int32) (x_fault : Int32) (x_failed : Int32) (x_signs : Nat → Int32) (x_signMany : Int32) (x_at : Int32) (x_told : Nat → Int32) (x_toldMany : Int32) (a1 : Int32) {res : (Nat → Int32) × Int32} (hf : f_X13_writes x_signs x_signMany a1 = some res) : CV l yX13_writes wsX13_writes rm_X13_writes g [.ref h0, .int a1] (w_X13 g h0 h1 h2 h3 h4 h5 h6 h7 h8 h9 h10 h11 h12 h13 x_g x_kept x_saved x_before x_was x_region x_parts x_next x_ways x_more x_whole x_isSaved x_changes x_isWithin x_code x_input x_length x_fault x_failed x_signs x_signMany x_at x_told x_toldMany) (w_X13 g h0 h1 h2 h3 h4 h5 h6 h7 h8 h9 h10 h11 h12 h13 x_g x_kept x_saved x_before x_was x_region x_parts x_next x_ways x_more x_whole x_isSaved x_changes x_isWithin x_code x_input x_length x_fault x_failed res.1 res.2 x_at x_told x_toldMany) :=
  mkV (cc := cX13_writes) (maxL := 2) (by decide) rfl (Nat.le_of_ble_eq_true rfl) (fun p e s m args below meth c A H locs ls E hK hA hW hl => k_X13_writes_0 E hK hA hf hW hl)

/-! PaperStormModel.lineAt(I)C X13_lineAt -/
abbrev rm_X13_lineAt : Room := { frames := 1, cells := 0, slots := 0, locals := 22 }
theorem in_X13_lineAt_X13 : ∀ w ∈ wsX130, w ∈ wsX13_lineAt := by decide +kernel
theorem lk_X13_lineAt_169 : Cond.fieldLink RX13 169 "PaperStormModel" "signMany" "I" ∈ wsX13_lineAt := by decide +kernel
theorem lk_X13_lineAt_51 : Cond.fieldLink RX13 51 "PaperStormModel" "signs" "[C" ∈ wsX13_lineAt := by decide +kernel
noncomputable def f_X13_lineAt (x_code : Int32) (x_signs : Nat → Int32) (x_signMany : Int32) (a1 : Int32) : Option (Int32 × Int32) :=
  jo (fun (s1_20 : Int32) => jo (fun (x_code_37 : Int32) (s0_37 : Int32) => if ¬ vp_nar .char s0_37 = s0_37 then none else some (s0_37, x_code_37)) (fun j37 => (f_X13_fails x_code s1_20).bind fun r20 => if r20.1 = 0 then if a1 < 0 ∨ 180 ≤ a1.toNatClampNeg then none else j37 r20.2 (x_signs a1.toNatClampNeg) else j37 r20.2 32)) (fun j20 => (f_X13_in a1 0 (x_signMany - 1)).bind fun r9 => if r9 = 0 then j20 1 else j20 0)
abbrev G_X13_lineAt (p : Program) (l : Launch) (e : Env) (s : State) (m : MethodId) (args : Array Value) (below : List Frame) (meth : Method) (c : Code) (g : GE) (A : Nat → Prop) (h0 h1 h2 h3 h4 h5 h6 h7 h8 h9 h10 h11 h12 h13 : Nat) (x_g : Nat → Int32) (x_kept : Nat → Int32) (x_saved : Nat → Int32) (x_before : Nat → Int32) (x_was : Nat → Int32) (x_region : Nat → Int32) (x_parts : Nat → Int64) (x_next : Nat → Int64) (x_ways : Nat → Int32) (x_more : Nat → Int32) (x_whole : Int64) (x_isSaved : Int32) (x_changes : Int32) (x_isWithin : Int32) (x_input : Nat → Int32) (x_length : Int32) (x_fault : Int32) (x_failed : Int32) (x_signs : Nat → Int32) (x_signMany : Int32) (x_at : Int32) (x_told : Nat → Int32) (x_toldMany : Int32) (res : Int32 × Int32) (H : Heap) (locs : List Loc) (pc : Nat) (ls : Array Slot) (st : List Value) : Prop := W p l e (headSpec wsX13_lineAt rm_X13_lineAt).room s m args below meth c H locs 0 0 (MQ below (PoI g A (w_X13 g h0 h1 h2 h3 h4 h5 h6 h7 h8 h9 h10 h11 h12 h13 x_g x_kept x_saved x_before x_was x_region x_parts x_next x_ways x_more x_whole x_isSaved x_changes x_isWithin res.2 x_input x_length x_fault x_failed x_signs x_signMany x_at x_told x_toldMany) res.1) args s 0 0 A) (F0 m pc ls st)
set_option maxHeartbeats 4000000 in
set_option maxRecDepth 100000 in
theorem k_X13_lineAt_0 {p : Program} {l : Launch} {e : Env} {s : State} {m : MethodId} {args : Array Value} {below : List Frame} {meth : Method} {c : Code} {g : GE} {A : Nat → Prop} {h0 h1 h2 h3 h4 h5 h6 h7 h8 h9 h10 h11 h12 h13 : Nat} {x_g : Nat → Int32} {x_kept : Nat → Int32} {x_saved : Nat → Int32} {x_before : Nat → Int32} {x_was : Nat → Int32} {x_region : Nat → Int32} {x_parts : Nat → Int64} {x_next : Nat → Int64} {x_ways : Nat → Int32} {x_more : Nat → Int32} {x_whole : Int64} {x_isSaved : Int32} {x_changes : Int32} {x_isWithin : Int32} {x_code : Int32} {x_input : Nat → Int32} {x_length : Int32} {x_fault : Int32} {x_failed : Int32} {x_signs : Nat → Int32} {x_signMany : Int32} {x_at : Int32} {x_told : Nat → Int32} {x_toldMany : Int32} {res : Int32 × Int32} {H : Heap} {locs : List Loc} {ls : Array Slot} {a1 : Int32}
    (E : En cX13_lineAt RX13 wsX13_lineAt 2 (some .char) p s m args meth c) (hK : KK g s) (hA : ∀ q, s.heap.size ≤ q → A q) (h : f_X13_lineAt x_code x_signs x_signMany a1 = some res) (hW : Wo g A s H locs (w_X13 g h0 h1 h2 h3 h4 h5 h6 h7 h8 h9 h10 h11 h12 h13 x_g x_kept x_saved x_before x_was x_region x_parts x_next x_ways x_more x_whole x_isSaved x_changes x_isWithin x_code x_input x_length x_fault x_failed x_signs x_signMany x_at x_told x_toldMany)) (hl : lv_has ls 2 [(0, .ref h0), (1, .int a1)]) : G_X13_lineAt p l e s m args below meth c g A h0 h1 h2 h3 h4 h5 h6 h7 h8 h9 h10 h11 h12 h13 x_g x_kept x_saved x_before x_was x_region x_parts x_next x_ways x_more x_whole x_isSaved x_changes x_isWithin x_input x_length x_fault x_failed x_signs x_signMany x_at x_told x_toldMany res H locs 0 ls [] := by
  have hts := E.2.2.2.1
  unfold f_X13_lineAt at h
  obtain ⟨j20, hj20, h⟩ := jox1 h
  have J20 : ∀ (s1_20 : Int32) (H : Heap) (locs : List Loc) (ls : Array Slot), j20 s1_20 = some res → Wo g A s H locs (w_X13 g h0 h1 h2 h3 h4 h5 h6 h7 h8 h9 h10 h11 h12 h13 x_g x_kept x_saved x_before x_was x_region x_parts x_next x_ways x_more x_whole x_isSaved x_changes x_isWithin x_code x_input x_length x_fault x_failed x_signs x_signMany x_at x_told x_toldMany) → lv_has ls 2 [(0, .ref h0), (1, .int a1)] → G_X13_lineAt p l e s m args below meth c g A h0 h1 h2 h3 h4 h5 h6 h7 h8 h9 h10 h11 h12 h13 x_g x_kept x_saved x_before x_was x_region x_parts x_next x_ways x_more x_whole x_isSaved x_changes x_isWithin x_input x_length x_fault x_failed x_signs x_signMany x_at x_told x_toldMany res H locs 20 ls [.int s1_20, .ref h0] := by
    intro s1_20 H locs ls h hW hl
    rw [hj20] at h
    obtain ⟨j37, hj37, h⟩ := jox2 h
    have J37 : ∀ (x_code_37 : Int32) (s0_37 : Int32) (H : Heap) (locs : List Loc) (ls : Array Slot), j37 x_code_37 s0_37 = some res → Wo g A s H locs (w_X13 g h0 h1 h2 h3 h4 h5 h6 h7 h8 h9 h10 h11 h12 h13 x_g x_kept x_saved x_before x_was x_region x_parts x_next x_ways x_more x_whole x_isSaved x_changes x_isWithin x_code_37 x_input x_length x_fault x_failed x_signs x_signMany x_at x_told x_toldMany) → lv_has ls 2 [] → G_X13_lineAt p l e s m args below meth c g A h0 h1 h2 h3 h4 h5 h6 h7 h8 h9 h10 h11 h12 h13 x_g x_kept x_saved x_before x_was x_region x_parts x_next x_ways x_more x_whole x_isSaved x_changes x_isWithin x_input x_length x_fault x_failed x_signs x_signMany x_at x_told x_toldMany res H locs 37 ls [.int s0_37] := by
      intro x_code_37 s0_37 H locs ls h hW hl
      rw [hj37] at h
      obtain ⟨hz, h⟩ := ox h
      obtain rfl := Option.some.inj h
      exact endI E (nar_c (Decidable.not_not.mp hz)) hW dX13_lineAt_37
    obtain ⟨r20, hc, h⟩ := bx h
    refine goI (world' := (w_X13 g h0 h1 h2 h3 h4 h5 h6 h7 h8 h9 h10 h11 h12 h13 x_g x_kept x_saved x_before x_was x_region x_parts x_next x_ways x_more x_whole x_isSaved x_changes x_isWithin r20.2 x_input x_length x_fault x_failed x_signs x_signMany x_at x_told x_toldMany)) hW hA (is := [0, 1, 2, 3, 4, 5, 6, 7, 8, 9, 10, 11, 12, 13]) rfl (goV (rest := []) E hK hW [0, 1, 2, 3, 4, 5, 6, 7, 8, 9, 10, 11, 12, 13] rfl rfl (c_X13_fails l g h0 h1 h2 h3 h4 h5 h6 h7 h8 h9 h10 h11 h12 h13 x_g x_kept x_saved x_before x_was x_region x_parts x_next x_ways x_more x_whole x_isSaved x_changes x_isWithin x_code x_input x_length x_fault x_failed x_signs x_signMany x_at x_told x_toldMany s1_20 (hf := hc) H.size) (cwV 1 hts gX13_lineAt_X13_fails rfl rfl rfl (by decide +kernel) ⟨Nat.le_of_ble_eq_true rfl, Nat.le_of_ble_eq_true rfl⟩) 0 rfl rfl rfl hl.1 rfl rfl (Nat.le_of_ble_eq_true rfl) dX13_lineAt_20 ⟨Nat.zero_le _, Nat.zero_le _⟩) rfl rfl (fun H locs hW => ?_)
    refine lv_if_eq (tgt := 31) E.1 E.2.1 dX13_lineAt_23 (by decide) (fun c23 => ?_) (fun c23 => ?_)
    · have h := it c23 h
      refine lv_aload_n E.1 E.2.1 dX13_lineAt_31 rfl (lv_at hl 0 rfl) ?_
      refine wGet (v := .ref h12) E hK in_X13_lineAt_X13 hW 19 lk_X13_lineAt_51 0 rfl rfl (by decide) rfl rfl dX13_lineAt_32 ?_
      refine lv_iload_n E.1 E.2.1 dX13_lineAt_35 rfl (lv_at hl 1 rfl) ?_
      obtain ⟨hi36, h⟩ := ox h
      refine wCald E hK hW 12 rfl hi36 dX13_lineAt_36 ?_
      exact J37 r20.2 (x_signs a1.toNatClampNeg) H locs ls h hW (lv_sub hl [] rfl)
    · have h := ie c23 h
      refine lv_bipush (v := 32) E.1 E.2.1 dX13_lineAt_26 (by decide) ?_
      refine lv_goto (tgt := 37) E.1 E.2.1 dX13_lineAt_28 (by decide) ?_
      exact J37 r20.2 32 H locs ls h hW (lv_sub hl [] rfl)
  refine lv_aload_n E.1 E.2.1 dX13_lineAt_0 rfl (lv_at hl 0 rfl) ?_
  refine lv_iload_n E.1 E.2.1 dX13_lineAt_1 rfl (lv_at hl 1 rfl) ?_
  refine lv_iconst (v := 0) E.1 E.2.1 dX13_lineAt_2 (by decide) ?_
  refine lv_aload_n E.1 E.2.1 dX13_lineAt_3 rfl (lv_at hl 0 rfl) ?_
  refine wGet (v := .int x_signMany) E hK in_X13_lineAt_X13 hW 20 lk_X13_lineAt_169 0 rfl rfl (by decide) rfl rfl dX13_lineAt_4 ?_
  refine lv_iconst (v := 1) E.1 E.2.1 dX13_lineAt_7 (by decide) ?_
  refine lv_isub E.1 E.2.1 dX13_lineAt_8 ?_
  obtain ⟨r9, hc, h⟩ := bx h
  refine goI (world' := (w_X13 g h0 h1 h2 h3 h4 h5 h6 h7 h8 h9 h10 h11 h12 h13 x_g x_kept x_saved x_before x_was x_region x_parts x_next x_ways x_more x_whole x_isSaved x_changes x_isWithin x_code x_input x_length x_fault x_failed x_signs x_signMany x_at x_told x_toldMany)) hW hA (is := []) rfl (goS (rest := [.ref h0]) E hK hW [] rfl rfl (c_X13_in l g a1 0 (x_signMany - 1) (hf := hc) H.size) (va_cwS 3 hts gX13_lineAt_X13_in rfl rfl rfl (by decide +kernel) ⟨Nat.le_of_ble_eq_true rfl, Nat.le_of_ble_eq_true rfl⟩) hl.1 rfl rfl (Nat.le_of_ble_eq_true rfl) dX13_lineAt_9 ⟨Nat.zero_le _, Nat.zero_le _⟩) rfl rfl (fun H locs hW => ?_)
  refine lv_if_eq (tgt := 19) E.1 E.2.1 dX13_lineAt_12 (by decide) (fun c12 => ?_) (fun c12 => ?_)
  · have h := it c12 h
    refine lv_iconst (v := 1) E.1 E.2.1 dX13_lineAt_19 (by decide) ?_
    exact J20 1 H locs ls h hW (lv_sub hl [0, 1] rfl)
  · have h := ie c12 h
    refine lv_iconst (v := 0) E.1 E.2.1 dX13_lineAt_15 (by decide) ?_
    refine lv_goto (tgt := 20) E.1 E.2.1 dX13_lineAt_16 (by decide) ?_
    exact J20 0 H locs ls h hW (lv_sub hl [0, 1] rfl)
theorem c_X13_lineAt (l : Launch) (g : GE) (h0 h1 h2 h3 h4 h5 h6 h7 h8 h9 h10 h11 h12 h13 : Nat) (x_g : Nat → Int32) (x_kept : Nat → Int32) (x_saved : Nat → Int32) (x_before : Nat → Int32) (x_was : Nat → Int32) (x_region : Nat → Int32) (x_parts : Nat → Int64) (x_next : Nat → Int64) (x_ways : Nat → Int32) (x_more : Nat → Int32) (x_whole : Int64) (x_isSaved : Int32) (x_changes : Int32) (x_isWithin : Int32) (x_code : Int32) (x_input : Nat → Int32) (x_length : Int32) (x_fault : Int32) (x_failed : Int32) (x_signs : Nat → Int32) (x_signMany : Int32) (x_at : Int32) (x_told : Nat → Int32) (x_toldMany : Int32) (a1 : Int32) {res : Int32 × Int32} (hf : f_X13_lineAt x_code x_signs x_signMany a1 = some res) : CI l yX13_lineAt wsX13_lineAt rm_X13_lineAt g [.ref h0, .int a1] (w_X13 g h0 h1 h2 h3 h4 h5 h6 h7 h8 h9 h10 h11 h12 h13 x_g x_kept x_saved x_before x_was x_region x_parts x_next x_ways x_more x_whole x_isSaved x_changes x_isWithin x_code x_input x_length x_fault x_failed x_signs x_signMany x_at x_told x_toldMany) (w_X13 g h0 h1 h2 h3 h4 h5 h6 h7 h8 h9 h10 h11 h12 h13 x_g x_kept x_saved x_before x_was x_region x_parts x_next x_ways x_more x_whole x_isSaved x_changes x_isWithin res.2 x_input x_length x_fault x_failed x_signs x_signMany x_at x_told x_toldMany) res.1 :=
  mkI (cc := cX13_lineAt) (maxL := 2) (by decide) rfl (Nat.le_of_ble_eq_true rfl) (fun p e s m args below meth c A H locs ls E hK hA hW hl => k_X13_lineAt_0 E hK hA hf hW hl)

/-! PaperStormModel.isConsistent()Z X13_isConsistent -/
abbrev rm_X13_isConsistent : Room := { frames := 0, cells := 0, slots := 0, locals := 0 }
theorem in_X13_isConsistent_X13 : ∀ w ∈ wsX130, w ∈ wsX13_isConsistent := by decide +kernel
theorem lk_X13_isConsistent_58 : Cond.fieldLink RX13 58 "PaperStormModel" "code" "I" ∈ wsX13_isConsistent := by decide +kernel
noncomputable def f_X13_isConsistent (x_code : Int32) : Option (Int32 × Int32) :=
  some (1, 0)
abbrev G_X13_isConsistent (p : Program) (l : Launch) (e : Env) (s : State) (m : MethodId) (args : Array Value) (below : List Frame) (meth : Method) (c : Code) (g : GE) (A : Nat → Prop) (h0 h1 h2 h3 h4 h5 h6 h7 h8 h9 h10 h11 h12 h13 : Nat) (x_g : Nat → Int32) (x_kept : Nat → Int32) (x_saved : Nat → Int32) (x_before : Nat → Int32) (x_was : Nat → Int32) (x_region : Nat → Int32) (x_parts : Nat → Int64) (x_next : Nat → Int64) (x_ways : Nat → Int32) (x_more : Nat → Int32) (x_whole : Int64) (x_isSaved : Int32) (x_changes : Int32) (x_isWithin : Int32) (x_input : Nat → Int32) (x_length : Int32) (x_fault : Int32) (x_failed : Int32) (x_signs : Nat → Int32) (x_signMany : Int32) (x_at : Int32) (x_told : Nat → Int32) (x_toldMany : Int32) (res : Int32 × Int32) (H : Heap) (locs : List Loc) (pc : Nat) (ls : Array Slot) (st : List Value) : Prop := W p l e (headSpec wsX13_isConsistent rm_X13_isConsistent).room s m args below meth c H locs 0 0 (MQ below (PoI g A (w_X13 g h0 h1 h2 h3 h4 h5 h6 h7 h8 h9 h10 h11 h12 h13 x_g x_kept x_saved x_before x_was x_region x_parts x_next x_ways x_more x_whole x_isSaved x_changes x_isWithin res.2 x_input x_length x_fault x_failed x_signs x_signMany x_at x_told x_toldMany) res.1) args s 0 0 A) (F0 m pc ls st)
set_option maxHeartbeats 4000000 in
set_option maxRecDepth 100000 in
theorem k_X13_isConsistent_0 {p : Program} {l : Launch} {e : Env} {s : State} {m : MethodId} {args : Array Value} {below : List Frame} {meth : Method} {c : Code} {g : GE} {A : Nat → Prop} {h0 h1 h2 h3 h4 h5 h6 h7 h8 h9 h10 h11 h12 h13 : Nat} {x_g : Nat → Int32} {x_kept : Nat → Int32} {x_saved : Nat → Int32} {x_before : Nat → Int32} {x_was : Nat → Int32} {x_region : Nat → Int32} {x_parts : Nat → Int64} {x_next : Nat → Int64} {x_ways : Nat → Int32} {x_more : Nat → Int32} {x_whole : Int64} {x_isSaved : Int32} {x_changes : Int32} {x_isWithin : Int32} {x_code : Int32} {x_input : Nat → Int32} {x_length : Int32} {x_fault : Int32} {x_failed : Int32} {x_signs : Nat → Int32} {x_signMany : Int32} {x_at : Int32} {x_told : Nat → Int32} {x_toldMany : Int32} {res : Int32 × Int32} {H : Heap} {locs : List Loc} {ls : Array Slot} 
    (E : En cX13_isConsistent RX13 wsX13_isConsistent 1 (some .boolean) p s m args meth c) (hK : KK g s) (hA : ∀ q, s.heap.size ≤ q → A q) (h : f_X13_isConsistent x_code = some res) (hW : Wo g A s H locs (w_X13 g h0 h1 h2 h3 h4 h5 h6 h7 h8 h9 h10 h11 h12 h13 x_g x_kept x_saved x_before x_was x_region x_parts x_next x_ways x_more x_whole x_isSaved x_changes x_isWithin x_code x_input x_length x_fault x_failed x_signs x_signMany x_at x_told x_toldMany)) (hl : lv_has ls 1 [(0, .ref h0)]) : G_X13_isConsistent p l e s m args below meth c g A h0 h1 h2 h3 h4 h5 h6 h7 h8 h9 h10 h11 h12 h13 x_g x_kept x_saved x_before x_was x_region x_parts x_next x_ways x_more x_whole x_isSaved x_changes x_isWithin x_input x_length x_fault x_failed x_signs x_signMany x_at x_told x_toldMany res H locs 0 ls [] := by
  have hts := E.2.2.2.1
  unfold f_X13_isConsistent at h
  refine lv_aload_n E.1 E.2.1 dX13_isConsistent_0 rfl (lv_at hl 0 rfl) ?_
  refine lv_iconst (v := 0) E.1 E.2.1 dX13_isConsistent_1 (by decide) ?_
  refine wPut (world' := (w_X13 g h0 h1 h2 h3 h4 h5 h6 h7 h8 h9 h10 h11 h12 h13 x_g x_kept x_saved x_before x_was x_region x_parts x_next x_ways x_more x_whole x_isSaved x_changes x_isWithin 0 x_input x_length x_fault x_failed x_signs x_signMany x_at x_told x_toldMany)) E hK in_X13_isConsistent_X13 tyX13 tyX13_ok nmX13 hW 14 lk_X13_isConsistent_58 0 rfl rfl (by decide) rfl rfl rfl rfl rfl (Nat.le_of_ble_eq_true rfl) dX13_isConsistent_2 rfl (fun H locs hW => ?_)
  refine lv_iconst (v := 1) E.1 E.2.1 dX13_isConsistent_5 (by decide) ?_
  obtain rfl := Option.some.inj h
  exact endI E (by decide) hW dX13_isConsistent_6
theorem c_X13_isConsistent (l : Launch) (g : GE) (h0 h1 h2 h3 h4 h5 h6 h7 h8 h9 h10 h11 h12 h13 : Nat) (x_g : Nat → Int32) (x_kept : Nat → Int32) (x_saved : Nat → Int32) (x_before : Nat → Int32) (x_was : Nat → Int32) (x_region : Nat → Int32) (x_parts : Nat → Int64) (x_next : Nat → Int64) (x_ways : Nat → Int32) (x_more : Nat → Int32) (x_whole : Int64) (x_isSaved : Int32) (x_changes : Int32) (x_isWithin : Int32) (x_code : Int32) (x_input : Nat → Int32) (x_length : Int32) (x_fault : Int32) (x_failed : Int32) (x_signs : Nat → Int32) (x_signMany : Int32) (x_at : Int32) (x_told : Nat → Int32) (x_toldMany : Int32) {res : Int32 × Int32} (hf : f_X13_isConsistent x_code = some res) : CI l yX13_isConsistent wsX13_isConsistent rm_X13_isConsistent g [.ref h0] (w_X13 g h0 h1 h2 h3 h4 h5 h6 h7 h8 h9 h10 h11 h12 h13 x_g x_kept x_saved x_before x_was x_region x_parts x_next x_ways x_more x_whole x_isSaved x_changes x_isWithin x_code x_input x_length x_fault x_failed x_signs x_signMany x_at x_told x_toldMany) (w_X13 g h0 h1 h2 h3 h4 h5 h6 h7 h8 h9 h10 h11 h12 h13 x_g x_kept x_saved x_before x_was x_region x_parts x_next x_ways x_more x_whole x_isSaved x_changes x_isWithin res.2 x_input x_length x_fault x_failed x_signs x_signMany x_at x_told x_toldMany) res.1 :=
  mkI (cc := cX13_isConsistent) (maxL := 1) (by decide) rfl (Nat.le_of_ble_eq_true rfl) (fun p e s m args below meth c A H locs ls E hK hA hW hl => k_X13_isConsistent_0 E hK hA hf hW hl)

/-! PaperStormModel.type(C)I X13_type -/
abbrev rm_X13_type : Room := { frames := 1, cells := 0, slots := 0, locals := 22 }
theorem in_X13_type_X13 : ∀ w ∈ wsX130, w ∈ wsX13_type := by decide +kernel
theorem lk_X13_type_204 : Cond.fieldLink RX13 204 "PaperStormModel" "length" "I" ∈ wsX13_type := by decide +kernel
theorem lk_X13_type_41 : Cond.fieldLink RX13 41 "PaperStormModel" "input" "[I" ∈ wsX13_type := by decide +kernel
noncomputable def f_X13_type (x_code : Int32) (x_input : Nat → Int32) (x_length : Int32) (a1 : Int32) : Option (Int32 × Int32 × (Nat → Int32) × Int32) :=
  jo (fun (s1_30 : Int32) => (f_X13_fails x_code s1_30).bind fun r30 => if r30.1 = 0 then if x_length < 0 ∨ 60 ≤ x_length.toNatClampNeg then none else some ((x_length + 1), r30.2, (upd x_input x_length.toNatClampNeg a1), (x_length + 1)) else some (0, r30.2, x_input, x_length)) (fun j30 => (f_X13_in a1 32 126).bind fun r6 => if r6 = 0 then j30 1 else if x_length = 60 then j30 2 else j30 0)
abbrev G_X13_type (p : Program) (l : Launch) (e : Env) (s : State) (m : MethodId) (args : Array Value) (below : List Frame) (meth : Method) (c : Code) (g : GE) (A : Nat → Prop) (h0 h1 h2 h3 h4 h5 h6 h7 h8 h9 h10 h11 h12 h13 : Nat) (x_g : Nat → Int32) (x_kept : Nat → Int32) (x_saved : Nat → Int32) (x_before : Nat → Int32) (x_was : Nat → Int32) (x_region : Nat → Int32) (x_parts : Nat → Int64) (x_next : Nat → Int64) (x_ways : Nat → Int32) (x_more : Nat → Int32) (x_whole : Int64) (x_isSaved : Int32) (x_changes : Int32) (x_isWithin : Int32) (x_fault : Int32) (x_failed : Int32) (x_signs : Nat → Int32) (x_signMany : Int32) (x_at : Int32) (x_told : Nat → Int32) (x_toldMany : Int32) (res : Int32 × Int32 × (Nat → Int32) × Int32) (H : Heap) (locs : List Loc) (pc : Nat) (ls : Array Slot) (st : List Value) : Prop := W p l e (headSpec wsX13_type rm_X13_type).room s m args below meth c H locs 0 0 (MQ below (PoI g A (w_X13 g h0 h1 h2 h3 h4 h5 h6 h7 h8 h9 h10 h11 h12 h13 x_g x_kept x_saved x_before x_was x_region x_parts x_next x_ways x_more x_whole x_isSaved x_changes x_isWithin res.2.1 res.2.2.1 res.2.2.2 x_fault x_failed x_signs x_signMany x_at x_told x_toldMany) res.1) args s 0 0 A) (F0 m pc ls st)
set_option maxHeartbeats 4000000 in
set_option maxRecDepth 100000 in
theorem k_X13_type_0 {p : Program} {l : Launch} {e : Env} {s : State} {m : MethodId} {args : Array Value} {below : List Frame} {meth : Method} {c : Code} {g : GE} {A : Nat → Prop} {h0 h1 h2 h3 h4 h5 h6 h7 h8 h9 h10 h11 h12 h13 : Nat} {x_g : Nat → Int32} {x_kept : Nat → Int32} {x_saved : Nat → Int32} {x_before : Nat → Int32} {x_was : Nat → Int32} {x_region : Nat → Int32} {x_parts : Nat → Int64} {x_next : Nat → Int64} {x_ways : Nat → Int32} {x_more : Nat → Int32} {x_whole : Int64} {x_isSaved : Int32} {x_changes : Int32} {x_isWithin : Int32} {x_code : Int32} {x_input : Nat → Int32} {x_length : Int32} {x_fault : Int32} {x_failed : Int32} {x_signs : Nat → Int32} {x_signMany : Int32} {x_at : Int32} {x_told : Nat → Int32} {x_toldMany : Int32} {res : Int32 × Int32 × (Nat → Int32) × Int32} {H : Heap} {locs : List Loc} {ls : Array Slot} {a1 : Int32}
    (E : En cX13_type RX13 wsX13_type 2 (some .int) p s m args meth c) (hK : KK g s) (hA : ∀ q, s.heap.size ≤ q → A q) (h : f_X13_type x_code x_input x_length a1 = some res) (hW : Wo g A s H locs (w_X13 g h0 h1 h2 h3 h4 h5 h6 h7 h8 h9 h10 h11 h12 h13 x_g x_kept x_saved x_before x_was x_region x_parts x_next x_ways x_more x_whole x_isSaved x_changes x_isWithin x_code x_input x_length x_fault x_failed x_signs x_signMany x_at x_told x_toldMany)) (hl : lv_has ls 2 [(0, .ref h0), (1, .int a1)]) : G_X13_type p l e s m args below meth c g A h0 h1 h2 h3 h4 h5 h6 h7 h8 h9 h10 h11 h12 h13 x_g x_kept x_saved x_before x_was x_region x_parts x_next x_ways x_more x_whole x_isSaved x_changes x_isWithin x_fault x_failed x_signs x_signMany x_at x_told x_toldMany res H locs 0 ls [] := by
  have hts := E.2.2.2.1
  unfold f_X13_type at h
  obtain ⟨j30, hj30, h⟩ := jox1 h
  have J30 : ∀ (s1_30 : Int32) (H : Heap) (locs : List Loc) (ls : Array Slot), j30 s1_30 = some res → Wo g A s H locs (w_X13 g h0 h1 h2 h3 h4 h5 h6 h7 h8 h9 h10 h11 h12 h13 x_g x_kept x_saved x_before x_was x_region x_parts x_next x_ways x_more x_whole x_isSaved x_changes x_isWithin x_code x_input x_length x_fault x_failed x_signs x_signMany x_at x_told x_toldMany) → lv_has ls 2 [(0, .ref h0), (1, .int a1)] → G_X13_type p l e s m args below meth c g A h0 h1 h2 h3 h4 h5 h6 h7 h8 h9 h10 h11 h12 h13 x_g x_kept x_saved x_before x_was x_region x_parts x_next x_ways x_more x_whole x_isSaved x_changes x_isWithin x_fault x_failed x_signs x_signMany x_at x_told x_toldMany res H locs 30 ls [.int s1_30, .ref h0] := by
    intro s1_30 H locs ls h hW hl
    rw [hj30] at h
    obtain ⟨r30, hc, h⟩ := bx h
    refine goI (world' := (w_X13 g h0 h1 h2 h3 h4 h5 h6 h7 h8 h9 h10 h11 h12 h13 x_g x_kept x_saved x_before x_was x_region x_parts x_next x_ways x_more x_whole x_isSaved x_changes x_isWithin r30.2 x_input x_length x_fault x_failed x_signs x_signMany x_at x_told x_toldMany)) hW hA (is := [0, 1, 2, 3, 4, 5, 6, 7, 8, 9, 10, 11, 12, 13]) rfl (goV (rest := []) E hK hW [0, 1, 2, 3, 4, 5, 6, 7, 8, 9, 10, 11, 12, 13] rfl rfl (c_X13_fails l g h0 h1 h2 h3 h4 h5 h6 h7 h8 h9 h10 h11 h12 h13 x_g x_kept x_saved x_before x_was x_region x_parts x_next x_ways x_more x_whole x_isSaved x_changes x_isWithin x_code x_input x_length x_fault x_failed x_signs x_signMany x_at x_told x_toldMany s1_30 (hf := hc) H.size) (cwV 1 hts gX13_type_X13_fails rfl rfl rfl (by decide +kernel) ⟨Nat.le_of_ble_eq_true rfl, Nat.le_of_ble_eq_true rfl⟩) 0 rfl rfl rfl hl.1 rfl rfl (Nat.le_of_ble_eq_true rfl) dX13_type_30 ⟨Nat.zero_le _, Nat.zero_le _⟩) rfl rfl (fun H locs hW => ?_)
    refine lv_if_eq (tgt := 38) E.1 E.2.1 dX13_type_33 (by decide) (fun c33 => ?_) (fun c33 => ?_)
    · have h := it c33 h
      refine lv_aload_n E.1 E.2.1 dX13_type_38 rfl (lv_at hl 0 rfl) ?_
      refine wGet (v := .ref h11) E hK in_X13_type_X13 hW 15 lk_X13_type_41 0 rfl rfl (by decide) rfl rfl dX13_type_39 ?_
      refine lv_aload_n E.1 E.2.1 dX13_type_42 rfl (lv_at hl 0 rfl) ?_
      refine wGet (v := .int x_length) E hK in_X13_type_X13 hW 16 lk_X13_type_204 0 rfl rfl (by decide) rfl rfl dX13_type_43 ?_
      refine lv_iload_n E.1 E.2.1 dX13_type_46 rfl (lv_at hl 1 rfl) ?_
      obtain ⟨hi47, h⟩ := ox h
      refine wIast (world' := (w_X13 g h0 h1 h2 h3 h4 h5 h6 h7 h8 h9 h10 h11 h12 h13 x_g x_kept x_saved x_before x_was x_region x_parts x_next x_ways x_more x_whole x_isSaved x_changes x_isWithin r30.2 (upd x_input x_length.toNatClampNeg a1) x_length x_fault x_failed x_signs x_signMany x_at x_told x_toldMany)) E hK hW 11 rfl hi47 dX13_type_47 rfl (fun H locs hW => ?_)
      refine lv_aload_n E.1 E.2.1 dX13_type_48 rfl (lv_at hl 0 rfl) ?_
      refine lv_dup E.1 E.2.1 dX13_type_49 rfl ?_
      refine wGet (v := .int x_length) E hK in_X13_type_X13 hW 16 lk_X13_type_204 0 rfl rfl (by decide) rfl rfl dX13_type_50 ?_
      refine lv_iconst (v := 1) E.1 E.2.1 dX13_type_53 (by decide) ?_
      refine lv_iadd E.1 E.2.1 dX13_type_54 ?_
      refine wPut (world' := (w_X13 g h0 h1 h2 h3 h4 h5 h6 h7 h8 h9 h10 h11 h12 h13 x_g x_kept x_saved x_before x_was x_region x_parts x_next x_ways x_more x_whole x_isSaved x_changes x_isWithin r30.2 (upd x_input x_length.toNatClampNeg a1) (x_length + 1) x_fault x_failed x_signs x_signMany x_at x_told x_toldMany)) E hK in_X13_type_X13 tyX13 tyX13_ok nmX13 hW 16 lk_X13_type_204 0 rfl rfl (by decide) rfl rfl rfl rfl rfl (Nat.le_of_ble_eq_true rfl) dX13_type_55 rfl (fun H locs hW => ?_)
      refine lv_aload_n E.1 E.2.1 dX13_type_58 rfl (lv_at hl 0 rfl) ?_
      refine wGet (v := .int (x_length + 1)) E hK in_X13_type_X13 hW 16 lk_X13_type_204 0 rfl rfl (by decide) rfl rfl dX13_type_59 ?_
      obtain rfl := Option.some.inj h
      exact endI E rfl hW dX13_type_62
    · have h := ie c33 h
      refine lv_iconst (v := 0) E.1 E.2.1 dX13_type_36 (by decide) ?_
      obtain rfl := Option.some.inj h
      exact endI E rfl hW dX13_type_37
  refine lv_aload_n E.1 E.2.1 dX13_type_0 rfl (lv_at hl 0 rfl) ?_
  refine lv_iload_n E.1 E.2.1 dX13_type_1 rfl (lv_at hl 1 rfl) ?_
  refine lv_bipush (v := 32) E.1 E.2.1 dX13_type_2 (by decide) ?_
  refine lv_bipush (v := 126) E.1 E.2.1 dX13_type_4 (by decide) ?_
  obtain ⟨r6, hc, h⟩ := bx h
  refine goI (world' := (w_X13 g h0 h1 h2 h3 h4 h5 h6 h7 h8 h9 h10 h11 h12 h13 x_g x_kept x_saved x_before x_was x_region x_parts x_next x_ways x_more x_whole x_isSaved x_changes x_isWithin x_code x_input x_length x_fault x_failed x_signs x_signMany x_at x_told x_toldMany)) hW hA (is := []) rfl (goS (rest := [.ref h0]) E hK hW [] rfl rfl (c_X13_in l g a1 32 126 (hf := hc) H.size) (va_cwS 3 hts gX13_type_X13_in rfl rfl rfl (by decide +kernel) ⟨Nat.le_of_ble_eq_true rfl, Nat.le_of_ble_eq_true rfl⟩) hl.1 rfl rfl (Nat.le_of_ble_eq_true rfl) dX13_type_6 ⟨Nat.zero_le _, Nat.zero_le _⟩) rfl rfl (fun H locs hW => ?_)
  refine lv_if_ne (tgt := 16) E.1 E.2.1 dX13_type_9 (by decide) (fun c9 => ?_) (fun c9 => ?_)
  · have h := ie c9 h
    refine lv_aload_n E.1 E.2.1 dX13_type_16 rfl (lv_at hl 0 rfl) ?_
    refine wGet (v := .int x_length) E hK in_X13_type_X13 hW 16 lk_X13_type_204 0 rfl rfl (by decide) rfl rfl dX13_type_17 ?_
    refine lv_bipush (v := 60) E.1 E.2.1 dX13_type_20 (by decide) ?_
    refine lv_icmp_ne (tgt := 29) E.1 E.2.1 dX13_type_22 (by decide) (fun c22 => ?_) (fun c22 => ?_)
    · have h := ie c22 h
      refine lv_iconst (v := 0) E.1 E.2.1 dX13_type_29 (by decide) ?_
      exact J30 0 H locs ls h hW (lv_sub hl [0, 1] rfl)
    · have h := it c22 h
      refine lv_iconst (v := 2) E.1 E.2.1 dX13_type_25 (by decide) ?_
      refine lv_goto (tgt := 30) E.1 E.2.1 dX13_type_26 (by decide) ?_
      exact J30 2 H locs ls h hW (lv_sub hl [0, 1] rfl)
  · have h := it c9 h
    refine lv_iconst (v := 1) E.1 E.2.1 dX13_type_12 (by decide) ?_
    refine lv_goto (tgt := 30) E.1 E.2.1 dX13_type_13 (by decide) ?_
    exact J30 1 H locs ls h hW (lv_sub hl [0, 1] rfl)
theorem c_X13_type (l : Launch) (g : GE) (h0 h1 h2 h3 h4 h5 h6 h7 h8 h9 h10 h11 h12 h13 : Nat) (x_g : Nat → Int32) (x_kept : Nat → Int32) (x_saved : Nat → Int32) (x_before : Nat → Int32) (x_was : Nat → Int32) (x_region : Nat → Int32) (x_parts : Nat → Int64) (x_next : Nat → Int64) (x_ways : Nat → Int32) (x_more : Nat → Int32) (x_whole : Int64) (x_isSaved : Int32) (x_changes : Int32) (x_isWithin : Int32) (x_code : Int32) (x_input : Nat → Int32) (x_length : Int32) (x_fault : Int32) (x_failed : Int32) (x_signs : Nat → Int32) (x_signMany : Int32) (x_at : Int32) (x_told : Nat → Int32) (x_toldMany : Int32) (a1 : Int32) {res : Int32 × Int32 × (Nat → Int32) × Int32} (hf : f_X13_type x_code x_input x_length a1 = some res) : CI l yX13_type wsX13_type rm_X13_type g [.ref h0, .int a1] (w_X13 g h0 h1 h2 h3 h4 h5 h6 h7 h8 h9 h10 h11 h12 h13 x_g x_kept x_saved x_before x_was x_region x_parts x_next x_ways x_more x_whole x_isSaved x_changes x_isWithin x_code x_input x_length x_fault x_failed x_signs x_signMany x_at x_told x_toldMany) (w_X13 g h0 h1 h2 h3 h4 h5 h6 h7 h8 h9 h10 h11 h12 h13 x_g x_kept x_saved x_before x_was x_region x_parts x_next x_ways x_more x_whole x_isSaved x_changes x_isWithin res.2.1 res.2.2.1 res.2.2.2 x_fault x_failed x_signs x_signMany x_at x_told x_toldMany) res.1 :=
  mkI (cc := cX13_type) (maxL := 2) (by decide) rfl (Nat.le_of_ble_eq_true rfl) (fun p e s m args below meth c A H locs ls E hK hA hW hl => k_X13_type_0 E hK hA hf hW hl)

/-! PaperStormModel.here()I X13_here -/
abbrev rm_X13_here : Room := { frames := 0, cells := 0, slots := 0, locals := 0 }
theorem in_X13_here_X13 : ∀ w ∈ wsX130, w ∈ wsX13_here := by decide +kernel
theorem lk_X13_here_204 : Cond.fieldLink RX13 204 "PaperStormModel" "length" "I" ∈ wsX13_here := by decide +kernel
theorem lk_X13_here_206 : Cond.fieldLink RX13 206 "PaperStormModel" "at" "I" ∈ wsX13_here := by decide +kernel
theorem lk_X13_here_41 : Cond.fieldLink RX13 41 "PaperStormModel" "input" "[I" ∈ wsX13_here := by decide +kernel
noncomputable def f_X13_here (x_input : Nat → Int32) (x_length : Int32) (x_at : Int32) : Option (Int32) :=
  jo (fun (s0_24 : Int32) => some (s0_24)) (fun j24 => if x_length ≤ x_at then j24 (-1) else if x_at < 0 ∨ 60 ≤ x_at.toNatClampNeg then none else j24 (x_input x_at.toNatClampNeg))
abbrev G_X13_here (p : Program) (l : Launch) (e : Env) (s : State) (m : MethodId) (args : Array Value) (below : List Frame) (meth : Method) (c : Code) (g : GE) (A : Nat → Prop) (h0 h1 h2 h3 h4 h5 h6 h7 h8 h9 h10 h11 h12 h13 : Nat) (x_g : Nat → Int32) (x_kept : Nat → Int32) (x_saved : Nat → Int32) (x_before : Nat → Int32) (x_was : Nat → Int32) (x_region : Nat → Int32) (x_parts : Nat → Int64) (x_next : Nat → Int64) (x_ways : Nat → Int32) (x_more : Nat → Int32) (x_whole : Int64) (x_isSaved : Int32) (x_changes : Int32) (x_isWithin : Int32) (x_code : Int32) (x_input : Nat → Int32) (x_length : Int32) (x_fault : Int32) (x_failed : Int32) (x_signs : Nat → Int32) (x_signMany : Int32) (x_at : Int32) (x_told : Nat → Int32) (x_toldMany : Int32) (res : Int32) (H : Heap) (locs : List Loc) (pc : Nat) (ls : Array Slot) (st : List Value) : Prop := W p l e (headSpec wsX13_here rm_X13_here).room s m args below meth c H locs 0 0 (MQ below (PoI g A (w_X13 g h0 h1 h2 h3 h4 h5 h6 h7 h8 h9 h10 h11 h12 h13 x_g x_kept x_saved x_before x_was x_region x_parts x_next x_ways x_more x_whole x_isSaved x_changes x_isWithin x_code x_input x_length x_fault x_failed x_signs x_signMany x_at x_told x_toldMany) res) args s 0 0 A) (F0 m pc ls st)
set_option maxHeartbeats 4000000 in
set_option maxRecDepth 100000 in
theorem k_X13_here_0 {p : Program} {l : Launch} {e : Env} {s : State} {m : MethodId} {args : Array Value} {below : List Frame} {meth : Method} {c : Code} {g : GE} {A : Nat → Prop} {h0 h1 h2 h3 h4 h5 h6 h7 h8 h9 h10 h11 h12 h13 : Nat} {x_g : Nat → Int32} {x_kept : Nat → Int32} {x_saved : Nat → Int32} {x_before : Nat → Int32} {x_was : Nat → Int32} {x_region : Nat → Int32} {x_parts : Nat → Int64} {x_next : Nat → Int64} {x_ways : Nat → Int32} {x_more : Nat → Int32} {x_whole : Int64} {x_isSaved : Int32} {x_changes : Int32} {x_isWithin : Int32} {x_code : Int32} {x_input : Nat → Int32} {x_length : Int32} {x_fault : Int32} {x_failed : Int32} {x_signs : Nat → Int32} {x_signMany : Int32} {x_at : Int32} {x_told : Nat → Int32} {x_toldMany : Int32} {res : Int32} {H : Heap} {locs : List Loc} {ls : Array Slot} 
    (E : En cX13_here RX13 wsX13_here 1 (some .int) p s m args meth c) (hK : KK g s) (hA : ∀ q, s.heap.size ≤ q → A q) (h : f_X13_here x_input x_length x_at = some res) (hW : Wo g A s H locs (w_X13 g h0 h1 h2 h3 h4 h5 h6 h7 h8 h9 h10 h11 h12 h13 x_g x_kept x_saved x_before x_was x_region x_parts x_next x_ways x_more x_whole x_isSaved x_changes x_isWithin x_code x_input x_length x_fault x_failed x_signs x_signMany x_at x_told x_toldMany)) (hl : lv_has ls 1 [(0, .ref h0)]) : G_X13_here p l e s m args below meth c g A h0 h1 h2 h3 h4 h5 h6 h7 h8 h9 h10 h11 h12 h13 x_g x_kept x_saved x_before x_was x_region x_parts x_next x_ways x_more x_whole x_isSaved x_changes x_isWithin x_code x_input x_length x_fault x_failed x_signs x_signMany x_at x_told x_toldMany res H locs 0 ls [] := by
  have hts := E.2.2.2.1
  unfold f_X13_here at h
  obtain ⟨j24, hj24, h⟩ := jox1 h
  have J24 : ∀ (s0_24 : Int32) (H : Heap) (locs : List Loc) (ls : Array Slot), j24 s0_24 = some res → Wo g A s H locs (w_X13 g h0 h1 h2 h3 h4 h5 h6 h7 h8 h9 h10 h11 h12 h13 x_g x_kept x_saved x_before x_was x_region x_parts x_next x_ways x_more x_whole x_isSaved x_changes x_isWithin x_code x_input x_length x_fault x_failed x_signs x_signMany x_at x_told x_toldMany) → lv_has ls 1 [] → G_X13_here p l e s m args below meth c g A h0 h1 h2 h3 h4 h5 h6 h7 h8 h9 h10 h11 h12 h13 x_g x_kept x_saved x_before x_was x_region x_parts x_next x_ways x_more x_whole x_isSaved x_changes x_isWithin x_code x_input x_length x_fault x_failed x_signs x_signMany x_at x_told x_toldMany res H locs 24 ls [.int s0_24] := by
    intro s0_24 H locs ls h hW hl
    rw [hj24] at h
    obtain rfl := Option.some.inj h
    exact endI E rfl hW dX13_here_24
  refine lv_aload_n E.1 E.2.1 dX13_here_0 rfl (lv_at hl 0 rfl) ?_
  refine wGet (v := .int x_at) E hK in_X13_here_X13 hW 21 lk_X13_here_206 0 rfl rfl (by decide) rfl rfl dX13_here_1 ?_
  refine lv_aload_n E.1 E.2.1 dX13_here_4 rfl (lv_at hl 0 rfl) ?_
  refine wGet (v := .int x_length) E hK in_X13_here_X13 hW 16 lk_X13_here_204 0 rfl rfl (by decide) rfl rfl dX13_here_5 ?_
  refine lv_icmp_ge (tgt := 23) E.1 E.2.1 dX13_here_8 (by decide) (fun c8 => ?_) (fun c8 => ?_)
  · have h := it c8 h
    refine lv_iconst (v := (-1)) E.1 E.2.1 dX13_here_23 (by decide) ?_
    exact J24 (-1) H locs ls h hW (lv_sub hl [] rfl)
  · have h := ie c8 h
    refine lv_aload_n E.1 E.2.1 dX13_here_11 rfl (lv_at hl 0 rfl) ?_
    refine wGet (v := .ref h11) E hK in_X13_here_X13 hW 15 lk_X13_here_41 0 rfl rfl (by decide) rfl rfl dX13_here_12 ?_
    refine lv_aload_n E.1 E.2.1 dX13_here_15 rfl (lv_at hl 0 rfl) ?_
    refine wGet (v := .int x_at) E hK in_X13_here_X13 hW 21 lk_X13_here_206 0 rfl rfl (by decide) rfl rfl dX13_here_16 ?_
    obtain ⟨hi19, h⟩ := ox h
    refine wIald E hK hW 11 rfl hi19 dX13_here_19 ?_
    refine lv_goto (tgt := 24) E.1 E.2.1 dX13_here_20 (by decide) ?_
    exact J24 (x_input x_at.toNatClampNeg) H locs ls h hW (lv_sub hl [] rfl)
theorem c_X13_here (l : Launch) (g : GE) (h0 h1 h2 h3 h4 h5 h6 h7 h8 h9 h10 h11 h12 h13 : Nat) (x_g : Nat → Int32) (x_kept : Nat → Int32) (x_saved : Nat → Int32) (x_before : Nat → Int32) (x_was : Nat → Int32) (x_region : Nat → Int32) (x_parts : Nat → Int64) (x_next : Nat → Int64) (x_ways : Nat → Int32) (x_more : Nat → Int32) (x_whole : Int64) (x_isSaved : Int32) (x_changes : Int32) (x_isWithin : Int32) (x_code : Int32) (x_input : Nat → Int32) (x_length : Int32) (x_fault : Int32) (x_failed : Int32) (x_signs : Nat → Int32) (x_signMany : Int32) (x_at : Int32) (x_told : Nat → Int32) (x_toldMany : Int32) {res : Int32} (hf : f_X13_here x_input x_length x_at = some res) : CI l yX13_here wsX13_here rm_X13_here g [.ref h0] (w_X13 g h0 h1 h2 h3 h4 h5 h6 h7 h8 h9 h10 h11 h12 h13 x_g x_kept x_saved x_before x_was x_region x_parts x_next x_ways x_more x_whole x_isSaved x_changes x_isWithin x_code x_input x_length x_fault x_failed x_signs x_signMany x_at x_told x_toldMany) (w_X13 g h0 h1 h2 h3 h4 h5 h6 h7 h8 h9 h10 h11 h12 h13 x_g x_kept x_saved x_before x_was x_region x_parts x_next x_ways x_more x_whole x_isSaved x_changes x_isWithin x_code x_input x_length x_fault x_failed x_signs x_signMany x_at x_told x_toldMany) res :=
  mkI (cc := cX13_here) (maxL := 1) (by decide) rfl (Nat.le_of_ble_eq_true rfl) (fun p e s m args below meth c A H locs ls E hK hA hW hl => k_X13_here_0 E hK hA hf hW hl)

/-! PaperStormModel.skips(I)Z X13_skips -/
abbrev rm_X13_skips : Room := { frames := 1, cells := 0, slots := 0, locals := 20 }
theorem in_X13_skips_X13 : ∀ w ∈ wsX130, w ∈ wsX13_skips := by decide +kernel
theorem lk_X13_skips_206 : Cond.fieldLink RX13 206 "PaperStormModel" "at" "I" ∈ wsX13_skips := by decide +kernel
noncomputable def f_X13_skips (x_input : Nat → Int32) (x_length : Int32) (x_at : Int32) (a1 : Int32) : Option (Int32 × Int32) :=
  (f_X13_here x_input x_length x_at).bind fun r1 => if r1 = a1 then some (1, (x_at + 1)) else some (0, x_at)
abbrev G_X13_skips (p : Program) (l : Launch) (e : Env) (s : State) (m : MethodId) (args : Array Value) (below : List Frame) (meth : Method) (c : Code) (g : GE) (A : Nat → Prop) (h0 h1 h2 h3 h4 h5 h6 h7 h8 h9 h10 h11 h12 h13 : Nat) (x_g : Nat → Int32) (x_kept : Nat → Int32) (x_saved : Nat → Int32) (x_before : Nat → Int32) (x_was : Nat → Int32) (x_region : Nat → Int32) (x_parts : Nat → Int64) (x_next : Nat → Int64) (x_ways : Nat → Int32) (x_more : Nat → Int32) (x_whole : Int64) (x_isSaved : Int32) (x_changes : Int32) (x_isWithin : Int32) (x_code : Int32) (x_input : Nat → Int32) (x_length : Int32) (x_fault : Int32) (x_failed : Int32) (x_signs : Nat → Int32) (x_signMany : Int32) (x_told : Nat → Int32) (x_toldMany : Int32) (res : Int32 × Int32) (H : Heap) (locs : List Loc) (pc : Nat) (ls : Array Slot) (st : List Value) : Prop := W p l e (headSpec wsX13_skips rm_X13_skips).room s m args below meth c H locs 0 0 (MQ below (PoI g A (w_X13 g h0 h1 h2 h3 h4 h5 h6 h7 h8 h9 h10 h11 h12 h13 x_g x_kept x_saved x_before x_was x_region x_parts x_next x_ways x_more x_whole x_isSaved x_changes x_isWithin x_code x_input x_length x_fault x_failed x_signs x_signMany res.2 x_told x_toldMany) res.1) args s 0 0 A) (F0 m pc ls st)
set_option maxHeartbeats 4000000 in
set_option maxRecDepth 100000 in
theorem k_X13_skips_0 {p : Program} {l : Launch} {e : Env} {s : State} {m : MethodId} {args : Array Value} {below : List Frame} {meth : Method} {c : Code} {g : GE} {A : Nat → Prop} {h0 h1 h2 h3 h4 h5 h6 h7 h8 h9 h10 h11 h12 h13 : Nat} {x_g : Nat → Int32} {x_kept : Nat → Int32} {x_saved : Nat → Int32} {x_before : Nat → Int32} {x_was : Nat → Int32} {x_region : Nat → Int32} {x_parts : Nat → Int64} {x_next : Nat → Int64} {x_ways : Nat → Int32} {x_more : Nat → Int32} {x_whole : Int64} {x_isSaved : Int32} {x_changes : Int32} {x_isWithin : Int32} {x_code : Int32} {x_input : Nat → Int32} {x_length : Int32} {x_fault : Int32} {x_failed : Int32} {x_signs : Nat → Int32} {x_signMany : Int32} {x_at : Int32} {x_told : Nat → Int32} {x_toldMany : Int32} {res : Int32 × Int32} {H : Heap} {locs : List Loc} {ls : Array Slot} {a1 : Int32}
    (E : En cX13_skips RX13 wsX13_skips 2 (some .boolean) p s m args meth c) (hK : KK g s) (hA : ∀ q, s.heap.size ≤ q → A q) (h : f_X13_skips x_input x_length x_at a1 = some res) (hW : Wo g A s H locs (w_X13 g h0 h1 h2 h3 h4 h5 h6 h7 h8 h9 h10 h11 h12 h13 x_g x_kept x_saved x_before x_was x_region x_parts x_next x_ways x_more x_whole x_isSaved x_changes x_isWithin x_code x_input x_length x_fault x_failed x_signs x_signMany x_at x_told x_toldMany)) (hl : lv_has ls 2 [(0, .ref h0), (1, .int a1)]) : G_X13_skips p l e s m args below meth c g A h0 h1 h2 h3 h4 h5 h6 h7 h8 h9 h10 h11 h12 h13 x_g x_kept x_saved x_before x_was x_region x_parts x_next x_ways x_more x_whole x_isSaved x_changes x_isWithin x_code x_input x_length x_fault x_failed x_signs x_signMany x_told x_toldMany res H locs 0 ls [] := by
  have hts := E.2.2.2.1
  unfold f_X13_skips at h
  refine lv_aload_n E.1 E.2.1 dX13_skips_0 rfl (lv_at hl 0 rfl) ?_
  obtain ⟨r1, hc, h⟩ := bx h
  refine goI (world' := (w_X13 g h0 h1 h2 h3 h4 h5 h6 h7 h8 h9 h10 h11 h12 h13 x_g x_kept x_saved x_before x_was x_region x_parts x_next x_ways x_more x_whole x_isSaved x_changes x_isWithin x_code x_input x_length x_fault x_failed x_signs x_signMany x_at x_told x_toldMany)) hW hA (is := [0, 1, 2, 3, 4, 5, 6, 7, 8, 9, 10, 11, 12, 13]) rfl (goV (rest := []) E hK hW [0, 1, 2, 3, 4, 5, 6, 7, 8, 9, 10, 11, 12, 13] rfl rfl (c_X13_here l g h0 h1 h2 h3 h4 h5 h6 h7 h8 h9 h10 h11 h12 h13 x_g x_kept x_saved x_before x_was x_region x_parts x_next x_ways x_more x_whole x_isSaved x_changes x_isWithin x_code x_input x_length x_fault x_failed x_signs x_signMany x_at x_told x_toldMany (hf := hc) H.size) (cwV 0 hts gX13_skips_X13_here rfl rfl rfl (by decide +kernel) ⟨Nat.le_of_ble_eq_true rfl, Nat.le_of_ble_eq_true rfl⟩) 0 rfl rfl rfl hl.1 rfl rfl (Nat.le_of_ble_eq_true rfl) dX13_skips_1 ⟨Nat.zero_le _, Nat.zero_le _⟩) rfl rfl (fun H locs hW => ?_)
  refine lv_iload_n E.1 E.2.1 dX13_skips_4 rfl (lv_at hl 1 rfl) ?_
  refine lv_icmp_eq (tgt := 10) E.1 E.2.1 dX13_skips_5 (by decide) (fun c5 => ?_) (fun c5 => ?_)
  · have h := it c5 h
    refine lv_aload_n E.1 E.2.1 dX13_skips_10 rfl (lv_at hl 0 rfl) ?_
    refine lv_dup E.1 E.2.1 dX13_skips_11 rfl ?_
    refine wGet (v := .int x_at) E hK in_X13_skips_X13 hW 21 lk_X13_skips_206 0 rfl rfl (by decide) rfl rfl dX13_skips_12 ?_
    refine lv_iconst (v := 1) E.1 E.2.1 dX13_skips_15 (by decide) ?_
    refine lv_iadd E.1 E.2.1 dX13_skips_16 ?_
    refine wPut (world' := (w_X13 g h0 h1 h2 h3 h4 h5 h6 h7 h8 h9 h10 h11 h12 h13 x_g x_kept x_saved x_before x_was x_region x_parts x_next x_ways x_more x_whole x_isSaved x_changes x_isWithin x_code x_input x_length x_fault x_failed x_signs x_signMany (x_at + 1) x_told x_toldMany)) E hK in_X13_skips_X13 tyX13 tyX13_ok nmX13 hW 21 lk_X13_skips_206 0 rfl rfl (by decide) rfl rfl rfl rfl rfl (Nat.le_of_ble_eq_true rfl) dX13_skips_17 rfl (fun H locs hW => ?_)
    refine lv_iconst (v := 1) E.1 E.2.1 dX13_skips_20 (by decide) ?_
    obtain rfl := Option.some.inj h
    exact endI E (by decide) hW dX13_skips_21
  · have h := ie c5 h
    refine lv_iconst (v := 0) E.1 E.2.1 dX13_skips_8 (by decide) ?_
    obtain rfl := Option.some.inj h
    exact endI E (by decide) hW dX13_skips_9
theorem c_X13_skips (l : Launch) (g : GE) (h0 h1 h2 h3 h4 h5 h6 h7 h8 h9 h10 h11 h12 h13 : Nat) (x_g : Nat → Int32) (x_kept : Nat → Int32) (x_saved : Nat → Int32) (x_before : Nat → Int32) (x_was : Nat → Int32) (x_region : Nat → Int32) (x_parts : Nat → Int64) (x_next : Nat → Int64) (x_ways : Nat → Int32) (x_more : Nat → Int32) (x_whole : Int64) (x_isSaved : Int32) (x_changes : Int32) (x_isWithin : Int32) (x_code : Int32) (x_input : Nat → Int32) (x_length : Int32) (x_fault : Int32) (x_failed : Int32) (x_signs : Nat → Int32) (x_signMany : Int32) (x_at : Int32) (x_told : Nat → Int32) (x_toldMany : Int32) (a1 : Int32) {res : Int32 × Int32} (hf : f_X13_skips x_input x_length x_at a1 = some res) : CI l yX13_skips wsX13_skips rm_X13_skips g [.ref h0, .int a1] (w_X13 g h0 h1 h2 h3 h4 h5 h6 h7 h8 h9 h10 h11 h12 h13 x_g x_kept x_saved x_before x_was x_region x_parts x_next x_ways x_more x_whole x_isSaved x_changes x_isWithin x_code x_input x_length x_fault x_failed x_signs x_signMany x_at x_told x_toldMany) (w_X13 g h0 h1 h2 h3 h4 h5 h6 h7 h8 h9 h10 h11 h12 h13 x_g x_kept x_saved x_before x_was x_region x_parts x_next x_ways x_more x_whole x_isSaved x_changes x_isWithin x_code x_input x_length x_fault x_failed x_signs x_signMany res.2 x_told x_toldMany) res.1 :=
  mkI (cc := cX13_skips) (maxL := 2) (by decide) rfl (Nat.le_of_ble_eq_true rfl) (fun p e s m args below meth c A H locs ls E hK hA hW hl => k_X13_skips_0 E hK hA hf hW hl)

/-! PaperStormModel.figures(II)Z X13_figures -/
abbrev rm_X13_figures : Room := { frames := 2, cells := 0, slots := 0, locals := 41 }
theorem in_X13_figures_X13 : ∀ w ∈ wsX130, w ∈ wsX13_figures := by decide +kernel
theorem lk_X13_figures_206 : Cond.fieldLink RX13 206 "PaperStormModel" "at" "I" ∈ wsX13_figures := by decide +kernel
theorem lk_X13_figures_55 : Cond.fieldLink RX13 55 "PaperStormModel" "told" "[I" ∈ wsX13_figures := by decide +kernel
noncomputable def f_X13_figures_34 (x_input : Nat → Int32) (x_length : Int32) (l1 : Int32) (l2 : Int32) (z92 : Int32 → (Nat → Int32) → Option (Int32 × Int32 × (Nat → Int32))) : Nat → Int32 → Int32 → (Nat → Int32) → Option (Int32 × Int32 × (Nat → Int32))
  | 0, _, _, _ => none
  | n + 1, l3_34, x_at_34, x_told_34 => if l2 ≤ l3_34 then z92 x_at_34 x_told_34 else (f_X13_here x_input x_length x_at_34).bind fun r40 => (f_X13_in r40 48 57).bind fun r47 => if r47 = 0 then z92 x_at_34 x_told_34 else if l1 < 0 ∨ 124 ≤ l1.toNatClampNeg then none else (f_X13_here x_input x_length x_at_34).bind fun r68 => f_X13_figures_34 x_input x_length l1 l2 z92 n (l3_34 + 1) (x_at_34 + 1) (upd x_told_34 l1.toNatClampNeg (((10 * (x_told_34 l1.toNatClampNeg)) + r68) - 48))
noncomputable def f_X13_figures (x_input : Nat → Int32) (x_length : Int32) (x_at : Int32) (x_told : Nat → Int32) (a1 : Int32) (a2 : Int32) : Option (Int32 × Int32 × (Nat → Int32)) :=
  jo (fun (x_at_23 : Int32) => some (0, x_at_23, x_told)) (fun j23 => (f_X13_skips x_input x_length x_at 32).bind fun r3 => if r3.1 = 0 then j23 r3.2 else (f_X13_here x_input x_length r3.2).bind fun r10 => (f_X13_in r10 48 57).bind fun r17 => if r17 = 0 then j23 r3.2 else if a1 < 0 ∨ 124 ≤ a1.toNatClampNeg then none else f_X13_figures_34 x_input x_length a1 a2 (fun x_at_92e x_told_92e => some (1, x_at_92e, x_told_92e)) 1000 0 r3.2 (upd x_told a1.toNatClampNeg 0))
abbrev G_X13_figures (p : Program) (l : Launch) (e : Env) (s : State) (m : MethodId) (args : Array Value) (below : List Frame) (meth : Method) (c : Code) (g : GE) (A : Nat → Prop) (h0 h1 h2 h3 h4 h5 h6 h7 h8 h9 h10 h11 h12 h13 : Nat) (x_g : Nat → Int32) (x_kept : Nat → Int32) (x_saved : Nat → Int32) (x_before : Nat → Int32) (x_was : Nat → Int32) (x_region : Nat → Int32) (x_parts : Nat → Int64) (x_next : Nat → Int64) (x_ways : Nat → Int32) (x_more : Nat → Int32) (x_whole : Int64) (x_isSaved : Int32) (x_changes : Int32) (x_isWithin : Int32) (x_code : Int32) (x_input : Nat → Int32) (x_length : Int32) (x_fault : Int32) (x_failed : Int32) (x_signs : Nat → Int32) (x_signMany : Int32) (x_toldMany : Int32) (res : Int32 × Int32 × (Nat → Int32)) (H : Heap) (locs : List Loc) (pc : Nat) (ls : Array Slot) (st : List Value) : Prop := W p l e (headSpec wsX13_figures rm_X13_figures).room s m args below meth c H locs 0 0 (MQ below (PoI g A (w_X13 g h0 h1 h2 h3 h4 h5 h6 h7 h8 h9 h10 h11 h12 h13 x_g x_kept x_saved x_before x_was x_region x_parts x_next x_ways x_more x_whole x_isSaved x_changes x_isWithin x_code x_input x_length x_fault x_failed x_signs x_signMany res.2.1 res.2.2 x_toldMany) res.1) args s 0 0 A) (F0 m pc ls st)
set_option maxHeartbeats 4000000 in
set_option maxRecDepth 100000 in
theorem k_X13_figures_34 {p : Program} {l : Launch} {e : Env} {s : State} {m : MethodId} {args : Array Value} {below : List Frame} {meth : Method} {c : Code} {g : GE} {A : Nat → Prop} {h0 h1 h2 h3 h4 h5 h6 h7 h8 h9 h10 h11 h12 h13 : Nat} {x_g : Nat → Int32} {x_kept : Nat → Int32} {x_saved : Nat → Int32} {x_before : Nat → Int32} {x_was : Nat → Int32} {x_region : Nat → Int32} {x_parts : Nat → Int64} {x_next : Nat → Int64} {x_ways : Nat → Int32} {x_more : Nat → Int32} {x_whole : Int64} {x_isSaved : Int32} {x_changes : Int32} {x_isWithin : Int32} {x_code : Int32} {x_input : Nat → Int32} {x_length : Int32} {x_fault : Int32} {x_failed : Int32} {x_signs : Nat → Int32} {x_signMany : Int32} {x_toldMany : Int32} {res : Int32 × Int32 × (Nat → Int32)} {l1 : Int32} {l2 : Int32} {z92 : Int32 → (Nat → Int32) → Option (Int32 × Int32 × (Nat → Int32))}
    (E : En cX13_figures RX13 wsX13_figures 4 (some .boolean) p s m args meth c) (hK : KK g s) (hA : ∀ q, s.heap.size ≤ q → A q)
    (hz92 : ∀ (x_at_92e : Int32) (x_told_92e : Nat → Int32) (H : Heap) (locs : List Loc) (ls : Array Slot), z92 x_at_92e x_told_92e = some res → Wo g A s H locs (w_X13 g h0 h1 h2 h3 h4 h5 h6 h7 h8 h9 h10 h11 h12 h13 x_g x_kept x_saved x_before x_was x_region x_parts x_next x_ways x_more x_whole x_isSaved x_changes x_isWithin x_code x_input x_length x_fault x_failed x_signs x_signMany x_at_92e x_told_92e x_toldMany) → lv_has ls 4 [] → G_X13_figures p l e s m args below meth c g A h0 h1 h2 h3 h4 h5 h6 h7 h8 h9 h10 h11 h12 h13 x_g x_kept x_saved x_before x_was x_region x_parts x_next x_ways x_more x_whole x_isSaved x_changes x_isWithin x_code x_input x_length x_fault x_failed x_signs x_signMany x_toldMany res H locs 92 ls [])
    : ∀ (n : Nat) (l3_34 : Int32) (x_at_34 : Int32) (x_told_34 : Nat → Int32) (H : Heap) (locs : List Loc) (ls : Array Slot), f_X13_figures_34 x_input x_length l1 l2 z92 n l3_34 x_at_34 x_told_34 = some res → Wo g A s H locs (w_X13 g h0 h1 h2 h3 h4 h5 h6 h7 h8 h9 h10 h11 h12 h13 x_g x_kept x_saved x_before x_was x_region x_parts x_next x_ways x_more x_whole x_isSaved x_changes x_isWithin x_code x_input x_length x_fault x_failed x_signs x_signMany x_at_34 x_told_34 x_toldMany) → lv_has ls 4 [(0, .ref h0), (1, .int l1), (2, .int l2), (3, .int l3_34)] → G_X13_figures p l e s m args below meth c g A h0 h1 h2 h3 h4 h5 h6 h7 h8 h9 h10 h11 h12 h13 x_g x_kept x_saved x_before x_was x_region x_parts x_next x_ways x_more x_whole x_isSaved x_changes x_isWithin x_code x_input x_length x_fault x_failed x_signs x_signMany x_toldMany res H locs 34 ls [] := by
  have hts := E.2.2.2.1
  intro n
  induction n with
  | zero => intro l3_34 x_at_34 x_told_34 H locs ls h hW hl; rw [f_X13_figures_34] at h; cases h
  | succ n ih =>
    intro l3_34 x_at_34 x_told_34 H locs ls h hW hl
    rw [f_X13_figures_34] at h
    refine lv_iload_n E.1 E.2.1 dX13_figures_34 rfl (lv_at hl 3 rfl) ?_
    refine lv_iload_n E.1 E.2.1 dX13_figures_35 rfl (lv_at hl 2 rfl) ?_
    refine lv_icmp_ge (tgt := 92) E.1 E.2.1 dX13_figures_36 (by decide) (fun c36 => ?_) (fun c36 => ?_)
    · have h := it c36 h
      exact hz92 x_at_34 x_told_34 H locs ls h hW (lv_sub hl [] rfl)
    · have h := ie c36 h
      refine lv_aload_n E.1 E.2.1 dX13_figures_39 rfl (lv_at hl 0 rfl) ?_
      obtain ⟨r40, hc, h⟩ := bx h
      refine goI (world' := (w_X13 g h0 h1 h2 h3 h4 h5 h6 h7 h8 h9 h10 h11 h12 h13 x_g x_kept x_saved x_before x_was x_region x_parts x_next x_ways x_more x_whole x_isSaved x_changes x_isWithin x_code x_input x_length x_fault x_failed x_signs x_signMany x_at_34 x_told_34 x_toldMany)) hW hA (is := [0, 1, 2, 3, 4, 5, 6, 7, 8, 9, 10, 11, 12, 13]) rfl (goV (rest := []) E hK hW [0, 1, 2, 3, 4, 5, 6, 7, 8, 9, 10, 11, 12, 13] rfl rfl (c_X13_here l g h0 h1 h2 h3 h4 h5 h6 h7 h8 h9 h10 h11 h12 h13 x_g x_kept x_saved x_before x_was x_region x_parts x_next x_ways x_more x_whole x_isSaved x_changes x_isWithin x_code x_input x_length x_fault x_failed x_signs x_signMany x_at_34 x_told_34 x_toldMany (hf := hc) H.size) (cwV 0 hts gX13_figures_X13_here rfl rfl rfl (by decide +kernel) ⟨Nat.le_of_ble_eq_true rfl, Nat.le_of_ble_eq_true rfl⟩) 0 rfl rfl rfl hl.1 rfl rfl (Nat.le_of_ble_eq_true rfl) dX13_figures_40 ⟨Nat.zero_le _, Nat.zero_le _⟩) rfl rfl (fun H locs hW => ?_)
      refine lv_bipush (v := 48) E.1 E.2.1 dX13_figures_43 (by decide) ?_
      refine lv_bipush (v := 57) E.1 E.2.1 dX13_figures_45 (by decide) ?_
      obtain ⟨r47, hc, h⟩ := bx h
      refine goI (world' := (w_X13 g h0 h1 h2 h3 h4 h5 h6 h7 h8 h9 h10 h11 h12 h13 x_g x_kept x_saved x_before x_was x_region x_parts x_next x_ways x_more x_whole x_isSaved x_changes x_isWithin x_code x_input x_length x_fault x_failed x_signs x_signMany x_at_34 x_told_34 x_toldMany)) hW hA (is := []) rfl (goS (rest := []) E hK hW [] rfl rfl (c_X13_in l g r40 48 57 (hf := hc) H.size) (va_cwS 3 hts gX13_figures_X13_in rfl rfl rfl (by decide +kernel) ⟨Nat.le_of_ble_eq_true rfl, Nat.le_of_ble_eq_true rfl⟩) hl.1 rfl rfl (Nat.le_of_ble_eq_true rfl) dX13_figures_47 ⟨Nat.zero_le _, Nat.zero_le _⟩) rfl rfl (fun H locs hW => ?_)
      refine lv_if_eq (tgt := 92) E.1 E.2.1 dX13_figures_50 (by decide) (fun c50 => ?_) (fun c50 => ?_)
      · have h := it c50 h
        exact hz92 x_at_34 x_told_34 H locs ls h hW (lv_sub hl [] rfl)
      · have h := ie c50 h
        refine lv_aload_n E.1 E.2.1 dX13_figures_53 rfl (lv_at hl 0 rfl) ?_
        refine wGet (v := .ref h13) E hK in_X13_figures_X13 hW 22 lk_X13_figures_55 0 rfl rfl (by decide) rfl rfl dX13_figures_54 ?_
        refine lv_iload_n E.1 E.2.1 dX13_figures_57 rfl (lv_at hl 1 rfl) ?_
        refine lv_bipush (v := 10) E.1 E.2.1 dX13_figures_58 (by decide) ?_
        refine lv_aload_n E.1 E.2.1 dX13_figures_60 rfl (lv_at hl 0 rfl) ?_
        refine wGet (v := .ref h13) E hK in_X13_figures_X13 hW 22 lk_X13_figures_55 0 rfl rfl (by decide) rfl rfl dX13_figures_61 ?_
        refine lv_iload_n E.1 E.2.1 dX13_figures_64 rfl (lv_at hl 1 rfl) ?_
        obtain ⟨hi65, h⟩ := ox h
        refine wIald E hK hW 13 rfl hi65 dX13_figures_65 ?_
        refine lv_imul E.1 E.2.1 dX13_figures_66 ?_
        refine lv_aload_n E.1 E.2.1 dX13_figures_67 rfl (lv_at hl 0 rfl) ?_
        obtain ⟨r68, hc, h⟩ := bx h
        refine goI (world' := (w_X13 g h0 h1 h2 h3 h4 h5 h6 h7 h8 h9 h10 h11 h12 h13 x_g x_kept x_saved x_before x_was x_region x_parts x_next x_ways x_more x_whole x_isSaved x_changes x_isWithin x_code x_input x_length x_fault x_failed x_signs x_signMany x_at_34 x_told_34 x_toldMany)) hW hA (is := [0, 1, 2, 3, 4, 5, 6, 7, 8, 9, 10, 11, 12, 13]) rfl (goV (rest := [.int (10 * (x_told_34 l1.toNatClampNeg)), .int l1, .ref h13]) E hK hW [0, 1, 2, 3, 4, 5, 6, 7, 8, 9, 10, 11, 12, 13] rfl rfl (c_X13_here l g h0 h1 h2 h3 h4 h5 h6 h7 h8 h9 h10 h11 h12 h13 x_g x_kept x_saved x_before x_was x_region x_parts x_next x_ways x_more x_whole x_isSaved x_changes x_isWithin x_code x_input x_length x_fault x_failed x_signs x_signMany x_at_34 x_told_34 x_toldMany (hf := hc) H.size) (cwV 0 hts gX13_figures_X13_here rfl rfl rfl (by decide +kernel) ⟨Nat.le_of_ble_eq_true rfl, Nat.le_of_ble_eq_true rfl⟩) 0 rfl rfl rfl hl.1 rfl rfl (Nat.le_of_ble_eq_true rfl) dX13_figures_68 ⟨Nat.zero_le _, Nat.zero_le _⟩) rfl rfl (fun H locs hW => ?_)
        refine lv_iadd E.1 E.2.1 dX13_figures_71 ?_
        refine lv_bipush (v := 48) E.1 E.2.1 dX13_figures_72 (by decide) ?_
        refine lv_isub E.1 E.2.1 dX13_figures_74 ?_
        refine wIast (world' := (w_X13 g h0 h1 h2 h3 h4 h5 h6 h7 h8 h9 h10 h11 h12 h13 x_g x_kept x_saved x_before x_was x_region x_parts x_next x_ways x_more x_whole x_isSaved x_changes x_isWithin x_code x_input x_length x_fault x_failed x_signs x_signMany x_at_34 (upd x_told_34 l1.toNatClampNeg (((10 * (x_told_34 l1.toNatClampNeg)) + r68) - 48)) x_toldMany)) E hK hW 13 rfl hi65 dX13_figures_75 rfl (fun H locs hW => ?_)
        refine lv_aload_n E.1 E.2.1 dX13_figures_76 rfl (lv_at hl 0 rfl) ?_
        refine lv_dup E.1 E.2.1 dX13_figures_77 rfl ?_
        refine wGet (v := .int x_at_34) E hK in_X13_figures_X13 hW 21 lk_X13_figures_206 0 rfl rfl (by decide) rfl rfl dX13_figures_78 ?_
        refine lv_iconst (v := 1) E.1 E.2.1 dX13_figures_81 (by decide) ?_
        refine lv_iadd E.1 E.2.1 dX13_figures_82 ?_
        refine wPut (world' := (w_X13 g h0 h1 h2 h3 h4 h5 h6 h7 h8 h9 h10 h11 h12 h13 x_g x_kept x_saved x_before x_was x_region x_parts x_next x_ways x_more x_whole x_isSaved x_changes x_isWithin x_code x_input x_length x_fault x_failed x_signs x_signMany (x_at_34 + 1) (upd x_told_34 l1.toNatClampNeg (((10 * (x_told_34 l1.toNatClampNeg)) + r68) - 48)) x_toldMany)) E hK in_X13_figures_X13 tyX13 tyX13_ok nmX13 hW 21 lk_X13_figures_206 0 rfl rfl (by decide) rfl rfl rfl rfl rfl (Nat.le_of_ble_eq_true rfl) dX13_figures_83 rfl (fun H locs hW => ?_)
        refine lv_iinc (v := (l3_34 + 1)) (lv' := [(3, .int (l3_34 + 1)), (0, .ref h0), (1, .int l1), (2, .int l2)]) E.1 E.2.1 dX13_figures_86 hl (k := 3) rfl rfl (by decide) rfl (fun ls hl => ?_)
        refine lv_goto (tgt := 34) E.1 E.2.1 dX13_figures_89 (by decide) ?_
        exact ih (l3_34 + 1) (x_at_34 + 1) (upd x_told_34 l1.toNatClampNeg (((10 * (x_told_34 l1.toNatClampNeg)) + r68) - 48)) H locs ls h hW (lv_sub hl [1, 2, 3, 0] rfl)
set_option maxHeartbeats 4000000 in
set_option maxRecDepth 100000 in
theorem k_X13_figures_0 {p : Program} {l : Launch} {e : Env} {s : State} {m : MethodId} {args : Array Value} {below : List Frame} {meth : Method} {c : Code} {g : GE} {A : Nat → Prop} {h0 h1 h2 h3 h4 h5 h6 h7 h8 h9 h10 h11 h12 h13 : Nat} {x_g : Nat → Int32} {x_kept : Nat → Int32} {x_saved : Nat → Int32} {x_before : Nat → Int32} {x_was : Nat → Int32} {x_region : Nat → Int32} {x_parts : Nat → Int64} {x_next : Nat → Int64} {x_ways : Nat → Int32} {x_more : Nat → Int32} {x_whole : Int64} {x_isSaved : Int32} {x_changes : Int32} {x_isWithin : Int32} {x_code : Int32} {x_input : Nat → Int32} {x_length : Int32} {x_fault : Int32} {x_failed : Int32} {x_signs : Nat → Int32} {x_signMany : Int32} {x_at : Int32} {x_told : Nat → Int32} {x_toldMany : Int32} {res : Int32 × Int32 × (Nat → Int32)} {H : Heap} {locs : List Loc} {ls : Array Slot} {a1 : Int32} {a2 : Int32}
    (E : En cX13_figures RX13 wsX13_figures 4 (some .boolean) p s m args meth c) (hK : KK g s) (hA : ∀ q, s.heap.size ≤ q → A q) (h : f_X13_figures x_input x_length x_at x_told a1 a2 = some res) (hW : Wo g A s H locs (w_X13 g h0 h1 h2 h3 h4 h5 h6 h7 h8 h9 h10 h11 h12 h13 x_g x_kept x_saved x_before x_was x_region x_parts x_next x_ways x_more x_whole x_isSaved x_changes x_isWithin x_code x_input x_length x_fault x_failed x_signs x_signMany x_at x_told x_toldMany)) (hl : lv_has ls 4 [(0, .ref h0), (1, .int a1), (2, .int a2)]) : G_X13_figures p l e s m args below meth c g A h0 h1 h2 h3 h4 h5 h6 h7 h8 h9 h10 h11 h12 h13 x_g x_kept x_saved x_before x_was x_region x_parts x_next x_ways x_more x_whole x_isSaved x_changes x_isWithin x_code x_input x_length x_fault x_failed x_signs x_signMany x_toldMany res H locs 0 ls [] := by
  have hts := E.2.2.2.1
  unfold f_X13_figures at h
  obtain ⟨j23, hj23, h⟩ := jox1 h
  have J23 : ∀ (x_at_23 : Int32) (H : Heap) (locs : List Loc) (ls : Array Slot), j23 x_at_23 = some res → Wo g A s H locs (w_X13 g h0 h1 h2 h3 h4 h5 h6 h7 h8 h9 h10 h11 h12 h13 x_g x_kept x_saved x_before x_was x_region x_parts x_next x_ways x_more x_whole x_isSaved x_changes x_isWithin x_code x_input x_length x_fault x_failed x_signs x_signMany x_at_23 x_told x_toldMany) → lv_has ls 4 [] → G_X13_figures p l e s m args below meth c g A h0 h1 h2 h3 h4 h5 h6 h7 h8 h9 h10 h11 h12 h13 x_g x_kept x_saved x_before x_was x_region x_parts x_next x_ways x_more x_whole x_isSaved x_changes x_isWithin x_code x_input x_length x_fault x_failed x_signs x_signMany x_toldMany res H locs 23 ls [] := by
    intro x_at_23 H locs ls h hW hl
    rw [hj23] at h
    refine lv_iconst (v := 0) E.1 E.2.1 dX13_figures_23 (by decide) ?_
    obtain rfl := Option.some.inj h
    exact endI E (by decide) hW dX13_figures_24
  refine lv_aload_n E.1 E.2.1 dX13_figures_0 rfl (lv_at hl 0 rfl) ?_
  refine lv_bipush (v := 32) E.1 E.2.1 dX13_figures_1 (by decide) ?_
  obtain ⟨r3, hc, h⟩ := bx h
  refine goI (world' := (w_X13 g h0 h1 h2 h3 h4 h5 h6 h7 h8 h9 h10 h11 h12 h13 x_g x_kept x_saved x_before x_was x_region x_parts x_next x_ways x_more x_whole x_isSaved x_changes x_isWithin x_code x_input x_length x_fault x_failed x_signs x_signMany r3.2 x_told x_toldMany)) hW hA (is := [0, 1, 2, 3, 4, 5, 6, 7, 8, 9, 10, 11, 12, 13]) rfl (goV (rest := []) E hK hW [0, 1, 2, 3, 4, 5, 6, 7, 8, 9, 10, 11, 12, 13] rfl rfl (c_X13_skips l g h0 h1 h2 h3 h4 h5 h6 h7 h8 h9 h10 h11 h12 h13 x_g x_kept x_saved x_before x_was x_region x_parts x_next x_ways x_more x_whole x_isSaved x_changes x_isWithin x_code x_input x_length x_fault x_failed x_signs x_signMany x_at x_told x_toldMany 32 (hf := hc) H.size) (cwV 1 hts gX13_figures_X13_skips rfl rfl rfl (by decide +kernel) ⟨Nat.le_of_ble_eq_true rfl, Nat.le_of_ble_eq_true rfl⟩) 0 rfl rfl rfl hl.1 rfl rfl (Nat.le_of_ble_eq_true rfl) dX13_figures_3 ⟨Nat.zero_le _, Nat.zero_le _⟩) rfl rfl (fun H locs hW => ?_)
  refine lv_if_eq (tgt := 23) E.1 E.2.1 dX13_figures_6 (by decide) (fun c6 => ?_) (fun c6 => ?_)
  · have h := it c6 h
    exact J23 r3.2 H locs ls h hW (lv_sub hl [] rfl)
  · have h := ie c6 h
    refine lv_aload_n E.1 E.2.1 dX13_figures_9 rfl (lv_at hl 0 rfl) ?_
    obtain ⟨r10, hc, h⟩ := bx h
    refine goI (world' := (w_X13 g h0 h1 h2 h3 h4 h5 h6 h7 h8 h9 h10 h11 h12 h13 x_g x_kept x_saved x_before x_was x_region x_parts x_next x_ways x_more x_whole x_isSaved x_changes x_isWithin x_code x_input x_length x_fault x_failed x_signs x_signMany r3.2 x_told x_toldMany)) hW hA (is := [0, 1, 2, 3, 4, 5, 6, 7, 8, 9, 10, 11, 12, 13]) rfl (goV (rest := []) E hK hW [0, 1, 2, 3, 4, 5, 6, 7, 8, 9, 10, 11, 12, 13] rfl rfl (c_X13_here l g h0 h1 h2 h3 h4 h5 h6 h7 h8 h9 h10 h11 h12 h13 x_g x_kept x_saved x_before x_was x_region x_parts x_next x_ways x_more x_whole x_isSaved x_changes x_isWithin x_code x_input x_length x_fault x_failed x_signs x_signMany r3.2 x_told x_toldMany (hf := hc) H.size) (cwV 0 hts gX13_figures_X13_here rfl rfl rfl (by decide +kernel) ⟨Nat.le_of_ble_eq_true rfl, Nat.le_of_ble_eq_true rfl⟩) 0 rfl rfl rfl hl.1 rfl rfl (Nat.le_of_ble_eq_true rfl) dX13_figures_10 ⟨Nat.zero_le _, Nat.zero_le _⟩) rfl rfl (fun H locs hW => ?_)
    refine lv_bipush (v := 48) E.1 E.2.1 dX13_figures_13 (by decide) ?_
    refine lv_bipush (v := 57) E.1 E.2.1 dX13_figures_15 (by decide) ?_
    obtain ⟨r17, hc, h⟩ := bx h
    refine goI (world' := (w_X13 g h0 h1 h2 h3 h4 h5 h6 h7 h8 h9 h10 h11 h12 h13 x_g x_kept x_saved x_before x_was x_region x_parts x_next x_ways x_more x_whole x_isSaved x_changes x_isWithin x_code x_input x_length x_fault x_failed x_signs x_signMany r3.2 x_told x_toldMany)) hW hA (is := []) rfl (goS (rest := []) E hK hW [] rfl rfl (c_X13_in l g r10 48 57 (hf := hc) H.size) (va_cwS 3 hts gX13_figures_X13_in rfl rfl rfl (by decide +kernel) ⟨Nat.le_of_ble_eq_true rfl, Nat.le_of_ble_eq_true rfl⟩) hl.1 rfl rfl (Nat.le_of_ble_eq_true rfl) dX13_figures_17 ⟨Nat.zero_le _, Nat.zero_le _⟩) rfl rfl (fun H locs hW => ?_)
    refine lv_if_ne (tgt := 25) E.1 E.2.1 dX13_figures_20 (by decide) (fun c20 => ?_) (fun c20 => ?_)
    · have h := ie c20 h
      refine lv_aload_n E.1 E.2.1 dX13_figures_25 rfl (lv_at hl 0 rfl) ?_
      refine wGet (v := .ref h13) E hK in_X13_figures_X13 hW 22 lk_X13_figures_55 0 rfl rfl (by decide) rfl rfl dX13_figures_26 ?_
      refine lv_iload_n E.1 E.2.1 dX13_figures_29 rfl (lv_at hl 1 rfl) ?_
      refine lv_iconst (v := 0) E.1 E.2.1 dX13_figures_30 (by decide) ?_
      obtain ⟨hi31, h⟩ := ox h
      refine wIast (world' := (w_X13 g h0 h1 h2 h3 h4 h5 h6 h7 h8 h9 h10 h11 h12 h13 x_g x_kept x_saved x_before x_was x_region x_parts x_next x_ways x_more x_whole x_isSaved x_changes x_isWithin x_code x_input x_length x_fault x_failed x_signs x_signMany r3.2 (upd x_told a1.toNatClampNeg 0) x_toldMany)) E hK hW 13 rfl hi31 dX13_figures_31 rfl (fun H locs hW => ?_)
      refine lv_iconst (v := 0) E.1 E.2.1 dX13_figures_32 (by decide) ?_
      refine lv_istore_n (lv' := [(3, .int 0), (0, .ref h0), (1, .int a1), (2, .int a2)]) E.1 E.2.1 dX13_figures_33 rfl hl (by decide) rfl (fun ls hl => ?_)
      refine k_X13_figures_34 E hK hA ?_ 1000 0 r3.2 (upd x_told a1.toNatClampNeg 0) H locs ls h hW (lv_sub hl [1, 2, 3, 0] rfl)
      · intro x_at_92e x_told_92e H locs ls h hW hl
        refine lv_iconst (v := 1) E.1 E.2.1 dX13_figures_92 (by decide) ?_
        obtain rfl := Option.some.inj h
        exact endI E (by decide) hW dX13_figures_93
    · have h := it c20 h
      exact J23 r3.2 H locs ls h hW (lv_sub hl [] rfl)
theorem c_X13_figures (l : Launch) (g : GE) (h0 h1 h2 h3 h4 h5 h6 h7 h8 h9 h10 h11 h12 h13 : Nat) (x_g : Nat → Int32) (x_kept : Nat → Int32) (x_saved : Nat → Int32) (x_before : Nat → Int32) (x_was : Nat → Int32) (x_region : Nat → Int32) (x_parts : Nat → Int64) (x_next : Nat → Int64) (x_ways : Nat → Int32) (x_more : Nat → Int32) (x_whole : Int64) (x_isSaved : Int32) (x_changes : Int32) (x_isWithin : Int32) (x_code : Int32) (x_input : Nat → Int32) (x_length : Int32) (x_fault : Int32) (x_failed : Int32) (x_signs : Nat → Int32) (x_signMany : Int32) (x_at : Int32) (x_told : Nat → Int32) (x_toldMany : Int32) (a1 : Int32) (a2 : Int32) {res : Int32 × Int32 × (Nat → Int32)} (hf : f_X13_figures x_input x_length x_at x_told a1 a2 = some res) : CI l yX13_figures wsX13_figures rm_X13_figures g [.ref h0, .int a1, .int a2] (w_X13 g h0 h1 h2 h3 h4 h5 h6 h7 h8 h9 h10 h11 h12 h13 x_g x_kept x_saved x_before x_was x_region x_parts x_next x_ways x_more x_whole x_isSaved x_changes x_isWithin x_code x_input x_length x_fault x_failed x_signs x_signMany x_at x_told x_toldMany) (w_X13 g h0 h1 h2 h3 h4 h5 h6 h7 h8 h9 h10 h11 h12 h13 x_g x_kept x_saved x_before x_was x_region x_parts x_next x_ways x_more x_whole x_isSaved x_changes x_isWithin x_code x_input x_length x_fault x_failed x_signs x_signMany res.2.1 res.2.2 x_toldMany) res.1 :=
  mkI (cc := cX13_figures) (maxL := 4) (by decide) rfl (Nat.le_of_ble_eq_true rfl) (fun p e s m args below meth c A H locs ls E hK hA hW hl => k_X13_figures_0 E hK hA hf hW hl)

/-! PaperStormModel.wayHere(I)Z X13_wayHere -/
abbrev rm_X13_wayHere : Room := { frames := 2, cells := 0, slots := 0, locals := 41 }
theorem in_X13_wayHere_X13 : ∀ w ∈ wsX130, w ∈ wsX13_wayHere := by decide +kernel
theorem lk_X13_wayHere_55 : Cond.fieldLink RX13 55 "PaperStormModel" "told" "[I" ∈ wsX13_wayHere := by decide +kernel
noncomputable def f_X13_wayHere (x_input : Nat → Int32) (x_length : Int32) (x_at : Int32) (x_told : Nat → Int32) (a1 : Int32) : Option (Int32 × Int32 × (Nat → Int32)) :=
  jo (fun (x_at_51 : Int32) (x_told_51 : Nat → Int32) (s0_51 : Int32) => if ¬ vp_nar .boolean s0_51 = s0_51 then none else some (s0_51, x_at_51, x_told_51)) (fun j51 => jo (fun (x_at_46 : Int32) (x_told_46 : Nat → Int32) => j51 x_at_46 x_told_46 1) (fun j46 => (f_X13_here x_input x_length x_at).bind fun r6 => if a1 < 0 ∨ 124 ≤ a1.toNatClampNeg then none else (f_X13_skips x_input x_length x_at 110).bind fun r13 => if r13.1 = 0 then (f_X13_skips x_input x_length r13.2 101).bind fun r22 => if r22.1 = 0 then (f_X13_skips x_input x_length r22.2 115).bind fun r31 => if r31.1 = 0 then (f_X13_skips x_input x_length r31.2 119).bind fun r40 => if r40.1 = 0 then j51 r40.2 (upd x_told a1.toNatClampNeg r6) 0 else j46 r40.2 (upd x_told a1.toNatClampNeg r6) else j46 r31.2 (upd x_told a1.toNatClampNeg r6) else j46 r22.2 (upd x_told a1.toNatClampNeg r6) else j46 r13.2 (upd x_told a1.toNatClampNeg r6)))
abbrev G_X13_wayHere (p : Program) (l : Launch) (e : Env) (s : State) (m : MethodId) (args : Array Value) (below : List Frame) (meth : Method) (c : Code) (g : GE) (A : Nat → Prop) (h0 h1 h2 h3 h4 h5 h6 h7 h8 h9 h10 h11 h12 h13 : Nat) (x_g : Nat → Int32) (x_kept : Nat → Int32) (x_saved : Nat → Int32) (x_before : Nat → Int32) (x_was : Nat → Int32) (x_region : Nat → Int32) (x_parts : Nat → Int64) (x_next : Nat → Int64) (x_ways : Nat → Int32) (x_more : Nat → Int32) (x_whole : Int64) (x_isSaved : Int32) (x_changes : Int32) (x_isWithin : Int32) (x_code : Int32) (x_input : Nat → Int32) (x_length : Int32) (x_fault : Int32) (x_failed : Int32) (x_signs : Nat → Int32) (x_signMany : Int32) (x_toldMany : Int32) (res : Int32 × Int32 × (Nat → Int32)) (H : Heap) (locs : List Loc) (pc : Nat) (ls : Array Slot) (st : List Value) : Prop := W p l e (headSpec wsX13_wayHere rm_X13_wayHere).room s m args below meth c H locs 0 0 (MQ below (PoI g A (w_X13 g h0 h1 h2 h3 h4 h5 h6 h7 h8 h9 h10 h11 h12 h13 x_g x_kept x_saved x_before x_was x_region x_parts x_next x_ways x_more x_whole x_isSaved x_changes x_isWithin x_code x_input x_length x_fault x_failed x_signs x_signMany res.2.1 res.2.2 x_toldMany) res.1) args s 0 0 A) (F0 m pc ls st)
set_option maxHeartbeats 4000000 in
set_option maxRecDepth 100000 in
theorem k_X13_wayHere_0 {p : Program} {l : Launch} {e : Env} {s : State} {m : MethodId} {args : Array Value} {below : List Frame} {meth : Method} {c : Code} {g : GE} {A : Nat → Prop} {h0 h1 h2 h3 h4 h5 h6 h7 h8 h9 h10 h11 h12 h13 : Nat} {x_g : Nat → Int32} {x_kept : Nat → Int32} {x_saved : Nat → Int32} {x_before : Nat → Int32} {x_was : Nat → Int32} {x_region : Nat → Int32} {x_parts : Nat → Int64} {x_next : Nat → Int64} {x_ways : Nat → Int32} {x_more : Nat → Int32} {x_whole : Int64} {x_isSaved : Int32} {x_changes : Int32} {x_isWithin : Int32} {x_code : Int32} {x_input : Nat → Int32} {x_length : Int32} {x_fault : Int32} {x_failed : Int32} {x_signs : Nat → Int32} {x_signMany : Int32} {x_at : Int32} {x_told : Nat → Int32} {x_toldMany : Int32} {res : Int32 × Int32 × (Nat → Int32)} {H : Heap} {locs : List Loc} {ls : Array Slot} {a1 : Int32}
    (E : En cX13_wayHere RX13 wsX13_wayHere 2 (some .boolean) p s m args meth c) (hK : KK g s) (hA : ∀ q, s.heap.size ≤ q → A q) (h : f_X13_wayHere x_input x_length x_at x_told a1 = some res) (hW : Wo g A s H locs (w_X13 g h0 h1 h2 h3 h4 h5 h6 h7 h8 h9 h10 h11 h12 h13 x_g x_kept x_saved x_before x_was x_region x_parts x_next x_ways x_more x_whole x_isSaved x_changes x_isWithin x_code x_input x_length x_fault x_failed x_signs x_signMany x_at x_told x_toldMany)) (hl : lv_has ls 2 [(0, .ref h0), (1, .int a1)]) : G_X13_wayHere p l e s m args below meth c g A h0 h1 h2 h3 h4 h5 h6 h7 h8 h9 h10 h11 h12 h13 x_g x_kept x_saved x_before x_was x_region x_parts x_next x_ways x_more x_whole x_isSaved x_changes x_isWithin x_code x_input x_length x_fault x_failed x_signs x_signMany x_toldMany res H locs 0 ls [] := by
  have hts := E.2.2.2.1
  unfold f_X13_wayHere at h
  obtain ⟨j51, hj51, h⟩ := jox3 h
  have J51 : ∀ (x_at_51 : Int32) (x_told_51 : Nat → Int32) (s0_51 : Int32) (H : Heap) (locs : List Loc) (ls : Array Slot), j51 x_at_51 x_told_51 s0_51 = some res → Wo g A s H locs (w_X13 g h0 h1 h2 h3 h4 h5 h6 h7 h8 h9 h10 h11 h12 h13 x_g x_kept x_saved x_before x_was x_region x_parts x_next x_ways x_more x_whole x_isSaved x_changes x_isWithin x_code x_input x_length x_fault x_failed x_signs x_signMany x_at_51 x_told_51 x_toldMany) → lv_has ls 2 [] → G_X13_wayHere p l e s m args below meth c g A h0 h1 h2 h3 h4 h5 h6 h7 h8 h9 h10 h11 h12 h13 x_g x_kept x_saved x_before x_was x_region x_parts x_next x_ways x_more x_whole x_isSaved x_changes x_isWithin x_code x_input x_length x_fault x_failed x_signs x_signMany x_toldMany res H locs 51 ls [.int s0_51] := by
    intro x_at_51 x_told_51 s0_51 H locs ls h hW hl
    rw [hj51] at h
    obtain ⟨hz, h⟩ := ox h
    obtain rfl := Option.some.inj h
    exact endI E (nar_z (Decidable.not_not.mp hz)) hW dX13_wayHere_51
  obtain ⟨j46, hj46, h⟩ := jox2 h
  have J46 : ∀ (x_at_46 : Int32) (x_told_46 : Nat → Int32) (H : Heap) (locs : List Loc) (ls : Array Slot), j46 x_at_46 x_told_46 = some res → Wo g A s H locs (w_X13 g h0 h1 h2 h3 h4 h5 h6 h7 h8 h9 h10 h11 h12 h13 x_g x_kept x_saved x_before x_was x_region x_parts x_next x_ways x_more x_whole x_isSaved x_changes x_isWithin x_code x_input x_length x_fault x_failed x_signs x_signMany x_at_46 x_told_46 x_toldMany) → lv_has ls 2 [] → G_X13_wayHere p l e s m args below meth c g A h0 h1 h2 h3 h4 h5 h6 h7 h8 h9 h10 h11 h12 h13 x_g x_kept x_saved x_before x_was x_region x_parts x_next x_ways x_more x_whole x_isSaved x_changes x_isWithin x_code x_input x_length x_fault x_failed x_signs x_signMany x_toldMany res H locs 46 ls [] := by
    intro x_at_46 x_told_46 H locs ls h hW hl
    rw [hj46] at h
    refine lv_iconst (v := 1) E.1 E.2.1 dX13_wayHere_46 (by decide) ?_
    refine lv_goto (tgt := 51) E.1 E.2.1 dX13_wayHere_47 (by decide) ?_
    exact J51 x_at_46 x_told_46 1 H locs ls h hW (lv_sub hl [] rfl)
  refine lv_aload_n E.1 E.2.1 dX13_wayHere_0 rfl (lv_at hl 0 rfl) ?_
  refine wGet (v := .ref h13) E hK in_X13_wayHere_X13 hW 22 lk_X13_wayHere_55 0 rfl rfl (by decide) rfl rfl dX13_wayHere_1 ?_
  refine lv_iload_n E.1 E.2.1 dX13_wayHere_4 rfl (lv_at hl 1 rfl) ?_
  refine lv_aload_n E.1 E.2.1 dX13_wayHere_5 rfl (lv_at hl 0 rfl) ?_
  obtain ⟨r6, hc, h⟩ := bx h
  refine goI (world' := (w_X13 g h0 h1 h2 h3 h4 h5 h6 h7 h8 h9 h10 h11 h12 h13 x_g x_kept x_saved x_before x_was x_region x_parts x_next x_ways x_more x_whole x_isSaved x_changes x_isWithin x_code x_input x_length x_fault x_failed x_signs x_signMany x_at x_told x_toldMany)) hW hA (is := [0, 1, 2, 3, 4, 5, 6, 7, 8, 9, 10, 11, 12, 13]) rfl (goV (rest := [.int a1, .ref h13]) E hK hW [0, 1, 2, 3, 4, 5, 6, 7, 8, 9, 10, 11, 12, 13] rfl rfl (c_X13_here l g h0 h1 h2 h3 h4 h5 h6 h7 h8 h9 h10 h11 h12 h13 x_g x_kept x_saved x_before x_was x_region x_parts x_next x_ways x_more x_whole x_isSaved x_changes x_isWithin x_code x_input x_length x_fault x_failed x_signs x_signMany x_at x_told x_toldMany (hf := hc) H.size) (cwV 0 hts gX13_wayHere_X13_here rfl rfl rfl (by decide +kernel) ⟨Nat.le_of_ble_eq_true rfl, Nat.le_of_ble_eq_true rfl⟩) 0 rfl rfl rfl hl.1 rfl rfl (Nat.le_of_ble_eq_true rfl) dX13_wayHere_6 ⟨Nat.zero_le _, Nat.zero_le _⟩) rfl rfl (fun H locs hW => ?_)
  obtain ⟨hi9, h⟩ := ox h
  refine wIast (world' := (w_X13 g h0 h1 h2 h3 h4 h5 h6 h7 h8 h9 h10 h11 h12 h13 x_g x_kept x_saved x_before x_was x_region x_parts x_next x_ways x_more x_whole x_isSaved x_changes x_isWithin x_code x_input x_length x_fault x_failed x_signs x_signMany x_at (upd x_told a1.toNatClampNeg r6) x_toldMany)) E hK hW 13 rfl hi9 dX13_wayHere_9 rfl (fun H locs hW => ?_)
  refine lv_aload_n E.1 E.2.1 dX13_wayHere_10 rfl (lv_at hl 0 rfl) ?_
  refine lv_bipush (v := 110) E.1 E.2.1 dX13_wayHere_11 (by decide) ?_
  obtain ⟨r13, hc, h⟩ := bx h
  refine goI (world' := (w_X13 g h0 h1 h2 h3 h4 h5 h6 h7 h8 h9 h10 h11 h12 h13 x_g x_kept x_saved x_before x_was x_region x_parts x_next x_ways x_more x_whole x_isSaved x_changes x_isWithin x_code x_input x_length x_fault x_failed x_signs x_signMany r13.2 (upd x_told a1.toNatClampNeg r6) x_toldMany)) hW hA (is := [0, 1, 2, 3, 4, 5, 6, 7, 8, 9, 10, 11, 12, 13]) rfl (goV (rest := []) E hK hW [0, 1, 2, 3, 4, 5, 6, 7, 8, 9, 10, 11, 12, 13] rfl rfl (c_X13_skips l g h0 h1 h2 h3 h4 h5 h6 h7 h8 h9 h10 h11 h12 h13 x_g x_kept x_saved x_before x_was x_region x_parts x_next x_ways x_more x_whole x_isSaved x_changes x_isWithin x_code x_input x_length x_fault x_failed x_signs x_signMany x_at (upd x_told a1.toNatClampNeg r6) x_toldMany 110 (hf := hc) H.size) (cwV 1 hts gX13_wayHere_X13_skips rfl rfl rfl (by decide +kernel) ⟨Nat.le_of_ble_eq_true rfl, Nat.le_of_ble_eq_true rfl⟩) 0 rfl rfl rfl hl.1 rfl rfl (Nat.le_of_ble_eq_true rfl) dX13_wayHere_13 ⟨Nat.zero_le _, Nat.zero_le _⟩) rfl rfl (fun H locs hW => ?_)
  refine lv_if_ne (tgt := 46) E.1 E.2.1 dX13_wayHere_16 (by decide) (fun c16 => ?_) (fun c16 => ?_)
  · have h := ie c16 h
    exact J46 r13.2 (upd x_told a1.toNatClampNeg r6) H locs ls h hW (lv_sub hl [] rfl)
  · have h := it c16 h
    refine lv_aload_n E.1 E.2.1 dX13_wayHere_19 rfl (lv_at hl 0 rfl) ?_
    refine lv_bipush (v := 101) E.1 E.2.1 dX13_wayHere_20 (by decide) ?_
    obtain ⟨r22, hc, h⟩ := bx h
    refine goI (world' := (w_X13 g h0 h1 h2 h3 h4 h5 h6 h7 h8 h9 h10 h11 h12 h13 x_g x_kept x_saved x_before x_was x_region x_parts x_next x_ways x_more x_whole x_isSaved x_changes x_isWithin x_code x_input x_length x_fault x_failed x_signs x_signMany r22.2 (upd x_told a1.toNatClampNeg r6) x_toldMany)) hW hA (is := [0, 1, 2, 3, 4, 5, 6, 7, 8, 9, 10, 11, 12, 13]) rfl (goV (rest := []) E hK hW [0, 1, 2, 3, 4, 5, 6, 7, 8, 9, 10, 11, 12, 13] rfl rfl (c_X13_skips l g h0 h1 h2 h3 h4 h5 h6 h7 h8 h9 h10 h11 h12 h13 x_g x_kept x_saved x_before x_was x_region x_parts x_next x_ways x_more x_whole x_isSaved x_changes x_isWithin x_code x_input x_length x_fault x_failed x_signs x_signMany r13.2 (upd x_told a1.toNatClampNeg r6) x_toldMany 101 (hf := hc) H.size) (cwV 1 hts gX13_wayHere_X13_skips rfl rfl rfl (by decide +kernel) ⟨Nat.le_of_ble_eq_true rfl, Nat.le_of_ble_eq_true rfl⟩) 0 rfl rfl rfl hl.1 rfl rfl (Nat.le_of_ble_eq_true rfl) dX13_wayHere_22 ⟨Nat.zero_le _, Nat.zero_le _⟩) rfl rfl (fun H locs hW => ?_)
    refine lv_if_ne (tgt := 46) E.1 E.2.1 dX13_wayHere_25 (by decide) (fun c25 => ?_) (fun c25 => ?_)
    · have h := ie c25 h
      exact J46 r22.2 (upd x_told a1.toNatClampNeg r6) H locs ls h hW (lv_sub hl [] rfl)
    · have h := it c25 h
      refine lv_aload_n E.1 E.2.1 dX13_wayHere_28 rfl (lv_at hl 0 rfl) ?_
      refine lv_bipush (v := 115) E.1 E.2.1 dX13_wayHere_29 (by decide) ?_
      obtain ⟨r31, hc, h⟩ := bx h
      refine goI (world' := (w_X13 g h0 h1 h2 h3 h4 h5 h6 h7 h8 h9 h10 h11 h12 h13 x_g x_kept x_saved x_before x_was x_region x_parts x_next x_ways x_more x_whole x_isSaved x_changes x_isWithin x_code x_input x_length x_fault x_failed x_signs x_signMany r31.2 (upd x_told a1.toNatClampNeg r6) x_toldMany)) hW hA (is := [0, 1, 2, 3, 4, 5, 6, 7, 8, 9, 10, 11, 12, 13]) rfl (goV (rest := []) E hK hW [0, 1, 2, 3, 4, 5, 6, 7, 8, 9, 10, 11, 12, 13] rfl rfl (c_X13_skips l g h0 h1 h2 h3 h4 h5 h6 h7 h8 h9 h10 h11 h12 h13 x_g x_kept x_saved x_before x_was x_region x_parts x_next x_ways x_more x_whole x_isSaved x_changes x_isWithin x_code x_input x_length x_fault x_failed x_signs x_signMany r22.2 (upd x_told a1.toNatClampNeg r6) x_toldMany 115 (hf := hc) H.size) (cwV 1 hts gX13_wayHere_X13_skips rfl rfl rfl (by decide +kernel) ⟨Nat.le_of_ble_eq_true rfl, Nat.le_of_ble_eq_true rfl⟩) 0 rfl rfl rfl hl.1 rfl rfl (Nat.le_of_ble_eq_true rfl) dX13_wayHere_31 ⟨Nat.zero_le _, Nat.zero_le _⟩) rfl rfl (fun H locs hW => ?_)
      refine lv_if_ne (tgt := 46) E.1 E.2.1 dX13_wayHere_34 (by decide) (fun c34 => ?_) (fun c34 => ?_)
      · have h := ie c34 h
        exact J46 r31.2 (upd x_told a1.toNatClampNeg r6) H locs ls h hW (lv_sub hl [] rfl)
      · have h := it c34 h
        refine lv_aload_n E.1 E.2.1 dX13_wayHere_37 rfl (lv_at hl 0 rfl) ?_
        refine lv_bipush (v := 119) E.1 E.2.1 dX13_wayHere_38 (by decide) ?_
        obtain ⟨r40, hc, h⟩ := bx h
        refine goI (world' := (w_X13 g h0 h1 h2 h3 h4 h5 h6 h7 h8 h9 h10 h11 h12 h13 x_g x_kept x_saved x_before x_was x_region x_parts x_next x_ways x_more x_whole x_isSaved x_changes x_isWithin x_code x_input x_length x_fault x_failed x_signs x_signMany r40.2 (upd x_told a1.toNatClampNeg r6) x_toldMany)) hW hA (is := [0, 1, 2, 3, 4, 5, 6, 7, 8, 9, 10, 11, 12, 13]) rfl (goV (rest := []) E hK hW [0, 1, 2, 3, 4, 5, 6, 7, 8, 9, 10, 11, 12, 13] rfl rfl (c_X13_skips l g h0 h1 h2 h3 h4 h5 h6 h7 h8 h9 h10 h11 h12 h13 x_g x_kept x_saved x_before x_was x_region x_parts x_next x_ways x_more x_whole x_isSaved x_changes x_isWithin x_code x_input x_length x_fault x_failed x_signs x_signMany r31.2 (upd x_told a1.toNatClampNeg r6) x_toldMany 119 (hf := hc) H.size) (cwV 1 hts gX13_wayHere_X13_skips rfl rfl rfl (by decide +kernel) ⟨Nat.le_of_ble_eq_true rfl, Nat.le_of_ble_eq_true rfl⟩) 0 rfl rfl rfl hl.1 rfl rfl (Nat.le_of_ble_eq_true rfl) dX13_wayHere_40 ⟨Nat.zero_le _, Nat.zero_le _⟩) rfl rfl (fun H locs hW => ?_)
        refine lv_if_eq (tgt := 50) E.1 E.2.1 dX13_wayHere_43 (by decide) (fun c43 => ?_) (fun c43 => ?_)
        · have h := it c43 h
          refine lv_iconst (v := 0) E.1 E.2.1 dX13_wayHere_50 (by decide) ?_
          exact J51 r40.2 (upd x_told a1.toNatClampNeg r6) 0 H locs ls h hW (lv_sub hl [] rfl)
        · have h := ie c43 h
          exact J46 r40.2 (upd x_told a1.toNatClampNeg r6) H locs ls h hW (lv_sub hl [] rfl)
theorem c_X13_wayHere (l : Launch) (g : GE) (h0 h1 h2 h3 h4 h5 h6 h7 h8 h9 h10 h11 h12 h13 : Nat) (x_g : Nat → Int32) (x_kept : Nat → Int32) (x_saved : Nat → Int32) (x_before : Nat → Int32) (x_was : Nat → Int32) (x_region : Nat → Int32) (x_parts : Nat → Int64) (x_next : Nat → Int64) (x_ways : Nat → Int32) (x_more : Nat → Int32) (x_whole : Int64) (x_isSaved : Int32) (x_changes : Int32) (x_isWithin : Int32) (x_code : Int32) (x_input : Nat → Int32) (x_length : Int32) (x_fault : Int32) (x_failed : Int32) (x_signs : Nat → Int32) (x_signMany : Int32) (x_at : Int32) (x_told : Nat → Int32) (x_toldMany : Int32) (a1 : Int32) {res : Int32 × Int32 × (Nat → Int32)} (hf : f_X13_wayHere x_input x_length x_at x_told a1 = some res) : CI l yX13_wayHere wsX13_wayHere rm_X13_wayHere g [.ref h0, .int a1] (w_X13 g h0 h1 h2 h3 h4 h5 h6 h7 h8 h9 h10 h11 h12 h13 x_g x_kept x_saved x_before x_was x_region x_parts x_next x_ways x_more x_whole x_isSaved x_changes x_isWithin x_code x_input x_length x_fault x_failed x_signs x_signMany x_at x_told x_toldMany) (w_X13 g h0 h1 h2 h3 h4 h5 h6 h7 h8 h9 h10 h11 h12 h13 x_g x_kept x_saved x_before x_was x_region x_parts x_next x_ways x_more x_whole x_isSaved x_changes x_isWithin x_code x_input x_length x_fault x_failed x_signs x_signMany res.2.1 res.2.2 x_toldMany) res.1 :=
  mkI (cc := cX13_wayHere) (maxL := 2) (by decide) rfl (Nat.le_of_ble_eq_true rfl) (fun p e s m args below meth c A H locs ls E hK hA hW hl => k_X13_wayHere_0 E hK hA hf hW hl)

/-! PaperStormModel.errorPosition()I X13_errorPosition -/
abbrev rm_X13_errorPosition : Room := { frames := 1, cells := 0, slots := 0, locals := 21 }
theorem in_X13_errorPosition_X13 : ∀ w ∈ wsX130, w ∈ wsX13_errorPosition := by decide +kernel
theorem lk_X13_errorPosition_44 : Cond.fieldLink RX13 44 "PaperStormModel" "fault" "I" ∈ wsX13_errorPosition := by decide +kernel
noncomputable def f_X13_errorPosition (x_code : Int32) (x_fault : Int32) : Option (Int32 × Int32) :=
  jo (fun (s1_13 : Int32) => jo (fun (x_code_27 : Int32) (s0_27 : Int32) => some (s0_27, x_code_27)) (fun j27 => (f_X13_fails x_code s1_13).bind fun r13 => if r13.1 = 0 then j27 r13.2 x_fault else j27 r13.2 0)) (fun j13 => if 0 ≤ x_fault then j13 0 else j13 1)
abbrev G_X13_errorPosition (p : Program) (l : Launch) (e : Env) (s : State) (m : MethodId) (args : Array Value) (below : List Frame) (meth : Method) (c : Code) (g : GE) (A : Nat → Prop) (h0 h1 h2 h3 h4 h5 h6 h7 h8 h9 h10 h11 h12 h13 : Nat) (x_g : Nat → Int32) (x_kept : Nat → Int32) (x_saved : Nat → Int32) (x_before : Nat → Int32) (x_was : Nat → Int32) (x_region : Nat → Int32) (x_parts : Nat → Int64) (x_next : Nat → Int64) (x_ways : Nat → Int32) (x_more : Nat → Int32) (x_whole : Int64) (x_isSaved : Int32) (x_changes : Int32) (x_isWithin : Int32) (x_input : Nat → Int32) (x_length : Int32) (x_fault : Int32) (x_failed : Int32) (x_signs : Nat → Int32) (x_signMany : Int32) (x_at : Int32) (x_told : Nat → Int32) (x_toldMany : Int32) (res : Int32 × Int32) (H : Heap) (locs : List Loc) (pc : Nat) (ls : Array Slot) (st : List Value) : Prop := W p l e (headSpec wsX13_errorPosition rm_X13_errorPosition).room s m args below meth c H locs 0 0 (MQ below (PoI g A (w_X13 g h0 h1 h2 h3 h4 h5 h6 h7 h8 h9 h10 h11 h12 h13 x_g x_kept x_saved x_before x_was x_region x_parts x_next x_ways x_more x_whole x_isSaved x_changes x_isWithin res.2 x_input x_length x_fault x_failed x_signs x_signMany x_at x_told x_toldMany) res.1) args s 0 0 A) (F0 m pc ls st)
set_option maxHeartbeats 4000000 in
set_option maxRecDepth 100000 in
theorem k_X13_errorPosition_0 {p : Program} {l : Launch} {e : Env} {s : State} {m : MethodId} {args : Array Value} {below : List Frame} {meth : Method} {c : Code} {g : GE} {A : Nat → Prop} {h0 h1 h2 h3 h4 h5 h6 h7 h8 h9 h10 h11 h12 h13 : Nat} {x_g : Nat → Int32} {x_kept : Nat → Int32} {x_saved : Nat → Int32} {x_before : Nat → Int32} {x_was : Nat → Int32} {x_region : Nat → Int32} {x_parts : Nat → Int64} {x_next : Nat → Int64} {x_ways : Nat → Int32} {x_more : Nat → Int32} {x_whole : Int64} {x_isSaved : Int32} {x_changes : Int32} {x_isWithin : Int32} {x_code : Int32} {x_input : Nat → Int32} {x_length : Int32} {x_fault : Int32} {x_failed : Int32} {x_signs : Nat → Int32} {x_signMany : Int32} {x_at : Int32} {x_told : Nat → Int32} {x_toldMany : Int32} {res : Int32 × Int32} {H : Heap} {locs : List Loc} {ls : Array Slot} 
    (E : En cX13_errorPosition RX13 wsX13_errorPosition 1 (some .int) p s m args meth c) (hK : KK g s) (hA : ∀ q, s.heap.size ≤ q → A q) (h : f_X13_errorPosition x_code x_fault = some res) (hW : Wo g A s H locs (w_X13 g h0 h1 h2 h3 h4 h5 h6 h7 h8 h9 h10 h11 h12 h13 x_g x_kept x_saved x_before x_was x_region x_parts x_next x_ways x_more x_whole x_isSaved x_changes x_isWithin x_code x_input x_length x_fault x_failed x_signs x_signMany x_at x_told x_toldMany)) (hl : lv_has ls 1 [(0, .ref h0)]) : G_X13_errorPosition p l e s m args below meth c g A h0 h1 h2 h3 h4 h5 h6 h7 h8 h9 h10 h11 h12 h13 x_g x_kept x_saved x_before x_was x_region x_parts x_next x_ways x_more x_whole x_isSaved x_changes x_isWithin x_input x_length x_fault x_failed x_signs x_signMany x_at x_told x_toldMany res H locs 0 ls [] := by
  have hts := E.2.2.2.1
  unfold f_X13_errorPosition at h
  obtain ⟨j13, hj13, h⟩ := jox1 h
  have J13 : ∀ (s1_13 : Int32) (H : Heap) (locs : List Loc) (ls : Array Slot), j13 s1_13 = some res → Wo g A s H locs (w_X13 g h0 h1 h2 h3 h4 h5 h6 h7 h8 h9 h10 h11 h12 h13 x_g x_kept x_saved x_before x_was x_region x_parts x_next x_ways x_more x_whole x_isSaved x_changes x_isWithin x_code x_input x_length x_fault x_failed x_signs x_signMany x_at x_told x_toldMany) → lv_has ls 1 [(0, .ref h0)] → G_X13_errorPosition p l e s m args below meth c g A h0 h1 h2 h3 h4 h5 h6 h7 h8 h9 h10 h11 h12 h13 x_g x_kept x_saved x_before x_was x_region x_parts x_next x_ways x_more x_whole x_isSaved x_changes x_isWithin x_input x_length x_fault x_failed x_signs x_signMany x_at x_told x_toldMany res H locs 13 ls [.int s1_13, .ref h0] := by
    intro s1_13 H locs ls h hW hl
    rw [hj13] at h
    obtain ⟨j27, hj27, h⟩ := jox2 h
    have J27 : ∀ (x_code_27 : Int32) (s0_27 : Int32) (H : Heap) (locs : List Loc) (ls : Array Slot), j27 x_code_27 s0_27 = some res → Wo g A s H locs (w_X13 g h0 h1 h2 h3 h4 h5 h6 h7 h8 h9 h10 h11 h12 h13 x_g x_kept x_saved x_before x_was x_region x_parts x_next x_ways x_more x_whole x_isSaved x_changes x_isWithin x_code_27 x_input x_length x_fault x_failed x_signs x_signMany x_at x_told x_toldMany) → lv_has ls 1 [] → G_X13_errorPosition p l e s m args below meth c g A h0 h1 h2 h3 h4 h5 h6 h7 h8 h9 h10 h11 h12 h13 x_g x_kept x_saved x_before x_was x_region x_parts x_next x_ways x_more x_whole x_isSaved x_changes x_isWithin x_input x_length x_fault x_failed x_signs x_signMany x_at x_told x_toldMany res H locs 27 ls [.int s0_27] := by
      intro x_code_27 s0_27 H locs ls h hW hl
      rw [hj27] at h
      obtain rfl := Option.some.inj h
      exact endI E rfl hW dX13_errorPosition_27
    obtain ⟨r13, hc, h⟩ := bx h
    refine goI (world' := (w_X13 g h0 h1 h2 h3 h4 h5 h6 h7 h8 h9 h10 h11 h12 h13 x_g x_kept x_saved x_before x_was x_region x_parts x_next x_ways x_more x_whole x_isSaved x_changes x_isWithin r13.2 x_input x_length x_fault x_failed x_signs x_signMany x_at x_told x_toldMany)) hW hA (is := [0, 1, 2, 3, 4, 5, 6, 7, 8, 9, 10, 11, 12, 13]) rfl (goV (rest := []) E hK hW [0, 1, 2, 3, 4, 5, 6, 7, 8, 9, 10, 11, 12, 13] rfl rfl (c_X13_fails l g h0 h1 h2 h3 h4 h5 h6 h7 h8 h9 h10 h11 h12 h13 x_g x_kept x_saved x_before x_was x_region x_parts x_next x_ways x_more x_whole x_isSaved x_changes x_isWithin x_code x_input x_length x_fault x_failed x_signs x_signMany x_at x_told x_toldMany s1_13 (hf := hc) H.size) (cwV 1 hts gX13_errorPosition_X13_fails rfl rfl rfl (by decide +kernel) ⟨Nat.le_of_ble_eq_true rfl, Nat.le_of_ble_eq_true rfl⟩) 0 rfl rfl rfl hl.1 rfl rfl (Nat.le_of_ble_eq_true rfl) dX13_errorPosition_13 ⟨Nat.zero_le _, Nat.zero_le _⟩) rfl rfl (fun H locs hW => ?_)
    refine lv_if_eq (tgt := 23) E.1 E.2.1 dX13_errorPosition_16 (by decide) (fun c16 => ?_) (fun c16 => ?_)
    · have h := it c16 h
      refine lv_aload_n E.1 E.2.1 dX13_errorPosition_23 rfl (lv_at hl 0 rfl) ?_
      refine wGet (v := .int x_fault) E hK in_X13_errorPosition_X13 hW 17 lk_X13_errorPosition_44 0 rfl rfl (by decide) rfl rfl dX13_errorPosition_24 ?_
      exact J27 r13.2 x_fault H locs ls h hW (lv_sub hl [] rfl)
    · have h := ie c16 h
      refine lv_iconst (v := 0) E.1 E.2.1 dX13_errorPosition_19 (by decide) ?_
      refine lv_goto (tgt := 27) E.1 E.2.1 dX13_errorPosition_20 (by decide) ?_
      exact J27 r13.2 0 H locs ls h hW (lv_sub hl [] rfl)
  refine lv_aload_n E.1 E.2.1 dX13_errorPosition_0 rfl (lv_at hl 0 rfl) ?_
  refine lv_aload_n E.1 E.2.1 dX13_errorPosition_1 rfl (lv_at hl 0 rfl) ?_
  refine wGet (v := .int x_fault) E hK in_X13_errorPosition_X13 hW 17 lk_X13_errorPosition_44 0 rfl rfl (by decide) rfl rfl dX13_errorPosition_2 ?_
  refine lv_if_ge (tgt := 12) E.1 E.2.1 dX13_errorPosition_5 (by decide) (fun c5 => ?_) (fun c5 => ?_)
  · have h := it c5 h
    refine lv_iconst (v := 0) E.1 E.2.1 dX13_errorPosition_12 (by decide) ?_
    exact J13 0 H locs ls h hW (lv_sub hl [0] rfl)
  · have h := ie c5 h
    refine lv_iconst (v := 1) E.1 E.2.1 dX13_errorPosition_8 (by decide) ?_
    refine lv_goto (tgt := 13) E.1 E.2.1 dX13_errorPosition_9 (by decide) ?_
    exact J13 1 H locs ls h hW (lv_sub hl [0] rfl)
theorem c_X13_errorPosition (l : Launch) (g : GE) (h0 h1 h2 h3 h4 h5 h6 h7 h8 h9 h10 h11 h12 h13 : Nat) (x_g : Nat → Int32) (x_kept : Nat → Int32) (x_saved : Nat → Int32) (x_before : Nat → Int32) (x_was : Nat → Int32) (x_region : Nat → Int32) (x_parts : Nat → Int64) (x_next : Nat → Int64) (x_ways : Nat → Int32) (x_more : Nat → Int32) (x_whole : Int64) (x_isSaved : Int32) (x_changes : Int32) (x_isWithin : Int32) (x_code : Int32) (x_input : Nat → Int32) (x_length : Int32) (x_fault : Int32) (x_failed : Int32) (x_signs : Nat → Int32) (x_signMany : Int32) (x_at : Int32) (x_told : Nat → Int32) (x_toldMany : Int32) {res : Int32 × Int32} (hf : f_X13_errorPosition x_code x_fault = some res) : CI l yX13_errorPosition wsX13_errorPosition rm_X13_errorPosition g [.ref h0] (w_X13 g h0 h1 h2 h3 h4 h5 h6 h7 h8 h9 h10 h11 h12 h13 x_g x_kept x_saved x_before x_was x_region x_parts x_next x_ways x_more x_whole x_isSaved x_changes x_isWithin x_code x_input x_length x_fault x_failed x_signs x_signMany x_at x_told x_toldMany) (w_X13 g h0 h1 h2 h3 h4 h5 h6 h7 h8 h9 h10 h11 h12 h13 x_g x_kept x_saved x_before x_was x_region x_parts x_next x_ways x_more x_whole x_isSaved x_changes x_isWithin res.2 x_input x_length x_fault x_failed x_signs x_signMany x_at x_told x_toldMany) res.1 :=
  mkI (cc := cX13_errorPosition) (maxL := 1) (by decide) rfl (Nat.le_of_ble_eq_true rfl) (fun p e s m args below meth c A H locs ls E hK hA hW hl => k_X13_errorPosition_0 E hK hA hf hW hl)

/-! PaperStormModel.failedCommand()I X13_failedCommand -/
abbrev rm_X13_failedCommand : Room := { frames := 1, cells := 0, slots := 0, locals := 21 }
theorem in_X13_failedCommand_X13 : ∀ w ∈ wsX130, w ∈ wsX13_failedCommand := by decide +kernel
theorem lk_X13_failedCommand_48 : Cond.fieldLink RX13 48 "PaperStormModel" "failed" "I" ∈ wsX13_failedCommand := by decide +kernel
noncomputable def f_X13_failedCommand (x_code : Int32) (x_failed : Int32) : Option (Int32 × Int32) :=
  jo (fun (s1_13 : Int32) => jo (fun (x_code_27 : Int32) (s0_27 : Int32) => some (s0_27, x_code_27)) (fun j27 => (f_X13_fails x_code s1_13).bind fun r13 => if r13.1 = 0 then j27 r13.2 x_failed else j27 r13.2 0)) (fun j13 => if 0 ≤ x_failed then j13 0 else j13 1)
abbrev G_X13_failedCommand (p : Program) (l : Launch) (e : Env) (s : State) (m : MethodId) (args : Array Value) (below : List Frame) (meth : Method) (c : Code) (g : GE) (A : Nat → Prop) (h0 h1 h2 h3 h4 h5 h6 h7 h8 h9 h10 h11 h12 h13 : Nat) (x_g : Nat → Int32) (x_kept : Nat → Int32) (x_saved : Nat → Int32) (x_before : Nat → Int32) (x_was : Nat → Int32) (x_region : Nat → Int32) (x_parts : Nat → Int64) (x_next : Nat → Int64) (x_ways : Nat → Int32) (x_more : Nat → Int32) (x_whole : Int64) (x_isSaved : Int32) (x_changes : Int32) (x_isWithin : Int32) (x_input : Nat → Int32) (x_length : Int32) (x_fault : Int32) (x_failed : Int32) (x_signs : Nat → Int32) (x_signMany : Int32) (x_at : Int32) (x_told : Nat → Int32) (x_toldMany : Int32) (res : Int32 × Int32) (H : Heap) (locs : List Loc) (pc : Nat) (ls : Array Slot) (st : List Value) : Prop := W p l e (headSpec wsX13_failedCommand rm_X13_failedCommand).room s m args below meth c H locs 0 0 (MQ below (PoI g A (w_X13 g h0 h1 h2 h3 h4 h5 h6 h7 h8 h9 h10 h11 h12 h13 x_g x_kept x_saved x_before x_was x_region x_parts x_next x_ways x_more x_whole x_isSaved x_changes x_isWithin res.2 x_input x_length x_fault x_failed x_signs x_signMany x_at x_told x_toldMany) res.1) args s 0 0 A) (F0 m pc ls st)
set_option maxHeartbeats 4000000 in
set_option maxRecDepth 100000 in
theorem k_X13_failedCommand_0 {p : Program} {l : Launch} {e : Env} {s : State} {m : MethodId} {args : Array Value} {below : List Frame} {meth : Method} {c : Code} {g : GE} {A : Nat → Prop} {h0 h1 h2 h3 h4 h5 h6 h7 h8 h9 h10 h11 h12 h13 : Nat} {x_g : Nat → Int32} {x_kept : Nat → Int32} {x_saved : Nat → Int32} {x_before : Nat → Int32} {x_was : Nat → Int32} {x_region : Nat → Int32} {x_parts : Nat → Int64} {x_next : Nat → Int64} {x_ways : Nat → Int32} {x_more : Nat → Int32} {x_whole : Int64} {x_isSaved : Int32} {x_changes : Int32} {x_isWithin : Int32} {x_code : Int32} {x_input : Nat → Int32} {x_length : Int32} {x_fault : Int32} {x_failed : Int32} {x_signs : Nat → Int32} {x_signMany : Int32} {x_at : Int32} {x_told : Nat → Int32} {x_toldMany : Int32} {res : Int32 × Int32} {H : Heap} {locs : List Loc} {ls : Array Slot} 
    (E : En cX13_failedCommand RX13 wsX13_failedCommand 1 (some .int) p s m args meth c) (hK : KK g s) (hA : ∀ q, s.heap.size ≤ q → A q) (h : f_X13_failedCommand x_code x_failed = some res) (hW : Wo g A s H locs (w_X13 g h0 h1 h2 h3 h4 h5 h6 h7 h8 h9 h10 h11 h12 h13 x_g x_kept x_saved x_before x_was x_region x_parts x_next x_ways x_more x_whole x_isSaved x_changes x_isWithin x_code x_input x_length x_fault x_failed x_signs x_signMany x_at x_told x_toldMany)) (hl : lv_has ls 1 [(0, .ref h0)]) : G_X13_failedCommand p l e s m args below meth c g A h0 h1 h2 h3 h4 h5 h6 h7 h8 h9 h10 h11 h12 h13 x_g x_kept x_saved x_before x_was x_region x_parts x_next x_ways x_more x_whole x_isSaved x_changes x_isWithin x_input x_length x_fault x_failed x_signs x_signMany x_at x_told x_toldMany res H locs 0 ls [] := by
  have hts := E.2.2.2.1
  unfold f_X13_failedCommand at h
  obtain ⟨j13, hj13, h⟩ := jox1 h
  have J13 : ∀ (s1_13 : Int32) (H : Heap) (locs : List Loc) (ls : Array Slot), j13 s1_13 = some res → Wo g A s H locs (w_X13 g h0 h1 h2 h3 h4 h5 h6 h7 h8 h9 h10 h11 h12 h13 x_g x_kept x_saved x_before x_was x_region x_parts x_next x_ways x_more x_whole x_isSaved x_changes x_isWithin x_code x_input x_length x_fault x_failed x_signs x_signMany x_at x_told x_toldMany) → lv_has ls 1 [(0, .ref h0)] → G_X13_failedCommand p l e s m args below meth c g A h0 h1 h2 h3 h4 h5 h6 h7 h8 h9 h10 h11 h12 h13 x_g x_kept x_saved x_before x_was x_region x_parts x_next x_ways x_more x_whole x_isSaved x_changes x_isWithin x_input x_length x_fault x_failed x_signs x_signMany x_at x_told x_toldMany res H locs 13 ls [.int s1_13, .ref h0] := by
    intro s1_13 H locs ls h hW hl
    rw [hj13] at h
    obtain ⟨j27, hj27, h⟩ := jox2 h
    have J27 : ∀ (x_code_27 : Int32) (s0_27 : Int32) (H : Heap) (locs : List Loc) (ls : Array Slot), j27 x_code_27 s0_27 = some res → Wo g A s H locs (w_X13 g h0 h1 h2 h3 h4 h5 h6 h7 h8 h9 h10 h11 h12 h13 x_g x_kept x_saved x_before x_was x_region x_parts x_next x_ways x_more x_whole x_isSaved x_changes x_isWithin x_code_27 x_input x_length x_fault x_failed x_signs x_signMany x_at x_told x_toldMany) → lv_has ls 1 [] → G_X13_failedCommand p l e s m args below meth c g A h0 h1 h2 h3 h4 h5 h6 h7 h8 h9 h10 h11 h12 h13 x_g x_kept x_saved x_before x_was x_region x_parts x_next x_ways x_more x_whole x_isSaved x_changes x_isWithin x_input x_length x_fault x_failed x_signs x_signMany x_at x_told x_toldMany res H locs 27 ls [.int s0_27] := by
      intro x_code_27 s0_27 H locs ls h hW hl
      rw [hj27] at h
      obtain rfl := Option.some.inj h
      exact endI E rfl hW dX13_failedCommand_27
    obtain ⟨r13, hc, h⟩ := bx h
    refine goI (world' := (w_X13 g h0 h1 h2 h3 h4 h5 h6 h7 h8 h9 h10 h11 h12 h13 x_g x_kept x_saved x_before x_was x_region x_parts x_next x_ways x_more x_whole x_isSaved x_changes x_isWithin r13.2 x_input x_length x_fault x_failed x_signs x_signMany x_at x_told x_toldMany)) hW hA (is := [0, 1, 2, 3, 4, 5, 6, 7, 8, 9, 10, 11, 12, 13]) rfl (goV (rest := []) E hK hW [0, 1, 2, 3, 4, 5, 6, 7, 8, 9, 10, 11, 12, 13] rfl rfl (c_X13_fails l g h0 h1 h2 h3 h4 h5 h6 h7 h8 h9 h10 h11 h12 h13 x_g x_kept x_saved x_before x_was x_region x_parts x_next x_ways x_more x_whole x_isSaved x_changes x_isWithin x_code x_input x_length x_fault x_failed x_signs x_signMany x_at x_told x_toldMany s1_13 (hf := hc) H.size) (cwV 1 hts gX13_failedCommand_X13_fails rfl rfl rfl (by decide +kernel) ⟨Nat.le_of_ble_eq_true rfl, Nat.le_of_ble_eq_true rfl⟩) 0 rfl rfl rfl hl.1 rfl rfl (Nat.le_of_ble_eq_true rfl) dX13_failedCommand_13 ⟨Nat.zero_le _, Nat.zero_le _⟩) rfl rfl (fun H locs hW => ?_)
    refine lv_if_eq (tgt := 23) E.1 E.2.1 dX13_failedCommand_16 (by decide) (fun c16 => ?_) (fun c16 => ?_)
    · have h := it c16 h
      refine lv_aload_n E.1 E.2.1 dX13_failedCommand_23 rfl (lv_at hl 0 rfl) ?_
      refine wGet (v := .int x_failed) E hK in_X13_failedCommand_X13 hW 18 lk_X13_failedCommand_48 0 rfl rfl (by decide) rfl rfl dX13_failedCommand_24 ?_
      exact J27 r13.2 x_failed H locs ls h hW (lv_sub hl [] rfl)
    · have h := ie c16 h
      refine lv_iconst (v := 0) E.1 E.2.1 dX13_failedCommand_19 (by decide) ?_
      refine lv_goto (tgt := 27) E.1 E.2.1 dX13_failedCommand_20 (by decide) ?_
      exact J27 r13.2 0 H locs ls h hW (lv_sub hl [] rfl)
  refine lv_aload_n E.1 E.2.1 dX13_failedCommand_0 rfl (lv_at hl 0 rfl) ?_
  refine lv_aload_n E.1 E.2.1 dX13_failedCommand_1 rfl (lv_at hl 0 rfl) ?_
  refine wGet (v := .int x_failed) E hK in_X13_failedCommand_X13 hW 18 lk_X13_failedCommand_48 0 rfl rfl (by decide) rfl rfl dX13_failedCommand_2 ?_
  refine lv_if_ge (tgt := 12) E.1 E.2.1 dX13_failedCommand_5 (by decide) (fun c5 => ?_) (fun c5 => ?_)
  · have h := it c5 h
    refine lv_iconst (v := 0) E.1 E.2.1 dX13_failedCommand_12 (by decide) ?_
    exact J13 0 H locs ls h hW (lv_sub hl [0] rfl)
  · have h := ie c5 h
    refine lv_iconst (v := 1) E.1 E.2.1 dX13_failedCommand_8 (by decide) ?_
    refine lv_goto (tgt := 13) E.1 E.2.1 dX13_failedCommand_9 (by decide) ?_
    exact J13 1 H locs ls h hW (lv_sub hl [0] rfl)
theorem c_X13_failedCommand (l : Launch) (g : GE) (h0 h1 h2 h3 h4 h5 h6 h7 h8 h9 h10 h11 h12 h13 : Nat) (x_g : Nat → Int32) (x_kept : Nat → Int32) (x_saved : Nat → Int32) (x_before : Nat → Int32) (x_was : Nat → Int32) (x_region : Nat → Int32) (x_parts : Nat → Int64) (x_next : Nat → Int64) (x_ways : Nat → Int32) (x_more : Nat → Int32) (x_whole : Int64) (x_isSaved : Int32) (x_changes : Int32) (x_isWithin : Int32) (x_code : Int32) (x_input : Nat → Int32) (x_length : Int32) (x_fault : Int32) (x_failed : Int32) (x_signs : Nat → Int32) (x_signMany : Int32) (x_at : Int32) (x_told : Nat → Int32) (x_toldMany : Int32) {res : Int32 × Int32} (hf : f_X13_failedCommand x_code x_failed = some res) : CI l yX13_failedCommand wsX13_failedCommand rm_X13_failedCommand g [.ref h0] (w_X13 g h0 h1 h2 h3 h4 h5 h6 h7 h8 h9 h10 h11 h12 h13 x_g x_kept x_saved x_before x_was x_region x_parts x_next x_ways x_more x_whole x_isSaved x_changes x_isWithin x_code x_input x_length x_fault x_failed x_signs x_signMany x_at x_told x_toldMany) (w_X13 g h0 h1 h2 h3 h4 h5 h6 h7 h8 h9 h10 h11 h12 h13 x_g x_kept x_saved x_before x_was x_region x_parts x_next x_ways x_more x_whole x_isSaved x_changes x_isWithin res.2 x_input x_length x_fault x_failed x_signs x_signMany x_at x_told x_toldMany) res.1 :=
  mkI (cc := cX13_failedCommand) (maxL := 1) (by decide) rfl (Nat.le_of_ble_eq_true rfl) (fun p e s m args below meth c A H locs ls E hK hA hW hl => k_X13_failedCommand_0 E hK hA hf hW hl)

/-! PaperStormModel.undo()I X13_undo -/
abbrev rm_X13_undo : Room := { frames := 1, cells := 0, slots := 0, locals := 24 }
theorem in_X13_undo_X13 : ∀ w ∈ wsX130, w ∈ wsX13_undo := by decide +kernel
theorem lk_X13_undo_13 : Cond.fieldLink RX13 13 "PaperStormModel" "kept" "[I" ∈ wsX13_undo := by decide +kernel
theorem lk_X13_undo_65 : Cond.fieldLink RX13 65 "PaperStormModel" "changes" "I" ∈ wsX13_undo := by decide +kernel
theorem lk_X13_undo_7 : Cond.fieldLink RX13 7 "PaperStormModel" "g" "[I" ∈ wsX13_undo := by decide +kernel
noncomputable def f_X13_undo (x_g : Nat → Int32) (x_kept : Nat → Int32) (x_changes : Int32) (x_code : Int32) : Option (Int32 × (Nat → Int32) × Int32 × Int32) :=
  jo (fun (s1_13 : Int32) => (f_X13_fails x_code s1_13).bind fun r13 => if r13.1 = 0 then (f_X13_copies x_kept x_g 480 60 (60 * (x_changes - 1)) 0).bind fun r47 => some ((x_changes - 1), r47, (x_changes - 1), r13.2) else some (0, x_g, x_changes, r13.2)) (fun j13 => if x_changes = 0 then j13 1 else j13 0)
abbrev G_X13_undo (p : Program) (l : Launch) (e : Env) (s : State) (m : MethodId) (args : Array Value) (below : List Frame) (meth : Method) (c : Code) (g : GE) (A : Nat → Prop) (h0 h1 h2 h3 h4 h5 h6 h7 h8 h9 h10 h11 h12 h13 : Nat) (x_kept : Nat → Int32) (x_saved : Nat → Int32) (x_before : Nat → Int32) (x_was : Nat → Int32) (x_region : Nat → Int32) (x_parts : Nat → Int64) (x_next : Nat → Int64) (x_ways : Nat → Int32) (x_more : Nat → Int32) (x_whole : Int64) (x_isSaved : Int32) (x_isWithin : Int32) (x_input : Nat → Int32) (x_length : Int32) (x_fault : Int32) (x_failed : Int32) (x_signs : Nat → Int32) (x_signMany : Int32) (x_at : Int32) (x_told : Nat → Int32) (x_toldMany : Int32) (res : Int32 × (Nat → Int32) × Int32 × Int32) (H : Heap) (locs : List Loc) (pc : Nat) (ls : Array Slot) (st : List Value) : Prop := W p l e (headSpec wsX13_undo rm_X13_undo).room s m args below meth c H locs 0 0 (MQ below (PoI g A (w_X13 g h0 h1 h2 h3 h4 h5 h6 h7 h8 h9 h10 h11 h12 h13 res.2.1 x_kept x_saved x_before x_was x_region x_parts x_next x_ways x_more x_whole x_isSaved res.2.2.1 x_isWithin res.2.2.2 x_input x_length x_fault x_failed x_signs x_signMany x_at x_told x_toldMany) res.1) args s 0 0 A) (F0 m pc ls st)
set_option maxHeartbeats 4000000 in
set_option maxRecDepth 100000 in
theorem k_X13_undo_0 {p : Program} {l : Launch} {e : Env} {s : State} {m : MethodId} {args : Array Value} {below : List Frame} {meth : Method} {c : Code} {g : GE} {A : Nat → Prop} {h0 h1 h2 h3 h4 h5 h6 h7 h8 h9 h10 h11 h12 h13 : Nat} {x_g : Nat → Int32} {x_kept : Nat → Int32} {x_saved : Nat → Int32} {x_before : Nat → Int32} {x_was : Nat → Int32} {x_region : Nat → Int32} {x_parts : Nat → Int64} {x_next : Nat → Int64} {x_ways : Nat → Int32} {x_more : Nat → Int32} {x_whole : Int64} {x_isSaved : Int32} {x_changes : Int32} {x_isWithin : Int32} {x_code : Int32} {x_input : Nat → Int32} {x_length : Int32} {x_fault : Int32} {x_failed : Int32} {x_signs : Nat → Int32} {x_signMany : Int32} {x_at : Int32} {x_told : Nat → Int32} {x_toldMany : Int32} {res : Int32 × (Nat → Int32) × Int32 × Int32} {H : Heap} {locs : List Loc} {ls : Array Slot} 
    (E : En cX13_undo RX13 wsX13_undo 1 (some .int) p s m args meth c) (hK : KK g s) (hA : ∀ q, s.heap.size ≤ q → A q) (h : f_X13_undo x_g x_kept x_changes x_code = some res) (hW : Wo g A s H locs (w_X13 g h0 h1 h2 h3 h4 h5 h6 h7 h8 h9 h10 h11 h12 h13 x_g x_kept x_saved x_before x_was x_region x_parts x_next x_ways x_more x_whole x_isSaved x_changes x_isWithin x_code x_input x_length x_fault x_failed x_signs x_signMany x_at x_told x_toldMany)) (hl : lv_has ls 1 [(0, .ref h0)]) : G_X13_undo p l e s m args below meth c g A h0 h1 h2 h3 h4 h5 h6 h7 h8 h9 h10 h11 h12 h13 x_kept x_saved x_before x_was x_region x_parts x_next x_ways x_more x_whole x_isSaved x_isWithin x_input x_length x_fault x_failed x_signs x_signMany x_at x_told x_toldMany res H locs 0 ls [] := by
  have hts := E.2.2.2.1
  unfold f_X13_undo at h
  obtain ⟨j13, hj13, h⟩ := jox1 h
  have J13 : ∀ (s1_13 : Int32) (H : Heap) (locs : List Loc) (ls : Array Slot), j13 s1_13 = some res → Wo g A s H locs (w_X13 g h0 h1 h2 h3 h4 h5 h6 h7 h8 h9 h10 h11 h12 h13 x_g x_kept x_saved x_before x_was x_region x_parts x_next x_ways x_more x_whole x_isSaved x_changes x_isWithin x_code x_input x_length x_fault x_failed x_signs x_signMany x_at x_told x_toldMany) → lv_has ls 1 [(0, .ref h0)] → G_X13_undo p l e s m args below meth c g A h0 h1 h2 h3 h4 h5 h6 h7 h8 h9 h10 h11 h12 h13 x_kept x_saved x_before x_was x_region x_parts x_next x_ways x_more x_whole x_isSaved x_isWithin x_input x_length x_fault x_failed x_signs x_signMany x_at x_told x_toldMany res H locs 13 ls [.int s1_13, .ref h0] := by
    intro s1_13 H locs ls h hW hl
    rw [hj13] at h
    obtain ⟨r13, hc, h⟩ := bx h
    refine goI (world' := (w_X13 g h0 h1 h2 h3 h4 h5 h6 h7 h8 h9 h10 h11 h12 h13 x_g x_kept x_saved x_before x_was x_region x_parts x_next x_ways x_more x_whole x_isSaved x_changes x_isWithin r13.2 x_input x_length x_fault x_failed x_signs x_signMany x_at x_told x_toldMany)) hW hA (is := [0, 1, 2, 3, 4, 5, 6, 7, 8, 9, 10, 11, 12, 13]) rfl (goV (rest := []) E hK hW [0, 1, 2, 3, 4, 5, 6, 7, 8, 9, 10, 11, 12, 13] rfl rfl (c_X13_fails l g h0 h1 h2 h3 h4 h5 h6 h7 h8 h9 h10 h11 h12 h13 x_g x_kept x_saved x_before x_was x_region x_parts x_next x_ways x_more x_whole x_isSaved x_changes x_isWithin x_code x_input x_length x_fault x_failed x_signs x_signMany x_at x_told x_toldMany s1_13 (hf := hc) H.size) (cwV 1 hts gX13_undo_X13_fails rfl rfl rfl (by decide +kernel) ⟨Nat.le_of_ble_eq_true rfl, Nat.le_of_ble_eq_true rfl⟩) 0 rfl rfl rfl hl.1 rfl rfl (Nat.le_of_ble_eq_true rfl) dX13_undo_13 ⟨Nat.zero_le _, Nat.zero_le _⟩) rfl rfl (fun H locs hW => ?_)
    refine lv_if_eq (tgt := 21) E.1 E.2.1 dX13_undo_16 (by decide) (fun c16 => ?_) (fun c16 => ?_)
    · have h := it c16 h
      refine lv_aload_n E.1 E.2.1 dX13_undo_21 rfl (lv_at hl 0 rfl) ?_
      refine lv_dup E.1 E.2.1 dX13_undo_22 rfl ?_
      refine wGet (v := .int x_changes) E hK in_X13_undo_X13 hW 12 lk_X13_undo_65 0 rfl rfl (by decide) rfl rfl dX13_undo_23 ?_
      refine lv_iconst (v := 1) E.1 E.2.1 dX13_undo_26 (by decide) ?_
      refine lv_isub E.1 E.2.1 dX13_undo_27 ?_
      refine wPut (world' := (w_X13 g h0 h1 h2 h3 h4 h5 h6 h7 h8 h9 h10 h11 h12 h13 x_g x_kept x_saved x_before x_was x_region x_parts x_next x_ways x_more x_whole x_isSaved (x_changes - 1) x_isWithin r13.2 x_input x_length x_fault x_failed x_signs x_signMany x_at x_told x_toldMany)) E hK in_X13_undo_X13 tyX13 tyX13_ok nmX13 hW 12 lk_X13_undo_65 0 rfl rfl (by decide) rfl rfl rfl rfl rfl (Nat.le_of_ble_eq_true rfl) dX13_undo_28 rfl (fun H locs hW => ?_)
      refine lv_aload_n E.1 E.2.1 dX13_undo_31 rfl (lv_at hl 0 rfl) ?_
      refine wGet (v := .ref h2) E hK in_X13_undo_X13 hW 1 lk_X13_undo_13 0 rfl rfl (by decide) rfl rfl dX13_undo_32 ?_
      refine lv_bipush (v := 60) E.1 E.2.1 dX13_undo_35 (by decide) ?_
      refine lv_aload_n E.1 E.2.1 dX13_undo_37 rfl (lv_at hl 0 rfl) ?_
      refine wGet (v := .int (x_changes - 1)) E hK in_X13_undo_X13 hW 12 lk_X13_undo_65 0 rfl rfl (by decide) rfl rfl dX13_undo_38 ?_
      refine lv_imul E.1 E.2.1 dX13_undo_41 ?_
      refine lv_aload_n E.1 E.2.1 dX13_undo_42 rfl (lv_at hl 0 rfl) ?_
      refine wGet (v := .ref h1) E hK in_X13_undo_X13 hW 0 lk_X13_undo_7 0 rfl rfl (by decide) rfl rfl dX13_undo_43 ?_
      refine lv_iconst (v := 0) E.1 E.2.1 dX13_undo_46 (by decide) ?_
      obtain ⟨r47, hc, h⟩ := bx h
      refine goU (world' := (w_X13 g h0 h1 h2 h3 h4 h5 h6 h7 h8 h9 h10 h11 h12 h13 r47 x_kept x_saved x_before x_was x_region x_parts x_next x_ways x_more x_whole x_isSaved (x_changes - 1) x_isWithin r13.2 x_input x_length x_fault x_failed x_signs x_signMany x_at x_told x_toldMany)) hW hA (is := [2, 1]) rfl (goS (rest := []) E hK hW [2, 1] rfl rfl (c_X13_copies l g h2 h1 480 60 x_kept x_g (60 * (x_changes - 1)) 0 (hf := hc) H.size) (va_cwS 4 hts gX13_undo_X13_copies rfl rfl rfl (by decide +kernel) ⟨Nat.le_of_ble_eq_true rfl, Nat.le_of_ble_eq_true rfl⟩) hl.1 rfl rfl (Nat.le_of_ble_eq_true rfl) dX13_undo_47 ⟨Nat.zero_le _, Nat.zero_le _⟩) rfl rfl (fun H locs hW => ?_)
      refine lv_aload_n E.1 E.2.1 dX13_undo_50 rfl (lv_at hl 0 rfl) ?_
      refine wGet (v := .int (x_changes - 1)) E hK in_X13_undo_X13 hW 12 lk_X13_undo_65 0 rfl rfl (by decide) rfl rfl dX13_undo_51 ?_
      obtain rfl := Option.some.inj h
      exact endI E rfl hW dX13_undo_54
    · have h := ie c16 h
      refine lv_iconst (v := 0) E.1 E.2.1 dX13_undo_19 (by decide) ?_
      obtain rfl := Option.some.inj h
      exact endI E rfl hW dX13_undo_20
  refine lv_aload_n E.1 E.2.1 dX13_undo_0 rfl (lv_at hl 0 rfl) ?_
  refine lv_aload_n E.1 E.2.1 dX13_undo_1 rfl (lv_at hl 0 rfl) ?_
  refine wGet (v := .int x_changes) E hK in_X13_undo_X13 hW 12 lk_X13_undo_65 0 rfl rfl (by decide) rfl rfl dX13_undo_2 ?_
  refine lv_if_ne (tgt := 12) E.1 E.2.1 dX13_undo_5 (by decide) (fun c5 => ?_) (fun c5 => ?_)
  · have h := ie c5 h
    refine lv_iconst (v := 0) E.1 E.2.1 dX13_undo_12 (by decide) ?_
    exact J13 0 H locs ls h hW (lv_sub hl [0] rfl)
  · have h := it c5 h
    refine lv_iconst (v := 1) E.1 E.2.1 dX13_undo_8 (by decide) ?_
    refine lv_goto (tgt := 13) E.1 E.2.1 dX13_undo_9 (by decide) ?_
    exact J13 1 H locs ls h hW (lv_sub hl [0] rfl)
theorem c_X13_undo (l : Launch) (g : GE) (h0 h1 h2 h3 h4 h5 h6 h7 h8 h9 h10 h11 h12 h13 : Nat) (x_g : Nat → Int32) (x_kept : Nat → Int32) (x_saved : Nat → Int32) (x_before : Nat → Int32) (x_was : Nat → Int32) (x_region : Nat → Int32) (x_parts : Nat → Int64) (x_next : Nat → Int64) (x_ways : Nat → Int32) (x_more : Nat → Int32) (x_whole : Int64) (x_isSaved : Int32) (x_changes : Int32) (x_isWithin : Int32) (x_code : Int32) (x_input : Nat → Int32) (x_length : Int32) (x_fault : Int32) (x_failed : Int32) (x_signs : Nat → Int32) (x_signMany : Int32) (x_at : Int32) (x_told : Nat → Int32) (x_toldMany : Int32) {res : Int32 × (Nat → Int32) × Int32 × Int32} (hf : f_X13_undo x_g x_kept x_changes x_code = some res) : CI l yX13_undo wsX13_undo rm_X13_undo g [.ref h0] (w_X13 g h0 h1 h2 h3 h4 h5 h6 h7 h8 h9 h10 h11 h12 h13 x_g x_kept x_saved x_before x_was x_region x_parts x_next x_ways x_more x_whole x_isSaved x_changes x_isWithin x_code x_input x_length x_fault x_failed x_signs x_signMany x_at x_told x_toldMany) (w_X13 g h0 h1 h2 h3 h4 h5 h6 h7 h8 h9 h10 h11 h12 h13 res.2.1 x_kept x_saved x_before x_was x_region x_parts x_next x_ways x_more x_whole x_isSaved res.2.2.1 x_isWithin res.2.2.2 x_input x_length x_fault x_failed x_signs x_signMany x_at x_told x_toldMany) res.1 :=
  mkI (cc := cX13_undo) (maxL := 1) (by decide) rfl (Nat.le_of_ble_eq_true rfl) (fun p e s m args below meth c A H locs ls E hK hA hW hl => k_X13_undo_0 E hK hA hf hW hl)

/-! PaperStormModel.save()I X13_save -/
abbrev rm_X13_save : Room := { frames := 1, cells := 0, slots := 0, locals := 24 }
theorem in_X13_save_X13 : ∀ w ∈ wsX130, w ∈ wsX13_save := by decide +kernel
theorem lk_X13_save_16 : Cond.fieldLink RX13 16 "PaperStormModel" "saved" "[I" ∈ wsX13_save := by decide +kernel
theorem lk_X13_save_286 : Cond.fieldLink RX13 286 "PaperStormModel" "isSaved" "Z" ∈ wsX13_save := by decide +kernel
theorem lk_X13_save_58 : Cond.fieldLink RX13 58 "PaperStormModel" "code" "I" ∈ wsX13_save := by decide +kernel
theorem lk_X13_save_7 : Cond.fieldLink RX13 7 "PaperStormModel" "g" "[I" ∈ wsX13_save := by decide +kernel
noncomputable def f_X13_save (x_g : Nat → Int32) (x_saved : Nat → Int32) (x_isSaved : Int32) (x_code : Int32) : Option (Int32 × (Nat → Int32) × Int32 × Int32) :=
  (f_X13_copies x_g x_saved 60 60 0 0).bind fun r20 => some ((x_g (0 : Int32).toNatClampNeg), r20, 1, 0)
abbrev G_X13_save (p : Program) (l : Launch) (e : Env) (s : State) (m : MethodId) (args : Array Value) (below : List Frame) (meth : Method) (c : Code) (g : GE) (A : Nat → Prop) (h0 h1 h2 h3 h4 h5 h6 h7 h8 h9 h10 h11 h12 h13 : Nat) (x_g : Nat → Int32) (x_kept : Nat → Int32) (x_before : Nat → Int32) (x_was : Nat → Int32) (x_region : Nat → Int32) (x_parts : Nat → Int64) (x_next : Nat → Int64) (x_ways : Nat → Int32) (x_more : Nat → Int32) (x_whole : Int64) (x_changes : Int32) (x_isWithin : Int32) (x_input : Nat → Int32) (x_length : Int32) (x_fault : Int32) (x_failed : Int32) (x_signs : Nat → Int32) (x_signMany : Int32) (x_at : Int32) (x_told : Nat → Int32) (x_toldMany : Int32) (res : Int32 × (Nat → Int32) × Int32 × Int32) (H : Heap) (locs : List Loc) (pc : Nat) (ls : Array Slot) (st : List Value) : Prop := W p l e (headSpec wsX13_save rm_X13_save).room s m args below meth c H locs 0 0 (MQ below (PoI g A (w_X13 g h0 h1 h2 h3 h4 h5 h6 h7 h8 h9 h10 h11 h12 h13 x_g x_kept res.2.1 x_before x_was x_region x_parts x_next x_ways x_more x_whole res.2.2.1 x_changes x_isWithin res.2.2.2 x_input x_length x_fault x_failed x_signs x_signMany x_at x_told x_toldMany) res.1) args s 0 0 A) (F0 m pc ls st)
set_option maxHeartbeats 4000000 in
set_option maxRecDepth 100000 in
theorem k_X13_save_0 {p : Program} {l : Launch} {e : Env} {s : State} {m : MethodId} {args : Array Value} {below : List Frame} {meth : Method} {c : Code} {g : GE} {A : Nat → Prop} {h0 h1 h2 h3 h4 h5 h6 h7 h8 h9 h10 h11 h12 h13 : Nat} {x_g : Nat → Int32} {x_kept : Nat → Int32} {x_saved : Nat → Int32} {x_before : Nat → Int32} {x_was : Nat → Int32} {x_region : Nat → Int32} {x_parts : Nat → Int64} {x_next : Nat → Int64} {x_ways : Nat → Int32} {x_more : Nat → Int32} {x_whole : Int64} {x_isSaved : Int32} {x_changes : Int32} {x_isWithin : Int32} {x_code : Int32} {x_input : Nat → Int32} {x_length : Int32} {x_fault : Int32} {x_failed : Int32} {x_signs : Nat → Int32} {x_signMany : Int32} {x_at : Int32} {x_told : Nat → Int32} {x_toldMany : Int32} {res : Int32 × (Nat → Int32) × Int32 × Int32} {H : Heap} {locs : List Loc} {ls : Array Slot} 
    (E : En cX13_save RX13 wsX13_save 1 (some .int) p s m args meth c) (hK : KK g s) (hA : ∀ q, s.heap.size ≤ q → A q) (h : f_X13_save x_g x_saved x_isSaved x_code = some res) (hW : Wo g A s H locs (w_X13 g h0 h1 h2 h3 h4 h5 h6 h7 h8 h9 h10 h11 h12 h13 x_g x_kept x_saved x_before x_was x_region x_parts x_next x_ways x_more x_whole x_isSaved x_changes x_isWithin x_code x_input x_length x_fault x_failed x_signs x_signMany x_at x_told x_toldMany)) (hl : lv_has ls 1 [(0, .ref h0)]) : G_X13_save p l e s m args below meth c g A h0 h1 h2 h3 h4 h5 h6 h7 h8 h9 h10 h11 h12 h13 x_g x_kept x_before x_was x_region x_parts x_next x_ways x_more x_whole x_changes x_isWithin x_input x_length x_fault x_failed x_signs x_signMany x_at x_told x_toldMany res H locs 0 ls [] := by
  have hts := E.2.2.2.1
  unfold f_X13_save at h
  refine lv_aload_n E.1 E.2.1 dX13_save_0 rfl (lv_at hl 0 rfl) ?_
  refine lv_iconst (v := 0) E.1 E.2.1 dX13_save_1 (by decide) ?_
  refine wPut (world' := (w_X13 g h0 h1 h2 h3 h4 h5 h6 h7 h8 h9 h10 h11 h12 h13 x_g x_kept x_saved x_before x_was x_region x_parts x_next x_ways x_more x_whole x_isSaved x_changes x_isWithin 0 x_input x_length x_fault x_failed x_signs x_signMany x_at x_told x_toldMany)) E hK in_X13_save_X13 tyX13 tyX13_ok nmX13 hW 14 lk_X13_save_58 0 rfl rfl (by decide) rfl rfl rfl rfl rfl (Nat.le_of_ble_eq_true rfl) dX13_save_2 rfl (fun H locs hW => ?_)
  refine lv_aload_n E.1 E.2.1 dX13_save_5 rfl (lv_at hl 0 rfl) ?_
  refine lv_iconst (v := 1) E.1 E.2.1 dX13_save_6 (by decide) ?_
  refine wPut (world' := (w_X13 g h0 h1 h2 h3 h4 h5 h6 h7 h8 h9 h10 h11 h12 h13 x_g x_kept x_saved x_before x_was x_region x_parts x_next x_ways x_more x_whole 1 x_changes x_isWithin 0 x_input x_length x_fault x_failed x_signs x_signMany x_at x_told x_toldMany)) E hK in_X13_save_X13 tyX13 tyX13_ok nmX13 hW 11 lk_X13_save_286 0 rfl rfl (by decide) rfl rfl rfl (by decide) (by decide) (Nat.le_of_ble_eq_true rfl) dX13_save_7 rfl (fun H locs hW => ?_)
  refine lv_aload_n E.1 E.2.1 dX13_save_10 rfl (lv_at hl 0 rfl) ?_
  refine wGet (v := .ref h1) E hK in_X13_save_X13 hW 0 lk_X13_save_7 0 rfl rfl (by decide) rfl rfl dX13_save_11 ?_
  refine lv_iconst (v := 0) E.1 E.2.1 dX13_save_14 (by decide) ?_
  refine lv_aload_n E.1 E.2.1 dX13_save_15 rfl (lv_at hl 0 rfl) ?_
  refine wGet (v := .ref h3) E hK in_X13_save_X13 hW 2 lk_X13_save_16 0 rfl rfl (by decide) rfl rfl dX13_save_16 ?_
  refine lv_iconst (v := 0) E.1 E.2.1 dX13_save_19 (by decide) ?_
  obtain ⟨r20, hc, h⟩ := bx h
  refine goU (world' := (w_X13 g h0 h1 h2 h3 h4 h5 h6 h7 h8 h9 h10 h11 h12 h13 x_g x_kept r20 x_before x_was x_region x_parts x_next x_ways x_more x_whole 1 x_changes x_isWithin 0 x_input x_length x_fault x_failed x_signs x_signMany x_at x_told x_toldMany)) hW hA (is := [1, 3]) rfl (goS (rest := []) E hK hW [1, 3] rfl rfl (c_X13_copies l g h1 h3 60 60 x_g x_saved 0 0 (hf := hc) H.size) (va_cwS 4 hts gX13_save_X13_copies rfl rfl rfl (by decide +kernel) ⟨Nat.le_of_ble_eq_true rfl, Nat.le_of_ble_eq_true rfl⟩) hl.1 rfl rfl (Nat.le_of_ble_eq_true rfl) dX13_save_20 ⟨Nat.zero_le _, Nat.zero_le _⟩) rfl rfl (fun H locs hW => ?_)
  refine lv_aload_n E.1 E.2.1 dX13_save_23 rfl (lv_at hl 0 rfl) ?_
  refine wGet (v := .ref h1) E hK in_X13_save_X13 hW 0 lk_X13_save_7 0 rfl rfl (by decide) rfl rfl dX13_save_24 ?_
  refine lv_iconst (v := 0) E.1 E.2.1 dX13_save_27 (by decide) ?_
  refine wIald E hK hW 1 rfl (by decide) dX13_save_28 ?_
  obtain rfl := Option.some.inj h
  exact endI E rfl hW dX13_save_29
theorem c_X13_save (l : Launch) (g : GE) (h0 h1 h2 h3 h4 h5 h6 h7 h8 h9 h10 h11 h12 h13 : Nat) (x_g : Nat → Int32) (x_kept : Nat → Int32) (x_saved : Nat → Int32) (x_before : Nat → Int32) (x_was : Nat → Int32) (x_region : Nat → Int32) (x_parts : Nat → Int64) (x_next : Nat → Int64) (x_ways : Nat → Int32) (x_more : Nat → Int32) (x_whole : Int64) (x_isSaved : Int32) (x_changes : Int32) (x_isWithin : Int32) (x_code : Int32) (x_input : Nat → Int32) (x_length : Int32) (x_fault : Int32) (x_failed : Int32) (x_signs : Nat → Int32) (x_signMany : Int32) (x_at : Int32) (x_told : Nat → Int32) (x_toldMany : Int32) {res : Int32 × (Nat → Int32) × Int32 × Int32} (hf : f_X13_save x_g x_saved x_isSaved x_code = some res) : CI l yX13_save wsX13_save rm_X13_save g [.ref h0] (w_X13 g h0 h1 h2 h3 h4 h5 h6 h7 h8 h9 h10 h11 h12 h13 x_g x_kept x_saved x_before x_was x_region x_parts x_next x_ways x_more x_whole x_isSaved x_changes x_isWithin x_code x_input x_length x_fault x_failed x_signs x_signMany x_at x_told x_toldMany) (w_X13 g h0 h1 h2 h3 h4 h5 h6 h7 h8 h9 h10 h11 h12 h13 x_g x_kept res.2.1 x_before x_was x_region x_parts x_next x_ways x_more x_whole res.2.2.1 x_changes x_isWithin res.2.2.2 x_input x_length x_fault x_failed x_signs x_signMany x_at x_told x_toldMany) res.1 :=
  mkI (cc := cX13_save) (maxL := 1) (by decide) rfl (Nat.le_of_ble_eq_true rfl) (fun p e s m args below meth c A H locs ls E hK hA hW hl => k_X13_save_0 E hK hA hf hW hl)

/-! PaperStormModel.restore()I X13_restore -/
abbrev rm_X13_restore : Room := { frames := 1, cells := 0, slots := 0, locals := 24 }
theorem in_X13_restore_X13 : ∀ w ∈ wsX130, w ∈ wsX13_restore := by decide +kernel
theorem lk_X13_restore_16 : Cond.fieldLink RX13 16 "PaperStormModel" "saved" "[I" ∈ wsX13_restore := by decide +kernel
theorem lk_X13_restore_286 : Cond.fieldLink RX13 286 "PaperStormModel" "isSaved" "Z" ∈ wsX13_restore := by decide +kernel
theorem lk_X13_restore_65 : Cond.fieldLink RX13 65 "PaperStormModel" "changes" "I" ∈ wsX13_restore := by decide +kernel
theorem lk_X13_restore_7 : Cond.fieldLink RX13 7 "PaperStormModel" "g" "[I" ∈ wsX13_restore := by decide +kernel
noncomputable def f_X13_restore (x_g : Nat → Int32) (x_saved : Nat → Int32) (x_isSaved : Int32) (x_changes : Int32) (x_code : Int32) : Option (Int32 × (Nat → Int32) × Int32 × Int32) :=
  jo (fun (s1_13 : Int32) => (f_X13_fails x_code s1_13).bind fun r13 => if r13.1 = 0 then (f_X13_copies x_saved x_g 60 60 0 0).bind fun r31 => some ((r31 (0 : Int32).toNatClampNeg), r31, 0, r13.2) else some (0, x_g, x_changes, r13.2)) (fun j13 => if x_isSaved = 0 then j13 1 else j13 0)
abbrev G_X13_restore (p : Program) (l : Launch) (e : Env) (s : State) (m : MethodId) (args : Array Value) (below : List Frame) (meth : Method) (c : Code) (g : GE) (A : Nat → Prop) (h0 h1 h2 h3 h4 h5 h6 h7 h8 h9 h10 h11 h12 h13 : Nat) (x_kept : Nat → Int32) (x_saved : Nat → Int32) (x_before : Nat → Int32) (x_was : Nat → Int32) (x_region : Nat → Int32) (x_parts : Nat → Int64) (x_next : Nat → Int64) (x_ways : Nat → Int32) (x_more : Nat → Int32) (x_whole : Int64) (x_isSaved : Int32) (x_isWithin : Int32) (x_input : Nat → Int32) (x_length : Int32) (x_fault : Int32) (x_failed : Int32) (x_signs : Nat → Int32) (x_signMany : Int32) (x_at : Int32) (x_told : Nat → Int32) (x_toldMany : Int32) (res : Int32 × (Nat → Int32) × Int32 × Int32) (H : Heap) (locs : List Loc) (pc : Nat) (ls : Array Slot) (st : List Value) : Prop := W p l e (headSpec wsX13_restore rm_X13_restore).room s m args below meth c H locs 0 0 (MQ below (PoI g A (w_X13 g h0 h1 h2 h3 h4 h5 h6 h7 h8 h9 h10 h11 h12 h13 res.2.1 x_kept x_saved x_before x_was x_region x_parts x_next x_ways x_more x_whole x_isSaved res.2.2.1 x_isWithin res.2.2.2 x_input x_length x_fault x_failed x_signs x_signMany x_at x_told x_toldMany) res.1) args s 0 0 A) (F0 m pc ls st)
set_option maxHeartbeats 4000000 in
set_option maxRecDepth 100000 in
theorem k_X13_restore_0 {p : Program} {l : Launch} {e : Env} {s : State} {m : MethodId} {args : Array Value} {below : List Frame} {meth : Method} {c : Code} {g : GE} {A : Nat → Prop} {h0 h1 h2 h3 h4 h5 h6 h7 h8 h9 h10 h11 h12 h13 : Nat} {x_g : Nat → Int32} {x_kept : Nat → Int32} {x_saved : Nat → Int32} {x_before : Nat → Int32} {x_was : Nat → Int32} {x_region : Nat → Int32} {x_parts : Nat → Int64} {x_next : Nat → Int64} {x_ways : Nat → Int32} {x_more : Nat → Int32} {x_whole : Int64} {x_isSaved : Int32} {x_changes : Int32} {x_isWithin : Int32} {x_code : Int32} {x_input : Nat → Int32} {x_length : Int32} {x_fault : Int32} {x_failed : Int32} {x_signs : Nat → Int32} {x_signMany : Int32} {x_at : Int32} {x_told : Nat → Int32} {x_toldMany : Int32} {res : Int32 × (Nat → Int32) × Int32 × Int32} {H : Heap} {locs : List Loc} {ls : Array Slot} 
    (E : En cX13_restore RX13 wsX13_restore 1 (some .int) p s m args meth c) (hK : KK g s) (hA : ∀ q, s.heap.size ≤ q → A q) (h : f_X13_restore x_g x_saved x_isSaved x_changes x_code = some res) (hW : Wo g A s H locs (w_X13 g h0 h1 h2 h3 h4 h5 h6 h7 h8 h9 h10 h11 h12 h13 x_g x_kept x_saved x_before x_was x_region x_parts x_next x_ways x_more x_whole x_isSaved x_changes x_isWithin x_code x_input x_length x_fault x_failed x_signs x_signMany x_at x_told x_toldMany)) (hl : lv_has ls 1 [(0, .ref h0)]) : G_X13_restore p l e s m args below meth c g A h0 h1 h2 h3 h4 h5 h6 h7 h8 h9 h10 h11 h12 h13 x_kept x_saved x_before x_was x_region x_parts x_next x_ways x_more x_whole x_isSaved x_isWithin x_input x_length x_fault x_failed x_signs x_signMany x_at x_told x_toldMany res H locs 0 ls [] := by
  have hts := E.2.2.2.1
  unfold f_X13_restore at h
  obtain ⟨j13, hj13, h⟩ := jox1 h
  have J13 : ∀ (s1_13 : Int32) (H : Heap) (locs : List Loc) (ls : Array Slot), j13 s1_13 = some res → Wo g A s H locs (w_X13 g h0 h1 h2 h3 h4 h5 h6 h7 h8 h9 h10 h11 h12 h13 x_g x_kept x_saved x_before x_was x_region x_parts x_next x_ways x_more x_whole x_isSaved x_changes x_isWithin x_code x_input x_length x_fault x_failed x_signs x_signMany x_at x_told x_toldMany) → lv_has ls 1 [(0, .ref h0)] → G_X13_restore p l e s m args below meth c g A h0 h1 h2 h3 h4 h5 h6 h7 h8 h9 h10 h11 h12 h13 x_kept x_saved x_before x_was x_region x_parts x_next x_ways x_more x_whole x_isSaved x_isWithin x_input x_length x_fault x_failed x_signs x_signMany x_at x_told x_toldMany res H locs 13 ls [.int s1_13, .ref h0] := by
    intro s1_13 H locs ls h hW hl
    rw [hj13] at h
    obtain ⟨r13, hc, h⟩ := bx h
    refine goI (world' := (w_X13 g h0 h1 h2 h3 h4 h5 h6 h7 h8 h9 h10 h11 h12 h13 x_g x_kept x_saved x_before x_was x_region x_parts x_next x_ways x_more x_whole x_isSaved x_changes x_isWithin r13.2 x_input x_length x_fault x_failed x_signs x_signMany x_at x_told x_toldMany)) hW hA (is := [0, 1, 2, 3, 4, 5, 6, 7, 8, 9, 10, 11, 12, 13]) rfl (goV (rest := []) E hK hW [0, 1, 2, 3, 4, 5, 6, 7, 8, 9, 10, 11, 12, 13] rfl rfl (c_X13_fails l g h0 h1 h2 h3 h4 h5 h6 h7 h8 h9 h10 h11 h12 h13 x_g x_kept x_saved x_before x_was x_region x_parts x_next x_ways x_more x_whole x_isSaved x_changes x_isWithin x_code x_input x_length x_fault x_failed x_signs x_signMany x_at x_told x_toldMany s1_13 (hf := hc) H.size) (cwV 1 hts gX13_restore_X13_fails rfl rfl rfl (by decide +kernel) ⟨Nat.le_of_ble_eq_true rfl, Nat.le_of_ble_eq_true rfl⟩) 0 rfl rfl rfl hl.1 rfl rfl (Nat.le_of_ble_eq_true rfl) dX13_restore_13 ⟨Nat.zero_le _, Nat.zero_le _⟩) rfl rfl (fun H locs hW => ?_)
    refine lv_if_eq (tgt := 21) E.1 E.2.1 dX13_restore_16 (by decide) (fun c16 => ?_) (fun c16 => ?_)
    · have h := it c16 h
      refine lv_aload_n E.1 E.2.1 dX13_restore_21 rfl (lv_at hl 0 rfl) ?_
      refine wGet (v := .ref h3) E hK in_X13_restore_X13 hW 2 lk_X13_restore_16 0 rfl rfl (by decide) rfl rfl dX13_restore_22 ?_
      refine lv_iconst (v := 0) E.1 E.2.1 dX13_restore_25 (by decide) ?_
      refine lv_aload_n E.1 E.2.1 dX13_restore_26 rfl (lv_at hl 0 rfl) ?_
      refine wGet (v := .ref h1) E hK in_X13_restore_X13 hW 0 lk_X13_restore_7 0 rfl rfl (by decide) rfl rfl dX13_restore_27 ?_
      refine lv_iconst (v := 0) E.1 E.2.1 dX13_restore_30 (by decide) ?_
      obtain ⟨r31, hc, h⟩ := bx h
      refine goU (world' := (w_X13 g h0 h1 h2 h3 h4 h5 h6 h7 h8 h9 h10 h11 h12 h13 r31 x_kept x_saved x_before x_was x_region x_parts x_next x_ways x_more x_whole x_isSaved x_changes x_isWithin r13.2 x_input x_length x_fault x_failed x_signs x_signMany x_at x_told x_toldMany)) hW hA (is := [3, 1]) rfl (goS (rest := []) E hK hW [3, 1] rfl rfl (c_X13_copies l g h3 h1 60 60 x_saved x_g 0 0 (hf := hc) H.size) (va_cwS 4 hts gX13_restore_X13_copies rfl rfl rfl (by decide +kernel) ⟨Nat.le_of_ble_eq_true rfl, Nat.le_of_ble_eq_true rfl⟩) hl.1 rfl rfl (Nat.le_of_ble_eq_true rfl) dX13_restore_31 ⟨Nat.zero_le _, Nat.zero_le _⟩) rfl rfl (fun H locs hW => ?_)
      refine lv_aload_n E.1 E.2.1 dX13_restore_34 rfl (lv_at hl 0 rfl) ?_
      refine lv_iconst (v := 0) E.1 E.2.1 dX13_restore_35 (by decide) ?_
      refine wPut (world' := (w_X13 g h0 h1 h2 h3 h4 h5 h6 h7 h8 h9 h10 h11 h12 h13 r31 x_kept x_saved x_before x_was x_region x_parts x_next x_ways x_more x_whole x_isSaved 0 x_isWithin r13.2 x_input x_length x_fault x_failed x_signs x_signMany x_at x_told x_toldMany)) E hK in_X13_restore_X13 tyX13 tyX13_ok nmX13 hW 12 lk_X13_restore_65 0 rfl rfl (by decide) rfl rfl rfl rfl rfl (Nat.le_of_ble_eq_true rfl) dX13_restore_36 rfl (fun H locs hW => ?_)
      refine lv_aload_n E.1 E.2.1 dX13_restore_39 rfl (lv_at hl 0 rfl) ?_
      refine wGet (v := .ref h1) E hK in_X13_restore_X13 hW 0 lk_X13_restore_7 0 rfl rfl (by decide) rfl rfl dX13_restore_40 ?_
      refine lv_iconst (v := 0) E.1 E.2.1 dX13_restore_43 (by decide) ?_
      refine wIald E hK hW 1 rfl (by decide) dX13_restore_44 ?_
      obtain rfl := Option.some.inj h
      exact endI E rfl hW dX13_restore_45
    · have h := ie c16 h
      refine lv_iconst (v := 0) E.1 E.2.1 dX13_restore_19 (by decide) ?_
      obtain rfl := Option.some.inj h
      exact endI E rfl hW dX13_restore_20
  refine lv_aload_n E.1 E.2.1 dX13_restore_0 rfl (lv_at hl 0 rfl) ?_
  refine lv_aload_n E.1 E.2.1 dX13_restore_1 rfl (lv_at hl 0 rfl) ?_
  refine wGet (v := .int x_isSaved) E hK in_X13_restore_X13 hW 11 lk_X13_restore_286 0 rfl rfl (by decide) rfl rfl dX13_restore_2 ?_
  refine lv_if_eq (tgt := 12) E.1 E.2.1 dX13_restore_5 (by decide) (fun c5 => ?_) (fun c5 => ?_)
  · have h := it c5 h
    refine lv_iconst (v := 1) E.1 E.2.1 dX13_restore_12 (by decide) ?_
    exact J13 1 H locs ls h hW (lv_sub hl [0] rfl)
  · have h := ie c5 h
    refine lv_iconst (v := 0) E.1 E.2.1 dX13_restore_8 (by decide) ?_
    refine lv_goto (tgt := 13) E.1 E.2.1 dX13_restore_9 (by decide) ?_
    exact J13 0 H locs ls h hW (lv_sub hl [0] rfl)
theorem c_X13_restore (l : Launch) (g : GE) (h0 h1 h2 h3 h4 h5 h6 h7 h8 h9 h10 h11 h12 h13 : Nat) (x_g : Nat → Int32) (x_kept : Nat → Int32) (x_saved : Nat → Int32) (x_before : Nat → Int32) (x_was : Nat → Int32) (x_region : Nat → Int32) (x_parts : Nat → Int64) (x_next : Nat → Int64) (x_ways : Nat → Int32) (x_more : Nat → Int32) (x_whole : Int64) (x_isSaved : Int32) (x_changes : Int32) (x_isWithin : Int32) (x_code : Int32) (x_input : Nat → Int32) (x_length : Int32) (x_fault : Int32) (x_failed : Int32) (x_signs : Nat → Int32) (x_signMany : Int32) (x_at : Int32) (x_told : Nat → Int32) (x_toldMany : Int32) {res : Int32 × (Nat → Int32) × Int32 × Int32} (hf : f_X13_restore x_g x_saved x_isSaved x_changes x_code = some res) : CI l yX13_restore wsX13_restore rm_X13_restore g [.ref h0] (w_X13 g h0 h1 h2 h3 h4 h5 h6 h7 h8 h9 h10 h11 h12 h13 x_g x_kept x_saved x_before x_was x_region x_parts x_next x_ways x_more x_whole x_isSaved x_changes x_isWithin x_code x_input x_length x_fault x_failed x_signs x_signMany x_at x_told x_toldMany) (w_X13 g h0 h1 h2 h3 h4 h5 h6 h7 h8 h9 h10 h11 h12 h13 res.2.1 x_kept x_saved x_before x_was x_region x_parts x_next x_ways x_more x_whole x_isSaved res.2.2.1 x_isWithin res.2.2.2 x_input x_length x_fault x_failed x_signs x_signMany x_at x_told x_toldMany) res.1 :=
  mkI (cc := cX13_restore) (maxL := 1) (by decide) rfl (Nat.le_of_ble_eq_true rfl) (fun p e s m args below meth c A H locs ls E hK hA hW hl => k_X13_restore_0 E hK hA hf hW hl)

