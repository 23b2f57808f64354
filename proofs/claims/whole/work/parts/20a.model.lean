/-! PaperStormModel.thrown()I X13_thrown -/
abbrev rm_X13_thrown : Room := { frames := 0, cells := 0, slots := 0, locals := 0 }
theorem in_X13_thrown_X13 : ∀ w ∈ wsX130, w ∈ wsX13_thrown := by decide +kernel
theorem lk_X13_thrown_58 : Cond.fieldLink RX13 58 "PaperStormModel" "code" "I" ∈ wsX13_thrown := by decide +kernel
noncomputable def f_X13_thrown (x_code : Int32) : Option (Int32) :=
  some (x_code)
abbrev G_X13_thrown (p : Program) (l : Launch) (e : Env) (s : State) (m : MethodId) (args : Array Value) (below : List Frame) (meth : Method) (c : Code) (g : GE) (A : Nat → Prop) (h0 h1 h2 h3 h4 h5 h6 h7 h8 h9 h10 h11 h12 h13 : Nat) (x_g : Nat → Int32) (x_kept : Nat → Int32) (x_saved : Nat → Int32) (x_before : Nat → Int32) (x_was : Nat → Int32) (x_region : Nat → Int32) (x_parts : Nat → Int64) (x_next : Nat → Int64) (x_ways : Nat → Int32) (x_more : Nat → Int32) (x_whole : Int64) (x_isSaved : Int32) (x_changes : Int32) (x_isWithin : Int32) (x_code : Int32) (x_input : Nat → Int32) (x_length : Int32) (x_fault : Int32) (x_failed : Int32) (x_signs : Nat → Int32) (x_signMany : Int32) (x_at : Int32) (x_told : Nat → Int32) (x_toldMany : Int32) (res : Int32) (H : Heap) (locs : List Loc) (pc : Nat) (ls : Array Slot) (st : List Value) : Prop := W p l e (headSpec wsX13_thrown rm_X13_thrown).room s m args below meth c H locs 0 0 (MQ below (PoI g A (w_X13 g h0 h1 h2 h3 h4 h5 h6 h7 h8 h9 h10 h11 h12 h13 x_g x_kept x_saved x_before x_was x_region x_parts x_next x_ways x_more x_whole x_isSaved x_changes x_isWithin x_code x_input x_length x_fault x_failed x_signs x_signMany x_at x_told x_toldMany) res) args s 0 0 A) (F0 m pc ls st)
set_option maxHeartbeats 4000000 in
set_option maxRecDepth 100000 in
theorem k_X13_thrown_0 {p : Program} {l : Launch} {e : Env} {s : State} {m : MethodId} {args : Array Value} {below : List Frame} {meth : Method} {c : Code} {g : GE} {A : Nat → Prop} {h0 h1 h2 h3 h4 h5 h6 h7 h8 h9 h10 h11 h12 h13 : Nat} {x_g : Nat → Int32} {x_kept : Nat → Int32} {x_saved : Nat → Int32} {x_before : Nat → Int32} {x_was : Nat → Int32} {x_region : Nat → Int32} {x_parts : Nat → Int64} {x_next : Nat → Int64} {x_ways : Nat → Int32} {x_more : Nat → Int32} {x_whole : Int64} {x_isSaved : Int32} {x_changes : Int32} {x_isWithin : Int32} {x_code : Int32} {x_input : Nat → Int32} {x_length : Int32} {x_fault : Int32} {x_failed : Int32} {x_signs : Nat → Int32} {x_signMany : Int32} {x_at : Int32} {x_told : Nat → Int32} {x_toldMany : Int32} {res : Int32} {H : Heap} {locs : List Loc} {ls : Array Slot} 
    (E : En cX13_thrown RX13 wsX13_thrown 1 (some .int) p s m args meth c) (hK : KK g s) (hA : ∀ q, s.heap.size ≤ q → A q) (h : f_X13_thrown x_code = some res) (hW : Wo g A s H locs (w_X13 g h0 h1 h2 h3 h4 h5 h6 h7 h8 h9 h10 h11 h12 h13 x_g x_kept x_saved x_before x_was x_region x_parts x_next x_ways x_more x_whole x_isSaved x_changes x_isWithin x_code x_input x_length x_fault x_failed x_signs x_signMany x_at x_told x_toldMany)) (hl : lv_has ls 1 [(0, .ref h0)]) : G_X13_thrown p l e s m args below meth c g A h0 h1 h2 h3 h4 h5 h6 h7 h8 h9 h10 h11 h12 h13 x_g x_kept x_saved x_before x_was x_region x_parts x_next x_ways x_more x_whole x_isSaved x_changes x_isWithin x_code x_input x_length x_fault x_failed x_signs x_signMany x_at x_told x_toldMany res H locs 0 ls [] := by
  have hts := E.2.2.2.1
  unfold f_X13_thrown at h
  refine lv_aload_n E.1 E.2.1 dX13_thrown_0 rfl (lv_at hl 0 rfl) ?_
  refine wGet (v := .int x_code) E hK in_X13_thrown_X13 hW 14 lk_X13_thrown_58 0 rfl rfl (by decide) rfl rfl dX13_thrown_1 ?_
  obtain rfl := Option.some.inj h
  exact endI E rfl hW dX13_thrown_4
theorem c_X13_thrown (l : Launch) (g : GE) (h0 h1 h2 h3 h4 h5 h6 h7 h8 h9 h10 h11 h12 h13 : Nat) (x_g : Nat → Int32) (x_kept : Nat → Int32) (x_saved : Nat → Int32) (x_before : Nat → Int32) (x_was : Nat → Int32) (x_region : Nat → Int32) (x_parts : Nat → Int64) (x_next : Nat → Int64) (x_ways : Nat → Int32) (x_more : Nat → Int32) (x_whole : Int64) (x_isSaved : Int32) (x_changes : Int32) (x_isWithin : Int32) (x_code : Int32) (x_input : Nat → Int32) (x_length : Int32) (x_fault : Int32) (x_failed : Int32) (x_signs : Nat → Int32) (x_signMany : Int32) (x_at : Int32) (x_told : Nat → Int32) (x_toldMany : Int32) {res : Int32} (hf : f_X13_thrown x_code = some res) : CI l yX13_thrown wsX13_thrown rm_X13_thrown g [.ref h0] (w_X13 g h0 h1 h2 h3 h4 h5 h6 h7 h8 h9 h10 h11 h12 h13 x_g x_kept x_saved x_before x_was x_region x_parts x_next x_ways x_more x_whole x_isSaved x_changes x_isWithin x_code x_input x_length x_fault x_failed x_signs x_signMany x_at x_told x_toldMany) (w_X13 g h0 h1 h2 h3 h4 h5 h6 h7 h8 h9 h10 h11 h12 h13 x_g x_kept x_saved x_before x_was x_region x_parts x_next x_ways x_more x_whole x_isSaved x_changes x_isWithin x_code x_input x_length x_fault x_failed x_signs x_signMany x_at x_told x_toldMany) res :=
  mkI (cc := cX13_thrown) (maxL := 1) (by decide) rfl (Nat.le_of_ble_eq_true rfl) (fun p e s m args below meth c A H locs ls E hK hA hW hl => k_X13_thrown_0 E hK hA hf hW hl)

/-! PaperStormModel.fails(I)Z X13_fails -/
abbrev rm_X13_fails : Room := { frames := 0, cells := 0, slots := 0, locals := 0 }
theorem in_X13_fails_X13 : ∀ w ∈ wsX130, w ∈ wsX13_fails := by decide +kernel
theorem lk_X13_fails_58 : Cond.fieldLink RX13 58 "PaperStormModel" "code" "I" ∈ wsX13_fails := by decide +kernel
noncomputable def f_X13_fails (x_code : Int32) (a1 : Int32) : Option (Int32 × Int32) :=
  jo (fun (x_code_14 : Int32) (s0_14 : Int32) => if ¬ vp_nar .boolean s0_14 = s0_14 then none else some (s0_14, x_code_14)) (fun j14 => if a1 ≤ 0 then j14 a1 0 else j14 a1 1)
abbrev G_X13_fails (p : Program) (l : Launch) (e : Env) (s : State) (m : MethodId) (args : Array Value) (below : List Frame) (meth : Method) (c : Code) (g : GE) (A : Nat → Prop) (h0 h1 h2 h3 h4 h5 h6 h7 h8 h9 h10 h11 h12 h13 : Nat) (x_g : Nat → Int32) (x_kept : Nat → Int32) (x_saved : Nat → Int32) (x_before : Nat → Int32) (x_was : Nat → Int32) (x_region : Nat → Int32) (x_parts : Nat → Int64) (x_next : Nat → Int64) (x_ways : Nat → Int32) (x_more : Nat → Int32) (x_whole : Int64) (x_isSaved : Int32) (x_changes : Int32) (x_isWithin : Int32) (x_input : Nat → Int32) (x_length : Int32) (x_fault : Int32) (x_failed : Int32) (x_signs : Nat → Int32) (x_signMany : Int32) (x_at : Int32) (x_told : Nat → Int32) (x_toldMany : Int32) (res : Int32 × Int32) (H : Heap) (locs : List Loc) (pc : Nat) (ls : Array Slot) (st : List Value) : Prop := W p l e (headSpec wsX13_fails rm_X13_fails).room s m args below meth c H locs 0 0 (MQ below (PoI g A (w_X13 g h0 h1 h2 h3 h4 h5 h6 h7 h8 h9 h10 h11 h12 h13 x_g x_kept x_saved x_before x_was x_region x_parts x_next x_ways x_more x_whole x_isSaved x_changes x_isWithin res.2 x_input x_length x_fault x_failed x_signs x_signMany x_at x_told x_toldMany) res.1) args s 0 0 A) (F0 m pc ls st)
set_option maxHeartbeats 4000000 in
set_option maxRecDepth 100000 in
theorem k_X13_fails_0 {p : Program} {l : Launch} {e : Env} {s : State} {m : MethodId} {args : Array Value} {below : List Frame} {meth : Method} {c : Code} {g : GE} {A : Nat → Prop} {h0 h1 h2 h3 h4 h5 h6 h7 h8 h9 h10 h11 h12 h13 : Nat} {x_g : Nat → Int32} {x_kept : Nat → Int32} {x_saved : Nat → Int32} {x_before : Nat → Int32} {x_was : Nat → Int32} {x_region : Nat → Int32} {x_parts : Nat → Int64} {x_next : Nat → Int64} {x_ways : Nat → Int32} {x_more : Nat → Int32} {x_whole : Int64} {x_isSaved : Int32} {x_changes : Int32} {x_isWithin : Int32} {x_code : Int32} {x_input : Nat → Int32} {x_length : Int32} {x_fault : Int32} {x_failed : Int32} {x_signs : Nat → Int32} {x_signMany : Int32} {x_at : Int32} {x_told : Nat → Int32} {x_toldMany : Int32} {res : Int32 × Int32} {H : Heap} {locs : List Loc} {ls : Array Slot} {a1 : Int32}
    (E : En cX13_fails RX13 wsX13_fails 2 (some .boolean) p s m args meth c) (hK : KK g s) (hA : ∀ q, s.heap.size ≤ q → A q) (h : f_X13_fails x_code a1 = some res) (hW : Wo g A s H locs (w_X13 g h0 h1 h2 h3 h4 h5 h6 h7 h8 h9 h10 h11 h12 h13 x_g x_kept x_saved x_before x_was x_region x_parts x_next x_ways x_more x_whole x_isSaved x_changes x_isWithin x_code x_input x_length x_fault x_failed x_signs x_signMany x_at x_told x_toldMany)) (hl : lv_has ls 2 [(0, .ref h0), (1, .int a1)]) : G_X13_fails p l e s m args below meth c g A h0 h1 h2 h3 h4 h5 h6 h7 h8 h9 h10 h11 h12 h13 x_g x_kept x_saved x_before x_was x_region x_parts x_next x_ways x_more x_whole x_isSaved x_changes x_isWithin x_input x_length x_fault x_failed x_signs x_signMany x_at x_told x_toldMany res H locs 0 ls [] := by
  have hts := E.2.2.2.1
  unfold f_X13_fails at h
  obtain ⟨j14, hj14, h⟩ := jox2 h
  have J14 : ∀ (x_code_14 : Int32) (s0_14 : Int32) (H : Heap) (locs : List Loc) (ls : Array Slot), j14 x_code_14 s0_14 = some res → Wo g A s H locs (w_X13 g h0 h1 h2 h3 h4 h5 h6 h7 h8 h9 h10 h11 h12 h13 x_g x_kept x_saved x_before x_was x_region x_parts x_next x_ways x_more x_whole x_isSaved x_changes x_isWithin x_code_14 x_input x_length x_fault x_failed x_signs x_signMany x_at x_told x_toldMany) → lv_has ls 2 [] → G_X13_fails p l e s m args below meth c g A h0 h1 h2 h3 h4 h5 h6 h7 h8 h9 h10 h11 h12 h13 x_g x_kept x_saved x_before x_was x_region x_parts x_next x_ways x_more x_whole x_isSaved x_changes x_isWithin x_input x_length x_fault x_failed x_signs x_signMany x_at x_told x_toldMany res H locs 14 ls [.int s0_14] := by
    intro x_code_14 s0_14 H locs ls h hW hl
    rw [hj14] at h
    obtain ⟨hz, h⟩ := ox h
    obtain rfl := Option.some.inj h
    exact endI E (nar_z (Decidable.not_not.mp hz)) hW dX13_fails_14
  refine lv_aload_n E.1 E.2.1 dX13_fails_0 rfl (lv_at hl 0 rfl) ?_
  refine lv_iload_n E.1 E.2.1 dX13_fails_1 rfl (lv_at hl 1 rfl) ?_
  refine wPut (world' := (w_X13 g h0 h1 h2 h3 h4 h5 h6 h7 h8 h9 h10 h11 h12 h13 x_g x_kept x_saved x_before x_was x_region x_parts x_next x_ways x_more x_whole x_isSaved x_changes x_isWithin a1 x_input x_length x_fault x_failed x_signs x_signMany x_at x_told x_toldMany)) E hK in_X13_fails_X13 tyX13 tyX13_ok nmX13 hW 14 lk_X13_fails_58 0 rfl rfl (by decide) rfl rfl rfl rfl rfl (Nat.le_of_ble_eq_true rfl) dX13_fails_2 rfl (fun H locs hW => ?_)
  refine lv_iload_n E.1 E.2.1 dX13_fails_5 rfl (lv_at hl 1 rfl) ?_
  refine lv_if_le (tgt := 13) E.1 E.2.1 dX13_fails_6 (by decide) (fun c6 => ?_) (fun c6 => ?_)
  · have h := it c6 h
    refine lv_iconst (v := 0) E.1 E.2.1 dX13_fails_13 (by decide) ?_
    exact J14 a1 0 H locs ls h hW (lv_sub hl [] rfl)
  · have h := ie c6 h
    refine lv_iconst (v := 1) E.1 E.2.1 dX13_fails_9 (by decide) ?_
    refine lv_goto (tgt := 14) E.1 E.2.1 dX13_fails_10 (by decide) ?_
    exact J14 a1 1 H locs ls h hW (lv_sub hl [] rfl)
theorem c_X13_fails (l : Launch) (g : GE) (h0 h1 h2 h3 h4 h5 h6 h7 h8 h9 h10 h11 h12 h13 : Nat) (x_g : Nat → Int32) (x_kept : Nat → Int32) (x_saved : Nat → Int32) (x_before : Nat → Int32) (x_was : Nat → Int32) (x_region : Nat → Int32) (x_parts : Nat → Int64) (x_next : Nat → Int64) (x_ways : Nat → Int32) (x_more : Nat → Int32) (x_whole : Int64) (x_isSaved : Int32) (x_changes : Int32) (x_isWithin : Int32) (x_code : Int32) (x_input : Nat → Int32) (x_length : Int32) (x_fault : Int32) (x_failed : Int32) (x_signs : Nat → Int32) (x_signMany : Int32) (x_at : Int32) (x_told : Nat → Int32) (x_toldMany : Int32) (a1 : Int32) {res : Int32 × Int32} (hf : f_X13_fails x_code a1 = some res) : CI l yX13_fails wsX13_fails rm_X13_fails g [.ref h0, .int a1] (w_X13 g h0 h1 h2 h3 h4 h5 h6 h7 h8 h9 h10 h11 h12 h13 x_g x_kept x_saved x_before x_was x_region x_parts x_next x_ways x_more x_whole x_isSaved x_changes x_isWithin x_code x_input x_length x_fault x_failed x_signs x_signMany x_at x_told x_toldMany) (w_X13 g h0 h1 h2 h3 h4 h5 h6 h7 h8 h9 h10 h11 h12 h13 x_g x_kept x_saved x_before x_was x_region x_parts x_next x_ways x_more x_whole x_isSaved x_changes x_isWithin res.2 x_input x_length x_fault x_failed x_signs x_signMany x_at x_told x_toldMany) res.1 :=
  mkI (cc := cX13_fails) (maxL := 2) (by decide) rfl (Nat.le_of_ble_eq_true rfl) (fun p e s m args below meth c A H locs ls E hK hA hW hl => k_X13_fails_0 E hK hA hf hW hl)

/-! PaperStormModel.in(III)Z X13_in -/
abbrev rm_X13_in : Room := { frames := 0, cells := 0, slots := 0, locals := 0 }
noncomputable def f_X13_in (a0 : Int32) (a1 : Int32) (a2 : Int32) : Option (Int32) :=
  jo (fun (s0_15 : Int32) => if ¬ vp_nar .boolean s0_15 = s0_15 then none else some (s0_15)) (fun j15 => jo (j15 0) (fun j14 => if a0 < a1 then j14 else if a2 < a0 then j14 else j15 1))
abbrev G_X13_in (p : Program) (l : Launch) (e : Env) (s : State) (m : MethodId) (args : Array Value) (below : List Frame) (meth : Method) (c : Code) (g : GE) (A : Nat → Prop) (res : Int32) (H : Heap) (locs : List Loc) (pc : Nat) (ls : Array Slot) (st : List Value) : Prop := W p l e (headSpec wsX13_in rm_X13_in).room s m args below meth c H locs 0 0 (MQ below (PoI g A ([] : va_W) res) args s 0 0 A) (F0 m pc ls st)
set_option maxHeartbeats 4000000 in
set_option maxRecDepth 100000 in
theorem k_X13_in_0 {p : Program} {l : Launch} {e : Env} {s : State} {m : MethodId} {args : Array Value} {below : List Frame} {meth : Method} {c : Code} {g : GE} {A : Nat → Prop} {res : Int32} {H : Heap} {locs : List Loc} {ls : Array Slot} {a0 : Int32} {a1 : Int32} {a2 : Int32}
    (E : En cX13_in RX13 wsX13_in 3 (some .boolean) p s m args meth c) (hK : KK g s) (hA : ∀ q, s.heap.size ≤ q → A q) (h : f_X13_in a0 a1 a2 = some res) (hW : Wo g A s H locs ([] : va_W)) (hl : lv_has ls 3 [(0, .int a0), (1, .int a1), (2, .int a2)]) : G_X13_in p l e s m args below meth c g A res H locs 0 ls [] := by
  have hts := E.2.2.2.1
  unfold f_X13_in at h
  obtain ⟨j15, hj15, h⟩ := jox1 h
  have J15 : ∀ (s0_15 : Int32) (H : Heap) (locs : List Loc) (ls : Array Slot), j15 s0_15 = some res → Wo g A s H locs ([] : va_W) → lv_has ls 3 [] → G_X13_in p l e s m args below meth c g A res H locs 15 ls [.int s0_15] := by
    intro s0_15 H locs ls h hW hl
    rw [hj15] at h
    obtain ⟨hz, h⟩ := ox h
    obtain rfl := Option.some.inj h
    exact endI E (nar_z (Decidable.not_not.mp hz)) hW dX13_in_15
  obtain ⟨j14, hj14, h⟩ := jox0 h
  have J14 : ∀ (H : Heap) (locs : List Loc) (ls : Array Slot), j14 = some res → Wo g A s H locs ([] : va_W) → lv_has ls 3 [] → G_X13_in p l e s m args below meth c g A res H locs 14 ls [] := by
    intro H locs ls h hW hl
    rw [hj14] at h
    refine lv_iconst (v := 0) E.1 E.2.1 dX13_in_14 (by decide) ?_
    exact J15 0 H locs ls h hW (lv_sub hl [] rfl)
  refine lv_iload_n E.1 E.2.1 dX13_in_0 rfl (lv_at hl 0 rfl) ?_
  refine lv_iload_n E.1 E.2.1 dX13_in_1 rfl (lv_at hl 1 rfl) ?_
  refine lv_icmp_lt (tgt := 14) E.1 E.2.1 dX13_in_2 (by decide) (fun c2 => ?_) (fun c2 => ?_)
  · have h := it c2 h
    exact J14  H locs ls h hW (lv_sub hl [] rfl)
  · have h := ie c2 h
    refine lv_iload_n E.1 E.2.1 dX13_in_5 rfl (lv_at hl 0 rfl) ?_
    refine lv_iload_n E.1 E.2.1 dX13_in_6 rfl (lv_at hl 2 rfl) ?_
    refine lv_icmp_gt (tgt := 14) E.1 E.2.1 dX13_in_7 (by decide) (fun c7 => ?_) (fun c7 => ?_)
    · have h := it c7 h
      exact J14  H locs ls h hW (lv_sub hl [] rfl)
    · have h := ie c7 h
      refine lv_iconst (v := 1) E.1 E.2.1 dX13_in_10 (by decide) ?_
      refine lv_goto (tgt := 15) E.1 E.2.1 dX13_in_11 (by decide) ?_
      exact J15 1 H locs ls h hW (lv_sub hl [] rfl)
theorem c_X13_in (l : Launch) (g : GE) (a0 : Int32) (a1 : Int32) (a2 : Int32) {res : Int32} (hf : f_X13_in a0 a1 a2 = some res) : CI l yX13_in wsX13_in rm_X13_in g [.int a0, .int a1, .int a2] ([] : va_W) ([] : va_W) res :=
  mkI (cc := cX13_in) (maxL := 3) (by decide) rfl (Nat.le_of_ble_eq_true rfl) (fun p e s m args below meth c A H locs ls E hK hA hW hl => k_X13_in_0 E hK hA hf hW hl)

/-! PaperStormModel.apart(II)I X13_apart -/
abbrev rm_X13_apart : Room := { frames := 0, cells := 0, slots := 0, locals := 0 }
noncomputable def f_X13_apart (a0 : Int32) (a1 : Int32) : Option (Int32) :=
  jo (fun (s0_14 : Int32) => some (s0_14)) (fun j14 => if a0 ≤ a1 then j14 (a1 - a0) else j14 (a0 - a1))
abbrev G_X13_apart (p : Program) (l : Launch) (e : Env) (s : State) (m : MethodId) (args : Array Value) (below : List Frame) (meth : Method) (c : Code) (g : GE) (A : Nat → Prop) (res : Int32) (H : Heap) (locs : List Loc) (pc : Nat) (ls : Array Slot) (st : List Value) : Prop := W p l e (headSpec wsX13_apart rm_X13_apart).room s m args below meth c H locs 0 0 (MQ below (PoI g A ([] : va_W) res) args s 0 0 A) (F0 m pc ls st)
set_option maxHeartbeats 4000000 in
set_option maxRecDepth 100000 in
theorem k_X13_apart_0 {p : Program} {l : Launch} {e : Env} {s : State} {m : MethodId} {args : Array Value} {below : List Frame} {meth : Method} {c : Code} {g : GE} {A : Nat → Prop} {res : Int32} {H : Heap} {locs : List Loc} {ls : Array Slot} {a0 : Int32} {a1 : Int32}
    (E : En cX13_apart RX13 wsX13_apart 2 (some .int) p s m args meth c) (hK : KK g s) (hA : ∀ q, s.heap.size ≤ q → A q) (h : f_X13_apart a0 a1 = some res) (hW : Wo g A s H locs ([] : va_W)) (hl : lv_has ls 2 [(0, .int a0), (1, .int a1)]) : G_X13_apart p l e s m args below meth c g A res H locs 0 ls [] := by
  have hts := E.2.2.2.1
  unfold f_X13_apart at h
  obtain ⟨j14, hj14, h⟩ := jox1 h
  have J14 : ∀ (s0_14 : Int32) (H : Heap) (locs : List Loc) (ls : Array Slot), j14 s0_14 = some res → Wo g A s H locs ([] : va_W) → lv_has ls 2 [] → G_X13_apart p l e s m args below meth c g A res H locs 14 ls [.int s0_14] := by
    intro s0_14 H locs ls h hW hl
    rw [hj14] at h
    obtain rfl := Option.some.inj h
    exact endI E rfl hW dX13_apart_14
  refine lv_iload_n E.1 E.2.1 dX13_apart_0 rfl (lv_at hl 0 rfl) ?_
  refine lv_iload_n E.1 E.2.1 dX13_apart_1 rfl (lv_at hl 1 rfl) ?_
  refine lv_icmp_le (tgt := 11) E.1 E.2.1 dX13_apart_2 (by decide) (fun c2 => ?_) (fun c2 => ?_)
  · have h := it c2 h
    refine lv_iload_n E.1 E.2.1 dX13_apart_11 rfl (lv_at hl 1 rfl) ?_
    refine lv_iload_n E.1 E.2.1 dX13_apart_12 rfl (lv_at hl 0 rfl) ?_
    refine lv_isub E.1 E.2.1 dX13_apart_13 ?_
    exact J14 (a1 - a0) H locs ls h hW (lv_sub hl [] rfl)
  · have h := ie c2 h
    refine lv_iload_n E.1 E.2.1 dX13_apart_5 rfl (lv_at hl 0 rfl) ?_
    refine lv_iload_n E.1 E.2.1 dX13_apart_6 rfl (lv_at hl 1 rfl) ?_
    refine lv_isub E.1 E.2.1 dX13_apart_7 ?_
    refine lv_goto (tgt := 14) E.1 E.2.1 dX13_apart_8 (by decide) ?_
    exact J14 (a0 - a1) H locs ls h hW (lv_sub hl [] rfl)
theorem c_X13_apart (l : Launch) (g : GE) (a0 : Int32) (a1 : Int32) {res : Int32} (hf : f_X13_apart a0 a1 = some res) : CI l yX13_apart wsX13_apart rm_X13_apart g [.int a0, .int a1] ([] : va_W) ([] : va_W) res :=
  mkI (cc := cX13_apart) (maxL := 2) (by decide) rfl (Nat.le_of_ble_eq_true rfl) (fun p e s m args below meth c A H locs ls E hK hA hW hl => k_X13_apart_0 E hK hA hf hW hl)

/-! PaperStormModel.copies([II[II)V X13_copies -/
abbrev rm_X13_copies : Room := { frames := 0, cells := 0, slots := 0, locals := 0 }
noncomputable def f_X13_copies_3 (x_a0 : Nat → Int32) (n_a0 : Nat) (n_a2 : Nat) (l1 : Int32) (l3 : Int32) (z28 : (Nat → Int32) → Option ((Nat → Int32))) : Nat → Int32 → (Nat → Int32) → Option ((Nat → Int32))
  | 0, _, _ => none
  | n + 1, l4_3, x_a2_3 => if 60 ≤ l4_3 then z28 x_a2_3 else if (l1 + l4_3) < 0 ∨ n_a0 ≤ (l1 + l4_3).toNatClampNeg then none else if (l3 + l4_3) < 0 ∨ n_a2 ≤ (l3 + l4_3).toNatClampNeg then none else f_X13_copies_3 x_a0 n_a0 n_a2 l1 l3 z28 n (l4_3 + 1) (upd x_a2_3 (l3 + l4_3).toNatClampNeg (x_a0 (l1 + l4_3).toNatClampNeg))
noncomputable def f_X13_copies (x_a0 : Nat → Int32) (x_a2 : Nat → Int32) (n_a0 : Nat) (n_a2 : Nat) (a1 : Int32) (a3 : Int32) : Option ((Nat → Int32)) :=
  f_X13_copies_3 x_a0 n_a0 n_a2 a1 a3 (fun x_a2_28e => some (x_a2_28e)) 1000 0 x_a2
abbrev G_X13_copies (p : Program) (l : Launch) (e : Env) (s : State) (m : MethodId) (args : Array Value) (below : List Frame) (meth : Method) (c : Code) (g : GE) (A : Nat → Prop) (h0 h1 : Nat) (n_a0 n_a2 : Nat) (x_a0 : Nat → Int32) (res : (Nat → Int32)) (H : Heap) (locs : List Loc) (pc : Nat) (ls : Array Slot) (st : List Value) : Prop := W p l e (headSpec wsX13_copies rm_X13_copies).room s m args below meth c H locs 0 0 (MQ below (PoV g A ([(h0, .inl (g.2 0, n_a0, .inl x_a0))] ++ [(h1, .inl (g.2 0, n_a2, .inl res))])) args s 0 0 A) (F0 m pc ls st)
set_option maxHeartbeats 4000000 in
set_option maxRecDepth 100000 in
theorem k_X13_copies_3 {p : Program} {l : Launch} {e : Env} {s : State} {m : MethodId} {args : Array Value} {below : List Frame} {meth : Method} {c : Code} {g : GE} {A : Nat → Prop} {h0 h1 : Nat} {n_a0 n_a2 : Nat} {x_a0 : Nat → Int32} {res : (Nat → Int32)} {l1 : Int32} {l3 : Int32} {z28 : (Nat → Int32) → Option ((Nat → Int32))}
    (E : En cX13_copies RX13 wsX13_copies 5 none p s m args meth c) (hK : KK g s) (hA : ∀ q, s.heap.size ≤ q → A q)
    (hz28 : ∀ (x_a2_28e : Nat → Int32) (H : Heap) (locs : List Loc) (ls : Array Slot), z28 x_a2_28e = some res → Wo g A s H locs ([(h0, .inl (g.2 0, n_a0, .inl x_a0))] ++ [(h1, .inl (g.2 0, n_a2, .inl x_a2_28e))]) → lv_has ls 5 [] → G_X13_copies p l e s m args below meth c g A h0 h1 n_a0 n_a2 x_a0 res H locs 28 ls [])
    : ∀ (n : Nat) (l4_3 : Int32) (x_a2_3 : Nat → Int32) (H : Heap) (locs : List Loc) (ls : Array Slot), f_X13_copies_3 x_a0 n_a0 n_a2 l1 l3 z28 n l4_3 x_a2_3 = some res → Wo g A s H locs ([(h0, .inl (g.2 0, n_a0, .inl x_a0))] ++ [(h1, .inl (g.2 0, n_a2, .inl x_a2_3))]) → lv_has ls 5 [(0, .ref h0), (1, .int l1), (2, .ref h1), (3, .int l3), (4, .int l4_3)] → G_X13_copies p l e s m args below meth c g A h0 h1 n_a0 n_a2 x_a0 res H locs 3 ls [] := by
  have hts := E.2.2.2.1
  intro n
  induction n with
  | zero => intro l4_3 x_a2_3 H locs ls h hW hl; rw [f_X13_copies_3] at h; cases h
  | succ n ih =>
    intro l4_3 x_a2_3 H locs ls h hW hl
    rw [f_X13_copies_3] at h
    refine lv_iload E.1 E.2.1 dX13_copies_3 (lv_at hl 4 rfl) ?_
    refine lv_bipush (v := 60) E.1 E.2.1 dX13_copies_5 (by decide) ?_
    refine lv_icmp_ge (tgt := 28) E.1 E.2.1 dX13_copies_7 (by decide) (fun c7 => ?_) (fun c7 => ?_)
    · have h := it c7 h
      exact hz28 x_a2_3 H locs ls h hW (lv_sub hl [] rfl)
    · have h := ie c7 h
      refine lv_aload_n E.1 E.2.1 dX13_copies_10 rfl (lv_at hl 2 rfl) ?_
      refine lv_iload_n E.1 E.2.1 dX13_copies_11 rfl (lv_at hl 3 rfl) ?_
      refine lv_iload E.1 E.2.1 dX13_copies_12 (lv_at hl 4 rfl) ?_
      refine lv_iadd E.1 E.2.1 dX13_copies_14 ?_
      refine lv_aload_n E.1 E.2.1 dX13_copies_15 rfl (lv_at hl 0 rfl) ?_
      refine lv_iload_n E.1 E.2.1 dX13_copies_16 rfl (lv_at hl 1 rfl) ?_
      refine lv_iload E.1 E.2.1 dX13_copies_17 (lv_at hl 4 rfl) ?_
      refine lv_iadd E.1 E.2.1 dX13_copies_19 ?_
      obtain ⟨hi20, h⟩ := ox h
      refine wIald E hK hW 0 rfl hi20 dX13_copies_20 ?_
      obtain ⟨hi21, h⟩ := ox h
      refine wIast (world' := ([(h0, .inl (g.2 0, n_a0, .inl x_a0))] ++ [(h1, .inl (g.2 0, n_a2, .inl (upd x_a2_3 (l3 + l4_3).toNatClampNeg (x_a0 (l1 + l4_3).toNatClampNeg))))])) E hK hW 1 rfl hi21 dX13_copies_21 rfl (fun H locs hW => ?_)
      refine lv_iinc (v := (l4_3 + 1)) (lv' := [(4, .int (l4_3 + 1)), (0, .ref h0), (1, .int l1), (2, .ref h1), (3, .int l3)]) E.1 E.2.1 dX13_copies_22 hl (k := 4) rfl rfl (by decide) rfl (fun ls hl => ?_)
      refine lv_goto (tgt := 3) E.1 E.2.1 dX13_copies_25 (by decide) ?_
      exact ih (l4_3 + 1) (upd x_a2_3 (l3 + l4_3).toNatClampNeg (x_a0 (l1 + l4_3).toNatClampNeg)) H locs ls h hW (lv_sub hl [1, 2, 3, 4, 0] rfl)
set_option maxHeartbeats 4000000 in
set_option maxRecDepth 100000 in
theorem k_X13_copies_0 {p : Program} {l : Launch} {e : Env} {s : State} {m : MethodId} {args : Array Value} {below : List Frame} {meth : Method} {c : Code} {g : GE} {A : Nat → Prop} {h0 h1 : Nat} {n_a0 n_a2 : Nat} {x_a0 : Nat → Int32} {x_a2 : Nat → Int32} {res : (Nat → Int32)} {H : Heap} {locs : List Loc} {ls : Array Slot} {a1 : Int32} {a3 : Int32}
    (E : En cX13_copies RX13 wsX13_copies 5 none p s m args meth c) (hK : KK g s) (hA : ∀ q, s.heap.size ≤ q → A q) (h : f_X13_copies x_a0 x_a2 n_a0 n_a2 a1 a3 = some res) (hW : Wo g A s H locs ([(h0, .inl (g.2 0, n_a0, .inl x_a0))] ++ [(h1, .inl (g.2 0, n_a2, .inl x_a2))])) (hl : lv_has ls 5 [(0, .ref h0), (1, .int a1), (2, .ref h1), (3, .int a3)]) : G_X13_copies p l e s m args below meth c g A h0 h1 n_a0 n_a2 x_a0 res H locs 0 ls [] := by
  have hts := E.2.2.2.1
  unfold f_X13_copies at h
  refine lv_iconst (v := 0) E.1 E.2.1 dX13_copies_0 (by decide) ?_
  refine lv_istore (lv' := [(4, .int 0), (0, .ref h0), (1, .int a1), (2, .ref h1), (3, .int a3)]) E.1 E.2.1 dX13_copies_1 hl (by decide) rfl (fun ls hl => ?_)
  refine k_X13_copies_3 E hK hA ?_ 1000 0 x_a2 H locs ls h hW (lv_sub hl [1, 2, 3, 4, 0] rfl)
  · intro x_a2_28e H locs ls h hW hl
    obtain rfl := Option.some.inj h
    exact endV E hW dX13_copies_28
theorem c_X13_copies (l : Launch) (g : GE) (h0 h1 n_a0 n_a2 : Nat) (x_a0 : Nat → Int32) (x_a2 : Nat → Int32) (a1 : Int32) (a3 : Int32) {res : (Nat → Int32)} (hf : f_X13_copies x_a0 x_a2 n_a0 n_a2 a1 a3 = some res) : CV l yX13_copies wsX13_copies rm_X13_copies g [.ref h0, .int a1, .ref h1, .int a3] ([(h0, .inl (g.2 0, n_a0, .inl x_a0))] ++ [(h1, .inl (g.2 0, n_a2, .inl x_a2))]) ([(h0, .inl (g.2 0, n_a0, .inl x_a0))] ++ [(h1, .inl (g.2 0, n_a2, .inl res))]) :=
  mkV (cc := cX13_copies) (maxL := 5) (by decide) rfl (Nat.le_of_ble_eq_true rfl) (fun p e s m args below meth c A H locs ls E hK hA hW hl => k_X13_copies_0 E hK hA hf hW hl)

/-! PaperStormModel.keeps([I)V X13_keeps__g -/
abbrev rm_X13_keeps__g : Room := { frames := 1, cells := 0, slots := 0, locals := 24 }
theorem in_X13_keeps__g_X13 : ∀ w ∈ wsX130, w ∈ wsX13_keeps := by decide +kernel
theorem lk_X13_keeps__g_13 : Cond.fieldLink RX13 13 "PaperStormModel" "kept" "[I" ∈ wsX13_keeps := by decide +kernel
theorem lk_X13_keeps__g_58 : Cond.fieldLink RX13 58 "PaperStormModel" "code" "I" ∈ wsX13_keeps := by decide +kernel
theorem lk_X13_keeps__g_61 : Cond.fieldLink RX13 61 "PaperStormModel" "isWithin" "Z" ∈ wsX13_keeps := by decide +kernel
theorem lk_X13_keeps__g_65 : Cond.fieldLink RX13 65 "PaperStormModel" "changes" "I" ∈ wsX13_keeps := by decide +kernel
noncomputable def f_X13_keeps__g_24 (z52 : (Nat → Int32) → Option ((Nat → Int32) × Int32 × Int32)) : Nat → Int32 → (Nat → Int32) → Option ((Nat → Int32) × Int32 × Int32)
  | 0, _, _ => none
  | n + 1, l2_24, x_kept_24 => if 420 ≤ l2_24 then z52 x_kept_24 else if (l2_24 + 60) < 0 ∨ 480 ≤ (l2_24 + 60).toNatClampNeg then none else if l2_24 < 0 ∨ 480 ≤ l2_24.toNatClampNeg then none else f_X13_keeps__g_24 z52 n (l2_24 + 1) (upd x_kept_24 l2_24.toNatClampNeg (x_kept_24 (l2_24 + 60).toNatClampNeg))
noncomputable def f_X13_keeps__g (x_g : Nat → Int32) (x_kept : Nat → Int32) (x_changes : Int32) (x_isWithin : Int32) (x_code : Int32) : Option ((Nat → Int32) × Int32 × Int32) :=
  if x_isWithin = 0 then jo (fun (x_kept_62 : Nat → Int32) (x_changes_62 : Int32) => (f_X13_copies x_g x_kept_62 60 480 0 (60 * x_changes_62)).bind fun r75 => some (r75, (x_changes_62 + 1), 0)) (fun j62 => if x_changes = 8 then f_X13_keeps__g_24 (fun x_kept_52e => j62 x_kept_52e (x_changes - 1)) 1000 0 x_kept else j62 x_kept x_changes) else some (x_kept, x_changes, 0)
abbrev G_X13_keeps__g (p : Program) (l : Launch) (e : Env) (s : State) (m : MethodId) (args : Array Value) (below : List Frame) (meth : Method) (c : Code) (g : GE) (A : Nat → Prop) (h0 h1 h2 h3 h4 h5 h6 h7 h8 h9 h10 h11 h12 h13 : Nat) (x_g : Nat → Int32) (x_saved : Nat → Int32) (x_before : Nat → Int32) (x_was : Nat → Int32) (x_region : Nat → Int32) (x_parts : Nat → Int64) (x_next : Nat → Int64) (x_ways : Nat → Int32) (x_more : Nat → Int32) (x_whole : Int64) (x_isSaved : Int32) (x_isWithin : Int32) (x_input : Nat → Int32) (x_length : Int32) (x_fault : Int32) (x_failed : Int32) (x_signs : Nat → Int32) (x_signMany : Int32) (x_at : Int32) (x_told : Nat → Int32) (x_toldMany : Int32) (res : (Nat → Int32) × Int32 × Int32) (H : Heap) (locs : List Loc) (pc : Nat) (ls : Array Slot) (st : List Value) : Prop := W p l e (headSpec wsX13_keeps rm_X13_keeps__g).room s m args below meth c H locs 0 0 (MQ below (PoV g A (w_X13 g h0 h1 h2 h3 h4 h5 h6 h7 h8 h9 h10 h11 h12 h13 x_g res.1 x_saved x_before x_was x_region x_parts x_next x_ways x_more x_whole x_isSaved res.2.1 x_isWithin res.2.2 x_input x_length x_fault x_failed x_signs x_signMany x_at x_told x_toldMany)) args s 0 0 A) (F0 m pc ls st)
set_option maxHeartbeats 4000000 in
set_option maxRecDepth 100000 in
theorem k_X13_keeps__g_24 {p : Program} {l : Launch} {e : Env} {s : State} {m : MethodId} {args : Array Value} {below : List Frame} {meth : Method} {c : Code} {g : GE} {A : Nat → Prop} {h0 h1 h2 h3 h4 h5 h6 h7 h8 h9 h10 h11 h12 h13 : Nat} {x_g : Nat → Int32} {x_saved : Nat → Int32} {x_before : Nat → Int32} {x_was : Nat → Int32} {x_region : Nat → Int32} {x_parts : Nat → Int64} {x_next : Nat → Int64} {x_ways : Nat → Int32} {x_more : Nat → Int32} {x_whole : Int64} {x_isSaved : Int32} {x_changes : Int32} {x_isWithin : Int32} {x_code : Int32} {x_input : Nat → Int32} {x_length : Int32} {x_fault : Int32} {x_failed : Int32} {x_signs : Nat → Int32} {x_signMany : Int32} {x_at : Int32} {x_told : Nat → Int32} {x_toldMany : Int32} {res : (Nat → Int32) × Int32 × Int32} {z52 : (Nat → Int32) → Option ((Nat → Int32) × Int32 × Int32)}
    (E : En cX13_keeps RX13 wsX13_keeps 3 none p s m args meth c) (hK : KK g s) (hA : ∀ q, s.heap.size ≤ q → A q)
    (hz52 : ∀ (x_kept_52e : Nat → Int32) (H : Heap) (locs : List Loc) (ls : Array Slot), z52 x_kept_52e = some res → Wo g A s H locs (w_X13 g h0 h1 h2 h3 h4 h5 h6 h7 h8 h9 h10 h11 h12 h13 x_g x_kept_52e x_saved x_before x_was x_region x_parts x_next x_ways x_more x_whole x_isSaved x_changes x_isWithin x_code x_input x_length x_fault x_failed x_signs x_signMany x_at x_told x_toldMany) → lv_has ls 3 [(0, .ref h0), (1, .ref h1)] → G_X13_keeps__g p l e s m args below meth c g A h0 h1 h2 h3 h4 h5 h6 h7 h8 h9 h10 h11 h12 h13 x_g x_saved x_before x_was x_region x_parts x_next x_ways x_more x_whole x_isSaved x_isWithin x_input x_length x_fault x_failed x_signs x_signMany x_at x_told x_toldMany res H locs 52 ls [])
    : ∀ (n : Nat) (l2_24 : Int32) (x_kept_24 : Nat → Int32) (H : Heap) (locs : List Loc) (ls : Array Slot), f_X13_keeps__g_24 z52 n l2_24 x_kept_24 = some res → Wo g A s H locs (w_X13 g h0 h1 h2 h3 h4 h5 h6 h7 h8 h9 h10 h11 h12 h13 x_g x_kept_24 x_saved x_before x_was x_region x_parts x_next x_ways x_more x_whole x_isSaved x_changes x_isWithin x_code x_input x_length x_fault x_failed x_signs x_signMany x_at x_told x_toldMany) → lv_has ls 3 [(0, .ref h0), (1, .ref h1), (2, .int l2_24)] → G_X13_keeps__g p l e s m args below meth c g A h0 h1 h2 h3 h4 h5 h6 h7 h8 h9 h10 h11 h12 h13 x_g x_saved x_before x_was x_region x_parts x_next x_ways x_more x_whole x_isSaved x_isWithin x_input x_length x_fault x_failed x_signs x_signMany x_at x_told x_toldMany res H locs 24 ls [] := by
  have hts := E.2.2.2.1
  intro n
  induction n with
  | zero => intro l2_24 x_kept_24 H locs ls h hW hl; rw [f_X13_keeps__g_24] at h; cases h
  | succ n ih =>
    intro l2_24 x_kept_24 H locs ls h hW hl
    rw [f_X13_keeps__g_24] at h
    refine lv_iload_n E.1 E.2.1 dX13_keeps_24 rfl (lv_at hl 2 rfl) ?_
    refine lv_sipush (v := 420) E.1 E.2.1 dX13_keeps_25 (by decide) ?_
    refine lv_icmp_ge (tgt := 52) E.1 E.2.1 dX13_keeps_28 (by decide) (fun c28 => ?_) (fun c28 => ?_)
    · have h := it c28 h
      exact hz52 x_kept_24 H locs ls h hW (lv_sub hl [0, 1] rfl)
    · have h := ie c28 h
      refine lv_aload_n E.1 E.2.1 dX13_keeps_31 rfl (lv_at hl 0 rfl) ?_
      refine wGet (v := .ref h2) E hK in_X13_keeps__g_X13 hW 1 lk_X13_keeps__g_13 0 rfl rfl (by decide) rfl rfl dX13_keeps_32 ?_
      refine lv_iload_n E.1 E.2.1 dX13_keeps_35 rfl (lv_at hl 2 rfl) ?_
      refine lv_aload_n E.1 E.2.1 dX13_keeps_36 rfl (lv_at hl 0 rfl) ?_
      refine wGet (v := .ref h2) E hK in_X13_keeps__g_X13 hW 1 lk_X13_keeps__g_13 0 rfl rfl (by decide) rfl rfl dX13_keeps_37 ?_
      refine lv_iload_n E.1 E.2.1 dX13_keeps_40 rfl (lv_at hl 2 rfl) ?_
      refine lv_bipush (v := 60) E.1 E.2.1 dX13_keeps_41 (by decide) ?_
      refine lv_iadd E.1 E.2.1 dX13_keeps_43 ?_
      obtain ⟨hi44, h⟩ := ox h
      refine wIald E hK hW 2 rfl hi44 dX13_keeps_44 ?_
      obtain ⟨hi45, h⟩ := ox h
      refine wIast (world' := (w_X13 g h0 h1 h2 h3 h4 h5 h6 h7 h8 h9 h10 h11 h12 h13 x_g (upd x_kept_24 l2_24.toNatClampNeg (x_kept_24 (l2_24 + 60).toNatClampNeg)) x_saved x_before x_was x_region x_parts x_next x_ways x_more x_whole x_isSaved x_changes x_isWithin x_code x_input x_length x_fault x_failed x_signs x_signMany x_at x_told x_toldMany)) E hK hW 2 rfl hi45 dX13_keeps_45 rfl (fun H locs hW => ?_)
      refine lv_iinc (v := (l2_24 + 1)) (lv' := [(2, .int (l2_24 + 1)), (0, .ref h0), (1, .ref h1)]) E.1 E.2.1 dX13_keeps_46 hl (k := 2) rfl rfl (by decide) rfl (fun ls hl => ?_)
      refine lv_goto (tgt := 24) E.1 E.2.1 dX13_keeps_49 (by decide) ?_
      exact ih (l2_24 + 1) (upd x_kept_24 l2_24.toNatClampNeg (x_kept_24 (l2_24 + 60).toNatClampNeg)) H locs ls h hW (lv_sub hl [1, 2, 0] rfl)
set_option maxHeartbeats 4000000 in
set_option maxRecDepth 100000 in
theorem k_X13_keeps__g_0 {p : Program} {l : Launch} {e : Env} {s : State} {m : MethodId} {args : Array Value} {below : List Frame} {meth : Method} {c : Code} {g : GE} {A : Nat → Prop} {h0 h1 h2 h3 h4 h5 h6 h7 h8 h9 h10 h11 h12 h13 : Nat} {x_g : Nat → Int32} {x_kept : Nat → Int32} {x_saved : Nat → Int32} {x_before : Nat → Int32} {x_was : Nat → Int32} {x_region : Nat → Int32} {x_parts : Nat → Int64} {x_next : Nat → Int64} {x_ways : Nat → Int32} {x_more : Nat → Int32} {x_whole : Int64} {x_isSaved : Int32} {x_changes : Int32} {x_isWithin : Int32} {x_code : Int32} {x_input : Nat → Int32} {x_length : Int32} {x_fault : Int32} {x_failed : Int32} {x_signs : Nat → Int32} {x_signMany : Int32} {x_at : Int32} {x_told : Nat → Int32} {x_toldMany : Int32} {res : (Nat → Int32) × Int32 × Int32} {H : Heap} {locs : List Loc} {ls : Array Slot} 
    (E : En cX13_keeps RX13 wsX13_keeps 3 none p s m args meth c) (hK : KK g s) (hA : ∀ q, s.heap.size ≤ q → A q) (h : f_X13_keeps__g x_g x_kept x_changes x_isWithin x_code = some res) (hW : Wo g A s H locs (w_X13 g h0 h1 h2 h3 h4 h5 h6 h7 h8 h9 h10 h11 h12 h13 x_g x_kept x_saved x_before x_was x_region x_parts x_next x_ways x_more x_whole x_isSaved x_changes x_isWithin x_code x_input x_length x_fault x_failed x_signs x_signMany x_at x_told x_toldMany)) (hl : lv_has ls 3 [(0, .ref h0), (1, .ref h1)]) : G_X13_keeps__g p l e s m args below meth c g A h0 h1 h2 h3 h4 h5 h6 h7 h8 h9 h10 h11 h12 h13 x_g x_saved x_before x_was x_region x_parts x_next x_ways x_more x_whole x_isSaved x_isWithin x_input x_length x_fault x_failed x_signs x_signMany x_at x_told x_toldMany res H locs 0 ls [] := by
  have hts := E.2.2.2.1
  unfold f_X13_keeps__g at h
  refine lv_aload_n E.1 E.2.1 dX13_keeps_0 rfl (lv_at hl 0 rfl) ?_
  refine lv_iconst (v := 0) E.1 E.2.1 dX13_keeps_1 (by decide) ?_
  refine wPut (world' := (w_X13 g h0 h1 h2 h3 h4 h5 h6 h7 h8 h9 h10 h11 h12 h13 x_g x_kept x_saved x_before x_was x_region x_parts x_next x_ways x_more x_whole x_isSaved x_changes x_isWithin 0 x_input x_length x_fault x_failed x_signs x_signMany x_at x_told x_toldMany)) E hK in_X13_keeps__g_X13 tyX13 tyX13_ok nmX13 hW 14 lk_X13_keeps__g_58 0 rfl rfl (by decide) rfl rfl rfl rfl rfl (Nat.le_of_ble_eq_true rfl) dX13_keeps_2 rfl (fun H locs hW => ?_)
  refine lv_aload_n E.1 E.2.1 dX13_keeps_5 rfl (lv_at hl 0 rfl) ?_
  refine wGet (v := .int x_isWithin) E hK in_X13_keeps__g_X13 hW 13 lk_X13_keeps__g_61 0 rfl rfl (by decide) rfl rfl dX13_keeps_6 ?_
  refine lv_if_eq (tgt := 13) E.1 E.2.1 dX13_keeps_9 (by decide) (fun c9 => ?_) (fun c9 => ?_)
  · have h := it c9 h
    obtain ⟨j62, hj62, h⟩ := jox2 h
    have J62 : ∀ (x_kept_62 : Nat → Int32) (x_changes_62 : Int32) (H : Heap) (locs : List Loc) (ls : Array Slot), j62 x_kept_62 x_changes_62 = some res → Wo g A s H locs (w_X13 g h0 h1 h2 h3 h4 h5 h6 h7 h8 h9 h10 h11 h12 h13 x_g x_kept_62 x_saved x_before x_was x_region x_parts x_next x_ways x_more x_whole x_isSaved x_changes_62 x_isWithin 0 x_input x_length x_fault x_failed x_signs x_signMany x_at x_told x_toldMany) → lv_has ls 3 [(0, .ref h0), (1, .ref h1)] → G_X13_keeps__g p l e s m args below meth c g A h0 h1 h2 h3 h4 h5 h6 h7 h8 h9 h10 h11 h12 h13 x_g x_saved x_before x_was x_region x_parts x_next x_ways x_more x_whole x_isSaved x_isWithin x_input x_length x_fault x_failed x_signs x_signMany x_at x_told x_toldMany res H locs 62 ls [] := by
      intro x_kept_62 x_changes_62 H locs ls h hW hl
      rw [hj62] at h
      refine lv_aload_n E.1 E.2.1 dX13_keeps_62 rfl (lv_at hl 1 rfl) ?_
      refine lv_iconst (v := 0) E.1 E.2.1 dX13_keeps_63 (by decide) ?_
      refine lv_aload_n E.1 E.2.1 dX13_keeps_64 rfl (lv_at hl 0 rfl) ?_
      refine wGet (v := .ref h2) E hK in_X13_keeps__g_X13 hW 1 lk_X13_keeps__g_13 0 rfl rfl (by decide) rfl rfl dX13_keeps_65 ?_
      refine lv_bipush (v := 60) E.1 E.2.1 dX13_keeps_68 (by decide) ?_
      refine lv_aload_n E.1 E.2.1 dX13_keeps_70 rfl (lv_at hl 0 rfl) ?_
      refine wGet (v := .int x_changes_62) E hK in_X13_keeps__g_X13 hW 12 lk_X13_keeps__g_65 0 rfl rfl (by decide) rfl rfl dX13_keeps_71 ?_
      refine lv_imul E.1 E.2.1 dX13_keeps_74 ?_
      obtain ⟨r75, hc, h⟩ := bx h
      refine goU (world' := (w_X13 g h0 h1 h2 h3 h4 h5 h6 h7 h8 h9 h10 h11 h12 h13 x_g r75 x_saved x_before x_was x_region x_parts x_next x_ways x_more x_whole x_isSaved x_changes_62 x_isWithin 0 x_input x_length x_fault x_failed x_signs x_signMany x_at x_told x_toldMany)) hW hA (is := [1, 2]) rfl (goS (rest := []) E hK hW [1, 2] rfl rfl (c_X13_copies l g h1 h2 60 480 x_g x_kept_62 0 (60 * x_changes_62) (hf := hc) H.size) (va_cwS 4 hts gX13_keeps_X13_copies rfl rfl rfl (by decide +kernel) ⟨Nat.le_of_ble_eq_true rfl, Nat.le_of_ble_eq_true rfl⟩) hl.1 rfl rfl (Nat.le_of_ble_eq_true rfl) dX13_keeps_75 ⟨Nat.zero_le _, Nat.zero_le _⟩) rfl rfl (fun H locs hW => ?_)
      refine lv_aload_n E.1 E.2.1 dX13_keeps_78 rfl (lv_at hl 0 rfl) ?_
      refine lv_dup E.1 E.2.1 dX13_keeps_79 rfl ?_
      refine wGet (v := .int x_changes_62) E hK in_X13_keeps__g_X13 hW 12 lk_X13_keeps__g_65 0 rfl rfl (by decide) rfl rfl dX13_keeps_80 ?_
      refine lv_iconst (v := 1) E.1 E.2.1 dX13_keeps_83 (by decide) ?_
      refine lv_iadd E.1 E.2.1 dX13_keeps_84 ?_
      refine wPut (world' := (w_X13 g h0 h1 h2 h3 h4 h5 h6 h7 h8 h9 h10 h11 h12 h13 x_g r75 x_saved x_before x_was x_region x_parts x_next x_ways x_more x_whole x_isSaved (x_changes_62 + 1) x_isWithin 0 x_input x_length x_fault x_failed x_signs x_signMany x_at x_told x_toldMany)) E hK in_X13_keeps__g_X13 tyX13 tyX13_ok nmX13 hW 12 lk_X13_keeps__g_65 0 rfl rfl (by decide) rfl rfl rfl rfl rfl (Nat.le_of_ble_eq_true rfl) dX13_keeps_85 rfl (fun H locs hW => ?_)
      obtain rfl := Option.some.inj h
      exact endV E hW dX13_keeps_88
    refine lv_aload_n E.1 E.2.1 dX13_keeps_13 rfl (lv_at hl 0 rfl) ?_
    refine wGet (v := .int x_changes) E hK in_X13_keeps__g_X13 hW 12 lk_X13_keeps__g_65 0 rfl rfl (by decide) rfl rfl dX13_keeps_14 ?_
    refine lv_bipush (v := 8) E.1 E.2.1 dX13_keeps_17 (by decide) ?_
    refine lv_icmp_ne (tgt := 62) E.1 E.2.1 dX13_keeps_19 (by decide) (fun c19 => ?_) (fun c19 => ?_)
    · have h := ie c19 h
      exact J62 x_kept x_changes H locs ls h hW (lv_sub hl [0, 1] rfl)
    · have h := it c19 h
      refine lv_iconst (v := 0) E.1 E.2.1 dX13_keeps_22 (by decide) ?_
      refine lv_istore_n (lv' := [(2, .int 0), (0, .ref h0), (1, .ref h1)]) E.1 E.2.1 dX13_keeps_23 rfl hl (by decide) rfl (fun ls hl => ?_)
      refine k_X13_keeps__g_24 E hK hA ?_ 1000 0 x_kept H locs ls h hW (lv_sub hl [1, 2, 0] rfl)
      · intro x_kept_52e H locs ls h hW hl
        refine lv_aload_n E.1 E.2.1 dX13_keeps_52 rfl (lv_at hl 0 rfl) ?_
        refine lv_dup E.1 E.2.1 dX13_keeps_53 rfl ?_
        refine wGet (v := .int x_changes) E hK in_X13_keeps__g_X13 hW 12 lk_X13_keeps__g_65 0 rfl rfl (by decide) rfl rfl dX13_keeps_54 ?_
        refine lv_iconst (v := 1) E.1 E.2.1 dX13_keeps_57 (by decide) ?_
        refine lv_isub E.1 E.2.1 dX13_keeps_58 ?_
        refine wPut (world' := (w_X13 g h0 h1 h2 h3 h4 h5 h6 h7 h8 h9 h10 h11 h12 h13 x_g x_kept_52e x_saved x_before x_was x_region x_parts x_next x_ways x_more x_whole x_isSaved (x_changes - 1) x_isWithin 0 x_input x_length x_fault x_failed x_signs x_signMany x_at x_told x_toldMany)) E hK in_X13_keeps__g_X13 tyX13 tyX13_ok nmX13 hW 12 lk_X13_keeps__g_65 0 rfl rfl (by decide) rfl rfl rfl rfl rfl (Nat.le_of_ble_eq_true rfl) dX13_keeps_59 rfl (fun H locs hW => ?_)
        exact J62 x_kept_52e (x_changes - 1) H locs ls h hW (lv_sub hl [0, 1] rfl)
  · have h := ie c9 h
    obtain rfl := Option.some.inj h
    exact endV E hW dX13_keeps_12
theorem c_X13_keeps__g (l : Launch) (g : GE) (h0 h1 h2 h3 h4 h5 h6 h7 h8 h9 h10 h11 h12 h13 : Nat) (x_g : Nat → Int32) (x_kept : Nat → Int32) (x_saved : Nat → Int32) (x_before : Nat → Int32) (x_was : Nat → Int32) (x_region : Nat → Int32) (x_parts : Nat → Int64) (x_next : Nat → Int64) (x_ways : Nat → Int32) (x_more : Nat → Int32) (x_whole : Int64) (x_isSaved : Int32) (x_changes : Int32) (x_isWithin : Int32) (x_code : Int32) (x_input : Nat → Int32) (x_length : Int32) (x_fault : Int32) (x_failed : Int32) (x_signs : Nat → Int32) (x_signMany : Int32) (x_at : Int32) (x_told : Nat → Int32) (x_toldMany : Int32) {res : (Nat → Int32) × Int32 × Int32} (hf : f_X13_keeps__g x_g x_kept x_changes x_isWithin x_code = some res) : CV l yX13_keeps wsX13_keeps rm_X13_keeps__g g [.ref h0, .ref h1] (w_X13 g h0 h1 h2 h3 h4 h5 h6 h7 h8 h9 h10 h11 h12 h13 x_g x_kept x_saved x_before x_was x_region x_parts x_next x_ways x_more x_whole x_isSaved x_changes x_isWithin x_code x_input x_length x_fault x_failed x_signs x_signMany x_at x_told x_toldMany) (w_X13 g h0 h1 h2 h3 h4 h5 h6 h7 h8 h9 h10 h11 h12 h13 x_g res.1 x_saved x_before x_was x_region x_parts x_next x_ways x_more x_whole x_isSaved res.2.1 x_isWithin res.2.2 x_input x_length x_fault x_failed x_signs x_signMany x_at x_told x_toldMany) :=
  mkV (cc := cX13_keeps) (maxL := 3) (by decide) rfl (Nat.le_of_ble_eq_true rfl) (fun p e s m args below meth c A H locs ls E hK hA hW hl => k_X13_keeps__g_0 E hK hA hf hW hl)

/-! PaperStormModel.keeps([I)V X13_keeps__before -/
abbrev rm_X13_keeps__before : Room := { frames := 1, cells := 0, slots := 0, locals := 24 }
theorem in_X13_keeps__before_X13 : ∀ w ∈ wsX130, w ∈ wsX13_keeps := by decide +kernel
theorem lk_X13_keeps__before_13 : Cond.fieldLink RX13 13 "PaperStormModel" "kept" "[I" ∈ wsX13_keeps := by decide +kernel
theorem lk_X13_keeps__before_58 : Cond.fieldLink RX13 58 "PaperStormModel" "code" "I" ∈ wsX13_keeps := by decide +kernel
theorem lk_X13_keeps__before_61 : Cond.fieldLink RX13 61 "PaperStormModel" "isWithin" "Z" ∈ wsX13_keeps := by decide +kernel
theorem lk_X13_keeps__before_65 : Cond.fieldLink RX13 65 "PaperStormModel" "changes" "I" ∈ wsX13_keeps := by decide +kernel
noncomputable def f_X13_keeps__before_24 (z52 : (Nat → Int32) → Option ((Nat → Int32) × Int32 × Int32)) : Nat → Int32 → (Nat → Int32) → Option ((Nat → Int32) × Int32 × Int32)
  | 0, _, _ => none
  | n + 1, l2_24, x_kept_24 => if 420 ≤ l2_24 then z52 x_kept_24 else if (l2_24 + 60) < 0 ∨ 480 ≤ (l2_24 + 60).toNatClampNeg then none else if l2_24 < 0 ∨ 480 ≤ l2_24.toNatClampNeg then none else f_X13_keeps__before_24 z52 n (l2_24 + 1) (upd x_kept_24 l2_24.toNatClampNeg (x_kept_24 (l2_24 + 60).toNatClampNeg))
noncomputable def f_X13_keeps__before (x_kept : Nat → Int32) (x_before : Nat → Int32) (x_changes : Int32) (x_isWithin : Int32) (x_code : Int32) : Option ((Nat → Int32) × Int32 × Int32) :=
  if x_isWithin = 0 then jo (fun (x_kept_62 : Nat → Int32) (x_changes_62 : Int32) => (f_X13_copies x_before x_kept_62 60 480 0 (60 * x_changes_62)).bind fun r75 => some (r75, (x_changes_62 + 1), 0)) (fun j62 => if x_changes = 8 then f_X13_keeps__before_24 (fun x_kept_52e => j62 x_kept_52e (x_changes - 1)) 1000 0 x_kept else j62 x_kept x_changes) else some (x_kept, x_changes, 0)
abbrev G_X13_keeps__before (p : Program) (l : Launch) (e : Env) (s : State) (m : MethodId) (args : Array Value) (below : List Frame) (meth : Method) (c : Code) (g : GE) (A : Nat → Prop) (h0 h1 h2 h3 h4 h5 h6 h7 h8 h9 h10 h11 h12 h13 : Nat) (x_g : Nat → Int32) (x_saved : Nat → Int32) (x_before : Nat → Int32) (x_was : Nat → Int32) (x_region : Nat → Int32) (x_parts : Nat → Int64) (x_next : Nat → Int64) (x_ways : Nat → Int32) (x_more : Nat → Int32) (x_whole : Int64) (x_isSaved : Int32) (x_isWithin : Int32) (x_input : Nat → Int32) (x_length : Int32) (x_fault : Int32) (x_failed : Int32) (x_signs : Nat → Int32) (x_signMany : Int32) (x_at : Int32) (x_told : Nat → Int32) (x_toldMany : Int32) (res : (Nat → Int32) × Int32 × Int32) (H : Heap) (locs : List Loc) (pc : Nat) (ls : Array Slot) (st : List Value) : Prop := W p l e (headSpec wsX13_keeps rm_X13_keeps__before).room s m args below meth c H locs 0 0 (MQ below (PoV g A (w_X13 g h0 h1 h2 h3 h4 h5 h6 h7 h8 h9 h10 h11 h12 h13 x_g res.1 x_saved x_before x_was x_region x_parts x_next x_ways x_more x_whole x_isSaved res.2.1 x_isWithin res.2.2 x_input x_length x_fault x_failed x_signs x_signMany x_at x_told x_toldMany)) args s 0 0 A) (F0 m pc ls st)
set_option maxHeartbeats 4000000 in
set_option maxRecDepth 100000 in
theorem k_X13_keeps__before_24 {p : Program} {l : Launch} {e : Env} {s : State} {m : MethodId} {args : Array Value} {below : List Frame} {meth : Method} {c : Code} {g : GE} {A : Nat → Prop} {h0 h1 h2 h3 h4 h5 h6 h7 h8 h9 h10 h11 h12 h13 : Nat} {x_g : Nat → Int32} {x_saved : Nat → Int32} {x_before : Nat → Int32} {x_was : Nat → Int32} {x_region : Nat → Int32} {x_parts : Nat → Int64} {x_next : Nat → Int64} {x_ways : Nat → Int32} {x_more : Nat → Int32} {x_whole : Int64} {x_isSaved : Int32} {x_changes : Int32} {x_isWithin : Int32} {x_code : Int32} {x_input : Nat → Int32} {x_length : Int32} {x_fault : Int32} {x_failed : Int32} {x_signs : Nat → Int32} {x_signMany : Int32} {x_at : Int32} {x_told : Nat → Int32} {x_toldMany : Int32} {res : (Nat → Int32) × Int32 × Int32} {z52 : (Nat → Int32) → Option ((Nat → Int32) × Int32 × Int32)}
    (E : En cX13_keeps RX13 wsX13_keeps 3 none p s m args meth c) (hK : KK g s) (hA : ∀ q, s.heap.size ≤ q → A q)
    (hz52 : ∀ (x_kept_52e : Nat → Int32) (H : Heap) (locs : List Loc) (ls : Array Slot), z52 x_kept_52e = some res → Wo g A s H locs (w_X13 g h0 h1 h2 h3 h4 h5 h6 h7 h8 h9 h10 h11 h12 h13 x_g x_kept_52e x_saved x_before x_was x_region x_parts x_next x_ways x_more x_whole x_isSaved x_changes x_isWithin x_code x_input x_length x_fault x_failed x_signs x_signMany x_at x_told x_toldMany) → lv_has ls 3 [(0, .ref h0), (1, .ref h4)] → G_X13_keeps__before p l e s m args below meth c g A h0 h1 h2 h3 h4 h5 h6 h7 h8 h9 h10 h11 h12 h13 x_g x_saved x_before x_was x_region x_parts x_next x_ways x_more x_whole x_isSaved x_isWithin x_input x_length x_fault x_failed x_signs x_signMany x_at x_told x_toldMany res H locs 52 ls [])
    : ∀ (n : Nat) (l2_24 : Int32) (x_kept_24 : Nat → Int32) (H : Heap) (locs : List Loc) (ls : Array Slot), f_X13_keeps__before_24 z52 n l2_24 x_kept_24 = some res → Wo g A s H locs (w_X13 g h0 h1 h2 h3 h4 h5 h6 h7 h8 h9 h10 h11 h12 h13 x_g x_kept_24 x_saved x_before x_was x_region x_parts x_next x_ways x_more x_whole x_isSaved x_changes x_isWithin x_code x_input x_length x_fault x_failed x_signs x_signMany x_at x_told x_toldMany) → lv_has ls 3 [(0, .ref h0), (1, .ref h4), (2, .int l2_24)] → G_X13_keeps__before p l e s m args below meth c g A h0 h1 h2 h3 h4 h5 h6 h7 h8 h9 h10 h11 h12 h13 x_g x_saved x_before x_was x_region x_parts x_next x_ways x_more x_whole x_isSaved x_isWithin x_input x_length x_fault x_failed x_signs x_signMany x_at x_told x_toldMany res H locs 24 ls [] := by
  have hts := E.2.2.2.1
  intro n
  induction n with
  | zero => intro l2_24 x_kept_24 H locs ls h hW hl; rw [f_X13_keeps__before_24] at h; cases h
  | succ n ih =>
    intro l2_24 x_kept_24 H locs ls h hW hl
    rw [f_X13_keeps__before_24] at h
    refine lv_iload_n E.1 E.2.1 dX13_keeps_24 rfl (lv_at hl 2 rfl) ?_
    refine lv_sipush (v := 420) E.1 E.2.1 dX13_keeps_25 (by decide) ?_
    refine lv_icmp_ge (tgt := 52) E.1 E.2.1 dX13_keeps_28 (by decide) (fun c28 => ?_) (fun c28 => ?_)
    · have h := it c28 h
      exact hz52 x_kept_24 H locs ls h hW (lv_sub hl [0, 1] rfl)
    · have h := ie c28 h
      refine lv_aload_n E.1 E.2.1 dX13_keeps_31 rfl (lv_at hl 0 rfl) ?_
      refine wGet (v := .ref h2) E hK in_X13_keeps__before_X13 hW 1 lk_X13_keeps__before_13 0 rfl rfl (by decide) rfl rfl dX13_keeps_32 ?_
      refine lv_iload_n E.1 E.2.1 dX13_keeps_35 rfl (lv_at hl 2 rfl) ?_
      refine lv_aload_n E.1 E.2.1 dX13_keeps_36 rfl (lv_at hl 0 rfl) ?_
      refine wGet (v := .ref h2) E hK in_X13_keeps__before_X13 hW 1 lk_X13_keeps__before_13 0 rfl rfl (by decide) rfl rfl dX13_keeps_37 ?_
      refine lv_iload_n E.1 E.2.1 dX13_keeps_40 rfl (lv_at hl 2 rfl) ?_
      refine lv_bipush (v := 60) E.1 E.2.1 dX13_keeps_41 (by decide) ?_
      refine lv_iadd E.1 E.2.1 dX13_keeps_43 ?_
      obtain ⟨hi44, h⟩ := ox h
      refine wIald E hK hW 2 rfl hi44 dX13_keeps_44 ?_
      obtain ⟨hi45, h⟩ := ox h
      refine wIast (world' := (w_X13 g h0 h1 h2 h3 h4 h5 h6 h7 h8 h9 h10 h11 h12 h13 x_g (upd x_kept_24 l2_24.toNatClampNeg (x_kept_24 (l2_24 + 60).toNatClampNeg)) x_saved x_before x_was x_region x_parts x_next x_ways x_more x_whole x_isSaved x_changes x_isWithin x_code x_input x_length x_fault x_failed x_signs x_signMany x_at x_told x_toldMany)) E hK hW 2 rfl hi45 dX13_keeps_45 rfl (fun H locs hW => ?_)
      refine lv_iinc (v := (l2_24 + 1)) (lv' := [(2, .int (l2_24 + 1)), (0, .ref h0), (1, .ref h4)]) E.1 E.2.1 dX13_keeps_46 hl (k := 2) rfl rfl (by decide) rfl (fun ls hl => ?_)
      refine lv_goto (tgt := 24) E.1 E.2.1 dX13_keeps_49 (by decide) ?_
      exact ih (l2_24 + 1) (upd x_kept_24 l2_24.toNatClampNeg (x_kept_24 (l2_24 + 60).toNatClampNeg)) H locs ls h hW (lv_sub hl [1, 2, 0] rfl)
set_option maxHeartbeats 4000000 in
set_option maxRecDepth 100000 in
theorem k_X13_keeps__before_0 {p : Program} {l : Launch} {e : Env} {s : State} {m : MethodId} {args : Array Value} {below : List Frame} {meth : Method} {c : Code} {g : GE} {A : Nat → Prop} {h0 h1 h2 h3 h4 h5 h6 h7 h8 h9 h10 h11 h12 h13 : Nat} {x_g : Nat → Int32} {x_kept : Nat → Int32} {x_saved : Nat → Int32} {x_before : Nat → Int32} {x_was : Nat → Int32} {x_region : Nat → Int32} {x_parts : Nat → Int64} {x_next : Nat → Int64} {x_ways : Nat → Int32} {x_more : Nat → Int32} {x_whole : Int64} {x_isSaved : Int32} {x_changes : Int32} {x_isWithin : Int32} {x_code : Int32} {x_input : Nat → Int32} {x_length : Int32} {x_fault : Int32} {x_failed : Int32} {x_signs : Nat → Int32} {x_signMany : Int32} {x_at : Int32} {x_told : Nat → Int32} {x_toldMany : Int32} {res : (Nat → Int32) × Int32 × Int32} {H : Heap} {locs : List Loc} {ls : Array Slot} 
    (E : En cX13_keeps RX13 wsX13_keeps 3 none p s m args meth c) (hK : KK g s) (hA : ∀ q, s.heap.size ≤ q → A q) (h : f_X13_keeps__before x_kept x_before x_changes x_isWithin x_code = some res) (hW : Wo g A s H locs (w_X13 g h0 h1 h2 h3 h4 h5 h6 h7 h8 h9 h10 h11 h12 h13 x_g x_kept x_saved x_before x_was x_region x_parts x_next x_ways x_more x_whole x_isSaved x_changes x_isWithin x_code x_input x_length x_fault x_failed x_signs x_signMany x_at x_told x_toldMany)) (hl : lv_has ls 3 [(0, .ref h0), (1, .ref h4)]) : G_X13_keeps__before p l e s m args below meth c g A h0 h1 h2 h3 h4 h5 h6 h7 h8 h9 h10 h11 h12 h13 x_g x_saved x_before x_was x_region x_parts x_next x_ways x_more x_whole x_isSaved x_isWithin x_input x_length x_fault x_failed x_signs x_signMany x_at x_told x_toldMany res H locs 0 ls [] := by
  have hts := E.2.2.2.1
  unfold f_X13_keeps__before at h
  refine lv_aload_n E.1 E.2.1 dX13_keeps_0 rfl (lv_at hl 0 rfl) ?_
  refine lv_iconst (v := 0) E.1 E.2.1 dX13_keeps_1 (by decide) ?_
  refine wPut (world' := (w_X13 g h0 h1 h2 h3 h4 h5 h6 h7 h8 h9 h10 h11 h12 h13 x_g x_kept x_saved x_before x_was x_region x_parts x_next x_ways x_more x_whole x_isSaved x_changes x_isWithin 0 x_input x_length x_fault x_failed x_signs x_signMany x_at x_told x_toldMany)) E hK in_X13_keeps__before_X13 tyX13 tyX13_ok nmX13 hW 14 lk_X13_keeps__before_58 0 rfl rfl (by decide) rfl rfl rfl rfl rfl (Nat.le_of_ble_eq_true rfl) dX13_keeps_2 rfl (fun H locs hW => ?_)
  refine lv_aload_n E.1 E.2.1 dX13_keeps_5 rfl (lv_at hl 0 rfl) ?_
  refine wGet (v := .int x_isWithin) E hK in_X13_keeps__before_X13 hW 13 lk_X13_keeps__before_61 0 rfl rfl (by decide) rfl rfl dX13_keeps_6 ?_
  refine lv_if_eq (tgt := 13) E.1 E.2.1 dX13_keeps_9 (by decide) (fun c9 => ?_) (fun c9 => ?_)
  · have h := it c9 h
    obtain ⟨j62, hj62, h⟩ := jox2 h
    have J62 : ∀ (x_kept_62 : Nat → Int32) (x_changes_62 : Int32) (H : Heap) (locs : List Loc) (ls : Array Slot), j62 x_kept_62 x_changes_62 = some res → Wo g A s H locs (w_X13 g h0 h1 h2 h3 h4 h5 h6 h7 h8 h9 h10 h11 h12 h13 x_g x_kept_62 x_saved x_before x_was x_region x_parts x_next x_ways x_more x_whole x_isSaved x_changes_62 x_isWithin 0 x_input x_length x_fault x_failed x_signs x_signMany x_at x_told x_toldMany) → lv_has ls 3 [(0, .ref h0), (1, .ref h4)] → G_X13_keeps__before p l e s m args below meth c g A h0 h1 h2 h3 h4 h5 h6 h7 h8 h9 h10 h11 h12 h13 x_g x_saved x_before x_was x_region x_parts x_next x_ways x_more x_whole x_isSaved x_isWithin x_input x_length x_fault x_failed x_signs x_signMany x_at x_told x_toldMany res H locs 62 ls [] := by
      intro x_kept_62 x_changes_62 H locs ls h hW hl
      rw [hj62] at h
      refine lv_aload_n E.1 E.2.1 dX13_keeps_62 rfl (lv_at hl 1 rfl) ?_
      refine lv_iconst (v := 0) E.1 E.2.1 dX13_keeps_63 (by decide) ?_
      refine lv_aload_n E.1 E.2.1 dX13_keeps_64 rfl (lv_at hl 0 rfl) ?_
      refine wGet (v := .ref h2) E hK in_X13_keeps__before_X13 hW 1 lk_X13_keeps__before_13 0 rfl rfl (by decide) rfl rfl dX13_keeps_65 ?_
      refine lv_bipush (v := 60) E.1 E.2.1 dX13_keeps_68 (by decide) ?_
      refine lv_aload_n E.1 E.2.1 dX13_keeps_70 rfl (lv_at hl 0 rfl) ?_
      refine wGet (v := .int x_changes_62) E hK in_X13_keeps__before_X13 hW 12 lk_X13_keeps__before_65 0 rfl rfl (by decide) rfl rfl dX13_keeps_71 ?_
      refine lv_imul E.1 E.2.1 dX13_keeps_74 ?_
      obtain ⟨r75, hc, h⟩ := bx h
      refine goU (world' := (w_X13 g h0 h1 h2 h3 h4 h5 h6 h7 h8 h9 h10 h11 h12 h13 x_g r75 x_saved x_before x_was x_region x_parts x_next x_ways x_more x_whole x_isSaved x_changes_62 x_isWithin 0 x_input x_length x_fault x_failed x_signs x_signMany x_at x_told x_toldMany)) hW hA (is := [4, 2]) rfl (goS (rest := []) E hK hW [4, 2] rfl rfl (c_X13_copies l g h4 h2 60 480 x_before x_kept_62 0 (60 * x_changes_62) (hf := hc) H.size) (va_cwS 4 hts gX13_keeps_X13_copies rfl rfl rfl (by decide +kernel) ⟨Nat.le_of_ble_eq_true rfl, Nat.le_of_ble_eq_true rfl⟩) hl.1 rfl rfl (Nat.le_of_ble_eq_true rfl) dX13_keeps_75 ⟨Nat.zero_le _, Nat.zero_le _⟩) rfl rfl (fun H locs hW => ?_)
      refine lv_aload_n E.1 E.2.1 dX13_keeps_78 rfl (lv_at hl 0 rfl) ?_
      refine lv_dup E.1 E.2.1 dX13_keeps_79 rfl ?_
      refine wGet (v := .int x_changes_62) E hK in_X13_keeps__before_X13 hW 12 lk_X13_keeps__before_65 0 rfl rfl (by decide) rfl rfl dX13_keeps_80 ?_
      refine lv_iconst (v := 1) E.1 E.2.1 dX13_keeps_83 (by decide) ?_
      refine lv_iadd E.1 E.2.1 dX13_keeps_84 ?_
      refine wPut (world' := (w_X13 g h0 h1 h2 h3 h4 h5 h6 h7 h8 h9 h10 h11 h12 h13 x_g r75 x_saved x_before x_was x_region x_parts x_next x_ways x_more x_whole x_isSaved (x_changes_62 + 1) x_isWithin 0 x_input x_length x_fault x_failed x_signs x_signMany x_at x_told x_toldMany)) E hK in_X13_keeps__before_X13 tyX13 tyX13_ok nmX13 hW 12 lk_X13_keeps__before_65 0 rfl rfl (by decide) rfl rfl rfl rfl rfl (Nat.le_of_ble_eq_true rfl) dX13_keeps_85 rfl (fun H locs hW => ?_)
      obtain rfl := Option.some.inj h
      exact endV E hW dX13_keeps_88
    refine lv_aload_n E.1 E.2.1 dX13_keeps_13 rfl (lv_at hl 0 rfl) ?_
    refine wGet (v := .int x_changes) E hK in_X13_keeps__before_X13 hW 12 lk_X13_keeps__before_65 0 rfl rfl (by decide) rfl rfl dX13_keeps_14 ?_
    refine lv_bipush (v := 8) E.1 E.2.1 dX13_keeps_17 (by decide) ?_
    refine lv_icmp_ne (tgt := 62) E.1 E.2.1 dX13_keeps_19 (by decide) (fun c19 => ?_) (fun c19 => ?_)
    · have h := ie c19 h
      exact J62 x_kept x_changes H locs ls h hW (lv_sub hl [0, 1] rfl)
    · have h := it c19 h
      refine lv_iconst (v := 0) E.1 E.2.1 dX13_keeps_22 (by decide) ?_
      refine lv_istore_n (lv' := [(2, .int 0), (0, .ref h0), (1, .ref h4)]) E.1 E.2.1 dX13_keeps_23 rfl hl (by decide) rfl (fun ls hl => ?_)
      refine k_X13_keeps__before_24 E hK hA ?_ 1000 0 x_kept H locs ls h hW (lv_sub hl [1, 2, 0] rfl)
      · intro x_kept_52e H locs ls h hW hl
        refine lv_aload_n E.1 E.2.1 dX13_keeps_52 rfl (lv_at hl 0 rfl) ?_
        refine lv_dup E.1 E.2.1 dX13_keeps_53 rfl ?_
        refine wGet (v := .int x_changes) E hK in_X13_keeps__before_X13 hW 12 lk_X13_keeps__before_65 0 rfl rfl (by decide) rfl rfl dX13_keeps_54 ?_
        refine lv_iconst (v := 1) E.1 E.2.1 dX13_keeps_57 (by decide) ?_
        refine lv_isub E.1 E.2.1 dX13_keeps_58 ?_
        refine wPut (world' := (w_X13 g h0 h1 h2 h3 h4 h5 h6 h7 h8 h9 h10 h11 h12 h13 x_g x_kept_52e x_saved x_before x_was x_region x_parts x_next x_ways x_more x_whole x_isSaved (x_changes - 1) x_isWithin 0 x_input x_length x_fault x_failed x_signs x_signMany x_at x_told x_toldMany)) E hK in_X13_keeps__before_X13 tyX13 tyX13_ok nmX13 hW 12 lk_X13_keeps__before_65 0 rfl rfl (by decide) rfl rfl rfl rfl rfl (Nat.le_of_ble_eq_true rfl) dX13_keeps_59 rfl (fun H locs hW => ?_)
        exact J62 x_kept_52e (x_changes - 1) H locs ls h hW (lv_sub hl [0, 1] rfl)
  · have h := ie c9 h
    obtain rfl := Option.some.inj h
    exact endV E hW dX13_keeps_12
theorem c_X13_keeps__before (l : Launch) (g : GE) (h0 h1 h2 h3 h4 h5 h6 h7 h8 h9 h10 h11 h12 h13 : Nat) (x_g : Nat → Int32) (x_kept : Nat → Int32) (x_saved : Nat → Int32) (x_before : Nat → Int32) (x_was : Nat → Int32) (x_region : Nat → Int32) (x_parts : Nat → Int64) (x_next : Nat → Int64) (x_ways : Nat → Int32) (x_more : Nat → Int32) (x_whole : Int64) (x_isSaved : Int32) (x_changes : Int32) (x_isWithin : Int32) (x_code : Int32) (x_input : Nat → Int32) (x_length : Int32) (x_fault : Int32) (x_failed : Int32) (x_signs : Nat → Int32) (x_signMany : Int32) (x_at : Int32) (x_told : Nat → Int32) (x_toldMany : Int32) {res : (Nat → Int32) × Int32 × Int32} (hf : f_X13_keeps__before x_kept x_before x_changes x_isWithin x_code = some res) : CV l yX13_keeps wsX13_keeps rm_X13_keeps__before g [.ref h0, .ref h4] (w_X13 g h0 h1 h2 h3 h4 h5 h6 h7 h8 h9 h10 h11 h12 h13 x_g x_kept x_saved x_before x_was x_region x_parts x_next x_ways x_more x_whole x_isSaved x_changes x_isWithin x_code x_input x_length x_fault x_failed x_signs x_signMany x_at x_told x_toldMany) (w_X13 g h0 h1 h2 h3 h4 h5 h6 h7 h8 h9 h10 h11 h12 h13 x_g res.1 x_saved x_before x_was x_region x_parts x_next x_ways x_more x_whole x_isSaved res.2.1 x_isWithin res.2.2 x_input x_length x_fault x_failed x_signs x_signMany x_at x_told x_toldMany) :=
  mkV (cc := cX13_keeps) (maxL := 3) (by decide) rfl (Nat.le_of_ble_eq_true rfl) (fun p e s m args below meth c A H locs ls E hK hA hW hl => k_X13_keeps__before_0 E hK hA hf hW hl)

/-! PaperStormModel.isCell(II)Z X13_isCell -/
abbrev rm_X13_isCell : Room := { frames := 1, cells := 0, slots := 0, locals := 22 }
noncomputable def f_X13_isCell (a0 : Int32) (a1 : Int32) : Option (Int32) :=
  jo (fun (s0_23 : Int32) => if ¬ vp_nar .boolean s0_23 = s0_23 then none else some (s0_23)) (fun j23 => jo (j23 0) (fun j22 => (f_X13_in a0 0 4).bind fun r3 => if r3 = 0 then j22 else (f_X13_in a1 0 4).bind fun r12 => if r12 = 0 then j22 else j23 1))
abbrev G_X13_isCell (p : Program) (l : Launch) (e : Env) (s : State) (m : MethodId) (args : Array Value) (below : List Frame) (meth : Method) (c : Code) (g : GE) (A : Nat → Prop) (res : Int32) (H : Heap) (locs : List Loc) (pc : Nat) (ls : Array Slot) (st : List Value) : Prop := W p l e (headSpec wsX13_isCell rm_X13_isCell).room s m args below meth c H locs 0 0 (MQ below (PoI g A ([] : va_W) res) args s 0 0 A) (F0 m pc ls st)
set_option maxHeartbeats 4000000 in
set_option maxRecDepth 100000 in
theorem k_X13_isCell_0 {p : Program} {l : Launch} {e : Env} {s : State} {m : MethodId} {args : Array Value} {below : List Frame} {meth : Method} {c : Code} {g : GE} {A : Nat → Prop} {res : Int32} {H : Heap} {locs : List Loc} {ls : Array Slot} {a0 : Int32} {a1 : Int32}
    (E : En cX13_isCell RX13 wsX13_isCell 2 (some .boolean) p s m args meth c) (hK : KK g s) (hA : ∀ q, s.heap.size ≤ q → A q) (h : f_X13_isCell a0 a1 = some res) (hW : Wo g A s H locs ([] : va_W)) (hl : lv_has ls 2 [(0, .int a0), (1, .int a1)]) : G_X13_isCell p l e s m args below meth c g A res H locs 0 ls [] := by
  have hts := E.2.2.2.1
  unfold f_X13_isCell at h
  obtain ⟨j23, hj23, h⟩ := jox1 h
  have J23 : ∀ (s0_23 : Int32) (H : Heap) (locs : List Loc) (ls : Array Slot), j23 s0_23 = some res → Wo g A s H locs ([] : va_W) → lv_has ls 2 [] → G_X13_isCell p l e s m args below meth c g A res H locs 23 ls [.int s0_23] := by
    intro s0_23 H locs ls h hW hl
    rw [hj23] at h
    obtain ⟨hz, h⟩ := ox h
    obtain rfl := Option.some.inj h
    exact endI E (nar_z (Decidable.not_not.mp hz)) hW dX13_isCell_23
  obtain ⟨j22, hj22, h⟩ := jox0 h
  have J22 : ∀ (H : Heap) (locs : List Loc) (ls : Array Slot), j22 = some res → Wo g A s H locs ([] : va_W) → lv_has ls 2 [] → G_X13_isCell p l e s m args below meth c g A res H locs 22 ls [] := by
    intro H locs ls h hW hl
    rw [hj22] at h
    refine lv_iconst (v := 0) E.1 E.2.1 dX13_isCell_22 (by decide) ?_
    exact J23 0 H locs ls h hW (lv_sub hl [] rfl)
  refine lv_iload_n E.1 E.2.1 dX13_isCell_0 rfl (lv_at hl 0 rfl) ?_
  refine lv_iconst (v := 0) E.1 E.2.1 dX13_isCell_1 (by decide) ?_
  refine lv_iconst (v := 4) E.1 E.2.1 dX13_isCell_2 (by decide) ?_
  obtain ⟨r3, hc, h⟩ := bx h
  refine goI (world' := ([] : va_W)) hW hA (is := []) rfl (goS (rest := []) E hK hW [] rfl rfl (c_X13_in l g a0 0 4 (hf := hc) H.size) (va_cwS 3 hts gX13_isCell_X13_in rfl rfl rfl (by decide +kernel) ⟨Nat.le_of_ble_eq_true rfl, Nat.le_of_ble_eq_true rfl⟩) hl.1 rfl rfl (Nat.le_of_ble_eq_true rfl) dX13_isCell_3 ⟨Nat.zero_le _, Nat.zero_le _⟩) rfl rfl (fun H locs hW => ?_)
  refine lv_if_eq (tgt := 22) E.1 E.2.1 dX13_isCell_6 (by decide) (fun c6 => ?_) (fun c6 => ?_)
  · have h := it c6 h
    exact J22  H locs ls h hW (lv_sub hl [] rfl)
  · have h := ie c6 h
    refine lv_iload_n E.1 E.2.1 dX13_isCell_9 rfl (lv_at hl 1 rfl) ?_
    refine lv_iconst (v := 0) E.1 E.2.1 dX13_isCell_10 (by decide) ?_
    refine lv_iconst (v := 4) E.1 E.2.1 dX13_isCell_11 (by decide) ?_
    obtain ⟨r12, hc, h⟩ := bx h
    refine goI (world' := ([] : va_W)) hW hA (is := []) rfl (goS (rest := []) E hK hW [] rfl rfl (c_X13_in l g a1 0 4 (hf := hc) H.size) (va_cwS 3 hts gX13_isCell_X13_in rfl rfl rfl (by decide +kernel) ⟨Nat.le_of_ble_eq_true rfl, Nat.le_of_ble_eq_true rfl⟩) hl.1 rfl rfl (Nat.le_of_ble_eq_true rfl) dX13_isCell_12 ⟨Nat.zero_le _, Nat.zero_le _⟩) rfl rfl (fun H locs hW => ?_)
    refine lv_if_eq (tgt := 22) E.1 E.2.1 dX13_isCell_15 (by decide) (fun c15 => ?_) (fun c15 => ?_)
    · have h := it c15 h
      exact J22  H locs ls h hW (lv_sub hl [] rfl)
    · have h := ie c15 h
      refine lv_iconst (v := 1) E.1 E.2.1 dX13_isCell_18 (by decide) ?_
      refine lv_goto (tgt := 23) E.1 E.2.1 dX13_isCell_19 (by decide) ?_
      exact J23 1 H locs ls h hW (lv_sub hl [] rfl)
theorem c_X13_isCell (l : Launch) (g : GE) (a0 : Int32) (a1 : Int32) {res : Int32} (hf : f_X13_isCell a0 a1 = some res) : CI l yX13_isCell wsX13_isCell rm_X13_isCell g [.int a0, .int a1] ([] : va_W) ([] : va_W) res :=
  mkI (cc := cX13_isCell) (maxL := 2) (by decide) rfl (Nat.le_of_ble_eq_true rfl) (fun p e s m args below meth c A H locs ls E hK hA hW hl => k_X13_isCell_0 E hK hA hf hW hl)

/-! PaperStormModel.setPressure(III)I X13_setPressure -/
abbrev rm_X13_setPressure : Room := { frames := 2, cells := 0, slots := 0, locals := 46 }
theorem in_X13_setPressure_X13 : ∀ w ∈ wsX130, w ∈ wsX13_setPressure := by decide +kernel
theorem lk_X13_setPressure_7 : Cond.fieldLink RX13 7 "PaperStormModel" "g" "[I" ∈ wsX13_setPressure := by decide +kernel
noncomputable def f_X13_setPressure (x_g : Nat → Int32) (x_kept : Nat → Int32) (x_changes : Int32) (x_isWithin : Int32) (x_code : Int32) (a1 : Int32) (a2 : Int32) (a3 : Int32) : Option (Int32 × (Nat → Int32) × (Nat → Int32) × Int32 × Int32) :=
  jo (fun (s1_28 : Int32) => (f_X13_fails x_code s1_28).bind fun r28 => if r28.1 = 0 then if ((7 + (5 * a1)) + a2) < 0 ∨ 60 ≤ ((7 + (5 * a1)) + a2).toNatClampNeg then none else (f_X13_keeps__g x_g x_kept x_changes x_isWithin r28.2).bind fun r60 => some ((x_g ((7 + (5 * a1)) + a2).toNatClampNeg), (upd x_g ((7 + (5 * a1)) + a2).toNatClampNeg a3), r60.1, r60.2.1, r60.2.2) else some (0, x_g, x_kept, x_changes, r28.2)) (fun j28 => (f_X13_isCell a1 a2).bind fun r3 => if r3 = 0 then j28 1 else (f_X13_in a3 0 99).bind fun r17 => if r17 = 0 then j28 2 else j28 0)
abbrev G_X13_setPressure (p : Program) (l : Launch) (e : Env) (s : State) (m : MethodId) (args : Array Value) (below : List Frame) (meth : Method) (c : Code) (g : GE) (A : Nat → Prop) (h0 h1 h2 h3 h4 h5 h6 h7 h8 h9 h10 h11 h12 h13 : Nat) (x_saved : Nat → Int32) (x_before : Nat → Int32) (x_was : Nat → Int32) (x_region : Nat → Int32) (x_parts : Nat → Int64) (x_next : Nat → Int64) (x_ways : Nat → Int32) (x_more : Nat → Int32) (x_whole : Int64) (x_isSaved : Int32) (x_isWithin : Int32) (x_input : Nat → Int32) (x_length : Int32) (x_fault : Int32) (x_failed : Int32) (x_signs : Nat → Int32) (x_signMany : Int32) (x_at : Int32) (x_told : Nat → Int32) (x_toldMany : Int32) (res : Int32 × (Nat → Int32) × (Nat → Int32) × Int32 × Int32) (H : Heap) (locs : List Loc) (pc : Nat) (ls : Array Slot) (st : List Value) : Prop := W p l e (headSpec wsX13_setPressure rm_X13_setPressure).room s m args below meth c H locs 0 0 (MQ below (PoI g A (w_X13 g h0 h1 h2 h3 h4 h5 h6 h7 h8 h9 h10 h11 h12 h13 res.2.1 res.2.2.1 x_saved x_before x_was x_region x_parts x_next x_ways x_more x_whole x_isSaved res.2.2.2.1 x_isWithin res.2.2.2.2 x_input x_length x_fault x_failed x_signs x_signMany x_at x_told x_toldMany) res.1) args s 0 0 A) (F0 m pc ls st)
set_option maxHeartbeats 4000000 in
set_option maxRecDepth 100000 in
theorem k_X13_setPressure_0 {p : Program} {l : Launch} {e : Env} {s : State} {m : MethodId} {args : Array Value} {below : List Frame} {meth : Method} {c : Code} {g : GE} {A : Nat → Prop} {h0 h1 h2 h3 h4 h5 h6 h7 h8 h9 h10 h11 h12 h13 : Nat} {x_g : Nat → Int32} {x_kept : Nat → Int32} {x_saved : Nat → Int32} {x_before : Nat → Int32} {x_was : Nat → Int32} {x_region : Nat → Int32} {x_parts : Nat → Int64} {x_next : Nat → Int64} {x_ways : Nat → Int32} {x_more : Nat → Int32} {x_whole : Int64} {x_isSaved : Int32} {x_changes : Int32} {x_isWithin : Int32} {x_code : Int32} {x_input : Nat → Int32} {x_length : Int32} {x_fault : Int32} {x_failed : Int32} {x_signs : Nat → Int32} {x_signMany : Int32} {x_at : Int32} {x_told : Nat → Int32} {x_toldMany : Int32} {res : Int32 × (Nat → Int32) × (Nat → Int32) × Int32 × Int32} {H : Heap} {locs : List Loc} {ls : Array Slot} {a1 : Int32} {a2 : Int32} {a3 : Int32}
    (E : En cX13_setPressure RX13 wsX13_setPressure 6 (some .int) p s m args meth c) (hK : KK g s) (hA : ∀ q, s.heap.size ≤ q → A q) (h : f_X13_setPressure x_g x_kept x_changes x_isWithin x_code a1 a2 a3 = some res) (hW : Wo g A s H locs (w_X13 g h0 h1 h2 h3 h4 h5 h6 h7 h8 h9 h10 h11 h12 h13 x_g x_kept x_saved x_before x_was x_region x_parts x_next x_ways x_more x_whole x_isSaved x_changes x_isWithin x_code x_input x_length x_fault x_failed x_signs x_signMany x_at x_told x_toldMany)) (hl : lv_has ls 6 [(0, .ref h0), (1, .int a1), (2, .int a2), (3, .int a3)]) : G_X13_setPressure p l e s m args below meth c g A h0 h1 h2 h3 h4 h5 h6 h7 h8 h9 h10 h11 h12 h13 x_saved x_before x_was x_region x_parts x_next x_ways x_more x_whole x_isSaved x_isWithin x_input x_length x_fault x_failed x_signs x_signMany x_at x_told x_toldMany res H locs 0 ls [] := by
  have hts := E.2.2.2.1
  unfold f_X13_setPressure at h
  obtain ⟨j28, hj28, h⟩ := jox1 h
  have J28 : ∀ (s1_28 : Int32) (H : Heap) (locs : List Loc) (ls : Array Slot), j28 s1_28 = some res → Wo g A s H locs (w_X13 g h0 h1 h2 h3 h4 h5 h6 h7 h8 h9 h10 h11 h12 h13 x_g x_kept x_saved x_before x_was x_region x_parts x_next x_ways x_more x_whole x_isSaved x_changes x_isWithin x_code x_input x_length x_fault x_failed x_signs x_signMany x_at x_told x_toldMany) → lv_has ls 6 [(0, .ref h0), (1, .int a1), (2, .int a2), (3, .int a3)] → G_X13_setPressure p l e s m args below meth c g A h0 h1 h2 h3 h4 h5 h6 h7 h8 h9 h10 h11 h12 h13 x_saved x_before x_was x_region x_parts x_next x_ways x_more x_whole x_isSaved x_isWithin x_input x_length x_fault x_failed x_signs x_signMany x_at x_told x_toldMany res H locs 28 ls [.int s1_28, .ref h0] := by
    intro s1_28 H locs ls h hW hl
    rw [hj28] at h
    obtain ⟨r28, hc, h⟩ := bx h
    refine goI (world' := (w_X13 g h0 h1 h2 h3 h4 h5 h6 h7 h8 h9 h10 h11 h12 h13 x_g x_kept x_saved x_before x_was x_region x_parts x_next x_ways x_more x_whole x_isSaved x_changes x_isWithin r28.2 x_input x_length x_fault x_failed x_signs x_signMany x_at x_told x_toldMany)) hW hA (is := [0, 1, 2, 3, 4, 5, 6, 7, 8, 9, 10, 11, 12, 13]) rfl (goV (rest := []) E hK hW [0, 1, 2, 3, 4, 5, 6, 7, 8, 9, 10, 11, 12, 13] rfl rfl (c_X13_fails l g h0 h1 h2 h3 h4 h5 h6 h7 h8 h9 h10 h11 h12 h13 x_g x_kept x_saved x_before x_was x_region x_parts x_next x_ways x_more x_whole x_isSaved x_changes x_isWithin x_code x_input x_length x_fault x_failed x_signs x_signMany x_at x_told x_toldMany s1_28 (hf := hc) H.size) (cwV 1 hts gX13_setPressure_X13_fails rfl rfl rfl (by decide +kernel) ⟨Nat.le_of_ble_eq_true rfl, Nat.le_of_ble_eq_true rfl⟩) 0 rfl rfl rfl hl.1 rfl rfl (Nat.le_of_ble_eq_true rfl) dX13_setPressure_28 ⟨Nat.zero_le _, Nat.zero_le _⟩) rfl rfl (fun H locs hW => ?_)
    refine lv_if_eq (tgt := 36) E.1 E.2.1 dX13_setPressure_31 (by decide) (fun c31 => ?_) (fun c31 => ?_)
    · have h := it c31 h
      refine lv_bipush (v := 7) E.1 E.2.1 dX13_setPressure_36 (by decide) ?_
      refine lv_iconst (v := 5) E.1 E.2.1 dX13_setPressure_38 (by decide) ?_
      refine lv_iload_n E.1 E.2.1 dX13_setPressure_39 rfl (lv_at hl 1 rfl) ?_
      refine lv_imul E.1 E.2.1 dX13_setPressure_40 ?_
      refine lv_iadd E.1 E.2.1 dX13_setPressure_41 ?_
      refine lv_iload_n E.1 E.2.1 dX13_setPressure_42 rfl (lv_at hl 2 rfl) ?_
      refine lv_iadd E.1 E.2.1 dX13_setPressure_43 ?_
      refine lv_istore (lv' := [(4, .int ((7 + (5 * a1)) + a2)), (0, .ref h0), (1, .int a1), (2, .int a2), (3, .int a3)]) E.1 E.2.1 dX13_setPressure_44 hl (by decide) rfl (fun ls hl => ?_)
      refine lv_aload_n E.1 E.2.1 dX13_setPressure_46 rfl (lv_at hl 1 rfl) ?_
      refine wGet (v := .ref h1) E hK in_X13_setPressure_X13 hW 0 lk_X13_setPressure_7 0 rfl rfl (by decide) rfl rfl dX13_setPressure_47 ?_
      refine lv_iload E.1 E.2.1 dX13_setPressure_50 (lv_at hl 0 rfl) ?_
      obtain ⟨hi52, h⟩ := ox h
      refine wIald E hK hW 1 rfl hi52 dX13_setPressure_52 ?_
      refine lv_istore (lv' := [(5, .int (x_g ((7 + (5 * a1)) + a2).toNatClampNeg)), (4, .int ((7 + (5 * a1)) + a2)), (0, .ref h0), (1, .int a1), (2, .int a2), (3, .int a3)]) E.1 E.2.1 dX13_setPressure_53 hl (by decide) rfl (fun ls hl => ?_)
      refine lv_aload_n E.1 E.2.1 dX13_setPressure_55 rfl (lv_at hl 2 rfl) ?_
      refine lv_aload_n E.1 E.2.1 dX13_setPressure_56 rfl (lv_at hl 2 rfl) ?_
      refine wGet (v := .ref h1) E hK in_X13_setPressure_X13 hW 0 lk_X13_setPressure_7 0 rfl rfl (by decide) rfl rfl dX13_setPressure_57 ?_
      obtain ⟨r60, hc, h⟩ := bx h
      refine goU (world' := (w_X13 g h0 h1 h2 h3 h4 h5 h6 h7 h8 h9 h10 h11 h12 h13 x_g r60.1 x_saved x_before x_was x_region x_parts x_next x_ways x_more x_whole x_isSaved r60.2.1 x_isWithin r60.2.2 x_input x_length x_fault x_failed x_signs x_signMany x_at x_told x_toldMany)) hW hA (is := [0, 1, 2, 3, 4, 5, 6, 7, 8, 9, 10, 11, 12, 13]) rfl (goV (rest := []) E hK hW [0, 1, 2, 3, 4, 5, 6, 7, 8, 9, 10, 11, 12, 13] rfl rfl (c_X13_keeps__g l g h0 h1 h2 h3 h4 h5 h6 h7 h8 h9 h10 h11 h12 h13 x_g x_kept x_saved x_before x_was x_region x_parts x_next x_ways x_more x_whole x_isSaved x_changes x_isWithin r28.2 x_input x_length x_fault x_failed x_signs x_signMany x_at x_told x_toldMany (hf := hc) H.size) (cwV 1 hts gX13_setPressure_X13_keeps rfl rfl rfl (by decide +kernel) ⟨Nat.le_of_ble_eq_true rfl, Nat.le_of_ble_eq_true rfl⟩) 0 rfl rfl rfl hl.1 rfl rfl (Nat.le_of_ble_eq_true rfl) dX13_setPressure_60 ⟨Nat.zero_le _, Nat.zero_le _⟩) rfl rfl (fun H locs hW => ?_)
      refine lv_aload_n E.1 E.2.1 dX13_setPressure_63 rfl (lv_at hl 2 rfl) ?_
      refine wGet (v := .ref h1) E hK in_X13_setPressure_X13 hW 0 lk_X13_setPressure_7 0 rfl rfl (by decide) rfl rfl dX13_setPressure_64 ?_
      refine lv_iload E.1 E.2.1 dX13_setPressure_67 (lv_at hl 1 rfl) ?_
      refine lv_iload_n E.1 E.2.1 dX13_setPressure_69 rfl (lv_at hl 5 rfl) ?_
      refine wIast (world' := (w_X13 g h0 h1 h2 h3 h4 h5 h6 h7 h8 h9 h10 h11 h12 h13 (upd x_g ((7 + (5 * a1)) + a2).toNatClampNeg a3) r60.1 x_saved x_before x_was x_region x_parts x_next x_ways x_more x_whole x_isSaved r60.2.1 x_isWithin r60.2.2 x_input x_length x_fault x_failed x_signs x_signMany x_at x_told x_toldMany)) E hK hW 1 rfl hi52 dX13_setPressure_70 rfl (fun H locs hW => ?_)
      refine lv_iload E.1 E.2.1 dX13_setPressure_71 (lv_at hl 0 rfl) ?_
      obtain rfl := Option.some.inj h
      exact endI E rfl hW dX13_setPressure_73
    · have h := ie c31 h
      refine lv_iconst (v := 0) E.1 E.2.1 dX13_setPressure_34 (by decide) ?_
      obtain rfl := Option.some.inj h
      exact endI E rfl hW dX13_setPressure_35
  refine lv_aload_n E.1 E.2.1 dX13_setPressure_0 rfl (lv_at hl 0 rfl) ?_
  refine lv_iload_n E.1 E.2.1 dX13_setPressure_1 rfl (lv_at hl 1 rfl) ?_
  refine lv_iload_n E.1 E.2.1 dX13_setPressure_2 rfl (lv_at hl 2 rfl) ?_
  obtain ⟨r3, hc, h⟩ := bx h
  refine goI (world' := (w_X13 g h0 h1 h2 h3 h4 h5 h6 h7 h8 h9 h10 h11 h12 h13 x_g x_kept x_saved x_before x_was x_region x_parts x_next x_ways x_more x_whole x_isSaved x_changes x_isWithin x_code x_input x_length x_fault x_failed x_signs x_signMany x_at x_told x_toldMany)) hW hA (is := []) rfl (goS (rest := [.ref h0]) E hK hW [] rfl rfl (c_X13_isCell l g a1 a2 (hf := hc) H.size) (va_cwS 2 hts gX13_setPressure_X13_isCell rfl rfl rfl (by decide +kernel) ⟨Nat.le_of_ble_eq_true rfl, Nat.le_of_ble_eq_true rfl⟩) hl.1 rfl rfl (Nat.le_of_ble_eq_true rfl) dX13_setPressure_3 ⟨Nat.zero_le _, Nat.zero_le _⟩) rfl rfl (fun H locs hW => ?_)
  refine lv_if_ne (tgt := 13) E.1 E.2.1 dX13_setPressure_6 (by decide) (fun c6 => ?_) (fun c6 => ?_)
  · have h := ie c6 h
    refine lv_iload_n E.1 E.2.1 dX13_setPressure_13 rfl (lv_at hl 3 rfl) ?_
    refine lv_iconst (v := 0) E.1 E.2.1 dX13_setPressure_14 (by decide) ?_
    refine lv_bipush (v := 99) E.1 E.2.1 dX13_setPressure_15 (by decide) ?_
    obtain ⟨r17, hc, h⟩ := bx h
    refine goI (world' := (w_X13 g h0 h1 h2 h3 h4 h5 h6 h7 h8 h9 h10 h11 h12 h13 x_g x_kept x_saved x_before x_was x_region x_parts x_next x_ways x_more x_whole x_isSaved x_changes x_isWithin x_code x_input x_length x_fault x_failed x_signs x_signMany x_at x_told x_toldMany)) hW hA (is := []) rfl (goS (rest := [.ref h0]) E hK hW [] rfl rfl (c_X13_in l g a3 0 99 (hf := hc) H.size) (va_cwS 3 hts gX13_setPressure_X13_in rfl rfl rfl (by decide +kernel) ⟨Nat.le_of_ble_eq_true rfl, Nat.le_of_ble_eq_true rfl⟩) hl.1 rfl rfl (Nat.le_of_ble_eq_true rfl) dX13_setPressure_17 ⟨Nat.zero_le _, Nat.zero_le _⟩) rfl rfl (fun H locs hW => ?_)
    refine lv_if_eq (tgt := 27) E.1 E.2.1 dX13_setPressure_20 (by decide) (fun c20 => ?_) (fun c20 => ?_)
    · have h := it c20 h
      refine lv_iconst (v := 2) E.1 E.2.1 dX13_setPressure_27 (by decide) ?_
      exact J28 2 H locs ls h hW (lv_sub hl [0, 1, 2, 3] rfl)
    · have h := ie c20 h
      refine lv_iconst (v := 0) E.1 E.2.1 dX13_setPressure_23 (by decide) ?_
      refine lv_goto (tgt := 28) E.1 E.2.1 dX13_setPressure_24 (by decide) ?_
      exact J28 0 H locs ls h hW (lv_sub hl [0, 1, 2, 3] rfl)
  · have h := it c6 h
    refine lv_iconst (v := 1) E.1 E.2.1 dX13_setPressure_9 (by decide) ?_
    refine lv_goto (tgt := 28) E.1 E.2.1 dX13_setPressure_10 (by decide) ?_
    exact J28 1 H locs ls h hW (lv_sub hl [0, 1, 2, 3] rfl)
theorem c_X13_setPressure (l : Launch) (g : GE) (h0 h1 h2 h3 h4 h5 h6 h7 h8 h9 h10 h11 h12 h13 : Nat) (x_g : Nat → Int32) (x_kept : Nat → Int32) (x_saved : Nat → Int32) (x_before : Nat → Int32) (x_was : Nat → Int32) (x_region : Nat → Int32) (x_parts : Nat → Int64) (x_next : Nat → Int64) (x_ways : Nat → Int32) (x_more : Nat → Int32) (x_whole : Int64) (x_isSaved : Int32) (x_changes : Int32) (x_isWithin : Int32) (x_code : Int32) (x_input : Nat → Int32) (x_length : Int32) (x_fault : Int32) (x_failed : Int32) (x_signs : Nat → Int32) (x_signMany : Int32) (x_at : Int32) (x_told : Nat → Int32) (x_toldMany : Int32) (a1 : Int32) (a2 : Int32) (a3 : Int32) {res : Int32 × (Nat → Int32) × (Nat → Int32) × Int32 × Int32} (hf : f_X13_setPressure x_g x_kept x_changes x_isWithin x_code a1 a2 a3 = some res) : CI l yX13_setPressure wsX13_setPressure rm_X13_setPressure g [.ref h0, .int a1, .int a2, .int a3] (w_X13 g h0 h1 h2 h3 h4 h5 h6 h7 h8 h9 h10 h11 h12 h13 x_g x_kept x_saved x_before x_was x_region x_parts x_next x_ways x_more x_whole x_isSaved x_changes x_isWithin x_code x_input x_length x_fault x_failed x_signs x_signMany x_at x_told x_toldMany) (w_X13 g h0 h1 h2 h3 h4 h5 h6 h7 h8 h9 h10 h11 h12 h13 res.2.1 res.2.2.1 x_saved x_before x_was x_region x_parts x_next x_ways x_more x_whole x_isSaved res.2.2.2.1 x_isWithin res.2.2.2.2 x_input x_length x_fault x_failed x_signs x_signMany x_at x_told x_toldMany) res.1 :=
  mkI (cc := cX13_setPressure) (maxL := 6) (by decide) rfl (Nat.le_of_ble_eq_true rfl) (fun p e s m args below meth c A H locs ls E hK hA hW hl => k_X13_setPressure_0 E hK hA hf hW hl)

/-! PaperStormModel.pressureAt(II)I X13_pressureAt -/
abbrev rm_X13_pressureAt : Room := { frames := 2, cells := 0, slots := 0, locals := 43 }
theorem in_X13_pressureAt_X13 : ∀ w ∈ wsX130, w ∈ wsX13_pressureAt := by decide +kernel
theorem lk_X13_pressureAt_7 : Cond.fieldLink RX13 7 "PaperStormModel" "g" "[I" ∈ wsX13_pressureAt := by decide +kernel
noncomputable def f_X13_pressureAt (x_g : Nat → Int32) (x_code : Int32) (a1 : Int32) (a2 : Int32) : Option (Int32 × Int32) :=
  jo (fun (s1_14 : Int32) => jo (fun (x_code_37 : Int32) (s0_37 : Int32) => some (s0_37, x_code_37)) (fun j37 => (f_X13_fails x_code s1_14).bind fun r14 => if r14.1 = 0 then if ((7 + (5 * a1)) + a2) < 0 ∨ 60 ≤ ((7 + (5 * a1)) + a2).toNatClampNeg then none else j37 r14.2 (x_g ((7 + (5 * a1)) + a2).toNatClampNeg) else j37 r14.2 0)) (fun j14 => (f_X13_isCell a1 a2).bind fun r3 => if r3 = 0 then j14 1 else j14 0)
abbrev G_X13_pressureAt (p : Program) (l : Launch) (e : Env) (s : State) (m : MethodId) (args : Array Value) (below : List Frame) (meth : Method) (c : Code) (g : GE) (A : Nat → Prop) (h0 h1 h2 h3 h4 h5 h6 h7 h8 h9 h10 h11 h12 h13 : Nat) (x_g : Nat → Int32) (x_kept : Nat → Int32) (x_saved : Nat → Int32) (x_before : Nat → Int32) (x_was : Nat → Int32) (x_region : Nat → Int32) (x_parts : Nat → Int64) (x_next : Nat → Int64) (x_ways : Nat → Int32) (x_more : Nat → Int32) (x_whole : Int64) (x_isSaved : Int32) (x_changes : Int32) (x_isWithin : Int32) (x_input : Nat → Int32) (x_length : Int32) (x_fault : Int32) (x_failed : Int32) (x_signs : Nat → Int32) (x_signMany : Int32) (x_at : Int32) (x_told : Nat → Int32) (x_toldMany : Int32) (res : Int32 × Int32) (H : Heap) (locs : List Loc) (pc : Nat) (ls : Array Slot) (st : List Value) : Prop := W p l e (headSpec wsX13_pressureAt rm_X13_pressureAt).room s m args below meth c H locs 0 0 (MQ below (PoI g A (w_X13 g h0 h1 h2 h3 h4 h5 h6 h7 h8 h9 h10 h11 h12 h13 x_g x_kept x_saved x_before x_was x_region x_parts x_next x_ways x_more x_whole x_isSaved x_changes x_isWithin res.2 x_input x_length x_fault x_failed x_signs x_signMany x_at x_told x_toldMany) res.1) args s 0 0 A) (F0 m pc ls st)
set_option maxHeartbeats 4000000 in
set_option maxRecDepth 100000 in
theorem k_X13_pressureAt_0 {p : Program} {l : Launch} {e : Env} {s : State} {m : MethodId} {args : Array Value} {below : List Frame} {meth : Method} {c : Code} {g : GE} {A : Nat → Prop} {h0 h1 h2 h3 h4 h5 h6 h7 h8 h9 h10 h11 h12 h13 : Nat} {x_g : Nat → Int32} {x_kept : Nat → Int32} {x_saved : Nat → Int32} {x_before : Nat → Int32} {x_was : Nat → Int32} {x_region : Nat → Int32} {x_parts : Nat → Int64} {x_next : Nat → Int64} {x_ways : Nat → Int32} {x_more : Nat → Int32} {x_whole : Int64} {x_isSaved : Int32} {x_changes : Int32} {x_isWithin : Int32} {x_code : Int32} {x_input : Nat → Int32} {x_length : Int32} {x_fault : Int32} {x_failed : Int32} {x_signs : Nat → Int32} {x_signMany : Int32} {x_at : Int32} {x_told : Nat → Int32} {x_toldMany : Int32} {res : Int32 × Int32} {H : Heap} {locs : List Loc} {ls : Array Slot} {a1 : Int32} {a2 : Int32}
    (E : En cX13_pressureAt RX13 wsX13_pressureAt 3 (some .int) p s m args meth c) (hK : KK g s) (hA : ∀ q, s.heap.size ≤ q → A q) (h : f_X13_pressureAt x_g x_code a1 a2 = some res) (hW : Wo g A s H locs (w_X13 g h0 h1 h2 h3 h4 h5 h6 h7 h8 h9 h10 h11 h12 h13 x_g x_kept x_saved x_before x_was x_region x_parts x_next x_ways x_more x_whole x_isSaved x_changes x_isWithin x_code x_input x_length x_fault x_failed x_signs x_signMany x_at x_told x_toldMany)) (hl : lv_has ls 3 [(0, .ref h0), (1, .int a1), (2, .int a2)]) : G_X13_pressureAt p l e s m args below meth c g A h0 h1 h2 h3 h4 h5 h6 h7 h8 h9 h10 h11 h12 h13 x_g x_kept x_saved x_before x_was x_region x_parts x_next x_ways x_more x_whole x_isSaved x_changes x_isWithin x_input x_length x_fault x_failed x_signs x_signMany x_at x_told x_toldMany res H locs 0 ls [] := by
  have hts := E.2.2.2.1
  unfold f_X13_pressureAt at h
  obtain ⟨j14, hj14, h⟩ := jox1 h
  have J14 : ∀ (s1_14 : Int32) (H : Heap) (locs : List Loc) (ls : Array Slot), j14 s1_14 = some res → Wo g A s H locs (w_X13 g h0 h1 h2 h3 h4 h5 h6 h7 h8 h9 h10 h11 h12 h13 x_g x_kept x_saved x_before x_was x_region x_parts x_next x_ways x_more x_whole x_isSaved x_changes x_isWithin x_code x_input x_length x_fault x_failed x_signs x_signMany x_at x_told x_toldMany) → lv_has ls 3 [(0, .ref h0), (1, .int a1), (2, .int a2)] → G_X13_pressureAt p l e s m args below meth c g A h0 h1 h2 h3 h4 h5 h6 h7 h8 h9 h10 h11 h12 h13 x_g x_kept x_saved x_before x_was x_region x_parts x_next x_ways x_more x_whole x_isSaved x_changes x_isWithin x_input x_length x_fault x_failed x_signs x_signMany x_at x_told x_toldMany res H locs 14 ls [.int s1_14, .ref h0] := by
    intro s1_14 H locs ls h hW hl
    rw [hj14] at h
    obtain ⟨j37, hj37, h⟩ := jox2 h
    have J37 : ∀ (x_code_37 : Int32) (s0_37 : Int32) (H : Heap) (locs : List Loc) (ls : Array Slot), j37 x_code_37 s0_37 = some res → Wo g A s H locs (w_X13 g h0 h1 h2 h3 h4 h5 h6 h7 h8 h9 h10 h11 h12 h13 x_g x_kept x_saved x_before x_was x_region x_parts x_next x_ways x_more x_whole x_isSaved x_changes x_isWithin x_code_37 x_input x_length x_fault x_failed x_signs x_signMany x_at x_told x_toldMany) → lv_has ls 3 [] → G_X13_pressureAt p l e s m args below meth c g A h0 h1 h2 h3 h4 h5 h6 h7 h8 h9 h10 h11 h12 h13 x_g x_kept x_saved x_before x_was x_region x_parts x_next x_ways x_more x_whole x_isSaved x_changes x_isWithin x_input x_length x_fault x_failed x_signs x_signMany x_at x_told x_toldMany res H locs 37 ls [.int s0_37] := by
      intro x_code_37 s0_37 H locs ls h hW hl
      rw [hj37] at h
      obtain rfl := Option.some.inj h
      exact endI E rfl hW dX13_pressureAt_37
    obtain ⟨r14, hc, h⟩ := bx h
    refine goI (world' := (w_X13 g h0 h1 h2 h3 h4 h5 h6 h7 h8 h9 h10 h11 h12 h13 x_g x_kept x_saved x_before x_was x_region x_parts x_next x_ways x_more x_whole x_isSaved x_changes x_isWithin r14.2 x_input x_length x_fault x_failed x_signs x_signMany x_at x_told x_toldMany)) hW hA (is := [0, 1, 2, 3, 4, 5, 6, 7, 8, 9, 10, 11, 12, 13]) rfl (goV (rest := []) E hK hW [0, 1, 2, 3, 4, 5, 6, 7, 8, 9, 10, 11, 12, 13] rfl rfl (c_X13_fails l g h0 h1 h2 h3 h4 h5 h6 h7 h8 h9 h10 h11 h12 h13 x_g x_kept x_saved x_before x_was x_region x_parts x_next x_ways x_more x_whole x_isSaved x_changes x_isWithin x_code x_input x_length x_fault x_failed x_signs x_signMany x_at x_told x_toldMany s1_14 (hf := hc) H.size) (cwV 1 hts gX13_pressureAt_X13_fails rfl rfl rfl (by decide +kernel) ⟨Nat.le_of_ble_eq_true rfl, Nat.le_of_ble_eq_true rfl⟩) 0 rfl rfl rfl hl.1 rfl rfl (Nat.le_of_ble_eq_true rfl) dX13_pressureAt_14 ⟨Nat.zero_le _, Nat.zero_le _⟩) rfl rfl (fun H locs hW => ?_)
    refine lv_if_eq (tgt := 24) E.1 E.2.1 dX13_pressureAt_17 (by decide) (fun c17 => ?_) (fun c17 => ?_)
    · have h := it c17 h
      refine lv_aload_n E.1 E.2.1 dX13_pressureAt_24 rfl (lv_at hl 0 rfl) ?_
      refine wGet (v := .ref h1) E hK in_X13_pressureAt_X13 hW 0 lk_X13_pressureAt_7 0 rfl rfl (by decide) rfl rfl dX13_pressureAt_25 ?_
      refine lv_bipush (v := 7) E.1 E.2.1 dX13_pressureAt_28 (by decide) ?_
      refine lv_iconst (v := 5) E.1 E.2.1 dX13_pressureAt_30 (by decide) ?_
      refine lv_iload_n E.1 E.2.1 dX13_pressureAt_31 rfl (lv_at hl 1 rfl) ?_
      refine lv_imul E.1 E.2.1 dX13_pressureAt_32 ?_
      refine lv_iadd E.1 E.2.1 dX13_pressureAt_33 ?_
      refine lv_iload_n E.1 E.2.1 dX13_pressureAt_34 rfl (lv_at hl 2 rfl) ?_
      refine lv_iadd E.1 E.2.1 dX13_pressureAt_35 ?_
      obtain ⟨hi36, h⟩ := ox h
      refine wIald E hK hW 1 rfl hi36 dX13_pressureAt_36 ?_
      exact J37 r14.2 (x_g ((7 + (5 * a1)) + a2).toNatClampNeg) H locs ls h hW (lv_sub hl [] rfl)
    · have h := ie c17 h
      refine lv_iconst (v := 0) E.1 E.2.1 dX13_pressureAt_20 (by decide) ?_
      refine lv_goto (tgt := 37) E.1 E.2.1 dX13_pressureAt_21 (by decide) ?_
      exact J37 r14.2 0 H locs ls h hW (lv_sub hl [] rfl)
  refine lv_aload_n E.1 E.2.1 dX13_pressureAt_0 rfl (lv_at hl 0 rfl) ?_
  refine lv_iload_n E.1 E.2.1 dX13_pressureAt_1 rfl (lv_at hl 1 rfl) ?_
  refine lv_iload_n E.1 E.2.1 dX13_pressureAt_2 rfl (lv_at hl 2 rfl) ?_
  obtain ⟨r3, hc, h⟩ := bx h
  refine goI (world' := (w_X13 g h0 h1 h2 h3 h4 h5 h6 h7 h8 h9 h10 h11 h12 h13 x_g x_kept x_saved x_before x_was x_region x_parts x_next x_ways x_more x_whole x_isSaved x_changes x_isWithin x_code x_input x_length x_fault x_failed x_signs x_signMany x_at x_told x_toldMany)) hW hA (is := []) rfl (goS (rest := [.ref h0]) E hK hW [] rfl rfl (c_X13_isCell l g a1 a2 (hf := hc) H.size) (va_cwS 2 hts gX13_pressureAt_X13_isCell rfl rfl rfl (by decide +kernel) ⟨Nat.le_of_ble_eq_true rfl, Nat.le_of_ble_eq_true rfl⟩) hl.1 rfl rfl (Nat.le_of_ble_eq_true rfl) dX13_pressureAt_3 ⟨Nat.zero_le _, Nat.zero_le _⟩) rfl rfl (fun H locs hW => ?_)
  refine lv_if_eq (tgt := 13) E.1 E.2.1 dX13_pressureAt_6 (by decide) (fun c6 => ?_) (fun c6 => ?_)
  · have h := it c6 h
    refine lv_iconst (v := 1) E.1 E.2.1 dX13_pressureAt_13 (by decide) ?_
    exact J14 1 H locs ls h hW (lv_sub hl [0, 1, 2] rfl)
  · have h := ie c6 h
    refine lv_iconst (v := 0) E.1 E.2.1 dX13_pressureAt_9 (by decide) ?_
    refine lv_goto (tgt := 14) E.1 E.2.1 dX13_pressureAt_10 (by decide) ?_
    exact J14 0 H locs ls h hW (lv_sub hl [0, 1, 2] rfl)
theorem c_X13_pressureAt (l : Launch) (g : GE) (h0 h1 h2 h3 h4 h5 h6 h7 h8 h9 h10 h11 h12 h13 : Nat) (x_g : Nat → Int32) (x_kept : Nat → Int32) (x_saved : Nat → Int32) (x_before : Nat → Int32) (x_was : Nat → Int32) (x_region : Nat → Int32) (x_parts : Nat → Int64) (x_next : Nat → Int64) (x_ways : Nat → Int32) (x_more : Nat → Int32) (x_whole : Int64) (x_isSaved : Int32) (x_changes : Int32) (x_isWithin : Int32) (x_code : Int32) (x_input : Nat → Int32) (x_length : Int32) (x_fault : Int32) (x_failed : Int32) (x_signs : Nat → Int32) (x_signMany : Int32) (x_at : Int32) (x_told : Nat → Int32) (x_toldMany : Int32) (a1 : Int32) (a2 : Int32) {res : Int32 × Int32} (hf : f_X13_pressureAt x_g x_code a1 a2 = some res) : CI l yX13_pressureAt wsX13_pressureAt rm_X13_pressureAt g [.ref h0, .int a1, .int a2] (w_X13 g h0 h1 h2 h3 h4 h5 h6 h7 h8 h9 h10 h11 h12 h13 x_g x_kept x_saved x_before x_was x_region x_parts x_next x_ways x_more x_whole x_isSaved x_changes x_isWithin x_code x_input x_length x_fault x_failed x_signs x_signMany x_at x_told x_toldMany) (w_X13 g h0 h1 h2 h3 h4 h5 h6 h7 h8 h9 h10 h11 h12 h13 x_g x_kept x_saved x_before x_was x_region x_parts x_next x_ways x_more x_whole x_isSaved x_changes x_isWithin res.2 x_input x_length x_fault x_failed x_signs x_signMany x_at x_told x_toldMany) res.1 :=
  mkI (cc := cX13_pressureAt) (maxL := 3) (by decide) rfl (Nat.le_of_ble_eq_true rfl) (fun p e s m args below meth c A H locs ls E hK hA hW hl => k_X13_pressureAt_0 E hK hA hf hW hl)

