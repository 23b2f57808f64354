/-! PaperStormModel.totalPressure()I X13_totalPressure -/
abbrev rm_X13_totalPressure : Room := { frames := 0, cells := 0, slots := 0, locals := 0 }
theorem in_X13_totalPressure_X13 : ∀ w ∈ wsX130, w ∈ wsX13_totalPressure := by decide +kernel
theorem lk_X13_totalPressure_58 : Cond.fieldLink RX13 58 "PaperStormModel" "code" "I" ∈ wsX13_totalPressure := by decide +kernel
theorem lk_X13_totalPressure_7 : Cond.fieldLink RX13 7 "PaperStormModel" "g" "[I" ∈ wsX13_totalPressure := by decide +kernel
noncomputable def f_X13_totalPressure_9 (x_g : Nat → Int32) (z33 : Int32 → Option (Int32 × Int32)) : Nat → Int32 → Int32 → Option (Int32 × Int32)
  | 0, _, _ => none
  | n + 1, l1_9, l2_9 => if 25 ≤ l2_9 then z33 l1_9 else if (7 + l2_9) < 0 ∨ 60 ≤ (7 + l2_9).toNatClampNeg then none else f_X13_totalPressure_9 x_g z33 n (l1_9 + (x_g (7 + l2_9).toNatClampNeg)) (l2_9 + 1)
noncomputable def f_X13_totalPressure (x_g : Nat → Int32) (x_code : Int32) : Option (Int32 × Int32) :=
  f_X13_totalPressure_9 x_g (fun l1_33e => some (l1_33e, 0)) 1000 0 0
abbrev G_X13_totalPressure (p : Program) (l : Launch) (e : Env) (s : State) (m : MethodId) (args : Array Value) (below : List Frame) (meth : Method) (c : Code) (g : GE) (A : Nat → Prop) (h0 h1 h2 h3 h4 h5 h6 h7 h8 h9 h10 h11 h12 h13 : Nat) (x_g : Nat → Int32) (x_kept : Nat → Int32) (x_saved : Nat → Int32) (x_before : Nat → Int32) (x_was : Nat → Int32) (x_region : Nat → Int32) (x_parts : Nat → Int64) (x_next : Nat → Int64) (x_ways : Nat → Int32) (x_more : Nat → Int32) (x_whole : Int64) (x_isSaved : Int32) (x_changes : Int32) (x_isWithin : Int32) (x_input : Nat → Int32) (x_length : Int32) (x_fault : Int32) (x_failed : Int32) (x_signs : Nat → Int32) (x_signMany : Int32) (x_at : Int32) (x_told : Nat → Int32) (x_toldMany : Int32) (res : Int32 × Int32) (H : Heap) (locs : List Loc) (pc : Nat) (ls : Array Slot) (st : List Value) : Prop := W p l e (headSpec wsX13_totalPressure rm_X13_totalPressure).room s m args below meth c H locs 0 0 (MQ below (PoI g A (w_X13 g h0 h1 h2 h3 h4 h5 h6 h7 h8 h9 h10 h11 h12 h13 x_g x_kept x_saved x_before x_was x_region x_parts x_next x_ways x_more x_whole x_isSaved x_changes x_isWithin res.2 x_input x_length x_fault x_failed x_signs x_signMany x_at x_told x_toldMany) res.1) args s 0 0 A) (F0 m pc ls st)
set_option maxHeartbeats 4000000 in
set_option maxRecDepth 100000 in
theorem k_X13_totalPressure_9 {p : Program} {l : Launch} {e : Env} {s : State} {m : MethodId} {args : Array Value} {below : List Frame} {meth : Method} {c : Code} {g : GE} {A : Nat → Prop} {h0 h1 h2 h3 h4 h5 h6 h7 h8 h9 h10 h11 h12 h13 : Nat} {x_g : Nat → Int32} {x_kept : Nat → Int32} {x_saved : Nat → Int32} {x_before : Nat → Int32} {x_was : Nat → Int32} {x_region : Nat → Int32} {x_parts : Nat → Int64} {x_next : Nat → Int64} {x_ways : Nat → Int32} {x_more : Nat → Int32} {x_whole : Int64} {x_isSaved : Int32} {x_changes : Int32} {x_isWithin : Int32} {x_code : Int32} {x_input : Nat → Int32} {x_length : Int32} {x_fault : Int32} {x_failed : Int32} {x_signs : Nat → Int32} {x_signMany : Int32} {x_at : Int32} {x_told : Nat → Int32} {x_toldMany : Int32} {res : Int32 × Int32} {z33 : Int32 → Option (Int32 × Int32)}
    (E : En cX13_totalPressure RX13 wsX13_totalPressure 3 (some .int) p s m args meth c) (hK : KK g s) (hA : ∀ q, s.heap.size ≤ q → A q)
    (hz33 : ∀ (l1_33e : Int32) (H : Heap) (locs : List Loc) (ls : Array Slot), z33 l1_33e = some res → Wo g A s H locs (w_X13 g h0 h1 h2 h3 h4 h5 h6 h7 h8 h9 h10 h11 h12 h13 x_g x_kept x_saved x_before x_was x_region x_parts x_next x_ways x_more x_whole x_isSaved x_changes x_isWithin x_code x_input x_length x_fault x_failed x_signs x_signMany x_at x_told x_toldMany) → lv_has ls 3 [(1, .int l1_33e)] → G_X13_totalPressure p l e s m args below meth c g A h0 h1 h2 h3 h4 h5 h6 h7 h8 h9 h10 h11 h12 h13 x_g x_kept x_saved x_before x_was x_region x_parts x_next x_ways x_more x_whole x_isSaved x_changes x_isWithin x_input x_length x_fault x_failed x_signs x_signMany x_at x_told x_toldMany res H locs 33 ls [])
    : ∀ (n : Nat) (l1_9 : Int32) (l2_9 : Int32) (H : Heap) (locs : List Loc) (ls : Array Slot), f_X13_totalPressure_9 x_g z33 n l1_9 l2_9 = some res → Wo g A s H locs (w_X13 g h0 h1 h2 h3 h4 h5 h6 h7 h8 h9 h10 h11 h12 h13 x_g x_kept x_saved x_before x_was x_region x_parts x_next x_ways x_more x_whole x_isSaved x_changes x_isWithin x_code x_input x_length x_fault x_failed x_signs x_signMany x_at x_told x_toldMany) → lv_has ls 3 [(0, .ref h0), (1, .int l1_9), (2, .int l2_9)] → G_X13_totalPressure p l e s m args below meth c g A h0 h1 h2 h3 h4 h5 h6 h7 h8 h9 h10 h11 h12 h13 x_g x_kept x_saved x_before x_was x_region x_parts x_next x_ways x_more x_whole x_isSaved x_changes x_isWithin x_input x_length x_fault x_failed x_signs x_signMany x_at x_told x_toldMany res H locs 9 ls [] := by
  have hts := E.2.2.2.1
  intro n
  induction n with
  | zero => intro l1_9 l2_9 H locs ls h hW hl; rw [f_X13_totalPressure_9] at h; cases h
  | succ n ih =>
    intro l1_9 l2_9 H locs ls h hW hl
    rw [f_X13_totalPressure_9] at h
    refine lv_iload_n E.1 E.2.1 dX13_totalPressure_9 rfl (lv_at hl 2 rfl) ?_
    refine lv_bipush (v := 25) E.1 E.2.1 dX13_totalPressure_10 (by decide) ?_
    refine lv_icmp_ge (tgt := 33) E.1 E.2.1 dX13_totalPressure_12 (by decide) (fun c12 => ?_) (fun c12 => ?_)
    · have h := it c12 h
      exact hz33 l1_9 H locs ls h hW (lv_sub hl [1] rfl)
    · have h := ie c12 h
      refine lv_iload_n E.1 E.2.1 dX13_totalPressure_15 rfl (lv_at hl 1 rfl) ?_
      refine lv_aload_n E.1 E.2.1 dX13_totalPressure_16 rfl (lv_at hl 0 rfl) ?_
      refine wGet (v := .ref h1) E hK in_X13_totalPressure_X13 hW 0 lk_X13_totalPressure_7 0 rfl rfl (by decide) rfl rfl dX13_totalPressure_17 ?_
      refine lv_bipush (v := 7) E.1 E.2.1 dX13_totalPressure_20 (by decide) ?_
      refine lv_iload_n E.1 E.2.1 dX13_totalPressure_22 rfl (lv_at hl 2 rfl) ?_
      refine lv_iadd E.1 E.2.1 dX13_totalPressure_23 ?_
      obtain ⟨hi24, h⟩ := ox h
      refine wIald E hK hW 1 rfl hi24 dX13_totalPressure_24 ?_
      refine lv_iadd E.1 E.2.1 dX13_totalPressure_25 ?_
      refine lv_istore_n (lv' := [(1, .int (l1_9 + (x_g (7 + l2_9).toNatClampNeg))), (0, .ref h0), (2, .int l2_9)]) E.1 E.2.1 dX13_totalPressure_26 rfl hl (by decide) rfl (fun ls hl => ?_)
      refine lv_iinc (v := (l2_9 + 1)) (lv' := [(2, .int (l2_9 + 1)), (1, .int (l1_9 + (x_g (7 + l2_9).toNatClampNeg))), (0, .ref h0)]) E.1 E.2.1 dX13_totalPressure_27 hl (k := 2) rfl rfl (by decide) rfl (fun ls hl => ?_)
      refine lv_goto (tgt := 9) E.1 E.2.1 dX13_totalPressure_30 (by decide) ?_
      exact ih (l1_9 + (x_g (7 + l2_9).toNatClampNeg)) (l2_9 + 1) H locs ls h hW (lv_sub hl [2, 1, 0] rfl)
set_option maxHeartbeats 4000000 in
set_option maxRecDepth 100000 in
theorem k_X13_totalPressure_0 {p : Program} {l : Launch} {e : Env} {s : State} {m : MethodId} {args : Array Value} {below : List Frame} {meth : Method} {c : Code} {g : GE} {A : Nat → Prop} {h0 h1 h2 h3 h4 h5 h6 h7 h8 h9 h10 h11 h12 h13 : Nat} {x_g : Nat → Int32} {x_kept : Nat → Int32} {x_saved : Nat → Int32} {x_before : Nat → Int32} {x_was : Nat → Int32} {x_region : Nat → Int32} {x_parts : Nat → Int64} {x_next : Nat → Int64} {x_ways : Nat → Int32} {x_more : Nat → Int32} {x_whole : Int64} {x_isSaved : Int32} {x_changes : Int32} {x_isWithin : Int32} {x_code : Int32} {x_input : Nat → Int32} {x_length : Int32} {x_fault : Int32} {x_failed : Int32} {x_signs : Nat → Int32} {x_signMany : Int32} {x_at : Int32} {x_told : Nat → Int32} {x_toldMany : Int32} {res : Int32 × Int32} {H : Heap} {locs : List Loc} {ls : Array Slot} 
    (E : En cX13_totalPressure RX13 wsX13_totalPressure 3 (some .int) p s m args meth c) (hK : KK g s) (hA : ∀ q, s.heap.size ≤ q → A q) (h : f_X13_totalPressure x_g x_code = some res) (hW : Wo g A s H locs (w_X13 g h0 h1 h2 h3 h4 h5 h6 h7 h8 h9 h10 h11 h12 h13 x_g x_kept x_saved x_before x_was x_region x_parts x_next x_ways x_more x_whole x_isSaved x_changes x_isWithin x_code x_input x_length x_fault x_failed x_signs x_signMany x_at x_told x_toldMany)) (hl : lv_has ls 3 [(0, .ref h0)]) : G_X13_totalPressure p l e s m args below meth c g A h0 h1 h2 h3 h4 h5 h6 h7 h8 h9 h10 h11 h12 h13 x_g x_kept x_saved x_before x_was x_region x_parts x_next x_ways x_more x_whole x_isSaved x_changes x_isWithin x_input x_length x_fault x_failed x_signs x_signMany x_at x_told x_toldMany res H locs 0 ls [] := by
  have hts := E.2.2.2.1
  unfold f_X13_totalPressure at h
  refine lv_aload_n E.1 E.2.1 dX13_totalPressure_0 rfl (lv_at hl 0 rfl) ?_
  refine lv_iconst (v := 0) E.1 E.2.1 dX13_totalPressure_1 (by decide) ?_
  refine wPut (world' := (w_X13 g h0 h1 h2 h3 h4 h5 h6 h7 h8 h9 h10 h11 h12 h13 x_g x_kept x_saved x_before x_was x_region x_parts x_next x_ways x_more x_whole x_isSaved x_changes x_isWithin 0 x_input x_length x_fault x_failed x_signs x_signMany x_at x_told x_toldMany)) E hK in_X13_totalPressure_X13 tyX13 tyX13_ok nmX13 hW 14 lk_X13_totalPressure_58 0 rfl rfl (by decide) rfl rfl rfl rfl rfl (Nat.le_of_ble_eq_true rfl) dX13_totalPressure_2 rfl (fun H locs hW => ?_)
  refine lv_iconst (v := 0) E.1 E.2.1 dX13_totalPressure_5 (by decide) ?_
  refine lv_istore_n (lv' := [(1, .int 0), (0, .ref h0)]) E.1 E.2.1 dX13_totalPressure_6 rfl hl (by decide) rfl (fun ls hl => ?_)
  refine lv_iconst (v := 0) E.1 E.2.1 dX13_totalPressure_7 (by decide) ?_
  refine lv_istore_n (lv' := [(2, .int 0), (1, .int 0), (0, .ref h0)]) E.1 E.2.1 dX13_totalPressure_8 rfl hl (by decide) rfl (fun ls hl => ?_)
  refine k_X13_totalPressure_9 E hK hA ?_ 1000 0 0 H locs ls h hW (lv_sub hl [2, 1, 0] rfl)
  · intro l1_33e H locs ls h hW hl
    refine lv_iload_n E.1 E.2.1 dX13_totalPressure_33 rfl (lv_at hl 0 rfl) ?_
    obtain rfl := Option.some.inj h
    exact endI E rfl hW dX13_totalPressure_34
theorem c_X13_totalPressure (l : Launch) (g : GE) (h0 h1 h2 h3 h4 h5 h6 h7 h8 h9 h10 h11 h12 h13 : Nat) (x_g : Nat → Int32) (x_kept : Nat → Int32) (x_saved : Nat → Int32) (x_before : Nat → Int32) (x_was : Nat → Int32) (x_region : Nat → Int32) (x_parts : Nat → Int64) (x_next : Nat → Int64) (x_ways : Nat → Int32) (x_more : Nat → Int32) (x_whole : Int64) (x_isSaved : Int32) (x_changes : Int32) (x_isWithin : Int32) (x_code : Int32) (x_input : Nat → Int32) (x_length : Int32) (x_fault : Int32) (x_failed : Int32) (x_signs : Nat → Int32) (x_signMany : Int32) (x_at : Int32) (x_told : Nat → Int32) (x_toldMany : Int32) {res : Int32 × Int32} (hf : f_X13_totalPressure x_g x_code = some res) : CI l yX13_totalPressure wsX13_totalPressure rm_X13_totalPressure g [.ref h0] (w_X13 g h0 h1 h2 h3 h4 h5 h6 h7 h8 h9 h10 h11 h12 h13 x_g x_kept x_saved x_before x_was x_region x_parts x_next x_ways x_more x_whole x_isSaved x_changes x_isWithin x_code x_input x_length x_fault x_failed x_signs x_signMany x_at x_told x_toldMany) (w_X13 g h0 h1 h2 h3 h4 h5 h6 h7 h8 h9 h10 h11 h12 h13 x_g x_kept x_saved x_before x_was x_region x_parts x_next x_ways x_more x_whole x_isSaved x_changes x_isWithin res.2 x_input x_length x_fault x_failed x_signs x_signMany x_at x_told x_toldMany) res.1 :=
  mkI (cc := cX13_totalPressure) (maxL := 3) (by decide) rfl (Nat.le_of_ble_eq_true rfl) (fun p e s m args below meth c A H locs ls E hK hA hW hl => k_X13_totalPressure_0 E hK hA hf hW hl)

/-! PaperStormModel.looks()V X13_looks -/
abbrev rm_X13_looks : Room := { frames := 0, cells := 0, slots := 0, locals := 0 }
theorem in_X13_looks_X13 : ∀ w ∈ wsX130, w ∈ wsX13_looks := by decide +kernel
theorem lk_X13_looks_22 : Cond.fieldLink RX13 22 "PaperStormModel" "was" "[I" ∈ wsX13_looks := by decide +kernel
theorem lk_X13_looks_7 : Cond.fieldLink RX13 7 "PaperStormModel" "g" "[I" ∈ wsX13_looks := by decide +kernel
noncomputable def f_X13_looks_2 (x_g : Nat → Int32) (z29 : (Nat → Int32) → Option ((Nat → Int32))) : Nat → Int32 → (Nat → Int32) → Option ((Nat → Int32))
  | 0, _, _ => none
  | n + 1, l1_2, x_was_2 => if 25 ≤ l1_2 then z29 x_was_2 else if (7 + l1_2) < 0 ∨ 60 ≤ (7 + l1_2).toNatClampNeg then none else if l1_2 < 0 ∨ 25 ≤ l1_2.toNatClampNeg then none else f_X13_looks_2 x_g z29 n (l1_2 + 1) (upd x_was_2 l1_2.toNatClampNeg (x_g (7 + l1_2).toNatClampNeg))
noncomputable def f_X13_looks (x_g : Nat → Int32) (x_was : Nat → Int32) : Option ((Nat → Int32)) :=
  f_X13_looks_2 x_g (fun x_was_29e => some (x_was_29e)) 1000 0 x_was
abbrev G_X13_looks (p : Program) (l : Launch) (e : Env) (s : State) (m : MethodId) (args : Array Value) (below : List Frame) (meth : Method) (c : Code) (g : GE) (A : Nat → Prop) (h0 h1 h2 h3 h4 h5 h6 h7 h8 h9 h10 h11 h12 h13 : Nat) (x_g : Nat → Int32) (x_kept : Nat → Int32) (x_saved : Nat → Int32) (x_before : Nat → Int32) (x_region : Nat → Int32) (x_parts : Nat → Int64) (x_next : Nat → Int64) (x_ways : Nat → Int32) (x_more : Nat → Int32) (x_whole : Int64) (x_isSaved : Int32) (x_changes : Int32) (x_isWithin : Int32) (x_code : Int32) (x_input : Nat → Int32) (x_length : Int32) (x_fault : Int32) (x_failed : Int32) (x_signs : Nat → Int32) (x_signMany : Int32) (x_at : Int32) (x_told : Nat → Int32) (x_toldMany : Int32) (res : (Nat → Int32)) (H : Heap) (locs : List Loc) (pc : Nat) (ls : Array Slot) (st : List Value) : Prop := W p l e (headSpec wsX13_looks rm_X13_looks).room s m args below meth c H locs 0 0 (MQ below (PoV g A (w_X13 g h0 h1 h2 h3 h4 h5 h6 h7 h8 h9 h10 h11 h12 h13 x_g x_kept x_saved x_before res x_region x_parts x_next x_ways x_more x_whole x_isSaved x_changes x_isWithin x_code x_input x_length x_fault x_failed x_signs x_signMany x_at x_told x_toldMany)) args s 0 0 A) (F0 m pc ls st)
set_option maxHeartbeats 4000000 in
set_option maxRecDepth 100000 in
theorem k_X13_looks_2 {p : Program} {l : Launch} {e : Env} {s : State} {m : MethodId} {args : Array Value} {below : List Frame} {meth : Method} {c : Code} {g : GE} {A : Nat → Prop} {h0 h1 h2 h3 h4 h5 h6 h7 h8 h9 h10 h11 h12 h13 : Nat} {x_g : Nat → Int32} {x_kept : Nat → Int32} {x_saved : Nat → Int32} {x_before : Nat → Int32} {x_region : Nat → Int32} {x_parts : Nat → Int64} {x_next : Nat → Int64} {x_ways : Nat → Int32} {x_more : Nat → Int32} {x_whole : Int64} {x_isSaved : Int32} {x_changes : Int32} {x_isWithin : Int32} {x_code : Int32} {x_input : Nat → Int32} {x_length : Int32} {x_fault : Int32} {x_failed : Int32} {x_signs : Nat → Int32} {x_signMany : Int32} {x_at : Int32} {x_told : Nat → Int32} {x_toldMany : Int32} {res : (Nat → Int32)} {z29 : (Nat → Int32) → Option ((Nat → Int32))}
    (E : En cX13_looks RX13 wsX13_looks 2 none p s m args meth c) (hK : KK g s) (hA : ∀ q, s.heap.size ≤ q → A q)
    (hz29 : ∀ (x_was_29e : Nat → Int32) (H : Heap) (locs : List Loc) (ls : Array Slot), z29 x_was_29e = some res → Wo g A s H locs (w_X13 g h0 h1 h2 h3 h4 h5 h6 h7 h8 h9 h10 h11 h12 h13 x_g x_kept x_saved x_before x_was_29e x_region x_parts x_next x_ways x_more x_whole x_isSaved x_changes x_isWithin x_code x_input x_length x_fault x_failed x_signs x_signMany x_at x_told x_toldMany) → lv_has ls 2 [] → G_X13_looks p l e s m args below meth c g A h0 h1 h2 h3 h4 h5 h6 h7 h8 h9 h10 h11 h12 h13 x_g x_kept x_saved x_before x_region x_parts x_next x_ways x_more x_whole x_isSaved x_changes x_isWithin x_code x_input x_length x_fault x_failed x_signs x_signMany x_at x_told x_toldMany res H locs 29 ls [])
    : ∀ (n : Nat) (l1_2 : Int32) (x_was_2 : Nat → Int32) (H : Heap) (locs : List Loc) (ls : Array Slot), f_X13_looks_2 x_g z29 n l1_2 x_was_2 = some res → Wo g A s H locs (w_X13 g h0 h1 h2 h3 h4 h5 h6 h7 h8 h9 h10 h11 h12 h13 x_g x_kept x_saved x_before x_was_2 x_region x_parts x_next x_ways x_more x_whole x_isSaved x_changes x_isWithin x_code x_input x_length x_fault x_failed x_signs x_signMany x_at x_told x_toldMany) → lv_has ls 2 [(0, .ref h0), (1, .int l1_2)] → G_X13_looks p l e s m args below meth c g A h0 h1 h2 h3 h4 h5 h6 h7 h8 h9 h10 h11 h12 h13 x_g x_kept x_saved x_before x_region x_parts x_next x_ways x_more x_whole x_isSaved x_changes x_isWithin x_code x_input x_length x_fault x_failed x_signs x_signMany x_at x_told x_toldMany res H locs 2 ls [] := by
  have hts := E.2.2.2.1
  intro n
  induction n with
  | zero => intro l1_2 x_was_2 H locs ls h hW hl; rw [f_X13_looks_2] at h; cases h
  | succ n ih =>
    intro l1_2 x_was_2 H locs ls h hW hl
    rw [f_X13_looks_2] at h
    refine lv_iload_n E.1 E.2.1 dX13_looks_2 rfl (lv_at hl 1 rfl) ?_
    refine lv_bipush (v := 25) E.1 E.2.1 dX13_looks_3 (by decide) ?_
    refine lv_icmp_ge (tgt := 29) E.1 E.2.1 dX13_looks_5 (by decide) (fun c5 => ?_) (fun c5 => ?_)
    · have h := it c5 h
      exact hz29 x_was_2 H locs ls h hW (lv_sub hl [] rfl)
    · have h := ie c5 h
      refine lv_aload_n E.1 E.2.1 dX13_looks_8 rfl (lv_at hl 0 rfl) ?_
      refine wGet (v := .ref h5) E hK in_X13_looks_X13 hW 4 lk_X13_looks_22 0 rfl rfl (by decide) rfl rfl dX13_looks_9 ?_
      refine lv_iload_n E.1 E.2.1 dX13_looks_12 rfl (lv_at hl 1 rfl) ?_
      refine lv_aload_n E.1 E.2.1 dX13_looks_13 rfl (lv_at hl 0 rfl) ?_
      refine wGet (v := .ref h1) E hK in_X13_looks_X13 hW 0 lk_X13_looks_7 0 rfl rfl (by decide) rfl rfl dX13_looks_14 ?_
      refine lv_bipush (v := 7) E.1 E.2.1 dX13_looks_17 (by decide) ?_
      refine lv_iload_n E.1 E.2.1 dX13_looks_19 rfl (lv_at hl 1 rfl) ?_
      refine lv_iadd E.1 E.2.1 dX13_looks_20 ?_
      obtain ⟨hi21, h⟩ := ox h
      refine wIald E hK hW 1 rfl hi21 dX13_looks_21 ?_
      obtain ⟨hi22, h⟩ := ox h
      refine wIast (world' := (w_X13 g h0 h1 h2 h3 h4 h5 h6 h7 h8 h9 h10 h11 h12 h13 x_g x_kept x_saved x_before (upd x_was_2 l1_2.toNatClampNeg (x_g (7 + l1_2).toNatClampNeg)) x_region x_parts x_next x_ways x_more x_whole x_isSaved x_changes x_isWithin x_code x_input x_length x_fault x_failed x_signs x_signMany x_at x_told x_toldMany)) E hK hW 5 rfl hi22 dX13_looks_22 rfl (fun H locs hW => ?_)
      refine lv_iinc (v := (l1_2 + 1)) (lv' := [(1, .int (l1_2 + 1)), (0, .ref h0)]) E.1 E.2.1 dX13_looks_23 hl (k := 1) rfl rfl (by decide) rfl (fun ls hl => ?_)
      refine lv_goto (tgt := 2) E.1 E.2.1 dX13_looks_26 (by decide) ?_
      exact ih (l1_2 + 1) (upd x_was_2 l1_2.toNatClampNeg (x_g (7 + l1_2).toNatClampNeg)) H locs ls h hW (lv_sub hl [1, 0] rfl)
set_option maxHeartbeats 4000000 in
set_option maxRecDepth 100000 in
theorem k_X13_looks_0 {p : Program} {l : Launch} {e : Env} {s : State} {m : MethodId} {args : Array Value} {below : List Frame} {meth : Method} {c : Code} {g : GE} {A : Nat → Prop} {h0 h1 h2 h3 h4 h5 h6 h7 h8 h9 h10 h11 h12 h13 : Nat} {x_g : Nat → Int32} {x_kept : Nat → Int32} {x_saved : Nat → Int32} {x_before : Nat → Int32} {x_was : Nat → Int32} {x_region : Nat → Int32} {x_parts : Nat → Int64} {x_next : Nat → Int64} {x_ways : Nat → Int32} {x_more : Nat → Int32} {x_whole : Int64} {x_isSaved : Int32} {x_changes : Int32} {x_isWithin : Int32} {x_code : Int32} {x_input : Nat → Int32} {x_length : Int32} {x_fault : Int32} {x_failed : Int32} {x_signs : Nat → Int32} {x_signMany : Int32} {x_at : Int32} {x_told : Nat → Int32} {x_toldMany : Int32} {res : (Nat → Int32)} {H : Heap} {locs : List Loc} {ls : Array Slot} 
    (E : En cX13_looks RX13 wsX13_looks 2 none p s m args meth c) (hK : KK g s) (hA : ∀ q, s.heap.size ≤ q → A q) (h : f_X13_looks x_g x_was = some res) (hW : Wo g A s H locs (w_X13 g h0 h1 h2 h3 h4 h5 h6 h7 h8 h9 h10 h11 h12 h13 x_g x_kept x_saved x_before x_was x_region x_parts x_next x_ways x_more x_whole x_isSaved x_changes x_isWithin x_code x_input x_length x_fault x_failed x_signs x_signMany x_at x_told x_toldMany)) (hl : lv_has ls 2 [(0, .ref h0)]) : G_X13_looks p l e s m args below meth c g A h0 h1 h2 h3 h4 h5 h6 h7 h8 h9 h10 h11 h12 h13 x_g x_kept x_saved x_before x_region x_parts x_next x_ways x_more x_whole x_isSaved x_changes x_isWithin x_code x_input x_length x_fault x_failed x_signs x_signMany x_at x_told x_toldMany res H locs 0 ls [] := by
  have hts := E.2.2.2.1
  unfold f_X13_looks at h
  refine lv_iconst (v := 0) E.1 E.2.1 dX13_looks_0 (by decide) ?_
  refine lv_istore_n (lv' := [(1, .int 0), (0, .ref h0)]) E.1 E.2.1 dX13_looks_1 rfl hl (by decide) rfl (fun ls hl => ?_)
  refine k_X13_looks_2 E hK hA ?_ 1000 0 x_was H locs ls h hW (lv_sub hl [1, 0] rfl)
  · intro x_was_29e H locs ls h hW hl
    obtain rfl := Option.some.inj h
    exact endV E hW dX13_looks_29
theorem c_X13_looks (l : Launch) (g : GE) (h0 h1 h2 h3 h4 h5 h6 h7 h8 h9 h10 h11 h12 h13 : Nat) (x_g : Nat → Int32) (x_kept : Nat → Int32) (x_saved : Nat → Int32) (x_before : Nat → Int32) (x_was : Nat → Int32) (x_region : Nat → Int32) (x_parts : Nat → Int64) (x_next : Nat → Int64) (x_ways : Nat → Int32) (x_more : Nat → Int32) (x_whole : Int64) (x_isSaved : Int32) (x_changes : Int32) (x_isWithin : Int32) (x_code : Int32) (x_input : Nat → Int32) (x_length : Int32) (x_fault : Int32) (x_failed : Int32) (x_signs : Nat → Int32) (x_signMany : Int32) (x_at : Int32) (x_told : Nat → Int32) (x_toldMany : Int32) {res : (Nat → Int32)} (hf : f_X13_looks x_g x_was = some res) : CV l yX13_looks wsX13_looks rm_X13_looks g [.ref h0] (w_X13 g h0 h1 h2 h3 h4 h5 h6 h7 h8 h9 h10 h11 h12 h13 x_g x_kept x_saved x_before x_was x_region x_parts x_next x_ways x_more x_whole x_isSaved x_changes x_isWithin x_code x_input x_length x_fault x_failed x_signs x_signMany x_at x_told x_toldMany) (w_X13 g h0 h1 h2 h3 h4 h5 h6 h7 h8 h9 h10 h11 h12 h13 x_g x_kept x_saved x_before res x_region x_parts x_next x_ways x_more x_whole x_isSaved x_changes x_isWithin x_code x_input x_length x_fault x_failed x_signs x_signMany x_at x_told x_toldMany) :=
  mkV (cc := cX13_looks) (maxL := 2) (by decide) rfl (Nat.le_of_ble_eq_true rfl) (fun p e s m args below meth c A H locs ls E hK hA hW hl => k_X13_looks_0 E hK hA hf hW hl)

/-! PaperStormModel.others()I X13_others -/
abbrev rm_X13_others : Room := { frames := 0, cells := 0, slots := 0, locals := 0 }
theorem in_X13_others_X13 : ∀ w ∈ wsX130, w ∈ wsX13_others := by decide +kernel
theorem lk_X13_others_22 : Cond.fieldLink RX13 22 "PaperStormModel" "was" "[I" ∈ wsX13_others := by decide +kernel
theorem lk_X13_others_7 : Cond.fieldLink RX13 7 "PaperStormModel" "g" "[I" ∈ wsX13_others := by decide +kernel
noncomputable def f_X13_others_4 (x_g : Nat → Int32) (x_was : Nat → Int32) (z42 : Int32 → Option (Int32)) : Nat → Int32 → Int32 → Option (Int32)
  | 0, _, _ => none
  | n + 1, l1_4, l2_4 => if 25 ≤ l2_4 then z42 l1_4 else jo (fun (s0_34 : Int32) (s1_34 : Int32) => f_X13_others_4 x_g x_was z42 n (s0_34 + s1_34) (l2_4 + 1)) (fun j34 => if l2_4 < 0 ∨ 25 ≤ l2_4.toNatClampNeg then none else if (7 + l2_4) < 0 ∨ 60 ≤ (7 + l2_4).toNatClampNeg then none else if (x_was l2_4.toNatClampNeg) = (x_g (7 + l2_4).toNatClampNeg) then j34 l1_4 0 else j34 l1_4 1)
noncomputable def f_X13_others (x_g : Nat → Int32) (x_was : Nat → Int32) : Option (Int32) :=
  f_X13_others_4 x_g x_was (fun l1_42e => some (l1_42e)) 1000 0 0
abbrev G_X13_others (p : Program) (l : Launch) (e : Env) (s : State) (m : MethodId) (args : Array Value) (below : List Frame) (meth : Method) (c : Code) (g : GE) (A : Nat → Prop) (h0 h1 h2 h3 h4 h5 h6 h7 h8 h9 h10 h11 h12 h13 : Nat) (x_g : Nat → Int32) (x_kept : Nat → Int32) (x_saved : Nat → Int32) (x_before : Nat → Int32) (x_was : Nat → Int32) (x_region : Nat → Int32) (x_parts : Nat → Int64) (x_next : Nat → Int64) (x_ways : Nat → Int32) (x_more : Nat → Int32) (x_whole : Int64) (x_isSaved : Int32) (x_changes : Int32) (x_isWithin : Int32) (x_code : Int32) (x_input : Nat → Int32) (x_length : Int32) (x_fault : Int32) (x_failed : Int32) (x_signs : Nat → Int32) (x_signMany : Int32) (x_at : Int32) (x_told : Nat → Int32) (x_toldMany : Int32) (res : Int32) (H : Heap) (locs : List Loc) (pc : Nat) (ls : Array Slot) (st : List Value) : Prop := W p l e (headSpec wsX13_others rm_X13_others).room s m args below meth c H locs 0 0 (MQ below (PoI g A (w_X13 g h0 h1 h2 h3 h4 h5 h6 h7 h8 h9 h10 h11 h12 h13 x_g x_kept x_saved x_before x_was x_region x_parts x_next x_ways x_more x_whole x_isSaved x_changes x_isWithin x_code x_input x_length x_fault x_failed x_signs x_signMany x_at x_told x_toldMany) res) args s 0 0 A) (F0 m pc ls st)
set_option maxHeartbeats 4000000 in
set_option maxRecDepth 100000 in
theorem k_X13_others_4 {p : Program} {l : Launch} {e : Env} {s : State} {m : MethodId} {args : Array Value} {below : List Frame} {meth : Method} {c : Code} {g : GE} {A : Nat → Prop} {h0 h1 h2 h3 h4 h5 h6 h7 h8 h9 h10 h11 h12 h13 : Nat} {x_g : Nat → Int32} {x_kept : Nat → Int32} {x_saved : Nat → Int32} {x_before : Nat → Int32} {x_was : Nat → Int32} {x_region : Nat → Int32} {x_parts : Nat → Int64} {x_next : Nat → Int64} {x_ways : Nat → Int32} {x_more : Nat → Int32} {x_whole : Int64} {x_isSaved : Int32} {x_changes : Int32} {x_isWithin : Int32} {x_code : Int32} {x_input : Nat → Int32} {x_length : Int32} {x_fault : Int32} {x_failed : Int32} {x_signs : Nat → Int32} {x_signMany : Int32} {x_at : Int32} {x_told : Nat → Int32} {x_toldMany : Int32} {res : Int32} {z42 : Int32 → Option (Int32)}
    (E : En cX13_others RX13 wsX13_others 3 (some .int) p s m args meth c) (hK : KK g s) (hA : ∀ q, s.heap.size ≤ q → A q)
    (hz42 : ∀ (l1_42e : Int32) (H : Heap) (locs : List Loc) (ls : Array Slot), z42 l1_42e = some res → Wo g A s H locs (w_X13 g h0 h1 h2 h3 h4 h5 h6 h7 h8 h9 h10 h11 h12 h13 x_g x_kept x_saved x_before x_was x_region x_parts x_next x_ways x_more x_whole x_isSaved x_changes x_isWithin x_code x_input x_length x_fault x_failed x_signs x_signMany x_at x_told x_toldMany) → lv_has ls 3 [(1, .int l1_42e)] → G_X13_others p l e s m args below meth c g A h0 h1 h2 h3 h4 h5 h6 h7 h8 h9 h10 h11 h12 h13 x_g x_kept x_saved x_before x_was x_region x_parts x_next x_ways x_more x_whole x_isSaved x_changes x_isWithin x_code x_input x_length x_fault x_failed x_signs x_signMany x_at x_told x_toldMany res H locs 42 ls [])
    : ∀ (n : Nat) (l1_4 : Int32) (l2_4 : Int32) (H : Heap) (locs : List Loc) (ls : Array Slot), f_X13_others_4 x_g x_was z42 n l1_4 l2_4 = some res → Wo g A s H locs (w_X13 g h0 h1 h2 h3 h4 h5 h6 h7 h8 h9 h10 h11 h12 h13 x_g x_kept x_saved x_before x_was x_region x_parts x_next x_ways x_more x_whole x_isSaved x_changes x_isWithin x_code x_input x_length x_fault x_failed x_signs x_signMany x_at x_told x_toldMany) → lv_has ls 3 [(0, .ref h0), (1, .int l1_4), (2, .int l2_4)] → G_X13_others p l e s m args below meth c g A h0 h1 h2 h3 h4 h5 h6 h7 h8 h9 h10 h11 h12 h13 x_g x_kept x_saved x_before x_was x_region x_parts x_next x_ways x_more x_whole x_isSaved x_changes x_isWithin x_code x_input x_length x_fault x_failed x_signs x_signMany x_at x_told x_toldMany res H locs 4 ls [] := by
  have hts := E.2.2.2.1
  intro n
  induction n with
  | zero => intro l1_4 l2_4 H locs ls h hW hl; rw [f_X13_others_4] at h; cases h
  | succ n ih =>
    intro l1_4 l2_4 H locs ls h hW hl
    rw [f_X13_others_4] at h
    refine lv_iload_n E.1 E.2.1 dX13_others_4 rfl (lv_at hl 2 rfl) ?_
    refine lv_bipush (v := 25) E.1 E.2.1 dX13_others_5 (by decide) ?_
    refine lv_icmp_ge (tgt := 42) E.1 E.2.1 dX13_others_7 (by decide) (fun c7 => ?_) (fun c7 => ?_)
    · have h := it c7 h
      exact hz42 l1_4 H locs ls h hW (lv_sub hl [1] rfl)
    · have h := ie c7 h
      obtain ⟨j34, hj34, h⟩ := jox2 h
      have J34 : ∀ (s0_34 : Int32) (s1_34 : Int32) (H : Heap) (locs : List Loc) (ls : Array Slot), j34 s0_34 s1_34 = some res → Wo g A s H locs (w_X13 g h0 h1 h2 h3 h4 h5 h6 h7 h8 h9 h10 h11 h12 h13 x_g x_kept x_saved x_before x_was x_region x_parts x_next x_ways x_more x_whole x_isSaved x_changes x_isWithin x_code x_input x_length x_fault x_failed x_signs x_signMany x_at x_told x_toldMany) → lv_has ls 3 [(0, .ref h0), (2, .int l2_4)] → G_X13_others p l e s m args below meth c g A h0 h1 h2 h3 h4 h5 h6 h7 h8 h9 h10 h11 h12 h13 x_g x_kept x_saved x_before x_was x_region x_parts x_next x_ways x_more x_whole x_isSaved x_changes x_isWithin x_code x_input x_length x_fault x_failed x_signs x_signMany x_at x_told x_toldMany res H locs 34 ls [.int s1_34, .int s0_34] := by
        intro s0_34 s1_34 H locs ls h hW hl
        rw [hj34] at h
        refine lv_iadd E.1 E.2.1 dX13_others_34 ?_
        refine lv_istore_n (lv' := [(1, .int (s0_34 + s1_34)), (0, .ref h0), (2, .int l2_4)]) E.1 E.2.1 dX13_others_35 rfl hl (by decide) rfl (fun ls hl => ?_)
        refine lv_iinc (v := (l2_4 + 1)) (lv' := [(2, .int (l2_4 + 1)), (1, .int (s0_34 + s1_34)), (0, .ref h0)]) E.1 E.2.1 dX13_others_36 hl (k := 2) rfl rfl (by decide) rfl (fun ls hl => ?_)
        refine lv_goto (tgt := 4) E.1 E.2.1 dX13_others_39 (by decide) ?_
        exact ih (s0_34 + s1_34) (l2_4 + 1) H locs ls h hW (lv_sub hl [2, 1, 0] rfl)
      refine lv_iload_n E.1 E.2.1 dX13_others_10 rfl (lv_at hl 1 rfl) ?_
      refine lv_aload_n E.1 E.2.1 dX13_others_11 rfl (lv_at hl 0 rfl) ?_
      refine wGet (v := .ref h5) E hK in_X13_others_X13 hW 4 lk_X13_others_22 0 rfl rfl (by decide) rfl rfl dX13_others_12 ?_
      refine lv_iload_n E.1 E.2.1 dX13_others_15 rfl (lv_at hl 2 rfl) ?_
      obtain ⟨hi16, h⟩ := ox h
      refine wIald E hK hW 5 rfl hi16 dX13_others_16 ?_
      refine lv_aload_n E.1 E.2.1 dX13_others_17 rfl (lv_at hl 0 rfl) ?_
      refine wGet (v := .ref h1) E hK in_X13_others_X13 hW 0 lk_X13_others_7 0 rfl rfl (by decide) rfl rfl dX13_others_18 ?_
      refine lv_bipush (v := 7) E.1 E.2.1 dX13_others_21 (by decide) ?_
      refine lv_iload_n E.1 E.2.1 dX13_others_23 rfl (lv_at hl 2 rfl) ?_
      refine lv_iadd E.1 E.2.1 dX13_others_24 ?_
      obtain ⟨hi25, h⟩ := ox h
      refine wIald E hK hW 1 rfl hi25 dX13_others_25 ?_
      refine lv_icmp_ne (tgt := 33) E.1 E.2.1 dX13_others_26 (by decide) (fun c26 => ?_) (fun c26 => ?_)
      · have h := ie c26 h
        refine lv_iconst (v := 1) E.1 E.2.1 dX13_others_33 (by decide) ?_
        exact J34 l1_4 1 H locs ls h hW (lv_sub hl [0, 2] rfl)
      · have h := it c26 h
        refine lv_iconst (v := 0) E.1 E.2.1 dX13_others_29 (by decide) ?_
        refine lv_goto (tgt := 34) E.1 E.2.1 dX13_others_30 (by decide) ?_
        exact J34 l1_4 0 H locs ls h hW (lv_sub hl [0, 2] rfl)
set_option maxHeartbeats 4000000 in
set_option maxRecDepth 100000 in
theorem k_X13_others_0 {p : Program} {l : Launch} {e : Env} {s : State} {m : MethodId} {args : Array Value} {below : List Frame} {meth : Method} {c : Code} {g : GE} {A : Nat → Prop} {h0 h1 h2 h3 h4 h5 h6 h7 h8 h9 h10 h11 h12 h13 : Nat} {x_g : Nat → Int32} {x_kept : Nat → Int32} {x_saved : Nat → Int32} {x_before : Nat → Int32} {x_was : Nat → Int32} {x_region : Nat → Int32} {x_parts : Nat → Int64} {x_next : Nat → Int64} {x_ways : Nat → Int32} {x_more : Nat → Int32} {x_whole : Int64} {x_isSaved : Int32} {x_changes : Int32} {x_isWithin : Int32} {x_code : Int32} {x_input : Nat → Int32} {x_length : Int32} {x_fault : Int32} {x_failed : Int32} {x_signs : Nat → Int32} {x_signMany : Int32} {x_at : Int32} {x_told : Nat → Int32} {x_toldMany : Int32} {res : Int32} {H : Heap} {locs : List Loc} {ls : Array Slot} 
    (E : En cX13_others RX13 wsX13_others 3 (some .int) p s m args meth c) (hK : KK g s) (hA : ∀ q, s.heap.size ≤ q → A q) (h : f_X13_others x_g x_was = some res) (hW : Wo g A s H locs (w_X13 g h0 h1 h2 h3 h4 h5 h6 h7 h8 h9 h10 h11 h12 h13 x_g x_kept x_saved x_before x_was x_region x_parts x_next x_ways x_more x_whole x_isSaved x_changes x_isWithin x_code x_input x_length x_fault x_failed x_signs x_signMany x_at x_told x_toldMany)) (hl : lv_has ls 3 [(0, .ref h0)]) : G_X13_others p l e s m args below meth c g A h0 h1 h2 h3 h4 h5 h6 h7 h8 h9 h10 h11 h12 h13 x_g x_kept x_saved x_before x_was x_region x_parts x_next x_ways x_more x_whole x_isSaved x_changes x_isWithin x_code x_input x_length x_fault x_failed x_signs x_signMany x_at x_told x_toldMany res H locs 0 ls [] := by
  have hts := E.2.2.2.1
  unfold f_X13_others at h
  refine lv_iconst (v := 0) E.1 E.2.1 dX13_others_0 (by decide) ?_
  refine lv_istore_n (lv' := [(1, .int 0), (0, .ref h0)]) E.1 E.2.1 dX13_others_1 rfl hl (by decide) rfl (fun ls hl => ?_)
  refine lv_iconst (v := 0) E.1 E.2.1 dX13_others_2 (by decide) ?_
  refine lv_istore_n (lv' := [(2, .int 0), (1, .int 0), (0, .ref h0)]) E.1 E.2.1 dX13_others_3 rfl hl (by decide) rfl (fun ls hl => ?_)
  refine k_X13_others_4 E hK hA ?_ 1000 0 0 H locs ls h hW (lv_sub hl [2, 1, 0] rfl)
  · intro l1_42e H locs ls h hW hl
    refine lv_iload_n E.1 E.2.1 dX13_others_42 rfl (lv_at hl 0 rfl) ?_
    obtain rfl := Option.some.inj h
    exact endI E rfl hW dX13_others_43
theorem c_X13_others (l : Launch) (g : GE) (h0 h1 h2 h3 h4 h5 h6 h7 h8 h9 h10 h11 h12 h13 : Nat) (x_g : Nat → Int32) (x_kept : Nat → Int32) (x_saved : Nat → Int32) (x_before : Nat → Int32) (x_was : Nat → Int32) (x_region : Nat → Int32) (x_parts : Nat → Int64) (x_next : Nat → Int64) (x_ways : Nat → Int32) (x_more : Nat → Int32) (x_whole : Int64) (x_isSaved : Int32) (x_changes : Int32) (x_isWithin : Int32) (x_code : Int32) (x_input : Nat → Int32) (x_length : Int32) (x_fault : Int32) (x_failed : Int32) (x_signs : Nat → Int32) (x_signMany : Int32) (x_at : Int32) (x_told : Nat → Int32) (x_toldMany : Int32) {res : Int32} (hf : f_X13_others x_g x_was = some res) : CI l yX13_others wsX13_others rm_X13_others g [.ref h0] (w_X13 g h0 h1 h2 h3 h4 h5 h6 h7 h8 h9 h10 h11 h12 h13 x_g x_kept x_saved x_before x_was x_region x_parts x_next x_ways x_more x_whole x_isSaved x_changes x_isWithin x_code x_input x_length x_fault x_failed x_signs x_signMany x_at x_told x_toldMany) (w_X13 g h0 h1 h2 h3 h4 h5 h6 h7 h8 h9 h10 h11 h12 h13 x_g x_kept x_saved x_before x_was x_region x_parts x_next x_ways x_more x_whole x_isSaved x_changes x_isWithin x_code x_input x_length x_fault x_failed x_signs x_signMany x_at x_told x_toldMany) res :=
  mkI (cc := cX13_others) (maxL := 3) (by decide) rfl (Nat.le_of_ble_eq_true rfl) (fun p e s m args below meth c A H locs ls E hK hA hW hl => k_X13_others_0 E hK hA hf hW hl)

/-! PaperStormModel.folds(III)I X13_folds -/
abbrev rm_X13_folds : Room := { frames := 2, cells := 0, slots := 0, locals := 46 }
theorem in_X13_folds_X13 : ∀ w ∈ wsX130, w ∈ wsX13_folds := by decide +kernel
theorem lk_X13_folds_7 : Cond.fieldLink RX13 7 "PaperStormModel" "g" "[I" ∈ wsX13_folds := by decide +kernel
noncomputable def f_X13_folds_55 (l1 : Int32) (l2 : Int32) (l3 : Int32) (l4 : Int32) (z140 : (Nat → Int32) → Option (Int32 × (Nat → Int32) × (Nat → Int32) × (Nat → Int32) × Int32 × Int32)) : Nat → Int32 → (Nat → Int32) → Option (Int32 × (Nat → Int32) × (Nat → Int32) × (Nat → Int32) × Int32 × Int32)
  | 0, _, _ => none
  | n + 1, l5_55, x_g_55 => if 5 ≤ l5_55 then z140 x_g_55 else if ((7 + (l2 * (l1 - l4))) + (l3 * l5_55)) < 0 ∨ 60 ≤ ((7 + (l2 * (l1 - l4))) + (l3 * l5_55)).toNatClampNeg then none else if ((7 + (l2 * (l1 + l4))) + (l3 * l5_55)) < 0 ∨ 60 ≤ ((7 + (l2 * (l1 + l4))) + (l3 * l5_55)).toNatClampNeg then none else f_X13_folds_55 l1 l2 l3 l4 z140 n (l5_55 + 1) (upd (upd x_g_55 ((7 + (l2 * (l1 - l4))) + (l3 * l5_55)).toNatClampNeg ((((x_g_55 ((7 + (l2 * (l1 - l4))) + (l3 * l5_55)).toNatClampNeg) + (x_g_55 ((7 + (l2 * (l1 + l4))) + (l3 * l5_55)).toNatClampNeg)) + 1) / 2)) ((7 + (l2 * (l1 + l4))) + (l3 * l5_55)).toNatClampNeg (((x_g_55 ((7 + (l2 * (l1 - l4))) + (l3 * l5_55)).toNatClampNeg) + (x_g_55 ((7 + (l2 * (l1 + l4))) + (l3 * l5_55)).toNatClampNeg)) / 2))
noncomputable def f_X13_folds_38 (l1 : Int32) (l2 : Int32) (l3 : Int32) (z146 : (Nat → Int32) → Option (Int32 × (Nat → Int32) × (Nat → Int32) × (Nat → Int32) × Int32 × Int32)) : Nat → Int32 → (Nat → Int32) → Option (Int32 × (Nat → Int32) × (Nat → Int32) × (Nat → Int32) × Int32 × Int32)
  | 0, _, _ => none
  | n + 1, l4_38, x_g_38 => if l1 < l4_38 then z146 x_g_38 else if 5 ≤ (l1 + l4_38) then z146 x_g_38 else f_X13_folds_55 l1 l2 l3 l4_38 (fun x_g_140e => f_X13_folds_38 l1 l2 l3 z146 n (l4_38 + 1) x_g_140e) 1000 0 x_g_38
noncomputable def f_X13_folds (x_g : Nat → Int32) (x_kept : Nat → Int32) (x_was : Nat → Int32) (x_changes : Int32) (x_isWithin : Int32) (x_code : Int32) (a1 : Int32) (a2 : Int32) (a3 : Int32) : Option (Int32 × (Nat → Int32) × (Nat → Int32) × (Nat → Int32) × Int32 × Int32) :=
  jo (fun (s1_15 : Int32) => (f_X13_fails x_code s1_15).bind fun r15 => if r15.1 = 0 then (f_X13_looks x_g x_was).bind fun r24 => (f_X13_keeps__g x_g x_kept x_changes x_isWithin r15.2).bind fun r32 => f_X13_folds_38 a1 a2 a3 (fun x_g_146e => (f_X13_others x_g_146e r24).bind fun r147 => some (r147, x_g_146e, r32.1, r24, r32.2.1, r32.2.2)) 1000 1 x_g else some (0, x_g, x_kept, x_was, x_changes, r15.2)) (fun j15 => (f_X13_in a1 1 3).bind fun r4 => if r4 = 0 then j15 1 else j15 0)
abbrev G_X13_folds (p : Program) (l : Launch) (e : Env) (s : State) (m : MethodId) (args : Array Value) (below : List Frame) (meth : Method) (c : Code) (g : GE) (A : Nat → Prop) (h0 h1 h2 h3 h4 h5 h6 h7 h8 h9 h10 h11 h12 h13 : Nat) (x_saved : Nat → Int32) (x_before : Nat → Int32) (x_region : Nat → Int32) (x_parts : Nat → Int64) (x_next : Nat → Int64) (x_ways : Nat → Int32) (x_more : Nat → Int32) (x_whole : Int64) (x_isSaved : Int32) (x_isWithin : Int32) (x_input : Nat → Int32) (x_length : Int32) (x_fault : Int32) (x_failed : Int32) (x_signs : Nat → Int32) (x_signMany : Int32) (x_at : Int32) (x_told : Nat → Int32) (x_toldMany : Int32) (res : Int32 × (Nat → Int32) × (Nat → Int32) × (Nat → Int32) × Int32 × Int32) (H : Heap) (locs : List Loc) (pc : Nat) (ls : Array Slot) (st : List Value) : Prop := W p l e (headSpec wsX13_folds rm_X13_folds).room s m args below meth c H locs 0 0 (MQ below (PoI g A (w_X13 g h0 h1 h2 h3 h4 h5 h6 h7 h8 h9 h10 h11 h12 h13 res.2.1 res.2.2.1 x_saved x_before res.2.2.2.1 x_region x_parts x_next x_ways x_more x_whole x_isSaved res.2.2.2.2.1 x_isWithin res.2.2.2.2.2 x_input x_length x_fault x_failed x_signs x_signMany x_at x_told x_toldMany) res.1) args s 0 0 A) (F0 m pc ls st)
set_option maxHeartbeats 4000000 in
set_option maxRecDepth 100000 in
theorem k_X13_folds_55 {p : Program} {l : Launch} {e : Env} {s : State} {m : MethodId} {args : Array Value} {below : List Frame} {meth : Method} {c : Code} {g : GE} {A : Nat → Prop} {h0 h1 h2 h3 h4 h5 h6 h7 h8 h9 h10 h11 h12 h13 : Nat} {x_kept : Nat → Int32} {x_saved : Nat → Int32} {x_before : Nat → Int32} {x_was : Nat → Int32} {x_region : Nat → Int32} {x_parts : Nat → Int64} {x_next : Nat → Int64} {x_ways : Nat → Int32} {x_more : Nat → Int32} {x_whole : Int64} {x_isSaved : Int32} {x_changes : Int32} {x_isWithin : Int32} {x_code : Int32} {x_input : Nat → Int32} {x_length : Int32} {x_fault : Int32} {x_failed : Int32} {x_signs : Nat → Int32} {x_signMany : Int32} {x_at : Int32} {x_told : Nat → Int32} {x_toldMany : Int32} {res : Int32 × (Nat → Int32) × (Nat → Int32) × (Nat → Int32) × Int32 × Int32} {l1 : Int32} {l2 : Int32} {l3 : Int32} {l4 : Int32} {z140 : (Nat → Int32) → Option (Int32 × (Nat → Int32) × (Nat → Int32) × (Nat → Int32) × Int32 × Int32)}
    (E : En cX13_folds RX13 wsX13_folds 9 (some .int) p s m args meth c) (hK : KK g s) (hA : ∀ q, s.heap.size ≤ q → A q)
    (hz140 : ∀ (x_g_140e : Nat → Int32) (H : Heap) (locs : List Loc) (ls : Array Slot), z140 x_g_140e = some res → Wo g A s H locs (w_X13 g h0 h1 h2 h3 h4 h5 h6 h7 h8 h9 h10 h11 h12 h13 x_g_140e x_kept x_saved x_before x_was x_region x_parts x_next x_ways x_more x_whole x_isSaved x_changes x_isWithin x_code x_input x_length x_fault x_failed x_signs x_signMany x_at x_told x_toldMany) → lv_has ls 9 [(0, .ref h0), (1, .int l1), (2, .int l2), (3, .int l3), (4, .int l4)] → G_X13_folds p l e s m args below meth c g A h0 h1 h2 h3 h4 h5 h6 h7 h8 h9 h10 h11 h12 h13 x_saved x_before x_region x_parts x_next x_ways x_more x_whole x_isSaved x_isWithin x_input x_length x_fault x_failed x_signs x_signMany x_at x_told x_toldMany res H locs 140 ls [])
    : ∀ (n : Nat) (l5_55 : Int32) (x_g_55 : Nat → Int32) (H : Heap) (locs : List Loc) (ls : Array Slot), f_X13_folds_55 l1 l2 l3 l4 z140 n l5_55 x_g_55 = some res → Wo g A s H locs (w_X13 g h0 h1 h2 h3 h4 h5 h6 h7 h8 h9 h10 h11 h12 h13 x_g_55 x_kept x_saved x_before x_was x_region x_parts x_next x_ways x_more x_whole x_isSaved x_changes x_isWithin x_code x_input x_length x_fault x_failed x_signs x_signMany x_at x_told x_toldMany) → lv_has ls 9 [(0, .ref h0), (1, .int l1), (2, .int l2), (3, .int l3), (4, .int l4), (5, .int l5_55)] → G_X13_folds p l e s m args below meth c g A h0 h1 h2 h3 h4 h5 h6 h7 h8 h9 h10 h11 h12 h13 x_saved x_before x_region x_parts x_next x_ways x_more x_whole x_isSaved x_isWithin x_input x_length x_fault x_failed x_signs x_signMany x_at x_told x_toldMany res H locs 55 ls [] := by
  have hts := E.2.2.2.1
  intro n
  induction n with
  | zero => intro l5_55 x_g_55 H locs ls h hW hl; rw [f_X13_folds_55] at h; cases h
  | succ n ih =>
    intro l5_55 x_g_55 H locs ls h hW hl
    rw [f_X13_folds_55] at h
    refine lv_iload E.1 E.2.1 dX13_folds_55 (lv_at hl 5 rfl) ?_
    refine lv_iconst (v := 5) E.1 E.2.1 dX13_folds_57 (by decide) ?_
    refine lv_icmp_ge (tgt := 140) E.1 E.2.1 dX13_folds_58 (by decide) (fun c58 => ?_) (fun c58 => ?_)
    · have h := it c58 h
      exact hz140 x_g_55 H locs ls h hW (lv_sub hl [0, 1, 2, 3, 4] rfl)
    · have h := ie c58 h
      refine lv_bipush (v := 7) E.1 E.2.1 dX13_folds_61 (by decide) ?_
      refine lv_iload_n E.1 E.2.1 dX13_folds_63 rfl (lv_at hl 2 rfl) ?_
      refine lv_iload_n E.1 E.2.1 dX13_folds_64 rfl (lv_at hl 1 rfl) ?_
      refine lv_iload E.1 E.2.1 dX13_folds_65 (lv_at hl 4 rfl) ?_
      refine lv_isub E.1 E.2.1 dX13_folds_67 ?_
      refine lv_imul E.1 E.2.1 dX13_folds_68 ?_
      refine lv_iadd E.1 E.2.1 dX13_folds_69 ?_
      refine lv_iload_n E.1 E.2.1 dX13_folds_70 rfl (lv_at hl 3 rfl) ?_
      refine lv_iload E.1 E.2.1 dX13_folds_71 (lv_at hl 5 rfl) ?_
      refine lv_imul E.1 E.2.1 dX13_folds_73 ?_
      refine lv_iadd E.1 E.2.1 dX13_folds_74 ?_
      refine lv_istore (lv' := [(6, .int ((7 + (l2 * (l1 - l4))) + (l3 * l5_55))), (0, .ref h0), (1, .int l1), (2, .int l2), (3, .int l3), (4, .int l4), (5, .int l5_55)]) E.1 E.2.1 dX13_folds_75 hl (by decide) rfl (fun ls hl => ?_)
      refine lv_bipush (v := 7) E.1 E.2.1 dX13_folds_77 (by decide) ?_
      refine lv_iload_n E.1 E.2.1 dX13_folds_79 rfl (lv_at hl 3 rfl) ?_
      refine lv_iload_n E.1 E.2.1 dX13_folds_80 rfl (lv_at hl 2 rfl) ?_
      refine lv_iload E.1 E.2.1 dX13_folds_81 (lv_at hl 5 rfl) ?_
      refine lv_iadd E.1 E.2.1 dX13_folds_83 ?_
      refine lv_imul E.1 E.2.1 dX13_folds_84 ?_
      refine lv_iadd E.1 E.2.1 dX13_folds_85 ?_
      refine lv_iload_n E.1 E.2.1 dX13_folds_86 rfl (lv_at hl 4 rfl) ?_
      refine lv_iload E.1 E.2.1 dX13_folds_87 (lv_at hl 6 rfl) ?_
      refine lv_imul E.1 E.2.1 dX13_folds_89 ?_
      refine lv_iadd E.1 E.2.1 dX13_folds_90 ?_
      refine lv_istore (lv' := [(7, .int ((7 + (l2 * (l1 + l4))) + (l3 * l5_55))), (6, .int ((7 + (l2 * (l1 - l4))) + (l3 * l5_55))), (0, .ref h0), (1, .int l1), (2, .int l2), (3, .int l3), (4, .int l4), (5, .int l5_55)]) E.1 E.2.1 dX13_folds_91 hl (by decide) rfl (fun ls hl => ?_)
      refine lv_aload_n E.1 E.2.1 dX13_folds_93 rfl (lv_at hl 2 rfl) ?_
      refine wGet (v := .ref h1) E hK in_X13_folds_X13 hW 0 lk_X13_folds_7 0 rfl rfl (by decide) rfl rfl dX13_folds_94 ?_
      refine lv_iload E.1 E.2.1 dX13_folds_97 (lv_at hl 1 rfl) ?_
      obtain ⟨hi99, h⟩ := ox h
      refine wIald E hK hW 1 rfl hi99 dX13_folds_99 ?_
      refine lv_aload_n E.1 E.2.1 dX13_folds_100 rfl (lv_at hl 2 rfl) ?_
      refine wGet (v := .ref h1) E hK in_X13_folds_X13 hW 0 lk_X13_folds_7 0 rfl rfl (by decide) rfl rfl dX13_folds_101 ?_
      refine lv_iload E.1 E.2.1 dX13_folds_104 (lv_at hl 0 rfl) ?_
      obtain ⟨hi106, h⟩ := ox h
      refine wIald E hK hW 1 rfl hi106 dX13_folds_106 ?_
      refine lv_iadd E.1 E.2.1 dX13_folds_107 ?_
      refine lv_istore (lv' := [(8, .int ((x_g_55 ((7 + (l2 * (l1 - l4))) + (l3 * l5_55)).toNatClampNeg) + (x_g_55 ((7 + (l2 * (l1 + l4))) + (l3 * l5_55)).toNatClampNeg))), (7, .int ((7 + (l2 * (l1 + l4))) + (l3 * l5_55))), (6, .int ((7 + (l2 * (l1 - l4))) + (l3 * l5_55))), (0, .ref h0), (1, .int l1), (2, .int l2), (3, .int l3), (4, .int l4), (5, .int l5_55)]) E.1 E.2.1 dX13_folds_108 hl (by decide) rfl (fun ls hl => ?_)
      refine lv_aload_n E.1 E.2.1 dX13_folds_110 rfl (lv_at hl 3 rfl) ?_
      refine wGet (v := .ref h1) E hK in_X13_folds_X13 hW 0 lk_X13_folds_7 0 rfl rfl (by decide) rfl rfl dX13_folds_111 ?_
      refine lv_iload E.1 E.2.1 dX13_folds_114 (lv_at hl 2 rfl) ?_
      refine lv_iload E.1 E.2.1 dX13_folds_116 (lv_at hl 0 rfl) ?_
      refine lv_iconst (v := 1) E.1 E.2.1 dX13_folds_118 (by decide) ?_
      refine lv_iadd E.1 E.2.1 dX13_folds_119 ?_
      refine lv_iconst (v := 2) E.1 E.2.1 dX13_folds_120 (by decide) ?_
      refine lv_idiv E.1 E.2.1 dX13_folds_121 (by decide) ?_
      refine wIast (world' := (w_X13 g h0 h1 h2 h3 h4 h5 h6 h7 h8 h9 h10 h11 h12 h13 (upd x_g_55 ((7 + (l2 * (l1 - l4))) + (l3 * l5_55)).toNatClampNeg ((((x_g_55 ((7 + (l2 * (l1 - l4))) + (l3 * l5_55)).toNatClampNeg) + (x_g_55 ((7 + (l2 * (l1 + l4))) + (l3 * l5_55)).toNatClampNeg)) + 1) / 2)) x_kept x_saved x_before x_was x_region x_parts x_next x_ways x_more x_whole x_isSaved x_changes x_isWithin x_code x_input x_length x_fault x_failed x_signs x_signMany x_at x_told x_toldMany)) E hK hW 1 rfl hi99 dX13_folds_122 rfl (fun H locs hW => ?_)
      refine lv_aload_n E.1 E.2.1 dX13_folds_123 rfl (lv_at hl 3 rfl) ?_
      refine wGet (v := .ref h1) E hK in_X13_folds_X13 hW 0 lk_X13_folds_7 0 rfl rfl (by decide) rfl rfl dX13_folds_124 ?_
      refine lv_iload E.1 E.2.1 dX13_folds_127 (lv_at hl 1 rfl) ?_
      refine lv_iload E.1 E.2.1 dX13_folds_129 (lv_at hl 0 rfl) ?_
      refine lv_iconst (v := 2) E.1 E.2.1 dX13_folds_131 (by decide) ?_
      refine lv_idiv E.1 E.2.1 dX13_folds_132 (by decide) ?_
      refine wIast (world' := (w_X13 g h0 h1 h2 h3 h4 h5 h6 h7 h8 h9 h10 h11 h12 h13 (upd (upd x_g_55 ((7 + (l2 * (l1 - l4))) + (l3 * l5_55)).toNatClampNeg ((((x_g_55 ((7 + (l2 * (l1 - l4))) + (l3 * l5_55)).toNatClampNeg) + (x_g_55 ((7 + (l2 * (l1 + l4))) + (l3 * l5_55)).toNatClampNeg)) + 1) / 2)) ((7 + (l2 * (l1 + l4))) + (l3 * l5_55)).toNatClampNeg (((x_g_55 ((7 + (l2 * (l1 - l4))) + (l3 * l5_55)).toNatClampNeg) + (x_g_55 ((7 + (l2 * (l1 + l4))) + (l3 * l5_55)).toNatClampNeg)) / 2)) x_kept x_saved x_before x_was x_region x_parts x_next x_ways x_more x_whole x_isSaved x_changes x_isWithin x_code x_input x_length x_fault x_failed x_signs x_signMany x_at x_told x_toldMany)) E hK hW 1 rfl hi106 dX13_folds_133 rfl (fun H locs hW => ?_)
      refine lv_iinc (v := (l5_55 + 1)) (lv' := [(5, .int (l5_55 + 1)), (8, .int ((x_g_55 ((7 + (l2 * (l1 - l4))) + (l3 * l5_55)).toNatClampNeg) + (x_g_55 ((7 + (l2 * (l1 + l4))) + (l3 * l5_55)).toNatClampNeg))), (7, .int ((7 + (l2 * (l1 + l4))) + (l3 * l5_55))), (6, .int ((7 + (l2 * (l1 - l4))) + (l3 * l5_55))), (0, .ref h0), (1, .int l1), (2, .int l2), (3, .int l3), (4, .int l4)]) E.1 E.2.1 dX13_folds_134 hl (k := 8) rfl rfl (by decide) rfl (fun ls hl => ?_)
      refine lv_goto (tgt := 55) E.1 E.2.1 dX13_folds_137 (by decide) ?_
      exact ih (l5_55 + 1) (upd (upd x_g_55 ((7 + (l2 * (l1 - l4))) + (l3 * l5_55)).toNatClampNeg ((((x_g_55 ((7 + (l2 * (l1 - l4))) + (l3 * l5_55)).toNatClampNeg) + (x_g_55 ((7 + (l2 * (l1 + l4))) + (l3 * l5_55)).toNatClampNeg)) + 1) / 2)) ((7 + (l2 * (l1 + l4))) + (l3 * l5_55)).toNatClampNeg (((x_g_55 ((7 + (l2 * (l1 - l4))) + (l3 * l5_55)).toNatClampNeg) + (x_g_55 ((7 + (l2 * (l1 + l4))) + (l3 * l5_55)).toNatClampNeg)) / 2)) H locs ls h hW (lv_sub hl [4, 5, 6, 7, 8, 0] rfl)
set_option maxHeartbeats 4000000 in
set_option maxRecDepth 100000 in
theorem k_X13_folds_38 {p : Program} {l : Launch} {e : Env} {s : State} {m : MethodId} {args : Array Value} {below : List Frame} {meth : Method} {c : Code} {g : GE} {A : Nat → Prop} {h0 h1 h2 h3 h4 h5 h6 h7 h8 h9 h10 h11 h12 h13 : Nat} {x_kept : Nat → Int32} {x_saved : Nat → Int32} {x_before : Nat → Int32} {x_was : Nat → Int32} {x_region : Nat → Int32} {x_parts : Nat → Int64} {x_next : Nat → Int64} {x_ways : Nat → Int32} {x_more : Nat → Int32} {x_whole : Int64} {x_isSaved : Int32} {x_changes : Int32} {x_isWithin : Int32} {x_code : Int32} {x_input : Nat → Int32} {x_length : Int32} {x_fault : Int32} {x_failed : Int32} {x_signs : Nat → Int32} {x_signMany : Int32} {x_at : Int32} {x_told : Nat → Int32} {x_toldMany : Int32} {res : Int32 × (Nat → Int32) × (Nat → Int32) × (Nat → Int32) × Int32 × Int32} {l1 : Int32} {l2 : Int32} {l3 : Int32} {z146 : (Nat → Int32) → Option (Int32 × (Nat → Int32) × (Nat → Int32) × (Nat → Int32) × Int32 × Int32)}
    (E : En cX13_folds RX13 wsX13_folds 9 (some .int) p s m args meth c) (hK : KK g s) (hA : ∀ q, s.heap.size ≤ q → A q)
    (hz146 : ∀ (x_g_146e : Nat → Int32) (H : Heap) (locs : List Loc) (ls : Array Slot), z146 x_g_146e = some res → Wo g A s H locs (w_X13 g h0 h1 h2 h3 h4 h5 h6 h7 h8 h9 h10 h11 h12 h13 x_g_146e x_kept x_saved x_before x_was x_region x_parts x_next x_ways x_more x_whole x_isSaved x_changes x_isWithin x_code x_input x_length x_fault x_failed x_signs x_signMany x_at x_told x_toldMany) → lv_has ls 9 [(0, .ref h0)] → G_X13_folds p l e s m args below meth c g A h0 h1 h2 h3 h4 h5 h6 h7 h8 h9 h10 h11 h12 h13 x_saved x_before x_region x_parts x_next x_ways x_more x_whole x_isSaved x_isWithin x_input x_length x_fault x_failed x_signs x_signMany x_at x_told x_toldMany res H locs 146 ls [])
    : ∀ (n : Nat) (l4_38 : Int32) (x_g_38 : Nat → Int32) (H : Heap) (locs : List Loc) (ls : Array Slot), f_X13_folds_38 l1 l2 l3 z146 n l4_38 x_g_38 = some res → Wo g A s H locs (w_X13 g h0 h1 h2 h3 h4 h5 h6 h7 h8 h9 h10 h11 h12 h13 x_g_38 x_kept x_saved x_before x_was x_region x_parts x_next x_ways x_more x_whole x_isSaved x_changes x_isWithin x_code x_input x_length x_fault x_failed x_signs x_signMany x_at x_told x_toldMany) → lv_has ls 9 [(0, .ref h0), (1, .int l1), (2, .int l2), (3, .int l3), (4, .int l4_38)] → G_X13_folds p l e s m args below meth c g A h0 h1 h2 h3 h4 h5 h6 h7 h8 h9 h10 h11 h12 h13 x_saved x_before x_region x_parts x_next x_ways x_more x_whole x_isSaved x_isWithin x_input x_length x_fault x_failed x_signs x_signMany x_at x_told x_toldMany res H locs 38 ls [] := by
  have hts := E.2.2.2.1
  intro n
  induction n with
  | zero => intro l4_38 x_g_38 H locs ls h hW hl; rw [f_X13_folds_38] at h; cases h
  | succ n ih =>
    intro l4_38 x_g_38 H locs ls h hW hl
    rw [f_X13_folds_38] at h
    refine lv_iload E.1 E.2.1 dX13_folds_38 (lv_at hl 4 rfl) ?_
    refine lv_iload_n E.1 E.2.1 dX13_folds_40 rfl (lv_at hl 1 rfl) ?_
    refine lv_icmp_gt (tgt := 146) E.1 E.2.1 dX13_folds_41 (by decide) (fun c41 => ?_) (fun c41 => ?_)
    · have h := it c41 h
      exact hz146 x_g_38 H locs ls h hW (lv_sub hl [0] rfl)
    · have h := ie c41 h
      refine lv_iload_n E.1 E.2.1 dX13_folds_44 rfl (lv_at hl 1 rfl) ?_
      refine lv_iload E.1 E.2.1 dX13_folds_45 (lv_at hl 4 rfl) ?_
      refine lv_iadd E.1 E.2.1 dX13_folds_47 ?_
      refine lv_iconst (v := 5) E.1 E.2.1 dX13_folds_48 (by decide) ?_
      refine lv_icmp_ge (tgt := 146) E.1 E.2.1 dX13_folds_49 (by decide) (fun c49 => ?_) (fun c49 => ?_)
      · have h := it c49 h
        exact hz146 x_g_38 H locs ls h hW (lv_sub hl [0] rfl)
      · have h := ie c49 h
        refine lv_iconst (v := 0) E.1 E.2.1 dX13_folds_52 (by decide) ?_
        refine lv_istore (lv' := [(5, .int 0), (0, .ref h0), (1, .int l1), (2, .int l2), (3, .int l3), (4, .int l4_38)]) E.1 E.2.1 dX13_folds_53 hl (by decide) rfl (fun ls hl => ?_)
        refine k_X13_folds_55 E hK hA ?_ 1000 0 x_g_38 H locs ls h hW (lv_sub hl [1, 2, 3, 4, 5, 0] rfl)
        · intro x_g_140e H locs ls h hW hl
          refine lv_iinc (v := (l4_38 + 1)) (lv' := [(4, .int (l4_38 + 1)), (0, .ref h0), (1, .int l1), (2, .int l2), (3, .int l3)]) E.1 E.2.1 dX13_folds_140 hl (k := 4) rfl rfl (by decide) rfl (fun ls hl => ?_)
          refine lv_goto (tgt := 38) E.1 E.2.1 dX13_folds_143 (by decide) ?_
          exact ih (l4_38 + 1) x_g_140e H locs ls h hW (lv_sub hl [1, 2, 3, 4, 0] rfl)
set_option maxHeartbeats 4000000 in
set_option maxRecDepth 100000 in
theorem k_X13_folds_0 {p : Program} {l : Launch} {e : Env} {s : State} {m : MethodId} {args : Array Value} {below : List Frame} {meth : Method} {c : Code} {g : GE} {A : Nat → Prop} {h0 h1 h2 h3 h4 h5 h6 h7 h8 h9 h10 h11 h12 h13 : Nat} {x_g : Nat → Int32} {x_kept : Nat → Int32} {x_saved : Nat → Int32} {x_before : Nat → Int32} {x_was : Nat → Int32} {x_region : Nat → Int32} {x_parts : Nat → Int64} {x_next : Nat → Int64} {x_ways : Nat → Int32} {x_more : Nat → Int32} {x_whole : Int64} {x_isSaved : Int32} {x_changes : Int32} {x_isWithin : Int32} {x_code : Int32} {x_input : Nat → Int32} {x_length : Int32} {x_fault : Int32} {x_failed : Int32} {x_signs : Nat → Int32} {x_signMany : Int32} {x_at : Int32} {x_told : Nat → Int32} {x_toldMany : Int32} {res : Int32 × (Nat → Int32) × (Nat → Int32) × (Nat → Int32) × Int32 × Int32} {H : Heap} {locs : List Loc} {ls : Array Slot} {a1 : Int32} {a2 : Int32} {a3 : Int32}
    (E : En cX13_folds RX13 wsX13_folds 9 (some .int) p s m args meth c) (hK : KK g s) (hA : ∀ q, s.heap.size ≤ q → A q) (h : f_X13_folds x_g x_kept x_was x_changes x_isWithin x_code a1 a2 a3 = some res) (hW : Wo g A s H locs (w_X13 g h0 h1 h2 h3 h4 h5 h6 h7 h8 h9 h10 h11 h12 h13 x_g x_kept x_saved x_before x_was x_region x_parts x_next x_ways x_more x_whole x_isSaved x_changes x_isWithin x_code x_input x_length x_fault x_failed x_signs x_signMany x_at x_told x_toldMany)) (hl : lv_has ls 9 [(0, .ref h0), (1, .int a1), (2, .int a2), (3, .int a3)]) : G_X13_folds p l e s m args below meth c g A h0 h1 h2 h3 h4 h5 h6 h7 h8 h9 h10 h11 h12 h13 x_saved x_before x_region x_parts x_next x_ways x_more x_whole x_isSaved x_isWithin x_input x_length x_fault x_failed x_signs x_signMany x_at x_told x_toldMany res H locs 0 ls [] := by
  have hts := E.2.2.2.1
  unfold f_X13_folds at h
  obtain ⟨j15, hj15, h⟩ := jox1 h
  have J15 : ∀ (s1_15 : Int32) (H : Heap) (locs : List Loc) (ls : Array Slot), j15 s1_15 = some res → Wo g A s H locs (w_X13 g h0 h1 h2 h3 h4 h5 h6 h7 h8 h9 h10 h11 h12 h13 x_g x_kept x_saved x_before x_was x_region x_parts x_next x_ways x_more x_whole x_isSaved x_changes x_isWithin x_code x_input x_length x_fault x_failed x_signs x_signMany x_at x_told x_toldMany) → lv_has ls 9 [(0, .ref h0), (1, .int a1), (2, .int a2), (3, .int a3)] → G_X13_folds p l e s m args below meth c g A h0 h1 h2 h3 h4 h5 h6 h7 h8 h9 h10 h11 h12 h13 x_saved x_before x_region x_parts x_next x_ways x_more x_whole x_isSaved x_isWithin x_input x_length x_fault x_failed x_signs x_signMany x_at x_told x_toldMany res H locs 15 ls [.int s1_15, .ref h0] := by
    intro s1_15 H locs ls h hW hl
    rw [hj15] at h
    obtain ⟨r15, hc, h⟩ := bx h
    refine goI (world' := (w_X13 g h0 h1 h2 h3 h4 h5 h6 h7 h8 h9 h10 h11 h12 h13 x_g x_kept x_saved x_before x_was x_region x_parts x_next x_ways x_more x_whole x_isSaved x_changes x_isWithin r15.2 x_input x_length x_fault x_failed x_signs x_signMany x_at x_told x_toldMany)) hW hA (is := [0, 1, 2, 3, 4, 5, 6, 7, 8, 9, 10, 11, 12, 13]) rfl (goV (rest := []) E hK hW [0, 1, 2, 3, 4, 5, 6, 7, 8, 9, 10, 11, 12, 13] rfl rfl (c_X13_fails l g h0 h1 h2 h3 h4 h5 h6 h7 h8 h9 h10 h11 h12 h13 x_g x_kept x_saved x_before x_was x_region x_parts x_next x_ways x_more x_whole x_isSaved x_changes x_isWithin x_code x_input x_length x_fault x_failed x_signs x_signMany x_at x_told x_toldMany s1_15 (hf := hc) H.size) (cwV 1 hts gX13_folds_X13_fails rfl rfl rfl (by decide +kernel) ⟨Nat.le_of_ble_eq_true rfl, Nat.le_of_ble_eq_true rfl⟩) 0 rfl rfl rfl hl.1 rfl rfl (Nat.le_of_ble_eq_true rfl) dX13_folds_15 ⟨Nat.zero_le _, Nat.zero_le _⟩) rfl rfl (fun H locs hW => ?_)
    refine lv_if_eq (tgt := 23) E.1 E.2.1 dX13_folds_18 (by decide) (fun c18 => ?_) (fun c18 => ?_)
    · have h := it c18 h
      refine lv_aload_n E.1 E.2.1 dX13_folds_23 rfl (lv_at hl 0 rfl) ?_
      obtain ⟨r24, hc, h⟩ := bx h
      refine goU (world' := (w_X13 g h0 h1 h2 h3 h4 h5 h6 h7 h8 h9 h10 h11 h12 h13 x_g x_kept x_saved x_before r24 x_region x_parts x_next x_ways x_more x_whole x_isSaved x_changes x_isWithin r15.2 x_input x_length x_fault x_failed x_signs x_signMany x_at x_told x_toldMany)) hW hA (is := [0, 1, 2, 3, 4, 5, 6, 7, 8, 9, 10, 11, 12, 13]) rfl (goV (rest := []) E hK hW [0, 1, 2, 3, 4, 5, 6, 7, 8, 9, 10, 11, 12, 13] rfl rfl (c_X13_looks l g h0 h1 h2 h3 h4 h5 h6 h7 h8 h9 h10 h11 h12 h13 x_g x_kept x_saved x_before x_was x_region x_parts x_next x_ways x_more x_whole x_isSaved x_changes x_isWithin r15.2 x_input x_length x_fault x_failed x_signs x_signMany x_at x_told x_toldMany (hf := hc) H.size) (cwV 0 hts gX13_folds_X13_looks rfl rfl rfl (by decide +kernel) ⟨Nat.le_of_ble_eq_true rfl, Nat.le_of_ble_eq_true rfl⟩) 0 rfl rfl rfl hl.1 rfl rfl (Nat.le_of_ble_eq_true rfl) dX13_folds_24 ⟨Nat.zero_le _, Nat.zero_le _⟩) rfl rfl (fun H locs hW => ?_)
      refine lv_aload_n E.1 E.2.1 dX13_folds_27 rfl (lv_at hl 0 rfl) ?_
      refine lv_aload_n E.1 E.2.1 dX13_folds_28 rfl (lv_at hl 0 rfl) ?_
      refine wGet (v := .ref h1) E hK in_X13_folds_X13 hW 0 lk_X13_folds_7 0 rfl rfl (by decide) rfl rfl dX13_folds_29 ?_
      obtain ⟨r32, hc, h⟩ := bx h
      refine goU (world' := (w_X13 g h0 h1 h2 h3 h4 h5 h6 h7 h8 h9 h10 h11 h12 h13 x_g r32.1 x_saved x_before r24 x_region x_parts x_next x_ways x_more x_whole x_isSaved r32.2.1 x_isWithin r32.2.2 x_input x_length x_fault x_failed x_signs x_signMany x_at x_told x_toldMany)) hW hA (is := [0, 1, 2, 3, 4, 5, 6, 7, 8, 9, 10, 11, 12, 13]) rfl (goV (rest := []) E hK hW [0, 1, 2, 3, 4, 5, 6, 7, 8, 9, 10, 11, 12, 13] rfl rfl (c_X13_keeps__g l g h0 h1 h2 h3 h4 h5 h6 h7 h8 h9 h10 h11 h12 h13 x_g x_kept x_saved x_before r24 x_region x_parts x_next x_ways x_more x_whole x_isSaved x_changes x_isWithin r15.2 x_input x_length x_fault x_failed x_signs x_signMany x_at x_told x_toldMany (hf := hc) H.size) (cwV 1 hts gX13_folds_X13_keeps rfl rfl rfl (by decide +kernel) ⟨Nat.le_of_ble_eq_true rfl, Nat.le_of_ble_eq_true rfl⟩) 0 rfl rfl rfl hl.1 rfl rfl (Nat.le_of_ble_eq_true rfl) dX13_folds_32 ⟨Nat.zero_le _, Nat.zero_le _⟩) rfl rfl (fun H locs hW => ?_)
      refine lv_iconst (v := 1) E.1 E.2.1 dX13_folds_35 (by decide) ?_
      refine lv_istore (lv' := [(4, .int 1), (0, .ref h0), (1, .int a1), (2, .int a2), (3, .int a3)]) E.1 E.2.1 dX13_folds_36 hl (by decide) rfl (fun ls hl => ?_)
      refine k_X13_folds_38 E hK hA ?_ 1000 1 x_g H locs ls h hW (lv_sub hl [1, 2, 3, 4, 0] rfl)
      · intro x_g_146e H locs ls h hW hl
        refine lv_aload_n E.1 E.2.1 dX13_folds_146 rfl (lv_at hl 0 rfl) ?_
        obtain ⟨r147, hc, h⟩ := bx h
        refine goI (world' := (w_X13 g h0 h1 h2 h3 h4 h5 h6 h7 h8 h9 h10 h11 h12 h13 x_g_146e r32.1 x_saved x_before r24 x_region x_parts x_next x_ways x_more x_whole x_isSaved r32.2.1 x_isWithin r32.2.2 x_input x_length x_fault x_failed x_signs x_signMany x_at x_told x_toldMany)) hW hA (is := [0, 1, 2, 3, 4, 5, 6, 7, 8, 9, 10, 11, 12, 13]) rfl (goV (rest := []) E hK hW [0, 1, 2, 3, 4, 5, 6, 7, 8, 9, 10, 11, 12, 13] rfl rfl (c_X13_others l g h0 h1 h2 h3 h4 h5 h6 h7 h8 h9 h10 h11 h12 h13 x_g_146e r32.1 x_saved x_before r24 x_region x_parts x_next x_ways x_more x_whole x_isSaved r32.2.1 x_isWithin r32.2.2 x_input x_length x_fault x_failed x_signs x_signMany x_at x_told x_toldMany (hf := hc) H.size) (cwV 0 hts gX13_folds_X13_others rfl rfl rfl (by decide +kernel) ⟨Nat.le_of_ble_eq_true rfl, Nat.le_of_ble_eq_true rfl⟩) 0 rfl rfl rfl hl.1 rfl rfl (Nat.le_of_ble_eq_true rfl) dX13_folds_147 ⟨Nat.zero_le _, Nat.zero_le _⟩) rfl rfl (fun H locs hW => ?_)
        obtain rfl := Option.some.inj h
        exact endI E rfl hW dX13_folds_150
    · have h := ie c18 h
      refine lv_iconst (v := 0) E.1 E.2.1 dX13_folds_21 (by decide) ?_
      obtain rfl := Option.some.inj h
      exact endI E rfl hW dX13_folds_22
  refine lv_aload_n E.1 E.2.1 dX13_folds_0 rfl (lv_at hl 0 rfl) ?_
  refine lv_iload_n E.1 E.2.1 dX13_folds_1 rfl (lv_at hl 1 rfl) ?_
  refine lv_iconst (v := 1) E.1 E.2.1 dX13_folds_2 (by decide) ?_
  refine lv_iconst (v := 3) E.1 E.2.1 dX13_folds_3 (by decide) ?_
  obtain ⟨r4, hc, h⟩ := bx h
  refine goI (world' := (w_X13 g h0 h1 h2 h3 h4 h5 h6 h7 h8 h9 h10 h11 h12 h13 x_g x_kept x_saved x_before x_was x_region x_parts x_next x_ways x_more x_whole x_isSaved x_changes x_isWithin x_code x_input x_length x_fault x_failed x_signs x_signMany x_at x_told x_toldMany)) hW hA (is := []) rfl (goS (rest := [.ref h0]) E hK hW [] rfl rfl (c_X13_in l g a1 1 3 (hf := hc) H.size) (va_cwS 3 hts gX13_folds_X13_in rfl rfl rfl (by decide +kernel) ⟨Nat.le_of_ble_eq_true rfl, Nat.le_of_ble_eq_true rfl⟩) hl.1 rfl rfl (Nat.le_of_ble_eq_true rfl) dX13_folds_4 ⟨Nat.zero_le _, Nat.zero_le _⟩) rfl rfl (fun H locs hW => ?_)
  refine lv_if_eq (tgt := 14) E.1 E.2.1 dX13_folds_7 (by decide) (fun c7 => ?_) (fun c7 => ?_)
  · have h := it c7 h
    refine lv_iconst (v := 1) E.1 E.2.1 dX13_folds_14 (by decide) ?_
    exact J15 1 H locs ls h hW (lv_sub hl [0, 1, 2, 3] rfl)
  · have h := ie c7 h
    refine lv_iconst (v := 0) E.1 E.2.1 dX13_folds_10 (by decide) ?_
    refine lv_goto (tgt := 15) E.1 E.2.1 dX13_folds_11 (by decide) ?_
    exact J15 0 H locs ls h hW (lv_sub hl [0, 1, 2, 3] rfl)
theorem c_X13_folds (l : Launch) (g : GE) (h0 h1 h2 h3 h4 h5 h6 h7 h8 h9 h10 h11 h12 h13 : Nat) (x_g : Nat → Int32) (x_kept : Nat → Int32) (x_saved : Nat → Int32) (x_before : Nat → Int32) (x_was : Nat → Int32) (x_region : Nat → Int32) (x_parts : Nat → Int64) (x_next : Nat → Int64) (x_ways : Nat → Int32) (x_more : Nat → Int32) (x_whole : Int64) (x_isSaved : Int32) (x_changes : Int32) (x_isWithin : Int32) (x_code : Int32) (x_input : Nat → Int32) (x_length : Int32) (x_fault : Int32) (x_failed : Int32) (x_signs : Nat → Int32) (x_signMany : Int32) (x_at : Int32) (x_told : Nat → Int32) (x_toldMany : Int32) (a1 : Int32) (a2 : Int32) (a3 : Int32) {res : Int32 × (Nat → Int32) × (Nat → Int32) × (Nat → Int32) × Int32 × Int32} (hf : f_X13_folds x_g x_kept x_was x_changes x_isWithin x_code a1 a2 a3 = some res) : CI l yX13_folds wsX13_folds rm_X13_folds g [.ref h0, .int a1, .int a2, .int a3] (w_X13 g h0 h1 h2 h3 h4 h5 h6 h7 h8 h9 h10 h11 h12 h13 x_g x_kept x_saved x_before x_was x_region x_parts x_next x_ways x_more x_whole x_isSaved x_changes x_isWithin x_code x_input x_length x_fault x_failed x_signs x_signMany x_at x_told x_toldMany) (w_X13 g h0 h1 h2 h3 h4 h5 h6 h7 h8 h9 h10 h11 h12 h13 res.2.1 res.2.2.1 x_saved x_before res.2.2.2.1 x_region x_parts x_next x_ways x_more x_whole x_isSaved res.2.2.2.2.1 x_isWithin res.2.2.2.2.2 x_input x_length x_fault x_failed x_signs x_signMany x_at x_told x_toldMany) res.1 :=
  mkI (cc := cX13_folds) (maxL := 9) (by decide) rfl (Nat.le_of_ble_eq_true rfl) (fun p e s m args below meth c A H locs ls E hK hA hW hl => k_X13_folds_0 E hK hA hf hW hl)

/-! PaperStormModel.foldRow(I)I X13_foldRow -/
abbrev rm_X13_foldRow : Room := { frames := 3, cells := 0, slots := 0, locals := 74 }
noncomputable def f_X13_foldRow (x_g : Nat → Int32) (x_kept : Nat → Int32) (x_was : Nat → Int32) (x_changes : Int32) (x_isWithin : Int32) (x_code : Int32) (a1 : Int32) : Option (Int32 × (Nat → Int32) × (Nat → Int32) × (Nat → Int32) × Int32 × Int32) :=
  (f_X13_folds x_g x_kept x_was x_changes x_isWithin x_code a1 5 1).bind fun r4 => some (r4.1, r4.2.1, r4.2.2.1, r4.2.2.2.1, r4.2.2.2.2.1, r4.2.2.2.2.2)
abbrev G_X13_foldRow (p : Program) (l : Launch) (e : Env) (s : State) (m : MethodId) (args : Array Value) (below : List Frame) (meth : Method) (c : Code) (g : GE) (A : Nat → Prop) (h0 h1 h2 h3 h4 h5 h6 h7 h8 h9 h10 h11 h12 h13 : Nat) (x_saved : Nat → Int32) (x_before : Nat → Int32) (x_region : Nat → Int32) (x_parts : Nat → Int64) (x_next : Nat → Int64) (x_ways : Nat → Int32) (x_more : Nat → Int32) (x_whole : Int64) (x_isSaved : Int32) (x_isWithin : Int32) (x_input : Nat → Int32) (x_length : Int32) (x_fault : Int32) (x_failed : Int32) (x_signs : Nat → Int32) (x_signMany : Int32) (x_at : Int32) (x_told : Nat → Int32) (x_toldMany : Int32) (res : Int32 × (Nat → Int32) × (Nat → Int32) × (Nat → Int32) × Int32 × Int32) (H : Heap) (locs : List Loc) (pc : Nat) (ls : Array Slot) (st : List Value) : Prop := W p l e (headSpec wsX13_foldRow rm_X13_foldRow).room s m args below meth c H locs 0 0 (MQ below (PoI g A (w_X13 g h0 h1 h2 h3 h4 h5 h6 h7 h8 h9 h10 h11 h12 h13 res.2.1 res.2.2.1 x_saved x_before res.2.2.2.1 x_region x_parts x_next x_ways x_more x_whole x_isSaved res.2.2.2.2.1 x_isWithin res.2.2.2.2.2 x_input x_length x_fault x_failed x_signs x_signMany x_at x_told x_toldMany) res.1) args s 0 0 A) (F0 m pc ls st)
set_option maxHeartbeats 4000000 in
set_option maxRecDepth 100000 in
theorem k_X13_foldRow_0 {p : Program} {l : Launch} {e : Env} {s : State} {m : MethodId} {args : Array Value} {below : List Frame} {meth : Method} {c : Code} {g : GE} {A : Nat → Prop} {h0 h1 h2 h3 h4 h5 h6 h7 h8 h9 h10 h11 h12 h13 : Nat} {x_g : Nat → Int32} {x_kept : Nat → Int32} {x_saved : Nat → Int32} {x_before : Nat → Int32} {x_was : Nat → Int32} {x_region : Nat → Int32} {x_parts : Nat → Int64} {x_next : Nat → Int64} {x_ways : Nat → Int32} {x_more : Nat → Int32} {x_whole : Int64} {x_isSaved : Int32} {x_changes : Int32} {x_isWithin : Int32} {x_code : Int32} {x_input : Nat → Int32} {x_length : Int32} {x_fault : Int32} {x_failed : Int32} {x_signs : Nat → Int32} {x_signMany : Int32} {x_at : Int32} {x_told : Nat → Int32} {x_toldMany : Int32} {res : Int32 × (Nat → Int32) × (Nat → Int32) × (Nat → Int32) × Int32 × Int32} {H : Heap} {locs : List Loc} {ls : Array Slot} {a1 : Int32}
    (E : En cX13_foldRow RX13 wsX13_foldRow 2 (some .int) p s m args meth c) (hK : KK g s) (hA : ∀ q, s.heap.size ≤ q → A q) (h : f_X13_foldRow x_g x_kept x_was x_changes x_isWithin x_code a1 = some res) (hW : Wo g A s H locs (w_X13 g h0 h1 h2 h3 h4 h5 h6 h7 h8 h9 h10 h11 h12 h13 x_g x_kept x_saved x_before x_was x_region x_parts x_next x_ways x_more x_whole x_isSaved x_changes x_isWithin x_code x_input x_length x_fault x_failed x_signs x_signMany x_at x_told x_toldMany)) (hl : lv_has ls 2 [(0, .ref h0), (1, .int a1)]) : G_X13_foldRow p l e s m args below meth c g A h0 h1 h2 h3 h4 h5 h6 h7 h8 h9 h10 h11 h12 h13 x_saved x_before x_region x_parts x_next x_ways x_more x_whole x_isSaved x_isWithin x_input x_length x_fault x_failed x_signs x_signMany x_at x_told x_toldMany res H locs 0 ls [] := by
  have hts := E.2.2.2.1
  unfold f_X13_foldRow at h
  refine lv_aload_n E.1 E.2.1 dX13_foldRow_0 rfl (lv_at hl 0 rfl) ?_
  refine lv_iload_n E.1 E.2.1 dX13_foldRow_1 rfl (lv_at hl 1 rfl) ?_
  refine lv_iconst (v := 5) E.1 E.2.1 dX13_foldRow_2 (by decide) ?_
  refine lv_iconst (v := 1) E.1 E.2.1 dX13_foldRow_3 (by decide) ?_
  obtain ⟨r4, hc, h⟩ := bx h
  refine goI (world' := (w_X13 g h0 h1 h2 h3 h4 h5 h6 h7 h8 h9 h10 h11 h12 h13 r4.2.1 r4.2.2.1 x_saved x_before r4.2.2.2.1 x_region x_parts x_next x_ways x_more x_whole x_isSaved r4.2.2.2.2.1 x_isWithin r4.2.2.2.2.2 x_input x_length x_fault x_failed x_signs x_signMany x_at x_told x_toldMany)) hW hA (is := [0, 1, 2, 3, 4, 5, 6, 7, 8, 9, 10, 11, 12, 13]) rfl (goV (rest := []) E hK hW [0, 1, 2, 3, 4, 5, 6, 7, 8, 9, 10, 11, 12, 13] rfl rfl (c_X13_folds l g h0 h1 h2 h3 h4 h5 h6 h7 h8 h9 h10 h11 h12 h13 x_g x_kept x_saved x_before x_was x_region x_parts x_next x_ways x_more x_whole x_isSaved x_changes x_isWithin x_code x_input x_length x_fault x_failed x_signs x_signMany x_at x_told x_toldMany a1 5 1 (hf := hc) H.size) (cwV 3 hts gX13_foldRow_X13_folds rfl rfl rfl (by decide +kernel) ⟨Nat.le_of_ble_eq_true rfl, Nat.le_of_ble_eq_true rfl⟩) 0 rfl rfl rfl hl.1 rfl rfl (Nat.le_of_ble_eq_true rfl) dX13_foldRow_4 ⟨Nat.zero_le _, Nat.zero_le _⟩) rfl rfl (fun H locs hW => ?_)
  obtain rfl := Option.some.inj h
  exact endI E rfl hW dX13_foldRow_7
theorem c_X13_foldRow (l : Launch) (g : GE) (h0 h1 h2 h3 h4 h5 h6 h7 h8 h9 h10 h11 h12 h13 : Nat) (x_g : Nat → Int32) (x_kept : Nat → Int32) (x_saved : Nat → Int32) (x_before : Nat → Int32) (x_was : Nat → Int32) (x_region : Nat → Int32) (x_parts : Nat → Int64) (x_next : Nat → Int64) (x_ways : Nat → Int32) (x_more : Nat → Int32) (x_whole : Int64) (x_isSaved : Int32) (x_changes : Int32) (x_isWithin : Int32) (x_code : Int32) (x_input : Nat → Int32) (x_length : Int32) (x_fault : Int32) (x_failed : Int32) (x_signs : Nat → Int32) (x_signMany : Int32) (x_at : Int32) (x_told : Nat → Int32) (x_toldMany : Int32) (a1 : Int32) {res : Int32 × (Nat → Int32) × (Nat → Int32) × (Nat → Int32) × Int32 × Int32} (hf : f_X13_foldRow x_g x_kept x_was x_changes x_isWithin x_code a1 = some res) : CI l yX13_foldRow wsX13_foldRow rm_X13_foldRow g [.ref h0, .int a1] (w_X13 g h0 h1 h2 h3 h4 h5 h6 h7 h8 h9 h10 h11 h12 h13 x_g x_kept x_saved x_before x_was x_region x_parts x_next x_ways x_more x_whole x_isSaved x_changes x_isWithin x_code x_input x_length x_fault x_failed x_signs x_signMany x_at x_told x_toldMany) (w_X13 g h0 h1 h2 h3 h4 h5 h6 h7 h8 h9 h10 h11 h12 h13 res.2.1 res.2.2.1 x_saved x_before res.2.2.2.1 x_region x_parts x_next x_ways x_more x_whole x_isSaved res.2.2.2.2.1 x_isWithin res.2.2.2.2.2 x_input x_length x_fault x_failed x_signs x_signMany x_at x_told x_toldMany) res.1 :=
  mkI (cc := cX13_foldRow) (maxL := 2) (by decide) rfl (Nat.le_of_ble_eq_true rfl) (fun p e s m args below meth c A H locs ls E hK hA hW hl => k_X13_foldRow_0 E hK hA hf hW hl)

/-! PaperStormModel.foldColumn(I)I X13_foldColumn -/
abbrev rm_X13_foldColumn : Room := { frames := 3, cells := 0, slots := 0, locals := 74 }
noncomputable def f_X13_foldColumn (x_g : Nat → Int32) (x_kept : Nat → Int32) (x_was : Nat → Int32) (x_changes : Int32) (x_isWithin : Int32) (x_code : Int32) (a1 : Int32) : Option (Int32 × (Nat → Int32) × (Nat → Int32) × (Nat → Int32) × Int32 × Int32) :=
  (f_X13_folds x_g x_kept x_was x_changes x_isWithin x_code a1 1 5).bind fun r4 => some (r4.1, r4.2.1, r4.2.2.1, r4.2.2.2.1, r4.2.2.2.2.1, r4.2.2.2.2.2)
abbrev G_X13_foldColumn (p : Program) (l : Launch) (e : Env) (s : State) (m : MethodId) (args : Array Value) (below : List Frame) (meth : Method) (c : Code) (g : GE) (A : Nat → Prop) (h0 h1 h2 h3 h4 h5 h6 h7 h8 h9 h10 h11 h12 h13 : Nat) (x_saved : Nat → Int32) (x_before : Nat → Int32) (x_region : Nat → Int32) (x_parts : Nat → Int64) (x_next : Nat → Int64) (x_ways : Nat → Int32) (x_more : Nat → Int32) (x_whole : Int64) (x_isSaved : Int32) (x_isWithin : Int32) (x_input : Nat → Int32) (x_length : Int32) (x_fault : Int32) (x_failed : Int32) (x_signs : Nat → Int32) (x_signMany : Int32) (x_at : Int32) (x_told : Nat → Int32) (x_toldMany : Int32) (res : Int32 × (Nat → Int32) × (Nat → Int32) × (Nat → Int32) × Int32 × Int32) (H : Heap) (locs : List Loc) (pc : Nat) (ls : Array Slot) (st : List Value) : Prop := W p l e (headSpec wsX13_foldColumn rm_X13_foldColumn).room s m args below meth c H locs 0 0 (MQ below (PoI g A (w_X13 g h0 h1 h2 h3 h4 h5 h6 h7 h8 h9 h10 h11 h12 h13 res.2.1 res.2.2.1 x_saved x_before res.2.2.2.1 x_region x_parts x_next x_ways x_more x_whole x_isSaved res.2.2.2.2.1 x_isWithin res.2.2.2.2.2 x_input x_length x_fault x_failed x_signs x_signMany x_at x_told x_toldMany) res.1) args s 0 0 A) (F0 m pc ls st)
set_option maxHeartbeats 4000000 in
set_option maxRecDepth 100000 in
theorem k_X13_foldColumn_0 {p : Program} {l : Launch} {e : Env} {s : State} {m : MethodId} {args : Array Value} {below : List Frame} {meth : Method} {c : Code} {g : GE} {A : Nat → Prop} {h0 h1 h2 h3 h4 h5 h6 h7 h8 h9 h10 h11 h12 h13 : Nat} {x_g : Nat → Int32} {x_kept : Nat → Int32} {x_saved : Nat → Int32} {x_before : Nat → Int32} {x_was : Nat → Int32} {x_region : Nat → Int32} {x_parts : Nat → Int64} {x_next : Nat → Int64} {x_ways : Nat → Int32} {x_more : Nat → Int32} {x_whole : Int64} {x_isSaved : Int32} {x_changes : Int32} {x_isWithin : Int32} {x_code : Int32} {x_input : Nat → Int32} {x_length : Int32} {x_fault : Int32} {x_failed : Int32} {x_signs : Nat → Int32} {x_signMany : Int32} {x_at : Int32} {x_told : Nat → Int32} {x_toldMany : Int32} {res : Int32 × (Nat → Int32) × (Nat → Int32) × (Nat → Int32) × Int32 × Int32} {H : Heap} {locs : List Loc} {ls : Array Slot} {a1 : Int32}
    (E : En cX13_foldColumn RX13 wsX13_foldColumn 2 (some .int) p s m args meth c) (hK : KK g s) (hA : ∀ q, s.heap.size ≤ q → A q) (h : f_X13_foldColumn x_g x_kept x_was x_changes x_isWithin x_code a1 = some res) (hW : Wo g A s H locs (w_X13 g h0 h1 h2 h3 h4 h5 h6 h7 h8 h9 h10 h11 h12 h13 x_g x_kept x_saved x_before x_was x_region x_parts x_next x_ways x_more x_whole x_isSaved x_changes x_isWithin x_code x_input x_length x_fault x_failed x_signs x_signMany x_at x_told x_toldMany)) (hl : lv_has ls 2 [(0, .ref h0), (1, .int a1)]) : G_X13_foldColumn p l e s m args below meth c g A h0 h1 h2 h3 h4 h5 h6 h7 h8 h9 h10 h11 h12 h13 x_saved x_before x_region x_parts x_next x_ways x_more x_whole x_isSaved x_isWithin x_input x_length x_fault x_failed x_signs x_signMany x_at x_told x_toldMany res H locs 0 ls [] := by
  have hts := E.2.2.2.1
  unfold f_X13_foldColumn at h
  refine lv_aload_n E.1 E.2.1 dX13_foldColumn_0 rfl (lv_at hl 0 rfl) ?_
  refine lv_iload_n E.1 E.2.1 dX13_foldColumn_1 rfl (lv_at hl 1 rfl) ?_
  refine lv_iconst (v := 1) E.1 E.2.1 dX13_foldColumn_2 (by decide) ?_
  refine lv_iconst (v := 5) E.1 E.2.1 dX13_foldColumn_3 (by decide) ?_
  obtain ⟨r4, hc, h⟩ := bx h
  refine goI (world' := (w_X13 g h0 h1 h2 h3 h4 h5 h6 h7 h8 h9 h10 h11 h12 h13 r4.2.1 r4.2.2.1 x_saved x_before r4.2.2.2.1 x_region x_parts x_next x_ways x_more x_whole x_isSaved r4.2.2.2.2.1 x_isWithin r4.2.2.2.2.2 x_input x_length x_fault x_failed x_signs x_signMany x_at x_told x_toldMany)) hW hA (is := [0, 1, 2, 3, 4, 5, 6, 7, 8, 9, 10, 11, 12, 13]) rfl (goV (rest := []) E hK hW [0, 1, 2, 3, 4, 5, 6, 7, 8, 9, 10, 11, 12, 13] rfl rfl (c_X13_folds l g h0 h1 h2 h3 h4 h5 h6 h7 h8 h9 h10 h11 h12 h13 x_g x_kept x_saved x_before x_was x_region x_parts x_next x_ways x_more x_whole x_isSaved x_changes x_isWithin x_code x_input x_length x_fault x_failed x_signs x_signMany x_at x_told x_toldMany a1 1 5 (hf := hc) H.size) (cwV 3 hts gX13_foldColumn_X13_folds rfl rfl rfl (by decide +kernel) ⟨Nat.le_of_ble_eq_true rfl, Nat.le_of_ble_eq_true rfl⟩) 0 rfl rfl rfl hl.1 rfl rfl (Nat.le_of_ble_eq_true rfl) dX13_foldColumn_4 ⟨Nat.zero_le _, Nat.zero_le _⟩) rfl rfl (fun H locs hW => ?_)
  obtain rfl := Option.some.inj h
  exact endI E rfl hW dX13_foldColumn_7
theorem c_X13_foldColumn (l : Launch) (g : GE) (h0 h1 h2 h3 h4 h5 h6 h7 h8 h9 h10 h11 h12 h13 : Nat) (x_g : Nat → Int32) (x_kept : Nat → Int32) (x_saved : Nat → Int32) (x_before : Nat → Int32) (x_was : Nat → Int32) (x_region : Nat → Int32) (x_parts : Nat → Int64) (x_next : Nat → Int64) (x_ways : Nat → Int32) (x_more : Nat → Int32) (x_whole : Int64) (x_isSaved : Int32) (x_changes : Int32) (x_isWithin : Int32) (x_code : Int32) (x_input : Nat → Int32) (x_length : Int32) (x_fault : Int32) (x_failed : Int32) (x_signs : Nat → Int32) (x_signMany : Int32) (x_at : Int32) (x_told : Nat → Int32) (x_toldMany : Int32) (a1 : Int32) {res : Int32 × (Nat → Int32) × (Nat → Int32) × (Nat → Int32) × Int32 × Int32} (hf : f_X13_foldColumn x_g x_kept x_was x_changes x_isWithin x_code a1 = some res) : CI l yX13_foldColumn wsX13_foldColumn rm_X13_foldColumn g [.ref h0, .int a1] (w_X13 g h0 h1 h2 h3 h4 h5 h6 h7 h8 h9 h10 h11 h12 h13 x_g x_kept x_saved x_before x_was x_region x_parts x_next x_ways x_more x_whole x_isSaved x_changes x_isWithin x_code x_input x_length x_fault x_failed x_signs x_signMany x_at x_told x_toldMany) (w_X13 g h0 h1 h2 h3 h4 h5 h6 h7 h8 h9 h10 h11 h12 h13 res.2.1 res.2.2.1 x_saved x_before res.2.2.2.1 x_region x_parts x_next x_ways x_more x_whole x_isSaved res.2.2.2.2.1 x_isWithin res.2.2.2.2.2 x_input x_length x_fault x_failed x_signs x_signMany x_at x_told x_toldMany) res.1 :=
  mkI (cc := cX13_foldColumn) (maxL := 2) (by decide) rfl (Nat.le_of_ble_eq_true rfl) (fun p e s m args below meth c A H locs ls E hK hA hW hl => k_X13_foldColumn_0 E hK hA hf hW hl)

/-! PaperStormModel.shift(C)I X13_shift -/
abbrev rm_X13_shift : Room := { frames := 2, cells := 0, slots := 0, locals := 46 }
theorem in_X13_shift_X13 : ∀ w ∈ wsX130, w ∈ wsX13_shift := by decide +kernel
theorem lk_X13_shift_22 : Cond.fieldLink RX13 22 "PaperStormModel" "was" "[I" ∈ wsX13_shift := by decide +kernel
theorem lk_X13_shift_7 : Cond.fieldLink RX13 7 "PaperStormModel" "g" "[I" ∈ wsX13_shift := by decide +kernel
noncomputable def f_X13_shift_79 (x_was : Nat → Int32) (l2 : Int32) (l3 : Int32) (z126 : (Nat → Int32) → Option (Int32 × (Nat → Int32) × (Nat → Int32) × (Nat → Int32) × Int32 × Int32)) : Nat → Int32 → (Nat → Int32) → Option (Int32 × (Nat → Int32) × (Nat → Int32) × (Nat → Int32) × Int32 × Int32)
  | 0, _, _ => none
  | n + 1, l4_79, x_g_79 => if 25 ≤ l4_79 then z126 x_g_79 else if l4_79 < 0 ∨ 25 ≤ l4_79.toNatClampNeg then none else if ((7 + (5 * (((l4_79 / 5) + l2) - ((l4_79 / 5) + l2) / 5 * 5))) + (((l4_79 - l4_79 / 5 * 5) + l3) - ((l4_79 - l4_79 / 5 * 5) + l3) / 5 * 5)) < 0 ∨ 60 ≤ ((7 + (5 * (((l4_79 / 5) + l2) - ((l4_79 / 5) + l2) / 5 * 5))) + (((l4_79 - l4_79 / 5 * 5) + l3) - ((l4_79 - l4_79 / 5 * 5) + l3) / 5 * 5)).toNatClampNeg then none else f_X13_shift_79 x_was l2 l3 z126 n (l4_79 + 1) (upd x_g_79 ((7 + (5 * (((l4_79 / 5) + l2) - ((l4_79 / 5) + l2) / 5 * 5))) + (((l4_79 - l4_79 / 5 * 5) + l3) - ((l4_79 - l4_79 / 5 * 5) + l3) / 5 * 5)).toNatClampNeg (x_was l4_79.toNatClampNeg))
noncomputable def f_X13_shift (x_g : Nat → Int32) (x_kept : Nat → Int32) (x_was : Nat → Int32) (x_changes : Int32) (x_isWithin : Int32) (x_code : Int32) (a1 : Int32) : Option (Int32 × (Nat → Int32) × (Nat → Int32) × (Nat → Int32) × Int32 × Int32) :=
  jo (fun (s0_21 : Int32) => jo (fun (l2_43 : Int32) (s0_43 : Int32) => jo (fun (l3_56 : Int32) (s1_56 : Int32) => (f_X13_fails x_code s1_56).bind fun r56 => if r56.1 = 0 then (f_X13_looks x_g x_was).bind fun r65 => (f_X13_keeps__g x_g x_kept x_changes x_isWithin r56.2).bind fun r73 => f_X13_shift_79 r65 l2_43 l3_56 (fun x_g_126e => (f_X13_others x_g_126e r65).bind fun r127 => some (r127, x_g_126e, r73.1, r65, r73.2.1, r73.2.2)) 1000 0 x_g else some (0, x_g, x_kept, x_was, x_changes, r56.2)) (fun j56 => if (l2_43 + s0_43) = 0 then j56 s0_43 1 else j56 s0_43 0)) (fun j43 => if a1 = 119 then j43 s0_21 4 else if a1 = 101 then j43 s0_21 1 else j43 s0_21 0)) (fun j21 => if a1 = 110 then j21 4 else if a1 = 115 then j21 1 else j21 0)
abbrev G_X13_shift (p : Program) (l : Launch) (e : Env) (s : State) (m : MethodId) (args : Array Value) (below : List Frame) (meth : Method) (c : Code) (g : GE) (A : Nat → Prop) (h0 h1 h2 h3 h4 h5 h6 h7 h8 h9 h10 h11 h12 h13 : Nat) (x_saved : Nat → Int32) (x_before : Nat → Int32) (x_region : Nat → Int32) (x_parts : Nat → Int64) (x_next : Nat → Int64) (x_ways : Nat → Int32) (x_more : Nat → Int32) (x_whole : Int64) (x_isSaved : Int32) (x_isWithin : Int32) (x_input : Nat → Int32) (x_length : Int32) (x_fault : Int32) (x_failed : Int32) (x_signs : Nat → Int32) (x_signMany : Int32) (x_at : Int32) (x_told : Nat → Int32) (x_toldMany : Int32) (res : Int32 × (Nat → Int32) × (Nat → Int32) × (Nat → Int32) × Int32 × Int32) (H : Heap) (locs : List Loc) (pc : Nat) (ls : Array Slot) (st : List Value) : Prop := W p l e (headSpec wsX13_shift rm_X13_shift).room s m args below meth c H locs 0 0 (MQ below (PoI g A (w_X13 g h0 h1 h2 h3 h4 h5 h6 h7 h8 h9 h10 h11 h12 h13 res.2.1 res.2.2.1 x_saved x_before res.2.2.2.1 x_region x_parts x_next x_ways x_more x_whole x_isSaved res.2.2.2.2.1 x_isWithin res.2.2.2.2.2 x_input x_length x_fault x_failed x_signs x_signMany x_at x_told x_toldMany) res.1) args s 0 0 A) (F0 m pc ls st)
set_option maxHeartbeats 4000000 in
set_option maxRecDepth 100000 in
theorem k_X13_shift_79 {p : Program} {l : Launch} {e : Env} {s : State} {m : MethodId} {args : Array Value} {below : List Frame} {meth : Method} {c : Code} {g : GE} {A : Nat → Prop} {h0 h1 h2 h3 h4 h5 h6 h7 h8 h9 h10 h11 h12 h13 : Nat} {x_kept : Nat → Int32} {x_saved : Nat → Int32} {x_before : Nat → Int32} {x_was : Nat → Int32} {x_region : Nat → Int32} {x_parts : Nat → Int64} {x_next : Nat → Int64} {x_ways : Nat → Int32} {x_more : Nat → Int32} {x_whole : Int64} {x_isSaved : Int32} {x_changes : Int32} {x_isWithin : Int32} {x_code : Int32} {x_input : Nat → Int32} {x_length : Int32} {x_fault : Int32} {x_failed : Int32} {x_signs : Nat → Int32} {x_signMany : Int32} {x_at : Int32} {x_told : Nat → Int32} {x_toldMany : Int32} {res : Int32 × (Nat → Int32) × (Nat → Int32) × (Nat → Int32) × Int32 × Int32} {l2 : Int32} {l3 : Int32} {z126 : (Nat → Int32) → Option (Int32 × (Nat → Int32) × (Nat → Int32) × (Nat → Int32) × Int32 × Int32)}
    (E : En cX13_shift RX13 wsX13_shift 5 (some .int) p s m args meth c) (hK : KK g s) (hA : ∀ q, s.heap.size ≤ q → A q)
    (hz126 : ∀ (x_g_126e : Nat → Int32) (H : Heap) (locs : List Loc) (ls : Array Slot), z126 x_g_126e = some res → Wo g A s H locs (w_X13 g h0 h1 h2 h3 h4 h5 h6 h7 h8 h9 h10 h11 h12 h13 x_g_126e x_kept x_saved x_before x_was x_region x_parts x_next x_ways x_more x_whole x_isSaved x_changes x_isWithin x_code x_input x_length x_fault x_failed x_signs x_signMany x_at x_told x_toldMany) → lv_has ls 5 [(0, .ref h0)] → G_X13_shift p l e s m args below meth c g A h0 h1 h2 h3 h4 h5 h6 h7 h8 h9 h10 h11 h12 h13 x_saved x_before x_region x_parts x_next x_ways x_more x_whole x_isSaved x_isWithin x_input x_length x_fault x_failed x_signs x_signMany x_at x_told x_toldMany res H locs 126 ls [])
    : ∀ (n : Nat) (l4_79 : Int32) (x_g_79 : Nat → Int32) (H : Heap) (locs : List Loc) (ls : Array Slot), f_X13_shift_79 x_was l2 l3 z126 n l4_79 x_g_79 = some res → Wo g A s H locs (w_X13 g h0 h1 h2 h3 h4 h5 h6 h7 h8 h9 h10 h11 h12 h13 x_g_79 x_kept x_saved x_before x_was x_region x_parts x_next x_ways x_more x_whole x_isSaved x_changes x_isWithin x_code x_input x_length x_fault x_failed x_signs x_signMany x_at x_told x_toldMany) → lv_has ls 5 [(0, .ref h0), (2, .int l2), (3, .int l3), (4, .int l4_79)] → G_X13_shift p l e s m args below meth c g A h0 h1 h2 h3 h4 h5 h6 h7 h8 h9 h10 h11 h12 h13 x_saved x_before x_region x_parts x_next x_ways x_more x_whole x_isSaved x_isWithin x_input x_length x_fault x_failed x_signs x_signMany x_at x_told x_toldMany res H locs 79 ls [] := by
  have hts := E.2.2.2.1
  intro n
  induction n with
  | zero => intro l4_79 x_g_79 H locs ls h hW hl; rw [f_X13_shift_79] at h; cases h
  | succ n ih =>
    intro l4_79 x_g_79 H locs ls h hW hl
    rw [f_X13_shift_79] at h
    refine lv_iload E.1 E.2.1 dX13_shift_79 (lv_at hl 3 rfl) ?_
    refine lv_bipush (v := 25) E.1 E.2.1 dX13_shift_81 (by decide) ?_
    refine lv_icmp_ge (tgt := 126) E.1 E.2.1 dX13_shift_83 (by decide) (fun c83 => ?_) (fun c83 => ?_)
    · have h := it c83 h
      exact hz126 x_g_79 H locs ls h hW (lv_sub hl [0] rfl)
    · have h := ie c83 h
      refine lv_aload_n E.1 E.2.1 dX13_shift_86 rfl (lv_at hl 0 rfl) ?_
      refine wGet (v := .ref h1) E hK in_X13_shift_X13 hW 0 lk_X13_shift_7 0 rfl rfl (by decide) rfl rfl dX13_shift_87 ?_
      refine lv_bipush (v := 7) E.1 E.2.1 dX13_shift_90 (by decide) ?_
      refine lv_iconst (v := 5) E.1 E.2.1 dX13_shift_92 (by decide) ?_
      refine lv_iload E.1 E.2.1 dX13_shift_93 (lv_at hl 3 rfl) ?_
      refine lv_iconst (v := 5) E.1 E.2.1 dX13_shift_95 (by decide) ?_
      refine lv_idiv E.1 E.2.1 dX13_shift_96 (by decide) ?_
      refine lv_iload_n E.1 E.2.1 dX13_shift_97 rfl (lv_at hl 1 rfl) ?_
      refine lv_iadd E.1 E.2.1 dX13_shift_98 ?_
      refine lv_iconst (v := 5) E.1 E.2.1 dX13_shift_99 (by decide) ?_
      refine lv_irem E.1 E.2.1 dX13_shift_100 (by decide) ?_
      refine lv_imul E.1 E.2.1 dX13_shift_101 ?_
      refine lv_iadd E.1 E.2.1 dX13_shift_102 ?_
      refine lv_iload E.1 E.2.1 dX13_shift_103 (lv_at hl 3 rfl) ?_
      refine lv_iconst (v := 5) E.1 E.2.1 dX13_shift_105 (by decide) ?_
      refine lv_irem E.1 E.2.1 dX13_shift_106 (by decide) ?_
      refine lv_iload_n E.1 E.2.1 dX13_shift_107 rfl (lv_at hl 2 rfl) ?_
      refine lv_iadd E.1 E.2.1 dX13_shift_108 ?_
      refine lv_iconst (v := 5) E.1 E.2.1 dX13_shift_109 (by decide) ?_
      refine lv_irem E.1 E.2.1 dX13_shift_110 (by decide) ?_
      refine lv_iadd E.1 E.2.1 dX13_shift_111 ?_
      refine lv_aload_n E.1 E.2.1 dX13_shift_112 rfl (lv_at hl 0 rfl) ?_
      refine wGet (v := .ref h5) E hK in_X13_shift_X13 hW 4 lk_X13_shift_22 0 rfl rfl (by decide) rfl rfl dX13_shift_113 ?_
      refine lv_iload E.1 E.2.1 dX13_shift_116 (lv_at hl 3 rfl) ?_
      obtain ⟨hi118, h⟩ := ox h
      refine wIald E hK hW 5 rfl hi118 dX13_shift_118 ?_
      obtain ⟨hi119, h⟩ := ox h
      refine wIast (world' := (w_X13 g h0 h1 h2 h3 h4 h5 h6 h7 h8 h9 h10 h11 h12 h13 (upd x_g_79 ((7 + (5 * (((l4_79 / 5) + l2) - ((l4_79 / 5) + l2) / 5 * 5))) + (((l4_79 - l4_79 / 5 * 5) + l3) - ((l4_79 - l4_79 / 5 * 5) + l3) / 5 * 5)).toNatClampNeg (x_was l4_79.toNatClampNeg)) x_kept x_saved x_before x_was x_region x_parts x_next x_ways x_more x_whole x_isSaved x_changes x_isWithin x_code x_input x_length x_fault x_failed x_signs x_signMany x_at x_told x_toldMany)) E hK hW 1 rfl hi119 dX13_shift_119 rfl (fun H locs hW => ?_)
      refine lv_iinc (v := (l4_79 + 1)) (lv' := [(4, .int (l4_79 + 1)), (0, .ref h0), (2, .int l2), (3, .int l3)]) E.1 E.2.1 dX13_shift_120 hl (k := 3) rfl rfl (by decide) rfl (fun ls hl => ?_)
      refine lv_goto (tgt := 79) E.1 E.2.1 dX13_shift_123 (by decide) ?_
      exact ih (l4_79 + 1) (upd x_g_79 ((7 + (5 * (((l4_79 / 5) + l2) - ((l4_79 / 5) + l2) / 5 * 5))) + (((l4_79 - l4_79 / 5 * 5) + l3) - ((l4_79 - l4_79 / 5 * 5) + l3) / 5 * 5)).toNatClampNeg (x_was l4_79.toNatClampNeg)) H locs ls h hW (lv_sub hl [1, 2, 3, 0] rfl)
set_option maxHeartbeats 4000000 in
set_option maxRecDepth 100000 in
theorem k_X13_shift_0 {p : Program} {l : Launch} {e : Env} {s : State} {m : MethodId} {args : Array Value} {below : List Frame} {meth : Method} {c : Code} {g : GE} {A : Nat → Prop} {h0 h1 h2 h3 h4 h5 h6 h7 h8 h9 h10 h11 h12 h13 : Nat} {x_g : Nat → Int32} {x_kept : Nat → Int32} {x_saved : Nat → Int32} {x_before : Nat → Int32} {x_was : Nat → Int32} {x_region : Nat → Int32} {x_parts : Nat → Int64} {x_next : Nat → Int64} {x_ways : Nat → Int32} {x_more : Nat → Int32} {x_whole : Int64} {x_isSaved : Int32} {x_changes : Int32} {x_isWithin : Int32} {x_code : Int32} {x_input : Nat → Int32} {x_length : Int32} {x_fault : Int32} {x_failed : Int32} {x_signs : Nat → Int32} {x_signMany : Int32} {x_at : Int32} {x_told : Nat → Int32} {x_toldMany : Int32} {res : Int32 × (Nat → Int32) × (Nat → Int32) × (Nat → Int32) × Int32 × Int32} {H : Heap} {locs : List Loc} {ls : Array Slot} {a1 : Int32}
    (E : En cX13_shift RX13 wsX13_shift 5 (some .int) p s m args meth c) (hK : KK g s) (hA : ∀ q, s.heap.size ≤ q → A q) (h : f_X13_shift x_g x_kept x_was x_changes x_isWithin x_code a1 = some res) (hW : Wo g A s H locs (w_X13 g h0 h1 h2 h3 h4 h5 h6 h7 h8 h9 h10 h11 h12 h13 x_g x_kept x_saved x_before x_was x_region x_parts x_next x_ways x_more x_whole x_isSaved x_changes x_isWithin x_code x_input x_length x_fault x_failed x_signs x_signMany x_at x_told x_toldMany)) (hl : lv_has ls 5 [(0, .ref h0), (1, .int a1)]) : G_X13_shift p l e s m args below meth c g A h0 h1 h2 h3 h4 h5 h6 h7 h8 h9 h10 h11 h12 h13 x_saved x_before x_region x_parts x_next x_ways x_more x_whole x_isSaved x_isWithin x_input x_length x_fault x_failed x_signs x_signMany x_at x_told x_toldMany res H locs 0 ls [] := by
  have hts := E.2.2.2.1
  unfold f_X13_shift at h
  obtain ⟨j21, hj21, h⟩ := jox1 h
  have J21 : ∀ (s0_21 : Int32) (H : Heap) (locs : List Loc) (ls : Array Slot), j21 s0_21 = some res → Wo g A s H locs (w_X13 g h0 h1 h2 h3 h4 h5 h6 h7 h8 h9 h10 h11 h12 h13 x_g x_kept x_saved x_before x_was x_region x_parts x_next x_ways x_more x_whole x_isSaved x_changes x_isWithin x_code x_input x_length x_fault x_failed x_signs x_signMany x_at x_told x_toldMany) → lv_has ls 5 [(0, .ref h0), (1, .int a1)] → G_X13_shift p l e s m args below meth c g A h0 h1 h2 h3 h4 h5 h6 h7 h8 h9 h10 h11 h12 h13 x_saved x_before x_region x_parts x_next x_ways x_more x_whole x_isSaved x_isWithin x_input x_length x_fault x_failed x_signs x_signMany x_at x_told x_toldMany res H locs 21 ls [.int s0_21] := by
    intro s0_21 H locs ls h hW hl
    rw [hj21] at h
    obtain ⟨j43, hj43, h⟩ := jox2 h
    have J43 : ∀ (l2_43 : Int32) (s0_43 : Int32) (H : Heap) (locs : List Loc) (ls : Array Slot), j43 l2_43 s0_43 = some res → Wo g A s H locs (w_X13 g h0 h1 h2 h3 h4 h5 h6 h7 h8 h9 h10 h11 h12 h13 x_g x_kept x_saved x_before x_was x_region x_parts x_next x_ways x_more x_whole x_isSaved x_changes x_isWithin x_code x_input x_length x_fault x_failed x_signs x_signMany x_at x_told x_toldMany) → lv_has ls 5 [(0, .ref h0), (2, .int l2_43)] → G_X13_shift p l e s m args below meth c g A h0 h1 h2 h3 h4 h5 h6 h7 h8 h9 h10 h11 h12 h13 x_saved x_before x_region x_parts x_next x_ways x_more x_whole x_isSaved x_isWithin x_input x_length x_fault x_failed x_signs x_signMany x_at x_told x_toldMany res H locs 43 ls [.int s0_43] := by
      intro l2_43 s0_43 H locs ls h hW hl
      rw [hj43] at h
      obtain ⟨j56, hj56, h⟩ := jox2 h
      have J56 : ∀ (l3_56 : Int32) (s1_56 : Int32) (H : Heap) (locs : List Loc) (ls : Array Slot), j56 l3_56 s1_56 = some res → Wo g A s H locs (w_X13 g h0 h1 h2 h3 h4 h5 h6 h7 h8 h9 h10 h11 h12 h13 x_g x_kept x_saved x_before x_was x_region x_parts x_next x_ways x_more x_whole x_isSaved x_changes x_isWithin x_code x_input x_length x_fault x_failed x_signs x_signMany x_at x_told x_toldMany) → lv_has ls 5 [(0, .ref h0), (2, .int l2_43), (3, .int l3_56)] → G_X13_shift p l e s m args below meth c g A h0 h1 h2 h3 h4 h5 h6 h7 h8 h9 h10 h11 h12 h13 x_saved x_before x_region x_parts x_next x_ways x_more x_whole x_isSaved x_isWithin x_input x_length x_fault x_failed x_signs x_signMany x_at x_told x_toldMany res H locs 56 ls [.int s1_56, .ref h0] := by
        intro l3_56 s1_56 H locs ls h hW hl
        rw [hj56] at h
        obtain ⟨r56, hc, h⟩ := bx h
        refine goI (world' := (w_X13 g h0 h1 h2 h3 h4 h5 h6 h7 h8 h9 h10 h11 h12 h13 x_g x_kept x_saved x_before x_was x_region x_parts x_next x_ways x_more x_whole x_isSaved x_changes x_isWithin r56.2 x_input x_length x_fault x_failed x_signs x_signMany x_at x_told x_toldMany)) hW hA (is := [0, 1, 2, 3, 4, 5, 6, 7, 8, 9, 10, 11, 12, 13]) rfl (goV (rest := []) E hK hW [0, 1, 2, 3, 4, 5, 6, 7, 8, 9, 10, 11, 12, 13] rfl rfl (c_X13_fails l g h0 h1 h2 h3 h4 h5 h6 h7 h8 h9 h10 h11 h12 h13 x_g x_kept x_saved x_before x_was x_region x_parts x_next x_ways x_more x_whole x_isSaved x_changes x_isWithin x_code x_input x_length x_fault x_failed x_signs x_signMany x_at x_told x_toldMany s1_56 (hf := hc) H.size) (cwV 1 hts gX13_shift_X13_fails rfl rfl rfl (by decide +kernel) ⟨Nat.le_of_ble_eq_true rfl, Nat.le_of_ble_eq_true rfl⟩) 0 rfl rfl rfl hl.1 rfl rfl (Nat.le_of_ble_eq_true rfl) dX13_shift_56 ⟨Nat.zero_le _, Nat.zero_le _⟩) rfl rfl (fun H locs hW => ?_)
        refine lv_if_eq (tgt := 64) E.1 E.2.1 dX13_shift_59 (by decide) (fun c59 => ?_) (fun c59 => ?_)
        · have h := it c59 h
          refine lv_aload_n E.1 E.2.1 dX13_shift_64 rfl (lv_at hl 0 rfl) ?_
          obtain ⟨r65, hc, h⟩ := bx h
          refine goU (world' := (w_X13 g h0 h1 h2 h3 h4 h5 h6 h7 h8 h9 h10 h11 h12 h13 x_g x_kept x_saved x_before r65 x_region x_parts x_next x_ways x_more x_whole x_isSaved x_changes x_isWithin r56.2 x_input x_length x_fault x_failed x_signs x_signMany x_at x_told x_toldMany)) hW hA (is := [0, 1, 2, 3, 4, 5, 6, 7, 8, 9, 10, 11, 12, 13]) rfl (goV (rest := []) E hK hW [0, 1, 2, 3, 4, 5, 6, 7, 8, 9, 10, 11, 12, 13] rfl rfl (c_X13_looks l g h0 h1 h2 h3 h4 h5 h6 h7 h8 h9 h10 h11 h12 h13 x_g x_kept x_saved x_before x_was x_region x_parts x_next x_ways x_more x_whole x_isSaved x_changes x_isWithin r56.2 x_input x_length x_fault x_failed x_signs x_signMany x_at x_told x_toldMany (hf := hc) H.size) (cwV 0 hts gX13_shift_X13_looks rfl rfl rfl (by decide +kernel) ⟨Nat.le_of_ble_eq_true rfl, Nat.le_of_ble_eq_true rfl⟩) 0 rfl rfl rfl hl.1 rfl rfl (Nat.le_of_ble_eq_true rfl) dX13_shift_65 ⟨Nat.zero_le _, Nat.zero_le _⟩) rfl rfl (fun H locs hW => ?_)
          refine lv_aload_n E.1 E.2.1 dX13_shift_68 rfl (lv_at hl 0 rfl) ?_
          refine lv_aload_n E.1 E.2.1 dX13_shift_69 rfl (lv_at hl 0 rfl) ?_
          refine wGet (v := .ref h1) E hK in_X13_shift_X13 hW 0 lk_X13_shift_7 0 rfl rfl (by decide) rfl rfl dX13_shift_70 ?_
          obtain ⟨r73, hc, h⟩ := bx h
          refine goU (world' := (w_X13 g h0 h1 h2 h3 h4 h5 h6 h7 h8 h9 h10 h11 h12 h13 x_g r73.1 x_saved x_before r65 x_region x_parts x_next x_ways x_more x_whole x_isSaved r73.2.1 x_isWithin r73.2.2 x_input x_length x_fault x_failed x_signs x_signMany x_at x_told x_toldMany)) hW hA (is := [0, 1, 2, 3, 4, 5, 6, 7, 8, 9, 10, 11, 12, 13]) rfl (goV (rest := []) E hK hW [0, 1, 2, 3, 4, 5, 6, 7, 8, 9, 10, 11, 12, 13] rfl rfl (c_X13_keeps__g l g h0 h1 h2 h3 h4 h5 h6 h7 h8 h9 h10 h11 h12 h13 x_g x_kept x_saved x_before r65 x_region x_parts x_next x_ways x_more x_whole x_isSaved x_changes x_isWithin r56.2 x_input x_length x_fault x_failed x_signs x_signMany x_at x_told x_toldMany (hf := hc) H.size) (cwV 1 hts gX13_shift_X13_keeps rfl rfl rfl (by decide +kernel) ⟨Nat.le_of_ble_eq_true rfl, Nat.le_of_ble_eq_true rfl⟩) 0 rfl rfl rfl hl.1 rfl rfl (Nat.le_of_ble_eq_true rfl) dX13_shift_73 ⟨Nat.zero_le _, Nat.zero_le _⟩) rfl rfl (fun H locs hW => ?_)
          refine lv_iconst (v := 0) E.1 E.2.1 dX13_shift_76 (by decide) ?_
          refine lv_istore (lv' := [(4, .int 0), (0, .ref h0), (2, .int l2_43), (3, .int l3_56)]) E.1 E.2.1 dX13_shift_77 hl (by decide) rfl (fun ls hl => ?_)
          refine k_X13_shift_79 E hK hA ?_ 1000 0 x_g H locs ls h hW (lv_sub hl [1, 2, 3, 0] rfl)
          · intro x_g_126e H locs ls h hW hl
            refine lv_aload_n E.1 E.2.1 dX13_shift_126 rfl (lv_at hl 0 rfl) ?_
            obtain ⟨r127, hc, h⟩ := bx h
            refine goI (world' := (w_X13 g h0 h1 h2 h3 h4 h5 h6 h7 h8 h9 h10 h11 h12 h13 x_g_126e r73.1 x_saved x_before r65 x_region x_parts x_next x_ways x_more x_whole x_isSaved r73.2.1 x_isWithin r73.2.2 x_input x_length x_fault x_failed x_signs x_signMany x_at x_told x_toldMany)) hW hA (is := [0, 1, 2, 3, 4, 5, 6, 7, 8, 9, 10, 11, 12, 13]) rfl (goV (rest := []) E hK hW [0, 1, 2, 3, 4, 5, 6, 7, 8, 9, 10, 11, 12, 13] rfl rfl (c_X13_others l g h0 h1 h2 h3 h4 h5 h6 h7 h8 h9 h10 h11 h12 h13 x_g_126e r73.1 x_saved x_before r65 x_region x_parts x_next x_ways x_more x_whole x_isSaved r73.2.1 x_isWithin r73.2.2 x_input x_length x_fault x_failed x_signs x_signMany x_at x_told x_toldMany (hf := hc) H.size) (cwV 0 hts gX13_shift_X13_others rfl rfl rfl (by decide +kernel) ⟨Nat.le_of_ble_eq_true rfl, Nat.le_of_ble_eq_true rfl⟩) 0 rfl rfl rfl hl.1 rfl rfl (Nat.le_of_ble_eq_true rfl) dX13_shift_127 ⟨Nat.zero_le _, Nat.zero_le _⟩) rfl rfl (fun H locs hW => ?_)
            obtain rfl := Option.some.inj h
            exact endI E rfl hW dX13_shift_130
        · have h := ie c59 h
          refine lv_iconst (v := 0) E.1 E.2.1 dX13_shift_62 (by decide) ?_
          obtain rfl := Option.some.inj h
          exact endI E rfl hW dX13_shift_63
      refine lv_istore_n (lv' := [(3, .int s0_43), (0, .ref h0), (2, .int l2_43)]) E.1 E.2.1 dX13_shift_43 rfl hl (by decide) rfl (fun ls hl => ?_)
      refine lv_aload_n E.1 E.2.1 dX13_shift_44 rfl (lv_at hl 1 rfl) ?_
      refine lv_iload_n E.1 E.2.1 dX13_shift_45 rfl (lv_at hl 2 rfl) ?_
      refine lv_iload_n E.1 E.2.1 dX13_shift_46 rfl (lv_at hl 0 rfl) ?_
      refine lv_iadd E.1 E.2.1 dX13_shift_47 ?_
      refine lv_if_ne (tgt := 55) E.1 E.2.1 dX13_shift_48 (by decide) (fun c48 => ?_) (fun c48 => ?_)
      · have h := ie c48 h
        refine lv_iconst (v := 0) E.1 E.2.1 dX13_shift_55 (by decide) ?_
        exact J56 s0_43 0 H locs ls h hW (lv_sub hl [1, 2, 0] rfl)
      · have h := it c48 h
        refine lv_iconst (v := 1) E.1 E.2.1 dX13_shift_51 (by decide) ?_
        refine lv_goto (tgt := 56) E.1 E.2.1 dX13_shift_52 (by decide) ?_
        exact J56 s0_43 1 H locs ls h hW (lv_sub hl [1, 2, 0] rfl)
    refine lv_istore_n (lv' := [(2, .int s0_21), (0, .ref h0), (1, .int a1)]) E.1 E.2.1 dX13_shift_21 rfl hl (by decide) rfl (fun ls hl => ?_)
    refine lv_iload_n E.1 E.2.1 dX13_shift_22 rfl (lv_at hl 2 rfl) ?_
    refine lv_bipush (v := 119) E.1 E.2.1 dX13_shift_23 (by decide) ?_
    refine lv_icmp_ne (tgt := 32) E.1 E.2.1 dX13_shift_25 (by decide) (fun c25 => ?_) (fun c25 => ?_)
    · have h := ie c25 h
      refine lv_iload_n E.1 E.2.1 dX13_shift_32 rfl (lv_at hl 2 rfl) ?_
      refine lv_bipush (v := 101) E.1 E.2.1 dX13_shift_33 (by decide) ?_
      refine lv_icmp_ne (tgt := 42) E.1 E.2.1 dX13_shift_35 (by decide) (fun c35 => ?_) (fun c35 => ?_)
      · have h := ie c35 h
        refine lv_iconst (v := 0) E.1 E.2.1 dX13_shift_42 (by decide) ?_
        exact J43 s0_21 0 H locs ls h hW (lv_sub hl [1, 0] rfl)
      · have h := it c35 h
        refine lv_iconst (v := 1) E.1 E.2.1 dX13_shift_38 (by decide) ?_
        refine lv_goto (tgt := 43) E.1 E.2.1 dX13_shift_39 (by decide) ?_
        exact J43 s0_21 1 H locs ls h hW (lv_sub hl [1, 0] rfl)
    · have h := it c25 h
      refine lv_iconst (v := 4) E.1 E.2.1 dX13_shift_28 (by decide) ?_
      refine lv_goto (tgt := 43) E.1 E.2.1 dX13_shift_29 (by decide) ?_
      exact J43 s0_21 4 H locs ls h hW (lv_sub hl [1, 0] rfl)
  refine lv_iload_n E.1 E.2.1 dX13_shift_0 rfl (lv_at hl 1 rfl) ?_
  refine lv_bipush (v := 110) E.1 E.2.1 dX13_shift_1 (by decide) ?_
  refine lv_icmp_ne (tgt := 10) E.1 E.2.1 dX13_shift_3 (by decide) (fun c3 => ?_) (fun c3 => ?_)
  · have h := ie c3 h
    refine lv_iload_n E.1 E.2.1 dX13_shift_10 rfl (lv_at hl 1 rfl) ?_
    refine lv_bipush (v := 115) E.1 E.2.1 dX13_shift_11 (by decide) ?_
    refine lv_icmp_ne (tgt := 20) E.1 E.2.1 dX13_shift_13 (by decide) (fun c13 => ?_) (fun c13 => ?_)
    · have h := ie c13 h
      refine lv_iconst (v := 0) E.1 E.2.1 dX13_shift_20 (by decide) ?_
      exact J21 0 H locs ls h hW (lv_sub hl [0, 1] rfl)
    · have h := it c13 h
      refine lv_iconst (v := 1) E.1 E.2.1 dX13_shift_16 (by decide) ?_
      refine lv_goto (tgt := 21) E.1 E.2.1 dX13_shift_17 (by decide) ?_
      exact J21 1 H locs ls h hW (lv_sub hl [0, 1] rfl)
  · have h := it c3 h
    refine lv_iconst (v := 4) E.1 E.2.1 dX13_shift_6 (by decide) ?_
    refine lv_goto (tgt := 21) E.1 E.2.1 dX13_shift_7 (by decide) ?_
    exact J21 4 H locs ls h hW (lv_sub hl [0, 1] rfl)
theorem c_X13_shift (l : Launch) (g : GE) (h0 h1 h2 h3 h4 h5 h6 h7 h8 h9 h10 h11 h12 h13 : Nat) (x_g : Nat → Int32) (x_kept : Nat → Int32) (x_saved : Nat → Int32) (x_before : Nat → Int32) (x_was : Nat → Int32) (x_region : Nat → Int32) (x_parts : Nat → Int64) (x_next : Nat → Int64) (x_ways : Nat → Int32) (x_more : Nat → Int32) (x_whole : Int64) (x_isSaved : Int32) (x_changes : Int32) (x_isWithin : Int32) (x_code : Int32) (x_input : Nat → Int32) (x_length : Int32) (x_fault : Int32) (x_failed : Int32) (x_signs : Nat → Int32) (x_signMany : Int32) (x_at : Int32) (x_told : Nat → Int32) (x_toldMany : Int32) (a1 : Int32) {res : Int32 × (Nat → Int32) × (Nat → Int32) × (Nat → Int32) × Int32 × Int32} (hf : f_X13_shift x_g x_kept x_was x_changes x_isWithin x_code a1 = some res) : CI l yX13_shift wsX13_shift rm_X13_shift g [.ref h0, .int a1] (w_X13 g h0 h1 h2 h3 h4 h5 h6 h7 h8 h9 h10 h11 h12 h13 x_g x_kept x_saved x_before x_was x_region x_parts x_next x_ways x_more x_whole x_isSaved x_changes x_isWithin x_code x_input x_length x_fault x_failed x_signs x_signMany x_at x_told x_toldMany) (w_X13 g h0 h1 h2 h3 h4 h5 h6 h7 h8 h9 h10 h11 h12 h13 res.2.1 res.2.2.1 x_saved x_before res.2.2.2.1 x_region x_parts x_next x_ways x_more x_whole x_isSaved res.2.2.2.2.1 x_isWithin res.2.2.2.2.2 x_input x_length x_fault x_failed x_signs x_signMany x_at x_told x_toldMany) res.1 :=
  mkI (cc := cX13_shift) (maxL := 5) (by decide) rfl (Nat.le_of_ble_eq_true rfl) (fun p e s m args below meth c A H locs ls E hK hA hW hl => k_X13_shift_0 E hK hA hf hW hl)

/-! PaperStormModel.setThreshold(I)I X13_setThreshold -/
abbrev rm_X13_setThreshold : Room := { frames := 2, cells := 0, slots := 0, locals := 46 }
theorem in_X13_setThreshold_X13 : ∀ w ∈ wsX130, w ∈ wsX13_setThreshold := by decide +kernel
theorem lk_X13_setThreshold_7 : Cond.fieldLink RX13 7 "PaperStormModel" "g" "[I" ∈ wsX13_setThreshold := by decide +kernel
noncomputable def f_X13_setThreshold (x_g : Nat → Int32) (x_kept : Nat → Int32) (x_changes : Int32) (x_isWithin : Int32) (x_code : Int32) (a1 : Int32) : Option (Int32 × (Nat → Int32) × (Nat → Int32) × Int32 × Int32) :=
  jo (fun (s1_16 : Int32) => (f_X13_fails x_code s1_16).bind fun r16 => if r16.1 = 0 then (f_X13_keeps__g x_g x_kept x_changes x_isWithin r16.2).bind fun r36 => some ((x_g (2 : Int32).toNatClampNeg), (upd x_g (2 : Int32).toNatClampNeg a1), r36.1, r36.2.1, r36.2.2) else some (0, x_g, x_kept, x_changes, r16.2)) (fun j16 => (f_X13_in a1 1 50).bind fun r5 => if r5 = 0 then j16 1 else j16 0)
abbrev G_X13_setThreshold (p : Program) (l : Launch) (e : Env) (s : State) (m : MethodId) (args : Array Value) (below : List Frame) (meth : Method) (c : Code) (g : GE) (A : Nat → Prop) (h0 h1 h2 h3 h4 h5 h6 h7 h8 h9 h10 h11 h12 h13 : Nat) (x_saved : Nat → Int32) (x_before : Nat → Int32) (x_was : Nat → Int32) (x_region : Nat → Int32) (x_parts : Nat → Int64) (x_next : Nat → Int64) (x_ways : Nat → Int32) (x_more : Nat → Int32) (x_whole : Int64) (x_isSaved : Int32) (x_isWithin : Int32) (x_input : Nat → Int32) (x_length : Int32) (x_fault : Int32) (x_failed : Int32) (x_signs : Nat → Int32) (x_signMany : Int32) (x_at : Int32) (x_told : Nat → Int32) (x_toldMany : Int32) (res : Int32 × (Nat → Int32) × (Nat → Int32) × Int32 × Int32) (H : Heap) (locs : List Loc) (pc : Nat) (ls : Array Slot) (st : List Value) : Prop := W p l e (headSpec wsX13_setThreshold rm_X13_setThreshold).room s m args below meth c H locs 0 0 (MQ below (PoI g A (w_X13 g h0 h1 h2 h3 h4 h5 h6 h7 h8 h9 h10 h11 h12 h13 res.2.1 res.2.2.1 x_saved x_before x_was x_region x_parts x_next x_ways x_more x_whole x_isSaved res.2.2.2.1 x_isWithin res.2.2.2.2 x_input x_length x_fault x_failed x_signs x_signMany x_at x_told x_toldMany) res.1) args s 0 0 A) (F0 m pc ls st)
set_option maxHeartbeats 4000000 in
set_option maxRecDepth 100000 in
theorem k_X13_setThreshold_0 {p : Program} {l : Launch} {e : Env} {s : State} {m : MethodId} {args : Array Value} {below : List Frame} {meth : Method} {c : Code} {g : GE} {A : Nat → Prop} {h0 h1 h2 h3 h4 h5 h6 h7 h8 h9 h10 h11 h12 h13 : Nat} {x_g : Nat → Int32} {x_kept : Nat → Int32} {x_saved : Nat → Int32} {x_before : Nat → Int32} {x_was : Nat → Int32} {x_region : Nat → Int32} {x_parts : Nat → Int64} {x_next : Nat → Int64} {x_ways : Nat → Int32} {x_more : Nat → Int32} {x_whole : Int64} {x_isSaved : Int32} {x_changes : Int32} {x_isWithin : Int32} {x_code : Int32} {x_input : Nat → Int32} {x_length : Int32} {x_fault : Int32} {x_failed : Int32} {x_signs : Nat → Int32} {x_signMany : Int32} {x_at : Int32} {x_told : Nat → Int32} {x_toldMany : Int32} {res : Int32 × (Nat → Int32) × (Nat → Int32) × Int32 × Int32} {H : Heap} {locs : List Loc} {ls : Array Slot} {a1 : Int32}
    (E : En cX13_setThreshold RX13 wsX13_setThreshold 3 (some .int) p s m args meth c) (hK : KK g s) (hA : ∀ q, s.heap.size ≤ q → A q) (h : f_X13_setThreshold x_g x_kept x_changes x_isWithin x_code a1 = some res) (hW : Wo g A s H locs (w_X13 g h0 h1 h2 h3 h4 h5 h6 h7 h8 h9 h10 h11 h12 h13 x_g x_kept x_saved x_before x_was x_region x_parts x_next x_ways x_more x_whole x_isSaved x_changes x_isWithin x_code x_input x_length x_fault x_failed x_signs x_signMany x_at x_told x_toldMany)) (hl : lv_has ls 3 [(0, .ref h0), (1, .int a1)]) : G_X13_setThreshold p l e s m args below meth c g A h0 h1 h2 h3 h4 h5 h6 h7 h8 h9 h10 h11 h12 h13 x_saved x_before x_was x_region x_parts x_next x_ways x_more x_whole x_isSaved x_isWithin x_input x_length x_fault x_failed x_signs x_signMany x_at x_told x_toldMany res H locs 0 ls [] := by
  have hts := E.2.2.2.1
  unfold f_X13_setThreshold at h
  obtain ⟨j16, hj16, h⟩ := jox1 h
  have J16 : ∀ (s1_16 : Int32) (H : Heap) (locs : List Loc) (ls : Array Slot), j16 s1_16 = some res → Wo g A s H locs (w_X13 g h0 h1 h2 h3 h4 h5 h6 h7 h8 h9 h10 h11 h12 h13 x_g x_kept x_saved x_before x_was x_region x_parts x_next x_ways x_more x_whole x_isSaved x_changes x_isWithin x_code x_input x_length x_fault x_failed x_signs x_signMany x_at x_told x_toldMany) → lv_has ls 3 [(0, .ref h0), (1, .int a1)] → G_X13_setThreshold p l e s m args below meth c g A h0 h1 h2 h3 h4 h5 h6 h7 h8 h9 h10 h11 h12 h13 x_saved x_before x_was x_region x_parts x_next x_ways x_more x_whole x_isSaved x_isWithin x_input x_length x_fault x_failed x_signs x_signMany x_at x_told x_toldMany res H locs 16 ls [.int s1_16, .ref h0] := by
    intro s1_16 H locs ls h hW hl
    rw [hj16] at h
    obtain ⟨r16, hc, h⟩ := bx h
    refine goI (world' := (w_X13 g h0 h1 h2 h3 h4 h5 h6 h7 h8 h9 h10 h11 h12 h13 x_g x_kept x_saved x_before x_was x_region x_parts x_next x_ways x_more x_whole x_isSaved x_changes x_isWithin r16.2 x_input x_length x_fault x_failed x_signs x_signMany x_at x_told x_toldMany)) hW hA (is := [0, 1, 2, 3, 4, 5, 6, 7, 8, 9, 10, 11, 12, 13]) rfl (goV (rest := []) E hK hW [0, 1, 2, 3, 4, 5, 6, 7, 8, 9, 10, 11, 12, 13] rfl rfl (c_X13_fails l g h0 h1 h2 h3 h4 h5 h6 h7 h8 h9 h10 h11 h12 h13 x_g x_kept x_saved x_before x_was x_region x_parts x_next x_ways x_more x_whole x_isSaved x_changes x_isWithin x_code x_input x_length x_fault x_failed x_signs x_signMany x_at x_told x_toldMany s1_16 (hf := hc) H.size) (cwV 1 hts gX13_setThreshold_X13_fails rfl rfl rfl (by decide +kernel) ⟨Nat.le_of_ble_eq_true rfl, Nat.le_of_ble_eq_true rfl⟩) 0 rfl rfl rfl hl.1 rfl rfl (Nat.le_of_ble_eq_true rfl) dX13_setThreshold_16 ⟨Nat.zero_le _, Nat.zero_le _⟩) rfl rfl (fun H locs hW => ?_)
    refine lv_if_eq (tgt := 24) E.1 E.2.1 dX13_setThreshold_19 (by decide) (fun c19 => ?_) (fun c19 => ?_)
    · have h := it c19 h
      refine lv_aload_n E.1 E.2.1 dX13_setThreshold_24 rfl (lv_at hl 0 rfl) ?_
      refine wGet (v := .ref h1) E hK in_X13_setThreshold_X13 hW 0 lk_X13_setThreshold_7 0 rfl rfl (by decide) rfl rfl dX13_setThreshold_25 ?_
      refine lv_iconst (v := 2) E.1 E.2.1 dX13_setThreshold_28 (by decide) ?_
      refine wIald E hK hW 1 rfl (by decide) dX13_setThreshold_29 ?_
      refine lv_istore_n (lv' := [(2, .int (x_g (2 : Int32).toNatClampNeg)), (0, .ref h0), (1, .int a1)]) E.1 E.2.1 dX13_setThreshold_30 rfl hl (by decide) rfl (fun ls hl => ?_)
      refine lv_aload_n E.1 E.2.1 dX13_setThreshold_31 rfl (lv_at hl 1 rfl) ?_
      refine lv_aload_n E.1 E.2.1 dX13_setThreshold_32 rfl (lv_at hl 1 rfl) ?_
      refine wGet (v := .ref h1) E hK in_X13_setThreshold_X13 hW 0 lk_X13_setThreshold_7 0 rfl rfl (by decide) rfl rfl dX13_setThreshold_33 ?_
      obtain ⟨r36, hc, h⟩ := bx h
      refine goU (world' := (w_X13 g h0 h1 h2 h3 h4 h5 h6 h7 h8 h9 h10 h11 h12 h13 x_g r36.1 x_saved x_before x_was x_region x_parts x_next x_ways x_more x_whole x_isSaved r36.2.1 x_isWithin r36.2.2 x_input x_length x_fault x_failed x_signs x_signMany x_at x_told x_toldMany)) hW hA (is := [0, 1, 2, 3, 4, 5, 6, 7, 8, 9, 10, 11, 12, 13]) rfl (goV (rest := []) E hK hW [0, 1, 2, 3, 4, 5, 6, 7, 8, 9, 10, 11, 12, 13] rfl rfl (c_X13_keeps__g l g h0 h1 h2 h3 h4 h5 h6 h7 h8 h9 h10 h11 h12 h13 x_g x_kept x_saved x_before x_was x_region x_parts x_next x_ways x_more x_whole x_isSaved x_changes x_isWithin r16.2 x_input x_length x_fault x_failed x_signs x_signMany x_at x_told x_toldMany (hf := hc) H.size) (cwV 1 hts gX13_setThreshold_X13_keeps rfl rfl rfl (by decide +kernel) ⟨Nat.le_of_ble_eq_true rfl, Nat.le_of_ble_eq_true rfl⟩) 0 rfl rfl rfl hl.1 rfl rfl (Nat.le_of_ble_eq_true rfl) dX13_setThreshold_36 ⟨Nat.zero_le _, Nat.zero_le _⟩) rfl rfl (fun H locs hW => ?_)
      refine lv_aload_n E.1 E.2.1 dX13_setThreshold_39 rfl (lv_at hl 1 rfl) ?_
      refine wGet (v := .ref h1) E hK in_X13_setThreshold_X13 hW 0 lk_X13_setThreshold_7 0 rfl rfl (by decide) rfl rfl dX13_setThreshold_40 ?_
      refine lv_iconst (v := 2) E.1 E.2.1 dX13_setThreshold_43 (by decide) ?_
      refine lv_iload_n E.1 E.2.1 dX13_setThreshold_44 rfl (lv_at hl 2 rfl) ?_
      refine wIast (world' := (w_X13 g h0 h1 h2 h3 h4 h5 h6 h7 h8 h9 h10 h11 h12 h13 (upd x_g (2 : Int32).toNatClampNeg a1) r36.1 x_saved x_before x_was x_region x_parts x_next x_ways x_more x_whole x_isSaved r36.2.1 x_isWithin r36.2.2 x_input x_length x_fault x_failed x_signs x_signMany x_at x_told x_toldMany)) E hK hW 1 rfl (by decide) dX13_setThreshold_45 rfl (fun H locs hW => ?_)
      refine lv_iload_n E.1 E.2.1 dX13_setThreshold_46 rfl (lv_at hl 0 rfl) ?_
      obtain rfl := Option.some.inj h
      exact endI E rfl hW dX13_setThreshold_47
    · have h := ie c19 h
      refine lv_iconst (v := 0) E.1 E.2.1 dX13_setThreshold_22 (by decide) ?_
      obtain rfl := Option.some.inj h
      exact endI E rfl hW dX13_setThreshold_23
  refine lv_aload_n E.1 E.2.1 dX13_setThreshold_0 rfl (lv_at hl 0 rfl) ?_
  refine lv_iload_n E.1 E.2.1 dX13_setThreshold_1 rfl (lv_at hl 1 rfl) ?_
  refine lv_iconst (v := 1) E.1 E.2.1 dX13_setThreshold_2 (by decide) ?_
  refine lv_bipush (v := 50) E.1 E.2.1 dX13_setThreshold_3 (by decide) ?_
  obtain ⟨r5, hc, h⟩ := bx h
  refine goI (world' := (w_X13 g h0 h1 h2 h3 h4 h5 h6 h7 h8 h9 h10 h11 h12 h13 x_g x_kept x_saved x_before x_was x_region x_parts x_next x_ways x_more x_whole x_isSaved x_changes x_isWithin x_code x_input x_length x_fault x_failed x_signs x_signMany x_at x_told x_toldMany)) hW hA (is := []) rfl (goS (rest := [.ref h0]) E hK hW [] rfl rfl (c_X13_in l g a1 1 50 (hf := hc) H.size) (va_cwS 3 hts gX13_setThreshold_X13_in rfl rfl rfl (by decide +kernel) ⟨Nat.le_of_ble_eq_true rfl, Nat.le_of_ble_eq_true rfl⟩) hl.1 rfl rfl (Nat.le_of_ble_eq_true rfl) dX13_setThreshold_5 ⟨Nat.zero_le _, Nat.zero_le _⟩) rfl rfl (fun H locs hW => ?_)
  refine lv_if_eq (tgt := 15) E.1 E.2.1 dX13_setThreshold_8 (by decide) (fun c8 => ?_) (fun c8 => ?_)
  · have h := it c8 h
    refine lv_iconst (v := 1) E.1 E.2.1 dX13_setThreshold_15 (by decide) ?_
    exact J16 1 H locs ls h hW (lv_sub hl [0, 1] rfl)
  · have h := ie c8 h
    refine lv_iconst (v := 0) E.1 E.2.1 dX13_setThreshold_11 (by decide) ?_
    refine lv_goto (tgt := 16) E.1 E.2.1 dX13_setThreshold_12 (by decide) ?_
    exact J16 0 H locs ls h hW (lv_sub hl [0, 1] rfl)
theorem c_X13_setThreshold (l : Launch) (g : GE) (h0 h1 h2 h3 h4 h5 h6 h7 h8 h9 h10 h11 h12 h13 : Nat) (x_g : Nat → Int32) (x_kept : Nat → Int32) (x_saved : Nat → Int32) (x_before : Nat → Int32) (x_was : Nat → Int32) (x_region : Nat → Int32) (x_parts : Nat → Int64) (x_next : Nat → Int64) (x_ways : Nat → Int32) (x_more : Nat → Int32) (x_whole : Int64) (x_isSaved : Int32) (x_changes : Int32) (x_isWithin : Int32) (x_code : Int32) (x_input : Nat → Int32) (x_length : Int32) (x_fault : Int32) (x_failed : Int32) (x_signs : Nat → Int32) (x_signMany : Int32) (x_at : Int32) (x_told : Nat → Int32) (x_toldMany : Int32) (a1 : Int32) {res : Int32 × (Nat → Int32) × (Nat → Int32) × Int32 × Int32} (hf : f_X13_setThreshold x_g x_kept x_changes x_isWithin x_code a1 = some res) : CI l yX13_setThreshold wsX13_setThreshold rm_X13_setThreshold g [.ref h0, .int a1] (w_X13 g h0 h1 h2 h3 h4 h5 h6 h7 h8 h9 h10 h11 h12 h13 x_g x_kept x_saved x_before x_was x_region x_parts x_next x_ways x_more x_whole x_isSaved x_changes x_isWithin x_code x_input x_length x_fault x_failed x_signs x_signMany x_at x_told x_toldMany) (w_X13 g h0 h1 h2 h3 h4 h5 h6 h7 h8 h9 h10 h11 h12 h13 res.2.1 res.2.2.1 x_saved x_before x_was x_region x_parts x_next x_ways x_more x_whole x_isSaved res.2.2.2.1 x_isWithin res.2.2.2.2 x_input x_length x_fault x_failed x_signs x_signMany x_at x_told x_toldMany) res.1 :=
  mkI (cc := cX13_setThreshold) (maxL := 3) (by decide) rfl (Nat.le_of_ble_eq_true rfl) (fun p e s m args below meth c A H locs ls E hK hA hW hl => k_X13_setThreshold_0 E hK hA hf hW hl)

/-! PaperStormModel.threshold()I X13_threshold -/
abbrev rm_X13_threshold : Room := { frames := 0, cells := 0, slots := 0, locals := 0 }
theorem in_X13_threshold_X13 : ∀ w ∈ wsX130, w ∈ wsX13_threshold := by decide +kernel
theorem lk_X13_threshold_58 : Cond.fieldLink RX13 58 "PaperStormModel" "code" "I" ∈ wsX13_threshold := by decide +kernel
theorem lk_X13_threshold_7 : Cond.fieldLink RX13 7 "PaperStormModel" "g" "[I" ∈ wsX13_threshold := by decide +kernel
noncomputable def f_X13_threshold (x_g : Nat → Int32) (x_code : Int32) : Option (Int32 × Int32) :=
  some ((x_g (2 : Int32).toNatClampNeg), 0)
abbrev G_X13_threshold (p : Program) (l : Launch) (e : Env) (s : State) (m : MethodId) (args : Array Value) (below : List Frame) (meth : Method) (c : Code) (g : GE) (A : Nat → Prop) (h0 h1 h2 h3 h4 h5 h6 h7 h8 h9 h10 h11 h12 h13 : Nat) (x_g : Nat → Int32) (x_kept : Nat → Int32) (x_saved : Nat → Int32) (x_before : Nat → Int32) (x_was : Nat → Int32) (x_region : Nat → Int32) (x_parts : Nat → Int64) (x_next : Nat → Int64) (x_ways : Nat → Int32) (x_more : Nat → Int32) (x_whole : Int64) (x_isSaved : Int32) (x_changes : Int32) (x_isWithin : Int32) (x_input : Nat → Int32) (x_length : Int32) (x_fault : Int32) (x_failed : Int32) (x_signs : Nat → Int32) (x_signMany : Int32) (x_at : Int32) (x_told : Nat → Int32) (x_toldMany : Int32) (res : Int32 × Int32) (H : Heap) (locs : List Loc) (pc : Nat) (ls : Array Slot) (st : List Value) : Prop := W p l e (headSpec wsX13_threshold rm_X13_threshold).room s m args below meth c H locs 0 0 (MQ below (PoI g A (w_X13 g h0 h1 h2 h3 h4 h5 h6 h7 h8 h9 h10 h11 h12 h13 x_g x_kept x_saved x_before x_was x_region x_parts x_next x_ways x_more x_whole x_isSaved x_changes x_isWithin res.2 x_input x_length x_fault x_failed x_signs x_signMany x_at x_told x_toldMany) res.1) args s 0 0 A) (F0 m pc ls st)
set_option maxHeartbeats 4000000 in
set_option maxRecDepth 100000 in
theorem k_X13_threshold_0 {p : Program} {l : Launch} {e : Env} {s : State} {m : MethodId} {args : Array Value} {below : List Frame} {meth : Method} {c : Code} {g : GE} {A : Nat → Prop} {h0 h1 h2 h3 h4 h5 h6 h7 h8 h9 h10 h11 h12 h13 : Nat} {x_g : Nat → Int32} {x_kept : Nat → Int32} {x_saved : Nat → Int32} {x_before : Nat → Int32} {x_was : Nat → Int32} {x_region : Nat → Int32} {x_parts : Nat → Int64} {x_next : Nat → Int64} {x_ways : Nat → Int32} {x_more : Nat → Int32} {x_whole : Int64} {x_isSaved : Int32} {x_changes : Int32} {x_isWithin : Int32} {x_code : Int32} {x_input : Nat → Int32} {x_length : Int32} {x_fault : Int32} {x_failed : Int32} {x_signs : Nat → Int32} {x_signMany : Int32} {x_at : Int32} {x_told : Nat → Int32} {x_toldMany : Int32} {res : Int32 × Int32} {H : Heap} {locs : List Loc} {ls : Array Slot} 
    (E : En cX13_threshold RX13 wsX13_threshold 1 (some .int) p s m args meth c) (hK : KK g s) (hA : ∀ q, s.heap.size ≤ q → A q) (h : f_X13_threshold x_g x_code = some res) (hW : Wo g A s H locs (w_X13 g h0 h1 h2 h3 h4 h5 h6 h7 h8 h9 h10 h11 h12 h13 x_g x_kept x_saved x_before x_was x_region x_parts x_next x_ways x_more x_whole x_isSaved x_changes x_isWithin x_code x_input x_length x_fault x_failed x_signs x_signMany x_at x_told x_toldMany)) (hl : lv_has ls 1 [(0, .ref h0)]) : G_X13_threshold p l e s m args below meth c g A h0 h1 h2 h3 h4 h5 h6 h7 h8 h9 h10 h11 h12 h13 x_g x_kept x_saved x_before x_was x_region x_parts x_next x_ways x_more x_whole x_isSaved x_changes x_isWithin x_input x_length x_fault x_failed x_signs x_signMany x_at x_told x_toldMany res H locs 0 ls [] := by
  have hts := E.2.2.2.1
  unfold f_X13_threshold at h
  refine lv_aload_n E.1 E.2.1 dX13_threshold_0 rfl (lv_at hl 0 rfl) ?_
  refine lv_iconst (v := 0) E.1 E.2.1 dX13_threshold_1 (by decide) ?_
  refine wPut (world' := (w_X13 g h0 h1 h2 h3 h4 h5 h6 h7 h8 h9 h10 h11 h12 h13 x_g x_kept x_saved x_before x_was x_region x_parts x_next x_ways x_more x_whole x_isSaved x_changes x_isWithin 0 x_input x_length x_fault x_failed x_signs x_signMany x_at x_told x_toldMany)) E hK in_X13_threshold_X13 tyX13 tyX13_ok nmX13 hW 14 lk_X13_threshold_58 0 rfl rfl (by decide) rfl rfl rfl rfl rfl (Nat.le_of_ble_eq_true rfl) dX13_threshold_2 rfl (fun H locs hW => ?_)
  refine lv_aload_n E.1 E.2.1 dX13_threshold_5 rfl (lv_at hl 0 rfl) ?_
  refine wGet (v := .ref h1) E hK in_X13_threshold_X13 hW 0 lk_X13_threshold_7 0 rfl rfl (by decide) rfl rfl dX13_threshold_6 ?_
  refine lv_iconst (v := 2) E.1 E.2.1 dX13_threshold_9 (by decide) ?_
  refine wIald E hK hW 1 rfl (by decide) dX13_threshold_10 ?_
  obtain rfl := Option.some.inj h
  exact endI E rfl hW dX13_threshold_11
theorem c_X13_threshold (l : Launch) (g : GE) (h0 h1 h2 h3 h4 h5 h6 h7 h8 h9 h10 h11 h12 h13 : Nat) (x_g : Nat → Int32) (x_kept : Nat → Int32) (x_saved : Nat → Int32) (x_before : Nat → Int32) (x_was : Nat → Int32) (x_region : Nat → Int32) (x_parts : Nat → Int64) (x_next : Nat → Int64) (x_ways : Nat → Int32) (x_more : Nat → Int32) (x_whole : Int64) (x_isSaved : Int32) (x_changes : Int32) (x_isWithin : Int32) (x_code : Int32) (x_input : Nat → Int32) (x_length : Int32) (x_fault : Int32) (x_failed : Int32) (x_signs : Nat → Int32) (x_signMany : Int32) (x_at : Int32) (x_told : Nat → Int32) (x_toldMany : Int32) {res : Int32 × Int32} (hf : f_X13_threshold x_g x_code = some res) : CI l yX13_threshold wsX13_threshold rm_X13_threshold g [.ref h0] (w_X13 g h0 h1 h2 h3 h4 h5 h6 h7 h8 h9 h10 h11 h12 h13 x_g x_kept x_saved x_before x_was x_region x_parts x_next x_ways x_more x_whole x_isSaved x_changes x_isWithin x_code x_input x_length x_fault x_failed x_signs x_signMany x_at x_told x_toldMany) (w_X13 g h0 h1 h2 h3 h4 h5 h6 h7 h8 h9 h10 h11 h12 h13 x_g x_kept x_saved x_before x_was x_region x_parts x_next x_ways x_more x_whole x_isSaved x_changes x_isWithin res.2 x_input x_length x_fault x_failed x_signs x_signMany x_at x_told x_toldMany) res.1 :=
  mkI (cc := cX13_threshold) (maxL := 1) (by decide) rfl (Nat.le_of_ble_eq_true rfl) (fun p e s m args below meth c A H locs ls E hK hA hW hl => k_X13_threshold_0 E hK hA hf hW hl)

/-! PaperStormModel.slope(II)I X13_slope -/
abbrev rm_X13_slope : Room := { frames := 1, cells := 0, slots := 0, locals := 21 }
theorem in_X13_slope_X13 : ∀ w ∈ wsX130, w ∈ wsX13_slope := by decide +kernel
theorem lk_X13_slope_7 : Cond.fieldLink RX13 7 "PaperStormModel" "g" "[I" ∈ wsX13_slope := by decide +kernel
noncomputable def f_X13_slope (x_g : Nat → Int32) (a1 : Int32) (a2 : Int32) : Option (Int32) :=
  if (7 + a1) < 0 ∨ 60 ≤ (7 + a1).toNatClampNeg then none else if ((7 + a1) + a2) < 0 ∨ 60 ≤ ((7 + a1) + a2).toNatClampNeg then none else (f_X13_apart (x_g (7 + a1).toNatClampNeg) (x_g ((7 + a1) + a2).toNatClampNeg)).bind fun r20 => some (r20)
abbrev G_X13_slope (p : Program) (l : Launch) (e : Env) (s : State) (m : MethodId) (args : Array Value) (below : List Frame) (meth : Method) (c : Code) (g : GE) (A : Nat → Prop) (h0 h1 h2 h3 h4 h5 h6 h7 h8 h9 h10 h11 h12 h13 : Nat) (x_g : Nat → Int32) (x_kept : Nat → Int32) (x_saved : Nat → Int32) (x_before : Nat → Int32) (x_was : Nat → Int32) (x_region : Nat → Int32) (x_parts : Nat → Int64) (x_next : Nat → Int64) (x_ways : Nat → Int32) (x_more : Nat → Int32) (x_whole : Int64) (x_isSaved : Int32) (x_changes : Int32) (x_isWithin : Int32) (x_code : Int32) (x_input : Nat → Int32) (x_length : Int32) (x_fault : Int32) (x_failed : Int32) (x_signs : Nat → Int32) (x_signMany : Int32) (x_at : Int32) (x_told : Nat → Int32) (x_toldMany : Int32) (res : Int32) (H : Heap) (locs : List Loc) (pc : Nat) (ls : Array Slot) (st : List Value) : Prop := W p l e (headSpec wsX13_slope rm_X13_slope).room s m args below meth c H locs 0 0 (MQ below (PoI g A (w_X13 g h0 h1 h2 h3 h4 h5 h6 h7 h8 h9 h10 h11 h12 h13 x_g x_kept x_saved x_before x_was x_region x_parts x_next x_ways x_more x_whole x_isSaved x_changes x_isWithin x_code x_input x_length x_fault x_failed x_signs x_signMany x_at x_told x_toldMany) res) args s 0 0 A) (F0 m pc ls st)
set_option maxHeartbeats 4000000 in
set_option maxRecDepth 100000 in
theorem k_X13_slope_0 {p : Program} {l : Launch} {e : Env} {s : State} {m : MethodId} {args : Array Value} {below : List Frame} {meth : Method} {c : Code} {g : GE} {A : Nat → Prop} {h0 h1 h2 h3 h4 h5 h6 h7 h8 h9 h10 h11 h12 h13 : Nat} {x_g : Nat → Int32} {x_kept : Nat → Int32} {x_saved : Nat → Int32} {x_before : Nat → Int32} {x_was : Nat → Int32} {x_region : Nat → Int32} {x_parts : Nat → Int64} {x_next : Nat → Int64} {x_ways : Nat → Int32} {x_more : Nat → Int32} {x_whole : Int64} {x_isSaved : Int32} {x_changes : Int32} {x_isWithin : Int32} {x_code : Int32} {x_input : Nat → Int32} {x_length : Int32} {x_fault : Int32} {x_failed : Int32} {x_signs : Nat → Int32} {x_signMany : Int32} {x_at : Int32} {x_told : Nat → Int32} {x_toldMany : Int32} {res : Int32} {H : Heap} {locs : List Loc} {ls : Array Slot} {a1 : Int32} {a2 : Int32}
    (E : En cX13_slope RX13 wsX13_slope 3 (some .int) p s m args meth c) (hK : KK g s) (hA : ∀ q, s.heap.size ≤ q → A q) (h : f_X13_slope x_g a1 a2 = some res) (hW : Wo g A s H locs (w_X13 g h0 h1 h2 h3 h4 h5 h6 h7 h8 h9 h10 h11 h12 h13 x_g x_kept x_saved x_before x_was x_region x_parts x_next x_ways x_more x_whole x_isSaved x_changes x_isWithin x_code x_input x_length x_fault x_failed x_signs x_signMany x_at x_told x_toldMany)) (hl : lv_has ls 3 [(0, .ref h0), (1, .int a1), (2, .int a2)]) : G_X13_slope p l e s m args below meth c g A h0 h1 h2 h3 h4 h5 h6 h7 h8 h9 h10 h11 h12 h13 x_g x_kept x_saved x_before x_was x_region x_parts x_next x_ways x_more x_whole x_isSaved x_changes x_isWithin x_code x_input x_length x_fault x_failed x_signs x_signMany x_at x_told x_toldMany res H locs 0 ls [] := by
  have hts := E.2.2.2.1
  unfold f_X13_slope at h
  refine lv_aload_n E.1 E.2.1 dX13_slope_0 rfl (lv_at hl 0 rfl) ?_
  refine wGet (v := .ref h1) E hK in_X13_slope_X13 hW 0 lk_X13_slope_7 0 rfl rfl (by decide) rfl rfl dX13_slope_1 ?_
  refine lv_bipush (v := 7) E.1 E.2.1 dX13_slope_4 (by decide) ?_
  refine lv_iload_n E.1 E.2.1 dX13_slope_6 rfl (lv_at hl 1 rfl) ?_
  refine lv_iadd E.1 E.2.1 dX13_slope_7 ?_
  obtain ⟨hi8, h⟩ := ox h
  refine wIald E hK hW 1 rfl hi8 dX13_slope_8 ?_
  refine lv_aload_n E.1 E.2.1 dX13_slope_9 rfl (lv_at hl 0 rfl) ?_
  refine wGet (v := .ref h1) E hK in_X13_slope_X13 hW 0 lk_X13_slope_7 0 rfl rfl (by decide) rfl rfl dX13_slope_10 ?_
  refine lv_bipush (v := 7) E.1 E.2.1 dX13_slope_13 (by decide) ?_
  refine lv_iload_n E.1 E.2.1 dX13_slope_15 rfl (lv_at hl 1 rfl) ?_
  refine lv_iadd E.1 E.2.1 dX13_slope_16 ?_
  refine lv_iload_n E.1 E.2.1 dX13_slope_17 rfl (lv_at hl 2 rfl) ?_
  refine lv_iadd E.1 E.2.1 dX13_slope_18 ?_
  obtain ⟨hi19, h⟩ := ox h
  refine wIald E hK hW 1 rfl hi19 dX13_slope_19 ?_
  obtain ⟨r20, hc, h⟩ := bx h
  refine goI (world' := (w_X13 g h0 h1 h2 h3 h4 h5 h6 h7 h8 h9 h10 h11 h12 h13 x_g x_kept x_saved x_before x_was x_region x_parts x_next x_ways x_more x_whole x_isSaved x_changes x_isWithin x_code x_input x_length x_fault x_failed x_signs x_signMany x_at x_told x_toldMany)) hW hA (is := []) rfl (goS (rest := []) E hK hW [] rfl rfl (c_X13_apart l g (x_g (7 + a1).toNatClampNeg) (x_g ((7 + a1) + a2).toNatClampNeg) (hf := hc) H.size) (va_cwS 2 hts gX13_slope_X13_apart rfl rfl rfl (by decide +kernel) ⟨Nat.le_of_ble_eq_true rfl, Nat.le_of_ble_eq_true rfl⟩) hl.1 rfl rfl (Nat.le_of_ble_eq_true rfl) dX13_slope_20 ⟨Nat.zero_le _, Nat.zero_le _⟩) rfl rfl (fun H locs hW => ?_)
  obtain rfl := Option.some.inj h
  exact endI E rfl hW dX13_slope_23
theorem c_X13_slope (l : Launch) (g : GE) (h0 h1 h2 h3 h4 h5 h6 h7 h8 h9 h10 h11 h12 h13 : Nat) (x_g : Nat → Int32) (x_kept : Nat → Int32) (x_saved : Nat → Int32) (x_before : Nat → Int32) (x_was : Nat → Int32) (x_region : Nat → Int32) (x_parts : Nat → Int64) (x_next : Nat → Int64) (x_ways : Nat → Int32) (x_more : Nat → Int32) (x_whole : Int64) (x_isSaved : Int32) (x_changes : Int32) (x_isWithin : Int32) (x_code : Int32) (x_input : Nat → Int32) (x_length : Int32) (x_fault : Int32) (x_failed : Int32) (x_signs : Nat → Int32) (x_signMany : Int32) (x_at : Int32) (x_told : Nat → Int32) (x_toldMany : Int32) (a1 : Int32) (a2 : Int32) {res : Int32} (hf : f_X13_slope x_g a1 a2 = some res) : CI l yX13_slope wsX13_slope rm_X13_slope g [.ref h0, .int a1, .int a2] (w_X13 g h0 h1 h2 h3 h4 h5 h6 h7 h8 h9 h10 h11 h12 h13 x_g x_kept x_saved x_before x_was x_region x_parts x_next x_ways x_more x_whole x_isSaved x_changes x_isWithin x_code x_input x_length x_fault x_failed x_signs x_signMany x_at x_told x_toldMany) (w_X13 g h0 h1 h2 h3 h4 h5 h6 h7 h8 h9 h10 h11 h12 h13 x_g x_kept x_saved x_before x_was x_region x_parts x_next x_ways x_more x_whole x_isSaved x_changes x_isWithin x_code x_input x_length x_fault x_failed x_signs x_signMany x_at x_told x_toldMany) res :=
  mkI (cc := cX13_slope) (maxL := 3) (by decide) rfl (Nat.le_of_ble_eq_true rfl) (fun p e s m args below meth c A H locs ls E hK hA hW hl => k_X13_slope_0 E hK hA hf hW hl)

/-! PaperStormModel.isFront(II)Z X13_isFront -/
abbrev rm_X13_isFront : Room := { frames := 2, cells := 0, slots := 0, locals := 43 }
theorem in_X13_isFront_X13 : ∀ w ∈ wsX130, w ∈ wsX13_isFront := by decide +kernel
theorem lk_X13_isFront_7 : Cond.fieldLink RX13 7 "PaperStormModel" "g" "[I" ∈ wsX13_isFront := by decide +kernel
noncomputable def f_X13_isFront (x_g : Nat → Int32) (a1 : Int32) (a2 : Int32) : Option (Int32) :=
  jo (fun (s0_20 : Int32) => if ¬ vp_nar .boolean s0_20 = s0_20 then none else some (s0_20)) (fun j20 => (f_X13_slope x_g a1 a2).bind fun r3 => if r3 < (x_g (2 : Int32).toNatClampNeg) then j20 0 else j20 1)
abbrev G_X13_isFront (p : Program) (l : Launch) (e : Env) (s : State) (m : MethodId) (args : Array Value) (below : List Frame) (meth : Method) (c : Code) (g : GE) (A : Nat → Prop) (h0 h1 h2 h3 h4 h5 h6 h7 h8 h9 h10 h11 h12 h13 : Nat) (x_g : Nat → Int32) (x_kept : Nat → Int32) (x_saved : Nat → Int32) (x_before : Nat → Int32) (x_was : Nat → Int32) (x_region : Nat → Int32) (x_parts : Nat → Int64) (x_next : Nat → Int64) (x_ways : Nat → Int32) (x_more : Nat → Int32) (x_whole : Int64) (x_isSaved : Int32) (x_changes : Int32) (x_isWithin : Int32) (x_code : Int32) (x_input : Nat → Int32) (x_length : Int32) (x_fault : Int32) (x_failed : Int32) (x_signs : Nat → Int32) (x_signMany : Int32) (x_at : Int32) (x_told : Nat → Int32) (x_toldMany : Int32) (res : Int32) (H : Heap) (locs : List Loc) (pc : Nat) (ls : Array Slot) (st : List Value) : Prop := W p l e (headSpec wsX13_isFront rm_X13_isFront).room s m args below meth c H locs 0 0 (MQ below (PoI g A (w_X13 g h0 h1 h2 h3 h4 h5 h6 h7 h8 h9 h10 h11 h12 h13 x_g x_kept x_saved x_before x_was x_region x_parts x_next x_ways x_more x_whole x_isSaved x_changes x_isWithin x_code x_input x_length x_fault x_failed x_signs x_signMany x_at x_told x_toldMany) res) args s 0 0 A) (F0 m pc ls st)
set_option maxHeartbeats 4000000 in
set_option maxRecDepth 100000 in
theorem k_X13_isFront_0 {p : Program} {l : Launch} {e : Env} {s : State} {m : MethodId} {args : Array Value} {below : List Frame} {meth : Method} {c : Code} {g : GE} {A : Nat → Prop} {h0 h1 h2 h3 h4 h5 h6 h7 h8 h9 h10 h11 h12 h13 : Nat} {x_g : Nat → Int32} {x_kept : Nat → Int32} {x_saved : Nat → Int32} {x_before : Nat → Int32} {x_was : Nat → Int32} {x_region : Nat → Int32} {x_parts : Nat → Int64} {x_next : Nat → Int64} {x_ways : Nat → Int32} {x_more : Nat → Int32} {x_whole : Int64} {x_isSaved : Int32} {x_changes : Int32} {x_isWithin : Int32} {x_code : Int32} {x_input : Nat → Int32} {x_length : Int32} {x_fault : Int32} {x_failed : Int32} {x_signs : Nat → Int32} {x_signMany : Int32} {x_at : Int32} {x_told : Nat → Int32} {x_toldMany : Int32} {res : Int32} {H : Heap} {locs : List Loc} {ls : Array Slot} {a1 : Int32} {a2 : Int32}
    (E : En cX13_isFront RX13 wsX13_isFront 3 (some .boolean) p s m args meth c) (hK : KK g s) (hA : ∀ q, s.heap.size ≤ q → A q) (h : f_X13_isFront x_g a1 a2 = some res) (hW : Wo g A s H locs (w_X13 g h0 h1 h2 h3 h4 h5 h6 h7 h8 h9 h10 h11 h12 h13 x_g x_kept x_saved x_before x_was x_region x_parts x_next x_ways x_more x_whole x_isSaved x_changes x_isWithin x_code x_input x_length x_fault x_failed x_signs x_signMany x_at x_told x_toldMany)) (hl : lv_has ls 3 [(0, .ref h0), (1, .int a1), (2, .int a2)]) : G_X13_isFront p l e s m args below meth c g A h0 h1 h2 h3 h4 h5 h6 h7 h8 h9 h10 h11 h12 h13 x_g x_kept x_saved x_before x_was x_region x_parts x_next x_ways x_more x_whole x_isSaved x_changes x_isWithin x_code x_input x_length x_fault x_failed x_signs x_signMany x_at x_told x_toldMany res H locs 0 ls [] := by
  have hts := E.2.2.2.1
  unfold f_X13_isFront at h
  obtain ⟨j20, hj20, h⟩ := jox1 h
  have J20 : ∀ (s0_20 : Int32) (H : Heap) (locs : List Loc) (ls : Array Slot), j20 s0_20 = some res → Wo g A s H locs (w_X13 g h0 h1 h2 h3 h4 h5 h6 h7 h8 h9 h10 h11 h12 h13 x_g x_kept x_saved x_before x_was x_region x_parts x_next x_ways x_more x_whole x_isSaved x_changes x_isWithin x_code x_input x_length x_fault x_failed x_signs x_signMany x_at x_told x_toldMany) → lv_has ls 3 [] → G_X13_isFront p l e s m args below meth c g A h0 h1 h2 h3 h4 h5 h6 h7 h8 h9 h10 h11 h12 h13 x_g x_kept x_saved x_before x_was x_region x_parts x_next x_ways x_more x_whole x_isSaved x_changes x_isWithin x_code x_input x_length x_fault x_failed x_signs x_signMany x_at x_told x_toldMany res H locs 20 ls [.int s0_20] := by
    intro s0_20 H locs ls h hW hl
    rw [hj20] at h
    obtain ⟨hz, h⟩ := ox h
    obtain rfl := Option.some.inj h
    exact endI E (nar_z (Decidable.not_not.mp hz)) hW dX13_isFront_20
  refine lv_aload_n E.1 E.2.1 dX13_isFront_0 rfl (lv_at hl 0 rfl) ?_
  refine lv_iload_n E.1 E.2.1 dX13_isFront_1 rfl (lv_at hl 1 rfl) ?_
  refine lv_iload_n E.1 E.2.1 dX13_isFront_2 rfl (lv_at hl 2 rfl) ?_
  obtain ⟨r3, hc, h⟩ := bx h
  refine goI (world' := (w_X13 g h0 h1 h2 h3 h4 h5 h6 h7 h8 h9 h10 h11 h12 h13 x_g x_kept x_saved x_before x_was x_region x_parts x_next x_ways x_more x_whole x_isSaved x_changes x_isWithin x_code x_input x_length x_fault x_failed x_signs x_signMany x_at x_told x_toldMany)) hW hA (is := [0, 1, 2, 3, 4, 5, 6, 7, 8, 9, 10, 11, 12, 13]) rfl (goV (rest := []) E hK hW [0, 1, 2, 3, 4, 5, 6, 7, 8, 9, 10, 11, 12, 13] rfl rfl (c_X13_slope l g h0 h1 h2 h3 h4 h5 h6 h7 h8 h9 h10 h11 h12 h13 x_g x_kept x_saved x_before x_was x_region x_parts x_next x_ways x_more x_whole x_isSaved x_changes x_isWithin x_code x_input x_length x_fault x_failed x_signs x_signMany x_at x_told x_toldMany a1 a2 (hf := hc) H.size) (cwV 2 hts gX13_isFront_X13_slope rfl rfl rfl (by decide +kernel) ⟨Nat.le_of_ble_eq_true rfl, Nat.le_of_ble_eq_true rfl⟩) 0 rfl rfl rfl hl.1 rfl rfl (Nat.le_of_ble_eq_true rfl) dX13_isFront_3 ⟨Nat.zero_le _, Nat.zero_le _⟩) rfl rfl (fun H locs hW => ?_)
  refine lv_aload_n E.1 E.2.1 dX13_isFront_6 rfl (lv_at hl 0 rfl) ?_
  refine wGet (v := .ref h1) E hK in_X13_isFront_X13 hW 0 lk_X13_isFront_7 0 rfl rfl (by decide) rfl rfl dX13_isFront_7 ?_
  refine lv_iconst (v := 2) E.1 E.2.1 dX13_isFront_10 (by decide) ?_
  refine wIald E hK hW 1 rfl (by decide) dX13_isFront_11 ?_
  refine lv_icmp_lt (tgt := 19) E.1 E.2.1 dX13_isFront_12 (by decide) (fun c12 => ?_) (fun c12 => ?_)
  · have h := it c12 h
    refine lv_iconst (v := 0) E.1 E.2.1 dX13_isFront_19 (by decide) ?_
    exact J20 0 H locs ls h hW (lv_sub hl [] rfl)
  · have h := ie c12 h
    refine lv_iconst (v := 1) E.1 E.2.1 dX13_isFront_15 (by decide) ?_
    refine lv_goto (tgt := 20) E.1 E.2.1 dX13_isFront_16 (by decide) ?_
    exact J20 1 H locs ls h hW (lv_sub hl [] rfl)
theorem c_X13_isFront (l : Launch) (g : GE) (h0 h1 h2 h3 h4 h5 h6 h7 h8 h9 h10 h11 h12 h13 : Nat) (x_g : Nat → Int32) (x_kept : Nat → Int32) (x_saved : Nat → Int32) (x_before : Nat → Int32) (x_was : Nat → Int32) (x_region : Nat → Int32) (x_parts : Nat → Int64) (x_next : Nat → Int64) (x_ways : Nat → Int32) (x_more : Nat → Int32) (x_whole : Int64) (x_isSaved : Int32) (x_changes : Int32) (x_isWithin : Int32) (x_code : Int32) (x_input : Nat → Int32) (x_length : Int32) (x_fault : Int32) (x_failed : Int32) (x_signs : Nat → Int32) (x_signMany : Int32) (x_at : Int32) (x_told : Nat → Int32) (x_toldMany : Int32) (a1 : Int32) (a2 : Int32) {res : Int32} (hf : f_X13_isFront x_g a1 a2 = some res) : CI l yX13_isFront wsX13_isFront rm_X13_isFront g [.ref h0, .int a1, .int a2] (w_X13 g h0 h1 h2 h3 h4 h5 h6 h7 h8 h9 h10 h11 h12 h13 x_g x_kept x_saved x_before x_was x_region x_parts x_next x_ways x_more x_whole x_isSaved x_changes x_isWithin x_code x_input x_length x_fault x_failed x_signs x_signMany x_at x_told x_toldMany) (w_X13 g h0 h1 h2 h3 h4 h5 h6 h7 h8 h9 h10 h11 h12 h13 x_g x_kept x_saved x_before x_was x_region x_parts x_next x_ways x_more x_whole x_isSaved x_changes x_isWithin x_code x_input x_length x_fault x_failed x_signs x_signMany x_at x_told x_toldMany) res :=
  mkI (cc := cX13_isFront) (maxL := 3) (by decide) rfl (Nat.le_of_ble_eq_true rfl) (fun p e s m args below meth c A H locs ls E hK hA hW hl => k_X13_isFront_0 E hK hA hf hW hl)

/-! PaperStormModel.isFrontRight(II)Z X13_isFrontRight -/
abbrev rm_X13_isFrontRight : Room := { frames := 3, cells := 0, slots := 0, locals := 65 }
noncomputable def f_X13_isFrontRight (x_g : Nat → Int32) (x_code : Int32) (a1 : Int32) (a2 : Int32) : Option (Int32 × Int32) :=
  jo (fun (s1_23 : Int32) => jo (fun (x_code_47 : Int32) (s0_47 : Int32) => if ¬ vp_nar .boolean s0_47 = s0_47 then none else some (s0_47, x_code_47)) (fun j47 => jo (fun (x_code_46 : Int32) => j47 x_code_46 0) (fun j46 => (f_X13_fails x_code s1_23).bind fun r23 => if r23.1 = 0 then (f_X13_isFront x_g ((5 * a1) + a2) 1).bind fun r36 => if r36 = 0 then j46 r23.2 else j47 r23.2 1 else j46 r23.2))) (fun j23 => (f_X13_isCell a1 a2).bind fun r3 => if r3 = 0 then j23 1 else if a2 = 4 then j23 2 else j23 0)
abbrev G_X13_isFrontRight (p : Program) (l : Launch) (e : Env) (s : State) (m : MethodId) (args : Array Value) (below : List Frame) (meth : Method) (c : Code) (g : GE) (A : Nat → Prop) (h0 h1 h2 h3 h4 h5 h6 h7 h8 h9 h10 h11 h12 h13 : Nat) (x_g : Nat → Int32) (x_kept : Nat → Int32) (x_saved : Nat → Int32) (x_before : Nat → Int32) (x_was : Nat → Int32) (x_region : Nat → Int32) (x_parts : Nat → Int64) (x_next : Nat → Int64) (x_ways : Nat → Int32) (x_more : Nat → Int32) (x_whole : Int64) (x_isSaved : Int32) (x_changes : Int32) (x_isWithin : Int32) (x_input : Nat → Int32) (x_length : Int32) (x_fault : Int32) (x_failed : Int32) (x_signs : Nat → Int32) (x_signMany : Int32) (x_at : Int32) (x_told : Nat → Int32) (x_toldMany : Int32) (res : Int32 × Int32) (H : Heap) (locs : List Loc) (pc : Nat) (ls : Array Slot) (st : List Value) : Prop := W p l e (headSpec wsX13_isFrontRight rm_X13_isFrontRight).room s m args below meth c H locs 0 0 (MQ below (PoI g A (w_X13 g h0 h1 h2 h3 h4 h5 h6 h7 h8 h9 h10 h11 h12 h13 x_g x_kept x_saved x_before x_was x_region x_parts x_next x_ways x_more x_whole x_isSaved x_changes x_isWithin res.2 x_input x_length x_fault x_failed x_signs x_signMany x_at x_told x_toldMany) res.1) args s 0 0 A) (F0 m pc ls st)
set_option maxHeartbeats 4000000 in
set_option maxRecDepth 100000 in
theorem k_X13_isFrontRight_0 {p : Program} {l : Launch} {e : Env} {s : State} {m : MethodId} {args : Array Value} {below : List Frame} {meth : Method} {c : Code} {g : GE} {A : Nat → Prop} {h0 h1 h2 h3 h4 h5 h6 h7 h8 h9 h10 h11 h12 h13 : Nat} {x_g : Nat → Int32} {x_kept : Nat → Int32} {x_saved : Nat → Int32} {x_before : Nat → Int32} {x_was : Nat → Int32} {x_region : Nat → Int32} {x_parts : Nat → Int64} {x_next : Nat → Int64} {x_ways : Nat → Int32} {x_more : Nat → Int32} {x_whole : Int64} {x_isSaved : Int32} {x_changes : Int32} {x_isWithin : Int32} {x_code : Int32} {x_input : Nat → Int32} {x_length : Int32} {x_fault : Int32} {x_failed : Int32} {x_signs : Nat → Int32} {x_signMany : Int32} {x_at : Int32} {x_told : Nat → Int32} {x_toldMany : Int32} {res : Int32 × Int32} {H : Heap} {locs : List Loc} {ls : Array Slot} {a1 : Int32} {a2 : Int32}
    (E : En cX13_isFrontRight RX13 wsX13_isFrontRight 3 (some .boolean) p s m args meth c) (hK : KK g s) (hA : ∀ q, s.heap.size ≤ q → A q) (h : f_X13_isFrontRight x_g x_code a1 a2 = some res) (hW : Wo g A s H locs (w_X13 g h0 h1 h2 h3 h4 h5 h6 h7 h8 h9 h10 h11 h12 h13 x_g x_kept x_saved x_before x_was x_region x_parts x_next x_ways x_more x_whole x_isSaved x_changes x_isWithin x_code x_input x_length x_fault x_failed x_signs x_signMany x_at x_told x_toldMany)) (hl : lv_has ls 3 [(0, .ref h0), (1, .int a1), (2, .int a2)]) : G_X13_isFrontRight p l e s m args below meth c g A h0 h1 h2 h3 h4 h5 h6 h7 h8 h9 h10 h11 h12 h13 x_g x_kept x_saved x_before x_was x_region x_parts x_next x_ways x_more x_whole x_isSaved x_changes x_isWithin x_input x_length x_fault x_failed x_signs x_signMany x_at x_told x_toldMany res H locs 0 ls [] := by
  have hts := E.2.2.2.1
  unfold f_X13_isFrontRight at h
  obtain ⟨j23, hj23, h⟩ := jox1 h
  have J23 : ∀ (s1_23 : Int32) (H : Heap) (locs : List Loc) (ls : Array Slot), j23 s1_23 = some res → Wo g A s H locs (w_X13 g h0 h1 h2 h3 h4 h5 h6 h7 h8 h9 h10 h11 h12 h13 x_g x_kept x_saved x_before x_was x_region x_parts x_next x_ways x_more x_whole x_isSaved x_changes x_isWithin x_code x_input x_length x_fault x_failed x_signs x_signMany x_at x_told x_toldMany) → lv_has ls 3 [(0, .ref h0), (1, .int a1), (2, .int a2)] → G_X13_isFrontRight p l e s m args below meth c g A h0 h1 h2 h3 h4 h5 h6 h7 h8 h9 h10 h11 h12 h13 x_g x_kept x_saved x_before x_was x_region x_parts x_next x_ways x_more x_whole x_isSaved x_changes x_isWithin x_input x_length x_fault x_failed x_signs x_signMany x_at x_told x_toldMany res H locs 23 ls [.int s1_23, .ref h0] := by
    intro s1_23 H locs ls h hW hl
    rw [hj23] at h
    obtain ⟨j47, hj47, h⟩ := jox2 h
    have J47 : ∀ (x_code_47 : Int32) (s0_47 : Int32) (H : Heap) (locs : List Loc) (ls : Array Slot), j47 x_code_47 s0_47 = some res → Wo g A s H locs (w_X13 g h0 h1 h2 h3 h4 h5 h6 h7 h8 h9 h10 h11 h12 h13 x_g x_kept x_saved x_before x_was x_region x_parts x_next x_ways x_more x_whole x_isSaved x_changes x_isWithin x_code_47 x_input x_length x_fault x_failed x_signs x_signMany x_at x_told x_toldMany) → lv_has ls 3 [] → G_X13_isFrontRight p l e s m args below meth c g A h0 h1 h2 h3 h4 h5 h6 h7 h8 h9 h10 h11 h12 h13 x_g x_kept x_saved x_before x_was x_region x_parts x_next x_ways x_more x_whole x_isSaved x_changes x_isWithin x_input x_length x_fault x_failed x_signs x_signMany x_at x_told x_toldMany res H locs 47 ls [.int s0_47] := by
      intro x_code_47 s0_47 H locs ls h hW hl
      rw [hj47] at h
      obtain ⟨hz, h⟩ := ox h
      obtain rfl := Option.some.inj h
      exact endI E (nar_z (Decidable.not_not.mp hz)) hW dX13_isFrontRight_47
    obtain ⟨j46, hj46, h⟩ := jox1 h
    have J46 : ∀ (x_code_46 : Int32) (H : Heap) (locs : List Loc) (ls : Array Slot), j46 x_code_46 = some res → Wo g A s H locs (w_X13 g h0 h1 h2 h3 h4 h5 h6 h7 h8 h9 h10 h11 h12 h13 x_g x_kept x_saved x_before x_was x_region x_parts x_next x_ways x_more x_whole x_isSaved x_changes x_isWithin x_code_46 x_input x_length x_fault x_failed x_signs x_signMany x_at x_told x_toldMany) → lv_has ls 3 [] → G_X13_isFrontRight p l e s m args below meth c g A h0 h1 h2 h3 h4 h5 h6 h7 h8 h9 h10 h11 h12 h13 x_g x_kept x_saved x_before x_was x_region x_parts x_next x_ways x_more x_whole x_isSaved x_changes x_isWithin x_input x_length x_fault x_failed x_signs x_signMany x_at x_told x_toldMany res H locs 46 ls [] := by
      intro x_code_46 H locs ls h hW hl
      rw [hj46] at h
      refine lv_iconst (v := 0) E.1 E.2.1 dX13_isFrontRight_46 (by decide) ?_
      exact J47 x_code_46 0 H locs ls h hW (lv_sub hl [] rfl)
    obtain ⟨r23, hc, h⟩ := bx h
    refine goI (world' := (w_X13 g h0 h1 h2 h3 h4 h5 h6 h7 h8 h9 h10 h11 h12 h13 x_g x_kept x_saved x_before x_was x_region x_parts x_next x_ways x_more x_whole x_isSaved x_changes x_isWithin r23.2 x_input x_length x_fault x_failed x_signs x_signMany x_at x_told x_toldMany)) hW hA (is := [0, 1, 2, 3, 4, 5, 6, 7, 8, 9, 10, 11, 12, 13]) rfl (goV (rest := []) E hK hW [0, 1, 2, 3, 4, 5, 6, 7, 8, 9, 10, 11, 12, 13] rfl rfl (c_X13_fails l g h0 h1 h2 h3 h4 h5 h6 h7 h8 h9 h10 h11 h12 h13 x_g x_kept x_saved x_before x_was x_region x_parts x_next x_ways x_more x_whole x_isSaved x_changes x_isWithin x_code x_input x_length x_fault x_failed x_signs x_signMany x_at x_told x_toldMany s1_23 (hf := hc) H.size) (cwV 1 hts gX13_isFrontRight_X13_fails rfl rfl rfl (by decide +kernel) ⟨Nat.le_of_ble_eq_true rfl, Nat.le_of_ble_eq_true rfl⟩) 0 rfl rfl rfl hl.1 rfl rfl (Nat.le_of_ble_eq_true rfl) dX13_isFrontRight_23 ⟨Nat.zero_le _, Nat.zero_le _⟩) rfl rfl (fun H locs hW => ?_)
    refine lv_if_ne (tgt := 46) E.1 E.2.1 dX13_isFrontRight_26 (by decide) (fun c26 => ?_) (fun c26 => ?_)
    · have h := ie c26 h
      exact J46 r23.2 H locs ls h hW (lv_sub hl [] rfl)
    · have h := it c26 h
      refine lv_aload_n E.1 E.2.1 dX13_isFrontRight_29 rfl (lv_at hl 0 rfl) ?_
      refine lv_iconst (v := 5) E.1 E.2.1 dX13_isFrontRight_30 (by decide) ?_
      refine lv_iload_n E.1 E.2.1 dX13_isFrontRight_31 rfl (lv_at hl 1 rfl) ?_
      refine lv_imul E.1 E.2.1 dX13_isFrontRight_32 ?_
      refine lv_iload_n E.1 E.2.1 dX13_isFrontRight_33 rfl (lv_at hl 2 rfl) ?_
      refine lv_iadd E.1 E.2.1 dX13_isFrontRight_34 ?_
      refine lv_iconst (v := 1) E.1 E.2.1 dX13_isFrontRight_35 (by decide) ?_
      obtain ⟨r36, hc, h⟩ := bx h
      refine goI (world' := (w_X13 g h0 h1 h2 h3 h4 h5 h6 h7 h8 h9 h10 h11 h12 h13 x_g x_kept x_saved x_before x_was x_region x_parts x_next x_ways x_more x_whole x_isSaved x_changes x_isWithin r23.2 x_input x_length x_fault x_failed x_signs x_signMany x_at x_told x_toldMany)) hW hA (is := [0, 1, 2, 3, 4, 5, 6, 7, 8, 9, 10, 11, 12, 13]) rfl (goV (rest := []) E hK hW [0, 1, 2, 3, 4, 5, 6, 7, 8, 9, 10, 11, 12, 13] rfl rfl (c_X13_isFront l g h0 h1 h2 h3 h4 h5 h6 h7 h8 h9 h10 h11 h12 h13 x_g x_kept x_saved x_before x_was x_region x_parts x_next x_ways x_more x_whole x_isSaved x_changes x_isWithin r23.2 x_input x_length x_fault x_failed x_signs x_signMany x_at x_told x_toldMany ((5 * a1) + a2) 1 (hf := hc) H.size) (cwV 2 hts gX13_isFrontRight_X13_isFront rfl rfl rfl (by decide +kernel) ⟨Nat.le_of_ble_eq_true rfl, Nat.le_of_ble_eq_true rfl⟩) 0 rfl rfl rfl hl.1 rfl rfl (Nat.le_of_ble_eq_true rfl) dX13_isFrontRight_36 ⟨Nat.zero_le _, Nat.zero_le _⟩) rfl rfl (fun H locs hW => ?_)
      refine lv_if_eq (tgt := 46) E.1 E.2.1 dX13_isFrontRight_39 (by decide) (fun c39 => ?_) (fun c39 => ?_)
      · have h := it c39 h
        exact J46 r23.2 H locs ls h hW (lv_sub hl [] rfl)
      · have h := ie c39 h
        refine lv_iconst (v := 1) E.1 E.2.1 dX13_isFrontRight_42 (by decide) ?_
        refine lv_goto (tgt := 47) E.1 E.2.1 dX13_isFrontRight_43 (by decide) ?_
        exact J47 r23.2 1 H locs ls h hW (lv_sub hl [] rfl)
  refine lv_aload_n E.1 E.2.1 dX13_isFrontRight_0 rfl (lv_at hl 0 rfl) ?_
  refine lv_iload_n E.1 E.2.1 dX13_isFrontRight_1 rfl (lv_at hl 1 rfl) ?_
  refine lv_iload_n E.1 E.2.1 dX13_isFrontRight_2 rfl (lv_at hl 2 rfl) ?_
  obtain ⟨r3, hc, h⟩ := bx h
  refine goI (world' := (w_X13 g h0 h1 h2 h3 h4 h5 h6 h7 h8 h9 h10 h11 h12 h13 x_g x_kept x_saved x_before x_was x_region x_parts x_next x_ways x_more x_whole x_isSaved x_changes x_isWithin x_code x_input x_length x_fault x_failed x_signs x_signMany x_at x_told x_toldMany)) hW hA (is := []) rfl (goS (rest := [.ref h0]) E hK hW [] rfl rfl (c_X13_isCell l g a1 a2 (hf := hc) H.size) (va_cwS 2 hts gX13_isFrontRight_X13_isCell rfl rfl rfl (by decide +kernel) ⟨Nat.le_of_ble_eq_true rfl, Nat.le_of_ble_eq_true rfl⟩) hl.1 rfl rfl (Nat.le_of_ble_eq_true rfl) dX13_isFrontRight_3 ⟨Nat.zero_le _, Nat.zero_le _⟩) rfl rfl (fun H locs hW => ?_)
  refine lv_if_ne (tgt := 13) E.1 E.2.1 dX13_isFrontRight_6 (by decide) (fun c6 => ?_) (fun c6 => ?_)
  · have h := ie c6 h
    refine lv_iload_n E.1 E.2.1 dX13_isFrontRight_13 rfl (lv_at hl 2 rfl) ?_
    refine lv_iconst (v := 4) E.1 E.2.1 dX13_isFrontRight_14 (by decide) ?_
    refine lv_icmp_ne (tgt := 22) E.1 E.2.1 dX13_isFrontRight_15 (by decide) (fun c15 => ?_) (fun c15 => ?_)
    · have h := ie c15 h
      refine lv_iconst (v := 0) E.1 E.2.1 dX13_isFrontRight_22 (by decide) ?_
      exact J23 0 H locs ls h hW (lv_sub hl [0, 1, 2] rfl)
    · have h := it c15 h
      refine lv_iconst (v := 2) E.1 E.2.1 dX13_isFrontRight_18 (by decide) ?_
      refine lv_goto (tgt := 23) E.1 E.2.1 dX13_isFrontRight_19 (by decide) ?_
      exact J23 2 H locs ls h hW (lv_sub hl [0, 1, 2] rfl)
  · have h := it c6 h
    refine lv_iconst (v := 1) E.1 E.2.1 dX13_isFrontRight_9 (by decide) ?_
    refine lv_goto (tgt := 23) E.1 E.2.1 dX13_isFrontRight_10 (by decide) ?_
    exact J23 1 H locs ls h hW (lv_sub hl [0, 1, 2] rfl)
theorem c_X13_isFrontRight (l : Launch) (g : GE) (h0 h1 h2 h3 h4 h5 h6 h7 h8 h9 h10 h11 h12 h13 : Nat) (x_g : Nat → Int32) (x_kept : Nat → Int32) (x_saved : Nat → Int32) (x_before : Nat → Int32) (x_was : Nat → Int32) (x_region : Nat → Int32) (x_parts : Nat → Int64) (x_next : Nat → Int64) (x_ways : Nat → Int32) (x_more : Nat → Int32) (x_whole : Int64) (x_isSaved : Int32) (x_changes : Int32) (x_isWithin : Int32) (x_code : Int32) (x_input : Nat → Int32) (x_length : Int32) (x_fault : Int32) (x_failed : Int32) (x_signs : Nat → Int32) (x_signMany : Int32) (x_at : Int32) (x_told : Nat → Int32) (x_toldMany : Int32) (a1 : Int32) (a2 : Int32) {res : Int32 × Int32} (hf : f_X13_isFrontRight x_g x_code a1 a2 = some res) : CI l yX13_isFrontRight wsX13_isFrontRight rm_X13_isFrontRight g [.ref h0, .int a1, .int a2] (w_X13 g h0 h1 h2 h3 h4 h5 h6 h7 h8 h9 h10 h11 h12 h13 x_g x_kept x_saved x_before x_was x_region x_parts x_next x_ways x_more x_whole x_isSaved x_changes x_isWithin x_code x_input x_length x_fault x_failed x_signs x_signMany x_at x_told x_toldMany) (w_X13 g h0 h1 h2 h3 h4 h5 h6 h7 h8 h9 h10 h11 h12 h13 x_g x_kept x_saved x_before x_was x_region x_parts x_next x_ways x_more x_whole x_isSaved x_changes x_isWithin res.2 x_input x_length x_fault x_failed x_signs x_signMany x_at x_told x_toldMany) res.1 :=
  mkI (cc := cX13_isFrontRight) (maxL := 3) (by decide) rfl (Nat.le_of_ble_eq_true rfl) (fun p e s m args below meth c A H locs ls E hK hA hW hl => k_X13_isFrontRight_0 E hK hA hf hW hl)

/-! PaperStormModel.isFrontBelow(II)Z X13_isFrontBelow -/
abbrev rm_X13_isFrontBelow : Room := { frames := 3, cells := 0, slots := 0, locals := 65 }
noncomputable def f_X13_isFrontBelow (x_g : Nat → Int32) (x_code : Int32) (a1 : Int32) (a2 : Int32) : Option (Int32 × Int32) :=
  jo (fun (s1_23 : Int32) => jo (fun (x_code_47 : Int32) (s0_47 : Int32) => if ¬ vp_nar .boolean s0_47 = s0_47 then none else some (s0_47, x_code_47)) (fun j47 => jo (fun (x_code_46 : Int32) => j47 x_code_46 0) (fun j46 => (f_X13_fails x_code s1_23).bind fun r23 => if r23.1 = 0 then (f_X13_isFront x_g ((5 * a1) + a2) 5).bind fun r36 => if r36 = 0 then j46 r23.2 else j47 r23.2 1 else j46 r23.2))) (fun j23 => (f_X13_isCell a1 a2).bind fun r3 => if r3 = 0 then j23 1 else if a1 = 4 then j23 2 else j23 0)
abbrev G_X13_isFrontBelow (p : Program) (l : Launch) (e : Env) (s : State) (m : MethodId) (args : Array Value) (below : List Frame) (meth : Method) (c : Code) (g : GE) (A : Nat → Prop) (h0 h1 h2 h3 h4 h5 h6 h7 h8 h9 h10 h11 h12 h13 : Nat) (x_g : Nat → Int32) (x_kept : Nat → Int32) (x_saved : Nat → Int32) (x_before : Nat → Int32) (x_was : Nat → Int32) (x_region : Nat → Int32) (x_parts : Nat → Int64) (x_next : Nat → Int64) (x_ways : Nat → Int32) (x_more : Nat → Int32) (x_whole : Int64) (x_isSaved : Int32) (x_changes : Int32) (x_isWithin : Int32) (x_input : Nat → Int32) (x_length : Int32) (x_fault : Int32) (x_failed : Int32) (x_signs : Nat → Int32) (x_signMany : Int32) (x_at : Int32) (x_told : Nat → Int32) (x_toldMany : Int32) (res : Int32 × Int32) (H : Heap) (locs : List Loc) (pc : Nat) (ls : Array Slot) (st : List Value) : Prop := W p l e (headSpec wsX13_isFrontBelow rm_X13_isFrontBelow).room s m args below meth c H locs 0 0 (MQ below (PoI g A (w_X13 g h0 h1 h2 h3 h4 h5 h6 h7 h8 h9 h10 h11 h12 h13 x_g x_kept x_saved x_before x_was x_region x_parts x_next x_ways x_more x_whole x_isSaved x_changes x_isWithin res.2 x_input x_length x_fault x_failed x_signs x_signMany x_at x_told x_toldMany) res.1) args s 0 0 A) (F0 m pc ls st)
set_option maxHeartbeats 4000000 in
set_option maxRecDepth 100000 in
theorem k_X13_isFrontBelow_0 {p : Program} {l : Launch} {e : Env} {s : State} {m : MethodId} {args : Array Value} {below : List Frame} {meth : Method} {c : Code} {g : GE} {A : Nat → Prop} {h0 h1 h2 h3 h4 h5 h6 h7 h8 h9 h10 h11 h12 h13 : Nat} {x_g : Nat → Int32} {x_kept : Nat → Int32} {x_saved : Nat → Int32} {x_before : Nat → Int32} {x_was : Nat → Int32} {x_region : Nat → Int32} {x_parts : Nat → Int64} {x_next : Nat → Int64} {x_ways : Nat → Int32} {x_more : Nat → Int32} {x_whole : Int64} {x_isSaved : Int32} {x_changes : Int32} {x_isWithin : Int32} {x_code : Int32} {x_input : Nat → Int32} {x_length : Int32} {x_fault : Int32} {x_failed : Int32} {x_signs : Nat → Int32} {x_signMany : Int32} {x_at : Int32} {x_told : Nat → Int32} {x_toldMany : Int32} {res : Int32 × Int32} {H : Heap} {locs : List Loc} {ls : Array Slot} {a1 : Int32} {a2 : Int32}
    (E : En cX13_isFrontBelow RX13 wsX13_isFrontBelow 3 (some .boolean) p s m args meth c) (hK : KK g s) (hA : ∀ q, s.heap.size ≤ q → A q) (h : f_X13_isFrontBelow x_g x_code a1 a2 = some res) (hW : Wo g A s H locs (w_X13 g h0 h1 h2 h3 h4 h5 h6 h7 h8 h9 h10 h11 h12 h13 x_g x_kept x_saved x_before x_was x_region x_parts x_next x_ways x_more x_whole x_isSaved x_changes x_isWithin x_code x_input x_length x_fault x_failed x_signs x_signMany x_at x_told x_toldMany)) (hl : lv_has ls 3 [(0, .ref h0), (1, .int a1), (2, .int a2)]) : G_X13_isFrontBelow p l e s m args below meth c g A h0 h1 h2 h3 h4 h5 h6 h7 h8 h9 h10 h11 h12 h13 x_g x_kept x_saved x_before x_was x_region x_parts x_next x_ways x_more x_whole x_isSaved x_changes x_isWithin x_input x_length x_fault x_failed x_signs x_signMany x_at x_told x_toldMany res H locs 0 ls [] := by
  have hts := E.2.2.2.1
  unfold f_X13_isFrontBelow at h
  obtain ⟨j23, hj23, h⟩ := jox1 h
  have J23 : ∀ (s1_23 : Int32) (H : Heap) (locs : List Loc) (ls : Array Slot), j23 s1_23 = some res → Wo g A s H locs (w_X13 g h0 h1 h2 h3 h4 h5 h6 h7 h8 h9 h10 h11 h12 h13 x_g x_kept x_saved x_before x_was x_region x_parts x_next x_ways x_more x_whole x_isSaved x_changes x_isWithin x_code x_input x_length x_fault x_failed x_signs x_signMany x_at x_told x_toldMany) → lv_has ls 3 [(0, .ref h0), (1, .int a1), (2, .int a2)] → G_X13_isFrontBelow p l e s m args below meth c g A h0 h1 h2 h3 h4 h5 h6 h7 h8 h9 h10 h11 h12 h13 x_g x_kept x_saved x_before x_was x_region x_parts x_next x_ways x_more x_whole x_isSaved x_changes x_isWithin x_input x_length x_fault x_failed x_signs x_signMany x_at x_told x_toldMany res H locs 23 ls [.int s1_23, .ref h0] := by
    intro s1_23 H locs ls h hW hl
    rw [hj23] at h
    obtain ⟨j47, hj47, h⟩ := jox2 h
    have J47 : ∀ (x_code_47 : Int32) (s0_47 : Int32) (H : Heap) (locs : List Loc) (ls : Array Slot), j47 x_code_47 s0_47 = some res → Wo g A s H locs (w_X13 g h0 h1 h2 h3 h4 h5 h6 h7 h8 h9 h10 h11 h12 h13 x_g x_kept x_saved x_before x_was x_region x_parts x_next x_ways x_more x_whole x_isSaved x_changes x_isWithin x_code_47 x_input x_length x_fault x_failed x_signs x_signMany x_at x_told x_toldMany) → lv_has ls 3 [] → G_X13_isFrontBelow p l e s m args below meth c g A h0 h1 h2 h3 h4 h5 h6 h7 h8 h9 h10 h11 h12 h13 x_g x_kept x_saved x_before x_was x_region x_parts x_next x_ways x_more x_whole x_isSaved x_changes x_isWithin x_input x_length x_fault x_failed x_signs x_signMany x_at x_told x_toldMany res H locs 47 ls [.int s0_47] := by
      intro x_code_47 s0_47 H locs ls h hW hl
      rw [hj47] at h
      obtain ⟨hz, h⟩ := ox h
      obtain rfl := Option.some.inj h
      exact endI E (nar_z (Decidable.not_not.mp hz)) hW dX13_isFrontBelow_47
    obtain ⟨j46, hj46, h⟩ := jox1 h
    have J46 : ∀ (x_code_46 : Int32) (H : Heap) (locs : List Loc) (ls : Array Slot), j46 x_code_46 = some res → Wo g A s H locs (w_X13 g h0 h1 h2 h3 h4 h5 h6 h7 h8 h9 h10 h11 h12 h13 x_g x_kept x_saved x_before x_was x_region x_parts x_next x_ways x_more x_whole x_isSaved x_changes x_isWithin x_code_46 x_input x_length x_fault x_failed x_signs x_signMany x_at x_told x_toldMany) → lv_has ls 3 [] → G_X13_isFrontBelow p l e s m args below meth c g A h0 h1 h2 h3 h4 h5 h6 h7 h8 h9 h10 h11 h12 h13 x_g x_kept x_saved x_before x_was x_region x_parts x_next x_ways x_more x_whole x_isSaved x_changes x_isWithin x_input x_length x_fault x_failed x_signs x_signMany x_at x_told x_toldMany res H locs 46 ls [] := by
      intro x_code_46 H locs ls h hW hl
      rw [hj46] at h
      refine lv_iconst (v := 0) E.1 E.2.1 dX13_isFrontBelow_46 (by decide) ?_
      exact J47 x_code_46 0 H locs ls h hW (lv_sub hl [] rfl)
    obtain ⟨r23, hc, h⟩ := bx h
    refine goI (world' := (w_X13 g h0 h1 h2 h3 h4 h5 h6 h7 h8 h9 h10 h11 h12 h13 x_g x_kept x_saved x_before x_was x_region x_parts x_next x_ways x_more x_whole x_isSaved x_changes x_isWithin r23.2 x_input x_length x_fault x_failed x_signs x_signMany x_at x_told x_toldMany)) hW hA (is := [0, 1, 2, 3, 4, 5, 6, 7, 8, 9, 10, 11, 12, 13]) rfl (goV (rest := []) E hK hW [0, 1, 2, 3, 4, 5, 6, 7, 8, 9, 10, 11, 12, 13] rfl rfl (c_X13_fails l g h0 h1 h2 h3 h4 h5 h6 h7 h8 h9 h10 h11 h12 h13 x_g x_kept x_saved x_before x_was x_region x_parts x_next x_ways x_more x_whole x_isSaved x_changes x_isWithin x_code x_input x_length x_fault x_failed x_signs x_signMany x_at x_told x_toldMany s1_23 (hf := hc) H.size) (cwV 1 hts gX13_isFrontBelow_X13_fails rfl rfl rfl (by decide +kernel) ⟨Nat.le_of_ble_eq_true rfl, Nat.le_of_ble_eq_true rfl⟩) 0 rfl rfl rfl hl.1 rfl rfl (Nat.le_of_ble_eq_true rfl) dX13_isFrontBelow_23 ⟨Nat.zero_le _, Nat.zero_le _⟩) rfl rfl (fun H locs hW => ?_)
    refine lv_if_ne (tgt := 46) E.1 E.2.1 dX13_isFrontBelow_26 (by decide) (fun c26 => ?_) (fun c26 => ?_)
    · have h := ie c26 h
      exact J46 r23.2 H locs ls h hW (lv_sub hl [] rfl)
    · have h := it c26 h
      refine lv_aload_n E.1 E.2.1 dX13_isFrontBelow_29 rfl (lv_at hl 0 rfl) ?_
      refine lv_iconst (v := 5) E.1 E.2.1 dX13_isFrontBelow_30 (by decide) ?_
      refine lv_iload_n E.1 E.2.1 dX13_isFrontBelow_31 rfl (lv_at hl 1 rfl) ?_
      refine lv_imul E.1 E.2.1 dX13_isFrontBelow_32 ?_
      refine lv_iload_n E.1 E.2.1 dX13_isFrontBelow_33 rfl (lv_at hl 2 rfl) ?_
      refine lv_iadd E.1 E.2.1 dX13_isFrontBelow_34 ?_
      refine lv_iconst (v := 5) E.1 E.2.1 dX13_isFrontBelow_35 (by decide) ?_
      obtain ⟨r36, hc, h⟩ := bx h
      refine goI (world' := (w_X13 g h0 h1 h2 h3 h4 h5 h6 h7 h8 h9 h10 h11 h12 h13 x_g x_kept x_saved x_before x_was x_region x_parts x_next x_ways x_more x_whole x_isSaved x_changes x_isWithin r23.2 x_input x_length x_fault x_failed x_signs x_signMany x_at x_told x_toldMany)) hW hA (is := [0, 1, 2, 3, 4, 5, 6, 7, 8, 9, 10, 11, 12, 13]) rfl (goV (rest := []) E hK hW [0, 1, 2, 3, 4, 5, 6, 7, 8, 9, 10, 11, 12, 13] rfl rfl (c_X13_isFront l g h0 h1 h2 h3 h4 h5 h6 h7 h8 h9 h10 h11 h12 h13 x_g x_kept x_saved x_before x_was x_region x_parts x_next x_ways x_more x_whole x_isSaved x_changes x_isWithin r23.2 x_input x_length x_fault x_failed x_signs x_signMany x_at x_told x_toldMany ((5 * a1) + a2) 5 (hf := hc) H.size) (cwV 2 hts gX13_isFrontBelow_X13_isFront rfl rfl rfl (by decide +kernel) ⟨Nat.le_of_ble_eq_true rfl, Nat.le_of_ble_eq_true rfl⟩) 0 rfl rfl rfl hl.1 rfl rfl (Nat.le_of_ble_eq_true rfl) dX13_isFrontBelow_36 ⟨Nat.zero_le _, Nat.zero_le _⟩) rfl rfl (fun H locs hW => ?_)
      refine lv_if_eq (tgt := 46) E.1 E.2.1 dX13_isFrontBelow_39 (by decide) (fun c39 => ?_) (fun c39 => ?_)
      · have h := it c39 h
        exact J46 r23.2 H locs ls h hW (lv_sub hl [] rfl)
      · have h := ie c39 h
        refine lv_iconst (v := 1) E.1 E.2.1 dX13_isFrontBelow_42 (by decide) ?_
        refine lv_goto (tgt := 47) E.1 E.2.1 dX13_isFrontBelow_43 (by decide) ?_
        exact J47 r23.2 1 H locs ls h hW (lv_sub hl [] rfl)
  refine lv_aload_n E.1 E.2.1 dX13_isFrontBelow_0 rfl (lv_at hl 0 rfl) ?_
  refine lv_iload_n E.1 E.2.1 dX13_isFrontBelow_1 rfl (lv_at hl 1 rfl) ?_
  refine lv_iload_n E.1 E.2.1 dX13_isFrontBelow_2 rfl (lv_at hl 2 rfl) ?_
  obtain ⟨r3, hc, h⟩ := bx h
  refine goI (world' := (w_X13 g h0 h1 h2 h3 h4 h5 h6 h7 h8 h9 h10 h11 h12 h13 x_g x_kept x_saved x_before x_was x_region x_parts x_next x_ways x_more x_whole x_isSaved x_changes x_isWithin x_code x_input x_length x_fault x_failed x_signs x_signMany x_at x_told x_toldMany)) hW hA (is := []) rfl (goS (rest := [.ref h0]) E hK hW [] rfl rfl (c_X13_isCell l g a1 a2 (hf := hc) H.size) (va_cwS 2 hts gX13_isFrontBelow_X13_isCell rfl rfl rfl (by decide +kernel) ⟨Nat.le_of_ble_eq_true rfl, Nat.le_of_ble_eq_true rfl⟩) hl.1 rfl rfl (Nat.le_of_ble_eq_true rfl) dX13_isFrontBelow_3 ⟨Nat.zero_le _, Nat.zero_le _⟩) rfl rfl (fun H locs hW => ?_)
  refine lv_if_ne (tgt := 13) E.1 E.2.1 dX13_isFrontBelow_6 (by decide) (fun c6 => ?_) (fun c6 => ?_)
  · have h := ie c6 h
    refine lv_iload_n E.1 E.2.1 dX13_isFrontBelow_13 rfl (lv_at hl 1 rfl) ?_
    refine lv_iconst (v := 4) E.1 E.2.1 dX13_isFrontBelow_14 (by decide) ?_
    refine lv_icmp_ne (tgt := 22) E.1 E.2.1 dX13_isFrontBelow_15 (by decide) (fun c15 => ?_) (fun c15 => ?_)
    · have h := ie c15 h
      refine lv_iconst (v := 0) E.1 E.2.1 dX13_isFrontBelow_22 (by decide) ?_
      exact J23 0 H locs ls h hW (lv_sub hl [0, 1, 2] rfl)
    · have h := it c15 h
      refine lv_iconst (v := 2) E.1 E.2.1 dX13_isFrontBelow_18 (by decide) ?_
      refine lv_goto (tgt := 23) E.1 E.2.1 dX13_isFrontBelow_19 (by decide) ?_
      exact J23 2 H locs ls h hW (lv_sub hl [0, 1, 2] rfl)
  · have h := it c6 h
    refine lv_iconst (v := 1) E.1 E.2.1 dX13_isFrontBelow_9 (by decide) ?_
    refine lv_goto (tgt := 23) E.1 E.2.1 dX13_isFrontBelow_10 (by decide) ?_
    exact J23 1 H locs ls h hW (lv_sub hl [0, 1, 2] rfl)
theorem c_X13_isFrontBelow (l : Launch) (g : GE) (h0 h1 h2 h3 h4 h5 h6 h7 h8 h9 h10 h11 h12 h13 : Nat) (x_g : Nat → Int32) (x_kept : Nat → Int32) (x_saved : Nat → Int32) (x_before : Nat → Int32) (x_was : Nat → Int32) (x_region : Nat → Int32) (x_parts : Nat → Int64) (x_next : Nat → Int64) (x_ways : Nat → Int32) (x_more : Nat → Int32) (x_whole : Int64) (x_isSaved : Int32) (x_changes : Int32) (x_isWithin : Int32) (x_code : Int32) (x_input : Nat → Int32) (x_length : Int32) (x_fault : Int32) (x_failed : Int32) (x_signs : Nat → Int32) (x_signMany : Int32) (x_at : Int32) (x_told : Nat → Int32) (x_toldMany : Int32) (a1 : Int32) (a2 : Int32) {res : Int32 × Int32} (hf : f_X13_isFrontBelow x_g x_code a1 a2 = some res) : CI l yX13_isFrontBelow wsX13_isFrontBelow rm_X13_isFrontBelow g [.ref h0, .int a1, .int a2] (w_X13 g h0 h1 h2 h3 h4 h5 h6 h7 h8 h9 h10 h11 h12 h13 x_g x_kept x_saved x_before x_was x_region x_parts x_next x_ways x_more x_whole x_isSaved x_changes x_isWithin x_code x_input x_length x_fault x_failed x_signs x_signMany x_at x_told x_toldMany) (w_X13 g h0 h1 h2 h3 h4 h5 h6 h7 h8 h9 h10 h11 h12 h13 x_g x_kept x_saved x_before x_was x_region x_parts x_next x_ways x_more x_whole x_isSaved x_changes x_isWithin res.2 x_input x_length x_fault x_failed x_signs x_signMany x_at x_told x_toldMany) res.1 :=
  mkI (cc := cX13_isFrontBelow) (maxL := 3) (by decide) rfl (Nat.le_of_ble_eq_true rfl) (fun p e s m args below meth c A H locs ls E hK hA hW hl => k_X13_isFrontBelow_0 E hK hA hf hW hl)

/-! PaperStormModel.frontCount()I X13_frontCount -/
abbrev rm_X13_frontCount : Room := { frames := 3, cells := 0, slots := 0, locals := 65 }
theorem in_X13_frontCount_X13 : ∀ w ∈ wsX130, w ∈ wsX13_frontCount := by decide +kernel
theorem lk_X13_frontCount_58 : Cond.fieldLink RX13 58 "PaperStormModel" "code" "I" ∈ wsX13_frontCount := by decide +kernel
noncomputable def f_X13_frontCount_9 (x_g : Nat → Int32) (z66 : Int32 → Option (Int32 × Int32)) : Nat → Int32 → Int32 → Option (Int32 × Int32)
  | 0, _, _ => none
  | n + 1, l1_9, l2_9 => if 25 ≤ l2_9 then z66 l1_9 else jo (fun (s0_37 : Int32) (s1_37 : Int32) => jo (fun (s0_57 : Int32) (s1_57 : Int32) (s2_57 : Int32) => f_X13_frontCount_9 x_g z66 n (s0_57 + (s1_57 + s2_57)) (l2_9 + 1)) (fun j57 => jo (fun (s0_56 : Int32) (s1_56 : Int32) => j57 s0_56 s1_56 0) (fun j56 => if 20 ≤ l2_9 then j56 s0_37 s1_37 else (f_X13_isFront x_g l2_9 5).bind fun r46 => if r46 = 0 then j56 s0_37 s1_37 else j57 s0_37 s1_37 1))) (fun j37 => jo (fun (s0_36 : Int32) => j37 s0_36 0) (fun j36 => if 4 ≤ (l2_9 - l2_9 / 5 * 5) then j36 l1_9 else (f_X13_isFront x_g l2_9 1).bind fun r26 => if r26 = 0 then j36 l1_9 else j37 l1_9 1))
noncomputable def f_X13_frontCount (x_g : Nat → Int32) (x_code : Int32) : Option (Int32 × Int32) :=
  f_X13_frontCount_9 x_g (fun l1_66e => some (l1_66e, 0)) 1000 0 0
abbrev G_X13_frontCount (p : Program) (l : Launch) (e : Env) (s : State) (m : MethodId) (args : Array Value) (below : List Frame) (meth : Method) (c : Code) (g : GE) (A : Nat → Prop) (h0 h1 h2 h3 h4 h5 h6 h7 h8 h9 h10 h11 h12 h13 : Nat) (x_g : Nat → Int32) (x_kept : Nat → Int32) (x_saved : Nat → Int32) (x_before : Nat → Int32) (x_was : Nat → Int32) (x_region : Nat → Int32) (x_parts : Nat → Int64) (x_next : Nat → Int64) (x_ways : Nat → Int32) (x_more : Nat → Int32) (x_whole : Int64) (x_isSaved : Int32) (x_changes : Int32) (x_isWithin : Int32) (x_input : Nat → Int32) (x_length : Int32) (x_fault : Int32) (x_failed : Int32) (x_signs : Nat → Int32) (x_signMany : Int32) (x_at : Int32) (x_told : Nat → Int32) (x_toldMany : Int32) (res : Int32 × Int32) (H : Heap) (locs : List Loc) (pc : Nat) (ls : Array Slot) (st : List Value) : Prop := W p l e (headSpec wsX13_frontCount rm_X13_frontCount).room s m args below meth c H locs 0 0 (MQ below (PoI g A (w_X13 g h0 h1 h2 h3 h4 h5 h6 h7 h8 h9 h10 h11 h12 h13 x_g x_kept x_saved x_before x_was x_region x_parts x_next x_ways x_more x_whole x_isSaved x_changes x_isWithin res.2 x_input x_length x_fault x_failed x_signs x_signMany x_at x_told x_toldMany) res.1) args s 0 0 A) (F0 m pc ls st)
set_option maxHeartbeats 4000000 in
set_option maxRecDepth 100000 in
theorem k_X13_frontCount_9 {p : Program} {l : Launch} {e : Env} {s : State} {m : MethodId} {args : Array Value} {below : List Frame} {meth : Method} {c : Code} {g : GE} {A : Nat → Prop} {h0 h1 h2 h3 h4 h5 h6 h7 h8 h9 h10 h11 h12 h13 : Nat} {x_g : Nat → Int32} {x_kept : Nat → Int32} {x_saved : Nat → Int32} {x_before : Nat → Int32} {x_was : Nat → Int32} {x_region : Nat → Int32} {x_parts : Nat → Int64} {x_next : Nat → Int64} {x_ways : Nat → Int32} {x_more : Nat → Int32} {x_whole : Int64} {x_isSaved : Int32} {x_changes : Int32} {x_isWithin : Int32} {x_code : Int32} {x_input : Nat → Int32} {x_length : Int32} {x_fault : Int32} {x_failed : Int32} {x_signs : Nat → Int32} {x_signMany : Int32} {x_at : Int32} {x_told : Nat → Int32} {x_toldMany : Int32} {res : Int32 × Int32} {z66 : Int32 → Option (Int32 × Int32)}
    (E : En cX13_frontCount RX13 wsX13_frontCount 3 (some .int) p s m args meth c) (hK : KK g s) (hA : ∀ q, s.heap.size ≤ q → A q)
    (hz66 : ∀ (l1_66e : Int32) (H : Heap) (locs : List Loc) (ls : Array Slot), z66 l1_66e = some res → Wo g A s H locs (w_X13 g h0 h1 h2 h3 h4 h5 h6 h7 h8 h9 h10 h11 h12 h13 x_g x_kept x_saved x_before x_was x_region x_parts x_next x_ways x_more x_whole x_isSaved x_changes x_isWithin x_code x_input x_length x_fault x_failed x_signs x_signMany x_at x_told x_toldMany) → lv_has ls 3 [(1, .int l1_66e)] → G_X13_frontCount p l e s m args below meth c g A h0 h1 h2 h3 h4 h5 h6 h7 h8 h9 h10 h11 h12 h13 x_g x_kept x_saved x_before x_was x_region x_parts x_next x_ways x_more x_whole x_isSaved x_changes x_isWithin x_input x_length x_fault x_failed x_signs x_signMany x_at x_told x_toldMany res H locs 66 ls [])
    : ∀ (n : Nat) (l1_9 : Int32) (l2_9 : Int32) (H : Heap) (locs : List Loc) (ls : Array Slot), f_X13_frontCount_9 x_g z66 n l1_9 l2_9 = some res → Wo g A s H locs (w_X13 g h0 h1 h2 h3 h4 h5 h6 h7 h8 h9 h10 h11 h12 h13 x_g x_kept x_saved x_before x_was x_region x_parts x_next x_ways x_more x_whole x_isSaved x_changes x_isWithin x_code x_input x_length x_fault x_failed x_signs x_signMany x_at x_told x_toldMany) → lv_has ls 3 [(0, .ref h0), (1, .int l1_9), (2, .int l2_9)] → G_X13_frontCount p l e s m args below meth c g A h0 h1 h2 h3 h4 h5 h6 h7 h8 h9 h10 h11 h12 h13 x_g x_kept x_saved x_before x_was x_region x_parts x_next x_ways x_more x_whole x_isSaved x_changes x_isWithin x_input x_length x_fault x_failed x_signs x_signMany x_at x_told x_toldMany res H locs 9 ls [] := by
  have hts := E.2.2.2.1
  intro n
  induction n with
  | zero => intro l1_9 l2_9 H locs ls h hW hl; rw [f_X13_frontCount_9] at h; cases h
  | succ n ih =>
    intro l1_9 l2_9 H locs ls h hW hl
    rw [f_X13_frontCount_9] at h
    refine lv_iload_n E.1 E.2.1 dX13_frontCount_9 rfl (lv_at hl 2 rfl) ?_
    refine lv_bipush (v := 25) E.1 E.2.1 dX13_frontCount_10 (by decide) ?_
    refine lv_icmp_ge (tgt := 66) E.1 E.2.1 dX13_frontCount_12 (by decide) (fun c12 => ?_) (fun c12 => ?_)
    · have h := it c12 h
      exact hz66 l1_9 H locs ls h hW (lv_sub hl [1] rfl)
    · have h := ie c12 h
      obtain ⟨j37, hj37, h⟩ := jox2 h
      have J37 : ∀ (s0_37 : Int32) (s1_37 : Int32) (H : Heap) (locs : List Loc) (ls : Array Slot), j37 s0_37 s1_37 = some res → Wo g A s H locs (w_X13 g h0 h1 h2 h3 h4 h5 h6 h7 h8 h9 h10 h11 h12 h13 x_g x_kept x_saved x_before x_was x_region x_parts x_next x_ways x_more x_whole x_isSaved x_changes x_isWithin x_code x_input x_length x_fault x_failed x_signs x_signMany x_at x_told x_toldMany) → lv_has ls 3 [(0, .ref h0), (2, .int l2_9)] → G_X13_frontCount p l e s m args below meth c g A h0 h1 h2 h3 h4 h5 h6 h7 h8 h9 h10 h11 h12 h13 x_g x_kept x_saved x_before x_was x_region x_parts x_next x_ways x_more x_whole x_isSaved x_changes x_isWithin x_input x_length x_fault x_failed x_signs x_signMany x_at x_told x_toldMany res H locs 37 ls [.int s1_37, .int s0_37] := by
        intro s0_37 s1_37 H locs ls h hW hl
        rw [hj37] at h
        obtain ⟨j57, hj57, h⟩ := jox3 h
        have J57 : ∀ (s0_57 : Int32) (s1_57 : Int32) (s2_57 : Int32) (H : Heap) (locs : List Loc) (ls : Array Slot), j57 s0_57 s1_57 s2_57 = some res → Wo g A s H locs (w_X13 g h0 h1 h2 h3 h4 h5 h6 h7 h8 h9 h10 h11 h12 h13 x_g x_kept x_saved x_before x_was x_region x_parts x_next x_ways x_more x_whole x_isSaved x_changes x_isWithin x_code x_input x_length x_fault x_failed x_signs x_signMany x_at x_told x_toldMany) → lv_has ls 3 [(0, .ref h0), (2, .int l2_9)] → G_X13_frontCount p l e s m args below meth c g A h0 h1 h2 h3 h4 h5 h6 h7 h8 h9 h10 h11 h12 h13 x_g x_kept x_saved x_before x_was x_region x_parts x_next x_ways x_more x_whole x_isSaved x_changes x_isWithin x_input x_length x_fault x_failed x_signs x_signMany x_at x_told x_toldMany res H locs 57 ls [.int s2_57, .int s1_57, .int s0_57] := by
          intro s0_57 s1_57 s2_57 H locs ls h hW hl
          rw [hj57] at h
          refine lv_iadd E.1 E.2.1 dX13_frontCount_57 ?_
          refine lv_iadd E.1 E.2.1 dX13_frontCount_58 ?_
          refine lv_istore_n (lv' := [(1, .int (s0_57 + (s1_57 + s2_57))), (0, .ref h0), (2, .int l2_9)]) E.1 E.2.1 dX13_frontCount_59 rfl hl (by decide) rfl (fun ls hl => ?_)
          refine lv_iinc (v := (l2_9 + 1)) (lv' := [(2, .int (l2_9 + 1)), (1, .int (s0_57 + (s1_57 + s2_57))), (0, .ref h0)]) E.1 E.2.1 dX13_frontCount_60 hl (k := 2) rfl rfl (by decide) rfl (fun ls hl => ?_)
          refine lv_goto (tgt := 9) E.1 E.2.1 dX13_frontCount_63 (by decide) ?_
          exact ih (s0_57 + (s1_57 + s2_57)) (l2_9 + 1) H locs ls h hW (lv_sub hl [2, 1, 0] rfl)
        obtain ⟨j56, hj56, h⟩ := jox2 h
        have J56 : ∀ (s0_56 : Int32) (s1_56 : Int32) (H : Heap) (locs : List Loc) (ls : Array Slot), j56 s0_56 s1_56 = some res → Wo g A s H locs (w_X13 g h0 h1 h2 h3 h4 h5 h6 h7 h8 h9 h10 h11 h12 h13 x_g x_kept x_saved x_before x_was x_region x_parts x_next x_ways x_more x_whole x_isSaved x_changes x_isWithin x_code x_input x_length x_fault x_failed x_signs x_signMany x_at x_told x_toldMany) → lv_has ls 3 [(0, .ref h0), (2, .int l2_9)] → G_X13_frontCount p l e s m args below meth c g A h0 h1 h2 h3 h4 h5 h6 h7 h8 h9 h10 h11 h12 h13 x_g x_kept x_saved x_before x_was x_region x_parts x_next x_ways x_more x_whole x_isSaved x_changes x_isWithin x_input x_length x_fault x_failed x_signs x_signMany x_at x_told x_toldMany res H locs 56 ls [.int s1_56, .int s0_56] := by
          intro s0_56 s1_56 H locs ls h hW hl
          rw [hj56] at h
          refine lv_iconst (v := 0) E.1 E.2.1 dX13_frontCount_56 (by decide) ?_
          exact J57 s0_56 s1_56 0 H locs ls h hW (lv_sub hl [0, 1] rfl)
        refine lv_iload_n E.1 E.2.1 dX13_frontCount_37 rfl (lv_at hl 1 rfl) ?_
        refine lv_bipush (v := 20) E.1 E.2.1 dX13_frontCount_38 (by decide) ?_
        refine lv_icmp_ge (tgt := 56) E.1 E.2.1 dX13_frontCount_40 (by decide) (fun c40 => ?_) (fun c40 => ?_)
        · have h := it c40 h
          exact J56 s0_37 s1_37 H locs ls h hW (lv_sub hl [0, 1] rfl)
        · have h := ie c40 h
          refine lv_aload_n E.1 E.2.1 dX13_frontCount_43 rfl (lv_at hl 0 rfl) ?_
          refine lv_iload_n E.1 E.2.1 dX13_frontCount_44 rfl (lv_at hl 1 rfl) ?_
          refine lv_iconst (v := 5) E.1 E.2.1 dX13_frontCount_45 (by decide) ?_
          obtain ⟨r46, hc, h⟩ := bx h
          refine goI (world' := (w_X13 g h0 h1 h2 h3 h4 h5 h6 h7 h8 h9 h10 h11 h12 h13 x_g x_kept x_saved x_before x_was x_region x_parts x_next x_ways x_more x_whole x_isSaved x_changes x_isWithin x_code x_input x_length x_fault x_failed x_signs x_signMany x_at x_told x_toldMany)) hW hA (is := [0, 1, 2, 3, 4, 5, 6, 7, 8, 9, 10, 11, 12, 13]) rfl (goV (rest := [.int s1_37, .int s0_37]) E hK hW [0, 1, 2, 3, 4, 5, 6, 7, 8, 9, 10, 11, 12, 13] rfl rfl (c_X13_isFront l g h0 h1 h2 h3 h4 h5 h6 h7 h8 h9 h10 h11 h12 h13 x_g x_kept x_saved x_before x_was x_region x_parts x_next x_ways x_more x_whole x_isSaved x_changes x_isWithin x_code x_input x_length x_fault x_failed x_signs x_signMany x_at x_told x_toldMany l2_9 5 (hf := hc) H.size) (cwV 2 hts gX13_frontCount_X13_isFront rfl rfl rfl (by decide +kernel) ⟨Nat.le_of_ble_eq_true rfl, Nat.le_of_ble_eq_true rfl⟩) 0 rfl rfl rfl hl.1 rfl rfl (Nat.le_of_ble_eq_true rfl) dX13_frontCount_46 ⟨Nat.zero_le _, Nat.zero_le _⟩) rfl rfl (fun H locs hW => ?_)
          refine lv_if_eq (tgt := 56) E.1 E.2.1 dX13_frontCount_49 (by decide) (fun c49 => ?_) (fun c49 => ?_)
          · have h := it c49 h
            exact J56 s0_37 s1_37 H locs ls h hW (lv_sub hl [0, 1] rfl)
          · have h := ie c49 h
            refine lv_iconst (v := 1) E.1 E.2.1 dX13_frontCount_52 (by decide) ?_
            refine lv_goto (tgt := 57) E.1 E.2.1 dX13_frontCount_53 (by decide) ?_
            exact J57 s0_37 s1_37 1 H locs ls h hW (lv_sub hl [0, 1] rfl)
      obtain ⟨j36, hj36, h⟩ := jox1 h
      have J36 : ∀ (s0_36 : Int32) (H : Heap) (locs : List Loc) (ls : Array Slot), j36 s0_36 = some res → Wo g A s H locs (w_X13 g h0 h1 h2 h3 h4 h5 h6 h7 h8 h9 h10 h11 h12 h13 x_g x_kept x_saved x_before x_was x_region x_parts x_next x_ways x_more x_whole x_isSaved x_changes x_isWithin x_code x_input x_length x_fault x_failed x_signs x_signMany x_at x_told x_toldMany) → lv_has ls 3 [(0, .ref h0), (2, .int l2_9)] → G_X13_frontCount p l e s m args below meth c g A h0 h1 h2 h3 h4 h5 h6 h7 h8 h9 h10 h11 h12 h13 x_g x_kept x_saved x_before x_was x_region x_parts x_next x_ways x_more x_whole x_isSaved x_changes x_isWithin x_input x_length x_fault x_failed x_signs x_signMany x_at x_told x_toldMany res H locs 36 ls [.int s0_36] := by
        intro s0_36 H locs ls h hW hl
        rw [hj36] at h
        refine lv_iconst (v := 0) E.1 E.2.1 dX13_frontCount_36 (by decide) ?_
        exact J37 s0_36 0 H locs ls h hW (lv_sub hl [0, 1] rfl)
      refine lv_iload_n E.1 E.2.1 dX13_frontCount_15 rfl (lv_at hl 1 rfl) ?_
      refine lv_iload_n E.1 E.2.1 dX13_frontCount_16 rfl (lv_at hl 2 rfl) ?_
      refine lv_iconst (v := 5) E.1 E.2.1 dX13_frontCount_17 (by decide) ?_
      refine lv_irem E.1 E.2.1 dX13_frontCount_18 (by decide) ?_
      refine lv_iconst (v := 4) E.1 E.2.1 dX13_frontCount_19 (by decide) ?_
      refine lv_icmp_ge (tgt := 36) E.1 E.2.1 dX13_frontCount_20 (by decide) (fun c20 => ?_) (fun c20 => ?_)
      · have h := it c20 h
        exact J36 l1_9 H locs ls h hW (lv_sub hl [0, 2] rfl)
      · have h := ie c20 h
        refine lv_aload_n E.1 E.2.1 dX13_frontCount_23 rfl (lv_at hl 0 rfl) ?_
        refine lv_iload_n E.1 E.2.1 dX13_frontCount_24 rfl (lv_at hl 2 rfl) ?_
        refine lv_iconst (v := 1) E.1 E.2.1 dX13_frontCount_25 (by decide) ?_
        obtain ⟨r26, hc, h⟩ := bx h
        refine goI (world' := (w_X13 g h0 h1 h2 h3 h4 h5 h6 h7 h8 h9 h10 h11 h12 h13 x_g x_kept x_saved x_before x_was x_region x_parts x_next x_ways x_more x_whole x_isSaved x_changes x_isWithin x_code x_input x_length x_fault x_failed x_signs x_signMany x_at x_told x_toldMany)) hW hA (is := [0, 1, 2, 3, 4, 5, 6, 7, 8, 9, 10, 11, 12, 13]) rfl (goV (rest := [.int l1_9]) E hK hW [0, 1, 2, 3, 4, 5, 6, 7, 8, 9, 10, 11, 12, 13] rfl rfl (c_X13_isFront l g h0 h1 h2 h3 h4 h5 h6 h7 h8 h9 h10 h11 h12 h13 x_g x_kept x_saved x_before x_was x_region x_parts x_next x_ways x_more x_whole x_isSaved x_changes x_isWithin x_code x_input x_length x_fault x_failed x_signs x_signMany x_at x_told x_toldMany l2_9 1 (hf := hc) H.size) (cwV 2 hts gX13_frontCount_X13_isFront rfl rfl rfl (by decide +kernel) ⟨Nat.le_of_ble_eq_true rfl, Nat.le_of_ble_eq_true rfl⟩) 0 rfl rfl rfl hl.1 rfl rfl (Nat.le_of_ble_eq_true rfl) dX13_frontCount_26 ⟨Nat.zero_le _, Nat.zero_le _⟩) rfl rfl (fun H locs hW => ?_)
        refine lv_if_eq (tgt := 36) E.1 E.2.1 dX13_frontCount_29 (by decide) (fun c29 => ?_) (fun c29 => ?_)
        · have h := it c29 h
          exact J36 l1_9 H locs ls h hW (lv_sub hl [0, 2] rfl)
        · have h := ie c29 h
          refine lv_iconst (v := 1) E.1 E.2.1 dX13_frontCount_32 (by decide) ?_
          refine lv_goto (tgt := 37) E.1 E.2.1 dX13_frontCount_33 (by decide) ?_
          exact J37 l1_9 1 H locs ls h hW (lv_sub hl [0, 2] rfl)
set_option maxHeartbeats 4000000 in
set_option maxRecDepth 100000 in
theorem k_X13_frontCount_0 {p : Program} {l : Launch} {e : Env} {s : State} {m : MethodId} {args : Array Value} {below : List Frame} {meth : Method} {c : Code} {g : GE} {A : Nat → Prop} {h0 h1 h2 h3 h4 h5 h6 h7 h8 h9 h10 h11 h12 h13 : Nat} {x_g : Nat → Int32} {x_kept : Nat → Int32} {x_saved : Nat → Int32} {x_before : Nat → Int32} {x_was : Nat → Int32} {x_region : Nat → Int32} {x_parts : Nat → Int64} {x_next : Nat → Int64} {x_ways : Nat → Int32} {x_more : Nat → Int32} {x_whole : Int64} {x_isSaved : Int32} {x_changes : Int32} {x_isWithin : Int32} {x_code : Int32} {x_input : Nat → Int32} {x_length : Int32} {x_fault : Int32} {x_failed : Int32} {x_signs : Nat → Int32} {x_signMany : Int32} {x_at : Int32} {x_told : Nat → Int32} {x_toldMany : Int32} {res : Int32 × Int32} {H : Heap} {locs : List Loc} {ls : Array Slot} 
    (E : En cX13_frontCount RX13 wsX13_frontCount 3 (some .int) p s m args meth c) (hK : KK g s) (hA : ∀ q, s.heap.size ≤ q → A q) (h : f_X13_frontCount x_g x_code = some res) (hW : Wo g A s H locs (w_X13 g h0 h1 h2 h3 h4 h5 h6 h7 h8 h9 h10 h11 h12 h13 x_g x_kept x_saved x_before x_was x_region x_parts x_next x_ways x_more x_whole x_isSaved x_changes x_isWithin x_code x_input x_length x_fault x_failed x_signs x_signMany x_at x_told x_toldMany)) (hl : lv_has ls 3 [(0, .ref h0)]) : G_X13_frontCount p l e s m args below meth c g A h0 h1 h2 h3 h4 h5 h6 h7 h8 h9 h10 h11 h12 h13 x_g x_kept x_saved x_before x_was x_region x_parts x_next x_ways x_more x_whole x_isSaved x_changes x_isWithin x_input x_length x_fault x_failed x_signs x_signMany x_at x_told x_toldMany res H locs 0 ls [] := by
  have hts := E.2.2.2.1
  unfold f_X13_frontCount at h
  refine lv_aload_n E.1 E.2.1 dX13_frontCount_0 rfl (lv_at hl 0 rfl) ?_
  refine lv_iconst (v := 0) E.1 E.2.1 dX13_frontCount_1 (by decide) ?_
  refine wPut (world' := (w_X13 g h0 h1 h2 h3 h4 h5 h6 h7 h8 h9 h10 h11 h12 h13 x_g x_kept x_saved x_before x_was x_region x_parts x_next x_ways x_more x_whole x_isSaved x_changes x_isWithin 0 x_input x_length x_fault x_failed x_signs x_signMany x_at x_told x_toldMany)) E hK in_X13_frontCount_X13 tyX13 tyX13_ok nmX13 hW 14 lk_X13_frontCount_58 0 rfl rfl (by decide) rfl rfl rfl rfl rfl (Nat.le_of_ble_eq_true rfl) dX13_frontCount_2 rfl (fun H locs hW => ?_)
  refine lv_iconst (v := 0) E.1 E.2.1 dX13_frontCount_5 (by decide) ?_
  refine lv_istore_n (lv' := [(1, .int 0), (0, .ref h0)]) E.1 E.2.1 dX13_frontCount_6 rfl hl (by decide) rfl (fun ls hl => ?_)
  refine lv_iconst (v := 0) E.1 E.2.1 dX13_frontCount_7 (by decide) ?_
  refine lv_istore_n (lv' := [(2, .int 0), (1, .int 0), (0, .ref h0)]) E.1 E.2.1 dX13_frontCount_8 rfl hl (by decide) rfl (fun ls hl => ?_)
  refine k_X13_frontCount_9 E hK hA ?_ 1000 0 0 H locs ls h hW (lv_sub hl [2, 1, 0] rfl)
  · intro l1_66e H locs ls h hW hl
    refine lv_iload_n E.1 E.2.1 dX13_frontCount_66 rfl (lv_at hl 0 rfl) ?_
    obtain rfl := Option.some.inj h
    exact endI E rfl hW dX13_frontCount_67
theorem c_X13_frontCount (l : Launch) (g : GE) (h0 h1 h2 h3 h4 h5 h6 h7 h8 h9 h10 h11 h12 h13 : Nat) (x_g : Nat → Int32) (x_kept : Nat → Int32) (x_saved : Nat → Int32) (x_before : Nat → Int32) (x_was : Nat → Int32) (x_region : Nat → Int32) (x_parts : Nat → Int64) (x_next : Nat → Int64) (x_ways : Nat → Int32) (x_more : Nat → Int32) (x_whole : Int64) (x_isSaved : Int32) (x_changes : Int32) (x_isWithin : Int32) (x_code : Int32) (x_input : Nat → Int32) (x_length : Int32) (x_fault : Int32) (x_failed : Int32) (x_signs : Nat → Int32) (x_signMany : Int32) (x_at : Int32) (x_told : Nat → Int32) (x_toldMany : Int32) {res : Int32 × Int32} (hf : f_X13_frontCount x_g x_code = some res) : CI l yX13_frontCount wsX13_frontCount rm_X13_frontCount g [.ref h0] (w_X13 g h0 h1 h2 h3 h4 h5 h6 h7 h8 h9 h10 h11 h12 h13 x_g x_kept x_saved x_before x_was x_region x_parts x_next x_ways x_more x_whole x_isSaved x_changes x_isWithin x_code x_input x_length x_fault x_failed x_signs x_signMany x_at x_told x_toldMany) (w_X13 g h0 h1 h2 h3 h4 h5 h6 h7 h8 h9 h10 h11 h12 h13 x_g x_kept x_saved x_before x_was x_region x_parts x_next x_ways x_more x_whole x_isSaved x_changes x_isWithin res.2 x_input x_length x_fault x_failed x_signs x_signMany x_at x_told x_toldMany) res.1 :=
  mkI (cc := cX13_frontCount) (maxL := 3) (by decide) rfl (Nat.le_of_ble_eq_true rfl) (fun p e s m args below meth c A H locs ls E hK hA hW hl => k_X13_frontCount_0 E hK hA hf hW hl)

/-! PaperStormModel.steepest()I X13_steepest -/
abbrev rm_X13_steepest : Room := { frames := 2, cells := 0, slots := 0, locals := 43 }
theorem in_X13_steepest_X13 : ∀ w ∈ wsX130, w ∈ wsX13_steepest := by decide +kernel
theorem lk_X13_steepest_58 : Cond.fieldLink RX13 58 "PaperStormModel" "code" "I" ∈ wsX13_steepest := by decide +kernel
noncomputable def f_X13_steepest_9 (x_g : Nat → Int32) (z68 : Int32 → Option (Int32 × Int32)) : Nat → Int32 → Int32 → Option (Int32 × Int32)
  | 0, _, _ => none
  | n + 1, l1_9, l2_9 => if 25 ≤ l2_9 then z68 l1_9 else jo (fun (l1_39 : Int32) => jo (fun (l1_62 : Int32) => f_X13_steepest_9 x_g z68 n l1_62 (l2_9 + 1)) (fun j62 => if 20 ≤ l2_9 then j62 l1_39 else (f_X13_slope x_g l2_9 5).bind fun r48 => if r48 ≤ l1_39 then j62 l1_39 else (f_X13_slope x_g l2_9 5).bind fun r58 => j62 r58)) (fun j39 => if 4 ≤ (l2_9 - l2_9 / 5 * 5) then j39 l1_9 else (f_X13_slope x_g l2_9 1).bind fun r25 => if r25 ≤ l1_9 then j39 l1_9 else (f_X13_slope x_g l2_9 1).bind fun r35 => j39 r35)
noncomputable def f_X13_steepest (x_g : Nat → Int32) (x_code : Int32) : Option (Int32 × Int32) :=
  f_X13_steepest_9 x_g (fun l1_68e => some (l1_68e, 0)) 1000 0 0
abbrev G_X13_steepest (p : Program) (l : Launch) (e : Env) (s : State) (m : MethodId) (args : Array Value) (below : List Frame) (meth : Method) (c : Code) (g : GE) (A : Nat → Prop) (h0 h1 h2 h3 h4 h5 h6 h7 h8 h9 h10 h11 h12 h13 : Nat) (x_g : Nat → Int32) (x_kept : Nat → Int32) (x_saved : Nat → Int32) (x_before : Nat → Int32) (x_was : Nat → Int32) (x_region : Nat → Int32) (x_parts : Nat → Int64) (x_next : Nat → Int64) (x_ways : Nat → Int32) (x_more : Nat → Int32) (x_whole : Int64) (x_isSaved : Int32) (x_changes : Int32) (x_isWithin : Int32) (x_input : Nat → Int32) (x_length : Int32) (x_fault : Int32) (x_failed : Int32) (x_signs : Nat → Int32) (x_signMany : Int32) (x_at : Int32) (x_told : Nat → Int32) (x_toldMany : Int32) (res : Int32 × Int32) (H : Heap) (locs : List Loc) (pc : Nat) (ls : Array Slot) (st : List Value) : Prop := W p l e (headSpec wsX13_steepest rm_X13_steepest).room s m args below meth c H locs 0 0 (MQ below (PoI g A (w_X13 g h0 h1 h2 h3 h4 h5 h6 h7 h8 h9 h10 h11 h12 h13 x_g x_kept x_saved x_before x_was x_region x_parts x_next x_ways x_more x_whole x_isSaved x_changes x_isWithin res.2 x_input x_length x_fault x_failed x_signs x_signMany x_at x_told x_toldMany) res.1) args s 0 0 A) (F0 m pc ls st)
set_option maxHeartbeats 4000000 in
set_option maxRecDepth 100000 in
theorem k_X13_steepest_9 {p : Program} {l : Launch} {e : Env} {s : State} {m : MethodId} {args : Array Value} {below : List Frame} {meth : Method} {c : Code} {g : GE} {A : Nat → Prop} {h0 h1 h2 h3 h4 h5 h6 h7 h8 h9 h10 h11 h12 h13 : Nat} {x_g : Nat → Int32} {x_kept : Nat → Int32} {x_saved : Nat → Int32} {x_before : Nat → Int32} {x_was : Nat → Int32} {x_region : Nat → Int32} {x_parts : Nat → Int64} {x_next : Nat → Int64} {x_ways : Nat → Int32} {x_more : Nat → Int32} {x_whole : Int64} {x_isSaved : Int32} {x_changes : Int32} {x_isWithin : Int32} {x_code : Int32} {x_input : Nat → Int32} {x_length : Int32} {x_fault : Int32} {x_failed : Int32} {x_signs : Nat → Int32} {x_signMany : Int32} {x_at : Int32} {x_told : Nat → Int32} {x_toldMany : Int32} {res : Int32 × Int32} {z68 : Int32 → Option (Int32 × Int32)}
    (E : En cX13_steepest RX13 wsX13_steepest 3 (some .int) p s m args meth c) (hK : KK g s) (hA : ∀ q, s.heap.size ≤ q → A q)
    (hz68 : ∀ (l1_68e : Int32) (H : Heap) (locs : List Loc) (ls : Array Slot), z68 l1_68e = some res → Wo g A s H locs (w_X13 g h0 h1 h2 h3 h4 h5 h6 h7 h8 h9 h10 h11 h12 h13 x_g x_kept x_saved x_before x_was x_region x_parts x_next x_ways x_more x_whole x_isSaved x_changes x_isWithin x_code x_input x_length x_fault x_failed x_signs x_signMany x_at x_told x_toldMany) → lv_has ls 3 [(1, .int l1_68e)] → G_X13_steepest p l e s m args below meth c g A h0 h1 h2 h3 h4 h5 h6 h7 h8 h9 h10 h11 h12 h13 x_g x_kept x_saved x_before x_was x_region x_parts x_next x_ways x_more x_whole x_isSaved x_changes x_isWithin x_input x_length x_fault x_failed x_signs x_signMany x_at x_told x_toldMany res H locs 68 ls [])
    : ∀ (n : Nat) (l1_9 : Int32) (l2_9 : Int32) (H : Heap) (locs : List Loc) (ls : Array Slot), f_X13_steepest_9 x_g z68 n l1_9 l2_9 = some res → Wo g A s H locs (w_X13 g h0 h1 h2 h3 h4 h5 h6 h7 h8 h9 h10 h11 h12 h13 x_g x_kept x_saved x_before x_was x_region x_parts x_next x_ways x_more x_whole x_isSaved x_changes x_isWithin x_code x_input x_length x_fault x_failed x_signs x_signMany x_at x_told x_toldMany) → lv_has ls 3 [(0, .ref h0), (1, .int l1_9), (2, .int l2_9)] → G_X13_steepest p l e s m args below meth c g A h0 h1 h2 h3 h4 h5 h6 h7 h8 h9 h10 h11 h12 h13 x_g x_kept x_saved x_before x_was x_region x_parts x_next x_ways x_more x_whole x_isSaved x_changes x_isWithin x_input x_length x_fault x_failed x_signs x_signMany x_at x_told x_toldMany res H locs 9 ls [] := by
  have hts := E.2.2.2.1
  intro n
  induction n with
  | zero => intro l1_9 l2_9 H locs ls h hW hl; rw [f_X13_steepest_9] at h; cases h
  | succ n ih =>
    intro l1_9 l2_9 H locs ls h hW hl
    rw [f_X13_steepest_9] at h
    refine lv_iload_n E.1 E.2.1 dX13_steepest_9 rfl (lv_at hl 2 rfl) ?_
    refine lv_bipush (v := 25) E.1 E.2.1 dX13_steepest_10 (by decide) ?_
    refine lv_icmp_ge (tgt := 68) E.1 E.2.1 dX13_steepest_12 (by decide) (fun c12 => ?_) (fun c12 => ?_)
    · have h := it c12 h
      exact hz68 l1_9 H locs ls h hW (lv_sub hl [1] rfl)
    · have h := ie c12 h
      obtain ⟨j39, hj39, h⟩ := jox1 h
      have J39 : ∀ (l1_39 : Int32) (H : Heap) (locs : List Loc) (ls : Array Slot), j39 l1_39 = some res → Wo g A s H locs (w_X13 g h0 h1 h2 h3 h4 h5 h6 h7 h8 h9 h10 h11 h12 h13 x_g x_kept x_saved x_before x_was x_region x_parts x_next x_ways x_more x_whole x_isSaved x_changes x_isWithin x_code x_input x_length x_fault x_failed x_signs x_signMany x_at x_told x_toldMany) → lv_has ls 3 [(0, .ref h0), (1, .int l1_39), (2, .int l2_9)] → G_X13_steepest p l e s m args below meth c g A h0 h1 h2 h3 h4 h5 h6 h7 h8 h9 h10 h11 h12 h13 x_g x_kept x_saved x_before x_was x_region x_parts x_next x_ways x_more x_whole x_isSaved x_changes x_isWithin x_input x_length x_fault x_failed x_signs x_signMany x_at x_told x_toldMany res H locs 39 ls [] := by
        intro l1_39 H locs ls h hW hl
        rw [hj39] at h
        obtain ⟨j62, hj62, h⟩ := jox1 h
        have J62 : ∀ (l1_62 : Int32) (H : Heap) (locs : List Loc) (ls : Array Slot), j62 l1_62 = some res → Wo g A s H locs (w_X13 g h0 h1 h2 h3 h4 h5 h6 h7 h8 h9 h10 h11 h12 h13 x_g x_kept x_saved x_before x_was x_region x_parts x_next x_ways x_more x_whole x_isSaved x_changes x_isWithin x_code x_input x_length x_fault x_failed x_signs x_signMany x_at x_told x_toldMany) → lv_has ls 3 [(0, .ref h0), (1, .int l1_62), (2, .int l2_9)] → G_X13_steepest p l e s m args below meth c g A h0 h1 h2 h3 h4 h5 h6 h7 h8 h9 h10 h11 h12 h13 x_g x_kept x_saved x_before x_was x_region x_parts x_next x_ways x_more x_whole x_isSaved x_changes x_isWithin x_input x_length x_fault x_failed x_signs x_signMany x_at x_told x_toldMany res H locs 62 ls [] := by
          intro l1_62 H locs ls h hW hl
          rw [hj62] at h
          refine lv_iinc (v := (l2_9 + 1)) (lv' := [(2, .int (l2_9 + 1)), (0, .ref h0), (1, .int l1_62)]) E.1 E.2.1 dX13_steepest_62 hl (k := 2) rfl rfl (by decide) rfl (fun ls hl => ?_)
          refine lv_goto (tgt := 9) E.1 E.2.1 dX13_steepest_65 (by decide) ?_
          exact ih l1_62 (l2_9 + 1) H locs ls h hW (lv_sub hl [1, 2, 0] rfl)
        refine lv_iload_n E.1 E.2.1 dX13_steepest_39 rfl (lv_at hl 2 rfl) ?_
        refine lv_bipush (v := 20) E.1 E.2.1 dX13_steepest_40 (by decide) ?_
        refine lv_icmp_ge (tgt := 62) E.1 E.2.1 dX13_steepest_42 (by decide) (fun c42 => ?_) (fun c42 => ?_)
        · have h := it c42 h
          exact J62 l1_39 H locs ls h hW (lv_sub hl [0, 1, 2] rfl)
        · have h := ie c42 h
          refine lv_aload_n E.1 E.2.1 dX13_steepest_45 rfl (lv_at hl 0 rfl) ?_
          refine lv_iload_n E.1 E.2.1 dX13_steepest_46 rfl (lv_at hl 2 rfl) ?_
          refine lv_iconst (v := 5) E.1 E.2.1 dX13_steepest_47 (by decide) ?_
          obtain ⟨r48, hc, h⟩ := bx h
          refine goI (world' := (w_X13 g h0 h1 h2 h3 h4 h5 h6 h7 h8 h9 h10 h11 h12 h13 x_g x_kept x_saved x_before x_was x_region x_parts x_next x_ways x_more x_whole x_isSaved x_changes x_isWithin x_code x_input x_length x_fault x_failed x_signs x_signMany x_at x_told x_toldMany)) hW hA (is := [0, 1, 2, 3, 4, 5, 6, 7, 8, 9, 10, 11, 12, 13]) rfl (goV (rest := []) E hK hW [0, 1, 2, 3, 4, 5, 6, 7, 8, 9, 10, 11, 12, 13] rfl rfl (c_X13_slope l g h0 h1 h2 h3 h4 h5 h6 h7 h8 h9 h10 h11 h12 h13 x_g x_kept x_saved x_before x_was x_region x_parts x_next x_ways x_more x_whole x_isSaved x_changes x_isWithin x_code x_input x_length x_fault x_failed x_signs x_signMany x_at x_told x_toldMany l2_9 5 (hf := hc) H.size) (cwV 2 hts gX13_steepest_X13_slope rfl rfl rfl (by decide +kernel) ⟨Nat.le_of_ble_eq_true rfl, Nat.le_of_ble_eq_true rfl⟩) 0 rfl rfl rfl hl.1 rfl rfl (Nat.le_of_ble_eq_true rfl) dX13_steepest_48 ⟨Nat.zero_le _, Nat.zero_le _⟩) rfl rfl (fun H locs hW => ?_)
          refine lv_iload_n E.1 E.2.1 dX13_steepest_51 rfl (lv_at hl 1 rfl) ?_
          refine lv_icmp_le (tgt := 62) E.1 E.2.1 dX13_steepest_52 (by decide) (fun c52 => ?_) (fun c52 => ?_)
          · have h := it c52 h
            exact J62 l1_39 H locs ls h hW (lv_sub hl [0, 1, 2] rfl)
          · have h := ie c52 h
            refine lv_aload_n E.1 E.2.1 dX13_steepest_55 rfl (lv_at hl 0 rfl) ?_
            refine lv_iload_n E.1 E.2.1 dX13_steepest_56 rfl (lv_at hl 2 rfl) ?_
            refine lv_iconst (v := 5) E.1 E.2.1 dX13_steepest_57 (by decide) ?_
            obtain ⟨r58, hc, h⟩ := bx h
            refine goI (world' := (w_X13 g h0 h1 h2 h3 h4 h5 h6 h7 h8 h9 h10 h11 h12 h13 x_g x_kept x_saved x_before x_was x_region x_parts x_next x_ways x_more x_whole x_isSaved x_changes x_isWithin x_code x_input x_length x_fault x_failed x_signs x_signMany x_at x_told x_toldMany)) hW hA (is := [0, 1, 2, 3, 4, 5, 6, 7, 8, 9, 10, 11, 12, 13]) rfl (goV (rest := []) E hK hW [0, 1, 2, 3, 4, 5, 6, 7, 8, 9, 10, 11, 12, 13] rfl rfl (c_X13_slope l g h0 h1 h2 h3 h4 h5 h6 h7 h8 h9 h10 h11 h12 h13 x_g x_kept x_saved x_before x_was x_region x_parts x_next x_ways x_more x_whole x_isSaved x_changes x_isWithin x_code x_input x_length x_fault x_failed x_signs x_signMany x_at x_told x_toldMany l2_9 5 (hf := hc) H.size) (cwV 2 hts gX13_steepest_X13_slope rfl rfl rfl (by decide +kernel) ⟨Nat.le_of_ble_eq_true rfl, Nat.le_of_ble_eq_true rfl⟩) 0 rfl rfl rfl hl.1 rfl rfl (Nat.le_of_ble_eq_true rfl) dX13_steepest_58 ⟨Nat.zero_le _, Nat.zero_le _⟩) rfl rfl (fun H locs hW => ?_)
            refine lv_istore_n (lv' := [(1, .int r58), (0, .ref h0), (2, .int l2_9)]) E.1 E.2.1 dX13_steepest_61 rfl hl (by decide) rfl (fun ls hl => ?_)
            exact J62 r58 H locs ls h hW (lv_sub hl [1, 0, 2] rfl)
      refine lv_iload_n E.1 E.2.1 dX13_steepest_15 rfl (lv_at hl 2 rfl) ?_
      refine lv_iconst (v := 5) E.1 E.2.1 dX13_steepest_16 (by decide) ?_
      refine lv_irem E.1 E.2.1 dX13_steepest_17 (by decide) ?_
      refine lv_iconst (v := 4) E.1 E.2.1 dX13_steepest_18 (by decide) ?_
      refine lv_icmp_ge (tgt := 39) E.1 E.2.1 dX13_steepest_19 (by decide) (fun c19 => ?_) (fun c19 => ?_)
      · have h := it c19 h
        exact J39 l1_9 H locs ls h hW (lv_sub hl [0, 1, 2] rfl)
      · have h := ie c19 h
        refine lv_aload_n E.1 E.2.1 dX13_steepest_22 rfl (lv_at hl 0 rfl) ?_
        refine lv_iload_n E.1 E.2.1 dX13_steepest_23 rfl (lv_at hl 2 rfl) ?_
        refine lv_iconst (v := 1) E.1 E.2.1 dX13_steepest_24 (by decide) ?_
        obtain ⟨r25, hc, h⟩ := bx h
        refine goI (world' := (w_X13 g h0 h1 h2 h3 h4 h5 h6 h7 h8 h9 h10 h11 h12 h13 x_g x_kept x_saved x_before x_was x_region x_parts x_next x_ways x_more x_whole x_isSaved x_changes x_isWithin x_code x_input x_length x_fault x_failed x_signs x_signMany x_at x_told x_toldMany)) hW hA (is := [0, 1, 2, 3, 4, 5, 6, 7, 8, 9, 10, 11, 12, 13]) rfl (goV (rest := []) E hK hW [0, 1, 2, 3, 4, 5, 6, 7, 8, 9, 10, 11, 12, 13] rfl rfl (c_X13_slope l g h0 h1 h2 h3 h4 h5 h6 h7 h8 h9 h10 h11 h12 h13 x_g x_kept x_saved x_before x_was x_region x_parts x_next x_ways x_more x_whole x_isSaved x_changes x_isWithin x_code x_input x_length x_fault x_failed x_signs x_signMany x_at x_told x_toldMany l2_9 1 (hf := hc) H.size) (cwV 2 hts gX13_steepest_X13_slope rfl rfl rfl (by decide +kernel) ⟨Nat.le_of_ble_eq_true rfl, Nat.le_of_ble_eq_true rfl⟩) 0 rfl rfl rfl hl.1 rfl rfl (Nat.le_of_ble_eq_true rfl) dX13_steepest_25 ⟨Nat.zero_le _, Nat.zero_le _⟩) rfl rfl (fun H locs hW => ?_)
        refine lv_iload_n E.1 E.2.1 dX13_steepest_28 rfl (lv_at hl 1 rfl) ?_
        refine lv_icmp_le (tgt := 39) E.1 E.2.1 dX13_steepest_29 (by decide) (fun c29 => ?_) (fun c29 => ?_)
        · have h := it c29 h
          exact J39 l1_9 H locs ls h hW (lv_sub hl [0, 1, 2] rfl)
        · have h := ie c29 h
          refine lv_aload_n E.1 E.2.1 dX13_steepest_32 rfl (lv_at hl 0 rfl) ?_
          refine lv_iload_n E.1 E.2.1 dX13_steepest_33 rfl (lv_at hl 2 rfl) ?_
          refine lv_iconst (v := 1) E.1 E.2.1 dX13_steepest_34 (by decide) ?_
          obtain ⟨r35, hc, h⟩ := bx h
          refine goI (world' := (w_X13 g h0 h1 h2 h3 h4 h5 h6 h7 h8 h9 h10 h11 h12 h13 x_g x_kept x_saved x_before x_was x_region x_parts x_next x_ways x_more x_whole x_isSaved x_changes x_isWithin x_code x_input x_length x_fault x_failed x_signs x_signMany x_at x_told x_toldMany)) hW hA (is := [0, 1, 2, 3, 4, 5, 6, 7, 8, 9, 10, 11, 12, 13]) rfl (goV (rest := []) E hK hW [0, 1, 2, 3, 4, 5, 6, 7, 8, 9, 10, 11, 12, 13] rfl rfl (c_X13_slope l g h0 h1 h2 h3 h4 h5 h6 h7 h8 h9 h10 h11 h12 h13 x_g x_kept x_saved x_before x_was x_region x_parts x_next x_ways x_more x_whole x_isSaved x_changes x_isWithin x_code x_input x_length x_fault x_failed x_signs x_signMany x_at x_told x_toldMany l2_9 1 (hf := hc) H.size) (cwV 2 hts gX13_steepest_X13_slope rfl rfl rfl (by decide +kernel) ⟨Nat.le_of_ble_eq_true rfl, Nat.le_of_ble_eq_true rfl⟩) 0 rfl rfl rfl hl.1 rfl rfl (Nat.le_of_ble_eq_true rfl) dX13_steepest_35 ⟨Nat.zero_le _, Nat.zero_le _⟩) rfl rfl (fun H locs hW => ?_)
          refine lv_istore_n (lv' := [(1, .int r35), (0, .ref h0), (2, .int l2_9)]) E.1 E.2.1 dX13_steepest_38 rfl hl (by decide) rfl (fun ls hl => ?_)
          exact J39 r35 H locs ls h hW (lv_sub hl [1, 0, 2] rfl)
set_option maxHeartbeats 4000000 in
set_option maxRecDepth 100000 in
theorem k_X13_steepest_0 {p : Program} {l : Launch} {e : Env} {s : State} {m : MethodId} {args : Array Value} {below : List Frame} {meth : Method} {c : Code} {g : GE} {A : Nat → Prop} {h0 h1 h2 h3 h4 h5 h6 h7 h8 h9 h10 h11 h12 h13 : Nat} {x_g : Nat → Int32} {x_kept : Nat → Int32} {x_saved : Nat → Int32} {x_before : Nat → Int32} {x_was : Nat → Int32} {x_region : Nat → Int32} {x_parts : Nat → Int64} {x_next : Nat → Int64} {x_ways : Nat → Int32} {x_more : Nat → Int32} {x_whole : Int64} {x_isSaved : Int32} {x_changes : Int32} {x_isWithin : Int32} {x_code : Int32} {x_input : Nat → Int32} {x_length : Int32} {x_fault : Int32} {x_failed : Int32} {x_signs : Nat → Int32} {x_signMany : Int32} {x_at : Int32} {x_told : Nat → Int32} {x_toldMany : Int32} {res : Int32 × Int32} {H : Heap} {locs : List Loc} {ls : Array Slot} 
    (E : En cX13_steepest RX13 wsX13_steepest 3 (some .int) p s m args meth c) (hK : KK g s) (hA : ∀ q, s.heap.size ≤ q → A q) (h : f_X13_steepest x_g x_code = some res) (hW : Wo g A s H locs (w_X13 g h0 h1 h2 h3 h4 h5 h6 h7 h8 h9 h10 h11 h12 h13 x_g x_kept x_saved x_before x_was x_region x_parts x_next x_ways x_more x_whole x_isSaved x_changes x_isWithin x_code x_input x_length x_fault x_failed x_signs x_signMany x_at x_told x_toldMany)) (hl : lv_has ls 3 [(0, .ref h0)]) : G_X13_steepest p l e s m args below meth c g A h0 h1 h2 h3 h4 h5 h6 h7 h8 h9 h10 h11 h12 h13 x_g x_kept x_saved x_before x_was x_region x_parts x_next x_ways x_more x_whole x_isSaved x_changes x_isWithin x_input x_length x_fault x_failed x_signs x_signMany x_at x_told x_toldMany res H locs 0 ls [] := by
  have hts := E.2.2.2.1
  unfold f_X13_steepest at h
  refine lv_aload_n E.1 E.2.1 dX13_steepest_0 rfl (lv_at hl 0 rfl) ?_
  refine lv_iconst (v := 0) E.1 E.2.1 dX13_steepest_1 (by decide) ?_
  refine wPut (world' := (w_X13 g h0 h1 h2 h3 h4 h5 h6 h7 h8 h9 h10 h11 h12 h13 x_g x_kept x_saved x_before x_was x_region x_parts x_next x_ways x_more x_whole x_isSaved x_changes x_isWithin 0 x_input x_length x_fault x_failed x_signs x_signMany x_at x_told x_toldMany)) E hK in_X13_steepest_X13 tyX13 tyX13_ok nmX13 hW 14 lk_X13_steepest_58 0 rfl rfl (by decide) rfl rfl rfl rfl rfl (Nat.le_of_ble_eq_true rfl) dX13_steepest_2 rfl (fun H locs hW => ?_)
  refine lv_iconst (v := 0) E.1 E.2.1 dX13_steepest_5 (by decide) ?_
  refine lv_istore_n (lv' := [(1, .int 0), (0, .ref h0)]) E.1 E.2.1 dX13_steepest_6 rfl hl (by decide) rfl (fun ls hl => ?_)
  refine lv_iconst (v := 0) E.1 E.2.1 dX13_steepest_7 (by decide) ?_
  refine lv_istore_n (lv' := [(2, .int 0), (1, .int 0), (0, .ref h0)]) E.1 E.2.1 dX13_steepest_8 rfl hl (by decide) rfl (fun ls hl => ?_)
  refine k_X13_steepest_9 E hK hA ?_ 1000 0 0 H locs ls h hW (lv_sub hl [2, 1, 0] rfl)
  · intro l1_68e H locs ls h hW hl
    refine lv_iload_n E.1 E.2.1 dX13_steepest_68 rfl (lv_at hl 0 rfl) ?_
    obtain rfl := Option.some.inj h
    exact endI E rfl hW dX13_steepest_69
theorem c_X13_steepest (l : Launch) (g : GE) (h0 h1 h2 h3 h4 h5 h6 h7 h8 h9 h10 h11 h12 h13 : Nat) (x_g : Nat → Int32) (x_kept : Nat → Int32) (x_saved : Nat → Int32) (x_before : Nat → Int32) (x_was : Nat → Int32) (x_region : Nat → Int32) (x_parts : Nat → Int64) (x_next : Nat → Int64) (x_ways : Nat → Int32) (x_more : Nat → Int32) (x_whole : Int64) (x_isSaved : Int32) (x_changes : Int32) (x_isWithin : Int32) (x_code : Int32) (x_input : Nat → Int32) (x_length : Int32) (x_fault : Int32) (x_failed : Int32) (x_signs : Nat → Int32) (x_signMany : Int32) (x_at : Int32) (x_told : Nat → Int32) (x_toldMany : Int32) {res : Int32 × Int32} (hf : f_X13_steepest x_g x_code = some res) : CI l yX13_steepest wsX13_steepest rm_X13_steepest g [.ref h0] (w_X13 g h0 h1 h2 h3 h4 h5 h6 h7 h8 h9 h10 h11 h12 h13 x_g x_kept x_saved x_before x_was x_region x_parts x_next x_ways x_more x_whole x_isSaved x_changes x_isWithin x_code x_input x_length x_fault x_failed x_signs x_signMany x_at x_told x_toldMany) (w_X13 g h0 h1 h2 h3 h4 h5 h6 h7 h8 h9 h10 h11 h12 h13 x_g x_kept x_saved x_before x_was x_region x_parts x_next x_ways x_more x_whole x_isSaved x_changes x_isWithin res.2 x_input x_length x_fault x_failed x_signs x_signMany x_at x_told x_toldMany) res.1 :=
  mkI (cc := cX13_steepest) (maxL := 3) (by decide) rfl (Nat.le_of_ble_eq_true rfl) (fun p e s m args below meth c A H locs ls E hK hA hW hl => k_X13_steepest_0 E hK hA hf hW hl)

/-! PaperStormModel.joins(II)V X13_joins -/
abbrev rm_X13_joins : Room := { frames := 0, cells := 0, slots := 0, locals := 0 }
theorem in_X13_joins_X13 : ∀ w ∈ wsX130, w ∈ wsX13_joins := by decide +kernel
theorem lk_X13_joins_25 : Cond.fieldLink RX13 25 "PaperStormModel" "region" "[I" ∈ wsX13_joins := by decide +kernel
noncomputable def f_X13_joins_18 (l3 : Int32) (l4 : Int32) (z51 : (Nat → Int32) → Option ((Nat → Int32))) : Nat → Int32 → (Nat → Int32) → Option ((Nat → Int32))
  | 0, _, _ => none
  | n + 1, l5_18, x_region_18 => if 25 ≤ l5_18 then z51 x_region_18 else jo (fun (x_region_45 : Nat → Int32) => f_X13_joins_18 l3 l4 z51 n (l5_18 + 1) x_region_45) (fun j45 => if l5_18 < 0 ∨ 25 ≤ l5_18.toNatClampNeg then none else if (x_region_18 l5_18.toNatClampNeg) = l3 then j45 (upd x_region_18 l5_18.toNatClampNeg l4) else j45 x_region_18)
noncomputable def f_X13_joins (x_region : Nat → Int32) (a1 : Int32) (a2 : Int32) : Option ((Nat → Int32)) :=
  if a1 < 0 ∨ 25 ≤ a1.toNatClampNeg then none else if a2 < 0 ∨ 25 ≤ a2.toNatClampNeg then none else f_X13_joins_18 (x_region a1.toNatClampNeg) (x_region a2.toNatClampNeg) (fun x_region_51e => some (x_region_51e)) 1000 0 x_region
abbrev G_X13_joins (p : Program) (l : Launch) (e : Env) (s : State) (m : MethodId) (args : Array Value) (below : List Frame) (meth : Method) (c : Code) (g : GE) (A : Nat → Prop) (h0 h1 h2 h3 h4 h5 h6 h7 h8 h9 h10 h11 h12 h13 : Nat) (x_g : Nat → Int32) (x_kept : Nat → Int32) (x_saved : Nat → Int32) (x_before : Nat → Int32) (x_was : Nat → Int32) (x_parts : Nat → Int64) (x_next : Nat → Int64) (x_ways : Nat → Int32) (x_more : Nat → Int32) (x_whole : Int64) (x_isSaved : Int32) (x_changes : Int32) (x_isWithin : Int32) (x_code : Int32) (x_input : Nat → Int32) (x_length : Int32) (x_fault : Int32) (x_failed : Int32) (x_signs : Nat → Int32) (x_signMany : Int32) (x_at : Int32) (x_told : Nat → Int32) (x_toldMany : Int32) (res : (Nat → Int32)) (H : Heap) (locs : List Loc) (pc : Nat) (ls : Array Slot) (st : List Value) : Prop := W p l e (headSpec wsX13_joins rm_X13_joins).room s m args below meth c H locs 0 0 (MQ below (PoV g A (w_X13 g h0 h1 h2 h3 h4 h5 h6 h7 h8 h9 h10 h11 h12 h13 x_g x_kept x_saved x_before x_was res x_parts x_next x_ways x_more x_whole x_isSaved x_changes x_isWithin x_code x_input x_length x_fault x_failed x_signs x_signMany x_at x_told x_toldMany)) args s 0 0 A) (F0 m pc ls st)
set_option maxHeartbeats 4000000 in
set_option maxRecDepth 100000 in
theorem k_X13_joins_18 {p : Program} {l : Launch} {e : Env} {s : State} {m : MethodId} {args : Array Value} {below : List Frame} {meth : Method} {c : Code} {g : GE} {A : Nat → Prop} {h0 h1 h2 h3 h4 h5 h6 h7 h8 h9 h10 h11 h12 h13 : Nat} {x_g : Nat → Int32} {x_kept : Nat → Int32} {x_saved : Nat → Int32} {x_before : Nat → Int32} {x_was : Nat → Int32} {x_parts : Nat → Int64} {x_next : Nat → Int64} {x_ways : Nat → Int32} {x_more : Nat → Int32} {x_whole : Int64} {x_isSaved : Int32} {x_changes : Int32} {x_isWithin : Int32} {x_code : Int32} {x_input : Nat → Int32} {x_length : Int32} {x_fault : Int32} {x_failed : Int32} {x_signs : Nat → Int32} {x_signMany : Int32} {x_at : Int32} {x_told : Nat → Int32} {x_toldMany : Int32} {res : (Nat → Int32)} {l3 : Int32} {l4 : Int32} {z51 : (Nat → Int32) → Option ((Nat → Int32))}
    (E : En cX13_joins RX13 wsX13_joins 6 none p s m args meth c) (hK : KK g s) (hA : ∀ q, s.heap.size ≤ q → A q)
    (hz51 : ∀ (x_region_51e : Nat → Int32) (H : Heap) (locs : List Loc) (ls : Array Slot), z51 x_region_51e = some res → Wo g A s H locs (w_X13 g h0 h1 h2 h3 h4 h5 h6 h7 h8 h9 h10 h11 h12 h13 x_g x_kept x_saved x_before x_was x_region_51e x_parts x_next x_ways x_more x_whole x_isSaved x_changes x_isWithin x_code x_input x_length x_fault x_failed x_signs x_signMany x_at x_told x_toldMany) → lv_has ls 6 [] → G_X13_joins p l e s m args below meth c g A h0 h1 h2 h3 h4 h5 h6 h7 h8 h9 h10 h11 h12 h13 x_g x_kept x_saved x_before x_was x_parts x_next x_ways x_more x_whole x_isSaved x_changes x_isWithin x_code x_input x_length x_fault x_failed x_signs x_signMany x_at x_told x_toldMany res H locs 51 ls [])
    : ∀ (n : Nat) (l5_18 : Int32) (x_region_18 : Nat → Int32) (H : Heap) (locs : List Loc) (ls : Array Slot), f_X13_joins_18 l3 l4 z51 n l5_18 x_region_18 = some res → Wo g A s H locs (w_X13 g h0 h1 h2 h3 h4 h5 h6 h7 h8 h9 h10 h11 h12 h13 x_g x_kept x_saved x_before x_was x_region_18 x_parts x_next x_ways x_more x_whole x_isSaved x_changes x_isWithin x_code x_input x_length x_fault x_failed x_signs x_signMany x_at x_told x_toldMany) → lv_has ls 6 [(0, .ref h0), (3, .int l3), (4, .int l4), (5, .int l5_18)] → G_X13_joins p l e s m args below meth c g A h0 h1 h2 h3 h4 h5 h6 h7 h8 h9 h10 h11 h12 h13 x_g x_kept x_saved x_before x_was x_parts x_next x_ways x_more x_whole x_isSaved x_changes x_isWithin x_code x_input x_length x_fault x_failed x_signs x_signMany x_at x_told x_toldMany res H locs 18 ls [] := by
  have hts := E.2.2.2.1
  intro n
  induction n with
  | zero => intro l5_18 x_region_18 H locs ls h hW hl; rw [f_X13_joins_18] at h; cases h
  | succ n ih =>
    intro l5_18 x_region_18 H locs ls h hW hl
    rw [f_X13_joins_18] at h
    refine lv_iload E.1 E.2.1 dX13_joins_18 (lv_at hl 3 rfl) ?_
    refine lv_bipush (v := 25) E.1 E.2.1 dX13_joins_20 (by decide) ?_
    refine lv_icmp_ge (tgt := 51) E.1 E.2.1 dX13_joins_22 (by decide) (fun c22 => ?_) (fun c22 => ?_)
    · have h := it c22 h
      exact hz51 x_region_18 H locs ls h hW (lv_sub hl [] rfl)
    · have h := ie c22 h
      obtain ⟨j45, hj45, h⟩ := jox1 h
      have J45 : ∀ (x_region_45 : Nat → Int32) (H : Heap) (locs : List Loc) (ls : Array Slot), j45 x_region_45 = some res → Wo g A s H locs (w_X13 g h0 h1 h2 h3 h4 h5 h6 h7 h8 h9 h10 h11 h12 h13 x_g x_kept x_saved x_before x_was x_region_45 x_parts x_next x_ways x_more x_whole x_isSaved x_changes x_isWithin x_code x_input x_length x_fault x_failed x_signs x_signMany x_at x_told x_toldMany) → lv_has ls 6 [(0, .ref h0), (3, .int l3), (4, .int l4), (5, .int l5_18)] → G_X13_joins p l e s m args below meth c g A h0 h1 h2 h3 h4 h5 h6 h7 h8 h9 h10 h11 h12 h13 x_g x_kept x_saved x_before x_was x_parts x_next x_ways x_more x_whole x_isSaved x_changes x_isWithin x_code x_input x_length x_fault x_failed x_signs x_signMany x_at x_told x_toldMany res H locs 45 ls [] := by
        intro x_region_45 H locs ls h hW hl
        rw [hj45] at h
        refine lv_iinc (v := (l5_18 + 1)) (lv' := [(5, .int (l5_18 + 1)), (0, .ref h0), (3, .int l3), (4, .int l4)]) E.1 E.2.1 dX13_joins_45 hl (k := 3) rfl rfl (by decide) rfl (fun ls hl => ?_)
        refine lv_goto (tgt := 18) E.1 E.2.1 dX13_joins_48 (by decide) ?_
        exact ih (l5_18 + 1) x_region_45 H locs ls h hW (lv_sub hl [1, 2, 3, 0] rfl)
      refine lv_aload_n E.1 E.2.1 dX13_joins_25 rfl (lv_at hl 0 rfl) ?_
      refine wGet (v := .ref h6) E hK in_X13_joins_X13 hW 5 lk_X13_joins_25 0 rfl rfl (by decide) rfl rfl dX13_joins_26 ?_
      refine lv_iload E.1 E.2.1 dX13_joins_29 (lv_at hl 3 rfl) ?_
      obtain ⟨hi31, h⟩ := ox h
      refine wIald E hK hW 6 rfl hi31 dX13_joins_31 ?_
      refine lv_iload_n E.1 E.2.1 dX13_joins_32 rfl (lv_at hl 1 rfl) ?_
      refine lv_icmp_ne (tgt := 45) E.1 E.2.1 dX13_joins_33 (by decide) (fun c33 => ?_) (fun c33 => ?_)
      · have h := ie c33 h
        exact J45 x_region_18 H locs ls h hW (lv_sub hl [0, 1, 2, 3] rfl)
      · have h := it c33 h
        refine lv_aload_n E.1 E.2.1 dX13_joins_36 rfl (lv_at hl 0 rfl) ?_
        refine wGet (v := .ref h6) E hK in_X13_joins_X13 hW 5 lk_X13_joins_25 0 rfl rfl (by decide) rfl rfl dX13_joins_37 ?_
        refine lv_iload E.1 E.2.1 dX13_joins_40 (lv_at hl 3 rfl) ?_
        refine lv_iload E.1 E.2.1 dX13_joins_42 (lv_at hl 2 rfl) ?_
        refine wIast (world' := (w_X13 g h0 h1 h2 h3 h4 h5 h6 h7 h8 h9 h10 h11 h12 h13 x_g x_kept x_saved x_before x_was (upd x_region_18 l5_18.toNatClampNeg l4) x_parts x_next x_ways x_more x_whole x_isSaved x_changes x_isWithin x_code x_input x_length x_fault x_failed x_signs x_signMany x_at x_told x_toldMany)) E hK hW 6 rfl hi31 dX13_joins_44 rfl (fun H locs hW => ?_)
        exact J45 (upd x_region_18 l5_18.toNatClampNeg l4) H locs ls h hW (lv_sub hl [0, 1, 2, 3] rfl)
set_option maxHeartbeats 4000000 in
set_option maxRecDepth 100000 in
theorem k_X13_joins_0 {p : Program} {l : Launch} {e : Env} {s : State} {m : MethodId} {args : Array Value} {below : List Frame} {meth : Method} {c : Code} {g : GE} {A : Nat → Prop} {h0 h1 h2 h3 h4 h5 h6 h7 h8 h9 h10 h11 h12 h13 : Nat} {x_g : Nat → Int32} {x_kept : Nat → Int32} {x_saved : Nat → Int32} {x_before : Nat → Int32} {x_was : Nat → Int32} {x_region : Nat → Int32} {x_parts : Nat → Int64} {x_next : Nat → Int64} {x_ways : Nat → Int32} {x_more : Nat → Int32} {x_whole : Int64} {x_isSaved : Int32} {x_changes : Int32} {x_isWithin : Int32} {x_code : Int32} {x_input : Nat → Int32} {x_length : Int32} {x_fault : Int32} {x_failed : Int32} {x_signs : Nat → Int32} {x_signMany : Int32} {x_at : Int32} {x_told : Nat → Int32} {x_toldMany : Int32} {res : (Nat → Int32)} {H : Heap} {locs : List Loc} {ls : Array Slot} {a1 : Int32} {a2 : Int32}
    (E : En cX13_joins RX13 wsX13_joins 6 none p s m args meth c) (hK : KK g s) (hA : ∀ q, s.heap.size ≤ q → A q) (h : f_X13_joins x_region a1 a2 = some res) (hW : Wo g A s H locs (w_X13 g h0 h1 h2 h3 h4 h5 h6 h7 h8 h9 h10 h11 h12 h13 x_g x_kept x_saved x_before x_was x_region x_parts x_next x_ways x_more x_whole x_isSaved x_changes x_isWithin x_code x_input x_length x_fault x_failed x_signs x_signMany x_at x_told x_toldMany)) (hl : lv_has ls 6 [(0, .ref h0), (1, .int a1), (2, .int a2)]) : G_X13_joins p l e s m args below meth c g A h0 h1 h2 h3 h4 h5 h6 h7 h8 h9 h10 h11 h12 h13 x_g x_kept x_saved x_before x_was x_parts x_next x_ways x_more x_whole x_isSaved x_changes x_isWithin x_code x_input x_length x_fault x_failed x_signs x_signMany x_at x_told x_toldMany res H locs 0 ls [] := by
  have hts := E.2.2.2.1
  unfold f_X13_joins at h
  refine lv_aload_n E.1 E.2.1 dX13_joins_0 rfl (lv_at hl 0 rfl) ?_
  refine wGet (v := .ref h6) E hK in_X13_joins_X13 hW 5 lk_X13_joins_25 0 rfl rfl (by decide) rfl rfl dX13_joins_1 ?_
  refine lv_iload_n E.1 E.2.1 dX13_joins_4 rfl (lv_at hl 1 rfl) ?_
  obtain ⟨hi5, h⟩ := ox h
  refine wIald E hK hW 6 rfl hi5 dX13_joins_5 ?_
  refine lv_istore_n (lv' := [(3, .int (x_region a1.toNatClampNeg)), (0, .ref h0), (1, .int a1), (2, .int a2)]) E.1 E.2.1 dX13_joins_6 rfl hl (by decide) rfl (fun ls hl => ?_)
  refine lv_aload_n E.1 E.2.1 dX13_joins_7 rfl (lv_at hl 1 rfl) ?_
  refine wGet (v := .ref h6) E hK in_X13_joins_X13 hW 5 lk_X13_joins_25 0 rfl rfl (by decide) rfl rfl dX13_joins_8 ?_
  refine lv_iload_n E.1 E.2.1 dX13_joins_11 rfl (lv_at hl 3 rfl) ?_
  obtain ⟨hi12, h⟩ := ox h
  refine wIald E hK hW 6 rfl hi12 dX13_joins_12 ?_
  refine lv_istore (lv' := [(4, .int (x_region a2.toNatClampNeg)), (3, .int (x_region a1.toNatClampNeg)), (0, .ref h0), (1, .int a1), (2, .int a2)]) E.1 E.2.1 dX13_joins_13 hl (by decide) rfl (fun ls hl => ?_)
  refine lv_iconst (v := 0) E.1 E.2.1 dX13_joins_15 (by decide) ?_
  refine lv_istore (lv' := [(5, .int 0), (4, .int (x_region a2.toNatClampNeg)), (3, .int (x_region a1.toNatClampNeg)), (0, .ref h0), (1, .int a1), (2, .int a2)]) E.1 E.2.1 dX13_joins_16 hl (by decide) rfl (fun ls hl => ?_)
  refine k_X13_joins_18 E hK hA ?_ 1000 0 x_region H locs ls h hW (lv_sub hl [3, 2, 1, 0] rfl)
  · intro x_region_51e H locs ls h hW hl
    obtain rfl := Option.some.inj h
    exact endV E hW dX13_joins_51
theorem c_X13_joins (l : Launch) (g : GE) (h0 h1 h2 h3 h4 h5 h6 h7 h8 h9 h10 h11 h12 h13 : Nat) (x_g : Nat → Int32) (x_kept : Nat → Int32) (x_saved : Nat → Int32) (x_before : Nat → Int32) (x_was : Nat → Int32) (x_region : Nat → Int32) (x_parts : Nat → Int64) (x_next : Nat → Int64) (x_ways : Nat → Int32) (x_more : Nat → Int32) (x_whole : Int64) (x_isSaved : Int32) (x_changes : Int32) (x_isWithin : Int32) (x_code : Int32) (x_input : Nat → Int32) (x_length : Int32) (x_fault : Int32) (x_failed : Int32) (x_signs : Nat → Int32) (x_signMany : Int32) (x_at : Int32) (x_told : Nat → Int32) (x_toldMany : Int32) (a1 : Int32) (a2 : Int32) {res : (Nat → Int32)} (hf : f_X13_joins x_region a1 a2 = some res) : CV l yX13_joins wsX13_joins rm_X13_joins g [.ref h0, .int a1, .int a2] (w_X13 g h0 h1 h2 h3 h4 h5 h6 h7 h8 h9 h10 h11 h12 h13 x_g x_kept x_saved x_before x_was x_region x_parts x_next x_ways x_more x_whole x_isSaved x_changes x_isWithin x_code x_input x_length x_fault x_failed x_signs x_signMany x_at x_told x_toldMany) (w_X13 g h0 h1 h2 h3 h4 h5 h6 h7 h8 h9 h10 h11 h12 h13 x_g x_kept x_saved x_before x_was res x_parts x_next x_ways x_more x_whole x_isSaved x_changes x_isWithin x_code x_input x_length x_fault x_failed x_signs x_signMany x_at x_told x_toldMany) :=
  mkV (cc := cX13_joins) (maxL := 6) (by decide) rfl (Nat.le_of_ble_eq_true rfl) (fun p e s m args below meth c A H locs ls E hK hA hW hl => k_X13_joins_0 E hK hA hf hW hl)

