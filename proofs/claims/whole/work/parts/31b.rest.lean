/-! PaperStorm$Climate.nameOf(I)Ljava/lang/String; X2_nameOf -/
abbrev rm_X2_nameOf : Room := { frames := 0, cells := 0, slots := 0, locals := 0 }
noncomputable def f_X2_nameOf (a0 : Int32) : Option ((String × Nat × List Int32)) :=
  if a0 = 0 then some (("PaperStorm$Climate", 19, [99, 97, 108, 109])) else if a0 = 1 then some (("PaperStorm$Climate", 21, [98, 114, 101, 101, 122, 101])) else if a0 = 2 then some (("PaperStorm$Climate", 23, [103, 97, 108, 101])) else some (("PaperStorm$Climate", 25, [115, 116, 111, 114, 109]))
abbrev G_X2_nameOf (p : Program) (l : Launch) (e : Env) (s : State) (m : MethodId) (args : Array Value) (below : List Frame) (meth : Method) (c : Code) (g : GE) (A : Nat → Prop) (z : ZE) (res : (String × Nat × List Int32)) (H : Heap) (locs : List Loc) (pc : Nat) (ls : Array Slot) (st : List Value) : Prop := W p l e (headSpec wsX2_nameOf rm_X2_nameOf).room s m args below meth c H locs 0 0 (MQ below (PoA g A ([] : va_W) (z.1 res.1 res.2.1)) args s 0 0 A) (F0 m pc ls st)
set_option maxHeartbeats 4000000 in
set_option maxRecDepth 100000 in
theorem k_X2_nameOf_0 {p : Program} {l : Launch} {e : Env} {s : State} {m : MethodId} {args : Array Value} {below : List Frame} {meth : Method} {c : Code} {g : GE} {A : Nat → Prop} {z : ZE} {res : (String × Nat × List Int32)} {H : Heap} {locs : List Loc} {ls : Array Slot} {a0 : Int32}
    (E : En cX2_nameOf RX2 wsX2_nameOf 1 (some (.object "java/lang/String")) p s m args meth c) (hK : KK g s) (hz : KS z s) (hC : CS z A s s.heap) (hA : ∀ q, s.heap.size ≤ q → A q) (h : f_X2_nameOf a0 = some res) (hW : Wo g A s H locs ([] : va_W)) (hl : lv_has ls 1 [(0, .int a0)]) : G_X2_nameOf p l e s m args below meth c g A z res H locs 0 ls [] := by
  have hts := E.2.2.2.1
  unfold f_X2_nameOf at h
  refine lv_iload_n E.1 E.2.1 dX2_nameOf_0 rfl (lv_at hl 0 rfl) ?_
  by_cases c1_0 : a0 = 0
  · have h := it c1_0 h
    refine lv_tableIn (off := 27) (tgt := 28) E.1 E.2.1 dX2_nameOf_1 (by rw [c1_0]; decide) (by rw [c1_0]; decide) (by rw [c1_0]; decide) (by decide) ?_
    refine wLdcS hz sl_X2_19 E dX2_nameOf_28 ?_
    obtain rfl := Option.some.inj h
    exact endA E (Or.inl ⟨_, rfl⟩) hW dX2_nameOf_30
  have h := ie c1_0 h
  by_cases c1_1 : a0 = 1
  · have h := it c1_1 h
    refine lv_tableIn (off := 30) (tgt := 31) E.1 E.2.1 dX2_nameOf_1 (by rw [c1_1]; decide) (by rw [c1_1]; decide) (by rw [c1_1]; decide) (by decide) ?_
    refine wLdcS hz sl_X2_21 E dX2_nameOf_31 ?_
    obtain rfl := Option.some.inj h
    exact endA E (Or.inl ⟨_, rfl⟩) hW dX2_nameOf_33
  have h := ie c1_1 h
  by_cases c1_2 : a0 = 2
  · have h := it c1_2 h
    refine lv_tableIn (off := 33) (tgt := 34) E.1 E.2.1 dX2_nameOf_1 (by rw [c1_2]; decide) (by rw [c1_2]; decide) (by rw [c1_2]; decide) (by decide) ?_
    refine wLdcS hz sl_X2_23 E dX2_nameOf_34 ?_
    obtain rfl := Option.some.inj h
    exact endA E (Or.inl ⟨_, rfl⟩) hW dX2_nameOf_36
  have h := ie c1_2 h
  refine lv_tableOut (tgt := 37) E.1 E.2.1 dX2_nameOf_1 (tabOut (lo := 0) (hi := 2) (fun k h1 h2 e => by (have q : k = 0 ∨ k = 1 ∨ k = 2 := by omega); (rcases q with rfl | rfl | rfl) <;> first | exact c1_0 (i32 e (by decide)) | exact c1_1 (i32 e (by decide)) | exact c1_2 (i32 e (by decide)))) (by decide) ?_
  refine wLdcS hz sl_X2_25 E dX2_nameOf_37 ?_
  obtain rfl := Option.some.inj h
  exact endA E (Or.inl ⟨_, rfl⟩) hW dX2_nameOf_39
theorem c_X2_nameOf (l : Launch) (g : GE) (z : ZE) (a0 : Int32) {res : (String × Nat × List Int32)} (hf : f_X2_nameOf a0 = some res) : XA l yX2_nameOf wsX2_nameOf rm_X2_nameOf g z [.int a0] ([] : va_W) ([] : va_W) (z.1 res.1 res.2.1) :=
  mkXA (cc := cX2_nameOf) (maxL := 1) (by decide) rfl (Nat.le_of_ble_eq_true rfl) (fun p e s m args below meth c A H locs ls E hK hz hC hA hW hl => k_X2_nameOf_0 E hK hz hC hA hf hW hl)

theorem m_X2_nameOf {a0 : Int32} {r : String × Nat × List Int32} (h : f_X2_nameOf a0 = some r) : r ∈ strT := by
  unfold f_X2_nameOf at h
  by_cases h0 : a0 = 0
  · rw [if_pos h0] at h; cases h; exact st_X2_19
  · rw [if_neg h0] at h
    by_cases h1 : a0 = 1
    · rw [if_pos h1] at h; cases h; exact st_X2_21
    · rw [if_neg h1] at h
      by_cases h2 : a0 = 2
      · rw [if_pos h2] at h; cases h; exact st_X2_23
      · rw [if_neg h2] at h; cases h; exact st_X2_25
/-! PaperStormModel.meanError()D X13_meanError -/
abbrev rm_X13_meanError : Room := { frames := 1, cells := 0, slots := 0, locals := 21 }
theorem in_X13_meanError_X13 : ∀ w ∈ wsX130, w ∈ wsX13_meanError := by decide +kernel
theorem lk_X13_meanError_7 : Cond.fieldLink RX13 7 "PaperStormModel" "g" "[I" ∈ wsX13_meanError := by decide +kernel
noncomputable def f_X13_meanError (x_g : Nat → Int32) (x_code : Int32) : Option (UInt64 × Int32) :=
  jo (fun (s1_15 : Int32) => jo (fun (x_code_40 : Int32) (s0_40 : UInt64) => some (s0_40, x_code_40)) (fun j40 => (f_X13_fails x_code s1_15).bind fun r15 => if r15.1 = 0 then if ¬ (FP.ddiv (FP.i2d (x_g (5 : Int32).toNatClampNeg)) (FP.i2d (x_g (4 : Int32).toNatClampNeg))) &&& 0x7fffffffffffffff ≤ 0x7ff0000000000000 then none else j40 r15.2 (FP.ddiv (FP.i2d (x_g (5 : Int32).toNatClampNeg)) (FP.i2d (x_g (4 : Int32).toNatClampNeg))) else j40 r15.2 0)) (fun j15 => if (x_g (4 : Int32).toNatClampNeg) = 0 then j15 1 else j15 0)
abbrev G_X13_meanError (p : Program) (l : Launch) (e : Env) (s : State) (m : MethodId) (args : Array Value) (below : List Frame) (meth : Method) (c : Code) (g : GE) (A : Nat → Prop) (h0 h1 h2 h3 h4 h5 h6 h7 h8 h9 h10 h11 h12 h13 : Nat) (x_g : Nat → Int32) (x_kept : Nat → Int32) (x_saved : Nat → Int32) (x_before : Nat → Int32) (x_was : Nat → Int32) (x_region : Nat → Int32) (x_parts : Nat → Int64) (x_next : Nat → Int64) (x_ways : Nat → Int32) (x_more : Nat → Int32) (x_whole : Int64) (x_isSaved : Int32) (x_changes : Int32) (x_isWithin : Int32) (x_input : Nat → Int32) (x_length : Int32) (x_fault : Int32) (x_failed : Int32) (x_signs : Nat → Int32) (x_signMany : Int32) (x_at : Int32) (x_told : Nat → Int32) (x_toldMany : Int32) (res : UInt64 × Int32) (H : Heap) (locs : List Loc) (pc : Nat) (ls : Array Slot) (st : List Value) : Prop := W p l e (headSpec wsX13_meanError rm_X13_meanError).room s m args below meth c H locs 0 0 (MQ below (PoD g A (w_X13 g h0 h1 h2 h3 h4 h5 h6 h7 h8 h9 h10 h11 h12 h13 x_g x_kept x_saved x_before x_was x_region x_parts x_next x_ways x_more x_whole x_isSaved x_changes x_isWithin res.2 x_input x_length x_fault x_failed x_signs x_signMany x_at x_told x_toldMany) res.1) args s 0 0 A) (F0 m pc ls st)
set_option maxHeartbeats 4000000 in
set_option maxRecDepth 100000 in
theorem k_X13_meanError_0 {p : Program} {l : Launch} {e : Env} {s : State} {m : MethodId} {args : Array Value} {below : List Frame} {meth : Method} {c : Code} {g : GE} {A : Nat → Prop} {h0 h1 h2 h3 h4 h5 h6 h7 h8 h9 h10 h11 h12 h13 : Nat} {x_g : Nat → Int32} {x_kept : Nat → Int32} {x_saved : Nat → Int32} {x_before : Nat → Int32} {x_was : Nat → Int32} {x_region : Nat → Int32} {x_parts : Nat → Int64} {x_next : Nat → Int64} {x_ways : Nat → Int32} {x_more : Nat → Int32} {x_whole : Int64} {x_isSaved : Int32} {x_changes : Int32} {x_isWithin : Int32} {x_code : Int32} {x_input : Nat → Int32} {x_length : Int32} {x_fault : Int32} {x_failed : Int32} {x_signs : Nat → Int32} {x_signMany : Int32} {x_at : Int32} {x_told : Nat → Int32} {x_toldMany : Int32} {res : UInt64 × Int32} {H : Heap} {locs : List Loc} {ls : Array Slot} 
    (E : En cX13_meanError RX13 wsX13_meanError 1 (some .double) p s m args meth c) (hK : KK g s) (hA : ∀ q, s.heap.size ≤ q → A q) (h : f_X13_meanError x_g x_code = some res) (hW : Wo g A s H locs (w_X13 g h0 h1 h2 h3 h4 h5 h6 h7 h8 h9 h10 h11 h12 h13 x_g x_kept x_saved x_before x_was x_region x_parts x_next x_ways x_more x_whole x_isSaved x_changes x_isWithin x_code x_input x_length x_fault x_failed x_signs x_signMany x_at x_told x_toldMany)) (hl : lv_has ls 1 [(0, .ref h0)]) : G_X13_meanError p l e s m args below meth c g A h0 h1 h2 h3 h4 h5 h6 h7 h8 h9 h10 h11 h12 h13 x_g x_kept x_saved x_before x_was x_region x_parts x_next x_ways x_more x_whole x_isSaved x_changes x_isWithin x_input x_length x_fault x_failed x_signs x_signMany x_at x_told x_toldMany res H locs 0 ls [] := by
  have hts := E.2.2.2.1
  unfold f_X13_meanError at h
  obtain ⟨j15, hj15, h⟩ := jox1 h
  have J15 : ∀ (s1_15 : Int32) (H : Heap) (locs : List Loc) (ls : Array Slot), j15 s1_15 = some res → Wo g A s H locs (w_X13 g h0 h1 h2 h3 h4 h5 h6 h7 h8 h9 h10 h11 h12 h13 x_g x_kept x_saved x_before x_was x_region x_parts x_next x_ways x_more x_whole x_isSaved x_changes x_isWithin x_code x_input x_length x_fault x_failed x_signs x_signMany x_at x_told x_toldMany) → lv_has ls 1 [(0, .ref h0)] → G_X13_meanError p l e s m args below meth c g A h0 h1 h2 h3 h4 h5 h6 h7 h8 h9 h10 h11 h12 h13 x_g x_kept x_saved x_before x_was x_region x_parts x_next x_ways x_more x_whole x_isSaved x_changes x_isWithin x_input x_length x_fault x_failed x_signs x_signMany x_at x_told x_toldMany res H locs 15 ls [.int s1_15, .ref h0] := by
    intro s1_15 H locs ls h hW hl
    rw [hj15] at h
    obtain ⟨j40, hj40, h⟩ := jox2 h
    have J40 : ∀ (x_code_40 : Int32) (s0_40 : UInt64) (H : Heap) (locs : List Loc) (ls : Array Slot), j40 x_code_40 s0_40 = some res → Wo g A s H locs (w_X13 g h0 h1 h2 h3 h4 h5 h6 h7 h8 h9 h10 h11 h12 h13 x_g x_kept x_saved x_before x_was x_region x_parts x_next x_ways x_more x_whole x_isSaved x_changes x_isWithin x_code_40 x_input x_length x_fault x_failed x_signs x_signMany x_at x_told x_toldMany) → lv_has ls 1 [] → G_X13_meanError p l e s m args below meth c g A h0 h1 h2 h3 h4 h5 h6 h7 h8 h9 h10 h11 h12 h13 x_g x_kept x_saved x_before x_was x_region x_parts x_next x_ways x_more x_whole x_isSaved x_changes x_isWithin x_input x_length x_fault x_failed x_signs x_signMany x_at x_told x_toldMany res H locs 40 ls [.double s0_40] := by
      intro x_code_40 s0_40 H locs ls h hW hl
      rw [hj40] at h
      obtain rfl := Option.some.inj h
      exact endD E hW dX13_meanError_40
    obtain ⟨r15, hc, h⟩ := bx h
    refine goI (world' := (w_X13 g h0 h1 h2 h3 h4 h5 h6 h7 h8 h9 h10 h11 h12 h13 x_g x_kept x_saved x_before x_was x_region x_parts x_next x_ways x_more x_whole x_isSaved x_changes x_isWithin r15.2 x_input x_length x_fault x_failed x_signs x_signMany x_at x_told x_toldMany)) hW hA (is := [0, 1, 2, 3, 4, 5, 6, 7, 8, 9, 10, 11, 12, 13]) rfl (goV (rest := []) E hK hW [0, 1, 2, 3, 4, 5, 6, 7, 8, 9, 10, 11, 12, 13] rfl rfl (c_X13_fails l g h0 h1 h2 h3 h4 h5 h6 h7 h8 h9 h10 h11 h12 h13 x_g x_kept x_saved x_before x_was x_region x_parts x_next x_ways x_more x_whole x_isSaved x_changes x_isWithin x_code x_input x_length x_fault x_failed x_signs x_signMany x_at x_told x_toldMany s1_15 (hf := hc) H.size) (cwV 1 hts gX13_meanError_X13_fails rfl rfl rfl (by decide +kernel) ⟨Nat.le_of_ble_eq_true rfl, Nat.le_of_ble_eq_true rfl⟩) 0 rfl rfl rfl hl.1 rfl rfl (Nat.le_of_ble_eq_true rfl) dX13_meanError_15 ⟨Nat.zero_le _, Nat.zero_le _⟩) rfl rfl (fun H locs hW => ?_)
    refine lv_if_eq (tgt := 25) E.1 E.2.1 dX13_meanError_18 (by decide) (fun c18 => ?_) (fun c18 => ?_)
    · have h := it c18 h
      refine lv_aload_n E.1 E.2.1 dX13_meanError_25 rfl (lv_at hl 0 rfl) ?_
      refine wGet (v := .ref h1) E hK in_X13_meanError_X13 hW 0 lk_X13_meanError_7 0 rfl rfl (by decide) rfl rfl dX13_meanError_26 ?_
      refine lv_iconst (v := 5) E.1 E.2.1 dX13_meanError_29 (by decide) ?_
      refine wIald E hK hW 1 rfl (by decide) dX13_meanError_30 ?_
      refine lv_i2d E.1 E.2.1 dX13_meanError_31 ?_
      refine lv_aload_n E.1 E.2.1 dX13_meanError_32 rfl (lv_at hl 0 rfl) ?_
      refine wGet (v := .ref h1) E hK in_X13_meanError_X13 hW 0 lk_X13_meanError_7 0 rfl rfl (by decide) rfl rfl dX13_meanError_33 ?_
      refine lv_iconst (v := 4) E.1 E.2.1 dX13_meanError_36 (by decide) ?_
      refine wIald E hK hW 1 rfl (by decide) dX13_meanError_37 ?_
      refine lv_i2d E.1 E.2.1 dX13_meanError_38 ?_
      obtain ⟨hn39, h⟩ := ox h
      refine lv_ddiv E.1 E.2.1 dX13_meanError_39 (by (have q9 := Decidable.not_not.mp hn39); exact q9) ?_
      exact J40 r15.2 (FP.ddiv (FP.i2d (x_g (5 : Int32).toNatClampNeg)) (FP.i2d (x_g (4 : Int32).toNatClampNeg))) H locs ls h hW (lv_sub hl [] rfl)
    · have h := ie c18 h
      refine lv_dconst0 E.1 E.2.1 dX13_meanError_21 ?_
      refine lv_goto (tgt := 40) E.1 E.2.1 dX13_meanError_22 (by decide) ?_
      exact J40 r15.2 0 H locs ls h hW (lv_sub hl [] rfl)
  refine lv_aload_n E.1 E.2.1 dX13_meanError_0 rfl (lv_at hl 0 rfl) ?_
  refine lv_aload_n E.1 E.2.1 dX13_meanError_1 rfl (lv_at hl 0 rfl) ?_
  refine wGet (v := .ref h1) E hK in_X13_meanError_X13 hW 0 lk_X13_meanError_7 0 rfl rfl (by decide) rfl rfl dX13_meanError_2 ?_
  refine lv_iconst (v := 4) E.1 E.2.1 dX13_meanError_5 (by decide) ?_
  refine wIald E hK hW 1 rfl (by decide) dX13_meanError_6 ?_
  refine lv_if_ne (tgt := 14) E.1 E.2.1 dX13_meanError_7 (by decide) (fun c7 => ?_) (fun c7 => ?_)
  · have h := ie c7 h
    refine lv_iconst (v := 0) E.1 E.2.1 dX13_meanError_14 (by decide) ?_
    exact J15 0 H locs ls h hW (lv_sub hl [0] rfl)
  · have h := it c7 h
    refine lv_iconst (v := 1) E.1 E.2.1 dX13_meanError_10 (by decide) ?_
    refine lv_goto (tgt := 15) E.1 E.2.1 dX13_meanError_11 (by decide) ?_
    exact J15 1 H locs ls h hW (lv_sub hl [0] rfl)
theorem c_X13_meanError (l : Launch) (g : GE) (h0 h1 h2 h3 h4 h5 h6 h7 h8 h9 h10 h11 h12 h13 : Nat) (x_g : Nat → Int32) (x_kept : Nat → Int32) (x_saved : Nat → Int32) (x_before : Nat → Int32) (x_was : Nat → Int32) (x_region : Nat → Int32) (x_parts : Nat → Int64) (x_next : Nat → Int64) (x_ways : Nat → Int32) (x_more : Nat → Int32) (x_whole : Int64) (x_isSaved : Int32) (x_changes : Int32) (x_isWithin : Int32) (x_code : Int32) (x_input : Nat → Int32) (x_length : Int32) (x_fault : Int32) (x_failed : Int32) (x_signs : Nat → Int32) (x_signMany : Int32) (x_at : Int32) (x_told : Nat → Int32) (x_toldMany : Int32) {res : UInt64 × Int32} (hf : f_X13_meanError x_g x_code = some res) : CD l yX13_meanError wsX13_meanError rm_X13_meanError g [.ref h0] (w_X13 g h0 h1 h2 h3 h4 h5 h6 h7 h8 h9 h10 h11 h12 h13 x_g x_kept x_saved x_before x_was x_region x_parts x_next x_ways x_more x_whole x_isSaved x_changes x_isWithin x_code x_input x_length x_fault x_failed x_signs x_signMany x_at x_told x_toldMany) (w_X13 g h0 h1 h2 h3 h4 h5 h6 h7 h8 h9 h10 h11 h12 h13 x_g x_kept x_saved x_before x_was x_region x_parts x_next x_ways x_more x_whole x_isSaved x_changes x_isWithin res.2 x_input x_length x_fault x_failed x_signs x_signMany x_at x_told x_toldMany) res.1 :=
  mkD (cc := cX13_meanError) (maxL := 1) (by decide) rfl (Nat.le_of_ble_eq_true rfl) (fun p e s m args below meth c A H locs ls E hK hA hW hl => k_X13_meanError_0 E hK hA hf hW hl)

/-! PaperStormModel.hitShare()F X13_hitShare -/
abbrev rm_X13_hitShare : Room := { frames := 1, cells := 0, slots := 0, locals := 21 }
theorem in_X13_hitShare_X13 : ∀ w ∈ wsX130, w ∈ wsX13_hitShare := by decide +kernel
theorem lk_X13_hitShare_7 : Cond.fieldLink RX13 7 "PaperStormModel" "g" "[I" ∈ wsX13_hitShare := by decide +kernel
noncomputable def f_X13_hitShare (x_g : Nat → Int32) (x_code : Int32) : Option (UInt32 × Int32) :=
  jo (fun (s1_15 : Int32) => jo (fun (x_code_41 : Int32) (s0_41 : UInt32) => some (s0_41, x_code_41)) (fun j41 => (f_X13_fails x_code s1_15).bind fun r15 => if r15.1 = 0 then if ¬ (FP.fdiv (FP.i2f (x_g (6 : Int32).toNatClampNeg)) (FP.i2f (x_g (4 : Int32).toNatClampNeg))) &&& 0x7fffffff ≤ 0x7f800000 then none else j41 r15.2 (FP.fdiv (FP.i2f (x_g (6 : Int32).toNatClampNeg)) (FP.i2f (x_g (4 : Int32).toNatClampNeg))) else j41 r15.2 0)) (fun j15 => if (x_g (4 : Int32).toNatClampNeg) = 0 then j15 1 else j15 0)
abbrev G_X13_hitShare (p : Program) (l : Launch) (e : Env) (s : State) (m : MethodId) (args : Array Value) (below : List Frame) (meth : Method) (c : Code) (g : GE) (A : Nat → Prop) (h0 h1 h2 h3 h4 h5 h6 h7 h8 h9 h10 h11 h12 h13 : Nat) (x_g : Nat → Int32) (x_kept : Nat → Int32) (x_saved : Nat → Int32) (x_before : Nat → Int32) (x_was : Nat → Int32) (x_region : Nat → Int32) (x_parts : Nat → Int64) (x_next : Nat → Int64) (x_ways : Nat → Int32) (x_more : Nat → Int32) (x_whole : Int64) (x_isSaved : Int32) (x_changes : Int32) (x_isWithin : Int32) (x_input : Nat → Int32) (x_length : Int32) (x_fault : Int32) (x_failed : Int32) (x_signs : Nat → Int32) (x_signMany : Int32) (x_at : Int32) (x_told : Nat → Int32) (x_toldMany : Int32) (res : UInt32 × Int32) (H : Heap) (locs : List Loc) (pc : Nat) (ls : Array Slot) (st : List Value) : Prop := W p l e (headSpec wsX13_hitShare rm_X13_hitShare).room s m args below meth c H locs 0 0 (MQ below (PoF g A (w_X13 g h0 h1 h2 h3 h4 h5 h6 h7 h8 h9 h10 h11 h12 h13 x_g x_kept x_saved x_before x_was x_region x_parts x_next x_ways x_more x_whole x_isSaved x_changes x_isWithin res.2 x_input x_length x_fault x_failed x_signs x_signMany x_at x_told x_toldMany) res.1) args s 0 0 A) (F0 m pc ls st)
set_option maxHeartbeats 4000000 in
set_option maxRecDepth 100000 in
theorem k_X13_hitShare_0 {p : Program} {l : Launch} {e : Env} {s : State} {m : MethodId} {args : Array Value} {below : List Frame} {meth : Method} {c : Code} {g : GE} {A : Nat → Prop} {h0 h1 h2 h3 h4 h5 h6 h7 h8 h9 h10 h11 h12 h13 : Nat} {x_g : Nat → Int32} {x_kept : Nat → Int32} {x_saved : Nat → Int32} {x_before : Nat → Int32} {x_was : Nat → Int32} {x_region : Nat → Int32} {x_parts : Nat → Int64} {x_next : Nat → Int64} {x_ways : Nat → Int32} {x_more : Nat → Int32} {x_whole : Int64} {x_isSaved : Int32} {x_changes : Int32} {x_isWithin : Int32} {x_code : Int32} {x_input : Nat → Int32} {x_length : Int32} {x_fault : Int32} {x_failed : Int32} {x_signs : Nat → Int32} {x_signMany : Int32} {x_at : Int32} {x_told : Nat → Int32} {x_toldMany : Int32} {res : UInt32 × Int32} {H : Heap} {locs : List Loc} {ls : Array Slot} 
    (E : En cX13_hitShare RX13 wsX13_hitShare 1 (some .float) p s m args meth c) (hK : KK g s) (hA : ∀ q, s.heap.size ≤ q → A q) (h : f_X13_hitShare x_g x_code = some res) (hW : Wo g A s H locs (w_X13 g h0 h1 h2 h3 h4 h5 h6 h7 h8 h9 h10 h11 h12 h13 x_g x_kept x_saved x_before x_was x_region x_parts x_next x_ways x_more x_whole x_isSaved x_changes x_isWithin x_code x_input x_length x_fault x_failed x_signs x_signMany x_at x_told x_toldMany)) (hl : lv_has ls 1 [(0, .ref h0)]) : G_X13_hitShare p l e s m args below meth c g A h0 h1 h2 h3 h4 h5 h6 h7 h8 h9 h10 h11 h12 h13 x_g x_kept x_saved x_before x_was x_region x_parts x_next x_ways x_more x_whole x_isSaved x_changes x_isWithin x_input x_length x_fault x_failed x_signs x_signMany x_at x_told x_toldMany res H locs 0 ls [] := by
  have hts := E.2.2.2.1
  unfold f_X13_hitShare at h
  obtain ⟨j15, hj15, h⟩ := jox1 h
  have J15 : ∀ (s1_15 : Int32) (H : Heap) (locs : List Loc) (ls : Array Slot), j15 s1_15 = some res → Wo g A s H locs (w_X13 g h0 h1 h2 h3 h4 h5 h6 h7 h8 h9 h10 h11 h12 h13 x_g x_kept x_saved x_before x_was x_region x_parts x_next x_ways x_more x_whole x_isSaved x_changes x_isWithin x_code x_input x_length x_fault x_failed x_signs x_signMany x_at x_told x_toldMany) → lv_has ls 1 [(0, .ref h0)] → G_X13_hitShare p l e s m args below meth c g A h0 h1 h2 h3 h4 h5 h6 h7 h8 h9 h10 h11 h12 h13 x_g x_kept x_saved x_before x_was x_region x_parts x_next x_ways x_more x_whole x_isSaved x_changes x_isWithin x_input x_length x_fault x_failed x_signs x_signMany x_at x_told x_toldMany res H locs 15 ls [.int s1_15, .ref h0] := by
    intro s1_15 H locs ls h hW hl
    rw [hj15] at h
    obtain ⟨j41, hj41, h⟩ := jox2 h
    have J41 : ∀ (x_code_41 : Int32) (s0_41 : UInt32) (H : Heap) (locs : List Loc) (ls : Array Slot), j41 x_code_41 s0_41 = some res → Wo g A s H locs (w_X13 g h0 h1 h2 h3 h4 h5 h6 h7 h8 h9 h10 h11 h12 h13 x_g x_kept x_saved x_before x_was x_region x_parts x_next x_ways x_more x_whole x_isSaved x_changes x_isWithin x_code_41 x_input x_length x_fault x_failed x_signs x_signMany x_at x_told x_toldMany) → lv_has ls 1 [] → G_X13_hitShare p l e s m args below meth c g A h0 h1 h2 h3 h4 h5 h6 h7 h8 h9 h10 h11 h12 h13 x_g x_kept x_saved x_before x_was x_region x_parts x_next x_ways x_more x_whole x_isSaved x_changes x_isWithin x_input x_length x_fault x_failed x_signs x_signMany x_at x_told x_toldMany res H locs 41 ls [.float s0_41] := by
      intro x_code_41 s0_41 H locs ls h hW hl
      rw [hj41] at h
      obtain rfl := Option.some.inj h
      exact endF E hW dX13_hitShare_41
    obtain ⟨r15, hc, h⟩ := bx h
    refine goI (world' := (w_X13 g h0 h1 h2 h3 h4 h5 h6 h7 h8 h9 h10 h11 h12 h13 x_g x_kept x_saved x_before x_was x_region x_parts x_next x_ways x_more x_whole x_isSaved x_changes x_isWithin r15.2 x_input x_length x_fault x_failed x_signs x_signMany x_at x_told x_toldMany)) hW hA (is := [0, 1, 2, 3, 4, 5, 6, 7, 8, 9, 10, 11, 12, 13]) rfl (goV (rest := []) E hK hW [0, 1, 2, 3, 4, 5, 6, 7, 8, 9, 10, 11, 12, 13] rfl rfl (c_X13_fails l g h0 h1 h2 h3 h4 h5 h6 h7 h8 h9 h10 h11 h12 h13 x_g x_kept x_saved x_before x_was x_region x_parts x_next x_ways x_more x_whole x_isSaved x_changes x_isWithin x_code x_input x_length x_fault x_failed x_signs x_signMany x_at x_told x_toldMany s1_15 (hf := hc) H.size) (cwV 1 hts gX13_hitShare_X13_fails rfl rfl rfl (by decide +kernel) ⟨Nat.le_of_ble_eq_true rfl, Nat.le_of_ble_eq_true rfl⟩) 0 rfl rfl rfl hl.1 rfl rfl (Nat.le_of_ble_eq_true rfl) dX13_hitShare_15 ⟨Nat.zero_le _, Nat.zero_le _⟩) rfl rfl (fun H locs hW => ?_)
    refine lv_if_eq (tgt := 25) E.1 E.2.1 dX13_hitShare_18 (by decide) (fun c18 => ?_) (fun c18 => ?_)
    · have h := it c18 h
      refine lv_aload_n E.1 E.2.1 dX13_hitShare_25 rfl (lv_at hl 0 rfl) ?_
      refine wGet (v := .ref h1) E hK in_X13_hitShare_X13 hW 0 lk_X13_hitShare_7 0 rfl rfl (by decide) rfl rfl dX13_hitShare_26 ?_
      refine lv_bipush (v := 6) E.1 E.2.1 dX13_hitShare_29 (by decide) ?_
      refine wIald E hK hW 1 rfl (by decide) dX13_hitShare_31 ?_
      refine lv_i2f E.1 E.2.1 dX13_hitShare_32 ?_
      refine lv_aload_n E.1 E.2.1 dX13_hitShare_33 rfl (lv_at hl 0 rfl) ?_
      refine wGet (v := .ref h1) E hK in_X13_hitShare_X13 hW 0 lk_X13_hitShare_7 0 rfl rfl (by decide) rfl rfl dX13_hitShare_34 ?_
      refine lv_iconst (v := 4) E.1 E.2.1 dX13_hitShare_37 (by decide) ?_
      refine wIald E hK hW 1 rfl (by decide) dX13_hitShare_38 ?_
      refine lv_i2f E.1 E.2.1 dX13_hitShare_39 ?_
      obtain ⟨hn40, h⟩ := ox h
      refine lv_fdiv E.1 E.2.1 dX13_hitShare_40 (by (have q9 := Decidable.not_not.mp hn40); exact q9) ?_
      exact J41 r15.2 (FP.fdiv (FP.i2f (x_g (6 : Int32).toNatClampNeg)) (FP.i2f (x_g (4 : Int32).toNatClampNeg))) H locs ls h hW (lv_sub hl [] rfl)
    · have h := ie c18 h
      refine lv_fconst0 E.1 E.2.1 dX13_hitShare_21 ?_
      refine lv_goto (tgt := 41) E.1 E.2.1 dX13_hitShare_22 (by decide) ?_
      exact J41 r15.2 0 H locs ls h hW (lv_sub hl [] rfl)
  refine lv_aload_n E.1 E.2.1 dX13_hitShare_0 rfl (lv_at hl 0 rfl) ?_
  refine lv_aload_n E.1 E.2.1 dX13_hitShare_1 rfl (lv_at hl 0 rfl) ?_
  refine wGet (v := .ref h1) E hK in_X13_hitShare_X13 hW 0 lk_X13_hitShare_7 0 rfl rfl (by decide) rfl rfl dX13_hitShare_2 ?_
  refine lv_iconst (v := 4) E.1 E.2.1 dX13_hitShare_5 (by decide) ?_
  refine wIald E hK hW 1 rfl (by decide) dX13_hitShare_6 ?_
  refine lv_if_ne (tgt := 14) E.1 E.2.1 dX13_hitShare_7 (by decide) (fun c7 => ?_) (fun c7 => ?_)
  · have h := ie c7 h
    refine lv_iconst (v := 0) E.1 E.2.1 dX13_hitShare_14 (by decide) ?_
    exact J15 0 H locs ls h hW (lv_sub hl [0] rfl)
  · have h := it c7 h
    refine lv_iconst (v := 1) E.1 E.2.1 dX13_hitShare_10 (by decide) ?_
    refine lv_goto (tgt := 15) E.1 E.2.1 dX13_hitShare_11 (by decide) ?_
    exact J15 1 H locs ls h hW (lv_sub hl [0] rfl)
theorem c_X13_hitShare (l : Launch) (g : GE) (h0 h1 h2 h3 h4 h5 h6 h7 h8 h9 h10 h11 h12 h13 : Nat) (x_g : Nat → Int32) (x_kept : Nat → Int32) (x_saved : Nat → Int32) (x_before : Nat → Int32) (x_was : Nat → Int32) (x_region : Nat → Int32) (x_parts : Nat → Int64) (x_next : Nat → Int64) (x_ways : Nat → Int32) (x_more : Nat → Int32) (x_whole : Int64) (x_isSaved : Int32) (x_changes : Int32) (x_isWithin : Int32) (x_code : Int32) (x_input : Nat → Int32) (x_length : Int32) (x_fault : Int32) (x_failed : Int32) (x_signs : Nat → Int32) (x_signMany : Int32) (x_at : Int32) (x_told : Nat → Int32) (x_toldMany : Int32) {res : UInt32 × Int32} (hf : f_X13_hitShare x_g x_code = some res) : CF l yX13_hitShare wsX13_hitShare rm_X13_hitShare g [.ref h0] (w_X13 g h0 h1 h2 h3 h4 h5 h6 h7 h8 h9 h10 h11 h12 h13 x_g x_kept x_saved x_before x_was x_region x_parts x_next x_ways x_more x_whole x_isSaved x_changes x_isWithin x_code x_input x_length x_fault x_failed x_signs x_signMany x_at x_told x_toldMany) (w_X13 g h0 h1 h2 h3 h4 h5 h6 h7 h8 h9 h10 h11 h12 h13 x_g x_kept x_saved x_before x_was x_region x_parts x_next x_ways x_more x_whole x_isSaved x_changes x_isWithin res.2 x_input x_length x_fault x_failed x_signs x_signMany x_at x_told x_toldMany) res.1 :=
  mkF (cc := cX13_hitShare) (maxL := 1) (by decide) rfl (Nat.le_of_ble_eq_true rfl) (fun p e s m args below meth c A H locs ls E hK hA hW hl => k_X13_hitShare_0 E hK hA hf hW hl)

