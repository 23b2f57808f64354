/-! PaperStormModel.issue(I)I X13_issue -/
abbrev rm_X13_issue : Room := { frames := 4, cells := 0, slots := 0, locals := 92 }
theorem in_X13_issue_X13 : ∀ w ∈ wsX130, w ∈ wsX13_issue := by decide +kernel
theorem lk_X13_issue_7 : Cond.fieldLink RX13 7 "PaperStormModel" "g" "[I" ∈ wsX13_issue := by decide +kernel
noncomputable def f_X13_issue (x_g : Nat → Int32) (x_kept : Nat → Int32) (x_parts : Nat → Int64) (x_next : Nat → Int64) (x_ways : Nat → Int32) (x_more : Nat → Int32) (x_whole : Int64) (x_changes : Int32) (x_isWithin : Int32) (x_code : Int32) (a1 : Int32) : Option (Int32 × (Nat → Int32) × (Nat → Int32) × (Nat → Int64) × (Nat → Int64) × (Nat → Int32) × (Nat → Int32) × Int64 × Int32 × Int32) :=
  jo (fun (s1_30 : Int32) => (f_X13_fails x_code s1_30).bind fun r30 => if r30.1 = 0 then (f_X13_keeps__g x_g x_kept x_changes x_isWithin r30.2).bind fun r43 => if (48 + (2 * (x_g (3 : Int32).toNatClampNeg))) < 0 ∨ 60 ≤ (48 + (2 * (x_g (3 : Int32).toNatClampNeg))).toNatClampNeg then none else (f_X13_best (upd x_g (48 + (2 * (x_g (3 : Int32).toNatClampNeg))).toNatClampNeg ((x_g (0 : Int32).toNatClampNeg) + a1)) x_parts x_next x_ways x_more x_whole a1).bind fun r81 => if ((48 + (2 * (x_g (3 : Int32).toNatClampNeg))) + 1) < 0 ∨ 60 ≤ ((48 + (2 * (x_g (3 : Int32).toNatClampNeg))) + 1).toNatClampNeg then none else some ((((upd (upd (upd x_g (48 + (2 * (x_g (3 : Int32).toNatClampNeg))).toNatClampNeg ((x_g (0 : Int32).toNatClampNeg) + a1)) ((48 + (2 * (x_g (3 : Int32).toNatClampNeg))) + 1).toNatClampNeg r81.1) (3 : Int32).toNatClampNeg (((upd (upd x_g (48 + (2 * (x_g (3 : Int32).toNatClampNeg))).toNatClampNeg ((x_g (0 : Int32).toNatClampNeg) + a1)) ((48 + (2 * (x_g (3 : Int32).toNatClampNeg))) + 1).toNatClampNeg r81.1) (3 : Int32).toNatClampNeg) + 1)) (3 : Int32).toNatClampNeg) - 1), (upd (upd (upd x_g (48 + (2 * (x_g (3 : Int32).toNatClampNeg))).toNatClampNeg ((x_g (0 : Int32).toNatClampNeg) + a1)) ((48 + (2 * (x_g (3 : Int32).toNatClampNeg))) + 1).toNatClampNeg r81.1) (3 : Int32).toNatClampNeg (((upd (upd x_g (48 + (2 * (x_g (3 : Int32).toNatClampNeg))).toNatClampNeg ((x_g (0 : Int32).toNatClampNeg) + a1)) ((48 + (2 * (x_g (3 : Int32).toNatClampNeg))) + 1).toNatClampNeg r81.1) (3 : Int32).toNatClampNeg) + 1)), r43.1, r81.2.1, r81.2.2.1, r81.2.2.2.1, r81.2.2.2.2.1, r81.2.2.2.2.2, r43.2.1, r43.2.2) else some (0, x_g, x_kept, x_parts, x_next, x_ways, x_more, x_whole, x_changes, r30.2)) (fun j30 => (f_X13_in a1 1 3).bind fun r4 => if r4 = 0 then j30 1 else if (x_g (3 : Int32).toNatClampNeg) = 6 then j30 2 else j30 0)
abbrev G_X13_issue (p : Program) (l : Launch) (e : Env) (s : State) (m : MethodId) (args : Array Value) (below : List Frame) (meth : Method) (c : Code) (g : GE) (A : Nat → Prop) (h0 h1 h2 h3 h4 h5 h6 h7 h8 h9 h10 h11 h12 h13 : Nat) (x_saved : Nat → Int32) (x_before : Nat → Int32) (x_was : Nat → Int32) (x_region : Nat → Int32) (x_isSaved : Int32) (x_isWithin : Int32) (x_input : Nat → Int32) (x_length : Int32) (x_fault : Int32) (x_failed : Int32) (x_signs : Nat → Int32) (x_signMany : Int32) (x_at : Int32) (x_told : Nat → Int32) (x_toldMany : Int32) (res : Int32 × (Nat → Int32) × (Nat → Int32) × (Nat → Int64) × (Nat → Int64) × (Nat → Int32) × (Nat → Int32) × Int64 × Int32 × Int32) (H : Heap) (locs : List Loc) (pc : Nat) (ls : Array Slot) (st : List Value) : Prop := W p l e (headSpec wsX13_issue rm_X13_issue).room s m args below meth c H locs 0 0 (MQ below (PoI g A (w_X13 g h0 h1 h2 h3 h4 h5 h6 h7 h8 h9 h10 h11 h12 h13 res.2.1 res.2.2.1 x_saved x_before x_was x_region res.2.2.2.1 res.2.2.2.2.1 res.2.2.2.2.2.1 res.2.2.2.2.2.2.1 res.2.2.2.2.2.2.2.1 x_isSaved res.2.2.2.2.2.2.2.2.1 x_isWithin res.2.2.2.2.2.2.2.2.2 x_input x_length x_fault x_failed x_signs x_signMany x_at x_told x_toldMany) res.1) args s 0 0 A) (F0 m pc ls st)
set_option maxHeartbeats 4000000 in
set_option maxRecDepth 100000 in
theorem k_X13_issue_0 {p : Program} {l : Launch} {e : Env} {s : State} {m : MethodId} {args : Array Value} {below : List Frame} {meth : Method} {c : Code} {g : GE} {A : Nat → Prop} {h0 h1 h2 h3 h4 h5 h6 h7 h8 h9 h10 h11 h12 h13 : Nat} {x_g : Nat → Int32} {x_kept : Nat → Int32} {x_saved : Nat → Int32} {x_before : Nat → Int32} {x_was : Nat → Int32} {x_region : Nat → Int32} {x_parts : Nat → Int64} {x_next : Nat → Int64} {x_ways : Nat → Int32} {x_more : Nat → Int32} {x_whole : Int64} {x_isSaved : Int32} {x_changes : Int32} {x_isWithin : Int32} {x_code : Int32} {x_input : Nat → Int32} {x_length : Int32} {x_fault : Int32} {x_failed : Int32} {x_signs : Nat → Int32} {x_signMany : Int32} {x_at : Int32} {x_told : Nat → Int32} {x_toldMany : Int32} {res : Int32 × (Nat → Int32) × (Nat → Int32) × (Nat → Int64) × (Nat → Int64) × (Nat → Int32) × (Nat → Int32) × Int64 × Int32 × Int32} {H : Heap} {locs : List Loc} {ls : Array Slot} {a1 : Int32}
    (E : En cX13_issue RX13 wsX13_issue 3 (some .int) p s m args meth c) (hK : KK g s) (hA : ∀ q, s.heap.size ≤ q → A q) (h : f_X13_issue x_g x_kept x_parts x_next x_ways x_more x_whole x_changes x_isWithin x_code a1 = some res) (hW : Wo g A s H locs (w_X13 g h0 h1 h2 h3 h4 h5 h6 h7 h8 h9 h10 h11 h12 h13 x_g x_kept x_saved x_before x_was x_region x_parts x_next x_ways x_more x_whole x_isSaved x_changes x_isWithin x_code x_input x_length x_fault x_failed x_signs x_signMany x_at x_told x_toldMany)) (hl : lv_has ls 3 [(0, .ref h0), (1, .int a1)]) : G_X13_issue p l e s m args below meth c g A h0 h1 h2 h3 h4 h5 h6 h7 h8 h9 h10 h11 h12 h13 x_saved x_before x_was x_region x_isSaved x_isWithin x_input x_length x_fault x_failed x_signs x_signMany x_at x_told x_toldMany res H locs 0 ls [] := by
  have hts := E.2.2.2.1
  unfold f_X13_issue at h
  obtain ⟨j30, hj30, h⟩ := jox1 h
  have J30 : ∀ (s1_30 : Int32) (H : Heap) (locs : List Loc) (ls : Array Slot), j30 s1_30 = some res → Wo g A s H locs (w_X13 g h0 h1 h2 h3 h4 h5 h6 h7 h8 h9 h10 h11 h12 h13 x_g x_kept x_saved x_before x_was x_region x_parts x_next x_ways x_more x_whole x_isSaved x_changes x_isWithin x_code x_input x_length x_fault x_failed x_signs x_signMany x_at x_told x_toldMany) → lv_has ls 3 [(0, .ref h0), (1, .int a1)] → G_X13_issue p l e s m args below meth c g A h0 h1 h2 h3 h4 h5 h6 h7 h8 h9 h10 h11 h12 h13 x_saved x_before x_was x_region x_isSaved x_isWithin x_input x_length x_fault x_failed x_signs x_signMany x_at x_told x_toldMany res H locs 30 ls [.int s1_30, .ref h0] := by
    intro s1_30 H locs ls h hW hl
    rw [hj30] at h
    obtain ⟨r30, hc, h⟩ := bx h
    refine goI (world' := (w_X13 g h0 h1 h2 h3 h4 h5 h6 h7 h8 h9 h10 h11 h12 h13 x_g x_kept x_saved x_before x_was x_region x_parts x_next x_ways x_more x_whole x_isSaved x_changes x_isWithin r30.2 x_input x_length x_fault x_failed x_signs x_signMany x_at x_told x_toldMany)) hW hA (is := [0, 1, 2, 3, 4, 5, 6, 7, 8, 9, 10, 11, 12, 13]) rfl (goV (rest := []) E hK hW [0, 1, 2, 3, 4, 5, 6, 7, 8, 9, 10, 11, 12, 13] rfl rfl (c_X13_fails l g h0 h1 h2 h3 h4 h5 h6 h7 h8 h9 h10 h11 h12 h13 x_g x_kept x_saved x_before x_was x_region x_parts x_next x_ways x_more x_whole x_isSaved x_changes x_isWithin x_code x_input x_length x_fault x_failed x_signs x_signMany x_at x_told x_toldMany s1_30 (hf := hc) H.size) (cwV 1 hts gX13_issue_X13_fails rfl rfl rfl (by decide +kernel) ⟨Nat.le_of_ble_eq_true rfl, Nat.le_of_ble_eq_true rfl⟩) 0 rfl rfl rfl hl.1 rfl rfl (Nat.le_of_ble_eq_true rfl) dX13_issue_30 ⟨Nat.zero_le _, Nat.zero_le _⟩) rfl rfl (fun H locs hW => ?_)
    refine lv_if_eq (tgt := 38) E.1 E.2.1 dX13_issue_33 (by decide) (fun c33 => ?_) (fun c33 => ?_)
    · have h := it c33 h
      refine lv_aload_n E.1 E.2.1 dX13_issue_38 rfl (lv_at hl 0 rfl) ?_
      refine lv_aload_n E.1 E.2.1 dX13_issue_39 rfl (lv_at hl 0 rfl) ?_
      refine wGet (v := .ref h1) E hK in_X13_issue_X13 hW 0 lk_X13_issue_7 0 rfl rfl (by decide) rfl rfl dX13_issue_40 ?_
      obtain ⟨r43, hc, h⟩ := bx h
      refine goU (world' := (w_X13 g h0 h1 h2 h3 h4 h5 h6 h7 h8 h9 h10 h11 h12 h13 x_g r43.1 x_saved x_before x_was x_region x_parts x_next x_ways x_more x_whole x_isSaved r43.2.1 x_isWithin r43.2.2 x_input x_length x_fault x_failed x_signs x_signMany x_at x_told x_toldMany)) hW hA (is := [0, 1, 2, 3, 4, 5, 6, 7, 8, 9, 10, 11, 12, 13]) rfl (goV (rest := []) E hK hW [0, 1, 2, 3, 4, 5, 6, 7, 8, 9, 10, 11, 12, 13] rfl rfl (c_X13_keeps__g l g h0 h1 h2 h3 h4 h5 h6 h7 h8 h9 h10 h11 h12 h13 x_g x_kept x_saved x_before x_was x_region x_parts x_next x_ways x_more x_whole x_isSaved x_changes x_isWithin r30.2 x_input x_length x_fault x_failed x_signs x_signMany x_at x_told x_toldMany (hf := hc) H.size) (cwV 1 hts gX13_issue_X13_keeps rfl rfl rfl (by decide +kernel) ⟨Nat.le_of_ble_eq_true rfl, Nat.le_of_ble_eq_true rfl⟩) 0 rfl rfl rfl hl.1 rfl rfl (Nat.le_of_ble_eq_true rfl) dX13_issue_43 ⟨Nat.zero_le _, Nat.zero_le _⟩) rfl rfl (fun H locs hW => ?_)
      refine lv_bipush (v := 48) E.1 E.2.1 dX13_issue_46 (by decide) ?_
      refine lv_iconst (v := 2) E.1 E.2.1 dX13_issue_48 (by decide) ?_
      refine lv_aload_n E.1 E.2.1 dX13_issue_49 rfl (lv_at hl 0 rfl) ?_
      refine wGet (v := .ref h1) E hK in_X13_issue_X13 hW 0 lk_X13_issue_7 0 rfl rfl (by decide) rfl rfl dX13_issue_50 ?_
      refine lv_iconst (v := 3) E.1 E.2.1 dX13_issue_53 (by decide) ?_
      refine wIald E hK hW 1 rfl (by decide) dX13_issue_54 ?_
      refine lv_imul E.1 E.2.1 dX13_issue_55 ?_
      refine lv_iadd E.1 E.2.1 dX13_issue_56 ?_
      refine lv_istore_n (lv' := [(2, .int (48 + (2 * (x_g (3 : Int32).toNatClampNeg)))), (0, .ref h0), (1, .int a1)]) E.1 E.2.1 dX13_issue_57 rfl hl (by decide) rfl (fun ls hl => ?_)
      refine lv_aload_n E.1 E.2.1 dX13_issue_58 rfl (lv_at hl 1 rfl) ?_
      refine wGet (v := .ref h1) E hK in_X13_issue_X13 hW 0 lk_X13_issue_7 0 rfl rfl (by decide) rfl rfl dX13_issue_59 ?_
      refine lv_iload_n E.1 E.2.1 dX13_issue_62 rfl (lv_at hl 0 rfl) ?_
      refine lv_aload_n E.1 E.2.1 dX13_issue_63 rfl (lv_at hl 1 rfl) ?_
      refine wGet (v := .ref h1) E hK in_X13_issue_X13 hW 0 lk_X13_issue_7 0 rfl rfl (by decide) rfl rfl dX13_issue_64 ?_
      refine lv_iconst (v := 0) E.1 E.2.1 dX13_issue_67 (by decide) ?_
      refine wIald E hK hW 1 rfl (by decide) dX13_issue_68 ?_
      refine lv_iload_n E.1 E.2.1 dX13_issue_69 rfl (lv_at hl 2 rfl) ?_
      refine lv_iadd E.1 E.2.1 dX13_issue_70 ?_
      obtain ⟨hi71, h⟩ := ox h
      refine wIast (world' := (w_X13 g h0 h1 h2 h3 h4 h5 h6 h7 h8 h9 h10 h11 h12 h13 (upd x_g (48 + (2 * (x_g (3 : Int32).toNatClampNeg))).toNatClampNeg ((x_g (0 : Int32).toNatClampNeg) + a1)) r43.1 x_saved x_before x_was x_region x_parts x_next x_ways x_more x_whole x_isSaved r43.2.1 x_isWithin r43.2.2 x_input x_length x_fault x_failed x_signs x_signMany x_at x_told x_toldMany)) E hK hW 1 rfl hi71 dX13_issue_71 rfl (fun H locs hW => ?_)
      refine lv_aload_n E.1 E.2.1 dX13_issue_72 rfl (lv_at hl 1 rfl) ?_
      refine wGet (v := .ref h1) E hK in_X13_issue_X13 hW 0 lk_X13_issue_7 0 rfl rfl (by decide) rfl rfl dX13_issue_73 ?_
      refine lv_iload_n E.1 E.2.1 dX13_issue_76 rfl (lv_at hl 0 rfl) ?_
      refine lv_iconst (v := 1) E.1 E.2.1 dX13_issue_77 (by decide) ?_
      refine lv_iadd E.1 E.2.1 dX13_issue_78 ?_
      refine lv_aload_n E.1 E.2.1 dX13_issue_79 rfl (lv_at hl 1 rfl) ?_
      refine lv_iload_n E.1 E.2.1 dX13_issue_80 rfl (lv_at hl 2 rfl) ?_
      obtain ⟨r81, hc, h⟩ := bx h
      refine goI (world' := (w_X13 g h0 h1 h2 h3 h4 h5 h6 h7 h8 h9 h10 h11 h12 h13 (upd x_g (48 + (2 * (x_g (3 : Int32).toNatClampNeg))).toNatClampNeg ((x_g (0 : Int32).toNatClampNeg) + a1)) r43.1 x_saved x_before x_was x_region r81.2.1 r81.2.2.1 r81.2.2.2.1 r81.2.2.2.2.1 r81.2.2.2.2.2 x_isSaved r43.2.1 x_isWithin r43.2.2 x_input x_length x_fault x_failed x_signs x_signMany x_at x_told x_toldMany)) hW hA (is := [0, 1, 2, 3, 4, 5, 6, 7, 8, 9, 10, 11, 12, 13]) rfl (goV (rest := [.int ((48 + (2 * (x_g (3 : Int32).toNatClampNeg))) + 1), .ref h1]) E hK hW [0, 1, 2, 3, 4, 5, 6, 7, 8, 9, 10, 11, 12, 13] rfl rfl (c_X13_best l g h0 h1 h2 h3 h4 h5 h6 h7 h8 h9 h10 h11 h12 h13 (upd x_g (48 + (2 * (x_g (3 : Int32).toNatClampNeg))).toNatClampNeg ((x_g (0 : Int32).toNatClampNeg) + a1)) r43.1 x_saved x_before x_was x_region x_parts x_next x_ways x_more x_whole x_isSaved r43.2.1 x_isWithin r43.2.2 x_input x_length x_fault x_failed x_signs x_signMany x_at x_told x_toldMany a1 (hf := hc) H.size) (cwV 1 hts gX13_issue_X13_best rfl rfl rfl (by decide +kernel) ⟨Nat.le_of_ble_eq_true rfl, Nat.le_of_ble_eq_true rfl⟩) 0 rfl rfl rfl hl.1 rfl rfl (Nat.le_of_ble_eq_true rfl) dX13_issue_81 ⟨Nat.zero_le _, Nat.zero_le _⟩) rfl rfl (fun H locs hW => ?_)
      obtain ⟨hi84, h⟩ := ox h
      refine wIast (world' := (w_X13 g h0 h1 h2 h3 h4 h5 h6 h7 h8 h9 h10 h11 h12 h13 (upd (upd x_g (48 + (2 * (x_g (3 : Int32).toNatClampNeg))).toNatClampNeg ((x_g (0 : Int32).toNatClampNeg) + a1)) ((48 + (2 * (x_g (3 : Int32).toNatClampNeg))) + 1).toNatClampNeg r81.1) r43.1 x_saved x_before x_was x_region r81.2.1 r81.2.2.1 r81.2.2.2.1 r81.2.2.2.2.1 r81.2.2.2.2.2 x_isSaved r43.2.1 x_isWithin r43.2.2 x_input x_length x_fault x_failed x_signs x_signMany x_at x_told x_toldMany)) E hK hW 1 rfl hi84 dX13_issue_84 rfl (fun H locs hW => ?_)
      refine lv_aload_n E.1 E.2.1 dX13_issue_85 rfl (lv_at hl 1 rfl) ?_
      refine wGet (v := .ref h1) E hK in_X13_issue_X13 hW 0 lk_X13_issue_7 0 rfl rfl (by decide) rfl rfl dX13_issue_86 ?_
      refine lv_iconst (v := 3) E.1 E.2.1 dX13_issue_89 (by decide) ?_
      refine lv_dup2_11 E.1 E.2.1 dX13_issue_90 rfl rfl ?_
      refine wIald E hK hW 1 rfl (by decide) dX13_issue_91 ?_
      refine lv_iconst (v := 1) E.1 E.2.1 dX13_issue_92 (by decide) ?_
      refine lv_iadd E.1 E.2.1 dX13_issue_93 ?_
      refine wIast (world' := (w_X13 g h0 h1 h2 h3 h4 h5 h6 h7 h8 h9 h10 h11 h12 h13 (upd (upd (upd x_g (48 + (2 * (x_g (3 : Int32).toNatClampNeg))).toNatClampNeg ((x_g (0 : Int32).toNatClampNeg) + a1)) ((48 + (2 * (x_g (3 : Int32).toNatClampNeg))) + 1).toNatClampNeg r81.1) (3 : Int32).toNatClampNeg (((upd (upd x_g (48 + (2 * (x_g (3 : Int32).toNatClampNeg))).toNatClampNeg ((x_g (0 : Int32).toNatClampNeg) + a1)) ((48 + (2 * (x_g (3 : Int32).toNatClampNeg))) + 1).toNatClampNeg r81.1) (3 : Int32).toNatClampNeg) + 1)) r43.1 x_saved x_before x_was x_region r81.2.1 r81.2.2.1 r81.2.2.2.1 r81.2.2.2.2.1 r81.2.2.2.2.2 x_isSaved r43.2.1 x_isWithin r43.2.2 x_input x_length x_fault x_failed x_signs x_signMany x_at x_told x_toldMany)) E hK hW 1 rfl (by decide) dX13_issue_94 rfl (fun H locs hW => ?_)
      refine lv_aload_n E.1 E.2.1 dX13_issue_95 rfl (lv_at hl 1 rfl) ?_
      refine wGet (v := .ref h1) E hK in_X13_issue_X13 hW 0 lk_X13_issue_7 0 rfl rfl (by decide) rfl rfl dX13_issue_96 ?_
      refine lv_iconst (v := 3) E.1 E.2.1 dX13_issue_99 (by decide) ?_
      refine wIald E hK hW 1 rfl (by decide) dX13_issue_100 ?_
      refine lv_iconst (v := 1) E.1 E.2.1 dX13_issue_101 (by decide) ?_
      refine lv_isub E.1 E.2.1 dX13_issue_102 ?_
      obtain rfl := Option.some.inj h
      exact endI E rfl hW dX13_issue_103
    · have h := ie c33 h
      refine lv_iconst (v := 0) E.1 E.2.1 dX13_issue_36 (by decide) ?_
      obtain rfl := Option.some.inj h
      exact endI E rfl hW dX13_issue_37
  refine lv_aload_n E.1 E.2.1 dX13_issue_0 rfl (lv_at hl 0 rfl) ?_
  refine lv_iload_n E.1 E.2.1 dX13_issue_1 rfl (lv_at hl 1 rfl) ?_
  refine lv_iconst (v := 1) E.1 E.2.1 dX13_issue_2 (by decide) ?_
  refine lv_iconst (v := 3) E.1 E.2.1 dX13_issue_3 (by decide) ?_
  obtain ⟨r4, hc, h⟩ := bx h
  refine goI (world' := (w_X13 g h0 h1 h2 h3 h4 h5 h6 h7 h8 h9 h10 h11 h12 h13 x_g x_kept x_saved x_before x_was x_region x_parts x_next x_ways x_more x_whole x_isSaved x_changes x_isWithin x_code x_input x_length x_fault x_failed x_signs x_signMany x_at x_told x_toldMany)) hW hA (is := []) rfl (goS (rest := [.ref h0]) E hK hW [] rfl rfl (c_X13_in l g a1 1 3 (hf := hc) H.size) (va_cwS 3 hts gX13_issue_X13_in rfl rfl rfl (by decide +kernel) ⟨Nat.le_of_ble_eq_true rfl, Nat.le_of_ble_eq_true rfl⟩) hl.1 rfl rfl (Nat.le_of_ble_eq_true rfl) dX13_issue_4 ⟨Nat.zero_le _, Nat.zero_le _⟩) rfl rfl (fun H locs hW => ?_)
  refine lv_if_ne (tgt := 14) E.1 E.2.1 dX13_issue_7 (by decide) (fun c7 => ?_) (fun c7 => ?_)
  · have h := ie c7 h
    refine lv_aload_n E.1 E.2.1 dX13_issue_14 rfl (lv_at hl 0 rfl) ?_
    refine wGet (v := .ref h1) E hK in_X13_issue_X13 hW 0 lk_X13_issue_7 0 rfl rfl (by decide) rfl rfl dX13_issue_15 ?_
    refine lv_iconst (v := 3) E.1 E.2.1 dX13_issue_18 (by decide) ?_
    refine wIald E hK hW 1 rfl (by decide) dX13_issue_19 ?_
    refine lv_bipush (v := 6) E.1 E.2.1 dX13_issue_20 (by decide) ?_
    refine lv_icmp_ne (tgt := 29) E.1 E.2.1 dX13_issue_22 (by decide) (fun c22 => ?_) (fun c22 => ?_)
    · have h := ie c22 h
      refine lv_iconst (v := 0) E.1 E.2.1 dX13_issue_29 (by decide) ?_
      exact J30 0 H locs ls h hW (lv_sub hl [0, 1] rfl)
    · have h := it c22 h
      refine lv_iconst (v := 2) E.1 E.2.1 dX13_issue_25 (by decide) ?_
      refine lv_goto (tgt := 30) E.1 E.2.1 dX13_issue_26 (by decide) ?_
      exact J30 2 H locs ls h hW (lv_sub hl [0, 1] rfl)
  · have h := it c7 h
    refine lv_iconst (v := 1) E.1 E.2.1 dX13_issue_10 (by decide) ?_
    refine lv_goto (tgt := 30) E.1 E.2.1 dX13_issue_11 (by decide) ?_
    exact J30 1 H locs ls h hW (lv_sub hl [0, 1] rfl)
theorem c_X13_issue (l : Launch) (g : GE) (h0 h1 h2 h3 h4 h5 h6 h7 h8 h9 h10 h11 h12 h13 : Nat) (x_g : Nat → Int32) (x_kept : Nat → Int32) (x_saved : Nat → Int32) (x_before : Nat → Int32) (x_was : Nat → Int32) (x_region : Nat → Int32) (x_parts : Nat → Int64) (x_next : Nat → Int64) (x_ways : Nat → Int32) (x_more : Nat → Int32) (x_whole : Int64) (x_isSaved : Int32) (x_changes : Int32) (x_isWithin : Int32) (x_code : Int32) (x_input : Nat → Int32) (x_length : Int32) (x_fault : Int32) (x_failed : Int32) (x_signs : Nat → Int32) (x_signMany : Int32) (x_at : Int32) (x_told : Nat → Int32) (x_toldMany : Int32) (a1 : Int32) {res : Int32 × (Nat → Int32) × (Nat → Int32) × (Nat → Int64) × (Nat → Int64) × (Nat → Int32) × (Nat → Int32) × Int64 × Int32 × Int32} (hf : f_X13_issue x_g x_kept x_parts x_next x_ways x_more x_whole x_changes x_isWithin x_code a1 = some res) : CI l yX13_issue wsX13_issue rm_X13_issue g [.ref h0, .int a1] (w_X13 g h0 h1 h2 h3 h4 h5 h6 h7 h8 h9 h10 h11 h12 h13 x_g x_kept x_saved x_before x_was x_region x_parts x_next x_ways x_more x_whole x_isSaved x_changes x_isWithin x_code x_input x_length x_fault x_failed x_signs x_signMany x_at x_told x_toldMany) (w_X13 g h0 h1 h2 h3 h4 h5 h6 h7 h8 h9 h10 h11 h12 h13 res.2.1 res.2.2.1 x_saved x_before x_was x_region res.2.2.2.1 res.2.2.2.2.1 res.2.2.2.2.2.1 res.2.2.2.2.2.2.1 res.2.2.2.2.2.2.2.1 x_isSaved res.2.2.2.2.2.2.2.2.1 x_isWithin res.2.2.2.2.2.2.2.2.2 x_input x_length x_fault x_failed x_signs x_signMany x_at x_told x_toldMany) res.1 :=
  mkI (cc := cX13_issue) (maxL := 3) (by decide) rfl (Nat.le_of_ble_eq_true rfl) (fun p e s m args below meth c A H locs ls E hK hA hW hl => k_X13_issue_0 E hK hA hf hW hl)

/-! PaperStormModel.drops(I)V X13_drops -/
abbrev rm_X13_drops : Room := { frames := 0, cells := 0, slots := 0, locals := 0 }
theorem in_X13_drops_X13 : ∀ w ∈ wsX130, w ∈ wsX13_drops := by decide +kernel
theorem lk_X13_drops_7 : Cond.fieldLink RX13 7 "PaperStormModel" "g" "[I" ∈ wsX13_drops := by decide +kernel
noncomputable def f_X13_drops_17 (z52 : (Nat → Int32) → Option ((Nat → Int32))) : Nat → Int32 → (Nat → Int32) → Option ((Nat → Int32))
  | 0, _, _ => none
  | n + 1, l2_17, x_g_17 => if (48 + (2 * (x_g_17 (3 : Int32).toNatClampNeg))) ≤ l2_17 then z52 x_g_17 else if (l2_17 + 2) < 0 ∨ 60 ≤ (l2_17 + 2).toNatClampNeg then none else if l2_17 < 0 ∨ 60 ≤ l2_17.toNatClampNeg then none else f_X13_drops_17 z52 n (l2_17 + 1) (upd x_g_17 l2_17.toNatClampNeg (x_g_17 (l2_17 + 2).toNatClampNeg))
noncomputable def f_X13_drops (x_g : Nat → Int32) (a1 : Int32) : Option ((Nat → Int32)) :=
  f_X13_drops_17 (fun x_g_52e => if (48 + (2 * (x_g_52e (3 : Int32).toNatClampNeg))) < 0 ∨ 60 ≤ (48 + (2 * (x_g_52e (3 : Int32).toNatClampNeg))).toNatClampNeg then none else if ((48 + (2 * ((upd x_g_52e (48 + (2 * (x_g_52e (3 : Int32).toNatClampNeg))).toNatClampNeg 0) (3 : Int32).toNatClampNeg))) + 1) < 0 ∨ 60 ≤ ((48 + (2 * ((upd x_g_52e (48 + (2 * (x_g_52e (3 : Int32).toNatClampNeg))).toNatClampNeg 0) (3 : Int32).toNatClampNeg))) + 1).toNatClampNeg then none else some ((upd (upd x_g_52e (48 + (2 * (x_g_52e (3 : Int32).toNatClampNeg))).toNatClampNeg 0) ((48 + (2 * ((upd x_g_52e (48 + (2 * (x_g_52e (3 : Int32).toNatClampNeg))).toNatClampNeg 0) (3 : Int32).toNatClampNeg))) + 1).toNatClampNeg 0))) 1000 (48 + (2 * a1)) (upd x_g (3 : Int32).toNatClampNeg ((x_g (3 : Int32).toNatClampNeg) - 1))
abbrev G_X13_drops (p : Program) (l : Launch) (e : Env) (s : State) (m : MethodId) (args : Array Value) (below : List Frame) (meth : Method) (c : Code) (g : GE) (A : Nat → Prop) (h0 h1 h2 h3 h4 h5 h6 h7 h8 h9 h10 h11 h12 h13 : Nat) (x_kept : Nat → Int32) (x_saved : Nat → Int32) (x_before : Nat → Int32) (x_was : Nat → Int32) (x_region : Nat → Int32) (x_parts : Nat → Int64) (x_next : Nat → Int64) (x_ways : Nat → Int32) (x_more : Nat → Int32) (x_whole : Int64) (x_isSaved : Int32) (x_changes : Int32) (x_isWithin : Int32) (x_code : Int32) (x_input : Nat → Int32) (x_length : Int32) (x_fault : Int32) (x_failed : Int32) (x_signs : Nat → Int32) (x_signMany : Int32) (x_at : Int32) (x_told : Nat → Int32) (x_toldMany : Int32) (res : (Nat → Int32)) (H : Heap) (locs : List Loc) (pc : Nat) (ls : Array Slot) (st : List Value) : Prop := W p l e (headSpec wsX13_drops rm_X13_drops).room s m args below meth c H locs 0 0 (MQ below (PoV g A (w_X13 g h0 h1 h2 h3 h4 h5 h6 h7 h8 h9 h10 h11 h12 h13 res x_kept x_saved x_before x_was x_region x_parts x_next x_ways x_more x_whole x_isSaved x_changes x_isWithin x_code x_input x_length x_fault x_failed x_signs x_signMany x_at x_told x_toldMany)) args s 0 0 A) (F0 m pc ls st)
set_option maxHeartbeats 4000000 in
set_option maxRecDepth 100000 in
theorem k_X13_drops_17 {p : Program} {l : Launch} {e : Env} {s : State} {m : MethodId} {args : Array Value} {below : List Frame} {meth : Method} {c : Code} {g : GE} {A : Nat → Prop} {h0 h1 h2 h3 h4 h5 h6 h7 h8 h9 h10 h11 h12 h13 : Nat} {x_kept : Nat → Int32} {x_saved : Nat → Int32} {x_before : Nat → Int32} {x_was : Nat → Int32} {x_region : Nat → Int32} {x_parts : Nat → Int64} {x_next : Nat → Int64} {x_ways : Nat → Int32} {x_more : Nat → Int32} {x_whole : Int64} {x_isSaved : Int32} {x_changes : Int32} {x_isWithin : Int32} {x_code : Int32} {x_input : Nat → Int32} {x_length : Int32} {x_fault : Int32} {x_failed : Int32} {x_signs : Nat → Int32} {x_signMany : Int32} {x_at : Int32} {x_told : Nat → Int32} {x_toldMany : Int32} {res : (Nat → Int32)} {z52 : (Nat → Int32) → Option ((Nat → Int32))}
    (E : En cX13_drops RX13 wsX13_drops 3 none p s m args meth c) (hK : KK g s) (hA : ∀ q, s.heap.size ≤ q → A q)
    (hz52 : ∀ (x_g_52e : Nat → Int32) (H : Heap) (locs : List Loc) (ls : Array Slot), z52 x_g_52e = some res → Wo g A s H locs (w_X13 g h0 h1 h2 h3 h4 h5 h6 h7 h8 h9 h10 h11 h12 h13 x_g_52e x_kept x_saved x_before x_was x_region x_parts x_next x_ways x_more x_whole x_isSaved x_changes x_isWithin x_code x_input x_length x_fault x_failed x_signs x_signMany x_at x_told x_toldMany) → lv_has ls 3 [(0, .ref h0)] → G_X13_drops p l e s m args below meth c g A h0 h1 h2 h3 h4 h5 h6 h7 h8 h9 h10 h11 h12 h13 x_kept x_saved x_before x_was x_region x_parts x_next x_ways x_more x_whole x_isSaved x_changes x_isWithin x_code x_input x_length x_fault x_failed x_signs x_signMany x_at x_told x_toldMany res H locs 52 ls [])
    : ∀ (n : Nat) (l2_17 : Int32) (x_g_17 : Nat → Int32) (H : Heap) (locs : List Loc) (ls : Array Slot), f_X13_drops_17 z52 n l2_17 x_g_17 = some res → Wo g A s H locs (w_X13 g h0 h1 h2 h3 h4 h5 h6 h7 h8 h9 h10 h11 h12 h13 x_g_17 x_kept x_saved x_before x_was x_region x_parts x_next x_ways x_more x_whole x_isSaved x_changes x_isWithin x_code x_input x_length x_fault x_failed x_signs x_signMany x_at x_told x_toldMany) → lv_has ls 3 [(0, .ref h0), (2, .int l2_17)] → G_X13_drops p l e s m args below meth c g A h0 h1 h2 h3 h4 h5 h6 h7 h8 h9 h10 h11 h12 h13 x_kept x_saved x_before x_was x_region x_parts x_next x_ways x_more x_whole x_isSaved x_changes x_isWithin x_code x_input x_length x_fault x_failed x_signs x_signMany x_at x_told x_toldMany res H locs 17 ls [] := by
  have hts := E.2.2.2.1
  intro n
  induction n with
  | zero => intro l2_17 x_g_17 H locs ls h hW hl; rw [f_X13_drops_17] at h; cases h
  | succ n ih =>
    intro l2_17 x_g_17 H locs ls h hW hl
    rw [f_X13_drops_17] at h
    refine lv_iload_n E.1 E.2.1 dX13_drops_17 rfl (lv_at hl 1 rfl) ?_
    refine lv_bipush (v := 48) E.1 E.2.1 dX13_drops_18 (by decide) ?_
    refine lv_iconst (v := 2) E.1 E.2.1 dX13_drops_20 (by decide) ?_
    refine lv_aload_n E.1 E.2.1 dX13_drops_21 rfl (lv_at hl 0 rfl) ?_
    refine wGet (v := .ref h1) E hK in_X13_drops_X13 hW 0 lk_X13_drops_7 0 rfl rfl (by decide) rfl rfl dX13_drops_22 ?_
    refine lv_iconst (v := 3) E.1 E.2.1 dX13_drops_25 (by decide) ?_
    refine wIald E hK hW 1 rfl (by decide) dX13_drops_26 ?_
    refine lv_imul E.1 E.2.1 dX13_drops_27 ?_
    refine lv_iadd E.1 E.2.1 dX13_drops_28 ?_
    refine lv_icmp_ge (tgt := 52) E.1 E.2.1 dX13_drops_29 (by decide) (fun c29 => ?_) (fun c29 => ?_)
    · have h := it c29 h
      exact hz52 x_g_17 H locs ls h hW (lv_sub hl [0] rfl)
    · have h := ie c29 h
      refine lv_aload_n E.1 E.2.1 dX13_drops_32 rfl (lv_at hl 0 rfl) ?_
      refine wGet (v := .ref h1) E hK in_X13_drops_X13 hW 0 lk_X13_drops_7 0 rfl rfl (by decide) rfl rfl dX13_drops_33 ?_
      refine lv_iload_n E.1 E.2.1 dX13_drops_36 rfl (lv_at hl 1 rfl) ?_
      refine lv_aload_n E.1 E.2.1 dX13_drops_37 rfl (lv_at hl 0 rfl) ?_
      refine wGet (v := .ref h1) E hK in_X13_drops_X13 hW 0 lk_X13_drops_7 0 rfl rfl (by decide) rfl rfl dX13_drops_38 ?_
      refine lv_iload_n E.1 E.2.1 dX13_drops_41 rfl (lv_at hl 1 rfl) ?_
      refine lv_iconst (v := 2) E.1 E.2.1 dX13_drops_42 (by decide) ?_
      refine lv_iadd E.1 E.2.1 dX13_drops_43 ?_
      obtain ⟨hi44, h⟩ := ox h
      refine wIald E hK hW 1 rfl hi44 dX13_drops_44 ?_
      obtain ⟨hi45, h⟩ := ox h
      refine wIast (world' := (w_X13 g h0 h1 h2 h3 h4 h5 h6 h7 h8 h9 h10 h11 h12 h13 (upd x_g_17 l2_17.toNatClampNeg (x_g_17 (l2_17 + 2).toNatClampNeg)) x_kept x_saved x_before x_was x_region x_parts x_next x_ways x_more x_whole x_isSaved x_changes x_isWithin x_code x_input x_length x_fault x_failed x_signs x_signMany x_at x_told x_toldMany)) E hK hW 1 rfl hi45 dX13_drops_45 rfl (fun H locs hW => ?_)
      refine lv_iinc (v := (l2_17 + 1)) (lv' := [(2, .int (l2_17 + 1)), (0, .ref h0)]) E.1 E.2.1 dX13_drops_46 hl (k := 1) rfl rfl (by decide) rfl (fun ls hl => ?_)
      refine lv_goto (tgt := 17) E.1 E.2.1 dX13_drops_49 (by decide) ?_
      exact ih (l2_17 + 1) (upd x_g_17 l2_17.toNatClampNeg (x_g_17 (l2_17 + 2).toNatClampNeg)) H locs ls h hW (lv_sub hl [1, 0] rfl)
set_option maxHeartbeats 4000000 in
set_option maxRecDepth 100000 in
theorem k_X13_drops_0 {p : Program} {l : Launch} {e : Env} {s : State} {m : MethodId} {args : Array Value} {below : List Frame} {meth : Method} {c : Code} {g : GE} {A : Nat → Prop} {h0 h1 h2 h3 h4 h5 h6 h7 h8 h9 h10 h11 h12 h13 : Nat} {x_g : Nat → Int32} {x_kept : Nat → Int32} {x_saved : Nat → Int32} {x_before : Nat → Int32} {x_was : Nat → Int32} {x_region : Nat → Int32} {x_parts : Nat → Int64} {x_next : Nat → Int64} {x_ways : Nat → Int32} {x_more : Nat → Int32} {x_whole : Int64} {x_isSaved : Int32} {x_changes : Int32} {x_isWithin : Int32} {x_code : Int32} {x_input : Nat → Int32} {x_length : Int32} {x_fault : Int32} {x_failed : Int32} {x_signs : Nat → Int32} {x_signMany : Int32} {x_at : Int32} {x_told : Nat → Int32} {x_toldMany : Int32} {res : (Nat → Int32)} {H : Heap} {locs : List Loc} {ls : Array Slot} {a1 : Int32}
    (E : En cX13_drops RX13 wsX13_drops 3 none p s m args meth c) (hK : KK g s) (hA : ∀ q, s.heap.size ≤ q → A q) (h : f_X13_drops x_g a1 = some res) (hW : Wo g A s H locs (w_X13 g h0 h1 h2 h3 h4 h5 h6 h7 h8 h9 h10 h11 h12 h13 x_g x_kept x_saved x_before x_was x_region x_parts x_next x_ways x_more x_whole x_isSaved x_changes x_isWithin x_code x_input x_length x_fault x_failed x_signs x_signMany x_at x_told x_toldMany)) (hl : lv_has ls 3 [(0, .ref h0), (1, .int a1)]) : G_X13_drops p l e s m args below meth c g A h0 h1 h2 h3 h4 h5 h6 h7 h8 h9 h10 h11 h12 h13 x_kept x_saved x_before x_was x_region x_parts x_next x_ways x_more x_whole x_isSaved x_changes x_isWithin x_code x_input x_length x_fault x_failed x_signs x_signMany x_at x_told x_toldMany res H locs 0 ls [] := by
  have hts := E.2.2.2.1
  unfold f_X13_drops at h
  refine lv_aload_n E.1 E.2.1 dX13_drops_0 rfl (lv_at hl 0 rfl) ?_
  refine wGet (v := .ref h1) E hK in_X13_drops_X13 hW 0 lk_X13_drops_7 0 rfl rfl (by decide) rfl rfl dX13_drops_1 ?_
  refine lv_iconst (v := 3) E.1 E.2.1 dX13_drops_4 (by decide) ?_
  refine lv_dup2_11 E.1 E.2.1 dX13_drops_5 rfl rfl ?_
  refine wIald E hK hW 1 rfl (by decide) dX13_drops_6 ?_
  refine lv_iconst (v := 1) E.1 E.2.1 dX13_drops_7 (by decide) ?_
  refine lv_isub E.1 E.2.1 dX13_drops_8 ?_
  refine wIast (world' := (w_X13 g h0 h1 h2 h3 h4 h5 h6 h7 h8 h9 h10 h11 h12 h13 (upd x_g (3 : Int32).toNatClampNeg ((x_g (3 : Int32).toNatClampNeg) - 1)) x_kept x_saved x_before x_was x_region x_parts x_next x_ways x_more x_whole x_isSaved x_changes x_isWithin x_code x_input x_length x_fault x_failed x_signs x_signMany x_at x_told x_toldMany)) E hK hW 1 rfl (by decide) dX13_drops_9 rfl (fun H locs hW => ?_)
  refine lv_bipush (v := 48) E.1 E.2.1 dX13_drops_10 (by decide) ?_
  refine lv_iconst (v := 2) E.1 E.2.1 dX13_drops_12 (by decide) ?_
  refine lv_iload_n E.1 E.2.1 dX13_drops_13 rfl (lv_at hl 1 rfl) ?_
  refine lv_imul E.1 E.2.1 dX13_drops_14 ?_
  refine lv_iadd E.1 E.2.1 dX13_drops_15 ?_
  refine lv_istore_n (lv' := [(2, .int (48 + (2 * a1))), (0, .ref h0), (1, .int a1)]) E.1 E.2.1 dX13_drops_16 rfl hl (by decide) rfl (fun ls hl => ?_)
  refine k_X13_drops_17 E hK hA ?_ 1000 (48 + (2 * a1)) (upd x_g (3 : Int32).toNatClampNeg ((x_g (3 : Int32).toNatClampNeg) - 1)) H locs ls h hW (lv_sub hl [1, 0] rfl)
  · intro x_g_52e H locs ls h hW hl
    refine lv_aload_n E.1 E.2.1 dX13_drops_52 rfl (lv_at hl 0 rfl) ?_
    refine wGet (v := .ref h1) E hK in_X13_drops_X13 hW 0 lk_X13_drops_7 0 rfl rfl (by decide) rfl rfl dX13_drops_53 ?_
    refine lv_bipush (v := 48) E.1 E.2.1 dX13_drops_56 (by decide) ?_
    refine lv_iconst (v := 2) E.1 E.2.1 dX13_drops_58 (by decide) ?_
    refine lv_aload_n E.1 E.2.1 dX13_drops_59 rfl (lv_at hl 0 rfl) ?_
    refine wGet (v := .ref h1) E hK in_X13_drops_X13 hW 0 lk_X13_drops_7 0 rfl rfl (by decide) rfl rfl dX13_drops_60 ?_
    refine lv_iconst (v := 3) E.1 E.2.1 dX13_drops_63 (by decide) ?_
    refine wIald E hK hW 1 rfl (by decide) dX13_drops_64 ?_
    refine lv_imul E.1 E.2.1 dX13_drops_65 ?_
    refine lv_iadd E.1 E.2.1 dX13_drops_66 ?_
    refine lv_iconst (v := 0) E.1 E.2.1 dX13_drops_67 (by decide) ?_
    obtain ⟨hi68, h⟩ := ox h
    refine wIast (world' := (w_X13 g h0 h1 h2 h3 h4 h5 h6 h7 h8 h9 h10 h11 h12 h13 (upd x_g_52e (48 + (2 * (x_g_52e (3 : Int32).toNatClampNeg))).toNatClampNeg 0) x_kept x_saved x_before x_was x_region x_parts x_next x_ways x_more x_whole x_isSaved x_changes x_isWithin x_code x_input x_length x_fault x_failed x_signs x_signMany x_at x_told x_toldMany)) E hK hW 1 rfl hi68 dX13_drops_68 rfl (fun H locs hW => ?_)
    refine lv_aload_n E.1 E.2.1 dX13_drops_69 rfl (lv_at hl 0 rfl) ?_
    refine wGet (v := .ref h1) E hK in_X13_drops_X13 hW 0 lk_X13_drops_7 0 rfl rfl (by decide) rfl rfl dX13_drops_70 ?_
    refine lv_bipush (v := 48) E.1 E.2.1 dX13_drops_73 (by decide) ?_
    refine lv_iconst (v := 2) E.1 E.2.1 dX13_drops_75 (by decide) ?_
    refine lv_aload_n E.1 E.2.1 dX13_drops_76 rfl (lv_at hl 0 rfl) ?_
    refine wGet (v := .ref h1) E hK in_X13_drops_X13 hW 0 lk_X13_drops_7 0 rfl rfl (by decide) rfl rfl dX13_drops_77 ?_
    refine lv_iconst (v := 3) E.1 E.2.1 dX13_drops_80 (by decide) ?_
    refine wIald E hK hW 1 rfl (by decide) dX13_drops_81 ?_
    refine lv_imul E.1 E.2.1 dX13_drops_82 ?_
    refine lv_iadd E.1 E.2.1 dX13_drops_83 ?_
    refine lv_iconst (v := 1) E.1 E.2.1 dX13_drops_84 (by decide) ?_
    refine lv_iadd E.1 E.2.1 dX13_drops_85 ?_
    refine lv_iconst (v := 0) E.1 E.2.1 dX13_drops_86 (by decide) ?_
    obtain ⟨hi87, h⟩ := ox h
    refine wIast (world' := (w_X13 g h0 h1 h2 h3 h4 h5 h6 h7 h8 h9 h10 h11 h12 h13 (upd (upd x_g_52e (48 + (2 * (x_g_52e (3 : Int32).toNatClampNeg))).toNatClampNeg 0) ((48 + (2 * ((upd x_g_52e (48 + (2 * (x_g_52e (3 : Int32).toNatClampNeg))).toNatClampNeg 0) (3 : Int32).toNatClampNeg))) + 1).toNatClampNeg 0) x_kept x_saved x_before x_was x_region x_parts x_next x_ways x_more x_whole x_isSaved x_changes x_isWithin x_code x_input x_length x_fault x_failed x_signs x_signMany x_at x_told x_toldMany)) E hK hW 1 rfl hi87 dX13_drops_87 rfl (fun H locs hW => ?_)
    obtain rfl := Option.some.inj h
    exact endV E hW dX13_drops_88
theorem c_X13_drops (l : Launch) (g : GE) (h0 h1 h2 h3 h4 h5 h6 h7 h8 h9 h10 h11 h12 h13 : Nat) (x_g : Nat → Int32) (x_kept : Nat → Int32) (x_saved : Nat → Int32) (x_before : Nat → Int32) (x_was : Nat → Int32) (x_region : Nat → Int32) (x_parts : Nat → Int64) (x_next : Nat → Int64) (x_ways : Nat → Int32) (x_more : Nat → Int32) (x_whole : Int64) (x_isSaved : Int32) (x_changes : Int32) (x_isWithin : Int32) (x_code : Int32) (x_input : Nat → Int32) (x_length : Int32) (x_fault : Int32) (x_failed : Int32) (x_signs : Nat → Int32) (x_signMany : Int32) (x_at : Int32) (x_told : Nat → Int32) (x_toldMany : Int32) (a1 : Int32) {res : (Nat → Int32)} (hf : f_X13_drops x_g a1 = some res) : CV l yX13_drops wsX13_drops rm_X13_drops g [.ref h0, .int a1] (w_X13 g h0 h1 h2 h3 h4 h5 h6 h7 h8 h9 h10 h11 h12 h13 x_g x_kept x_saved x_before x_was x_region x_parts x_next x_ways x_more x_whole x_isSaved x_changes x_isWithin x_code x_input x_length x_fault x_failed x_signs x_signMany x_at x_told x_toldMany) (w_X13 g h0 h1 h2 h3 h4 h5 h6 h7 h8 h9 h10 h11 h12 h13 res x_kept x_saved x_before x_was x_region x_parts x_next x_ways x_more x_whole x_isSaved x_changes x_isWithin x_code x_input x_length x_fault x_failed x_signs x_signMany x_at x_told x_toldMany) :=
  mkV (cc := cX13_drops) (maxL := 3) (by decide) rfl (Nat.le_of_ble_eq_true rfl) (fun p e s m args below meth c A H locs ls E hK hA hW hl => k_X13_drops_0 E hK hA hf hW hl)

/-! PaperStormModel.withdraw(I)I X13_withdraw -/
abbrev rm_X13_withdraw : Room := { frames := 2, cells := 0, slots := 0, locals := 46 }
theorem in_X13_withdraw_X13 : ∀ w ∈ wsX130, w ∈ wsX13_withdraw := by decide +kernel
theorem lk_X13_withdraw_7 : Cond.fieldLink RX13 7 "PaperStormModel" "g" "[I" ∈ wsX13_withdraw := by decide +kernel
noncomputable def f_X13_withdraw (x_g : Nat → Int32) (x_kept : Nat → Int32) (x_changes : Int32) (x_isWithin : Int32) (x_code : Int32) (a1 : Int32) : Option (Int32 × (Nat → Int32) × (Nat → Int32) × Int32 × Int32) :=
  jo (fun (s1_14 : Int32) => (f_X13_fails x_code s1_14).bind fun r14 => if r14.1 = 0 then (f_X13_keeps__g x_g x_kept x_changes x_isWithin r14.2).bind fun r27 => (f_X13_drops x_g a1).bind fun r32 => some ((r32 (3 : Int32).toNatClampNeg), r32, r27.1, r27.2.1, r27.2.2) else some (0, x_g, x_kept, x_changes, r14.2)) (fun j14 => (f_X13_isForecast x_g a1).bind fun r3 => if r3 = 0 then j14 1 else j14 0)
abbrev G_X13_withdraw (p : Program) (l : Launch) (e : Env) (s : State) (m : MethodId) (args : Array Value) (below : List Frame) (meth : Method) (c : Code) (g : GE) (A : Nat → Prop) (h0 h1 h2 h3 h4 h5 h6 h7 h8 h9 h10 h11 h12 h13 : Nat) (x_saved : Nat → Int32) (x_before : Nat → Int32) (x_was : Nat → Int32) (x_region : Nat → Int32) (x_parts : Nat → Int64) (x_next : Nat → Int64) (x_ways : Nat → Int32) (x_more : Nat → Int32) (x_whole : Int64) (x_isSaved : Int32) (x_isWithin : Int32) (x_input : Nat → Int32) (x_length : Int32) (x_fault : Int32) (x_failed : Int32) (x_signs : Nat → Int32) (x_signMany : Int32) (x_at : Int32) (x_told : Nat → Int32) (x_toldMany : Int32) (res : Int32 × (Nat → Int32) × (Nat → Int32) × Int32 × Int32) (H : Heap) (locs : List Loc) (pc : Nat) (ls : Array Slot) (st : List Value) : Prop := W p l e (headSpec wsX13_withdraw rm_X13_withdraw).room s m args below meth c H locs 0 0 (MQ below (PoI g A (w_X13 g h0 h1 h2 h3 h4 h5 h6 h7 h8 h9 h10 h11 h12 h13 res.2.1 res.2.2.1 x_saved x_before x_was x_region x_parts x_next x_ways x_more x_whole x_isSaved res.2.2.2.1 x_isWithin res.2.2.2.2 x_input x_length x_fault x_failed x_signs x_signMany x_at x_told x_toldMany) res.1) args s 0 0 A) (F0 m pc ls st)
set_option maxHeartbeats 4000000 in
set_option maxRecDepth 100000 in
theorem k_X13_withdraw_0 {p : Program} {l : Launch} {e : Env} {s : State} {m : MethodId} {args : Array Value} {below : List Frame} {meth : Method} {c : Code} {g : GE} {A : Nat → Prop} {h0 h1 h2 h3 h4 h5 h6 h7 h8 h9 h10 h11 h12 h13 : Nat} {x_g : Nat → Int32} {x_kept : Nat → Int32} {x_saved : Nat → Int32} {x_before : Nat → Int32} {x_was : Nat → Int32} {x_region : Nat → Int32} {x_parts : Nat → Int64} {x_next : Nat → Int64} {x_ways : Nat → Int32} {x_more : Nat → Int32} {x_whole : Int64} {x_isSaved : Int32} {x_changes : Int32} {x_isWithin : Int32} {x_code : Int32} {x_input : Nat → Int32} {x_length : Int32} {x_fault : Int32} {x_failed : Int32} {x_signs : Nat → Int32} {x_signMany : Int32} {x_at : Int32} {x_told : Nat → Int32} {x_toldMany : Int32} {res : Int32 × (Nat → Int32) × (Nat → Int32) × Int32 × Int32} {H : Heap} {locs : List Loc} {ls : Array Slot} {a1 : Int32}
    (E : En cX13_withdraw RX13 wsX13_withdraw 2 (some .int) p s m args meth c) (hK : KK g s) (hA : ∀ q, s.heap.size ≤ q → A q) (h : f_X13_withdraw x_g x_kept x_changes x_isWithin x_code a1 = some res) (hW : Wo g A s H locs (w_X13 g h0 h1 h2 h3 h4 h5 h6 h7 h8 h9 h10 h11 h12 h13 x_g x_kept x_saved x_before x_was x_region x_parts x_next x_ways x_more x_whole x_isSaved x_changes x_isWithin x_code x_input x_length x_fault x_failed x_signs x_signMany x_at x_told x_toldMany)) (hl : lv_has ls 2 [(0, .ref h0), (1, .int a1)]) : G_X13_withdraw p l e s m args below meth c g A h0 h1 h2 h3 h4 h5 h6 h7 h8 h9 h10 h11 h12 h13 x_saved x_before x_was x_region x_parts x_next x_ways x_more x_whole x_isSaved x_isWithin x_input x_length x_fault x_failed x_signs x_signMany x_at x_told x_toldMany res H locs 0 ls [] := by
  have hts := E.2.2.2.1
  unfold f_X13_withdraw at h
  obtain ⟨j14, hj14, h⟩ := jox1 h
  have J14 : ∀ (s1_14 : Int32) (H : Heap) (locs : List Loc) (ls : Array Slot), j14 s1_14 = some res → Wo g A s H locs (w_X13 g h0 h1 h2 h3 h4 h5 h6 h7 h8 h9 h10 h11 h12 h13 x_g x_kept x_saved x_before x_was x_region x_parts x_next x_ways x_more x_whole x_isSaved x_changes x_isWithin x_code x_input x_length x_fault x_failed x_signs x_signMany x_at x_told x_toldMany) → lv_has ls 2 [(0, .ref h0), (1, .int a1)] → G_X13_withdraw p l e s m args below meth c g A h0 h1 h2 h3 h4 h5 h6 h7 h8 h9 h10 h11 h12 h13 x_saved x_before x_was x_region x_parts x_next x_ways x_more x_whole x_isSaved x_isWithin x_input x_length x_fault x_failed x_signs x_signMany x_at x_told x_toldMany res H locs 14 ls [.int s1_14, .ref h0] := by
    intro s1_14 H locs ls h hW hl
    rw [hj14] at h
    obtain ⟨r14, hc, h⟩ := bx h
    refine goI (world' := (w_X13 g h0 h1 h2 h3 h4 h5 h6 h7 h8 h9 h10 h11 h12 h13 x_g x_kept x_saved x_before x_was x_region x_parts x_next x_ways x_more x_whole x_isSaved x_changes x_isWithin r14.2 x_input x_length x_fault x_failed x_signs x_signMany x_at x_told x_toldMany)) hW hA (is := [0, 1, 2, 3, 4, 5, 6, 7, 8, 9, 10, 11, 12, 13]) rfl (goV (rest := []) E hK hW [0, 1, 2, 3, 4, 5, 6, 7, 8, 9, 10, 11, 12, 13] rfl rfl (c_X13_fails l g h0 h1 h2 h3 h4 h5 h6 h7 h8 h9 h10 h11 h12 h13 x_g x_kept x_saved x_before x_was x_region x_parts x_next x_ways x_more x_whole x_isSaved x_changes x_isWithin x_code x_input x_length x_fault x_failed x_signs x_signMany x_at x_told x_toldMany s1_14 (hf := hc) H.size) (cwV 1 hts gX13_withdraw_X13_fails rfl rfl rfl (by decide +kernel) ⟨Nat.le_of_ble_eq_true rfl, Nat.le_of_ble_eq_true rfl⟩) 0 rfl rfl rfl hl.1 rfl rfl (Nat.le_of_ble_eq_true rfl) dX13_withdraw_14 ⟨Nat.zero_le _, Nat.zero_le _⟩) rfl rfl (fun H locs hW => ?_)
    refine lv_if_eq (tgt := 22) E.1 E.2.1 dX13_withdraw_17 (by decide) (fun c17 => ?_) (fun c17 => ?_)
    · have h := it c17 h
      refine lv_aload_n E.1 E.2.1 dX13_withdraw_22 rfl (lv_at hl 0 rfl) ?_
      refine lv_aload_n E.1 E.2.1 dX13_withdraw_23 rfl (lv_at hl 0 rfl) ?_
      refine wGet (v := .ref h1) E hK in_X13_withdraw_X13 hW 0 lk_X13_withdraw_7 0 rfl rfl (by decide) rfl rfl dX13_withdraw_24 ?_
      obtain ⟨r27, hc, h⟩ := bx h
      refine goU (world' := (w_X13 g h0 h1 h2 h3 h4 h5 h6 h7 h8 h9 h10 h11 h12 h13 x_g r27.1 x_saved x_before x_was x_region x_parts x_next x_ways x_more x_whole x_isSaved r27.2.1 x_isWithin r27.2.2 x_input x_length x_fault x_failed x_signs x_signMany x_at x_told x_toldMany)) hW hA (is := [0, 1, 2, 3, 4, 5, 6, 7, 8, 9, 10, 11, 12, 13]) rfl (goV (rest := []) E hK hW [0, 1, 2, 3, 4, 5, 6, 7, 8, 9, 10, 11, 12, 13] rfl rfl (c_X13_keeps__g l g h0 h1 h2 h3 h4 h5 h6 h7 h8 h9 h10 h11 h12 h13 x_g x_kept x_saved x_before x_was x_region x_parts x_next x_ways x_more x_whole x_isSaved x_changes x_isWithin r14.2 x_input x_length x_fault x_failed x_signs x_signMany x_at x_told x_toldMany (hf := hc) H.size) (cwV 1 hts gX13_withdraw_X13_keeps rfl rfl rfl (by decide +kernel) ⟨Nat.le_of_ble_eq_true rfl, Nat.le_of_ble_eq_true rfl⟩) 0 rfl rfl rfl hl.1 rfl rfl (Nat.le_of_ble_eq_true rfl) dX13_withdraw_27 ⟨Nat.zero_le _, Nat.zero_le _⟩) rfl rfl (fun H locs hW => ?_)
      refine lv_aload_n E.1 E.2.1 dX13_withdraw_30 rfl (lv_at hl 0 rfl) ?_
      refine lv_iload_n E.1 E.2.1 dX13_withdraw_31 rfl (lv_at hl 1 rfl) ?_
      obtain ⟨r32, hc, h⟩ := bx h
      refine goU (world' := (w_X13 g h0 h1 h2 h3 h4 h5 h6 h7 h8 h9 h10 h11 h12 h13 r32 r27.1 x_saved x_before x_was x_region x_parts x_next x_ways x_more x_whole x_isSaved r27.2.1 x_isWithin r27.2.2 x_input x_length x_fault x_failed x_signs x_signMany x_at x_told x_toldMany)) hW hA (is := [0, 1, 2, 3, 4, 5, 6, 7, 8, 9, 10, 11, 12, 13]) rfl (goV (rest := []) E hK hW [0, 1, 2, 3, 4, 5, 6, 7, 8, 9, 10, 11, 12, 13] rfl rfl (c_X13_drops l g h0 h1 h2 h3 h4 h5 h6 h7 h8 h9 h10 h11 h12 h13 x_g r27.1 x_saved x_before x_was x_region x_parts x_next x_ways x_more x_whole x_isSaved r27.2.1 x_isWithin r27.2.2 x_input x_length x_fault x_failed x_signs x_signMany x_at x_told x_toldMany a1 (hf := hc) H.size) (cwV 1 hts gX13_withdraw_X13_drops rfl rfl rfl (by decide +kernel) ⟨Nat.le_of_ble_eq_true rfl, Nat.le_of_ble_eq_true rfl⟩) 0 rfl rfl rfl hl.1 rfl rfl (Nat.le_of_ble_eq_true rfl) dX13_withdraw_32 ⟨Nat.zero_le _, Nat.zero_le _⟩) rfl rfl (fun H locs hW => ?_)
      refine lv_aload_n E.1 E.2.1 dX13_withdraw_35 rfl (lv_at hl 0 rfl) ?_
      refine wGet (v := .ref h1) E hK in_X13_withdraw_X13 hW 0 lk_X13_withdraw_7 0 rfl rfl (by decide) rfl rfl dX13_withdraw_36 ?_
      refine lv_iconst (v := 3) E.1 E.2.1 dX13_withdraw_39 (by decide) ?_
      refine wIald E hK hW 1 rfl (by decide) dX13_withdraw_40 ?_
      obtain rfl := Option.some.inj h
      exact endI E rfl hW dX13_withdraw_41
    · have h := ie c17 h
      refine lv_iconst (v := 0) E.1 E.2.1 dX13_withdraw_20 (by decide) ?_
      obtain rfl := Option.some.inj h
      exact endI E rfl hW dX13_withdraw_21
  refine lv_aload_n E.1 E.2.1 dX13_withdraw_0 rfl (lv_at hl 0 rfl) ?_
  refine lv_aload_n E.1 E.2.1 dX13_withdraw_1 rfl (lv_at hl 0 rfl) ?_
  refine lv_iload_n E.1 E.2.1 dX13_withdraw_2 rfl (lv_at hl 1 rfl) ?_
  obtain ⟨r3, hc, h⟩ := bx h
  refine goI (world' := (w_X13 g h0 h1 h2 h3 h4 h5 h6 h7 h8 h9 h10 h11 h12 h13 x_g x_kept x_saved x_before x_was x_region x_parts x_next x_ways x_more x_whole x_isSaved x_changes x_isWithin x_code x_input x_length x_fault x_failed x_signs x_signMany x_at x_told x_toldMany)) hW hA (is := [0, 1, 2, 3, 4, 5, 6, 7, 8, 9, 10, 11, 12, 13]) rfl (goV (rest := [.ref h0]) E hK hW [0, 1, 2, 3, 4, 5, 6, 7, 8, 9, 10, 11, 12, 13] rfl rfl (c_X13_isForecast l g h0 h1 h2 h3 h4 h5 h6 h7 h8 h9 h10 h11 h12 h13 x_g x_kept x_saved x_before x_was x_region x_parts x_next x_ways x_more x_whole x_isSaved x_changes x_isWithin x_code x_input x_length x_fault x_failed x_signs x_signMany x_at x_told x_toldMany a1 (hf := hc) H.size) (cwV 1 hts gX13_withdraw_X13_isForecast rfl rfl rfl (by decide +kernel) ⟨Nat.le_of_ble_eq_true rfl, Nat.le_of_ble_eq_true rfl⟩) 0 rfl rfl rfl hl.1 rfl rfl (Nat.le_of_ble_eq_true rfl) dX13_withdraw_3 ⟨Nat.zero_le _, Nat.zero_le _⟩) rfl rfl (fun H locs hW => ?_)
  refine lv_if_eq (tgt := 13) E.1 E.2.1 dX13_withdraw_6 (by decide) (fun c6 => ?_) (fun c6 => ?_)
  · have h := it c6 h
    refine lv_iconst (v := 1) E.1 E.2.1 dX13_withdraw_13 (by decide) ?_
    exact J14 1 H locs ls h hW (lv_sub hl [0, 1] rfl)
  · have h := ie c6 h
    refine lv_iconst (v := 0) E.1 E.2.1 dX13_withdraw_9 (by decide) ?_
    refine lv_goto (tgt := 14) E.1 E.2.1 dX13_withdraw_10 (by decide) ?_
    exact J14 0 H locs ls h hW (lv_sub hl [0, 1] rfl)
theorem c_X13_withdraw (l : Launch) (g : GE) (h0 h1 h2 h3 h4 h5 h6 h7 h8 h9 h10 h11 h12 h13 : Nat) (x_g : Nat → Int32) (x_kept : Nat → Int32) (x_saved : Nat → Int32) (x_before : Nat → Int32) (x_was : Nat → Int32) (x_region : Nat → Int32) (x_parts : Nat → Int64) (x_next : Nat → Int64) (x_ways : Nat → Int32) (x_more : Nat → Int32) (x_whole : Int64) (x_isSaved : Int32) (x_changes : Int32) (x_isWithin : Int32) (x_code : Int32) (x_input : Nat → Int32) (x_length : Int32) (x_fault : Int32) (x_failed : Int32) (x_signs : Nat → Int32) (x_signMany : Int32) (x_at : Int32) (x_told : Nat → Int32) (x_toldMany : Int32) (a1 : Int32) {res : Int32 × (Nat → Int32) × (Nat → Int32) × Int32 × Int32} (hf : f_X13_withdraw x_g x_kept x_changes x_isWithin x_code a1 = some res) : CI l yX13_withdraw wsX13_withdraw rm_X13_withdraw g [.ref h0, .int a1] (w_X13 g h0 h1 h2 h3 h4 h5 h6 h7 h8 h9 h10 h11 h12 h13 x_g x_kept x_saved x_before x_was x_region x_parts x_next x_ways x_more x_whole x_isSaved x_changes x_isWithin x_code x_input x_length x_fault x_failed x_signs x_signMany x_at x_told x_toldMany) (w_X13 g h0 h1 h2 h3 h4 h5 h6 h7 h8 h9 h10 h11 h12 h13 res.2.1 res.2.2.1 x_saved x_before x_was x_region x_parts x_next x_ways x_more x_whole x_isSaved res.2.2.2.1 x_isWithin res.2.2.2.2 x_input x_length x_fault x_failed x_signs x_signMany x_at x_told x_toldMany) res.1 :=
  mkI (cc := cX13_withdraw) (maxL := 2) (by decide) rfl (Nat.le_of_ble_eq_true rfl) (fun p e s m args below meth c A H locs ls E hK hA hW hl => k_X13_withdraw_0 E hK hA hf hW hl)

/-! PaperStormModel.observe(I)I X13_observe -/
abbrev rm_X13_observe : Room := { frames := 2, cells := 0, slots := 0, locals := 46 }
theorem in_X13_observe_X13 : ∀ w ∈ wsX130, w ∈ wsX13_observe := by decide +kernel
theorem lk_X13_observe_7 : Cond.fieldLink RX13 7 "PaperStormModel" "g" "[I" ∈ wsX13_observe := by decide +kernel
noncomputable def f_X13_observe_85 (l1 : Int32) (z175 : Int32 → (Nat → Int32) → Option (Int32 × (Nat → Int32) × (Nat → Int32) × Int32 × Int32)) : Nat → Int32 → Int32 → (Nat → Int32) → Option (Int32 × (Nat → Int32) × (Nat → Int32) × Int32 × Int32)
  | 0, _, _, _ => none
  | n + 1, l3_85, l4_85, x_g_85 => if (x_g_85 (3 : Int32).toNatClampNeg) ≤ l4_85 then z175 l3_85 x_g_85 else (f_X13_of x_g_85 l4_85 0).bind fun r100 => if r100 = (x_g_85 (0 : Int32).toNatClampNeg) then jo (fun (l3_158 : Int32) (x_g_158 : Nat → Int32) (s1_158 : Int32) (s2_158 : Int32) (s3_158 : Int32) => if s1_158 < 0 ∨ 60 ≤ s1_158.toNatClampNeg then none else (f_X13_drops (upd x_g_158 s1_158.toNatClampNeg (s2_158 + s3_158)) l4_85).bind fun r163 => f_X13_observe_85 l1 z175 n l3_158 l4_85 r163) (fun j158 => (f_X13_of x_g_85 l4_85 1).bind fun r116 => (f_X13_apart r116 l1).bind fun r120 => if r120 = 0 then j158 (l3_85 + r120) (upd x_g_85 (4 : Int32).toNatClampNeg ((x_g_85 (4 : Int32).toNatClampNeg) + 1)) 6 ((upd x_g_85 (4 : Int32).toNatClampNeg ((x_g_85 (4 : Int32).toNatClampNeg) + 1)) (6 : Int32).toNatClampNeg) 1 else j158 (l3_85 + r120) (upd x_g_85 (4 : Int32).toNatClampNeg ((x_g_85 (4 : Int32).toNatClampNeg) + 1)) 6 ((upd x_g_85 (4 : Int32).toNatClampNeg ((x_g_85 (4 : Int32).toNatClampNeg) + 1)) (6 : Int32).toNatClampNeg) 0) else f_X13_observe_85 l1 z175 n l3_85 (l4_85 + 1) x_g_85
noncomputable def f_X13_observe (x_g : Nat → Int32) (x_kept : Nat → Int32) (x_changes : Int32) (x_isWithin : Int32) (x_code : Int32) (a1 : Int32) : Option (Int32 × (Nat → Int32) × (Nat → Int32) × Int32 × Int32) :=
  jo (fun (s1_13 : Int32) => (f_X13_fails x_code s1_13).bind fun r13 => if r13.1 = 0 then jo (fun (x_g_63 : Nat → Int32) (x_kept_63 : Nat → Int32) (x_changes_63 : Int32) (x_code_63 : Int32) => f_X13_observe_85 a1 (fun l3_175e x_g_175e => some (l3_175e, (upd x_g_175e (5 : Int32).toNatClampNeg ((x_g_175e (5 : Int32).toNatClampNeg) + l3_175e)), x_kept_63, x_changes_63, x_code_63)) 1000 0 0 (upd (upd x_g_63 (0 : Int32).toNatClampNeg ((x_g_63 (0 : Int32).toNatClampNeg) + 1)) (1 : Int32).toNatClampNeg a1)) (fun j63 => (f_X13_keeps__g x_g x_kept x_changes x_isWithin r13.2).bind fun r26 => if ((32 + (4 * (x_g (1 : Int32).toNatClampNeg))) + a1) < 0 ∨ 60 ≤ ((32 + (4 * (x_g (1 : Int32).toNatClampNeg))) + a1).toNatClampNeg then none else if 3 ≤ (x_g ((32 + (4 * (x_g (1 : Int32).toNatClampNeg))) + a1).toNatClampNeg) then j63 x_g r26.1 r26.2.1 r26.2.2 else j63 (upd x_g ((32 + (4 * (x_g (1 : Int32).toNatClampNeg))) + a1).toNatClampNeg ((x_g ((32 + (4 * (x_g (1 : Int32).toNatClampNeg))) + a1).toNatClampNeg) + 1)) r26.1 r26.2.1 r26.2.2) else some (0, x_g, x_kept, x_changes, r13.2)) (fun j13 => (f_X13_isSort a1).bind fun r2 => if r2 = 0 then j13 1 else j13 0)
abbrev G_X13_observe (p : Program) (l : Launch) (e : Env) (s : State) (m : MethodId) (args : Array Value) (below : List Frame) (meth : Method) (c : Code) (g : GE) (A : Nat → Prop) (h0 h1 h2 h3 h4 h5 h6 h7 h8 h9 h10 h11 h12 h13 : Nat) (x_saved : Nat → Int32) (x_before : Nat → Int32) (x_was : Nat → Int32) (x_region : Nat → Int32) (x_parts : Nat → Int64) (x_next : Nat → Int64) (x_ways : Nat → Int32) (x_more : Nat → Int32) (x_whole : Int64) (x_isSaved : Int32) (x_isWithin : Int32) (x_input : Nat → Int32) (x_length : Int32) (x_fault : Int32) (x_failed : Int32) (x_signs : Nat → Int32) (x_signMany : Int32) (x_at : Int32) (x_told : Nat → Int32) (x_toldMany : Int32) (res : Int32 × (Nat → Int32) × (Nat → Int32) × Int32 × Int32) (H : Heap) (locs : List Loc) (pc : Nat) (ls : Array Slot) (st : List Value) : Prop := W p l e (headSpec wsX13_observe rm_X13_observe).room s m args below meth c H locs 0 0 (MQ below (PoI g A (w_X13 g h0 h1 h2 h3 h4 h5 h6 h7 h8 h9 h10 h11 h12 h13 res.2.1 res.2.2.1 x_saved x_before x_was x_region x_parts x_next x_ways x_more x_whole x_isSaved res.2.2.2.1 x_isWithin res.2.2.2.2 x_input x_length x_fault x_failed x_signs x_signMany x_at x_told x_toldMany) res.1) args s 0 0 A) (F0 m pc ls st)
set_option maxHeartbeats 4000000 in
set_option maxRecDepth 100000 in
theorem k_X13_observe_85 {p : Program} {l : Launch} {e : Env} {s : State} {m : MethodId} {args : Array Value} {below : List Frame} {meth : Method} {c : Code} {g : GE} {A : Nat → Prop} {h0 h1 h2 h3 h4 h5 h6 h7 h8 h9 h10 h11 h12 h13 : Nat} {x_kept : Nat → Int32} {x_saved : Nat → Int32} {x_before : Nat → Int32} {x_was : Nat → Int32} {x_region : Nat → Int32} {x_parts : Nat → Int64} {x_next : Nat → Int64} {x_ways : Nat → Int32} {x_more : Nat → Int32} {x_whole : Int64} {x_isSaved : Int32} {x_changes : Int32} {x_isWithin : Int32} {x_code : Int32} {x_input : Nat → Int32} {x_length : Int32} {x_fault : Int32} {x_failed : Int32} {x_signs : Nat → Int32} {x_signMany : Int32} {x_at : Int32} {x_told : Nat → Int32} {x_toldMany : Int32} {res : Int32 × (Nat → Int32) × (Nat → Int32) × Int32 × Int32} {l1 : Int32} {z175 : Int32 → (Nat → Int32) → Option (Int32 × (Nat → Int32) × (Nat → Int32) × Int32 × Int32)}
    (E : En cX13_observe RX13 wsX13_observe 6 (some .int) p s m args meth c) (hK : KK g s) (hA : ∀ q, s.heap.size ≤ q → A q)
    (hz175 : ∀ (l3_175e : Int32) (x_g_175e : Nat → Int32) (H : Heap) (locs : List Loc) (ls : Array Slot), z175 l3_175e x_g_175e = some res → Wo g A s H locs (w_X13 g h0 h1 h2 h3 h4 h5 h6 h7 h8 h9 h10 h11 h12 h13 x_g_175e x_kept x_saved x_before x_was x_region x_parts x_next x_ways x_more x_whole x_isSaved x_changes x_isWithin x_code x_input x_length x_fault x_failed x_signs x_signMany x_at x_told x_toldMany) → lv_has ls 6 [(0, .ref h0), (3, .int l3_175e)] → G_X13_observe p l e s m args below meth c g A h0 h1 h2 h3 h4 h5 h6 h7 h8 h9 h10 h11 h12 h13 x_saved x_before x_was x_region x_parts x_next x_ways x_more x_whole x_isSaved x_isWithin x_input x_length x_fault x_failed x_signs x_signMany x_at x_told x_toldMany res H locs 175 ls [])
    : ∀ (n : Nat) (l3_85 : Int32) (l4_85 : Int32) (x_g_85 : Nat → Int32) (H : Heap) (locs : List Loc) (ls : Array Slot), f_X13_observe_85 l1 z175 n l3_85 l4_85 x_g_85 = some res → Wo g A s H locs (w_X13 g h0 h1 h2 h3 h4 h5 h6 h7 h8 h9 h10 h11 h12 h13 x_g_85 x_kept x_saved x_before x_was x_region x_parts x_next x_ways x_more x_whole x_isSaved x_changes x_isWithin x_code x_input x_length x_fault x_failed x_signs x_signMany x_at x_told x_toldMany) → lv_has ls 6 [(0, .ref h0), (1, .int l1), (3, .int l3_85), (4, .int l4_85)] → G_X13_observe p l e s m args below meth c g A h0 h1 h2 h3 h4 h5 h6 h7 h8 h9 h10 h11 h12 h13 x_saved x_before x_was x_region x_parts x_next x_ways x_more x_whole x_isSaved x_isWithin x_input x_length x_fault x_failed x_signs x_signMany x_at x_told x_toldMany res H locs 85 ls [] := by
  have hts := E.2.2.2.1
  intro n
  induction n with
  | zero => intro l3_85 l4_85 x_g_85 H locs ls h hW hl; rw [f_X13_observe_85] at h; cases h
  | succ n ih =>
    intro l3_85 l4_85 x_g_85 H locs ls h hW hl
    rw [f_X13_observe_85] at h
    refine lv_iload E.1 E.2.1 dX13_observe_85 (lv_at hl 3 rfl) ?_
    refine lv_aload_n E.1 E.2.1 dX13_observe_87 rfl (lv_at hl 0 rfl) ?_
    refine wGet (v := .ref h1) E hK in_X13_observe_X13 hW 0 lk_X13_observe_7 0 rfl rfl (by decide) rfl rfl dX13_observe_88 ?_
    refine lv_iconst (v := 3) E.1 E.2.1 dX13_observe_91 (by decide) ?_
    refine wIald E hK hW 1 rfl (by decide) dX13_observe_92 ?_
    refine lv_icmp_ge (tgt := 175) E.1 E.2.1 dX13_observe_93 (by decide) (fun c93 => ?_) (fun c93 => ?_)
    · have h := it c93 h
      exact hz175 l3_85 x_g_85 H locs ls h hW (lv_sub hl [0, 2] rfl)
    · have h := ie c93 h
      refine lv_aload_n E.1 E.2.1 dX13_observe_96 rfl (lv_at hl 0 rfl) ?_
      refine lv_iload E.1 E.2.1 dX13_observe_97 (lv_at hl 3 rfl) ?_
      refine lv_iconst (v := 0) E.1 E.2.1 dX13_observe_99 (by decide) ?_
      obtain ⟨r100, hc, h⟩ := bx h
      refine goI (world' := (w_X13 g h0 h1 h2 h3 h4 h5 h6 h7 h8 h9 h10 h11 h12 h13 x_g_85 x_kept x_saved x_before x_was x_region x_parts x_next x_ways x_more x_whole x_isSaved x_changes x_isWithin x_code x_input x_length x_fault x_failed x_signs x_signMany x_at x_told x_toldMany)) hW hA (is := [0, 1, 2, 3, 4, 5, 6, 7, 8, 9, 10, 11, 12, 13]) rfl (goV (rest := []) E hK hW [0, 1, 2, 3, 4, 5, 6, 7, 8, 9, 10, 11, 12, 13] rfl rfl (c_X13_of l g h0 h1 h2 h3 h4 h5 h6 h7 h8 h9 h10 h11 h12 h13 x_g_85 x_kept x_saved x_before x_was x_region x_parts x_next x_ways x_more x_whole x_isSaved x_changes x_isWithin x_code x_input x_length x_fault x_failed x_signs x_signMany x_at x_told x_toldMany l4_85 0 (hf := hc) H.size) (cwV 2 hts gX13_observe_X13_of rfl rfl rfl (by decide +kernel) ⟨Nat.le_of_ble_eq_true rfl, Nat.le_of_ble_eq_true rfl⟩) 0 rfl rfl rfl hl.1 rfl rfl (Nat.le_of_ble_eq_true rfl) dX13_observe_100 ⟨Nat.zero_le _, Nat.zero_le _⟩) rfl rfl (fun H locs hW => ?_)
      refine lv_aload_n E.1 E.2.1 dX13_observe_103 rfl (lv_at hl 0 rfl) ?_
      refine wGet (v := .ref h1) E hK in_X13_observe_X13 hW 0 lk_X13_observe_7 0 rfl rfl (by decide) rfl rfl dX13_observe_104 ?_
      refine lv_iconst (v := 0) E.1 E.2.1 dX13_observe_107 (by decide) ?_
      refine wIald E hK hW 1 rfl (by decide) dX13_observe_108 ?_
      refine lv_icmp_ne (tgt := 169) E.1 E.2.1 dX13_observe_109 (by decide) (fun c109 => ?_) (fun c109 => ?_)
      · have h := ie c109 h
        refine lv_iinc (v := (l4_85 + 1)) (lv' := [(4, .int (l4_85 + 1)), (0, .ref h0), (1, .int l1), (3, .int l3_85)]) E.1 E.2.1 dX13_observe_169 hl (k := 3) rfl rfl (by decide) rfl (fun ls hl => ?_)
        refine lv_goto (tgt := 85) E.1 E.2.1 dX13_observe_172 (by decide) ?_
        exact ih l3_85 (l4_85 + 1) x_g_85 H locs ls h hW (lv_sub hl [1, 2, 3, 0] rfl)
      · have h := it c109 h
        obtain ⟨j158, hj158, h⟩ := jox5 h
        have J158 : ∀ (l3_158 : Int32) (x_g_158 : Nat → Int32) (s1_158 : Int32) (s2_158 : Int32) (s3_158 : Int32) (H : Heap) (locs : List Loc) (ls : Array Slot), j158 l3_158 x_g_158 s1_158 s2_158 s3_158 = some res → Wo g A s H locs (w_X13 g h0 h1 h2 h3 h4 h5 h6 h7 h8 h9 h10 h11 h12 h13 x_g_158 x_kept x_saved x_before x_was x_region x_parts x_next x_ways x_more x_whole x_isSaved x_changes x_isWithin x_code x_input x_length x_fault x_failed x_signs x_signMany x_at x_told x_toldMany) → lv_has ls 6 [(0, .ref h0), (1, .int l1), (3, .int l3_158), (4, .int l4_85)] → G_X13_observe p l e s m args below meth c g A h0 h1 h2 h3 h4 h5 h6 h7 h8 h9 h10 h11 h12 h13 x_saved x_before x_was x_region x_parts x_next x_ways x_more x_whole x_isSaved x_isWithin x_input x_length x_fault x_failed x_signs x_signMany x_at x_told x_toldMany res H locs 158 ls [.int s3_158, .int s2_158, .int s1_158, .ref h1] := by
          intro l3_158 x_g_158 s1_158 s2_158 s3_158 H locs ls h hW hl
          rw [hj158] at h
          refine lv_iadd E.1 E.2.1 dX13_observe_158 ?_
          obtain ⟨hi159, h⟩ := ox h
          refine wIast (world' := (w_X13 g h0 h1 h2 h3 h4 h5 h6 h7 h8 h9 h10 h11 h12 h13 (upd x_g_158 s1_158.toNatClampNeg (s2_158 + s3_158)) x_kept x_saved x_before x_was x_region x_parts x_next x_ways x_more x_whole x_isSaved x_changes x_isWithin x_code x_input x_length x_fault x_failed x_signs x_signMany x_at x_told x_toldMany)) E hK hW 1 rfl hi159 dX13_observe_159 rfl (fun H locs hW => ?_)
          refine lv_aload_n E.1 E.2.1 dX13_observe_160 rfl (lv_at hl 0 rfl) ?_
          refine lv_iload E.1 E.2.1 dX13_observe_161 (lv_at hl 3 rfl) ?_
          obtain ⟨r163, hc, h⟩ := bx h
          refine goU (world' := (w_X13 g h0 h1 h2 h3 h4 h5 h6 h7 h8 h9 h10 h11 h12 h13 r163 x_kept x_saved x_before x_was x_region x_parts x_next x_ways x_more x_whole x_isSaved x_changes x_isWithin x_code x_input x_length x_fault x_failed x_signs x_signMany x_at x_told x_toldMany)) hW hA (is := [0, 1, 2, 3, 4, 5, 6, 7, 8, 9, 10, 11, 12, 13]) rfl (goV (rest := []) E hK hW [0, 1, 2, 3, 4, 5, 6, 7, 8, 9, 10, 11, 12, 13] rfl rfl (c_X13_drops l g h0 h1 h2 h3 h4 h5 h6 h7 h8 h9 h10 h11 h12 h13 (upd x_g_158 s1_158.toNatClampNeg (s2_158 + s3_158)) x_kept x_saved x_before x_was x_region x_parts x_next x_ways x_more x_whole x_isSaved x_changes x_isWithin x_code x_input x_length x_fault x_failed x_signs x_signMany x_at x_told x_toldMany l4_85 (hf := hc) H.size) (cwV 1 hts gX13_observe_X13_drops rfl rfl rfl (by decide +kernel) ⟨Nat.le_of_ble_eq_true rfl, Nat.le_of_ble_eq_true rfl⟩) 0 rfl rfl rfl hl.1 rfl rfl (Nat.le_of_ble_eq_true rfl) dX13_observe_163 ⟨Nat.zero_le _, Nat.zero_le _⟩) rfl rfl (fun H locs hW => ?_)
          refine lv_goto (tgt := 85) E.1 E.2.1 dX13_observe_166 (by decide) ?_
          exact ih l3_158 l4_85 r163 H locs ls h hW (lv_sub hl [0, 1, 2, 3] rfl)
        refine lv_aload_n E.1 E.2.1 dX13_observe_112 rfl (lv_at hl 0 rfl) ?_
        refine lv_iload E.1 E.2.1 dX13_observe_113 (lv_at hl 3 rfl) ?_
        refine lv_iconst (v := 1) E.1 E.2.1 dX13_observe_115 (by decide) ?_
        obtain ⟨r116, hc, h⟩ := bx h
        refine goI (world' := (w_X13 g h0 h1 h2 h3 h4 h5 h6 h7 h8 h9 h10 h11 h12 h13 x_g_85 x_kept x_saved x_before x_was x_region x_parts x_next x_ways x_more x_whole x_isSaved x_changes x_isWithin x_code x_input x_length x_fault x_failed x_signs x_signMany x_at x_told x_toldMany)) hW hA (is := [0, 1, 2, 3, 4, 5, 6, 7, 8, 9, 10, 11, 12, 13]) rfl (goV (rest := []) E hK hW [0, 1, 2, 3, 4, 5, 6, 7, 8, 9, 10, 11, 12, 13] rfl rfl (c_X13_of l g h0 h1 h2 h3 h4 h5 h6 h7 h8 h9 h10 h11 h12 h13 x_g_85 x_kept x_saved x_before x_was x_region x_parts x_next x_ways x_more x_whole x_isSaved x_changes x_isWithin x_code x_input x_length x_fault x_failed x_signs x_signMany x_at x_told x_toldMany l4_85 1 (hf := hc) H.size) (cwV 2 hts gX13_observe_X13_of rfl rfl rfl (by decide +kernel) ⟨Nat.le_of_ble_eq_true rfl, Nat.le_of_ble_eq_true rfl⟩) 0 rfl rfl rfl hl.1 rfl rfl (Nat.le_of_ble_eq_true rfl) dX13_observe_116 ⟨Nat.zero_le _, Nat.zero_le _⟩) rfl rfl (fun H locs hW => ?_)
        refine lv_iload_n E.1 E.2.1 dX13_observe_119 rfl (lv_at hl 1 rfl) ?_
        obtain ⟨r120, hc, h⟩ := bx h
        refine goI (world' := (w_X13 g h0 h1 h2 h3 h4 h5 h6 h7 h8 h9 h10 h11 h12 h13 x_g_85 x_kept x_saved x_before x_was x_region x_parts x_next x_ways x_more x_whole x_isSaved x_changes x_isWithin x_code x_input x_length x_fault x_failed x_signs x_signMany x_at x_told x_toldMany)) hW hA (is := []) rfl (goS (rest := []) E hK hW [] rfl rfl (c_X13_apart l g r116 l1 (hf := hc) H.size) (va_cwS 2 hts gX13_observe_X13_apart rfl rfl rfl (by decide +kernel) ⟨Nat.le_of_ble_eq_true rfl, Nat.le_of_ble_eq_true rfl⟩) hl.1 rfl rfl (Nat.le_of_ble_eq_true rfl) dX13_observe_120 ⟨Nat.zero_le _, Nat.zero_le _⟩) rfl rfl (fun H locs hW => ?_)
        refine lv_istore (lv' := [(5, .int r120), (0, .ref h0), (1, .int l1), (3, .int l3_85), (4, .int l4_85)]) E.1 E.2.1 dX13_observe_123 hl (by decide) rfl (fun ls hl => ?_)
        refine lv_iload_n E.1 E.2.1 dX13_observe_125 rfl (lv_at hl 3 rfl) ?_
        refine lv_iload E.1 E.2.1 dX13_observe_126 (lv_at hl 0 rfl) ?_
        refine lv_iadd E.1 E.2.1 dX13_observe_128 ?_
        refine lv_istore_n (lv' := [(3, .int (l3_85 + r120)), (5, .int r120), (0, .ref h0), (1, .int l1), (4, .int l4_85)]) E.1 E.2.1 dX13_observe_129 rfl hl (by decide) rfl (fun ls hl => ?_)
        refine lv_aload_n E.1 E.2.1 dX13_observe_130 rfl (lv_at hl 2 rfl) ?_
        refine wGet (v := .ref h1) E hK in_X13_observe_X13 hW 0 lk_X13_observe_7 0 rfl rfl (by decide) rfl rfl dX13_observe_131 ?_
        refine lv_iconst (v := 4) E.1 E.2.1 dX13_observe_134 (by decide) ?_
        refine lv_dup2_11 E.1 E.2.1 dX13_observe_135 rfl rfl ?_
        refine wIald E hK hW 1 rfl (by decide) dX13_observe_136 ?_
        refine lv_iconst (v := 1) E.1 E.2.1 dX13_observe_137 (by decide) ?_
        refine lv_iadd E.1 E.2.1 dX13_observe_138 ?_
        refine wIast (world' := (w_X13 g h0 h1 h2 h3 h4 h5 h6 h7 h8 h9 h10 h11 h12 h13 (upd x_g_85 (4 : Int32).toNatClampNeg ((x_g_85 (4 : Int32).toNatClampNeg) + 1)) x_kept x_saved x_before x_was x_region x_parts x_next x_ways x_more x_whole x_isSaved x_changes x_isWithin x_code x_input x_length x_fault x_failed x_signs x_signMany x_at x_told x_toldMany)) E hK hW 1 rfl (by decide) dX13_observe_139 rfl (fun H locs hW => ?_)
        refine lv_aload_n E.1 E.2.1 dX13_observe_140 rfl (lv_at hl 2 rfl) ?_
        refine wGet (v := .ref h1) E hK in_X13_observe_X13 hW 0 lk_X13_observe_7 0 rfl rfl (by decide) rfl rfl dX13_observe_141 ?_
        refine lv_bipush (v := 6) E.1 E.2.1 dX13_observe_144 (by decide) ?_
        refine lv_dup2_11 E.1 E.2.1 dX13_observe_146 rfl rfl ?_
        refine wIald E hK hW 1 rfl (by decide) dX13_observe_147 ?_
        refine lv_iload E.1 E.2.1 dX13_observe_148 (lv_at hl 1 rfl) ?_
        refine lv_if_ne (tgt := 157) E.1 E.2.1 dX13_observe_150 (by decide) (fun c150 => ?_) (fun c150 => ?_)
        · have h := ie c150 h
          refine lv_iconst (v := 0) E.1 E.2.1 dX13_observe_157 (by decide) ?_
          exact J158 (l3_85 + r120) (upd x_g_85 (4 : Int32).toNatClampNeg ((x_g_85 (4 : Int32).toNatClampNeg) + 1)) 6 ((upd x_g_85 (4 : Int32).toNatClampNeg ((x_g_85 (4 : Int32).toNatClampNeg) + 1)) (6 : Int32).toNatClampNeg) 0 H locs ls h hW (lv_sub hl [2, 3, 0, 4] rfl)
        · have h := it c150 h
          refine lv_iconst (v := 1) E.1 E.2.1 dX13_observe_153 (by decide) ?_
          refine lv_goto (tgt := 158) E.1 E.2.1 dX13_observe_154 (by decide) ?_
          exact J158 (l3_85 + r120) (upd x_g_85 (4 : Int32).toNatClampNeg ((x_g_85 (4 : Int32).toNatClampNeg) + 1)) 6 ((upd x_g_85 (4 : Int32).toNatClampNeg ((x_g_85 (4 : Int32).toNatClampNeg) + 1)) (6 : Int32).toNatClampNeg) 1 H locs ls h hW (lv_sub hl [2, 3, 0, 4] rfl)
set_option maxHeartbeats 4000000 in
set_option maxRecDepth 100000 in
theorem k_X13_observe_0 {p : Program} {l : Launch} {e : Env} {s : State} {m : MethodId} {args : Array Value} {below : List Frame} {meth : Method} {c : Code} {g : GE} {A : Nat → Prop} {h0 h1 h2 h3 h4 h5 h6 h7 h8 h9 h10 h11 h12 h13 : Nat} {x_g : Nat → Int32} {x_kept : Nat → Int32} {x_saved : Nat → Int32} {x_before : Nat → Int32} {x_was : Nat → Int32} {x_region : Nat → Int32} {x_parts : Nat → Int64} {x_next : Nat → Int64} {x_ways : Nat → Int32} {x_more : Nat → Int32} {x_whole : Int64} {x_isSaved : Int32} {x_changes : Int32} {x_isWithin : Int32} {x_code : Int32} {x_input : Nat → Int32} {x_length : Int32} {x_fault : Int32} {x_failed : Int32} {x_signs : Nat → Int32} {x_signMany : Int32} {x_at : Int32} {x_told : Nat → Int32} {x_toldMany : Int32} {res : Int32 × (Nat → Int32) × (Nat → Int32) × Int32 × Int32} {H : Heap} {locs : List Loc} {ls : Array Slot} {a1 : Int32}
    (E : En cX13_observe RX13 wsX13_observe 6 (some .int) p s m args meth c) (hK : KK g s) (hA : ∀ q, s.heap.size ≤ q → A q) (h : f_X13_observe x_g x_kept x_changes x_isWithin x_code a1 = some res) (hW : Wo g A s H locs (w_X13 g h0 h1 h2 h3 h4 h5 h6 h7 h8 h9 h10 h11 h12 h13 x_g x_kept x_saved x_before x_was x_region x_parts x_next x_ways x_more x_whole x_isSaved x_changes x_isWithin x_code x_input x_length x_fault x_failed x_signs x_signMany x_at x_told x_toldMany)) (hl : lv_has ls 6 [(0, .ref h0), (1, .int a1)]) : G_X13_observe p l e s m args below meth c g A h0 h1 h2 h3 h4 h5 h6 h7 h8 h9 h10 h11 h12 h13 x_saved x_before x_was x_region x_parts x_next x_ways x_more x_whole x_isSaved x_isWithin x_input x_length x_fault x_failed x_signs x_signMany x_at x_told x_toldMany res H locs 0 ls [] := by
  have hts := E.2.2.2.1
  unfold f_X13_observe at h
  obtain ⟨j13, hj13, h⟩ := jox1 h
  have J13 : ∀ (s1_13 : Int32) (H : Heap) (locs : List Loc) (ls : Array Slot), j13 s1_13 = some res → Wo g A s H locs (w_X13 g h0 h1 h2 h3 h4 h5 h6 h7 h8 h9 h10 h11 h12 h13 x_g x_kept x_saved x_before x_was x_region x_parts x_next x_ways x_more x_whole x_isSaved x_changes x_isWithin x_code x_input x_length x_fault x_failed x_signs x_signMany x_at x_told x_toldMany) → lv_has ls 6 [(0, .ref h0), (1, .int a1)] → G_X13_observe p l e s m args below meth c g A h0 h1 h2 h3 h4 h5 h6 h7 h8 h9 h10 h11 h12 h13 x_saved x_before x_was x_region x_parts x_next x_ways x_more x_whole x_isSaved x_isWithin x_input x_length x_fault x_failed x_signs x_signMany x_at x_told x_toldMany res H locs 13 ls [.int s1_13, .ref h0] := by
    intro s1_13 H locs ls h hW hl
    rw [hj13] at h
    obtain ⟨r13, hc, h⟩ := bx h
    refine goI (world' := (w_X13 g h0 h1 h2 h3 h4 h5 h6 h7 h8 h9 h10 h11 h12 h13 x_g x_kept x_saved x_before x_was x_region x_parts x_next x_ways x_more x_whole x_isSaved x_changes x_isWithin r13.2 x_input x_length x_fault x_failed x_signs x_signMany x_at x_told x_toldMany)) hW hA (is := [0, 1, 2, 3, 4, 5, 6, 7, 8, 9, 10, 11, 12, 13]) rfl (goV (rest := []) E hK hW [0, 1, 2, 3, 4, 5, 6, 7, 8, 9, 10, 11, 12, 13] rfl rfl (c_X13_fails l g h0 h1 h2 h3 h4 h5 h6 h7 h8 h9 h10 h11 h12 h13 x_g x_kept x_saved x_before x_was x_region x_parts x_next x_ways x_more x_whole x_isSaved x_changes x_isWithin x_code x_input x_length x_fault x_failed x_signs x_signMany x_at x_told x_toldMany s1_13 (hf := hc) H.size) (cwV 1 hts gX13_observe_X13_fails rfl rfl rfl (by decide +kernel) ⟨Nat.le_of_ble_eq_true rfl, Nat.le_of_ble_eq_true rfl⟩) 0 rfl rfl rfl hl.1 rfl rfl (Nat.le_of_ble_eq_true rfl) dX13_observe_13 ⟨Nat.zero_le _, Nat.zero_le _⟩) rfl rfl (fun H locs hW => ?_)
    refine lv_if_eq (tgt := 21) E.1 E.2.1 dX13_observe_16 (by decide) (fun c16 => ?_) (fun c16 => ?_)
    · have h := it c16 h
      obtain ⟨j63, hj63, h⟩ := jox4 h
      have J63 : ∀ (x_g_63 : Nat → Int32) (x_kept_63 : Nat → Int32) (x_changes_63 : Int32) (x_code_63 : Int32) (H : Heap) (locs : List Loc) (ls : Array Slot), j63 x_g_63 x_kept_63 x_changes_63 x_code_63 = some res → Wo g A s H locs (w_X13 g h0 h1 h2 h3 h4 h5 h6 h7 h8 h9 h10 h11 h12 h13 x_g_63 x_kept_63 x_saved x_before x_was x_region x_parts x_next x_ways x_more x_whole x_isSaved x_changes_63 x_isWithin x_code_63 x_input x_length x_fault x_failed x_signs x_signMany x_at x_told x_toldMany) → lv_has ls 6 [(0, .ref h0), (1, .int a1)] → G_X13_observe p l e s m args below meth c g A h0 h1 h2 h3 h4 h5 h6 h7 h8 h9 h10 h11 h12 h13 x_saved x_before x_was x_region x_parts x_next x_ways x_more x_whole x_isSaved x_isWithin x_input x_length x_fault x_failed x_signs x_signMany x_at x_told x_toldMany res H locs 63 ls [] := by
        intro x_g_63 x_kept_63 x_changes_63 x_code_63 H locs ls h hW hl
        rw [hj63] at h
        refine lv_aload_n E.1 E.2.1 dX13_observe_63 rfl (lv_at hl 0 rfl) ?_
        refine wGet (v := .ref h1) E hK in_X13_observe_X13 hW 0 lk_X13_observe_7 0 rfl rfl (by decide) rfl rfl dX13_observe_64 ?_
        refine lv_iconst (v := 0) E.1 E.2.1 dX13_observe_67 (by decide) ?_
        refine lv_dup2_11 E.1 E.2.1 dX13_observe_68 rfl rfl ?_
        refine wIald E hK hW 1 rfl (by decide) dX13_observe_69 ?_
        refine lv_iconst (v := 1) E.1 E.2.1 dX13_observe_70 (by decide) ?_
        refine lv_iadd E.1 E.2.1 dX13_observe_71 ?_
        refine wIast (world' := (w_X13 g h0 h1 h2 h3 h4 h5 h6 h7 h8 h9 h10 h11 h12 h13 (upd x_g_63 (0 : Int32).toNatClampNeg ((x_g_63 (0 : Int32).toNatClampNeg) + 1)) x_kept_63 x_saved x_before x_was x_region x_parts x_next x_ways x_more x_whole x_isSaved x_changes_63 x_isWithin x_code_63 x_input x_length x_fault x_failed x_signs x_signMany x_at x_told x_toldMany)) E hK hW 1 rfl (by decide) dX13_observe_72 rfl (fun H locs hW => ?_)
        refine lv_aload_n E.1 E.2.1 dX13_observe_73 rfl (lv_at hl 0 rfl) ?_
        refine wGet (v := .ref h1) E hK in_X13_observe_X13 hW 0 lk_X13_observe_7 0 rfl rfl (by decide) rfl rfl dX13_observe_74 ?_
        refine lv_iconst (v := 1) E.1 E.2.1 dX13_observe_77 (by decide) ?_
        refine lv_iload_n E.1 E.2.1 dX13_observe_78 rfl (lv_at hl 1 rfl) ?_
        refine wIast (world' := (w_X13 g h0 h1 h2 h3 h4 h5 h6 h7 h8 h9 h10 h11 h12 h13 (upd (upd x_g_63 (0 : Int32).toNatClampNeg ((x_g_63 (0 : Int32).toNatClampNeg) + 1)) (1 : Int32).toNatClampNeg a1) x_kept_63 x_saved x_before x_was x_region x_parts x_next x_ways x_more x_whole x_isSaved x_changes_63 x_isWithin x_code_63 x_input x_length x_fault x_failed x_signs x_signMany x_at x_told x_toldMany)) E hK hW 1 rfl (by decide) dX13_observe_79 rfl (fun H locs hW => ?_)
        refine lv_iconst (v := 0) E.1 E.2.1 dX13_observe_80 (by decide) ?_
        refine lv_istore_n (lv' := [(3, .int 0), (0, .ref h0), (1, .int a1)]) E.1 E.2.1 dX13_observe_81 rfl hl (by decide) rfl (fun ls hl => ?_)
        refine lv_iconst (v := 0) E.1 E.2.1 dX13_observe_82 (by decide) ?_
        refine lv_istore (lv' := [(4, .int 0), (3, .int 0), (0, .ref h0), (1, .int a1)]) E.1 E.2.1 dX13_observe_83 hl (by decide) rfl (fun ls hl => ?_)
        refine k_X13_observe_85 E hK hA ?_ 1000 0 0 (upd (upd x_g_63 (0 : Int32).toNatClampNeg ((x_g_63 (0 : Int32).toNatClampNeg) + 1)) (1 : Int32).toNatClampNeg a1) H locs ls h hW (lv_sub hl [2, 3, 1, 0] rfl)
        · intro l3_175e x_g_175e H locs ls h hW hl
          refine lv_aload_n E.1 E.2.1 dX13_observe_175 rfl (lv_at hl 0 rfl) ?_
          refine wGet (v := .ref h1) E hK in_X13_observe_X13 hW 0 lk_X13_observe_7 0 rfl rfl (by decide) rfl rfl dX13_observe_176 ?_
          refine lv_iconst (v := 5) E.1 E.2.1 dX13_observe_179 (by decide) ?_
          refine lv_dup2_11 E.1 E.2.1 dX13_observe_180 rfl rfl ?_
          refine wIald E hK hW 1 rfl (by decide) dX13_observe_181 ?_
          refine lv_iload_n E.1 E.2.1 dX13_observe_182 rfl (lv_at hl 1 rfl) ?_
          refine lv_iadd E.1 E.2.1 dX13_observe_183 ?_
          refine wIast (world' := (w_X13 g h0 h1 h2 h3 h4 h5 h6 h7 h8 h9 h10 h11 h12 h13 (upd x_g_175e (5 : Int32).toNatClampNeg ((x_g_175e (5 : Int32).toNatClampNeg) + l3_175e)) x_kept_63 x_saved x_before x_was x_region x_parts x_next x_ways x_more x_whole x_isSaved x_changes_63 x_isWithin x_code_63 x_input x_length x_fault x_failed x_signs x_signMany x_at x_told x_toldMany)) E hK hW 1 rfl (by decide) dX13_observe_184 rfl (fun H locs hW => ?_)
          refine lv_iload_n E.1 E.2.1 dX13_observe_185 rfl (lv_at hl 1 rfl) ?_
          obtain rfl := Option.some.inj h
          exact endI E rfl hW dX13_observe_186
      refine lv_aload_n E.1 E.2.1 dX13_observe_21 rfl (lv_at hl 0 rfl) ?_
      refine lv_aload_n E.1 E.2.1 dX13_observe_22 rfl (lv_at hl 0 rfl) ?_
      refine wGet (v := .ref h1) E hK in_X13_observe_X13 hW 0 lk_X13_observe_7 0 rfl rfl (by decide) rfl rfl dX13_observe_23 ?_
      obtain ⟨r26, hc, h⟩ := bx h
      refine goU (world' := (w_X13 g h0 h1 h2 h3 h4 h5 h6 h7 h8 h9 h10 h11 h12 h13 x_g r26.1 x_saved x_before x_was x_region x_parts x_next x_ways x_more x_whole x_isSaved r26.2.1 x_isWithin r26.2.2 x_input x_length x_fault x_failed x_signs x_signMany x_at x_told x_toldMany)) hW hA (is := [0, 1, 2, 3, 4, 5, 6, 7, 8, 9, 10, 11, 12, 13]) rfl (goV (rest := []) E hK hW [0, 1, 2, 3, 4, 5, 6, 7, 8, 9, 10, 11, 12, 13] rfl rfl (c_X13_keeps__g l g h0 h1 h2 h3 h4 h5 h6 h7 h8 h9 h10 h11 h12 h13 x_g x_kept x_saved x_before x_was x_region x_parts x_next x_ways x_more x_whole x_isSaved x_changes x_isWithin r13.2 x_input x_length x_fault x_failed x_signs x_signMany x_at x_told x_toldMany (hf := hc) H.size) (cwV 1 hts gX13_observe_X13_keeps rfl rfl rfl (by decide +kernel) ⟨Nat.le_of_ble_eq_true rfl, Nat.le_of_ble_eq_true rfl⟩) 0 rfl rfl rfl hl.1 rfl rfl (Nat.le_of_ble_eq_true rfl) dX13_observe_26 ⟨Nat.zero_le _, Nat.zero_le _⟩) rfl rfl (fun H locs hW => ?_)
      refine lv_bipush (v := 32) E.1 E.2.1 dX13_observe_29 (by decide) ?_
      refine lv_iconst (v := 4) E.1 E.2.1 dX13_observe_31 (by decide) ?_
      refine lv_aload_n E.1 E.2.1 dX13_observe_32 rfl (lv_at hl 0 rfl) ?_
      refine wGet (v := .ref h1) E hK in_X13_observe_X13 hW 0 lk_X13_observe_7 0 rfl rfl (by decide) rfl rfl dX13_observe_33 ?_
      refine lv_iconst (v := 1) E.1 E.2.1 dX13_observe_36 (by decide) ?_
      refine wIald E hK hW 1 rfl (by decide) dX13_observe_37 ?_
      refine lv_imul E.1 E.2.1 dX13_observe_38 ?_
      refine lv_iadd E.1 E.2.1 dX13_observe_39 ?_
      refine lv_iload_n E.1 E.2.1 dX13_observe_40 rfl (lv_at hl 1 rfl) ?_
      refine lv_iadd E.1 E.2.1 dX13_observe_41 ?_
      refine lv_istore_n (lv' := [(2, .int ((32 + (4 * (x_g (1 : Int32).toNatClampNeg))) + a1)), (0, .ref h0), (1, .int a1)]) E.1 E.2.1 dX13_observe_42 rfl hl (by decide) rfl (fun ls hl => ?_)
      refine lv_aload_n E.1 E.2.1 dX13_observe_43 rfl (lv_at hl 1 rfl) ?_
      refine wGet (v := .ref h1) E hK in_X13_observe_X13 hW 0 lk_X13_observe_7 0 rfl rfl (by decide) rfl rfl dX13_observe_44 ?_
      refine lv_iload_n E.1 E.2.1 dX13_observe_47 rfl (lv_at hl 0 rfl) ?_
      obtain ⟨hi48, h⟩ := ox h
      refine wIald E hK hW 1 rfl hi48 dX13_observe_48 ?_
      refine lv_iconst (v := 3) E.1 E.2.1 dX13_observe_49 (by decide) ?_
      refine lv_icmp_ge (tgt := 63) E.1 E.2.1 dX13_observe_50 (by decide) (fun c50 => ?_) (fun c50 => ?_)
      · have h := it c50 h
        exact J63 x_g r26.1 r26.2.1 r26.2.2 H locs ls h hW (lv_sub hl [1, 2] rfl)
      · have h := ie c50 h
        refine lv_aload_n E.1 E.2.1 dX13_observe_53 rfl (lv_at hl 1 rfl) ?_
        refine wGet (v := .ref h1) E hK in_X13_observe_X13 hW 0 lk_X13_observe_7 0 rfl rfl (by decide) rfl rfl dX13_observe_54 ?_
        refine lv_iload_n E.1 E.2.1 dX13_observe_57 rfl (lv_at hl 0 rfl) ?_
        refine lv_dup2_11 E.1 E.2.1 dX13_observe_58 rfl rfl ?_
        refine wIald E hK hW 1 rfl hi48 dX13_observe_59 ?_
        refine lv_iconst (v := 1) E.1 E.2.1 dX13_observe_60 (by decide) ?_
        refine lv_iadd E.1 E.2.1 dX13_observe_61 ?_
        refine wIast (world' := (w_X13 g h0 h1 h2 h3 h4 h5 h6 h7 h8 h9 h10 h11 h12 h13 (upd x_g ((32 + (4 * (x_g (1 : Int32).toNatClampNeg))) + a1).toNatClampNeg ((x_g ((32 + (4 * (x_g (1 : Int32).toNatClampNeg))) + a1).toNatClampNeg) + 1)) r26.1 x_saved x_before x_was x_region x_parts x_next x_ways x_more x_whole x_isSaved r26.2.1 x_isWithin r26.2.2 x_input x_length x_fault x_failed x_signs x_signMany x_at x_told x_toldMany)) E hK hW 1 rfl hi48 dX13_observe_62 rfl (fun H locs hW => ?_)
        exact J63 (upd x_g ((32 + (4 * (x_g (1 : Int32).toNatClampNeg))) + a1).toNatClampNeg ((x_g ((32 + (4 * (x_g (1 : Int32).toNatClampNeg))) + a1).toNatClampNeg) + 1)) r26.1 r26.2.1 r26.2.2 H locs ls h hW (lv_sub hl [1, 2] rfl)
    · have h := ie c16 h
      refine lv_iconst (v := 0) E.1 E.2.1 dX13_observe_19 (by decide) ?_
      obtain rfl := Option.some.inj h
      exact endI E rfl hW dX13_observe_20
  refine lv_aload_n E.1 E.2.1 dX13_observe_0 rfl (lv_at hl 0 rfl) ?_
  refine lv_iload_n E.1 E.2.1 dX13_observe_1 rfl (lv_at hl 1 rfl) ?_
  obtain ⟨r2, hc, h⟩ := bx h
  refine goI (world' := (w_X13 g h0 h1 h2 h3 h4 h5 h6 h7 h8 h9 h10 h11 h12 h13 x_g x_kept x_saved x_before x_was x_region x_parts x_next x_ways x_more x_whole x_isSaved x_changes x_isWithin x_code x_input x_length x_fault x_failed x_signs x_signMany x_at x_told x_toldMany)) hW hA (is := []) rfl (goS (rest := [.ref h0]) E hK hW [] rfl rfl (c_X13_isSort l g a1 (hf := hc) H.size) (va_cwS 1 hts gX13_observe_X13_isSort rfl rfl rfl (by decide +kernel) ⟨Nat.le_of_ble_eq_true rfl, Nat.le_of_ble_eq_true rfl⟩) hl.1 rfl rfl (Nat.le_of_ble_eq_true rfl) dX13_observe_2 ⟨Nat.zero_le _, Nat.zero_le _⟩) rfl rfl (fun H locs hW => ?_)
  refine lv_if_eq (tgt := 12) E.1 E.2.1 dX13_observe_5 (by decide) (fun c5 => ?_) (fun c5 => ?_)
  · have h := it c5 h
    refine lv_iconst (v := 1) E.1 E.2.1 dX13_observe_12 (by decide) ?_
    exact J13 1 H locs ls h hW (lv_sub hl [0, 1] rfl)
  · have h := ie c5 h
    refine lv_iconst (v := 0) E.1 E.2.1 dX13_observe_8 (by decide) ?_
    refine lv_goto (tgt := 13) E.1 E.2.1 dX13_observe_9 (by decide) ?_
    exact J13 0 H locs ls h hW (lv_sub hl [0, 1] rfl)
theorem c_X13_observe (l : Launch) (g : GE) (h0 h1 h2 h3 h4 h5 h6 h7 h8 h9 h10 h11 h12 h13 : Nat) (x_g : Nat → Int32) (x_kept : Nat → Int32) (x_saved : Nat → Int32) (x_before : Nat → Int32) (x_was : Nat → Int32) (x_region : Nat → Int32) (x_parts : Nat → Int64) (x_next : Nat → Int64) (x_ways : Nat → Int32) (x_more : Nat → Int32) (x_whole : Int64) (x_isSaved : Int32) (x_changes : Int32) (x_isWithin : Int32) (x_code : Int32) (x_input : Nat → Int32) (x_length : Int32) (x_fault : Int32) (x_failed : Int32) (x_signs : Nat → Int32) (x_signMany : Int32) (x_at : Int32) (x_told : Nat → Int32) (x_toldMany : Int32) (a1 : Int32) {res : Int32 × (Nat → Int32) × (Nat → Int32) × Int32 × Int32} (hf : f_X13_observe x_g x_kept x_changes x_isWithin x_code a1 = some res) : CI l yX13_observe wsX13_observe rm_X13_observe g [.ref h0, .int a1] (w_X13 g h0 h1 h2 h3 h4 h5 h6 h7 h8 h9 h10 h11 h12 h13 x_g x_kept x_saved x_before x_was x_region x_parts x_next x_ways x_more x_whole x_isSaved x_changes x_isWithin x_code x_input x_length x_fault x_failed x_signs x_signMany x_at x_told x_toldMany) (w_X13 g h0 h1 h2 h3 h4 h5 h6 h7 h8 h9 h10 h11 h12 h13 res.2.1 res.2.2.1 x_saved x_before x_was x_region x_parts x_next x_ways x_more x_whole x_isSaved res.2.2.2.1 x_isWithin res.2.2.2.2 x_input x_length x_fault x_failed x_signs x_signMany x_at x_told x_toldMany) res.1 :=
  mkI (cc := cX13_observe) (maxL := 6) (by decide) rfl (Nat.le_of_ble_eq_true rfl) (fun p e s m args below meth c A H locs ls E hK hA hW hl => k_X13_observe_0 E hK hA hf hW hl)

