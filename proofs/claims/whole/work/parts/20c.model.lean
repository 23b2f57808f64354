/-! PaperStormModel.parted()V X13_parted -/
abbrev rm_X13_parted : Room := { frames := 3, cells := 0, slots := 0, locals := 65 }
theorem in_X13_parted_X13 : ∀ w ∈ wsX130, w ∈ wsX13_parted := by decide +kernel
theorem lk_X13_parted_25 : Cond.fieldLink RX13 25 "PaperStormModel" "region" "[I" ∈ wsX13_parted := by decide +kernel
noncomputable def f_X13_parted_2 (z21 : (Nat → Int32) → Option ((Nat → Int32))) : Nat → Int32 → (Nat → Int32) → Option ((Nat → Int32))
  | 0, _, _ => none
  | n + 1, l1_2, x_region_2 => if 25 ≤ l1_2 then z21 x_region_2 else if l1_2 < 0 ∨ 25 ≤ l1_2.toNatClampNeg then none else f_X13_parted_2 z21 n (l1_2 + 1) (upd x_region_2 l1_2.toNatClampNeg l1_2)
noncomputable def f_X13_parted_23 (x_g : Nat → Int32) (z82 : (Nat → Int32) → Option ((Nat → Int32))) : Nat → Int32 → (Nat → Int32) → Option ((Nat → Int32))
  | 0, _, _ => none
  | n + 1, l1_23, x_region_23 => if 25 ≤ l1_23 then z82 x_region_23 else jo (fun (x_region_53 : Nat → Int32) => jo (fun (x_region_76 : Nat → Int32) => f_X13_parted_23 x_g z82 n (l1_23 + 1) x_region_76) (fun j76 => if 20 ≤ l1_23 then j76 x_region_53 else (f_X13_isFront x_g l1_23 5).bind fun r62 => if r62 = 0 then (f_X13_joins x_region_53 l1_23 (l1_23 + 5)).bind fun r73 => j76 r73 else j76 x_region_53)) (fun j53 => if 4 ≤ (l1_23 - l1_23 / 5 * 5) then j53 x_region_23 else (f_X13_isFront x_g l1_23 1).bind fun r39 => if r39 = 0 then (f_X13_joins x_region_23 l1_23 (l1_23 + 1)).bind fun r50 => j53 r50 else j53 x_region_23)
noncomputable def f_X13_parted (x_g : Nat → Int32) (x_region : Nat → Int32) : Option ((Nat → Int32)) :=
  f_X13_parted_2 (fun x_region_21e => f_X13_parted_23 x_g (fun x_region_82e => some (x_region_82e)) 1000 0 x_region_21e) 1000 0 x_region
abbrev G_X13_parted (p : Program) (l : Launch) (e : Env) (s : State) (m : MethodId) (args : Array Value) (below : List Frame) (meth : Method) (c : Code) (g : GE) (A : Nat → Prop) (h0 h1 h2 h3 h4 h5 h6 h7 h8 h9 h10 h11 h12 h13 : Nat) (x_g : Nat → Int32) (x_kept : Nat → Int32) (x_saved : Nat → Int32) (x_before : Nat → Int32) (x_was : Nat → Int32) (x_parts : Nat → Int64) (x_next : Nat → Int64) (x_ways : Nat → Int32) (x_more : Nat → Int32) (x_whole : Int64) (x_isSaved : Int32) (x_changes : Int32) (x_isWithin : Int32) (x_code : Int32) (x_input : Nat → Int32) (x_length : Int32) (x_fault : Int32) (x_failed : Int32) (x_signs : Nat → Int32) (x_signMany : Int32) (x_at : Int32) (x_told : Nat → Int32) (x_toldMany : Int32) (res : (Nat → Int32)) (H : Heap) (locs : List Loc) (pc : Nat) (ls : Array Slot) (st : List Value) : Prop := W p l e (headSpec wsX13_parted rm_X13_parted).room s m args below meth c H locs 0 0 (MQ below (PoV g A (w_X13 g h0 h1 h2 h3 h4 h5 h6 h7 h8 h9 h10 h11 h12 h13 x_g x_kept x_saved x_before x_was res x_parts x_next x_ways x_more x_whole x_isSaved x_changes x_isWithin x_code x_input x_length x_fault x_failed x_signs x_signMany x_at x_told x_toldMany)) args s 0 0 A) (F0 m pc ls st)
set_option maxHeartbeats 4000000 in
set_option maxRecDepth 100000 in
theorem k_X13_parted_2 {p : Program} {l : Launch} {e : Env} {s : State} {m : MethodId} {args : Array Value} {below : List Frame} {meth : Method} {c : Code} {g : GE} {A : Nat → Prop} {h0 h1 h2 h3 h4 h5 h6 h7 h8 h9 h10 h11 h12 h13 : Nat} {x_g : Nat → Int32} {x_kept : Nat → Int32} {x_saved : Nat → Int32} {x_before : Nat → Int32} {x_was : Nat → Int32} {x_parts : Nat → Int64} {x_next : Nat → Int64} {x_ways : Nat → Int32} {x_more : Nat → Int32} {x_whole : Int64} {x_isSaved : Int32} {x_changes : Int32} {x_isWithin : Int32} {x_code : Int32} {x_input : Nat → Int32} {x_length : Int32} {x_fault : Int32} {x_failed : Int32} {x_signs : Nat → Int32} {x_signMany : Int32} {x_at : Int32} {x_told : Nat → Int32} {x_toldMany : Int32} {res : (Nat → Int32)} {z21 : (Nat → Int32) → Option ((Nat → Int32))}
    (E : En cX13_parted RX13 wsX13_parted 2 none p s m args meth c) (hK : KK g s) (hA : ∀ q, s.heap.size ≤ q → A q)
    (hz21 : ∀ (x_region_21e : Nat → Int32) (H : Heap) (locs : List Loc) (ls : Array Slot), z21 x_region_21e = some res → Wo g A s H locs (w_X13 g h0 h1 h2 h3 h4 h5 h6 h7 h8 h9 h10 h11 h12 h13 x_g x_kept x_saved x_before x_was x_region_21e x_parts x_next x_ways x_more x_whole x_isSaved x_changes x_isWithin x_code x_input x_length x_fault x_failed x_signs x_signMany x_at x_told x_toldMany) → lv_has ls 2 [(0, .ref h0)] → G_X13_parted p l e s m args below meth c g A h0 h1 h2 h3 h4 h5 h6 h7 h8 h9 h10 h11 h12 h13 x_g x_kept x_saved x_before x_was x_parts x_next x_ways x_more x_whole x_isSaved x_changes x_isWithin x_code x_input x_length x_fault x_failed x_signs x_signMany x_at x_told x_toldMany res H locs 21 ls [])
    : ∀ (n : Nat) (l1_2 : Int32) (x_region_2 : Nat → Int32) (H : Heap) (locs : List Loc) (ls : Array Slot), f_X13_parted_2 z21 n l1_2 x_region_2 = some res → Wo g A s H locs (w_X13 g h0 h1 h2 h3 h4 h5 h6 h7 h8 h9 h10 h11 h12 h13 x_g x_kept x_saved x_before x_was x_region_2 x_parts x_next x_ways x_more x_whole x_isSaved x_changes x_isWithin x_code x_input x_length x_fault x_failed x_signs x_signMany x_at x_told x_toldMany) → lv_has ls 2 [(0, .ref h0), (1, .int l1_2)] → G_X13_parted p l e s m args below meth c g A h0 h1 h2 h3 h4 h5 h6 h7 h8 h9 h10 h11 h12 h13 x_g x_kept x_saved x_before x_was x_parts x_next x_ways x_more x_whole x_isSaved x_changes x_isWithin x_code x_input x_length x_fault x_failed x_signs x_signMany x_at x_told x_toldMany res H locs 2 ls [] := by
  have hts := E.2.2.2.1
  intro n
  induction n with
  | zero => intro l1_2 x_region_2 H locs ls h hW hl; rw [f_X13_parted_2] at h; cases h
  | succ n ih =>
    intro l1_2 x_region_2 H locs ls h hW hl
    rw [f_X13_parted_2] at h
    refine lv_iload_n E.1 E.2.1 dX13_parted_2 rfl (lv_at hl 1 rfl) ?_
    refine lv_bipush (v := 25) E.1 E.2.1 dX13_parted_3 (by decide) ?_
    refine lv_icmp_ge (tgt := 21) E.1 E.2.1 dX13_parted_5 (by decide) (fun c5 => ?_) (fun c5 => ?_)
    · have h := it c5 h
      exact hz21 x_region_2 H locs ls h hW (lv_sub hl [0] rfl)
    · have h := ie c5 h
      refine lv_aload_n E.1 E.2.1 dX13_parted_8 rfl (lv_at hl 0 rfl) ?_
      refine wGet (v := .ref h6) E hK in_X13_parted_X13 hW 5 lk_X13_parted_25 0 rfl rfl (by decide) rfl rfl dX13_parted_9 ?_
      refine lv_iload_n E.1 E.2.1 dX13_parted_12 rfl (lv_at hl 1 rfl) ?_
      refine lv_iload_n E.1 E.2.1 dX13_parted_13 rfl (lv_at hl 1 rfl) ?_
      obtain ⟨hi14, h⟩ := ox h
      refine wIast (world' := (w_X13 g h0 h1 h2 h3 h4 h5 h6 h7 h8 h9 h10 h11 h12 h13 x_g x_kept x_saved x_before x_was (upd x_region_2 l1_2.toNatClampNeg l1_2) x_parts x_next x_ways x_more x_whole x_isSaved x_changes x_isWithin x_code x_input x_length x_fault x_failed x_signs x_signMany x_at x_told x_toldMany)) E hK hW 6 rfl hi14 dX13_parted_14 rfl (fun H locs hW => ?_)
      refine lv_iinc (v := (l1_2 + 1)) (lv' := [(1, .int (l1_2 + 1)), (0, .ref h0)]) E.1 E.2.1 dX13_parted_15 hl (k := 1) rfl rfl (by decide) rfl (fun ls hl => ?_)
      refine lv_goto (tgt := 2) E.1 E.2.1 dX13_parted_18 (by decide) ?_
      exact ih (l1_2 + 1) (upd x_region_2 l1_2.toNatClampNeg l1_2) H locs ls h hW (lv_sub hl [1, 0] rfl)
set_option maxHeartbeats 4000000 in
set_option maxRecDepth 100000 in
theorem k_X13_parted_23 {p : Program} {l : Launch} {e : Env} {s : State} {m : MethodId} {args : Array Value} {below : List Frame} {meth : Method} {c : Code} {g : GE} {A : Nat → Prop} {h0 h1 h2 h3 h4 h5 h6 h7 h8 h9 h10 h11 h12 h13 : Nat} {x_g : Nat → Int32} {x_kept : Nat → Int32} {x_saved : Nat → Int32} {x_before : Nat → Int32} {x_was : Nat → Int32} {x_parts : Nat → Int64} {x_next : Nat → Int64} {x_ways : Nat → Int32} {x_more : Nat → Int32} {x_whole : Int64} {x_isSaved : Int32} {x_changes : Int32} {x_isWithin : Int32} {x_code : Int32} {x_input : Nat → Int32} {x_length : Int32} {x_fault : Int32} {x_failed : Int32} {x_signs : Nat → Int32} {x_signMany : Int32} {x_at : Int32} {x_told : Nat → Int32} {x_toldMany : Int32} {res : (Nat → Int32)} {z82 : (Nat → Int32) → Option ((Nat → Int32))}
    (E : En cX13_parted RX13 wsX13_parted 2 none p s m args meth c) (hK : KK g s) (hA : ∀ q, s.heap.size ≤ q → A q)
    (hz82 : ∀ (x_region_82e : Nat → Int32) (H : Heap) (locs : List Loc) (ls : Array Slot), z82 x_region_82e = some res → Wo g A s H locs (w_X13 g h0 h1 h2 h3 h4 h5 h6 h7 h8 h9 h10 h11 h12 h13 x_g x_kept x_saved x_before x_was x_region_82e x_parts x_next x_ways x_more x_whole x_isSaved x_changes x_isWithin x_code x_input x_length x_fault x_failed x_signs x_signMany x_at x_told x_toldMany) → lv_has ls 2 [] → G_X13_parted p l e s m args below meth c g A h0 h1 h2 h3 h4 h5 h6 h7 h8 h9 h10 h11 h12 h13 x_g x_kept x_saved x_before x_was x_parts x_next x_ways x_more x_whole x_isSaved x_changes x_isWithin x_code x_input x_length x_fault x_failed x_signs x_signMany x_at x_told x_toldMany res H locs 82 ls [])
    : ∀ (n : Nat) (l1_23 : Int32) (x_region_23 : Nat → Int32) (H : Heap) (locs : List Loc) (ls : Array Slot), f_X13_parted_23 x_g z82 n l1_23 x_region_23 = some res → Wo g A s H locs (w_X13 g h0 h1 h2 h3 h4 h5 h6 h7 h8 h9 h10 h11 h12 h13 x_g x_kept x_saved x_before x_was x_region_23 x_parts x_next x_ways x_more x_whole x_isSaved x_changes x_isWithin x_code x_input x_length x_fault x_failed x_signs x_signMany x_at x_told x_toldMany) → lv_has ls 2 [(0, .ref h0), (1, .int l1_23)] → G_X13_parted p l e s m args below meth c g A h0 h1 h2 h3 h4 h5 h6 h7 h8 h9 h10 h11 h12 h13 x_g x_kept x_saved x_before x_was x_parts x_next x_ways x_more x_whole x_isSaved x_changes x_isWithin x_code x_input x_length x_fault x_failed x_signs x_signMany x_at x_told x_toldMany res H locs 23 ls [] := by
  have hts := E.2.2.2.1
  intro n
  induction n with
  | zero => intro l1_23 x_region_23 H locs ls h hW hl; rw [f_X13_parted_23] at h; cases h
  | succ n ih =>
    intro l1_23 x_region_23 H locs ls h hW hl
    rw [f_X13_parted_23] at h
    refine lv_iload_n E.1 E.2.1 dX13_parted_23 rfl (lv_at hl 1 rfl) ?_
    refine lv_bipush (v := 25) E.1 E.2.1 dX13_parted_24 (by decide) ?_
    refine lv_icmp_ge (tgt := 82) E.1 E.2.1 dX13_parted_26 (by decide) (fun c26 => ?_) (fun c26 => ?_)
    · have h := it c26 h
      exact hz82 x_region_23 H locs ls h hW (lv_sub hl [] rfl)
    · have h := ie c26 h
      obtain ⟨j53, hj53, h⟩ := jox1 h
      have J53 : ∀ (x_region_53 : Nat → Int32) (H : Heap) (locs : List Loc) (ls : Array Slot), j53 x_region_53 = some res → Wo g A s H locs (w_X13 g h0 h1 h2 h3 h4 h5 h6 h7 h8 h9 h10 h11 h12 h13 x_g x_kept x_saved x_before x_was x_region_53 x_parts x_next x_ways x_more x_whole x_isSaved x_changes x_isWithin x_code x_input x_length x_fault x_failed x_signs x_signMany x_at x_told x_toldMany) → lv_has ls 2 [(0, .ref h0), (1, .int l1_23)] → G_X13_parted p l e s m args below meth c g A h0 h1 h2 h3 h4 h5 h6 h7 h8 h9 h10 h11 h12 h13 x_g x_kept x_saved x_before x_was x_parts x_next x_ways x_more x_whole x_isSaved x_changes x_isWithin x_code x_input x_length x_fault x_failed x_signs x_signMany x_at x_told x_toldMany res H locs 53 ls [] := by
        intro x_region_53 H locs ls h hW hl
        rw [hj53] at h
        obtain ⟨j76, hj76, h⟩ := jox1 h
        have J76 : ∀ (x_region_76 : Nat → Int32) (H : Heap) (locs : List Loc) (ls : Array Slot), j76 x_region_76 = some res → Wo g A s H locs (w_X13 g h0 h1 h2 h3 h4 h5 h6 h7 h8 h9 h10 h11 h12 h13 x_g x_kept x_saved x_before x_was x_region_76 x_parts x_next x_ways x_more x_whole x_isSaved x_changes x_isWithin x_code x_input x_length x_fault x_failed x_signs x_signMany x_at x_told x_toldMany) → lv_has ls 2 [(0, .ref h0), (1, .int l1_23)] → G_X13_parted p l e s m args below meth c g A h0 h1 h2 h3 h4 h5 h6 h7 h8 h9 h10 h11 h12 h13 x_g x_kept x_saved x_before x_was x_parts x_next x_ways x_more x_whole x_isSaved x_changes x_isWithin x_code x_input x_length x_fault x_failed x_signs x_signMany x_at x_told x_toldMany res H locs 76 ls [] := by
          intro x_region_76 H locs ls h hW hl
          rw [hj76] at h
          refine lv_iinc (v := (l1_23 + 1)) (lv' := [(1, .int (l1_23 + 1)), (0, .ref h0)]) E.1 E.2.1 dX13_parted_76 hl (k := 1) rfl rfl (by decide) rfl (fun ls hl => ?_)
          refine lv_goto (tgt := 23) E.1 E.2.1 dX13_parted_79 (by decide) ?_
          exact ih (l1_23 + 1) x_region_76 H locs ls h hW (lv_sub hl [1, 0] rfl)
        refine lv_iload_n E.1 E.2.1 dX13_parted_53 rfl (lv_at hl 1 rfl) ?_
        refine lv_bipush (v := 20) E.1 E.2.1 dX13_parted_54 (by decide) ?_
        refine lv_icmp_ge (tgt := 76) E.1 E.2.1 dX13_parted_56 (by decide) (fun c56 => ?_) (fun c56 => ?_)
        · have h := it c56 h
          exact J76 x_region_53 H locs ls h hW (lv_sub hl [0, 1] rfl)
        · have h := ie c56 h
          refine lv_aload_n E.1 E.2.1 dX13_parted_59 rfl (lv_at hl 0 rfl) ?_
          refine lv_iload_n E.1 E.2.1 dX13_parted_60 rfl (lv_at hl 1 rfl) ?_
          refine lv_iconst (v := 5) E.1 E.2.1 dX13_parted_61 (by decide) ?_
          obtain ⟨r62, hc, h⟩ := bx h
          refine goI (world' := (w_X13 g h0 h1 h2 h3 h4 h5 h6 h7 h8 h9 h10 h11 h12 h13 x_g x_kept x_saved x_before x_was x_region_53 x_parts x_next x_ways x_more x_whole x_isSaved x_changes x_isWithin x_code x_input x_length x_fault x_failed x_signs x_signMany x_at x_told x_toldMany)) hW hA (is := [0, 1, 2, 3, 4, 5, 6, 7, 8, 9, 10, 11, 12, 13]) rfl (goV (rest := []) E hK hW [0, 1, 2, 3, 4, 5, 6, 7, 8, 9, 10, 11, 12, 13] rfl rfl (c_X13_isFront l g h0 h1 h2 h3 h4 h5 h6 h7 h8 h9 h10 h11 h12 h13 x_g x_kept x_saved x_before x_was x_region_53 x_parts x_next x_ways x_more x_whole x_isSaved x_changes x_isWithin x_code x_input x_length x_fault x_failed x_signs x_signMany x_at x_told x_toldMany l1_23 5 (hf := hc) H.size) (cwV 2 hts gX13_parted_X13_isFront rfl rfl rfl (by decide +kernel) ⟨Nat.le_of_ble_eq_true rfl, Nat.le_of_ble_eq_true rfl⟩) 0 rfl rfl rfl hl.1 rfl rfl (Nat.le_of_ble_eq_true rfl) dX13_parted_62 ⟨Nat.zero_le _, Nat.zero_le _⟩) rfl rfl (fun H locs hW => ?_)
          refine lv_if_ne (tgt := 76) E.1 E.2.1 dX13_parted_65 (by decide) (fun c65 => ?_) (fun c65 => ?_)
          · have h := ie c65 h
            exact J76 x_region_53 H locs ls h hW (lv_sub hl [0, 1] rfl)
          · have h := it c65 h
            refine lv_aload_n E.1 E.2.1 dX13_parted_68 rfl (lv_at hl 0 rfl) ?_
            refine lv_iload_n E.1 E.2.1 dX13_parted_69 rfl (lv_at hl 1 rfl) ?_
            refine lv_iload_n E.1 E.2.1 dX13_parted_70 rfl (lv_at hl 1 rfl) ?_
            refine lv_iconst (v := 5) E.1 E.2.1 dX13_parted_71 (by decide) ?_
            refine lv_iadd E.1 E.2.1 dX13_parted_72 ?_
            obtain ⟨r73, hc, h⟩ := bx h
            refine goU (world' := (w_X13 g h0 h1 h2 h3 h4 h5 h6 h7 h8 h9 h10 h11 h12 h13 x_g x_kept x_saved x_before x_was r73 x_parts x_next x_ways x_more x_whole x_isSaved x_changes x_isWithin x_code x_input x_length x_fault x_failed x_signs x_signMany x_at x_told x_toldMany)) hW hA (is := [0, 1, 2, 3, 4, 5, 6, 7, 8, 9, 10, 11, 12, 13]) rfl (goV (rest := []) E hK hW [0, 1, 2, 3, 4, 5, 6, 7, 8, 9, 10, 11, 12, 13] rfl rfl (c_X13_joins l g h0 h1 h2 h3 h4 h5 h6 h7 h8 h9 h10 h11 h12 h13 x_g x_kept x_saved x_before x_was x_region_53 x_parts x_next x_ways x_more x_whole x_isSaved x_changes x_isWithin x_code x_input x_length x_fault x_failed x_signs x_signMany x_at x_told x_toldMany l1_23 (l1_23 + 5) (hf := hc) H.size) (cwV 2 hts gX13_parted_X13_joins rfl rfl rfl (by decide +kernel) ⟨Nat.le_of_ble_eq_true rfl, Nat.le_of_ble_eq_true rfl⟩) 0 rfl rfl rfl hl.1 rfl rfl (Nat.le_of_ble_eq_true rfl) dX13_parted_73 ⟨Nat.zero_le _, Nat.zero_le _⟩) rfl rfl (fun H locs hW => ?_)
            exact J76 r73 H locs ls h hW (lv_sub hl [0, 1] rfl)
      refine lv_iload_n E.1 E.2.1 dX13_parted_29 rfl (lv_at hl 1 rfl) ?_
      refine lv_iconst (v := 5) E.1 E.2.1 dX13_parted_30 (by decide) ?_
      refine lv_irem E.1 E.2.1 dX13_parted_31 (by decide) ?_
      refine lv_iconst (v := 4) E.1 E.2.1 dX13_parted_32 (by decide) ?_
      refine lv_icmp_ge (tgt := 53) E.1 E.2.1 dX13_parted_33 (by decide) (fun c33 => ?_) (fun c33 => ?_)
      · have h := it c33 h
        exact J53 x_region_23 H locs ls h hW (lv_sub hl [0, 1] rfl)
      · have h := ie c33 h
        refine lv_aload_n E.1 E.2.1 dX13_parted_36 rfl (lv_at hl 0 rfl) ?_
        refine lv_iload_n E.1 E.2.1 dX13_parted_37 rfl (lv_at hl 1 rfl) ?_
        refine lv_iconst (v := 1) E.1 E.2.1 dX13_parted_38 (by decide) ?_
        obtain ⟨r39, hc, h⟩ := bx h
        refine goI (world' := (w_X13 g h0 h1 h2 h3 h4 h5 h6 h7 h8 h9 h10 h11 h12 h13 x_g x_kept x_saved x_before x_was x_region_23 x_parts x_next x_ways x_more x_whole x_isSaved x_changes x_isWithin x_code x_input x_length x_fault x_failed x_signs x_signMany x_at x_told x_toldMany)) hW hA (is := [0, 1, 2, 3, 4, 5, 6, 7, 8, 9, 10, 11, 12, 13]) rfl (goV (rest := []) E hK hW [0, 1, 2, 3, 4, 5, 6, 7, 8, 9, 10, 11, 12, 13] rfl rfl (c_X13_isFront l g h0 h1 h2 h3 h4 h5 h6 h7 h8 h9 h10 h11 h12 h13 x_g x_kept x_saved x_before x_was x_region_23 x_parts x_next x_ways x_more x_whole x_isSaved x_changes x_isWithin x_code x_input x_length x_fault x_failed x_signs x_signMany x_at x_told x_toldMany l1_23 1 (hf := hc) H.size) (cwV 2 hts gX13_parted_X13_isFront rfl rfl rfl (by decide +kernel) ⟨Nat.le_of_ble_eq_true rfl, Nat.le_of_ble_eq_true rfl⟩) 0 rfl rfl rfl hl.1 rfl rfl (Nat.le_of_ble_eq_true rfl) dX13_parted_39 ⟨Nat.zero_le _, Nat.zero_le _⟩) rfl rfl (fun H locs hW => ?_)
        refine lv_if_ne (tgt := 53) E.1 E.2.1 dX13_parted_42 (by decide) (fun c42 => ?_) (fun c42 => ?_)
        · have h := ie c42 h
          exact J53 x_region_23 H locs ls h hW (lv_sub hl [0, 1] rfl)
        · have h := it c42 h
          refine lv_aload_n E.1 E.2.1 dX13_parted_45 rfl (lv_at hl 0 rfl) ?_
          refine lv_iload_n E.1 E.2.1 dX13_parted_46 rfl (lv_at hl 1 rfl) ?_
          refine lv_iload_n E.1 E.2.1 dX13_parted_47 rfl (lv_at hl 1 rfl) ?_
          refine lv_iconst (v := 1) E.1 E.2.1 dX13_parted_48 (by decide) ?_
          refine lv_iadd E.1 E.2.1 dX13_parted_49 ?_
          obtain ⟨r50, hc, h⟩ := bx h
          refine goU (world' := (w_X13 g h0 h1 h2 h3 h4 h5 h6 h7 h8 h9 h10 h11 h12 h13 x_g x_kept x_saved x_before x_was r50 x_parts x_next x_ways x_more x_whole x_isSaved x_changes x_isWithin x_code x_input x_length x_fault x_failed x_signs x_signMany x_at x_told x_toldMany)) hW hA (is := [0, 1, 2, 3, 4, 5, 6, 7, 8, 9, 10, 11, 12, 13]) rfl (goV (rest := []) E hK hW [0, 1, 2, 3, 4, 5, 6, 7, 8, 9, 10, 11, 12, 13] rfl rfl (c_X13_joins l g h0 h1 h2 h3 h4 h5 h6 h7 h8 h9 h10 h11 h12 h13 x_g x_kept x_saved x_before x_was x_region_23 x_parts x_next x_ways x_more x_whole x_isSaved x_changes x_isWithin x_code x_input x_length x_fault x_failed x_signs x_signMany x_at x_told x_toldMany l1_23 (l1_23 + 1) (hf := hc) H.size) (cwV 2 hts gX13_parted_X13_joins rfl rfl rfl (by decide +kernel) ⟨Nat.le_of_ble_eq_true rfl, Nat.le_of_ble_eq_true rfl⟩) 0 rfl rfl rfl hl.1 rfl rfl (Nat.le_of_ble_eq_true rfl) dX13_parted_50 ⟨Nat.zero_le _, Nat.zero_le _⟩) rfl rfl (fun H locs hW => ?_)
          exact J53 r50 H locs ls h hW (lv_sub hl [0, 1] rfl)
set_option maxHeartbeats 4000000 in
set_option maxRecDepth 100000 in
theorem k_X13_parted_0 {p : Program} {l : Launch} {e : Env} {s : State} {m : MethodId} {args : Array Value} {below : List Frame} {meth : Method} {c : Code} {g : GE} {A : Nat → Prop} {h0 h1 h2 h3 h4 h5 h6 h7 h8 h9 h10 h11 h12 h13 : Nat} {x_g : Nat → Int32} {x_kept : Nat → Int32} {x_saved : Nat → Int32} {x_before : Nat → Int32} {x_was : Nat → Int32} {x_region : Nat → Int32} {x_parts : Nat → Int64} {x_next : Nat → Int64} {x_ways : Nat → Int32} {x_more : Nat → Int32} {x_whole : Int64} {x_isSaved : Int32} {x_changes : Int32} {x_isWithin : Int32} {x_code : Int32} {x_input : Nat → Int32} {x_length : Int32} {x_fault : Int32} {x_failed : Int32} {x_signs : Nat → Int32} {x_signMany : Int32} {x_at : Int32} {x_told : Nat → Int32} {x_toldMany : Int32} {res : (Nat → Int32)} {H : Heap} {locs : List Loc} {ls : Array Slot} 
    (E : En cX13_parted RX13 wsX13_parted 2 none p s m args meth c) (hK : KK g s) (hA : ∀ q, s.heap.size ≤ q → A q) (h : f_X13_parted x_g x_region = some res) (hW : Wo g A s H locs (w_X13 g h0 h1 h2 h3 h4 h5 h6 h7 h8 h9 h10 h11 h12 h13 x_g x_kept x_saved x_before x_was x_region x_parts x_next x_ways x_more x_whole x_isSaved x_changes x_isWithin x_code x_input x_length x_fault x_failed x_signs x_signMany x_at x_told x_toldMany)) (hl : lv_has ls 2 [(0, .ref h0)]) : G_X13_parted p l e s m args below meth c g A h0 h1 h2 h3 h4 h5 h6 h7 h8 h9 h10 h11 h12 h13 x_g x_kept x_saved x_before x_was x_parts x_next x_ways x_more x_whole x_isSaved x_changes x_isWithin x_code x_input x_length x_fault x_failed x_signs x_signMany x_at x_told x_toldMany res H locs 0 ls [] := by
  have hts := E.2.2.2.1
  unfold f_X13_parted at h
  refine lv_iconst (v := 0) E.1 E.2.1 dX13_parted_0 (by decide) ?_
  refine lv_istore_n (lv' := [(1, .int 0), (0, .ref h0)]) E.1 E.2.1 dX13_parted_1 rfl hl (by decide) rfl (fun ls hl => ?_)
  refine k_X13_parted_2 E hK hA ?_ 1000 0 x_region H locs ls h hW (lv_sub hl [1, 0] rfl)
  · intro x_region_21e H locs ls h hW hl
    refine lv_iconst (v := 0) E.1 E.2.1 dX13_parted_21 (by decide) ?_
    refine lv_istore_n (lv' := [(1, .int 0), (0, .ref h0)]) E.1 E.2.1 dX13_parted_22 rfl hl (by decide) rfl (fun ls hl => ?_)
    refine k_X13_parted_23 E hK hA ?_ 1000 0 x_region_21e H locs ls h hW (lv_sub hl [1, 0] rfl)
    · intro x_region_82e H locs ls h hW hl
      obtain rfl := Option.some.inj h
      exact endV E hW dX13_parted_82
theorem c_X13_parted (l : Launch) (g : GE) (h0 h1 h2 h3 h4 h5 h6 h7 h8 h9 h10 h11 h12 h13 : Nat) (x_g : Nat → Int32) (x_kept : Nat → Int32) (x_saved : Nat → Int32) (x_before : Nat → Int32) (x_was : Nat → Int32) (x_region : Nat → Int32) (x_parts : Nat → Int64) (x_next : Nat → Int64) (x_ways : Nat → Int32) (x_more : Nat → Int32) (x_whole : Int64) (x_isSaved : Int32) (x_changes : Int32) (x_isWithin : Int32) (x_code : Int32) (x_input : Nat → Int32) (x_length : Int32) (x_fault : Int32) (x_failed : Int32) (x_signs : Nat → Int32) (x_signMany : Int32) (x_at : Int32) (x_told : Nat → Int32) (x_toldMany : Int32) {res : (Nat → Int32)} (hf : f_X13_parted x_g x_region = some res) : CV l yX13_parted wsX13_parted rm_X13_parted g [.ref h0] (w_X13 g h0 h1 h2 h3 h4 h5 h6 h7 h8 h9 h10 h11 h12 h13 x_g x_kept x_saved x_before x_was x_region x_parts x_next x_ways x_more x_whole x_isSaved x_changes x_isWithin x_code x_input x_length x_fault x_failed x_signs x_signMany x_at x_told x_toldMany) (w_X13 g h0 h1 h2 h3 h4 h5 h6 h7 h8 h9 h10 h11 h12 h13 x_g x_kept x_saved x_before x_was res x_parts x_next x_ways x_more x_whole x_isSaved x_changes x_isWithin x_code x_input x_length x_fault x_failed x_signs x_signMany x_at x_told x_toldMany) :=
  mkV (cc := cX13_parted) (maxL := 2) (by decide) rfl (Nat.le_of_ble_eq_true rfl) (fun p e s m args below meth c A H locs ls E hK hA hW hl => k_X13_parted_0 E hK hA hf hW hl)

/-! PaperStormModel.regions()I X13_regions -/
abbrev rm_X13_regions : Room := { frames := 4, cells := 0, slots := 0, locals := 86 }
theorem in_X13_regions_X13 : ∀ w ∈ wsX130, w ∈ wsX13_regions := by decide +kernel
theorem lk_X13_regions_25 : Cond.fieldLink RX13 25 "PaperStormModel" "region" "[I" ∈ wsX13_regions := by decide +kernel
noncomputable def f_X13_regions_8 (x_region : Nat → Int32) (z38 : Int32 → Option (Int32 × (Nat → Int32))) : Nat → Int32 → Int32 → Option (Int32 × (Nat → Int32))
  | 0, _, _ => none
  | n + 1, l1_8, l2_8 => if 25 ≤ l2_8 then z38 l1_8 else jo (fun (s0_30 : Int32) (s1_30 : Int32) => f_X13_regions_8 x_region z38 n (s0_30 + s1_30) (l2_8 + 1)) (fun j30 => if l2_8 < 0 ∨ 25 ≤ l2_8.toNatClampNeg then none else if (x_region l2_8.toNatClampNeg) = l2_8 then j30 l1_8 1 else j30 l1_8 0)
noncomputable def f_X13_regions (x_g : Nat → Int32) (x_region : Nat → Int32) : Option (Int32 × (Nat → Int32)) :=
  (f_X13_parted x_g x_region).bind fun r1 => f_X13_regions_8 r1 (fun l1_38e => some (l1_38e, r1)) 1000 0 0
abbrev G_X13_regions (p : Program) (l : Launch) (e : Env) (s : State) (m : MethodId) (args : Array Value) (below : List Frame) (meth : Method) (c : Code) (g : GE) (A : Nat → Prop) (h0 h1 h2 h3 h4 h5 h6 h7 h8 h9 h10 h11 h12 h13 : Nat) (x_g : Nat → Int32) (x_kept : Nat → Int32) (x_saved : Nat → Int32) (x_before : Nat → Int32) (x_was : Nat → Int32) (x_parts : Nat → Int64) (x_next : Nat → Int64) (x_ways : Nat → Int32) (x_more : Nat → Int32) (x_whole : Int64) (x_isSaved : Int32) (x_changes : Int32) (x_isWithin : Int32) (x_code : Int32) (x_input : Nat → Int32) (x_length : Int32) (x_fault : Int32) (x_failed : Int32) (x_signs : Nat → Int32) (x_signMany : Int32) (x_at : Int32) (x_told : Nat → Int32) (x_toldMany : Int32) (res : Int32 × (Nat → Int32)) (H : Heap) (locs : List Loc) (pc : Nat) (ls : Array Slot) (st : List Value) : Prop := W p l e (headSpec wsX13_regions rm_X13_regions).room s m args below meth c H locs 0 0 (MQ below (PoI g A (w_X13 g h0 h1 h2 h3 h4 h5 h6 h7 h8 h9 h10 h11 h12 h13 x_g x_kept x_saved x_before x_was res.2 x_parts x_next x_ways x_more x_whole x_isSaved x_changes x_isWithin x_code x_input x_length x_fault x_failed x_signs x_signMany x_at x_told x_toldMany) res.1) args s 0 0 A) (F0 m pc ls st)
set_option maxHeartbeats 4000000 in
set_option maxRecDepth 100000 in
theorem k_X13_regions_8 {p : Program} {l : Launch} {e : Env} {s : State} {m : MethodId} {args : Array Value} {below : List Frame} {meth : Method} {c : Code} {g : GE} {A : Nat → Prop} {h0 h1 h2 h3 h4 h5 h6 h7 h8 h9 h10 h11 h12 h13 : Nat} {x_g : Nat → Int32} {x_kept : Nat → Int32} {x_saved : Nat → Int32} {x_before : Nat → Int32} {x_was : Nat → Int32} {x_region : Nat → Int32} {x_parts : Nat → Int64} {x_next : Nat → Int64} {x_ways : Nat → Int32} {x_more : Nat → Int32} {x_whole : Int64} {x_isSaved : Int32} {x_changes : Int32} {x_isWithin : Int32} {x_code : Int32} {x_input : Nat → Int32} {x_length : Int32} {x_fault : Int32} {x_failed : Int32} {x_signs : Nat → Int32} {x_signMany : Int32} {x_at : Int32} {x_told : Nat → Int32} {x_toldMany : Int32} {res : Int32 × (Nat → Int32)} {z38 : Int32 → Option (Int32 × (Nat → Int32))}
    (E : En cX13_regions RX13 wsX13_regions 3 (some .int) p s m args meth c) (hK : KK g s) (hA : ∀ q, s.heap.size ≤ q → A q)
    (hz38 : ∀ (l1_38e : Int32) (H : Heap) (locs : List Loc) (ls : Array Slot), z38 l1_38e = some res → Wo g A s H locs (w_X13 g h0 h1 h2 h3 h4 h5 h6 h7 h8 h9 h10 h11 h12 h13 x_g x_kept x_saved x_before x_was x_region x_parts x_next x_ways x_more x_whole x_isSaved x_changes x_isWithin x_code x_input x_length x_fault x_failed x_signs x_signMany x_at x_told x_toldMany) → lv_has ls 3 [(1, .int l1_38e)] → G_X13_regions p l e s m args below meth c g A h0 h1 h2 h3 h4 h5 h6 h7 h8 h9 h10 h11 h12 h13 x_g x_kept x_saved x_before x_was x_parts x_next x_ways x_more x_whole x_isSaved x_changes x_isWithin x_code x_input x_length x_fault x_failed x_signs x_signMany x_at x_told x_toldMany res H locs 38 ls [])
    : ∀ (n : Nat) (l1_8 : Int32) (l2_8 : Int32) (H : Heap) (locs : List Loc) (ls : Array Slot), f_X13_regions_8 x_region z38 n l1_8 l2_8 = some res → Wo g A s H locs (w_X13 g h0 h1 h2 h3 h4 h5 h6 h7 h8 h9 h10 h11 h12 h13 x_g x_kept x_saved x_before x_was x_region x_parts x_next x_ways x_more x_whole x_isSaved x_changes x_isWithin x_code x_input x_length x_fault x_failed x_signs x_signMany x_at x_told x_toldMany) → lv_has ls 3 [(0, .ref h0), (1, .int l1_8), (2, .int l2_8)] → G_X13_regions p l e s m args below meth c g A h0 h1 h2 h3 h4 h5 h6 h7 h8 h9 h10 h11 h12 h13 x_g x_kept x_saved x_before x_was x_parts x_next x_ways x_more x_whole x_isSaved x_changes x_isWithin x_code x_input x_length x_fault x_failed x_signs x_signMany x_at x_told x_toldMany res H locs 8 ls [] := by
  have hts := E.2.2.2.1
  intro n
  induction n with
  | zero => intro l1_8 l2_8 H locs ls h hW hl; rw [f_X13_regions_8] at h; cases h
  | succ n ih =>
    intro l1_8 l2_8 H locs ls h hW hl
    rw [f_X13_regions_8] at h
    refine lv_iload_n E.1 E.2.1 dX13_regions_8 rfl (lv_at hl 2 rfl) ?_
    refine lv_bipush (v := 25) E.1 E.2.1 dX13_regions_9 (by decide) ?_
    refine lv_icmp_ge (tgt := 38) E.1 E.2.1 dX13_regions_11 (by decide) (fun c11 => ?_) (fun c11 => ?_)
    · have h := it c11 h
      exact hz38 l1_8 H locs ls h hW (lv_sub hl [1] rfl)
    · have h := ie c11 h
      obtain ⟨j30, hj30, h⟩ := jox2 h
      have J30 : ∀ (s0_30 : Int32) (s1_30 : Int32) (H : Heap) (locs : List Loc) (ls : Array Slot), j30 s0_30 s1_30 = some res → Wo g A s H locs (w_X13 g h0 h1 h2 h3 h4 h5 h6 h7 h8 h9 h10 h11 h12 h13 x_g x_kept x_saved x_before x_was x_region x_parts x_next x_ways x_more x_whole x_isSaved x_changes x_isWithin x_code x_input x_length x_fault x_failed x_signs x_signMany x_at x_told x_toldMany) → lv_has ls 3 [(0, .ref h0), (2, .int l2_8)] → G_X13_regions p l e s m args below meth c g A h0 h1 h2 h3 h4 h5 h6 h7 h8 h9 h10 h11 h12 h13 x_g x_kept x_saved x_before x_was x_parts x_next x_ways x_more x_whole x_isSaved x_changes x_isWithin x_code x_input x_length x_fault x_failed x_signs x_signMany x_at x_told x_toldMany res H locs 30 ls [.int s1_30, .int s0_30] := by
        intro s0_30 s1_30 H locs ls h hW hl
        rw [hj30] at h
        refine lv_iadd E.1 E.2.1 dX13_regions_30 ?_
        refine lv_istore_n (lv' := [(1, .int (s0_30 + s1_30)), (0, .ref h0), (2, .int l2_8)]) E.1 E.2.1 dX13_regions_31 rfl hl (by decide) rfl (fun ls hl => ?_)
        refine lv_iinc (v := (l2_8 + 1)) (lv' := [(2, .int (l2_8 + 1)), (1, .int (s0_30 + s1_30)), (0, .ref h0)]) E.1 E.2.1 dX13_regions_32 hl (k := 2) rfl rfl (by decide) rfl (fun ls hl => ?_)
        refine lv_goto (tgt := 8) E.1 E.2.1 dX13_regions_35 (by decide) ?_
        exact ih (s0_30 + s1_30) (l2_8 + 1) H locs ls h hW (lv_sub hl [2, 1, 0] rfl)
      refine lv_iload_n E.1 E.2.1 dX13_regions_14 rfl (lv_at hl 1 rfl) ?_
      refine lv_aload_n E.1 E.2.1 dX13_regions_15 rfl (lv_at hl 0 rfl) ?_
      refine wGet (v := .ref h6) E hK in_X13_regions_X13 hW 5 lk_X13_regions_25 0 rfl rfl (by decide) rfl rfl dX13_regions_16 ?_
      refine lv_iload_n E.1 E.2.1 dX13_regions_19 rfl (lv_at hl 2 rfl) ?_
      obtain ⟨hi20, h⟩ := ox h
      refine wIald E hK hW 6 rfl hi20 dX13_regions_20 ?_
      refine lv_iload_n E.1 E.2.1 dX13_regions_21 rfl (lv_at hl 2 rfl) ?_
      refine lv_icmp_ne (tgt := 29) E.1 E.2.1 dX13_regions_22 (by decide) (fun c22 => ?_) (fun c22 => ?_)
      · have h := ie c22 h
        refine lv_iconst (v := 0) E.1 E.2.1 dX13_regions_29 (by decide) ?_
        exact J30 l1_8 0 H locs ls h hW (lv_sub hl [0, 2] rfl)
      · have h := it c22 h
        refine lv_iconst (v := 1) E.1 E.2.1 dX13_regions_25 (by decide) ?_
        refine lv_goto (tgt := 30) E.1 E.2.1 dX13_regions_26 (by decide) ?_
        exact J30 l1_8 1 H locs ls h hW (lv_sub hl [0, 2] rfl)
set_option maxHeartbeats 4000000 in
set_option maxRecDepth 100000 in
theorem k_X13_regions_0 {p : Program} {l : Launch} {e : Env} {s : State} {m : MethodId} {args : Array Value} {below : List Frame} {meth : Method} {c : Code} {g : GE} {A : Nat → Prop} {h0 h1 h2 h3 h4 h5 h6 h7 h8 h9 h10 h11 h12 h13 : Nat} {x_g : Nat → Int32} {x_kept : Nat → Int32} {x_saved : Nat → Int32} {x_before : Nat → Int32} {x_was : Nat → Int32} {x_region : Nat → Int32} {x_parts : Nat → Int64} {x_next : Nat → Int64} {x_ways : Nat → Int32} {x_more : Nat → Int32} {x_whole : Int64} {x_isSaved : Int32} {x_changes : Int32} {x_isWithin : Int32} {x_code : Int32} {x_input : Nat → Int32} {x_length : Int32} {x_fault : Int32} {x_failed : Int32} {x_signs : Nat → Int32} {x_signMany : Int32} {x_at : Int32} {x_told : Nat → Int32} {x_toldMany : Int32} {res : Int32 × (Nat → Int32)} {H : Heap} {locs : List Loc} {ls : Array Slot} 
    (E : En cX13_regions RX13 wsX13_regions 3 (some .int) p s m args meth c) (hK : KK g s) (hA : ∀ q, s.heap.size ≤ q → A q) (h : f_X13_regions x_g x_region = some res) (hW : Wo g A s H locs (w_X13 g h0 h1 h2 h3 h4 h5 h6 h7 h8 h9 h10 h11 h12 h13 x_g x_kept x_saved x_before x_was x_region x_parts x_next x_ways x_more x_whole x_isSaved x_changes x_isWithin x_code x_input x_length x_fault x_failed x_signs x_signMany x_at x_told x_toldMany)) (hl : lv_has ls 3 [(0, .ref h0)]) : G_X13_regions p l e s m args below meth c g A h0 h1 h2 h3 h4 h5 h6 h7 h8 h9 h10 h11 h12 h13 x_g x_kept x_saved x_before x_was x_parts x_next x_ways x_more x_whole x_isSaved x_changes x_isWithin x_code x_input x_length x_fault x_failed x_signs x_signMany x_at x_told x_toldMany res H locs 0 ls [] := by
  have hts := E.2.2.2.1
  unfold f_X13_regions at h
  refine lv_aload_n E.1 E.2.1 dX13_regions_0 rfl (lv_at hl 0 rfl) ?_
  obtain ⟨r1, hc, h⟩ := bx h
  refine goU (world' := (w_X13 g h0 h1 h2 h3 h4 h5 h6 h7 h8 h9 h10 h11 h12 h13 x_g x_kept x_saved x_before x_was r1 x_parts x_next x_ways x_more x_whole x_isSaved x_changes x_isWithin x_code x_input x_length x_fault x_failed x_signs x_signMany x_at x_told x_toldMany)) hW hA (is := [0, 1, 2, 3, 4, 5, 6, 7, 8, 9, 10, 11, 12, 13]) rfl (goV (rest := []) E hK hW [0, 1, 2, 3, 4, 5, 6, 7, 8, 9, 10, 11, 12, 13] rfl rfl (c_X13_parted l g h0 h1 h2 h3 h4 h5 h6 h7 h8 h9 h10 h11 h12 h13 x_g x_kept x_saved x_before x_was x_region x_parts x_next x_ways x_more x_whole x_isSaved x_changes x_isWithin x_code x_input x_length x_fault x_failed x_signs x_signMany x_at x_told x_toldMany (hf := hc) H.size) (cwV 0 hts gX13_regions_X13_parted rfl rfl rfl (by decide +kernel) ⟨Nat.le_of_ble_eq_true rfl, Nat.le_of_ble_eq_true rfl⟩) 0 rfl rfl rfl hl.1 rfl rfl (Nat.le_of_ble_eq_true rfl) dX13_regions_1 ⟨Nat.zero_le _, Nat.zero_le _⟩) rfl rfl (fun H locs hW => ?_)
  refine lv_iconst (v := 0) E.1 E.2.1 dX13_regions_4 (by decide) ?_
  refine lv_istore_n (lv' := [(1, .int 0), (0, .ref h0)]) E.1 E.2.1 dX13_regions_5 rfl hl (by decide) rfl (fun ls hl => ?_)
  refine lv_iconst (v := 0) E.1 E.2.1 dX13_regions_6 (by decide) ?_
  refine lv_istore_n (lv' := [(2, .int 0), (1, .int 0), (0, .ref h0)]) E.1 E.2.1 dX13_regions_7 rfl hl (by decide) rfl (fun ls hl => ?_)
  refine k_X13_regions_8 E hK hA ?_ 1000 0 0 H locs ls h hW (lv_sub hl [2, 1, 0] rfl)
  · intro l1_38e H locs ls h hW hl
    refine lv_iload_n E.1 E.2.1 dX13_regions_38 rfl (lv_at hl 0 rfl) ?_
    obtain rfl := Option.some.inj h
    exact endI E rfl hW dX13_regions_39
theorem c_X13_regions (l : Launch) (g : GE) (h0 h1 h2 h3 h4 h5 h6 h7 h8 h9 h10 h11 h12 h13 : Nat) (x_g : Nat → Int32) (x_kept : Nat → Int32) (x_saved : Nat → Int32) (x_before : Nat → Int32) (x_was : Nat → Int32) (x_region : Nat → Int32) (x_parts : Nat → Int64) (x_next : Nat → Int64) (x_ways : Nat → Int32) (x_more : Nat → Int32) (x_whole : Int64) (x_isSaved : Int32) (x_changes : Int32) (x_isWithin : Int32) (x_code : Int32) (x_input : Nat → Int32) (x_length : Int32) (x_fault : Int32) (x_failed : Int32) (x_signs : Nat → Int32) (x_signMany : Int32) (x_at : Int32) (x_told : Nat → Int32) (x_toldMany : Int32) {res : Int32 × (Nat → Int32)} (hf : f_X13_regions x_g x_region = some res) : CI l yX13_regions wsX13_regions rm_X13_regions g [.ref h0] (w_X13 g h0 h1 h2 h3 h4 h5 h6 h7 h8 h9 h10 h11 h12 h13 x_g x_kept x_saved x_before x_was x_region x_parts x_next x_ways x_more x_whole x_isSaved x_changes x_isWithin x_code x_input x_length x_fault x_failed x_signs x_signMany x_at x_told x_toldMany) (w_X13 g h0 h1 h2 h3 h4 h5 h6 h7 h8 h9 h10 h11 h12 h13 x_g x_kept x_saved x_before x_was res.2 x_parts x_next x_ways x_more x_whole x_isSaved x_changes x_isWithin x_code x_input x_length x_fault x_failed x_signs x_signMany x_at x_told x_toldMany) res.1 :=
  mkI (cc := cX13_regions) (maxL := 3) (by decide) rfl (Nat.le_of_ble_eq_true rfl) (fun p e s m args below meth c A H locs ls E hK hA hW hl => k_X13_regions_0 E hK hA hf hW hl)

/-! PaperStormModel.regionCount()I X13_regionCount -/
abbrev rm_X13_regionCount : Room := { frames := 5, cells := 0, slots := 0, locals := 108 }
theorem in_X13_regionCount_X13 : ∀ w ∈ wsX130, w ∈ wsX13_regionCount := by decide +kernel
theorem lk_X13_regionCount_58 : Cond.fieldLink RX13 58 "PaperStormModel" "code" "I" ∈ wsX13_regionCount := by decide +kernel
noncomputable def f_X13_regionCount (x_g : Nat → Int32) (x_region : Nat → Int32) (x_code : Int32) : Option (Int32 × (Nat → Int32) × Int32) :=
  (f_X13_regions x_g x_region).bind fun r6 => some (r6.1, r6.2, 0)
abbrev G_X13_regionCount (p : Program) (l : Launch) (e : Env) (s : State) (m : MethodId) (args : Array Value) (below : List Frame) (meth : Method) (c : Code) (g : GE) (A : Nat → Prop) (h0 h1 h2 h3 h4 h5 h6 h7 h8 h9 h10 h11 h12 h13 : Nat) (x_g : Nat → Int32) (x_kept : Nat → Int32) (x_saved : Nat → Int32) (x_before : Nat → Int32) (x_was : Nat → Int32) (x_parts : Nat → Int64) (x_next : Nat → Int64) (x_ways : Nat → Int32) (x_more : Nat → Int32) (x_whole : Int64) (x_isSaved : Int32) (x_changes : Int32) (x_isWithin : Int32) (x_input : Nat → Int32) (x_length : Int32) (x_fault : Int32) (x_failed : Int32) (x_signs : Nat → Int32) (x_signMany : Int32) (x_at : Int32) (x_told : Nat → Int32) (x_toldMany : Int32) (res : Int32 × (Nat → Int32) × Int32) (H : Heap) (locs : List Loc) (pc : Nat) (ls : Array Slot) (st : List Value) : Prop := W p l e (headSpec wsX13_regionCount rm_X13_regionCount).room s m args below meth c H locs 0 0 (MQ below (PoI g A (w_X13 g h0 h1 h2 h3 h4 h5 h6 h7 h8 h9 h10 h11 h12 h13 x_g x_kept x_saved x_before x_was res.2.1 x_parts x_next x_ways x_more x_whole x_isSaved x_changes x_isWithin res.2.2 x_input x_length x_fault x_failed x_signs x_signMany x_at x_told x_toldMany) res.1) args s 0 0 A) (F0 m pc ls st)
set_option maxHeartbeats 4000000 in
set_option maxRecDepth 100000 in
theorem k_X13_regionCount_0 {p : Program} {l : Launch} {e : Env} {s : State} {m : MethodId} {args : Array Value} {below : List Frame} {meth : Method} {c : Code} {g : GE} {A : Nat → Prop} {h0 h1 h2 h3 h4 h5 h6 h7 h8 h9 h10 h11 h12 h13 : Nat} {x_g : Nat → Int32} {x_kept : Nat → Int32} {x_saved : Nat → Int32} {x_before : Nat → Int32} {x_was : Nat → Int32} {x_region : Nat → Int32} {x_parts : Nat → Int64} {x_next : Nat → Int64} {x_ways : Nat → Int32} {x_more : Nat → Int32} {x_whole : Int64} {x_isSaved : Int32} {x_changes : Int32} {x_isWithin : Int32} {x_code : Int32} {x_input : Nat → Int32} {x_length : Int32} {x_fault : Int32} {x_failed : Int32} {x_signs : Nat → Int32} {x_signMany : Int32} {x_at : Int32} {x_told : Nat → Int32} {x_toldMany : Int32} {res : Int32 × (Nat → Int32) × Int32} {H : Heap} {locs : List Loc} {ls : Array Slot} 
    (E : En cX13_regionCount RX13 wsX13_regionCount 1 (some .int) p s m args meth c) (hK : KK g s) (hA : ∀ q, s.heap.size ≤ q → A q) (h : f_X13_regionCount x_g x_region x_code = some res) (hW : Wo g A s H locs (w_X13 g h0 h1 h2 h3 h4 h5 h6 h7 h8 h9 h10 h11 h12 h13 x_g x_kept x_saved x_before x_was x_region x_parts x_next x_ways x_more x_whole x_isSaved x_changes x_isWithin x_code x_input x_length x_fault x_failed x_signs x_signMany x_at x_told x_toldMany)) (hl : lv_has ls 1 [(0, .ref h0)]) : G_X13_regionCount p l e s m args below meth c g A h0 h1 h2 h3 h4 h5 h6 h7 h8 h9 h10 h11 h12 h13 x_g x_kept x_saved x_before x_was x_parts x_next x_ways x_more x_whole x_isSaved x_changes x_isWithin x_input x_length x_fault x_failed x_signs x_signMany x_at x_told x_toldMany res H locs 0 ls [] := by
  have hts := E.2.2.2.1
  unfold f_X13_regionCount at h
  refine lv_aload_n E.1 E.2.1 dX13_regionCount_0 rfl (lv_at hl 0 rfl) ?_
  refine lv_iconst (v := 0) E.1 E.2.1 dX13_regionCount_1 (by decide) ?_
  refine wPut (world' := (w_X13 g h0 h1 h2 h3 h4 h5 h6 h7 h8 h9 h10 h11 h12 h13 x_g x_kept x_saved x_before x_was x_region x_parts x_next x_ways x_more x_whole x_isSaved x_changes x_isWithin 0 x_input x_length x_fault x_failed x_signs x_signMany x_at x_told x_toldMany)) E hK in_X13_regionCount_X13 tyX13 tyX13_ok nmX13 hW 14 lk_X13_regionCount_58 0 rfl rfl (by decide) rfl rfl rfl rfl rfl (Nat.le_of_ble_eq_true rfl) dX13_regionCount_2 rfl (fun H locs hW => ?_)
  refine lv_aload_n E.1 E.2.1 dX13_regionCount_5 rfl (lv_at hl 0 rfl) ?_
  obtain ⟨r6, hc, h⟩ := bx h
  refine goI (world' := (w_X13 g h0 h1 h2 h3 h4 h5 h6 h7 h8 h9 h10 h11 h12 h13 x_g x_kept x_saved x_before x_was r6.2 x_parts x_next x_ways x_more x_whole x_isSaved x_changes x_isWithin 0 x_input x_length x_fault x_failed x_signs x_signMany x_at x_told x_toldMany)) hW hA (is := [0, 1, 2, 3, 4, 5, 6, 7, 8, 9, 10, 11, 12, 13]) rfl (goV (rest := []) E hK hW [0, 1, 2, 3, 4, 5, 6, 7, 8, 9, 10, 11, 12, 13] rfl rfl (c_X13_regions l g h0 h1 h2 h3 h4 h5 h6 h7 h8 h9 h10 h11 h12 h13 x_g x_kept x_saved x_before x_was x_region x_parts x_next x_ways x_more x_whole x_isSaved x_changes x_isWithin 0 x_input x_length x_fault x_failed x_signs x_signMany x_at x_told x_toldMany (hf := hc) H.size) (cwV 0 hts gX13_regionCount_X13_regions rfl rfl rfl (by decide +kernel) ⟨Nat.le_of_ble_eq_true rfl, Nat.le_of_ble_eq_true rfl⟩) 0 rfl rfl rfl hl.1 rfl rfl (Nat.le_of_ble_eq_true rfl) dX13_regionCount_6 ⟨Nat.zero_le _, Nat.zero_le _⟩) rfl rfl (fun H locs hW => ?_)
  obtain rfl := Option.some.inj h
  exact endI E rfl hW dX13_regionCount_9
theorem c_X13_regionCount (l : Launch) (g : GE) (h0 h1 h2 h3 h4 h5 h6 h7 h8 h9 h10 h11 h12 h13 : Nat) (x_g : Nat → Int32) (x_kept : Nat → Int32) (x_saved : Nat → Int32) (x_before : Nat → Int32) (x_was : Nat → Int32) (x_region : Nat → Int32) (x_parts : Nat → Int64) (x_next : Nat → Int64) (x_ways : Nat → Int32) (x_more : Nat → Int32) (x_whole : Int64) (x_isSaved : Int32) (x_changes : Int32) (x_isWithin : Int32) (x_code : Int32) (x_input : Nat → Int32) (x_length : Int32) (x_fault : Int32) (x_failed : Int32) (x_signs : Nat → Int32) (x_signMany : Int32) (x_at : Int32) (x_told : Nat → Int32) (x_toldMany : Int32) {res : Int32 × (Nat → Int32) × Int32} (hf : f_X13_regionCount x_g x_region x_code = some res) : CI l yX13_regionCount wsX13_regionCount rm_X13_regionCount g [.ref h0] (w_X13 g h0 h1 h2 h3 h4 h5 h6 h7 h8 h9 h10 h11 h12 h13 x_g x_kept x_saved x_before x_was x_region x_parts x_next x_ways x_more x_whole x_isSaved x_changes x_isWithin x_code x_input x_length x_fault x_failed x_signs x_signMany x_at x_told x_toldMany) (w_X13 g h0 h1 h2 h3 h4 h5 h6 h7 h8 h9 h10 h11 h12 h13 x_g x_kept x_saved x_before x_was res.2.1 x_parts x_next x_ways x_more x_whole x_isSaved x_changes x_isWithin res.2.2 x_input x_length x_fault x_failed x_signs x_signMany x_at x_told x_toldMany) res.1 :=
  mkI (cc := cX13_regionCount) (maxL := 1) (by decide) rfl (Nat.le_of_ble_eq_true rfl) (fun p e s m args below meth c A H locs ls E hK hA hW hl => k_X13_regionCount_0 E hK hA hf hW hl)

/-! PaperStormModel.regionCountByUnion()I X13_regionCountByUnion -/
abbrev rm_X13_regionCountByUnion : Room := { frames := 5, cells := 0, slots := 0, locals := 108 }
theorem in_X13_regionCountByUnion_X13 : ∀ w ∈ wsX130, w ∈ wsX13_regionCountByUnion := by decide +kernel
theorem lk_X13_regionCountByUnion_58 : Cond.fieldLink RX13 58 "PaperStormModel" "code" "I" ∈ wsX13_regionCountByUnion := by decide +kernel
noncomputable def f_X13_regionCountByUnion (x_g : Nat → Int32) (x_region : Nat → Int32) (x_code : Int32) : Option (Int32 × (Nat → Int32) × Int32) :=
  (f_X13_regions x_g x_region).bind fun r6 => some (r6.1, r6.2, 0)
abbrev G_X13_regionCountByUnion (p : Program) (l : Launch) (e : Env) (s : State) (m : MethodId) (args : Array Value) (below : List Frame) (meth : Method) (c : Code) (g : GE) (A : Nat → Prop) (h0 h1 h2 h3 h4 h5 h6 h7 h8 h9 h10 h11 h12 h13 : Nat) (x_g : Nat → Int32) (x_kept : Nat → Int32) (x_saved : Nat → Int32) (x_before : Nat → Int32) (x_was : Nat → Int32) (x_parts : Nat → Int64) (x_next : Nat → Int64) (x_ways : Nat → Int32) (x_more : Nat → Int32) (x_whole : Int64) (x_isSaved : Int32) (x_changes : Int32) (x_isWithin : Int32) (x_input : Nat → Int32) (x_length : Int32) (x_fault : Int32) (x_failed : Int32) (x_signs : Nat → Int32) (x_signMany : Int32) (x_at : Int32) (x_told : Nat → Int32) (x_toldMany : Int32) (res : Int32 × (Nat → Int32) × Int32) (H : Heap) (locs : List Loc) (pc : Nat) (ls : Array Slot) (st : List Value) : Prop := W p l e (headSpec wsX13_regionCountByUnion rm_X13_regionCountByUnion).room s m args below meth c H locs 0 0 (MQ below (PoI g A (w_X13 g h0 h1 h2 h3 h4 h5 h6 h7 h8 h9 h10 h11 h12 h13 x_g x_kept x_saved x_before x_was res.2.1 x_parts x_next x_ways x_more x_whole x_isSaved x_changes x_isWithin res.2.2 x_input x_length x_fault x_failed x_signs x_signMany x_at x_told x_toldMany) res.1) args s 0 0 A) (F0 m pc ls st)
set_option maxHeartbeats 4000000 in
set_option maxRecDepth 100000 in
theorem k_X13_regionCountByUnion_0 {p : Program} {l : Launch} {e : Env} {s : State} {m : MethodId} {args : Array Value} {below : List Frame} {meth : Method} {c : Code} {g : GE} {A : Nat → Prop} {h0 h1 h2 h3 h4 h5 h6 h7 h8 h9 h10 h11 h12 h13 : Nat} {x_g : Nat → Int32} {x_kept : Nat → Int32} {x_saved : Nat → Int32} {x_before : Nat → Int32} {x_was : Nat → Int32} {x_region : Nat → Int32} {x_parts : Nat → Int64} {x_next : Nat → Int64} {x_ways : Nat → Int32} {x_more : Nat → Int32} {x_whole : Int64} {x_isSaved : Int32} {x_changes : Int32} {x_isWithin : Int32} {x_code : Int32} {x_input : Nat → Int32} {x_length : Int32} {x_fault : Int32} {x_failed : Int32} {x_signs : Nat → Int32} {x_signMany : Int32} {x_at : Int32} {x_told : Nat → Int32} {x_toldMany : Int32} {res : Int32 × (Nat → Int32) × Int32} {H : Heap} {locs : List Loc} {ls : Array Slot} 
    (E : En cX13_regionCountByUnion RX13 wsX13_regionCountByUnion 1 (some .int) p s m args meth c) (hK : KK g s) (hA : ∀ q, s.heap.size ≤ q → A q) (h : f_X13_regionCountByUnion x_g x_region x_code = some res) (hW : Wo g A s H locs (w_X13 g h0 h1 h2 h3 h4 h5 h6 h7 h8 h9 h10 h11 h12 h13 x_g x_kept x_saved x_before x_was x_region x_parts x_next x_ways x_more x_whole x_isSaved x_changes x_isWithin x_code x_input x_length x_fault x_failed x_signs x_signMany x_at x_told x_toldMany)) (hl : lv_has ls 1 [(0, .ref h0)]) : G_X13_regionCountByUnion p l e s m args below meth c g A h0 h1 h2 h3 h4 h5 h6 h7 h8 h9 h10 h11 h12 h13 x_g x_kept x_saved x_before x_was x_parts x_next x_ways x_more x_whole x_isSaved x_changes x_isWithin x_input x_length x_fault x_failed x_signs x_signMany x_at x_told x_toldMany res H locs 0 ls [] := by
  have hts := E.2.2.2.1
  unfold f_X13_regionCountByUnion at h
  refine lv_aload_n E.1 E.2.1 dX13_regionCountByUnion_0 rfl (lv_at hl 0 rfl) ?_
  refine lv_iconst (v := 0) E.1 E.2.1 dX13_regionCountByUnion_1 (by decide) ?_
  refine wPut (world' := (w_X13 g h0 h1 h2 h3 h4 h5 h6 h7 h8 h9 h10 h11 h12 h13 x_g x_kept x_saved x_before x_was x_region x_parts x_next x_ways x_more x_whole x_isSaved x_changes x_isWithin 0 x_input x_length x_fault x_failed x_signs x_signMany x_at x_told x_toldMany)) E hK in_X13_regionCountByUnion_X13 tyX13 tyX13_ok nmX13 hW 14 lk_X13_regionCountByUnion_58 0 rfl rfl (by decide) rfl rfl rfl rfl rfl (Nat.le_of_ble_eq_true rfl) dX13_regionCountByUnion_2 rfl (fun H locs hW => ?_)
  refine lv_aload_n E.1 E.2.1 dX13_regionCountByUnion_5 rfl (lv_at hl 0 rfl) ?_
  obtain ⟨r6, hc, h⟩ := bx h
  refine goI (world' := (w_X13 g h0 h1 h2 h3 h4 h5 h6 h7 h8 h9 h10 h11 h12 h13 x_g x_kept x_saved x_before x_was r6.2 x_parts x_next x_ways x_more x_whole x_isSaved x_changes x_isWithin 0 x_input x_length x_fault x_failed x_signs x_signMany x_at x_told x_toldMany)) hW hA (is := [0, 1, 2, 3, 4, 5, 6, 7, 8, 9, 10, 11, 12, 13]) rfl (goV (rest := []) E hK hW [0, 1, 2, 3, 4, 5, 6, 7, 8, 9, 10, 11, 12, 13] rfl rfl (c_X13_regions l g h0 h1 h2 h3 h4 h5 h6 h7 h8 h9 h10 h11 h12 h13 x_g x_kept x_saved x_before x_was x_region x_parts x_next x_ways x_more x_whole x_isSaved x_changes x_isWithin 0 x_input x_length x_fault x_failed x_signs x_signMany x_at x_told x_toldMany (hf := hc) H.size) (cwV 0 hts gX13_regionCountByUnion_X13_regions rfl rfl rfl (by decide +kernel) ⟨Nat.le_of_ble_eq_true rfl, Nat.le_of_ble_eq_true rfl⟩) 0 rfl rfl rfl hl.1 rfl rfl (Nat.le_of_ble_eq_true rfl) dX13_regionCountByUnion_6 ⟨Nat.zero_le _, Nat.zero_le _⟩) rfl rfl (fun H locs hW => ?_)
  obtain rfl := Option.some.inj h
  exact endI E rfl hW dX13_regionCountByUnion_9
theorem c_X13_regionCountByUnion (l : Launch) (g : GE) (h0 h1 h2 h3 h4 h5 h6 h7 h8 h9 h10 h11 h12 h13 : Nat) (x_g : Nat → Int32) (x_kept : Nat → Int32) (x_saved : Nat → Int32) (x_before : Nat → Int32) (x_was : Nat → Int32) (x_region : Nat → Int32) (x_parts : Nat → Int64) (x_next : Nat → Int64) (x_ways : Nat → Int32) (x_more : Nat → Int32) (x_whole : Int64) (x_isSaved : Int32) (x_changes : Int32) (x_isWithin : Int32) (x_code : Int32) (x_input : Nat → Int32) (x_length : Int32) (x_fault : Int32) (x_failed : Int32) (x_signs : Nat → Int32) (x_signMany : Int32) (x_at : Int32) (x_told : Nat → Int32) (x_toldMany : Int32) {res : Int32 × (Nat → Int32) × Int32} (hf : f_X13_regionCountByUnion x_g x_region x_code = some res) : CI l yX13_regionCountByUnion wsX13_regionCountByUnion rm_X13_regionCountByUnion g [.ref h0] (w_X13 g h0 h1 h2 h3 h4 h5 h6 h7 h8 h9 h10 h11 h12 h13 x_g x_kept x_saved x_before x_was x_region x_parts x_next x_ways x_more x_whole x_isSaved x_changes x_isWithin x_code x_input x_length x_fault x_failed x_signs x_signMany x_at x_told x_toldMany) (w_X13 g h0 h1 h2 h3 h4 h5 h6 h7 h8 h9 h10 h11 h12 h13 x_g x_kept x_saved x_before x_was res.2.1 x_parts x_next x_ways x_more x_whole x_isSaved x_changes x_isWithin res.2.2 x_input x_length x_fault x_failed x_signs x_signMany x_at x_told x_toldMany) res.1 :=
  mkI (cc := cX13_regionCountByUnion) (maxL := 1) (by decide) rfl (Nat.le_of_ble_eq_true rfl) (fun p e s m args below meth c A H locs ls E hK hA hW hl => k_X13_regionCountByUnion_0 E hK hA hf hW hl)

/-! PaperStormModel.regionSize(II)I X13_regionSize -/
abbrev rm_X13_regionSize : Room := { frames := 4, cells := 0, slots := 0, locals := 86 }
theorem in_X13_regionSize_X13 : ∀ w ∈ wsX130, w ∈ wsX13_regionSize := by decide +kernel
theorem lk_X13_regionSize_25 : Cond.fieldLink RX13 25 "PaperStormModel" "region" "[I" ∈ wsX13_regionSize := by decide +kernel
noncomputable def f_X13_regionSize_31 (x_region : Nat → Int32) (l1 : Int32) (l2 : Int32) (z72 : Int32 → Option (Int32 × (Nat → Int32) × Int32)) : Nat → Int32 → Int32 → Option (Int32 × (Nat → Int32) × Int32)
  | 0, _, _ => none
  | n + 1, l3_31, l4_31 => if 25 ≤ l4_31 then z72 l3_31 else jo (fun (s0_64 : Int32) (s1_64 : Int32) => f_X13_regionSize_31 x_region l1 l2 z72 n (s0_64 + s1_64) (l4_31 + 1)) (fun j64 => if l4_31 < 0 ∨ 25 ≤ l4_31.toNatClampNeg then none else if ((5 * l1) + l2) < 0 ∨ 25 ≤ ((5 * l1) + l2).toNatClampNeg then none else if (x_region l4_31.toNatClampNeg) = (x_region ((5 * l1) + l2).toNatClampNeg) then j64 l3_31 1 else j64 l3_31 0)
noncomputable def f_X13_regionSize (x_g : Nat → Int32) (x_region : Nat → Int32) (x_code : Int32) (a1 : Int32) (a2 : Int32) : Option (Int32 × (Nat → Int32) × Int32) :=
  jo (fun (s1_14 : Int32) => (f_X13_fails x_code s1_14).bind fun r14 => if r14.1 = 0 then (f_X13_parted x_g x_region).bind fun r23 => f_X13_regionSize_31 r23 a1 a2 (fun l3_72e => some (l3_72e, r23, r14.2)) 1000 0 0 else some (0, x_region, r14.2)) (fun j14 => (f_X13_isCell a1 a2).bind fun r3 => if r3 = 0 then j14 1 else j14 0)
abbrev G_X13_regionSize (p : Program) (l : Launch) (e : Env) (s : State) (m : MethodId) (args : Array Value) (below : List Frame) (meth : Method) (c : Code) (g : GE) (A : Nat → Prop) (h0 h1 h2 h3 h4 h5 h6 h7 h8 h9 h10 h11 h12 h13 : Nat) (x_g : Nat → Int32) (x_kept : Nat → Int32) (x_saved : Nat → Int32) (x_before : Nat → Int32) (x_was : Nat → Int32) (x_parts : Nat → Int64) (x_next : Nat → Int64) (x_ways : Nat → Int32) (x_more : Nat → Int32) (x_whole : Int64) (x_isSaved : Int32) (x_changes : Int32) (x_isWithin : Int32) (x_input : Nat → Int32) (x_length : Int32) (x_fault : Int32) (x_failed : Int32) (x_signs : Nat → Int32) (x_signMany : Int32) (x_at : Int32) (x_told : Nat → Int32) (x_toldMany : Int32) (res : Int32 × (Nat → Int32) × Int32) (H : Heap) (locs : List Loc) (pc : Nat) (ls : Array Slot) (st : List Value) : Prop := W p l e (headSpec wsX13_regionSize rm_X13_regionSize).room s m args below meth c H locs 0 0 (MQ below (PoI g A (w_X13 g h0 h1 h2 h3 h4 h5 h6 h7 h8 h9 h10 h11 h12 h13 x_g x_kept x_saved x_before x_was res.2.1 x_parts x_next x_ways x_more x_whole x_isSaved x_changes x_isWithin res.2.2 x_input x_length x_fault x_failed x_signs x_signMany x_at x_told x_toldMany) res.1) args s 0 0 A) (F0 m pc ls st)
set_option maxHeartbeats 4000000 in
set_option maxRecDepth 100000 in
theorem k_X13_regionSize_31 {p : Program} {l : Launch} {e : Env} {s : State} {m : MethodId} {args : Array Value} {below : List Frame} {meth : Method} {c : Code} {g : GE} {A : Nat → Prop} {h0 h1 h2 h3 h4 h5 h6 h7 h8 h9 h10 h11 h12 h13 : Nat} {x_g : Nat → Int32} {x_kept : Nat → Int32} {x_saved : Nat → Int32} {x_before : Nat → Int32} {x_was : Nat → Int32} {x_region : Nat → Int32} {x_parts : Nat → Int64} {x_next : Nat → Int64} {x_ways : Nat → Int32} {x_more : Nat → Int32} {x_whole : Int64} {x_isSaved : Int32} {x_changes : Int32} {x_isWithin : Int32} {x_code : Int32} {x_input : Nat → Int32} {x_length : Int32} {x_fault : Int32} {x_failed : Int32} {x_signs : Nat → Int32} {x_signMany : Int32} {x_at : Int32} {x_told : Nat → Int32} {x_toldMany : Int32} {res : Int32 × (Nat → Int32) × Int32} {l1 : Int32} {l2 : Int32} {z72 : Int32 → Option (Int32 × (Nat → Int32) × Int32)}
    (E : En cX13_regionSize RX13 wsX13_regionSize 5 (some .int) p s m args meth c) (hK : KK g s) (hA : ∀ q, s.heap.size ≤ q → A q)
    (hz72 : ∀ (l3_72e : Int32) (H : Heap) (locs : List Loc) (ls : Array Slot), z72 l3_72e = some res → Wo g A s H locs (w_X13 g h0 h1 h2 h3 h4 h5 h6 h7 h8 h9 h10 h11 h12 h13 x_g x_kept x_saved x_before x_was x_region x_parts x_next x_ways x_more x_whole x_isSaved x_changes x_isWithin x_code x_input x_length x_fault x_failed x_signs x_signMany x_at x_told x_toldMany) → lv_has ls 5 [(3, .int l3_72e)] → G_X13_regionSize p l e s m args below meth c g A h0 h1 h2 h3 h4 h5 h6 h7 h8 h9 h10 h11 h12 h13 x_g x_kept x_saved x_before x_was x_parts x_next x_ways x_more x_whole x_isSaved x_changes x_isWithin x_input x_length x_fault x_failed x_signs x_signMany x_at x_told x_toldMany res H locs 72 ls [])
    : ∀ (n : Nat) (l3_31 : Int32) (l4_31 : Int32) (H : Heap) (locs : List Loc) (ls : Array Slot), f_X13_regionSize_31 x_region l1 l2 z72 n l3_31 l4_31 = some res → Wo g A s H locs (w_X13 g h0 h1 h2 h3 h4 h5 h6 h7 h8 h9 h10 h11 h12 h13 x_g x_kept x_saved x_before x_was x_region x_parts x_next x_ways x_more x_whole x_isSaved x_changes x_isWithin x_code x_input x_length x_fault x_failed x_signs x_signMany x_at x_told x_toldMany) → lv_has ls 5 [(0, .ref h0), (1, .int l1), (2, .int l2), (3, .int l3_31), (4, .int l4_31)] → G_X13_regionSize p l e s m args below meth c g A h0 h1 h2 h3 h4 h5 h6 h7 h8 h9 h10 h11 h12 h13 x_g x_kept x_saved x_before x_was x_parts x_next x_ways x_more x_whole x_isSaved x_changes x_isWithin x_input x_length x_fault x_failed x_signs x_signMany x_at x_told x_toldMany res H locs 31 ls [] := by
  have hts := E.2.2.2.1
  intro n
  induction n with
  | zero => intro l3_31 l4_31 H locs ls h hW hl; rw [f_X13_regionSize_31] at h; cases h
  | succ n ih =>
    intro l3_31 l4_31 H locs ls h hW hl
    rw [f_X13_regionSize_31] at h
    refine lv_iload E.1 E.2.1 dX13_regionSize_31 (lv_at hl 4 rfl) ?_
    refine lv_bipush (v := 25) E.1 E.2.1 dX13_regionSize_33 (by decide) ?_
    refine lv_icmp_ge (tgt := 72) E.1 E.2.1 dX13_regionSize_35 (by decide) (fun c35 => ?_) (fun c35 => ?_)
    · have h := it c35 h
      exact hz72 l3_31 H locs ls h hW (lv_sub hl [3] rfl)
    · have h := ie c35 h
      obtain ⟨j64, hj64, h⟩ := jox2 h
      have J64 : ∀ (s0_64 : Int32) (s1_64 : Int32) (H : Heap) (locs : List Loc) (ls : Array Slot), j64 s0_64 s1_64 = some res → Wo g A s H locs (w_X13 g h0 h1 h2 h3 h4 h5 h6 h7 h8 h9 h10 h11 h12 h13 x_g x_kept x_saved x_before x_was x_region x_parts x_next x_ways x_more x_whole x_isSaved x_changes x_isWithin x_code x_input x_length x_fault x_failed x_signs x_signMany x_at x_told x_toldMany) → lv_has ls 5 [(0, .ref h0), (1, .int l1), (2, .int l2), (4, .int l4_31)] → G_X13_regionSize p l e s m args below meth c g A h0 h1 h2 h3 h4 h5 h6 h7 h8 h9 h10 h11 h12 h13 x_g x_kept x_saved x_before x_was x_parts x_next x_ways x_more x_whole x_isSaved x_changes x_isWithin x_input x_length x_fault x_failed x_signs x_signMany x_at x_told x_toldMany res H locs 64 ls [.int s1_64, .int s0_64] := by
        intro s0_64 s1_64 H locs ls h hW hl
        rw [hj64] at h
        refine lv_iadd E.1 E.2.1 dX13_regionSize_64 ?_
        refine lv_istore_n (lv' := [(3, .int (s0_64 + s1_64)), (0, .ref h0), (1, .int l1), (2, .int l2), (4, .int l4_31)]) E.1 E.2.1 dX13_regionSize_65 rfl hl (by decide) rfl (fun ls hl => ?_)
        refine lv_iinc (v := (l4_31 + 1)) (lv' := [(4, .int (l4_31 + 1)), (3, .int (s0_64 + s1_64)), (0, .ref h0), (1, .int l1), (2, .int l2)]) E.1 E.2.1 dX13_regionSize_66 hl (k := 4) rfl rfl (by decide) rfl (fun ls hl => ?_)
        refine lv_goto (tgt := 31) E.1 E.2.1 dX13_regionSize_69 (by decide) ?_
        exact ih (s0_64 + s1_64) (l4_31 + 1) H locs ls h hW (lv_sub hl [2, 3, 4, 1, 0] rfl)
      refine lv_iload_n E.1 E.2.1 dX13_regionSize_38 rfl (lv_at hl 3 rfl) ?_
      refine lv_aload_n E.1 E.2.1 dX13_regionSize_39 rfl (lv_at hl 0 rfl) ?_
      refine wGet (v := .ref h6) E hK in_X13_regionSize_X13 hW 5 lk_X13_regionSize_25 0 rfl rfl (by decide) rfl rfl dX13_regionSize_40 ?_
      refine lv_iload E.1 E.2.1 dX13_regionSize_43 (lv_at hl 4 rfl) ?_
      obtain ⟨hi45, h⟩ := ox h
      refine wIald E hK hW 6 rfl hi45 dX13_regionSize_45 ?_
      refine lv_aload_n E.1 E.2.1 dX13_regionSize_46 rfl (lv_at hl 0 rfl) ?_
      refine wGet (v := .ref h6) E hK in_X13_regionSize_X13 hW 5 lk_X13_regionSize_25 0 rfl rfl (by decide) rfl rfl dX13_regionSize_47 ?_
      refine lv_iconst (v := 5) E.1 E.2.1 dX13_regionSize_50 (by decide) ?_
      refine lv_iload_n E.1 E.2.1 dX13_regionSize_51 rfl (lv_at hl 1 rfl) ?_
      refine lv_imul E.1 E.2.1 dX13_regionSize_52 ?_
      refine lv_iload_n E.1 E.2.1 dX13_regionSize_53 rfl (lv_at hl 2 rfl) ?_
      refine lv_iadd E.1 E.2.1 dX13_regionSize_54 ?_
      obtain ⟨hi55, h⟩ := ox h
      refine wIald E hK hW 6 rfl hi55 dX13_regionSize_55 ?_
      refine lv_icmp_ne (tgt := 63) E.1 E.2.1 dX13_regionSize_56 (by decide) (fun c56 => ?_) (fun c56 => ?_)
      · have h := ie c56 h
        refine lv_iconst (v := 0) E.1 E.2.1 dX13_regionSize_63 (by decide) ?_
        exact J64 l3_31 0 H locs ls h hW (lv_sub hl [0, 1, 2, 4] rfl)
      · have h := it c56 h
        refine lv_iconst (v := 1) E.1 E.2.1 dX13_regionSize_59 (by decide) ?_
        refine lv_goto (tgt := 64) E.1 E.2.1 dX13_regionSize_60 (by decide) ?_
        exact J64 l3_31 1 H locs ls h hW (lv_sub hl [0, 1, 2, 4] rfl)
set_option maxHeartbeats 4000000 in
set_option maxRecDepth 100000 in
theorem k_X13_regionSize_0 {p : Program} {l : Launch} {e : Env} {s : State} {m : MethodId} {args : Array Value} {below : List Frame} {meth : Method} {c : Code} {g : GE} {A : Nat → Prop} {h0 h1 h2 h3 h4 h5 h6 h7 h8 h9 h10 h11 h12 h13 : Nat} {x_g : Nat → Int32} {x_kept : Nat → Int32} {x_saved : Nat → Int32} {x_before : Nat → Int32} {x_was : Nat → Int32} {x_region : Nat → Int32} {x_parts : Nat → Int64} {x_next : Nat → Int64} {x_ways : Nat → Int32} {x_more : Nat → Int32} {x_whole : Int64} {x_isSaved : Int32} {x_changes : Int32} {x_isWithin : Int32} {x_code : Int32} {x_input : Nat → Int32} {x_length : Int32} {x_fault : Int32} {x_failed : Int32} {x_signs : Nat → Int32} {x_signMany : Int32} {x_at : Int32} {x_told : Nat → Int32} {x_toldMany : Int32} {res : Int32 × (Nat → Int32) × Int32} {H : Heap} {locs : List Loc} {ls : Array Slot} {a1 : Int32} {a2 : Int32}
    (E : En cX13_regionSize RX13 wsX13_regionSize 5 (some .int) p s m args meth c) (hK : KK g s) (hA : ∀ q, s.heap.size ≤ q → A q) (h : f_X13_regionSize x_g x_region x_code a1 a2 = some res) (hW : Wo g A s H locs (w_X13 g h0 h1 h2 h3 h4 h5 h6 h7 h8 h9 h10 h11 h12 h13 x_g x_kept x_saved x_before x_was x_region x_parts x_next x_ways x_more x_whole x_isSaved x_changes x_isWithin x_code x_input x_length x_fault x_failed x_signs x_signMany x_at x_told x_toldMany)) (hl : lv_has ls 5 [(0, .ref h0), (1, .int a1), (2, .int a2)]) : G_X13_regionSize p l e s m args below meth c g A h0 h1 h2 h3 h4 h5 h6 h7 h8 h9 h10 h11 h12 h13 x_g x_kept x_saved x_before x_was x_parts x_next x_ways x_more x_whole x_isSaved x_changes x_isWithin x_input x_length x_fault x_failed x_signs x_signMany x_at x_told x_toldMany res H locs 0 ls [] := by
  have hts := E.2.2.2.1
  unfold f_X13_regionSize at h
  obtain ⟨j14, hj14, h⟩ := jox1 h
  have J14 : ∀ (s1_14 : Int32) (H : Heap) (locs : List Loc) (ls : Array Slot), j14 s1_14 = some res → Wo g A s H locs (w_X13 g h0 h1 h2 h3 h4 h5 h6 h7 h8 h9 h10 h11 h12 h13 x_g x_kept x_saved x_before x_was x_region x_parts x_next x_ways x_more x_whole x_isSaved x_changes x_isWithin x_code x_input x_length x_fault x_failed x_signs x_signMany x_at x_told x_toldMany) → lv_has ls 5 [(0, .ref h0), (1, .int a1), (2, .int a2)] → G_X13_regionSize p l e s m args below meth c g A h0 h1 h2 h3 h4 h5 h6 h7 h8 h9 h10 h11 h12 h13 x_g x_kept x_saved x_before x_was x_parts x_next x_ways x_more x_whole x_isSaved x_changes x_isWithin x_input x_length x_fault x_failed x_signs x_signMany x_at x_told x_toldMany res H locs 14 ls [.int s1_14, .ref h0] := by
    intro s1_14 H locs ls h hW hl
    rw [hj14] at h
    obtain ⟨r14, hc, h⟩ := bx h
    refine goI (world' := (w_X13 g h0 h1 h2 h3 h4 h5 h6 h7 h8 h9 h10 h11 h12 h13 x_g x_kept x_saved x_before x_was x_region x_parts x_next x_ways x_more x_whole x_isSaved x_changes x_isWithin r14.2 x_input x_length x_fault x_failed x_signs x_signMany x_at x_told x_toldMany)) hW hA (is := [0, 1, 2, 3, 4, 5, 6, 7, 8, 9, 10, 11, 12, 13]) rfl (goV (rest := []) E hK hW [0, 1, 2, 3, 4, 5, 6, 7, 8, 9, 10, 11, 12, 13] rfl rfl (c_X13_fails l g h0 h1 h2 h3 h4 h5 h6 h7 h8 h9 h10 h11 h12 h13 x_g x_kept x_saved x_before x_was x_region x_parts x_next x_ways x_more x_whole x_isSaved x_changes x_isWithin x_code x_input x_length x_fault x_failed x_signs x_signMany x_at x_told x_toldMany s1_14 (hf := hc) H.size) (cwV 1 hts gX13_regionSize_X13_fails rfl rfl rfl (by decide +kernel) ⟨Nat.le_of_ble_eq_true rfl, Nat.le_of_ble_eq_true rfl⟩) 0 rfl rfl rfl hl.1 rfl rfl (Nat.le_of_ble_eq_true rfl) dX13_regionSize_14 ⟨Nat.zero_le _, Nat.zero_le _⟩) rfl rfl (fun H locs hW => ?_)
    refine lv_if_eq (tgt := 22) E.1 E.2.1 dX13_regionSize_17 (by decide) (fun c17 => ?_) (fun c17 => ?_)
    · have h := it c17 h
      refine lv_aload_n E.1 E.2.1 dX13_regionSize_22 rfl (lv_at hl 0 rfl) ?_
      obtain ⟨r23, hc, h⟩ := bx h
      refine goU (world' := (w_X13 g h0 h1 h2 h3 h4 h5 h6 h7 h8 h9 h10 h11 h12 h13 x_g x_kept x_saved x_before x_was r23 x_parts x_next x_ways x_more x_whole x_isSaved x_changes x_isWithin r14.2 x_input x_length x_fault x_failed x_signs x_signMany x_at x_told x_toldMany)) hW hA (is := [0, 1, 2, 3, 4, 5, 6, 7, 8, 9, 10, 11, 12, 13]) rfl (goV (rest := []) E hK hW [0, 1, 2, 3, 4, 5, 6, 7, 8, 9, 10, 11, 12, 13] rfl rfl (c_X13_parted l g h0 h1 h2 h3 h4 h5 h6 h7 h8 h9 h10 h11 h12 h13 x_g x_kept x_saved x_before x_was x_region x_parts x_next x_ways x_more x_whole x_isSaved x_changes x_isWithin r14.2 x_input x_length x_fault x_failed x_signs x_signMany x_at x_told x_toldMany (hf := hc) H.size) (cwV 0 hts gX13_regionSize_X13_parted rfl rfl rfl (by decide +kernel) ⟨Nat.le_of_ble_eq_true rfl, Nat.le_of_ble_eq_true rfl⟩) 0 rfl rfl rfl hl.1 rfl rfl (Nat.le_of_ble_eq_true rfl) dX13_regionSize_23 ⟨Nat.zero_le _, Nat.zero_le _⟩) rfl rfl (fun H locs hW => ?_)
      refine lv_iconst (v := 0) E.1 E.2.1 dX13_regionSize_26 (by decide) ?_
      refine lv_istore_n (lv' := [(3, .int 0), (0, .ref h0), (1, .int a1), (2, .int a2)]) E.1 E.2.1 dX13_regionSize_27 rfl hl (by decide) rfl (fun ls hl => ?_)
      refine lv_iconst (v := 0) E.1 E.2.1 dX13_regionSize_28 (by decide) ?_
      refine lv_istore (lv' := [(4, .int 0), (3, .int 0), (0, .ref h0), (1, .int a1), (2, .int a2)]) E.1 E.2.1 dX13_regionSize_29 hl (by decide) rfl (fun ls hl => ?_)
      refine k_X13_regionSize_31 E hK hA ?_ 1000 0 0 H locs ls h hW (lv_sub hl [2, 3, 4, 1, 0] rfl)
      · intro l3_72e H locs ls h hW hl
        refine lv_iload_n E.1 E.2.1 dX13_regionSize_72 rfl (lv_at hl 0 rfl) ?_
        obtain rfl := Option.some.inj h
        exact endI E rfl hW dX13_regionSize_73
    · have h := ie c17 h
      refine lv_iconst (v := 0) E.1 E.2.1 dX13_regionSize_20 (by decide) ?_
      obtain rfl := Option.some.inj h
      exact endI E rfl hW dX13_regionSize_21
  refine lv_aload_n E.1 E.2.1 dX13_regionSize_0 rfl (lv_at hl 0 rfl) ?_
  refine lv_iload_n E.1 E.2.1 dX13_regionSize_1 rfl (lv_at hl 1 rfl) ?_
  refine lv_iload_n E.1 E.2.1 dX13_regionSize_2 rfl (lv_at hl 2 rfl) ?_
  obtain ⟨r3, hc, h⟩ := bx h
  refine goI (world' := (w_X13 g h0 h1 h2 h3 h4 h5 h6 h7 h8 h9 h10 h11 h12 h13 x_g x_kept x_saved x_before x_was x_region x_parts x_next x_ways x_more x_whole x_isSaved x_changes x_isWithin x_code x_input x_length x_fault x_failed x_signs x_signMany x_at x_told x_toldMany)) hW hA (is := []) rfl (goS (rest := [.ref h0]) E hK hW [] rfl rfl (c_X13_isCell l g a1 a2 (hf := hc) H.size) (va_cwS 2 hts gX13_regionSize_X13_isCell rfl rfl rfl (by decide +kernel) ⟨Nat.le_of_ble_eq_true rfl, Nat.le_of_ble_eq_true rfl⟩) hl.1 rfl rfl (Nat.le_of_ble_eq_true rfl) dX13_regionSize_3 ⟨Nat.zero_le _, Nat.zero_le _⟩) rfl rfl (fun H locs hW => ?_)
  refine lv_if_eq (tgt := 13) E.1 E.2.1 dX13_regionSize_6 (by decide) (fun c6 => ?_) (fun c6 => ?_)
  · have h := it c6 h
    refine lv_iconst (v := 1) E.1 E.2.1 dX13_regionSize_13 (by decide) ?_
    exact J14 1 H locs ls h hW (lv_sub hl [0, 1, 2] rfl)
  · have h := ie c6 h
    refine lv_iconst (v := 0) E.1 E.2.1 dX13_regionSize_9 (by decide) ?_
    refine lv_goto (tgt := 14) E.1 E.2.1 dX13_regionSize_10 (by decide) ?_
    exact J14 0 H locs ls h hW (lv_sub hl [0, 1, 2] rfl)
theorem c_X13_regionSize (l : Launch) (g : GE) (h0 h1 h2 h3 h4 h5 h6 h7 h8 h9 h10 h11 h12 h13 : Nat) (x_g : Nat → Int32) (x_kept : Nat → Int32) (x_saved : Nat → Int32) (x_before : Nat → Int32) (x_was : Nat → Int32) (x_region : Nat → Int32) (x_parts : Nat → Int64) (x_next : Nat → Int64) (x_ways : Nat → Int32) (x_more : Nat → Int32) (x_whole : Int64) (x_isSaved : Int32) (x_changes : Int32) (x_isWithin : Int32) (x_code : Int32) (x_input : Nat → Int32) (x_length : Int32) (x_fault : Int32) (x_failed : Int32) (x_signs : Nat → Int32) (x_signMany : Int32) (x_at : Int32) (x_told : Nat → Int32) (x_toldMany : Int32) (a1 : Int32) (a2 : Int32) {res : Int32 × (Nat → Int32) × Int32} (hf : f_X13_regionSize x_g x_region x_code a1 a2 = some res) : CI l yX13_regionSize wsX13_regionSize rm_X13_regionSize g [.ref h0, .int a1, .int a2] (w_X13 g h0 h1 h2 h3 h4 h5 h6 h7 h8 h9 h10 h11 h12 h13 x_g x_kept x_saved x_before x_was x_region x_parts x_next x_ways x_more x_whole x_isSaved x_changes x_isWithin x_code x_input x_length x_fault x_failed x_signs x_signMany x_at x_told x_toldMany) (w_X13 g h0 h1 h2 h3 h4 h5 h6 h7 h8 h9 h10 h11 h12 h13 x_g x_kept x_saved x_before x_was res.2.1 x_parts x_next x_ways x_more x_whole x_isSaved x_changes x_isWithin res.2.2 x_input x_length x_fault x_failed x_signs x_signMany x_at x_told x_toldMany) res.1 :=
  mkI (cc := cX13_regionSize) (maxL := 5) (by decide) rfl (Nat.le_of_ble_eq_true rfl) (fun p e s m args below meth c A H locs ls E hK hA hW hl => k_X13_regionSize_0 E hK hA hf hW hl)

/-! PaperStormModel.isSameRegion(IIII)Z X13_isSameRegion -/
abbrev rm_X13_isSameRegion : Room := { frames := 4, cells := 0, slots := 0, locals := 86 }
theorem in_X13_isSameRegion_X13 : ∀ w ∈ wsX130, w ∈ wsX13_isSameRegion := by decide +kernel
theorem lk_X13_isSameRegion_25 : Cond.fieldLink RX13 25 "PaperStormModel" "region" "[I" ∈ wsX13_isSameRegion := by decide +kernel
noncomputable def f_X13_isSameRegion (x_g : Nat → Int32) (x_region : Nat → Int32) (x_code : Int32) (a1 : Int32) (a2 : Int32) (a3 : Int32) (a4 : Int32) : Option (Int32 × (Nat → Int32) × Int32) :=
  jo (fun (s1_23 : Int32) => (f_X13_fails x_code s1_23).bind fun r23 => if r23.1 = 0 then jo (fun (x_region_64 : Nat → Int32) (s0_64 : Int32) => if ¬ vp_nar .boolean s0_64 = s0_64 then none else some (s0_64, x_region_64, r23.2)) (fun j64 => (f_X13_parted x_g x_region).bind fun r32 => if ((5 * a1) + a2) < 0 ∨ 25 ≤ ((5 * a1) + a2).toNatClampNeg then none else if ((5 * a3) + a4) < 0 ∨ 25 ≤ ((5 * a3) + a4).toNatClampNeg then none else if (r32 ((5 * a1) + a2).toNatClampNeg) = (r32 ((5 * a3) + a4).toNatClampNeg) then j64 r32 1 else j64 r32 0) else some (0, x_region, r23.2)) (fun j23 => jo (j23 1) (fun j22 => (f_X13_isCell a1 a2).bind fun r3 => if r3 = 0 then j22 else (f_X13_isCell a3 a4).bind fun r12 => if r12 = 0 then j22 else j23 0))
abbrev G_X13_isSameRegion (p : Program) (l : Launch) (e : Env) (s : State) (m : MethodId) (args : Array Value) (below : List Frame) (meth : Method) (c : Code) (g : GE) (A : Nat → Prop) (h0 h1 h2 h3 h4 h5 h6 h7 h8 h9 h10 h11 h12 h13 : Nat) (x_g : Nat → Int32) (x_kept : Nat → Int32) (x_saved : Nat → Int32) (x_before : Nat → Int32) (x_was : Nat → Int32) (x_parts : Nat → Int64) (x_next : Nat → Int64) (x_ways : Nat → Int32) (x_more : Nat → Int32) (x_whole : Int64) (x_isSaved : Int32) (x_changes : Int32) (x_isWithin : Int32) (x_input : Nat → Int32) (x_length : Int32) (x_fault : Int32) (x_failed : Int32) (x_signs : Nat → Int32) (x_signMany : Int32) (x_at : Int32) (x_told : Nat → Int32) (x_toldMany : Int32) (res : Int32 × (Nat → Int32) × Int32) (H : Heap) (locs : List Loc) (pc : Nat) (ls : Array Slot) (st : List Value) : Prop := W p l e (headSpec wsX13_isSameRegion rm_X13_isSameRegion).room s m args below meth c H locs 0 0 (MQ below (PoI g A (w_X13 g h0 h1 h2 h3 h4 h5 h6 h7 h8 h9 h10 h11 h12 h13 x_g x_kept x_saved x_before x_was res.2.1 x_parts x_next x_ways x_more x_whole x_isSaved x_changes x_isWithin res.2.2 x_input x_length x_fault x_failed x_signs x_signMany x_at x_told x_toldMany) res.1) args s 0 0 A) (F0 m pc ls st)
set_option maxHeartbeats 4000000 in
set_option maxRecDepth 100000 in
theorem k_X13_isSameRegion_0 {p : Program} {l : Launch} {e : Env} {s : State} {m : MethodId} {args : Array Value} {below : List Frame} {meth : Method} {c : Code} {g : GE} {A : Nat → Prop} {h0 h1 h2 h3 h4 h5 h6 h7 h8 h9 h10 h11 h12 h13 : Nat} {x_g : Nat → Int32} {x_kept : Nat → Int32} {x_saved : Nat → Int32} {x_before : Nat → Int32} {x_was : Nat → Int32} {x_region : Nat → Int32} {x_parts : Nat → Int64} {x_next : Nat → Int64} {x_ways : Nat → Int32} {x_more : Nat → Int32} {x_whole : Int64} {x_isSaved : Int32} {x_changes : Int32} {x_isWithin : Int32} {x_code : Int32} {x_input : Nat → Int32} {x_length : Int32} {x_fault : Int32} {x_failed : Int32} {x_signs : Nat → Int32} {x_signMany : Int32} {x_at : Int32} {x_told : Nat → Int32} {x_toldMany : Int32} {res : Int32 × (Nat → Int32) × Int32} {H : Heap} {locs : List Loc} {ls : Array Slot} {a1 : Int32} {a2 : Int32} {a3 : Int32} {a4 : Int32}
    (E : En cX13_isSameRegion RX13 wsX13_isSameRegion 5 (some .boolean) p s m args meth c) (hK : KK g s) (hA : ∀ q, s.heap.size ≤ q → A q) (h : f_X13_isSameRegion x_g x_region x_code a1 a2 a3 a4 = some res) (hW : Wo g A s H locs (w_X13 g h0 h1 h2 h3 h4 h5 h6 h7 h8 h9 h10 h11 h12 h13 x_g x_kept x_saved x_before x_was x_region x_parts x_next x_ways x_more x_whole x_isSaved x_changes x_isWithin x_code x_input x_length x_fault x_failed x_signs x_signMany x_at x_told x_toldMany)) (hl : lv_has ls 5 [(0, .ref h0), (1, .int a1), (2, .int a2), (3, .int a3), (4, .int a4)]) : G_X13_isSameRegion p l e s m args below meth c g A h0 h1 h2 h3 h4 h5 h6 h7 h8 h9 h10 h11 h12 h13 x_g x_kept x_saved x_before x_was x_parts x_next x_ways x_more x_whole x_isSaved x_changes x_isWithin x_input x_length x_fault x_failed x_signs x_signMany x_at x_told x_toldMany res H locs 0 ls [] := by
  have hts := E.2.2.2.1
  unfold f_X13_isSameRegion at h
  obtain ⟨j23, hj23, h⟩ := jox1 h
  have J23 : ∀ (s1_23 : Int32) (H : Heap) (locs : List Loc) (ls : Array Slot), j23 s1_23 = some res → Wo g A s H locs (w_X13 g h0 h1 h2 h3 h4 h5 h6 h7 h8 h9 h10 h11 h12 h13 x_g x_kept x_saved x_before x_was x_region x_parts x_next x_ways x_more x_whole x_isSaved x_changes x_isWithin x_code x_input x_length x_fault x_failed x_signs x_signMany x_at x_told x_toldMany) → lv_has ls 5 [(0, .ref h0), (1, .int a1), (2, .int a2), (3, .int a3), (4, .int a4)] → G_X13_isSameRegion p l e s m args below meth c g A h0 h1 h2 h3 h4 h5 h6 h7 h8 h9 h10 h11 h12 h13 x_g x_kept x_saved x_before x_was x_parts x_next x_ways x_more x_whole x_isSaved x_changes x_isWithin x_input x_length x_fault x_failed x_signs x_signMany x_at x_told x_toldMany res H locs 23 ls [.int s1_23, .ref h0] := by
    intro s1_23 H locs ls h hW hl
    rw [hj23] at h
    obtain ⟨r23, hc, h⟩ := bx h
    refine goI (world' := (w_X13 g h0 h1 h2 h3 h4 h5 h6 h7 h8 h9 h10 h11 h12 h13 x_g x_kept x_saved x_before x_was x_region x_parts x_next x_ways x_more x_whole x_isSaved x_changes x_isWithin r23.2 x_input x_length x_fault x_failed x_signs x_signMany x_at x_told x_toldMany)) hW hA (is := [0, 1, 2, 3, 4, 5, 6, 7, 8, 9, 10, 11, 12, 13]) rfl (goV (rest := []) E hK hW [0, 1, 2, 3, 4, 5, 6, 7, 8, 9, 10, 11, 12, 13] rfl rfl (c_X13_fails l g h0 h1 h2 h3 h4 h5 h6 h7 h8 h9 h10 h11 h12 h13 x_g x_kept x_saved x_before x_was x_region x_parts x_next x_ways x_more x_whole x_isSaved x_changes x_isWithin x_code x_input x_length x_fault x_failed x_signs x_signMany x_at x_told x_toldMany s1_23 (hf := hc) H.size) (cwV 1 hts gX13_isSameRegion_X13_fails rfl rfl rfl (by decide +kernel) ⟨Nat.le_of_ble_eq_true rfl, Nat.le_of_ble_eq_true rfl⟩) 0 rfl rfl rfl hl.1 rfl rfl (Nat.le_of_ble_eq_true rfl) dX13_isSameRegion_23 ⟨Nat.zero_le _, Nat.zero_le _⟩) rfl rfl (fun H locs hW => ?_)
    refine lv_if_eq (tgt := 31) E.1 E.2.1 dX13_isSameRegion_26 (by decide) (fun c26 => ?_) (fun c26 => ?_)
    · have h := it c26 h
      obtain ⟨j64, hj64, h⟩ := jox2 h
      have J64 : ∀ (x_region_64 : Nat → Int32) (s0_64 : Int32) (H : Heap) (locs : List Loc) (ls : Array Slot), j64 x_region_64 s0_64 = some res → Wo g A s H locs (w_X13 g h0 h1 h2 h3 h4 h5 h6 h7 h8 h9 h10 h11 h12 h13 x_g x_kept x_saved x_before x_was x_region_64 x_parts x_next x_ways x_more x_whole x_isSaved x_changes x_isWithin r23.2 x_input x_length x_fault x_failed x_signs x_signMany x_at x_told x_toldMany) → lv_has ls 5 [] → G_X13_isSameRegion p l e s m args below meth c g A h0 h1 h2 h3 h4 h5 h6 h7 h8 h9 h10 h11 h12 h13 x_g x_kept x_saved x_before x_was x_parts x_next x_ways x_more x_whole x_isSaved x_changes x_isWithin x_input x_length x_fault x_failed x_signs x_signMany x_at x_told x_toldMany res H locs 64 ls [.int s0_64] := by
        intro x_region_64 s0_64 H locs ls h hW hl
        rw [hj64] at h
        obtain ⟨hz, h⟩ := ox h
        obtain rfl := Option.some.inj h
        exact endI E (nar_z (Decidable.not_not.mp hz)) hW dX13_isSameRegion_64
      refine lv_aload_n E.1 E.2.1 dX13_isSameRegion_31 rfl (lv_at hl 0 rfl) ?_
      obtain ⟨r32, hc, h⟩ := bx h
      refine goU (world' := (w_X13 g h0 h1 h2 h3 h4 h5 h6 h7 h8 h9 h10 h11 h12 h13 x_g x_kept x_saved x_before x_was r32 x_parts x_next x_ways x_more x_whole x_isSaved x_changes x_isWithin r23.2 x_input x_length x_fault x_failed x_signs x_signMany x_at x_told x_toldMany)) hW hA (is := [0, 1, 2, 3, 4, 5, 6, 7, 8, 9, 10, 11, 12, 13]) rfl (goV (rest := []) E hK hW [0, 1, 2, 3, 4, 5, 6, 7, 8, 9, 10, 11, 12, 13] rfl rfl (c_X13_parted l g h0 h1 h2 h3 h4 h5 h6 h7 h8 h9 h10 h11 h12 h13 x_g x_kept x_saved x_before x_was x_region x_parts x_next x_ways x_more x_whole x_isSaved x_changes x_isWithin r23.2 x_input x_length x_fault x_failed x_signs x_signMany x_at x_told x_toldMany (hf := hc) H.size) (cwV 0 hts gX13_isSameRegion_X13_parted rfl rfl rfl (by decide +kernel) ⟨Nat.le_of_ble_eq_true rfl, Nat.le_of_ble_eq_true rfl⟩) 0 rfl rfl rfl hl.1 rfl rfl (Nat.le_of_ble_eq_true rfl) dX13_isSameRegion_32 ⟨Nat.zero_le _, Nat.zero_le _⟩) rfl rfl (fun H locs hW => ?_)
      refine lv_aload_n E.1 E.2.1 dX13_isSameRegion_35 rfl (lv_at hl 0 rfl) ?_
      refine wGet (v := .ref h6) E hK in_X13_isSameRegion_X13 hW 5 lk_X13_isSameRegion_25 0 rfl rfl (by decide) rfl rfl dX13_isSameRegion_36 ?_
      refine lv_iconst (v := 5) E.1 E.2.1 dX13_isSameRegion_39 (by decide) ?_
      refine lv_iload_n E.1 E.2.1 dX13_isSameRegion_40 rfl (lv_at hl 1 rfl) ?_
      refine lv_imul E.1 E.2.1 dX13_isSameRegion_41 ?_
      refine lv_iload_n E.1 E.2.1 dX13_isSameRegion_42 rfl (lv_at hl 2 rfl) ?_
      refine lv_iadd E.1 E.2.1 dX13_isSameRegion_43 ?_
      obtain ⟨hi44, h⟩ := ox h
      refine wIald E hK hW 6 rfl hi44 dX13_isSameRegion_44 ?_
      refine lv_aload_n E.1 E.2.1 dX13_isSameRegion_45 rfl (lv_at hl 0 rfl) ?_
      refine wGet (v := .ref h6) E hK in_X13_isSameRegion_X13 hW 5 lk_X13_isSameRegion_25 0 rfl rfl (by decide) rfl rfl dX13_isSameRegion_46 ?_
      refine lv_iconst (v := 5) E.1 E.2.1 dX13_isSameRegion_49 (by decide) ?_
      refine lv_iload_n E.1 E.2.1 dX13_isSameRegion_50 rfl (lv_at hl 3 rfl) ?_
      refine lv_imul E.1 E.2.1 dX13_isSameRegion_51 ?_
      refine lv_iload E.1 E.2.1 dX13_isSameRegion_52 (lv_at hl 4 rfl) ?_
      refine lv_iadd E.1 E.2.1 dX13_isSameRegion_54 ?_
      obtain ⟨hi55, h⟩ := ox h
      refine wIald E hK hW 6 rfl hi55 dX13_isSameRegion_55 ?_
      refine lv_icmp_ne (tgt := 63) E.1 E.2.1 dX13_isSameRegion_56 (by decide) (fun c56 => ?_) (fun c56 => ?_)
      · have h := ie c56 h
        refine lv_iconst (v := 0) E.1 E.2.1 dX13_isSameRegion_63 (by decide) ?_
        exact J64 r32 0 H locs ls h hW (lv_sub hl [] rfl)
      · have h := it c56 h
        refine lv_iconst (v := 1) E.1 E.2.1 dX13_isSameRegion_59 (by decide) ?_
        refine lv_goto (tgt := 64) E.1 E.2.1 dX13_isSameRegion_60 (by decide) ?_
        exact J64 r32 1 H locs ls h hW (lv_sub hl [] rfl)
    · have h := ie c26 h
      refine lv_iconst (v := 0) E.1 E.2.1 dX13_isSameRegion_29 (by decide) ?_
      obtain rfl := Option.some.inj h
      exact endI E (show narrow .boolean (.int 0) = .int 0 by decide) hW dX13_isSameRegion_30
  obtain ⟨j22, hj22, h⟩ := jox0 h
  have J22 : ∀ (H : Heap) (locs : List Loc) (ls : Array Slot), j22 = some res → Wo g A s H locs (w_X13 g h0 h1 h2 h3 h4 h5 h6 h7 h8 h9 h10 h11 h12 h13 x_g x_kept x_saved x_before x_was x_region x_parts x_next x_ways x_more x_whole x_isSaved x_changes x_isWithin x_code x_input x_length x_fault x_failed x_signs x_signMany x_at x_told x_toldMany) → lv_has ls 5 [(0, .ref h0), (1, .int a1), (2, .int a2), (3, .int a3), (4, .int a4)] → G_X13_isSameRegion p l e s m args below meth c g A h0 h1 h2 h3 h4 h5 h6 h7 h8 h9 h10 h11 h12 h13 x_g x_kept x_saved x_before x_was x_parts x_next x_ways x_more x_whole x_isSaved x_changes x_isWithin x_input x_length x_fault x_failed x_signs x_signMany x_at x_told x_toldMany res H locs 22 ls [.ref h0] := by
    intro H locs ls h hW hl
    rw [hj22] at h
    refine lv_iconst (v := 1) E.1 E.2.1 dX13_isSameRegion_22 (by decide) ?_
    exact J23 1 H locs ls h hW (lv_sub hl [0, 1, 2, 3, 4] rfl)
  refine lv_aload_n E.1 E.2.1 dX13_isSameRegion_0 rfl (lv_at hl 0 rfl) ?_
  refine lv_iload_n E.1 E.2.1 dX13_isSameRegion_1 rfl (lv_at hl 1 rfl) ?_
  refine lv_iload_n E.1 E.2.1 dX13_isSameRegion_2 rfl (lv_at hl 2 rfl) ?_
  obtain ⟨r3, hc, h⟩ := bx h
  refine goI (world' := (w_X13 g h0 h1 h2 h3 h4 h5 h6 h7 h8 h9 h10 h11 h12 h13 x_g x_kept x_saved x_before x_was x_region x_parts x_next x_ways x_more x_whole x_isSaved x_changes x_isWithin x_code x_input x_length x_fault x_failed x_signs x_signMany x_at x_told x_toldMany)) hW hA (is := []) rfl (goS (rest := [.ref h0]) E hK hW [] rfl rfl (c_X13_isCell l g a1 a2 (hf := hc) H.size) (va_cwS 2 hts gX13_isSameRegion_X13_isCell rfl rfl rfl (by decide +kernel) ⟨Nat.le_of_ble_eq_true rfl, Nat.le_of_ble_eq_true rfl⟩) hl.1 rfl rfl (Nat.le_of_ble_eq_true rfl) dX13_isSameRegion_3 ⟨Nat.zero_le _, Nat.zero_le _⟩) rfl rfl (fun H locs hW => ?_)
  refine lv_if_eq (tgt := 22) E.1 E.2.1 dX13_isSameRegion_6 (by decide) (fun c6 => ?_) (fun c6 => ?_)
  · have h := it c6 h
    exact J22  H locs ls h hW (lv_sub hl [0, 1, 2, 3, 4] rfl)
  · have h := ie c6 h
    refine lv_iload_n E.1 E.2.1 dX13_isSameRegion_9 rfl (lv_at hl 3 rfl) ?_
    refine lv_iload E.1 E.2.1 dX13_isSameRegion_10 (lv_at hl 4 rfl) ?_
    obtain ⟨r12, hc, h⟩ := bx h
    refine goI (world' := (w_X13 g h0 h1 h2 h3 h4 h5 h6 h7 h8 h9 h10 h11 h12 h13 x_g x_kept x_saved x_before x_was x_region x_parts x_next x_ways x_more x_whole x_isSaved x_changes x_isWithin x_code x_input x_length x_fault x_failed x_signs x_signMany x_at x_told x_toldMany)) hW hA (is := []) rfl (goS (rest := [.ref h0]) E hK hW [] rfl rfl (c_X13_isCell l g a3 a4 (hf := hc) H.size) (va_cwS 2 hts gX13_isSameRegion_X13_isCell rfl rfl rfl (by decide +kernel) ⟨Nat.le_of_ble_eq_true rfl, Nat.le_of_ble_eq_true rfl⟩) hl.1 rfl rfl (Nat.le_of_ble_eq_true rfl) dX13_isSameRegion_12 ⟨Nat.zero_le _, Nat.zero_le _⟩) rfl rfl (fun H locs hW => ?_)
    refine lv_if_eq (tgt := 22) E.1 E.2.1 dX13_isSameRegion_15 (by decide) (fun c15 => ?_) (fun c15 => ?_)
    · have h := it c15 h
      exact J22  H locs ls h hW (lv_sub hl [0, 1, 2, 3, 4] rfl)
    · have h := ie c15 h
      refine lv_iconst (v := 0) E.1 E.2.1 dX13_isSameRegion_18 (by decide) ?_
      refine lv_goto (tgt := 23) E.1 E.2.1 dX13_isSameRegion_19 (by decide) ?_
      exact J23 0 H locs ls h hW (lv_sub hl [0, 1, 2, 3, 4] rfl)
theorem c_X13_isSameRegion (l : Launch) (g : GE) (h0 h1 h2 h3 h4 h5 h6 h7 h8 h9 h10 h11 h12 h13 : Nat) (x_g : Nat → Int32) (x_kept : Nat → Int32) (x_saved : Nat → Int32) (x_before : Nat → Int32) (x_was : Nat → Int32) (x_region : Nat → Int32) (x_parts : Nat → Int64) (x_next : Nat → Int64) (x_ways : Nat → Int32) (x_more : Nat → Int32) (x_whole : Int64) (x_isSaved : Int32) (x_changes : Int32) (x_isWithin : Int32) (x_code : Int32) (x_input : Nat → Int32) (x_length : Int32) (x_fault : Int32) (x_failed : Int32) (x_signs : Nat → Int32) (x_signMany : Int32) (x_at : Int32) (x_told : Nat → Int32) (x_toldMany : Int32) (a1 : Int32) (a2 : Int32) (a3 : Int32) (a4 : Int32) {res : Int32 × (Nat → Int32) × Int32} (hf : f_X13_isSameRegion x_g x_region x_code a1 a2 a3 a4 = some res) : CI l yX13_isSameRegion wsX13_isSameRegion rm_X13_isSameRegion g [.ref h0, .int a1, .int a2, .int a3, .int a4] (w_X13 g h0 h1 h2 h3 h4 h5 h6 h7 h8 h9 h10 h11 h12 h13 x_g x_kept x_saved x_before x_was x_region x_parts x_next x_ways x_more x_whole x_isSaved x_changes x_isWithin x_code x_input x_length x_fault x_failed x_signs x_signMany x_at x_told x_toldMany) (w_X13 g h0 h1 h2 h3 h4 h5 h6 h7 h8 h9 h10 h11 h12 h13 x_g x_kept x_saved x_before x_was res.2.1 x_parts x_next x_ways x_more x_whole x_isSaved x_changes x_isWithin res.2.2 x_input x_length x_fault x_failed x_signs x_signMany x_at x_told x_toldMany) res.1 :=
  mkI (cc := cX13_isSameRegion) (maxL := 5) (by decide) rfl (Nat.le_of_ble_eq_true rfl) (fun p e s m args below meth c A H locs ls E hK hA hW hl => k_X13_isSameRegion_0 E hK hA hf hW hl)

/-! PaperStormModel.isSort(I)Z X13_isSort -/
abbrev rm_X13_isSort : Room := { frames := 1, cells := 0, slots := 0, locals := 22 }
noncomputable def f_X13_isSort (a0 : Int32) : Option (Int32) :=
  (f_X13_in a0 0 3).bind fun r3 => if ¬ vp_nar .boolean r3 = r3 then none else some (r3)
abbrev G_X13_isSort (p : Program) (l : Launch) (e : Env) (s : State) (m : MethodId) (args : Array Value) (below : List Frame) (meth : Method) (c : Code) (g : GE) (A : Nat → Prop) (res : Int32) (H : Heap) (locs : List Loc) (pc : Nat) (ls : Array Slot) (st : List Value) : Prop := W p l e (headSpec wsX13_isSort rm_X13_isSort).room s m args below meth c H locs 0 0 (MQ below (PoI g A ([] : va_W) res) args s 0 0 A) (F0 m pc ls st)
set_option maxHeartbeats 4000000 in
set_option maxRecDepth 100000 in
theorem k_X13_isSort_0 {p : Program} {l : Launch} {e : Env} {s : State} {m : MethodId} {args : Array Value} {below : List Frame} {meth : Method} {c : Code} {g : GE} {A : Nat → Prop} {res : Int32} {H : Heap} {locs : List Loc} {ls : Array Slot} {a0 : Int32}
    (E : En cX13_isSort RX13 wsX13_isSort 1 (some .boolean) p s m args meth c) (hK : KK g s) (hA : ∀ q, s.heap.size ≤ q → A q) (h : f_X13_isSort a0 = some res) (hW : Wo g A s H locs ([] : va_W)) (hl : lv_has ls 1 [(0, .int a0)]) : G_X13_isSort p l e s m args below meth c g A res H locs 0 ls [] := by
  have hts := E.2.2.2.1
  unfold f_X13_isSort at h
  refine lv_iload_n E.1 E.2.1 dX13_isSort_0 rfl (lv_at hl 0 rfl) ?_
  refine lv_iconst (v := 0) E.1 E.2.1 dX13_isSort_1 (by decide) ?_
  refine lv_iconst (v := 3) E.1 E.2.1 dX13_isSort_2 (by decide) ?_
  obtain ⟨r3, hc, h⟩ := bx h
  refine goI (world' := ([] : va_W)) hW hA (is := []) rfl (goS (rest := []) E hK hW [] rfl rfl (c_X13_in l g a0 0 3 (hf := hc) H.size) (va_cwS 3 hts gX13_isSort_X13_in rfl rfl rfl (by decide +kernel) ⟨Nat.le_of_ble_eq_true rfl, Nat.le_of_ble_eq_true rfl⟩) hl.1 rfl rfl (Nat.le_of_ble_eq_true rfl) dX13_isSort_3 ⟨Nat.zero_le _, Nat.zero_le _⟩) rfl rfl (fun H locs hW => ?_)
  obtain ⟨hz, h⟩ := ox h
  obtain rfl := Option.some.inj h
  exact endI E (nar_z (Decidable.not_not.mp hz)) hW dX13_isSort_6
theorem c_X13_isSort (l : Launch) (g : GE) (a0 : Int32) {res : Int32} (hf : f_X13_isSort a0 = some res) : CI l yX13_isSort wsX13_isSort rm_X13_isSort g [.int a0] ([] : va_W) ([] : va_W) res :=
  mkI (cc := cX13_isSort) (maxL := 1) (by decide) rfl (Nat.le_of_ble_eq_true rfl) (fun p e s m args below meth c A H locs ls E hK hA hW hl => k_X13_isSort_0 E hK hA hf hW hl)

/-! PaperStormModel.weighs(II)I X13_weighs -/
abbrev rm_X13_weighs : Room := { frames := 0, cells := 0, slots := 0, locals := 0 }
theorem in_X13_weighs_X13 : ∀ w ∈ wsX130, w ∈ wsX13_weighs := by decide +kernel
theorem lk_X13_weighs_7 : Cond.fieldLink RX13 7 "PaperStormModel" "g" "[I" ∈ wsX13_weighs := by decide +kernel
noncomputable def f_X13_weighs (x_g : Nat → Int32) (a1 : Int32) (a2 : Int32) : Option (Int32) :=
  if ((32 + (4 * a1)) + a2) < 0 ∨ 60 ≤ ((32 + (4 * a1)) + a2).toNatClampNeg then none else some ((x_g ((32 + (4 * a1)) + a2).toNatClampNeg))
abbrev G_X13_weighs (p : Program) (l : Launch) (e : Env) (s : State) (m : MethodId) (args : Array Value) (below : List Frame) (meth : Method) (c : Code) (g : GE) (A : Nat → Prop) (h0 h1 h2 h3 h4 h5 h6 h7 h8 h9 h10 h11 h12 h13 : Nat) (x_g : Nat → Int32) (x_kept : Nat → Int32) (x_saved : Nat → Int32) (x_before : Nat → Int32) (x_was : Nat → Int32) (x_region : Nat → Int32) (x_parts : Nat → Int64) (x_next : Nat → Int64) (x_ways : Nat → Int32) (x_more : Nat → Int32) (x_whole : Int64) (x_isSaved : Int32) (x_changes : Int32) (x_isWithin : Int32) (x_code : Int32) (x_input : Nat → Int32) (x_length : Int32) (x_fault : Int32) (x_failed : Int32) (x_signs : Nat → Int32) (x_signMany : Int32) (x_at : Int32) (x_told : Nat → Int32) (x_toldMany : Int32) (res : Int32) (H : Heap) (locs : List Loc) (pc : Nat) (ls : Array Slot) (st : List Value) : Prop := W p l e (headSpec wsX13_weighs rm_X13_weighs).room s m args below meth c H locs 0 0 (MQ below (PoI g A (w_X13 g h0 h1 h2 h3 h4 h5 h6 h7 h8 h9 h10 h11 h12 h13 x_g x_kept x_saved x_before x_was x_region x_parts x_next x_ways x_more x_whole x_isSaved x_changes x_isWithin x_code x_input x_length x_fault x_failed x_signs x_signMany x_at x_told x_toldMany) res) args s 0 0 A) (F0 m pc ls st)
set_option maxHeartbeats 4000000 in
set_option maxRecDepth 100000 in
theorem k_X13_weighs_0 {p : Program} {l : Launch} {e : Env} {s : State} {m : MethodId} {args : Array Value} {below : List Frame} {meth : Method} {c : Code} {g : GE} {A : Nat → Prop} {h0 h1 h2 h3 h4 h5 h6 h7 h8 h9 h10 h11 h12 h13 : Nat} {x_g : Nat → Int32} {x_kept : Nat → Int32} {x_saved : Nat → Int32} {x_before : Nat → Int32} {x_was : Nat → Int32} {x_region : Nat → Int32} {x_parts : Nat → Int64} {x_next : Nat → Int64} {x_ways : Nat → Int32} {x_more : Nat → Int32} {x_whole : Int64} {x_isSaved : Int32} {x_changes : Int32} {x_isWithin : Int32} {x_code : Int32} {x_input : Nat → Int32} {x_length : Int32} {x_fault : Int32} {x_failed : Int32} {x_signs : Nat → Int32} {x_signMany : Int32} {x_at : Int32} {x_told : Nat → Int32} {x_toldMany : Int32} {res : Int32} {H : Heap} {locs : List Loc} {ls : Array Slot} {a1 : Int32} {a2 : Int32}
    (E : En cX13_weighs RX13 wsX13_weighs 3 (some .int) p s m args meth c) (hK : KK g s) (hA : ∀ q, s.heap.size ≤ q → A q) (h : f_X13_weighs x_g a1 a2 = some res) (hW : Wo g A s H locs (w_X13 g h0 h1 h2 h3 h4 h5 h6 h7 h8 h9 h10 h11 h12 h13 x_g x_kept x_saved x_before x_was x_region x_parts x_next x_ways x_more x_whole x_isSaved x_changes x_isWithin x_code x_input x_length x_fault x_failed x_signs x_signMany x_at x_told x_toldMany)) (hl : lv_has ls 3 [(0, .ref h0), (1, .int a1), (2, .int a2)]) : G_X13_weighs p l e s m args below meth c g A h0 h1 h2 h3 h4 h5 h6 h7 h8 h9 h10 h11 h12 h13 x_g x_kept x_saved x_before x_was x_region x_parts x_next x_ways x_more x_whole x_isSaved x_changes x_isWithin x_code x_input x_length x_fault x_failed x_signs x_signMany x_at x_told x_toldMany res H locs 0 ls [] := by
  have hts := E.2.2.2.1
  unfold f_X13_weighs at h
  refine lv_aload_n E.1 E.2.1 dX13_weighs_0 rfl (lv_at hl 0 rfl) ?_
  refine wGet (v := .ref h1) E hK in_X13_weighs_X13 hW 0 lk_X13_weighs_7 0 rfl rfl (by decide) rfl rfl dX13_weighs_1 ?_
  refine lv_bipush (v := 32) E.1 E.2.1 dX13_weighs_4 (by decide) ?_
  refine lv_iconst (v := 4) E.1 E.2.1 dX13_weighs_6 (by decide) ?_
  refine lv_iload_n E.1 E.2.1 dX13_weighs_7 rfl (lv_at hl 1 rfl) ?_
  refine lv_imul E.1 E.2.1 dX13_weighs_8 ?_
  refine lv_iadd E.1 E.2.1 dX13_weighs_9 ?_
  refine lv_iload_n E.1 E.2.1 dX13_weighs_10 rfl (lv_at hl 2 rfl) ?_
  refine lv_iadd E.1 E.2.1 dX13_weighs_11 ?_
  obtain ⟨hi12, h⟩ := ox h
  refine wIald E hK hW 1 rfl hi12 dX13_weighs_12 ?_
  obtain rfl := Option.some.inj h
  exact endI E rfl hW dX13_weighs_13
theorem c_X13_weighs (l : Launch) (g : GE) (h0 h1 h2 h3 h4 h5 h6 h7 h8 h9 h10 h11 h12 h13 : Nat) (x_g : Nat → Int32) (x_kept : Nat → Int32) (x_saved : Nat → Int32) (x_before : Nat → Int32) (x_was : Nat → Int32) (x_region : Nat → Int32) (x_parts : Nat → Int64) (x_next : Nat → Int64) (x_ways : Nat → Int32) (x_more : Nat → Int32) (x_whole : Int64) (x_isSaved : Int32) (x_changes : Int32) (x_isWithin : Int32) (x_code : Int32) (x_input : Nat → Int32) (x_length : Int32) (x_fault : Int32) (x_failed : Int32) (x_signs : Nat → Int32) (x_signMany : Int32) (x_at : Int32) (x_told : Nat → Int32) (x_toldMany : Int32) (a1 : Int32) (a2 : Int32) {res : Int32} (hf : f_X13_weighs x_g a1 a2 = some res) : CI l yX13_weighs wsX13_weighs rm_X13_weighs g [.ref h0, .int a1, .int a2] (w_X13 g h0 h1 h2 h3 h4 h5 h6 h7 h8 h9 h10 h11 h12 h13 x_g x_kept x_saved x_before x_was x_region x_parts x_next x_ways x_more x_whole x_isSaved x_changes x_isWithin x_code x_input x_length x_fault x_failed x_signs x_signMany x_at x_told x_toldMany) (w_X13 g h0 h1 h2 h3 h4 h5 h6 h7 h8 h9 h10 h11 h12 h13 x_g x_kept x_saved x_before x_was x_region x_parts x_next x_ways x_more x_whole x_isSaved x_changes x_isWithin x_code x_input x_length x_fault x_failed x_signs x_signMany x_at x_told x_toldMany) res :=
  mkI (cc := cX13_weighs) (maxL := 3) (by decide) rfl (Nat.le_of_ble_eq_true rfl) (fun p e s m args below meth c A H locs ls E hK hA hW hl => k_X13_weighs_0 E hK hA hf hW hl)

/-! PaperStormModel.sum(I)I X13_sum -/
abbrev rm_X13_sum : Room := { frames := 1, cells := 0, slots := 0, locals := 22 }
noncomputable def f_X13_sum (x_g : Nat → Int32) (a1 : Int32) : Option (Int32) :=
  (f_X13_weighs x_g a1 0).bind fun r3 => (f_X13_weighs x_g a1 1).bind fun r9 => (f_X13_weighs x_g a1 2).bind fun r16 => (f_X13_weighs x_g a1 3).bind fun r23 => some ((((r3 + r9) + r16) + r23))
abbrev G_X13_sum (p : Program) (l : Launch) (e : Env) (s : State) (m : MethodId) (args : Array Value) (below : List Frame) (meth : Method) (c : Code) (g : GE) (A : Nat → Prop) (h0 h1 h2 h3 h4 h5 h6 h7 h8 h9 h10 h11 h12 h13 : Nat) (x_g : Nat → Int32) (x_kept : Nat → Int32) (x_saved : Nat → Int32) (x_before : Nat → Int32) (x_was : Nat → Int32) (x_region : Nat → Int32) (x_parts : Nat → Int64) (x_next : Nat → Int64) (x_ways : Nat → Int32) (x_more : Nat → Int32) (x_whole : Int64) (x_isSaved : Int32) (x_changes : Int32) (x_isWithin : Int32) (x_code : Int32) (x_input : Nat → Int32) (x_length : Int32) (x_fault : Int32) (x_failed : Int32) (x_signs : Nat → Int32) (x_signMany : Int32) (x_at : Int32) (x_told : Nat → Int32) (x_toldMany : Int32) (res : Int32) (H : Heap) (locs : List Loc) (pc : Nat) (ls : Array Slot) (st : List Value) : Prop := W p l e (headSpec wsX13_sum rm_X13_sum).room s m args below meth c H locs 0 0 (MQ below (PoI g A (w_X13 g h0 h1 h2 h3 h4 h5 h6 h7 h8 h9 h10 h11 h12 h13 x_g x_kept x_saved x_before x_was x_region x_parts x_next x_ways x_more x_whole x_isSaved x_changes x_isWithin x_code x_input x_length x_fault x_failed x_signs x_signMany x_at x_told x_toldMany) res) args s 0 0 A) (F0 m pc ls st)
set_option maxHeartbeats 4000000 in
set_option maxRecDepth 100000 in
theorem k_X13_sum_0 {p : Program} {l : Launch} {e : Env} {s : State} {m : MethodId} {args : Array Value} {below : List Frame} {meth : Method} {c : Code} {g : GE} {A : Nat → Prop} {h0 h1 h2 h3 h4 h5 h6 h7 h8 h9 h10 h11 h12 h13 : Nat} {x_g : Nat → Int32} {x_kept : Nat → Int32} {x_saved : Nat → Int32} {x_before : Nat → Int32} {x_was : Nat → Int32} {x_region : Nat → Int32} {x_parts : Nat → Int64} {x_next : Nat → Int64} {x_ways : Nat → Int32} {x_more : Nat → Int32} {x_whole : Int64} {x_isSaved : Int32} {x_changes : Int32} {x_isWithin : Int32} {x_code : Int32} {x_input : Nat → Int32} {x_length : Int32} {x_fault : Int32} {x_failed : Int32} {x_signs : Nat → Int32} {x_signMany : Int32} {x_at : Int32} {x_told : Nat → Int32} {x_toldMany : Int32} {res : Int32} {H : Heap} {locs : List Loc} {ls : Array Slot} {a1 : Int32}
    (E : En cX13_sum RX13 wsX13_sum 2 (some .int) p s m args meth c) (hK : KK g s) (hA : ∀ q, s.heap.size ≤ q → A q) (h : f_X13_sum x_g a1 = some res) (hW : Wo g A s H locs (w_X13 g h0 h1 h2 h3 h4 h5 h6 h7 h8 h9 h10 h11 h12 h13 x_g x_kept x_saved x_before x_was x_region x_parts x_next x_ways x_more x_whole x_isSaved x_changes x_isWithin x_code x_input x_length x_fault x_failed x_signs x_signMany x_at x_told x_toldMany)) (hl : lv_has ls 2 [(0, .ref h0), (1, .int a1)]) : G_X13_sum p l e s m args below meth c g A h0 h1 h2 h3 h4 h5 h6 h7 h8 h9 h10 h11 h12 h13 x_g x_kept x_saved x_before x_was x_region x_parts x_next x_ways x_more x_whole x_isSaved x_changes x_isWithin x_code x_input x_length x_fault x_failed x_signs x_signMany x_at x_told x_toldMany res H locs 0 ls [] := by
  have hts := E.2.2.2.1
  unfold f_X13_sum at h
  refine lv_aload_n E.1 E.2.1 dX13_sum_0 rfl (lv_at hl 0 rfl) ?_
  refine lv_iload_n E.1 E.2.1 dX13_sum_1 rfl (lv_at hl 1 rfl) ?_
  refine lv_iconst (v := 0) E.1 E.2.1 dX13_sum_2 (by decide) ?_
  obtain ⟨r3, hc, h⟩ := bx h
  refine goI (world' := (w_X13 g h0 h1 h2 h3 h4 h5 h6 h7 h8 h9 h10 h11 h12 h13 x_g x_kept x_saved x_before x_was x_region x_parts x_next x_ways x_more x_whole x_isSaved x_changes x_isWithin x_code x_input x_length x_fault x_failed x_signs x_signMany x_at x_told x_toldMany)) hW hA (is := [0, 1, 2, 3, 4, 5, 6, 7, 8, 9, 10, 11, 12, 13]) rfl (goV (rest := []) E hK hW [0, 1, 2, 3, 4, 5, 6, 7, 8, 9, 10, 11, 12, 13] rfl rfl (c_X13_weighs l g h0 h1 h2 h3 h4 h5 h6 h7 h8 h9 h10 h11 h12 h13 x_g x_kept x_saved x_before x_was x_region x_parts x_next x_ways x_more x_whole x_isSaved x_changes x_isWithin x_code x_input x_length x_fault x_failed x_signs x_signMany x_at x_told x_toldMany a1 0 (hf := hc) H.size) (cwV 2 hts gX13_sum_X13_weighs rfl rfl rfl (by decide +kernel) ⟨Nat.le_of_ble_eq_true rfl, Nat.le_of_ble_eq_true rfl⟩) 0 rfl rfl rfl hl.1 rfl rfl (Nat.le_of_ble_eq_true rfl) dX13_sum_3 ⟨Nat.zero_le _, Nat.zero_le _⟩) rfl rfl (fun H locs hW => ?_)
  refine lv_aload_n E.1 E.2.1 dX13_sum_6 rfl (lv_at hl 0 rfl) ?_
  refine lv_iload_n E.1 E.2.1 dX13_sum_7 rfl (lv_at hl 1 rfl) ?_
  refine lv_iconst (v := 1) E.1 E.2.1 dX13_sum_8 (by decide) ?_
  obtain ⟨r9, hc, h⟩ := bx h
  refine goI (world' := (w_X13 g h0 h1 h2 h3 h4 h5 h6 h7 h8 h9 h10 h11 h12 h13 x_g x_kept x_saved x_before x_was x_region x_parts x_next x_ways x_more x_whole x_isSaved x_changes x_isWithin x_code x_input x_length x_fault x_failed x_signs x_signMany x_at x_told x_toldMany)) hW hA (is := [0, 1, 2, 3, 4, 5, 6, 7, 8, 9, 10, 11, 12, 13]) rfl (goV (rest := [.int r3]) E hK hW [0, 1, 2, 3, 4, 5, 6, 7, 8, 9, 10, 11, 12, 13] rfl rfl (c_X13_weighs l g h0 h1 h2 h3 h4 h5 h6 h7 h8 h9 h10 h11 h12 h13 x_g x_kept x_saved x_before x_was x_region x_parts x_next x_ways x_more x_whole x_isSaved x_changes x_isWithin x_code x_input x_length x_fault x_failed x_signs x_signMany x_at x_told x_toldMany a1 1 (hf := hc) H.size) (cwV 2 hts gX13_sum_X13_weighs rfl rfl rfl (by decide +kernel) ⟨Nat.le_of_ble_eq_true rfl, Nat.le_of_ble_eq_true rfl⟩) 0 rfl rfl rfl hl.1 rfl rfl (Nat.le_of_ble_eq_true rfl) dX13_sum_9 ⟨Nat.zero_le _, Nat.zero_le _⟩) rfl rfl (fun H locs hW => ?_)
  refine lv_iadd E.1 E.2.1 dX13_sum_12 ?_
  refine lv_aload_n E.1 E.2.1 dX13_sum_13 rfl (lv_at hl 0 rfl) ?_
  refine lv_iload_n E.1 E.2.1 dX13_sum_14 rfl (lv_at hl 1 rfl) ?_
  refine lv_iconst (v := 2) E.1 E.2.1 dX13_sum_15 (by decide) ?_
  obtain ⟨r16, hc, h⟩ := bx h
  refine goI (world' := (w_X13 g h0 h1 h2 h3 h4 h5 h6 h7 h8 h9 h10 h11 h12 h13 x_g x_kept x_saved x_before x_was x_region x_parts x_next x_ways x_more x_whole x_isSaved x_changes x_isWithin x_code x_input x_length x_fault x_failed x_signs x_signMany x_at x_told x_toldMany)) hW hA (is := [0, 1, 2, 3, 4, 5, 6, 7, 8, 9, 10, 11, 12, 13]) rfl (goV (rest := [.int (r3 + r9)]) E hK hW [0, 1, 2, 3, 4, 5, 6, 7, 8, 9, 10, 11, 12, 13] rfl rfl (c_X13_weighs l g h0 h1 h2 h3 h4 h5 h6 h7 h8 h9 h10 h11 h12 h13 x_g x_kept x_saved x_before x_was x_region x_parts x_next x_ways x_more x_whole x_isSaved x_changes x_isWithin x_code x_input x_length x_fault x_failed x_signs x_signMany x_at x_told x_toldMany a1 2 (hf := hc) H.size) (cwV 2 hts gX13_sum_X13_weighs rfl rfl rfl (by decide +kernel) ⟨Nat.le_of_ble_eq_true rfl, Nat.le_of_ble_eq_true rfl⟩) 0 rfl rfl rfl hl.1 rfl rfl (Nat.le_of_ble_eq_true rfl) dX13_sum_16 ⟨Nat.zero_le _, Nat.zero_le _⟩) rfl rfl (fun H locs hW => ?_)
  refine lv_iadd E.1 E.2.1 dX13_sum_19 ?_
  refine lv_aload_n E.1 E.2.1 dX13_sum_20 rfl (lv_at hl 0 rfl) ?_
  refine lv_iload_n E.1 E.2.1 dX13_sum_21 rfl (lv_at hl 1 rfl) ?_
  refine lv_iconst (v := 3) E.1 E.2.1 dX13_sum_22 (by decide) ?_
  obtain ⟨r23, hc, h⟩ := bx h
  refine goI (world' := (w_X13 g h0 h1 h2 h3 h4 h5 h6 h7 h8 h9 h10 h11 h12 h13 x_g x_kept x_saved x_before x_was x_region x_parts x_next x_ways x_more x_whole x_isSaved x_changes x_isWithin x_code x_input x_length x_fault x_failed x_signs x_signMany x_at x_told x_toldMany)) hW hA (is := [0, 1, 2, 3, 4, 5, 6, 7, 8, 9, 10, 11, 12, 13]) rfl (goV (rest := [.int ((r3 + r9) + r16)]) E hK hW [0, 1, 2, 3, 4, 5, 6, 7, 8, 9, 10, 11, 12, 13] rfl rfl (c_X13_weighs l g h0 h1 h2 h3 h4 h5 h6 h7 h8 h9 h10 h11 h12 h13 x_g x_kept x_saved x_before x_was x_region x_parts x_next x_ways x_more x_whole x_isSaved x_changes x_isWithin x_code x_input x_length x_fault x_failed x_signs x_signMany x_at x_told x_toldMany a1 3 (hf := hc) H.size) (cwV 2 hts gX13_sum_X13_weighs rfl rfl rfl (by decide +kernel) ⟨Nat.le_of_ble_eq_true rfl, Nat.le_of_ble_eq_true rfl⟩) 0 rfl rfl rfl hl.1 rfl rfl (Nat.le_of_ble_eq_true rfl) dX13_sum_23 ⟨Nat.zero_le _, Nat.zero_le _⟩) rfl rfl (fun H locs hW => ?_)
  refine lv_iadd E.1 E.2.1 dX13_sum_26 ?_
  obtain rfl := Option.some.inj h
  exact endI E rfl hW dX13_sum_27
theorem c_X13_sum (l : Launch) (g : GE) (h0 h1 h2 h3 h4 h5 h6 h7 h8 h9 h10 h11 h12 h13 : Nat) (x_g : Nat → Int32) (x_kept : Nat → Int32) (x_saved : Nat → Int32) (x_before : Nat → Int32) (x_was : Nat → Int32) (x_region : Nat → Int32) (x_parts : Nat → Int64) (x_next : Nat → Int64) (x_ways : Nat → Int32) (x_more : Nat → Int32) (x_whole : Int64) (x_isSaved : Int32) (x_changes : Int32) (x_isWithin : Int32) (x_code : Int32) (x_input : Nat → Int32) (x_length : Int32) (x_fault : Int32) (x_failed : Int32) (x_signs : Nat → Int32) (x_signMany : Int32) (x_at : Int32) (x_told : Nat → Int32) (x_toldMany : Int32) (a1 : Int32) {res : Int32} (hf : f_X13_sum x_g a1 = some res) : CI l yX13_sum wsX13_sum rm_X13_sum g [.ref h0, .int a1] (w_X13 g h0 h1 h2 h3 h4 h5 h6 h7 h8 h9 h10 h11 h12 h13 x_g x_kept x_saved x_before x_was x_region x_parts x_next x_ways x_more x_whole x_isSaved x_changes x_isWithin x_code x_input x_length x_fault x_failed x_signs x_signMany x_at x_told x_toldMany) (w_X13 g h0 h1 h2 h3 h4 h5 h6 h7 h8 h9 h10 h11 h12 h13 x_g x_kept x_saved x_before x_was x_region x_parts x_next x_ways x_more x_whole x_isSaved x_changes x_isWithin x_code x_input x_length x_fault x_failed x_signs x_signMany x_at x_told x_toldMany) res :=
  mkI (cc := cX13_sum) (maxL := 2) (by decide) rfl (Nat.le_of_ble_eq_true rfl) (fun p e s m args below meth c A H locs ls E hK hA hW hl => k_X13_sum_0 E hK hA hf hW hl)

