/-! PaperStormModel.writesNumber(J)V X13_writesNumber -/
def rm_X13_writesNumber (n : Nat) : Room := { frames := n + 1, cells := 0, slots := 0, locals := 22 * n + 21 }
theorem lk_X13_writesNumber_172 : Cond.constantLong RX13 172 9 ∈ wsX13_writesNumber := by decide +kernel
theorem lk_X13_writesNumber_174 : Cond.constantLong RX13 174 10 ∈ wsX13_writesNumber := by decide +kernel
noncomputable def f_X13_writesNumber : Nat → (Nat → Int32) → Int32 → Int64 → Option ((Nat → Int32) × Int32)
  | 0, _, _, _ => none
  | n + 1, x_signs, x_signMany, a1 => jo (fun (x_signs_17 : Nat → Int32) (x_signMany_17 : Int32) => (f_X13_writes x_signs_17 x_signMany_17 (48 + (((a1 - a1 / 10 * 10)).toInt32))).bind fun r27 => some (r27.1, r27.2)) (fun j17 => if (lg_cmp a1 9) ≤ 0 then j17 x_signs x_signMany else (f_X13_writesNumber n x_signs x_signMany (a1 / 10)).bind fun r14 => j17 r14.1 r14.2)
theorem rmw_f (n : Nat) : (rm_X13_writesNumber n).frames + 1 ≤ (headSpec wsX13_writesNumber (rm_X13_writesNumber (n + 1))).room.frames := Nat.le_refl _
theorem rmw_l (n : Nat) : 8 + (3 + 11) + (rm_X13_writesNumber n).locals ≤ (headSpec wsX13_writesNumber (rm_X13_writesNumber (n + 1))).room.locals := by
  show 8 + (3 + 11) + (22 * n + 21) ≤ 22 * (n + 1) + 21
  omega
theorem rmw_f2 (n : Nat) : rm_X13_writes.frames + 1 ≤ (headSpec wsX13_writesNumber (rm_X13_writesNumber (n + 1))).room.frames := by
  show 0 + 1 ≤ (n + 1) + 1
  omega
theorem rmw_l2 (n : Nat) : 8 + (2 + 11) + rm_X13_writes.locals ≤ (headSpec wsX13_writesNumber (rm_X13_writesNumber (n + 1))).room.locals := by
  show 8 + (2 + 11) + 0 ≤ 22 * (n + 1) + 21
  omega
abbrev G_X13_writesNumber (n : Nat) (p : Program) (l : Launch) (e : Env) (s : State) (m : MethodId) (args : Array Value) (below : List Frame) (meth : Method) (c : Code) (g : GE) (A : Nat → Prop) (h0 h1 h2 h3 h4 h5 h6 h7 h8 h9 h10 h11 h12 h13 : Nat) (x_g : Nat → Int32) (x_kept : Nat → Int32) (x_saved : Nat → Int32) (x_before : Nat → Int32) (x_was : Nat → Int32) (x_region : Nat → Int32) (x_parts : Nat → Int64) (x_next : Nat → Int64) (x_ways : Nat → Int32) (x_more : Nat → Int32) (x_whole : Int64) (x_isSaved : Int32) (x_changes : Int32) (x_isWithin : Int32) (x_code : Int32) (x_input : Nat → Int32) (x_length : Int32) (x_fault : Int32) (x_failed : Int32) (x_at : Int32) (x_told : Nat → Int32) (x_toldMany : Int32) (res : (Nat → Int32) × Int32) (H : Heap) (locs : List Loc) (pc : Nat) (ls : Array Slot) (st : List Value) : Prop := W p l e (headSpec wsX13_writesNumber (rm_X13_writesNumber (n + 1))).room s m args below meth c H locs 0 0 (MQ below (PoV g A (w_X13 g h0 h1 h2 h3 h4 h5 h6 h7 h8 h9 h10 h11 h12 h13 x_g x_kept x_saved x_before x_was x_region x_parts x_next x_ways x_more x_whole x_isSaved x_changes x_isWithin x_code x_input x_length x_fault x_failed res.1 res.2 x_at x_told x_toldMany)) args s 0 0 A) (F0 m pc ls st)
set_option maxHeartbeats 4000000 in
set_option maxRecDepth 100000 in
theorem k_X13_writesNumber_0 {n : Nat} (ih : ∀ (l : Launch) (g : GE) (h0 h1 h2 h3 h4 h5 h6 h7 h8 h9 h10 h11 h12 h13 : Nat) (x_g : Nat → Int32) (x_kept : Nat → Int32) (x_saved : Nat → Int32) (x_before : Nat → Int32) (x_was : Nat → Int32) (x_region : Nat → Int32) (x_parts : Nat → Int64) (x_next : Nat → Int64) (x_ways : Nat → Int32) (x_more : Nat → Int32) (x_whole : Int64) (x_isSaved : Int32) (x_changes : Int32) (x_isWithin : Int32) (x_code : Int32) (x_input : Nat → Int32) (x_length : Int32) (x_fault : Int32) (x_failed : Int32) (x_signs : Nat → Int32) (x_signMany : Int32) (x_at : Int32) (x_told : Nat → Int32) (x_toldMany : Int32) (a1 : Int64) {res : (Nat → Int32) × Int32} (hf : f_X13_writesNumber n x_signs x_signMany a1 = some res), CV l yX13_writesNumber wsX13_writesNumber (rm_X13_writesNumber n) g [.ref h0, .long a1] (w_X13 g h0 h1 h2 h3 h4 h5 h6 h7 h8 h9 h10 h11 h12 h13 x_g x_kept x_saved x_before x_was x_region x_parts x_next x_ways x_more x_whole x_isSaved x_changes x_isWithin x_code x_input x_length x_fault x_failed x_signs x_signMany x_at x_told x_toldMany) (w_X13 g h0 h1 h2 h3 h4 h5 h6 h7 h8 h9 h10 h11 h12 h13 x_g x_kept x_saved x_before x_was x_region x_parts x_next x_ways x_more x_whole x_isSaved x_changes x_isWithin x_code x_input x_length x_fault x_failed res.1 res.2 x_at x_told x_toldMany)) {p : Program} {l : Launch} {e : Env} {s : State} {m : MethodId} {args : Array Value} {below : List Frame} {meth : Method} {c : Code} {g : GE} {A : Nat → Prop} {h0 h1 h2 h3 h4 h5 h6 h7 h8 h9 h10 h11 h12 h13 : Nat} {x_g : Nat → Int32} {x_kept : Nat → Int32} {x_saved : Nat → Int32} {x_before : Nat → Int32} {x_was : Nat → Int32} {x_region : Nat → Int32} {x_parts : Nat → Int64} {x_next : Nat → Int64} {x_ways : Nat → Int32} {x_more : Nat → Int32} {x_whole : Int64} {x_isSaved : Int32} {x_changes : Int32} {x_isWithin : Int32} {x_code : Int32} {x_input : Nat → Int32} {x_length : Int32} {x_fault : Int32} {x_failed : Int32} {x_signs : Nat → Int32} {x_signMany : Int32} {x_at : Int32} {x_told : Nat → Int32} {x_toldMany : Int32} {res : (Nat → Int32) × Int32} {H : Heap} {locs : List Loc} {ls : Array Slot} {a1 : Int64}
    (E : En cX13_writesNumber RX13 wsX13_writesNumber 3 none p s m args meth c) (hK : KK g s) (hA : ∀ q, s.heap.size ≤ q → A q) (h : f_X13_writesNumber (n + 1) x_signs x_signMany a1 = some res) (hW : Wo g A s H locs (w_X13 g h0 h1 h2 h3 h4 h5 h6 h7 h8 h9 h10 h11 h12 h13 x_g x_kept x_saved x_before x_was x_region x_parts x_next x_ways x_more x_whole x_isSaved x_changes x_isWithin x_code x_input x_length x_fault x_failed x_signs x_signMany x_at x_told x_toldMany)) (hl : lv_has ls 3 [(0, .ref h0), (1, .long a1)]) : G_X13_writesNumber n p l e s m args below meth c g A h0 h1 h2 h3 h4 h5 h6 h7 h8 h9 h10 h11 h12 h13 x_g x_kept x_saved x_before x_was x_region x_parts x_next x_ways x_more x_whole x_isSaved x_changes x_isWithin x_code x_input x_length x_fault x_failed x_at x_told x_toldMany res H locs 0 ls [] := by
  have hts := E.2.2.2.1
  rw [f_X13_writesNumber] at h
  obtain ⟨j17, hj17, h⟩ := jox2 h
  have J17 : ∀ (x_signs_17 : Nat → Int32) (x_signMany_17 : Int32) (H : Heap) (locs : List Loc) (ls : Array Slot), j17 x_signs_17 x_signMany_17 = some res → Wo g A s H locs (w_X13 g h0 h1 h2 h3 h4 h5 h6 h7 h8 h9 h10 h11 h12 h13 x_g x_kept x_saved x_before x_was x_region x_parts x_next x_ways x_more x_whole x_isSaved x_changes x_isWithin x_code x_input x_length x_fault x_failed x_signs_17 x_signMany_17 x_at x_told x_toldMany) → lv_has ls 3 [(0, .ref h0), (1, .long a1)] → G_X13_writesNumber n p l e s m args below meth c g A h0 h1 h2 h3 h4 h5 h6 h7 h8 h9 h10 h11 h12 h13 x_g x_kept x_saved x_before x_was x_region x_parts x_next x_ways x_more x_whole x_isSaved x_changes x_isWithin x_code x_input x_length x_fault x_failed x_at x_told x_toldMany res H locs 17 ls [] := by
    intro x_signs_17 x_signMany_17 H locs ls h hW hl
    rw [hj17] at h
    refine lv_aload_n E.1 E.2.1 dX13_writesNumber_17 rfl (lv_at hl 0 rfl) ?_
    refine lv_bipush (v := 48) E.1 E.2.1 dX13_writesNumber_18 (by decide) ?_
    refine lv_lload_n E.1 E.2.1 dX13_writesNumber_20 rfl (lv_at hl 1 rfl) ?_
    refine lv_ldc2 (v := 10) E.1 E.2.1 E.2.2.2.2.1 (hts _ lk_X13_writesNumber_174) dX13_writesNumber_21 ?_
    refine lv_lrem E.1 E.2.1 dX13_writesNumber_24 (by decide) ?_
    refine lv_l2i (v := ((a1 - a1 / 10 * 10)).toInt32) E.1 E.2.1 dX13_writesNumber_25 rfl ?_
    refine lv_iadd E.1 E.2.1 dX13_writesNumber_26 ?_
    obtain ⟨r27, hc, h⟩ := bx h
    refine goU (world' := (w_X13 g h0 h1 h2 h3 h4 h5 h6 h7 h8 h9 h10 h11 h12 h13 x_g x_kept x_saved x_before x_was x_region x_parts x_next x_ways x_more x_whole x_isSaved x_changes x_isWithin x_code x_input x_length x_fault x_failed r27.1 r27.2 x_at x_told x_toldMany)) hW hA (is := [0, 1, 2, 3, 4, 5, 6, 7, 8, 9, 10, 11, 12, 13]) rfl (goV (rest := []) E hK hW [0, 1, 2, 3, 4, 5, 6, 7, 8, 9, 10, 11, 12, 13] rfl rfl (c_X13_writes l g h0 h1 h2 h3 h4 h5 h6 h7 h8 h9 h10 h11 h12 h13 x_g x_kept x_saved x_before x_was x_region x_parts x_next x_ways x_more x_whole x_isSaved x_changes x_isWithin x_code x_input x_length x_fault x_failed x_signs_17 x_signMany_17 x_at x_told x_toldMany (48 + (((a1 - a1 / 10 * 10)).toInt32)) (hf := hc) H.size) (cwV 1 hts gX13_writesNumber_X13_writes rfl rfl rfl (by decide +kernel) ⟨rmw_f2 n, rmw_l2 n⟩) 0 rfl rfl rfl hl.1 rfl rfl (Nat.le_of_ble_eq_true rfl) dX13_writesNumber_27 ⟨Nat.zero_le _, Nat.zero_le _⟩) rfl rfl (fun H locs hW => ?_)
    obtain rfl := Option.some.inj h
    exact endV E hW dX13_writesNumber_30
  refine lv_lload_n E.1 E.2.1 dX13_writesNumber_0 rfl (lv_at hl 1 rfl) ?_
  refine lv_ldc2 (v := 9) E.1 E.2.1 E.2.2.2.2.1 (hts _ lk_X13_writesNumber_172) dX13_writesNumber_1 ?_
  refine W.lcmp E.1 E.2.1 dX13_writesNumber_4 ?_
  refine lv_if_le (tgt := 17) E.1 E.2.1 dX13_writesNumber_5 (by decide) (fun c5 => ?_) (fun c5 => ?_)
  · have h := it c5 h
    exact J17 x_signs x_signMany H locs ls h hW (lv_sub hl [0, 1] rfl)
  · have h := ie c5 h
    refine lv_aload_n E.1 E.2.1 dX13_writesNumber_8 rfl (lv_at hl 0 rfl) ?_
    refine lv_lload_n E.1 E.2.1 dX13_writesNumber_9 rfl (lv_at hl 1 rfl) ?_
    refine lv_ldc2 (v := 10) E.1 E.2.1 E.2.2.2.2.1 (hts _ lk_X13_writesNumber_174) dX13_writesNumber_10 ?_
    refine lv_ldiv E.1 E.2.1 dX13_writesNumber_13 (by decide) ?_
    obtain ⟨r14, hc, h⟩ := bx h
    refine goU (world' := (w_X13 g h0 h1 h2 h3 h4 h5 h6 h7 h8 h9 h10 h11 h12 h13 x_g x_kept x_saved x_before x_was x_region x_parts x_next x_ways x_more x_whole x_isSaved x_changes x_isWithin x_code x_input x_length x_fault x_failed r14.1 r14.2 x_at x_told x_toldMany)) hW hA (is := [0, 1, 2, 3, 4, 5, 6, 7, 8, 9, 10, 11, 12, 13]) rfl (goV (rest := []) E hK hW [0, 1, 2, 3, 4, 5, 6, 7, 8, 9, 10, 11, 12, 13] rfl rfl (ih l g h0 h1 h2 h3 h4 h5 h6 h7 h8 h9 h10 h11 h12 h13 x_g x_kept x_saved x_before x_was x_region x_parts x_next x_ways x_more x_whole x_isSaved x_changes x_isWithin x_code x_input x_length x_fault x_failed x_signs x_signMany x_at x_told x_toldMany (a1 / 10) (hf := hc) H.size) (cwV 1 hts gX13_writesNumber_X13_writesNumber rfl rfl rfl (by decide +kernel) ⟨rmw_f n, rmw_l n⟩) 0 rfl rfl rfl hl.1 rfl rfl (Nat.le_of_ble_eq_true rfl) dX13_writesNumber_14 ⟨Nat.zero_le _, Nat.zero_le _⟩) rfl rfl (fun H locs hW => ?_)
    exact J17 r14.1 r14.2 H locs ls h hW (lv_sub hl [0, 1] rfl)
theorem c_X13_writesNumber : ∀ (n : Nat) (l : Launch) (g : GE) (h0 h1 h2 h3 h4 h5 h6 h7 h8 h9 h10 h11 h12 h13 : Nat) (x_g : Nat → Int32) (x_kept : Nat → Int32) (x_saved : Nat → Int32) (x_before : Nat → Int32) (x_was : Nat → Int32) (x_region : Nat → Int32) (x_parts : Nat → Int64) (x_next : Nat → Int64) (x_ways : Nat → Int32) (x_more : Nat → Int32) (x_whole : Int64) (x_isSaved : Int32) (x_changes : Int32) (x_isWithin : Int32) (x_code : Int32) (x_input : Nat → Int32) (x_length : Int32) (x_fault : Int32) (x_failed : Int32) (x_signs : Nat → Int32) (x_signMany : Int32) (x_at : Int32) (x_told : Nat → Int32) (x_toldMany : Int32) (a1 : Int64) {res : (Nat → Int32) × Int32} (hf : f_X13_writesNumber n x_signs x_signMany a1 = some res), CV l yX13_writesNumber wsX13_writesNumber (rm_X13_writesNumber n) g [.ref h0, .long a1] (w_X13 g h0 h1 h2 h3 h4 h5 h6 h7 h8 h9 h10 h11 h12 h13 x_g x_kept x_saved x_before x_was x_region x_parts x_next x_ways x_more x_whole x_isSaved x_changes x_isWithin x_code x_input x_length x_fault x_failed x_signs x_signMany x_at x_told x_toldMany) (w_X13 g h0 h1 h2 h3 h4 h5 h6 h7 h8 h9 h10 h11 h12 h13 x_g x_kept x_saved x_before x_was x_region x_parts x_next x_ways x_more x_whole x_isSaved x_changes x_isWithin x_code x_input x_length x_fault x_failed res.1 res.2 x_at x_told x_toldMany) := by
  intro n
  induction n with
  | zero => intro l g h0 h1 h2 h3 h4 h5 h6 h7 h8 h9 h10 h11 h12 h13 x_g x_kept x_saved x_before x_was x_region x_parts x_next x_ways x_more x_whole x_isSaved x_changes x_isWithin x_code x_input x_length x_fault x_failed x_signs x_signMany x_at x_told x_toldMany a1 res hf; rw [f_X13_writesNumber] at hf; cases hf
  | succ n ih =>
    intro l g h0 h1 h2 h3 h4 h5 h6 h7 h8 h9 h10 h11 h12 h13 x_g x_kept x_saved x_before x_was x_region x_parts x_next x_ways x_more x_whole x_isSaved x_changes x_isWithin x_code x_input x_length x_fault x_failed x_signs x_signMany x_at x_told x_toldMany a1 res hf
    exact mkV (cc := cX13_writesNumber) (maxL := 3) (by decide) rfl (Nat.le_of_ble_eq_true rfl) (fun p e s m args below meth c A H locs ls E hK hA hW hl => k_X13_writesNumber_0 ih E hK hA hf hW hl)
noncomputable def f_X13_writesNumberT (x_signs : Nat → Int32) (x_signMany : Int32) (a1 : Int64) : Option ((Nat → Int32) × Int32) := f_X13_writesNumber 24 x_signs x_signMany a1
theorem c_X13_writesNumberT (l : Launch) (g : GE) (h0 h1 h2 h3 h4 h5 h6 h7 h8 h9 h10 h11 h12 h13 : Nat) (x_g : Nat → Int32) (x_kept : Nat → Int32) (x_saved : Nat → Int32) (x_before : Nat → Int32) (x_was : Nat → Int32) (x_region : Nat → Int32) (x_parts : Nat → Int64) (x_next : Nat → Int64) (x_ways : Nat → Int32) (x_more : Nat → Int32) (x_whole : Int64) (x_isSaved : Int32) (x_changes : Int32) (x_isWithin : Int32) (x_code : Int32) (x_input : Nat → Int32) (x_length : Int32) (x_fault : Int32) (x_failed : Int32) (x_signs : Nat → Int32) (x_signMany : Int32) (x_at : Int32) (x_told : Nat → Int32) (x_toldMany : Int32) (a1 : Int64) {res : (Nat → Int32) × Int32} (hf : f_X13_writesNumberT x_signs x_signMany a1 = some res) : CV l yX13_writesNumber wsX13_writesNumber (rm_X13_writesNumber 24) g [.ref h0, .long a1] (w_X13 g h0 h1 h2 h3 h4 h5 h6 h7 h8 h9 h10 h11 h12 h13 x_g x_kept x_saved x_before x_was x_region x_parts x_next x_ways x_more x_whole x_isSaved x_changes x_isWithin x_code x_input x_length x_fault x_failed x_signs x_signMany x_at x_told x_toldMany) (w_X13 g h0 h1 h2 h3 h4 h5 h6 h7 h8 h9 h10 h11 h12 h13 x_g x_kept x_saved x_before x_was x_region x_parts x_next x_ways x_more x_whole x_isSaved x_changes x_isWithin x_code x_input x_length x_fault x_failed res.1 res.2 x_at x_told x_toldMany) := c_X13_writesNumber 24 l g h0 h1 h2 h3 h4 h5 h6 h7 h8 h9 h10 h11 h12 h13 x_g x_kept x_saved x_before x_was x_region x_parts x_next x_ways x_more x_whole x_isSaved x_changes x_isWithin x_code x_input x_length x_fault x_failed x_signs x_signMany x_at x_told x_toldMany a1 hf

/-! PaperStormModel.writesWord(Ljava/lang/String;)V X13_writesWord -/
abbrev rm_X13_writesWord : Room := { frames := 4, cells := 0, slots := 0, locals := 85 }
noncomputable def f_X13_writesWord_2 (b1 : List Int32) (z25 : (Nat → Int32) → Int32 → Option ((Nat → Int32) × Int32)) : Nat → Int32 → (Nat → Int32) → Int32 → Option ((Nat → Int32) × Int32)
  | 0, _, _, _ => none
  | n + 1, l2_2, x_signs_2, x_signMany_2 => if (nI (b1 : List Int32).length) ≤ l2_2 then z25 x_signs_2 x_signMany_2 else if l2_2 < 0 ∨ (b1 : List Int32).length ≤ l2_2.toNatClampNeg then none else (f_X13_writes x_signs_2 x_signMany_2 (chAt (b1 : List Int32) l2_2)).bind fun r16 => f_X13_writesWord_2 b1 z25 n (l2_2 + 1) r16.1 r16.2
noncomputable def f_X13_writesWord (x_signs : Nat → Int32) (x_signMany : Int32) (b1 : List Int32) : Option ((Nat → Int32) × Int32) :=
  f_X13_writesWord_2 b1 (fun x_signs_25e x_signMany_25e => some (x_signs_25e, x_signMany_25e)) 1000 0 x_signs x_signMany
abbrev G_X13_writesWord (p : Program) (l : Launch) (e : Env) (s : State) (m : MethodId) (args : Array Value) (below : List Frame) (meth : Method) (c : Code) (g : GE) (A : Nat → Prop) (z : ZE) (h0 h1 h2 h3 h4 h5 h6 h7 h8 h9 h10 h11 h12 h13 : Nat) (x_g : Nat → Int32) (x_kept : Nat → Int32) (x_saved : Nat → Int32) (x_before : Nat → Int32) (x_was : Nat → Int32) (x_region : Nat → Int32) (x_parts : Nat → Int64) (x_next : Nat → Int64) (x_ways : Nat → Int32) (x_more : Nat → Int32) (x_whole : Int64) (x_isSaved : Int32) (x_changes : Int32) (x_isWithin : Int32) (x_code : Int32) (x_input : Nat → Int32) (x_length : Int32) (x_fault : Int32) (x_failed : Int32) (x_at : Int32) (x_told : Nat → Int32) (x_toldMany : Int32) (res : (Nat → Int32) × Int32) (H : Heap) (locs : List Loc) (pc : Nat) (ls : Array Slot) (st : List Value) : Prop := W p l e (headSpec wsX13_writesWord rm_X13_writesWord).room s m args below meth c H locs 0 0 (MQ below (PoV g A (w_X13 g h0 h1 h2 h3 h4 h5 h6 h7 h8 h9 h10 h11 h12 h13 x_g x_kept x_saved x_before x_was x_region x_parts x_next x_ways x_more x_whole x_isSaved x_changes x_isWithin x_code x_input x_length x_fault x_failed res.1 res.2 x_at x_told x_toldMany)) args s 0 0 A) (F0 m pc ls st)
set_option maxHeartbeats 4000000 in
set_option maxRecDepth 100000 in
theorem k_X13_writesWord_2 {p : Program} {l : Launch} {e : Env} {s : State} {m : MethodId} {args : Array Value} {below : List Frame} {meth : Method} {c : Code} {g : GE} {A : Nat → Prop} {z : ZE} {o1 : String} {k1 : Nat} {h0 h1 h2 h3 h4 h5 h6 h7 h8 h9 h10 h11 h12 h13 : Nat} {x_g : Nat → Int32} {x_kept : Nat → Int32} {x_saved : Nat → Int32} {x_before : Nat → Int32} {x_was : Nat → Int32} {x_region : Nat → Int32} {x_parts : Nat → Int64} {x_next : Nat → Int64} {x_ways : Nat → Int32} {x_more : Nat → Int32} {x_whole : Int64} {x_isSaved : Int32} {x_changes : Int32} {x_isWithin : Int32} {x_code : Int32} {x_input : Nat → Int32} {x_length : Int32} {x_fault : Int32} {x_failed : Int32} {x_at : Int32} {x_told : Nat → Int32} {x_toldMany : Int32} {res : (Nat → Int32) × Int32} {b1 : List Int32} {z25 : (Nat → Int32) → Int32 → Option ((Nat → Int32) × Int32)}
    (E : En cX13_writesWord RX13 wsX13_writesWord 3 none p s m args meth c) (hK : KK g s) (hz : KS z s) (hC : CS z A s s.heap) (hx1 : ((o1, k1, b1) : String × Nat × List Int32) ∈ strT) (hA : ∀ q, s.heap.size ≤ q → A q)
    (hz25 : ∀ (x_signs_25e : Nat → Int32) (x_signMany_25e : Int32) (H : Heap) (locs : List Loc) (ls : Array Slot), z25 x_signs_25e x_signMany_25e = some res → Wo g A s H locs (w_X13 g h0 h1 h2 h3 h4 h5 h6 h7 h8 h9 h10 h11 h12 h13 x_g x_kept x_saved x_before x_was x_region x_parts x_next x_ways x_more x_whole x_isSaved x_changes x_isWithin x_code x_input x_length x_fault x_failed x_signs_25e x_signMany_25e x_at x_told x_toldMany) → lv_has ls 3 [] → G_X13_writesWord p l e s m args below meth c g A z h0 h1 h2 h3 h4 h5 h6 h7 h8 h9 h10 h11 h12 h13 x_g x_kept x_saved x_before x_was x_region x_parts x_next x_ways x_more x_whole x_isSaved x_changes x_isWithin x_code x_input x_length x_fault x_failed x_at x_told x_toldMany res H locs 25 ls [])
    : ∀ (n : Nat) (l2_2 : Int32) (x_signs_2 : Nat → Int32) (x_signMany_2 : Int32) (H : Heap) (locs : List Loc) (ls : Array Slot), f_X13_writesWord_2 b1 z25 n l2_2 x_signs_2 x_signMany_2 = some res → Wo g A s H locs (w_X13 g h0 h1 h2 h3 h4 h5 h6 h7 h8 h9 h10 h11 h12 h13 x_g x_kept x_saved x_before x_was x_region x_parts x_next x_ways x_more x_whole x_isSaved x_changes x_isWithin x_code x_input x_length x_fault x_failed x_signs_2 x_signMany_2 x_at x_told x_toldMany) → lv_has ls 3 [(0, .ref h0), (1, .ref (z.1 o1 k1)), (2, .int l2_2)] → G_X13_writesWord p l e s m args below meth c g A z h0 h1 h2 h3 h4 h5 h6 h7 h8 h9 h10 h11 h12 h13 x_g x_kept x_saved x_before x_was x_region x_parts x_next x_ways x_more x_whole x_isSaved x_changes x_isWithin x_code x_input x_length x_fault x_failed x_at x_told x_toldMany res H locs 2 ls [] := by
  have hts := E.2.2.2.1
  intro n
  induction n with
  | zero => intro l2_2 x_signs_2 x_signMany_2 H locs ls h hW hl; rw [f_X13_writesWord_2] at h; cases h
  | succ n ih =>
    intro l2_2 x_signs_2 x_signMany_2 H locs ls h hW hl
    rw [f_X13_writesWord_2] at h
    refine lv_iload_n E.1 E.2.1 dX13_writesWord_2 rfl (lv_at hl 2 rfl) ?_
    refine lv_aload_n E.1 E.2.1 dX13_writesWord_3 rfl (lv_at hl 1 rfl) ?_
    refine wLen (o1, k1, b1) hx1 E hC hW (cwV 0 hts gX13_writesWord_J0_length_8abf5 rfl rfl rfl (by decide +kernel) ⟨Nat.le_of_ble_eq_true rfl, Nat.le_of_ble_eq_true rfl⟩) hl.1 (Nat.le_of_ble_eq_true rfl) dX13_writesWord_4 ⟨Nat.zero_le _, Nat.zero_le _⟩ (fun H locs hW => ?_)
    refine lv_icmp_ge (tgt := 25) E.1 E.2.1 dX13_writesWord_7 (by decide) (fun c7 => ?_) (fun c7 => ?_)
    · have h := it c7 h
      exact hz25 x_signs_2 x_signMany_2 H locs ls h hW (lv_sub hl [] rfl)
    · have h := ie c7 h
      refine lv_aload_n E.1 E.2.1 dX13_writesWord_10 rfl (lv_at hl 0 rfl) ?_
      refine lv_aload_n E.1 E.2.1 dX13_writesWord_11 rfl (lv_at hl 1 rfl) ?_
      refine lv_iload_n E.1 E.2.1 dX13_writesWord_12 rfl (lv_at hl 2 rfl) ?_
      obtain ⟨hi13, h⟩ := ox h
      refine wChr (o1, k1, b1) hx1 hi13 E hC hW (cwV 1 hts gX13_writesWord_J0_charAt_5068e rfl rfl rfl (by decide +kernel) ⟨Nat.le_of_ble_eq_true rfl, Nat.le_of_ble_eq_true rfl⟩) hl.1 (Nat.le_of_ble_eq_true rfl) dX13_writesWord_13 ⟨Nat.zero_le _, Nat.zero_le _⟩ (fun H locs hW => ?_)
      obtain ⟨r16, hc, h⟩ := bx h
      refine goU (world' := (w_X13 g h0 h1 h2 h3 h4 h5 h6 h7 h8 h9 h10 h11 h12 h13 x_g x_kept x_saved x_before x_was x_region x_parts x_next x_ways x_more x_whole x_isSaved x_changes x_isWithin x_code x_input x_length x_fault x_failed r16.1 r16.2 x_at x_told x_toldMany)) hW hA (is := [0, 1, 2, 3, 4, 5, 6, 7, 8, 9, 10, 11, 12, 13]) rfl (goV (rest := []) E hK hW [0, 1, 2, 3, 4, 5, 6, 7, 8, 9, 10, 11, 12, 13] rfl rfl (c_X13_writes l g h0 h1 h2 h3 h4 h5 h6 h7 h8 h9 h10 h11 h12 h13 x_g x_kept x_saved x_before x_was x_region x_parts x_next x_ways x_more x_whole x_isSaved x_changes x_isWithin x_code x_input x_length x_fault x_failed x_signs_2 x_signMany_2 x_at x_told x_toldMany (chAt (b1 : List Int32) l2_2) (hf := hc) H.size) (cwV 1 hts gX13_writesWord_X13_writes rfl rfl rfl (by decide +kernel) ⟨Nat.le_of_ble_eq_true rfl, Nat.le_of_ble_eq_true rfl⟩) 0 rfl rfl rfl hl.1 rfl rfl (Nat.le_of_ble_eq_true rfl) dX13_writesWord_16 ⟨Nat.zero_le _, Nat.zero_le _⟩) rfl rfl (fun H locs hW => ?_)
      refine lv_iinc (v := (l2_2 + 1)) (lv' := [(2, .int (l2_2 + 1)), (0, .ref h0), (1, .ref (z.1 o1 k1))]) E.1 E.2.1 dX13_writesWord_19 hl (k := 2) rfl rfl (by decide) rfl (fun ls hl => ?_)
      refine lv_goto (tgt := 2) E.1 E.2.1 dX13_writesWord_22 (by decide) ?_
      exact ih (l2_2 + 1) r16.1 r16.2 H locs ls h hW (lv_sub hl [1, 2, 0] rfl)
set_option maxHeartbeats 4000000 in
set_option maxRecDepth 100000 in
theorem k_X13_writesWord_0 {p : Program} {l : Launch} {e : Env} {s : State} {m : MethodId} {args : Array Value} {below : List Frame} {meth : Method} {c : Code} {g : GE} {A : Nat → Prop} {z : ZE} {o1 : String} {k1 : Nat} {h0 h1 h2 h3 h4 h5 h6 h7 h8 h9 h10 h11 h12 h13 : Nat} {x_g : Nat → Int32} {x_kept : Nat → Int32} {x_saved : Nat → Int32} {x_before : Nat → Int32} {x_was : Nat → Int32} {x_region : Nat → Int32} {x_parts : Nat → Int64} {x_next : Nat → Int64} {x_ways : Nat → Int32} {x_more : Nat → Int32} {x_whole : Int64} {x_isSaved : Int32} {x_changes : Int32} {x_isWithin : Int32} {x_code : Int32} {x_input : Nat → Int32} {x_length : Int32} {x_fault : Int32} {x_failed : Int32} {x_signs : Nat → Int32} {x_signMany : Int32} {x_at : Int32} {x_told : Nat → Int32} {x_toldMany : Int32} {res : (Nat → Int32) × Int32} {H : Heap} {locs : List Loc} {ls : Array Slot} {b1 : List Int32}
    (E : En cX13_writesWord RX13 wsX13_writesWord 3 none p s m args meth c) (hK : KK g s) (hz : KS z s) (hC : CS z A s s.heap) (hx1 : ((o1, k1, b1) : String × Nat × List Int32) ∈ strT) (hA : ∀ q, s.heap.size ≤ q → A q) (h : f_X13_writesWord x_signs x_signMany b1 = some res) (hW : Wo g A s H locs (w_X13 g h0 h1 h2 h3 h4 h5 h6 h7 h8 h9 h10 h11 h12 h13 x_g x_kept x_saved x_before x_was x_region x_parts x_next x_ways x_more x_whole x_isSaved x_changes x_isWithin x_code x_input x_length x_fault x_failed x_signs x_signMany x_at x_told x_toldMany)) (hl : lv_has ls 3 [(0, .ref h0), (1, .ref (z.1 o1 k1))]) : G_X13_writesWord p l e s m args below meth c g A z h0 h1 h2 h3 h4 h5 h6 h7 h8 h9 h10 h11 h12 h13 x_g x_kept x_saved x_before x_was x_region x_parts x_next x_ways x_more x_whole x_isSaved x_changes x_isWithin x_code x_input x_length x_fault x_failed x_at x_told x_toldMany res H locs 0 ls [] := by
  have hts := E.2.2.2.1
  unfold f_X13_writesWord at h
  refine lv_iconst (v := 0) E.1 E.2.1 dX13_writesWord_0 (by decide) ?_
  refine lv_istore_n (lv' := [(2, .int 0), (0, .ref h0), (1, .ref (z.1 o1 k1))]) E.1 E.2.1 dX13_writesWord_1 rfl hl (by decide) rfl (fun ls hl => ?_)
  refine k_X13_writesWord_2 E hK hz hC hx1 hA ?_ 1000 0 x_signs x_signMany H locs ls h hW (lv_sub hl [1, 2, 0] rfl)
  · intro x_signs_25e x_signMany_25e H locs ls h hW hl
    obtain rfl := Option.some.inj h
    exact endV E hW dX13_writesWord_25
theorem c_X13_writesWord (l : Launch) (g : GE) (z : ZE) (o1 : String) (k1 : Nat) (h0 h1 h2 h3 h4 h5 h6 h7 h8 h9 h10 h11 h12 h13 : Nat) (x_g : Nat → Int32) (x_kept : Nat → Int32) (x_saved : Nat → Int32) (x_before : Nat → Int32) (x_was : Nat → Int32) (x_region : Nat → Int32) (x_parts : Nat → Int64) (x_next : Nat → Int64) (x_ways : Nat → Int32) (x_more : Nat → Int32) (x_whole : Int64) (x_isSaved : Int32) (x_changes : Int32) (x_isWithin : Int32) (x_code : Int32) (x_input : Nat → Int32) (x_length : Int32) (x_fault : Int32) (x_failed : Int32) (x_signs : Nat → Int32) (x_signMany : Int32) (x_at : Int32) (x_told : Nat → Int32) (x_toldMany : Int32) (b1 : List Int32) (hx1 : ((o1, k1, b1) : String × Nat × List Int32) ∈ strT) {res : (Nat → Int32) × Int32} (hf : f_X13_writesWord x_signs x_signMany b1 = some res) : XV l yX13_writesWord wsX13_writesWord rm_X13_writesWord g z [.ref h0, .ref (z.1 o1 k1)] (w_X13 g h0 h1 h2 h3 h4 h5 h6 h7 h8 h9 h10 h11 h12 h13 x_g x_kept x_saved x_before x_was x_region x_parts x_next x_ways x_more x_whole x_isSaved x_changes x_isWithin x_code x_input x_length x_fault x_failed x_signs x_signMany x_at x_told x_toldMany) (w_X13 g h0 h1 h2 h3 h4 h5 h6 h7 h8 h9 h10 h11 h12 h13 x_g x_kept x_saved x_before x_was x_region x_parts x_next x_ways x_more x_whole x_isSaved x_changes x_isWithin x_code x_input x_length x_fault x_failed res.1 res.2 x_at x_told x_toldMany) :=
  mkXV (cc := cX13_writesWord) (maxL := 3) (by decide) rfl (Nat.le_of_ble_eq_true rfl) (fun p e s m args below meth c A H locs ls E hK hz hC hA hW hl => k_X13_writesWord_0 E hK hz hC hx1 hA hf hW hl)

/-! PaperStormModel.writeRow(I)I X13_writeRow -/
abbrev rm_X13_writeRow : Room := { frames := 26, cells := 0, slots := 0, locals := 571 }
theorem in_X13_writeRow_X13 : ∀ w ∈ wsX130, w ∈ wsX13_writeRow := by decide +kernel
theorem lk_X13_writeRow_169 : Cond.fieldLink RX13 169 "PaperStormModel" "signMany" "I" ∈ wsX13_writeRow := by decide +kernel
theorem lk_X13_writeRow_7 : Cond.fieldLink RX13 7 "PaperStormModel" "g" "[I" ∈ wsX13_writeRow := by decide +kernel
noncomputable def f_X13_writeRow_30 (x_g : Nat → Int32) (l1 : Int32) (z89 : (Nat → Int32) → Int32 → Option (Int32 × Int32 × (Nat → Int32) × Int32)) : Nat → Int32 → (Nat → Int32) → Int32 → Option (Int32 × Int32 × (Nat → Int32) × Int32)
  | 0, _, _, _ => none
  | n + 1, l2_30, x_signs_30, x_signMany_30 => if 5 ≤ l2_30 then z89 x_signs_30 x_signMany_30 else jo (fun (x_signs_65 : Nat → Int32) (x_signMany_65 : Int32) => if ((7 + (5 * l1)) + l2_30) < 0 ∨ 60 ≤ ((7 + (5 * l1)) + l2_30).toNatClampNeg then none else (f_X13_writesNumberT x_signs_65 x_signMany_65 (((x_g ((7 + (5 * l1)) + l2_30).toNatClampNeg)).toInt64)).bind fun r80 => f_X13_writeRow_30 x_g l1 z89 n (l2_30 + 1) r80.1 r80.2) (fun j65 => if l2_30 ≤ 0 then j65 x_signs_30 x_signMany_30 else jo (fun (s1_62 : Int32) => (f_X13_writes x_signs_30 x_signMany_30 s1_62).bind fun r62 => j65 r62.1 r62.2) (fun j62 => (f_X13_isFront x_g (((5 * l1) + l2_30) - 1) 1).bind fun r49 => if r49 = 0 then j62 32 else j62 124))
noncomputable def f_X13_writeRow (x_g : Nat → Int32) (x_code : Int32) (x_signs : Nat → Int32) (x_signMany : Int32) (a1 : Int32) : Option (Int32 × Int32 × (Nat → Int32) × Int32) :=
  jo (fun (s1_15 : Int32) => (f_X13_fails x_code s1_15).bind fun r15 => if r15.1 = 0 then f_X13_writeRow_30 x_g a1 (fun x_signs_89e x_signMany_89e => some (x_signMany_89e, r15.2, x_signs_89e, x_signMany_89e)) 1000 0 x_signs 0 else some (0, r15.2, x_signs, x_signMany)) (fun j15 => (f_X13_in a1 0 4).bind fun r4 => if r4 = 0 then j15 1 else j15 0)
abbrev G_X13_writeRow (p : Program) (l : Launch) (e : Env) (s : State) (m : MethodId) (args : Array Value) (below : List Frame) (meth : Method) (c : Code) (g : GE) (A : Nat → Prop) (h0 h1 h2 h3 h4 h5 h6 h7 h8 h9 h10 h11 h12 h13 : Nat) (x_g : Nat → Int32) (x_kept : Nat → Int32) (x_saved : Nat → Int32) (x_before : Nat → Int32) (x_was : Nat → Int32) (x_region : Nat → Int32) (x_parts : Nat → Int64) (x_next : Nat → Int64) (x_ways : Nat → Int32) (x_more : Nat → Int32) (x_whole : Int64) (x_isSaved : Int32) (x_changes : Int32) (x_isWithin : Int32) (x_input : Nat → Int32) (x_length : Int32) (x_fault : Int32) (x_failed : Int32) (x_at : Int32) (x_told : Nat → Int32) (x_toldMany : Int32) (res : Int32 × Int32 × (Nat → Int32) × Int32) (H : Heap) (locs : List Loc) (pc : Nat) (ls : Array Slot) (st : List Value) : Prop := W p l e (headSpec wsX13_writeRow rm_X13_writeRow).room s m args below meth c H locs 0 0 (MQ below (PoI g A (w_X13 g h0 h1 h2 h3 h4 h5 h6 h7 h8 h9 h10 h11 h12 h13 x_g x_kept x_saved x_before x_was x_region x_parts x_next x_ways x_more x_whole x_isSaved x_changes x_isWithin res.2.1 x_input x_length x_fault x_failed res.2.2.1 res.2.2.2 x_at x_told x_toldMany) res.1) args s 0 0 A) (F0 m pc ls st)
set_option maxHeartbeats 4000000 in
set_option maxRecDepth 100000 in
theorem k_X13_writeRow_30 {p : Program} {l : Launch} {e : Env} {s : State} {m : MethodId} {args : Array Value} {below : List Frame} {meth : Method} {c : Code} {g : GE} {A : Nat → Prop} {h0 h1 h2 h3 h4 h5 h6 h7 h8 h9 h10 h11 h12 h13 : Nat} {x_g : Nat → Int32} {x_kept : Nat → Int32} {x_saved : Nat → Int32} {x_before : Nat → Int32} {x_was : Nat → Int32} {x_region : Nat → Int32} {x_parts : Nat → Int64} {x_next : Nat → Int64} {x_ways : Nat → Int32} {x_more : Nat → Int32} {x_whole : Int64} {x_isSaved : Int32} {x_changes : Int32} {x_isWithin : Int32} {x_code : Int32} {x_input : Nat → Int32} {x_length : Int32} {x_fault : Int32} {x_failed : Int32} {x_at : Int32} {x_told : Nat → Int32} {x_toldMany : Int32} {res : Int32 × Int32 × (Nat → Int32) × Int32} {l1 : Int32} {z89 : (Nat → Int32) → Int32 → Option (Int32 × Int32 × (Nat → Int32) × Int32)}
    (E : En cX13_writeRow RX13 wsX13_writeRow 3 (some .int) p s m args meth c) (hK : KK g s) (hA : ∀ q, s.heap.size ≤ q → A q)
    (hz89 : ∀ (x_signs_89e : Nat → Int32) (x_signMany_89e : Int32) (H : Heap) (locs : List Loc) (ls : Array Slot), z89 x_signs_89e x_signMany_89e = some res → Wo g A s H locs (w_X13 g h0 h1 h2 h3 h4 h5 h6 h7 h8 h9 h10 h11 h12 h13 x_g x_kept x_saved x_before x_was x_region x_parts x_next x_ways x_more x_whole x_isSaved x_changes x_isWithin x_code x_input x_length x_fault x_failed x_signs_89e x_signMany_89e x_at x_told x_toldMany) → lv_has ls 3 [(0, .ref h0)] → G_X13_writeRow p l e s m args below meth c g A h0 h1 h2 h3 h4 h5 h6 h7 h8 h9 h10 h11 h12 h13 x_g x_kept x_saved x_before x_was x_region x_parts x_next x_ways x_more x_whole x_isSaved x_changes x_isWithin x_input x_length x_fault x_failed x_at x_told x_toldMany res H locs 89 ls [])
    : ∀ (n : Nat) (l2_30 : Int32) (x_signs_30 : Nat → Int32) (x_signMany_30 : Int32) (H : Heap) (locs : List Loc) (ls : Array Slot), f_X13_writeRow_30 x_g l1 z89 n l2_30 x_signs_30 x_signMany_30 = some res → Wo g A s H locs (w_X13 g h0 h1 h2 h3 h4 h5 h6 h7 h8 h9 h10 h11 h12 h13 x_g x_kept x_saved x_before x_was x_region x_parts x_next x_ways x_more x_whole x_isSaved x_changes x_isWithin x_code x_input x_length x_fault x_failed x_signs_30 x_signMany_30 x_at x_told x_toldMany) → lv_has ls 3 [(0, .ref h0), (1, .int l1), (2, .int l2_30)] → G_X13_writeRow p l e s m args below meth c g A h0 h1 h2 h3 h4 h5 h6 h7 h8 h9 h10 h11 h12 h13 x_g x_kept x_saved x_before x_was x_region x_parts x_next x_ways x_more x_whole x_isSaved x_changes x_isWithin x_input x_length x_fault x_failed x_at x_told x_toldMany res H locs 30 ls [] := by
  have hts := E.2.2.2.1
  intro n
  induction n with
  | zero => intro l2_30 x_signs_30 x_signMany_30 H locs ls h hW hl; rw [f_X13_writeRow_30] at h; cases h
  | succ n ih =>
    intro l2_30 x_signs_30 x_signMany_30 H locs ls h hW hl
    rw [f_X13_writeRow_30] at h
    refine lv_iload_n E.1 E.2.1 dX13_writeRow_30 rfl (lv_at hl 2 rfl) ?_
    refine lv_iconst (v := 5) E.1 E.2.1 dX13_writeRow_31 (by decide) ?_
    refine lv_icmp_ge (tgt := 89) E.1 E.2.1 dX13_writeRow_32 (by decide) (fun c32 => ?_) (fun c32 => ?_)
    · have h := it c32 h
      exact hz89 x_signs_30 x_signMany_30 H locs ls h hW (lv_sub hl [0] rfl)
    · have h := ie c32 h
      obtain ⟨j65, hj65, h⟩ := jox2 h
      have J65 : ∀ (x_signs_65 : Nat → Int32) (x_signMany_65 : Int32) (H : Heap) (locs : List Loc) (ls : Array Slot), j65 x_signs_65 x_signMany_65 = some res → Wo g A s H locs (w_X13 g h0 h1 h2 h3 h4 h5 h6 h7 h8 h9 h10 h11 h12 h13 x_g x_kept x_saved x_before x_was x_region x_parts x_next x_ways x_more x_whole x_isSaved x_changes x_isWithin x_code x_input x_length x_fault x_failed x_signs_65 x_signMany_65 x_at x_told x_toldMany) → lv_has ls 3 [(0, .ref h0), (1, .int l1), (2, .int l2_30)] → G_X13_writeRow p l e s m args below meth c g A h0 h1 h2 h3 h4 h5 h6 h7 h8 h9 h10 h11 h12 h13 x_g x_kept x_saved x_before x_was x_region x_parts x_next x_ways x_more x_whole x_isSaved x_changes x_isWithin x_input x_length x_fault x_failed x_at x_told x_toldMany res H locs 65 ls [] := by
        intro x_signs_65 x_signMany_65 H locs ls h hW hl
        rw [hj65] at h
        refine lv_aload_n E.1 E.2.1 dX13_writeRow_65 rfl (lv_at hl 0 rfl) ?_
        refine lv_aload_n E.1 E.2.1 dX13_writeRow_66 rfl (lv_at hl 0 rfl) ?_
        refine wGet (v := .ref h1) E hK in_X13_writeRow_X13 hW 0 lk_X13_writeRow_7 0 rfl rfl (by decide) rfl rfl dX13_writeRow_67 ?_
        refine lv_bipush (v := 7) E.1 E.2.1 dX13_writeRow_70 (by decide) ?_
        refine lv_iconst (v := 5) E.1 E.2.1 dX13_writeRow_72 (by decide) ?_
        refine lv_iload_n E.1 E.2.1 dX13_writeRow_73 rfl (lv_at hl 1 rfl) ?_
        refine lv_imul E.1 E.2.1 dX13_writeRow_74 ?_
        refine lv_iadd E.1 E.2.1 dX13_writeRow_75 ?_
        refine lv_iload_n E.1 E.2.1 dX13_writeRow_76 rfl (lv_at hl 2 rfl) ?_
        refine lv_iadd E.1 E.2.1 dX13_writeRow_77 ?_
        obtain ⟨hi78, h⟩ := ox h
        refine wIald E hK hW 1 rfl hi78 dX13_writeRow_78 ?_
        refine lv_i2l (v := ((x_g ((7 + (5 * l1)) + l2_30).toNatClampNeg)).toInt64) E.1 E.2.1 dX13_writeRow_79 rfl ?_
        obtain ⟨r80, hc, h⟩ := bx h
        refine goU (world' := (w_X13 g h0 h1 h2 h3 h4 h5 h6 h7 h8 h9 h10 h11 h12 h13 x_g x_kept x_saved x_before x_was x_region x_parts x_next x_ways x_more x_whole x_isSaved x_changes x_isWithin x_code x_input x_length x_fault x_failed r80.1 r80.2 x_at x_told x_toldMany)) hW hA (is := [0, 1, 2, 3, 4, 5, 6, 7, 8, 9, 10, 11, 12, 13]) rfl (goV (rest := []) E hK hW [0, 1, 2, 3, 4, 5, 6, 7, 8, 9, 10, 11, 12, 13] rfl rfl (c_X13_writesNumberT l g h0 h1 h2 h3 h4 h5 h6 h7 h8 h9 h10 h11 h12 h13 x_g x_kept x_saved x_before x_was x_region x_parts x_next x_ways x_more x_whole x_isSaved x_changes x_isWithin x_code x_input x_length x_fault x_failed x_signs_65 x_signMany_65 x_at x_told x_toldMany (((x_g ((7 + (5 * l1)) + l2_30).toNatClampNeg)).toInt64) (hf := hc) H.size) (cwV 1 hts gX13_writeRow_X13_writesNumber rfl rfl rfl (by decide +kernel) ⟨Nat.le_of_ble_eq_true rfl, Nat.le_of_ble_eq_true rfl⟩) 0 rfl rfl rfl hl.1 rfl rfl (Nat.le_of_ble_eq_true rfl) dX13_writeRow_80 ⟨Nat.zero_le _, Nat.zero_le _⟩) rfl rfl (fun H locs hW => ?_)
        refine lv_iinc (v := (l2_30 + 1)) (lv' := [(2, .int (l2_30 + 1)), (0, .ref h0), (1, .int l1)]) E.1 E.2.1 dX13_writeRow_83 hl (k := 2) rfl rfl (by decide) rfl (fun ls hl => ?_)
        refine lv_goto (tgt := 30) E.1 E.2.1 dX13_writeRow_86 (by decide) ?_
        exact ih (l2_30 + 1) r80.1 r80.2 H locs ls h hW (lv_sub hl [1, 2, 0] rfl)
      refine lv_iload_n E.1 E.2.1 dX13_writeRow_35 rfl (lv_at hl 2 rfl) ?_
      refine lv_if_le (tgt := 65) E.1 E.2.1 dX13_writeRow_36 (by decide) (fun c36 => ?_) (fun c36 => ?_)
      · have h := it c36 h
        exact J65 x_signs_30 x_signMany_30 H locs ls h hW (lv_sub hl [0, 1, 2] rfl)
      · have h := ie c36 h
        obtain ⟨j62, hj62, h⟩ := jox1 h
        have J62 : ∀ (s1_62 : Int32) (H : Heap) (locs : List Loc) (ls : Array Slot), j62 s1_62 = some res → Wo g A s H locs (w_X13 g h0 h1 h2 h3 h4 h5 h6 h7 h8 h9 h10 h11 h12 h13 x_g x_kept x_saved x_before x_was x_region x_parts x_next x_ways x_more x_whole x_isSaved x_changes x_isWithin x_code x_input x_length x_fault x_failed x_signs_30 x_signMany_30 x_at x_told x_toldMany) → lv_has ls 3 [(0, .ref h0), (1, .int l1), (2, .int l2_30)] → G_X13_writeRow p l e s m args below meth c g A h0 h1 h2 h3 h4 h5 h6 h7 h8 h9 h10 h11 h12 h13 x_g x_kept x_saved x_before x_was x_region x_parts x_next x_ways x_more x_whole x_isSaved x_changes x_isWithin x_input x_length x_fault x_failed x_at x_told x_toldMany res H locs 62 ls [.int s1_62, .ref h0] := by
          intro s1_62 H locs ls h hW hl
          rw [hj62] at h
          obtain ⟨r62, hc, h⟩ := bx h
          refine goU (world' := (w_X13 g h0 h1 h2 h3 h4 h5 h6 h7 h8 h9 h10 h11 h12 h13 x_g x_kept x_saved x_before x_was x_region x_parts x_next x_ways x_more x_whole x_isSaved x_changes x_isWithin x_code x_input x_length x_fault x_failed r62.1 r62.2 x_at x_told x_toldMany)) hW hA (is := [0, 1, 2, 3, 4, 5, 6, 7, 8, 9, 10, 11, 12, 13]) rfl (goV (rest := []) E hK hW [0, 1, 2, 3, 4, 5, 6, 7, 8, 9, 10, 11, 12, 13] rfl rfl (c_X13_writes l g h0 h1 h2 h3 h4 h5 h6 h7 h8 h9 h10 h11 h12 h13 x_g x_kept x_saved x_before x_was x_region x_parts x_next x_ways x_more x_whole x_isSaved x_changes x_isWithin x_code x_input x_length x_fault x_failed x_signs_30 x_signMany_30 x_at x_told x_toldMany s1_62 (hf := hc) H.size) (cwV 1 hts gX13_writeRow_X13_writes rfl rfl rfl (by decide +kernel) ⟨Nat.le_of_ble_eq_true rfl, Nat.le_of_ble_eq_true rfl⟩) 0 rfl rfl rfl hl.1 rfl rfl (Nat.le_of_ble_eq_true rfl) dX13_writeRow_62 ⟨Nat.zero_le _, Nat.zero_le _⟩) rfl rfl (fun H locs hW => ?_)
          exact J65 r62.1 r62.2 H locs ls h hW (lv_sub hl [0, 1, 2] rfl)
        refine lv_aload_n E.1 E.2.1 dX13_writeRow_39 rfl (lv_at hl 0 rfl) ?_
        refine lv_aload_n E.1 E.2.1 dX13_writeRow_40 rfl (lv_at hl 0 rfl) ?_
        refine lv_iconst (v := 5) E.1 E.2.1 dX13_writeRow_41 (by decide) ?_
        refine lv_iload_n E.1 E.2.1 dX13_writeRow_42 rfl (lv_at hl 1 rfl) ?_
        refine lv_imul E.1 E.2.1 dX13_writeRow_43 ?_
        refine lv_iload_n E.1 E.2.1 dX13_writeRow_44 rfl (lv_at hl 2 rfl) ?_
        refine lv_iadd E.1 E.2.1 dX13_writeRow_45 ?_
        refine lv_iconst (v := 1) E.1 E.2.1 dX13_writeRow_46 (by decide) ?_
        refine lv_isub E.1 E.2.1 dX13_writeRow_47 ?_
        refine lv_iconst (v := 1) E.1 E.2.1 dX13_writeRow_48 (by decide) ?_
        obtain ⟨r49, hc, h⟩ := bx h
        refine goI (world' := (w_X13 g h0 h1 h2 h3 h4 h5 h6 h7 h8 h9 h10 h11 h12 h13 x_g x_kept x_saved x_before x_was x_region x_parts x_next x_ways x_more x_whole x_isSaved x_changes x_isWithin x_code x_input x_length x_fault x_failed x_signs_30 x_signMany_30 x_at x_told x_toldMany)) hW hA (is := [0, 1, 2, 3, 4, 5, 6, 7, 8, 9, 10, 11, 12, 13]) rfl (goV (rest := [.ref h0]) E hK hW [0, 1, 2, 3, 4, 5, 6, 7, 8, 9, 10, 11, 12, 13] rfl rfl (c_X13_isFront l g h0 h1 h2 h3 h4 h5 h6 h7 h8 h9 h10 h11 h12 h13 x_g x_kept x_saved x_before x_was x_region x_parts x_next x_ways x_more x_whole x_isSaved x_changes x_isWithin x_code x_input x_length x_fault x_failed x_signs_30 x_signMany_30 x_at x_told x_toldMany (((5 * l1) + l2_30) - 1) 1 (hf := hc) H.size) (cwV 2 hts gX13_writeRow_X13_isFront rfl rfl rfl (by decide +kernel) ⟨Nat.le_of_ble_eq_true rfl, Nat.le_of_ble_eq_true rfl⟩) 0 rfl rfl rfl hl.1 rfl rfl (Nat.le_of_ble_eq_true rfl) dX13_writeRow_49 ⟨Nat.zero_le _, Nat.zero_le _⟩) rfl rfl (fun H locs hW => ?_)
        refine lv_if_eq (tgt := 60) E.1 E.2.1 dX13_writeRow_52 (by decide) (fun c52 => ?_) (fun c52 => ?_)
        · have h := it c52 h
          refine lv_bipush (v := 32) E.1 E.2.1 dX13_writeRow_60 (by decide) ?_
          exact J62 32 H locs ls h hW (lv_sub hl [0, 1, 2] rfl)
        · have h := ie c52 h
          refine lv_bipush (v := 124) E.1 E.2.1 dX13_writeRow_55 (by decide) ?_
          refine lv_goto (tgt := 62) E.1 E.2.1 dX13_writeRow_57 (by decide) ?_
          exact J62 124 H locs ls h hW (lv_sub hl [0, 1, 2] rfl)
set_option maxHeartbeats 4000000 in
set_option maxRecDepth 100000 in
theorem k_X13_writeRow_0 {p : Program} {l : Launch} {e : Env} {s : State} {m : MethodId} {args : Array Value} {below : List Frame} {meth : Method} {c : Code} {g : GE} {A : Nat → Prop} {h0 h1 h2 h3 h4 h5 h6 h7 h8 h9 h10 h11 h12 h13 : Nat} {x_g : Nat → Int32} {x_kept : Nat → Int32} {x_saved : Nat → Int32} {x_before : Nat → Int32} {x_was : Nat → Int32} {x_region : Nat → Int32} {x_parts : Nat → Int64} {x_next : Nat → Int64} {x_ways : Nat → Int32} {x_more : Nat → Int32} {x_whole : Int64} {x_isSaved : Int32} {x_changes : Int32} {x_isWithin : Int32} {x_code : Int32} {x_input : Nat → Int32} {x_length : Int32} {x_fault : Int32} {x_failed : Int32} {x_signs : Nat → Int32} {x_signMany : Int32} {x_at : Int32} {x_told : Nat → Int32} {x_toldMany : Int32} {res : Int32 × Int32 × (Nat → Int32) × Int32} {H : Heap} {locs : List Loc} {ls : Array Slot} {a1 : Int32}
    (E : En cX13_writeRow RX13 wsX13_writeRow 3 (some .int) p s m args meth c) (hK : KK g s) (hA : ∀ q, s.heap.size ≤ q → A q) (h : f_X13_writeRow x_g x_code x_signs x_signMany a1 = some res) (hW : Wo g A s H locs (w_X13 g h0 h1 h2 h3 h4 h5 h6 h7 h8 h9 h10 h11 h12 h13 x_g x_kept x_saved x_before x_was x_region x_parts x_next x_ways x_more x_whole x_isSaved x_changes x_isWithin x_code x_input x_length x_fault x_failed x_signs x_signMany x_at x_told x_toldMany)) (hl : lv_has ls 3 [(0, .ref h0), (1, .int a1)]) : G_X13_writeRow p l e s m args below meth c g A h0 h1 h2 h3 h4 h5 h6 h7 h8 h9 h10 h11 h12 h13 x_g x_kept x_saved x_before x_was x_region x_parts x_next x_ways x_more x_whole x_isSaved x_changes x_isWithin x_input x_length x_fault x_failed x_at x_told x_toldMany res H locs 0 ls [] := by
  have hts := E.2.2.2.1
  unfold f_X13_writeRow at h
  obtain ⟨j15, hj15, h⟩ := jox1 h
  have J15 : ∀ (s1_15 : Int32) (H : Heap) (locs : List Loc) (ls : Array Slot), j15 s1_15 = some res → Wo g A s H locs (w_X13 g h0 h1 h2 h3 h4 h5 h6 h7 h8 h9 h10 h11 h12 h13 x_g x_kept x_saved x_before x_was x_region x_parts x_next x_ways x_more x_whole x_isSaved x_changes x_isWithin x_code x_input x_length x_fault x_failed x_signs x_signMany x_at x_told x_toldMany) → lv_has ls 3 [(0, .ref h0), (1, .int a1)] → G_X13_writeRow p l e s m args below meth c g A h0 h1 h2 h3 h4 h5 h6 h7 h8 h9 h10 h11 h12 h13 x_g x_kept x_saved x_before x_was x_region x_parts x_next x_ways x_more x_whole x_isSaved x_changes x_isWithin x_input x_length x_fault x_failed x_at x_told x_toldMany res H locs 15 ls [.int s1_15, .ref h0] := by
    intro s1_15 H locs ls h hW hl
    rw [hj15] at h
    obtain ⟨r15, hc, h⟩ := bx h
    refine goI (world' := (w_X13 g h0 h1 h2 h3 h4 h5 h6 h7 h8 h9 h10 h11 h12 h13 x_g x_kept x_saved x_before x_was x_region x_parts x_next x_ways x_more x_whole x_isSaved x_changes x_isWithin r15.2 x_input x_length x_fault x_failed x_signs x_signMany x_at x_told x_toldMany)) hW hA (is := [0, 1, 2, 3, 4, 5, 6, 7, 8, 9, 10, 11, 12, 13]) rfl (goV (rest := []) E hK hW [0, 1, 2, 3, 4, 5, 6, 7, 8, 9, 10, 11, 12, 13] rfl rfl (c_X13_fails l g h0 h1 h2 h3 h4 h5 h6 h7 h8 h9 h10 h11 h12 h13 x_g x_kept x_saved x_before x_was x_region x_parts x_next x_ways x_more x_whole x_isSaved x_changes x_isWithin x_code x_input x_length x_fault x_failed x_signs x_signMany x_at x_told x_toldMany s1_15 (hf := hc) H.size) (cwV 1 hts gX13_writeRow_X13_fails rfl rfl rfl (by decide +kernel) ⟨Nat.le_of_ble_eq_true rfl, Nat.le_of_ble_eq_true rfl⟩) 0 rfl rfl rfl hl.1 rfl rfl (Nat.le_of_ble_eq_true rfl) dX13_writeRow_15 ⟨Nat.zero_le _, Nat.zero_le _⟩) rfl rfl (fun H locs hW => ?_)
    refine lv_if_eq (tgt := 23) E.1 E.2.1 dX13_writeRow_18 (by decide) (fun c18 => ?_) (fun c18 => ?_)
    · have h := it c18 h
      refine lv_aload_n E.1 E.2.1 dX13_writeRow_23 rfl (lv_at hl 0 rfl) ?_
      refine lv_iconst (v := 0) E.1 E.2.1 dX13_writeRow_24 (by decide) ?_
      refine wPut (world' := (w_X13 g h0 h1 h2 h3 h4 h5 h6 h7 h8 h9 h10 h11 h12 h13 x_g x_kept x_saved x_before x_was x_region x_parts x_next x_ways x_more x_whole x_isSaved x_changes x_isWithin r15.2 x_input x_length x_fault x_failed x_signs 0 x_at x_told x_toldMany)) E hK in_X13_writeRow_X13 tyX13 tyX13_ok nmX13 hW 20 lk_X13_writeRow_169 0 rfl rfl (by decide) rfl rfl rfl rfl rfl (Nat.le_of_ble_eq_true rfl) dX13_writeRow_25 rfl (fun H locs hW => ?_)
      refine lv_iconst (v := 0) E.1 E.2.1 dX13_writeRow_28 (by decide) ?_
      refine lv_istore_n (lv' := [(2, .int 0), (0, .ref h0), (1, .int a1)]) E.1 E.2.1 dX13_writeRow_29 rfl hl (by decide) rfl (fun ls hl => ?_)
      refine k_X13_writeRow_30 E hK hA ?_ 1000 0 x_signs 0 H locs ls h hW (lv_sub hl [1, 2, 0] rfl)
      · intro x_signs_89e x_signMany_89e H locs ls h hW hl
        refine lv_aload_n E.1 E.2.1 dX13_writeRow_89 rfl (lv_at hl 0 rfl) ?_
        refine wGet (v := .int x_signMany_89e) E hK in_X13_writeRow_X13 hW 20 lk_X13_writeRow_169 0 rfl rfl (by decide) rfl rfl dX13_writeRow_90 ?_
        obtain rfl := Option.some.inj h
        exact endI E rfl hW dX13_writeRow_93
    · have h := ie c18 h
      refine lv_iconst (v := 0) E.1 E.2.1 dX13_writeRow_21 (by decide) ?_
      obtain rfl := Option.some.inj h
      exact endI E rfl hW dX13_writeRow_22
  refine lv_aload_n E.1 E.2.1 dX13_writeRow_0 rfl (lv_at hl 0 rfl) ?_
  refine lv_iload_n E.1 E.2.1 dX13_writeRow_1 rfl (lv_at hl 1 rfl) ?_
  refine lv_iconst (v := 0) E.1 E.2.1 dX13_writeRow_2 (by decide) ?_
  refine lv_iconst (v := 4) E.1 E.2.1 dX13_writeRow_3 (by decide) ?_
  obtain ⟨r4, hc, h⟩ := bx h
  refine goI (world' := (w_X13 g h0 h1 h2 h3 h4 h5 h6 h7 h8 h9 h10 h11 h12 h13 x_g x_kept x_saved x_before x_was x_region x_parts x_next x_ways x_more x_whole x_isSaved x_changes x_isWithin x_code x_input x_length x_fault x_failed x_signs x_signMany x_at x_told x_toldMany)) hW hA (is := []) rfl (goS (rest := [.ref h0]) E hK hW [] rfl rfl (c_X13_in l g a1 0 4 (hf := hc) H.size) (va_cwS 3 hts gX13_writeRow_X13_in rfl rfl rfl (by decide +kernel) ⟨Nat.le_of_ble_eq_true rfl, Nat.le_of_ble_eq_true rfl⟩) hl.1 rfl rfl (Nat.le_of_ble_eq_true rfl) dX13_writeRow_4 ⟨Nat.zero_le _, Nat.zero_le _⟩) rfl rfl (fun H locs hW => ?_)
  refine lv_if_eq (tgt := 14) E.1 E.2.1 dX13_writeRow_7 (by decide) (fun c7 => ?_) (fun c7 => ?_)
  · have h := it c7 h
    refine lv_iconst (v := 1) E.1 E.2.1 dX13_writeRow_14 (by decide) ?_
    exact J15 1 H locs ls h hW (lv_sub hl [0, 1] rfl)
  · have h := ie c7 h
    refine lv_iconst (v := 0) E.1 E.2.1 dX13_writeRow_10 (by decide) ?_
    refine lv_goto (tgt := 15) E.1 E.2.1 dX13_writeRow_11 (by decide) ?_
    exact J15 0 H locs ls h hW (lv_sub hl [0, 1] rfl)
theorem c_X13_writeRow (l : Launch) (g : GE) (h0 h1 h2 h3 h4 h5 h6 h7 h8 h9 h10 h11 h12 h13 : Nat) (x_g : Nat → Int32) (x_kept : Nat → Int32) (x_saved : Nat → Int32) (x_before : Nat → Int32) (x_was : Nat → Int32) (x_region : Nat → Int32) (x_parts : Nat → Int64) (x_next : Nat → Int64) (x_ways : Nat → Int32) (x_more : Nat → Int32) (x_whole : Int64) (x_isSaved : Int32) (x_changes : Int32) (x_isWithin : Int32) (x_code : Int32) (x_input : Nat → Int32) (x_length : Int32) (x_fault : Int32) (x_failed : Int32) (x_signs : Nat → Int32) (x_signMany : Int32) (x_at : Int32) (x_told : Nat → Int32) (x_toldMany : Int32) (a1 : Int32) {res : Int32 × Int32 × (Nat → Int32) × Int32} (hf : f_X13_writeRow x_g x_code x_signs x_signMany a1 = some res) : CI l yX13_writeRow wsX13_writeRow rm_X13_writeRow g [.ref h0, .int a1] (w_X13 g h0 h1 h2 h3 h4 h5 h6 h7 h8 h9 h10 h11 h12 h13 x_g x_kept x_saved x_before x_was x_region x_parts x_next x_ways x_more x_whole x_isSaved x_changes x_isWithin x_code x_input x_length x_fault x_failed x_signs x_signMany x_at x_told x_toldMany) (w_X13 g h0 h1 h2 h3 h4 h5 h6 h7 h8 h9 h10 h11 h12 h13 x_g x_kept x_saved x_before x_was x_region x_parts x_next x_ways x_more x_whole x_isSaved x_changes x_isWithin res.2.1 x_input x_length x_fault x_failed res.2.2.1 res.2.2.2 x_at x_told x_toldMany) res.1 :=
  mkI (cc := cX13_writeRow) (maxL := 3) (by decide) rfl (Nat.le_of_ble_eq_true rfl) (fun p e s m args below meth c A H locs ls E hK hA hW hl => k_X13_writeRow_0 E hK hA hf hW hl)

/-! PaperStormModel.writeChances(I)I X13_writeChances -/
abbrev rm_X13_writeChances : Room := { frames := 26, cells := 0, slots := 0, locals := 571 }
theorem in_X13_writeChances_X13 : ∀ w ∈ wsX130, w ∈ wsX13_writeChances := by decide +kernel
theorem lk_X13_writeChances_169 : Cond.fieldLink RX13 169 "PaperStormModel" "signMany" "I" ∈ wsX13_writeChances := by decide +kernel
noncomputable def f_X13_writeChances_28 (x_g : Nat → Int32) (l1 : Int32) (z100 : (Nat → Int64) → (Nat → Int64) → (Nat → Int32) → (Nat → Int32) → Int64 → Int32 → (Nat → Int32) → Int32 → Option (Int32 × (Nat → Int64) × (Nat → Int64) × (Nat → Int32) × (Nat → Int32) × Int64 × Int32 × (Nat → Int32) × Int32)) : Nat → Int32 → (Nat → Int64) → (Nat → Int64) → (Nat → Int32) → (Nat → Int32) → Int64 → Int32 → (Nat → Int32) → Int32 → Option (Int32 × (Nat → Int64) × (Nat → Int64) × (Nat → Int32) × (Nat → Int32) × Int64 × Int32 × (Nat → Int32) × Int32)
  | 0, _, _, _, _, _, _, _, _, _ => none
  | n + 1, l2_28, x_parts_28, x_next_28, x_ways_28, x_more_28, x_whole_28, x_code_28, x_signs_28, x_signMany_28 => if 4 ≤ l2_28 then z100 x_parts_28 x_next_28 x_ways_28 x_more_28 x_whole_28 x_code_28 x_signs_28 x_signMany_28 else jo (fun (b1_65 : List Int32) => (f_X13_writesWord x_signs_28 x_signMany_28 b1_65).bind fun r65 => (f_X13_upper x_g x_parts_28 x_next_28 x_ways_28 x_more_28 x_whole_28 x_code_28 l1 l2_28).bind fun r72 => (f_X13_writesNumberT r65.1 r65.2 r72.1).bind fun r75 => (f_X13_writes r75.1 r75.2 47).bind fun r81 => (f_X13_lower x_g r72.2.1 r72.2.2.1 r72.2.2.2.1 r72.2.2.2.2.1 r72.2.2.2.2.2.1 r72.2.2.2.2.2.2 l1 l2_28).bind fun r88 => (f_X13_writesNumberT r81.1 r81.2 r88.1).bind fun r91 => f_X13_writeChances_28 x_g l1 z100 n (l2_28 + 1) r88.2.1 r88.2.2.1 r88.2.2.2.1 r88.2.2.2.2.1 r88.2.2.2.2.2.1 r88.2.2.2.2.2.2 r91.1 r91.2) (fun j65 => if l2_28 = 0 then j65 ([99, 97, 108, 109, 61]) else if l2_28 = 1 then j65 ([32, 98, 114, 101, 101, 122, 101, 61]) else if l2_28 = 2 then j65 ([32, 103, 97, 108, 101, 61]) else j65 ([32, 115, 116, 111, 114, 109, 61]))
noncomputable def f_X13_writeChances (x_g : Nat → Int32) (x_parts : Nat → Int64) (x_next : Nat → Int64) (x_ways : Nat → Int32) (x_more : Nat → Int32) (x_whole : Int64) (x_code : Int32) (x_signs : Nat → Int32) (x_signMany : Int32) (a1 : Int32) : Option (Int32 × (Nat → Int64) × (Nat → Int64) × (Nat → Int32) × (Nat → Int32) × Int64 × Int32 × (Nat → Int32) × Int32) :=
  jo (fun (s1_13 : Int32) => (f_X13_fails x_code s1_13).bind fun r13 => if r13.1 = 0 then f_X13_writeChances_28 x_g a1 (fun x_parts_100e x_next_100e x_ways_100e x_more_100e x_whole_100e x_code_100e x_signs_100e x_signMany_100e => some (x_signMany_100e, x_parts_100e, x_next_100e, x_ways_100e, x_more_100e, x_whole_100e, x_code_100e, x_signs_100e, x_signMany_100e)) 1000 0 x_parts x_next x_ways x_more x_whole r13.2 x_signs 0 else some (0, x_parts, x_next, x_ways, x_more, x_whole, r13.2, x_signs, x_signMany)) (fun j13 => (f_X13_isSoon a1).bind fun r2 => if r2 = 0 then j13 1 else j13 0)
abbrev G_X13_writeChances (p : Program) (l : Launch) (e : Env) (s : State) (m : MethodId) (args : Array Value) (below : List Frame) (meth : Method) (c : Code) (g : GE) (A : Nat → Prop) (z : ZE) (h0 h1 h2 h3 h4 h5 h6 h7 h8 h9 h10 h11 h12 h13 : Nat) (x_g : Nat → Int32) (x_kept : Nat → Int32) (x_saved : Nat → Int32) (x_before : Nat → Int32) (x_was : Nat → Int32) (x_region : Nat → Int32) (x_isSaved : Int32) (x_changes : Int32) (x_isWithin : Int32) (x_input : Nat → Int32) (x_length : Int32) (x_fault : Int32) (x_failed : Int32) (x_at : Int32) (x_told : Nat → Int32) (x_toldMany : Int32) (res : Int32 × (Nat → Int64) × (Nat → Int64) × (Nat → Int32) × (Nat → Int32) × Int64 × Int32 × (Nat → Int32) × Int32) (H : Heap) (locs : List Loc) (pc : Nat) (ls : Array Slot) (st : List Value) : Prop := W p l e (headSpec wsX13_writeChances rm_X13_writeChances).room s m args below meth c H locs 0 0 (MQ below (PoI g A (w_X13 g h0 h1 h2 h3 h4 h5 h6 h7 h8 h9 h10 h11 h12 h13 x_g x_kept x_saved x_before x_was x_region res.2.1 res.2.2.1 res.2.2.2.1 res.2.2.2.2.1 res.2.2.2.2.2.1 x_isSaved x_changes x_isWithin res.2.2.2.2.2.2.1 x_input x_length x_fault x_failed res.2.2.2.2.2.2.2.1 res.2.2.2.2.2.2.2.2 x_at x_told x_toldMany) res.1) args s 0 0 A) (F0 m pc ls st)
set_option maxHeartbeats 4000000 in
set_option maxRecDepth 100000 in
theorem k_X13_writeChances_28 {p : Program} {l : Launch} {e : Env} {s : State} {m : MethodId} {args : Array Value} {below : List Frame} {meth : Method} {c : Code} {g : GE} {A : Nat → Prop} {z : ZE} {h0 h1 h2 h3 h4 h5 h6 h7 h8 h9 h10 h11 h12 h13 : Nat} {x_g : Nat → Int32} {x_kept : Nat → Int32} {x_saved : Nat → Int32} {x_before : Nat → Int32} {x_was : Nat → Int32} {x_region : Nat → Int32} {x_isSaved : Int32} {x_changes : Int32} {x_isWithin : Int32} {x_input : Nat → Int32} {x_length : Int32} {x_fault : Int32} {x_failed : Int32} {x_at : Int32} {x_told : Nat → Int32} {x_toldMany : Int32} {res : Int32 × (Nat → Int64) × (Nat → Int64) × (Nat → Int32) × (Nat → Int32) × Int64 × Int32 × (Nat → Int32) × Int32} {l1 : Int32} {z100 : (Nat → Int64) → (Nat → Int64) → (Nat → Int32) → (Nat → Int32) → Int64 → Int32 → (Nat → Int32) → Int32 → Option (Int32 × (Nat → Int64) × (Nat → Int64) × (Nat → Int32) × (Nat → Int32) × Int64 × Int32 × (Nat → Int32) × Int32)}
    (E : En cX13_writeChances RX13 wsX13_writeChances 3 (some .int) p s m args meth c) (hK : KK g s) (hz : KS z s) (hC : CS z A s s.heap) (hA : ∀ q, s.heap.size ≤ q → A q)
    (hz100 : ∀ (x_parts_100e : Nat → Int64) (x_next_100e : Nat → Int64) (x_ways_100e : Nat → Int32) (x_more_100e : Nat → Int32) (x_whole_100e : Int64) (x_code_100e : Int32) (x_signs_100e : Nat → Int32) (x_signMany_100e : Int32) (H : Heap) (locs : List Loc) (ls : Array Slot), z100 x_parts_100e x_next_100e x_ways_100e x_more_100e x_whole_100e x_code_100e x_signs_100e x_signMany_100e = some res → Wo g A s H locs (w_X13 g h0 h1 h2 h3 h4 h5 h6 h7 h8 h9 h10 h11 h12 h13 x_g x_kept x_saved x_before x_was x_region x_parts_100e x_next_100e x_ways_100e x_more_100e x_whole_100e x_isSaved x_changes x_isWithin x_code_100e x_input x_length x_fault x_failed x_signs_100e x_signMany_100e x_at x_told x_toldMany) → lv_has ls 3 [(0, .ref h0)] → G_X13_writeChances p l e s m args below meth c g A z h0 h1 h2 h3 h4 h5 h6 h7 h8 h9 h10 h11 h12 h13 x_g x_kept x_saved x_before x_was x_region x_isSaved x_changes x_isWithin x_input x_length x_fault x_failed x_at x_told x_toldMany res H locs 100 ls [])
    : ∀ (n : Nat) (l2_28 : Int32) (x_parts_28 : Nat → Int64) (x_next_28 : Nat → Int64) (x_ways_28 : Nat → Int32) (x_more_28 : Nat → Int32) (x_whole_28 : Int64) (x_code_28 : Int32) (x_signs_28 : Nat → Int32) (x_signMany_28 : Int32) (H : Heap) (locs : List Loc) (ls : Array Slot), f_X13_writeChances_28 x_g l1 z100 n l2_28 x_parts_28 x_next_28 x_ways_28 x_more_28 x_whole_28 x_code_28 x_signs_28 x_signMany_28 = some res → Wo g A s H locs (w_X13 g h0 h1 h2 h3 h4 h5 h6 h7 h8 h9 h10 h11 h12 h13 x_g x_kept x_saved x_before x_was x_region x_parts_28 x_next_28 x_ways_28 x_more_28 x_whole_28 x_isSaved x_changes x_isWithin x_code_28 x_input x_length x_fault x_failed x_signs_28 x_signMany_28 x_at x_told x_toldMany) → lv_has ls 3 [(0, .ref h0), (1, .int l1), (2, .int l2_28)] → G_X13_writeChances p l e s m args below meth c g A z h0 h1 h2 h3 h4 h5 h6 h7 h8 h9 h10 h11 h12 h13 x_g x_kept x_saved x_before x_was x_region x_isSaved x_changes x_isWithin x_input x_length x_fault x_failed x_at x_told x_toldMany res H locs 28 ls [] := by
  have hts := E.2.2.2.1
  intro n
  induction n with
  | zero => intro l2_28 x_parts_28 x_next_28 x_ways_28 x_more_28 x_whole_28 x_code_28 x_signs_28 x_signMany_28 H locs ls h hW hl; rw [f_X13_writeChances_28] at h; cases h
  | succ n ih =>
    intro l2_28 x_parts_28 x_next_28 x_ways_28 x_more_28 x_whole_28 x_code_28 x_signs_28 x_signMany_28 H locs ls h hW hl
    rw [f_X13_writeChances_28] at h
    refine lv_iload_n E.1 E.2.1 dX13_writeChances_28 rfl (lv_at hl 2 rfl) ?_
    refine lv_iconst (v := 4) E.1 E.2.1 dX13_writeChances_29 (by decide) ?_
    refine lv_icmp_ge (tgt := 100) E.1 E.2.1 dX13_writeChances_30 (by decide) (fun c30 => ?_) (fun c30 => ?_)
    · have h := it c30 h
      exact hz100 x_parts_28 x_next_28 x_ways_28 x_more_28 x_whole_28 x_code_28 x_signs_28 x_signMany_28 H locs ls h hW (lv_sub hl [0] rfl)
    · have h := ie c30 h
      obtain ⟨j65, hj65, h⟩ := jox1 h
      have J65 : ∀ (o1_65 : String) (k1_65 : Nat) (b1_65 : List Int32) (hx1_65 : ((o1_65, k1_65, b1_65) : String × Nat × List Int32) ∈ strT) (H : Heap) (locs : List Loc) (ls : Array Slot), j65 b1_65 = some res → Wo g A s H locs (w_X13 g h0 h1 h2 h3 h4 h5 h6 h7 h8 h9 h10 h11 h12 h13 x_g x_kept x_saved x_before x_was x_region x_parts_28 x_next_28 x_ways_28 x_more_28 x_whole_28 x_isSaved x_changes x_isWithin x_code_28 x_input x_length x_fault x_failed x_signs_28 x_signMany_28 x_at x_told x_toldMany) → lv_has ls 3 [(0, .ref h0), (1, .int l1), (2, .int l2_28)] → G_X13_writeChances p l e s m args below meth c g A z h0 h1 h2 h3 h4 h5 h6 h7 h8 h9 h10 h11 h12 h13 x_g x_kept x_saved x_before x_was x_region x_isSaved x_changes x_isWithin x_input x_length x_fault x_failed x_at x_told x_toldMany res H locs 65 ls [.ref (z.1 o1_65 k1_65), .ref h0] := by
        intro o1_65 k1_65 b1_65 hx1_65 H locs ls h hW hl
        rw [hj65] at h
        obtain ⟨r65, hc, h⟩ := bx h
        refine goU (world' := (w_X13 g h0 h1 h2 h3 h4 h5 h6 h7 h8 h9 h10 h11 h12 h13 x_g x_kept x_saved x_before x_was x_region x_parts_28 x_next_28 x_ways_28 x_more_28 x_whole_28 x_isSaved x_changes x_isWithin x_code_28 x_input x_length x_fault x_failed r65.1 r65.2 x_at x_told x_toldMany)) hW hA (is := [0, 1, 2, 3, 4, 5, 6, 7, 8, 9, 10, 11, 12, 13]) rfl (goVX (rest := []) E hK hz hC hA hW [0, 1, 2, 3, 4, 5, 6, 7, 8, 9, 10, 11, 12, 13] rfl rfl (c_X13_writesWord l g z o1_65 k1_65 h0 h1 h2 h3 h4 h5 h6 h7 h8 h9 h10 h11 h12 h13 x_g x_kept x_saved x_before x_was x_region x_parts_28 x_next_28 x_ways_28 x_more_28 x_whole_28 x_isSaved x_changes x_isWithin x_code_28 x_input x_length x_fault x_failed x_signs_28 x_signMany_28 x_at x_told x_toldMany b1_65 hx1_65 (hf := hc) H.size) (cwV 1 hts gX13_writeChances_X13_writesWord rfl rfl rfl (by decide +kernel) ⟨Nat.le_of_ble_eq_true rfl, Nat.le_of_ble_eq_true rfl⟩) 0 rfl rfl rfl hl.1 rfl rfl (Nat.le_of_ble_eq_true rfl) dX13_writeChances_65 ⟨Nat.zero_le _, Nat.zero_le _⟩) rfl rfl (fun H locs hW => ?_)
        refine lv_aload_n E.1 E.2.1 dX13_writeChances_68 rfl (lv_at hl 0 rfl) ?_
        refine lv_aload_n E.1 E.2.1 dX13_writeChances_69 rfl (lv_at hl 0 rfl) ?_
        refine lv_iload_n E.1 E.2.1 dX13_writeChances_70 rfl (lv_at hl 1 rfl) ?_
        refine lv_iload_n E.1 E.2.1 dX13_writeChances_71 rfl (lv_at hl 2 rfl) ?_
        obtain ⟨r72, hc, h⟩ := bx h
        refine goJ (world' := (w_X13 g h0 h1 h2 h3 h4 h5 h6 h7 h8 h9 h10 h11 h12 h13 x_g x_kept x_saved x_before x_was x_region r72.2.1 r72.2.2.1 r72.2.2.2.1 r72.2.2.2.2.1 r72.2.2.2.2.2.1 x_isSaved x_changes x_isWithin r72.2.2.2.2.2.2 x_input x_length x_fault x_failed r65.1 r65.2 x_at x_told x_toldMany)) hW hA (is := [0, 1, 2, 3, 4, 5, 6, 7, 8, 9, 10, 11, 12, 13]) rfl (goV (rest := [.ref h0]) E hK hW [0, 1, 2, 3, 4, 5, 6, 7, 8, 9, 10, 11, 12, 13] rfl rfl (c_X13_upper l g h0 h1 h2 h3 h4 h5 h6 h7 h8 h9 h10 h11 h12 h13 x_g x_kept x_saved x_before x_was x_region x_parts_28 x_next_28 x_ways_28 x_more_28 x_whole_28 x_isSaved x_changes x_isWithin x_code_28 x_input x_length x_fault x_failed r65.1 r65.2 x_at x_told x_toldMany l1 l2_28 (hf := hc) H.size) (cwV 2 hts gX13_writeChances_X13_upper rfl rfl rfl (by decide +kernel) ⟨Nat.le_of_ble_eq_true rfl, Nat.le_of_ble_eq_true rfl⟩) 0 rfl rfl rfl hl.1 rfl rfl (Nat.le_of_ble_eq_true rfl) dX13_writeChances_72 ⟨Nat.zero_le _, Nat.zero_le _⟩) rfl rfl (fun H locs hW => ?_)
        obtain ⟨r75, hc, h⟩ := bx h
        refine goU (world' := (w_X13 g h0 h1 h2 h3 h4 h5 h6 h7 h8 h9 h10 h11 h12 h13 x_g x_kept x_saved x_before x_was x_region r72.2.1 r72.2.2.1 r72.2.2.2.1 r72.2.2.2.2.1 r72.2.2.2.2.2.1 x_isSaved x_changes x_isWithin r72.2.2.2.2.2.2 x_input x_length x_fault x_failed r75.1 r75.2 x_at x_told x_toldMany)) hW hA (is := [0, 1, 2, 3, 4, 5, 6, 7, 8, 9, 10, 11, 12, 13]) rfl (goV (rest := []) E hK hW [0, 1, 2, 3, 4, 5, 6, 7, 8, 9, 10, 11, 12, 13] rfl rfl (c_X13_writesNumberT l g h0 h1 h2 h3 h4 h5 h6 h7 h8 h9 h10 h11 h12 h13 x_g x_kept x_saved x_before x_was x_region r72.2.1 r72.2.2.1 r72.2.2.2.1 r72.2.2.2.2.1 r72.2.2.2.2.2.1 x_isSaved x_changes x_isWithin r72.2.2.2.2.2.2 x_input x_length x_fault x_failed r65.1 r65.2 x_at x_told x_toldMany r72.1 (hf := hc) H.size) (cwV 1 hts gX13_writeChances_X13_writesNumber rfl rfl rfl (by decide +kernel) ⟨Nat.le_of_ble_eq_true rfl, Nat.le_of_ble_eq_true rfl⟩) 0 rfl rfl rfl hl.1 rfl rfl (Nat.le_of_ble_eq_true rfl) dX13_writeChances_75 ⟨Nat.zero_le _, Nat.zero_le _⟩) rfl rfl (fun H locs hW => ?_)
        refine lv_aload_n E.1 E.2.1 dX13_writeChances_78 rfl (lv_at hl 0 rfl) ?_
        refine lv_bipush (v := 47) E.1 E.2.1 dX13_writeChances_79 (by decide) ?_
        obtain ⟨r81, hc, h⟩ := bx h
        refine goU (world' := (w_X13 g h0 h1 h2 h3 h4 h5 h6 h7 h8 h9 h10 h11 h12 h13 x_g x_kept x_saved x_before x_was x_region r72.2.1 r72.2.2.1 r72.2.2.2.1 r72.2.2.2.2.1 r72.2.2.2.2.2.1 x_isSaved x_changes x_isWithin r72.2.2.2.2.2.2 x_input x_length x_fault x_failed r81.1 r81.2 x_at x_told x_toldMany)) hW hA (is := [0, 1, 2, 3, 4, 5, 6, 7, 8, 9, 10, 11, 12, 13]) rfl (goV (rest := []) E hK hW [0, 1, 2, 3, 4, 5, 6, 7, 8, 9, 10, 11, 12, 13] rfl rfl (c_X13_writes l g h0 h1 h2 h3 h4 h5 h6 h7 h8 h9 h10 h11 h12 h13 x_g x_kept x_saved x_before x_was x_region r72.2.1 r72.2.2.1 r72.2.2.2.1 r72.2.2.2.2.1 r72.2.2.2.2.2.1 x_isSaved x_changes x_isWithin r72.2.2.2.2.2.2 x_input x_length x_fault x_failed r75.1 r75.2 x_at x_told x_toldMany 47 (hf := hc) H.size) (cwV 1 hts gX13_writeChances_X13_writes rfl rfl rfl (by decide +kernel) ⟨Nat.le_of_ble_eq_true rfl, Nat.le_of_ble_eq_true rfl⟩) 0 rfl rfl rfl hl.1 rfl rfl (Nat.le_of_ble_eq_true rfl) dX13_writeChances_81 ⟨Nat.zero_le _, Nat.zero_le _⟩) rfl rfl (fun H locs hW => ?_)
        refine lv_aload_n E.1 E.2.1 dX13_writeChances_84 rfl (lv_at hl 0 rfl) ?_
        refine lv_aload_n E.1 E.2.1 dX13_writeChances_85 rfl (lv_at hl 0 rfl) ?_
        refine lv_iload_n E.1 E.2.1 dX13_writeChances_86 rfl (lv_at hl 1 rfl) ?_
        refine lv_iload_n E.1 E.2.1 dX13_writeChances_87 rfl (lv_at hl 2 rfl) ?_
        obtain ⟨r88, hc, h⟩ := bx h
        refine goJ (world' := (w_X13 g h0 h1 h2 h3 h4 h5 h6 h7 h8 h9 h10 h11 h12 h13 x_g x_kept x_saved x_before x_was x_region r88.2.1 r88.2.2.1 r88.2.2.2.1 r88.2.2.2.2.1 r88.2.2.2.2.2.1 x_isSaved x_changes x_isWithin r88.2.2.2.2.2.2 x_input x_length x_fault x_failed r81.1 r81.2 x_at x_told x_toldMany)) hW hA (is := [0, 1, 2, 3, 4, 5, 6, 7, 8, 9, 10, 11, 12, 13]) rfl (goV (rest := [.ref h0]) E hK hW [0, 1, 2, 3, 4, 5, 6, 7, 8, 9, 10, 11, 12, 13] rfl rfl (c_X13_lower l g h0 h1 h2 h3 h4 h5 h6 h7 h8 h9 h10 h11 h12 h13 x_g x_kept x_saved x_before x_was x_region r72.2.1 r72.2.2.1 r72.2.2.2.1 r72.2.2.2.2.1 r72.2.2.2.2.2.1 x_isSaved x_changes x_isWithin r72.2.2.2.2.2.2 x_input x_length x_fault x_failed r81.1 r81.2 x_at x_told x_toldMany l1 l2_28 (hf := hc) H.size) (cwV 2 hts gX13_writeChances_X13_lower rfl rfl rfl (by decide +kernel) ⟨Nat.le_of_ble_eq_true rfl, Nat.le_of_ble_eq_true rfl⟩) 0 rfl rfl rfl hl.1 rfl rfl (Nat.le_of_ble_eq_true rfl) dX13_writeChances_88 ⟨Nat.zero_le _, Nat.zero_le _⟩) rfl rfl (fun H locs hW => ?_)
        obtain ⟨r91, hc, h⟩ := bx h
        refine goU (world' := (w_X13 g h0 h1 h2 h3 h4 h5 h6 h7 h8 h9 h10 h11 h12 h13 x_g x_kept x_saved x_before x_was x_region r88.2.1 r88.2.2.1 r88.2.2.2.1 r88.2.2.2.2.1 r88.2.2.2.2.2.1 x_isSaved x_changes x_isWithin r88.2.2.2.2.2.2 x_input x_length x_fault x_failed r91.1 r91.2 x_at x_told x_toldMany)) hW hA (is := [0, 1, 2, 3, 4, 5, 6, 7, 8, 9, 10, 11, 12, 13]) rfl (goV (rest := []) E hK hW [0, 1, 2, 3, 4, 5, 6, 7, 8, 9, 10, 11, 12, 13] rfl rfl (c_X13_writesNumberT l g h0 h1 h2 h3 h4 h5 h6 h7 h8 h9 h10 h11 h12 h13 x_g x_kept x_saved x_before x_was x_region r88.2.1 r88.2.2.1 r88.2.2.2.1 r88.2.2.2.2.1 r88.2.2.2.2.2.1 x_isSaved x_changes x_isWithin r88.2.2.2.2.2.2 x_input x_length x_fault x_failed r81.1 r81.2 x_at x_told x_toldMany r88.1 (hf := hc) H.size) (cwV 1 hts gX13_writeChances_X13_writesNumber rfl rfl rfl (by decide +kernel) ⟨Nat.le_of_ble_eq_true rfl, Nat.le_of_ble_eq_true rfl⟩) 0 rfl rfl rfl hl.1 rfl rfl (Nat.le_of_ble_eq_true rfl) dX13_writeChances_91 ⟨Nat.zero_le _, Nat.zero_le _⟩) rfl rfl (fun H locs hW => ?_)
        refine lv_iinc (v := (l2_28 + 1)) (lv' := [(2, .int (l2_28 + 1)), (0, .ref h0), (1, .int l1)]) E.1 E.2.1 dX13_writeChances_94 hl (k := 2) rfl rfl (by decide) rfl (fun ls hl => ?_)
        refine lv_goto (tgt := 28) E.1 E.2.1 dX13_writeChances_97 (by decide) ?_
        exact ih (l2_28 + 1) r88.2.1 r88.2.2.1 r88.2.2.2.1 r88.2.2.2.2.1 r88.2.2.2.2.2.1 r88.2.2.2.2.2.2 r91.1 r91.2 H locs ls h hW (lv_sub hl [1, 2, 0] rfl)
      refine lv_aload_n E.1 E.2.1 dX13_writeChances_33 rfl (lv_at hl 0 rfl) ?_
      refine lv_iload_n E.1 E.2.1 dX13_writeChances_34 rfl (lv_at hl 2 rfl) ?_
      refine lv_if_ne (tgt := 43) E.1 E.2.1 dX13_writeChances_35 (by decide) (fun c35 => ?_) (fun c35 => ?_)
      · have h := ie c35 h
        refine lv_iload_n E.1 E.2.1 dX13_writeChances_43 rfl (lv_at hl 2 rfl) ?_
        refine lv_iconst (v := 1) E.1 E.2.1 dX13_writeChances_44 (by decide) ?_
        refine lv_icmp_ne (tgt := 53) E.1 E.2.1 dX13_writeChances_45 (by decide) (fun c45 => ?_) (fun c45 => ?_)
        · have h := ie c45 h
          refine lv_iload_n E.1 E.2.1 dX13_writeChances_53 rfl (lv_at hl 2 rfl) ?_
          refine lv_iconst (v := 2) E.1 E.2.1 dX13_writeChances_54 (by decide) ?_
          refine lv_icmp_ne (tgt := 63) E.1 E.2.1 dX13_writeChances_55 (by decide) (fun c55 => ?_) (fun c55 => ?_)
          · have h := ie c55 h
            refine wLdcS hz sl_X13_198 E dX13_writeChances_63 ?_
            exact J65 "PaperStormModel" 198 ([32, 115, 116, 111, 114, 109, 61] : List Int32) st_X13_198 H locs ls h hW (lv_sub hl [0, 1, 2] rfl)
          · have h := it c55 h
            refine wLdcS hz sl_X13_196 E dX13_writeChances_58 ?_
            refine lv_goto (tgt := 65) E.1 E.2.1 dX13_writeChances_60 (by decide) ?_
            exact J65 "PaperStormModel" 196 ([32, 103, 97, 108, 101, 61] : List Int32) st_X13_196 H locs ls h hW (lv_sub hl [0, 1, 2] rfl)
        · have h := it c45 h
          refine wLdcS hz sl_X13_194 E dX13_writeChances_48 ?_
          refine lv_goto (tgt := 65) E.1 E.2.1 dX13_writeChances_50 (by decide) ?_
          exact J65 "PaperStormModel" 194 ([32, 98, 114, 101, 101, 122, 101, 61] : List Int32) st_X13_194 H locs ls h hW (lv_sub hl [0, 1, 2] rfl)
      · have h := it c35 h
        refine wLdcS hz sl_X13_192 E dX13_writeChances_38 ?_
        refine lv_goto (tgt := 65) E.1 E.2.1 dX13_writeChances_40 (by decide) ?_
        exact J65 "PaperStormModel" 192 ([99, 97, 108, 109, 61] : List Int32) st_X13_192 H locs ls h hW (lv_sub hl [0, 1, 2] rfl)
set_option maxHeartbeats 4000000 in
set_option maxRecDepth 100000 in
theorem k_X13_writeChances_0 {p : Program} {l : Launch} {e : Env} {s : State} {m : MethodId} {args : Array Value} {below : List Frame} {meth : Method} {c : Code} {g : GE} {A : Nat → Prop} {z : ZE} {h0 h1 h2 h3 h4 h5 h6 h7 h8 h9 h10 h11 h12 h13 : Nat} {x_g : Nat → Int32} {x_kept : Nat → Int32} {x_saved : Nat → Int32} {x_before : Nat → Int32} {x_was : Nat → Int32} {x_region : Nat → Int32} {x_parts : Nat → Int64} {x_next : Nat → Int64} {x_ways : Nat → Int32} {x_more : Nat → Int32} {x_whole : Int64} {x_isSaved : Int32} {x_changes : Int32} {x_isWithin : Int32} {x_code : Int32} {x_input : Nat → Int32} {x_length : Int32} {x_fault : Int32} {x_failed : Int32} {x_signs : Nat → Int32} {x_signMany : Int32} {x_at : Int32} {x_told : Nat → Int32} {x_toldMany : Int32} {res : Int32 × (Nat → Int64) × (Nat → Int64) × (Nat → Int32) × (Nat → Int32) × Int64 × Int32 × (Nat → Int32) × Int32} {H : Heap} {locs : List Loc} {ls : Array Slot} {a1 : Int32}
    (E : En cX13_writeChances RX13 wsX13_writeChances 3 (some .int) p s m args meth c) (hK : KK g s) (hz : KS z s) (hC : CS z A s s.heap) (hA : ∀ q, s.heap.size ≤ q → A q) (h : f_X13_writeChances x_g x_parts x_next x_ways x_more x_whole x_code x_signs x_signMany a1 = some res) (hW : Wo g A s H locs (w_X13 g h0 h1 h2 h3 h4 h5 h6 h7 h8 h9 h10 h11 h12 h13 x_g x_kept x_saved x_before x_was x_region x_parts x_next x_ways x_more x_whole x_isSaved x_changes x_isWithin x_code x_input x_length x_fault x_failed x_signs x_signMany x_at x_told x_toldMany)) (hl : lv_has ls 3 [(0, .ref h0), (1, .int a1)]) : G_X13_writeChances p l e s m args below meth c g A z h0 h1 h2 h3 h4 h5 h6 h7 h8 h9 h10 h11 h12 h13 x_g x_kept x_saved x_before x_was x_region x_isSaved x_changes x_isWithin x_input x_length x_fault x_failed x_at x_told x_toldMany res H locs 0 ls [] := by
  have hts := E.2.2.2.1
  unfold f_X13_writeChances at h
  obtain ⟨j13, hj13, h⟩ := jox1 h
  have J13 : ∀ (s1_13 : Int32) (H : Heap) (locs : List Loc) (ls : Array Slot), j13 s1_13 = some res → Wo g A s H locs (w_X13 g h0 h1 h2 h3 h4 h5 h6 h7 h8 h9 h10 h11 h12 h13 x_g x_kept x_saved x_before x_was x_region x_parts x_next x_ways x_more x_whole x_isSaved x_changes x_isWithin x_code x_input x_length x_fault x_failed x_signs x_signMany x_at x_told x_toldMany) → lv_has ls 3 [(0, .ref h0), (1, .int a1)] → G_X13_writeChances p l e s m args below meth c g A z h0 h1 h2 h3 h4 h5 h6 h7 h8 h9 h10 h11 h12 h13 x_g x_kept x_saved x_before x_was x_region x_isSaved x_changes x_isWithin x_input x_length x_fault x_failed x_at x_told x_toldMany res H locs 13 ls [.int s1_13, .ref h0] := by
    intro s1_13 H locs ls h hW hl
    rw [hj13] at h
    obtain ⟨r13, hc, h⟩ := bx h
    refine goI (world' := (w_X13 g h0 h1 h2 h3 h4 h5 h6 h7 h8 h9 h10 h11 h12 h13 x_g x_kept x_saved x_before x_was x_region x_parts x_next x_ways x_more x_whole x_isSaved x_changes x_isWithin r13.2 x_input x_length x_fault x_failed x_signs x_signMany x_at x_told x_toldMany)) hW hA (is := [0, 1, 2, 3, 4, 5, 6, 7, 8, 9, 10, 11, 12, 13]) rfl (goV (rest := []) E hK hW [0, 1, 2, 3, 4, 5, 6, 7, 8, 9, 10, 11, 12, 13] rfl rfl (c_X13_fails l g h0 h1 h2 h3 h4 h5 h6 h7 h8 h9 h10 h11 h12 h13 x_g x_kept x_saved x_before x_was x_region x_parts x_next x_ways x_more x_whole x_isSaved x_changes x_isWithin x_code x_input x_length x_fault x_failed x_signs x_signMany x_at x_told x_toldMany s1_13 (hf := hc) H.size) (cwV 1 hts gX13_writeChances_X13_fails rfl rfl rfl (by decide +kernel) ⟨Nat.le_of_ble_eq_true rfl, Nat.le_of_ble_eq_true rfl⟩) 0 rfl rfl rfl hl.1 rfl rfl (Nat.le_of_ble_eq_true rfl) dX13_writeChances_13 ⟨Nat.zero_le _, Nat.zero_le _⟩) rfl rfl (fun H locs hW => ?_)
    refine lv_if_eq (tgt := 21) E.1 E.2.1 dX13_writeChances_16 (by decide) (fun c16 => ?_) (fun c16 => ?_)
    · have h := it c16 h
      refine lv_aload_n E.1 E.2.1 dX13_writeChances_21 rfl (lv_at hl 0 rfl) ?_
      refine lv_iconst (v := 0) E.1 E.2.1 dX13_writeChances_22 (by decide) ?_
      refine wPut (world' := (w_X13 g h0 h1 h2 h3 h4 h5 h6 h7 h8 h9 h10 h11 h12 h13 x_g x_kept x_saved x_before x_was x_region x_parts x_next x_ways x_more x_whole x_isSaved x_changes x_isWithin r13.2 x_input x_length x_fault x_failed x_signs 0 x_at x_told x_toldMany)) E hK in_X13_writeChances_X13 tyX13 tyX13_ok nmX13 hW 20 lk_X13_writeChances_169 0 rfl rfl (by decide) rfl rfl rfl rfl rfl (Nat.le_of_ble_eq_true rfl) dX13_writeChances_23 rfl (fun H locs hW => ?_)
      refine lv_iconst (v := 0) E.1 E.2.1 dX13_writeChances_26 (by decide) ?_
      refine lv_istore_n (lv' := [(2, .int 0), (0, .ref h0), (1, .int a1)]) E.1 E.2.1 dX13_writeChances_27 rfl hl (by decide) rfl (fun ls hl => ?_)
      refine k_X13_writeChances_28 E hK hz hC hA ?_ 1000 0 x_parts x_next x_ways x_more x_whole r13.2 x_signs 0 H locs ls h hW (lv_sub hl [1, 2, 0] rfl)
      · intro x_parts_100e x_next_100e x_ways_100e x_more_100e x_whole_100e x_code_100e x_signs_100e x_signMany_100e H locs ls h hW hl
        refine lv_aload_n E.1 E.2.1 dX13_writeChances_100 rfl (lv_at hl 0 rfl) ?_
        refine wGet (v := .int x_signMany_100e) E hK in_X13_writeChances_X13 hW 20 lk_X13_writeChances_169 0 rfl rfl (by decide) rfl rfl dX13_writeChances_101 ?_
        obtain rfl := Option.some.inj h
        exact endI E rfl hW dX13_writeChances_104
    · have h := ie c16 h
      refine lv_iconst (v := 0) E.1 E.2.1 dX13_writeChances_19 (by decide) ?_
      obtain rfl := Option.some.inj h
      exact endI E rfl hW dX13_writeChances_20
  refine lv_aload_n E.1 E.2.1 dX13_writeChances_0 rfl (lv_at hl 0 rfl) ?_
  refine lv_iload_n E.1 E.2.1 dX13_writeChances_1 rfl (lv_at hl 1 rfl) ?_
  obtain ⟨r2, hc, h⟩ := bx h
  refine goI (world' := (w_X13 g h0 h1 h2 h3 h4 h5 h6 h7 h8 h9 h10 h11 h12 h13 x_g x_kept x_saved x_before x_was x_region x_parts x_next x_ways x_more x_whole x_isSaved x_changes x_isWithin x_code x_input x_length x_fault x_failed x_signs x_signMany x_at x_told x_toldMany)) hW hA (is := []) rfl (goS (rest := [.ref h0]) E hK hW [] rfl rfl (c_X13_isSoon l g a1 (hf := hc) H.size) (va_cwS 1 hts gX13_writeChances_X13_isSoon rfl rfl rfl (by decide +kernel) ⟨Nat.le_of_ble_eq_true rfl, Nat.le_of_ble_eq_true rfl⟩) hl.1 rfl rfl (Nat.le_of_ble_eq_true rfl) dX13_writeChances_2 ⟨Nat.zero_le _, Nat.zero_le _⟩) rfl rfl (fun H locs hW => ?_)
  refine lv_if_eq (tgt := 12) E.1 E.2.1 dX13_writeChances_5 (by decide) (fun c5 => ?_) (fun c5 => ?_)
  · have h := it c5 h
    refine lv_iconst (v := 1) E.1 E.2.1 dX13_writeChances_12 (by decide) ?_
    exact J13 1 H locs ls h hW (lv_sub hl [0, 1] rfl)
  · have h := ie c5 h
    refine lv_iconst (v := 0) E.1 E.2.1 dX13_writeChances_8 (by decide) ?_
    refine lv_goto (tgt := 13) E.1 E.2.1 dX13_writeChances_9 (by decide) ?_
    exact J13 0 H locs ls h hW (lv_sub hl [0, 1] rfl)
theorem c_X13_writeChances (l : Launch) (g : GE) (z : ZE) (h0 h1 h2 h3 h4 h5 h6 h7 h8 h9 h10 h11 h12 h13 : Nat) (x_g : Nat → Int32) (x_kept : Nat → Int32) (x_saved : Nat → Int32) (x_before : Nat → Int32) (x_was : Nat → Int32) (x_region : Nat → Int32) (x_parts : Nat → Int64) (x_next : Nat → Int64) (x_ways : Nat → Int32) (x_more : Nat → Int32) (x_whole : Int64) (x_isSaved : Int32) (x_changes : Int32) (x_isWithin : Int32) (x_code : Int32) (x_input : Nat → Int32) (x_length : Int32) (x_fault : Int32) (x_failed : Int32) (x_signs : Nat → Int32) (x_signMany : Int32) (x_at : Int32) (x_told : Nat → Int32) (x_toldMany : Int32) (a1 : Int32) {res : Int32 × (Nat → Int64) × (Nat → Int64) × (Nat → Int32) × (Nat → Int32) × Int64 × Int32 × (Nat → Int32) × Int32} (hf : f_X13_writeChances x_g x_parts x_next x_ways x_more x_whole x_code x_signs x_signMany a1 = some res) : XI l yX13_writeChances wsX13_writeChances rm_X13_writeChances g z [.ref h0, .int a1] (w_X13 g h0 h1 h2 h3 h4 h5 h6 h7 h8 h9 h10 h11 h12 h13 x_g x_kept x_saved x_before x_was x_region x_parts x_next x_ways x_more x_whole x_isSaved x_changes x_isWithin x_code x_input x_length x_fault x_failed x_signs x_signMany x_at x_told x_toldMany) (w_X13 g h0 h1 h2 h3 h4 h5 h6 h7 h8 h9 h10 h11 h12 h13 x_g x_kept x_saved x_before x_was x_region res.2.1 res.2.2.1 res.2.2.2.1 res.2.2.2.2.1 res.2.2.2.2.2.1 x_isSaved x_changes x_isWithin res.2.2.2.2.2.2.1 x_input x_length x_fault x_failed res.2.2.2.2.2.2.2.1 res.2.2.2.2.2.2.2.2 x_at x_told x_toldMany) res.1 :=
  mkXI (cc := cX13_writeChances) (maxL := 3) (by decide) rfl (Nat.le_of_ble_eq_true rfl) (fun p e s m args below meth c A H locs ls E hK hz hC hA hW hl => k_X13_writeChances_0 E hK hz hC hA hf hW hl)

/-! PaperStormModel.isWord(ILjava/lang/String;)Z X13_isWord -/
abbrev rm_X13_isWord : Room := { frames := 4, cells := 0, slots := 0, locals := 85 }
theorem in_X13_isWord_X13 : ∀ w ∈ wsX130, w ∈ wsX13_isWord := by decide +kernel
theorem lk_X13_isWord_212 : Cond.fieldLink RX13 212 "PaperStormModel" "toldMany" "I" ∈ wsX13_isWord := by decide +kernel
theorem lk_X13_isWord_55 : Cond.fieldLink RX13 55 "PaperStormModel" "told" "[I" ∈ wsX13_isWord := by decide +kernel
noncomputable def f_X13_isWord_14 (x_input : Nat → Int32) (x_length : Int32) (b2 : List Int32) (z42 : Int32 → Option (Int32 × Int32 × (Nat → Int32))) (z34 : Int32 → Option (Int32 × Int32 × (Nat → Int32))) : Nat → Int32 → Int32 → Option (Int32 × Int32 × (Nat → Int32))
  | 0, _, _ => none
  | n + 1, l3_14, x_at_14 => if (nI (b2 : List Int32).length) ≤ l3_14 then z42 x_at_14 else if l3_14 < 0 ∨ (b2 : List Int32).length ≤ l3_14.toNatClampNeg then none else (f_X13_skips x_input x_length x_at_14 (chAt (b2 : List Int32) l3_14)).bind fun r28 => if r28.1 = 0 then z34 r28.2 else f_X13_isWord_14 x_input x_length b2 z42 z34 n (l3_14 + 1) r28.2
noncomputable def f_X13_isWord (x_input : Nat → Int32) (x_length : Int32) (x_at : Int32) (x_told : Nat → Int32) (x_toldMany : Int32) (a1 : Int32) (b2 : List Int32) : Option (Int32 × Int32 × (Nat → Int32)) :=
  if (4 * x_toldMany) < 0 ∨ 124 ≤ (4 * x_toldMany).toNatClampNeg then none else f_X13_isWord_14 x_input x_length b2 (fun x_at_42e => some (1, x_at_42e, (upd x_told (4 * x_toldMany).toNatClampNeg a1))) (fun x_at_34e => some (0, x_at_34e, (upd x_told (4 * x_toldMany).toNatClampNeg a1))) 1000 0 x_at
abbrev G_X13_isWord (p : Program) (l : Launch) (e : Env) (s : State) (m : MethodId) (args : Array Value) (below : List Frame) (meth : Method) (c : Code) (g : GE) (A : Nat → Prop) (z : ZE) (h0 h1 h2 h3 h4 h5 h6 h7 h8 h9 h10 h11 h12 h13 : Nat) (x_g : Nat → Int32) (x_kept : Nat → Int32) (x_saved : Nat → Int32) (x_before : Nat → Int32) (x_was : Nat → Int32) (x_region : Nat → Int32) (x_parts : Nat → Int64) (x_next : Nat → Int64) (x_ways : Nat → Int32) (x_more : Nat → Int32) (x_whole : Int64) (x_isSaved : Int32) (x_changes : Int32) (x_isWithin : Int32) (x_code : Int32) (x_input : Nat → Int32) (x_length : Int32) (x_fault : Int32) (x_failed : Int32) (x_signs : Nat → Int32) (x_signMany : Int32) (x_toldMany : Int32) (res : Int32 × Int32 × (Nat → Int32)) (H : Heap) (locs : List Loc) (pc : Nat) (ls : Array Slot) (st : List Value) : Prop := W p l e (headSpec wsX13_isWord rm_X13_isWord).room s m args below meth c H locs 0 0 (MQ below (PoI g A (w_X13 g h0 h1 h2 h3 h4 h5 h6 h7 h8 h9 h10 h11 h12 h13 x_g x_kept x_saved x_before x_was x_region x_parts x_next x_ways x_more x_whole x_isSaved x_changes x_isWithin x_code x_input x_length x_fault x_failed x_signs x_signMany res.2.1 res.2.2 x_toldMany) res.1) args s 0 0 A) (F0 m pc ls st)
set_option maxHeartbeats 4000000 in
set_option maxRecDepth 100000 in
theorem k_X13_isWord_14 {p : Program} {l : Launch} {e : Env} {s : State} {m : MethodId} {args : Array Value} {below : List Frame} {meth : Method} {c : Code} {g : GE} {A : Nat → Prop} {z : ZE} {o2 : String} {k2 : Nat} {h0 h1 h2 h3 h4 h5 h6 h7 h8 h9 h10 h11 h12 h13 : Nat} {x_g : Nat → Int32} {x_kept : Nat → Int32} {x_saved : Nat → Int32} {x_before : Nat → Int32} {x_was : Nat → Int32} {x_region : Nat → Int32} {x_parts : Nat → Int64} {x_next : Nat → Int64} {x_ways : Nat → Int32} {x_more : Nat → Int32} {x_whole : Int64} {x_isSaved : Int32} {x_changes : Int32} {x_isWithin : Int32} {x_code : Int32} {x_input : Nat → Int32} {x_length : Int32} {x_fault : Int32} {x_failed : Int32} {x_signs : Nat → Int32} {x_signMany : Int32} {x_told : Nat → Int32} {x_toldMany : Int32} {res : Int32 × Int32 × (Nat → Int32)} {b2 : List Int32} {z42 : Int32 → Option (Int32 × Int32 × (Nat → Int32))} {z34 : Int32 → Option (Int32 × Int32 × (Nat → Int32))}
    (E : En cX13_isWord RX13 wsX13_isWord 4 (some .boolean) p s m args meth c) (hK : KK g s) (hz : KS z s) (hC : CS z A s s.heap) (hx2 : ((o2, k2, b2) : String × Nat × List Int32) ∈ strT) (hA : ∀ q, s.heap.size ≤ q → A q)
    (hz42 : ∀ (x_at_42e : Int32) (H : Heap) (locs : List Loc) (ls : Array Slot), z42 x_at_42e = some res → Wo g A s H locs (w_X13 g h0 h1 h2 h3 h4 h5 h6 h7 h8 h9 h10 h11 h12 h13 x_g x_kept x_saved x_before x_was x_region x_parts x_next x_ways x_more x_whole x_isSaved x_changes x_isWithin x_code x_input x_length x_fault x_failed x_signs x_signMany x_at_42e x_told x_toldMany) → lv_has ls 4 [] → G_X13_isWord p l e s m args below meth c g A z h0 h1 h2 h3 h4 h5 h6 h7 h8 h9 h10 h11 h12 h13 x_g x_kept x_saved x_before x_was x_region x_parts x_next x_ways x_more x_whole x_isSaved x_changes x_isWithin x_code x_input x_length x_fault x_failed x_signs x_signMany x_toldMany res H locs 42 ls [])
    (hz34 : ∀ (x_at_34e : Int32) (H : Heap) (locs : List Loc) (ls : Array Slot), z34 x_at_34e = some res → Wo g A s H locs (w_X13 g h0 h1 h2 h3 h4 h5 h6 h7 h8 h9 h10 h11 h12 h13 x_g x_kept x_saved x_before x_was x_region x_parts x_next x_ways x_more x_whole x_isSaved x_changes x_isWithin x_code x_input x_length x_fault x_failed x_signs x_signMany x_at_34e x_told x_toldMany) → lv_has ls 4 [] → G_X13_isWord p l e s m args below meth c g A z h0 h1 h2 h3 h4 h5 h6 h7 h8 h9 h10 h11 h12 h13 x_g x_kept x_saved x_before x_was x_region x_parts x_next x_ways x_more x_whole x_isSaved x_changes x_isWithin x_code x_input x_length x_fault x_failed x_signs x_signMany x_toldMany res H locs 34 ls [])
    : ∀ (n : Nat) (l3_14 : Int32) (x_at_14 : Int32) (H : Heap) (locs : List Loc) (ls : Array Slot), f_X13_isWord_14 x_input x_length b2 z42 z34 n l3_14 x_at_14 = some res → Wo g A s H locs (w_X13 g h0 h1 h2 h3 h4 h5 h6 h7 h8 h9 h10 h11 h12 h13 x_g x_kept x_saved x_before x_was x_region x_parts x_next x_ways x_more x_whole x_isSaved x_changes x_isWithin x_code x_input x_length x_fault x_failed x_signs x_signMany x_at_14 x_told x_toldMany) → lv_has ls 4 [(0, .ref h0), (2, .ref (z.1 o2 k2)), (3, .int l3_14)] → G_X13_isWord p l e s m args below meth c g A z h0 h1 h2 h3 h4 h5 h6 h7 h8 h9 h10 h11 h12 h13 x_g x_kept x_saved x_before x_was x_region x_parts x_next x_ways x_more x_whole x_isSaved x_changes x_isWithin x_code x_input x_length x_fault x_failed x_signs x_signMany x_toldMany res H locs 14 ls [] := by
  have hts := E.2.2.2.1
  intro n
  induction n with
  | zero => intro l3_14 x_at_14 H locs ls h hW hl; rw [f_X13_isWord_14] at h; cases h
  | succ n ih =>
    intro l3_14 x_at_14 H locs ls h hW hl
    rw [f_X13_isWord_14] at h
    refine lv_iload_n E.1 E.2.1 dX13_isWord_14 rfl (lv_at hl 2 rfl) ?_
    refine lv_aload_n E.1 E.2.1 dX13_isWord_15 rfl (lv_at hl 1 rfl) ?_
    refine wLen (o2, k2, b2) hx2 E hC hW (cwV 0 hts gX13_isWord_J0_length_8abf5 rfl rfl rfl (by decide +kernel) ⟨Nat.le_of_ble_eq_true rfl, Nat.le_of_ble_eq_true rfl⟩) hl.1 (Nat.le_of_ble_eq_true rfl) dX13_isWord_16 ⟨Nat.zero_le _, Nat.zero_le _⟩ (fun H locs hW => ?_)
    refine lv_icmp_ge (tgt := 42) E.1 E.2.1 dX13_isWord_19 (by decide) (fun c19 => ?_) (fun c19 => ?_)
    · have h := it c19 h
      exact hz42 x_at_14 H locs ls h hW (lv_sub hl [] rfl)
    · have h := ie c19 h
      refine lv_aload_n E.1 E.2.1 dX13_isWord_22 rfl (lv_at hl 0 rfl) ?_
      refine lv_aload_n E.1 E.2.1 dX13_isWord_23 rfl (lv_at hl 1 rfl) ?_
      refine lv_iload_n E.1 E.2.1 dX13_isWord_24 rfl (lv_at hl 2 rfl) ?_
      obtain ⟨hi25, h⟩ := ox h
      refine wChr (o2, k2, b2) hx2 hi25 E hC hW (cwV 1 hts gX13_isWord_J0_charAt_5068e rfl rfl rfl (by decide +kernel) ⟨Nat.le_of_ble_eq_true rfl, Nat.le_of_ble_eq_true rfl⟩) hl.1 (Nat.le_of_ble_eq_true rfl) dX13_isWord_25 ⟨Nat.zero_le _, Nat.zero_le _⟩ (fun H locs hW => ?_)
      obtain ⟨r28, hc, h⟩ := bx h
      refine goI (world' := (w_X13 g h0 h1 h2 h3 h4 h5 h6 h7 h8 h9 h10 h11 h12 h13 x_g x_kept x_saved x_before x_was x_region x_parts x_next x_ways x_more x_whole x_isSaved x_changes x_isWithin x_code x_input x_length x_fault x_failed x_signs x_signMany r28.2 x_told x_toldMany)) hW hA (is := [0, 1, 2, 3, 4, 5, 6, 7, 8, 9, 10, 11, 12, 13]) rfl (goV (rest := []) E hK hW [0, 1, 2, 3, 4, 5, 6, 7, 8, 9, 10, 11, 12, 13] rfl rfl (c_X13_skips l g h0 h1 h2 h3 h4 h5 h6 h7 h8 h9 h10 h11 h12 h13 x_g x_kept x_saved x_before x_was x_region x_parts x_next x_ways x_more x_whole x_isSaved x_changes x_isWithin x_code x_input x_length x_fault x_failed x_signs x_signMany x_at_14 x_told x_toldMany (chAt (b2 : List Int32) l3_14) (hf := hc) H.size) (cwV 1 hts gX13_isWord_X13_skips rfl rfl rfl (by decide +kernel) ⟨Nat.le_of_ble_eq_true rfl, Nat.le_of_ble_eq_true rfl⟩) 0 rfl rfl rfl hl.1 rfl rfl (Nat.le_of_ble_eq_true rfl) dX13_isWord_28 ⟨Nat.zero_le _, Nat.zero_le _⟩) rfl rfl (fun H locs hW => ?_)
      refine lv_if_ne (tgt := 36) E.1 E.2.1 dX13_isWord_31 (by decide) (fun c31 => ?_) (fun c31 => ?_)
      · have h := ie c31 h
        refine lv_iinc (v := (l3_14 + 1)) (lv' := [(3, .int (l3_14 + 1)), (0, .ref h0), (2, .ref (z.1 o2 k2))]) E.1 E.2.1 dX13_isWord_36 hl (k := 2) rfl rfl (by decide) rfl (fun ls hl => ?_)
        refine lv_goto (tgt := 14) E.1 E.2.1 dX13_isWord_39 (by decide) ?_
        exact ih (l3_14 + 1) r28.2 H locs ls h hW (lv_sub hl [1, 2, 0] rfl)
      · have h := it c31 h
        exact hz34 r28.2 H locs ls h hW (lv_sub hl [] rfl)
set_option maxHeartbeats 4000000 in
set_option maxRecDepth 100000 in
theorem k_X13_isWord_0 {p : Program} {l : Launch} {e : Env} {s : State} {m : MethodId} {args : Array Value} {below : List Frame} {meth : Method} {c : Code} {g : GE} {A : Nat → Prop} {z : ZE} {o2 : String} {k2 : Nat} {h0 h1 h2 h3 h4 h5 h6 h7 h8 h9 h10 h11 h12 h13 : Nat} {x_g : Nat → Int32} {x_kept : Nat → Int32} {x_saved : Nat → Int32} {x_before : Nat → Int32} {x_was : Nat → Int32} {x_region : Nat → Int32} {x_parts : Nat → Int64} {x_next : Nat → Int64} {x_ways : Nat → Int32} {x_more : Nat → Int32} {x_whole : Int64} {x_isSaved : Int32} {x_changes : Int32} {x_isWithin : Int32} {x_code : Int32} {x_input : Nat → Int32} {x_length : Int32} {x_fault : Int32} {x_failed : Int32} {x_signs : Nat → Int32} {x_signMany : Int32} {x_at : Int32} {x_told : Nat → Int32} {x_toldMany : Int32} {res : Int32 × Int32 × (Nat → Int32)} {H : Heap} {locs : List Loc} {ls : Array Slot} {a1 : Int32} {b2 : List Int32}
    (E : En cX13_isWord RX13 wsX13_isWord 4 (some .boolean) p s m args meth c) (hK : KK g s) (hz : KS z s) (hC : CS z A s s.heap) (hx2 : ((o2, k2, b2) : String × Nat × List Int32) ∈ strT) (hA : ∀ q, s.heap.size ≤ q → A q) (h : f_X13_isWord x_input x_length x_at x_told x_toldMany a1 b2 = some res) (hW : Wo g A s H locs (w_X13 g h0 h1 h2 h3 h4 h5 h6 h7 h8 h9 h10 h11 h12 h13 x_g x_kept x_saved x_before x_was x_region x_parts x_next x_ways x_more x_whole x_isSaved x_changes x_isWithin x_code x_input x_length x_fault x_failed x_signs x_signMany x_at x_told x_toldMany)) (hl : lv_has ls 4 [(0, .ref h0), (1, .int a1), (2, .ref (z.1 o2 k2))]) : G_X13_isWord p l e s m args below meth c g A z h0 h1 h2 h3 h4 h5 h6 h7 h8 h9 h10 h11 h12 h13 x_g x_kept x_saved x_before x_was x_region x_parts x_next x_ways x_more x_whole x_isSaved x_changes x_isWithin x_code x_input x_length x_fault x_failed x_signs x_signMany x_toldMany res H locs 0 ls [] := by
  have hts := E.2.2.2.1
  unfold f_X13_isWord at h
  refine lv_aload_n E.1 E.2.1 dX13_isWord_0 rfl (lv_at hl 0 rfl) ?_
  refine wGet (v := .ref h13) E hK in_X13_isWord_X13 hW 22 lk_X13_isWord_55 0 rfl rfl (by decide) rfl rfl dX13_isWord_1 ?_
  refine lv_iconst (v := 4) E.1 E.2.1 dX13_isWord_4 (by decide) ?_
  refine lv_aload_n E.1 E.2.1 dX13_isWord_5 rfl (lv_at hl 0 rfl) ?_
  refine wGet (v := .int x_toldMany) E hK in_X13_isWord_X13 hW 23 lk_X13_isWord_212 0 rfl rfl (by decide) rfl rfl dX13_isWord_6 ?_
  refine lv_imul E.1 E.2.1 dX13_isWord_9 ?_
  refine lv_iload_n E.1 E.2.1 dX13_isWord_10 rfl (lv_at hl 1 rfl) ?_
  obtain ⟨hi11, h⟩ := ox h
  refine wIast (world' := (w_X13 g h0 h1 h2 h3 h4 h5 h6 h7 h8 h9 h10 h11 h12 h13 x_g x_kept x_saved x_before x_was x_region x_parts x_next x_ways x_more x_whole x_isSaved x_changes x_isWithin x_code x_input x_length x_fault x_failed x_signs x_signMany x_at (upd x_told (4 * x_toldMany).toNatClampNeg a1) x_toldMany)) E hK hW 13 rfl hi11 dX13_isWord_11 rfl (fun H locs hW => ?_)
  refine lv_iconst (v := 0) E.1 E.2.1 dX13_isWord_12 (by decide) ?_
  refine lv_istore_n (lv' := [(3, .int 0), (0, .ref h0), (1, .int a1), (2, .ref (z.1 o2 k2))]) E.1 E.2.1 dX13_isWord_13 rfl hl (by decide) rfl (fun ls hl => ?_)
  refine k_X13_isWord_14 E hK hz hC hx2 hA ?_ ?_ 1000 0 x_at H locs ls h hW (lv_sub hl [1, 3, 0] rfl)
  · intro x_at_42e H locs ls h hW hl
    refine lv_iconst (v := 1) E.1 E.2.1 dX13_isWord_42 (by decide) ?_
    obtain rfl := Option.some.inj h
    exact endI E (show narrow .boolean (.int 1) = .int 1 by decide) hW dX13_isWord_43
  · intro x_at_34e H locs ls h hW hl
    refine lv_iconst (v := 0) E.1 E.2.1 dX13_isWord_34 (by decide) ?_
    obtain rfl := Option.some.inj h
    exact endI E (show narrow .boolean (.int 0) = .int 0 by decide) hW dX13_isWord_35
theorem c_X13_isWord (l : Launch) (g : GE) (z : ZE) (o2 : String) (k2 : Nat) (h0 h1 h2 h3 h4 h5 h6 h7 h8 h9 h10 h11 h12 h13 : Nat) (x_g : Nat → Int32) (x_kept : Nat → Int32) (x_saved : Nat → Int32) (x_before : Nat → Int32) (x_was : Nat → Int32) (x_region : Nat → Int32) (x_parts : Nat → Int64) (x_next : Nat → Int64) (x_ways : Nat → Int32) (x_more : Nat → Int32) (x_whole : Int64) (x_isSaved : Int32) (x_changes : Int32) (x_isWithin : Int32) (x_code : Int32) (x_input : Nat → Int32) (x_length : Int32) (x_fault : Int32) (x_failed : Int32) (x_signs : Nat → Int32) (x_signMany : Int32) (x_at : Int32) (x_told : Nat → Int32) (x_toldMany : Int32) (a1 : Int32) (b2 : List Int32) (hx2 : ((o2, k2, b2) : String × Nat × List Int32) ∈ strT) {res : Int32 × Int32 × (Nat → Int32)} (hf : f_X13_isWord x_input x_length x_at x_told x_toldMany a1 b2 = some res) : XI l yX13_isWord wsX13_isWord rm_X13_isWord g z [.ref h0, .int a1, .ref (z.1 o2 k2)] (w_X13 g h0 h1 h2 h3 h4 h5 h6 h7 h8 h9 h10 h11 h12 h13 x_g x_kept x_saved x_before x_was x_region x_parts x_next x_ways x_more x_whole x_isSaved x_changes x_isWithin x_code x_input x_length x_fault x_failed x_signs x_signMany x_at x_told x_toldMany) (w_X13 g h0 h1 h2 h3 h4 h5 h6 h7 h8 h9 h10 h11 h12 h13 x_g x_kept x_saved x_before x_was x_region x_parts x_next x_ways x_more x_whole x_isSaved x_changes x_isWithin x_code x_input x_length x_fault x_failed x_signs x_signMany res.2.1 res.2.2 x_toldMany) res.1 :=
  mkXI (cc := cX13_isWord) (maxL := 4) (by decide) rfl (Nat.le_of_ble_eq_true rfl) (fun p e s m args below meth c A H locs ls E hK hz hC hA hW hl => k_X13_isWord_0 E hK hz hC hx2 hA hf hW hl)

/-! PaperStormModel.commandHere()Z X13_commandHere -/
abbrev rm_X13_commandHere : Room := { frames := 5, cells := 0, slots := 0, locals := 108 }
theorem in_X13_commandHere_X13 : ∀ w ∈ wsX130, w ∈ wsX13_commandHere := by decide +kernel
theorem lk_X13_commandHere_212 : Cond.fieldLink RX13 212 "PaperStormModel" "toldMany" "I" ∈ wsX13_commandHere := by decide +kernel
noncomputable def f_X13_commandHere (x_input : Nat → Int32) (x_length : Int32) (x_at : Int32) (x_told : Nat → Int32) (x_toldMany : Int32) : Option (Int32 × Int32 × (Nat → Int32)) :=
  (f_X13_skips x_input x_length x_at 114).bind fun r12 => if r12.1 = 0 then (f_X13_skips x_input x_length r12.2 99).bind fun r46 => if r46.1 = 0 then (f_X13_skips x_input x_length r46.2 116).bind fun r80 => if r80.1 = 0 then (f_X13_skips x_input x_length r80.2 105).bind fun r114 => if r114.1 = 0 then (f_X13_skips x_input x_length r114.2 111).bind fun r149 => if r149.1 = 0 then (f_X13_skips x_input x_length r149.2 108).bind fun r184 => if r184.1 = 0 then (f_X13_skips x_input x_length r184.2 115).bind fun r202 => if r202.1 = 0 then (f_X13_skips x_input x_length r202.2 119).bind fun r293 => if r293.1 = 0 then some (0, r293.2, x_told) else jo (fun (x_at_384 : Int32) (x_told_384 : Nat → Int32) (s0_384 : Int32) => if ¬ vp_nar .boolean s0_384 = s0_384 then none else some (s0_384, x_at_384, x_told_384)) (fun j384 => (f_X13_skips x_input x_length r293.2 105).bind fun r304 => if r304.1 = 0 then jo (fun (x_at_383 : Int32) (x_told_383 : Nat → Int32) => j384 x_at_383 x_told_383 0) (fun j383 => (f_X13_isWord x_input x_length r304.2 x_told x_toldMany 5 ([101, 105, 103, 104, 116])).bind fun r342 => if r342.1 = 0 then j383 r342.2.1 r342.2.2 else (f_X13_figures x_input x_length r342.2.1 r342.2.2 ((4 * x_toldMany) + 1) 1).bind fun r351 => if r351.1 = 0 then j383 r351.2.1 r351.2.2 else (f_X13_figures x_input x_length r351.2.1 r351.2.2 (((4 * x_toldMany) + 1) + 1) 1).bind fun r362 => if r362.1 = 0 then j383 r362.2.1 r362.2.2 else (f_X13_figures x_input x_length r362.2.1 r362.2.2 (((4 * x_toldMany) + 1) + 2) 1).bind fun r373 => if r373.1 = 0 then j383 r373.2.1 r373.2.2 else j384 r373.2.1 r373.2.2 1) else jo (fun (x_at_334 : Int32) (x_told_334 : Nat → Int32) => j384 x_at_334 x_told_334 0) (fun j334 => (f_X13_isWord x_input x_length r304.2 x_told x_toldMany 7 ([116, 104, 100, 114, 97, 119])).bind fun r315 => if r315.1 = 0 then j334 r315.2.1 r315.2.2 else (f_X13_figures x_input x_length r315.2.1 r315.2.2 ((4 * x_toldMany) + 1) 1).bind fun r324 => if r324.1 = 0 then j334 r324.2.1 r324.2.2 else j384 r324.2.1 r324.2.2 1)) else jo (fun (x_at_289 : Int32) (x_told_289 : Nat → Int32) (s0_289 : Int32) => if ¬ vp_nar .boolean s0_289 = s0_289 then none else some (s0_289, x_at_289, x_told_289)) (fun j289 => (f_X13_skips x_input x_length r202.2 104).bind fun r211 => if r211.1 = 0 then jo (fun (x_at_288 : Int32) (x_told_288 : Nat → Int32) => j289 x_at_288 x_told_288 0) (fun j288 => (f_X13_isWord x_input x_length r211.2 x_told x_toldMany 0 ([101, 116])).bind fun r247 => if r247.1 = 0 then j288 r247.2.1 r247.2.2 else (f_X13_figures x_input x_length r247.2.1 r247.2.2 ((4 * x_toldMany) + 1) 1).bind fun r256 => if r256.1 = 0 then j288 r256.2.1 r256.2.2 else (f_X13_figures x_input x_length r256.2.1 r256.2.2 (((4 * x_toldMany) + 1) + 1) 1).bind fun r267 => if r267.1 = 0 then j288 r267.2.1 r267.2.2 else (f_X13_figures x_input x_length r267.2.1 r267.2.2 (((4 * x_toldMany) + 1) + 2) 2).bind fun r278 => if r278.1 = 0 then j288 r278.2.1 r278.2.2 else j289 r278.2.1 r278.2.2 1) else jo (fun (x_at_239 : Int32) (x_told_239 : Nat → Int32) => j289 x_at_239 x_told_239 0) (fun j239 => (f_X13_isWord x_input x_length r211.2 x_told x_toldMany 3 ([105, 102, 116, 32])).bind fun r221 => if r221.1 = 0 then j239 r221.2.1 r221.2.2 else (f_X13_wayHere x_input x_length r221.2.1 r221.2.2 ((4 * x_toldMany) + 1)).bind fun r229 => if r229.1 = 0 then j239 r229.2.1 r229.2.2 else j289 r229.2.1 r229.2.2 1)) else (f_X13_isWord x_input x_length r184.2 x_told x_toldMany 9 ([111, 111, 107])).bind fun r195 => if ¬ vp_nar .boolean r195.1 = r195.1 then none else some (r195.1, r195.2.1, r195.2.2) else jo (fun (x_at_180 : Int32) (x_told_180 : Nat → Int32) (s0_180 : Int32) => if ¬ vp_nar .boolean s0_180 = s0_180 then none else some (s0_180, x_at_180, x_told_180)) (fun j180 => jo (fun (x_at_179 : Int32) (x_told_179 : Nat → Int32) => j180 x_at_179 x_told_179 0) (fun j179 => (f_X13_isWord x_input x_length r149.2 x_told x_toldMany 8 ([98, 115, 101, 114, 118, 101])).bind fun r160 => if r160.1 = 0 then j179 r160.2.1 r160.2.2 else (f_X13_figures x_input x_length r160.2.1 r160.2.2 ((4 * x_toldMany) + 1) 1).bind fun r169 => if r169.1 = 0 then j179 r169.2.1 r169.2.2 else j180 r169.2.1 r169.2.2 1)) else jo (fun (x_at_145 : Int32) (x_told_145 : Nat → Int32) (s0_145 : Int32) => if ¬ vp_nar .boolean s0_145 = s0_145 then none else some (s0_145, x_at_145, x_told_145)) (fun j145 => jo (fun (x_at_144 : Int32) (x_told_144 : Nat → Int32) => j145 x_at_144 x_told_144 0) (fun j144 => (f_X13_isWord x_input x_length r114.2 x_told x_toldMany 6 ([115, 115, 117, 101])).bind fun r125 => if r125.1 = 0 then j144 r125.2.1 r125.2.2 else (f_X13_figures x_input x_length r125.2.1 r125.2.2 ((4 * x_toldMany) + 1) 1).bind fun r134 => if r134.1 = 0 then j144 r134.2.1 r134.2.2 else j145 r134.2.1 r134.2.2 1)) else jo (fun (x_at_110 : Int32) (x_told_110 : Nat → Int32) (s0_110 : Int32) => if ¬ vp_nar .boolean s0_110 = s0_110 then none else some (s0_110, x_at_110, x_told_110)) (fun j110 => jo (fun (x_at_109 : Int32) (x_told_109 : Nat → Int32) => j110 x_at_109 x_told_109 0) (fun j109 => (f_X13_isWord x_input x_length r80.2 x_told x_toldMany 4 ([104, 114, 101, 115, 104, 111, 108, 100])).bind fun r90 => if r90.1 = 0 then j109 r90.2.1 r90.2.2 else (f_X13_figures x_input x_length r90.2.1 r90.2.2 ((4 * x_toldMany) + 1) 2).bind fun r99 => if r99.1 = 0 then j109 r99.2.1 r99.2.2 else j110 r99.2.1 r99.2.2 1)) else jo (fun (x_at_76 : Int32) (x_told_76 : Nat → Int32) (s0_76 : Int32) => if ¬ vp_nar .boolean s0_76 = s0_76 then none else some (s0_76, x_at_76, x_told_76)) (fun j76 => jo (fun (x_at_75 : Int32) (x_told_75 : Nat → Int32) => j76 x_at_75 x_told_75 0) (fun j75 => (f_X13_isWord x_input x_length r46.2 x_told x_toldMany 2 ([111, 108, 117, 109, 110])).bind fun r56 => if r56.1 = 0 then j75 r56.2.1 r56.2.2 else (f_X13_figures x_input x_length r56.2.1 r56.2.2 ((4 * x_toldMany) + 1) 1).bind fun r65 => if r65.1 = 0 then j75 r65.2.1 r65.2.2 else j76 r65.2.1 r65.2.2 1)) else jo (fun (x_at_42 : Int32) (x_told_42 : Nat → Int32) (s0_42 : Int32) => if ¬ vp_nar .boolean s0_42 = s0_42 then none else some (s0_42, x_at_42, x_told_42)) (fun j42 => jo (fun (x_at_41 : Int32) (x_told_41 : Nat → Int32) => j42 x_at_41 x_told_41 0) (fun j41 => (f_X13_isWord x_input x_length r12.2 x_told x_toldMany 1 ([111, 119])).bind fun r22 => if r22.1 = 0 then j41 r22.2.1 r22.2.2 else (f_X13_figures x_input x_length r22.2.1 r22.2.2 ((4 * x_toldMany) + 1) 1).bind fun r31 => if r31.1 = 0 then j41 r31.2.1 r31.2.2 else j42 r31.2.1 r31.2.2 1))
abbrev G_X13_commandHere (p : Program) (l : Launch) (e : Env) (s : State) (m : MethodId) (args : Array Value) (below : List Frame) (meth : Method) (c : Code) (g : GE) (A : Nat → Prop) (z : ZE) (h0 h1 h2 h3 h4 h5 h6 h7 h8 h9 h10 h11 h12 h13 : Nat) (x_g : Nat → Int32) (x_kept : Nat → Int32) (x_saved : Nat → Int32) (x_before : Nat → Int32) (x_was : Nat → Int32) (x_region : Nat → Int32) (x_parts : Nat → Int64) (x_next : Nat → Int64) (x_ways : Nat → Int32) (x_more : Nat → Int32) (x_whole : Int64) (x_isSaved : Int32) (x_changes : Int32) (x_isWithin : Int32) (x_code : Int32) (x_input : Nat → Int32) (x_length : Int32) (x_fault : Int32) (x_failed : Int32) (x_signs : Nat → Int32) (x_signMany : Int32) (x_toldMany : Int32) (res : Int32 × Int32 × (Nat → Int32)) (H : Heap) (locs : List Loc) (pc : Nat) (ls : Array Slot) (st : List Value) : Prop := W p l e (headSpec wsX13_commandHere rm_X13_commandHere).room s m args below meth c H locs 0 0 (MQ below (PoI g A (w_X13 g h0 h1 h2 h3 h4 h5 h6 h7 h8 h9 h10 h11 h12 h13 x_g x_kept x_saved x_before x_was x_region x_parts x_next x_ways x_more x_whole x_isSaved x_changes x_isWithin x_code x_input x_length x_fault x_failed x_signs x_signMany res.2.1 res.2.2 x_toldMany) res.1) args s 0 0 A) (F0 m pc ls st)
set_option maxHeartbeats 4000000 in
set_option maxRecDepth 100000 in
theorem k_X13_commandHere_0 {p : Program} {l : Launch} {e : Env} {s : State} {m : MethodId} {args : Array Value} {below : List Frame} {meth : Method} {c : Code} {g : GE} {A : Nat → Prop} {z : ZE} {h0 h1 h2 h3 h4 h5 h6 h7 h8 h9 h10 h11 h12 h13 : Nat} {x_g : Nat → Int32} {x_kept : Nat → Int32} {x_saved : Nat → Int32} {x_before : Nat → Int32} {x_was : Nat → Int32} {x_region : Nat → Int32} {x_parts : Nat → Int64} {x_next : Nat → Int64} {x_ways : Nat → Int32} {x_more : Nat → Int32} {x_whole : Int64} {x_isSaved : Int32} {x_changes : Int32} {x_isWithin : Int32} {x_code : Int32} {x_input : Nat → Int32} {x_length : Int32} {x_fault : Int32} {x_failed : Int32} {x_signs : Nat → Int32} {x_signMany : Int32} {x_at : Int32} {x_told : Nat → Int32} {x_toldMany : Int32} {res : Int32 × Int32 × (Nat → Int32)} {H : Heap} {locs : List Loc} {ls : Array Slot} 
    (E : En cX13_commandHere RX13 wsX13_commandHere 2 (some .boolean) p s m args meth c) (hK : KK g s) (hz : KS z s) (hC : CS z A s s.heap) (hA : ∀ q, s.heap.size ≤ q → A q) (h : f_X13_commandHere x_input x_length x_at x_told x_toldMany = some res) (hW : Wo g A s H locs (w_X13 g h0 h1 h2 h3 h4 h5 h6 h7 h8 h9 h10 h11 h12 h13 x_g x_kept x_saved x_before x_was x_region x_parts x_next x_ways x_more x_whole x_isSaved x_changes x_isWithin x_code x_input x_length x_fault x_failed x_signs x_signMany x_at x_told x_toldMany)) (hl : lv_has ls 2 [(0, .ref h0)]) : G_X13_commandHere p l e s m args below meth c g A z h0 h1 h2 h3 h4 h5 h6 h7 h8 h9 h10 h11 h12 h13 x_g x_kept x_saved x_before x_was x_region x_parts x_next x_ways x_more x_whole x_isSaved x_changes x_isWithin x_code x_input x_length x_fault x_failed x_signs x_signMany x_toldMany res H locs 0 ls [] := by
  have hts := E.2.2.2.1
  unfold f_X13_commandHere at h
  refine lv_iconst (v := 4) E.1 E.2.1 dX13_commandHere_0 (by decide) ?_
  refine lv_aload_n E.1 E.2.1 dX13_commandHere_1 rfl (lv_at hl 0 rfl) ?_
  refine wGet (v := .int x_toldMany) E hK in_X13_commandHere_X13 hW 23 lk_X13_commandHere_212 0 rfl rfl (by decide) rfl rfl dX13_commandHere_2 ?_
  refine lv_imul E.1 E.2.1 dX13_commandHere_5 ?_
  refine lv_iconst (v := 1) E.1 E.2.1 dX13_commandHere_6 (by decide) ?_
  refine lv_iadd E.1 E.2.1 dX13_commandHere_7 ?_
  refine lv_istore_n (lv' := [(1, .int ((4 * x_toldMany) + 1)), (0, .ref h0)]) E.1 E.2.1 dX13_commandHere_8 rfl hl (by decide) rfl (fun ls hl => ?_)
  refine lv_aload_n E.1 E.2.1 dX13_commandHere_9 rfl (lv_at hl 1 rfl) ?_
  refine lv_bipush (v := 114) E.1 E.2.1 dX13_commandHere_10 (by decide) ?_
  obtain ⟨r12, hc, h⟩ := bx h
  refine goI (world' := (w_X13 g h0 h1 h2 h3 h4 h5 h6 h7 h8 h9 h10 h11 h12 h13 x_g x_kept x_saved x_before x_was x_region x_parts x_next x_ways x_more x_whole x_isSaved x_changes x_isWithin x_code x_input x_length x_fault x_failed x_signs x_signMany r12.2 x_told x_toldMany)) hW hA (is := [0, 1, 2, 3, 4, 5, 6, 7, 8, 9, 10, 11, 12, 13]) rfl (goV (rest := []) E hK hW [0, 1, 2, 3, 4, 5, 6, 7, 8, 9, 10, 11, 12, 13] rfl rfl (c_X13_skips l g h0 h1 h2 h3 h4 h5 h6 h7 h8 h9 h10 h11 h12 h13 x_g x_kept x_saved x_before x_was x_region x_parts x_next x_ways x_more x_whole x_isSaved x_changes x_isWithin x_code x_input x_length x_fault x_failed x_signs x_signMany x_at x_told x_toldMany 114 (hf := hc) H.size) (cwV 1 hts gX13_commandHere_X13_skips rfl rfl rfl (by decide +kernel) ⟨Nat.le_of_ble_eq_true rfl, Nat.le_of_ble_eq_true rfl⟩) 0 rfl rfl rfl hl.1 rfl rfl (Nat.le_of_ble_eq_true rfl) dX13_commandHere_12 ⟨Nat.zero_le _, Nat.zero_le _⟩) rfl rfl (fun H locs hW => ?_)
  refine lv_if_eq (tgt := 43) E.1 E.2.1 dX13_commandHere_15 (by decide) (fun c15 => ?_) (fun c15 => ?_)
  · have h := it c15 h
    refine lv_aload_n E.1 E.2.1 dX13_commandHere_43 rfl (lv_at hl 1 rfl) ?_
    refine lv_bipush (v := 99) E.1 E.2.1 dX13_commandHere_44 (by decide) ?_
    obtain ⟨r46, hc, h⟩ := bx h
    refine goI (world' := (w_X13 g h0 h1 h2 h3 h4 h5 h6 h7 h8 h9 h10 h11 h12 h13 x_g x_kept x_saved x_before x_was x_region x_parts x_next x_ways x_more x_whole x_isSaved x_changes x_isWithin x_code x_input x_length x_fault x_failed x_signs x_signMany r46.2 x_told x_toldMany)) hW hA (is := [0, 1, 2, 3, 4, 5, 6, 7, 8, 9, 10, 11, 12, 13]) rfl (goV (rest := []) E hK hW [0, 1, 2, 3, 4, 5, 6, 7, 8, 9, 10, 11, 12, 13] rfl rfl (c_X13_skips l g h0 h1 h2 h3 h4 h5 h6 h7 h8 h9 h10 h11 h12 h13 x_g x_kept x_saved x_before x_was x_region x_parts x_next x_ways x_more x_whole x_isSaved x_changes x_isWithin x_code x_input x_length x_fault x_failed x_signs x_signMany r12.2 x_told x_toldMany 99 (hf := hc) H.size) (cwV 1 hts gX13_commandHere_X13_skips rfl rfl rfl (by decide +kernel) ⟨Nat.le_of_ble_eq_true rfl, Nat.le_of_ble_eq_true rfl⟩) 0 rfl rfl rfl hl.1 rfl rfl (Nat.le_of_ble_eq_true rfl) dX13_commandHere_46 ⟨Nat.zero_le _, Nat.zero_le _⟩) rfl rfl (fun H locs hW => ?_)
    refine lv_if_eq (tgt := 77) E.1 E.2.1 dX13_commandHere_49 (by decide) (fun c49 => ?_) (fun c49 => ?_)
    · have h := it c49 h
      refine lv_aload_n E.1 E.2.1 dX13_commandHere_77 rfl (lv_at hl 1 rfl) ?_
      refine lv_bipush (v := 116) E.1 E.2.1 dX13_commandHere_78 (by decide) ?_
      obtain ⟨r80, hc, h⟩ := bx h
      refine goI (world' := (w_X13 g h0 h1 h2 h3 h4 h5 h6 h7 h8 h9 h10 h11 h12 h13 x_g x_kept x_saved x_before x_was x_region x_parts x_next x_ways x_more x_whole x_isSaved x_changes x_isWithin x_code x_input x_length x_fault x_failed x_signs x_signMany r80.2 x_told x_toldMany)) hW hA (is := [0, 1, 2, 3, 4, 5, 6, 7, 8, 9, 10, 11, 12, 13]) rfl (goV (rest := []) E hK hW [0, 1, 2, 3, 4, 5, 6, 7, 8, 9, 10, 11, 12, 13] rfl rfl (c_X13_skips l g h0 h1 h2 h3 h4 h5 h6 h7 h8 h9 h10 h11 h12 h13 x_g x_kept x_saved x_before x_was x_region x_parts x_next x_ways x_more x_whole x_isSaved x_changes x_isWithin x_code x_input x_length x_fault x_failed x_signs x_signMany r46.2 x_told x_toldMany 116 (hf := hc) H.size) (cwV 1 hts gX13_commandHere_X13_skips rfl rfl rfl (by decide +kernel) ⟨Nat.le_of_ble_eq_true rfl, Nat.le_of_ble_eq_true rfl⟩) 0 rfl rfl rfl hl.1 rfl rfl (Nat.le_of_ble_eq_true rfl) dX13_commandHere_80 ⟨Nat.zero_le _, Nat.zero_le _⟩) rfl rfl (fun H locs hW => ?_)
      refine lv_if_eq (tgt := 111) E.1 E.2.1 dX13_commandHere_83 (by decide) (fun c83 => ?_) (fun c83 => ?_)
      · have h := it c83 h
        refine lv_aload_n E.1 E.2.1 dX13_commandHere_111 rfl (lv_at hl 1 rfl) ?_
        refine lv_bipush (v := 105) E.1 E.2.1 dX13_commandHere_112 (by decide) ?_
        obtain ⟨r114, hc, h⟩ := bx h
        refine goI (world' := (w_X13 g h0 h1 h2 h3 h4 h5 h6 h7 h8 h9 h10 h11 h12 h13 x_g x_kept x_saved x_before x_was x_region x_parts x_next x_ways x_more x_whole x_isSaved x_changes x_isWithin x_code x_input x_length x_fault x_failed x_signs x_signMany r114.2 x_told x_toldMany)) hW hA (is := [0, 1, 2, 3, 4, 5, 6, 7, 8, 9, 10, 11, 12, 13]) rfl (goV (rest := []) E hK hW [0, 1, 2, 3, 4, 5, 6, 7, 8, 9, 10, 11, 12, 13] rfl rfl (c_X13_skips l g h0 h1 h2 h3 h4 h5 h6 h7 h8 h9 h10 h11 h12 h13 x_g x_kept x_saved x_before x_was x_region x_parts x_next x_ways x_more x_whole x_isSaved x_changes x_isWithin x_code x_input x_length x_fault x_failed x_signs x_signMany r80.2 x_told x_toldMany 105 (hf := hc) H.size) (cwV 1 hts gX13_commandHere_X13_skips rfl rfl rfl (by decide +kernel) ⟨Nat.le_of_ble_eq_true rfl, Nat.le_of_ble_eq_true rfl⟩) 0 rfl rfl rfl hl.1 rfl rfl (Nat.le_of_ble_eq_true rfl) dX13_commandHere_114 ⟨Nat.zero_le _, Nat.zero_le _⟩) rfl rfl (fun H locs hW => ?_)
        refine lv_if_eq (tgt := 146) E.1 E.2.1 dX13_commandHere_117 (by decide) (fun c117 => ?_) (fun c117 => ?_)
        · have h := it c117 h
          refine lv_aload_n E.1 E.2.1 dX13_commandHere_146 rfl (lv_at hl 1 rfl) ?_
          refine lv_bipush (v := 111) E.1 E.2.1 dX13_commandHere_147 (by decide) ?_
          obtain ⟨r149, hc, h⟩ := bx h
          refine goI (world' := (w_X13 g h0 h1 h2 h3 h4 h5 h6 h7 h8 h9 h10 h11 h12 h13 x_g x_kept x_saved x_before x_was x_region x_parts x_next x_ways x_more x_whole x_isSaved x_changes x_isWithin x_code x_input x_length x_fault x_failed x_signs x_signMany r149.2 x_told x_toldMany)) hW hA (is := [0, 1, 2, 3, 4, 5, 6, 7, 8, 9, 10, 11, 12, 13]) rfl (goV (rest := []) E hK hW [0, 1, 2, 3, 4, 5, 6, 7, 8, 9, 10, 11, 12, 13] rfl rfl (c_X13_skips l g h0 h1 h2 h3 h4 h5 h6 h7 h8 h9 h10 h11 h12 h13 x_g x_kept x_saved x_before x_was x_region x_parts x_next x_ways x_more x_whole x_isSaved x_changes x_isWithin x_code x_input x_length x_fault x_failed x_signs x_signMany r114.2 x_told x_toldMany 111 (hf := hc) H.size) (cwV 1 hts gX13_commandHere_X13_skips rfl rfl rfl (by decide +kernel) ⟨Nat.le_of_ble_eq_true rfl, Nat.le_of_ble_eq_true rfl⟩) 0 rfl rfl rfl hl.1 rfl rfl (Nat.le_of_ble_eq_true rfl) dX13_commandHere_149 ⟨Nat.zero_le _, Nat.zero_le _⟩) rfl rfl (fun H locs hW => ?_)
          refine lv_if_eq (tgt := 181) E.1 E.2.1 dX13_commandHere_152 (by decide) (fun c152 => ?_) (fun c152 => ?_)
          · have h := it c152 h
            refine lv_aload_n E.1 E.2.1 dX13_commandHere_181 rfl (lv_at hl 1 rfl) ?_
            refine lv_bipush (v := 108) E.1 E.2.1 dX13_commandHere_182 (by decide) ?_
            obtain ⟨r184, hc, h⟩ := bx h
            refine goI (world' := (w_X13 g h0 h1 h2 h3 h4 h5 h6 h7 h8 h9 h10 h11 h12 h13 x_g x_kept x_saved x_before x_was x_region x_parts x_next x_ways x_more x_whole x_isSaved x_changes x_isWithin x_code x_input x_length x_fault x_failed x_signs x_signMany r184.2 x_told x_toldMany)) hW hA (is := [0, 1, 2, 3, 4, 5, 6, 7, 8, 9, 10, 11, 12, 13]) rfl (goV (rest := []) E hK hW [0, 1, 2, 3, 4, 5, 6, 7, 8, 9, 10, 11, 12, 13] rfl rfl (c_X13_skips l g h0 h1 h2 h3 h4 h5 h6 h7 h8 h9 h10 h11 h12 h13 x_g x_kept x_saved x_before x_was x_region x_parts x_next x_ways x_more x_whole x_isSaved x_changes x_isWithin x_code x_input x_length x_fault x_failed x_signs x_signMany r149.2 x_told x_toldMany 108 (hf := hc) H.size) (cwV 1 hts gX13_commandHere_X13_skips rfl rfl rfl (by decide +kernel) ⟨Nat.le_of_ble_eq_true rfl, Nat.le_of_ble_eq_true rfl⟩) 0 rfl rfl rfl hl.1 rfl rfl (Nat.le_of_ble_eq_true rfl) dX13_commandHere_184 ⟨Nat.zero_le _, Nat.zero_le _⟩) rfl rfl (fun H locs hW => ?_)
            refine lv_if_eq (tgt := 199) E.1 E.2.1 dX13_commandHere_187 (by decide) (fun c187 => ?_) (fun c187 => ?_)
            · have h := it c187 h
              refine lv_aload_n E.1 E.2.1 dX13_commandHere_199 rfl (lv_at hl 1 rfl) ?_
              refine lv_bipush (v := 115) E.1 E.2.1 dX13_commandHere_200 (by decide) ?_
              obtain ⟨r202, hc, h⟩ := bx h
              refine goI (world' := (w_X13 g h0 h1 h2 h3 h4 h5 h6 h7 h8 h9 h10 h11 h12 h13 x_g x_kept x_saved x_before x_was x_region x_parts x_next x_ways x_more x_whole x_isSaved x_changes x_isWithin x_code x_input x_length x_fault x_failed x_signs x_signMany r202.2 x_told x_toldMany)) hW hA (is := [0, 1, 2, 3, 4, 5, 6, 7, 8, 9, 10, 11, 12, 13]) rfl (goV (rest := []) E hK hW [0, 1, 2, 3, 4, 5, 6, 7, 8, 9, 10, 11, 12, 13] rfl rfl (c_X13_skips l g h0 h1 h2 h3 h4 h5 h6 h7 h8 h9 h10 h11 h12 h13 x_g x_kept x_saved x_before x_was x_region x_parts x_next x_ways x_more x_whole x_isSaved x_changes x_isWithin x_code x_input x_length x_fault x_failed x_signs x_signMany r184.2 x_told x_toldMany 115 (hf := hc) H.size) (cwV 1 hts gX13_commandHere_X13_skips rfl rfl rfl (by decide +kernel) ⟨Nat.le_of_ble_eq_true rfl, Nat.le_of_ble_eq_true rfl⟩) 0 rfl rfl rfl hl.1 rfl rfl (Nat.le_of_ble_eq_true rfl) dX13_commandHere_202 ⟨Nat.zero_le _, Nat.zero_le _⟩) rfl rfl (fun H locs hW => ?_)
              refine lv_if_eq (tgt := 290) E.1 E.2.1 dX13_commandHere_205 (by decide) (fun c205 => ?_) (fun c205 => ?_)
              · have h := it c205 h
                refine lv_aload_n E.1 E.2.1 dX13_commandHere_290 rfl (lv_at hl 1 rfl) ?_
                refine lv_bipush (v := 119) E.1 E.2.1 dX13_commandHere_291 (by decide) ?_
                obtain ⟨r293, hc, h⟩ := bx h
                refine goI (world' := (w_X13 g h0 h1 h2 h3 h4 h5 h6 h7 h8 h9 h10 h11 h12 h13 x_g x_kept x_saved x_before x_was x_region x_parts x_next x_ways x_more x_whole x_isSaved x_changes x_isWithin x_code x_input x_length x_fault x_failed x_signs x_signMany r293.2 x_told x_toldMany)) hW hA (is := [0, 1, 2, 3, 4, 5, 6, 7, 8, 9, 10, 11, 12, 13]) rfl (goV (rest := []) E hK hW [0, 1, 2, 3, 4, 5, 6, 7, 8, 9, 10, 11, 12, 13] rfl rfl (c_X13_skips l g h0 h1 h2 h3 h4 h5 h6 h7 h8 h9 h10 h11 h12 h13 x_g x_kept x_saved x_before x_was x_region x_parts x_next x_ways x_more x_whole x_isSaved x_changes x_isWithin x_code x_input x_length x_fault x_failed x_signs x_signMany r202.2 x_told x_toldMany 119 (hf := hc) H.size) (cwV 1 hts gX13_commandHere_X13_skips rfl rfl rfl (by decide +kernel) ⟨Nat.le_of_ble_eq_true rfl, Nat.le_of_ble_eq_true rfl⟩) 0 rfl rfl rfl hl.1 rfl rfl (Nat.le_of_ble_eq_true rfl) dX13_commandHere_293 ⟨Nat.zero_le _, Nat.zero_le _⟩) rfl rfl (fun H locs hW => ?_)
                refine lv_if_ne (tgt := 301) E.1 E.2.1 dX13_commandHere_296 (by decide) (fun c296 => ?_) (fun c296 => ?_)
                · have h := ie c296 h
                  obtain ⟨j384, hj384, h⟩ := jox3 h
                  have J384 : ∀ (x_at_384 : Int32) (x_told_384 : Nat → Int32) (s0_384 : Int32) (H : Heap) (locs : List Loc) (ls : Array Slot), j384 x_at_384 x_told_384 s0_384 = some res → Wo g A s H locs (w_X13 g h0 h1 h2 h3 h4 h5 h6 h7 h8 h9 h10 h11 h12 h13 x_g x_kept x_saved x_before x_was x_region x_parts x_next x_ways x_more x_whole x_isSaved x_changes x_isWithin x_code x_input x_length x_fault x_failed x_signs x_signMany x_at_384 x_told_384 x_toldMany) → lv_has ls 2 [] → G_X13_commandHere p l e s m args below meth c g A z h0 h1 h2 h3 h4 h5 h6 h7 h8 h9 h10 h11 h12 h13 x_g x_kept x_saved x_before x_was x_region x_parts x_next x_ways x_more x_whole x_isSaved x_changes x_isWithin x_code x_input x_length x_fault x_failed x_signs x_signMany x_toldMany res H locs 384 ls [.int s0_384] := by
                    intro x_at_384 x_told_384 s0_384 H locs ls h hW hl
                    rw [hj384] at h
                    obtain ⟨hz, h⟩ := ox h
                    obtain rfl := Option.some.inj h
                    exact endI E (nar_z (Decidable.not_not.mp hz)) hW dX13_commandHere_384
                  refine lv_aload_n E.1 E.2.1 dX13_commandHere_301 rfl (lv_at hl 1 rfl) ?_
                  refine lv_bipush (v := 105) E.1 E.2.1 dX13_commandHere_302 (by decide) ?_
                  obtain ⟨r304, hc, h⟩ := bx h
                  refine goI (world' := (w_X13 g h0 h1 h2 h3 h4 h5 h6 h7 h8 h9 h10 h11 h12 h13 x_g x_kept x_saved x_before x_was x_region x_parts x_next x_ways x_more x_whole x_isSaved x_changes x_isWithin x_code x_input x_length x_fault x_failed x_signs x_signMany r304.2 x_told x_toldMany)) hW hA (is := [0, 1, 2, 3, 4, 5, 6, 7, 8, 9, 10, 11, 12, 13]) rfl (goV (rest := []) E hK hW [0, 1, 2, 3, 4, 5, 6, 7, 8, 9, 10, 11, 12, 13] rfl rfl (c_X13_skips l g h0 h1 h2 h3 h4 h5 h6 h7 h8 h9 h10 h11 h12 h13 x_g x_kept x_saved x_before x_was x_region x_parts x_next x_ways x_more x_whole x_isSaved x_changes x_isWithin x_code x_input x_length x_fault x_failed x_signs x_signMany r293.2 x_told x_toldMany 105 (hf := hc) H.size) (cwV 1 hts gX13_commandHere_X13_skips rfl rfl rfl (by decide +kernel) ⟨Nat.le_of_ble_eq_true rfl, Nat.le_of_ble_eq_true rfl⟩) 0 rfl rfl rfl hl.1 rfl rfl (Nat.le_of_ble_eq_true rfl) dX13_commandHere_304 ⟨Nat.zero_le _, Nat.zero_le _⟩) rfl rfl (fun H locs hW => ?_)
                  refine lv_if_eq (tgt := 338) E.1 E.2.1 dX13_commandHere_307 (by decide) (fun c307 => ?_) (fun c307 => ?_)
                  · have h := it c307 h
                    obtain ⟨j383, hj383, h⟩ := jox2 h
                    have J383 : ∀ (x_at_383 : Int32) (x_told_383 : Nat → Int32) (H : Heap) (locs : List Loc) (ls : Array Slot), j383 x_at_383 x_told_383 = some res → Wo g A s H locs (w_X13 g h0 h1 h2 h3 h4 h5 h6 h7 h8 h9 h10 h11 h12 h13 x_g x_kept x_saved x_before x_was x_region x_parts x_next x_ways x_more x_whole x_isSaved x_changes x_isWithin x_code x_input x_length x_fault x_failed x_signs x_signMany x_at_383 x_told_383 x_toldMany) → lv_has ls 2 [] → G_X13_commandHere p l e s m args below meth c g A z h0 h1 h2 h3 h4 h5 h6 h7 h8 h9 h10 h11 h12 h13 x_g x_kept x_saved x_before x_was x_region x_parts x_next x_ways x_more x_whole x_isSaved x_changes x_isWithin x_code x_input x_length x_fault x_failed x_signs x_signMany x_toldMany res H locs 383 ls [] := by
                      intro x_at_383 x_told_383 H locs ls h hW hl
                      rw [hj383] at h
                      refine lv_iconst (v := 0) E.1 E.2.1 dX13_commandHere_383 (by decide) ?_
                      exact J384 x_at_383 x_told_383 0 H locs ls h hW (lv_sub hl [] rfl)
                    refine lv_aload_n E.1 E.2.1 dX13_commandHere_338 rfl (lv_at hl 1 rfl) ?_
                    refine lv_iconst (v := 5) E.1 E.2.1 dX13_commandHere_339 (by decide) ?_
                    refine wLdcS hz sl_X13_246 E dX13_commandHere_340 ?_
                    obtain ⟨r342, hc, h⟩ := bx h
                    refine goI (world' := (w_X13 g h0 h1 h2 h3 h4 h5 h6 h7 h8 h9 h10 h11 h12 h13 x_g x_kept x_saved x_before x_was x_region x_parts x_next x_ways x_more x_whole x_isSaved x_changes x_isWithin x_code x_input x_length x_fault x_failed x_signs x_signMany r342.2.1 r342.2.2 x_toldMany)) hW hA (is := [0, 1, 2, 3, 4, 5, 6, 7, 8, 9, 10, 11, 12, 13]) rfl (goVX (rest := []) E hK hz hC hA hW [0, 1, 2, 3, 4, 5, 6, 7, 8, 9, 10, 11, 12, 13] rfl rfl (c_X13_isWord l g z "PaperStormModel" 246 h0 h1 h2 h3 h4 h5 h6 h7 h8 h9 h10 h11 h12 h13 x_g x_kept x_saved x_before x_was x_region x_parts x_next x_ways x_more x_whole x_isSaved x_changes x_isWithin x_code x_input x_length x_fault x_failed x_signs x_signMany r304.2 x_told x_toldMany 5 ([101, 105, 103, 104, 116]) st_X13_246 (hf := hc) H.size) (cwV 2 hts gX13_commandHere_X13_isWord rfl rfl rfl (by decide +kernel) ⟨Nat.le_of_ble_eq_true rfl, Nat.le_of_ble_eq_true rfl⟩) 0 rfl rfl rfl hl.1 rfl rfl (Nat.le_of_ble_eq_true rfl) dX13_commandHere_342 ⟨Nat.zero_le _, Nat.zero_le _⟩) rfl rfl (fun H locs hW => ?_)
                    refine lv_if_eq (tgt := 383) E.1 E.2.1 dX13_commandHere_345 (by decide) (fun c345 => ?_) (fun c345 => ?_)
                    · have h := it c345 h
                      exact J383 r342.2.1 r342.2.2 H locs ls h hW (lv_sub hl [] rfl)
                    · have h := ie c345 h
                      refine lv_aload_n E.1 E.2.1 dX13_commandHere_348 rfl (lv_at hl 1 rfl) ?_
                      refine lv_iload_n E.1 E.2.1 dX13_commandHere_349 rfl (lv_at hl 0 rfl) ?_
                      refine lv_iconst (v := 1) E.1 E.2.1 dX13_commandHere_350 (by decide) ?_
                      obtain ⟨r351, hc, h⟩ := bx h
                      refine goI (world' := (w_X13 g h0 h1 h2 h3 h4 h5 h6 h7 h8 h9 h10 h11 h12 h13 x_g x_kept x_saved x_before x_was x_region x_parts x_next x_ways x_more x_whole x_isSaved x_changes x_isWithin x_code x_input x_length x_fault x_failed x_signs x_signMany r351.2.1 r351.2.2 x_toldMany)) hW hA (is := [0, 1, 2, 3, 4, 5, 6, 7, 8, 9, 10, 11, 12, 13]) rfl (goV (rest := []) E hK hW [0, 1, 2, 3, 4, 5, 6, 7, 8, 9, 10, 11, 12, 13] rfl rfl (c_X13_figures l g h0 h1 h2 h3 h4 h5 h6 h7 h8 h9 h10 h11 h12 h13 x_g x_kept x_saved x_before x_was x_region x_parts x_next x_ways x_more x_whole x_isSaved x_changes x_isWithin x_code x_input x_length x_fault x_failed x_signs x_signMany r342.2.1 r342.2.2 x_toldMany ((4 * x_toldMany) + 1) 1 (hf := hc) H.size) (cwV 2 hts gX13_commandHere_X13_figures rfl rfl rfl (by decide +kernel) ⟨Nat.le_of_ble_eq_true rfl, Nat.le_of_ble_eq_true rfl⟩) 0 rfl rfl rfl hl.1 rfl rfl (Nat.le_of_ble_eq_true rfl) dX13_commandHere_351 ⟨Nat.zero_le _, Nat.zero_le _⟩) rfl rfl (fun H locs hW => ?_)
                      refine lv_if_eq (tgt := 383) E.1 E.2.1 dX13_commandHere_354 (by decide) (fun c354 => ?_) (fun c354 => ?_)
                      · have h := it c354 h
                        exact J383 r351.2.1 r351.2.2 H locs ls h hW (lv_sub hl [] rfl)
                      · have h := ie c354 h
                        refine lv_aload_n E.1 E.2.1 dX13_commandHere_357 rfl (lv_at hl 1 rfl) ?_
                        refine lv_iload_n E.1 E.2.1 dX13_commandHere_358 rfl (lv_at hl 0 rfl) ?_
                        refine lv_iconst (v := 1) E.1 E.2.1 dX13_commandHere_359 (by decide) ?_
                        refine lv_iadd E.1 E.2.1 dX13_commandHere_360 ?_
                        refine lv_iconst (v := 1) E.1 E.2.1 dX13_commandHere_361 (by decide) ?_
                        obtain ⟨r362, hc, h⟩ := bx h
                        refine goI (world' := (w_X13 g h0 h1 h2 h3 h4 h5 h6 h7 h8 h9 h10 h11 h12 h13 x_g x_kept x_saved x_before x_was x_region x_parts x_next x_ways x_more x_whole x_isSaved x_changes x_isWithin x_code x_input x_length x_fault x_failed x_signs x_signMany r362.2.1 r362.2.2 x_toldMany)) hW hA (is := [0, 1, 2, 3, 4, 5, 6, 7, 8, 9, 10, 11, 12, 13]) rfl (goV (rest := []) E hK hW [0, 1, 2, 3, 4, 5, 6, 7, 8, 9, 10, 11, 12, 13] rfl rfl (c_X13_figures l g h0 h1 h2 h3 h4 h5 h6 h7 h8 h9 h10 h11 h12 h13 x_g x_kept x_saved x_before x_was x_region x_parts x_next x_ways x_more x_whole x_isSaved x_changes x_isWithin x_code x_input x_length x_fault x_failed x_signs x_signMany r351.2.1 r351.2.2 x_toldMany (((4 * x_toldMany) + 1) + 1) 1 (hf := hc) H.size) (cwV 2 hts gX13_commandHere_X13_figures rfl rfl rfl (by decide +kernel) ⟨Nat.le_of_ble_eq_true rfl, Nat.le_of_ble_eq_true rfl⟩) 0 rfl rfl rfl hl.1 rfl rfl (Nat.le_of_ble_eq_true rfl) dX13_commandHere_362 ⟨Nat.zero_le _, Nat.zero_le _⟩) rfl rfl (fun H locs hW => ?_)
                        refine lv_if_eq (tgt := 383) E.1 E.2.1 dX13_commandHere_365 (by decide) (fun c365 => ?_) (fun c365 => ?_)
                        · have h := it c365 h
                          exact J383 r362.2.1 r362.2.2 H locs ls h hW (lv_sub hl [] rfl)
                        · have h := ie c365 h
                          refine lv_aload_n E.1 E.2.1 dX13_commandHere_368 rfl (lv_at hl 1 rfl) ?_
                          refine lv_iload_n E.1 E.2.1 dX13_commandHere_369 rfl (lv_at hl 0 rfl) ?_
                          refine lv_iconst (v := 2) E.1 E.2.1 dX13_commandHere_370 (by decide) ?_
                          refine lv_iadd E.1 E.2.1 dX13_commandHere_371 ?_
                          refine lv_iconst (v := 1) E.1 E.2.1 dX13_commandHere_372 (by decide) ?_
                          obtain ⟨r373, hc, h⟩ := bx h
                          refine goI (world' := (w_X13 g h0 h1 h2 h3 h4 h5 h6 h7 h8 h9 h10 h11 h12 h13 x_g x_kept x_saved x_before x_was x_region x_parts x_next x_ways x_more x_whole x_isSaved x_changes x_isWithin x_code x_input x_length x_fault x_failed x_signs x_signMany r373.2.1 r373.2.2 x_toldMany)) hW hA (is := [0, 1, 2, 3, 4, 5, 6, 7, 8, 9, 10, 11, 12, 13]) rfl (goV (rest := []) E hK hW [0, 1, 2, 3, 4, 5, 6, 7, 8, 9, 10, 11, 12, 13] rfl rfl (c_X13_figures l g h0 h1 h2 h3 h4 h5 h6 h7 h8 h9 h10 h11 h12 h13 x_g x_kept x_saved x_before x_was x_region x_parts x_next x_ways x_more x_whole x_isSaved x_changes x_isWithin x_code x_input x_length x_fault x_failed x_signs x_signMany r362.2.1 r362.2.2 x_toldMany (((4 * x_toldMany) + 1) + 2) 1 (hf := hc) H.size) (cwV 2 hts gX13_commandHere_X13_figures rfl rfl rfl (by decide +kernel) ⟨Nat.le_of_ble_eq_true rfl, Nat.le_of_ble_eq_true rfl⟩) 0 rfl rfl rfl hl.1 rfl rfl (Nat.le_of_ble_eq_true rfl) dX13_commandHere_373 ⟨Nat.zero_le _, Nat.zero_le _⟩) rfl rfl (fun H locs hW => ?_)
                          refine lv_if_eq (tgt := 383) E.1 E.2.1 dX13_commandHere_376 (by decide) (fun c376 => ?_) (fun c376 => ?_)
                          · have h := it c376 h
                            exact J383 r373.2.1 r373.2.2 H locs ls h hW (lv_sub hl [] rfl)
                          · have h := ie c376 h
                            refine lv_iconst (v := 1) E.1 E.2.1 dX13_commandHere_379 (by decide) ?_
                            refine lv_goto (tgt := 384) E.1 E.2.1 dX13_commandHere_380 (by decide) ?_
                            exact J384 r373.2.1 r373.2.2 1 H locs ls h hW (lv_sub hl [] rfl)
                  · have h := ie c307 h
                    obtain ⟨j334, hj334, h⟩ := jox2 h
                    have J334 : ∀ (x_at_334 : Int32) (x_told_334 : Nat → Int32) (H : Heap) (locs : List Loc) (ls : Array Slot), j334 x_at_334 x_told_334 = some res → Wo g A s H locs (w_X13 g h0 h1 h2 h3 h4 h5 h6 h7 h8 h9 h10 h11 h12 h13 x_g x_kept x_saved x_before x_was x_region x_parts x_next x_ways x_more x_whole x_isSaved x_changes x_isWithin x_code x_input x_length x_fault x_failed x_signs x_signMany x_at_334 x_told_334 x_toldMany) → lv_has ls 2 [] → G_X13_commandHere p l e s m args below meth c g A z h0 h1 h2 h3 h4 h5 h6 h7 h8 h9 h10 h11 h12 h13 x_g x_kept x_saved x_before x_was x_region x_parts x_next x_ways x_more x_whole x_isSaved x_changes x_isWithin x_code x_input x_length x_fault x_failed x_signs x_signMany x_toldMany res H locs 334 ls [] := by
                      intro x_at_334 x_told_334 H locs ls h hW hl
                      rw [hj334] at h
                      refine lv_iconst (v := 0) E.1 E.2.1 dX13_commandHere_334 (by decide) ?_
                      refine lv_goto (tgt := 384) E.1 E.2.1 dX13_commandHere_335 (by decide) ?_
                      exact J384 x_at_334 x_told_334 0 H locs ls h hW (lv_sub hl [] rfl)
                    refine lv_aload_n E.1 E.2.1 dX13_commandHere_310 rfl (lv_at hl 1 rfl) ?_
                    refine lv_bipush (v := 7) E.1 E.2.1 dX13_commandHere_311 (by decide) ?_
                    refine wLdcS hz sl_X13_244 E dX13_commandHere_313 ?_
                    obtain ⟨r315, hc, h⟩ := bx h
                    refine goI (world' := (w_X13 g h0 h1 h2 h3 h4 h5 h6 h7 h8 h9 h10 h11 h12 h13 x_g x_kept x_saved x_before x_was x_region x_parts x_next x_ways x_more x_whole x_isSaved x_changes x_isWithin x_code x_input x_length x_fault x_failed x_signs x_signMany r315.2.1 r315.2.2 x_toldMany)) hW hA (is := [0, 1, 2, 3, 4, 5, 6, 7, 8, 9, 10, 11, 12, 13]) rfl (goVX (rest := []) E hK hz hC hA hW [0, 1, 2, 3, 4, 5, 6, 7, 8, 9, 10, 11, 12, 13] rfl rfl (c_X13_isWord l g z "PaperStormModel" 244 h0 h1 h2 h3 h4 h5 h6 h7 h8 h9 h10 h11 h12 h13 x_g x_kept x_saved x_before x_was x_region x_parts x_next x_ways x_more x_whole x_isSaved x_changes x_isWithin x_code x_input x_length x_fault x_failed x_signs x_signMany r304.2 x_told x_toldMany 7 ([116, 104, 100, 114, 97, 119]) st_X13_244 (hf := hc) H.size) (cwV 2 hts gX13_commandHere_X13_isWord rfl rfl rfl (by decide +kernel) ⟨Nat.le_of_ble_eq_true rfl, Nat.le_of_ble_eq_true rfl⟩) 0 rfl rfl rfl hl.1 rfl rfl (Nat.le_of_ble_eq_true rfl) dX13_commandHere_315 ⟨Nat.zero_le _, Nat.zero_le _⟩) rfl rfl (fun H locs hW => ?_)
                    refine lv_if_eq (tgt := 334) E.1 E.2.1 dX13_commandHere_318 (by decide) (fun c318 => ?_) (fun c318 => ?_)
                    · have h := it c318 h
                      exact J334 r315.2.1 r315.2.2 H locs ls h hW (lv_sub hl [] rfl)
                    · have h := ie c318 h
                      refine lv_aload_n E.1 E.2.1 dX13_commandHere_321 rfl (lv_at hl 1 rfl) ?_
                      refine lv_iload_n E.1 E.2.1 dX13_commandHere_322 rfl (lv_at hl 0 rfl) ?_
                      refine lv_iconst (v := 1) E.1 E.2.1 dX13_commandHere_323 (by decide) ?_
                      obtain ⟨r324, hc, h⟩ := bx h
                      refine goI (world' := (w_X13 g h0 h1 h2 h3 h4 h5 h6 h7 h8 h9 h10 h11 h12 h13 x_g x_kept x_saved x_before x_was x_region x_parts x_next x_ways x_more x_whole x_isSaved x_changes x_isWithin x_code x_input x_length x_fault x_failed x_signs x_signMany r324.2.1 r324.2.2 x_toldMany)) hW hA (is := [0, 1, 2, 3, 4, 5, 6, 7, 8, 9, 10, 11, 12, 13]) rfl (goV (rest := []) E hK hW [0, 1, 2, 3, 4, 5, 6, 7, 8, 9, 10, 11, 12, 13] rfl rfl (c_X13_figures l g h0 h1 h2 h3 h4 h5 h6 h7 h8 h9 h10 h11 h12 h13 x_g x_kept x_saved x_before x_was x_region x_parts x_next x_ways x_more x_whole x_isSaved x_changes x_isWithin x_code x_input x_length x_fault x_failed x_signs x_signMany r315.2.1 r315.2.2 x_toldMany ((4 * x_toldMany) + 1) 1 (hf := hc) H.size) (cwV 2 hts gX13_commandHere_X13_figures rfl rfl rfl (by decide +kernel) ⟨Nat.le_of_ble_eq_true rfl, Nat.le_of_ble_eq_true rfl⟩) 0 rfl rfl rfl hl.1 rfl rfl (Nat.le_of_ble_eq_true rfl) dX13_commandHere_324 ⟨Nat.zero_le _, Nat.zero_le _⟩) rfl rfl (fun H locs hW => ?_)
                      refine lv_if_eq (tgt := 334) E.1 E.2.1 dX13_commandHere_327 (by decide) (fun c327 => ?_) (fun c327 => ?_)
                      · have h := it c327 h
                        exact J334 r324.2.1 r324.2.2 H locs ls h hW (lv_sub hl [] rfl)
                      · have h := ie c327 h
                        refine lv_iconst (v := 1) E.1 E.2.1 dX13_commandHere_330 (by decide) ?_
                        refine lv_goto (tgt := 384) E.1 E.2.1 dX13_commandHere_331 (by decide) ?_
                        exact J384 r324.2.1 r324.2.2 1 H locs ls h hW (lv_sub hl [] rfl)
                · have h := it c296 h
                  refine lv_iconst (v := 0) E.1 E.2.1 dX13_commandHere_299 (by decide) ?_
                  obtain rfl := Option.some.inj h
                  exact endI E (show narrow .boolean (.int 0) = .int 0 by decide) hW dX13_commandHere_300
              · have h := ie c205 h
                obtain ⟨j289, hj289, h⟩ := jox3 h
                have J289 : ∀ (x_at_289 : Int32) (x_told_289 : Nat → Int32) (s0_289 : Int32) (H : Heap) (locs : List Loc) (ls : Array Slot), j289 x_at_289 x_told_289 s0_289 = some res → Wo g A s H locs (w_X13 g h0 h1 h2 h3 h4 h5 h6 h7 h8 h9 h10 h11 h12 h13 x_g x_kept x_saved x_before x_was x_region x_parts x_next x_ways x_more x_whole x_isSaved x_changes x_isWithin x_code x_input x_length x_fault x_failed x_signs x_signMany x_at_289 x_told_289 x_toldMany) → lv_has ls 2 [] → G_X13_commandHere p l e s m args below meth c g A z h0 h1 h2 h3 h4 h5 h6 h7 h8 h9 h10 h11 h12 h13 x_g x_kept x_saved x_before x_was x_region x_parts x_next x_ways x_more x_whole x_isSaved x_changes x_isWithin x_code x_input x_length x_fault x_failed x_signs x_signMany x_toldMany res H locs 289 ls [.int s0_289] := by
                  intro x_at_289 x_told_289 s0_289 H locs ls h hW hl
                  rw [hj289] at h
                  obtain ⟨hz, h⟩ := ox h
                  obtain rfl := Option.some.inj h
                  exact endI E (nar_z (Decidable.not_not.mp hz)) hW dX13_commandHere_289
                refine lv_aload_n E.1 E.2.1 dX13_commandHere_208 rfl (lv_at hl 1 rfl) ?_
                refine lv_bipush (v := 104) E.1 E.2.1 dX13_commandHere_209 (by decide) ?_
                obtain ⟨r211, hc, h⟩ := bx h
                refine goI (world' := (w_X13 g h0 h1 h2 h3 h4 h5 h6 h7 h8 h9 h10 h11 h12 h13 x_g x_kept x_saved x_before x_was x_region x_parts x_next x_ways x_more x_whole x_isSaved x_changes x_isWithin x_code x_input x_length x_fault x_failed x_signs x_signMany r211.2 x_told x_toldMany)) hW hA (is := [0, 1, 2, 3, 4, 5, 6, 7, 8, 9, 10, 11, 12, 13]) rfl (goV (rest := []) E hK hW [0, 1, 2, 3, 4, 5, 6, 7, 8, 9, 10, 11, 12, 13] rfl rfl (c_X13_skips l g h0 h1 h2 h3 h4 h5 h6 h7 h8 h9 h10 h11 h12 h13 x_g x_kept x_saved x_before x_was x_region x_parts x_next x_ways x_more x_whole x_isSaved x_changes x_isWithin x_code x_input x_length x_fault x_failed x_signs x_signMany r202.2 x_told x_toldMany 104 (hf := hc) H.size) (cwV 1 hts gX13_commandHere_X13_skips rfl rfl rfl (by decide +kernel) ⟨Nat.le_of_ble_eq_true rfl, Nat.le_of_ble_eq_true rfl⟩) 0 rfl rfl rfl hl.1 rfl rfl (Nat.le_of_ble_eq_true rfl) dX13_commandHere_211 ⟨Nat.zero_le _, Nat.zero_le _⟩) rfl rfl (fun H locs hW => ?_)
                refine lv_if_eq (tgt := 243) E.1 E.2.1 dX13_commandHere_214 (by decide) (fun c214 => ?_) (fun c214 => ?_)
                · have h := it c214 h
                  obtain ⟨j288, hj288, h⟩ := jox2 h
                  have J288 : ∀ (x_at_288 : Int32) (x_told_288 : Nat → Int32) (H : Heap) (locs : List Loc) (ls : Array Slot), j288 x_at_288 x_told_288 = some res → Wo g A s H locs (w_X13 g h0 h1 h2 h3 h4 h5 h6 h7 h8 h9 h10 h11 h12 h13 x_g x_kept x_saved x_before x_was x_region x_parts x_next x_ways x_more x_whole x_isSaved x_changes x_isWithin x_code x_input x_length x_fault x_failed x_signs x_signMany x_at_288 x_told_288 x_toldMany) → lv_has ls 2 [] → G_X13_commandHere p l e s m args below meth c g A z h0 h1 h2 h3 h4 h5 h6 h7 h8 h9 h10 h11 h12 h13 x_g x_kept x_saved x_before x_was x_region x_parts x_next x_ways x_more x_whole x_isSaved x_changes x_isWithin x_code x_input x_length x_fault x_failed x_signs x_signMany x_toldMany res H locs 288 ls [] := by
                    intro x_at_288 x_told_288 H locs ls h hW hl
                    rw [hj288] at h
                    refine lv_iconst (v := 0) E.1 E.2.1 dX13_commandHere_288 (by decide) ?_
                    exact J289 x_at_288 x_told_288 0 H locs ls h hW (lv_sub hl [] rfl)
                  refine lv_aload_n E.1 E.2.1 dX13_commandHere_243 rfl (lv_at hl 1 rfl) ?_
                  refine lv_iconst (v := 0) E.1 E.2.1 dX13_commandHere_244 (by decide) ?_
                  refine wLdcS hz sl_X13_242 E dX13_commandHere_245 ?_
                  obtain ⟨r247, hc, h⟩ := bx h
                  refine goI (world' := (w_X13 g h0 h1 h2 h3 h4 h5 h6 h7 h8 h9 h10 h11 h12 h13 x_g x_kept x_saved x_before x_was x_region x_parts x_next x_ways x_more x_whole x_isSaved x_changes x_isWithin x_code x_input x_length x_fault x_failed x_signs x_signMany r247.2.1 r247.2.2 x_toldMany)) hW hA (is := [0, 1, 2, 3, 4, 5, 6, 7, 8, 9, 10, 11, 12, 13]) rfl (goVX (rest := []) E hK hz hC hA hW [0, 1, 2, 3, 4, 5, 6, 7, 8, 9, 10, 11, 12, 13] rfl rfl (c_X13_isWord l g z "PaperStormModel" 242 h0 h1 h2 h3 h4 h5 h6 h7 h8 h9 h10 h11 h12 h13 x_g x_kept x_saved x_before x_was x_region x_parts x_next x_ways x_more x_whole x_isSaved x_changes x_isWithin x_code x_input x_length x_fault x_failed x_signs x_signMany r211.2 x_told x_toldMany 0 ([101, 116]) st_X13_242 (hf := hc) H.size) (cwV 2 hts gX13_commandHere_X13_isWord rfl rfl rfl (by decide +kernel) ⟨Nat.le_of_ble_eq_true rfl, Nat.le_of_ble_eq_true rfl⟩) 0 rfl rfl rfl hl.1 rfl rfl (Nat.le_of_ble_eq_true rfl) dX13_commandHere_247 ⟨Nat.zero_le _, Nat.zero_le _⟩) rfl rfl (fun H locs hW => ?_)
                  refine lv_if_eq (tgt := 288) E.1 E.2.1 dX13_commandHere_250 (by decide) (fun c250 => ?_) (fun c250 => ?_)
                  · have h := it c250 h
                    exact J288 r247.2.1 r247.2.2 H locs ls h hW (lv_sub hl [] rfl)
                  · have h := ie c250 h
                    refine lv_aload_n E.1 E.2.1 dX13_commandHere_253 rfl (lv_at hl 1 rfl) ?_
                    refine lv_iload_n E.1 E.2.1 dX13_commandHere_254 rfl (lv_at hl 0 rfl) ?_
                    refine lv_iconst (v := 1) E.1 E.2.1 dX13_commandHere_255 (by decide) ?_
                    obtain ⟨r256, hc, h⟩ := bx h
                    refine goI (world' := (w_X13 g h0 h1 h2 h3 h4 h5 h6 h7 h8 h9 h10 h11 h12 h13 x_g x_kept x_saved x_before x_was x_region x_parts x_next x_ways x_more x_whole x_isSaved x_changes x_isWithin x_code x_input x_length x_fault x_failed x_signs x_signMany r256.2.1 r256.2.2 x_toldMany)) hW hA (is := [0, 1, 2, 3, 4, 5, 6, 7, 8, 9, 10, 11, 12, 13]) rfl (goV (rest := []) E hK hW [0, 1, 2, 3, 4, 5, 6, 7, 8, 9, 10, 11, 12, 13] rfl rfl (c_X13_figures l g h0 h1 h2 h3 h4 h5 h6 h7 h8 h9 h10 h11 h12 h13 x_g x_kept x_saved x_before x_was x_region x_parts x_next x_ways x_more x_whole x_isSaved x_changes x_isWithin x_code x_input x_length x_fault x_failed x_signs x_signMany r247.2.1 r247.2.2 x_toldMany ((4 * x_toldMany) + 1) 1 (hf := hc) H.size) (cwV 2 hts gX13_commandHere_X13_figures rfl rfl rfl (by decide +kernel) ⟨Nat.le_of_ble_eq_true rfl, Nat.le_of_ble_eq_true rfl⟩) 0 rfl rfl rfl hl.1 rfl rfl (Nat.le_of_ble_eq_true rfl) dX13_commandHere_256 ⟨Nat.zero_le _, Nat.zero_le _⟩) rfl rfl (fun H locs hW => ?_)
                    refine lv_if_eq (tgt := 288) E.1 E.2.1 dX13_commandHere_259 (by decide) (fun c259 => ?_) (fun c259 => ?_)
                    · have h := it c259 h
                      exact J288 r256.2.1 r256.2.2 H locs ls h hW (lv_sub hl [] rfl)
                    · have h := ie c259 h
                      refine lv_aload_n E.1 E.2.1 dX13_commandHere_262 rfl (lv_at hl 1 rfl) ?_
                      refine lv_iload_n E.1 E.2.1 dX13_commandHere_263 rfl (lv_at hl 0 rfl) ?_
                      refine lv_iconst (v := 1) E.1 E.2.1 dX13_commandHere_264 (by decide) ?_
                      refine lv_iadd E.1 E.2.1 dX13_commandHere_265 ?_
                      refine lv_iconst (v := 1) E.1 E.2.1 dX13_commandHere_266 (by decide) ?_
                      obtain ⟨r267, hc, h⟩ := bx h
                      refine goI (world' := (w_X13 g h0 h1 h2 h3 h4 h5 h6 h7 h8 h9 h10 h11 h12 h13 x_g x_kept x_saved x_before x_was x_region x_parts x_next x_ways x_more x_whole x_isSaved x_changes x_isWithin x_code x_input x_length x_fault x_failed x_signs x_signMany r267.2.1 r267.2.2 x_toldMany)) hW hA (is := [0, 1, 2, 3, 4, 5, 6, 7, 8, 9, 10, 11, 12, 13]) rfl (goV (rest := []) E hK hW [0, 1, 2, 3, 4, 5, 6, 7, 8, 9, 10, 11, 12, 13] rfl rfl (c_X13_figures l g h0 h1 h2 h3 h4 h5 h6 h7 h8 h9 h10 h11 h12 h13 x_g x_kept x_saved x_before x_was x_region x_parts x_next x_ways x_more x_whole x_isSaved x_changes x_isWithin x_code x_input x_length x_fault x_failed x_signs x_signMany r256.2.1 r256.2.2 x_toldMany (((4 * x_toldMany) + 1) + 1) 1 (hf := hc) H.size) (cwV 2 hts gX13_commandHere_X13_figures rfl rfl rfl (by decide +kernel) ⟨Nat.le_of_ble_eq_true rfl, Nat.le_of_ble_eq_true rfl⟩) 0 rfl rfl rfl hl.1 rfl rfl (Nat.le_of_ble_eq_true rfl) dX13_commandHere_267 ⟨Nat.zero_le _, Nat.zero_le _⟩) rfl rfl (fun H locs hW => ?_)
                      refine lv_if_eq (tgt := 288) E.1 E.2.1 dX13_commandHere_270 (by decide) (fun c270 => ?_) (fun c270 => ?_)
                      · have h := it c270 h
                        exact J288 r267.2.1 r267.2.2 H locs ls h hW (lv_sub hl [] rfl)
                      · have h := ie c270 h
                        refine lv_aload_n E.1 E.2.1 dX13_commandHere_273 rfl (lv_at hl 1 rfl) ?_
                        refine lv_iload_n E.1 E.2.1 dX13_commandHere_274 rfl (lv_at hl 0 rfl) ?_
                        refine lv_iconst (v := 2) E.1 E.2.1 dX13_commandHere_275 (by decide) ?_
                        refine lv_iadd E.1 E.2.1 dX13_commandHere_276 ?_
                        refine lv_iconst (v := 2) E.1 E.2.1 dX13_commandHere_277 (by decide) ?_
                        obtain ⟨r278, hc, h⟩ := bx h
                        refine goI (world' := (w_X13 g h0 h1 h2 h3 h4 h5 h6 h7 h8 h9 h10 h11 h12 h13 x_g x_kept x_saved x_before x_was x_region x_parts x_next x_ways x_more x_whole x_isSaved x_changes x_isWithin x_code x_input x_length x_fault x_failed x_signs x_signMany r278.2.1 r278.2.2 x_toldMany)) hW hA (is := [0, 1, 2, 3, 4, 5, 6, 7, 8, 9, 10, 11, 12, 13]) rfl (goV (rest := []) E hK hW [0, 1, 2, 3, 4, 5, 6, 7, 8, 9, 10, 11, 12, 13] rfl rfl (c_X13_figures l g h0 h1 h2 h3 h4 h5 h6 h7 h8 h9 h10 h11 h12 h13 x_g x_kept x_saved x_before x_was x_region x_parts x_next x_ways x_more x_whole x_isSaved x_changes x_isWithin x_code x_input x_length x_fault x_failed x_signs x_signMany r267.2.1 r267.2.2 x_toldMany (((4 * x_toldMany) + 1) + 2) 2 (hf := hc) H.size) (cwV 2 hts gX13_commandHere_X13_figures rfl rfl rfl (by decide +kernel) ⟨Nat.le_of_ble_eq_true rfl, Nat.le_of_ble_eq_true rfl⟩) 0 rfl rfl rfl hl.1 rfl rfl (Nat.le_of_ble_eq_true rfl) dX13_commandHere_278 ⟨Nat.zero_le _, Nat.zero_le _⟩) rfl rfl (fun H locs hW => ?_)
                        refine lv_if_eq (tgt := 288) E.1 E.2.1 dX13_commandHere_281 (by decide) (fun c281 => ?_) (fun c281 => ?_)
                        · have h := it c281 h
                          exact J288 r278.2.1 r278.2.2 H locs ls h hW (lv_sub hl [] rfl)
                        · have h := ie c281 h
                          refine lv_iconst (v := 1) E.1 E.2.1 dX13_commandHere_284 (by decide) ?_
                          refine lv_goto (tgt := 289) E.1 E.2.1 dX13_commandHere_285 (by decide) ?_
                          exact J289 r278.2.1 r278.2.2 1 H locs ls h hW (lv_sub hl [] rfl)
                · have h := ie c214 h
                  obtain ⟨j239, hj239, h⟩ := jox2 h
                  have J239 : ∀ (x_at_239 : Int32) (x_told_239 : Nat → Int32) (H : Heap) (locs : List Loc) (ls : Array Slot), j239 x_at_239 x_told_239 = some res → Wo g A s H locs (w_X13 g h0 h1 h2 h3 h4 h5 h6 h7 h8 h9 h10 h11 h12 h13 x_g x_kept x_saved x_before x_was x_region x_parts x_next x_ways x_more x_whole x_isSaved x_changes x_isWithin x_code x_input x_length x_fault x_failed x_signs x_signMany x_at_239 x_told_239 x_toldMany) → lv_has ls 2 [] → G_X13_commandHere p l e s m args below meth c g A z h0 h1 h2 h3 h4 h5 h6 h7 h8 h9 h10 h11 h12 h13 x_g x_kept x_saved x_before x_was x_region x_parts x_next x_ways x_more x_whole x_isSaved x_changes x_isWithin x_code x_input x_length x_fault x_failed x_signs x_signMany x_toldMany res H locs 239 ls [] := by
                    intro x_at_239 x_told_239 H locs ls h hW hl
                    rw [hj239] at h
                    refine lv_iconst (v := 0) E.1 E.2.1 dX13_commandHere_239 (by decide) ?_
                    refine lv_goto (tgt := 289) E.1 E.2.1 dX13_commandHere_240 (by decide) ?_
                    exact J289 x_at_239 x_told_239 0 H locs ls h hW (lv_sub hl [] rfl)
                  refine lv_aload_n E.1 E.2.1 dX13_commandHere_217 rfl (lv_at hl 1 rfl) ?_
                  refine lv_iconst (v := 3) E.1 E.2.1 dX13_commandHere_218 (by decide) ?_
                  refine wLdcS hz sl_X13_237 E dX13_commandHere_219 ?_
                  obtain ⟨r221, hc, h⟩ := bx h
                  refine goI (world' := (w_X13 g h0 h1 h2 h3 h4 h5 h6 h7 h8 h9 h10 h11 h12 h13 x_g x_kept x_saved x_before x_was x_region x_parts x_next x_ways x_more x_whole x_isSaved x_changes x_isWithin x_code x_input x_length x_fault x_failed x_signs x_signMany r221.2.1 r221.2.2 x_toldMany)) hW hA (is := [0, 1, 2, 3, 4, 5, 6, 7, 8, 9, 10, 11, 12, 13]) rfl (goVX (rest := []) E hK hz hC hA hW [0, 1, 2, 3, 4, 5, 6, 7, 8, 9, 10, 11, 12, 13] rfl rfl (c_X13_isWord l g z "PaperStormModel" 237 h0 h1 h2 h3 h4 h5 h6 h7 h8 h9 h10 h11 h12 h13 x_g x_kept x_saved x_before x_was x_region x_parts x_next x_ways x_more x_whole x_isSaved x_changes x_isWithin x_code x_input x_length x_fault x_failed x_signs x_signMany r211.2 x_told x_toldMany 3 ([105, 102, 116, 32]) st_X13_237 (hf := hc) H.size) (cwV 2 hts gX13_commandHere_X13_isWord rfl rfl rfl (by decide +kernel) ⟨Nat.le_of_ble_eq_true rfl, Nat.le_of_ble_eq_true rfl⟩) 0 rfl rfl rfl hl.1 rfl rfl (Nat.le_of_ble_eq_true rfl) dX13_commandHere_221 ⟨Nat.zero_le _, Nat.zero_le _⟩) rfl rfl (fun H locs hW => ?_)
                  refine lv_if_eq (tgt := 239) E.1 E.2.1 dX13_commandHere_224 (by decide) (fun c224 => ?_) (fun c224 => ?_)
                  · have h := it c224 h
                    exact J239 r221.2.1 r221.2.2 H locs ls h hW (lv_sub hl [] rfl)
                  · have h := ie c224 h
                    refine lv_aload_n E.1 E.2.1 dX13_commandHere_227 rfl (lv_at hl 1 rfl) ?_
                    refine lv_iload_n E.1 E.2.1 dX13_commandHere_228 rfl (lv_at hl 0 rfl) ?_
                    obtain ⟨r229, hc, h⟩ := bx h
                    refine goI (world' := (w_X13 g h0 h1 h2 h3 h4 h5 h6 h7 h8 h9 h10 h11 h12 h13 x_g x_kept x_saved x_before x_was x_region x_parts x_next x_ways x_more x_whole x_isSaved x_changes x_isWithin x_code x_input x_length x_fault x_failed x_signs x_signMany r229.2.1 r229.2.2 x_toldMany)) hW hA (is := [0, 1, 2, 3, 4, 5, 6, 7, 8, 9, 10, 11, 12, 13]) rfl (goV (rest := []) E hK hW [0, 1, 2, 3, 4, 5, 6, 7, 8, 9, 10, 11, 12, 13] rfl rfl (c_X13_wayHere l g h0 h1 h2 h3 h4 h5 h6 h7 h8 h9 h10 h11 h12 h13 x_g x_kept x_saved x_before x_was x_region x_parts x_next x_ways x_more x_whole x_isSaved x_changes x_isWithin x_code x_input x_length x_fault x_failed x_signs x_signMany r221.2.1 r221.2.2 x_toldMany ((4 * x_toldMany) + 1) (hf := hc) H.size) (cwV 1 hts gX13_commandHere_X13_wayHere rfl rfl rfl (by decide +kernel) ⟨Nat.le_of_ble_eq_true rfl, Nat.le_of_ble_eq_true rfl⟩) 0 rfl rfl rfl hl.1 rfl rfl (Nat.le_of_ble_eq_true rfl) dX13_commandHere_229 ⟨Nat.zero_le _, Nat.zero_le _⟩) rfl rfl (fun H locs hW => ?_)
                    refine lv_if_eq (tgt := 239) E.1 E.2.1 dX13_commandHere_232 (by decide) (fun c232 => ?_) (fun c232 => ?_)
                    · have h := it c232 h
                      exact J239 r229.2.1 r229.2.2 H locs ls h hW (lv_sub hl [] rfl)
                    · have h := ie c232 h
                      refine lv_iconst (v := 1) E.1 E.2.1 dX13_commandHere_235 (by decide) ?_
                      refine lv_goto (tgt := 289) E.1 E.2.1 dX13_commandHere_236 (by decide) ?_
                      exact J289 r229.2.1 r229.2.2 1 H locs ls h hW (lv_sub hl [] rfl)
            · have h := ie c187 h
              refine lv_aload_n E.1 E.2.1 dX13_commandHere_190 rfl (lv_at hl 1 rfl) ?_
              refine lv_bipush (v := 9) E.1 E.2.1 dX13_commandHere_191 (by decide) ?_
              refine wLdcS hz sl_X13_235 E dX13_commandHere_193 ?_
              obtain ⟨r195, hc, h⟩ := bx h
              refine goI (world' := (w_X13 g h0 h1 h2 h3 h4 h5 h6 h7 h8 h9 h10 h11 h12 h13 x_g x_kept x_saved x_before x_was x_region x_parts x_next x_ways x_more x_whole x_isSaved x_changes x_isWithin x_code x_input x_length x_fault x_failed x_signs x_signMany r195.2.1 r195.2.2 x_toldMany)) hW hA (is := [0, 1, 2, 3, 4, 5, 6, 7, 8, 9, 10, 11, 12, 13]) rfl (goVX (rest := []) E hK hz hC hA hW [0, 1, 2, 3, 4, 5, 6, 7, 8, 9, 10, 11, 12, 13] rfl rfl (c_X13_isWord l g z "PaperStormModel" 235 h0 h1 h2 h3 h4 h5 h6 h7 h8 h9 h10 h11 h12 h13 x_g x_kept x_saved x_before x_was x_region x_parts x_next x_ways x_more x_whole x_isSaved x_changes x_isWithin x_code x_input x_length x_fault x_failed x_signs x_signMany r184.2 x_told x_toldMany 9 ([111, 111, 107]) st_X13_235 (hf := hc) H.size) (cwV 2 hts gX13_commandHere_X13_isWord rfl rfl rfl (by decide +kernel) ⟨Nat.le_of_ble_eq_true rfl, Nat.le_of_ble_eq_true rfl⟩) 0 rfl rfl rfl hl.1 rfl rfl (Nat.le_of_ble_eq_true rfl) dX13_commandHere_195 ⟨Nat.zero_le _, Nat.zero_le _⟩) rfl rfl (fun H locs hW => ?_)
              obtain ⟨hz, h⟩ := ox h
              obtain rfl := Option.some.inj h
              exact endI E (nar_z (Decidable.not_not.mp hz)) hW dX13_commandHere_198
          · have h := ie c152 h
            obtain ⟨j180, hj180, h⟩ := jox3 h
            have J180 : ∀ (x_at_180 : Int32) (x_told_180 : Nat → Int32) (s0_180 : Int32) (H : Heap) (locs : List Loc) (ls : Array Slot), j180 x_at_180 x_told_180 s0_180 = some res → Wo g A s H locs (w_X13 g h0 h1 h2 h3 h4 h5 h6 h7 h8 h9 h10 h11 h12 h13 x_g x_kept x_saved x_before x_was x_region x_parts x_next x_ways x_more x_whole x_isSaved x_changes x_isWithin x_code x_input x_length x_fault x_failed x_signs x_signMany x_at_180 x_told_180 x_toldMany) → lv_has ls 2 [] → G_X13_commandHere p l e s m args below meth c g A z h0 h1 h2 h3 h4 h5 h6 h7 h8 h9 h10 h11 h12 h13 x_g x_kept x_saved x_before x_was x_region x_parts x_next x_ways x_more x_whole x_isSaved x_changes x_isWithin x_code x_input x_length x_fault x_failed x_signs x_signMany x_toldMany res H locs 180 ls [.int s0_180] := by
              intro x_at_180 x_told_180 s0_180 H locs ls h hW hl
              rw [hj180] at h
              obtain ⟨hz, h⟩ := ox h
              obtain rfl := Option.some.inj h
              exact endI E (nar_z (Decidable.not_not.mp hz)) hW dX13_commandHere_180
            obtain ⟨j179, hj179, h⟩ := jox2 h
            have J179 : ∀ (x_at_179 : Int32) (x_told_179 : Nat → Int32) (H : Heap) (locs : List Loc) (ls : Array Slot), j179 x_at_179 x_told_179 = some res → Wo g A s H locs (w_X13 g h0 h1 h2 h3 h4 h5 h6 h7 h8 h9 h10 h11 h12 h13 x_g x_kept x_saved x_before x_was x_region x_parts x_next x_ways x_more x_whole x_isSaved x_changes x_isWithin x_code x_input x_length x_fault x_failed x_signs x_signMany x_at_179 x_told_179 x_toldMany) → lv_has ls 2 [] → G_X13_commandHere p l e s m args below meth c g A z h0 h1 h2 h3 h4 h5 h6 h7 h8 h9 h10 h11 h12 h13 x_g x_kept x_saved x_before x_was x_region x_parts x_next x_ways x_more x_whole x_isSaved x_changes x_isWithin x_code x_input x_length x_fault x_failed x_signs x_signMany x_toldMany res H locs 179 ls [] := by
              intro x_at_179 x_told_179 H locs ls h hW hl
              rw [hj179] at h
              refine lv_iconst (v := 0) E.1 E.2.1 dX13_commandHere_179 (by decide) ?_
              exact J180 x_at_179 x_told_179 0 H locs ls h hW (lv_sub hl [] rfl)
            refine lv_aload_n E.1 E.2.1 dX13_commandHere_155 rfl (lv_at hl 1 rfl) ?_
            refine lv_bipush (v := 8) E.1 E.2.1 dX13_commandHere_156 (by decide) ?_
            refine wLdcS hz sl_X13_233 E dX13_commandHere_158 ?_
            obtain ⟨r160, hc, h⟩ := bx h
            refine goI (world' := (w_X13 g h0 h1 h2 h3 h4 h5 h6 h7 h8 h9 h10 h11 h12 h13 x_g x_kept x_saved x_before x_was x_region x_parts x_next x_ways x_more x_whole x_isSaved x_changes x_isWithin x_code x_input x_length x_fault x_failed x_signs x_signMany r160.2.1 r160.2.2 x_toldMany)) hW hA (is := [0, 1, 2, 3, 4, 5, 6, 7, 8, 9, 10, 11, 12, 13]) rfl (goVX (rest := []) E hK hz hC hA hW [0, 1, 2, 3, 4, 5, 6, 7, 8, 9, 10, 11, 12, 13] rfl rfl (c_X13_isWord l g z "PaperStormModel" 233 h0 h1 h2 h3 h4 h5 h6 h7 h8 h9 h10 h11 h12 h13 x_g x_kept x_saved x_before x_was x_region x_parts x_next x_ways x_more x_whole x_isSaved x_changes x_isWithin x_code x_input x_length x_fault x_failed x_signs x_signMany r149.2 x_told x_toldMany 8 ([98, 115, 101, 114, 118, 101]) st_X13_233 (hf := hc) H.size) (cwV 2 hts gX13_commandHere_X13_isWord rfl rfl rfl (by decide +kernel) ⟨Nat.le_of_ble_eq_true rfl, Nat.le_of_ble_eq_true rfl⟩) 0 rfl rfl rfl hl.1 rfl rfl (Nat.le_of_ble_eq_true rfl) dX13_commandHere_160 ⟨Nat.zero_le _, Nat.zero_le _⟩) rfl rfl (fun H locs hW => ?_)
            refine lv_if_eq (tgt := 179) E.1 E.2.1 dX13_commandHere_163 (by decide) (fun c163 => ?_) (fun c163 => ?_)
            · have h := it c163 h
              exact J179 r160.2.1 r160.2.2 H locs ls h hW (lv_sub hl [] rfl)
            · have h := ie c163 h
              refine lv_aload_n E.1 E.2.1 dX13_commandHere_166 rfl (lv_at hl 1 rfl) ?_
              refine lv_iload_n E.1 E.2.1 dX13_commandHere_167 rfl (lv_at hl 0 rfl) ?_
              refine lv_iconst (v := 1) E.1 E.2.1 dX13_commandHere_168 (by decide) ?_
              obtain ⟨r169, hc, h⟩ := bx h
              refine goI (world' := (w_X13 g h0 h1 h2 h3 h4 h5 h6 h7 h8 h9 h10 h11 h12 h13 x_g x_kept x_saved x_before x_was x_region x_parts x_next x_ways x_more x_whole x_isSaved x_changes x_isWithin x_code x_input x_length x_fault x_failed x_signs x_signMany r169.2.1 r169.2.2 x_toldMany)) hW hA (is := [0, 1, 2, 3, 4, 5, 6, 7, 8, 9, 10, 11, 12, 13]) rfl (goV (rest := []) E hK hW [0, 1, 2, 3, 4, 5, 6, 7, 8, 9, 10, 11, 12, 13] rfl rfl (c_X13_figures l g h0 h1 h2 h3 h4 h5 h6 h7 h8 h9 h10 h11 h12 h13 x_g x_kept x_saved x_before x_was x_region x_parts x_next x_ways x_more x_whole x_isSaved x_changes x_isWithin x_code x_input x_length x_fault x_failed x_signs x_signMany r160.2.1 r160.2.2 x_toldMany ((4 * x_toldMany) + 1) 1 (hf := hc) H.size) (cwV 2 hts gX13_commandHere_X13_figures rfl rfl rfl (by decide +kernel) ⟨Nat.le_of_ble_eq_true rfl, Nat.le_of_ble_eq_true rfl⟩) 0 rfl rfl rfl hl.1 rfl rfl (Nat.le_of_ble_eq_true rfl) dX13_commandHere_169 ⟨Nat.zero_le _, Nat.zero_le _⟩) rfl rfl (fun H locs hW => ?_)
              refine lv_if_eq (tgt := 179) E.1 E.2.1 dX13_commandHere_172 (by decide) (fun c172 => ?_) (fun c172 => ?_)
              · have h := it c172 h
                exact J179 r169.2.1 r169.2.2 H locs ls h hW (lv_sub hl [] rfl)
              · have h := ie c172 h
                refine lv_iconst (v := 1) E.1 E.2.1 dX13_commandHere_175 (by decide) ?_
                refine lv_goto (tgt := 180) E.1 E.2.1 dX13_commandHere_176 (by decide) ?_
                exact J180 r169.2.1 r169.2.2 1 H locs ls h hW (lv_sub hl [] rfl)
        · have h := ie c117 h
          obtain ⟨j145, hj145, h⟩ := jox3 h
          have J145 : ∀ (x_at_145 : Int32) (x_told_145 : Nat → Int32) (s0_145 : Int32) (H : Heap) (locs : List Loc) (ls : Array Slot), j145 x_at_145 x_told_145 s0_145 = some res → Wo g A s H locs (w_X13 g h0 h1 h2 h3 h4 h5 h6 h7 h8 h9 h10 h11 h12 h13 x_g x_kept x_saved x_before x_was x_region x_parts x_next x_ways x_more x_whole x_isSaved x_changes x_isWithin x_code x_input x_length x_fault x_failed x_signs x_signMany x_at_145 x_told_145 x_toldMany) → lv_has ls 2 [] → G_X13_commandHere p l e s m args below meth c g A z h0 h1 h2 h3 h4 h5 h6 h7 h8 h9 h10 h11 h12 h13 x_g x_kept x_saved x_before x_was x_region x_parts x_next x_ways x_more x_whole x_isSaved x_changes x_isWithin x_code x_input x_length x_fault x_failed x_signs x_signMany x_toldMany res H locs 145 ls [.int s0_145] := by
            intro x_at_145 x_told_145 s0_145 H locs ls h hW hl
            rw [hj145] at h
            obtain ⟨hz, h⟩ := ox h
            obtain rfl := Option.some.inj h
            exact endI E (nar_z (Decidable.not_not.mp hz)) hW dX13_commandHere_145
          obtain ⟨j144, hj144, h⟩ := jox2 h
          have J144 : ∀ (x_at_144 : Int32) (x_told_144 : Nat → Int32) (H : Heap) (locs : List Loc) (ls : Array Slot), j144 x_at_144 x_told_144 = some res → Wo g A s H locs (w_X13 g h0 h1 h2 h3 h4 h5 h6 h7 h8 h9 h10 h11 h12 h13 x_g x_kept x_saved x_before x_was x_region x_parts x_next x_ways x_more x_whole x_isSaved x_changes x_isWithin x_code x_input x_length x_fault x_failed x_signs x_signMany x_at_144 x_told_144 x_toldMany) → lv_has ls 2 [] → G_X13_commandHere p l e s m args below meth c g A z h0 h1 h2 h3 h4 h5 h6 h7 h8 h9 h10 h11 h12 h13 x_g x_kept x_saved x_before x_was x_region x_parts x_next x_ways x_more x_whole x_isSaved x_changes x_isWithin x_code x_input x_length x_fault x_failed x_signs x_signMany x_toldMany res H locs 144 ls [] := by
            intro x_at_144 x_told_144 H locs ls h hW hl
            rw [hj144] at h
            refine lv_iconst (v := 0) E.1 E.2.1 dX13_commandHere_144 (by decide) ?_
            exact J145 x_at_144 x_told_144 0 H locs ls h hW (lv_sub hl [] rfl)
          refine lv_aload_n E.1 E.2.1 dX13_commandHere_120 rfl (lv_at hl 1 rfl) ?_
          refine lv_bipush (v := 6) E.1 E.2.1 dX13_commandHere_121 (by decide) ?_
          refine wLdcS hz sl_X13_231 E dX13_commandHere_123 ?_
          obtain ⟨r125, hc, h⟩ := bx h
          refine goI (world' := (w_X13 g h0 h1 h2 h3 h4 h5 h6 h7 h8 h9 h10 h11 h12 h13 x_g x_kept x_saved x_before x_was x_region x_parts x_next x_ways x_more x_whole x_isSaved x_changes x_isWithin x_code x_input x_length x_fault x_failed x_signs x_signMany r125.2.1 r125.2.2 x_toldMany)) hW hA (is := [0, 1, 2, 3, 4, 5, 6, 7, 8, 9, 10, 11, 12, 13]) rfl (goVX (rest := []) E hK hz hC hA hW [0, 1, 2, 3, 4, 5, 6, 7, 8, 9, 10, 11, 12, 13] rfl rfl (c_X13_isWord l g z "PaperStormModel" 231 h0 h1 h2 h3 h4 h5 h6 h7 h8 h9 h10 h11 h12 h13 x_g x_kept x_saved x_before x_was x_region x_parts x_next x_ways x_more x_whole x_isSaved x_changes x_isWithin x_code x_input x_length x_fault x_failed x_signs x_signMany r114.2 x_told x_toldMany 6 ([115, 115, 117, 101]) st_X13_231 (hf := hc) H.size) (cwV 2 hts gX13_commandHere_X13_isWord rfl rfl rfl (by decide +kernel) ⟨Nat.le_of_ble_eq_true rfl, Nat.le_of_ble_eq_true rfl⟩) 0 rfl rfl rfl hl.1 rfl rfl (Nat.le_of_ble_eq_true rfl) dX13_commandHere_125 ⟨Nat.zero_le _, Nat.zero_le _⟩) rfl rfl (fun H locs hW => ?_)
          refine lv_if_eq (tgt := 144) E.1 E.2.1 dX13_commandHere_128 (by decide) (fun c128 => ?_) (fun c128 => ?_)
          · have h := it c128 h
            exact J144 r125.2.1 r125.2.2 H locs ls h hW (lv_sub hl [] rfl)
          · have h := ie c128 h
            refine lv_aload_n E.1 E.2.1 dX13_commandHere_131 rfl (lv_at hl 1 rfl) ?_
            refine lv_iload_n E.1 E.2.1 dX13_commandHere_132 rfl (lv_at hl 0 rfl) ?_
            refine lv_iconst (v := 1) E.1 E.2.1 dX13_commandHere_133 (by decide) ?_
            obtain ⟨r134, hc, h⟩ := bx h
            refine goI (world' := (w_X13 g h0 h1 h2 h3 h4 h5 h6 h7 h8 h9 h10 h11 h12 h13 x_g x_kept x_saved x_before x_was x_region x_parts x_next x_ways x_more x_whole x_isSaved x_changes x_isWithin x_code x_input x_length x_fault x_failed x_signs x_signMany r134.2.1 r134.2.2 x_toldMany)) hW hA (is := [0, 1, 2, 3, 4, 5, 6, 7, 8, 9, 10, 11, 12, 13]) rfl (goV (rest := []) E hK hW [0, 1, 2, 3, 4, 5, 6, 7, 8, 9, 10, 11, 12, 13] rfl rfl (c_X13_figures l g h0 h1 h2 h3 h4 h5 h6 h7 h8 h9 h10 h11 h12 h13 x_g x_kept x_saved x_before x_was x_region x_parts x_next x_ways x_more x_whole x_isSaved x_changes x_isWithin x_code x_input x_length x_fault x_failed x_signs x_signMany r125.2.1 r125.2.2 x_toldMany ((4 * x_toldMany) + 1) 1 (hf := hc) H.size) (cwV 2 hts gX13_commandHere_X13_figures rfl rfl rfl (by decide +kernel) ⟨Nat.le_of_ble_eq_true rfl, Nat.le_of_ble_eq_true rfl⟩) 0 rfl rfl rfl hl.1 rfl rfl (Nat.le_of_ble_eq_true rfl) dX13_commandHere_134 ⟨Nat.zero_le _, Nat.zero_le _⟩) rfl rfl (fun H locs hW => ?_)
            refine lv_if_eq (tgt := 144) E.1 E.2.1 dX13_commandHere_137 (by decide) (fun c137 => ?_) (fun c137 => ?_)
            · have h := it c137 h
              exact J144 r134.2.1 r134.2.2 H locs ls h hW (lv_sub hl [] rfl)
            · have h := ie c137 h
              refine lv_iconst (v := 1) E.1 E.2.1 dX13_commandHere_140 (by decide) ?_
              refine lv_goto (tgt := 145) E.1 E.2.1 dX13_commandHere_141 (by decide) ?_
              exact J145 r134.2.1 r134.2.2 1 H locs ls h hW (lv_sub hl [] rfl)
      · have h := ie c83 h
        obtain ⟨j110, hj110, h⟩ := jox3 h
        have J110 : ∀ (x_at_110 : Int32) (x_told_110 : Nat → Int32) (s0_110 : Int32) (H : Heap) (locs : List Loc) (ls : Array Slot), j110 x_at_110 x_told_110 s0_110 = some res → Wo g A s H locs (w_X13 g h0 h1 h2 h3 h4 h5 h6 h7 h8 h9 h10 h11 h12 h13 x_g x_kept x_saved x_before x_was x_region x_parts x_next x_ways x_more x_whole x_isSaved x_changes x_isWithin x_code x_input x_length x_fault x_failed x_signs x_signMany x_at_110 x_told_110 x_toldMany) → lv_has ls 2 [] → G_X13_commandHere p l e s m args below meth c g A z h0 h1 h2 h3 h4 h5 h6 h7 h8 h9 h10 h11 h12 h13 x_g x_kept x_saved x_before x_was x_region x_parts x_next x_ways x_more x_whole x_isSaved x_changes x_isWithin x_code x_input x_length x_fault x_failed x_signs x_signMany x_toldMany res H locs 110 ls [.int s0_110] := by
          intro x_at_110 x_told_110 s0_110 H locs ls h hW hl
          rw [hj110] at h
          obtain ⟨hz, h⟩ := ox h
          obtain rfl := Option.some.inj h
          exact endI E (nar_z (Decidable.not_not.mp hz)) hW dX13_commandHere_110
        obtain ⟨j109, hj109, h⟩ := jox2 h
        have J109 : ∀ (x_at_109 : Int32) (x_told_109 : Nat → Int32) (H : Heap) (locs : List Loc) (ls : Array Slot), j109 x_at_109 x_told_109 = some res → Wo g A s H locs (w_X13 g h0 h1 h2 h3 h4 h5 h6 h7 h8 h9 h10 h11 h12 h13 x_g x_kept x_saved x_before x_was x_region x_parts x_next x_ways x_more x_whole x_isSaved x_changes x_isWithin x_code x_input x_length x_fault x_failed x_signs x_signMany x_at_109 x_told_109 x_toldMany) → lv_has ls 2 [] → G_X13_commandHere p l e s m args below meth c g A z h0 h1 h2 h3 h4 h5 h6 h7 h8 h9 h10 h11 h12 h13 x_g x_kept x_saved x_before x_was x_region x_parts x_next x_ways x_more x_whole x_isSaved x_changes x_isWithin x_code x_input x_length x_fault x_failed x_signs x_signMany x_toldMany res H locs 109 ls [] := by
          intro x_at_109 x_told_109 H locs ls h hW hl
          rw [hj109] at h
          refine lv_iconst (v := 0) E.1 E.2.1 dX13_commandHere_109 (by decide) ?_
          exact J110 x_at_109 x_told_109 0 H locs ls h hW (lv_sub hl [] rfl)
        refine lv_aload_n E.1 E.2.1 dX13_commandHere_86 rfl (lv_at hl 1 rfl) ?_
        refine lv_iconst (v := 4) E.1 E.2.1 dX13_commandHere_87 (by decide) ?_
        refine wLdcS hz sl_X13_229 E dX13_commandHere_88 ?_
        obtain ⟨r90, hc, h⟩ := bx h
        refine goI (world' := (w_X13 g h0 h1 h2 h3 h4 h5 h6 h7 h8 h9 h10 h11 h12 h13 x_g x_kept x_saved x_before x_was x_region x_parts x_next x_ways x_more x_whole x_isSaved x_changes x_isWithin x_code x_input x_length x_fault x_failed x_signs x_signMany r90.2.1 r90.2.2 x_toldMany)) hW hA (is := [0, 1, 2, 3, 4, 5, 6, 7, 8, 9, 10, 11, 12, 13]) rfl (goVX (rest := []) E hK hz hC hA hW [0, 1, 2, 3, 4, 5, 6, 7, 8, 9, 10, 11, 12, 13] rfl rfl (c_X13_isWord l g z "PaperStormModel" 229 h0 h1 h2 h3 h4 h5 h6 h7 h8 h9 h10 h11 h12 h13 x_g x_kept x_saved x_before x_was x_region x_parts x_next x_ways x_more x_whole x_isSaved x_changes x_isWithin x_code x_input x_length x_fault x_failed x_signs x_signMany r80.2 x_told x_toldMany 4 ([104, 114, 101, 115, 104, 111, 108, 100]) st_X13_229 (hf := hc) H.size) (cwV 2 hts gX13_commandHere_X13_isWord rfl rfl rfl (by decide +kernel) ⟨Nat.le_of_ble_eq_true rfl, Nat.le_of_ble_eq_true rfl⟩) 0 rfl rfl rfl hl.1 rfl rfl (Nat.le_of_ble_eq_true rfl) dX13_commandHere_90 ⟨Nat.zero_le _, Nat.zero_le _⟩) rfl rfl (fun H locs hW => ?_)
        refine lv_if_eq (tgt := 109) E.1 E.2.1 dX13_commandHere_93 (by decide) (fun c93 => ?_) (fun c93 => ?_)
        · have h := it c93 h
          exact J109 r90.2.1 r90.2.2 H locs ls h hW (lv_sub hl [] rfl)
        · have h := ie c93 h
          refine lv_aload_n E.1 E.2.1 dX13_commandHere_96 rfl (lv_at hl 1 rfl) ?_
          refine lv_iload_n E.1 E.2.1 dX13_commandHere_97 rfl (lv_at hl 0 rfl) ?_
          refine lv_iconst (v := 2) E.1 E.2.1 dX13_commandHere_98 (by decide) ?_
          obtain ⟨r99, hc, h⟩ := bx h
          refine goI (world' := (w_X13 g h0 h1 h2 h3 h4 h5 h6 h7 h8 h9 h10 h11 h12 h13 x_g x_kept x_saved x_before x_was x_region x_parts x_next x_ways x_more x_whole x_isSaved x_changes x_isWithin x_code x_input x_length x_fault x_failed x_signs x_signMany r99.2.1 r99.2.2 x_toldMany)) hW hA (is := [0, 1, 2, 3, 4, 5, 6, 7, 8, 9, 10, 11, 12, 13]) rfl (goV (rest := []) E hK hW [0, 1, 2, 3, 4, 5, 6, 7, 8, 9, 10, 11, 12, 13] rfl rfl (c_X13_figures l g h0 h1 h2 h3 h4 h5 h6 h7 h8 h9 h10 h11 h12 h13 x_g x_kept x_saved x_before x_was x_region x_parts x_next x_ways x_more x_whole x_isSaved x_changes x_isWithin x_code x_input x_length x_fault x_failed x_signs x_signMany r90.2.1 r90.2.2 x_toldMany ((4 * x_toldMany) + 1) 2 (hf := hc) H.size) (cwV 2 hts gX13_commandHere_X13_figures rfl rfl rfl (by decide +kernel) ⟨Nat.le_of_ble_eq_true rfl, Nat.le_of_ble_eq_true rfl⟩) 0 rfl rfl rfl hl.1 rfl rfl (Nat.le_of_ble_eq_true rfl) dX13_commandHere_99 ⟨Nat.zero_le _, Nat.zero_le _⟩) rfl rfl (fun H locs hW => ?_)
          refine lv_if_eq (tgt := 109) E.1 E.2.1 dX13_commandHere_102 (by decide) (fun c102 => ?_) (fun c102 => ?_)
          · have h := it c102 h
            exact J109 r99.2.1 r99.2.2 H locs ls h hW (lv_sub hl [] rfl)
          · have h := ie c102 h
            refine lv_iconst (v := 1) E.1 E.2.1 dX13_commandHere_105 (by decide) ?_
            refine lv_goto (tgt := 110) E.1 E.2.1 dX13_commandHere_106 (by decide) ?_
            exact J110 r99.2.1 r99.2.2 1 H locs ls h hW (lv_sub hl [] rfl)
    · have h := ie c49 h
      obtain ⟨j76, hj76, h⟩ := jox3 h
      have J76 : ∀ (x_at_76 : Int32) (x_told_76 : Nat → Int32) (s0_76 : Int32) (H : Heap) (locs : List Loc) (ls : Array Slot), j76 x_at_76 x_told_76 s0_76 = some res → Wo g A s H locs (w_X13 g h0 h1 h2 h3 h4 h5 h6 h7 h8 h9 h10 h11 h12 h13 x_g x_kept x_saved x_before x_was x_region x_parts x_next x_ways x_more x_whole x_isSaved x_changes x_isWithin x_code x_input x_length x_fault x_failed x_signs x_signMany x_at_76 x_told_76 x_toldMany) → lv_has ls 2 [] → G_X13_commandHere p l e s m args below meth c g A z h0 h1 h2 h3 h4 h5 h6 h7 h8 h9 h10 h11 h12 h13 x_g x_kept x_saved x_before x_was x_region x_parts x_next x_ways x_more x_whole x_isSaved x_changes x_isWithin x_code x_input x_length x_fault x_failed x_signs x_signMany x_toldMany res H locs 76 ls [.int s0_76] := by
        intro x_at_76 x_told_76 s0_76 H locs ls h hW hl
        rw [hj76] at h
        obtain ⟨hz, h⟩ := ox h
        obtain rfl := Option.some.inj h
        exact endI E (nar_z (Decidable.not_not.mp hz)) hW dX13_commandHere_76
      obtain ⟨j75, hj75, h⟩ := jox2 h
      have J75 : ∀ (x_at_75 : Int32) (x_told_75 : Nat → Int32) (H : Heap) (locs : List Loc) (ls : Array Slot), j75 x_at_75 x_told_75 = some res → Wo g A s H locs (w_X13 g h0 h1 h2 h3 h4 h5 h6 h7 h8 h9 h10 h11 h12 h13 x_g x_kept x_saved x_before x_was x_region x_parts x_next x_ways x_more x_whole x_isSaved x_changes x_isWithin x_code x_input x_length x_fault x_failed x_signs x_signMany x_at_75 x_told_75 x_toldMany) → lv_has ls 2 [] → G_X13_commandHere p l e s m args below meth c g A z h0 h1 h2 h3 h4 h5 h6 h7 h8 h9 h10 h11 h12 h13 x_g x_kept x_saved x_before x_was x_region x_parts x_next x_ways x_more x_whole x_isSaved x_changes x_isWithin x_code x_input x_length x_fault x_failed x_signs x_signMany x_toldMany res H locs 75 ls [] := by
        intro x_at_75 x_told_75 H locs ls h hW hl
        rw [hj75] at h
        refine lv_iconst (v := 0) E.1 E.2.1 dX13_commandHere_75 (by decide) ?_
        exact J76 x_at_75 x_told_75 0 H locs ls h hW (lv_sub hl [] rfl)
      refine lv_aload_n E.1 E.2.1 dX13_commandHere_52 rfl (lv_at hl 1 rfl) ?_
      refine lv_iconst (v := 2) E.1 E.2.1 dX13_commandHere_53 (by decide) ?_
      refine wLdcS hz sl_X13_227 E dX13_commandHere_54 ?_
      obtain ⟨r56, hc, h⟩ := bx h
      refine goI (world' := (w_X13 g h0 h1 h2 h3 h4 h5 h6 h7 h8 h9 h10 h11 h12 h13 x_g x_kept x_saved x_before x_was x_region x_parts x_next x_ways x_more x_whole x_isSaved x_changes x_isWithin x_code x_input x_length x_fault x_failed x_signs x_signMany r56.2.1 r56.2.2 x_toldMany)) hW hA (is := [0, 1, 2, 3, 4, 5, 6, 7, 8, 9, 10, 11, 12, 13]) rfl (goVX (rest := []) E hK hz hC hA hW [0, 1, 2, 3, 4, 5, 6, 7, 8, 9, 10, 11, 12, 13] rfl rfl (c_X13_isWord l g z "PaperStormModel" 227 h0 h1 h2 h3 h4 h5 h6 h7 h8 h9 h10 h11 h12 h13 x_g x_kept x_saved x_before x_was x_region x_parts x_next x_ways x_more x_whole x_isSaved x_changes x_isWithin x_code x_input x_length x_fault x_failed x_signs x_signMany r46.2 x_told x_toldMany 2 ([111, 108, 117, 109, 110]) st_X13_227 (hf := hc) H.size) (cwV 2 hts gX13_commandHere_X13_isWord rfl rfl rfl (by decide +kernel) ⟨Nat.le_of_ble_eq_true rfl, Nat.le_of_ble_eq_true rfl⟩) 0 rfl rfl rfl hl.1 rfl rfl (Nat.le_of_ble_eq_true rfl) dX13_commandHere_56 ⟨Nat.zero_le _, Nat.zero_le _⟩) rfl rfl (fun H locs hW => ?_)
      refine lv_if_eq (tgt := 75) E.1 E.2.1 dX13_commandHere_59 (by decide) (fun c59 => ?_) (fun c59 => ?_)
      · have h := it c59 h
        exact J75 r56.2.1 r56.2.2 H locs ls h hW (lv_sub hl [] rfl)
      · have h := ie c59 h
        refine lv_aload_n E.1 E.2.1 dX13_commandHere_62 rfl (lv_at hl 1 rfl) ?_
        refine lv_iload_n E.1 E.2.1 dX13_commandHere_63 rfl (lv_at hl 0 rfl) ?_
        refine lv_iconst (v := 1) E.1 E.2.1 dX13_commandHere_64 (by decide) ?_
        obtain ⟨r65, hc, h⟩ := bx h
        refine goI (world' := (w_X13 g h0 h1 h2 h3 h4 h5 h6 h7 h8 h9 h10 h11 h12 h13 x_g x_kept x_saved x_before x_was x_region x_parts x_next x_ways x_more x_whole x_isSaved x_changes x_isWithin x_code x_input x_length x_fault x_failed x_signs x_signMany r65.2.1 r65.2.2 x_toldMany)) hW hA (is := [0, 1, 2, 3, 4, 5, 6, 7, 8, 9, 10, 11, 12, 13]) rfl (goV (rest := []) E hK hW [0, 1, 2, 3, 4, 5, 6, 7, 8, 9, 10, 11, 12, 13] rfl rfl (c_X13_figures l g h0 h1 h2 h3 h4 h5 h6 h7 h8 h9 h10 h11 h12 h13 x_g x_kept x_saved x_before x_was x_region x_parts x_next x_ways x_more x_whole x_isSaved x_changes x_isWithin x_code x_input x_length x_fault x_failed x_signs x_signMany r56.2.1 r56.2.2 x_toldMany ((4 * x_toldMany) + 1) 1 (hf := hc) H.size) (cwV 2 hts gX13_commandHere_X13_figures rfl rfl rfl (by decide +kernel) ⟨Nat.le_of_ble_eq_true rfl, Nat.le_of_ble_eq_true rfl⟩) 0 rfl rfl rfl hl.1 rfl rfl (Nat.le_of_ble_eq_true rfl) dX13_commandHere_65 ⟨Nat.zero_le _, Nat.zero_le _⟩) rfl rfl (fun H locs hW => ?_)
        refine lv_if_eq (tgt := 75) E.1 E.2.1 dX13_commandHere_68 (by decide) (fun c68 => ?_) (fun c68 => ?_)
        · have h := it c68 h
          exact J75 r65.2.1 r65.2.2 H locs ls h hW (lv_sub hl [] rfl)
        · have h := ie c68 h
          refine lv_iconst (v := 1) E.1 E.2.1 dX13_commandHere_71 (by decide) ?_
          refine lv_goto (tgt := 76) E.1 E.2.1 dX13_commandHere_72 (by decide) ?_
          exact J76 r65.2.1 r65.2.2 1 H locs ls h hW (lv_sub hl [] rfl)
  · have h := ie c15 h
    obtain ⟨j42, hj42, h⟩ := jox3 h
    have J42 : ∀ (x_at_42 : Int32) (x_told_42 : Nat → Int32) (s0_42 : Int32) (H : Heap) (locs : List Loc) (ls : Array Slot), j42 x_at_42 x_told_42 s0_42 = some res → Wo g A s H locs (w_X13 g h0 h1 h2 h3 h4 h5 h6 h7 h8 h9 h10 h11 h12 h13 x_g x_kept x_saved x_before x_was x_region x_parts x_next x_ways x_more x_whole x_isSaved x_changes x_isWithin x_code x_input x_length x_fault x_failed x_signs x_signMany x_at_42 x_told_42 x_toldMany) → lv_has ls 2 [] → G_X13_commandHere p l e s m args below meth c g A z h0 h1 h2 h3 h4 h5 h6 h7 h8 h9 h10 h11 h12 h13 x_g x_kept x_saved x_before x_was x_region x_parts x_next x_ways x_more x_whole x_isSaved x_changes x_isWithin x_code x_input x_length x_fault x_failed x_signs x_signMany x_toldMany res H locs 42 ls [.int s0_42] := by
      intro x_at_42 x_told_42 s0_42 H locs ls h hW hl
      rw [hj42] at h
      obtain ⟨hz, h⟩ := ox h
      obtain rfl := Option.some.inj h
      exact endI E (nar_z (Decidable.not_not.mp hz)) hW dX13_commandHere_42
    obtain ⟨j41, hj41, h⟩ := jox2 h
    have J41 : ∀ (x_at_41 : Int32) (x_told_41 : Nat → Int32) (H : Heap) (locs : List Loc) (ls : Array Slot), j41 x_at_41 x_told_41 = some res → Wo g A s H locs (w_X13 g h0 h1 h2 h3 h4 h5 h6 h7 h8 h9 h10 h11 h12 h13 x_g x_kept x_saved x_before x_was x_region x_parts x_next x_ways x_more x_whole x_isSaved x_changes x_isWithin x_code x_input x_length x_fault x_failed x_signs x_signMany x_at_41 x_told_41 x_toldMany) → lv_has ls 2 [] → G_X13_commandHere p l e s m args below meth c g A z h0 h1 h2 h3 h4 h5 h6 h7 h8 h9 h10 h11 h12 h13 x_g x_kept x_saved x_before x_was x_region x_parts x_next x_ways x_more x_whole x_isSaved x_changes x_isWithin x_code x_input x_length x_fault x_failed x_signs x_signMany x_toldMany res H locs 41 ls [] := by
      intro x_at_41 x_told_41 H locs ls h hW hl
      rw [hj41] at h
      refine lv_iconst (v := 0) E.1 E.2.1 dX13_commandHere_41 (by decide) ?_
      exact J42 x_at_41 x_told_41 0 H locs ls h hW (lv_sub hl [] rfl)
    refine lv_aload_n E.1 E.2.1 dX13_commandHere_18 rfl (lv_at hl 1 rfl) ?_
    refine lv_iconst (v := 1) E.1 E.2.1 dX13_commandHere_19 (by decide) ?_
    refine wLdcS hz sl_X13_218 E dX13_commandHere_20 ?_
    obtain ⟨r22, hc, h⟩ := bx h
    refine goI (world' := (w_X13 g h0 h1 h2 h3 h4 h5 h6 h7 h8 h9 h10 h11 h12 h13 x_g x_kept x_saved x_before x_was x_region x_parts x_next x_ways x_more x_whole x_isSaved x_changes x_isWithin x_code x_input x_length x_fault x_failed x_signs x_signMany r22.2.1 r22.2.2 x_toldMany)) hW hA (is := [0, 1, 2, 3, 4, 5, 6, 7, 8, 9, 10, 11, 12, 13]) rfl (goVX (rest := []) E hK hz hC hA hW [0, 1, 2, 3, 4, 5, 6, 7, 8, 9, 10, 11, 12, 13] rfl rfl (c_X13_isWord l g z "PaperStormModel" 218 h0 h1 h2 h3 h4 h5 h6 h7 h8 h9 h10 h11 h12 h13 x_g x_kept x_saved x_before x_was x_region x_parts x_next x_ways x_more x_whole x_isSaved x_changes x_isWithin x_code x_input x_length x_fault x_failed x_signs x_signMany r12.2 x_told x_toldMany 1 ([111, 119]) st_X13_218 (hf := hc) H.size) (cwV 2 hts gX13_commandHere_X13_isWord rfl rfl rfl (by decide +kernel) ⟨Nat.le_of_ble_eq_true rfl, Nat.le_of_ble_eq_true rfl⟩) 0 rfl rfl rfl hl.1 rfl rfl (Nat.le_of_ble_eq_true rfl) dX13_commandHere_22 ⟨Nat.zero_le _, Nat.zero_le _⟩) rfl rfl (fun H locs hW => ?_)
    refine lv_if_eq (tgt := 41) E.1 E.2.1 dX13_commandHere_25 (by decide) (fun c25 => ?_) (fun c25 => ?_)
    · have h := it c25 h
      exact J41 r22.2.1 r22.2.2 H locs ls h hW (lv_sub hl [] rfl)
    · have h := ie c25 h
      refine lv_aload_n E.1 E.2.1 dX13_commandHere_28 rfl (lv_at hl 1 rfl) ?_
      refine lv_iload_n E.1 E.2.1 dX13_commandHere_29 rfl (lv_at hl 0 rfl) ?_
      refine lv_iconst (v := 1) E.1 E.2.1 dX13_commandHere_30 (by decide) ?_
      obtain ⟨r31, hc, h⟩ := bx h
      refine goI (world' := (w_X13 g h0 h1 h2 h3 h4 h5 h6 h7 h8 h9 h10 h11 h12 h13 x_g x_kept x_saved x_before x_was x_region x_parts x_next x_ways x_more x_whole x_isSaved x_changes x_isWithin x_code x_input x_length x_fault x_failed x_signs x_signMany r31.2.1 r31.2.2 x_toldMany)) hW hA (is := [0, 1, 2, 3, 4, 5, 6, 7, 8, 9, 10, 11, 12, 13]) rfl (goV (rest := []) E hK hW [0, 1, 2, 3, 4, 5, 6, 7, 8, 9, 10, 11, 12, 13] rfl rfl (c_X13_figures l g h0 h1 h2 h3 h4 h5 h6 h7 h8 h9 h10 h11 h12 h13 x_g x_kept x_saved x_before x_was x_region x_parts x_next x_ways x_more x_whole x_isSaved x_changes x_isWithin x_code x_input x_length x_fault x_failed x_signs x_signMany r22.2.1 r22.2.2 x_toldMany ((4 * x_toldMany) + 1) 1 (hf := hc) H.size) (cwV 2 hts gX13_commandHere_X13_figures rfl rfl rfl (by decide +kernel) ⟨Nat.le_of_ble_eq_true rfl, Nat.le_of_ble_eq_true rfl⟩) 0 rfl rfl rfl hl.1 rfl rfl (Nat.le_of_ble_eq_true rfl) dX13_commandHere_31 ⟨Nat.zero_le _, Nat.zero_le _⟩) rfl rfl (fun H locs hW => ?_)
      refine lv_if_eq (tgt := 41) E.1 E.2.1 dX13_commandHere_34 (by decide) (fun c34 => ?_) (fun c34 => ?_)
      · have h := it c34 h
        exact J41 r31.2.1 r31.2.2 H locs ls h hW (lv_sub hl [] rfl)
      · have h := ie c34 h
        refine lv_iconst (v := 1) E.1 E.2.1 dX13_commandHere_37 (by decide) ?_
        refine lv_goto (tgt := 42) E.1 E.2.1 dX13_commandHere_38 (by decide) ?_
        exact J42 r31.2.1 r31.2.2 1 H locs ls h hW (lv_sub hl [] rfl)
theorem c_X13_commandHere (l : Launch) (g : GE) (z : ZE) (h0 h1 h2 h3 h4 h5 h6 h7 h8 h9 h10 h11 h12 h13 : Nat) (x_g : Nat → Int32) (x_kept : Nat → Int32) (x_saved : Nat → Int32) (x_before : Nat → Int32) (x_was : Nat → Int32) (x_region : Nat → Int32) (x_parts : Nat → Int64) (x_next : Nat → Int64) (x_ways : Nat → Int32) (x_more : Nat → Int32) (x_whole : Int64) (x_isSaved : Int32) (x_changes : Int32) (x_isWithin : Int32) (x_code : Int32) (x_input : Nat → Int32) (x_length : Int32) (x_fault : Int32) (x_failed : Int32) (x_signs : Nat → Int32) (x_signMany : Int32) (x_at : Int32) (x_told : Nat → Int32) (x_toldMany : Int32) {res : Int32 × Int32 × (Nat → Int32)} (hf : f_X13_commandHere x_input x_length x_at x_told x_toldMany = some res) : XI l yX13_commandHere wsX13_commandHere rm_X13_commandHere g z [.ref h0] (w_X13 g h0 h1 h2 h3 h4 h5 h6 h7 h8 h9 h10 h11 h12 h13 x_g x_kept x_saved x_before x_was x_region x_parts x_next x_ways x_more x_whole x_isSaved x_changes x_isWithin x_code x_input x_length x_fault x_failed x_signs x_signMany x_at x_told x_toldMany) (w_X13 g h0 h1 h2 h3 h4 h5 h6 h7 h8 h9 h10 h11 h12 h13 x_g x_kept x_saved x_before x_was x_region x_parts x_next x_ways x_more x_whole x_isSaved x_changes x_isWithin x_code x_input x_length x_fault x_failed x_signs x_signMany res.2.1 res.2.2 x_toldMany) res.1 :=
  mkXI (cc := cX13_commandHere) (maxL := 2) (by decide) rfl (Nat.le_of_ble_eq_true rfl) (fun p e s m args below meth c A H locs ls E hK hz hC hA hW hl => k_X13_commandHere_0 E hK hz hC hA hf hW hl)

/-! PaperStormModel.isText()Z X13_isText -/
abbrev rm_X13_isText : Room := { frames := 6, cells := 0, slots := 0, locals := 129 }
theorem in_X13_isText_X13 : ∀ w ∈ wsX130, w ∈ wsX13_isText := by decide +kernel
theorem lk_X13_isText_204 : Cond.fieldLink RX13 204 "PaperStormModel" "length" "I" ∈ wsX13_isText := by decide +kernel
theorem lk_X13_isText_206 : Cond.fieldLink RX13 206 "PaperStormModel" "at" "I" ∈ wsX13_isText := by decide +kernel
theorem lk_X13_isText_212 : Cond.fieldLink RX13 212 "PaperStormModel" "toldMany" "I" ∈ wsX13_isText := by decide +kernel
noncomputable def f_X13_isText_10 (x_input : Nat → Int32) (x_length : Int32) (z17 : Int32 → (Nat → Int32) → Int32 → Option (Int32 × Int32 × (Nat → Int32) × Int32)) (z38 : Int32 → (Nat → Int32) → Int32 → Option (Int32 × Int32 × (Nat → Int32) × Int32)) : Nat → Int32 → (Nat → Int32) → Int32 → Option (Int32 × Int32 × (Nat → Int32) × Int32)
  | 0, _, _, _ => none
  | n + 1, x_at_10, x_told_10, x_toldMany_10 => (f_X13_commandHere x_input x_length x_at_10 x_told_10 x_toldMany_10).bind fun r11 => if r11.1 = 0 then z17 r11.2.1 r11.2.2 x_toldMany_10 else (f_X13_skips x_input x_length r11.2.1 59).bind fun r32 => if r32.1 = 0 then z38 r32.2 r11.2.2 (x_toldMany_10 + 1) else f_X13_isText_10 x_input x_length z17 z38 n r32.2 r11.2.2 (x_toldMany_10 + 1)
noncomputable def f_X13_isText (x_input : Nat → Int32) (x_length : Int32) (x_at : Int32) (x_told : Nat → Int32) (x_toldMany : Int32) : Option (Int32 × Int32 × (Nat → Int32) × Int32) :=
  f_X13_isText_10 x_input x_length (fun x_at_17e x_told_17e x_toldMany_17e => some (0, x_at_17e, x_told_17e, x_toldMany_17e)) (fun x_at_38e x_told_38e x_toldMany_38e => jo (fun (s0_54 : Int32) => if ¬ vp_nar .boolean s0_54 = s0_54 then none else some (s0_54, x_at_38e, x_told_38e, x_toldMany_38e)) (fun j54 => if x_at_38e = x_length then j54 1 else j54 0)) 1000 0 x_told 0
abbrev G_X13_isText (p : Program) (l : Launch) (e : Env) (s : State) (m : MethodId) (args : Array Value) (below : List Frame) (meth : Method) (c : Code) (g : GE) (A : Nat → Prop) (z : ZE) (h0 h1 h2 h3 h4 h5 h6 h7 h8 h9 h10 h11 h12 h13 : Nat) (x_g : Nat → Int32) (x_kept : Nat → Int32) (x_saved : Nat → Int32) (x_before : Nat → Int32) (x_was : Nat → Int32) (x_region : Nat → Int32) (x_parts : Nat → Int64) (x_next : Nat → Int64) (x_ways : Nat → Int32) (x_more : Nat → Int32) (x_whole : Int64) (x_isSaved : Int32) (x_changes : Int32) (x_isWithin : Int32) (x_code : Int32) (x_input : Nat → Int32) (x_length : Int32) (x_fault : Int32) (x_failed : Int32) (x_signs : Nat → Int32) (x_signMany : Int32) (res : Int32 × Int32 × (Nat → Int32) × Int32) (H : Heap) (locs : List Loc) (pc : Nat) (ls : Array Slot) (st : List Value) : Prop := W p l e (headSpec wsX13_isText rm_X13_isText).room s m args below meth c H locs 0 0 (MQ below (PoI g A (w_X13 g h0 h1 h2 h3 h4 h5 h6 h7 h8 h9 h10 h11 h12 h13 x_g x_kept x_saved x_before x_was x_region x_parts x_next x_ways x_more x_whole x_isSaved x_changes x_isWithin x_code x_input x_length x_fault x_failed x_signs x_signMany res.2.1 res.2.2.1 res.2.2.2) res.1) args s 0 0 A) (F0 m pc ls st)
set_option maxHeartbeats 4000000 in
set_option maxRecDepth 100000 in
theorem k_X13_isText_10 {p : Program} {l : Launch} {e : Env} {s : State} {m : MethodId} {args : Array Value} {below : List Frame} {meth : Method} {c : Code} {g : GE} {A : Nat → Prop} {z : ZE} {h0 h1 h2 h3 h4 h5 h6 h7 h8 h9 h10 h11 h12 h13 : Nat} {x_g : Nat → Int32} {x_kept : Nat → Int32} {x_saved : Nat → Int32} {x_before : Nat → Int32} {x_was : Nat → Int32} {x_region : Nat → Int32} {x_parts : Nat → Int64} {x_next : Nat → Int64} {x_ways : Nat → Int32} {x_more : Nat → Int32} {x_whole : Int64} {x_isSaved : Int32} {x_changes : Int32} {x_isWithin : Int32} {x_code : Int32} {x_input : Nat → Int32} {x_length : Int32} {x_fault : Int32} {x_failed : Int32} {x_signs : Nat → Int32} {x_signMany : Int32} {res : Int32 × Int32 × (Nat → Int32) × Int32} {z17 : Int32 → (Nat → Int32) → Int32 → Option (Int32 × Int32 × (Nat → Int32) × Int32)} {z38 : Int32 → (Nat → Int32) → Int32 → Option (Int32 × Int32 × (Nat → Int32) × Int32)}
    (E : En cX13_isText RX13 wsX13_isText 1 (some .boolean) p s m args meth c) (hK : KK g s) (hz : KS z s) (hC : CS z A s s.heap) (hA : ∀ q, s.heap.size ≤ q → A q)
    (hz17 : ∀ (x_at_17e : Int32) (x_told_17e : Nat → Int32) (x_toldMany_17e : Int32) (H : Heap) (locs : List Loc) (ls : Array Slot), z17 x_at_17e x_told_17e x_toldMany_17e = some res → Wo g A s H locs (w_X13 g h0 h1 h2 h3 h4 h5 h6 h7 h8 h9 h10 h11 h12 h13 x_g x_kept x_saved x_before x_was x_region x_parts x_next x_ways x_more x_whole x_isSaved x_changes x_isWithin x_code x_input x_length x_fault x_failed x_signs x_signMany x_at_17e x_told_17e x_toldMany_17e) → lv_has ls 1 [] → G_X13_isText p l e s m args below meth c g A z h0 h1 h2 h3 h4 h5 h6 h7 h8 h9 h10 h11 h12 h13 x_g x_kept x_saved x_before x_was x_region x_parts x_next x_ways x_more x_whole x_isSaved x_changes x_isWithin x_code x_input x_length x_fault x_failed x_signs x_signMany res H locs 17 ls [])
    (hz38 : ∀ (x_at_38e : Int32) (x_told_38e : Nat → Int32) (x_toldMany_38e : Int32) (H : Heap) (locs : List Loc) (ls : Array Slot), z38 x_at_38e x_told_38e x_toldMany_38e = some res → Wo g A s H locs (w_X13 g h0 h1 h2 h3 h4 h5 h6 h7 h8 h9 h10 h11 h12 h13 x_g x_kept x_saved x_before x_was x_region x_parts x_next x_ways x_more x_whole x_isSaved x_changes x_isWithin x_code x_input x_length x_fault x_failed x_signs x_signMany x_at_38e x_told_38e x_toldMany_38e) → lv_has ls 1 [(0, .ref h0)] → G_X13_isText p l e s m args below meth c g A z h0 h1 h2 h3 h4 h5 h6 h7 h8 h9 h10 h11 h12 h13 x_g x_kept x_saved x_before x_was x_region x_parts x_next x_ways x_more x_whole x_isSaved x_changes x_isWithin x_code x_input x_length x_fault x_failed x_signs x_signMany res H locs 38 ls [])
    : ∀ (n : Nat) (x_at_10 : Int32) (x_told_10 : Nat → Int32) (x_toldMany_10 : Int32) (H : Heap) (locs : List Loc) (ls : Array Slot), f_X13_isText_10 x_input x_length z17 z38 n x_at_10 x_told_10 x_toldMany_10 = some res → Wo g A s H locs (w_X13 g h0 h1 h2 h3 h4 h5 h6 h7 h8 h9 h10 h11 h12 h13 x_g x_kept x_saved x_before x_was x_region x_parts x_next x_ways x_more x_whole x_isSaved x_changes x_isWithin x_code x_input x_length x_fault x_failed x_signs x_signMany x_at_10 x_told_10 x_toldMany_10) → lv_has ls 1 [(0, .ref h0)] → G_X13_isText p l e s m args below meth c g A z h0 h1 h2 h3 h4 h5 h6 h7 h8 h9 h10 h11 h12 h13 x_g x_kept x_saved x_before x_was x_region x_parts x_next x_ways x_more x_whole x_isSaved x_changes x_isWithin x_code x_input x_length x_fault x_failed x_signs x_signMany res H locs 10 ls [] := by
  have hts := E.2.2.2.1
  intro n
  induction n with
  | zero => intro x_at_10 x_told_10 x_toldMany_10 H locs ls h hW hl; rw [f_X13_isText_10] at h; cases h
  | succ n ih =>
    intro x_at_10 x_told_10 x_toldMany_10 H locs ls h hW hl
    rw [f_X13_isText_10] at h
    refine lv_aload_n E.1 E.2.1 dX13_isText_10 rfl (lv_at hl 0 rfl) ?_
    obtain ⟨r11, hc, h⟩ := bx h
    refine goI (world' := (w_X13 g h0 h1 h2 h3 h4 h5 h6 h7 h8 h9 h10 h11 h12 h13 x_g x_kept x_saved x_before x_was x_region x_parts x_next x_ways x_more x_whole x_isSaved x_changes x_isWithin x_code x_input x_length x_fault x_failed x_signs x_signMany r11.2.1 r11.2.2 x_toldMany_10)) hW hA (is := [0, 1, 2, 3, 4, 5, 6, 7, 8, 9, 10, 11, 12, 13]) rfl (goVX (rest := []) E hK hz hC hA hW [0, 1, 2, 3, 4, 5, 6, 7, 8, 9, 10, 11, 12, 13] rfl rfl (c_X13_commandHere l g z h0 h1 h2 h3 h4 h5 h6 h7 h8 h9 h10 h11 h12 h13 x_g x_kept x_saved x_before x_was x_region x_parts x_next x_ways x_more x_whole x_isSaved x_changes x_isWithin x_code x_input x_length x_fault x_failed x_signs x_signMany x_at_10 x_told_10 x_toldMany_10 (hf := hc) H.size) (cwV 0 hts gX13_isText_X13_commandHere rfl rfl rfl (by decide +kernel) ⟨Nat.le_of_ble_eq_true rfl, Nat.le_of_ble_eq_true rfl⟩) 0 rfl rfl rfl hl.1 rfl rfl (Nat.le_of_ble_eq_true rfl) dX13_isText_11 ⟨Nat.zero_le _, Nat.zero_le _⟩) rfl rfl (fun H locs hW => ?_)
    refine lv_if_ne (tgt := 19) E.1 E.2.1 dX13_isText_14 (by decide) (fun c14 => ?_) (fun c14 => ?_)
    · have h := ie c14 h
      refine lv_aload_n E.1 E.2.1 dX13_isText_19 rfl (lv_at hl 0 rfl) ?_
      refine lv_dup E.1 E.2.1 dX13_isText_20 rfl ?_
      refine wGet (v := .int x_toldMany_10) E hK in_X13_isText_X13 hW 23 lk_X13_isText_212 0 rfl rfl (by decide) rfl rfl dX13_isText_21 ?_
      refine lv_iconst (v := 1) E.1 E.2.1 dX13_isText_24 (by decide) ?_
      refine lv_iadd E.1 E.2.1 dX13_isText_25 ?_
      refine wPut (world' := (w_X13 g h0 h1 h2 h3 h4 h5 h6 h7 h8 h9 h10 h11 h12 h13 x_g x_kept x_saved x_before x_was x_region x_parts x_next x_ways x_more x_whole x_isSaved x_changes x_isWithin x_code x_input x_length x_fault x_failed x_signs x_signMany r11.2.1 r11.2.2 (x_toldMany_10 + 1))) E hK in_X13_isText_X13 tyX13 tyX13_ok nmX13 hW 23 lk_X13_isText_212 0 rfl rfl (by decide) rfl rfl rfl rfl rfl (Nat.le_of_ble_eq_true rfl) dX13_isText_26 rfl (fun H locs hW => ?_)
      refine lv_aload_n E.1 E.2.1 dX13_isText_29 rfl (lv_at hl 0 rfl) ?_
      refine lv_bipush (v := 59) E.1 E.2.1 dX13_isText_30 (by decide) ?_
      obtain ⟨r32, hc, h⟩ := bx h
      refine goI (world' := (w_X13 g h0 h1 h2 h3 h4 h5 h6 h7 h8 h9 h10 h11 h12 h13 x_g x_kept x_saved x_before x_was x_region x_parts x_next x_ways x_more x_whole x_isSaved x_changes x_isWithin x_code x_input x_length x_fault x_failed x_signs x_signMany r32.2 r11.2.2 (x_toldMany_10 + 1))) hW hA (is := [0, 1, 2, 3, 4, 5, 6, 7, 8, 9, 10, 11, 12, 13]) rfl (goV (rest := []) E hK hW [0, 1, 2, 3, 4, 5, 6, 7, 8, 9, 10, 11, 12, 13] rfl rfl (c_X13_skips l g h0 h1 h2 h3 h4 h5 h6 h7 h8 h9 h10 h11 h12 h13 x_g x_kept x_saved x_before x_was x_region x_parts x_next x_ways x_more x_whole x_isSaved x_changes x_isWithin x_code x_input x_length x_fault x_failed x_signs x_signMany r11.2.1 r11.2.2 (x_toldMany_10 + 1) 59 (hf := hc) H.size) (cwV 1 hts gX13_isText_X13_skips rfl rfl rfl (by decide +kernel) ⟨Nat.le_of_ble_eq_true rfl, Nat.le_of_ble_eq_true rfl⟩) 0 rfl rfl rfl hl.1 rfl rfl (Nat.le_of_ble_eq_true rfl) dX13_isText_32 ⟨Nat.zero_le _, Nat.zero_le _⟩) rfl rfl (fun H locs hW => ?_)
      refine lv_if_ne (tgt := 10) E.1 E.2.1 dX13_isText_35 (by decide) (fun c35 => ?_) (fun c35 => ?_)
      · have h := ie c35 h
        exact ih r32.2 r11.2.2 (x_toldMany_10 + 1) H locs ls h hW (lv_sub hl [0] rfl)
      · have h := it c35 h
        exact hz38 r32.2 r11.2.2 (x_toldMany_10 + 1) H locs ls h hW (lv_sub hl [0] rfl)
    · have h := it c14 h
      exact hz17 r11.2.1 r11.2.2 x_toldMany_10 H locs ls h hW (lv_sub hl [] rfl)
set_option maxHeartbeats 4000000 in
set_option maxRecDepth 100000 in
theorem k_X13_isText_0 {p : Program} {l : Launch} {e : Env} {s : State} {m : MethodId} {args : Array Value} {below : List Frame} {meth : Method} {c : Code} {g : GE} {A : Nat → Prop} {z : ZE} {h0 h1 h2 h3 h4 h5 h6 h7 h8 h9 h10 h11 h12 h13 : Nat} {x_g : Nat → Int32} {x_kept : Nat → Int32} {x_saved : Nat → Int32} {x_before : Nat → Int32} {x_was : Nat → Int32} {x_region : Nat → Int32} {x_parts : Nat → Int64} {x_next : Nat → Int64} {x_ways : Nat → Int32} {x_more : Nat → Int32} {x_whole : Int64} {x_isSaved : Int32} {x_changes : Int32} {x_isWithin : Int32} {x_code : Int32} {x_input : Nat → Int32} {x_length : Int32} {x_fault : Int32} {x_failed : Int32} {x_signs : Nat → Int32} {x_signMany : Int32} {x_at : Int32} {x_told : Nat → Int32} {x_toldMany : Int32} {res : Int32 × Int32 × (Nat → Int32) × Int32} {H : Heap} {locs : List Loc} {ls : Array Slot} 
    (E : En cX13_isText RX13 wsX13_isText 1 (some .boolean) p s m args meth c) (hK : KK g s) (hz : KS z s) (hC : CS z A s s.heap) (hA : ∀ q, s.heap.size ≤ q → A q) (h : f_X13_isText x_input x_length x_at x_told x_toldMany = some res) (hW : Wo g A s H locs (w_X13 g h0 h1 h2 h3 h4 h5 h6 h7 h8 h9 h10 h11 h12 h13 x_g x_kept x_saved x_before x_was x_region x_parts x_next x_ways x_more x_whole x_isSaved x_changes x_isWithin x_code x_input x_length x_fault x_failed x_signs x_signMany x_at x_told x_toldMany)) (hl : lv_has ls 1 [(0, .ref h0)]) : G_X13_isText p l e s m args below meth c g A z h0 h1 h2 h3 h4 h5 h6 h7 h8 h9 h10 h11 h12 h13 x_g x_kept x_saved x_before x_was x_region x_parts x_next x_ways x_more x_whole x_isSaved x_changes x_isWithin x_code x_input x_length x_fault x_failed x_signs x_signMany res H locs 0 ls [] := by
  have hts := E.2.2.2.1
  unfold f_X13_isText at h
  refine lv_aload_n E.1 E.2.1 dX13_isText_0 rfl (lv_at hl 0 rfl) ?_
  refine lv_iconst (v := 0) E.1 E.2.1 dX13_isText_1 (by decide) ?_
  refine wPut (world' := (w_X13 g h0 h1 h2 h3 h4 h5 h6 h7 h8 h9 h10 h11 h12 h13 x_g x_kept x_saved x_before x_was x_region x_parts x_next x_ways x_more x_whole x_isSaved x_changes x_isWithin x_code x_input x_length x_fault x_failed x_signs x_signMany 0 x_told x_toldMany)) E hK in_X13_isText_X13 tyX13 tyX13_ok nmX13 hW 21 lk_X13_isText_206 0 rfl rfl (by decide) rfl rfl rfl rfl rfl (Nat.le_of_ble_eq_true rfl) dX13_isText_2 rfl (fun H locs hW => ?_)
  refine lv_aload_n E.1 E.2.1 dX13_isText_5 rfl (lv_at hl 0 rfl) ?_
  refine lv_iconst (v := 0) E.1 E.2.1 dX13_isText_6 (by decide) ?_
  refine wPut (world' := (w_X13 g h0 h1 h2 h3 h4 h5 h6 h7 h8 h9 h10 h11 h12 h13 x_g x_kept x_saved x_before x_was x_region x_parts x_next x_ways x_more x_whole x_isSaved x_changes x_isWithin x_code x_input x_length x_fault x_failed x_signs x_signMany 0 x_told 0)) E hK in_X13_isText_X13 tyX13 tyX13_ok nmX13 hW 23 lk_X13_isText_212 0 rfl rfl (by decide) rfl rfl rfl rfl rfl (Nat.le_of_ble_eq_true rfl) dX13_isText_7 rfl (fun H locs hW => ?_)
  refine k_X13_isText_10 E hK hz hC hA ?_ ?_ 1000 0 x_told 0 H locs ls h hW (lv_sub hl [0] rfl)
  · intro x_at_17e x_told_17e x_toldMany_17e H locs ls h hW hl
    refine lv_iconst (v := 0) E.1 E.2.1 dX13_isText_17 (by decide) ?_
    obtain rfl := Option.some.inj h
    exact endI E (show narrow .boolean (.int 0) = .int 0 by decide) hW dX13_isText_18
  · intro x_at_38e x_told_38e x_toldMany_38e H locs ls h hW hl
    obtain ⟨j54, hj54, h⟩ := jox1 h
    have J54 : ∀ (s0_54 : Int32) (H : Heap) (locs : List Loc) (ls : Array Slot), j54 s0_54 = some res → Wo g A s H locs (w_X13 g h0 h1 h2 h3 h4 h5 h6 h7 h8 h9 h10 h11 h12 h13 x_g x_kept x_saved x_before x_was x_region x_parts x_next x_ways x_more x_whole x_isSaved x_changes x_isWithin x_code x_input x_length x_fault x_failed x_signs x_signMany x_at_38e x_told_38e x_toldMany_38e) → lv_has ls 1 [] → G_X13_isText p l e s m args below meth c g A z h0 h1 h2 h3 h4 h5 h6 h7 h8 h9 h10 h11 h12 h13 x_g x_kept x_saved x_before x_was x_region x_parts x_next x_ways x_more x_whole x_isSaved x_changes x_isWithin x_code x_input x_length x_fault x_failed x_signs x_signMany res H locs 54 ls [.int s0_54] := by
      intro s0_54 H locs ls h hW hl
      rw [hj54] at h
      obtain ⟨hz, h⟩ := ox h
      obtain rfl := Option.some.inj h
      exact endI E (nar_z (Decidable.not_not.mp hz)) hW dX13_isText_54
    refine lv_aload_n E.1 E.2.1 dX13_isText_38 rfl (lv_at hl 0 rfl) ?_
    refine wGet (v := .int x_at_38e) E hK in_X13_isText_X13 hW 21 lk_X13_isText_206 0 rfl rfl (by decide) rfl rfl dX13_isText_39 ?_
    refine lv_aload_n E.1 E.2.1 dX13_isText_42 rfl (lv_at hl 0 rfl) ?_
    refine wGet (v := .int x_length) E hK in_X13_isText_X13 hW 16 lk_X13_isText_204 0 rfl rfl (by decide) rfl rfl dX13_isText_43 ?_
    refine lv_icmp_ne (tgt := 53) E.1 E.2.1 dX13_isText_46 (by decide) (fun c46 => ?_) (fun c46 => ?_)
    · have h := ie c46 h
      refine lv_iconst (v := 0) E.1 E.2.1 dX13_isText_53 (by decide) ?_
      exact J54 0 H locs ls h hW (lv_sub hl [] rfl)
    · have h := it c46 h
      refine lv_iconst (v := 1) E.1 E.2.1 dX13_isText_49 (by decide) ?_
      refine lv_goto (tgt := 54) E.1 E.2.1 dX13_isText_50 (by decide) ?_
      exact J54 1 H locs ls h hW (lv_sub hl [] rfl)
theorem c_X13_isText (l : Launch) (g : GE) (z : ZE) (h0 h1 h2 h3 h4 h5 h6 h7 h8 h9 h10 h11 h12 h13 : Nat) (x_g : Nat → Int32) (x_kept : Nat → Int32) (x_saved : Nat → Int32) (x_before : Nat → Int32) (x_was : Nat → Int32) (x_region : Nat → Int32) (x_parts : Nat → Int64) (x_next : Nat → Int64) (x_ways : Nat → Int32) (x_more : Nat → Int32) (x_whole : Int64) (x_isSaved : Int32) (x_changes : Int32) (x_isWithin : Int32) (x_code : Int32) (x_input : Nat → Int32) (x_length : Int32) (x_fault : Int32) (x_failed : Int32) (x_signs : Nat → Int32) (x_signMany : Int32) (x_at : Int32) (x_told : Nat → Int32) (x_toldMany : Int32) {res : Int32 × Int32 × (Nat → Int32) × Int32} (hf : f_X13_isText x_input x_length x_at x_told x_toldMany = some res) : XI l yX13_isText wsX13_isText rm_X13_isText g z [.ref h0] (w_X13 g h0 h1 h2 h3 h4 h5 h6 h7 h8 h9 h10 h11 h12 h13 x_g x_kept x_saved x_before x_was x_region x_parts x_next x_ways x_more x_whole x_isSaved x_changes x_isWithin x_code x_input x_length x_fault x_failed x_signs x_signMany x_at x_told x_toldMany) (w_X13 g h0 h1 h2 h3 h4 h5 h6 h7 h8 h9 h10 h11 h12 h13 x_g x_kept x_saved x_before x_was x_region x_parts x_next x_ways x_more x_whole x_isSaved x_changes x_isWithin x_code x_input x_length x_fault x_failed x_signs x_signMany res.2.1 res.2.2.1 res.2.2.2) res.1 :=
  mkXI (cc := cX13_isText) (maxL := 1) (by decide) rfl (Nat.le_of_ble_eq_true rfl) (fun p e s m args below meth c A H locs ls E hK hz hC hA hW hl => k_X13_isText_0 E hK hz hC hA hf hW hl)

/-! PaperStormModel.carries(I)I X13_carries -/
abbrev rm_X13_carries : Room := { frames := 6, cells := 0, slots := 0, locals := 129 }
theorem in_X13_carries_X13 : ∀ w ∈ wsX130, w ∈ wsX13_carries := by decide +kernel
theorem lk_X13_carries_55 : Cond.fieldLink RX13 55 "PaperStormModel" "told" "[I" ∈ wsX13_carries := by decide +kernel
noncomputable def f_X13_carries (x_g : Nat → Int32) (x_kept : Nat → Int32) (x_was : Nat → Int32) (x_region : Nat → Int32) (x_parts : Nat → Int64) (x_next : Nat → Int64) (x_ways : Nat → Int32) (x_more : Nat → Int32) (x_whole : Int64) (x_changes : Int32) (x_isWithin : Int32) (x_code : Int32) (x_told : Nat → Int32) (a1 : Int32) : Option (Int32 × (Nat → Int32) × (Nat → Int32) × (Nat → Int32) × (Nat → Int32) × (Nat → Int64) × (Nat → Int64) × (Nat → Int32) × (Nat → Int32) × Int64 × Int32 × Int32) :=
  if (a1 + 1) < 0 ∨ 124 ≤ (a1 + 1).toNatClampNeg then none else if (a1 + 2) < 0 ∨ 124 ≤ (a1 + 2).toNatClampNeg then none else if (a1 + 3) < 0 ∨ 124 ≤ (a1 + 3).toNatClampNeg then none else if a1 < 0 ∨ 124 ≤ a1.toNatClampNeg then none else if (x_told a1.toNatClampNeg) = 0 then (f_X13_setPressure x_g x_kept x_changes x_isWithin x_code (x_told (a1 + 1).toNatClampNeg) (x_told (a1 + 2).toNatClampNeg) (x_told (a1 + 3).toNatClampNeg)).bind fun r89 => some (r89.1, r89.2.1, r89.2.2.1, x_was, x_region, x_parts, x_next, x_ways, x_more, x_whole, r89.2.2.2.1, r89.2.2.2.2) else if (x_told a1.toNatClampNeg) = 1 then (f_X13_foldRow x_g x_kept x_was x_changes x_isWithin x_code (x_told (a1 + 1).toNatClampNeg)).bind fun r95 => some (r95.1, r95.2.1, r95.2.2.1, r95.2.2.2.1, x_region, x_parts, x_next, x_ways, x_more, x_whole, r95.2.2.2.2.1, r95.2.2.2.2.2) else if (x_told a1.toNatClampNeg) = 2 then (f_X13_foldColumn x_g x_kept x_was x_changes x_isWithin x_code (x_told (a1 + 1).toNatClampNeg)).bind fun r101 => some (r101.1, r101.2.1, r101.2.2.1, r101.2.2.2.1, x_region, x_parts, x_next, x_ways, x_more, x_whole, r101.2.2.2.2.1, r101.2.2.2.2.2) else if (x_told a1.toNatClampNeg) = 3 then (f_X13_shift x_g x_kept x_was x_changes x_isWithin x_code ((((x_told (a1 + 1).toNatClampNeg) : Int32).toUInt32 % 65536).toInt32)).bind fun r108 => some (r108.1, r108.2.1, r108.2.2.1, r108.2.2.2.1, x_region, x_parts, x_next, x_ways, x_more, x_whole, r108.2.2.2.2.1, r108.2.2.2.2.2) else if (x_told a1.toNatClampNeg) = 4 then (f_X13_setThreshold x_g x_kept x_changes x_isWithin x_code (x_told (a1 + 1).toNatClampNeg)).bind fun r114 => some (r114.1, r114.2.1, r114.2.2.1, x_was, x_region, x_parts, x_next, x_ways, x_more, x_whole, r114.2.2.2.1, r114.2.2.2.2) else if (x_told a1.toNatClampNeg) = 5 then (f_X13_setWeight x_g x_kept x_changes x_isWithin x_code (x_told (a1 + 1).toNatClampNeg) (x_told (a1 + 2).toNatClampNeg) (x_told (a1 + 3).toNatClampNeg)).bind fun r123 => some (r123.1, r123.2.1, r123.2.2.1, x_was, x_region, x_parts, x_next, x_ways, x_more, x_whole, r123.2.2.2.1, r123.2.2.2.2) else if (x_told a1.toNatClampNeg) = 6 then (f_X13_issue x_g x_kept x_parts x_next x_ways x_more x_whole x_changes x_isWithin x_code (x_told (a1 + 1).toNatClampNeg)).bind fun r129 => some (r129.1, r129.2.1, r129.2.2.1, x_was, x_region, r129.2.2.2.1, r129.2.2.2.2.1, r129.2.2.2.2.2.1, r129.2.2.2.2.2.2.1, r129.2.2.2.2.2.2.2.1, r129.2.2.2.2.2.2.2.2.1, r129.2.2.2.2.2.2.2.2.2) else if (x_told a1.toNatClampNeg) = 7 then (f_X13_withdraw x_g x_kept x_changes x_isWithin x_code (x_told (a1 + 1).toNatClampNeg)).bind fun r135 => some (r135.1, r135.2.1, r135.2.2.1, x_was, x_region, x_parts, x_next, x_ways, x_more, x_whole, r135.2.2.2.1, r135.2.2.2.2) else if (x_told a1.toNatClampNeg) = 8 then (f_X13_observe x_g x_kept x_changes x_isWithin x_code (x_told (a1 + 1).toNatClampNeg)).bind fun r141 => some (r141.1, r141.2.1, r141.2.2.1, x_was, x_region, x_parts, x_next, x_ways, x_more, x_whole, r141.2.2.2.1, r141.2.2.2.2) else (f_X13_shown x_g x_region).bind fun r147 => (f_X13_observe x_g x_kept x_changes x_isWithin x_code r147.1).bind fun r150 => some (r150.1, r150.2.1, r150.2.2.1, x_was, r147.2, x_parts, x_next, x_ways, x_more, x_whole, r150.2.2.2.1, r150.2.2.2.2)
abbrev G_X13_carries (p : Program) (l : Launch) (e : Env) (s : State) (m : MethodId) (args : Array Value) (below : List Frame) (meth : Method) (c : Code) (g : GE) (A : Nat → Prop) (h0 h1 h2 h3 h4 h5 h6 h7 h8 h9 h10 h11 h12 h13 : Nat) (x_saved : Nat → Int32) (x_before : Nat → Int32) (x_isSaved : Int32) (x_isWithin : Int32) (x_input : Nat → Int32) (x_length : Int32) (x_fault : Int32) (x_failed : Int32) (x_signs : Nat → Int32) (x_signMany : Int32) (x_at : Int32) (x_told : Nat → Int32) (x_toldMany : Int32) (res : Int32 × (Nat → Int32) × (Nat → Int32) × (Nat → Int32) × (Nat → Int32) × (Nat → Int64) × (Nat → Int64) × (Nat → Int32) × (Nat → Int32) × Int64 × Int32 × Int32) (H : Heap) (locs : List Loc) (pc : Nat) (ls : Array Slot) (st : List Value) : Prop := W p l e (headSpec wsX13_carries rm_X13_carries).room s m args below meth c H locs 0 0 (MQ below (PoI g A (w_X13 g h0 h1 h2 h3 h4 h5 h6 h7 h8 h9 h10 h11 h12 h13 res.2.1 res.2.2.1 x_saved x_before res.2.2.2.1 res.2.2.2.2.1 res.2.2.2.2.2.1 res.2.2.2.2.2.2.1 res.2.2.2.2.2.2.2.1 res.2.2.2.2.2.2.2.2.1 res.2.2.2.2.2.2.2.2.2.1 x_isSaved res.2.2.2.2.2.2.2.2.2.2.1 x_isWithin res.2.2.2.2.2.2.2.2.2.2.2 x_input x_length x_fault x_failed x_signs x_signMany x_at x_told x_toldMany) res.1) args s 0 0 A) (F0 m pc ls st)
set_option maxHeartbeats 4000000 in
set_option maxRecDepth 100000 in
theorem k_X13_carries_0 {p : Program} {l : Launch} {e : Env} {s : State} {m : MethodId} {args : Array Value} {below : List Frame} {meth : Method} {c : Code} {g : GE} {A : Nat → Prop} {h0 h1 h2 h3 h4 h5 h6 h7 h8 h9 h10 h11 h12 h13 : Nat} {x_g : Nat → Int32} {x_kept : Nat → Int32} {x_saved : Nat → Int32} {x_before : Nat → Int32} {x_was : Nat → Int32} {x_region : Nat → Int32} {x_parts : Nat → Int64} {x_next : Nat → Int64} {x_ways : Nat → Int32} {x_more : Nat → Int32} {x_whole : Int64} {x_isSaved : Int32} {x_changes : Int32} {x_isWithin : Int32} {x_code : Int32} {x_input : Nat → Int32} {x_length : Int32} {x_fault : Int32} {x_failed : Int32} {x_signs : Nat → Int32} {x_signMany : Int32} {x_at : Int32} {x_told : Nat → Int32} {x_toldMany : Int32} {res : Int32 × (Nat → Int32) × (Nat → Int32) × (Nat → Int32) × (Nat → Int32) × (Nat → Int64) × (Nat → Int64) × (Nat → Int32) × (Nat → Int32) × Int64 × Int32 × Int32} {H : Heap} {locs : List Loc} {ls : Array Slot} {a1 : Int32}
    (E : En cX13_carries RX13 wsX13_carries 5 (some .int) p s m args meth c) (hK : KK g s) (hA : ∀ q, s.heap.size ≤ q → A q) (h : f_X13_carries x_g x_kept x_was x_region x_parts x_next x_ways x_more x_whole x_changes x_isWithin x_code x_told a1 = some res) (hW : Wo g A s H locs (w_X13 g h0 h1 h2 h3 h4 h5 h6 h7 h8 h9 h10 h11 h12 h13 x_g x_kept x_saved x_before x_was x_region x_parts x_next x_ways x_more x_whole x_isSaved x_changes x_isWithin x_code x_input x_length x_fault x_failed x_signs x_signMany x_at x_told x_toldMany)) (hl : lv_has ls 5 [(0, .ref h0), (1, .int a1)]) : G_X13_carries p l e s m args below meth c g A h0 h1 h2 h3 h4 h5 h6 h7 h8 h9 h10 h11 h12 h13 x_saved x_before x_isSaved x_isWithin x_input x_length x_fault x_failed x_signs x_signMany x_at x_told x_toldMany res H locs 0 ls [] := by
  have hts := E.2.2.2.1
  unfold f_X13_carries at h
  refine lv_aload_n E.1 E.2.1 dX13_carries_0 rfl (lv_at hl 0 rfl) ?_
  refine wGet (v := .ref h13) E hK in_X13_carries_X13 hW 22 lk_X13_carries_55 0 rfl rfl (by decide) rfl rfl dX13_carries_1 ?_
  refine lv_iload_n E.1 E.2.1 dX13_carries_4 rfl (lv_at hl 1 rfl) ?_
  refine lv_iconst (v := 1) E.1 E.2.1 dX13_carries_5 (by decide) ?_
  refine lv_iadd E.1 E.2.1 dX13_carries_6 ?_
  obtain ⟨hi7, h⟩ := ox h
  refine wIald E hK hW 13 rfl hi7 dX13_carries_7 ?_
  refine lv_istore_n (lv' := [(2, .int (x_told (a1 + 1).toNatClampNeg)), (0, .ref h0), (1, .int a1)]) E.1 E.2.1 dX13_carries_8 rfl hl (by decide) rfl (fun ls hl => ?_)
  refine lv_aload_n E.1 E.2.1 dX13_carries_9 rfl (lv_at hl 1 rfl) ?_
  refine wGet (v := .ref h13) E hK in_X13_carries_X13 hW 22 lk_X13_carries_55 0 rfl rfl (by decide) rfl rfl dX13_carries_10 ?_
  refine lv_iload_n E.1 E.2.1 dX13_carries_13 rfl (lv_at hl 2 rfl) ?_
  refine lv_iconst (v := 2) E.1 E.2.1 dX13_carries_14 (by decide) ?_
  refine lv_iadd E.1 E.2.1 dX13_carries_15 ?_
  obtain ⟨hi16, h⟩ := ox h
  refine wIald E hK hW 13 rfl hi16 dX13_carries_16 ?_
  refine lv_istore_n (lv' := [(3, .int (x_told (a1 + 2).toNatClampNeg)), (2, .int (x_told (a1 + 1).toNatClampNeg)), (0, .ref h0), (1, .int a1)]) E.1 E.2.1 dX13_carries_17 rfl hl (by decide) rfl (fun ls hl => ?_)
  refine lv_aload_n E.1 E.2.1 dX13_carries_18 rfl (lv_at hl 2 rfl) ?_
  refine wGet (v := .ref h13) E hK in_X13_carries_X13 hW 22 lk_X13_carries_55 0 rfl rfl (by decide) rfl rfl dX13_carries_19 ?_
  refine lv_iload_n E.1 E.2.1 dX13_carries_22 rfl (lv_at hl 3 rfl) ?_
  refine lv_iconst (v := 3) E.1 E.2.1 dX13_carries_23 (by decide) ?_
  refine lv_iadd E.1 E.2.1 dX13_carries_24 ?_
  obtain ⟨hi25, h⟩ := ox h
  refine wIald E hK hW 13 rfl hi25 dX13_carries_25 ?_
  refine lv_istore (lv' := [(4, .int (x_told (a1 + 3).toNatClampNeg)), (3, .int (x_told (a1 + 2).toNatClampNeg)), (2, .int (x_told (a1 + 1).toNatClampNeg)), (0, .ref h0), (1, .int a1)]) E.1 E.2.1 dX13_carries_26 hl (by decide) rfl (fun ls hl => ?_)
  refine lv_aload_n E.1 E.2.1 dX13_carries_28 rfl (lv_at hl 3 rfl) ?_
  refine wGet (v := .ref h13) E hK in_X13_carries_X13 hW 22 lk_X13_carries_55 0 rfl rfl (by decide) rfl rfl dX13_carries_29 ?_
  refine lv_iload_n E.1 E.2.1 dX13_carries_32 rfl (lv_at hl 4 rfl) ?_
  obtain ⟨hi33, h⟩ := ox h
  refine wIald E hK hW 13 rfl hi33 dX13_carries_33 ?_
  by_cases c34_0 : (x_told a1.toNatClampNeg) = 0
  · have h := it c34_0 h
    refine lv_tableIn (off := 50) (tgt := 84) E.1 E.2.1 dX13_carries_34 (by rw [c34_0]; decide) (by rw [c34_0]; decide) (by rw [c34_0]; decide) (by decide) ?_
    refine lv_aload_n E.1 E.2.1 dX13_carries_84 rfl (lv_at hl 3 rfl) ?_
    refine lv_iload_n E.1 E.2.1 dX13_carries_85 rfl (lv_at hl 2 rfl) ?_
    refine lv_iload_n E.1 E.2.1 dX13_carries_86 rfl (lv_at hl 1 rfl) ?_
    refine lv_iload E.1 E.2.1 dX13_carries_87 (lv_at hl 0 rfl) ?_
    obtain ⟨r89, hc, h⟩ := bx h
    refine goI (world' := (w_X13 g h0 h1 h2 h3 h4 h5 h6 h7 h8 h9 h10 h11 h12 h13 r89.2.1 r89.2.2.1 x_saved x_before x_was x_region x_parts x_next x_ways x_more x_whole x_isSaved r89.2.2.2.1 x_isWithin r89.2.2.2.2 x_input x_length x_fault x_failed x_signs x_signMany x_at x_told x_toldMany)) hW hA (is := [0, 1, 2, 3, 4, 5, 6, 7, 8, 9, 10, 11, 12, 13]) rfl (goV (rest := []) E hK hW [0, 1, 2, 3, 4, 5, 6, 7, 8, 9, 10, 11, 12, 13] rfl rfl (c_X13_setPressure l g h0 h1 h2 h3 h4 h5 h6 h7 h8 h9 h10 h11 h12 h13 x_g x_kept x_saved x_before x_was x_region x_parts x_next x_ways x_more x_whole x_isSaved x_changes x_isWithin x_code x_input x_length x_fault x_failed x_signs x_signMany x_at x_told x_toldMany (x_told (a1 + 1).toNatClampNeg) (x_told (a1 + 2).toNatClampNeg) (x_told (a1 + 3).toNatClampNeg) (hf := hc) H.size) (cwV 3 hts gX13_carries_X13_setPressure rfl rfl rfl (by decide +kernel) ⟨Nat.le_of_ble_eq_true rfl, Nat.le_of_ble_eq_true rfl⟩) 0 rfl rfl rfl hl.1 rfl rfl (Nat.le_of_ble_eq_true rfl) dX13_carries_89 ⟨Nat.zero_le _, Nat.zero_le _⟩) rfl rfl (fun H locs hW => ?_)
    obtain rfl := Option.some.inj h
    exact endI E rfl hW dX13_carries_92
  have h := ie c34_0 h
  by_cases c34_1 : (x_told a1.toNatClampNeg) = 1
  · have h := it c34_1 h
    refine lv_tableIn (off := 59) (tgt := 93) E.1 E.2.1 dX13_carries_34 (by rw [c34_1]; decide) (by rw [c34_1]; decide) (by rw [c34_1]; decide) (by decide) ?_
    refine lv_aload_n E.1 E.2.1 dX13_carries_93 rfl (lv_at hl 3 rfl) ?_
    refine lv_iload_n E.1 E.2.1 dX13_carries_94 rfl (lv_at hl 2 rfl) ?_
    obtain ⟨r95, hc, h⟩ := bx h
    refine goI (world' := (w_X13 g h0 h1 h2 h3 h4 h5 h6 h7 h8 h9 h10 h11 h12 h13 r95.2.1 r95.2.2.1 x_saved x_before r95.2.2.2.1 x_region x_parts x_next x_ways x_more x_whole x_isSaved r95.2.2.2.2.1 x_isWithin r95.2.2.2.2.2 x_input x_length x_fault x_failed x_signs x_signMany x_at x_told x_toldMany)) hW hA (is := [0, 1, 2, 3, 4, 5, 6, 7, 8, 9, 10, 11, 12, 13]) rfl (goV (rest := []) E hK hW [0, 1, 2, 3, 4, 5, 6, 7, 8, 9, 10, 11, 12, 13] rfl rfl (c_X13_foldRow l g h0 h1 h2 h3 h4 h5 h6 h7 h8 h9 h10 h11 h12 h13 x_g x_kept x_saved x_before x_was x_region x_parts x_next x_ways x_more x_whole x_isSaved x_changes x_isWithin x_code x_input x_length x_fault x_failed x_signs x_signMany x_at x_told x_toldMany (x_told (a1 + 1).toNatClampNeg) (hf := hc) H.size) (cwV 1 hts gX13_carries_X13_foldRow rfl rfl rfl (by decide +kernel) ⟨Nat.le_of_ble_eq_true rfl, Nat.le_of_ble_eq_true rfl⟩) 0 rfl rfl rfl hl.1 rfl rfl (Nat.le_of_ble_eq_true rfl) dX13_carries_95 ⟨Nat.zero_le _, Nat.zero_le _⟩) rfl rfl (fun H locs hW => ?_)
    obtain rfl := Option.some.inj h
    exact endI E rfl hW dX13_carries_98
  have h := ie c34_1 h
  by_cases c34_2 : (x_told a1.toNatClampNeg) = 2
  · have h := it c34_2 h
    refine lv_tableIn (off := 65) (tgt := 99) E.1 E.2.1 dX13_carries_34 (by rw [c34_2]; decide) (by rw [c34_2]; decide) (by rw [c34_2]; decide) (by decide) ?_
    refine lv_aload_n E.1 E.2.1 dX13_carries_99 rfl (lv_at hl 3 rfl) ?_
    refine lv_iload_n E.1 E.2.1 dX13_carries_100 rfl (lv_at hl 2 rfl) ?_
    obtain ⟨r101, hc, h⟩ := bx h
    refine goI (world' := (w_X13 g h0 h1 h2 h3 h4 h5 h6 h7 h8 h9 h10 h11 h12 h13 r101.2.1 r101.2.2.1 x_saved x_before r101.2.2.2.1 x_region x_parts x_next x_ways x_more x_whole x_isSaved r101.2.2.2.2.1 x_isWithin r101.2.2.2.2.2 x_input x_length x_fault x_failed x_signs x_signMany x_at x_told x_toldMany)) hW hA (is := [0, 1, 2, 3, 4, 5, 6, 7, 8, 9, 10, 11, 12, 13]) rfl (goV (rest := []) E hK hW [0, 1, 2, 3, 4, 5, 6, 7, 8, 9, 10, 11, 12, 13] rfl rfl (c_X13_foldColumn l g h0 h1 h2 h3 h4 h5 h6 h7 h8 h9 h10 h11 h12 h13 x_g x_kept x_saved x_before x_was x_region x_parts x_next x_ways x_more x_whole x_isSaved x_changes x_isWithin x_code x_input x_length x_fault x_failed x_signs x_signMany x_at x_told x_toldMany (x_told (a1 + 1).toNatClampNeg) (hf := hc) H.size) (cwV 1 hts gX13_carries_X13_foldColumn rfl rfl rfl (by decide +kernel) ⟨Nat.le_of_ble_eq_true rfl, Nat.le_of_ble_eq_true rfl⟩) 0 rfl rfl rfl hl.1 rfl rfl (Nat.le_of_ble_eq_true rfl) dX13_carries_101 ⟨Nat.zero_le _, Nat.zero_le _⟩) rfl rfl (fun H locs hW => ?_)
    obtain rfl := Option.some.inj h
    exact endI E rfl hW dX13_carries_104
  have h := ie c34_2 h
  by_cases c34_3 : (x_told a1.toNatClampNeg) = 3
  · have h := it c34_3 h
    refine lv_tableIn (off := 71) (tgt := 105) E.1 E.2.1 dX13_carries_34 (by rw [c34_3]; decide) (by rw [c34_3]; decide) (by rw [c34_3]; decide) (by decide) ?_
    refine lv_aload_n E.1 E.2.1 dX13_carries_105 rfl (lv_at hl 3 rfl) ?_
    refine lv_iload_n E.1 E.2.1 dX13_carries_106 rfl (lv_at hl 2 rfl) ?_
    refine lv_i2c (v := (((x_told (a1 + 1).toNatClampNeg) : Int32).toUInt32 % 65536).toInt32) E.1 E.2.1 dX13_carries_107 rfl ?_
    obtain ⟨r108, hc, h⟩ := bx h
    refine goI (world' := (w_X13 g h0 h1 h2 h3 h4 h5 h6 h7 h8 h9 h10 h11 h12 h13 r108.2.1 r108.2.2.1 x_saved x_before r108.2.2.2.1 x_region x_parts x_next x_ways x_more x_whole x_isSaved r108.2.2.2.2.1 x_isWithin r108.2.2.2.2.2 x_input x_length x_fault x_failed x_signs x_signMany x_at x_told x_toldMany)) hW hA (is := [0, 1, 2, 3, 4, 5, 6, 7, 8, 9, 10, 11, 12, 13]) rfl (goV (rest := []) E hK hW [0, 1, 2, 3, 4, 5, 6, 7, 8, 9, 10, 11, 12, 13] rfl rfl (c_X13_shift l g h0 h1 h2 h3 h4 h5 h6 h7 h8 h9 h10 h11 h12 h13 x_g x_kept x_saved x_before x_was x_region x_parts x_next x_ways x_more x_whole x_isSaved x_changes x_isWithin x_code x_input x_length x_fault x_failed x_signs x_signMany x_at x_told x_toldMany ((((x_told (a1 + 1).toNatClampNeg) : Int32).toUInt32 % 65536).toInt32) (hf := hc) H.size) (cwV 1 hts gX13_carries_X13_shift rfl rfl rfl (by decide +kernel) ⟨Nat.le_of_ble_eq_true rfl, Nat.le_of_ble_eq_true rfl⟩) 0 rfl rfl rfl hl.1 rfl rfl (Nat.le_of_ble_eq_true rfl) dX13_carries_108 ⟨Nat.zero_le _, Nat.zero_le _⟩) rfl rfl (fun H locs hW => ?_)
    obtain rfl := Option.some.inj h
    exact endI E rfl hW dX13_carries_111
  have h := ie c34_3 h
  by_cases c34_4 : (x_told a1.toNatClampNeg) = 4
  · have h := it c34_4 h
    refine lv_tableIn (off := 78) (tgt := 112) E.1 E.2.1 dX13_carries_34 (by rw [c34_4]; decide) (by rw [c34_4]; decide) (by rw [c34_4]; decide) (by decide) ?_
    refine lv_aload_n E.1 E.2.1 dX13_carries_112 rfl (lv_at hl 3 rfl) ?_
    refine lv_iload_n E.1 E.2.1 dX13_carries_113 rfl (lv_at hl 2 rfl) ?_
    obtain ⟨r114, hc, h⟩ := bx h
    refine goI (world' := (w_X13 g h0 h1 h2 h3 h4 h5 h6 h7 h8 h9 h10 h11 h12 h13 r114.2.1 r114.2.2.1 x_saved x_before x_was x_region x_parts x_next x_ways x_more x_whole x_isSaved r114.2.2.2.1 x_isWithin r114.2.2.2.2 x_input x_length x_fault x_failed x_signs x_signMany x_at x_told x_toldMany)) hW hA (is := [0, 1, 2, 3, 4, 5, 6, 7, 8, 9, 10, 11, 12, 13]) rfl (goV (rest := []) E hK hW [0, 1, 2, 3, 4, 5, 6, 7, 8, 9, 10, 11, 12, 13] rfl rfl (c_X13_setThreshold l g h0 h1 h2 h3 h4 h5 h6 h7 h8 h9 h10 h11 h12 h13 x_g x_kept x_saved x_before x_was x_region x_parts x_next x_ways x_more x_whole x_isSaved x_changes x_isWithin x_code x_input x_length x_fault x_failed x_signs x_signMany x_at x_told x_toldMany (x_told (a1 + 1).toNatClampNeg) (hf := hc) H.size) (cwV 1 hts gX13_carries_X13_setThreshold rfl rfl rfl (by decide +kernel) ⟨Nat.le_of_ble_eq_true rfl, Nat.le_of_ble_eq_true rfl⟩) 0 rfl rfl rfl hl.1 rfl rfl (Nat.le_of_ble_eq_true rfl) dX13_carries_114 ⟨Nat.zero_le _, Nat.zero_le _⟩) rfl rfl (fun H locs hW => ?_)
    obtain rfl := Option.some.inj h
    exact endI E rfl hW dX13_carries_117
  have h := ie c34_4 h
  by_cases c34_5 : (x_told a1.toNatClampNeg) = 5
  · have h := it c34_5 h
    refine lv_tableIn (off := 84) (tgt := 118) E.1 E.2.1 dX13_carries_34 (by rw [c34_5]; decide) (by rw [c34_5]; decide) (by rw [c34_5]; decide) (by decide) ?_
    refine lv_aload_n E.1 E.2.1 dX13_carries_118 rfl (lv_at hl 3 rfl) ?_
    refine lv_iload_n E.1 E.2.1 dX13_carries_119 rfl (lv_at hl 2 rfl) ?_
    refine lv_iload_n E.1 E.2.1 dX13_carries_120 rfl (lv_at hl 1 rfl) ?_
    refine lv_iload E.1 E.2.1 dX13_carries_121 (lv_at hl 0 rfl) ?_
    obtain ⟨r123, hc, h⟩ := bx h
    refine goI (world' := (w_X13 g h0 h1 h2 h3 h4 h5 h6 h7 h8 h9 h10 h11 h12 h13 r123.2.1 r123.2.2.1 x_saved x_before x_was x_region x_parts x_next x_ways x_more x_whole x_isSaved r123.2.2.2.1 x_isWithin r123.2.2.2.2 x_input x_length x_fault x_failed x_signs x_signMany x_at x_told x_toldMany)) hW hA (is := [0, 1, 2, 3, 4, 5, 6, 7, 8, 9, 10, 11, 12, 13]) rfl (goV (rest := []) E hK hW [0, 1, 2, 3, 4, 5, 6, 7, 8, 9, 10, 11, 12, 13] rfl rfl (c_X13_setWeight l g h0 h1 h2 h3 h4 h5 h6 h7 h8 h9 h10 h11 h12 h13 x_g x_kept x_saved x_before x_was x_region x_parts x_next x_ways x_more x_whole x_isSaved x_changes x_isWithin x_code x_input x_length x_fault x_failed x_signs x_signMany x_at x_told x_toldMany (x_told (a1 + 1).toNatClampNeg) (x_told (a1 + 2).toNatClampNeg) (x_told (a1 + 3).toNatClampNeg) (hf := hc) H.size) (cwV 3 hts gX13_carries_X13_setWeight rfl rfl rfl (by decide +kernel) ⟨Nat.le_of_ble_eq_true rfl, Nat.le_of_ble_eq_true rfl⟩) 0 rfl rfl rfl hl.1 rfl rfl (Nat.le_of_ble_eq_true rfl) dX13_carries_123 ⟨Nat.zero_le _, Nat.zero_le _⟩) rfl rfl (fun H locs hW => ?_)
    obtain rfl := Option.some.inj h
    exact endI E rfl hW dX13_carries_126
  have h := ie c34_5 h
  by_cases c34_6 : (x_told a1.toNatClampNeg) = 6
  · have h := it c34_6 h
    refine lv_tableIn (off := 93) (tgt := 127) E.1 E.2.1 dX13_carries_34 (by rw [c34_6]; decide) (by rw [c34_6]; decide) (by rw [c34_6]; decide) (by decide) ?_
    refine lv_aload_n E.1 E.2.1 dX13_carries_127 rfl (lv_at hl 3 rfl) ?_
    refine lv_iload_n E.1 E.2.1 dX13_carries_128 rfl (lv_at hl 2 rfl) ?_
    obtain ⟨r129, hc, h⟩ := bx h
    refine goI (world' := (w_X13 g h0 h1 h2 h3 h4 h5 h6 h7 h8 h9 h10 h11 h12 h13 r129.2.1 r129.2.2.1 x_saved x_before x_was x_region r129.2.2.2.1 r129.2.2.2.2.1 r129.2.2.2.2.2.1 r129.2.2.2.2.2.2.1 r129.2.2.2.2.2.2.2.1 x_isSaved r129.2.2.2.2.2.2.2.2.1 x_isWithin r129.2.2.2.2.2.2.2.2.2 x_input x_length x_fault x_failed x_signs x_signMany x_at x_told x_toldMany)) hW hA (is := [0, 1, 2, 3, 4, 5, 6, 7, 8, 9, 10, 11, 12, 13]) rfl (goV (rest := []) E hK hW [0, 1, 2, 3, 4, 5, 6, 7, 8, 9, 10, 11, 12, 13] rfl rfl (c_X13_issue l g h0 h1 h2 h3 h4 h5 h6 h7 h8 h9 h10 h11 h12 h13 x_g x_kept x_saved x_before x_was x_region x_parts x_next x_ways x_more x_whole x_isSaved x_changes x_isWithin x_code x_input x_length x_fault x_failed x_signs x_signMany x_at x_told x_toldMany (x_told (a1 + 1).toNatClampNeg) (hf := hc) H.size) (cwV 1 hts gX13_carries_X13_issue rfl rfl rfl (by decide +kernel) ⟨Nat.le_of_ble_eq_true rfl, Nat.le_of_ble_eq_true rfl⟩) 0 rfl rfl rfl hl.1 rfl rfl (Nat.le_of_ble_eq_true rfl) dX13_carries_129 ⟨Nat.zero_le _, Nat.zero_le _⟩) rfl rfl (fun H locs hW => ?_)
    obtain rfl := Option.some.inj h
    exact endI E rfl hW dX13_carries_132
  have h := ie c34_6 h
  by_cases c34_7 : (x_told a1.toNatClampNeg) = 7
  · have h := it c34_7 h
    refine lv_tableIn (off := 99) (tgt := 133) E.1 E.2.1 dX13_carries_34 (by rw [c34_7]; decide) (by rw [c34_7]; decide) (by rw [c34_7]; decide) (by decide) ?_
    refine lv_aload_n E.1 E.2.1 dX13_carries_133 rfl (lv_at hl 3 rfl) ?_
    refine lv_iload_n E.1 E.2.1 dX13_carries_134 rfl (lv_at hl 2 rfl) ?_
    obtain ⟨r135, hc, h⟩ := bx h
    refine goI (world' := (w_X13 g h0 h1 h2 h3 h4 h5 h6 h7 h8 h9 h10 h11 h12 h13 r135.2.1 r135.2.2.1 x_saved x_before x_was x_region x_parts x_next x_ways x_more x_whole x_isSaved r135.2.2.2.1 x_isWithin r135.2.2.2.2 x_input x_length x_fault x_failed x_signs x_signMany x_at x_told x_toldMany)) hW hA (is := [0, 1, 2, 3, 4, 5, 6, 7, 8, 9, 10, 11, 12, 13]) rfl (goV (rest := []) E hK hW [0, 1, 2, 3, 4, 5, 6, 7, 8, 9, 10, 11, 12, 13] rfl rfl (c_X13_withdraw l g h0 h1 h2 h3 h4 h5 h6 h7 h8 h9 h10 h11 h12 h13 x_g x_kept x_saved x_before x_was x_region x_parts x_next x_ways x_more x_whole x_isSaved x_changes x_isWithin x_code x_input x_length x_fault x_failed x_signs x_signMany x_at x_told x_toldMany (x_told (a1 + 1).toNatClampNeg) (hf := hc) H.size) (cwV 1 hts gX13_carries_X13_withdraw rfl rfl rfl (by decide +kernel) ⟨Nat.le_of_ble_eq_true rfl, Nat.le_of_ble_eq_true rfl⟩) 0 rfl rfl rfl hl.1 rfl rfl (Nat.le_of_ble_eq_true rfl) dX13_carries_135 ⟨Nat.zero_le _, Nat.zero_le _⟩) rfl rfl (fun H locs hW => ?_)
    obtain rfl := Option.some.inj h
    exact endI E rfl hW dX13_carries_138
  have h := ie c34_7 h
  by_cases c34_8 : (x_told a1.toNatClampNeg) = 8
  · have h := it c34_8 h
    refine lv_tableIn (off := 105) (tgt := 139) E.1 E.2.1 dX13_carries_34 (by rw [c34_8]; decide) (by rw [c34_8]; decide) (by rw [c34_8]; decide) (by decide) ?_
    refine lv_aload_n E.1 E.2.1 dX13_carries_139 rfl (lv_at hl 3 rfl) ?_
    refine lv_iload_n E.1 E.2.1 dX13_carries_140 rfl (lv_at hl 2 rfl) ?_
    obtain ⟨r141, hc, h⟩ := bx h
    refine goI (world' := (w_X13 g h0 h1 h2 h3 h4 h5 h6 h7 h8 h9 h10 h11 h12 h13 r141.2.1 r141.2.2.1 x_saved x_before x_was x_region x_parts x_next x_ways x_more x_whole x_isSaved r141.2.2.2.1 x_isWithin r141.2.2.2.2 x_input x_length x_fault x_failed x_signs x_signMany x_at x_told x_toldMany)) hW hA (is := [0, 1, 2, 3, 4, 5, 6, 7, 8, 9, 10, 11, 12, 13]) rfl (goV (rest := []) E hK hW [0, 1, 2, 3, 4, 5, 6, 7, 8, 9, 10, 11, 12, 13] rfl rfl (c_X13_observe l g h0 h1 h2 h3 h4 h5 h6 h7 h8 h9 h10 h11 h12 h13 x_g x_kept x_saved x_before x_was x_region x_parts x_next x_ways x_more x_whole x_isSaved x_changes x_isWithin x_code x_input x_length x_fault x_failed x_signs x_signMany x_at x_told x_toldMany (x_told (a1 + 1).toNatClampNeg) (hf := hc) H.size) (cwV 1 hts gX13_carries_X13_observe rfl rfl rfl (by decide +kernel) ⟨Nat.le_of_ble_eq_true rfl, Nat.le_of_ble_eq_true rfl⟩) 0 rfl rfl rfl hl.1 rfl rfl (Nat.le_of_ble_eq_true rfl) dX13_carries_141 ⟨Nat.zero_le _, Nat.zero_le _⟩) rfl rfl (fun H locs hW => ?_)
    obtain rfl := Option.some.inj h
    exact endI E rfl hW dX13_carries_144
  have h := ie c34_8 h
  refine lv_tableOut (tgt := 145) E.1 E.2.1 dX13_carries_34 (tabOut (lo := 0) (hi := 8) (fun k h1 h2 e => by (have q : k = 0 ∨ k = 1 ∨ k = 2 ∨ k = 3 ∨ k = 4 ∨ k = 5 ∨ k = 6 ∨ k = 7 ∨ k = 8 := by omega); (rcases q with rfl | rfl | rfl | rfl | rfl | rfl | rfl | rfl | rfl) <;> first | exact c34_0 (i32 e (by decide)) | exact c34_1 (i32 e (by decide)) | exact c34_2 (i32 e (by decide)) | exact c34_3 (i32 e (by decide)) | exact c34_4 (i32 e (by decide)) | exact c34_5 (i32 e (by decide)) | exact c34_6 (i32 e (by decide)) | exact c34_7 (i32 e (by decide)) | exact c34_8 (i32 e (by decide)))) (by decide) ?_
  refine lv_aload_n E.1 E.2.1 dX13_carries_145 rfl (lv_at hl 3 rfl) ?_
  refine lv_aload_n E.1 E.2.1 dX13_carries_146 rfl (lv_at hl 3 rfl) ?_
  obtain ⟨r147, hc, h⟩ := bx h
  refine goI (world' := (w_X13 g h0 h1 h2 h3 h4 h5 h6 h7 h8 h9 h10 h11 h12 h13 x_g x_kept x_saved x_before x_was r147.2 x_parts x_next x_ways x_more x_whole x_isSaved x_changes x_isWithin x_code x_input x_length x_fault x_failed x_signs x_signMany x_at x_told x_toldMany)) hW hA (is := [0, 1, 2, 3, 4, 5, 6, 7, 8, 9, 10, 11, 12, 13]) rfl (goV (rest := [.ref h0]) E hK hW [0, 1, 2, 3, 4, 5, 6, 7, 8, 9, 10, 11, 12, 13] rfl rfl (c_X13_shown l g h0 h1 h2 h3 h4 h5 h6 h7 h8 h9 h10 h11 h12 h13 x_g x_kept x_saved x_before x_was x_region x_parts x_next x_ways x_more x_whole x_isSaved x_changes x_isWithin x_code x_input x_length x_fault x_failed x_signs x_signMany x_at x_told x_toldMany (hf := hc) H.size) (cwV 0 hts gX13_carries_X13_shown rfl rfl rfl (by decide +kernel) ⟨Nat.le_of_ble_eq_true rfl, Nat.le_of_ble_eq_true rfl⟩) 0 rfl rfl rfl hl.1 rfl rfl (Nat.le_of_ble_eq_true rfl) dX13_carries_147 ⟨Nat.zero_le _, Nat.zero_le _⟩) rfl rfl (fun H locs hW => ?_)
  obtain ⟨r150, hc, h⟩ := bx h
  refine goI (world' := (w_X13 g h0 h1 h2 h3 h4 h5 h6 h7 h8 h9 h10 h11 h12 h13 r150.2.1 r150.2.2.1 x_saved x_before x_was r147.2 x_parts x_next x_ways x_more x_whole x_isSaved r150.2.2.2.1 x_isWithin r150.2.2.2.2 x_input x_length x_fault x_failed x_signs x_signMany x_at x_told x_toldMany)) hW hA (is := [0, 1, 2, 3, 4, 5, 6, 7, 8, 9, 10, 11, 12, 13]) rfl (goV (rest := []) E hK hW [0, 1, 2, 3, 4, 5, 6, 7, 8, 9, 10, 11, 12, 13] rfl rfl (c_X13_observe l g h0 h1 h2 h3 h4 h5 h6 h7 h8 h9 h10 h11 h12 h13 x_g x_kept x_saved x_before x_was r147.2 x_parts x_next x_ways x_more x_whole x_isSaved x_changes x_isWithin x_code x_input x_length x_fault x_failed x_signs x_signMany x_at x_told x_toldMany r147.1 (hf := hc) H.size) (cwV 1 hts gX13_carries_X13_observe rfl rfl rfl (by decide +kernel) ⟨Nat.le_of_ble_eq_true rfl, Nat.le_of_ble_eq_true rfl⟩) 0 rfl rfl rfl hl.1 rfl rfl (Nat.le_of_ble_eq_true rfl) dX13_carries_150 ⟨Nat.zero_le _, Nat.zero_le _⟩) rfl rfl (fun H locs hW => ?_)
  obtain rfl := Option.some.inj h
  exact endI E rfl hW dX13_carries_153
theorem c_X13_carries (l : Launch) (g : GE) (h0 h1 h2 h3 h4 h5 h6 h7 h8 h9 h10 h11 h12 h13 : Nat) (x_g : Nat → Int32) (x_kept : Nat → Int32) (x_saved : Nat → Int32) (x_before : Nat → Int32) (x_was : Nat → Int32) (x_region : Nat → Int32) (x_parts : Nat → Int64) (x_next : Nat → Int64) (x_ways : Nat → Int32) (x_more : Nat → Int32) (x_whole : Int64) (x_isSaved : Int32) (x_changes : Int32) (x_isWithin : Int32) (x_code : Int32) (x_input : Nat → Int32) (x_length : Int32) (x_fault : Int32) (x_failed : Int32) (x_signs : Nat → Int32) (x_signMany : Int32) (x_at : Int32) (x_told : Nat → Int32) (x_toldMany : Int32) (a1 : Int32) {res : Int32 × (Nat → Int32) × (Nat → Int32) × (Nat → Int32) × (Nat → Int32) × (Nat → Int64) × (Nat → Int64) × (Nat → Int32) × (Nat → Int32) × Int64 × Int32 × Int32} (hf : f_X13_carries x_g x_kept x_was x_region x_parts x_next x_ways x_more x_whole x_changes x_isWithin x_code x_told a1 = some res) : CI l yX13_carries wsX13_carries rm_X13_carries g [.ref h0, .int a1] (w_X13 g h0 h1 h2 h3 h4 h5 h6 h7 h8 h9 h10 h11 h12 h13 x_g x_kept x_saved x_before x_was x_region x_parts x_next x_ways x_more x_whole x_isSaved x_changes x_isWithin x_code x_input x_length x_fault x_failed x_signs x_signMany x_at x_told x_toldMany) (w_X13 g h0 h1 h2 h3 h4 h5 h6 h7 h8 h9 h10 h11 h12 h13 res.2.1 res.2.2.1 x_saved x_before res.2.2.2.1 res.2.2.2.2.1 res.2.2.2.2.2.1 res.2.2.2.2.2.2.1 res.2.2.2.2.2.2.2.1 res.2.2.2.2.2.2.2.2.1 res.2.2.2.2.2.2.2.2.2.1 x_isSaved res.2.2.2.2.2.2.2.2.2.2.1 x_isWithin res.2.2.2.2.2.2.2.2.2.2.2 x_input x_length x_fault x_failed x_signs x_signMany x_at x_told x_toldMany) res.1 :=
  mkI (cc := cX13_carries) (maxL := 5) (by decide) rfl (Nat.le_of_ble_eq_true rfl) (fun p e s m args below meth c A H locs ls E hK hA hW hl => k_X13_carries_0 E hK hA hf hW hl)

/-! PaperStormModel.execute()I X13_execute -/
abbrev rm_X13_execute : Room := { frames := 7, cells := 0, slots := 0, locals := 153 }
theorem in_X13_execute_X13 : ∀ w ∈ wsX130, w ∈ wsX13_execute := by decide +kernel
theorem lk_X13_execute_19 : Cond.fieldLink RX13 19 "PaperStormModel" "before" "[I" ∈ wsX13_execute := by decide +kernel
theorem lk_X13_execute_204 : Cond.fieldLink RX13 204 "PaperStormModel" "length" "I" ∈ wsX13_execute := by decide +kernel
theorem lk_X13_execute_206 : Cond.fieldLink RX13 206 "PaperStormModel" "at" "I" ∈ wsX13_execute := by decide +kernel
theorem lk_X13_execute_212 : Cond.fieldLink RX13 212 "PaperStormModel" "toldMany" "I" ∈ wsX13_execute := by decide +kernel
theorem lk_X13_execute_44 : Cond.fieldLink RX13 44 "PaperStormModel" "fault" "I" ∈ wsX13_execute := by decide +kernel
theorem lk_X13_execute_48 : Cond.fieldLink RX13 48 "PaperStormModel" "failed" "I" ∈ wsX13_execute := by decide +kernel
theorem lk_X13_execute_58 : Cond.fieldLink RX13 58 "PaperStormModel" "code" "I" ∈ wsX13_execute := by decide +kernel
theorem lk_X13_execute_61 : Cond.fieldLink RX13 61 "PaperStormModel" "isWithin" "Z" ∈ wsX13_execute := by decide +kernel
theorem lk_X13_execute_7 : Cond.fieldLink RX13 7 "PaperStormModel" "g" "[I" ∈ wsX13_execute := by decide +kernel
noncomputable def f_X13_execute_62 (x_isWithin : Int32) (x_told : Nat → Int32) (x_toldMany : Int32) (z98 : Int32 → Int32 → (Nat → Int32) → (Nat → Int32) → (Nat → Int32) → (Nat → Int32) → (Nat → Int64) → (Nat → Int64) → (Nat → Int32) → (Nat → Int32) → Int64 → Int32 → Int32 → Option (Int32 × (Nat → Int32) × (Nat → Int32) × (Nat → Int32) × (Nat → Int32) × (Nat → Int32) × (Nat → Int64) × (Nat → Int64) × (Nat → Int32) × (Nat → Int32) × Int64 × Int32 × Int32 × Int32 × Int32 × Int32 × Int32 × Int32 × (Nat → Int32) × Int32)) : Nat → Int32 → Int32 → (Nat → Int32) → (Nat → Int32) → (Nat → Int32) → (Nat → Int32) → (Nat → Int64) → (Nat → Int64) → (Nat → Int32) → (Nat → Int32) → Int64 → Int32 → Int32 → Option (Int32 × (Nat → Int32) × (Nat → Int32) × (Nat → Int32) × (Nat → Int32) × (Nat → Int32) × (Nat → Int64) × (Nat → Int64) × (Nat → Int32) × (Nat → Int32) × Int64 × Int32 × Int32 × Int32 × Int32 × Int32 × Int32 × Int32 × (Nat → Int32) × Int32)
  | 0, _, _, _, _, _, _, _, _, _, _, _, _, _ => none
  | n + 1, l2_62, l3_62, x_g_62, x_kept_62, x_was_62, x_region_62, x_parts_62, x_next_62, x_ways_62, x_more_62, x_whole_62, x_changes_62, x_code_62 => if x_toldMany ≤ l2_62 then z98 l2_62 l3_62 x_g_62 x_kept_62 x_was_62 x_region_62 x_parts_62 x_next_62 x_ways_62 x_more_62 x_whole_62 x_changes_62 x_code_62 else if x_code_62 = 0 then (f_X13_carries x_g_62 x_kept_62 x_was_62 x_region_62 x_parts_62 x_next_62 x_ways_62 x_more_62 x_whole_62 x_changes_62 x_isWithin x_code_62 x_told (4 * l2_62)).bind fun r81 => if r81.2.2.2.2.2.2.2.2.2.2.2 = 0 then f_X13_execute_62 x_isWithin x_told x_toldMany z98 n (l2_62 + 1) r81.1 r81.2.1 r81.2.2.1 r81.2.2.2.1 r81.2.2.2.2.1 r81.2.2.2.2.2.1 r81.2.2.2.2.2.2.1 r81.2.2.2.2.2.2.2.1 r81.2.2.2.2.2.2.2.2.1 r81.2.2.2.2.2.2.2.2.2.1 r81.2.2.2.2.2.2.2.2.2.2.1 r81.2.2.2.2.2.2.2.2.2.2.2 else f_X13_execute_62 x_isWithin x_told x_toldMany z98 n l2_62 r81.1 r81.2.1 r81.2.2.1 r81.2.2.2.1 r81.2.2.2.2.1 r81.2.2.2.2.2.1 r81.2.2.2.2.2.2.1 r81.2.2.2.2.2.2.2.1 r81.2.2.2.2.2.2.2.2.1 r81.2.2.2.2.2.2.2.2.2.1 r81.2.2.2.2.2.2.2.2.2.2.1 r81.2.2.2.2.2.2.2.2.2.2.2 else z98 l2_62 l3_62 x_g_62 x_kept_62 x_was_62 x_region_62 x_parts_62 x_next_62 x_ways_62 x_more_62 x_whole_62 x_changes_62 x_code_62
noncomputable def f_X13_execute (x_g : Nat → Int32) (x_kept : Nat → Int32) (x_before : Nat → Int32) (x_was : Nat → Int32) (x_region : Nat → Int32) (x_parts : Nat → Int64) (x_next : Nat → Int64) (x_ways : Nat → Int32) (x_more : Nat → Int32) (x_whole : Int64) (x_changes : Int32) (x_isWithin : Int32) (x_code : Int32) (x_input : Nat → Int32) (x_length : Int32) (x_fault : Int32) (x_failed : Int32) (x_at : Int32) (x_told : Nat → Int32) (x_toldMany : Int32) : Option (Int32 × (Nat → Int32) × (Nat → Int32) × (Nat → Int32) × (Nat → Int32) × (Nat → Int32) × (Nat → Int64) × (Nat → Int64) × (Nat → Int32) × (Nat → Int32) × Int64 × Int32 × Int32 × Int32 × Int32 × Int32 × Int32 × Int32 × (Nat → Int32) × Int32) :=
  jo (fun (l1_17 : Int32) (x_fault_17 : Int32) (x_at_17 : Int32) (x_told_17 : Nat → Int32) (x_toldMany_17 : Int32) => jo (fun (x_length_32 : Int32) (s1_32 : Int32) => (f_X13_fails x_code s1_32).bind fun r32 => if r32.1 = 0 then (f_X13_copies x_g x_before 60 60 0 0).bind fun r50 => f_X13_execute_62 1 x_told_17 x_toldMany_17 (fun l2_98e l3_98e x_g_98e x_kept_98e x_was_98e x_region_98e x_parts_98e x_next_98e x_ways_98e x_more_98e x_whole_98e x_changes_98e x_code_98e => if x_code_98e ≤ 0 then (f_X13_keeps__before x_kept_98e r50 x_changes_98e 0 x_code_98e).bind fun r148 => some (x_toldMany_17, x_g_98e, r148.1, r50, x_was_98e, x_region_98e, x_parts_98e, x_next_98e, x_ways_98e, x_more_98e, x_whole_98e, r148.2.1, 0, r148.2.2, x_length_32, x_fault_17, x_failed, x_at_17, x_told_17, x_toldMany_17) else jo (fun (x_g_142 : Nat → Int32) (x_code_142 : Int32) (x_failed_142 : Int32) (s0_142 : Int32) => some (s0_142, x_g_142, x_kept_98e, r50, x_was_98e, x_region_98e, x_parts_98e, x_next_98e, x_ways_98e, x_more_98e, x_whole_98e, x_changes_98e, 0, x_code_142, x_length_32, x_fault_17, x_failed_142, x_at_17, x_told_17, x_toldMany_17)) (fun j142 => (f_X13_copies r50 x_g_98e 60 60 0 0).bind fun r120 => if l3_98e ≤ 0 then j142 r120 2 l2_98e l3_98e else j142 r120 2 l2_98e 0)) 1000 0 0 x_g x_kept x_was x_region x_parts x_next x_ways x_more x_whole x_changes r32.2 else some (0, x_g, x_kept, x_before, x_was, x_region, x_parts, x_next, x_ways, x_more, x_whole, x_changes, x_isWithin, r32.2, x_length_32, x_fault_17, x_failed, x_at_17, x_told_17, x_toldMany_17)) (fun j32 => if l1_17 = 0 then j32 0 1 else j32 0 0)) (fun j17 => (f_X13_isText x_input x_length x_at x_told x_toldMany).bind fun r1 => if r1.1 = 0 then j17 r1.1 r1.2.1 r1.2.1 r1.2.2.1 r1.2.2.2 else j17 r1.1 x_fault r1.2.1 r1.2.2.1 r1.2.2.2)
abbrev G_X13_execute (p : Program) (l : Launch) (e : Env) (s : State) (m : MethodId) (args : Array Value) (below : List Frame) (meth : Method) (c : Code) (g : GE) (A : Nat → Prop) (z : ZE) (h0 h1 h2 h3 h4 h5 h6 h7 h8 h9 h10 h11 h12 h13 : Nat) (x_saved : Nat → Int32) (x_isSaved : Int32) (x_input : Nat → Int32) (x_signs : Nat → Int32) (x_signMany : Int32) (res : Int32 × (Nat → Int32) × (Nat → Int32) × (Nat → Int32) × (Nat → Int32) × (Nat → Int32) × (Nat → Int64) × (Nat → Int64) × (Nat → Int32) × (Nat → Int32) × Int64 × Int32 × Int32 × Int32 × Int32 × Int32 × Int32 × Int32 × (Nat → Int32) × Int32) (H : Heap) (locs : List Loc) (pc : Nat) (ls : Array Slot) (st : List Value) : Prop := W p l e (headSpec wsX13_execute rm_X13_execute).room s m args below meth c H locs 0 0 (MQ below (PoI g A (w_X13 g h0 h1 h2 h3 h4 h5 h6 h7 h8 h9 h10 h11 h12 h13 res.2.1 res.2.2.1 x_saved res.2.2.2.1 res.2.2.2.2.1 res.2.2.2.2.2.1 res.2.2.2.2.2.2.1 res.2.2.2.2.2.2.2.1 res.2.2.2.2.2.2.2.2.1 res.2.2.2.2.2.2.2.2.2.1 res.2.2.2.2.2.2.2.2.2.2.1 x_isSaved res.2.2.2.2.2.2.2.2.2.2.2.1 res.2.2.2.2.2.2.2.2.2.2.2.2.1 res.2.2.2.2.2.2.2.2.2.2.2.2.2.1 x_input res.2.2.2.2.2.2.2.2.2.2.2.2.2.2.1 res.2.2.2.2.2.2.2.2.2.2.2.2.2.2.2.1 res.2.2.2.2.2.2.2.2.2.2.2.2.2.2.2.2.1 x_signs x_signMany res.2.2.2.2.2.2.2.2.2.2.2.2.2.2.2.2.2.1 res.2.2.2.2.2.2.2.2.2.2.2.2.2.2.2.2.2.2.1 res.2.2.2.2.2.2.2.2.2.2.2.2.2.2.2.2.2.2.2) res.1) args s 0 0 A) (F0 m pc ls st)
set_option maxHeartbeats 4000000 in
set_option maxRecDepth 100000 in
theorem k_X13_execute_62 {p : Program} {l : Launch} {e : Env} {s : State} {m : MethodId} {args : Array Value} {below : List Frame} {meth : Method} {c : Code} {g : GE} {A : Nat → Prop} {z : ZE} {h0 h1 h2 h3 h4 h5 h6 h7 h8 h9 h10 h11 h12 h13 : Nat} {x_saved : Nat → Int32} {x_before : Nat → Int32} {x_isSaved : Int32} {x_isWithin : Int32} {x_input : Nat → Int32} {x_length : Int32} {x_fault : Int32} {x_failed : Int32} {x_signs : Nat → Int32} {x_signMany : Int32} {x_at : Int32} {x_told : Nat → Int32} {x_toldMany : Int32} {res : Int32 × (Nat → Int32) × (Nat → Int32) × (Nat → Int32) × (Nat → Int32) × (Nat → Int32) × (Nat → Int64) × (Nat → Int64) × (Nat → Int32) × (Nat → Int32) × Int64 × Int32 × Int32 × Int32 × Int32 × Int32 × Int32 × Int32 × (Nat → Int32) × Int32} {z98 : Int32 → Int32 → (Nat → Int32) → (Nat → Int32) → (Nat → Int32) → (Nat → Int32) → (Nat → Int64) → (Nat → Int64) → (Nat → Int32) → (Nat → Int32) → Int64 → Int32 → Int32 → Option (Int32 × (Nat → Int32) × (Nat → Int32) × (Nat → Int32) × (Nat → Int32) × (Nat → Int32) × (Nat → Int64) × (Nat → Int64) × (Nat → Int32) × (Nat → Int32) × Int64 × Int32 × Int32 × Int32 × Int32 × Int32 × Int32 × Int32 × (Nat → Int32) × Int32)}
    (E : En cX13_execute RX13 wsX13_execute 4 (some .int) p s m args meth c) (hK : KK g s) (hz : KS z s) (hC : CS z A s s.heap) (hA : ∀ q, s.heap.size ≤ q → A q)
    (hz98 : ∀ (l2_98e : Int32) (l3_98e : Int32) (x_g_98e : Nat → Int32) (x_kept_98e : Nat → Int32) (x_was_98e : Nat → Int32) (x_region_98e : Nat → Int32) (x_parts_98e : Nat → Int64) (x_next_98e : Nat → Int64) (x_ways_98e : Nat → Int32) (x_more_98e : Nat → Int32) (x_whole_98e : Int64) (x_changes_98e : Int32) (x_code_98e : Int32) (H : Heap) (locs : List Loc) (ls : Array Slot), z98 l2_98e l3_98e x_g_98e x_kept_98e x_was_98e x_region_98e x_parts_98e x_next_98e x_ways_98e x_more_98e x_whole_98e x_changes_98e x_code_98e = some res → Wo g A s H locs (w_X13 g h0 h1 h2 h3 h4 h5 h6 h7 h8 h9 h10 h11 h12 h13 x_g_98e x_kept_98e x_saved x_before x_was_98e x_region_98e x_parts_98e x_next_98e x_ways_98e x_more_98e x_whole_98e x_isSaved x_changes_98e x_isWithin x_code_98e x_input x_length x_fault x_failed x_signs x_signMany x_at x_told x_toldMany) → lv_has ls 4 [(0, .ref h0), (2, .int l2_98e), (3, .int l3_98e)] → G_X13_execute p l e s m args below meth c g A z h0 h1 h2 h3 h4 h5 h6 h7 h8 h9 h10 h11 h12 h13 x_saved x_isSaved x_input x_signs x_signMany res H locs 98 ls [])
    : ∀ (n : Nat) (l2_62 : Int32) (l3_62 : Int32) (x_g_62 : Nat → Int32) (x_kept_62 : Nat → Int32) (x_was_62 : Nat → Int32) (x_region_62 : Nat → Int32) (x_parts_62 : Nat → Int64) (x_next_62 : Nat → Int64) (x_ways_62 : Nat → Int32) (x_more_62 : Nat → Int32) (x_whole_62 : Int64) (x_changes_62 : Int32) (x_code_62 : Int32) (H : Heap) (locs : List Loc) (ls : Array Slot), f_X13_execute_62 x_isWithin x_told x_toldMany z98 n l2_62 l3_62 x_g_62 x_kept_62 x_was_62 x_region_62 x_parts_62 x_next_62 x_ways_62 x_more_62 x_whole_62 x_changes_62 x_code_62 = some res → Wo g A s H locs (w_X13 g h0 h1 h2 h3 h4 h5 h6 h7 h8 h9 h10 h11 h12 h13 x_g_62 x_kept_62 x_saved x_before x_was_62 x_region_62 x_parts_62 x_next_62 x_ways_62 x_more_62 x_whole_62 x_isSaved x_changes_62 x_isWithin x_code_62 x_input x_length x_fault x_failed x_signs x_signMany x_at x_told x_toldMany) → lv_has ls 4 [(0, .ref h0), (2, .int l2_62), (3, .int l3_62)] → G_X13_execute p l e s m args below meth c g A z h0 h1 h2 h3 h4 h5 h6 h7 h8 h9 h10 h11 h12 h13 x_saved x_isSaved x_input x_signs x_signMany res H locs 62 ls [] := by
  have hts := E.2.2.2.1
  intro n
  induction n with
  | zero => intro l2_62 l3_62 x_g_62 x_kept_62 x_was_62 x_region_62 x_parts_62 x_next_62 x_ways_62 x_more_62 x_whole_62 x_changes_62 x_code_62 H locs ls h hW hl; rw [f_X13_execute_62] at h; cases h
  | succ n ih =>
    intro l2_62 l3_62 x_g_62 x_kept_62 x_was_62 x_region_62 x_parts_62 x_next_62 x_ways_62 x_more_62 x_whole_62 x_changes_62 x_code_62 H locs ls h hW hl
    rw [f_X13_execute_62] at h
    refine lv_iload_n E.1 E.2.1 dX13_execute_62 rfl (lv_at hl 1 rfl) ?_
    refine lv_aload_n E.1 E.2.1 dX13_execute_63 rfl (lv_at hl 0 rfl) ?_
    refine wGet (v := .int x_toldMany) E hK in_X13_execute_X13 hW 23 lk_X13_execute_212 0 rfl rfl (by decide) rfl rfl dX13_execute_64 ?_
    refine lv_icmp_ge (tgt := 98) E.1 E.2.1 dX13_execute_67 (by decide) (fun c67 => ?_) (fun c67 => ?_)
    · have h := it c67 h
      exact hz98 l2_62 l3_62 x_g_62 x_kept_62 x_was_62 x_region_62 x_parts_62 x_next_62 x_ways_62 x_more_62 x_whole_62 x_changes_62 x_code_62 H locs ls h hW (lv_sub hl [0, 1, 2] rfl)
    · have h := ie c67 h
      refine lv_aload_n E.1 E.2.1 dX13_execute_70 rfl (lv_at hl 0 rfl) ?_
      refine wGet (v := .int x_code_62) E hK in_X13_execute_X13 hW 14 lk_X13_execute_58 0 rfl rfl (by decide) rfl rfl dX13_execute_71 ?_
      refine lv_if_ne (tgt := 98) E.1 E.2.1 dX13_execute_74 (by decide) (fun c74 => ?_) (fun c74 => ?_)
      · have h := ie c74 h
        exact hz98 l2_62 l3_62 x_g_62 x_kept_62 x_was_62 x_region_62 x_parts_62 x_next_62 x_ways_62 x_more_62 x_whole_62 x_changes_62 x_code_62 H locs ls h hW (lv_sub hl [0, 1, 2] rfl)
      · have h := it c74 h
        refine lv_aload_n E.1 E.2.1 dX13_execute_77 rfl (lv_at hl 0 rfl) ?_
        refine lv_iconst (v := 4) E.1 E.2.1 dX13_execute_78 (by decide) ?_
        refine lv_iload_n E.1 E.2.1 dX13_execute_79 rfl (lv_at hl 1 rfl) ?_
        refine lv_imul E.1 E.2.1 dX13_execute_80 ?_
        obtain ⟨r81, hc, h⟩ := bx h
        refine goI (world' := (w_X13 g h0 h1 h2 h3 h4 h5 h6 h7 h8 h9 h10 h11 h12 h13 r81.2.1 r81.2.2.1 x_saved x_before r81.2.2.2.1 r81.2.2.2.2.1 r81.2.2.2.2.2.1 r81.2.2.2.2.2.2.1 r81.2.2.2.2.2.2.2.1 r81.2.2.2.2.2.2.2.2.1 r81.2.2.2.2.2.2.2.2.2.1 x_isSaved r81.2.2.2.2.2.2.2.2.2.2.1 x_isWithin r81.2.2.2.2.2.2.2.2.2.2.2 x_input x_length x_fault x_failed x_signs x_signMany x_at x_told x_toldMany)) hW hA (is := [0, 1, 2, 3, 4, 5, 6, 7, 8, 9, 10, 11, 12, 13]) rfl (goV (rest := []) E hK hW [0, 1, 2, 3, 4, 5, 6, 7, 8, 9, 10, 11, 12, 13] rfl rfl (c_X13_carries l g h0 h1 h2 h3 h4 h5 h6 h7 h8 h9 h10 h11 h12 h13 x_g_62 x_kept_62 x_saved x_before x_was_62 x_region_62 x_parts_62 x_next_62 x_ways_62 x_more_62 x_whole_62 x_isSaved x_changes_62 x_isWithin x_code_62 x_input x_length x_fault x_failed x_signs x_signMany x_at x_told x_toldMany (4 * l2_62) (hf := hc) H.size) (cwV 1 hts gX13_execute_X13_carries rfl rfl rfl (by decide +kernel) ⟨Nat.le_of_ble_eq_true rfl, Nat.le_of_ble_eq_true rfl⟩) 0 rfl rfl rfl hl.1 rfl rfl (Nat.le_of_ble_eq_true rfl) dX13_execute_81 ⟨Nat.zero_le _, Nat.zero_le _⟩) rfl rfl (fun H locs hW => ?_)
        refine lv_istore_n (lv' := [(3, .int r81.1), (0, .ref h0), (2, .int l2_62)]) E.1 E.2.1 dX13_execute_84 rfl hl (by decide) rfl (fun ls hl => ?_)
        refine lv_aload_n E.1 E.2.1 dX13_execute_85 rfl (lv_at hl 1 rfl) ?_
        refine wGet (v := .int r81.2.2.2.2.2.2.2.2.2.2.2) E hK in_X13_execute_X13 hW 14 lk_X13_execute_58 0 rfl rfl (by decide) rfl rfl dX13_execute_86 ?_
        refine lv_if_ne (tgt := 62) E.1 E.2.1 dX13_execute_89 (by decide) (fun c89 => ?_) (fun c89 => ?_)
        · have h := ie c89 h
          exact ih l2_62 r81.1 r81.2.1 r81.2.2.1 r81.2.2.2.1 r81.2.2.2.2.1 r81.2.2.2.2.2.1 r81.2.2.2.2.2.2.1 r81.2.2.2.2.2.2.2.1 r81.2.2.2.2.2.2.2.2.1 r81.2.2.2.2.2.2.2.2.2.1 r81.2.2.2.2.2.2.2.2.2.2.1 r81.2.2.2.2.2.2.2.2.2.2.2 H locs ls h hW (lv_sub hl [1, 2, 0] rfl)
        · have h := it c89 h
          refine lv_iinc (v := (l2_62 + 1)) (lv' := [(2, .int (l2_62 + 1)), (3, .int r81.1), (0, .ref h0)]) E.1 E.2.1 dX13_execute_92 hl (k := 2) rfl rfl (by decide) rfl (fun ls hl => ?_)
          refine lv_goto (tgt := 62) E.1 E.2.1 dX13_execute_95 (by decide) ?_
          exact ih (l2_62 + 1) r81.1 r81.2.1 r81.2.2.1 r81.2.2.2.1 r81.2.2.2.2.1 r81.2.2.2.2.2.1 r81.2.2.2.2.2.2.1 r81.2.2.2.2.2.2.2.1 r81.2.2.2.2.2.2.2.2.1 r81.2.2.2.2.2.2.2.2.2.1 r81.2.2.2.2.2.2.2.2.2.2.1 r81.2.2.2.2.2.2.2.2.2.2.2 H locs ls h hW (lv_sub hl [2, 0, 1] rfl)
set_option maxHeartbeats 4000000 in
set_option maxRecDepth 100000 in
theorem k_X13_execute_0 {p : Program} {l : Launch} {e : Env} {s : State} {m : MethodId} {args : Array Value} {below : List Frame} {meth : Method} {c : Code} {g : GE} {A : Nat → Prop} {z : ZE} {h0 h1 h2 h3 h4 h5 h6 h7 h8 h9 h10 h11 h12 h13 : Nat} {x_g : Nat → Int32} {x_kept : Nat → Int32} {x_saved : Nat → Int32} {x_before : Nat → Int32} {x_was : Nat → Int32} {x_region : Nat → Int32} {x_parts : Nat → Int64} {x_next : Nat → Int64} {x_ways : Nat → Int32} {x_more : Nat → Int32} {x_whole : Int64} {x_isSaved : Int32} {x_changes : Int32} {x_isWithin : Int32} {x_code : Int32} {x_input : Nat → Int32} {x_length : Int32} {x_fault : Int32} {x_failed : Int32} {x_signs : Nat → Int32} {x_signMany : Int32} {x_at : Int32} {x_told : Nat → Int32} {x_toldMany : Int32} {res : Int32 × (Nat → Int32) × (Nat → Int32) × (Nat → Int32) × (Nat → Int32) × (Nat → Int32) × (Nat → Int64) × (Nat → Int64) × (Nat → Int32) × (Nat → Int32) × Int64 × Int32 × Int32 × Int32 × Int32 × Int32 × Int32 × Int32 × (Nat → Int32) × Int32} {H : Heap} {locs : List Loc} {ls : Array Slot} 
    (E : En cX13_execute RX13 wsX13_execute 4 (some .int) p s m args meth c) (hK : KK g s) (hz : KS z s) (hC : CS z A s s.heap) (hA : ∀ q, s.heap.size ≤ q → A q) (h : f_X13_execute x_g x_kept x_before x_was x_region x_parts x_next x_ways x_more x_whole x_changes x_isWithin x_code x_input x_length x_fault x_failed x_at x_told x_toldMany = some res) (hW : Wo g A s H locs (w_X13 g h0 h1 h2 h3 h4 h5 h6 h7 h8 h9 h10 h11 h12 h13 x_g x_kept x_saved x_before x_was x_region x_parts x_next x_ways x_more x_whole x_isSaved x_changes x_isWithin x_code x_input x_length x_fault x_failed x_signs x_signMany x_at x_told x_toldMany)) (hl : lv_has ls 4 [(0, .ref h0)]) : G_X13_execute p l e s m args below meth c g A z h0 h1 h2 h3 h4 h5 h6 h7 h8 h9 h10 h11 h12 h13 x_saved x_isSaved x_input x_signs x_signMany res H locs 0 ls [] := by
  have hts := E.2.2.2.1
  unfold f_X13_execute at h
  obtain ⟨j17, hj17, h⟩ := jox5 h
  have J17 : ∀ (l1_17 : Int32) (x_fault_17 : Int32) (x_at_17 : Int32) (x_told_17 : Nat → Int32) (x_toldMany_17 : Int32) (H : Heap) (locs : List Loc) (ls : Array Slot), j17 l1_17 x_fault_17 x_at_17 x_told_17 x_toldMany_17 = some res → Wo g A s H locs (w_X13 g h0 h1 h2 h3 h4 h5 h6 h7 h8 h9 h10 h11 h12 h13 x_g x_kept x_saved x_before x_was x_region x_parts x_next x_ways x_more x_whole x_isSaved x_changes x_isWithin x_code x_input x_length x_fault_17 x_failed x_signs x_signMany x_at_17 x_told_17 x_toldMany_17) → lv_has ls 4 [(0, .ref h0), (1, .int l1_17)] → G_X13_execute p l e s m args below meth c g A z h0 h1 h2 h3 h4 h5 h6 h7 h8 h9 h10 h11 h12 h13 x_saved x_isSaved x_input x_signs x_signMany res H locs 17 ls [] := by
    intro l1_17 x_fault_17 x_at_17 x_told_17 x_toldMany_17 H locs ls h hW hl
    rw [hj17] at h
    obtain ⟨j32, hj32, h⟩ := jox2 h
    have J32 : ∀ (x_length_32 : Int32) (s1_32 : Int32) (H : Heap) (locs : List Loc) (ls : Array Slot), j32 x_length_32 s1_32 = some res → Wo g A s H locs (w_X13 g h0 h1 h2 h3 h4 h5 h6 h7 h8 h9 h10 h11 h12 h13 x_g x_kept x_saved x_before x_was x_region x_parts x_next x_ways x_more x_whole x_isSaved x_changes x_isWithin x_code x_input x_length_32 x_fault_17 x_failed x_signs x_signMany x_at_17 x_told_17 x_toldMany_17) → lv_has ls 4 [(0, .ref h0)] → G_X13_execute p l e s m args below meth c g A z h0 h1 h2 h3 h4 h5 h6 h7 h8 h9 h10 h11 h12 h13 x_saved x_isSaved x_input x_signs x_signMany res H locs 32 ls [.int s1_32, .ref h0] := by
      intro x_length_32 s1_32 H locs ls h hW hl
      rw [hj32] at h
      obtain ⟨r32, hc, h⟩ := bx h
      refine goI (world' := (w_X13 g h0 h1 h2 h3 h4 h5 h6 h7 h8 h9 h10 h11 h12 h13 x_g x_kept x_saved x_before x_was x_region x_parts x_next x_ways x_more x_whole x_isSaved x_changes x_isWithin r32.2 x_input x_length_32 x_fault_17 x_failed x_signs x_signMany x_at_17 x_told_17 x_toldMany_17)) hW hA (is := [0, 1, 2, 3, 4, 5, 6, 7, 8, 9, 10, 11, 12, 13]) rfl (goV (rest := []) E hK hW [0, 1, 2, 3, 4, 5, 6, 7, 8, 9, 10, 11, 12, 13] rfl rfl (c_X13_fails l g h0 h1 h2 h3 h4 h5 h6 h7 h8 h9 h10 h11 h12 h13 x_g x_kept x_saved x_before x_was x_region x_parts x_next x_ways x_more x_whole x_isSaved x_changes x_isWithin x_code x_input x_length_32 x_fault_17 x_failed x_signs x_signMany x_at_17 x_told_17 x_toldMany_17 s1_32 (hf := hc) H.size) (cwV 1 hts gX13_execute_X13_fails rfl rfl rfl (by decide +kernel) ⟨Nat.le_of_ble_eq_true rfl, Nat.le_of_ble_eq_true rfl⟩) 0 rfl rfl rfl hl.1 rfl rfl (Nat.le_of_ble_eq_true rfl) dX13_execute_32 ⟨Nat.zero_le _, Nat.zero_le _⟩) rfl rfl (fun H locs hW => ?_)
      refine lv_if_eq (tgt := 40) E.1 E.2.1 dX13_execute_35 (by decide) (fun c35 => ?_) (fun c35 => ?_)
      · have h := it c35 h
        refine lv_aload_n E.1 E.2.1 dX13_execute_40 rfl (lv_at hl 0 rfl) ?_
        refine wGet (v := .ref h1) E hK in_X13_execute_X13 hW 0 lk_X13_execute_7 0 rfl rfl (by decide) rfl rfl dX13_execute_41 ?_
        refine lv_iconst (v := 0) E.1 E.2.1 dX13_execute_44 (by decide) ?_
        refine lv_aload_n E.1 E.2.1 dX13_execute_45 rfl (lv_at hl 0 rfl) ?_
        refine wGet (v := .ref h4) E hK in_X13_execute_X13 hW 3 lk_X13_execute_19 0 rfl rfl (by decide) rfl rfl dX13_execute_46 ?_
        refine lv_iconst (v := 0) E.1 E.2.1 dX13_execute_49 (by decide) ?_
        obtain ⟨r50, hc, h⟩ := bx h
        refine goU (world' := (w_X13 g h0 h1 h2 h3 h4 h5 h6 h7 h8 h9 h10 h11 h12 h13 x_g x_kept x_saved r50 x_was x_region x_parts x_next x_ways x_more x_whole x_isSaved x_changes x_isWithin r32.2 x_input x_length_32 x_fault_17 x_failed x_signs x_signMany x_at_17 x_told_17 x_toldMany_17)) hW hA (is := [1, 4]) rfl (goS (rest := []) E hK hW [1, 4] rfl rfl (c_X13_copies l g h1 h4 60 60 x_g x_before 0 0 (hf := hc) H.size) (va_cwS 4 hts gX13_execute_X13_copies rfl rfl rfl (by decide +kernel) ⟨Nat.le_of_ble_eq_true rfl, Nat.le_of_ble_eq_true rfl⟩) hl.1 rfl rfl (Nat.le_of_ble_eq_true rfl) dX13_execute_50 ⟨Nat.zero_le _, Nat.zero_le _⟩) rfl rfl (fun H locs hW => ?_)
        refine lv_aload_n E.1 E.2.1 dX13_execute_53 rfl (lv_at hl 0 rfl) ?_
        refine lv_iconst (v := 1) E.1 E.2.1 dX13_execute_54 (by decide) ?_
        refine wPut (world' := (w_X13 g h0 h1 h2 h3 h4 h5 h6 h7 h8 h9 h10 h11 h12 h13 x_g x_kept x_saved r50 x_was x_region x_parts x_next x_ways x_more x_whole x_isSaved x_changes 1 r32.2 x_input x_length_32 x_fault_17 x_failed x_signs x_signMany x_at_17 x_told_17 x_toldMany_17)) E hK in_X13_execute_X13 tyX13 tyX13_ok nmX13 hW 13 lk_X13_execute_61 0 rfl rfl (by decide) rfl rfl rfl (by decide) (by decide) (Nat.le_of_ble_eq_true rfl) dX13_execute_55 rfl (fun H locs hW => ?_)
        refine lv_iconst (v := 0) E.1 E.2.1 dX13_execute_58 (by decide) ?_
        refine lv_istore_n (lv' := [(2, .int 0), (0, .ref h0)]) E.1 E.2.1 dX13_execute_59 rfl hl (by decide) rfl (fun ls hl => ?_)
        refine lv_iconst (v := 0) E.1 E.2.1 dX13_execute_60 (by decide) ?_
        refine lv_istore_n (lv' := [(3, .int 0), (2, .int 0), (0, .ref h0)]) E.1 E.2.1 dX13_execute_61 rfl hl (by decide) rfl (fun ls hl => ?_)
        refine k_X13_execute_62 E hK hz hC hA ?_ 1000 0 0 x_g x_kept x_was x_region x_parts x_next x_ways x_more x_whole x_changes r32.2 H locs ls h hW (lv_sub hl [2, 1, 0] rfl)
        · intro l2_98e l3_98e x_g_98e x_kept_98e x_was_98e x_region_98e x_parts_98e x_next_98e x_ways_98e x_more_98e x_whole_98e x_changes_98e x_code_98e H locs ls h hW hl
          refine lv_aload_n E.1 E.2.1 dX13_execute_98 rfl (lv_at hl 0 rfl) ?_
          refine lv_iconst (v := 0) E.1 E.2.1 dX13_execute_99 (by decide) ?_
          refine wPut (world' := (w_X13 g h0 h1 h2 h3 h4 h5 h6 h7 h8 h9 h10 h11 h12 h13 x_g_98e x_kept_98e x_saved r50 x_was_98e x_region_98e x_parts_98e x_next_98e x_ways_98e x_more_98e x_whole_98e x_isSaved x_changes_98e 0 x_code_98e x_input x_length_32 x_fault_17 x_failed x_signs x_signMany x_at_17 x_told_17 x_toldMany_17)) E hK in_X13_execute_X13 tyX13 tyX13_ok nmX13 hW 13 lk_X13_execute_61 0 rfl rfl (by decide) rfl rfl rfl (by decide) (by decide) (Nat.le_of_ble_eq_true rfl) dX13_execute_100 rfl (fun H locs hW => ?_)
          refine lv_aload_n E.1 E.2.1 dX13_execute_103 rfl (lv_at hl 0 rfl) ?_
          refine wGet (v := .int x_code_98e) E hK in_X13_execute_X13 hW 14 lk_X13_execute_58 0 rfl rfl (by decide) rfl rfl dX13_execute_104 ?_
          refine lv_if_le (tgt := 143) E.1 E.2.1 dX13_execute_107 (by decide) (fun c107 => ?_) (fun c107 => ?_)
          · have h := it c107 h
            refine lv_aload_n E.1 E.2.1 dX13_execute_143 rfl (lv_at hl 0 rfl) ?_
            refine lv_aload_n E.1 E.2.1 dX13_execute_144 rfl (lv_at hl 0 rfl) ?_
            refine wGet (v := .ref h4) E hK in_X13_execute_X13 hW 3 lk_X13_execute_19 0 rfl rfl (by decide) rfl rfl dX13_execute_145 ?_
            obtain ⟨r148, hc, h⟩ := bx h
            refine goU (world' := (w_X13 g h0 h1 h2 h3 h4 h5 h6 h7 h8 h9 h10 h11 h12 h13 x_g_98e r148.1 x_saved r50 x_was_98e x_region_98e x_parts_98e x_next_98e x_ways_98e x_more_98e x_whole_98e x_isSaved r148.2.1 0 r148.2.2 x_input x_length_32 x_fault_17 x_failed x_signs x_signMany x_at_17 x_told_17 x_toldMany_17)) hW hA (is := [0, 1, 2, 3, 4, 5, 6, 7, 8, 9, 10, 11, 12, 13]) rfl (goV (rest := []) E hK hW [0, 1, 2, 3, 4, 5, 6, 7, 8, 9, 10, 11, 12, 13] rfl rfl (c_X13_keeps__before l g h0 h1 h2 h3 h4 h5 h6 h7 h8 h9 h10 h11 h12 h13 x_g_98e x_kept_98e x_saved r50 x_was_98e x_region_98e x_parts_98e x_next_98e x_ways_98e x_more_98e x_whole_98e x_isSaved x_changes_98e 0 x_code_98e x_input x_length_32 x_fault_17 x_failed x_signs x_signMany x_at_17 x_told_17 x_toldMany_17 (hf := hc) H.size) (cwV 1 hts gX13_execute_X13_keeps rfl rfl rfl (by decide +kernel) ⟨Nat.le_of_ble_eq_true rfl, Nat.le_of_ble_eq_true rfl⟩) 0 rfl rfl rfl hl.1 rfl rfl (Nat.le_of_ble_eq_true rfl) dX13_execute_148 ⟨Nat.zero_le _, Nat.zero_le _⟩) rfl rfl (fun H locs hW => ?_)
            refine lv_aload_n E.1 E.2.1 dX13_execute_151 rfl (lv_at hl 0 rfl) ?_
            refine wGet (v := .int x_toldMany_17) E hK in_X13_execute_X13 hW 23 lk_X13_execute_212 0 rfl rfl (by decide) rfl rfl dX13_execute_152 ?_
            obtain rfl := Option.some.inj h
            exact endI E rfl hW dX13_execute_155
          · have h := ie c107 h
            obtain ⟨j142, hj142, h⟩ := jox4 h
            have J142 : ∀ (x_g_142 : Nat → Int32) (x_code_142 : Int32) (x_failed_142 : Int32) (s0_142 : Int32) (H : Heap) (locs : List Loc) (ls : Array Slot), j142 x_g_142 x_code_142 x_failed_142 s0_142 = some res → Wo g A s H locs (w_X13 g h0 h1 h2 h3 h4 h5 h6 h7 h8 h9 h10 h11 h12 h13 x_g_142 x_kept_98e x_saved r50 x_was_98e x_region_98e x_parts_98e x_next_98e x_ways_98e x_more_98e x_whole_98e x_isSaved x_changes_98e 0 x_code_142 x_input x_length_32 x_fault_17 x_failed_142 x_signs x_signMany x_at_17 x_told_17 x_toldMany_17) → lv_has ls 4 [] → G_X13_execute p l e s m args below meth c g A z h0 h1 h2 h3 h4 h5 h6 h7 h8 h9 h10 h11 h12 h13 x_saved x_isSaved x_input x_signs x_signMany res H locs 142 ls [.int s0_142] := by
              intro x_g_142 x_code_142 x_failed_142 s0_142 H locs ls h hW hl
              rw [hj142] at h
              obtain rfl := Option.some.inj h
              exact endI E rfl hW dX13_execute_142
            refine lv_aload_n E.1 E.2.1 dX13_execute_110 rfl (lv_at hl 0 rfl) ?_
            refine wGet (v := .ref h4) E hK in_X13_execute_X13 hW 3 lk_X13_execute_19 0 rfl rfl (by decide) rfl rfl dX13_execute_111 ?_
            refine lv_iconst (v := 0) E.1 E.2.1 dX13_execute_114 (by decide) ?_
            refine lv_aload_n E.1 E.2.1 dX13_execute_115 rfl (lv_at hl 0 rfl) ?_
            refine wGet (v := .ref h1) E hK in_X13_execute_X13 hW 0 lk_X13_execute_7 0 rfl rfl (by decide) rfl rfl dX13_execute_116 ?_
            refine lv_iconst (v := 0) E.1 E.2.1 dX13_execute_119 (by decide) ?_
            obtain ⟨r120, hc, h⟩ := bx h
            refine goU (world' := (w_X13 g h0 h1 h2 h3 h4 h5 h6 h7 h8 h9 h10 h11 h12 h13 r120 x_kept_98e x_saved r50 x_was_98e x_region_98e x_parts_98e x_next_98e x_ways_98e x_more_98e x_whole_98e x_isSaved x_changes_98e 0 x_code_98e x_input x_length_32 x_fault_17 x_failed x_signs x_signMany x_at_17 x_told_17 x_toldMany_17)) hW hA (is := [4, 1]) rfl (goS (rest := []) E hK hW [4, 1] rfl rfl (c_X13_copies l g h4 h1 60 60 r50 x_g_98e 0 0 (hf := hc) H.size) (va_cwS 4 hts gX13_execute_X13_copies rfl rfl rfl (by decide +kernel) ⟨Nat.le_of_ble_eq_true rfl, Nat.le_of_ble_eq_true rfl⟩) hl.1 rfl rfl (Nat.le_of_ble_eq_true rfl) dX13_execute_120 ⟨Nat.zero_le _, Nat.zero_le _⟩) rfl rfl (fun H locs hW => ?_)
            refine lv_aload_n E.1 E.2.1 dX13_execute_123 rfl (lv_at hl 0 rfl) ?_
            refine lv_iload_n E.1 E.2.1 dX13_execute_124 rfl (lv_at hl 1 rfl) ?_
            refine wPut (world' := (w_X13 g h0 h1 h2 h3 h4 h5 h6 h7 h8 h9 h10 h11 h12 h13 r120 x_kept_98e x_saved r50 x_was_98e x_region_98e x_parts_98e x_next_98e x_ways_98e x_more_98e x_whole_98e x_isSaved x_changes_98e 0 x_code_98e x_input x_length_32 x_fault_17 l2_98e x_signs x_signMany x_at_17 x_told_17 x_toldMany_17)) E hK in_X13_execute_X13 tyX13 tyX13_ok nmX13 hW 18 lk_X13_execute_48 0 rfl rfl (by decide) rfl rfl rfl rfl rfl (Nat.le_of_ble_eq_true rfl) dX13_execute_125 rfl (fun H locs hW => ?_)
            refine lv_aload_n E.1 E.2.1 dX13_execute_128 rfl (lv_at hl 0 rfl) ?_
            refine lv_iconst (v := 2) E.1 E.2.1 dX13_execute_129 (by decide) ?_
            refine wPut (world' := (w_X13 g h0 h1 h2 h3 h4 h5 h6 h7 h8 h9 h10 h11 h12 h13 r120 x_kept_98e x_saved r50 x_was_98e x_region_98e x_parts_98e x_next_98e x_ways_98e x_more_98e x_whole_98e x_isSaved x_changes_98e 0 2 x_input x_length_32 x_fault_17 l2_98e x_signs x_signMany x_at_17 x_told_17 x_toldMany_17)) E hK in_X13_execute_X13 tyX13 tyX13_ok nmX13 hW 14 lk_X13_execute_58 0 rfl rfl (by decide) rfl rfl rfl rfl rfl (Nat.le_of_ble_eq_true rfl) dX13_execute_130 rfl (fun H locs hW => ?_)
            refine lv_iload_n E.1 E.2.1 dX13_execute_133 rfl (lv_at hl 2 rfl) ?_
            refine lv_if_le (tgt := 141) E.1 E.2.1 dX13_execute_134 (by decide) (fun c134 => ?_) (fun c134 => ?_)
            · have h := it c134 h
              refine lv_iload_n E.1 E.2.1 dX13_execute_141 rfl (lv_at hl 2 rfl) ?_
              exact J142 r120 2 l2_98e l3_98e H locs ls h hW (lv_sub hl [] rfl)
            · have h := ie c134 h
              refine lv_iconst (v := 0) E.1 E.2.1 dX13_execute_137 (by decide) ?_
              refine lv_goto (tgt := 142) E.1 E.2.1 dX13_execute_138 (by decide) ?_
              exact J142 r120 2 l2_98e 0 H locs ls h hW (lv_sub hl [] rfl)
      · have h := ie c35 h
        refine lv_iconst (v := 0) E.1 E.2.1 dX13_execute_38 (by decide) ?_
        obtain rfl := Option.some.inj h
        exact endI E rfl hW dX13_execute_39
    refine lv_aload_n E.1 E.2.1 dX13_execute_17 rfl (lv_at hl 0 rfl) ?_
    refine lv_iconst (v := 0) E.1 E.2.1 dX13_execute_18 (by decide) ?_
    refine wPut (world' := (w_X13 g h0 h1 h2 h3 h4 h5 h6 h7 h8 h9 h10 h11 h12 h13 x_g x_kept x_saved x_before x_was x_region x_parts x_next x_ways x_more x_whole x_isSaved x_changes x_isWithin x_code x_input 0 x_fault_17 x_failed x_signs x_signMany x_at_17 x_told_17 x_toldMany_17)) E hK in_X13_execute_X13 tyX13 tyX13_ok nmX13 hW 16 lk_X13_execute_204 0 rfl rfl (by decide) rfl rfl rfl rfl rfl (Nat.le_of_ble_eq_true rfl) dX13_execute_19 rfl (fun H locs hW => ?_)
    refine lv_aload_n E.1 E.2.1 dX13_execute_22 rfl (lv_at hl 0 rfl) ?_
    refine lv_iload_n E.1 E.2.1 dX13_execute_23 rfl (lv_at hl 1 rfl) ?_
    refine lv_if_eq (tgt := 31) E.1 E.2.1 dX13_execute_24 (by decide) (fun c24 => ?_) (fun c24 => ?_)
    · have h := it c24 h
      refine lv_iconst (v := 1) E.1 E.2.1 dX13_execute_31 (by decide) ?_
      exact J32 0 1 H locs ls h hW (lv_sub hl [0] rfl)
    · have h := ie c24 h
      refine lv_iconst (v := 0) E.1 E.2.1 dX13_execute_27 (by decide) ?_
      refine lv_goto (tgt := 32) E.1 E.2.1 dX13_execute_28 (by decide) ?_
      exact J32 0 0 H locs ls h hW (lv_sub hl [0] rfl)
  refine lv_aload_n E.1 E.2.1 dX13_execute_0 rfl (lv_at hl 0 rfl) ?_
  obtain ⟨r1, hc, h⟩ := bx h
  refine goI (world' := (w_X13 g h0 h1 h2 h3 h4 h5 h6 h7 h8 h9 h10 h11 h12 h13 x_g x_kept x_saved x_before x_was x_region x_parts x_next x_ways x_more x_whole x_isSaved x_changes x_isWithin x_code x_input x_length x_fault x_failed x_signs x_signMany r1.2.1 r1.2.2.1 r1.2.2.2)) hW hA (is := [0, 1, 2, 3, 4, 5, 6, 7, 8, 9, 10, 11, 12, 13]) rfl (goVX (rest := []) E hK hz hC hA hW [0, 1, 2, 3, 4, 5, 6, 7, 8, 9, 10, 11, 12, 13] rfl rfl (c_X13_isText l g z h0 h1 h2 h3 h4 h5 h6 h7 h8 h9 h10 h11 h12 h13 x_g x_kept x_saved x_before x_was x_region x_parts x_next x_ways x_more x_whole x_isSaved x_changes x_isWithin x_code x_input x_length x_fault x_failed x_signs x_signMany x_at x_told x_toldMany (hf := hc) H.size) (cwV 0 hts gX13_execute_X13_isText rfl rfl rfl (by decide +kernel) ⟨Nat.le_of_ble_eq_true rfl, Nat.le_of_ble_eq_true rfl⟩) 0 rfl rfl rfl hl.1 rfl rfl (Nat.le_of_ble_eq_true rfl) dX13_execute_1 ⟨Nat.zero_le _, Nat.zero_le _⟩) rfl rfl (fun H locs hW => ?_)
  refine lv_istore_n (lv' := [(1, .int r1.1), (0, .ref h0)]) E.1 E.2.1 dX13_execute_4 rfl hl (by decide) rfl (fun ls hl => ?_)
  refine lv_iload_n E.1 E.2.1 dX13_execute_5 rfl (lv_at hl 0 rfl) ?_
  refine lv_if_ne (tgt := 17) E.1 E.2.1 dX13_execute_6 (by decide) (fun c6 => ?_) (fun c6 => ?_)
  · have h := ie c6 h
    exact J17 r1.1 x_fault r1.2.1 r1.2.2.1 r1.2.2.2 H locs ls h hW (lv_sub hl [1, 0] rfl)
  · have h := it c6 h
    refine lv_aload_n E.1 E.2.1 dX13_execute_9 rfl (lv_at hl 1 rfl) ?_
    refine lv_aload_n E.1 E.2.1 dX13_execute_10 rfl (lv_at hl 1 rfl) ?_
    refine wGet (v := .int r1.2.1) E hK in_X13_execute_X13 hW 21 lk_X13_execute_206 0 rfl rfl (by decide) rfl rfl dX13_execute_11 ?_
    refine wPut (world' := (w_X13 g h0 h1 h2 h3 h4 h5 h6 h7 h8 h9 h10 h11 h12 h13 x_g x_kept x_saved x_before x_was x_region x_parts x_next x_ways x_more x_whole x_isSaved x_changes x_isWithin x_code x_input x_length r1.2.1 x_failed x_signs x_signMany r1.2.1 r1.2.2.1 r1.2.2.2)) E hK in_X13_execute_X13 tyX13 tyX13_ok nmX13 hW 17 lk_X13_execute_44 0 rfl rfl (by decide) rfl rfl rfl rfl rfl (Nat.le_of_ble_eq_true rfl) dX13_execute_14 rfl (fun H locs hW => ?_)
    exact J17 r1.1 r1.2.1 r1.2.1 r1.2.2.1 r1.2.2.2 H locs ls h hW (lv_sub hl [1, 0] rfl)
theorem c_X13_execute (l : Launch) (g : GE) (z : ZE) (h0 h1 h2 h3 h4 h5 h6 h7 h8 h9 h10 h11 h12 h13 : Nat) (x_g : Nat → Int32) (x_kept : Nat → Int32) (x_saved : Nat → Int32) (x_before : Nat → Int32) (x_was : Nat → Int32) (x_region : Nat → Int32) (x_parts : Nat → Int64) (x_next : Nat → Int64) (x_ways : Nat → Int32) (x_more : Nat → Int32) (x_whole : Int64) (x_isSaved : Int32) (x_changes : Int32) (x_isWithin : Int32) (x_code : Int32) (x_input : Nat → Int32) (x_length : Int32) (x_fault : Int32) (x_failed : Int32) (x_signs : Nat → Int32) (x_signMany : Int32) (x_at : Int32) (x_told : Nat → Int32) (x_toldMany : Int32) {res : Int32 × (Nat → Int32) × (Nat → Int32) × (Nat → Int32) × (Nat → Int32) × (Nat → Int32) × (Nat → Int64) × (Nat → Int64) × (Nat → Int32) × (Nat → Int32) × Int64 × Int32 × Int32 × Int32 × Int32 × Int32 × Int32 × Int32 × (Nat → Int32) × Int32} (hf : f_X13_execute x_g x_kept x_before x_was x_region x_parts x_next x_ways x_more x_whole x_changes x_isWithin x_code x_input x_length x_fault x_failed x_at x_told x_toldMany = some res) : XI l yX13_execute wsX13_execute rm_X13_execute g z [.ref h0] (w_X13 g h0 h1 h2 h3 h4 h5 h6 h7 h8 h9 h10 h11 h12 h13 x_g x_kept x_saved x_before x_was x_region x_parts x_next x_ways x_more x_whole x_isSaved x_changes x_isWithin x_code x_input x_length x_fault x_failed x_signs x_signMany x_at x_told x_toldMany) (w_X13 g h0 h1 h2 h3 h4 h5 h6 h7 h8 h9 h10 h11 h12 h13 res.2.1 res.2.2.1 x_saved res.2.2.2.1 res.2.2.2.2.1 res.2.2.2.2.2.1 res.2.2.2.2.2.2.1 res.2.2.2.2.2.2.2.1 res.2.2.2.2.2.2.2.2.1 res.2.2.2.2.2.2.2.2.2.1 res.2.2.2.2.2.2.2.2.2.2.1 x_isSaved res.2.2.2.2.2.2.2.2.2.2.2.1 res.2.2.2.2.2.2.2.2.2.2.2.2.1 res.2.2.2.2.2.2.2.2.2.2.2.2.2.1 x_input res.2.2.2.2.2.2.2.2.2.2.2.2.2.2.1 res.2.2.2.2.2.2.2.2.2.2.2.2.2.2.2.1 res.2.2.2.2.2.2.2.2.2.2.2.2.2.2.2.2.1 x_signs x_signMany res.2.2.2.2.2.2.2.2.2.2.2.2.2.2.2.2.2.1 res.2.2.2.2.2.2.2.2.2.2.2.2.2.2.2.2.2.2.1 res.2.2.2.2.2.2.2.2.2.2.2.2.2.2.2.2.2.2.2) res.1 :=
  mkXI (cc := cX13_execute) (maxL := 4) (by decide) rfl (Nat.le_of_ble_eq_true rfl) (fun p e s m args below meth c A H locs ls E hK hz hC hA hW hl => k_X13_execute_0 E hK hz hC hA hf hW hl)

