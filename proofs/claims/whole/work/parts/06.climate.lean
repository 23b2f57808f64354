/-! PaperStorm$Climate.isWeather(I)Z X2_isWeather -/
abbrev rm_X2_isWeather : Room := { frames := 0, cells := 0, slots := 0, locals := 0 }
noncomputable def f_X2_isWeather (a0 : Int32) : Option (Int32) :=
  jo (fun (s0_14 : Int32) => if ¬ vp_nar .boolean s0_14 = s0_14 then none else some (s0_14)) (fun j14 => jo (j14 0) (fun j13 => if a0 < 0 then j13 else if 4 ≤ a0 then j13 else j14 1))
abbrev G_X2_isWeather (p : Program) (l : Launch) (e : Env) (s : State) (m : MethodId) (args : Array Value) (below : List Frame) (meth : Method) (c : Code) (g : GE) (A : Nat → Prop) (res : Int32) (H : Heap) (locs : List Loc) (pc : Nat) (ls : Array Slot) (st : List Value) : Prop := W p l e (headSpec wsX2_isWeather rm_X2_isWeather).room s m args below meth c H locs 0 0 (MQ below (PoI g A ([] : va_W) res) args s 0 0 A) (F0 m pc ls st)
set_option maxHeartbeats 4000000 in
set_option maxRecDepth 100000 in
theorem k_X2_isWeather_0 {p : Program} {l : Launch} {e : Env} {s : State} {m : MethodId} {args : Array Value} {below : List Frame} {meth : Method} {c : Code} {g : GE} {A : Nat → Prop} {res : Int32} {H : Heap} {locs : List Loc} {ls : Array Slot} {a0 : Int32}
    (E : En cX2_isWeather RX2 wsX2_isWeather 1 (some .boolean) p s m args meth c) (hK : KK g s) (hA : ∀ q, s.heap.size ≤ q → A q) (h : f_X2_isWeather a0 = some res) (hW : Wo g A s H locs ([] : va_W)) (hl : lv_has ls 1 [(0, .int a0)]) : G_X2_isWeather p l e s m args below meth c g A res H locs 0 ls [] := by
  have hts := E.2.2.2.1
  unfold f_X2_isWeather at h
  obtain ⟨j14, hj14, h⟩ := jox1 h
  have J14 : ∀ (s0_14 : Int32) (H : Heap) (locs : List Loc) (ls : Array Slot), j14 s0_14 = some res → Wo g A s H locs ([] : va_W) → lv_has ls 1 [] → G_X2_isWeather p l e s m args below meth c g A res H locs 14 ls [.int s0_14] := by
    intro s0_14 H locs ls h hW hl
    rw [hj14] at h
    obtain ⟨hz, h⟩ := ox h
    obtain rfl := Option.some.inj h
    exact endI E (nar_z (Decidable.not_not.mp hz)) hW dX2_isWeather_14
  obtain ⟨j13, hj13, h⟩ := jox0 h
  have J13 : ∀ (H : Heap) (locs : List Loc) (ls : Array Slot), j13 = some res → Wo g A s H locs ([] : va_W) → lv_has ls 1 [] → G_X2_isWeather p l e s m args below meth c g A res H locs 13 ls [] := by
    intro H locs ls h hW hl
    rw [hj13] at h
    refine lv_iconst (v := 0) E.1 E.2.1 dX2_isWeather_13 (by decide) ?_
    exact J14 0 H locs ls h hW (lv_sub hl [] rfl)
  refine lv_iload_n E.1 E.2.1 dX2_isWeather_0 rfl (lv_at hl 0 rfl) ?_
  refine lv_if_lt (tgt := 13) E.1 E.2.1 dX2_isWeather_1 (by decide) (fun c1 => ?_) (fun c1 => ?_)
  · have h := it c1 h
    exact J13  H locs ls h hW (lv_sub hl [] rfl)
  · have h := ie c1 h
    refine lv_iload_n E.1 E.2.1 dX2_isWeather_4 rfl (lv_at hl 0 rfl) ?_
    refine lv_iconst (v := 4) E.1 E.2.1 dX2_isWeather_5 (by decide) ?_
    refine lv_icmp_ge (tgt := 13) E.1 E.2.1 dX2_isWeather_6 (by decide) (fun c6 => ?_) (fun c6 => ?_)
    · have h := it c6 h
      exact J13  H locs ls h hW (lv_sub hl [] rfl)
    · have h := ie c6 h
      refine lv_iconst (v := 1) E.1 E.2.1 dX2_isWeather_9 (by decide) ?_
      refine lv_goto (tgt := 14) E.1 E.2.1 dX2_isWeather_10 (by decide) ?_
      exact J14 1 H locs ls h hW (lv_sub hl [] rfl)
theorem c_X2_isWeather (l : Launch) (g : GE) (a0 : Int32) {res : Int32} (hf : f_X2_isWeather a0 = some res) : CI l yX2_isWeather wsX2_isWeather rm_X2_isWeather g [.int a0] ([] : va_W) ([] : va_W) res :=
  mkI (cc := cX2_isWeather) (maxL := 1) (by decide) rfl (Nat.le_of_ble_eq_true rfl) (fun p e s m args below meth c A H locs ls E hK hA hW hl => k_X2_isWeather_0 E hK hA hf hW hl)

/-! PaperStorm$Climate.isWeight(I)Z X2_isWeight -/
abbrev rm_X2_isWeight : Room := { frames := 0, cells := 0, slots := 0, locals := 0 }
noncomputable def f_X2_isWeight (a0 : Int32) : Option (Int32) :=
  jo (fun (s0_14 : Int32) => if ¬ vp_nar .boolean s0_14 = s0_14 then none else some (s0_14)) (fun j14 => jo (j14 0) (fun j13 => if a0 < 0 then j13 else if 3 < a0 then j13 else j14 1))
abbrev G_X2_isWeight (p : Program) (l : Launch) (e : Env) (s : State) (m : MethodId) (args : Array Value) (below : List Frame) (meth : Method) (c : Code) (g : GE) (A : Nat → Prop) (res : Int32) (H : Heap) (locs : List Loc) (pc : Nat) (ls : Array Slot) (st : List Value) : Prop := W p l e (headSpec wsX2_isWeight rm_X2_isWeight).room s m args below meth c H locs 0 0 (MQ below (PoI g A ([] : va_W) res) args s 0 0 A) (F0 m pc ls st)
set_option maxHeartbeats 4000000 in
set_option maxRecDepth 100000 in
theorem k_X2_isWeight_0 {p : Program} {l : Launch} {e : Env} {s : State} {m : MethodId} {args : Array Value} {below : List Frame} {meth : Method} {c : Code} {g : GE} {A : Nat → Prop} {res : Int32} {H : Heap} {locs : List Loc} {ls : Array Slot} {a0 : Int32}
    (E : En cX2_isWeight RX2 wsX2_isWeight 1 (some .boolean) p s m args meth c) (hK : KK g s) (hA : ∀ q, s.heap.size ≤ q → A q) (h : f_X2_isWeight a0 = some res) (hW : Wo g A s H locs ([] : va_W)) (hl : lv_has ls 1 [(0, .int a0)]) : G_X2_isWeight p l e s m args below meth c g A res H locs 0 ls [] := by
  have hts := E.2.2.2.1
  unfold f_X2_isWeight at h
  obtain ⟨j14, hj14, h⟩ := jox1 h
  have J14 : ∀ (s0_14 : Int32) (H : Heap) (locs : List Loc) (ls : Array Slot), j14 s0_14 = some res → Wo g A s H locs ([] : va_W) → lv_has ls 1 [] → G_X2_isWeight p l e s m args below meth c g A res H locs 14 ls [.int s0_14] := by
    intro s0_14 H locs ls h hW hl
    rw [hj14] at h
    obtain ⟨hz, h⟩ := ox h
    obtain rfl := Option.some.inj h
    exact endI E (nar_z (Decidable.not_not.mp hz)) hW dX2_isWeight_14
  obtain ⟨j13, hj13, h⟩ := jox0 h
  have J13 : ∀ (H : Heap) (locs : List Loc) (ls : Array Slot), j13 = some res → Wo g A s H locs ([] : va_W) → lv_has ls 1 [] → G_X2_isWeight p l e s m args below meth c g A res H locs 13 ls [] := by
    intro H locs ls h hW hl
    rw [hj13] at h
    refine lv_iconst (v := 0) E.1 E.2.1 dX2_isWeight_13 (by decide) ?_
    exact J14 0 H locs ls h hW (lv_sub hl [] rfl)
  refine lv_iload_n E.1 E.2.1 dX2_isWeight_0 rfl (lv_at hl 0 rfl) ?_
  refine lv_if_lt (tgt := 13) E.1 E.2.1 dX2_isWeight_1 (by decide) (fun c1 => ?_) (fun c1 => ?_)
  · have h := it c1 h
    exact J13  H locs ls h hW (lv_sub hl [] rfl)
  · have h := ie c1 h
    refine lv_iload_n E.1 E.2.1 dX2_isWeight_4 rfl (lv_at hl 0 rfl) ?_
    refine lv_iconst (v := 3) E.1 E.2.1 dX2_isWeight_5 (by decide) ?_
    refine lv_icmp_gt (tgt := 13) E.1 E.2.1 dX2_isWeight_6 (by decide) (fun c6 => ?_) (fun c6 => ?_)
    · have h := it c6 h
      exact J13  H locs ls h hW (lv_sub hl [] rfl)
    · have h := ie c6 h
      refine lv_iconst (v := 1) E.1 E.2.1 dX2_isWeight_9 (by decide) ?_
      refine lv_goto (tgt := 14) E.1 E.2.1 dX2_isWeight_10 (by decide) ?_
      exact J14 1 H locs ls h hW (lv_sub hl [] rfl)
theorem c_X2_isWeight (l : Launch) (g : GE) (a0 : Int32) {res : Int32} (hf : f_X2_isWeight a0 = some res) : CI l yX2_isWeight wsX2_isWeight rm_X2_isWeight g [.int a0] ([] : va_W) ([] : va_W) res :=
  mkI (cc := cX2_isWeight) (maxL := 1) (by decide) rfl (Nat.le_of_ble_eq_true rfl) (fun p e s m args below meth c A H locs ls E hK hA hW hl => k_X2_isWeight_0 E hK hA hf hW hl)

/-! PaperStorm$Climate.isAhead(I)Z X2_isAhead -/
abbrev rm_X2_isAhead : Room := { frames := 0, cells := 0, slots := 0, locals := 0 }
noncomputable def f_X2_isAhead (a0 : Int32) : Option (Int32) :=
  jo (fun (s0_15 : Int32) => if ¬ vp_nar .boolean s0_15 = s0_15 then none else some (s0_15)) (fun j15 => jo (j15 0) (fun j14 => if a0 < 1 then j14 else if 3 < a0 then j14 else j15 1))
abbrev G_X2_isAhead (p : Program) (l : Launch) (e : Env) (s : State) (m : MethodId) (args : Array Value) (below : List Frame) (meth : Method) (c : Code) (g : GE) (A : Nat → Prop) (res : Int32) (H : Heap) (locs : List Loc) (pc : Nat) (ls : Array Slot) (st : List Value) : Prop := W p l e (headSpec wsX2_isAhead rm_X2_isAhead).room s m args below meth c H locs 0 0 (MQ below (PoI g A ([] : va_W) res) args s 0 0 A) (F0 m pc ls st)
set_option maxHeartbeats 4000000 in
set_option maxRecDepth 100000 in
theorem k_X2_isAhead_0 {p : Program} {l : Launch} {e : Env} {s : State} {m : MethodId} {args : Array Value} {below : List Frame} {meth : Method} {c : Code} {g : GE} {A : Nat → Prop} {res : Int32} {H : Heap} {locs : List Loc} {ls : Array Slot} {a0 : Int32}
    (E : En cX2_isAhead RX2 wsX2_isAhead 1 (some .boolean) p s m args meth c) (hK : KK g s) (hA : ∀ q, s.heap.size ≤ q → A q) (h : f_X2_isAhead a0 = some res) (hW : Wo g A s H locs ([] : va_W)) (hl : lv_has ls 1 [(0, .int a0)]) : G_X2_isAhead p l e s m args below meth c g A res H locs 0 ls [] := by
  have hts := E.2.2.2.1
  unfold f_X2_isAhead at h
  obtain ⟨j15, hj15, h⟩ := jox1 h
  have J15 : ∀ (s0_15 : Int32) (H : Heap) (locs : List Loc) (ls : Array Slot), j15 s0_15 = some res → Wo g A s H locs ([] : va_W) → lv_has ls 1 [] → G_X2_isAhead p l e s m args below meth c g A res H locs 15 ls [.int s0_15] := by
    intro s0_15 H locs ls h hW hl
    rw [hj15] at h
    obtain ⟨hz, h⟩ := ox h
    obtain rfl := Option.some.inj h
    exact endI E (nar_z (Decidable.not_not.mp hz)) hW dX2_isAhead_15
  obtain ⟨j14, hj14, h⟩ := jox0 h
  have J14 : ∀ (H : Heap) (locs : List Loc) (ls : Array Slot), j14 = some res → Wo g A s H locs ([] : va_W) → lv_has ls 1 [] → G_X2_isAhead p l e s m args below meth c g A res H locs 14 ls [] := by
    intro H locs ls h hW hl
    rw [hj14] at h
    refine lv_iconst (v := 0) E.1 E.2.1 dX2_isAhead_14 (by decide) ?_
    exact J15 0 H locs ls h hW (lv_sub hl [] rfl)
  refine lv_iload_n E.1 E.2.1 dX2_isAhead_0 rfl (lv_at hl 0 rfl) ?_
  refine lv_iconst (v := 1) E.1 E.2.1 dX2_isAhead_1 (by decide) ?_
  refine lv_icmp_lt (tgt := 14) E.1 E.2.1 dX2_isAhead_2 (by decide) (fun c2 => ?_) (fun c2 => ?_)
  · have h := it c2 h
    exact J14  H locs ls h hW (lv_sub hl [] rfl)
  · have h := ie c2 h
    refine lv_iload_n E.1 E.2.1 dX2_isAhead_5 rfl (lv_at hl 0 rfl) ?_
    refine lv_iconst (v := 3) E.1 E.2.1 dX2_isAhead_6 (by decide) ?_
    refine lv_icmp_gt (tgt := 14) E.1 E.2.1 dX2_isAhead_7 (by decide) (fun c7 => ?_) (fun c7 => ?_)
    · have h := it c7 h
      exact J14  H locs ls h hW (lv_sub hl [] rfl)
    · have h := ie c7 h
      refine lv_iconst (v := 1) E.1 E.2.1 dX2_isAhead_10 (by decide) ?_
      refine lv_goto (tgt := 15) E.1 E.2.1 dX2_isAhead_11 (by decide) ?_
      exact J15 1 H locs ls h hW (lv_sub hl [] rfl)
theorem c_X2_isAhead (l : Launch) (g : GE) (a0 : Int32) {res : Int32} (hf : f_X2_isAhead a0 = some res) : CI l yX2_isAhead wsX2_isAhead rm_X2_isAhead g [.int a0] ([] : va_W) ([] : va_W) res :=
  mkI (cc := cX2_isAhead) (maxL := 1) (by decide) rfl (Nat.le_of_ble_eq_true rfl) (fun p e s m args below meth c A H locs ls E hK hA hW hl => k_X2_isAhead_0 E hK hA hf hW hl)

/-! PaperStorm$Climate.copyFrom(LPaperStorm$Climate;)V X2_copyFrom -/
abbrev rm_X2_copyFrom : Room := { frames := 0, cells := 0, slots := 0, locals := 0 }
theorem in_X2_copyFrom_X2 : ∀ w ∈ wsX20, w ∈ wsX2_copyFrom := by decide +kernel
theorem lk_X2_copyFrom_15 : Cond.fieldLink RX2 15 "PaperStorm$Climate" "present" "I" ∈ wsX2_copyFrom := by decide +kernel
theorem lk_X2_copyFrom_9 : Cond.fieldLink RX2 9 "PaperStorm$Climate" "weights" "[I" ∈ wsX2_copyFrom := by decide +kernel
noncomputable def f_X2_copyFrom_2 (x_a1_weights : Nat → Int32) (z26 : (Nat → Int32) → Option ((Nat → Int32) × Int32)) : Nat → Int32 → (Nat → Int32) → Option ((Nat → Int32) × Int32)
  | 0, _, _ => none
  | n + 1, l2_2, x_weights_2 => if 16 ≤ l2_2 then z26 x_weights_2 else if l2_2 < 0 ∨ 16 ≤ l2_2.toNatClampNeg then none else f_X2_copyFrom_2 x_a1_weights z26 n (l2_2 + 1) (upd x_weights_2 l2_2.toNatClampNeg (x_a1_weights l2_2.toNatClampNeg))
noncomputable def f_X2_copyFrom (x_weights : Nat → Int32) (x_present : Int32) (x_a1_weights : Nat → Int32) (x_a1_present : Int32) : Option ((Nat → Int32) × Int32) :=
  f_X2_copyFrom_2 x_a1_weights (fun x_weights_26e => some (x_weights_26e, x_a1_present)) 1000 0 x_weights
abbrev G_X2_copyFrom (p : Program) (l : Launch) (e : Env) (s : State) (m : MethodId) (args : Array Value) (below : List Frame) (meth : Method) (c : Code) (g : GE) (A : Nat → Prop) (h0 h1 h2 h3 : Nat) (x_a1_weights : Nat → Int32) (x_a1_present : Int32) (res : (Nat → Int32) × Int32) (H : Heap) (locs : List Loc) (pc : Nat) (ls : Array Slot) (st : List Value) : Prop := W p l e (headSpec wsX2_copyFrom rm_X2_copyFrom).room s m args below meth c H locs 0 0 (MQ below (PoV g A ((w_X2 g h0 h1 res.1 res.2) ++ (w_X2 g h2 h3 x_a1_weights x_a1_present))) args s 0 0 A) (F0 m pc ls st)
set_option maxHeartbeats 4000000 in
set_option maxRecDepth 100000 in
theorem k_X2_copyFrom_2 {p : Program} {l : Launch} {e : Env} {s : State} {m : MethodId} {args : Array Value} {below : List Frame} {meth : Method} {c : Code} {g : GE} {A : Nat → Prop} {h0 h1 h2 h3 : Nat} {x_present : Int32} {x_a1_weights : Nat → Int32} {x_a1_present : Int32} {res : (Nat → Int32) × Int32} {z26 : (Nat → Int32) → Option ((Nat → Int32) × Int32)}
    (E : En cX2_copyFrom RX2 wsX2_copyFrom 3 none p s m args meth c) (hK : KK g s) (hA : ∀ q, s.heap.size ≤ q → A q)
    (hz26 : ∀ (x_weights_26e : Nat → Int32) (H : Heap) (locs : List Loc) (ls : Array Slot), z26 x_weights_26e = some res → Wo g A s H locs ((w_X2 g h0 h1 x_weights_26e x_present) ++ (w_X2 g h2 h3 x_a1_weights x_a1_present)) → lv_has ls 3 [(0, .ref h0), (1, .ref h2)] → G_X2_copyFrom p l e s m args below meth c g A h0 h1 h2 h3 x_a1_weights x_a1_present res H locs 26 ls [])
    : ∀ (n : Nat) (l2_2 : Int32) (x_weights_2 : Nat → Int32) (H : Heap) (locs : List Loc) (ls : Array Slot), f_X2_copyFrom_2 x_a1_weights z26 n l2_2 x_weights_2 = some res → Wo g A s H locs ((w_X2 g h0 h1 x_weights_2 x_present) ++ (w_X2 g h2 h3 x_a1_weights x_a1_present)) → lv_has ls 3 [(0, .ref h0), (1, .ref h2), (2, .int l2_2)] → G_X2_copyFrom p l e s m args below meth c g A h0 h1 h2 h3 x_a1_weights x_a1_present res H locs 2 ls [] := by
  have hts := E.2.2.2.1
  intro n
  induction n with
  | zero => intro l2_2 x_weights_2 H locs ls h hW hl; rw [f_X2_copyFrom_2] at h; cases h
  | succ n ih =>
    intro l2_2 x_weights_2 H locs ls h hW hl
    rw [f_X2_copyFrom_2] at h
    refine lv_iload_n E.1 E.2.1 dX2_copyFrom_2 rfl (lv_at hl 2 rfl) ?_
    refine lv_bipush (v := 16) E.1 E.2.1 dX2_copyFrom_3 (by decide) ?_
    refine lv_icmp_ge (tgt := 26) E.1 E.2.1 dX2_copyFrom_5 (by decide) (fun c5 => ?_) (fun c5 => ?_)
    · have h := it c5 h
      exact hz26 x_weights_2 H locs ls h hW (lv_sub hl [0, 1] rfl)
    · have h := ie c5 h
      refine lv_aload_n E.1 E.2.1 dX2_copyFrom_8 rfl (lv_at hl 0 rfl) ?_
      refine wGet (v := .ref h1) E hK in_X2_copyFrom_X2 hW 0 lk_X2_copyFrom_9 0 rfl rfl (by decide) rfl rfl dX2_copyFrom_9 ?_
      refine lv_iload_n E.1 E.2.1 dX2_copyFrom_12 rfl (lv_at hl 2 rfl) ?_
      refine lv_aload_n E.1 E.2.1 dX2_copyFrom_13 rfl (lv_at hl 1 rfl) ?_
      refine wGet (v := .ref h3) E hK in_X2_copyFrom_X2 hW 0 lk_X2_copyFrom_9 2 rfl rfl (by decide) rfl rfl dX2_copyFrom_14 ?_
      refine lv_iload_n E.1 E.2.1 dX2_copyFrom_17 rfl (lv_at hl 2 rfl) ?_
      obtain ⟨hi18, h⟩ := ox h
      refine wIald E hK hW 3 rfl hi18 dX2_copyFrom_18 ?_
      refine wIast (world' := ((w_X2 g h0 h1 (upd x_weights_2 l2_2.toNatClampNeg (x_a1_weights l2_2.toNatClampNeg)) x_present) ++ (w_X2 g h2 h3 x_a1_weights x_a1_present))) E hK hW 1 rfl hi18 dX2_copyFrom_19 rfl (fun H locs hW => ?_)
      refine lv_iinc (v := (l2_2 + 1)) (lv' := [(2, .int (l2_2 + 1)), (0, .ref h0), (1, .ref h2)]) E.1 E.2.1 dX2_copyFrom_20 hl (k := 2) rfl rfl (by decide) rfl (fun ls hl => ?_)
      refine lv_goto (tgt := 2) E.1 E.2.1 dX2_copyFrom_23 (by decide) ?_
      exact ih (l2_2 + 1) (upd x_weights_2 l2_2.toNatClampNeg (x_a1_weights l2_2.toNatClampNeg)) H locs ls h hW (lv_sub hl [1, 2, 0] rfl)
set_option maxHeartbeats 4000000 in
set_option maxRecDepth 100000 in
theorem k_X2_copyFrom_0 {p : Program} {l : Launch} {e : Env} {s : State} {m : MethodId} {args : Array Value} {below : List Frame} {meth : Method} {c : Code} {g : GE} {A : Nat → Prop} {h0 h1 h2 h3 : Nat} {x_weights : Nat → Int32} {x_present : Int32} {x_a1_weights : Nat → Int32} {x_a1_present : Int32} {res : (Nat → Int32) × Int32} {H : Heap} {locs : List Loc} {ls : Array Slot} 
    (E : En cX2_copyFrom RX2 wsX2_copyFrom 3 none p s m args meth c) (hK : KK g s) (hA : ∀ q, s.heap.size ≤ q → A q) (h : f_X2_copyFrom x_weights x_present x_a1_weights x_a1_present = some res) (hW : Wo g A s H locs ((w_X2 g h0 h1 x_weights x_present) ++ (w_X2 g h2 h3 x_a1_weights x_a1_present))) (hl : lv_has ls 3 [(0, .ref h0), (1, .ref h2)]) : G_X2_copyFrom p l e s m args below meth c g A h0 h1 h2 h3 x_a1_weights x_a1_present res H locs 0 ls [] := by
  have hts := E.2.2.2.1
  unfold f_X2_copyFrom at h
  refine lv_iconst (v := 0) E.1 E.2.1 dX2_copyFrom_0 (by decide) ?_
  refine lv_istore_n (lv' := [(2, .int 0), (0, .ref h0), (1, .ref h2)]) E.1 E.2.1 dX2_copyFrom_1 rfl hl (by decide) rfl (fun ls hl => ?_)
  refine k_X2_copyFrom_2 E hK hA ?_ 1000 0 x_weights H locs ls h hW (lv_sub hl [1, 2, 0] rfl)
  · intro x_weights_26e H locs ls h hW hl
    refine lv_aload_n E.1 E.2.1 dX2_copyFrom_26 rfl (lv_at hl 0 rfl) ?_
    refine lv_aload_n E.1 E.2.1 dX2_copyFrom_27 rfl (lv_at hl 1 rfl) ?_
    refine wGet (v := .int x_a1_present) E hK in_X2_copyFrom_X2 hW 1 lk_X2_copyFrom_15 2 rfl rfl (by decide) rfl rfl dX2_copyFrom_28 ?_
    refine wPut (world' := ((w_X2 g h0 h1 x_weights_26e x_a1_present) ++ (w_X2 g h2 h3 x_a1_weights x_a1_present))) E hK in_X2_copyFrom_X2 tyX2 tyX2_ok nmX2 hW 1 lk_X2_copyFrom_15 0 rfl rfl (by decide) rfl rfl rfl rfl rfl (Nat.le_of_ble_eq_true rfl) dX2_copyFrom_31 rfl (fun H locs hW => ?_)
    obtain rfl := Option.some.inj h
    exact endV E hW dX2_copyFrom_34
theorem c_X2_copyFrom (l : Launch) (g : GE) (h0 h1 h2 h3 : Nat) (x_weights : Nat → Int32) (x_present : Int32) (x_a1_weights : Nat → Int32) (x_a1_present : Int32) {res : (Nat → Int32) × Int32} (hf : f_X2_copyFrom x_weights x_present x_a1_weights x_a1_present = some res) : CV l yX2_copyFrom wsX2_copyFrom rm_X2_copyFrom g [.ref h0, .ref h2] ((w_X2 g h0 h1 x_weights x_present) ++ (w_X2 g h2 h3 x_a1_weights x_a1_present)) ((w_X2 g h0 h1 res.1 res.2) ++ (w_X2 g h2 h3 x_a1_weights x_a1_present)) :=
  mkV (cc := cX2_copyFrom) (maxL := 3) (by decide) rfl (Nat.le_of_ble_eq_true rfl) (fun p e s m args below meth c A H locs ls E hK hA hW hl => k_X2_copyFrom_0 E hK hA hf hW hl)

/-! PaperStorm$Climate.weight(II)I X2_weight -/
abbrev rm_X2_weight : Room := { frames := 1, cells := 0, slots := 0, locals := 20 }
theorem in_X2_weight_X2 : ∀ w ∈ wsX20, w ∈ wsX2_weight := by decide +kernel
theorem lk_X2_weight_9 : Cond.fieldLink RX2 9 "PaperStorm$Climate" "weights" "[I" ∈ wsX2_weight := by decide +kernel
noncomputable def f_X2_weight (x_weights : Nat → Int32) (a1 : Int32) (a2 : Int32) : Option (Int32) :=
  jo (fun (s0_28 : Int32) => some (s0_28)) (fun j28 => jo (j28 0) (fun j27 => (f_X2_isWeather a1).bind fun r1 => if r1 = 0 then j27 else (f_X2_isWeather a2).bind fun r8 => if r8 = 0 then j27 else if ((a1 * 4) + a2) < 0 ∨ 16 ≤ ((a1 * 4) + a2).toNatClampNeg then none else j28 (x_weights ((a1 * 4) + a2).toNatClampNeg)))
abbrev G_X2_weight (p : Program) (l : Launch) (e : Env) (s : State) (m : MethodId) (args : Array Value) (below : List Frame) (meth : Method) (c : Code) (g : GE) (A : Nat → Prop) (h0 h1 : Nat) (x_weights : Nat → Int32) (x_present : Int32) (res : Int32) (H : Heap) (locs : List Loc) (pc : Nat) (ls : Array Slot) (st : List Value) : Prop := W p l e (headSpec wsX2_weight rm_X2_weight).room s m args below meth c H locs 0 0 (MQ below (PoI g A (w_X2 g h0 h1 x_weights x_present) res) args s 0 0 A) (F0 m pc ls st)
set_option maxHeartbeats 4000000 in
set_option maxRecDepth 100000 in
theorem k_X2_weight_0 {p : Program} {l : Launch} {e : Env} {s : State} {m : MethodId} {args : Array Value} {below : List Frame} {meth : Method} {c : Code} {g : GE} {A : Nat → Prop} {h0 h1 : Nat} {x_weights : Nat → Int32} {x_present : Int32} {res : Int32} {H : Heap} {locs : List Loc} {ls : Array Slot} {a1 : Int32} {a2 : Int32}
    (E : En cX2_weight RX2 wsX2_weight 3 (some .int) p s m args meth c) (hK : KK g s) (hA : ∀ q, s.heap.size ≤ q → A q) (h : f_X2_weight x_weights a1 a2 = some res) (hW : Wo g A s H locs (w_X2 g h0 h1 x_weights x_present)) (hl : lv_has ls 3 [(0, .ref h0), (1, .int a1), (2, .int a2)]) : G_X2_weight p l e s m args below meth c g A h0 h1 x_weights x_present res H locs 0 ls [] := by
  have hts := E.2.2.2.1
  unfold f_X2_weight at h
  obtain ⟨j28, hj28, h⟩ := jox1 h
  have J28 : ∀ (s0_28 : Int32) (H : Heap) (locs : List Loc) (ls : Array Slot), j28 s0_28 = some res → Wo g A s H locs (w_X2 g h0 h1 x_weights x_present) → lv_has ls 3 [] → G_X2_weight p l e s m args below meth c g A h0 h1 x_weights x_present res H locs 28 ls [.int s0_28] := by
    intro s0_28 H locs ls h hW hl
    rw [hj28] at h
    obtain rfl := Option.some.inj h
    exact endI E rfl hW dX2_weight_28
  obtain ⟨j27, hj27, h⟩ := jox0 h
  have J27 : ∀ (H : Heap) (locs : List Loc) (ls : Array Slot), j27 = some res → Wo g A s H locs (w_X2 g h0 h1 x_weights x_present) → lv_has ls 3 [] → G_X2_weight p l e s m args below meth c g A h0 h1 x_weights x_present res H locs 27 ls [] := by
    intro H locs ls h hW hl
    rw [hj27] at h
    refine lv_iconst (v := 0) E.1 E.2.1 dX2_weight_27 (by decide) ?_
    exact J28 0 H locs ls h hW (lv_sub hl [] rfl)
  refine lv_iload_n E.1 E.2.1 dX2_weight_0 rfl (lv_at hl 1 rfl) ?_
  obtain ⟨r1, hc, h⟩ := bx h
  refine goI (world' := (w_X2 g h0 h1 x_weights x_present)) hW hA (is := []) rfl (goS (rest := []) E hK hW [] rfl rfl (c_X2_isWeather l g a1 (hf := hc) H.size) (va_cwS 1 hts gX2_weight_X2_isWeather rfl rfl rfl (by decide +kernel) ⟨Nat.le_of_ble_eq_true rfl, Nat.le_of_ble_eq_true rfl⟩) hl.1 rfl rfl (Nat.le_of_ble_eq_true rfl) dX2_weight_1 ⟨Nat.zero_le _, Nat.zero_le _⟩) rfl rfl (fun H locs hW => ?_)
  refine lv_if_eq (tgt := 27) E.1 E.2.1 dX2_weight_4 (by decide) (fun c4 => ?_) (fun c4 => ?_)
  · have h := it c4 h
    exact J27  H locs ls h hW (lv_sub hl [] rfl)
  · have h := ie c4 h
    refine lv_iload_n E.1 E.2.1 dX2_weight_7 rfl (lv_at hl 2 rfl) ?_
    obtain ⟨r8, hc, h⟩ := bx h
    refine goI (world' := (w_X2 g h0 h1 x_weights x_present)) hW hA (is := []) rfl (goS (rest := []) E hK hW [] rfl rfl (c_X2_isWeather l g a2 (hf := hc) H.size) (va_cwS 1 hts gX2_weight_X2_isWeather rfl rfl rfl (by decide +kernel) ⟨Nat.le_of_ble_eq_true rfl, Nat.le_of_ble_eq_true rfl⟩) hl.1 rfl rfl (Nat.le_of_ble_eq_true rfl) dX2_weight_8 ⟨Nat.zero_le _, Nat.zero_le _⟩) rfl rfl (fun H locs hW => ?_)
    refine lv_if_eq (tgt := 27) E.1 E.2.1 dX2_weight_11 (by decide) (fun c11 => ?_) (fun c11 => ?_)
    · have h := it c11 h
      exact J27  H locs ls h hW (lv_sub hl [] rfl)
    · have h := ie c11 h
      refine lv_aload_n E.1 E.2.1 dX2_weight_14 rfl (lv_at hl 0 rfl) ?_
      refine wGet (v := .ref h1) E hK in_X2_weight_X2 hW 0 lk_X2_weight_9 0 rfl rfl (by decide) rfl rfl dX2_weight_15 ?_
      refine lv_iload_n E.1 E.2.1 dX2_weight_18 rfl (lv_at hl 1 rfl) ?_
      refine lv_iconst (v := 4) E.1 E.2.1 dX2_weight_19 (by decide) ?_
      refine lv_imul E.1 E.2.1 dX2_weight_20 ?_
      refine lv_iload_n E.1 E.2.1 dX2_weight_21 rfl (lv_at hl 2 rfl) ?_
      refine lv_iadd E.1 E.2.1 dX2_weight_22 ?_
      obtain ⟨hi23, h⟩ := ox h
      refine wIald E hK hW 1 rfl hi23 dX2_weight_23 ?_
      refine lv_goto (tgt := 28) E.1 E.2.1 dX2_weight_24 (by decide) ?_
      exact J28 (x_weights ((a1 * 4) + a2).toNatClampNeg) H locs ls h hW (lv_sub hl [] rfl)
theorem c_X2_weight (l : Launch) (g : GE) (h0 h1 : Nat) (x_weights : Nat → Int32) (x_present : Int32) (a1 : Int32) (a2 : Int32) {res : Int32} (hf : f_X2_weight x_weights a1 a2 = some res) : CI l yX2_weight wsX2_weight rm_X2_weight g [.ref h0, .int a1, .int a2] (w_X2 g h0 h1 x_weights x_present) (w_X2 g h0 h1 x_weights x_present) res :=
  mkI (cc := cX2_weight) (maxL := 3) (by decide) rfl (Nat.le_of_ble_eq_true rfl) (fun p e s m args below meth c A H locs ls E hK hA hW hl => k_X2_weight_0 E hK hA hf hW hl)

/-! PaperStorm$Climate.putWeight(III)V X2_putWeight -/
abbrev rm_X2_putWeight : Room := { frames := 1, cells := 0, slots := 0, locals := 20 }
theorem in_X2_putWeight_X2 : ∀ w ∈ wsX20, w ∈ wsX2_putWeight := by decide +kernel
theorem lk_X2_putWeight_9 : Cond.fieldLink RX2 9 "PaperStorm$Climate" "weights" "[I" ∈ wsX2_putWeight := by decide +kernel
noncomputable def f_X2_putWeight (x_weights : Nat → Int32) (a1 : Int32) (a2 : Int32) (a3 : Int32) : Option ((Nat → Int32)) :=
  jo (fun (x_weights_25 : Nat → Int32) => some (x_weights_25)) (fun j25 => (f_X2_isWeather a1).bind fun r1 => if r1 = 0 then j25 x_weights else (f_X2_isWeather a2).bind fun r8 => if r8 = 0 then j25 x_weights else if ((a1 * 4) + a2) < 0 ∨ 16 ≤ ((a1 * 4) + a2).toNatClampNeg then none else j25 (upd x_weights ((a1 * 4) + a2).toNatClampNeg a3))
abbrev G_X2_putWeight (p : Program) (l : Launch) (e : Env) (s : State) (m : MethodId) (args : Array Value) (below : List Frame) (meth : Method) (c : Code) (g : GE) (A : Nat → Prop) (h0 h1 : Nat) (x_present : Int32) (res : (Nat → Int32)) (H : Heap) (locs : List Loc) (pc : Nat) (ls : Array Slot) (st : List Value) : Prop := W p l e (headSpec wsX2_putWeight rm_X2_putWeight).room s m args below meth c H locs 0 0 (MQ below (PoV g A (w_X2 g h0 h1 res x_present)) args s 0 0 A) (F0 m pc ls st)
set_option maxHeartbeats 4000000 in
set_option maxRecDepth 100000 in
theorem k_X2_putWeight_0 {p : Program} {l : Launch} {e : Env} {s : State} {m : MethodId} {args : Array Value} {below : List Frame} {meth : Method} {c : Code} {g : GE} {A : Nat → Prop} {h0 h1 : Nat} {x_weights : Nat → Int32} {x_present : Int32} {res : (Nat → Int32)} {H : Heap} {locs : List Loc} {ls : Array Slot} {a1 : Int32} {a2 : Int32} {a3 : Int32}
    (E : En cX2_putWeight RX2 wsX2_putWeight 4 none p s m args meth c) (hK : KK g s) (hA : ∀ q, s.heap.size ≤ q → A q) (h : f_X2_putWeight x_weights a1 a2 a3 = some res) (hW : Wo g A s H locs (w_X2 g h0 h1 x_weights x_present)) (hl : lv_has ls 4 [(0, .ref h0), (1, .int a1), (2, .int a2), (3, .int a3)]) : G_X2_putWeight p l e s m args below meth c g A h0 h1 x_present res H locs 0 ls [] := by
  have hts := E.2.2.2.1
  unfold f_X2_putWeight at h
  obtain ⟨j25, hj25, h⟩ := jox1 h
  have J25 : ∀ (x_weights_25 : Nat → Int32) (H : Heap) (locs : List Loc) (ls : Array Slot), j25 x_weights_25 = some res → Wo g A s H locs (w_X2 g h0 h1 x_weights_25 x_present) → lv_has ls 4 [] → G_X2_putWeight p l e s m args below meth c g A h0 h1 x_present res H locs 25 ls [] := by
    intro x_weights_25 H locs ls h hW hl
    rw [hj25] at h
    obtain rfl := Option.some.inj h
    exact endV E hW dX2_putWeight_25
  refine lv_iload_n E.1 E.2.1 dX2_putWeight_0 rfl (lv_at hl 1 rfl) ?_
  obtain ⟨r1, hc, h⟩ := bx h
  refine goI (world' := (w_X2 g h0 h1 x_weights x_present)) hW hA (is := []) rfl (goS (rest := []) E hK hW [] rfl rfl (c_X2_isWeather l g a1 (hf := hc) H.size) (va_cwS 1 hts gX2_putWeight_X2_isWeather rfl rfl rfl (by decide +kernel) ⟨Nat.le_of_ble_eq_true rfl, Nat.le_of_ble_eq_true rfl⟩) hl.1 rfl rfl (Nat.le_of_ble_eq_true rfl) dX2_putWeight_1 ⟨Nat.zero_le _, Nat.zero_le _⟩) rfl rfl (fun H locs hW => ?_)
  refine lv_if_eq (tgt := 25) E.1 E.2.1 dX2_putWeight_4 (by decide) (fun c4 => ?_) (fun c4 => ?_)
  · have h := it c4 h
    exact J25 x_weights H locs ls h hW (lv_sub hl [] rfl)
  · have h := ie c4 h
    refine lv_iload_n E.1 E.2.1 dX2_putWeight_7 rfl (lv_at hl 2 rfl) ?_
    obtain ⟨r8, hc, h⟩ := bx h
    refine goI (world' := (w_X2 g h0 h1 x_weights x_present)) hW hA (is := []) rfl (goS (rest := []) E hK hW [] rfl rfl (c_X2_isWeather l g a2 (hf := hc) H.size) (va_cwS 1 hts gX2_putWeight_X2_isWeather rfl rfl rfl (by decide +kernel) ⟨Nat.le_of_ble_eq_true rfl, Nat.le_of_ble_eq_true rfl⟩) hl.1 rfl rfl (Nat.le_of_ble_eq_true rfl) dX2_putWeight_8 ⟨Nat.zero_le _, Nat.zero_le _⟩) rfl rfl (fun H locs hW => ?_)
    refine lv_if_eq (tgt := 25) E.1 E.2.1 dX2_putWeight_11 (by decide) (fun c11 => ?_) (fun c11 => ?_)
    · have h := it c11 h
      exact J25 x_weights H locs ls h hW (lv_sub hl [] rfl)
    · have h := ie c11 h
      refine lv_aload_n E.1 E.2.1 dX2_putWeight_14 rfl (lv_at hl 0 rfl) ?_
      refine wGet (v := .ref h1) E hK in_X2_putWeight_X2 hW 0 lk_X2_putWeight_9 0 rfl rfl (by decide) rfl rfl dX2_putWeight_15 ?_
      refine lv_iload_n E.1 E.2.1 dX2_putWeight_18 rfl (lv_at hl 1 rfl) ?_
      refine lv_iconst (v := 4) E.1 E.2.1 dX2_putWeight_19 (by decide) ?_
      refine lv_imul E.1 E.2.1 dX2_putWeight_20 ?_
      refine lv_iload_n E.1 E.2.1 dX2_putWeight_21 rfl (lv_at hl 2 rfl) ?_
      refine lv_iadd E.1 E.2.1 dX2_putWeight_22 ?_
      refine lv_iload_n E.1 E.2.1 dX2_putWeight_23 rfl (lv_at hl 3 rfl) ?_
      obtain ⟨hi24, h⟩ := ox h
      refine wIast (world' := (w_X2 g h0 h1 (upd x_weights ((a1 * 4) + a2).toNatClampNeg a3) x_present)) E hK hW 1 rfl hi24 dX2_putWeight_24 rfl (fun H locs hW => ?_)
      exact J25 (upd x_weights ((a1 * 4) + a2).toNatClampNeg a3) H locs ls h hW (lv_sub hl [] rfl)
theorem c_X2_putWeight (l : Launch) (g : GE) (h0 h1 : Nat) (x_weights : Nat → Int32) (x_present : Int32) (a1 : Int32) (a2 : Int32) (a3 : Int32) {res : (Nat → Int32)} (hf : f_X2_putWeight x_weights a1 a2 a3 = some res) : CV l yX2_putWeight wsX2_putWeight rm_X2_putWeight g [.ref h0, .int a1, .int a2, .int a3] (w_X2 g h0 h1 x_weights x_present) (w_X2 g h0 h1 res x_present) :=
  mkV (cc := cX2_putWeight) (maxL := 4) (by decide) rfl (Nat.le_of_ble_eq_true rfl) (fun p e s m args below meth c A H locs ls E hK hA hW hl => k_X2_putWeight_0 E hK hA hf hW hl)

/-! PaperStorm$Climate.weightSum(I)I X2_weightSum -/
abbrev rm_X2_weightSum : Room := { frames := 1, cells := 0, slots := 0, locals := 20 }
theorem in_X2_weightSum_X2 : ∀ w ∈ wsX20, w ∈ wsX2_weightSum := by decide +kernel
theorem lk_X2_weightSum_9 : Cond.fieldLink RX2 9 "PaperStorm$Climate" "weights" "[I" ∈ wsX2_weightSum := by decide +kernel
noncomputable def f_X2_weightSum_4 (x_weights : Nat → Int32) (l1 : Int32) (z35 : Int32 → Option (Int32)) : Nat → Int32 → Int32 → Option (Int32)
  | 0, _, _ => none
  | n + 1, l2_4, l3_4 => if 4 ≤ l3_4 then z35 l2_4 else (f_X2_isWeather l1).bind fun r10 => if r10 = 0 then z35 l2_4 else if ((l1 * 4) + l3_4) < 0 ∨ 16 ≤ ((l1 * 4) + l3_4).toNatClampNeg then none else f_X2_weightSum_4 x_weights l1 z35 n (l2_4 + (x_weights ((l1 * 4) + l3_4).toNatClampNeg)) (l3_4 + 1)
noncomputable def f_X2_weightSum (x_weights : Nat → Int32) (a1 : Int32) : Option (Int32) :=
  f_X2_weightSum_4 x_weights a1 (fun l2_35e => some (l2_35e)) 1000 0 0
abbrev G_X2_weightSum (p : Program) (l : Launch) (e : Env) (s : State) (m : MethodId) (args : Array Value) (below : List Frame) (meth : Method) (c : Code) (g : GE) (A : Nat → Prop) (h0 h1 : Nat) (x_weights : Nat → Int32) (x_present : Int32) (res : Int32) (H : Heap) (locs : List Loc) (pc : Nat) (ls : Array Slot) (st : List Value) : Prop := W p l e (headSpec wsX2_weightSum rm_X2_weightSum).room s m args below meth c H locs 0 0 (MQ below (PoI g A (w_X2 g h0 h1 x_weights x_present) res) args s 0 0 A) (F0 m pc ls st)
set_option maxHeartbeats 4000000 in
set_option maxRecDepth 100000 in
theorem k_X2_weightSum_4 {p : Program} {l : Launch} {e : Env} {s : State} {m : MethodId} {args : Array Value} {below : List Frame} {meth : Method} {c : Code} {g : GE} {A : Nat → Prop} {h0 h1 : Nat} {x_weights : Nat → Int32} {x_present : Int32} {res : Int32} {l1 : Int32} {z35 : Int32 → Option (Int32)}
    (E : En cX2_weightSum RX2 wsX2_weightSum 4 (some .int) p s m args meth c) (hK : KK g s) (hA : ∀ q, s.heap.size ≤ q → A q)
    (hz35 : ∀ (l2_35e : Int32) (H : Heap) (locs : List Loc) (ls : Array Slot), z35 l2_35e = some res → Wo g A s H locs (w_X2 g h0 h1 x_weights x_present) → lv_has ls 4 [(2, .int l2_35e)] → G_X2_weightSum p l e s m args below meth c g A h0 h1 x_weights x_present res H locs 35 ls [])
    : ∀ (n : Nat) (l2_4 : Int32) (l3_4 : Int32) (H : Heap) (locs : List Loc) (ls : Array Slot), f_X2_weightSum_4 x_weights l1 z35 n l2_4 l3_4 = some res → Wo g A s H locs (w_X2 g h0 h1 x_weights x_present) → lv_has ls 4 [(0, .ref h0), (1, .int l1), (2, .int l2_4), (3, .int l3_4)] → G_X2_weightSum p l e s m args below meth c g A h0 h1 x_weights x_present res H locs 4 ls [] := by
  have hts := E.2.2.2.1
  intro n
  induction n with
  | zero => intro l2_4 l3_4 H locs ls h hW hl; rw [f_X2_weightSum_4] at h; cases h
  | succ n ih =>
    intro l2_4 l3_4 H locs ls h hW hl
    rw [f_X2_weightSum_4] at h
    refine lv_iload_n E.1 E.2.1 dX2_weightSum_4 rfl (lv_at hl 3 rfl) ?_
    refine lv_iconst (v := 4) E.1 E.2.1 dX2_weightSum_5 (by decide) ?_
    refine lv_icmp_ge (tgt := 35) E.1 E.2.1 dX2_weightSum_6 (by decide) (fun c6 => ?_) (fun c6 => ?_)
    · have h := it c6 h
      exact hz35 l2_4 H locs ls h hW (lv_sub hl [2] rfl)
    · have h := ie c6 h
      refine lv_iload_n E.1 E.2.1 dX2_weightSum_9 rfl (lv_at hl 1 rfl) ?_
      obtain ⟨r10, hc, h⟩ := bx h
      refine goI (world' := (w_X2 g h0 h1 x_weights x_present)) hW hA (is := []) rfl (goS (rest := []) E hK hW [] rfl rfl (c_X2_isWeather l g l1 (hf := hc) H.size) (va_cwS 1 hts gX2_weightSum_X2_isWeather rfl rfl rfl (by decide +kernel) ⟨Nat.le_of_ble_eq_true rfl, Nat.le_of_ble_eq_true rfl⟩) hl.1 rfl rfl (Nat.le_of_ble_eq_true rfl) dX2_weightSum_10 ⟨Nat.zero_le _, Nat.zero_le _⟩) rfl rfl (fun H locs hW => ?_)
      refine lv_if_eq (tgt := 35) E.1 E.2.1 dX2_weightSum_13 (by decide) (fun c13 => ?_) (fun c13 => ?_)
      · have h := it c13 h
        exact hz35 l2_4 H locs ls h hW (lv_sub hl [2] rfl)
      · have h := ie c13 h
        refine lv_iload_n E.1 E.2.1 dX2_weightSum_16 rfl (lv_at hl 2 rfl) ?_
        refine lv_aload_n E.1 E.2.1 dX2_weightSum_17 rfl (lv_at hl 0 rfl) ?_
        refine wGet (v := .ref h1) E hK in_X2_weightSum_X2 hW 0 lk_X2_weightSum_9 0 rfl rfl (by decide) rfl rfl dX2_weightSum_18 ?_
        refine lv_iload_n E.1 E.2.1 dX2_weightSum_21 rfl (lv_at hl 1 rfl) ?_
        refine lv_iconst (v := 4) E.1 E.2.1 dX2_weightSum_22 (by decide) ?_
        refine lv_imul E.1 E.2.1 dX2_weightSum_23 ?_
        refine lv_iload_n E.1 E.2.1 dX2_weightSum_24 rfl (lv_at hl 3 rfl) ?_
        refine lv_iadd E.1 E.2.1 dX2_weightSum_25 ?_
        obtain ⟨hi26, h⟩ := ox h
        refine wIald E hK hW 1 rfl hi26 dX2_weightSum_26 ?_
        refine lv_iadd E.1 E.2.1 dX2_weightSum_27 ?_
        refine lv_istore_n (lv' := [(2, .int (l2_4 + (x_weights ((l1 * 4) + l3_4).toNatClampNeg))), (0, .ref h0), (1, .int l1), (3, .int l3_4)]) E.1 E.2.1 dX2_weightSum_28 rfl hl (by decide) rfl (fun ls hl => ?_)
        refine lv_iinc (v := (l3_4 + 1)) (lv' := [(3, .int (l3_4 + 1)), (2, .int (l2_4 + (x_weights ((l1 * 4) + l3_4).toNatClampNeg))), (0, .ref h0), (1, .int l1)]) E.1 E.2.1 dX2_weightSum_29 hl (k := 3) rfl rfl (by decide) rfl (fun ls hl => ?_)
        refine lv_goto (tgt := 4) E.1 E.2.1 dX2_weightSum_32 (by decide) ?_
        exact ih (l2_4 + (x_weights ((l1 * 4) + l3_4).toNatClampNeg)) (l3_4 + 1) H locs ls h hW (lv_sub hl [2, 3, 1, 0] rfl)
set_option maxHeartbeats 4000000 in
set_option maxRecDepth 100000 in
theorem k_X2_weightSum_0 {p : Program} {l : Launch} {e : Env} {s : State} {m : MethodId} {args : Array Value} {below : List Frame} {meth : Method} {c : Code} {g : GE} {A : Nat → Prop} {h0 h1 : Nat} {x_weights : Nat → Int32} {x_present : Int32} {res : Int32} {H : Heap} {locs : List Loc} {ls : Array Slot} {a1 : Int32}
    (E : En cX2_weightSum RX2 wsX2_weightSum 4 (some .int) p s m args meth c) (hK : KK g s) (hA : ∀ q, s.heap.size ≤ q → A q) (h : f_X2_weightSum x_weights a1 = some res) (hW : Wo g A s H locs (w_X2 g h0 h1 x_weights x_present)) (hl : lv_has ls 4 [(0, .ref h0), (1, .int a1)]) : G_X2_weightSum p l e s m args below meth c g A h0 h1 x_weights x_present res H locs 0 ls [] := by
  have hts := E.2.2.2.1
  unfold f_X2_weightSum at h
  refine lv_iconst (v := 0) E.1 E.2.1 dX2_weightSum_0 (by decide) ?_
  refine lv_istore_n (lv' := [(2, .int 0), (0, .ref h0), (1, .int a1)]) E.1 E.2.1 dX2_weightSum_1 rfl hl (by decide) rfl (fun ls hl => ?_)
  refine lv_iconst (v := 0) E.1 E.2.1 dX2_weightSum_2 (by decide) ?_
  refine lv_istore_n (lv' := [(3, .int 0), (2, .int 0), (0, .ref h0), (1, .int a1)]) E.1 E.2.1 dX2_weightSum_3 rfl hl (by decide) rfl (fun ls hl => ?_)
  refine k_X2_weightSum_4 E hK hA ?_ 1000 0 0 H locs ls h hW (lv_sub hl [2, 3, 1, 0] rfl)
  · intro l2_35e H locs ls h hW hl
    refine lv_iload_n E.1 E.2.1 dX2_weightSum_35 rfl (lv_at hl 0 rfl) ?_
    obtain rfl := Option.some.inj h
    exact endI E rfl hW dX2_weightSum_36
theorem c_X2_weightSum (l : Launch) (g : GE) (h0 h1 : Nat) (x_weights : Nat → Int32) (x_present : Int32) (a1 : Int32) {res : Int32} (hf : f_X2_weightSum x_weights a1 = some res) : CI l yX2_weightSum wsX2_weightSum rm_X2_weightSum g [.ref h0, .int a1] (w_X2 g h0 h1 x_weights x_present) (w_X2 g h0 h1 x_weights x_present) res :=
  mkI (cc := cX2_weightSum) (maxL := 4) (by decide) rfl (Nat.le_of_ble_eq_true rfl) (fun p e s m args below meth c A H locs ls E hK hA hW hl => k_X2_weightSum_0 E hK hA hf hW hl)

/-! PaperStorm$Climate.keepsAChange(III)Z X2_keepsAChange -/
abbrev rm_X2_keepsAChange : Room := { frames := 2, cells := 0, slots := 0, locals := 43 }
noncomputable def f_X2_keepsAChange (x_weights : Nat → Int32) (a1 : Int32) (a2 : Int32) (a3 : Int32) : Option (Int32) :=
  jo (fun (s0_22 : Int32) => if ¬ vp_nar .boolean s0_22 = s0_22 then none else some (s0_22)) (fun j22 => (f_X2_weightSum x_weights a1).bind fun r2 => (f_X2_weight x_weights a1 a2).bind fun r8 => if ((r2 - r8) + a3) ≤ 0 then j22 0 else j22 1)
abbrev G_X2_keepsAChange (p : Program) (l : Launch) (e : Env) (s : State) (m : MethodId) (args : Array Value) (below : List Frame) (meth : Method) (c : Code) (g : GE) (A : Nat → Prop) (h0 h1 : Nat) (x_weights : Nat → Int32) (x_present : Int32) (res : Int32) (H : Heap) (locs : List Loc) (pc : Nat) (ls : Array Slot) (st : List Value) : Prop := W p l e (headSpec wsX2_keepsAChange rm_X2_keepsAChange).room s m args below meth c H locs 0 0 (MQ below (PoI g A (w_X2 g h0 h1 x_weights x_present) res) args s 0 0 A) (F0 m pc ls st)
set_option maxHeartbeats 4000000 in
set_option maxRecDepth 100000 in
theorem k_X2_keepsAChange_0 {p : Program} {l : Launch} {e : Env} {s : State} {m : MethodId} {args : Array Value} {below : List Frame} {meth : Method} {c : Code} {g : GE} {A : Nat → Prop} {h0 h1 : Nat} {x_weights : Nat → Int32} {x_present : Int32} {res : Int32} {H : Heap} {locs : List Loc} {ls : Array Slot} {a1 : Int32} {a2 : Int32} {a3 : Int32}
    (E : En cX2_keepsAChange RX2 wsX2_keepsAChange 4 (some .boolean) p s m args meth c) (hK : KK g s) (hA : ∀ q, s.heap.size ≤ q → A q) (h : f_X2_keepsAChange x_weights a1 a2 a3 = some res) (hW : Wo g A s H locs (w_X2 g h0 h1 x_weights x_present)) (hl : lv_has ls 4 [(0, .ref h0), (1, .int a1), (2, .int a2), (3, .int a3)]) : G_X2_keepsAChange p l e s m args below meth c g A h0 h1 x_weights x_present res H locs 0 ls [] := by
  have hts := E.2.2.2.1
  unfold f_X2_keepsAChange at h
  obtain ⟨j22, hj22, h⟩ := jox1 h
  have J22 : ∀ (s0_22 : Int32) (H : Heap) (locs : List Loc) (ls : Array Slot), j22 s0_22 = some res → Wo g A s H locs (w_X2 g h0 h1 x_weights x_present) → lv_has ls 4 [] → G_X2_keepsAChange p l e s m args below meth c g A h0 h1 x_weights x_present res H locs 22 ls [.int s0_22] := by
    intro s0_22 H locs ls h hW hl
    rw [hj22] at h
    obtain ⟨hz, h⟩ := ox h
    obtain rfl := Option.some.inj h
    exact endI E (nar_z (Decidable.not_not.mp hz)) hW dX2_keepsAChange_22
  refine lv_aload_n E.1 E.2.1 dX2_keepsAChange_0 rfl (lv_at hl 0 rfl) ?_
  refine lv_iload_n E.1 E.2.1 dX2_keepsAChange_1 rfl (lv_at hl 1 rfl) ?_
  obtain ⟨r2, hc, h⟩ := bx h
  refine goI (world' := (w_X2 g h0 h1 x_weights x_present)) hW hA (is := [0, 1]) rfl (goV (rest := []) E hK hW [0, 1] rfl rfl (c_X2_weightSum l g h0 h1 x_weights x_present a1 (hf := hc) H.size) (cwV 1 hts gX2_keepsAChange_X2_weightSum rfl rfl rfl (by decide +kernel) ⟨Nat.le_of_ble_eq_true rfl, Nat.le_of_ble_eq_true rfl⟩) 0 rfl rfl rfl hl.1 rfl rfl (Nat.le_of_ble_eq_true rfl) dX2_keepsAChange_2 ⟨Nat.zero_le _, Nat.zero_le _⟩) rfl rfl (fun H locs hW => ?_)
  refine lv_aload_n E.1 E.2.1 dX2_keepsAChange_5 rfl (lv_at hl 0 rfl) ?_
  refine lv_iload_n E.1 E.2.1 dX2_keepsAChange_6 rfl (lv_at hl 1 rfl) ?_
  refine lv_iload_n E.1 E.2.1 dX2_keepsAChange_7 rfl (lv_at hl 2 rfl) ?_
  obtain ⟨r8, hc, h⟩ := bx h
  refine goI (world' := (w_X2 g h0 h1 x_weights x_present)) hW hA (is := [0, 1]) rfl (goV (rest := [.int r2]) E hK hW [0, 1] rfl rfl (c_X2_weight l g h0 h1 x_weights x_present a1 a2 (hf := hc) H.size) (cwV 2 hts gX2_keepsAChange_X2_weight rfl rfl rfl (by decide +kernel) ⟨Nat.le_of_ble_eq_true rfl, Nat.le_of_ble_eq_true rfl⟩) 0 rfl rfl rfl hl.1 rfl rfl (Nat.le_of_ble_eq_true rfl) dX2_keepsAChange_8 ⟨Nat.zero_le _, Nat.zero_le _⟩) rfl rfl (fun H locs hW => ?_)
  refine lv_isub E.1 E.2.1 dX2_keepsAChange_11 ?_
  refine lv_iload_n E.1 E.2.1 dX2_keepsAChange_12 rfl (lv_at hl 3 rfl) ?_
  refine lv_iadd E.1 E.2.1 dX2_keepsAChange_13 ?_
  refine lv_if_le (tgt := 21) E.1 E.2.1 dX2_keepsAChange_14 (by decide) (fun c14 => ?_) (fun c14 => ?_)
  · have h := it c14 h
    refine lv_iconst (v := 0) E.1 E.2.1 dX2_keepsAChange_21 (by decide) ?_
    exact J22 0 H locs ls h hW (lv_sub hl [] rfl)
  · have h := ie c14 h
    refine lv_iconst (v := 1) E.1 E.2.1 dX2_keepsAChange_17 (by decide) ?_
    refine lv_goto (tgt := 22) E.1 E.2.1 dX2_keepsAChange_18 (by decide) ?_
    exact J22 1 H locs ls h hW (lv_sub hl [] rfl)
theorem c_X2_keepsAChange (l : Launch) (g : GE) (h0 h1 : Nat) (x_weights : Nat → Int32) (x_present : Int32) (a1 : Int32) (a2 : Int32) (a3 : Int32) {res : Int32} (hf : f_X2_keepsAChange x_weights a1 a2 a3 = some res) : CI l yX2_keepsAChange wsX2_keepsAChange rm_X2_keepsAChange g [.ref h0, .int a1, .int a2, .int a3] (w_X2 g h0 h1 x_weights x_present) (w_X2 g h0 h1 x_weights x_present) res :=
  mkI (cc := cX2_keepsAChange) (maxL := 4) (by decide) rfl (Nat.le_of_ble_eq_true rfl) (fun p e s m args below meth c A H locs ls E hK hA hW hl => k_X2_keepsAChange_0 E hK hA hf hW hl)

/-! PaperStorm$Climate.changeTo(I)V X2_changeTo -/
abbrev rm_X2_changeTo : Room := { frames := 2, cells := 0, slots := 0, locals := 43 }
theorem in_X2_changeTo_X2 : ∀ w ∈ wsX20, w ∈ wsX2_changeTo := by decide +kernel
theorem lk_X2_changeTo_15 : Cond.fieldLink RX2 15 "PaperStorm$Climate" "present" "I" ∈ wsX2_changeTo := by decide +kernel
noncomputable def f_X2_changeTo (x_weights : Nat → Int32) (x_present : Int32) (a1 : Int32) : Option ((Nat → Int32) × Int32) :=
  jo (fun (x_weights_27 : Nat → Int32) => some (x_weights_27, a1)) (fun j27 => (f_X2_weight x_weights x_present a1).bind fun r6 => if 3 ≤ r6 then j27 x_weights else (f_X2_putWeight x_weights x_present a1 (r6 + 1)).bind fun r24 => j27 r24)
abbrev G_X2_changeTo (p : Program) (l : Launch) (e : Env) (s : State) (m : MethodId) (args : Array Value) (below : List Frame) (meth : Method) (c : Code) (g : GE) (A : Nat → Prop) (h0 h1 : Nat) (res : (Nat → Int32) × Int32) (H : Heap) (locs : List Loc) (pc : Nat) (ls : Array Slot) (st : List Value) : Prop := W p l e (headSpec wsX2_changeTo rm_X2_changeTo).room s m args below meth c H locs 0 0 (MQ below (PoV g A (w_X2 g h0 h1 res.1 res.2)) args s 0 0 A) (F0 m pc ls st)
set_option maxHeartbeats 4000000 in
set_option maxRecDepth 100000 in
theorem k_X2_changeTo_0 {p : Program} {l : Launch} {e : Env} {s : State} {m : MethodId} {args : Array Value} {below : List Frame} {meth : Method} {c : Code} {g : GE} {A : Nat → Prop} {h0 h1 : Nat} {x_weights : Nat → Int32} {x_present : Int32} {res : (Nat → Int32) × Int32} {H : Heap} {locs : List Loc} {ls : Array Slot} {a1 : Int32}
    (E : En cX2_changeTo RX2 wsX2_changeTo 3 none p s m args meth c) (hK : KK g s) (hA : ∀ q, s.heap.size ≤ q → A q) (h : f_X2_changeTo x_weights x_present a1 = some res) (hW : Wo g A s H locs (w_X2 g h0 h1 x_weights x_present)) (hl : lv_has ls 3 [(0, .ref h0), (1, .int a1)]) : G_X2_changeTo p l e s m args below meth c g A h0 h1 res H locs 0 ls [] := by
  have hts := E.2.2.2.1
  unfold f_X2_changeTo at h
  obtain ⟨j27, hj27, h⟩ := jox1 h
  have J27 : ∀ (x_weights_27 : Nat → Int32) (H : Heap) (locs : List Loc) (ls : Array Slot), j27 x_weights_27 = some res → Wo g A s H locs (w_X2 g h0 h1 x_weights_27 x_present) → lv_has ls 3 [(0, .ref h0), (1, .int a1)] → G_X2_changeTo p l e s m args below meth c g A h0 h1 res H locs 27 ls [] := by
    intro x_weights_27 H locs ls h hW hl
    rw [hj27] at h
    refine lv_aload_n E.1 E.2.1 dX2_changeTo_27 rfl (lv_at hl 0 rfl) ?_
    refine lv_iload_n E.1 E.2.1 dX2_changeTo_28 rfl (lv_at hl 1 rfl) ?_
    refine wPut (world' := (w_X2 g h0 h1 x_weights_27 a1)) E hK in_X2_changeTo_X2 tyX2 tyX2_ok nmX2 hW 1 lk_X2_changeTo_15 0 rfl rfl (by decide) rfl rfl rfl rfl rfl (Nat.le_of_ble_eq_true rfl) dX2_changeTo_29 rfl (fun H locs hW => ?_)
    obtain rfl := Option.some.inj h
    exact endV E hW dX2_changeTo_32
  refine lv_aload_n E.1 E.2.1 dX2_changeTo_0 rfl (lv_at hl 0 rfl) ?_
  refine lv_aload_n E.1 E.2.1 dX2_changeTo_1 rfl (lv_at hl 0 rfl) ?_
  refine wGet (v := .int x_present) E hK in_X2_changeTo_X2 hW 1 lk_X2_changeTo_15 0 rfl rfl (by decide) rfl rfl dX2_changeTo_2 ?_
  refine lv_iload_n E.1 E.2.1 dX2_changeTo_5 rfl (lv_at hl 1 rfl) ?_
  obtain ⟨r6, hc, h⟩ := bx h
  refine goI (world' := (w_X2 g h0 h1 x_weights x_present)) hW hA (is := [0, 1]) rfl (goV (rest := []) E hK hW [0, 1] rfl rfl (c_X2_weight l g h0 h1 x_weights x_present x_present a1 (hf := hc) H.size) (cwV 2 hts gX2_changeTo_X2_weight rfl rfl rfl (by decide +kernel) ⟨Nat.le_of_ble_eq_true rfl, Nat.le_of_ble_eq_true rfl⟩) 0 rfl rfl rfl hl.1 rfl rfl (Nat.le_of_ble_eq_true rfl) dX2_changeTo_6 ⟨Nat.zero_le _, Nat.zero_le _⟩) rfl rfl (fun H locs hW => ?_)
  refine lv_istore_n (lv' := [(2, .int r6), (0, .ref h0), (1, .int a1)]) E.1 E.2.1 dX2_changeTo_9 rfl hl (by decide) rfl (fun ls hl => ?_)
  refine lv_iload_n E.1 E.2.1 dX2_changeTo_10 rfl (lv_at hl 0 rfl) ?_
  refine lv_iconst (v := 3) E.1 E.2.1 dX2_changeTo_11 (by decide) ?_
  refine lv_icmp_ge (tgt := 27) E.1 E.2.1 dX2_changeTo_12 (by decide) (fun c12 => ?_) (fun c12 => ?_)
  · have h := it c12 h
    exact J27 x_weights H locs ls h hW (lv_sub hl [1, 2] rfl)
  · have h := ie c12 h
    refine lv_aload_n E.1 E.2.1 dX2_changeTo_15 rfl (lv_at hl 1 rfl) ?_
    refine lv_aload_n E.1 E.2.1 dX2_changeTo_16 rfl (lv_at hl 1 rfl) ?_
    refine wGet (v := .int x_present) E hK in_X2_changeTo_X2 hW 1 lk_X2_changeTo_15 0 rfl rfl (by decide) rfl rfl dX2_changeTo_17 ?_
    refine lv_iload_n E.1 E.2.1 dX2_changeTo_20 rfl (lv_at hl 2 rfl) ?_
    refine lv_iload_n E.1 E.2.1 dX2_changeTo_21 rfl (lv_at hl 0 rfl) ?_
    refine lv_iconst (v := 1) E.1 E.2.1 dX2_changeTo_22 (by decide) ?_
    refine lv_iadd E.1 E.2.1 dX2_changeTo_23 ?_
    obtain ⟨r24, hc, h⟩ := bx h
    refine goU (world' := (w_X2 g h0 h1 r24 x_present)) hW hA (is := [0, 1]) rfl (goV (rest := []) E hK hW [0, 1] rfl rfl (c_X2_putWeight l g h0 h1 x_weights x_present x_present a1 (r6 + 1) (hf := hc) H.size) (cwV 3 hts gX2_changeTo_X2_putWeight rfl rfl rfl (by decide +kernel) ⟨Nat.le_of_ble_eq_true rfl, Nat.le_of_ble_eq_true rfl⟩) 0 rfl rfl rfl hl.1 rfl rfl (Nat.le_of_ble_eq_true rfl) dX2_changeTo_24 ⟨Nat.zero_le _, Nat.zero_le _⟩) rfl rfl (fun H locs hW => ?_)
    exact J27 r24 H locs ls h hW (lv_sub hl [1, 2] rfl)
theorem c_X2_changeTo (l : Launch) (g : GE) (h0 h1 : Nat) (x_weights : Nat → Int32) (x_present : Int32) (a1 : Int32) {res : (Nat → Int32) × Int32} (hf : f_X2_changeTo x_weights x_present a1 = some res) : CV l yX2_changeTo wsX2_changeTo rm_X2_changeTo g [.ref h0, .int a1] (w_X2 g h0 h1 x_weights x_present) (w_X2 g h0 h1 res.1 res.2) :=
  mkV (cc := cX2_changeTo) (maxL := 3) (by decide) rfl (Nat.le_of_ble_eq_true rfl) (fun p e s m args below meth c A H locs ls E hK hA hW hl => k_X2_changeTo_0 E hK hA hf hW hl)

