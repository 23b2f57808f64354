/-! PaperStorm$Sheet.isCell(II)Z X10_isCell -/
abbrev rm_X10_isCell : Room := { frames := 0, cells := 0, slots := 0, locals := 0 }
noncomputable def f_X10_isCell (a0 : Int32) (a1 : Int32) : Option (Int32) :=
  jo (fun (s0_23 : Int32) => if ¬ vp_nar .boolean s0_23 = s0_23 then none else some (s0_23)) (fun j23 => jo (j23 0) (fun j22 => if a0 < 0 then j22 else if 5 ≤ a0 then j22 else if a1 < 0 then j22 else if 5 ≤ a1 then j22 else j23 1))
abbrev G_X10_isCell (p : Program) (l : Launch) (e : Env) (s : State) (m : MethodId) (args : Array Value) (below : List Frame) (meth : Method) (c : Code) (g : GE) (A : Nat → Prop) (res : Int32) (H : Heap) (locs : List Loc) (pc : Nat) (ls : Array Slot) (st : List Value) : Prop := W p l e (headSpec wsX10_isCell rm_X10_isCell).room s m args below meth c H locs 0 0 (MQ below (PoI g A ([] : va_W) res) args s 0 0 A) (F0 m pc ls st)
set_option maxHeartbeats 4000000 in
set_option maxRecDepth 100000 in
theorem k_X10_isCell_0 {p : Program} {l : Launch} {e : Env} {s : State} {m : MethodId} {args : Array Value} {below : List Frame} {meth : Method} {c : Code} {g : GE} {A : Nat → Prop} {res : Int32} {H : Heap} {locs : List Loc} {ls : Array Slot} {a0 : Int32} {a1 : Int32}
    (E : En cX10_isCell RX10 wsX10_isCell 2 (some .boolean) p s m args meth c) (hK : KK g s) (hA : ∀ q, s.heap.size ≤ q → A q) (h : f_X10_isCell a0 a1 = some res) (hW : Wo g A s H locs ([] : va_W)) (hl : lv_has ls 2 [(0, .int a0), (1, .int a1)]) : G_X10_isCell p l e s m args below meth c g A res H locs 0 ls [] := by
  have hts := E.2.2.2.1
  unfold f_X10_isCell at h
  obtain ⟨j23, hj23, h⟩ := jox1 h
  have J23 : ∀ (s0_23 : Int32) (H : Heap) (locs : List Loc) (ls : Array Slot), j23 s0_23 = some res → Wo g A s H locs ([] : va_W) → lv_has ls 2 [] → G_X10_isCell p l e s m args below meth c g A res H locs 23 ls [.int s0_23] := by
    intro s0_23 H locs ls h hW hl
    rw [hj23] at h
    obtain ⟨hz, h⟩ := ox h
    obtain rfl := Option.some.inj h
    exact endI E (nar_z (Decidable.not_not.mp hz)) hW dX10_isCell_23
  obtain ⟨j22, hj22, h⟩ := jox0 h
  have J22 : ∀ (H : Heap) (locs : List Loc) (ls : Array Slot), j22 = some res → Wo g A s H locs ([] : va_W) → lv_has ls 2 [] → G_X10_isCell p l e s m args below meth c g A res H locs 22 ls [] := by
    intro H locs ls h hW hl
    rw [hj22] at h
    refine lv_iconst (v := 0) E.1 E.2.1 dX10_isCell_22 (by decide) ?_
    exact J23 0 H locs ls h hW (lv_sub hl [] rfl)
  refine lv_iload_n E.1 E.2.1 dX10_isCell_0 rfl (lv_at hl 0 rfl) ?_
  refine lv_if_lt (tgt := 22) E.1 E.2.1 dX10_isCell_1 (by decide) (fun c1 => ?_) (fun c1 => ?_)
  · have h := it c1 h
    exact J22  H locs ls h hW (lv_sub hl [] rfl)
  · have h := ie c1 h
    refine lv_iload_n E.1 E.2.1 dX10_isCell_4 rfl (lv_at hl 0 rfl) ?_
    refine lv_iconst (v := 5) E.1 E.2.1 dX10_isCell_5 (by decide) ?_
    refine lv_icmp_ge (tgt := 22) E.1 E.2.1 dX10_isCell_6 (by decide) (fun c6 => ?_) (fun c6 => ?_)
    · have h := it c6 h
      exact J22  H locs ls h hW (lv_sub hl [] rfl)
    · have h := ie c6 h
      refine lv_iload_n E.1 E.2.1 dX10_isCell_9 rfl (lv_at hl 1 rfl) ?_
      refine lv_if_lt (tgt := 22) E.1 E.2.1 dX10_isCell_10 (by decide) (fun c10 => ?_) (fun c10 => ?_)
      · have h := it c10 h
        exact J22  H locs ls h hW (lv_sub hl [] rfl)
      · have h := ie c10 h
        refine lv_iload_n E.1 E.2.1 dX10_isCell_13 rfl (lv_at hl 1 rfl) ?_
        refine lv_iconst (v := 5) E.1 E.2.1 dX10_isCell_14 (by decide) ?_
        refine lv_icmp_ge (tgt := 22) E.1 E.2.1 dX10_isCell_15 (by decide) (fun c15 => ?_) (fun c15 => ?_)
        · have h := it c15 h
          exact J22  H locs ls h hW (lv_sub hl [] rfl)
        · have h := ie c15 h
          refine lv_iconst (v := 1) E.1 E.2.1 dX10_isCell_18 (by decide) ?_
          refine lv_goto (tgt := 23) E.1 E.2.1 dX10_isCell_19 (by decide) ?_
          exact J23 1 H locs ls h hW (lv_sub hl [] rfl)
theorem c_X10_isCell (l : Launch) (g : GE) (a0 : Int32) (a1 : Int32) {res : Int32} (hf : f_X10_isCell a0 a1 = some res) : CI l yX10_isCell wsX10_isCell rm_X10_isCell g [.int a0, .int a1] ([] : va_W) ([] : va_W) res :=
  mkI (cc := cX10_isCell) (maxL := 2) (by decide) rfl (Nat.le_of_ble_eq_true rfl) (fun p e s m args below meth c A H locs ls E hK hA hW hl => k_X10_isCell_0 E hK hA hf hW hl)

/-! PaperStorm$Sheet.isPressure(I)Z X10_isPressure -/
abbrev rm_X10_isPressure : Room := { frames := 0, cells := 0, slots := 0, locals := 0 }
noncomputable def f_X10_isPressure (a0 : Int32) : Option (Int32) :=
  jo (fun (s0_15 : Int32) => if ¬ vp_nar .boolean s0_15 = s0_15 then none else some (s0_15)) (fun j15 => jo (j15 0) (fun j14 => if a0 < 0 then j14 else if 99 < a0 then j14 else j15 1))
abbrev G_X10_isPressure (p : Program) (l : Launch) (e : Env) (s : State) (m : MethodId) (args : Array Value) (below : List Frame) (meth : Method) (c : Code) (g : GE) (A : Nat → Prop) (res : Int32) (H : Heap) (locs : List Loc) (pc : Nat) (ls : Array Slot) (st : List Value) : Prop := W p l e (headSpec wsX10_isPressure rm_X10_isPressure).room s m args below meth c H locs 0 0 (MQ below (PoI g A ([] : va_W) res) args s 0 0 A) (F0 m pc ls st)
set_option maxHeartbeats 4000000 in
set_option maxRecDepth 100000 in
theorem k_X10_isPressure_0 {p : Program} {l : Launch} {e : Env} {s : State} {m : MethodId} {args : Array Value} {below : List Frame} {meth : Method} {c : Code} {g : GE} {A : Nat → Prop} {res : Int32} {H : Heap} {locs : List Loc} {ls : Array Slot} {a0 : Int32}
    (E : En cX10_isPressure RX10 wsX10_isPressure 1 (some .boolean) p s m args meth c) (hK : KK g s) (hA : ∀ q, s.heap.size ≤ q → A q) (h : f_X10_isPressure a0 = some res) (hW : Wo g A s H locs ([] : va_W)) (hl : lv_has ls 1 [(0, .int a0)]) : G_X10_isPressure p l e s m args below meth c g A res H locs 0 ls [] := by
  have hts := E.2.2.2.1
  unfold f_X10_isPressure at h
  obtain ⟨j15, hj15, h⟩ := jox1 h
  have J15 : ∀ (s0_15 : Int32) (H : Heap) (locs : List Loc) (ls : Array Slot), j15 s0_15 = some res → Wo g A s H locs ([] : va_W) → lv_has ls 1 [] → G_X10_isPressure p l e s m args below meth c g A res H locs 15 ls [.int s0_15] := by
    intro s0_15 H locs ls h hW hl
    rw [hj15] at h
    obtain ⟨hz, h⟩ := ox h
    obtain rfl := Option.some.inj h
    exact endI E (nar_z (Decidable.not_not.mp hz)) hW dX10_isPressure_15
  obtain ⟨j14, hj14, h⟩ := jox0 h
  have J14 : ∀ (H : Heap) (locs : List Loc) (ls : Array Slot), j14 = some res → Wo g A s H locs ([] : va_W) → lv_has ls 1 [] → G_X10_isPressure p l e s m args below meth c g A res H locs 14 ls [] := by
    intro H locs ls h hW hl
    rw [hj14] at h
    refine lv_iconst (v := 0) E.1 E.2.1 dX10_isPressure_14 (by decide) ?_
    exact J15 0 H locs ls h hW (lv_sub hl [] rfl)
  refine lv_iload_n E.1 E.2.1 dX10_isPressure_0 rfl (lv_at hl 0 rfl) ?_
  refine lv_if_lt (tgt := 14) E.1 E.2.1 dX10_isPressure_1 (by decide) (fun c1 => ?_) (fun c1 => ?_)
  · have h := it c1 h
    exact J14  H locs ls h hW (lv_sub hl [] rfl)
  · have h := ie c1 h
    refine lv_iload_n E.1 E.2.1 dX10_isPressure_4 rfl (lv_at hl 0 rfl) ?_
    refine lv_bipush (v := 99) E.1 E.2.1 dX10_isPressure_5 (by decide) ?_
    refine lv_icmp_gt (tgt := 14) E.1 E.2.1 dX10_isPressure_7 (by decide) (fun c7 => ?_) (fun c7 => ?_)
    · have h := it c7 h
      exact J14  H locs ls h hW (lv_sub hl [] rfl)
    · have h := ie c7 h
      refine lv_iconst (v := 1) E.1 E.2.1 dX10_isPressure_10 (by decide) ?_
      refine lv_goto (tgt := 15) E.1 E.2.1 dX10_isPressure_11 (by decide) ?_
      exact J15 1 H locs ls h hW (lv_sub hl [] rfl)
theorem c_X10_isPressure (l : Launch) (g : GE) (a0 : Int32) {res : Int32} (hf : f_X10_isPressure a0 = some res) : CI l yX10_isPressure wsX10_isPressure rm_X10_isPressure g [.int a0] ([] : va_W) ([] : va_W) res :=
  mkI (cc := cX10_isPressure) (maxL := 1) (by decide) rfl (Nat.le_of_ble_eq_true rfl) (fun p e s m args below meth c A H locs ls E hK hA hW hl => k_X10_isPressure_0 E hK hA hf hW hl)

/-! PaperStorm$Sheet.isFold(I)Z X10_isFold -/
abbrev rm_X10_isFold : Room := { frames := 0, cells := 0, slots := 0, locals := 0 }
noncomputable def f_X10_isFold (a0 : Int32) : Option (Int32) :=
  jo (fun (s0_15 : Int32) => if ¬ vp_nar .boolean s0_15 = s0_15 then none else some (s0_15)) (fun j15 => jo (j15 0) (fun j14 => if a0 < 1 then j14 else if 3 < a0 then j14 else j15 1))
abbrev G_X10_isFold (p : Program) (l : Launch) (e : Env) (s : State) (m : MethodId) (args : Array Value) (below : List Frame) (meth : Method) (c : Code) (g : GE) (A : Nat → Prop) (res : Int32) (H : Heap) (locs : List Loc) (pc : Nat) (ls : Array Slot) (st : List Value) : Prop := W p l e (headSpec wsX10_isFold rm_X10_isFold).room s m args below meth c H locs 0 0 (MQ below (PoI g A ([] : va_W) res) args s 0 0 A) (F0 m pc ls st)
set_option maxHeartbeats 4000000 in
set_option maxRecDepth 100000 in
theorem k_X10_isFold_0 {p : Program} {l : Launch} {e : Env} {s : State} {m : MethodId} {args : Array Value} {below : List Frame} {meth : Method} {c : Code} {g : GE} {A : Nat → Prop} {res : Int32} {H : Heap} {locs : List Loc} {ls : Array Slot} {a0 : Int32}
    (E : En cX10_isFold RX10 wsX10_isFold 1 (some .boolean) p s m args meth c) (hK : KK g s) (hA : ∀ q, s.heap.size ≤ q → A q) (h : f_X10_isFold a0 = some res) (hW : Wo g A s H locs ([] : va_W)) (hl : lv_has ls 1 [(0, .int a0)]) : G_X10_isFold p l e s m args below meth c g A res H locs 0 ls [] := by
  have hts := E.2.2.2.1
  unfold f_X10_isFold at h
  obtain ⟨j15, hj15, h⟩ := jox1 h
  have J15 : ∀ (s0_15 : Int32) (H : Heap) (locs : List Loc) (ls : Array Slot), j15 s0_15 = some res → Wo g A s H locs ([] : va_W) → lv_has ls 1 [] → G_X10_isFold p l e s m args below meth c g A res H locs 15 ls [.int s0_15] := by
    intro s0_15 H locs ls h hW hl
    rw [hj15] at h
    obtain ⟨hz, h⟩ := ox h
    obtain rfl := Option.some.inj h
    exact endI E (nar_z (Decidable.not_not.mp hz)) hW dX10_isFold_15
  obtain ⟨j14, hj14, h⟩ := jox0 h
  have J14 : ∀ (H : Heap) (locs : List Loc) (ls : Array Slot), j14 = some res → Wo g A s H locs ([] : va_W) → lv_has ls 1 [] → G_X10_isFold p l e s m args below meth c g A res H locs 14 ls [] := by
    intro H locs ls h hW hl
    rw [hj14] at h
    refine lv_iconst (v := 0) E.1 E.2.1 dX10_isFold_14 (by decide) ?_
    exact J15 0 H locs ls h hW (lv_sub hl [] rfl)
  refine lv_iload_n E.1 E.2.1 dX10_isFold_0 rfl (lv_at hl 0 rfl) ?_
  refine lv_iconst (v := 1) E.1 E.2.1 dX10_isFold_1 (by decide) ?_
  refine lv_icmp_lt (tgt := 14) E.1 E.2.1 dX10_isFold_2 (by decide) (fun c2 => ?_) (fun c2 => ?_)
  · have h := it c2 h
    exact J14  H locs ls h hW (lv_sub hl [] rfl)
  · have h := ie c2 h
    refine lv_iload_n E.1 E.2.1 dX10_isFold_5 rfl (lv_at hl 0 rfl) ?_
    refine lv_iconst (v := 3) E.1 E.2.1 dX10_isFold_6 (by decide) ?_
    refine lv_icmp_gt (tgt := 14) E.1 E.2.1 dX10_isFold_7 (by decide) (fun c7 => ?_) (fun c7 => ?_)
    · have h := it c7 h
      exact J14  H locs ls h hW (lv_sub hl [] rfl)
    · have h := ie c7 h
      refine lv_iconst (v := 1) E.1 E.2.1 dX10_isFold_10 (by decide) ?_
      refine lv_goto (tgt := 15) E.1 E.2.1 dX10_isFold_11 (by decide) ?_
      exact J15 1 H locs ls h hW (lv_sub hl [] rfl)
theorem c_X10_isFold (l : Launch) (g : GE) (a0 : Int32) {res : Int32} (hf : f_X10_isFold a0 = some res) : CI l yX10_isFold wsX10_isFold rm_X10_isFold g [.int a0] ([] : va_W) ([] : va_W) res :=
  mkI (cc := cX10_isFold) (maxL := 1) (by decide) rfl (Nat.le_of_ble_eq_true rfl) (fun p e s m args below meth c A H locs ls E hK hA hW hl => k_X10_isFold_0 E hK hA hf hW hl)

/-! PaperStorm$Sheet.isDirection(C)Z X10_isDirection -/
abbrev rm_X10_isDirection : Room := { frames := 0, cells := 0, slots := 0, locals := 0 }
noncomputable def f_X10_isDirection (a0 : Int32) : Option (Int32) :=
  jo (fun (s0_29 : Int32) => if ¬ vp_nar .boolean s0_29 = s0_29 then none else some (s0_29)) (fun j29 => jo (j29 1) (fun j24 => if a0 = 110 then j24 else if a0 = 101 then j24 else if a0 = 115 then j24 else if a0 = 119 then j24 else j29 0))
abbrev G_X10_isDirection (p : Program) (l : Launch) (e : Env) (s : State) (m : MethodId) (args : Array Value) (below : List Frame) (meth : Method) (c : Code) (g : GE) (A : Nat → Prop) (res : Int32) (H : Heap) (locs : List Loc) (pc : Nat) (ls : Array Slot) (st : List Value) : Prop := W p l e (headSpec wsX10_isDirection rm_X10_isDirection).room s m args below meth c H locs 0 0 (MQ below (PoI g A ([] : va_W) res) args s 0 0 A) (F0 m pc ls st)
set_option maxHeartbeats 4000000 in
set_option maxRecDepth 100000 in
theorem k_X10_isDirection_0 {p : Program} {l : Launch} {e : Env} {s : State} {m : MethodId} {args : Array Value} {below : List Frame} {meth : Method} {c : Code} {g : GE} {A : Nat → Prop} {res : Int32} {H : Heap} {locs : List Loc} {ls : Array Slot} {a0 : Int32}
    (E : En cX10_isDirection RX10 wsX10_isDirection 1 (some .boolean) p s m args meth c) (hK : KK g s) (hA : ∀ q, s.heap.size ≤ q → A q) (h : f_X10_isDirection a0 = some res) (hW : Wo g A s H locs ([] : va_W)) (hl : lv_has ls 1 [(0, .int a0)]) : G_X10_isDirection p l e s m args below meth c g A res H locs 0 ls [] := by
  have hts := E.2.2.2.1
  unfold f_X10_isDirection at h
  obtain ⟨j29, hj29, h⟩ := jox1 h
  have J29 : ∀ (s0_29 : Int32) (H : Heap) (locs : List Loc) (ls : Array Slot), j29 s0_29 = some res → Wo g A s H locs ([] : va_W) → lv_has ls 1 [] → G_X10_isDirection p l e s m args below meth c g A res H locs 29 ls [.int s0_29] := by
    intro s0_29 H locs ls h hW hl
    rw [hj29] at h
    obtain ⟨hz, h⟩ := ox h
    obtain rfl := Option.some.inj h
    exact endI E (nar_z (Decidable.not_not.mp hz)) hW dX10_isDirection_29
  obtain ⟨j24, hj24, h⟩ := jox0 h
  have J24 : ∀ (H : Heap) (locs : List Loc) (ls : Array Slot), j24 = some res → Wo g A s H locs ([] : va_W) → lv_has ls 1 [] → G_X10_isDirection p l e s m args below meth c g A res H locs 24 ls [] := by
    intro H locs ls h hW hl
    rw [hj24] at h
    refine lv_iconst (v := 1) E.1 E.2.1 dX10_isDirection_24 (by decide) ?_
    refine lv_goto (tgt := 29) E.1 E.2.1 dX10_isDirection_25 (by decide) ?_
    exact J29 1 H locs ls h hW (lv_sub hl [] rfl)
  refine lv_iload_n E.1 E.2.1 dX10_isDirection_0 rfl (lv_at hl 0 rfl) ?_
  refine lv_bipush (v := 110) E.1 E.2.1 dX10_isDirection_1 (by decide) ?_
  refine lv_icmp_eq (tgt := 24) E.1 E.2.1 dX10_isDirection_3 (by decide) (fun c3 => ?_) (fun c3 => ?_)
  · have h := it c3 h
    exact J24  H locs ls h hW (lv_sub hl [] rfl)
  · have h := ie c3 h
    refine lv_iload_n E.1 E.2.1 dX10_isDirection_6 rfl (lv_at hl 0 rfl) ?_
    refine lv_bipush (v := 101) E.1 E.2.1 dX10_isDirection_7 (by decide) ?_
    refine lv_icmp_eq (tgt := 24) E.1 E.2.1 dX10_isDirection_9 (by decide) (fun c9 => ?_) (fun c9 => ?_)
    · have h := it c9 h
      exact J24  H locs ls h hW (lv_sub hl [] rfl)
    · have h := ie c9 h
      refine lv_iload_n E.1 E.2.1 dX10_isDirection_12 rfl (lv_at hl 0 rfl) ?_
      refine lv_bipush (v := 115) E.1 E.2.1 dX10_isDirection_13 (by decide) ?_
      refine lv_icmp_eq (tgt := 24) E.1 E.2.1 dX10_isDirection_15 (by decide) (fun c15 => ?_) (fun c15 => ?_)
      · have h := it c15 h
        exact J24  H locs ls h hW (lv_sub hl [] rfl)
      · have h := ie c15 h
        refine lv_iload_n E.1 E.2.1 dX10_isDirection_18 rfl (lv_at hl 0 rfl) ?_
        refine lv_bipush (v := 119) E.1 E.2.1 dX10_isDirection_19 (by decide) ?_
        refine lv_icmp_ne (tgt := 28) E.1 E.2.1 dX10_isDirection_21 (by decide) (fun c21 => ?_) (fun c21 => ?_)
        · have h := ie c21 h
          refine lv_iconst (v := 0) E.1 E.2.1 dX10_isDirection_28 (by decide) ?_
          exact J29 0 H locs ls h hW (lv_sub hl [] rfl)
        · have h := it c21 h
          exact J24  H locs ls h hW (lv_sub hl [] rfl)
theorem c_X10_isDirection (l : Launch) (g : GE) (a0 : Int32) {res : Int32} (hf : f_X10_isDirection a0 = some res) : CI l yX10_isDirection wsX10_isDirection rm_X10_isDirection g [.int a0] ([] : va_W) ([] : va_W) res :=
  mkI (cc := cX10_isDirection) (maxL := 1) (by decide) rfl (Nat.le_of_ble_eq_true rfl) (fun p e s m args below meth c A H locs ls E hK hA hW hl => k_X10_isDirection_0 E hK hA hf hW hl)

/-! PaperStorm$Sheet.isThreshold(I)Z X10_isThreshold -/
abbrev rm_X10_isThreshold : Room := { frames := 0, cells := 0, slots := 0, locals := 0 }
noncomputable def f_X10_isThreshold (a0 : Int32) : Option (Int32) :=
  jo (fun (s0_16 : Int32) => if ¬ vp_nar .boolean s0_16 = s0_16 then none else some (s0_16)) (fun j16 => jo (j16 0) (fun j15 => if a0 < 1 then j15 else if 50 < a0 then j15 else j16 1))
abbrev G_X10_isThreshold (p : Program) (l : Launch) (e : Env) (s : State) (m : MethodId) (args : Array Value) (below : List Frame) (meth : Method) (c : Code) (g : GE) (A : Nat → Prop) (res : Int32) (H : Heap) (locs : List Loc) (pc : Nat) (ls : Array Slot) (st : List Value) : Prop := W p l e (headSpec wsX10_isThreshold rm_X10_isThreshold).room s m args below meth c H locs 0 0 (MQ below (PoI g A ([] : va_W) res) args s 0 0 A) (F0 m pc ls st)
set_option maxHeartbeats 4000000 in
set_option maxRecDepth 100000 in
theorem k_X10_isThreshold_0 {p : Program} {l : Launch} {e : Env} {s : State} {m : MethodId} {args : Array Value} {below : List Frame} {meth : Method} {c : Code} {g : GE} {A : Nat → Prop} {res : Int32} {H : Heap} {locs : List Loc} {ls : Array Slot} {a0 : Int32}
    (E : En cX10_isThreshold RX10 wsX10_isThreshold 1 (some .boolean) p s m args meth c) (hK : KK g s) (hA : ∀ q, s.heap.size ≤ q → A q) (h : f_X10_isThreshold a0 = some res) (hW : Wo g A s H locs ([] : va_W)) (hl : lv_has ls 1 [(0, .int a0)]) : G_X10_isThreshold p l e s m args below meth c g A res H locs 0 ls [] := by
  have hts := E.2.2.2.1
  unfold f_X10_isThreshold at h
  obtain ⟨j16, hj16, h⟩ := jox1 h
  have J16 : ∀ (s0_16 : Int32) (H : Heap) (locs : List Loc) (ls : Array Slot), j16 s0_16 = some res → Wo g A s H locs ([] : va_W) → lv_has ls 1 [] → G_X10_isThreshold p l e s m args below meth c g A res H locs 16 ls [.int s0_16] := by
    intro s0_16 H locs ls h hW hl
    rw [hj16] at h
    obtain ⟨hz, h⟩ := ox h
    obtain rfl := Option.some.inj h
    exact endI E (nar_z (Decidable.not_not.mp hz)) hW dX10_isThreshold_16
  obtain ⟨j15, hj15, h⟩ := jox0 h
  have J15 : ∀ (H : Heap) (locs : List Loc) (ls : Array Slot), j15 = some res → Wo g A s H locs ([] : va_W) → lv_has ls 1 [] → G_X10_isThreshold p l e s m args below meth c g A res H locs 15 ls [] := by
    intro H locs ls h hW hl
    rw [hj15] at h
    refine lv_iconst (v := 0) E.1 E.2.1 dX10_isThreshold_15 (by decide) ?_
    exact J16 0 H locs ls h hW (lv_sub hl [] rfl)
  refine lv_iload_n E.1 E.2.1 dX10_isThreshold_0 rfl (lv_at hl 0 rfl) ?_
  refine lv_iconst (v := 1) E.1 E.2.1 dX10_isThreshold_1 (by decide) ?_
  refine lv_icmp_lt (tgt := 15) E.1 E.2.1 dX10_isThreshold_2 (by decide) (fun c2 => ?_) (fun c2 => ?_)
  · have h := it c2 h
    exact J15  H locs ls h hW (lv_sub hl [] rfl)
  · have h := ie c2 h
    refine lv_iload_n E.1 E.2.1 dX10_isThreshold_5 rfl (lv_at hl 0 rfl) ?_
    refine lv_bipush (v := 50) E.1 E.2.1 dX10_isThreshold_6 (by decide) ?_
    refine lv_icmp_gt (tgt := 15) E.1 E.2.1 dX10_isThreshold_8 (by decide) (fun c8 => ?_) (fun c8 => ?_)
    · have h := it c8 h
      exact J15  H locs ls h hW (lv_sub hl [] rfl)
    · have h := ie c8 h
      refine lv_iconst (v := 1) E.1 E.2.1 dX10_isThreshold_11 (by decide) ?_
      refine lv_goto (tgt := 16) E.1 E.2.1 dX10_isThreshold_12 (by decide) ?_
      exact J16 1 H locs ls h hW (lv_sub hl [] rfl)
theorem c_X10_isThreshold (l : Launch) (g : GE) (a0 : Int32) {res : Int32} (hf : f_X10_isThreshold a0 = some res) : CI l yX10_isThreshold wsX10_isThreshold rm_X10_isThreshold g [.int a0] ([] : va_W) ([] : va_W) res :=
  mkI (cc := cX10_isThreshold) (maxL := 1) (by decide) rfl (Nat.le_of_ble_eq_true rfl) (fun p e s m args below meth c A H locs ls E hK hA hW hl => k_X10_isThreshold_0 E hK hA hf hW hl)

/-! PaperStorm$Sheet.cellOf(II)I X10_cellOf -/
abbrev rm_X10_cellOf : Room := { frames := 0, cells := 0, slots := 0, locals := 0 }
noncomputable def f_X10_cellOf (a0 : Int32) (a1 : Int32) : Option (Int32) :=
  some (((a0 * 5) + a1))
abbrev G_X10_cellOf (p : Program) (l : Launch) (e : Env) (s : State) (m : MethodId) (args : Array Value) (below : List Frame) (meth : Method) (c : Code) (g : GE) (A : Nat → Prop) (res : Int32) (H : Heap) (locs : List Loc) (pc : Nat) (ls : Array Slot) (st : List Value) : Prop := W p l e (headSpec wsX10_cellOf rm_X10_cellOf).room s m args below meth c H locs 0 0 (MQ below (PoI g A ([] : va_W) res) args s 0 0 A) (F0 m pc ls st)
set_option maxHeartbeats 4000000 in
set_option maxRecDepth 100000 in
theorem k_X10_cellOf_0 {p : Program} {l : Launch} {e : Env} {s : State} {m : MethodId} {args : Array Value} {below : List Frame} {meth : Method} {c : Code} {g : GE} {A : Nat → Prop} {res : Int32} {H : Heap} {locs : List Loc} {ls : Array Slot} {a0 : Int32} {a1 : Int32}
    (E : En cX10_cellOf RX10 wsX10_cellOf 2 (some .int) p s m args meth c) (hK : KK g s) (hA : ∀ q, s.heap.size ≤ q → A q) (h : f_X10_cellOf a0 a1 = some res) (hW : Wo g A s H locs ([] : va_W)) (hl : lv_has ls 2 [(0, .int a0), (1, .int a1)]) : G_X10_cellOf p l e s m args below meth c g A res H locs 0 ls [] := by
  have hts := E.2.2.2.1
  unfold f_X10_cellOf at h
  refine lv_iload_n E.1 E.2.1 dX10_cellOf_0 rfl (lv_at hl 0 rfl) ?_
  refine lv_iconst (v := 5) E.1 E.2.1 dX10_cellOf_1 (by decide) ?_
  refine lv_imul E.1 E.2.1 dX10_cellOf_2 ?_
  refine lv_iload_n E.1 E.2.1 dX10_cellOf_3 rfl (lv_at hl 1 rfl) ?_
  refine lv_iadd E.1 E.2.1 dX10_cellOf_4 ?_
  obtain rfl := Option.some.inj h
  exact endI E rfl hW dX10_cellOf_5
theorem c_X10_cellOf (l : Launch) (g : GE) (a0 : Int32) (a1 : Int32) {res : Int32} (hf : f_X10_cellOf a0 a1 = some res) : CI l yX10_cellOf wsX10_cellOf rm_X10_cellOf g [.int a0, .int a1] ([] : va_W) ([] : va_W) res :=
  mkI (cc := cX10_cellOf) (maxL := 2) (by decide) rfl (Nat.le_of_ble_eq_true rfl) (fun p e s m args below meth c A H locs ls E hK hA hW hl => k_X10_cellOf_0 E hK hA hf hW hl)

/-! PaperStorm$Sheet.hasRightNeighbour(I)Z X10_hasRightNeighbour -/
abbrev rm_X10_hasRightNeighbour : Room := { frames := 0, cells := 0, slots := 0, locals := 0 }
noncomputable def f_X10_hasRightNeighbour (a0 : Int32) : Option (Int32) :=
  jo (fun (s0_12 : Int32) => if ¬ vp_nar .boolean s0_12 = s0_12 then none else some (s0_12)) (fun j12 => if 4 ≤ (a0 - a0 / 5 * 5) then j12 0 else j12 1)
abbrev G_X10_hasRightNeighbour (p : Program) (l : Launch) (e : Env) (s : State) (m : MethodId) (args : Array Value) (below : List Frame) (meth : Method) (c : Code) (g : GE) (A : Nat → Prop) (res : Int32) (H : Heap) (locs : List Loc) (pc : Nat) (ls : Array Slot) (st : List Value) : Prop := W p l e (headSpec wsX10_hasRightNeighbour rm_X10_hasRightNeighbour).room s m args below meth c H locs 0 0 (MQ below (PoI g A ([] : va_W) res) args s 0 0 A) (F0 m pc ls st)
set_option maxHeartbeats 4000000 in
set_option maxRecDepth 100000 in
theorem k_X10_hasRightNeighbour_0 {p : Program} {l : Launch} {e : Env} {s : State} {m : MethodId} {args : Array Value} {below : List Frame} {meth : Method} {c : Code} {g : GE} {A : Nat → Prop} {res : Int32} {H : Heap} {locs : List Loc} {ls : Array Slot} {a0 : Int32}
    (E : En cX10_hasRightNeighbour RX10 wsX10_hasRightNeighbour 1 (some .boolean) p s m args meth c) (hK : KK g s) (hA : ∀ q, s.heap.size ≤ q → A q) (h : f_X10_hasRightNeighbour a0 = some res) (hW : Wo g A s H locs ([] : va_W)) (hl : lv_has ls 1 [(0, .int a0)]) : G_X10_hasRightNeighbour p l e s m args below meth c g A res H locs 0 ls [] := by
  have hts := E.2.2.2.1
  unfold f_X10_hasRightNeighbour at h
  obtain ⟨j12, hj12, h⟩ := jox1 h
  have J12 : ∀ (s0_12 : Int32) (H : Heap) (locs : List Loc) (ls : Array Slot), j12 s0_12 = some res → Wo g A s H locs ([] : va_W) → lv_has ls 1 [] → G_X10_hasRightNeighbour p l e s m args below meth c g A res H locs 12 ls [.int s0_12] := by
    intro s0_12 H locs ls h hW hl
    rw [hj12] at h
    obtain ⟨hz, h⟩ := ox h
    obtain rfl := Option.some.inj h
    exact endI E (nar_z (Decidable.not_not.mp hz)) hW dX10_hasRightNeighbour_12
  refine lv_iload_n E.1 E.2.1 dX10_hasRightNeighbour_0 rfl (lv_at hl 0 rfl) ?_
  refine lv_iconst (v := 5) E.1 E.2.1 dX10_hasRightNeighbour_1 (by decide) ?_
  refine lv_irem E.1 E.2.1 dX10_hasRightNeighbour_2 (by decide) ?_
  refine lv_iconst (v := 4) E.1 E.2.1 dX10_hasRightNeighbour_3 (by decide) ?_
  refine lv_icmp_ge (tgt := 11) E.1 E.2.1 dX10_hasRightNeighbour_4 (by decide) (fun c4 => ?_) (fun c4 => ?_)
  · have h := it c4 h
    refine lv_iconst (v := 0) E.1 E.2.1 dX10_hasRightNeighbour_11 (by decide) ?_
    exact J12 0 H locs ls h hW (lv_sub hl [] rfl)
  · have h := ie c4 h
    refine lv_iconst (v := 1) E.1 E.2.1 dX10_hasRightNeighbour_7 (by decide) ?_
    refine lv_goto (tgt := 12) E.1 E.2.1 dX10_hasRightNeighbour_8 (by decide) ?_
    exact J12 1 H locs ls h hW (lv_sub hl [] rfl)
theorem c_X10_hasRightNeighbour (l : Launch) (g : GE) (a0 : Int32) {res : Int32} (hf : f_X10_hasRightNeighbour a0 = some res) : CI l yX10_hasRightNeighbour wsX10_hasRightNeighbour rm_X10_hasRightNeighbour g [.int a0] ([] : va_W) ([] : va_W) res :=
  mkI (cc := cX10_hasRightNeighbour) (maxL := 1) (by decide) rfl (Nat.le_of_ble_eq_true rfl) (fun p e s m args below meth c A H locs ls E hK hA hW hl => k_X10_hasRightNeighbour_0 E hK hA hf hW hl)

/-! PaperStorm$Sheet.hasLowerNeighbour(I)Z X10_hasLowerNeighbour -/
abbrev rm_X10_hasLowerNeighbour : Room := { frames := 0, cells := 0, slots := 0, locals := 0 }
noncomputable def f_X10_hasLowerNeighbour (a0 : Int32) : Option (Int32) :=
  jo (fun (s0_11 : Int32) => if ¬ vp_nar .boolean s0_11 = s0_11 then none else some (s0_11)) (fun j11 => if 20 ≤ a0 then j11 0 else j11 1)
abbrev G_X10_hasLowerNeighbour (p : Program) (l : Launch) (e : Env) (s : State) (m : MethodId) (args : Array Value) (below : List Frame) (meth : Method) (c : Code) (g : GE) (A : Nat → Prop) (res : Int32) (H : Heap) (locs : List Loc) (pc : Nat) (ls : Array Slot) (st : List Value) : Prop := W p l e (headSpec wsX10_hasLowerNeighbour rm_X10_hasLowerNeighbour).room s m args below meth c H locs 0 0 (MQ below (PoI g A ([] : va_W) res) args s 0 0 A) (F0 m pc ls st)
set_option maxHeartbeats 4000000 in
set_option maxRecDepth 100000 in
theorem k_X10_hasLowerNeighbour_0 {p : Program} {l : Launch} {e : Env} {s : State} {m : MethodId} {args : Array Value} {below : List Frame} {meth : Method} {c : Code} {g : GE} {A : Nat → Prop} {res : Int32} {H : Heap} {locs : List Loc} {ls : Array Slot} {a0 : Int32}
    (E : En cX10_hasLowerNeighbour RX10 wsX10_hasLowerNeighbour 1 (some .boolean) p s m args meth c) (hK : KK g s) (hA : ∀ q, s.heap.size ≤ q → A q) (h : f_X10_hasLowerNeighbour a0 = some res) (hW : Wo g A s H locs ([] : va_W)) (hl : lv_has ls 1 [(0, .int a0)]) : G_X10_hasLowerNeighbour p l e s m args below meth c g A res H locs 0 ls [] := by
  have hts := E.2.2.2.1
  unfold f_X10_hasLowerNeighbour at h
  obtain ⟨j11, hj11, h⟩ := jox1 h
  have J11 : ∀ (s0_11 : Int32) (H : Heap) (locs : List Loc) (ls : Array Slot), j11 s0_11 = some res → Wo g A s H locs ([] : va_W) → lv_has ls 1 [] → G_X10_hasLowerNeighbour p l e s m args below meth c g A res H locs 11 ls [.int s0_11] := by
    intro s0_11 H locs ls h hW hl
    rw [hj11] at h
    obtain ⟨hz, h⟩ := ox h
    obtain rfl := Option.some.inj h
    exact endI E (nar_z (Decidable.not_not.mp hz)) hW dX10_hasLowerNeighbour_11
  refine lv_iload_n E.1 E.2.1 dX10_hasLowerNeighbour_0 rfl (lv_at hl 0 rfl) ?_
  refine lv_bipush (v := 20) E.1 E.2.1 dX10_hasLowerNeighbour_1 (by decide) ?_
  refine lv_icmp_ge (tgt := 10) E.1 E.2.1 dX10_hasLowerNeighbour_3 (by decide) (fun c3 => ?_) (fun c3 => ?_)
  · have h := it c3 h
    refine lv_iconst (v := 0) E.1 E.2.1 dX10_hasLowerNeighbour_10 (by decide) ?_
    exact J11 0 H locs ls h hW (lv_sub hl [] rfl)
  · have h := ie c3 h
    refine lv_iconst (v := 1) E.1 E.2.1 dX10_hasLowerNeighbour_6 (by decide) ?_
    refine lv_goto (tgt := 11) E.1 E.2.1 dX10_hasLowerNeighbour_7 (by decide) ?_
    exact J11 1 H locs ls h hW (lv_sub hl [] rfl)
theorem c_X10_hasLowerNeighbour (l : Launch) (g : GE) (a0 : Int32) {res : Int32} (hf : f_X10_hasLowerNeighbour a0 = some res) : CI l yX10_hasLowerNeighbour wsX10_hasLowerNeighbour rm_X10_hasLowerNeighbour g [.int a0] ([] : va_W) ([] : va_W) res :=
  mkI (cc := cX10_hasLowerNeighbour) (maxL := 1) (by decide) rfl (Nat.le_of_ble_eq_true rfl) (fun p e s m args below meth c A H locs ls E hK hA hW hl => k_X10_hasLowerNeighbour_0 E hK hA hf hW hl)

/-! PaperStorm$Sheet.copyFrom(LPaperStorm$Sheet;)V X10_copyFrom -/
abbrev rm_X10_copyFrom : Room := { frames := 0, cells := 0, slots := 0, locals := 0 }
theorem in_X10_copyFrom_X10 : ∀ w ∈ wsX100, w ∈ wsX10_copyFrom := by decide +kernel
theorem lk_X10_copyFrom_15 : Cond.fieldLink RX10 15 "PaperStorm$Sheet" "threshold" "I" ∈ wsX10_copyFrom := by decide +kernel
theorem lk_X10_copyFrom_9 : Cond.fieldLink RX10 9 "PaperStorm$Sheet" "cells" "[I" ∈ wsX10_copyFrom := by decide +kernel
noncomputable def f_X10_copyFrom_2 (x_a1_cells : Nat → Int32) (z26 : (Nat → Int32) → Option ((Nat → Int32) × Int32)) : Nat → Int32 → (Nat → Int32) → Option ((Nat → Int32) × Int32)
  | 0, _, _ => none
  | n + 1, l2_2, x_cells_2 => if 25 ≤ l2_2 then z26 x_cells_2 else if l2_2 < 0 ∨ 25 ≤ l2_2.toNatClampNeg then none else f_X10_copyFrom_2 x_a1_cells z26 n (l2_2 + 1) (upd x_cells_2 l2_2.toNatClampNeg (x_a1_cells l2_2.toNatClampNeg))
noncomputable def f_X10_copyFrom (x_cells : Nat → Int32) (x_threshold : Int32) (x_a1_cells : Nat → Int32) (x_a1_threshold : Int32) : Option ((Nat → Int32) × Int32) :=
  f_X10_copyFrom_2 x_a1_cells (fun x_cells_26e => some (x_cells_26e, x_a1_threshold)) 1000 0 x_cells
abbrev G_X10_copyFrom (p : Program) (l : Launch) (e : Env) (s : State) (m : MethodId) (args : Array Value) (below : List Frame) (meth : Method) (c : Code) (g : GE) (A : Nat → Prop) (h0 h1 h2 h3 : Nat) (x_a1_cells : Nat → Int32) (x_a1_threshold : Int32) (res : (Nat → Int32) × Int32) (H : Heap) (locs : List Loc) (pc : Nat) (ls : Array Slot) (st : List Value) : Prop := W p l e (headSpec wsX10_copyFrom rm_X10_copyFrom).room s m args below meth c H locs 0 0 (MQ below (PoV g A ((w_X10 g h0 h1 res.1 res.2) ++ (w_X10 g h2 h3 x_a1_cells x_a1_threshold))) args s 0 0 A) (F0 m pc ls st)
set_option maxHeartbeats 4000000 in
set_option maxRecDepth 100000 in
theorem k_X10_copyFrom_2 {p : Program} {l : Launch} {e : Env} {s : State} {m : MethodId} {args : Array Value} {below : List Frame} {meth : Method} {c : Code} {g : GE} {A : Nat → Prop} {h0 h1 h2 h3 : Nat} {x_threshold : Int32} {x_a1_cells : Nat → Int32} {x_a1_threshold : Int32} {res : (Nat → Int32) × Int32} {z26 : (Nat → Int32) → Option ((Nat → Int32) × Int32)}
    (E : En cX10_copyFrom RX10 wsX10_copyFrom 3 none p s m args meth c) (hK : KK g s) (hA : ∀ q, s.heap.size ≤ q → A q)
    (hz26 : ∀ (x_cells_26e : Nat → Int32) (H : Heap) (locs : List Loc) (ls : Array Slot), z26 x_cells_26e = some res → Wo g A s H locs ((w_X10 g h0 h1 x_cells_26e x_threshold) ++ (w_X10 g h2 h3 x_a1_cells x_a1_threshold)) → lv_has ls 3 [(0, .ref h0), (1, .ref h2)] → G_X10_copyFrom p l e s m args below meth c g A h0 h1 h2 h3 x_a1_cells x_a1_threshold res H locs 26 ls [])
    : ∀ (n : Nat) (l2_2 : Int32) (x_cells_2 : Nat → Int32) (H : Heap) (locs : List Loc) (ls : Array Slot), f_X10_copyFrom_2 x_a1_cells z26 n l2_2 x_cells_2 = some res → Wo g A s H locs ((w_X10 g h0 h1 x_cells_2 x_threshold) ++ (w_X10 g h2 h3 x_a1_cells x_a1_threshold)) → lv_has ls 3 [(0, .ref h0), (1, .ref h2), (2, .int l2_2)] → G_X10_copyFrom p l e s m args below meth c g A h0 h1 h2 h3 x_a1_cells x_a1_threshold res H locs 2 ls [] := by
  have hts := E.2.2.2.1
  intro n
  induction n with
  | zero => intro l2_2 x_cells_2 H locs ls h hW hl; rw [f_X10_copyFrom_2] at h; cases h
  | succ n ih =>
    intro l2_2 x_cells_2 H locs ls h hW hl
    rw [f_X10_copyFrom_2] at h
    refine lv_iload_n E.1 E.2.1 dX10_copyFrom_2 rfl (lv_at hl 2 rfl) ?_
    refine lv_bipush (v := 25) E.1 E.2.1 dX10_copyFrom_3 (by decide) ?_
    refine lv_icmp_ge (tgt := 26) E.1 E.2.1 dX10_copyFrom_5 (by decide) (fun c5 => ?_) (fun c5 => ?_)
    · have h := it c5 h
      exact hz26 x_cells_2 H locs ls h hW (lv_sub hl [0, 1] rfl)
    · have h := ie c5 h
      refine lv_aload_n E.1 E.2.1 dX10_copyFrom_8 rfl (lv_at hl 0 rfl) ?_
      refine wGet (v := .ref h1) E hK in_X10_copyFrom_X10 hW 0 lk_X10_copyFrom_9 0 rfl rfl (by decide) rfl rfl dX10_copyFrom_9 ?_
      refine lv_iload_n E.1 E.2.1 dX10_copyFrom_12 rfl (lv_at hl 2 rfl) ?_
      refine lv_aload_n E.1 E.2.1 dX10_copyFrom_13 rfl (lv_at hl 1 rfl) ?_
      refine wGet (v := .ref h3) E hK in_X10_copyFrom_X10 hW 0 lk_X10_copyFrom_9 2 rfl rfl (by decide) rfl rfl dX10_copyFrom_14 ?_
      refine lv_iload_n E.1 E.2.1 dX10_copyFrom_17 rfl (lv_at hl 2 rfl) ?_
      obtain ⟨hi18, h⟩ := ox h
      refine wIald E hK hW 3 rfl hi18 dX10_copyFrom_18 ?_
      refine wIast (world' := ((w_X10 g h0 h1 (upd x_cells_2 l2_2.toNatClampNeg (x_a1_cells l2_2.toNatClampNeg)) x_threshold) ++ (w_X10 g h2 h3 x_a1_cells x_a1_threshold))) E hK hW 1 rfl hi18 dX10_copyFrom_19 rfl (fun H locs hW => ?_)
      refine lv_iinc (v := (l2_2 + 1)) (lv' := [(2, .int (l2_2 + 1)), (0, .ref h0), (1, .ref h2)]) E.1 E.2.1 dX10_copyFrom_20 hl (k := 2) rfl rfl (by decide) rfl (fun ls hl => ?_)
      refine lv_goto (tgt := 2) E.1 E.2.1 dX10_copyFrom_23 (by decide) ?_
      exact ih (l2_2 + 1) (upd x_cells_2 l2_2.toNatClampNeg (x_a1_cells l2_2.toNatClampNeg)) H locs ls h hW (lv_sub hl [1, 2, 0] rfl)
set_option maxHeartbeats 4000000 in
set_option maxRecDepth 100000 in
theorem k_X10_copyFrom_0 {p : Program} {l : Launch} {e : Env} {s : State} {m : MethodId} {args : Array Value} {below : List Frame} {meth : Method} {c : Code} {g : GE} {A : Nat → Prop} {h0 h1 h2 h3 : Nat} {x_cells : Nat → Int32} {x_threshold : Int32} {x_a1_cells : Nat → Int32} {x_a1_threshold : Int32} {res : (Nat → Int32) × Int32} {H : Heap} {locs : List Loc} {ls : Array Slot} 
    (E : En cX10_copyFrom RX10 wsX10_copyFrom 3 none p s m args meth c) (hK : KK g s) (hA : ∀ q, s.heap.size ≤ q → A q) (h : f_X10_copyFrom x_cells x_threshold x_a1_cells x_a1_threshold = some res) (hW : Wo g A s H locs ((w_X10 g h0 h1 x_cells x_threshold) ++ (w_X10 g h2 h3 x_a1_cells x_a1_threshold))) (hl : lv_has ls 3 [(0, .ref h0), (1, .ref h2)]) : G_X10_copyFrom p l e s m args below meth c g A h0 h1 h2 h3 x_a1_cells x_a1_threshold res H locs 0 ls [] := by
  have hts := E.2.2.2.1
  unfold f_X10_copyFrom at h
  refine lv_iconst (v := 0) E.1 E.2.1 dX10_copyFrom_0 (by decide) ?_
  refine lv_istore_n (lv' := [(2, .int 0), (0, .ref h0), (1, .ref h2)]) E.1 E.2.1 dX10_copyFrom_1 rfl hl (by decide) rfl (fun ls hl => ?_)
  refine k_X10_copyFrom_2 E hK hA ?_ 1000 0 x_cells H locs ls h hW (lv_sub hl [1, 2, 0] rfl)
  · intro x_cells_26e H locs ls h hW hl
    refine lv_aload_n E.1 E.2.1 dX10_copyFrom_26 rfl (lv_at hl 0 rfl) ?_
    refine lv_aload_n E.1 E.2.1 dX10_copyFrom_27 rfl (lv_at hl 1 rfl) ?_
    refine wGet (v := .int x_a1_threshold) E hK in_X10_copyFrom_X10 hW 1 lk_X10_copyFrom_15 2 rfl rfl (by decide) rfl rfl dX10_copyFrom_28 ?_
    refine wPut (world' := ((w_X10 g h0 h1 x_cells_26e x_a1_threshold) ++ (w_X10 g h2 h3 x_a1_cells x_a1_threshold))) E hK in_X10_copyFrom_X10 tyX10 tyX10_ok nmX10 hW 1 lk_X10_copyFrom_15 0 rfl rfl (by decide) rfl rfl rfl rfl rfl (Nat.le_of_ble_eq_true rfl) dX10_copyFrom_31 rfl (fun H locs hW => ?_)
    obtain rfl := Option.some.inj h
    exact endV E hW dX10_copyFrom_34
theorem c_X10_copyFrom (l : Launch) (g : GE) (h0 h1 h2 h3 : Nat) (x_cells : Nat → Int32) (x_threshold : Int32) (x_a1_cells : Nat → Int32) (x_a1_threshold : Int32) {res : (Nat → Int32) × Int32} (hf : f_X10_copyFrom x_cells x_threshold x_a1_cells x_a1_threshold = some res) : CV l yX10_copyFrom wsX10_copyFrom rm_X10_copyFrom g [.ref h0, .ref h2] ((w_X10 g h0 h1 x_cells x_threshold) ++ (w_X10 g h2 h3 x_a1_cells x_a1_threshold)) ((w_X10 g h0 h1 res.1 res.2) ++ (w_X10 g h2 h3 x_a1_cells x_a1_threshold)) :=
  mkV (cc := cX10_copyFrom) (maxL := 3) (by decide) rfl (Nat.le_of_ble_eq_true rfl) (fun p e s m args below meth c A H locs ls E hK hA hW hl => k_X10_copyFrom_0 E hK hA hf hW hl)

/-! PaperStorm$Sheet.at(I)I X10_at -/
abbrev rm_X10_at : Room := { frames := 0, cells := 0, slots := 0, locals := 0 }
theorem in_X10_at_X10 : ∀ w ∈ wsX100, w ∈ wsX10_at := by decide +kernel
theorem lk_X10_at_9 : Cond.fieldLink RX10 9 "PaperStorm$Sheet" "cells" "[I" ∈ wsX10_at := by decide +kernel
noncomputable def f_X10_at (x_cells : Nat → Int32) (a1 : Int32) : Option (Int32) :=
  jo (fun (s0_20 : Int32) => some (s0_20)) (fun j20 => jo (j20 0) (fun j19 => if a1 < 0 then j19 else if 25 ≤ a1 then j19 else if a1 < 0 ∨ 25 ≤ a1.toNatClampNeg then none else j20 (x_cells a1.toNatClampNeg)))
abbrev G_X10_at (p : Program) (l : Launch) (e : Env) (s : State) (m : MethodId) (args : Array Value) (below : List Frame) (meth : Method) (c : Code) (g : GE) (A : Nat → Prop) (h0 h1 : Nat) (x_cells : Nat → Int32) (x_threshold : Int32) (res : Int32) (H : Heap) (locs : List Loc) (pc : Nat) (ls : Array Slot) (st : List Value) : Prop := W p l e (headSpec wsX10_at rm_X10_at).room s m args below meth c H locs 0 0 (MQ below (PoI g A (w_X10 g h0 h1 x_cells x_threshold) res) args s 0 0 A) (F0 m pc ls st)
set_option maxHeartbeats 4000000 in
set_option maxRecDepth 100000 in
theorem k_X10_at_0 {p : Program} {l : Launch} {e : Env} {s : State} {m : MethodId} {args : Array Value} {below : List Frame} {meth : Method} {c : Code} {g : GE} {A : Nat → Prop} {h0 h1 : Nat} {x_cells : Nat → Int32} {x_threshold : Int32} {res : Int32} {H : Heap} {locs : List Loc} {ls : Array Slot} {a1 : Int32}
    (E : En cX10_at RX10 wsX10_at 2 (some .int) p s m args meth c) (hK : KK g s) (hA : ∀ q, s.heap.size ≤ q → A q) (h : f_X10_at x_cells a1 = some res) (hW : Wo g A s H locs (w_X10 g h0 h1 x_cells x_threshold)) (hl : lv_has ls 2 [(0, .ref h0), (1, .int a1)]) : G_X10_at p l e s m args below meth c g A h0 h1 x_cells x_threshold res H locs 0 ls [] := by
  have hts := E.2.2.2.1
  unfold f_X10_at at h
  obtain ⟨j20, hj20, h⟩ := jox1 h
  have J20 : ∀ (s0_20 : Int32) (H : Heap) (locs : List Loc) (ls : Array Slot), j20 s0_20 = some res → Wo g A s H locs (w_X10 g h0 h1 x_cells x_threshold) → lv_has ls 2 [] → G_X10_at p l e s m args below meth c g A h0 h1 x_cells x_threshold res H locs 20 ls [.int s0_20] := by
    intro s0_20 H locs ls h hW hl
    rw [hj20] at h
    obtain rfl := Option.some.inj h
    exact endI E rfl hW dX10_at_20
  obtain ⟨j19, hj19, h⟩ := jox0 h
  have J19 : ∀ (H : Heap) (locs : List Loc) (ls : Array Slot), j19 = some res → Wo g A s H locs (w_X10 g h0 h1 x_cells x_threshold) → lv_has ls 2 [] → G_X10_at p l e s m args below meth c g A h0 h1 x_cells x_threshold res H locs 19 ls [] := by
    intro H locs ls h hW hl
    rw [hj19] at h
    refine lv_iconst (v := 0) E.1 E.2.1 dX10_at_19 (by decide) ?_
    exact J20 0 H locs ls h hW (lv_sub hl [] rfl)
  refine lv_iload_n E.1 E.2.1 dX10_at_0 rfl (lv_at hl 1 rfl) ?_
  refine lv_if_lt (tgt := 19) E.1 E.2.1 dX10_at_1 (by decide) (fun c1 => ?_) (fun c1 => ?_)
  · have h := it c1 h
    exact J19  H locs ls h hW (lv_sub hl [] rfl)
  · have h := ie c1 h
    refine lv_iload_n E.1 E.2.1 dX10_at_4 rfl (lv_at hl 1 rfl) ?_
    refine lv_bipush (v := 25) E.1 E.2.1 dX10_at_5 (by decide) ?_
    refine lv_icmp_ge (tgt := 19) E.1 E.2.1 dX10_at_7 (by decide) (fun c7 => ?_) (fun c7 => ?_)
    · have h := it c7 h
      exact J19  H locs ls h hW (lv_sub hl [] rfl)
    · have h := ie c7 h
      refine lv_aload_n E.1 E.2.1 dX10_at_10 rfl (lv_at hl 0 rfl) ?_
      refine wGet (v := .ref h1) E hK in_X10_at_X10 hW 0 lk_X10_at_9 0 rfl rfl (by decide) rfl rfl dX10_at_11 ?_
      refine lv_iload_n E.1 E.2.1 dX10_at_14 rfl (lv_at hl 1 rfl) ?_
      obtain ⟨hi15, h⟩ := ox h
      refine wIald E hK hW 1 rfl hi15 dX10_at_15 ?_
      refine lv_goto (tgt := 20) E.1 E.2.1 dX10_at_16 (by decide) ?_
      exact J20 (x_cells a1.toNatClampNeg) H locs ls h hW (lv_sub hl [] rfl)
theorem c_X10_at (l : Launch) (g : GE) (h0 h1 : Nat) (x_cells : Nat → Int32) (x_threshold : Int32) (a1 : Int32) {res : Int32} (hf : f_X10_at x_cells a1 = some res) : CI l yX10_at wsX10_at rm_X10_at g [.ref h0, .int a1] (w_X10 g h0 h1 x_cells x_threshold) (w_X10 g h0 h1 x_cells x_threshold) res :=
  mkI (cc := cX10_at) (maxL := 2) (by decide) rfl (Nat.le_of_ble_eq_true rfl) (fun p e s m args below meth c A H locs ls E hK hA hW hl => k_X10_at_0 E hK hA hf hW hl)

/-! PaperStorm$Sheet.put(II)I X10_put -/
abbrev rm_X10_put : Room := { frames := 0, cells := 0, slots := 0, locals := 0 }
theorem in_X10_put_X10 : ∀ w ∈ wsX100, w ∈ wsX10_put := by decide +kernel
theorem lk_X10_put_9 : Cond.fieldLink RX10 9 "PaperStorm$Sheet" "cells" "[I" ∈ wsX10_put := by decide +kernel
noncomputable def f_X10_put (x_cells : Nat → Int32) (a1 : Int32) (a2 : Int32) : Option (Int32 × (Nat → Int32)) :=
  jo (some (0, x_cells)) (fun j10 => if a1 < 0 then j10 else if a1 < 25 then jo (fun (s0_27 : Int32) => if a1 < 0 ∨ 25 ≤ a1.toNatClampNeg then none else some (s0_27, (upd x_cells a1.toNatClampNeg a2))) (fun j27 => if a1 < 0 ∨ 25 ≤ a1.toNatClampNeg then none else if (x_cells a1.toNatClampNeg) = a2 then j27 0 else j27 1) else j10)
abbrev G_X10_put (p : Program) (l : Launch) (e : Env) (s : State) (m : MethodId) (args : Array Value) (below : List Frame) (meth : Method) (c : Code) (g : GE) (A : Nat → Prop) (h0 h1 : Nat) (x_threshold : Int32) (res : Int32 × (Nat → Int32)) (H : Heap) (locs : List Loc) (pc : Nat) (ls : Array Slot) (st : List Value) : Prop := W p l e (headSpec wsX10_put rm_X10_put).room s m args below meth c H locs 0 0 (MQ below (PoI g A (w_X10 g h0 h1 res.2 x_threshold) res.1) args s 0 0 A) (F0 m pc ls st)
set_option maxHeartbeats 4000000 in
set_option maxRecDepth 100000 in
theorem k_X10_put_0 {p : Program} {l : Launch} {e : Env} {s : State} {m : MethodId} {args : Array Value} {below : List Frame} {meth : Method} {c : Code} {g : GE} {A : Nat → Prop} {h0 h1 : Nat} {x_cells : Nat → Int32} {x_threshold : Int32} {res : Int32 × (Nat → Int32)} {H : Heap} {locs : List Loc} {ls : Array Slot} {a1 : Int32} {a2 : Int32}
    (E : En cX10_put RX10 wsX10_put 4 (some .int) p s m args meth c) (hK : KK g s) (hA : ∀ q, s.heap.size ≤ q → A q) (h : f_X10_put x_cells a1 a2 = some res) (hW : Wo g A s H locs (w_X10 g h0 h1 x_cells x_threshold)) (hl : lv_has ls 4 [(0, .ref h0), (1, .int a1), (2, .int a2)]) : G_X10_put p l e s m args below meth c g A h0 h1 x_threshold res H locs 0 ls [] := by
  have hts := E.2.2.2.1
  unfold f_X10_put at h
  obtain ⟨j10, hj10, h⟩ := jox0 h
  have J10 : ∀ (H : Heap) (locs : List Loc) (ls : Array Slot), j10 = some res → Wo g A s H locs (w_X10 g h0 h1 x_cells x_threshold) → lv_has ls 4 [] → G_X10_put p l e s m args below meth c g A h0 h1 x_threshold res H locs 10 ls [] := by
    intro H locs ls h hW hl
    rw [hj10] at h
    refine lv_iconst (v := 0) E.1 E.2.1 dX10_put_10 (by decide) ?_
    obtain rfl := Option.some.inj h
    exact endI E rfl hW dX10_put_11
  refine lv_iload_n E.1 E.2.1 dX10_put_0 rfl (lv_at hl 1 rfl) ?_
  refine lv_if_lt (tgt := 10) E.1 E.2.1 dX10_put_1 (by decide) (fun c1 => ?_) (fun c1 => ?_)
  · have h := it c1 h
    exact J10  H locs ls h hW (lv_sub hl [] rfl)
  · have h := ie c1 h
    refine lv_iload_n E.1 E.2.1 dX10_put_4 rfl (lv_at hl 1 rfl) ?_
    refine lv_bipush (v := 25) E.1 E.2.1 dX10_put_5 (by decide) ?_
    refine lv_icmp_lt (tgt := 12) E.1 E.2.1 dX10_put_7 (by decide) (fun c7 => ?_) (fun c7 => ?_)
    · have h := it c7 h
      obtain ⟨j27, hj27, h⟩ := jox1 h
      have J27 : ∀ (s0_27 : Int32) (H : Heap) (locs : List Loc) (ls : Array Slot), j27 s0_27 = some res → Wo g A s H locs (w_X10 g h0 h1 x_cells x_threshold) → lv_has ls 4 [(0, .ref h0), (1, .int a1), (2, .int a2)] → G_X10_put p l e s m args below meth c g A h0 h1 x_threshold res H locs 27 ls [.int s0_27] := by
        intro s0_27 H locs ls h hW hl
        rw [hj27] at h
        refine lv_istore_n (lv' := [(3, .int s0_27), (0, .ref h0), (1, .int a1), (2, .int a2)]) E.1 E.2.1 dX10_put_27 rfl hl (by decide) rfl (fun ls hl => ?_)
        refine lv_aload_n E.1 E.2.1 dX10_put_28 rfl (lv_at hl 1 rfl) ?_
        refine wGet (v := .ref h1) E hK in_X10_put_X10 hW 0 lk_X10_put_9 0 rfl rfl (by decide) rfl rfl dX10_put_29 ?_
        refine lv_iload_n E.1 E.2.1 dX10_put_32 rfl (lv_at hl 2 rfl) ?_
        refine lv_iload_n E.1 E.2.1 dX10_put_33 rfl (lv_at hl 3 rfl) ?_
        obtain ⟨hi34, h⟩ := ox h
        refine wIast (world' := (w_X10 g h0 h1 (upd x_cells a1.toNatClampNeg a2) x_threshold)) E hK hW 1 rfl hi34 dX10_put_34 rfl (fun H locs hW => ?_)
        refine lv_iload_n E.1 E.2.1 dX10_put_35 rfl (lv_at hl 0 rfl) ?_
        obtain rfl := Option.some.inj h
        exact endI E rfl hW dX10_put_36
      refine lv_aload_n E.1 E.2.1 dX10_put_12 rfl (lv_at hl 0 rfl) ?_
      refine wGet (v := .ref h1) E hK in_X10_put_X10 hW 0 lk_X10_put_9 0 rfl rfl (by decide) rfl rfl dX10_put_13 ?_
      refine lv_iload_n E.1 E.2.1 dX10_put_16 rfl (lv_at hl 1 rfl) ?_
      obtain ⟨hi17, h⟩ := ox h
      refine wIald E hK hW 1 rfl hi17 dX10_put_17 ?_
      refine lv_iload_n E.1 E.2.1 dX10_put_18 rfl (lv_at hl 2 rfl) ?_
      refine lv_icmp_ne (tgt := 26) E.1 E.2.1 dX10_put_19 (by decide) (fun c19 => ?_) (fun c19 => ?_)
      · have h := ie c19 h
        refine lv_iconst (v := 1) E.1 E.2.1 dX10_put_26 (by decide) ?_
        exact J27 1 H locs ls h hW (lv_sub hl [0, 1, 2] rfl)
      · have h := it c19 h
        refine lv_iconst (v := 0) E.1 E.2.1 dX10_put_22 (by decide) ?_
        refine lv_goto (tgt := 27) E.1 E.2.1 dX10_put_23 (by decide) ?_
        exact J27 0 H locs ls h hW (lv_sub hl [0, 1, 2] rfl)
    · have h := ie c7 h
      exact J10  H locs ls h hW (lv_sub hl [] rfl)
theorem c_X10_put (l : Launch) (g : GE) (h0 h1 : Nat) (x_cells : Nat → Int32) (x_threshold : Int32) (a1 : Int32) (a2 : Int32) {res : Int32 × (Nat → Int32)} (hf : f_X10_put x_cells a1 a2 = some res) : CI l yX10_put wsX10_put rm_X10_put g [.ref h0, .int a1, .int a2] (w_X10 g h0 h1 x_cells x_threshold) (w_X10 g h0 h1 res.2 x_threshold) res.1 :=
  mkI (cc := cX10_put) (maxL := 4) (by decide) rfl (Nat.le_of_ble_eq_true rfl) (fun p e s m args below meth c A H locs ls E hK hA hW hl => k_X10_put_0 E hK hA hf hW hl)

/-! PaperStorm$Sheet.sum()I X10_sum -/
abbrev rm_X10_sum : Room := { frames := 0, cells := 0, slots := 0, locals := 0 }
theorem in_X10_sum_X10 : ∀ w ∈ wsX100, w ∈ wsX10_sum := by decide +kernel
theorem lk_X10_sum_9 : Cond.fieldLink RX10 9 "PaperStorm$Sheet" "cells" "[I" ∈ wsX10_sum := by decide +kernel
noncomputable def f_X10_sum_4 (x_cells : Nat → Int32) (z25 : Int32 → Option (Int32)) : Nat → Int32 → Int32 → Option (Int32)
  | 0, _, _ => none
  | n + 1, l1_4, l2_4 => if 25 ≤ l2_4 then z25 l1_4 else if l2_4 < 0 ∨ 25 ≤ l2_4.toNatClampNeg then none else f_X10_sum_4 x_cells z25 n (l1_4 + (x_cells l2_4.toNatClampNeg)) (l2_4 + 1)
noncomputable def f_X10_sum (x_cells : Nat → Int32) : Option (Int32) :=
  f_X10_sum_4 x_cells (fun l1_25e => some (l1_25e)) 1000 0 0
abbrev G_X10_sum (p : Program) (l : Launch) (e : Env) (s : State) (m : MethodId) (args : Array Value) (below : List Frame) (meth : Method) (c : Code) (g : GE) (A : Nat → Prop) (h0 h1 : Nat) (x_cells : Nat → Int32) (x_threshold : Int32) (res : Int32) (H : Heap) (locs : List Loc) (pc : Nat) (ls : Array Slot) (st : List Value) : Prop := W p l e (headSpec wsX10_sum rm_X10_sum).room s m args below meth c H locs 0 0 (MQ below (PoI g A (w_X10 g h0 h1 x_cells x_threshold) res) args s 0 0 A) (F0 m pc ls st)
set_option maxHeartbeats 4000000 in
set_option maxRecDepth 100000 in
theorem k_X10_sum_4 {p : Program} {l : Launch} {e : Env} {s : State} {m : MethodId} {args : Array Value} {below : List Frame} {meth : Method} {c : Code} {g : GE} {A : Nat → Prop} {h0 h1 : Nat} {x_cells : Nat → Int32} {x_threshold : Int32} {res : Int32} {z25 : Int32 → Option (Int32)}
    (E : En cX10_sum RX10 wsX10_sum 3 (some .int) p s m args meth c) (hK : KK g s) (hA : ∀ q, s.heap.size ≤ q → A q)
    (hz25 : ∀ (l1_25e : Int32) (H : Heap) (locs : List Loc) (ls : Array Slot), z25 l1_25e = some res → Wo g A s H locs (w_X10 g h0 h1 x_cells x_threshold) → lv_has ls 3 [(1, .int l1_25e)] → G_X10_sum p l e s m args below meth c g A h0 h1 x_cells x_threshold res H locs 25 ls [])
    : ∀ (n : Nat) (l1_4 : Int32) (l2_4 : Int32) (H : Heap) (locs : List Loc) (ls : Array Slot), f_X10_sum_4 x_cells z25 n l1_4 l2_4 = some res → Wo g A s H locs (w_X10 g h0 h1 x_cells x_threshold) → lv_has ls 3 [(0, .ref h0), (1, .int l1_4), (2, .int l2_4)] → G_X10_sum p l e s m args below meth c g A h0 h1 x_cells x_threshold res H locs 4 ls [] := by
  have hts := E.2.2.2.1
  intro n
  induction n with
  | zero => intro l1_4 l2_4 H locs ls h hW hl; rw [f_X10_sum_4] at h; cases h
  | succ n ih =>
    intro l1_4 l2_4 H locs ls h hW hl
    rw [f_X10_sum_4] at h
    refine lv_iload_n E.1 E.2.1 dX10_sum_4 rfl (lv_at hl 2 rfl) ?_
    refine lv_bipush (v := 25) E.1 E.2.1 dX10_sum_5 (by decide) ?_
    refine lv_icmp_ge (tgt := 25) E.1 E.2.1 dX10_sum_7 (by decide) (fun c7 => ?_) (fun c7 => ?_)
    · have h := it c7 h
      exact hz25 l1_4 H locs ls h hW (lv_sub hl [1] rfl)
    · have h := ie c7 h
      refine lv_iload_n E.1 E.2.1 dX10_sum_10 rfl (lv_at hl 1 rfl) ?_
      refine lv_aload_n E.1 E.2.1 dX10_sum_11 rfl (lv_at hl 0 rfl) ?_
      refine wGet (v := .ref h1) E hK in_X10_sum_X10 hW 0 lk_X10_sum_9 0 rfl rfl (by decide) rfl rfl dX10_sum_12 ?_
      refine lv_iload_n E.1 E.2.1 dX10_sum_15 rfl (lv_at hl 2 rfl) ?_
      obtain ⟨hi16, h⟩ := ox h
      refine wIald E hK hW 1 rfl hi16 dX10_sum_16 ?_
      refine lv_iadd E.1 E.2.1 dX10_sum_17 ?_
      refine lv_istore_n (lv' := [(1, .int (l1_4 + (x_cells l2_4.toNatClampNeg))), (0, .ref h0), (2, .int l2_4)]) E.1 E.2.1 dX10_sum_18 rfl hl (by decide) rfl (fun ls hl => ?_)
      refine lv_iinc (v := (l2_4 + 1)) (lv' := [(2, .int (l2_4 + 1)), (1, .int (l1_4 + (x_cells l2_4.toNatClampNeg))), (0, .ref h0)]) E.1 E.2.1 dX10_sum_19 hl (k := 2) rfl rfl (by decide) rfl (fun ls hl => ?_)
      refine lv_goto (tgt := 4) E.1 E.2.1 dX10_sum_22 (by decide) ?_
      exact ih (l1_4 + (x_cells l2_4.toNatClampNeg)) (l2_4 + 1) H locs ls h hW (lv_sub hl [2, 1, 0] rfl)
set_option maxHeartbeats 4000000 in
set_option maxRecDepth 100000 in
theorem k_X10_sum_0 {p : Program} {l : Launch} {e : Env} {s : State} {m : MethodId} {args : Array Value} {below : List Frame} {meth : Method} {c : Code} {g : GE} {A : Nat → Prop} {h0 h1 : Nat} {x_cells : Nat → Int32} {x_threshold : Int32} {res : Int32} {H : Heap} {locs : List Loc} {ls : Array Slot} 
    (E : En cX10_sum RX10 wsX10_sum 3 (some .int) p s m args meth c) (hK : KK g s) (hA : ∀ q, s.heap.size ≤ q → A q) (h : f_X10_sum x_cells = some res) (hW : Wo g A s H locs (w_X10 g h0 h1 x_cells x_threshold)) (hl : lv_has ls 3 [(0, .ref h0)]) : G_X10_sum p l e s m args below meth c g A h0 h1 x_cells x_threshold res H locs 0 ls [] := by
  have hts := E.2.2.2.1
  unfold f_X10_sum at h
  refine lv_iconst (v := 0) E.1 E.2.1 dX10_sum_0 (by decide) ?_
  refine lv_istore_n (lv' := [(1, .int 0), (0, .ref h0)]) E.1 E.2.1 dX10_sum_1 rfl hl (by decide) rfl (fun ls hl => ?_)
  refine lv_iconst (v := 0) E.1 E.2.1 dX10_sum_2 (by decide) ?_
  refine lv_istore_n (lv' := [(2, .int 0), (1, .int 0), (0, .ref h0)]) E.1 E.2.1 dX10_sum_3 rfl hl (by decide) rfl (fun ls hl => ?_)
  refine k_X10_sum_4 E hK hA ?_ 1000 0 0 H locs ls h hW (lv_sub hl [2, 1, 0] rfl)
  · intro l1_25e H locs ls h hW hl
    refine lv_iload_n E.1 E.2.1 dX10_sum_25 rfl (lv_at hl 0 rfl) ?_
    obtain rfl := Option.some.inj h
    exact endI E rfl hW dX10_sum_26
theorem c_X10_sum (l : Launch) (g : GE) (h0 h1 : Nat) (x_cells : Nat → Int32) (x_threshold : Int32) {res : Int32} (hf : f_X10_sum x_cells = some res) : CI l yX10_sum wsX10_sum rm_X10_sum g [.ref h0] (w_X10 g h0 h1 x_cells x_threshold) (w_X10 g h0 h1 x_cells x_threshold) res :=
  mkI (cc := cX10_sum) (maxL := 3) (by decide) rfl (Nat.le_of_ble_eq_true rfl) (fun p e s m args below meth c A H locs ls E hK hA hW hl => k_X10_sum_0 E hK hA hf hW hl)

/-! PaperStorm$Sheet.level(II)I X10_level -/
abbrev rm_X10_level : Room := { frames := 1, cells := 0, slots := 0, locals := 23 }
noncomputable def f_X10_level (x_cells : Nat → Int32) (a1 : Int32) (a2 : Int32) : Option (Int32 × (Nat → Int32)) :=
  (f_X10_at x_cells a1).bind fun r2 => (f_X10_at x_cells a2).bind fun r7 => (f_X10_put x_cells a1 (((r2 + r7) + 1) / 2)).bind fun r19 => (f_X10_put r19.2 a2 ((r2 + r7) / 2)).bind fun r27 => some ((r19.1 + r27.1), r27.2)
abbrev G_X10_level (p : Program) (l : Launch) (e : Env) (s : State) (m : MethodId) (args : Array Value) (below : List Frame) (meth : Method) (c : Code) (g : GE) (A : Nat → Prop) (h0 h1 : Nat) (x_threshold : Int32) (res : Int32 × (Nat → Int32)) (H : Heap) (locs : List Loc) (pc : Nat) (ls : Array Slot) (st : List Value) : Prop := W p l e (headSpec wsX10_level rm_X10_level).room s m args below meth c H locs 0 0 (MQ below (PoI g A (w_X10 g h0 h1 res.2 x_threshold) res.1) args s 0 0 A) (F0 m pc ls st)
set_option maxHeartbeats 4000000 in
set_option maxRecDepth 100000 in
theorem k_X10_level_0 {p : Program} {l : Launch} {e : Env} {s : State} {m : MethodId} {args : Array Value} {below : List Frame} {meth : Method} {c : Code} {g : GE} {A : Nat → Prop} {h0 h1 : Nat} {x_cells : Nat → Int32} {x_threshold : Int32} {res : Int32 × (Nat → Int32)} {H : Heap} {locs : List Loc} {ls : Array Slot} {a1 : Int32} {a2 : Int32}
    (E : En cX10_level RX10 wsX10_level 4 (some .int) p s m args meth c) (hK : KK g s) (hA : ∀ q, s.heap.size ≤ q → A q) (h : f_X10_level x_cells a1 a2 = some res) (hW : Wo g A s H locs (w_X10 g h0 h1 x_cells x_threshold)) (hl : lv_has ls 4 [(0, .ref h0), (1, .int a1), (2, .int a2)]) : G_X10_level p l e s m args below meth c g A h0 h1 x_threshold res H locs 0 ls [] := by
  have hts := E.2.2.2.1
  unfold f_X10_level at h
  refine lv_aload_n E.1 E.2.1 dX10_level_0 rfl (lv_at hl 0 rfl) ?_
  refine lv_iload_n E.1 E.2.1 dX10_level_1 rfl (lv_at hl 1 rfl) ?_
  obtain ⟨r2, hc, h⟩ := bx h
  refine goI (world' := (w_X10 g h0 h1 x_cells x_threshold)) hW hA (is := [0, 1]) rfl (goV (rest := []) E hK hW [0, 1] rfl rfl (c_X10_at l g h0 h1 x_cells x_threshold a1 (hf := hc) H.size) (cwV 1 hts gX10_level_X10_at rfl rfl rfl (by decide +kernel) ⟨Nat.le_of_ble_eq_true rfl, Nat.le_of_ble_eq_true rfl⟩) 0 rfl rfl rfl hl.1 rfl rfl (Nat.le_of_ble_eq_true rfl) dX10_level_2 ⟨Nat.zero_le _, Nat.zero_le _⟩) rfl rfl (fun H locs hW => ?_)
  refine lv_aload_n E.1 E.2.1 dX10_level_5 rfl (lv_at hl 0 rfl) ?_
  refine lv_iload_n E.1 E.2.1 dX10_level_6 rfl (lv_at hl 2 rfl) ?_
  obtain ⟨r7, hc, h⟩ := bx h
  refine goI (world' := (w_X10 g h0 h1 x_cells x_threshold)) hW hA (is := [0, 1]) rfl (goV (rest := [.int r2]) E hK hW [0, 1] rfl rfl (c_X10_at l g h0 h1 x_cells x_threshold a2 (hf := hc) H.size) (cwV 1 hts gX10_level_X10_at rfl rfl rfl (by decide +kernel) ⟨Nat.le_of_ble_eq_true rfl, Nat.le_of_ble_eq_true rfl⟩) 0 rfl rfl rfl hl.1 rfl rfl (Nat.le_of_ble_eq_true rfl) dX10_level_7 ⟨Nat.zero_le _, Nat.zero_le _⟩) rfl rfl (fun H locs hW => ?_)
  refine lv_iadd E.1 E.2.1 dX10_level_10 ?_
  refine lv_istore_n (lv' := [(3, .int (r2 + r7)), (0, .ref h0), (1, .int a1), (2, .int a2)]) E.1 E.2.1 dX10_level_11 rfl hl (by decide) rfl (fun ls hl => ?_)
  refine lv_aload_n E.1 E.2.1 dX10_level_12 rfl (lv_at hl 1 rfl) ?_
  refine lv_iload_n E.1 E.2.1 dX10_level_13 rfl (lv_at hl 2 rfl) ?_
  refine lv_iload_n E.1 E.2.1 dX10_level_14 rfl (lv_at hl 0 rfl) ?_
  refine lv_iconst (v := 1) E.1 E.2.1 dX10_level_15 (by decide) ?_
  refine lv_iadd E.1 E.2.1 dX10_level_16 ?_
  refine lv_iconst (v := 2) E.1 E.2.1 dX10_level_17 (by decide) ?_
  refine lv_idiv E.1 E.2.1 dX10_level_18 (by decide) ?_
  obtain ⟨r19, hc, h⟩ := bx h
  refine goI (world' := (w_X10 g h0 h1 r19.2 x_threshold)) hW hA (is := [0, 1]) rfl (goV (rest := []) E hK hW [0, 1] rfl rfl (c_X10_put l g h0 h1 x_cells x_threshold a1 (((r2 + r7) + 1) / 2) (hf := hc) H.size) (cwV 2 hts gX10_level_X10_put rfl rfl rfl (by decide +kernel) ⟨Nat.le_of_ble_eq_true rfl, Nat.le_of_ble_eq_true rfl⟩) 0 rfl rfl rfl hl.1 rfl rfl (Nat.le_of_ble_eq_true rfl) dX10_level_19 ⟨Nat.zero_le _, Nat.zero_le _⟩) rfl rfl (fun H locs hW => ?_)
  refine lv_aload_n E.1 E.2.1 dX10_level_22 rfl (lv_at hl 1 rfl) ?_
  refine lv_iload_n E.1 E.2.1 dX10_level_23 rfl (lv_at hl 3 rfl) ?_
  refine lv_iload_n E.1 E.2.1 dX10_level_24 rfl (lv_at hl 0 rfl) ?_
  refine lv_iconst (v := 2) E.1 E.2.1 dX10_level_25 (by decide) ?_
  refine lv_idiv E.1 E.2.1 dX10_level_26 (by decide) ?_
  obtain ⟨r27, hc, h⟩ := bx h
  refine goI (world' := (w_X10 g h0 h1 r27.2 x_threshold)) hW hA (is := [0, 1]) rfl (goV (rest := [.int r19.1]) E hK hW [0, 1] rfl rfl (c_X10_put l g h0 h1 r19.2 x_threshold a2 ((r2 + r7) / 2) (hf := hc) H.size) (cwV 2 hts gX10_level_X10_put rfl rfl rfl (by decide +kernel) ⟨Nat.le_of_ble_eq_true rfl, Nat.le_of_ble_eq_true rfl⟩) 0 rfl rfl rfl hl.1 rfl rfl (Nat.le_of_ble_eq_true rfl) dX10_level_27 ⟨Nat.zero_le _, Nat.zero_le _⟩) rfl rfl (fun H locs hW => ?_)
  refine lv_iadd E.1 E.2.1 dX10_level_30 ?_
  obtain rfl := Option.some.inj h
  exact endI E rfl hW dX10_level_31
theorem c_X10_level (l : Launch) (g : GE) (h0 h1 : Nat) (x_cells : Nat → Int32) (x_threshold : Int32) (a1 : Int32) (a2 : Int32) {res : Int32 × (Nat → Int32)} (hf : f_X10_level x_cells a1 a2 = some res) : CI l yX10_level wsX10_level rm_X10_level g [.ref h0, .int a1, .int a2] (w_X10 g h0 h1 x_cells x_threshold) (w_X10 g h0 h1 res.2 x_threshold) res.1 :=
  mkI (cc := cX10_level) (maxL := 4) (by decide) rfl (Nat.le_of_ble_eq_true rfl) (fun p e s m args below meth c A H locs ls E hK hA hW hl => k_X10_level_0 E hK hA hf hW hl)

/-! PaperStorm$Sheet.foldAlongRow(I)I X10_foldAlongRow -/
abbrev rm_X10_foldAlongRow : Room := { frames := 2, cells := 0, slots := 0, locals := 46 }
noncomputable def f_X10_foldAlongRow_20 (l1 : Int32) (l3 : Int32) (z55 : Int32 → (Nat → Int32) → Option (Int32 × (Nat → Int32))) : Nat → Int32 → Int32 → (Nat → Int32) → Option (Int32 × (Nat → Int32))
  | 0, _, _, _ => none
  | n + 1, l2_20, l4_20, x_cells_20 => if 5 ≤ l4_20 then z55 l2_20 x_cells_20 else (f_X10_cellOf (l1 - l3) l4_20).bind fun r33 => (f_X10_cellOf (l1 + l3) l4_20).bind fun r41 => (f_X10_level x_cells_20 r33 r41).bind fun r44 => f_X10_foldAlongRow_20 l1 l3 z55 n (l2_20 + r44.1) (l4_20 + 1) r44.2
noncomputable def f_X10_foldAlongRow_4 (l1 : Int32) (z61 : Int32 → (Nat → Int32) → Option (Int32 × (Nat → Int32))) : Nat → Int32 → Int32 → (Nat → Int32) → Option (Int32 × (Nat → Int32))
  | 0, _, _, _ => none
  | n + 1, l2_4, l3_4, x_cells_4 => if (l1 - l3_4) < 0 then z61 l2_4 x_cells_4 else if 5 ≤ (l1 + l3_4) then z61 l2_4 x_cells_4 else f_X10_foldAlongRow_20 l1 l3_4 (fun l2_55e x_cells_55e => f_X10_foldAlongRow_4 l1 z61 n l2_55e (l3_4 + 1) x_cells_55e) 1000 l2_4 0 x_cells_4
noncomputable def f_X10_foldAlongRow (x_cells : Nat → Int32) (a1 : Int32) : Option (Int32 × (Nat → Int32)) :=
  f_X10_foldAlongRow_4 a1 (fun l2_61e x_cells_61e => some (l2_61e, x_cells_61e)) 1000 0 1 x_cells
abbrev G_X10_foldAlongRow (p : Program) (l : Launch) (e : Env) (s : State) (m : MethodId) (args : Array Value) (below : List Frame) (meth : Method) (c : Code) (g : GE) (A : Nat → Prop) (h0 h1 : Nat) (x_threshold : Int32) (res : Int32 × (Nat → Int32)) (H : Heap) (locs : List Loc) (pc : Nat) (ls : Array Slot) (st : List Value) : Prop := W p l e (headSpec wsX10_foldAlongRow rm_X10_foldAlongRow).room s m args below meth c H locs 0 0 (MQ below (PoI g A (w_X10 g h0 h1 res.2 x_threshold) res.1) args s 0 0 A) (F0 m pc ls st)
set_option maxHeartbeats 4000000 in
set_option maxRecDepth 100000 in
theorem k_X10_foldAlongRow_20 {p : Program} {l : Launch} {e : Env} {s : State} {m : MethodId} {args : Array Value} {below : List Frame} {meth : Method} {c : Code} {g : GE} {A : Nat → Prop} {h0 h1 : Nat} {x_threshold : Int32} {res : Int32 × (Nat → Int32)} {l1 : Int32} {l3 : Int32} {z55 : Int32 → (Nat → Int32) → Option (Int32 × (Nat → Int32))}
    (E : En cX10_foldAlongRow RX10 wsX10_foldAlongRow 5 (some .int) p s m args meth c) (hK : KK g s) (hA : ∀ q, s.heap.size ≤ q → A q)
    (hz55 : ∀ (l2_55e : Int32) (x_cells_55e : Nat → Int32) (H : Heap) (locs : List Loc) (ls : Array Slot), z55 l2_55e x_cells_55e = some res → Wo g A s H locs (w_X10 g h0 h1 x_cells_55e x_threshold) → lv_has ls 5 [(0, .ref h0), (1, .int l1), (2, .int l2_55e), (3, .int l3)] → G_X10_foldAlongRow p l e s m args below meth c g A h0 h1 x_threshold res H locs 55 ls [])
    : ∀ (n : Nat) (l2_20 : Int32) (l4_20 : Int32) (x_cells_20 : Nat → Int32) (H : Heap) (locs : List Loc) (ls : Array Slot), f_X10_foldAlongRow_20 l1 l3 z55 n l2_20 l4_20 x_cells_20 = some res → Wo g A s H locs (w_X10 g h0 h1 x_cells_20 x_threshold) → lv_has ls 5 [(0, .ref h0), (1, .int l1), (2, .int l2_20), (3, .int l3), (4, .int l4_20)] → G_X10_foldAlongRow p l e s m args below meth c g A h0 h1 x_threshold res H locs 20 ls [] := by
  have hts := E.2.2.2.1
  intro n
  induction n with
  | zero => intro l2_20 l4_20 x_cells_20 H locs ls h hW hl; rw [f_X10_foldAlongRow_20] at h; cases h
  | succ n ih =>
    intro l2_20 l4_20 x_cells_20 H locs ls h hW hl
    rw [f_X10_foldAlongRow_20] at h
    refine lv_iload E.1 E.2.1 dX10_foldAlongRow_20 (lv_at hl 4 rfl) ?_
    refine lv_iconst (v := 5) E.1 E.2.1 dX10_foldAlongRow_22 (by decide) ?_
    refine lv_icmp_ge (tgt := 55) E.1 E.2.1 dX10_foldAlongRow_23 (by decide) (fun c23 => ?_) (fun c23 => ?_)
    · have h := it c23 h
      exact hz55 l2_20 x_cells_20 H locs ls h hW (lv_sub hl [0, 1, 2, 3] rfl)
    · have h := ie c23 h
      refine lv_iload_n E.1 E.2.1 dX10_foldAlongRow_26 rfl (lv_at hl 2 rfl) ?_
      refine lv_aload_n E.1 E.2.1 dX10_foldAlongRow_27 rfl (lv_at hl 0 rfl) ?_
      refine lv_iload_n E.1 E.2.1 dX10_foldAlongRow_28 rfl (lv_at hl 1 rfl) ?_
      refine lv_iload_n E.1 E.2.1 dX10_foldAlongRow_29 rfl (lv_at hl 3 rfl) ?_
      refine lv_isub E.1 E.2.1 dX10_foldAlongRow_30 ?_
      refine lv_iload E.1 E.2.1 dX10_foldAlongRow_31 (lv_at hl 4 rfl) ?_
      obtain ⟨r33, hc, h⟩ := bx h
      refine goI (world' := (w_X10 g h0 h1 x_cells_20 x_threshold)) hW hA (is := []) rfl (goS (rest := [.ref h0, .int l2_20]) E hK hW [] rfl rfl (c_X10_cellOf l g (l1 - l3) l4_20 (hf := hc) H.size) (va_cwS 2 hts gX10_foldAlongRow_X10_cellOf rfl rfl rfl (by decide +kernel) ⟨Nat.le_of_ble_eq_true rfl, Nat.le_of_ble_eq_true rfl⟩) hl.1 rfl rfl (Nat.le_of_ble_eq_true rfl) dX10_foldAlongRow_33 ⟨Nat.zero_le _, Nat.zero_le _⟩) rfl rfl (fun H locs hW => ?_)
      refine lv_iload_n E.1 E.2.1 dX10_foldAlongRow_36 rfl (lv_at hl 1 rfl) ?_
      refine lv_iload_n E.1 E.2.1 dX10_foldAlongRow_37 rfl (lv_at hl 3 rfl) ?_
      refine lv_iadd E.1 E.2.1 dX10_foldAlongRow_38 ?_
      refine lv_iload E.1 E.2.1 dX10_foldAlongRow_39 (lv_at hl 4 rfl) ?_
      obtain ⟨r41, hc, h⟩ := bx h
      refine goI (world' := (w_X10 g h0 h1 x_cells_20 x_threshold)) hW hA (is := []) rfl (goS (rest := [.int r33, .ref h0, .int l2_20]) E hK hW [] rfl rfl (c_X10_cellOf l g (l1 + l3) l4_20 (hf := hc) H.size) (va_cwS 2 hts gX10_foldAlongRow_X10_cellOf rfl rfl rfl (by decide +kernel) ⟨Nat.le_of_ble_eq_true rfl, Nat.le_of_ble_eq_true rfl⟩) hl.1 rfl rfl (Nat.le_of_ble_eq_true rfl) dX10_foldAlongRow_41 ⟨Nat.zero_le _, Nat.zero_le _⟩) rfl rfl (fun H locs hW => ?_)
      obtain ⟨r44, hc, h⟩ := bx h
      refine goI (world' := (w_X10 g h0 h1 r44.2 x_threshold)) hW hA (is := [0, 1]) rfl (goV (rest := [.int l2_20]) E hK hW [0, 1] rfl rfl (c_X10_level l g h0 h1 x_cells_20 x_threshold r33 r41 (hf := hc) H.size) (cwV 2 hts gX10_foldAlongRow_X10_level rfl rfl rfl (by decide +kernel) ⟨Nat.le_of_ble_eq_true rfl, Nat.le_of_ble_eq_true rfl⟩) 0 rfl rfl rfl hl.1 rfl rfl (Nat.le_of_ble_eq_true rfl) dX10_foldAlongRow_44 ⟨Nat.zero_le _, Nat.zero_le _⟩) rfl rfl (fun H locs hW => ?_)
      refine lv_iadd E.1 E.2.1 dX10_foldAlongRow_47 ?_
      refine lv_istore_n (lv' := [(2, .int (l2_20 + r44.1)), (0, .ref h0), (1, .int l1), (3, .int l3), (4, .int l4_20)]) E.1 E.2.1 dX10_foldAlongRow_48 rfl hl (by decide) rfl (fun ls hl => ?_)
      refine lv_iinc (v := (l4_20 + 1)) (lv' := [(4, .int (l4_20 + 1)), (2, .int (l2_20 + r44.1)), (0, .ref h0), (1, .int l1), (3, .int l3)]) E.1 E.2.1 dX10_foldAlongRow_49 hl (k := 4) rfl rfl (by decide) rfl (fun ls hl => ?_)
      refine lv_goto (tgt := 20) E.1 E.2.1 dX10_foldAlongRow_52 (by decide) ?_
      exact ih (l2_20 + r44.1) (l4_20 + 1) r44.2 H locs ls h hW (lv_sub hl [2, 3, 1, 4, 0] rfl)
set_option maxHeartbeats 4000000 in
set_option maxRecDepth 100000 in
theorem k_X10_foldAlongRow_4 {p : Program} {l : Launch} {e : Env} {s : State} {m : MethodId} {args : Array Value} {below : List Frame} {meth : Method} {c : Code} {g : GE} {A : Nat → Prop} {h0 h1 : Nat} {x_threshold : Int32} {res : Int32 × (Nat → Int32)} {l1 : Int32} {z61 : Int32 → (Nat → Int32) → Option (Int32 × (Nat → Int32))}
    (E : En cX10_foldAlongRow RX10 wsX10_foldAlongRow 5 (some .int) p s m args meth c) (hK : KK g s) (hA : ∀ q, s.heap.size ≤ q → A q)
    (hz61 : ∀ (l2_61e : Int32) (x_cells_61e : Nat → Int32) (H : Heap) (locs : List Loc) (ls : Array Slot), z61 l2_61e x_cells_61e = some res → Wo g A s H locs (w_X10 g h0 h1 x_cells_61e x_threshold) → lv_has ls 5 [(2, .int l2_61e)] → G_X10_foldAlongRow p l e s m args below meth c g A h0 h1 x_threshold res H locs 61 ls [])
    : ∀ (n : Nat) (l2_4 : Int32) (l3_4 : Int32) (x_cells_4 : Nat → Int32) (H : Heap) (locs : List Loc) (ls : Array Slot), f_X10_foldAlongRow_4 l1 z61 n l2_4 l3_4 x_cells_4 = some res → Wo g A s H locs (w_X10 g h0 h1 x_cells_4 x_threshold) → lv_has ls 5 [(0, .ref h0), (1, .int l1), (2, .int l2_4), (3, .int l3_4)] → G_X10_foldAlongRow p l e s m args below meth c g A h0 h1 x_threshold res H locs 4 ls [] := by
  have hts := E.2.2.2.1
  intro n
  induction n with
  | zero => intro l2_4 l3_4 x_cells_4 H locs ls h hW hl; rw [f_X10_foldAlongRow_4] at h; cases h
  | succ n ih =>
    intro l2_4 l3_4 x_cells_4 H locs ls h hW hl
    rw [f_X10_foldAlongRow_4] at h
    refine lv_iload_n E.1 E.2.1 dX10_foldAlongRow_4 rfl (lv_at hl 1 rfl) ?_
    refine lv_iload_n E.1 E.2.1 dX10_foldAlongRow_5 rfl (lv_at hl 3 rfl) ?_
    refine lv_isub E.1 E.2.1 dX10_foldAlongRow_6 ?_
    refine lv_if_lt (tgt := 61) E.1 E.2.1 dX10_foldAlongRow_7 (by decide) (fun c7 => ?_) (fun c7 => ?_)
    · have h := it c7 h
      exact hz61 l2_4 x_cells_4 H locs ls h hW (lv_sub hl [2] rfl)
    · have h := ie c7 h
      refine lv_iload_n E.1 E.2.1 dX10_foldAlongRow_10 rfl (lv_at hl 1 rfl) ?_
      refine lv_iload_n E.1 E.2.1 dX10_foldAlongRow_11 rfl (lv_at hl 3 rfl) ?_
      refine lv_iadd E.1 E.2.1 dX10_foldAlongRow_12 ?_
      refine lv_iconst (v := 5) E.1 E.2.1 dX10_foldAlongRow_13 (by decide) ?_
      refine lv_icmp_ge (tgt := 61) E.1 E.2.1 dX10_foldAlongRow_14 (by decide) (fun c14 => ?_) (fun c14 => ?_)
      · have h := it c14 h
        exact hz61 l2_4 x_cells_4 H locs ls h hW (lv_sub hl [2] rfl)
      · have h := ie c14 h
        refine lv_iconst (v := 0) E.1 E.2.1 dX10_foldAlongRow_17 (by decide) ?_
        refine lv_istore (lv' := [(4, .int 0), (0, .ref h0), (1, .int l1), (2, .int l2_4), (3, .int l3_4)]) E.1 E.2.1 dX10_foldAlongRow_18 hl (by decide) rfl (fun ls hl => ?_)
        refine k_X10_foldAlongRow_20 E hK hA ?_ 1000 l2_4 0 x_cells_4 H locs ls h hW (lv_sub hl [1, 2, 3, 4, 0] rfl)
        · intro l2_55e x_cells_55e H locs ls h hW hl
          refine lv_iinc (v := (l3_4 + 1)) (lv' := [(3, .int (l3_4 + 1)), (0, .ref h0), (1, .int l1), (2, .int l2_55e)]) E.1 E.2.1 dX10_foldAlongRow_55 hl (k := 3) rfl rfl (by decide) rfl (fun ls hl => ?_)
          refine lv_goto (tgt := 4) E.1 E.2.1 dX10_foldAlongRow_58 (by decide) ?_
          exact ih l2_55e (l3_4 + 1) x_cells_55e H locs ls h hW (lv_sub hl [1, 2, 3, 0] rfl)
set_option maxHeartbeats 4000000 in
set_option maxRecDepth 100000 in
theorem k_X10_foldAlongRow_0 {p : Program} {l : Launch} {e : Env} {s : State} {m : MethodId} {args : Array Value} {below : List Frame} {meth : Method} {c : Code} {g : GE} {A : Nat → Prop} {h0 h1 : Nat} {x_cells : Nat → Int32} {x_threshold : Int32} {res : Int32 × (Nat → Int32)} {H : Heap} {locs : List Loc} {ls : Array Slot} {a1 : Int32}
    (E : En cX10_foldAlongRow RX10 wsX10_foldAlongRow 5 (some .int) p s m args meth c) (hK : KK g s) (hA : ∀ q, s.heap.size ≤ q → A q) (h : f_X10_foldAlongRow x_cells a1 = some res) (hW : Wo g A s H locs (w_X10 g h0 h1 x_cells x_threshold)) (hl : lv_has ls 5 [(0, .ref h0), (1, .int a1)]) : G_X10_foldAlongRow p l e s m args below meth c g A h0 h1 x_threshold res H locs 0 ls [] := by
  have hts := E.2.2.2.1
  unfold f_X10_foldAlongRow at h
  refine lv_iconst (v := 0) E.1 E.2.1 dX10_foldAlongRow_0 (by decide) ?_
  refine lv_istore_n (lv' := [(2, .int 0), (0, .ref h0), (1, .int a1)]) E.1 E.2.1 dX10_foldAlongRow_1 rfl hl (by decide) rfl (fun ls hl => ?_)
  refine lv_iconst (v := 1) E.1 E.2.1 dX10_foldAlongRow_2 (by decide) ?_
  refine lv_istore_n (lv' := [(3, .int 1), (2, .int 0), (0, .ref h0), (1, .int a1)]) E.1 E.2.1 dX10_foldAlongRow_3 rfl hl (by decide) rfl (fun ls hl => ?_)
  refine k_X10_foldAlongRow_4 E hK hA ?_ 1000 0 1 x_cells H locs ls h hW (lv_sub hl [2, 3, 1, 0] rfl)
  · intro l2_61e x_cells_61e H locs ls h hW hl
    refine lv_iload_n E.1 E.2.1 dX10_foldAlongRow_61 rfl (lv_at hl 0 rfl) ?_
    obtain rfl := Option.some.inj h
    exact endI E rfl hW dX10_foldAlongRow_62
theorem c_X10_foldAlongRow (l : Launch) (g : GE) (h0 h1 : Nat) (x_cells : Nat → Int32) (x_threshold : Int32) (a1 : Int32) {res : Int32 × (Nat → Int32)} (hf : f_X10_foldAlongRow x_cells a1 = some res) : CI l yX10_foldAlongRow wsX10_foldAlongRow rm_X10_foldAlongRow g [.ref h0, .int a1] (w_X10 g h0 h1 x_cells x_threshold) (w_X10 g h0 h1 res.2 x_threshold) res.1 :=
  mkI (cc := cX10_foldAlongRow) (maxL := 5) (by decide) rfl (Nat.le_of_ble_eq_true rfl) (fun p e s m args below meth c A H locs ls E hK hA hW hl => k_X10_foldAlongRow_0 E hK hA hf hW hl)

/-! PaperStorm$Sheet.foldAlongColumn(I)I X10_foldAlongColumn -/
abbrev rm_X10_foldAlongColumn : Room := { frames := 2, cells := 0, slots := 0, locals := 46 }
noncomputable def f_X10_foldAlongColumn_20 (l1 : Int32) (l3 : Int32) (z55 : Int32 → (Nat → Int32) → Option (Int32 × (Nat → Int32))) : Nat → Int32 → Int32 → (Nat → Int32) → Option (Int32 × (Nat → Int32))
  | 0, _, _, _ => none
  | n + 1, l2_20, l4_20, x_cells_20 => if 5 ≤ l4_20 then z55 l2_20 x_cells_20 else (f_X10_cellOf l4_20 (l1 - l3)).bind fun r33 => (f_X10_cellOf l4_20 (l1 + l3)).bind fun r41 => (f_X10_level x_cells_20 r33 r41).bind fun r44 => f_X10_foldAlongColumn_20 l1 l3 z55 n (l2_20 + r44.1) (l4_20 + 1) r44.2
noncomputable def f_X10_foldAlongColumn_4 (l1 : Int32) (z61 : Int32 → (Nat → Int32) → Option (Int32 × (Nat → Int32))) : Nat → Int32 → Int32 → (Nat → Int32) → Option (Int32 × (Nat → Int32))
  | 0, _, _, _ => none
  | n + 1, l2_4, l3_4, x_cells_4 => if (l1 - l3_4) < 0 then z61 l2_4 x_cells_4 else if 5 ≤ (l1 + l3_4) then z61 l2_4 x_cells_4 else f_X10_foldAlongColumn_20 l1 l3_4 (fun l2_55e x_cells_55e => f_X10_foldAlongColumn_4 l1 z61 n l2_55e (l3_4 + 1) x_cells_55e) 1000 l2_4 0 x_cells_4
noncomputable def f_X10_foldAlongColumn (x_cells : Nat → Int32) (a1 : Int32) : Option (Int32 × (Nat → Int32)) :=
  f_X10_foldAlongColumn_4 a1 (fun l2_61e x_cells_61e => some (l2_61e, x_cells_61e)) 1000 0 1 x_cells
abbrev G_X10_foldAlongColumn (p : Program) (l : Launch) (e : Env) (s : State) (m : MethodId) (args : Array Value) (below : List Frame) (meth : Method) (c : Code) (g : GE) (A : Nat → Prop) (h0 h1 : Nat) (x_threshold : Int32) (res : Int32 × (Nat → Int32)) (H : Heap) (locs : List Loc) (pc : Nat) (ls : Array Slot) (st : List Value) : Prop := W p l e (headSpec wsX10_foldAlongColumn rm_X10_foldAlongColumn).room s m args below meth c H locs 0 0 (MQ below (PoI g A (w_X10 g h0 h1 res.2 x_threshold) res.1) args s 0 0 A) (F0 m pc ls st)
set_option maxHeartbeats 4000000 in
set_option maxRecDepth 100000 in
theorem k_X10_foldAlongColumn_20 {p : Program} {l : Launch} {e : Env} {s : State} {m : MethodId} {args : Array Value} {below : List Frame} {meth : Method} {c : Code} {g : GE} {A : Nat → Prop} {h0 h1 : Nat} {x_threshold : Int32} {res : Int32 × (Nat → Int32)} {l1 : Int32} {l3 : Int32} {z55 : Int32 → (Nat → Int32) → Option (Int32 × (Nat → Int32))}
    (E : En cX10_foldAlongColumn RX10 wsX10_foldAlongColumn 5 (some .int) p s m args meth c) (hK : KK g s) (hA : ∀ q, s.heap.size ≤ q → A q)
    (hz55 : ∀ (l2_55e : Int32) (x_cells_55e : Nat → Int32) (H : Heap) (locs : List Loc) (ls : Array Slot), z55 l2_55e x_cells_55e = some res → Wo g A s H locs (w_X10 g h0 h1 x_cells_55e x_threshold) → lv_has ls 5 [(0, .ref h0), (1, .int l1), (2, .int l2_55e), (3, .int l3)] → G_X10_foldAlongColumn p l e s m args below meth c g A h0 h1 x_threshold res H locs 55 ls [])
    : ∀ (n : Nat) (l2_20 : Int32) (l4_20 : Int32) (x_cells_20 : Nat → Int32) (H : Heap) (locs : List Loc) (ls : Array Slot), f_X10_foldAlongColumn_20 l1 l3 z55 n l2_20 l4_20 x_cells_20 = some res → Wo g A s H locs (w_X10 g h0 h1 x_cells_20 x_threshold) → lv_has ls 5 [(0, .ref h0), (1, .int l1), (2, .int l2_20), (3, .int l3), (4, .int l4_20)] → G_X10_foldAlongColumn p l e s m args below meth c g A h0 h1 x_threshold res H locs 20 ls [] := by
  have hts := E.2.2.2.1
  intro n
  induction n with
  | zero => intro l2_20 l4_20 x_cells_20 H locs ls h hW hl; rw [f_X10_foldAlongColumn_20] at h; cases h
  | succ n ih =>
    intro l2_20 l4_20 x_cells_20 H locs ls h hW hl
    rw [f_X10_foldAlongColumn_20] at h
    refine lv_iload E.1 E.2.1 dX10_foldAlongColumn_20 (lv_at hl 4 rfl) ?_
    refine lv_iconst (v := 5) E.1 E.2.1 dX10_foldAlongColumn_22 (by decide) ?_
    refine lv_icmp_ge (tgt := 55) E.1 E.2.1 dX10_foldAlongColumn_23 (by decide) (fun c23 => ?_) (fun c23 => ?_)
    · have h := it c23 h
      exact hz55 l2_20 x_cells_20 H locs ls h hW (lv_sub hl [0, 1, 2, 3] rfl)
    · have h := ie c23 h
      refine lv_iload_n E.1 E.2.1 dX10_foldAlongColumn_26 rfl (lv_at hl 2 rfl) ?_
      refine lv_aload_n E.1 E.2.1 dX10_foldAlongColumn_27 rfl (lv_at hl 0 rfl) ?_
      refine lv_iload E.1 E.2.1 dX10_foldAlongColumn_28 (lv_at hl 4 rfl) ?_
      refine lv_iload_n E.1 E.2.1 dX10_foldAlongColumn_30 rfl (lv_at hl 1 rfl) ?_
      refine lv_iload_n E.1 E.2.1 dX10_foldAlongColumn_31 rfl (lv_at hl 3 rfl) ?_
      refine lv_isub E.1 E.2.1 dX10_foldAlongColumn_32 ?_
      obtain ⟨r33, hc, h⟩ := bx h
      refine goI (world' := (w_X10 g h0 h1 x_cells_20 x_threshold)) hW hA (is := []) rfl (goS (rest := [.ref h0, .int l2_20]) E hK hW [] rfl rfl (c_X10_cellOf l g l4_20 (l1 - l3) (hf := hc) H.size) (va_cwS 2 hts gX10_foldAlongColumn_X10_cellOf rfl rfl rfl (by decide +kernel) ⟨Nat.le_of_ble_eq_true rfl, Nat.le_of_ble_eq_true rfl⟩) hl.1 rfl rfl (Nat.le_of_ble_eq_true rfl) dX10_foldAlongColumn_33 ⟨Nat.zero_le _, Nat.zero_le _⟩) rfl rfl (fun H locs hW => ?_)
      refine lv_iload E.1 E.2.1 dX10_foldAlongColumn_36 (lv_at hl 4 rfl) ?_
      refine lv_iload_n E.1 E.2.1 dX10_foldAlongColumn_38 rfl (lv_at hl 1 rfl) ?_
      refine lv_iload_n E.1 E.2.1 dX10_foldAlongColumn_39 rfl (lv_at hl 3 rfl) ?_
      refine lv_iadd E.1 E.2.1 dX10_foldAlongColumn_40 ?_
      obtain ⟨r41, hc, h⟩ := bx h
      refine goI (world' := (w_X10 g h0 h1 x_cells_20 x_threshold)) hW hA (is := []) rfl (goS (rest := [.int r33, .ref h0, .int l2_20]) E hK hW [] rfl rfl (c_X10_cellOf l g l4_20 (l1 + l3) (hf := hc) H.size) (va_cwS 2 hts gX10_foldAlongColumn_X10_cellOf rfl rfl rfl (by decide +kernel) ⟨Nat.le_of_ble_eq_true rfl, Nat.le_of_ble_eq_true rfl⟩) hl.1 rfl rfl (Nat.le_of_ble_eq_true rfl) dX10_foldAlongColumn_41 ⟨Nat.zero_le _, Nat.zero_le _⟩) rfl rfl (fun H locs hW => ?_)
      obtain ⟨r44, hc, h⟩ := bx h
      refine goI (world' := (w_X10 g h0 h1 r44.2 x_threshold)) hW hA (is := [0, 1]) rfl (goV (rest := [.int l2_20]) E hK hW [0, 1] rfl rfl (c_X10_level l g h0 h1 x_cells_20 x_threshold r33 r41 (hf := hc) H.size) (cwV 2 hts gX10_foldAlongColumn_X10_level rfl rfl rfl (by decide +kernel) ⟨Nat.le_of_ble_eq_true rfl, Nat.le_of_ble_eq_true rfl⟩) 0 rfl rfl rfl hl.1 rfl rfl (Nat.le_of_ble_eq_true rfl) dX10_foldAlongColumn_44 ⟨Nat.zero_le _, Nat.zero_le _⟩) rfl rfl (fun H locs hW => ?_)
      refine lv_iadd E.1 E.2.1 dX10_foldAlongColumn_47 ?_
      refine lv_istore_n (lv' := [(2, .int (l2_20 + r44.1)), (0, .ref h0), (1, .int l1), (3, .int l3), (4, .int l4_20)]) E.1 E.2.1 dX10_foldAlongColumn_48 rfl hl (by decide) rfl (fun ls hl => ?_)
      refine lv_iinc (v := (l4_20 + 1)) (lv' := [(4, .int (l4_20 + 1)), (2, .int (l2_20 + r44.1)), (0, .ref h0), (1, .int l1), (3, .int l3)]) E.1 E.2.1 dX10_foldAlongColumn_49 hl (k := 4) rfl rfl (by decide) rfl (fun ls hl => ?_)
      refine lv_goto (tgt := 20) E.1 E.2.1 dX10_foldAlongColumn_52 (by decide) ?_
      exact ih (l2_20 + r44.1) (l4_20 + 1) r44.2 H locs ls h hW (lv_sub hl [2, 3, 1, 4, 0] rfl)
set_option maxHeartbeats 4000000 in
set_option maxRecDepth 100000 in
theorem k_X10_foldAlongColumn_4 {p : Program} {l : Launch} {e : Env} {s : State} {m : MethodId} {args : Array Value} {below : List Frame} {meth : Method} {c : Code} {g : GE} {A : Nat → Prop} {h0 h1 : Nat} {x_threshold : Int32} {res : Int32 × (Nat → Int32)} {l1 : Int32} {z61 : Int32 → (Nat → Int32) → Option (Int32 × (Nat → Int32))}
    (E : En cX10_foldAlongColumn RX10 wsX10_foldAlongColumn 5 (some .int) p s m args meth c) (hK : KK g s) (hA : ∀ q, s.heap.size ≤ q → A q)
    (hz61 : ∀ (l2_61e : Int32) (x_cells_61e : Nat → Int32) (H : Heap) (locs : List Loc) (ls : Array Slot), z61 l2_61e x_cells_61e = some res → Wo g A s H locs (w_X10 g h0 h1 x_cells_61e x_threshold) → lv_has ls 5 [(2, .int l2_61e)] → G_X10_foldAlongColumn p l e s m args below meth c g A h0 h1 x_threshold res H locs 61 ls [])
    : ∀ (n : Nat) (l2_4 : Int32) (l3_4 : Int32) (x_cells_4 : Nat → Int32) (H : Heap) (locs : List Loc) (ls : Array Slot), f_X10_foldAlongColumn_4 l1 z61 n l2_4 l3_4 x_cells_4 = some res → Wo g A s H locs (w_X10 g h0 h1 x_cells_4 x_threshold) → lv_has ls 5 [(0, .ref h0), (1, .int l1), (2, .int l2_4), (3, .int l3_4)] → G_X10_foldAlongColumn p l e s m args below meth c g A h0 h1 x_threshold res H locs 4 ls [] := by
  have hts := E.2.2.2.1
  intro n
  induction n with
  | zero => intro l2_4 l3_4 x_cells_4 H locs ls h hW hl; rw [f_X10_foldAlongColumn_4] at h; cases h
  | succ n ih =>
    intro l2_4 l3_4 x_cells_4 H locs ls h hW hl
    rw [f_X10_foldAlongColumn_4] at h
    refine lv_iload_n E.1 E.2.1 dX10_foldAlongColumn_4 rfl (lv_at hl 1 rfl) ?_
    refine lv_iload_n E.1 E.2.1 dX10_foldAlongColumn_5 rfl (lv_at hl 3 rfl) ?_
    refine lv_isub E.1 E.2.1 dX10_foldAlongColumn_6 ?_
    refine lv_if_lt (tgt := 61) E.1 E.2.1 dX10_foldAlongColumn_7 (by decide) (fun c7 => ?_) (fun c7 => ?_)
    · have h := it c7 h
      exact hz61 l2_4 x_cells_4 H locs ls h hW (lv_sub hl [2] rfl)
    · have h := ie c7 h
      refine lv_iload_n E.1 E.2.1 dX10_foldAlongColumn_10 rfl (lv_at hl 1 rfl) ?_
      refine lv_iload_n E.1 E.2.1 dX10_foldAlongColumn_11 rfl (lv_at hl 3 rfl) ?_
      refine lv_iadd E.1 E.2.1 dX10_foldAlongColumn_12 ?_
      refine lv_iconst (v := 5) E.1 E.2.1 dX10_foldAlongColumn_13 (by decide) ?_
      refine lv_icmp_ge (tgt := 61) E.1 E.2.1 dX10_foldAlongColumn_14 (by decide) (fun c14 => ?_) (fun c14 => ?_)
      · have h := it c14 h
        exact hz61 l2_4 x_cells_4 H locs ls h hW (lv_sub hl [2] rfl)
      · have h := ie c14 h
        refine lv_iconst (v := 0) E.1 E.2.1 dX10_foldAlongColumn_17 (by decide) ?_
        refine lv_istore (lv' := [(4, .int 0), (0, .ref h0), (1, .int l1), (2, .int l2_4), (3, .int l3_4)]) E.1 E.2.1 dX10_foldAlongColumn_18 hl (by decide) rfl (fun ls hl => ?_)
        refine k_X10_foldAlongColumn_20 E hK hA ?_ 1000 l2_4 0 x_cells_4 H locs ls h hW (lv_sub hl [1, 2, 3, 4, 0] rfl)
        · intro l2_55e x_cells_55e H locs ls h hW hl
          refine lv_iinc (v := (l3_4 + 1)) (lv' := [(3, .int (l3_4 + 1)), (0, .ref h0), (1, .int l1), (2, .int l2_55e)]) E.1 E.2.1 dX10_foldAlongColumn_55 hl (k := 3) rfl rfl (by decide) rfl (fun ls hl => ?_)
          refine lv_goto (tgt := 4) E.1 E.2.1 dX10_foldAlongColumn_58 (by decide) ?_
          exact ih l2_55e (l3_4 + 1) x_cells_55e H locs ls h hW (lv_sub hl [1, 2, 3, 0] rfl)
set_option maxHeartbeats 4000000 in
set_option maxRecDepth 100000 in
theorem k_X10_foldAlongColumn_0 {p : Program} {l : Launch} {e : Env} {s : State} {m : MethodId} {args : Array Value} {below : List Frame} {meth : Method} {c : Code} {g : GE} {A : Nat → Prop} {h0 h1 : Nat} {x_cells : Nat → Int32} {x_threshold : Int32} {res : Int32 × (Nat → Int32)} {H : Heap} {locs : List Loc} {ls : Array Slot} {a1 : Int32}
    (E : En cX10_foldAlongColumn RX10 wsX10_foldAlongColumn 5 (some .int) p s m args meth c) (hK : KK g s) (hA : ∀ q, s.heap.size ≤ q → A q) (h : f_X10_foldAlongColumn x_cells a1 = some res) (hW : Wo g A s H locs (w_X10 g h0 h1 x_cells x_threshold)) (hl : lv_has ls 5 [(0, .ref h0), (1, .int a1)]) : G_X10_foldAlongColumn p l e s m args below meth c g A h0 h1 x_threshold res H locs 0 ls [] := by
  have hts := E.2.2.2.1
  unfold f_X10_foldAlongColumn at h
  refine lv_iconst (v := 0) E.1 E.2.1 dX10_foldAlongColumn_0 (by decide) ?_
  refine lv_istore_n (lv' := [(2, .int 0), (0, .ref h0), (1, .int a1)]) E.1 E.2.1 dX10_foldAlongColumn_1 rfl hl (by decide) rfl (fun ls hl => ?_)
  refine lv_iconst (v := 1) E.1 E.2.1 dX10_foldAlongColumn_2 (by decide) ?_
  refine lv_istore_n (lv' := [(3, .int 1), (2, .int 0), (0, .ref h0), (1, .int a1)]) E.1 E.2.1 dX10_foldAlongColumn_3 rfl hl (by decide) rfl (fun ls hl => ?_)
  refine k_X10_foldAlongColumn_4 E hK hA ?_ 1000 0 1 x_cells H locs ls h hW (lv_sub hl [2, 3, 1, 0] rfl)
  · intro l2_61e x_cells_61e H locs ls h hW hl
    refine lv_iload_n E.1 E.2.1 dX10_foldAlongColumn_61 rfl (lv_at hl 0 rfl) ?_
    obtain rfl := Option.some.inj h
    exact endI E rfl hW dX10_foldAlongColumn_62
theorem c_X10_foldAlongColumn (l : Launch) (g : GE) (h0 h1 : Nat) (x_cells : Nat → Int32) (x_threshold : Int32) (a1 : Int32) {res : Int32 × (Nat → Int32)} (hf : f_X10_foldAlongColumn x_cells a1 = some res) : CI l yX10_foldAlongColumn wsX10_foldAlongColumn rm_X10_foldAlongColumn g [.ref h0, .int a1] (w_X10 g h0 h1 x_cells x_threshold) (w_X10 g h0 h1 res.2 x_threshold) res.1 :=
  mkI (cc := cX10_foldAlongColumn) (maxL := 5) (by decide) rfl (Nat.le_of_ble_eq_true rfl) (fun p e s m args below meth c A H locs ls E hK hA hW hl => k_X10_foldAlongColumn_0 E hK hA hf hW hl)

/-! PaperStorm$Sheet.slideLine(II)I X10_slideLine -/
abbrev rm_X10_slideLine : Room := { frames := 1, cells := 0, slots := 0, locals := 23 }
noncomputable def f_X10_slideLine_16 (l1 : Int32) (l2 : Int32) (z59 : Int32 → (Nat → Int32) → Option (Int32 × (Nat → Int32))) : Nat → Int32 → Int32 → Int32 → (Nat → Int32) → Option (Int32 × (Nat → Int32))
  | 0, _, _, _, _ => none
  | n + 1, l3_16, l4_16, l5_16, x_cells_16 => if 5 ≤ l5_16 then z59 l3_16 x_cells_16 else (f_X10_at x_cells_16 (l1 + (l5_16 * l2))).bind fun r33 => (f_X10_put x_cells_16 (l1 + (l5_16 * l2)) l4_16).bind fun r44 => f_X10_slideLine_16 l1 l2 z59 n (l3_16 + r44.1) r33 (l5_16 + 1) r44.2
noncomputable def f_X10_slideLine (x_cells : Nat → Int32) (a1 : Int32) (a2 : Int32) : Option (Int32 × (Nat → Int32)) :=
  (f_X10_at x_cells (a1 + (4 * a2))).bind fun r8 => f_X10_slideLine_16 a1 a2 (fun l3_59e x_cells_59e => some (l3_59e, x_cells_59e)) 1000 0 r8 0 x_cells
abbrev G_X10_slideLine (p : Program) (l : Launch) (e : Env) (s : State) (m : MethodId) (args : Array Value) (below : List Frame) (meth : Method) (c : Code) (g : GE) (A : Nat → Prop) (h0 h1 : Nat) (x_threshold : Int32) (res : Int32 × (Nat → Int32)) (H : Heap) (locs : List Loc) (pc : Nat) (ls : Array Slot) (st : List Value) : Prop := W p l e (headSpec wsX10_slideLine rm_X10_slideLine).room s m args below meth c H locs 0 0 (MQ below (PoI g A (w_X10 g h0 h1 res.2 x_threshold) res.1) args s 0 0 A) (F0 m pc ls st)
set_option maxHeartbeats 4000000 in
set_option maxRecDepth 100000 in
theorem k_X10_slideLine_16 {p : Program} {l : Launch} {e : Env} {s : State} {m : MethodId} {args : Array Value} {below : List Frame} {meth : Method} {c : Code} {g : GE} {A : Nat → Prop} {h0 h1 : Nat} {x_threshold : Int32} {res : Int32 × (Nat → Int32)} {l1 : Int32} {l2 : Int32} {z59 : Int32 → (Nat → Int32) → Option (Int32 × (Nat → Int32))}
    (E : En cX10_slideLine RX10 wsX10_slideLine 8 (some .int) p s m args meth c) (hK : KK g s) (hA : ∀ q, s.heap.size ≤ q → A q)
    (hz59 : ∀ (l3_59e : Int32) (x_cells_59e : Nat → Int32) (H : Heap) (locs : List Loc) (ls : Array Slot), z59 l3_59e x_cells_59e = some res → Wo g A s H locs (w_X10 g h0 h1 x_cells_59e x_threshold) → lv_has ls 8 [(3, .int l3_59e)] → G_X10_slideLine p l e s m args below meth c g A h0 h1 x_threshold res H locs 59 ls [])
    : ∀ (n : Nat) (l3_16 : Int32) (l4_16 : Int32) (l5_16 : Int32) (x_cells_16 : Nat → Int32) (H : Heap) (locs : List Loc) (ls : Array Slot), f_X10_slideLine_16 l1 l2 z59 n l3_16 l4_16 l5_16 x_cells_16 = some res → Wo g A s H locs (w_X10 g h0 h1 x_cells_16 x_threshold) → lv_has ls 8 [(0, .ref h0), (1, .int l1), (2, .int l2), (3, .int l3_16), (4, .int l4_16), (5, .int l5_16)] → G_X10_slideLine p l e s m args below meth c g A h0 h1 x_threshold res H locs 16 ls [] := by
  have hts := E.2.2.2.1
  intro n
  induction n with
  | zero => intro l3_16 l4_16 l5_16 x_cells_16 H locs ls h hW hl; rw [f_X10_slideLine_16] at h; cases h
  | succ n ih =>
    intro l3_16 l4_16 l5_16 x_cells_16 H locs ls h hW hl
    rw [f_X10_slideLine_16] at h
    refine lv_iload E.1 E.2.1 dX10_slideLine_16 (lv_at hl 5 rfl) ?_
    refine lv_iconst (v := 5) E.1 E.2.1 dX10_slideLine_18 (by decide) ?_
    refine lv_icmp_ge (tgt := 59) E.1 E.2.1 dX10_slideLine_19 (by decide) (fun c19 => ?_) (fun c19 => ?_)
    · have h := it c19 h
      exact hz59 l3_16 x_cells_16 H locs ls h hW (lv_sub hl [3] rfl)
    · have h := ie c19 h
      refine lv_iload_n E.1 E.2.1 dX10_slideLine_22 rfl (lv_at hl 1 rfl) ?_
      refine lv_iload E.1 E.2.1 dX10_slideLine_23 (lv_at hl 5 rfl) ?_
      refine lv_iload_n E.1 E.2.1 dX10_slideLine_25 rfl (lv_at hl 2 rfl) ?_
      refine lv_imul E.1 E.2.1 dX10_slideLine_26 ?_
      refine lv_iadd E.1 E.2.1 dX10_slideLine_27 ?_
      refine lv_istore (lv' := [(6, .int (l1 + (l5_16 * l2))), (0, .ref h0), (1, .int l1), (2, .int l2), (3, .int l3_16), (4, .int l4_16), (5, .int l5_16)]) E.1 E.2.1 dX10_slideLine_28 hl (by decide) rfl (fun ls hl => ?_)
      refine lv_aload_n E.1 E.2.1 dX10_slideLine_30 rfl (lv_at hl 1 rfl) ?_
      refine lv_iload E.1 E.2.1 dX10_slideLine_31 (lv_at hl 0 rfl) ?_
      obtain ⟨r33, hc, h⟩ := bx h
      refine goI (world' := (w_X10 g h0 h1 x_cells_16 x_threshold)) hW hA (is := [0, 1]) rfl (goV (rest := []) E hK hW [0, 1] rfl rfl (c_X10_at l g h0 h1 x_cells_16 x_threshold (l1 + (l5_16 * l2)) (hf := hc) H.size) (cwV 1 hts gX10_slideLine_X10_at rfl rfl rfl (by decide +kernel) ⟨Nat.le_of_ble_eq_true rfl, Nat.le_of_ble_eq_true rfl⟩) 0 rfl rfl rfl hl.1 rfl rfl (Nat.le_of_ble_eq_true rfl) dX10_slideLine_33 ⟨Nat.zero_le _, Nat.zero_le _⟩) rfl rfl (fun H locs hW => ?_)
      refine lv_istore (lv' := [(7, .int r33), (6, .int (l1 + (l5_16 * l2))), (0, .ref h0), (1, .int l1), (2, .int l2), (3, .int l3_16), (4, .int l4_16), (5, .int l5_16)]) E.1 E.2.1 dX10_slideLine_36 hl (by decide) rfl (fun ls hl => ?_)
      refine lv_iload_n E.1 E.2.1 dX10_slideLine_38 rfl (lv_at hl 5 rfl) ?_
      refine lv_aload_n E.1 E.2.1 dX10_slideLine_39 rfl (lv_at hl 2 rfl) ?_
      refine lv_iload E.1 E.2.1 dX10_slideLine_40 (lv_at hl 1 rfl) ?_
      refine lv_iload E.1 E.2.1 dX10_slideLine_42 (lv_at hl 6 rfl) ?_
      obtain ⟨r44, hc, h⟩ := bx h
      refine goI (world' := (w_X10 g h0 h1 r44.2 x_threshold)) hW hA (is := [0, 1]) rfl (goV (rest := [.int l3_16]) E hK hW [0, 1] rfl rfl (c_X10_put l g h0 h1 x_cells_16 x_threshold (l1 + (l5_16 * l2)) l4_16 (hf := hc) H.size) (cwV 2 hts gX10_slideLine_X10_put rfl rfl rfl (by decide +kernel) ⟨Nat.le_of_ble_eq_true rfl, Nat.le_of_ble_eq_true rfl⟩) 0 rfl rfl rfl hl.1 rfl rfl (Nat.le_of_ble_eq_true rfl) dX10_slideLine_44 ⟨Nat.zero_le _, Nat.zero_le _⟩) rfl rfl (fun H locs hW => ?_)
      refine lv_iadd E.1 E.2.1 dX10_slideLine_47 ?_
      refine lv_istore_n (lv' := [(3, .int (l3_16 + r44.1)), (7, .int r33), (6, .int (l1 + (l5_16 * l2))), (0, .ref h0), (1, .int l1), (2, .int l2), (4, .int l4_16), (5, .int l5_16)]) E.1 E.2.1 dX10_slideLine_48 rfl hl (by decide) rfl (fun ls hl => ?_)
      refine lv_iload E.1 E.2.1 dX10_slideLine_49 (lv_at hl 1 rfl) ?_
      refine lv_istore (lv' := [(4, .int r33), (3, .int (l3_16 + r44.1)), (7, .int r33), (6, .int (l1 + (l5_16 * l2))), (0, .ref h0), (1, .int l1), (2, .int l2), (5, .int l5_16)]) E.1 E.2.1 dX10_slideLine_51 hl (by decide) rfl (fun ls hl => ?_)
      refine lv_iinc (v := (l5_16 + 1)) (lv' := [(5, .int (l5_16 + 1)), (4, .int r33), (3, .int (l3_16 + r44.1)), (7, .int r33), (6, .int (l1 + (l5_16 * l2))), (0, .ref h0), (1, .int l1), (2, .int l2)]) E.1 E.2.1 dX10_slideLine_53 hl (k := 7) rfl rfl (by decide) rfl (fun ls hl => ?_)
      refine lv_goto (tgt := 16) E.1 E.2.1 dX10_slideLine_56 (by decide) ?_
      exact ih (l3_16 + r44.1) r33 (l5_16 + 1) r44.2 H locs ls h hW (lv_sub hl [5, 6, 7, 2, 1, 0] rfl)
set_option maxHeartbeats 4000000 in
set_option maxRecDepth 100000 in
theorem k_X10_slideLine_0 {p : Program} {l : Launch} {e : Env} {s : State} {m : MethodId} {args : Array Value} {below : List Frame} {meth : Method} {c : Code} {g : GE} {A : Nat → Prop} {h0 h1 : Nat} {x_cells : Nat → Int32} {x_threshold : Int32} {res : Int32 × (Nat → Int32)} {H : Heap} {locs : List Loc} {ls : Array Slot} {a1 : Int32} {a2 : Int32}
    (E : En cX10_slideLine RX10 wsX10_slideLine 8 (some .int) p s m args meth c) (hK : KK g s) (hA : ∀ q, s.heap.size ≤ q → A q) (h : f_X10_slideLine x_cells a1 a2 = some res) (hW : Wo g A s H locs (w_X10 g h0 h1 x_cells x_threshold)) (hl : lv_has ls 8 [(0, .ref h0), (1, .int a1), (2, .int a2)]) : G_X10_slideLine p l e s m args below meth c g A h0 h1 x_threshold res H locs 0 ls [] := by
  have hts := E.2.2.2.1
  unfold f_X10_slideLine at h
  refine lv_iconst (v := 0) E.1 E.2.1 dX10_slideLine_0 (by decide) ?_
  refine lv_istore_n (lv' := [(3, .int 0), (0, .ref h0), (1, .int a1), (2, .int a2)]) E.1 E.2.1 dX10_slideLine_1 rfl hl (by decide) rfl (fun ls hl => ?_)
  refine lv_aload_n E.1 E.2.1 dX10_slideLine_2 rfl (lv_at hl 1 rfl) ?_
  refine lv_iload_n E.1 E.2.1 dX10_slideLine_3 rfl (lv_at hl 2 rfl) ?_
  refine lv_iconst (v := 4) E.1 E.2.1 dX10_slideLine_4 (by decide) ?_
  refine lv_iload_n E.1 E.2.1 dX10_slideLine_5 rfl (lv_at hl 3 rfl) ?_
  refine lv_imul E.1 E.2.1 dX10_slideLine_6 ?_
  refine lv_iadd E.1 E.2.1 dX10_slideLine_7 ?_
  obtain ⟨r8, hc, h⟩ := bx h
  refine goI (world' := (w_X10 g h0 h1 x_cells x_threshold)) hW hA (is := [0, 1]) rfl (goV (rest := []) E hK hW [0, 1] rfl rfl (c_X10_at l g h0 h1 x_cells x_threshold (a1 + (4 * a2)) (hf := hc) H.size) (cwV 1 hts gX10_slideLine_X10_at rfl rfl rfl (by decide +kernel) ⟨Nat.le_of_ble_eq_true rfl, Nat.le_of_ble_eq_true rfl⟩) 0 rfl rfl rfl hl.1 rfl rfl (Nat.le_of_ble_eq_true rfl) dX10_slideLine_8 ⟨Nat.zero_le _, Nat.zero_le _⟩) rfl rfl (fun H locs hW => ?_)
  refine lv_istore (lv' := [(4, .int r8), (3, .int 0), (0, .ref h0), (1, .int a1), (2, .int a2)]) E.1 E.2.1 dX10_slideLine_11 hl (by decide) rfl (fun ls hl => ?_)
  refine lv_iconst (v := 0) E.1 E.2.1 dX10_slideLine_13 (by decide) ?_
  refine lv_istore (lv' := [(5, .int 0), (4, .int r8), (3, .int 0), (0, .ref h0), (1, .int a1), (2, .int a2)]) E.1 E.2.1 dX10_slideLine_14 hl (by decide) rfl (fun ls hl => ?_)
  refine k_X10_slideLine_16 E hK hA ?_ 1000 0 r8 0 x_cells H locs ls h hW (lv_sub hl [3, 4, 5, 2, 1, 0] rfl)
  · intro l3_59e x_cells_59e H locs ls h hW hl
    refine lv_iload_n E.1 E.2.1 dX10_slideLine_59 rfl (lv_at hl 0 rfl) ?_
    obtain rfl := Option.some.inj h
    exact endI E rfl hW dX10_slideLine_60
theorem c_X10_slideLine (l : Launch) (g : GE) (h0 h1 : Nat) (x_cells : Nat → Int32) (x_threshold : Int32) (a1 : Int32) (a2 : Int32) {res : Int32 × (Nat → Int32)} (hf : f_X10_slideLine x_cells a1 a2 = some res) : CI l yX10_slideLine wsX10_slideLine rm_X10_slideLine g [.ref h0, .int a1, .int a2] (w_X10 g h0 h1 x_cells x_threshold) (w_X10 g h0 h1 res.2 x_threshold) res.1 :=
  mkI (cc := cX10_slideLine) (maxL := 8) (by decide) rfl (Nat.le_of_ble_eq_true rfl) (fun p e s m args below meth c A H locs ls E hK hA hW hl => k_X10_slideLine_0 E hK hA hf hW hl)

/-! PaperStorm$Sheet.slide(C)I X10_slide -/
abbrev rm_X10_slide : Room := { frames := 2, cells := 0, slots := 0, locals := 50 }
noncomputable def f_X10_slide_4 (l1 : Int32) (z112 : Int32 → (Nat → Int32) → Option (Int32 × (Nat → Int32))) : Nat → Int32 → Int32 → (Nat → Int32) → Option (Int32 × (Nat → Int32))
  | 0, _, _, _ => none
  | n + 1, l2_4, l3_4, x_cells_4 => if 5 ≤ l3_4 then z112 l2_4 x_cells_4 else jo (fun (l2_106 : Int32) (x_cells_106 : Nat → Int32) => f_X10_slide_4 l1 z112 n l2_106 (l3_4 + 1) x_cells_106) (fun j106 => if l1 = 101 then (f_X10_cellOf l3_4 0).bind fun r65 => (f_X10_slideLine x_cells_4 r65 1).bind fun r69 => j106 (l2_4 + r69.1) r69.2 else if l1 = 110 then (f_X10_cellOf 4 l3_4).bind fun r48 => (f_X10_slideLine x_cells_4 r48 (-5)).bind fun r53 => j106 (l2_4 + r53.1) r53.2 else if l1 = 115 then (f_X10_cellOf 0 l3_4).bind fun r81 => (f_X10_slideLine x_cells_4 r81 5).bind fun r85 => j106 (l2_4 + r85.1) r85.2 else (f_X10_cellOf l3_4 4).bind fun r97 => (f_X10_slideLine x_cells_4 r97 (-1)).bind fun r101 => j106 (l2_4 + r101.1) r101.2)
noncomputable def f_X10_slide (x_cells : Nat → Int32) (a1 : Int32) : Option (Int32 × (Nat → Int32)) :=
  f_X10_slide_4 a1 (fun l2_112e x_cells_112e => some (l2_112e, x_cells_112e)) 1000 0 0 x_cells
abbrev G_X10_slide (p : Program) (l : Launch) (e : Env) (s : State) (m : MethodId) (args : Array Value) (below : List Frame) (meth : Method) (c : Code) (g : GE) (A : Nat → Prop) (h0 h1 : Nat) (x_threshold : Int32) (res : Int32 × (Nat → Int32)) (H : Heap) (locs : List Loc) (pc : Nat) (ls : Array Slot) (st : List Value) : Prop := W p l e (headSpec wsX10_slide rm_X10_slide).room s m args below meth c H locs 0 0 (MQ below (PoI g A (w_X10 g h0 h1 res.2 x_threshold) res.1) args s 0 0 A) (F0 m pc ls st)
set_option maxHeartbeats 4000000 in
set_option maxRecDepth 100000 in
theorem k_X10_slide_4 {p : Program} {l : Launch} {e : Env} {s : State} {m : MethodId} {args : Array Value} {below : List Frame} {meth : Method} {c : Code} {g : GE} {A : Nat → Prop} {h0 h1 : Nat} {x_threshold : Int32} {res : Int32 × (Nat → Int32)} {l1 : Int32} {z112 : Int32 → (Nat → Int32) → Option (Int32 × (Nat → Int32))}
    (E : En cX10_slide RX10 wsX10_slide 4 (some .int) p s m args meth c) (hK : KK g s) (hA : ∀ q, s.heap.size ≤ q → A q)
    (hz112 : ∀ (l2_112e : Int32) (x_cells_112e : Nat → Int32) (H : Heap) (locs : List Loc) (ls : Array Slot), z112 l2_112e x_cells_112e = some res → Wo g A s H locs (w_X10 g h0 h1 x_cells_112e x_threshold) → lv_has ls 4 [(2, .int l2_112e)] → G_X10_slide p l e s m args below meth c g A h0 h1 x_threshold res H locs 112 ls [])
    : ∀ (n : Nat) (l2_4 : Int32) (l3_4 : Int32) (x_cells_4 : Nat → Int32) (H : Heap) (locs : List Loc) (ls : Array Slot), f_X10_slide_4 l1 z112 n l2_4 l3_4 x_cells_4 = some res → Wo g A s H locs (w_X10 g h0 h1 x_cells_4 x_threshold) → lv_has ls 4 [(0, .ref h0), (1, .int l1), (2, .int l2_4), (3, .int l3_4)] → G_X10_slide p l e s m args below meth c g A h0 h1 x_threshold res H locs 4 ls [] := by
  have hts := E.2.2.2.1
  intro n
  induction n with
  | zero => intro l2_4 l3_4 x_cells_4 H locs ls h hW hl; rw [f_X10_slide_4] at h; cases h
  | succ n ih =>
    intro l2_4 l3_4 x_cells_4 H locs ls h hW hl
    rw [f_X10_slide_4] at h
    refine lv_iload_n E.1 E.2.1 dX10_slide_4 rfl (lv_at hl 3 rfl) ?_
    refine lv_iconst (v := 5) E.1 E.2.1 dX10_slide_5 (by decide) ?_
    refine lv_icmp_ge (tgt := 112) E.1 E.2.1 dX10_slide_6 (by decide) (fun c6 => ?_) (fun c6 => ?_)
    · have h := it c6 h
      exact hz112 l2_4 x_cells_4 H locs ls h hW (lv_sub hl [2] rfl)
    · have h := ie c6 h
      obtain ⟨j106, hj106, h⟩ := jox2 h
      have J106 : ∀ (l2_106 : Int32) (x_cells_106 : Nat → Int32) (H : Heap) (locs : List Loc) (ls : Array Slot), j106 l2_106 x_cells_106 = some res → Wo g A s H locs (w_X10 g h0 h1 x_cells_106 x_threshold) → lv_has ls 4 [(0, .ref h0), (1, .int l1), (2, .int l2_106), (3, .int l3_4)] → G_X10_slide p l e s m args below meth c g A h0 h1 x_threshold res H locs 106 ls [] := by
        intro l2_106 x_cells_106 H locs ls h hW hl
        rw [hj106] at h
        refine lv_iinc (v := (l3_4 + 1)) (lv' := [(3, .int (l3_4 + 1)), (0, .ref h0), (1, .int l1), (2, .int l2_106)]) E.1 E.2.1 dX10_slide_106 hl (k := 3) rfl rfl (by decide) rfl (fun ls hl => ?_)
        refine lv_goto (tgt := 4) E.1 E.2.1 dX10_slide_109 (by decide) ?_
        exact ih l2_106 (l3_4 + 1) x_cells_106 H locs ls h hW (lv_sub hl [1, 2, 3, 0] rfl)
      refine lv_iload_n E.1 E.2.1 dX10_slide_9 rfl (lv_at hl 1 rfl) ?_
      by_cases c10_101 : l1 = 101
      · have h := it c10_101 h
        refine lv_lookup (off := 51) (tgt := 61) E.1 E.2.1 dX10_slide_10 (by decide) (by rw [c10_101]; decide) (by decide) ?_
        refine lv_iload_n E.1 E.2.1 dX10_slide_61 rfl (lv_at hl 2 rfl) ?_
        refine lv_aload_n E.1 E.2.1 dX10_slide_62 rfl (lv_at hl 0 rfl) ?_
        refine lv_iload_n E.1 E.2.1 dX10_slide_63 rfl (lv_at hl 3 rfl) ?_
        refine lv_iconst (v := 0) E.1 E.2.1 dX10_slide_64 (by decide) ?_
        obtain ⟨r65, hc, h⟩ := bx h
        refine goI (world' := (w_X10 g h0 h1 x_cells_4 x_threshold)) hW hA (is := []) rfl (goS (rest := [.ref h0, .int l2_4]) E hK hW [] rfl rfl (c_X10_cellOf l g l3_4 0 (hf := hc) H.size) (va_cwS 2 hts gX10_slide_X10_cellOf rfl rfl rfl (by decide +kernel) ⟨Nat.le_of_ble_eq_true rfl, Nat.le_of_ble_eq_true rfl⟩) hl.1 rfl rfl (Nat.le_of_ble_eq_true rfl) dX10_slide_65 ⟨Nat.zero_le _, Nat.zero_le _⟩) rfl rfl (fun H locs hW => ?_)
        refine lv_iconst (v := 1) E.1 E.2.1 dX10_slide_68 (by decide) ?_
        obtain ⟨r69, hc, h⟩ := bx h
        refine goI (world' := (w_X10 g h0 h1 r69.2 x_threshold)) hW hA (is := [0, 1]) rfl (goV (rest := [.int l2_4]) E hK hW [0, 1] rfl rfl (c_X10_slideLine l g h0 h1 x_cells_4 x_threshold r65 1 (hf := hc) H.size) (cwV 2 hts gX10_slide_X10_slideLine rfl rfl rfl (by decide +kernel) ⟨Nat.le_of_ble_eq_true rfl, Nat.le_of_ble_eq_true rfl⟩) 0 rfl rfl rfl hl.1 rfl rfl (Nat.le_of_ble_eq_true rfl) dX10_slide_69 ⟨Nat.zero_le _, Nat.zero_le _⟩) rfl rfl (fun H locs hW => ?_)
        refine lv_iadd E.1 E.2.1 dX10_slide_72 ?_
        refine lv_istore_n (lv' := [(2, .int (l2_4 + r69.1)), (0, .ref h0), (1, .int l1), (3, .int l3_4)]) E.1 E.2.1 dX10_slide_73 rfl hl (by decide) rfl (fun ls hl => ?_)
        refine lv_goto (tgt := 106) E.1 E.2.1 dX10_slide_74 (by decide) ?_
        exact J106 (l2_4 + r69.1) r69.2 H locs ls h hW (lv_sub hl [1, 2, 0, 3] rfl)
      have h := ie c10_101 h
      by_cases c10_110 : l1 = 110
      · have h := it c10_110 h
        refine lv_lookup (off := 34) (tgt := 44) E.1 E.2.1 dX10_slide_10 (by decide) (by rw [c10_110]; decide) (by decide) ?_
        refine lv_iload_n E.1 E.2.1 dX10_slide_44 rfl (lv_at hl 2 rfl) ?_
        refine lv_aload_n E.1 E.2.1 dX10_slide_45 rfl (lv_at hl 0 rfl) ?_
        refine lv_iconst (v := 4) E.1 E.2.1 dX10_slide_46 (by decide) ?_
        refine lv_iload_n E.1 E.2.1 dX10_slide_47 rfl (lv_at hl 3 rfl) ?_
        obtain ⟨r48, hc, h⟩ := bx h
        refine goI (world' := (w_X10 g h0 h1 x_cells_4 x_threshold)) hW hA (is := []) rfl (goS (rest := [.ref h0, .int l2_4]) E hK hW [] rfl rfl (c_X10_cellOf l g 4 l3_4 (hf := hc) H.size) (va_cwS 2 hts gX10_slide_X10_cellOf rfl rfl rfl (by decide +kernel) ⟨Nat.le_of_ble_eq_true rfl, Nat.le_of_ble_eq_true rfl⟩) hl.1 rfl rfl (Nat.le_of_ble_eq_true rfl) dX10_slide_48 ⟨Nat.zero_le _, Nat.zero_le _⟩) rfl rfl (fun H locs hW => ?_)
        refine lv_bipush (v := (-5)) E.1 E.2.1 dX10_slide_51 (by decide) ?_
        obtain ⟨r53, hc, h⟩ := bx h
        refine goI (world' := (w_X10 g h0 h1 r53.2 x_threshold)) hW hA (is := [0, 1]) rfl (goV (rest := [.int l2_4]) E hK hW [0, 1] rfl rfl (c_X10_slideLine l g h0 h1 x_cells_4 x_threshold r48 (-5) (hf := hc) H.size) (cwV 2 hts gX10_slide_X10_slideLine rfl rfl rfl (by decide +kernel) ⟨Nat.le_of_ble_eq_true rfl, Nat.le_of_ble_eq_true rfl⟩) 0 rfl rfl rfl hl.1 rfl rfl (Nat.le_of_ble_eq_true rfl) dX10_slide_53 ⟨Nat.zero_le _, Nat.zero_le _⟩) rfl rfl (fun H locs hW => ?_)
        refine lv_iadd E.1 E.2.1 dX10_slide_56 ?_
        refine lv_istore_n (lv' := [(2, .int (l2_4 + r53.1)), (0, .ref h0), (1, .int l1), (3, .int l3_4)]) E.1 E.2.1 dX10_slide_57 rfl hl (by decide) rfl (fun ls hl => ?_)
        refine lv_goto (tgt := 106) E.1 E.2.1 dX10_slide_58 (by decide) ?_
        exact J106 (l2_4 + r53.1) r53.2 H locs ls h hW (lv_sub hl [1, 2, 0, 3] rfl)
      have h := ie c10_110 h
      by_cases c10_115 : l1 = 115
      · have h := it c10_115 h
        refine lv_lookup (off := 67) (tgt := 77) E.1 E.2.1 dX10_slide_10 (by decide) (by rw [c10_115]; decide) (by decide) ?_
        refine lv_iload_n E.1 E.2.1 dX10_slide_77 rfl (lv_at hl 2 rfl) ?_
        refine lv_aload_n E.1 E.2.1 dX10_slide_78 rfl (lv_at hl 0 rfl) ?_
        refine lv_iconst (v := 0) E.1 E.2.1 dX10_slide_79 (by decide) ?_
        refine lv_iload_n E.1 E.2.1 dX10_slide_80 rfl (lv_at hl 3 rfl) ?_
        obtain ⟨r81, hc, h⟩ := bx h
        refine goI (world' := (w_X10 g h0 h1 x_cells_4 x_threshold)) hW hA (is := []) rfl (goS (rest := [.ref h0, .int l2_4]) E hK hW [] rfl rfl (c_X10_cellOf l g 0 l3_4 (hf := hc) H.size) (va_cwS 2 hts gX10_slide_X10_cellOf rfl rfl rfl (by decide +kernel) ⟨Nat.le_of_ble_eq_true rfl, Nat.le_of_ble_eq_true rfl⟩) hl.1 rfl rfl (Nat.le_of_ble_eq_true rfl) dX10_slide_81 ⟨Nat.zero_le _, Nat.zero_le _⟩) rfl rfl (fun H locs hW => ?_)
        refine lv_iconst (v := 5) E.1 E.2.1 dX10_slide_84 (by decide) ?_
        obtain ⟨r85, hc, h⟩ := bx h
        refine goI (world' := (w_X10 g h0 h1 r85.2 x_threshold)) hW hA (is := [0, 1]) rfl (goV (rest := [.int l2_4]) E hK hW [0, 1] rfl rfl (c_X10_slideLine l g h0 h1 x_cells_4 x_threshold r81 5 (hf := hc) H.size) (cwV 2 hts gX10_slide_X10_slideLine rfl rfl rfl (by decide +kernel) ⟨Nat.le_of_ble_eq_true rfl, Nat.le_of_ble_eq_true rfl⟩) 0 rfl rfl rfl hl.1 rfl rfl (Nat.le_of_ble_eq_true rfl) dX10_slide_85 ⟨Nat.zero_le _, Nat.zero_le _⟩) rfl rfl (fun H locs hW => ?_)
        refine lv_iadd E.1 E.2.1 dX10_slide_88 ?_
        refine lv_istore_n (lv' := [(2, .int (l2_4 + r85.1)), (0, .ref h0), (1, .int l1), (3, .int l3_4)]) E.1 E.2.1 dX10_slide_89 rfl hl (by decide) rfl (fun ls hl => ?_)
        refine lv_goto (tgt := 106) E.1 E.2.1 dX10_slide_90 (by decide) ?_
        exact J106 (l2_4 + r85.1) r85.2 H locs ls h hW (lv_sub hl [1, 2, 0, 3] rfl)
      have h := ie c10_115 h
      refine lv_lookup (off := 83) (tgt := 93) E.1 E.2.1 dX10_slide_10 (by decide) (lookOut3 c10_101 c10_110 c10_115 (by decide) (by decide) (by decide)) (by decide) ?_
      refine lv_iload_n E.1 E.2.1 dX10_slide_93 rfl (lv_at hl 2 rfl) ?_
      refine lv_aload_n E.1 E.2.1 dX10_slide_94 rfl (lv_at hl 0 rfl) ?_
      refine lv_iload_n E.1 E.2.1 dX10_slide_95 rfl (lv_at hl 3 rfl) ?_
      refine lv_iconst (v := 4) E.1 E.2.1 dX10_slide_96 (by decide) ?_
      obtain ⟨r97, hc, h⟩ := bx h
      refine goI (world' := (w_X10 g h0 h1 x_cells_4 x_threshold)) hW hA (is := []) rfl (goS (rest := [.ref h0, .int l2_4]) E hK hW [] rfl rfl (c_X10_cellOf l g l3_4 4 (hf := hc) H.size) (va_cwS 2 hts gX10_slide_X10_cellOf rfl rfl rfl (by decide +kernel) ⟨Nat.le_of_ble_eq_true rfl, Nat.le_of_ble_eq_true rfl⟩) hl.1 rfl rfl (Nat.le_of_ble_eq_true rfl) dX10_slide_97 ⟨Nat.zero_le _, Nat.zero_le _⟩) rfl rfl (fun H locs hW => ?_)
      refine lv_iconst (v := (-1)) E.1 E.2.1 dX10_slide_100 (by decide) ?_
      obtain ⟨r101, hc, h⟩ := bx h
      refine goI (world' := (w_X10 g h0 h1 r101.2 x_threshold)) hW hA (is := [0, 1]) rfl (goV (rest := [.int l2_4]) E hK hW [0, 1] rfl rfl (c_X10_slideLine l g h0 h1 x_cells_4 x_threshold r97 (-1) (hf := hc) H.size) (cwV 2 hts gX10_slide_X10_slideLine rfl rfl rfl (by decide +kernel) ⟨Nat.le_of_ble_eq_true rfl, Nat.le_of_ble_eq_true rfl⟩) 0 rfl rfl rfl hl.1 rfl rfl (Nat.le_of_ble_eq_true rfl) dX10_slide_101 ⟨Nat.zero_le _, Nat.zero_le _⟩) rfl rfl (fun H locs hW => ?_)
      refine lv_iadd E.1 E.2.1 dX10_slide_104 ?_
      refine lv_istore_n (lv' := [(2, .int (l2_4 + r101.1)), (0, .ref h0), (1, .int l1), (3, .int l3_4)]) E.1 E.2.1 dX10_slide_105 rfl hl (by decide) rfl (fun ls hl => ?_)
      exact J106 (l2_4 + r101.1) r101.2 H locs ls h hW (lv_sub hl [1, 2, 0, 3] rfl)
set_option maxHeartbeats 4000000 in
set_option maxRecDepth 100000 in
theorem k_X10_slide_0 {p : Program} {l : Launch} {e : Env} {s : State} {m : MethodId} {args : Array Value} {below : List Frame} {meth : Method} {c : Code} {g : GE} {A : Nat → Prop} {h0 h1 : Nat} {x_cells : Nat → Int32} {x_threshold : Int32} {res : Int32 × (Nat → Int32)} {H : Heap} {locs : List Loc} {ls : Array Slot} {a1 : Int32}
    (E : En cX10_slide RX10 wsX10_slide 4 (some .int) p s m args meth c) (hK : KK g s) (hA : ∀ q, s.heap.size ≤ q → A q) (h : f_X10_slide x_cells a1 = some res) (hW : Wo g A s H locs (w_X10 g h0 h1 x_cells x_threshold)) (hl : lv_has ls 4 [(0, .ref h0), (1, .int a1)]) : G_X10_slide p l e s m args below meth c g A h0 h1 x_threshold res H locs 0 ls [] := by
  have hts := E.2.2.2.1
  unfold f_X10_slide at h
  refine lv_iconst (v := 0) E.1 E.2.1 dX10_slide_0 (by decide) ?_
  refine lv_istore_n (lv' := [(2, .int 0), (0, .ref h0), (1, .int a1)]) E.1 E.2.1 dX10_slide_1 rfl hl (by decide) rfl (fun ls hl => ?_)
  refine lv_iconst (v := 0) E.1 E.2.1 dX10_slide_2 (by decide) ?_
  refine lv_istore_n (lv' := [(3, .int 0), (2, .int 0), (0, .ref h0), (1, .int a1)]) E.1 E.2.1 dX10_slide_3 rfl hl (by decide) rfl (fun ls hl => ?_)
  refine k_X10_slide_4 E hK hA ?_ 1000 0 0 x_cells H locs ls h hW (lv_sub hl [2, 3, 1, 0] rfl)
  · intro l2_112e x_cells_112e H locs ls h hW hl
    refine lv_iload_n E.1 E.2.1 dX10_slide_112 rfl (lv_at hl 0 rfl) ?_
    obtain rfl := Option.some.inj h
    exact endI E rfl hW dX10_slide_113
theorem c_X10_slide (l : Launch) (g : GE) (h0 h1 : Nat) (x_cells : Nat → Int32) (x_threshold : Int32) (a1 : Int32) {res : Int32 × (Nat → Int32)} (hf : f_X10_slide x_cells a1 = some res) : CI l yX10_slide wsX10_slide rm_X10_slide g [.ref h0, .int a1] (w_X10 g h0 h1 x_cells x_threshold) (w_X10 g h0 h1 res.2 x_threshold) res.1 :=
  mkI (cc := cX10_slide) (maxL := 4) (by decide) rfl (Nat.le_of_ble_eq_true rfl) (fun p e s m args below meth c A H locs ls E hK hA hW hl => k_X10_slide_0 E hK hA hf hW hl)

/-! PaperStorm$Sheet.difference(II)I X10_difference -/
abbrev rm_X10_difference : Room := { frames := 0, cells := 0, slots := 0, locals := 0 }
theorem in_X10_difference_X10 : ∀ w ∈ wsX100, w ∈ wsX10_difference := by decide +kernel
theorem lk_X10_difference_9 : Cond.fieldLink RX10 9 "PaperStorm$Sheet" "cells" "[I" ∈ wsX10_difference := by decide +kernel
noncomputable def f_X10_difference (x_cells : Nat → Int32) (a1 : Int32) (a2 : Int32) : Option (Int32) :=
  jo (some (0)) (fun j20 => if a1 < 0 then j20 else if 25 ≤ a1 then j20 else if a2 < 0 then j20 else if a2 < 25 then jo (fun (s0_46 : Int32) => some (s0_46)) (fun j46 => if a1 < 0 ∨ 25 ≤ a1.toNatClampNeg then none else if a2 < 0 ∨ 25 ≤ a2.toNatClampNeg then none else if 0 ≤ ((x_cells a1.toNatClampNeg) - (x_cells a2.toNatClampNeg)) then j46 ((x_cells a1.toNatClampNeg) - (x_cells a2.toNatClampNeg)) else j46 (-((x_cells a1.toNatClampNeg) - (x_cells a2.toNatClampNeg)))) else j20)
abbrev G_X10_difference (p : Program) (l : Launch) (e : Env) (s : State) (m : MethodId) (args : Array Value) (below : List Frame) (meth : Method) (c : Code) (g : GE) (A : Nat → Prop) (h0 h1 : Nat) (x_cells : Nat → Int32) (x_threshold : Int32) (res : Int32) (H : Heap) (locs : List Loc) (pc : Nat) (ls : Array Slot) (st : List Value) : Prop := W p l e (headSpec wsX10_difference rm_X10_difference).room s m args below meth c H locs 0 0 (MQ below (PoI g A (w_X10 g h0 h1 x_cells x_threshold) res) args s 0 0 A) (F0 m pc ls st)
set_option maxHeartbeats 4000000 in
set_option maxRecDepth 100000 in
theorem k_X10_difference_0 {p : Program} {l : Launch} {e : Env} {s : State} {m : MethodId} {args : Array Value} {below : List Frame} {meth : Method} {c : Code} {g : GE} {A : Nat → Prop} {h0 h1 : Nat} {x_cells : Nat → Int32} {x_threshold : Int32} {res : Int32} {H : Heap} {locs : List Loc} {ls : Array Slot} {a1 : Int32} {a2 : Int32}
    (E : En cX10_difference RX10 wsX10_difference 4 (some .int) p s m args meth c) (hK : KK g s) (hA : ∀ q, s.heap.size ≤ q → A q) (h : f_X10_difference x_cells a1 a2 = some res) (hW : Wo g A s H locs (w_X10 g h0 h1 x_cells x_threshold)) (hl : lv_has ls 4 [(0, .ref h0), (1, .int a1), (2, .int a2)]) : G_X10_difference p l e s m args below meth c g A h0 h1 x_cells x_threshold res H locs 0 ls [] := by
  have hts := E.2.2.2.1
  unfold f_X10_difference at h
  obtain ⟨j20, hj20, h⟩ := jox0 h
  have J20 : ∀ (H : Heap) (locs : List Loc) (ls : Array Slot), j20 = some res → Wo g A s H locs (w_X10 g h0 h1 x_cells x_threshold) → lv_has ls 4 [] → G_X10_difference p l e s m args below meth c g A h0 h1 x_cells x_threshold res H locs 20 ls [] := by
    intro H locs ls h hW hl
    rw [hj20] at h
    refine lv_iconst (v := 0) E.1 E.2.1 dX10_difference_20 (by decide) ?_
    obtain rfl := Option.some.inj h
    exact endI E rfl hW dX10_difference_21
  refine lv_iload_n E.1 E.2.1 dX10_difference_0 rfl (lv_at hl 1 rfl) ?_
  refine lv_if_lt (tgt := 20) E.1 E.2.1 dX10_difference_1 (by decide) (fun c1 => ?_) (fun c1 => ?_)
  · have h := it c1 h
    exact J20  H locs ls h hW (lv_sub hl [] rfl)
  · have h := ie c1 h
    refine lv_iload_n E.1 E.2.1 dX10_difference_4 rfl (lv_at hl 1 rfl) ?_
    refine lv_bipush (v := 25) E.1 E.2.1 dX10_difference_5 (by decide) ?_
    refine lv_icmp_ge (tgt := 20) E.1 E.2.1 dX10_difference_7 (by decide) (fun c7 => ?_) (fun c7 => ?_)
    · have h := it c7 h
      exact J20  H locs ls h hW (lv_sub hl [] rfl)
    · have h := ie c7 h
      refine lv_iload_n E.1 E.2.1 dX10_difference_10 rfl (lv_at hl 2 rfl) ?_
      refine lv_if_lt (tgt := 20) E.1 E.2.1 dX10_difference_11 (by decide) (fun c11 => ?_) (fun c11 => ?_)
      · have h := it c11 h
        exact J20  H locs ls h hW (lv_sub hl [] rfl)
      · have h := ie c11 h
        refine lv_iload_n E.1 E.2.1 dX10_difference_14 rfl (lv_at hl 2 rfl) ?_
        refine lv_bipush (v := 25) E.1 E.2.1 dX10_difference_15 (by decide) ?_
        refine lv_icmp_lt (tgt := 22) E.1 E.2.1 dX10_difference_17 (by decide) (fun c17 => ?_) (fun c17 => ?_)
        · have h := it c17 h
          obtain ⟨j46, hj46, h⟩ := jox1 h
          have J46 : ∀ (s0_46 : Int32) (H : Heap) (locs : List Loc) (ls : Array Slot), j46 s0_46 = some res → Wo g A s H locs (w_X10 g h0 h1 x_cells x_threshold) → lv_has ls 4 [] → G_X10_difference p l e s m args below meth c g A h0 h1 x_cells x_threshold res H locs 46 ls [.int s0_46] := by
            intro s0_46 H locs ls h hW hl
            rw [hj46] at h
            obtain rfl := Option.some.inj h
            exact endI E rfl hW dX10_difference_46
          refine lv_aload_n E.1 E.2.1 dX10_difference_22 rfl (lv_at hl 0 rfl) ?_
          refine wGet (v := .ref h1) E hK in_X10_difference_X10 hW 0 lk_X10_difference_9 0 rfl rfl (by decide) rfl rfl dX10_difference_23 ?_
          refine lv_iload_n E.1 E.2.1 dX10_difference_26 rfl (lv_at hl 1 rfl) ?_
          obtain ⟨hi27, h⟩ := ox h
          refine wIald E hK hW 1 rfl hi27 dX10_difference_27 ?_
          refine lv_aload_n E.1 E.2.1 dX10_difference_28 rfl (lv_at hl 0 rfl) ?_
          refine wGet (v := .ref h1) E hK in_X10_difference_X10 hW 0 lk_X10_difference_9 0 rfl rfl (by decide) rfl rfl dX10_difference_29 ?_
          refine lv_iload_n E.1 E.2.1 dX10_difference_32 rfl (lv_at hl 2 rfl) ?_
          obtain ⟨hi33, h⟩ := ox h
          refine wIald E hK hW 1 rfl hi33 dX10_difference_33 ?_
          refine lv_isub E.1 E.2.1 dX10_difference_34 ?_
          refine lv_istore_n (lv' := [(3, .int ((x_cells a1.toNatClampNeg) - (x_cells a2.toNatClampNeg))), (0, .ref h0), (1, .int a1), (2, .int a2)]) E.1 E.2.1 dX10_difference_35 rfl hl (by decide) rfl (fun ls hl => ?_)
          refine lv_iload_n E.1 E.2.1 dX10_difference_36 rfl (lv_at hl 0 rfl) ?_
          refine lv_if_ge (tgt := 45) E.1 E.2.1 dX10_difference_37 (by decide) (fun c37 => ?_) (fun c37 => ?_)
          · have h := it c37 h
            refine lv_iload_n E.1 E.2.1 dX10_difference_45 rfl (lv_at hl 0 rfl) ?_
            exact J46 ((x_cells a1.toNatClampNeg) - (x_cells a2.toNatClampNeg)) H locs ls h hW (lv_sub hl [] rfl)
          · have h := ie c37 h
            refine lv_iload_n E.1 E.2.1 dX10_difference_40 rfl (lv_at hl 0 rfl) ?_
            refine lv_ineg E.1 E.2.1 dX10_difference_41 ?_
            refine lv_goto (tgt := 46) E.1 E.2.1 dX10_difference_42 (by decide) ?_
            exact J46 (-((x_cells a1.toNatClampNeg) - (x_cells a2.toNatClampNeg))) H locs ls h hW (lv_sub hl [] rfl)
        · have h := ie c17 h
          exact J20  H locs ls h hW (lv_sub hl [] rfl)
theorem c_X10_difference (l : Launch) (g : GE) (h0 h1 : Nat) (x_cells : Nat → Int32) (x_threshold : Int32) (a1 : Int32) (a2 : Int32) {res : Int32} (hf : f_X10_difference x_cells a1 a2 = some res) : CI l yX10_difference wsX10_difference rm_X10_difference g [.ref h0, .int a1, .int a2] (w_X10 g h0 h1 x_cells x_threshold) (w_X10 g h0 h1 x_cells x_threshold) res :=
  mkI (cc := cX10_difference) (maxL := 4) (by decide) rfl (Nat.le_of_ble_eq_true rfl) (fun p e s m args below meth c A H locs ls E hK hA hW hl => k_X10_difference_0 E hK hA hf hW hl)

/-! PaperStorm$Sheet.hasFront(II)Z X10_hasFront -/
abbrev rm_X10_hasFront : Room := { frames := 1, cells := 0, slots := 0, locals := 23 }
theorem in_X10_hasFront_X10 : ∀ w ∈ wsX100, w ∈ wsX10_hasFront := by decide +kernel
theorem lk_X10_hasFront_15 : Cond.fieldLink RX10 15 "PaperStorm$Sheet" "threshold" "I" ∈ wsX10_hasFront := by decide +kernel
noncomputable def f_X10_hasFront (x_cells : Nat → Int32) (x_threshold : Int32) (a1 : Int32) (a2 : Int32) : Option (Int32) :=
  jo (fun (s0_18 : Int32) => if ¬ vp_nar .boolean s0_18 = s0_18 then none else some (s0_18)) (fun j18 => (f_X10_difference x_cells a1 a2).bind fun r3 => if r3 < x_threshold then j18 0 else j18 1)
abbrev G_X10_hasFront (p : Program) (l : Launch) (e : Env) (s : State) (m : MethodId) (args : Array Value) (below : List Frame) (meth : Method) (c : Code) (g : GE) (A : Nat → Prop) (h0 h1 : Nat) (x_cells : Nat → Int32) (x_threshold : Int32) (res : Int32) (H : Heap) (locs : List Loc) (pc : Nat) (ls : Array Slot) (st : List Value) : Prop := W p l e (headSpec wsX10_hasFront rm_X10_hasFront).room s m args below meth c H locs 0 0 (MQ below (PoI g A (w_X10 g h0 h1 x_cells x_threshold) res) args s 0 0 A) (F0 m pc ls st)
set_option maxHeartbeats 4000000 in
set_option maxRecDepth 100000 in
theorem k_X10_hasFront_0 {p : Program} {l : Launch} {e : Env} {s : State} {m : MethodId} {args : Array Value} {below : List Frame} {meth : Method} {c : Code} {g : GE} {A : Nat → Prop} {h0 h1 : Nat} {x_cells : Nat → Int32} {x_threshold : Int32} {res : Int32} {H : Heap} {locs : List Loc} {ls : Array Slot} {a1 : Int32} {a2 : Int32}
    (E : En cX10_hasFront RX10 wsX10_hasFront 3 (some .boolean) p s m args meth c) (hK : KK g s) (hA : ∀ q, s.heap.size ≤ q → A q) (h : f_X10_hasFront x_cells x_threshold a1 a2 = some res) (hW : Wo g A s H locs (w_X10 g h0 h1 x_cells x_threshold)) (hl : lv_has ls 3 [(0, .ref h0), (1, .int a1), (2, .int a2)]) : G_X10_hasFront p l e s m args below meth c g A h0 h1 x_cells x_threshold res H locs 0 ls [] := by
  have hts := E.2.2.2.1
  unfold f_X10_hasFront at h
  obtain ⟨j18, hj18, h⟩ := jox1 h
  have J18 : ∀ (s0_18 : Int32) (H : Heap) (locs : List Loc) (ls : Array Slot), j18 s0_18 = some res → Wo g A s H locs (w_X10 g h0 h1 x_cells x_threshold) → lv_has ls 3 [] → G_X10_hasFront p l e s m args below meth c g A h0 h1 x_cells x_threshold res H locs 18 ls [.int s0_18] := by
    intro s0_18 H locs ls h hW hl
    rw [hj18] at h
    obtain ⟨hz, h⟩ := ox h
    obtain rfl := Option.some.inj h
    exact endI E (nar_z (Decidable.not_not.mp hz)) hW dX10_hasFront_18
  refine lv_aload_n E.1 E.2.1 dX10_hasFront_0 rfl (lv_at hl 0 rfl) ?_
  refine lv_iload_n E.1 E.2.1 dX10_hasFront_1 rfl (lv_at hl 1 rfl) ?_
  refine lv_iload_n E.1 E.2.1 dX10_hasFront_2 rfl (lv_at hl 2 rfl) ?_
  obtain ⟨r3, hc, h⟩ := bx h
  refine goI (world' := (w_X10 g h0 h1 x_cells x_threshold)) hW hA (is := [0, 1]) rfl (goV (rest := []) E hK hW [0, 1] rfl rfl (c_X10_difference l g h0 h1 x_cells x_threshold a1 a2 (hf := hc) H.size) (cwV 2 hts gX10_hasFront_X10_difference rfl rfl rfl (by decide +kernel) ⟨Nat.le_of_ble_eq_true rfl, Nat.le_of_ble_eq_true rfl⟩) 0 rfl rfl rfl hl.1 rfl rfl (Nat.le_of_ble_eq_true rfl) dX10_hasFront_3 ⟨Nat.zero_le _, Nat.zero_le _⟩) rfl rfl (fun H locs hW => ?_)
  refine lv_aload_n E.1 E.2.1 dX10_hasFront_6 rfl (lv_at hl 0 rfl) ?_
  refine wGet (v := .int x_threshold) E hK in_X10_hasFront_X10 hW 1 lk_X10_hasFront_15 0 rfl rfl (by decide) rfl rfl dX10_hasFront_7 ?_
  refine lv_icmp_lt (tgt := 17) E.1 E.2.1 dX10_hasFront_10 (by decide) (fun c10 => ?_) (fun c10 => ?_)
  · have h := it c10 h
    refine lv_iconst (v := 0) E.1 E.2.1 dX10_hasFront_17 (by decide) ?_
    exact J18 0 H locs ls h hW (lv_sub hl [] rfl)
  · have h := ie c10 h
    refine lv_iconst (v := 1) E.1 E.2.1 dX10_hasFront_13 (by decide) ?_
    refine lv_goto (tgt := 18) E.1 E.2.1 dX10_hasFront_14 (by decide) ?_
    exact J18 1 H locs ls h hW (lv_sub hl [] rfl)
theorem c_X10_hasFront (l : Launch) (g : GE) (h0 h1 : Nat) (x_cells : Nat → Int32) (x_threshold : Int32) (a1 : Int32) (a2 : Int32) {res : Int32} (hf : f_X10_hasFront x_cells x_threshold a1 a2 = some res) : CI l yX10_hasFront wsX10_hasFront rm_X10_hasFront g [.ref h0, .int a1, .int a2] (w_X10 g h0 h1 x_cells x_threshold) (w_X10 g h0 h1 x_cells x_threshold) res :=
  mkI (cc := cX10_hasFront) (maxL := 3) (by decide) rfl (Nat.le_of_ble_eq_true rfl) (fun p e s m args below meth c A H locs ls E hK hA hW hl => k_X10_hasFront_0 E hK hA hf hW hl)

/-! PaperStorm$Sheet.countFronts()I X10_countFronts -/
abbrev rm_X10_countFronts : Room := { frames := 2, cells := 0, slots := 0, locals := 45 }
noncomputable def f_X10_countFronts_4 (x_cells : Nat → Int32) (x_threshold : Int32) (z58 : Int32 → Option (Int32)) : Nat → Int32 → Int32 → Option (Int32)
  | 0, _, _ => none
  | n + 1, l1_4, l2_4 => if 25 ≤ l2_4 then z58 l1_4 else jo (fun (l1_31 : Int32) => jo (fun (l1_52 : Int32) => f_X10_countFronts_4 x_cells x_threshold z58 n l1_52 (l2_4 + 1)) (fun j52 => (f_X10_hasLowerNeighbour l2_4).bind fun r32 => if r32 = 0 then j52 l1_31 else (f_X10_hasFront x_cells x_threshold l2_4 (l2_4 + 5)).bind fun r43 => if r43 = 0 then j52 l1_31 else j52 (l1_31 + 1))) (fun j31 => (f_X10_hasRightNeighbour l2_4).bind fun r11 => if r11 = 0 then j31 l1_4 else (f_X10_hasFront x_cells x_threshold l2_4 (l2_4 + 1)).bind fun r22 => if r22 = 0 then j31 l1_4 else j31 (l1_4 + 1))
noncomputable def f_X10_countFronts (x_cells : Nat → Int32) (x_threshold : Int32) : Option (Int32) :=
  f_X10_countFronts_4 x_cells x_threshold (fun l1_58e => some (l1_58e)) 1000 0 0
abbrev G_X10_countFronts (p : Program) (l : Launch) (e : Env) (s : State) (m : MethodId) (args : Array Value) (below : List Frame) (meth : Method) (c : Code) (g : GE) (A : Nat → Prop) (h0 h1 : Nat) (x_cells : Nat → Int32) (x_threshold : Int32) (res : Int32) (H : Heap) (locs : List Loc) (pc : Nat) (ls : Array Slot) (st : List Value) : Prop := W p l e (headSpec wsX10_countFronts rm_X10_countFronts).room s m args below meth c H locs 0 0 (MQ below (PoI g A (w_X10 g h0 h1 x_cells x_threshold) res) args s 0 0 A) (F0 m pc ls st)
set_option maxHeartbeats 4000000 in
set_option maxRecDepth 100000 in
theorem k_X10_countFronts_4 {p : Program} {l : Launch} {e : Env} {s : State} {m : MethodId} {args : Array Value} {below : List Frame} {meth : Method} {c : Code} {g : GE} {A : Nat → Prop} {h0 h1 : Nat} {x_cells : Nat → Int32} {x_threshold : Int32} {res : Int32} {z58 : Int32 → Option (Int32)}
    (E : En cX10_countFronts RX10 wsX10_countFronts 3 (some .int) p s m args meth c) (hK : KK g s) (hA : ∀ q, s.heap.size ≤ q → A q)
    (hz58 : ∀ (l1_58e : Int32) (H : Heap) (locs : List Loc) (ls : Array Slot), z58 l1_58e = some res → Wo g A s H locs (w_X10 g h0 h1 x_cells x_threshold) → lv_has ls 3 [(1, .int l1_58e)] → G_X10_countFronts p l e s m args below meth c g A h0 h1 x_cells x_threshold res H locs 58 ls [])
    : ∀ (n : Nat) (l1_4 : Int32) (l2_4 : Int32) (H : Heap) (locs : List Loc) (ls : Array Slot), f_X10_countFronts_4 x_cells x_threshold z58 n l1_4 l2_4 = some res → Wo g A s H locs (w_X10 g h0 h1 x_cells x_threshold) → lv_has ls 3 [(0, .ref h0), (1, .int l1_4), (2, .int l2_4)] → G_X10_countFronts p l e s m args below meth c g A h0 h1 x_cells x_threshold res H locs 4 ls [] := by
  have hts := E.2.2.2.1
  intro n
  induction n with
  | zero => intro l1_4 l2_4 H locs ls h hW hl; rw [f_X10_countFronts_4] at h; cases h
  | succ n ih =>
    intro l1_4 l2_4 H locs ls h hW hl
    rw [f_X10_countFronts_4] at h
    refine lv_iload_n E.1 E.2.1 dX10_countFronts_4 rfl (lv_at hl 2 rfl) ?_
    refine lv_bipush (v := 25) E.1 E.2.1 dX10_countFronts_5 (by decide) ?_
    refine lv_icmp_ge (tgt := 58) E.1 E.2.1 dX10_countFronts_7 (by decide) (fun c7 => ?_) (fun c7 => ?_)
    · have h := it c7 h
      exact hz58 l1_4 H locs ls h hW (lv_sub hl [1] rfl)
    · have h := ie c7 h
      obtain ⟨j31, hj31, h⟩ := jox1 h
      have J31 : ∀ (l1_31 : Int32) (H : Heap) (locs : List Loc) (ls : Array Slot), j31 l1_31 = some res → Wo g A s H locs (w_X10 g h0 h1 x_cells x_threshold) → lv_has ls 3 [(0, .ref h0), (1, .int l1_31), (2, .int l2_4)] → G_X10_countFronts p l e s m args below meth c g A h0 h1 x_cells x_threshold res H locs 31 ls [] := by
        intro l1_31 H locs ls h hW hl
        rw [hj31] at h
        obtain ⟨j52, hj52, h⟩ := jox1 h
        have J52 : ∀ (l1_52 : Int32) (H : Heap) (locs : List Loc) (ls : Array Slot), j52 l1_52 = some res → Wo g A s H locs (w_X10 g h0 h1 x_cells x_threshold) → lv_has ls 3 [(0, .ref h0), (1, .int l1_52), (2, .int l2_4)] → G_X10_countFronts p l e s m args below meth c g A h0 h1 x_cells x_threshold res H locs 52 ls [] := by
          intro l1_52 H locs ls h hW hl
          rw [hj52] at h
          refine lv_iinc (v := (l2_4 + 1)) (lv' := [(2, .int (l2_4 + 1)), (0, .ref h0), (1, .int l1_52)]) E.1 E.2.1 dX10_countFronts_52 hl (k := 2) rfl rfl (by decide) rfl (fun ls hl => ?_)
          refine lv_goto (tgt := 4) E.1 E.2.1 dX10_countFronts_55 (by decide) ?_
          exact ih l1_52 (l2_4 + 1) H locs ls h hW (lv_sub hl [1, 2, 0] rfl)
        refine lv_iload_n E.1 E.2.1 dX10_countFronts_31 rfl (lv_at hl 2 rfl) ?_
        obtain ⟨r32, hc, h⟩ := bx h
        refine goI (world' := (w_X10 g h0 h1 x_cells x_threshold)) hW hA (is := []) rfl (goS (rest := []) E hK hW [] rfl rfl (c_X10_hasLowerNeighbour l g l2_4 (hf := hc) H.size) (va_cwS 1 hts gX10_countFronts_X10_hasLowerNeighbour rfl rfl rfl (by decide +kernel) ⟨Nat.le_of_ble_eq_true rfl, Nat.le_of_ble_eq_true rfl⟩) hl.1 rfl rfl (Nat.le_of_ble_eq_true rfl) dX10_countFronts_32 ⟨Nat.zero_le _, Nat.zero_le _⟩) rfl rfl (fun H locs hW => ?_)
        refine lv_if_eq (tgt := 52) E.1 E.2.1 dX10_countFronts_35 (by decide) (fun c35 => ?_) (fun c35 => ?_)
        · have h := it c35 h
          exact J52 l1_31 H locs ls h hW (lv_sub hl [0, 1, 2] rfl)
        · have h := ie c35 h
          refine lv_aload_n E.1 E.2.1 dX10_countFronts_38 rfl (lv_at hl 0 rfl) ?_
          refine lv_iload_n E.1 E.2.1 dX10_countFronts_39 rfl (lv_at hl 2 rfl) ?_
          refine lv_iload_n E.1 E.2.1 dX10_countFronts_40 rfl (lv_at hl 2 rfl) ?_
          refine lv_iconst (v := 5) E.1 E.2.1 dX10_countFronts_41 (by decide) ?_
          refine lv_iadd E.1 E.2.1 dX10_countFronts_42 ?_
          obtain ⟨r43, hc, h⟩ := bx h
          refine goI (world' := (w_X10 g h0 h1 x_cells x_threshold)) hW hA (is := [0, 1]) rfl (goV (rest := []) E hK hW [0, 1] rfl rfl (c_X10_hasFront l g h0 h1 x_cells x_threshold l2_4 (l2_4 + 5) (hf := hc) H.size) (cwV 2 hts gX10_countFronts_X10_hasFront rfl rfl rfl (by decide +kernel) ⟨Nat.le_of_ble_eq_true rfl, Nat.le_of_ble_eq_true rfl⟩) 0 rfl rfl rfl hl.1 rfl rfl (Nat.le_of_ble_eq_true rfl) dX10_countFronts_43 ⟨Nat.zero_le _, Nat.zero_le _⟩) rfl rfl (fun H locs hW => ?_)
          refine lv_if_eq (tgt := 52) E.1 E.2.1 dX10_countFronts_46 (by decide) (fun c46 => ?_) (fun c46 => ?_)
          · have h := it c46 h
            exact J52 l1_31 H locs ls h hW (lv_sub hl [0, 1, 2] rfl)
          · have h := ie c46 h
            refine lv_iinc (v := (l1_31 + 1)) (lv' := [(1, .int (l1_31 + 1)), (0, .ref h0), (2, .int l2_4)]) E.1 E.2.1 dX10_countFronts_49 hl (k := 1) rfl rfl (by decide) rfl (fun ls hl => ?_)
            exact J52 (l1_31 + 1) H locs ls h hW (lv_sub hl [1, 0, 2] rfl)
      refine lv_iload_n E.1 E.2.1 dX10_countFronts_10 rfl (lv_at hl 2 rfl) ?_
      obtain ⟨r11, hc, h⟩ := bx h
      refine goI (world' := (w_X10 g h0 h1 x_cells x_threshold)) hW hA (is := []) rfl (goS (rest := []) E hK hW [] rfl rfl (c_X10_hasRightNeighbour l g l2_4 (hf := hc) H.size) (va_cwS 1 hts gX10_countFronts_X10_hasRightNeighbour rfl rfl rfl (by decide +kernel) ⟨Nat.le_of_ble_eq_true rfl, Nat.le_of_ble_eq_true rfl⟩) hl.1 rfl rfl (Nat.le_of_ble_eq_true rfl) dX10_countFronts_11 ⟨Nat.zero_le _, Nat.zero_le _⟩) rfl rfl (fun H locs hW => ?_)
      refine lv_if_eq (tgt := 31) E.1 E.2.1 dX10_countFronts_14 (by decide) (fun c14 => ?_) (fun c14 => ?_)
      · have h := it c14 h
        exact J31 l1_4 H locs ls h hW (lv_sub hl [0, 1, 2] rfl)
      · have h := ie c14 h
        refine lv_aload_n E.1 E.2.1 dX10_countFronts_17 rfl (lv_at hl 0 rfl) ?_
        refine lv_iload_n E.1 E.2.1 dX10_countFronts_18 rfl (lv_at hl 2 rfl) ?_
        refine lv_iload_n E.1 E.2.1 dX10_countFronts_19 rfl (lv_at hl 2 rfl) ?_
        refine lv_iconst (v := 1) E.1 E.2.1 dX10_countFronts_20 (by decide) ?_
        refine lv_iadd E.1 E.2.1 dX10_countFronts_21 ?_
        obtain ⟨r22, hc, h⟩ := bx h
        refine goI (world' := (w_X10 g h0 h1 x_cells x_threshold)) hW hA (is := [0, 1]) rfl (goV (rest := []) E hK hW [0, 1] rfl rfl (c_X10_hasFront l g h0 h1 x_cells x_threshold l2_4 (l2_4 + 1) (hf := hc) H.size) (cwV 2 hts gX10_countFronts_X10_hasFront rfl rfl rfl (by decide +kernel) ⟨Nat.le_of_ble_eq_true rfl, Nat.le_of_ble_eq_true rfl⟩) 0 rfl rfl rfl hl.1 rfl rfl (Nat.le_of_ble_eq_true rfl) dX10_countFronts_22 ⟨Nat.zero_le _, Nat.zero_le _⟩) rfl rfl (fun H locs hW => ?_)
        refine lv_if_eq (tgt := 31) E.1 E.2.1 dX10_countFronts_25 (by decide) (fun c25 => ?_) (fun c25 => ?_)
        · have h := it c25 h
          exact J31 l1_4 H locs ls h hW (lv_sub hl [0, 1, 2] rfl)
        · have h := ie c25 h
          refine lv_iinc (v := (l1_4 + 1)) (lv' := [(1, .int (l1_4 + 1)), (0, .ref h0), (2, .int l2_4)]) E.1 E.2.1 dX10_countFronts_28 hl (k := 1) rfl rfl (by decide) rfl (fun ls hl => ?_)
          exact J31 (l1_4 + 1) H locs ls h hW (lv_sub hl [1, 0, 2] rfl)
set_option maxHeartbeats 4000000 in
set_option maxRecDepth 100000 in
theorem k_X10_countFronts_0 {p : Program} {l : Launch} {e : Env} {s : State} {m : MethodId} {args : Array Value} {below : List Frame} {meth : Method} {c : Code} {g : GE} {A : Nat → Prop} {h0 h1 : Nat} {x_cells : Nat → Int32} {x_threshold : Int32} {res : Int32} {H : Heap} {locs : List Loc} {ls : Array Slot} 
    (E : En cX10_countFronts RX10 wsX10_countFronts 3 (some .int) p s m args meth c) (hK : KK g s) (hA : ∀ q, s.heap.size ≤ q → A q) (h : f_X10_countFronts x_cells x_threshold = some res) (hW : Wo g A s H locs (w_X10 g h0 h1 x_cells x_threshold)) (hl : lv_has ls 3 [(0, .ref h0)]) : G_X10_countFronts p l e s m args below meth c g A h0 h1 x_cells x_threshold res H locs 0 ls [] := by
  have hts := E.2.2.2.1
  unfold f_X10_countFronts at h
  refine lv_iconst (v := 0) E.1 E.2.1 dX10_countFronts_0 (by decide) ?_
  refine lv_istore_n (lv' := [(1, .int 0), (0, .ref h0)]) E.1 E.2.1 dX10_countFronts_1 rfl hl (by decide) rfl (fun ls hl => ?_)
  refine lv_iconst (v := 0) E.1 E.2.1 dX10_countFronts_2 (by decide) ?_
  refine lv_istore_n (lv' := [(2, .int 0), (1, .int 0), (0, .ref h0)]) E.1 E.2.1 dX10_countFronts_3 rfl hl (by decide) rfl (fun ls hl => ?_)
  refine k_X10_countFronts_4 E hK hA ?_ 1000 0 0 H locs ls h hW (lv_sub hl [2, 1, 0] rfl)
  · intro l1_58e H locs ls h hW hl
    refine lv_iload_n E.1 E.2.1 dX10_countFronts_58 rfl (lv_at hl 0 rfl) ?_
    obtain rfl := Option.some.inj h
    exact endI E rfl hW dX10_countFronts_59
theorem c_X10_countFronts (l : Launch) (g : GE) (h0 h1 : Nat) (x_cells : Nat → Int32) (x_threshold : Int32) {res : Int32} (hf : f_X10_countFronts x_cells x_threshold = some res) : CI l yX10_countFronts wsX10_countFronts rm_X10_countFronts g [.ref h0] (w_X10 g h0 h1 x_cells x_threshold) (w_X10 g h0 h1 x_cells x_threshold) res :=
  mkI (cc := cX10_countFronts) (maxL := 3) (by decide) rfl (Nat.le_of_ble_eq_true rfl) (fun p e s m args below meth c A H locs ls E hK hA hW hl => k_X10_countFronts_0 E hK hA hf hW hl)

/-! PaperStorm$Sheet.greatestStep()I X10_greatestStep -/
abbrev rm_X10_greatestStep : Room := { frames := 1, cells := 0, slots := 0, locals := 23 }
theorem lk_X10_greatestStep_50a : Cond.methodLink RX10 50 Lib.Math.max.name ∈ wsX10_greatestStep := by decide +kernel
theorem lk_X10_greatestStep_50b : Cond.static Lib.Math.max.name ∈ wsX10_greatestStep := by decide +kernel
theorem lk_X10_greatestStep_50c : Cond.initialized "java/lang/Math" ∈ wsX10_greatestStep := by decide +kernel
theorem lk_X10_greatestStep_50d : Cond.code Lib.Math.max.name Lib.Math.max.code 2 (some .int) ∈ wsX10_greatestStep := by decide +kernel
noncomputable def f_X10_greatestStep_4 (x_cells : Nat → Int32) (z56 : Int32 → Option (Int32)) : Nat → Int32 → Int32 → Option (Int32)
  | 0, _, _ => none
  | n + 1, l1_4, l2_4 => if 25 ≤ l2_4 then z56 l1_4 else jo (fun (l1_30 : Int32) => jo (fun (l1_50 : Int32) => f_X10_greatestStep_4 x_cells z56 n l1_50 (l2_4 + 1)) (fun j50 => (f_X10_hasLowerNeighbour l2_4).bind fun r31 => if r31 = 0 then j50 l1_30 else (f_X10_difference x_cells l2_4 (l2_4 + 5)).bind fun r43 => j50 (if l1_30 < r43 then r43 else l1_30))) (fun j30 => (f_X10_hasRightNeighbour l2_4).bind fun r11 => if r11 = 0 then j30 l1_4 else (f_X10_difference x_cells l2_4 (l2_4 + 1)).bind fun r23 => j30 (if l1_4 < r23 then r23 else l1_4))
noncomputable def f_X10_greatestStep (x_cells : Nat → Int32) : Option (Int32) :=
  f_X10_greatestStep_4 x_cells (fun l1_56e => some (l1_56e)) 1000 0 0
abbrev G_X10_greatestStep (p : Program) (l : Launch) (e : Env) (s : State) (m : MethodId) (args : Array Value) (below : List Frame) (meth : Method) (c : Code) (g : GE) (A : Nat → Prop) (h0 h1 : Nat) (x_cells : Nat → Int32) (x_threshold : Int32) (res : Int32) (H : Heap) (locs : List Loc) (pc : Nat) (ls : Array Slot) (st : List Value) : Prop := W p l e (headSpec wsX10_greatestStep rm_X10_greatestStep).room s m args below meth c H locs 0 0 (MQ below (PoI g A (w_X10 g h0 h1 x_cells x_threshold) res) args s 0 0 A) (F0 m pc ls st)
set_option maxHeartbeats 4000000 in
set_option maxRecDepth 100000 in
theorem k_X10_greatestStep_4 {p : Program} {l : Launch} {e : Env} {s : State} {m : MethodId} {args : Array Value} {below : List Frame} {meth : Method} {c : Code} {g : GE} {A : Nat → Prop} {h0 h1 : Nat} {x_cells : Nat → Int32} {x_threshold : Int32} {res : Int32} {z56 : Int32 → Option (Int32)}
    (E : En cX10_greatestStep RX10 wsX10_greatestStep 3 (some .int) p s m args meth c) (hK : KK g s) (hA : ∀ q, s.heap.size ≤ q → A q)
    (hz56 : ∀ (l1_56e : Int32) (H : Heap) (locs : List Loc) (ls : Array Slot), z56 l1_56e = some res → Wo g A s H locs (w_X10 g h0 h1 x_cells x_threshold) → lv_has ls 3 [(1, .int l1_56e)] → G_X10_greatestStep p l e s m args below meth c g A h0 h1 x_cells x_threshold res H locs 56 ls [])
    : ∀ (n : Nat) (l1_4 : Int32) (l2_4 : Int32) (H : Heap) (locs : List Loc) (ls : Array Slot), f_X10_greatestStep_4 x_cells z56 n l1_4 l2_4 = some res → Wo g A s H locs (w_X10 g h0 h1 x_cells x_threshold) → lv_has ls 3 [(0, .ref h0), (1, .int l1_4), (2, .int l2_4)] → G_X10_greatestStep p l e s m args below meth c g A h0 h1 x_cells x_threshold res H locs 4 ls [] := by
  have hts := E.2.2.2.1
  intro n
  induction n with
  | zero => intro l1_4 l2_4 H locs ls h hW hl; rw [f_X10_greatestStep_4] at h; cases h
  | succ n ih =>
    intro l1_4 l2_4 H locs ls h hW hl
    rw [f_X10_greatestStep_4] at h
    refine lv_iload_n E.1 E.2.1 dX10_greatestStep_4 rfl (lv_at hl 2 rfl) ?_
    refine lv_bipush (v := 25) E.1 E.2.1 dX10_greatestStep_5 (by decide) ?_
    refine lv_icmp_ge (tgt := 56) E.1 E.2.1 dX10_greatestStep_7 (by decide) (fun c7 => ?_) (fun c7 => ?_)
    · have h := it c7 h
      exact hz56 l1_4 H locs ls h hW (lv_sub hl [1] rfl)
    · have h := ie c7 h
      obtain ⟨j30, hj30, h⟩ := jox1 h
      have J30 : ∀ (l1_30 : Int32) (H : Heap) (locs : List Loc) (ls : Array Slot), j30 l1_30 = some res → Wo g A s H locs (w_X10 g h0 h1 x_cells x_threshold) → lv_has ls 3 [(0, .ref h0), (1, .int l1_30), (2, .int l2_4)] → G_X10_greatestStep p l e s m args below meth c g A h0 h1 x_cells x_threshold res H locs 30 ls [] := by
        intro l1_30 H locs ls h hW hl
        rw [hj30] at h
        obtain ⟨j50, hj50, h⟩ := jox1 h
        have J50 : ∀ (l1_50 : Int32) (H : Heap) (locs : List Loc) (ls : Array Slot), j50 l1_50 = some res → Wo g A s H locs (w_X10 g h0 h1 x_cells x_threshold) → lv_has ls 3 [(0, .ref h0), (1, .int l1_50), (2, .int l2_4)] → G_X10_greatestStep p l e s m args below meth c g A h0 h1 x_cells x_threshold res H locs 50 ls [] := by
          intro l1_50 H locs ls h hW hl
          rw [hj50] at h
          refine lv_iinc (v := (l2_4 + 1)) (lv' := [(2, .int (l2_4 + 1)), (0, .ref h0), (1, .int l1_50)]) E.1 E.2.1 dX10_greatestStep_50 hl (k := 2) rfl rfl (by decide) rfl (fun ls hl => ?_)
          refine lv_goto (tgt := 4) E.1 E.2.1 dX10_greatestStep_53 (by decide) ?_
          exact ih l1_50 (l2_4 + 1) H locs ls h hW (lv_sub hl [1, 2, 0] rfl)
        refine lv_iload_n E.1 E.2.1 dX10_greatestStep_30 rfl (lv_at hl 2 rfl) ?_
        obtain ⟨r31, hc, h⟩ := bx h
        refine goI (world' := (w_X10 g h0 h1 x_cells x_threshold)) hW hA (is := []) rfl (goS (rest := []) E hK hW [] rfl rfl (c_X10_hasLowerNeighbour l g l2_4 (hf := hc) H.size) (va_cwS 1 hts gX10_greatestStep_X10_hasLowerNeighbour rfl rfl rfl (by decide +kernel) ⟨Nat.le_of_ble_eq_true rfl, Nat.le_of_ble_eq_true rfl⟩) hl.1 rfl rfl (Nat.le_of_ble_eq_true rfl) dX10_greatestStep_31 ⟨Nat.zero_le _, Nat.zero_le _⟩) rfl rfl (fun H locs hW => ?_)
        refine lv_if_eq (tgt := 50) E.1 E.2.1 dX10_greatestStep_34 (by decide) (fun c34 => ?_) (fun c34 => ?_)
        · have h := it c34 h
          exact J50 l1_30 H locs ls h hW (lv_sub hl [0, 1, 2] rfl)
        · have h := ie c34 h
          refine lv_iload_n E.1 E.2.1 dX10_greatestStep_37 rfl (lv_at hl 1 rfl) ?_
          refine lv_aload_n E.1 E.2.1 dX10_greatestStep_38 rfl (lv_at hl 0 rfl) ?_
          refine lv_iload_n E.1 E.2.1 dX10_greatestStep_39 rfl (lv_at hl 2 rfl) ?_
          refine lv_iload_n E.1 E.2.1 dX10_greatestStep_40 rfl (lv_at hl 2 rfl) ?_
          refine lv_iconst (v := 5) E.1 E.2.1 dX10_greatestStep_41 (by decide) ?_
          refine lv_iadd E.1 E.2.1 dX10_greatestStep_42 ?_
          obtain ⟨r43, hc, h⟩ := bx h
          refine goI (world' := (w_X10 g h0 h1 x_cells x_threshold)) hW hA (is := [0, 1]) rfl (goV (rest := [.int l1_30]) E hK hW [0, 1] rfl rfl (c_X10_difference l g h0 h1 x_cells x_threshold l2_4 (l2_4 + 5) (hf := hc) H.size) (cwV 2 hts gX10_greatestStep_X10_difference rfl rfl rfl (by decide +kernel) ⟨Nat.le_of_ble_eq_true rfl, Nat.le_of_ble_eq_true rfl⟩) 0 rfl rfl rfl hl.1 rfl rfl (Nat.le_of_ble_eq_true rfl) dX10_greatestStep_43 ⟨Nat.zero_le _, Nat.zero_le _⟩) rfl rfl (fun H locs hW => ?_)
          refine va_mmax E.1 E.2.1 (E.2.2.2.2.2.2.trans hl.1.symm) E.2.2.2.2.1 (hts _ lk_X10_greatestStep_50a) (hts _ lk_X10_greatestStep_50b) (hts _ lk_X10_greatestStep_50c) (hts _ lk_X10_greatestStep_50d) (Nat.le_of_ble_eq_true rfl) (Nat.le_of_ble_eq_true rfl) (Nat.zero_le _) (Nat.zero_le _) dX10_greatestStep_46 ?_
          refine lv_istore_n (lv' := [(1, .int (if l1_30 < r43 then r43 else l1_30)), (0, .ref h0), (2, .int l2_4)]) E.1 E.2.1 dX10_greatestStep_49 rfl hl (by decide) rfl (fun ls hl => ?_)
          exact J50 (if l1_30 < r43 then r43 else l1_30) H locs ls h hW (lv_sub hl [1, 0, 2] rfl)
      refine lv_iload_n E.1 E.2.1 dX10_greatestStep_10 rfl (lv_at hl 2 rfl) ?_
      obtain ⟨r11, hc, h⟩ := bx h
      refine goI (world' := (w_X10 g h0 h1 x_cells x_threshold)) hW hA (is := []) rfl (goS (rest := []) E hK hW [] rfl rfl (c_X10_hasRightNeighbour l g l2_4 (hf := hc) H.size) (va_cwS 1 hts gX10_greatestStep_X10_hasRightNeighbour rfl rfl rfl (by decide +kernel) ⟨Nat.le_of_ble_eq_true rfl, Nat.le_of_ble_eq_true rfl⟩) hl.1 rfl rfl (Nat.le_of_ble_eq_true rfl) dX10_greatestStep_11 ⟨Nat.zero_le _, Nat.zero_le _⟩) rfl rfl (fun H locs hW => ?_)
      refine lv_if_eq (tgt := 30) E.1 E.2.1 dX10_greatestStep_14 (by decide) (fun c14 => ?_) (fun c14 => ?_)
      · have h := it c14 h
        exact J30 l1_4 H locs ls h hW (lv_sub hl [0, 1, 2] rfl)
      · have h := ie c14 h
        refine lv_iload_n E.1 E.2.1 dX10_greatestStep_17 rfl (lv_at hl 1 rfl) ?_
        refine lv_aload_n E.1 E.2.1 dX10_greatestStep_18 rfl (lv_at hl 0 rfl) ?_
        refine lv_iload_n E.1 E.2.1 dX10_greatestStep_19 rfl (lv_at hl 2 rfl) ?_
        refine lv_iload_n E.1 E.2.1 dX10_greatestStep_20 rfl (lv_at hl 2 rfl) ?_
        refine lv_iconst (v := 1) E.1 E.2.1 dX10_greatestStep_21 (by decide) ?_
        refine lv_iadd E.1 E.2.1 dX10_greatestStep_22 ?_
        obtain ⟨r23, hc, h⟩ := bx h
        refine goI (world' := (w_X10 g h0 h1 x_cells x_threshold)) hW hA (is := [0, 1]) rfl (goV (rest := [.int l1_4]) E hK hW [0, 1] rfl rfl (c_X10_difference l g h0 h1 x_cells x_threshold l2_4 (l2_4 + 1) (hf := hc) H.size) (cwV 2 hts gX10_greatestStep_X10_difference rfl rfl rfl (by decide +kernel) ⟨Nat.le_of_ble_eq_true rfl, Nat.le_of_ble_eq_true rfl⟩) 0 rfl rfl rfl hl.1 rfl rfl (Nat.le_of_ble_eq_true rfl) dX10_greatestStep_23 ⟨Nat.zero_le _, Nat.zero_le _⟩) rfl rfl (fun H locs hW => ?_)
        refine va_mmax E.1 E.2.1 (E.2.2.2.2.2.2.trans hl.1.symm) E.2.2.2.2.1 (hts _ lk_X10_greatestStep_50a) (hts _ lk_X10_greatestStep_50b) (hts _ lk_X10_greatestStep_50c) (hts _ lk_X10_greatestStep_50d) (Nat.le_of_ble_eq_true rfl) (Nat.le_of_ble_eq_true rfl) (Nat.zero_le _) (Nat.zero_le _) dX10_greatestStep_26 ?_
        refine lv_istore_n (lv' := [(1, .int (if l1_4 < r23 then r23 else l1_4)), (0, .ref h0), (2, .int l2_4)]) E.1 E.2.1 dX10_greatestStep_29 rfl hl (by decide) rfl (fun ls hl => ?_)
        exact J30 (if l1_4 < r23 then r23 else l1_4) H locs ls h hW (lv_sub hl [1, 0, 2] rfl)
set_option maxHeartbeats 4000000 in
set_option maxRecDepth 100000 in
theorem k_X10_greatestStep_0 {p : Program} {l : Launch} {e : Env} {s : State} {m : MethodId} {args : Array Value} {below : List Frame} {meth : Method} {c : Code} {g : GE} {A : Nat → Prop} {h0 h1 : Nat} {x_cells : Nat → Int32} {x_threshold : Int32} {res : Int32} {H : Heap} {locs : List Loc} {ls : Array Slot} 
    (E : En cX10_greatestStep RX10 wsX10_greatestStep 3 (some .int) p s m args meth c) (hK : KK g s) (hA : ∀ q, s.heap.size ≤ q → A q) (h : f_X10_greatestStep x_cells = some res) (hW : Wo g A s H locs (w_X10 g h0 h1 x_cells x_threshold)) (hl : lv_has ls 3 [(0, .ref h0)]) : G_X10_greatestStep p l e s m args below meth c g A h0 h1 x_cells x_threshold res H locs 0 ls [] := by
  have hts := E.2.2.2.1
  unfold f_X10_greatestStep at h
  refine lv_iconst (v := 0) E.1 E.2.1 dX10_greatestStep_0 (by decide) ?_
  refine lv_istore_n (lv' := [(1, .int 0), (0, .ref h0)]) E.1 E.2.1 dX10_greatestStep_1 rfl hl (by decide) rfl (fun ls hl => ?_)
  refine lv_iconst (v := 0) E.1 E.2.1 dX10_greatestStep_2 (by decide) ?_
  refine lv_istore_n (lv' := [(2, .int 0), (1, .int 0), (0, .ref h0)]) E.1 E.2.1 dX10_greatestStep_3 rfl hl (by decide) rfl (fun ls hl => ?_)
  refine k_X10_greatestStep_4 E hK hA ?_ 1000 0 0 H locs ls h hW (lv_sub hl [2, 1, 0] rfl)
  · intro l1_56e H locs ls h hW hl
    refine lv_iload_n E.1 E.2.1 dX10_greatestStep_56 rfl (lv_at hl 0 rfl) ?_
    obtain rfl := Option.some.inj h
    exact endI E rfl hW dX10_greatestStep_57
theorem c_X10_greatestStep (l : Launch) (g : GE) (h0 h1 : Nat) (x_cells : Nat → Int32) (x_threshold : Int32) {res : Int32} (hf : f_X10_greatestStep x_cells = some res) : CI l yX10_greatestStep wsX10_greatestStep rm_X10_greatestStep g [.ref h0] (w_X10 g h0 h1 x_cells x_threshold) (w_X10 g h0 h1 x_cells x_threshold) res :=
  mkI (cc := cX10_greatestStep) (maxL := 3) (by decide) rfl (Nat.le_of_ble_eq_true rfl) (fun p e s m args below meth c A H locs ls E hK hA hW hl => k_X10_greatestStep_0 E hK hA hf hW hl)

