/-! PaperStorm$Forecasts.copyFrom(LPaperStorm$Forecasts;)V X4_copyFrom -/
abbrev rm_X4_copyFrom : Room := { frames := 0, cells := 0, slots := 0, locals := 0 }
theorem in_X4_copyFrom_X4 : ∀ w ∈ wsX40, w ∈ wsX4_copyFrom := by decide +kernel
theorem lk_X4_copyFrom_15 : Cond.fieldLink RX4 15 "PaperStorm$Forecasts" "weathers" "[I" ∈ wsX4_copyFrom := by decide +kernel
theorem lk_X4_copyFrom_18 : Cond.fieldLink RX4 18 "PaperStorm$Forecasts" "count" "I" ∈ wsX4_copyFrom := by decide +kernel
theorem lk_X4_copyFrom_22 : Cond.fieldLink RX4 22 "PaperStorm$Forecasts" "scored" "I" ∈ wsX4_copyFrom := by decide +kernel
theorem lk_X4_copyFrom_25 : Cond.fieldLink RX4 25 "PaperStorm$Forecasts" "errors" "I" ∈ wsX4_copyFrom := by decide +kernel
theorem lk_X4_copyFrom_28 : Cond.fieldLink RX4 28 "PaperStorm$Forecasts" "hits" "I" ∈ wsX4_copyFrom := by decide +kernel
theorem lk_X4_copyFrom_9 : Cond.fieldLink RX4 9 "PaperStorm$Forecasts" "days" "[I" ∈ wsX4_copyFrom := by decide +kernel
noncomputable def f_X4_copyFrom_2 (x_a1_days : Nat → Int32) (x_a1_weathers : Nat → Int32) (z38 : (Nat → Int32) → (Nat → Int32) → Option ((Nat → Int32) × (Nat → Int32) × Int32 × Int32 × Int32 × Int32)) : Nat → Int32 → (Nat → Int32) → (Nat → Int32) → Option ((Nat → Int32) × (Nat → Int32) × Int32 × Int32 × Int32 × Int32)
  | 0, _, _, _ => none
  | n + 1, l2_2, x_days_2, x_weathers_2 => if 6 ≤ l2_2 then z38 x_days_2 x_weathers_2 else if l2_2 < 0 ∨ 6 ≤ l2_2.toNatClampNeg then none else f_X4_copyFrom_2 x_a1_days x_a1_weathers z38 n (l2_2 + 1) (upd x_days_2 l2_2.toNatClampNeg (x_a1_days l2_2.toNatClampNeg)) (upd x_weathers_2 l2_2.toNatClampNeg (x_a1_weathers l2_2.toNatClampNeg))
noncomputable def f_X4_copyFrom (x_days : Nat → Int32) (x_weathers : Nat → Int32) (x_count : Int32) (x_scored : Int32) (x_errors : Int32) (x_hits : Int32) (x_a1_days : Nat → Int32) (x_a1_weathers : Nat → Int32) (x_a1_count : Int32) (x_a1_scored : Int32) (x_a1_errors : Int32) (x_a1_hits : Int32) : Option ((Nat → Int32) × (Nat → Int32) × Int32 × Int32 × Int32 × Int32) :=
  f_X4_copyFrom_2 x_a1_days x_a1_weathers (fun x_days_38e x_weathers_38e => some (x_days_38e, x_weathers_38e, x_a1_count, x_a1_scored, x_a1_errors, x_a1_hits)) 1000 0 x_days x_weathers
abbrev G_X4_copyFrom (p : Program) (l : Launch) (e : Env) (s : State) (m : MethodId) (args : Array Value) (below : List Frame) (meth : Method) (c : Code) (g : GE) (A : Nat → Prop) (h0 h1 h2 h3 h4 h5 : Nat) (x_a1_days : Nat → Int32) (x_a1_weathers : Nat → Int32) (x_a1_count : Int32) (x_a1_scored : Int32) (x_a1_errors : Int32) (x_a1_hits : Int32) (res : (Nat → Int32) × (Nat → Int32) × Int32 × Int32 × Int32 × Int32) (H : Heap) (locs : List Loc) (pc : Nat) (ls : Array Slot) (st : List Value) : Prop := W p l e (headSpec wsX4_copyFrom rm_X4_copyFrom).room s m args below meth c H locs 0 0 (MQ below (PoV g A ((w_X4 g h0 h1 h2 res.1 res.2.1 res.2.2.1 res.2.2.2.1 res.2.2.2.2.1 res.2.2.2.2.2) ++ (w_X4 g h3 h4 h5 x_a1_days x_a1_weathers x_a1_count x_a1_scored x_a1_errors x_a1_hits))) args s 0 0 A) (F0 m pc ls st)
set_option maxHeartbeats 4000000 in
set_option maxRecDepth 100000 in
theorem k_X4_copyFrom_2 {p : Program} {l : Launch} {e : Env} {s : State} {m : MethodId} {args : Array Value} {below : List Frame} {meth : Method} {c : Code} {g : GE} {A : Nat → Prop} {h0 h1 h2 h3 h4 h5 : Nat} {x_count : Int32} {x_scored : Int32} {x_errors : Int32} {x_hits : Int32} {x_a1_days : Nat → Int32} {x_a1_weathers : Nat → Int32} {x_a1_count : Int32} {x_a1_scored : Int32} {x_a1_errors : Int32} {x_a1_hits : Int32} {res : (Nat → Int32) × (Nat → Int32) × Int32 × Int32 × Int32 × Int32} {z38 : (Nat → Int32) → (Nat → Int32) → Option ((Nat → Int32) × (Nat → Int32) × Int32 × Int32 × Int32 × Int32)}
    (E : En cX4_copyFrom RX4 wsX4_copyFrom 3 none p s m args meth c) (hK : KK g s) (hA : ∀ q, s.heap.size ≤ q → A q)
    (hz38 : ∀ (x_days_38e : Nat → Int32) (x_weathers_38e : Nat → Int32) (H : Heap) (locs : List Loc) (ls : Array Slot), z38 x_days_38e x_weathers_38e = some res → Wo g A s H locs ((w_X4 g h0 h1 h2 x_days_38e x_weathers_38e x_count x_scored x_errors x_hits) ++ (w_X4 g h3 h4 h5 x_a1_days x_a1_weathers x_a1_count x_a1_scored x_a1_errors x_a1_hits)) → lv_has ls 3 [(0, .ref h0), (1, .ref h3)] → G_X4_copyFrom p l e s m args below meth c g A h0 h1 h2 h3 h4 h5 x_a1_days x_a1_weathers x_a1_count x_a1_scored x_a1_errors x_a1_hits res H locs 38 ls [])
    : ∀ (n : Nat) (l2_2 : Int32) (x_days_2 : Nat → Int32) (x_weathers_2 : Nat → Int32) (H : Heap) (locs : List Loc) (ls : Array Slot), f_X4_copyFrom_2 x_a1_days x_a1_weathers z38 n l2_2 x_days_2 x_weathers_2 = some res → Wo g A s H locs ((w_X4 g h0 h1 h2 x_days_2 x_weathers_2 x_count x_scored x_errors x_hits) ++ (w_X4 g h3 h4 h5 x_a1_days x_a1_weathers x_a1_count x_a1_scored x_a1_errors x_a1_hits)) → lv_has ls 3 [(0, .ref h0), (1, .ref h3), (2, .int l2_2)] → G_X4_copyFrom p l e s m args below meth c g A h0 h1 h2 h3 h4 h5 x_a1_days x_a1_weathers x_a1_count x_a1_scored x_a1_errors x_a1_hits res H locs 2 ls [] := by
  have hts := E.2.2.2.1
  intro n
  induction n with
  | zero => intro l2_2 x_days_2 x_weathers_2 H locs ls h hW hl; rw [f_X4_copyFrom_2] at h; cases h
  | succ n ih =>
    intro l2_2 x_days_2 x_weathers_2 H locs ls h hW hl
    rw [f_X4_copyFrom_2] at h
    refine lv_iload_n E.1 E.2.1 dX4_copyFrom_2 rfl (lv_at hl 2 rfl) ?_
    refine lv_bipush (v := 6) E.1 E.2.1 dX4_copyFrom_3 (by decide) ?_
    refine lv_icmp_ge (tgt := 38) E.1 E.2.1 dX4_copyFrom_5 (by decide) (fun c5 => ?_) (fun c5 => ?_)
    · have h := it c5 h
      exact hz38 x_days_2 x_weathers_2 H locs ls h hW (lv_sub hl [0, 1] rfl)
    · have h := ie c5 h
      refine lv_aload_n E.1 E.2.1 dX4_copyFrom_8 rfl (lv_at hl 0 rfl) ?_
      refine wGet (v := .ref h1) E hK in_X4_copyFrom_X4 hW 0 lk_X4_copyFrom_9 0 rfl rfl (by decide) rfl rfl dX4_copyFrom_9 ?_
      refine lv_iload_n E.1 E.2.1 dX4_copyFrom_12 rfl (lv_at hl 2 rfl) ?_
      refine lv_aload_n E.1 E.2.1 dX4_copyFrom_13 rfl (lv_at hl 1 rfl) ?_
      refine wGet (v := .ref h4) E hK in_X4_copyFrom_X4 hW 0 lk_X4_copyFrom_9 3 rfl rfl (by decide) rfl rfl dX4_copyFrom_14 ?_
      refine lv_iload_n E.1 E.2.1 dX4_copyFrom_17 rfl (lv_at hl 2 rfl) ?_
      obtain ⟨hi18, h⟩ := ox h
      refine wIald E hK hW 4 rfl hi18 dX4_copyFrom_18 ?_
      refine wIast (world' := ((w_X4 g h0 h1 h2 (upd x_days_2 l2_2.toNatClampNeg (x_a1_days l2_2.toNatClampNeg)) x_weathers_2 x_count x_scored x_errors x_hits) ++ (w_X4 g h3 h4 h5 x_a1_days x_a1_weathers x_a1_count x_a1_scored x_a1_errors x_a1_hits))) E hK hW 1 rfl hi18 dX4_copyFrom_19 rfl (fun H locs hW => ?_)
      refine lv_aload_n E.1 E.2.1 dX4_copyFrom_20 rfl (lv_at hl 0 rfl) ?_
      refine wGet (v := .ref h2) E hK in_X4_copyFrom_X4 hW 1 lk_X4_copyFrom_15 0 rfl rfl (by decide) rfl rfl dX4_copyFrom_21 ?_
      refine lv_iload_n E.1 E.2.1 dX4_copyFrom_24 rfl (lv_at hl 2 rfl) ?_
      refine lv_aload_n E.1 E.2.1 dX4_copyFrom_25 rfl (lv_at hl 1 rfl) ?_
      refine wGet (v := .ref h5) E hK in_X4_copyFrom_X4 hW 1 lk_X4_copyFrom_15 3 rfl rfl (by decide) rfl rfl dX4_copyFrom_26 ?_
      refine lv_iload_n E.1 E.2.1 dX4_copyFrom_29 rfl (lv_at hl 2 rfl) ?_
      refine wIald E hK hW 5 rfl hi18 dX4_copyFrom_30 ?_
      refine wIast (world' := ((w_X4 g h0 h1 h2 (upd x_days_2 l2_2.toNatClampNeg (x_a1_days l2_2.toNatClampNeg)) (upd x_weathers_2 l2_2.toNatClampNeg (x_a1_weathers l2_2.toNatClampNeg)) x_count x_scored x_errors x_hits) ++ (w_X4 g h3 h4 h5 x_a1_days x_a1_weathers x_a1_count x_a1_scored x_a1_errors x_a1_hits))) E hK hW 2 rfl hi18 dX4_copyFrom_31 rfl (fun H locs hW => ?_)
      refine lv_iinc (v := (l2_2 + 1)) (lv' := [(2, .int (l2_2 + 1)), (0, .ref h0), (1, .ref h3)]) E.1 E.2.1 dX4_copyFrom_32 hl (k := 2) rfl rfl (by decide) rfl (fun ls hl => ?_)
      refine lv_goto (tgt := 2) E.1 E.2.1 dX4_copyFrom_35 (by decide) ?_
      exact ih (l2_2 + 1) (upd x_days_2 l2_2.toNatClampNeg (x_a1_days l2_2.toNatClampNeg)) (upd x_weathers_2 l2_2.toNatClampNeg (x_a1_weathers l2_2.toNatClampNeg)) H locs ls h hW (lv_sub hl [1, 2, 0] rfl)
set_option maxHeartbeats 4000000 in
set_option maxRecDepth 100000 in
theorem k_X4_copyFrom_0 {p : Program} {l : Launch} {e : Env} {s : State} {m : MethodId} {args : Array Value} {below : List Frame} {meth : Method} {c : Code} {g : GE} {A : Nat → Prop} {h0 h1 h2 h3 h4 h5 : Nat} {x_days : Nat → Int32} {x_weathers : Nat → Int32} {x_count : Int32} {x_scored : Int32} {x_errors : Int32} {x_hits : Int32} {x_a1_days : Nat → Int32} {x_a1_weathers : Nat → Int32} {x_a1_count : Int32} {x_a1_scored : Int32} {x_a1_errors : Int32} {x_a1_hits : Int32} {res : (Nat → Int32) × (Nat → Int32) × Int32 × Int32 × Int32 × Int32} {H : Heap} {locs : List Loc} {ls : Array Slot} 
    (E : En cX4_copyFrom RX4 wsX4_copyFrom 3 none p s m args meth c) (hK : KK g s) (hA : ∀ q, s.heap.size ≤ q → A q) (h : f_X4_copyFrom x_days x_weathers x_count x_scored x_errors x_hits x_a1_days x_a1_weathers x_a1_count x_a1_scored x_a1_errors x_a1_hits = some res) (hW : Wo g A s H locs ((w_X4 g h0 h1 h2 x_days x_weathers x_count x_scored x_errors x_hits) ++ (w_X4 g h3 h4 h5 x_a1_days x_a1_weathers x_a1_count x_a1_scored x_a1_errors x_a1_hits))) (hl : lv_has ls 3 [(0, .ref h0), (1, .ref h3)]) : G_X4_copyFrom p l e s m args below meth c g A h0 h1 h2 h3 h4 h5 x_a1_days x_a1_weathers x_a1_count x_a1_scored x_a1_errors x_a1_hits res H locs 0 ls [] := by
  have hts := E.2.2.2.1
  unfold f_X4_copyFrom at h
  refine lv_iconst (v := 0) E.1 E.2.1 dX4_copyFrom_0 (by decide) ?_
  refine lv_istore_n (lv' := [(2, .int 0), (0, .ref h0), (1, .ref h3)]) E.1 E.2.1 dX4_copyFrom_1 rfl hl (by decide) rfl (fun ls hl => ?_)
  refine k_X4_copyFrom_2 E hK hA ?_ 1000 0 x_days x_weathers H locs ls h hW (lv_sub hl [1, 2, 0] rfl)
  · intro x_days_38e x_weathers_38e H locs ls h hW hl
    refine lv_aload_n E.1 E.2.1 dX4_copyFrom_38 rfl (lv_at hl 0 rfl) ?_
    refine lv_aload_n E.1 E.2.1 dX4_copyFrom_39 rfl (lv_at hl 1 rfl) ?_
    refine wGet (v := .int x_a1_count) E hK in_X4_copyFrom_X4 hW 2 lk_X4_copyFrom_18 3 rfl rfl (by decide) rfl rfl dX4_copyFrom_40 ?_
    refine wPut (world' := ((w_X4 g h0 h1 h2 x_days_38e x_weathers_38e x_a1_count x_scored x_errors x_hits) ++ (w_X4 g h3 h4 h5 x_a1_days x_a1_weathers x_a1_count x_a1_scored x_a1_errors x_a1_hits))) E hK in_X4_copyFrom_X4 tyX4 tyX4_ok nmX4 hW 2 lk_X4_copyFrom_18 0 rfl rfl (by decide) rfl rfl rfl rfl rfl (Nat.le_of_ble_eq_true rfl) dX4_copyFrom_43 rfl (fun H locs hW => ?_)
    refine lv_aload_n E.1 E.2.1 dX4_copyFrom_46 rfl (lv_at hl 0 rfl) ?_
    refine lv_aload_n E.1 E.2.1 dX4_copyFrom_47 rfl (lv_at hl 1 rfl) ?_
    refine wGet (v := .int x_a1_scored) E hK in_X4_copyFrom_X4 hW 3 lk_X4_copyFrom_22 3 rfl rfl (by decide) rfl rfl dX4_copyFrom_48 ?_
    refine wPut (world' := ((w_X4 g h0 h1 h2 x_days_38e x_weathers_38e x_a1_count x_a1_scored x_errors x_hits) ++ (w_X4 g h3 h4 h5 x_a1_days x_a1_weathers x_a1_count x_a1_scored x_a1_errors x_a1_hits))) E hK in_X4_copyFrom_X4 tyX4 tyX4_ok nmX4 hW 3 lk_X4_copyFrom_22 0 rfl rfl (by decide) rfl rfl rfl rfl rfl (Nat.le_of_ble_eq_true rfl) dX4_copyFrom_51 rfl (fun H locs hW => ?_)
    refine lv_aload_n E.1 E.2.1 dX4_copyFrom_54 rfl (lv_at hl 0 rfl) ?_
    refine lv_aload_n E.1 E.2.1 dX4_copyFrom_55 rfl (lv_at hl 1 rfl) ?_
    refine wGet (v := .int x_a1_errors) E hK in_X4_copyFrom_X4 hW 4 lk_X4_copyFrom_25 3 rfl rfl (by decide) rfl rfl dX4_copyFrom_56 ?_
    refine wPut (world' := ((w_X4 g h0 h1 h2 x_days_38e x_weathers_38e x_a1_count x_a1_scored x_a1_errors x_hits) ++ (w_X4 g h3 h4 h5 x_a1_days x_a1_weathers x_a1_count x_a1_scored x_a1_errors x_a1_hits))) E hK in_X4_copyFrom_X4 tyX4 tyX4_ok nmX4 hW 4 lk_X4_copyFrom_25 0 rfl rfl (by decide) rfl rfl rfl rfl rfl (Nat.le_of_ble_eq_true rfl) dX4_copyFrom_59 rfl (fun H locs hW => ?_)
    refine lv_aload_n E.1 E.2.1 dX4_copyFrom_62 rfl (lv_at hl 0 rfl) ?_
    refine lv_aload_n E.1 E.2.1 dX4_copyFrom_63 rfl (lv_at hl 1 rfl) ?_
    refine wGet (v := .int x_a1_hits) E hK in_X4_copyFrom_X4 hW 5 lk_X4_copyFrom_28 3 rfl rfl (by decide) rfl rfl dX4_copyFrom_64 ?_
    refine wPut (world' := ((w_X4 g h0 h1 h2 x_days_38e x_weathers_38e x_a1_count x_a1_scored x_a1_errors x_a1_hits) ++ (w_X4 g h3 h4 h5 x_a1_days x_a1_weathers x_a1_count x_a1_scored x_a1_errors x_a1_hits))) E hK in_X4_copyFrom_X4 tyX4 tyX4_ok nmX4 hW 5 lk_X4_copyFrom_28 0 rfl rfl (by decide) rfl rfl rfl rfl rfl (Nat.le_of_ble_eq_true rfl) dX4_copyFrom_67 rfl (fun H locs hW => ?_)
    obtain rfl := Option.some.inj h
    exact endV E hW dX4_copyFrom_70
theorem c_X4_copyFrom (l : Launch) (g : GE) (h0 h1 h2 h3 h4 h5 : Nat) (x_days : Nat → Int32) (x_weathers : Nat → Int32) (x_count : Int32) (x_scored : Int32) (x_errors : Int32) (x_hits : Int32) (x_a1_days : Nat → Int32) (x_a1_weathers : Nat → Int32) (x_a1_count : Int32) (x_a1_scored : Int32) (x_a1_errors : Int32) (x_a1_hits : Int32) {res : (Nat → Int32) × (Nat → Int32) × Int32 × Int32 × Int32 × Int32} (hf : f_X4_copyFrom x_days x_weathers x_count x_scored x_errors x_hits x_a1_days x_a1_weathers x_a1_count x_a1_scored x_a1_errors x_a1_hits = some res) : CV l yX4_copyFrom wsX4_copyFrom rm_X4_copyFrom g [.ref h0, .ref h3] ((w_X4 g h0 h1 h2 x_days x_weathers x_count x_scored x_errors x_hits) ++ (w_X4 g h3 h4 h5 x_a1_days x_a1_weathers x_a1_count x_a1_scored x_a1_errors x_a1_hits)) ((w_X4 g h0 h1 h2 res.1 res.2.1 res.2.2.1 res.2.2.2.1 res.2.2.2.2.1 res.2.2.2.2.2) ++ (w_X4 g h3 h4 h5 x_a1_days x_a1_weathers x_a1_count x_a1_scored x_a1_errors x_a1_hits)) :=
  mkV (cc := cX4_copyFrom) (maxL := 3) (by decide) rfl (Nat.le_of_ble_eq_true rfl) (fun p e s m args below meth c A H locs ls E hK hA hW hl => k_X4_copyFrom_0 E hK hA hf hW hl)

/-! PaperStorm$Forecasts.has(I)Z X4_has -/
abbrev rm_X4_has : Room := { frames := 0, cells := 0, slots := 0, locals := 0 }
theorem in_X4_has_X4 : ∀ w ∈ wsX40, w ∈ wsX4_has := by decide +kernel
theorem lk_X4_has_18 : Cond.fieldLink RX4 18 "PaperStorm$Forecasts" "count" "I" ∈ wsX4_has := by decide +kernel
noncomputable def f_X4_has (x_count : Int32) (a1 : Int32) : Option (Int32) :=
  jo (fun (s0_23 : Int32) => if ¬ vp_nar .boolean s0_23 = s0_23 then none else some (s0_23)) (fun j23 => jo (j23 0) (fun j22 => if a1 < 0 then j22 else if x_count ≤ a1 then j22 else if 6 ≤ a1 then j22 else j23 1))
abbrev G_X4_has (p : Program) (l : Launch) (e : Env) (s : State) (m : MethodId) (args : Array Value) (below : List Frame) (meth : Method) (c : Code) (g : GE) (A : Nat → Prop) (h0 h1 h2 : Nat) (x_days : Nat → Int32) (x_weathers : Nat → Int32) (x_count : Int32) (x_scored : Int32) (x_errors : Int32) (x_hits : Int32) (res : Int32) (H : Heap) (locs : List Loc) (pc : Nat) (ls : Array Slot) (st : List Value) : Prop := W p l e (headSpec wsX4_has rm_X4_has).room s m args below meth c H locs 0 0 (MQ below (PoI g A (w_X4 g h0 h1 h2 x_days x_weathers x_count x_scored x_errors x_hits) res) args s 0 0 A) (F0 m pc ls st)
set_option maxHeartbeats 4000000 in
set_option maxRecDepth 100000 in
theorem k_X4_has_0 {p : Program} {l : Launch} {e : Env} {s : State} {m : MethodId} {args : Array Value} {below : List Frame} {meth : Method} {c : Code} {g : GE} {A : Nat → Prop} {h0 h1 h2 : Nat} {x_days : Nat → Int32} {x_weathers : Nat → Int32} {x_count : Int32} {x_scored : Int32} {x_errors : Int32} {x_hits : Int32} {res : Int32} {H : Heap} {locs : List Loc} {ls : Array Slot} {a1 : Int32}
    (E : En cX4_has RX4 wsX4_has 2 (some .boolean) p s m args meth c) (hK : KK g s) (hA : ∀ q, s.heap.size ≤ q → A q) (h : f_X4_has x_count a1 = some res) (hW : Wo g A s H locs (w_X4 g h0 h1 h2 x_days x_weathers x_count x_scored x_errors x_hits)) (hl : lv_has ls 2 [(0, .ref h0), (1, .int a1)]) : G_X4_has p l e s m args below meth c g A h0 h1 h2 x_days x_weathers x_count x_scored x_errors x_hits res H locs 0 ls [] := by
  have hts := E.2.2.2.1
  unfold f_X4_has at h
  obtain ⟨j23, hj23, h⟩ := jox1 h
  have J23 : ∀ (s0_23 : Int32) (H : Heap) (locs : List Loc) (ls : Array Slot), j23 s0_23 = some res → Wo g A s H locs (w_X4 g h0 h1 h2 x_days x_weathers x_count x_scored x_errors x_hits) → lv_has ls 2 [] → G_X4_has p l e s m args below meth c g A h0 h1 h2 x_days x_weathers x_count x_scored x_errors x_hits res H locs 23 ls [.int s0_23] := by
    intro s0_23 H locs ls h hW hl
    rw [hj23] at h
    obtain ⟨hz, h⟩ := ox h
    obtain rfl := Option.some.inj h
    exact endI E (nar_z (Decidable.not_not.mp hz)) hW dX4_has_23
  obtain ⟨j22, hj22, h⟩ := jox0 h
  have J22 : ∀ (H : Heap) (locs : List Loc) (ls : Array Slot), j22 = some res → Wo g A s H locs (w_X4 g h0 h1 h2 x_days x_weathers x_count x_scored x_errors x_hits) → lv_has ls 2 [] → G_X4_has p l e s m args below meth c g A h0 h1 h2 x_days x_weathers x_count x_scored x_errors x_hits res H locs 22 ls [] := by
    intro H locs ls h hW hl
    rw [hj22] at h
    refine lv_iconst (v := 0) E.1 E.2.1 dX4_has_22 (by decide) ?_
    exact J23 0 H locs ls h hW (lv_sub hl [] rfl)
  refine lv_iload_n E.1 E.2.1 dX4_has_0 rfl (lv_at hl 1 rfl) ?_
  refine lv_if_lt (tgt := 22) E.1 E.2.1 dX4_has_1 (by decide) (fun c1 => ?_) (fun c1 => ?_)
  · have h := it c1 h
    exact J22  H locs ls h hW (lv_sub hl [] rfl)
  · have h := ie c1 h
    refine lv_iload_n E.1 E.2.1 dX4_has_4 rfl (lv_at hl 1 rfl) ?_
    refine lv_aload_n E.1 E.2.1 dX4_has_5 rfl (lv_at hl 0 rfl) ?_
    refine wGet (v := .int x_count) E hK in_X4_has_X4 hW 2 lk_X4_has_18 0 rfl rfl (by decide) rfl rfl dX4_has_6 ?_
    refine lv_icmp_ge (tgt := 22) E.1 E.2.1 dX4_has_9 (by decide) (fun c9 => ?_) (fun c9 => ?_)
    · have h := it c9 h
      exact J22  H locs ls h hW (lv_sub hl [] rfl)
    · have h := ie c9 h
      refine lv_iload_n E.1 E.2.1 dX4_has_12 rfl (lv_at hl 1 rfl) ?_
      refine lv_bipush (v := 6) E.1 E.2.1 dX4_has_13 (by decide) ?_
      refine lv_icmp_ge (tgt := 22) E.1 E.2.1 dX4_has_15 (by decide) (fun c15 => ?_) (fun c15 => ?_)
      · have h := it c15 h
        exact J22  H locs ls h hW (lv_sub hl [] rfl)
      · have h := ie c15 h
        refine lv_iconst (v := 1) E.1 E.2.1 dX4_has_18 (by decide) ?_
        refine lv_goto (tgt := 23) E.1 E.2.1 dX4_has_19 (by decide) ?_
        exact J23 1 H locs ls h hW (lv_sub hl [] rfl)
theorem c_X4_has (l : Launch) (g : GE) (h0 h1 h2 : Nat) (x_days : Nat → Int32) (x_weathers : Nat → Int32) (x_count : Int32) (x_scored : Int32) (x_errors : Int32) (x_hits : Int32) (a1 : Int32) {res : Int32} (hf : f_X4_has x_count a1 = some res) : CI l yX4_has wsX4_has rm_X4_has g [.ref h0, .int a1] (w_X4 g h0 h1 h2 x_days x_weathers x_count x_scored x_errors x_hits) (w_X4 g h0 h1 h2 x_days x_weathers x_count x_scored x_errors x_hits) res :=
  mkI (cc := cX4_has) (maxL := 2) (by decide) rfl (Nat.le_of_ble_eq_true rfl) (fun p e s m args below meth c A H locs ls E hK hA hW hl => k_X4_has_0 E hK hA hf hW hl)

/-! PaperStorm$Forecasts.hasRoom()Z X4_hasRoom -/
abbrev rm_X4_hasRoom : Room := { frames := 0, cells := 0, slots := 0, locals := 0 }
theorem in_X4_hasRoom_X4 : ∀ w ∈ wsX40, w ∈ wsX4_hasRoom := by decide +kernel
theorem lk_X4_hasRoom_18 : Cond.fieldLink RX4 18 "PaperStorm$Forecasts" "count" "I" ∈ wsX4_hasRoom := by decide +kernel
noncomputable def f_X4_hasRoom (x_count : Int32) : Option (Int32) :=
  jo (fun (s0_21 : Int32) => if ¬ vp_nar .boolean s0_21 = s0_21 then none else some (s0_21)) (fun j21 => jo (j21 0) (fun j20 => if x_count < 0 then j20 else if 6 ≤ x_count then j20 else j21 1))
abbrev G_X4_hasRoom (p : Program) (l : Launch) (e : Env) (s : State) (m : MethodId) (args : Array Value) (below : List Frame) (meth : Method) (c : Code) (g : GE) (A : Nat → Prop) (h0 h1 h2 : Nat) (x_days : Nat → Int32) (x_weathers : Nat → Int32) (x_count : Int32) (x_scored : Int32) (x_errors : Int32) (x_hits : Int32) (res : Int32) (H : Heap) (locs : List Loc) (pc : Nat) (ls : Array Slot) (st : List Value) : Prop := W p l e (headSpec wsX4_hasRoom rm_X4_hasRoom).room s m args below meth c H locs 0 0 (MQ below (PoI g A (w_X4 g h0 h1 h2 x_days x_weathers x_count x_scored x_errors x_hits) res) args s 0 0 A) (F0 m pc ls st)
set_option maxHeartbeats 4000000 in
set_option maxRecDepth 100000 in
theorem k_X4_hasRoom_0 {p : Program} {l : Launch} {e : Env} {s : State} {m : MethodId} {args : Array Value} {below : List Frame} {meth : Method} {c : Code} {g : GE} {A : Nat → Prop} {h0 h1 h2 : Nat} {x_days : Nat → Int32} {x_weathers : Nat → Int32} {x_count : Int32} {x_scored : Int32} {x_errors : Int32} {x_hits : Int32} {res : Int32} {H : Heap} {locs : List Loc} {ls : Array Slot} 
    (E : En cX4_hasRoom RX4 wsX4_hasRoom 1 (some .boolean) p s m args meth c) (hK : KK g s) (hA : ∀ q, s.heap.size ≤ q → A q) (h : f_X4_hasRoom x_count = some res) (hW : Wo g A s H locs (w_X4 g h0 h1 h2 x_days x_weathers x_count x_scored x_errors x_hits)) (hl : lv_has ls 1 [(0, .ref h0)]) : G_X4_hasRoom p l e s m args below meth c g A h0 h1 h2 x_days x_weathers x_count x_scored x_errors x_hits res H locs 0 ls [] := by
  have hts := E.2.2.2.1
  unfold f_X4_hasRoom at h
  obtain ⟨j21, hj21, h⟩ := jox1 h
  have J21 : ∀ (s0_21 : Int32) (H : Heap) (locs : List Loc) (ls : Array Slot), j21 s0_21 = some res → Wo g A s H locs (w_X4 g h0 h1 h2 x_days x_weathers x_count x_scored x_errors x_hits) → lv_has ls 1 [] → G_X4_hasRoom p l e s m args below meth c g A h0 h1 h2 x_days x_weathers x_count x_scored x_errors x_hits res H locs 21 ls [.int s0_21] := by
    intro s0_21 H locs ls h hW hl
    rw [hj21] at h
    obtain ⟨hz, h⟩ := ox h
    obtain rfl := Option.some.inj h
    exact endI E (nar_z (Decidable.not_not.mp hz)) hW dX4_hasRoom_21
  obtain ⟨j20, hj20, h⟩ := jox0 h
  have J20 : ∀ (H : Heap) (locs : List Loc) (ls : Array Slot), j20 = some res → Wo g A s H locs (w_X4 g h0 h1 h2 x_days x_weathers x_count x_scored x_errors x_hits) → lv_has ls 1 [] → G_X4_hasRoom p l e s m args below meth c g A h0 h1 h2 x_days x_weathers x_count x_scored x_errors x_hits res H locs 20 ls [] := by
    intro H locs ls h hW hl
    rw [hj20] at h
    refine lv_iconst (v := 0) E.1 E.2.1 dX4_hasRoom_20 (by decide) ?_
    exact J21 0 H locs ls h hW (lv_sub hl [] rfl)
  refine lv_aload_n E.1 E.2.1 dX4_hasRoom_0 rfl (lv_at hl 0 rfl) ?_
  refine wGet (v := .int x_count) E hK in_X4_hasRoom_X4 hW 2 lk_X4_hasRoom_18 0 rfl rfl (by decide) rfl rfl dX4_hasRoom_1 ?_
  refine lv_if_lt (tgt := 20) E.1 E.2.1 dX4_hasRoom_4 (by decide) (fun c4 => ?_) (fun c4 => ?_)
  · have h := it c4 h
    exact J20  H locs ls h hW (lv_sub hl [] rfl)
  · have h := ie c4 h
    refine lv_aload_n E.1 E.2.1 dX4_hasRoom_7 rfl (lv_at hl 0 rfl) ?_
    refine wGet (v := .int x_count) E hK in_X4_hasRoom_X4 hW 2 lk_X4_hasRoom_18 0 rfl rfl (by decide) rfl rfl dX4_hasRoom_8 ?_
    refine lv_bipush (v := 6) E.1 E.2.1 dX4_hasRoom_11 (by decide) ?_
    refine lv_icmp_ge (tgt := 20) E.1 E.2.1 dX4_hasRoom_13 (by decide) (fun c13 => ?_) (fun c13 => ?_)
    · have h := it c13 h
      exact J20  H locs ls h hW (lv_sub hl [] rfl)
    · have h := ie c13 h
      refine lv_iconst (v := 1) E.1 E.2.1 dX4_hasRoom_16 (by decide) ?_
      refine lv_goto (tgt := 21) E.1 E.2.1 dX4_hasRoom_17 (by decide) ?_
      exact J21 1 H locs ls h hW (lv_sub hl [] rfl)
theorem c_X4_hasRoom (l : Launch) (g : GE) (h0 h1 h2 : Nat) (x_days : Nat → Int32) (x_weathers : Nat → Int32) (x_count : Int32) (x_scored : Int32) (x_errors : Int32) (x_hits : Int32) {res : Int32} (hf : f_X4_hasRoom x_count = some res) : CI l yX4_hasRoom wsX4_hasRoom rm_X4_hasRoom g [.ref h0] (w_X4 g h0 h1 h2 x_days x_weathers x_count x_scored x_errors x_hits) (w_X4 g h0 h1 h2 x_days x_weathers x_count x_scored x_errors x_hits) res :=
  mkI (cc := cX4_hasRoom) (maxL := 1) (by decide) rfl (Nat.le_of_ble_eq_true rfl) (fun p e s m args below meth c A H locs ls E hK hA hW hl => k_X4_hasRoom_0 E hK hA hf hW hl)

/-! PaperStorm$Forecasts.dayAt(I)I X4_dayAt -/
abbrev rm_X4_dayAt : Room := { frames := 1, cells := 0, slots := 0, locals := 21 }
theorem in_X4_dayAt_X4 : ∀ w ∈ wsX40, w ∈ wsX4_dayAt := by decide +kernel
theorem lk_X4_dayAt_9 : Cond.fieldLink RX4 9 "PaperStorm$Forecasts" "days" "[I" ∈ wsX4_dayAt := by decide +kernel
noncomputable def f_X4_dayAt (x_days : Nat → Int32) (x_count : Int32) (a1 : Int32) : Option (Int32) :=
  jo (fun (s0_18 : Int32) => some (s0_18)) (fun j18 => (f_X4_has x_count a1).bind fun r2 => if r2 = 0 then j18 0 else if a1 < 0 ∨ 6 ≤ a1.toNatClampNeg then none else j18 (x_days a1.toNatClampNeg))
abbrev G_X4_dayAt (p : Program) (l : Launch) (e : Env) (s : State) (m : MethodId) (args : Array Value) (below : List Frame) (meth : Method) (c : Code) (g : GE) (A : Nat → Prop) (h0 h1 h2 : Nat) (x_days : Nat → Int32) (x_weathers : Nat → Int32) (x_count : Int32) (x_scored : Int32) (x_errors : Int32) (x_hits : Int32) (res : Int32) (H : Heap) (locs : List Loc) (pc : Nat) (ls : Array Slot) (st : List Value) : Prop := W p l e (headSpec wsX4_dayAt rm_X4_dayAt).room s m args below meth c H locs 0 0 (MQ below (PoI g A (w_X4 g h0 h1 h2 x_days x_weathers x_count x_scored x_errors x_hits) res) args s 0 0 A) (F0 m pc ls st)
set_option maxHeartbeats 4000000 in
set_option maxRecDepth 100000 in
theorem k_X4_dayAt_0 {p : Program} {l : Launch} {e : Env} {s : State} {m : MethodId} {args : Array Value} {below : List Frame} {meth : Method} {c : Code} {g : GE} {A : Nat → Prop} {h0 h1 h2 : Nat} {x_days : Nat → Int32} {x_weathers : Nat → Int32} {x_count : Int32} {x_scored : Int32} {x_errors : Int32} {x_hits : Int32} {res : Int32} {H : Heap} {locs : List Loc} {ls : Array Slot} {a1 : Int32}
    (E : En cX4_dayAt RX4 wsX4_dayAt 2 (some .int) p s m args meth c) (hK : KK g s) (hA : ∀ q, s.heap.size ≤ q → A q) (h : f_X4_dayAt x_days x_count a1 = some res) (hW : Wo g A s H locs (w_X4 g h0 h1 h2 x_days x_weathers x_count x_scored x_errors x_hits)) (hl : lv_has ls 2 [(0, .ref h0), (1, .int a1)]) : G_X4_dayAt p l e s m args below meth c g A h0 h1 h2 x_days x_weathers x_count x_scored x_errors x_hits res H locs 0 ls [] := by
  have hts := E.2.2.2.1
  unfold f_X4_dayAt at h
  obtain ⟨j18, hj18, h⟩ := jox1 h
  have J18 : ∀ (s0_18 : Int32) (H : Heap) (locs : List Loc) (ls : Array Slot), j18 s0_18 = some res → Wo g A s H locs (w_X4 g h0 h1 h2 x_days x_weathers x_count x_scored x_errors x_hits) → lv_has ls 2 [] → G_X4_dayAt p l e s m args below meth c g A h0 h1 h2 x_days x_weathers x_count x_scored x_errors x_hits res H locs 18 ls [.int s0_18] := by
    intro s0_18 H locs ls h hW hl
    rw [hj18] at h
    obtain rfl := Option.some.inj h
    exact endI E rfl hW dX4_dayAt_18
  refine lv_aload_n E.1 E.2.1 dX4_dayAt_0 rfl (lv_at hl 0 rfl) ?_
  refine lv_iload_n E.1 E.2.1 dX4_dayAt_1 rfl (lv_at hl 1 rfl) ?_
  obtain ⟨r2, hc, h⟩ := bx h
  refine goI (world' := (w_X4 g h0 h1 h2 x_days x_weathers x_count x_scored x_errors x_hits)) hW hA (is := [0, 1, 2]) rfl (goV (rest := []) E hK hW [0, 1, 2] rfl rfl (c_X4_has l g h0 h1 h2 x_days x_weathers x_count x_scored x_errors x_hits a1 (hf := hc) H.size) (cwV 1 hts gX4_dayAt_X4_has rfl rfl rfl (by decide +kernel) ⟨Nat.le_of_ble_eq_true rfl, Nat.le_of_ble_eq_true rfl⟩) 0 rfl rfl rfl hl.1 rfl rfl (Nat.le_of_ble_eq_true rfl) dX4_dayAt_2 ⟨Nat.zero_le _, Nat.zero_le _⟩) rfl rfl (fun H locs hW => ?_)
  refine lv_if_eq (tgt := 17) E.1 E.2.1 dX4_dayAt_5 (by decide) (fun c5 => ?_) (fun c5 => ?_)
  · have h := it c5 h
    refine lv_iconst (v := 0) E.1 E.2.1 dX4_dayAt_17 (by decide) ?_
    exact J18 0 H locs ls h hW (lv_sub hl [] rfl)
  · have h := ie c5 h
    refine lv_aload_n E.1 E.2.1 dX4_dayAt_8 rfl (lv_at hl 0 rfl) ?_
    refine wGet (v := .ref h1) E hK in_X4_dayAt_X4 hW 0 lk_X4_dayAt_9 0 rfl rfl (by decide) rfl rfl dX4_dayAt_9 ?_
    refine lv_iload_n E.1 E.2.1 dX4_dayAt_12 rfl (lv_at hl 1 rfl) ?_
    obtain ⟨hi13, h⟩ := ox h
    refine wIald E hK hW 1 rfl hi13 dX4_dayAt_13 ?_
    refine lv_goto (tgt := 18) E.1 E.2.1 dX4_dayAt_14 (by decide) ?_
    exact J18 (x_days a1.toNatClampNeg) H locs ls h hW (lv_sub hl [] rfl)
theorem c_X4_dayAt (l : Launch) (g : GE) (h0 h1 h2 : Nat) (x_days : Nat → Int32) (x_weathers : Nat → Int32) (x_count : Int32) (x_scored : Int32) (x_errors : Int32) (x_hits : Int32) (a1 : Int32) {res : Int32} (hf : f_X4_dayAt x_days x_count a1 = some res) : CI l yX4_dayAt wsX4_dayAt rm_X4_dayAt g [.ref h0, .int a1] (w_X4 g h0 h1 h2 x_days x_weathers x_count x_scored x_errors x_hits) (w_X4 g h0 h1 h2 x_days x_weathers x_count x_scored x_errors x_hits) res :=
  mkI (cc := cX4_dayAt) (maxL := 2) (by decide) rfl (Nat.le_of_ble_eq_true rfl) (fun p e s m args below meth c A H locs ls E hK hA hW hl => k_X4_dayAt_0 E hK hA hf hW hl)

/-! PaperStorm$Forecasts.weatherAt(I)I X4_weatherAt -/
abbrev rm_X4_weatherAt : Room := { frames := 1, cells := 0, slots := 0, locals := 21 }
theorem in_X4_weatherAt_X4 : ∀ w ∈ wsX40, w ∈ wsX4_weatherAt := by decide +kernel
theorem lk_X4_weatherAt_15 : Cond.fieldLink RX4 15 "PaperStorm$Forecasts" "weathers" "[I" ∈ wsX4_weatherAt := by decide +kernel
noncomputable def f_X4_weatherAt (x_weathers : Nat → Int32) (x_count : Int32) (a1 : Int32) : Option (Int32) :=
  jo (fun (s0_18 : Int32) => some (s0_18)) (fun j18 => (f_X4_has x_count a1).bind fun r2 => if r2 = 0 then j18 0 else if a1 < 0 ∨ 6 ≤ a1.toNatClampNeg then none else j18 (x_weathers a1.toNatClampNeg))
abbrev G_X4_weatherAt (p : Program) (l : Launch) (e : Env) (s : State) (m : MethodId) (args : Array Value) (below : List Frame) (meth : Method) (c : Code) (g : GE) (A : Nat → Prop) (h0 h1 h2 : Nat) (x_days : Nat → Int32) (x_weathers : Nat → Int32) (x_count : Int32) (x_scored : Int32) (x_errors : Int32) (x_hits : Int32) (res : Int32) (H : Heap) (locs : List Loc) (pc : Nat) (ls : Array Slot) (st : List Value) : Prop := W p l e (headSpec wsX4_weatherAt rm_X4_weatherAt).room s m args below meth c H locs 0 0 (MQ below (PoI g A (w_X4 g h0 h1 h2 x_days x_weathers x_count x_scored x_errors x_hits) res) args s 0 0 A) (F0 m pc ls st)
set_option maxHeartbeats 4000000 in
set_option maxRecDepth 100000 in
theorem k_X4_weatherAt_0 {p : Program} {l : Launch} {e : Env} {s : State} {m : MethodId} {args : Array Value} {below : List Frame} {meth : Method} {c : Code} {g : GE} {A : Nat → Prop} {h0 h1 h2 : Nat} {x_days : Nat → Int32} {x_weathers : Nat → Int32} {x_count : Int32} {x_scored : Int32} {x_errors : Int32} {x_hits : Int32} {res : Int32} {H : Heap} {locs : List Loc} {ls : Array Slot} {a1 : Int32}
    (E : En cX4_weatherAt RX4 wsX4_weatherAt 2 (some .int) p s m args meth c) (hK : KK g s) (hA : ∀ q, s.heap.size ≤ q → A q) (h : f_X4_weatherAt x_weathers x_count a1 = some res) (hW : Wo g A s H locs (w_X4 g h0 h1 h2 x_days x_weathers x_count x_scored x_errors x_hits)) (hl : lv_has ls 2 [(0, .ref h0), (1, .int a1)]) : G_X4_weatherAt p l e s m args below meth c g A h0 h1 h2 x_days x_weathers x_count x_scored x_errors x_hits res H locs 0 ls [] := by
  have hts := E.2.2.2.1
  unfold f_X4_weatherAt at h
  obtain ⟨j18, hj18, h⟩ := jox1 h
  have J18 : ∀ (s0_18 : Int32) (H : Heap) (locs : List Loc) (ls : Array Slot), j18 s0_18 = some res → Wo g A s H locs (w_X4 g h0 h1 h2 x_days x_weathers x_count x_scored x_errors x_hits) → lv_has ls 2 [] → G_X4_weatherAt p l e s m args below meth c g A h0 h1 h2 x_days x_weathers x_count x_scored x_errors x_hits res H locs 18 ls [.int s0_18] := by
    intro s0_18 H locs ls h hW hl
    rw [hj18] at h
    obtain rfl := Option.some.inj h
    exact endI E rfl hW dX4_weatherAt_18
  refine lv_aload_n E.1 E.2.1 dX4_weatherAt_0 rfl (lv_at hl 0 rfl) ?_
  refine lv_iload_n E.1 E.2.1 dX4_weatherAt_1 rfl (lv_at hl 1 rfl) ?_
  obtain ⟨r2, hc, h⟩ := bx h
  refine goI (world' := (w_X4 g h0 h1 h2 x_days x_weathers x_count x_scored x_errors x_hits)) hW hA (is := [0, 1, 2]) rfl (goV (rest := []) E hK hW [0, 1, 2] rfl rfl (c_X4_has l g h0 h1 h2 x_days x_weathers x_count x_scored x_errors x_hits a1 (hf := hc) H.size) (cwV 1 hts gX4_weatherAt_X4_has rfl rfl rfl (by decide +kernel) ⟨Nat.le_of_ble_eq_true rfl, Nat.le_of_ble_eq_true rfl⟩) 0 rfl rfl rfl hl.1 rfl rfl (Nat.le_of_ble_eq_true rfl) dX4_weatherAt_2 ⟨Nat.zero_le _, Nat.zero_le _⟩) rfl rfl (fun H locs hW => ?_)
  refine lv_if_eq (tgt := 17) E.1 E.2.1 dX4_weatherAt_5 (by decide) (fun c5 => ?_) (fun c5 => ?_)
  · have h := it c5 h
    refine lv_iconst (v := 0) E.1 E.2.1 dX4_weatherAt_17 (by decide) ?_
    exact J18 0 H locs ls h hW (lv_sub hl [] rfl)
  · have h := ie c5 h
    refine lv_aload_n E.1 E.2.1 dX4_weatherAt_8 rfl (lv_at hl 0 rfl) ?_
    refine wGet (v := .ref h2) E hK in_X4_weatherAt_X4 hW 1 lk_X4_weatherAt_15 0 rfl rfl (by decide) rfl rfl dX4_weatherAt_9 ?_
    refine lv_iload_n E.1 E.2.1 dX4_weatherAt_12 rfl (lv_at hl 1 rfl) ?_
    obtain ⟨hi13, h⟩ := ox h
    refine wIald E hK hW 2 rfl hi13 dX4_weatherAt_13 ?_
    refine lv_goto (tgt := 18) E.1 E.2.1 dX4_weatherAt_14 (by decide) ?_
    exact J18 (x_weathers a1.toNatClampNeg) H locs ls h hW (lv_sub hl [] rfl)
theorem c_X4_weatherAt (l : Launch) (g : GE) (h0 h1 h2 : Nat) (x_days : Nat → Int32) (x_weathers : Nat → Int32) (x_count : Int32) (x_scored : Int32) (x_errors : Int32) (x_hits : Int32) (a1 : Int32) {res : Int32} (hf : f_X4_weatherAt x_weathers x_count a1 = some res) : CI l yX4_weatherAt wsX4_weatherAt rm_X4_weatherAt g [.ref h0, .int a1] (w_X4 g h0 h1 h2 x_days x_weathers x_count x_scored x_errors x_hits) (w_X4 g h0 h1 h2 x_days x_weathers x_count x_scored x_errors x_hits) res :=
  mkI (cc := cX4_weatherAt) (maxL := 2) (by decide) rfl (Nat.le_of_ble_eq_true rfl) (fun p e s m args below meth c A H locs ls E hK hA hW hl => k_X4_weatherAt_0 E hK hA hf hW hl)

/-! PaperStorm$Forecasts.add(II)V X4_add -/
abbrev rm_X4_add : Room := { frames := 1, cells := 0, slots := 0, locals := 20 }
theorem in_X4_add_X4 : ∀ w ∈ wsX40, w ∈ wsX4_add := by decide +kernel
theorem lk_X4_add_15 : Cond.fieldLink RX4 15 "PaperStorm$Forecasts" "weathers" "[I" ∈ wsX4_add := by decide +kernel
theorem lk_X4_add_18 : Cond.fieldLink RX4 18 "PaperStorm$Forecasts" "count" "I" ∈ wsX4_add := by decide +kernel
theorem lk_X4_add_9 : Cond.fieldLink RX4 9 "PaperStorm$Forecasts" "days" "[I" ∈ wsX4_add := by decide +kernel
noncomputable def f_X4_add (x_days : Nat → Int32) (x_weathers : Nat → Int32) (x_count : Int32) (a1 : Int32) (a2 : Int32) : Option ((Nat → Int32) × (Nat → Int32) × Int32) :=
  jo (fun (x_days_37 : Nat → Int32) (x_weathers_37 : Nat → Int32) (x_count_37 : Int32) => some (x_days_37, x_weathers_37, x_count_37)) (fun j37 => (f_X4_hasRoom x_count).bind fun r1 => if r1 = 0 then j37 x_days x_weathers x_count else if x_count < 0 ∨ 6 ≤ x_count.toNatClampNeg then none else j37 (upd x_days x_count.toNatClampNeg a1) (upd x_weathers x_count.toNatClampNeg a2) (x_count + 1))
abbrev G_X4_add (p : Program) (l : Launch) (e : Env) (s : State) (m : MethodId) (args : Array Value) (below : List Frame) (meth : Method) (c : Code) (g : GE) (A : Nat → Prop) (h0 h1 h2 : Nat) (x_scored : Int32) (x_errors : Int32) (x_hits : Int32) (res : (Nat → Int32) × (Nat → Int32) × Int32) (H : Heap) (locs : List Loc) (pc : Nat) (ls : Array Slot) (st : List Value) : Prop := W p l e (headSpec wsX4_add rm_X4_add).room s m args below meth c H locs 0 0 (MQ below (PoV g A (w_X4 g h0 h1 h2 res.1 res.2.1 res.2.2 x_scored x_errors x_hits)) args s 0 0 A) (F0 m pc ls st)
set_option maxHeartbeats 4000000 in
set_option maxRecDepth 100000 in
theorem k_X4_add_0 {p : Program} {l : Launch} {e : Env} {s : State} {m : MethodId} {args : Array Value} {below : List Frame} {meth : Method} {c : Code} {g : GE} {A : Nat → Prop} {h0 h1 h2 : Nat} {x_days : Nat → Int32} {x_weathers : Nat → Int32} {x_count : Int32} {x_scored : Int32} {x_errors : Int32} {x_hits : Int32} {res : (Nat → Int32) × (Nat → Int32) × Int32} {H : Heap} {locs : List Loc} {ls : Array Slot} {a1 : Int32} {a2 : Int32}
    (E : En cX4_add RX4 wsX4_add 3 none p s m args meth c) (hK : KK g s) (hA : ∀ q, s.heap.size ≤ q → A q) (h : f_X4_add x_days x_weathers x_count a1 a2 = some res) (hW : Wo g A s H locs (w_X4 g h0 h1 h2 x_days x_weathers x_count x_scored x_errors x_hits)) (hl : lv_has ls 3 [(0, .ref h0), (1, .int a1), (2, .int a2)]) : G_X4_add p l e s m args below meth c g A h0 h1 h2 x_scored x_errors x_hits res H locs 0 ls [] := by
  have hts := E.2.2.2.1
  unfold f_X4_add at h
  obtain ⟨j37, hj37, h⟩ := jox3 h
  have J37 : ∀ (x_days_37 : Nat → Int32) (x_weathers_37 : Nat → Int32) (x_count_37 : Int32) (H : Heap) (locs : List Loc) (ls : Array Slot), j37 x_days_37 x_weathers_37 x_count_37 = some res → Wo g A s H locs (w_X4 g h0 h1 h2 x_days_37 x_weathers_37 x_count_37 x_scored x_errors x_hits) → lv_has ls 3 [] → G_X4_add p l e s m args below meth c g A h0 h1 h2 x_scored x_errors x_hits res H locs 37 ls [] := by
    intro x_days_37 x_weathers_37 x_count_37 H locs ls h hW hl
    rw [hj37] at h
    obtain rfl := Option.some.inj h
    exact endV E hW dX4_add_37
  refine lv_aload_n E.1 E.2.1 dX4_add_0 rfl (lv_at hl 0 rfl) ?_
  obtain ⟨r1, hc, h⟩ := bx h
  refine goI (world' := (w_X4 g h0 h1 h2 x_days x_weathers x_count x_scored x_errors x_hits)) hW hA (is := [0, 1, 2]) rfl (goV (rest := []) E hK hW [0, 1, 2] rfl rfl (c_X4_hasRoom l g h0 h1 h2 x_days x_weathers x_count x_scored x_errors x_hits (hf := hc) H.size) (cwV 0 hts gX4_add_X4_hasRoom rfl rfl rfl (by decide +kernel) ⟨Nat.le_of_ble_eq_true rfl, Nat.le_of_ble_eq_true rfl⟩) 0 rfl rfl rfl hl.1 rfl rfl (Nat.le_of_ble_eq_true rfl) dX4_add_1 ⟨Nat.zero_le _, Nat.zero_le _⟩) rfl rfl (fun H locs hW => ?_)
  refine lv_if_eq (tgt := 37) E.1 E.2.1 dX4_add_4 (by decide) (fun c4 => ?_) (fun c4 => ?_)
  · have h := it c4 h
    exact J37 x_days x_weathers x_count H locs ls h hW (lv_sub hl [] rfl)
  · have h := ie c4 h
    refine lv_aload_n E.1 E.2.1 dX4_add_7 rfl (lv_at hl 0 rfl) ?_
    refine wGet (v := .ref h1) E hK in_X4_add_X4 hW 0 lk_X4_add_9 0 rfl rfl (by decide) rfl rfl dX4_add_8 ?_
    refine lv_aload_n E.1 E.2.1 dX4_add_11 rfl (lv_at hl 0 rfl) ?_
    refine wGet (v := .int x_count) E hK in_X4_add_X4 hW 2 lk_X4_add_18 0 rfl rfl (by decide) rfl rfl dX4_add_12 ?_
    refine lv_iload_n E.1 E.2.1 dX4_add_15 rfl (lv_at hl 1 rfl) ?_
    obtain ⟨hi16, h⟩ := ox h
    refine wIast (world' := (w_X4 g h0 h1 h2 (upd x_days x_count.toNatClampNeg a1) x_weathers x_count x_scored x_errors x_hits)) E hK hW 1 rfl hi16 dX4_add_16 rfl (fun H locs hW => ?_)
    refine lv_aload_n E.1 E.2.1 dX4_add_17 rfl (lv_at hl 0 rfl) ?_
    refine wGet (v := .ref h2) E hK in_X4_add_X4 hW 1 lk_X4_add_15 0 rfl rfl (by decide) rfl rfl dX4_add_18 ?_
    refine lv_aload_n E.1 E.2.1 dX4_add_21 rfl (lv_at hl 0 rfl) ?_
    refine wGet (v := .int x_count) E hK in_X4_add_X4 hW 2 lk_X4_add_18 0 rfl rfl (by decide) rfl rfl dX4_add_22 ?_
    refine lv_iload_n E.1 E.2.1 dX4_add_25 rfl (lv_at hl 2 rfl) ?_
    refine wIast (world' := (w_X4 g h0 h1 h2 (upd x_days x_count.toNatClampNeg a1) (upd x_weathers x_count.toNatClampNeg a2) x_count x_scored x_errors x_hits)) E hK hW 2 rfl hi16 dX4_add_26 rfl (fun H locs hW => ?_)
    refine lv_aload_n E.1 E.2.1 dX4_add_27 rfl (lv_at hl 0 rfl) ?_
    refine lv_dup E.1 E.2.1 dX4_add_28 rfl ?_
    refine wGet (v := .int x_count) E hK in_X4_add_X4 hW 2 lk_X4_add_18 0 rfl rfl (by decide) rfl rfl dX4_add_29 ?_
    refine lv_iconst (v := 1) E.1 E.2.1 dX4_add_32 (by decide) ?_
    refine lv_iadd E.1 E.2.1 dX4_add_33 ?_
    refine wPut (world' := (w_X4 g h0 h1 h2 (upd x_days x_count.toNatClampNeg a1) (upd x_weathers x_count.toNatClampNeg a2) (x_count + 1) x_scored x_errors x_hits)) E hK in_X4_add_X4 tyX4 tyX4_ok nmX4 hW 2 lk_X4_add_18 0 rfl rfl (by decide) rfl rfl rfl rfl rfl (Nat.le_of_ble_eq_true rfl) dX4_add_34 rfl (fun H locs hW => ?_)
    exact J37 (upd x_days x_count.toNatClampNeg a1) (upd x_weathers x_count.toNatClampNeg a2) (x_count + 1) H locs ls h hW (lv_sub hl [] rfl)
theorem c_X4_add (l : Launch) (g : GE) (h0 h1 h2 : Nat) (x_days : Nat → Int32) (x_weathers : Nat → Int32) (x_count : Int32) (x_scored : Int32) (x_errors : Int32) (x_hits : Int32) (a1 : Int32) (a2 : Int32) {res : (Nat → Int32) × (Nat → Int32) × Int32} (hf : f_X4_add x_days x_weathers x_count a1 a2 = some res) : CV l yX4_add wsX4_add rm_X4_add g [.ref h0, .int a1, .int a2] (w_X4 g h0 h1 h2 x_days x_weathers x_count x_scored x_errors x_hits) (w_X4 g h0 h1 h2 res.1 res.2.1 res.2.2 x_scored x_errors x_hits) :=
  mkV (cc := cX4_add) (maxL := 3) (by decide) rfl (Nat.le_of_ble_eq_true rfl) (fun p e s m args below meth c A H locs ls E hK hA hW hl => k_X4_add_0 E hK hA hf hW hl)

/-! PaperStorm$Forecasts.remove(I)V X4_remove -/
abbrev rm_X4_remove : Room := { frames := 1, cells := 0, slots := 0, locals := 21 }
theorem in_X4_remove_X4 : ∀ w ∈ wsX40, w ∈ wsX4_remove := by decide +kernel
theorem lk_X4_remove_15 : Cond.fieldLink RX4 15 "PaperStorm$Forecasts" "weathers" "[I" ∈ wsX4_remove := by decide +kernel
theorem lk_X4_remove_18 : Cond.fieldLink RX4 18 "PaperStorm$Forecasts" "count" "I" ∈ wsX4_remove := by decide +kernel
theorem lk_X4_remove_9 : Cond.fieldLink RX4 9 "PaperStorm$Forecasts" "days" "[I" ∈ wsX4_remove := by decide +kernel
noncomputable def f_X4_remove_13 (x_count : Int32) (z61 : (Nat → Int32) → (Nat → Int32) → Option ((Nat → Int32) × (Nat → Int32) × Int32)) : Nat → Int32 → (Nat → Int32) → (Nat → Int32) → Option ((Nat → Int32) × (Nat → Int32) × Int32)
  | 0, _, _, _ => none
  | n + 1, l2_13, x_days_13, x_weathers_13 => if x_count ≤ l2_13 then z61 x_days_13 x_weathers_13 else if 6 ≤ l2_13 then z61 x_days_13 x_weathers_13 else if l2_13 < 0 ∨ 6 ≤ l2_13.toNatClampNeg then none else if (l2_13 - 1) < 0 ∨ 6 ≤ (l2_13 - 1).toNatClampNeg then none else f_X4_remove_13 x_count z61 n (l2_13 + 1) (upd x_days_13 (l2_13 - 1).toNatClampNeg (x_days_13 l2_13.toNatClampNeg)) (upd x_weathers_13 (l2_13 - 1).toNatClampNeg (x_weathers_13 l2_13.toNatClampNeg))
noncomputable def f_X4_remove (x_days : Nat → Int32) (x_weathers : Nat → Int32) (x_count : Int32) (a1 : Int32) : Option ((Nat → Int32) × (Nat → Int32) × Int32) :=
  (f_X4_has x_count a1).bind fun r2 => if r2 = 0 then some (x_days, x_weathers, x_count) else f_X4_remove_13 x_count (fun x_days_61e x_weathers_61e => some (x_days_61e, x_weathers_61e, (x_count - 1))) 1000 (a1 + 1) x_days x_weathers
abbrev G_X4_remove (p : Program) (l : Launch) (e : Env) (s : State) (m : MethodId) (args : Array Value) (below : List Frame) (meth : Method) (c : Code) (g : GE) (A : Nat → Prop) (h0 h1 h2 : Nat) (x_scored : Int32) (x_errors : Int32) (x_hits : Int32) (res : (Nat → Int32) × (Nat → Int32) × Int32) (H : Heap) (locs : List Loc) (pc : Nat) (ls : Array Slot) (st : List Value) : Prop := W p l e (headSpec wsX4_remove rm_X4_remove).room s m args below meth c H locs 0 0 (MQ below (PoV g A (w_X4 g h0 h1 h2 res.1 res.2.1 res.2.2 x_scored x_errors x_hits)) args s 0 0 A) (F0 m pc ls st)
set_option maxHeartbeats 4000000 in
set_option maxRecDepth 100000 in
theorem k_X4_remove_13 {p : Program} {l : Launch} {e : Env} {s : State} {m : MethodId} {args : Array Value} {below : List Frame} {meth : Method} {c : Code} {g : GE} {A : Nat → Prop} {h0 h1 h2 : Nat} {x_count : Int32} {x_scored : Int32} {x_errors : Int32} {x_hits : Int32} {res : (Nat → Int32) × (Nat → Int32) × Int32} {z61 : (Nat → Int32) → (Nat → Int32) → Option ((Nat → Int32) × (Nat → Int32) × Int32)}
    (E : En cX4_remove RX4 wsX4_remove 3 none p s m args meth c) (hK : KK g s) (hA : ∀ q, s.heap.size ≤ q → A q)
    (hz61 : ∀ (x_days_61e : Nat → Int32) (x_weathers_61e : Nat → Int32) (H : Heap) (locs : List Loc) (ls : Array Slot), z61 x_days_61e x_weathers_61e = some res → Wo g A s H locs (w_X4 g h0 h1 h2 x_days_61e x_weathers_61e x_count x_scored x_errors x_hits) → lv_has ls 3 [(0, .ref h0)] → G_X4_remove p l e s m args below meth c g A h0 h1 h2 x_scored x_errors x_hits res H locs 61 ls [])
    : ∀ (n : Nat) (l2_13 : Int32) (x_days_13 : Nat → Int32) (x_weathers_13 : Nat → Int32) (H : Heap) (locs : List Loc) (ls : Array Slot), f_X4_remove_13 x_count z61 n l2_13 x_days_13 x_weathers_13 = some res → Wo g A s H locs (w_X4 g h0 h1 h2 x_days_13 x_weathers_13 x_count x_scored x_errors x_hits) → lv_has ls 3 [(0, .ref h0), (2, .int l2_13)] → G_X4_remove p l e s m args below meth c g A h0 h1 h2 x_scored x_errors x_hits res H locs 13 ls [] := by
  have hts := E.2.2.2.1
  intro n
  induction n with
  | zero => intro l2_13 x_days_13 x_weathers_13 H locs ls h hW hl; rw [f_X4_remove_13] at h; cases h
  | succ n ih =>
    intro l2_13 x_days_13 x_weathers_13 H locs ls h hW hl
    rw [f_X4_remove_13] at h
    refine lv_iload_n E.1 E.2.1 dX4_remove_13 rfl (lv_at hl 1 rfl) ?_
    refine lv_aload_n E.1 E.2.1 dX4_remove_14 rfl (lv_at hl 0 rfl) ?_
    refine wGet (v := .int x_count) E hK in_X4_remove_X4 hW 2 lk_X4_remove_18 0 rfl rfl (by decide) rfl rfl dX4_remove_15 ?_
    refine lv_icmp_ge (tgt := 61) E.1 E.2.1 dX4_remove_18 (by decide) (fun c18 => ?_) (fun c18 => ?_)
    · have h := it c18 h
      exact hz61 x_days_13 x_weathers_13 H locs ls h hW (lv_sub hl [0] rfl)
    · have h := ie c18 h
      refine lv_iload_n E.1 E.2.1 dX4_remove_21 rfl (lv_at hl 1 rfl) ?_
      refine lv_bipush (v := 6) E.1 E.2.1 dX4_remove_22 (by decide) ?_
      refine lv_icmp_ge (tgt := 61) E.1 E.2.1 dX4_remove_24 (by decide) (fun c24 => ?_) (fun c24 => ?_)
      · have h := it c24 h
        exact hz61 x_days_13 x_weathers_13 H locs ls h hW (lv_sub hl [0] rfl)
      · have h := ie c24 h
        refine lv_aload_n E.1 E.2.1 dX4_remove_27 rfl (lv_at hl 0 rfl) ?_
        refine wGet (v := .ref h1) E hK in_X4_remove_X4 hW 0 lk_X4_remove_9 0 rfl rfl (by decide) rfl rfl dX4_remove_28 ?_
        refine lv_iload_n E.1 E.2.1 dX4_remove_31 rfl (lv_at hl 1 rfl) ?_
        refine lv_iconst (v := 1) E.1 E.2.1 dX4_remove_32 (by decide) ?_
        refine lv_isub E.1 E.2.1 dX4_remove_33 ?_
        refine lv_aload_n E.1 E.2.1 dX4_remove_34 rfl (lv_at hl 0 rfl) ?_
        refine wGet (v := .ref h1) E hK in_X4_remove_X4 hW 0 lk_X4_remove_9 0 rfl rfl (by decide) rfl rfl dX4_remove_35 ?_
        refine lv_iload_n E.1 E.2.1 dX4_remove_38 rfl (lv_at hl 1 rfl) ?_
        obtain ⟨hi39, h⟩ := ox h
        refine wIald E hK hW 1 rfl hi39 dX4_remove_39 ?_
        obtain ⟨hi40, h⟩ := ox h
        refine wIast (world' := (w_X4 g h0 h1 h2 (upd x_days_13 (l2_13 - 1).toNatClampNeg (x_days_13 l2_13.toNatClampNeg)) x_weathers_13 x_count x_scored x_errors x_hits)) E hK hW 1 rfl hi40 dX4_remove_40 rfl (fun H locs hW => ?_)
        refine lv_aload_n E.1 E.2.1 dX4_remove_41 rfl (lv_at hl 0 rfl) ?_
        refine wGet (v := .ref h2) E hK in_X4_remove_X4 hW 1 lk_X4_remove_15 0 rfl rfl (by decide) rfl rfl dX4_remove_42 ?_
        refine lv_iload_n E.1 E.2.1 dX4_remove_45 rfl (lv_at hl 1 rfl) ?_
        refine lv_iconst (v := 1) E.1 E.2.1 dX4_remove_46 (by decide) ?_
        refine lv_isub E.1 E.2.1 dX4_remove_47 ?_
        refine lv_aload_n E.1 E.2.1 dX4_remove_48 rfl (lv_at hl 0 rfl) ?_
        refine wGet (v := .ref h2) E hK in_X4_remove_X4 hW 1 lk_X4_remove_15 0 rfl rfl (by decide) rfl rfl dX4_remove_49 ?_
        refine lv_iload_n E.1 E.2.1 dX4_remove_52 rfl (lv_at hl 1 rfl) ?_
        refine wIald E hK hW 2 rfl hi39 dX4_remove_53 ?_
        refine wIast (world' := (w_X4 g h0 h1 h2 (upd x_days_13 (l2_13 - 1).toNatClampNeg (x_days_13 l2_13.toNatClampNeg)) (upd x_weathers_13 (l2_13 - 1).toNatClampNeg (x_weathers_13 l2_13.toNatClampNeg)) x_count x_scored x_errors x_hits)) E hK hW 2 rfl hi40 dX4_remove_54 rfl (fun H locs hW => ?_)
        refine lv_iinc (v := (l2_13 + 1)) (lv' := [(2, .int (l2_13 + 1)), (0, .ref h0)]) E.1 E.2.1 dX4_remove_55 hl (k := 1) rfl rfl (by decide) rfl (fun ls hl => ?_)
        refine lv_goto (tgt := 13) E.1 E.2.1 dX4_remove_58 (by decide) ?_
        exact ih (l2_13 + 1) (upd x_days_13 (l2_13 - 1).toNatClampNeg (x_days_13 l2_13.toNatClampNeg)) (upd x_weathers_13 (l2_13 - 1).toNatClampNeg (x_weathers_13 l2_13.toNatClampNeg)) H locs ls h hW (lv_sub hl [1, 0] rfl)
set_option maxHeartbeats 4000000 in
set_option maxRecDepth 100000 in
theorem k_X4_remove_0 {p : Program} {l : Launch} {e : Env} {s : State} {m : MethodId} {args : Array Value} {below : List Frame} {meth : Method} {c : Code} {g : GE} {A : Nat → Prop} {h0 h1 h2 : Nat} {x_days : Nat → Int32} {x_weathers : Nat → Int32} {x_count : Int32} {x_scored : Int32} {x_errors : Int32} {x_hits : Int32} {res : (Nat → Int32) × (Nat → Int32) × Int32} {H : Heap} {locs : List Loc} {ls : Array Slot} {a1 : Int32}
    (E : En cX4_remove RX4 wsX4_remove 3 none p s m args meth c) (hK : KK g s) (hA : ∀ q, s.heap.size ≤ q → A q) (h : f_X4_remove x_days x_weathers x_count a1 = some res) (hW : Wo g A s H locs (w_X4 g h0 h1 h2 x_days x_weathers x_count x_scored x_errors x_hits)) (hl : lv_has ls 3 [(0, .ref h0), (1, .int a1)]) : G_X4_remove p l e s m args below meth c g A h0 h1 h2 x_scored x_errors x_hits res H locs 0 ls [] := by
  have hts := E.2.2.2.1
  unfold f_X4_remove at h
  refine lv_aload_n E.1 E.2.1 dX4_remove_0 rfl (lv_at hl 0 rfl) ?_
  refine lv_iload_n E.1 E.2.1 dX4_remove_1 rfl (lv_at hl 1 rfl) ?_
  obtain ⟨r2, hc, h⟩ := bx h
  refine goI (world' := (w_X4 g h0 h1 h2 x_days x_weathers x_count x_scored x_errors x_hits)) hW hA (is := [0, 1, 2]) rfl (goV (rest := []) E hK hW [0, 1, 2] rfl rfl (c_X4_has l g h0 h1 h2 x_days x_weathers x_count x_scored x_errors x_hits a1 (hf := hc) H.size) (cwV 1 hts gX4_remove_X4_has rfl rfl rfl (by decide +kernel) ⟨Nat.le_of_ble_eq_true rfl, Nat.le_of_ble_eq_true rfl⟩) 0 rfl rfl rfl hl.1 rfl rfl (Nat.le_of_ble_eq_true rfl) dX4_remove_2 ⟨Nat.zero_le _, Nat.zero_le _⟩) rfl rfl (fun H locs hW => ?_)
  refine lv_if_ne (tgt := 9) E.1 E.2.1 dX4_remove_5 (by decide) (fun c5 => ?_) (fun c5 => ?_)
  · have h := ie c5 h
    refine lv_iload_n E.1 E.2.1 dX4_remove_9 rfl (lv_at hl 1 rfl) ?_
    refine lv_iconst (v := 1) E.1 E.2.1 dX4_remove_10 (by decide) ?_
    refine lv_iadd E.1 E.2.1 dX4_remove_11 ?_
    refine lv_istore_n (lv' := [(2, .int (a1 + 1)), (0, .ref h0), (1, .int a1)]) E.1 E.2.1 dX4_remove_12 rfl hl (by decide) rfl (fun ls hl => ?_)
    refine k_X4_remove_13 E hK hA ?_ 1000 (a1 + 1) x_days x_weathers H locs ls h hW (lv_sub hl [1, 0] rfl)
    · intro x_days_61e x_weathers_61e H locs ls h hW hl
      refine lv_aload_n E.1 E.2.1 dX4_remove_61 rfl (lv_at hl 0 rfl) ?_
      refine lv_dup E.1 E.2.1 dX4_remove_62 rfl ?_
      refine wGet (v := .int x_count) E hK in_X4_remove_X4 hW 2 lk_X4_remove_18 0 rfl rfl (by decide) rfl rfl dX4_remove_63 ?_
      refine lv_iconst (v := 1) E.1 E.2.1 dX4_remove_66 (by decide) ?_
      refine lv_isub E.1 E.2.1 dX4_remove_67 ?_
      refine wPut (world' := (w_X4 g h0 h1 h2 x_days_61e x_weathers_61e (x_count - 1) x_scored x_errors x_hits)) E hK in_X4_remove_X4 tyX4 tyX4_ok nmX4 hW 2 lk_X4_remove_18 0 rfl rfl (by decide) rfl rfl rfl rfl rfl (Nat.le_of_ble_eq_true rfl) dX4_remove_68 rfl (fun H locs hW => ?_)
      obtain rfl := Option.some.inj h
      exact endV E hW dX4_remove_71
  · have h := it c5 h
    obtain rfl := Option.some.inj h
    exact endV E hW dX4_remove_8
theorem c_X4_remove (l : Launch) (g : GE) (h0 h1 h2 : Nat) (x_days : Nat → Int32) (x_weathers : Nat → Int32) (x_count : Int32) (x_scored : Int32) (x_errors : Int32) (x_hits : Int32) (a1 : Int32) {res : (Nat → Int32) × (Nat → Int32) × Int32} (hf : f_X4_remove x_days x_weathers x_count a1 = some res) : CV l yX4_remove wsX4_remove rm_X4_remove g [.ref h0, .int a1] (w_X4 g h0 h1 h2 x_days x_weathers x_count x_scored x_errors x_hits) (w_X4 g h0 h1 h2 res.1 res.2.1 res.2.2 x_scored x_errors x_hits) :=
  mkV (cc := cX4_remove) (maxL := 3) (by decide) rfl (Nat.le_of_ble_eq_true rfl) (fun p e s m args below meth c A H locs ls E hK hA hW hl => k_X4_remove_0 E hK hA hf hW hl)

/-! PaperStorm$Forecasts.score(II)I X4_score -/
abbrev rm_X4_score : Room := { frames := 2, cells := 0, slots := 0, locals := 43 }
theorem in_X4_score_X4 : ∀ w ∈ wsX40, w ∈ wsX4_score := by decide +kernel
theorem lk_X4_score_18 : Cond.fieldLink RX4 18 "PaperStorm$Forecasts" "count" "I" ∈ wsX4_score := by decide +kernel
theorem lk_X4_score_22 : Cond.fieldLink RX4 22 "PaperStorm$Forecasts" "scored" "I" ∈ wsX4_score := by decide +kernel
theorem lk_X4_score_25 : Cond.fieldLink RX4 25 "PaperStorm$Forecasts" "errors" "I" ∈ wsX4_score := by decide +kernel
theorem lk_X4_score_28 : Cond.fieldLink RX4 28 "PaperStorm$Forecasts" "hits" "I" ∈ wsX4_score := by decide +kernel
theorem lk_X4_score_46a : Cond.methodLink RX4 46 Lib.Math.abs.name ∈ wsX4_score := by decide +kernel
theorem lk_X4_score_46b : Cond.static Lib.Math.abs.name ∈ wsX4_score := by decide +kernel
theorem lk_X4_score_46c : Cond.initialized "java/lang/Math" ∈ wsX4_score := by decide +kernel
theorem lk_X4_score_46d : Cond.code Lib.Math.abs.name Lib.Math.abs.code 1 (some .int) ∈ wsX4_score := by decide +kernel
noncomputable def f_X4_score_10 (l1 : Int32) (l2 : Int32) (z84 : Int32 → (Nat → Int32) → (Nat → Int32) → Int32 → Int32 → Int32 → Option (Int32 × (Nat → Int32) × (Nat → Int32) × Int32 × Int32 × Int32 × Int32)) : Nat → Int32 → Int32 → (Nat → Int32) → (Nat → Int32) → Int32 → Int32 → Int32 → Option (Int32 × (Nat → Int32) × (Nat → Int32) × Int32 × Int32 × Int32 × Int32)
  | 0, _, _, _, _, _, _, _ => none
  | n + 1, l3_10, l4_10, x_days_10, x_weathers_10, x_count_10, x_scored_10, x_hits_10 => if l4_10 < 0 then z84 l3_10 x_days_10 x_weathers_10 x_count_10 x_scored_10 x_hits_10 else jo (fun (l3_78 : Int32) (x_days_78 : Nat → Int32) (x_weathers_78 : Nat → Int32) (x_count_78 : Int32) (x_scored_78 : Int32) (x_hits_78 : Int32) => f_X4_score_10 l1 l2 z84 n l3_78 (l4_10 + (-1)) x_days_78 x_weathers_78 x_count_78 x_scored_78 x_hits_78) (fun j78 => (f_X4_dayAt x_days_10 x_count_10 l4_10).bind fun r18 => if r18 = l1 then jo (fun (l3_68 : Int32) (x_scored_68 : Int32) (s1_68 : Int32) (s2_68 : Int32) => (f_X4_remove x_days_10 x_weathers_10 x_count_10 l4_10).bind fun r75 => j78 l3_68 r75.1 r75.2.1 r75.2.2 x_scored_68 (s1_68 + s2_68)) (fun j68 => (f_X4_weatherAt x_weathers_10 x_count_10 l4_10).bind fun r28 => if (if 0 ≤ (r28 - l2) then (r28 - l2) else 0 - (r28 - l2)) = 0 then j68 (l3_10 + (if 0 ≤ (r28 - l2) then (r28 - l2) else 0 - (r28 - l2))) (x_scored_10 + 1) x_hits_10 1 else j68 (l3_10 + (if 0 ≤ (r28 - l2) then (r28 - l2) else 0 - (r28 - l2))) (x_scored_10 + 1) x_hits_10 0) else j78 l3_10 x_days_10 x_weathers_10 x_count_10 x_scored_10 x_hits_10)
noncomputable def f_X4_score (x_days : Nat → Int32) (x_weathers : Nat → Int32) (x_count : Int32) (x_scored : Int32) (x_errors : Int32) (x_hits : Int32) (a1 : Int32) (a2 : Int32) : Option (Int32 × (Nat → Int32) × (Nat → Int32) × Int32 × Int32 × Int32 × Int32) :=
  f_X4_score_10 a1 a2 (fun l3_84e x_days_84e x_weathers_84e x_count_84e x_scored_84e x_hits_84e => some (l3_84e, x_days_84e, x_weathers_84e, x_count_84e, x_scored_84e, (x_errors + l3_84e), x_hits_84e)) 1000 0 (x_count - 1) x_days x_weathers x_count x_scored x_hits
abbrev G_X4_score (p : Program) (l : Launch) (e : Env) (s : State) (m : MethodId) (args : Array Value) (below : List Frame) (meth : Method) (c : Code) (g : GE) (A : Nat → Prop) (h0 h1 h2 : Nat) (res : Int32 × (Nat → Int32) × (Nat → Int32) × Int32 × Int32 × Int32 × Int32) (H : Heap) (locs : List Loc) (pc : Nat) (ls : Array Slot) (st : List Value) : Prop := W p l e (headSpec wsX4_score rm_X4_score).room s m args below meth c H locs 0 0 (MQ below (PoI g A (w_X4 g h0 h1 h2 res.2.1 res.2.2.1 res.2.2.2.1 res.2.2.2.2.1 res.2.2.2.2.2.1 res.2.2.2.2.2.2) res.1) args s 0 0 A) (F0 m pc ls st)
set_option maxHeartbeats 4000000 in
set_option maxRecDepth 100000 in
theorem k_X4_score_10 {p : Program} {l : Launch} {e : Env} {s : State} {m : MethodId} {args : Array Value} {below : List Frame} {meth : Method} {c : Code} {g : GE} {A : Nat → Prop} {h0 h1 h2 : Nat} {x_errors : Int32} {res : Int32 × (Nat → Int32) × (Nat → Int32) × Int32 × Int32 × Int32 × Int32} {l1 : Int32} {l2 : Int32} {z84 : Int32 → (Nat → Int32) → (Nat → Int32) → Int32 → Int32 → Int32 → Option (Int32 × (Nat → Int32) × (Nat → Int32) × Int32 × Int32 × Int32 × Int32)}
    (E : En cX4_score RX4 wsX4_score 6 (some .int) p s m args meth c) (hK : KK g s) (hA : ∀ q, s.heap.size ≤ q → A q)
    (hz84 : ∀ (l3_84e : Int32) (x_days_84e : Nat → Int32) (x_weathers_84e : Nat → Int32) (x_count_84e : Int32) (x_scored_84e : Int32) (x_hits_84e : Int32) (H : Heap) (locs : List Loc) (ls : Array Slot), z84 l3_84e x_days_84e x_weathers_84e x_count_84e x_scored_84e x_hits_84e = some res → Wo g A s H locs (w_X4 g h0 h1 h2 x_days_84e x_weathers_84e x_count_84e x_scored_84e x_errors x_hits_84e) → lv_has ls 6 [(0, .ref h0), (3, .int l3_84e)] → G_X4_score p l e s m args below meth c g A h0 h1 h2 res H locs 84 ls [])
    : ∀ (n : Nat) (l3_10 : Int32) (l4_10 : Int32) (x_days_10 : Nat → Int32) (x_weathers_10 : Nat → Int32) (x_count_10 : Int32) (x_scored_10 : Int32) (x_hits_10 : Int32) (H : Heap) (locs : List Loc) (ls : Array Slot), f_X4_score_10 l1 l2 z84 n l3_10 l4_10 x_days_10 x_weathers_10 x_count_10 x_scored_10 x_hits_10 = some res → Wo g A s H locs (w_X4 g h0 h1 h2 x_days_10 x_weathers_10 x_count_10 x_scored_10 x_errors x_hits_10) → lv_has ls 6 [(0, .ref h0), (1, .int l1), (2, .int l2), (3, .int l3_10), (4, .int l4_10)] → G_X4_score p l e s m args below meth c g A h0 h1 h2 res H locs 10 ls [] := by
  have hts := E.2.2.2.1
  intro n
  induction n with
  | zero => intro l3_10 l4_10 x_days_10 x_weathers_10 x_count_10 x_scored_10 x_hits_10 H locs ls h hW hl; rw [f_X4_score_10] at h; cases h
  | succ n ih =>
    intro l3_10 l4_10 x_days_10 x_weathers_10 x_count_10 x_scored_10 x_hits_10 H locs ls h hW hl
    rw [f_X4_score_10] at h
    refine lv_iload E.1 E.2.1 dX4_score_10 (lv_at hl 4 rfl) ?_
    refine lv_if_lt (tgt := 84) E.1 E.2.1 dX4_score_12 (by decide) (fun c12 => ?_) (fun c12 => ?_)
    · have h := it c12 h
      exact hz84 l3_10 x_days_10 x_weathers_10 x_count_10 x_scored_10 x_hits_10 H locs ls h hW (lv_sub hl [0, 3] rfl)
    · have h := ie c12 h
      obtain ⟨j78, hj78, h⟩ := jox6 h
      have J78 : ∀ (l3_78 : Int32) (x_days_78 : Nat → Int32) (x_weathers_78 : Nat → Int32) (x_count_78 : Int32) (x_scored_78 : Int32) (x_hits_78 : Int32) (H : Heap) (locs : List Loc) (ls : Array Slot), j78 l3_78 x_days_78 x_weathers_78 x_count_78 x_scored_78 x_hits_78 = some res → Wo g A s H locs (w_X4 g h0 h1 h2 x_days_78 x_weathers_78 x_count_78 x_scored_78 x_errors x_hits_78) → lv_has ls 6 [(0, .ref h0), (1, .int l1), (2, .int l2), (3, .int l3_78), (4, .int l4_10)] → G_X4_score p l e s m args below meth c g A h0 h1 h2 res H locs 78 ls [] := by
        intro l3_78 x_days_78 x_weathers_78 x_count_78 x_scored_78 x_hits_78 H locs ls h hW hl
        rw [hj78] at h
        refine lv_iinc (v := (l4_10 + (-1))) (lv' := [(4, .int (l4_10 + (-1))), (0, .ref h0), (1, .int l1), (2, .int l2), (3, .int l3_78)]) E.1 E.2.1 dX4_score_78 hl (k := 4) rfl rfl (by decide) rfl (fun ls hl => ?_)
        refine lv_goto (tgt := 10) E.1 E.2.1 dX4_score_81 (by decide) ?_
        exact ih l3_78 (l4_10 + (-1)) x_days_78 x_weathers_78 x_count_78 x_scored_78 x_hits_78 H locs ls h hW (lv_sub hl [1, 2, 3, 4, 0] rfl)
      refine lv_aload_n E.1 E.2.1 dX4_score_15 rfl (lv_at hl 0 rfl) ?_
      refine lv_iload E.1 E.2.1 dX4_score_16 (lv_at hl 4 rfl) ?_
      obtain ⟨r18, hc, h⟩ := bx h
      refine goI (world' := (w_X4 g h0 h1 h2 x_days_10 x_weathers_10 x_count_10 x_scored_10 x_errors x_hits_10)) hW hA (is := [0, 1, 2]) rfl (goV (rest := []) E hK hW [0, 1, 2] rfl rfl (c_X4_dayAt l g h0 h1 h2 x_days_10 x_weathers_10 x_count_10 x_scored_10 x_errors x_hits_10 l4_10 (hf := hc) H.size) (cwV 1 hts gX4_score_X4_dayAt rfl rfl rfl (by decide +kernel) ⟨Nat.le_of_ble_eq_true rfl, Nat.le_of_ble_eq_true rfl⟩) 0 rfl rfl rfl hl.1 rfl rfl (Nat.le_of_ble_eq_true rfl) dX4_score_18 ⟨Nat.zero_le _, Nat.zero_le _⟩) rfl rfl (fun H locs hW => ?_)
      refine lv_iload_n E.1 E.2.1 dX4_score_21 rfl (lv_at hl 1 rfl) ?_
      refine lv_icmp_ne (tgt := 78) E.1 E.2.1 dX4_score_22 (by decide) (fun c22 => ?_) (fun c22 => ?_)
      · have h := ie c22 h
        exact J78 l3_10 x_days_10 x_weathers_10 x_count_10 x_scored_10 x_hits_10 H locs ls h hW (lv_sub hl [0, 1, 2, 3, 4] rfl)
      · have h := it c22 h
        obtain ⟨j68, hj68, h⟩ := jox4 h
        have J68 : ∀ (l3_68 : Int32) (x_scored_68 : Int32) (s1_68 : Int32) (s2_68 : Int32) (H : Heap) (locs : List Loc) (ls : Array Slot), j68 l3_68 x_scored_68 s1_68 s2_68 = some res → Wo g A s H locs (w_X4 g h0 h1 h2 x_days_10 x_weathers_10 x_count_10 x_scored_68 x_errors x_hits_10) → lv_has ls 6 [(0, .ref h0), (1, .int l1), (2, .int l2), (3, .int l3_68), (4, .int l4_10)] → G_X4_score p l e s m args below meth c g A h0 h1 h2 res H locs 68 ls [.int s2_68, .int s1_68, .ref h0] := by
          intro l3_68 x_scored_68 s1_68 s2_68 H locs ls h hW hl
          rw [hj68] at h
          refine lv_iadd E.1 E.2.1 dX4_score_68 ?_
          refine wPut (world' := (w_X4 g h0 h1 h2 x_days_10 x_weathers_10 x_count_10 x_scored_68 x_errors (s1_68 + s2_68))) E hK in_X4_score_X4 tyX4 tyX4_ok nmX4 hW 5 lk_X4_score_28 0 rfl rfl (by decide) rfl rfl rfl rfl rfl (Nat.le_of_ble_eq_true rfl) dX4_score_69 rfl (fun H locs hW => ?_)
          refine lv_aload_n E.1 E.2.1 dX4_score_72 rfl (lv_at hl 0 rfl) ?_
          refine lv_iload E.1 E.2.1 dX4_score_73 (lv_at hl 4 rfl) ?_
          obtain ⟨r75, hc, h⟩ := bx h
          refine goU (world' := (w_X4 g h0 h1 h2 r75.1 r75.2.1 r75.2.2 x_scored_68 x_errors (s1_68 + s2_68))) hW hA (is := [0, 1, 2]) rfl (goV (rest := []) E hK hW [0, 1, 2] rfl rfl (c_X4_remove l g h0 h1 h2 x_days_10 x_weathers_10 x_count_10 x_scored_68 x_errors (s1_68 + s2_68) l4_10 (hf := hc) H.size) (cwV 1 hts gX4_score_X4_remove rfl rfl rfl (by decide +kernel) ⟨Nat.le_of_ble_eq_true rfl, Nat.le_of_ble_eq_true rfl⟩) 0 rfl rfl rfl hl.1 rfl rfl (Nat.le_of_ble_eq_true rfl) dX4_score_75 ⟨Nat.zero_le _, Nat.zero_le _⟩) rfl rfl (fun H locs hW => ?_)
          exact J78 l3_68 r75.1 r75.2.1 r75.2.2 x_scored_68 (s1_68 + s2_68) H locs ls h hW (lv_sub hl [0, 1, 2, 3, 4] rfl)
        refine lv_aload_n E.1 E.2.1 dX4_score_25 rfl (lv_at hl 0 rfl) ?_
        refine lv_iload E.1 E.2.1 dX4_score_26 (lv_at hl 4 rfl) ?_
        obtain ⟨r28, hc, h⟩ := bx h
        refine goI (world' := (w_X4 g h0 h1 h2 x_days_10 x_weathers_10 x_count_10 x_scored_10 x_errors x_hits_10)) hW hA (is := [0, 1, 2]) rfl (goV (rest := []) E hK hW [0, 1, 2] rfl rfl (c_X4_weatherAt l g h0 h1 h2 x_days_10 x_weathers_10 x_count_10 x_scored_10 x_errors x_hits_10 l4_10 (hf := hc) H.size) (cwV 1 hts gX4_score_X4_weatherAt rfl rfl rfl (by decide +kernel) ⟨Nat.le_of_ble_eq_true rfl, Nat.le_of_ble_eq_true rfl⟩) 0 rfl rfl rfl hl.1 rfl rfl (Nat.le_of_ble_eq_true rfl) dX4_score_28 ⟨Nat.zero_le _, Nat.zero_le _⟩) rfl rfl (fun H locs hW => ?_)
        refine lv_iload_n E.1 E.2.1 dX4_score_31 rfl (lv_at hl 2 rfl) ?_
        refine lv_isub E.1 E.2.1 dX4_score_32 ?_
        refine va_mabs E.1 E.2.1 (E.2.2.2.2.2.2.trans hl.1.symm) E.2.2.2.2.1 (hts _ lk_X4_score_46a) (hts _ lk_X4_score_46b) (hts _ lk_X4_score_46c) (hts _ lk_X4_score_46d) (Nat.le_of_ble_eq_true rfl) (Nat.le_of_ble_eq_true rfl) (Nat.zero_le _) (Nat.zero_le _) dX4_score_33 ?_
        refine lv_istore (lv' := [(5, .int (if 0 ≤ (r28 - l2) then (r28 - l2) else 0 - (r28 - l2))), (0, .ref h0), (1, .int l1), (2, .int l2), (3, .int l3_10), (4, .int l4_10)]) E.1 E.2.1 dX4_score_36 hl (by decide) rfl (fun ls hl => ?_)
        refine lv_iload_n E.1 E.2.1 dX4_score_38 rfl (lv_at hl 4 rfl) ?_
        refine lv_iload E.1 E.2.1 dX4_score_39 (lv_at hl 0 rfl) ?_
        refine lv_iadd E.1 E.2.1 dX4_score_41 ?_
        refine lv_istore_n (lv' := [(3, .int (l3_10 + (if 0 ≤ (r28 - l2) then (r28 - l2) else 0 - (r28 - l2)))), (5, .int (if 0 ≤ (r28 - l2) then (r28 - l2) else 0 - (r28 - l2))), (0, .ref h0), (1, .int l1), (2, .int l2), (4, .int l4_10)]) E.1 E.2.1 dX4_score_42 rfl hl (by decide) rfl (fun ls hl => ?_)
        refine lv_aload_n E.1 E.2.1 dX4_score_43 rfl (lv_at hl 2 rfl) ?_
        refine lv_dup E.1 E.2.1 dX4_score_44 rfl ?_
        refine wGet (v := .int x_scored_10) E hK in_X4_score_X4 hW 3 lk_X4_score_22 0 rfl rfl (by decide) rfl rfl dX4_score_45 ?_
        refine lv_iconst (v := 1) E.1 E.2.1 dX4_score_48 (by decide) ?_
        refine lv_iadd E.1 E.2.1 dX4_score_49 ?_
        refine wPut (world' := (w_X4 g h0 h1 h2 x_days_10 x_weathers_10 x_count_10 (x_scored_10 + 1) x_errors x_hits_10)) E hK in_X4_score_X4 tyX4 tyX4_ok nmX4 hW 3 lk_X4_score_22 0 rfl rfl (by decide) rfl rfl rfl rfl rfl (Nat.le_of_ble_eq_true rfl) dX4_score_50 rfl (fun H locs hW => ?_)
        refine lv_aload_n E.1 E.2.1 dX4_score_53 rfl (lv_at hl 2 rfl) ?_
        refine lv_dup E.1 E.2.1 dX4_score_54 rfl ?_
        refine wGet (v := .int x_hits_10) E hK in_X4_score_X4 hW 5 lk_X4_score_28 0 rfl rfl (by decide) rfl rfl dX4_score_55 ?_
        refine lv_iload E.1 E.2.1 dX4_score_58 (lv_at hl 1 rfl) ?_
        refine lv_if_ne (tgt := 67) E.1 E.2.1 dX4_score_60 (by decide) (fun c60 => ?_) (fun c60 => ?_)
        · have h := ie c60 h
          refine lv_iconst (v := 0) E.1 E.2.1 dX4_score_67 (by decide) ?_
          exact J68 (l3_10 + (if 0 ≤ (r28 - l2) then (r28 - l2) else 0 - (r28 - l2))) (x_scored_10 + 1) x_hits_10 0 H locs ls h hW (lv_sub hl [2, 3, 4, 0, 5] rfl)
        · have h := it c60 h
          refine lv_iconst (v := 1) E.1 E.2.1 dX4_score_63 (by decide) ?_
          refine lv_goto (tgt := 68) E.1 E.2.1 dX4_score_64 (by decide) ?_
          exact J68 (l3_10 + (if 0 ≤ (r28 - l2) then (r28 - l2) else 0 - (r28 - l2))) (x_scored_10 + 1) x_hits_10 1 H locs ls h hW (lv_sub hl [2, 3, 4, 0, 5] rfl)
set_option maxHeartbeats 4000000 in
set_option maxRecDepth 100000 in
theorem k_X4_score_0 {p : Program} {l : Launch} {e : Env} {s : State} {m : MethodId} {args : Array Value} {below : List Frame} {meth : Method} {c : Code} {g : GE} {A : Nat → Prop} {h0 h1 h2 : Nat} {x_days : Nat → Int32} {x_weathers : Nat → Int32} {x_count : Int32} {x_scored : Int32} {x_errors : Int32} {x_hits : Int32} {res : Int32 × (Nat → Int32) × (Nat → Int32) × Int32 × Int32 × Int32 × Int32} {H : Heap} {locs : List Loc} {ls : Array Slot} {a1 : Int32} {a2 : Int32}
    (E : En cX4_score RX4 wsX4_score 6 (some .int) p s m args meth c) (hK : KK g s) (hA : ∀ q, s.heap.size ≤ q → A q) (h : f_X4_score x_days x_weathers x_count x_scored x_errors x_hits a1 a2 = some res) (hW : Wo g A s H locs (w_X4 g h0 h1 h2 x_days x_weathers x_count x_scored x_errors x_hits)) (hl : lv_has ls 6 [(0, .ref h0), (1, .int a1), (2, .int a2)]) : G_X4_score p l e s m args below meth c g A h0 h1 h2 res H locs 0 ls [] := by
  have hts := E.2.2.2.1
  unfold f_X4_score at h
  refine lv_iconst (v := 0) E.1 E.2.1 dX4_score_0 (by decide) ?_
  refine lv_istore_n (lv' := [(3, .int 0), (0, .ref h0), (1, .int a1), (2, .int a2)]) E.1 E.2.1 dX4_score_1 rfl hl (by decide) rfl (fun ls hl => ?_)
  refine lv_aload_n E.1 E.2.1 dX4_score_2 rfl (lv_at hl 1 rfl) ?_
  refine wGet (v := .int x_count) E hK in_X4_score_X4 hW 2 lk_X4_score_18 0 rfl rfl (by decide) rfl rfl dX4_score_3 ?_
  refine lv_iconst (v := 1) E.1 E.2.1 dX4_score_6 (by decide) ?_
  refine lv_isub E.1 E.2.1 dX4_score_7 ?_
  refine lv_istore (lv' := [(4, .int (x_count - 1)), (3, .int 0), (0, .ref h0), (1, .int a1), (2, .int a2)]) E.1 E.2.1 dX4_score_8 hl (by decide) rfl (fun ls hl => ?_)
  refine k_X4_score_10 E hK hA ?_ 1000 0 (x_count - 1) x_days x_weathers x_count x_scored x_hits H locs ls h hW (lv_sub hl [2, 3, 4, 1, 0] rfl)
  · intro l3_84e x_days_84e x_weathers_84e x_count_84e x_scored_84e x_hits_84e H locs ls h hW hl
    refine lv_aload_n E.1 E.2.1 dX4_score_84 rfl (lv_at hl 0 rfl) ?_
    refine lv_dup E.1 E.2.1 dX4_score_85 rfl ?_
    refine wGet (v := .int x_errors) E hK in_X4_score_X4 hW 4 lk_X4_score_25 0 rfl rfl (by decide) rfl rfl dX4_score_86 ?_
    refine lv_iload_n E.1 E.2.1 dX4_score_89 rfl (lv_at hl 1 rfl) ?_
    refine lv_iadd E.1 E.2.1 dX4_score_90 ?_
    refine wPut (world' := (w_X4 g h0 h1 h2 x_days_84e x_weathers_84e x_count_84e x_scored_84e (x_errors + l3_84e) x_hits_84e)) E hK in_X4_score_X4 tyX4 tyX4_ok nmX4 hW 4 lk_X4_score_25 0 rfl rfl (by decide) rfl rfl rfl rfl rfl (Nat.le_of_ble_eq_true rfl) dX4_score_91 rfl (fun H locs hW => ?_)
    refine lv_iload_n E.1 E.2.1 dX4_score_94 rfl (lv_at hl 1 rfl) ?_
    obtain rfl := Option.some.inj h
    exact endI E rfl hW dX4_score_95
theorem c_X4_score (l : Launch) (g : GE) (h0 h1 h2 : Nat) (x_days : Nat → Int32) (x_weathers : Nat → Int32) (x_count : Int32) (x_scored : Int32) (x_errors : Int32) (x_hits : Int32) (a1 : Int32) (a2 : Int32) {res : Int32 × (Nat → Int32) × (Nat → Int32) × Int32 × Int32 × Int32 × Int32} (hf : f_X4_score x_days x_weathers x_count x_scored x_errors x_hits a1 a2 = some res) : CI l yX4_score wsX4_score rm_X4_score g [.ref h0, .int a1, .int a2] (w_X4 g h0 h1 h2 x_days x_weathers x_count x_scored x_errors x_hits) (w_X4 g h0 h1 h2 res.2.1 res.2.2.1 res.2.2.2.1 res.2.2.2.2.1 res.2.2.2.2.2.1 res.2.2.2.2.2.2) res.1 :=
  mkI (cc := cX4_score) (maxL := 6) (by decide) rfl (Nat.le_of_ble_eq_true rfl) (fun p e s m args below meth c A H locs ls E hK hA hW hl => k_X4_score_0 E hK hA hf hW hl)

