/-! PaperStorm$Sheet.<init> -/
abbrev rm_X10_init : Room := { frames := 1, cells := 1, slots := 25, locals := 20 }
theorem in_X10_init_X10 : ∀ w ∈ wsX100, w ∈ wsX10_init := by decide +kernel
theorem lk_X10_init_15 : Cond.fieldLink RX10 15 "PaperStorm$Sheet" "threshold" "I" ∈ wsX10_init := by decide +kernel
theorem lk_X10_init_3a : Cond.methodLink RX10 3 objectInit ∈ wsX10_init := by decide +kernel
theorem lk_X10_init_3b : Cond.instanceMethod objectInit ∈ wsX10_init := by decide +kernel
theorem lk_X10_init_3c : Cond.code objectInit ⟨#[0xb1]⟩ 1 none ∈ wsX10_init := by decide +kernel
theorem lk_X10_init_9 : Cond.fieldLink RX10 9 "PaperStorm$Sheet" "cells" "[I" ∈ wsX10_init := by decide +kernel
theorem lk_X10_init_arr_int : Cond.arrayClass .int ∈ wsX10_init := by decide +kernel
noncomputable def f_X10_init_20 (z40 : (Nat → Int32) → Option ((Nat → Int32) × Int32)) : Nat → Int32 → (Nat → Int32) → Option ((Nat → Int32) × Int32)
  | 0, _, _ => none
  | n + 1, l1_20, x_cells_20 => if 25 ≤ l1_20 then z40 x_cells_20 else if l1_20 < 0 ∨ 25 ≤ l1_20.toNatClampNeg then none else f_X10_init_20 z40 n (l1_20 + 1) (upd x_cells_20 l1_20.toNatClampNeg 50)
noncomputable def f_X10_init : Option ((Nat → Int32) × Int32) :=
  f_X10_init_20 (fun x_cells_40e => some (x_cells_40e, 20)) 1000 0 (fun _ => 0)
abbrev G_X10_init (p : Program) (l : Launch) (e : Env) (s : State) (m : MethodId) (args : Array Value) (below : List Frame) (meth : Method) (c : Code) (g : GE) (A : Nat → Prop) (h0 : Nat) (res : (Nat → Int32) × Int32) (H : Heap) (locs : List Loc) (pc : Nat) (ls : Array Slot) (st : List Value) : Prop := W p l e (headSpec wsX10_init rm_X10_init).room s m args below meth c H locs 1 25 (MQ below (PoN g A (fun u => w_X10 g h0 (u 0) res.1 res.2)) args s 1 25 A) (F0 m pc ls st)
set_option maxHeartbeats 4000000 in
set_option maxRecDepth 100000 in
theorem k_X10_init_20 {p : Program} {l : Launch} {e : Env} {s : State} {m : MethodId} {args : Array Value} {below : List Frame} {meth : Method} {c : Code} {g : GE} {A : Nat → Prop} {h0 h1 : Nat} {x_threshold : Int32} {res : (Nat → Int32) × Int32} {z40 : (Nat → Int32) → Option ((Nat → Int32) × Int32)}
    (E : En cX10_init RX10 wsX10_init 2 none p s m args meth c) (hK : KK g s) (hA : ∀ q, s.heap.size ≤ q → A q)
    (hz40 : ∀ (x_cells_40e : Nat → Int32) (H : Heap) (locs : List Loc) (ls : Array Slot), z40 x_cells_40e = some res → Wo g A s H locs (w_X10 g h0 h1 x_cells_40e x_threshold) → lv_has ls 2 [] → G_X10_init p l e s m args below meth c g A h0 res H locs 40 ls [])
    : ∀ (n : Nat) (l1_20 : Int32) (x_cells_20 : Nat → Int32) (H : Heap) (locs : List Loc) (ls : Array Slot), f_X10_init_20 z40 n l1_20 x_cells_20 = some res → Wo g A s H locs (w_X10 g h0 h1 x_cells_20 x_threshold) → lv_has ls 2 [(0, .ref h0), (1, .int l1_20)] → G_X10_init p l e s m args below meth c g A h0 res H locs 20 ls [] := by
  have hts := E.2.2.2.1
  intro n
  induction n with
  | zero => intro l1_20 x_cells_20 H locs ls h hW hl; rw [f_X10_init_20] at h; cases h
  | succ n ih =>
    intro l1_20 x_cells_20 H locs ls h hW hl
    rw [f_X10_init_20] at h
    refine lv_iload_n E.1 E.2.1 dX10_init_20 rfl (lv_at hl 1 rfl) ?_
    refine lv_bipush (v := 25) E.1 E.2.1 dX10_init_21 (by decide) ?_
    refine lv_icmp_ge (tgt := 40) E.1 E.2.1 dX10_init_23 (by decide) (fun c23 => ?_) (fun c23 => ?_)
    · have h := it c23 h
      exact hz40 x_cells_20 H locs ls h hW (lv_sub hl [] rfl)
    · have h := ie c23 h
      refine lv_aload_n E.1 E.2.1 dX10_init_26 rfl (lv_at hl 0 rfl) ?_
      refine wGet (v := .ref h1) E hK in_X10_init_X10 hW 0 lk_X10_init_9 0 rfl rfl (by decide) rfl rfl dX10_init_27 ?_
      refine lv_iload_n E.1 E.2.1 dX10_init_30 rfl (lv_at hl 1 rfl) ?_
      refine lv_bipush (v := 50) E.1 E.2.1 dX10_init_31 (by decide) ?_
      obtain ⟨hi33, h⟩ := ox h
      refine wIast (world' := (w_X10 g h0 h1 (upd x_cells_20 l1_20.toNatClampNeg 50) x_threshold)) E hK hW 1 rfl hi33 dX10_init_33 rfl (fun H locs hW => ?_)
      refine lv_iinc (v := (l1_20 + 1)) (lv' := [(1, .int (l1_20 + 1)), (0, .ref h0)]) E.1 E.2.1 dX10_init_34 hl (k := 1) rfl rfl (by decide) rfl (fun ls hl => ?_)
      refine lv_goto (tgt := 20) E.1 E.2.1 dX10_init_37 (by decide) ?_
      exact ih (l1_20 + 1) (upd x_cells_20 l1_20.toNatClampNeg 50) H locs ls h hW (lv_sub hl [1, 0] rfl)
set_option maxHeartbeats 4000000 in
set_option maxRecDepth 100000 in
theorem k_X10_init_0 {p : Program} {l : Launch} {e : Env} {s : State} {m : MethodId} {args : Array Value} {below : List Frame} {meth : Method} {c : Code} {g : GE} {A : Nat → Prop} {h0 : Nat} {res : (Nat → Int32) × Int32} {H : Heap} {locs : List Loc} {ls : Array Slot} (E : En cX10_init RX10 wsX10_init 2 none p s m args meth c) (hini : meth.name = "<init>") (hK : KK g s) (hA : ∀ q, s.heap.size ≤ q → A q) (h : f_X10_init = some res) (hW : Wo g A s H locs [(h0, .inr (10, [.null, .int 0]))]) (hl : lv_has ls 2 [(0, .ref h0)]) : W p l e (headSpec wsX10_init rm_X10_init).room s m args below meth c H locs 0 0 (MQ below (PoN g A (fun u => w_X10 g h0 (u 0) res.1 res.2)) args s 1 25 A) (F0 m 0 ls []) := by
  have hts := E.2.2.2.1
  unfold f_X10_init at h
  refine lv_aload_n E.1 E.2.1 dX10_init_0 rfl (lv_at hl 0 rfl) ?_
  refine W.objInit E.1 E.2.1 E.2.2.2.2.1 (hts _ lk_X10_init_3a) (hts _ lk_X10_init_3b) (hts _ lk_X10_init_3c) rfl (by rw [E.2.2.2.2.2.2]; exact hl.1) rfl dX10_init_1 (Nat.le_of_ble_eq_true rfl) (Nat.le_of_ble_eq_true rfl) ?_
  refine W.eq (g2 := F0 m 4 ls []) rfl ?_
  refine lv_aload_n E.1 E.2.1 dX10_init_4 rfl (lv_at hl 0 rfl) ?_
  refine lv_bipush (v := 25) E.1 E.2.1 dX10_init_5 (by decide) ?_
  refine wNewa (atype := .int) (a0 := (25, .inl (fun _ => 0))) (ty := .int) E hK lk_X10_init_arr_int rfl hW hA 0 rfl (fun _ q => by cases q) (arr0I 25 .int rfl) (by decide) (by decide) (Nat.le_of_ble_eq_true rfl) (Nat.le_of_ble_eq_true rfl) (Nat.le_of_ble_eq_true rfl) dX10_init_7 (fun h1 H locs hW => ?_)
  refine W.widen (k := 1) (n := 25) (Nat.le_of_ble_eq_true rfl) (Nat.le_of_ble_eq_true rfl) ?_
  have hW : Wo g A s H locs ([(h0, .inr (10, [.null, .int 0])), (h1, .inl (g.2 0, 25, .inl (fun _ => 0)))]) := hW
  refine wPutF (ty := (.array .int)) (world' := ([(h0, .inr (10, [.ref h1, .int 0])), (h1, .inl (g.2 0, 25, .inl (fun _ => 0)))])) E hK in_X10_init_X10 tyX10 tyX10_ok nmX10 hW 0 lk_X10_init_9 0 rfl rfl (by decide) rfl rfl hini rfl (by decide +kernel) rfl rfl (Nat.le_of_ble_eq_true rfl) dX10_init_9 rfl (fun H locs hW => ?_)
  refine lv_aload_n E.1 E.2.1 dX10_init_12 rfl (lv_at hl 0 rfl) ?_
  refine lv_bipush (v := 20) E.1 E.2.1 dX10_init_13 (by decide) ?_
  refine wPut (world' := ([(h0, .inr (10, [.ref h1, .int 20])), (h1, .inl (g.2 0, 25, .inl (fun _ => 0)))])) E hK in_X10_init_X10 tyX10 tyX10_ok nmX10 hW 1 lk_X10_init_15 0 rfl rfl (by decide) rfl rfl rfl rfl rfl (Nat.le_of_ble_eq_true rfl) dX10_init_15 rfl (fun H locs hW => ?_)
  refine lv_iconst (v := 0) E.1 E.2.1 dX10_init_18 (by decide) ?_
  refine lv_istore_n (lv' := [(1, .int 0), (0, .ref h0)]) E.1 E.2.1 dX10_init_19 rfl hl (by decide) rfl (fun ls hl => ?_)
  have hW : Wo g A s H locs (w_X10 g h0 h1 (fun _ => 0) 20) := hW
  refine k_X10_init_20 E hK hA ?_ 1000 0 (fun _ => 0) H locs ls h hW (lv_sub hl [1, 0] rfl)
  · intro x_cells_40e H locs ls h hW hl
    obtain rfl := Option.some.inj h
    exact endN (fun k => ([h1] : List Nat).getD k 0) E hW rfl rfl rfl dX10_init_40
theorem c_X10_init (l : Launch) (g : GE) (h0 : Nat) {res : (Nat → Int32) × Int32} (hf : f_X10_init = some res) : CN l yX10_init wsX10_init rm_X10_init g [.ref h0] [(h0, .inr (10, [.null, .int 0]))] (fun u => w_X10 g h0 (u 0) res.1 res.2) 1 25 :=
  mkN (cc := cX10_init) (maxL := 2) (by decide) rfl rfl (Nat.le_of_ble_eq_true rfl) (fun p e s m args below meth c A H locs ls E hini hK hA hW hl => k_X10_init_0 E hini hK hA hf hW hl)

/-! PaperStorm$Climate.<init> -/
abbrev rm_X2_init : Room := { frames := 1, cells := 1, slots := 16, locals := 20 }
theorem in_X2_init_X2 : ∀ w ∈ wsX20, w ∈ wsX2_init := by decide +kernel
theorem lk_X2_init_15 : Cond.fieldLink RX2 15 "PaperStorm$Climate" "present" "I" ∈ wsX2_init := by decide +kernel
theorem lk_X2_init_3a : Cond.methodLink RX2 3 objectInit ∈ wsX2_init := by decide +kernel
theorem lk_X2_init_3b : Cond.instanceMethod objectInit ∈ wsX2_init := by decide +kernel
theorem lk_X2_init_3c : Cond.code objectInit ⟨#[0xb1]⟩ 1 none ∈ wsX2_init := by decide +kernel
theorem lk_X2_init_9 : Cond.fieldLink RX2 9 "PaperStorm$Climate" "weights" "[I" ∈ wsX2_init := by decide +kernel
theorem lk_X2_init_arr_int : Cond.arrayClass .int ∈ wsX2_init := by decide +kernel
noncomputable def f_X2_init_19 (z38 : (Nat → Int32) → Option ((Nat → Int32) × Int32)) : Nat → Int32 → (Nat → Int32) → Option ((Nat → Int32) × Int32)
  | 0, _, _ => none
  | n + 1, l1_19, x_weights_19 => if 16 ≤ l1_19 then z38 x_weights_19 else if l1_19 < 0 ∨ 16 ≤ l1_19.toNatClampNeg then none else f_X2_init_19 z38 n (l1_19 + 1) (upd x_weights_19 l1_19.toNatClampNeg 1)
noncomputable def f_X2_init : Option ((Nat → Int32) × Int32) :=
  f_X2_init_19 (fun x_weights_38e => some (x_weights_38e, 0)) 1000 0 (fun _ => 0)
abbrev G_X2_init (p : Program) (l : Launch) (e : Env) (s : State) (m : MethodId) (args : Array Value) (below : List Frame) (meth : Method) (c : Code) (g : GE) (A : Nat → Prop) (h0 : Nat) (res : (Nat → Int32) × Int32) (H : Heap) (locs : List Loc) (pc : Nat) (ls : Array Slot) (st : List Value) : Prop := W p l e (headSpec wsX2_init rm_X2_init).room s m args below meth c H locs 1 16 (MQ below (PoN g A (fun u => w_X2 g h0 (u 0) res.1 res.2)) args s 1 16 A) (F0 m pc ls st)
set_option maxHeartbeats 4000000 in
set_option maxRecDepth 100000 in
theorem k_X2_init_19 {p : Program} {l : Launch} {e : Env} {s : State} {m : MethodId} {args : Array Value} {below : List Frame} {meth : Method} {c : Code} {g : GE} {A : Nat → Prop} {h0 h1 : Nat} {x_present : Int32} {res : (Nat → Int32) × Int32} {z38 : (Nat → Int32) → Option ((Nat → Int32) × Int32)}
    (E : En cX2_init RX2 wsX2_init 2 none p s m args meth c) (hK : KK g s) (hA : ∀ q, s.heap.size ≤ q → A q)
    (hz38 : ∀ (x_weights_38e : Nat → Int32) (H : Heap) (locs : List Loc) (ls : Array Slot), z38 x_weights_38e = some res → Wo g A s H locs (w_X2 g h0 h1 x_weights_38e x_present) → lv_has ls 2 [] → G_X2_init p l e s m args below meth c g A h0 res H locs 38 ls [])
    : ∀ (n : Nat) (l1_19 : Int32) (x_weights_19 : Nat → Int32) (H : Heap) (locs : List Loc) (ls : Array Slot), f_X2_init_19 z38 n l1_19 x_weights_19 = some res → Wo g A s H locs (w_X2 g h0 h1 x_weights_19 x_present) → lv_has ls 2 [(0, .ref h0), (1, .int l1_19)] → G_X2_init p l e s m args below meth c g A h0 res H locs 19 ls [] := by
  have hts := E.2.2.2.1
  intro n
  induction n with
  | zero => intro l1_19 x_weights_19 H locs ls h hW hl; rw [f_X2_init_19] at h; cases h
  | succ n ih =>
    intro l1_19 x_weights_19 H locs ls h hW hl
    rw [f_X2_init_19] at h
    refine lv_iload_n E.1 E.2.1 dX2_init_19 rfl (lv_at hl 1 rfl) ?_
    refine lv_bipush (v := 16) E.1 E.2.1 dX2_init_20 (by decide) ?_
    refine lv_icmp_ge (tgt := 38) E.1 E.2.1 dX2_init_22 (by decide) (fun c22 => ?_) (fun c22 => ?_)
    · have h := it c22 h
      exact hz38 x_weights_19 H locs ls h hW (lv_sub hl [] rfl)
    · have h := ie c22 h
      refine lv_aload_n E.1 E.2.1 dX2_init_25 rfl (lv_at hl 0 rfl) ?_
      refine wGet (v := .ref h1) E hK in_X2_init_X2 hW 0 lk_X2_init_9 0 rfl rfl (by decide) rfl rfl dX2_init_26 ?_
      refine lv_iload_n E.1 E.2.1 dX2_init_29 rfl (lv_at hl 1 rfl) ?_
      refine lv_iconst (v := 1) E.1 E.2.1 dX2_init_30 (by decide) ?_
      obtain ⟨hi31, h⟩ := ox h
      refine wIast (world' := (w_X2 g h0 h1 (upd x_weights_19 l1_19.toNatClampNeg 1) x_present)) E hK hW 1 rfl hi31 dX2_init_31 rfl (fun H locs hW => ?_)
      refine lv_iinc (v := (l1_19 + 1)) (lv' := [(1, .int (l1_19 + 1)), (0, .ref h0)]) E.1 E.2.1 dX2_init_32 hl (k := 1) rfl rfl (by decide) rfl (fun ls hl => ?_)
      refine lv_goto (tgt := 19) E.1 E.2.1 dX2_init_35 (by decide) ?_
      exact ih (l1_19 + 1) (upd x_weights_19 l1_19.toNatClampNeg 1) H locs ls h hW (lv_sub hl [1, 0] rfl)
set_option maxHeartbeats 4000000 in
set_option maxRecDepth 100000 in
theorem k_X2_init_0 {p : Program} {l : Launch} {e : Env} {s : State} {m : MethodId} {args : Array Value} {below : List Frame} {meth : Method} {c : Code} {g : GE} {A : Nat → Prop} {h0 : Nat} {res : (Nat → Int32) × Int32} {H : Heap} {locs : List Loc} {ls : Array Slot} (E : En cX2_init RX2 wsX2_init 2 none p s m args meth c) (hini : meth.name = "<init>") (hK : KK g s) (hA : ∀ q, s.heap.size ≤ q → A q) (h : f_X2_init = some res) (hW : Wo g A s H locs [(h0, .inr (3, [.null, .int 0]))]) (hl : lv_has ls 2 [(0, .ref h0)]) : W p l e (headSpec wsX2_init rm_X2_init).room s m args below meth c H locs 0 0 (MQ below (PoN g A (fun u => w_X2 g h0 (u 0) res.1 res.2)) args s 1 16 A) (F0 m 0 ls []) := by
  have hts := E.2.2.2.1
  unfold f_X2_init at h
  refine lv_aload_n E.1 E.2.1 dX2_init_0 rfl (lv_at hl 0 rfl) ?_
  refine W.objInit E.1 E.2.1 E.2.2.2.2.1 (hts _ lk_X2_init_3a) (hts _ lk_X2_init_3b) (hts _ lk_X2_init_3c) rfl (by rw [E.2.2.2.2.2.2]; exact hl.1) rfl dX2_init_1 (Nat.le_of_ble_eq_true rfl) (Nat.le_of_ble_eq_true rfl) ?_
  refine W.eq (g2 := F0 m 4 ls []) rfl ?_
  refine lv_aload_n E.1 E.2.1 dX2_init_4 rfl (lv_at hl 0 rfl) ?_
  refine lv_bipush (v := 16) E.1 E.2.1 dX2_init_5 (by decide) ?_
  refine wNewa (atype := .int) (a0 := (16, .inl (fun _ => 0))) (ty := .int) E hK lk_X2_init_arr_int rfl hW hA 0 rfl (fun _ q => by cases q) (arr0I 16 .int rfl) (by decide) (by decide) (Nat.le_of_ble_eq_true rfl) (Nat.le_of_ble_eq_true rfl) (Nat.le_of_ble_eq_true rfl) dX2_init_7 (fun h1 H locs hW => ?_)
  refine W.widen (k := 1) (n := 16) (Nat.le_of_ble_eq_true rfl) (Nat.le_of_ble_eq_true rfl) ?_
  have hW : Wo g A s H locs ([(h0, .inr (3, [.null, .int 0])), (h1, .inl (g.2 0, 16, .inl (fun _ => 0)))]) := hW
  refine wPutF (ty := (.array .int)) (world' := ([(h0, .inr (3, [.ref h1, .int 0])), (h1, .inl (g.2 0, 16, .inl (fun _ => 0)))])) E hK in_X2_init_X2 tyX2 tyX2_ok nmX2 hW 0 lk_X2_init_9 0 rfl rfl (by decide) rfl rfl hini rfl (by decide +kernel) rfl rfl (Nat.le_of_ble_eq_true rfl) dX2_init_9 rfl (fun H locs hW => ?_)
  refine lv_aload_n E.1 E.2.1 dX2_init_12 rfl (lv_at hl 0 rfl) ?_
  refine lv_iconst (v := 0) E.1 E.2.1 dX2_init_13 (by decide) ?_
  refine wPut (world' := ([(h0, .inr (3, [.ref h1, .int 0])), (h1, .inl (g.2 0, 16, .inl (fun _ => 0)))])) E hK in_X2_init_X2 tyX2 tyX2_ok nmX2 hW 1 lk_X2_init_15 0 rfl rfl (by decide) rfl rfl rfl rfl rfl (Nat.le_of_ble_eq_true rfl) dX2_init_14 rfl (fun H locs hW => ?_)
  refine lv_iconst (v := 0) E.1 E.2.1 dX2_init_17 (by decide) ?_
  refine lv_istore_n (lv' := [(1, .int 0), (0, .ref h0)]) E.1 E.2.1 dX2_init_18 rfl hl (by decide) rfl (fun ls hl => ?_)
  have hW : Wo g A s H locs (w_X2 g h0 h1 (fun _ => 0) 0) := hW
  refine k_X2_init_19 E hK hA ?_ 1000 0 (fun _ => 0) H locs ls h hW (lv_sub hl [1, 0] rfl)
  · intro x_weights_38e H locs ls h hW hl
    obtain rfl := Option.some.inj h
    exact endN (fun k => ([h1] : List Nat).getD k 0) E hW rfl rfl rfl dX2_init_38
theorem c_X2_init (l : Launch) (g : GE) (h0 : Nat) {res : (Nat → Int32) × Int32} (hf : f_X2_init = some res) : CN l yX2_init wsX2_init rm_X2_init g [.ref h0] [(h0, .inr (3, [.null, .int 0]))] (fun u => w_X2 g h0 (u 0) res.1 res.2) 1 16 :=
  mkN (cc := cX2_init) (maxL := 2) (by decide) rfl rfl (Nat.le_of_ble_eq_true rfl) (fun p e s m args below meth c A H locs ls E hini hK hA hW hl => k_X2_init_0 E hini hK hA hf hW hl)

/-! PaperStorm$Forecasts.<init> -/
abbrev rm_X4_init : Room := { frames := 1, cells := 2, slots := 12, locals := 20 }
theorem in_X4_init_X4 : ∀ w ∈ wsX40, w ∈ wsX4_init := by decide +kernel
theorem lk_X4_init_15 : Cond.fieldLink RX4 15 "PaperStorm$Forecasts" "weathers" "[I" ∈ wsX4_init := by decide +kernel
theorem lk_X4_init_18 : Cond.fieldLink RX4 18 "PaperStorm$Forecasts" "count" "I" ∈ wsX4_init := by decide +kernel
theorem lk_X4_init_22 : Cond.fieldLink RX4 22 "PaperStorm$Forecasts" "scored" "I" ∈ wsX4_init := by decide +kernel
theorem lk_X4_init_25 : Cond.fieldLink RX4 25 "PaperStorm$Forecasts" "errors" "I" ∈ wsX4_init := by decide +kernel
theorem lk_X4_init_28 : Cond.fieldLink RX4 28 "PaperStorm$Forecasts" "hits" "I" ∈ wsX4_init := by decide +kernel
theorem lk_X4_init_3a : Cond.methodLink RX4 3 objectInit ∈ wsX4_init := by decide +kernel
theorem lk_X4_init_3b : Cond.instanceMethod objectInit ∈ wsX4_init := by decide +kernel
theorem lk_X4_init_3c : Cond.code objectInit ⟨#[0xb1]⟩ 1 none ∈ wsX4_init := by decide +kernel
theorem lk_X4_init_9 : Cond.fieldLink RX4 9 "PaperStorm$Forecasts" "days" "[I" ∈ wsX4_init := by decide +kernel
theorem lk_X4_init_arr_int : Cond.arrayClass .int ∈ wsX4_init := by decide +kernel
noncomputable def f_X4_init : Option ((Nat → Int32) × (Nat → Int32) × Int32 × Int32 × Int32 × Int32) :=
  some ((fun _ => 0), (fun _ => 0), 0, 0, 0, 0)
abbrev G_X4_init (p : Program) (l : Launch) (e : Env) (s : State) (m : MethodId) (args : Array Value) (below : List Frame) (meth : Method) (c : Code) (g : GE) (A : Nat → Prop) (h0 : Nat) (res : (Nat → Int32) × (Nat → Int32) × Int32 × Int32 × Int32 × Int32) (H : Heap) (locs : List Loc) (pc : Nat) (ls : Array Slot) (st : List Value) : Prop := W p l e (headSpec wsX4_init rm_X4_init).room s m args below meth c H locs 2 12 (MQ below (PoN g A (fun u => w_X4 g h0 (u 0) (u 1) res.1 res.2.1 res.2.2.1 res.2.2.2.1 res.2.2.2.2.1 res.2.2.2.2.2)) args s 2 12 A) (F0 m pc ls st)
set_option maxHeartbeats 4000000 in
set_option maxRecDepth 100000 in
theorem k_X4_init_0 {p : Program} {l : Launch} {e : Env} {s : State} {m : MethodId} {args : Array Value} {below : List Frame} {meth : Method} {c : Code} {g : GE} {A : Nat → Prop} {h0 : Nat} {res : (Nat → Int32) × (Nat → Int32) × Int32 × Int32 × Int32 × Int32} {H : Heap} {locs : List Loc} {ls : Array Slot} (E : En cX4_init RX4 wsX4_init 1 none p s m args meth c) (hini : meth.name = "<init>") (hK : KK g s) (hA : ∀ q, s.heap.size ≤ q → A q) (h : f_X4_init = some res) (hW : Wo g A s H locs [(h0, .inr (5, [.null, .null, .int 0, .int 0, .int 0, .int 0]))]) (hl : lv_has ls 1 [(0, .ref h0)]) : W p l e (headSpec wsX4_init rm_X4_init).room s m args below meth c H locs 0 0 (MQ below (PoN g A (fun u => w_X4 g h0 (u 0) (u 1) res.1 res.2.1 res.2.2.1 res.2.2.2.1 res.2.2.2.2.1 res.2.2.2.2.2)) args s 2 12 A) (F0 m 0 ls []) := by
  have hts := E.2.2.2.1
  unfold f_X4_init at h
  refine lv_aload_n E.1 E.2.1 dX4_init_0 rfl (lv_at hl 0 rfl) ?_
  refine W.objInit E.1 E.2.1 E.2.2.2.2.1 (hts _ lk_X4_init_3a) (hts _ lk_X4_init_3b) (hts _ lk_X4_init_3c) rfl (by rw [E.2.2.2.2.2.2]; exact hl.1) rfl dX4_init_1 (Nat.le_of_ble_eq_true rfl) (Nat.le_of_ble_eq_true rfl) ?_
  refine W.eq (g2 := F0 m 4 ls []) rfl ?_
  refine lv_aload_n E.1 E.2.1 dX4_init_4 rfl (lv_at hl 0 rfl) ?_
  refine lv_bipush (v := 6) E.1 E.2.1 dX4_init_5 (by decide) ?_
  refine wNewa (atype := .int) (a0 := (6, .inl (fun _ => 0))) (ty := .int) E hK lk_X4_init_arr_int rfl hW hA 0 rfl (fun _ q => by cases q) (arr0I 6 .int rfl) (by decide) (by decide) (Nat.le_of_ble_eq_true rfl) (Nat.le_of_ble_eq_true rfl) (Nat.le_of_ble_eq_true rfl) dX4_init_7 (fun h1 H locs hW => ?_)
  refine W.widen (k := 1) (n := 6) (Nat.le_of_ble_eq_true rfl) (Nat.le_of_ble_eq_true rfl) ?_
  have hW : Wo g A s H locs ([(h0, .inr (5, [.null, .null, .int 0, .int 0, .int 0, .int 0])), (h1, .inl (g.2 0, 6, .inl (fun _ => 0)))]) := hW
  refine wPutF (ty := (.array .int)) (world' := ([(h0, .inr (5, [.ref h1, .null, .int 0, .int 0, .int 0, .int 0])), (h1, .inl (g.2 0, 6, .inl (fun _ => 0)))])) E hK in_X4_init_X4 tyX4 tyX4_ok nmX4 hW 0 lk_X4_init_9 0 rfl rfl (by decide) rfl rfl hini rfl (by decide +kernel) rfl rfl (Nat.le_of_ble_eq_true rfl) dX4_init_9 rfl (fun H locs hW => ?_)
  refine lv_aload_n E.1 E.2.1 dX4_init_12 rfl (lv_at hl 0 rfl) ?_
  refine lv_bipush (v := 6) E.1 E.2.1 dX4_init_13 (by decide) ?_
  refine wNewa (atype := .int) (a0 := (6, .inl (fun _ => 0))) (ty := .int) E hK lk_X4_init_arr_int rfl hW hA 0 rfl (fun _ q => by cases q) (arr0I 6 .int rfl) (by decide) (by decide) (Nat.le_of_ble_eq_true rfl) (Nat.le_of_ble_eq_true rfl) (Nat.le_of_ble_eq_true rfl) dX4_init_15 (fun h2 H locs hW => ?_)
  refine W.widen (k := 2) (n := 12) (Nat.le_of_ble_eq_true rfl) (Nat.le_of_ble_eq_true rfl) ?_
  have hW : Wo g A s H locs ([(h0, .inr (5, [.ref h1, .null, .int 0, .int 0, .int 0, .int 0])), (h1, .inl (g.2 0, 6, .inl (fun _ => 0))), (h2, .inl (g.2 0, 6, .inl (fun _ => 0)))]) := hW
  refine wPutF (ty := (.array .int)) (world' := ([(h0, .inr (5, [.ref h1, .ref h2, .int 0, .int 0, .int 0, .int 0])), (h1, .inl (g.2 0, 6, .inl (fun _ => 0))), (h2, .inl (g.2 0, 6, .inl (fun _ => 0)))])) E hK in_X4_init_X4 tyX4 tyX4_ok nmX4 hW 1 lk_X4_init_15 0 rfl rfl (by decide) rfl rfl hini rfl (by decide +kernel) rfl rfl (Nat.le_of_ble_eq_true rfl) dX4_init_17 rfl (fun H locs hW => ?_)
  refine lv_aload_n E.1 E.2.1 dX4_init_20 rfl (lv_at hl 0 rfl) ?_
  refine lv_iconst (v := 0) E.1 E.2.1 dX4_init_21 (by decide) ?_
  refine wPut (world' := ([(h0, .inr (5, [.ref h1, .ref h2, .int 0, .int 0, .int 0, .int 0])), (h1, .inl (g.2 0, 6, .inl (fun _ => 0))), (h2, .inl (g.2 0, 6, .inl (fun _ => 0)))])) E hK in_X4_init_X4 tyX4 tyX4_ok nmX4 hW 2 lk_X4_init_18 0 rfl rfl (by decide) rfl rfl rfl rfl rfl (Nat.le_of_ble_eq_true rfl) dX4_init_22 rfl (fun H locs hW => ?_)
  refine lv_aload_n E.1 E.2.1 dX4_init_25 rfl (lv_at hl 0 rfl) ?_
  refine lv_iconst (v := 0) E.1 E.2.1 dX4_init_26 (by decide) ?_
  refine wPut (world' := ([(h0, .inr (5, [.ref h1, .ref h2, .int 0, .int 0, .int 0, .int 0])), (h1, .inl (g.2 0, 6, .inl (fun _ => 0))), (h2, .inl (g.2 0, 6, .inl (fun _ => 0)))])) E hK in_X4_init_X4 tyX4 tyX4_ok nmX4 hW 3 lk_X4_init_22 0 rfl rfl (by decide) rfl rfl rfl rfl rfl (Nat.le_of_ble_eq_true rfl) dX4_init_27 rfl (fun H locs hW => ?_)
  refine lv_aload_n E.1 E.2.1 dX4_init_30 rfl (lv_at hl 0 rfl) ?_
  refine lv_iconst (v := 0) E.1 E.2.1 dX4_init_31 (by decide) ?_
  refine wPut (world' := ([(h0, .inr (5, [.ref h1, .ref h2, .int 0, .int 0, .int 0, .int 0])), (h1, .inl (g.2 0, 6, .inl (fun _ => 0))), (h2, .inl (g.2 0, 6, .inl (fun _ => 0)))])) E hK in_X4_init_X4 tyX4 tyX4_ok nmX4 hW 4 lk_X4_init_25 0 rfl rfl (by decide) rfl rfl rfl rfl rfl (Nat.le_of_ble_eq_true rfl) dX4_init_32 rfl (fun H locs hW => ?_)
  refine lv_aload_n E.1 E.2.1 dX4_init_35 rfl (lv_at hl 0 rfl) ?_
  refine lv_iconst (v := 0) E.1 E.2.1 dX4_init_36 (by decide) ?_
  refine wPut (world' := ([(h0, .inr (5, [.ref h1, .ref h2, .int 0, .int 0, .int 0, .int 0])), (h1, .inl (g.2 0, 6, .inl (fun _ => 0))), (h2, .inl (g.2 0, 6, .inl (fun _ => 0)))])) E hK in_X4_init_X4 tyX4 tyX4_ok nmX4 hW 5 lk_X4_init_28 0 rfl rfl (by decide) rfl rfl rfl rfl rfl (Nat.le_of_ble_eq_true rfl) dX4_init_37 rfl (fun H locs hW => ?_)
  obtain rfl := Option.some.inj h
  have hW : Wo g A s H locs (w_X4 g h0 h1 h2 (fun _ => 0) (fun _ => 0) 0 0 0 0) := hW
  exact endN (fun k => ([h1, h2] : List Nat).getD k 0) E hW rfl rfl rfl dX4_init_40
theorem c_X4_init (l : Launch) (g : GE) (h0 : Nat) {res : (Nat → Int32) × (Nat → Int32) × Int32 × Int32 × Int32 × Int32} (hf : f_X4_init = some res) : CN l yX4_init wsX4_init rm_X4_init g [.ref h0] [(h0, .inr (5, [.null, .null, .int 0, .int 0, .int 0, .int 0]))] (fun u => w_X4 g h0 (u 0) (u 1) res.1 res.2.1 res.2.2.1 res.2.2.2.1 res.2.2.2.2.1 res.2.2.2.2.2) 2 12 :=
  mkN (cc := cX4_init) (maxL := 1) (by decide) rfl rfl (Nat.le_of_ble_eq_true rfl) (fun p e s m args below meth c A H locs ls E hini hK hA hW hl => k_X4_init_0 E hini hK hA hf hW hl)

/-! PaperStorm$Fractions.<init> -/
abbrev rm_X5_init : Room := { frames := 1, cells := 2, slots := 8, locals := 20 }
theorem in_X5_init_X5 : ∀ w ∈ wsX50, w ∈ wsX5_init := by decide +kernel
theorem lk_X5_init_15 : Cond.fieldLink RX5 15 "PaperStorm$Fractions" "denominators" "[J" ∈ wsX5_init := by decide +kernel
theorem lk_X5_init_3a : Cond.methodLink RX5 3 objectInit ∈ wsX5_init := by decide +kernel
theorem lk_X5_init_3b : Cond.instanceMethod objectInit ∈ wsX5_init := by decide +kernel
theorem lk_X5_init_3c : Cond.code objectInit ⟨#[0xb1]⟩ 1 none ∈ wsX5_init := by decide +kernel
theorem lk_X5_init_9 : Cond.fieldLink RX5 9 "PaperStorm$Fractions" "numerators" "[J" ∈ wsX5_init := by decide +kernel
theorem lk_X5_init_arr_long : Cond.arrayClass .long ∈ wsX5_init := by decide +kernel
noncomputable def f_X5_init : Option ((Nat → Int64) × (Nat → Int64)) :=
  some ((fun _ => 0), (fun _ => 0))
abbrev G_X5_init (p : Program) (l : Launch) (e : Env) (s : State) (m : MethodId) (args : Array Value) (below : List Frame) (meth : Method) (c : Code) (g : GE) (A : Nat → Prop) (h0 : Nat) (res : (Nat → Int64) × (Nat → Int64)) (H : Heap) (locs : List Loc) (pc : Nat) (ls : Array Slot) (st : List Value) : Prop := W p l e (headSpec wsX5_init rm_X5_init).room s m args below meth c H locs 2 8 (MQ below (PoN g A (fun u => w_X5 g h0 (u 0) (u 1) res.1 res.2)) args s 2 8 A) (F0 m pc ls st)
set_option maxHeartbeats 4000000 in
set_option maxRecDepth 100000 in
theorem k_X5_init_0 {p : Program} {l : Launch} {e : Env} {s : State} {m : MethodId} {args : Array Value} {below : List Frame} {meth : Method} {c : Code} {g : GE} {A : Nat → Prop} {h0 : Nat} {res : (Nat → Int64) × (Nat → Int64)} {H : Heap} {locs : List Loc} {ls : Array Slot} (E : En cX5_init RX5 wsX5_init 1 none p s m args meth c) (hini : meth.name = "<init>") (hK : KK g s) (hA : ∀ q, s.heap.size ≤ q → A q) (h : f_X5_init = some res) (hW : Wo g A s H locs [(h0, .inr (6, [.null, .null]))]) (hl : lv_has ls 1 [(0, .ref h0)]) : W p l e (headSpec wsX5_init rm_X5_init).room s m args below meth c H locs 0 0 (MQ below (PoN g A (fun u => w_X5 g h0 (u 0) (u 1) res.1 res.2)) args s 2 8 A) (F0 m 0 ls []) := by
  have hts := E.2.2.2.1
  unfold f_X5_init at h
  refine lv_aload_n E.1 E.2.1 dX5_init_0 rfl (lv_at hl 0 rfl) ?_
  refine W.objInit E.1 E.2.1 E.2.2.2.2.1 (hts _ lk_X5_init_3a) (hts _ lk_X5_init_3b) (hts _ lk_X5_init_3c) rfl (by rw [E.2.2.2.2.2.2]; exact hl.1) rfl dX5_init_1 (Nat.le_of_ble_eq_true rfl) (Nat.le_of_ble_eq_true rfl) ?_
  refine W.eq (g2 := F0 m 4 ls []) rfl ?_
  refine lv_aload_n E.1 E.2.1 dX5_init_4 rfl (lv_at hl 0 rfl) ?_
  refine lv_iconst (v := 4) E.1 E.2.1 dX5_init_5 (by decide) ?_
  refine wNewa (atype := .long) (a0 := (4, .inr (.inl (fun _ => 0)))) (ty := .long) E hK lk_X5_init_arr_long rfl hW hA 1 rfl (fun _ q => by cases q) (arr0J 4) (by decide) (by decide) (Nat.le_of_ble_eq_true rfl) (Nat.le_of_ble_eq_true rfl) (Nat.le_of_ble_eq_true rfl) dX5_init_6 (fun h1 H locs hW => ?_)
  refine W.widen (k := 1) (n := 4) (Nat.le_of_ble_eq_true rfl) (Nat.le_of_ble_eq_true rfl) ?_
  have hW : Wo g A s H locs ([(h0, .inr (6, [.null, .null])), (h1, .inl (g.2 1, 4, .inr (.inl (fun _ => 0))))]) := hW
  refine wPutF (ty := (.array .long)) (world' := ([(h0, .inr (6, [.ref h1, .null])), (h1, .inl (g.2 1, 4, .inr (.inl (fun _ => 0))))])) E hK in_X5_init_X5 tyX5 tyX5_ok nmX5 hW 0 lk_X5_init_9 0 rfl rfl (by decide) rfl rfl hini rfl (by decide +kernel) rfl rfl (Nat.le_of_ble_eq_true rfl) dX5_init_8 rfl (fun H locs hW => ?_)
  refine lv_aload_n E.1 E.2.1 dX5_init_11 rfl (lv_at hl 0 rfl) ?_
  refine lv_iconst (v := 4) E.1 E.2.1 dX5_init_12 (by decide) ?_
  refine wNewa (atype := .long) (a0 := (4, .inr (.inl (fun _ => 0)))) (ty := .long) E hK lk_X5_init_arr_long rfl hW hA 1 rfl (fun _ q => by cases q) (arr0J 4) (by decide) (by decide) (Nat.le_of_ble_eq_true rfl) (Nat.le_of_ble_eq_true rfl) (Nat.le_of_ble_eq_true rfl) dX5_init_13 (fun h2 H locs hW => ?_)
  refine W.widen (k := 2) (n := 8) (Nat.le_of_ble_eq_true rfl) (Nat.le_of_ble_eq_true rfl) ?_
  have hW : Wo g A s H locs ([(h0, .inr (6, [.ref h1, .null])), (h1, .inl (g.2 1, 4, .inr (.inl (fun _ => 0)))), (h2, .inl (g.2 1, 4, .inr (.inl (fun _ => 0))))]) := hW
  refine wPutF (ty := (.array .long)) (world' := ([(h0, .inr (6, [.ref h1, .ref h2])), (h1, .inl (g.2 1, 4, .inr (.inl (fun _ => 0)))), (h2, .inl (g.2 1, 4, .inr (.inl (fun _ => 0))))])) E hK in_X5_init_X5 tyX5 tyX5_ok nmX5 hW 1 lk_X5_init_15 0 rfl rfl (by decide) rfl rfl hini rfl (by decide +kernel) rfl rfl (Nat.le_of_ble_eq_true rfl) dX5_init_15 rfl (fun H locs hW => ?_)
  obtain rfl := Option.some.inj h
  have hW : Wo g A s H locs (w_X5 g h0 h1 h2 (fun _ => 0) (fun _ => 0)) := hW
  exact endN (fun k => ([h1, h2] : List Nat).getD k 0) E hW rfl rfl rfl dX5_init_18
theorem c_X5_init (l : Launch) (g : GE) (h0 : Nat) {res : (Nat → Int64) × (Nat → Int64)} (hf : f_X5_init = some res) : CN l yX5_init wsX5_init rm_X5_init g [.ref h0] [(h0, .inr (6, [.null, .null]))] (fun u => w_X5 g h0 (u 0) (u 1) res.1 res.2) 2 8 :=
  mkN (cc := cX5_init) (maxL := 1) (by decide) rfl rfl (Nat.le_of_ble_eq_true rfl) (fun p e s m args below meth c A H locs ls E hini hK hA hW hl => k_X5_init_0 E hini hK hA hf hW hl)

/-! PaperStorm$Regions.<init> -/
abbrev rm_X9_init : Room := { frames := 1, cells := 3, slots := 75, locals := 20 }
theorem in_X9_init_X9 : ∀ w ∈ wsX90, w ∈ wsX9_init := by decide +kernel
theorem lk_X9_init_15 : Cond.fieldLink RX9 15 "PaperStorm$Regions" "queue" "[I" ∈ wsX9_init := by decide +kernel
theorem lk_X9_init_18 : Cond.fieldLink RX9 18 "PaperStorm$Regions" "queued" "I" ∈ wsX9_init := by decide +kernel
theorem lk_X9_init_22 : Cond.fieldLink RX9 22 "PaperStorm$Regions" "groupOfCell" "[I" ∈ wsX9_init := by decide +kernel
theorem lk_X9_init_3a : Cond.methodLink RX9 3 objectInit ∈ wsX9_init := by decide +kernel
theorem lk_X9_init_3b : Cond.instanceMethod objectInit ∈ wsX9_init := by decide +kernel
theorem lk_X9_init_3c : Cond.code objectInit ⟨#[0xb1]⟩ 1 none ∈ wsX9_init := by decide +kernel
theorem lk_X9_init_9 : Cond.fieldLink RX9 9 "PaperStorm$Regions" "regionOfCell" "[I" ∈ wsX9_init := by decide +kernel
theorem lk_X9_init_arr_int : Cond.arrayClass .int ∈ wsX9_init := by decide +kernel
noncomputable def f_X9_init : Option ((Nat → Int32) × (Nat → Int32) × Int32 × (Nat → Int32)) :=
  some ((fun _ => 0), (fun _ => 0), 0, (fun _ => 0))
abbrev G_X9_init (p : Program) (l : Launch) (e : Env) (s : State) (m : MethodId) (args : Array Value) (below : List Frame) (meth : Method) (c : Code) (g : GE) (A : Nat → Prop) (h0 : Nat) (res : (Nat → Int32) × (Nat → Int32) × Int32 × (Nat → Int32)) (H : Heap) (locs : List Loc) (pc : Nat) (ls : Array Slot) (st : List Value) : Prop := W p l e (headSpec wsX9_init rm_X9_init).room s m args below meth c H locs 3 75 (MQ below (PoN g A (fun u => w_X9 g h0 (u 0) (u 1) (u 2) res.1 res.2.1 res.2.2.1 res.2.2.2)) args s 3 75 A) (F0 m pc ls st)
set_option maxHeartbeats 4000000 in
set_option maxRecDepth 100000 in
theorem k_X9_init_0 {p : Program} {l : Launch} {e : Env} {s : State} {m : MethodId} {args : Array Value} {below : List Frame} {meth : Method} {c : Code} {g : GE} {A : Nat → Prop} {h0 : Nat} {res : (Nat → Int32) × (Nat → Int32) × Int32 × (Nat → Int32)} {H : Heap} {locs : List Loc} {ls : Array Slot} (E : En cX9_init RX9 wsX9_init 1 none p s m args meth c) (hini : meth.name = "<init>") (hK : KK g s) (hA : ∀ q, s.heap.size ≤ q → A q) (h : f_X9_init = some res) (hW : Wo g A s H locs [(h0, .inr (9, [.null, .null, .int 0, .null]))]) (hl : lv_has ls 1 [(0, .ref h0)]) : W p l e (headSpec wsX9_init rm_X9_init).room s m args below meth c H locs 0 0 (MQ below (PoN g A (fun u => w_X9 g h0 (u 0) (u 1) (u 2) res.1 res.2.1 res.2.2.1 res.2.2.2)) args s 3 75 A) (F0 m 0 ls []) := by
  have hts := E.2.2.2.1
  unfold f_X9_init at h
  refine lv_aload_n E.1 E.2.1 dX9_init_0 rfl (lv_at hl 0 rfl) ?_
  refine W.objInit E.1 E.2.1 E.2.2.2.2.1 (hts _ lk_X9_init_3a) (hts _ lk_X9_init_3b) (hts _ lk_X9_init_3c) rfl (by rw [E.2.2.2.2.2.2]; exact hl.1) rfl dX9_init_1 (Nat.le_of_ble_eq_true rfl) (Nat.le_of_ble_eq_true rfl) ?_
  refine W.eq (g2 := F0 m 4 ls []) rfl ?_
  refine lv_aload_n E.1 E.2.1 dX9_init_4 rfl (lv_at hl 0 rfl) ?_
  refine lv_bipush (v := 25) E.1 E.2.1 dX9_init_5 (by decide) ?_
  refine wNewa (atype := .int) (a0 := (25, .inl (fun _ => 0))) (ty := .int) E hK lk_X9_init_arr_int rfl hW hA 0 rfl (fun _ q => by cases q) (arr0I 25 .int rfl) (by decide) (by decide) (Nat.le_of_ble_eq_true rfl) (Nat.le_of_ble_eq_true rfl) (Nat.le_of_ble_eq_true rfl) dX9_init_7 (fun h1 H locs hW => ?_)
  refine W.widen (k := 1) (n := 25) (Nat.le_of_ble_eq_true rfl) (Nat.le_of_ble_eq_true rfl) ?_
  have hW : Wo g A s H locs ([(h0, .inr (9, [.null, .null, .int 0, .null])), (h1, .inl (g.2 0, 25, .inl (fun _ => 0)))]) := hW
  refine wPutF (ty := (.array .int)) (world' := ([(h0, .inr (9, [.ref h1, .null, .int 0, .null])), (h1, .inl (g.2 0, 25, .inl (fun _ => 0)))])) E hK in_X9_init_X9 tyX9 tyX9_ok nmX9 hW 0 lk_X9_init_9 0 rfl rfl (by decide) rfl rfl hini rfl (by decide +kernel) rfl rfl (Nat.le_of_ble_eq_true rfl) dX9_init_9 rfl (fun H locs hW => ?_)
  refine lv_aload_n E.1 E.2.1 dX9_init_12 rfl (lv_at hl 0 rfl) ?_
  refine lv_bipush (v := 25) E.1 E.2.1 dX9_init_13 (by decide) ?_
  refine wNewa (atype := .int) (a0 := (25, .inl (fun _ => 0))) (ty := .int) E hK lk_X9_init_arr_int rfl hW hA 0 rfl (fun _ q => by cases q) (arr0I 25 .int rfl) (by decide) (by decide) (Nat.le_of_ble_eq_true rfl) (Nat.le_of_ble_eq_true rfl) (Nat.le_of_ble_eq_true rfl) dX9_init_15 (fun h2 H locs hW => ?_)
  refine W.widen (k := 2) (n := 50) (Nat.le_of_ble_eq_true rfl) (Nat.le_of_ble_eq_true rfl) ?_
  have hW : Wo g A s H locs ([(h0, .inr (9, [.ref h1, .null, .int 0, .null])), (h1, .inl (g.2 0, 25, .inl (fun _ => 0))), (h2, .inl (g.2 0, 25, .inl (fun _ => 0)))]) := hW
  refine wPutF (ty := (.array .int)) (world' := ([(h0, .inr (9, [.ref h1, .ref h2, .int 0, .null])), (h1, .inl (g.2 0, 25, .inl (fun _ => 0))), (h2, .inl (g.2 0, 25, .inl (fun _ => 0)))])) E hK in_X9_init_X9 tyX9 tyX9_ok nmX9 hW 1 lk_X9_init_15 0 rfl rfl (by decide) rfl rfl hini rfl (by decide +kernel) rfl rfl (Nat.le_of_ble_eq_true rfl) dX9_init_17 rfl (fun H locs hW => ?_)
  refine lv_aload_n E.1 E.2.1 dX9_init_20 rfl (lv_at hl 0 rfl) ?_
  refine lv_iconst (v := 0) E.1 E.2.1 dX9_init_21 (by decide) ?_
  refine wPut (world' := ([(h0, .inr (9, [.ref h1, .ref h2, .int 0, .null])), (h1, .inl (g.2 0, 25, .inl (fun _ => 0))), (h2, .inl (g.2 0, 25, .inl (fun _ => 0)))])) E hK in_X9_init_X9 tyX9 tyX9_ok nmX9 hW 2 lk_X9_init_18 0 rfl rfl (by decide) rfl rfl rfl rfl rfl (Nat.le_of_ble_eq_true rfl) dX9_init_22 rfl (fun H locs hW => ?_)
  refine lv_aload_n E.1 E.2.1 dX9_init_25 rfl (lv_at hl 0 rfl) ?_
  refine lv_bipush (v := 25) E.1 E.2.1 dX9_init_26 (by decide) ?_
  refine wNewa (atype := .int) (a0 := (25, .inl (fun _ => 0))) (ty := .int) E hK lk_X9_init_arr_int rfl hW hA 0 rfl (fun _ q => by cases q) (arr0I 25 .int rfl) (by decide) (by decide) (Nat.le_of_ble_eq_true rfl) (Nat.le_of_ble_eq_true rfl) (Nat.le_of_ble_eq_true rfl) dX9_init_28 (fun h3 H locs hW => ?_)
  refine W.widen (k := 3) (n := 75) (Nat.le_of_ble_eq_true rfl) (Nat.le_of_ble_eq_true rfl) ?_
  have hW : Wo g A s H locs ([(h0, .inr (9, [.ref h1, .ref h2, .int 0, .null])), (h1, .inl (g.2 0, 25, .inl (fun _ => 0))), (h2, .inl (g.2 0, 25, .inl (fun _ => 0))), (h3, .inl (g.2 0, 25, .inl (fun _ => 0)))]) := hW
  refine wPutF (ty := (.array .int)) (world' := ([(h0, .inr (9, [.ref h1, .ref h2, .int 0, .ref h3])), (h1, .inl (g.2 0, 25, .inl (fun _ => 0))), (h2, .inl (g.2 0, 25, .inl (fun _ => 0))), (h3, .inl (g.2 0, 25, .inl (fun _ => 0)))])) E hK in_X9_init_X9 tyX9 tyX9_ok nmX9 hW 3 lk_X9_init_22 0 rfl rfl (by decide) rfl rfl hini rfl (by decide +kernel) rfl rfl (Nat.le_of_ble_eq_true rfl) dX9_init_30 rfl (fun H locs hW => ?_)
  obtain rfl := Option.some.inj h
  have hW : Wo g A s H locs (w_X9 g h0 h1 h2 h3 (fun _ => 0) (fun _ => 0) 0 (fun _ => 0)) := hW
  exact endN (fun k => ([h1, h2, h3] : List Nat).getD k 0) E hW rfl rfl rfl dX9_init_33
theorem c_X9_init (l : Launch) (g : GE) (h0 : Nat) {res : (Nat → Int32) × (Nat → Int32) × Int32 × (Nat → Int32)} (hf : f_X9_init = some res) : CN l yX9_init wsX9_init rm_X9_init g [.ref h0] [(h0, .inr (9, [.null, .null, .int 0, .null]))] (fun u => w_X9 g h0 (u 0) (u 1) (u 2) res.1 res.2.1 res.2.2.1 res.2.2.2) 3 75 :=
  mkN (cc := cX9_init) (maxL := 1) (by decide) rfl rfl (Nat.le_of_ble_eq_true rfl) (fun p e s m args below meth c A H locs ls E hini hK hA hW hl => k_X9_init_0 E hini hK hA hf hW hl)

/-! PaperStorm$Line.<init> -/
abbrev rm_X8_init : Room := { frames := 1, cells := 1, slots := 160, locals := 20 }
theorem in_X8_init_X8 : ∀ w ∈ wsX80, w ∈ wsX8_init := by decide +kernel
theorem lk_X8_init_15 : Cond.fieldLink RX8 15 "PaperStorm$Line" "length" "I" ∈ wsX8_init := by decide +kernel
theorem lk_X8_init_3a : Cond.methodLink RX8 3 objectInit ∈ wsX8_init := by decide +kernel
theorem lk_X8_init_3b : Cond.instanceMethod objectInit ∈ wsX8_init := by decide +kernel
theorem lk_X8_init_3c : Cond.code objectInit ⟨#[0xb1]⟩ 1 none ∈ wsX8_init := by decide +kernel
theorem lk_X8_init_9 : Cond.fieldLink RX8 9 "PaperStorm$Line" "signs" "[C" ∈ wsX8_init := by decide +kernel
theorem lk_X8_init_arr_char : Cond.arrayClass .char ∈ wsX8_init := by decide +kernel
noncomputable def f_X8_init : Option ((Nat → Int32) × Int32) :=
  some ((fun _ => 0), 0)
abbrev G_X8_init (p : Program) (l : Launch) (e : Env) (s : State) (m : MethodId) (args : Array Value) (below : List Frame) (meth : Method) (c : Code) (g : GE) (A : Nat → Prop) (h0 : Nat) (res : (Nat → Int32) × Int32) (H : Heap) (locs : List Loc) (pc : Nat) (ls : Array Slot) (st : List Value) : Prop := W p l e (headSpec wsX8_init rm_X8_init).room s m args below meth c H locs 1 160 (MQ below (PoN g A (fun u => w_X8 g h0 (u 0) res.1 res.2)) args s 1 160 A) (F0 m pc ls st)
set_option maxHeartbeats 4000000 in
set_option maxRecDepth 100000 in
theorem k_X8_init_0 {p : Program} {l : Launch} {e : Env} {s : State} {m : MethodId} {args : Array Value} {below : List Frame} {meth : Method} {c : Code} {g : GE} {A : Nat → Prop} {h0 : Nat} {res : (Nat → Int32) × Int32} {H : Heap} {locs : List Loc} {ls : Array Slot} (E : En cX8_init RX8 wsX8_init 1 none p s m args meth c) (hini : meth.name = "<init>") (hK : KK g s) (hA : ∀ q, s.heap.size ≤ q → A q) (h : f_X8_init = some res) (hW : Wo g A s H locs [(h0, .inr (8, [.null, .int 0]))]) (hl : lv_has ls 1 [(0, .ref h0)]) : W p l e (headSpec wsX8_init rm_X8_init).room s m args below meth c H locs 0 0 (MQ below (PoN g A (fun u => w_X8 g h0 (u 0) res.1 res.2)) args s 1 160 A) (F0 m 0 ls []) := by
  have hts := E.2.2.2.1
  unfold f_X8_init at h
  refine lv_aload_n E.1 E.2.1 dX8_init_0 rfl (lv_at hl 0 rfl) ?_
  refine W.objInit E.1 E.2.1 E.2.2.2.2.1 (hts _ lk_X8_init_3a) (hts _ lk_X8_init_3b) (hts _ lk_X8_init_3c) rfl (by rw [E.2.2.2.2.2.2]; exact hl.1) rfl dX8_init_1 (Nat.le_of_ble_eq_true rfl) (Nat.le_of_ble_eq_true rfl) ?_
  refine W.eq (g2 := F0 m 4 ls []) rfl ?_
  refine lv_aload_n E.1 E.2.1 dX8_init_4 rfl (lv_at hl 0 rfl) ?_
  refine lv_sipush (v := 160) E.1 E.2.1 dX8_init_5 (by decide) ?_
  refine wNewa (atype := .char) (a0 := (160, .inl (fun _ => 0))) (ty := .char) E hK lk_X8_init_arr_char rfl hW hA 2 rfl (fun _ q => by cases q) (arr0I 160 .char rfl) (by decide) (by decide) (Nat.le_of_ble_eq_true rfl) (Nat.le_of_ble_eq_true rfl) (Nat.le_of_ble_eq_true rfl) dX8_init_8 (fun h1 H locs hW => ?_)
  refine W.widen (k := 1) (n := 160) (Nat.le_of_ble_eq_true rfl) (Nat.le_of_ble_eq_true rfl) ?_
  have hW : Wo g A s H locs ([(h0, .inr (8, [.null, .int 0])), (h1, .inl (g.2 2, 160, .inl (fun _ => 0)))]) := hW
  refine wPutF (ty := (.array .char)) (world' := ([(h0, .inr (8, [.ref h1, .int 0])), (h1, .inl (g.2 2, 160, .inl (fun _ => 0)))])) E hK in_X8_init_X8 tyX8 tyX8_ok nmX8 hW 0 lk_X8_init_9 0 rfl rfl (by decide) rfl rfl hini rfl (by decide +kernel) rfl rfl (Nat.le_of_ble_eq_true rfl) dX8_init_10 rfl (fun H locs hW => ?_)
  refine lv_aload_n E.1 E.2.1 dX8_init_13 rfl (lv_at hl 0 rfl) ?_
  refine lv_iconst (v := 0) E.1 E.2.1 dX8_init_14 (by decide) ?_
  refine wPut (world' := ([(h0, .inr (8, [.ref h1, .int 0])), (h1, .inl (g.2 2, 160, .inl (fun _ => 0)))])) E hK in_X8_init_X8 tyX8 tyX8_ok nmX8 hW 1 lk_X8_init_15 0 rfl rfl (by decide) rfl rfl rfl rfl rfl (Nat.le_of_ble_eq_true rfl) dX8_init_15 rfl (fun H locs hW => ?_)
  obtain rfl := Option.some.inj h
  have hW : Wo g A s H locs (w_X8 g h0 h1 (fun _ => 0) 0) := hW
  exact endN (fun k => ([h1] : List Nat).getD k 0) E hW rfl rfl rfl dX8_init_18
theorem c_X8_init (l : Launch) (g : GE) (h0 : Nat) {res : (Nat → Int32) × Int32} (hf : f_X8_init = some res) : CN l yX8_init wsX8_init rm_X8_init g [.ref h0] [(h0, .inr (8, [.null, .int 0]))] (fun u => w_X8 g h0 (u 0) res.1 res.2) 1 160 :=
  mkN (cc := cX8_init) (maxL := 1) (by decide) rfl rfl (Nat.le_of_ble_eq_true rfl) (fun p e s m args below meth c A H locs ls E hini hK hA hW hl => k_X8_init_0 E hini hK hA hf hW hl)

/-! PaperStorm$Station.<init> -/
abbrev rm_X11_init : Room := { frames := 2, cells := 7, slots := 63, locals := 41 }
theorem in_X11_init_X10 : ∀ w ∈ wsX100, w ∈ wsX11_init := by decide +kernel
theorem in_X11_init_X11 : ∀ w ∈ wsX110, w ∈ wsX11_init := by decide +kernel
theorem in_X11_init_X2 : ∀ w ∈ wsX20, w ∈ wsX11_init := by decide +kernel
theorem in_X11_init_X4 : ∀ w ∈ wsX40, w ∈ wsX11_init := by decide +kernel
theorem lk_X11_init_10 : Cond.fieldLink RX11 10 "PaperStorm$Station" "sheet" "LPaperStorm$Sheet;" ∈ wsX11_init := by decide +kernel
theorem lk_X11_init_16i : Cond.instantiable RX2 2 ∈ wsX11_init := by decide +kernel
theorem lk_X11_init_16k : Cond.classLink RX11 16 RX2 ∈ wsX11_init := by decide +kernel
theorem lk_X11_init_16z : Cond.initialized RX2 ∈ wsX11_init := by decide +kernel
theorem lk_X11_init_18l : Cond.methodLink RX11 18 yX2_init ∈ wsX11_init := by decide +kernel
theorem lk_X11_init_18m : Cond.instanceMethod yX2_init ∈ wsX11_init := by decide +kernel
theorem lk_X11_init_18z : Cond.initialized RX2 ∈ wsX11_init := by decide +kernel
theorem lk_X11_init_19 : Cond.fieldLink RX11 19 "PaperStorm$Station" "climate" "LPaperStorm$Climate;" ∈ wsX11_init := by decide +kernel
theorem lk_X11_init_1a : Cond.methodLink RX11 1 objectInit ∈ wsX11_init := by decide +kernel
theorem lk_X11_init_1b : Cond.instanceMethod objectInit ∈ wsX11_init := by decide +kernel
theorem lk_X11_init_1c : Cond.code objectInit ⟨#[0xb1]⟩ 1 none ∈ wsX11_init := by decide +kernel
theorem lk_X11_init_23i : Cond.instantiable RX4 6 ∈ wsX11_init := by decide +kernel
theorem lk_X11_init_23k : Cond.classLink RX11 23 RX4 ∈ wsX11_init := by decide +kernel
theorem lk_X11_init_23z : Cond.initialized RX4 ∈ wsX11_init := by decide +kernel
theorem lk_X11_init_25l : Cond.methodLinkNest "PaperStorm$Station" 25 ⟨"PaperStorm$Forecasts", "<init>", "()V"⟩ "PaperStorm" ∈ nestW := by decide +kernel
theorem lk_X11_init_25m : Cond.instanceMethod yX4_init ∈ wsX11_init := by decide +kernel
theorem lk_X11_init_25z : Cond.initialized RX4 ∈ wsX11_init := by decide +kernel
theorem lk_X11_init_26 : Cond.fieldLink RX11 26 "PaperStorm$Station" "forecasts" "LPaperStorm$Forecasts;" ∈ wsX11_init := by decide +kernel
theorem lk_X11_init_30 : Cond.fieldLink RX11 30 "PaperStorm$Station" "day" "I" ∈ wsX11_init := by decide +kernel
theorem lk_X11_init_7i : Cond.instantiable RX10 2 ∈ wsX11_init := by decide +kernel
theorem lk_X11_init_7k : Cond.classLink RX11 7 RX10 ∈ wsX11_init := by decide +kernel
theorem lk_X11_init_7z : Cond.initialized RX10 ∈ wsX11_init := by decide +kernel
theorem lk_X11_init_9l : Cond.methodLink RX11 9 yX10_init ∈ wsX11_init := by decide +kernel
theorem lk_X11_init_9m : Cond.instanceMethod yX10_init ∈ wsX11_init := by decide +kernel
theorem lk_X11_init_9z : Cond.initialized RX10 ∈ wsX11_init := by decide +kernel
noncomputable def f_X11_init : Option ((Nat → Int32) × Int32 × (Nat → Int32) × Int32 × (Nat → Int32) × (Nat → Int32) × Int32 × Int32 × Int32 × Int32 × Int32) :=
  f_X10_init.bind fun r9 => f_X2_init.bind fun r20 => f_X4_init.bind fun r31 => some (r9.1, r9.2, r20.1, r20.2, r31.1, r31.2.1, r31.2.2.1, r31.2.2.2.1, r31.2.2.2.2.1, r31.2.2.2.2.2, 0)
abbrev G_X11_init (p : Program) (l : Launch) (e : Env) (s : State) (m : MethodId) (args : Array Value) (below : List Frame) (meth : Method) (c : Code) (g : GE) (A : Nat → Prop) (h0 : Nat) (res : (Nat → Int32) × Int32 × (Nat → Int32) × Int32 × (Nat → Int32) × (Nat → Int32) × Int32 × Int32 × Int32 × Int32 × Int32) (H : Heap) (locs : List Loc) (pc : Nat) (ls : Array Slot) (st : List Value) : Prop := W p l e (headSpec wsX11_init rm_X11_init).room s m args below meth c H locs 7 63 (MQ below (PoN g A (fun u => w_X11 g h0 (u 0) (u 1) (u 2) (u 3) (u 4) (u 5) (u 6) res.1 res.2.1 res.2.2.1 res.2.2.2.1 res.2.2.2.2.1 res.2.2.2.2.2.1 res.2.2.2.2.2.2.1 res.2.2.2.2.2.2.2.1 res.2.2.2.2.2.2.2.2.1 res.2.2.2.2.2.2.2.2.2.1 res.2.2.2.2.2.2.2.2.2.2)) args s 7 63 A) (F0 m pc ls st)
set_option maxHeartbeats 4000000 in
set_option maxRecDepth 100000 in
theorem k_X11_init_0 {p : Program} {l : Launch} {e : Env} {s : State} {m : MethodId} {args : Array Value} {below : List Frame} {meth : Method} {c : Code} {g : GE} {A : Nat → Prop} {h0 : Nat} {res : (Nat → Int32) × Int32 × (Nat → Int32) × Int32 × (Nat → Int32) × (Nat → Int32) × Int32 × Int32 × Int32 × Int32 × Int32} {H : Heap} {locs : List Loc} {ls : Array Slot} (E : En cX11_init RX11 wsX11_init 1 none p s m args meth c) (hini : meth.name = "<init>") (hK : KK g s) (hA : ∀ q, s.heap.size ≤ q → A q) (h : f_X11_init = some res) (hW : Wo g A s H locs [(h0, .inr (11, [.null, .null, .null, .int 0]))]) (hl : lv_has ls 1 [(0, .ref h0)]) : W p l e (headSpec wsX11_init rm_X11_init).room s m args below meth c H locs 0 0 (MQ below (PoN g A (fun u => w_X11 g h0 (u 0) (u 1) (u 2) (u 3) (u 4) (u 5) (u 6) res.1 res.2.1 res.2.2.1 res.2.2.2.1 res.2.2.2.2.1 res.2.2.2.2.2.1 res.2.2.2.2.2.2.1 res.2.2.2.2.2.2.2.1 res.2.2.2.2.2.2.2.2.1 res.2.2.2.2.2.2.2.2.2.1 res.2.2.2.2.2.2.2.2.2.2)) args s 7 63 A) (F0 m 0 ls []) := by
  have hts := E.2.2.2.1
  unfold f_X11_init at h
  refine lv_aload_n E.1 E.2.1 dX11_init_0 rfl (lv_at hl 0 rfl) ?_
  refine W.objInit E.1 E.2.1 E.2.2.2.2.1 (hts _ lk_X11_init_1a) (hts _ lk_X11_init_1b) (hts _ lk_X11_init_1c) rfl (by rw [E.2.2.2.2.2.2]; exact hl.1) rfl dX11_init_1 (Nat.le_of_ble_eq_true rfl) (Nat.le_of_ble_eq_true rfl) ?_
  refine W.eq (g2 := F0 m 4 ls []) rfl ?_
  refine lv_aload_n E.1 E.2.1 dX11_init_4 rfl (lv_at hl 0 rfl) ?_
  refine wNew (ci := 10) (fs := [.null, .int 0]) (C := RX10) (T := TX10) (N := 2) E hK in_X11_init_X10 tyX10 tyX10_ok lk_X11_init_7k lk_X11_init_7i lk_X11_init_7z hW hA rfl (fun j hj => by rcases (show j = 0 ∨ j = 1 by omega) with rfl | rfl <;> rfl) (Nat.le_of_ble_eq_true rfl) (Nat.le_of_ble_eq_true rfl) dX11_init_5 (fun h1 H locs hW => ?_)
  refine W.widen (k := 1) (n := 2) (Nat.le_of_ble_eq_true rfl) (Nat.le_of_ble_eq_true rfl) ?_
  have hW : Wo g A s H locs ([(h0, .inr (11, [.null, .null, .null, .int 0])), (h1, .inr (10, [.null, .int 0]))]) := hW
  refine lv_dup E.1 E.2.1 dX11_init_8 rfl ?_
  obtain ⟨r9, hc, h⟩ := bx h
  refine goN (world' := fun u9 => ([(h0, .inr (11, [.null, .null, .null, .int 0]))] ++ (w_X10 g h1 (u9 0) r9.1 r9.2))) hW hA (i := 1) rfl (goC (rest := [.ref h1, .ref h0]) E hK hW (i := 1) rfl (c_X10_init l g h1 (hf := hc)) (cwI 0 hts gX11_init_X10_init rfl rfl rfl (hts _ lk_X11_init_9z) (hts _ lk_X11_init_9l) (hts _ lk_X11_init_9m) rfl (by decide +kernel) ⟨Nat.le_of_ble_eq_true rfl, Nat.le_of_ble_eq_true rfl⟩) hl.1 rfl rfl (Nat.le_of_ble_eq_true rfl) dX11_init_9 ⟨Nat.le_of_ble_eq_true rfl, Nat.le_of_ble_eq_true rfl⟩) (fun _ => rfl) (fun _ => rfl) (fun u9 H locs hW => ?_)
  refine W.widen (k := 2) (n := 27) (Nat.le_of_ble_eq_true rfl) (Nat.le_of_ble_eq_true rfl) ?_
  refine wPutF (ty := (.object "PaperStorm$Sheet")) (world' := ([(h0, .inr (11, [.ref h1, .null, .null, .int 0]))] ++ (w_X10 g h1 (u9 0) r9.1 r9.2))) E hK in_X11_init_X11 tyX11 tyX11_ok nmX11 hW 0 lk_X11_init_10 0 rfl rfl (by decide) rfl rfl hini rfl (by decide +kernel) rfl rfl (Nat.le_of_ble_eq_true rfl) dX11_init_12 rfl (fun H locs hW => ?_)
  refine lv_aload_n E.1 E.2.1 dX11_init_15 rfl (lv_at hl 0 rfl) ?_
  refine wNew (ci := 3) (fs := [.null, .int 0]) (C := RX2) (T := TX2) (N := 2) E hK in_X11_init_X2 tyX2 tyX2_ok lk_X11_init_16k lk_X11_init_16i lk_X11_init_16z hW hA rfl (fun j hj => by rcases (show j = 0 ∨ j = 1 by omega) with rfl | rfl <;> rfl) (Nat.le_of_ble_eq_true rfl) (Nat.le_of_ble_eq_true rfl) dX11_init_16 (fun h3 H locs hW => ?_)
  refine W.widen (k := 3) (n := 29) (Nat.le_of_ble_eq_true rfl) (Nat.le_of_ble_eq_true rfl) ?_
  have hW : Wo g A s H locs ([(h0, .inr (11, [.ref h1, .null, .null, .int 0]))] ++ (w_X10 g h1 (u9 0) r9.1 r9.2) ++ [(h3, .inr (3, [.null, .int 0]))]) := hW
  refine lv_dup E.1 E.2.1 dX11_init_19 rfl ?_
  obtain ⟨r20, hc, h⟩ := bx h
  refine goN (world' := fun u20 => ([(h0, .inr (11, [.ref h1, .null, .null, .int 0]))] ++ (w_X10 g h1 (u9 0) r9.1 r9.2) ++ (w_X2 g h3 (u20 0) r20.1 r20.2))) hW hA (i := 3) rfl (goC (rest := [.ref h3, .ref h0]) E hK hW (i := 3) rfl (c_X2_init l g h3 (hf := hc)) (cwI 0 hts gX11_init_X2_init rfl rfl rfl (hts _ lk_X11_init_18z) (hts _ lk_X11_init_18l) (hts _ lk_X11_init_18m) rfl (by decide +kernel) ⟨Nat.le_of_ble_eq_true rfl, Nat.le_of_ble_eq_true rfl⟩) hl.1 rfl rfl (Nat.le_of_ble_eq_true rfl) dX11_init_20 ⟨Nat.le_of_ble_eq_true rfl, Nat.le_of_ble_eq_true rfl⟩) (fun _ => rfl) (fun _ => rfl) (fun u20 H locs hW => ?_)
  refine W.widen (k := 4) (n := 45) (Nat.le_of_ble_eq_true rfl) (Nat.le_of_ble_eq_true rfl) ?_
  refine wPutF (ty := (.object "PaperStorm$Climate")) (world' := ([(h0, .inr (11, [.ref h1, .ref h3, .null, .int 0]))] ++ (w_X10 g h1 (u9 0) r9.1 r9.2) ++ (w_X2 g h3 (u20 0) r20.1 r20.2))) E hK in_X11_init_X11 tyX11 tyX11_ok nmX11 hW 1 lk_X11_init_19 0 rfl rfl (by decide) rfl rfl hini rfl (by decide +kernel) rfl rfl (Nat.le_of_ble_eq_true rfl) dX11_init_23 rfl (fun H locs hW => ?_)
  refine lv_aload_n E.1 E.2.1 dX11_init_26 rfl (lv_at hl 0 rfl) ?_
  refine wNew (ci := 5) (fs := [.null, .null, .int 0, .int 0, .int 0, .int 0]) (C := RX4) (T := TX4) (N := 6) E hK in_X11_init_X4 tyX4 tyX4_ok lk_X11_init_23k lk_X11_init_23i lk_X11_init_23z hW hA rfl (fun j hj => by rcases (show j = 0 ∨ j = 1 ∨ j = 2 ∨ j = 3 ∨ j = 4 ∨ j = 5 by omega) with rfl | rfl | rfl | rfl | rfl | rfl <;> rfl) (Nat.le_of_ble_eq_true rfl) (Nat.le_of_ble_eq_true rfl) dX11_init_27 (fun h5 H locs hW => ?_)
  refine W.widen (k := 5) (n := 51) (Nat.le_of_ble_eq_true rfl) (Nat.le_of_ble_eq_true rfl) ?_
  have hW : Wo g A s H locs ([(h0, .inr (11, [.ref h1, .ref h3, .null, .int 0]))] ++ (w_X10 g h1 (u9 0) r9.1 r9.2) ++ (w_X2 g h3 (u20 0) r20.1 r20.2) ++ [(h5, .inr (5, [.null, .null, .int 0, .int 0, .int 0, .int 0]))]) := hW
  refine lv_dup E.1 E.2.1 dX11_init_30 rfl ?_
  obtain ⟨r31, hc, h⟩ := bx h
  refine goN (world' := fun u31 => ([(h0, .inr (11, [.ref h1, .ref h3, .null, .int 0]))] ++ (w_X10 g h1 (u9 0) r9.1 r9.2) ++ (w_X2 g h3 (u20 0) r20.1 r20.2) ++ (w_X4 g h5 (u31 0) (u31 1) r31.1 r31.2.1 r31.2.2.1 r31.2.2.2.1 r31.2.2.2.2.1 r31.2.2.2.2.2))) hW hA (i := 5) rfl (goCN (rest := [.ref h5, .ref h0]) E hK hW (i := 5) rfl (c_X4_init l g h5 (hf := hc)) ⟨va_cnB 0 hts gX11_init_X4_init_n25 rfl rfl rfl (hK.2 _ lk_X11_init_25l) (hts _ lk_X11_init_25z) (by decide +kernel) ⟨Nat.le_of_ble_eq_true rfl, Nat.le_of_ble_eq_true rfl⟩, rfl, hts _ lk_X11_init_25m⟩ hl.1 rfl rfl (Nat.le_of_ble_eq_true rfl) dX11_init_31 ⟨Nat.le_of_ble_eq_true rfl, Nat.le_of_ble_eq_true rfl⟩) (fun _ => rfl) (fun _ => rfl) (fun u31 H locs hW => ?_)
  refine W.widen (k := 7) (n := 63) (Nat.le_of_ble_eq_true rfl) (Nat.le_of_ble_eq_true rfl) ?_
  refine wPutF (ty := (.object "PaperStorm$Forecasts")) (world' := ([(h0, .inr (11, [.ref h1, .ref h3, .ref h5, .int 0]))] ++ (w_X10 g h1 (u9 0) r9.1 r9.2) ++ (w_X2 g h3 (u20 0) r20.1 r20.2) ++ (w_X4 g h5 (u31 0) (u31 1) r31.1 r31.2.1 r31.2.2.1 r31.2.2.2.1 r31.2.2.2.2.1 r31.2.2.2.2.2))) E hK in_X11_init_X11 tyX11 tyX11_ok nmX11 hW 2 lk_X11_init_26 0 rfl rfl (by decide) rfl rfl hini rfl (by decide +kernel) rfl rfl (Nat.le_of_ble_eq_true rfl) dX11_init_34 rfl (fun H locs hW => ?_)
  refine lv_aload_n E.1 E.2.1 dX11_init_37 rfl (lv_at hl 0 rfl) ?_
  refine lv_iconst (v := 0) E.1 E.2.1 dX11_init_38 (by decide) ?_
  refine wPut (world' := ([(h0, .inr (11, [.ref h1, .ref h3, .ref h5, .int 0]))] ++ (w_X10 g h1 (u9 0) r9.1 r9.2) ++ (w_X2 g h3 (u20 0) r20.1 r20.2) ++ (w_X4 g h5 (u31 0) (u31 1) r31.1 r31.2.1 r31.2.2.1 r31.2.2.2.1 r31.2.2.2.2.1 r31.2.2.2.2.2))) E hK in_X11_init_X11 tyX11 tyX11_ok nmX11 hW 3 lk_X11_init_30 0 rfl rfl (by decide) rfl rfl rfl rfl rfl (Nat.le_of_ble_eq_true rfl) dX11_init_39 rfl (fun H locs hW => ?_)
  obtain rfl := Option.some.inj h
  have hW : Wo g A s H locs (w_X11 g h0 h1 (u9 0) h3 (u20 0) h5 (u31 0) (u31 1) r9.1 r9.2 r20.1 r20.2 r31.1 r31.2.1 r31.2.2.1 r31.2.2.2.1 r31.2.2.2.2.1 r31.2.2.2.2.2 0) := hW
  exact endN (fun k => ([h1, (u9 0), h3, (u20 0), h5, (u31 0), (u31 1)] : List Nat).getD k 0) E hW rfl rfl rfl dX11_init_42
theorem c_X11_init (l : Launch) (g : GE) (h0 : Nat) {res : (Nat → Int32) × Int32 × (Nat → Int32) × Int32 × (Nat → Int32) × (Nat → Int32) × Int32 × Int32 × Int32 × Int32 × Int32} (hf : f_X11_init = some res) : CN l yX11_init wsX11_init rm_X11_init g [.ref h0] [(h0, .inr (11, [.null, .null, .null, .int 0]))] (fun u => w_X11 g h0 (u 0) (u 1) (u 2) (u 3) (u 4) (u 5) (u 6) res.1 res.2.1 res.2.2.1 res.2.2.2.1 res.2.2.2.2.1 res.2.2.2.2.2.1 res.2.2.2.2.2.2.1 res.2.2.2.2.2.2.2.1 res.2.2.2.2.2.2.2.2.1 res.2.2.2.2.2.2.2.2.2.1 res.2.2.2.2.2.2.2.2.2.2) 7 63 :=
  mkN (cc := cX11_init) (maxL := 1) (by decide) rfl rfl (Nat.le_of_ble_eq_true rfl) (fun p e s m args below meth c A H locs ls E hini hK hA hW hl => k_X11_init_0 E hini hK hA hf hW hl)

/-! PaperStorm$Chances.<init> -/
abbrev rm_X1_init : Room := { frames := 2, cells := 10, slots := 34, locals := 40 }
theorem in_X1_init_X1 : ∀ w ∈ wsX10, w ∈ wsX1_init := by decide +kernel
theorem in_X1_init_X5 : ∀ w ∈ wsX50, w ∈ wsX1_init := by decide +kernel
theorem lk_X1_init_11l : Cond.methodLinkNest "PaperStorm$Chances" 11 ⟨"PaperStorm$Fractions", "<init>", "()V"⟩ "PaperStorm" ∈ nestW := by decide +kernel
theorem lk_X1_init_11m : Cond.instanceMethod yX5_init ∈ wsX1_init := by decide +kernel
theorem lk_X1_init_11z : Cond.initialized RX5 ∈ wsX1_init := by decide +kernel
theorem lk_X1_init_12 : Cond.fieldLink RX1 12 "PaperStorm$Chances" "byDay" "LPaperStorm$Fractions;" ∈ wsX1_init := by decide +kernel
theorem lk_X1_init_18 : Cond.fieldLink RX1 18 "PaperStorm$Chances" "nextDay" "LPaperStorm$Fractions;" ∈ wsX1_init := by decide +kernel
theorem lk_X1_init_21 : Cond.fieldLink RX1 21 "PaperStorm$Chances" "byBranch" "LPaperStorm$Fractions;" ∈ wsX1_init := by decide +kernel
theorem lk_X1_init_24 : Cond.fieldLink RX1 24 "PaperStorm$Chances" "sequences" "[I" ∈ wsX1_init := by decide +kernel
theorem lk_X1_init_3a : Cond.methodLink RX1 3 objectInit ∈ wsX1_init := by decide +kernel
theorem lk_X1_init_3b : Cond.instanceMethod objectInit ∈ wsX1_init := by decide +kernel
theorem lk_X1_init_3c : Cond.code objectInit ⟨#[0xb1]⟩ 1 none ∈ wsX1_init := by decide +kernel
theorem lk_X1_init_9i : Cond.instantiable RX5 2 ∈ wsX1_init := by decide +kernel
theorem lk_X1_init_9k : Cond.classLink RX1 9 RX5 ∈ wsX1_init := by decide +kernel
theorem lk_X1_init_9z : Cond.initialized RX5 ∈ wsX1_init := by decide +kernel
theorem lk_X1_init_arr_int : Cond.arrayClass .int ∈ wsX1_init := by decide +kernel
noncomputable def f_X1_init : Option ((Nat → Int64) × (Nat → Int64) × (Nat → Int64) × (Nat → Int64) × (Nat → Int64) × (Nat → Int64) × (Nat → Int32)) :=
  f_X5_init.bind fun r9 => f_X5_init.bind fun r20 => f_X5_init.bind fun r31 => some (r9.1, r9.2, r20.1, r20.2, r31.1, r31.2, (fun _ => 0))
abbrev G_X1_init (p : Program) (l : Launch) (e : Env) (s : State) (m : MethodId) (args : Array Value) (below : List Frame) (meth : Method) (c : Code) (g : GE) (A : Nat → Prop) (h0 : Nat) (res : (Nat → Int64) × (Nat → Int64) × (Nat → Int64) × (Nat → Int64) × (Nat → Int64) × (Nat → Int64) × (Nat → Int32)) (H : Heap) (locs : List Loc) (pc : Nat) (ls : Array Slot) (st : List Value) : Prop := W p l e (headSpec wsX1_init rm_X1_init).room s m args below meth c H locs 10 34 (MQ below (PoN g A (fun u => w_X1 g h0 (u 0) (u 1) (u 2) (u 3) (u 4) (u 5) (u 6) (u 7) (u 8) (u 9) res.1 res.2.1 res.2.2.1 res.2.2.2.1 res.2.2.2.2.1 res.2.2.2.2.2.1 res.2.2.2.2.2.2)) args s 10 34 A) (F0 m pc ls st)
set_option maxHeartbeats 4000000 in
set_option maxRecDepth 100000 in
theorem k_X1_init_0 {p : Program} {l : Launch} {e : Env} {s : State} {m : MethodId} {args : Array Value} {below : List Frame} {meth : Method} {c : Code} {g : GE} {A : Nat → Prop} {h0 : Nat} {res : (Nat → Int64) × (Nat → Int64) × (Nat → Int64) × (Nat → Int64) × (Nat → Int64) × (Nat → Int64) × (Nat → Int32)} {H : Heap} {locs : List Loc} {ls : Array Slot} (E : En cX1_init RX1 wsX1_init 1 none p s m args meth c) (hini : meth.name = "<init>") (hK : KK g s) (hA : ∀ q, s.heap.size ≤ q → A q) (h : f_X1_init = some res) (hW : Wo g A s H locs [(h0, .inr (2, [.null, .null, .null, .null]))]) (hl : lv_has ls 1 [(0, .ref h0)]) : W p l e (headSpec wsX1_init rm_X1_init).room s m args below meth c H locs 0 0 (MQ below (PoN g A (fun u => w_X1 g h0 (u 0) (u 1) (u 2) (u 3) (u 4) (u 5) (u 6) (u 7) (u 8) (u 9) res.1 res.2.1 res.2.2.1 res.2.2.2.1 res.2.2.2.2.1 res.2.2.2.2.2.1 res.2.2.2.2.2.2)) args s 10 34 A) (F0 m 0 ls []) := by
  have hts := E.2.2.2.1
  unfold f_X1_init at h
  refine lv_aload_n E.1 E.2.1 dX1_init_0 rfl (lv_at hl 0 rfl) ?_
  refine W.objInit E.1 E.2.1 E.2.2.2.2.1 (hts _ lk_X1_init_3a) (hts _ lk_X1_init_3b) (hts _ lk_X1_init_3c) rfl (by rw [E.2.2.2.2.2.2]; exact hl.1) rfl dX1_init_1 (Nat.le_of_ble_eq_true rfl) (Nat.le_of_ble_eq_true rfl) ?_
  refine W.eq (g2 := F0 m 4 ls []) rfl ?_
  refine lv_aload_n E.1 E.2.1 dX1_init_4 rfl (lv_at hl 0 rfl) ?_
  refine wNew (ci := 6) (fs := [.null, .null]) (C := RX5) (T := TX5) (N := 2) E hK in_X1_init_X5 tyX5 tyX5_ok lk_X1_init_9k lk_X1_init_9i lk_X1_init_9z hW hA rfl (fun j hj => by rcases (show j = 0 ∨ j = 1 by omega) with rfl | rfl <;> rfl) (Nat.le_of_ble_eq_true rfl) (Nat.le_of_ble_eq_true rfl) dX1_init_5 (fun h1 H locs hW => ?_)
  refine W.widen (k := 1) (n := 2) (Nat.le_of_ble_eq_true rfl) (Nat.le_of_ble_eq_true rfl) ?_
  have hW : Wo g A s H locs ([(h0, .inr (2, [.null, .null, .null, .null])), (h1, .inr (6, [.null, .null]))]) := hW
  refine lv_dup E.1 E.2.1 dX1_init_8 rfl ?_
  obtain ⟨r9, hc, h⟩ := bx h
  refine goN (world' := fun u9 => ([(h0, .inr (2, [.null, .null, .null, .null]))] ++ (w_X5 g h1 (u9 0) (u9 1) r9.1 r9.2))) hW hA (i := 1) rfl (goCN (rest := [.ref h1, .ref h0]) E hK hW (i := 1) rfl (c_X5_init l g h1 (hf := hc)) ⟨va_cnB 0 hts gX1_init_X5_init_n11 rfl rfl rfl (hK.2 _ lk_X1_init_11l) (hts _ lk_X1_init_11z) (by decide +kernel) ⟨Nat.le_of_ble_eq_true rfl, Nat.le_of_ble_eq_true rfl⟩, rfl, hts _ lk_X1_init_11m⟩ hl.1 rfl rfl (Nat.le_of_ble_eq_true rfl) dX1_init_9 ⟨Nat.le_of_ble_eq_true rfl, Nat.le_of_ble_eq_true rfl⟩) (fun _ => rfl) (fun _ => rfl) (fun u9 H locs hW => ?_)
  refine W.widen (k := 3) (n := 10) (Nat.le_of_ble_eq_true rfl) (Nat.le_of_ble_eq_true rfl) ?_
  refine wPutF (ty := (.object "PaperStorm$Fractions")) (world' := ([(h0, .inr (2, [.ref h1, .null, .null, .null]))] ++ (w_X5 g h1 (u9 0) (u9 1) r9.1 r9.2))) E hK in_X1_init_X1 tyX1 tyX1_ok nmX1 hW 0 lk_X1_init_12 0 rfl rfl (by decide) rfl rfl hini rfl (by decide +kernel) rfl rfl (Nat.le_of_ble_eq_true rfl) dX1_init_12 rfl (fun H locs hW => ?_)
  refine lv_aload_n E.1 E.2.1 dX1_init_15 rfl (lv_at hl 0 rfl) ?_
  refine wNew (ci := 6) (fs := [.null, .null]) (C := RX5) (T := TX5) (N := 2) E hK in_X1_init_X5 tyX5 tyX5_ok lk_X1_init_9k lk_X1_init_9i lk_X1_init_9z hW hA rfl (fun j hj => by rcases (show j = 0 ∨ j = 1 by omega) with rfl | rfl <;> rfl) (Nat.le_of_ble_eq_true rfl) (Nat.le_of_ble_eq_true rfl) dX1_init_16 (fun h4 H locs hW => ?_)
  refine W.widen (k := 4) (n := 12) (Nat.le_of_ble_eq_true rfl) (Nat.le_of_ble_eq_true rfl) ?_
  have hW : Wo g A s H locs ([(h0, .inr (2, [.ref h1, .null, .null, .null]))] ++ (w_X5 g h1 (u9 0) (u9 1) r9.1 r9.2) ++ [(h4, .inr (6, [.null, .null]))]) := hW
  refine lv_dup E.1 E.2.1 dX1_init_19 rfl ?_
  obtain ⟨r20, hc, h⟩ := bx h
  refine goN (world' := fun u20 => ([(h0, .inr (2, [.ref h1, .null, .null, .null]))] ++ (w_X5 g h1 (u9 0) (u9 1) r9.1 r9.2) ++ (w_X5 g h4 (u20 0) (u20 1) r20.1 r20.2))) hW hA (i := 4) rfl (goCN (rest := [.ref h4, .ref h0]) E hK hW (i := 4) rfl (c_X5_init l g h4 (hf := hc)) ⟨va_cnB 0 hts gX1_init_X5_init_n11 rfl rfl rfl (hK.2 _ lk_X1_init_11l) (hts _ lk_X1_init_11z) (by decide +kernel) ⟨Nat.le_of_ble_eq_true rfl, Nat.le_of_ble_eq_true rfl⟩, rfl, hts _ lk_X1_init_11m⟩ hl.1 rfl rfl (Nat.le_of_ble_eq_true rfl) dX1_init_20 ⟨Nat.le_of_ble_eq_true rfl, Nat.le_of_ble_eq_true rfl⟩) (fun _ => rfl) (fun _ => rfl) (fun u20 H locs hW => ?_)
  refine W.widen (k := 6) (n := 20) (Nat.le_of_ble_eq_true rfl) (Nat.le_of_ble_eq_true rfl) ?_
  refine wPutF (ty := (.object "PaperStorm$Fractions")) (world' := ([(h0, .inr (2, [.ref h1, .ref h4, .null, .null]))] ++ (w_X5 g h1 (u9 0) (u9 1) r9.1 r9.2) ++ (w_X5 g h4 (u20 0) (u20 1) r20.1 r20.2))) E hK in_X1_init_X1 tyX1 tyX1_ok nmX1 hW 1 lk_X1_init_18 0 rfl rfl (by decide) rfl rfl hini rfl (by decide +kernel) rfl rfl (Nat.le_of_ble_eq_true rfl) dX1_init_23 rfl (fun H locs hW => ?_)
  refine lv_aload_n E.1 E.2.1 dX1_init_26 rfl (lv_at hl 0 rfl) ?_
  refine wNew (ci := 6) (fs := [.null, .null]) (C := RX5) (T := TX5) (N := 2) E hK in_X1_init_X5 tyX5 tyX5_ok lk_X1_init_9k lk_X1_init_9i lk_X1_init_9z hW hA rfl (fun j hj => by rcases (show j = 0 ∨ j = 1 by omega) with rfl | rfl <;> rfl) (Nat.le_of_ble_eq_true rfl) (Nat.le_of_ble_eq_true rfl) dX1_init_27 (fun h7 H locs hW => ?_)
  refine W.widen (k := 7) (n := 22) (Nat.le_of_ble_eq_true rfl) (Nat.le_of_ble_eq_true rfl) ?_
  have hW : Wo g A s H locs ([(h0, .inr (2, [.ref h1, .ref h4, .null, .null]))] ++ (w_X5 g h1 (u9 0) (u9 1) r9.1 r9.2) ++ (w_X5 g h4 (u20 0) (u20 1) r20.1 r20.2) ++ [(h7, .inr (6, [.null, .null]))]) := hW
  refine lv_dup E.1 E.2.1 dX1_init_30 rfl ?_
  obtain ⟨r31, hc, h⟩ := bx h
  refine goN (world' := fun u31 => ([(h0, .inr (2, [.ref h1, .ref h4, .null, .null]))] ++ (w_X5 g h1 (u9 0) (u9 1) r9.1 r9.2) ++ (w_X5 g h4 (u20 0) (u20 1) r20.1 r20.2) ++ (w_X5 g h7 (u31 0) (u31 1) r31.1 r31.2))) hW hA (i := 7) rfl (goCN (rest := [.ref h7, .ref h0]) E hK hW (i := 7) rfl (c_X5_init l g h7 (hf := hc)) ⟨va_cnB 0 hts gX1_init_X5_init_n11 rfl rfl rfl (hK.2 _ lk_X1_init_11l) (hts _ lk_X1_init_11z) (by decide +kernel) ⟨Nat.le_of_ble_eq_true rfl, Nat.le_of_ble_eq_true rfl⟩, rfl, hts _ lk_X1_init_11m⟩ hl.1 rfl rfl (Nat.le_of_ble_eq_true rfl) dX1_init_31 ⟨Nat.le_of_ble_eq_true rfl, Nat.le_of_ble_eq_true rfl⟩) (fun _ => rfl) (fun _ => rfl) (fun u31 H locs hW => ?_)
  refine W.widen (k := 9) (n := 30) (Nat.le_of_ble_eq_true rfl) (Nat.le_of_ble_eq_true rfl) ?_
  refine wPutF (ty := (.object "PaperStorm$Fractions")) (world' := ([(h0, .inr (2, [.ref h1, .ref h4, .ref h7, .null]))] ++ (w_X5 g h1 (u9 0) (u9 1) r9.1 r9.2) ++ (w_X5 g h4 (u20 0) (u20 1) r20.1 r20.2) ++ (w_X5 g h7 (u31 0) (u31 1) r31.1 r31.2))) E hK in_X1_init_X1 tyX1 tyX1_ok nmX1 hW 2 lk_X1_init_21 0 rfl rfl (by decide) rfl rfl hini rfl (by decide +kernel) rfl rfl (Nat.le_of_ble_eq_true rfl) dX1_init_34 rfl (fun H locs hW => ?_)
  refine lv_aload_n E.1 E.2.1 dX1_init_37 rfl (lv_at hl 0 rfl) ?_
  refine lv_iconst (v := 4) E.1 E.2.1 dX1_init_38 (by decide) ?_
  refine wNewa (atype := .int) (a0 := (4, .inl (fun _ => 0))) (ty := .int) E hK lk_X1_init_arr_int rfl hW hA 0 rfl (fun _ q => by cases q) (arr0I 4 .int rfl) (by decide) (by decide) (Nat.le_of_ble_eq_true rfl) (Nat.le_of_ble_eq_true rfl) (Nat.le_of_ble_eq_true rfl) dX1_init_39 (fun h10 H locs hW => ?_)
  refine W.widen (k := 10) (n := 34) (Nat.le_of_ble_eq_true rfl) (Nat.le_of_ble_eq_true rfl) ?_
  have hW : Wo g A s H locs ([(h0, .inr (2, [.ref h1, .ref h4, .ref h7, .null]))] ++ (w_X5 g h1 (u9 0) (u9 1) r9.1 r9.2) ++ (w_X5 g h4 (u20 0) (u20 1) r20.1 r20.2) ++ (w_X5 g h7 (u31 0) (u31 1) r31.1 r31.2) ++ [(h10, .inl (g.2 0, 4, .inl (fun _ => 0)))]) := hW
  refine wPutF (ty := (.array .int)) (world' := ([(h0, .inr (2, [.ref h1, .ref h4, .ref h7, .ref h10]))] ++ (w_X5 g h1 (u9 0) (u9 1) r9.1 r9.2) ++ (w_X5 g h4 (u20 0) (u20 1) r20.1 r20.2) ++ (w_X5 g h7 (u31 0) (u31 1) r31.1 r31.2) ++ [(h10, .inl (g.2 0, 4, .inl (fun _ => 0)))])) E hK in_X1_init_X1 tyX1 tyX1_ok nmX1 hW 3 lk_X1_init_24 0 rfl rfl (by decide) rfl rfl hini rfl (by decide +kernel) rfl rfl (Nat.le_of_ble_eq_true rfl) dX1_init_41 rfl (fun H locs hW => ?_)
  obtain rfl := Option.some.inj h
  have hW : Wo g A s H locs (w_X1 g h0 h1 (u9 0) (u9 1) h4 (u20 0) (u20 1) h7 (u31 0) (u31 1) h10 r9.1 r9.2 r20.1 r20.2 r31.1 r31.2 (fun _ => 0)) := hW
  exact endN (fun k => ([h1, (u9 0), (u9 1), h4, (u20 0), (u20 1), h7, (u31 0), (u31 1), h10] : List Nat).getD k 0) E hW rfl rfl rfl dX1_init_44
theorem c_X1_init (l : Launch) (g : GE) (h0 : Nat) {res : (Nat → Int64) × (Nat → Int64) × (Nat → Int64) × (Nat → Int64) × (Nat → Int64) × (Nat → Int64) × (Nat → Int32)} (hf : f_X1_init = some res) : CN l yX1_init wsX1_init rm_X1_init g [.ref h0] [(h0, .inr (2, [.null, .null, .null, .null]))] (fun u => w_X1 g h0 (u 0) (u 1) (u 2) (u 3) (u 4) (u 5) (u 6) (u 7) (u 8) (u 9) res.1 res.2.1 res.2.2.1 res.2.2.2.1 res.2.2.2.2.1 res.2.2.2.2.2.1 res.2.2.2.2.2.2) 10 34 :=
  mkN (cc := cX1_init) (maxL := 1) (by decide) rfl rfl (Nat.le_of_ble_eq_true rfl) (fun p e s m args below meth c A H locs ls E hini hK hA hW hl => k_X1_init_0 E hini hK hA hf hW hl)

/-! PaperStormModel.<init> -/
abbrev rm_X13_init : Room := { frames := 1, cells := 13, slots := 1090, locals := 20 }
theorem in_X13_init_X13 : ∀ w ∈ wsX130, w ∈ wsX13_init := by decide +kernel
theorem lk_X13_init_13 : Cond.fieldLink RX13 13 "PaperStormModel" "kept" "[I" ∈ wsX13_init := by decide +kernel
theorem lk_X13_init_16 : Cond.fieldLink RX13 16 "PaperStormModel" "saved" "[I" ∈ wsX13_init := by decide +kernel
theorem lk_X13_init_19 : Cond.fieldLink RX13 19 "PaperStormModel" "before" "[I" ∈ wsX13_init := by decide +kernel
theorem lk_X13_init_1a : Cond.methodLink RX13 1 objectInit ∈ wsX13_init := by decide +kernel
theorem lk_X13_init_1b : Cond.instanceMethod objectInit ∈ wsX13_init := by decide +kernel
theorem lk_X13_init_1c : Cond.code objectInit ⟨#[0xb1]⟩ 1 none ∈ wsX13_init := by decide +kernel
theorem lk_X13_init_22 : Cond.fieldLink RX13 22 "PaperStormModel" "was" "[I" ∈ wsX13_init := by decide +kernel
theorem lk_X13_init_25 : Cond.fieldLink RX13 25 "PaperStormModel" "region" "[I" ∈ wsX13_init := by decide +kernel
theorem lk_X13_init_28 : Cond.fieldLink RX13 28 "PaperStormModel" "parts" "[J" ∈ wsX13_init := by decide +kernel
theorem lk_X13_init_32 : Cond.fieldLink RX13 32 "PaperStormModel" "next" "[J" ∈ wsX13_init := by decide +kernel
theorem lk_X13_init_35 : Cond.fieldLink RX13 35 "PaperStormModel" "ways" "[I" ∈ wsX13_init := by decide +kernel
theorem lk_X13_init_38 : Cond.fieldLink RX13 38 "PaperStormModel" "more" "[I" ∈ wsX13_init := by decide +kernel
theorem lk_X13_init_41 : Cond.fieldLink RX13 41 "PaperStormModel" "input" "[I" ∈ wsX13_init := by decide +kernel
theorem lk_X13_init_44 : Cond.fieldLink RX13 44 "PaperStormModel" "fault" "I" ∈ wsX13_init := by decide +kernel
theorem lk_X13_init_48 : Cond.fieldLink RX13 48 "PaperStormModel" "failed" "I" ∈ wsX13_init := by decide +kernel
theorem lk_X13_init_51 : Cond.fieldLink RX13 51 "PaperStormModel" "signs" "[C" ∈ wsX13_init := by decide +kernel
theorem lk_X13_init_55 : Cond.fieldLink RX13 55 "PaperStormModel" "told" "[I" ∈ wsX13_init := by decide +kernel
theorem lk_X13_init_7 : Cond.fieldLink RX13 7 "PaperStormModel" "g" "[I" ∈ wsX13_init := by decide +kernel
theorem lk_X13_init_arr_char : Cond.arrayClass .char ∈ wsX13_init := by decide +kernel
theorem lk_X13_init_arr_int : Cond.arrayClass .int ∈ wsX13_init := by decide +kernel
theorem lk_X13_init_arr_long : Cond.arrayClass .long ∈ wsX13_init := by decide +kernel
noncomputable def f_X13_init_118 (z141 : (Nat → Int32) → Option ((Nat → Int32) × (Nat → Int32) × (Nat → Int32) × (Nat → Int32) × (Nat → Int32) × (Nat → Int32) × (Nat → Int64) × (Nat → Int64) × (Nat → Int32) × (Nat → Int32) × Int64 × Int32 × Int32 × Int32 × Int32 × (Nat → Int32) × Int32 × Int32 × Int32 × (Nat → Int32) × Int32 × Int32 × (Nat → Int32) × Int32)) : Nat → Int32 → (Nat → Int32) → Option ((Nat → Int32) × (Nat → Int32) × (Nat → Int32) × (Nat → Int32) × (Nat → Int32) × (Nat → Int32) × (Nat → Int64) × (Nat → Int64) × (Nat → Int32) × (Nat → Int32) × Int64 × Int32 × Int32 × Int32 × Int32 × (Nat → Int32) × Int32 × Int32 × Int32 × (Nat → Int32) × Int32 × Int32 × (Nat → Int32) × Int32)
  | 0, _, _ => none
  | n + 1, l1_118, x_g_118 => if 25 ≤ l1_118 then z141 x_g_118 else if (7 + l1_118) < 0 ∨ 60 ≤ (7 + l1_118).toNatClampNeg then none else f_X13_init_118 z141 n (l1_118 + 1) (upd x_g_118 (7 + l1_118).toNatClampNeg 50)
noncomputable def f_X13_init_143 (z165 : (Nat → Int32) → Option ((Nat → Int32) × (Nat → Int32) × (Nat → Int32) × (Nat → Int32) × (Nat → Int32) × (Nat → Int32) × (Nat → Int64) × (Nat → Int64) × (Nat → Int32) × (Nat → Int32) × Int64 × Int32 × Int32 × Int32 × Int32 × (Nat → Int32) × Int32 × Int32 × Int32 × (Nat → Int32) × Int32 × Int32 × (Nat → Int32) × Int32)) : Nat → Int32 → (Nat → Int32) → Option ((Nat → Int32) × (Nat → Int32) × (Nat → Int32) × (Nat → Int32) × (Nat → Int32) × (Nat → Int32) × (Nat → Int64) × (Nat → Int64) × (Nat → Int32) × (Nat → Int32) × Int64 × Int32 × Int32 × Int32 × Int32 × (Nat → Int32) × Int32 × Int32 × Int32 × (Nat → Int32) × Int32 × Int32 × (Nat → Int32) × Int32)
  | 0, _, _ => none
  | n + 1, l1_143, x_g_143 => if 16 ≤ l1_143 then z165 x_g_143 else if (32 + l1_143) < 0 ∨ 60 ≤ (32 + l1_143).toNatClampNeg then none else f_X13_init_143 z165 n (l1_143 + 1) (upd x_g_143 (32 + l1_143).toNatClampNeg 1)
noncomputable def f_X13_init : Option ((Nat → Int32) × (Nat → Int32) × (Nat → Int32) × (Nat → Int32) × (Nat → Int32) × (Nat → Int32) × (Nat → Int64) × (Nat → Int64) × (Nat → Int32) × (Nat → Int32) × Int64 × Int32 × Int32 × Int32 × Int32 × (Nat → Int32) × Int32 × Int32 × Int32 × (Nat → Int32) × Int32 × Int32 × (Nat → Int32) × Int32) :=
  f_X13_init_118 (fun x_g_141e => f_X13_init_143 (fun x_g_165e => some ((upd x_g_165e (2 : Int32).toNatClampNeg 20), (fun _ => 0), (fun _ => 0), (fun _ => 0), (fun _ => 0), (fun _ => 0), (fun _ => 0), (fun _ => 0), (fun _ => 0), (fun _ => 0), 0, 0, 0, 0, 0, (fun _ => 0), 0, (-1), (-1), (fun _ => 0), 0, 0, (fun _ => 0), 0)) 1000 0 x_g_141e) 1000 0 (fun _ => 0)
abbrev G_X13_init (p : Program) (l : Launch) (e : Env) (s : State) (m : MethodId) (args : Array Value) (below : List Frame) (meth : Method) (c : Code) (g : GE) (A : Nat → Prop) (h0 : Nat) (res : (Nat → Int32) × (Nat → Int32) × (Nat → Int32) × (Nat → Int32) × (Nat → Int32) × (Nat → Int32) × (Nat → Int64) × (Nat → Int64) × (Nat → Int32) × (Nat → Int32) × Int64 × Int32 × Int32 × Int32 × Int32 × (Nat → Int32) × Int32 × Int32 × Int32 × (Nat → Int32) × Int32 × Int32 × (Nat → Int32) × Int32) (H : Heap) (locs : List Loc) (pc : Nat) (ls : Array Slot) (st : List Value) : Prop := W p l e (headSpec wsX13_init rm_X13_init).room s m args below meth c H locs 13 1090 (MQ below (PoN g A (fun u => w_X13 g h0 (u 0) (u 1) (u 2) (u 3) (u 4) (u 5) (u 6) (u 7) (u 8) (u 9) (u 10) (u 11) (u 12) res.1 res.2.1 res.2.2.1 res.2.2.2.1 res.2.2.2.2.1 res.2.2.2.2.2.1 res.2.2.2.2.2.2.1 res.2.2.2.2.2.2.2.1 res.2.2.2.2.2.2.2.2.1 res.2.2.2.2.2.2.2.2.2.1 res.2.2.2.2.2.2.2.2.2.2.1 res.2.2.2.2.2.2.2.2.2.2.2.1 res.2.2.2.2.2.2.2.2.2.2.2.2.1 res.2.2.2.2.2.2.2.2.2.2.2.2.2.1 res.2.2.2.2.2.2.2.2.2.2.2.2.2.2.1 res.2.2.2.2.2.2.2.2.2.2.2.2.2.2.2.1 res.2.2.2.2.2.2.2.2.2.2.2.2.2.2.2.2.1 res.2.2.2.2.2.2.2.2.2.2.2.2.2.2.2.2.2.1 res.2.2.2.2.2.2.2.2.2.2.2.2.2.2.2.2.2.2.1 res.2.2.2.2.2.2.2.2.2.2.2.2.2.2.2.2.2.2.2.1 res.2.2.2.2.2.2.2.2.2.2.2.2.2.2.2.2.2.2.2.2.1 res.2.2.2.2.2.2.2.2.2.2.2.2.2.2.2.2.2.2.2.2.2.1 res.2.2.2.2.2.2.2.2.2.2.2.2.2.2.2.2.2.2.2.2.2.2.1 res.2.2.2.2.2.2.2.2.2.2.2.2.2.2.2.2.2.2.2.2.2.2.2)) args s 13 1090 A) (F0 m pc ls st)
set_option maxHeartbeats 4000000 in
set_option maxRecDepth 100000 in
theorem k_X13_init_118 {p : Program} {l : Launch} {e : Env} {s : State} {m : MethodId} {args : Array Value} {below : List Frame} {meth : Method} {c : Code} {g : GE} {A : Nat → Prop} {h0 h1 h2 h3 h4 h5 h6 h7 h8 h9 h10 h11 h12 h13 : Nat} {x_kept : Nat → Int32} {x_saved : Nat → Int32} {x_before : Nat → Int32} {x_was : Nat → Int32} {x_region : Nat → Int32} {x_parts : Nat → Int64} {x_next : Nat → Int64} {x_ways : Nat → Int32} {x_more : Nat → Int32} {x_whole : Int64} {x_isSaved : Int32} {x_changes : Int32} {x_isWithin : Int32} {x_code : Int32} {x_input : Nat → Int32} {x_length : Int32} {x_fault : Int32} {x_failed : Int32} {x_signs : Nat → Int32} {x_signMany : Int32} {x_at : Int32} {x_told : Nat → Int32} {x_toldMany : Int32} {res : (Nat → Int32) × (Nat → Int32) × (Nat → Int32) × (Nat → Int32) × (Nat → Int32) × (Nat → Int32) × (Nat → Int64) × (Nat → Int64) × (Nat → Int32) × (Nat → Int32) × Int64 × Int32 × Int32 × Int32 × Int32 × (Nat → Int32) × Int32 × Int32 × Int32 × (Nat → Int32) × Int32 × Int32 × (Nat → Int32) × Int32} {z141 : (Nat → Int32) → Option ((Nat → Int32) × (Nat → Int32) × (Nat → Int32) × (Nat → Int32) × (Nat → Int32) × (Nat → Int32) × (Nat → Int64) × (Nat → Int64) × (Nat → Int32) × (Nat → Int32) × Int64 × Int32 × Int32 × Int32 × Int32 × (Nat → Int32) × Int32 × Int32 × Int32 × (Nat → Int32) × Int32 × Int32 × (Nat → Int32) × Int32)}
    (E : En cX13_init RX13 wsX13_init 2 none p s m args meth c) (hK : KK g s) (hA : ∀ q, s.heap.size ≤ q → A q)
    (hz141 : ∀ (x_g_141e : Nat → Int32) (H : Heap) (locs : List Loc) (ls : Array Slot), z141 x_g_141e = some res → Wo g A s H locs (w_X13 g h0 h1 h2 h3 h4 h5 h6 h7 h8 h9 h10 h11 h12 h13 x_g_141e x_kept x_saved x_before x_was x_region x_parts x_next x_ways x_more x_whole x_isSaved x_changes x_isWithin x_code x_input x_length x_fault x_failed x_signs x_signMany x_at x_told x_toldMany) → lv_has ls 2 [(0, .ref h0)] → G_X13_init p l e s m args below meth c g A h0 res H locs 141 ls [])
    : ∀ (n : Nat) (l1_118 : Int32) (x_g_118 : Nat → Int32) (H : Heap) (locs : List Loc) (ls : Array Slot), f_X13_init_118 z141 n l1_118 x_g_118 = some res → Wo g A s H locs (w_X13 g h0 h1 h2 h3 h4 h5 h6 h7 h8 h9 h10 h11 h12 h13 x_g_118 x_kept x_saved x_before x_was x_region x_parts x_next x_ways x_more x_whole x_isSaved x_changes x_isWithin x_code x_input x_length x_fault x_failed x_signs x_signMany x_at x_told x_toldMany) → lv_has ls 2 [(0, .ref h0), (1, .int l1_118)] → G_X13_init p l e s m args below meth c g A h0 res H locs 118 ls [] := by
  have hts := E.2.2.2.1
  intro n
  induction n with
  | zero => intro l1_118 x_g_118 H locs ls h hW hl; rw [f_X13_init_118] at h; cases h
  | succ n ih =>
    intro l1_118 x_g_118 H locs ls h hW hl
    rw [f_X13_init_118] at h
    refine lv_iload_n E.1 E.2.1 dX13_init_118 rfl (lv_at hl 1 rfl) ?_
    refine lv_bipush (v := 25) E.1 E.2.1 dX13_init_119 (by decide) ?_
    refine lv_icmp_ge (tgt := 141) E.1 E.2.1 dX13_init_121 (by decide) (fun c121 => ?_) (fun c121 => ?_)
    · have h := it c121 h
      exact hz141 x_g_118 H locs ls h hW (lv_sub hl [0] rfl)
    · have h := ie c121 h
      refine lv_aload_n E.1 E.2.1 dX13_init_124 rfl (lv_at hl 0 rfl) ?_
      refine wGet (v := .ref h1) E hK in_X13_init_X13 hW 0 lk_X13_init_7 0 rfl rfl (by decide) rfl rfl dX13_init_125 ?_
      refine lv_bipush (v := 7) E.1 E.2.1 dX13_init_128 (by decide) ?_
      refine lv_iload_n E.1 E.2.1 dX13_init_130 rfl (lv_at hl 1 rfl) ?_
      refine lv_iadd E.1 E.2.1 dX13_init_131 ?_
      refine lv_bipush (v := 50) E.1 E.2.1 dX13_init_132 (by decide) ?_
      obtain ⟨hi134, h⟩ := ox h
      refine wIast (world' := (w_X13 g h0 h1 h2 h3 h4 h5 h6 h7 h8 h9 h10 h11 h12 h13 (upd x_g_118 (7 + l1_118).toNatClampNeg 50) x_kept x_saved x_before x_was x_region x_parts x_next x_ways x_more x_whole x_isSaved x_changes x_isWithin x_code x_input x_length x_fault x_failed x_signs x_signMany x_at x_told x_toldMany)) E hK hW 1 rfl hi134 dX13_init_134 rfl (fun H locs hW => ?_)
      refine lv_iinc (v := (l1_118 + 1)) (lv' := [(1, .int (l1_118 + 1)), (0, .ref h0)]) E.1 E.2.1 dX13_init_135 hl (k := 1) rfl rfl (by decide) rfl (fun ls hl => ?_)
      refine lv_goto (tgt := 118) E.1 E.2.1 dX13_init_138 (by decide) ?_
      exact ih (l1_118 + 1) (upd x_g_118 (7 + l1_118).toNatClampNeg 50) H locs ls h hW (lv_sub hl [1, 0] rfl)
set_option maxHeartbeats 4000000 in
set_option maxRecDepth 100000 in
theorem k_X13_init_143 {p : Program} {l : Launch} {e : Env} {s : State} {m : MethodId} {args : Array Value} {below : List Frame} {meth : Method} {c : Code} {g : GE} {A : Nat → Prop} {h0 h1 h2 h3 h4 h5 h6 h7 h8 h9 h10 h11 h12 h13 : Nat} {x_kept : Nat → Int32} {x_saved : Nat → Int32} {x_before : Nat → Int32} {x_was : Nat → Int32} {x_region : Nat → Int32} {x_parts : Nat → Int64} {x_next : Nat → Int64} {x_ways : Nat → Int32} {x_more : Nat → Int32} {x_whole : Int64} {x_isSaved : Int32} {x_changes : Int32} {x_isWithin : Int32} {x_code : Int32} {x_input : Nat → Int32} {x_length : Int32} {x_fault : Int32} {x_failed : Int32} {x_signs : Nat → Int32} {x_signMany : Int32} {x_at : Int32} {x_told : Nat → Int32} {x_toldMany : Int32} {res : (Nat → Int32) × (Nat → Int32) × (Nat → Int32) × (Nat → Int32) × (Nat → Int32) × (Nat → Int32) × (Nat → Int64) × (Nat → Int64) × (Nat → Int32) × (Nat → Int32) × Int64 × Int32 × Int32 × Int32 × Int32 × (Nat → Int32) × Int32 × Int32 × Int32 × (Nat → Int32) × Int32 × Int32 × (Nat → Int32) × Int32} {z165 : (Nat → Int32) → Option ((Nat → Int32) × (Nat → Int32) × (Nat → Int32) × (Nat → Int32) × (Nat → Int32) × (Nat → Int32) × (Nat → Int64) × (Nat → Int64) × (Nat → Int32) × (Nat → Int32) × Int64 × Int32 × Int32 × Int32 × Int32 × (Nat → Int32) × Int32 × Int32 × Int32 × (Nat → Int32) × Int32 × Int32 × (Nat → Int32) × Int32)}
    (E : En cX13_init RX13 wsX13_init 2 none p s m args meth c) (hK : KK g s) (hA : ∀ q, s.heap.size ≤ q → A q)
    (hz165 : ∀ (x_g_165e : Nat → Int32) (H : Heap) (locs : List Loc) (ls : Array Slot), z165 x_g_165e = some res → Wo g A s H locs (w_X13 g h0 h1 h2 h3 h4 h5 h6 h7 h8 h9 h10 h11 h12 h13 x_g_165e x_kept x_saved x_before x_was x_region x_parts x_next x_ways x_more x_whole x_isSaved x_changes x_isWithin x_code x_input x_length x_fault x_failed x_signs x_signMany x_at x_told x_toldMany) → lv_has ls 2 [(0, .ref h0)] → G_X13_init p l e s m args below meth c g A h0 res H locs 165 ls [])
    : ∀ (n : Nat) (l1_143 : Int32) (x_g_143 : Nat → Int32) (H : Heap) (locs : List Loc) (ls : Array Slot), f_X13_init_143 z165 n l1_143 x_g_143 = some res → Wo g A s H locs (w_X13 g h0 h1 h2 h3 h4 h5 h6 h7 h8 h9 h10 h11 h12 h13 x_g_143 x_kept x_saved x_before x_was x_region x_parts x_next x_ways x_more x_whole x_isSaved x_changes x_isWithin x_code x_input x_length x_fault x_failed x_signs x_signMany x_at x_told x_toldMany) → lv_has ls 2 [(0, .ref h0), (1, .int l1_143)] → G_X13_init p l e s m args below meth c g A h0 res H locs 143 ls [] := by
  have hts := E.2.2.2.1
  intro n
  induction n with
  | zero => intro l1_143 x_g_143 H locs ls h hW hl; rw [f_X13_init_143] at h; cases h
  | succ n ih =>
    intro l1_143 x_g_143 H locs ls h hW hl
    rw [f_X13_init_143] at h
    refine lv_iload_n E.1 E.2.1 dX13_init_143 rfl (lv_at hl 1 rfl) ?_
    refine lv_bipush (v := 16) E.1 E.2.1 dX13_init_144 (by decide) ?_
    refine lv_icmp_ge (tgt := 165) E.1 E.2.1 dX13_init_146 (by decide) (fun c146 => ?_) (fun c146 => ?_)
    · have h := it c146 h
      exact hz165 x_g_143 H locs ls h hW (lv_sub hl [0] rfl)
    · have h := ie c146 h
      refine lv_aload_n E.1 E.2.1 dX13_init_149 rfl (lv_at hl 0 rfl) ?_
      refine wGet (v := .ref h1) E hK in_X13_init_X13 hW 0 lk_X13_init_7 0 rfl rfl (by decide) rfl rfl dX13_init_150 ?_
      refine lv_bipush (v := 32) E.1 E.2.1 dX13_init_153 (by decide) ?_
      refine lv_iload_n E.1 E.2.1 dX13_init_155 rfl (lv_at hl 1 rfl) ?_
      refine lv_iadd E.1 E.2.1 dX13_init_156 ?_
      refine lv_iconst (v := 1) E.1 E.2.1 dX13_init_157 (by decide) ?_
      obtain ⟨hi158, h⟩ := ox h
      refine wIast (world' := (w_X13 g h0 h1 h2 h3 h4 h5 h6 h7 h8 h9 h10 h11 h12 h13 (upd x_g_143 (32 + l1_143).toNatClampNeg 1) x_kept x_saved x_before x_was x_region x_parts x_next x_ways x_more x_whole x_isSaved x_changes x_isWithin x_code x_input x_length x_fault x_failed x_signs x_signMany x_at x_told x_toldMany)) E hK hW 1 rfl hi158 dX13_init_158 rfl (fun H locs hW => ?_)
      refine lv_iinc (v := (l1_143 + 1)) (lv' := [(1, .int (l1_143 + 1)), (0, .ref h0)]) E.1 E.2.1 dX13_init_159 hl (k := 1) rfl rfl (by decide) rfl (fun ls hl => ?_)
      refine lv_goto (tgt := 143) E.1 E.2.1 dX13_init_162 (by decide) ?_
      exact ih (l1_143 + 1) (upd x_g_143 (32 + l1_143).toNatClampNeg 1) H locs ls h hW (lv_sub hl [1, 0] rfl)
set_option maxHeartbeats 4000000 in
set_option maxRecDepth 100000 in
theorem k_X13_init_0 {p : Program} {l : Launch} {e : Env} {s : State} {m : MethodId} {args : Array Value} {below : List Frame} {meth : Method} {c : Code} {g : GE} {A : Nat → Prop} {h0 : Nat} {res : (Nat → Int32) × (Nat → Int32) × (Nat → Int32) × (Nat → Int32) × (Nat → Int32) × (Nat → Int32) × (Nat → Int64) × (Nat → Int64) × (Nat → Int32) × (Nat → Int32) × Int64 × Int32 × Int32 × Int32 × Int32 × (Nat → Int32) × Int32 × Int32 × Int32 × (Nat → Int32) × Int32 × Int32 × (Nat → Int32) × Int32} {H : Heap} {locs : List Loc} {ls : Array Slot} (E : En cX13_init RX13 wsX13_init 2 none p s m args meth c) (hini : meth.name = "<init>") (hK : KK g s) (hA : ∀ q, s.heap.size ≤ q → A q) (h : f_X13_init = some res) (hW : Wo g A s H locs [(h0, .inr (13, [.null, .null, .null, .null, .null, .null, .null, .null, .null, .null, .long 0, .int 0, .int 0, .int 0, .int 0, .null, .int 0, .int 0, .int 0, .null, .int 0, .int 0, .null, .int 0]))]) (hl : lv_has ls 2 [(0, .ref h0)]) : W p l e (headSpec wsX13_init rm_X13_init).room s m args below meth c H locs 0 0 (MQ below (PoN g A (fun u => w_X13 g h0 (u 0) (u 1) (u 2) (u 3) (u 4) (u 5) (u 6) (u 7) (u 8) (u 9) (u 10) (u 11) (u 12) res.1 res.2.1 res.2.2.1 res.2.2.2.1 res.2.2.2.2.1 res.2.2.2.2.2.1 res.2.2.2.2.2.2.1 res.2.2.2.2.2.2.2.1 res.2.2.2.2.2.2.2.2.1 res.2.2.2.2.2.2.2.2.2.1 res.2.2.2.2.2.2.2.2.2.2.1 res.2.2.2.2.2.2.2.2.2.2.2.1 res.2.2.2.2.2.2.2.2.2.2.2.2.1 res.2.2.2.2.2.2.2.2.2.2.2.2.2.1 res.2.2.2.2.2.2.2.2.2.2.2.2.2.2.1 res.2.2.2.2.2.2.2.2.2.2.2.2.2.2.2.1 res.2.2.2.2.2.2.2.2.2.2.2.2.2.2.2.2.1 res.2.2.2.2.2.2.2.2.2.2.2.2.2.2.2.2.2.1 res.2.2.2.2.2.2.2.2.2.2.2.2.2.2.2.2.2.2.1 res.2.2.2.2.2.2.2.2.2.2.2.2.2.2.2.2.2.2.2.1 res.2.2.2.2.2.2.2.2.2.2.2.2.2.2.2.2.2.2.2.2.1 res.2.2.2.2.2.2.2.2.2.2.2.2.2.2.2.2.2.2.2.2.2.1 res.2.2.2.2.2.2.2.2.2.2.2.2.2.2.2.2.2.2.2.2.2.2.1 res.2.2.2.2.2.2.2.2.2.2.2.2.2.2.2.2.2.2.2.2.2.2.2)) args s 13 1090 A) (F0 m 0 ls []) := by
  have hts := E.2.2.2.1
  unfold f_X13_init at h
  refine lv_aload_n E.1 E.2.1 dX13_init_0 rfl (lv_at hl 0 rfl) ?_
  refine W.objInit E.1 E.2.1 E.2.2.2.2.1 (hts _ lk_X13_init_1a) (hts _ lk_X13_init_1b) (hts _ lk_X13_init_1c) rfl (by rw [E.2.2.2.2.2.2]; exact hl.1) rfl dX13_init_1 (Nat.le_of_ble_eq_true rfl) (Nat.le_of_ble_eq_true rfl) ?_
  refine W.eq (g2 := F0 m 4 ls []) rfl ?_
  refine lv_aload_n E.1 E.2.1 dX13_init_4 rfl (lv_at hl 0 rfl) ?_
  refine lv_bipush (v := 60) E.1 E.2.1 dX13_init_5 (by decide) ?_
  refine wNewa (atype := .int) (a0 := (60, .inl (fun _ => 0))) (ty := .int) E hK lk_X13_init_arr_int rfl hW hA 0 rfl (fun _ q => by cases q) (arr0I 60 .int rfl) (by decide) (by decide) (Nat.le_of_ble_eq_true rfl) (Nat.le_of_ble_eq_true rfl) (Nat.le_of_ble_eq_true rfl) dX13_init_7 (fun h1 H locs hW => ?_)
  refine W.widen (k := 1) (n := 60) (Nat.le_of_ble_eq_true rfl) (Nat.le_of_ble_eq_true rfl) ?_
  have hW : Wo g A s H locs ([(h0, .inr (13, [.null, .null, .null, .null, .null, .null, .null, .null, .null, .null, .long 0, .int 0, .int 0, .int 0, .int 0, .null, .int 0, .int 0, .int 0, .null, .int 0, .int 0, .null, .int 0])), (h1, .inl (g.2 0, 60, .inl (fun _ => 0)))]) := hW
  refine wPutF (ty := (.array .int)) (world' := ([(h0, .inr (13, [.ref h1, .null, .null, .null, .null, .null, .null, .null, .null, .null, .long 0, .int 0, .int 0, .int 0, .int 0, .null, .int 0, .int 0, .int 0, .null, .int 0, .int 0, .null, .int 0])), (h1, .inl (g.2 0, 60, .inl (fun _ => 0)))])) E hK in_X13_init_X13 tyX13 tyX13_ok nmX13 hW 0 lk_X13_init_7 0 rfl rfl (by decide) rfl rfl hini rfl (by decide +kernel) rfl rfl (Nat.le_of_ble_eq_true rfl) dX13_init_9 rfl (fun H locs hW => ?_)
  refine lv_aload_n E.1 E.2.1 dX13_init_12 rfl (lv_at hl 0 rfl) ?_
  refine lv_sipush (v := 480) E.1 E.2.1 dX13_init_13 (by decide) ?_
  refine wNewa (atype := .int) (a0 := (480, .inl (fun _ => 0))) (ty := .int) E hK lk_X13_init_arr_int rfl hW hA 0 rfl (fun _ q => by cases q) (arr0I 480 .int rfl) (by decide) (by decide) (Nat.le_of_ble_eq_true rfl) (Nat.le_of_ble_eq_true rfl) (Nat.le_of_ble_eq_true rfl) dX13_init_16 (fun h2 H locs hW => ?_)
  refine W.widen (k := 2) (n := 540) (Nat.le_of_ble_eq_true rfl) (Nat.le_of_ble_eq_true rfl) ?_
  have hW : Wo g A s H locs ([(h0, .inr (13, [.ref h1, .null, .null, .null, .null, .null, .null, .null, .null, .null, .long 0, .int 0, .int 0, .int 0, .int 0, .null, .int 0, .int 0, .int 0, .null, .int 0, .int 0, .null, .int 0])), (h1, .inl (g.2 0, 60, .inl (fun _ => 0))), (h2, .inl (g.2 0, 480, .inl (fun _ => 0)))]) := hW
  refine wPutF (ty := (.array .int)) (world' := ([(h0, .inr (13, [.ref h1, .ref h2, .null, .null, .null, .null, .null, .null, .null, .null, .long 0, .int 0, .int 0, .int 0, .int 0, .null, .int 0, .int 0, .int 0, .null, .int 0, .int 0, .null, .int 0])), (h1, .inl (g.2 0, 60, .inl (fun _ => 0))), (h2, .inl (g.2 0, 480, .inl (fun _ => 0)))])) E hK in_X13_init_X13 tyX13 tyX13_ok nmX13 hW 1 lk_X13_init_13 0 rfl rfl (by decide) rfl rfl hini rfl (by decide +kernel) rfl rfl (Nat.le_of_ble_eq_true rfl) dX13_init_18 rfl (fun H locs hW => ?_)
  refine lv_aload_n E.1 E.2.1 dX13_init_21 rfl (lv_at hl 0 rfl) ?_
  refine lv_bipush (v := 60) E.1 E.2.1 dX13_init_22 (by decide) ?_
  refine wNewa (atype := .int) (a0 := (60, .inl (fun _ => 0))) (ty := .int) E hK lk_X13_init_arr_int rfl hW hA 0 rfl (fun _ q => by cases q) (arr0I 60 .int rfl) (by decide) (by decide) (Nat.le_of_ble_eq_true rfl) (Nat.le_of_ble_eq_true rfl) (Nat.le_of_ble_eq_true rfl) dX13_init_24 (fun h3 H locs hW => ?_)
  refine W.widen (k := 3) (n := 600) (Nat.le_of_ble_eq_true rfl) (Nat.le_of_ble_eq_true rfl) ?_
  have hW : Wo g A s H locs ([(h0, .inr (13, [.ref h1, .ref h2, .null, .null, .null, .null, .null, .null, .null, .null, .long 0, .int 0, .int 0, .int 0, .int 0, .null, .int 0, .int 0, .int 0, .null, .int 0, .int 0, .null, .int 0])), (h1, .inl (g.2 0, 60, .inl (fun _ => 0))), (h2, .inl (g.2 0, 480, .inl (fun _ => 0))), (h3, .inl (g.2 0, 60, .inl (fun _ => 0)))]) := hW
  refine wPutF (ty := (.array .int)) (world' := ([(h0, .inr (13, [.ref h1, .ref h2, .ref h3, .null, .null, .null, .null, .null, .null, .null, .long 0, .int 0, .int 0, .int 0, .int 0, .null, .int 0, .int 0, .int 0, .null, .int 0, .int 0, .null, .int 0])), (h1, .inl (g.2 0, 60, .inl (fun _ => 0))), (h2, .inl (g.2 0, 480, .inl (fun _ => 0))), (h3, .inl (g.2 0, 60, .inl (fun _ => 0)))])) E hK in_X13_init_X13 tyX13 tyX13_ok nmX13 hW 2 lk_X13_init_16 0 rfl rfl (by decide) rfl rfl hini rfl (by decide +kernel) rfl rfl (Nat.le_of_ble_eq_true rfl) dX13_init_26 rfl (fun H locs hW => ?_)
  refine lv_aload_n E.1 E.2.1 dX13_init_29 rfl (lv_at hl 0 rfl) ?_
  refine lv_bipush (v := 60) E.1 E.2.1 dX13_init_30 (by decide) ?_
  refine wNewa (atype := .int) (a0 := (60, .inl (fun _ => 0))) (ty := .int) E hK lk_X13_init_arr_int rfl hW hA 0 rfl (fun _ q => by cases q) (arr0I 60 .int rfl) (by decide) (by decide) (Nat.le_of_ble_eq_true rfl) (Nat.le_of_ble_eq_true rfl) (Nat.le_of_ble_eq_true rfl) dX13_init_32 (fun h4 H locs hW => ?_)
  refine W.widen (k := 4) (n := 660) (Nat.le_of_ble_eq_true rfl) (Nat.le_of_ble_eq_true rfl) ?_
  have hW : Wo g A s H locs ([(h0, .inr (13, [.ref h1, .ref h2, .ref h3, .null, .null, .null, .null, .null, .null, .null, .long 0, .int 0, .int 0, .int 0, .int 0, .null, .int 0, .int 0, .int 0, .null, .int 0, .int 0, .null, .int 0])), (h1, .inl (g.2 0, 60, .inl (fun _ => 0))), (h2, .inl (g.2 0, 480, .inl (fun _ => 0))), (h3, .inl (g.2 0, 60, .inl (fun _ => 0))), (h4, .inl (g.2 0, 60, .inl (fun _ => 0)))]) := hW
  refine wPutF (ty := (.array .int)) (world' := ([(h0, .inr (13, [.ref h1, .ref h2, .ref h3, .ref h4, .null, .null, .null, .null, .null, .null, .long 0, .int 0, .int 0, .int 0, .int 0, .null, .int 0, .int 0, .int 0, .null, .int 0, .int 0, .null, .int 0])), (h1, .inl (g.2 0, 60, .inl (fun _ => 0))), (h2, .inl (g.2 0, 480, .inl (fun _ => 0))), (h3, .inl (g.2 0, 60, .inl (fun _ => 0))), (h4, .inl (g.2 0, 60, .inl (fun _ => 0)))])) E hK in_X13_init_X13 tyX13 tyX13_ok nmX13 hW 3 lk_X13_init_19 0 rfl rfl (by decide) rfl rfl hini rfl (by decide +kernel) rfl rfl (Nat.le_of_ble_eq_true rfl) dX13_init_34 rfl (fun H locs hW => ?_)
  refine lv_aload_n E.1 E.2.1 dX13_init_37 rfl (lv_at hl 0 rfl) ?_
  refine lv_bipush (v := 25) E.1 E.2.1 dX13_init_38 (by decide) ?_
  refine wNewa (atype := .int) (a0 := (25, .inl (fun _ => 0))) (ty := .int) E hK lk_X13_init_arr_int rfl hW hA 0 rfl (fun _ q => by cases q) (arr0I 25 .int rfl) (by decide) (by decide) (Nat.le_of_ble_eq_true rfl) (Nat.le_of_ble_eq_true rfl) (Nat.le_of_ble_eq_true rfl) dX13_init_40 (fun h5 H locs hW => ?_)
  refine W.widen (k := 5) (n := 685) (Nat.le_of_ble_eq_true rfl) (Nat.le_of_ble_eq_true rfl) ?_
  have hW : Wo g A s H locs ([(h0, .inr (13, [.ref h1, .ref h2, .ref h3, .ref h4, .null, .null, .null, .null, .null, .null, .long 0, .int 0, .int 0, .int 0, .int 0, .null, .int 0, .int 0, .int 0, .null, .int 0, .int 0, .null, .int 0])), (h1, .inl (g.2 0, 60, .inl (fun _ => 0))), (h2, .inl (g.2 0, 480, .inl (fun _ => 0))), (h3, .inl (g.2 0, 60, .inl (fun _ => 0))), (h4, .inl (g.2 0, 60, .inl (fun _ => 0))), (h5, .inl (g.2 0, 25, .inl (fun _ => 0)))]) := hW
  refine wPutF (ty := (.array .int)) (world' := ([(h0, .inr (13, [.ref h1, .ref h2, .ref h3, .ref h4, .ref h5, .null, .null, .null, .null, .null, .long 0, .int 0, .int 0, .int 0, .int 0, .null, .int 0, .int 0, .int 0, .null, .int 0, .int 0, .null, .int 0])), (h1, .inl (g.2 0, 60, .inl (fun _ => 0))), (h2, .inl (g.2 0, 480, .inl (fun _ => 0))), (h3, .inl (g.2 0, 60, .inl (fun _ => 0))), (h4, .inl (g.2 0, 60, .inl (fun _ => 0))), (h5, .inl (g.2 0, 25, .inl (fun _ => 0)))])) E hK in_X13_init_X13 tyX13 tyX13_ok nmX13 hW 4 lk_X13_init_22 0 rfl rfl (by decide) rfl rfl hini rfl (by decide +kernel) rfl rfl (Nat.le_of_ble_eq_true rfl) dX13_init_42 rfl (fun H locs hW => ?_)
  refine lv_aload_n E.1 E.2.1 dX13_init_45 rfl (lv_at hl 0 rfl) ?_
  refine lv_bipush (v := 25) E.1 E.2.1 dX13_init_46 (by decide) ?_
  refine wNewa (atype := .int) (a0 := (25, .inl (fun _ => 0))) (ty := .int) E hK lk_X13_init_arr_int rfl hW hA 0 rfl (fun _ q => by cases q) (arr0I 25 .int rfl) (by decide) (by decide) (Nat.le_of_ble_eq_true rfl) (Nat.le_of_ble_eq_true rfl) (Nat.le_of_ble_eq_true rfl) dX13_init_48 (fun h6 H locs hW => ?_)
  refine W.widen (k := 6) (n := 710) (Nat.le_of_ble_eq_true rfl) (Nat.le_of_ble_eq_true rfl) ?_
  have hW : Wo g A s H locs ([(h0, .inr (13, [.ref h1, .ref h2, .ref h3, .ref h4, .ref h5, .null, .null, .null, .null, .null, .long 0, .int 0, .int 0, .int 0, .int 0, .null, .int 0, .int 0, .int 0, .null, .int 0, .int 0, .null, .int 0])), (h1, .inl (g.2 0, 60, .inl (fun _ => 0))), (h2, .inl (g.2 0, 480, .inl (fun _ => 0))), (h3, .inl (g.2 0, 60, .inl (fun _ => 0))), (h4, .inl (g.2 0, 60, .inl (fun _ => 0))), (h5, .inl (g.2 0, 25, .inl (fun _ => 0))), (h6, .inl (g.2 0, 25, .inl (fun _ => 0)))]) := hW
  refine wPutF (ty := (.array .int)) (world' := ([(h0, .inr (13, [.ref h1, .ref h2, .ref h3, .ref h4, .ref h5, .ref h6, .null, .null, .null, .null, .long 0, .int 0, .int 0, .int 0, .int 0, .null, .int 0, .int 0, .int 0, .null, .int 0, .int 0, .null, .int 0])), (h1, .inl (g.2 0, 60, .inl (fun _ => 0))), (h2, .inl (g.2 0, 480, .inl (fun _ => 0))), (h3, .inl (g.2 0, 60, .inl (fun _ => 0))), (h4, .inl (g.2 0, 60, .inl (fun _ => 0))), (h5, .inl (g.2 0, 25, .inl (fun _ => 0))), (h6, .inl (g.2 0, 25, .inl (fun _ => 0)))])) E hK in_X13_init_X13 tyX13 tyX13_ok nmX13 hW 5 lk_X13_init_25 0 rfl rfl (by decide) rfl rfl hini rfl (by decide +kernel) rfl rfl (Nat.le_of_ble_eq_true rfl) dX13_init_50 rfl (fun H locs hW => ?_)
  refine lv_aload_n E.1 E.2.1 dX13_init_53 rfl (lv_at hl 0 rfl) ?_
  refine lv_iconst (v := 4) E.1 E.2.1 dX13_init_54 (by decide) ?_
  refine wNewa (atype := .long) (a0 := (4, .inr (.inl (fun _ => 0)))) (ty := .long) E hK lk_X13_init_arr_long rfl hW hA 1 rfl (fun _ q => by cases q) (arr0J 4) (by decide) (by decide) (Nat.le_of_ble_eq_true rfl) (Nat.le_of_ble_eq_true rfl) (Nat.le_of_ble_eq_true rfl) dX13_init_55 (fun h7 H locs hW => ?_)
  refine W.widen (k := 7) (n := 714) (Nat.le_of_ble_eq_true rfl) (Nat.le_of_ble_eq_true rfl) ?_
  have hW : Wo g A s H locs ([(h0, .inr (13, [.ref h1, .ref h2, .ref h3, .ref h4, .ref h5, .ref h6, .null, .null, .null, .null, .long 0, .int 0, .int 0, .int 0, .int 0, .null, .int 0, .int 0, .int 0, .null, .int 0, .int 0, .null, .int 0])), (h1, .inl (g.2 0, 60, .inl (fun _ => 0))), (h2, .inl (g.2 0, 480, .inl (fun _ => 0))), (h3, .inl (g.2 0, 60, .inl (fun _ => 0))), (h4, .inl (g.2 0, 60, .inl (fun _ => 0))), (h5, .inl (g.2 0, 25, .inl (fun _ => 0))), (h6, .inl (g.2 0, 25, .inl (fun _ => 0))), (h7, .inl (g.2 1, 4, .inr (.inl (fun _ => 0))))]) := hW
  refine wPutF (ty := (.array .long)) (world' := ([(h0, .inr (13, [.ref h1, .ref h2, .ref h3, .ref h4, .ref h5, .ref h6, .ref h7, .null, .null, .null, .long 0, .int 0, .int 0, .int 0, .int 0, .null, .int 0, .int 0, .int 0, .null, .int 0, .int 0, .null, .int 0])), (h1, .inl (g.2 0, 60, .inl (fun _ => 0))), (h2, .inl (g.2 0, 480, .inl (fun _ => 0))), (h3, .inl (g.2 0, 60, .inl (fun _ => 0))), (h4, .inl (g.2 0, 60, .inl (fun _ => 0))), (h5, .inl (g.2 0, 25, .inl (fun _ => 0))), (h6, .inl (g.2 0, 25, .inl (fun _ => 0))), (h7, .inl (g.2 1, 4, .inr (.inl (fun _ => 0))))])) E hK in_X13_init_X13 tyX13 tyX13_ok nmX13 hW 6 lk_X13_init_28 0 rfl rfl (by decide) rfl rfl hini rfl (by decide +kernel) rfl rfl (Nat.le_of_ble_eq_true rfl) dX13_init_57 rfl (fun H locs hW => ?_)
  refine lv_aload_n E.1 E.2.1 dX13_init_60 rfl (lv_at hl 0 rfl) ?_
  refine lv_iconst (v := 4) E.1 E.2.1 dX13_init_61 (by decide) ?_
  refine wNewa (atype := .long) (a0 := (4, .inr (.inl (fun _ => 0)))) (ty := .long) E hK lk_X13_init_arr_long rfl hW hA 1 rfl (fun _ q => by cases q) (arr0J 4) (by decide) (by decide) (Nat.le_of_ble_eq_true rfl) (Nat.le_of_ble_eq_true rfl) (Nat.le_of_ble_eq_true rfl) dX13_init_62 (fun h8 H locs hW => ?_)
  refine W.widen (k := 8) (n := 718) (Nat.le_of_ble_eq_true rfl) (Nat.le_of_ble_eq_true rfl) ?_
  have hW : Wo g A s H locs ([(h0, .inr (13, [.ref h1, .ref h2, .ref h3, .ref h4, .ref h5, .ref h6, .ref h7, .null, .null, .null, .long 0, .int 0, .int 0, .int 0, .int 0, .null, .int 0, .int 0, .int 0, .null, .int 0, .int 0, .null, .int 0])), (h1, .inl (g.2 0, 60, .inl (fun _ => 0))), (h2, .inl (g.2 0, 480, .inl (fun _ => 0))), (h3, .inl (g.2 0, 60, .inl (fun _ => 0))), (h4, .inl (g.2 0, 60, .inl (fun _ => 0))), (h5, .inl (g.2 0, 25, .inl (fun _ => 0))), (h6, .inl (g.2 0, 25, .inl (fun _ => 0))), (h7, .inl (g.2 1, 4, .inr (.inl (fun _ => 0)))), (h8, .inl (g.2 1, 4, .inr (.inl (fun _ => 0))))]) := hW
  refine wPutF (ty := (.array .long)) (world' := ([(h0, .inr (13, [.ref h1, .ref h2, .ref h3, .ref h4, .ref h5, .ref h6, .ref h7, .ref h8, .null, .null, .long 0, .int 0, .int 0, .int 0, .int 0, .null, .int 0, .int 0, .int 0, .null, .int 0, .int 0, .null, .int 0])), (h1, .inl (g.2 0, 60, .inl (fun _ => 0))), (h2, .inl (g.2 0, 480, .inl (fun _ => 0))), (h3, .inl (g.2 0, 60, .inl (fun _ => 0))), (h4, .inl (g.2 0, 60, .inl (fun _ => 0))), (h5, .inl (g.2 0, 25, .inl (fun _ => 0))), (h6, .inl (g.2 0, 25, .inl (fun _ => 0))), (h7, .inl (g.2 1, 4, .inr (.inl (fun _ => 0)))), (h8, .inl (g.2 1, 4, .inr (.inl (fun _ => 0))))])) E hK in_X13_init_X13 tyX13 tyX13_ok nmX13 hW 7 lk_X13_init_32 0 rfl rfl (by decide) rfl rfl hini rfl (by decide +kernel) rfl rfl (Nat.le_of_ble_eq_true rfl) dX13_init_64 rfl (fun H locs hW => ?_)
  refine lv_aload_n E.1 E.2.1 dX13_init_67 rfl (lv_at hl 0 rfl) ?_
  refine lv_iconst (v := 4) E.1 E.2.1 dX13_init_68 (by decide) ?_
  refine wNewa (atype := .int) (a0 := (4, .inl (fun _ => 0))) (ty := .int) E hK lk_X13_init_arr_int rfl hW hA 0 rfl (fun _ q => by cases q) (arr0I 4 .int rfl) (by decide) (by decide) (Nat.le_of_ble_eq_true rfl) (Nat.le_of_ble_eq_true rfl) (Nat.le_of_ble_eq_true rfl) dX13_init_69 (fun h9 H locs hW => ?_)
  refine W.widen (k := 9) (n := 722) (Nat.le_of_ble_eq_true rfl) (Nat.le_of_ble_eq_true rfl) ?_
  have hW : Wo g A s H locs ([(h0, .inr (13, [.ref h1, .ref h2, .ref h3, .ref h4, .ref h5, .ref h6, .ref h7, .ref h8, .null, .null, .long 0, .int 0, .int 0, .int 0, .int 0, .null, .int 0, .int 0, .int 0, .null, .int 0, .int 0, .null, .int 0])), (h1, .inl (g.2 0, 60, .inl (fun _ => 0))), (h2, .inl (g.2 0, 480, .inl (fun _ => 0))), (h3, .inl (g.2 0, 60, .inl (fun _ => 0))), (h4, .inl (g.2 0, 60, .inl (fun _ => 0))), (h5, .inl (g.2 0, 25, .inl (fun _ => 0))), (h6, .inl (g.2 0, 25, .inl (fun _ => 0))), (h7, .inl (g.2 1, 4, .inr (.inl (fun _ => 0)))), (h8, .inl (g.2 1, 4, .inr (.inl (fun _ => 0)))), (h9, .inl (g.2 0, 4, .inl (fun _ => 0)))]) := hW
  refine wPutF (ty := (.array .int)) (world' := ([(h0, .inr (13, [.ref h1, .ref h2, .ref h3, .ref h4, .ref h5, .ref h6, .ref h7, .ref h8, .ref h9, .null, .long 0, .int 0, .int 0, .int 0, .int 0, .null, .int 0, .int 0, .int 0, .null, .int 0, .int 0, .null, .int 0])), (h1, .inl (g.2 0, 60, .inl (fun _ => 0))), (h2, .inl (g.2 0, 480, .inl (fun _ => 0))), (h3, .inl (g.2 0, 60, .inl (fun _ => 0))), (h4, .inl (g.2 0, 60, .inl (fun _ => 0))), (h5, .inl (g.2 0, 25, .inl (fun _ => 0))), (h6, .inl (g.2 0, 25, .inl (fun _ => 0))), (h7, .inl (g.2 1, 4, .inr (.inl (fun _ => 0)))), (h8, .inl (g.2 1, 4, .inr (.inl (fun _ => 0)))), (h9, .inl (g.2 0, 4, .inl (fun _ => 0)))])) E hK in_X13_init_X13 tyX13 tyX13_ok nmX13 hW 8 lk_X13_init_35 0 rfl rfl (by decide) rfl rfl hini rfl (by decide +kernel) rfl rfl (Nat.le_of_ble_eq_true rfl) dX13_init_71 rfl (fun H locs hW => ?_)
  refine lv_aload_n E.1 E.2.1 dX13_init_74 rfl (lv_at hl 0 rfl) ?_
  refine lv_iconst (v := 4) E.1 E.2.1 dX13_init_75 (by decide) ?_
  refine wNewa (atype := .int) (a0 := (4, .inl (fun _ => 0))) (ty := .int) E hK lk_X13_init_arr_int rfl hW hA 0 rfl (fun _ q => by cases q) (arr0I 4 .int rfl) (by decide) (by decide) (Nat.le_of_ble_eq_true rfl) (Nat.le_of_ble_eq_true rfl) (Nat.le_of_ble_eq_true rfl) dX13_init_76 (fun h10 H locs hW => ?_)
  refine W.widen (k := 10) (n := 726) (Nat.le_of_ble_eq_true rfl) (Nat.le_of_ble_eq_true rfl) ?_
  have hW : Wo g A s H locs ([(h0, .inr (13, [.ref h1, .ref h2, .ref h3, .ref h4, .ref h5, .ref h6, .ref h7, .ref h8, .ref h9, .null, .long 0, .int 0, .int 0, .int 0, .int 0, .null, .int 0, .int 0, .int 0, .null, .int 0, .int 0, .null, .int 0])), (h1, .inl (g.2 0, 60, .inl (fun _ => 0))), (h2, .inl (g.2 0, 480, .inl (fun _ => 0))), (h3, .inl (g.2 0, 60, .inl (fun _ => 0))), (h4, .inl (g.2 0, 60, .inl (fun _ => 0))), (h5, .inl (g.2 0, 25, .inl (fun _ => 0))), (h6, .inl (g.2 0, 25, .inl (fun _ => 0))), (h7, .inl (g.2 1, 4, .inr (.inl (fun _ => 0)))), (h8, .inl (g.2 1, 4, .inr (.inl (fun _ => 0)))), (h9, .inl (g.2 0, 4, .inl (fun _ => 0))), (h10, .inl (g.2 0, 4, .inl (fun _ => 0)))]) := hW
  refine wPutF (ty := (.array .int)) (world' := ([(h0, .inr (13, [.ref h1, .ref h2, .ref h3, .ref h4, .ref h5, .ref h6, .ref h7, .ref h8, .ref h9, .ref h10, .long 0, .int 0, .int 0, .int 0, .int 0, .null, .int 0, .int 0, .int 0, .null, .int 0, .int 0, .null, .int 0])), (h1, .inl (g.2 0, 60, .inl (fun _ => 0))), (h2, .inl (g.2 0, 480, .inl (fun _ => 0))), (h3, .inl (g.2 0, 60, .inl (fun _ => 0))), (h4, .inl (g.2 0, 60, .inl (fun _ => 0))), (h5, .inl (g.2 0, 25, .inl (fun _ => 0))), (h6, .inl (g.2 0, 25, .inl (fun _ => 0))), (h7, .inl (g.2 1, 4, .inr (.inl (fun _ => 0)))), (h8, .inl (g.2 1, 4, .inr (.inl (fun _ => 0)))), (h9, .inl (g.2 0, 4, .inl (fun _ => 0))), (h10, .inl (g.2 0, 4, .inl (fun _ => 0)))])) E hK in_X13_init_X13 tyX13 tyX13_ok nmX13 hW 9 lk_X13_init_38 0 rfl rfl (by decide) rfl rfl hini rfl (by decide +kernel) rfl rfl (Nat.le_of_ble_eq_true rfl) dX13_init_78 rfl (fun H locs hW => ?_)
  refine lv_aload_n E.1 E.2.1 dX13_init_81 rfl (lv_at hl 0 rfl) ?_
  refine lv_bipush (v := 60) E.1 E.2.1 dX13_init_82 (by decide) ?_
  refine wNewa (atype := .int) (a0 := (60, .inl (fun _ => 0))) (ty := .int) E hK lk_X13_init_arr_int rfl hW hA 0 rfl (fun _ q => by cases q) (arr0I 60 .int rfl) (by decide) (by decide) (Nat.le_of_ble_eq_true rfl) (Nat.le_of_ble_eq_true rfl) (Nat.le_of_ble_eq_true rfl) dX13_init_84 (fun h11 H locs hW => ?_)
  refine W.widen (k := 11) (n := 786) (Nat.le_of_ble_eq_true rfl) (Nat.le_of_ble_eq_true rfl) ?_
  have hW : Wo g A s H locs ([(h0, .inr (13, [.ref h1, .ref h2, .ref h3, .ref h4, .ref h5, .ref h6, .ref h7, .ref h8, .ref h9, .ref h10, .long 0, .int 0, .int 0, .int 0, .int 0, .null, .int 0, .int 0, .int 0, .null, .int 0, .int 0, .null, .int 0])), (h1, .inl (g.2 0, 60, .inl (fun _ => 0))), (h2, .inl (g.2 0, 480, .inl (fun _ => 0))), (h3, .inl (g.2 0, 60, .inl (fun _ => 0))), (h4, .inl (g.2 0, 60, .inl (fun _ => 0))), (h5, .inl (g.2 0, 25, .inl (fun _ => 0))), (h6, .inl (g.2 0, 25, .inl (fun _ => 0))), (h7, .inl (g.2 1, 4, .inr (.inl (fun _ => 0)))), (h8, .inl (g.2 1, 4, .inr (.inl (fun _ => 0)))), (h9, .inl (g.2 0, 4, .inl (fun _ => 0))), (h10, .inl (g.2 0, 4, .inl (fun _ => 0))), (h11, .inl (g.2 0, 60, .inl (fun _ => 0)))]) := hW
  refine wPutF (ty := (.array .int)) (world' := ([(h0, .inr (13, [.ref h1, .ref h2, .ref h3, .ref h4, .ref h5, .ref h6, .ref h7, .ref h8, .ref h9, .ref h10, .long 0, .int 0, .int 0, .int 0, .int 0, .ref h11, .int 0, .int 0, .int 0, .null, .int 0, .int 0, .null, .int 0])), (h1, .inl (g.2 0, 60, .inl (fun _ => 0))), (h2, .inl (g.2 0, 480, .inl (fun _ => 0))), (h3, .inl (g.2 0, 60, .inl (fun _ => 0))), (h4, .inl (g.2 0, 60, .inl (fun _ => 0))), (h5, .inl (g.2 0, 25, .inl (fun _ => 0))), (h6, .inl (g.2 0, 25, .inl (fun _ => 0))), (h7, .inl (g.2 1, 4, .inr (.inl (fun _ => 0)))), (h8, .inl (g.2 1, 4, .inr (.inl (fun _ => 0)))), (h9, .inl (g.2 0, 4, .inl (fun _ => 0))), (h10, .inl (g.2 0, 4, .inl (fun _ => 0))), (h11, .inl (g.2 0, 60, .inl (fun _ => 0)))])) E hK in_X13_init_X13 tyX13 tyX13_ok nmX13 hW 15 lk_X13_init_41 0 rfl rfl (by decide) rfl rfl hini rfl (by decide +kernel) rfl rfl (Nat.le_of_ble_eq_true rfl) dX13_init_86 rfl (fun H locs hW => ?_)
  refine lv_aload_n E.1 E.2.1 dX13_init_89 rfl (lv_at hl 0 rfl) ?_
  refine lv_iconst (v := (-1)) E.1 E.2.1 dX13_init_90 (by decide) ?_
  refine wPut (world' := ([(h0, .inr (13, [.ref h1, .ref h2, .ref h3, .ref h4, .ref h5, .ref h6, .ref h7, .ref h8, .ref h9, .ref h10, .long 0, .int 0, .int 0, .int 0, .int 0, .ref h11, .int 0, .int (-1), .int 0, .null, .int 0, .int 0, .null, .int 0])), (h1, .inl (g.2 0, 60, .inl (fun _ => 0))), (h2, .inl (g.2 0, 480, .inl (fun _ => 0))), (h3, .inl (g.2 0, 60, .inl (fun _ => 0))), (h4, .inl (g.2 0, 60, .inl (fun _ => 0))), (h5, .inl (g.2 0, 25, .inl (fun _ => 0))), (h6, .inl (g.2 0, 25, .inl (fun _ => 0))), (h7, .inl (g.2 1, 4, .inr (.inl (fun _ => 0)))), (h8, .inl (g.2 1, 4, .inr (.inl (fun _ => 0)))), (h9, .inl (g.2 0, 4, .inl (fun _ => 0))), (h10, .inl (g.2 0, 4, .inl (fun _ => 0))), (h11, .inl (g.2 0, 60, .inl (fun _ => 0)))])) E hK in_X13_init_X13 tyX13 tyX13_ok nmX13 hW 17 lk_X13_init_44 0 rfl rfl (by decide) rfl rfl rfl rfl rfl (Nat.le_of_ble_eq_true rfl) dX13_init_91 rfl (fun H locs hW => ?_)
  refine lv_aload_n E.1 E.2.1 dX13_init_94 rfl (lv_at hl 0 rfl) ?_
  refine lv_iconst (v := (-1)) E.1 E.2.1 dX13_init_95 (by decide) ?_
  refine wPut (world' := ([(h0, .inr (13, [.ref h1, .ref h2, .ref h3, .ref h4, .ref h5, .ref h6, .ref h7, .ref h8, .ref h9, .ref h10, .long 0, .int 0, .int 0, .int 0, .int 0, .ref h11, .int 0, .int (-1), .int (-1), .null, .int 0, .int 0, .null, .int 0])), (h1, .inl (g.2 0, 60, .inl (fun _ => 0))), (h2, .inl (g.2 0, 480, .inl (fun _ => 0))), (h3, .inl (g.2 0, 60, .inl (fun _ => 0))), (h4, .inl (g.2 0, 60, .inl (fun _ => 0))), (h5, .inl (g.2 0, 25, .inl (fun _ => 0))), (h6, .inl (g.2 0, 25, .inl (fun _ => 0))), (h7, .inl (g.2 1, 4, .inr (.inl (fun _ => 0)))), (h8, .inl (g.2 1, 4, .inr (.inl (fun _ => 0)))), (h9, .inl (g.2 0, 4, .inl (fun _ => 0))), (h10, .inl (g.2 0, 4, .inl (fun _ => 0))), (h11, .inl (g.2 0, 60, .inl (fun _ => 0)))])) E hK in_X13_init_X13 tyX13 tyX13_ok nmX13 hW 18 lk_X13_init_48 0 rfl rfl (by decide) rfl rfl rfl rfl rfl (Nat.le_of_ble_eq_true rfl) dX13_init_96 rfl (fun H locs hW => ?_)
  refine lv_aload_n E.1 E.2.1 dX13_init_99 rfl (lv_at hl 0 rfl) ?_
  refine lv_sipush (v := 180) E.1 E.2.1 dX13_init_100 (by decide) ?_
  refine wNewa (atype := .char) (a0 := (180, .inl (fun _ => 0))) (ty := .char) E hK lk_X13_init_arr_char rfl hW hA 2 rfl (fun _ q => by cases q) (arr0I 180 .char rfl) (by decide) (by decide) (Nat.le_of_ble_eq_true rfl) (Nat.le_of_ble_eq_true rfl) (Nat.le_of_ble_eq_true rfl) dX13_init_103 (fun h12 H locs hW => ?_)
  refine W.widen (k := 12) (n := 966) (Nat.le_of_ble_eq_true rfl) (Nat.le_of_ble_eq_true rfl) ?_
  have hW : Wo g A s H locs ([(h0, .inr (13, [.ref h1, .ref h2, .ref h3, .ref h4, .ref h5, .ref h6, .ref h7, .ref h8, .ref h9, .ref h10, .long 0, .int 0, .int 0, .int 0, .int 0, .ref h11, .int 0, .int (-1), .int (-1), .null, .int 0, .int 0, .null, .int 0])), (h1, .inl (g.2 0, 60, .inl (fun _ => 0))), (h2, .inl (g.2 0, 480, .inl (fun _ => 0))), (h3, .inl (g.2 0, 60, .inl (fun _ => 0))), (h4, .inl (g.2 0, 60, .inl (fun _ => 0))), (h5, .inl (g.2 0, 25, .inl (fun _ => 0))), (h6, .inl (g.2 0, 25, .inl (fun _ => 0))), (h7, .inl (g.2 1, 4, .inr (.inl (fun _ => 0)))), (h8, .inl (g.2 1, 4, .inr (.inl (fun _ => 0)))), (h9, .inl (g.2 0, 4, .inl (fun _ => 0))), (h10, .inl (g.2 0, 4, .inl (fun _ => 0))), (h11, .inl (g.2 0, 60, .inl (fun _ => 0))), (h12, .inl (g.2 2, 180, .inl (fun _ => 0)))]) := hW
  refine wPutF (ty := (.array .char)) (world' := ([(h0, .inr (13, [.ref h1, .ref h2, .ref h3, .ref h4, .ref h5, .ref h6, .ref h7, .ref h8, .ref h9, .ref h10, .long 0, .int 0, .int 0, .int 0, .int 0, .ref h11, .int 0, .int (-1), .int (-1), .ref h12, .int 0, .int 0, .null, .int 0])), (h1, .inl (g.2 0, 60, .inl (fun _ => 0))), (h2, .inl (g.2 0, 480, .inl (fun _ => 0))), (h3, .inl (g.2 0, 60, .inl (fun _ => 0))), (h4, .inl (g.2 0, 60, .inl (fun _ => 0))), (h5, .inl (g.2 0, 25, .inl (fun _ => 0))), (h6, .inl (g.2 0, 25, .inl (fun _ => 0))), (h7, .inl (g.2 1, 4, .inr (.inl (fun _ => 0)))), (h8, .inl (g.2 1, 4, .inr (.inl (fun _ => 0)))), (h9, .inl (g.2 0, 4, .inl (fun _ => 0))), (h10, .inl (g.2 0, 4, .inl (fun _ => 0))), (h11, .inl (g.2 0, 60, .inl (fun _ => 0))), (h12, .inl (g.2 2, 180, .inl (fun _ => 0)))])) E hK in_X13_init_X13 tyX13 tyX13_ok nmX13 hW 19 lk_X13_init_51 0 rfl rfl (by decide) rfl rfl hini rfl (by decide +kernel) rfl rfl (Nat.le_of_ble_eq_true rfl) dX13_init_105 rfl (fun H locs hW => ?_)
  refine lv_aload_n E.1 E.2.1 dX13_init_108 rfl (lv_at hl 0 rfl) ?_
  refine lv_bipush (v := 124) E.1 E.2.1 dX13_init_109 (by decide) ?_
  refine wNewa (atype := .int) (a0 := (124, .inl (fun _ => 0))) (ty := .int) E hK lk_X13_init_arr_int rfl hW hA 0 rfl (fun _ q => by cases q) (arr0I 124 .int rfl) (by decide) (by decide) (Nat.le_of_ble_eq_true rfl) (Nat.le_of_ble_eq_true rfl) (Nat.le_of_ble_eq_true rfl) dX13_init_111 (fun h13 H locs hW => ?_)
  refine W.widen (k := 13) (n := 1090) (Nat.le_of_ble_eq_true rfl) (Nat.le_of_ble_eq_true rfl) ?_
  have hW : Wo g A s H locs ([(h0, .inr (13, [.ref h1, .ref h2, .ref h3, .ref h4, .ref h5, .ref h6, .ref h7, .ref h8, .ref h9, .ref h10, .long 0, .int 0, .int 0, .int 0, .int 0, .ref h11, .int 0, .int (-1), .int (-1), .ref h12, .int 0, .int 0, .null, .int 0])), (h1, .inl (g.2 0, 60, .inl (fun _ => 0))), (h2, .inl (g.2 0, 480, .inl (fun _ => 0))), (h3, .inl (g.2 0, 60, .inl (fun _ => 0))), (h4, .inl (g.2 0, 60, .inl (fun _ => 0))), (h5, .inl (g.2 0, 25, .inl (fun _ => 0))), (h6, .inl (g.2 0, 25, .inl (fun _ => 0))), (h7, .inl (g.2 1, 4, .inr (.inl (fun _ => 0)))), (h8, .inl (g.2 1, 4, .inr (.inl (fun _ => 0)))), (h9, .inl (g.2 0, 4, .inl (fun _ => 0))), (h10, .inl (g.2 0, 4, .inl (fun _ => 0))), (h11, .inl (g.2 0, 60, .inl (fun _ => 0))), (h12, .inl (g.2 2, 180, .inl (fun _ => 0))), (h13, .inl (g.2 0, 124, .inl (fun _ => 0)))]) := hW
  refine wPutF (ty := (.array .int)) (world' := ([(h0, .inr (13, [.ref h1, .ref h2, .ref h3, .ref h4, .ref h5, .ref h6, .ref h7, .ref h8, .ref h9, .ref h10, .long 0, .int 0, .int 0, .int 0, .int 0, .ref h11, .int 0, .int (-1), .int (-1), .ref h12, .int 0, .int 0, .ref h13, .int 0])), (h1, .inl (g.2 0, 60, .inl (fun _ => 0))), (h2, .inl (g.2 0, 480, .inl (fun _ => 0))), (h3, .inl (g.2 0, 60, .inl (fun _ => 0))), (h4, .inl (g.2 0, 60, .inl (fun _ => 0))), (h5, .inl (g.2 0, 25, .inl (fun _ => 0))), (h6, .inl (g.2 0, 25, .inl (fun _ => 0))), (h7, .inl (g.2 1, 4, .inr (.inl (fun _ => 0)))), (h8, .inl (g.2 1, 4, .inr (.inl (fun _ => 0)))), (h9, .inl (g.2 0, 4, .inl (fun _ => 0))), (h10, .inl (g.2 0, 4, .inl (fun _ => 0))), (h11, .inl (g.2 0, 60, .inl (fun _ => 0))), (h12, .inl (g.2 2, 180, .inl (fun _ => 0))), (h13, .inl (g.2 0, 124, .inl (fun _ => 0)))])) E hK in_X13_init_X13 tyX13 tyX13_ok nmX13 hW 22 lk_X13_init_55 0 rfl rfl (by decide) rfl rfl hini rfl (by decide +kernel) rfl rfl (Nat.le_of_ble_eq_true rfl) dX13_init_113 rfl (fun H locs hW => ?_)
  refine lv_iconst (v := 0) E.1 E.2.1 dX13_init_116 (by decide) ?_
  refine lv_istore_n (lv' := [(1, .int 0), (0, .ref h0)]) E.1 E.2.1 dX13_init_117 rfl hl (by decide) rfl (fun ls hl => ?_)
  have hW : Wo g A s H locs (w_X13 g h0 h1 h2 h3 h4 h5 h6 h7 h8 h9 h10 h11 h12 h13 (fun _ => 0) (fun _ => 0) (fun _ => 0) (fun _ => 0) (fun _ => 0) (fun _ => 0) (fun _ => 0) (fun _ => 0) (fun _ => 0) (fun _ => 0) 0 0 0 0 0 (fun _ => 0) 0 (-1) (-1) (fun _ => 0) 0 0 (fun _ => 0) 0) := hW
  refine k_X13_init_118 E hK hA ?_ 1000 0 (fun _ => 0) H locs ls h hW (lv_sub hl [1, 0] rfl)
  · intro x_g_141e H locs ls h hW hl
    refine lv_iconst (v := 0) E.1 E.2.1 dX13_init_141 (by decide) ?_
    refine lv_istore_n (lv' := [(1, .int 0), (0, .ref h0)]) E.1 E.2.1 dX13_init_142 rfl hl (by decide) rfl (fun ls hl => ?_)
    refine k_X13_init_143 E hK hA ?_ 1000 0 x_g_141e H locs ls h hW (lv_sub hl [1, 0] rfl)
    · intro x_g_165e H locs ls h hW hl
      refine lv_aload_n E.1 E.2.1 dX13_init_165 rfl (lv_at hl 0 rfl) ?_
      refine wGet (v := .ref h1) E hK in_X13_init_X13 hW 0 lk_X13_init_7 0 rfl rfl (by decide) rfl rfl dX13_init_166 ?_
      refine lv_iconst (v := 2) E.1 E.2.1 dX13_init_169 (by decide) ?_
      refine lv_bipush (v := 20) E.1 E.2.1 dX13_init_170 (by decide) ?_
      refine wIast (world' := (w_X13 g h0 h1 h2 h3 h4 h5 h6 h7 h8 h9 h10 h11 h12 h13 (upd x_g_165e (2 : Int32).toNatClampNeg 20) (fun _ => 0) (fun _ => 0) (fun _ => 0) (fun _ => 0) (fun _ => 0) (fun _ => 0) (fun _ => 0) (fun _ => 0) (fun _ => 0) 0 0 0 0 0 (fun _ => 0) 0 (-1) (-1) (fun _ => 0) 0 0 (fun _ => 0) 0)) E hK hW 1 rfl (by decide) dX13_init_172 rfl (fun H locs hW => ?_)
      obtain rfl := Option.some.inj h
      exact endN (fun k => ([h1, h2, h3, h4, h5, h6, h7, h8, h9, h10, h11, h12, h13] : List Nat).getD k 0) E hW rfl rfl rfl dX13_init_173
theorem c_X13_init (l : Launch) (g : GE) (h0 : Nat) {res : (Nat → Int32) × (Nat → Int32) × (Nat → Int32) × (Nat → Int32) × (Nat → Int32) × (Nat → Int32) × (Nat → Int64) × (Nat → Int64) × (Nat → Int32) × (Nat → Int32) × Int64 × Int32 × Int32 × Int32 × Int32 × (Nat → Int32) × Int32 × Int32 × Int32 × (Nat → Int32) × Int32 × Int32 × (Nat → Int32) × Int32} (hf : f_X13_init = some res) : CN l yX13_init wsX13_init rm_X13_init g [.ref h0] [(h0, .inr (13, [.null, .null, .null, .null, .null, .null, .null, .null, .null, .null, .long 0, .int 0, .int 0, .int 0, .int 0, .null, .int 0, .int 0, .int 0, .null, .int 0, .int 0, .null, .int 0]))] (fun u => w_X13 g h0 (u 0) (u 1) (u 2) (u 3) (u 4) (u 5) (u 6) (u 7) (u 8) (u 9) (u 10) (u 11) (u 12) res.1 res.2.1 res.2.2.1 res.2.2.2.1 res.2.2.2.2.1 res.2.2.2.2.2.1 res.2.2.2.2.2.2.1 res.2.2.2.2.2.2.2.1 res.2.2.2.2.2.2.2.2.1 res.2.2.2.2.2.2.2.2.2.1 res.2.2.2.2.2.2.2.2.2.2.1 res.2.2.2.2.2.2.2.2.2.2.2.1 res.2.2.2.2.2.2.2.2.2.2.2.2.1 res.2.2.2.2.2.2.2.2.2.2.2.2.2.1 res.2.2.2.2.2.2.2.2.2.2.2.2.2.2.1 res.2.2.2.2.2.2.2.2.2.2.2.2.2.2.2.1 res.2.2.2.2.2.2.2.2.2.2.2.2.2.2.2.2.1 res.2.2.2.2.2.2.2.2.2.2.2.2.2.2.2.2.2.1 res.2.2.2.2.2.2.2.2.2.2.2.2.2.2.2.2.2.2.1 res.2.2.2.2.2.2.2.2.2.2.2.2.2.2.2.2.2.2.2.1 res.2.2.2.2.2.2.2.2.2.2.2.2.2.2.2.2.2.2.2.2.1 res.2.2.2.2.2.2.2.2.2.2.2.2.2.2.2.2.2.2.2.2.2.1 res.2.2.2.2.2.2.2.2.2.2.2.2.2.2.2.2.2.2.2.2.2.2.1 res.2.2.2.2.2.2.2.2.2.2.2.2.2.2.2.2.2.2.2.2.2.2.2) 13 1090 :=
  mkN (cc := cX13_init) (maxL := 2) (by decide) rfl rfl (Nat.le_of_ble_eq_true rfl) (fun p e s m args below meth c A H locs ls E hini hK hA hW hl => k_X13_init_0 E hini hK hA hf hW hl)

