/-! PaperStorm$CommandText.<init> -/
abbrev rm_X3_init : Room := { frames := 1, cells := 18, slots := 135, locals := 20 }
theorem in_X3_init_X3 : ∀ w ∈ wsX30, w ∈ wsX3_init := by decide +kernel
theorem lk_X3_init_15 : Cond.fieldLink RX3 15 "PaperStorm$CommandText" "length" "I" ∈ wsX3_init := by decide +kernel
theorem lk_X3_init_19 : Cond.fieldLink RX3 19 "PaperStorm$CommandText" "position" "I" ∈ wsX3_init := by decide +kernel
theorem lk_X3_init_22q : Cond.classLink RX3 22 "PaperStorm$Kind" ∈ wsX3_init := by decide +kernel
theorem lk_X3_init_24 : Cond.fieldLink RX3 24 "PaperStorm$CommandText" "kinds" "[LPaperStorm$Kind;" ∈ wsX3_init := by decide +kernel
theorem lk_X3_init_28m : Cond.classLink RX3 28 "[[I" ∈ wsX3_init := by decide +kernel
theorem lk_X3_init_30 : Cond.fieldLink RX3 30 "PaperStorm$CommandText" "values" "[[I" ∈ wsX3_init := by decide +kernel
theorem lk_X3_init_33 : Cond.fieldLink RX3 33 "PaperStorm$CommandText" "commandCount" "I" ∈ wsX3_init := by decide +kernel
theorem lk_X3_init_36 : Cond.fieldLink RX3 36 "PaperStorm$Kind" "LOOK" "LPaperStorm$Kind;" ∈ wsX3_init := by decide +kernel
theorem lk_X3_init_3a : Cond.methodLink RX3 3 objectInit ∈ wsX3_init := by decide +kernel
theorem lk_X3_init_3b : Cond.instanceMethod objectInit ∈ wsX3_init := by decide +kernel
theorem lk_X3_init_3c : Cond.code objectInit ⟨#[0xb1]⟩ 1 none ∈ wsX3_init := by decide +kernel
theorem lk_X3_init_9 : Cond.fieldLink RX3 9 "PaperStorm$CommandText" "signs" "[C" ∈ wsX3_init := by decide +kernel
theorem lk_X3_init_arr_char : Cond.arrayClass .char ∈ wsX3_init := by decide +kernel
theorem lk_X3_init_arr_int : Cond.arrayClass .int ∈ wsX3_init := by decide +kernel
noncomputable def f_X3_init : Option ((Nat → Int32) × Int32 × Int32 × (Nat → Option Nat) × (Nat → Nat → Int32) × Int32) :=
  some ((fun _ => 0), 0, 0, (va_up (va_up (va_up (va_up (va_up (va_up (va_up (va_up (va_up (va_up (va_up (va_up (va_up (va_up (va_up (fun _ => none) 0 (some 9)) 1 (some 9)) 2 (some 9)) 3 (some 9)) 4 (some 9)) 5 (some 9)) 6 (some 9)) 7 (some 9)) 8 (some 9)) 9 (some 9)) 10 (some 9)) 11 (some 9)) 12 (some 9)) 13 (some 9)) 14 (some 9)), (fun _ _ => 0), 0)
set_option maxHeartbeats 16000000 in
set_option maxRecDepth 100000 in
theorem k_X3_init_0 {p : Program} {l : Launch} {e : Env} {s : State} {m : MethodId} {args : Array Value} {below : List Frame} {meth : Method} {c : Code} {g : GE} {z : ZE} {A : Nat → Prop} {h0 : Nat} {res : (Nat → Int32) × Int32 × Int32 × (Nat → Option Nat) × (Nat → Nat → Int32) × Int32} {H : Heap} {locs : List Loc} {ls : Array Slot} (E : En cX3_init RX3 wsX3_init 2 none p s m args meth c) (hini : meth.name = "<init>") (hK : KK g s) (hz : KS z s) (hC : CS z A s s.heap) (hX : AX s) (hA : ∀ q, s.heap.size ≤ q → A q) (h : f_X3_init = some res) (hW : Wo g A s H locs [(h0, .inr (4, [.null, .int 0, .int 0, .null, .null, .int 0]))]) (hl : lv_has ls 2 [(0, .ref h0)]) : W p l e (headSpec wsX3_init rm_X3_init).room s m args below meth c H locs 0 0 (MQ below (PoN g A (fun u => w_X3 g z h0 (u 0) (u 1) (u 2) (fun k => u (k + 3)) res.1 res.2.1 res.2.2.1 res.2.2.2.1 res.2.2.2.2.1 res.2.2.2.2.2)) args s 18 135 A) (F0 m 0 ls []) := by
  have hts := E.2.2.2.1
  unfold f_X3_init at h
  refine lv_aload_n E.1 E.2.1 dX3_init_0 rfl (lv_at hl 0 rfl) ?_
  refine W.objInit E.1 E.2.1 E.2.2.2.2.1 (hts _ lk_X3_init_3a) (hts _ lk_X3_init_3b) (hts _ lk_X3_init_3c) rfl (by rw [E.2.2.2.2.2.2]; exact hl.1) rfl dX3_init_1 (Nat.le_of_ble_eq_true rfl) (Nat.le_of_ble_eq_true rfl) ?_
  refine W.eq (g2 := F0 m 4 ls []) rfl ?_
  refine lv_aload_n E.1 E.2.1 dX3_init_4 rfl (lv_at hl 0 rfl) ?_
  refine lv_bipush (v := 60) E.1 E.2.1 dX3_init_5 (by decide) ?_
  refine wNewa (atype := .char) (a0 := (60, .inl (fun _ => 0))) (ty := .char) E hK lk_X3_init_arr_char rfl hW hA 2 rfl (fun _ q => by cases q) (arr0I 60 .char rfl) (by decide) (by decide) (Nat.le_of_ble_eq_true rfl) (Nat.le_of_ble_eq_true rfl) (Nat.le_of_ble_eq_true rfl) dX3_init_7 (fun h1 H locs hW => ?_)
  refine W.widen (k := 1) (n := 60) (Nat.le_of_ble_eq_true rfl) (Nat.le_of_ble_eq_true rfl) ?_
  have hW : Wo g A s H locs ([(h0, .inr (4, [.null, .int 0, .int 0, .null, .null, .int 0])), (h1, .inl (g.2 2, 60, .inl (fun _ => 0)))]) := hW
  refine wPutF (ty := (.array .char)) (world' := ([(h0, .inr (4, [.ref h1, .int 0, .int 0, .null, .null, .int 0])), (h1, .inl (g.2 2, 60, .inl (fun _ => 0)))])) E hK in_X3_init_X3 tyX3 tyX3_ok nmX3 hW 0 lk_X3_init_9 0 rfl rfl (by decide) rfl rfl hini rfl (by decide +kernel) rfl rfl (Nat.le_of_ble_eq_true rfl) dX3_init_9 rfl (fun H locs hW => ?_)
  refine lv_aload_n E.1 E.2.1 dX3_init_12 rfl (lv_at hl 0 rfl) ?_
  refine lv_iconst (v := 0) E.1 E.2.1 dX3_init_13 (by decide) ?_
  refine wPut (world' := ([(h0, .inr (4, [.ref h1, .int 0, .int 0, .null, .null, .int 0])), (h1, .inl (g.2 2, 60, .inl (fun _ => 0)))])) E hK in_X3_init_X3 tyX3 tyX3_ok nmX3 hW 1 lk_X3_init_15 0 rfl rfl (by decide) rfl rfl rfl rfl rfl (Nat.le_of_ble_eq_true rfl) dX3_init_14 rfl (fun H locs hW => ?_)
  refine lv_aload_n E.1 E.2.1 dX3_init_17 rfl (lv_at hl 0 rfl) ?_
  refine lv_iconst (v := 0) E.1 E.2.1 dX3_init_18 (by decide) ?_
  refine wPut (world' := ([(h0, .inr (4, [.ref h1, .int 0, .int 0, .null, .null, .int 0])), (h1, .inl (g.2 2, 60, .inl (fun _ => 0)))])) E hK in_X3_init_X3 tyX3 tyX3_ok nmX3 hW 2 lk_X3_init_19 0 rfl rfl (by decide) rfl rfl rfl rfl rfl (Nat.le_of_ble_eq_true rfl) dX3_init_19 rfl (fun H locs hW => ?_)
  refine lv_aload_n E.1 E.2.1 dX3_init_22 rfl (lv_at hl 0 rfl) ?_
  refine lv_bipush (v := 15) E.1 E.2.1 dX3_init_23 (by decide) ?_
  refine wNewq (C := "PaperStorm$Kind") (N' := 15) E hK hX (by simp [aoW]) lk_X3_init_22q hW hA 5 rfl (by decide) (by decide) (Nat.le_of_ble_eq_true rfl) (Nat.le_of_ble_eq_true rfl) (Nat.le_of_ble_eq_true rfl) dX3_init_25 (fun h2 H locs hW => ?_)
  refine W.widen (k := 2) (n := 75) (Nat.le_of_ble_eq_true rfl) (Nat.le_of_ble_eq_true rfl) ?_
  have hW : Wo g A s H locs ([(h0, .inr (4, [.ref h1, .int 0, .int 0, .null, .null, .int 0])), (h1, .inl (g.2 2, 60, .inl (fun _ => 0))), (h2, .inl (g.2 5, 15, .inr (.inr (.inr (.inr (fun i => ((fun _ => none) i).map z.2))))))]) := hW
  refine wPutF (ty := (.array (.object "PaperStorm$Kind"))) (world' := ([(h0, .inr (4, [.ref h1, .int 0, .int 0, .ref h2, .null, .int 0])), (h1, .inl (g.2 2, 60, .inl (fun _ => 0))), (h2, .inl (g.2 5, 15, .inr (.inr (.inr (.inr (fun i => ((fun _ => none) i).map z.2))))))])) E hK in_X3_init_X3 tyX3 tyX3_ok nmX3 hW 3 lk_X3_init_24 0 rfl rfl (by decide) rfl rfl hini rfl (by decide +kernel) rfl rfl (Nat.le_of_ble_eq_true rfl) dX3_init_28 rfl (fun H locs hW => ?_)
  refine lv_aload_n E.1 E.2.1 dX3_init_31 rfl (lv_at hl 0 rfl) ?_
  refine lv_bipush (v := 15) E.1 E.2.1 dX3_init_32 (by decide) ?_
  refine lv_iconst (v := 3) E.1 E.2.1 dX3_init_34 (by decide) ?_
  refine wMna E hK hX lk_X3_init_28m lk_X3_init_arr_int hW hA (Nat.le_of_ble_eq_true rfl) (Nat.le_of_ble_eq_true rfl) dX3_init_35 (fun h3 r35 H locs hW => ?_)
  refine W.widen (k := 18) (n := 135) (Nat.le_of_ble_eq_true rfl) (Nat.le_of_ble_eq_true rfl) ?_
  have hW : Wo g A s H locs ([(h0, .inr (4, [.ref h1, .int 0, .int 0, .ref h2, .null, .int 0])), (h1, .inl (g.2 2, 60, .inl (fun _ => 0))), (h2, .inl (g.2 5, 15, .inr (.inr (.inr (.inr (fun i => ((fun _ => none) i).map z.2)))))), (h3, .inl (g.2 6, 15, .inr (.inr (.inr (.inr (fun i => if i < 15 then some (r35 i) else none))))))] ++ ((List.range 15).map (fun i => (r35 i, .inl (g.2 0, 3, .inl (fun _ => 0)))))) := hW
  refine wPutF (ty := (.array (.array .int))) (world' := ([(h0, .inr (4, [.ref h1, .int 0, .int 0, .ref h2, .ref h3, .int 0])), (h1, .inl (g.2 2, 60, .inl (fun _ => 0))), (h2, .inl (g.2 5, 15, .inr (.inr (.inr (.inr (fun i => ((fun _ => none) i).map z.2)))))), (h3, .inl (g.2 6, 15, .inr (.inr (.inr (.inr (fun i => if i < 15 then some (r35 i) else none))))))] ++ ((List.range 15).map (fun i => (r35 i, .inl (g.2 0, 3, .inl (fun _ => 0))))))) E hK in_X3_init_X3 tyX3 tyX3_ok nmX3 hW 4 lk_X3_init_30 0 rfl rfl (by decide) rfl rfl hini rfl (by decide +kernel) rfl rfl (Nat.le_of_ble_eq_true rfl) dX3_init_39 rfl (fun H locs hW => ?_)
  refine lv_aload_n E.1 E.2.1 dX3_init_42 rfl (lv_at hl 0 rfl) ?_
  refine lv_iconst (v := 0) E.1 E.2.1 dX3_init_43 (by decide) ?_
  refine wPut (world' := ([(h0, .inr (4, [.ref h1, .int 0, .int 0, .ref h2, .ref h3, .int 0])), (h1, .inl (g.2 2, 60, .inl (fun _ => 0))), (h2, .inl (g.2 5, 15, .inr (.inr (.inr (.inr (fun i => ((fun _ => none) i).map z.2)))))), (h3, .inl (g.2 6, 15, .inr (.inr (.inr (.inr (fun i => if i < 15 then some (r35 i) else none))))))] ++ ((List.range 15).map (fun i => (r35 i, .inl (g.2 0, 3, .inl (fun _ => 0))))))) E hK in_X3_init_X3 tyX3 tyX3_ok nmX3 hW 5 lk_X3_init_33 0 rfl rfl (by decide) rfl rfl rfl rfl rfl (Nat.le_of_ble_eq_true rfl) dX3_init_44 rfl (fun H locs hW => ?_)
  refine lv_iconst (v := 0) E.1 E.2.1 dX3_init_47 (by decide) ?_
  refine lv_istore_n (lv' := [(1, .int 0), (0, .ref h0)]) E.1 E.2.1 dX3_init_48 rfl hl (by decide) rfl (fun ls hl => ?_)
  refine lv_iload_n E.1 E.2.1 dX3_init_49 rfl (lv_at hl 0 rfl) ?_
  refine lv_bipush (v := 15) E.1 E.2.1 dX3_init_50 (by decide) ?_
  refine lv_icmp_ge (tgt := 70) E.1 E.2.1 dX3_init_52 (by decide) (fun hc => absurd hc (by decide)) (fun _ => ?_)
  refine lv_aload_n E.1 E.2.1 dX3_init_55 rfl (lv_at hl 1 rfl) ?_
  refine wGet (v := .ref h2) E hK in_X3_init_X3 hW 3 lk_X3_init_24 0 rfl rfl (by decide) rfl rfl dX3_init_56 ?_
  refine lv_iload_n E.1 E.2.1 dX3_init_59 rfl (lv_at hl 0 rfl) ?_
  refine va_gets (v := .ref (z.2 9)) E.1 E.2.1 ((hC.2.2.2.1.1 9 (by decide)).1) hW.2.2 E.2.2.2.2.1 (hts _ lk_X3_init_36) (fun _ h => h) dX3_init_60 ?_
  refine wKast (world' := ([(h0, .inr (4, [.ref h1, .int 0, .int 0, .ref h2, .ref h3, .int 0])), (h1, .inl (g.2 2, 60, .inl (fun _ => 0))), (h2, .inl (g.2 5, 15, .inr (.inr (.inr (.inr (fun i => ((va_up (fun _ => none) 0 (some 9)) i).map z.2)))))), (h3, .inl (g.2 6, 15, .inr (.inr (.inr (.inr (fun i => if i < 15 then some (r35 i) else none))))))] ++ ((List.range 15).map (fun i => (r35 i, .inl (g.2 0, 3, .inl (fun _ => 0))))))) E hK hC (by decide) hW 2 rfl (by decide) dX3_init_63 (by rw [kst_map]; rfl) (fun H locs hW => ?_)
  refine lv_iinc (v := 1) (lv' := [(1, .int 1), (0, .ref h0)]) E.1 E.2.1 dX3_init_64 hl (k := 0) rfl rfl (by decide) rfl (fun ls hl => ?_)
  refine lv_goto (tgt := 49) E.1 E.2.1 dX3_init_67 (by decide) ?_
  refine lv_iload_n E.1 E.2.1 dX3_init_49 rfl (lv_at hl 0 rfl) ?_
  refine lv_bipush (v := 15) E.1 E.2.1 dX3_init_50 (by decide) ?_
  refine lv_icmp_ge (tgt := 70) E.1 E.2.1 dX3_init_52 (by decide) (fun hc => absurd hc (by decide)) (fun _ => ?_)
  refine lv_aload_n E.1 E.2.1 dX3_init_55 rfl (lv_at hl 1 rfl) ?_
  refine wGet (v := .ref h2) E hK in_X3_init_X3 hW 3 lk_X3_init_24 0 rfl rfl (by decide) rfl rfl dX3_init_56 ?_
  refine lv_iload_n E.1 E.2.1 dX3_init_59 rfl (lv_at hl 0 rfl) ?_
  refine va_gets (v := .ref (z.2 9)) E.1 E.2.1 ((hC.2.2.2.1.1 9 (by decide)).1) hW.2.2 E.2.2.2.2.1 (hts _ lk_X3_init_36) (fun _ h => h) dX3_init_60 ?_
  refine wKast (world' := ([(h0, .inr (4, [.ref h1, .int 0, .int 0, .ref h2, .ref h3, .int 0])), (h1, .inl (g.2 2, 60, .inl (fun _ => 0))), (h2, .inl (g.2 5, 15, .inr (.inr (.inr (.inr (fun i => ((va_up (va_up (fun _ => none) 0 (some 9)) 1 (some 9)) i).map z.2)))))), (h3, .inl (g.2 6, 15, .inr (.inr (.inr (.inr (fun i => if i < 15 then some (r35 i) else none))))))] ++ ((List.range 15).map (fun i => (r35 i, .inl (g.2 0, 3, .inl (fun _ => 0))))))) E hK hC (by decide) hW 2 rfl (by decide) dX3_init_63 (by rw [kst_map]; rfl) (fun H locs hW => ?_)
  refine lv_iinc (v := 2) (lv' := [(1, .int 2), (0, .ref h0)]) E.1 E.2.1 dX3_init_64 hl (k := 0) rfl rfl (by decide) rfl (fun ls hl => ?_)
  refine lv_goto (tgt := 49) E.1 E.2.1 dX3_init_67 (by decide) ?_
  refine lv_iload_n E.1 E.2.1 dX3_init_49 rfl (lv_at hl 0 rfl) ?_
  refine lv_bipush (v := 15) E.1 E.2.1 dX3_init_50 (by decide) ?_
  refine lv_icmp_ge (tgt := 70) E.1 E.2.1 dX3_init_52 (by decide) (fun hc => absurd hc (by decide)) (fun _ => ?_)
  refine lv_aload_n E.1 E.2.1 dX3_init_55 rfl (lv_at hl 1 rfl) ?_
  refine wGet (v := .ref h2) E hK in_X3_init_X3 hW 3 lk_X3_init_24 0 rfl rfl (by decide) rfl rfl dX3_init_56 ?_
  refine lv_iload_n E.1 E.2.1 dX3_init_59 rfl (lv_at hl 0 rfl) ?_
  refine va_gets (v := .ref (z.2 9)) E.1 E.2.1 ((hC.2.2.2.1.1 9 (by decide)).1) hW.2.2 E.2.2.2.2.1 (hts _ lk_X3_init_36) (fun _ h => h) dX3_init_60 ?_
  refine wKast (world' := ([(h0, .inr (4, [.ref h1, .int 0, .int 0, .ref h2, .ref h3, .int 0])), (h1, .inl (g.2 2, 60, .inl (fun _ => 0))), (h2, .inl (g.2 5, 15, .inr (.inr (.inr (.inr (fun i => ((va_up (va_up (va_up (fun _ => none) 0 (some 9)) 1 (some 9)) 2 (some 9)) i).map z.2)))))), (h3, .inl (g.2 6, 15, .inr (.inr (.inr (.inr (fun i => if i < 15 then some (r35 i) else none))))))] ++ ((List.range 15).map (fun i => (r35 i, .inl (g.2 0, 3, .inl (fun _ => 0))))))) E hK hC (by decide) hW 2 rfl (by decide) dX3_init_63 (by rw [kst_map]; rfl) (fun H locs hW => ?_)
  refine lv_iinc (v := 3) (lv' := [(1, .int 3), (0, .ref h0)]) E.1 E.2.1 dX3_init_64 hl (k := 0) rfl rfl (by decide) rfl (fun ls hl => ?_)
  refine lv_goto (tgt := 49) E.1 E.2.1 dX3_init_67 (by decide) ?_
  refine lv_iload_n E.1 E.2.1 dX3_init_49 rfl (lv_at hl 0 rfl) ?_
  refine lv_bipush (v := 15) E.1 E.2.1 dX3_init_50 (by decide) ?_
  refine lv_icmp_ge (tgt := 70) E.1 E.2.1 dX3_init_52 (by decide) (fun hc => absurd hc (by decide)) (fun _ => ?_)
  refine lv_aload_n E.1 E.2.1 dX3_init_55 rfl (lv_at hl 1 rfl) ?_
  refine wGet (v := .ref h2) E hK in_X3_init_X3 hW 3 lk_X3_init_24 0 rfl rfl (by decide) rfl rfl dX3_init_56 ?_
  refine lv_iload_n E.1 E.2.1 dX3_init_59 rfl (lv_at hl 0 rfl) ?_
  refine va_gets (v := .ref (z.2 9)) E.1 E.2.1 ((hC.2.2.2.1.1 9 (by decide)).1) hW.2.2 E.2.2.2.2.1 (hts _ lk_X3_init_36) (fun _ h => h) dX3_init_60 ?_
  refine wKast (world' := ([(h0, .inr (4, [.ref h1, .int 0, .int 0, .ref h2, .ref h3, .int 0])), (h1, .inl (g.2 2, 60, .inl (fun _ => 0))), (h2, .inl (g.2 5, 15, .inr (.inr (.inr (.inr (fun i => ((va_up (va_up (va_up (va_up (fun _ => none) 0 (some 9)) 1 (some 9)) 2 (some 9)) 3 (some 9)) i).map z.2)))))), (h3, .inl (g.2 6, 15, .inr (.inr (.inr (.inr (fun i => if i < 15 then some (r35 i) else none))))))] ++ ((List.range 15).map (fun i => (r35 i, .inl (g.2 0, 3, .inl (fun _ => 0))))))) E hK hC (by decide) hW 2 rfl (by decide) dX3_init_63 (by rw [kst_map]; rfl) (fun H locs hW => ?_)
  refine lv_iinc (v := 4) (lv' := [(1, .int 4), (0, .ref h0)]) E.1 E.2.1 dX3_init_64 hl (k := 0) rfl rfl (by decide) rfl (fun ls hl => ?_)
  refine lv_goto (tgt := 49) E.1 E.2.1 dX3_init_67 (by decide) ?_
  refine lv_iload_n E.1 E.2.1 dX3_init_49 rfl (lv_at hl 0 rfl) ?_
  refine lv_bipush (v := 15) E.1 E.2.1 dX3_init_50 (by decide) ?_
  refine lv_icmp_ge (tgt := 70) E.1 E.2.1 dX3_init_52 (by decide) (fun hc => absurd hc (by decide)) (fun _ => ?_)
  refine lv_aload_n E.1 E.2.1 dX3_init_55 rfl (lv_at hl 1 rfl) ?_
  refine wGet (v := .ref h2) E hK in_X3_init_X3 hW 3 lk_X3_init_24 0 rfl rfl (by decide) rfl rfl dX3_init_56 ?_
  refine lv_iload_n E.1 E.2.1 dX3_init_59 rfl (lv_at hl 0 rfl) ?_
  refine va_gets (v := .ref (z.2 9)) E.1 E.2.1 ((hC.2.2.2.1.1 9 (by decide)).1) hW.2.2 E.2.2.2.2.1 (hts _ lk_X3_init_36) (fun _ h => h) dX3_init_60 ?_
  refine wKast (world' := ([(h0, .inr (4, [.ref h1, .int 0, .int 0, .ref h2, .ref h3, .int 0])), (h1, .inl (g.2 2, 60, .inl (fun _ => 0))), (h2, .inl (g.2 5, 15, .inr (.inr (.inr (.inr (fun i => ((va_up (va_up (va_up (va_up (va_up (fun _ => none) 0 (some 9)) 1 (some 9)) 2 (some 9)) 3 (some 9)) 4 (some 9)) i).map z.2)))))), (h3, .inl (g.2 6, 15, .inr (.inr (.inr (.inr (fun i => if i < 15 then some (r35 i) else none))))))] ++ ((List.range 15).map (fun i => (r35 i, .inl (g.2 0, 3, .inl (fun _ => 0))))))) E hK hC (by decide) hW 2 rfl (by decide) dX3_init_63 (by rw [kst_map]; rfl) (fun H locs hW => ?_)
  refine lv_iinc (v := 5) (lv' := [(1, .int 5), (0, .ref h0)]) E.1 E.2.1 dX3_init_64 hl (k := 0) rfl rfl (by decide) rfl (fun ls hl => ?_)
  refine lv_goto (tgt := 49) E.1 E.2.1 dX3_init_67 (by decide) ?_
  refine lv_iload_n E.1 E.2.1 dX3_init_49 rfl (lv_at hl 0 rfl) ?_
  refine lv_bipush (v := 15) E.1 E.2.1 dX3_init_50 (by decide) ?_
  refine lv_icmp_ge (tgt := 70) E.1 E.2.1 dX3_init_52 (by decide) (fun hc => absurd hc (by decide)) (fun _ => ?_)
  refine lv_aload_n E.1 E.2.1 dX3_init_55 rfl (lv_at hl 1 rfl) ?_
  refine wGet (v := .ref h2) E hK in_X3_init_X3 hW 3 lk_X3_init_24 0 rfl rfl (by decide) rfl rfl dX3_init_56 ?_
  refine lv_iload_n E.1 E.2.1 dX3_init_59 rfl (lv_at hl 0 rfl) ?_
  refine va_gets (v := .ref (z.2 9)) E.1 E.2.1 ((hC.2.2.2.1.1 9 (by decide)).1) hW.2.2 E.2.2.2.2.1 (hts _ lk_X3_init_36) (fun _ h => h) dX3_init_60 ?_
  refine wKast (world' := ([(h0, .inr (4, [.ref h1, .int 0, .int 0, .ref h2, .ref h3, .int 0])), (h1, .inl (g.2 2, 60, .inl (fun _ => 0))), (h2, .inl (g.2 5, 15, .inr (.inr (.inr (.inr (fun i => ((va_up (va_up (va_up (va_up (va_up (va_up (fun _ => none) 0 (some 9)) 1 (some 9)) 2 (some 9)) 3 (some 9)) 4 (some 9)) 5 (some 9)) i).map z.2)))))), (h3, .inl (g.2 6, 15, .inr (.inr (.inr (.inr (fun i => if i < 15 then some (r35 i) else none))))))] ++ ((List.range 15).map (fun i => (r35 i, .inl (g.2 0, 3, .inl (fun _ => 0))))))) E hK hC (by decide) hW 2 rfl (by decide) dX3_init_63 (by rw [kst_map]; rfl) (fun H locs hW => ?_)
  refine lv_iinc (v := 6) (lv' := [(1, .int 6), (0, .ref h0)]) E.1 E.2.1 dX3_init_64 hl (k := 0) rfl rfl (by decide) rfl (fun ls hl => ?_)
  refine lv_goto (tgt := 49) E.1 E.2.1 dX3_init_67 (by decide) ?_
  refine lv_iload_n E.1 E.2.1 dX3_init_49 rfl (lv_at hl 0 rfl) ?_
  refine lv_bipush (v := 15) E.1 E.2.1 dX3_init_50 (by decide) ?_
  refine lv_icmp_ge (tgt := 70) E.1 E.2.1 dX3_init_52 (by decide) (fun hc => absurd hc (by decide)) (fun _ => ?_)
  refine lv_aload_n E.1 E.2.1 dX3_init_55 rfl (lv_at hl 1 rfl) ?_
  refine wGet (v := .ref h2) E hK in_X3_init_X3 hW 3 lk_X3_init_24 0 rfl rfl (by decide) rfl rfl dX3_init_56 ?_
  refine lv_iload_n E.1 E.2.1 dX3_init_59 rfl (lv_at hl 0 rfl) ?_
  refine va_gets (v := .ref (z.2 9)) E.1 E.2.1 ((hC.2.2.2.1.1 9 (by decide)).1) hW.2.2 E.2.2.2.2.1 (hts _ lk_X3_init_36) (fun _ h => h) dX3_init_60 ?_
  refine wKast (world' := ([(h0, .inr (4, [.ref h1, .int 0, .int 0, .ref h2, .ref h3, .int 0])), (h1, .inl (g.2 2, 60, .inl (fun _ => 0))), (h2, .inl (g.2 5, 15, .inr (.inr (.inr (.inr (fun i => ((va_up (va_up (va_up (va_up (va_up (va_up (va_up (fun _ => none) 0 (some 9)) 1 (some 9)) 2 (some 9)) 3 (some 9)) 4 (some 9)) 5 (some 9)) 6 (some 9)) i).map z.2)))))), (h3, .inl (g.2 6, 15, .inr (.inr (.inr (.inr (fun i => if i < 15 then some (r35 i) else none))))))] ++ ((List.range 15).map (fun i => (r35 i, .inl (g.2 0, 3, .inl (fun _ => 0))))))) E hK hC (by decide) hW 2 rfl (by decide) dX3_init_63 (by rw [kst_map]; rfl) (fun H locs hW => ?_)
  refine lv_iinc (v := 7) (lv' := [(1, .int 7), (0, .ref h0)]) E.1 E.2.1 dX3_init_64 hl (k := 0) rfl rfl (by decide) rfl (fun ls hl => ?_)
  refine lv_goto (tgt := 49) E.1 E.2.1 dX3_init_67 (by decide) ?_
  refine lv_iload_n E.1 E.2.1 dX3_init_49 rfl (lv_at hl 0 rfl) ?_
  refine lv_bipush (v := 15) E.1 E.2.1 dX3_init_50 (by decide) ?_
  refine lv_icmp_ge (tgt := 70) E.1 E.2.1 dX3_init_52 (by decide) (fun hc => absurd hc (by decide)) (fun _ => ?_)
  refine lv_aload_n E.1 E.2.1 dX3_init_55 rfl (lv_at hl 1 rfl) ?_
  refine wGet (v := .ref h2) E hK in_X3_init_X3 hW 3 lk_X3_init_24 0 rfl rfl (by decide) rfl rfl dX3_init_56 ?_
  refine lv_iload_n E.1 E.2.1 dX3_init_59 rfl (lv_at hl 0 rfl) ?_
  refine va_gets (v := .ref (z.2 9)) E.1 E.2.1 ((hC.2.2.2.1.1 9 (by decide)).1) hW.2.2 E.2.2.2.2.1 (hts _ lk_X3_init_36) (fun _ h => h) dX3_init_60 ?_
  refine wKast (world' := ([(h0, .inr (4, [.ref h1, .int 0, .int 0, .ref h2, .ref h3, .int 0])), (h1, .inl (g.2 2, 60, .inl (fun _ => 0))), (h2, .inl (g.2 5, 15, .inr (.inr (.inr (.inr (fun i => ((va_up (va_up (va_up (va_up (va_up (va_up (va_up (va_up (fun _ => none) 0 (some 9)) 1 (some 9)) 2 (some 9)) 3 (some 9)) 4 (some 9)) 5 (some 9)) 6 (some 9)) 7 (some 9)) i).map z.2)))))), (h3, .inl (g.2 6, 15, .inr (.inr (.inr (.inr (fun i => if i < 15 then some (r35 i) else none))))))] ++ ((List.range 15).map (fun i => (r35 i, .inl (g.2 0, 3, .inl (fun _ => 0))))))) E hK hC (by decide) hW 2 rfl (by decide) dX3_init_63 (by rw [kst_map]; rfl) (fun H locs hW => ?_)
  refine lv_iinc (v := 8) (lv' := [(1, .int 8), (0, .ref h0)]) E.1 E.2.1 dX3_init_64 hl (k := 0) rfl rfl (by decide) rfl (fun ls hl => ?_)
  refine lv_goto (tgt := 49) E.1 E.2.1 dX3_init_67 (by decide) ?_
  refine lv_iload_n E.1 E.2.1 dX3_init_49 rfl (lv_at hl 0 rfl) ?_
  refine lv_bipush (v := 15) E.1 E.2.1 dX3_init_50 (by decide) ?_
  refine lv_icmp_ge (tgt := 70) E.1 E.2.1 dX3_init_52 (by decide) (fun hc => absurd hc (by decide)) (fun _ => ?_)
  refine lv_aload_n E.1 E.2.1 dX3_init_55 rfl (lv_at hl 1 rfl) ?_
  refine wGet (v := .ref h2) E hK in_X3_init_X3 hW 3 lk_X3_init_24 0 rfl rfl (by decide) rfl rfl dX3_init_56 ?_
  refine lv_iload_n E.1 E.2.1 dX3_init_59 rfl (lv_at hl 0 rfl) ?_
  refine va_gets (v := .ref (z.2 9)) E.1 E.2.1 ((hC.2.2.2.1.1 9 (by decide)).1) hW.2.2 E.2.2.2.2.1 (hts _ lk_X3_init_36) (fun _ h => h) dX3_init_60 ?_
  refine wKast (world' := ([(h0, .inr (4, [.ref h1, .int 0, .int 0, .ref h2, .ref h3, .int 0])), (h1, .inl (g.2 2, 60, .inl (fun _ => 0))), (h2, .inl (g.2 5, 15, .inr (.inr (.inr (.inr (fun i => ((va_up (va_up (va_up (va_up (va_up (va_up (va_up (va_up (va_up (fun _ => none) 0 (some 9)) 1 (some 9)) 2 (some 9)) 3 (some 9)) 4 (some 9)) 5 (some 9)) 6 (some 9)) 7 (some 9)) 8 (some 9)) i).map z.2)))))), (h3, .inl (g.2 6, 15, .inr (.inr (.inr (.inr (fun i => if i < 15 then some (r35 i) else none))))))] ++ ((List.range 15).map (fun i => (r35 i, .inl (g.2 0, 3, .inl (fun _ => 0))))))) E hK hC (by decide) hW 2 rfl (by decide) dX3_init_63 (by rw [kst_map]; rfl) (fun H locs hW => ?_)
  refine lv_iinc (v := 9) (lv' := [(1, .int 9), (0, .ref h0)]) E.1 E.2.1 dX3_init_64 hl (k := 0) rfl rfl (by decide) rfl (fun ls hl => ?_)
  refine lv_goto (tgt := 49) E.1 E.2.1 dX3_init_67 (by decide) ?_
  refine lv_iload_n E.1 E.2.1 dX3_init_49 rfl (lv_at hl 0 rfl) ?_
  refine lv_bipush (v := 15) E.1 E.2.1 dX3_init_50 (by decide) ?_
  refine lv_icmp_ge (tgt := 70) E.1 E.2.1 dX3_init_52 (by decide) (fun hc => absurd hc (by decide)) (fun _ => ?_)
  refine lv_aload_n E.1 E.2.1 dX3_init_55 rfl (lv_at hl 1 rfl) ?_
  refine wGet (v := .ref h2) E hK in_X3_init_X3 hW 3 lk_X3_init_24 0 rfl rfl (by decide) rfl rfl dX3_init_56 ?_
  refine lv_iload_n E.1 E.2.1 dX3_init_59 rfl (lv_at hl 0 rfl) ?_
  refine va_gets (v := .ref (z.2 9)) E.1 E.2.1 ((hC.2.2.2.1.1 9 (by decide)).1) hW.2.2 E.2.2.2.2.1 (hts _ lk_X3_init_36) (fun _ h => h) dX3_init_60 ?_
  refine wKast (world' := ([(h0, .inr (4, [.ref h1, .int 0, .int 0, .ref h2, .ref h3, .int 0])), (h1, .inl (g.2 2, 60, .inl (fun _ => 0))), (h2, .inl (g.2 5, 15, .inr (.inr (.inr (.inr (fun i => ((va_up (va_up (va_up (va_up (va_up (va_up (va_up (va_up (va_up (va_up (fun _ => none) 0 (some 9)) 1 (some 9)) 2 (some 9)) 3 (some 9)) 4 (some 9)) 5 (some 9)) 6 (some 9)) 7 (some 9)) 8 (some 9)) 9 (some 9)) i).map z.2)))))), (h3, .inl (g.2 6, 15, .inr (.inr (.inr (.inr (fun i => if i < 15 then some (r35 i) else none))))))] ++ ((List.range 15).map (fun i => (r35 i, .inl (g.2 0, 3, .inl (fun _ => 0))))))) E hK hC (by decide) hW 2 rfl (by decide) dX3_init_63 (by rw [kst_map]; rfl) (fun H locs hW => ?_)
  refine lv_iinc (v := 10) (lv' := [(1, .int 10), (0, .ref h0)]) E.1 E.2.1 dX3_init_64 hl (k := 0) rfl rfl (by decide) rfl (fun ls hl => ?_)
  refine lv_goto (tgt := 49) E.1 E.2.1 dX3_init_67 (by decide) ?_
  refine lv_iload_n E.1 E.2.1 dX3_init_49 rfl (lv_at hl 0 rfl) ?_
  refine lv_bipush (v := 15) E.1 E.2.1 dX3_init_50 (by decide) ?_
  refine lv_icmp_ge (tgt := 70) E.1 E.2.1 dX3_init_52 (by decide) (fun hc => absurd hc (by decide)) (fun _ => ?_)
  refine lv_aload_n E.1 E.2.1 dX3_init_55 rfl (lv_at hl 1 rfl) ?_
  refine wGet (v := .ref h2) E hK in_X3_init_X3 hW 3 lk_X3_init_24 0 rfl rfl (by decide) rfl rfl dX3_init_56 ?_
  refine lv_iload_n E.1 E.2.1 dX3_init_59 rfl (lv_at hl 0 rfl) ?_
  refine va_gets (v := .ref (z.2 9)) E.1 E.2.1 ((hC.2.2.2.1.1 9 (by decide)).1) hW.2.2 E.2.2.2.2.1 (hts _ lk_X3_init_36) (fun _ h => h) dX3_init_60 ?_
  refine wKast (world' := ([(h0, .inr (4, [.ref h1, .int 0, .int 0, .ref h2, .ref h3, .int 0])), (h1, .inl (g.2 2, 60, .inl (fun _ => 0))), (h2, .inl (g.2 5, 15, .inr (.inr (.inr (.inr (fun i => ((va_up (va_up (va_up (va_up (va_up (va_up (va_up (va_up (va_up (va_up (va_up (fun _ => none) 0 (some 9)) 1 (some 9)) 2 (some 9)) 3 (some 9)) 4 (some 9)) 5 (some 9)) 6 (some 9)) 7 (some 9)) 8 (some 9)) 9 (some 9)) 10 (some 9)) i).map z.2)))))), (h3, .inl (g.2 6, 15, .inr (.inr (.inr (.inr (fun i => if i < 15 then some (r35 i) else none))))))] ++ ((List.range 15).map (fun i => (r35 i, .inl (g.2 0, 3, .inl (fun _ => 0))))))) E hK hC (by decide) hW 2 rfl (by decide) dX3_init_63 (by rw [kst_map]; rfl) (fun H locs hW => ?_)
  refine lv_iinc (v := 11) (lv' := [(1, .int 11), (0, .ref h0)]) E.1 E.2.1 dX3_init_64 hl (k := 0) rfl rfl (by decide) rfl (fun ls hl => ?_)
  refine lv_goto (tgt := 49) E.1 E.2.1 dX3_init_67 (by decide) ?_
  refine lv_iload_n E.1 E.2.1 dX3_init_49 rfl (lv_at hl 0 rfl) ?_
  refine lv_bipush (v := 15) E.1 E.2.1 dX3_init_50 (by decide) ?_
  refine lv_icmp_ge (tgt := 70) E.1 E.2.1 dX3_init_52 (by decide) (fun hc => absurd hc (by decide)) (fun _ => ?_)
  refine lv_aload_n E.1 E.2.1 dX3_init_55 rfl (lv_at hl 1 rfl) ?_
  refine wGet (v := .ref h2) E hK in_X3_init_X3 hW 3 lk_X3_init_24 0 rfl rfl (by decide) rfl rfl dX3_init_56 ?_
  refine lv_iload_n E.1 E.2.1 dX3_init_59 rfl (lv_at hl 0 rfl) ?_
  refine va_gets (v := .ref (z.2 9)) E.1 E.2.1 ((hC.2.2.2.1.1 9 (by decide)).1) hW.2.2 E.2.2.2.2.1 (hts _ lk_X3_init_36) (fun _ h => h) dX3_init_60 ?_
  refine wKast (world' := ([(h0, .inr (4, [.ref h1, .int 0, .int 0, .ref h2, .ref h3, .int 0])), (h1, .inl (g.2 2, 60, .inl (fun _ => 0))), (h2, .inl (g.2 5, 15, .inr (.inr (.inr (.inr (fun i => ((va_up (va_up (va_up (va_up (va_up (va_up (va_up (va_up (va_up (va_up (va_up (va_up (fun _ => none) 0 (some 9)) 1 (some 9)) 2 (some 9)) 3 (some 9)) 4 (some 9)) 5 (some 9)) 6 (some 9)) 7 (some 9)) 8 (some 9)) 9 (some 9)) 10 (some 9)) 11 (some 9)) i).map z.2)))))), (h3, .inl (g.2 6, 15, .inr (.inr (.inr (.inr (fun i => if i < 15 then some (r35 i) else none))))))] ++ ((List.range 15).map (fun i => (r35 i, .inl (g.2 0, 3, .inl (fun _ => 0))))))) E hK hC (by decide) hW 2 rfl (by decide) dX3_init_63 (by rw [kst_map]; rfl) (fun H locs hW => ?_)
  refine lv_iinc (v := 12) (lv' := [(1, .int 12), (0, .ref h0)]) E.1 E.2.1 dX3_init_64 hl (k := 0) rfl rfl (by decide) rfl (fun ls hl => ?_)
  refine lv_goto (tgt := 49) E.1 E.2.1 dX3_init_67 (by decide) ?_
  refine lv_iload_n E.1 E.2.1 dX3_init_49 rfl (lv_at hl 0 rfl) ?_
  refine lv_bipush (v := 15) E.1 E.2.1 dX3_init_50 (by decide) ?_
  refine lv_icmp_ge (tgt := 70) E.1 E.2.1 dX3_init_52 (by decide) (fun hc => absurd hc (by decide)) (fun _ => ?_)
  refine lv_aload_n E.1 E.2.1 dX3_init_55 rfl (lv_at hl 1 rfl) ?_
  refine wGet (v := .ref h2) E hK in_X3_init_X3 hW 3 lk_X3_init_24 0 rfl rfl (by decide) rfl rfl dX3_init_56 ?_
  refine lv_iload_n E.1 E.2.1 dX3_init_59 rfl (lv_at hl 0 rfl) ?_
  refine va_gets (v := .ref (z.2 9)) E.1 E.2.1 ((hC.2.2.2.1.1 9 (by decide)).1) hW.2.2 E.2.2.2.2.1 (hts _ lk_X3_init_36) (fun _ h => h) dX3_init_60 ?_
  refine wKast (world' := ([(h0, .inr (4, [.ref h1, .int 0, .int 0, .ref h2, .ref h3, .int 0])), (h1, .inl (g.2 2, 60, .inl (fun _ => 0))), (h2, .inl (g.2 5, 15, .inr (.inr (.inr (.inr (fun i => ((va_up (va_up (va_up (va_up (va_up (va_up (va_up (va_up (va_up (va_up (va_up (va_up (va_up (fun _ => none) 0 (some 9)) 1 (some 9)) 2 (some 9)) 3 (some 9)) 4 (some 9)) 5 (some 9)) 6 (some 9)) 7 (some 9)) 8 (some 9)) 9 (some 9)) 10 (some 9)) 11 (some 9)) 12 (some 9)) i).map z.2)))))), (h3, .inl (g.2 6, 15, .inr (.inr (.inr (.inr (fun i => if i < 15 then some (r35 i) else none))))))] ++ ((List.range 15).map (fun i => (r35 i, .inl (g.2 0, 3, .inl (fun _ => 0))))))) E hK hC (by decide) hW 2 rfl (by decide) dX3_init_63 (by rw [kst_map]; rfl) (fun H locs hW => ?_)
  refine lv_iinc (v := 13) (lv' := [(1, .int 13), (0, .ref h0)]) E.1 E.2.1 dX3_init_64 hl (k := 0) rfl rfl (by decide) rfl (fun ls hl => ?_)
  refine lv_goto (tgt := 49) E.1 E.2.1 dX3_init_67 (by decide) ?_
  refine lv_iload_n E.1 E.2.1 dX3_init_49 rfl (lv_at hl 0 rfl) ?_
  refine lv_bipush (v := 15) E.1 E.2.1 dX3_init_50 (by decide) ?_
  refine lv_icmp_ge (tgt := 70) E.1 E.2.1 dX3_init_52 (by decide) (fun hc => absurd hc (by decide)) (fun _ => ?_)
  refine lv_aload_n E.1 E.2.1 dX3_init_55 rfl (lv_at hl 1 rfl) ?_
  refine wGet (v := .ref h2) E hK in_X3_init_X3 hW 3 lk_X3_init_24 0 rfl rfl (by decide) rfl rfl dX3_init_56 ?_
  refine lv_iload_n E.1 E.2.1 dX3_init_59 rfl (lv_at hl 0 rfl) ?_
  refine va_gets (v := .ref (z.2 9)) E.1 E.2.1 ((hC.2.2.2.1.1 9 (by decide)).1) hW.2.2 E.2.2.2.2.1 (hts _ lk_X3_init_36) (fun _ h => h) dX3_init_60 ?_
  refine wKast (world' := ([(h0, .inr (4, [.ref h1, .int 0, .int 0, .ref h2, .ref h3, .int 0])), (h1, .inl (g.2 2, 60, .inl (fun _ => 0))), (h2, .inl (g.2 5, 15, .inr (.inr (.inr (.inr (fun i => ((va_up (va_up (va_up (va_up (va_up (va_up (va_up (va_up (va_up (va_up (va_up (va_up (va_up (va_up (fun _ => none) 0 (some 9)) 1 (some 9)) 2 (some 9)) 3 (some 9)) 4 (some 9)) 5 (some 9)) 6 (some 9)) 7 (some 9)) 8 (some 9)) 9 (some 9)) 10 (some 9)) 11 (some 9)) 12 (some 9)) 13 (some 9)) i).map z.2)))))), (h3, .inl (g.2 6, 15, .inr (.inr (.inr (.inr (fun i => if i < 15 then some (r35 i) else none))))))] ++ ((List.range 15).map (fun i => (r35 i, .inl (g.2 0, 3, .inl (fun _ => 0))))))) E hK hC (by decide) hW 2 rfl (by decide) dX3_init_63 (by rw [kst_map]; rfl) (fun H locs hW => ?_)
  refine lv_iinc (v := 14) (lv' := [(1, .int 14), (0, .ref h0)]) E.1 E.2.1 dX3_init_64 hl (k := 0) rfl rfl (by decide) rfl (fun ls hl => ?_)
  refine lv_goto (tgt := 49) E.1 E.2.1 dX3_init_67 (by decide) ?_
  refine lv_iload_n E.1 E.2.1 dX3_init_49 rfl (lv_at hl 0 rfl) ?_
  refine lv_bipush (v := 15) E.1 E.2.1 dX3_init_50 (by decide) ?_
  refine lv_icmp_ge (tgt := 70) E.1 E.2.1 dX3_init_52 (by decide) (fun hc => absurd hc (by decide)) (fun _ => ?_)
  refine lv_aload_n E.1 E.2.1 dX3_init_55 rfl (lv_at hl 1 rfl) ?_
  refine wGet (v := .ref h2) E hK in_X3_init_X3 hW 3 lk_X3_init_24 0 rfl rfl (by decide) rfl rfl dX3_init_56 ?_
  refine lv_iload_n E.1 E.2.1 dX3_init_59 rfl (lv_at hl 0 rfl) ?_
  refine va_gets (v := .ref (z.2 9)) E.1 E.2.1 ((hC.2.2.2.1.1 9 (by decide)).1) hW.2.2 E.2.2.2.2.1 (hts _ lk_X3_init_36) (fun _ h => h) dX3_init_60 ?_
  refine wKast (world' := ([(h0, .inr (4, [.ref h1, .int 0, .int 0, .ref h2, .ref h3, .int 0])), (h1, .inl (g.2 2, 60, .inl (fun _ => 0))), (h2, .inl (g.2 5, 15, .inr (.inr (.inr (.inr (fun i => ((va_up (va_up (va_up (va_up (va_up (va_up (va_up (va_up (va_up (va_up (va_up (va_up (va_up (va_up (va_up (fun _ => none) 0 (some 9)) 1 (some 9)) 2 (some 9)) 3 (some 9)) 4 (some 9)) 5 (some 9)) 6 (some 9)) 7 (some 9)) 8 (some 9)) 9 (some 9)) 10 (some 9)) 11 (some 9)) 12 (some 9)) 13 (some 9)) 14 (some 9)) i).map z.2)))))), (h3, .inl (g.2 6, 15, .inr (.inr (.inr (.inr (fun i => if i < 15 then some (r35 i) else none))))))] ++ ((List.range 15).map (fun i => (r35 i, .inl (g.2 0, 3, .inl (fun _ => 0))))))) E hK hC (by decide) hW 2 rfl (by decide) dX3_init_63 (by rw [kst_map]; rfl) (fun H locs hW => ?_)
  refine lv_iinc (v := 15) (lv' := [(1, .int 15), (0, .ref h0)]) E.1 E.2.1 dX3_init_64 hl (k := 0) rfl rfl (by decide) rfl (fun ls hl => ?_)
  refine lv_goto (tgt := 49) E.1 E.2.1 dX3_init_67 (by decide) ?_
  refine lv_iload_n E.1 E.2.1 dX3_init_49 rfl (lv_at hl 0 rfl) ?_
  refine lv_bipush (v := 15) E.1 E.2.1 dX3_init_50 (by decide) ?_
  refine lv_icmp_ge (tgt := 70) E.1 E.2.1 dX3_init_52 (by decide) (fun _ => ?_) (fun hc => absurd (by decide) hc)
  obtain rfl := Option.some.inj h
  have hW : Wo g A s H locs (w_X3 g z h0 h1 h2 h3 r35 (fun _ => 0) 0 0 (va_up (va_up (va_up (va_up (va_up (va_up (va_up (va_up (va_up (va_up (va_up (va_up (va_up (va_up (va_up (fun _ => none) 0 (some 9)) 1 (some 9)) 2 (some 9)) 3 (some 9)) 4 (some 9)) 5 (some 9)) 6 (some 9)) 7 (some 9)) 8 (some 9)) 9 (some 9)) 10 (some 9)) 11 (some 9)) 12 (some 9)) 13 (some 9)) 14 (some 9)) (fun _ _ => 0) 0) := hW
  rw [show w_X3 g z h0 h1 h2 h3 r35 (fun _ => 0) 0 0 (va_up (va_up (va_up (va_up (va_up (va_up (va_up (va_up (va_up (va_up (va_up (va_up (va_up (va_up (va_up (fun _ => none) 0 (some 9)) 1 (some 9)) 2 (some 9)) 3 (some 9)) 4 (some 9)) 5 (some 9)) 6 (some 9)) 7 (some 9)) 8 (some 9)) 9 (some 9)) 10 (some 9)) 11 (some 9)) 12 (some 9)) 13 (some 9)) 14 (some 9)) (fun _ _ => 0) 0 = w_X3 g z h0 h1 h2 h3 (fun k => ([h1, h2, h3, (r35 0), (r35 1), (r35 2), (r35 3), (r35 4), (r35 5), (r35 6), (r35 7), (r35 8), (r35 9), (r35 10), (r35 11), (r35 12), (r35 13), (r35 14)] : List Nat).getD (k + 3) 0) (fun _ => 0) 0 0 (va_up (va_up (va_up (va_up (va_up (va_up (va_up (va_up (va_up (va_up (va_up (va_up (va_up (va_up (va_up (fun _ => none) 0 (some 9)) 1 (some 9)) 2 (some 9)) 3 (some 9)) 4 (some 9)) 5 (some 9)) 6 (some 9)) 7 (some 9)) 8 (some 9)) 9 (some 9)) 10 (some 9)) 11 (some 9)) 12 (some 9)) 13 (some 9)) 14 (some 9)) (fun _ _ => 0) 0 from w_X3_congr (fun i hi => by rcases lt15 hi with rfl | rfl | rfl | rfl | rfl | rfl | rfl | rfl | rfl | rfl | rfl | rfl | rfl | rfl | rfl <;> rfl)] at hW
  exact endN (fun k => ([h1, h2, h3, (r35 0), (r35 1), (r35 2), (r35 3), (r35 4), (r35 5), (r35 6), (r35 7), (r35 8), (r35 9), (r35 10), (r35 11), (r35 12), (r35 13), (r35 14)] : List Nat).getD k 0) E hW rfl rfl rfl dX3_init_70
theorem c_X3_init (l : Launch) (g : GE) (z : ZE) (h0 : Nat) {res : (Nat → Int32) × Int32 × Int32 × (Nat → Option Nat) × (Nat → Nat → Int32) × Int32} (hf : f_X3_init = some res) : YN l yX3_init wsX3_init rm_X3_init g z [.ref h0] [(h0, .inr (4, [.null, .int 0, .int 0, .null, .null, .int 0]))] (fun u => w_X3 g z h0 (u 0) (u 1) (u 2) (fun k => u (k + 3)) res.1 res.2.1 res.2.2.1 res.2.2.2.1 res.2.2.2.2.1 res.2.2.2.2.2) 18 135 :=
  mkYN (cc := cX3_init) (maxL := 2) (by decide) rfl rfl (Nat.le_of_ble_eq_true rfl) (fun p e s m args below meth c A H locs ls E hini hK hz hC hX hA hW hl => k_X3_init_0 E hini hK hz hC hX hA hf hW hl)

