/-! PaperStorm$CommandText.readWord()LPaperStorm$Kind; X3_readWord -/
abbrev rm_X3_readWord : Room := { frames := 5, cells := 0, slots := 0, locals := 108 }
theorem in_X3_readWord_X3 : ∀ w ∈ wsX30, w ∈ wsX3_readWord := by decide +kernel
theorem lk_X3_readWord_19 : Cond.fieldLink RX3 19 "PaperStorm$CommandText" "position" "I" ∈ wsX3_readWord := by decide +kernel
theorem lk_X3_readWord_76 : Cond.fieldLinkNest "PaperStorm$CommandText" 76 "PaperStorm" "KINDS" "[LPaperStorm$Kind;" "PaperStorm" ∈ nestW := by decide +kernel
theorem lk_X3_readWord_79 : Cond.fieldLinkNest "PaperStorm$CommandText" 79 "PaperStorm$Kind" "word" "Ljava/lang/String;" "PaperStorm" ∈ nestW := by decide +kernel
theorem lk_X3_readWord_86a : Cond.methodLink RX3 86 Lib.Math.max.name ∈ wsX3_readWord := by decide +kernel
theorem lk_X3_readWord_86b : Cond.static Lib.Math.max.name ∈ wsX3_readWord := by decide +kernel
theorem lk_X3_readWord_86c : Cond.initialized "java/lang/Math" ∈ wsX3_readWord := by decide +kernel
theorem lk_X3_readWord_86d : Cond.code Lib.Math.max.name Lib.Math.max.code 2 (some .int) ∈ wsX3_readWord := by decide +kernel
noncomputable def f_X3_readWord_6 (x_signs : Nat → Int32) (x_length : Int32) (x_position : Int32) (z61 : Option Nat → Int32 → Option (Option Nat × Int32)) : Nat → Option Nat → Int32 → Int32 → Option (Option Nat × Int32)
  | 0, _, _, _ => none
  | n + 1, l1_6, l2_6, l3_6 => if 10 ≤ l3_6 then z61 l1_6 l2_6 else jo (fun (l1_55 : Option Nat) (l2_55 : Int32) => f_X3_readWord_6 x_signs x_length x_position z61 n l1_55 l2_55 (l3_6 + 1)) (fun j55 => if l3_6 < 0 ∨ 10 ≤ l3_6.toNatClampNeg then none else (f_X3_fittingLength x_signs x_length x_position ((kwX l3_6.toNatClampNeg).2.2)).bind fun r27 => if r27 = (nI ((kwX l3_6.toNatClampNeg).2.2 : List Int32).length) then j55 (some l3_6.toNatClampNeg) (if l2_6 < r27 then r27 else l2_6) else j55 l1_6 (if l2_6 < r27 then r27 else l2_6))
noncomputable def f_X3_readWord (x_signs : Nat → Int32) (x_length : Int32) (x_position : Int32) : Option (Option Nat × Int32) :=
  f_X3_readWord_6 x_signs x_length x_position (fun l1_61e l2_61e => some (l1_61e, (x_position + l2_61e))) 1000 none 0 0
abbrev G_X3_readWord (p : Program) (l : Launch) (e : Env) (s : State) (m : MethodId) (args : Array Value) (below : List Frame) (meth : Method) (c : Code) (g : GE) (A : Nat → Prop) (z : ZE) (h0 h1 h2 h3 : Nat) (h4 : Nat → Nat) (x_signs : Nat → Int32) (x_length : Int32) (x_kinds : Nat → Option Nat) (x_values : Nat → Nat → Int32) (x_commandCount : Int32) (res : Option Nat × Int32) (H : Heap) (locs : List Loc) (pc : Nat) (ls : Array Slot) (st : List Value) : Prop := W p l e (headSpec wsX3_readWord rm_X3_readWord).room s m args below meth c H locs 0 0 (MQ below (PoE g z A (w_X3 g z h0 h1 h2 h3 h4 x_signs x_length res.2 x_kinds x_values x_commandCount) res.1) args s 0 0 A) (F0 m pc ls st)
set_option maxHeartbeats 4000000 in
set_option maxRecDepth 100000 in
theorem k_X3_readWord_6 {p : Program} {l : Launch} {e : Env} {s : State} {m : MethodId} {args : Array Value} {below : List Frame} {meth : Method} {c : Code} {g : GE} {A : Nat → Prop} {z : ZE} {h0 h1 h2 h3 : Nat} {h4 : Nat → Nat} {x_signs : Nat → Int32} {x_length : Int32} {x_position : Int32} {x_kinds : Nat → Option Nat} {x_values : Nat → Nat → Int32} {x_commandCount : Int32} {res : Option Nat × Int32} {z61 : Option Nat → Int32 → Option (Option Nat × Int32)}
    (E : En cX3_readWord RX3 wsX3_readWord 6 (some (.object "PaperStorm$Kind")) p s m args meth c) (hK : KK g s) (hz : KS z s) (hC : CS z A s s.heap) (hA : ∀ q, s.heap.size ≤ q → A q)
    (hz61 : ∀ (l1_61e : Option Nat) (l2_61e : Int32) (H : Heap) (locs : List Loc) (ls : Array Slot), z61 l1_61e l2_61e = some res → Wo g A s H locs (w_X3 g z h0 h1 h2 h3 h4 x_signs x_length x_position x_kinds x_values x_commandCount) → lv_has ls 6 [(0, .ref h0), (1, (va_re z.2 l1_61e)), (2, .int l2_61e)] → G_X3_readWord p l e s m args below meth c g A z h0 h1 h2 h3 h4 x_signs x_length x_kinds x_values x_commandCount res H locs 61 ls [])
    : ∀ (n : Nat) (l1_6 : Option Nat) (l2_6 : Int32) (l3_6 : Int32) (H : Heap) (locs : List Loc) (ls : Array Slot), f_X3_readWord_6 x_signs x_length x_position z61 n l1_6 l2_6 l3_6 = some res → Wo g A s H locs (w_X3 g z h0 h1 h2 h3 h4 x_signs x_length x_position x_kinds x_values x_commandCount) → lv_has ls 6 [(0, .ref h0), (1, (va_re z.2 l1_6)), (2, .int l2_6), (3, .int l3_6)] → G_X3_readWord p l e s m args below meth c g A z h0 h1 h2 h3 h4 x_signs x_length x_kinds x_values x_commandCount res H locs 6 ls [] := by
  have hts := E.2.2.2.1
  obtain ⟨tK, hZK, hTK⟩ := hC.2.2.2.2.2.1
  intro n
  induction n with
  | zero => intro l1_6 l2_6 l3_6 H locs ls h hW hl; rw [f_X3_readWord_6] at h; cases h
  | succ n ih =>
    intro l1_6 l2_6 l3_6 H locs ls h hW hl
    rw [f_X3_readWord_6] at h
    refine lv_iload_n E.1 E.2.1 dX3_readWord_6 rfl (lv_at hl 3 rfl) ?_
    refine va_getsN (v := .ref tK) E.1 E.2.1 hZK hW.2.2 E.2.2.2.2.1 (va_Nw.use (nestW_tab _ lk_X3_readWord_76) (hK.2 _ lk_X3_readWord_76)) (fun _ h => h) dX3_readWord_7 ?_
    refine va_tlen (v := 10) E.1 E.2.1 hTK hW.2.2 rfl dX3_readWord_10 ?_
    refine lv_icmp_ge (tgt := 61) E.1 E.2.1 dX3_readWord_11 (by decide) (fun c11 => ?_) (fun c11 => ?_)
    · have h := it c11 h
      exact hz61 l1_6 l2_6 H locs ls h hW (lv_sub hl [0, 1, 2] rfl)
    · have h := ie c11 h
      obtain ⟨j55, hj55, h⟩ := jox2 h
      have J55 : ∀ (l1_55 : Option Nat) (l2_55 : Int32) (H : Heap) (locs : List Loc) (ls : Array Slot), j55 l1_55 l2_55 = some res → Wo g A s H locs (w_X3 g z h0 h1 h2 h3 h4 x_signs x_length x_position x_kinds x_values x_commandCount) → lv_has ls 6 [(0, .ref h0), (1, (va_re z.2 l1_55)), (2, .int l2_55), (3, .int l3_6)] → G_X3_readWord p l e s m args below meth c g A z h0 h1 h2 h3 h4 x_signs x_length x_kinds x_values x_commandCount res H locs 55 ls [] := by
        intro l1_55 l2_55 H locs ls h hW hl
        rw [hj55] at h
        refine lv_iinc (v := (l3_6 + 1)) (lv' := [(3, .int (l3_6 + 1)), (0, .ref h0), (1, (va_re z.2 l1_55)), (2, .int l2_55)]) E.1 E.2.1 dX3_readWord_55 hl (k := 3) rfl rfl (by decide) rfl (fun ls hl => ?_)
        refine lv_goto (tgt := 6) E.1 E.2.1 dX3_readWord_58 (by decide) ?_
        exact ih l1_55 l2_55 (l3_6 + 1) H locs ls h hW (lv_sub hl [1, 2, 3, 0] rfl)
      refine va_getsN (v := .ref tK) E.1 E.2.1 hZK hW.2.2 E.2.2.2.2.1 (va_Nw.use (nestW_tab _ lk_X3_readWord_76) (hK.2 _ lk_X3_readWord_76)) (fun _ h => h) dX3_readWord_14 ?_
      refine lv_iload_n E.1 E.2.1 dX3_readWord_17 rfl (lv_at hl 3 rfl) ?_
      obtain ⟨hi18, h⟩ := ox h
      refine vb_tq (v := .ref (z.2 l3_6.toNatClampNeg)) E.1 E.2.1 hTK hW.2.2 hi18 rfl dX3_readWord_18 ?_
      refine wKstr (v := .ref (z.1 ((kwX l3_6.toNatClampNeg).1) ((kwX l3_6.toNatClampNeg).2.1))) hC.2.2.2.2.1.1 (Nat.not_le.mp (fun q => hi18 (Or.inr q))) lk_X3_readWord_79 E hK hW dX3_readWord_19 ?_
      refine lv_astore (lv' := [(4, .ref (z.1 ((kwX l3_6.toNatClampNeg).1) ((kwX l3_6.toNatClampNeg).2.1))), (0, .ref h0), (1, (va_re z.2 l1_6)), (2, .int l2_6), (3, .int l3_6)]) E.1 E.2.1 dX3_readWord_22 hl (by decide) rfl (fun ls hl => ?_)
      refine lv_aload_n E.1 E.2.1 dX3_readWord_24 rfl (lv_at hl 1 rfl) ?_
      refine lv_aload E.1 E.2.1 dX3_readWord_25 (lv_at hl 0 rfl) ?_
      obtain ⟨r27, hc, h⟩ := bx h
      refine goI (world' := (w_X3 g z h0 h1 h2 h3 h4 x_signs x_length x_position x_kinds x_values x_commandCount)) hW hA (is := (rgB 0 19)) (getB rfl rfl) (goVX (rest := []) E hK hz hC hA hW (rgB 0 19) (getB rfl rfl) (by decide +kernel) (c_X3_fittingLength l g z ((kwX l3_6.toNatClampNeg).1) ((kwX l3_6.toNatClampNeg).2.1) h0 h1 h2 h3 h4 x_signs x_length x_position x_kinds x_values x_commandCount ((kwX l3_6.toNatClampNeg).2.2) (kwX_in _ (Nat.not_le.mp (fun q => hi18 (Or.inr q)))) (hf := hc) H.size) (cwV 1 hts gX3_readWord_X3_fittingLength rfl rfl rfl (by decide +kernel) ⟨Nat.le_of_ble_eq_true rfl, Nat.le_of_ble_eq_true rfl⟩) 0 rfl rfl rfl hl.1 rfl rfl (Nat.le_of_ble_eq_true rfl) dX3_readWord_27 ⟨Nat.zero_le _, Nat.zero_le _⟩) rfl (putB rfl rfl rfl (Nat.le_of_ble_eq_true rfl) rfl) (fun H locs hW => ?_)
      refine lv_istore (lv' := [(5, .int r27), (4, .ref (z.1 ((kwX l3_6.toNatClampNeg).1) ((kwX l3_6.toNatClampNeg).2.1))), (0, .ref h0), (1, (va_re z.2 l1_6)), (2, .int l2_6), (3, .int l3_6)]) E.1 E.2.1 dX3_readWord_30 hl (by decide) rfl (fun ls hl => ?_)
      refine lv_iload_n E.1 E.2.1 dX3_readWord_32 rfl (lv_at hl 4 rfl) ?_
      refine lv_iload E.1 E.2.1 dX3_readWord_33 (lv_at hl 0 rfl) ?_
      refine va_mmax E.1 E.2.1 (E.2.2.2.2.2.2.trans hl.1.symm) E.2.2.2.2.1 (hts _ lk_X3_readWord_86a) (hts _ lk_X3_readWord_86b) (hts _ lk_X3_readWord_86c) (hts _ lk_X3_readWord_86d) (Nat.le_of_ble_eq_true rfl) (Nat.le_of_ble_eq_true rfl) (Nat.zero_le _) (Nat.zero_le _) dX3_readWord_35 ?_
      refine lv_istore_n (lv' := [(2, .int (if l2_6 < r27 then r27 else l2_6)), (5, .int r27), (4, .ref (z.1 ((kwX l3_6.toNatClampNeg).1) ((kwX l3_6.toNatClampNeg).2.1))), (0, .ref h0), (1, (va_re z.2 l1_6)), (3, .int l3_6)]) E.1 E.2.1 dX3_readWord_38 rfl hl (by decide) (by simp [List.filter_cons, catR]) (fun ls hl => ?_)
      refine lv_iload E.1 E.2.1 dX3_readWord_39 (lv_at hl 1 rfl) ?_
      refine lv_aload E.1 E.2.1 dX3_readWord_41 (lv_at hl 2 rfl) ?_
      refine wLen ((kwX l3_6.toNatClampNeg).1, (kwX l3_6.toNatClampNeg).2.1, (kwX l3_6.toNatClampNeg).2.2) (kwX_in _ (Nat.not_le.mp (fun q => hi18 (Or.inr q)))) E hC hW (cwV 0 hts gX3_readWord_J0_length_8abf5 rfl rfl rfl (by decide +kernel) ⟨Nat.le_of_ble_eq_true rfl, Nat.le_of_ble_eq_true rfl⟩) hl.1 (Nat.le_of_ble_eq_true rfl) dX3_readWord_43 ⟨Nat.zero_le _, Nat.zero_le _⟩ (fun H locs hW => ?_)
      refine lv_icmp_ne (tgt := 55) E.1 E.2.1 dX3_readWord_46 (by decide) (fun c46 => ?_) (fun c46 => ?_)
      · have h := ie c46 h
        exact J55 l1_6 (if l2_6 < r27 then r27 else l2_6) H locs ls h hW (lv_sub hl [3, 4, 0, 5] rfl)
      · have h := it c46 h
        refine va_getsN (v := .ref tK) E.1 E.2.1 hZK hW.2.2 E.2.2.2.2.1 (va_Nw.use (nestW_tab _ lk_X3_readWord_76) (hK.2 _ lk_X3_readWord_76)) (fun _ h => h) dX3_readWord_49 ?_
        refine lv_iload_n E.1 E.2.1 dX3_readWord_52 rfl (lv_at hl 5 rfl) ?_
        refine vb_tq (v := .ref (z.2 l3_6.toNatClampNeg)) E.1 E.2.1 hTK hW.2.2 hi18 rfl dX3_readWord_53 ?_
        refine lv_astore_n (lv' := [(1, .ref (z.2 l3_6.toNatClampNeg)), (2, .int (if l2_6 < r27 then r27 else l2_6)), (5, .int r27), (4, .ref (z.1 ((kwX l3_6.toNatClampNeg).1) ((kwX l3_6.toNatClampNeg).2.1))), (0, .ref h0), (3, .int l3_6)]) E.1 E.2.1 dX3_readWord_54 rfl hl (by decide) rfl (fun ls hl => ?_)
        exact J55 (some l3_6.toNatClampNeg) (if l2_6 < r27 then r27 else l2_6) H locs ls h hW (lv_sub hl [4, 0, 1, 5] rfl)
set_option maxHeartbeats 4000000 in
set_option maxRecDepth 100000 in
theorem k_X3_readWord_0 {p : Program} {l : Launch} {e : Env} {s : State} {m : MethodId} {args : Array Value} {below : List Frame} {meth : Method} {c : Code} {g : GE} {A : Nat → Prop} {z : ZE} {h0 h1 h2 h3 : Nat} {h4 : Nat → Nat} {x_signs : Nat → Int32} {x_length : Int32} {x_position : Int32} {x_kinds : Nat → Option Nat} {x_values : Nat → Nat → Int32} {x_commandCount : Int32} {res : Option Nat × Int32} {H : Heap} {locs : List Loc} {ls : Array Slot} 
    (E : En cX3_readWord RX3 wsX3_readWord 6 (some (.object "PaperStorm$Kind")) p s m args meth c) (hK : KK g s) (hz : KS z s) (hC : CS z A s s.heap) (hA : ∀ q, s.heap.size ≤ q → A q) (h : f_X3_readWord x_signs x_length x_position = some res) (hW : Wo g A s H locs (w_X3 g z h0 h1 h2 h3 h4 x_signs x_length x_position x_kinds x_values x_commandCount)) (hl : lv_has ls 6 [(0, .ref h0)]) : G_X3_readWord p l e s m args below meth c g A z h0 h1 h2 h3 h4 x_signs x_length x_kinds x_values x_commandCount res H locs 0 ls [] := by
  have hts := E.2.2.2.1
  unfold f_X3_readWord at h
  refine lv_null E.1 E.2.1 dX3_readWord_0 ?_
  refine lv_astore_nN (lv' := [(1, .null), (0, .ref h0)]) E.1 E.2.1 dX3_readWord_1 rfl hl (by decide) rfl (fun ls hl => ?_)
  refine lv_iconst (v := 0) E.1 E.2.1 dX3_readWord_2 (by decide) ?_
  refine lv_istore_n (lv' := [(2, .int 0), (1, .null), (0, .ref h0)]) E.1 E.2.1 dX3_readWord_3 rfl hl (by decide) rfl (fun ls hl => ?_)
  refine lv_iconst (v := 0) E.1 E.2.1 dX3_readWord_4 (by decide) ?_
  refine lv_istore_n (lv' := [(3, .int 0), (2, .int 0), (1, .null), (0, .ref h0)]) E.1 E.2.1 dX3_readWord_5 rfl hl (by decide) rfl (fun ls hl => ?_)
  refine k_X3_readWord_6 E hK hz hC hA ?_ 1000 none 0 0 H locs ls h hW (lv_sub hl [3, 2, 1, 0] rfl)
  · intro l1_61e l2_61e H locs ls h hW hl
    refine lv_aload_n E.1 E.2.1 dX3_readWord_61 rfl (lv_at hl 0 rfl) ?_
    refine lv_dup E.1 E.2.1 dX3_readWord_62 rfl ?_
    refine wGet (v := .int x_position) E hK in_X3_readWord_X3 hW 2 lk_X3_readWord_19 0 rfl rfl (by decide) rfl rfl dX3_readWord_63 ?_
    refine lv_iload_n E.1 E.2.1 dX3_readWord_66 rfl (lv_at hl 2 rfl) ?_
    refine lv_iadd E.1 E.2.1 dX3_readWord_67 ?_
    refine wPut (world' := (w_X3 g z h0 h1 h2 h3 h4 x_signs x_length (x_position + l2_61e) x_kinds x_values x_commandCount)) E hK in_X3_readWord_X3 tyX3 tyX3_ok nmX3 hW 2 lk_X3_readWord_19 0 rfl rfl (by decide) rfl rfl rfl rfl rfl (Nat.le_of_ble_eq_true rfl) dX3_readWord_68 rfl (fun H locs hW => ?_)
    refine lv_aloadR_n E.1 E.2.1 dX3_readWord_71 rfl (lv_at hl 1 rfl) ?_
    obtain rfl := Option.some.inj h
    exact endE E hW dX3_readWord_72
theorem c_X3_readWord (l : Launch) (g : GE) (z : ZE) (h0 h1 h2 h3 : Nat) (h4 : Nat → Nat) (x_signs : Nat → Int32) (x_length : Int32) (x_position : Int32) (x_kinds : Nat → Option Nat) (x_values : Nat → Nat → Int32) (x_commandCount : Int32) {res : Option Nat × Int32} (hf : f_X3_readWord x_signs x_length x_position = some res) : XE l yX3_readWord wsX3_readWord rm_X3_readWord g z [.ref h0] (w_X3 g z h0 h1 h2 h3 h4 x_signs x_length x_position x_kinds x_values x_commandCount) (w_X3 g z h0 h1 h2 h3 h4 x_signs x_length res.2 x_kinds x_values x_commandCount) res.1 :=
  mkXE (cc := cX3_readWord) (maxL := 6) (by decide) rfl (Nat.le_of_ble_eq_true rfl) (fun p e s m args below meth c A H locs ls E hK hz hC hA hW hl => k_X3_readWord_0 E hK hz hC hA hf hW hl)

