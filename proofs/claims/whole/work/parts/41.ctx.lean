/-! what the Statement gives of the start -/
abbrev stC : Jvm.Cond := Jvm.Cond.and given_1 narrow_1
theorem nestW_tbl : ∀ w ∈ nestW, w ∈ tables_1 := by decide +kernel
theorem exW_tbl : ∀ w ∈ exW, w ∈ tables_1 ∨ w ∈ flatC stC := by decide +kernel
theorem aoW_tbl : ∀ w ∈ aoW, w ∈ tables_1 ∨ w ∈ flatC stC := by decide +kernel
theorem strL_tbl : ∀ x ∈ strL, Cond.stringRef x.1 x.2.1 x.2.2 ∈ tables_1 := by decide +kernel
theorem strL_ex : ∀ x ∈ strL, Cond.exactly (.string x.1 x.2.1) "java/lang/String" ∈ flatC stC := by decide +kernel
theorem strT_co : ∀ x ∈ strT, Cond.eq (.field (.string x.1 x.2.1) "java/lang/String" "coder" "B") (.int 0) ∈ flatC stC := by decide +kernel
theorem strT_ex : ∀ x ∈ strT, Cond.exactly (.string x.1 x.2.1) "java/lang/String" ∈ flatC stC := by decide +kernel
theorem strT_ar : ∀ x ∈ strT, Cond.arrayOf (.field (.string x.1 x.2.1) "java/lang/String" "value" "[B") .byte ∈ flatC stC := by decide +kernel
theorem strT_le : ∀ x ∈ strT, Cond.eq (.length (.field (.string x.1 x.2.1) "java/lang/String" "value" "[B")) (.int (Int32.ofNat x.2.2.length)) ∈ flatC stC := by decide +kernel
theorem strT_el : ∀ x ∈ strT, ∀ j, j < x.2.2.length → Cond.eq (.elem (.field (.string x.1 x.2.1) "java/lang/String" "value" "[B") (.int (Int32.ofNat j))) (.int (x.2.2.getD j 0)) ∈ flatC stC := by decide +kernel
theorem kd_lays : ∀ i, i < kindNm.length → Cond.laysStatic "PaperStorm$Kind" (kindNm.getD i "") kindD ∈ tables_1 := by decide +kernel
theorem kd_ex : ∀ i, i < kindNm.length → Cond.exactly (.static "PaperStorm$Kind" (kindNm.getD i "") kindD) "PaperStorm$Kind" ∈ flatC stC := by decide +kernel
theorem kd_f : ∀ q ∈ kindF, ∀ i, i < kindNm.length → Cond.eq (.field (.static "PaperStorm$Kind" (kindNm.getD i "") kindD) q.1 q.2.1 q.2.2.1) (.int (q.2.2.2.getD i 0)) ∈ flatC stC := by decide +kernel
theorem kd_ne : ∀ i, i < kindNm.length → ∀ j, j < kindNm.length → i ≠ j → Cond.not (.eq (.static "PaperStorm$Kind" (kindNm.getD i "") kindD) (.static "PaperStorm$Kind" (kindNm.getD j "") kindD)) ∈ flatC stC ∨ Cond.not (.eq (.static "PaperStorm$Kind" (kindNm.getD j "") kindD) (.static "PaperStorm$Kind" (kindNm.getD i "") kindD)) ∈ flatC stC := by decide +kernel
theorem kd_w : ∀ i, i < 10 → Cond.eq (.field (.static "PaperStorm$Kind" (kindNm.getD i "") kindD) "PaperStorm$Kind" "word" "Ljava/lang/String;") (.string (kwX i).1 (kwX i).2.1) ∈ flatC stC := by decide +kernel
theorem kd_p : ∀ i, i < 10 → Cond.eq (.field (.static "PaperStorm$Kind" (kindNm.getD i "") kindD) "PaperStorm$Kind" "parameters" "Ljava/lang/String;") (.string (kpX i).1 (kpX i).2.1) ∈ flatC stC := by decide +kernel
theorem kd_k : ∀ j, j < 10 → Cond.eq (.elem (.static "PaperStorm" "KINDS" "[LPaperStorm$Kind;") (.int (Int32.ofNat j))) (.static "PaperStorm$Kind" (kindNm.getD j "") kindD) ∈ flatC stC := by decide +kernel
theorem kd_s : ∀ j, j < 10 → Cond.eq (.elem (.static "PaperStorm$1" "$SwitchMap$PaperStorm$Kind" "[I") (.int (Int32.ofNat j))) (.int (swT.getD j 0)) ∈ flatC stC := by decide +kernel
theorem c_cs0 : Cond.laysStatic "java/lang/String" "COMPACT_STRINGS" "Z" ∈ tables_1 := by decide +kernel
theorem c_cs1 : Cond.initialized "java/lang/String" ∈ tables_1 := by decide +kernel
theorem c_cs2 : Cond.eq (.static "java/lang/String" "COMPACT_STRINGS" "Z") (.int 1) ∈ flatC stC := by decide +kernel
theorem c_pr0 : Cond.laysStatic "jdk/internal/util/Preconditions" "SIOOBE_FORMATTER" "Ljava/util/function/BiFunction;" ∈ tables_1 := by decide +kernel
theorem c_pr1 : Cond.initialized "jdk/internal/util/Preconditions" ∈ tables_1 := by decide +kernel
theorem c_pr2 : Cond.isRef (.static "jdk/internal/util/Preconditions" "SIOOBE_FORMATTER" "Ljava/util/function/BiFunction;") ∈ flatC stC := by decide +kernel
theorem c_th0 : Cond.laysStatic Bundle.tN "UNASSIGNED_STACK" Bundle.steD ∈ tables_1 := by decide +kernel
theorem c_th1 : Cond.initialized Bundle.tN ∈ tables_1 := by decide +kernel
theorem c_th2 : Cond.isRef (.static Bundle.tN "UNASSIGNED_STACK" Bundle.steD) ∈ flatC stC := by decide +kernel
theorem c_th3 : Cond.laysStatic Bundle.tN "SUPPRESSED_SENTINEL" Bundle.listD ∈ tables_1 := by decide +kernel
theorem c_th4 : Cond.isRef (.static Bundle.tN "SUPPRESSED_SENTINEL" Bundle.listD) ∈ flatC stC := by decide +kernel
theorem c_ki1 : Cond.initialized "PaperStorm$Kind" ∈ tables_1 := by decide +kernel
theorem c_ks0 : Cond.laysStatic "PaperStorm" "KINDS" "[LPaperStorm$Kind;" ∈ tables_1 := by decide +kernel
theorem c_ks1 : Cond.initialized "PaperStorm" ∈ tables_1 := by decide +kernel
theorem c_ks2 : Cond.arrayOf (.static "PaperStorm" "KINDS" "[LPaperStorm$Kind;") (.object "PaperStorm$Kind") ∈ flatC stC := by decide +kernel
theorem c_ks3 : Cond.eq (.length (.static "PaperStorm" "KINDS" "[LPaperStorm$Kind;")) (.int 10) ∈ flatC stC := by decide +kernel
theorem c_sw0 : Cond.laysStatic "PaperStorm$1" "$SwitchMap$PaperStorm$Kind" "[I" ∈ tables_1 := by decide +kernel
theorem c_sw1 : Cond.initialized "PaperStorm$1" ∈ tables_1 := by decide +kernel
theorem c_sw2 : Cond.arrayOf (.static "PaperStorm$1" "$SwitchMap$PaperStorm$Kind" "[I") .int ∈ flatC stC := by decide +kernel
theorem c_sw3 : Cond.eq (.length (.static "PaperStorm$1" "$SwitchMap$PaperStorm$Kind" "[I")) (.int 10) ∈ flatC stC := by decide +kernel
theorem c_n21 : Cond.not (.castable "java/lang/IllegalArgumentException" "java/lang/IndexOutOfBoundsException") ∈ flatC stC := by decide +kernel
theorem c_n32 : Cond.not (.castable "java/lang/IllegalStateException" "java/lang/IllegalArgumentException") ∈ flatC stC := by decide +kernel
theorem c_n41 : Cond.not (.castable "java/util/NoSuchElementException" "java/lang/IndexOutOfBoundsException") ∈ flatC stC := by decide +kernel
theorem c_ar_int : Cond.arrayClass .int ∈ tables_1 := by decide +kernel
theorem c_ar_long : Cond.arrayClass .long ∈ tables_1 := by decide +kernel
theorem c_ar_char : Cond.arrayClass .char ∈ tables_1 := by decide +kernel
theorem c_ar_double : Cond.arrayClass .double ∈ tables_1 := by decide +kernel
theorem c_in_J0 : Cond.instantiable RJ0 2 ∈ tables_1 := by decide +kernel
theorem c_in_Jx00060 : Cond.instantiable RJx00060 6 ∈ tables_1 := by decide +kernel
theorem c_in_X1 : Cond.instantiable RX1 4 ∈ tables_1 := by decide +kernel
theorem c_in_X2 : Cond.instantiable RX2 2 ∈ tables_1 := by decide +kernel
theorem c_in_X3 : Cond.instantiable RX3 6 ∈ tables_1 := by decide +kernel
theorem c_in_X4 : Cond.instantiable RX4 6 ∈ tables_1 := by decide +kernel
theorem c_in_X5 : Cond.instantiable RX5 2 ∈ tables_1 := by decide +kernel
theorem c_in_X6 : Cond.instantiable RX6 3 ∈ tables_1 := by decide +kernel
theorem c_in_X8 : Cond.instantiable RX8 2 ∈ tables_1 := by decide +kernel
theorem c_in_X9 : Cond.instantiable RX9 4 ∈ tables_1 := by decide +kernel
theorem c_in_X10 : Cond.instantiable RX10 2 ∈ tables_1 := by decide +kernel
theorem c_in_X11 : Cond.instantiable RX11 4 ∈ tables_1 := by decide +kernel
theorem c_in_X12 : Cond.instantiable RX12 11 ∈ tables_1 := by decide +kernel
theorem c_in_X13 : Cond.instantiable RX13 24 ∈ tables_1 := by decide +kernel
theorem lw_ctx {s : State} {b : Nat} {A : Nat → Prop} (hT : ∀ w ∈ tables_1, w.before #[Value.ref b] s = true) (hF : ∀ w ∈ flatC stC, w.before #[Value.ref b] s = true) (hA : ∀ a : Nat, a < s.heap.size → ¬ A a) : ∃ z : ZE, KS z s ∧ CS z A s s.heap := by
  obtain ⟨zz, hzz⟩ : ∃ zz : String → Nat → Nat, ∀ x ∈ strL, (Term.string x.1 x.2.1).eval #[Value.ref b] s none [] s = some (.ref (zz x.1 x.2.1)) := by
    refine ⟨fun o k => match (Term.string o k).eval #[Value.ref b] s none [] s with | some (.ref a) => a | _ => 0, fun x hx => ?_⟩
    obtain ⟨a, -, -, -, e, -⟩ := Cond.exactly_spec (hF _ (strL_ex x hx))
    rw [e]
  have hTL : ∀ x ∈ strT, ∃ y ∈ strL, y.1 = x.1 ∧ y.2.1 = x.2.1 := by decide +kernel
  have hzT : ∀ x ∈ strT, (Term.string x.1 x.2.1).eval #[Value.ref b] s none [] s = some (.ref (zz x.1 x.2.1)) := by
    intro x hx
    obtain ⟨y, hy, e1, e2⟩ := hTL x hx
    rw [← e1, ← e2]
    exact hzz y hy
  obtain ⟨ad, hE, hev⟩ := va_Enof2 (A := A) (E := "PaperStorm$Kind") (d := kindD) (nm := kindNm) (F := kindF) (fun i hi => hT _ (kd_lays i hi)) (hT _ c_ki1) (fun i hi => hF _ (kd_ex i hi)) (fun q hq i hi => hF _ (kd_f q hq i hi)) (fun i j hi hj hij => (kd_ne i hi j hj hij).elim (fun h => Or.inl (hF _ h)) (fun h => Or.inr (hF _ h))) hA
  have hlen : kindNm.length = 10 := rfl
  have hev10 : ∀ i, i < 10 → (Term.static "PaperStorm$Kind" (kindNm.getD i "") kindD).eval #[Value.ref b] s none [] s = some (.ref (ad i)) := fun i hi => hev i (by rw [hlen]; exact hi)
  refine ⟨(zz, ad), fun x hx => vk_R.of (hT _ (strL_tbl x hx)) (hzz x hx), ⟨va_Zof (hT _ c_cs0) (hT _ c_cs1) (va_eqv (hF _ c_cs2) rfl) hA, va_Zqof (hT _ c_pr0) (hT _ c_pr1) (hF _ c_pr2) hA⟩, ⟨vx_Zqof (hT _ c_th0) (hT _ c_th1) (hF _ c_th2) hA, vx_Zqof (hT _ c_th3) (hT _ c_th1) (hF _ c_th4) hA⟩, fun x hx => ?_, hE, ⟨?_, ?_⟩, ?_, ?_⟩
  · obtain ⟨v, hv, hTv⟩ := va_Tof (A := A) (tm := .field (.string x.1 x.2.1) "java/lang/String" "value" "[B") (ty := .byte) (N := x.2.2.length) (f := fun j => .int (x.2.2.getD j 0)) (strT_len x hx) (hF _ (strT_ar x hx)) (va_eqv (hF _ (strT_le x hx)) rfl) (fun j hj => va_eqv (hF _ (strT_el x hx j hj)) rfl) hA
    exact ⟨v, va_Oof (hF _ (strT_ex x hx)) (hzT x hx) hA, vk_OFof (hzT x hx) hv hA, vk_OFof (hzT x hx) (va_eqv (hF _ (strT_co x hx)) rfl) hA, hTv⟩
  · exact va_Efof (nm := kindNm) (d0 := kindD) (tm := fun i => .string (kwX i).1 (kwX i).2.1) hev10 (fun i hi => hF _ (kd_w i hi)) (fun i hi => hzT _ (kwX_in i hi)) hA
  · exact va_Efof (nm := kindNm) (d0 := kindD) (tm := fun i => .string (kpX i).1 (kpX i).2.1) hev10 (fun i hi => hF _ (kd_p i hi)) (fun i hi => hzT _ (kpX_in i hi)) hA
  · obtain ⟨t, ht, hTt⟩ := va_Tof (A := A) (tm := .static "PaperStorm" "KINDS" "[LPaperStorm$Kind;") (ty := .object "PaperStorm$Kind") (N := 10) (f := fun j => .ref (ad j)) (by decide) (hF _ c_ks2) (va_eqv (hF _ c_ks3) rfl) (fun j hj => va_eqv (hF _ (kd_k j hj)) (hev10 j hj)) hA
    exact ⟨t, va_Zof (hT _ c_ks0) (hT _ c_ks1) ht hA, hTt⟩
  · obtain ⟨t, ht, hTt⟩ := va_Tof (A := A) (tm := .static "PaperStorm$1" "$SwitchMap$PaperStorm$Kind" "[I") (ty := .int) (N := 10) (f := fun j => .int (swT.getD j 0)) (by decide) (hF _ c_sw2) (va_eqv (hF _ c_sw3) rfl) (fun j hj => va_eqv (hF _ (kd_s j hj)) rfl) hA
    exact ⟨t, va_Zof (hT _ c_sw0) (hT _ c_sw1) ht hA, hTt⟩
theorem RA_obj {s : State} {C : String} (h : (Cond.arrayOver (.object C)).before #[] s = true) : ∃ c : ClassId, ArrOfT s c (.object C) ∧ va_RA s c (.object C) := by
  obtain ⟨comp, c, k, h1, -, h3, h4, h5⟩ := Cond.arrayOver_spec h
  exact ⟨c, fun N z => ⟨(fun k h => by cases h), k, h3, comp, h4⟩, k, comp, h3, h4, h1, h5⟩
theorem RA_arr {s : State} {t : FieldType} (h : (Cond.arrayOver (.array t)).before #[] s = true) : ∃ c : ClassId, ArrOfT s c (.array t) ∧ va_RA s c (.array t) := by
  obtain ⟨comp, c, k, h1, h3, h4, h5⟩ := Cond.arrayOver_specA h
  exact ⟨c, fun N z => ⟨(fun k h => by cases h), k, h3, comp, h4⟩, h5⟩
