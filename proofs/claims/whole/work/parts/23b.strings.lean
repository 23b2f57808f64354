/-! string constants: the JDK's own methods on them -/
def StrC (bs : List Int32) (a : Nat) (A : Nat → Prop) (U : State) (H : Heap) : Prop := ∃ v : Nat, va_O "java/lang/String" a A U H ∧ va_OF "java/lang/String" "value" "[B" (.ref v) a A U H ∧ va_OF "java/lang/String" "coder" "B" (.int 0) a A U H ∧ va_T .byte v bs.length (fun j => .int (bs.getD j 0)) A U H
theorem StrC.moved {bs : List Int32} {a : Nat} {A : Nat → Prop} {u U : State} {H : Heap} (hvm : u.vm.Alike U.vm) (h : StrC bs a A u H) : StrC bs a A U H := by
  obtain ⟨v, h1, h2, h3, h4⟩ := h
  exact ⟨v, va_O.moved hvm h1, va_OF.moved hvm h2, va_OF.moved hvm h3, va_T.moved hvm h4⟩
theorem StrC.kept {bs : List Int32} {a : Nat} {A : Nat → Prop} {U : State} {H H1 : Heap} (h : StrC bs a A U H) (hq : ∀ a : Nat, a < H.size → ¬ A a → H1[a]? = H[a]?) : StrC bs a A U H1 := by
  obtain ⟨v, h1, h2, h3, h4⟩ := h
  exact ⟨v, va_O.kept h1 hq, va_OF.kept h2 hq, va_OF.kept h3 hq, va_T.kept h4 hq⟩
theorem StrC.narrow {bs : List Int32} {a : Nat} {A B : Nat → Prop} {U : State} {H : Heap} (h : StrC bs a A U H) (hAB : ∀ q, B q → A q) : StrC bs a B U H := by
  obtain ⟨v, h1, h2, h3, h4⟩ := h
  exact ⟨v, va_O.narrow h1 hAB, va_OF.narrow h2 hAB, va_OF.narrow h3 hAB, va_T.narrow h4 hAB⟩
/-- the statics that the JDK's methods on strings read -/
def JS (A : Nat → Prop) (U : State) (H : Heap) : Prop := va_Z "java/lang/String" "COMPACT_STRINGS" "Z" (.int 1) A U H ∧ va_Zq "jdk/internal/util/Preconditions" "SIOOBE_FORMATTER" "Ljava/util/function/BiFunction;" A U H
theorem JS.moved {A : Nat → Prop} {u U : State} {H : Heap} (hvm : u.vm.Alike U.vm) (h : JS A u H) : JS A U H := ⟨va_Z.moved hvm h.1, va_Zq.moved hvm h.2⟩
theorem JS.kept {A : Nat → Prop} {U : State} {H H1 : Heap} (h : JS A U H) (hq : ∀ a : Nat, a < H.size → ¬ A a → H1[a]? = H[a]?) : JS A U H1 := ⟨va_Z.kept h.1 hq, va_Zq.kept h.2 hq⟩
theorem JS.narrow {A B : Nat → Prop} {U : State} {H : Heap} (h : JS A U H) (hAB : ∀ q, B q → A q) : JS B U H := ⟨va_Z.narrow h.1 hAB, va_Zq.narrow h.2 hAB⟩
abbrev No : Nat → Prop := fun _ => False
/-- a method that reads constants alone -/
def CP (l : Launch) (y : MethodName) (wsl : List Cond) (rm : Room) (av : List Value) (B : State → Prop) (r : Int32) : Prop := Met l y wsl rm (va_Pc av B) (va_Qi (S := Unit) (fun x _ => x = r) (fun _ _ => True) No) 0 0 No
def StrB (bs : List Int32) (a : Nat) (U : State) : Prop := JS No U U.heap ∧ StrC bs a No U U.heap
theorem lkJ_iL_38 : Cond.fieldLink RJ0 38 "java/lang/String" "COMPACT_STRINGS" "Z" ∈ wsJ0_isLatin1_aae02 := by decide +kernel
theorem lkJ_iL_15 : Cond.fieldLink RJ0 15 "java/lang/String" "coder" "B" ∈ wsJ0_isLatin1_aae02 := by decide +kernel
theorem lkJ_co_38 : Cond.fieldLink RJ0 38 "java/lang/String" "COMPACT_STRINGS" "Z" ∈ wsJ0_coder_7d493 := by decide +kernel
theorem lkJ_co_15 : Cond.fieldLink RJ0 15 "java/lang/String" "coder" "B" ∈ wsJ0_coder_7d493 := by decide +kernel
theorem lkJ_le_9 : Cond.fieldLink RJ0 9 "java/lang/String" "value" "[B" ∈ wsJ0_length_8abf5 := by decide +kernel
theorem lkJ_ch_9 : Cond.fieldLink RJ0 9 "java/lang/String" "value" "[B" ∈ wsJ0_charAt_5068e := by decide +kernel
theorem lkJ_ci_1053 : Cond.fieldLink RJ0 1053 "jdk/internal/util/Preconditions" "SIOOBE_FORMATTER" "Ljava/util/function/BiFunction;" ∈ wsJ0_checkIndex_df160 := by decide +kernel
set_option maxHeartbeats 4000000 in
set_option maxRecDepth 100000 in
theorem c_J0_isLatin1 (l : Launch) (a : Nat) (bs : List Int32) : CP l yJ0_isLatin1_aae02 wsJ0_isLatin1_aae02 { frames := 0, cells := 0, slots := 0, locals := 0 } [.ref a] (StrB bs a) 1 := by
  refine Met.ofW (cc := cJ0_isLatin1_aae02) (maxL := 1) (ret := some .boolean) (by decide) rfl ?_
  intro p e s m args below meth c s₁ B hml hv
  obtain ⟨rfl, ⟨hJ, v, hO, hV, hC, hT⟩⟩ := hv
  have hx := B.exec
  have hb := B.bytes
  have hts := atoms_spec (ws := wsJ0_isLatin1_aae02) B.pre
  have hown : s.vm.findClass RJ0 = some m.cls := findClass_of_methodNamed B.named
  have hS : va_S No s.heap s.heap [] := va_S.rf
  have hl := lv_entry ([.ref a]) (n := 1) (Nat.le_of_ble_eq_true rfl)
  rw [lg_entry_eq]
  generalize (lg_sl ([.ref a]) ++ List.replicate (1 - (lg_sl ([.ref a])).length) Slot.unset).toArray = ls at hl ⊢
  have hl : lv_has ls 1 [(0, .ref a)] := hl
  refine va_gets hx hb hJ.1 hS hown (hts _ lkJ_iL_38) (fun _ h => h) dJ0_isLatin1_aae02_0 ?_
  refine lv_if_eq (tgt := 17) hx hb dJ0_isLatin1_aae02_3 (by decide) (fun c => absurd c (by decide)) (fun _ => ?_)
  refine lv_aload_n hx hb dJ0_isLatin1_aae02_6 rfl (lv_at hl 0 rfl) ?_
  refine vk_getf hx hb hC hS hown (hts _ lkJ_iL_15) (fun _ h => h) dJ0_isLatin1_aae02_7 ?_
  refine lv_if_ne (tgt := 17) hx hb dJ0_isLatin1_aae02_10 (by decide) (fun c => absurd rfl c) (fun _ => ?_)
  refine lv_iconst (v := 1) hx hb dJ0_isLatin1_aae02_13 (by decide) ?_
  refine lv_goto (tgt := 18) hx hb dJ0_isLatin1_aae02_14 (by decide) ?_
  exact W.zret hx hb B.returns (by decide) (fun t ht hW => ⟨⟨1, (), rfl, rfl, trivial⟩, hS.F ht⟩) hS.2.2 dJ0_isLatin1_aae02_18 B.notSynchronized
set_option maxHeartbeats 4000000 in
set_option maxRecDepth 100000 in
theorem c_J0_coder (l : Launch) (a : Nat) (bs : List Int32) : CP l yJ0_coder_7d493 wsJ0_coder_7d493 { frames := 0, cells := 0, slots := 0, locals := 0 } [.ref a] (StrB bs a) 0 := by
  refine Met.ofW (cc := cJ0_coder_7d493) (maxL := 1) (ret := some .byte) (by decide) rfl ?_
  intro p e s m args below meth c s₁ B hml hv
  obtain ⟨rfl, ⟨hJ, v, hO, hV, hC, hT⟩⟩ := hv
  have hx := B.exec
  have hb := B.bytes
  have hts := atoms_spec (ws := wsJ0_coder_7d493) B.pre
  have hown : s.vm.findClass RJ0 = some m.cls := findClass_of_methodNamed B.named
  have hS : va_S No s.heap s.heap [] := va_S.rf
  have hl := lv_entry ([.ref a]) (n := 1) (Nat.le_of_ble_eq_true rfl)
  rw [lg_entry_eq]
  generalize (lg_sl ([.ref a]) ++ List.replicate (1 - (lg_sl ([.ref a])).length) Slot.unset).toArray = ls at hl ⊢
  have hl : lv_has ls 1 [(0, .ref a)] := hl
  refine va_gets hx hb hJ.1 hS hown (hts _ lkJ_co_38) (fun _ h => h) dJ0_coder_7d493_0 ?_
  refine lv_if_eq (tgt := 13) hx hb dJ0_coder_7d493_3 (by decide) (fun c => absurd c (by decide)) (fun _ => ?_)
  refine lv_aload_n hx hb dJ0_coder_7d493_6 rfl (lv_at hl 0 rfl) ?_
  refine vk_getf hx hb hC hS hown (hts _ lkJ_co_15) (fun _ h => h) dJ0_coder_7d493_7 ?_
  refine lv_goto (tgt := 14) hx hb dJ0_coder_7d493_10 (by decide) ?_
  exact W.zret hx hb B.returns (by decide) (fun t ht hW => ⟨⟨0, (), rfl, rfl, trivial⟩, hS.F ht⟩) hS.2.2 dJ0_coder_7d493_14 B.notSynchronized
section PURE
variable {p : Program} {l : Launch} {e : Env} {R : Room} {s : State} {m : MethodId} {args : Array Value} {below : List Frame} {meth : Method} {c : Code} {H : Heap} {locs : List Loc} {cells slots : Nat} {Q : State → Prop}
variable {cc : ByteArray} {own : String} {wsl : List Cond} {nL : Nat} {A : Nat → Prop} {y : MethodName} {wsy : List Cond} {rm : Room} {bytes : ByteArray} {maxL index n pc : Nat} {ret : Option FieldType} {ls : Array Slot} {st rest As : List Value} {b : Nat} {B : State → Prop} {r : Int32}
/-- a call of a method that reads constants alone: nothing changes -/
theorem goPV {fs : CallFix p m c cc nL s args wsl own} (hM : CP l y wsy rm (.ref b :: As) B r) {C : String} (cw : CallW R s args own C index y bytes maxL ret wsy rm 0 0 n) (hrecv : ∃ cellB : Cell, H[b]? = some cellB ∧ cellB.vm.isStatics = false ∧ s.vm.findClass C = some cellB.cls) (hbl : ∀ (U : State) (f : JFrame) (mk : MethodId) (a : Array Value), B U → B (U.calling f mk a)) (hB : ∀ U : State, U.heap = H → s.WarmedH U.vm → B U) (hS : va_S A s.heap H locs)
    (hsz : ls.size = nL) (hst : st = As.reverse ++ .ref b :: rest) (hl : As.length = n) (hroom : (rest.map fun v => v.category).sum ≤ 8) (hdg : decode cc pc = .ok (.invokevirtual index, 3)) (hf : cells + 0 ≤ R.cells ∧ slots + 0 ≤ R.slots)
    (kk : ∀ (H1 : Heap) (locs1 : List Loc), H.size ≤ H1.size → (∀ q : Nat, q < H.size → H1[q]? = H[q]?) → va_S A s.heap H1 locs1 → W p l e R s m args below meth c H1 locs1 cells slots Q (F0 m (pc + 3) ls (.int r :: rest))) : W p l e R s m args below meth c H locs cells slots Q (F0 m pc ls st) :=
  va_calli (va_runV (Pc := va_Pc (.ref b :: As) B) fs hM cw ⟨fun a U f mk q => ⟨q.1, hbl U f mk a q.2⟩, hrecv, fun U hU hw => ⟨rfl, hB U hU hw⟩⟩ rfl hl hsz hst (lv_room hroom) hdg hf) hS (fun q _ h => h.elim) (fun q h => h.elim) (fun x u t H1 locs1 ht _ hx _ hz hk hS1 => by
    subst hx
    exact kk H1 locs1 hz (fun q hq => hk q hq (fun z => z)) hS1)
theorem goPS {fs : CallFix p m c cc nL s args wsl own} (hM : CP l y wsy rm As B r) (cw : CallB R s args own index y bytes maxL ret wsy rm 0 0 n ∧ (Cond.static y).before args s = true) (hbl : ∀ (U : State) (f : JFrame) (mk : MethodId) (a : Array Value), B U → B (U.calling f mk a)) (hB : ∀ U : State, U.heap = H → s.WarmedH U.vm → B U) (hS : va_S A s.heap H locs)
    (hsz : ls.size = nL) (hst : st = As.reverse ++ rest) (hl : As.length = n) (hroom : (rest.map fun v => v.category).sum ≤ 8) (hdg : decode cc pc = .ok (.invokestatic index, 3)) (hf : cells + 0 ≤ R.cells ∧ slots + 0 ≤ R.slots)
    (kk : ∀ (H1 : Heap) (locs1 : List Loc), H.size ≤ H1.size → (∀ q : Nat, q < H.size → H1[q]? = H[q]?) → va_S A s.heap H1 locs1 → W p l e R s m args below meth c H1 locs1 cells slots Q (F0 m (pc + 3) ls (.int r :: rest))) : W p l e R s m args below meth c H locs cells slots Q (F0 m pc ls st) :=
  va_calli (va_runS (Pc := va_Pc As B) fs hM cw ⟨fun a U f mk q => ⟨q.1, hbl U f mk a q.2⟩, fun U hU hw => ⟨rfl, hB U hU hw⟩⟩ rfl hl hsz hst (lv_room hroom) hdg hf) hS (fun q _ h => h.elim) (fun q h => h.elim) (fun x u t H1 locs1 ht _ hx _ hz hk hS1 => by
    subst hx
    exact kk H1 locs1 hz (fun q hq => hk q hq (fun z => z)) hS1)
end PURE
theorem StrB.call {bs : List Int32} {a : Nat} (U : State) (f : JFrame) (mk : MethodId) (ar : Array Value) (h : StrB bs a U) : StrB bs a (U.calling f mk ar) :=
  ⟨JS.moved (u := U) (U := U.calling f mk ar) (Vm.Alike.refl U.vm) h.1, StrC.moved (u := U) (U := U.calling f mk ar) (Vm.Alike.refl U.vm) h.2⟩
/-- the constants, as a callee sees them -/
theorem StrB.at {bs : List Int32} {a : Nat} {A : Nat → Prop} {s U : State} {H : Heap} {locs : List Loc} (hJ : JS A s s.heap) (hC : StrC bs a A s s.heap) (hS : va_S A s.heap H locs) (hU : U.heap = H) (hW : s.WarmedH U.vm) : StrB bs a U := by
  rw [StrB, hU]
  exact ⟨((hJ.kept hS.2.1).narrow (fun _ h => h.elim)).moved hW.alike, ((hC.kept hS.2.1).narrow (fun _ h => h.elim)).moved hW.alike⟩
theorem StrC.recv {bs : List Int32} {a : Nat} {A : Nat → Prop} {s : State} {H : Heap} {locs : List Loc} (hC : StrC bs a A s s.heap) (hS : va_S A s.heap H locs) : ∃ cell : Cell, H[a]? = some cell ∧ cell.vm.isStatics = false ∧ s.vm.findClass "java/lang/String" = some cell.cls := by
  obtain ⟨v, hO, -⟩ := hC
  obtain ⟨cell, h1, h2, h3, -⟩ := va_O.kept hO hS.2.1
  exact ⟨cell, h1, h2, h3⟩
set_option maxHeartbeats 4000000 in
set_option maxRecDepth 100000 in
theorem c_J0_length (l : Launch) (a : Nat) (bs : List Int32) : CP l yJ0_length_8abf5 wsJ0_length_8abf5 { frames := 1, cells := 0, slots := 0, locals := 20 } [.ref a] (StrB bs a) (nI bs.length) := by
  refine Met.ofW (cc := cJ0_length_8abf5) (maxL := 1) (ret := some .int) (by decide) rfl ?_
  intro p e s m args below meth c s₁ B hml hv
  obtain ⟨rfl, ⟨hJ, hSt⟩⟩ := hv
  have hSt0 := hSt
  obtain ⟨v, hO, hV, hC, hT⟩ := hSt
  have hx := B.exec
  have hb := B.bytes
  have hts := atoms_spec (ws := wsJ0_length_8abf5) B.pre
  have hown : s.vm.findClass RJ0 = some m.cls := findClass_of_methodNamed B.named
  have hS : va_S No s.heap s.heap [] := va_S.rf
  have hl := lv_entry ([.ref a]) (n := 1) (Nat.le_of_ble_eq_true rfl)
  rw [lg_entry_eq]
  generalize (lg_sl ([.ref a]) ++ List.replicate (1 - (lg_sl ([.ref a])).length) Slot.unset).toArray = ls at hl ⊢
  have hl : lv_has ls 1 [(0, .ref a)] := hl
  refine lv_aload_n hx hb dJ0_length_8abf5_0 rfl (lv_at hl 0 rfl) ?_
  refine vk_getf hx hb hV hS hown (hts _ lkJ_le_9) (fun _ h => h) dJ0_length_8abf5_1 ?_
  refine va_tlen hx hb hT hS (v := nI bs.length) rfl dJ0_length_8abf5_4 ?_
  refine lv_aload_n hx hb dJ0_length_8abf5_5 rfl (lv_at hl 0 rfl) ?_
  refine goPV (fs := ⟨hx, hb, hml, hown, hts⟩) (As := []) (rest := [.int (nI bs.length)]) (c_J0_coder l a bs) (cwV 0 hts gJ0_length_8abf5_J0_coder_7d493 rfl rfl rfl (by decide +kernel) ⟨Nat.le_of_ble_eq_true rfl, Nat.le_of_ble_eq_true rfl⟩) (hSt0.recv hS) (fun U f mk ar h => h.call U f mk ar) (fun U hU hW => StrB.at hJ hSt0 hS hU hW) hS hl.1 rfl rfl (Nat.le_of_ble_eq_true rfl) dJ0_length_8abf5_6 ⟨Nat.zero_le _, Nat.zero_le _⟩ (fun H1 locs1 hz hk hS => ?_)
  refine lv_ishr hx hb dJ0_length_8abf5_9 ?_
  have e1 : (nI bs.length) >>> ((0 : Int32) &&& 31) = nI bs.length := by
    have : ((0 : Int32) &&& 31) = 0 := by decide
    rw [this]
    simp
  rw [e1]
  exact W.iret hx hb B.returns (fun t ht hW => ⟨⟨_, (), rfl, rfl, trivial⟩, hS.F ht⟩) hS.2.2 dJ0_length_8abf5_10 B.notSynchronized
set_option maxHeartbeats 4000000 in
set_option maxRecDepth 100000 in
theorem c_J3_checkIndex (l : Launch) (i n : Int32) (f : Value) (hf : f = .null ∨ ∃ a, f = .ref a) (h0 : ¬ i < 0) (hn : i < n) : CP l yJ3_checkIndex_8e157 wsJ3_checkIndex_8e157 { frames := 0, cells := 0, slots := 0, locals := 0 } [.int i, .int n, f] (fun _ => True) i := by
  refine Met.ofW (cc := cJ3_checkIndex_8e157) (maxL := 3) (ret := some .int) (by decide) rfl ?_
  intro p e s m args below meth c s₁ B hml hv
  obtain ⟨rfl, -⟩ := hv
  have hx := B.exec
  have hb := B.bytes
  have hS : va_S No s.heap s.heap [] := va_S.rf
  have hcat : f.category = 1 := by rcases hf with rfl | ⟨a, rfl⟩ <;> rfl
  have hl := lv_entry ([.int i, .int n, f]) (n := 3) (by rcases hf with rfl | ⟨a, rfl⟩ <;> exact Nat.le_of_ble_eq_true rfl)
  rw [lg_entry_eq]
  generalize (lg_sl ([.int i, .int n, f]) ++ List.replicate (3 - (lg_sl ([.int i, .int n, f])).length) Slot.unset).toArray = ls at hl ⊢
  have hl : lv_has ls 3 [(0, .int i), (1, .int n), (2, f)] := hl
  refine lv_iload_n hx hb dJ3_checkIndex_8e157_0 rfl (lv_at hl 0 rfl) ?_
  refine lv_if_lt (tgt := 9) hx hb dJ3_checkIndex_8e157_1 (by decide) (fun c => absurd c h0) (fun _ => ?_)
  refine lv_iload_n hx hb dJ3_checkIndex_8e157_4 rfl (lv_at hl 0 rfl) ?_
  refine lv_iload_n hx hb dJ3_checkIndex_8e157_5 rfl (lv_at hl 1 rfl) ?_
  refine lv_icmp_lt (tgt := 16) hx hb dJ3_checkIndex_8e157_6 (by decide) (fun _ => ?_) (fun c => absurd hn c)
  refine lv_iload_n hx hb dJ3_checkIndex_8e157_16 rfl (lv_at hl 0 rfl) ?_
  exact W.iret hx hb B.returns (fun t ht hW => ⟨⟨_, (), rfl, rfl, trivial⟩, hS.F ht⟩) hS.2.2 dJ3_checkIndex_8e157_17 B.notSynchronized
