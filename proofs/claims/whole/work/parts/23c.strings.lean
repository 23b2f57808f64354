/-! String.checkIndex, StringLatin1.charAt, String.charAt -/
/-- a place of a text that is there -/
theorem ix_nI {i : Int32} {N : Nat} (hN : N < 2 ^ 31) (h : ¬ (i < 0 ∨ N ≤ i.toNatClampNeg)) : i < nI N := by
  obtain ⟨j, hj, rfl⟩ := vp_in_of h hN
  exact nI_lt hj hN
set_option maxHeartbeats 4000000 in
set_option maxRecDepth 100000 in
theorem c_J0_checkIndex (l : Launch) (i n : Int32) (h0 : ¬ i < 0) (hn : i < n) : Met l yJ0_checkIndex_df160 wsJ0_checkIndex_df160 { frames := 1, cells := 0, slots := 0, locals := 22 } (va_Pc [.int i, .int n] (fun U => JS No U U.heap)) (va_Qv (S := Unit) (fun _ => True) (fun _ _ => True) No) 0 0 No := by
  refine Met.ofW (cc := cJ0_checkIndex_df160) (maxL := 2) (ret := none) (by decide) rfl ?_
  intro p e s m args below meth c s₁ B hml hv
  obtain ⟨rfl, hJ⟩ := hv
  have hx := B.exec
  have hb := B.bytes
  have hts := atoms_spec (ws := wsJ0_checkIndex_df160) B.pre
  have hown : s.vm.findClass RJ0 = some m.cls := findClass_of_methodNamed B.named
  have hS : va_S No s.heap s.heap [] := va_S.rf
  have hl := lv_entry ([.int i, .int n]) (n := 2) (Nat.le_of_ble_eq_true rfl)
  rw [lg_entry_eq]
  generalize (lg_sl ([.int i, .int n]) ++ List.replicate (2 - (lg_sl ([.int i, .int n])).length) Slot.unset).toArray = ls at hl ⊢
  have hl : lv_has ls 2 [(0, .int i), (1, .int n)] := hl
  refine lv_iload_n hx hb dJ0_checkIndex_df160_0 rfl (lv_at hl 0 rfl) ?_
  refine lv_iload_n hx hb dJ0_checkIndex_df160_1 rfl (lv_at hl 1 rfl) ?_
  have go : ∀ (f : Value) (_ : f = .null ∨ ∃ a, f = .ref a), W p l e (headSpec wsJ0_checkIndex_df160 { frames := 1, cells := 0, slots := 0, locals := 22 }).room s m #[.int i, .int n] below meth c s.heap [] 0 0 (MQ below (va_Qv (S := Unit) (fun _ => True) (fun _ _ => True) No) #[.int i, .int n] s 0 0 No) (F0 m 5 ls [f, .int n, .int i]) := by
    intro f hf
    refine goPS (fs := ⟨hx, hb, hml, hown, hts⟩) (As := [.int i, .int n, f]) (rest := []) (c_J3_checkIndex l i n f hf h0 hn) (va_cwS 3 hts gJ0_checkIndex_df160_J3_checkIndex_8e157 rfl rfl rfl (by decide +kernel) ⟨Nat.le_of_ble_eq_true rfl, Nat.le_of_ble_eq_true rfl⟩) (fun _ _ _ _ h => h) (fun _ _ _ => trivial) hS hl.1 rfl rfl (Nat.le_of_ble_eq_true rfl) dJ0_checkIndex_df160_5 ⟨Nat.zero_le _, Nat.zero_le _⟩ (fun H1 locs1 hz hk hS => ?_)
    refine lv_pop hx hb dJ0_checkIndex_df160_8 rfl ?_
    exact W.vret hx hb B.returns (fun t ht hW => ⟨⟨(), rfl, trivial, trivial⟩, hS.F ht⟩) hS.2.2 dJ0_checkIndex_df160_9 B.notSynchronized
  rcases hJ.2 with hZ | ⟨a, hZ⟩
  · exact va_gets hx hb hZ hS hown (hts _ lkJ_ci_1053) (fun _ h => h) dJ0_checkIndex_df160_2 (go _ (Or.inl rfl))
  · exact va_gets hx hb hZ hS hown (hts _ lkJ_ci_1053) (fun _ h => h) dJ0_checkIndex_df160_2 (go _ (Or.inr ⟨a, rfl⟩))
/-- the character at a place of Latin-1 bytes -/
def chAt (bs : List Int32) (i : Int32) : Int32 := ((((bs.getD i.toNatClampNeg 0) &&& 255 : Int32)).toUInt32 % 65536).toInt32
theorem chAt_fit (bs : List Int32) (i : Int32) : narrow .char (.int (chAt bs i)) = .int (chAt bs i) := pk_nc _
def BytB (bs : List Int32) (v : Nat) (U : State) : Prop := JS No U U.heap ∧ va_T .byte v bs.length (fun j => .int (bs.getD j 0)) No U U.heap
theorem BytB.call {bs : List Int32} {a : Nat} (U : State) (f : JFrame) (mk : MethodId) (ar : Array Value) (h : BytB bs a U) : BytB bs a (U.calling f mk ar) :=
  ⟨JS.moved (u := U) (U := U.calling f mk ar) (Vm.Alike.refl U.vm) h.1, va_T.moved (u := U) (U := U.calling f mk ar) (Vm.Alike.refl U.vm) h.2⟩
theorem JS.call (U : State) (f : JFrame) (mk : MethodId) (ar : Array Value) (h : JS No U U.heap) : JS No (U.calling f mk ar) (U.calling f mk ar).heap := JS.moved (u := U) (U := U.calling f mk ar) (Vm.Alike.refl U.vm) h
set_option maxHeartbeats 4000000 in
set_option maxRecDepth 100000 in
theorem c_J1_charAt (l : Launch) (v : Nat) (bs : List Int32) (i : Int32) (hN : bs.length < 2 ^ 31) (hi : ¬ (i < 0 ∨ bs.length ≤ i.toNatClampNeg)) : CP l yJ1_charAt_3b067 wsJ1_charAt_3b067 { frames := 2, cells := 0, slots := 0, locals := 43 } [.ref v, .int i] (BytB bs v) (chAt bs i) := by
  refine Met.ofW (cc := cJ1_charAt_3b067) (maxL := 2) (ret := some .char) (by decide) rfl ?_
  intro p e s m args below meth c s₁ B hml hv
  obtain ⟨rfl, hJ, hT⟩ := hv
  have hx := B.exec
  have hb := B.bytes
  have hts := atoms_spec (ws := wsJ1_charAt_3b067) B.pre
  have hown : s.vm.findClass RJ1 = some m.cls := findClass_of_methodNamed B.named
  have hS : va_S No s.heap s.heap [] := va_S.rf
  have hl := lv_entry ([.ref v, .int i]) (n := 2) (Nat.le_of_ble_eq_true rfl)
  rw [lg_entry_eq]
  generalize (lg_sl ([.ref v, .int i]) ++ List.replicate (2 - (lg_sl ([.ref v, .int i])).length) Slot.unset).toArray = ls at hl ⊢
  have hl : lv_has ls 2 [(0, .ref v), (1, .int i)] := hl
  refine lv_iload_n hx hb dJ1_charAt_3b067_0 rfl (lv_at hl 1 rfl) ?_
  refine lv_aload_n hx hb dJ1_charAt_3b067_1 rfl (lv_at hl 0 rfl) ?_
  refine va_tlen hx hb hT hS (v := nI bs.length) rfl dJ1_charAt_3b067_2 ?_
  refine va_callv (va_runS (As := [.int i, .int (nI bs.length)]) (rest := []) (Pc := va_Pc [.int i, .int (nI bs.length)] (fun U => JS No U U.heap)) ⟨hx, hb, hml, hown, hts⟩ (c_J0_checkIndex l i (nI bs.length) (fun h => hi (Or.inl h)) (ix_nI hN hi)) (va_cwS 2 hts gJ1_charAt_3b067_J0_checkIndex_df160 rfl rfl rfl (by decide +kernel) ⟨Nat.le_of_ble_eq_true rfl, Nat.le_of_ble_eq_true rfl⟩) ⟨fun a U f mk q => ⟨q.1, JS.call U f mk a q.2⟩, fun U hU hw => ⟨rfl, by show JS No U U.heap; rw [hU]; exact hJ.moved hw.alike⟩⟩ rfl rfl hl.1 rfl (lv_room (Nat.le_of_ble_eq_true rfl)) dJ1_charAt_3b067_3 ⟨Nat.zero_le _, Nat.zero_le _⟩) hS (fun q _ h => h.elim) (fun q h => h.elim) (fun u t H1 locs1 ht _ _ _ hz hk hS => ?_)
  refine lv_aload_n hx hb dJ1_charAt_3b067_6 rfl (lv_at hl 0 rfl) ?_
  refine lv_iload_n hx hb dJ1_charAt_3b067_7 rfl (lv_at hl 1 rfl) ?_
  refine va_tb hx hb hT hS hi (v := .int (bs.getD i.toNatClampNeg 0)) rfl dJ1_charAt_3b067_8 ?_
  refine lv_sipush (v := 255) hx hb dJ1_charAt_3b067_9 (by decide) ?_
  refine lv_iand hx hb dJ1_charAt_3b067_12 ?_
  refine lv_i2c (v := chAt bs i) hx hb dJ1_charAt_3b067_13 rfl ?_
  exact W.zret hx hb B.returns (chAt_fit bs i) (fun t ht hW => ⟨⟨_, (), rfl, rfl, trivial⟩, hS.F ht⟩) hS.2.2 dJ1_charAt_3b067_14 B.notSynchronized
set_option maxHeartbeats 4000000 in
set_option maxRecDepth 100000 in
theorem c_J0_charAt (l : Launch) (a : Nat) (bs : List Int32) (i : Int32) (hN : bs.length < 2 ^ 31) (hi : ¬ (i < 0 ∨ bs.length ≤ i.toNatClampNeg)) : CP l yJ0_charAt_5068e wsJ0_charAt_5068e { frames := 3, cells := 0, slots := 0, locals := 64 } [.ref a, .int i] (StrB bs a) (chAt bs i) := by
  refine Met.ofW (cc := cJ0_charAt_5068e) (maxL := 2) (ret := some .char) (by decide) rfl ?_
  intro p e s m args below meth c s₁ B hml hv
  obtain ⟨rfl, hJ, hSt⟩ := hv
  have hSt0 := hSt
  obtain ⟨v, hO, hV, hC, hT⟩ := hSt
  have hx := B.exec
  have hb := B.bytes
  have hts := atoms_spec (ws := wsJ0_charAt_5068e) B.pre
  have hown : s.vm.findClass RJ0 = some m.cls := findClass_of_methodNamed B.named
  have hS : va_S No s.heap s.heap [] := va_S.rf
  have hl := lv_entry ([.ref a, .int i]) (n := 2) (Nat.le_of_ble_eq_true rfl)
  rw [lg_entry_eq]
  generalize (lg_sl ([.ref a, .int i]) ++ List.replicate (2 - (lg_sl ([.ref a, .int i])).length) Slot.unset).toArray = ls at hl ⊢
  have hl : lv_has ls 2 [(0, .ref a), (1, .int i)] := hl
  refine lv_aload_n hx hb dJ0_charAt_5068e_0 rfl (lv_at hl 0 rfl) ?_
  refine goPV (fs := ⟨hx, hb, hml, hown, hts⟩) (As := []) (rest := []) (c_J0_isLatin1 l a bs) (cwV 0 hts gJ0_charAt_5068e_J0_isLatin1_aae02 rfl rfl rfl (by decide +kernel) ⟨Nat.le_of_ble_eq_true rfl, Nat.le_of_ble_eq_true rfl⟩) (hSt0.recv hS) (fun U f mk ar h => h.call U f mk ar) (fun U hU hW => StrB.at hJ hSt0 hS hU hW) hS hl.1 rfl rfl (Nat.le_of_ble_eq_true rfl) dJ0_charAt_5068e_1 ⟨Nat.zero_le _, Nat.zero_le _⟩ (fun H1 locs1 hz hk hS => ?_)
  refine lv_if_eq (tgt := 16) hx hb dJ0_charAt_5068e_4 (by decide) (fun c => absurd c (by decide)) (fun _ => ?_)
  refine lv_aload_n hx hb dJ0_charAt_5068e_7 rfl (lv_at hl 0 rfl) ?_
  refine vk_getf hx hb hV hS hown (hts _ lkJ_ch_9) (fun _ h => h) dJ0_charAt_5068e_8 ?_
  refine lv_iload_n hx hb dJ0_charAt_5068e_11 rfl (lv_at hl 1 rfl) ?_
  refine goPS (fs := ⟨hx, hb, hml, hown, hts⟩) (As := [.ref v, .int i]) (rest := []) (c_J1_charAt l v bs i hN hi) (va_cwS 2 hts gJ0_charAt_5068e_J1_charAt_3b067 rfl rfl rfl (by decide +kernel) ⟨Nat.le_of_ble_eq_true rfl, Nat.le_of_ble_eq_true rfl⟩) (fun U f mk ar h => h.call U f mk ar) (fun U hU hw => by rw [BytB, hU]; exact ⟨((hJ.kept hS.2.1).narrow (fun _ h => h.elim)).moved hw.alike, ((va_T.kept hT hS.2.1).narrow (fun _ h => h.elim)).moved hw.alike⟩) hS hl.1 rfl rfl (Nat.le_of_ble_eq_true rfl) dJ0_charAt_5068e_12 ⟨Nat.zero_le _, Nat.zero_le _⟩ (fun H2 locs2 hz2 hk2 hS => ?_)
  exact W.zret hx hb B.returns (chAt_fit bs i) (fun t ht hW => ⟨⟨_, (), rfl, rfl, trivial⟩, hS.F ht⟩) hS.2.2 dJ0_charAt_5068e_15 B.notSynchronized
