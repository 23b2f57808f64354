/-! exceptions: what a throw wants of the tables, contracts of methods that may throw, calls of them -/
def exN : Nat → String
  | 1 => "java/lang/IndexOutOfBoundsException"
  | 2 => "java/lang/IllegalArgumentException"
  | 3 => "java/lang/IllegalStateException"
  | 4 => "java/util/NoSuchElementException"
  | _ => "java/lang/ArithmeticException"
abbrev exNm : List String := ["java/lang/RuntimeException", "java/lang/Exception"]
def exW : List Cond := [.declares (Bundle.initS "java/lang/RuntimeException"), .declares (Bundle.initS "java/lang/Exception"), .declares (Bundle.initS "java/lang/Throwable"), .castable "java/lang/IndexOutOfBoundsException" "java/lang/IndexOutOfBoundsException", .castable "java/lang/IllegalArgumentException" "java/lang/IllegalArgumentException", .castable "java/lang/IllegalStateException" "java/lang/IllegalStateException", .castable "java/util/NoSuchElementException" "java/util/NoSuchElementException", .castable "java/lang/ArithmeticException" "java/lang/ArithmeticException"]
theorem exW_tab : ∀ w ∈ exW, w.onTables = true := by decide +kernel
theorem exW_two : ∀ w ∈ exW, (∃ x : MethodName, w = .declares x) ∨ ∃ C T : String, w = .castable C T := by
  intro w hw
  simp only [exW, List.mem_cons, List.not_mem_nil, or_false] at hw
  rcases hw with rfl | rfl | rfl | rfl | rfl | rfl | rfl | rfl
  · exact Or.inl ⟨_, rfl⟩
  · exact Or.inl ⟨_, rfl⟩
  · exact Or.inl ⟨_, rfl⟩
  · exact Or.inr ⟨_, _, rfl⟩
  · exact Or.inr ⟨_, _, rfl⟩
  · exact Or.inr ⟨_, _, rfl⟩
  · exact Or.inr ⟨_, _, rfl⟩
  · exact Or.inr ⟨_, _, rfl⟩
def EX (l : Launch) (U : State) : Prop := l.stackTraces = false ∧ (∀ w ∈ exW, w.before #[] U = true) ∧ va_Nc (exN 2) (exN 1) U ∧ va_Nc (exN 3) (exN 2) U ∧ va_Nc (exN 4) (exN 1) U
theorem EX.same {l : Launch} {u U : State} (h : u.vm = U.vm) (hZ : EX l u) : EX l U := by
  obtain ⟨h1, h2, h3, h4, h5⟩ := hZ
  have ha : u.vm.Alike U.vm := by rw [h]; exact Vm.Alike.refl U.vm
  exact ⟨h1, fun w hw => va_Nw.same (exW_tab w hw) h (h2 w hw), h3.moved ha, h4.moved ha, h5.moved ha⟩
theorem EX.warm {l : Launch} {s U : State} (hW : s.WarmedH U.vm) (hZ : EX l s) : EX l U := by
  obtain ⟨h1, h2, h3, h4, h5⟩ := hZ
  refine ⟨h1, fun w hw => ?_, h3.moved hW.alike, h4.moved hW.alike, h5.moved hW.alike⟩
  rcases exW_two w hw with ⟨x, rfl⟩ | ⟨C, T, rfl⟩
  · exact va_tabs rfl (rfl : (s.setVm U.vm).vm = U.vm) (by rw [Cond.declares_setVm hW.alike]; exact h2 _ hw)
  · exact va_Nw.warmC hW (h2 _ hw)
def PreT (l : Launch) (g : GE) (z : ZE) (av : List Value) (sz : Nat) (ws : va_W) : Array Value → State → Prop := va_Pc av (fun U => ((U.heap.size = sz ∧ va_P g.1 vwCl ws U.heap ∧ KK g U ∧ va_D (fun _ => True) ws) ∧ KS z U ∧ CS z (va_A ws sz) U U.heap) ∧ EX l U)
theorem PreT.blind {l : Launch} {g : GE} {z : ZE} {av : List Value} {sz : Nat} {ws : va_W} : FrameBlind (PreT l g z av sz ws) := fun a U f mk q => by
  obtain ⟨q0, ⟨⟨q1, qP, qK, qD⟩, qs, qc⟩, qx⟩ := q
  exact ⟨q0, ⟨⟨q1, qP, KK.same (u := U) (U := U.calling f mk a) rfl qK, qD⟩, KS.same (u := U) (U := U.calling f mk a) rfl qs, CS.moved (u := U) (U := U.calling f mk a) (Vm.Alike.refl U.vm) qc⟩, EX.same (u := U) (U := U.calling f mk a) rfl qx⟩
theorem PreT.of {l : Launch} {g : GE} {z : ZE} {av : List Value} {A A0 : Nat → Prop} {ws : va_W} {s U : State} {H : Heap} {locs : List Loc} (hU : U.heap = H) (hW : s.WarmedH U.vm) (hP : va_P g.1 vwCl ws H) (hK : KK g s) (hD : va_D A ws) (hz : KS z s) (hC : CS z A0 s s.heap) (hX : EX l s) (hS : va_S A0 s.heap H locs) (hF : ∀ q, va_A ws H.size q → A0 q) : PreT l g z av H.size ws av.toArray U :=
  ⟨rfl, ⟨⟨by rw [hU], by rw [hU]; exact hP, hK.warm hW, hD.weaken (fun _ _ _ _ => trivial)⟩, hz.warm hW, by rw [hU]; exact ((hC.kept hS.2.1).narrow hF).moved hW.alike⟩, hX.warm hW⟩
abbrev XCt (g : GE) (A : Nat → Prop) (ws1 : va_W) (k : Nat) : String → State → State → Prop := vx_X (S := Unit) (fun _ => k ≠ 0) (fun E _ t => E = exN k ∧ EndB g ws1 t) A
abbrev QtI (g : GE) (A : Nat → Prop) (ws1 : va_W) (k : Nat) (r : Int32) := va_Qi (S := Unit) (fun x _ => k = 0 ∧ x = r) (fun _ t => EndB g ws1 t) A
abbrev QtJ (g : GE) (A : Nat → Prop) (ws1 : va_W) (k : Nat) (r : Int64) := va_Ql (S := Unit) (fun x _ => k = 0 ∧ x = r) (fun _ t => EndB g ws1 t) A
abbrev QtD (g : GE) (A : Nat → Prop) (ws1 : va_W) (k : Nat) (r : UInt64) := va_Qd (S := Unit) (fun x _ => k = 0 ∧ x = r) (fun _ t => EndB g ws1 t) A
abbrev QtF (g : GE) (A : Nat → Prop) (ws1 : va_W) (k : Nat) (r : UInt32) := va_Qf (S := Unit) (fun x _ => k = 0 ∧ x = r) (fun _ t => EndB g ws1 t) A
abbrev QtV (g : GE) (A : Nat → Prop) (ws1 : va_W) (k : Nat) := va_Qv (S := Unit) (fun _ => k = 0) (fun _ t => EndB g ws1 t) A
def TI (l : Launch) (y : MethodName) (wsl : List Cond) (rm : Room) (g : GE) (z : ZE) (av : List Value) (ws ws1 : va_W) (k : Nat) (r : Int32) (mc ms : Nat) : Prop := ∀ sz : Nat, vx_Met l y wsl rm (PreT l g z av sz ws) (QtI g (va_A ws sz) ws1 k r) (XCt g (va_A ws sz) ws1 k) mc ms (va_A ws sz)
def TJ (l : Launch) (y : MethodName) (wsl : List Cond) (rm : Room) (g : GE) (z : ZE) (av : List Value) (ws ws1 : va_W) (k : Nat) (r : Int64) (mc ms : Nat) : Prop := ∀ sz : Nat, vx_Met l y wsl rm (PreT l g z av sz ws) (QtJ g (va_A ws sz) ws1 k r) (XCt g (va_A ws sz) ws1 k) mc ms (va_A ws sz)
def TD (l : Launch) (y : MethodName) (wsl : List Cond) (rm : Room) (g : GE) (z : ZE) (av : List Value) (ws ws1 : va_W) (k : Nat) (r : UInt64) (mc ms : Nat) : Prop := ∀ sz : Nat, vx_Met l y wsl rm (PreT l g z av sz ws) (QtD g (va_A ws sz) ws1 k r) (XCt g (va_A ws sz) ws1 k) mc ms (va_A ws sz)
def TF (l : Launch) (y : MethodName) (wsl : List Cond) (rm : Room) (g : GE) (z : ZE) (av : List Value) (ws ws1 : va_W) (k : Nat) (r : UInt32) (mc ms : Nat) : Prop := ∀ sz : Nat, vx_Met l y wsl rm (PreT l g z av sz ws) (QtF g (va_A ws sz) ws1 k r) (XCt g (va_A ws sz) ws1 k) mc ms (va_A ws sz)
def TV (l : Launch) (y : MethodName) (wsl : List Cond) (rm : Room) (g : GE) (z : ZE) (av : List Value) (ws ws1 : va_W) (k : Nat) (mc ms : Nat) : Prop := ∀ sz : Nat, vx_Met l y wsl rm (PreT l g z av sz ws) (QtV g (va_A ws sz) ws1 k) (XCt g (va_A ws sz) ws1 k) mc ms (va_A ws sz)
section TROWS
variable {p : Program} {l : Launch} {e : Env} {R : Room} {s : State} {m : MethodId} {args : Array Value} {below : List Frame} {meth : Method} {c : Code} {H : Heap} {locs : List Loc} {cells slots : Nat} {Q : State → Prop}
variable {cc : ByteArray} {own : String} {wsl : List Cond} {nL : Nat} {rt : Option FieldType} {g : GE} {z : ZE} {A : Nat → Prop} {world wc w1 world' : va_W} {is : List Nat}
variable {y : MethodName} {wsy : List Cond} {rm : Room} {bytes : ByteArray} {maxL index n pc : Nat} {ret : Option FieldType} {ls : Array Slot} {st rest As : List Value} {b mc ms mc1 ms1 k : Nat} {Qc : Array Value → State → Outcome → State → Prop}
theorem wThrow {tx : String} {ik ix ic : Nat} {ws1 : va_W} (E : En cc own wsl nL rt p s m args meth c) (hz : KS z s) (hC : CS z A s s.heap) (hX : EX l s) (hT : ∀ x ∈ c.exceptionTable.toList, False) (hk0 : k ≠ 0) (hcls : Bundle.fit (exN k) = true)
    (hk : Cond.classLink own ik (exN k) ∈ wsl) (hini : Cond.initialized (exN k) ∈ wsl) (hs : ((own, ix, tx) : String × Nat × String) ∈ strL) (hat : ∀ w ∈ (vx_atS own ic (exN k) exNm).filter goodWord, w ∈ wsl) (hng : ∀ w ∈ (vx_atS own ic (exN k) exNm).filter (fun w => !goodWord w), w ∈ exW)
    (hgood : ∀ w ∈ Cond.classLink own ik (exN k) :: Cond.initialized (exN k) :: vx_atS own ic (exN k) exNm, vx_ot w = true)
    (hW : Wo g A s H locs ws1) (hsz : ls.size = nL) (d0 : decode cc pc = .ok (.new ik, 3)) (d3 : decode cc (pc + 3) = .ok (.dup, 1)) (d4 : decode cc (pc + 4) = .ok (.ldc ix, 2)) (d6 : decode cc (pc + 6) = .ok (.invokespecial ic, 3)) (d9 : decode cc (pc + 9) = .ok (.athrow, 1))
    (hR : 5 < R.frames) (hRl : (rest.map fun v => v.category).sum + 82 ≤ R.locals) (hRc : cells + 1 ≤ R.cells) (hRs : slots + 6 ≤ R.slots) (hc : cells + 1 ≤ mc) (hms : slots + 6 ≤ ms) :
    W p l e R s m args below meth c H locs cells slots (vx_MQ below Qc (XCt g A ws1 k) args s mc ms A) (F0 m pc ls rest) := by
  obtain ⟨hx, hb, hr, hts, hown, hlocks, hml⟩ := E
  refine vx_throwS (names := exNm) hx hb hX.1 hown hcls (by decide +kernel) (hts _ hk) (hts _ hini) (hz _ hs) (vx_hat (fun w hw => hts w (hat w hw)) hng (fun w hw => va_Nw.use (exW_tab w hw) (hX.2.1 w hw))) hgood hC.2.1.1 hC.2.1.2 hW.2.2 (hsz.trans hml.symm) d0 d3 d4 d6 d9 (fun x hx => (hT x hx).elim) hR hRl hRc hRs hlocks (fun t _ h1 h2 => ⟨(), hk0, ⟨rfl, hW.1.kept (fun j q hq => h2 q.1 (hW.1 j q hq).lt)⟩, ?_⟩) hW.2.2.2.2 hc hms
  exact ⟨Nat.le_trans hW.2.2.1 h1, fun q h3 h4 => (h2 q (Nat.lt_of_lt_of_le h3 hW.2.2.1)).trans (hW.2.2.2.1 q h3 h4)⟩
theorem wThrowW {tx : String} {ik ix ic : Nat} {ws1 : va_W} (E : En cc own wsl nL rt p s m args meth c) (hz : KS z s) (hC : CS z A s s.heap) (hX : EX l s) (hT : ∀ x ∈ c.exceptionTable.toList, False) (hk0 : k ≠ 0) (hcls : Bundle.fit (exN k) = true)
    (hk : Cond.classLink own ik (exN k) ∈ wsl) (hini : Cond.initialized (exN k) ∈ wsl) (hs : ((own, ix, tx) : String × Nat × String) ∈ strL) (hat : ∀ w ∈ (vx_atS own ic (exN k) exNm).filter goodWord, w ∈ wsl) (hng : ∀ w ∈ (vx_atS own ic (exN k) exNm).filter (fun w => !goodWord w), w ∈ exW)
    (hgood : ∀ w ∈ Cond.classLink own ik (exN k) :: Cond.initialized (exN k) :: vx_atS own ic (exN k) exNm, vx_ot w = true)
    (hW : Wo g A s H locs ws1) (hsz : ls.size = nL) (d0 : decode cc pc = .ok (.new ik, 3)) (d3 : decode cc (pc + 3) = .ok (.dup, 1)) (d4 : decode cc (pc + 4) = .ok (.ldc_w ix, 3)) (d7 : decode cc (pc + 7) = .ok (.invokespecial ic, 3)) (d10 : decode cc (pc + 10) = .ok (.athrow, 1))
    (hR : 5 < R.frames) (hRl : (rest.map fun v => v.category).sum + 82 ≤ R.locals) (hRc : cells + 1 ≤ R.cells) (hRs : slots + 6 ≤ R.slots) (hc : cells + 1 ≤ mc) (hms : slots + 6 ≤ ms) :
    W p l e R s m args below meth c H locs cells slots (vx_MQ below Qc (XCt g A ws1 k) args s mc ms A) (F0 m pc ls rest) := by
  obtain ⟨hx, hb, hr, hts, hown, hlocks, hml⟩ := E
  refine vx_throwSW (names := exNm) hx hb hX.1 hown hcls (by decide +kernel) (hts _ hk) (hts _ hini) (hz _ hs) (vx_hat (fun w hw => hts w (hat w hw)) hng (fun w hw => va_Nw.use (exW_tab w hw) (hX.2.1 w hw))) hgood hC.2.1.1 hC.2.1.2 hW.2.2 (hsz.trans hml.symm) d0 d3 d4 d7 d10 (fun x hx => (hT x hx).elim) hR hRl hRc hRs hlocks (fun t _ h1 h2 => ⟨(), hk0, ⟨rfl, hW.1.kept (fun j q hq => h2 q.1 (hW.1 j q hq).lt)⟩, ?_⟩) hW.2.2.2.2 hc hms
  exact ⟨Nat.le_trans hW.2.2.1 h1, fun q h3 h4 => (h2 q (Nat.lt_of_lt_of_le h3 hW.2.2.1)).trans (hW.2.2.2.1 q h3 h4)⟩
/-- not caught here -/
theorem wOut {ws1 : va_W} {q : Addr} {ce : Cell} (E : En cc own wsl nL rt p s m args meth c) (hT : ∀ x ∈ c.exceptionTable.toList, False) (hk0 : k ≠ 0) (hW : Wo g A s H locs ws1) (hcell : H[q]? = some ce) (hv : ce.vm = .none) (hcl : s.vm.findClass (exN k) = some ce.cls) (hc : cells ≤ mc) (hms : slots ≤ ms) :
    vx_W p l e R s m args below meth c H locs cells slots (vx_MQ below Qc (XCt g A ws1 k) args s mc ms A) (F0 m pc ls rest) q :=
  vx_out (E := exN k) (fun x hx => (hT x hx).elim) E.2.2.2.2.2.1 hcell hv hcl (fun t ht _ => ⟨(), hk0, ⟨rfl, by show va_P _ _ _ t.heap; rw [ht]; exact hW.1⟩, hW.2.2.F ht⟩) hW.2.2.2.2 hc hms
theorem goVT {Qc : Array Value → State → Outcome → State → Prop} {XC : String → State → State → Prop} (E : En cc own wsl nL rt p s m args meth c) (hK : KK g s) (hz : KS z s) (hC : CS z A s s.heap) (hX : EX l s) (hA : ∀ q, s.heap.size ≤ q → A q) (hW : Wo g A s H locs world) (is : List Nat) (hs : is.map (fun i => world[i]?) = wc.map some) (hn : va_nd is = true)
    (hM : vx_Met l y wsy rm (PreT l g z (.ref b :: As) H.size wc) Qc XC mc1 ms1 (va_A wc H.size)) {C : String} (cw : CallW R s args own C index y bytes maxL ret wsy rm mc1 ms1 n) {q : vw_C} {fs : List Value} {ci : Nat} (q0 : Nat) (he : wc[q0]? = some (b, .inr (ci, fs))) (hc : vwCl[ci]? = some q) (hCC : q.1 = C)
    (hsz : ls.size = nL) (hst : st = As.reverse ++ .ref b :: rest) (hl : As.length = n) (hroom : (rest.map fun v => v.category).sum ≤ 8) (hdg : decode cc pc = .ok (.invokevirtual index, 3)) (hf : cells + mc1 ≤ R.cells ∧ slots + ms1 ≤ R.slots) :
    vx_Run p l e R s m args below meth c H locs cells slots mc1 ms1 (F0 m pc ls st) rest (Qc (Value.ref b :: As).toArray) XC (va_A wc H.size) := by
  obtain ⟨hx, hb, hr, hts, hown, hlocks, hml⟩ := E
  subst hCC
  exact vx_runV ⟨hx, hb, hml, hown, hts⟩ hM cw ⟨PreT.blind, va_recv hK.1 (hW.subP hs) hc he, fun U hU hw => PreT.of hU hw (hW.subP hs) hK (hW.subD hs hn) hz hC hX hW.2.2 (hW.free hA hs)⟩ rfl hl hsz hst (lv_room hroom) hdg hf
theorem goST {Qc : Array Value → State → Outcome → State → Prop} {XC : String → State → State → Prop} (E : En cc own wsl nL rt p s m args meth c) (hK : KK g s) (hz : KS z s) (hC : CS z A s s.heap) (hX : EX l s) (hA : ∀ q, s.heap.size ≤ q → A q) (hW : Wo g A s H locs world) (is : List Nat) (hs : is.map (fun i => world[i]?) = wc.map some) (hn : va_nd is = true)
    (hM : vx_Met l y wsy rm (PreT l g z As H.size wc) Qc XC mc1 ms1 (va_A wc H.size)) (cw : CallB R s args own index y bytes maxL ret wsy rm mc1 ms1 n ∧ (Cond.static y).before args s = true)
    (hsz : ls.size = nL) (hst : st = As.reverse ++ rest) (hl : As.length = n) (hroom : (rest.map fun v => v.category).sum ≤ 8) (hdg : decode cc pc = .ok (.invokestatic index, 3)) (hf : cells + mc1 ≤ R.cells ∧ slots + ms1 ≤ R.slots) :
    vx_Run p l e R s m args below meth c H locs cells slots mc1 ms1 (F0 m pc ls st) rest (Qc As.toArray) XC (va_A wc H.size) := by
  obtain ⟨hx, hb, hr, hts, hown, hlocks, hml⟩ := E
  exact vx_runS ⟨hx, hb, hml, hown, hts⟩ hM cw ⟨PreT.blind, fun U hU hw => PreT.of hU hw (hW.subP hs) hK (hW.subD hs hn) hz hC hX hW.2.2 (hW.free hA hs)⟩ rfl hl hsz hst (lv_room hroom) hdg hf
theorem goTI {r : Int32} {av : List Value} (hW : Wo g A s H locs world) (hA : ∀ q, s.heap.size ≤ q → A q) (hs : is.map (fun i => world[i]?) = wc.map some)
    (hR : vx_Run p l e R s m args below meth c H locs cells slots mc1 ms1 (F0 m pc ls st) rest (QtI g (va_A wc H.size) w1 k r av.toArray) (XCt g (va_A wc H.size) w1 k) (va_A wc H.size)) (hadr : w1.map Prod.fst = wc.map Prod.fst) (hnew : putW world is w1 = world')
    (kx : k ≠ 0 → ∀ (q : Addr) (ce : Cell) (H : Heap) (locs : List Loc), Wo g A s H locs world' → H[q]? = some ce → ce.vm = .none → s.vm.findClass (exN k) = some ce.cls → vx_W p l e R s m args below meth c H locs (cells + mc1) (slots + ms1) Q (F0 m pc ls rest) q)
    (kk : k = 0 → ∀ (H : Heap) (locs : List Loc), Wo g A s H locs world' → W p l e R s m args below meth c H locs (cells + mc1) (slots + ms1) Q (F0 m (pc + 3) ls (.int r :: rest))) : W p l e R s m args below meth c H locs cells slots Q (F0 m pc ls st) :=
  vx_calli hR hW.2.2 (fun q _ h => hW.free hA hs q h) (hW.free hA hs) (fun q _ h => hW.free hA hs q h) (fun E ce q9 u t H1 locs1 ht _ hx hB _ hk hS hce hcv hcl => kx hx q9 ce H1 locs1 (goOn hW hA hs hnew hadr ht hB.2 hk hS) hce hcv (hB.1 ▸ hcl)) (fun x u t H1 locs1 ht _ hx hB _ hk hS => hx.2 ▸ kk hx.1 H1 locs1 (goOn hW hA hs hnew hadr ht hB hk hS))
theorem endTI {ws1 : va_W} {XC : String → State → State → Prop} {r : Int32} {fty : FieldType} (E : En cc own wsl nL (some fty) p s m args meth c) (hn : narrow fty (.int r) = .int r) (hW : Wo g A s H locs ws1) (hdg : decode cc pc = .ok (.ireturn, 1)) : W p l e R s m args below meth c H locs cells slots (vx_MQ below (QtI g A ws1 0 r) XC args s cells slots A) (F0 m pc ls [.int r]) := by
  obtain ⟨hx, hb, hr, hts, hown, hlocks, hml⟩ := E
  exact vx_ret (W.zret hx hb hr hn (fun t ht _ => ⟨⟨r, (), rfl, ⟨rfl, rfl⟩, by show va_P _ _ _ t.heap; rw [ht]; exact hW.1⟩, hW.2.2.F ht⟩) hW.2.2.2.2 hdg)
theorem mkTI {wsl' : List Cond} {av : List Value} {ws ws1 : va_W} {r : Int32} {maxL : Nat} {rt : FieldType} (hy : plainName y.cls = true) (hw : wsl = Cond.code y cc maxL (some rt) :: wsl') (hl : (lg_sl av).length ≤ maxL)
    (body : ∀ (p : Program) (e : Env) (s : State) (m : MethodId) (args : Array Value) (below : List Frame) (meth : Method) (c : Code) (A : Nat → Prop) (H : Heap) (locs : List Loc) (ls : Array Slot), En cc y.cls wsl maxL (some rt) p s m args meth c → (∀ x ∈ c.exceptionTable.toList, False) → KK g s → KS z s → CS z A s s.heap → EX l s → (∀ q, s.heap.size ≤ q → A q) → Wo g A s H locs ws → lv_has ls maxL (lv_args 0 av) →
      W p l e (headSpec wsl rm).room s m args below meth c H locs 0 0 (vx_MQ below (QtI g A ws1 k r) (XCt g A ws1 k) args s mc ms A) (F0 m 0 ls [])) : TI l y wsl rm g z av ws ws1 k r mc ms := by
  intro sz
  refine vx_ofW (cc := cc) (maxL := maxL) (ret := (some rt)) hy hw ?_
  intro p e s m args below meth c s₁ B hml ht hv
  obtain ⟨rfl, ⟨⟨hsz, hP, hK, hD0⟩, hKS, hC⟩, hX⟩ := hv
  subst hsz
  rw [lg_entry_eq]
  exact body p e s m _ below meth c _ s.heap [] _ ⟨B.exec, B.bytes, B.returns, atoms_spec (ws := wsl) B.pre, findClass_of_methodNamed B.named, B.notSynchronized, hml⟩ ht hK hKS hC hX (fun q h => Or.inr h) ⟨hP, hD0.self, va_S.rf⟩ (lv_entry av hl)
theorem goTJ {r : Int64} {av : List Value} (hW : Wo g A s H locs world) (hA : ∀ q, s.heap.size ≤ q → A q) (hs : is.map (fun i => world[i]?) = wc.map some)
    (hR : vx_Run p l e R s m args below meth c H locs cells slots mc1 ms1 (F0 m pc ls st) rest (QtJ g (va_A wc H.size) w1 k r av.toArray) (XCt g (va_A wc H.size) w1 k) (va_A wc H.size)) (hadr : w1.map Prod.fst = wc.map Prod.fst) (hnew : putW world is w1 = world')
    (kx : k ≠ 0 → ∀ (q : Addr) (ce : Cell) (H : Heap) (locs : List Loc), Wo g A s H locs world' → H[q]? = some ce → ce.vm = .none → s.vm.findClass (exN k) = some ce.cls → vx_W p l e R s m args below meth c H locs (cells + mc1) (slots + ms1) Q (F0 m pc ls rest) q)
    (kk : k = 0 → ∀ (H : Heap) (locs : List Loc), Wo g A s H locs world' → W p l e R s m args below meth c H locs (cells + mc1) (slots + ms1) Q (F0 m (pc + 3) ls (.long r :: rest))) : W p l e R s m args below meth c H locs cells slots Q (F0 m pc ls st) :=
  vx_calll hR hW.2.2 (fun q _ h => hW.free hA hs q h) (hW.free hA hs) (fun q _ h => hW.free hA hs q h) (fun E ce q9 u t H1 locs1 ht _ hx hB _ hk hS hce hcv hcl => kx hx q9 ce H1 locs1 (goOn hW hA hs hnew hadr ht hB.2 hk hS) hce hcv (hB.1 ▸ hcl)) (fun x u t H1 locs1 ht _ hx hB _ hk hS => hx.2 ▸ kk hx.1 H1 locs1 (goOn hW hA hs hnew hadr ht hB hk hS))
theorem endTJ {ws1 : va_W} {XC : String → State → State → Prop} {r : Int64} (E : En cc own wsl nL (some .long) p s m args meth c) (hW : Wo g A s H locs ws1) (hdg : decode cc pc = .ok (.lreturn, 1)) : W p l e R s m args below meth c H locs cells slots (vx_MQ below (QtJ g A ws1 0 r) XC args s cells slots A) (F0 m pc ls [.long r]) := by
  obtain ⟨hx, hb, hr, hts, hown, hlocks, hml⟩ := E
  exact vx_ret (W.lret hx hb hr (fun t ht _ => ⟨⟨r, (), rfl, ⟨rfl, rfl⟩, by show va_P _ _ _ t.heap; rw [ht]; exact hW.1⟩, hW.2.2.F ht⟩) hW.2.2.2.2 hdg)
theorem mkTJ {wsl' : List Cond} {av : List Value} {ws ws1 : va_W} {r : Int64} {maxL : Nat} {rt : FieldType} (hy : plainName y.cls = true) (hw : wsl = Cond.code y cc maxL (some rt) :: wsl') (hl : (lg_sl av).length ≤ maxL)
    (body : ∀ (p : Program) (e : Env) (s : State) (m : MethodId) (args : Array Value) (below : List Frame) (meth : Method) (c : Code) (A : Nat → Prop) (H : Heap) (locs : List Loc) (ls : Array Slot), En cc y.cls wsl maxL (some rt) p s m args meth c → (∀ x ∈ c.exceptionTable.toList, False) → KK g s → KS z s → CS z A s s.heap → EX l s → (∀ q, s.heap.size ≤ q → A q) → Wo g A s H locs ws → lv_has ls maxL (lv_args 0 av) →
      W p l e (headSpec wsl rm).room s m args below meth c H locs 0 0 (vx_MQ below (QtJ g A ws1 k r) (XCt g A ws1 k) args s mc ms A) (F0 m 0 ls [])) : TJ l y wsl rm g z av ws ws1 k r mc ms := by
  intro sz
  refine vx_ofW (cc := cc) (maxL := maxL) (ret := (some rt)) hy hw ?_
  intro p e s m args below meth c s₁ B hml ht hv
  obtain ⟨rfl, ⟨⟨hsz, hP, hK, hD0⟩, hKS, hC⟩, hX⟩ := hv
  subst hsz
  rw [lg_entry_eq]
  exact body p e s m _ below meth c _ s.heap [] _ ⟨B.exec, B.bytes, B.returns, atoms_spec (ws := wsl) B.pre, findClass_of_methodNamed B.named, B.notSynchronized, hml⟩ ht hK hKS hC hX (fun q h => Or.inr h) ⟨hP, hD0.self, va_S.rf⟩ (lv_entry av hl)
theorem goTD {r : UInt64} {av : List Value} (hW : Wo g A s H locs world) (hA : ∀ q, s.heap.size ≤ q → A q) (hs : is.map (fun i => world[i]?) = wc.map some)
    (hR : vx_Run p l e R s m args below meth c H locs cells slots mc1 ms1 (F0 m pc ls st) rest (QtD g (va_A wc H.size) w1 k r av.toArray) (XCt g (va_A wc H.size) w1 k) (va_A wc H.size)) (hadr : w1.map Prod.fst = wc.map Prod.fst) (hnew : putW world is w1 = world')
    (kx : k ≠ 0 → ∀ (q : Addr) (ce : Cell) (H : Heap) (locs : List Loc), Wo g A s H locs world' → H[q]? = some ce → ce.vm = .none → s.vm.findClass (exN k) = some ce.cls → vx_W p l e R s m args below meth c H locs (cells + mc1) (slots + ms1) Q (F0 m pc ls rest) q)
    (kk : k = 0 → ∀ (H : Heap) (locs : List Loc), Wo g A s H locs world' → W p l e R s m args below meth c H locs (cells + mc1) (slots + ms1) Q (F0 m (pc + 3) ls (.double r :: rest))) : W p l e R s m args below meth c H locs cells slots Q (F0 m pc ls st) :=
  vx_calld hR hW.2.2 (fun q _ h => hW.free hA hs q h) (hW.free hA hs) (fun q _ h => hW.free hA hs q h) (fun E ce q9 u t H1 locs1 ht _ hx hB _ hk hS hce hcv hcl => kx hx q9 ce H1 locs1 (goOn hW hA hs hnew hadr ht hB.2 hk hS) hce hcv (hB.1 ▸ hcl)) (fun x u t H1 locs1 ht _ hx hB _ hk hS => hx.2 ▸ kk hx.1 H1 locs1 (goOn hW hA hs hnew hadr ht hB hk hS))
theorem endTD {ws1 : va_W} {XC : String → State → State → Prop} {r : UInt64} (E : En cc own wsl nL (some .double) p s m args meth c) (hW : Wo g A s H locs ws1) (hdg : decode cc pc = .ok (.dreturn, 1)) : W p l e R s m args below meth c H locs cells slots (vx_MQ below (QtD g A ws1 0 r) XC args s cells slots A) (F0 m pc ls [.double r]) := by
  obtain ⟨hx, hb, hr, hts, hown, hlocks, hml⟩ := E
  exact vx_ret (W.dret hx hb hr (fun t ht _ => ⟨⟨r, (), rfl, ⟨rfl, rfl⟩, by show va_P _ _ _ t.heap; rw [ht]; exact hW.1⟩, hW.2.2.F ht⟩) hW.2.2.2.2 hdg)
theorem mkTD {wsl' : List Cond} {av : List Value} {ws ws1 : va_W} {r : UInt64} {maxL : Nat} {rt : FieldType} (hy : plainName y.cls = true) (hw : wsl = Cond.code y cc maxL (some rt) :: wsl') (hl : (lg_sl av).length ≤ maxL)
    (body : ∀ (p : Program) (e : Env) (s : State) (m : MethodId) (args : Array Value) (below : List Frame) (meth : Method) (c : Code) (A : Nat → Prop) (H : Heap) (locs : List Loc) (ls : Array Slot), En cc y.cls wsl maxL (some rt) p s m args meth c → (∀ x ∈ c.exceptionTable.toList, False) → KK g s → KS z s → CS z A s s.heap → EX l s → (∀ q, s.heap.size ≤ q → A q) → Wo g A s H locs ws → lv_has ls maxL (lv_args 0 av) →
      W p l e (headSpec wsl rm).room s m args below meth c H locs 0 0 (vx_MQ below (QtD g A ws1 k r) (XCt g A ws1 k) args s mc ms A) (F0 m 0 ls [])) : TD l y wsl rm g z av ws ws1 k r mc ms := by
  intro sz
  refine vx_ofW (cc := cc) (maxL := maxL) (ret := (some rt)) hy hw ?_
  intro p e s m args below meth c s₁ B hml ht hv
  obtain ⟨rfl, ⟨⟨hsz, hP, hK, hD0⟩, hKS, hC⟩, hX⟩ := hv
  subst hsz
  rw [lg_entry_eq]
  exact body p e s m _ below meth c _ s.heap [] _ ⟨B.exec, B.bytes, B.returns, atoms_spec (ws := wsl) B.pre, findClass_of_methodNamed B.named, B.notSynchronized, hml⟩ ht hK hKS hC hX (fun q h => Or.inr h) ⟨hP, hD0.self, va_S.rf⟩ (lv_entry av hl)
theorem goTF {r : UInt32} {av : List Value} (hW : Wo g A s H locs world) (hA : ∀ q, s.heap.size ≤ q → A q) (hs : is.map (fun i => world[i]?) = wc.map some)
    (hR : vx_Run p l e R s m args below meth c H locs cells slots mc1 ms1 (F0 m pc ls st) rest (QtF g (va_A wc H.size) w1 k r av.toArray) (XCt g (va_A wc H.size) w1 k) (va_A wc H.size)) (hadr : w1.map Prod.fst = wc.map Prod.fst) (hnew : putW world is w1 = world')
    (kx : k ≠ 0 → ∀ (q : Addr) (ce : Cell) (H : Heap) (locs : List Loc), Wo g A s H locs world' → H[q]? = some ce → ce.vm = .none → s.vm.findClass (exN k) = some ce.cls → vx_W p l e R s m args below meth c H locs (cells + mc1) (slots + ms1) Q (F0 m pc ls rest) q)
    (kk : k = 0 → ∀ (H : Heap) (locs : List Loc), Wo g A s H locs world' → W p l e R s m args below meth c H locs (cells + mc1) (slots + ms1) Q (F0 m (pc + 3) ls (.float r :: rest))) : W p l e R s m args below meth c H locs cells slots Q (F0 m pc ls st) :=
  vx_callf hR hW.2.2 (fun q _ h => hW.free hA hs q h) (hW.free hA hs) (fun q _ h => hW.free hA hs q h) (fun E ce q9 u t H1 locs1 ht _ hx hB _ hk hS hce hcv hcl => kx hx q9 ce H1 locs1 (goOn hW hA hs hnew hadr ht hB.2 hk hS) hce hcv (hB.1 ▸ hcl)) (fun x u t H1 locs1 ht _ hx hB _ hk hS => hx.2 ▸ kk hx.1 H1 locs1 (goOn hW hA hs hnew hadr ht hB hk hS))
theorem endTF {ws1 : va_W} {XC : String → State → State → Prop} {r : UInt32} (E : En cc own wsl nL (some .float) p s m args meth c) (hW : Wo g A s H locs ws1) (hdg : decode cc pc = .ok (.freturn, 1)) : W p l e R s m args below meth c H locs cells slots (vx_MQ below (QtF g A ws1 0 r) XC args s cells slots A) (F0 m pc ls [.float r]) := by
  obtain ⟨hx, hb, hr, hts, hown, hlocks, hml⟩ := E
  exact vx_ret (W.fret hx hb hr (fun t ht _ => ⟨⟨r, (), rfl, ⟨rfl, rfl⟩, by show va_P _ _ _ t.heap; rw [ht]; exact hW.1⟩, hW.2.2.F ht⟩) hW.2.2.2.2 hdg)
theorem mkTF {wsl' : List Cond} {av : List Value} {ws ws1 : va_W} {r : UInt32} {maxL : Nat} {rt : FieldType} (hy : plainName y.cls = true) (hw : wsl = Cond.code y cc maxL (some rt) :: wsl') (hl : (lg_sl av).length ≤ maxL)
    (body : ∀ (p : Program) (e : Env) (s : State) (m : MethodId) (args : Array Value) (below : List Frame) (meth : Method) (c : Code) (A : Nat → Prop) (H : Heap) (locs : List Loc) (ls : Array Slot), En cc y.cls wsl maxL (some rt) p s m args meth c → (∀ x ∈ c.exceptionTable.toList, False) → KK g s → KS z s → CS z A s s.heap → EX l s → (∀ q, s.heap.size ≤ q → A q) → Wo g A s H locs ws → lv_has ls maxL (lv_args 0 av) →
      W p l e (headSpec wsl rm).room s m args below meth c H locs 0 0 (vx_MQ below (QtF g A ws1 k r) (XCt g A ws1 k) args s mc ms A) (F0 m 0 ls [])) : TF l y wsl rm g z av ws ws1 k r mc ms := by
  intro sz
  refine vx_ofW (cc := cc) (maxL := maxL) (ret := (some rt)) hy hw ?_
  intro p e s m args below meth c s₁ B hml ht hv
  obtain ⟨rfl, ⟨⟨hsz, hP, hK, hD0⟩, hKS, hC⟩, hX⟩ := hv
  subst hsz
  rw [lg_entry_eq]
  exact body p e s m _ below meth c _ s.heap [] _ ⟨B.exec, B.bytes, B.returns, atoms_spec (ws := wsl) B.pre, findClass_of_methodNamed B.named, B.notSynchronized, hml⟩ ht hK hKS hC hX (fun q h => Or.inr h) ⟨hP, hD0.self, va_S.rf⟩ (lv_entry av hl)
theorem goTV  {av : List Value} (hW : Wo g A s H locs world) (hA : ∀ q, s.heap.size ≤ q → A q) (hs : is.map (fun i => world[i]?) = wc.map some)
    (hR : vx_Run p l e R s m args below meth c H locs cells slots mc1 ms1 (F0 m pc ls st) rest (QtV g (va_A wc H.size) w1 k av.toArray) (XCt g (va_A wc H.size) w1 k) (va_A wc H.size)) (hadr : w1.map Prod.fst = wc.map Prod.fst) (hnew : putW world is w1 = world')
    (kx : k ≠ 0 → ∀ (q : Addr) (ce : Cell) (H : Heap) (locs : List Loc), Wo g A s H locs world' → H[q]? = some ce → ce.vm = .none → s.vm.findClass (exN k) = some ce.cls → vx_W p l e R s m args below meth c H locs (cells + mc1) (slots + ms1) Q (F0 m pc ls rest) q)
    (kk : k = 0 → ∀ (H : Heap) (locs : List Loc), Wo g A s H locs world' → W p l e R s m args below meth c H locs (cells + mc1) (slots + ms1) Q (F0 m (pc + 3) ls (rest))) : W p l e R s m args below meth c H locs cells slots Q (F0 m pc ls st) :=
  vx_callv hR hW.2.2 (fun q _ h => hW.free hA hs q h) (hW.free hA hs) (fun q _ h => hW.free hA hs q h) (fun E ce q9 u t H1 locs1 ht _ hx hB _ hk hS hce hcv hcl => kx hx q9 ce H1 locs1 (goOn hW hA hs hnew hadr ht hB.2 hk hS) hce hcv (hB.1 ▸ hcl)) (fun u t H1 locs1 ht _ hx hB _ hk hS => kk hx H1 locs1 (goOn hW hA hs hnew hadr ht hB hk hS))
theorem endTV {ws1 : va_W} {XC : String → State → State → Prop} (E : En cc own wsl nL none p s m args meth c) (hW : Wo g A s H locs ws1) (hdg : decode cc pc = .ok (.return_, 1)) : W p l e R s m args below meth c H locs cells slots (vx_MQ below (QtV g A ws1 0) XC args s cells slots A) (F0 m pc ls []) := by
  obtain ⟨hx, hb, hr, hts, hown, hlocks, hml⟩ := E
  exact vx_ret (W.vret hx hb hr (fun t ht _ => ⟨⟨(), rfl, rfl, by show va_P _ _ _ t.heap; rw [ht]; exact hW.1⟩, hW.2.2.F ht⟩) hW.2.2.2.2 hdg)
theorem mkTV {wsl' : List Cond} {av : List Value} {ws ws1 : va_W}  {maxL : Nat}  (hy : plainName y.cls = true) (hw : wsl = Cond.code y cc maxL none :: wsl') (hl : (lg_sl av).length ≤ maxL)
    (body : ∀ (p : Program) (e : Env) (s : State) (m : MethodId) (args : Array Value) (below : List Frame) (meth : Method) (c : Code) (A : Nat → Prop) (H : Heap) (locs : List Loc) (ls : Array Slot), En cc y.cls wsl maxL none p s m args meth c → (∀ x ∈ c.exceptionTable.toList, False) → KK g s → KS z s → CS z A s s.heap → EX l s → (∀ q, s.heap.size ≤ q → A q) → Wo g A s H locs ws → lv_has ls maxL (lv_args 0 av) →
      W p l e (headSpec wsl rm).room s m args below meth c H locs 0 0 (vx_MQ below (QtV g A ws1 k) (XCt g A ws1 k) args s mc ms A) (F0 m 0 ls [])) : TV l y wsl rm g z av ws ws1 k mc ms := by
  intro sz
  refine vx_ofW (cc := cc) (maxL := maxL) (ret := none) hy hw ?_
  intro p e s m args below meth c s₁ B hml ht hv
  obtain ⟨rfl, ⟨⟨hsz, hP, hK, hD0⟩, hKS, hC⟩, hX⟩ := hv
  subst hsz
  rw [lg_entry_eq]
  exact body p e s m _ below meth c _ s.heap [] _ ⟨B.exec, B.bytes, B.returns, atoms_spec (ws := wsl) B.pre, findClass_of_methodNamed B.named, B.notSynchronized, hml⟩ ht hK hKS hC hX (fun q h => Or.inr h) ⟨hP, hD0.self, va_S.rf⟩ (lv_entry av hl)
theorem ofX {P : Prop} [Decidable P] {Rr : Type} {a b : Option Rr} {r : Rr} (h : (if P then a else b) = some r) : (P ∧ a = some r) ∨ (¬ P ∧ b = some r) := by
  by_cases hp : P
  · rw [if_pos hp] at h; exact Or.inl ⟨hp, h⟩
  · rw [if_neg hp] at h; exact Or.inr ⟨hp, h⟩
end TROWS
