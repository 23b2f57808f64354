/-! constructors that make arrays of references -/
def aoW : List Cond := [.arrayOver (.object "PaperStorm$Station"), .arrayOver (.object "PaperStorm$Kind"), .arrayOver (.array .int)]
def AX (U : State) : Prop := ∀ w ∈ aoW, w.before #[] U = true
theorem ao_vm {ty : FieldType} {u U : State} (h : u.vm = U.vm) (h1 : (Cond.arrayOver ty).before #[] u = true) : (Cond.arrayOver ty).before #[] U = true := by
  unfold Cond.before Cond.holds at h1 ⊢
  simp only [Cond.value] at h1 ⊢
  rw [← h]
  exact h1
theorem AX.same {u U : State} (h : u.vm = U.vm) (hZ : AX u) : AX U := by
  intro w hw
  have h1 := hZ w hw
  simp only [aoW, List.mem_cons, List.not_mem_nil, or_false] at hw
  rcases hw with rfl | rfl | rfl <;> exact ao_vm h h1
theorem AX.warm {s U : State} (hW : s.WarmedH U.vm) (hZ : AX s) : AX U := by
  intro w hw
  have h1 := hZ w hw
  simp only [aoW, List.mem_cons, List.not_mem_nil, or_false] at hw
  rcases hw with rfl | rfl | rfl <;> exact ao_vm (rfl : (s.setVm U.vm).vm = U.vm) (by rw [Cond.arrayOver_setVmC hW.alike]; exact h1)
def PreY (g : GE) (z : ZE) (av : List Value) (sz : Nat) (ws : va_W) : Array Value → State → Prop := va_Pc av (fun U => ((U.heap.size = sz ∧ va_P g.1 vwCl ws U.heap ∧ KK g U ∧ va_D (fun _ => True) ws) ∧ KS z U ∧ CS z (va_A ws sz) U U.heap) ∧ AX U)
theorem PreY.blind {g : GE} {z : ZE} {av : List Value} {sz : Nat} {ws : va_W} : FrameBlind (PreY g z av sz ws) := fun a U f mk q => by
  obtain ⟨q0, ⟨⟨q1, qP, qK, qD⟩, qs, qc⟩, qx⟩ := q
  exact ⟨q0, ⟨⟨q1, qP, KK.same (u := U) (U := U.calling f mk a) rfl qK, qD⟩, KS.same (u := U) (U := U.calling f mk a) rfl qs, CS.moved (u := U) (U := U.calling f mk a) (Vm.Alike.refl U.vm) qc⟩, AX.same (u := U) (U := U.calling f mk a) rfl qx⟩
theorem PreY.of {g : GE} {z : ZE} {av : List Value} {A A0 : Nat → Prop} {ws : va_W} {s U : State} {H : Heap} {locs : List Loc} (hU : U.heap = H) (hW : s.WarmedH U.vm) (hP : va_P g.1 vwCl ws H) (hK : KK g s) (hD : va_D A ws) (hz : KS z s) (hC : CS z A0 s s.heap) (hX : AX s) (hS : va_S A0 s.heap H locs) (hF : ∀ q, va_A ws H.size q → A0 q) : PreY g z av H.size ws av.toArray U :=
  ⟨rfl, ⟨⟨by rw [hU], by rw [hU]; exact hP, hK.warm hW, hD.weaken (fun _ _ _ _ => trivial)⟩, hz.warm hW, by rw [hU]; exact ((hC.kept hS.2.1).narrow hF).moved hW.alike⟩, hX.warm hW⟩
def YN (l : Launch) (y : MethodName) (wsl : List Cond) (rm : Room) (g : GE) (z : ZE) (av : List Value) (ws : va_W) (mk : (Nat → Nat) → va_W) (mc ms : Nat) : Prop := ∀ sz : Nat, Met l y wsl rm (PreY g z av sz ws) (PoN g (va_A ws sz) mk) mc ms (va_A ws sz)
theorem KK.arrO {g : GE} {s : State} {t0 : Nat} {cA cB : ClassId} {C : String} (hK : va_K g.1 vwCl (tysA g ++ [(cB, .object C)]) s) (ht : (tysA g)[t0]? = some (cA, .object C)) : cB = cA := by
  obtain ⟨k1, c1, -, -, -, h1⟩ := (hK.2 t0 (cA, .object C) (by rw [List.getElem?_append_left (List.getElem?_eq_some_iff.mp ht).1]; exact ht)).2
  obtain ⟨k2, c2, -, -, -, h2⟩ := (hK.2 (tysA g).length (cB, .object C) (by simp)).2
  exact Option.some.inj (h2.symm.trans h1)
theorem pl_rows (N : Nat) (r : Nat → Nat) (f : Nat → va_E) (e : va_E) : va_pl (([] : List Nat) ++ (List.range N).map r) (vr_up f ((List.range N).map r) e) = (List.range N).map (fun i => (r i, e)) := by
  unfold va_pl
  rw [List.nil_append, List.map_map]
  apply List.map_congr_left
  intro i hi
  show (r i, vr_up f _ e (r i)) = (r i, e)
  rw [vr_up_in (List.mem_map.mpr ⟨i, hi, rfl⟩)]
theorem ringF (a0 a1 a2 a3 a4 a5 a6 a7 : Nat) : va_up (va_up (va_up (va_up (va_up (va_up (va_up (va_up (fun _ => none) 0 (some a0)) 1 (some a1)) 2 (some a2)) 3 (some a3)) 4 (some a4)) 5 (some a5)) 6 (some a6)) 7 (some a7) = fun i => ([a0, a1, a2, a3, a4, a5, a6, a7] : List Nat)[i]? := by
  funext i
  match i with
  | 0 => rfl
  | 1 => rfl
  | 2 => rfl
  | 3 => rfl
  | 4 => rfl
  | 5 => rfl
  | 6 => rfl
  | 7 => rfl
  | n + 8 => simp [va_up]
theorem w_X3_congr {g : GE} {z : ZE} {h0 h1 h2 h3 : Nat} {f f' : Nat → Nat} {x_signs : Nat → Int32} {x_length x_position : Int32} {x_kinds : Nat → Option Nat} {x_values : Nat → Nat → Int32} {x_commandCount : Int32} (h : ∀ i, i < 15 → f i = f' i) : w_X3 g z h0 h1 h2 h3 f x_signs x_length x_position x_kinds x_values x_commandCount = w_X3 g z h0 h1 h2 h3 f' x_signs x_length x_position x_kinds x_values x_commandCount := by
  have e1 : (fun i => if i < 15 then some (f i) else none) = fun i => if i < 15 then some (f' i) else none := by
    funext i
    by_cases hi : i < 15
    · rw [if_pos hi, if_pos hi, h i hi]
    · rw [if_neg hi, if_neg hi]
  have e2 : (List.range 15).map (fun i => ((f i, .inl (g.2 0, 3, .inl (x_values i))) : Nat × va_E)) = (List.range 15).map (fun i => ((f' i, .inl (g.2 0, 3, .inl (x_values i))) : Nat × va_E)) := by
    apply List.map_congr_left
    intro i hi
    rw [h i (List.mem_range.mp hi)]
  unfold w_X3
  rw [e1, e2]
theorem lt15 {i : Nat} (h : i < 15) : i = 0 ∨ i = 1 ∨ i = 2 ∨ i = 3 ∨ i = 4 ∨ i = 5 ∨ i = 6 ∨ i = 7 ∨ i = 8 ∨ i = 9 ∨ i = 10 ∨ i = 11 ∨ i = 12 ∨ i = 13 ∨ i = 14 := by omega
section YROWS
variable {p : Program} {l : Launch} {e : Env} {R : Room} {s : State} {m : MethodId} {args : Array Value} {below : List Frame} {meth : Method} {c : Code} {H : Heap} {locs : List Loc} {cells slots : Nat} {Q : State → Prop}
variable {cc : ByteArray} {own : String} {wsl : List Cond} {nL : Nat} {rt : Option FieldType} {g : GE} {z : ZE} {A : Nat → Prop} {world world' : va_W}
variable {y : MethodName} {wsy : List Cond} {rm : Room} {bytes : ByteArray} {maxL index n pc a : Nat} {ls : Array Slot} {st rest As : List Value} {b : Nat} {mc ms : Nat} {mk : (Nat → Nat) → va_W}
theorem mkYN {wsl' : List Cond} {av : List Value} {ws : va_W} {maxL : Nat} (hy : plainName y.cls = true) (hyn : y.name = "<init>") (hw : wsl = Cond.code y cc maxL none :: wsl') (hl : (lg_sl av).length ≤ maxL)
    (body : ∀ (p : Program) (e : Env) (s : State) (m : MethodId) (args : Array Value) (below : List Frame) (meth : Method) (c : Code) (A : Nat → Prop) (H : Heap) (locs : List Loc) (ls : Array Slot), En cc y.cls wsl maxL none p s m args meth c → meth.name = "<init>" → KK g s → KS z s → CS z A s s.heap → AX s → (∀ q, s.heap.size ≤ q → A q) → Wo g A s H locs ws → lv_has ls maxL (lv_args 0 av) →
      W p l e (headSpec wsl rm).room s m args below meth c H locs 0 0 (MQ below (PoN g A mk) args s mc ms A) (F0 m 0 ls [])) : YN l y wsl rm g z av ws mk mc ms := by
  intro sz
  refine Met.ofW (cc := cc) (maxL := maxL) (ret := none) hy hw ?_
  intro p e s m args below meth c s₁ B hml hv
  obtain ⟨rfl, ⟨⟨hsz, hP, hK, hD0⟩, hKS, hC⟩, hX⟩ := hv
  subst hsz
  rw [lg_entry_eq]
  exact body p e s m _ below meth c _ s.heap [] _ ⟨B.exec, B.bytes, B.returns, atoms_spec (ws := wsl) B.pre, findClass_of_methodNamed B.named, B.notSynchronized, hml⟩ ((name_of_methodNamed B.named B.method).1.trans hyn) hK hKS hC hX (fun q h => Or.inr h) ⟨hP, hD0.self, va_S.rf⟩ (lv_entry av hl)
theorem goCY (E : En cc own wsl nL rt p s m args meth c) (hK : KK g s) (hz : KS z s) (hC : CS z A s s.heap) (hX : AX s) (hA : ∀ q, s.heap.size ≤ q → A q) (hW : Wo g A s H locs world) {i : Nat} {e0 : va_E} (hi : world[i]? = some (b, e0))
    (hM : YN l y wsy rm g z (.ref b :: As) [(b, e0)] mk mc ms) (cw : CallB R s args own index y bytes maxL none wsy rm mc ms n ∧ y.name = "<init>" ∧ (Cond.instanceMethod y).before args s = true)
    (hsz : ls.size = nL) (hst : st = As.reverse ++ .ref b :: rest) (hl : As.length = n) (hroom : (rest.map fun v => v.category).sum ≤ 8) (hdg : decode cc pc = .ok (.invokespecial index, 3)) (hf : cells + mc ≤ R.cells ∧ slots + ms ≤ R.slots) :
    va_Run p l e R s m args below meth c H locs cells slots mc ms (F0 m pc ls st) rest (PoN g (va_A [(b, e0)] H.size) mk (Value.ref b :: As).toArray) (va_A [(b, e0)] H.size) := by
  obtain ⟨hx, hb, hr, hts, hown, hlocks, hml⟩ := E
  have hs : [i].map (fun i => world[i]?) = [(b, e0)].map some := by simp [hi]
  exact va_runI ⟨hx, hb, hml, hown, hts⟩ (hM H.size) cw ⟨PreY.blind, fun U hU hw => PreY.of hU hw (hW.subP hs) hK (hW.subD hs rfl) hz hC hX hW.2.2 (hW.free hA hs)⟩ rfl hl hsz hst (lv_room hroom) hdg hf
theorem wNewq {C : String} {n : Int32} {N' : Nat} {cA : ClassId} (E : En cc own wsl nL rt p s m args meth c) (hK : KK g s) (hX : AX s) (ho : Cond.arrayOver (.object C) ∈ aoW) (hcl : Cond.classLink own index C ∈ wsl) (hW : Wo g A s H locs world) (hA : ∀ q, s.heap.size ≤ q → A q) (t0 : Nat) (ht : (tysA g)[t0]? = some (cA, .object C))
    (hn : ¬ n < 0) (hN : n.toNatClampNeg = N') (hbytes : N' * 4 ≤ 536870912) (hcells : cells + 1 ≤ R.cells) (hslots : slots + N' ≤ R.slots) (hdg : decode cc pc = .ok (.anewarray index, 3))
    (kk : ∀ (q : Nat) (H : Heap) (locs : List Loc), Wo g A s H locs (world ++ [(q, .inl (cA, N', .inr (.inr (.inr (.inr (fun _ => none))))))]) → W p l e R s m args below meth c H locs (cells + 1) (slots + N') Q (F0 m (pc + 3) ls (.ref q :: rest))) : W p l e R s m args below meth c H locs cells slots Q (F0 m pc ls (.int n :: rest)) := by
  obtain ⟨hx, hb, -, hts, hown, -, -⟩ := E
  refine va_newq hx hb hown (hts _ hcl) (hX _ ho) hK.1 hW.1 hW.2.1 hW.2.2 hA hn hN hbytes hcells hslots hdg (fun q cB H1 hK1 h1 h2 h3 => kk q H1 _ ?_)
  have e := KK.arrO hK1 ht
  subst e
  exact ⟨h1, h2, h3⟩
theorem wMna (E : En cc own wsl nL rt p s m args meth c) (hK : KK g s) (hX : AX s) (hcl : Cond.classLink own index "[[I" ∈ wsl) (harr : Cond.arrayClass .int ∈ wsl) (hW : Wo g A s H locs world) (hA : ∀ q, s.heap.size ≤ q → A q) (hcells : cells + (1 + 15) ≤ R.cells) (hslots : slots + (15 + 15 * 3) ≤ R.slots) (hdg : decode cc pc = .ok (.multianewarray index 2, 4))
    (kk : ∀ (q : Nat) (r : Nat → Nat) (H : Heap) (locs : List Loc), Wo g A s H locs ((world ++ [(q, .inl (g.2 6, 15, .inr (.inr (.inr (.inr (fun i => if i < 15 then some (r i) else none))))))]) ++ (List.range 15).map (fun i => (r i, .inl (g.2 0, 3, .inl (fun _ => 0))))) → W p l e R s m args below meth c H locs (cells + 1 + 15) (slots + 15 + 15 * 3) Q (F0 m (pc + 4) ls (.ref q :: rest))) : W p l e R s m args below meth c H locs cells slots Q (F0 m pc ls (.int 3 :: .int 15 :: rest)) := by
  obtain ⟨hx, hb, -, hts, hown, -, -⟩ := E
  have hcy : s.vm.findClass (FieldType.array .int).toString = some (g.2 0) := (hK.1.2 0 _ rfl).2
  refine va_mna (X := world) (L := []) (f := fun _ => .inl (g.2 0, 3, .inl (fun _ => 0))) (ty := .int) (z := (3, .inl (fun _ => 0))) (N' := 15) (K' := 3) hx hb hown (hts _ hcl) (hX (.arrayOver (.array .int)) (by simp [aoW])) (hts _ harr) hcy hK.1 (by show va_P _ _ (world ++ []) _; rw [List.append_nil]; exact hW.1) (by show va_D _ (world ++ []); rw [List.append_nil]; exact hW.2.1) hW.2.2 hA (by decide) (by decide) (by decide) (by decide) (by decide) (by decide) (by decide) (by decide) (by decide) hcells hslots (fun c0 => ?_) hdg (fun q r cB H1 _ _ hK1 h1 h2 h3 => kk q r H1 _ ?_)
  · rw [vp_cell_i, ← arrV_new]
    rfl
  · have e : cB = g.2 6 := by
      have a1 := (hK1.2 6 (g.2 6, .array .int) rfl).2
      have a2 := (hK1.2 (tysA g).length (cB, .array .int) (by simp)).2
      exact Option.some.inj (a2.symm.trans a1)
    subst e
    rw [pl_rows] at h1 h2
    exact ⟨h1, h2, h3⟩
theorem wRast {n v ci qk : Nat} {fs : List Value} {f : Nat → Option Nat} {i : Int32} {T : u_T} {N : Nat} (E : En cc own wsl nL rt p s m args meth c) (hK : KK g s) (hW : Wo g A s H locs world) (q0 : Nat) (ha : world[q0]? = some (a, .inl (g.2 4, n, .inr (.inr (.inr (.inr f)))))) (hv : world[qk]? = some (v, .inr (ci, fs))) (hc : vwCl[ci]? = some ("PaperStorm$Station", T, N)) (hin : ¬ (i < 0 ∨ n ≤ i.toNatClampNeg)) (hdg : decode cc pc = .ok (.aastore, 1)) (hnew : world.set q0 (a, .inl (g.2 4, n, .inr (.inr (.inr (.inr (va_up f i.toNatClampNeg (some v))))))) = world')
    (kk : ∀ (H : Heap) (locs : List Loc), Wo g A s H locs world' → W p l e R s m args below meth c H locs cells slots Q (F0 m (pc + 1) ls rest)) : W p l e R s m args below meth c H locs cells slots Q (F0 m pc ls (.ref v :: .int i :: .ref a :: rest)) := by
  subst hnew
  exact vb_astq (C := "PaperStorm$Station") E.1 E.2.1 hK.1 hW.1 hW.2.1 hW.2.2 q0 4 ha rfl (va_recv hK.1 hW.1 hc hv) (fun comp c0 h1 h2 => by
    have e := Option.some.inj (h1.symm.trans h2)
    subst e
    exact va_asg _ _) hin hdg (fun H1 l1 h1 h2 h3 => kk H1 l1 ⟨h1, h2, h3⟩)
end YROWS
