/-! constructors: the world of one new object grows -/
abbrev PoN (g : GE) (A : Nat → Prop) (mk : (Nat → Nat) → va_W) := va_Qv (S := Nat → Nat) (fun _ => True) (fun u t => va_P g.1 vwCl (mk u) t.heap ∧ va_D A (mk u)) A
def CN (l : Launch) (y : MethodName) (wsl : List Cond) (rm : Room) (g : GE) (av : List Value) (ws : va_W) (mk : (Nat → Nat) → va_W) (mc ms : Nat) : Prop := ∀ sz : Nat, Met l y wsl rm (PreM g av sz ws) (PoN g (va_A ws sz) mk) mc ms (va_A ws sz)
section CTOR
variable {p : Program} {l : Launch} {e : Env} {R : Room} {s : State} {m : MethodId} {args : Array Value} {below : List Frame} {meth : Method} {c : Code} {H : Heap} {locs : List Loc} {cells slots : Nat} {Q : State → Prop}
variable {cc : ByteArray} {own : String} {wsl : List Cond} {nL : Nat} {rt : Option FieldType} {g : GE} {A : Nat → Prop} {world world' : va_W}
variable {y : MethodName} {wsy : List Cond} {rm : Room} {bytes : ByteArray} {maxL index n pc : Nat} {ls : Array Slot} {st rest As : List Value} {b : Nat} {mc ms : Nat} {mk : (Nat → Nat) → va_W}
theorem mkN {wsl' : List Cond} {av : List Value} {ws : va_W} {maxL : Nat} (hy : plainName y.cls = true) (hyn : y.name = "<init>") (hw : wsl = Cond.code y cc maxL none :: wsl') (hl : (lg_sl av).length ≤ maxL)
    (body : ∀ (p : Program) (e : Env) (s : State) (m : MethodId) (args : Array Value) (below : List Frame) (meth : Method) (c : Code) (A : Nat → Prop) (H : Heap) (locs : List Loc) (ls : Array Slot), En cc y.cls wsl maxL none p s m args meth c → meth.name = "<init>" → KK g s → (∀ q, s.heap.size ≤ q → A q) → Wo g A s H locs ws → lv_has ls maxL (lv_args 0 av) →
      W p l e (headSpec wsl rm).room s m args below meth c H locs 0 0 (MQ below (PoN g A mk) args s mc ms A) (F0 m 0 ls [])) : CN l y wsl rm g av ws mk mc ms := by
  intro sz
  refine Met.ofW (cc := cc) (maxL := maxL) (ret := none) hy hw ?_
  intro p e s m args below meth c s₁ B hml hv
  obtain ⟨rfl, hsz, hP, hK, hD0⟩ := hv
  subst hsz
  rw [lg_entry_eq]
  exact body p e s m _ below meth c _ s.heap [] _ ⟨B.exec, B.bytes, B.returns, atoms_spec (ws := wsl) B.pre, findClass_of_methodNamed B.named, B.notSynchronized, hml⟩ ((name_of_methodNamed B.named B.method).1.trans hyn) hK (fun q h => Or.inr h) ⟨hP, hD0.self, va_S.rf⟩ (lv_entry av hl)
theorem endN (u : Nat → Nat) (E : En cc own wsl nL none p s m args meth c) (hW : Wo g A s H locs world) (hu : world = mk u) (hc : cells = mc) (hs : slots = ms) (hdg : decode cc pc = .ok (.return_, 1)) : W p l e R s m args below meth c H locs cells slots (MQ below (PoN g A mk) args s mc ms A) (F0 m pc ls []) := by
  obtain ⟨hx, hb, hr, hts, hown, hlocks, hml⟩ := E
  subst hu
  subst hc
  subst hs
  exact W.vret hx hb hr (fun t ht _ => ⟨⟨u, rfl, trivial, by rw [ht]; exact hW.1, hW.2.1⟩, hW.2.2.F ht⟩) hW.2.2.2.2 hdg
theorem goC (E : En cc own wsl nL rt p s m args meth c) (hK : KK g s) (hW : Wo g A s H locs world) {i : Nat} {e0 : va_E} (hi : world[i]? = some (b, e0))
    (hM : CN l y wsy rm g (.ref b :: As) [(b, e0)] mk mc ms) (cw : CallB R s args own index y bytes maxL none wsy rm mc ms n ∧ y.name = "<init>" ∧ (Cond.instanceMethod y).before args s = true)
    (hsz : ls.size = nL) (hst : st = As.reverse ++ .ref b :: rest) (hl : As.length = n) (hroom : (rest.map fun v => v.category).sum ≤ 8) (hdg : decode cc pc = .ok (.invokespecial index, 3)) (hf : cells + mc ≤ R.cells ∧ slots + ms ≤ R.slots) :
    va_Run p l e R s m args below meth c H locs cells slots mc ms (F0 m pc ls st) rest (PoN g (va_A [(b, e0)] H.size) mk (Value.ref b :: As).toArray) (va_A [(b, e0)] H.size) := by
  obtain ⟨hx, hb, hr, hts, hown, hlocks, hml⟩ := E
  have hs : [i].map (fun i => world[i]?) = [(b, e0)].map some := by simp [hi]
  exact va_runI ⟨hx, hb, hml, hown, hts⟩ (hM H.size) cw ⟨PreM.blind, fun U hU hw => PreM.of hU hw (hW.subP hs) hK (hW.subD hs rfl)⟩ rfl hl hsz hst (lv_room hroom) hdg hf
theorem goCN {host : String} (E : En cc own wsl nL rt p s m args meth c) (hK : KK g s) (hW : Wo g A s H locs world) {i : Nat} {e0 : va_E} (hi : world[i]? = some (b, e0))
    (hM : CN l y wsy rm g (.ref b :: As) [(b, e0)] mk mc ms) (cw : va_CN R s args own index y host bytes maxL none wsy rm mc ms n ∧ y.name = "<init>" ∧ (Cond.instanceMethod y).before args s = true)
    (hsz : ls.size = nL) (hst : st = As.reverse ++ .ref b :: rest) (hl : As.length = n) (hroom : (rest.map fun v => v.category).sum ≤ 8) (hdg : decode cc pc = .ok (.invokespecial index, 3)) (hf : cells + mc ≤ R.cells ∧ slots + ms ≤ R.slots) :
    va_Run p l e R s m args below meth c H locs cells slots mc ms (F0 m pc ls st) rest (PoN g (va_A [(b, e0)] H.size) mk (Value.ref b :: As).toArray) (va_A [(b, e0)] H.size) := by
  obtain ⟨hx, hb, hr, hts, hown, hlocks, hml⟩ := E
  have hs : [i].map (fun i => world[i]?) = [(b, e0)].map some := by simp [hi]
  exact va_runIN ⟨hx, hb, hml, hown, hts⟩ (hM H.size) cw ⟨PreM.blind, fun U hU hw => PreM.of hU hw (hW.subP hs) hK (hW.subD hs rfl)⟩ rfl hl hsz hst (lv_room hroom) hdg hf
/-- behind a constructor's call: its object at its place, its new cells at the end -/
theorem goN {i : Nat} {e0 : va_E} {e1 : (Nat → Nat) → va_E} {tl : (Nat → Nat) → va_W} {world' : (Nat → Nat) → va_W} {av : Array Value} (hW : Wo g A s H locs world) (hA : ∀ q, s.heap.size ≤ q → A q) (hi : world[i]? = some (b, e0))
    (hR : va_Run p l e R s m args below meth c H locs cells slots mc ms (F0 m pc ls st) rest (PoN g (va_A [(b, e0)] H.size) mk av) (va_A [(b, e0)] H.size)) (hm : ∀ u, mk u = (b, e1 u) :: tl u) (hnew : ∀ u, world.set i (b, e1 u) ++ tl u = world' u)
    (kk : ∀ (u : Nat → Nat) (H : Heap) (locs : List Loc), Wo g A s H locs (world' u) → W p l e R s m args below meth c H locs (cells + mc) (slots + ms) Q (F0 m (pc + 3) ls rest)) : W p l e R s m args below meth c H locs cells slots Q (F0 m pc ls st) := by
  have hs : [i].map (fun i => world[i]?) = [(b, e0)].map some := by simp [hi]
  refine va_callv hR hW.2.2 (fun q _ h => hW.free hA hs q h) (hW.free hA hs) (fun u t H1 locs1 ht _ _ hB hz hk hS => kk u H1 locs1 ?_)
  obtain ⟨hB1, hB2⟩ := hB
  rw [ht, hm u] at hB1
  rw [hm u] at hB2
  have hP0 : va_P g.1 vwCl [(b, e1 u)] H1 := fun k q hq => hB1 k q (by
    have : k = 0 := by
      have := (List.getElem?_eq_some_iff.mp hq).1
      simpa using this
    subst this
    simpa using hq)
  have hW1 := hW.back hA hs (w1 := [(b, e1 u)]) rfl hk hP0 hS
  have hPt : va_P g.1 vwCl (tl u) H1 := fun k q hq => hB1 (k + 1) q (by simpa using hq)
  have hbl : b < H.size := (hW.1 i _ hi).lt
  have new : ∀ (k : Nat) (q : Nat × va_E), (tl u)[k]? = some q → H.size ≤ q.1 := by
    intro k q hq
    have h1 : ((b, e1 u) :: tl u)[k + 1]? = some q := by simpa using hq
    rcases hB2.2 (k + 1) q h1 with ⟨j, e9, hj⟩ | h
    · have hj0 : j = 0 := by
        have := (List.getElem?_eq_some_iff.mp hj).1
        simpa using this
      subst hj0
      have hb9 : q.1 = b := by
        have := Option.some.inj hj
        exact (congrArg Prod.fst this).symm
      have := hB2.1 (k + 1) 0 q (b, e1 u) h1 rfl hb9
      omega
    · exact h
  have hDt : va_D A (tl u) := ⟨fun k1 k2 x z hx hz hxz => by
      have := hB2.1 (k1 + 1) (k2 + 1) x z (by simpa using hx) (by simpa using hz) hxz
      omega, fun k q hq => hA _ (Nat.le_trans hW.2.2.1 (new k q hq))⟩
  have hold : ∀ (k : Nat) (q : Nat × va_E), (world.set i (b, e1 u))[k]? = some q → q.1 < H.size := by
    intro k q hq
    by_cases e : i = k
    · subst e
      have hl := (List.getElem?_eq_some_iff.mp hi).1
      rw [List.getElem?_set_self hl] at hq
      cases hq
      exact hbl
    · rw [List.getElem?_set_ne e] at hq
      exact (hW.1 k q hq).lt
  have h1 : va_P g.1 vwCl (world.set i (b, e1 u)) H1 := hW1.1
  have h2 : va_D A (world.set i (b, e1 u)) := hW1.2.1
  rw [← hnew u]
  exact ⟨h1.app hPt, va_D.app h2 hDt (fun k1 k2 x z hx hz hxz => by
    have a1 := hold k1 x hx
    have a2 := new k2 z hz
    omega), hS⟩
theorem wNew {C : String} {T : u_T} {N ci : Nat} {fs : List Value} (E : En cc own wsl nL rt p s m args meth c) (hK : KK g s) (hin : ∀ w ∈ u_ws C T N, w ∈ wsl) (ty : Nat → FieldType) (hty : ∀ k, k < N → parseFieldDescriptor (T k).2.2.1 = some (ty k)) (hcl : Cond.classLink own index C ∈ wsl) (hinst : Cond.instantiable C N ∈ wsl) (hini : Cond.initialized C ∈ wsl)
    (hW : Wo g A s H locs world) (hA : ∀ q, s.heap.size ≤ q → A q) (hc : vwCl[ci]? = some (C, T, N)) (hfs : ∀ j, j < N → defaultValue (ty j) = vp_V fs j) (hcells : cells + 1 ≤ R.cells) (hslots : slots + N ≤ R.slots) (hdg : decode cc pc = .ok (.new index, 3))
    (kk : ∀ (q : Nat) (H : Heap) (locs : List Loc), Wo g A s H locs (world ++ [(q, .inr (ci, fs))]) → W p l e R s m args below meth c H locs (cells + 1) (slots + N) Q (F0 m (pc + 3) ls (.ref q :: rest))) : W p l e R s m args below meth c H locs cells slots Q (F0 m pc ls rest) := by
  obtain ⟨hx, hb, -, hts, hown, -, -⟩ := E
  exact va_new (ci := ci) (fs := fs) hx hb hts hin ty hty hown (hts _ hcl) (hts _ hinst) (hts _ hini) hK.1 hW.1 hW.2.1 hW.2.2 hA hc hfs hcells hslots hdg (fun q H1 h1 h2 h3 => kk q H1 _ ⟨h1, h2, h3⟩)
theorem KK.arr {t0 : Nat} {cA cB : ClassId} {ty : FieldType} (hK : va_K g.1 vwCl (tysA g ++ [(cB, ty)]) s) (ht : (tysA g)[t0]? = some (cA, ty)) (ho : ∀ C, ty ≠ .object C) : cB = cA := by
  have h1 := (hK.2 t0 (cA, ty) (by rw [List.getElem?_append_left (List.getElem?_eq_some_iff.mp ht).1]; exact ht)).2
  have h2 := (hK.2 (tysA g).length (cB, ty) (by simp)).2
  cases ty with
  | object C => exact absurd rfl (ho C)
  | _ => exact Option.some.inj (h2.symm.trans h1)
theorem wNewa {atype : ArrayType} {ty : FieldType} {n : Int32} {N' : Nat} {cA : ClassId} {a0 : vp_A} (E : En cc own wsl nL rt p s m args meth c) (hK : KK g s) (harr : Cond.arrayClass (newarray.typeOf atype) ∈ wsl) (hty : newarray.typeOf atype = ty) (hW : Wo g A s H locs world) (hA : ∀ q, s.heap.size ≤ q → A q) (t0 : Nat) (ht : (tysA g)[t0]? = some (cA, ty)) (ho : ∀ C, ty ≠ .object C)
    (ha : ∀ cA : ClassId, vp_cell cA a0 = arrV cA N' (fun _ => defaultValue ty)) (hn : ¬ n < 0) (hN : n.toNatClampNeg = N') (hbytes : N' * componentBytes ty ≤ 536870912) (hcells : cells + 1 ≤ R.cells) (hslots : slots + N' ≤ R.slots) (hdg : decode cc pc = .ok (.newarray atype, 2))
    (kk : ∀ (q : Nat) (H : Heap) (locs : List Loc), Wo g A s H locs (world ++ [(q, .inl (cA, a0))]) → W p l e R s m args below meth c H locs (cells + 1) (slots + N') Q (F0 m (pc + 2) ls (.ref q :: rest))) : W p l e R s m args below meth c H locs cells slots Q (F0 m pc ls (.int n :: rest)) := by
  obtain ⟨hx, hb, -, hts, hown, -, -⟩ := E
  refine va_newa (a0 := a0) hx hb (hts _ harr) hty hK.1 hW.1 hW.2.1 hW.2.2 hA ha hn hN hbytes hcells hslots hdg (fun q cB H1 hK1 h1 h2 h3 => kk q H1 _ ?_)
  have e := KK.arr hK1 ht ho
  subst e
  exact ⟨h1, h2, h3⟩
theorem arr0I (N : Nat) (ty : FieldType) (h : defaultValue ty = .int 0) (cA : ClassId) : vp_cell cA (N, .inl (fun _ => 0)) = arrV cA N (fun _ => defaultValue ty) := by
  rw [h]; rfl
theorem arr0J (N : Nat) (cA : ClassId) : vp_cell cA (N, .inr (.inl (fun _ => 0))) = arrV cA N (fun _ => defaultValue .long) := rfl
end CTOR
