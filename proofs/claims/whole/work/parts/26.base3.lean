/-! enum constants as values, grids, the ring of stations -/
abbrev StT : Type := (Nat → Int32) × Int32 × (Nat → Int32) × Int32 × (Nat → Int32) × (Nat → Int32) × Int32 × Int32 × Int32 × Int32 × Int32
noncomputable def w_X3 (g : GE) (z : ZE) (h0 h1 h2 h3 : Nat) (h4 : Nat → Nat) (x_signs : Nat → Int32) (x_length : Int32) (x_position : Int32) (x_kinds : Nat → Option Nat) (x_values : Nat → Nat → Int32) (x_commandCount : Int32) : va_W := [(h0, .inr (4, [.ref h1, .int x_length, .int x_position, .ref h2, .ref h3, .int x_commandCount])), (h1, .inl (g.2 2, 60, .inl x_signs)), (h2, .inl (g.2 5, 15, .inr (.inr (.inr (.inr (fun i => (x_kinds i).map z.2)))))), (h3, .inl (g.2 6, 15, .inr (.inr (.inr (.inr (fun i => if i < 15 then some (h4 i) else none))))))] ++ (List.range 15).map (fun i => (h4 i, .inl (g.2 0, 3, .inl (x_values i))))
noncomputable def w_X6 (g : GE) (h0 h1 : Nat) (h2 : Nat → Nat) (x_ring : Nat → StT) (x_next : Int32) (x_count : Int32) : va_W := [(h0, .inr (7, [.ref h1, .int x_next, .int x_count])), (h1, .inl (g.2 4, 8, .inr (.inr (.inr (.inr (fun i => ([h2 0, h2 8, h2 16, h2 24, h2 32, h2 40, h2 48, h2 56] : List Nat)[i]?))))))] ++ (w_X11 g (h2 0) (h2 1) (h2 2) (h2 3) (h2 4) (h2 5) (h2 6) (h2 7) (x_ring 0).1 (x_ring 0).2.1 (x_ring 0).2.2.1 (x_ring 0).2.2.2.1 (x_ring 0).2.2.2.2.1 (x_ring 0).2.2.2.2.2.1 (x_ring 0).2.2.2.2.2.2.1 (x_ring 0).2.2.2.2.2.2.2.1 (x_ring 0).2.2.2.2.2.2.2.2.1 (x_ring 0).2.2.2.2.2.2.2.2.2.1 (x_ring 0).2.2.2.2.2.2.2.2.2.2 ++ (w_X11 g (h2 8) (h2 9) (h2 10) (h2 11) (h2 12) (h2 13) (h2 14) (h2 15) (x_ring 1).1 (x_ring 1).2.1 (x_ring 1).2.2.1 (x_ring 1).2.2.2.1 (x_ring 1).2.2.2.2.1 (x_ring 1).2.2.2.2.2.1 (x_ring 1).2.2.2.2.2.2.1 (x_ring 1).2.2.2.2.2.2.2.1 (x_ring 1).2.2.2.2.2.2.2.2.1 (x_ring 1).2.2.2.2.2.2.2.2.2.1 (x_ring 1).2.2.2.2.2.2.2.2.2.2 ++ (w_X11 g (h2 16) (h2 17) (h2 18) (h2 19) (h2 20) (h2 21) (h2 22) (h2 23) (x_ring 2).1 (x_ring 2).2.1 (x_ring 2).2.2.1 (x_ring 2).2.2.2.1 (x_ring 2).2.2.2.2.1 (x_ring 2).2.2.2.2.2.1 (x_ring 2).2.2.2.2.2.2.1 (x_ring 2).2.2.2.2.2.2.2.1 (x_ring 2).2.2.2.2.2.2.2.2.1 (x_ring 2).2.2.2.2.2.2.2.2.2.1 (x_ring 2).2.2.2.2.2.2.2.2.2.2 ++ (w_X11 g (h2 24) (h2 25) (h2 26) (h2 27) (h2 28) (h2 29) (h2 30) (h2 31) (x_ring 3).1 (x_ring 3).2.1 (x_ring 3).2.2.1 (x_ring 3).2.2.2.1 (x_ring 3).2.2.2.2.1 (x_ring 3).2.2.2.2.2.1 (x_ring 3).2.2.2.2.2.2.1 (x_ring 3).2.2.2.2.2.2.2.1 (x_ring 3).2.2.2.2.2.2.2.2.1 (x_ring 3).2.2.2.2.2.2.2.2.2.1 (x_ring 3).2.2.2.2.2.2.2.2.2.2 ++ (w_X11 g (h2 32) (h2 33) (h2 34) (h2 35) (h2 36) (h2 37) (h2 38) (h2 39) (x_ring 4).1 (x_ring 4).2.1 (x_ring 4).2.2.1 (x_ring 4).2.2.2.1 (x_ring 4).2.2.2.2.1 (x_ring 4).2.2.2.2.2.1 (x_ring 4).2.2.2.2.2.2.1 (x_ring 4).2.2.2.2.2.2.2.1 (x_ring 4).2.2.2.2.2.2.2.2.1 (x_ring 4).2.2.2.2.2.2.2.2.2.1 (x_ring 4).2.2.2.2.2.2.2.2.2.2 ++ (w_X11 g (h2 40) (h2 41) (h2 42) (h2 43) (h2 44) (h2 45) (h2 46) (h2 47) (x_ring 5).1 (x_ring 5).2.1 (x_ring 5).2.2.1 (x_ring 5).2.2.2.1 (x_ring 5).2.2.2.2.1 (x_ring 5).2.2.2.2.2.1 (x_ring 5).2.2.2.2.2.2.1 (x_ring 5).2.2.2.2.2.2.2.1 (x_ring 5).2.2.2.2.2.2.2.2.1 (x_ring 5).2.2.2.2.2.2.2.2.2.1 (x_ring 5).2.2.2.2.2.2.2.2.2.2 ++ (w_X11 g (h2 48) (h2 49) (h2 50) (h2 51) (h2 52) (h2 53) (h2 54) (h2 55) (x_ring 6).1 (x_ring 6).2.1 (x_ring 6).2.2.1 (x_ring 6).2.2.2.1 (x_ring 6).2.2.2.2.1 (x_ring 6).2.2.2.2.2.1 (x_ring 6).2.2.2.2.2.2.1 (x_ring 6).2.2.2.2.2.2.2.1 (x_ring 6).2.2.2.2.2.2.2.2.1 (x_ring 6).2.2.2.2.2.2.2.2.2.1 (x_ring 6).2.2.2.2.2.2.2.2.2.2 ++ (w_X11 g (h2 56) (h2 57) (h2 58) (h2 59) (h2 60) (h2 61) (h2 62) (h2 63) (x_ring 7).1 (x_ring 7).2.1 (x_ring 7).2.2.1 (x_ring 7).2.2.2.1 (x_ring 7).2.2.2.2.1 (x_ring 7).2.2.2.2.2.1 (x_ring 7).2.2.2.2.2.2.1 (x_ring 7).2.2.2.2.2.2.2.1 (x_ring 7).2.2.2.2.2.2.2.2.1 (x_ring 7).2.2.2.2.2.2.2.2.2.1 (x_ring 7).2.2.2.2.2.2.2.2.2.2))))))))
def oN {β : Type} (o : Option Nat) (a : β) (b : Nat → β) : β := match o with
  | none => a
  | some i => b i
theorem oNx {R : Type} {o : Option Nat} {a : Option R} {b : Nat → Option R} {r : R} (h : oN o a b = some r) : (o = none ∧ a = some r) ∨ ∃ i, o = some i ∧ b i = some r := by
  cases o with
  | none => exact Or.inl ⟨rfl, h⟩
  | some i => exact Or.inr ⟨i, rfl, h⟩
theorem oN0 {R : Type} {o : Option Nat} {b : Nat → Option R} {r : R} (h : oN o none b = some r) : ∃ i, o = some i ∧ b i = some r := by
  cases o with
  | none => cases h
  | some i => exact ⟨i, rfl, h⟩
theorem kst_map {ad : Nat → Nat} (f : Nat → Option Nat) (k i : Nat) : va_up (fun j => (f j).map ad) k (some (ad i)) = fun j => ((va_up f k (some i)) j).map ad := by
  funext j
  by_cases h : j = k
  · simp [va_up, h]
  · simp [va_up, h]
section KIND
variable {p : Program} {l : Launch} {e : Env} {R : Room} {s : State} {m : MethodId} {args : Array Value} {below : List Frame} {meth : Method} {c : Code} {H : Heap} {locs : List Loc} {cells slots : Nat} {Q : State → Prop}
variable {cc : ByteArray} {own : String} {wsl : List Cond} {nL : Nat} {rt : Option FieldType} {g : GE} {z : ZE} {A : Nat → Prop} {world world' : va_W} {pc index a : Nat} {ls : Array Slot} {rest : List Value}
theorem lv_aloadR_n (hexec : p.tables.exec = Jvm.exec) (hb : c.code = cc) {k : Fin 4} {i : Nat} {ad : Nat → Nat} {o : Option Nat} (hdg : decode cc pc = .ok (.aload_n k, 1)) (hi : (k : Nat) = i) (hl : ls[i]? = some (.val (va_re ad o)))
    (kk : W p l e R s m args below meth c H locs cells slots Q (F0 m (pc + 1) ls (va_re ad o :: rest))) : W p l e R s m args below meth c H locs cells slots Q (F0 m pc ls rest) := by
  cases o with
  | none => exact lv_aload_nN hexec hb hdg hi hl kk
  | some x => exact lv_aload_n hexec hb hdg hi hl kk
theorem lv_aloadR (hexec : p.tables.exec = Jvm.exec) (hb : c.code = cc) {i : Nat} {ad : Nat → Nat} {o : Option Nat} (hdg : decode cc pc = .ok (.aload i, 2)) (hl : ls[i]? = some (.val (va_re ad o)))
    (kk : W p l e R s m args below meth c H locs cells slots Q (F0 m (pc + 2) ls (va_re ad o :: rest))) : W p l e R s m args below meth c H locs cells slots Q (F0 m pc ls rest) := by
  cases o with
  | none => exact lv_aloadN hexec hb hdg hl kk
  | some x => exact lv_aload hexec hb hdg hl kk
theorem lv_astoreR_n (hexec : p.tables.exec = Jvm.exec) (hb : c.code = cc) {k : Fin 4} {i nL : Nat} {ad : Nat → Nat} {o : Option Nat} {lv lv' : List (Nat × Value)} (hdg : decode cc pc = .ok (.astore_n k, 1)) (hi : (k : Nat) = i) (h : lv_has ls nL lv) (hn : i < nL) (hl : (i, va_re ad o) :: lv.filter (fun q => !(q.1 == i) && !(q.1 + 1 == i && q.2.category == 2)) = lv')
    (kk : ∀ ls' : Array Slot, lv_has ls' nL lv' → W p l e R s m args below meth c H locs cells slots Q (F0 m (pc + 1) ls' rest)) : W p l e R s m args below meth c H locs cells slots Q (F0 m pc ls (va_re ad o :: rest)) := by
  cases o with
  | none => exact lv_astore_nN hexec hb hdg hi h hn hl kk
  | some x => exact lv_astore_n hexec hb hdg hi h hn hl kk
theorem lv_astoreR (hexec : p.tables.exec = Jvm.exec) (hb : c.code = cc) {i nL : Nat} {ad : Nat → Nat} {o : Option Nat} {lv lv' : List (Nat × Value)} (hdg : decode cc pc = .ok (.astore i, 2)) (h : lv_has ls nL lv) (hn : i < nL) (hl : (i, va_re ad o) :: lv.filter (fun q => !(q.1 == i) && !(q.1 + 1 == i && q.2.category == 2)) = lv')
    (kk : ∀ ls' : Array Slot, lv_has ls' nL lv' → W p l e R s m args below meth c H locs cells slots Q (F0 m (pc + 2) ls' rest)) : W p l e R s m args below meth c H locs cells slots Q (F0 m pc ls (va_re ad o :: rest)) := by
  cases o with
  | none => exact lv_astoreN hexec hb hdg h hn hl kk
  | some x => exact lv_astore hexec hb hdg h hn hl kk
theorem lv_ifnullR (hexec : p.tables.exec = Jvm.exec) (hb : c.code = cc) {x : Nat} {off : Int} (hdg : decode cc pc = .ok (.ifnull off, 3)) (kk : W p l e R s m args below meth c H locs cells slots Q (F0 m (pc + 3) ls rest)) : W p l e R s m args below meth c H locs cells slots Q (F0 m pc ls (.ref x :: rest)) := lv_ifnull hexec hb hdg kk
theorem wKald {n : Nat} {f : Nat → Option Nat} {i : Int32} (E : En cc own wsl nL rt p s m args meth c) (hK : KK g s) (hW : Wo g A s H locs world) (q0 : Nat) (ha : world[q0]? = some (a, .inl (g.2 5, n, .inr (.inr (.inr (.inr (fun i => (f i).map z.2))))))) (hin : ¬ (i < 0 ∨ n ≤ i.toNatClampNeg)) (hdg : decode cc pc = .ok (.aaload, 1))
    (kk : W p l e R s m args below meth c H locs cells slots Q (F0 m (pc + 1) ls (va_re z.2 (f i.toNatClampNeg) :: rest))) : W p l e R s m args below meth c H locs cells slots Q (F0 m pc ls (.int i :: .ref a :: rest)) :=
  va_aldq E.1 E.2.1 hK.1 hW.1 q0 5 ha rfl hin hdg kk
theorem wRald {n : Nat} {f : Nat → Option Nat} {i : Int32} {b : Nat} (E : En cc own wsl nL rt p s m args meth c) (hK : KK g s) (hW : Wo g A s H locs world) (q0 : Nat) (ha : world[q0]? = some (a, .inl (g.2 4, n, .inr (.inr (.inr (.inr f)))))) (hin : ¬ (i < 0 ∨ n ≤ i.toNatClampNeg)) (hv : f i.toNatClampNeg = some b) (hdg : decode cc pc = .ok (.aaload, 1))
    (kk : W p l e R s m args below meth c H locs cells slots Q (F0 m (pc + 1) ls (.ref b :: rest))) : W p l e R s m args below meth c H locs cells slots Q (F0 m pc ls (.int i :: .ref a :: rest)) :=
  va_aldq E.1 E.2.1 hK.1 hW.1 q0 4 ha rfl hin hdg (by rw [hv]; exact kk)
theorem wGald {n : Nat} {fn : Nat → Nat} {i : Int32} (E : En cc own wsl nL rt p s m args meth c) (hK : KK g s) (hW : Wo g A s H locs world) (q0 : Nat) (ha : world[q0]? = some (a, .inl (g.2 6, n, .inr (.inr (.inr (.inr (fun i => if i < n then some (fn i) else none))))))) (hin : ¬ (i < 0 ∨ n ≤ i.toNatClampNeg)) (hdg : decode cc pc = .ok (.aaload, 1))
    (kk : W p l e R s m args below meth c H locs cells slots Q (F0 m (pc + 1) ls (.ref (fn i.toNatClampNeg) :: rest))) : W p l e R s m args below meth c H locs cells slots Q (F0 m pc ls (.int i :: .ref a :: rest)) := by
  have hlt : i.toNatClampNeg < n := Nat.not_le.mp fun q => hin (Or.inr q)
  exact W.aald (v := .ref (fn i.toNatClampNeg)) (ty := .array .int) E.1 E.2.1 (hW.1 q0 _ ha) ((hK.1.2 6 _ rfl).1 n (fun j => va_rf (if j < n then some (fn j) else none))) rfl (fun q => by cases q) (by show ¬ (i < 0 ∨ (arrV _ _ _).slots.size ≤ _); rw [arrV_size]; exact hin) (by show (arrV _ _ _).slots[_]? = _; rw [arrV_read _ _ hlt]; show some (va_rf (if i.toNatClampNeg < n then some (fn i.toNatClampNeg) else none)) = _; rw [if_pos hlt]; rfl) rfl rfl hdg kk
theorem wKast {n k : Nat} {f : Nat → Option Nat} {i : Int32} (E : En cc own wsl nL rt p s m args meth c) (hK : KK g s) (hC : CS z A s s.heap) (hk : k < 10) (hW : Wo g A s H locs world) (q0 : Nat) (ha : world[q0]? = some (a, .inl (g.2 5, n, .inr (.inr (.inr (.inr (fun i => (f i).map z.2))))))) (hin : ¬ (i < 0 ∨ n ≤ i.toNatClampNeg)) (hdg : decode cc pc = .ok (.aastore, 1)) (hnew : world.set q0 (a, .inl (g.2 5, n, .inr (.inr (.inr (.inr (va_up (fun i => (f i).map z.2) i.toNatClampNeg (some (z.2 k)))))))) = world')
    (kk : ∀ (H : Heap) (locs : List Loc), Wo g A s H locs world' → W p l e R s m args below meth c H locs cells slots Q (F0 m (pc + 1) ls rest)) : W p l e R s m args below meth c H locs cells slots Q (F0 m pc ls (.ref (z.2 k) :: .int i :: .ref a :: rest)) := by
  subst hnew
  exact vb_astq (C := "PaperStorm$Kind") E.1 E.2.1 hK.1 hW.1 hW.2.1 hW.2.2 q0 5 ha rfl (va_recvE hC.2.2.2.1 hk hW.2.2) (fun comp c0 h1 h2 => by
    have e := Option.some.inj (h1.symm.trans h2)
    subst e
    exact va_asg _ _) hin hdg (fun H1 l1 h1 h2 h3 => kk H1 l1 ⟨h1, h2, h3⟩)
theorem wKstr {fld host : String} {vv : Nat → Value} {i : Nat} {v : Value} (hE : va_Ef 10 "PaperStorm$Kind" fld "Ljava/lang/String;" vv z.2 A s s.heap) (hi : i < 10) (hlk : Cond.fieldLinkNest own index "PaperStorm$Kind" fld "Ljava/lang/String;" host ∈ nestW) (E : En cc own wsl nL rt p s m args meth c) (hK : KK g s) (hW : Wo g A s H locs world) (hdg : decode cc pc = .ok (.getfield index, 3))
    (kk : W p l e R s m args below meth c H locs cells slots Q (F0 m (pc + 3) ls (v :: rest))) (hv : vv i = v := by exact rfl) : W p l e R s m args below meth c H locs cells slots Q (F0 m pc ls (.ref (z.2 i) :: rest)) := by
  subst hv
  obtain ⟨cf, k, fi, f, cell, h1, h2, h3, h4, h5, h6⟩ := (hE i hi).kept hW.2.2.2.1
  exact va_Wgetf E.1 E.2.1 E.2.2.2.2.1 (va_Nw.use (nestW_tab _ hlk) (hK.2 _ hlk)) h1 h2 h3 h4 h5 rfl rfl hdg kk
theorem endE {ws1 : va_W} {r : Option Nat} {fty : String} (E : En cc own wsl nL (some (.object fty)) p s m args meth c) (hW : Wo g A s H locs ws1) (hdg : decode cc pc = .ok (.areturn, 1)) : W p l e R s m args below meth c H locs cells slots (MQ below (PoE g z A ws1 r) args s cells slots A) (F0 m pc ls [va_re z.2 r]) := by
  obtain ⟨hx, hb, hr, hts, hown, hlocks, hml⟩ := E
  exact W.aret hx hb hr (Or.inl ⟨_, rfl⟩) (by cases r with
    | none => exact Or.inl rfl
    | some i => exact Or.inr ⟨z.2 i, rfl⟩) (fun t ht _ => ⟨⟨r, (), rfl, rfl, by show va_P _ _ _ t.heap; rw [ht]; exact hW.1⟩, hW.2.2.F ht⟩) hW.2.2.2.2 hdg
end KIND
theorem gridAt {g : GE} {z : ZE} {h0 h1 h2 h3 : Nat} {h4 : Nat → Nat} {x_signs : Nat → Int32} {x_length x_position : Int32} {x_kinds : Nat → Option Nat} {M : Nat → Nat → Int32} {x_commandCount : Int32} {i : Nat} (hi : i < 15) : (w_X3 g z h0 h1 h2 h3 h4 x_signs x_length x_position x_kinds M x_commandCount)[4 + i]? = some (h4 i, .inl (g.2 0, 3, .inl (M i))) := by
  unfold w_X3
  rw [List.getElem?_append_right (by simp)]
  simp [hi]
theorem map_set {α : Type} (F F' : Nat → α) (n i : Nat) (h : ∀ j, j ≠ i → F' j = F j) : ((List.range n).map F).set i (F' i) = (List.range n).map F' := by
  apply List.ext_getElem
  · simp
  · intro k h1 h2
    rw [List.getElem_set]
    by_cases e : i = k
    · subst e; simp
    · rw [if_neg e]
      simp [h k (Ne.symm e)]
theorem gridSet {g : GE} {z : ZE} {h0 h1 h2 h3 : Nat} {h4 : Nat → Nat} {x_signs : Nat → Int32} {x_length x_position : Int32} {x_kinds : Nat → Option Nat} {M : Nat → Nat → Int32} {x_commandCount : Int32} {i : Nat} {r : Nat → Int32} (hi : i < 15) : (w_X3 g z h0 h1 h2 h3 h4 x_signs x_length x_position x_kinds M x_commandCount).set (4 + i) (h4 i, .inl (g.2 0, 3, .inl r)) = w_X3 g z h0 h1 h2 h3 h4 x_signs x_length x_position x_kinds (va_up M i r) x_commandCount := by
  unfold w_X3
  rw [List.set_append_right _ _ (by simp)]
  congr 1
  have e : 4 + i - 4 = i := by omega
  simp only [List.length_cons, List.length_nil]
  rw [show 4 + i - (0 + 1 + 1 + 1 + 1) = i by omega]
  have := map_set (fun i => ((h4 i, .inl (g.2 0, 3, .inl (M i))) : Nat × va_E)) (fun j => ((h4 j, .inl (g.2 0, 3, .inl (va_up M i r j))) : Nat × va_E)) 15 i (fun j hj => by simp [va_up, hj])
  simpa [va_up] using this
