/-! counting places -/
noncomputable def cntP (p : Nat → Prop) : Nat → Nat
  | 0 => 0
  | n + 1 => cntP p n + @ite Nat (p n) (Classical.propDecidable _) 1 0
theorem cntP_congr {p q : Nat → Prop} : ∀ {n : Nat}, (∀ k, k < n → (p k ↔ q k)) → cntP p n = cntP q n
  | 0, _ => rfl
  | n + 1, h => by
    rw [cntP, cntP, cntP_congr (fun k hk => h k (by omega))]
    congr 1
    by_cases hp : p n
    · rw [if_pos hp, if_pos ((h n (by omega)).mp hp)]
    · rw [if_neg hp, if_neg (fun hq => hp ((h n (by omega)).mpr hq))]
theorem cntP_add {p q : Nat → Prop} {v : Nat} (hp : ¬ p v) : ∀ {n : Nat}, v < n → (∀ k, k < n → (q k ↔ p k ∨ k = v)) → cntP q n = cntP p n + 1
  | 0, h, _ => by omega
  | n + 1, hv, h => by
    rw [cntP, cntP]
    by_cases e : v = n
    · subst e
      rw [cntP_congr (p := q) (q := p) (fun k hk => ⟨fun a => ((h k (by omega)).mp a).resolve_right (by omega), fun a => (h k (by omega)).mpr (Or.inl a)⟩), if_pos ((h v (by omega)).mpr (Or.inr rfl)), if_neg hp]
    · rw [cntP_add hp (show v < n by omega) (fun k hk => h k (by omega))]
      have e2 : (q n) = (p n) := propext ⟨fun a => ((h n (by omega)).mp a).resolve_right (fun x => e x.symm), fun a => (h n (by omega)).mpr (Or.inl a)⟩
      rw [e2, Nat.add_right_comm]
theorem cntP_le (p : Nat → Prop) : ∀ n, cntP p n ≤ n
  | 0 => Nat.le_refl _
  | n + 1 => by
    rw [cntP]
    have := cntP_le p n
    by_cases hp : p n
    · rw [if_pos hp]; omega
    · rw [if_neg hp]; omega
theorem cntP_all {p : Nat → Prop} : ∀ {n : Nat}, (∀ k, k < n → p k) → cntP p n = n
  | 0, _ => rfl
  | n + 1, h => by rw [cntP, cntP_all (fun k hk => h k (by omega)), if_pos (h n (by omega))]
theorem cntP_none {p : Nat → Prop} : ∀ {n : Nat}, (∀ k, k < n → ¬ p k) → cntP p n = 0
  | 0, _ => rfl
  | n + 1, h => by rw [cntP, cntP_none (fun k hk => h k (by omega)), if_neg (h n (by omega))]
theorem cntP_ex {p : Nat → Prop} {n : Nat} (h : cntP p n < n) : ∃ k, k < n ∧ ¬ p k := Classical.byContradiction fun hn => by
  have : ∀ k, k < n → p k := fun k hk => Classical.byContradiction fun hp => hn ⟨k, hk, hp⟩
  rw [cntP_all this] at h
  omega
theorem cntP_full {p : Nat → Prop} : ∀ {n : Nat}, cntP p n = n → ∀ k, k < n → p k
  | 0, _, k, hk => by omega
  | n + 1, h, k, hk => by
    rw [cntP] at h
    have hl := cntP_le p n
    by_cases hp : p n
    · rw [if_pos hp] at h
      by_cases e : k = n
      · subst e; exact hp
      · exact cntP_full (n := n) (by omega) k (by omega)
    · rw [if_neg hp] at h
      omega
theorem cntP_pos {p : Nat → Prop} {v : Nat} (hp : p v) : ∀ {n : Nat}, v < n → 1 ≤ cntP p n
  | 0, h => by omega
  | n + 1, h => by
    rw [cntP]
    by_cases e : v = n
    · subst e; rw [if_pos hp]; omega
    · have := cntP_pos hp (show v < n by omega)
      omega
/-! neighbours, edges, merged groups -/
def nb (y z : Nat) : Prop := (z = y + 1 ∧ y % 5 ≠ 4) ∨ (y = z + 1 ∧ z % 5 ≠ 4) ∨ z = y + 5 ∨ y = z + 5
theorem nb_symm {y z : Nat} (h : nb y z) : nb z y := by
  rcases h with h | h | h | h
  · exact Or.inr (Or.inl h)
  · exact Or.inl h
  · exact Or.inr (Or.inr (Or.inr h))
  · exact Or.inr (Or.inr (Or.inl h))
theorem dst_symm (x y : Int32) : dst x y = dst y x := by
  unfold dst
  by_cases h : x ≤ y
  · by_cases h2 : y ≤ x
    · have e : x = y := Int32.le_antisymm h h2
      rw [e]
    · rw [if_pos h, if_neg h2]
  · by_cases h2 : y ≤ x
    · rw [if_neg h, if_pos h2]
    · exact absurd (Int32.le_total x y) (fun q => q.elim h h2)
theorem frt_symm (c : Nat → Int32) (t : Int32) (a b : Nat) : frt c t a b = frt c t b a := by
  unfold frt
  rw [dst_symm]
def edg (c : Nat → Int32) (t : Int32) (y z : Nat) : Prop := y < 25 ∧ z < 25 ∧ nb y z ∧ frt c t y z = 0
theorem edg_symm {c : Nat → Int32} {t : Int32} {y z : Nat} (h : edg c t y z) : edg c t z y := ⟨h.2.1, h.1, nb_symm h.2.2.1, (frt_symm c t z y).trans h.2.2.2⟩
def mrg (r : Nat → Int32) (a b : Nat) : Nat → Int32 := fun k => if k < 25 ∧ r k = r a then r b else r k
theorem mrg_at {r : Nat → Int32} {a b x : Nat} (hx : x < 25) : mrg r a b x = if r x = r a then r b else r x := by
  unfold mrg
  by_cases h : r x = r a
  · rw [if_pos ⟨hx, h⟩, if_pos h]
  · rw [if_neg (fun q => h q.2), if_neg h]
theorem mrg_noop {r : Nat → Int32} {a b : Nat} (h : r a = r b) : mrg r a b = r := by
  funext k
  unfold mrg
  by_cases e : k < 25 ∧ r k = r a
  · rw [if_pos e, e.2, h]
  · rw [if_neg e]
theorem mrg_ker {r : Nat → Int32} {a b x y : Nat} (hx : x < 25) (hy : y < 25) : mrg r a b x = mrg r a b y ↔ (r x = r y ∨ ((r x = r a ∨ r x = r b) ∧ (r y = r a ∨ r y = r b))) := by
  rw [mrg_at hx, mrg_at hy]
  by_cases h1 : r x = r a <;> by_cases h2 : r y = r a
  · rw [if_pos h1, if_pos h2]; exact ⟨fun _ => Or.inl (h1.trans h2.symm), fun _ => rfl⟩
  · rw [if_pos h1, if_neg h2]
    refine ⟨fun h => Or.inr ⟨Or.inl h1, Or.inr h.symm⟩, fun h => ?_⟩
    rcases h with h | ⟨-, h | h⟩
    · exact absurd (h.symm.trans h1) h2
    · exact absurd h h2
    · exact h.symm
  · rw [if_neg h1, if_pos h2]
    refine ⟨fun h => Or.inr ⟨Or.inr h, Or.inl h2⟩, fun h => ?_⟩
    rcases h with h | ⟨h | h, -⟩
    · exact absurd (h.trans h2) h1
    · exact absurd h h1
    · exact h
  · rw [if_neg h1, if_neg h2]
    refine ⟨fun h => Or.inl h, fun h => ?_⟩
    rcases h with h | ⟨h | h, h3 | h3⟩
    · exact h
    · exact absurd h h1
    · exact absurd h h1
    · exact absurd h3 h2
    · exact h.trans h3.symm
theorem mrg_mono {r : Nat → Int32} {a b x y : Nat} (hx : x < 25) (hy : y < 25) (h : r x = r y) : mrg r a b x = mrg r a b y := (mrg_ker hx hy).mpr (Or.inl h)
theorem mrg_ab {r : Nat → Int32} {a b : Nat} (ha : a < 25) (hb : b < 25) : mrg r a b a = mrg r a b b := (mrg_ker ha hb).mpr (Or.inr ⟨Or.inl rfl, Or.inr rfl⟩)
/-- each cell's group is named by a cell of its own -/
def Rep (r : Nat → Int32) : Prop := ∀ k, k < 25 → ∃ v, v < 25 ∧ r k = nI v ∧ r v = nI v
theorem mrg_rep {r : Nat → Int32} (h : Rep r) {a b : Nat} (hb : b < 25) (hab : r a ≠ r b) : Rep (mrg r a b) := by
  intro k hk
  rw [mrg_at hk]
  by_cases e : r k = r a
  · obtain ⟨v, hv, e1, e2⟩ := h b hb
    refine ⟨v, hv, by rw [if_pos e, e1], ?_⟩
    rw [mrg_at hv, if_neg (by rw [e2, ← e1]; exact fun q => hab q.symm), e2]
  · obtain ⟨v, hv, e1, e2⟩ := h k hk
    refine ⟨v, hv, by rw [if_neg e, e1], ?_⟩
    rw [mrg_at hv, if_neg (by rw [e2, ← e1]; exact e), e2]
theorem mrg_fix {r : Nat → Int32} (h : Rep r) {a b : Nat} (ha : a < 25) (hb : b < 25) (hab : r a ≠ r b) : cntP (fun v => r v = nI v) 25 = cntP (fun v => mrg r a b v = nI v) 25 + 1 := by
  obtain ⟨va, hva, ea, fa⟩ := h a ha
  obtain ⟨vb, hvb, eb, fb⟩ := h b hb
  refine cntP_add (v := va) ?_ hva (fun k hk => ?_)
  · show ¬ mrg r a b va = nI va
    rw [mrg_at hva, if_pos (fa.trans ea.symm)]
    exact fun q => hab (ea.trans q.symm)
  · show r k = nI k ↔ mrg r a b k = nI k ∨ k = va
    rw [mrg_at hk]
    by_cases e : r k = r a
    · rw [if_pos e]
      constructor
      · intro q
        have : nI k = nI va := q.symm.trans (e.trans ea)
        rw [qI_eq (by omega) (by omega)] at this
        exact Or.inr this
      · rintro (q | q)
        · have : nI k = nI vb := q.symm.trans eb
          rw [qI_eq (by omega) (by omega)] at this
          subst this
          exact absurd ((e.symm.trans fb).trans eb.symm) hab
        · subst q; exact fa
    · rw [if_neg e]
      refine ⟨fun q => Or.inl q, fun q => q.elim id (fun q => ?_)⟩
      subst q
      exact fa
/-- what is constant along edges is constant on a group -/
def Uni (c : Nat → Int32) (t : Int32) (r : Nat → Int32) : Prop := ∀ P : Nat → Prop, (∀ y z, edg c t y z → (P y ↔ P z)) → ∀ x, x < 25 → ∀ y, y < 25 → r x = r y → (P x ↔ P y)
theorem mrg_uni {c : Nat → Int32} {t : Int32} {r : Nat → Int32} (h : Uni c t r) {a b : Nat} (hab : edg c t a b) : Uni c t (mrg r a b) := by
  intro P hP x hx y hy e
  rcases (mrg_ker hx hy).mp e with e | ⟨e1, e2⟩
  · exact h P hP x hx y hy e
  · have q := hP a b hab
    have ux : P x ↔ P a := e1.elim (fun e => h P hP x hx a hab.1 e) (fun e => (h P hP x hx b hab.2.1 e).trans q.symm)
    have uy : P y ↔ P a := e2.elim (fun e => h P hP y hy a hab.1 e) (fun e => (h P hP y hy b hab.2.1 e).trans q.symm)
    exact ux.trans uy.symm
/-! the model's groups -/
def jnM (c : Nat → Int32) (t : Int32) (a b : Nat) (r : Nat → Int32) : Nat → Int32 := if frt c t a b = 0 then mrg r a b else r
def stmM (c : Nat → Int32) (t : Int32) (k : Nat) (r : Nat → Int32) : Nat → Int32 := if 20 ≤ k then (if k % 5 = 4 then r else jnM c t k (k + 1) r) else jnM c t k (k + 5) (if k % 5 = 4 then r else jnM c t k (k + 1) r)
def prt (c : Nat → Int32) (t : Int32) (r0 : Nat → Int32) : Nat → Int32 := foldN (stmM c t) 25 0 (fun j => if j < 25 then nI j else r0 j)
/-- groups, class beside model: the same pairs are together, and the class's number counts them -/
def jnC (c : Nat → Int32) (t : Int32) (a b : Nat) (s : Int32 × (Nat → Int32)) : Int32 × (Nat → Int32) := if frt c t a b = 0 then (if s.2 a = s.2 b then s else (s.1 - 1, mrg s.2 b a)) else s
def stcC (c : Nat → Int32) (t : Int32) (k : Nat) (s : Int32 × (Nat → Int32)) : Int32 × (Nat → Int32) := if 20 ≤ k then (if k % 5 = 4 then s else jnC c t k (k + 1) s) else jnC c t k (k + 5) (if k % 5 = 4 then s else jnC c t k (k + 1) s)
def Lock (s : Int32 × (Nat → Int32)) (r : Nat → Int32) : Prop := s.1 = nI (cntP (fun v => r v = nI v) 25) ∧ ∀ x, x < 25 → ∀ y, y < 25 → (s.2 x = s.2 y ↔ r x = r y)
def IM (c : Nat → Int32) (t : Int32) (r : Nat → Int32) : Prop := Rep r ∧ Uni c t r
theorem jnM_ok {c : Nat → Int32} {t : Int32} {a b : Nat} {r : Nat → Int32} (ha : a < 25) (hb : b < 25) (hn : nb a b) (h : IM c t r) : IM c t (jnM c t a b r) ∧ (∀ x, x < 25 → ∀ y, y < 25 → r x = r y → jnM c t a b r x = jnM c t a b r y) ∧ (frt c t a b = 0 → jnM c t a b r a = jnM c t a b r b) := by
  unfold jnM
  by_cases e : frt c t a b = 0
  · rw [if_pos e]
    refine ⟨?_, fun x hx y hy q => mrg_mono hx hy q, fun _ => mrg_ab ha hb⟩
    by_cases q : r a = r b
    · rw [mrg_noop q]; exact h
    · exact ⟨mrg_rep h.1 hb q, mrg_uni h.2 ⟨ha, hb, hn, e⟩⟩
  · rw [if_neg e]
    exact ⟨h, fun x _ y _ q => q, fun q => absurd q e⟩
theorem jn_lock {c : Nat → Int32} {t : Int32} {a b : Nat} {r : Nat → Int32} {s : Int32 × (Nat → Int32)} (ha : a < 25) (hb : b < 25) (h : Rep r) (hl : Lock s r) : Lock (jnC c t a b s) (jnM c t a b r) := by
  unfold jnM jnC
  by_cases e : frt c t a b = 0
  · rw [if_pos e, if_pos e]
    by_cases q : r a = r b
    · rw [if_pos ((hl.2 a ha b hb).mpr q), mrg_noop q]; exact hl
    · rw [if_neg (fun w => q ((hl.2 a ha b hb).mp w))]
      refine ⟨?_, fun x hx y hy => ?_⟩
      · show s.1 - 1 = _
        rw [hl.1, mrg_fix h ha hb q]
        exact (qI_sub (b := 1) (by omega)).trans (congrArg nI (by omega))
      · show mrg s.2 b a x = mrg s.2 b a y ↔ _
        rw [mrg_ker hx hy, mrg_ker hx hy, hl.2 x hx y hy, hl.2 x hx a ha, hl.2 x hx b hb, hl.2 y hy a ha, hl.2 y hy b hb]
        refine ⟨fun q => q.imp id (fun q => ⟨q.1.symm, q.2.symm⟩), fun q => q.imp id (fun q => ⟨q.1.symm, q.2.symm⟩)⟩
  · rw [if_neg e, if_neg e]; exact hl
/-- one cell's two joins -/
theorem st_ok {c : Nat → Int32} {t : Int32} {k : Nat} (hk : k < 25) {r : Nat → Int32} (h : IM c t r) : IM c t (stmM c t k r) ∧ (∀ x, x < 25 → ∀ y, y < 25 → r x = r y → stmM c t k r x = stmM c t k r y) ∧ (k % 5 ≠ 4 → frt c t k (k + 1) = 0 → stmM c t k r k = stmM c t k r (k + 1)) ∧ (k < 20 → frt c t k (k + 5) = 0 → stmM c t k r k = stmM c t k r (k + 5)) := by
  have h1 : IM c t (if k % 5 = 4 then r else jnM c t k (k + 1) r) ∧ (∀ x, x < 25 → ∀ y, y < 25 → r x = r y → (if k % 5 = 4 then r else jnM c t k (k + 1) r) x = (if k % 5 = 4 then r else jnM c t k (k + 1) r) y) ∧ (k % 5 ≠ 4 → frt c t k (k + 1) = 0 → (if k % 5 = 4 then r else jnM c t k (k + 1) r) k = (if k % 5 = 4 then r else jnM c t k (k + 1) r) (k + 1)) := by
    by_cases h4 : k % 5 = 4
    · rw [if_pos h4]
      exact ⟨h, fun x _ y _ q => q, fun q => absurd h4 q⟩
    · rw [if_neg h4]
      have q := jnM_ok hk (show k + 1 < 25 by omega) (Or.inl ⟨rfl, h4⟩) h
      exact ⟨q.1, q.2.1, fun _ => q.2.2⟩
  unfold stmM
  generalize (if k % 5 = 4 then r else jnM c t k (k + 1) r) = r1 at h1 ⊢
  by_cases h20 : 20 ≤ k
  · rw [if_pos h20]
    exact ⟨h1.1, h1.2.1, h1.2.2, fun q => absurd h20 (by omega)⟩
  · rw [if_neg h20]
    have q := jnM_ok hk (show k + 5 < 25 by omega) (Or.inr (Or.inr (Or.inl rfl))) h1.1
    refine ⟨q.1, fun x hx y hy e => q.2.1 x hx y hy (h1.2.1 x hx y hy e), fun h4 e => ?_, fun _ => q.2.2⟩
    exact q.2.1 k hk (k + 1) (by omega) (h1.2.2 h4 e)
theorem st_lock {c : Nat → Int32} {t : Int32} {k : Nat} (hk : k < 25) {r : Nat → Int32} {s : Int32 × (Nat → Int32)} (h : IM c t r) (hl : Lock s r) : Lock (stcC c t k s) (stmM c t k r) := by
  have h1 : IM c t (if k % 5 = 4 then r else jnM c t k (k + 1) r) ∧ Lock (if k % 5 = 4 then s else jnC c t k (k + 1) s) (if k % 5 = 4 then r else jnM c t k (k + 1) r) := by
    by_cases h4 : k % 5 = 4
    · rw [if_pos h4, if_pos h4]
      exact ⟨h, hl⟩
    · rw [if_neg h4, if_neg h4]
      exact ⟨(jnM_ok hk (show k + 1 < 25 by omega) (Or.inl ⟨rfl, h4⟩) h).1, jn_lock hk (by omega) h.1 hl⟩
  unfold stmM stcC
  generalize (if k % 5 = 4 then r else jnM c t k (k + 1) r) = r1 at h1 ⊢
  generalize (if k % 5 = 4 then s else jnC c t k (k + 1) s) = s1 at h1 ⊢
  by_cases h20 : 20 ≤ k
  · rw [if_pos h20, if_pos h20]; exact h1.2
  · rw [if_neg h20, if_neg h20]
    exact jn_lock hk (by omega) h1.1.1 h1.2
/-- all edges so far are joined -/
def EJ (c : Nat → Int32) (t : Int32) (k : Nat) (r : Nat → Int32) : Prop := ∀ a, a < k → (a % 5 ≠ 4 → frt c t a (a + 1) = 0 → r a = r (a + 1)) ∧ (a < 20 → frt c t a (a + 5) = 0 → r a = r (a + 5))
theorem fold_ok {c : Nat → Int32} {t : Int32} : ∀ (d k : Nat) (r : Nat → Int32) (s : Int32 × (Nat → Int32)), k + d = 25 → IM c t r → EJ c t k r → Lock s r → IM c t (foldN (stmM c t) d k r) ∧ EJ c t 25 (foldN (stmM c t) d k r) ∧ Lock (foldN (stcC c t) d k s) (foldN (stmM c t) d k r)
  | 0, k, r, s, hk, h, he, hl => by
    obtain rfl : k = 25 := by omega
    exact ⟨h, he, hl⟩
  | d + 1, k, r, s, hk, h, he, hl => by
    have hk25 : k < 25 := by omega
    rw [foldN, foldN]
    obtain ⟨q1, q2, q3, q4⟩ := st_ok (c := c) (t := t) hk25 h
    refine fold_ok d (k + 1) _ _ (by omega) q1 (fun a ha => ?_) (st_lock hk25 h hl)
    by_cases e : a = k
    · subst e
      exact ⟨q3, q4⟩
    · obtain ⟨w1, w2⟩ := he a (by omega)
      exact ⟨fun h4 e1 => q2 a (by omega) (a + 1) (by omega) (w1 h4 e1), fun h20 e1 => q2 a (by omega) (a + 5) (by omega) (w2 h20 e1)⟩
theorem ini_at (r0 : Nat → Int32) {k : Nat} (hk : k < 25) : (fun j => if j < 25 then nI j else r0 j : Nat → Int32) k = nI k := if_pos hk
theorem prt_ok (c : Nat → Int32) (t : Int32) (r0 g0 : Nat → Int32) : IM c t (prt c t r0) ∧ EJ c t 25 (prt c t r0) ∧ Lock (foldN (stcC c t) 25 0 (25, fun j => if j < 25 then nI j else g0 j)) (prt c t r0) := by
  refine fold_ok 25 0 _ _ rfl ⟨fun k hk => ⟨k, hk, ini_at r0 hk, ini_at r0 hk⟩, fun P hP x hx y hy e => ?_⟩ (fun a ha => by omega) ⟨?_, fun x hx y hy => ?_⟩
  · rw [ini_at r0 hx, ini_at r0 hy, qI_eq (by omega) (by omega)] at e
    rw [e]
  · rw [cntP_all (fun k hk => ini_at r0 hk)]
    rfl
  · show (fun j => if j < 25 then nI j else g0 j : Nat → Int32) x = (fun j => if j < 25 then nI j else g0 j : Nat → Int32) y ↔ _
    rw [ini_at g0 hx, ini_at g0 hy, ini_at r0 hx, ini_at r0 hy]
theorem prt_edg {c : Nat → Int32} {t : Int32} {r : Nat → Int32} (h : EJ c t 25 r) {y z : Nat} (e : edg c t y z) : r y = r z := by
  have key : ∀ a b, a < 25 → b < 25 → frt c t a b = 0 → ((b = a + 1 ∧ a % 5 ≠ 4) ∨ b = a + 5) → r a = r b := by
    intro a b ha hb hf hn
    rcases hn with ⟨rfl, h4⟩ | rfl
    · exact (h a ha).1 h4 hf
    · exact (h a ha).2 (by omega) hf
  obtain ⟨hy, hz, hn, hf⟩ := e
  have hf' := (frt_symm c t z y).trans hf
  rcases hn with q | q | q | q
  · exact key y z hy hz hf (Or.inl q)
  · exact (key z y hz hy hf' (Or.inl q)).symm
  · exact key y z hy hz hf (Or.inr q)
  · exact (key z y hz hy hf' (Or.inr q)).symm
