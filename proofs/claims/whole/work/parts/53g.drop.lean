/-! a forecast taken out -/
def Dr (d : Nat → Int32) (a k : Nat) : Nat → Int32 := fun i => if a ≤ i ∧ i + 1 < k then d (i + 1) else d i
theorem Dr_step (d : Nat → Int32) {a k : Nat} (h : a + 1 ≤ k) : upd (Dr d a k) (k - 1) (Dr d a k k) = Dr d a (k + 1) := by
  have e : Dr d a k k = d k := if_neg (by omega)
  rw [e]
  funext i
  unfold Dr
  by_cases hi : i = k - 1
  · subst hi
    rw [upd_same, if_pos (by omega)]
    exact congrArg d (by omega)
  · rw [upd_ne _ _ hi]
    by_cases h2 : a ≤ i ∧ i + 1 < k
    · rw [if_pos h2, if_pos (by omega)]
    · rw [if_neg h2, if_neg (by omega)]
theorem Dr_0 (d : Nat → Int32) (a : Nat) : Dr d a (a + 1) = d := by
  funext i
  exact if_neg (by omega)
theorem s_rem_go {n : Nat} (hn : n ≤ 6) (a : Nat) (d w : Nat → Int32) (z : (Nat → Int32) → (Nat → Int32) → Option ((Nat → Int32) × (Nat → Int32) × Int32)) : ∀ (dd k fu : Nat), k + dd = n → a + 1 ≤ k → dd < fu → f_X4_remove_13 (nI n) z fu (nI k) (Dr d a k) (Dr w a k) = z (Dr d a n) (Dr w a n)
  | _, _, 0, _, _, h => by omega
  | 0, k, fu + 1, hk, _, _ => by
    obtain rfl : k = n := by omega
    rw [f_X4_remove_13, if_pos (Int32.le_refl _)]
  | dd + 1, k, fu + 1, hk, ha, hf => by
    have e1 : nI k - 1 = nI (k - 1) := qI_sub (a := k) (b := 1) (by omega)
    rw [f_X4_remove_13, if_neg (nle (show k < n by omega) (by omega)), if_neg (show ¬ (6 : Int32) ≤ nI k from nle (show k < 6 by omega) (by decide)), if_neg (ixo (show k < 6 by omega) (by decide)), e1, if_neg (ixo (show k - 1 < 6 by omega) (by decide)), qI_cl (show k < 2147483648 by omega), qI_cl (show k - 1 < 2147483648 by omega), qI_succ, Dr_step d ha, Dr_step w ha]
    exact s_rem_go hn a d w z dd (k + 1) fu (by omega) (by omega) (by omega)
theorem s_remove {n a : Nat} (hn : n ≤ 6) (ha : a < n) (d w : Nat → Int32) : f_X4_remove d w (nI n) (nI a) = some (Dr d a n, Dr w a n, nI (n - 1)) := by
  have hb : ¬ (nI a < 0 ∨ nI n ≤ nI a) := fun q => q.elim (qI_neg0 a (by omega)) (nle ha (by omega))
  have e1 : nI n - 1 = nI (n - 1) := qI_sub (a := n) (b := 1) (by omega)
  unfold f_X4_remove
  rw [s_has hn, if_neg hb, obS, if_neg i10, qI_succ, e1]
  have h := s_rem_go hn a d w (fun x y => some (x, y, nI (n - 1))) (n - (a + 1)) (a + 1) 1000 (by omega) (Nat.le_refl _) (by omega)
  rw [Dr_0, Dr_0] at h
  exact h
def Gr (g : Nat → Int32) (b l : Nat) : Nat → Int32 := fun i => if b ≤ i ∧ i < l then g (i + 2) else g i
theorem Gr_step (g : Nat → Int32) {b l : Nat} (h : b ≤ l) : upd (Gr g b l) l (Gr g b l (l + 2)) = Gr g b (l + 1) := by
  have e : Gr g b l (l + 2) = g (l + 2) := if_neg (by omega)
  rw [e]
  funext i
  unfold Gr
  by_cases hi : i = l
  · subst hi
    rw [upd_same, if_pos (by omega)]
  · rw [upd_ne _ _ hi]
    by_cases h2 : b ≤ i ∧ i < l
    · rw [if_pos h2, if_pos (by omega)]
    · rw [if_neg h2, if_neg (by omega)]
theorem Gr_0 (g : Nat → Int32) (b : Nat) : Gr g b b = g := by
  funext i
  exact if_neg (by omega)
theorem Gr_3 (g : Nat → Int32) {b : Nat} (hb : 48 ≤ b) (l : Nat) : Gr g b l 3 = g 3 := if_neg (by omega)
theorem q48 (m : Nat) : (48 : Int32) + 2 * nI m = nI (48 + 2 * m) := by rw [li48, li2, qI_mul, qI_add]
theorem m_drop_go {m : Nat} (hm : m ≤ 5) {b : Nat} (hb : 48 ≤ b) {g : Nat → Int32} (hg : g 3 = nI m) (z : (Nat → Int32) → Option (Nat → Int32)) : ∀ (dd l fu : Nat), l + dd = 48 + 2 * m → b ≤ l → dd < fu → f_X13_drops_17 z fu (nI l) (Gr g b l) = z (Gr g b (48 + 2 * m))
  | _, _, 0, _, _, h => by omega
  | 0, l, fu + 1, hl, _, _ => by
    obtain rfl : l = 48 + 2 * m := by omega
    rw [f_X13_drops_17, show Gr g b (48 + 2 * m) (3 : Int32).toNatClampNeg = nI m from (Gr_3 g hb _).trans hg, q48, if_pos (Int32.le_refl _)]
  | dd + 1, l, fu + 1, hl, hbl, hf => by
    rw [f_X13_drops_17, show Gr g b l (3 : Int32).toNatClampNeg = nI m from (Gr_3 g hb _).trans hg, q48, if_neg (nle (show l < 48 + 2 * m by omega) (by omega)), show nI l + 2 = nI (l + 2) from qI_add l 2, if_neg (ixo (show l + 2 < 60 by omega) (by decide)), if_neg (ixo (show l < 60 by omega) (by decide)), qI_cl (show l < 2147483648 by omega), qI_cl (show l + 2 < 2147483648 by omega), qI_succ, Gr_step g hbl]
    exact m_drop_go hm hb hg z dd (l + 1) fu (by omega) (by omega) (by omega)
/-- the model's row behind a drop -/
def gDrop (g : Nat → Int32) (n a : Nat) : Nat → Int32 := upd (upd (Gr (upd g 3 (nI (n - 1))) (48 + 2 * a) (48 + 2 * (n - 1))) (48 + 2 * (n - 1)) 0) (48 + 2 * (n - 1) + 1) 0
theorem m_drops {g : Nat → Int32} {n a : Nat} (hn : n ≤ 6) (ha : a < n) (hg : g 3 = nI n) : f_X13_drops g (nI a) = some (gDrop g n a) := by
  have e1 : nI n - 1 = nI (n - 1) := qI_sub (a := n) (b := 1) (by omega)
  unfold f_X13_drops
  rw [show g (3 : Int32).toNatClampNeg = nI n from hg, e1, q48, show (3 : Int32).toNatClampNeg = 3 from rfl]
  have h3 : upd g 3 (nI (n - 1)) 3 = nI (n - 1) := upd_same _ _ _
  have h := fun z => m_drop_go (m := n - 1) (by omega) (b := 48 + 2 * a) (by omega) h3 z (2 * (n - 1) - 2 * a) (48 + 2 * a) 1000 (by omega) (Nat.le_refl _) (by omega)
  simp only [Gr_0] at h
  rw [h]
  have hG : Gr (upd g 3 (nI (n - 1))) (48 + 2 * a) (48 + 2 * (n - 1)) 3 = nI (n - 1) := (Gr_3 _ (by omega) _).trans h3
  have hU : upd (Gr (upd g 3 (nI (n - 1))) (48 + 2 * a) (48 + 2 * (n - 1))) (48 + 2 * (n - 1)) 0 3 = nI (n - 1) := (upd_ne _ _ (by omega)).trans hG
  rw [hG, q48, if_neg (ixo (show 48 + 2 * (n - 1) < 60 by omega) (by decide)), qI_cl (show 48 + 2 * (n - 1) < 2147483648 by omega), hU, q48, qI_succ, if_neg (ixo (show 48 + 2 * (n - 1) + 1 < 60 by omega) (by decide)), qI_cl (show 48 + 2 * (n - 1) + 1 < 2147483648 by omega)]
  rfl
theorem gDrop_lo {g : Nat → Int32} {n a i : Nat} (h : i < 48) (h3 : i ≠ 3) : gDrop g n a i = g i := by
  unfold gDrop
  rw [upd_ne _ _ (by omega), upd_ne _ _ (by omega)]
  unfold Gr
  rw [if_neg (by omega), upd_ne _ _ h3]
theorem gDrop_3 (g : Nat → Int32) (n a : Nat) : gDrop g n a 3 = nI (n - 1) := by
  unfold gDrop
  rw [upd_ne _ _ (by omega), upd_ne _ _ (by omega)]
  unfold Gr
  rw [if_neg (by omega), upd_same]
theorem gDrop_hi {g : Nat → Int32} {n a i : Nat} (h : 48 ≤ i) (hi : i < 48 + 2 * (n - 1)) : gDrop g n a i = if 48 + 2 * a ≤ i then g (i + 2) else g i := by
  unfold gDrop
  rw [upd_ne _ _ (by omega), upd_ne _ _ (by omega)]
  unfold Gr
  by_cases h2 : 48 + 2 * a ≤ i
  · rw [if_pos h2, if_pos ⟨h2, hi⟩, upd_ne _ _ (by omega)]
  · rw [if_neg h2, if_neg (by omega), upd_ne _ _ (by omega)]
theorem RS_drop {c : Nat → Int32} {t : Int32} {w : Nat → Int32} {p : Int32} {d e : Nat → Int32} {n : Nat} {s r h y : Int32} {g : Nat → Int32} (H : RS (c, t, w, p, d, e, nI n, s, r, h, y) g) (hn : n ≤ 6) {a : Nat} (ha : a < n) : RS (c, t, w, p, Dr d a n, Dr e a n, nI (n - 1), s, r, h, y) (gDrop g n a) := by
  obtain ⟨r1, r2, r3, r4, r5, r6, r7, r8, r9, ⟨fn, f6, f1, f2, f3⟩, r11, r12, r13, r14⟩ := H
  have hfn : fn = n := by
    have q : nI n = nI fn := f1
    rw [qI_eq (by omega) (by omega)] at q
    exact q.symm
  subst hfn
  have L : ∀ i, i < 48 → i ≠ 3 → gDrop g fn a i = g i := fun i h1 h2 => gDrop_lo h1 h2
  refine ⟨fun k hk => (L _ (by omega) (by omega)).trans (r1 k hk), r2, (L 2 (by omega) (by omega)).trans r3, r4, fun k hk => (L _ (by omega) (by omega)).trans (r5 k hk), r6, r7, (L 1 (by omega) (by omega)).trans r8, r9, ⟨fn - 1, by omega, rfl, gDrop_3 g fn a, fun k hk => ?_⟩, (L 4 (by omega) (by omega)).trans r11, (L 5 (by omega) (by omega)).trans r12, (L 6 (by omega) (by omega)).trans r13, (L 0 (by omega) (by omega)).trans r14⟩
  show gDrop g fn a (48 + 2 * k) = Dr d a fn k ∧ gDrop g fn a (49 + 2 * k) = Dr e a fn k ∧ ∃ v, v < 4 ∧ Dr e a fn k = nI v
  rw [gDrop_hi (by omega) (by omega), gDrop_hi (by omega) (by omega)]
  unfold Dr
  by_cases h2 : a ≤ k
  · obtain ⟨q1, q2, q3⟩ := f3 (k + 1) (by omega)
    rw [if_pos (by omega), if_pos (by omega), if_pos (by omega), if_pos (by omega), show 48 + 2 * k + 2 = 48 + 2 * (k + 1) by omega, show 49 + 2 * k + 2 = 49 + 2 * (k + 1) by omega]
    exact ⟨q1, q2, q3⟩
  · obtain ⟨q1, q2, q3⟩ := f3 k (by omega)
    rw [if_neg (by omega), if_neg (by omega), if_neg (by omega), if_neg (by omega)]
    exact ⟨q1, q2, q3⟩
