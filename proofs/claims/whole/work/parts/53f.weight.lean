/-! weights -/
theorem s_isWeight (a : Int32) : f_X2_isWeight a = some (if a < 0 ∨ 3 < a then 0 else 1) := by
  unfold f_X2_isWeight
  rw [joE, joE]
  by_cases h0 : a < 0
  · rw [if_pos h0, if_pos (Or.inl h0)]; exact if_neg (fun q => q narB0)
  · by_cases h1 : 3 < a
    · rw [if_neg h0, if_pos h1, if_pos (Or.inr h1)]; exact if_neg (fun q => q narB0)
    · rw [if_neg h0, if_neg h1, if_neg (fun q => q.elim h0 h1)]; exact if_neg (fun q => q narB1)
def W4 (w : Nat → Int32) : Prop := ∀ k, k < 16 → ∃ v, v < 4 ∧ w k = nI v
def wx (w : Nat → Int32) (r j : Nat) : Nat := (w (4 * r + j)).toNatClampNeg
theorem wx_eq {w : Nat → Int32} (h : W4 w) {r j : Nat} (hr : r < 4) (hj : j < 4) : w (4 * r + j) = nI (wx w r j) ∧ wx w r j < 4 := by
  obtain ⟨v, hv, e⟩ := h (4 * r + j) (by omega)
  have e2 : wx w r j = v := by unfold wx; rw [e]; exact qI_cl (by omega)
  exact ⟨by rw [e2]; exact e, by omega⟩
def wsm (w : Nat → Int32) (r : Nat) : Nat := wx w r 0 + wx w r 1 + wx w r 2 + wx w r 3
theorem wx_le (w : Nat → Int32) (r : Nat) {q : Nat} (hq : q < 4) : wx w r q ≤ wsm w r := by
  unfold wsm
  rcases (show q = 0 ∨ q = 1 ∨ q = 2 ∨ q = 3 by omega) with rfl | rfl | rfl | rfl <;> omega
theorem nw4 {r : Nat} (hr : r < 4) : ¬ (nI r < 0 ∨ 4 ≤ nI r) := by
  rintro (h | h)
  · exact qI_neg0 _ (by omega) h
  · exact nle hr (by decide) h
theorem s_wsum_go {w : Nat → Int32} {r : Nat} (hr : r < 4) (z : Int32 → Option Int32) : ∀ (d k n : Nat) (s : Int32), k + d = 4 → d < n → f_X2_weightSum_4 w (nI r) z n s (nI k) = z (sumI (fun j => w (4 * r + j)) d k s)
  | _, _, 0, _, _, h => by omega
  | 0, k, n + 1, s, hk, _ => by
    obtain rfl : k = 4 := by omega
    rw [f_X2_weightSum_4, if_pos (show (4 : Int32) ≤ nI 4 from Int32.le_refl _)]
    rfl
  | d + 1, k, n + 1, s, hk, hn => by
    have e : nI r * 4 + nI k = nI (4 * r + k) := by rw [li4, qI_mul, qI_add, Nat.mul_comm]
    rw [f_X2_weightSum_4, if_neg (show ¬ (4 : Int32) ≤ nI k from nle (show k < 4 by omega) (by decide)), s_isWeather, if_neg (nw4 hr), obS, if_neg i10, e, if_neg (ixo (show 4 * r + k < 16 by omega) (by decide)), qI_succ, qI_cl (show 4 * r + k < 2147483648 by omega), sumI]
    exact s_wsum_go hr z d (k + 1) n _ (by omega) (by omega)
theorem wsum4 {w : Nat → Int32} (h : W4 w) {r : Nat} (hr : r < 4) : w (4 * r + 0) + w (4 * r + 1) + w (4 * r + 2) + w (4 * r + 3) = nI (wsm w r) := by
  rw [(wx_eq h hr (show 0 < 4 by decide)).1, (wx_eq h hr (show 1 < 4 by decide)).1, (wx_eq h hr (show 2 < 4 by decide)).1, (wx_eq h hr (show 3 < 4 by decide)).1, qI_add, qI_add, qI_add]
  rfl
theorem s_wsum {w : Nat → Int32} (h : W4 w) {r : Nat} (hr : r < 4) : f_X2_weightSum w (nI r) = some (nI (wsm w r)) := by
  unfold f_X2_weightSum
  refine (s_wsum_go hr (fun s => some s) 4 0 1000 0 rfl (by decide)).trans (congrArg some ?_)
  rw [← wsum4 h hr]
  show (((0 + w (4 * r + 0)) + w (4 * r + 1)) + w (4 * r + 2)) + w (4 * r + 3) = _
  rw [Int32.zero_add]
theorem m_wsum {g w : Nat → Int32} (hg : ∀ k, k < 16 → g (32 + k) = w k) (h : W4 w) {r : Nat} (hr : r < 4) : f_X13_sum g (nI r) = some (nI (wsm w r)) := by
  unfold f_X13_sum
  rw [show f_X13_weighs g (nI r) 0 = some (w (4 * r + 0)) from m_weighs hg hr (by decide), show f_X13_weighs g (nI r) 1 = some (w (4 * r + 1)) from m_weighs hg hr (by decide), show f_X13_weighs g (nI r) 2 = some (w (4 * r + 2)) from m_weighs hg hr (by decide), show f_X13_weighs g (nI r) 3 = some (w (4 * r + 3)) from m_weighs hg hr (by decide), obS, obS, obS, obS, wsum4 h hr]
theorem s_keepsA {w : Nat → Int32} (h : W4 w) {r q v : Nat} (hr : r < 4) (hq : q < 4) (hv : v < 4) : f_X2_keepsAChange w (nI r) (nI q) (nI v) = some (if wsm w r - wx w r q + v = 0 then 0 else 1) := by
  have hle := wx_le w r hq
  have e : nI (wsm w r) - w (4 * r + q) + nI v = nI (wsm w r - wx w r q + v) := by
    rw [(wx_eq h hr hq).1, qI_sub hle, qI_add]
  have hb : wsm w r - wx w r q + v < 2147483648 := by
    have a := (wx_eq h hr (show 0 < 4 by decide)).2
    have b := (wx_eq h hr (show 1 < 4 by decide)).2
    have c := (wx_eq h hr (show 2 < 4 by decide)).2
    have d := (wx_eq h hr (show 3 < 4 by decide)).2
    unfold wsm
    omega
  unfold f_X2_keepsAChange
  rw [joE, s_wsum h hr, obS, s_weight w hr hq (nw4 hr) (nw4 hq), obS, e]
  by_cases h0 : wsm w r - wx w r q + v = 0
  · rw [if_pos h0, h0, if_pos (show nI 0 ≤ 0 from Int32.le_refl _)]; exact if_neg (fun q => q narB0)
  · rw [if_neg h0, if_neg (show ¬ nI (wsm w r - wx w r q + v) ≤ 0 by rw [show (0 : Int32) = nI 0 from rfl, qI_le hb (by decide)]; omega)]; exact if_neg (fun q => q narB1)
theorem s_putW (w : Nat → Int32) {r q : Nat} (hr : r < 4) (hq : q < 4) (a : Int32) : f_X2_putWeight w (nI r) (nI q) a = some (upd w (4 * r + q) a) := by
  unfold f_X2_putWeight
  rw [joE, s_isWeather, if_neg (nw4 hr), obS, if_neg i10, s_isWeather, if_neg (nw4 hq), obS, if_neg i10, show nI r * 4 + nI q = nI (4 * r + q) by rw [li4, qI_mul, qI_add, Nat.mul_comm], if_neg (ixo (show 4 * r + q < 16 by omega) (by decide)), qI_cl (show 4 * r + q < 2147483648 by omega)]
theorem RS_w {c : Nat → Int32} {t : Int32} {w : Nat → Int32} {p : Int32} {d e : Nat → Int32} {n s r0 h y : Int32} {g : Nat → Int32} (H : RS (c, t, w, p, d, e, n, s, r0, h, y) g) {r q v : Nat} (hr : r < 4) (hq : q < 4) (hv : v < 4) (h0 : ¬ wsm w r - wx w r q + v = 0) : RS (c, t, upd w (4 * r + q) (nI v), p, d, e, n, s, r0, h, y) (upd g (32 + (4 * r + q)) (nI v)) := by
  obtain ⟨r1, r2, r3, r4, r5, r6, r7, r8, r9, ⟨fn, f6, f1, f2, f3⟩, r11, r12, r13, r14⟩ := H
  have h3 : ∀ i, i ≠ 32 + (4 * r + q) → upd g (32 + (4 * r + q)) (nI v) i = g i := fun i hi => upd_ne _ _ hi
  have hW : W4 w := r6
  refine ⟨fun k hk => (h3 _ (by omega)).trans (r1 k hk), r2, (h3 2 (by omega)).trans r3, r4, fun k hk => ?_, fun k hk => ?_, fun r' hr' => ?_, (h3 1 (by omega)).trans r8, r9, ⟨fn, f6, f1, (h3 3 (by omega)).trans f2, fun k hk => ?_⟩, (h3 4 (by omega)).trans r11, (h3 5 (by omega)).trans r12, (h3 6 (by omega)).trans r13, (h3 0 (by omega)).trans r14⟩
  · by_cases e : k = 4 * r + q
    · subst e; exact (upd_same _ _ _).trans (upd_same _ _ _).symm
    · exact (h3 _ (by omega)).trans ((r5 k hk).trans (upd_ne _ _ e).symm)
  · by_cases e : k = 4 * r + q
    · subst e; exact ⟨v, hv, upd_same _ _ _⟩
    · obtain ⟨x, hx, ex⟩ := r6 k hk
      exact ⟨x, hx, (upd_ne _ _ e).trans ex⟩
  · by_cases e : r' = r
    · subst e
      by_cases hv0 : v = 0
      · have ⟨j, hj, hne, hx⟩ : ∃ j, j < 4 ∧ j ≠ q ∧ wx w r' j ≠ 0 := by
          by_cases a0 : q ≠ 0 ∧ wx w r' 0 ≠ 0
          · exact ⟨0, by decide, a0.1.symm, a0.2⟩
          · by_cases a1 : q ≠ 1 ∧ wx w r' 1 ≠ 0
            · exact ⟨1, by decide, a1.1.symm, a1.2⟩
            · by_cases a2 : q ≠ 2 ∧ wx w r' 2 ≠ 0
              · exact ⟨2, by decide, a2.1.symm, a2.2⟩
              · by_cases a3 : q ≠ 3 ∧ wx w r' 3 ≠ 0
                · exact ⟨3, by decide, a3.1.symm, a3.2⟩
                · exfalso
                  refine h0 ?_
                  unfold wsm
                  rcases (show q = 0 ∨ q = 1 ∨ q = 2 ∨ q = 3 by omega) with rfl | rfl | rfl | rfl <;> simp at a0 a1 a2 a3 <;> omega
        refine ⟨j, hj, ?_⟩
        show upd w (4 * r' + q) (nI v) (4 * r' + j) ≠ 0
        rw [upd_ne _ _ (by omega), (wx_eq hW hr hj).1, show (0 : Int32) = nI 0 from rfl, ne_eq, qI_eq (by have := (wx_eq hW hr hj).2; omega) (by decide)]
        exact hx
      · refine ⟨q, hq, ?_⟩
        show upd w (4 * r' + q) (nI v) (4 * r' + q) ≠ 0
        rw [upd_same, show (0 : Int32) = nI 0 from rfl, ne_eq, qI_eq (by omega) (by decide)]
        exact hv0
    · obtain ⟨j, hj, hx⟩ := r7 r' hr'
      refine ⟨j, hj, ?_⟩
      show upd w (4 * r + q) (nI v) (4 * r' + j) ≠ 0
      rw [upd_ne _ _ (by omega)]
      exact hx
  · obtain ⟨a, b, x⟩ := f3 k hk
    exact ⟨(h3 _ (by omega)).trans a, (h3 _ (by omega)).trans b, x⟩
theorem keepE {w : Nat → Int32} (h : W4 w) {r q v : Nat} (hr : r < 4) (hq : q < 4) (hv : v < 4) : (nI (wsm w r) - w (4 * r + q) + nI v = 0) = (wsm w r - wx w r q + v = 0) := by
  have hle := wx_le w r hq
  have e : nI (wsm w r) - w (4 * r + q) + nI v = nI (wsm w r - wx w r q + v) := by
    rw [(wx_eq h hr hq).1, qI_sub hle, qI_add]
  have hb : wsm w r - wx w r q + v < 2147483648 := by
    have a := (wx_eq h hr (show 0 < 4 by decide)).2
    have b := (wx_eq h hr (show 1 < 4 by decide)).2
    have c := (wx_eq h hr (show 2 < 4 by decide)).2
    have d := (wx_eq h hr (show 3 < 4 by decide)).2
    unfold wsm
    omega
  rw [e, show (0 : Int32) = nI 0 from rfl, qI_eq hb (by decide)]
