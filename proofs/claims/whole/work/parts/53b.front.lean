/-! fronts -/
def dst (x y : Int32) : Int32 := if x ≤ y then y - x else x - y
theorem dst_nI {x y : Nat} (hx : x < 100) (hy : y < 100) : dst (nI x) (nI y) = nI (x - y + (y - x)) := by
  unfold dst
  by_cases h : x ≤ y
  · rw [if_pos (show nI x ≤ nI y by rw [qI_le (by omega) (by omega)]; exact h), qI_sub h]
    congr 1
    omega
  · rw [if_neg (show ¬ nI x ≤ nI y by rw [qI_le (by omega) (by omega)]; exact h), qI_sub (by omega)]
    congr 1
    omega
theorem s_diff {c : Nat → Int32} (hc : Rng c) {a b : Nat} (ha : a < 25) (hb : b < 25) : f_X10_difference c (nI a) (nI b) = some (dst (c a) (c b)) := by
  obtain ⟨x, hx, ex⟩ := hc a ha
  obtain ⟨y, hy, ey⟩ := hc b hb
  unfold f_X10_difference
  rw [jo, if_neg (qI_neg0 a (by omega)), if_neg (show ¬ (25 : Int32) ≤ nI a from nle ha (by decide)), if_neg (qI_neg0 b (by omega)), if_pos (show nI b < 25 from nlt hb (by decide)), jo, if_neg (ixo ha (by decide)), if_neg (ixo hb (by decide)), qI_cl (show a < 2147483648 by omega), qI_cl (show b < 2147483648 by omega), ex, ey, dst_nI hx hy]
  by_cases h : y ≤ x
  · rw [qI_sub h, if_pos (i_nlt.mp (qI_neg0 _ (by omega)))]
    exact congrArg some (congrArg nI (by omega))
  · have e : nI x - nI y = -(nI (y - x)) := by
      rw [← qI_sub (show x ≤ y by omega), Int32.neg_sub]
    have hn : ¬ (0 : Int32) ≤ -(nI (y - x)) := by
      rw [Int32.le_iff_toInt_le, Int32.toInt_neg, qI_toInt (show y - x < 2147483648 by omega), Int.bmod_eq_of_le (by omega) (by omega)]
      have : (0 : Int32).toInt = 0 := rfl
      omega
    rw [e, if_neg hn, Int32.neg_neg]
    exact congrArg some (congrArg nI (by omega))
theorem m_apart (x y : Int32) : f_X13_apart x y = some (dst x y) := by
  unfold f_X13_apart dst
  rw [jo]
  by_cases h : x ≤ y
  · rw [if_pos h, if_pos h]
  · rw [if_neg h, if_neg h]
theorem m_slope {g c : Nat → Int32} (h : ∀ k, k < 25 → g (7 + k) = c k) {a s : Nat} (ha : a + s < 25) : f_X13_slope g (nI a) (nI s) = some (dst (c a) (c (a + s))) := by
  unfold f_X13_slope
  rw [li7, qI_add, qI_add, if_neg (ixo (show 7 + a < 60 by omega) (by decide)), if_neg (ixo (show 7 + a + s < 60 by omega) (by decide)), qI_cl (show 7 + a < 2147483648 by omega), qI_cl (show 7 + a + s < 2147483648 by omega), m_apart, Option.bind_some, h a (by omega), Nat.add_assoc, h (a + s) ha]
def frt (c : Nat → Int32) (t : Int32) (a b : Nat) : Int32 := if dst (c a) (c b) < t then 0 else 1
theorem frt01 (c : Nat → Int32) (t : Int32) (a b : Nat) : frt c t a b = 0 ∨ frt c t a b = 1 := by
  unfold frt
  by_cases h : dst (c a) (c b) < t
  · exact Or.inl (if_pos h)
  · exact Or.inr (if_neg h)
theorem s_hasFront {c : Nat → Int32} (hc : Rng c) (t : Int32) {a b : Nat} (ha : a < 25) (hb : b < 25) : f_X10_hasFront c t (nI a) (nI b) = some (frt c t a b) := by
  unfold f_X10_hasFront frt
  rw [jo, s_diff hc ha hb, Option.bind_some]
  by_cases h : dst (c a) (c b) < t
  · rw [if_pos h, if_pos h]; exact if_neg (fun q => q narB0)
  · rw [if_neg h, if_neg h]; exact if_neg (fun q => q narB1)
theorem m_isFront {g c : Nat → Int32} {t : Int32} (h : ∀ k, k < 25 → g (7 + k) = c k) (ht : g 2 = t) {a s : Nat} (ha : a + s < 25) : f_X13_isFront g (nI a) (nI s) = some (frt c t a (a + s)) := by
  unfold f_X13_isFront frt
  rw [jo, m_slope h ha, Option.bind_some, show g (2 : Int32).toNatClampNeg = t from ht]
  by_cases h : dst (c a) (c (a + s)) < t
  · rw [if_pos h, if_pos h]; exact if_neg (fun q => q narB0)
  · rw [if_neg h, if_neg h]; exact if_neg (fun q => q narB1)
theorem m_isFront1 {g c : Nat → Int32} {t : Int32} (h : ∀ k, k < 25 → g (7 + k) = c k) (ht : g 2 = t) {a : Nat} (ha : a + 1 < 25) : f_X13_isFront g (nI a) 1 = some (frt c t a (a + 1)) := m_isFront (s := 1) h ht ha
theorem m_isFront5 {g c : Nat → Int32} {t : Int32} (h : ∀ k, k < 25 → g (7 + k) = c k) (ht : g 2 = t) {a : Nat} (ha : a + 5 < 25) : f_X13_isFront g (nI a) 5 = some (frt c t a (a + 5)) := m_isFront (s := 5) h ht ha
theorem qm5 {k : Nat} (hk : k < 25) : nI k - nI k / 5 * 5 = nI (k % 5) := qI_mod (b := 5) (by omega) (by decide)
theorem s_right {k : Nat} (hk : k < 25) : f_X10_hasRightNeighbour (nI k) = some (if k % 5 = 4 then 0 else 1) := by
  unfold f_X10_hasRightNeighbour
  rw [jo, qm5 hk]
  by_cases h : k % 5 = 4
  · rw [if_pos h, h, if_pos (show (4 : Int32) ≤ nI 4 from Int32.le_refl _)]; exact if_neg (fun q => q narB0)
  · rw [if_neg h, if_neg (show ¬ (4 : Int32) ≤ nI (k % 5) from nle (show k % 5 < 4 by omega) (by decide))]; exact if_neg (fun q => q narB1)
theorem s_lower {k : Nat} (hk : k < 25) : f_X10_hasLowerNeighbour (nI k) = some (if 20 ≤ k then 0 else 1) := by
  unfold f_X10_hasLowerNeighbour
  rw [jo]
  by_cases h : 20 ≤ k
  · rw [if_pos h, if_pos (show (20 : Int32) ≤ nI k by rw [li20, qI_le (by decide) (by omega)]; exact h)]; exact if_neg (fun q => q narB0)
  · rw [if_neg h, if_neg (show ¬ (20 : Int32) ≤ nI k from nle (show k < 20 by omega) (by decide))]; exact if_neg (fun q => q narB1)
/-- one cell's fronts -/
def frR (c : Nat → Int32) (t : Int32) (k : Nat) : Int32 := if k % 5 = 4 then 0 else frt c t k (k + 1)
def frL (c : Nat → Int32) (t : Int32) (k : Nat) : Int32 := if 20 ≤ k then 0 else frt c t k (k + 5)
def frN (c : Nat → Int32) (t : Int32) : Nat → Nat → Int32 → Int32
  | 0, _, s => s
  | d + 1, k, s => frN c t d (k + 1) (s + frR c t k + frL c t k)
theorem s_fronts_go {c : Nat → Int32} (hc : Rng c) (t : Int32) (z : Int32 → Option Int32) : ∀ (d k n : Nat) (s : Int32), k + d = 25 → d < n → f_X10_countFronts_4 c t z n s (nI k) = z (frN c t d k s)
  | _, _, 0, _, _, h => by omega
  | 0, k, n + 1, s, hk, _ => by
    obtain rfl : k = 25 := by omega
    rw [f_X10_countFronts_4, if_pos (show (25 : Int32) ≤ nI 25 from Int32.le_refl _)]
    rfl
  | d + 1, k, n + 1, s, hk, hn => by
    have hk25 : k < 25 := by omega
    have ih := fun s => s_fronts_go hc t z d (k + 1) n s (by omega) (by omega)
    have lo : ∀ s' : Int32, (f_X10_hasLowerNeighbour (nI k)).bind (fun r32 => if r32 = 0 then f_X10_countFronts_4 c t z n s' (nI k + 1) else (f_X10_hasFront c t (nI k) (nI k + 5)).bind fun r43 => if r43 = 0 then f_X10_countFronts_4 c t z n s' (nI k + 1) else f_X10_countFronts_4 c t z n (s' + 1) (nI k + 1)) = z (frN c t d (k + 1) (s' + frL c t k)) := by
      intro s'
      rw [s_lower hk25, Option.bind_some, qI_succ]
      unfold frL
      by_cases h : 20 ≤ k
      · rw [if_pos h, if_pos h, if_pos rfl, ih, Int32.add_zero]
      · rw [if_neg h, if_neg h, if_neg i10, show nI k + 5 = nI (k + 5) from qI_add k 5, s_hasFront hc t hk25 (by omega), Option.bind_some]
        rcases frt01 c t k (k + 5) with e | e
        · rw [e, if_pos rfl, ih, Int32.add_zero]
        · rw [e, if_neg i10, ih]
    rw [f_X10_countFronts_4, if_neg (show ¬ (25 : Int32) ≤ nI k from nle hk25 (by decide)), jo, s_right hk25, Option.bind_some, frN]
    unfold frR
    by_cases h : k % 5 = 4
    · rw [if_pos h, if_pos h, if_pos rfl, Int32.add_zero]
      exact lo s
    · rw [if_neg h, if_neg h, if_neg i10, show nI k + 1 = nI (k + 1) from qI_succ k, s_hasFront hc t hk25 (by omega), Option.bind_some]
      rcases frt01 c t k (k + 1) with e | e
      · rw [e, if_pos rfl, Int32.add_zero, ← qI_succ]
        exact lo s
      · rw [e, if_neg i10, ← qI_succ]
        exact lo (s + 1)
theorem s_frontCount {c : Nat → Int32} (hc : Rng c) (t : Int32) : f_X10_countFronts c t = some (frN c t 25 0 0) := by
  unfold f_X10_countFronts
  exact s_fronts_go hc t (fun s => some s) 25 0 1000 0 rfl (by decide)
theorem m_fronts_go {g c : Nat → Int32} {t : Int32} (h : ∀ k, k < 25 → g (7 + k) = c k) (ht : g 2 = t) (z : Int32 → Option (Int32 × Int32)) : ∀ (d k n : Nat) (s : Int32), k + d = 25 → d < n → f_X13_frontCount_9 g z n s (nI k) = z (frN c t d k s)
  | _, _, 0, _, _, h => by omega
  | 0, k, n + 1, s, hk, _ => by
    obtain rfl : k = 25 := by omega
    rw [f_X13_frontCount_9, if_pos (show (25 : Int32) ≤ nI 25 from Int32.le_refl _)]
    rfl
  | d + 1, k, n + 1, s, hk, hn => by
    have hk25 : k < 25 := by omega
    have ih := fun s => m_fronts_go h ht z d (k + 1) n s (by omega) (by omega)
    rw [f_X13_frontCount_9, if_neg (show ¬ (25 : Int32) ≤ nI k from nle hk25 (by decide)), qm5 hk25, qI_succ, frN]
    unfold frR frL
    by_cases h4 : k % 5 = 4
    · rw [if_pos h4, h4]
      by_cases h20 : 20 ≤ k
      · rw [if_pos h20]
        simp only [jo, show ((4 : Int32) ≤ nI 4) = True from eq_true (Int32.le_refl _), show ((20 : Int32) ≤ nI k) = True from eq_true (by rw [li20, qI_le (by decide) (by omega)]; exact h20), if_true]
        exact (ih _).trans (by simp only [Int32.add_zero])
      · rw [if_neg h20]
        simp only [jo, show ((4 : Int32) ≤ nI 4) = True from eq_true (Int32.le_refl _), show ((20 : Int32) ≤ nI k) = False from eq_false (nle (show k < 20 by omega) (by decide)), if_true, if_false, m_isFront5 h ht (show k + 5 < 25 by omega), Option.bind_some]
        rcases frt01 c t k (k + 5) with e | e
        · simp only [e, if_true]
          exact (ih _).trans (by simp only [Int32.add_zero])
        · simp only [e, i10, if_false]
          exact (ih _).trans (by simp only [Int32.add_zero, Int32.zero_add])
    · rw [if_neg h4]
      have h4' : ((4 : Int32) ≤ nI (k % 5)) = False := eq_false (nle (show k % 5 < 4 by omega) (by decide))
      by_cases h20 : 20 ≤ k
      · rw [if_pos h20]
        simp only [jo, h4', show ((20 : Int32) ≤ nI k) = True from eq_true (by rw [li20, qI_le (by decide) (by omega)]; exact h20), if_true, if_false, m_isFront1 h ht (show k + 1 < 25 by omega), Option.bind_some]
        rcases frt01 c t k (k + 1) with e | e
        · simp only [e, if_true]
          exact (ih _).trans (by simp only [Int32.add_zero])
        · simp only [e, i10, if_false]
          exact (ih _).trans (by simp only [Int32.add_zero])
      · rw [if_neg h20]
        simp only [jo, h4', show ((20 : Int32) ≤ nI k) = False from eq_false (nle (show k < 20 by omega) (by decide)), if_false, m_isFront1 h ht (show k + 1 < 25 by omega), m_isFront5 h ht (show k + 5 < 25 by omega), Option.bind_some]
        rcases frt01 c t k (k + 1) with e | e <;> rcases frt01 c t k (k + 5) with e2 | e2 <;> simp only [e, e2, i10, if_true, if_false] <;> refine (ih _).trans ?_ <;> simp only [Int32.add_zero, Int32.zero_add, Int32.add_assoc]
theorem m_frontCount {g c : Nat → Int32} {t : Int32} (h : ∀ k, k < 25 → g (7 + k) = c k) (ht : g 2 = t) (code : Int32) : f_X13_frontCount g code = some (frN c t 25 0 0, 0) := by
  unfold f_X13_frontCount
  exact m_fronts_go h ht (fun s => some (s, 0)) 25 0 1000 0 rfl (by decide)
/-- the steepest step -/
def mx (a b : Int32) : Int32 := if a < b then b else a
theorem mx_le (a b : Int32) : (if b ≤ a then a else b) = mx a b := by
  unfold mx
  by_cases h : b ≤ a
  · rw [if_pos h, if_neg (i_nlt.mpr h)]
  · rw [if_neg h, if_pos (i_nle.mp h)]
def stN (c : Nat → Int32) : Nat → Nat → Int32 → Int32
  | 0, _, s => s
  | d + 1, k, s => stN c d (k + 1) (if 20 ≤ k then (if k % 5 = 4 then s else mx s (dst (c k) (c (k + 1)))) else mx (if k % 5 = 4 then s else mx s (dst (c k) (c (k + 1)))) (dst (c k) (c (k + 5))))
theorem s_step_go {c : Nat → Int32} (hc : Rng c) (z : Int32 → Option Int32) : ∀ (d k n : Nat) (s : Int32), k + d = 25 → d < n → f_X10_greatestStep_4 c z n s (nI k) = z (stN c d k s)
  | _, _, 0, _, _, h => by omega
  | 0, k, n + 1, s, hk, _ => by
    obtain rfl : k = 25 := by omega
    rw [f_X10_greatestStep_4, if_pos (show (25 : Int32) ≤ nI 25 from Int32.le_refl _)]
    rfl
  | d + 1, k, n + 1, s, hk, hn => by
    have hk25 : k < 25 := by omega
    have ih := fun s => s_step_go hc z d (k + 1) n s (by omega) (by omega)
    rw [f_X10_greatestStep_4, if_neg (show ¬ (25 : Int32) ≤ nI k from nle hk25 (by decide)), s_right hk25, s_lower hk25, qI_succ, show nI k + 5 = nI (k + 5) from qI_add k 5, stN]
    by_cases h4 : k % 5 = 4 <;> by_cases h20 : 20 ≤ k
    · simp only [jo, Option.bind_some, if_pos h4, if_pos h20, if_true]
      exact ih _
    · simp only [jo, Option.bind_some, if_pos h4, if_neg h20, if_true, i10, if_false, s_diff hc hk25 (show k + 5 < 25 by omega)]
      exact ih _
    · simp only [jo, Option.bind_some, if_neg h4, if_pos h20, if_true, i10, if_false, s_diff hc hk25 (show k + 1 < 25 by omega)]
      exact ih _
    · simp only [jo, Option.bind_some, if_neg h4, if_neg h20, i10, if_false, s_diff hc hk25 (show k + 1 < 25 by omega), s_diff hc hk25 (show k + 5 < 25 by omega)]
      exact ih _
theorem s_steepest {c : Nat → Int32} (hc : Rng c) : f_X10_greatestStep c = some (stN c 25 0 0) := by
  unfold f_X10_greatestStep
  exact s_step_go hc (fun s => some s) 25 0 1000 0 rfl (by decide)
theorem m_step_go {g c : Nat → Int32} (h : ∀ k, k < 25 → g (7 + k) = c k) (z : Int32 → Option (Int32 × Int32)) : ∀ (d k n : Nat) (s : Int32), k + d = 25 → d < n → f_X13_steepest_9 g z n s (nI k) = z (stN c d k s)
  | _, _, 0, _, _, h => by omega
  | 0, k, n + 1, s, hk, _ => by
    obtain rfl : k = 25 := by omega
    rw [f_X13_steepest_9, if_pos (show (25 : Int32) ≤ nI 25 from Int32.le_refl _)]
    rfl
  | d + 1, k, n + 1, s, hk, hn => by
    have hk25 : k < 25 := by omega
    have ih := fun s => m_step_go h z d (k + 1) n s (by omega) (by omega)
    have lo : ∀ s' : Int32, (if (20 : Int32) ≤ nI k then f_X13_steepest_9 g z n s' (nI k + 1) else (f_X13_slope g (nI k) 5).bind fun r48 => if r48 ≤ s' then f_X13_steepest_9 g z n s' (nI k + 1) else (f_X13_slope g (nI k) 5).bind fun r58 => f_X13_steepest_9 g z n r58 (nI k + 1)) = z (stN c d (k + 1) (if 20 ≤ k then s' else mx s' (dst (c k) (c (k + 5))))) := by
      intro s'
      rw [qI_succ]
      by_cases h20 : 20 ≤ k
      · rw [if_pos h20, if_pos (show (20 : Int32) ≤ nI k by rw [li20, qI_le (by decide) (by omega)]; exact h20), ih]
      · rw [if_neg h20, if_neg (show ¬ (20 : Int32) ≤ nI k from nle (show k < 20 by omega) (by decide)), li5, m_slope h (show k + 5 < 25 by omega), Option.bind_some, Option.bind_some, ← mx_le]
        by_cases hm : dst (c k) (c (k + 5)) ≤ s'
        · rw [if_pos hm, if_pos hm, ih]
        · rw [if_neg hm, if_neg hm, ih]
    rw [f_X13_steepest_9, if_neg (show ¬ (25 : Int32) ≤ nI k from nle hk25 (by decide)), jo, qm5 hk25, stN]
    by_cases h4 : k % 5 = 4
    · rw [if_pos h4, h4, if_pos (show (4 : Int32) ≤ nI 4 from Int32.le_refl _)]
      exact lo s
    · rw [if_neg h4, if_neg (show ¬ (4 : Int32) ≤ nI (k % 5) from nle (show k % 5 < 4 by omega) (by decide)), show f_X13_slope g (nI k) 1 = some (dst (c k) (c (k + 1))) from m_slope h (show k + 1 < 25 by omega), Option.bind_some, Option.bind_some, ← mx_le]
      by_cases hm : dst (c k) (c (k + 1)) ≤ s
      · rw [if_pos hm, if_pos hm]
        exact lo s
      · rw [if_neg hm, if_neg hm]
        exact lo _
theorem m_steepest {g c : Nat → Int32} (h : ∀ k, k < 25 → g (7 + k) = c k) (code : Int32) : f_X13_steepest g code = some (stN c 25 0 0, 0) := by
  unfold f_X13_steepest
  exact m_step_go h (fun s => some (s, 0)) 25 0 1000 0 rfl (by decide)
theorem ne5 {r q : Nat} (hr : r < 5) (hq : q < 5) : ¬ (nI r < 0 ∨ 5 ≤ nI r ∨ nI q < 0 ∨ 5 ≤ nI q) := by
  rintro (h | h | h | h)
  · exact qI_neg0 _ (by omega) h
  · exact nle (show r < 5 by omega) (by decide) h
  · exact qI_neg0 _ (by omega) h
  · exact nle (show q < 5 by omega) (by decide) h
theorem e44 : (nI 4 = (4 : Int32)) = True := eq_true rfl
theorem e4n {q : Nat} (h : q < 4) : (nI q = (4 : Int32)) = False := by rw [li4, qI_eq (by omega) (by decide)]; exact eq_false (by omega)
theorem edR (r : Nat) : nI r < 0 ∨ 5 ≤ nI r ∨ nI (4 + 1) < 0 ∨ 5 ≤ nI (4 + 1) := Or.inr (Or.inr (Or.inr (Int32.le_refl _)))
theorem edB (q : Nat) : nI (4 + 1) < 0 ∨ 5 ≤ nI (4 + 1) ∨ nI q < 0 ∨ 5 ≤ nI q := Or.inr (Or.inl (Int32.le_refl _))
theorem L_frR_bad (c : Nat → Int32) (t : Int32) (o : Nat → Int64) {a1 a2 : Int32} (h : a1 < 0 ∨ 5 ≤ a1 ∨ a2 < 0 ∨ 5 ≤ a2) : f_L_isFrontRight c t o 1 a1 a2 = some (1, o) := by
  unfold f_L_isFrontRight f_X12_isFrontRight
  simp only [jo, s_requireCell, if_pos h, Option.bind_some, n10, if_true, if_false]
theorem M_frR_bad (g : Nat → Int32) (code : Int32) {a1 a2 : Int32} (h : a1 < 0 ∨ 5 ≤ a1 ∨ a2 < 0 ∨ 5 ≤ a2) : f_X13_isFrontRight g code a1 a2 = some (0, 1) := by
  unfold f_X13_isFrontRight
  simp only [jo, m_isCell, if_pos h, Option.bind_some, if_true, m_fails1, i10, if_false, narB0, not_true_eq_false]
theorem L_frR_edge (c : Nat → Int32) (t : Int32) (o : Nat → Int64) {r : Nat} (h : r < 5) : f_L_isFrontRight c t o 1 (nI r) (nI 4) = some (2, o) := by
  unfold f_L_isFrontRight f_X12_isFrontRight
  simp only [jo, s_requireCell, if_neg (ne5 h (show 4 < 5 by decide)), Option.bind_some, n40, n41, if_true, if_false, s_isCell, qI_succ, if_pos (edR r)]
theorem M_frR_edge (g : Nat → Int32) (code : Int32) {r : Nat} (h : r < 5) : f_X13_isFrontRight g code (nI r) (nI 4) = some (0, 2) := by
  unfold f_X13_isFrontRight
  simp only [jo, m_isCell, if_neg (ne5 h (show 4 < 5 by decide)), Option.bind_some, i10, e44, if_true, m_fails2, if_false, narB0, not_true_eq_false]
theorem L_frR_ok {c : Nat → Int32} (hc : Rng c) (t : Int32) (o : Nat → Int64) {r q : Nat} (hr : r < 5) (hq : q < 4) : f_L_isFrontRight c t o 1 (nI r) (nI q) = some (0, vp_updL o (0 : Int32).toNatClampNeg (frt c t (r * 5 + q) (r * 5 + q + 1)).toInt64) := by
  have hf := s_hasFront hc t (show r * 5 + q < 25 by omega) (show r * 5 + (q + 1) < 25 by omega)
  rw [show r * 5 + (q + 1) = r * 5 + q + 1 by omega] at hf
  unfold f_L_isFrontRight f_X12_isFrontRight
  simp only [jo, s_requireCell, if_neg (ne5 (show r < 5 by omega) (show q < 5 by omega)), Option.bind_some, i10, if_true, if_false, s_isCell, qI_succ, if_neg (ne5 (show r < 5 by omega) (show q + 1 < 5 by omega)), s_cellOf]
  rw [show r * 5 + (q + 1) = r * 5 + q + 1 by omega]
  simp only [hf, Option.bind_some]
  rcases frt01 c t (r * 5 + q) (r * 5 + q + 1) with e | e
  · simp only [e, narB0, not_true_eq_false, if_false, if_true, Option.bind_some]
    exact if_neg (g0F (by decide))
  · simp only [e, narB1, not_true_eq_false, if_false, if_true, Option.bind_some, i10]
    exact if_neg (g0F (by decide))
theorem M_frR_ok {g c : Nat → Int32} {t : Int32} (h : ∀ k, k < 25 → g (7 + k) = c k) (ht : g 2 = t) (code : Int32) {r q : Nat} (hr : r < 5) (hq : q < 4) : f_X13_isFrontRight g code (nI r) (nI q) = some (frt c t (r * 5 + q) (r * 5 + q + 1), 0) := by
  unfold f_X13_isFrontRight
  simp only [jo, m_isCell, if_neg (ne5 (show r < 5 by omega) (show q < 5 by omega)), Option.bind_some, i10, e4n hq, if_false, m_fails0, if_true, cell5, m_isFront1 h ht (show r * 5 + q + 1 < 25 by omega)]
  rcases frt01 c t (r * 5 + q) (r * 5 + q + 1) with e | e
  · simp only [e, narB0, not_true_eq_false, if_false, if_true]
  · simp only [e, narB1, not_true_eq_false, if_false, i10]
theorem L_frB_bad (c : Nat → Int32) (t : Int32) (o : Nat → Int64) {a1 a2 : Int32} (h : a1 < 0 ∨ 5 ≤ a1 ∨ a2 < 0 ∨ 5 ≤ a2) : f_L_isFrontBelow c t o 1 a1 a2 = some (1, o) := by
  unfold f_L_isFrontBelow f_X12_isFrontBelow
  simp only [jo, s_requireCell, if_pos h, Option.bind_some, n10, if_true, if_false]
theorem M_frB_bad (g : Nat → Int32) (code : Int32) {a1 a2 : Int32} (h : a1 < 0 ∨ 5 ≤ a1 ∨ a2 < 0 ∨ 5 ≤ a2) : f_X13_isFrontBelow g code a1 a2 = some (0, 1) := by
  unfold f_X13_isFrontBelow
  simp only [jo, m_isCell, if_pos h, Option.bind_some, if_true, m_fails1, i10, if_false, narB0, not_true_eq_false]
theorem L_frB_edge (c : Nat → Int32) (t : Int32) (o : Nat → Int64) {q : Nat} (h : q < 5) : f_L_isFrontBelow c t o 1 (nI 4) (nI q) = some (2, o) := by
  unfold f_L_isFrontBelow f_X12_isFrontBelow
  simp only [jo, s_requireCell, if_neg (ne5 (show 4 < 5 by decide) h), Option.bind_some, n40, n41, if_true, if_false, s_isCell, qI_succ, if_pos (edB q)]
theorem M_frB_edge (g : Nat → Int32) (code : Int32) {q : Nat} (h : q < 5) : f_X13_isFrontBelow g code (nI 4) (nI q) = some (0, 2) := by
  unfold f_X13_isFrontBelow
  simp only [jo, m_isCell, if_neg (ne5 (show 4 < 5 by decide) h), Option.bind_some, i10, e44, if_true, m_fails2, if_false, narB0, not_true_eq_false]
theorem L_frB_ok {c : Nat → Int32} (hc : Rng c) (t : Int32) (o : Nat → Int64) {r q : Nat} (hr : r < 4) (hq : q < 5) : f_L_isFrontBelow c t o 1 (nI r) (nI q) = some (0, vp_updL o (0 : Int32).toNatClampNeg (frt c t (r * 5 + q) (r * 5 + q + 5)).toInt64) := by
  have hf := s_hasFront hc t (show r * 5 + q < 25 by omega) (show (r + 1) * 5 + q < 25 by omega)
  rw [show (r + 1) * 5 + q = r * 5 + q + 5 by omega] at hf
  unfold f_L_isFrontBelow f_X12_isFrontBelow
  simp only [jo, s_requireCell, if_neg (ne5 (show r < 5 by omega) (show q < 5 by omega)), Option.bind_some, i10, if_true, if_false, s_isCell, qI_succ, if_neg (ne5 (show r + 1 < 5 by omega) (show q < 5 by omega)), s_cellOf]
  rw [show (r + 1) * 5 + q = r * 5 + q + 5 by omega]
  simp only [hf, Option.bind_some]
  rcases frt01 c t (r * 5 + q) (r * 5 + q + 5) with e | e
  · simp only [e, narB0, not_true_eq_false, if_false, if_true, Option.bind_some]
    exact if_neg (g0F (by decide))
  · simp only [e, narB1, not_true_eq_false, if_false, if_true, Option.bind_some, i10]
    exact if_neg (g0F (by decide))
theorem M_frB_ok {g c : Nat → Int32} {t : Int32} (h : ∀ k, k < 25 → g (7 + k) = c k) (ht : g 2 = t) (code : Int32) {r q : Nat} (hr : r < 4) (hq : q < 5) : f_X13_isFrontBelow g code (nI r) (nI q) = some (frt c t (r * 5 + q) (r * 5 + q + 5), 0) := by
  unfold f_X13_isFrontBelow
  simp only [jo, m_isCell, if_neg (ne5 (show r < 5 by omega) (show q < 5 by omega)), Option.bind_some, i10, e4n hr, if_false, m_fails0, if_true, cell5, m_isFront5 h ht (show r * 5 + q + 5 < 25 by omega)]
  rcases frt01 c t (r * 5 + q) (r * 5 + q + 5) with e | e
  · simp only [e, narB0, not_true_eq_false, if_false, if_true]
  · simp only [e, narB1, not_true_eq_false, if_false, i10]
theorem tailB {α : Type} {v : Int32} {o : Nat → Int64} {b : α} (hv : v = 0 ∨ v = 1) : (if (0 : Int32) = 0 then jo (some b) (fun j => if (0 : Int32) = 0 then jo (fun (x y : Int64) => if lg_cmp x y = 0 then j else none) (fun jj => if ((0 : Int32) < 0) ∨ 1 ≤ (0 : Int32).toNatClampNeg then none else if v = 0 then jj (vp_updL o (0 : Int32).toNatClampNeg v.toInt64 (0 : Int32).toNatClampNeg) 0 else jj (vp_updL o (0 : Int32).toNatClampNeg v.toInt64 (0 : Int32).toNatClampNeg) 1) else j) else none) = some b := by
  rcases hv with rfl | rfl
  · rw [if_pos rfl, jo, if_pos rfl, jo, if_neg (g0F (by decide)), if_pos rfl]
    exact if_pos (out_same o (0 : Int32).toInt64)
  · rw [if_pos rfl, jo, if_pos rfl, jo, if_neg (g0F (by decide)), if_neg i10]
    exact if_pos (out_same o (1 : Int32).toInt64)
theorem tailNB {α : Type} {k : Int32} {x : Option α → Option α} {b : α} (hk : k ≠ 0) : (if k = k then jo (some b) (fun j => if k = 0 then x j else j) else none) = some b := by
  rw [if_pos rfl, jo, if_neg hk]
