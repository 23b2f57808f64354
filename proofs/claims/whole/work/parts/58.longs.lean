/-! longs that are small: written as nL -/
abbrev nL (k : Nat) : Int64 := Int64.ofNat k
theorem L0 : (0 : Int64) = nL 0 := rfl
theorem L1 : (1 : Int64) = nL 1 := rfl
theorem qL_toInt {k : Nat} (h : k < 9223372036854775808) : (nL k).toInt = k := Int64.toInt_ofNat_of_lt h
theorem qL_lt {a b : Nat} (ha : a < 9223372036854775808) (hb : b < 9223372036854775808) : (nL a < nL b) = (a < b) := propext (Int64.ofNat_lt_iff_lt ha hb)
theorem qL_le {a b : Nat} (ha : a < 9223372036854775808) (hb : b < 9223372036854775808) : (nL a ≤ nL b) = (a ≤ b) := propext (Int64.ofNat_le_iff_le ha hb)
theorem qL_eq {a b : Nat} (ha : a < 9223372036854775808) (hb : b < 9223372036854775808) : (nL a = nL b) = (a = b) := propext ⟨fun h => by
  have := congrArg Int64.toInt h
  rw [qL_toInt ha, qL_toInt hb] at this
  omega, fun h => by rw [h]⟩
theorem qL_add (a b : Nat) : nL a + nL b = nL (a + b) := (Int64.ofNat_add a b).symm
theorem qL_mul (a b : Nat) : nL a * nL b = nL (a * b) := (Int64.ofNat_mul a b).symm
theorem qL_sub {a b : Nat} (h : b ≤ a) : nL a - nL b = nL (a - b) := by
  have e : nL a = nL (a - b) + nL b := by rw [qL_add, Nat.sub_add_cancel h]
  rw [e, Int64.add_sub_cancel]
theorem qL_div {a b : Nat} (ha : a < 9223372036854775808) (hb : b < 9223372036854775808) : nL a / nL b = nL (a / b) := by
  apply Int64.toInt_inj.mp
  have hm : nL a ≠ Int64.minValue := by
    intro e
    have e2 := congrArg Int64.toInt e
    rw [qL_toInt ha] at e2
    have e3 : Int64.minValue.toInt = -9223372036854775808 := by decide
    omega
  rw [Int64.toInt_div_of_ne_left _ _ hm, qL_toInt ha, qL_toInt hb, qL_toInt (Nat.lt_of_le_of_lt (Nat.div_le_self a b) ha)]
  exact (Int.ofNat_tdiv a b).symm
theorem qL_mod {a b : Nat} (ha : a < 9223372036854775808) (hb : b < 9223372036854775808) : nL a - nL a / nL b * nL b = nL (a % b) := by
  rw [qL_div ha hb, qL_mul, qL_sub (Nat.div_mul_le_self a b)]
  congr 1
  have e := Nat.div_add_mod a b
  rw [Nat.mul_comm] at e
  omega
theorem qL_of {k : Nat} (h : k < 2147483648) : (nI k).toInt64 = nL k := by
  apply Int64.toInt_inj.mp
  rw [Int32.toInt_toInt64, qI_toInt h, qL_toInt (by omega)]
theorem lgE {a b : Nat} (ha : a < 9223372036854775808) (hb : b < 9223372036854775808) : (lg_cmp (nL a) (nL b) = 0) = (a = b) := (propext (lg_cmp_eq _ _)).trans (qL_eq ha hb)
theorem lgL {a b : Nat} (ha : a < 9223372036854775808) (hb : b < 9223372036854775808) : (lg_cmp (nL a) (nL b) ≤ 0) = (a ≤ b) := (propext (lg_cmp_le _ _)).trans (qL_le ha hb)
theorem lgE0 {a : Nat} (ha : a < 9223372036854775808) : (lg_cmp (nL a) 0 = 0) = (a = 0) := lgE (b := 0) ha (by decide)
theorem lgL0 {a : Nat} (ha : a < 9223372036854775808) : (lg_cmp (nL a) 0 ≤ 0) = (a = 0) := (lgL (b := 0) ha (by decide)).trans (propext Nat.le_zero)
theorem qL_eq0 {a : Nat} (ha : a < 9223372036854775808) : (nL a = 0) = (a = 0) := qL_eq (b := 0) ha (by decide)
theorem updL_same (f : Nat → Int64) (k : Nat) (v : Int64) : vp_updL f k v k = v := by simp [vp_updL]
theorem updL_ne (f : Nat → Int64) {k j : Nat} (v : Int64) (h : j ≠ k) : vp_updL f k v j = f j := by simp [vp_updL, h]
theorem updL_id (f : Nat → Int64) {k : Nat} {v : Int64} (h : f k = v) : vp_updL f k v = f := by
  funext j
  by_cases e : j = k
  · subst e; rw [updL_same, h]
  · rw [updL_ne _ _ e]
/-! Euclid's steps -/
theorem gcd_step (a b : Nat) : Nat.gcd a b = Nat.gcd b (a % b) := by
  rw [Nat.gcd_comm a b, Nat.gcd_rec b a, Nat.gcd_comm]
theorem mod_half {a b : Nat} (hb : 0 < a % b) : (b % (a % b)) * 2 < b ∨ b = 0 := by
  by_cases h0 : b = 0
  · exact Or.inr h0
  · refine Or.inl ?_
    have h1 := Nat.mod_lt b hb
    have h2 := Nat.mod_lt a (Nat.pos_of_ne_zero h0)
    have h3 := Nat.div_add_mod b (a % b)
    have h4 : 1 ≤ b / (a % b) := Nat.div_pos (Nat.le_of_lt h2) hb
    have h5 : (a % b) * 1 ≤ (a % b) * (b / (a % b)) := Nat.mul_le_mul_left _ h4
    omega
theorem s_gd_go (z : Int64 → Option Int64) : ∀ (k a b st f : Nat), b < 2 ^ k → a < 9223372036854775808 → b < 9223372036854775808 → st + 2 * k < 100 → 2 * k + 1 < f → f_X5_greatestDivisor_9 z f (nL a) (nL b) (nI st) = z (nL (Nat.gcd a b))
  | _, _, _, _, 0, _, _, _, _, h => by omega
  | 0, a, b, st, f + 1, hb, ha, hb2, hs, hf => by
    have : b = 0 := by
      have : (2 : Nat) ^ 0 = 1 := rfl
      omega
    subst this
    rw [f_X5_greatestDivisor_9, if_neg (show ¬ (100 : Int32) ≤ nI st from nle (show st < 100 by omega) (by decide)), if_pos (show lg_cmp (nL 0) 0 = 0 by rw [lgE0 (by decide)]), Nat.gcd_zero_right]
  | k + 1, a, b, st, f + 1, hb, ha, hb2, hs, hf => by
    rw [f_X5_greatestDivisor_9, if_neg (show ¬ (100 : Int32) ≤ nI st from nle (show st < 100 by omega) (by decide))]
    by_cases h0 : b = 0
    · subst h0
      rw [if_pos (show lg_cmp (nL 0) 0 = 0 by rw [lgE0 (by decide)]), Nat.gcd_zero_right]
    · have hm := Nat.mod_lt a (Nat.pos_of_ne_zero h0)
      rw [if_neg (show ¬ lg_cmp (nL b) 0 = 0 by rw [lgE0 hb2]; exact h0), if_neg (show ¬ nL b = 0 by rw [qL_eq0 hb2]; exact h0), qL_mod ha hb2, qI_succ, gcd_step a b]
      obtain ⟨f', rfl⟩ : ∃ f', f = f' + 1 := ⟨f - 1, by omega⟩
      rw [f_X5_greatestDivisor_9, if_neg (show ¬ (100 : Int32) ≤ nI (st + 1) from nle (show st + 1 < 100 by omega) (by decide))]
      by_cases h1 : a % b = 0
      · rw [h1, if_pos (show lg_cmp (nL 0) 0 = 0 by rw [lgE0 (by decide)]), Nat.gcd_zero_right]
      · rw [if_neg (show ¬ lg_cmp (nL (a % b)) 0 = 0 by rw [lgE0 (by omega)]; exact h1), if_neg (show ¬ nL (a % b) = 0 by rw [qL_eq0 (by omega)]; exact h1), qL_mod hb2 (by omega), qI_succ, gcd_step b (a % b)]
        have h2 := (mod_half (a := a) (b := b) (Nat.pos_of_ne_zero h1)).resolve_right h0
        have h3 : (2 : Nat) ^ (k + 1) = 2 ^ k * 2 := Nat.pow_succ _ _
        exact s_gd_go z k (a % b) (b % (a % b)) (st + 1 + 1) f' (by omega) (by omega) (by have := Nat.mod_le b (a % b); omega) (by omega) (by omega)
theorem s_gd {a b : Nat} (ha : a < 9223372036854775808) (hb : b < 35184372088832) (h : 0 < a ∨ 0 < b) : f_X5_greatestDivisor (nL a) (nL b) = some (nL (Nat.gcd a b)) := by
  unfold f_X5_greatestDivisor
  refine (s_gd_go _ 45 a b 0 1000 hb ha (by omega) (by decide) (by decide)).trans ?_
  have hg : 0 < Nat.gcd a b := h.elim (fun h => Nat.gcd_pos_of_pos_left b h) (fun h => Nat.gcd_pos_of_pos_right a h)
  have hl : Nat.gcd a b < 9223372036854775808 := h.elim (fun h => Nat.lt_of_le_of_lt (Nat.gcd_le_left b h) ha) (fun h => Nat.lt_of_le_of_lt (Nat.gcd_le_right a h) (by omega))
  rw [joE, if_neg (show ¬ lg_cmp (nL (Nat.gcd a b)) 0 ≤ 0 by rw [lgL0 hl]; omega)]
theorem m_gd_go (z : Int64 → Option Int64) : ∀ (k a b f : Nat), b < 2 ^ k → a < 9223372036854775808 → b < 9223372036854775808 → 2 * k + 1 < f → f_X13_shared_6 z f (nL a) (nL b) = z (nL (Nat.gcd a b))
  | _, _, _, 0, _, _, _, h => by omega
  | 0, a, b, f + 1, hb, ha, hb2, hf => by
    have : b = 0 := by
      have : (2 : Nat) ^ 0 = 1 := rfl
      omega
    subst this
    rw [f_X13_shared_6, if_pos (show lg_cmp (nL 0) 0 ≤ 0 by rw [lgL0 (by decide)]), Nat.gcd_zero_right]
  | k + 1, a, b, f + 1, hb, ha, hb2, hf => by
    rw [f_X13_shared_6]
    by_cases h0 : b = 0
    · subst h0
      rw [if_pos (show lg_cmp (nL 0) 0 ≤ 0 by rw [lgL0 (by decide)]), Nat.gcd_zero_right]
    · have hm := Nat.mod_lt a (Nat.pos_of_ne_zero h0)
      rw [if_neg (show ¬ lg_cmp (nL b) 0 ≤ 0 by rw [lgL0 hb2]; exact h0), if_neg (show ¬ nL b = 0 by rw [qL_eq0 hb2]; exact h0), qL_mod ha hb2, gcd_step a b]
      obtain ⟨f', rfl⟩ : ∃ f', f = f' + 1 := ⟨f - 1, by omega⟩
      rw [f_X13_shared_6]
      by_cases h1 : a % b = 0
      · rw [h1, if_pos (show lg_cmp (nL 0) 0 ≤ 0 by rw [lgL0 (by decide)]), Nat.gcd_zero_right]
      · rw [if_neg (show ¬ lg_cmp (nL (a % b)) 0 ≤ 0 by rw [lgL0 (by omega)]; exact h1), if_neg (show ¬ nL (a % b) = 0 by rw [qL_eq0 (by omega)]; exact h1), qL_mod hb2 (by omega), gcd_step b (a % b)]
        have h2 := (mod_half (a := a) (b := b) (Nat.pos_of_ne_zero h1)).resolve_right h0
        have h3 : (2 : Nat) ^ (k + 1) = 2 ^ k * 2 := Nat.pow_succ _ _
        exact m_gd_go z k (a % b) (b % (a % b)) f' (by omega) (by omega) (by have := Nat.mod_le b (a % b); omega) (by omega)
theorem m_gd {a b : Nat} (ha : a < 9223372036854775808) (hb : b < 35184372088832) : f_X13_shared (nL a) (nL b) = some (nL (Nat.gcd a b)) := by
  unfold f_X13_shared
  exact m_gd_go _ 45 a b 1000 hb ha (by omega) (by decide)
/-! fractions in lowest terms -/
def fN (X M : Nat) : Nat := X / Nat.gcd X M
def fD (X M : Nat) : Nat := M / Nat.gcd X M
theorem fr_mul {X M : Nat} (hM : 0 < M) : fN X M * M = X * fD X M := by
  unfold fN fD
  obtain ⟨x, hx⟩ := Nat.gcd_dvd_left X M
  obtain ⟨m, hm⟩ := Nat.gcd_dvd_right X M
  have hg : 0 < Nat.gcd X M := Nat.gcd_pos_of_pos_right X hM
  generalize Nat.gcd X M = g at hx hm hg ⊢
  subst hx hm
  rw [Nat.mul_div_cancel_left x hg, Nat.mul_div_cancel_left m hg, Nat.mul_left_comm, Nat.mul_assoc]
theorem fD_pos {X M : Nat} (hM : 0 < M) : 0 < fD X M := Nat.div_pos (Nat.gcd_le_right X hM) (Nat.gcd_pos_of_pos_right X hM)
theorem fr_eq {x w X M : Nat} (hw : 0 < w) (hM : 0 < M) (h : x * M = X * w) : x / Nat.gcd x w = fN X M ∧ w / Nat.gcd x w = fD X M := by
  unfold fN fD
  have key : Nat.gcd x w * M = Nat.gcd X M * w := by
    rw [← Nat.gcd_mul_right, ← Nat.gcd_mul_right, h, Nat.mul_comm w M]
  obtain ⟨x', hx⟩ := Nat.gcd_dvd_left x w
  obtain ⟨w', hw'⟩ := Nat.gcd_dvd_right x w
  obtain ⟨X', hX⟩ := Nat.gcd_dvd_left X M
  obtain ⟨M', hM'⟩ := Nat.gcd_dvd_right X M
  have hg : 0 < Nat.gcd x w := Nat.gcd_pos_of_pos_right x hw
  have hG : 0 < Nat.gcd X M := Nat.gcd_pos_of_pos_right X hM
  generalize Nat.gcd x w = g at *
  generalize Nat.gcd X M = G at *
  subst hx hX
  have hwM : w' = M' := by
    have : g * G * M' = g * G * w' := by
      calc g * G * M' = g * (G * M') := Nat.mul_assoc _ _ _
        _ = g * M := by rw [← hM']
        _ = G * w := key
        _ = G * (g * w') := by rw [← hw']
        _ = g * G * w' := by rw [← Nat.mul_assoc, Nat.mul_comm G g]
    exact (Nat.eq_of_mul_eq_mul_left (Nat.mul_pos hg hG) this).symm
  have hxX : x' = X' := by
    have : (g * G * M') * x' = (g * G * M') * X' := by
      calc (g * G * M') * x' = g * x' * (G * M') := by
            rw [Nat.mul_assoc g G M', Nat.mul_assoc, Nat.mul_comm (G * M') x', ← Nat.mul_assoc]
        _ = g * x' * M := by rw [← hM']
        _ = G * X' * w := h
        _ = G * X' * (g * w') := by rw [← hw']
        _ = (g * G * M') * X' := by
            rw [hwM, Nat.mul_comm (G * X'), Nat.mul_assoc g M' (G * X'), Nat.mul_left_comm M' G X', ← Nat.mul_assoc g G, ← Nat.mul_assoc]
    have hM0 : 0 < M' := by
      rcases Nat.eq_zero_or_pos M' with e | e
      · rw [e, Nat.mul_zero] at hM'
        omega
      · exact e
    exact Nat.eq_of_mul_eq_mul_left (Nat.mul_pos (Nat.mul_pos hg hG) hM0) this
  rw [Nat.mul_div_cancel_left x' hg, Nat.mul_div_cancel_left X' hG]
  refine ⟨hxX, ?_⟩
  rw [hw', hM', Nat.mul_div_cancel_left w' hg, Nat.mul_div_cancel_left M' hG]
  exact hwM
/-- a fraction added -/
theorem fr_add {X Y M a b D : Nat} (hM : 0 < M) (hb : 0 < b) (hD : 0 < D) (hab : a * M = Y * b) (hXY : X + Y ≤ M) (he : fD X M ∣ D) (hbD : b ∣ D) :
    (fN X M * (b / Nat.gcd (fD X M) b) + a * (fD X M / Nat.gcd (fD X M) b)) * M = (X + Y) * (fD X M / Nat.gcd (fD X M) b * b) ∧ fD X M / Nat.gcd (fD X M) b * b ∣ D ∧ 0 < fD X M / Nat.gcd (fD X M) b * b ∧ fN X M * (b / Nat.gcd (fD X M) b) + a * (fD X M / Nat.gcd (fD X M) b) ≤ fD X M / Nat.gcd (fD X M) b * b := by
  have hf := fr_mul (X := X) hM
  have hep := fD_pos (X := X) hM
  have hl := Nat.lcm_dvd he hbD
  rw [Nat.lcm] at hl
  generalize fN X M = n at hf ⊢
  generalize fD X M = e at hf hep he hl ⊢
  obtain ⟨e', he'⟩ := Nat.gcd_dvd_left e b
  obtain ⟨b', hb'⟩ := Nat.gcd_dvd_right e b
  have hs : 0 < Nat.gcd e b := Nat.gcd_pos_of_pos_right e hb
  generalize Nat.gcd e b = s at *
  have q1 : e / s = e' := by rw [he', Nat.mul_div_cancel_left e' hs]
  have q2 : b / s = b' := by rw [hb', Nat.mul_div_cancel_left b' hs]
  rw [q1, q2]
  have hl' : e' * b ∣ D := by
    have : e * b / s = e' * b := by rw [he', Nat.mul_assoc, Nat.mul_div_cancel_left _ hs]
    rw [this] at hl
    exact hl
  have e0 : 0 < e' := by
    rcases Nat.eq_zero_or_pos e' with q | q
    · rw [q, Nat.mul_zero] at he'
      omega
    · exact q
  have main : (n * b' + a * e') * M = (X + Y) * (e' * b) := by
    rw [Nat.add_mul, Nat.add_mul]
    have m1 : n * b' * M = X * (e' * b) := by
      calc n * b' * M = (n * M) * b' := by rw [Nat.mul_assoc, Nat.mul_comm b' M, ← Nat.mul_assoc]
        _ = X * e * b' := by rw [hf]
        _ = X * (s * e') * b' := by rw [← he']
        _ = X * (e' * (s * b')) := by rw [Nat.mul_assoc, Nat.mul_comm s e', Nat.mul_assoc e']
        _ = X * (e' * b) := by rw [← hb']
    have m2 : a * e' * M = Y * (e' * b) := by
      calc a * e' * M = (a * M) * e' := by rw [Nat.mul_assoc, Nat.mul_comm e' M, ← Nat.mul_assoc]
        _ = Y * b * e' := by rw [hab]
        _ = Y * (e' * b) := by rw [Nat.mul_assoc, Nat.mul_comm b e']
    rw [m1, m2]
  refine ⟨main, hl', Nat.mul_pos e0 hb, ?_⟩
  refine Nat.le_of_mul_le_mul_right (c := M) ?_ hM
  rw [main, Nat.mul_comm (e' * b) M]
  exact Nat.mul_le_mul_right _ hXY
