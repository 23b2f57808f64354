/-! weathers and forecasts -/
theorem s_isWeather (a : Int32) : f_X2_isWeather a = some (if a < 0 ∨ 4 ≤ a then 0 else 1) := by
  unfold f_X2_isWeather
  rw [jo]
  rw [jo]
  by_cases h0 : a < 0
  · rw [if_pos h0, if_pos (Or.inl h0)]; exact if_neg (fun q => q narB0)
  · by_cases h1 : 4 ≤ a
    · rw [if_neg h0, if_pos h1, if_pos (Or.inr h1)]; exact if_neg (fun q => q narB0)
    · rw [if_neg h0, if_neg h1, if_neg (fun q => q.elim h0 h1)]; exact if_neg (fun q => q narB1)
theorem m_isSort (a : Int32) : f_X13_isSort a = some (if a < 0 ∨ 4 ≤ a then 0 else 1) := by
  unfold f_X13_isSort
  have e : ((3 : Int32) < a) = (4 ≤ a) := lt_nI 3 (by decide) a
  rw [s_in, Option.bind_some]
  by_cases h : a < 0 ∨ 4 ≤ a
  · rw [if_pos h, if_pos (show a < 0 ∨ 3 < a by rw [e]; exact h)]; exact if_neg (fun q => q narB0)
  · rw [if_neg h, if_neg (show ¬ (a < 0 ∨ 3 < a) by rw [e]; exact h)]; exact if_neg (fun q => q narB1)
theorem s_requireWeather (a : Int32) : f_X12_requireWeather a = some (if a < 0 ∨ 4 ≤ a then 2 else 0, ()) := by
  unfold f_X12_requireWeather
  rw [s_isWeather, Option.bind_some]
  by_cases h : a < 0 ∨ 4 ≤ a
  · rw [if_pos h, if_pos h, if_pos rfl]
  · rw [if_neg h, if_neg h, if_neg i10]
theorem w_cases (a : Int32) : (a < 0 ∨ 4 ≤ a) ∨ (¬ (a < 0 ∨ 4 ≤ a) ∧ ∃ r, r < 4 ∧ a = nI r) := by
  by_cases h : a < 0 ∨ 4 ≤ a
  · exact Or.inl h
  · refine Or.inr ⟨h, ?_⟩
    obtain ⟨k, hk, e⟩ := qI_in (b := 4) (by decide) (i_nlt.mp (fun q => h (Or.inl q))) (i_nle.mp (fun q => h (Or.inr q)))
    exact ⟨k, hk, e⟩
theorem wcell {r q : Nat} (hr : r < 4) (hq : q < 4) : (32 : Int32) + 4 * nI r + nI q = nI (32 + (4 * r + q)) := by
  rw [li32, li4, qI_mul, qI_add, qI_add, Nat.add_assoc]
theorem s_weight (w : Nat → Int32) {r q : Nat} (hr : r < 4) (hq : q < 4) (h1 : ¬ (nI r < 0 ∨ 4 ≤ nI r)) (h2 : ¬ (nI q < 0 ∨ 4 ≤ nI q)) : f_X2_weight w (nI r) (nI q) = some (w (4 * r + q)) := by
  unfold f_X2_weight
  simp only [jo, s_isWeather, if_neg h1, if_neg h2, Option.bind_some, i10, if_false]
  rw [show nI r * 4 + nI q = nI (4 * r + q) by rw [li4, qI_mul, qI_add, Nat.mul_comm], if_neg (ixo (show 4 * r + q < 16 by omega) (by decide)), qI_cl (show 4 * r + q < 2147483648 by omega)]
theorem m_weighs {g w : Nat → Int32} (h : ∀ k, k < 16 → g (32 + k) = w k) {r q : Nat} (hr : r < 4) (hq : q < 4) : f_X13_weighs g (nI r) (nI q) = some (w (4 * r + q)) := by
  unfold f_X13_weighs
  rw [wcell hr hq, if_neg (ixo (show 32 + (4 * r + q) < 60 by omega) (by decide)), qI_cl (show 32 + (4 * r + q) < 2147483648 by omega), h _ (by omega)]
theorem weightOf_both {g w : Nat → Int32} (h : ∀ k, k < 16 → g (32 + k) = w k) (o : Nat → Int64) (code a1 a2 : Int32) : (f_L_weightOf w o 1 a1 a2 = some (1, o) ∧ f_X13_weightOf g code a1 a2 = some (0, 1)) ∨ ∃ v : Int32, f_L_weightOf w o 1 a1 a2 = some (0, vp_updL o (0 : Int32).toNatClampNeg v.toInt64) ∧ f_X13_weightOf g code a1 a2 = some (v, 0) := by
  unfold f_L_weightOf f_X12_weightOf f_X13_weightOf
  rcases w_cases a1 with h1 | ⟨h1, r, hr, rfl⟩
  · refine Or.inl ⟨?_, ?_⟩
    · simp only [s_requireWeather, if_pos h1, Option.bind_some, n20, if_false, if_true]
    · simp only [jo, m_isSort, if_pos h1, Option.bind_some, if_true, m_fails1, i10, if_false]
  · rcases w_cases a2 with h2 | ⟨h2, q, hq, rfl⟩
    · refine Or.inl ⟨?_, ?_⟩
      · simp only [s_requireWeather, if_pos h2, if_neg h1, Option.bind_some, n20, if_false, if_true]
      · simp only [jo, m_isSort, if_pos h2, if_neg h1, Option.bind_some, if_true, m_fails1, i10, if_false]
    · refine Or.inr ⟨w (4 * r + q), ?_, ?_⟩
      · simp only [s_requireWeather, if_neg h1, if_neg h2, Option.bind_some, if_true, s_weight w hr hq h1 h2]
        exact if_neg (g0F (by decide))
      · simp only [jo, m_isSort, if_neg h1, if_neg h2, Option.bind_some, if_true, m_fails0, i10, if_false, m_weighs h hr hq]
theorem s_has {n : Nat} (hn : n ≤ 6) (a : Int32) : f_X4_has (nI n) a = some (if a < 0 ∨ nI n ≤ a then 0 else 1) := by
  unfold f_X4_has
  rw [jo]
  rw [jo]
  by_cases h0 : a < 0
  · rw [if_pos h0, if_pos (Or.inl h0)]; exact if_neg (fun q => q narB0)
  · by_cases h1 : nI n ≤ a
    · rw [if_neg h0, if_pos h1, if_pos (Or.inr h1)]; exact if_neg (fun q => q narB0)
    · have h6 : ¬ (6 : Int32) ≤ a := fun q => h1 (Int32.le_trans (show nI n ≤ 6 by rw [li6, qI_le (by omega) (by decide)]; exact hn) q)
      rw [if_neg h0, if_neg h1, if_neg h6, if_neg (fun q => q.elim h0 h1)]; exact if_neg (fun q => q narB1)
theorem nI_sub1 {n : Nat} (hn : n ≤ 6) (a : Int32) : (nI n - 1 < a) = (nI n ≤ a) := by
  have e : (nI n - 1).toInt = (n : Int) - 1 := by
    rw [Int32.toInt_sub, qI_toInt (show n < 2147483648 by omega), show (1 : Int32).toInt = 1 from rfl]
    exact Int.bmod_eq_of_le (by omega) (by omega)
  rw [Int32.lt_iff_toInt_lt, Int32.le_iff_toInt_le, e, qI_toInt (show n < 2147483648 by omega)]
  exact propext ⟨fun h => by omega, fun h => by omega⟩
theorem m_isForecast {g : Nat → Int32} {n : Nat} (hn : n ≤ 6) (hg : g 3 = nI n) (a : Int32) : f_X13_isForecast g a = some (if a < 0 ∨ nI n ≤ a then 0 else 1) := by
  unfold f_X13_isForecast
  rw [show g (3 : Int32).toNatClampNeg = nI n from hg, s_in, Option.bind_some]
  by_cases h : a < 0 ∨ nI n ≤ a
  · rw [if_pos h, if_pos (show a < 0 ∨ nI n - 1 < a by rw [nI_sub1 hn]; exact h)]; exact if_neg (fun q => q narB0)
  · rw [if_neg h, if_neg (show ¬ (a < 0 ∨ nI n - 1 < a) by rw [nI_sub1 hn]; exact h)]; exact if_neg (fun q => q narB1)
theorem fc_cases {n : Nat} (hn : n ≤ 6) (a : Int32) : (a < 0 ∨ nI n ≤ a) ∨ (¬ (a < 0 ∨ nI n ≤ a) ∧ ∃ k, k < n ∧ a = nI k) := by
  by_cases h : a < 0 ∨ nI n ≤ a
  · exact Or.inl h
  · refine Or.inr ⟨h, ?_⟩
    obtain ⟨k, hk, e⟩ := qI_in (b := n) (by omega) (i_nlt.mp (fun q => h (Or.inl q))) (i_nle.mp (fun q => h (Or.inr q)))
    exact ⟨k, hk, e⟩
theorem s_requireForecast {n : Nat} (hn : n ≤ 6) (a : Int32) : f_X12_requireForecast (nI n) a = some (if a < 0 ∨ nI n ≤ a then 1 else 0, ()) := by
  unfold f_X12_requireForecast
  rw [s_has hn, Option.bind_some]
  by_cases h : a < 0 ∨ nI n ≤ a
  · rw [if_pos h, if_pos h, if_pos rfl]
  · rw [if_neg h, if_neg h, if_neg i10]
theorem dayOf_both {g d : Nat → Int32} {n : Nat} (hn : n ≤ 6) (hg : g 3 = nI n) (h : ∀ k, k < n → g (48 + 2 * k) = d k) (o : Nat → Int64) (code a : Int32) : (f_L_dayOf d (nI n) o 1 a = some (1, o) ∧ f_X13_dayOf g code a = some (0, 1)) ∨ ∃ v : Int32, f_L_dayOf d (nI n) o 1 a = some (0, vp_updL o (0 : Int32).toNatClampNeg v.toInt64) ∧ f_X13_dayOf g code a = some (v, 0) := by
  unfold f_L_dayOf f_X12_dayOf f_X13_dayOf
  rcases fc_cases hn a with h1 | ⟨h1, k, hk, rfl⟩
  · refine Or.inl ⟨?_, ?_⟩
    · simp only [s_requireForecast hn, if_pos h1, Option.bind_some, n10, if_false, if_true]
    · simp only [jo, m_isForecast hn hg, if_pos h1, Option.bind_some, if_true, m_fails1, i10, if_false]
  · have e : (48 : Int32) + 2 * nI k + 0 = nI (48 + 2 * k) := by rw [Int32.add_zero, li48, li2, qI_mul, qI_add]
    refine Or.inr ⟨d k, ?_, ?_⟩
    · unfold f_X4_dayAt
      simp only [s_requireForecast hn, if_neg h1, Option.bind_some, if_true, jo, s_has hn, i10, if_false]
      rw [if_neg (ixo (show k < 6 by omega) (by decide)), qI_cl (show k < 2147483648 by omega)]
      simp only [Option.bind_some, if_true]
      exact if_neg (g0F (by decide))
    · unfold f_X13_of
      simp only [jo, m_isForecast hn hg, if_neg h1, Option.bind_some, if_true, m_fails0, i10, if_false, e]
      rw [if_neg (ixo (show 48 + 2 * k < 60 by omega) (by decide)), qI_cl (show 48 + 2 * k < 2147483648 by omega), h k hk]
      rfl
theorem weatherOf_both {g d : Nat → Int32} {n : Nat} (hn : n ≤ 6) (hg : g 3 = nI n) (h : ∀ k, k < n → g (49 + 2 * k) = d k) (o : Nat → Int64) (code a : Int32) : (f_L_weatherOf d (nI n) o 1 a = some (1, o) ∧ f_X13_weatherOf g code a = some (0, 1)) ∨ ∃ v : Int32, f_L_weatherOf d (nI n) o 1 a = some (0, vp_updL o (0 : Int32).toNatClampNeg v.toInt64) ∧ f_X13_weatherOf g code a = some (v, 0) := by
  unfold f_L_weatherOf f_X12_weatherOf f_X13_weatherOf
  rcases fc_cases hn a with h1 | ⟨h1, k, hk, rfl⟩
  · refine Or.inl ⟨?_, ?_⟩
    · simp only [s_requireForecast hn, if_pos h1, Option.bind_some, n10, if_false, if_true]
    · simp only [jo, m_isForecast hn hg, if_pos h1, Option.bind_some, if_true, m_fails1, i10, if_false]
  · have e : (48 : Int32) + 2 * nI k + 1 = nI (49 + 2 * k) := by
      rw [li48, li2, qI_mul, qI_add, qI_succ]
      exact congrArg nI (by omega)
    refine Or.inr ⟨d k, ?_, ?_⟩
    · unfold f_X4_weatherAt
      simp only [s_requireForecast hn, if_neg h1, Option.bind_some, if_true, jo, s_has hn, i10, if_false]
      rw [if_neg (ixo (show k < 6 by omega) (by decide)), qI_cl (show k < 2147483648 by omega)]
      simp only [Option.bind_some, if_true]
      exact if_neg (g0F (by decide))
    · unfold f_X13_of
      simp only [jo, m_isForecast hn hg, if_neg h1, Option.bind_some, if_true, m_fails0, i10, if_false, e]
      rw [if_neg (ixo (show 49 + 2 * k < 60 by omega) (by decide)), qI_cl (show 49 + 2 * k < 2147483648 by omega), h k hk]
      rfl
