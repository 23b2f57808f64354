/-! the calls that ask for chances -/
theorem s_requireDays (a : Int32) : f_X12_requireDays a = some (if a < 0 ∨ 3 < a then 2 else 0, ()) := by
  unfold f_X12_requireDays
  rw [joE]
  by_cases h0 : a < 0
  · rw [if_pos h0, if_pos (Or.inl h0)]
  · by_cases h1 : 3 < a
    · rw [if_neg h0, if_neg (i_nle.mpr h1), if_pos (Or.inr h1)]
    · rw [if_neg h0, if_pos (i_nlt.mp h1), if_neg (fun q => q.elim h0 h1)]
theorem m_isSoon (a : Int32) : f_X13_isSoon a = some (if a < 0 ∨ 3 < a then 0 else 1) := by
  unfold f_X13_isSoon
  rw [s_in, obS]
  by_cases h : a < 0 ∨ 3 < a
  · rw [if_pos h]; exact if_neg (fun q => q narB0)
  · rw [if_neg h]; exact if_neg (fun q => q narB1)
theorem days_cases (a : Int32) : (a < 0 ∨ 3 < a) ∨ (¬ (a < 0 ∨ 3 < a) ∧ ∃ d, d ≤ 3 ∧ a = nI d) := by
  by_cases h : a < 0 ∨ 3 < a
  · exact Or.inl h
  · obtain ⟨v, -, hv, e⟩ := in_rng (lo := 0) (hi := 3) (by decide) (by decide) h
    exact Or.inr ⟨h, v, hv, e⟩
theorem m_unaskedBad {a1 a2 : Int32} (h : (a1 < 0 ∨ 3 < a1) ∨ (a2 < 0 ∨ 4 ≤ a2)) (code : Int32) : f_X13_isUnasked code a1 a2 = some (1, 1) := by
  unfold f_X13_isUnasked
  have e1 : (¬ vp_nar .boolean (1 : Int32) = 1) = False := eq_false (fun q => q narB1)
  by_cases h1 : a1 < 0 ∨ 3 < a1
  · simp only [joE, m_isSoon, if_pos h1, obS, if_true, m_fails1, e1, if_false]
  · have h2 := h.resolve_left h1
    simp only [joE, m_isSoon, if_neg h1, obS, i10, m_isSort, if_pos h2, if_true, m_fails1, e1, if_false]
theorem m_unaskedOk {a1 a2 : Int32} (h1 : ¬ (a1 < 0 ∨ 3 < a1)) (h2 : ¬ (a2 < 0 ∨ 4 ≤ a2)) (code : Int32) : f_X13_isUnasked code a1 a2 = some (0, 0) := by
  unfold f_X13_isUnasked
  have e1 : (¬ vp_nar .boolean (0 : Int32) = 0) = False := eq_false (fun q => q narB0)
  simp only [joE, m_isSoon, if_neg h1, obS, i10, m_isSort, if_neg h2, m_fails0, e1, if_false]
theorem tail0L {α : Type} {v : Int64} {o : Nat → Int64} {b : α} : (if (0 : Int32) = 0 then jo (some b) (fun j => if (0 : Int32) = 0 then (if ((0 : Int32) < 0) ∨ 1 ≤ (0 : Int32).toNatClampNeg then none else if lg_cmp (vp_updL o (0 : Int32).toNatClampNeg v (0 : Int32).toNatClampNeg) v = 0 then j else none) else j) else none) = some b := by
  rw [if_pos rfl, joE, if_pos rfl, if_neg (g0F (by decide)), out_same, if_pos rfl]
theorem m_upperBad {a1 a2 : Int32} (h : (a1 < 0 ∨ 3 < a1) ∨ (a2 < 0 ∨ 4 ≤ a2)) (g : Nat → Int32) (pa ne : Nat → Int64) (wa mo : Nat → Int32) (wh : Int64) (code : Int32) : f_X13_upper g pa ne wa mo wh code a1 a2 = some (0, pa, ne, wa, mo, wh, 1) := by
  unfold f_X13_upper
  rw [m_unaskedBad h, obS, if_neg i10]
theorem m_upperOk {g w : Nat → Int32} (hg : ∀ k, k < 16 → g (32 + k) = w k) (h : WS w) {p : Nat} (hg1 : g 1 = nI p) (hp : p < 4) {d t : Nat} (hd : d ≤ 3) (ht : t < 4) (pa ne : Nat → Int64) (wa mo : Nat → Int32) (wh : Int64) (code : Int32) : ∃ pa' ne' wa' mo', f_X13_upper g pa ne wa mo wh code (nI d) (nI t) = some (nL (fN (Pn (Aw w) p d t) (cmn (wsm w) ^ d)), pa', ne', wa', mo', nL (cmn (wsm w) ^ d), 0) := by
  obtain ⟨pa', ne', wa', mo', e1, e2, -⟩ := m_goes hg h hg1 hp hd pa ne wa mo wh
  obtain ⟨hC1, hC2, hC3⟩ := cmn_ok (WS_b h)
  have hM := pow_ok hC2 hC3 d hd
  have hP := Pn_le h hp d ht
  have hd3 : ¬ (nI d < 0 ∨ 3 < nI d) := fun q => q.elim (qI_neg0 d (by omega)) (fun q => by rw [li3, qI_lt (by decide) (by omega)] at q; omega)
  have hgp : 0 < Nat.gcd (cmn (wsm w) ^ d) (Pn (Aw w) p d t) := Nat.gcd_pos_of_pos_left _ hM.1
  have hgl : Nat.gcd (cmn (wsm w) ^ d) (Pn (Aw w) p d t) ≤ cmn (wsm w) ^ d := Nat.gcd_le_left _ hM.1
  refine ⟨pa', ne', wa', mo', ?_⟩
  unfold f_X13_upper
  rw [m_unaskedOk hd3 (nw4 ht), obS, if_pos rfl, e1, obS, if_neg (ixo ht (by decide)), qI_cl (show t < 2147483648 by omega)]
  dsimp only
  rw [e2 t ht, m_gd (by omega) (by omega), obS, if_neg (show ¬ nL (Nat.gcd (cmn (wsm w) ^ d) (Pn (Aw w) p d t)) = 0 by rw [qL_eq0 (by omega)]; omega), qL_div (by omega) (by omega), Nat.gcd_comm]
  rfl
theorem m_lowerBad {a1 a2 : Int32} (h : (a1 < 0 ∨ 3 < a1) ∨ (a2 < 0 ∨ 4 ≤ a2)) (g : Nat → Int32) (pa ne : Nat → Int64) (wa mo : Nat → Int32) (wh : Int64) (code : Int32) : f_X13_lower g pa ne wa mo wh code a1 a2 = some (0, pa, ne, wa, mo, wh, 1) := by
  unfold f_X13_lower
  rw [m_unaskedBad h, obS, if_neg i10]
theorem m_lowerOk {g w : Nat → Int32} (hg : ∀ k, k < 16 → g (32 + k) = w k) (h : WS w) {p : Nat} (hg1 : g 1 = nI p) (hp : p < 4) {d t : Nat} (hd : d ≤ 3) (ht : t < 4) (pa ne : Nat → Int64) (wa mo : Nat → Int32) (wh : Int64) (code : Int32) : ∃ pa' ne' wa' mo', f_X13_lower g pa ne wa mo wh code (nI d) (nI t) = some (nL (fD (Pn (Aw w) p d t) (cmn (wsm w) ^ d)), pa', ne', wa', mo', nL (cmn (wsm w) ^ d), 0) := by
  obtain ⟨pa', ne', wa', mo', e1, e2, -⟩ := m_goes hg h hg1 hp hd pa ne wa mo wh
  obtain ⟨hC1, hC2, hC3⟩ := cmn_ok (WS_b h)
  have hM := pow_ok hC2 hC3 d hd
  have hP := Pn_le h hp d ht
  have hd3 : ¬ (nI d < 0 ∨ 3 < nI d) := fun q => q.elim (qI_neg0 d (by omega)) (fun q => by rw [li3, qI_lt (by decide) (by omega)] at q; omega)
  have hgp : 0 < Nat.gcd (cmn (wsm w) ^ d) (Pn (Aw w) p d t) := Nat.gcd_pos_of_pos_left _ hM.1
  have hgl : Nat.gcd (cmn (wsm w) ^ d) (Pn (Aw w) p d t) ≤ cmn (wsm w) ^ d := Nat.gcd_le_left _ hM.1
  refine ⟨pa', ne', wa', mo', ?_⟩
  unfold f_X13_lower
  rw [m_unaskedOk hd3 (nw4 ht), obS, if_pos rfl, e1, obS, if_neg (ixo ht (by decide)), qI_cl (show t < 2147483648 by omega)]
  dsimp only
  rw [e2 t ht, m_gd (by omega) (by omega), obS, if_neg (show ¬ nL (Nat.gcd (cmn (wsm w) ^ d) (Pn (Aw w) p d t)) = 0 by rw [qL_eq0 (by omega)]; omega), qL_div (by omega) (by omega), Nat.gcd_comm]
  rfl
theorem chanceNumerator_both {g w : Nat → Int32} (hg : ∀ k, k < 16 → g (32 + k) = w k) (h : WS w) {p : Nat} (hg1 : g 1 = nI p) (hp : p < 4) (bn bd nn nd : Nat → Int64) (pa ne : Nat → Int64) (wa mo : Nat → Int32) (wh : Int64) (o : Nat → Int64) (code a1 a2 : Int32) : (f_L_chanceNumerator w (nI p) bn bd nn nd o 1 a1 a2 = some (1, bn, bd, nn, nd, o) ∧ f_X13_chanceNumerator g pa ne wa mo wh code a1 a2 = some (0, pa, ne, wa, mo, wh, 1)) ∨ ∃ (v : Int64) (bn' bd' nn' nd' : Nat → Int64) (pa' ne' : Nat → Int64) (wa' mo' : Nat → Int32) (wh' : Int64), f_L_chanceNumerator w (nI p) bn bd nn nd o 1 a1 a2 = some (0, bn', bd', nn', nd', vp_updL o (0 : Int32).toNatClampNeg v) ∧ f_X13_chanceNumerator g pa ne wa mo wh code a1 a2 = some (v, pa', ne', wa', mo', wh', 0) := by
  unfold f_L_chanceNumerator f_X12_chanceNumerator f_X13_chanceNumerator
  rcases days_cases a1 with h1 | ⟨h1, d, hd, rfl⟩
  · refine Or.inl ⟨?_, ?_⟩
    · simp only [s_requireDays, if_pos h1, obS, n20, if_false, if_true]
    · rw [m_upperBad (Or.inl h1), obS]
  rcases w_cases a2 with h2 | ⟨h2, t, ht, rfl⟩
  · refine Or.inl ⟨?_, ?_⟩
    · simp only [s_requireDays, s_requireWeather, if_neg h1, if_pos h2, obS, n20, if_false, if_true]
    · rw [m_upperBad (Or.inr h2), obS]
  · obtain ⟨bn', bd', nn', nd', e1, e2⟩ := s_dayByDay h hp hd bn bd nn nd
    obtain ⟨pa', ne', wa', mo', q1⟩ := m_upperOk hg h hg1 hp hd ht pa ne wa mo wh code
    refine Or.inr ⟨nL (fN (Pn (Aw w) p d t) (cmn (wsm w) ^ d)), bn', bd', nn', nd', pa', ne', wa', mo', nL (cmn (wsm w) ^ d), ?_, ?_⟩
    · have e3 := (e2 t ht).1
      simp only [s_requireDays, s_requireWeather, if_neg h1, if_neg h2, obS, if_true, e1, s_num ht, e3]
      exact if_neg (g0F (by decide))
    · rw [q1, obS]
theorem chanceDenominator_both {g w : Nat → Int32} (hg : ∀ k, k < 16 → g (32 + k) = w k) (h : WS w) {p : Nat} (hg1 : g 1 = nI p) (hp : p < 4) (bn bd nn nd : Nat → Int64) (pa ne : Nat → Int64) (wa mo : Nat → Int32) (wh : Int64) (o : Nat → Int64) (code a1 a2 : Int32) : (f_L_chanceDenominator w (nI p) bn bd nn nd o 1 a1 a2 = some (1, bn, bd, nn, nd, o) ∧ f_X13_chanceDenominator g pa ne wa mo wh code a1 a2 = some (0, pa, ne, wa, mo, wh, 1)) ∨ ∃ (v : Int64) (bn' bd' nn' nd' : Nat → Int64) (pa' ne' : Nat → Int64) (wa' mo' : Nat → Int32) (wh' : Int64), f_L_chanceDenominator w (nI p) bn bd nn nd o 1 a1 a2 = some (0, bn', bd', nn', nd', vp_updL o (0 : Int32).toNatClampNeg v) ∧ f_X13_chanceDenominator g pa ne wa mo wh code a1 a2 = some (v, pa', ne', wa', mo', wh', 0) := by
  unfold f_L_chanceDenominator f_X12_chanceDenominator f_X13_chanceDenominator
  rcases days_cases a1 with h1 | ⟨h1, d, hd, rfl⟩
  · refine Or.inl ⟨?_, ?_⟩
    · simp only [s_requireDays, if_pos h1, obS, n20, if_false, if_true]
    · rw [m_lowerBad (Or.inl h1), obS]
  rcases w_cases a2 with h2 | ⟨h2, t, ht, rfl⟩
  · refine Or.inl ⟨?_, ?_⟩
    · simp only [s_requireDays, s_requireWeather, if_neg h1, if_pos h2, obS, n20, if_false, if_true]
    · rw [m_lowerBad (Or.inr h2), obS]
  · obtain ⟨bn', bd', nn', nd', e1, e2⟩ := s_dayByDay h hp hd bn bd nn nd
    obtain ⟨pa', ne', wa', mo', q1⟩ := m_lowerOk hg h hg1 hp hd ht pa ne wa mo wh code
    refine Or.inr ⟨nL (fD (Pn (Aw w) p d t) (cmn (wsm w) ^ d)), bn', bd', nn', nd', pa', ne', wa', mo', nL (cmn (wsm w) ^ d), ?_, ?_⟩
    · have e3 := (e2 t ht).2.1
      simp only [s_requireDays, s_requireWeather, if_neg h1, if_neg h2, obS, if_true, e1, s_den ht, e3]
      exact if_neg (g0F (by decide))
    · rw [q1, obS]
theorem numeratorByBranches_both {g w : Nat → Int32} (hg : ∀ k, k < 16 → g (32 + k) = w k) (h : WS w) {p : Nat} (hg1 : g 1 = nI p) (hp : p < 4) (bn bd : Nat → Int64) (se : Nat → Int32) (pa ne : Nat → Int64) (wa mo : Nat → Int32) (wh : Int64) (o : Nat → Int64) (code a1 a2 : Int32) : (f_L_numeratorByBranches w (nI p) bn bd se o 1 a1 a2 = some (1, bn, bd, se, o) ∧ f_X13_numeratorByBranches g pa ne wa mo wh code a1 a2 = some (0, pa, ne, wa, mo, wh, 1)) ∨ ∃ (v : Int64) (bn' bd' : Nat → Int64) (se' : Nat → Int32) (pa' ne' : Nat → Int64) (wa' mo' : Nat → Int32) (wh' : Int64), f_L_numeratorByBranches w (nI p) bn bd se o 1 a1 a2 = some (0, bn', bd', se', vp_updL o (0 : Int32).toNatClampNeg v) ∧ f_X13_numeratorByBranches g pa ne wa mo wh code a1 a2 = some (v, pa', ne', wa', mo', wh', 0) := by
  unfold f_L_numeratorByBranches f_X12_numeratorByBranches f_X13_numeratorByBranches
  rcases days_cases a1 with h1 | ⟨h1, d, hd, rfl⟩
  · refine Or.inl ⟨?_, ?_⟩
    · simp only [s_requireDays, if_pos h1, obS, n20, if_false, if_true]
    · rw [m_upperBad (Or.inl h1), obS]
  rcases w_cases a2 with h2 | ⟨h2, t, ht, rfl⟩
  · refine Or.inl ⟨?_, ?_⟩
    · simp only [s_requireDays, s_requireWeather, if_neg h1, if_pos h2, obS, n20, if_false, if_true]
    · rw [m_upperBad (Or.inr h2), obS]
  · obtain ⟨bn', bd', se', e1, e2, -⟩ := s_branches h hp hd bn bd se
    obtain ⟨pa', ne', wa', mo', q1⟩ := m_upperOk hg h hg1 hp hd ht pa ne wa mo wh code
    refine Or.inr ⟨nL (fN (Pn (Aw w) p d t) (cmn (wsm w) ^ d)), bn', bd', se', pa', ne', wa', mo', nL (cmn (wsm w) ^ d), ?_, ?_⟩
    · have e3 := (e2 t ht).1
      simp only [s_requireDays, s_requireWeather, if_neg h1, if_neg h2, obS, if_true, e1, s_num ht, e3]
      exact if_neg (g0F (by decide))
    · rw [q1, obS]
theorem denominatorByBranches_both {g w : Nat → Int32} (hg : ∀ k, k < 16 → g (32 + k) = w k) (h : WS w) {p : Nat} (hg1 : g 1 = nI p) (hp : p < 4) (bn bd : Nat → Int64) (se : Nat → Int32) (pa ne : Nat → Int64) (wa mo : Nat → Int32) (wh : Int64) (o : Nat → Int64) (code a1 a2 : Int32) : (f_L_denominatorByBranches w (nI p) bn bd se o 1 a1 a2 = some (1, bn, bd, se, o) ∧ f_X13_denominatorByBranches g pa ne wa mo wh code a1 a2 = some (0, pa, ne, wa, mo, wh, 1)) ∨ ∃ (v : Int64) (bn' bd' : Nat → Int64) (se' : Nat → Int32) (pa' ne' : Nat → Int64) (wa' mo' : Nat → Int32) (wh' : Int64), f_L_denominatorByBranches w (nI p) bn bd se o 1 a1 a2 = some (0, bn', bd', se', vp_updL o (0 : Int32).toNatClampNeg v) ∧ f_X13_denominatorByBranches g pa ne wa mo wh code a1 a2 = some (v, pa', ne', wa', mo', wh', 0) := by
  unfold f_L_denominatorByBranches f_X12_denominatorByBranches f_X13_denominatorByBranches
  rcases days_cases a1 with h1 | ⟨h1, d, hd, rfl⟩
  · refine Or.inl ⟨?_, ?_⟩
    · simp only [s_requireDays, if_pos h1, obS, n20, if_false, if_true]
    · rw [m_lowerBad (Or.inl h1), obS]
  rcases w_cases a2 with h2 | ⟨h2, t, ht, rfl⟩
  · refine Or.inl ⟨?_, ?_⟩
    · simp only [s_requireDays, s_requireWeather, if_neg h1, if_pos h2, obS, n20, if_false, if_true]
    · rw [m_lowerBad (Or.inr h2), obS]
  · obtain ⟨bn', bd', se', e1, e2, -⟩ := s_branches h hp hd bn bd se
    obtain ⟨pa', ne', wa', mo', q1⟩ := m_lowerOk hg h hg1 hp hd ht pa ne wa mo wh code
    refine Or.inr ⟨nL (fD (Pn (Aw w) p d t) (cmn (wsm w) ^ d)), bn', bd', se', pa', ne', wa', mo', nL (cmn (wsm w) ^ d), ?_, ?_⟩
    · have e3 := (e2 t ht).2.1
      simp only [s_requireDays, s_requireWeather, if_neg h1, if_neg h2, obS, if_true, e1, s_den ht, e3]
      exact if_neg (g0F (by decide))
    · rw [q1, obS]
theorem seq_both {g w : Nat → Int32} (hg : ∀ k, k < 16 → g (32 + k) = w k) (h : WS w) {p : Nat} (hg1 : g 1 = nI p) (hp : p < 4) (bn bd : Nat → Int64) (se : Nat → Int32) (pa ne : Nat → Int64) (wa mo : Nat → Int32) (wh : Int64) (o : Nat → Int64) (code a1 a2 : Int32) : (f_L_sequenceCount w (nI p) bn bd se o 1 a1 a2 = some (1, bn, bd, se, o) ∧ f_X13_sequenceCount g pa ne wa mo wh code a1 a2 = some (0, pa, ne, wa, mo, wh, 1)) ∨ ∃ (v : Int32) (bn' bd' : Nat → Int64) (se' : Nat → Int32) (pa' ne' : Nat → Int64) (wa' mo' : Nat → Int32) (wh' : Int64), f_L_sequenceCount w (nI p) bn bd se o 1 a1 a2 = some (0, bn', bd', se', vp_updL o (0 : Int32).toNatClampNeg v.toInt64) ∧ f_X13_sequenceCount g pa ne wa mo wh code a1 a2 = some (v, pa', ne', wa', mo', wh', 0) := by
  unfold f_L_sequenceCount f_X12_sequenceCount f_X13_sequenceCount
  rcases days_cases a1 with h1 | ⟨h1, d, hd, rfl⟩
  · refine Or.inl ⟨?_, ?_⟩
    · simp only [s_requireDays, if_pos h1, obS, n20, if_false, if_true]
    · rw [m_unaskedBad (Or.inl h1), obS, if_neg i10]
  rcases w_cases a2 with h2 | ⟨h2, t, ht, rfl⟩
  · refine Or.inl ⟨?_, ?_⟩
    · simp only [s_requireDays, s_requireWeather, if_neg h1, if_pos h2, obS, n20, if_false, if_true]
    · rw [m_unaskedBad (Or.inr h2), obS, if_neg i10]
  · obtain ⟨bn', bd', se', e1, -, e2⟩ := s_branches h hp hd bn bd se
    obtain ⟨pa', ne', wa', mo', q1, -, q2⟩ := m_goes hg h hg1 hp hd pa ne wa mo wh
    refine Or.inr ⟨nI (Pn (Bw w) p d t), bn', bd', se', pa', ne', wa', mo', nL (cmn (wsm w) ^ d), ?_, ?_⟩
    · have e3 := e2 t ht
      simp only [s_requireDays, s_requireWeather, if_neg h1, if_neg h2, obS, if_true, e1, s_seqTo ht, e3]
      exact if_neg (g0F (by decide))
    · rw [m_unaskedOk h1 h2, obS, if_pos rfl, q1, obS, if_neg (ixo ht (by decide)), qI_cl (show t < 2147483648 by omega)]
      dsimp only
      rw [q2 t ht]
/-! the likeliest weather -/
def bstF (X : Nat → Nat) (k b : Nat) : Nat := if X k ≤ X b then b else k
def bst (X : Nat → Nat) : Nat := bstF X 3 (bstF X 2 (bstF X 1 0))
theorem bstF_lt {X : Nat → Nat} {k b : Nat} (hk : k < 4) (hb : b < 4) : bstF X k b < 4 := by
  unfold bstF
  by_cases h : X k ≤ X b
  · rw [if_pos h]; exact hb
  · rw [if_neg h]; exact hk
theorem bst_lt (X : Nat → Nat) : bst X < 4 := bstF_lt (by decide) (bstF_lt (by decide) (bstF_lt (by decide) (by decide)))
theorem cross_le {nk ek nb eb Xk Xb M : Nat} (hM : 0 < M) (hk : 0 < ek) (hb : 0 < eb) (h1 : nk * M = Xk * ek) (h2 : nb * M = Xb * eb) : nk * eb ≤ nb * ek ↔ Xk ≤ Xb := by
  have e1 : nk * eb * M = Xk * (ek * eb) := by
    rw [Nat.mul_right_comm, h1, Nat.mul_assoc]
  have e2 : nb * ek * M = Xb * (ek * eb) := by
    rw [Nat.mul_right_comm, h2, Nat.mul_assoc, Nat.mul_comm eb]
  have hp : 0 < ek * eb := Nat.mul_pos hk hb
  constructor
  · intro h
    have h3 := Nat.mul_le_mul_right M h
    rw [e1, e2] at h3
    exact Nat.le_of_mul_le_mul_right h3 hp
  · intro h
    have h3 := Nat.mul_le_mul_right (ek * eb) h
    rw [← e1, ← e2] at h3
    exact Nat.le_of_mul_le_mul_right h3 hM
theorem s_great_step {nu de : Nat → Int64} {X : Nat → Nat} {M D : Nat} (h : FrS nu de X M D) (hM : 0 < M) (hD : 0 < D ∧ D ≤ 1693612800) (z : Int32 → Option Int32) {k b : Nat} (hk : k < 4) (hb : b < 4) (f : Nat) : f_X5_greatest_4 nu de z (f + 1) (nI b) (nI k) = f_X5_greatest_4 nu de z f (nI (bstF X k b)) (nI (k + 1)) := by
  obtain ⟨a1, a2, a3, a4⟩ := h k hk
  obtain ⟨b1, b2, b3, b4⟩ := h b hb
  have ka := fN_le a4
  have kb := fN_le b4
  have la := Nat.le_of_dvd hD.1 a3
  have lb := Nat.le_of_dvd hD.1 b3
  have p1 : fN (X k) M * fD (X b) M ≤ 1693612800 * 1693612800 := Nat.mul_le_mul (by omega) (by omega)
  have p2 : fN (X b) M * fD (X k) M ≤ 1693612800 * 1693612800 := Nat.mul_le_mul (by omega) (by omega)
  have hc := cross_le hM (fD_pos (X := X k) hM) (fD_pos (X := X b) hM) (fr_mul hM) (fr_mul hM)
  have hcmp : (lg_cmp (nL (fN (X k) M) * nL (fD (X b) M)) (nL (fN (X b) M) * nL (fD (X k) M)) ≤ 0) = (X k ≤ X b) := by
    rw [qL_mul, qL_mul, lgL (by omega) (by omega)]
    exact propext hc
  rw [f_X5_greatest_4, if_neg (show ¬ (4 : Int32) ≤ nI k from nle hk (by decide)), joE, if_neg (ixo hk (by decide)), s_den hb, obS, s_num hb, obS, qI_cl (show k < 2147483648 by omega), a1, a2, b1, b2, qI_succ]
  unfold bstF
  by_cases e : X k ≤ X b
  · rw [if_pos (by rw [hcmp]; exact e), if_pos e]
  · rw [if_neg (by rw [hcmp]; exact e), if_neg e]
theorem s_great {nu de : Nat → Int64} {X : Nat → Nat} {M D : Nat} (h : FrS nu de X M D) (hM : 0 < M) (hD : 0 < D ∧ D ≤ 1693612800) : f_X5_greatest nu de = some (nI (bst X)) := by
  unfold f_X5_greatest
  have l1 : bstF X 1 0 < 4 := bstF_lt (by decide) (by decide)
  have l2 : bstF X 2 (bstF X 1 0) < 4 := bstF_lt (by decide) l1
  refine (s_great_step h hM hD _ (k := 1) (b := 0) (by decide) (by decide) 999).trans ?_
  refine (s_great_step h hM hD _ (k := 2) (by decide) l1 998).trans ?_
  refine (s_great_step h hM hD _ (k := 3) (by decide) l2 997).trans ?_
  rw [f_X5_greatest_4, if_pos (show (4 : Int32) ≤ nI (3 + 1) from Int32.le_refl _)]
  rfl
theorem m_best_step {pa : Nat → Int64} {X : Nat → Nat} {M : Nat} (h : PaS pa X) (hX : ∀ t, t < 4 → X t ≤ M) (hM : M ≤ 1676676672000) (z : Int32 → Option (Int32 × (Nat → Int64) × (Nat → Int64) × (Nat → Int32) × (Nat → Int32) × Int64)) {k b : Nat} (hk : k < 4) (hb : b < 4) (f : Nat) : f_X13_best_9 pa z (f + 1) (nI b) (nI k) = f_X13_best_9 pa z f (nI (bstF X k b)) (nI (k + 1)) := by
  have x1 := hX k hk
  have x2 := hX b hb
  rw [f_X13_best_9, if_neg (show ¬ (4 : Int32) ≤ nI k from nle hk (by decide)), joE, if_neg (ixo hk (by decide)), if_neg (ixo hb (by decide)), qI_cl (show k < 2147483648 by omega), qI_cl (show b < 2147483648 by omega), h k hk, h b hb, qI_succ]
  unfold bstF
  have hcmp : (lg_cmp (nL (X k)) (nL (X b)) ≤ 0) = (X k ≤ X b) := lgL (by omega) (by omega)
  by_cases e : X k ≤ X b
  · rw [if_pos (by rw [hcmp]; exact e), if_pos e]
  · rw [if_neg (by rw [hcmp]; exact e), if_neg e]
theorem m_best {g w : Nat → Int32} (hg : ∀ k, k < 16 → g (32 + k) = w k) (h : WS w) {p : Nat} (hg1 : g 1 = nI p) (hp : p < 4) {d : Nat} (hd : d ≤ 3) (pa ne : Nat → Int64) (wa mo : Nat → Int32) (wh : Int64) : ∃ pa' ne' wa' mo', f_X13_best g pa ne wa mo wh (nI d) = some (nI (bst (Pn (Aw w) p d)), pa', ne', wa', mo', nL (cmn (wsm w) ^ d)) := by
  obtain ⟨pa', ne', wa', mo', e1, e2, -⟩ := m_goes hg h hg1 hp hd pa ne wa mo wh
  obtain ⟨hC1, hC2, hC3⟩ := cmn_ok (WS_b h)
  have hM := pow_ok hC2 hC3 d hd
  have hX : ∀ t, t < 4 → Pn (Aw w) p d t ≤ cmn (wsm w) ^ d := fun t ht => Pn_le h hp d ht
  refine ⟨pa', ne', wa', mo', ?_⟩
  unfold f_X13_best
  rw [e1, obS]
  have l1 : bstF (Pn (Aw w) p d) 1 0 < 4 := bstF_lt (by decide) (by decide)
  have l2 : bstF (Pn (Aw w) p d) 2 (bstF (Pn (Aw w) p d) 1 0) < 4 := bstF_lt (by decide) l1
  refine (m_best_step e2 hX hM.2 _ (k := 1) (b := 0) (by decide) (by decide) 999).trans ?_
  refine (m_best_step e2 hX hM.2 _ (k := 2) (by decide) l1 998).trans ?_
  refine (m_best_step e2 hX hM.2 _ (k := 3) (by decide) l2 997).trans ?_
  rw [f_X13_best_9, if_pos (show (4 : Int32) ≤ nI (3 + 1) from Int32.le_refl _)]
  rfl
theorem s_likely {w : Nat → Int32} (h : WS w) {p : Nat} (hp : p < 4) {d : Nat} (hd : d ≤ 3) {bn bd : Nat → Int64} (e2 : FrS bn bd (Pn (Aw w) p d) (cmn (wsm w) ^ d) (Dn (cmn (wsm w)) (wsm w p) d)) : f_X5_greatest bn bd = some (nI (bst (Pn (Aw w) p d))) := by
  obtain ⟨hS1, hS2⟩ := WS_b h p hp
  obtain ⟨-, hC2, hC3⟩ := cmn_ok (WS_b h)
  exact s_great e2 (pow_ok hC2 hC3 d hd).1 (Dn_ok hC2 hC3 (by omega) hS2 d hd)
theorem likely_both {g w : Nat → Int32} (hg : ∀ k, k < 16 → g (32 + k) = w k) (h : WS w) {p : Nat} (hg1 : g 1 = nI p) (hp : p < 4) (bn bd nn nd : Nat → Int64) (pa ne : Nat → Int64) (wa mo : Nat → Int32) (wh : Int64) (o : Nat → Int64) (code a1 : Int32) : (f_L_likeliest w (nI p) bn bd nn nd o 1 a1 = some (1, bn, bd, nn, nd, o) ∧ f_X13_likeliest g pa ne wa mo wh code a1 = some (0, pa, ne, wa, mo, wh, 1)) ∨ ∃ (v : Int32) (bn' bd' nn' nd' : Nat → Int64) (pa' ne' : Nat → Int64) (wa' mo' : Nat → Int32) (wh' : Int64), f_L_likeliest w (nI p) bn bd nn nd o 1 a1 = some (0, bn', bd', nn', nd', vp_updL o (0 : Int32).toNatClampNeg v.toInt64) ∧ f_X13_likeliest g pa ne wa mo wh code a1 = some (v, pa', ne', wa', mo', wh', 0) := by
  unfold f_L_likeliest f_X12_likeliest f_X13_likeliest
  rcases days_cases a1 with h1 | ⟨h1, d, hd, rfl⟩
  · refine Or.inl ⟨?_, ?_⟩
    · simp only [s_requireDays, if_pos h1, obS, n20, if_false, if_true]
    · simp only [joE, m_isSoon, if_pos h1, obS, if_true, m_fails1, i10, if_false]
  · obtain ⟨bn', bd', nn', nd', e1, e2⟩ := s_dayByDay h hp hd bn bd nn nd
    obtain ⟨pa', ne', wa', mo', q1⟩ := m_best hg h hg1 hp hd pa ne wa mo wh
    refine Or.inr ⟨nI (bst (Pn (Aw w) p d)), bn', bd', nn', nd', pa', ne', wa', mo', nL (cmn (wsm w) ^ d), ?_, ?_⟩
    · simp only [s_requireDays, if_neg h1, obS, if_true, e1, s_likely h hp hd e2]
      exact if_neg (g0F (by decide))
    · simp only [joE, m_isSoon, if_neg h1, obS, i10, if_false, m_fails0, if_true, q1]
/-! the chances add up, and agree -/
theorem fr_add2 {s wh n e M Y X D : Nat} (hM : 0 < M) (hw : 0 < wh) (he : 0 < e) (h1 : s * M = Y * wh) (h2 : n * M = X * e) (hd : wh ∣ D) (hd2 : e ∣ D) (hY : Y + X ≤ M) : (s * (e / Nat.gcd wh e) + n * (wh / Nat.gcd wh e)) * M = (Y + X) * (wh * (e / Nat.gcd wh e)) ∧ wh * (e / Nat.gcd wh e) ∣ D ∧ 0 < wh * (e / Nat.gcd wh e) ∧ s * (e / Nat.gcd wh e) + n * (wh / Nat.gcd wh e) ≤ wh * (e / Nat.gcd wh e) := by
  have hl := Nat.lcm_dvd hd hd2
  rw [Nat.lcm] at hl
  obtain ⟨w', hw'⟩ := Nat.gcd_dvd_left wh e
  obtain ⟨e', he'⟩ := Nat.gcd_dvd_right wh e
  have hg : 0 < Nat.gcd wh e := Nat.gcd_pos_of_pos_right wh he
  generalize Nat.gcd wh e = g at *
  have q1 : wh / g = w' := by rw [hw', Nat.mul_div_cancel_left w' hg]
  have q2 : e / g = e' := by rw [he', Nat.mul_div_cancel_left e' hg]
  rw [q1, q2]
  have e0 : 0 < e' := by
    rcases Nat.eq_zero_or_pos e' with q | q
    · rw [q, Nat.mul_zero] at he'
      omega
    · exact q
  have hl' : wh * e' ∣ D := by
    have : wh * e / g = wh * e' := by rw [he', Nat.mul_left_comm, Nat.mul_div_cancel_left _ hg]
    rw [this] at hl
    exact hl
  have main : (s * e' + n * w') * M = (Y + X) * (wh * e') := by
    have m1 : s * e' * M = Y * (wh * e') := by rw [Nat.mul_right_comm, h1, Nat.mul_assoc]
    have m2 : n * w' * M = X * (wh * e') := by
      rw [Nat.mul_right_comm, h2, Nat.mul_assoc]
      congr 1
      calc e * w' = g * e' * w' := by rw [← he']
        _ = g * w' * e' := Nat.mul_right_comm _ _ _
        _ = wh * e' := by rw [← hw']
    rw [Nat.add_mul, Nat.add_mul, m1, m2]
  refine ⟨main, hl', Nat.mul_pos hw e0, ?_⟩
  refine Nat.le_of_mul_le_mul_right (c := M) ?_ hM
  rw [main, Nat.mul_comm (wh * e') M]
  exact Nat.mul_le_mul_right _ hY
theorem s_up_step {nu de : Nat → Int64} {X : Nat → Nat} {M D : Nat} (h : FrS nu de X M D) (hM : 0 < M) (hD : 0 < D ∧ D ≤ 1693612800) (z : Int64 → Int64 → Option Int32) {k : Nat} (hk : k < 4) (f : Nat) {s wh Y : Nat} (hw : 0 < wh) (hd : wh ∣ D) (h1 : s * M = Y * wh) (hY : Y + X k ≤ M) : ∃ s' wh', f_X5_addUpToOne_7 nu de z (f + 1) (nL s) (nL wh) (nI k) = f_X5_addUpToOne_7 nu de z f (nL s') (nL wh') (nI (k + 1)) ∧ 0 < wh' ∧ wh' ∣ D ∧ s' * M = (Y + X k) * wh' := by
  obtain ⟨a1, a2, a3, a4⟩ := h k hk
  have he := fD_pos (X := X k) hM
  have la := Nat.le_of_dvd hD.1 a3
  have lw := Nat.le_of_dvd hD.1 hd
  obtain ⟨q1, q2, q3, q4⟩ := fr_add2 hM hw he h1 (fr_mul hM) hd a3 hY
  have hg : 0 < Nat.gcd wh (fD (X k) M) := Nat.gcd_pos_of_pos_left _ hw
  have hgl : Nat.gcd wh (fD (X k) M) ≤ wh := Nat.gcd_le_left _ hw
  refine ⟨_, _, ?_, q3, q2, q1⟩
  rw [f_X5_addUpToOne_7, if_neg (show ¬ (4 : Int32) ≤ nI k from nle hk (by decide)), if_neg (ixo hk (by decide)), qI_cl (show k < 2147483648 by omega), a1, a2, s_gd (by omega) (by omega) (Or.inl hw), obS, if_neg (show ¬ nL (Nat.gcd wh (fD (X k) M)) = 0 by rw [qL_eq0 (by omega)]; omega), qL_div (by omega) (by omega), qL_div (by omega) (by omega), qL_mul, qL_mul, qL_mul, qL_add, qI_succ]
theorem s_addUp {nu de : Nat → Int64} {X : Nat → Nat} {M D : Nat} (h : FrS nu de X M D) (hM : 0 < M) (hD : 0 < D ∧ D ≤ 1693612800) (hs : X 0 + X 1 + X 2 + X 3 = M) : f_X5_addUpToOne nu de = some 1 := by
  unfold f_X5_addUpToOne
  obtain ⟨s1, w1, e1, p1, d1, q1⟩ := s_up_step h hM hD (fun l1_67e l3_67e => jo (fun (s0_78 : Int32) => if ¬ vp_nar .boolean s0_78 = s0_78 then none else some (s0_78)) (fun j78 => if (lg_cmp l1_67e l3_67e) = 0 then j78 1 else j78 0)) (k := 0) (by decide) 999 (s := 0) (wh := 1) (Y := 0) (by decide) (Nat.one_dvd _) (by rw [Nat.zero_mul, Nat.zero_mul]) (by omega)
  obtain ⟨s2, w2, e2, p2, d2, q2⟩ := s_up_step h hM hD (fun l1_67e l3_67e => jo (fun (s0_78 : Int32) => if ¬ vp_nar .boolean s0_78 = s0_78 then none else some (s0_78)) (fun j78 => if (lg_cmp l1_67e l3_67e) = 0 then j78 1 else j78 0)) (k := 1) (by decide) 998 p1 d1 q1 (by omega)
  obtain ⟨s3, w3, e3, p3, d3, q3⟩ := s_up_step h hM hD (fun l1_67e l3_67e => jo (fun (s0_78 : Int32) => if ¬ vp_nar .boolean s0_78 = s0_78 then none else some (s0_78)) (fun j78 => if (lg_cmp l1_67e l3_67e) = 0 then j78 1 else j78 0)) (k := 2) (by decide) 997 p2 d2 q2 (by omega)
  obtain ⟨s4, w4, e4, p4, d4, q4⟩ := s_up_step h hM hD (fun l1_67e l3_67e => jo (fun (s0_78 : Int32) => if ¬ vp_nar .boolean s0_78 = s0_78 then none else some (s0_78)) (fun j78 => if (lg_cmp l1_67e l3_67e) = 0 then j78 1 else j78 0)) (k := 3) (by decide) 996 p3 d3 q3 (by omega)
  refine e1.trans (e2.trans (e3.trans (e4.trans ?_)))
  have e : s4 = w4 := by
    rw [show 0 + X 0 + X 1 + X 2 + X 3 = M by omega, Nat.mul_comm M] at q4
    exact Nat.eq_of_mul_eq_mul_right hM q4
  subst e
  rw [f_X5_addUpToOne_7, if_pos (show (4 : Int32) ≤ nI (3 + 1) from Int32.le_refl _), joE, if_pos ((lg_cmp_eq _ _).mpr rfl)]
  exact if_neg (fun q => q narB1)
theorem s_eq_go {n1 d1 n2 d2 : Nat → Int64} (h : ∀ t, t < 4 → n1 t = n2 t ∧ d1 t = d2 t) (z : Int32 → Option Int32) : ∀ (m k f : Nat), k + m = 4 → m < f → f_X5_equalsEach_4 n1 d1 n2 d2 z f 1 (nI k) = z 1
  | _, _, 0, _, h => by omega
  | 0, k, f + 1, hk, _ => by
    obtain rfl : k = 4 := by omega
    rw [f_X5_equalsEach_4, if_pos (show (4 : Int32) ≤ nI 4 from Int32.le_refl _)]
  | m + 1, k, f + 1, hk, hf => by
    have hk4 : k < 4 := by omega
    obtain ⟨a, b⟩ := h k hk4
    rw [f_X5_equalsEach_4, if_neg (show ¬ (4 : Int32) ≤ nI k from nle hk4 (by decide)), joE, joE, if_neg i10, if_neg (ixo hk4 (by decide)), qI_cl (show k < 2147483648 by omega), a, b, if_pos ((lg_cmp_eq _ _).mpr rfl), if_pos ((lg_cmp_eq _ _).mpr rfl), qI_succ]
    exact s_eq_go h z m (k + 1) f (by omega) (by omega)
theorem s_equal {n1 d1 n2 d2 : Nat → Int64} {X : Nat → Nat} {M D D' : Nat} (h1 : FrS n1 d1 X M D) (h2 : FrS n2 d2 X M D') : f_X5_equalsEach n1 d1 n2 d2 = some 1 := by
  unfold f_X5_equalsEach
  refine (s_eq_go (fun t ht => ⟨(h1 t ht).1.trans (h2 t ht).1.symm, (h1 t ht).2.1.trans (h2 t ht).2.1.symm⟩) _ 4 0 1000 rfl (by decide)).trans ?_
  exact if_neg (fun q => q narB1)
theorem s_cons_go {w : Nat → Int32} (h : WS w) {p : Nat} (hp : p < 4) (z : Int32 → (Nat → Int64) → (Nat → Int64) → (Nat → Int64) → (Nat → Int64) → (Nat → Int64) → (Nat → Int64) → (Nat → Int32) → Option (Int32 × (Nat → Int32) × (Nat → Int32) × Int32 × (Nat → Int32) × (Nat → Int64) × (Nat → Int64) × (Nat → Int64) × (Nat → Int64) × (Nat → Int64) × (Nat → Int64) × (Nat → Int32))) : ∀ (m d f : Nat) (bn bd nn nd hn hd : Nat → Int64) (se : Nat → Int32), d + m = 4 → m < f → ∃ bn' bd' nn' nd' hn' hd' se', f_X12_isConsistent_39 w (nI p) z f 1 (nI d) bn bd nn nd hn hd se = z 1 bn' bd' nn' nd' hn' hd' se'
  | _, _, 0, _, _, _, _, _, _, _, _, h => by omega
  | 0, d, f + 1, bn, bd, nn, nd, hn, hd, se, hk, _ => by
    obtain rfl : d = 4 := by omega
    refine ⟨bn, bd, nn, nd, hn, hd, se, ?_⟩
    rw [f_X12_isConsistent_39, if_pos (show (3 : Int32) < nI 4 by decide)]
  | m + 1, d, f + 1, bn, bd, nn, nd, hn, hd, se, hk, hf => by
    have hd3 : d ≤ 3 := by omega
    obtain ⟨hS1, hS2⟩ := WS_b h p hp
    obtain ⟨-, hC2, hC3⟩ := cmn_ok (WS_b h)
    have hM := (pow_ok hC2 hC3 d hd3).1
    have hD := Dn_ok hC2 hC3 (by omega) hS2 d hd3
    obtain ⟨bn', bd', nn', nd', e1, e2⟩ := s_dayByDay h hp hd3 bn bd nn nd
    obtain ⟨hn', hd', se', e3, e4, -⟩ := s_branches h hp hd3 hn hd se
    obtain ⟨x1, x2, x3, x4, x5, x6, x7, q⟩ := s_cons_go h hp z m (d + 1) f bn' bd' nn' nd' hn' hd' se' (by omega) (by omega)
    refine ⟨x1, x2, x3, x4, x5, x6, x7, ?_⟩
    rw [f_X12_isConsistent_39, if_neg (show ¬ (3 : Int32) < nI d by rw [li3, qI_lt (by decide) (by omega)]; omega), joE, joE, e1, obS, e3, obS, if_neg i10, s_equal e2 e4, obS, if_neg i10, s_addUp e2 hM hD (Pn_sum h hp d), obS, if_neg i10, qI_succ]
    exact q
theorem s_consistent {c : Nat → Int32} (hc : Rng c) (t : Int32) {w : Nat → Int32} (h : WS w) {p : Nat} (hp : p < 4) (L q : Nat → Int32) (n : Int32) (gr : Nat → Int32) (bn bd nn nd hn hd : Nat → Int64) (se : Nat → Int32) : ∃ L' q' n' gr' bn' bd' nn' nd' hn' hd' se', f_X12_isConsistent c t w (nI p) L q n gr bn bd nn nd hn hd se = some (1, L', q', n', gr', bn', bd', nn', nd', hn', hd', se') := by
  obtain ⟨L', q', e1, -⟩ := s_flood hc t L q L n
  obtain ⟨gr', e2⟩ := s_unite hc t gr L
  obtain ⟨x1, x2, x3, x4, x5, x6, x7, e3⟩ := s_cons_go h hp (fun l1 a b c d e f' g => if ¬ vp_nar .boolean l1 = l1 then none else some (l1, L', q', nI 25, gr', a, b, c, d, e, f', g)) 4 0 1000 bn bd nn nd hn hd se rfl (by decide)
  refine ⟨L', q', nI 25, gr', x1, x2, x3, x4, x5, x6, x7, ?_⟩
  unfold f_X12_isConsistent
  rw [joE, e1, obS, e2, obS, if_pos rfl]
  refine e3.trans ?_
  exact if_neg (fun q => q narB1)
