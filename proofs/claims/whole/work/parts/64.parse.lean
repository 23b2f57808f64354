/-! a whole text read -/
theorem COk_keep {j : Nat} {kinds kinds' : Nat → Option Nat} {vs vs' : Nat → Nat → Int32} {told told' : Nat → Int32} {m : Nat} (h : COk j kinds vs told) (hj : j < m) (h1 : ∀ j', j' ≠ m → kinds' j' = kinds j' ∧ vs' j' = vs j') (h2 : ∀ q, q < 4 * m → told' q = told q) : COk j kinds' vs' told' := by
  obtain ⟨i, a, b, c, d⟩ := h
  have hn : npar i ≤ 3 := (show ∀ i, i < 10 → npar i ≤ 3 by decide) i a
  refine ⟨i, a, ((h1 j (by omega)).1).trans b, (h2 _ (by omega)).trans c, fun q hq => ?_⟩
  rw [h2 _ (by omega), (h1 j (by omega)).2]
  exact d q hq
theorem parse_go {k : Nat} {tsg inp : Nat → Int32} (h : TX k tsg inp) : ∀ (n j f f2 p : Nat) (kinds : Nat → Option Nat) (vs : Nat → Nat → Int32) (told : Nat → Int32), j + n = 15 → n ≤ f → n ≤ f2 → 5 * j ≤ p → p ≤ k → (∀ j', j' < j → COk j' kinds vs told) →
    (∃ (pos : Nat) (kinds' : Nat → Option Nat) (vs' : Nat → Nat → Int32) (cc : Int32) (told' : Nat → Int32) (tm : Int32), f_X3_parse_12 tsg (nI k) (fun x_position_74e x_kinds_74e x_values_74e x_commandCount_74e => some (x_position_74e, x_position_74e, x_kinds_74e, x_values_74e, x_commandCount_74e)) (fun x_position_26e x_kinds_26e x_values_26e x_commandCount_26e => some (x_position_26e, x_position_26e, x_kinds_26e, x_values_26e, x_commandCount_26e)) (fun x_position_52e x_kinds_52e x_values_52e x_commandCount_52e => some ((-1), x_position_52e, x_kinds_52e, x_values_52e, x_commandCount_52e)) (fun x_position_63e x_kinds_63e x_values_63e x_commandCount_63e => some (x_position_63e, x_position_63e, x_kinds_63e, x_values_63e, x_commandCount_63e)) f (nI j) (nI p) kinds vs (nI j) = some (nI pos, nI pos, kinds', vs', cc) ∧ f_X13_isText_10 inp (nI k) (fun x_at_17e x_told_17e x_toldMany_17e => some (0, x_at_17e, x_told_17e, x_toldMany_17e)) (fun x_at_38e x_told_38e x_toldMany_38e => jo (fun (s0_54 : Int32) => if ¬ vp_nar .boolean s0_54 = s0_54 then none else some (s0_54, x_at_38e, x_told_38e, x_toldMany_38e)) (fun j54 => if x_at_38e = (nI k) then j54 1 else j54 0)) f2 (nI p) told (nI j) = some (0, nI pos, told', tm) ∧ pos ≤ 60) ∨
    (∃ (n' : Nat) (pos : Int32) (kinds' : Nat → Option Nat) (vs' : Nat → Nat → Int32) (told' : Nat → Int32), f_X3_parse_12 tsg (nI k) (fun x_position_74e x_kinds_74e x_values_74e x_commandCount_74e => some (x_position_74e, x_position_74e, x_kinds_74e, x_values_74e, x_commandCount_74e)) (fun x_position_26e x_kinds_26e x_values_26e x_commandCount_26e => some (x_position_26e, x_position_26e, x_kinds_26e, x_values_26e, x_commandCount_26e)) (fun x_position_52e x_kinds_52e x_values_52e x_commandCount_52e => some ((-1), x_position_52e, x_kinds_52e, x_values_52e, x_commandCount_52e)) (fun x_position_63e x_kinds_63e x_values_63e x_commandCount_63e => some (x_position_63e, x_position_63e, x_kinds_63e, x_values_63e, x_commandCount_63e)) f (nI j) (nI p) kinds vs (nI j) = some (-1, pos, kinds', vs', nI n') ∧ f_X13_isText_10 inp (nI k) (fun x_at_17e x_told_17e x_toldMany_17e => some (0, x_at_17e, x_told_17e, x_toldMany_17e)) (fun x_at_38e x_told_38e x_toldMany_38e => jo (fun (s0_54 : Int32) => if ¬ vp_nar .boolean s0_54 = s0_54 then none else some (s0_54, x_at_38e, x_told_38e, x_toldMany_38e)) (fun j54 => if x_at_38e = (nI k) then j54 1 else j54 0)) f2 (nI p) told (nI j) = some (1, pos, told', nI n') ∧ n' ≤ 15 ∧ ∀ j', j' < n' → COk j' kinds' vs' told')
  | 0, j, _, _, p, _, _, _, hj, _, _, hp, hk, _ => by
    have := h.1
    omega
  | n + 1, j, 0, _, _, _, _, _, _, h1, _, _, _, _ => by omega
  | n + 1, j, _, 0, _, _, _, _, _, _, h1, _, _, _ => by omega
  | n + 1, j, f + 1, f2 + 1, p, kinds, vs, told, hj, hf, hf2, hp, hk, hC => by
    have h60 := h.1
    have hj15 : j < 15 := by omega
    obtain ⟨ok, pos, kinds', vs', told', e1, e2, hpos, g1, g2, hok⟩ := cmd_both h hk hj15 kinds vs told
    rcases hok with rfl | ⟨rfl, hp4, hCj⟩
    · refine Or.inl ⟨pos, kinds', vs', nI j, told', nI j, ?_, ?_, by omega⟩
      · rw [f_X3_parse_12, if_neg (show ¬ (15 : Int32) ≤ nI j from nle hj15 (by decide)), e1, obS, if_pos rfl]
      · rw [f_X13_isText_10, e2, obS, if_pos rfl]
    · have hC' : ∀ j', j' < j + 1 → COk j' kinds' vs' told' := fun j' hj' => by
        by_cases q : j' = j
        · subst q; exact hCj
        · exact COk_keep (hC j' (by omega)) (by omega) g1 g2
      have sm := m_skips (k := k) h60 (inp := inp) (p := pos) (c := 59) (by omega) (by decide)
      rw [show nI 59 = 59 from rfl] at sm
      by_cases hlt : pos < k
      · have sr := s_readSign h (p := pos) (c := 59) (by omega) (by decide) (by decide)
        rw [show nI 59 = 59 from rfl] at sr
        by_cases a59 : atb k inp pos 59 = true
        · rw [if_pos a59] at sm sr
          have ih := parse_go h n (j + 1) f f2 (pos + 1) kinds' vs' told' (by omega) (by omega) (by omega) (by omega) (by omega) hC'
          rw [f_X3_parse_12, if_neg (show ¬ (15 : Int32) ≤ nI j from nle hj15 (by decide)), e1, obS, if_neg i10, if_pos (nlt hlt (by omega)), sr, obS, if_neg i10, f_X13_isText_10, e2, obS, if_neg i10, sm, obS, if_neg i10, qI_succ]
          exact ih
        · rw [if_neg a59] at sm sr
          refine Or.inl ⟨pos, kinds', vs', nI (j + 1), told', nI (j + 1), ?_, ?_, by omega⟩
          · rw [f_X3_parse_12, if_neg (show ¬ (15 : Int32) ≤ nI j from nle hj15 (by decide)), e1, obS, if_neg i10, if_pos (nlt hlt (by omega)), sr, obS, if_pos rfl, qI_succ]
          · rw [f_X13_isText_10, e2, obS, if_neg i10, sm, obS, if_pos rfl, joE, if_neg (show ¬ nI pos = nI k by rw [qI_eq (by omega) (by omega)]; omega), qI_succ]
            exact if_neg (fun q => q narB0)
      · obtain rfl : pos = k := by omega
        have a59 : ¬ atb pos inp pos 59 = true := fun q => absurd (atb_iff.mp q).1 (by omega)
        rw [if_neg a59] at sm
        refine Or.inr ⟨j + 1, nI pos, kinds', vs', told', ?_, ?_, by omega, hC'⟩
        · rw [f_X3_parse_12, if_neg (show ¬ (15 : Int32) ≤ nI j from nle hj15 (by decide)), e1, obS, if_neg i10, if_neg (show ¬ nI pos < nI pos from Int32.lt_irrefl), qI_succ]
        · rw [f_X13_isText_10, e2, obS, if_neg i10, sm, obS, if_pos rfl, joE, if_pos rfl, qI_succ]
          exact if_neg (fun q => q narB1)
theorem parse_both {k : Nat} {tsg inp : Nat → Int32} (h : TX k tsg inp) (pp : Int32) (kinds : Nat → Option Nat) (vs : Nat → Nat → Int32) (cc : Int32) (at0 : Int32) (told : Nat → Int32) (tm : Int32) :
    (∃ (pos : Nat) (kinds' : Nat → Option Nat) (vs' : Nat → Nat → Int32) (cc' : Int32) (told' : Nat → Int32) (tm' : Int32), f_X3_parse tsg (nI k) pp kinds vs cc = some (nI pos, nI pos, kinds', vs', cc') ∧ f_X13_isText inp (nI k) at0 told tm = some (0, nI pos, told', tm') ∧ pos ≤ 60) ∨
    (∃ (n' : Nat) (pos : Int32) (kinds' : Nat → Option Nat) (vs' : Nat → Nat → Int32) (told' : Nat → Int32), f_X3_parse tsg (nI k) pp kinds vs cc = some (-1, pos, kinds', vs', nI n') ∧ f_X13_isText inp (nI k) at0 told tm = some (1, pos, told', nI n') ∧ n' ≤ 15 ∧ ∀ j', j' < n' → COk j' kinds' vs' told') :=
  parse_go h 15 0 1000 1000 0 kinds vs told rfl (by decide) (by decide) (Nat.zero_le _) (Nat.zero_le _) (fun j' hj' => absurd hj' (Nat.not_lt_zero _))
