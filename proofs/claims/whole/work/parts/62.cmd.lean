/-! one command read: class and model -/
theorem s_isPlace {j : Nat} (hj : j < 15) : f_X3_isPlace (nI j) = some 1 := by
  unfold f_X3_isPlace
  rw [joE, joE, if_neg (qI_neg0 j (by omega)), if_neg (show ¬ (15 : Int32) ≤ nI j from nle hj (by decide))]
  exact if_neg (fun q => q narB1)
theorem s_par_end {tsg : Nat → Int32} {k : Nat} {l1 : Int32} {i : Nat} (hi : i < 10) (z81 z63 : Int32 → (Nat → Nat → Int32) → Option (Int32 × Int32 × (Nat → Option Nat) × (Nat → Nat → Int32))) (n q : Nat) (hq : q = (kp3 i).length) (p : Int32) (vs : Nat → Nat → Int32) : f_X3_readCommand_27 tsg (nI k) l1 i z81 z63 (n + 1) (nI q) p vs = z81 p vs := by
  rw [f_X3_readCommand_27, kp_eq i hi, List.length_map, hq, if_pos (Int32.le_refl _)]
theorem kp3_ok : ∀ i, i < 10 → (kp3 i).length ≤ 3 ∧ ∀ x ∈ kp3 i, x = 99 ∨ x = 100 ∨ x = 110 := by decide
theorem s_par_step {k : Nat} {tsg inp : Nat → Int32} (h : TX k tsg inp) {j i q f p : Nat} (hj : j < 15) (hi : i < 10) (hq : (kp3 i)[q]? = some f) (hp : p ≤ 100) (z81 z63 : Int32 → (Nat → Nat → Int32) → Option (Int32 × Int32 × (Nat → Option Nat) × (Nat → Nat → Int32))) (n : Nat) (vs : Nat → Nat → Int32) : f_X3_readCommand_27 tsg (nI k) (nI j) i z81 z63 (n + 1) (nI q) (nI p) vs = if rpo k inp f p = true then f_X3_readCommand_27 tsg (nI k) (nI j) i z81 z63 n (nI (q + 1)) (nI (rpp k inp f p)) (va_up vs j (upd (vs j) q (rpv k inp f p))) else z63 (nI (rpp k inp f p)) vs := by
  have hql : q < (kp3 i).length := by
    rcases Nat.lt_or_ge q (kp3 i).length with e | e
    · exact e
    · rw [List.getElem?_eq_none e] at hq
      exact absurd hq (by simp)
  have hf := (kp3_ok i hi).2 f (List.mem_of_getElem? hq)
  have hl := (kp3_ok i hi).1
  obtain ⟨e1, e2⟩ := s_param h hp hf
  rw [f_X3_readCommand_27, kp_eq i hi, List.length_map, if_neg (nle hql (by omega)), if_neg (show ¬ (3 : Int32) ≤ nI q from nle (show q < 3 by omega) (by decide)), if_neg (ixo hql (by omega)), chAt_nI hq (by omega) (by omega), e1, obS]
  by_cases ok : rpo k inp f p = true
  · rw [if_pos ok, if_pos ok, if_neg (e2 ok), if_neg (ixo hj (by decide)), if_neg (ixo (show q < 3 by omega) (by decide)), qI_cl (show j < 2147483648 by omega), qI_cl (show q < 2147483648 by omega), qI_succ]
  · rw [if_neg ok, if_neg ok, if_pos rfl]
theorem s_cmdW {k : Nat} {tsg : Nat → Int32} {j p0 p i : Nat} (hj : j < 15) (hi : i < 10) (kinds : Nat → Option Nat) (vs : Nat → Nat → Int32) (hw : f_X3_readWord tsg (nI k) (nI p0) = some (some i, nI p)) : f_X3_readCommand tsg (nI k) (nI p0) kinds vs (nI j) = f_X3_readCommand_27 tsg (nI k) (nI j) i (fun x y => some (1, x, va_up kinds j (some i), y)) (fun x y => some (0, x, va_up kinds j (some i), y)) 1000 (nI 0) (nI p) vs := by
  unfold f_X3_readCommand
  rw [joE, hw, obS]
  show (if 10 ≤ i then none else _) = _
  rw [if_neg (show ¬ 10 ≤ i by omega), s_isPlace hj, obS, if_neg i10, if_neg (ixo hj (by decide)), qI_cl (show j < 2147483648 by omega)]
  rfl
theorem s_cmdN {k : Nat} {tsg : Nat → Int32} {p0 p : Nat} {l : Int32} (kinds : Nat → Option Nat) (vs : Nat → Nat → Int32) (hw : f_X3_readWord tsg (nI k) (nI p0) = some (none, nI p)) : f_X3_readCommand tsg (nI k) (nI p0) kinds vs l = some (0, nI p, kinds, vs) := by
  unfold f_X3_readCommand
  rw [joE, hw, obS]
  rfl
def npar (i : Nat) : Nat := [3, 1, 1, 1, 1, 3, 1, 1, 1, 0].getD i 0
def COk (j : Nat) (kinds : Nat → Option Nat) (vs : Nat → Nat → Int32) (told : Nat → Int32) : Prop := ∃ i, i < 10 ∧ kinds j = some i ∧ told (4 * j) = nI i ∧ ∀ q, q < npar i → told (4 * j + 1 + q) = vs j q
def CB (k : Nat) (tsg inp : Nat → Int32) (p j : Nat) (kinds : Nat → Option Nat) (vs : Nat → Nat → Int32) (told : Nat → Int32) : Prop := ∃ (ok : Int32) (pos : Nat) (kinds' : Nat → Option Nat) (vs' : Nat → Nat → Int32) (told' : Nat → Int32), f_X3_readCommand tsg (nI k) (nI p) kinds vs (nI j) = some (ok, nI pos, kinds', vs') ∧ f_X13_commandHere inp (nI k) (nI p) told (nI j) = some (ok, nI pos, told') ∧ pos ≤ k ∧ (∀ j', j' ≠ j → kinds' j' = kinds j' ∧ vs' j' = vs j') ∧ (∀ q, q < 4 * j → told' q = told q) ∧ (ok = 0 ∨ (ok = 1 ∧ p + 4 ≤ pos ∧ COk j kinds' vs' told'))
def heads (j : Nat) : Nat := [115, 114, 99, 115, 116, 119, 105, 119, 111, 108].getD j 0
theorem kw_head : ∀ j, j < 10 → kw j = heads j :: (kw j).tail ∧ heads j < 128 := by decide
theorem fit0 {k : Nat} {inp : Nat → Int32} {p c j : Nat} (hj : j < 10) (hc : c < 128) (h : atb k inp p c = true) (hne : heads j ≠ c) : fit k inp p (kw j) = 0 := by
  obtain ⟨e, hl⟩ := kw_head j hj
  rw [e, fit, if_neg]
  rw [atb_uniq hc hl h (fun q => hne q.symm)]
  exact Bool.false_ne_true
theorem va_ne {α : Type} (f : Nat → α) {a b : Nat} (v : α) (h : b ≠ a) : va_up f a v b = f b := va_up_ne f v h
theorem CB_fail {k : Nat} {tsg inp : Nat → Int32} {p j pos : Nat} {kinds kinds' : Nat → Option Nat} {vs vs' : Nat → Nat → Int32} {told told' : Nat → Int32} (h1 : f_X3_readCommand tsg (nI k) (nI p) kinds vs (nI j) = some (0, nI pos, kinds', vs')) (h2 : f_X13_commandHere inp (nI k) (nI p) told (nI j) = some (0, nI pos, told')) (h3 : pos ≤ k) (h4 : ∀ j', j' ≠ j → kinds' j' = kinds j' ∧ vs' j' = vs j') (h5 : ∀ q, q < 4 * j → told' q = told q) : CB k tsg inp p j kinds vs told := ⟨0, pos, kinds', vs', told', h1, h2, h3, h4, h5, Or.inl rfl⟩
theorem CB_ok {k : Nat} {tsg inp : Nat → Int32} {p j pos : Nat} {kinds kinds' : Nat → Option Nat} {vs vs' : Nat → Nat → Int32} {told told' : Nat → Int32} (h1 : f_X3_readCommand tsg (nI k) (nI p) kinds vs (nI j) = some (1, nI pos, kinds', vs')) (h2 : f_X13_commandHere inp (nI k) (nI p) told (nI j) = some (1, nI pos, told')) (h3 : pos ≤ k) (h4 : ∀ j', j' ≠ j → kinds' j' = kinds j' ∧ vs' j' = vs j') (h5 : ∀ q, q < 4 * j → told' q = told q) (h6 : p + 4 ≤ pos) (h7 : COk j kinds' vs' told') : CB k tsg inp p j kinds vs told := ⟨1, pos, kinds', vs', told', h1, h2, h3, h4, h5, Or.inr ⟨rfl, h6, h7⟩⟩
theorem sk1 {k : Nat} (hk : k ≤ 60) {inp : Nat → Int32} {p c : Nat} (hp : p < 1000) (hc : c < 128) (h : atb k inp p c = true) : f_X13_skips inp (nI k) (nI p) (nI c) = some (1, nI (p + 1)) := by rw [m_skips hk hp hc, if_pos h]
theorem sk0 {k : Nat} (hk : k ≤ 60) {inp : Nat → Int32} {p c : Nat} (hp : p < 1000) (hc : c < 128) (h : atb k inp p c = false) : f_X13_skips inp (nI k) (nI p) (nI c) = some (0, nI p) := by rw [m_skips hk hp hc, h, if_neg Bool.false_ne_true]
theorem pl1 (j : Nat) : (4 : Int32) * nI j + 1 = nI (4 * j + 1) := by rw [show (4 : Int32) * nI j = nI (4 * j) from qI_mul 4 j, qI_succ]
theorem pl2 (j : Nat) : nI (4 * j + 1) + 1 = nI (4 * j + 2) := qI_succ _
theorem pl3 (j : Nat) : nI (4 * j + 1) + 2 = nI (4 * j + 3) := qI_add (4 * j + 1) 2
theorem cc_0 {k : Nat} {tsg inp : Nat → Int32} (h : TX k tsg inp) {p j : Nat} (hp : p ≤ k) (hj : j < 15) (kinds : Nat → Option Nat) (vs : Nat → Nat → Int32) (told : Nat → Int32) (hc : atb k inp p 115 = true) (hs : atb k inp (p + 1) 104 = false) : CB k tsg inp p j kinds vs told := by
  have hk := h.1
  have hp1 : p < 1000 := by omega
  have hpk : p + 1 ≤ k := (atb_iff.mp hc).1
  have n114 : f_X13_skips inp (nI k) (nI p) 114 = some (0, nI p) := sk0 hk hp1 (show 114 < 128 by decide) (atb_uniq (show 115 < 128 by decide) (show 114 < 128 by decide) hc (by decide))
  have n99 : f_X13_skips inp (nI k) (nI p) 99 = some (0, nI p) := sk0 hk hp1 (show 99 < 128 by decide) (atb_uniq (show 115 < 128 by decide) (show 99 < 128 by decide) hc (by decide))
  have n116 : f_X13_skips inp (nI k) (nI p) 116 = some (0, nI p) := sk0 hk hp1 (show 116 < 128 by decide) (atb_uniq (show 115 < 128 by decide) (show 116 < 128 by decide) hc (by decide))
  have n105 : f_X13_skips inp (nI k) (nI p) 105 = some (0, nI p) := sk0 hk hp1 (show 105 < 128 by decide) (atb_uniq (show 115 < 128 by decide) (show 105 < 128 by decide) hc (by decide))
  have n111 : f_X13_skips inp (nI k) (nI p) 111 = some (0, nI p) := sk0 hk hp1 (show 111 < 128 by decide) (atb_uniq (show 115 < 128 by decide) (show 111 < 128 by decide) hc (by decide))
  have n108 : f_X13_skips inp (nI k) (nI p) 108 = some (0, nI p) := sk0 hk hp1 (show 108 < 128 by decide) (atb_uniq (show 115 < 128 by decide) (show 108 < 128 by decide) hc (by decide))
  have y115 : f_X13_skips inp (nI k) (nI p) 115 = some (1, nI (p + 1)) := sk1 hk hp1 (show 115 < 128 by decide) hc
  have z104 : f_X13_skips inp (nI k) (nI (p + 1)) 104 = some (0, nI (p + 1)) := sk0 hk (show p + 1 < 1000 by omega) (show 104 < 128 by decide) hs
  have F : fit k inp p (kw 0) = fit k inp (p + 1) [101, 116] + 1 := by
    show fit k inp p (115 :: [101, 116]) = _
    rw [fit, if_pos hc]
  have G : fit k inp p (kw 3) = 1 := by
    show fit k inp p (115 :: 104 :: [105, 102, 116, 32]) = _
    rw [fit, if_pos hc, fit, if_neg]
    rw [hs]
    exact Bool.false_ne_true
  have hfl := fit_len k inp [101, 116] (p + 1)
  have hle := fit_le (k := k) (inp := inp) [101, 116] (p + 1) (by omega)
  have hlen : (kw 0).length = 3 := rfl
  have hW := s_word1 h (show p ≤ 60 by omega) (i := 0) (by decide) (fun j' hj' hne => by
    by_cases hh : heads j' = 115
    · have e : j' = 3 := (show ∀ j, j < 10 → heads j = 115 → j ≠ 0 → j = 3 by decide) j' hj' hh hne
      subst e
      rw [G, F]
      exact ⟨by omega, by decide⟩
    · rw [fit0 hj' (show 115 < 128 by decide) hc hh]
      exact ⟨Nat.zero_le _, by have := (kw_ok j' hj').2.2; omega⟩)
  have wd : f_X13_isWord inp (nI k) (nI (p + 1)) told (nI j) 0 ([101, 116] : List Int32) = _ := m_isWord hk (show p + 1 ≤ 100 by omega) (b := [101, 116]) (by decide) (by decide) told hj (nI 0)
  rw [F, hlen] at hW
  by_cases hf : fit k inp (p + 1) [101, 116] = 2
  · have hlN : ([101, 116] : List Nat).length = 2 := rfl
    rw [hf, if_pos (show 2 + 1 = 3 by decide)] at hW
    rw [hlN, if_pos hf, hf] at wd
    have hC := s_cmdW hj (show 0 < 10 by decide) kinds vs hW
    rw [show p + (2 + 1) = p + 3 by omega] at hC
    rw [show p + 1 + 2 = p + 3 by omega] at wd
    have hfit : p + 3 ≤ k := by omega
    have s0 := s_par_step h (q := 0) (f := 100) hj (show 0 < 10 by decide) rfl (show p + 3 ≤ 100 by omega) (fun x y => some ((1 : Int32), x, va_up kinds j (some 0), y)) (fun x y => some ((0 : Int32), x, va_up kinds j (some 0), y)) 999 (vs)
    have g0 : f_X13_figures inp (nI k) (nI (p + 3)) (upd told (4 * j) (nI 0)) (nI (4 * j + 1)) 1 = _ := m_fig hk (show p + 3 ≤ 100 by omega) (upd told (4 * j) (nI 0)) (show 4 * j + 1 < 124 by omega) (f := 100) (D := 1) (by decide)
    obtain ⟨b0, c0⟩ := rpp_le (k := k) (inp := inp) (f := 100) (p := p + 3) (by omega)
    by_cases o0 : rpo k inp 100 (p + 3) = true
    rotate_left
    · rw [if_neg o0] at s0
      rw [if_neg o0, if_neg o0] at g0
      refine CB_fail (hC.trans s0) (told' := (upd told (4 * j) (nI 0))) ?_ (by omega) (fun j' hj' => ⟨va_ne _ _ hj', rfl⟩) (fun q hq => upd_ne _ _ (by omega))
      unfold f_X13_commandHere
      rw [n114, obS, if_pos rfl, n99, obS, if_pos rfl, n116, obS, if_pos rfl, n105, obS, if_pos rfl, n111, obS, if_pos rfl, n108, obS, if_pos rfl, y115, obS, if_neg i10, joE, z104, obS, if_pos rfl, joE, wd, obS, if_neg i10, pl1, g0, obS, if_pos rfl]
      exact if_neg (fun q => q narB0)
    rw [if_pos o0] at s0
    rw [if_pos o0, if_pos o0] at g0
    have d0 := c0 o0
    have s1 := s_par_step h (q := 1) (f := 100) hj (show 0 < 10 by decide) rfl (show rpp k inp 100 (p + 3) ≤ 100 by omega) (fun x y => some ((1 : Int32), x, va_up kinds j (some 0), y)) (fun x y => some ((0 : Int32), x, va_up kinds j (some 0), y)) 998 (va_up (vs) j (upd ((vs) j) 0 (rpv k inp 100 (p + 3))))
    have g1 : f_X13_figures inp (nI k) (nI (rpp k inp 100 (p + 3))) (upd (upd told (4 * j) (nI 0)) (4 * j + 1) (rpv k inp 100 (p + 3))) (nI (4 * j + 2)) 1 = _ := m_fig hk (show rpp k inp 100 (p + 3) ≤ 100 by omega) (upd (upd told (4 * j) (nI 0)) (4 * j + 1) (rpv k inp 100 (p + 3))) (show 4 * j + 2 < 124 by omega) (f := 100) (D := 1) (by decide)
    obtain ⟨b1, c1⟩ := rpp_le (k := k) (inp := inp) (f := 100) (p := rpp k inp 100 (p + 3)) (by omega)
    by_cases o1 : rpo k inp 100 (rpp k inp 100 (p + 3)) = true
    rotate_left
    · rw [if_neg o1] at s1
      rw [if_neg o1, if_neg o1] at g1
      refine CB_fail (hC.trans (s0.trans s1)) (told' := (upd (upd told (4 * j) (nI 0)) (4 * j + 1) (rpv k inp 100 (p + 3)))) ?_ (by omega) (fun j' hj' => ⟨va_ne _ _ hj', by simp [va_ne, hj']⟩) (fun q hq => (upd_ne _ _ (by omega)).trans (upd_ne _ _ (by omega)))
      unfold f_X13_commandHere
      rw [n114, obS, if_pos rfl, n99, obS, if_pos rfl, n116, obS, if_pos rfl, n105, obS, if_pos rfl, n111, obS, if_pos rfl, n108, obS, if_pos rfl, y115, obS, if_neg i10, joE, z104, obS, if_pos rfl, joE, wd, obS, if_neg i10, pl1, g0, obS, if_neg i10, pl2, g1, obS, if_pos rfl]
      exact if_neg (fun q => q narB0)
    rw [if_pos o1] at s1
    rw [if_pos o1, if_pos o1] at g1
    have d1 := c1 o1
    have s2 := s_par_step h (q := 2) (f := 110) hj (show 0 < 10 by decide) rfl (show rpp k inp 100 (rpp k inp 100 (p + 3)) ≤ 100 by omega) (fun x y => some ((1 : Int32), x, va_up kinds j (some 0), y)) (fun x y => some ((0 : Int32), x, va_up kinds j (some 0), y)) 997 (va_up (va_up (vs) j (upd ((vs) j) 0 (rpv k inp 100 (p + 3)))) j (upd ((va_up (vs) j (upd ((vs) j) 0 (rpv k inp 100 (p + 3)))) j) 1 (rpv k inp 100 (rpp k inp 100 (p + 3)))))
    have g2 : f_X13_figures inp (nI k) (nI (rpp k inp 100 (rpp k inp 100 (p + 3)))) (upd (upd (upd told (4 * j) (nI 0)) (4 * j + 1) (rpv k inp 100 (p + 3))) (4 * j + 2) (rpv k inp 100 (rpp k inp 100 (p + 3)))) (nI (4 * j + 3)) 2 = _ := m_fig hk (show rpp k inp 100 (rpp k inp 100 (p + 3)) ≤ 100 by omega) (upd (upd (upd told (4 * j) (nI 0)) (4 * j + 1) (rpv k inp 100 (p + 3))) (4 * j + 2) (rpv k inp 100 (rpp k inp 100 (p + 3)))) (show 4 * j + 3 < 124 by omega) (f := 110) (D := 2) (by decide)
    obtain ⟨b2, c2⟩ := rpp_le (k := k) (inp := inp) (f := 110) (p := rpp k inp 100 (rpp k inp 100 (p + 3))) (by omega)
    by_cases o2 : rpo k inp 110 (rpp k inp 100 (rpp k inp 100 (p + 3))) = true
    rotate_left
    · rw [if_neg o2] at s2
      rw [if_neg o2, if_neg o2] at g2
      refine CB_fail (hC.trans (s0.trans (s1.trans s2))) (told' := (upd (upd (upd told (4 * j) (nI 0)) (4 * j + 1) (rpv k inp 100 (p + 3))) (4 * j + 2) (rpv k inp 100 (rpp k inp 100 (p + 3))))) ?_ (by omega) (fun j' hj' => ⟨va_ne _ _ hj', by simp [va_ne, hj']⟩) (fun q hq => ((upd_ne _ _ (by omega)).trans (upd_ne _ _ (by omega))).trans (upd_ne _ _ (by omega)))
      unfold f_X13_commandHere
      rw [n114, obS, if_pos rfl, n99, obS, if_pos rfl, n116, obS, if_pos rfl, n105, obS, if_pos rfl, n111, obS, if_pos rfl, n108, obS, if_pos rfl, y115, obS, if_neg i10, joE, z104, obS, if_pos rfl, joE, wd, obS, if_neg i10, pl1, g0, obS, if_neg i10, pl2, g1, obS, if_neg i10, pl3, g2, obS, if_pos rfl]
      exact if_neg (fun q => q narB0)
    rw [if_pos o2] at s2
    rw [if_pos o2, if_pos o2] at g2
    have d2 := c2 o2
    refine CB_ok (hC.trans (s0.trans (s1.trans (s2.trans (s_par_end (show 0 < 10 by decide) _ _ 996 3 rfl _ _))))) (told' := (upd (upd (upd (upd told (4 * j) (nI 0)) (4 * j + 1) (rpv k inp 100 (p + 3))) (4 * j + 2) (rpv k inp 100 (rpp k inp 100 (p + 3)))) (4 * j + 3) (rpv k inp 110 (rpp k inp 100 (rpp k inp 100 (p + 3)))))) ?_ (by omega) (fun j' hj' => ⟨va_ne _ _ hj', by simp [va_ne, hj']⟩) (fun q hq => (((upd_ne _ _ (by omega)).trans (upd_ne _ _ (by omega))).trans (upd_ne _ _ (by omega))).trans (upd_ne _ _ (by omega))) (by omega) ⟨0, by decide, va_up_self _ _ _, ?_, fun q hq => ?_⟩
    · unfold f_X13_commandHere
      rw [n114, obS, if_pos rfl, n99, obS, if_pos rfl, n116, obS, if_pos rfl, n105, obS, if_pos rfl, n111, obS, if_pos rfl, n108, obS, if_pos rfl, y115, obS, if_neg i10, joE, z104, obS, if_pos rfl, joE, wd, obS, if_neg i10, pl1, g0, obS, if_neg i10, pl2, g1, obS, if_neg i10, pl3, g2, obS, if_neg i10]
      exact if_neg (fun q => q narB1)
    · simp [upd]
    · have hq' : q = 0 ∨ q = 1 ∨ q = 2 := by
        have : npar 0 = 3 := rfl
        omega
      rcases hq' with rfl | rfl | rfl <;> simp [upd, va_up_self]
  · have hlN : ([101, 116] : List Nat).length = 2 := rfl
    rw [if_neg (show ¬ fit k inp (p + 1) [101, 116] + 1 = 3 by omega)] at hW
    rw [hlN, if_neg hf] at wd
    refine CB_fail (s_cmdN kinds vs hW) (pos := p + (fit k inp (p + 1) [101, 116] + 1)) (told' := upd told (4 * j) (nI 0)) ?_ (by omega) (fun j' _ => ⟨rfl, rfl⟩) (fun q hq => upd_ne _ _ (by omega))
    unfold f_X13_commandHere
    rw [n114, obS, if_pos rfl, n99, obS, if_pos rfl, n116, obS, if_pos rfl, n105, obS, if_pos rfl, n111, obS, if_pos rfl, n108, obS, if_pos rfl, y115, obS, if_neg i10, joE, z104, obS, if_pos rfl, joE, wd, obS, if_pos rfl, show p + 1 + fit k inp (p + 1) [101, 116] = p + (fit k inp (p + 1) [101, 116] + 1) by omega]
    exact if_neg (fun q => q narB0)
theorem cc_1 {k : Nat} {tsg inp : Nat → Int32} (h : TX k tsg inp) {p j : Nat} (hp : p ≤ k) (hj : j < 15) (kinds : Nat → Option Nat) (vs : Nat → Nat → Int32) (told : Nat → Int32) (hc : atb k inp p 114 = true) : CB k tsg inp p j kinds vs told := by
  have hk := h.1
  have hp1 : p < 1000 := by omega
  have hpk : p + 1 ≤ k := (atb_iff.mp hc).1
  have y114 : f_X13_skips inp (nI k) (nI p) 114 = some (1, nI (p + 1)) := sk1 hk hp1 (show 114 < 128 by decide) hc
  have F : fit k inp p (kw 1) = fit k inp (p + 1) [111, 119] + 1 := by
    show fit k inp p (114 :: [111, 119]) = _
    rw [fit, if_pos hc]
  have hfl := fit_len k inp [111, 119] (p + 1)
  have hle := fit_le (k := k) (inp := inp) [111, 119] (p + 1) (by omega)
  have hlen : (kw 1).length = 3 := rfl
  have hW := s_word1 h (show p ≤ 60 by omega) (i := 1) (by decide) (fun j' hj' hne => by
    by_cases hh : heads j' = 114
    · exact absurd ((show ∀ j, j < 10 → heads j = 114 → j = 1 by decide) j' hj' hh) hne
    · rw [fit0 hj' (show 114 < 128 by decide) hc hh]
      exact ⟨Nat.zero_le _, by have := (kw_ok j' hj').2.2; omega⟩)
  have wd : f_X13_isWord inp (nI k) (nI (p + 1)) told (nI j) 1 ([111, 119] : List Int32) = _ := m_isWord hk (show p + 1 ≤ 100 by omega) (b := [111, 119]) (by decide) (by decide) told hj (nI 1)
  rw [F, hlen] at hW
  by_cases hf : fit k inp (p + 1) [111, 119] = 2
  · have hlN : ([111, 119] : List Nat).length = 2 := rfl
    rw [hf, if_pos (show 2 + 1 = 3 by decide)] at hW
    rw [hlN, if_pos hf, hf] at wd
    have hC := s_cmdW hj (show 1 < 10 by decide) kinds vs hW
    rw [show p + (2 + 1) = p + 3 by omega] at hC
    rw [show p + 1 + 2 = p + 3 by omega] at wd
    have hfit : p + 3 ≤ k := by omega
    have s0 := s_par_step h (q := 0) (f := 100) hj (show 1 < 10 by decide) rfl (show p + 3 ≤ 100 by omega) (fun x y => some ((1 : Int32), x, va_up kinds j (some 1), y)) (fun x y => some ((0 : Int32), x, va_up kinds j (some 1), y)) 999 (vs)
    have g0 : f_X13_figures inp (nI k) (nI (p + 3)) (upd told (4 * j) (nI 1)) (nI (4 * j + 1)) 1 = _ := m_fig hk (show p + 3 ≤ 100 by omega) (upd told (4 * j) (nI 1)) (show 4 * j + 1 < 124 by omega) (f := 100) (D := 1) (by decide)
    obtain ⟨b0, c0⟩ := rpp_le (k := k) (inp := inp) (f := 100) (p := p + 3) (by omega)
    by_cases o0 : rpo k inp 100 (p + 3) = true
    rotate_left
    · rw [if_neg o0] at s0
      rw [if_neg o0, if_neg o0] at g0
      refine CB_fail (hC.trans s0) (told' := (upd told (4 * j) (nI 1))) ?_ (by omega) (fun j' hj' => ⟨va_ne _ _ hj', rfl⟩) (fun q hq => upd_ne _ _ (by omega))
      unfold f_X13_commandHere
      rw [y114, obS, if_neg i10, joE, joE, wd, obS, if_neg i10, pl1, g0, obS, if_pos rfl]
      exact if_neg (fun q => q narB0)
    rw [if_pos o0] at s0
    rw [if_pos o0, if_pos o0] at g0
    have d0 := c0 o0
    refine CB_ok (hC.trans (s0.trans (s_par_end (show 1 < 10 by decide) _ _ 998 1 rfl _ _))) (told' := (upd (upd told (4 * j) (nI 1)) (4 * j + 1) (rpv k inp 100 (p + 3)))) ?_ (by omega) (fun j' hj' => ⟨va_ne _ _ hj', by simp [va_ne, hj']⟩) (fun q hq => (upd_ne _ _ (by omega)).trans (upd_ne _ _ (by omega))) (by omega) ⟨1, by decide, va_up_self _ _ _, ?_, fun q hq => ?_⟩
    · unfold f_X13_commandHere
      rw [y114, obS, if_neg i10, joE, joE, wd, obS, if_neg i10, pl1, g0, obS, if_neg i10]
      exact if_neg (fun q => q narB1)
    · simp [upd]
    · have hq' : q = 0 := by
        have : npar 1 = 1 := rfl
        omega
      subst hq'
      rw [Nat.add_zero, upd_same, va_up_self, upd_same]
  · have hlN : ([111, 119] : List Nat).length = 2 := rfl
    rw [if_neg (show ¬ fit k inp (p + 1) [111, 119] + 1 = 3 by omega)] at hW
    rw [hlN, if_neg hf] at wd
    refine CB_fail (s_cmdN kinds vs hW) (pos := p + (fit k inp (p + 1) [111, 119] + 1)) (told' := upd told (4 * j) (nI 1)) ?_ (by omega) (fun j' _ => ⟨rfl, rfl⟩) (fun q hq => upd_ne _ _ (by omega))
    unfold f_X13_commandHere
    rw [y114, obS, if_neg i10, joE, joE, wd, obS, if_pos rfl, show p + 1 + fit k inp (p + 1) [111, 119] = p + (fit k inp (p + 1) [111, 119] + 1) by omega]
    exact if_neg (fun q => q narB0)
theorem cc_2 {k : Nat} {tsg inp : Nat → Int32} (h : TX k tsg inp) {p j : Nat} (hp : p ≤ k) (hj : j < 15) (kinds : Nat → Option Nat) (vs : Nat → Nat → Int32) (told : Nat → Int32) (hc : atb k inp p 99 = true) : CB k tsg inp p j kinds vs told := by
  have hk := h.1
  have hp1 : p < 1000 := by omega
  have hpk : p + 1 ≤ k := (atb_iff.mp hc).1
  have n114 : f_X13_skips inp (nI k) (nI p) 114 = some (0, nI p) := sk0 hk hp1 (show 114 < 128 by decide) (atb_uniq (show 99 < 128 by decide) (show 114 < 128 by decide) hc (by decide))
  have y99 : f_X13_skips inp (nI k) (nI p) 99 = some (1, nI (p + 1)) := sk1 hk hp1 (show 99 < 128 by decide) hc
  have F : fit k inp p (kw 2) = fit k inp (p + 1) [111, 108, 117, 109, 110] + 1 := by
    show fit k inp p (99 :: [111, 108, 117, 109, 110]) = _
    rw [fit, if_pos hc]
  have hfl := fit_len k inp [111, 108, 117, 109, 110] (p + 1)
  have hle := fit_le (k := k) (inp := inp) [111, 108, 117, 109, 110] (p + 1) (by omega)
  have hlen : (kw 2).length = 6 := rfl
  have hW := s_word1 h (show p ≤ 60 by omega) (i := 2) (by decide) (fun j' hj' hne => by
    by_cases hh : heads j' = 99
    · exact absurd ((show ∀ j, j < 10 → heads j = 99 → j = 2 by decide) j' hj' hh) hne
    · rw [fit0 hj' (show 99 < 128 by decide) hc hh]
      exact ⟨Nat.zero_le _, by have := (kw_ok j' hj').2.2; omega⟩)
  have wd : f_X13_isWord inp (nI k) (nI (p + 1)) told (nI j) 2 ([111, 108, 117, 109, 110] : List Int32) = _ := m_isWord hk (show p + 1 ≤ 100 by omega) (b := [111, 108, 117, 109, 110]) (by decide) (by decide) told hj (nI 2)
  rw [F, hlen] at hW
  by_cases hf : fit k inp (p + 1) [111, 108, 117, 109, 110] = 5
  · have hlN : ([111, 108, 117, 109, 110] : List Nat).length = 5 := rfl
    rw [hf, if_pos (show 5 + 1 = 6 by decide)] at hW
    rw [hlN, if_pos hf, hf] at wd
    have hC := s_cmdW hj (show 2 < 10 by decide) kinds vs hW
    rw [show p + (5 + 1) = p + 6 by omega] at hC
    rw [show p + 1 + 5 = p + 6 by omega] at wd
    have hfit : p + 6 ≤ k := by omega
    have s0 := s_par_step h (q := 0) (f := 100) hj (show 2 < 10 by decide) rfl (show p + 6 ≤ 100 by omega) (fun x y => some ((1 : Int32), x, va_up kinds j (some 2), y)) (fun x y => some ((0 : Int32), x, va_up kinds j (some 2), y)) 999 (vs)
    have g0 : f_X13_figures inp (nI k) (nI (p + 6)) (upd told (4 * j) (nI 2)) (nI (4 * j + 1)) 1 = _ := m_fig hk (show p + 6 ≤ 100 by omega) (upd told (4 * j) (nI 2)) (show 4 * j + 1 < 124 by omega) (f := 100) (D := 1) (by decide)
    obtain ⟨b0, c0⟩ := rpp_le (k := k) (inp := inp) (f := 100) (p := p + 6) (by omega)
    by_cases o0 : rpo k inp 100 (p + 6) = true
    rotate_left
    · rw [if_neg o0] at s0
      rw [if_neg o0, if_neg o0] at g0
      refine CB_fail (hC.trans s0) (told' := (upd told (4 * j) (nI 2))) ?_ (by omega) (fun j' hj' => ⟨va_ne _ _ hj', rfl⟩) (fun q hq => upd_ne _ _ (by omega))
      unfold f_X13_commandHere
      rw [n114, obS, if_pos rfl, y99, obS, if_neg i10, joE, joE, wd, obS, if_neg i10, pl1, g0, obS, if_pos rfl]
      exact if_neg (fun q => q narB0)
    rw [if_pos o0] at s0
    rw [if_pos o0, if_pos o0] at g0
    have d0 := c0 o0
    refine CB_ok (hC.trans (s0.trans (s_par_end (show 2 < 10 by decide) _ _ 998 1 rfl _ _))) (told' := (upd (upd told (4 * j) (nI 2)) (4 * j + 1) (rpv k inp 100 (p + 6)))) ?_ (by omega) (fun j' hj' => ⟨va_ne _ _ hj', by simp [va_ne, hj']⟩) (fun q hq => (upd_ne _ _ (by omega)).trans (upd_ne _ _ (by omega))) (by omega) ⟨2, by decide, va_up_self _ _ _, ?_, fun q hq => ?_⟩
    · unfold f_X13_commandHere
      rw [n114, obS, if_pos rfl, y99, obS, if_neg i10, joE, joE, wd, obS, if_neg i10, pl1, g0, obS, if_neg i10]
      exact if_neg (fun q => q narB1)
    · simp [upd]
    · have hq' : q = 0 := by
        have : npar 2 = 1 := rfl
        omega
      subst hq'
      rw [Nat.add_zero, upd_same, va_up_self, upd_same]
  · have hlN : ([111, 108, 117, 109, 110] : List Nat).length = 5 := rfl
    rw [if_neg (show ¬ fit k inp (p + 1) [111, 108, 117, 109, 110] + 1 = 6 by omega)] at hW
    rw [hlN, if_neg hf] at wd
    refine CB_fail (s_cmdN kinds vs hW) (pos := p + (fit k inp (p + 1) [111, 108, 117, 109, 110] + 1)) (told' := upd told (4 * j) (nI 2)) ?_ (by omega) (fun j' _ => ⟨rfl, rfl⟩) (fun q hq => upd_ne _ _ (by omega))
    unfold f_X13_commandHere
    rw [n114, obS, if_pos rfl, y99, obS, if_neg i10, joE, joE, wd, obS, if_pos rfl, show p + 1 + fit k inp (p + 1) [111, 108, 117, 109, 110] = p + (fit k inp (p + 1) [111, 108, 117, 109, 110] + 1) by omega]
    exact if_neg (fun q => q narB0)
theorem cc_3 {k : Nat} {tsg inp : Nat → Int32} (h : TX k tsg inp) {p j : Nat} (hp : p ≤ k) (hj : j < 15) (kinds : Nat → Option Nat) (vs : Nat → Nat → Int32) (told : Nat → Int32) (hc : atb k inp p 115 = true) (hs : atb k inp (p + 1) 104 = true) : CB k tsg inp p j kinds vs told := by
  have hk := h.1
  have hp1 : p < 1000 := by omega
  have hpk : p + 1 ≤ k := (atb_iff.mp hc).1
  have n114 : f_X13_skips inp (nI k) (nI p) 114 = some (0, nI p) := sk0 hk hp1 (show 114 < 128 by decide) (atb_uniq (show 115 < 128 by decide) (show 114 < 128 by decide) hc (by decide))
  have n99 : f_X13_skips inp (nI k) (nI p) 99 = some (0, nI p) := sk0 hk hp1 (show 99 < 128 by decide) (atb_uniq (show 115 < 128 by decide) (show 99 < 128 by decide) hc (by decide))
  have n116 : f_X13_skips inp (nI k) (nI p) 116 = some (0, nI p) := sk0 hk hp1 (show 116 < 128 by decide) (atb_uniq (show 115 < 128 by decide) (show 116 < 128 by decide) hc (by decide))
  have n105 : f_X13_skips inp (nI k) (nI p) 105 = some (0, nI p) := sk0 hk hp1 (show 105 < 128 by decide) (atb_uniq (show 115 < 128 by decide) (show 105 < 128 by decide) hc (by decide))
  have n111 : f_X13_skips inp (nI k) (nI p) 111 = some (0, nI p) := sk0 hk hp1 (show 111 < 128 by decide) (atb_uniq (show 115 < 128 by decide) (show 111 < 128 by decide) hc (by decide))
  have n108 : f_X13_skips inp (nI k) (nI p) 108 = some (0, nI p) := sk0 hk hp1 (show 108 < 128 by decide) (atb_uniq (show 115 < 128 by decide) (show 108 < 128 by decide) hc (by decide))
  have y115 : f_X13_skips inp (nI k) (nI p) 115 = some (1, nI (p + 1)) := sk1 hk hp1 (show 115 < 128 by decide) hc
  have hpk2 : p + 1 + 1 ≤ k := (atb_iff.mp hs).1
  have z104 : f_X13_skips inp (nI k) (nI (p + 1)) 104 = some (1, nI (p + 1 + 1)) := sk1 hk (show p + 1 < 1000 by omega) (show 104 < 128 by decide) hs
  have F : fit k inp p (kw 3) = fit k inp (p + 1 + 1) [105, 102, 116, 32] + 2 := by
    show fit k inp p (115 :: 104 :: [105, 102, 116, 32]) = _
    rw [fit, if_pos hc, fit, if_pos hs]
  have G : fit k inp p (kw 0) = 1 := by
    show fit k inp p (115 :: 101 :: [116]) = _
    rw [fit, if_pos hc, fit, if_neg]
    rw [atb_uniq (show 104 < 128 by decide) (show 101 < 128 by decide) hs (by decide)]
    exact Bool.false_ne_true
  have hfl := fit_len k inp [105, 102, 116, 32] (p + 1 + 1)
  have hle := fit_le (k := k) (inp := inp) [105, 102, 116, 32] (p + 1 + 1) (by omega)
  have hlen : (kw 3).length = 6 := rfl
  have hW := s_word1 h (show p ≤ 60 by omega) (i := 3) (by decide) (fun j' hj' hne => by
    by_cases hh : heads j' = 115
    · have e : j' = 0 := (show ∀ j, j < 10 → heads j = 115 → j ≠ 3 → j = 0 by decide) j' hj' hh hne
      subst e
      rw [G, F]
      exact ⟨by omega, by decide⟩
    · rw [fit0 hj' (show 115 < 128 by decide) hc hh]
      exact ⟨Nat.zero_le _, by have := (kw_ok j' hj').2.2; omega⟩)
  have wd : f_X13_isWord inp (nI k) (nI (p + 1 + 1)) told (nI j) 3 ([105, 102, 116, 32] : List Int32) = _ := m_isWord hk (show p + 1 + 1 ≤ 100 by omega) (b := [105, 102, 116, 32]) (by decide) (by decide) told hj (nI 3)
  rw [F, hlen] at hW
  by_cases hf : fit k inp (p + 1 + 1) [105, 102, 116, 32] = 4
  · have hlN : ([105, 102, 116, 32] : List Nat).length = 4 := rfl
    rw [hf, if_pos (show 4 + 2 = 6 by decide)] at hW
    rw [hlN, if_pos hf, hf] at wd
    have hC := s_cmdW hj (show 3 < 10 by decide) kinds vs hW
    rw [show p + (4 + 2) = p + 6 by omega] at hC
    rw [show p + 1 + 1 + 4 = p + 6 by omega] at wd
    have hfit : p + 6 ≤ k := by omega
    have s0 := s_par_step h (q := 0) (f := 99) hj (show 3 < 10 by decide) rfl (show p + 6 ≤ 100 by omega) (fun x y => some ((1 : Int32), x, va_up kinds j (some 3), y)) (fun x y => some ((0 : Int32), x, va_up kinds j (some 3), y)) 999 (vs)
    have g0 := m_way hk (inp := inp) (show p + 6 ≤ 100 by omega) (upd told (4 * j) (nI 3)) (show 4 * j + 1 < 124 by omega)
    obtain ⟨b0, c0⟩ := rpp_le (k := k) (inp := inp) (f := 99) (p := p + 6) (by omega)
    by_cases o0 : rpo k inp 99 (p + 6) = true
    rotate_left
    · rw [if_neg o0] at s0
      rw [if_neg o0] at g0
      refine CB_fail (hC.trans s0) (told' := (upd (upd told (4 * j) (nI 3)) (4 * j + 1) (if p + 6 < k then inp (p + 6) else -1))) ?_ (by omega) (fun j' hj' => ⟨va_ne _ _ hj', rfl⟩) (fun q hq => (upd_ne _ _ (by omega)).trans (upd_ne _ _ (by omega)))
      unfold f_X13_commandHere
      rw [n114, obS, if_pos rfl, n99, obS, if_pos rfl, n116, obS, if_pos rfl, n105, obS, if_pos rfl, n111, obS, if_pos rfl, n108, obS, if_pos rfl, y115, obS, if_neg i10, joE, z104, obS, if_neg i10, joE, wd, obS, if_neg i10, pl1, g0, obS, if_pos rfl]
      exact if_neg (fun q => q narB0)
    rw [if_pos o0] at s0
    rw [if_pos o0] at g0
    have d0 := c0 o0
    have hkk : p + 6 < k := by omega
    refine CB_ok (hC.trans (s0.trans (s_par_end (show 3 < 10 by decide) _ _ 998 1 rfl _ _))) (told' := (upd (upd told (4 * j) (nI 3)) (4 * j + 1) (if p + 6 < k then inp (p + 6) else -1))) ?_ (by omega) (fun j' hj' => ⟨va_ne _ _ hj', by simp [va_ne, hj']⟩) (fun q hq => (upd_ne _ _ (by omega)).trans (upd_ne _ _ (by omega))) (by omega) ⟨3, by decide, va_up_self _ _ _, ?_, fun q hq => ?_⟩
    · unfold f_X13_commandHere
      rw [n114, obS, if_pos rfl, n99, obS, if_pos rfl, n116, obS, if_pos rfl, n105, obS, if_pos rfl, n111, obS, if_pos rfl, n108, obS, if_pos rfl, y115, obS, if_neg i10, joE, z104, obS, if_neg i10, joE, wd, obS, if_neg i10, pl1, g0, obS, if_neg i10]
      exact if_neg (fun q => q narB1)
    · simp [upd]
    · have hq' : q = 0 := by
        have : npar 3 = 1 := rfl
        omega
      subst hq'
      rw [Nat.add_zero, upd_same, if_pos hkk, va_up_self, upd_same]
      rfl
  · have hlN : ([105, 102, 116, 32] : List Nat).length = 4 := rfl
    rw [if_neg (show ¬ fit k inp (p + 1 + 1) [105, 102, 116, 32] + 2 = 6 by omega)] at hW
    rw [hlN, if_neg hf] at wd
    refine CB_fail (s_cmdN kinds vs hW) (pos := p + (fit k inp (p + 1 + 1) [105, 102, 116, 32] + 2)) (told' := upd told (4 * j) (nI 3)) ?_ (by omega) (fun j' _ => ⟨rfl, rfl⟩) (fun q hq => upd_ne _ _ (by omega))
    unfold f_X13_commandHere
    rw [n114, obS, if_pos rfl, n99, obS, if_pos rfl, n116, obS, if_pos rfl, n105, obS, if_pos rfl, n111, obS, if_pos rfl, n108, obS, if_pos rfl, y115, obS, if_neg i10, joE, z104, obS, if_neg i10, joE, wd, obS, if_pos rfl, show p + 1 + 1 + fit k inp (p + 1 + 1) [105, 102, 116, 32] = p + (fit k inp (p + 1 + 1) [105, 102, 116, 32] + 2) by omega]
    exact if_neg (fun q => q narB0)
theorem cc_4 {k : Nat} {tsg inp : Nat → Int32} (h : TX k tsg inp) {p j : Nat} (hp : p ≤ k) (hj : j < 15) (kinds : Nat → Option Nat) (vs : Nat → Nat → Int32) (told : Nat → Int32) (hc : atb k inp p 116 = true) : CB k tsg inp p j kinds vs told := by
  have hk := h.1
  have hp1 : p < 1000 := by omega
  have hpk : p + 1 ≤ k := (atb_iff.mp hc).1
  have n114 : f_X13_skips inp (nI k) (nI p) 114 = some (0, nI p) := sk0 hk hp1 (show 114 < 128 by decide) (atb_uniq (show 116 < 128 by decide) (show 114 < 128 by decide) hc (by decide))
  have n99 : f_X13_skips inp (nI k) (nI p) 99 = some (0, nI p) := sk0 hk hp1 (show 99 < 128 by decide) (atb_uniq (show 116 < 128 by decide) (show 99 < 128 by decide) hc (by decide))
  have y116 : f_X13_skips inp (nI k) (nI p) 116 = some (1, nI (p + 1)) := sk1 hk hp1 (show 116 < 128 by decide) hc
  have F : fit k inp p (kw 4) = fit k inp (p + 1) [104, 114, 101, 115, 104, 111, 108, 100] + 1 := by
    show fit k inp p (116 :: [104, 114, 101, 115, 104, 111, 108, 100]) = _
    rw [fit, if_pos hc]
  have hfl := fit_len k inp [104, 114, 101, 115, 104, 111, 108, 100] (p + 1)
  have hle := fit_le (k := k) (inp := inp) [104, 114, 101, 115, 104, 111, 108, 100] (p + 1) (by omega)
  have hlen : (kw 4).length = 9 := rfl
  have hW := s_word1 h (show p ≤ 60 by omega) (i := 4) (by decide) (fun j' hj' hne => by
    by_cases hh : heads j' = 116
    · exact absurd ((show ∀ j, j < 10 → heads j = 116 → j = 4 by decide) j' hj' hh) hne
    · rw [fit0 hj' (show 116 < 128 by decide) hc hh]
      exact ⟨Nat.zero_le _, by have := (kw_ok j' hj').2.2; omega⟩)
  have wd : f_X13_isWord inp (nI k) (nI (p + 1)) told (nI j) 4 ([104, 114, 101, 115, 104, 111, 108, 100] : List Int32) = _ := m_isWord hk (show p + 1 ≤ 100 by omega) (b := [104, 114, 101, 115, 104, 111, 108, 100]) (by decide) (by decide) told hj (nI 4)
  rw [F, hlen] at hW
  by_cases hf : fit k inp (p + 1) [104, 114, 101, 115, 104, 111, 108, 100] = 8
  · have hlN : ([104, 114, 101, 115, 104, 111, 108, 100] : List Nat).length = 8 := rfl
    rw [hf, if_pos (show 8 + 1 = 9 by decide)] at hW
    rw [hlN, if_pos hf, hf] at wd
    have hC := s_cmdW hj (show 4 < 10 by decide) kinds vs hW
    rw [show p + (8 + 1) = p + 9 by omega] at hC
    rw [show p + 1 + 8 = p + 9 by omega] at wd
    have hfit : p + 9 ≤ k := by omega
    have s0 := s_par_step h (q := 0) (f := 110) hj (show 4 < 10 by decide) rfl (show p + 9 ≤ 100 by omega) (fun x y => some ((1 : Int32), x, va_up kinds j (some 4), y)) (fun x y => some ((0 : Int32), x, va_up kinds j (some 4), y)) 999 (vs)
    have g0 : f_X13_figures inp (nI k) (nI (p + 9)) (upd told (4 * j) (nI 4)) (nI (4 * j + 1)) 2 = _ := m_fig hk (show p + 9 ≤ 100 by omega) (upd told (4 * j) (nI 4)) (show 4 * j + 1 < 124 by omega) (f := 110) (D := 2) (by decide)
    obtain ⟨b0, c0⟩ := rpp_le (k := k) (inp := inp) (f := 110) (p := p + 9) (by omega)
    by_cases o0 : rpo k inp 110 (p + 9) = true
    rotate_left
    · rw [if_neg o0] at s0
      rw [if_neg o0, if_neg o0] at g0
      refine CB_fail (hC.trans s0) (told' := (upd told (4 * j) (nI 4))) ?_ (by omega) (fun j' hj' => ⟨va_ne _ _ hj', rfl⟩) (fun q hq => upd_ne _ _ (by omega))
      unfold f_X13_commandHere
      rw [n114, obS, if_pos rfl, n99, obS, if_pos rfl, y116, obS, if_neg i10, joE, joE, wd, obS, if_neg i10, pl1, g0, obS, if_pos rfl]
      exact if_neg (fun q => q narB0)
    rw [if_pos o0] at s0
    rw [if_pos o0, if_pos o0] at g0
    have d0 := c0 o0
    refine CB_ok (hC.trans (s0.trans (s_par_end (show 4 < 10 by decide) _ _ 998 1 rfl _ _))) (told' := (upd (upd told (4 * j) (nI 4)) (4 * j + 1) (rpv k inp 110 (p + 9)))) ?_ (by omega) (fun j' hj' => ⟨va_ne _ _ hj', by simp [va_ne, hj']⟩) (fun q hq => (upd_ne _ _ (by omega)).trans (upd_ne _ _ (by omega))) (by omega) ⟨4, by decide, va_up_self _ _ _, ?_, fun q hq => ?_⟩
    · unfold f_X13_commandHere
      rw [n114, obS, if_pos rfl, n99, obS, if_pos rfl, y116, obS, if_neg i10, joE, joE, wd, obS, if_neg i10, pl1, g0, obS, if_neg i10]
      exact if_neg (fun q => q narB1)
    · simp [upd]
    · have hq' : q = 0 := by
        have : npar 4 = 1 := rfl
        omega
      subst hq'
      rw [Nat.add_zero, upd_same, va_up_self, upd_same]
  · have hlN : ([104, 114, 101, 115, 104, 111, 108, 100] : List Nat).length = 8 := rfl
    rw [if_neg (show ¬ fit k inp (p + 1) [104, 114, 101, 115, 104, 111, 108, 100] + 1 = 9 by omega)] at hW
    rw [hlN, if_neg hf] at wd
    refine CB_fail (s_cmdN kinds vs hW) (pos := p + (fit k inp (p + 1) [104, 114, 101, 115, 104, 111, 108, 100] + 1)) (told' := upd told (4 * j) (nI 4)) ?_ (by omega) (fun j' _ => ⟨rfl, rfl⟩) (fun q hq => upd_ne _ _ (by omega))
    unfold f_X13_commandHere
    rw [n114, obS, if_pos rfl, n99, obS, if_pos rfl, y116, obS, if_neg i10, joE, joE, wd, obS, if_pos rfl, show p + 1 + fit k inp (p + 1) [104, 114, 101, 115, 104, 111, 108, 100] = p + (fit k inp (p + 1) [104, 114, 101, 115, 104, 111, 108, 100] + 1) by omega]
    exact if_neg (fun q => q narB0)
theorem cc_5 {k : Nat} {tsg inp : Nat → Int32} (h : TX k tsg inp) {p j : Nat} (hp : p ≤ k) (hj : j < 15) (kinds : Nat → Option Nat) (vs : Nat → Nat → Int32) (told : Nat → Int32) (hc : atb k inp p 119 = true) (hs : atb k inp (p + 1) 105 = false) : CB k tsg inp p j kinds vs told := by
  have hk := h.1
  have hp1 : p < 1000 := by omega
  have hpk : p + 1 ≤ k := (atb_iff.mp hc).1
  have n114 : f_X13_skips inp (nI k) (nI p) 114 = some (0, nI p) := sk0 hk hp1 (show 114 < 128 by decide) (atb_uniq (show 119 < 128 by decide) (show 114 < 128 by decide) hc (by decide))
  have n99 : f_X13_skips inp (nI k) (nI p) 99 = some (0, nI p) := sk0 hk hp1 (show 99 < 128 by decide) (atb_uniq (show 119 < 128 by decide) (show 99 < 128 by decide) hc (by decide))
  have n116 : f_X13_skips inp (nI k) (nI p) 116 = some (0, nI p) := sk0 hk hp1 (show 116 < 128 by decide) (atb_uniq (show 119 < 128 by decide) (show 116 < 128 by decide) hc (by decide))
  have n105 : f_X13_skips inp (nI k) (nI p) 105 = some (0, nI p) := sk0 hk hp1 (show 105 < 128 by decide) (atb_uniq (show 119 < 128 by decide) (show 105 < 128 by decide) hc (by decide))
  have n111 : f_X13_skips inp (nI k) (nI p) 111 = some (0, nI p) := sk0 hk hp1 (show 111 < 128 by decide) (atb_uniq (show 119 < 128 by decide) (show 111 < 128 by decide) hc (by decide))
  have n108 : f_X13_skips inp (nI k) (nI p) 108 = some (0, nI p) := sk0 hk hp1 (show 108 < 128 by decide) (atb_uniq (show 119 < 128 by decide) (show 108 < 128 by decide) hc (by decide))
  have n115 : f_X13_skips inp (nI k) (nI p) 115 = some (0, nI p) := sk0 hk hp1 (show 115 < 128 by decide) (atb_uniq (show 119 < 128 by decide) (show 115 < 128 by decide) hc (by decide))
  have y119 : f_X13_skips inp (nI k) (nI p) 119 = some (1, nI (p + 1)) := sk1 hk hp1 (show 119 < 128 by decide) hc
  have z105 : f_X13_skips inp (nI k) (nI (p + 1)) 105 = some (0, nI (p + 1)) := sk0 hk (show p + 1 < 1000 by omega) (show 105 < 128 by decide) hs
  have F : fit k inp p (kw 5) = fit k inp (p + 1) [101, 105, 103, 104, 116] + 1 := by
    show fit k inp p (119 :: [101, 105, 103, 104, 116]) = _
    rw [fit, if_pos hc]
  have G : fit k inp p (kw 7) = 1 := by
    show fit k inp p (119 :: 105 :: [116, 104, 100, 114, 97, 119]) = _
    rw [fit, if_pos hc, fit, if_neg]
    rw [hs]
    exact Bool.false_ne_true
  have hfl := fit_len k inp [101, 105, 103, 104, 116] (p + 1)
  have hle := fit_le (k := k) (inp := inp) [101, 105, 103, 104, 116] (p + 1) (by omega)
  have hlen : (kw 5).length = 6 := rfl
  have hW := s_word1 h (show p ≤ 60 by omega) (i := 5) (by decide) (fun j' hj' hne => by
    by_cases hh : heads j' = 119
    · have e : j' = 7 := (show ∀ j, j < 10 → heads j = 119 → j ≠ 5 → j = 7 by decide) j' hj' hh hne
      subst e
      rw [G, F]
      exact ⟨by omega, by decide⟩
    · rw [fit0 hj' (show 119 < 128 by decide) hc hh]
      exact ⟨Nat.zero_le _, by have := (kw_ok j' hj').2.2; omega⟩)
  have wd : f_X13_isWord inp (nI k) (nI (p + 1)) told (nI j) 5 ([101, 105, 103, 104, 116] : List Int32) = _ := m_isWord hk (show p + 1 ≤ 100 by omega) (b := [101, 105, 103, 104, 116]) (by decide) (by decide) told hj (nI 5)
  rw [F, hlen] at hW
  by_cases hf : fit k inp (p + 1) [101, 105, 103, 104, 116] = 5
  · have hlN : ([101, 105, 103, 104, 116] : List Nat).length = 5 := rfl
    rw [hf, if_pos (show 5 + 1 = 6 by decide)] at hW
    rw [hlN, if_pos hf, hf] at wd
    have hC := s_cmdW hj (show 5 < 10 by decide) kinds vs hW
    rw [show p + (5 + 1) = p + 6 by omega] at hC
    rw [show p + 1 + 5 = p + 6 by omega] at wd
    have hfit : p + 6 ≤ k := by omega
    have s0 := s_par_step h (q := 0) (f := 100) hj (show 5 < 10 by decide) rfl (show p + 6 ≤ 100 by omega) (fun x y => some ((1 : Int32), x, va_up kinds j (some 5), y)) (fun x y => some ((0 : Int32), x, va_up kinds j (some 5), y)) 999 (vs)
    have g0 : f_X13_figures inp (nI k) (nI (p + 6)) (upd told (4 * j) (nI 5)) (nI (4 * j + 1)) 1 = _ := m_fig hk (show p + 6 ≤ 100 by omega) (upd told (4 * j) (nI 5)) (show 4 * j + 1 < 124 by omega) (f := 100) (D := 1) (by decide)
    obtain ⟨b0, c0⟩ := rpp_le (k := k) (inp := inp) (f := 100) (p := p + 6) (by omega)
    by_cases o0 : rpo k inp 100 (p + 6) = true
    rotate_left
    · rw [if_neg o0] at s0
      rw [if_neg o0, if_neg o0] at g0
      refine CB_fail (hC.trans s0) (told' := (upd told (4 * j) (nI 5))) ?_ (by omega) (fun j' hj' => ⟨va_ne _ _ hj', rfl⟩) (fun q hq => upd_ne _ _ (by omega))
      unfold f_X13_commandHere
      rw [n114, obS, if_pos rfl, n99, obS, if_pos rfl, n116, obS, if_pos rfl, n105, obS, if_pos rfl, n111, obS, if_pos rfl, n108, obS, if_pos rfl, n115, obS, if_pos rfl, y119, obS, if_neg i10, joE, z105, obS, if_pos rfl, joE, wd, obS, if_neg i10, pl1, g0, obS, if_pos rfl]
      exact if_neg (fun q => q narB0)
    rw [if_pos o0] at s0
    rw [if_pos o0, if_pos o0] at g0
    have d0 := c0 o0
    have s1 := s_par_step h (q := 1) (f := 100) hj (show 5 < 10 by decide) rfl (show rpp k inp 100 (p + 6) ≤ 100 by omega) (fun x y => some ((1 : Int32), x, va_up kinds j (some 5), y)) (fun x y => some ((0 : Int32), x, va_up kinds j (some 5), y)) 998 (va_up (vs) j (upd ((vs) j) 0 (rpv k inp 100 (p + 6))))
    have g1 : f_X13_figures inp (nI k) (nI (rpp k inp 100 (p + 6))) (upd (upd told (4 * j) (nI 5)) (4 * j + 1) (rpv k inp 100 (p + 6))) (nI (4 * j + 2)) 1 = _ := m_fig hk (show rpp k inp 100 (p + 6) ≤ 100 by omega) (upd (upd told (4 * j) (nI 5)) (4 * j + 1) (rpv k inp 100 (p + 6))) (show 4 * j + 2 < 124 by omega) (f := 100) (D := 1) (by decide)
    obtain ⟨b1, c1⟩ := rpp_le (k := k) (inp := inp) (f := 100) (p := rpp k inp 100 (p + 6)) (by omega)
    by_cases o1 : rpo k inp 100 (rpp k inp 100 (p + 6)) = true
    rotate_left
    · rw [if_neg o1] at s1
      rw [if_neg o1, if_neg o1] at g1
      refine CB_fail (hC.trans (s0.trans s1)) (told' := (upd (upd told (4 * j) (nI 5)) (4 * j + 1) (rpv k inp 100 (p + 6)))) ?_ (by omega) (fun j' hj' => ⟨va_ne _ _ hj', by simp [va_ne, hj']⟩) (fun q hq => (upd_ne _ _ (by omega)).trans (upd_ne _ _ (by omega)))
      unfold f_X13_commandHere
      rw [n114, obS, if_pos rfl, n99, obS, if_pos rfl, n116, obS, if_pos rfl, n105, obS, if_pos rfl, n111, obS, if_pos rfl, n108, obS, if_pos rfl, n115, obS, if_pos rfl, y119, obS, if_neg i10, joE, z105, obS, if_pos rfl, joE, wd, obS, if_neg i10, pl1, g0, obS, if_neg i10, pl2, g1, obS, if_pos rfl]
      exact if_neg (fun q => q narB0)
    rw [if_pos o1] at s1
    rw [if_pos o1, if_pos o1] at g1
    have d1 := c1 o1
    have s2 := s_par_step h (q := 2) (f := 100) hj (show 5 < 10 by decide) rfl (show rpp k inp 100 (rpp k inp 100 (p + 6)) ≤ 100 by omega) (fun x y => some ((1 : Int32), x, va_up kinds j (some 5), y)) (fun x y => some ((0 : Int32), x, va_up kinds j (some 5), y)) 997 (va_up (va_up (vs) j (upd ((vs) j) 0 (rpv k inp 100 (p + 6)))) j (upd ((va_up (vs) j (upd ((vs) j) 0 (rpv k inp 100 (p + 6)))) j) 1 (rpv k inp 100 (rpp k inp 100 (p + 6)))))
    have g2 : f_X13_figures inp (nI k) (nI (rpp k inp 100 (rpp k inp 100 (p + 6)))) (upd (upd (upd told (4 * j) (nI 5)) (4 * j + 1) (rpv k inp 100 (p + 6))) (4 * j + 2) (rpv k inp 100 (rpp k inp 100 (p + 6)))) (nI (4 * j + 3)) 1 = _ := m_fig hk (show rpp k inp 100 (rpp k inp 100 (p + 6)) ≤ 100 by omega) (upd (upd (upd told (4 * j) (nI 5)) (4 * j + 1) (rpv k inp 100 (p + 6))) (4 * j + 2) (rpv k inp 100 (rpp k inp 100 (p + 6)))) (show 4 * j + 3 < 124 by omega) (f := 100) (D := 1) (by decide)
    obtain ⟨b2, c2⟩ := rpp_le (k := k) (inp := inp) (f := 100) (p := rpp k inp 100 (rpp k inp 100 (p + 6))) (by omega)
    by_cases o2 : rpo k inp 100 (rpp k inp 100 (rpp k inp 100 (p + 6))) = true
    rotate_left
    · rw [if_neg o2] at s2
      rw [if_neg o2, if_neg o2] at g2
      refine CB_fail (hC.trans (s0.trans (s1.trans s2))) (told' := (upd (upd (upd told (4 * j) (nI 5)) (4 * j + 1) (rpv k inp 100 (p + 6))) (4 * j + 2) (rpv k inp 100 (rpp k inp 100 (p + 6))))) ?_ (by omega) (fun j' hj' => ⟨va_ne _ _ hj', by simp [va_ne, hj']⟩) (fun q hq => ((upd_ne _ _ (by omega)).trans (upd_ne _ _ (by omega))).trans (upd_ne _ _ (by omega)))
      unfold f_X13_commandHere
      rw [n114, obS, if_pos rfl, n99, obS, if_pos rfl, n116, obS, if_pos rfl, n105, obS, if_pos rfl, n111, obS, if_pos rfl, n108, obS, if_pos rfl, n115, obS, if_pos rfl, y119, obS, if_neg i10, joE, z105, obS, if_pos rfl, joE, wd, obS, if_neg i10, pl1, g0, obS, if_neg i10, pl2, g1, obS, if_neg i10, pl3, g2, obS, if_pos rfl]
      exact if_neg (fun q => q narB0)
    rw [if_pos o2] at s2
    rw [if_pos o2, if_pos o2] at g2
    have d2 := c2 o2
    refine CB_ok (hC.trans (s0.trans (s1.trans (s2.trans (s_par_end (show 5 < 10 by decide) _ _ 996 3 rfl _ _))))) (told' := (upd (upd (upd (upd told (4 * j) (nI 5)) (4 * j + 1) (rpv k inp 100 (p + 6))) (4 * j + 2) (rpv k inp 100 (rpp k inp 100 (p + 6)))) (4 * j + 3) (rpv k inp 100 (rpp k inp 100 (rpp k inp 100 (p + 6)))))) ?_ (by omega) (fun j' hj' => ⟨va_ne _ _ hj', by simp [va_ne, hj']⟩) (fun q hq => (((upd_ne _ _ (by omega)).trans (upd_ne _ _ (by omega))).trans (upd_ne _ _ (by omega))).trans (upd_ne _ _ (by omega))) (by omega) ⟨5, by decide, va_up_self _ _ _, ?_, fun q hq => ?_⟩
    · unfold f_X13_commandHere
      rw [n114, obS, if_pos rfl, n99, obS, if_pos rfl, n116, obS, if_pos rfl, n105, obS, if_pos rfl, n111, obS, if_pos rfl, n108, obS, if_pos rfl, n115, obS, if_pos rfl, y119, obS, if_neg i10, joE, z105, obS, if_pos rfl, joE, wd, obS, if_neg i10, pl1, g0, obS, if_neg i10, pl2, g1, obS, if_neg i10, pl3, g2, obS, if_neg i10]
      exact if_neg (fun q => q narB1)
    · simp [upd]
    · have hq' : q = 0 ∨ q = 1 ∨ q = 2 := by
        have : npar 5 = 3 := rfl
        omega
      rcases hq' with rfl | rfl | rfl <;> simp [upd, va_up_self]
  · have hlN : ([101, 105, 103, 104, 116] : List Nat).length = 5 := rfl
    rw [if_neg (show ¬ fit k inp (p + 1) [101, 105, 103, 104, 116] + 1 = 6 by omega)] at hW
    rw [hlN, if_neg hf] at wd
    refine CB_fail (s_cmdN kinds vs hW) (pos := p + (fit k inp (p + 1) [101, 105, 103, 104, 116] + 1)) (told' := upd told (4 * j) (nI 5)) ?_ (by omega) (fun j' _ => ⟨rfl, rfl⟩) (fun q hq => upd_ne _ _ (by omega))
    unfold f_X13_commandHere
    rw [n114, obS, if_pos rfl, n99, obS, if_pos rfl, n116, obS, if_pos rfl, n105, obS, if_pos rfl, n111, obS, if_pos rfl, n108, obS, if_pos rfl, n115, obS, if_pos rfl, y119, obS, if_neg i10, joE, z105, obS, if_pos rfl, joE, wd, obS, if_pos rfl, show p + 1 + fit k inp (p + 1) [101, 105, 103, 104, 116] = p + (fit k inp (p + 1) [101, 105, 103, 104, 116] + 1) by omega]
    exact if_neg (fun q => q narB0)
theorem cc_6 {k : Nat} {tsg inp : Nat → Int32} (h : TX k tsg inp) {p j : Nat} (hp : p ≤ k) (hj : j < 15) (kinds : Nat → Option Nat) (vs : Nat → Nat → Int32) (told : Nat → Int32) (hc : atb k inp p 105 = true) : CB k tsg inp p j kinds vs told := by
  have hk := h.1
  have hp1 : p < 1000 := by omega
  have hpk : p + 1 ≤ k := (atb_iff.mp hc).1
  have n114 : f_X13_skips inp (nI k) (nI p) 114 = some (0, nI p) := sk0 hk hp1 (show 114 < 128 by decide) (atb_uniq (show 105 < 128 by decide) (show 114 < 128 by decide) hc (by decide))
  have n99 : f_X13_skips inp (nI k) (nI p) 99 = some (0, nI p) := sk0 hk hp1 (show 99 < 128 by decide) (atb_uniq (show 105 < 128 by decide) (show 99 < 128 by decide) hc (by decide))
  have n116 : f_X13_skips inp (nI k) (nI p) 116 = some (0, nI p) := sk0 hk hp1 (show 116 < 128 by decide) (atb_uniq (show 105 < 128 by decide) (show 116 < 128 by decide) hc (by decide))
  have y105 : f_X13_skips inp (nI k) (nI p) 105 = some (1, nI (p + 1)) := sk1 hk hp1 (show 105 < 128 by decide) hc
  have F : fit k inp p (kw 6) = fit k inp (p + 1) [115, 115, 117, 101] + 1 := by
    show fit k inp p (105 :: [115, 115, 117, 101]) = _
    rw [fit, if_pos hc]
  have hfl := fit_len k inp [115, 115, 117, 101] (p + 1)
  have hle := fit_le (k := k) (inp := inp) [115, 115, 117, 101] (p + 1) (by omega)
  have hlen : (kw 6).length = 5 := rfl
  have hW := s_word1 h (show p ≤ 60 by omega) (i := 6) (by decide) (fun j' hj' hne => by
    by_cases hh : heads j' = 105
    · exact absurd ((show ∀ j, j < 10 → heads j = 105 → j = 6 by decide) j' hj' hh) hne
    · rw [fit0 hj' (show 105 < 128 by decide) hc hh]
      exact ⟨Nat.zero_le _, by have := (kw_ok j' hj').2.2; omega⟩)
  have wd : f_X13_isWord inp (nI k) (nI (p + 1)) told (nI j) 6 ([115, 115, 117, 101] : List Int32) = _ := m_isWord hk (show p + 1 ≤ 100 by omega) (b := [115, 115, 117, 101]) (by decide) (by decide) told hj (nI 6)
  rw [F, hlen] at hW
  by_cases hf : fit k inp (p + 1) [115, 115, 117, 101] = 4
  · have hlN : ([115, 115, 117, 101] : List Nat).length = 4 := rfl
    rw [hf, if_pos (show 4 + 1 = 5 by decide)] at hW
    rw [hlN, if_pos hf, hf] at wd
    have hC := s_cmdW hj (show 6 < 10 by decide) kinds vs hW
    rw [show p + (4 + 1) = p + 5 by omega] at hC
    rw [show p + 1 + 4 = p + 5 by omega] at wd
    have hfit : p + 5 ≤ k := by omega
    have s0 := s_par_step h (q := 0) (f := 100) hj (show 6 < 10 by decide) rfl (show p + 5 ≤ 100 by omega) (fun x y => some ((1 : Int32), x, va_up kinds j (some 6), y)) (fun x y => some ((0 : Int32), x, va_up kinds j (some 6), y)) 999 (vs)
    have g0 : f_X13_figures inp (nI k) (nI (p + 5)) (upd told (4 * j) (nI 6)) (nI (4 * j + 1)) 1 = _ := m_fig hk (show p + 5 ≤ 100 by omega) (upd told (4 * j) (nI 6)) (show 4 * j + 1 < 124 by omega) (f := 100) (D := 1) (by decide)
    obtain ⟨b0, c0⟩ := rpp_le (k := k) (inp := inp) (f := 100) (p := p + 5) (by omega)
    by_cases o0 : rpo k inp 100 (p + 5) = true
    rotate_left
    · rw [if_neg o0] at s0
      rw [if_neg o0, if_neg o0] at g0
      refine CB_fail (hC.trans s0) (told' := (upd told (4 * j) (nI 6))) ?_ (by omega) (fun j' hj' => ⟨va_ne _ _ hj', rfl⟩) (fun q hq => upd_ne _ _ (by omega))
      unfold f_X13_commandHere
      rw [n114, obS, if_pos rfl, n99, obS, if_pos rfl, n116, obS, if_pos rfl, y105, obS, if_neg i10, joE, joE, wd, obS, if_neg i10, pl1, g0, obS, if_pos rfl]
      exact if_neg (fun q => q narB0)
    rw [if_pos o0] at s0
    rw [if_pos o0, if_pos o0] at g0
    have d0 := c0 o0
    refine CB_ok (hC.trans (s0.trans (s_par_end (show 6 < 10 by decide) _ _ 998 1 rfl _ _))) (told' := (upd (upd told (4 * j) (nI 6)) (4 * j + 1) (rpv k inp 100 (p + 5)))) ?_ (by omega) (fun j' hj' => ⟨va_ne _ _ hj', by simp [va_ne, hj']⟩) (fun q hq => (upd_ne _ _ (by omega)).trans (upd_ne _ _ (by omega))) (by omega) ⟨6, by decide, va_up_self _ _ _, ?_, fun q hq => ?_⟩
    · unfold f_X13_commandHere
      rw [n114, obS, if_pos rfl, n99, obS, if_pos rfl, n116, obS, if_pos rfl, y105, obS, if_neg i10, joE, joE, wd, obS, if_neg i10, pl1, g0, obS, if_neg i10]
      exact if_neg (fun q => q narB1)
    · simp [upd]
    · have hq' : q = 0 := by
        have : npar 6 = 1 := rfl
        omega
      subst hq'
      rw [Nat.add_zero, upd_same, va_up_self, upd_same]
  · have hlN : ([115, 115, 117, 101] : List Nat).length = 4 := rfl
    rw [if_neg (show ¬ fit k inp (p + 1) [115, 115, 117, 101] + 1 = 5 by omega)] at hW
    rw [hlN, if_neg hf] at wd
    refine CB_fail (s_cmdN kinds vs hW) (pos := p + (fit k inp (p + 1) [115, 115, 117, 101] + 1)) (told' := upd told (4 * j) (nI 6)) ?_ (by omega) (fun j' _ => ⟨rfl, rfl⟩) (fun q hq => upd_ne _ _ (by omega))
    unfold f_X13_commandHere
    rw [n114, obS, if_pos rfl, n99, obS, if_pos rfl, n116, obS, if_pos rfl, y105, obS, if_neg i10, joE, joE, wd, obS, if_pos rfl, show p + 1 + fit k inp (p + 1) [115, 115, 117, 101] = p + (fit k inp (p + 1) [115, 115, 117, 101] + 1) by omega]
    exact if_neg (fun q => q narB0)
theorem cc_7 {k : Nat} {tsg inp : Nat → Int32} (h : TX k tsg inp) {p j : Nat} (hp : p ≤ k) (hj : j < 15) (kinds : Nat → Option Nat) (vs : Nat → Nat → Int32) (told : Nat → Int32) (hc : atb k inp p 119 = true) (hs : atb k inp (p + 1) 105 = true) : CB k tsg inp p j kinds vs told := by
  have hk := h.1
  have hp1 : p < 1000 := by omega
  have hpk : p + 1 ≤ k := (atb_iff.mp hc).1
  have n114 : f_X13_skips inp (nI k) (nI p) 114 = some (0, nI p) := sk0 hk hp1 (show 114 < 128 by decide) (atb_uniq (show 119 < 128 by decide) (show 114 < 128 by decide) hc (by decide))
  have n99 : f_X13_skips inp (nI k) (nI p) 99 = some (0, nI p) := sk0 hk hp1 (show 99 < 128 by decide) (atb_uniq (show 119 < 128 by decide) (show 99 < 128 by decide) hc (by decide))
  have n116 : f_X13_skips inp (nI k) (nI p) 116 = some (0, nI p) := sk0 hk hp1 (show 116 < 128 by decide) (atb_uniq (show 119 < 128 by decide) (show 116 < 128 by decide) hc (by decide))
  have n105 : f_X13_skips inp (nI k) (nI p) 105 = some (0, nI p) := sk0 hk hp1 (show 105 < 128 by decide) (atb_uniq (show 119 < 128 by decide) (show 105 < 128 by decide) hc (by decide))
  have n111 : f_X13_skips inp (nI k) (nI p) 111 = some (0, nI p) := sk0 hk hp1 (show 111 < 128 by decide) (atb_uniq (show 119 < 128 by decide) (show 111 < 128 by decide) hc (by decide))
  have n108 : f_X13_skips inp (nI k) (nI p) 108 = some (0, nI p) := sk0 hk hp1 (show 108 < 128 by decide) (atb_uniq (show 119 < 128 by decide) (show 108 < 128 by decide) hc (by decide))
  have n115 : f_X13_skips inp (nI k) (nI p) 115 = some (0, nI p) := sk0 hk hp1 (show 115 < 128 by decide) (atb_uniq (show 119 < 128 by decide) (show 115 < 128 by decide) hc (by decide))
  have y119 : f_X13_skips inp (nI k) (nI p) 119 = some (1, nI (p + 1)) := sk1 hk hp1 (show 119 < 128 by decide) hc
  have hpk2 : p + 1 + 1 ≤ k := (atb_iff.mp hs).1
  have z105 : f_X13_skips inp (nI k) (nI (p + 1)) 105 = some (1, nI (p + 1 + 1)) := sk1 hk (show p + 1 < 1000 by omega) (show 105 < 128 by decide) hs
  have F : fit k inp p (kw 7) = fit k inp (p + 1 + 1) [116, 104, 100, 114, 97, 119] + 2 := by
    show fit k inp p (119 :: 105 :: [116, 104, 100, 114, 97, 119]) = _
    rw [fit, if_pos hc, fit, if_pos hs]
  have G : fit k inp p (kw 5) = 1 := by
    show fit k inp p (119 :: 101 :: [105, 103, 104, 116]) = _
    rw [fit, if_pos hc, fit, if_neg]
    rw [atb_uniq (show 105 < 128 by decide) (show 101 < 128 by decide) hs (by decide)]
    exact Bool.false_ne_true
  have hfl := fit_len k inp [116, 104, 100, 114, 97, 119] (p + 1 + 1)
  have hle := fit_le (k := k) (inp := inp) [116, 104, 100, 114, 97, 119] (p + 1 + 1) (by omega)
  have hlen : (kw 7).length = 8 := rfl
  have hW := s_word1 h (show p ≤ 60 by omega) (i := 7) (by decide) (fun j' hj' hne => by
    by_cases hh : heads j' = 119
    · have e : j' = 5 := (show ∀ j, j < 10 → heads j = 119 → j ≠ 7 → j = 5 by decide) j' hj' hh hne
      subst e
      rw [G, F]
      exact ⟨by omega, by decide⟩
    · rw [fit0 hj' (show 119 < 128 by decide) hc hh]
      exact ⟨Nat.zero_le _, by have := (kw_ok j' hj').2.2; omega⟩)
  have wd : f_X13_isWord inp (nI k) (nI (p + 1 + 1)) told (nI j) 7 ([116, 104, 100, 114, 97, 119] : List Int32) = _ := m_isWord hk (show p + 1 + 1 ≤ 100 by omega) (b := [116, 104, 100, 114, 97, 119]) (by decide) (by decide) told hj (nI 7)
  rw [F, hlen] at hW
  by_cases hf : fit k inp (p + 1 + 1) [116, 104, 100, 114, 97, 119] = 6
  · have hlN : ([116, 104, 100, 114, 97, 119] : List Nat).length = 6 := rfl
    rw [hf, if_pos (show 6 + 2 = 8 by decide)] at hW
    rw [hlN, if_pos hf, hf] at wd
    have hC := s_cmdW hj (show 7 < 10 by decide) kinds vs hW
    rw [show p + (6 + 2) = p + 8 by omega] at hC
    rw [show p + 1 + 1 + 6 = p + 8 by omega] at wd
    have hfit : p + 8 ≤ k := by omega
    have s0 := s_par_step h (q := 0) (f := 100) hj (show 7 < 10 by decide) rfl (show p + 8 ≤ 100 by omega) (fun x y => some ((1 : Int32), x, va_up kinds j (some 7), y)) (fun x y => some ((0 : Int32), x, va_up kinds j (some 7), y)) 999 (vs)
    have g0 : f_X13_figures inp (nI k) (nI (p + 8)) (upd told (4 * j) (nI 7)) (nI (4 * j + 1)) 1 = _ := m_fig hk (show p + 8 ≤ 100 by omega) (upd told (4 * j) (nI 7)) (show 4 * j + 1 < 124 by omega) (f := 100) (D := 1) (by decide)
    obtain ⟨b0, c0⟩ := rpp_le (k := k) (inp := inp) (f := 100) (p := p + 8) (by omega)
    by_cases o0 : rpo k inp 100 (p + 8) = true
    rotate_left
    · rw [if_neg o0] at s0
      rw [if_neg o0, if_neg o0] at g0
      refine CB_fail (hC.trans s0) (told' := (upd told (4 * j) (nI 7))) ?_ (by omega) (fun j' hj' => ⟨va_ne _ _ hj', rfl⟩) (fun q hq => upd_ne _ _ (by omega))
      unfold f_X13_commandHere
      rw [n114, obS, if_pos rfl, n99, obS, if_pos rfl, n116, obS, if_pos rfl, n105, obS, if_pos rfl, n111, obS, if_pos rfl, n108, obS, if_pos rfl, n115, obS, if_pos rfl, y119, obS, if_neg i10, joE, z105, obS, if_neg i10, joE, wd, obS, if_neg i10, pl1, g0, obS, if_pos rfl]
      exact if_neg (fun q => q narB0)
    rw [if_pos o0] at s0
    rw [if_pos o0, if_pos o0] at g0
    have d0 := c0 o0
    refine CB_ok (hC.trans (s0.trans (s_par_end (show 7 < 10 by decide) _ _ 998 1 rfl _ _))) (told' := (upd (upd told (4 * j) (nI 7)) (4 * j + 1) (rpv k inp 100 (p + 8)))) ?_ (by omega) (fun j' hj' => ⟨va_ne _ _ hj', by simp [va_ne, hj']⟩) (fun q hq => (upd_ne _ _ (by omega)).trans (upd_ne _ _ (by omega))) (by omega) ⟨7, by decide, va_up_self _ _ _, ?_, fun q hq => ?_⟩
    · unfold f_X13_commandHere
      rw [n114, obS, if_pos rfl, n99, obS, if_pos rfl, n116, obS, if_pos rfl, n105, obS, if_pos rfl, n111, obS, if_pos rfl, n108, obS, if_pos rfl, n115, obS, if_pos rfl, y119, obS, if_neg i10, joE, z105, obS, if_neg i10, joE, wd, obS, if_neg i10, pl1, g0, obS, if_neg i10]
      exact if_neg (fun q => q narB1)
    · simp [upd]
    · have hq' : q = 0 := by
        have : npar 7 = 1 := rfl
        omega
      subst hq'
      rw [Nat.add_zero, upd_same, va_up_self, upd_same]
  · have hlN : ([116, 104, 100, 114, 97, 119] : List Nat).length = 6 := rfl
    rw [if_neg (show ¬ fit k inp (p + 1 + 1) [116, 104, 100, 114, 97, 119] + 2 = 8 by omega)] at hW
    rw [hlN, if_neg hf] at wd
    refine CB_fail (s_cmdN kinds vs hW) (pos := p + (fit k inp (p + 1 + 1) [116, 104, 100, 114, 97, 119] + 2)) (told' := upd told (4 * j) (nI 7)) ?_ (by omega) (fun j' _ => ⟨rfl, rfl⟩) (fun q hq => upd_ne _ _ (by omega))
    unfold f_X13_commandHere
    rw [n114, obS, if_pos rfl, n99, obS, if_pos rfl, n116, obS, if_pos rfl, n105, obS, if_pos rfl, n111, obS, if_pos rfl, n108, obS, if_pos rfl, n115, obS, if_pos rfl, y119, obS, if_neg i10, joE, z105, obS, if_neg i10, joE, wd, obS, if_pos rfl, show p + 1 + 1 + fit k inp (p + 1 + 1) [116, 104, 100, 114, 97, 119] = p + (fit k inp (p + 1 + 1) [116, 104, 100, 114, 97, 119] + 2) by omega]
    exact if_neg (fun q => q narB0)
theorem cc_8 {k : Nat} {tsg inp : Nat → Int32} (h : TX k tsg inp) {p j : Nat} (hp : p ≤ k) (hj : j < 15) (kinds : Nat → Option Nat) (vs : Nat → Nat → Int32) (told : Nat → Int32) (hc : atb k inp p 111 = true) : CB k tsg inp p j kinds vs told := by
  have hk := h.1
  have hp1 : p < 1000 := by omega
  have hpk : p + 1 ≤ k := (atb_iff.mp hc).1
  have n114 : f_X13_skips inp (nI k) (nI p) 114 = some (0, nI p) := sk0 hk hp1 (show 114 < 128 by decide) (atb_uniq (show 111 < 128 by decide) (show 114 < 128 by decide) hc (by decide))
  have n99 : f_X13_skips inp (nI k) (nI p) 99 = some (0, nI p) := sk0 hk hp1 (show 99 < 128 by decide) (atb_uniq (show 111 < 128 by decide) (show 99 < 128 by decide) hc (by decide))
  have n116 : f_X13_skips inp (nI k) (nI p) 116 = some (0, nI p) := sk0 hk hp1 (show 116 < 128 by decide) (atb_uniq (show 111 < 128 by decide) (show 116 < 128 by decide) hc (by decide))
  have n105 : f_X13_skips inp (nI k) (nI p) 105 = some (0, nI p) := sk0 hk hp1 (show 105 < 128 by decide) (atb_uniq (show 111 < 128 by decide) (show 105 < 128 by decide) hc (by decide))
  have y111 : f_X13_skips inp (nI k) (nI p) 111 = some (1, nI (p + 1)) := sk1 hk hp1 (show 111 < 128 by decide) hc
  have F : fit k inp p (kw 8) = fit k inp (p + 1) [98, 115, 101, 114, 118, 101] + 1 := by
    show fit k inp p (111 :: [98, 115, 101, 114, 118, 101]) = _
    rw [fit, if_pos hc]
  have hfl := fit_len k inp [98, 115, 101, 114, 118, 101] (p + 1)
  have hle := fit_le (k := k) (inp := inp) [98, 115, 101, 114, 118, 101] (p + 1) (by omega)
  have hlen : (kw 8).length = 7 := rfl
  have hW := s_word1 h (show p ≤ 60 by omega) (i := 8) (by decide) (fun j' hj' hne => by
    by_cases hh : heads j' = 111
    · exact absurd ((show ∀ j, j < 10 → heads j = 111 → j = 8 by decide) j' hj' hh) hne
    · rw [fit0 hj' (show 111 < 128 by decide) hc hh]
      exact ⟨Nat.zero_le _, by have := (kw_ok j' hj').2.2; omega⟩)
  have wd : f_X13_isWord inp (nI k) (nI (p + 1)) told (nI j) 8 ([98, 115, 101, 114, 118, 101] : List Int32) = _ := m_isWord hk (show p + 1 ≤ 100 by omega) (b := [98, 115, 101, 114, 118, 101]) (by decide) (by decide) told hj (nI 8)
  rw [F, hlen] at hW
  by_cases hf : fit k inp (p + 1) [98, 115, 101, 114, 118, 101] = 6
  · have hlN : ([98, 115, 101, 114, 118, 101] : List Nat).length = 6 := rfl
    rw [hf, if_pos (show 6 + 1 = 7 by decide)] at hW
    rw [hlN, if_pos hf, hf] at wd
    have hC := s_cmdW hj (show 8 < 10 by decide) kinds vs hW
    rw [show p + (6 + 1) = p + 7 by omega] at hC
    rw [show p + 1 + 6 = p + 7 by omega] at wd
    have hfit : p + 7 ≤ k := by omega
    have s0 := s_par_step h (q := 0) (f := 100) hj (show 8 < 10 by decide) rfl (show p + 7 ≤ 100 by omega) (fun x y => some ((1 : Int32), x, va_up kinds j (some 8), y)) (fun x y => some ((0 : Int32), x, va_up kinds j (some 8), y)) 999 (vs)
    have g0 : f_X13_figures inp (nI k) (nI (p + 7)) (upd told (4 * j) (nI 8)) (nI (4 * j + 1)) 1 = _ := m_fig hk (show p + 7 ≤ 100 by omega) (upd told (4 * j) (nI 8)) (show 4 * j + 1 < 124 by omega) (f := 100) (D := 1) (by decide)
    obtain ⟨b0, c0⟩ := rpp_le (k := k) (inp := inp) (f := 100) (p := p + 7) (by omega)
    by_cases o0 : rpo k inp 100 (p + 7) = true
    rotate_left
    · rw [if_neg o0] at s0
      rw [if_neg o0, if_neg o0] at g0
      refine CB_fail (hC.trans s0) (told' := (upd told (4 * j) (nI 8))) ?_ (by omega) (fun j' hj' => ⟨va_ne _ _ hj', rfl⟩) (fun q hq => upd_ne _ _ (by omega))
      unfold f_X13_commandHere
      rw [n114, obS, if_pos rfl, n99, obS, if_pos rfl, n116, obS, if_pos rfl, n105, obS, if_pos rfl, y111, obS, if_neg i10, joE, joE, wd, obS, if_neg i10, pl1, g0, obS, if_pos rfl]
      exact if_neg (fun q => q narB0)
    rw [if_pos o0] at s0
    rw [if_pos o0, if_pos o0] at g0
    have d0 := c0 o0
    refine CB_ok (hC.trans (s0.trans (s_par_end (show 8 < 10 by decide) _ _ 998 1 rfl _ _))) (told' := (upd (upd told (4 * j) (nI 8)) (4 * j + 1) (rpv k inp 100 (p + 7)))) ?_ (by omega) (fun j' hj' => ⟨va_ne _ _ hj', by simp [va_ne, hj']⟩) (fun q hq => (upd_ne _ _ (by omega)).trans (upd_ne _ _ (by omega))) (by omega) ⟨8, by decide, va_up_self _ _ _, ?_, fun q hq => ?_⟩
    · unfold f_X13_commandHere
      rw [n114, obS, if_pos rfl, n99, obS, if_pos rfl, n116, obS, if_pos rfl, n105, obS, if_pos rfl, y111, obS, if_neg i10, joE, joE, wd, obS, if_neg i10, pl1, g0, obS, if_neg i10]
      exact if_neg (fun q => q narB1)
    · simp [upd]
    · have hq' : q = 0 := by
        have : npar 8 = 1 := rfl
        omega
      subst hq'
      rw [Nat.add_zero, upd_same, va_up_self, upd_same]
  · have hlN : ([98, 115, 101, 114, 118, 101] : List Nat).length = 6 := rfl
    rw [if_neg (show ¬ fit k inp (p + 1) [98, 115, 101, 114, 118, 101] + 1 = 7 by omega)] at hW
    rw [hlN, if_neg hf] at wd
    refine CB_fail (s_cmdN kinds vs hW) (pos := p + (fit k inp (p + 1) [98, 115, 101, 114, 118, 101] + 1)) (told' := upd told (4 * j) (nI 8)) ?_ (by omega) (fun j' _ => ⟨rfl, rfl⟩) (fun q hq => upd_ne _ _ (by omega))
    unfold f_X13_commandHere
    rw [n114, obS, if_pos rfl, n99, obS, if_pos rfl, n116, obS, if_pos rfl, n105, obS, if_pos rfl, y111, obS, if_neg i10, joE, joE, wd, obS, if_pos rfl, show p + 1 + fit k inp (p + 1) [98, 115, 101, 114, 118, 101] = p + (fit k inp (p + 1) [98, 115, 101, 114, 118, 101] + 1) by omega]
    exact if_neg (fun q => q narB0)
theorem cc_9 {k : Nat} {tsg inp : Nat → Int32} (h : TX k tsg inp) {p j : Nat} (hp : p ≤ k) (hj : j < 15) (kinds : Nat → Option Nat) (vs : Nat → Nat → Int32) (told : Nat → Int32) (hc : atb k inp p 108 = true) : CB k tsg inp p j kinds vs told := by
  have hk := h.1
  have hp1 : p < 1000 := by omega
  have hpk : p + 1 ≤ k := (atb_iff.mp hc).1
  have n114 : f_X13_skips inp (nI k) (nI p) 114 = some (0, nI p) := sk0 hk hp1 (show 114 < 128 by decide) (atb_uniq (show 108 < 128 by decide) (show 114 < 128 by decide) hc (by decide))
  have n99 : f_X13_skips inp (nI k) (nI p) 99 = some (0, nI p) := sk0 hk hp1 (show 99 < 128 by decide) (atb_uniq (show 108 < 128 by decide) (show 99 < 128 by decide) hc (by decide))
  have n116 : f_X13_skips inp (nI k) (nI p) 116 = some (0, nI p) := sk0 hk hp1 (show 116 < 128 by decide) (atb_uniq (show 108 < 128 by decide) (show 116 < 128 by decide) hc (by decide))
  have n105 : f_X13_skips inp (nI k) (nI p) 105 = some (0, nI p) := sk0 hk hp1 (show 105 < 128 by decide) (atb_uniq (show 108 < 128 by decide) (show 105 < 128 by decide) hc (by decide))
  have n111 : f_X13_skips inp (nI k) (nI p) 111 = some (0, nI p) := sk0 hk hp1 (show 111 < 128 by decide) (atb_uniq (show 108 < 128 by decide) (show 111 < 128 by decide) hc (by decide))
  have y108 : f_X13_skips inp (nI k) (nI p) 108 = some (1, nI (p + 1)) := sk1 hk hp1 (show 108 < 128 by decide) hc
  have F : fit k inp p (kw 9) = fit k inp (p + 1) [111, 111, 107] + 1 := by
    show fit k inp p (108 :: [111, 111, 107]) = _
    rw [fit, if_pos hc]
  have hfl := fit_len k inp [111, 111, 107] (p + 1)
  have hle := fit_le (k := k) (inp := inp) [111, 111, 107] (p + 1) (by omega)
  have hlen : (kw 9).length = 4 := rfl
  have hW := s_word1 h (show p ≤ 60 by omega) (i := 9) (by decide) (fun j' hj' hne => by
    by_cases hh : heads j' = 108
    · exact absurd ((show ∀ j, j < 10 → heads j = 108 → j = 9 by decide) j' hj' hh) hne
    · rw [fit0 hj' (show 108 < 128 by decide) hc hh]
      exact ⟨Nat.zero_le _, by have := (kw_ok j' hj').2.2; omega⟩)
  have wd : f_X13_isWord inp (nI k) (nI (p + 1)) told (nI j) 9 ([111, 111, 107] : List Int32) = _ := m_isWord hk (show p + 1 ≤ 100 by omega) (b := [111, 111, 107]) (by decide) (by decide) told hj (nI 9)
  rw [F, hlen] at hW
  by_cases hf : fit k inp (p + 1) [111, 111, 107] = 3
  · have hlN : ([111, 111, 107] : List Nat).length = 3 := rfl
    rw [hf, if_pos (show 3 + 1 = 4 by decide)] at hW
    rw [hlN, if_pos hf, hf] at wd
    have hC := s_cmdW hj (show 9 < 10 by decide) kinds vs hW
    rw [show p + (3 + 1) = p + 4 by omega] at hC
    rw [show p + 1 + 3 = p + 4 by omega] at wd
    rw [s_par_end (show 9 < 10 by decide) _ _ 999 0 rfl] at hC
    refine CB_ok hC (told' := upd told (4 * j) (nI 9)) ?_ (by omega) (fun j' hj' => ⟨va_ne _ _ hj', rfl⟩) (fun q hq => upd_ne _ _ (by omega)) (by omega) ⟨9, by decide, va_up_self _ _ _, upd_same _ _ _, fun q hq => absurd hq (Nat.not_lt_zero q)⟩
    unfold f_X13_commandHere
    rw [n114, obS, if_pos rfl, n99, obS, if_pos rfl, n116, obS, if_pos rfl, n105, obS, if_pos rfl, n111, obS, if_pos rfl, y108, obS, if_neg i10, wd, obS]
    exact if_neg (fun q => q narB1)
  · have hlN : ([111, 111, 107] : List Nat).length = 3 := rfl
    rw [if_neg (show ¬ fit k inp (p + 1) [111, 111, 107] + 1 = 4 by omega)] at hW
    rw [hlN, if_neg hf] at wd
    refine CB_fail (s_cmdN kinds vs hW) (pos := p + (fit k inp (p + 1) [111, 111, 107] + 1)) (told' := upd told (4 * j) (nI 9)) ?_ (by omega) (fun j' _ => ⟨rfl, rfl⟩) (fun q hq => upd_ne _ _ (by omega))
    unfold f_X13_commandHere
    rw [n114, obS, if_pos rfl, n99, obS, if_pos rfl, n116, obS, if_pos rfl, n105, obS, if_pos rfl, n111, obS, if_pos rfl, y108, obS, if_neg i10, wd, obS, show p + 1 + fit k inp (p + 1) [111, 111, 107] = p + (fit k inp (p + 1) [111, 111, 107] + 1) by omega]
    exact if_neg (fun q => q narB0)
theorem cmd_both {k : Nat} {tsg inp : Nat → Int32} (h : TX k tsg inp) {p j : Nat} (hp : p ≤ k) (hj : j < 15) (kinds : Nat → Option Nat) (vs : Nat → Nat → Int32) (told : Nat → Int32) : CB k tsg inp p j kinds vs told := by
  have hk := h.1
  have hp1 : p < 1000 := by omega
  cases c114 : atb k inp p 114 with
  | true => exact cc_1 h hp hj kinds vs told c114
  | false =>
  cases c99 : atb k inp p 99 with
  | true => exact cc_2 h hp hj kinds vs told c99
  | false =>
  cases c116 : atb k inp p 116 with
  | true => exact cc_4 h hp hj kinds vs told c116
  | false =>
  cases c105 : atb k inp p 105 with
  | true => exact cc_6 h hp hj kinds vs told c105
  | false =>
  cases c111 : atb k inp p 111 with
  | true => exact cc_8 h hp hj kinds vs told c111
  | false =>
  cases c108 : atb k inp p 108 with
  | true => exact cc_9 h hp hj kinds vs told c108
  | false =>
  cases c115 : atb k inp p 115 with
  | true =>
    cases s104 : atb k inp (p + 1) 104 with
    | true => exact cc_3 h hp hj kinds vs told c115 s104
    | false => exact cc_0 h hp hj kinds vs told c115 s104
  | false =>
  cases c119 : atb k inp p 119 with
  | true =>
    cases s105 : atb k inp (p + 1) 105 with
    | true => exact cc_7 h hp hj kinds vs told c119 s105
    | false => exact cc_5 h hp hj kinds vs told c119 s105
  | false =>
  have hF : ∀ j, j < 10 → fit k inp p (kw j) = 0 := fun j hj => by
    obtain ⟨e, -⟩ := kw_head j hj
    rw [e, fit, if_neg]
    have hd : heads j = 114 ∨ heads j = 99 ∨ heads j = 116 ∨ heads j = 105 ∨ heads j = 111 ∨ heads j = 108 ∨ heads j = 115 ∨ heads j = 119 := (show ∀ j, j < 10 → heads j = 114 ∨ heads j = 99 ∨ heads j = 116 ∨ heads j = 105 ∨ heads j = 111 ∨ heads j = 108 ∨ heads j = 115 ∨ heads j = 119 by decide) j hj
    rcases hd with q | q | q | q | q | q | q | q <;> rw [q] <;> simp [*]
  refine CB_fail (s_cmdN kinds vs (s_word0 h (by omega) hF)) (told' := told) ?_ hp (fun j' _ => ⟨rfl, rfl⟩) (fun q _ => rfl)
  unfold f_X13_commandHere
  have n114 : f_X13_skips inp (nI k) (nI p) 114 = some (0, nI p) := sk0 hk hp1 (show 114 < 128 by decide) c114
  have n99 : f_X13_skips inp (nI k) (nI p) 99 = some (0, nI p) := sk0 hk hp1 (show 99 < 128 by decide) c99
  have n116 : f_X13_skips inp (nI k) (nI p) 116 = some (0, nI p) := sk0 hk hp1 (show 116 < 128 by decide) c116
  have n105 : f_X13_skips inp (nI k) (nI p) 105 = some (0, nI p) := sk0 hk hp1 (show 105 < 128 by decide) c105
  have n111 : f_X13_skips inp (nI k) (nI p) 111 = some (0, nI p) := sk0 hk hp1 (show 111 < 128 by decide) c111
  have n108 : f_X13_skips inp (nI k) (nI p) 108 = some (0, nI p) := sk0 hk hp1 (show 108 < 128 by decide) c108
  have n115 : f_X13_skips inp (nI k) (nI p) 115 = some (0, nI p) := sk0 hk hp1 (show 115 < 128 by decide) c115
  have n119 : f_X13_skips inp (nI k) (nI p) 119 = some (0, nI p) := sk0 hk hp1 (show 119 < 128 by decide) c119
  rw [n114, obS, if_pos rfl, n99, obS, if_pos rfl, n116, obS, if_pos rfl, n105, obS, if_pos rfl, n111, obS, if_pos rfl, n108, obS, if_pos rfl, n115, obS, if_pos rfl, n119, obS, if_pos rfl]
