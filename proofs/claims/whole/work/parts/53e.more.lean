/-! shifting, typing, the line -/
/-- as equations that simp does not take for computations: else the kernel runs the loops' fuel -/
theorem joE {α β : Type} (k : α) (b : α → β) : jo k b = b k := by
  have h : ∀ x : β, x = b k → x = b k := fun _ h => h
  exact h _ (by unfold jo; rfl)
theorem obS {α β : Type} (a : α) (f : α → Option β) : (some a).bind f = f a := by
  have h : ∀ x : Option β, x = f a → x = f a := fun _ h => h
  exact h _ rfl
theorem narC : ∀ v, v < 128 → vp_nar .char (nI v) = nI v := by decide +kernel
theorem sg_rng {c : Nat → Int32} (h : Rng c) {s : Nat → Nat} (hs : ∀ j, j < 25 → s j < 25) {c' : Nat → Int32} (e : ∀ j, j < 25 → c' j = c (s j)) : Rng c' := fun k hk => by
  obtain ⟨v, hv, ev⟩ := h (s k) (hs k hk)
  exact ⟨v, hv, (e k hk).trans ev⟩
theorem sgN_lt : ∀ j, j < 25 → sgN j < 25 := by decide
theorem sgS_lt : ∀ j, j < 25 → sgS j < 25 := by decide
theorem sgE_lt : ∀ j, j < 25 → sgE j < 25 := by decide
theorem sgW_lt : ∀ j, j < 25 → sgW j < 25 := by decide
theorem s_isDirection (a : Int32) : f_X10_isDirection a = some (if a = 110 ∨ a = 101 ∨ a = 115 ∨ a = 119 then 1 else 0) := by
  unfold f_X10_isDirection
  rw [jo]
  rw [jo]
  by_cases h1 : a = 110
  · rw [if_pos h1, if_pos (Or.inl h1)]; exact if_neg (fun q => q narB1)
  · by_cases h2 : a = 101
    · rw [if_neg h1, if_pos h2, if_pos (Or.inr (Or.inl h2))]; exact if_neg (fun q => q narB1)
    · by_cases h3 : a = 115
      · rw [if_neg h1, if_neg h2, if_pos h3, if_pos (Or.inr (Or.inr (Or.inl h3)))]; exact if_neg (fun q => q narB1)
      · by_cases h4 : a = 119
        · rw [if_neg h1, if_neg h2, if_neg h3, if_pos h4, if_pos (Or.inr (Or.inr (Or.inr h4)))]; exact if_neg (fun q => q narB1)
        · rw [if_neg h1, if_neg h2, if_neg h3, if_neg h4, if_neg (fun q => q.elim h1 (fun q => q.elim h2 (fun q => q.elim h3 h4)))]; exact if_neg (fun q => q narB0)
/-- one shift of the model, given the way's rows and columns -/
theorem m_shiftTail {g kept was kept' c c' : Nat → Int32} {ch ct' : Int32} {R C : Nat} (hR : R < 5) (hC : C < 5) (hg : ∀ k, k < 25 → g (7 + k) = c k) (hc : ∀ j, j < 25 → SHN R C (looksOf g was) 25 0 g (7 + j) = c' j) :
    f_X13_shift_79 (looksOf g was) (nI R) (nI C) (fun x => (f_X13_others x (looksOf g was)).bind fun r => some (r, x, kept', looksOf g was, ct', 0)) 1000 0 g = some (dsum c c', SHN R C (looksOf g was) 25 0 g, kept', looksOf g was, ct', 0) := by
  refine (m_shift_go hR hC (looksOf g was) _ 25 0 1000 g rfl (by decide)).trans ?_
  rw [m_others (looks_same hg) hc, Option.bind_some]
theorem m_shift_n {g kept was kept' c : Nat → Int32} {ch ct' code wi : Int32} (hk : ∀ code, f_X13_keeps__g g kept ch wi code = some (kept', ct', 0)) (hg : ∀ k, k < 25 → g (7 + k) = c k) :
    f_X13_shift g kept was ch wi code 110 = some (dsum c (SLL ixN 5 0 (0, c)).2, SHN 4 0 (looksOf g was) 25 0 g, kept', looksOf g was, ct', 0) := by
  have hc : ∀ j, j < 25 → SHN 4 0 (looksOf g was) 25 0 g (7 + j) = (SLL ixN 5 0 (0, c)).2 j := fun j hj => by
    rw [SHN_n _ _ j hj, looks_same hg _ (sgN_lt j hj), slideN_get c j hj]
  have ht := m_shiftTail (kept := kept) (ch := ch) (kept' := kept') (ct' := ct') (R := 4) (C := 0) (by decide) (by decide) hg hc
  unfold f_X13_shift
  have n1 : ((110 : Int32) = 110) = True := eq_true rfl
  have n2 : ((110 : Int32) = 115) = False := eq_false (by decide)
  have n3 : ((110 : Int32) = 119) = False := eq_false (by decide)
  have n4 : ((110 : Int32) = 101) = False := eq_false (by decide)
  have n5 : ((4 : Int32) + 0 = 0) = False := eq_false (by decide)
  simp only [joE, n1, n2, n3, n4, n5, if_true, if_false, m_fails0, obS, m_looks, hk]
  exact ht
theorem m_shift_s {g kept was kept' c : Nat → Int32} {ch ct' code wi : Int32} (hk : ∀ code, f_X13_keeps__g g kept ch wi code = some (kept', ct', 0)) (hg : ∀ k, k < 25 → g (7 + k) = c k) :
    f_X13_shift g kept was ch wi code 115 = some (dsum c (SLL ixS 5 0 (0, c)).2, SHN 1 0 (looksOf g was) 25 0 g, kept', looksOf g was, ct', 0) := by
  have hc : ∀ j, j < 25 → SHN 1 0 (looksOf g was) 25 0 g (7 + j) = (SLL ixS 5 0 (0, c)).2 j := fun j hj => by
    rw [SHN_s _ _ j hj, looks_same hg _ (sgS_lt j hj), slideS_get c j hj]
  have ht := m_shiftTail (kept := kept) (ch := ch) (kept' := kept') (ct' := ct') (R := 1) (C := 0) (by decide) (by decide) hg hc
  unfold f_X13_shift
  have n1 : ((115 : Int32) = 110) = False := eq_false (by decide)
  have n2 : ((115 : Int32) = 115) = True := eq_true rfl
  have n3 : ((115 : Int32) = 119) = False := eq_false (by decide)
  have n4 : ((115 : Int32) = 101) = False := eq_false (by decide)
  have n5 : ((1 : Int32) + 0 = 0) = False := eq_false (by decide)
  simp only [joE, n1, n2, n3, n4, n5, if_true, if_false, m_fails0, obS, m_looks, hk]
  exact ht
theorem m_shift_w {g kept was kept' c : Nat → Int32} {ch ct' code wi : Int32} (hk : ∀ code, f_X13_keeps__g g kept ch wi code = some (kept', ct', 0)) (hg : ∀ k, k < 25 → g (7 + k) = c k) :
    f_X13_shift g kept was ch wi code 119 = some (dsum c (SLL ixW 5 0 (0, c)).2, SHN 0 4 (looksOf g was) 25 0 g, kept', looksOf g was, ct', 0) := by
  have hc : ∀ j, j < 25 → SHN 0 4 (looksOf g was) 25 0 g (7 + j) = (SLL ixW 5 0 (0, c)).2 j := fun j hj => by
    rw [SHN_w _ _ j hj, looks_same hg _ (sgW_lt j hj), slideW_get c j hj]
  have ht := m_shiftTail (kept := kept) (ch := ch) (kept' := kept') (ct' := ct') (R := 0) (C := 4) (by decide) (by decide) hg hc
  unfold f_X13_shift
  have n1 : ((119 : Int32) = 110) = False := eq_false (by decide)
  have n2 : ((119 : Int32) = 115) = False := eq_false (by decide)
  have n3 : ((119 : Int32) = 119) = True := eq_true rfl
  have n4 : ((119 : Int32) = 101) = False := eq_false (by decide)
  have n5 : ((0 : Int32) + 4 = 0) = False := eq_false (by decide)
  simp only [joE, n1, n2, n3, n4, n5, if_true, if_false, m_fails0, obS, m_looks, hk]
  exact ht
theorem m_shift_e {g kept was kept' c : Nat → Int32} {ch ct' code wi : Int32} (hk : ∀ code, f_X13_keeps__g g kept ch wi code = some (kept', ct', 0)) (hg : ∀ k, k < 25 → g (7 + k) = c k) :
    f_X13_shift g kept was ch wi code 101 = some (dsum c (SLL ixE 5 0 (0, c)).2, SHN 0 1 (looksOf g was) 25 0 g, kept', looksOf g was, ct', 0) := by
  have hc : ∀ j, j < 25 → SHN 0 1 (looksOf g was) 25 0 g (7 + j) = (SLL ixE 5 0 (0, c)).2 j := fun j hj => by
    rw [SHN_e _ _ j hj, looks_same hg _ (sgE_lt j hj), slideE_get c j hj]
  have ht := m_shiftTail (kept := kept) (ch := ch) (kept' := kept') (ct' := ct') (R := 0) (C := 1) (by decide) (by decide) hg hc
  unfold f_X13_shift
  have n1 : ((101 : Int32) = 110) = False := eq_false (by decide)
  have n2 : ((101 : Int32) = 115) = False := eq_false (by decide)
  have n3 : ((101 : Int32) = 119) = False := eq_false (by decide)
  have n4 : ((101 : Int32) = 101) = True := eq_true rfl
  have n5 : ((0 : Int32) + 1 = 0) = False := eq_false (by decide)
  simp only [joE, n1, n2, n3, n4, n5, if_true, if_false, m_fails0, obS, m_looks, hk]
  exact ht
theorem m_shiftBad {g kept was : Nat → Int32} {ch wi code a : Int32} (h : ¬ (a = 110 ∨ a = 101 ∨ a = 115 ∨ a = 119)) : f_X13_shift g kept was ch wi code a = some (0, g, kept, was, ch, 1) := by
  have n1 : (a = 110) = False := eq_false (fun q => h (Or.inl q))
  have n4 : (a = 101) = False := eq_false (fun q => h (Or.inr (Or.inl q)))
  have n2 : (a = 115) = False := eq_false (fun q => h (Or.inr (Or.inr (Or.inl q))))
  have n3 : (a = 119) = False := eq_false (fun q => h (Or.inr (Or.inr (Or.inr q))))
  have n5 : ((0 : Int32) + 0 = 0) = True := eq_true (by decide)
  unfold f_X13_shift
  simp only [joE, n1, n2, n3, n4, n5, if_true, if_false, m_fails1, obS, i10]
theorem s_hasRoom {k : Nat} (hk : k ≤ 60) : f_X3_hasRoom (nI k) = some (if k = 60 then 0 else 1) := by
  unfold f_X3_hasRoom
  rw [joE, joE, if_neg (qI_neg0 k (by omega))]
  by_cases h : k = 60
  · subst h
    rw [if_pos rfl, if_pos (show (60 : Int32) ≤ nI 60 from Int32.le_refl _)]; exact if_neg (fun q => q narB0)
  · rw [if_neg h, if_neg (show ¬ (60 : Int32) ≤ nI k from nle (show k < 60 by omega) (by decide))]; exact if_neg (fun q => q narB1)
theorem type_cases (a : Int32) : (a < 32 ∨ 126 < a) ∨ (¬ (a < 32 ∨ 126 < a) ∧ ∃ v, 32 ≤ v ∧ v ≤ 126 ∧ a = nI v) := by
  by_cases h : a < 32 ∨ 126 < a
  · exact Or.inl h
  · exact Or.inr ⟨h, in_rng (lo := 32) (hi := 126) (by decide) (by decide) h⟩
theorem L_typeBad (s : Nat → Int32) (l : Int32) (o : Nat → Int64) {a : Int32} (h : a < 32 ∨ 126 < a) : f_L_type s l o 1 a = some (1, s, l, o) := by
  have e : f_X12_type s l a = some (2, 0, s, l) := by
    unfold f_X12_type
    rw [joE]
    by_cases h1 : a < 32
    · rw [if_pos h1]
    · rw [if_neg h1, if_neg (i_nle.mpr (h.resolve_left h1))]
  unfold f_L_type
  rw [e, obS]
  simp only [n20, if_false, if_true]
theorem M_typeBad (code : Int32) (s : Nat → Int32) (l : Int32) {a : Int32} (h : a < 32 ∨ 126 < a) : f_X13_type code s l a = some (0, 1, s, l) := by
  unfold f_X13_type
  simp only [joE, s_in, if_pos h, obS, if_true, m_fails1, i10, if_false]
theorem L_typeFull (s : Nat → Int32) (o : Nat → Int64) {a : Int32} (h : ¬ (a < 32 ∨ 126 < a)) : f_L_type s (nI 60) o 1 a = some (2, s, nI 60, o) := by
  have e : f_X12_type s (nI 60) a = some (3, 0, s, nI 60) := by
    unfold f_X12_type
    rw [joE, if_neg (fun q => h (Or.inl q)), if_pos (i_nlt.mp (fun q => h (Or.inr q))), s_hasRoom (by decide), if_pos rfl, obS, if_pos rfl]
  unfold f_L_type
  rw [e, obS]
  simp only [n30, n32, if_false, if_true]
theorem M_typeFull (code : Int32) (s : Nat → Int32) {a : Int32} (h : ¬ (a < 32 ∨ 126 < a)) : f_X13_type code s (nI 60) a = some (0, 2, s, nI 60) := by
  unfold f_X13_type
  simp only [joE, s_in, if_neg h, obS, i10, if_false, show (nI 60 = (60 : Int32)) = True from eq_true rfl, if_true, m_fails2]
theorem L_typeOk (s : Nat → Int32) (o : Nat → Int64) {k v : Nat} (hk : k < 60) (h1 : 32 ≤ v) (h2 : v ≤ 126) (h : ¬ (nI v < 32 ∨ 126 < nI v)) : f_L_type s (nI k) o 1 (nI v) = some (0, upd s k (nI v), nI (k + 1), vp_updL o (0 : Int32).toNatClampNeg (nI (k + 1)).toInt64) := by
  have e : f_X12_type s (nI k) (nI v) = some (0, nI (k + 1), upd s k (nI v), nI (k + 1)) := by
    unfold f_X12_type f_X3_append
    rw [joE, if_neg (fun q => h (Or.inl q)), if_pos (i_nlt.mp (fun q => h (Or.inr q))), s_hasRoom (by omega), if_neg (by omega), obS, if_neg i10, joE, obS, if_neg i10, if_neg (ixo hk (by decide)), qI_cl (show k < 2147483648 by omega), narC v (by omega), qI_succ, obS]
  unfold f_L_type
  rw [e, obS, if_pos rfl, if_neg (g0F (by decide))]
theorem M_typeOk (code : Int32) (s : Nat → Int32) {k v : Nat} (hk : k < 60) (h : ¬ (nI v < 32 ∨ 126 < nI v)) : f_X13_type code s (nI k) (nI v) = some (nI (k + 1), 0, upd s k (nI v), nI (k + 1)) := by
  have e60 : (nI k = (60 : Int32)) = False := by rw [li60, qI_eq (by omega) (by decide)]; exact eq_false (by omega)
  unfold f_X13_type
  simp only [joE, s_in, if_neg h, obS, i10, if_false, e60, m_fails0, if_true]
  rw [if_neg (ixo hk (by decide)), qI_cl (show k < 2147483648 by omega), qI_succ]
theorem RT_add {tsg inp : Nat → Int32} {k v : Nat} (hk : k < 60) (h1 : 32 ≤ v) (h2 : v ≤ 126) (h : ∀ i, i < k → tsg i = inp i ∧ ∃ v, 32 ≤ v ∧ v ≤ 126 ∧ inp i = nI v) : RT (upd tsg k (nI v)) (nI (k + 1)) (upd inp k (nI v)) (nI (k + 1)) := by
  refine ⟨k + 1, by omega, rfl, rfl, fun i hi => ?_⟩
  by_cases e : i = k
  · subst e
    rw [upd_same, upd_same]
    exact ⟨rfl, v, h1, h2, rfl⟩
  · rw [upd_ne _ _ e, upd_ne _ _ e]
    exact h i (by omega)
theorem s_lineHas {n : Nat} (hn : n ≤ 160) (a : Int32) : f_X8_has (nI n) a = some (if a < 0 ∨ nI n ≤ a then 0 else 1) := by
  unfold f_X8_has
  rw [joE, joE]
  by_cases h0 : a < 0
  · rw [if_pos h0, if_pos (Or.inl h0)]; exact if_neg (fun q => q narB0)
  · by_cases h1 : nI n ≤ a
    · rw [if_neg h0, if_pos h1, if_pos (Or.inr h1)]; exact if_neg (fun q => q narB0)
    · have h6 : ¬ (160 : Int32) ≤ a := fun q => h1 (Int32.le_trans (show nI n ≤ 160 by rw [li160, qI_le (by omega) (by decide)]; exact hn) q)
      rw [if_neg h0, if_neg h1, if_neg h6, if_neg (fun q => q.elim h0 h1)]; exact if_neg (fun q => q narB1)
theorem nI_sub1' {n : Nat} (hn : n ≤ 160) (a : Int32) : (nI n - 1 < a) = (nI n ≤ a) := by
  have e : (nI n - 1).toInt = (n : Int) - 1 := by
    rw [Int32.toInt_sub, qI_toInt (show n < 2147483648 by omega), show (1 : Int32).toInt = 1 from rfl]
    exact Int.bmod_eq_of_le (by omega) (by omega)
  rw [Int32.lt_iff_toInt_lt, Int32.le_iff_toInt_le, e, qI_toInt (show n < 2147483648 by omega)]
  exact propext ⟨fun h => by omega, fun h => by omega⟩
theorem lineAt_both {ls sg : Nat → Int32} {n : Nat} (hn : n ≤ 160) (h : ∀ i, i < n → ls i = sg i ∧ ∃ v, v < 128 ∧ sg i = nI v) (o : Nat → Int64) (code a : Int32) : (f_L_lineAt ls (nI n) o 1 a = some (1, o) ∧ f_X13_lineAt code sg (nI n) a = some (32, 1)) ∨ ∃ v : Int32, f_L_lineAt ls (nI n) o 1 a = some (0, vp_updL o (0 : Int32).toNatClampNeg v.toInt64) ∧ f_X13_lineAt code sg (nI n) a = some (v, 0) := by
  unfold f_L_lineAt f_X12_lineAt f_X13_lineAt f_X8_signAt
  by_cases hb : a < 0 ∨ nI n ≤ a
  · have hb' : a < 0 ∨ nI n - 1 < a := by rw [nI_sub1' hn]; exact hb
    refine Or.inl ⟨?_, ?_⟩
    · simp only [s_lineHas hn, if_pos hb, obS, if_true, n10, if_false]
    · simp only [joE, s_in, if_pos hb', obS, if_true, m_fails1, i10, if_false]
      exact if_neg (fun q => q (narC 32 (by decide)))
  · have hb' : ¬ (a < 0 ∨ nI n - 1 < a) := by rw [nI_sub1' hn]; exact hb
    obtain ⟨k, hk, rfl⟩ := qI_in (b := n) (by omega) (i_nlt.mp (fun q => hb (Or.inl q))) (i_nle.mp (fun q => hb (Or.inr q)))
    obtain ⟨e, v, hv, ev⟩ := h k hk
    refine Or.inr ⟨nI v, ?_, ?_⟩
    · simp only [s_lineHas hn, if_neg hb, obS, i10, if_false, joE]
      rw [if_neg (ixo (show k < 160 by omega) (by decide)), qI_cl (show k < 2147483648 by omega), e, ev, narC v hv, if_neg (fun q => q rfl), obS, narC v hv, if_neg (fun q => q rfl), obS, if_pos rfl]
      exact if_neg (g0F (by decide))
    · simp only [joE, s_in, if_neg hb', obS, m_fails0, i10, if_false, if_true]
      rw [if_neg (ixo (show k < 180 by omega) (by decide)), qI_cl (show k < 2147483648 by omega), ev, narC v hv, if_neg (fun q => q rfl)]
theorem s_dir110 : f_X10_isDirection 110 = some 1 := by rw [s_isDirection, if_pos (Or.inl rfl)]
theorem s_dir101 : f_X10_isDirection 101 = some 1 := by rw [s_isDirection, if_pos (Or.inr (Or.inl rfl))]
theorem s_dir115 : f_X10_isDirection 115 = some 1 := by rw [s_isDirection, if_pos (Or.inr (Or.inr (Or.inl rfl)))]
theorem s_dir119 : f_X10_isDirection 119 = some 1 := by rw [s_isDirection, if_pos (Or.inr (Or.inr (Or.inr rfl)))]
