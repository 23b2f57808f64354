/-! the calls that ask for regions -/
theorem s_size_go {L : Nat → Int32} (A : Int32) (z : Int32 → Option Int32) : ∀ (d k n : Nat) (s : Int32), k + d = 25 → d < n → f_X9_sizeAround_11 L A z n s (nI k) = z (sumI (fun j => if L j = A then 1 else 0) d k s)
  | _, _, 0, _, _, h => by omega
  | 0, k, n + 1, s, hk, _ => by
    obtain rfl : k = 25 := by omega
    rw [f_X9_sizeAround_11, if_pos (show (25 : Int32) ≤ nI 25 from Int32.le_refl _)]
    rfl
  | d + 1, k, n + 1, s, hk, hn => by
    have ih := fun s => s_size_go (L := L) A z d (k + 1) n s (by omega) (by omega)
    rw [f_X9_sizeAround_11, if_neg (show ¬ (25 : Int32) ≤ nI k from nle (show k < 25 by omega) (by decide)), jo, if_neg (ixo (show k < 25 by omega) (by decide)), qI_cl (show k < 2147483648 by omega), qI_succ, sumI]
    by_cases e : L k = A
    · rw [if_pos e, if_pos e]; exact ih _
    · rw [if_neg e, if_neg e, Int32.add_zero]; exact ih _
theorem m_size_go {r : Nat → Int32} {a b : Nat} (ha : a < 5) (hb : b < 5) (z : Int32 → Option (Int32 × (Nat → Int32) × Int32)) : ∀ (d k n : Nat) (s : Int32), k + d = 25 → d < n → f_X13_regionSize_31 r (nI a) (nI b) z n s (nI k) = z (sumI (fun j => if r j = r (a * 5 + b) then 1 else 0) d k s)
  | _, _, 0, _, _, h => by omega
  | 0, k, n + 1, s, hk, _ => by
    obtain rfl : k = 25 := by omega
    rw [f_X13_regionSize_31, if_pos (show (25 : Int32) ≤ nI 25 from Int32.le_refl _)]
    rfl
  | d + 1, k, n + 1, s, hk, hn => by
    have ih := fun s => m_size_go (r := r) ha hb z d (k + 1) n s (by omega) (by omega)
    rw [f_X13_regionSize_31, if_neg (show ¬ (25 : Int32) ≤ nI k from nle (show k < 25 by omega) (by decide)), jo, if_neg (ixo (show k < 25 by omega) (by decide)), cell5, if_neg (ixo (show a * 5 + b < 25 by omega) (by decide)), qI_cl (show k < 2147483648 by omega), qI_cl (show a * 5 + b < 2147483648 by omega), qI_succ, sumI]
    by_cases e : r k = r (a * 5 + b)
    · rw [if_pos e, if_pos e]; exact ih _
    · rw [if_neg e, if_neg e]; exact ih _
theorem regSize_both {g c : Nat → Int32} {t : Int32} (hc : Rng c) (h : ∀ k, k < 25 → g (7 + k) = c k) (ht : g 2 = t) (L q r0 : Nat → Int32) (n : Int32) (o : Nat → Int64) (code a1 a2 : Int32) : (f_L_regionSize c t L q n o 1 a1 a2 = some (1, L, q, n, o) ∧ f_X13_regionSize g r0 code a1 a2 = some (0, r0, 1)) ∨ ∃ (v : Int32) (L' q' r' : Nat → Int32) (n' : Int32), f_L_regionSize c t L q n o 1 a1 a2 = some (0, L', q', n', vp_updL o (0 : Int32).toNatClampNeg v.toInt64) ∧ f_X13_regionSize g r0 code a1 a2 = some (v, r', 0) := by
  unfold f_L_regionSize f_X12_regionSize f_X13_regionSize
  rcases cell_cases a1 a2 with ho | ⟨ho, r, w, hr, hw, rfl, rfl⟩
  · refine Or.inl ⟨?_, ?_⟩
    · simp only [s_requireCell, if_pos ho, obS, n10, if_false, if_true]
    · simp only [joE, m_isCell, if_pos ho, obS, if_true, m_fails1, i10, if_false]
  · obtain ⟨L', q', e, hk⟩ := s_flood hc t L q r0 n
    have hy : r * 5 + w < 25 := by omega
    refine Or.inr ⟨sumI (fun j => if L' j = L' (r * 5 + w) then 1 else 0) 25 0 0, L', q', prt c t r0, nI 25, ?_, ?_⟩
    · have e2 : f_X9_sizeAround L' (nI (r * 5 + w)) = some (sumI (fun j => if L' j = L' (r * 5 + w) then 1 else 0) 25 0 0) := by
        unfold f_X9_sizeAround
        rw [s_regionOf hy, Option.bind_some]
        exact s_size_go (L' (r * 5 + w)) (fun l => some l) 25 0 1000 0 rfl (by decide)
      simp only [s_requireCell, if_neg ho, obS, if_true, e, s_cellOf, e2]
      exact if_neg (g0F (by decide))
    · simp only [joE, m_isCell, if_neg ho, obS, i10, if_false, m_fails0, if_true, m_parted h ht r0]
      refine (m_size_go (r := prt c t r0) hr hw (fun l => some (l, prt c t r0, 0)) 25 0 1000 0 rfl (by decide)).trans ?_
      refine congrArg (fun v => some (v, prt c t r0, (0 : Int32))) (sumI_congr _ _ 25 0 0 (fun j _ hj => ?_))
      by_cases e3 : L' j = L' (r * 5 + w)
      · rw [if_pos e3, if_pos ((hk j (by omega) _ hy).mp e3)]
      · rw [if_neg e3, if_neg (fun w => e3 ((hk j (by omega) _ hy).mpr w))]
theorem sameReg_both {g c : Nat → Int32} {t : Int32} (hc : Rng c) (h : ∀ k, k < 25 → g (7 + k) = c k) (ht : g 2 = t) (L q r0 : Nat → Int32) (n : Int32) (o : Nat → Int64) (code a1 a2 a3 a4 : Int32) : (f_L_isSameRegion c t L q n o 1 a1 a2 a3 a4 = some (1, L, q, n, o) ∧ f_X13_isSameRegion g r0 code a1 a2 a3 a4 = some (0, r0, 1)) ∨ ∃ (v : Int32) (L' q' r' : Nat → Int32) (n' : Int32), (v = 0 ∨ v = 1) ∧ f_L_isSameRegion c t L q n o 1 a1 a2 a3 a4 = some (0, L', q', n', vp_updL o (0 : Int32).toNatClampNeg v.toInt64) ∧ f_X13_isSameRegion g r0 code a1 a2 a3 a4 = some (v, r', 0) := by
  unfold f_L_isSameRegion f_X12_isSameRegion f_X13_isSameRegion
  rcases cell_cases a1 a2 with ho | ⟨ho, r, w, hr, hw, rfl, rfl⟩
  · refine Or.inl ⟨?_, ?_⟩
    · simp only [joE, s_requireCell, if_pos ho, obS, n10, if_false, if_true]
    · simp only [joE, m_isCell, if_pos ho, obS, if_true, m_fails1, i10, if_false]
  · rcases cell_cases a3 a4 with ho2 | ⟨ho2, r2, w2, hr2, hw2, rfl, rfl⟩
    · refine Or.inl ⟨?_, ?_⟩
      · simp only [joE, s_requireCell, if_neg ho, if_pos ho2, obS, n10, if_false, if_true]
      · simp only [joE, m_isCell, if_neg ho, if_pos ho2, obS, if_true, m_fails1, i10, if_false]
    · obtain ⟨L', q', e, hk⟩ := s_flood hc t L q r0 n
      have hy : r * 5 + w < 25 := by omega
      have hy2 : r2 * 5 + w2 < 25 := by omega
      have hb : ∀ v : Int32, v = 0 ∨ v = 1 → (¬ vp_nar .boolean v = v) = False := fun v hv => by
        rcases hv with rfl | rfl
        · exact eq_false (fun q => q narB0)
        · exact eq_false (fun q => q narB1)
      by_cases e3 : L' (r * 5 + w) = L' (r2 * 5 + w2)
      · have e4 := (hk _ hy _ hy2).mp e3
        refine Or.inr ⟨1, L', q', prt c t r0, nI 25, Or.inr rfl, ?_, ?_⟩
        · simp only [joE, s_requireCell, if_neg ho, if_neg ho2, obS, if_true, e, s_cellOf, s_regionOf hy, s_regionOf hy2, if_pos e3, hb 1 (Or.inr rfl), if_false, i10]
          exact if_neg (g0F (by decide))
        · simp only [joE, m_isCell, if_neg ho, if_neg ho2, obS, i10, if_false, m_fails0, if_true, m_parted h ht r0, cell5]
          rw [if_neg (ixo hy (by decide)), if_neg (ixo hy2 (by decide)), qI_cl (show r * 5 + w < 2147483648 by omega), qI_cl (show r2 * 5 + w2 < 2147483648 by omega), if_pos e4]
          exact if_neg (fun q => q narB1)
      · have e4 : ¬ prt c t r0 (r * 5 + w) = prt c t r0 (r2 * 5 + w2) := fun q => e3 ((hk _ hy _ hy2).mpr q)
        refine Or.inr ⟨0, L', q', prt c t r0, nI 25, Or.inl rfl, ?_, ?_⟩
        · simp only [joE, s_requireCell, if_neg ho, if_neg ho2, obS, if_true, e, s_cellOf, s_regionOf hy, s_regionOf hy2, if_neg e3, hb 0 (Or.inl rfl), if_false]
          exact if_neg (g0F (by decide))
        · simp only [joE, m_isCell, if_neg ho, if_neg ho2, obS, i10, if_false, m_fails0, if_true, m_parted h ht r0, cell5]
          rw [if_neg (ixo hy (by decide)), if_neg (ixo hy2 (by decide)), qI_cl (show r * 5 + w < 2147483648 by omega), qI_cl (show r2 * 5 + w2 < 2147483648 by omega), if_neg e4]
          exact if_neg (fun q => q narB0)
theorem regs_pos (c : Nat → Int32) (t : Int32) (r0 : Nat → Int32) : 1 ≤ cntP (fun v => prt c t r0 v = nI v) 25 := by
  obtain ⟨v, hv, -, e⟩ := (prt_ok c t r0 r0).1.1 0 (by decide)
  exact cntP_pos (p := fun v => prt c t r0 v = nI v) e hv
def shw (k : Nat) : Nat := if 8 ≤ k then 3 else if 4 ≤ k then 2 else if 2 ≤ k then 1 else 0
theorem s_shown {c : Nat → Int32} (hc : Rng c) (t : Int32) (L q r0 : Nat → Int32) (n : Int32) : ∃ L' q', f_X12_shownWeather c t L q n = some (nI (shw (cntP (fun v => prt c t r0 v = nI v) 25)), L', q', nI 25) := by
  obtain ⟨L', q', e, -⟩ := s_flood hc t L q r0 n
  refine ⟨L', q', ?_⟩
  unfold f_X12_shownWeather
  have hl := cntP_le (fun v => prt c t r0 v = nI v) 25
  generalize cntP (fun v => prt c t r0 v = nI v) 25 = m at e hl ⊢
  have e8 : (nI m < 8) = (m < 8) := qI_lt (b := 8) (by omega) (by decide)
  have e4 : (nI m < 4) = (m < 4) := qI_lt (b := 4) (by omega) (by decide)
  have e2 : (nI m < 2) = (m < 2) := qI_lt (b := 2) (by omega) (by decide)
  simp only [e, obS, joE, e8, e4, e2, shw]
  by_cases h8 : 8 ≤ m
  · rw [if_neg (by omega), if_pos h8]
    rfl
  · rw [if_pos (by omega), if_neg h8]
    by_cases h4 : 4 ≤ m
    · rw [if_neg (by omega), if_pos h4]
      rfl
    · rw [if_pos (by omega), if_neg h4]
      by_cases h2 : 2 ≤ m
      · rw [if_neg (by omega), if_pos h2]
        rfl
      · rw [if_pos (by omega), if_neg h2]
        rfl
theorem m_shown {g c : Nat → Int32} {t : Int32} (h : ∀ k, k < 25 → g (7 + k) = c k) (ht : g 2 = t) (r0 : Nat → Int32) : f_X13_shown g r0 = some (nI (shw (cntP (fun v => prt c t r0 v = nI v) 25)), prt c t r0) := by
  unfold f_X13_shown
  have hp := regs_pos c t r0
  have hl := cntP_le (fun v => prt c t r0 v = nI v) 25
  rw [joE, m_regions h ht r0, obS]
  generalize cntP (fun v => prt c t r0 v = nI v) 25 = m at hp hl ⊢
  have e8 : ((8 : Int32) ≤ nI m) = (8 ≤ m) := qI_le (a := 8) (by decide) (by omega)
  have e4 : ((4 : Int32) ≤ nI m) = (4 ≤ m) := qI_le (a := 4) (by decide) (by omega)
  have e1 : (nI m = 1) = (m = 1) := qI_eq (b := 1) (by omega) (by decide)
  simp only [e8, e4, e1, shw]
  by_cases h8 : 8 ≤ m
  · rw [if_neg (by omega), if_pos (by omega), if_pos h8, if_pos h8]
    rfl
  · by_cases h4 : 4 ≤ m
    · rw [if_neg (by omega), if_pos h4, if_neg h8, if_neg h8, if_pos h4]
      rfl
    · by_cases h2 : 2 ≤ m
      · rw [if_neg (by omega), if_neg h4, if_neg h8, if_neg h4, if_pos h2]
        rfl
      · rw [if_pos (by omega), if_neg h8, if_neg h4, if_neg h2]
        rfl
