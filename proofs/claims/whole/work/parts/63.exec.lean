/-! one command carried out: class and model -/
theorem s_val {j q : Nat} (hj : j < 15) (hq : q < 3) (vs : Nat → Nat → Int32) : f_X3_valueAt vs (nI j) (nI q) = some (vs j q) := by
  unfold f_X3_valueAt
  rw [joE, joE, s_isPlace hj, obS, if_neg i10, if_neg (qI_neg0 q (by omega)), if_neg (show ¬ (3 : Int32) ≤ nI q from nle hq (by decide)), if_neg (ixo hj (by decide)), if_neg (ixo hq (by decide)), qI_cl (show j < 2147483648 by omega), qI_cl (show q < 2147483648 by omega)]
theorem s_val0 {j : Nat} (hj : j < 15) (vs : Nat → Nat → Int32) : f_X3_valueAt vs (nI j) 0 = some (vs j 0) := s_val hj (show 0 < 3 by decide) vs
theorem s_val1 {j : Nat} (hj : j < 15) (vs : Nat → Nat → Int32) : f_X3_valueAt vs (nI j) 1 = some (vs j 1) := s_val hj (show 1 < 3 by decide) vs
theorem s_val2 {j : Nat} (hj : j < 15) (vs : Nat → Nat → Int32) : f_X3_valueAt vs (nI j) 2 = some (vs j 2) := s_val hj (show 2 < 3 by decide) vs
theorem s_kindAt {j : Nat} (hj : j < 15) (kinds : Nat → Option Nat) : f_X3_kindAt kinds (nI j) = some (kinds j) := by
  unfold f_X3_kindAt
  rw [joE, s_isPlace hj, obS, if_neg i10, if_neg (ixo hj (by decide)), qI_cl (show j < 2147483648 by omega)]
theorem oN_some {β : Type} (i : Nat) (a : β) (b : Nat → β) : oN (some i) a b = b i := rfl
def ED (c : Nat → Int32) (t : Int32) (w : Nat → Int32) (p : Int32) (d e : Nat → Int32) (n s r h y : Int32) (L q : Nat → Int32) (qn : Int32) (bn bd nn nd : Nat → Int64) (g kept : Nat → Int32) (ch : Int32) (was region : Nat → Int32) (pa ne : Nat → Int64) (wa mo : Nat → Int32) (wh : Int64) (kinds : Nat → Option Nat) (vs : Nat → Nat → Int32) (told : Nat → Int32) (code : Int32) (j : Nat) : Prop :=
  (f_X12_isAllowed w n kinds vs (nI j) = some 0 ∧ ∃ (got : Int32) (g' : Nat → Int32) (was' region' : Nat → Int32) (pa' ne' : Nat → Int64) (wa' mo' : Nat → Int32) (wh' : Int64) (code' : Int32), f_X13_carries g kept was region pa ne wa mo wh ch 1 code told (nI (4 * j)) = some (got, g', kept, was', region', pa', ne', wa', mo', wh', ch, code') ∧ ¬ code' = 0 ∧ ¬ code' ≤ 0) ∨
  (f_X12_isAllowed w n kinds vs (nI j) = some 1 ∧ ∃ (c' : Nat → Int32) (t' : Int32) (w' : Nat → Int32) (p' : Int32) (d' e' : Nat → Int32) (n' s' r' h' y' : Int32) (L' q' : Nat → Int32) (qn' : Int32) (bn' bd' nn' nd' : Nat → Int64) (got : Int32) (g' : Nat → Int32) (was' region' : Nat → Int32) (pa' ne' : Nat → Int64) (wa' mo' : Nat → Int32) (wh' : Int64), f_X12_perform c t w p d e n s r h y L q qn bn bd nn nd kinds vs (nI j) = some (c', t', w', p', d', e', n', s', r', h', y', L', q', qn', bn', bd', nn', nd') ∧ f_X13_carries g kept was region pa ne wa mo wh ch 1 code told (nI (4 * j)) = some (got, g', kept, was', region', pa', ne', wa', mo', wh', ch, 0) ∧ RS (c', t', w', p', d', e', n', s', r', h', y') g')
theorem ed_0 {c : Nat → Int32} {t : Int32} {w : Nat → Int32} {p : Int32} {d e : Nat → Int32} {n s r h y : Int32} {L q : Nat → Int32} {qn : Int32} {bn bd nn nd : Nat → Int64} {g kept : Nat → Int32} {ch : Int32} {was region : Nat → Int32} {pa ne : Nat → Int64} {wa mo : Nat → Int32} {wh : Int64} {kinds : Nat → Option Nat} {vs : Nat → Nat → Int32} {told : Nat → Int32} {code : Int32} {j : Nat} (H : RS (c, t, w, p, d, e, n, s, r, h, y) g) (hj : j < 15) (hk : kinds j = some 0) (ht : told (4 * j) = nI 0) (h1 : told (4 * j + 1) = vs j 0) (h2 : told (4 * j + 2) = vs j 1) (h3 : told (4 * j + 3) = vs j 2) : ED c t w p d e n s r h y L q qn bn bd nn nd g kept ch was region pa ne wa mo wh kinds vs told code j := by
  have H0 := H
  obtain ⟨r1, r2, r3, r4, r5, r6, r7, r8, r9, r10, r11, r12, r13, r14⟩ := H0
  have kW : ∀ code, f_X13_keeps__g g kept ch 1 code = some (kept, ch, 0) := fun code => m_keepsW i10 code
  rcases cell_cases (vs j 0) (vs j 1) with hx | ⟨hx, a, b, ha, hb, ea, eb⟩
  · refine Or.inl ⟨?_, 0, g, was, region, pa, ne, wa, mo, wh, 1, ?_, by decide, by decide⟩
    · unfold f_X12_isAllowed
      rw [joE, s_val0 hj, obS, s_val1 hj, obS, s_val2 hj, obS, s_kindAt hj, obS, hk, oN_some, if_neg (show ¬ 10 ≤ 0 by decide), if_neg (show ¬ (nI 0 < 0 ∨ 10 ≤ (nI 0).toNatClampNeg) by decide), if_pos (show swT.getD (nI 0).toNatClampNeg 0 = 1 by decide)]
      rw [joE, joE, s_isCell, obS, if_pos hx, if_pos rfl]
      exact if_neg (fun q => q narB0)
    · unfold f_X13_carries
      rw [qI_succ, show nI (4 * j) + 2 = nI (4 * j + 2) from qI_add (4 * j) 2, show nI (4 * j) + 3 = nI (4 * j + 3) from qI_add (4 * j) 3, if_neg (ixo (show 4 * j + 1 < 124 by omega) (by decide)), if_neg (ixo (show 4 * j + 2 < 124 by omega) (by decide)), if_neg (ixo (show 4 * j + 3 < 124 by omega) (by decide)), if_neg (ixo (show 4 * j < 124 by omega) (by decide)), qI_cl (show 4 * j < 2147483648 by omega), qI_cl (show 4 * j + 1 < 2147483648 by omega), qI_cl (show 4 * j + 2 < 2147483648 by omega), qI_cl (show 4 * j + 3 < 2147483648 by omega), ht, if_pos (show nI 0 = 0 by decide)]
      rw [h1, h2, h3]
      unfold f_X13_setPressure
      simp only [m_isCell, if_pos hx, obS, if_true, if_false, joE, m_fails1, i10]
  · by_cases hp : vs j 2 < 0 ∨ 99 < vs j 2
    · refine Or.inl ⟨?_, 0, g, was, region, pa, ne, wa, mo, wh, 2, ?_, by decide, by decide⟩
      · unfold f_X12_isAllowed
        rw [joE, s_val0 hj, obS, s_val1 hj, obS, s_val2 hj, obS, s_kindAt hj, obS, hk, oN_some, if_neg (show ¬ 10 ≤ 0 by decide), if_neg (show ¬ (nI 0 < 0 ∨ 10 ≤ (nI 0).toNatClampNeg) by decide), if_pos (show swT.getD (nI 0).toNatClampNeg 0 = 1 by decide)]
        rw [joE, joE, s_isCell, obS, if_neg hx, if_neg i10, s_isPressure, obS, if_pos hp, if_pos rfl]
        exact if_neg (fun q => q narB0)
      · unfold f_X13_carries
        rw [qI_succ, show nI (4 * j) + 2 = nI (4 * j + 2) from qI_add (4 * j) 2, show nI (4 * j) + 3 = nI (4 * j + 3) from qI_add (4 * j) 3, if_neg (ixo (show 4 * j + 1 < 124 by omega) (by decide)), if_neg (ixo (show 4 * j + 2 < 124 by omega) (by decide)), if_neg (ixo (show 4 * j + 3 < 124 by omega) (by decide)), if_neg (ixo (show 4 * j < 124 by omega) (by decide)), qI_cl (show 4 * j < 2147483648 by omega), qI_cl (show 4 * j + 1 < 2147483648 by omega), qI_cl (show 4 * j + 2 < 2147483648 by omega), qI_cl (show 4 * j + 3 < 2147483648 by omega), ht, if_pos (show nI 0 = 0 by decide)]
        rw [h1, h2, h3]
        unfold f_X13_setPressure
        simp only [m_isCell, if_neg hx, s_in, if_pos hp, obS, if_true, if_false, joE, m_fails2, i10]
    · obtain ⟨v, -, hv, ev⟩ := in_rng (lo := 0) (hi := 99) (by decide) (by decide) hp
      have hc : a * 5 + b < 25 := by omega
      · refine Or.inr ⟨?_, upd c (a * 5 + b) (nI v), t, w, p, d, e, n, s, r, h, y, L, q, qn, bn, bd, nn, nd, c (a * 5 + b), upd g (7 + (a * 5 + b)) (nI v), was, region, pa, ne, wa, mo, wh, ?_, ?_, RS_cell H hc (by omega)⟩
        · unfold f_X12_isAllowed
          rw [joE, s_val0 hj, obS, s_val1 hj, obS, s_val2 hj, obS, s_kindAt hj, obS, hk, oN_some, if_neg (show ¬ 10 ≤ 0 by decide), if_neg (show ¬ (nI 0 < 0 ∨ 10 ≤ (nI 0).toNatClampNeg) by decide), if_pos (show swT.getD (nI 0).toNatClampNeg 0 = 1 by decide)]
          rw [joE, joE, s_isCell, obS, if_neg hx, if_neg i10, s_isPressure, obS, if_neg hp, if_neg i10]
          exact if_neg (fun q => q narB1)
        · unfold f_X12_perform
          rw [joE, s_val0 hj, obS, s_val1 hj, obS, s_val2 hj, obS, s_kindAt hj, obS, hk, oN_some, if_neg (show ¬ 10 ≤ 0 by decide), if_neg (show ¬ (nI 0 < 0 ∨ 10 ≤ (nI 0).toNatClampNeg) by decide), if_pos (show swT.getD (nI 0).toNatClampNeg 0 = 1 by decide)]
          rw [ea, eb, ev, s_cellOf, obS, s_put hc, obS]
        · unfold f_X13_carries
          rw [qI_succ, show nI (4 * j) + 2 = nI (4 * j + 2) from qI_add (4 * j) 2, show nI (4 * j) + 3 = nI (4 * j + 3) from qI_add (4 * j) 3, if_neg (ixo (show 4 * j + 1 < 124 by omega) (by decide)), if_neg (ixo (show 4 * j + 2 < 124 by omega) (by decide)), if_neg (ixo (show 4 * j + 3 < 124 by omega) (by decide)), if_neg (ixo (show 4 * j < 124 by omega) (by decide)), qI_cl (show 4 * j < 2147483648 by omega), qI_cl (show 4 * j + 1 < 2147483648 by omega), qI_cl (show 4 * j + 2 < 2147483648 by omega), qI_cl (show 4 * j + 3 < 2147483648 by omega), ht, if_pos (show nI 0 = 0 by decide)]
          rw [h1, h2, h3]
          have hp' := hp
          have h' := hx
          rw [ev] at hp'
          rw [ea, eb] at h'
          rw [ea, eb, ev]
          unfold f_X13_setPressure
          simp only [m_isCell, if_neg h', s_in, if_neg hp', obS, i10, if_false, if_true, joE, m_fails0, kW, mcell ha hb]
          rw [if_neg (ixo (show 7 + (a * 5 + b) < 60 by omega) (by decide)), qI_cl (show 7 + (a * 5 + b) < 2147483648 by omega), r1 _ hc]
          rfl
theorem ed_1 {c : Nat → Int32} {t : Int32} {w : Nat → Int32} {p : Int32} {d e : Nat → Int32} {n s r h y : Int32} {L q : Nat → Int32} {qn : Int32} {bn bd nn nd : Nat → Int64} {g kept : Nat → Int32} {ch : Int32} {was region : Nat → Int32} {pa ne : Nat → Int64} {wa mo : Nat → Int32} {wh : Int64} {kinds : Nat → Option Nat} {vs : Nat → Nat → Int32} {told : Nat → Int32} {code : Int32} {j : Nat} (H : RS (c, t, w, p, d, e, n, s, r, h, y) g) (hj : j < 15) (hk : kinds j = some 1) (ht : told (4 * j) = nI 1) (h1 : told (4 * j + 1) = vs j 0) : ED c t w p d e n s r h y L q qn bn bd nn nd g kept ch was region pa ne wa mo wh kinds vs told code j := by
  have H0 := H
  obtain ⟨r1, r2, r3, r4, r5, r6, r7, r8, r9, r10, r11, r12, r13, r14⟩ := H0
  have kW : ∀ code, f_X13_keeps__g g kept ch 1 code = some (kept, ch, 0) := fun code => m_keepsW i10 code
  rcases fold_cases (vs j 0) with hx | ⟨hx, R, hR3, ea⟩
  · refine Or.inl ⟨?_, 0, g, was, region, pa, ne, wa, mo, wh, 1, ?_, by decide, by decide⟩
    · unfold f_X12_isAllowed
      rw [joE, s_val0 hj, obS, s_val1 hj, obS, s_val2 hj, obS, s_kindAt hj, obS, hk, oN_some, if_neg (show ¬ 10 ≤ 1 by decide), if_neg (show ¬ (nI 1 < 0 ∨ 10 ≤ (nI 1).toNatClampNeg) by decide), if_neg (show ¬ swT.getD (nI 1).toNatClampNeg 0 = 1 by decide), if_pos (show swT.getD (nI 1).toNatClampNeg 0 = 2 by decide)]
      show (f_X10_isFold (vs j 0)).bind _ = _; rw [s_isFold, obS, if_pos hx]
      exact if_neg (fun q => q narB0)
    · unfold f_X13_carries
      rw [qI_succ, show nI (4 * j) + 2 = nI (4 * j + 2) from qI_add (4 * j) 2, show nI (4 * j) + 3 = nI (4 * j + 3) from qI_add (4 * j) 3, if_neg (ixo (show 4 * j + 1 < 124 by omega) (by decide)), if_neg (ixo (show 4 * j + 2 < 124 by omega) (by decide)), if_neg (ixo (show 4 * j + 3 < 124 by omega) (by decide)), if_neg (ixo (show 4 * j < 124 by omega) (by decide)), qI_cl (show 4 * j < 2147483648 by omega), qI_cl (show 4 * j + 1 < 2147483648 by omega), qI_cl (show 4 * j + 2 < 2147483648 by omega), qI_cl (show 4 * j + 3 < 2147483648 by omega), ht, if_neg (show ¬ nI 1 = 0 by decide), if_pos (show nI 1 = 1 by decide)]
      rw [h1]
      unfold f_X13_foldRow
      rw [m_foldsBad hx, obS, obS]
  · refine Or.inr ⟨?_, (LVL (prR R) (0, c)).2, t, w, p, d, e, n, s, r, h, y, L, q, qn, bn, bd, nn, nd, dsum c (LVL (prR R) (0, c)).2, GLL (prR R) g, looksOf g was, region, pa, ne, wa, mo, wh, ?_, ?_, RS_sheet H (GLL_same (prR R) g (0, c) (prR_lt hR3) r1) (LVL_rng (prR R) (0, c) (prR_lt hR3) r2) (fun i hi => GLL_out (prR R) g i (prR_lt hR3) hi)⟩
    · unfold f_X12_isAllowed
      rw [joE, s_val0 hj, obS, s_val1 hj, obS, s_val2 hj, obS, s_kindAt hj, obS, hk, oN_some, if_neg (show ¬ 10 ≤ 1 by decide), if_neg (show ¬ (nI 1 < 0 ∨ 10 ≤ (nI 1).toNatClampNeg) by decide), if_neg (show ¬ swT.getD (nI 1).toNatClampNeg 0 = 1 by decide), if_pos (show swT.getD (nI 1).toNatClampNeg 0 = 2 by decide)]
      show (f_X10_isFold (vs j 0)).bind _ = _; rw [s_isFold, obS, if_neg hx]
      exact if_neg (fun q => q narB1)
    · unfold f_X12_perform
      rw [joE, s_val0 hj, obS, s_val1 hj, obS, s_val2 hj, obS, s_kindAt hj, obS, hk, oN_some, if_neg (show ¬ 10 ≤ 1 by decide), if_neg (show ¬ (nI 1 < 0 ∨ 10 ≤ (nI 1).toNatClampNeg) by decide), if_neg (show ¬ swT.getD (nI 1).toNatClampNeg 0 = 1 by decide), if_pos (show swT.getD (nI 1).toNatClampNeg 0 = 2 by decide)]
      rw [ea, s_foldRow hR3, obS]
    · unfold f_X13_carries
      rw [qI_succ, show nI (4 * j) + 2 = nI (4 * j + 2) from qI_add (4 * j) 2, show nI (4 * j) + 3 = nI (4 * j + 3) from qI_add (4 * j) 3, if_neg (ixo (show 4 * j + 1 < 124 by omega) (by decide)), if_neg (ixo (show 4 * j + 2 < 124 by omega) (by decide)), if_neg (ixo (show 4 * j + 3 < 124 by omega) (by decide)), if_neg (ixo (show 4 * j < 124 by omega) (by decide)), qI_cl (show 4 * j < 2147483648 by omega), qI_cl (show 4 * j + 1 < 2147483648 by omega), qI_cl (show 4 * j + 2 < 2147483648 by omega), qI_cl (show 4 * j + 3 < 2147483648 by omega), ht, if_neg (show ¬ nI 1 = 0 by decide), if_pos (show nI 1 = 1 by decide)]
      rw [h1]
      have hx' := hx
      rw [ea] at hx'
      rw [ea, m_foldRowOk hR3 hx' kW r1, obS]
theorem ed_2 {c : Nat → Int32} {t : Int32} {w : Nat → Int32} {p : Int32} {d e : Nat → Int32} {n s r h y : Int32} {L q : Nat → Int32} {qn : Int32} {bn bd nn nd : Nat → Int64} {g kept : Nat → Int32} {ch : Int32} {was region : Nat → Int32} {pa ne : Nat → Int64} {wa mo : Nat → Int32} {wh : Int64} {kinds : Nat → Option Nat} {vs : Nat → Nat → Int32} {told : Nat → Int32} {code : Int32} {j : Nat} (H : RS (c, t, w, p, d, e, n, s, r, h, y) g) (hj : j < 15) (hk : kinds j = some 2) (ht : told (4 * j) = nI 2) (h1 : told (4 * j + 1) = vs j 0) : ED c t w p d e n s r h y L q qn bn bd nn nd g kept ch was region pa ne wa mo wh kinds vs told code j := by
  have H0 := H
  obtain ⟨r1, r2, r3, r4, r5, r6, r7, r8, r9, r10, r11, r12, r13, r14⟩ := H0
  have kW : ∀ code, f_X13_keeps__g g kept ch 1 code = some (kept, ch, 0) := fun code => m_keepsW i10 code
  rcases fold_cases (vs j 0) with hx | ⟨hx, R, hR3, ea⟩
  · refine Or.inl ⟨?_, 0, g, was, region, pa, ne, wa, mo, wh, 1, ?_, by decide, by decide⟩
    · unfold f_X12_isAllowed
      rw [joE, s_val0 hj, obS, s_val1 hj, obS, s_val2 hj, obS, s_kindAt hj, obS, hk, oN_some, if_neg (show ¬ 10 ≤ 2 by decide), if_neg (show ¬ (nI 2 < 0 ∨ 10 ≤ (nI 2).toNatClampNeg) by decide), if_neg (show ¬ swT.getD (nI 2).toNatClampNeg 0 = 1 by decide), if_neg (show ¬ swT.getD (nI 2).toNatClampNeg 0 = 2 by decide), if_pos (show swT.getD (nI 2).toNatClampNeg 0 = 3 by decide)]
      show (f_X10_isFold (vs j 0)).bind _ = _; rw [s_isFold, obS, if_pos hx]
      exact if_neg (fun q => q narB0)
    · unfold f_X13_carries
      rw [qI_succ, show nI (4 * j) + 2 = nI (4 * j + 2) from qI_add (4 * j) 2, show nI (4 * j) + 3 = nI (4 * j + 3) from qI_add (4 * j) 3, if_neg (ixo (show 4 * j + 1 < 124 by omega) (by decide)), if_neg (ixo (show 4 * j + 2 < 124 by omega) (by decide)), if_neg (ixo (show 4 * j + 3 < 124 by omega) (by decide)), if_neg (ixo (show 4 * j < 124 by omega) (by decide)), qI_cl (show 4 * j < 2147483648 by omega), qI_cl (show 4 * j + 1 < 2147483648 by omega), qI_cl (show 4 * j + 2 < 2147483648 by omega), qI_cl (show 4 * j + 3 < 2147483648 by omega), ht, if_neg (show ¬ nI 2 = 0 by decide), if_neg (show ¬ nI 2 = 1 by decide), if_pos (show nI 2 = 2 by decide)]
      rw [h1]
      unfold f_X13_foldColumn
      rw [m_foldsBad hx, obS, obS]
  · refine Or.inr ⟨?_, (LVL (prC R) (0, c)).2, t, w, p, d, e, n, s, r, h, y, L, q, qn, bn, bd, nn, nd, dsum c (LVL (prC R) (0, c)).2, GLL (prC R) g, looksOf g was, region, pa, ne, wa, mo, wh, ?_, ?_, RS_sheet H (GLL_same (prC R) g (0, c) (prC_lt hR3) r1) (LVL_rng (prC R) (0, c) (prC_lt hR3) r2) (fun i hi => GLL_out (prC R) g i (prC_lt hR3) hi)⟩
    · unfold f_X12_isAllowed
      rw [joE, s_val0 hj, obS, s_val1 hj, obS, s_val2 hj, obS, s_kindAt hj, obS, hk, oN_some, if_neg (show ¬ 10 ≤ 2 by decide), if_neg (show ¬ (nI 2 < 0 ∨ 10 ≤ (nI 2).toNatClampNeg) by decide), if_neg (show ¬ swT.getD (nI 2).toNatClampNeg 0 = 1 by decide), if_neg (show ¬ swT.getD (nI 2).toNatClampNeg 0 = 2 by decide), if_pos (show swT.getD (nI 2).toNatClampNeg 0 = 3 by decide)]
      show (f_X10_isFold (vs j 0)).bind _ = _; rw [s_isFold, obS, if_neg hx]
      exact if_neg (fun q => q narB1)
    · unfold f_X12_perform
      rw [joE, s_val0 hj, obS, s_val1 hj, obS, s_val2 hj, obS, s_kindAt hj, obS, hk, oN_some, if_neg (show ¬ 10 ≤ 2 by decide), if_neg (show ¬ (nI 2 < 0 ∨ 10 ≤ (nI 2).toNatClampNeg) by decide), if_neg (show ¬ swT.getD (nI 2).toNatClampNeg 0 = 1 by decide), if_neg (show ¬ swT.getD (nI 2).toNatClampNeg 0 = 2 by decide), if_pos (show swT.getD (nI 2).toNatClampNeg 0 = 3 by decide)]
      rw [ea, s_foldCol hR3, obS]
    · unfold f_X13_carries
      rw [qI_succ, show nI (4 * j) + 2 = nI (4 * j + 2) from qI_add (4 * j) 2, show nI (4 * j) + 3 = nI (4 * j + 3) from qI_add (4 * j) 3, if_neg (ixo (show 4 * j + 1 < 124 by omega) (by decide)), if_neg (ixo (show 4 * j + 2 < 124 by omega) (by decide)), if_neg (ixo (show 4 * j + 3 < 124 by omega) (by decide)), if_neg (ixo (show 4 * j < 124 by omega) (by decide)), qI_cl (show 4 * j < 2147483648 by omega), qI_cl (show 4 * j + 1 < 2147483648 by omega), qI_cl (show 4 * j + 2 < 2147483648 by omega), qI_cl (show 4 * j + 3 < 2147483648 by omega), ht, if_neg (show ¬ nI 2 = 0 by decide), if_neg (show ¬ nI 2 = 1 by decide), if_pos (show nI 2 = 2 by decide)]
      rw [h1]
      have hx' := hx
      rw [ea] at hx'
      rw [ea, m_foldColOk hR3 hx' kW r1, obS]
theorem ed_3 {c : Nat → Int32} {t : Int32} {w : Nat → Int32} {p : Int32} {d e : Nat → Int32} {n s r h y : Int32} {L q : Nat → Int32} {qn : Int32} {bn bd nn nd : Nat → Int64} {g kept : Nat → Int32} {ch : Int32} {was region : Nat → Int32} {pa ne : Nat → Int64} {wa mo : Nat → Int32} {wh : Int64} {kinds : Nat → Option Nat} {vs : Nat → Nat → Int32} {told : Nat → Int32} {code : Int32} {j : Nat} (H : RS (c, t, w, p, d, e, n, s, r, h, y) g) (hj : j < 15) (hk : kinds j = some 3) (ht : told (4 * j) = nI 3) (h1 : told (4 * j + 1) = vs j 0) : ED c t w p d e n s r h y L q qn bn bd nn nd g kept ch was region pa ne wa mo wh kinds vs told code j := by
  have H0 := H
  obtain ⟨r1, r2, r3, r4, r5, r6, r7, r8, r9, r10, r11, r12, r13, r14⟩ := H0
  have kW : ∀ code, f_X13_keeps__g g kept ch 1 code = some (kept, ch, 0) := fun code => m_keepsW i10 code
  by_cases hx : ((vs j 0).toUInt32 % 65536).toInt32 = 110 ∨ ((vs j 0).toUInt32 % 65536).toInt32 = 101 ∨ ((vs j 0).toUInt32 % 65536).toInt32 = 115 ∨ ((vs j 0).toUInt32 % 65536).toInt32 = 119
  rotate_left
  · refine Or.inl ⟨?_, 0, g, was, region, pa, ne, wa, mo, wh, 1, ?_, by decide, by decide⟩
    · unfold f_X12_isAllowed
      rw [joE, s_val0 hj, obS, s_val1 hj, obS, s_val2 hj, obS, s_kindAt hj, obS, hk, oN_some, if_neg (show ¬ 10 ≤ 3 by decide), if_neg (show ¬ (nI 3 < 0 ∨ 10 ≤ (nI 3).toNatClampNeg) by decide), if_neg (show ¬ swT.getD (nI 3).toNatClampNeg 0 = 1 by decide), if_neg (show ¬ swT.getD (nI 3).toNatClampNeg 0 = 2 by decide), if_neg (show ¬ swT.getD (nI 3).toNatClampNeg 0 = 3 by decide), if_pos (show swT.getD (nI 3).toNatClampNeg 0 = 4 by decide)]
      rw [s_isDirection, if_neg hx, obS]
      exact if_neg (fun q => q narB0)
    · unfold f_X13_carries
      rw [qI_succ, show nI (4 * j) + 2 = nI (4 * j + 2) from qI_add (4 * j) 2, show nI (4 * j) + 3 = nI (4 * j + 3) from qI_add (4 * j) 3, if_neg (ixo (show 4 * j + 1 < 124 by omega) (by decide)), if_neg (ixo (show 4 * j + 2 < 124 by omega) (by decide)), if_neg (ixo (show 4 * j + 3 < 124 by omega) (by decide)), if_neg (ixo (show 4 * j < 124 by omega) (by decide)), qI_cl (show 4 * j < 2147483648 by omega), qI_cl (show 4 * j + 1 < 2147483648 by omega), qI_cl (show 4 * j + 2 < 2147483648 by omega), qI_cl (show 4 * j + 3 < 2147483648 by omega), ht, if_neg (show ¬ nI 3 = 0 by decide), if_neg (show ¬ nI 3 = 1 by decide), if_neg (show ¬ nI 3 = 2 by decide), if_pos (show nI 3 = 3 by decide)]
      rw [h1, m_shiftBad hx, obS]
  rcases hx with hx | hx | hx | hx
  · refine Or.inr ⟨?_, (SLL ixN 5 0 (0, c)).2, t, w, p, d, e, n, s, r, h, y, L, q, qn, bn, bd, nn, nd, dsum c (SLL ixN 5 0 (0, c)).2, SHN 4 0 (looksOf g was) 25 0 g, looksOf g was, region, pa, ne, wa, mo, wh, ?_, ?_, RS_sheet H (fun k hk => (SHN_n _ _ k hk).trans ((looks_same r1 _ (sgN_lt k hk)).trans (slideN_get _ k hk).symm)) (sg_rng r2 sgN_lt (slideN_get _)) (fun i hi => SHN_out _ _ _ 25 0 _ i hi)⟩
    · unfold f_X12_isAllowed
      rw [joE, s_val0 hj, obS, s_val1 hj, obS, s_val2 hj, obS, s_kindAt hj, obS, hk, oN_some, if_neg (show ¬ 10 ≤ 3 by decide), if_neg (show ¬ (nI 3 < 0 ∨ 10 ≤ (nI 3).toNatClampNeg) by decide), if_neg (show ¬ swT.getD (nI 3).toNatClampNeg 0 = 1 by decide), if_neg (show ¬ swT.getD (nI 3).toNatClampNeg 0 = 2 by decide), if_neg (show ¬ swT.getD (nI 3).toNatClampNeg 0 = 3 by decide), if_pos (show swT.getD (nI 3).toNatClampNeg 0 = 4 by decide)]
      rw [hx, s_dir110, obS]
      exact if_neg (fun q => q narB1)
    · unfold f_X12_perform
      rw [joE, s_val0 hj, obS, s_val1 hj, obS, s_val2 hj, obS, s_kindAt hj, obS, hk, oN_some, if_neg (show ¬ 10 ≤ 3 by decide), if_neg (show ¬ (nI 3 < 0 ∨ 10 ≤ (nI 3).toNatClampNeg) by decide), if_neg (show ¬ swT.getD (nI 3).toNatClampNeg 0 = 1 by decide), if_neg (show ¬ swT.getD (nI 3).toNatClampNeg 0 = 2 by decide), if_neg (show ¬ swT.getD (nI 3).toNatClampNeg 0 = 3 by decide), if_pos (show swT.getD (nI 3).toNatClampNeg 0 = 4 by decide)]
      rw [hx, s_slideN, obS]
    · unfold f_X13_carries
      rw [qI_succ, show nI (4 * j) + 2 = nI (4 * j + 2) from qI_add (4 * j) 2, show nI (4 * j) + 3 = nI (4 * j + 3) from qI_add (4 * j) 3, if_neg (ixo (show 4 * j + 1 < 124 by omega) (by decide)), if_neg (ixo (show 4 * j + 2 < 124 by omega) (by decide)), if_neg (ixo (show 4 * j + 3 < 124 by omega) (by decide)), if_neg (ixo (show 4 * j < 124 by omega) (by decide)), qI_cl (show 4 * j < 2147483648 by omega), qI_cl (show 4 * j + 1 < 2147483648 by omega), qI_cl (show 4 * j + 2 < 2147483648 by omega), qI_cl (show 4 * j + 3 < 2147483648 by omega), ht, if_neg (show ¬ nI 3 = 0 by decide), if_neg (show ¬ nI 3 = 1 by decide), if_neg (show ¬ nI 3 = 2 by decide), if_pos (show nI 3 = 3 by decide)]
      rw [h1, hx, m_shift_n kW r1, obS]
  · refine Or.inr ⟨?_, (SLL ixE 5 0 (0, c)).2, t, w, p, d, e, n, s, r, h, y, L, q, qn, bn, bd, nn, nd, dsum c (SLL ixE 5 0 (0, c)).2, SHN 0 1 (looksOf g was) 25 0 g, looksOf g was, region, pa, ne, wa, mo, wh, ?_, ?_, RS_sheet H (fun k hk => (SHN_e _ _ k hk).trans ((looks_same r1 _ (sgE_lt k hk)).trans (slideE_get _ k hk).symm)) (sg_rng r2 sgE_lt (slideE_get _)) (fun i hi => SHN_out _ _ _ 25 0 _ i hi)⟩
    · unfold f_X12_isAllowed
      rw [joE, s_val0 hj, obS, s_val1 hj, obS, s_val2 hj, obS, s_kindAt hj, obS, hk, oN_some, if_neg (show ¬ 10 ≤ 3 by decide), if_neg (show ¬ (nI 3 < 0 ∨ 10 ≤ (nI 3).toNatClampNeg) by decide), if_neg (show ¬ swT.getD (nI 3).toNatClampNeg 0 = 1 by decide), if_neg (show ¬ swT.getD (nI 3).toNatClampNeg 0 = 2 by decide), if_neg (show ¬ swT.getD (nI 3).toNatClampNeg 0 = 3 by decide), if_pos (show swT.getD (nI 3).toNatClampNeg 0 = 4 by decide)]
      rw [hx, s_dir101, obS]
      exact if_neg (fun q => q narB1)
    · unfold f_X12_perform
      rw [joE, s_val0 hj, obS, s_val1 hj, obS, s_val2 hj, obS, s_kindAt hj, obS, hk, oN_some, if_neg (show ¬ 10 ≤ 3 by decide), if_neg (show ¬ (nI 3 < 0 ∨ 10 ≤ (nI 3).toNatClampNeg) by decide), if_neg (show ¬ swT.getD (nI 3).toNatClampNeg 0 = 1 by decide), if_neg (show ¬ swT.getD (nI 3).toNatClampNeg 0 = 2 by decide), if_neg (show ¬ swT.getD (nI 3).toNatClampNeg 0 = 3 by decide), if_pos (show swT.getD (nI 3).toNatClampNeg 0 = 4 by decide)]
      rw [hx, s_slideE, obS]
    · unfold f_X13_carries
      rw [qI_succ, show nI (4 * j) + 2 = nI (4 * j + 2) from qI_add (4 * j) 2, show nI (4 * j) + 3 = nI (4 * j + 3) from qI_add (4 * j) 3, if_neg (ixo (show 4 * j + 1 < 124 by omega) (by decide)), if_neg (ixo (show 4 * j + 2 < 124 by omega) (by decide)), if_neg (ixo (show 4 * j + 3 < 124 by omega) (by decide)), if_neg (ixo (show 4 * j < 124 by omega) (by decide)), qI_cl (show 4 * j < 2147483648 by omega), qI_cl (show 4 * j + 1 < 2147483648 by omega), qI_cl (show 4 * j + 2 < 2147483648 by omega), qI_cl (show 4 * j + 3 < 2147483648 by omega), ht, if_neg (show ¬ nI 3 = 0 by decide), if_neg (show ¬ nI 3 = 1 by decide), if_neg (show ¬ nI 3 = 2 by decide), if_pos (show nI 3 = 3 by decide)]
      rw [h1, hx, m_shift_e kW r1, obS]
  · refine Or.inr ⟨?_, (SLL ixS 5 0 (0, c)).2, t, w, p, d, e, n, s, r, h, y, L, q, qn, bn, bd, nn, nd, dsum c (SLL ixS 5 0 (0, c)).2, SHN 1 0 (looksOf g was) 25 0 g, looksOf g was, region, pa, ne, wa, mo, wh, ?_, ?_, RS_sheet H (fun k hk => (SHN_s _ _ k hk).trans ((looks_same r1 _ (sgS_lt k hk)).trans (slideS_get _ k hk).symm)) (sg_rng r2 sgS_lt (slideS_get _)) (fun i hi => SHN_out _ _ _ 25 0 _ i hi)⟩
    · unfold f_X12_isAllowed
      rw [joE, s_val0 hj, obS, s_val1 hj, obS, s_val2 hj, obS, s_kindAt hj, obS, hk, oN_some, if_neg (show ¬ 10 ≤ 3 by decide), if_neg (show ¬ (nI 3 < 0 ∨ 10 ≤ (nI 3).toNatClampNeg) by decide), if_neg (show ¬ swT.getD (nI 3).toNatClampNeg 0 = 1 by decide), if_neg (show ¬ swT.getD (nI 3).toNatClampNeg 0 = 2 by decide), if_neg (show ¬ swT.getD (nI 3).toNatClampNeg 0 = 3 by decide), if_pos (show swT.getD (nI 3).toNatClampNeg 0 = 4 by decide)]
      rw [hx, s_dir115, obS]
      exact if_neg (fun q => q narB1)
    · unfold f_X12_perform
      rw [joE, s_val0 hj, obS, s_val1 hj, obS, s_val2 hj, obS, s_kindAt hj, obS, hk, oN_some, if_neg (show ¬ 10 ≤ 3 by decide), if_neg (show ¬ (nI 3 < 0 ∨ 10 ≤ (nI 3).toNatClampNeg) by decide), if_neg (show ¬ swT.getD (nI 3).toNatClampNeg 0 = 1 by decide), if_neg (show ¬ swT.getD (nI 3).toNatClampNeg 0 = 2 by decide), if_neg (show ¬ swT.getD (nI 3).toNatClampNeg 0 = 3 by decide), if_pos (show swT.getD (nI 3).toNatClampNeg 0 = 4 by decide)]
      rw [hx, s_slideS, obS]
    · unfold f_X13_carries
      rw [qI_succ, show nI (4 * j) + 2 = nI (4 * j + 2) from qI_add (4 * j) 2, show nI (4 * j) + 3 = nI (4 * j + 3) from qI_add (4 * j) 3, if_neg (ixo (show 4 * j + 1 < 124 by omega) (by decide)), if_neg (ixo (show 4 * j + 2 < 124 by omega) (by decide)), if_neg (ixo (show 4 * j + 3 < 124 by omega) (by decide)), if_neg (ixo (show 4 * j < 124 by omega) (by decide)), qI_cl (show 4 * j < 2147483648 by omega), qI_cl (show 4 * j + 1 < 2147483648 by omega), qI_cl (show 4 * j + 2 < 2147483648 by omega), qI_cl (show 4 * j + 3 < 2147483648 by omega), ht, if_neg (show ¬ nI 3 = 0 by decide), if_neg (show ¬ nI 3 = 1 by decide), if_neg (show ¬ nI 3 = 2 by decide), if_pos (show nI 3 = 3 by decide)]
      rw [h1, hx, m_shift_s kW r1, obS]
  · refine Or.inr ⟨?_, (SLL ixW 5 0 (0, c)).2, t, w, p, d, e, n, s, r, h, y, L, q, qn, bn, bd, nn, nd, dsum c (SLL ixW 5 0 (0, c)).2, SHN 0 4 (looksOf g was) 25 0 g, looksOf g was, region, pa, ne, wa, mo, wh, ?_, ?_, RS_sheet H (fun k hk => (SHN_w _ _ k hk).trans ((looks_same r1 _ (sgW_lt k hk)).trans (slideW_get _ k hk).symm)) (sg_rng r2 sgW_lt (slideW_get _)) (fun i hi => SHN_out _ _ _ 25 0 _ i hi)⟩
    · unfold f_X12_isAllowed
      rw [joE, s_val0 hj, obS, s_val1 hj, obS, s_val2 hj, obS, s_kindAt hj, obS, hk, oN_some, if_neg (show ¬ 10 ≤ 3 by decide), if_neg (show ¬ (nI 3 < 0 ∨ 10 ≤ (nI 3).toNatClampNeg) by decide), if_neg (show ¬ swT.getD (nI 3).toNatClampNeg 0 = 1 by decide), if_neg (show ¬ swT.getD (nI 3).toNatClampNeg 0 = 2 by decide), if_neg (show ¬ swT.getD (nI 3).toNatClampNeg 0 = 3 by decide), if_pos (show swT.getD (nI 3).toNatClampNeg 0 = 4 by decide)]
      rw [hx, s_dir119, obS]
      exact if_neg (fun q => q narB1)
    · unfold f_X12_perform
      rw [joE, s_val0 hj, obS, s_val1 hj, obS, s_val2 hj, obS, s_kindAt hj, obS, hk, oN_some, if_neg (show ¬ 10 ≤ 3 by decide), if_neg (show ¬ (nI 3 < 0 ∨ 10 ≤ (nI 3).toNatClampNeg) by decide), if_neg (show ¬ swT.getD (nI 3).toNatClampNeg 0 = 1 by decide), if_neg (show ¬ swT.getD (nI 3).toNatClampNeg 0 = 2 by decide), if_neg (show ¬ swT.getD (nI 3).toNatClampNeg 0 = 3 by decide), if_pos (show swT.getD (nI 3).toNatClampNeg 0 = 4 by decide)]
      rw [hx, s_slideW, obS]
    · unfold f_X13_carries
      rw [qI_succ, show nI (4 * j) + 2 = nI (4 * j + 2) from qI_add (4 * j) 2, show nI (4 * j) + 3 = nI (4 * j + 3) from qI_add (4 * j) 3, if_neg (ixo (show 4 * j + 1 < 124 by omega) (by decide)), if_neg (ixo (show 4 * j + 2 < 124 by omega) (by decide)), if_neg (ixo (show 4 * j + 3 < 124 by omega) (by decide)), if_neg (ixo (show 4 * j < 124 by omega) (by decide)), qI_cl (show 4 * j < 2147483648 by omega), qI_cl (show 4 * j + 1 < 2147483648 by omega), qI_cl (show 4 * j + 2 < 2147483648 by omega), qI_cl (show 4 * j + 3 < 2147483648 by omega), ht, if_neg (show ¬ nI 3 = 0 by decide), if_neg (show ¬ nI 3 = 1 by decide), if_neg (show ¬ nI 3 = 2 by decide), if_pos (show nI 3 = 3 by decide)]
      rw [h1, hx, m_shift_w kW r1, obS]
theorem ed_4 {c : Nat → Int32} {t : Int32} {w : Nat → Int32} {p : Int32} {d e : Nat → Int32} {n s r h y : Int32} {L q : Nat → Int32} {qn : Int32} {bn bd nn nd : Nat → Int64} {g kept : Nat → Int32} {ch : Int32} {was region : Nat → Int32} {pa ne : Nat → Int64} {wa mo : Nat → Int32} {wh : Int64} {kinds : Nat → Option Nat} {vs : Nat → Nat → Int32} {told : Nat → Int32} {code : Int32} {j : Nat} (H : RS (c, t, w, p, d, e, n, s, r, h, y) g) (hj : j < 15) (hk : kinds j = some 4) (ht : told (4 * j) = nI 4) (h1 : told (4 * j + 1) = vs j 0) : ED c t w p d e n s r h y L q qn bn bd nn nd g kept ch was region pa ne wa mo wh kinds vs told code j := by
  have H0 := H
  obtain ⟨r1, r2, r3, r4, r5, r6, r7, r8, r9, r10, r11, r12, r13, r14⟩ := H0
  have kW : ∀ code, f_X13_keeps__g g kept ch 1 code = some (kept, ch, 0) := fun code => m_keepsW i10 code
  by_cases hx : vs j 0 < 1 ∨ 50 < vs j 0
  · refine Or.inl ⟨?_, 0, g, was, region, pa, ne, wa, mo, wh, 1, ?_, by decide, by decide⟩
    · unfold f_X12_isAllowed
      rw [joE, s_val0 hj, obS, s_val1 hj, obS, s_val2 hj, obS, s_kindAt hj, obS, hk, oN_some, if_neg (show ¬ 10 ≤ 4 by decide), if_neg (show ¬ (nI 4 < 0 ∨ 10 ≤ (nI 4).toNatClampNeg) by decide), if_neg (show ¬ swT.getD (nI 4).toNatClampNeg 0 = 1 by decide), if_neg (show ¬ swT.getD (nI 4).toNatClampNeg 0 = 2 by decide), if_neg (show ¬ swT.getD (nI 4).toNatClampNeg 0 = 3 by decide), if_neg (show ¬ swT.getD (nI 4).toNatClampNeg 0 = 4 by decide), if_pos (show swT.getD (nI 4).toNatClampNeg 0 = 5 by decide)]
      rw [s_isThreshold, if_pos hx, obS]
      exact if_neg (fun q => q narB0)
    · unfold f_X13_carries
      rw [qI_succ, show nI (4 * j) + 2 = nI (4 * j + 2) from qI_add (4 * j) 2, show nI (4 * j) + 3 = nI (4 * j + 3) from qI_add (4 * j) 3, if_neg (ixo (show 4 * j + 1 < 124 by omega) (by decide)), if_neg (ixo (show 4 * j + 2 < 124 by omega) (by decide)), if_neg (ixo (show 4 * j + 3 < 124 by omega) (by decide)), if_neg (ixo (show 4 * j < 124 by omega) (by decide)), qI_cl (show 4 * j < 2147483648 by omega), qI_cl (show 4 * j + 1 < 2147483648 by omega), qI_cl (show 4 * j + 2 < 2147483648 by omega), qI_cl (show 4 * j + 3 < 2147483648 by omega), ht, if_neg (show ¬ nI 4 = 0 by decide), if_neg (show ¬ nI 4 = 1 by decide), if_neg (show ¬ nI 4 = 2 by decide), if_neg (show ¬ nI 4 = 3 by decide), if_pos (show nI 4 = 4 by decide)]
      rw [h1]
      unfold f_X13_setThreshold
      simp only [s_in, if_pos hx, obS, if_true, if_false, joE, m_fails1, i10]
  · obtain ⟨v, v1, v2, ev⟩ := in_rng (lo := 1) (hi := 50) (by decide) (by decide) hx
    · refine Or.inr ⟨?_, c, nI v, w, p, d, e, n, s, r, h, y, L, q, qn, bn, bd, nn, nd, t, upd g 2 (nI v), was, region, pa, ne, wa, mo, wh, ?_, ?_, RS_thr H v1 v2⟩
      · unfold f_X12_isAllowed
        rw [joE, s_val0 hj, obS, s_val1 hj, obS, s_val2 hj, obS, s_kindAt hj, obS, hk, oN_some, if_neg (show ¬ 10 ≤ 4 by decide), if_neg (show ¬ (nI 4 < 0 ∨ 10 ≤ (nI 4).toNatClampNeg) by decide), if_neg (show ¬ swT.getD (nI 4).toNatClampNeg 0 = 1 by decide), if_neg (show ¬ swT.getD (nI 4).toNatClampNeg 0 = 2 by decide), if_neg (show ¬ swT.getD (nI 4).toNatClampNeg 0 = 3 by decide), if_neg (show ¬ swT.getD (nI 4).toNatClampNeg 0 = 4 by decide), if_pos (show swT.getD (nI 4).toNatClampNeg 0 = 5 by decide)]
        rw [s_isThreshold, if_neg hx, obS]
        exact if_neg (fun q => q narB1)
      · unfold f_X12_perform
        rw [joE, s_val0 hj, obS, s_val1 hj, obS, s_val2 hj, obS, s_kindAt hj, obS, hk, oN_some, if_neg (show ¬ 10 ≤ 4 by decide), if_neg (show ¬ (nI 4 < 0 ∨ 10 ≤ (nI 4).toNatClampNeg) by decide), if_neg (show ¬ swT.getD (nI 4).toNatClampNeg 0 = 1 by decide), if_neg (show ¬ swT.getD (nI 4).toNatClampNeg 0 = 2 by decide), if_neg (show ¬ swT.getD (nI 4).toNatClampNeg 0 = 3 by decide), if_neg (show ¬ swT.getD (nI 4).toNatClampNeg 0 = 4 by decide), if_pos (show swT.getD (nI 4).toNatClampNeg 0 = 5 by decide)]
        rw [ev]
      · unfold f_X13_carries
        rw [qI_succ, show nI (4 * j) + 2 = nI (4 * j + 2) from qI_add (4 * j) 2, show nI (4 * j) + 3 = nI (4 * j + 3) from qI_add (4 * j) 3, if_neg (ixo (show 4 * j + 1 < 124 by omega) (by decide)), if_neg (ixo (show 4 * j + 2 < 124 by omega) (by decide)), if_neg (ixo (show 4 * j + 3 < 124 by omega) (by decide)), if_neg (ixo (show 4 * j < 124 by omega) (by decide)), qI_cl (show 4 * j < 2147483648 by omega), qI_cl (show 4 * j + 1 < 2147483648 by omega), qI_cl (show 4 * j + 2 < 2147483648 by omega), qI_cl (show 4 * j + 3 < 2147483648 by omega), ht, if_neg (show ¬ nI 4 = 0 by decide), if_neg (show ¬ nI 4 = 1 by decide), if_neg (show ¬ nI 4 = 2 by decide), if_neg (show ¬ nI 4 = 3 by decide), if_pos (show nI 4 = 4 by decide)]
        rw [h1]
        unfold f_X13_setThreshold
        simp only [s_in, if_neg hx, obS, i10, if_false, if_true, joE, m_fails0, kW]
        rw [show g (2 : Int32).toNatClampNeg = t from r3, ev]
        rfl
theorem ed_5 {c : Nat → Int32} {t : Int32} {w : Nat → Int32} {p : Int32} {d e : Nat → Int32} {n s r h y : Int32} {L q : Nat → Int32} {qn : Int32} {bn bd nn nd : Nat → Int64} {g kept : Nat → Int32} {ch : Int32} {was region : Nat → Int32} {pa ne : Nat → Int64} {wa mo : Nat → Int32} {wh : Int64} {kinds : Nat → Option Nat} {vs : Nat → Nat → Int32} {told : Nat → Int32} {code : Int32} {j : Nat} (H : RS (c, t, w, p, d, e, n, s, r, h, y) g) (hj : j < 15) (hk : kinds j = some 5) (ht : told (4 * j) = nI 5) (h1 : told (4 * j + 1) = vs j 0) (h2 : told (4 * j + 2) = vs j 1) (h3 : told (4 * j + 3) = vs j 2) : ED c t w p d e n s r h y L q qn bn bd nn nd g kept ch was region pa ne wa mo wh kinds vs told code j := by
  have H0 := H
  obtain ⟨r1, r2, r3, r4, r5, r6, r7, r8, r9, r10, r11, r12, r13, r14⟩ := H0
  have kW : ∀ code, f_X13_keeps__g g kept ch 1 code = some (kept, ch, 0) := fun code => m_keepsW i10 code
  have hW : W4 w := r6
  rcases w_cases (vs j 0) with h_1 | ⟨h_1, a, ha, ea⟩
  · refine Or.inl ⟨?_, 0, g, was, region, pa, ne, wa, mo, wh, 1, ?_, by decide, by decide⟩
    · unfold f_X12_isAllowed
      rw [joE, s_val0 hj, obS, s_val1 hj, obS, s_val2 hj, obS, s_kindAt hj, obS, hk, oN_some, if_neg (show ¬ 10 ≤ 5 by decide), if_neg (show ¬ (nI 5 < 0 ∨ 10 ≤ (nI 5).toNatClampNeg) by decide), if_neg (show ¬ swT.getD (nI 5).toNatClampNeg 0 = 1 by decide), if_neg (show ¬ swT.getD (nI 5).toNatClampNeg 0 = 2 by decide), if_neg (show ¬ swT.getD (nI 5).toNatClampNeg 0 = 3 by decide), if_neg (show ¬ swT.getD (nI 5).toNatClampNeg 0 = 4 by decide), if_neg (show ¬ swT.getD (nI 5).toNatClampNeg 0 = 5 by decide), if_pos (show swT.getD (nI 5).toNatClampNeg 0 = 6 by decide)]
      rw [joE, joE, s_isWeather, if_pos h_1, obS, if_pos rfl]
      exact if_neg (fun q => q narB0)
    · unfold f_X13_carries
      rw [qI_succ, show nI (4 * j) + 2 = nI (4 * j + 2) from qI_add (4 * j) 2, show nI (4 * j) + 3 = nI (4 * j + 3) from qI_add (4 * j) 3, if_neg (ixo (show 4 * j + 1 < 124 by omega) (by decide)), if_neg (ixo (show 4 * j + 2 < 124 by omega) (by decide)), if_neg (ixo (show 4 * j + 3 < 124 by omega) (by decide)), if_neg (ixo (show 4 * j < 124 by omega) (by decide)), qI_cl (show 4 * j < 2147483648 by omega), qI_cl (show 4 * j + 1 < 2147483648 by omega), qI_cl (show 4 * j + 2 < 2147483648 by omega), qI_cl (show 4 * j + 3 < 2147483648 by omega), ht, if_neg (show ¬ nI 5 = 0 by decide), if_neg (show ¬ nI 5 = 1 by decide), if_neg (show ¬ nI 5 = 2 by decide), if_neg (show ¬ nI 5 = 3 by decide), if_neg (show ¬ nI 5 = 4 by decide), if_pos (show nI 5 = 5 by decide)]
      rw [h1, h2, h3]
      unfold f_X13_setWeight
      simp only [m_isSort, if_pos h_1, obS, if_true, if_false, joE, m_fails1, i10]
  rcases w_cases (vs j 1) with h_2 | ⟨h_2, b, hb, eb⟩
  · refine Or.inl ⟨?_, 0, g, was, region, pa, ne, wa, mo, wh, 1, ?_, by decide, by decide⟩
    · unfold f_X12_isAllowed
      rw [joE, s_val0 hj, obS, s_val1 hj, obS, s_val2 hj, obS, s_kindAt hj, obS, hk, oN_some, if_neg (show ¬ 10 ≤ 5 by decide), if_neg (show ¬ (nI 5 < 0 ∨ 10 ≤ (nI 5).toNatClampNeg) by decide), if_neg (show ¬ swT.getD (nI 5).toNatClampNeg 0 = 1 by decide), if_neg (show ¬ swT.getD (nI 5).toNatClampNeg 0 = 2 by decide), if_neg (show ¬ swT.getD (nI 5).toNatClampNeg 0 = 3 by decide), if_neg (show ¬ swT.getD (nI 5).toNatClampNeg 0 = 4 by decide), if_neg (show ¬ swT.getD (nI 5).toNatClampNeg 0 = 5 by decide), if_pos (show swT.getD (nI 5).toNatClampNeg 0 = 6 by decide)]
      rw [joE, joE, s_isWeather, if_neg h_1, obS, if_neg i10, s_isWeather, if_pos h_2, obS, if_pos rfl]
      exact if_neg (fun q => q narB0)
    · unfold f_X13_carries
      rw [qI_succ, show nI (4 * j) + 2 = nI (4 * j + 2) from qI_add (4 * j) 2, show nI (4 * j) + 3 = nI (4 * j + 3) from qI_add (4 * j) 3, if_neg (ixo (show 4 * j + 1 < 124 by omega) (by decide)), if_neg (ixo (show 4 * j + 2 < 124 by omega) (by decide)), if_neg (ixo (show 4 * j + 3 < 124 by omega) (by decide)), if_neg (ixo (show 4 * j < 124 by omega) (by decide)), qI_cl (show 4 * j < 2147483648 by omega), qI_cl (show 4 * j + 1 < 2147483648 by omega), qI_cl (show 4 * j + 2 < 2147483648 by omega), qI_cl (show 4 * j + 3 < 2147483648 by omega), ht, if_neg (show ¬ nI 5 = 0 by decide), if_neg (show ¬ nI 5 = 1 by decide), if_neg (show ¬ nI 5 = 2 by decide), if_neg (show ¬ nI 5 = 3 by decide), if_neg (show ¬ nI 5 = 4 by decide), if_pos (show nI 5 = 5 by decide)]
      rw [h1, h2, h3]
      unfold f_X13_setWeight
      simp only [m_isSort, if_neg h_1, if_pos h_2, obS, if_true, if_false, joE, m_fails1, i10]
  by_cases h_3 : vs j 2 < 0 ∨ 3 < vs j 2
  · refine Or.inl ⟨?_, 0, g, was, region, pa, ne, wa, mo, wh, 1, ?_, by decide, by decide⟩
    · unfold f_X12_isAllowed
      rw [joE, s_val0 hj, obS, s_val1 hj, obS, s_val2 hj, obS, s_kindAt hj, obS, hk, oN_some, if_neg (show ¬ 10 ≤ 5 by decide), if_neg (show ¬ (nI 5 < 0 ∨ 10 ≤ (nI 5).toNatClampNeg) by decide), if_neg (show ¬ swT.getD (nI 5).toNatClampNeg 0 = 1 by decide), if_neg (show ¬ swT.getD (nI 5).toNatClampNeg 0 = 2 by decide), if_neg (show ¬ swT.getD (nI 5).toNatClampNeg 0 = 3 by decide), if_neg (show ¬ swT.getD (nI 5).toNatClampNeg 0 = 4 by decide), if_neg (show ¬ swT.getD (nI 5).toNatClampNeg 0 = 5 by decide), if_pos (show swT.getD (nI 5).toNatClampNeg 0 = 6 by decide)]
      rw [joE, joE, s_isWeather, if_neg h_1, obS, if_neg i10, s_isWeather, if_neg h_2, obS, if_neg i10, s_isWeight, if_pos h_3, obS, if_pos rfl]
      exact if_neg (fun q => q narB0)
    · unfold f_X13_carries
      rw [qI_succ, show nI (4 * j) + 2 = nI (4 * j + 2) from qI_add (4 * j) 2, show nI (4 * j) + 3 = nI (4 * j + 3) from qI_add (4 * j) 3, if_neg (ixo (show 4 * j + 1 < 124 by omega) (by decide)), if_neg (ixo (show 4 * j + 2 < 124 by omega) (by decide)), if_neg (ixo (show 4 * j + 3 < 124 by omega) (by decide)), if_neg (ixo (show 4 * j < 124 by omega) (by decide)), qI_cl (show 4 * j < 2147483648 by omega), qI_cl (show 4 * j + 1 < 2147483648 by omega), qI_cl (show 4 * j + 2 < 2147483648 by omega), qI_cl (show 4 * j + 3 < 2147483648 by omega), ht, if_neg (show ¬ nI 5 = 0 by decide), if_neg (show ¬ nI 5 = 1 by decide), if_neg (show ¬ nI 5 = 2 by decide), if_neg (show ¬ nI 5 = 3 by decide), if_neg (show ¬ nI 5 = 4 by decide), if_pos (show nI 5 = 5 by decide)]
      rw [h1, h2, h3]
      unfold f_X13_setWeight
      simp only [m_isSort, s_in, if_neg h_1, if_neg h_2, if_pos h_3, obS, if_true, if_false, joE, m_fails1, i10]
  obtain ⟨v, -, hv, ev⟩ := in_rng (lo := 0) (hi := 3) (by decide) (by decide) h_3
  have hv4 : v < 4 := by omega
  have hsum := m_wsum r5 hW ha
  have hwe := m_weighs r5 ha hb
  have hke := keepE hW ha hb hv4
  have h_1' := h_1
  have h_2' := h_2
  have h_3' := h_3
  rw [ea] at h_1'
  rw [eb] at h_2'
  rw [ev] at h_3'
  by_cases h0 : wsm w a - wx w a b + v = 0
  · refine Or.inl ⟨?_, 0, g, was, region, pa, ne, wa, mo, wh, 2, ?_, by decide, by decide⟩
    · unfold f_X12_isAllowed
      rw [joE, s_val0 hj, obS, s_val1 hj, obS, s_val2 hj, obS, s_kindAt hj, obS, hk, oN_some, if_neg (show ¬ 10 ≤ 5 by decide), if_neg (show ¬ (nI 5 < 0 ∨ 10 ≤ (nI 5).toNatClampNeg) by decide), if_neg (show ¬ swT.getD (nI 5).toNatClampNeg 0 = 1 by decide), if_neg (show ¬ swT.getD (nI 5).toNatClampNeg 0 = 2 by decide), if_neg (show ¬ swT.getD (nI 5).toNatClampNeg 0 = 3 by decide), if_neg (show ¬ swT.getD (nI 5).toNatClampNeg 0 = 4 by decide), if_neg (show ¬ swT.getD (nI 5).toNatClampNeg 0 = 5 by decide), if_pos (show swT.getD (nI 5).toNatClampNeg 0 = 6 by decide)]
      rw [joE, joE, s_isWeather, if_neg h_1, obS, if_neg i10, s_isWeather, if_neg h_2, obS, if_neg i10, s_isWeight, if_neg h_3, obS, if_neg i10, ea, eb, ev, s_keepsA hW ha hb hv4, if_pos h0, obS, if_pos rfl]
      exact if_neg (fun q => q narB0)
    · unfold f_X13_carries
      rw [qI_succ, show nI (4 * j) + 2 = nI (4 * j + 2) from qI_add (4 * j) 2, show nI (4 * j) + 3 = nI (4 * j + 3) from qI_add (4 * j) 3, if_neg (ixo (show 4 * j + 1 < 124 by omega) (by decide)), if_neg (ixo (show 4 * j + 2 < 124 by omega) (by decide)), if_neg (ixo (show 4 * j + 3 < 124 by omega) (by decide)), if_neg (ixo (show 4 * j < 124 by omega) (by decide)), qI_cl (show 4 * j < 2147483648 by omega), qI_cl (show 4 * j + 1 < 2147483648 by omega), qI_cl (show 4 * j + 2 < 2147483648 by omega), qI_cl (show 4 * j + 3 < 2147483648 by omega), ht, if_neg (show ¬ nI 5 = 0 by decide), if_neg (show ¬ nI 5 = 1 by decide), if_neg (show ¬ nI 5 = 2 by decide), if_neg (show ¬ nI 5 = 3 by decide), if_neg (show ¬ nI 5 = 4 by decide), if_pos (show nI 5 = 5 by decide)]
      rw [h1, h2, h3, ea, eb, ev]
      unfold f_X13_setWeight
      simp only [m_isSort, s_in, if_neg h_1', if_neg h_2', if_neg h_3', obS, if_true, if_false, joE, i10, hsum, hwe]
      rw [if_pos (hke.mpr h0)]
      simp only [m_fails2, obS, i10, if_false]
  · refine Or.inr ⟨?_, c, t, upd w (4 * a + b) (nI v), p, d, e, n, s, r, h, y, L, q, qn, bn, bd, nn, nd, w (4 * a + b), upd g (32 + (4 * a + b)) (nI v), was, region, pa, ne, wa, mo, wh, ?_, ?_, RS_w H ha hb hv4 h0⟩
    · unfold f_X12_isAllowed
      rw [joE, s_val0 hj, obS, s_val1 hj, obS, s_val2 hj, obS, s_kindAt hj, obS, hk, oN_some, if_neg (show ¬ 10 ≤ 5 by decide), if_neg (show ¬ (nI 5 < 0 ∨ 10 ≤ (nI 5).toNatClampNeg) by decide), if_neg (show ¬ swT.getD (nI 5).toNatClampNeg 0 = 1 by decide), if_neg (show ¬ swT.getD (nI 5).toNatClampNeg 0 = 2 by decide), if_neg (show ¬ swT.getD (nI 5).toNatClampNeg 0 = 3 by decide), if_neg (show ¬ swT.getD (nI 5).toNatClampNeg 0 = 4 by decide), if_neg (show ¬ swT.getD (nI 5).toNatClampNeg 0 = 5 by decide), if_pos (show swT.getD (nI 5).toNatClampNeg 0 = 6 by decide)]
      rw [joE, joE, s_isWeather, if_neg h_1, obS, if_neg i10, s_isWeather, if_neg h_2, obS, if_neg i10, s_isWeight, if_neg h_3, obS, if_neg i10, ea, eb, ev, s_keepsA hW ha hb hv4, if_neg h0, obS, if_neg i10]
      exact if_neg (fun q => q narB1)
    · unfold f_X12_perform
      rw [joE, s_val0 hj, obS, s_val1 hj, obS, s_val2 hj, obS, s_kindAt hj, obS, hk, oN_some, if_neg (show ¬ 10 ≤ 5 by decide), if_neg (show ¬ (nI 5 < 0 ∨ 10 ≤ (nI 5).toNatClampNeg) by decide), if_neg (show ¬ swT.getD (nI 5).toNatClampNeg 0 = 1 by decide), if_neg (show ¬ swT.getD (nI 5).toNatClampNeg 0 = 2 by decide), if_neg (show ¬ swT.getD (nI 5).toNatClampNeg 0 = 3 by decide), if_neg (show ¬ swT.getD (nI 5).toNatClampNeg 0 = 4 by decide), if_neg (show ¬ swT.getD (nI 5).toNatClampNeg 0 = 5 by decide), if_pos (show swT.getD (nI 5).toNatClampNeg 0 = 6 by decide)]
      rw [ea, eb, ev, s_putW _ ha hb, obS]
    · unfold f_X13_carries
      rw [qI_succ, show nI (4 * j) + 2 = nI (4 * j + 2) from qI_add (4 * j) 2, show nI (4 * j) + 3 = nI (4 * j + 3) from qI_add (4 * j) 3, if_neg (ixo (show 4 * j + 1 < 124 by omega) (by decide)), if_neg (ixo (show 4 * j + 2 < 124 by omega) (by decide)), if_neg (ixo (show 4 * j + 3 < 124 by omega) (by decide)), if_neg (ixo (show 4 * j < 124 by omega) (by decide)), qI_cl (show 4 * j < 2147483648 by omega), qI_cl (show 4 * j + 1 < 2147483648 by omega), qI_cl (show 4 * j + 2 < 2147483648 by omega), qI_cl (show 4 * j + 3 < 2147483648 by omega), ht, if_neg (show ¬ nI 5 = 0 by decide), if_neg (show ¬ nI 5 = 1 by decide), if_neg (show ¬ nI 5 = 2 by decide), if_neg (show ¬ nI 5 = 3 by decide), if_neg (show ¬ nI 5 = 4 by decide), if_pos (show nI 5 = 5 by decide)]
      rw [h1, h2, h3, ea, eb, ev]
      unfold f_X13_setWeight
      simp only [m_isSort, s_in, if_neg h_1', if_neg h_2', if_neg h_3', obS, if_true, if_false, joE, i10, hsum, hwe]
      rw [if_neg (fun z => h0 (hke.mp z))]
      simp only [m_fails0, obS, if_true, kW, wcell ha hb]
      rw [if_neg (ixo (show 32 + (4 * a + b) < 60 by omega) (by decide)), qI_cl (show 32 + (4 * a + b) < 2147483648 by omega)]
      rfl
theorem ed_6 {c : Nat → Int32} {t : Int32} {w : Nat → Int32} {p : Int32} {d e : Nat → Int32} {n s r h y : Int32} {L q : Nat → Int32} {qn : Int32} {bn bd nn nd : Nat → Int64} {g kept : Nat → Int32} {ch : Int32} {was region : Nat → Int32} {pa ne : Nat → Int64} {wa mo : Nat → Int32} {wh : Int64} {kinds : Nat → Option Nat} {vs : Nat → Nat → Int32} {told : Nat → Int32} {code : Int32} {j : Nat} (H : RS (c, t, w, p, d, e, n, s, r, h, y) g) (hj : j < 15) (hk : kinds j = some 6) (ht : told (4 * j) = nI 6) (h1 : told (4 * j + 1) = vs j 0) : ED c t w p d e n s r h y L q qn bn bd nn nd g kept ch was region pa ne wa mo wh kinds vs told code j := by
  have kW : ∀ code, f_X13_keeps__g g kept ch 1 code = some (kept, ch, 0) := fun code => m_keepsW i10 code
  obtain ⟨fn, hf6, hfn, hg3, hfr⟩ := H.2.2.2.2.2.2.2.2.2.1
  have hfn' : n = nI fn := hfn
  subst hfn'
  rcases fold_cases (vs j 0) with hx | ⟨hx, R, hR3, ea⟩
  · refine Or.inl ⟨?_, 0, g, was, region, pa, ne, wa, mo, wh, 1, ?_, by decide, by decide⟩
    · unfold f_X12_isAllowed
      rw [joE, s_val0 hj, obS, s_val1 hj, obS, s_val2 hj, obS, s_kindAt hj, obS, hk, oN_some, if_neg (show ¬ 10 ≤ 6 by decide), if_neg (show ¬ (nI 6 < 0 ∨ 10 ≤ (nI 6).toNatClampNeg) by decide), if_neg (show ¬ swT.getD (nI 6).toNatClampNeg 0 = 1 by decide), if_neg (show ¬ swT.getD (nI 6).toNatClampNeg 0 = 2 by decide), if_neg (show ¬ swT.getD (nI 6).toNatClampNeg 0 = 3 by decide), if_neg (show ¬ swT.getD (nI 6).toNatClampNeg 0 = 4 by decide), if_neg (show ¬ swT.getD (nI 6).toNatClampNeg 0 = 5 by decide), if_neg (show ¬ swT.getD (nI 6).toNatClampNeg 0 = 6 by decide), if_pos (show swT.getD (nI 6).toNatClampNeg 0 = 7 by decide)]
      rw [joE, joE, s_isAhead, if_pos hx, obS, if_pos rfl]
      exact if_neg (fun q => q narB0)
    · unfold f_X13_carries
      rw [qI_succ, show nI (4 * j) + 2 = nI (4 * j + 2) from qI_add (4 * j) 2, show nI (4 * j) + 3 = nI (4 * j + 3) from qI_add (4 * j) 3, if_neg (ixo (show 4 * j + 1 < 124 by omega) (by decide)), if_neg (ixo (show 4 * j + 2 < 124 by omega) (by decide)), if_neg (ixo (show 4 * j + 3 < 124 by omega) (by decide)), if_neg (ixo (show 4 * j < 124 by omega) (by decide)), qI_cl (show 4 * j < 2147483648 by omega), qI_cl (show 4 * j + 1 < 2147483648 by omega), qI_cl (show 4 * j + 2 < 2147483648 by omega), qI_cl (show 4 * j + 3 < 2147483648 by omega), ht, if_neg (show ¬ nI 6 = 0 by decide), if_neg (show ¬ nI 6 = 1 by decide), if_neg (show ¬ nI 6 = 2 by decide), if_neg (show ¬ nI 6 = 3 by decide), if_neg (show ¬ nI 6 = 4 by decide), if_neg (show ¬ nI 6 = 5 by decide), if_pos (show nI 6 = 6 by decide)]
      rw [h1]
      unfold f_X13_issue
      simp only [joE, s_in, if_pos hx, obS, if_true, m_fails1, i10, if_false]
  by_cases h6 : fn = 6
  · refine Or.inl ⟨?_, 0, g, was, region, pa, ne, wa, mo, wh, 2, ?_, by decide, by decide⟩
    · unfold f_X12_isAllowed
      rw [joE, s_val0 hj, obS, s_val1 hj, obS, s_val2 hj, obS, s_kindAt hj, obS, hk, oN_some, if_neg (show ¬ 10 ≤ 6 by decide), if_neg (show ¬ (nI 6 < 0 ∨ 10 ≤ (nI 6).toNatClampNeg) by decide), if_neg (show ¬ swT.getD (nI 6).toNatClampNeg 0 = 1 by decide), if_neg (show ¬ swT.getD (nI 6).toNatClampNeg 0 = 2 by decide), if_neg (show ¬ swT.getD (nI 6).toNatClampNeg 0 = 3 by decide), if_neg (show ¬ swT.getD (nI 6).toNatClampNeg 0 = 4 by decide), if_neg (show ¬ swT.getD (nI 6).toNatClampNeg 0 = 5 by decide), if_neg (show ¬ swT.getD (nI 6).toNatClampNeg 0 = 6 by decide), if_pos (show swT.getD (nI 6).toNatClampNeg 0 = 7 by decide)]
      rw [joE, joE, s_isAhead, if_neg hx, obS, if_neg i10, s_fRoom hf6, if_pos h6, obS, if_pos rfl]
      exact if_neg (fun q => q narB0)
    · unfold f_X13_carries
      rw [qI_succ, show nI (4 * j) + 2 = nI (4 * j + 2) from qI_add (4 * j) 2, show nI (4 * j) + 3 = nI (4 * j + 3) from qI_add (4 * j) 3, if_neg (ixo (show 4 * j + 1 < 124 by omega) (by decide)), if_neg (ixo (show 4 * j + 2 < 124 by omega) (by decide)), if_neg (ixo (show 4 * j + 3 < 124 by omega) (by decide)), if_neg (ixo (show 4 * j < 124 by omega) (by decide)), qI_cl (show 4 * j < 2147483648 by omega), qI_cl (show 4 * j + 1 < 2147483648 by omega), qI_cl (show 4 * j + 2 < 2147483648 by omega), qI_cl (show 4 * j + 3 < 2147483648 by omega), ht, if_neg (show ¬ nI 6 = 0 by decide), if_neg (show ¬ nI 6 = 1 by decide), if_neg (show ¬ nI 6 = 2 by decide), if_neg (show ¬ nI 6 = 3 by decide), if_neg (show ¬ nI 6 = 4 by decide), if_neg (show ¬ nI 6 = 5 by decide), if_pos (show nI 6 = 6 by decide)]
      have h6' : g (3 : Int32).toNatClampNeg = 6 := hg3.trans (by rw [h6]; rfl)
      rw [h1]
      unfold f_X13_issue
      simp only [joE, s_in, if_neg hx, obS, i10, if_false, h6', if_true, m_fails2]
  obtain ⟨b, bn', bd', nn', nd', pa', ne', wa', mo', wh', hb, q1, q2, q3⟩ := fore_both H (show fn < 6 by omega) (show 1 ≤ R by omega) (show R ≤ 3 by omega) bn bd nn nd pa ne wa mo wh
  · refine Or.inr ⟨?_, c, t, w, p, upd d fn (y + nI R), upd e fn (nI b), nI (fn + 1), s, r, h, y, L, q, qn, bn', bd', nn', nd', nI fn, gIss g fn (y + nI R) (nI b), was, region, pa', ne', wa', mo', wh', ?_, ?_, q3⟩
    · unfold f_X12_isAllowed
      rw [joE, s_val0 hj, obS, s_val1 hj, obS, s_val2 hj, obS, s_kindAt hj, obS, hk, oN_some, if_neg (show ¬ 10 ≤ 6 by decide), if_neg (show ¬ (nI 6 < 0 ∨ 10 ≤ (nI 6).toNatClampNeg) by decide), if_neg (show ¬ swT.getD (nI 6).toNatClampNeg 0 = 1 by decide), if_neg (show ¬ swT.getD (nI 6).toNatClampNeg 0 = 2 by decide), if_neg (show ¬ swT.getD (nI 6).toNatClampNeg 0 = 3 by decide), if_neg (show ¬ swT.getD (nI 6).toNatClampNeg 0 = 4 by decide), if_neg (show ¬ swT.getD (nI 6).toNatClampNeg 0 = 5 by decide), if_neg (show ¬ swT.getD (nI 6).toNatClampNeg 0 = 6 by decide), if_pos (show swT.getD (nI 6).toNatClampNeg 0 = 7 by decide)]
      rw [joE, joE, s_isAhead, if_neg hx, obS, if_neg i10, s_fRoom hf6, if_neg h6, obS, if_neg i10]
      exact if_neg (fun q => q narB1)
    · unfold f_X12_perform
      rw [joE, s_val0 hj, obS, s_val1 hj, obS, s_val2 hj, obS, s_kindAt hj, obS, hk, oN_some, if_neg (show ¬ 10 ≤ 6 by decide), if_neg (show ¬ (nI 6 < 0 ∨ 10 ≤ (nI 6).toNatClampNeg) by decide), if_neg (show ¬ swT.getD (nI 6).toNatClampNeg 0 = 1 by decide), if_neg (show ¬ swT.getD (nI 6).toNatClampNeg 0 = 2 by decide), if_neg (show ¬ swT.getD (nI 6).toNatClampNeg 0 = 3 by decide), if_neg (show ¬ swT.getD (nI 6).toNatClampNeg 0 = 4 by decide), if_neg (show ¬ swT.getD (nI 6).toNatClampNeg 0 = 5 by decide), if_neg (show ¬ swT.getD (nI 6).toNatClampNeg 0 = 6 by decide), if_pos (show swT.getD (nI 6).toNatClampNeg 0 = 7 by decide)]
      rw [ea, q1, obS]
    · unfold f_X13_carries
      rw [qI_succ, show nI (4 * j) + 2 = nI (4 * j + 2) from qI_add (4 * j) 2, show nI (4 * j) + 3 = nI (4 * j + 3) from qI_add (4 * j) 3, if_neg (ixo (show 4 * j + 1 < 124 by omega) (by decide)), if_neg (ixo (show 4 * j + 2 < 124 by omega) (by decide)), if_neg (ixo (show 4 * j + 3 < 124 by omega) (by decide)), if_neg (ixo (show 4 * j < 124 by omega) (by decide)), qI_cl (show 4 * j < 2147483648 by omega), qI_cl (show 4 * j + 1 < 2147483648 by omega), qI_cl (show 4 * j + 2 < 2147483648 by omega), qI_cl (show 4 * j + 3 < 2147483648 by omega), ht, if_neg (show ¬ nI 6 = 0 by decide), if_neg (show ¬ nI 6 = 1 by decide), if_neg (show ¬ nI 6 = 2 by decide), if_neg (show ¬ nI 6 = 3 by decide), if_neg (show ¬ nI 6 = 4 by decide), if_neg (show ¬ nI 6 = 5 by decide), if_pos (show nI 6 = 6 by decide)]
      rw [h1, ea, q2 kept ch 1 code kept ch kW, obS]
theorem ed_7 {c : Nat → Int32} {t : Int32} {w : Nat → Int32} {p : Int32} {d e : Nat → Int32} {n s r h y : Int32} {L q : Nat → Int32} {qn : Int32} {bn bd nn nd : Nat → Int64} {g kept : Nat → Int32} {ch : Int32} {was region : Nat → Int32} {pa ne : Nat → Int64} {wa mo : Nat → Int32} {wh : Int64} {kinds : Nat → Option Nat} {vs : Nat → Nat → Int32} {told : Nat → Int32} {code : Int32} {j : Nat} (H : RS (c, t, w, p, d, e, n, s, r, h, y) g) (hj : j < 15) (hk : kinds j = some 7) (ht : told (4 * j) = nI 7) (h1 : told (4 * j + 1) = vs j 0) : ED c t w p d e n s r h y L q qn bn bd nn nd g kept ch was region pa ne wa mo wh kinds vs told code j := by
  have kW : ∀ code, f_X13_keeps__g g kept ch 1 code = some (kept, ch, 0) := fun code => m_keepsW i10 code
  obtain ⟨fn, hf6, hfn, hg3, hfr⟩ := H.2.2.2.2.2.2.2.2.2.1
  have hfn' : n = nI fn := hfn
  subst hfn'
  rcases fc_cases hf6 (vs j 0) with hx | ⟨hx, a, ha, ea⟩
  · refine Or.inl ⟨?_, 0, g, was, region, pa, ne, wa, mo, wh, 1, ?_, by decide, by decide⟩
    · unfold f_X12_isAllowed
      rw [joE, s_val0 hj, obS, s_val1 hj, obS, s_val2 hj, obS, s_kindAt hj, obS, hk, oN_some, if_neg (show ¬ 10 ≤ 7 by decide), if_neg (show ¬ (nI 7 < 0 ∨ 10 ≤ (nI 7).toNatClampNeg) by decide), if_neg (show ¬ swT.getD (nI 7).toNatClampNeg 0 = 1 by decide), if_neg (show ¬ swT.getD (nI 7).toNatClampNeg 0 = 2 by decide), if_neg (show ¬ swT.getD (nI 7).toNatClampNeg 0 = 3 by decide), if_neg (show ¬ swT.getD (nI 7).toNatClampNeg 0 = 4 by decide), if_neg (show ¬ swT.getD (nI 7).toNatClampNeg 0 = 5 by decide), if_neg (show ¬ swT.getD (nI 7).toNatClampNeg 0 = 6 by decide), if_neg (show ¬ swT.getD (nI 7).toNatClampNeg 0 = 7 by decide), if_pos (show swT.getD (nI 7).toNatClampNeg 0 = 8 by decide)]
      rw [s_has hf6, if_pos hx, obS]
      exact if_neg (fun q => q narB0)
    · unfold f_X13_carries
      rw [qI_succ, show nI (4 * j) + 2 = nI (4 * j + 2) from qI_add (4 * j) 2, show nI (4 * j) + 3 = nI (4 * j + 3) from qI_add (4 * j) 3, if_neg (ixo (show 4 * j + 1 < 124 by omega) (by decide)), if_neg (ixo (show 4 * j + 2 < 124 by omega) (by decide)), if_neg (ixo (show 4 * j + 3 < 124 by omega) (by decide)), if_neg (ixo (show 4 * j < 124 by omega) (by decide)), qI_cl (show 4 * j < 2147483648 by omega), qI_cl (show 4 * j + 1 < 2147483648 by omega), qI_cl (show 4 * j + 2 < 2147483648 by omega), qI_cl (show 4 * j + 3 < 2147483648 by omega), ht, if_neg (show ¬ nI 7 = 0 by decide), if_neg (show ¬ nI 7 = 1 by decide), if_neg (show ¬ nI 7 = 2 by decide), if_neg (show ¬ nI 7 = 3 by decide), if_neg (show ¬ nI 7 = 4 by decide), if_neg (show ¬ nI 7 = 5 by decide), if_neg (show ¬ nI 7 = 6 by decide), if_pos (show nI 7 = 7 by decide)]
      rw [h1]
      unfold f_X13_withdraw
      simp only [m_isForecast hf6 hg3, if_pos hx, obS, if_true, joE, m_fails1, i10, if_false]
  · refine Or.inr ⟨?_, c, t, w, p, Dr d a fn, Dr e a fn, nI (fn - 1), s, r, h, y, L, q, qn, bn, bd, nn, nd, nI (fn - 1), gDrop g fn a, was, region, pa, ne, wa, mo, wh, ?_, ?_, RS_drop H hf6 ha⟩
    · unfold f_X12_isAllowed
      rw [joE, s_val0 hj, obS, s_val1 hj, obS, s_val2 hj, obS, s_kindAt hj, obS, hk, oN_some, if_neg (show ¬ 10 ≤ 7 by decide), if_neg (show ¬ (nI 7 < 0 ∨ 10 ≤ (nI 7).toNatClampNeg) by decide), if_neg (show ¬ swT.getD (nI 7).toNatClampNeg 0 = 1 by decide), if_neg (show ¬ swT.getD (nI 7).toNatClampNeg 0 = 2 by decide), if_neg (show ¬ swT.getD (nI 7).toNatClampNeg 0 = 3 by decide), if_neg (show ¬ swT.getD (nI 7).toNatClampNeg 0 = 4 by decide), if_neg (show ¬ swT.getD (nI 7).toNatClampNeg 0 = 5 by decide), if_neg (show ¬ swT.getD (nI 7).toNatClampNeg 0 = 6 by decide), if_neg (show ¬ swT.getD (nI 7).toNatClampNeg 0 = 7 by decide), if_pos (show swT.getD (nI 7).toNatClampNeg 0 = 8 by decide)]
      rw [s_has hf6, if_neg hx, obS]
      exact if_neg (fun q => q narB1)
    · unfold f_X12_perform
      rw [joE, s_val0 hj, obS, s_val1 hj, obS, s_val2 hj, obS, s_kindAt hj, obS, hk, oN_some, if_neg (show ¬ 10 ≤ 7 by decide), if_neg (show ¬ (nI 7 < 0 ∨ 10 ≤ (nI 7).toNatClampNeg) by decide), if_neg (show ¬ swT.getD (nI 7).toNatClampNeg 0 = 1 by decide), if_neg (show ¬ swT.getD (nI 7).toNatClampNeg 0 = 2 by decide), if_neg (show ¬ swT.getD (nI 7).toNatClampNeg 0 = 3 by decide), if_neg (show ¬ swT.getD (nI 7).toNatClampNeg 0 = 4 by decide), if_neg (show ¬ swT.getD (nI 7).toNatClampNeg 0 = 5 by decide), if_neg (show ¬ swT.getD (nI 7).toNatClampNeg 0 = 6 by decide), if_neg (show ¬ swT.getD (nI 7).toNatClampNeg 0 = 7 by decide), if_pos (show swT.getD (nI 7).toNatClampNeg 0 = 8 by decide)]
      rw [ea, s_remove hf6 ha, obS]
    · unfold f_X13_carries
      rw [qI_succ, show nI (4 * j) + 2 = nI (4 * j + 2) from qI_add (4 * j) 2, show nI (4 * j) + 3 = nI (4 * j + 3) from qI_add (4 * j) 3, if_neg (ixo (show 4 * j + 1 < 124 by omega) (by decide)), if_neg (ixo (show 4 * j + 2 < 124 by omega) (by decide)), if_neg (ixo (show 4 * j + 3 < 124 by omega) (by decide)), if_neg (ixo (show 4 * j < 124 by omega) (by decide)), qI_cl (show 4 * j < 2147483648 by omega), qI_cl (show 4 * j + 1 < 2147483648 by omega), qI_cl (show 4 * j + 2 < 2147483648 by omega), qI_cl (show 4 * j + 3 < 2147483648 by omega), ht, if_neg (show ¬ nI 7 = 0 by decide), if_neg (show ¬ nI 7 = 1 by decide), if_neg (show ¬ nI 7 = 2 by decide), if_neg (show ¬ nI 7 = 3 by decide), if_neg (show ¬ nI 7 = 4 by decide), if_neg (show ¬ nI 7 = 5 by decide), if_neg (show ¬ nI 7 = 6 by decide), if_pos (show nI 7 = 7 by decide)]
      have hx' := hx
      rw [ea] at hx'
      rw [h1, ea]
      unfold f_X13_withdraw
      simp only [m_isForecast hf6 hg3, if_neg hx', obS, i10, if_false, joE, m_fails0, if_true, kW, m_drops hf6 ha hg3]
      rw [show gDrop g fn a (3 : Int32).toNatClampNeg = nI (fn - 1) from gDrop_3 _ _ _]
theorem ed_8 {c : Nat → Int32} {t : Int32} {w : Nat → Int32} {p : Int32} {d e : Nat → Int32} {n s r h y : Int32} {L q : Nat → Int32} {qn : Int32} {bn bd nn nd : Nat → Int64} {g kept : Nat → Int32} {ch : Int32} {was region : Nat → Int32} {pa ne : Nat → Int64} {wa mo : Nat → Int32} {wh : Int64} {kinds : Nat → Option Nat} {vs : Nat → Nat → Int32} {told : Nat → Int32} {code : Int32} {j : Nat} (H : RS (c, t, w, p, d, e, n, s, r, h, y) g) (hj : j < 15) (hk : kinds j = some 8) (ht : told (4 * j) = nI 8) (h1 : told (4 * j + 1) = vs j 0) : ED c t w p d e n s r h y L q qn bn bd nn nd g kept ch was region pa ne wa mo wh kinds vs told code j := by
  have kW : ∀ code, f_X13_keeps__g g kept ch 1 code = some (kept, ch, 0) := fun code => m_keepsW i10 code
  rcases w_cases (vs j 0) with hx | ⟨hx, a, ha, ea⟩
  · refine Or.inl ⟨?_, 0, g, was, region, pa, ne, wa, mo, wh, 1, ?_, by decide, by decide⟩
    · unfold f_X12_isAllowed
      rw [joE, s_val0 hj, obS, s_val1 hj, obS, s_val2 hj, obS, s_kindAt hj, obS, hk, oN_some, if_neg (show ¬ 10 ≤ 8 by decide), if_neg (show ¬ (nI 8 < 0 ∨ 10 ≤ (nI 8).toNatClampNeg) by decide), if_neg (show ¬ swT.getD (nI 8).toNatClampNeg 0 = 1 by decide), if_neg (show ¬ swT.getD (nI 8).toNatClampNeg 0 = 2 by decide), if_neg (show ¬ swT.getD (nI 8).toNatClampNeg 0 = 3 by decide), if_neg (show ¬ swT.getD (nI 8).toNatClampNeg 0 = 4 by decide), if_neg (show ¬ swT.getD (nI 8).toNatClampNeg 0 = 5 by decide), if_neg (show ¬ swT.getD (nI 8).toNatClampNeg 0 = 6 by decide), if_neg (show ¬ swT.getD (nI 8).toNatClampNeg 0 = 7 by decide), if_neg (show ¬ swT.getD (nI 8).toNatClampNeg 0 = 8 by decide), if_pos (show swT.getD (nI 8).toNatClampNeg 0 = 9 by decide)]
      rw [s_isWeather, if_pos hx, obS]
      exact if_neg (fun q => q narB0)
    · unfold f_X13_carries
      rw [qI_succ, show nI (4 * j) + 2 = nI (4 * j + 2) from qI_add (4 * j) 2, show nI (4 * j) + 3 = nI (4 * j + 3) from qI_add (4 * j) 3, if_neg (ixo (show 4 * j + 1 < 124 by omega) (by decide)), if_neg (ixo (show 4 * j + 2 < 124 by omega) (by decide)), if_neg (ixo (show 4 * j + 3 < 124 by omega) (by decide)), if_neg (ixo (show 4 * j < 124 by omega) (by decide)), qI_cl (show 4 * j < 2147483648 by omega), qI_cl (show 4 * j + 1 < 2147483648 by omega), qI_cl (show 4 * j + 2 < 2147483648 by omega), qI_cl (show 4 * j + 3 < 2147483648 by omega), ht, if_neg (show ¬ nI 8 = 0 by decide), if_neg (show ¬ nI 8 = 1 by decide), if_neg (show ¬ nI 8 = 2 by decide), if_neg (show ¬ nI 8 = 3 by decide), if_neg (show ¬ nI 8 = 4 by decide), if_neg (show ¬ nI 8 = 5 by decide), if_neg (show ¬ nI 8 = 6 by decide), if_neg (show ¬ nI 8 = 7 by decide), if_pos (show nI 8 = 8 by decide)]
      rw [h1]
      unfold f_X13_observe
      simp only [joE, m_isSort, if_pos hx, obS, if_true, m_fails1, i10, if_false]
  obtain ⟨sum, w', d', e', n', s', r', h', g', q1, q2, q3⟩ := pass_both H ha
  · refine Or.inr ⟨?_, c, t, w', nI a, d', e', n', s', r', h', y + 1, L, q, qn, bn, bd, nn, nd, sum, g', was, region, pa, ne, wa, mo, wh, ?_, ?_, q3⟩
    · unfold f_X12_isAllowed
      rw [joE, s_val0 hj, obS, s_val1 hj, obS, s_val2 hj, obS, s_kindAt hj, obS, hk, oN_some, if_neg (show ¬ 10 ≤ 8 by decide), if_neg (show ¬ (nI 8 < 0 ∨ 10 ≤ (nI 8).toNatClampNeg) by decide), if_neg (show ¬ swT.getD (nI 8).toNatClampNeg 0 = 1 by decide), if_neg (show ¬ swT.getD (nI 8).toNatClampNeg 0 = 2 by decide), if_neg (show ¬ swT.getD (nI 8).toNatClampNeg 0 = 3 by decide), if_neg (show ¬ swT.getD (nI 8).toNatClampNeg 0 = 4 by decide), if_neg (show ¬ swT.getD (nI 8).toNatClampNeg 0 = 5 by decide), if_neg (show ¬ swT.getD (nI 8).toNatClampNeg 0 = 6 by decide), if_neg (show ¬ swT.getD (nI 8).toNatClampNeg 0 = 7 by decide), if_neg (show ¬ swT.getD (nI 8).toNatClampNeg 0 = 8 by decide), if_pos (show swT.getD (nI 8).toNatClampNeg 0 = 9 by decide)]
      rw [s_isWeather, if_neg hx, obS]
      exact if_neg (fun q => q narB1)
    · unfold f_X12_perform
      rw [joE, s_val0 hj, obS, s_val1 hj, obS, s_val2 hj, obS, s_kindAt hj, obS, hk, oN_some, if_neg (show ¬ 10 ≤ 8 by decide), if_neg (show ¬ (nI 8 < 0 ∨ 10 ≤ (nI 8).toNatClampNeg) by decide), if_neg (show ¬ swT.getD (nI 8).toNatClampNeg 0 = 1 by decide), if_neg (show ¬ swT.getD (nI 8).toNatClampNeg 0 = 2 by decide), if_neg (show ¬ swT.getD (nI 8).toNatClampNeg 0 = 3 by decide), if_neg (show ¬ swT.getD (nI 8).toNatClampNeg 0 = 4 by decide), if_neg (show ¬ swT.getD (nI 8).toNatClampNeg 0 = 5 by decide), if_neg (show ¬ swT.getD (nI 8).toNatClampNeg 0 = 6 by decide), if_neg (show ¬ swT.getD (nI 8).toNatClampNeg 0 = 7 by decide), if_neg (show ¬ swT.getD (nI 8).toNatClampNeg 0 = 8 by decide), if_pos (show swT.getD (nI 8).toNatClampNeg 0 = 9 by decide)]
      rw [ea, q1, obS]
    · unfold f_X13_carries
      rw [qI_succ, show nI (4 * j) + 2 = nI (4 * j + 2) from qI_add (4 * j) 2, show nI (4 * j) + 3 = nI (4 * j + 3) from qI_add (4 * j) 3, if_neg (ixo (show 4 * j + 1 < 124 by omega) (by decide)), if_neg (ixo (show 4 * j + 2 < 124 by omega) (by decide)), if_neg (ixo (show 4 * j + 3 < 124 by omega) (by decide)), if_neg (ixo (show 4 * j < 124 by omega) (by decide)), qI_cl (show 4 * j < 2147483648 by omega), qI_cl (show 4 * j + 1 < 2147483648 by omega), qI_cl (show 4 * j + 2 < 2147483648 by omega), qI_cl (show 4 * j + 3 < 2147483648 by omega), ht, if_neg (show ¬ nI 8 = 0 by decide), if_neg (show ¬ nI 8 = 1 by decide), if_neg (show ¬ nI 8 = 2 by decide), if_neg (show ¬ nI 8 = 3 by decide), if_neg (show ¬ nI 8 = 4 by decide), if_neg (show ¬ nI 8 = 5 by decide), if_neg (show ¬ nI 8 = 6 by decide), if_neg (show ¬ nI 8 = 7 by decide), if_pos (show nI 8 = 8 by decide)]
      rw [h1, ea, q2 kept ch 1 code kept ch kW, obS]
theorem ed_9 {c : Nat → Int32} {t : Int32} {w : Nat → Int32} {p : Int32} {d e : Nat → Int32} {n s r h y : Int32} {L q : Nat → Int32} {qn : Int32} {bn bd nn nd : Nat → Int64} {g kept : Nat → Int32} {ch : Int32} {was region : Nat → Int32} {pa ne : Nat → Int64} {wa mo : Nat → Int32} {wh : Int64} {kinds : Nat → Option Nat} {vs : Nat → Nat → Int32} {told : Nat → Int32} {code : Int32} {j : Nat} (H : RS (c, t, w, p, d, e, n, s, r, h, y) g) (hj : j < 15) (hk : kinds j = some 9) (ht : told (4 * j) = nI 9) : ED c t w p d e n s r h y L q qn bn bd nn nd g kept ch was region pa ne wa mo wh kinds vs told code j := by
  have H0 := H
  obtain ⟨r1, r2, r3, r4, r5, r6, r7, r8, r9, r10, r11, r12, r13, r14⟩ := H0
  have kW : ∀ code, f_X13_keeps__g g kept ch 1 code = some (kept, ch, 0) := fun code => m_keepsW i10 code
  obtain ⟨L', Q', hsh⟩ := s_shown r2 t L q region qn
  have hms := m_shown r1 r3 region
  have hlt : shw (cntP (fun v => prt c t region v = nI v) 25) < 4 := by
    unfold shw
    split <;> (try split) <;> (try split) <;> decide
  obtain ⟨sum, w', d', e', n', s', r', h', g', q1, q2, q3⟩ := pass_both H hlt
  · refine Or.inr ⟨?_, c, t, w', nI (shw (cntP (fun v => prt c t region v = nI v) 25)), d', e', n', s', r', h', y + 1, L', Q', nI 25, bn, bd, nn, nd, sum, g', was, prt c t region, pa, ne, wa, mo, wh, ?_, ?_, q3⟩
    · unfold f_X12_isAllowed
      rw [joE, s_val0 hj, obS, s_val1 hj, obS, s_val2 hj, obS, s_kindAt hj, obS, hk, oN_some, if_neg (show ¬ 10 ≤ 9 by decide), if_neg (show ¬ (nI 9 < 0 ∨ 10 ≤ (nI 9).toNatClampNeg) by decide), if_neg (show ¬ swT.getD (nI 9).toNatClampNeg 0 = 1 by decide), if_neg (show ¬ swT.getD (nI 9).toNatClampNeg 0 = 2 by decide), if_neg (show ¬ swT.getD (nI 9).toNatClampNeg 0 = 3 by decide), if_neg (show ¬ swT.getD (nI 9).toNatClampNeg 0 = 4 by decide), if_neg (show ¬ swT.getD (nI 9).toNatClampNeg 0 = 5 by decide), if_neg (show ¬ swT.getD (nI 9).toNatClampNeg 0 = 6 by decide), if_neg (show ¬ swT.getD (nI 9).toNatClampNeg 0 = 7 by decide), if_neg (show ¬ swT.getD (nI 9).toNatClampNeg 0 = 8 by decide), if_neg (show ¬ swT.getD (nI 9).toNatClampNeg 0 = 9 by decide)]
    · unfold f_X12_perform
      rw [joE, s_val0 hj, obS, s_val1 hj, obS, s_val2 hj, obS, s_kindAt hj, obS, hk, oN_some, if_neg (show ¬ 10 ≤ 9 by decide), if_neg (show ¬ (nI 9 < 0 ∨ 10 ≤ (nI 9).toNatClampNeg) by decide), if_neg (show ¬ swT.getD (nI 9).toNatClampNeg 0 = 1 by decide), if_neg (show ¬ swT.getD (nI 9).toNatClampNeg 0 = 2 by decide), if_neg (show ¬ swT.getD (nI 9).toNatClampNeg 0 = 3 by decide), if_neg (show ¬ swT.getD (nI 9).toNatClampNeg 0 = 4 by decide), if_neg (show ¬ swT.getD (nI 9).toNatClampNeg 0 = 5 by decide), if_neg (show ¬ swT.getD (nI 9).toNatClampNeg 0 = 6 by decide), if_neg (show ¬ swT.getD (nI 9).toNatClampNeg 0 = 7 by decide), if_neg (show ¬ swT.getD (nI 9).toNatClampNeg 0 = 8 by decide), if_neg (show ¬ swT.getD (nI 9).toNatClampNeg 0 = 9 by decide)]
      rw [hsh, obS, q1, obS]
    · unfold f_X13_carries
      rw [qI_succ, show nI (4 * j) + 2 = nI (4 * j + 2) from qI_add (4 * j) 2, show nI (4 * j) + 3 = nI (4 * j + 3) from qI_add (4 * j) 3, if_neg (ixo (show 4 * j + 1 < 124 by omega) (by decide)), if_neg (ixo (show 4 * j + 2 < 124 by omega) (by decide)), if_neg (ixo (show 4 * j + 3 < 124 by omega) (by decide)), if_neg (ixo (show 4 * j < 124 by omega) (by decide)), qI_cl (show 4 * j < 2147483648 by omega), qI_cl (show 4 * j + 1 < 2147483648 by omega), qI_cl (show 4 * j + 2 < 2147483648 by omega), qI_cl (show 4 * j + 3 < 2147483648 by omega), ht, if_neg (show ¬ nI 9 = 0 by decide), if_neg (show ¬ nI 9 = 1 by decide), if_neg (show ¬ nI 9 = 2 by decide), if_neg (show ¬ nI 9 = 3 by decide), if_neg (show ¬ nI 9 = 4 by decide), if_neg (show ¬ nI 9 = 5 by decide), if_neg (show ¬ nI 9 = 6 by decide), if_neg (show ¬ nI 9 = 7 by decide), if_neg (show ¬ nI 9 = 8 by decide)]
      rw [hms, obS, q2 kept ch 1 code kept ch kW, obS]
theorem ed_all {c : Nat → Int32} {t : Int32} {w : Nat → Int32} {p : Int32} {d e : Nat → Int32} {n s r h y : Int32} {L q : Nat → Int32} {qn : Int32} {bn bd nn nd : Nat → Int64} {g kept : Nat → Int32} {ch : Int32} {was region : Nat → Int32} {pa ne : Nat → Int64} {wa mo : Nat → Int32} {wh : Int64} {kinds : Nat → Option Nat} {vs : Nat → Nat → Int32} {told : Nat → Int32} {code : Int32} {j : Nat} (H : RS (c, t, w, p, d, e, n, s, r, h, y) g) (hj : j < 15) (hC : COk j kinds vs told) : ED c t w p d e n s r h y L q qn bn bd nn nd g kept ch was region pa ne wa mo wh kinds vs told code j := by
  obtain ⟨i, hi, hk, ht, hq⟩ := hC
  rcases (show i = 0 ∨ i = 1 ∨ i = 2 ∨ i = 3 ∨ i = 4 ∨ i = 5 ∨ i = 6 ∨ i = 7 ∨ i = 8 ∨ i = 9 by omega) with rfl | rfl | rfl | rfl | rfl | rfl | rfl | rfl | rfl | rfl
  · exact ed_0 H hj hk ht (hq 0 (by decide)) (hq 1 (by decide)) (hq 2 (by decide))
  · exact ed_1 H hj hk ht (hq 0 (by decide))
  · exact ed_2 H hj hk ht (hq 0 (by decide))
  · exact ed_3 H hj hk ht (hq 0 (by decide))
  · exact ed_4 H hj hk ht (hq 0 (by decide))
  · exact ed_5 H hj hk ht (hq 0 (by decide)) (hq 1 (by decide)) (hq 2 (by decide))
  · exact ed_6 H hj hk ht (hq 0 (by decide))
  · exact ed_7 H hj hk ht (hq 0 (by decide))
  · exact ed_8 H hj hk ht (hq 0 (by decide))
  · exact ed_9 H hj hk ht
