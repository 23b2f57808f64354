/-! a forecast issued: class and model -/
theorem s_fRoom {n : Nat} (hn : n ≤ 6) : f_X4_hasRoom (nI n) = some (if n = 6 then 0 else 1) := by
  unfold f_X4_hasRoom
  rw [joE, joE, if_neg (qI_neg0 n (by omega))]
  by_cases h : n = 6
  · subst h
    rw [if_pos rfl, if_pos (show (6 : Int32) ≤ nI 6 from Int32.le_refl _)]; exact if_neg (fun q => q narB0)
  · rw [if_neg h, if_neg (show ¬ (6 : Int32) ≤ nI n from nle (show n < 6 by omega) (by decide))]; exact if_neg (fun q => q narB1)
theorem s_addF {n : Nat} (hn : n < 6) (d w : Nat → Int32) (a b : Int32) : f_X4_add d w (nI n) a b = some (upd d n a, upd w n b, nI (n + 1)) := by
  unfold f_X4_add
  rw [joE, s_fRoom (by omega), if_neg (by omega), obS, if_neg i10, if_neg (ixo hn (by decide)), qI_cl (show n < 2147483648 by omega), qI_succ]
theorem s_isAhead (a : Int32) : f_X2_isAhead a = some (if a < 1 ∨ 3 < a then 0 else 1) := by
  unfold f_X2_isAhead
  rw [joE, joE]
  by_cases h0 : a < 1
  · rw [if_pos h0, if_pos (Or.inl h0)]; exact if_neg (fun q => q narB0)
  · by_cases h1 : 3 < a
    · rw [if_neg h0, if_pos h1, if_pos (Or.inr h1)]; exact if_neg (fun q => q narB0)
    · rw [if_neg h0, if_neg h1, if_neg (fun q => q.elim h0 h1)]; exact if_neg (fun q => q narB1)
/-- the model's row behind an issue -/
def gIss (g : Nat → Int32) (n : Nat) (a b : Int32) : Nat → Int32 := upd (upd (upd g (48 + 2 * n) a) (49 + 2 * n) b) 3 (nI (n + 1))
theorem RS_issue {c : Nat → Int32} {t : Int32} {w : Nat → Int32} {p : Int32} {d e : Nat → Int32} {n : Nat} {s r h y : Int32} {g : Nat → Int32} (H : RS (c, t, w, p, d, e, nI n, s, r, h, y) g) (hn : n < 6) (a : Int32) {b : Nat} (hb : b < 4) : RS (c, t, w, p, upd d n a, upd e n (nI b), nI (n + 1), s, r, h, y) (gIss g n a (nI b)) := by
  obtain ⟨r1, r2, r3, r4, r5, r6, r7, r8, r9, ⟨fn, f6, f1, f2, f3⟩, r11, r12, r13, r14⟩ := H
  have hfn : fn = n := by
    have q : nI n = nI fn := f1
    rw [qI_eq (by omega) (by omega)] at q
    exact q.symm
  subst hfn
  have L : ∀ i, i < 48 → i ≠ 3 → gIss g fn a (nI b) i = g i := fun i h1 h2 => (upd_ne _ _ h2).trans ((upd_ne _ _ (by omega)).trans (upd_ne _ _ (by omega)))
  refine ⟨fun k hk => (L _ (by omega) (by omega)).trans (r1 k hk), r2, (L 2 (by omega) (by omega)).trans r3, r4, fun k hk => (L _ (by omega) (by omega)).trans (r5 k hk), r6, r7, (L 1 (by omega) (by omega)).trans r8, r9, ⟨fn + 1, by omega, rfl, upd_same _ _ _, fun k hk => ?_⟩, (L 4 (by omega) (by omega)).trans r11, (L 5 (by omega) (by omega)).trans r12, (L 6 (by omega) (by omega)).trans r13, (L 0 (by omega) (by omega)).trans r14⟩
  show gIss g fn a (nI b) (48 + 2 * k) = upd d fn a k ∧ gIss g fn a (nI b) (49 + 2 * k) = upd e fn (nI b) k ∧ ∃ v, v < 4 ∧ upd e fn (nI b) k = nI v
  unfold gIss
  rw [upd_ne _ _ (show 48 + 2 * k ≠ 3 by omega), upd_ne _ _ (show 49 + 2 * k ≠ 3 by omega)]
  by_cases hkn : k = fn
  · subst hkn
    rw [upd_ne _ _ (show 48 + 2 * k ≠ 49 + 2 * k by omega), upd_same, upd_same, upd_same, upd_same]
    exact ⟨rfl, rfl, b, hb, rfl⟩
  · obtain ⟨q1, q2, q3⟩ := f3 k (by omega)
    rw [upd_ne _ _ (show 48 + 2 * k ≠ 49 + 2 * fn by omega), upd_ne _ _ (show 48 + 2 * k ≠ 48 + 2 * fn by omega), upd_ne _ _ (show 49 + 2 * k ≠ 49 + 2 * fn by omega), upd_ne _ _ (show 49 + 2 * k ≠ 48 + 2 * fn by omega), upd_ne _ _ hkn, upd_ne _ _ hkn]
    exact ⟨q1, q2, q3⟩
theorem fore_both {c : Nat → Int32} {t : Int32} {w : Nat → Int32} {p : Int32} {d e : Nat → Int32} {n : Nat} {s r h y : Int32} {g : Nat → Int32} (H : RS (c, t, w, p, d, e, nI n, s, r, h, y) g) (hn : n < 6) {k : Nat} (hk1 : 1 ≤ k) (hk : k ≤ 3) (bn bd nn nd : Nat → Int64) (pa ne : Nat → Int64) (wa mo : Nat → Int32) (wh : Int64) :
    ∃ (b : Nat) (bn' bd' nn' nd' pa' ne' : Nat → Int64) (wa' mo' : Nat → Int32) (wh' : Int64), b < 4 ∧ f_X12_foretell w p d e (nI n) y bn bd nn nd (nI k) = some (upd d n (y + nI k), upd e n (nI b), nI (n + 1), bn', bd', nn', nd') ∧ (∀ (kept : Nat → Int32) (ch wi code : Int32) (kept' : Nat → Int32) (ch' : Int32), (∀ code, f_X13_keeps__g g kept ch wi code = some (kept', ch', 0)) → f_X13_issue g kept pa ne wa mo wh ch wi code (nI k) = some (nI n, gIss g n (y + nI k) (nI b), kept', pa', ne', wa', mo', wh', ch', 0)) ∧ RS (c, t, w, p, upd d n (y + nI k), upd e n (nI b), nI (n + 1), s, r, h, y) (gIss g n (y + nI k) (nI b)) := by
  have hW : WS w := WS_of H
  have H2 := H
  obtain ⟨r1, r2, r3, r4, r5, r6, r7, r8, ⟨p0, hp0, ep⟩, ⟨fn, f6, f1, f2, f3⟩, r11, r12, r13, r14⟩ := H2
  have ep' : p = nI p0 := ep
  subst ep'
  have hg3 : g 3 = nI n := f2.trans f1.symm
  have hg0 : g 0 = y := r14
  have hg1 : g 1 = nI p0 := r8
  have hgi : ∀ i, i < 48 → upd g (48 + 2 * n) (y + nI k) i = g i := fun i hi => upd_ne _ _ (by omega)
  obtain ⟨bn', bd', nn', nd', e1, e2⟩ := s_dayByDay hW hp0 hk bn bd nn nd
  obtain ⟨pa', ne', wa', mo', q1⟩ := m_best (g := upd g (48 + 2 * n) (y + nI k)) (fun j hj => (hgi _ (by omega)).trans (r5 j hj)) hW ((hgi 1 (by decide)).trans hg1) hp0 hk pa ne wa mo wh
  refine ⟨bst (Pn (Aw w) p0 k), bn', bd', nn', nd', pa', ne', wa', mo', nL (cmn (wsm w) ^ k), bst_lt _, ?_, fun kept ch wi code kept' ch' hkp => ?_, RS_issue H hn _ (bst_lt _)⟩
  · unfold f_X12_foretell
    rw [e1, obS, s_likely hW hp0 hk e2, obS, s_addF hn, obS]
  · have hin : ¬ (nI k < 1 ∨ 3 < nI k) := by
      rintro (q | q)
      · rw [li1, qI_lt (by omega) (by decide)] at q; omega
      · rw [li3, qI_lt (by decide) (by omega)] at q; omega
    have h6 : ¬ nI n = 6 := by rw [li6, qI_eq (by omega) (by decide)]; omega
    unfold f_X13_issue
    simp only [joE, s_in, if_neg hin, obS, i10, if_false, show g (3 : Int32).toNatClampNeg = nI n from hg3, if_neg h6, m_fails0, if_true, hkp, show g (0 : Int32).toNatClampNeg = y from hg0]
    rw [q48, qI_succ, if_neg (ixo (show 48 + 2 * n < 60 by omega) (by decide)), qI_cl (show 48 + 2 * n < 2147483648 by omega), qI_cl (show 48 + 2 * n + 1 < 2147483648 by omega), q1, obS, if_neg (fun q => Eq.mp (ixn (k := 48 + 2 * n + 1) (b := 60) (by omega) (by decide)) q)]
    have h3 : upd (upd g (48 + 2 * n) (y + nI k)) (48 + 2 * n + 1) (nI (bst (Pn (Aw w) p0 k))) 3 = nI n := (upd_ne _ _ (by omega)).trans ((upd_ne _ _ (by omega)).trans hg3)
    have e48 : 48 + 2 * n + 1 = 49 + 2 * n := by omega
    simp only [show (3 : Int32).toNatClampNeg = 3 from rfl, h3, qI_succ, upd_same]
    rw [show nI (n + 1) - 1 = nI n from qI_sub (a := n + 1) (b := 1) (by omega), e48]
    rfl
