/-! the chances written -/
def nmW (k : Nat) : List Nat := if k = 0 then [99, 97, 108, 109] else if k = 1 then [98, 114, 101, 101, 122, 101] else if k = 2 then [103, 97, 108, 101] else [115, 116, 111, 114, 109]
def chW (k : Nat) : List Nat := (if k = 0 then [] else [32]) ++ (nmW k ++ [61])
def chT (X : Nat → Nat) (M : Nat) : Nat → List Nat
  | 0 => []
  | k + 1 => chT X M k ++ chW k ++ dgF 24 (fN (X k) M) ++ [47] ++ dgF 24 (fD (X k) M)
theorem four_cases {k : Nat} (hk : k < 4) : k = 0 ∨ k = 1 ∨ k = 2 ∨ k = 3 := by omega
theorem chW_ok : ∀ k, k < 4 → (chW k).length ≤ 8 ∧ (nmW k).length ≤ 6 ∧ (∀ x ∈ chW k, x < 128) ∧ ∀ x ∈ nmW k, x < 128 := by decide
def Fit (X : Nat → Nat) (M : Nat) : Prop := ∀ t, t < 4 → fN (X t) M < 10000000000 ∧ fD (X t) M < 10000000000
theorem ten10 {n : Nat} (h : n < 10000000000) : n < 10 ^ (9 + 1) := by
  have : 10 ^ (9 + 1) = 10000000000 := rfl
  omega
theorem chT_len {X : Nat → Nat} {M : Nat} (h : Fit X M) : ∀ k, k ≤ 4 → (chT X M k).length ≤ 29 * k
  | 0, _ => Nat.le_refl _
  | k + 1, hk => by
    have ih := chT_len h k (by omega)
    obtain ⟨h1, h2⟩ := h k (by omega)
    have d1 := dgF_len 24 9 _ (ten10 h1)
    have d2 := dgF_len 24 9 _ (ten10 h2)
    have w := (chW_ok k (by omega)).1
    rw [chT, List.length_append, List.length_append, List.length_append, List.length_append]
    have : [47].length = 1 := rfl
    omega
theorem s_nameOf : ∀ k, k < 4 → ∃ a b, f_X2_nameOf (nI k) = some (a, b, (nmW k).map nI) := by
  intro k hk
  rcases four_cases hk with rfl | rfl | rfl | rfl
  · exact ⟨_, _, rfl⟩
  · exact ⟨_, _, rfl⟩
  · exact ⟨_, _, rfl⟩
  · exact ⟨_, _, rfl⟩
theorem s_chl_go {X : Nat → Nat} {M D : Nat} {bn bd : Nat → Int64} (hF : FrS bn bd X M D) (h : Fit X M) (z : (Nat → Int32) → Int32 → Option (Nat × Int32 × (Nat → Int64) × (Nat → Int64) × (Nat → Int64) × (Nat → Int64) × (Nat → Int32) × Int32)) : ∀ (m k f : Nat) (sg : Nat → Int32) (len : Int32), k + m = 4 → m < f → LW sg len (chT X M k) → ∃ sg' len', f_X12_writeChances_29 bn bd z f (nI k) sg len = z sg' len' ∧ LW sg' len' (chT X M 4)
  | _, _, 0, _, _, _, h, _ => by omega
  | 0, k, f + 1, sg, len, hk, _, hL => by
    obtain rfl : k = 4 := by omega
    refine ⟨sg, len, ?_, hL⟩
    rw [f_X12_writeChances_29, if_pos (show (4 : Int32) ≤ nI 4 from Int32.le_refl _)]
  | m + 1, k, f + 1, sg, len, hk, hf, hL => by
    have hk4 : k < 4 := by omega
    have hlen := chT_len h k (by omega)
    obtain ⟨n1, n2⟩ := h k hk4
    obtain ⟨f1, f2, -, -⟩ := hF k hk4
    obtain ⟨-, w2, -, w4⟩ := chW_ok k hk4
    obtain ⟨a, b, hnm⟩ := s_nameOf k hk4
    have step : ∀ (sg1 : Nat → Int32) (len1 : Int32) (q : List Nat), q.length ≤ 1 → q ++ (nmW k ++ [61]) = chW k → LW sg1 len1 (chT X M k ++ q) → ∃ sg' len', ((f_X2_nameOf (nI k)).bind fun r52 => (f_X8_putAll sg1 len1 r52.2.2).bind fun r55 => (f_X8_put r55.1 r55.2 61).bind fun r64 => (f_X5_numerator bn (nI k)).bind fun r73 => (f_X8_putNumber r64.1 r64.2 r73).bind fun r76 => (f_X8_put r76.1 r76.2 47).bind fun r85 => (f_X5_denominator bd (nI k)).bind fun r94 => (f_X8_putNumber r85.1 r85.2 r94).bind fun r97 => f_X12_writeChances_29 bn bd z f (nI k + 1) r97.1 r97.2) = z sg' len' ∧ LW sg' len' (chT X M 4) := by
      intro sg1 len1 q hq hq2 h1
      have l61 : [61].length = 1 := rfl
      have l47 : [47].length = 1 := rfl
      have d1 := dgF_len 24 9 _ (ten10 n1)
      obtain ⟨sg2, len2, e2, h2⟩ := s_word w4 (by omega) h1 (by rw [List.length_append]; omega)
      obtain ⟨sg3, len3, e3, h3⟩ := s_putC h2 (by rw [List.length_append, List.length_append]; omega) (show 61 < 128 by decide)
      rw [List.append_assoc, List.append_assoc, hq2] at h3
      have w1 := (chW_ok k hk4).1
      obtain ⟨sg4, len4, e4, h4⟩ := s_putNum h3 n1 (by rw [List.length_append]; omega)
      obtain ⟨sg5, len5, e5, h5⟩ := s_putC h4 (by rw [List.length_append, List.length_append]; omega) (show 47 < 128 by decide)
      obtain ⟨sg6, len6, e6, h6⟩ := s_putNum h5 n2 (by rw [List.length_append, List.length_append, List.length_append]; omega)
      obtain ⟨sg', len', e7, h7⟩ := s_chl_go hF h z m (k + 1) f sg6 len6 (by omega) (by omega) h6
      refine ⟨sg', len', ?_, h7⟩
      rw [hnm, obS, e2, obS, show (61 : Int32) = nI 61 from rfl, e3, obS, s_num hk4, obS, f1, e4, obS, show (47 : Int32) = nI 47 from rfl, e5, obS, s_den hk4, obS, f2, e6, obS, qI_succ]
      exact e7
    rw [f_X12_writeChances_29, if_neg (show ¬ (4 : Int32) ≤ nI k from nle hk4 (by decide)), joE]
    by_cases h0 : k = 0
    · rw [if_pos (show nI k ≤ 0 by rw [h0]; exact Int32.le_refl _)]
      exact step sg len [] (by decide) (by unfold chW; rw [if_pos h0]) (by rw [List.append_nil]; exact hL)
    · rw [if_neg (show ¬ nI k ≤ 0 by rw [show (0 : Int32) = nI 0 from rfl, qI_le (by omega) (by decide)]; omega), show (32 : Int32) = nI 32 from rfl]
      obtain ⟨sg1, len1, e1, h1⟩ := s_putC hL (by omega) (show 32 < 128 by decide)
      rw [e1, obS]
      exact step sg1 len1 [32] (by decide) (by unfold chW; rw [if_neg h0]) h1
theorem m_chl_go {g w : Nat → Int32} (hg : ∀ k, k < 16 → g (32 + k) = w k) (hW : WS w) {p : Nat} (hg1 : g 1 = nI p) (hp : p < 4) {d : Nat} (hd : d ≤ 3) (h : Fit (Pn (Aw w) p d) (cmn (wsm w) ^ d)) (z : (Nat → Int64) → (Nat → Int64) → (Nat → Int32) → (Nat → Int32) → Int64 → Int32 → (Nat → Int32) → Int32 → Option (Int32 × (Nat → Int64) × (Nat → Int64) × (Nat → Int32) × (Nat → Int32) × Int64 × Int32 × (Nat → Int32) × Int32)) : ∀ (m k f : Nat) (pa ne : Nat → Int64) (wa mo : Nat → Int32) (wh : Int64) (sg : Nat → Int32) (len : Int32), k + m = 4 → m < f → LW sg len (chT (Pn (Aw w) p d) (cmn (wsm w) ^ d) k) → ∃ pa' ne' wa' mo' wh' sg' len', f_X13_writeChances_28 g (nI d) z f (nI k) pa ne wa mo wh 0 sg len = z pa' ne' wa' mo' wh' 0 sg' len' ∧ LW sg' len' (chT (Pn (Aw w) p d) (cmn (wsm w) ^ d) 4)
  | _, _, 0, _, _, _, _, _, _, _, _, h, _ => by omega
  | 0, k, f + 1, pa, ne, wa, mo, wh, sg, len, hk, _, hL => by
    obtain rfl : k = 4 := by omega
    refine ⟨pa, ne, wa, mo, wh, sg, len, ?_, hL⟩
    rw [f_X13_writeChances_28, if_pos (show (4 : Int32) ≤ nI 4 from Int32.le_refl _)]
  | m + 1, k, f + 1, pa, ne, wa, mo, wh, sg, len, hk, hf, hL => by
    have hk4 : k < 4 := by omega
    have hlen := chT_len h k (by omega)
    obtain ⟨n1, n2⟩ := h k hk4
    obtain ⟨w1, -, w3, -⟩ := chW_ok k hk4
    have l47 : [47].length = 1 := rfl
    have d1 := dgF_len 24 9 _ (ten10 n1)
    obtain ⟨sg2, len2, e2, h2⟩ := m_word w3 (by omega) hL (by omega)
    obtain ⟨pa1, ne1, wa1, mo1, u1⟩ := m_upperOk hg hW hg1 hp hd hk4 pa ne wa mo wh 0
    obtain ⟨sg3, len3, e3, h3⟩ := m_putNum h2 n1 (by rw [List.length_append]; omega)
    obtain ⟨sg4, len4, e4, h4⟩ := m_putC h3 (by rw [List.length_append, List.length_append]; omega) (show 47 < 128 by decide)
    obtain ⟨pa2, ne2, wa2, mo2, u2⟩ := m_lowerOk hg hW hg1 hp hd hk4 pa1 ne1 wa1 mo1 (nL (cmn (wsm w) ^ d)) 0
    obtain ⟨sg5, len5, e5, h5⟩ := m_putNum h4 n2 (by rw [List.length_append, List.length_append, List.length_append]; omega)
    obtain ⟨x1, x2, x3, x4, x5, x6, x7, e6, h6⟩ := m_chl_go hg hW hg1 hp hd h z m (k + 1) f pa2 ne2 wa2 mo2 (nL (cmn (wsm w) ^ d)) sg5 len5 (by omega) (by omega) h5
    refine ⟨x1, x2, x3, x4, x5, x6, x7, ?_, h6⟩
    rw [f_X13_writeChances_28, if_neg (show ¬ (4 : Int32) ≤ nI k from nle hk4 (by decide)), joE, ← e6, ← qI_succ]
    have body : ∀ b : List Int32, b = (chW k).map nI → ((f_X13_writesWord sg len b).bind fun r65 => (f_X13_upper g pa ne wa mo wh 0 (nI d) (nI k)).bind fun r72 => (f_X13_writesNumberT r65.1 r65.2 r72.1).bind fun r75 => (f_X13_writes r75.1 r75.2 47).bind fun r81 => (f_X13_lower g r72.2.1 r72.2.2.1 r72.2.2.2.1 r72.2.2.2.2.1 r72.2.2.2.2.2.1 r72.2.2.2.2.2.2 (nI d) (nI k)).bind fun r88 => (f_X13_writesNumberT r81.1 r81.2 r88.1).bind fun r91 => f_X13_writeChances_28 g (nI d) z f (nI k + 1) r88.2.1 r88.2.2.1 r88.2.2.2.1 r88.2.2.2.2.1 r88.2.2.2.2.2.1 r88.2.2.2.2.2.2 r91.1 r91.2) = f_X13_writeChances_28 g (nI d) z f (nI k + 1) pa2 ne2 wa2 mo2 (nL (cmn (wsm w) ^ d)) 0 sg5 len5 := by
      intro b hb
      subst hb
      rw [e2, obS, u1, obS, e3, obS, show (47 : Int32) = nI 47 from rfl, e4, obS, u2, obS, e5, obS]
    rcases four_cases hk4 with rfl | rfl | rfl | rfl
    · rw [if_pos (show nI 0 = 0 from rfl)]
      exact body _ rfl
    · rw [if_neg (show ¬ nI 1 = 0 by decide), if_pos (show nI 1 = 1 from rfl)]
      exact body _ rfl
    · rw [if_neg (show ¬ nI 2 = 0 by decide), if_neg (show ¬ nI 2 = 1 by decide), if_pos (show nI 2 = 2 from rfl)]
      exact body _ rfl
    · rw [if_neg (show ¬ nI 3 = 0 by decide), if_neg (show ¬ nI 3 = 1 by decide), if_neg (show ¬ nI 3 = 2 by decide)]
      exact body _ rfl
theorem chl_both {g w : Nat → Int32} (hg : ∀ k, k < 16 → g (32 + k) = w k) (hW : WS w) {p : Nat} (hg1 : g 1 = nI p) (hp : p < 4) (bn bd nn nd : Nat → Int64) (pa ne : Nat → Int64) (wa mo : Nat → Int32) (wh : Int64) (lsg sg : Nat → Int32) (ll sm : Int32) (o : Nat → Int64) (code a1 : Int32) : (f_L_writeChances w (nI p) bn bd nn nd lsg ll o 1 a1 = some (1, bn, bd, nn, nd, lsg, ll, o) ∧ f_X13_writeChances g pa ne wa mo wh code sg sm a1 = some (0, pa, ne, wa, mo, wh, 1, sg, sm)) ∨ ∃ (bn' bd' nn' nd' : Nat → Int64) (lsg' : Nat → Int32) (v : Int32) (pa' ne' : Nat → Int64) (wa' mo' : Nat → Int32) (wh' : Int64) (sg' : Nat → Int32), f_L_writeChances w (nI p) bn bd nn nd lsg ll o 1 a1 = some (0, bn', bd', nn', nd', lsg', v, vp_updL o (0 : Int32).toNatClampNeg v.toInt64) ∧ f_X13_writeChances g pa ne wa mo wh code sg sm a1 = some (v, pa', ne', wa', mo', wh', 0, sg', v) ∧ RL' lsg' v sg' v := by
  unfold f_L_writeChances f_X12_writeChances f_X13_writeChances
  rcases days_cases a1 with h1 | ⟨h1, d, hd, rfl⟩
  · refine Or.inl ⟨?_, ?_⟩
    · simp only [s_requireDays, if_pos h1, obS, n20, if_false, if_true]
    · simp only [joE, m_isSoon, if_pos h1, obS, if_true, m_fails1, i10, if_false]
  · obtain ⟨hS1, hS2⟩ := WS_b hW p hp
    obtain ⟨-, hC2, hC3⟩ := cmn_ok (WS_b hW)
    have hM := (pow_ok hC2 hC3 d hd).1
    have hD := Dn_ok hC2 hC3 (by omega) hS2 d hd
    obtain ⟨bn', bd', nn', nd', e1, e2⟩ := s_dayByDay hW hp hd bn bd nn nd
    have hFit : Fit (Pn (Aw w) p d) (cmn (wsm w) ^ d) := fun t ht => by
      obtain ⟨-, -, q3, q4⟩ := e2 t ht
      have l1 := Nat.le_of_dvd hD.1 q3
      have l2 := fN_le q4
      exact ⟨by omega, by omega⟩
    obtain ⟨lsg', len', a1, a2⟩ := s_chl_go e2 hFit (fun x y => some (0, y, bn', bd', nn', nd', x, y)) 4 0 1000 lsg 0 rfl (by decide) (LW_nil lsg)
    obtain ⟨x1, x2, x3, x4, x5, sg', sm', b1, b2⟩ := m_chl_go hg hW hg1 hp hd hFit (fun a b c d e f' x y => some (y, a, b, c, d, e, f', x, y)) 4 0 1000 pa ne wa mo wh sg 0 rfl (by decide) (LW_nil sg)
    have e : len' = sm' := a2.1.trans b2.1.symm
    subst e
    refine Or.inr ⟨bn', bd', nn', nd', lsg', len', x1, x2, x3, x4, x5, sg', ?_, ?_, RL_of a2 b2⟩
    · unfold f_X8_clear
      have a1' : f_X12_writeChances_29 bn' bd' (fun x y => some (0, y, bn', bd', nn', nd', x, y)) 1000 0 lsg 0 = some (0, len', bn', bd', nn', nd', lsg', len') := a1
      simp only [s_requireDays, if_neg h1, obS, if_true, e1, a1']
      exact if_neg (g0F (by decide))
    · have b1' : f_X13_writeChances_28 g (nI d) (fun a b c d e f' x y => some (y, a, b, c, d, e, f', x, y)) 1000 0 pa ne wa mo wh 0 sg 0 = some (len', x1, x2, x3, x4, x5, 0, sg', len') := b1
      simp only [joE, m_isSoon, if_neg h1, obS, i10, if_false, m_fails0, if_true, b1']
