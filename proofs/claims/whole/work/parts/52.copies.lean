/-! copies of whole stations -/
theorem cp10 (o : Nat → Int32) (z : (Nat → Int32) → Option ((Nat → Int32) × Int32)) : ∀ (d k n : Nat) (c : Nat → Int32), k + d = 25 → d < n → f_X10_copyFrom_2 o z n (nI k) c = z (fun j => if k ≤ j ∧ j < 25 then o j else c j)
  | _, _, 0, _, _, h => by omega
  | 0, k, n + 1, c, hk, _ => by
    obtain rfl : k = 25 := by omega
    rw [f_X10_copyFrom_2, if_pos (show (25 : Int32) ≤ nI 25 from Int32.le_refl _)]
    congr 1
    funext j
    rw [if_neg (by omega)]
  | d + 1, k, n + 1, c, hk, hn => by
    rw [f_X10_copyFrom_2, if_neg (show ¬ (25 : Int32) ≤ nI k from nle (show k < 25 by omega) (by decide)), if_neg (ixo (show k < 25 by omega) (by decide)), qI_succ, qI_cl (show k < 2147483648 by omega), cp10 o z d (k + 1) n _ (by omega) (by omega)]
    congr 1
    funext j
    by_cases hj : j = k
    · subst hj
      rw [if_neg (by omega), if_pos (by omega), upd_same]
    · by_cases h2 : k + 1 ≤ j ∧ j < 25
      · rw [if_pos h2, if_pos (by omega)]
      · rw [if_neg h2, if_neg (by omega), upd_ne _ _ hj]
theorem cp2 (o : Nat → Int32) (z : (Nat → Int32) → Option ((Nat → Int32) × Int32)) : ∀ (d k n : Nat) (c : Nat → Int32), k + d = 16 → d < n → f_X2_copyFrom_2 o z n (nI k) c = z (fun j => if k ≤ j ∧ j < 16 then o j else c j)
  | _, _, 0, _, _, h => by omega
  | 0, k, n + 1, c, hk, _ => by
    obtain rfl : k = 16 := by omega
    rw [f_X2_copyFrom_2, if_pos (show (16 : Int32) ≤ nI 16 from Int32.le_refl _)]
    congr 1
    funext j
    rw [if_neg (by omega)]
  | d + 1, k, n + 1, c, hk, hn => by
    rw [f_X2_copyFrom_2, if_neg (show ¬ (16 : Int32) ≤ nI k from nle (show k < 16 by omega) (by decide)), if_neg (ixo (show k < 16 by omega) (by decide)), qI_succ, qI_cl (show k < 2147483648 by omega), cp2 o z d (k + 1) n _ (by omega) (by omega)]
    congr 1
    funext j
    by_cases hj : j = k
    · subst hj
      rw [if_neg (by omega), if_pos (by omega), upd_same]
    · by_cases h2 : k + 1 ≤ j ∧ j < 16
      · rw [if_pos h2, if_pos (by omega)]
      · rw [if_neg h2, if_neg (by omega), upd_ne _ _ hj]
theorem cp4 (o w : Nat → Int32) (z : (Nat → Int32) → (Nat → Int32) → Option ((Nat → Int32) × (Nat → Int32) × Int32 × Int32 × Int32 × Int32)) : ∀ (d k n : Nat) (c e : Nat → Int32), k + d = 6 → d < n → f_X4_copyFrom_2 o w z n (nI k) c e = z (fun j => if k ≤ j ∧ j < 6 then o j else c j) (fun j => if k ≤ j ∧ j < 6 then w j else e j)
  | _, _, 0, _, _, _, h => by omega
  | 0, k, n + 1, c, e, hk, _ => by
    obtain rfl : k = 6 := by omega
    rw [f_X4_copyFrom_2, if_pos (show (6 : Int32) ≤ nI 6 from Int32.le_refl _)]
    congr 1
    · funext j
      rw [if_neg (by omega)]
    · funext j
      rw [if_neg (by omega)]
  | d + 1, k, n + 1, c, e, hk, hn => by
    have up : ∀ (o c : Nat → Int32), (fun j => if k + 1 ≤ j ∧ j < 6 then o j else upd c k (o k) j) = fun j => if k ≤ j ∧ j < 6 then o j else c j := by
      intro o c
      funext j
      by_cases hj : j = k
      · subst hj
        rw [if_neg (by omega), if_pos (by omega), upd_same]
      · by_cases h2 : k + 1 ≤ j ∧ j < 6
        · rw [if_pos h2, if_pos (by omega)]
        · rw [if_neg h2, if_neg (by omega), upd_ne _ _ hj]
    rw [f_X4_copyFrom_2, if_neg (show ¬ (6 : Int32) ≤ nI k from nle (show k < 6 by omega) (by decide)), if_neg (ixo (show k < 6 by omega) (by decide)), qI_succ, qI_cl (show k < 2147483648 by omega), cp4 o w z d (k + 1) n _ _ (by omega) (by omega), up o c, up w e]
/-- what a copy holds -/
def cpF (b : Nat) (o c : Nat → Int32) : Nat → Int32 := fun j => if j < b then o j else c j
theorem s_copyFrom (c0 : Nat → Int32) (t0 : Int32) (w0 : Nat → Int32) (p0 : Int32) (d0 e0 : Nat → Int32) (n0 s0 r0 h0 y0 : Int32) (c1 : Nat → Int32) (t1 : Int32) (w1 : Nat → Int32) (p1 : Int32) (d1 e1 : Nat → Int32) (n1 s1 r1 h1 y1 : Int32) :
    f_X11_copyFrom c0 t0 w0 p0 d0 e0 n0 s0 r0 h0 y0 c1 t1 w1 p1 d1 e1 n1 s1 r1 h1 y1 = some (cpF 25 c1 c0, t1, cpF 16 w1 w0, p1, cpF 6 d1 d0, cpF 6 e1 e0, n1, s1, r1, h1, y1) := by
  have q1 : f_X10_copyFrom c0 t0 c1 t1 = some (cpF 25 c1 c0, t1) := by
    unfold f_X10_copyFrom
    refine (cp10 c1 _ 25 0 1000 c0 rfl (by decide)).trans ?_
    simp [cpF]
    rfl
  have q2 : f_X2_copyFrom w0 p0 w1 p1 = some (cpF 16 w1 w0, p1) := by
    unfold f_X2_copyFrom
    refine (cp2 w1 _ 16 0 1000 w0 rfl (by decide)).trans ?_
    simp [cpF]
    rfl
  have q3 : f_X4_copyFrom d0 e0 n0 s0 r0 h0 d1 e1 n1 s1 r1 h1 = some (cpF 6 d1 d0, cpF 6 e1 e0, n1, s1, r1, h1) := by
    unfold f_X4_copyFrom
    refine (cp4 d1 e1 _ 6 0 1000 d0 e0 rfl (by decide)).trans ?_
    simp [cpF]
    exact ⟨rfl, rfl⟩
  unfold f_X11_copyFrom
  rw [q1, Option.bind_some, q2, Option.bind_some, q3, Option.bind_some]
/-- the relation speaks of the first places alone -/
theorem RS_copy {c0 : Nat → Int32} {w0 d0 e0 : Nat → Int32} {c1 : Nat → Int32} {t1 : Int32} {w1 : Nat → Int32} {p1 : Int32} {d1 e1 : Nat → Int32} {n1 s1 r1 h1 y1 : Int32} {g : Nat → Int32} (h : RS (c1, t1, w1, p1, d1, e1, n1, s1, r1, h1, y1) g) :
    RS (cpF 25 c1 c0, t1, cpF 16 w1 w0, p1, cpF 6 d1 d0, cpF 6 e1 e0, n1, s1, r1, h1, y1) g := by
  obtain ⟨a1, a2, a3, a4, a5, a6, a7, a8, a9, ⟨n, b1, b2, b3, b4⟩, b5⟩ := h
  refine ⟨fun k hk => ?_, fun k hk => ?_, a3, a4, fun k hk => ?_, fun k hk => ?_, fun r hr => ?_, a8, a9, ⟨n, b1, b2, b3, fun k hk => ?_⟩, b5⟩
  · rw [a1 k hk]; simp [cpF, hk]
  · obtain ⟨v, hv, e⟩ := a2 k hk
    exact ⟨v, hv, by simpa [cpF, hk] using e⟩
  · rw [a5 k hk]; simp [cpF, hk]
  · obtain ⟨v, hv, e⟩ := a6 k hk
    exact ⟨v, hv, by simpa [cpF, hk] using e⟩
  · obtain ⟨c, hc, e⟩ := a7 r hr
    have : 4 * r + c < 16 := by omega
    exact ⟨c, hc, by simpa [cpF, this] using e⟩
  · obtain ⟨q1, q2, v, hv, q3⟩ := b4 k hk
    have : k < 6 := by omega
    exact ⟨by simpa [cpF, this] using q1, by simpa [cpF, this] using q2, v, hv, by simpa [cpF, this] using q3⟩
theorem RS_row {t : StT} {g g' : Nat → Int32} (h : RS t g) (e : ∀ i, i < 60 → g' i = g i) : RS t g' := by
  obtain ⟨a1, a2, a3, a4, a5, a6, a7, a8, a9, ⟨n, b1, b2, b3, b4⟩, b5, b6, b7, b8⟩ := h
  refine ⟨fun k hk => ?_, a2, ?_, a4, fun k hk => ?_, a6, a7, ?_, a9, ⟨n, b1, b2, ?_, fun k hk => ?_⟩, ?_, ?_, ?_, ?_⟩
  · rw [e _ (by omega)]; exact a1 k hk
  · rw [e _ (by omega)]; exact a3
  · rw [e _ (by omega)]; exact a5 k hk
  · rw [e _ (by omega)]; exact a8
  · rw [e _ (by omega)]; exact b3
  · obtain ⟨q1, q2, q3⟩ := b4 k hk
    exact ⟨by rw [e _ (by omega)]; exact q1, by rw [e _ (by omega)]; exact q2, q3⟩
  · rw [e _ (by omega)]; exact b5
  · rw [e _ (by omega)]; exact b6
  · rw [e _ (by omega)]; exact b7
  · rw [e _ (by omega)]; exact b8
/-! the model's copies -/
theorem mcp {fr : Nat → Int32} {n0 n2 a b : Nat} (h0 : a + 60 ≤ n0) (h2 : b + 60 ≤ n2) (hn0 : n0 < 2147483648) (hn2 : n2 < 2147483648) (z : (Nat → Int32) → Option (Nat → Int32)) : ∀ (d k n : Nat) (t : Nat → Int32), k + d = 60 → d < n → f_X13_copies_3 fr n0 n2 (nI a) (nI b) z n (nI k) t = z (fun i => if b + k ≤ i ∧ i < b + 60 then fr (a + (i - b)) else t i)
  | _, _, 0, _, _, h => by omega
  | 0, k, n + 1, t, hk, _ => by
    obtain rfl : k = 60 := by omega
    rw [f_X13_copies_3, if_pos (show (60 : Int32) ≤ nI 60 from Int32.le_refl _)]
    congr 1
    funext j
    rw [if_neg (by omega)]
  | d + 1, k, n + 1, t, hk, hn => by
    rw [f_X13_copies_3, if_neg (show ¬ (60 : Int32) ≤ nI k from nle (show k < 60 by omega) (by decide)), qI_add, qI_add, if_neg (ixo (show a + k < n0 by omega) (by omega)), if_neg (ixo (show b + k < n2 by omega) (by omega)), qI_succ, qI_cl (show b + k < 2147483648 by omega), qI_cl (show a + k < 2147483648 by omega), mcp h0 h2 hn0 hn2 z d (k + 1) n _ (by omega) (by omega)]
    congr 1
    funext j
    by_cases hj : j = b + k
    · subst hj
      rw [if_neg (by omega), if_pos (by omega), upd_same]
      congr 1
      omega
    · by_cases h2 : b + (k + 1) ≤ j ∧ j < b + 60
      · rw [if_pos h2, if_pos (by omega)]
      · rw [if_neg h2, if_neg (by omega), upd_ne _ _ hj]
theorem m_copies {fr t : Nat → Int32} {n0 n2 a b : Nat} (h0 : a + 60 ≤ n0) (h2 : b + 60 ≤ n2) (hn0 : n0 < 2147483648) (hn2 : n2 < 2147483648) : f_X13_copies fr t n0 n2 (nI a) (nI b) = some (fun i => if b ≤ i ∧ i < b + 60 then fr (a + (i - b)) else t i) := by
  unfold f_X13_copies
  exact mcp h0 h2 hn0 hn2 _ 60 0 1000 t rfl (by decide)
/-- the kept rows, one row nearer the front -/
def kShift (kept : Nat → Int32) : Nat → Int32 := fun i => if i < 420 then kept (i + 60) else kept i
theorem mks (z : (Nat → Int32) → Option ((Nat → Int32) × Int32 × Int32)) (k0 : Nat → Int32) : ∀ (d k n : Nat), k + d = 420 → d < n → f_X13_keeps__g_24 z n (nI k) (fun i => if i < k then k0 (i + 60) else k0 i) = z (kShift k0)
  | _, _, 0, _, h => by omega
  | 0, k, n + 1, hk, _ => by
    obtain rfl : k = 420 := by omega
    rw [f_X13_keeps__g_24, if_pos (show (420 : Int32) ≤ nI 420 from Int32.le_refl _)]
    rfl
  | d + 1, k, n + 1, hk, hn => by
    have e : upd (fun i => if i < k then k0 (i + 60) else k0 i) k (k0 (k + 60)) = fun i => if i < k + 1 then k0 (i + 60) else k0 i := by
      funext j
      by_cases hj : j = k
      · subst hj; rw [upd_same, if_pos (by omega)]
      · rw [upd_ne _ _ hj]
        by_cases h2 : j < k
        · rw [if_pos h2, if_pos (by omega)]
        · rw [if_neg h2, if_neg (by omega)]
    rw [f_X13_keeps__g_24, if_neg (show ¬ (420 : Int32) ≤ nI k from nle (show k < 420 by omega) (by decide)), show nI k + 60 = nI (k + 60) from qI_add k 60, if_neg (ixo (show k + 60 < 480 by omega) (by decide)), if_neg (ixo (show k < 480 by omega) (by decide)), qI_succ, qI_cl (show k < 2147483648 by omega), qI_cl (show k + 60 < 2147483648 by omega), if_neg (show ¬ k + 60 < k by omega), e]
    exact mks z k0 d (k + 1) n (by omega) (by omega)
theorem mks2 (z : (Nat → Int32) → Option ((Nat → Int32) × Int32 × Int32)) (k0 : Nat → Int32) : ∀ (d k n : Nat), k + d = 420 → d < n → f_X13_keeps__before_24 z n (nI k) (fun i => if i < k then k0 (i + 60) else k0 i) = z (kShift k0)
  | _, _, 0, _, h => by omega
  | 0, k, n + 1, hk, _ => by
    obtain rfl : k = 420 := by omega
    rw [f_X13_keeps__before_24, if_pos (show (420 : Int32) ≤ nI 420 from Int32.le_refl _)]
    rfl
  | d + 1, k, n + 1, hk, hn => by
    have e : upd (fun i => if i < k then k0 (i + 60) else k0 i) k (k0 (k + 60)) = fun i => if i < k + 1 then k0 (i + 60) else k0 i := by
      funext j
      by_cases hj : j = k
      · subst hj; rw [upd_same, if_pos (by omega)]
      · rw [upd_ne _ _ hj]
        by_cases h2 : j < k
        · rw [if_pos h2, if_pos (by omega)]
        · rw [if_neg h2, if_neg (by omega)]
    rw [f_X13_keeps__before_24, if_neg (show ¬ (420 : Int32) ≤ nI k from nle (show k < 420 by omega) (by decide)), show nI k + 60 = nI (k + 60) from qI_add k 60, if_neg (ixo (show k + 60 < 480 by omega) (by decide)), if_neg (ixo (show k < 480 by omega) (by decide)), qI_succ, qI_cl (show k < 2147483648 by omega), qI_cl (show k + 60 < 2147483648 by omega), if_neg (show ¬ k + 60 < k by omega), e]
    exact mks2 z k0 d (k + 1) n (by omega) (by omega)
def kPut (kept row : Nat → Int32) (c : Nat) : Nat → Int32 := fun i => if 60 * c ≤ i ∧ i < 60 * c + 60 then row (i - 60 * c) else kept i
/-- what keeps leaves: rows and number -/
def kRows (kept row : Nat → Int32) (c : Nat) : Nat → Int32 := if c = 8 then kPut (kShift kept) row 7 else kPut kept row c
theorem m_keeps {row kept : Nat → Int32} {c : Nat} (hc : c ≤ 8) (code : Int32) : f_X13_keeps__g row kept (nI c) 0 code = some (kRows kept row c, nI (min (c + 1) 8), 0) := by
  unfold f_X13_keeps__g
  rw [if_pos rfl]
  simp only [jo]
  by_cases h8 : c = 8
  · subst h8
    rw [if_pos (show nI 8 = 8 from rfl)]
    have e : f_X13_keeps__g_24 (fun x_kept_52e => (f_X13_copies row x_kept_52e 60 480 0 (60 * (nI 8 - 1))).bind fun r75 => some (r75, nI 8 - 1 + 1, 0)) 1000 (nI 0) (fun i => if i < 0 then kept (i + 60) else kept i) = _ := mks _ kept 420 0 1000 rfl (by decide)
    simp only [Nat.not_lt_zero, if_false] at e
    refine e.trans ?_
    rw [show (60 : Int32) * (nI 8 - 1) = nI 420 from by decide +kernel, show (0 : Int32) = nI 0 from rfl, m_copies (a := 0) (b := 420) (by decide) (by decide) (by decide) (by decide), Option.bind_some]
    simp only [kRows, if_true, kPut, Nat.zero_add]
    rfl
  · rw [if_neg (show ¬ nI c = 8 by rw [show (8 : Int32) = nI 8 from rfl, qI_eq (by omega) (by decide)]; exact h8), show (60 : Int32) * nI c = nI (60 * c) from qI_mul 60 c, show (0 : Int32) = nI 0 from rfl, m_copies (a := 0) (b := 60 * c) (by decide) (by omega) (by decide) (by decide), Option.bind_some, qI_succ, Nat.min_eq_left (by omega)]
    simp only [kRows, if_neg h8, kPut, Nat.zero_add]
    rfl
theorem m_keepsB {row kept : Nat → Int32} {c : Nat} (hc : c ≤ 8) (code : Int32) : f_X13_keeps__before kept row (nI c) 0 code = some (kRows kept row c, nI (min (c + 1) 8), 0) := by
  unfold f_X13_keeps__before
  rw [if_pos rfl]
  simp only [jo]
  by_cases h8 : c = 8
  · subst h8
    rw [if_pos (show nI 8 = 8 from rfl)]
    have e : f_X13_keeps__before_24 (fun x_kept_52e => (f_X13_copies row x_kept_52e 60 480 0 (60 * (nI 8 - 1))).bind fun r75 => some (r75, nI 8 - 1 + 1, 0)) 1000 (nI 0) (fun i => if i < 0 then kept (i + 60) else kept i) = _ := mks2 _ kept 420 0 1000 rfl (by decide)
    simp only [Nat.not_lt_zero, if_false] at e
    refine e.trans ?_
    rw [show (60 : Int32) * (nI 8 - 1) = nI 420 from by decide +kernel, show (0 : Int32) = nI 0 from rfl, m_copies (a := 0) (b := 420) (by decide) (by decide) (by decide) (by decide), Option.bind_some]
    simp only [kRows, if_true, kPut, Nat.zero_add]
    rfl
  · rw [if_neg (show ¬ nI c = 8 by rw [show (8 : Int32) = nI 8 from rfl, qI_eq (by omega) (by decide)]; exact h8), show (60 : Int32) * nI c = nI (60 * c) from qI_mul 60 c, show (0 : Int32) = nI 0 from rfl, m_copies (a := 0) (b := 60 * c) (by decide) (by omega) (by decide) (by decide), Option.bind_some, qI_succ, Nat.min_eq_left (by omega)]
    simp only [kRows, if_neg h8, kPut, Nat.zero_add]
    rfl
theorem m_keepsW {row kept : Nat → Int32} {ch wi : Int32} (hw : wi ≠ 0) (code : Int32) : f_X13_keeps__g row kept ch wi code = some (kept, ch, 0) := by
  unfold f_X13_keeps__g
  rw [if_neg hw]
/-! the class's history -/
theorem s_remember {ring : Nat → StT} {n c : Nat} (hn : n < 8) (hc : c ≤ 8) (c1 : Nat → Int32) (t1 : Int32) (w1 : Nat → Int32) (p1 : Int32) (d1 e1 : Nat → Int32) (n1 s1 r1 h1 y1 : Int32) :
    f_X6_remember ring (nI n) (nI c) c1 t1 w1 p1 d1 e1 n1 s1 r1 h1 y1 = some (va_up ring n (cpF 25 c1 (ring n).1, t1, cpF 16 w1 (ring n).2.2.1, p1, cpF 6 d1 (ring n).2.2.2.2.1, cpF 6 e1 (ring n).2.2.2.2.2.1, n1, s1, r1, h1, y1), nI ((n + 1) % 8), nI (min (c + 1) 8)) := by
  unfold f_X6_remember
  simp only [jo]
  have e1' : nI (n + 1) - nI (n + 1) / 8 * 8 = nI ((n + 1) % 8) := qI_mod (b := 8) (by omega) (by decide)
  rw [if_neg (qI_neg0 n (by omega)), if_neg (show ¬ (8 : Int32) ≤ nI n from nle hn (by decide)), if_neg (ixo hn (by decide)), qI_cl (show n < 2147483648 by omega), s_copyFrom, Option.bind_some, qI_succ, qI_succ, e1']
  by_cases h8 : c + 1 ≤ 8
  · rw [Nat.min_eq_left h8]
    simp only [show ¬ ((8 : Int32) < nI (c + 1)) by rw [show (8 : Int32) = nI 8 from rfl, qI_lt (by decide) (by omega)]; omega, if_false]
  · obtain rfl : c = 8 := by omega
    simp only [show (8 : Int32) < nI (8 + 1) by decide +kernel, if_true]
    rfl
theorem s_takeBack {ring : Nat → StT} {n c : Nat} (hn : n < 8) (hc : c < 8) (c0 : Nat → Int32) (t0 : Int32) (w0 : Nat → Int32) (p0 : Int32) (d0 e0 : Nat → Int32) (n0 s0 r0 h0 y0 : Int32) :
    f_X6_takeBack ring (nI n) (nI (c + 1)) c0 t0 w0 p0 d0 e0 n0 s0 r0 h0 y0 = some (nI ((n + 7) % 8), nI c, cpF 25 (ring ((n + 7) % 8)).1 c0, (ring ((n + 7) % 8)).2.1, cpF 16 (ring ((n + 7) % 8)).2.2.1 w0, (ring ((n + 7) % 8)).2.2.2.1, cpF 6 (ring ((n + 7) % 8)).2.2.2.2.1 d0, cpF 6 (ring ((n + 7) % 8)).2.2.2.2.2.1 e0, (ring ((n + 7) % 8)).2.2.2.2.2.2.1, (ring ((n + 7) % 8)).2.2.2.2.2.2.2.1, (ring ((n + 7) % 8)).2.2.2.2.2.2.2.2.1, (ring ((n + 7) % 8)).2.2.2.2.2.2.2.2.2.1, (ring ((n + 7) % 8)).2.2.2.2.2.2.2.2.2.2) := by
  unfold f_X6_takeBack
  simp only [jo]
  have hm : (n + 7) % 8 < 8 := Nat.mod_lt _ (by decide)
  have e0' : nI n + 8 - 1 = nI (n + 7) := by
    rw [show nI n + 8 = nI (n + 8) from qI_add n 8]
    exact (qI_sub (a := n + 8) (b := 1) (by omega)).trans (congrArg nI (by omega))
  have e1' : nI (n + 7) - nI (n + 7) / 8 * 8 = nI ((n + 7) % 8) := qI_mod (b := 8) (by omega) (by decide)
  have e2' : nI (c + 1) - 1 = nI c := (qI_sub (a := c + 1) (b := 1) (by omega)).trans (congrArg nI (by omega))
  rw [e0', e1', if_neg (show ¬ nI (c + 1) ≤ 0 by rw [show (0 : Int32) = nI 0 from rfl, qI_le (by omega) (by decide)]; omega), if_neg (qI_neg0 _ (by omega)), if_neg (ixo hm (by decide)), qI_cl (show (n + 7) % 8 < 2147483648 by omega), s_copyFrom, Option.bind_some, e2']
/-- the rows behind a modification -/
theorem RH_keep {ring : Nat → StT} {nx ct ch : Int32} {kept g : Nat → Int32} (h : RH ring nx ct kept ch) {c1 : Nat → Int32} {t1 : Int32} {w1 : Nat → Int32} {p1 : Int32} {d1 e1 : Nat → Int32} {n1 s1 r1 h1 y1 : Int32} (hR : RS (c1, t1, w1, p1, d1, e1, n1, s1, r1, h1, y1) g) :
    ∃ (ring' : Nat → StT) (nx' ct' : Int32) (kept' : Nat → Int32), f_X6_remember ring nx ct c1 t1 w1 p1 d1 e1 n1 s1 r1 h1 y1 = some (ring', nx', ct') ∧ (∀ code, f_X13_keeps__g g kept ch 0 code = some (kept', ct', 0)) ∧ (∀ code, f_X13_keeps__before kept g ch 0 code = some (kept', ct', 0)) ∧ RH ring' nx' ct' kept' ct' := by
  obtain ⟨n, c, hn, hc, rfl, rfl, rfl, hj⟩ := h
  refine ⟨_, _, _, kRows kept g c, s_remember hn hc c1 t1 w1 p1 d1 e1 n1 s1 r1 h1 y1, m_keeps hc, m_keepsB hc, (n + 1) % 8, min (c + 1) 8, Nat.mod_lt _ (by decide), Nat.min_le_right _ _, rfl, rfl, rfl, ?_⟩
  intro j hjc
  by_cases h8 : c = 8
  · subst h8
    have hj8 : j < 8 := by
      have : min (8 + 1) 8 = 8 := rfl
      omega
    rw [show (n + 1) % 8 + 8 - min (8 + 1) 8 + j = (n + 1) % 8 + j from by
      have : min (8 + 1) 8 = 8 := rfl
      omega]
    by_cases h7 : j = 7
    · subst h7
      rw [show ((n + 1) % 8 + 7) % 8 = n by omega, va_up_self]
      refine RS_row (RS_copy hR) (fun i hi => ?_)
      simp only [kRows, if_true, kPut]
      rw [if_pos (by omega)]
      exact congrArg _ (by omega)
    · rw [show ((n + 1) % 8 + j) % 8 = (n + 8 - 8 + (j + 1)) % 8 by omega, va_up_ne _ _ (by omega)]
      refine RS_row (hj (j + 1) (by omega)) (fun i hi => ?_)
      simp only [kRows, if_true, kPut, kShift]
      rw [if_neg (by omega), if_pos (by omega)]
      exact congrArg _ (by omega)
  · have hm : min (c + 1) 8 = c + 1 := Nat.min_eq_left (by omega)
    rw [hm] at hjc ⊢
    by_cases hjc2 : j = c
    · subst hjc2
      rw [show ((n + 1) % 8 + 8 - (j + 1) + j) % 8 = n by omega, va_up_self]
      refine RS_row (RS_copy hR) (fun i hi => ?_)
      simp only [kRows, if_neg h8, kPut]
      rw [if_pos (by omega)]
      exact congrArg _ (by omega)
    · rw [show ((n + 1) % 8 + 8 - (c + 1) + j) % 8 = (n + 8 - c + j) % 8 by omega, va_up_ne _ _ (by omega)]
      refine RS_row (hj j (by omega)) (fun i hi => ?_)
      simp only [kRows, if_neg h8, kPut]
      rw [if_neg (by omega)]
