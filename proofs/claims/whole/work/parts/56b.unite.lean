/-! the model's groups and the class's, as they are computed -/
theorem m_joins_go {r : Nat → Int32} (A B : Int32) (z : (Nat → Int32) → Option (Nat → Int32)) : ∀ (d k n : Nat), k + d = 25 → d < n → f_X13_joins_18 A B z n (nI k) (fun j => if j < k ∧ r j = A then B else r j) = z (fun j => if j < 25 ∧ r j = A then B else r j)
  | _, _, 0, _, h => by omega
  | 0, k, n + 1, hk, _ => by
    obtain rfl : k = 25 := by omega
    rw [f_X13_joins_18, if_pos (show (25 : Int32) ≤ nI 25 from Int32.le_refl _)]
  | d + 1, k, n + 1, hk, hn => by
    have ih := m_joins_go (r := r) A B z d (k + 1) n (by omega) (by omega)
    rw [f_X13_joins_18, if_neg (show ¬ (25 : Int32) ≤ nI k from nle (show k < 25 by omega) (by decide)), jo, if_neg (ixo (show k < 25 by omega) (by decide)), qI_cl (show k < 2147483648 by omega), qI_succ]
    simp only [Nat.lt_irrefl, false_and, if_false]
    by_cases e : r k = A
    · rw [if_pos e]
      have e2 : upd (fun j => if j < k ∧ r j = A then B else r j) k B = fun j => if j < k + 1 ∧ r j = A then B else r j := by
        funext j
        by_cases hj : j = k
        · subst hj; rw [upd_same, if_pos ⟨by omega, e⟩]
        · rw [upd_ne _ _ hj]
          by_cases h2 : j < k ∧ r j = A
          · rw [if_pos h2, if_pos ⟨by omega, h2.2⟩]
          · rw [if_neg h2, if_neg (fun q => h2 ⟨by omega, q.2⟩)]
      rw [e2]
      exact ih
    · rw [if_neg e]
      have e2 : (fun j => if j < k ∧ r j = A then B else r j : Nat → Int32) = fun j => if j < k + 1 ∧ r j = A then B else r j := by
        funext j
        by_cases hj : j = k
        · subst hj; rw [if_neg (fun q => e q.2), if_neg (fun q => e q.2)]
        · by_cases h2 : j < k ∧ r j = A
          · rw [if_pos h2, if_pos ⟨by omega, h2.2⟩]
          · rw [if_neg h2, if_neg (fun q => h2 ⟨by omega, q.2⟩)]
      rw [e2]
      exact ih
theorem m_joins {r : Nat → Int32} {a b : Nat} (ha : a < 25) (hb : b < 25) : f_X13_joins r (nI a) (nI b) = some (mrg r a b) := by
  unfold f_X13_joins
  rw [if_neg (ixo ha (by decide)), if_neg (ixo hb (by decide)), qI_cl (show a < 2147483648 by omega), qI_cl (show b < 2147483648 by omega)]
  have h := m_joins_go (r := r) (r a) (r b) (fun x => some x) 25 0 1000 rfl (by decide)
  simp only [Nat.not_lt_zero, false_and, if_false] at h
  exact h
theorem s_join_go {r : Nat → Int32} (A B : Int32) (z : (Nat → Int32) → Option (Int32 × (Nat → Int32))) : ∀ (d k n : Nat), k + d = 25 → d < n → f_X9_join_48 B A z n (nI k) (fun j => if j < k ∧ r j = A then B else r j) = z (fun j => if j < 25 ∧ r j = A then B else r j)
  | _, _, 0, _, h => by omega
  | 0, k, n + 1, hk, _ => by
    obtain rfl : k = 25 := by omega
    rw [f_X9_join_48, if_pos (show (25 : Int32) ≤ nI 25 from Int32.le_refl _)]
  | d + 1, k, n + 1, hk, hn => by
    have ih := s_join_go (r := r) A B z d (k + 1) n (by omega) (by omega)
    rw [f_X9_join_48, if_neg (show ¬ (25 : Int32) ≤ nI k from nle (show k < 25 by omega) (by decide)), jo, if_neg (ixo (show k < 25 by omega) (by decide)), qI_cl (show k < 2147483648 by omega), qI_succ]
    simp only [Nat.lt_irrefl, false_and, if_false]
    by_cases e : r k = A
    · rw [if_pos e]
      have e2 : upd (fun j => if j < k ∧ r j = A then B else r j) k B = fun j => if j < k + 1 ∧ r j = A then B else r j := by
        funext j
        by_cases hj : j = k
        · subst hj; rw [upd_same, if_pos ⟨by omega, e⟩]
        · rw [upd_ne _ _ hj]
          by_cases h2 : j < k ∧ r j = A
          · rw [if_pos h2, if_pos ⟨by omega, h2.2⟩]
          · rw [if_neg h2, if_neg (fun q => h2 ⟨by omega, q.2⟩)]
      rw [e2]
      exact ih
    · rw [if_neg e]
      have e2 : (fun j => if j < k ∧ r j = A then B else r j : Nat → Int32) = fun j => if j < k + 1 ∧ r j = A then B else r j := by
        funext j
        by_cases hj : j = k
        · subst hj; rw [if_neg (fun q => e q.2), if_neg (fun q => e q.2)]
        · by_cases h2 : j < k ∧ r j = A
          · rw [if_pos h2, if_pos ⟨by omega, h2.2⟩]
          · rw [if_neg h2, if_neg (fun q => h2 ⟨by omega, q.2⟩)]
      rw [e2]
      exact ih
theorem s_join {r : Nat → Int32} {a b : Nat} (ha : a < 25) (hb : b < 25) : f_X9_join r (nI a) (nI b) = some (if r a = r b then (0, r) else (1, mrg r b a)) := by
  unfold f_X9_join
  rw [jo, if_neg (qI_neg0 a (by omega)), if_neg (show ¬ (25 : Int32) ≤ nI a from nle ha (by decide)), if_neg (qI_neg0 b (by omega)), if_pos (show nI b < 25 from nlt hb (by decide)), if_neg (ixo ha (by decide)), if_neg (ixo hb (by decide)), qI_cl (show a < 2147483648 by omega), qI_cl (show b < 2147483648 by omega)]
  by_cases e : r a = r b
  · rw [if_pos e, if_pos e]
  · rw [if_neg e, if_neg e]
    have h := s_join_go (r := r) (r b) (r a) (fun x => some (1, x)) 25 0 1000 rfl (by decide)
    simp only [Nat.not_lt_zero, false_and, if_false] at h
    exact h
theorem ini_step (r0 : Nat → Int32) (k : Nat) : upd (fun j => if j < k then nI j else r0 j) k (nI k) = fun j => if j < k + 1 then nI j else r0 j := by
  funext j
  by_cases hj : j = k
  · subst hj; rw [upd_same, if_pos (by omega)]
  · rw [upd_ne _ _ hj]
    by_cases h2 : j < k
    · rw [if_pos h2, if_pos (by omega)]
    · rw [if_neg h2, if_neg (by omega)]
theorem m_ini_go (r0 : Nat → Int32) (z : (Nat → Int32) → Option (Nat → Int32)) : ∀ (d k n : Nat), k + d = 25 → d < n → f_X13_parted_2 z n (nI k) (fun j => if j < k then nI j else r0 j) = z (fun j => if j < 25 then nI j else r0 j)
  | _, _, 0, _, h => by omega
  | 0, k, n + 1, hk, _ => by
    obtain rfl : k = 25 := by omega
    rw [f_X13_parted_2, if_pos (show (25 : Int32) ≤ nI 25 from Int32.le_refl _)]
  | d + 1, k, n + 1, hk, hn => by
    rw [f_X13_parted_2, if_neg (show ¬ (25 : Int32) ≤ nI k from nle (show k < 25 by omega) (by decide)), if_neg (ixo (show k < 25 by omega) (by decide)), qI_cl (show k < 2147483648 by omega), qI_succ, ini_step]
    exact m_ini_go r0 z d (k + 1) n (by omega) (by omega)
theorem s_ini_go (r0 : Nat → Int32) (z : (Nat → Int32) → Option (Int32 × (Nat → Int32))) : ∀ (d k n : Nat), k + d = 25 → d < n → f_X9_unite_2 z n (nI k) (fun j => if j < k then nI j else r0 j) = z (fun j => if j < 25 then nI j else r0 j)
  | _, _, 0, _, h => by omega
  | 0, k, n + 1, hk, _ => by
    obtain rfl : k = 25 := by omega
    rw [f_X9_unite_2, if_pos (show (25 : Int32) ≤ nI 25 from Int32.le_refl _)]
  | d + 1, k, n + 1, hk, hn => by
    rw [f_X9_unite_2, if_neg (show ¬ (25 : Int32) ≤ nI k from nle (show k < 25 by omega) (by decide)), if_neg (ixo (show k < 25 by omega) (by decide)), qI_cl (show k < 2147483648 by omega), qI_succ, ini_step]
    exact s_ini_go r0 z d (k + 1) n (by omega) (by omega)
theorem m_part_go {g c : Nat → Int32} {t : Int32} (h : ∀ k, k < 25 → g (7 + k) = c k) (ht : g 2 = t) (z : (Nat → Int32) → Option (Nat → Int32)) : ∀ (d k n : Nat) (r : Nat → Int32), k + d = 25 → d < n → f_X13_parted_23 g z n (nI k) r = z (foldN (stmM c t) d k r)
  | _, _, 0, _, _, h => by omega
  | 0, k, n + 1, r, hk, _ => by
    obtain rfl : k = 25 := by omega
    rw [f_X13_parted_23, if_pos (show (25 : Int32) ≤ nI 25 from Int32.le_refl _)]
    rfl
  | d + 1, k, n + 1, r, hk, hn => by
    have hk25 : k < 25 := by omega
    have ih := fun r => m_part_go h ht z d (k + 1) n r (by omega) (by omega)
    have lo : ∀ r1 : Nat → Int32, (if (20 : Int32) ≤ nI k then f_X13_parted_23 g z n (nI k + 1) r1 else (f_X13_isFront g (nI k) 5).bind fun r62 => if r62 = 0 then (f_X13_joins r1 (nI k) (nI k + 5)).bind fun r73 => f_X13_parted_23 g z n (nI k + 1) r73 else f_X13_parted_23 g z n (nI k + 1) r1) = z (foldN (stmM c t) d (k + 1) (if 20 ≤ k then r1 else jnM c t k (k + 5) r1)) := by
      intro r1
      rw [qI_succ]
      by_cases h20 : 20 ≤ k
      · rw [if_pos h20, if_pos (show (20 : Int32) ≤ nI k by rw [li20, qI_le (by decide) (by omega)]; exact h20), ih]
      · rw [if_neg h20, if_neg (show ¬ (20 : Int32) ≤ nI k from nle (show k < 20 by omega) (by decide)), m_isFront5 h ht (show k + 5 < 25 by omega), Option.bind_some, show nI k + 5 = nI (k + 5) from qI_add k 5]
        unfold jnM
        by_cases e : frt c t k (k + 5) = 0
        · rw [if_pos e, if_pos e, m_joins hk25 (show k + 5 < 25 by omega), Option.bind_some, ih]
        · rw [if_neg e, if_neg e, ih]
    rw [f_X13_parted_23, if_neg (show ¬ (25 : Int32) ≤ nI k from nle hk25 (by decide)), qm5 hk25, foldN]
    unfold stmM
    by_cases h4 : k % 5 = 4
    · simp only [jo, h4, show ((4 : Int32) ≤ nI 4) = True from eq_true (Int32.le_refl _), if_true]
      exact lo r
    · simp only [jo, show ((4 : Int32) ≤ nI (k % 5)) = False from eq_false (nle (show k % 5 < 4 by omega) (by decide)), if_false, if_neg h4]
      rw [m_isFront1 h ht (show k + 1 < 25 by omega), Option.bind_some]
      unfold jnM at lo ⊢
      by_cases e : frt c t k (k + 1) = 0
      · rw [if_pos e, if_pos e, show nI k + 1 = nI (k + 1) from qI_succ k, m_joins hk25 (show k + 1 < 25 by omega), Option.bind_some, ← qI_succ]
        exact lo _
      · rw [if_neg e, if_neg e]
        exact lo _
theorem m_parted {g c : Nat → Int32} {t : Int32} (h : ∀ k, k < 25 → g (7 + k) = c k) (ht : g 2 = t) (r0 : Nat → Int32) : f_X13_parted g r0 = some (prt c t r0) := by
  unfold f_X13_parted
  have h1 := m_ini_go r0 (fun x => f_X13_parted_23 g (fun x => some x) 1000 0 x) 25 0 1000 rfl (by decide)
  simp only [Nat.not_lt_zero, if_false] at h1
  exact h1.trans (m_part_go h ht (fun x => some x) 25 0 1000 _ rfl (by decide))
theorem s_unite_go {c : Nat → Int32} (hc : Rng c) (t : Int32) (z : Int32 → (Nat → Int32) → Option (Int32 × (Nat → Int32))) : ∀ (d k n : Nat) (s : Int32 × (Nat → Int32)), k + d = 25 → d < n → f_X9_unite_26 c t z n s.1 (nI k) s.2 = z (foldN (stcC c t) d k s).1 (foldN (stcC c t) d k s).2
  | _, _, 0, _, _, h => by omega
  | 0, k, n + 1, s, hk, _ => by
    obtain rfl : k = 25 := by omega
    rw [f_X9_unite_26, if_pos (show (25 : Int32) ≤ nI 25 from Int32.le_refl _)]
    rfl
  | d + 1, k, n + 1, s, hk, hn => by
    have hk25 : k < 25 := by omega
    have ih := fun s => s_unite_go hc t z d (k + 1) n s (by omega) (by omega)
    have lo : ∀ s1 : Int32 × (Nat → Int32), ((f_X10_hasLowerNeighbour (nI k)).bind fun r62 => if r62 = 0 then f_X9_unite_26 c t z n s1.1 (nI k + 1) s1.2 else (f_X10_hasFront c t (nI k) (nI k + 5)).bind fun r73 => if r73 = 0 then (f_X9_join s1.2 (nI k) (nI k + 5)).bind fun r85 => f_X9_unite_26 c t z n (s1.1 - r85.1) (nI k + 1) r85.2 else f_X9_unite_26 c t z n s1.1 (nI k + 1) s1.2) = z (foldN (stcC c t) d (k + 1) (if 20 ≤ k then s1 else jnC c t k (k + 5) s1)).1 (foldN (stcC c t) d (k + 1) (if 20 ≤ k then s1 else jnC c t k (k + 5) s1)).2 := by
      intro s1
      rw [qI_succ, s_lower hk25, Option.bind_some]
      by_cases h20 : 20 ≤ k
      · rw [if_pos h20, if_pos h20, if_pos rfl, ih]
      · rw [if_neg h20, if_neg h20, if_neg i10, show nI k + 5 = nI (k + 5) from qI_add k 5, s_hasFront hc t hk25 (show k + 5 < 25 by omega), Option.bind_some]
        unfold jnC
        by_cases e : frt c t k (k + 5) = 0
        · rw [if_pos e, if_pos e, s_join hk25 (show k + 5 < 25 by omega), Option.bind_some]
          by_cases e2 : s1.2 k = s1.2 (k + 5)
          · rw [if_pos e2, if_pos e2]
            simp only [Int32.sub_zero]
            exact ih s1
          · rw [if_neg e2, if_neg e2]
            exact ih (s1.1 - 1, mrg s1.2 (k + 5) k)
        · rw [if_neg e, if_neg e]
          exact ih s1
    rw [f_X9_unite_26, if_neg (show ¬ (25 : Int32) ≤ nI k from nle hk25 (by decide)), foldN]
    unfold stcC
    rw [jo, s_right hk25, Option.bind_some]
    simp only [jo]
    by_cases h4 : k % 5 = 4
    · rw [if_pos h4, if_pos h4, if_pos rfl]
      exact lo s
    · rw [if_neg h4, if_neg h4, if_neg i10, show nI k + 1 = nI (k + 1) from qI_succ k, s_hasFront hc t hk25 (show k + 1 < 25 by omega), Option.bind_some]
      rw [qI_succ] at lo
      unfold jnC at lo ⊢
      by_cases e : frt c t k (k + 1) = 0
      · rw [if_pos e, if_pos e, s_join hk25 (show k + 1 < 25 by omega), Option.bind_some]
        by_cases e2 : s.2 k = s.2 (k + 1)
        · rw [if_pos e2, if_pos e2]
          simp only [Int32.sub_zero]
          exact lo s
        · rw [if_neg e2, if_neg e2]
          exact lo (s.1 - 1, mrg s.2 (k + 1) k)
      · rw [if_neg e, if_neg e]
        exact lo s
theorem s_unite {c : Nat → Int32} (hc : Rng c) (t : Int32) (g0 r0 : Nat → Int32) : ∃ g', f_X9_unite g0 c t = some (nI (cntP (fun v => prt c t r0 v = nI v) 25), g') := by
  refine ⟨(foldN (stcC c t) 25 0 (25, fun j => if j < 25 then nI j else g0 j)).2, ?_⟩
  unfold f_X9_unite
  have h1 := s_ini_go g0 (fun x => f_X9_unite_26 c t (fun l x => some (l, x)) 1000 25 0 x) 25 0 1000 rfl (by decide)
  simp only [Nat.not_lt_zero, if_false] at h1
  refine h1.trans ((s_unite_go hc t (fun l x => some (l, x)) 25 0 1000 (25, fun j => if j < 25 then nI j else g0 j) rfl (by decide)).trans ?_)
  rw [(prt_ok c t r0 g0).2.2.1]
/-! counts along the cells -/
theorem sumI_cntP (p : Nat → Prop) (f : Nat → Int32) : ∀ (n : Nat), (∀ k, k < n → f k = nI (@ite Nat (p k) (Classical.propDecidable _) 1 0)) → sumI f n 0 0 = nI (cntP p n) := by
  have key : ∀ (d k : Nat) (s : Int32), (∀ j, j < k + d → f j = nI (@ite Nat (p j) (Classical.propDecidable _) 1 0)) → s = nI (cntP p k) → sumI f d k s = nI (cntP p (k + d))
    := by
    intro d
    induction d with
    | zero => intro k s _ hs; exact hs
    | succ d ih =>
      intro k s hf hs
      rw [sumI, ih (k + 1) _ (fun j hj => hf j (by omega)) (by rw [hs, hf k (by omega), qI_add]; rfl)]
      exact congrArg (fun m => nI (cntP p m)) (by omega)
  intro n hf
  have h := key n 0 0 (fun j hj => hf j (by omega)) rfl
  rw [Nat.zero_add] at h
  exact h
theorem m_regs_go {r : Nat → Int32} (z : Int32 → Option (Int32 × (Nat → Int32))) : ∀ (d k n : Nat) (s : Int32), k + d = 25 → d < n → f_X13_regions_8 r z n s (nI k) = z (sumI (fun j => if r j = nI j then 1 else 0) d k s)
  | _, _, 0, _, _, h => by omega
  | 0, k, n + 1, s, hk, _ => by
    obtain rfl : k = 25 := by omega
    rw [f_X13_regions_8, if_pos (show (25 : Int32) ≤ nI 25 from Int32.le_refl _)]
    rfl
  | d + 1, k, n + 1, s, hk, hn => by
    have ih := fun s => m_regs_go (r := r) z d (k + 1) n s (by omega) (by omega)
    rw [f_X13_regions_8, if_neg (show ¬ (25 : Int32) ≤ nI k from nle (show k < 25 by omega) (by decide)), jo, if_neg (ixo (show k < 25 by omega) (by decide)), qI_cl (show k < 2147483648 by omega), qI_succ, sumI]
    by_cases e : r k = nI k
    · rw [if_pos e, if_pos e]; exact ih _
    · rw [if_neg e, if_neg e]; exact ih _
theorem m_regions {g c : Nat → Int32} {t : Int32} (h : ∀ k, k < 25 → g (7 + k) = c k) (ht : g 2 = t) (r0 : Nat → Int32) : f_X13_regions g r0 = some (nI (cntP (fun v => prt c t r0 v = nI v) 25), prt c t r0) := by
  unfold f_X13_regions
  rw [m_parted h ht r0, Option.bind_some]
  refine (m_regs_go (fun x => some (x, prt c t r0)) 25 0 1000 0 rfl (by decide)).trans ?_
  rw [sumI_cntP (fun v => prt c t r0 v = nI v) _ 25 (fun k _ => by
    by_cases e : prt c t r0 k = nI k
    · rw [if_pos e, if_pos e]; rfl
    · rw [if_neg e, if_neg e]; rfl)]
