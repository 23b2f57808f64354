/-! folding and shifting: model -/
theorem ixo2 {k b : Nat} (hk : k < b) (hb : b ≤ 2147483648) : (nI k < 0 ∨ b ≤ (nI k).toNatClampNeg) = False := eq_false (ixo hk hb)
theorem m_looks_go (g : Nat → Int32) (z : (Nat → Int32) → Option (Nat → Int32)) : ∀ (d k n : Nat) (w : Nat → Int32), k + d = 25 → d < n → f_X13_looks_2 g z n (nI k) w = z (fun j => if k ≤ j ∧ j < 25 then g (7 + j) else w j)
  | _, _, 0, _, _, h => by omega
  | 0, k, n + 1, w, hk, _ => by
    obtain rfl : k = 25 := by omega
    rw [f_X13_looks_2, if_pos (show (25 : Int32) ≤ nI 25 from Int32.le_refl _)]
    congr 1
    funext j
    rw [if_neg (by omega)]
  | d + 1, k, n + 1, w, hk, hn => by
    have e7 : (7 : Int32) + nI k = nI (7 + k) := qI_add 7 k
    rw [f_X13_looks_2, if_neg (show ¬ (25 : Int32) ≤ nI k from nle (show k < 25 by omega) (by decide)), e7, if_neg (ixo (show 7 + k < 60 by omega) (by decide)), if_neg (ixo (show k < 25 by omega) (by decide)), qI_succ, qI_cl (show 7 + k < 2147483648 by omega), qI_cl (show k < 2147483648 by omega), m_looks_go g z d (k + 1) n _ (by omega) (by omega)]
    congr 1
    funext j
    by_cases hj : j = k
    · subst hj
      rw [if_neg (by omega), if_pos (by omega), upd_same]
    · by_cases h2 : k + 1 ≤ j ∧ j < 25
      · rw [if_pos h2, if_pos (by omega)]
      · rw [if_neg h2, if_neg (by omega), upd_ne _ _ hj]
def looksOf (g w : Nat → Int32) : Nat → Int32 := fun j => if j < 25 then g (7 + j) else w j
theorem m_looks (g w : Nat → Int32) : f_X13_looks g w = some (looksOf g w) := by
  unfold f_X13_looks
  refine (m_looks_go g _ 25 0 1000 w rfl (by decide)).trans ?_
  congr 1
  funext j
  simp [looksOf]
theorem m_others_go (g w : Nat → Int32) (z : Int32 → Option Int32) : ∀ (d k n : Nat) (s : Int32), k + d = 25 → d < n → f_X13_others_4 g w z n s (nI k) = z (sumI (fun j => if w j = g (7 + j) then 0 else 1) d k s)
  | _, _, 0, _, _, h => by omega
  | 0, k, n + 1, s, hk, _ => by
    obtain rfl : k = 25 := by omega
    rw [f_X13_others_4, if_pos (show (25 : Int32) ≤ nI 25 from Int32.le_refl _)]
    rfl
  | d + 1, k, n + 1, s, hk, hn => by
    have e7 : (7 : Int32) + nI k = nI (7 + k) := qI_add 7 k
    rw [f_X13_others_4, if_neg (show ¬ (25 : Int32) ≤ nI k from nle (show k < 25 by omega) (by decide))]
    simp only [jo]
    rw [e7, if_neg (ixo (show 7 + k < 60 by omega) (by decide)), if_neg (ixo (show k < 25 by omega) (by decide)), qI_cl (show 7 + k < 2147483648 by omega), qI_cl (show k < 2147483648 by omega), qI_succ, sumI]
    by_cases h : w k = g (7 + k)
    · rw [if_pos h]
      simp only [h, if_true]
      exact m_others_go g w z d (k + 1) n _ (by omega) (by omega)
    · rw [if_neg h]
      simp only [h, if_false]
      exact m_others_go g w z d (k + 1) n _ (by omega) (by omega)
/-- the model's sheet is the class's -/
def SameC (g c : Nat → Int32) : Prop := ∀ j, j < 25 → g (7 + j) = c j
theorem m_others {g w c0 c : Nat → Int32} (hw : ∀ j, j < 25 → w j = c0 j) (hg : SameC g c) : f_X13_others g w = some (dsum c0 c) := by
  unfold f_X13_others
  refine (m_others_go g w (fun s => some s) 25 0 1000 0 rfl (by decide)).trans (congrArg some ?_)
  unfold dsum
  exact sumI_congr _ _ 25 0 0 (fun j _ hj => by rw [hw j (by omega), hg j (by omega)])
def gl (a b : Nat) (g : Nat → Int32) : Nat → Int32 := upd (upd g (7 + a) ((g (7 + a) + g (7 + b) + 1) / 2)) (7 + b) ((g (7 + a) + g (7 + b)) / 2)
def GLN (u w : Nat → Nat) : Nat → Nat → (Nat → Int32) → (Nat → Int32)
  | 0, _, g => g
  | d + 1, k, g => GLN u w d (k + 1) (gl (u k) (w k) g)
def GLL : List (Nat × Nat) → (Nat → Int32) → (Nat → Int32)
  | [], g => g
  | (a, b) :: L, g => GLL L (gl a b g)
theorem m_fold5 {R D st al : Nat} (h1 : D ≤ R) (z : (Nat → Int32) → Option (Int32 × (Nat → Int32) × (Nat → Int32) × (Nat → Int32) × Int32 × Int32)) (hu : ∀ k, k < 5 → st * (R - D) + al * k < 25) (hw : ∀ k, k < 5 → st * (R + D) + al * k < 25) : ∀ (d k n : Nat) (g : Nat → Int32), k + d = 5 → d < n → f_X13_folds_55 (nI R) (nI st) (nI al) (nI D) z n (nI k) g = z (GLN (fun k => st * (R - D) + al * k) (fun k => st * (R + D) + al * k) d k g)
  | _, _, 0, _, _, h => by omega
  | 0, k, n + 1, g, hk, _ => by
    obtain rfl : k = 5 := by omega
    rw [f_X13_folds_55, if_pos (show (5 : Int32) ≤ nI 5 from Int32.le_refl _)]
    rfl
  | d + 1, k, n + 1, g, hk, hn => by
    have e1 : (7 : Int32) + nI st * (nI R - nI D) + nI al * nI k = nI (7 + (st * (R - D) + al * k)) := by
      rw [qI_sub h1, qI_mul, qI_mul, show (7 : Int32) = nI 7 from rfl, qI_add, qI_add, Nat.add_assoc]
    have e2 : (7 : Int32) + nI st * (nI R + nI D) + nI al * nI k = nI (7 + (st * (R + D) + al * k)) := by
      rw [qI_add, qI_mul, qI_mul, show (7 : Int32) = nI 7 from rfl, qI_add, qI_add, Nat.add_assoc]
    have b1 := hu k (by omega)
    have b2 := hw k (by omega)
    rw [f_X13_folds_55, if_neg (show ¬ (5 : Int32) ≤ nI k from nle (show k < 5 by omega) (by decide)), e1, e2, if_neg (ixo (show 7 + (st * (R - D) + al * k) < 60 by omega) (by decide)), if_neg (ixo (show 7 + (st * (R + D) + al * k) < 60 by omega) (by decide)), qI_cl (show 7 + (st * (R - D) + al * k) < 2147483648 by omega), qI_cl (show 7 + (st * (R + D) + al * k) < 2147483648 by omega), qI_succ]
    exact m_fold5 h1 z hu hw d (k + 1) n _ (by omega) (by omega)
theorem m_foldOut (l2 l3 : Int32) (R D : Nat) (z : (Nat → Int32) → Option (Int32 × (Nat → Int32) × (Nat → Int32) × (Nat → Int32) × Int32 × Int32)) (n : Nat) (g : Nat → Int32) (h : nI R < nI D ∨ 5 ≤ nI R + nI D) : f_X13_folds_38 (nI R) l2 l3 z (n + 1) (nI D) g = z g := by
  rw [f_X13_folds_38]
  by_cases h1 : nI R < nI D
  · rw [if_pos h1]
  · rw [if_neg h1, if_pos (h.resolve_left h1)]
theorem m_foldStep {R D st al : Nat} (h1 : D ≤ R) (h2 : R + D < 5) (z : (Nat → Int32) → Option (Int32 × (Nat → Int32) × (Nat → Int32) × (Nat → Int32) × Int32 × Int32)) (n : Nat) (g : Nat → Int32) (hu : ∀ k, k < 5 → st * (R - D) + al * k < 25) (hw : ∀ k, k < 5 → st * (R + D) + al * k < 25) : f_X13_folds_38 (nI R) (nI st) (nI al) z (n + 1) (nI D) g = f_X13_folds_38 (nI R) (nI st) (nI al) z n (nI (D + 1)) (GLN (fun k => st * (R - D) + al * k) (fun k => st * (R + D) + al * k) 5 0 g) := by
  rw [f_X13_folds_38, if_neg (show ¬ nI R < nI D by rw [qI_lt (by omega) (by omega)]; omega), if_neg (show ¬ (5 : Int32) ≤ nI R + nI D by rw [qI_add]; exact nle h2 (by decide)), show (0 : Int32) = nI 0 from rfl, m_fold5 h1 _ hu hw 5 0 1000 g rfl (by decide), qI_succ]
theorem m_foldR {R : Nat} (hR : R = 1 ∨ R = 2 ∨ R = 3) (z : (Nat → Int32) → Option (Int32 × (Nat → Int32) × (Nat → Int32) × (Nat → Int32) × Int32 × Int32)) (g : Nat → Int32) : f_X13_folds_38 (nI R) (nI 5) (nI 1) z 1000 (nI 1) g = z (GLL (prR R) g) := by
  rcases hR with rfl | rfl | rfl
  · refine (m_foldStep (R := 1) (D := 1) (st := 5) (al := 1) (by decide) (by decide) z 999 g (by decide) (by decide)).trans ?_
    exact m_foldOut _ _ 1 2 z 998 _ (Or.inl (by decide +kernel))
  · refine (m_foldStep (R := 2) (D := 1) (st := 5) (al := 1) (by decide) (by decide) z 999 g (by decide) (by decide)).trans ?_
    refine (m_foldStep (R := 2) (D := 2) (st := 5) (al := 1) (by decide) (by decide) z 998 _ (by decide) (by decide)).trans ?_
    rw [m_foldOut (nI 5) (nI 1) 2 3 z 997 _ (Or.inl (by decide +kernel))]
    rfl
  · refine (m_foldStep (R := 3) (D := 1) (st := 5) (al := 1) (by decide) (by decide) z 999 g (by decide) (by decide)).trans ?_
    rw [m_foldOut (nI 5) (nI 1) 3 2 z 998 _ (Or.inr (by decide +kernel))]
    rfl
theorem m_foldC {R : Nat} (hR : R = 1 ∨ R = 2 ∨ R = 3) (z : (Nat → Int32) → Option (Int32 × (Nat → Int32) × (Nat → Int32) × (Nat → Int32) × Int32 × Int32)) (g : Nat → Int32) : f_X13_folds_38 (nI R) (nI 1) (nI 5) z 1000 (nI 1) g = z (GLL (prC R) g) := by
  rcases hR with rfl | rfl | rfl
  · refine (m_foldStep (R := 1) (D := 1) (st := 1) (al := 5) (by decide) (by decide) z 999 g (by decide) (by decide)).trans ?_
    rw [m_foldOut (nI 1) (nI 5) 1 2 z 998 _ (Or.inl (by decide +kernel))]
    rfl
  · refine (m_foldStep (R := 2) (D := 1) (st := 1) (al := 5) (by decide) (by decide) z 999 g (by decide) (by decide)).trans ?_
    refine (m_foldStep (R := 2) (D := 2) (st := 1) (al := 5) (by decide) (by decide) z 998 _ (by decide) (by decide)).trans ?_
    rw [m_foldOut (nI 1) (nI 5) 2 3 z 997 _ (Or.inl (by decide +kernel))]
    rfl
  · refine (m_foldStep (R := 3) (D := 1) (st := 1) (al := 5) (by decide) (by decide) z 999 g (by decide) (by decide)).trans ?_
    rw [m_foldOut (nI 1) (nI 5) 3 2 z 998 _ (Or.inr (by decide +kernel))]
    rfl
theorem gl_same {g c : Nat → Int32} {n : Int32} {a b : Nat} (ha : a < 25) (hb : b < 25) (h : SameC g c) : SameC (gl a b g) (lv1 a b (n, c)).2 := by
  intro j hj
  unfold gl lv1
  simp only
  rw [h a ha, h b hb]
  by_cases e1 : j = b
  · subst e1; rw [upd_same, upd_same]
  · rw [upd_ne _ _ (by omega), upd_ne _ _ e1]
    by_cases e2 : j = a
    · subst e2; rw [upd_same, upd_same]
    · rw [upd_ne _ _ (by omega), upd_ne _ _ e2]; exact h j hj
theorem GLL_same : ∀ (L : List (Nat × Nat)) (g : Nat → Int32) (s : Int32 × (Nat → Int32)), (∀ p ∈ L, p.1 < 25 ∧ p.2 < 25) → SameC g s.2 → SameC (GLL L g) (LVL L s).2
  | [], _, _, _, h => h
  | (a, b) :: L, g, s, hL, h => by
    have h1 := hL (a, b) List.mem_cons_self
    exact GLL_same L _ _ (fun p hp => hL p (List.mem_cons_of_mem _ hp)) (gl_same (n := s.1) h1.1 h1.2 h)
theorem gl_out {g : Nat → Int32} {a b i : Nat} (ha : a < 25) (hb : b < 25) (hi : i < 7 ∨ 32 ≤ i) : gl a b g i = g i := by
  unfold gl
  rw [upd_ne _ _ (by omega), upd_ne _ _ (by omega)]
theorem GLL_out : ∀ (L : List (Nat × Nat)) (g : Nat → Int32) (i : Nat), (∀ p ∈ L, p.1 < 25 ∧ p.2 < 25) → (i < 7 ∨ 32 ≤ i) → GLL L g i = g i
  | [], _, _, _, _ => rfl
  | (a, b) :: L, g, i, hL, hi => by
    have h1 := hL (a, b) List.mem_cons_self
    rw [GLL, GLL_out L _ i (fun p hp => hL p (List.mem_cons_of_mem _ hp)) hi, gl_out h1.1 h1.2 hi]
theorem prR_lt {R : Nat} (hR : R = 1 ∨ R = 2 ∨ R = 3) : ∀ p ∈ prR R, p.1 < 25 ∧ p.2 < 25 := by
  rcases hR with rfl | rfl | rfl <;> decide
theorem prC_lt {R : Nat} (hR : R = 1 ∨ R = 2 ∨ R = 3) : ∀ p ∈ prC R, p.1 < 25 ∧ p.2 < 25 := by
  rcases hR with rfl | rfl | rfl <;> decide
/-! the model's shift -/
def tgt (R C k : Nat) : Nat := 5 * ((k / 5 + R) % 5) + (k % 5 + C) % 5
def SHN (R C : Nat) (w : Nat → Int32) : Nat → Nat → (Nat → Int32) → (Nat → Int32)
  | 0, _, g => g
  | d + 1, k, g => SHN R C w d (k + 1) (upd g (7 + tgt R C k) (w k))
theorem tgt_lt (R C k : Nat) : tgt R C k < 25 := by
  unfold tgt
  have h1 := Nat.mod_lt (k / 5 + R) (show 0 < 5 by decide)
  have h2 := Nat.mod_lt (k % 5 + C) (show 0 < 5 by decide)
  omega
theorem m_shift_go {R C : Nat} (hR : R < 5) (hC : C < 5) (w : Nat → Int32) (z : (Nat → Int32) → Option (Int32 × (Nat → Int32) × (Nat → Int32) × (Nat → Int32) × Int32 × Int32)) : ∀ (d k n : Nat) (g : Nat → Int32), k + d = 25 → d < n → f_X13_shift_79 w (nI R) (nI C) z n (nI k) g = z (SHN R C w d k g)
  | _, _, 0, _, _, h => by omega
  | 0, k, n + 1, g, hk, _ => by
    obtain rfl : k = 25 := by omega
    rw [f_X13_shift_79, if_pos (show (25 : Int32) ≤ nI 25 from Int32.le_refl _)]
    rfl
  | d + 1, k, n + 1, g, hk, hn => by
    have q1 : k / 5 < 5 := by omega
    have q2 : k % 5 < 5 := Nat.mod_lt _ (by decide)
    have e1 : nI k / 5 = nI (k / 5) := qI_div (by omega) (by decide)
    have e2 : nI k - nI k / 5 * 5 = nI (k % 5) := qI_mod (b := 5) (by omega) (by decide)
    have e3 : nI (k / 5) + nI R - (nI (k / 5) + nI R) / 5 * 5 = nI ((k / 5 + R) % 5) := by
      rw [qI_add]; exact qI_mod (b := 5) (by omega) (by decide)
    have e4 : nI (k % 5) + nI C - (nI (k % 5) + nI C) / 5 * 5 = nI ((k % 5 + C) % 5) := by
      rw [qI_add]; exact qI_mod (b := 5) (by omega) (by decide)
    have e5 : (7 : Int32) + 5 * nI ((k / 5 + R) % 5) + nI ((k % 5 + C) % 5) = nI (7 + tgt R C k) := by
      rw [show (7 : Int32) = nI 7 from rfl, show (5 : Int32) = nI 5 from rfl, qI_mul, qI_add, qI_add]
      unfold tgt
      rw [Nat.add_assoc]
    have b := tgt_lt R C k
    rw [f_X13_shift_79, if_neg (show ¬ (25 : Int32) ≤ nI k from nle (show k < 25 by omega) (by decide)), if_neg (ixo (show k < 25 by omega) (by decide)), e2, e1, e3, e4, e5, if_neg (ixo (show 7 + tgt R C k < 60 by omega) (by decide)), qI_cl (show 7 + tgt R C k < 2147483648 by omega), qI_cl (show k < 2147483648 by omega), qI_succ]
    exact m_shift_go hR hC w z d (k + 1) n _ (by omega) (by omega)
theorem SHN_out (R C : Nat) (w : Nat → Int32) : ∀ (d k : Nat) (g : Nat → Int32) (i : Nat), (i < 7 ∨ 32 ≤ i) → SHN R C w d k g i = g i
  | 0, _, _, _, _ => rfl
  | d + 1, k, g, i, hi => by
    have b := tgt_lt R C k
    rw [SHN, SHN_out R C w d (k + 1) _ i hi, upd_ne _ _ (by omega)]
theorem SHN_n (w g : Nat → Int32) (j : Nat) (hj : j < 25) : SHN 4 0 w 25 0 g (7 + j) = w (sgN j) := by
  refine lt25 (P := fun j => SHN 4 0 w 25 0 g (7 + j) = w (sgN j)) (fun p hp q hq => ?_) j hj
  rcases lt5 hp with rfl | rfl | rfl | rfl | rfl <;> rcases lt5 hq with rfl | rfl | rfl | rfl | rfl <;> rfl
theorem SHN_s (w g : Nat → Int32) (j : Nat) (hj : j < 25) : SHN 1 0 w 25 0 g (7 + j) = w (sgS j) := by
  refine lt25 (P := fun j => SHN 1 0 w 25 0 g (7 + j) = w (sgS j)) (fun p hp q hq => ?_) j hj
  rcases lt5 hp with rfl | rfl | rfl | rfl | rfl <;> rcases lt5 hq with rfl | rfl | rfl | rfl | rfl <;> rfl
theorem SHN_w (w g : Nat → Int32) (j : Nat) (hj : j < 25) : SHN 0 4 w 25 0 g (7 + j) = w (sgW j) := by
  refine lt25 (P := fun j => SHN 0 4 w 25 0 g (7 + j) = w (sgW j)) (fun p hp q hq => ?_) j hj
  rcases lt5 hp with rfl | rfl | rfl | rfl | rfl <;> rcases lt5 hq with rfl | rfl | rfl | rfl | rfl <;> rfl
theorem SHN_e (w g : Nat → Int32) (j : Nat) (hj : j < 25) : SHN 0 1 w 25 0 g (7 + j) = w (sgE j) := by
  refine lt25 (P := fun j => SHN 0 1 w 25 0 g (7 + j) = w (sgE j)) (fun p hp q hq => ?_) j hj
  rcases lt5 hp with rfl | rfl | rfl | rfl | rfl <;> rcases lt5 hq with rfl | rfl | rfl | rfl | rfl <;> rfl
