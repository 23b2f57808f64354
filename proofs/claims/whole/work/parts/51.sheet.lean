/-! the sheet: class and model -/
theorem ixo {k b : Nat} (hk : k < b) (hb : b ≤ 2147483648) : ¬ (nI k < 0 ∨ b ≤ (nI k).toNatClampNeg) := by
  rw [qI_cl (by omega)]
  rintro (h | h)
  · exact qI_neg0 k (by omega) h
  · omega
theorem nle {k b : Nat} (hk : k < b) (hb : b < 2147483648) : ¬ nI b ≤ nI k := by
  rw [qI_le hb (by omega)]; omega
theorem nlt {k b : Nat} (hk : k < b) (hb : b < 2147483648) : nI k < nI b := by
  rw [qI_lt (by omega) hb]; exact hk
theorem lt_nI (n : Nat) (h : n + 1 < 2147483648) (a : Int32) : (nI n < a) = (nI (n + 1) ≤ a) := by
  rw [Int32.lt_iff_toInt_lt, Int32.le_iff_toInt_le, qI_toInt (by omega), qI_toInt h]
  exact propext ⟨fun q => by omega, fun q => by omega⟩
theorem s_in (a lo hi : Int32) : f_X13_in a lo hi = some (if a < lo ∨ hi < a then 0 else 1) := by
  unfold f_X13_in
  by_cases h1 : a < lo <;> by_cases h2 : hi < a <;> simp [jo, h1, h2, narB0, narB1]
theorem s_isCell (a b : Int32) : f_X10_isCell a b = some (if a < 0 ∨ 5 ≤ a ∨ b < 0 ∨ 5 ≤ b then 0 else 1) := by
  unfold f_X10_isCell
  by_cases h1 : a < 0 <;> by_cases h2 : 5 ≤ a <;> by_cases h3 : b < 0 <;> by_cases h4 : 5 ≤ b <;> simp [jo, h1, h2, h3, h4, narB0, narB1]
theorem m_isCell (a b : Int32) : f_X13_isCell a b = some (if a < 0 ∨ 5 ≤ a ∨ b < 0 ∨ 5 ≤ b then 0 else 1) := by
  have e : ∀ x : Int32, ((4 : Int32) < x) = ((5 : Int32) ≤ x) := lt_nI 4 (by decide)
  unfold f_X13_isCell
  simp only [s_in, e, Option.bind_some]
  by_cases h1 : a < 0 <;> by_cases h2 : 5 ≤ a <;> by_cases h3 : b < 0 <;> by_cases h4 : 5 ≤ b <;> simp [jo, h1, h2, h3, h4, narB0, narB1]
/-- a cell, or none -/
theorem cell_cases (a b : Int32) : (a < 0 ∨ 5 ≤ a ∨ b < 0 ∨ 5 ≤ b) ∨ (¬ (a < 0 ∨ 5 ≤ a ∨ b < 0 ∨ 5 ≤ b) ∧ ∃ r c : Nat, r < 5 ∧ c < 5 ∧ a = nI r ∧ b = nI c) := by
  by_cases h : a < 0 ∨ 5 ≤ a ∨ b < 0 ∨ 5 ≤ b
  · exact Or.inl h
  · refine Or.inr ⟨h, ?_⟩
    simp only [not_or] at h
    obtain ⟨h1, h2, h3, h4⟩ := h
    obtain ⟨r, hr, er⟩ := qI_in (b := 5) (by decide) (Int32.not_lt.mp h1) (Int32.not_le.mp h2)
    obtain ⟨c, hc, ec⟩ := qI_in (b := 5) (by decide) (Int32.not_lt.mp h3) (Int32.not_le.mp h4)
    exact ⟨r, c, hr, hc, er, ec⟩
theorem s_at {k : Nat} (hk : k < 25) (c : Nat → Int32) : f_X10_at c (nI k) = some (c k) := by
  have h1 := qI_neg0 k (by omega)
  have h2 : ¬ (25 : Int32) ≤ nI k := nle hk (by decide)
  have h3 : ¬ 25 ≤ k := by omega
  unfold f_X10_at
  simp [jo, h1, h2, h3, qI_cl (show k < 2147483648 by omega)]
theorem s_put {k : Nat} (hk : k < 25) (c : Nat → Int32) (v : Int32) : f_X10_put c (nI k) v = some (if c k = v then 0 else 1, upd c k v) := by
  have h1 := qI_neg0 k (by omega)
  have h2 : nI k < (25 : Int32) := nlt hk (by decide)
  have h3 : ¬ 25 ≤ k := by omega
  unfold f_X10_put
  by_cases h : c k = v <;> simp [jo, h1, h2, h3, qI_cl (show k < 2147483648 by omega), h]
theorem s_cellOf (r c : Nat) : f_X10_cellOf (nI r) (nI c) = some (nI (r * 5 + c)) := by
  unfold f_X10_cellOf
  rw [li5, qI_mul, qI_add]
/-! puts at distinct cells, counted -/
def putsN : List (Nat × Int32) → Int32 × (Nat → Int32) → Int32 × (Nat → Int32)
  | [], s => s
  | (k, v) :: L, s => putsN L (s.1 + (if s.2 k = v then 0 else 1), upd s.2 k v)
def sumI (f : Nat → Int32) : Nat → Nat → Int32 → Int32
  | 0, _, s => s
  | d + 1, k, s => sumI f d (k + 1) (s + f k)
theorem sumI_add (f : Nat → Int32) : ∀ (d k : Nat) (s e : Int32), sumI f d k (s + e) = sumI f d k s + e
  | 0, _, _, _ => rfl
  | d + 1, k, s, e => by
    rw [sumI, sumI, ← sumI_add f d (k + 1) (s + f k) e]
    congr 1
    rw [Int32.add_assoc, Int32.add_assoc, Int32.add_comm e]
theorem sumI_congr (f g : Nat → Int32) : ∀ (d k : Nat) (s : Int32), (∀ j, k ≤ j → j < k + d → f j = g j) → sumI f d k s = sumI g d k s
  | 0, _, _, _ => rfl
  | d + 1, k, s, h => by
    rw [sumI, sumI, h k (Nat.le_refl _) (by omega)]
    exact sumI_congr f g d (k + 1) _ (fun j h1 h2 => h j (by omega) (by omega))
theorem sumI_upd (f g : Nat → Int32) (q : Nat) (e : Int32) (h0 : f q = 0) (h1 : g q = e) (hne : ∀ j, j ≠ q → f j = g j) : ∀ (d k : Nat) (s : Int32), k ≤ q → q < k + d → sumI g d k s = sumI f d k s + e
  | 0, k, s, h2, h3 => by omega
  | d + 1, k, s, h2, h3 => by
    rw [sumI, sumI]
    by_cases hq : k = q
    · subst hq
      rw [h0, h1, Int32.add_zero, ← sumI_add]
      exact (sumI_congr f g d (k + 1) _ (fun j a b => hne j (by omega))).symm
    · rw [← hne k hq]
      exact sumI_upd f g q e h0 h1 hne d (k + 1) _ (by omega) (by omega)
/-- how many cells differ -/
def dsum (c0 c : Nat → Int32) : Int32 := sumI (fun k => if c0 k = c k then 0 else 1) 25 0 0
theorem dsum_self (c : Nat → Int32) : dsum c c = 0 := by
  unfold dsum
  have e : ∀ d k, sumI (fun _ => (0 : Int32)) d k 0 = 0 := by
    intro d
    induction d with
    | zero => intro k; rfl
    | succ d ih => intro k; rw [sumI]; exact ih (k + 1)
  simp only [if_true]
  exact e 25 0
theorem dsum_upd {c0 c : Nat → Int32} {k : Nat} {v : Int32} (hk : k < 25) (h : c k = c0 k) : dsum c0 (upd c k v) = dsum c0 c + (if c k = v then 0 else 1) := by
  unfold dsum
  refine sumI_upd _ _ k _ ?_ ?_ ?_ 25 0 0 (by omega) (by omega)
  · simp [h]
  · simp [upd_same, h]
  · intro j hj
    simp [upd_ne _ _ hj]
theorem putsN_cnt : ∀ (L : List (Nat × Int32)) (c0 c : Nat → Int32) (n : Int32), (L.map Prod.fst).Nodup → (∀ p ∈ L, p.1 < 25 ∧ c p.1 = c0 p.1) → n = dsum c0 c → (putsN L (n, c)).1 = dsum c0 (putsN L (n, c)).2
  | [], c0, c, n, _, _, h => h
  | (k, v) :: L, c0, c, n, hn, hL, h => by
    rw [putsN]
    have h1 := hL (k, v) List.mem_cons_self
    rw [List.map_cons, List.nodup_cons] at hn
    refine putsN_cnt L c0 (upd c k v) _ hn.2 (fun p hp => ?_) ?_
    · have hne : p.1 ≠ k := fun e => hn.1 (e ▸ List.mem_map.mpr ⟨p, hp, rfl⟩)
      rw [upd_ne _ _ hne]
      exact hL p (List.mem_cons_of_mem _ hp)
    · rw [dsum_upd h1.1 h1.2, h]
theorem putsN_app : ∀ (L M : List (Nat × Int32)) (s : Int32 × (Nat → Int32)), putsN (L ++ M) s = putsN M (putsN L s)
  | [], _, _ => rfl
  | (k, v) :: L, M, s => by rw [List.cons_append, putsN, putsN, putsN_app L M]
/-- where each cell's new value stands -/
theorem putsN_get : ∀ (L : List (Nat × Int32)) (s : Int32 × (Nat → Int32)) (j : Nat), (putsN L s).2 j = ((L.reverse.find? (fun p => p.1 == j)).map Prod.snd).getD (s.2 j)
  | [], _, _ => rfl
  | (k, v) :: L, s, j => by
    rw [putsN, putsN_get L, List.reverse_cons, List.find?_append]
    cases hf : L.reverse.find? (fun p => p.1 == j) with
    | some p => simp
    | none =>
      by_cases e : k = j
      · subst e; simp [upd]
      · have e2 : ¬ j = k := fun h => e h.symm
        simp [upd, e, e2]
