/-! steps that many cases share -/
theorem xg1 {L j : Nat} (hj : 5 * j + 5 ≤ L) (hL : L ≤ 2560) : ¬ ((nI (5 * j) + 1 < 0) ∨ L ≤ (nI (5 * j) + 1).toNatClampNeg) := by
  rw [li1, qI_add]
  exact ixo (by omega) (by omega)
theorem xg2 {L j : Nat} (hj : 5 * j + 5 ≤ L) (hL : L ≤ 2560) : ¬ ((nI (5 * j) + 2 < 0) ∨ L ≤ (nI (5 * j) + 2).toNatClampNeg) := by
  rw [li2, qI_add]
  exact ixo (by omega) (by omega)
theorem xg3 {L j : Nat} (hj : 5 * j + 5 ≤ L) (hL : L ≤ 2560) : ¬ ((nI (5 * j) + 3 < 0) ∨ L ≤ (nI (5 * j) + 3).toNatClampNeg) := by
  rw [li3, qI_add]
  exact ixo (by omega) (by omega)
theorem xg4 {L j : Nat} (hj : 5 * j + 5 ≤ L) (hL : L ≤ 2560) : ¬ ((nI (5 * j) + 4 < 0) ∨ L ≤ (nI (5 * j) + 4).toNatClampNeg) := by
  rw [li4, qI_add]
  exact ixo (by omega) (by omega)
theorem g0F {n : Nat} (h : 0 < n) : ¬ (((0 : Int32) < 0) ∨ n ≤ (0 : Int32).toNatClampNeg) := by
  refine fun q => q.elim (fun q => absurd q (by decide)) (fun q => ?_)
  have : (0 : Int32).toNatClampNeg = 0 := rfl
  omega
theorem m_fails (code a : Int32) : f_X13_fails code a = some (if a ≤ 0 then 0 else 1, a) := by
  unfold f_X13_fails
  rw [jo]
  by_cases h : a ≤ 0
  · rw [if_pos h, if_pos h]; exact if_neg (fun q => q narB0)
  · rw [if_neg h, if_neg h]; exact if_neg (fun q => q narB1)
theorem m_fails0 (code : Int32) : f_X13_fails code 0 = some (0, 0) := m_fails code 0
theorem m_fails1 (code : Int32) : f_X13_fails code 1 = some (1, 1) := m_fails code 1
theorem m_fails2 (code : Int32) : f_X13_fails code 2 = some (1, 2) := m_fails code 2
theorem m_fails3 (code : Int32) : f_X13_fails code 3 = some (1, 3) := m_fails code 3
theorem out_same (o : Nat → Int64) (v : Int64) : lg_cmp (vp_updL o (0 : Int32).toNatClampNeg v (0 : Int32).toNatClampNeg) v = 0 := by
  have e : vp_updL o (0 : Int32).toNatClampNeg v (0 : Int32).toNatClampNeg = v := by simp [vp_updL]
  rw [e]
  simp [lg_cmp]
theorem s_isPressure (a : Int32) : f_X10_isPressure a = some (if a < 0 ∨ 99 < a then 0 else 1) := by
  unfold f_X10_isPressure
  rw [jo]
  rw [jo]
  by_cases h0 : a < 0
  · rw [if_pos h0, if_pos (Or.inl h0)]; exact if_neg (fun q => q narB0)
  · by_cases h1 : 99 < a
    · rw [if_neg h0, if_pos h1, if_pos (Or.inr h1)]; exact if_neg (fun q => q narB0)
    · rw [if_neg h0, if_neg h1, if_neg (fun q => q.elim h0 h1)]; exact if_neg (fun q => q narB1)
theorem s_isFold (a : Int32) : f_X10_isFold a = some (if a < 1 ∨ 3 < a then 0 else 1) := by
  unfold f_X10_isFold
  rw [jo]
  rw [jo]
  by_cases h0 : a < 1
  · rw [if_pos h0, if_pos (Or.inl h0)]; exact if_neg (fun q => q narB0)
  · by_cases h1 : 3 < a
    · rw [if_neg h0, if_pos h1, if_pos (Or.inr h1)]; exact if_neg (fun q => q narB0)
    · rw [if_neg h0, if_neg h1, if_neg (fun q => q.elim h0 h1)]; exact if_neg (fun q => q narB1)
theorem s_isThreshold (a : Int32) : f_X10_isThreshold a = some (if a < 1 ∨ 50 < a then 0 else 1) := by
  unfold f_X10_isThreshold
  rw [jo]
  rw [jo]
  by_cases h0 : a < 1
  · rw [if_pos h0, if_pos (Or.inl h0)]; exact if_neg (fun q => q narB0)
  · by_cases h1 : 50 < a
    · rw [if_neg h0, if_pos h1, if_pos (Or.inr h1)]; exact if_neg (fun q => q narB0)
    · rw [if_neg h0, if_neg h1, if_neg (fun q => q.elim h0 h1)]; exact if_neg (fun q => q narB1)
theorem in_rng {a : Int32} {lo hi : Nat} (hb : hi < 2147483647) (hlo : lo ≤ hi) (h : ¬ (a < nI lo ∨ nI hi < a)) : ∃ k, lo ≤ k ∧ k ≤ hi ∧ a = nI k := by
  have h1 : nI lo ≤ a := i_nlt.mp (fun q => h (Or.inl q))
  have h2 : a ≤ nI hi := i_nlt.mp (fun q => h (Or.inr q))
  have h0 : 0 ≤ a := Int32.le_trans (i_nlt.mp (qI_neg0 lo (by omega))) h1
  have e := qI_ex h0
  refine ⟨a.toNatClampNeg, ?_, ?_, e⟩
  · rw [e, qI_le (by omega) (qI_cl_lt a)] at h1
    exact h1
  · rw [e, qI_le (qI_cl_lt a) (by omega)] at h2
    exact h2
theorem s_sum_go (c : Nat → Int32) (z : Int32 → Option Int32) : ∀ (d k n : Nat) (s : Int32), k + d = 25 → d < n → f_X10_sum_4 c z n s (nI k) = z (sumI c d k s)
  | _, _, 0, _, _, h => by omega
  | 0, k, n + 1, s, hk, _ => by
    obtain rfl : k = 25 := by omega
    rw [f_X10_sum_4, if_pos (show (25 : Int32) ≤ nI 25 from Int32.le_refl _)]
    rfl
  | d + 1, k, n + 1, s, hk, hn => by
    rw [f_X10_sum_4, if_neg (show ¬ (25 : Int32) ≤ nI k from nle (show k < 25 by omega) (by decide)), if_neg (ixo (show k < 25 by omega) (by decide)), qI_succ, qI_cl (show k < 2147483648 by omega), sumI]
    exact s_sum_go c z d (k + 1) n _ (by omega) (by omega)
theorem s_total (c : Nat → Int32) : f_X10_sum c = some (sumI c 25 0 0) := by
  unfold f_X10_sum
  exact s_sum_go c (fun s => some s) 25 0 1000 0 rfl (by decide)
theorem m_sum_go (g : Nat → Int32) (z : Int32 → Option (Int32 × Int32)) : ∀ (d k n : Nat) (s : Int32), k + d = 25 → d < n → f_X13_totalPressure_9 g z n s (nI k) = z (sumI (fun j => g (7 + j)) d k s)
  | _, _, 0, _, _, h => by omega
  | 0, k, n + 1, s, hk, _ => by
    obtain rfl : k = 25 := by omega
    rw [f_X13_totalPressure_9, if_pos (show (25 : Int32) ≤ nI 25 from Int32.le_refl _)]
    rfl
  | d + 1, k, n + 1, s, hk, hn => by
    have e7 : (7 : Int32) + nI k = nI (7 + k) := qI_add 7 k
    rw [f_X13_totalPressure_9, if_neg (show ¬ (25 : Int32) ≤ nI k from nle (show k < 25 by omega) (by decide)), e7, if_neg (ixo (show 7 + k < 60 by omega) (by decide)), qI_succ, qI_cl (show 7 + k < 2147483648 by omega), sumI]
    exact m_sum_go g z d (k + 1) n _ (by omega) (by omega)
theorem m_total {g c : Nat → Int32} (h : ∀ k, k < 25 → g (7 + k) = c k) (code : Int32) : f_X13_totalPressure g code = some (sumI c 25 0 0, 0) := by
  unfold f_X13_totalPressure
  refine (m_sum_go g (fun s => some (s, 0)) 25 0 1000 0 rfl (by decide)).trans ?_
  exact congrArg (fun v => some (v, 0)) (sumI_congr _ _ 25 0 0 (fun j _ hj => h j (by omega)))
theorem s_requireCell (a b : Int32) : f_X12_requireCell a b = some (if a < 0 ∨ 5 ≤ a ∨ b < 0 ∨ 5 ≤ b then 1 else 0, ()) := by
  unfold f_X12_requireCell
  rw [s_isCell, Option.bind_some]
  by_cases h : a < 0 ∨ 5 ≤ a ∨ b < 0 ∨ 5 ≤ b
  · rw [if_pos h, if_pos h, if_pos rfl]
  · rw [if_neg h, if_neg h, if_neg i10]
theorem mcell {r q : Nat} (hr : r < 5) (hq : q < 5) : (7 : Int32) + 5 * nI r + nI q = nI (7 + (r * 5 + q)) := by
  rw [li7, li5, qI_mul, qI_add, qI_add]
  congr 1
  omega
theorem exR {α : Type} {f : Option α} {P : Prop} (hP : P) (h : ∃ r, f = some r) : ∃ r, f = some r ∧ P := h.elim fun r h => ⟨r, h, hP⟩
theorem L_pressureAt (c : Nat → Int32) (o : Nat → Int64) (a1 a2 : Int32) : f_L_pressureAt c o 1 a1 a2 = some (if a1 < 0 ∨ 5 ≤ a1 ∨ a2 < 0 ∨ 5 ≤ a2 then (1, o) else (0, vp_updL o (0 : Int32).toNatClampNeg (c (a1 * 5 + a2).toNatClampNeg).toInt64)) := by
  unfold f_L_pressureAt f_X12_pressureAt
  rcases cell_cases a1 a2 with h | ⟨h, r, q, hr, hq, rfl, rfl⟩
  · rw [s_requireCell, if_pos h, if_pos h]
    rfl
  · rw [s_requireCell, if_neg h, if_neg h, Option.bind_some, if_pos rfl, s_cellOf, Option.bind_some, s_at (by omega), Option.bind_some, Option.bind_some, if_pos rfl, if_neg (g0F (by decide)), li5, qI_mul, qI_add, qI_cl (show r * 5 + q < 2147483648 by omega)]
theorem M_pressureAt {g c : Nat → Int32} (h : ∀ k, k < 25 → g (7 + k) = c k) (code a1 a2 : Int32) : f_X13_pressureAt g code a1 a2 = some (if a1 < 0 ∨ 5 ≤ a1 ∨ a2 < 0 ∨ 5 ≤ a2 then (0, 1) else (c (a1 * 5 + a2).toNatClampNeg, 0)) := by
  unfold f_X13_pressureAt
  rcases cell_cases a1 a2 with hc | ⟨hc, r, q, hr, hq, rfl, rfl⟩
  · simp only [jo, m_isCell, Option.bind_some, if_pos hc, if_true, m_fails1, i10, if_false]
  · simp only [jo, m_isCell, Option.bind_some, if_neg hc, if_true, m_fails0, i10, if_false, mcell hr hq]
    rw [if_neg (ixo (show 7 + (r * 5 + q) < 60 by omega) (by decide)), qI_cl (show 7 + (r * 5 + q) < 2147483648 by omega), h _ (show r * 5 + q < 25 by omega), li5, qI_mul, qI_add, qI_cl (show r * 5 + q < 2147483648 by omega)]
theorem tailN {α : Type} {k : Int32} {v : Int32} {w : Int64} {b : α} (hk : k ≠ 0) : (if k = k then jo (some b) (fun j => if k = 0 then (if ((0 : Int32) < 0) ∨ 1 ≤ (0 : Int32).toNatClampNeg then none else if lg_cmp w v.toInt64 = 0 then j else none) else j) else none) = some b := by
  rw [if_pos rfl, jo, if_neg hk]
theorem tail0 {α : Type} {v : Int32} {o : Nat → Int64} {b : α} : (if (0 : Int32) = 0 then jo (some b) (fun j => if (0 : Int32) = 0 then (if ((0 : Int32) < 0) ∨ 1 ≤ (0 : Int32).toNatClampNeg then none else if lg_cmp (vp_updL o (0 : Int32).toNatClampNeg v.toInt64 (0 : Int32).toNatClampNeg) v.toInt64 = 0 then j else none) else j) else none) = some b := by
  rw [if_pos rfl, jo, if_pos rfl, if_neg (g0F (by decide)), out_same, if_pos rfl]
theorem i20 : ((2 : Int32) = 0) = False := eq_false (by decide)
theorem n10 : ((1 : Nat) = 0) = False := eq_false (by decide)
theorem n20 : ((2 : Nat) = 0) = False := eq_false (by decide)
theorem n21 : ((2 : Nat) = 1) = False := eq_false (by decide)
theorem n30 : ((3 : Nat) = 0) = False := eq_false (by decide)
theorem n31 : ((3 : Nat) = 1) = False := eq_false (by decide)
theorem n32 : ((3 : Nat) = 2) = False := eq_false (by decide)
theorem RS_sheet {c c' : Nat → Int32} {t : Int32} {w : Nat → Int32} {p : Int32} {d e : Nat → Int32} {n s r h y : Int32} {g g' : Nat → Int32} (H : RS (c, t, w, p, d, e, n, s, r, h, y) g) (h1 : ∀ k, k < 25 → g' (7 + k) = c' k) (h2 : ∀ k, k < 25 → ∃ v, v < 100 ∧ c' k = nI v) (h3 : ∀ i, (i < 7 ∨ 32 ≤ i) → g' i = g i) : RS (c', t, w, p, d, e, n, s, r, h, y) g' := by
  obtain ⟨-, -, r3, r4, r5, r6, r7, r8, r9, ⟨fn, f6, f1, f2, f3⟩, r11, r12, r13, r14⟩ := H
  refine ⟨h1, h2, (h3 2 (by omega)).trans r3, r4, fun k hk => (h3 _ (by omega)).trans (r5 k hk), r6, r7, (h3 1 (by omega)).trans r8, r9, ⟨fn, f6, f1, (h3 3 (by omega)).trans f2, fun k hk => ?_⟩, (h3 4 (by omega)).trans r11, (h3 5 (by omega)).trans r12, (h3 6 (by omega)).trans r13, (h3 0 (by omega)).trans r14⟩
  obtain ⟨a, b, v⟩ := f3 k hk
  exact ⟨(h3 _ (by omega)).trans a, (h3 _ (by omega)).trans b, v⟩
theorem Rel_mod {st sn st' : StT} {has : Int32} {ring ring' : Nat → StT} {nx ct nx' ct' : Int32} {tsg : Nat → Int32} {tlen : Int32} {lsg : Nat → Int32} {llen mal fai : Int32} {g kept saved g' kept' : Nat → Int32} {isS ch wi : Int32} {inp : Nat → Int32} {len fau fld : Int32} {sg : Nat → Int32} {sm : Int32}
    (h : Rel st sn has ring nx ct tsg tlen lsg llen mal fai g kept saved isS ch wi inp len fau fld sg sm) (hH : RH ring' nx' ct' kept' ct') (hS : RS st' g') : Rel st' sn has ring' nx' ct' tsg tlen lsg llen mal fai g' kept' saved isS ct' wi inp len fau fld sg sm :=
  ⟨hS, h.2.1, h.2.2.1, h.2.2.2.1, hH, h.2.2.2.2.2⟩
theorem RS_cell {c : Nat → Int32} {t : Int32} {w : Nat → Int32} {p : Int32} {d e : Nat → Int32} {n s r h y : Int32} {g : Nat → Int32} (H : RS (c, t, w, p, d, e, n, s, r, h, y) g) {k v : Nat} (hk : k < 25) (hv : v < 100) : RS (upd c k (nI v), t, w, p, d, e, n, s, r, h, y) (upd g (7 + k) (nI v)) := by
  refine RS_sheet H (fun j hj => ?_) (fun j hj => ?_) (fun i hi => upd_ne _ _ (by omega))
  · by_cases e : j = k
    · subst e; rw [upd_same, upd_same]
    · rw [upd_ne _ _ (by omega), upd_ne _ _ e]; exact H.1 j hj
  · by_cases e : j = k
    · subst e; exact ⟨v, hv, upd_same _ _ _⟩
    · obtain ⟨w, hw, ew⟩ := H.2.1 j hj
      exact ⟨w, hw, (upd_ne _ _ e).trans ew⟩
/-- all cells from 0 to 99 -/
def Rng (c : Nat → Int32) : Prop := ∀ k, k < 25 → ∃ v, v < 100 ∧ c k = nI v
theorem lv1_rng {a b : Nat} {s : Int32 × (Nat → Int32)} (ha : a < 25) (hb : b < 25) (h : Rng s.2) : Rng (lv1 a b s).2 := by
  obtain ⟨x, hx, ex⟩ := h a ha
  obtain ⟨y, hy, ey⟩ := h b hb
  intro k hk
  unfold lv1
  simp only
  have e1 : (nI x + nI y) / 2 = nI ((x + y) / 2) := by rw [qI_add]; exact qI_div (b := 2) (by omega) (by decide)
  have e2 : (nI x + nI y + 1) / 2 = nI ((x + y + 1) / 2) := by rw [qI_add, qI_succ]; exact qI_div (b := 2) (by omega) (by decide)
  rw [ex, ey, e1, e2]
  by_cases h1 : k = b
  · subst h1; exact ⟨_, by omega, upd_same _ _ _⟩
  · rw [upd_ne _ _ h1]
    by_cases h2 : k = a
    · subst h2; exact ⟨_, by omega, upd_same _ _ _⟩
    · rw [upd_ne _ _ h2]; exact h k hk
theorem LVL_rng : ∀ (L : List (Nat × Nat)) (s : Int32 × (Nat → Int32)), (∀ p ∈ L, p.1 < 25 ∧ p.2 < 25) → Rng s.2 → Rng (LVL L s).2
  | [], _, _, h => h
  | (a, b) :: L, s, hL, h => by
    have h1 := hL (a, b) List.mem_cons_self
    exact LVL_rng L _ (fun p hp => hL p (List.mem_cons_of_mem _ hp)) (lv1_rng h1.1 h1.2 h)
theorem s_requireFold (a : Int32) : f_X12_requireFold a = some (if a < 1 ∨ 3 < a then 1 else 0, ()) := by
  unfold f_X12_requireFold
  rw [s_isFold, Option.bind_some]
  by_cases h : a < 1 ∨ 3 < a
  · rw [if_pos h, if_pos h, if_pos rfl]
  · rw [if_neg h, if_neg h, if_neg i10]
theorem fold_cases (a : Int32) : (a < 1 ∨ 3 < a) ∨ (¬ (a < 1 ∨ 3 < a) ∧ ∃ R, (R = 1 ∨ R = 2 ∨ R = 3) ∧ a = nI R) := by
  by_cases h : a < 1 ∨ 3 < a
  · exact Or.inl h
  · obtain ⟨R, h1, h2, e⟩ := in_rng (lo := 1) (hi := 3) (by decide) (by decide) h
    exact Or.inr ⟨h, R, by omega, e⟩
theorem looks_same {g c was : Nat → Int32} (h : ∀ k, k < 25 → g (7 + k) = c k) : ∀ j, j < 25 → looksOf g was j = c j := fun j hj => by
  unfold looksOf
  rw [if_pos hj]
  exact h j hj
/-- a fold of the model, at the start's rows -/
theorem m_foldsBad {g kept was : Nat → Int32} {ch wi code : Int32} {a u v : Int32} (h : a < 1 ∨ 3 < a) : f_X13_folds g kept was ch wi code a u v = some (0, g, kept, was, ch, 1) := by
  unfold f_X13_folds
  simp only [jo, s_in, if_pos h, Option.bind_some, if_true, m_fails1, i10, if_false]
theorem m_foldRowOk {g kept was kept' c : Nat → Int32} {ch ct' code wi : Int32} {R : Nat} (hR : R = 1 ∨ R = 2 ∨ R = 3) (hin : ¬ (nI R < 1 ∨ 3 < nI R)) (hk : ∀ code, f_X13_keeps__g g kept ch wi code = some (kept', ct', 0)) (hg : ∀ k, k < 25 → g (7 + k) = c k) :
    f_X13_foldRow g kept was ch wi code (nI R) = some (dsum c (LVL (prR R) (0, c)).2, GLL (prR R) g, kept', looksOf g was, ct', 0) := by
  unfold f_X13_foldRow f_X13_folds
  simp only [jo, s_in, if_neg hin, Option.bind_some, if_true, m_fails0, i10, if_false, m_looks, hk]
  rw [li5, li1, m_foldR hR]
  simp only [m_others (looks_same hg) (GLL_same (prR R) g (0, c) (prR_lt hR) hg), Option.bind_some]
theorem m_foldColOk {g kept was kept' c : Nat → Int32} {ch ct' code wi : Int32} {R : Nat} (hR : R = 1 ∨ R = 2 ∨ R = 3) (hin : ¬ (nI R < 1 ∨ 3 < nI R)) (hk : ∀ code, f_X13_keeps__g g kept ch wi code = some (kept', ct', 0)) (hg : ∀ k, k < 25 → g (7 + k) = c k) :
    f_X13_foldColumn g kept was ch wi code (nI R) = some (dsum c (LVL (prC R) (0, c)).2, GLL (prC R) g, kept', looksOf g was, ct', 0) := by
  unfold f_X13_foldColumn f_X13_folds
  simp only [jo, s_in, if_neg hin, Option.bind_some, if_true, m_fails0, i10, if_false, m_looks, hk]
  rw [li5, li1, m_foldC hR]
  simp only [m_others (looks_same hg) (GLL_same (prC R) g (0, c) (prC_lt hR) hg), Option.bind_some]
theorem RS_thr {c : Nat → Int32} {t : Int32} {w : Nat → Int32} {p : Int32} {d e : Nat → Int32} {n s r h y : Int32} {g : Nat → Int32} (H : RS (c, t, w, p, d, e, n, s, r, h, y) g) {v : Nat} (h1 : 1 ≤ v) (h2 : v ≤ 50) : RS (c, nI v, w, p, d, e, n, s, r, h, y) (upd g 2 (nI v)) := by
  obtain ⟨r1, r2, -, -, r5, r6, r7, r8, r9, ⟨fn, f6, f1, f2, f3⟩, r11, r12, r13, r14⟩ := H
  have h3 : ∀ i, i ≠ 2 → upd g 2 (nI v) i = g i := fun i hi => upd_ne _ _ hi
  refine ⟨fun k hk => (h3 _ (by omega)).trans (r1 k hk), r2, upd_same _ _ _, ⟨v, h1, h2, rfl⟩, fun k hk => (h3 _ (by omega)).trans (r5 k hk), r6, r7, (h3 1 (by omega)).trans r8, r9, ⟨fn, f6, f1, (h3 3 (by omega)).trans f2, fun k hk => ?_⟩, (h3 4 (by omega)).trans r11, (h3 5 (by omega)).trans r12, (h3 6 (by omega)).trans r13, (h3 0 (by omega)).trans r14⟩
  obtain ⟨a, b, v⟩ := f3 k hk
  exact ⟨(h3 _ (by omega)).trans a, (h3 _ (by omega)).trans b, v⟩
theorem n40 : ((4 : Nat) = 0) = False := eq_false (by decide)
theorem n41 : ((4 : Nat) = 1) = False := eq_false (by decide)
theorem cell5 (r q : Nat) : (5 : Int32) * nI r + nI q = nI (r * 5 + q) := by
  rw [li5, qI_mul, qI_add, Nat.mul_comm]
