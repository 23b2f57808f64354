/-! the line -/
def LW (sg : Nat → Int32) (len : Int32) (l : List Nat) : Prop := len = nI l.length ∧ l.length ≤ 160 ∧ ∀ i, i < l.length → ∃ v, l[i]? = some v ∧ v < 128 ∧ sg i = nI v
theorem LW_nil (sg : Nat → Int32) : LW sg 0 [] := ⟨rfl, by decide, fun i hi => absurd hi (by simp)⟩
theorem LW_add {sg : Nat → Int32} {len : Int32} {l : List Nat} (h : LW sg len l) (hl : l.length < 160) {v : Nat} (hv : v < 128) : LW (upd sg l.length (nI v)) (nI (l.length + 1)) (l ++ [v]) := by
  have hlen : (l ++ [v]).length = l.length + 1 := by rw [List.length_append]; rfl
  refine ⟨by rw [hlen], by rw [hlen]; omega, fun i hi => ?_⟩
  rw [hlen] at hi
  by_cases e : i = l.length
  · subst e
    refine ⟨v, ?_, hv, upd_same _ _ _⟩
    rw [List.getElem?_append_right (Nat.le_refl _), Nat.sub_self, List.getElem?_cons_zero]
  · obtain ⟨u, a, b, c⟩ := h.2.2 i (by omega)
    exact ⟨u, by rw [List.getElem?_append_left (by omega)]; exact a, b, (upd_ne _ _ e).trans c⟩
theorem s_putC {sg : Nat → Int32} {len : Int32} {l : List Nat} (h : LW sg len l) (hl : l.length < 160) {v : Nat} (hv : v < 128) : ∃ sg' len', f_X8_put sg len (nI v) = some (sg', len') ∧ LW sg' len' (l ++ [v]) := by
  refine ⟨_, _, ?_, LW_add h hl hv⟩
  unfold f_X8_put
  rw [joE, h.1, if_neg (qI_neg0 _ (by omega)), if_neg (show ¬ (160 : Int32) ≤ nI l.length from nle hl (by decide)), if_neg (ixo hl (by decide)), qI_cl (show l.length < 2147483648 by omega), narC v hv, qI_succ]
theorem narU : ∀ v, v < 128 → vp_nar .char (((nI v).toUInt32 % 65536).toInt32) = nI v := by decide +kernel
theorem m_putC {sg : Nat → Int32} {len : Int32} {l : List Nat} (h : LW sg len l) (hl : l.length < 160) {v : Nat} (hv : v < 128) : ∃ sg' len', f_X13_writes sg len (nI v) = some (sg', len') ∧ LW sg' len' (l ++ [v]) := by
  refine ⟨_, _, ?_, LW_add h hl hv⟩
  unfold f_X13_writes
  rw [h.1, if_neg (ixo (show l.length < 180 by omega) (by decide)), qI_cl (show l.length < 2147483648 by omega), narU v hv, qI_succ]
/-- a number's digits -/
def dgF : Nat → Nat → List Nat
  | 0, _ => []
  | f + 1, n => if n ≤ 9 then [48 + n] else dgF f (n / 10) ++ [48 + n % 10]
theorem dgF_len : ∀ (f k n : Nat), n < 10 ^ (k + 1) → (dgF f n).length ≤ k + 1
  | 0, _, _, _ => Nat.zero_le _
  | f + 1, k, n, h => by
    rw [dgF]
    by_cases h9 : n ≤ 9
    · rw [if_pos h9]; show 1 ≤ k + 1; omega
    · rw [if_neg h9, List.length_append]
      cases k with
      | zero =>
        have e : 10 ^ (0 + 1) = 10 := rfl
        omega
      | succ k =>
        have e : 10 ^ (k + 1 + 1) = 10 ^ (k + 1) * 10 := Nat.pow_succ _ _
        have := dgF_len f k (n / 10) (by omega)
        show _ + 1 ≤ k + 1 + 1
        omega
theorem dig_m : ∀ k, k < 10 → 48 + (nL k).toInt32 = nI (48 + k) := by decide +kernel
theorem dig_s : ∀ k, k < 10 → ((((48 + nL k).toInt32) : Int32).toUInt32 % 65536).toInt32 = nI (48 + k) := by decide +kernel
theorem m_num_go : ∀ (f n : Nat) (sg : Nat → Int32) (len : Int32) (l : List Nat), 0 < f → n < 10 ^ f → n < 10000000000 → LW sg len l → l.length + (dgF f n).length ≤ 160 → ∃ sg' len', f_X13_writesNumber f sg len (nL n) = some (sg', len') ∧ LW sg' len' (l ++ dgF f n)
  | 0, _, _, _, _, h, _, _, _, _ => by omega
  | f + 1, n, sg, len, l, _, h, hn, hL, hl => by
    have e9 : (lg_cmp (nL n) 9 ≤ 0) = (n ≤ 9) := lgL (b := 9) (by omega) (by decide)
    have em : nL n - nL n / 10 * 10 = nL (n % 10) := qL_mod (b := 10) (by omega) (by decide)
    have ed : nL n / 10 = nL (n / 10) := qL_div (b := 10) (by omega) (by decide)
    have hm : n % 10 < 10 := Nat.mod_lt _ (by decide)
    rw [dgF] at hl ⊢
    rw [f_X13_writesNumber, joE]
    dsimp only
    rw [em, dig_m _ hm]
    by_cases h9 : n ≤ 9
    · rw [if_pos h9] at hl ⊢
      rw [if_pos (show lg_cmp (nL n) 9 ≤ 0 by rw [e9]; exact h9)]
      have h1 : n % 10 = n := Nat.mod_eq_of_lt (by omega)
      have hl1 : l.length < 160 := by
        have : [48 + n].length = 1 := rfl
        omega
      obtain ⟨sg', len', q1, q2⟩ := m_putC hL hl1 (show 48 + n < 128 by omega)
      refine ⟨sg', len', ?_, q2⟩
      rw [h1, q1, obS]
    · rw [if_neg h9] at hl ⊢
      rw [if_neg (show ¬ lg_cmp (nL n) 9 ≤ 0 by rw [e9]; exact h9), ed]
      have e : 10 ^ (f + 1) = 10 ^ f * 10 := Nat.pow_succ _ _
      rw [List.length_append] at hl
      have h1 : [48 + n % 10].length = 1 := rfl
      obtain ⟨sg1, len1, q1, q2⟩ := m_num_go f (n / 10) sg len l (by
        rcases Nat.eq_zero_or_pos f with q | q
        · subst q
          have e0 : 10 ^ 0 = 1 := rfl
          omega
        · exact q) (by omega) (by omega) hL (by omega)
      obtain ⟨sg', len', q3, q4⟩ := m_putC q2 (by rw [List.length_append]; omega) (show 48 + n % 10 < 128 by omega)
      rw [List.append_assoc] at q4
      refine ⟨sg', len', ?_, q4⟩
      rw [q1, obS, q3, obS]
theorem m_putNum {sg : Nat → Int32} {len : Int32} {l : List Nat} (h : LW sg len l) {n : Nat} (hn : n < 10000000000) (hl : l.length + 10 ≤ 160) : ∃ sg' len', f_X13_writesNumberT sg len (nL n) = some (sg', len') ∧ LW sg' len' (l ++ dgF 24 n) := by
  unfold f_X13_writesNumberT
  have := dgF_len 24 9 n (by have : 10 ^ (9 + 1) = 10000000000 := rfl
                             omega)
  have e24 : 10 ^ 24 = 1000000000000000000000000 := rfl
  exact m_num_go 24 n sg len l (by decide) (by omega) hn h (by omega)
/-- digits from the first on -/
def cd : Nat → Nat → List Nat
  | 0, n => [48 + n / 10 ^ 0 % 10]
  | k + 1, n => (48 + n / 10 ^ (k + 1) % 10) :: cd k n
theorem cd_len : ∀ k n, (cd k n).length = k + 1
  | 0, _ => rfl
  | k + 1, n => by rw [cd, List.length_cons, cd_len k n]
theorem cd_last : ∀ k n, cd (k + 1) n = cd k (n / 10) ++ [48 + n % 10]
  | 0, n => by
    show [48 + n / 10 ^ 1 % 10, 48 + n / 10 ^ 0 % 10] = [48 + n / 10 / 10 ^ 0 % 10] ++ [48 + n % 10]
    rw [Nat.pow_one, Nat.pow_zero, Nat.div_one, Nat.div_one]
    rfl
  | k + 1, n => by
    rw [cd, cd_last k n, cd, Nat.div_div_eq_div_mul, List.cons_append, Nat.pow_succ 10 (k + 1), Nat.mul_comm 10]
theorem cd_dg : ∀ (k n f : Nat), (k = 0 ∨ 10 ^ k ≤ n) → n < 10 ^ (k + 1) → k < f → cd k n = dgF f n
  | _, _, 0, _, _, h => by omega
  | 0, n, f + 1, _, h, _ => by
    have e : 10 ^ (0 + 1) = 10 := rfl
    rw [dgF, if_pos (show n ≤ 9 by omega)]
    show [48 + n / 10 ^ 0 % 10] = _
    rw [Nat.pow_zero, Nat.div_one, Nat.mod_eq_of_lt (by omega)]
  | k + 1, n, f + 1, hk, h, hf => by
    have h1 := hk.resolve_left (by omega)
    have e : 10 ^ (k + 1) = 10 ^ k * 10 := Nat.pow_succ _ _
    have e2 : 10 ^ (k + 1 + 1) = 10 ^ (k + 1) * 10 := Nat.pow_succ _ _
    have p : 0 < 10 ^ k := Nat.pow_pos (by decide)
    rw [cd_last, dgF, if_neg (show ¬ n ≤ 9 by omega), cd_dg k (n / 10) f (Or.inr (by omega)) (by omega) (by omega)]
theorem s_unit_go {n : Nat} (hn : n < 10000000000) (z : Int64 → Option ((Nat → Int32) × Int32)) : ∀ (m i f : Nat), i + m = 9 → m < f → (i = 0 ∨ 10 ^ i ≤ n) → ∃ k, k ≤ 9 ∧ (k = 0 ∨ 10 ^ k ≤ n) ∧ n < 10 ^ (k + 1) ∧ f_X8_putNumber_5 (nL n) z f (nL (10 ^ i)) (nI (i + 1)) = z (nL (10 ^ k))
  | _, _, 0, _, h, _ => by omega
  | m, i, f + 1, hi, hf, h => by
    have hp9 : 10 ^ i ≤ 10 ^ 9 := Nat.pow_le_pow_right (by decide) (by omega)
    have e9 : 10 ^ 9 = 1000000000 := rfl
    have e : 10 ^ (i + 1) = 10 ^ i * 10 := Nat.pow_succ _ _
    have ed : nL n / 10 = nL (n / 10) := qL_div (b := 10) (by omega) (by decide)
    have ec : (0 < lg_cmp (nL (10 ^ i)) (nL (n / 10))) = (n / 10 < 10 ^ i) := (propext (lg_cmp_gt _ _)).trans (qL_lt (by omega) (by omega))
    rw [f_X8_putNumber_5, if_neg (show ¬ (18 : Int32) ≤ nI (i + 1) from nle (show i + 1 < 18 by omega) (by decide)), ed]
    by_cases hs : n / 10 < 10 ^ i
    · rw [if_pos (show 0 < lg_cmp (nL (10 ^ i)) (nL (n / 10)) by rw [ec]; exact hs)]
      exact ⟨i, by omega, h, by omega, rfl⟩
    · rw [if_neg (show ¬ 0 < lg_cmp (nL (10 ^ i)) (nL (n / 10)) by rw [ec]; exact hs), show nL (10 ^ i) * 10 = nL (10 ^ (i + 1)) from (qL_mul (10 ^ i) 10).trans (by rw [e]), qI_succ]
      cases m with
      | zero =>
        obtain rfl : i = 9 := by omega
        omega
      | succ m => exact s_unit_go hn z m (i + 1) f (by omega) (by omega) (Or.inr (by omega))
theorem s_dig_go {n : Nat} (hn : n < 10000000000) (z : (Nat → Int32) → Int32 → Option ((Nat → Int32) × Int32)) : ∀ (k f : Nat) (sg : Nat → Int32) (len : Int32) (l : List Nat), k ≤ 9 → k + 2 ≤ f → LW sg len l → l.length + (k + 1) ≤ 160 → ∃ sg' len', f_X8_putNumber_34 (nL n) z f (nL (10 ^ k)) sg len = z sg' len' ∧ LW sg' len' (l ++ cd k n)
  | _, 0, _, _, _, _, h, _, _ => by omega
  | k, f + 1, sg, len, l, hk, hf, hL, hl => by
    have hp9 : 10 ^ k ≤ 10 ^ 9 := Nat.pow_le_pow_right (by decide) hk
    have e9 : 10 ^ 9 = 1000000000 := rfl
    have p : 0 < 10 ^ k := Nat.pow_pos (by decide)
    have eq1 : nL n / nL (10 ^ k) = nL (n / 10 ^ k) := qL_div (by omega) (by omega)
    have hlt : n / 10 ^ k < 9223372036854775808 := Nat.lt_of_le_of_lt (Nat.div_le_self _ _) (by omega)
    have em : nL (n / 10 ^ k) - nL (n / 10 ^ k) / 10 * 10 = nL (n / 10 ^ k % 10) := qL_mod (b := 10) hlt (by decide)
    have hm : n / 10 ^ k % 10 < 10 := Nat.mod_lt _ (by decide)
    obtain ⟨sg1, len1, q1, q2⟩ := s_putC hL (by omega) (show 48 + n / 10 ^ k % 10 < 128 by omega)
    rw [f_X8_putNumber_34, if_neg (show ¬ lg_cmp (nL (10 ^ k)) 0 ≤ 0 by rw [lgL0 (by omega)]; omega), if_neg (show ¬ nL (10 ^ k) = 0 by rw [qL_eq0 (by omega)]; omega), eq1, em, dig_s _ hm, q1, obS, show nL (10 ^ k) / 10 = nL (10 ^ k / 10) from qL_div (b := 10) (by omega) (by decide)]
    cases k with
    | zero =>
      obtain ⟨f', rfl⟩ : ∃ f', f = f' + 1 := ⟨f - 1, by omega⟩
      refine ⟨sg1, len1, ?_, q2⟩
      rw [f_X8_putNumber_34, if_pos (show lg_cmp (nL (10 ^ 0 / 10)) 0 ≤ 0 by rw [lgL0 (by decide)])]
    | succ k =>
      have e1 : 10 ^ (k + 1) / 10 = 10 ^ k := by rw [Nat.pow_succ, Nat.mul_div_cancel _ (by decide)]
      obtain ⟨sg', len', q3, q4⟩ := s_dig_go hn z k f sg1 len1 _ (by omega) (by omega) q2 (by rw [List.length_append]; show l.length + 1 + _ ≤ _; omega)
      rw [List.append_assoc, List.singleton_append] at q4
      rw [e1]
      exact ⟨sg', len', q3, q4⟩
theorem s_putNum {sg : Nat → Int32} {len : Int32} {l : List Nat} (h : LW sg len l) {n : Nat} (hn : n < 10000000000) (hl : l.length + 10 ≤ 160) : ∃ sg' len', f_X8_putNumber sg len (nL n) = some (sg', len') ∧ LW sg' len' (l ++ dgF 24 n) := by
  obtain ⟨k, k9, hk, hk2, e⟩ := s_unit_go hn (fun l3 => f_X8_putNumber_34 (nL n) (fun a b => some (a, b)) 1000 l3 sg len) 9 0 1000 rfl (by decide) (Or.inl rfl)
  obtain ⟨sg', len', q1, q2⟩ := s_dig_go hn (fun a b => some (a, b)) k 1000 sg len l k9 (by omega) h (by omega)
  rw [cd_dg k n 24 hk hk2 (by omega)] at q2
  refine ⟨sg', len', ?_, q2⟩
  unfold f_X8_putNumber
  exact e.trans q1
/-! words -/
theorem chA : ∀ v, v < 128 → ((((nI v &&& 255 : Int32)).toUInt32 % 65536).toInt32) = nI v := by decide +kernel
theorem chAt_nI {b : List Nat} {i v : Nat} (h : b[i]? = some v) (hv : v < 128) (hi : i < 2147483648) : chAt (b.map nI) (nI i) = nI v := by
  unfold chAt
  rw [qI_cl hi, List.getD_eq_getElem?_getD, List.getElem?_map, h]
  exact chA v hv
theorem s_word_go {b : List Nat} (hb : ∀ x ∈ b, x < 128) (hbl : b.length ≤ 160) (z : (Nat → Int32) → Int32 → Option ((Nat → Int32) × Int32)) : ∀ (m k f : Nat) (sg : Nat → Int32) (len : Int32) (l : List Nat), k + m = b.length → m < f → LW sg len l → l.length + m ≤ 160 → ∃ sg' len', f_X8_putAll_2 (b.map nI) z f (nI k) sg len = z sg' len' ∧ LW sg' len' (l ++ b.drop k)
  | _, _, 0, _, _, _, _, h, _, _ => by omega
  | 0, k, f + 1, sg, len, l, hk, _, hL, _ => by
    obtain rfl : k = b.length := by omega
    refine ⟨sg, len, ?_, by rw [List.drop_length, List.append_nil]; exact hL⟩
    rw [f_X8_putAll_2, List.length_map, if_pos (Int32.le_refl _)]
  | m + 1, k, f + 1, sg, len, l, hk, hf, hL, hl => by
    have hk2 : k < b.length := by omega
    have hv := hb _ (List.getElem_mem hk2)
    obtain ⟨sg1, len1, q1, q2⟩ := s_putC hL (by omega) hv
    obtain ⟨sg', len', q3, q4⟩ := s_word_go hb hbl z m (k + 1) f sg1 len1 _ (by omega) (by omega) q2 (by rw [List.length_append]; show l.length + 1 + _ ≤ _; omega)
    rw [List.append_assoc, List.singleton_append, ← List.drop_eq_getElem_cons hk2] at q4
    refine ⟨sg', len', ?_, q4⟩
    rw [f_X8_putAll_2, List.length_map, if_neg (nle hk2 (by omega)), if_neg (ixo hk2 (by omega)), chAt_nI (List.getElem?_eq_getElem hk2) hv (by omega), q1, obS, qI_succ]
    exact q3
theorem m_word_go {b : List Nat} (hb : ∀ x ∈ b, x < 128) (hbl : b.length ≤ 160) (z : (Nat → Int32) → Int32 → Option ((Nat → Int32) × Int32)) : ∀ (m k f : Nat) (sg : Nat → Int32) (len : Int32) (l : List Nat), k + m = b.length → m < f → LW sg len l → l.length + m ≤ 160 → ∃ sg' len', f_X13_writesWord_2 (b.map nI) z f (nI k) sg len = z sg' len' ∧ LW sg' len' (l ++ b.drop k)
  | _, _, 0, _, _, _, _, h, _, _ => by omega
  | 0, k, f + 1, sg, len, l, hk, _, hL, _ => by
    obtain rfl : k = b.length := by omega
    refine ⟨sg, len, ?_, by rw [List.drop_length, List.append_nil]; exact hL⟩
    rw [f_X13_writesWord_2, List.length_map, if_pos (Int32.le_refl _)]
  | m + 1, k, f + 1, sg, len, l, hk, hf, hL, hl => by
    have hk2 : k < b.length := by omega
    have hv := hb _ (List.getElem_mem hk2)
    obtain ⟨sg1, len1, q1, q2⟩ := m_putC hL (by omega) hv
    obtain ⟨sg', len', q3, q4⟩ := m_word_go hb hbl z m (k + 1) f sg1 len1 _ (by omega) (by omega) q2 (by rw [List.length_append]; show l.length + 1 + _ ≤ _; omega)
    rw [List.append_assoc, List.singleton_append, ← List.drop_eq_getElem_cons hk2] at q4
    refine ⟨sg', len', ?_, q4⟩
    rw [f_X13_writesWord_2, List.length_map, if_neg (nle hk2 (by omega)), if_neg (ixo hk2 (by omega)), chAt_nI (List.getElem?_eq_getElem hk2) hv (by omega), q1, obS, qI_succ]
    exact q3
theorem s_word {b : List Nat} (hb : ∀ x ∈ b, x < 128) (hbl : b.length ≤ 160) {sg : Nat → Int32} {len : Int32} {l : List Nat} (h : LW sg len l) (hl : l.length + b.length ≤ 160) : ∃ sg' len', f_X8_putAll sg len (b.map nI) = some (sg', len') ∧ LW sg' len' (l ++ b) := s_word_go hb hbl (fun a b => some (a, b)) b.length 0 1000 sg len l (by omega) (by omega) h hl
theorem m_word {b : List Nat} (hb : ∀ x ∈ b, x < 128) (hbl : b.length ≤ 160) {sg : Nat → Int32} {len : Int32} {l : List Nat} (h : LW sg len l) (hl : l.length + b.length ≤ 160) : ∃ sg' len', f_X13_writesWord sg len (b.map nI) = some (sg', len') ∧ LW sg' len' (l ++ b) := m_word_go hb hbl (fun a b => some (a, b)) b.length 0 1000 sg len l (by omega) (by omega) h hl
theorem RL_of {lsg : Nat → Int32} {llen : Int32} {sg : Nat → Int32} {sm : Int32} {l : List Nat} (h1 : LW lsg llen l) (h2 : LW sg sm l) : RL' lsg llen sg sm := by
  refine ⟨l.length, h1.2.1, h1.1, h2.1, fun i hi => ?_⟩
  obtain ⟨v, a, b, c⟩ := h1.2.2 i hi
  obtain ⟨v2, a2, b2, c2⟩ := h2.2.2 i hi
  have e : v = v2 := Option.some.inj (a.symm.trans a2)
  subst e
  exact ⟨c.trans c2.symm, v, b, c2⟩
/-! a row written -/
def frC (c : Nat → Int32) (t : Int32) (r k : Nat) : Nat := if frt c t (r * 5 + k - 1) (r * 5 + k) = 0 then 32 else 124
def rowT (c : Nat → Int32) (t : Int32) (r : Nat) : Nat → List Nat
  | 0 => []
  | k + 1 => (if k = 0 then rowT c t r k else rowT c t r k ++ [frC c t r k]) ++ dgF 24 (c (r * 5 + k)).toNatClampNeg
theorem frC_lt (c : Nat → Int32) (t : Int32) (r k : Nat) : frC c t r k < 128 := by
  unfold frC
  by_cases h : frt c t (r * 5 + k - 1) (r * 5 + k) = 0
  · rw [if_pos h]; decide
  · rw [if_neg h]; decide
theorem rowT_len {c : Nat → Int32} (hc : Rng c) (t : Int32) {r : Nat} (hr : r < 5) : ∀ k, k ≤ 5 → (rowT c t r k).length ≤ 11 * k
  | 0, _ => Nat.le_refl _
  | k + 1, hk => by
    have ih := rowT_len hc t hr k (by omega)
    obtain ⟨v, hv, e⟩ := hc (r * 5 + k) (by omega)
    have hd := dgF_len 24 9 (c (r * 5 + k)).toNatClampNeg (by
      rw [e, qI_cl (by omega)]
      have : 10 ^ (9 + 1) = 10000000000 := rfl
      omega)
    rw [rowT, List.length_append]
    by_cases h0 : k = 0
    · rw [if_pos h0]; omega
    · rw [if_neg h0, List.length_append]
      have : [frC c t r k].length = 1 := rfl
      omega
theorem s_row_go {c : Nat → Int32} (hc : Rng c) (t : Int32) {r : Nat} (hr : r < 5) (z : (Nat → Int32) → Int32 → Option (Nat × Int32 × (Nat → Int32) × Int32)) : ∀ (m k f : Nat) (sg : Nat → Int32) (len : Int32), k + m = 5 → m < f → LW sg len (rowT c t r k) → ∃ sg' len', f_X12_writeRow_14 c t (nI r) z f (nI k) sg len = z sg' len' ∧ LW sg' len' (rowT c t r 5)
  | _, _, 0, _, _, _, h, _ => by omega
  | 0, k, f + 1, sg, len, hk, _, hL => by
    obtain rfl : k = 5 := by omega
    refine ⟨sg, len, ?_, hL⟩
    rw [f_X12_writeRow_14, if_pos (show (5 : Int32) ≤ nI 5 from Int32.le_refl _)]
  | m + 1, k, f + 1, sg, len, hk, hf, hL => by
    have hk5 : k < 5 := by omega
    have hcell : r * 5 + k < 25 := by omega
    obtain ⟨v, hv, e⟩ := hc (r * 5 + k) hcell
    have ev : (c (r * 5 + k)).toNatClampNeg = v := by rw [e]; exact qI_cl (by omega)
    have hlen := rowT_len hc t hr k (by omega)
    have step : ∀ (sg1 : Nat → Int32) (len1 : Int32), LW sg1 len1 (if k = 0 then rowT c t r k else rowT c t r k ++ [frC c t r k]) → ∃ sg' len', ((f_X10_at c (nI (r * 5 + k))).bind fun r72 => (f_X8_putNumber sg1 len1 ((r72).toInt64)).bind fun r76 => f_X12_writeRow_14 c t (nI r) z f (nI k + 1) r76.1 r76.2) = z sg' len' ∧ LW sg' len' (rowT c t r 5) := by
      intro sg1 len1 h1
      have hl1 : (if k = 0 then rowT c t r k else rowT c t r k ++ [frC c t r k]).length ≤ 11 * k + 1 := by
        by_cases h0 : k = 0
        · rw [if_pos h0]; omega
        · rw [if_neg h0, List.length_append]
          have : [frC c t r k].length = 1 := rfl
          omega
      obtain ⟨sg2, len2, q1, q2⟩ := s_putNum h1 (show v < 10000000000 by omega) (by omega)
      have q2' : LW sg2 len2 (rowT c t r (k + 1)) := by rw [rowT, ev]; exact q2
      obtain ⟨sg', len', q3, q4⟩ := s_row_go hc t hr z m (k + 1) f sg2 len2 (by omega) (by omega) q2'
      refine ⟨sg', len', ?_, q4⟩
      rw [s_at hcell, obS, e, qL_of (by omega), q1, obS, qI_succ]
      exact q3
    rw [f_X12_writeRow_14, if_neg (show ¬ (5 : Int32) ≤ nI k from nle hk5 (by decide)), joE, s_cellOf, obS]
    by_cases h0 : k = 0
    · rw [if_pos (show nI k ≤ 0 by rw [h0]; exact Int32.le_refl _)]
      exact step sg len (by rw [if_pos h0]; exact hL)
    · rw [if_neg (show ¬ nI k ≤ 0 by rw [show (0 : Int32) = nI 0 from rfl, qI_le (by omega) (by decide)]; omega), joE, show nI (r * 5 + k) - 1 = nI (r * 5 + k - 1) from qI_sub (b := 1) (by omega), s_hasFront hc t (by omega) hcell, obS]
      obtain ⟨sg1, len1, q1, q2⟩ := s_putC hL (by omega) (frC_lt c t r k)
      have q2' : LW sg1 len1 (if k = 0 then rowT c t r k else rowT c t r k ++ [frC c t r k]) := by rw [if_neg h0]; exact q2
      obtain ⟨sg', len', q3, q4⟩ := step sg1 len1 q2'
      refine ⟨sg', len', ?_, q4⟩
      unfold frC at q1
      by_cases e0 : frt c t (r * 5 + k - 1) (r * 5 + k) = 0
      · rw [if_pos e0] at q1 ⊢
        dsimp only
        rw [show (32 : Int32) = nI 32 from rfl, q1, obS]
        exact q3
      · rw [if_neg e0] at q1 ⊢
        dsimp only
        rw [show (124 : Int32) = nI 124 from rfl, q1, obS]
        exact q3
theorem m_row_go {g c : Nat → Int32} (hc : Rng c) {t : Int32} (hg : ∀ k, k < 25 → g (7 + k) = c k) (ht : g 2 = t) {r : Nat} (hr : r < 5) (z : (Nat → Int32) → Int32 → Option (Int32 × Int32 × (Nat → Int32) × Int32)) : ∀ (m k f : Nat) (sg : Nat → Int32) (len : Int32), k + m = 5 → m < f → LW sg len (rowT c t r k) → ∃ sg' len', f_X13_writeRow_30 g (nI r) z f (nI k) sg len = z sg' len' ∧ LW sg' len' (rowT c t r 5)
  | _, _, 0, _, _, _, h, _ => by omega
  | 0, k, f + 1, sg, len, hk, _, hL => by
    obtain rfl : k = 5 := by omega
    refine ⟨sg, len, ?_, hL⟩
    rw [f_X13_writeRow_30, if_pos (show (5 : Int32) ≤ nI 5 from Int32.le_refl _)]
  | m + 1, k, f + 1, sg, len, hk, hf, hL => by
    have hk5 : k < 5 := by omega
    have hcell : r * 5 + k < 25 := by omega
    obtain ⟨v, hv, e⟩ := hc (r * 5 + k) hcell
    have ev : (c (r * 5 + k)).toNatClampNeg = v := by rw [e]; exact qI_cl (by omega)
    have hlen := rowT_len hc t hr k (by omega)
    have ecell : (7 : Int32) + 5 * nI r + nI k = nI (7 + (r * 5 + k)) := mcell hr hk5
    have step : ∀ (sg1 : Nat → Int32) (len1 : Int32), LW sg1 len1 (if k = 0 then rowT c t r k else rowT c t r k ++ [frC c t r k]) → ∃ sg' len', (if nI (7 + (r * 5 + k)) < 0 ∨ 60 ≤ (nI (7 + (r * 5 + k))).toNatClampNeg then none else (f_X13_writesNumberT sg1 len1 ((g (nI (7 + (r * 5 + k))).toNatClampNeg).toInt64)).bind fun r80 => f_X13_writeRow_30 g (nI r) z f (nI k + 1) r80.1 r80.2) = z sg' len' ∧ LW sg' len' (rowT c t r 5) := by
      intro sg1 len1 h1
      have hl1 : (if k = 0 then rowT c t r k else rowT c t r k ++ [frC c t r k]).length ≤ 11 * k + 1 := by
        by_cases h0 : k = 0
        · rw [if_pos h0]; omega
        · rw [if_neg h0, List.length_append]
          have : [frC c t r k].length = 1 := rfl
          omega
      obtain ⟨sg2, len2, q1, q2⟩ := m_putNum h1 (show v < 10000000000 by omega) (by omega)
      have q2' : LW sg2 len2 (rowT c t r (k + 1)) := by rw [rowT, ev]; exact q2
      obtain ⟨sg', len', q3, q4⟩ := m_row_go hc hg ht hr z m (k + 1) f sg2 len2 (by omega) (by omega) q2'
      refine ⟨sg', len', ?_, q4⟩
      rw [if_neg (ixo (show 7 + (r * 5 + k) < 60 by omega) (by decide)), qI_cl (show 7 + (r * 5 + k) < 2147483648 by omega), hg _ hcell, e, qL_of (by omega), q1, obS, qI_succ]
      exact q3
    rw [f_X13_writeRow_30, if_neg (show ¬ (5 : Int32) ≤ nI k from nle hk5 (by decide)), joE, ecell]
    by_cases h0 : k = 0
    · rw [if_pos (show nI k ≤ 0 by rw [h0]; exact Int32.le_refl _)]
      exact step sg len (by rw [if_pos h0]; exact hL)
    · have hf1 : f_X13_isFront g (nI (r * 5 + k - 1)) 1 = some (frt c t (r * 5 + k - 1) (r * 5 + k)) := by
        have q := m_isFront1 hg ht (a := r * 5 + k - 1) (by omega)
        rwa [show r * 5 + k - 1 + 1 = r * 5 + k by omega] at q
      rw [if_neg (show ¬ nI k ≤ 0 by rw [show (0 : Int32) = nI 0 from rfl, qI_le (by omega) (by decide)]; omega), joE, cell5, show nI (r * 5 + k) - 1 = nI (r * 5 + k - 1) from qI_sub (b := 1) (by omega), hf1, obS]
      obtain ⟨sg1, len1, q1, q2⟩ := m_putC hL (by omega) (frC_lt c t r k)
      have q2' : LW sg1 len1 (if k = 0 then rowT c t r k else rowT c t r k ++ [frC c t r k]) := by rw [if_neg h0]; exact q2
      obtain ⟨sg', len', q3, q4⟩ := step sg1 len1 q2'
      refine ⟨sg', len', ?_, q4⟩
      unfold frC at q1
      by_cases e0 : frt c t (r * 5 + k - 1) (r * 5 + k) = 0
      · rw [if_pos e0] at q1 ⊢
        dsimp only
        rw [show (32 : Int32) = nI 32 from rfl, q1, obS]
        exact q3
      · rw [if_neg e0] at q1 ⊢
        dsimp only
        rw [show (124 : Int32) = nI 124 from rfl, q1, obS]
        exact q3
theorem row_both {g c : Nat → Int32} {t : Int32} (hc : Rng c) (hg : ∀ k, k < 25 → g (7 + k) = c k) (ht : g 2 = t) (lsg sg : Nat → Int32) (ll sm : Int32) (o : Nat → Int64) (code a1 : Int32) : (f_L_writeRow c t lsg ll o 1 a1 = some (1, lsg, ll, o) ∧ f_X13_writeRow g code sg sm a1 = some (0, 1, sg, sm)) ∨ ∃ (lsg' : Nat → Int32) (v : Int32) (sg' : Nat → Int32), f_L_writeRow c t lsg ll o 1 a1 = some (0, lsg', v, vp_updL o (0 : Int32).toNatClampNeg v.toInt64) ∧ f_X13_writeRow g code sg sm a1 = some (v, 0, sg', v) ∧ RL' lsg' v sg' v := by
  unfold f_L_writeRow f_X12_writeRow f_X13_writeRow
  have e5 : ((4 : Int32) < a1) = ((5 : Int32) ≤ a1) := lt_nI 4 (by decide) a1
  rcases cell_cases a1 0 with ho | ⟨ho, r, w, hr, hw, rfl, h0⟩
  · have ho2 : a1 < 0 ∨ 4 < a1 := by
      rw [e5]
      rcases ho with h | h | h | h
      · exact Or.inl h
      · exact Or.inr h
      · exact absurd h (by decide)
      · exact absurd h (by decide)
    refine Or.inl ⟨?_, ?_⟩
    · simp only [s_requireCell, if_pos ho, obS, n10, if_false, if_true]
    · simp only [joE, s_in, if_pos ho2, obS, if_true, m_fails1, i10, if_false]
  · have ho2 : ¬ (nI r < 0 ∨ 4 < nI r) := by
      rw [e5]
      exact fun q => ho (q.elim Or.inl (fun q => Or.inr (Or.inl q)))
    obtain ⟨lsg', len', a1, a2⟩ := s_row_go hc t hr (fun x y => some (0, y, x, y)) 5 0 1000 lsg 0 rfl (by decide) (LW_nil lsg)
    obtain ⟨sg', sm', b1, b2⟩ := m_row_go hc hg ht hr (fun x y => some (y, (0 : Int32), x, y)) 5 0 1000 sg 0 rfl (by decide) (LW_nil sg)
    have e : len' = sm' := a2.1.trans b2.1.symm
    subst e
    refine Or.inr ⟨lsg', len', sg', ?_, ?_, RL_of a2 b2⟩
    · unfold f_X8_clear
      have a1' : f_X12_writeRow_14 c t (nI r) (fun x y => some (0, y, x, y)) 1000 0 lsg 0 = some (0, len', lsg', len') := a1
      simp only [s_requireCell, if_neg ho, obS, if_true, a1']
      exact if_neg (g0F (by decide))
    · have b1' : f_X13_writeRow_30 g (nI r) (fun x y => some (y, (0 : Int32), x, y)) 1000 0 sg 0 = some (len', 0, sg', len') := b1
      simp only [joE, s_in, if_neg ho2, obS, i10, if_false, m_fails0, if_true, b1']
