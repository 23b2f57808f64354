/-! reading a text: class and model, sign by sign -/
def TX (k : Nat) (tsg inp : Nat → Int32) : Prop := k ≤ 60 ∧ ∀ i, i < k → tsg i = inp i ∧ ∃ v, 32 ≤ v ∧ v ≤ 126 ∧ inp i = nI v
def atb (k : Nat) (inp : Nat → Int32) (p c : Nat) : Bool := decide (p < k) && decide (inp p = nI c)
theorem atb_iff {k : Nat} {inp : Nat → Int32} {p c : Nat} : atb k inp p c = true ↔ p < k ∧ inp p = nI c := by
  unfold atb
  rw [Bool.and_eq_true, decide_eq_true_iff, decide_eq_true_iff]
theorem atb_uniq {k : Nat} {inp : Nat → Int32} {p c d : Nat} (hc : c < 128) (hd : d < 128) (h : atb k inp p c = true) (hne : c ≠ d) : atb k inp p d = false := by
  cases e : atb k inp p d with
  | false => rfl
  | true =>
    have a := (atb_iff.mp h).2
    have b := (atb_iff.mp e).2
    rw [a, qI_eq (by omega) (by omega)] at b
    exact absurd b hne
theorem s_sign {k : Nat} {tsg inp : Nat → Int32} (h : TX k tsg inp) {p : Nat} (hp : p < 1000) : f_X3_signAt tsg (nI k) (nI p) = some (if p < k then inp p else 0) := by
  have h60 := h.1
  unfold f_X3_signAt
  rw [joE, joE, if_neg (qI_neg0 p (by omega))]
  by_cases e : p < k
  · obtain ⟨a, v, v1, v2, ev⟩ := h.2 p e
    rw [if_neg (nle e (by omega)), if_neg (show ¬ (60 : Int32) ≤ nI p from nle (show p < 60 by omega) (by decide)), if_neg (ixo (show p < 60 by omega) (by decide)), qI_cl (show p < 2147483648 by omega), if_pos e, a, ev]
    exact if_neg (fun q => q (narC v (by omega)))
  · rw [if_pos (show nI k ≤ nI p by rw [qI_le (by omega) (by omega)]; omega), if_neg e]
    exact if_neg (fun q => q (narC 0 (by decide)))
theorem s_isSign {k : Nat} {tsg inp : Nat → Int32} (h : TX k tsg inp) {p c : Nat} (hp : p < 1000) (hc0 : 0 < c) (hc : c < 128) : f_X3_isSignAt tsg (nI k) (nI p) (nI c) = some (if atb k inp p c = true then 1 else 0) := by
  unfold f_X3_isSignAt
  rw [joE, s_sign h hp, obS]
  by_cases e : atb k inp p c = true
  · have e2 := atb_iff.mp e
    rw [if_pos e, if_pos (show (if p < k then inp p else 0) = nI c by rw [if_pos e2.1]; exact e2.2)]
    exact if_neg (fun q => q narB1)
  · have e2 : ¬ (if p < k then inp p else 0) = nI c := fun q => by
      by_cases hk : p < k
      · rw [if_pos hk] at q
        exact e (atb_iff.mpr ⟨hk, q⟩)
      · rw [if_neg hk, show (0 : Int32) = nI 0 from rfl, qI_eq (by decide) (by omega)] at q
        omega
    rw [if_neg e, if_neg e2]
    exact if_neg (fun q => q narB0)
theorem s_readSign {k : Nat} {tsg inp : Nat → Int32} (h : TX k tsg inp) {p c : Nat} (hp : p < 1000) (hc0 : 0 < c) (hc : c < 128) : f_X3_readSign tsg (nI k) (nI p) (nI c) = some (if atb k inp p c = true then (1, nI (p + 1)) else (0, nI p)) := by
  unfold f_X3_readSign
  rw [s_isSign h hp hc0 hc, obS]
  by_cases e : atb k inp p c = true
  · rw [if_pos e, if_pos e, if_neg i10, qI_succ]
  · rw [if_neg e, if_neg e, if_pos rfl]
theorem m_here {k : Nat} (hk : k ≤ 60) {inp : Nat → Int32} {p : Nat} (hp : p < 1000) : f_X13_here inp (nI k) (nI p) = some (if p < k then inp p else -1) := by
  unfold f_X13_here
  rw [joE]
  by_cases e : p < k
  · rw [if_neg (nle e (by omega)), if_neg (ixo (show p < 60 by omega) (by decide)), qI_cl (show p < 2147483648 by omega), if_pos e]
  · rw [if_pos (show nI k ≤ nI p by rw [qI_le (by omega) (by omega)]; omega), if_neg e]
theorem m_skips {k : Nat} (hk : k ≤ 60) {inp : Nat → Int32} {p c : Nat} (hp : p < 1000) (hc : c < 128) : f_X13_skips inp (nI k) (nI p) (nI c) = some (if atb k inp p c = true then (1, nI (p + 1)) else (0, nI p)) := by
  unfold f_X13_skips
  rw [m_here hk hp, obS]
  by_cases e : atb k inp p c = true
  · have e2 := atb_iff.mp e
    rw [if_pos e, if_pos (show (if p < k then inp p else -1) = nI c by rw [if_pos e2.1]; exact e2.2), qI_succ]
  · have e2 : ¬ (if p < k then inp p else -1) = nI c := fun q => by
      by_cases hk : p < k
      · rw [if_pos hk] at q
        exact e (atb_iff.mpr ⟨hk, q⟩)
      · rw [if_neg hk] at q
        exact m1n c (by omega) q.symm
    rw [if_neg e, if_neg e2]
/-- how far a word fits -/
def fit (k : Nat) (inp : Nat → Int32) : Nat → List Nat → Nat
  | _, [] => 0
  | p, c :: w => if atb k inp p c = true then fit k inp (p + 1) w + 1 else 0
theorem fit_len (k : Nat) (inp : Nat → Int32) : ∀ (w : List Nat) (p : Nat), fit k inp p w ≤ w.length
  | [], _ => Nat.le_refl _
  | c :: w, p => by
    rw [fit, List.length_cons]
    by_cases e : atb k inp p c = true
    · rw [if_pos e]; have := fit_len k inp w (p + 1); omega
    · rw [if_neg e]; omega
theorem fit_le {k : Nat} {inp : Nat → Int32} : ∀ (w : List Nat) (p : Nat), p ≤ k → p + fit k inp p w ≤ k
  | [], _, h => h
  | c :: w, p, h => by
    rw [fit]
    by_cases e : atb k inp p c = true
    · have := (atb_iff.mp e).1
      rw [if_pos e]; have := fit_le (k := k) (inp := inp) w (p + 1) (by omega); omega
    · rw [if_neg e]; exact h
theorem s_fitA {k : Nat} {tsg : Nat → Int32} {p : Nat} {b : List Nat} (hbl : b.length ≤ 100) (z : Int32 → Option Int32) : ∀ (m i f l2 : Nat), i + m = b.length → m < f → l2 < i → f_X3_fittingLength_4 tsg (nI k) (nI p) (b.map nI) z f (nI l2) (nI i) = z (nI l2)
  | _, _, 0, _, _, h, _ => by omega
  | 0, i, f + 1, l2, hi, _, _ => by
    rw [f_X3_fittingLength_4, List.length_map, if_pos (show nI b.length ≤ nI i by rw [qI_le (by omega) (by omega)]; omega)]
  | m + 1, i, f + 1, l2, hi, hf, hl => by
    rw [f_X3_fittingLength_4, List.length_map, if_neg (nle (show i < b.length by omega) (by omega)), joE, if_neg (show ¬ nI l2 = nI i by rw [qI_eq (by omega) (by omega)]; omega), qI_succ]
    exact s_fitA hbl z m (i + 1) f l2 (by omega) (by omega) (by omega)
theorem s_fitB {k : Nat} {tsg inp : Nat → Int32} (h : TX k tsg inp) {p : Nat} (hp : p ≤ 60) {b : List Nat} (hb : ∀ x ∈ b, 0 < x ∧ x < 128) (hbl : b.length ≤ 100) (z : Int32 → Option Int32) : ∀ (m i f : Nat), i + m = b.length → m < f → f_X3_fittingLength_4 tsg (nI k) (nI p) (b.map nI) z f (nI i) (nI i) = z (nI (i + fit k inp (p + i) (b.drop i)))
  | _, _, 0, _, h => by omega
  | 0, i, f + 1, hi, _ => by
    obtain rfl : i = b.length := by omega
    rw [f_X3_fittingLength_4, List.length_map, if_pos (Int32.le_refl _), List.drop_length]
    rfl
  | m + 1, i, f + 1, hi, hf => by
    have hi2 : i < b.length := by omega
    obtain ⟨c0, c1⟩ := hb _ (List.getElem_mem hi2)
    rw [f_X3_fittingLength_4, List.length_map, if_neg (nle hi2 (by omega)), joE, if_pos rfl, if_neg (ixo hi2 (by omega)), chAt_nI (List.getElem?_eq_getElem hi2) c1 (by omega), qI_add, s_isSign h (show p + i < 1000 by omega) c0 c1, obS, qI_succ, List.drop_eq_getElem_cons hi2, fit]
    by_cases e : atb k inp (p + i) b[i] = true
    · rw [if_pos e, if_pos e, if_neg i10]
      refine (s_fitB h hp hb hbl z m (i + 1) f (by omega) (by omega)).trans ?_
      exact congrArg (fun x => z (nI x)) (by rw [Nat.add_assoc p i 1]; omega)
    · rw [if_neg e, if_neg e, if_pos rfl]
      exact s_fitA hbl z m (i + 1) f i (by omega) (by omega) (by omega)
theorem s_fit {k : Nat} {tsg inp : Nat → Int32} (h : TX k tsg inp) {p : Nat} (hp : p ≤ 60) {b : List Nat} (hb : ∀ x ∈ b, 0 < x ∧ x < 128) (hbl : b.length ≤ 100) : f_X3_fittingLength tsg (nI k) (nI p) (b.map nI) = some (nI (fit k inp p b)) := by
  unfold f_X3_fittingLength
  refine (s_fitB h hp hb hbl (fun x => some x) b.length 0 1000 (by omega) (by omega)).trans ?_
  rw [Nat.zero_add, List.drop_zero, Nat.add_zero]
/-- the ten words -/
def kw (i : Nat) : List Nat := [[115, 101, 116], [114, 111, 119], [99, 111, 108, 117, 109, 110], [115, 104, 105, 102, 116, 32], [116, 104, 114, 101, 115, 104, 111, 108, 100], [119, 101, 105, 103, 104, 116], [105, 115, 115, 117, 101], [119, 105, 116, 104, 100, 114, 97, 119], [111, 98, 115, 101, 114, 118, 101], [108, 111, 111, 107]].getD i []
theorem kw_eq : ∀ i, i < 10 → (kwX i).2.2 = (kw i).map nI := by decide +kernel
theorem kw_ok : ∀ i, i < 10 → (∀ x ∈ kw i, 0 < x ∧ x < 128) ∧ (kw i).length ≤ 9 ∧ 3 ≤ (kw i).length := by decide
def kp3 (i : Nat) : List Nat := [[100, 100, 110], [100], [100], [99], [110], [100, 100, 100], [100], [100], [100], []].getD i []
theorem kp_eq : ∀ i, i < 10 → (kpX i).2.2 = (kp3 i).map nI := by decide +kernel
def rwS (F : Nat → Nat) (i : Nat) (s : Option Nat × Nat) : Option Nat × Nat := (if F i = (kw i).length then some i else s.1, if s.2 < F i then F i else s.2)
theorem s_rw_go {k : Nat} {tsg inp : Nat → Int32} (h : TX k tsg inp) {p : Nat} (hp : p ≤ 60) (z : Option Nat → Int32 → Option (Option Nat × Int32)) : ∀ (m i f : Nat) (s : Option Nat × Nat), i + m = 10 → m < f → s.2 ≤ 9 → f_X3_readWord_6 tsg (nI k) (nI p) z f s.1 (nI s.2) (nI i) = z (foldN (rwS (fun i => fit k inp p (kw i))) m i s).1 (nI (foldN (rwS (fun i => fit k inp p (kw i))) m i s).2)
  | _, _, 0, _, _, h, _ => by omega
  | 0, i, f + 1, s, hi, _, _ => by
    obtain rfl : i = 10 := by omega
    rw [f_X3_readWord_6, if_pos (show (10 : Int32) ≤ nI 10 from Int32.le_refl _)]
    rfl
  | m + 1, i, f + 1, s, hi, hf, hs => by
    have hi2 : i < 10 := by omega
    obtain ⟨k1, k2, k3⟩ := kw_ok i hi2
    have hl := fit_len k inp (kw i) p
    rw [f_X3_readWord_6, if_neg (show ¬ (10 : Int32) ≤ nI i from nle hi2 (by decide)), joE, if_neg (ixo hi2 (by decide)), qI_cl (show i < 2147483648 by omega), kw_eq i hi2, s_fit h hp k1 (by omega), obS, List.length_map, qI_succ, foldN]
    simp only [qI_eq (show fit k inp p (kw i) < 2147483648 by omega) (show (kw i).length < 2147483648 by omega), qI_lt (show s.2 < 2147483648 by omega) (show fit k inp p (kw i) < 2147483648 by omega)]
    have e : (if s.2 < fit k inp p (kw i) then nI (fit k inp p (kw i)) else nI s.2) = nI (if s.2 < fit k inp p (kw i) then fit k inp p (kw i) else s.2) := by
      by_cases q : s.2 < fit k inp p (kw i)
      · rw [if_pos q, if_pos q]
      · rw [if_neg q, if_neg q]
    have hs' : (if s.2 < fit k inp p (kw i) then fit k inp p (kw i) else s.2) ≤ 9 := by
      by_cases q : s.2 < fit k inp p (kw i)
      · rw [if_pos q]; omega
      · rw [if_neg q]; exact hs
    have ih := fun o => s_rw_go h hp z m (i + 1) f (o, if s.2 < fit k inp p (kw i) then fit k inp p (kw i) else s.2) (by omega) (by omega) hs'
    rw [e]
    unfold rwS at ih ⊢
    by_cases q : fit k inp p (kw i) = (kw i).length
    · rw [if_pos q]
      refine (ih (some i)).trans ?_
      simp only [if_pos q]
    · rw [if_neg q]
      refine (ih s.1).trans ?_
      simp only [if_neg q]
theorem rw_fold {F : Nat → Nat} {i : Nat} (hF : ∀ j, j < 10 → j ≠ i → F j ≤ F i ∧ F j < (kw j).length) : ∀ (m a : Nat) (s : Option Nat × Nat), a + m = 10 → s.2 ≤ F i → (i < a → s.2 = F i) → s.1 = (if i < a ∧ F i = (kw i).length then some i else none) → foldN (rwS F) m a s = (if i < 10 ∧ F i = (kw i).length then some i else none, if i < 10 then F i else (foldN (rwS F) m a s).2)
  | 0, a, s, ha, h1, h2, h3 => by
    obtain rfl : a = 10 := by omega
    show s = _
    refine Prod.ext h3 ?_
    by_cases hi : i < 10
    · show s.2 = if i < 10 then F i else _
      rw [if_pos hi]; exact h2 hi
    · show s.2 = if i < 10 then F i else s.2
      rw [if_neg hi]
  | m + 1, a, s, ha, h1, h2, h3 => by
    rw [foldN]
    refine rw_fold hF m (a + 1) (rwS F a s) (by omega) ?_ (fun hi => ?_) ?_
    · show (if s.2 < F a then F a else s.2) ≤ F i
      by_cases e : a = i
      · subst e
        by_cases q : s.2 < F a
        · rw [if_pos q]; omega
        · rw [if_neg q]; exact h1
      · have := hF a (by omega) e
        by_cases q : s.2 < F a
        · rw [if_pos q]; exact this.1
        · rw [if_neg q]; exact h1
    · show (if s.2 < F a then F a else s.2) = F i
      by_cases e : a = i
      · subst e
        by_cases q : s.2 < F a
        · rw [if_pos q]
        · rw [if_neg q]; omega
      · have h4 := hF a (by omega) e
        have h5 := h2 (by omega)
        rw [if_neg (by omega)]; exact h5
    · show (if F a = (kw a).length then some a else s.1) = _
      by_cases e : a = i
      · subst e
        rw [h3]
        by_cases q : F a = (kw a).length
        · rw [if_pos q, if_pos ⟨by omega, q⟩]
        · rw [if_neg q, if_neg (fun w => q w.2), if_neg (fun w => q w.2)]
      · have h4 := hF a (by omega) e
        rw [if_neg (by omega), h3]
        by_cases q : i < a ∧ F i = (kw i).length
        · rw [if_pos q, if_pos ⟨by omega, q.2⟩]
        · rw [if_neg q, if_neg (fun w => q ⟨by omega, w.2⟩)]
theorem s_word1 {k : Nat} {tsg inp : Nat → Int32} (h : TX k tsg inp) {p : Nat} (hp : p ≤ 60) {i : Nat} (hi : i < 10) (hF : ∀ j, j < 10 → j ≠ i → fit k inp p (kw j) ≤ fit k inp p (kw i) ∧ fit k inp p (kw j) < (kw j).length) : f_X3_readWord tsg (nI k) (nI p) = some (if fit k inp p (kw i) = (kw i).length then some i else none, nI (p + fit k inp p (kw i))) := by
  unfold f_X3_readWord
  refine (s_rw_go h hp _ 10 0 1000 (none, 0) rfl (by decide) (by decide)).trans ?_
  have e := rw_fold (F := fun i => fit k inp p (kw i)) (i := i) hF 10 0 (none, 0) rfl (Nat.zero_le _) (fun q => absurd q (by omega)) (if_neg (fun q => absurd q.1 (by omega))).symm
  rw [e]
  simp only [hi, true_and, if_true]
  rw [qI_add]
theorem s_word0 {k : Nat} {tsg inp : Nat → Int32} (h : TX k tsg inp) {p : Nat} (hp : p ≤ 60) (hF : ∀ j, j < 10 → fit k inp p (kw j) = 0) : f_X3_readWord tsg (nI k) (nI p) = some (none, nI p) := by
  have h1 := s_word1 h hp (i := 0) (by decide) (fun j hj _ => by
    rw [hF j hj, hF 0 (by decide)]
    have := (kw_ok j hj).2.2
    omega)
  rw [hF 0 (by decide)] at h1
  exact h1
/-! the model's words -/
theorem m_wd_go {k : Nat} (hk : k ≤ 60) {inp : Nat → Int32} {p : Nat} (hp : p ≤ 100) {b : List Nat} (hb : ∀ x ∈ b, x < 128) (hbl : b.length ≤ 100) (z42 z34 : Int32 → Option (Int32 × Int32 × (Nat → Int32))) : ∀ (m i f : Nat), i + m = b.length → m < f → f_X13_isWord_14 inp (nI k) (b.map nI) z42 z34 f (nI i) (nI (p + i)) = if fit k inp (p + i) (b.drop i) = b.length - i then z42 (nI (p + b.length)) else z34 (nI (p + i + fit k inp (p + i) (b.drop i)))
  | _, _, 0, _, h => by omega
  | 0, i, f + 1, hi, _ => by
    obtain rfl : i = b.length := by omega
    rw [f_X13_isWord_14, List.length_map, if_pos (Int32.le_refl _), List.drop_length, if_pos (by rw [fit]; omega)]
  | m + 1, i, f + 1, hi, hf => by
    have hi2 : i < b.length := by omega
    have c1 := hb _ (List.getElem_mem hi2)
    have hfl := fit_len k inp (b.drop (i + 1)) (p + i + 1)
    rw [List.length_drop] at hfl
    rw [f_X13_isWord_14, List.length_map, if_neg (nle hi2 (by omega)), if_neg (ixo hi2 (by omega)), chAt_nI (List.getElem?_eq_getElem hi2) c1 (by omega), m_skips hk (show p + i < 1000 by omega) c1, obS, List.drop_eq_getElem_cons hi2, fit]
    by_cases e : atb k inp (p + i) b[i] = true
    · rw [if_pos e, if_pos e, if_neg i10, qI_succ]
      refine (m_wd_go hk hp hb hbl z42 z34 m (i + 1) f (by omega) (by omega)).trans ?_
      rw [← Nat.add_assoc p i 1]
      by_cases q : fit k inp (p + i + 1) (b.drop (i + 1)) = b.length - (i + 1)
      · rw [if_pos q, if_pos (by omega)]
      · rw [if_neg q, if_neg (by omega)]
        exact congrArg (fun x => z34 (nI x)) (by omega)
    · rw [if_neg e, if_neg e, if_pos rfl, if_neg (by omega), Nat.add_zero]
theorem m_isWord {k : Nat} (hk : k ≤ 60) {inp : Nat → Int32} {p : Nat} (hp : p ≤ 100) {b : List Nat} (hb : ∀ x ∈ b, x < 128) (hbl : b.length ≤ 100) (told : Nat → Int32) {j : Nat} (hj : j < 15) (a : Int32) : f_X13_isWord inp (nI k) (nI p) told (nI j) a (b.map nI) = some (if fit k inp p b = b.length then 1 else 0, nI (p + fit k inp p b), upd told (4 * j) a) := by
  unfold f_X13_isWord
  rw [show (4 : Int32) * nI j = nI (4 * j) from qI_mul 4 j, if_neg (ixo (show 4 * j < 124 by omega) (by decide)), qI_cl (show 4 * j < 2147483648 by omega)]
  refine (m_wd_go hk hp hb hbl _ _ b.length 0 1000 (by omega) (by omega)).trans ?_
  rw [Nat.add_zero, List.drop_zero, Nat.sub_zero]
  by_cases q : fit k inp p b = b.length
  · rw [if_pos q, if_pos q, q]
  · rw [if_neg q, if_neg q]
/-! parameters -/
def isdg (k : Nat) (inp : Nat → Int32) (p : Nat) : Bool := decide (p < k) && (decide (48 ≤ inp p) && decide (inp p ≤ 57))
theorem isdg_iff {k : Nat} {inp : Nat → Int32} {p : Nat} : isdg k inp p = true ↔ p < k ∧ 48 ≤ inp p ∧ inp p ≤ 57 := by
  unfold isdg
  rw [Bool.and_eq_true, Bool.and_eq_true, decide_eq_true_iff, decide_eq_true_iff, decide_eq_true_iff]
theorem isdg_val {k : Nat} {inp : Nat → Int32} {p : Nat} (h : isdg k inp p = true) : ∃ d, d < 10 ∧ inp p = nI (48 + d) := by
  obtain ⟨-, a, b⟩ := isdg_iff.mp h
  obtain ⟨v, v1, v2, e⟩ := in_rng (a := inp p) (lo := 48) (hi := 57) (by decide) (by decide) (fun q => q.elim (fun q => i_nlt.mpr a q) (fun q => i_nlt.mpr b q))
  exact ⟨v - 48, by omega, by rw [e]; exact congrArg nI (by omega)⟩
theorem s_digit {k : Nat} {tsg inp : Nat → Int32} (h : TX k tsg inp) {p : Nat} (hp : p < 1000) : f_X3_readDigit tsg (nI k) (nI p) = some (if isdg k inp p = true then (inp p - 48, nI (p + 1)) else (-1, nI p)) := by
  unfold f_X3_readDigit
  rw [joE, s_sign h hp, obS, qI_succ]
  by_cases e : p < k
  · rw [if_pos e]
    by_cases e1 : inp p < 48
    · rw [if_pos e1, if_neg (fun q => (i_nlt.mpr (isdg_iff.mp q).2.1) e1)]
    · rw [if_neg e1]
      by_cases e2 : inp p ≤ 57
      · rw [if_pos e2, if_pos (isdg_iff.mpr ⟨e, i_nlt.mp e1, e2⟩)]
      · rw [if_neg e2, if_neg (fun q => e2 (isdg_iff.mp q).2.2)]
  · rw [if_neg e, if_pos (show (0 : Int32) < 48 by decide), if_neg (fun q => e (isdg_iff.mp q).1)]
theorem m_digit {k : Nat} {inp : Nat → Int32} {p : Nat} : f_X13_in (if p < k then inp p else -1) 48 57 = some (if isdg k inp p = true then 1 else 0) := by
  rw [s_in]
  by_cases e : p < k
  · rw [if_pos e]
    by_cases q : isdg k inp p = true
    · rw [if_pos q, if_neg (fun w => w.elim (fun w => i_nlt.mpr (isdg_iff.mp q).2.1 w) (fun w => i_nlt.mpr (isdg_iff.mp q).2.2 w))]
    · rw [if_neg q]
      by_cases w : inp p < 48 ∨ 57 < inp p
      · rw [if_pos w]
      · exact absurd (isdg_iff.mpr ⟨e, i_nlt.mp (fun x => w (Or.inl x)), i_nlt.mp (fun x => w (Or.inr x))⟩) q
  · rw [if_neg e, if_pos (show (-1 : Int32) < 48 ∨ 57 < (-1 : Int32) from Or.inl (by decide)), if_neg (fun q => e (isdg_iff.mp q).1)]
def isdr (k : Nat) (inp : Nat → Int32) (p : Nat) : Bool := atb k inp p 110 || (atb k inp p 101 || (atb k inp p 115 || atb k inp p 119))
def rpo (k : Nat) (inp : Nat → Int32) (f p : Nat) : Bool := if f = 99 then isdr k inp p else (atb k inp p 32 && isdg k inp (p + 1))
def rpp (k : Nat) (inp : Nat → Int32) (f p : Nat) : Nat := if f = 99 then (if isdr k inp p = true then p + 1 else p) else if atb k inp p 32 = true then (if isdg k inp (p + 1) = true then (if f = 110 ∧ isdg k inp (p + 1 + 1) = true then p + 3 else p + 2) else p + 1) else p
def rpv (k : Nat) (inp : Nat → Int32) (f p : Nat) : Int32 := if f = 99 then inp p else if f = 110 ∧ isdg k inp (p + 1 + 1) = true then (inp (p + 1) - 48) * 10 + (inp (p + 1 + 1) - 48) else inp (p + 1) - 48
theorem isdr_iff {k : Nat} {inp : Nat → Int32} {p : Nat} : isdr k inp p = true ↔ p < k ∧ (inp p = 110 ∨ inp p = 101 ∨ inp p = 115 ∨ inp p = 119) := by
  unfold isdr
  rw [Bool.or_eq_true, Bool.or_eq_true, Bool.or_eq_true, atb_iff, atb_iff, atb_iff, atb_iff]
  constructor
  · rintro (h | h | h | h)
    · exact ⟨h.1, Or.inl h.2⟩
    · exact ⟨h.1, Or.inr (Or.inl h.2)⟩
    · exact ⟨h.1, Or.inr (Or.inr (Or.inl h.2))⟩
    · exact ⟨h.1, Or.inr (Or.inr (Or.inr h.2))⟩
  · rintro ⟨h, q | q | q | q⟩
    · exact Or.inl ⟨h, q⟩
    · exact Or.inr (Or.inl ⟨h, q⟩)
    · exact Or.inr (Or.inr (Or.inl ⟨h, q⟩))
    · exact Or.inr (Or.inr (Or.inr ⟨h, q⟩))
theorem rpp_le {k : Nat} {inp : Nat → Int32} {f p : Nat} (hp : p ≤ k) : rpp k inp f p ≤ k ∧ (rpo k inp f p = true → p + 1 ≤ rpp k inp f p) := by
  unfold rpp rpo
  by_cases hf : f = 99
  · rw [if_pos hf, if_pos hf]
    by_cases e : isdr k inp p = true
    · rw [if_pos e]
      have := (isdr_iff.mp e).1
      exact ⟨by omega, fun _ => by omega⟩
    · rw [if_neg e]
      exact ⟨hp, fun q => absurd q e⟩
  · rw [if_neg hf, if_neg hf]
    by_cases e : atb k inp p 32 = true
    · have e1 := (atb_iff.mp e).1
      rw [if_pos e]
      by_cases e2 : isdg k inp (p + 1) = true
      · have e3 := (isdg_iff.mp e2).1
        rw [if_pos e2]
        by_cases e4 : f = 110 ∧ isdg k inp (p + 1 + 1) = true
        · have e5 := (isdg_iff.mp e4.2).1
          rw [if_pos e4]; exact ⟨by omega, fun _ => by omega⟩
        · rw [if_neg e4]; exact ⟨by omega, fun _ => by omega⟩
      · rw [if_neg e2]
        exact ⟨by omega, fun q => absurd (Eq.mp (Bool.and_eq_true _ _) q).2 e2⟩
    · rw [if_neg e]
      exact ⟨hp, fun q => absurd (Eq.mp (Bool.and_eq_true _ _) q).1 e⟩
theorem dg_sub {x : Int32} {d : Nat} (h : x = nI (48 + d)) : x - 48 = nI d := by
  rw [h]
  exact (qI_sub (a := 48 + d) (b := 48) (by omega)).trans (congrArg nI (by omega))
theorem dg_m1 {k : Nat} {inp : Nat → Int32} {p : Nat} (h : isdg k inp p = true) : inp p - 48 ≠ -1 := by
  obtain ⟨d, hd, e⟩ := isdg_val h
  rw [dg_sub e]
  exact m1n _ (by omega)
theorem s_paramN {k : Nat} {inp : Nat → Int32} {p : Nat} {f : Nat} (hr : rpo k inp f p = true) : rpv k inp f p ≠ -1 := by
  unfold rpo at hr
  unfold rpv
  by_cases h99 : f = 99
  · rw [if_pos h99] at hr ⊢
    obtain ⟨-, hd⟩ := isdr_iff.mp hr
    rcases hd with q | q | q | q <;> rw [q] <;> decide
  · rw [if_neg h99] at hr ⊢
    have a2 := (Eq.mp (Bool.and_eq_true _ _) hr).2
    by_cases a3 : f = 110 ∧ isdg k inp (p + 1 + 1) = true
    · rw [if_pos a3]
      obtain ⟨d1, hd1, v1⟩ := isdg_val a2
      obtain ⟨d2, hd2, v2⟩ := isdg_val a3.2
      rw [dg_sub v1, dg_sub v2, show (10 : Int32) = nI 10 from rfl, qI_mul, qI_add]
      exact m1n _ (by omega)
    · rw [if_neg a3]
      exact dg_m1 a2
theorem s_paramE {k : Nat} {tsg inp : Nat → Int32} (h : TX k tsg inp) {p : Nat} (hp : p ≤ 100) {f : Nat} (hf : f = 99 ∨ f = 100 ∨ f = 110) : f_X3_readParameter tsg (nI k) (nI p) (nI f) = some (if rpo k inp f p = true then rpv k inp f p else -1, nI (rpp k inp f p)) := by
  unfold f_X3_readParameter
  by_cases h99 : f = 99
  · subst h99
    rw [if_pos (show nI 99 = 99 from rfl)]
    unfold f_X3_readDirection
    rw [s_sign h (show p < 1000 by omega), obS, s_isDirection, obS]
    have e1 : rpo k inp 99 p = isdr k inp p := if_pos rfl
    have e2 : rpv k inp 99 p = inp p := if_pos rfl
    have e3 : rpp k inp 99 p = if isdr k inp p = true then p + 1 else p := if_pos rfl
    rw [e1, e2, e3]
    by_cases e : isdr k inp p = true
    · obtain ⟨hk, hd⟩ := isdr_iff.mp e
      rw [if_pos hk, if_pos hd, if_neg i10, if_pos e, if_pos e, obS, qI_succ]
    · have hd : ¬ ((if p < k then inp p else 0) = 110 ∨ (if p < k then inp p else 0) = 101 ∨ (if p < k then inp p else 0) = 115 ∨ (if p < k then inp p else 0) = 119) := by
        by_cases hk : p < k
        · rw [if_pos hk]
          exact fun q => e (isdr_iff.mpr ⟨hk, q⟩)
        · rw [if_neg hk]
          decide
      rw [if_neg hd, if_pos rfl, if_neg e, if_neg e, obS]
  · have e1 : rpo k inp f p = (atb k inp p 32 && isdg k inp (p + 1)) := if_neg h99
    have e2 : rpv k inp f p = if f = 110 ∧ isdg k inp (p + 1 + 1) = true then (inp (p + 1) - 48) * 10 + (inp (p + 1 + 1) - 48) else inp (p + 1) - 48 := if_neg h99
    have e3 : rpp k inp f p = if atb k inp p 32 = true then (if isdg k inp (p + 1) = true then (if f = 110 ∧ isdg k inp (p + 1 + 1) = true then p + 3 else p + 2) else p + 1) else p := if_neg h99
    have n99 : ¬ nI f = 99 := by rw [show (99 : Int32) = nI 99 from rfl, qI_eq (by omega) (by decide)]; exact h99
    have n110 : (nI f = 110) = (f = 110) := qI_eq (b := 110) (by omega) (by decide)
    rw [if_neg n99, show (32 : Int32) = nI 32 from rfl, s_readSign h (show p < 1000 by omega) (by decide) (by decide), obS, e1, e2, e3]
    by_cases a1 : atb k inp p 32 = true
    · simp only [a1, if_true, i10, if_false, joE, s_digit h (show p + 1 < 1000 by omega), obS, Bool.true_and, n110]
      by_cases a2 : isdg k inp (p + 1) = true
      · have hm := dg_m1 a2
        by_cases a3 : f = 110
        · simp only [a2, a3, if_true, hm, if_false, s_digit h (show p + 1 + 1 < 1000 by omega), obS, true_and]
          by_cases a4 : isdg k inp (p + 1 + 1) = true
          · have hm2 := dg_m1 a4
            simp only [a4, if_true, hm2, if_false]
          · simp only [a4, if_true, if_false, Bool.false_eq_true]
        · simp only [a2, a3, if_true, if_false, false_and]
      · by_cases a3 : f = 110
        · simp only [a2, a3, if_true, if_false, Bool.false_eq_true]
        · simp only [a2, a3, if_true, if_false, Bool.false_eq_true]
    · simp only [a1, if_true, if_false, Bool.false_eq_true, Bool.false_and]
theorem s_param {k : Nat} {tsg inp : Nat → Int32} (h : TX k tsg inp) {p : Nat} (hp : p ≤ 100) {f : Nat} (hf : f = 99 ∨ f = 100 ∨ f = 110) : f_X3_readParameter tsg (nI k) (nI p) (nI f) = some (if rpo k inp f p = true then rpv k inp f p else -1, nI (rpp k inp f p)) ∧ (rpo k inp f p = true → rpv k inp f p ≠ -1) := ⟨s_paramE h hp hf, s_paramN⟩
theorem upd_upd (f : Nat → Int32) (k : Nat) (a b : Int32) : upd (upd f k a) k b = upd f k b := by
  funext j
  by_cases e : j = k
  · subst e; rw [upd_same, upd_same]
  · rw [upd_ne _ _ e, upd_ne _ _ e, upd_ne _ _ e]
/-- figures of the model: one digit, or up to two -/
theorem m_fig {k : Nat} (hk : k ≤ 60) {inp : Nat → Int32} {p : Nat} (hp : p ≤ 100) (told : Nat → Int32) {pl : Nat} (hpl : pl < 124) {f D : Nat} (hf : (f = 100 ∧ D = 1) ∨ (f = 110 ∧ D = 2)) : f_X13_figures inp (nI k) (nI p) told (nI pl) (nI D) = some (if rpo k inp f p = true then 1 else 0, nI (rpp k inp f p), if rpo k inp f p = true then upd told pl (rpv k inp f p) else told) := by
  have h99 : ¬ f = 99 := by omega
  have e1 : rpo k inp f p = (atb k inp p 32 && isdg k inp (p + 1)) := if_neg h99
  have e2 : rpv k inp f p = if f = 110 ∧ isdg k inp (p + 1 + 1) = true then (inp (p + 1) - 48) * 10 + (inp (p + 1 + 1) - 48) else inp (p + 1) - 48 := if_neg h99
  have e3 : rpp k inp f p = if atb k inp p 32 = true then (if isdg k inp (p + 1) = true then (if f = 110 ∧ isdg k inp (p + 1 + 1) = true then p + 3 else p + 2) else p + 1) else p := if_neg h99
  unfold f_X13_figures
  rw [joE, show (32 : Int32) = nI 32 from rfl, m_skips hk (show p < 1000 by omega) (by decide), obS, e1, e2, e3]
  by_cases a1 : atb k inp p 32 = true
  · rw [if_pos a1, if_neg i10, m_here hk (show p + 1 < 1000 by omega), obS, m_digit, obS, if_pos a1, a1, Bool.true_and]
    by_cases a2 : isdg k inp (p + 1) = true
    · have k1 := (isdg_iff.mp a2).1
      obtain ⟨d1, hd1, v1⟩ := isdg_val a2
      rw [if_pos a2, if_neg i10, if_neg (ixo hpl (by decide)), qI_cl (show pl < 2147483648 by omega), if_pos a2, if_pos a2]
      have st1 : ((10 : Int32) * upd told pl 0 pl + (if p + 1 < k then inp (p + 1) else -1)) - 48 = inp (p + 1) - 48 := by
        rw [upd_same, if_pos k1, Int32.mul_zero, Int32.zero_add]
      rcases hf with ⟨rfl, rfl⟩ | ⟨rfl, rfl⟩
      · rw [f_X13_figures_34, if_neg (show ¬ nI 1 ≤ 0 by decide), m_here hk (show p + 1 < 1000 by omega), obS, m_digit, obS, if_pos a2, if_neg i10, if_neg (ixo hpl (by decide)), obS, qI_cl (show pl < 2147483648 by omega), st1, upd_upd, qI_succ, f_X13_figures_34, if_pos (show nI 1 ≤ 0 + 1 by decide), if_neg (by omega), if_neg (by omega)]
      · rw [f_X13_figures_34, if_neg (show ¬ nI 2 ≤ 0 by decide), m_here hk (show p + 1 < 1000 by omega), obS, m_digit, obS, if_pos a2, if_neg i10, if_neg (ixo hpl (by decide)), obS, qI_cl (show pl < 2147483648 by omega), st1, upd_upd, qI_succ, f_X13_figures_34, if_neg (show ¬ nI 2 ≤ 0 + 1 by decide), m_here hk (show p + 1 + 1 < 1000 by omega), obS, m_digit, obS]
        by_cases a4 : isdg k inp (p + 1 + 1) = true
        · have k2 := (isdg_iff.mp a4).1
          obtain ⟨d2, hd2, v2⟩ := isdg_val a4
          have st2 : ((10 : Int32) * upd told pl (inp (p + 1) - 48) pl + (if p + 1 + 1 < k then inp (p + 1 + 1) else -1)) - 48 = (inp (p + 1) - 48) * 10 + (inp (p + 1 + 1) - 48) := by
            rw [upd_same, if_pos k2, dg_sub v1, dg_sub v2, v2, show (10 : Int32) = nI 10 from rfl, qI_mul, qI_mul, qI_add, qI_add]
            exact (qI_sub (a := 10 * d1 + (48 + d2)) (b := 48) (by omega)).trans (congrArg nI (by omega))
          rw [if_pos a4, if_neg i10, if_neg (ixo hpl (by decide)), obS, qI_cl (show pl < 2147483648 by omega), st2, upd_upd, qI_succ, f_X13_figures_34, if_pos (show nI 2 ≤ 0 + 1 + 1 by decide), if_pos ⟨rfl, a4⟩, if_pos ⟨rfl, a4⟩]
        · rw [if_neg a4, if_pos rfl, if_neg (fun q => a4 q.2), if_neg (fun q => a4 q.2)]
    · rw [if_neg a2, if_pos rfl, if_neg a2, if_neg a2]
  · have a1' : atb k inp p 32 = false := Bool.eq_false_iff.mpr a1
    rw [if_neg a1, if_pos rfl, if_neg a1, a1', Bool.false_and, if_neg Bool.false_ne_true, if_neg Bool.false_ne_true]
theorem m_way {k : Nat} (hk : k ≤ 60) {inp : Nat → Int32} {p : Nat} (hp : p ≤ 100) (told : Nat → Int32) {pl : Nat} (hpl : pl < 124) : f_X13_wayHere inp (nI k) (nI p) told (nI pl) = some (if rpo k inp 99 p = true then 1 else 0, nI (rpp k inp 99 p), upd told pl (if p < k then inp p else -1)) := by
  have e1 : rpo k inp 99 p = isdr k inp p := if_pos rfl
  have e3 : rpp k inp 99 p = if isdr k inp p = true then p + 1 else p := if_pos rfl
  have hb1 : (¬ vp_nar .boolean (1 : Int32) = 1) = False := eq_false (fun q => q narB1)
  have hb0 : (¬ vp_nar .boolean (0 : Int32) = 0) = False := eq_false (fun q => q narB0)
  rw [e1, e3]
  unfold f_X13_wayHere
  have s1 := m_skips hk (inp := inp) (show p < 1000 by omega) (c := 110) (by decide)
  have s2 := m_skips hk (inp := inp) (show p < 1000 by omega) (c := 101) (by decide)
  have s3 := m_skips hk (inp := inp) (show p < 1000 by omega) (c := 115) (by decide)
  have s4 := m_skips hk (inp := inp) (show p < 1000 by omega) (c := 119) (by decide)
  rw [show nI 110 = 110 from rfl] at s1
  rw [show nI 101 = 101 from rfl] at s2
  rw [show nI 115 = 115 from rfl] at s3
  rw [show nI 119 = 119 from rfl] at s4
  unfold isdr
  rw [joE, joE, m_here hk (show p < 1000 by omega), obS, if_neg (ixo hpl (by decide)), qI_cl (show pl < 2147483648 by omega), s1, obS]
  by_cases a1 : atb k inp p 110 = true
  · simp only [a1, if_true, Bool.true_or, i10, if_false, hb1]
  · have a1' : atb k inp p 110 = false := Bool.eq_false_iff.mpr a1
    simp only [a1', Bool.false_or, Bool.false_eq_true, if_false, if_true]
    rw [s2, obS]
    by_cases a2 : atb k inp p 101 = true
    · simp only [a2, if_true, Bool.true_or, i10, if_false, hb1]
    · have a2' : atb k inp p 101 = false := Bool.eq_false_iff.mpr a2
      simp only [a2', Bool.false_or, Bool.false_eq_true, if_false, if_true]
      rw [s3, obS]
      by_cases a3 : atb k inp p 115 = true
      · simp only [a3, if_true, Bool.true_or, i10, if_false, hb1]
      · have a3' : atb k inp p 115 = false := Bool.eq_false_iff.mpr a3
        simp only [a3', Bool.false_or, Bool.false_eq_true, if_false, if_true]
        rw [s4, obS]
        by_cases a4 : atb k inp p 119 = true
        · simp only [a4, if_true, i10, if_false, hb1]
        · have a4' : atb k inp p 119 = false := Bool.eq_false_iff.mpr a4
          simp only [a4', Bool.false_eq_true, if_false, if_true, hb0]
