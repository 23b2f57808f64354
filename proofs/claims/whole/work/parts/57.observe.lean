/-! a day passes: class and model -/
/-- the forecasts as a list -/
def FL (d w : Nat → Int32) (l : List (Int32 × Int32)) : Prop := ∀ k, k < l.length → l[k]? = some (d k, w k)
def tS (f : Int32 × Int32 → Int32) : List (Int32 × Int32) → Int32
  | [] => 0
  | x :: l => f x + tS f l
theorem tS_app (f : Int32 × Int32 → Int32) : ∀ A B : List (Int32 × Int32), tS f (A ++ B) = tS f A + tS f B
  | [], B => (Int32.zero_add _).symm
  | x :: A, B => by rw [List.cons_append, tS, tS, tS_app f A B, Int32.add_assoc]
def fE (y o : Int32) (x : Int32 × Int32) : Int32 := if x.1 = y then dst x.2 o else 0
def fC (y : Int32) (x : Int32 × Int32) : Int32 := if x.1 = y then 1 else 0
def fH (y o : Int32) (x : Int32 × Int32) : Int32 := if x.1 = y then (if dst x.2 o = 0 then 1 else 0) else 0
def kp (y : Int32) (x : Int32 × Int32) : Bool := !decide (x.1 = y)
theorem kp_pos {y : Int32} {x : Int32 × Int32} (h : x.1 = y) : kp y x = false := by unfold kp; rw [decide_eq_true h]; rfl
theorem kp_neg {y : Int32} {x : Int32 × Int32} (h : ¬ x.1 = y) : kp y x = true := by unfold kp; rw [decide_eq_false h]; rfl
theorem FL_drop {d w : Nat → Int32} {A B : List (Int32 × Int32)} {x : Int32 × Int32} (h : FL d w (A ++ x :: B)) : FL (Dr d A.length (A.length + B.length + 1)) (Dr w A.length (A.length + B.length + 1)) (A ++ B) := by
  intro k hk
  rw [List.length_append] at hk
  unfold Dr
  by_cases hA : A.length ≤ k
  · have e := h (k + 1) (by rw [List.length_append, List.length_cons]; omega)
    rw [if_pos (by omega), if_pos (by omega), ← e, List.getElem?_append_right hA, List.getElem?_append_right (by omega), show k + 1 - A.length = (k - A.length) + 1 by omega, List.getElem?_cons_succ]
  · have e := h k (by rw [List.length_append, List.length_cons]; omega)
    rw [if_neg (by omega), if_neg (by omega), ← e, List.getElem?_append_left (by omega), List.getElem?_append_left (by omega)]
theorem FL_mid {d w : Nat → Int32} {A B : List (Int32 × Int32)} {x : Int32 × Int32} (h : FL d w (A ++ x :: B)) : d A.length = x.1 ∧ w A.length = x.2 := by
  have e := h A.length (by rw [List.length_append, List.length_cons]; omega)
  rw [List.getElem?_append_right (Nat.le_refl _), Nat.sub_self, List.getElem?_cons_zero] at e
  have e2 := Option.some.inj e
  rw [e2]
  exact ⟨rfl, rfl⟩
theorem s_dayAt {n j : Nat} (hn : n ≤ 6) (hj : j < n) (d : Nat → Int32) : f_X4_dayAt d (nI n) (nI j) = some (d j) := by
  unfold f_X4_dayAt
  rw [joE, s_has hn, if_neg (fun q => q.elim (qI_neg0 j (by omega)) (nle hj (by omega))), obS, if_neg i10, if_neg (ixo (show j < 6 by omega) (by decide)), qI_cl (show j < 2147483648 by omega)]
theorem s_weatherAt {n j : Nat} (hn : n ≤ 6) (hj : j < n) (d : Nat → Int32) : f_X4_weatherAt d (nI n) (nI j) = some (d j) := by
  unfold f_X4_weatherAt
  rw [joE, s_has hn, if_neg (fun q => q.elim (qI_neg0 j (by omega)) (nle hj (by omega))), obS, if_neg i10, if_neg (ixo (show j < 6 by omega) (by decide)), qI_cl (show j < 2147483648 by omega)]
theorem m_of0 {k : Nat} (hk : k < 6) (g : Nat → Int32) : f_X13_of g (nI k) 0 = some (g (48 + 2 * k)) := by
  unfold f_X13_of
  rw [show (48 : Int32) + 2 * nI k + 0 = nI (48 + 2 * k) by rw [Int32.add_zero, li48, li2, qI_mul, qI_add], if_neg (ixo (show 48 + 2 * k < 60 by omega) (by decide)), qI_cl (show 48 + 2 * k < 2147483648 by omega)]
theorem m_of1 {k : Nat} (hk : k < 6) (g : Nat → Int32) : f_X13_of g (nI k) 1 = some (g (49 + 2 * k)) := by
  unfold f_X13_of
  rw [show (48 : Int32) + 2 * nI k + 1 = nI (49 + 2 * k) by
    rw [li48, li2, qI_mul, qI_add, qI_succ]
    exact congrArg nI (by omega), if_neg (ixo (show 49 + 2 * k < 60 by omega) (by decide)), qI_cl (show 49 + 2 * k < 2147483648 by omega)]
theorem abs_dst : ∀ a, a < 4 → ∀ b, b < 4 → (if 0 ≤ nI a - nI b then nI a - nI b else 0 - (nI a - nI b)) = dst (nI a) (nI b) := by decide +kernel
theorem nIm1 (m : Nat) : nI (m + 1) + (-1) = nI m := by
  rw [← Int32.sub_eq_add_neg]
  exact (qI_sub (a := m + 1) (b := 1) (by omega)).trans (congrArg nI (by omega))
def SmallW (l : List (Int32 × Int32)) : Prop := ∀ x ∈ l, ∃ v, v < 4 ∧ x.2 = nI v
theorem s_score_go (y : Int32) {b : Nat} (hb : b < 4) (z : Int32 → (Nat → Int32) → (Nat → Int32) → Int32 → Int32 → Int32 → Option (Int32 × (Nat → Int32) × (Nat → Int32) × Int32 × Int32 × Int32 × Int32)) : ∀ (m f : Nat) (A B : List (Int32 × Int32)) (s : Int32) (d w : Nat → Int32) (sc h : Int32), A.length = m → m < f → (A ++ B).length ≤ 6 → FL d w (A ++ B) → SmallW A → ∃ d' w', f_X4_score_10 y (nI b) z f s (nI m + (-1)) d w (nI (A ++ B).length) sc h = z (s + tS (fE y (nI b)) A) d' w' (nI (A.filter (kp y) ++ B).length) (sc + tS (fC y) A) (h + tS (fH y (nI b)) A) ∧ FL d' w' (A.filter (kp y) ++ B)
  | _, 0, _, _, _, _, _, _, _, _, h, _, _, _ => by omega
  | 0, f + 1, A, B, s, d, w, sc, h, hA, _, _, hF, _ => by
    obtain rfl : A = [] := List.length_eq_zero_iff.mp hA
    refine ⟨d, w, ?_, hF⟩
    rw [f_X4_score_10, if_pos (show nI 0 + (-1) < 0 by decide)]
    simp only [tS, Int32.add_zero, List.filter_nil]
  | m + 1, f + 1, A, B, s, d, w, sc, h, hA, hf, hl, hF, hW => by
    rcases List.eq_nil_or_concat A with rfl | ⟨A', x, rfl⟩
    · exact absurd hA (by simp)
    · rw [List.concat_eq_append] at *
      have hm : A'.length = m := by
        rw [List.length_append] at hA
        simpa using hA
      rw [List.append_assoc, List.singleton_append] at hF hl ⊢
      have hl' : (A' ++ x :: B).length = m + B.length + 1 := by rw [List.length_append, List.length_cons, hm]; omega
      rw [hl'] at hl
      obtain ⟨hd, hw⟩ := FL_mid hF
      rw [hm] at hd hw
      have hW' : SmallW A' := fun q hq => hW q (List.mem_append_left _ hq)
      rw [f_X4_score_10, nIm1, if_neg (qI_neg0 m (by omega)), joE, hl', s_dayAt hl (by omega), obS, hd]
      by_cases e : x.1 = y
      · obtain ⟨v, hv, ev⟩ := hW x (List.mem_append_right _ List.mem_cons_self)
        have hrem := s_remove (n := m + B.length + 1) (a := m) hl (by omega) d w
        have hF' := FL_drop hF
        rw [hm] at hF'
        have hdr : A'.length + B.length = m + B.length := by rw [hm]
        have hlen : (A' ++ B).length = m + B.length := by rw [List.length_append, hm]
        have hfil : (A' ++ [x]).filter (kp y) = A'.filter (kp y) := by
          rw [List.filter_append, List.filter_cons_of_neg (by rw [kp_pos e]; exact Bool.false_ne_true), List.filter_nil, List.append_nil]
        rw [if_pos e, joE, s_weatherAt hl (by omega), obS, hw, ev, abs_dst v hv b hb, hfil, tS_app, tS_app, tS_app]
        have ih := fun s sc h => s_score_go y hb z m f A' B s _ _ sc h hm (by omega) (by rw [hlen]; omega) hF' hW'
        have e1 : fE y (nI b) x = dst (nI v) (nI b) := by unfold fE; rw [if_pos e, ev]
        have e2 : fC y x = 1 := if_pos e
        have e3 : fH y (nI b) x = if dst (nI v) (nI b) = 0 then 1 else 0 := by unfold fH; rw [if_pos e, ev]
        have fin : ∀ bit : Int32, (if dst (nI v) (nI b) = 0 then (1 : Int32) else 0) = bit → ∃ d' w', ((f_X4_remove d w (nI (m + B.length + 1)) (nI m)).bind fun r75 => f_X4_score_10 y (nI b) z f (s + dst (nI v) (nI b)) (nI m + (-1)) r75.1 r75.2.1 r75.2.2 (sc + 1) (h + bit)) = z (s + (tS (fE y (nI b)) A' + tS (fE y (nI b)) [x])) d' w' (nI (A'.filter (kp y) ++ B).length) (sc + (tS (fC y) A' + tS (fC y) [x])) (h + (tS (fH y (nI b)) A' + tS (fH y (nI b)) [x])) ∧ FL d' w' (A'.filter (kp y) ++ B) := by
          intro bit hbit
          obtain ⟨d', w', q1, q2⟩ := ih (s + dst (nI v) (nI b)) (sc + 1) (h + bit)
          refine ⟨d', w', ?_, q2⟩
          rw [hlen] at q1
          rw [hrem, obS]
          refine q1.trans ?_
          have c1 : s + dst (nI v) (nI b) + tS (fE y (nI b)) A' = s + (tS (fE y (nI b)) A' + tS (fE y (nI b)) [x]) := by
            rw [tS, tS, e1, Int32.add_zero, Int32.add_assoc, Int32.add_comm (dst _ _)]
          have c2 : sc + 1 + tS (fC y) A' = sc + (tS (fC y) A' + tS (fC y) [x]) := by
            rw [tS, tS, e2, Int32.add_zero, Int32.add_assoc, Int32.add_comm 1]
          have c3 : h + bit + tS (fH y (nI b)) A' = h + (tS (fH y (nI b)) A' + tS (fH y (nI b)) [x]) := by
            rw [tS, tS, e3, hbit, Int32.add_zero, Int32.add_assoc, Int32.add_comm bit]
          rw [c1, c2, c3]
        by_cases e0 : dst (nI v) (nI b) = 0
        · rw [if_pos e0]
          exact fin 1 (if_pos e0)
        · rw [if_neg e0]
          exact fin 0 (if_neg e0)
      · have hfil : (A' ++ [x]).filter (kp y) = A'.filter (kp y) ++ [x] := by
          rw [List.filter_append, List.filter_cons_of_pos (kp_neg e), List.filter_nil]
        have e1 : fE y (nI b) x = 0 := if_neg e
        have e2 : fC y x = 0 := if_neg e
        have e3 : fH y (nI b) x = 0 := if_neg e
        rw [if_neg e, hfil, tS_app, tS_app, tS_app]
        simp only [tS, e1, e2, e3, Int32.add_zero]
        obtain ⟨d', w', q1, q2⟩ := s_score_go y hb z m f A' (x :: B) s d w sc h hm (by omega) (by rw [hl']; exact hl) hF hW'
        rw [hl'] at q1
        rw [List.append_assoc, List.singleton_append]
        exact ⟨d', w', q1, q2⟩
/-- the model's row of forecasts as a list -/
def GL (g : Nat → Int32) (l : List (Int32 × Int32)) : Prop := g 3 = nI l.length ∧ ∀ k, k < l.length → l[k]? = some (g (48 + 2 * k), g (49 + 2 * k))
theorem GL_drop {g : Nat → Int32} {A B : List (Int32 × Int32)} {x : Int32 × Int32} (h : GL g (A ++ x :: B)) : GL (gDrop g (A.length + B.length + 1) A.length) (A ++ B) := by
  refine ⟨(gDrop_3 _ _ _).trans (congrArg nI (by rw [List.length_append]; omega)), fun k hk => ?_⟩
  rw [List.length_append] at hk
  rw [gDrop_hi (by omega) (by omega), gDrop_hi (by omega) (by omega)]
  by_cases hA : A.length ≤ k
  · have e := h.2 (k + 1) (by rw [List.length_append, List.length_cons]; omega)
    rw [if_pos (by omega), if_pos (by omega), show 48 + 2 * k + 2 = 48 + 2 * (k + 1) by omega, show 49 + 2 * k + 2 = 49 + 2 * (k + 1) by omega, ← e, List.getElem?_append_right hA, List.getElem?_append_right (by omega), show k + 1 - A.length = (k - A.length) + 1 by omega, List.getElem?_cons_succ]
  · have e := h.2 k (by rw [List.length_append, List.length_cons]; omega)
    rw [if_neg (by omega), if_neg (by omega), ← e, List.getElem?_append_left (by omega), List.getElem?_append_left (by omega)]
theorem GL_mid {g : Nat → Int32} {A B : List (Int32 × Int32)} {x : Int32 × Int32} (h : GL g (A ++ x :: B)) : g (48 + 2 * A.length) = x.1 ∧ g (49 + 2 * A.length) = x.2 := by
  have e := h.2 A.length (by rw [List.length_append, List.length_cons]; omega)
  rw [List.getElem?_append_right (Nat.le_refl _), Nat.sub_self, List.getElem?_cons_zero] at e
  have e2 := Option.some.inj e
  rw [e2]
  exact ⟨rfl, rfl⟩
theorem GL_cong {g g' : Nat → Int32} {l : List (Int32 × Int32)} (h : GL g l) (h3 : g' 3 = g 3) (hh : ∀ i, 48 ≤ i → g' i = g i) : GL g' l := by
  refine ⟨h3.trans h.1, fun k hk => ?_⟩
  rw [hh _ (by omega), hh _ (by omega)]
  exact h.2 k hk
theorem m_obs_go (o y : Int32) : ∀ (m f : Nat) (A B : List (Int32 × Int32)) (s : Int32) (g : Nat → Int32), B.length = m → m < f → (A ++ B).length ≤ 6 → GL g (A ++ B) → g 0 = y → ∃ g', (∀ z : Int32 → (Nat → Int32) → Option (Int32 × (Nat → Int32) × (Nat → Int32) × Int32 × Int32), f_X13_observe_85 o z f s (nI A.length) g = z (s + tS (fE y o) B) g') ∧ GL g' (A ++ B.filter (kp y)) ∧ g' 4 = g 4 + tS (fC y) B ∧ g' 6 = g 6 + tS (fH y o) B ∧ ∀ i, i < 48 → i ≠ 3 → i ≠ 4 → i ≠ 6 → g' i = g i
  | _, 0, _, _, _, _, _, h, _, _, _ => by omega
  | 0, f + 1, A, B, s, g, hB, _, _, hG, _ => by
    obtain rfl : B = [] := List.length_eq_zero_iff.mp hB
    rw [List.append_nil] at hG
    refine ⟨g, fun z => ?_, by rw [List.filter_nil, List.append_nil]; exact hG, by rw [tS, Int32.add_zero], by rw [tS, Int32.add_zero], fun _ _ _ _ _ => rfl⟩
    rw [f_X13_observe_85, show g (3 : Int32).toNatClampNeg = nI A.length from hG.1, if_pos (Int32.le_refl _), tS, Int32.add_zero]
  | m + 1, f + 1, A, B, s, g, hB, hf, hl, hG, hy => by
    cases B with
    | nil => exact absurd hB (by simp)
    | cons x B =>
      have hB' : B.length = m := by simpa using hB
      have hlen : (A ++ x :: B).length = A.length + B.length + 1 := by rw [List.length_append, List.length_cons]; omega
      rw [hlen] at hl
      obtain ⟨hd, hw⟩ := GL_mid hG
      have h3 : g 3 = nI (A.length + B.length + 1) := hG.1.trans (congrArg nI hlen)
      have hlt : ¬ nI (A.length + B.length + 1) ≤ nI A.length := nle (by omega) (by omega)
      by_cases e : x.1 = y
      · have e1 : fE y o x = dst x.2 o := if_pos e
        have e2 : fC y x = 1 := if_pos e
        have e3 : fH y o x = if dst x.2 o = 0 then 1 else 0 := if_pos e
        have hfil : (x :: B).filter (kp y) = B.filter (kp y) := List.filter_cons_of_neg (by rw [kp_pos e]; exact Bool.false_ne_true)
        have hi : ∀ i, i ≠ 4 → i ≠ 6 → upd (upd g 4 (g 4 + 1)) 6 (g 6 + fH y o x) i = g i := fun i a b => (upd_ne _ _ b).trans (upd_ne _ _ a)
        have q4 : upd (upd g 4 (g 4 + 1)) 6 (g 6 + fH y o x) 4 = g 4 + 1 := (upd_ne _ _ (by decide)).trans (upd_same _ _ _)
        have q6 : upd (upd g 4 (g 4 + 1)) 6 (g 6 + fH y o x) 6 = g 6 + fH y o x := upd_same _ _ _
        have fin : ∀ z : Int32 → (Nat → Int32) → Option (Int32 × (Nat → Int32) × (Nat → Int32) × Int32 × Int32), f_X13_observe_85 o z (f + 1) s (nI A.length) g = (f_X13_drops (upd (upd g 4 (g 4 + 1)) 6 (g 6 + fH y o x)) (nI A.length)).bind fun r163 => f_X13_observe_85 o z f (s + dst x.2 o) (nI A.length) r163 := by
          intro z
          rw [f_X13_observe_85, show g (3 : Int32).toNatClampNeg = _ from h3, if_neg hlt, m_of0 (by omega), obS, hd, show g (0 : Int32).toNatClampNeg = y from hy, if_pos e, joE, m_of1 (by omega), obS, hw, m_apart, obS, e3]
          by_cases e0 : dst x.2 o = 0
          · rw [if_pos e0, if_pos e0]
            refine (if_neg (show ¬ ((6 : Int32) < 0 ∨ 60 ≤ (6 : Int32).toNatClampNeg) by decide)).trans ?_
            show (f_X13_drops (upd (upd g 4 (g 4 + 1)) 6 (upd g 4 (g 4 + 1) 6 + 1)) (nI A.length)).bind _ = _
            rw [upd_ne g (g 4 + 1) (show 6 ≠ 4 by decide)]
          · rw [if_neg e0, if_neg e0]
            refine (if_neg (show ¬ ((6 : Int32) < 0 ∨ 60 ≤ (6 : Int32).toNatClampNeg) by decide)).trans ?_
            show (f_X13_drops (upd (upd g 4 (g 4 + 1)) 6 (upd g 4 (g 4 + 1) 6 + 0)) (nI A.length)).bind _ = _
            rw [upd_ne g (g 4 + 1) (show 6 ≠ 4 by decide)]
        generalize upd (upd g 4 (g 4 + 1)) 6 (g 6 + fH y o x) = g1 at hi q4 q6 fin
        have hG1 : GL g1 (A ++ x :: B) := GL_cong hG (hi 3 (by decide) (by decide)) (fun i hh => hi i (by omega) (by omega))
        have h31 : g1 3 = nI (A.length + B.length + 1) := (hi 3 (by decide) (by decide)).trans h3
        obtain ⟨g', r1, r2, r4, r6, r0⟩ := m_obs_go o y m f A B (s + dst x.2 o) (gDrop g1 (A.length + B.length + 1) A.length) hB' (by omega) (by rw [List.length_append]; omega) (GL_drop hG1) ((gDrop_lo (by decide) (by decide)).trans ((hi 0 (by decide) (by decide)).trans hy))
        refine ⟨g', fun z => ?_, by rw [hfil]; exact r2, ?_, ?_, fun i a b c d => ?_⟩
        · rw [fin, m_drops (n := A.length + B.length + 1) (a := A.length) hl (by omega) h31, obS, r1, tS, e1, Int32.add_assoc]
        · rw [r4, gDrop_lo (by decide) (by decide), q4, tS, e2, Int32.add_assoc]
        · rw [r6, gDrop_lo (by decide) (by decide), q6, tS, Int32.add_assoc]
        · rw [r0 i a b c d, gDrop_lo a b, hi i c d]
      · have hG2 : GL g ((A ++ [x]) ++ B) := by rw [List.append_assoc, List.singleton_append]; exact hG
        obtain ⟨g', r1, r2, r4, r6, r0⟩ := m_obs_go o y m f (A ++ [x]) B s g hB' (by omega) (by rw [List.append_assoc, List.singleton_append, hlen]; exact hl) hG2 hy
        have hAl : (A ++ [x]).length = A.length + 1 := by rw [List.length_append]; rfl
        rw [List.append_assoc, List.singleton_append] at r2
        refine ⟨g', fun z => ?_, by rw [List.filter_cons_of_pos (kp_neg e)]; exact r2, ?_, ?_, r0⟩
        · have r1z := r1 z
          rw [hAl] at r1z
          rw [f_X13_observe_85, show g (3 : Int32).toNatClampNeg = _ from h3, if_neg hlt, m_of0 (by omega), obS, hd, show g (0 : Int32).toNatClampNeg = y from hy, if_neg e, qI_succ, r1z, tS, show fE y o x = 0 from if_neg e, Int32.zero_add]
        · rw [r4, tS, show fC y x = 0 from if_neg e, Int32.zero_add]
        · rw [r6, tS, show fH y o x = 0 from if_neg e, Int32.zero_add]
