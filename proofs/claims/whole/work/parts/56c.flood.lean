/-! the class's flood -/
theorem ixn {k b : Nat} (hk : k < b) (hb : b ≤ 2147483648) : (nI k < 0 ∨ b ≤ k) = False := eq_false (by
  have h := ixo hk hb
  rwa [qI_cl (by omega)] at h)
theorem s_enter {L q : Nat → Int32} {n y : Nat} (hn : n < 25) (hy : y < 25) (v : Int32) : f_X9_enter L q (nI n) (nI y) v = some (upd L y v, upd q n (nI y), nI (n + 1)) := by
  unfold f_X9_enter
  rw [jo, if_neg (qI_neg0 y (by omega)), if_neg (show ¬ (25 : Int32) ≤ nI y from nle hy (by decide)), if_neg (qI_neg0 n (by omega)), if_neg (show ¬ (25 : Int32) ≤ nI n from nle hn (by decide)), if_neg (ixo hy (by decide)), if_neg (ixo hn (by decide)), qI_cl (show y < 2147483648 by omega), qI_cl (show n < 2147483648 by omega), qI_succ]
theorem s_regionOf {L : Nat → Int32} {y : Nat} (hy : y < 25) : f_X9_regionOf L (nI y) = some (L y) := by
  unfold f_X9_regionOf
  rw [jo, jo, if_neg (qI_neg0 y (by omega)), if_neg (show ¬ (25 : Int32) ≤ nI y from nle hy (by decide)), if_neg (ixo hy (by decide)), qI_cl (show y < 2147483648 by omega)]
theorem s_unr_go {L : Nat → Int32} (z : Int32 → Option Int32) : ∀ (m f : Nat) (u : Nat), m ≤ 25 → m < f → (∃ k, k < 25 ∧ L k = -1 ∧ (k < m ∨ u = k)) → ∃ w, w < 25 ∧ L w = -1 ∧ f_X9_firstUnreached_5 L z f (nI u) (nI m + (-1)) = z (nI w)
  | _, 0, _, _, h, _ => by omega
  | 0, f + 1, u, _, _, ⟨k, hk, hL, h⟩ => by
    have e : u = k := h.resolve_left (by omega)
    subst e
    refine ⟨u, hk, hL, ?_⟩
    rw [f_X9_firstUnreached_5, if_pos (show nI 0 + (-1) < 0 by decide)]
  | m + 1, f + 1, u, hm, hf, ⟨k, hk, hL, h⟩ => by
    have e1 : nI (m + 1) + (-1) = nI m := by
      rw [← Int32.sub_eq_add_neg]
      exact (qI_sub (a := m + 1) (b := 1) (by omega)).trans (congrArg nI (by omega))
    rw [f_X9_firstUnreached_5, e1, if_neg (qI_neg0 m (by omega)), jo, if_neg (ixo (show m < 25 by omega) (by decide)), qI_cl (show m < 2147483648 by omega)]
    by_cases e : L m = -1
    · rw [if_pos e]
      exact s_unr_go z m f m (by omega) (by omega) ⟨m, by omega, e, Or.inr rfl⟩
    · rw [if_neg e]
      refine s_unr_go z m f u (by omega) (by omega) ⟨k, hk, hL, h.imp (fun q => ?_) id⟩
      have : k ≠ m := fun w => e (w ▸ hL)
      omega
theorem s_unr {L : Nat → Int32} (h : ∃ k, k < 25 ∧ L k = -1) : ∃ w, w < 25 ∧ L w = -1 ∧ f_X9_firstUnreached L = some (nI w) := by
  obtain ⟨k, hk, e⟩ := h
  unfold f_X9_firstUnreached
  exact s_unr_go (fun l => some l) 25 1000 0 (by decide) (by decide) ⟨k, hk, e, Or.inl hk⟩
theorem s_step_out {c L q : Nat → Int32} {t n x a b : Int32} (h : a < 0 ∨ 5 ≤ a ∨ b < 0 ∨ 5 ≤ b) : f_X9_step L q n c t x a b = some (L, q, n) := by
  unfold f_X9_step
  rw [s_isCell, if_pos h, Option.bind_some, if_pos rfl]
theorem s_step_in {c L q : Nat → Int32} (hc : Rng c) {t : Int32} {n x r w : Nat} (hx : x < 25) (hr : r < 5) (hw : w < 5) (hn : L (r * 5 + w) = -1 → n < 25) : f_X9_step L q (nI n) c t (nI x) (nI r) (nI w) = some (if L (r * 5 + w) = -1 ∧ frt c t x (r * 5 + w) = 0 then (upd L (r * 5 + w) (L x), upd q n (nI (r * 5 + w)), nI (n + 1)) else (L, q, nI n)) := by
  have hy : r * 5 + w < 25 := by omega
  unfold f_X9_step
  rw [s_isCell, if_neg (ne5 hr hw), Option.bind_some, if_neg i10, jo, s_cellOf, Option.bind_some, s_regionOf hy, Option.bind_some]
  by_cases e : L (r * 5 + w) = -1
  · rw [if_pos e, s_hasFront hc t hx hy, Option.bind_some]
    by_cases e2 : frt c t x (r * 5 + w) = 0
    · rw [if_pos e2, if_pos ⟨e, e2⟩, s_regionOf hx, Option.bind_some, s_enter (hn e) hy, Option.bind_some]
    · rw [if_neg e2, if_neg (fun q => e2 q.2)]
  · rw [if_neg e, if_neg (fun q => e q.1)]
/-- the flood's state: n cells in the queue, those before place nx are done, k regions begun -/
def JF (c : Nat → Int32) (t : Int32) (ρ L q : Nat → Int32) (n nx k : Nat) : Prop :=
  nx ≤ n ∧ n = cntP (fun y => L y ≠ -1) 25 ∧
  (∀ i, i < n → ∃ y, y < 25 ∧ q i = nI y ∧ L y ≠ -1) ∧
  (∀ y, y < 25 → L y ≠ -1 → ∃ i, i < n ∧ q i = nI y) ∧
  (∀ y, y < 25 → L y ≠ -1 → ∃ l, l < k ∧ L y = nI l) ∧
  (∀ i, nx ≤ i → i < n → ∀ y, y < 25 → q i = nI y → L y = nI (k - 1)) ∧
  (∀ i, i < nx → ∀ y, y < 25 → q i = nI y → ∀ z, edg c t y z → L z = L y) ∧
  (∀ x, x < 25 → ∀ y, y < 25 → L x ≠ -1 → L x = L y → ρ x = ρ y) ∧
  k = cntP (fun v => ρ v = nI v ∧ ∃ x, x < 25 ∧ L x ≠ -1 ∧ ρ x = ρ v) 25
theorem JF_n {c : Nat → Int32} {t : Int32} {ρ L q : Nat → Int32} {n nx k : Nat} (h : JF c t ρ L q n nx k) : n ≤ 25 := h.2.1 ▸ cntP_le _ 25
theorem JF_room {c : Nat → Int32} {t : Int32} {ρ L q : Nat → Int32} {n nx k y : Nat} (h : JF c t ρ L q n nx k) (hy : y < 25) (e : L y = -1) : n < 25 := by
  have h1 := JF_n h
  by_cases e2 : n = 25
  · exact absurd e (cntP_full (p := fun y => L y ≠ -1) (h.2.1 ▸ e2) y hy)
  · omega
theorem m1n (l : Nat) (hl : l < 2147483648) : nI l ≠ -1 := fun e => by
  have h := qI_neg0 l hl
  rw [e] at h
  exact h (by decide)
theorem JF_k {c : Nat → Int32} {t : Int32} {ρ L q : Nat → Int32} {n nx k : Nat} (h : JF c t ρ L q n nx k) : k ≤ 25 := h.2.2.2.2.2.2.2.2 ▸ cntP_le _ 25
/-- a neighbour enters -/
theorem JF_enter {c : Nat → Int32} {t : Int32} {ρ L q : Nat → Int32} {n nx k x y : Nat} (h : JF c t ρ L q n nx k) (hE : ∀ y z, edg c t y z → ρ y = ρ z) (hx : x < 25) (hnx : nx < n) (hq : q nx = nI x) (hy : y < 25) (e : L y = -1) (hed : edg c t x y) : JF c t ρ (upd L y (L x)) (upd q n (nI y)) (n + 1) nx k := by
  obtain ⟨j1, j2, j3, j4, j5, j6, j7, j8, j9⟩ := h
  have hLx : L x = nI (k - 1) := j6 nx (Nat.le_refl _) hnx x hx hq
  have hk25 : k ≤ 25 := j9 ▸ cntP_le _ 25
  have hLx1 : L x ≠ -1 := by rw [hLx]; exact m1n _ (by omega)
  obtain ⟨lx, hlx, -⟩ := j5 x hx hLx1
  have hU : ∀ w, w ≠ y → upd L y (L x) w = L w := fun w hw => upd_ne _ _ hw
  have hUy : upd L y (L x) y = L x := upd_same _ _ _
  have hne : ∀ w, L w ≠ -1 → w ≠ y := fun w hw q => hw (q ▸ e)
  have hlab : ∀ w, w < 25 → (upd L y (L x) w ≠ -1 ↔ L w ≠ -1 ∨ w = y) := fun w _ => by
    by_cases q : w = y
    · subst q
      rw [hUy]
      exact ⟨fun _ => Or.inr rfl, fun _ => hLx1⟩
    · rw [hU w q]
      exact ⟨Or.inl, fun a => a.resolve_right q⟩
  have hqo : ∀ i, i < n → upd q n (nI y) i = q i := fun i hi => upd_ne _ _ (by omega)
  refine ⟨by omega, ?_, fun i hi => ?_, fun w hw hw1 => ?_, fun w hw hw1 => ?_, fun i h1 h2 w hw hw1 => ?_, fun i hi w hw hw1 z hz => ?_, fun a ha b hb h1 h2 => ?_, ?_⟩
  · rw [j2]
    exact (cntP_add (p := fun y => L y ≠ -1) (v := y) (fun q => q e) hy (fun w hw => hlab w hw)).symm
  · by_cases hi2 : i = n
    · subst hi2
      exact ⟨y, hy, upd_same _ _ _, by rw [hUy]; exact hLx1⟩
    · obtain ⟨w, a1, a2, a3⟩ := j3 i (by omega)
      exact ⟨w, a1, (hqo i (by omega)).trans a2, (hlab w a1).mpr (Or.inl a3)⟩
  · rcases (hlab w hw).mp hw1 with a | a
    · obtain ⟨i, b1, b2⟩ := j4 w hw a
      exact ⟨i, by omega, (hqo i b1).trans b2⟩
    · subst a
      exact ⟨n, by omega, upd_same _ _ _⟩
  · rcases (hlab w hw).mp hw1 with a | a
    · rw [hU w (hne w a)]; exact j5 w hw a
    · subst a
      rw [hUy]; exact j5 x hx hLx1
  · by_cases hi2 : i = n
    · subst hi2
      rw [upd_same, qI_eq (by omega) (by omega)] at hw1
      subst hw1
      rw [hUy]; exact hLx
    · have hi3 : i < n := by omega
      rw [hqo i hi3] at hw1
      have a := j6 i h1 hi3 w hw hw1
      rw [hU w (hne w (by rw [a]; exact m1n _ (by omega)))]
      exact a
  · have hi3 : i < n := by omega
    rw [hqo i hi3] at hw1
    obtain ⟨w', a1, a2, a3⟩ := j3 i hi3
    have hww : w' = w := by
      have := a2.symm.trans hw1
      rwa [qI_eq (by omega) (by omega)] at this
    subst hww
    have b := j7 i hi w' hw hw1 z hz
    rw [hU w' (hne w' a3), hU z (hne z (by rw [b]; exact a3))]
    exact b
  · rcases (hlab a ha).mp h1 with p | p
    · rw [hU a (hne a p)] at h2
      by_cases q : b = y
      · subst q
        rw [hUy] at h2
        exact (j8 a ha x hx p h2).trans (hE x b hed)
      · rw [hU b q] at h2
        exact j8 a ha b hb p h2
    · subst p
      rw [hUy] at h2
      by_cases q : b = a
      · rw [q]
      · rw [hU b q] at h2
        exact (hE x a hed).symm.trans (j8 x hx b hb hLx1 h2)
  · refine j9.trans (cntP_congr (fun v _ => and_congr_right (fun _ => ⟨?_, ?_⟩)))
    · rintro ⟨w, a1, a2, a3⟩
      exact ⟨w, a1, (hlab w a1).mpr (Or.inl a2), a3⟩
    · rintro ⟨w, a1, a2, a3⟩
      rcases (hlab w a1).mp a2 with p | p
      · exact ⟨w, a1, p, a3⟩
      · subst p
        exact ⟨x, hx, hLx1, (hE x w hed).trans a3⟩
/-- a region begins -/
theorem JF_new {c : Nat → Int32} {t : Int32} {ρ L q : Nat → Int32} {n k y : Nat} (h : JF c t ρ L q n n k) (hI : IM c t ρ) (hy : y < 25) (e : L y = -1) : JF c t ρ (upd L y (nI k)) (upd q n (nI y)) (n + 1) n (k + 1) := by
  have hk25 := JF_k h
  have hn25 := JF_n h
  obtain ⟨j1, j2, j3, j4, j5, j6, j7, j8, j9⟩ := h
  have hk1 : nI k ≠ -1 := m1n _ (by omega)
  have hU : ∀ w, w ≠ y → upd L y (nI k) w = L w := fun w hw => upd_ne _ _ hw
  have hUy : upd L y (nI k) y = nI k := upd_same _ _ _
  have hne : ∀ w, L w ≠ -1 → w ≠ y := fun w hw q => hw (q ▸ e)
  have hlab : ∀ w, w < 25 → (upd L y (nI k) w ≠ -1 ↔ L w ≠ -1 ∨ w = y) := fun w _ => by
    by_cases q : w = y
    · subst q
      rw [hUy]
      exact ⟨fun _ => Or.inr rfl, fun _ => hk1⟩
    · rw [hU w q]
      exact ⟨Or.inl, fun a => a.resolve_right q⟩
  have hqo : ∀ i, i < n → upd q n (nI y) i = q i := fun i hi => upd_ne _ _ (by omega)
  have hcl : ∀ a b, edg c t a b → (L a ≠ -1 → L b ≠ -1) := fun a b hab ha => by
    obtain ⟨i, b1, b2⟩ := j4 a hab.1 ha
    rw [j7 i b1 a hab.1 b2 b hab]
    exact ha
  have hun : ∀ w, w < 25 → ρ w = ρ y → L w = -1 := fun w hw hr => Classical.byContradiction fun q =>
    ((hI.2 (fun a => L a ≠ -1) (fun a b hab => ⟨hcl a b hab, hcl b a (edg_symm hab)⟩) w hw y hy hr).mp q) e
  have hold : ∀ w, w < 25 → L w ≠ -1 → L w ≠ nI k := fun w hw hw1 q => by
    obtain ⟨l, hl, el⟩ := j5 w hw hw1
    rw [q, qI_eq (by omega) (by omega)] at el
    omega
  obtain ⟨v0, hv0, ev, fv⟩ := hI.1 y hy
  refine ⟨by omega, ?_, fun i hi => ?_, fun w hw hw1 => ?_, fun w hw hw1 => ?_, fun i h1 h2 w hw hw1 => ?_, fun i hi w hw hw1 z hz => ?_, fun a ha b hb h1 h2 => ?_, ?_⟩
  · rw [j2]
    exact (cntP_add (p := fun y => L y ≠ -1) (v := y) (fun q => q e) hy (fun w hw => hlab w hw)).symm
  · by_cases hi2 : i = n
    · subst hi2
      exact ⟨y, hy, upd_same _ _ _, by rw [hUy]; exact hk1⟩
    · obtain ⟨w, a1, a2, a3⟩ := j3 i (by omega)
      exact ⟨w, a1, (hqo i (by omega)).trans a2, (hlab w a1).mpr (Or.inl a3)⟩
  · rcases (hlab w hw).mp hw1 with a | a
    · obtain ⟨i, b1, b2⟩ := j4 w hw a
      exact ⟨i, by omega, (hqo i b1).trans b2⟩
    · subst a
      exact ⟨n, by omega, upd_same _ _ _⟩
  · rcases (hlab w hw).mp hw1 with a | a
    · rw [hU w (hne w a)]
      obtain ⟨l, hl, el⟩ := j5 w hw a
      exact ⟨l, by omega, el⟩
    · subst a
      exact ⟨k, by omega, hUy⟩
  · obtain rfl : i = n := by omega
    rw [upd_same, qI_eq (by omega) (by omega)] at hw1
    subst hw1
    rw [hUy]
    exact congrArg nI (by omega)
  · rw [hqo i hi] at hw1
    obtain ⟨w', a1, a2, a3⟩ := j3 i hi
    have hww : w' = w := by
      have := a2.symm.trans hw1
      rwa [qI_eq (by omega) (by omega)] at this
    subst hww
    have b := j7 i hi w' hw hw1 z hz
    rw [hU w' (hne w' a3), hU z (hne z (by rw [b]; exact a3))]
    exact b
  · rcases (hlab a ha).mp h1 with p | p
    · rw [hU a (hne a p)] at h2
      by_cases q : b = y
      · subst q
        rw [hUy] at h2
        exact absurd h2 (hold a ha p)
      · rw [hU b q] at h2
        exact j8 a ha b hb p h2
    · subst p
      rw [hUy] at h2
      by_cases q : b = a
      · rw [q]
      · rw [hU b q] at h2
        exact absurd h2.symm (hold b hb (by rw [← h2]; exact hk1))
  · refine (congrArg (· + 1) j9).trans (cntP_add (v := v0) ?_ hv0 (fun v hv => ?_)).symm
    · rintro ⟨-, w, a1, a2, a3⟩
      exact a2 (hun w a1 (a3.trans (fv.trans ev.symm)))
    · constructor
      · rintro ⟨b1, w, a1, a2, a3⟩
        rcases (hlab w a1).mp a2 with p | p
        · exact Or.inl ⟨b1, w, a1, p, a3⟩
        · subst p
          refine Or.inr ?_
          have : nI v = nI v0 := b1.symm.trans (a3.symm.trans ev)
          rwa [qI_eq (by omega) (by omega)] at this
      · rintro (⟨b1, w, a1, a2, a3⟩ | p)
        · exact ⟨b1, w, a1, (hlab w a1).mpr (Or.inl a2), a3⟩
        · subst p
          exact ⟨fv, y, hy, (hlab y hy).mpr (Or.inr rfl), ev.trans fv.symm⟩
/-- a step to one side -/
theorem step_J {c : Nat → Int32} (hc : Rng c) {t : Int32} {ρ L q : Nat → Int32} {n nx k x : Nat} (hE : ∀ y z, edg c t y z → ρ y = ρ z) (hx : x < 25) (a b : Int32) (hnb : ∀ r w, r < 5 → w < 5 → a = nI r → b = nI w → nb x (r * 5 + w)) (h : JF c t ρ L q n nx k) (hnx : nx < n) (hq : q nx = nI x) :
    ∃ L' q' n', f_X9_step L q (nI n) c t (nI x) a b = some (L', q', nI n') ∧ JF c t ρ L' q' n' nx k ∧ nx < n' ∧ q' nx = nI x ∧ (∀ w, L w ≠ -1 → L' w = L w) ∧ (∀ r w, r < 5 → w < 5 → a = nI r → b = nI w → edg c t x (r * 5 + w) → L' (r * 5 + w) = L' x) := by
  rcases cell_cases a b with ho | ⟨ho, r, w, hr, hw, rfl, rfl⟩
  · refine ⟨L, q, n, s_step_out ho, h, hnx, hq, fun _ _ => rfl, fun r w hr hw e1 e2 => ?_⟩
    rw [e1, e2] at ho
    exact absurd ho (ne5 hr hw)
  · have hy : r * 5 + w < 25 := by omega
    have same : ∀ r' w', r' < 5 → w' < 5 → nI r = nI r' → nI w = nI w' → r' * 5 + w' = r * 5 + w := fun r' w' h1 h2 e1 e2 => by
      rw [qI_eq (by omega) (by omega)] at e1 e2
      rw [e1, e2]
    have hst := s_step_in (L := L) (q := q) hc (t := t) (n := n) hx hr hw (fun e => JF_room h hy e)
    have hLx : L x ≠ -1 := by
      rw [h.2.2.2.2.2.1 nx (Nat.le_refl _) hnx x hx hq]
      have := JF_k h
      exact m1n _ (by omega)
    by_cases e : L (r * 5 + w) = -1 ∧ frt c t x (r * 5 + w) = 0
    · rw [if_pos e] at hst
      have hed : edg c t x (r * 5 + w) := ⟨hx, hy, hnb r w hr hw rfl rfl, e.2⟩
      refine ⟨_, _, n + 1, hst, JF_enter h hE hx hnx hq hy e.1 hed, by omega, (upd_ne _ _ (by omega)).trans hq, fun v hv => upd_ne _ _ (fun q => hv (q ▸ e.1)), fun r' w' h1 h2 e1 e2 _ => ?_⟩
      rw [same r' w' h1 h2 e1 e2, upd_same, upd_ne _ _ (fun q => hLx (by rw [q]; exact e.1))]
    · rw [if_neg e] at hst
      refine ⟨L, q, n, hst, h, hnx, hq, fun _ _ => rfl, fun r' w' h1 h2 e1 e2 hed => ?_⟩
      rw [same r' w' h1 h2 e1 e2] at hed ⊢
      have hl : L (r * 5 + w) ≠ -1 := fun q => e ⟨q, hed.2.2.2⟩
      obtain ⟨i, b1, b2⟩ := h.2.2.2.1 _ hy hl
      by_cases hi : i < nx
      · exact (h.2.2.2.2.2.2.1 i hi _ hy b2 x (edg_symm hed)).symm
      · rw [h.2.2.2.2.2.1 i (by omega) b1 _ hy b2, h.2.2.2.2.2.1 nx (Nat.le_refl _) hnx x hx hq]
theorem nI_m1 {m r : Nat} (hm : m < 100) (hr : r < 100) (h : nI m - 1 = nI r) : m = r + 1 := by
  by_cases e : m = 0
  · subst e
    have h2 := qI_neg0 r (by omega)
    rw [← h] at h2
    exact absurd (by decide : nI 0 - 1 < 0) h2
  · rw [show nI m - 1 = nI (m - 1) from qI_sub (a := m) (b := 1) (by omega), qI_eq (by omega) (by omega)] at h
    omega
/-- one cell of the queue -/
theorem cell_J {c : Nat → Int32} (hc : Rng c) {t : Int32} {ρ L q : Nat → Int32} {n nx k x : Nat} (hE : ∀ y z, edg c t y z → ρ y = ρ z) (hx : x < 25) (h : JF c t ρ L q n nx k) (hnx : nx < n) (hq : q nx = nI x) (Z : (Nat → Int32) → (Nat → Int32) → Int32 → Option (Int32 × (Nat → Int32) × (Nat → Int32) × Int32)) :
    ∃ L' q' n', ((f_X9_step L q (nI n) c t (nI x) (nI x / 5 - 1) (nI x - nI x / 5 * 5)).bind fun r86 => (f_X9_step r86.1 r86.2.1 r86.2.2 c t (nI x) (nI x / 5 + 1) (nI x - nI x / 5 * 5)).bind fun r99 => (f_X9_step r99.1 r99.2.1 r99.2.2 c t (nI x) (nI x / 5) ((nI x - nI x / 5 * 5) - 1)).bind fun r112 => (f_X9_step r112.1 r112.2.1 r112.2.2 c t (nI x) (nI x / 5) ((nI x - nI x / 5 * 5) + 1)).bind fun r125 => Z r125.1 r125.2.1 r125.2.2) = Z L' q' (nI n') ∧ JF c t ρ L' q' n' (nx + 1) k := by
  rw [qm5 hx, show nI x / 5 = nI (x / 5) from qI_div (b := 5) (by omega) (by decide)]
  obtain ⟨L1, q1, n1, e1, J1, x1, y1, m1, k1⟩ := step_J hc hE hx (nI (x / 5) - 1) (nI (x % 5)) (fun r w hr hw a b => by
    have a' := nI_m1 (by omega) (by omega) a
    rw [qI_eq (by omega) (by omega)] at b
    exact Or.inr (Or.inr (Or.inr (by omega)))) h hnx hq
  obtain ⟨L2, q2, n2, e2, J2, x2, y2, m2, k2⟩ := step_J hc hE hx (nI (x / 5) + 1) (nI (x % 5)) (fun r w hr hw a b => by
    rw [qI_succ, qI_eq (by omega) (by omega)] at a
    rw [qI_eq (by omega) (by omega)] at b
    exact Or.inr (Or.inr (Or.inl (by omega)))) J1 x1 y1
  obtain ⟨L3, q3, n3, e3, J3, x3, y3, m3, k3⟩ := step_J hc hE hx (nI (x / 5)) (nI (x % 5) - 1) (fun r w hr hw a b => by
    have b' := nI_m1 (by omega) (by omega) b
    rw [qI_eq (by omega) (by omega)] at a
    exact Or.inr (Or.inl (by omega))) J2 x2 y2
  obtain ⟨L4, q4, n4, e4, J4, x4, y4, m4, k4⟩ := step_J hc hE hx (nI (x / 5)) (nI (x % 5) + 1) (fun r w hr hw a b => by
    rw [qI_succ, qI_eq (by omega) (by omega)] at b
    rw [qI_eq (by omega) (by omega)] at a
    exact Or.inl (by omega)) J3 x3 y3
  refine ⟨L4, q4, n4, ?_, ?_⟩
  · rw [e1, Option.bind_some]
    simp only [e2, Option.bind_some, e3, e4]
  · have lab : ∀ {L : Nat → Int32} {q : Nat → Int32} {n : Nat}, JF c t ρ L q n nx k → nx < n → q nx = nI x → L x ≠ -1 := fun J a b => by
      rw [J.2.2.2.2.2.1 nx (Nat.le_refl _) a x hx b]
      have := JF_k J
      exact m1n _ (by omega)
    have hl1 := lab J1 x1 y1
    have hl2 := lab J2 x2 y2
    have hl3 := lab J3 x3 y3
    have t1 : ∀ z, L1 z = L1 x → L4 z = L4 x := fun z e => by
      have a : L1 z ≠ -1 := e ▸ hl1
      have b2 := m2 z a
      have b3 := m3 z (by rw [b2]; exact a)
      have c2 := m2 x hl1
      have c3 := m3 x hl2
      rw [m4 z (by rw [b3, b2]; exact a), m4 x hl3, b3, b2, c3, c2, e]
    have t2 : ∀ z, L2 z = L2 x → L4 z = L4 x := fun z e => by
      have a : L2 z ≠ -1 := e ▸ hl2
      have b3 := m3 z a
      rw [m4 z (by rw [b3]; exact a), m4 x hl3, b3, m3 x hl2, e]
    have t3 : ∀ z, L3 z = L3 x → L4 z = L4 x := fun z e => by
      rw [m4 z (e ▸ hl3), m4 x hl3, e]
    obtain ⟨j1, j2, j3, j4, j5, j6, j7, j8, j9⟩ := J4
    refine ⟨by omega, j2, j3, j4, j5, fun i a b => j6 i (by omega) b, fun i hi y hy hyq z hz => ?_, j8, j9⟩
    by_cases hi2 : i < nx
    · exact j7 i hi2 y hy hyq z hz
    · obtain rfl : i = nx := by omega
      have hxy : x = y := by
        have := y4.symm.trans hyq
        rwa [qI_eq (by omega) (by omega)] at this
      subst hxy
      have hz25 := hz.2.1
      rcases hz.2.2.1 with ⟨w, w4⟩ | ⟨w, w4⟩ | w | w
      · have e : z = x / 5 * 5 + (x % 5 + 1) := by omega
        rw [e] at hz ⊢
        exact k4 (x / 5) (x % 5 + 1) (by omega) (by omega) rfl (qI_succ _) hz
      · have e : z = x / 5 * 5 + (x % 5 - 1) := by omega
        rw [e] at hz ⊢
        exact t3 _ (k3 (x / 5) (x % 5 - 1) (by omega) (by omega) rfl (qI_sub (a := x % 5) (b := 1) (by omega)) hz)
      · have e : z = (x / 5 + 1) * 5 + x % 5 := by omega
        rw [e] at hz ⊢
        exact t2 _ (k2 (x / 5 + 1) (x % 5) (by omega) (by omega) (qI_succ _) rfl hz)
      · have e : z = (x / 5 - 1) * 5 + x % 5 := by omega
        rw [e] at hz ⊢
        exact t1 _ (k1 (x / 5 - 1) (x % 5) (by omega) (by omega) (qI_sub (a := x / 5) (b := 1) (by omega)) rfl hz)
theorem flood_go {c : Nat → Int32} (hc : Rng c) {t : Int32} {ρ : Nat → Int32} (hI : IM c t ρ) (hE : ∀ y z, edg c t y z → ρ y = ρ z) (z : Int32 → (Nat → Int32) → (Nat → Int32) → Int32 → Option (Int32 × (Nat → Int32) × (Nat → Int32) × Int32)) : ∀ (d nx f : Nat) (L q : Nat → Int32) (n k : Nat), nx + d = 25 → d < f → JF c t ρ L q n nx k → ∃ L' q' k', f_X9_flood_30 c t z f (nI k) (nI nx) L q (nI n) = z (nI k') L' q' (nI 25) ∧ JF c t ρ L' q' 25 25 k'
  | _, _, 0, _, _, _, _, _, h, _ => by omega
  | 0, nx, f + 1, L, q, n, k, hd, _, h => by
    obtain rfl : nx = 25 := by omega
    have h1 := JF_n h
    have h2 := h.1
    obtain rfl : n = 25 := by omega
    refine ⟨L, q, k, ?_, h⟩
    rw [f_X9_flood_30, if_pos (show (25 : Int32) ≤ nI 25 from Int32.le_refl _)]
  | d + 1, nx, f + 1, L, q, n, k, hd, hf, h => by
    have hx25 : nx < 25 := by omega
    have hn := JF_n h
    have hk := JF_k h
    have body : ∀ (L q : Nat → Int32) (n k : Nat), JF c t ρ L q n nx k → nx < n → ∃ L' q' k', ((f_X9_step L q (nI n) c t (q nx) (q nx / 5 - 1) (q nx - q nx / 5 * 5)).bind fun r86 => (f_X9_step r86.1 r86.2.1 r86.2.2 c t (q nx) (q nx / 5 + 1) (q nx - q nx / 5 * 5)).bind fun r99 => (f_X9_step r99.1 r99.2.1 r99.2.2 c t (q nx) (q nx / 5) ((q nx - q nx / 5 * 5) - 1)).bind fun r112 => (f_X9_step r112.1 r112.2.1 r112.2.2 c t (q nx) (q nx / 5) ((q nx - q nx / 5 * 5) + 1)).bind fun r125 => f_X9_flood_30 c t z f (nI k) (nI nx + 1) r125.1 r125.2.1 r125.2.2) = z (nI k') L' q' (nI 25) ∧ JF c t ρ L' q' 25 25 k' := by
      intro L q n k J hnx
      obtain ⟨x, hx, hq, -⟩ := J.2.2.1 nx hnx
      rw [hq]
      obtain ⟨L', q', n', e, J'⟩ := cell_J hc hE hx J hnx hq (fun a b m => f_X9_flood_30 c t z f (nI k) (nI nx + 1) a b m)
      rw [e, qI_succ]
      exact flood_go hc hI hE z d (nx + 1) f L' q' n' k (by omega) (by omega) J'
    rw [f_X9_flood_30, if_neg (show ¬ (25 : Int32) ≤ nI nx from nle hx25 (by decide)), jo]
    simp only [qI_cl (show nx < 2147483648 by omega), ixn hx25 (show 25 ≤ 2147483648 by decide), if_false]
    by_cases e : nx = n
    · subst e
      have hex : ∃ y, y < 25 ∧ L y = -1 := by
        obtain ⟨y, hy, hy2⟩ := cntP_ex (p := fun y => L y ≠ -1) (n := 25) (h.2.1 ▸ hx25)
        exact ⟨y, hy, Classical.byContradiction fun q => hy2 q⟩
      obtain ⟨w, hw, hw1, ew⟩ := s_unr hex
      rw [if_pos rfl, ew, Option.bind_some, s_enter hx25 hw, Option.bind_some, qI_succ k]
      exact body _ _ _ _ (JF_new h hI hw hw1) (by omega)
    · rw [if_neg (show ¬ nI nx = nI n by rw [qI_eq (by omega) (by omega)]; exact e)]
      exact body _ _ _ _ h (by have := h.1; omega)
theorem f2_step (r0 : Nat → Int32) (k : Nat) : upd (fun j => if j < k then -1 else r0 j) k (-1) = fun j => if j < k + 1 then -1 else r0 j := by
  funext j
  by_cases hj : j = k
  · subst hj; rw [upd_same, if_pos (by omega)]
  · rw [upd_ne _ _ hj]
    by_cases h2 : j < k
    · rw [if_pos h2, if_pos (by omega)]
    · rw [if_neg h2, if_neg (by omega)]
theorem f2_go (r0 : Nat → Int32) (z : (Nat → Int32) → Option (Int32 × (Nat → Int32) × (Nat → Int32) × Int32)) : ∀ (d k n : Nat), k + d = 25 → d < n → f_X9_flood_2 z n (nI k) (fun j => if j < k then -1 else r0 j) = z (fun j => if j < 25 then -1 else r0 j)
  | _, _, 0, _, h => by omega
  | 0, k, n + 1, hk, _ => by
    obtain rfl : k = 25 := by omega
    rw [f_X9_flood_2, if_pos (show (25 : Int32) ≤ nI 25 from Int32.le_refl _)]
  | d + 1, k, n + 1, hk, hn => by
    rw [f_X9_flood_2, if_neg (show ¬ (25 : Int32) ≤ nI k from nle (show k < 25 by omega) (by decide)), if_neg (ixo (show k < 25 by omega) (by decide)), qI_cl (show k < 2147483648 by omega), qI_succ, f2_step]
    exact f2_go r0 z d (k + 1) n (by omega) (by omega)
theorem s_flood {c : Nat → Int32} (hc : Rng c) (t : Int32) (L q r0 : Nat → Int32) (n : Int32) : ∃ L' q', f_X9_flood L q n c t = some (nI (cntP (fun v => prt c t r0 v = nI v) 25), L', q', nI 25) ∧ ∀ x, x < 25 → ∀ y, y < 25 → (L' x = L' y ↔ prt c t r0 x = prt c t r0 y) := by
  obtain ⟨hI, hEJ, -⟩ := prt_ok c t r0 r0
  have hE : ∀ y z, edg c t y z → prt c t r0 y = prt c t r0 z := fun y z e => prt_edg hEJ e
  have h0 : ∀ y, y < 25 → (fun j => if j < 25 then -1 else L j : Nat → Int32) y = -1 := fun y hy => if_pos hy
  have J0 : JF c t (prt c t r0) (fun j => if j < 25 then -1 else L j) q 0 0 0 := by
    refine ⟨Nat.le_refl _, (cntP_none (fun k hk q => q (h0 k hk))).symm, fun i hi => by omega, fun y hy a => absurd (h0 y hy) a, fun y hy a => absurd (h0 y hy) a, fun i _ hi => by omega, fun i hi => by omega, fun x hx _ _ a => absurd (h0 x hx) a, (cntP_none ?_).symm⟩
    rintro v - ⟨-, x, hx, a, -⟩
    exact a (h0 x hx)
  obtain ⟨L', q', k', e, J⟩ := flood_go hc hI hE (fun a b d m => some (a, b, d, m)) 25 0 1000 _ q 0 0 rfl (by decide) J0
  have h1 := f2_go L (fun x => f_X9_flood_30 c t (fun a b d m => some (a, b, d, m)) 1000 0 0 x q 0) 25 0 1000 rfl (by decide)
  simp only [Nat.not_lt_zero, if_false] at h1
  obtain ⟨j1, j2, j3, j4, j5, j6, j7, j8, j9⟩ := J
  have hall : ∀ y, y < 25 → L' y ≠ -1 := cntP_full (p := fun y => L' y ≠ -1) j2.symm
  have hk' : k' = cntP (fun v => prt c t r0 v = nI v) 25 := j9.trans (cntP_congr (fun v hv => ⟨fun a => a.1, fun a => ⟨a, v, hv, hall v hv, rfl⟩⟩))
  subst hk'
  refine ⟨L', q', ?_, fun x hx y hy => ⟨fun a => j8 x hx y hy (hall x hx) a, fun a => ?_⟩⟩
  · unfold f_X9_flood
    exact h1.trans e
  · have hcl : ∀ a b, edg c t a b → L' b = L' a := fun a b hab => by
      obtain ⟨i, b1, b2⟩ := j4 a hab.1 (hall a hab.1)
      exact j7 i b1 a hab.1 b2 b hab
    exact (hI.2 (fun w => L' w = L' y) (fun a b hab => by rw [hcl a b hab]) x hx y hy a).mpr rfl
