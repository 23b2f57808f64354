/-! the class's fractions -/
def FrS (nu de : Nat → Int64) (X : Nat → Nat) (M D : Nat) : Prop := ∀ w, w < 4 → nu w = nL (fN (X w) M) ∧ de w = nL (fD (X w) M) ∧ fD (X w) M ∣ D ∧ X w ≤ M
theorem fN_le {X M : Nat} (h : X ≤ M) : fN X M ≤ fD X M := Nat.div_le_div_right h
theorem fr_zero {M : Nat} (hM : 0 < M) : fN 0 M = 0 ∧ fD 0 M = 1 := by
  unfold fN fD
  rw [Nat.gcd_zero_left]
  exact ⟨Nat.zero_div _, Nat.div_self hM⟩
theorem fr_zero_iff {X M : Nat} (hM : 0 < M) : fN X M = 0 ↔ X = 0 := by
  constructor
  · intro h
    have e := fr_mul (X := X) hM
    rw [h, Nat.zero_mul] at e
    rcases Nat.mul_eq_zero.mp e.symm with q | q
    · exact q
    · have := fD_pos (X := X) hM
      omega
  · intro h
    subst h
    exact (fr_zero hM).1
theorem s_add {nu de : Nat → Int64} {X : Nat → Nat} {M D : Nat} (h : FrS nu de X M D) (hM : 0 < M) (hD : 0 < D) (hD2 : D ≤ 2147483648) {w : Nat} (hw : w < 4) {a b Y : Nat} (ha : a < 2147483648) (hb0 : 0 < b) (hab : a * M = Y * b) (hb : a ≠ 0 → b ∣ D) (hb2 : b < 9223372036854775808) (hXY : X w + Y ≤ M) :
    ∃ nu' de', f_X5_add nu de (nI w) (nL a) (nL b) = some (nu', de') ∧ FrS nu' de' (fun t => if t = w then X w + Y else X t) M D := by
  obtain ⟨h1, h2, h3, h4⟩ := h w hw
  have e0 : ∀ z, f_X5_add nu de (nI w) (nL a) z = jo (some (nu, de)) (fun j13 => (f_X2_isWeather (nI w)).bind fun r1 => if r1 = 0 then j13 else if (lg_cmp (nL a) 0) = 0 then j13 else if nI w < 0 ∨ 4 ≤ (nI w).toNatClampNeg then none else (f_X5_greatestDivisor (de (nI w).toNatClampNeg) z).bind fun r22 => if r22 = 0 then none else (f_X5_greatestDivisor (((nu (nI w).toNatClampNeg) * (z / r22)) + (nL a * ((de (nI w).toNatClampNeg) / r22))) (((de (nI w).toNatClampNeg) / r22) * z)).bind fun r72 => if r72 = 0 then none else some ((vp_updL nu (nI w).toNatClampNeg ((((nu (nI w).toNatClampNeg) * (z / r22)) + (nL a * ((de (nI w).toNatClampNeg) / r22))) / r72)), (vp_updL de (nI w).toNatClampNeg ((((de (nI w).toNatClampNeg) / r22) * z) / r72)))) := fun z => by unfold f_X5_add; rfl
  rw [e0, joE, s_isWeather, if_neg (nw4 hw), obS, if_neg i10]
  by_cases ha0 : a = 0
  · subst ha0
    have hY : Y = 0 := by
      rw [Nat.zero_mul] at hab
      rcases Nat.mul_eq_zero.mp hab.symm with q | q
      · exact q
      · omega
    subst hY
    rw [if_pos (show lg_cmp (nL 0) 0 = 0 by rw [lgE0 (by decide)])]
    refine ⟨nu, de, rfl, fun t ht => ?_⟩
    by_cases e : t = w
    · subst e; simp only [if_true, Nat.add_zero]; exact h t ht
    · simp only [if_neg e]; exact h t ht
  · have hbD := hb ha0
    have hbl := Nat.le_of_dvd hD hbD
    have hel := Nat.le_of_dvd hD h3
    have hep := fD_pos (X := X w) hM
    obtain ⟨q1, q2, q3, q4⟩ := fr_add hM hb0 hD hab hXY h3 hbD
    have hwl := Nat.le_of_dvd hD q2
    have hgp : 0 < Nat.gcd (fD (X w) M) b := Nat.gcd_pos_of_pos_right _ hb0
    have hgl : Nat.gcd (fD (X w) M) b ≤ b := Nat.gcd_le_right _ hb0
    have hnl := fN_le h4
    have c2 : 0 < Nat.gcd (fN (X w) M * (b / Nat.gcd (fD (X w) M) b) + a * (fD (X w) M / Nat.gcd (fD (X w) M) b)) (fD (X w) M / Nat.gcd (fD (X w) M) b * b) := Nat.gcd_pos_of_pos_right _ q3
    have c3 : Nat.gcd (fN (X w) M * (b / Nat.gcd (fD (X w) M) b) + a * (fD (X w) M / Nat.gcd (fD (X w) M) b)) (fD (X w) M / Nat.gcd (fD (X w) M) b * b) ≤ fD (X w) M / Nat.gcd (fD (X w) M) b * b := Nat.gcd_le_right _ q3
    obtain ⟨f1, f2⟩ := fr_eq q3 hM q1
    rw [if_neg (show ¬ lg_cmp (nL a) 0 = 0 by rw [lgE0 (by omega)]; exact ha0), if_neg (ixo hw (by decide)), qI_cl (show w < 2147483648 by omega), h1, h2, s_gd (by omega) (by omega) (Or.inr hb0), obS, if_neg (show ¬ nL (Nat.gcd (fD (X w) M) b) = 0 by rw [qL_eq0 (by omega)]; omega), qL_div (by omega) (by omega), qL_div (by omega) (by omega), qL_mul, qL_mul, qL_add, qL_mul, s_gd (by omega) (by omega) (Or.inr q3), obS, if_neg (show ¬ nL (Nat.gcd (fN (X w) M * (b / Nat.gcd (fD (X w) M) b) + a * (fD (X w) M / Nat.gcd (fD (X w) M) b)) (fD (X w) M / Nat.gcd (fD (X w) M) b * b)) = 0 by rw [qL_eq0 (by omega)]; omega), qL_div (by omega) (by omega), qL_div (by omega) (by omega), f1, f2]
    refine ⟨_, _, rfl, fun t ht => ?_⟩
    by_cases e : t = w
    · subst e
      simp only [if_true]
      refine ⟨updL_same _ _ _, updL_same _ _ _, ?_, hXY⟩
      rw [← f2]
      exact Nat.dvd_trans (Nat.div_dvd_of_dvd (Nat.gcd_dvd_right _ _)) q2
    · simp only [if_neg e]
      rw [updL_ne _ _ e, updL_ne _ _ e]
      exact h t ht
theorem s_clear_go (z : (Nat → Int64) → (Nat → Int64) → Option ((Nat → Int64) × (Nat → Int64))) (n0 d0 : Nat → Int64) : ∀ (d k f : Nat), k + d = 4 → d < f → f_X5_clear_2 z f (nI k) (fun j => if j < k then 0 else n0 j) (fun j => if j < k then 1 else d0 j) = z (fun j => if j < 4 then 0 else n0 j) (fun j => if j < 4 then 1 else d0 j)
  | _, _, 0, _, h => by omega
  | 0, k, f + 1, hk, _ => by
    obtain rfl : k = 4 := by omega
    rw [f_X5_clear_2, if_pos (show (4 : Int32) ≤ nI 4 from Int32.le_refl _)]
  | d + 1, k, f + 1, hk, hf => by
    have e : ∀ (v : Int64) (o : Nat → Int64), vp_updL (fun j => if j < k then v else o j) k v = fun j => if j < k + 1 then v else o j := fun v o => by
      funext j
      by_cases hj : j = k
      · subst hj; rw [updL_same, if_pos (by omega)]
      · rw [updL_ne _ _ hj]
        by_cases h2 : j < k
        · rw [if_pos h2, if_pos (by omega)]
        · rw [if_neg h2, if_neg (by omega)]
    rw [f_X5_clear_2, if_neg (show ¬ (4 : Int32) ≤ nI k from nle (show k < 4 by omega) (by decide)), if_neg (ixo (show k < 4 by omega) (by decide)), qI_cl (show k < 2147483648 by omega), qI_succ, e, e]
    exact s_clear_go z n0 d0 d (k + 1) f (by omega) (by omega)
theorem s_clear {M D : Nat} (hM : 0 < M) (n0 d0 : Nat → Int64) : ∃ nu de, f_X5_clear n0 d0 = some (nu, de) ∧ FrS nu de (fun _ => 0) M D := by
  have h := s_clear_go (fun a b => some (a, b)) n0 d0 4 0 1000 rfl (by decide)
  simp only [Nat.not_lt_zero, if_false] at h
  refine ⟨_, _, h, fun w hw => ?_⟩
  rw [(fr_zero hM).1, (fr_zero hM).2]
  exact ⟨if_pos hw, if_pos hw, Nat.one_dvd _, Nat.zero_le _⟩
theorem s_fcopy_go (n1 d1 : Nat → Int64) (z : (Nat → Int64) → (Nat → Int64) → Option ((Nat → Int64) × (Nat → Int64))) (n0 d0 : Nat → Int64) : ∀ (d k f : Nat), k + d = 4 → d < f → f_X5_copyFrom_2 n1 d1 z f (nI k) (fun j => if j < k then n1 j else n0 j) (fun j => if j < k then d1 j else d0 j) = z (fun j => if j < 4 then n1 j else n0 j) (fun j => if j < 4 then d1 j else d0 j)
  | _, _, 0, _, h => by omega
  | 0, k, f + 1, hk, _ => by
    obtain rfl : k = 4 := by omega
    rw [f_X5_copyFrom_2, if_pos (show (4 : Int32) ≤ nI 4 from Int32.le_refl _)]
  | d + 1, k, f + 1, hk, hf => by
    have e : ∀ (v o : Nat → Int64), vp_updL (fun j => if j < k then v j else o j) k (v k) = fun j => if j < k + 1 then v j else o j := fun v o => by
      funext j
      by_cases hj : j = k
      · subst hj; rw [updL_same, if_pos (by omega)]
      · rw [updL_ne _ _ hj]
        by_cases h2 : j < k
        · rw [if_pos h2, if_pos (by omega)]
        · rw [if_neg h2, if_neg (by omega)]
    rw [f_X5_copyFrom_2, if_neg (show ¬ (4 : Int32) ≤ nI k from nle (show k < 4 by omega) (by decide)), if_neg (ixo (show k < 4 by omega) (by decide)), qI_cl (show k < 2147483648 by omega), qI_succ, e, e]
    exact s_fcopy_go n1 d1 z n0 d0 d (k + 1) f (by omega) (by omega)
theorem s_fcopy {X : Nat → Nat} {M D : Nat} {n1 d1 : Nat → Int64} (h : FrS n1 d1 X M D) (n0 d0 : Nat → Int64) : ∃ nu de, f_X5_copyFrom n0 d0 n1 d1 = some (nu, de) ∧ FrS nu de X M D := by
  have e := s_fcopy_go n1 d1 (fun a b => some (a, b)) n0 d0 4 0 1000 rfl (by decide)
  simp only [Nat.not_lt_zero, if_false] at e
  refine ⟨_, _, e, fun w hw => ?_⟩
  rw [if_pos hw, if_pos hw]
  exact h w hw
theorem s_num {nu : Nat → Int64} {w : Nat} (hw : w < 4) : f_X5_numerator nu (nI w) = some (nu w) := by
  unfold f_X5_numerator
  rw [joE, s_isWeather, if_neg (nw4 hw), obS, if_neg i10, if_neg (ixo hw (by decide)), qI_cl (show w < 2147483648 by omega)]
theorem s_den {nu : Nat → Int64} {w : Nat} (hw : w < 4) : f_X5_denominator nu (nI w) = some (nu w) := by
  unfold f_X5_denominator
  rw [joE, s_isWeather, if_neg (nw4 hw), obS, if_neg i10, if_neg (ixo hw (by decide)), qI_cl (show w < 2147483648 by omega)]
/-! the parts of the whole, day by day -/
def Xs (A : Nat → Nat → Nat) (P : Nat → Nat) : Nat → Nat → Nat
  | 0, _ => 0
  | r + 1, t => Xs A P r t + P r * A r t
def Pn (A : Nat → Nat → Nat) (p : Nat) : Nat → Nat → Nat
  | 0, t => if t = p then 1 else 0
  | d + 1, t => Xs A (Pn A p d) 4 t
theorem Xs_le (A : Nat → Nat → Nat) (P : Nat → Nat) : ∀ {r s : Nat}, r ≤ s → ∀ t, Xs A P r t ≤ Xs A P s t
  | r, 0, h, t => by
    obtain rfl : r = 0 := by omega
    exact Nat.le_refl _
  | r, s + 1, h, t => by
    by_cases e : r = s + 1
    · subst e; exact Nat.le_refl _
    · exact Nat.le_trans (Xs_le A P (show r ≤ s by omega) t) (Nat.le_add_right _ _)
/-- the least common multiple as the model reckons it -/
def lc (a b : Nat) : Nat := a / Nat.gcd a b * b
theorem lc_eq {a b : Nat} (hb : 0 < b) : lc a b = Nat.lcm a b := by
  unfold lc Nat.lcm
  obtain ⟨x, hx⟩ := Nat.gcd_dvd_left a b
  have hg : 0 < Nat.gcd a b := Nat.gcd_pos_of_pos_right a hb
  generalize Nat.gcd a b = g at *
  rw [hx, Nat.mul_div_cancel_left x hg, Nat.mul_assoc, Nat.mul_div_cancel_left _ hg]
def cmn (S : Nat → Nat) : Nat := lc (lc (lc (lc 1 (S 0)) (S 1)) (S 2)) (S 3)
theorem lcm3_le : ∀ a, a < 13 → ∀ b, b < 13 → ∀ c, c < 13 → Nat.lcm (Nat.lcm a b) c ≤ 990 := by decide +kernel
theorem cmn_ok {S : Nat → Nat} (hS : ∀ r, r < 4 → 1 ≤ S r ∧ S r ≤ 12) : (∀ r, r < 4 → S r ∣ cmn S) ∧ 0 < cmn S ∧ cmn S ≤ 11880 := by
  obtain ⟨a0, b0⟩ := hS 0 (by decide)
  obtain ⟨a1, b1⟩ := hS 1 (by decide)
  obtain ⟨a2, b2⟩ := hS 2 (by decide)
  obtain ⟨a3, b3⟩ := hS 3 (by decide)
  have e : cmn S = Nat.lcm (Nat.lcm (Nat.lcm (S 0) (S 1)) (S 2)) (S 3) := by
    unfold cmn
    rw [lc_eq (by omega), lc_eq (by omega), lc_eq (by omega), lc_eq (by omega), Nat.lcm_one_left]
  have d3 := lcm3_le (S 0) (by omega) (S 1) (by omega) (S 2) (by omega)
  rw [e]
  have u1 := Nat.dvd_lcm_left (S 0) (S 1)
  have v1 := Nat.dvd_lcm_right (S 0) (S 1)
  have u2 := Nat.dvd_lcm_left (Nat.lcm (S 0) (S 1)) (S 2)
  have v2 := Nat.dvd_lcm_right (Nat.lcm (S 0) (S 1)) (S 2)
  have u3 := Nat.dvd_lcm_left (Nat.lcm (Nat.lcm (S 0) (S 1)) (S 2)) (S 3)
  have v3 := Nat.dvd_lcm_right (Nat.lcm (Nat.lcm (S 0) (S 1)) (S 2)) (S 3)
  refine ⟨fun r hr => ?_, ?_, ?_⟩
  · rcases (show r = 0 ∨ r = 1 ∨ r = 2 ∨ r = 3 by omega) with rfl | rfl | rfl | rfl
    · exact Nat.dvd_trans u1 (Nat.dvd_trans u2 u3)
    · exact Nat.dvd_trans v1 (Nat.dvd_trans u2 u3)
    · exact Nat.dvd_trans v2 u3
    · exact v3
  · have p1 : 0 < Nat.lcm (S 0) (S 1) := Nat.lcm_pos (by omega) (by omega)
    have p2 : 0 < Nat.lcm (Nat.lcm (S 0) (S 1)) (S 2) := Nat.lcm_pos p1 (by omega)
    exact Nat.lcm_pos p2 (by omega)
  · have p0 : Nat.lcm (Nat.lcm (Nat.lcm (S 0) (S 1)) (S 2)) (S 3) ≤ Nat.lcm (Nat.lcm (S 0) (S 1)) (S 2) * S 3 := Nat.div_le_self _ _
    have p1 : Nat.lcm (Nat.lcm (S 0) (S 1)) (S 2) * S 3 ≤ 990 * 12 := Nat.mul_le_mul d3 b3
    omega
/-- a change's part of the whole -/
def Aw (w : Nat → Int32) (r t : Nat) : Nat := wx w r t * (cmn (wsm w) / wsm w r)
/-- is there a change at all -/
def Bw (w : Nat → Int32) (r t : Nat) : Nat := if wx w r t = 0 then 0 else 1
def Dn (C s : Nat) : Nat → Nat
  | 0 => 1
  | 1 => s
  | d + 2 => Dn C s (d + 1) * C
def WS (w : Nat → Int32) : Prop := W4 w ∧ ∀ r, r < 4 → 1 ≤ wsm w r
theorem WS_b {w : Nat → Int32} (h : WS w) : ∀ r, r < 4 → 1 ≤ wsm w r ∧ wsm w r ≤ 12 := fun r hr => by
  refine ⟨h.2 r hr, ?_⟩
  have a0 := (wx_eq h.1 hr (show 0 < 4 by decide)).2
  have a1 := (wx_eq h.1 hr (show 1 < 4 by decide)).2
  have a2 := (wx_eq h.1 hr (show 2 < 4 by decide)).2
  have a3 := (wx_eq h.1 hr (show 3 < 4 by decide)).2
  unfold wsm
  omega
theorem WS_of {t : StT} {g : Nat → Int32} (h : RS t g) : WS t.2.2.1 := by
  obtain ⟨-, -, -, -, -, r6, r7, -⟩ := h
  refine ⟨r6, fun r hr => ?_⟩
  obtain ⟨c, hc, e⟩ := r7 r hr
  obtain ⟨e1, -⟩ := wx_eq r6 hr hc
  have hne : wx t.2.2.1 r c ≠ 0 := fun q => e (by rw [e1, q]; rfl)
  have := wx_le t.2.2.1 r hc
  omega
theorem Aw_sum {w : Nat → Int32} (h : WS w) {r : Nat} (hr : r < 4) : Aw w r 0 + Aw w r 1 + Aw w r 2 + Aw w r 3 = cmn (wsm w) := by
  unfold Aw
  rw [← Nat.add_mul, ← Nat.add_mul, ← Nat.add_mul]
  exact Nat.mul_div_cancel' ((cmn_ok (WS_b h)).1 r hr)
theorem Aw_mul {w : Nat → Int32} (h : WS w) {r : Nat} (hr : r < 4) (t : Nat) : Aw w r t * wsm w r = wx w r t * cmn (wsm w) := by
  unfold Aw
  rw [Nat.mul_assoc, Nat.div_mul_cancel ((cmn_ok (WS_b h)).1 r hr)]
theorem Pn_sum {w : Nat → Int32} (h : WS w) {p : Nat} (hp : p < 4) : ∀ d, Pn (Aw w) p d 0 + Pn (Aw w) p d 1 + Pn (Aw w) p d 2 + Pn (Aw w) p d 3 = cmn (wsm w) ^ d
  | 0 => by
    rcases (show p = 0 ∨ p = 1 ∨ p = 2 ∨ p = 3 by omega) with rfl | rfl | rfl | rfl <;> rfl
  | d + 1 => by
    have ih := Pn_sum h hp d
    have s0 := Aw_sum h (show 0 < 4 by decide)
    have s1 := Aw_sum h (show 1 < 4 by decide)
    have s2 := Aw_sum h (show 2 < 4 by decide)
    have s3 := Aw_sum h (show 3 < 4 by decide)
    rw [Nat.pow_succ, ← ih]
    simp only [Pn, Xs, Nat.zero_add]
    generalize Pn (Aw w) p d 0 = P0
    generalize Pn (Aw w) p d 1 = P1
    generalize Pn (Aw w) p d 2 = P2
    generalize Pn (Aw w) p d 3 = P3
    have e : (P0 + P1 + P2 + P3) * cmn (wsm w) = P0 * (Aw w 0 0 + Aw w 0 1 + Aw w 0 2 + Aw w 0 3) + P1 * (Aw w 1 0 + Aw w 1 1 + Aw w 1 2 + Aw w 1 3) + P2 * (Aw w 2 0 + Aw w 2 1 + Aw w 2 2 + Aw w 2 3) + P3 * (Aw w 3 0 + Aw w 3 1 + Aw w 3 2 + Aw w 3 3) := by
      rw [s0, s1, s2, s3, Nat.add_mul, Nat.add_mul, Nat.add_mul]
    rw [e]
    simp only [Nat.mul_add]
    omega
theorem Pn_le {w : Nat → Int32} (h : WS w) {p : Nat} (hp : p < 4) (d : Nat) {t : Nat} (ht : t < 4) : Pn (Aw w) p d t ≤ cmn (wsm w) ^ d := by
  have := Pn_sum h hp d
  rcases (show t = 0 ∨ t = 1 ∨ t = 2 ∨ t = 3 by omega) with rfl | rfl | rfl | rfl <;> omega
theorem Dn_ok {C s : Nat} (hC : 0 < C) (hC2 : C ≤ 11880) (hs : 0 < s) (hs2 : s ≤ 12) : ∀ d, d ≤ 3 → 0 < Dn C s d ∧ Dn C s d ≤ 1693612800 := by
  have h2 : C * C ≤ 11880 * 11880 := Nat.mul_le_mul hC2 hC2
  have h1 : 0 < C * C := Nat.mul_pos hC hC
  intro d hd
  rcases (show d = 0 ∨ d = 1 ∨ d = 2 ∨ d = 3 by omega) with rfl | rfl | rfl | rfl
  · exact ⟨by show 0 < 1; omega, by show 1 ≤ _; omega⟩
  · exact ⟨hs, by show s ≤ _; omega⟩
  · have := Nat.mul_le_mul hs2 hC2
    exact ⟨Nat.mul_pos hs hC, by show s * C ≤ _; omega⟩
  · have := Nat.mul_le_mul hs2 h2
    have e : s * C * C = s * (C * C) := Nat.mul_assoc _ _ _
    exact ⟨Nat.mul_pos (Nat.mul_pos hs hC) hC, by show s * C * C ≤ _; omega⟩
theorem pow_ok {C : Nat} (hC : 0 < C) (hC2 : C ≤ 11880) : ∀ d, d ≤ 3 → 0 < C ^ d ∧ C ^ d ≤ 1676676672000 := by
  have h2 : C * C ≤ 11880 * 11880 := Nat.mul_le_mul hC2 hC2
  intro d hd
  refine ⟨Nat.pow_pos hC, ?_⟩
  rcases (show d = 0 ∨ d = 1 ∨ d = 2 ∨ d = 3 by omega) with rfl | rfl | rfl | rfl
  · rw [Nat.pow_zero]; omega
  · rw [Nat.pow_one]; omega
  · rw [Nat.pow_two]; omega
  · have := Nat.mul_le_mul h2 hC2
    rw [Nat.pow_succ, Nat.pow_two]; omega
