/-! day by day: the class -/
theorem FrS_congr {nu de : Nat → Int64} {X Y : Nat → Nat} {M D : Nat} (h : FrS nu de X M D) (e : ∀ t, t < 4 → X t = Y t) : FrS nu de Y M D := fun t ht => by rw [← e t ht]; exact h t ht
theorem FrS_mono {nu de : Nat → Int64} {X : Nat → Nat} {M D D' : Nat} (h : FrS nu de X M D) (e : D ∣ D') : FrS nu de X M D' := fun t ht => by
  obtain ⟨a, b, c, d⟩ := h t ht
  exact ⟨a, b, Nat.dvd_trans c e, d⟩
/-- how a day's denominators come into the next day's -/
def DayD (w : Nat → Int32) (P : Nat → Nat) (M D' : Nat) : Prop := ∀ r, r < 4 → P r ≠ 0 → fD (P r) M * wsm w r ∣ D'
theorem Xs_part {w : Nat → Int32} (h : WS w) {p : Nat} (hp : p < 4) (d : Nat) {r t : Nat} (hr : r ≤ 4) (ht : t < 4) : Xs (Aw w) (Pn (Aw w) p d) r t ≤ cmn (wsm w) ^ (d + 1) := Nat.le_trans (Xs_le _ _ hr t) (Pn_le h hp (d + 1) ht)
theorem s_spread_go {w : Nat → Int32} (h : WS w) {p : Nat} (hp : p < 4) {d : Nat} (hd : d < 3) {D' : Nat} {n1 d1 : Nat → Int64} {D : Nat} (h1 : FrS n1 d1 (Pn (Aw w) p d) (cmn (wsm w) ^ d) D) (hDD : DayD w (Pn (Aw w) p d) (cmn (wsm w) ^ d) D') (hD0 : 0 < D') (hDl : D' ≤ 2147483648) (hDs : 0 < D ∧ D ≤ 178956970) {r : Nat} (hr : r < 4) (z : (Nat → Int64) → (Nat → Int64) → Option ((Nat → Int64) × (Nat → Int64))) : ∀ (m k f : Nat) (nu de : Nat → Int64), k + m = 4 → m < f → FrS nu de (fun t => if t < k then Xs (Aw w) (Pn (Aw w) p d) (r + 1) t else Xs (Aw w) (Pn (Aw w) p d) r t) (cmn (wsm w) ^ (d + 1)) D' → ∃ nu' de', f_X1_spread_9 n1 d1 w (nI r) (nI (wsm w r)) z f (nI k) nu de = z nu' de' ∧ FrS nu' de' (Xs (Aw w) (Pn (Aw w) p d) (r + 1)) (cmn (wsm w) ^ (d + 1)) D'
  | _, _, 0, _, _, _, h, _ => by omega
  | 0, k, f + 1, nu, de, hk, _, hF => by
    obtain rfl : k = 4 := by omega
    refine ⟨nu, de, ?_, FrS_congr hF (fun t ht => if_pos ht)⟩
    rw [f_X1_spread_9, if_pos (show (4 : Int32) ≤ nI 4 from Int32.le_refl _)]
  | m + 1, k, f + 1, nu, de, hk, hf, hF => by
    have hk4 : k < 4 := by omega
    obtain ⟨hC1, hC2, hC3⟩ := cmn_ok (WS_b h)
    obtain ⟨hS1, hS2⟩ := WS_b h r hr
    obtain ⟨eW, hW⟩ := wx_eq h.1 hr hk4
    obtain ⟨q1, q2, q3, q4⟩ := h1 r hr
    have hM := pow_ok hC2 hC3 d (by omega)
    have hM' := pow_ok hC2 hC3 (d + 1) (by omega)
    have hep := fD_pos (X := Pn (Aw w) p d r) hM.1
    have hnl := fN_le q4
    have heD := Nat.le_of_dvd hDs.1 q3
    have hfm := fr_mul (X := Pn (Aw w) p d r) hM.1
    have hab : fN (Pn (Aw w) p d r) (cmn (wsm w) ^ d) * wx w r k * cmn (wsm w) ^ (d + 1) = Pn (Aw w) p d r * Aw w r k * (fD (Pn (Aw w) p d r) (cmn (wsm w) ^ d) * wsm w r) := by
      rw [Nat.pow_succ]
      calc fN (Pn (Aw w) p d r) (cmn (wsm w) ^ d) * wx w r k * (cmn (wsm w) ^ d * cmn (wsm w)) = (fN (Pn (Aw w) p d r) (cmn (wsm w) ^ d) * cmn (wsm w) ^ d) * (wx w r k * cmn (wsm w)) := by rw [Nat.mul_mul_mul_comm]
        _ = Pn (Aw w) p d r * fD (Pn (Aw w) p d r) (cmn (wsm w) ^ d) * (Aw w r k * wsm w r) := by rw [hfm, ← Aw_mul h hr]
        _ = Pn (Aw w) p d r * Aw w r k * (fD (Pn (Aw w) p d r) (cmn (wsm w) ^ d) * wsm w r) := by rw [Nat.mul_mul_mul_comm]
    have hprod : fD (Pn (Aw w) p d r) (cmn (wsm w) ^ d) * wsm w r ≤ 178956970 * 12 := Nat.mul_le_mul (by omega) hS2
    have hprod2 : fN (Pn (Aw w) p d r) (cmn (wsm w) ^ d) * wx w r k ≤ 178956970 * 3 := Nat.mul_le_mul (by omega) (by omega)
    have hXk : (fun t => if t < k then Xs (Aw w) (Pn (Aw w) p d) (r + 1) t else Xs (Aw w) (Pn (Aw w) p d) r t) k = Xs (Aw w) (Pn (Aw w) p d) r k := if_neg (Nat.lt_irrefl k)
    obtain ⟨nu', de', e1, e2⟩ := s_add hF hM'.1 hD0 hDl hk4 (a := fN (Pn (Aw w) p d r) (cmn (wsm w) ^ d) * wx w r k) (b := fD (Pn (Aw w) p d r) (cmn (wsm w) ^ d) * wsm w r) (Y := Pn (Aw w) p d r * Aw w r k) (by omega) (Nat.mul_pos hep (by omega)) hab (fun hne => hDD r hr (fun q => hne (by rw [(fr_zero_iff hM.1).mpr q, Nat.zero_mul]))) (by omega) (by
      rw [if_neg (Nat.lt_irrefl k)]
      exact Xs_part h hp d (r := r + 1) (by omega) hk4)
    have e2' : FrS nu' de' (fun t => if t < k + 1 then Xs (Aw w) (Pn (Aw w) p d) (r + 1) t else Xs (Aw w) (Pn (Aw w) p d) r t) (cmn (wsm w) ^ (d + 1)) D' := FrS_congr e2 (fun t ht => by
      by_cases e : t = k
      · subst e
        rw [if_pos rfl, if_neg (Nat.lt_irrefl t), if_pos (show t < t + 1 by omega)]
        rfl
      · rw [if_neg e]
        by_cases h2 : t < k
        · rw [if_pos h2, if_pos (by omega)]
        · rw [if_neg h2, if_neg (by omega)])
    rw [f_X1_spread_9, if_neg (show ¬ (4 : Int32) ≤ nI k from nle hk4 (by decide)), s_num hr, obS, s_weight w hr hk4 (nw4 hr) (nw4 hk4), obS, s_den hr, obS, q1, q2, eW, qL_of (by omega), qL_of (by omega), qL_mul, qL_mul, e1, obS, qI_succ]
    exact s_spread_go h hp hd h1 hDD hD0 hDl hDs hr z m (k + 1) f nu' de' (by omega) (by omega) e2'
theorem s_day_go {w : Nat → Int32} (h : WS w) {p : Nat} (hp : p < 4) {d : Nat} (hd : d < 3) {D' : Nat} {n1 d1 : Nat → Int64} {D : Nat} (h1 : FrS n1 d1 (Pn (Aw w) p d) (cmn (wsm w) ^ d) D) (hDD : DayD w (Pn (Aw w) p d) (cmn (wsm w) ^ d) D') (hD0 : 0 < D') (hDl : D' ≤ 2147483648) (hDs : 0 < D ∧ D ≤ 178956970) (z : (Nat → Int64) → (Nat → Int64) → Option ((Nat → Int64) × (Nat → Int64) × (Nat → Int64) × (Nat → Int64))) : ∀ (m r f : Nat) (nu de : Nat → Int64), r + m = 4 → m < f → FrS nu de (Xs (Aw w) (Pn (Aw w) p d) r) (cmn (wsm w) ^ (d + 1)) D' → ∃ nu' de', f_X1_dayByDay_42 n1 d1 w z f (nI r) nu de = z nu' de' ∧ FrS nu' de' (Pn (Aw w) p (d + 1)) (cmn (wsm w) ^ (d + 1)) D'
  | _, _, 0, _, _, _, h, _ => by omega
  | 0, r, f + 1, nu, de, hk, _, hF => by
    obtain rfl : r = 4 := by omega
    refine ⟨nu, de, ?_, hF⟩
    rw [f_X1_dayByDay_42, if_pos (show (4 : Int32) ≤ nI 4 from Int32.le_refl _)]
  | m + 1, r, f + 1, nu, de, hk, hf, hF => by
    have hr : r < 4 := by omega
    obtain ⟨nu', de', e1, e2⟩ := s_spread_go h hp hd h1 hDD hD0 hDl hDs hr (fun a b => some (a, b)) 4 0 1000 nu de rfl (by decide) (FrS_congr hF (fun t _ => (if_neg (Nat.not_lt_zero t)).symm))
    have e3 : f_X1_spread n1 d1 nu de w (nI r) = some (nu', de') := by
      unfold f_X1_spread
      rw [s_wsum h.1 hr, obS]
      exact e1
    rw [f_X1_dayByDay_42, if_neg (show ¬ (4 : Int32) ≤ nI r from nle hr (by decide)), e3, obS, qI_succ]
    exact s_day_go h hp hd h1 hDD hD0 hDl hDs z m (r + 1) f nu' de' (by omega) (by omega) e2
theorem Dn_day {w : Nat → Int32} (h : WS w) {p : Nat} (hp : p < 4) {d : Nat} {n1 d1 : Nat → Int64} (h1 : FrS n1 d1 (Pn (Aw w) p d) (cmn (wsm w) ^ d) (Dn (cmn (wsm w)) (wsm w p) d)) : DayD w (Pn (Aw w) p d) (cmn (wsm w) ^ d) (Dn (cmn (wsm w)) (wsm w p) (d + 1)) := by
  intro r hr hne
  obtain ⟨-, -, q3, -⟩ := h1 r hr
  have hC := (cmn_ok (WS_b h)).1 r hr
  cases d with
  | zero =>
    have e : r = p := Classical.byContradiction fun e => hne (show (if r = p then 1 else 0) = 0 from if_neg e)
    subst e
    have e2 : fD (Pn (Aw w) r 0 r) (cmn (wsm w) ^ 0) = 1 := by
      show (cmn (wsm w) ^ 0) / _ = 1
      rw [Nat.pow_zero, Nat.gcd_one_right]
    rw [e2, Nat.one_mul]
    exact Nat.dvd_refl _
  | succ d => exact Nat.mul_dvd_mul q3 hC
theorem Dn_small {w : Nat → Int32} (h : WS w) {p : Nat} (hp : p < 4) {d : Nat} (hd : d < 3) : 0 < Dn (cmn (wsm w)) (wsm w p) d ∧ Dn (cmn (wsm w)) (wsm w p) d ≤ 178956970 := by
  obtain ⟨hS1, hS2⟩ := WS_b h p hp
  obtain ⟨-, hC2, hC3⟩ := cmn_ok (WS_b h)
  refine ⟨(Dn_ok hC2 hC3 (by omega) hS2 d (by omega)).1, ?_⟩
  rcases (show d = 0 ∨ d = 1 ∨ d = 2 by omega) with rfl | rfl | rfl
  · show 1 ≤ _; omega
  · show wsm w p ≤ _; omega
  · have := Nat.mul_le_mul hS2 hC3
    show wsm w p * cmn (wsm w) ≤ _
    omega
theorem s_days_go {w : Nat → Int32} (h : WS w) {p : Nat} (hp : p < 4) {d : Nat} (hd : d ≤ 3) (z : (Nat → Int64) → (Nat → Int64) → (Nat → Int64) → (Nat → Int64) → Option ((Nat → Int64) × (Nat → Int64) × (Nat → Int64) × (Nat → Int64))) : ∀ (m k f : Nat) (nu de nn nd : Nat → Int64), k + m = d → m < f → FrS nu de (Pn (Aw w) p k) (cmn (wsm w) ^ k) (Dn (cmn (wsm w)) (wsm w p) k) → ∃ nu' de' nn' nd', f_X1_dayByDay_22 w (nI d) z f (nI k) nu de nn nd = z nu' de' nn' nd' ∧ FrS nu' de' (Pn (Aw w) p d) (cmn (wsm w) ^ d) (Dn (cmn (wsm w)) (wsm w p) d)
  | _, _, 0, _, _, _, _, _, h, _ => by omega
  | 0, k, f + 1, nu, de, nn, nd, hk, _, hF => by
    obtain rfl : k = d := by omega
    refine ⟨nu, de, nn, nd, ?_, hF⟩
    rw [f_X1_dayByDay_22, if_pos (Int32.le_refl _)]
  | m + 1, k, f + 1, nu, de, nn, nd, hk, hf, hF => by
    have hk3 : k < 3 := by omega
    obtain ⟨hS1, hS2⟩ := WS_b h p hp
    obtain ⟨hC1, hC2, hC3⟩ := cmn_ok (WS_b h)
    have hM' := pow_ok hC2 hC3 (k + 1) (by omega)
    have hD' := Dn_ok hC2 hC3 (by omega) hS2 (k + 1) (by omega)
    obtain ⟨cn, cd, c1, c2⟩ := s_clear (M := cmn (wsm w) ^ (k + 1)) (D := Dn (cmn (wsm w)) (wsm w p) (k + 1)) hM'.1 nn nd
    obtain ⟨un, ud, e1, e2⟩ := s_day_go h hp hk3 hF (Dn_day h hp hF) hD'.1 (by omega) (Dn_small h hp hk3) (fun a b => (f_X5_copyFrom nu de a b).bind fun r69 => f_X1_dayByDay_22 w (nI d) z f (nI k + 1) r69.1 r69.2 a b) 4 0 1000 cn cd rfl (by decide) c2
    obtain ⟨vn, vd, g1, g2⟩ := s_fcopy e2 nu de
    rw [f_X1_dayByDay_22, if_neg (nle (show k < d by omega) (by omega)), if_neg (show ¬ (3 : Int32) ≤ nI k from nle hk3 (by decide)), c1, obS, show (0 : Int32) = nI 0 from rfl, e1, g1, obS, qI_succ]
    exact s_days_go h hp hd z m (k + 1) f vn vd un ud (by omega) (by omega) g2
theorem FrS_start {nu de : Nat → Int64} (p : Nat) (A : Nat → Nat → Nat) (C s : Nat) (h : FrS nu de (fun t => if t = p then 1 else 0) 1 1) : FrS nu de (Pn A p 0) (C ^ 0) (Dn C s 0) := h
theorem s_dayByDay {w : Nat → Int32} (h : WS w) {p : Nat} (hp : p < 4) {d : Nat} (hd : d ≤ 3) (nu de nn nd : Nat → Int64) : ∃ nu' de' nn' nd', f_X1_dayByDay nu de nn nd w (nI p) (nI d) = some (nu', de', nn', nd') ∧ FrS nu' de' (Pn (Aw w) p d) (cmn (wsm w) ^ d) (Dn (cmn (wsm w)) (wsm w p) d) := by
  obtain ⟨cn, cd, c1, c2⟩ := s_clear (M := 1) (D := 1) (by decide) nu de
  obtain ⟨an, ad, a1, a2⟩ := s_add c2 (by decide) (by decide) (by decide) hp (a := 1) (b := 1) (Y := 1) (by decide) (by decide) rfl (fun _ => Nat.dvd_refl 1) (by decide) (by decide)
  have a3 : FrS an ad (Pn (Aw w) p 0) (cmn (wsm w) ^ 0) (Dn (cmn (wsm w)) (wsm w p) 0) := FrS_start p (Aw w) _ _ (FrS_congr a2 (fun t _ => rfl))
  obtain ⟨vn, vd, wn, wd, e1, e2⟩ := s_days_go h hp hd (fun a b c d => some (a, b, c, d)) d 0 1000 an ad nn nd (by omega) (by omega) a3
  refine ⟨vn, vd, wn, wd, ?_, e2⟩
  unfold f_X1_dayByDay
  rw [c1, obS, show (1 : Int64) = nL 1 from rfl, a1, obS]
  exact e1
/-! the model's parts and ways -/
theorem m_com_go {g w : Nat → Int32} (hg : ∀ k, k < 16 → g (32 + k) = w k) (h : WS w) (z : Int64 → Option ((Nat → Int64) × (Nat → Int64) × (Nat → Int32) × (Nat → Int32) × Int64)) {a : Nat} (ha : a < 35184372088832) {k : Nat} (hk : k < 4) (f : Nat) : f_X13_goes_5 g z (f + 1) (nL a) (nI k) = f_X13_goes_5 g z f (nL (lc a (wsm w k))) (nI (k + 1)) := by
  obtain ⟨h1, h2⟩ := WS_b h k hk
  have hg0 : 0 < Nat.gcd a (wsm w k) := Nat.gcd_pos_of_pos_right _ (by omega)
  have hgl : Nat.gcd a (wsm w k) ≤ wsm w k := Nat.gcd_le_right _ (by omega)
  rw [f_X13_goes_5, if_neg (show ¬ (4 : Int32) ≤ nI k from nle hk (by decide)), m_wsum hg h.1 hk, obS, qL_of (by omega), m_gd (by omega) (by omega), obS, if_neg (show ¬ nL (Nat.gcd a (wsm w k)) = 0 by rw [qL_eq0 (by omega)]; omega), obS, qL_of (by omega), qL_div (by omega) (by omega), qL_mul, qI_succ]
  rfl
theorem m_common {g w : Nat → Int32} (hg : ∀ k, k < 16 → g (32 + k) = w k) (h : WS w) (z : Int64 → Option ((Nat → Int64) × (Nat → Int64) × (Nat → Int32) × (Nat → Int32) × Int64)) : f_X13_goes_5 g z 1000 1 0 = z (nL (cmn (wsm w))) := by
  obtain ⟨a0, b0⟩ := WS_b h 0 (by decide)
  obtain ⟨a1, b1⟩ := WS_b h 1 (by decide)
  obtain ⟨a2, b2⟩ := WS_b h 2 (by decide)
  have l1 : ∀ a s B, a ≤ B → s ≤ 12 → lc a s ≤ B * 12 := fun a s B ha hs => Nat.mul_le_mul (Nat.le_trans (Nat.div_le_self _ _) ha) hs
  have q0 := l1 1 (wsm w 0) 1 (by omega) b0
  have q1 := l1 _ (wsm w 1) _ q0 b1
  have q2 := l1 _ (wsm w 2) _ q1 b2
  have e0 := m_com_go hg h z (a := 1) (by omega) (k := 0) (by decide) 999
  have e1 := m_com_go hg h z (a := lc 1 (wsm w 0)) (by omega) (k := 1) (by decide) 998
  have e2 := m_com_go hg h z (a := lc (lc 1 (wsm w 0)) (wsm w 1)) (by omega) (k := 2) (by decide) 997
  have e3 := m_com_go hg h z (a := lc (lc (lc 1 (wsm w 0)) (wsm w 1)) (wsm w 2)) (by omega) (k := 3) (by decide) 996
  refine e0.trans (e1.trans (e2.trans (e3.trans ?_)))
  rw [f_X13_goes_5, if_pos (show (4 : Int32) ≤ nI (3 + 1) from Int32.le_refl _)]
  rfl
def PaS (parts : Nat → Int64) (X : Nat → Nat) : Prop := ∀ t, t < 4 → parts t = nL (X t)
def WaS (ways : Nat → Int32) (X : Nat → Nat) : Prop := ∀ t, t < 4 → ways t = nI (X t)
theorem m_st_go {g : Nat → Int32} {p : Nat} (hg : g 1 = nI p) (hp : p < 4) (z : (Nat → Int64) → (Nat → Int32) → Option ((Nat → Int64) × (Nat → Int64) × (Nat → Int32) × (Nat → Int32) × Int64)) : ∀ (m k f : Nat) (pa : Nat → Int64) (wa : Nat → Int32), k + m = 4 → m < f → (∀ t, t < k → pa t = nL (if t = p then 1 else 0) ∧ wa t = nI (if t = p then 1 else 0)) → ∃ pa' wa', f_X13_goes_42 g z f (nI k) pa wa = z pa' wa' ∧ ∀ t, t < 4 → pa' t = nL (if t = p then 1 else 0) ∧ wa' t = nI (if t = p then 1 else 0)
  | _, _, 0, _, _, _, h, _ => by omega
  | 0, k, f + 1, pa, wa, hk, _, hF => by
    obtain rfl : k = 4 := by omega
    refine ⟨pa, wa, ?_, hF⟩
    rw [f_X13_goes_42, if_pos (show (4 : Int32) ≤ nI 4 from Int32.le_refl _)]
  | m + 1, k, f + 1, pa, wa, hk, hf, hF => by
    have hk4 : k < 4 := by omega
    have e : (nI k = nI p) = (k = p) := qI_eq (by omega) (by omega)
    have step : ∀ (v : Nat), (if k = p then 1 else 0) = v → ∀ t, t < k + 1 → vp_updL pa k (nL v) t = nL (if t = p then 1 else 0) ∧ upd wa k (nI v) t = nI (if t = p then 1 else 0) := fun v hv t ht => by
      by_cases e : t = k
      · subst e
        rw [updL_same, upd_same, hv]
        exact ⟨rfl, rfl⟩
      · rw [updL_ne _ _ e, upd_ne _ _ e]
        exact hF t (by omega)
    rw [f_X13_goes_42, if_neg (show ¬ (4 : Int32) ≤ nI k from nle hk4 (by decide)), show g (1 : Int32).toNatClampNeg = nI p from hg]
    simp only [joE, e, qI_cl (show k < 2147483648 by omega), ixn hk4 (show 4 ≤ 2147483648 by decide), if_false, qI_succ]
    by_cases hkp : k = p
    · rw [if_pos hkp, if_pos hkp]
      exact m_st_go hg hp z m (k + 1) f _ _ (by omega) (by omega) (step 1 (if_pos hkp))
    · rw [if_neg hkp, if_neg hkp]
      exact m_st_go hg hp z m (k + 1) f _ _ (by omega) (by omega) (step 0 (if_neg hkp))
theorem Bw_ite (w : Nat → Int32) (r t a : Nat) : a * Bw w r t = if wx w r t = 0 then 0 else a := by
  unfold Bw
  by_cases h : wx w r t = 0
  · rw [if_pos h, if_pos h, Nat.mul_zero]
  · rw [if_neg h, if_neg h, Nat.mul_one]
theorem m_in_go {g w : Nat → Int32} (hg : ∀ k, k < 16 → g (32 + k) = w k) (h : WS w) {pa : Nat → Int64} {wa : Nat → Int32} {P V : Nat → Nat} {M : Nat} (hP : PaS pa P) (hPl : ∀ t, t < 4 → P t ≤ M) (hM : M ≤ 1676676672000) (hV : WaS wa V) {t : Nat} (ht : t < 4) (z : (Nat → Int64) → (Nat → Int32) → Option ((Nat → Int64) × (Nat → Int64) × (Nat → Int32) × (Nat → Int32) × Int64)) : ∀ (m r f : Nat) (ne : Nat → Int64) (mo : Nat → Int32), r + m = 4 → m < f → ne t = nL (Xs (Aw w) P r t) → mo t = nI (Xs (Bw w) V r t) → ∃ ne' mo', f_X13_goes_142 g pa wa (nL (cmn (wsm w))) (nI t) z f (nI r) ne mo = z ne' mo' ∧ ne' t = nL (Xs (Aw w) P 4 t) ∧ mo' t = nI (Xs (Bw w) V 4 t) ∧ ∀ j, j ≠ t → ne' j = ne j ∧ mo' j = mo j
  | _, _, 0, _, _, _, h, _, _ => by omega
  | 0, r, f + 1, ne, mo, hk, _, h1, h2 => by
    obtain rfl : r = 4 := by omega
    refine ⟨ne, mo, ?_, h1, h2, fun _ _ => ⟨rfl, rfl⟩⟩
    rw [f_X13_goes_142, if_pos (show (4 : Int32) ≤ nI 4 from Int32.le_refl _)]
  | m + 1, r, f + 1, ne, mo, hk, hf, h1, h2 => by
    have hr : r < 4 := by omega
    obtain ⟨hS1, hS2⟩ := WS_b h r hr
    obtain ⟨hC1, hC2, hC3⟩ := cmn_ok (WS_b h)
    obtain ⟨eW, hW⟩ := wx_eq h.1 hr ht
    have hPr := hPl r hr
    have e0 : nL (P r) * nL (wx w r t) * (nL (cmn (wsm w)) / nL (wsm w r)) = nL (P r * Aw w r t) := by
      rw [qL_div (by omega) (by omega), qL_mul, qL_mul, Nat.mul_assoc]
      rfl
    rw [f_X13_goes_142, if_neg (show ¬ (4 : Int32) ≤ nI r from nle hr (by decide)), joE, if_neg (ixo ht (by decide)), if_neg (ixo hr (by decide)), m_weighs hg hr ht, obS, m_wsum hg h.1 hr, obS, eW, qL_of (show wsm w r < 2147483648 by omega), qL_of (show wx w r t < 2147483648 by omega), if_neg (show ¬ nL (wsm w r) = 0 by rw [qL_eq0 (by omega)]; omega), obS, qI_cl (show r < 2147483648 by omega), qI_cl (show t < 2147483648 by omega), hP r hr, e0, h1, h2, hV r hr, qL_add]
    simp only [qI_cl (show t < 2147483648 by omega), ixn ht (show 4 ≤ 2147483648 by decide), if_false, qI_succ]
    have fin : ∀ v : Nat, V r * Bw w r t = v → ∃ ne' mo', f_X13_goes_142 g pa wa (nL (cmn (wsm w))) (nI t) z f (nI (r + 1)) (vp_updL ne t (nL (Xs (Aw w) P r t + P r * Aw w r t))) (upd mo t (nI (Xs (Bw w) V r t) + nI v)) = z ne' mo' ∧ ne' t = nL (Xs (Aw w) P 4 t) ∧ mo' t = nI (Xs (Bw w) V 4 t) ∧ ∀ j, j ≠ t → ne' j = ne j ∧ mo' j = mo j := by
      intro v hv
      obtain ⟨ne', mo', q1, q2, q3, q4⟩ := m_in_go hg h hP hPl hM hV ht z m (r + 1) f (vp_updL ne t (nL (Xs (Aw w) P r t + P r * Aw w r t))) (upd mo t (nI (Xs (Bw w) V r t) + nI v)) (by omega) (by omega) (updL_same _ _ _) ((upd_same _ _ _).trans (by rw [qI_add, ← hv]; rfl))
      refine ⟨ne', mo', q1, q2, q3, fun j hj => ?_⟩
      obtain ⟨a, b⟩ := q4 j hj
      exact ⟨a.trans (updL_ne _ _ hj), b.trans (upd_ne _ _ hj)⟩
    by_cases h0 : wx w r t = 0
    · rw [if_pos (show nI (wx w r t) ≤ 0 by rw [h0]; exact Int32.le_refl _)]
      exact fin 0 (by rw [Bw_ite, if_pos h0])
    · rw [if_neg (show ¬ nI (wx w r t) ≤ 0 by rw [show (0 : Int32) = nI 0 from rfl, qI_le (by omega) (by decide)]; omega)]
      exact fin (V r) (by rw [Bw_ite, if_neg h0])
theorem m_out_go {g w : Nat → Int32} (hg : ∀ k, k < 16 → g (32 + k) = w k) (h : WS w) {pa : Nat → Int64} {wa : Nat → Int32} {P V : Nat → Nat} {M : Nat} (hP : PaS pa P) (hPl : ∀ t, t < 4 → P t ≤ M) (hM : M ≤ 1676676672000) (hV : WaS wa V) (z : (Nat → Int64) → (Nat → Int32) → Option ((Nat → Int64) × (Nat → Int64) × (Nat → Int32) × (Nat → Int32) × Int64)) : ∀ (m t f : Nat) (ne : Nat → Int64) (mo : Nat → Int32), t + m = 4 → m < f → (∀ j, j < t → ne j = nL (Xs (Aw w) P 4 j) ∧ mo j = nI (Xs (Bw w) V 4 j)) → ∃ ne' mo', f_X13_goes_117 g pa wa (nL (cmn (wsm w))) z f (nI t) ne mo = z ne' mo' ∧ PaS ne' (Xs (Aw w) P 4) ∧ WaS mo' (Xs (Bw w) V 4)
  | _, _, 0, _, _, _, h, _ => by omega
  | 0, t, f + 1, ne, mo, hk, _, hF => by
    obtain rfl : t = 4 := by omega
    refine ⟨ne, mo, ?_, fun j hj => (hF j hj).1, fun j hj => (hF j hj).2⟩
    rw [f_X13_goes_117, if_pos (show (4 : Int32) ≤ nI 4 from Int32.le_refl _)]
  | m + 1, t, f + 1, ne, mo, hk, hf, hF => by
    have ht : t < 4 := by omega
    obtain ⟨ne', mo', q1, q2, q3, q4⟩ := m_in_go hg h hP hPl hM hV ht (fun a b => f_X13_goes_117 g pa wa (nL (cmn (wsm w))) z f (nI t + 1) a b) 4 0 1000 (vp_updL ne t 0) (upd mo t 0) rfl (by decide) (updL_same _ _ _) (upd_same _ _ _)
    rw [f_X13_goes_117, if_neg (show ¬ (4 : Int32) ≤ nI t from nle ht (by decide)), if_neg (ixo ht (by decide)), qI_cl (show t < 2147483648 by omega), show (0 : Int32) = nI 0 from rfl]
    rw [show upd mo t 0 = upd mo t (nI 0) from rfl] at q1
    rw [q1, qI_succ]
    refine m_out_go hg h hP hPl hM hV z m (t + 1) f ne' mo' (by omega) (by omega) (fun j hj => ?_)
    by_cases e : j = t
    · subst e; exact ⟨q2, q3⟩
    · obtain ⟨a, b⟩ := q4 j e
      obtain ⟨c, d⟩ := hF j (by omega)
      exact ⟨a.trans ((updL_ne _ _ e).trans c), b.trans ((upd_ne _ _ e).trans d)⟩
theorem m_lay_go {ne : Nat → Int64} {mo : Nat → Int32} (z : (Nat → Int64) → (Nat → Int32) → Option ((Nat → Int64) × (Nat → Int64) × (Nat → Int32) × (Nat → Int32) × Int64)) : ∀ (m k f : Nat) (pa : Nat → Int64) (wa : Nat → Int32), k + m = 4 → m < f → (∀ j, j < k → pa j = ne j ∧ wa j = mo j) → ∃ pa' wa', f_X13_goes_232 ne mo z f (nI k) pa wa = z pa' wa' ∧ ∀ j, j < 4 → pa' j = ne j ∧ wa' j = mo j
  | _, _, 0, _, _, _, h, _ => by omega
  | 0, k, f + 1, pa, wa, hk, _, hF => by
    obtain rfl : k = 4 := by omega
    refine ⟨pa, wa, ?_, hF⟩
    rw [f_X13_goes_232, if_pos (show (4 : Int32) ≤ nI 4 from Int32.le_refl _)]
  | m + 1, k, f + 1, pa, wa, hk, hf, hF => by
    have hk4 : k < 4 := by omega
    rw [f_X13_goes_232, if_neg (show ¬ (4 : Int32) ≤ nI k from nle hk4 (by decide)), if_neg (ixo hk4 (by decide)), qI_cl (show k < 2147483648 by omega), qI_succ]
    refine m_lay_go z m (k + 1) f _ _ (by omega) (by omega) (fun j hj => ?_)
    by_cases e : j = k
    · subst e; exact ⟨updL_same _ _ _, upd_same _ _ _⟩
    · rw [updL_ne _ _ e, upd_ne _ _ e]; exact hF j (by omega)
theorem m_goes_go {g w : Nat → Int32} (hg : ∀ k, k < 16 → g (32 + k) = w k) (h : WS w) {p : Nat} (hp : p < 4) {d : Nat} (hd : d ≤ 3) (z : (Nat → Int64) → (Nat → Int64) → (Nat → Int32) → (Nat → Int32) → Int64 → Option ((Nat → Int64) × (Nat → Int64) × (Nat → Int32) × (Nat → Int32) × Int64)) : ∀ (m k f : Nat) (pa ne : Nat → Int64) (wa mo : Nat → Int32), k + m = d → m < f → PaS pa (Pn (Aw w) p k) → WaS wa (Pn (Bw w) p k) → ∃ pa' ne' wa' mo', f_X13_goes_108 g (nI d) (nL (cmn (wsm w))) z f (nI k) pa ne wa mo (nL (cmn (wsm w) ^ k)) = z pa' ne' wa' mo' (nL (cmn (wsm w) ^ d)) ∧ PaS pa' (Pn (Aw w) p d) ∧ WaS wa' (Pn (Bw w) p d)
  | _, _, 0, _, _, _, _, _, h, _, _ => by omega
  | 0, k, f + 1, pa, ne, wa, mo, hk, _, h1, h2 => by
    obtain rfl : k = d := by omega
    refine ⟨pa, ne, wa, mo, ?_, h1, h2⟩
    rw [f_X13_goes_108, if_pos (Int32.le_refl _)]
  | m + 1, k, f + 1, pa, ne, wa, mo, hk, hf, h1, h2 => by
    obtain ⟨hC1, hC2, hC3⟩ := cmn_ok (WS_b h)
    have hM := pow_ok hC2 hC3 k (by omega)
    obtain ⟨ne', mo', q1, q2, q3⟩ := m_out_go hg h h1 (fun t ht => Pn_le h hp k ht) hM.2 h2 (fun a b => f_X13_goes_232 a b (fun c d' => f_X13_goes_108 g (nI d) (nL (cmn (wsm w))) z f (nI k + 1) c a d' b (nL (cmn (wsm w) ^ k) * nL (cmn (wsm w)))) 1000 0 pa wa) 4 0 1000 ne mo rfl (by decide) (fun j hj => by omega)
    obtain ⟨pa', wa', r1, r2⟩ := m_lay_go (ne := ne') (mo := mo') (fun c d' => f_X13_goes_108 g (nI d) (nL (cmn (wsm w))) z f (nI k + 1) c ne' d' mo' (nL (cmn (wsm w) ^ k) * nL (cmn (wsm w)))) 4 0 1000 pa wa rfl (by decide) (fun j hj => by omega)
    rw [f_X13_goes_108, if_neg (nle (show k < d by omega) (by omega))]
    have q1' := q1.trans r1
    rw [qI_succ, qL_mul, ← Nat.pow_succ] at q1'
    obtain ⟨a1, a2, a3, a4, b1, b2, b3⟩ := m_goes_go hg h hp hd z m (k + 1) f pa' ne' wa' mo' (by omega) (by omega) (fun t ht => (r2 t ht).1.trans (q2 t ht)) (fun t ht => (r2 t ht).2.trans (q3 t ht))
    refine ⟨a1, a2, a3, a4, ?_, b2, b3⟩
    rw [← b1, ← q1', qI_succ, qL_mul, ← Nat.pow_succ]
    rfl
theorem m_goes {g w : Nat → Int32} (hg : ∀ k, k < 16 → g (32 + k) = w k) (h : WS w) {p : Nat} (hg1 : g 1 = nI p) (hp : p < 4) {d : Nat} (hd : d ≤ 3) (pa ne : Nat → Int64) (wa mo : Nat → Int32) (wh : Int64) : ∃ pa' ne' wa' mo', f_X13_goes g pa ne wa mo wh (nI d) = some (pa', ne', wa', mo', nL (cmn (wsm w) ^ d)) ∧ PaS pa' (Pn (Aw w) p d) ∧ WaS wa' (Pn (Bw w) p d) := by
  obtain ⟨pa1, wa1, q1, q2⟩ := m_st_go hg1 hp (fun a b => f_X13_goes_108 g (nI d) (nL (cmn (wsm w))) (fun a b c d e => some (a, b, c, d, e)) 1000 0 a ne b mo 1) 4 0 1000 pa wa rfl (by decide) (fun j hj => by omega)
  obtain ⟨pa', ne', wa', mo', r1, r2, r3⟩ := m_goes_go hg h hp hd (fun a b c d e => some (a, b, c, d, e)) d 0 1000 pa1 ne wa1 mo (by omega) (by omega) (fun t ht => (q2 t ht).1) (fun t ht => (q2 t ht).2)
  refine ⟨pa', ne', wa', mo', ?_, r2, r3⟩
  unfold f_X13_goes
  rw [m_common hg h]
  exact q1.trans r1
