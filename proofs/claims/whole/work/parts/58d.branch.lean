/-! sums over branches -/
def sm (f : Nat → Nat) : Nat → Nat
  | 0 => 0
  | n + 1 => sm f n + f n
theorem sm_congr {f g : Nat → Nat} : ∀ {n : Nat}, (∀ j, j < n → f j = g j) → sm f n = sm g n
  | 0, _ => rfl
  | n + 1, h => by rw [sm, sm, sm_congr (fun j hj => h j (by omega)), h n (by omega)]
theorem sm_zero {f : Nat → Nat} : ∀ {n : Nat}, (∀ j, j < n → f j = 0) → sm f n = 0
  | 0, _ => rfl
  | n + 1, h => by rw [sm, sm_zero (fun j hj => h j (by omega)), h n (by omega)]
theorem sm_split (f : Nat → Nat) (n : Nat) : ∀ m, sm f (n + m) = sm f n + sm (fun j => f (n + j)) m
  | 0 => rfl
  | m + 1 => by rw [← Nat.add_assoc, sm, sm, sm_split f n m, Nat.add_assoc]
theorem sm_mul (f : Nat → Nat) (c : Nat) : ∀ n, sm (fun j => f j * c) n = sm f n * c
  | 0 => (Nat.zero_mul c).symm
  | n + 1 => by rw [sm, sm, sm_mul f c n, Nat.add_mul]
theorem sm_addf (f g : Nat → Nat) : ∀ n, sm (fun j => f j + g j) n = sm f n + sm g n
  | 0 => rfl
  | n + 1 => by rw [sm, sm, sm, sm_addf f g n]; omega
theorem sm_mono (f : Nat → Nat) : ∀ {n m : Nat}, n ≤ m → sm f n ≤ sm f m
  | n, 0, h => by
    obtain rfl : n = 0 := by omega
    exact Nat.le_refl _
  | n, m + 1, h => by
    by_cases e : n = m + 1
    · subst e; exact Nat.le_refl _
    · exact Nat.le_trans (sm_mono f (show n ≤ m by omega)) (Nat.le_add_right _ _)
def ptx (p b : Nat) : Nat → Nat
  | 0 => p
  | d + 1 => b / 4 ^ d % 4
def pa (A : Nat → Nat → Nat) (p b : Nat) : Nat → Nat
  | 0 => 1
  | d + 1 => pa A p b d * A (ptx p b d) (ptx p b (d + 1))
def wsP (S : Nat → Nat) (p b : Nat) : Nat → Nat
  | 0 => 1
  | d + 1 => wsP S p b d * S (ptx p b d)
theorem ptx_lt {p : Nat} (hp : p < 4) (b : Nat) : ∀ d, ptx p b d < 4
  | 0 => hp
  | _ + 1 => Nat.mod_lt _ (by decide)
theorem ptx_mod (p q j d : Nat) : ∀ i, i ≤ d → ptx p (q * 4 ^ d + j) i = ptx p j i
  | 0, _ => rfl
  | i + 1, h => by
    show (q * 4 ^ d + j) / 4 ^ i % 4 = j / 4 ^ i % 4
    obtain ⟨e, rfl⟩ : ∃ e, d = i + 1 + e := ⟨d - (i + 1), by omega⟩
    have e1 : q * 4 ^ (i + 1 + e) = 4 ^ i * (4 * (q * 4 ^ e)) := by
      rw [Nat.pow_add, Nat.pow_succ, Nat.mul_left_comm q, Nat.mul_assoc (4 ^ i) 4]
    rw [e1, Nat.mul_add_div (Nat.pow_pos (by decide)), Nat.mul_add_mod]
theorem pa_mod (A : Nat → Nat → Nat) (p q j d : Nat) : ∀ i, i ≤ d → pa A p (q * 4 ^ d + j) i = pa A p j i
  | 0, _ => rfl
  | i + 1, h => by rw [pa, pa, pa_mod A p q j d i (by omega), ptx_mod p q j d i (by omega), ptx_mod p q j d (i + 1) h]
def XB (A : Nat → Nat → Nat) (p d B t : Nat) : Nat := sm (fun b => if ptx p b d = t then pa A p b d else 0) B
theorem XB_all (A : Nat → Nat → Nat) {p : Nat} (hp : p < 4) : ∀ d t, t < 4 → XB A p d (4 ^ d) t = Pn A p d t
  | 0, t, ht => by
    show sm _ 1 = if t = p then 1 else 0
    rw [sm, sm, Nat.zero_add]
    show (if p = t then 1 else 0) = _
    by_cases e : t = p
    · rw [if_pos e, if_pos e.symm]
    · rw [if_neg e, if_neg (fun q => e q.symm)]
  | d + 1, t, ht => by
    have ih := XB_all A hp d
    have hN : 0 < 4 ^ d := Nat.pow_pos (by decide)
    have part : ∀ q, q < 4 → sm (fun j => if ptx p (q * 4 ^ d + j) (d + 1) = t then pa A p (q * 4 ^ d + j) (d + 1) else 0) (4 ^ d) = if q = t then sm (fun j => pa A p j d * A (ptx p j d) t) (4 ^ d) else 0 := by
      intro q hq
      have hx : ∀ j, j < 4 ^ d → ptx p (q * 4 ^ d + j) (d + 1) = q := fun j hj => by
        show (q * 4 ^ d + j) / 4 ^ d % 4 = q
        rw [Nat.mul_comm q, Nat.mul_add_div hN, Nat.div_eq_of_lt hj, Nat.add_zero, Nat.mod_eq_of_lt hq]
      by_cases e : q = t
      · rw [if_pos e]
        refine sm_congr (fun j hj => ?_)
        rw [if_pos (show ptx p (q * 4 ^ d + j) (d + 1) = t by rw [hx j hj]; exact e), pa, pa_mod A p q j d d (Nat.le_refl _), ptx_mod p q j d d (Nat.le_refl _), hx j hj, e]
      · rw [if_neg e]
        exact sm_zero (fun j hj => if_neg (by rw [hx j hj]; exact e))
    have inner : sm (fun j => pa A p j d * A (ptx p j d) t) (4 ^ d) = Pn A p d 0 * A 0 t + Pn A p d 1 * A 1 t + Pn A p d 2 * A 2 t + Pn A p d 3 * A 3 t := by
      rw [← ih 0 (by decide), ← ih 1 (by decide), ← ih 2 (by decide), ← ih 3 (by decide)]
      unfold XB
      rw [← sm_mul, ← sm_mul, ← sm_mul, ← sm_mul, ← sm_addf, ← sm_addf, ← sm_addf]
      refine sm_congr (fun j _ => ?_)
      have hl := ptx_lt hp j d
      generalize ptx p j d = x at hl ⊢
      rcases (show x = 0 ∨ x = 1 ∨ x = 2 ∨ x = 3 by omega) with rfl | rfl | rfl | rfl <;> simp
    have tot : XB A p (d + 1) (4 ^ (d + 1)) t = sm (fun j => pa A p j d * A (ptx p j d) t) (4 ^ d) := by
      unfold XB
      rw [show 4 ^ (d + 1) = 4 ^ d + (4 ^ d + (4 ^ d + 4 ^ d)) by rw [Nat.pow_succ]; omega, sm_split, sm_split, sm_split]
      have p0 := part 0 (by decide)
      have p1 := part 1 (by decide)
      have p2 := part 2 (by decide)
      have p3 := part 3 (by decide)
      have s0 : ∀ j, 0 * 4 ^ d + j = j := fun j => by omega
      have s1 : ∀ j, 1 * 4 ^ d + j = 4 ^ d + j := fun j => by omega
      have s2 : ∀ j, 2 * 4 ^ d + j = 4 ^ d + (4 ^ d + j) := fun j => by omega
      have s3 : ∀ j, 3 * 4 ^ d + j = 4 ^ d + (4 ^ d + (4 ^ d + j)) := fun j => by omega
      simp only [s0] at p0
      simp only [s1] at p1
      simp only [s2] at p2
      simp only [s3] at p3
      rw [p0, p1, p2, p3]
      rcases (show t = 0 ∨ t = 1 ∨ t = 2 ∨ t = 3 by omega) with rfl | rfl | rfl | rfl <;> simp
    rw [tot, inner]
    simp only [Pn, Xs, Nat.zero_add]
theorem XB_le (A : Nat → Nat → Nat) {p : Nat} (hp : p < 4) {d B t : Nat} (hB : B ≤ 4 ^ d) (ht : t < 4) : XB A p d B t ≤ Pn A p d t := by
  rw [← XB_all A hp d t ht]
  exact sm_mono _ hB
theorem pa_rel {w : Nat → Int32} (h : WS w) {p : Nat} (hp : p < 4) (b : Nat) : ∀ d, pa (wx w) p b d * cmn (wsm w) ^ d = pa (Aw w) p b d * wsP (wsm w) p b d
  | 0 => rfl
  | d + 1 => by
    rw [pa, pa, wsP, Nat.pow_succ, Nat.mul_mul_mul_comm (pa (wx w) p b d), Nat.mul_mul_mul_comm (pa (Aw w) p b d), pa_rel h hp b d, Aw_mul h (ptx_lt hp b d)]
theorem pa_B (w : Nat → Int32) (p b : Nat) : ∀ d, pa (Bw w) p b d = if pa (wx w) p b d = 0 then 0 else 1
  | 0 => rfl
  | d + 1 => by
    rw [pa, pa, Bw_ite, pa_B w p b d]
    by_cases h : pa (wx w) p b d = 0
    · rw [if_pos h, h, Nat.zero_mul, if_pos rfl]
      by_cases h2 : wx w (ptx p b d) (ptx p b (d + 1)) = 0
      · rw [if_pos h2]
      · rw [if_neg h2]
    · rw [if_neg h]
      by_cases h2 : wx w (ptx p b d) (ptx p b (d + 1)) = 0
      · rw [if_pos h2, h2, Nat.mul_zero, if_pos rfl]
      · rw [if_neg h2, if_neg (fun q => (Nat.mul_eq_zero.mp q).elim h h2)]
theorem wsP_dvd {w : Nat → Int32} (h : WS w) {p : Nat} (hp : p < 4) (b : Nat) : ∀ d, wsP (wsm w) p b d ∣ Dn (cmn (wsm w)) (wsm w p) d
  | 0 => Nat.dvd_refl _
  | 1 => by
    show 1 * wsm w p ∣ wsm w p
    rw [Nat.one_mul]
    exact Nat.dvd_refl _
  | d + 2 => Nat.mul_dvd_mul (wsP_dvd h hp b (d + 1)) ((cmn_ok (WS_b h)).1 _ (ptx_lt hp b (d + 1)))
theorem wsP_b {w : Nat → Int32} (h : WS w) {p : Nat} (hp : p < 4) (b : Nat) {d : Nat} (hd : d ≤ 3) : 0 < wsP (wsm w) p b d ∧ wsP (wsm w) p b d ≤ 1693612800 := by
  obtain ⟨hS1, hS2⟩ := WS_b h p hp
  obtain ⟨-, hC2, hC3⟩ := cmn_ok (WS_b h)
  obtain ⟨q1, q2⟩ := Dn_ok hC2 hC3 (by omega) hS2 d hd
  have hv := wsP_dvd h hp b d
  exact ⟨Nat.pos_of_dvd_of_pos hv q1, Nat.le_trans (Nat.le_of_dvd q1 hv) q2⟩
theorem pa_b {w : Nat → Int32} (h : WS w) {p : Nat} (hp : p < 4) (b : Nat) : ∀ d, pa (wx w) p b d ≤ 3 ^ d
  | 0 => Nat.le_refl _
  | d + 1 => by
    rw [pa, Nat.pow_succ]
    have := (wx_eq h.1 (ptx_lt hp b d) (ptx_lt hp b (d + 1))).2
    exact Nat.mul_le_mul (pa_b h hp b d) (by omega)
theorem s_follow_go {w : Nat → Int32} (h : WS w) {p : Nat} (hp : p < 4) {d : Nat} (hd : d ≤ 3) {b : Nat} (hb : b < 2147483648) (z : Int32 → Int64 → Int64 → Option ((Nat → Int64) × (Nat → Int64) × (Nat → Int32))) : ∀ (m k f : Nat), k + m = d → m < f → f_X1_follow_18 w (nI d) z f (nI (ptx p b k)) (nL (pa (wx w) p b k)) (nL (wsP (wsm w) p b k)) (nI (b / 4 ^ k)) (nI k) = z (nI (ptx p b d)) (nL (pa (wx w) p b d)) (nL (wsP (wsm w) p b d))
  | _, _, 0, _, h => by omega
  | 0, k, f + 1, hk, _ => by
    obtain rfl : k = d := by omega
    rw [f_X1_follow_18, if_pos (Int32.le_refl _)]
  | m + 1, k, f + 1, hk, hf => by
    have hx := ptx_lt hp b k
    have hx1 := ptx_lt hp b (k + 1)
    have hbk : b / 4 ^ k < 2147483648 := Nat.lt_of_le_of_lt (Nat.div_le_self _ _) hb
    have e1 : nI (b / 4 ^ k) - nI (b / 4 ^ k) / 4 * 4 = nI (ptx p b (k + 1)) := qI_mod (b := 4) hbk (by decide)
    have e2 : nI (b / 4 ^ k) / 4 = nI (b / 4 ^ (k + 1)) := (qI_div (b := 4) hbk (by decide)).trans (by rw [Nat.div_div_eq_div_mul, Nat.pow_succ])
    obtain ⟨eW, hW⟩ := wx_eq h.1 hx hx1
    obtain ⟨hS1, hS2⟩ := WS_b h _ hx
    rw [f_X1_follow_18, if_neg (nle (show k < d by omega) (by omega)), if_neg (show ¬ (3 : Int32) ≤ nI k from nle (show k < 3 by omega) (by decide)), e1, s_weight w hx hx1 (nw4 hx) (nw4 hx1), obS, s_wsum h.1 hx, obS, eW, qL_of (by omega), qL_of (by omega), qL_mul, qL_mul, e2, qI_succ]
    exact s_follow_go h hp hd hb z m (k + 1) f (by omega) (by omega)
theorem s_follow {w : Nat → Int32} (h : WS w) {p : Nat} (hp : p < 4) {d : Nat} (hd : d ≤ 3) {B : Nat} (hB : B < 4 ^ d) {nu de : Nat → Int64} {se : Nat → Int32} (h1 : FrS nu de (XB (Aw w) p d B) (cmn (wsm w) ^ d) (Dn (cmn (wsm w)) (wsm w p) d)) (h2 : WaS se (XB (Bw w) p d B)) : ∃ nu' de' se', f_X1_follow nu de se w (nI p) (nI d) (nI B) = some (nu', de', se') ∧ FrS nu' de' (XB (Aw w) p d (B + 1)) (cmn (wsm w) ^ d) (Dn (cmn (wsm w)) (wsm w p) d) ∧ WaS se' (XB (Bw w) p d (B + 1)) := by
  obtain ⟨hS1, hS2⟩ := WS_b h p hp
  obtain ⟨hC1, hC2, hC3⟩ := cmn_ok (WS_b h)
  have hM := pow_ok hC2 hC3 d hd
  have hD := Dn_ok hC2 hC3 (by omega) hS2 d hd
  have hpow : 4 ^ d ≤ 4 ^ 3 := Nat.pow_le_pow_right (by decide) hd
  have hpow3 : 3 ^ d ≤ 3 ^ 3 := Nat.pow_le_pow_right (by decide) hd
  have hpa := pa_b h hp B d
  obtain ⟨hw1, hw2⟩ := wsP_b h hp B hd
  have hx := ptx_lt hp B d
  have hrel := pa_rel h hp B d
  have hBw := pa_B w p B d
  have hgo := s_follow_go h hp hd (b := B) (by omega) (fun l4_78e l5_78e l7_78e => jo (fun (x_byBranch_numerators_117 : Nat → Int64) (x_byBranch_denominators_117 : Nat → Int64) (x_sequences_117 : Nat → Int32) => some (x_byBranch_numerators_117, x_byBranch_denominators_117, x_sequences_117)) (fun j117 => if (lg_cmp l5_78e 0) ≤ 0 then j117 nu de se else (f_X2_isWeather l4_78e).bind fun r87 => if r87 = 0 then j117 nu de se else (f_X5_add nu de l4_78e l5_78e l7_78e).bind fun r103 => if l4_78e < 0 ∨ 4 ≤ l4_78e.toNatClampNeg then none else j117 r103.1 r103.2 (upd se l4_78e.toNatClampNeg ((se l4_78e.toNatClampNeg) + 1)))) d 0 1000 (by omega) (by omega)
  rw [Nat.pow_zero, Nat.div_one] at hgo
  have hgo' : f_X1_follow nu de se w (nI p) (nI d) (nI B) = _ := hgo
  rw [hgo', joE]
  have hXB : ∀ (A : Nat → Nat → Nat) t, XB A p d (B + 1) t = XB A p d B t + if ptx p B d = t then pa A p B d else 0 := fun A t => rfl
  by_cases h0 : pa (wx w) p B d = 0
  · rw [if_pos (show lg_cmp (nL (pa (wx w) p B d)) 0 ≤ 0 by rw [lgL0 (by omega)]; exact h0)]
    have hA0 : pa (Aw w) p B d = 0 := by
      rw [h0, Nat.zero_mul] at hrel
      exact (Nat.mul_eq_zero.mp hrel.symm).resolve_right (by omega)
    rw [if_pos h0] at hBw
    refine ⟨nu, de, se, rfl, FrS_congr h1 (fun t _ => ?_), fun t ht => ?_⟩
    · rw [hXB, hA0, ite_self, Nat.add_zero]
    · rw [hXB, hBw, ite_self, Nat.add_zero]
      exact h2 t ht
  · rw [if_neg h0] at hBw
    obtain ⟨nu', de', a1, a2⟩ := s_add h1 hM.1 hD.1 (by omega) hx (a := pa (wx w) p B d) (b := wsP (wsm w) p B d) (Y := pa (Aw w) p B d) (by omega) hw1 hrel (fun _ => wsP_dvd h hp B d) (by omega) (by
      have q := Nat.le_trans (XB_le (Aw w) hp (show B + 1 ≤ 4 ^ d by omega) hx) (Pn_le h hp d hx)
      rw [hXB, if_pos rfl] at q
      exact q)
    rw [if_neg (show ¬ lg_cmp (nL (pa (wx w) p B d)) 0 ≤ 0 by rw [lgL0 (by omega)]; exact h0), s_isWeather, if_neg (nw4 hx), obS, if_neg i10, a1, obS, if_neg (ixo hx (by decide)), qI_cl (show ptx p B d < 2147483648 by omega)]
    refine ⟨nu', de', _, rfl, FrS_congr a2 (fun t _ => ?_), fun t ht => ?_⟩
    · rw [hXB]
      by_cases e : t = ptx p B d
      · rw [if_pos e, if_pos e.symm, e]
      · rw [if_neg e, if_neg (fun q => e q.symm), Nat.add_zero]
    · rw [hXB, hBw]
      by_cases e : t = ptx p B d
      · rw [if_pos e.symm, e, upd_same, h2 _ hx, qI_succ]
      · rw [if_neg (fun q => e q.symm), upd_ne _ _ e, Nat.add_zero]
        exact h2 t ht
theorem s_br_go {w : Nat → Int32} (h : WS w) {p : Nat} (hp : p < 4) {d : Nat} (hd : d ≤ 3) (z : (Nat → Int64) → (Nat → Int64) → (Nat → Int32) → Option ((Nat → Int64) × (Nat → Int64) × (Nat → Int32))) : ∀ (m B f : Nat) (nu de : Nat → Int64) (se : Nat → Int32), B + m = 4 ^ d → m < f → FrS nu de (XB (Aw w) p d B) (cmn (wsm w) ^ d) (Dn (cmn (wsm w)) (wsm w p) d) → WaS se (XB (Bw w) p d B) → ∃ nu' de' se', f_X1_branchByBranch_60 w (nI p) (nI d) (nI (4 ^ d)) z f (nI B) nu de se = z nu' de' se' ∧ FrS nu' de' (XB (Aw w) p d (4 ^ d)) (cmn (wsm w) ^ d) (Dn (cmn (wsm w)) (wsm w p) d) ∧ WaS se' (XB (Bw w) p d (4 ^ d))
  | _, _, 0, _, _, _, _, h, _, _ => by omega
  | 0, B, f + 1, nu, de, se, hk, _, h1, h2 => by
    obtain rfl : B = 4 ^ d := by omega
    refine ⟨nu, de, se, ?_, h1, h2⟩
    rw [f_X1_branchByBranch_60, if_pos (Int32.le_refl _)]
  | m + 1, B, f + 1, nu, de, se, hk, hf, h1, h2 => by
    have hpow : 4 ^ d ≤ 4 ^ 3 := Nat.pow_le_pow_right (by decide) hd
    obtain ⟨nu', de', se', a1, a2, a3⟩ := s_follow h hp hd (show B < 4 ^ d by omega) h1 h2
    rw [f_X1_branchByBranch_60, if_neg (nle (show B < 4 ^ d by omega) (by omega)), a1, obS, qI_succ]
    exact s_br_go h hp hd z m (B + 1) f nu' de' se' (by omega) (by omega) a2 a3
theorem s_seq0_go (z : (Nat → Int32) → Option ((Nat → Int64) × (Nat → Int64) × (Nat → Int32))) : ∀ (m k f : Nat) (se : Nat → Int32), k + m = 4 → m < f → (∀ j, j < k → se j = 0) → ∃ se', f_X1_branchByBranch_37 z f (nI k) se = z se' ∧ ∀ j, j < 4 → se' j = 0
  | _, _, 0, _, _, h, _ => by omega
  | 0, k, f + 1, se, hk, _, h => by
    obtain rfl : k = 4 := by omega
    refine ⟨se, ?_, h⟩
    rw [f_X1_branchByBranch_37, if_pos (show (4 : Int32) ≤ nI 4 from Int32.le_refl _)]
  | m + 1, k, f + 1, se, hk, hf, h => by
    have hk4 : k < 4 := by omega
    rw [f_X1_branchByBranch_37, if_neg (show ¬ (4 : Int32) ≤ nI k from nle hk4 (by decide)), if_neg (ixo hk4 (by decide)), qI_cl (show k < 2147483648 by omega), qI_succ]
    refine s_seq0_go z m (k + 1) f _ (by omega) (by omega) (fun j hj => ?_)
    by_cases e : j = k
    · subst e; exact upd_same _ _ _
    · rw [upd_ne _ _ e]; exact h j (by omega)
theorem s_pow_go {d : Nat} (hd : d ≤ 3) (z : Int32 → Option ((Nat → Int64) × (Nat → Int64) × (Nat → Int32))) : ∀ (m k f : Nat), k + m = d → m < f → f_X1_branchByBranch_12 (nI d) z f (nI (4 ^ k)) (nI k) = z (nI (4 ^ d))
  | _, _, 0, _, h => by omega
  | 0, k, f + 1, hk, _ => by
    obtain rfl : k = d := by omega
    rw [f_X1_branchByBranch_12, if_pos (Int32.le_refl _)]
  | m + 1, k, f + 1, hk, hf => by
    rw [f_X1_branchByBranch_12, if_neg (nle (show k < d by omega) (by omega)), if_neg (show ¬ (3 : Int32) ≤ nI k from nle (show k < 3 by omega) (by decide)), show nI (4 ^ k) * 4 = nI (4 ^ (k + 1)) from qI_mul (4 ^ k) 4, qI_succ]
    exact s_pow_go hd z m (k + 1) f (by omega) (by omega)
theorem s_branches {w : Nat → Int32} (h : WS w) {p : Nat} (hp : p < 4) {d : Nat} (hd : d ≤ 3) (nu de : Nat → Int64) (se : Nat → Int32) : ∃ nu' de' se', f_X1_branchByBranch nu de se w (nI p) (nI d) = some (nu', de', se') ∧ FrS nu' de' (Pn (Aw w) p d) (cmn (wsm w) ^ d) (Dn (cmn (wsm w)) (wsm w p) d) ∧ WaS se' (Pn (Bw w) p d) := by
  obtain ⟨hC1, hC2, hC3⟩ := cmn_ok (WS_b h)
  have hM := pow_ok hC2 hC3 d hd
  have hpow : 4 ^ d ≤ 4 ^ 3 := Nat.pow_le_pow_right (by decide) hd
  obtain ⟨cn, cd, c1, c2⟩ := s_clear (M := cmn (wsm w) ^ d) (D := Dn (cmn (wsm w)) (wsm w p) d) hM.1 nu de
  obtain ⟨s0, e1, e2⟩ := s_seq0_go (fun x => f_X1_branchByBranch_60 w (nI p) (nI d) (nI (4 ^ d)) (fun a b c => some (a, b, c)) 1000 0 cn cd x) 4 0 1000 se rfl (by decide) (fun j hj => by omega)
  obtain ⟨nu', de', se', g1, g2, g3⟩ := s_br_go h hp hd (fun a b c => some (a, b, c)) (4 ^ d) 0 1000 cn cd s0 (by omega) (by omega) c2 (fun t ht => e2 t ht)
  refine ⟨nu', de', se', ?_, FrS_congr g2 (fun t ht => XB_all _ hp d t ht), fun t ht => (g3 t ht).trans (congrArg nI (XB_all _ hp d t ht))⟩
  unfold f_X1_branchByBranch
  rw [c1, obS]
  refine (s_pow_go hd (fun l3 => f_X1_branchByBranch_37 (fun x => f_X1_branchByBranch_60 w (nI p) (nI d) l3 (fun a b c => some (a, b, c)) 1000 0 cn cd x) 1000 0 se) d 0 1000 (by omega) (by omega)).trans ?_
  exact e1.trans g1
theorem s_seqTo {se : Nat → Int32} {t : Nat} (ht : t < 4) : f_X1_sequencesTo se (nI t) = some (se t) := by
  unfold f_X1_sequencesTo
  rw [joE, s_isWeather, if_neg (nw4 ht), obS, if_neg i10, if_neg (ixo ht (by decide)), qI_cl (show t < 2147483648 by omega)]
