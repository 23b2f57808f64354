/-! shifting: class -/
def SLN (ix : Nat → Nat) : Nat → Nat → Int32 → Int32 × (Nat → Int32) → Int32 × (Nat → Int32)
  | 0, _, _, s => s
  | d + 1, k, v, s => SLN ix d (k + 1) (s.2 (ix k)) (s.1 + (if s.2 (ix k) = v then 0 else 1), upd s.2 (ix k) v)
theorem SLN_add (ix : Nat → Nat) : ∀ (d k : Nat) (v n e : Int32) (c : Nat → Int32), SLN ix d k v (e + n, c) = (e + (SLN ix d k v (n, c)).1, (SLN ix d k v (n, c)).2)
  | 0, _, _, _, _, _ => rfl
  | d + 1, k, v, n, e, c => by
    rw [SLN, SLN]
    simp only
    rw [Int32.add_assoc, SLN_add]
theorem l16 {F S : Int32} {ix : Nat → Nat} (hi : ∀ j, j < 5 → F + nI j * S = nI (ix j)) (hlt : ∀ j, j < 5 → ix j < 25) (z : Int32 → (Nat → Int32) → Option (Int32 × (Nat → Int32))) : ∀ (d k n : Nat) (cnt v : Int32) (c : Nat → Int32), k + d = 5 → d < n → f_X10_slideLine_16 F S z n cnt v (nI k) c = z (SLN ix d k v (cnt, c)).1 (SLN ix d k v (cnt, c)).2
  | _, _, 0, _, _, _, _, h => by omega
  | 0, k, n + 1, cnt, v, c, hk, _ => by
    obtain rfl : k = 5 := by omega
    rw [f_X10_slideLine_16, if_pos (show (5 : Int32) ≤ nI 5 from Int32.le_refl _)]
    rfl
  | d + 1, k, n + 1, cnt, v, c, hk, hn => by
    rw [f_X10_slideLine_16, if_neg (show ¬ (5 : Int32) ≤ nI k from nle (show k < 5 by omega) (by decide)), hi k (by omega), s_at (hlt k (by omega)), Option.bind_some, s_put (hlt k (by omega)), Option.bind_some, qI_succ]
    exact l16 hi hlt z d (k + 1) n _ _ _ (by omega) (by omega)
theorem s_slideLine {F S : Int32} {ix : Nat → Nat} (hi : ∀ j, j < 5 → F + nI j * S = nI (ix j)) (hlt : ∀ j, j < 5 → ix j < 25) (c : Nat → Int32) : f_X10_slideLine c F S = some (SLN ix 5 0 (c (ix 4)) (0, c)) := by
  unfold f_X10_slideLine
  rw [show F + 4 * S = nI (ix 4) from hi 4 (by decide), s_at (hlt 4 (by decide)), Option.bind_some]
  exact l16 hi hlt _ 5 0 1000 0 (c (ix 4)) c rfl (by decide)
/-- line after line -/
def SLL (ix : Nat → Nat → Nat) : Nat → Nat → Int32 × (Nat → Int32) → Int32 × (Nat → Int32)
  | 0, _, s => s
  | d + 1, k, s => SLL ix d (k + 1) (SLN (ix k) 5 0 (s.2 (ix k 4)) s)
theorem slide_go {a : Int32} {ix : Nat → Nat → Nat} (hlt : ∀ p, p < 5 → ∀ j, j < 5 → ix p j < 25) (z : Int32 → (Nat → Int32) → Option (Int32 × (Nat → Int32)))
    (hb : ∀ (p n : Nat) (cnt : Int32) (c : Nat → Int32), p < 5 → f_X10_slide_4 a z (n + 1) cnt (nI p) c = f_X10_slide_4 a z n (cnt + (SLN (ix p) 5 0 (c (ix p 4)) (0, c)).1) (nI (p + 1)) (SLN (ix p) 5 0 (c (ix p 4)) (0, c)).2) :
    ∀ (d k n : Nat) (cnt : Int32) (c : Nat → Int32), k + d = 5 → d < n → f_X10_slide_4 a z n cnt (nI k) c = z (SLL ix d k (cnt, c)).1 (SLL ix d k (cnt, c)).2
  | _, _, 0, _, _, _, h => by omega
  | 0, k, n + 1, cnt, c, hk, _ => by
    obtain rfl : k = 5 := by omega
    rw [f_X10_slide_4, if_pos (show (5 : Int32) ≤ nI 5 from Int32.le_refl _)]
    rfl
  | d + 1, k, n + 1, cnt, c, hk, hn => by
    rw [hb k n cnt c (by omega), slide_go hlt z hb d (k + 1) n _ _ (by omega) (by omega), SLL]
    have e := SLN_add (ix k) 5 0 (c (ix k 4)) 0 cnt c
    rw [Int32.add_zero] at e
    rw [e]
def ixN : Nat → Nat → Nat := fun p j => 20 + p - 5 * j
def ixE : Nat → Nat → Nat := fun p j => 5 * p + j
def ixS : Nat → Nat → Nat := fun p j => p + 5 * j
def ixW : Nat → Nat → Nat := fun p j => 5 * p + 4 - j
theorem ixs_m {a b k j q : Nat} (h : j * k ≤ a) (e : a - j * k = q) : nI a + nI j * (-(nI k)) = nI q := by
  rw [Int32.mul_neg, qI_mul, ← Int32.sub_eq_add_neg, qI_sub h, e]
theorem ixs_p {a k j q : Nat} (e : a + j * k = q) : nI a + nI j * nI k = nI q := by
  rw [qI_mul, qI_add, e]
theorem tN5 : (-5 : Int32) = -(nI 5) := by rw [li5]
theorem tN1 : (-1 : Int32) = -(nI 1) := by rw [li1]
theorem s_slideN (c : Nat → Int32) : f_X10_slide c 110 = some (SLL ixN 5 0 (0, c)) := by
  unfold f_X10_slide
  have hlt : ∀ p, p < 5 → ∀ j, j < 5 → ixN p j < 25 := fun p hp j hj => by unfold ixN; omega
  refine (slide_go (ix := ixN) hlt (fun l x => some (l, x)) (fun p n cnt c hp => ?_) 5 0 1000 0 c rfl (by decide)).trans (congrArg some (Prod.eta _))
  have hl : f_X10_slideLine c (nI (4 * 5 + p)) (-5) = some (SLN (ixN p) 5 0 (c (ixN p 4)) (0, c)) := by
    rw [tN5]
    exact s_slideLine (F := nI (4 * 5 + p)) (S := (-(nI 5))) (ix := ixN p) (fun j hj => by unfold ixN; exact ixs_m (b := 0) (by omega) (by omega)) (hlt p hp) c
  rw [f_X10_slide_4, if_neg (show ¬ (5 : Int32) ≤ nI p from nle hp (by decide))]
  rw [jo]
  rw [if_neg (show ¬ ((110 : Int32) = 101) by decide)]
  rw [if_pos (show (110 : Int32) = 110 from rfl)]
  have hc : f_X10_cellOf 4 (nI p) = some (nI (4 * 5 + p)) := by
    rw [li4]
    exact s_cellOf 4 p
  rw [hc, Option.bind_some, hl, Option.bind_some, qI_succ]
theorem s_slideE (c : Nat → Int32) : f_X10_slide c 101 = some (SLL ixE 5 0 (0, c)) := by
  unfold f_X10_slide
  have hlt : ∀ p, p < 5 → ∀ j, j < 5 → ixE p j < 25 := fun p hp j hj => by unfold ixE; omega
  refine (slide_go (ix := ixE) hlt (fun l x => some (l, x)) (fun p n cnt c hp => ?_) 5 0 1000 0 c rfl (by decide)).trans (congrArg some (Prod.eta _))
  have hl : f_X10_slideLine c (nI (p * 5 + 0)) 1 = some (SLN (ixE p) 5 0 (c (ixE p 4)) (0, c)) := by
    rw [li1]
    exact s_slideLine (F := nI (p * 5 + 0)) (S := (nI 1)) (ix := ixE p) (fun j hj => by unfold ixE; exact ixs_p (by omega)) (hlt p hp) c
  rw [f_X10_slide_4, if_neg (show ¬ (5 : Int32) ≤ nI p from nle hp (by decide))]
  rw [jo]
  rw [if_pos (show (101 : Int32) = 101 from rfl)]
  have hc : f_X10_cellOf (nI p) 0 = some (nI (p * 5 + 0)) := by
    rw [li0]
    exact s_cellOf p 0
  rw [hc, Option.bind_some, hl, Option.bind_some, qI_succ]
theorem s_slideS (c : Nat → Int32) : f_X10_slide c 115 = some (SLL ixS 5 0 (0, c)) := by
  unfold f_X10_slide
  have hlt : ∀ p, p < 5 → ∀ j, j < 5 → ixS p j < 25 := fun p hp j hj => by unfold ixS; omega
  refine (slide_go (ix := ixS) hlt (fun l x => some (l, x)) (fun p n cnt c hp => ?_) 5 0 1000 0 c rfl (by decide)).trans (congrArg some (Prod.eta _))
  have hl : f_X10_slideLine c (nI (0 * 5 + p)) 5 = some (SLN (ixS p) 5 0 (c (ixS p 4)) (0, c)) := by
    rw [li5]
    exact s_slideLine (F := nI (0 * 5 + p)) (S := (nI 5)) (ix := ixS p) (fun j hj => by unfold ixS; exact ixs_p (by omega)) (hlt p hp) c
  rw [f_X10_slide_4, if_neg (show ¬ (5 : Int32) ≤ nI p from nle hp (by decide))]
  rw [jo]
  rw [if_neg (show ¬ ((115 : Int32) = 101) by decide)]
  rw [if_neg (show ¬ ((115 : Int32) = 110) by decide)]
  rw [if_pos (show (115 : Int32) = 115 from rfl)]
  have hc : f_X10_cellOf 0 (nI p) = some (nI (0 * 5 + p)) := by
    rw [li0]
    exact s_cellOf 0 p
  rw [hc, Option.bind_some, hl, Option.bind_some, qI_succ]
theorem s_slideW (c : Nat → Int32) : f_X10_slide c 119 = some (SLL ixW 5 0 (0, c)) := by
  unfold f_X10_slide
  have hlt : ∀ p, p < 5 → ∀ j, j < 5 → ixW p j < 25 := fun p hp j hj => by unfold ixW; omega
  refine (slide_go (ix := ixW) hlt (fun l x => some (l, x)) (fun p n cnt c hp => ?_) 5 0 1000 0 c rfl (by decide)).trans (congrArg some (Prod.eta _))
  have hl : f_X10_slideLine c (nI (p * 5 + 4)) (-1) = some (SLN (ixW p) 5 0 (c (ixW p 4)) (0, c)) := by
    rw [tN1]
    exact s_slideLine (F := nI (p * 5 + 4)) (S := (-(nI 1))) (ix := ixW p) (fun j hj => by unfold ixW; exact ixs_m (b := 0) (by omega) (by omega)) (hlt p hp) c
  rw [f_X10_slide_4, if_neg (show ¬ (5 : Int32) ≤ nI p from nle hp (by decide))]
  rw [jo]
  rw [if_neg (show ¬ ((119 : Int32) = 101) by decide)]
  rw [if_neg (show ¬ ((119 : Int32) = 110) by decide)]
  rw [if_neg (show ¬ ((119 : Int32) = 115) by decide)]
  have hc : f_X10_cellOf (nI p) 4 = some (nI (p * 5 + 4)) := by
    rw [li4]
    exact s_cellOf p 4
  rw [hc, Option.bind_some, hl, Option.bind_some, qI_succ]
theorem SLN_ne (ix : Nat → Nat) : ∀ (d k : Nat) (v : Int32) (s : Int32 × (Nat → Int32)) (q : Nat), (∀ j, k ≤ j → j < k + d → ix j ≠ q) → (SLN ix d k v s).2 q = s.2 q
  | 0, _, _, _, _, _ => rfl
  | d + 1, k, v, s, q, h => by
    rw [SLN, SLN_ne ix d (k + 1) _ _ q (fun j h1 h2 => h j (by omega) (by omega))]
    exact upd_ne _ _ (Ne.symm (h k (Nat.le_refl _) (by omega)))
theorem SLN_cnt {ix : Nat → Nat} {c0 : Nat → Int32} : ∀ (d k : Nat) (v : Int32) (s : Int32 × (Nat → Int32)), (∀ j, k ≤ j → j < k + d → ix j < 25 ∧ s.2 (ix j) = c0 (ix j)) → (∀ i j, k ≤ i → i < k + d → k ≤ j → j < k + d → ix i = ix j → i = j) → s.1 = dsum c0 s.2 → (SLN ix d k v s).1 = dsum c0 (SLN ix d k v s).2
  | 0, _, _, _, _, _, h => h
  | d + 1, k, v, s, h1, h2, h => by
    rw [SLN]
    have hk := h1 k (Nat.le_refl _) (by omega)
    refine SLN_cnt d (k + 1) _ _ (fun j a b => ⟨(h1 j (by omega) (by omega)).1, ?_⟩) (fun i j a b a2 b2 e => h2 i j (by omega) (by omega) (by omega) (by omega) e) ?_
    · have hne : ix j ≠ ix k := fun e => by
        have := h2 j k (by omega) (by omega) (by omega) (by omega) e
        omega
      show upd s.2 (ix k) v (ix j) = _
      rw [upd_ne _ _ hne]
      exact (h1 j (by omega) (by omega)).2
    · show _ = dsum c0 (upd s.2 (ix k) v)
      rw [dsum_upd hk.1 hk.2, h]
theorem SLL_cnt {ix : Nat → Nat → Nat} {c0 : Nat → Int32} (hlt : ∀ p, p < 5 → ∀ j, j < 5 → ix p j < 25) (hinj : ∀ p, p < 5 → ∀ j, j < 5 → ∀ p', p' < 5 → ∀ j', j' < 5 → ix p j = ix p' j' → p = p' ∧ j = j') : ∀ (d k : Nat) (s : Int32 × (Nat → Int32)), k + d = 5 → (∀ p, k ≤ p → p < 5 → ∀ j, j < 5 → s.2 (ix p j) = c0 (ix p j)) → s.1 = dsum c0 s.2 → (SLL ix d k s).1 = dsum c0 (SLL ix d k s).2
  | 0, _, _, _, _, h => h
  | d + 1, k, s, hk, h1, h => by
    rw [SLL]
    refine SLL_cnt hlt hinj d (k + 1) _ (by omega) (fun p a b j hj => ?_) (SLN_cnt 5 0 _ s (fun j _ hj => ⟨hlt k (by omega) j (by omega), h1 k (Nat.le_refl _) (by omega) j (by omega)⟩) (fun i j _ hi _ hj e => (hinj k (by omega) i (by omega) k (by omega) j (by omega) e).2) h)
    rw [SLN_ne]
    · exact h1 p (by omega) b j hj
    · intro i _ hi e
      have := (hinj k (by omega) i (by omega) p b j hj e).1
      omega
theorem slide_cnt {ix : Nat → Nat → Nat} (hix : ix = ixN ∨ ix = ixE ∨ ix = ixS ∨ ix = ixW) (c : Nat → Int32) : (SLL ix 5 0 (0, c)).1 = dsum c (SLL ix 5 0 (0, c)).2 := by
  refine SLL_cnt ?_ ?_ 5 0 (0, c) rfl (fun p _ _ j _ => rfl) (dsum_self c).symm
  · rcases hix with rfl | rfl | rfl | rfl <;> decide
  · rcases hix with rfl | rfl | rfl | rfl <;> intro p hp j hj p' hp' j' hj' e <;> simp only [ixN, ixE, ixS, ixW] at e <;> omega
/-- where a shifted cell's value comes from -/
def sgN (j : Nat) : Nat := (j + 5) % 25
def sgS (j : Nat) : Nat := (j + 20) % 25
def sgE (j : Nat) : Nat := j / 5 * 5 + (j % 5 + 4) % 5
def sgW (j : Nat) : Nat := j / 5 * 5 + (j % 5 + 1) % 5
theorem lt25 {P : Nat → Prop} (h : ∀ p, p < 5 → ∀ q, q < 5 → P (5 * p + q)) (j : Nat) (hj : j < 25) : P j := by
  have e : j = 5 * (j / 5) + j % 5 := (Nat.div_add_mod j 5).symm
  rw [e]
  exact h _ (by omega) _ (by omega)
theorem lt5 {p : Nat} (h : p < 5) : p = 0 ∨ p = 1 ∨ p = 2 ∨ p = 3 ∨ p = 4 := by omega
theorem slideN_get (c : Nat → Int32) (j : Nat) (hj : j < 25) : (SLL ixN 5 0 (0, c)).2 j = c (sgN j) := by
  refine lt25 (P := fun j => (SLL ixN 5 0 (0, c)).2 j = c (sgN j)) (fun p hp q hq => ?_) j hj
  rcases lt5 hp with rfl | rfl | rfl | rfl | rfl <;> rcases lt5 hq with rfl | rfl | rfl | rfl | rfl <;> rfl
theorem slideE_get (c : Nat → Int32) (j : Nat) (hj : j < 25) : (SLL ixE 5 0 (0, c)).2 j = c (sgE j) := by
  refine lt25 (P := fun j => (SLL ixE 5 0 (0, c)).2 j = c (sgE j)) (fun p hp q hq => ?_) j hj
  rcases lt5 hp with rfl | rfl | rfl | rfl | rfl <;> rcases lt5 hq with rfl | rfl | rfl | rfl | rfl <;> rfl
theorem slideS_get (c : Nat → Int32) (j : Nat) (hj : j < 25) : (SLL ixS 5 0 (0, c)).2 j = c (sgS j) := by
  refine lt25 (P := fun j => (SLL ixS 5 0 (0, c)).2 j = c (sgS j)) (fun p hp q hq => ?_) j hj
  rcases lt5 hp with rfl | rfl | rfl | rfl | rfl <;> rcases lt5 hq with rfl | rfl | rfl | rfl | rfl <;> rfl
theorem slideW_get (c : Nat → Int32) (j : Nat) (hj : j < 25) : (SLL ixW 5 0 (0, c)).2 j = c (sgW j) := by
  refine lt25 (P := fun j => (SLL ixW 5 0 (0, c)).2 j = c (sgW j)) (fun p hp q hq => ?_) j hj
  rcases lt5 hp with rfl | rfl | rfl | rfl | rfl <;> rcases lt5 hq with rfl | rfl | rfl | rfl | rfl <;> rfl
