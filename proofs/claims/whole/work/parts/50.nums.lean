/-! numbers that are small: written as nI -/
theorem qI_cl {k : Nat} (h : k < 2147483648) : (nI k).toNatClampNeg = k := Int32.toNatClampNeg_ofNat_of_lt h
theorem qI_lt {a b : Nat} (ha : a < 2147483648) (hb : b < 2147483648) : (nI a < nI b) = (a < b) := propext (Int32.ofNat_lt_iff_lt ha hb)
theorem qI_le {a b : Nat} (ha : a < 2147483648) (hb : b < 2147483648) : (nI a ≤ nI b) = (a ≤ b) := propext (Int32.ofNat_le_iff_le ha hb)
theorem qI_eq {a b : Nat} (ha : a < 2147483648) (hb : b < 2147483648) : (nI a = nI b) = (a = b) := propext ⟨fun h => by
  have := congrArg Int32.toNatClampNeg h
  rwa [qI_cl ha, qI_cl hb] at this, fun h => by rw [h]⟩
theorem qI_add (a b : Nat) : nI a + nI b = nI (a + b) := (Int32.ofNat_add a b).symm
theorem qI_succ (k : Nat) : nI k + 1 = nI (k + 1) := qI_add k 1
theorem qI_mul (a b : Nat) : nI a * nI b = nI (a * b) := (Int32.ofNat_mul a b).symm
theorem qI_sub {a b : Nat} (h : b ≤ a) : nI a - nI b = nI (a - b) := by
  have e : nI a = nI (a - b) + nI b := by rw [qI_add, Nat.sub_add_cancel h]
  rw [e, Int32.add_sub_cancel]
theorem qI_toInt {k : Nat} (h : k < 2147483648) : (nI k).toInt = k := Int32.toInt_ofNat_of_lt h
theorem qI_div {a b : Nat} (ha : a < 2147483648) (hb : b < 2147483648) : nI a / nI b = nI (a / b) := by
  apply Int32.toInt_inj.mp
  have hm : nI a ≠ Int32.minValue := by
    intro e
    have e2 := congrArg Int32.toInt e
    rw [qI_toInt ha] at e2
    have e3 : Int32.minValue.toInt = -2147483648 := by decide
    omega
  rw [Int32.toInt_div_of_ne_left _ _ hm, qI_toInt ha, qI_toInt hb, qI_toInt (Nat.lt_of_le_of_lt (Nat.div_le_self a b) ha)]
  exact (Int.ofNat_tdiv a b).symm
theorem qI_mod {a b : Nat} (ha : a < 2147483648) (hb : b < 2147483648) : nI a - nI a / nI b * nI b = nI (a % b) := by
  rw [qI_div ha hb, qI_mul, qI_sub (Nat.div_mul_le_self a b)]
  congr 1
  have e := Nat.div_add_mod a b
  rw [Nat.mul_comm] at e
  omega
theorem qI_ex {x : Int32} (h : 0 ≤ x) : x = nI x.toNatClampNeg := (Int32.ofNat_toNatClampNeg x h).symm
theorem qI_cl_lt (x : Int32) : x.toNatClampNeg < 2147483648 := Int32.toNatClampNeg_lt x
theorem qI_neg0 (k : Nat) (h : k < 2147483648) : ¬ nI k < 0 := by
  show ¬ nI k < nI 0
  rw [qI_lt h (by decide)]
  omega
theorem i_nlt {x y : Int32} : ¬ x < y ↔ y ≤ x := Int32.not_lt
theorem i_nle {x y : Int32} : ¬ x ≤ y ↔ y < x := Int32.not_le
/-- between two written bounds: a small number -/
theorem qI_in {x : Int32} {b : Nat} (hb : b < 2147483648) (h0 : 0 ≤ x) (h1 : x < nI b) : ∃ k, k < b ∧ x = nI k := by
  refine ⟨x.toNatClampNeg, ?_, qI_ex h0⟩
  rw [qI_ex h0, qI_lt (qI_cl_lt x) hb] at h1
  exact h1
theorem narB0 : vp_nar .boolean 0 = 0 := by decide
theorem narB1 : vp_nar .boolean 1 = 1 := by decide
theorem nar_bI (p : Prop) [Decidable p] : vp_nar .boolean (if p then (1 : Int32) else 0) = if p then 1 else 0 := by
  by_cases h : p
  · rw [if_pos h]; exact narB1
  · rw [if_neg h]; exact narB0
theorem i10 : ¬ (1 : Int32) = 0 := by decide
theorem upd_same (f : Nat → Int32) (k : Nat) (v : Int32) : upd f k v k = v := by simp [upd]
theorem upd_ne (f : Nat → Int32) {k j : Nat} (v : Int32) (h : j ≠ k) : upd f k v j = f j := by simp [upd, h]
/-- steps k, k + 1, .. of a loop, d of them -/
def foldN {α : Type} (f : Nat → α → α) : Nat → Nat → α → α
  | 0, _, s => s
  | d + 1, k, s => foldN f d (k + 1) (f k s)
theorem foldN_congr {α : Type} (f g : Nat → α → α) : ∀ (d k : Nat) (s : α), (∀ j, k ≤ j → j < k + d → ∀ s, f j s = g j s) → foldN f d k s = foldN g d k s
  | 0, _, _, _ => rfl
  | d + 1, k, s, h => by
    rw [foldN, foldN, h k (Nat.le_refl _) (by omega) s]
    exact foldN_congr f g d (k + 1) _ (fun j h1 h2 => h j (by omega) (by omega))
theorem li0 : (0 : Int32) = nI 0 := rfl
theorem li1 : (1 : Int32) = nI 1 := rfl
theorem li2 : (2 : Int32) = nI 2 := rfl
theorem li3 : (3 : Int32) = nI 3 := rfl
theorem li4 : (4 : Int32) = nI 4 := rfl
theorem li5 : (5 : Int32) = nI 5 := rfl
theorem li6 : (6 : Int32) = nI 6 := rfl
theorem li7 : (7 : Int32) = nI 7 := rfl
theorem li8 : (8 : Int32) = nI 8 := rfl
theorem li9 : (9 : Int32) = nI 9 := rfl
theorem li10 : (10 : Int32) = nI 10 := rfl
theorem li11 : (11 : Int32) = nI 11 := rfl
theorem li12 : (12 : Int32) = nI 12 := rfl
theorem li13 : (13 : Int32) = nI 13 := rfl
theorem li14 : (14 : Int32) = nI 14 := rfl
theorem li15 : (15 : Int32) = nI 15 := rfl
theorem li16 : (16 : Int32) = nI 16 := rfl
theorem li17 : (17 : Int32) = nI 17 := rfl
theorem li18 : (18 : Int32) = nI 18 := rfl
theorem li19 : (19 : Int32) = nI 19 := rfl
theorem li20 : (20 : Int32) = nI 20 := rfl
theorem li21 : (21 : Int32) = nI 21 := rfl
theorem li22 : (22 : Int32) = nI 22 := rfl
theorem li23 : (23 : Int32) = nI 23 := rfl
theorem li24 : (24 : Int32) = nI 24 := rfl
theorem li25 : (25 : Int32) = nI 25 := rfl
theorem li26 : (26 : Int32) = nI 26 := rfl
theorem li31 : (31 : Int32) = nI 31 := rfl
theorem li32 : (32 : Int32) = nI 32 := rfl
theorem li33 : (33 : Int32) = nI 33 := rfl
theorem li35 : (35 : Int32) = nI 35 := rfl
theorem li40 : (40 : Int32) = nI 40 := rfl
theorem li48 : (48 : Int32) = nI 48 := rfl
theorem li49 : (49 : Int32) = nI 49 := rfl
theorem li50 : (50 : Int32) = nI 50 := rfl
theorem li58 : (58 : Int32) = nI 58 := rfl
theorem li59 : (59 : Int32) = nI 59 := rfl
theorem li60 : (60 : Int32) = nI 60 := rfl
theorem li61 : (61 : Int32) = nI 61 := rfl
theorem li90 : (90 : Int32) = nI 90 := rfl
theorem li98 : (98 : Int32) = nI 98 := rfl
theorem li99 : (99 : Int32) = nI 99 := rfl
theorem li100 : (100 : Int32) = nI 100 := rfl
theorem li101 : (101 : Int32) = nI 101 := rfl
theorem li103 : (103 : Int32) = nI 103 := rfl
theorem li110 : (110 : Int32) = nI 110 := rfl
theorem li115 : (115 : Int32) = nI 115 := rfl
theorem li119 : (119 : Int32) = nI 119 := rfl
theorem li120 : (120 : Int32) = nI 120 := rfl
theorem li124 : (124 : Int32) = nI 124 := rfl
theorem li126 : (126 : Int32) = nI 126 := rfl
theorem li160 : (160 : Int32) = nI 160 := rfl
theorem li180 : (180 : Int32) = nI 180 := rfl
theorem li420 : (420 : Int32) = nI 420 := rfl
theorem li480 : (480 : Int32) = nI 480 := rfl
