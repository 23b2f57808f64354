/-! the start -/
def c50 : Nat → Int32 := fun j => if j < 25 then 50 else 0
def w1s : Nat → Int32 := fun j => if j < 16 then 1 else 0
theorem fill_step (b : Nat) (v : Int32) (f : Nat → Int32) (k : Nat) : upd (fun j => if b ≤ j ∧ j < b + k then v else f j) (b + k) v = fun j => if b ≤ j ∧ j < b + (k + 1) then v else f j := by
  funext j
  by_cases h : j = b + k
  · subst h; rw [upd_same, if_pos (by omega)]
  · rw [upd_ne _ _ h]
    by_cases h2 : b ≤ j ∧ j < b + k
    · rw [if_pos h2, if_pos (by omega)]
    · rw [if_neg h2, if_neg (by omega)]
theorem in10 (z : (Nat → Int32) → Option ((Nat → Int32) × Int32)) : ∀ (d k n : Nat), k + d = 25 → d < n → f_X10_init_20 z n (nI k) (fun j => if 0 ≤ j ∧ j < 0 + k then 50 else 0) = z (fun j => if 0 ≤ j ∧ j < 0 + 25 then 50 else 0)
  | _, _, 0, _, h => by omega
  | 0, k, n + 1, hk, _ => by
    obtain rfl : k = 25 := by omega
    rw [f_X10_init_20, if_pos (show (25 : Int32) ≤ nI 25 from Int32.le_refl _)]
  | d + 1, k, n + 1, hk, hn => by
    have e := fill_step 0 50 (fun _ => 0) k
    rw [Nat.zero_add] at e
    rw [f_X10_init_20, if_neg (show ¬ (25 : Int32) ≤ nI k from nle (show k < 25 by omega) (by decide)), if_neg (ixo (show k < 25 by omega) (by decide)), qI_succ, qI_cl (show k < 2147483648 by omega), Nat.zero_add, e]
    have h := in10 z d (k + 1) n (by omega) (by omega)
    exact h
theorem in2 (z : (Nat → Int32) → Option ((Nat → Int32) × Int32)) : ∀ (d k n : Nat), k + d = 16 → d < n → f_X2_init_19 z n (nI k) (fun j => if 0 ≤ j ∧ j < 0 + k then 1 else 0) = z (fun j => if 0 ≤ j ∧ j < 0 + 16 then 1 else 0)
  | _, _, 0, _, h => by omega
  | 0, k, n + 1, hk, _ => by
    obtain rfl : k = 16 := by omega
    rw [f_X2_init_19, if_pos (show (16 : Int32) ≤ nI 16 from Int32.le_refl _)]
  | d + 1, k, n + 1, hk, hn => by
    have e := fill_step 0 1 (fun _ => 0) k
    rw [Nat.zero_add] at e
    rw [f_X2_init_19, if_neg (show ¬ (16 : Int32) ≤ nI k from nle (show k < 16 by omega) (by decide)), if_neg (ixo (show k < 16 by omega) (by decide)), qI_succ, qI_cl (show k < 2147483648 by omega), Nat.zero_add, e]
    exact in2 z d (k + 1) n (by omega) (by omega)
theorem c50_eq : (fun j => if 0 ≤ j ∧ j < 0 + 25 then (50 : Int32) else 0) = c50 := by
  funext j
  unfold c50
  by_cases h : j < 25
  · rw [if_pos h, if_pos (by omega)]
  · rw [if_neg h, if_neg (by omega)]
theorem w1s_eq : (fun j => if 0 ≤ j ∧ j < 0 + 16 then (1 : Int32) else 0) = w1s := by
  funext j
  unfold w1s
  by_cases h : j < 16
  · rw [if_pos h, if_pos (by omega)]
  · rw [if_neg h, if_neg (by omega)]
theorem z0_eq (v : Int32) : (fun j => if 0 ≤ j ∧ j < 0 + 0 then v else 0) = (fun _ : Nat => (0 : Int32)) := by
  funext j
  exact if_neg (by omega)
theorem i_X10 : f_X10_init = some (c50, 20) := by
  unfold f_X10_init
  have h := in10 (fun x => some (x, 20)) 25 0 1000 rfl (by decide)
  rw [z0_eq, c50_eq] at h
  exact h
theorem i_X2 : f_X2_init = some (w1s, 0) := by
  unfold f_X2_init
  have h := in2 (fun x => some (x, 0)) 16 0 1000 rfl (by decide)
  rw [z0_eq, w1s_eq] at h
  exact h
theorem i_X11 : f_X11_init = some (c50, 20, w1s, 0, (fun _ => 0), (fun _ => 0), 0, 0, 0, 0, 0) := by
  unfold f_X11_init f_X4_init
  rw [i_X10, i_X2, obS, obS, obS]
theorem i_X6 : ∃ ring, f_X6_init = some (ring, 0, 0) := by
  unfold f_X6_init
  rw [i_X11, obS, obS, obS, obS, obS, obS, obS, obS]
  exact ⟨_, rfl⟩
abbrev R13 : Type := (Nat → Int32) × (Nat → Int32) × (Nat → Int32) × (Nat → Int32) × (Nat → Int32) × (Nat → Int32) × (Nat → Int64) × (Nat → Int64) × (Nat → Int32) × (Nat → Int32) × Int64 × Int32 × Int32 × Int32 × Int32 × (Nat → Int32) × Int32 × Int32 × Int32 × (Nat → Int32) × Int32 × Int32 × (Nat → Int32) × Int32
theorem in13a (z : (Nat → Int32) → Option R13) : ∀ (d k n : Nat), k + d = 25 → d < n → f_X13_init_118 z n (nI k) (fun j => if 7 ≤ j ∧ j < 7 + k then 50 else 0) = z (fun j => if 7 ≤ j ∧ j < 7 + 25 then 50 else 0)
  | _, _, 0, _, h => by omega
  | 0, k, n + 1, hk, _ => by
    obtain rfl : k = 25 := by omega
    rw [f_X13_init_118, if_pos (show (25 : Int32) ≤ nI 25 from Int32.le_refl _)]
  | d + 1, k, n + 1, hk, hn => by
    have e7 : (7 : Int32) + nI k = nI (7 + k) := qI_add 7 k
    rw [f_X13_init_118, if_neg (show ¬ (25 : Int32) ≤ nI k from nle (show k < 25 by omega) (by decide)), e7, if_neg (ixo (show 7 + k < 60 by omega) (by decide)), qI_succ, qI_cl (show 7 + k < 2147483648 by omega), fill_step 7 50 (fun _ => 0) k]
    exact in13a z d (k + 1) n (by omega) (by omega)
theorem in13b (f : Nat → Int32) (z : (Nat → Int32) → Option R13) : ∀ (d k n : Nat), k + d = 16 → d < n → f_X13_init_143 z n (nI k) (fun j => if 32 ≤ j ∧ j < 32 + k then 1 else f j) = z (fun j => if 32 ≤ j ∧ j < 32 + 16 then 1 else f j)
  | _, _, 0, _, h => by omega
  | 0, k, n + 1, hk, _ => by
    obtain rfl : k = 16 := by omega
    rw [f_X13_init_143, if_pos (show (16 : Int32) ≤ nI 16 from Int32.le_refl _)]
  | d + 1, k, n + 1, hk, hn => by
    have e7 : (32 : Int32) + nI k = nI (32 + k) := qI_add 32 k
    rw [f_X13_init_143, if_neg (show ¬ (16 : Int32) ≤ nI k from nle (show k < 16 by omega) (by decide)), e7, if_neg (ixo (show 32 + k < 60 by omega) (by decide)), qI_succ, qI_cl (show 32 + k < 2147483648 by omega), fill_step 32 1 f k]
    exact in13b f z d (k + 1) n (by omega) (by omega)
/-- the model's first row -/
def g0s : Nat → Int32 := upd (fun j => if 32 ≤ j ∧ j < 32 + 16 then 1 else if 7 ≤ j ∧ j < 7 + 25 then 50 else 0) 2 20
theorem i_X13 : f_X13_init = some (g0s, (fun _ => 0), (fun _ => 0), (fun _ => 0), (fun _ => 0), (fun _ => 0), (fun _ => 0), (fun _ => 0), (fun _ => 0), (fun _ => 0), 0, 0, 0, 0, 0, (fun _ => 0), 0, (-1), (-1), (fun _ => 0), 0, 0, (fun _ => 0), 0) := by
  unfold f_X13_init
  have h7 : (fun j => if 7 ≤ j ∧ j < 7 + 0 then (50 : Int32) else 0) = (fun _ : Nat => (0 : Int32)) := by
    funext j
    exact if_neg (by omega)
  have h32 : ∀ f : Nat → Int32, (fun j => if 32 ≤ j ∧ j < 32 + 0 then (1 : Int32) else f j) = f := fun f => by
    funext j
    exact if_neg (by omega)
  have a := fun z => in13a z 25 0 1000 rfl (by decide)
  simp only [h7] at a
  refine (a _).trans ?_
  have b := fun z => in13b (fun j => if 7 ≤ j ∧ j < 7 + 25 then 50 else 0) z 16 0 1000 rfl (by decide)
  simp only [h32] at b
  exact b _
theorem RS_init : RS (c50, 20, w1s, 0, (fun _ => 0), (fun _ => 0), 0, 0, 0, 0, 0) g0s := by
  have h3 : ∀ i, i ≠ 2 → g0s i = if 32 ≤ i ∧ i < 32 + 16 then 1 else if 7 ≤ i ∧ i < 7 + 25 then 50 else 0 := fun i hi => upd_ne _ _ hi
  have hlo : ∀ i, i < 7 → i ≠ 2 → g0s i = 0 := fun i h hi => by rw [h3 i hi, if_neg (by omega), if_neg (by omega)]
  refine ⟨fun k hk => ?_, fun k hk => ⟨50, by decide, if_pos hk⟩, upd_same _ _ _, ⟨20, by decide, by decide, rfl⟩, fun k hk => ?_, fun k hk => ⟨1, by decide, if_pos hk⟩, fun r hr => ⟨0, by decide, ?_⟩, hlo 1 (by omega) (by omega), ⟨0, by decide, rfl⟩, ⟨0, by decide, rfl, hlo 3 (by omega) (by omega), fun k hk => absurd hk (by omega)⟩, hlo 4 (by omega) (by omega), hlo 5 (by omega) (by omega), hlo 6 (by omega) (by omega), hlo 0 (by omega) (by omega)⟩
  · rw [h3 _ (by omega), if_neg (by omega), if_pos (by omega)]
    exact (if_pos hk).symm
  · rw [h3 _ (by omega), if_pos (by omega)]
    exact (if_pos hk).symm
  · show w1s (4 * r + 0) ≠ 0
    rw [show w1s (4 * r + 0) = 1 from if_pos (by omega)]
    exact i10
