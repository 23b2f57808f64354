/-! folding and shifting -/
def lv1 (a b : Nat) (s : Int32 × (Nat → Int32)) : Int32 × (Nat → Int32) :=
  (s.1 + ((if s.2 a = (s.2 a + s.2 b + 1) / 2 then 0 else 1) + (if upd s.2 a ((s.2 a + s.2 b + 1) / 2) b = (s.2 a + s.2 b) / 2 then 0 else 1)), upd (upd s.2 a ((s.2 a + s.2 b + 1) / 2)) b ((s.2 a + s.2 b) / 2))
theorem s_level {a b : Nat} (ha : a < 25) (hb : b < 25) (c : Nat → Int32) : f_X10_level c (nI a) (nI b) = some ((if c a = (c a + c b + 1) / 2 then 0 else 1) + (if upd c a ((c a + c b + 1) / 2) b = (c a + c b) / 2 then 0 else 1), upd (upd c a ((c a + c b + 1) / 2)) b ((c a + c b) / 2)) := by
  unfold f_X10_level
  simp only [s_at ha, s_at hb, s_put ha, s_put hb, Option.bind_some]
def LVN (u w : Nat → Nat) : Nat → Nat → Int32 × (Nat → Int32) → Int32 × (Nat → Int32)
  | 0, _, s => s
  | d + 1, k, s => LVN u w d (k + 1) (lv1 (u k) (w k) s)
theorem l20R {R D : Nat} (h1 : D ≤ R) (h2 : R + D < 5) (z : Int32 → (Nat → Int32) → Option (Int32 × (Nat → Int32))) : ∀ (d k n : Nat) (cnt : Int32) (c : Nat → Int32), k + d = 5 → d < n → f_X10_foldAlongRow_20 (nI R) (nI D) z n cnt (nI k) c = z (LVN (fun k => (R - D) * 5 + k) (fun k => (R + D) * 5 + k) d k (cnt, c)).1 (LVN (fun k => (R - D) * 5 + k) (fun k => (R + D) * 5 + k) d k (cnt, c)).2
  | _, _, 0, _, _, _, h => by omega
  | 0, k, n + 1, cnt, c, hk, _ => by
    obtain rfl : k = 5 := by omega
    rw [f_X10_foldAlongRow_20, if_pos (show (5 : Int32) ≤ nI 5 from Int32.le_refl _)]
    rfl
  | d + 1, k, n + 1, cnt, c, hk, hn => by
    rw [f_X10_foldAlongRow_20, if_neg (show ¬ (5 : Int32) ≤ nI k from nle (show k < 5 by omega) (by decide)), qI_sub h1, qI_add, s_cellOf, s_cellOf, Option.bind_some, Option.bind_some, s_level (by omega) (by omega), Option.bind_some, qI_succ]
    exact l20R h1 h2 z d (k + 1) n _ _ (by omega) (by omega)
theorem l20C {R D : Nat} (h1 : D ≤ R) (h2 : R + D < 5) (z : Int32 → (Nat → Int32) → Option (Int32 × (Nat → Int32))) : ∀ (d k n : Nat) (cnt : Int32) (c : Nat → Int32), k + d = 5 → d < n → f_X10_foldAlongColumn_20 (nI R) (nI D) z n cnt (nI k) c = z (LVN (fun k => k * 5 + (R - D)) (fun k => k * 5 + (R + D)) d k (cnt, c)).1 (LVN (fun k => k * 5 + (R - D)) (fun k => k * 5 + (R + D)) d k (cnt, c)).2
  | _, _, 0, _, _, _, h => by omega
  | 0, k, n + 1, cnt, c, hk, _ => by
    obtain rfl : k = 5 := by omega
    rw [f_X10_foldAlongColumn_20, if_pos (show (5 : Int32) ≤ nI 5 from Int32.le_refl _)]
    rfl
  | d + 1, k, n + 1, cnt, c, hk, hn => by
    rw [f_X10_foldAlongColumn_20, if_neg (show ¬ (5 : Int32) ≤ nI k from nle (show k < 5 by omega) (by decide)), qI_sub h1, qI_add, s_cellOf, s_cellOf, Option.bind_some, Option.bind_some, s_level (by omega) (by omega), Option.bind_some, qI_succ]
    exact l20C h1 h2 z d (k + 1) n _ _ (by omega) (by omega)
def LVL : List (Nat × Nat) → Int32 × (Nat → Int32) → Int32 × (Nat → Int32)
  | [], s => s
  | (a, b) :: L, s => LVL L (lv1 a b s)
/-- the pairs of a fold, in the class's order -/
def prR : Nat → List (Nat × Nat)
  | 1 => [(0, 10), (1, 11), (2, 12), (3, 13), (4, 14)]
  | 2 => [(5, 15), (6, 16), (7, 17), (8, 18), (9, 19), (0, 20), (1, 21), (2, 22), (3, 23), (4, 24)]
  | _ => [(10, 20), (11, 21), (12, 22), (13, 23), (14, 24)]
def prC : Nat → List (Nat × Nat)
  | 1 => [(0, 2), (5, 7), (10, 12), (15, 17), (20, 22)]
  | 2 => [(1, 3), (6, 8), (11, 13), (16, 18), (21, 23), (0, 4), (5, 9), (10, 14), (15, 19), (20, 24)]
  | _ => [(2, 4), (7, 9), (12, 14), (17, 19), (22, 24)]
theorem s_foldRow {R : Nat} (hR : R = 1 ∨ R = 2 ∨ R = 3) (c : Nat → Int32) : f_X10_foldAlongRow c (nI R) = some (LVL (prR R) (0, c)) := by
  unfold f_X10_foldAlongRow
  have step : ∀ (R D : Nat) (z : Int32 → (Nat → Int32) → Option (Int32 × (Nat → Int32))) (n : Nat) (cnt : Int32) (c : Nat → Int32), D ≤ R → R + D < 5 → f_X10_foldAlongRow_4 (nI R) z (n + 1) cnt (nI D) c = f_X10_foldAlongRow_4 (nI R) z n (LVN (fun k => (R - D) * 5 + k) (fun k => (R + D) * 5 + k) 5 0 (cnt, c)).1 (nI (D + 1)) (LVN (fun k => (R - D) * 5 + k) (fun k => (R + D) * 5 + k) 5 0 (cnt, c)).2 := by
    intro R D z n cnt c h1 h2
    rw [f_X10_foldAlongRow_4, if_neg (show ¬ nI R - nI D < 0 by rw [qI_sub h1]; exact qI_neg0 _ (by omega)), if_neg (show ¬ (5 : Int32) ≤ nI R + nI D by rw [qI_add]; exact nle h2 (by decide)), show (0 : Int32) = nI 0 from rfl, l20R h1 h2 _ 5 0 1000 cnt c rfl (by decide), qI_succ]
  have out : ∀ (R D : Nat) (z : Int32 → (Nat → Int32) → Option (Int32 × (Nat → Int32))) (n : Nat) (cnt : Int32) (c : Nat → Int32), (nI R - nI D < 0 ∨ 5 ≤ nI R + nI D) → f_X10_foldAlongRow_4 (nI R) z (n + 1) cnt (nI D) c = z cnt c := by
    intro R D z n cnt c h
    rw [f_X10_foldAlongRow_4]
    by_cases h1 : nI R - nI D < 0
    · rw [if_pos h1]
    · rw [if_neg h1, if_pos (h.resolve_left h1)]
  rcases hR with rfl | rfl | rfl
  · refine (step 1 1 _ 999 0 c (by decide) (by decide)).trans ?_
    rw [out 1 2 _ 998 _ _ (Or.inl (by decide +kernel))]
    rfl
  · refine (step 2 1 _ 999 0 c (by decide) (by decide)).trans ?_
    rw [step 2 2 _ 998 _ _ (by decide) (by decide), out 2 3 _ 997 _ _ (Or.inl (by decide +kernel))]
    rfl
  · refine (step 3 1 _ 999 0 c (by decide) (by decide)).trans ?_
    rw [out 3 2 _ 998 _ _ (Or.inr (by decide +kernel))]
    rfl
theorem s_foldCol {R : Nat} (hR : R = 1 ∨ R = 2 ∨ R = 3) (c : Nat → Int32) : f_X10_foldAlongColumn c (nI R) = some (LVL (prC R) (0, c)) := by
  unfold f_X10_foldAlongColumn
  have step : ∀ (R D : Nat) (z : Int32 → (Nat → Int32) → Option (Int32 × (Nat → Int32))) (n : Nat) (cnt : Int32) (c : Nat → Int32), D ≤ R → R + D < 5 → f_X10_foldAlongColumn_4 (nI R) z (n + 1) cnt (nI D) c = f_X10_foldAlongColumn_4 (nI R) z n (LVN (fun k => k * 5 + (R - D)) (fun k => k * 5 + (R + D)) 5 0 (cnt, c)).1 (nI (D + 1)) (LVN (fun k => k * 5 + (R - D)) (fun k => k * 5 + (R + D)) 5 0 (cnt, c)).2 := by
    intro R D z n cnt c h1 h2
    rw [f_X10_foldAlongColumn_4, if_neg (show ¬ nI R - nI D < 0 by rw [qI_sub h1]; exact qI_neg0 _ (by omega)), if_neg (show ¬ (5 : Int32) ≤ nI R + nI D by rw [qI_add]; exact nle h2 (by decide)), show (0 : Int32) = nI 0 from rfl, l20C h1 h2 _ 5 0 1000 cnt c rfl (by decide), qI_succ]
  have out : ∀ (R D : Nat) (z : Int32 → (Nat → Int32) → Option (Int32 × (Nat → Int32))) (n : Nat) (cnt : Int32) (c : Nat → Int32), (nI R - nI D < 0 ∨ 5 ≤ nI R + nI D) → f_X10_foldAlongColumn_4 (nI R) z (n + 1) cnt (nI D) c = z cnt c := by
    intro R D z n cnt c h
    rw [f_X10_foldAlongColumn_4]
    by_cases h1 : nI R - nI D < 0
    · rw [if_pos h1]
    · rw [if_neg h1, if_pos (h.resolve_left h1)]
  rcases hR with rfl | rfl | rfl
  · refine (step 1 1 _ 999 0 c (by decide) (by decide)).trans ?_
    rw [out 1 2 _ 998 _ _ (Or.inl (by decide +kernel))]
    rfl
  · refine (step 2 1 _ 999 0 c (by decide) (by decide)).trans ?_
    rw [step 2 2 _ 998 _ _ (by decide) (by decide), out 2 3 _ 997 _ _ (Or.inl (by decide +kernel))]
    rfl
  · refine (step 3 1 _ 999 0 c (by decide) (by decide)).trans ?_
    rw [out 3 2 _ 998 _ _ (Or.inr (by decide +kernel))]
    rfl
theorem lv1_cnt {c0 : Nat → Int32} {a b : Nat} {s : Int32 × (Nat → Int32)} (ha : a < 25) (hb : b < 25) (hab : b ≠ a) (h1 : s.2 a = c0 a) (h2 : s.2 b = c0 b) (h : s.1 = dsum c0 s.2) : (lv1 a b s).1 = dsum c0 (lv1 a b s).2 := by
  unfold lv1
  simp only
  have e2 : upd s.2 a ((s.2 a + s.2 b + 1) / 2) b = c0 b := by rw [upd_ne _ _ hab]; exact h2
  rw [dsum_upd hb e2, dsum_upd ha h1, h]
  exact (Int32.add_assoc _ _ _).symm
theorem LVL_cnt : ∀ (L : List (Nat × Nat)) (c0 : Nat → Int32) (s : Int32 × (Nat → Int32)), (L.flatMap (fun p => [p.1, p.2])).Nodup → (∀ p ∈ L, p.1 < 25 ∧ p.2 < 25 ∧ s.2 p.1 = c0 p.1 ∧ s.2 p.2 = c0 p.2) → s.1 = dsum c0 s.2 → (LVL L s).1 = dsum c0 (LVL L s).2
  | [], _, _, _, _, h => h
  | (a, b) :: L, c0, s, hn, hL, h => by
    rw [LVL]
    obtain ⟨ha, hb, e1, e2⟩ := hL (a, b) List.mem_cons_self
    rw [List.flatMap_cons, List.cons_append, List.cons_append, List.nil_append, List.nodup_cons, List.nodup_cons] at hn
    obtain ⟨n1, n2, n3⟩ := hn
    refine LVL_cnt L c0 _ n3 (fun p hp => ?_) (lv1_cnt ha hb (fun e => n1 (e ▸ List.mem_cons_self)) e1 e2 h)
    obtain ⟨q1, q2, q3, q4⟩ := hL p (List.mem_cons_of_mem _ hp)
    have m1 : p.1 ∈ L.flatMap (fun p => [p.1, p.2]) := List.mem_flatMap.mpr ⟨p, hp, by simp⟩
    have m2 : p.2 ∈ L.flatMap (fun p => [p.1, p.2]) := List.mem_flatMap.mpr ⟨p, hp, by simp⟩
    have f1 : p.1 ≠ a := fun e => n1 (List.mem_cons_of_mem _ (e ▸ m1))
    have f2 : p.2 ≠ a := fun e => n1 (List.mem_cons_of_mem _ (e ▸ m2))
    have f3 : p.1 ≠ b := fun e => n2 (e ▸ m1)
    have f4 : p.2 ≠ b := fun e => n2 (e ▸ m2)
    refine ⟨q1, q2, ?_, ?_⟩
    · show upd (upd s.2 a _) b _ p.1 = _
      rw [upd_ne _ _ f3, upd_ne _ _ f1]; exact q3
    · show upd (upd s.2 a _) b _ p.2 = _
      rw [upd_ne _ _ f4, upd_ne _ _ f2]; exact q4
/-- the class's answer is the number of cells that differ -/
theorem foldRow_cnt {R : Nat} (hR : R = 1 ∨ R = 2 ∨ R = 3) (c : Nat → Int32) : (LVL (prR R) (0, c)).1 = dsum c (LVL (prR R) (0, c)).2 := by
  refine LVL_cnt _ c _ ?_ ?_ (dsum_self c).symm
  · rcases hR with rfl | rfl | rfl <;> decide
  · rcases hR with rfl | rfl | rfl <;> (intro p hp; simp only [prR, List.mem_cons, List.not_mem_nil, or_false] at hp; rcases hp with rfl | rfl | rfl | rfl | rfl | rfl | rfl | rfl | rfl | rfl) <;> exact ⟨by decide, by decide, rfl, rfl⟩
theorem foldCol_cnt {R : Nat} (hR : R = 1 ∨ R = 2 ∨ R = 3) (c : Nat → Int32) : (LVL (prC R) (0, c)).1 = dsum c (LVL (prC R) (0, c)).2 := by
  refine LVL_cnt _ c _ ?_ ?_ (dsum_self c).symm
  · rcases hR with rfl | rfl | rfl <;> decide
  · rcases hR with rfl | rfl | rfl <;> (intro p hp; simp only [prC, List.mem_cons, List.not_mem_nil, or_false] at hp; rcases hp with rfl | rfl | rfl | rfl | rfl | rfl | rfl | rfl | rfl | rfl) <;> exact ⟨by decide, by decide, rfl, rfl⟩
