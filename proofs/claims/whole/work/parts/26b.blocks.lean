/-! worlds cut by blocks: for worlds of many cells -/
def rgB : Nat → Nat → List Nat
  | _, 0 => []
  | i, n + 1 => i :: rgB (i + 1) n
theorem catR (ad : Nat → Nat) (o : Option Nat) : (va_re ad o).category = 1 := by
  cases o <;> rfl
theorem rgB_len : ∀ (n i : Nat), (rgB i n).length = n
  | 0, _ => rfl
  | n + 1, i => by rw [rgB, List.length_cons, rgB_len n]
theorem getBx : ∀ (n i : Nat) (W wc : va_W), (W.drop i).take n = wc → wc.length = n → (rgB i n).map (fun k => W[k]?) = wc.map some
  | 0, i, W, wc, _, hl => by
    cases wc with
    | nil => rfl
    | cons q qs => cases hl
  | n + 1, i, W, wc, h, hl => by
    cases wc with
    | nil => cases hl
    | cons q qs =>
      cases hw : W.drop i with
      | nil => rw [hw] at h; cases h
      | cons x t =>
        rw [hw, List.take_succ_cons] at h
        injection h with h1 h2
        subst h1
        have ht : W.drop (i + 1) = t := by
          have e : (W.drop i).drop 1 = W.drop (i + 1) := by rw [List.drop_drop]
          rw [← e, hw]; rfl
        have hx : W[i]? = some x := by
          have e : (W.drop i)[0]? = W[i + 0]? := List.getElem?_drop
          rw [hw] at e
          exact e.symm
        rw [rgB, List.map_cons, List.map_cons, hx, getBx n (i + 1) W qs (by rw [ht]; exact h2) (by simpa using hl)]
theorem getB {n i : Nat} {W wc : va_W} (h : (W.drop i).take n = wc) (hl : wc.length = n) : (rgB i n).map (fun k => W[k]?) = wc.map some := getBx n i W wc h hl
theorem getB2 {n i m j : Nat} {W wa wb : va_W} (h : (W.drop i).take n = wa) (hl : wa.length = n) (h2 : (W.drop j).take m = wb) (hl2 : wb.length = m) : (rgB i n ++ rgB j m).map (fun k => W[k]?) = (wa ++ wb).map some := by
  rw [List.map_append, List.map_append, getB h hl, getB h2 hl2]
theorem putA : ∀ (B A C w1 : va_W), w1.length = B.length → putW (A ++ (B ++ C)) (rgB A.length B.length) w1 = A ++ (w1 ++ C)
  | [], A, C, w1, h => by
    cases w1 with
    | nil => simp [rgB, putW]
    | cons q qs => cases h
  | b :: B, A, C, w1, h => by
    cases w1 with
    | nil => cases h
    | cons q qs =>
      have e : (A ++ ((b :: B) ++ C)).set A.length q = (A ++ [q]) ++ (B ++ C) := by
        rw [List.set_append_right _ _ (Nat.le_refl _), Nat.sub_self, List.append_assoc]
        rfl
      have := putA B (A ++ [q]) C qs (by simpa using h)
      rw [List.length_append] at this
      show putW (A ++ ((b :: B) ++ C)) (A.length :: rgB (A.length + 1) B.length) (q :: qs) = _
      rw [putW, e]
      refine this.trans ?_
      rw [List.append_assoc]
      rfl
theorem putB {n i : Nat} {W wc w1 world' : va_W} (h : (W.drop i).take n = wc) (hl : wc.length = n) (hl1 : w1.length = n) (hi : i ≤ W.length) (hnew : W.take i ++ (w1 ++ W.drop (i + n)) = world') : putW W (rgB i n) w1 = world' := by
  have e : W = W.take i ++ ((W.drop i).take n ++ W.drop (i + n)) := by
    have e1 : (W.drop i).drop n = W.drop (i + n) := by rw [List.drop_drop]
    rw [← e1, List.take_append_drop, List.take_append_drop]
  have hA : (W.take i).length = i := by rw [List.length_take]; omega
  have hB : ((W.drop i).take n).length = n := by rw [h]; exact hl
  have := putA ((W.drop i).take n) (W.take i) (W.drop (i + n)) w1 (hl1.trans hB.symm)
  rw [hA, hB, ← e] at this
  exact this.trans hnew
theorem putW_app : ∀ (is1 is2 : List Nat) (W q1 q2 : va_W), is1.length = q1.length → putW W (is1 ++ is2) (q1 ++ q2) = putW (putW W is1 q1) is2 q2
  | [], is2, W, q1, q2, h => by
    cases q1 with
    | nil => rw [List.nil_append, List.nil_append, putW]
    | cons q qs => cases h
  | i :: is1, is2, W, q1, q2, h => by
    cases q1 with
    | nil => cases h
    | cons q qs => rw [List.cons_append, List.cons_append, putW, putW, putW_app is1 is2 _ qs q2 (by simpa using h)]
theorem putB2 {n i m j : Nat} {W W1 wa wb a1 b1 world' : va_W} (h : (W.drop i).take n = wa) (hl : wa.length = n) (hl1 : a1.length = n) (hi : i ≤ W.length) (e1 : W.take i ++ (a1 ++ W.drop (i + n)) = W1) (h2 : (W1.drop j).take m = wb) (hl2 : wb.length = m) (hl3 : b1.length = m) (hj : j ≤ W1.length) (hnew : W1.take j ++ (b1 ++ W1.drop (j + m)) = world') : putW W (rgB i n ++ rgB j m) (a1 ++ b1) = world' := by
  rw [putW_app _ _ _ _ _ (by rw [rgB_len, hl1]), putB h hl hl1 hi e1]
  exact putB h2 hl2 hl3 hj hnew
