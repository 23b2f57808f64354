/-! what holds between the class's state and the model's -/
def RS (t : StT) (g : Nat → Int32) : Prop :=
  (∀ k, k < 25 → g (7 + k) = t.1 k) ∧ (∀ k, k < 25 → ∃ v, v < 100 ∧ t.1 k = nI v) ∧ g 2 = t.2.1 ∧ (∃ v, 1 ≤ v ∧ v ≤ 50 ∧ t.2.1 = nI v) ∧
  (∀ k, k < 16 → g (32 + k) = t.2.2.1 k) ∧ (∀ k, k < 16 → ∃ v, v < 4 ∧ t.2.2.1 k = nI v) ∧ (∀ r, r < 4 → ∃ c, c < 4 ∧ t.2.2.1 (4 * r + c) ≠ 0) ∧ g 1 = t.2.2.2.1 ∧ (∃ v, v < 4 ∧ t.2.2.2.1 = nI v) ∧
  (∃ n, n ≤ 6 ∧ t.2.2.2.2.2.2.1 = nI n ∧ g 3 = nI n ∧ ∀ k, k < n → g (48 + 2 * k) = t.2.2.2.2.1 k ∧ g (49 + 2 * k) = t.2.2.2.2.2.1 k ∧ ∃ v, v < 4 ∧ t.2.2.2.2.2.1 k = nI v) ∧
  g 4 = t.2.2.2.2.2.2.2.1 ∧ g 5 = t.2.2.2.2.2.2.2.2.1 ∧ g 6 = t.2.2.2.2.2.2.2.2.2.1 ∧ g 0 = t.2.2.2.2.2.2.2.2.2.2
def RH (ring : Nat → StT) (nx ct : Int32) (kept : Nat → Int32) (ch : Int32) : Prop := ∃ n c, n < 8 ∧ c ≤ 8 ∧ nx = nI n ∧ ct = nI c ∧ ch = nI c ∧ ∀ j, j < c → RS (ring ((n + 8 - c + j) % 8)) (fun i => kept (60 * j + i))
def RT (tsg : Nat → Int32) (tlen : Int32) (inp : Nat → Int32) (len : Int32) : Prop := ∃ k, k ≤ 60 ∧ tlen = nI k ∧ len = nI k ∧ ∀ i, i < k → tsg i = inp i ∧ ∃ v, 32 ≤ v ∧ v ≤ 126 ∧ inp i = nI v
def RL' (lsg : Nat → Int32) (llen : Int32) (sg : Nat → Int32) (sm : Int32) : Prop := ∃ k, k ≤ 160 ∧ llen = nI k ∧ sm = nI k ∧ ∀ i, i < k → lsg i = sg i ∧ ∃ v, v < 128 ∧ sg i = nI v
def Rel (st sn : StT) (has : Int32) (ring : Nat → StT) (nx ct : Int32) (tsg : Nat → Int32) (tlen : Int32) (lsg : Nat → Int32) (llen mal fai : Int32) (g kept saved : Nat → Int32) (isS ch wi : Int32) (inp : Nat → Int32) (len fau fld : Int32) (sg : Nat → Int32) (sm : Int32) : Prop :=
  RS st g ∧ wi = 0 ∧ has = isS ∧ (isS = 0 ∨ RS sn saved) ∧ RH ring nx ct kept ch ∧ RT tsg tlen inp len ∧ RL' lsg llen sg sm ∧ (mal = fau ∧ (mal = -1 ∨ 0 ≤ mal)) ∧ (fai = fld ∧ (fai = -1 ∨ 0 ≤ fai))
