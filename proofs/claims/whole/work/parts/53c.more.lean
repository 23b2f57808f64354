/-! undo, save, restore, positions -/
theorem hm1 : ((0 : Int32) ≤ -1) = False := eq_false (by decide)
theorem L_errPos (m : Int32) (o : Nat → Int64) : f_L_errorPosition m o 1 = if m = -1 then some (1, o) else some (0, vp_updL o (0 : Int32).toNatClampNeg m.toInt64) := by
  unfold f_L_errorPosition f_X12_errorPosition
  by_cases h : m = -1
  · rw [if_pos h, if_pos h]; rfl
  · rw [if_neg h, if_neg h, Option.bind_some, if_pos rfl, if_neg (g0F (by decide))]
theorem M_errPos (code m : Int32) (h : m = -1 ∨ 0 ≤ m) : f_X13_errorPosition code m = if m = -1 then some (0, 1) else some (m, 0) := by
  unfold f_X13_errorPosition
  rcases h with rfl | h
  · simp only [jo, hm1, if_false, if_true, m_fails1, Option.bind_some, i10]
  · have hn : ¬ m = -1 := fun q => by rw [q, hm1] at h; exact h
    simp only [jo, eq_true h, if_true, m_fails0, Option.bind_some, if_neg hn]
theorem L_failCmd (m : Int32) (o : Nat → Int64) : f_L_failedCommand m o 1 = if m = -1 then some (1, o) else some (0, vp_updL o (0 : Int32).toNatClampNeg m.toInt64) := by
  unfold f_L_failedCommand f_X12_failedCommand
  by_cases h : m = -1
  · rw [if_pos h, if_pos h]; rfl
  · rw [if_neg h, if_neg h, Option.bind_some, if_pos rfl, if_neg (g0F (by decide))]
theorem M_failCmd (code m : Int32) (h : m = -1 ∨ 0 ≤ m) : f_X13_failedCommand code m = if m = -1 then some (0, 1) else some (m, 0) := by
  unfold f_X13_failedCommand
  rcases h with rfl | h
  · simp only [jo, hm1, if_false, if_true, m_fails1, Option.bind_some, i10]
  · have hn : ¬ m = -1 := fun q => by rw [q, hm1] at h; exact h
    simp only [jo, eq_true h, if_true, m_fails0, Option.bind_some, if_neg hn]
theorem m_undo0 (g kept : Nat → Int32) (code : Int32) : f_X13_undo g kept 0 code = some (0, g, 0, 1) := by
  unfold f_X13_undo
  simp only [jo, if_true, m_fails1, Option.bind_some, i10, if_false]
theorem m_undo {g kept : Nat → Int32} {c : Nat} (hc : c < 8) (code : Int32) : f_X13_undo g kept (nI (c + 1)) code = some (nI c, fun i => if i < 60 then kept (60 * c + i) else g i, nI c, 0) := by
  have h0 : (nI (c + 1) = 0) = False := by rw [show (0 : Int32) = nI 0 from rfl, qI_eq (by omega) (by decide)]; exact eq_false (by omega)
  have e2 : nI (c + 1) - 1 = nI c := (qI_sub (a := c + 1) (b := 1) (by omega)).trans (congrArg nI (by omega))
  unfold f_X13_undo
  simp only [jo, h0, if_false, m_fails0, if_true, Option.bind_some, e2]
  rw [show (60 : Int32) * nI c = nI (60 * c) from qI_mul 60 c, show f_X13_copies kept g 480 60 (nI (60 * c)) 0 = _ from m_copies (fr := kept) (t := g) (n0 := 480) (n2 := 60) (a := 60 * c) (b := 0) (by omega) (by omega) (by decide) (by decide), Option.bind_some]
  refine congrArg some (Prod.ext rfl (Prod.ext (funext fun i => ?_) rfl))
  by_cases h : i < 60
  · simp only [Nat.zero_le, true_and, Nat.zero_add, h, if_true, Nat.sub_zero]
  · simp only [Nat.zero_le, true_and, Nat.zero_add, h, if_false]
theorem m_save (g saved : Nat → Int32) (iS code : Int32) : f_X13_save g saved iS code = some (g 0, fun i => if i < 60 then g i else saved i, 1, 0) := by
  unfold f_X13_save
  rw [show f_X13_copies g saved 60 60 0 0 = _ from m_copies (fr := g) (t := saved) (n0 := 60) (n2 := 60) (a := 0) (b := 0) (by decide) (by decide) (by decide) (by decide), Option.bind_some]
  refine congrArg some (Prod.ext rfl (Prod.ext (funext fun i => ?_) rfl))
  by_cases h : i < 60
  · simp only [Nat.zero_le, true_and, Nat.zero_add, h, if_true, Nat.sub_zero]
  · simp only [Nat.zero_le, true_and, Nat.zero_add, h, if_false]
theorem m_restore0 (g saved : Nat → Int32) (ch code : Int32) : f_X13_restore g saved 0 ch code = some (0, g, ch, 1) := by
  unfold f_X13_restore
  simp only [jo, if_true, m_fails1, Option.bind_some, i10, if_false]
theorem m_restore {g saved : Nat → Int32} {iS : Int32} (h0 : iS ≠ 0) (ch code : Int32) : f_X13_restore g saved iS ch code = some (saved 0, fun i => if i < 60 then saved i else g i, 0, 0) := by
  unfold f_X13_restore
  simp only [jo, if_neg h0, m_fails0, if_true, Option.bind_some]
  rw [show f_X13_copies saved g 60 60 0 0 = _ from m_copies (fr := saved) (t := g) (n0 := 60) (n2 := 60) (a := 0) (b := 0) (by decide) (by decide) (by decide) (by decide), Option.bind_some]
  refine congrArg some (Prod.ext ?_ (Prod.ext (funext fun i => ?_) rfl))
  · rfl
  · by_cases h : i < 60
    · simp only [Nat.zero_le, true_and, Nat.zero_add, h, if_true, Nat.sub_zero]
    · simp only [Nat.zero_le, true_and, Nat.zero_add, h, if_false]
