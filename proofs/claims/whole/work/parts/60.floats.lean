/-! means and shares are numbers -/
theorem nn64 {x : UInt64} (h : FP.Core.dIsNaN x = false) : x &&& 0x7fffffffffffffff ≤ 0x7ff0000000000000 := by
  have h1 := (FP.Core.ne_nan x).mp ((FP.Core.notNaN_iff x).mp h)
  rw [UInt64.le_iff_toNat_le, UInt64.toNat_and]
  have e : (0x7fffffffffffffff : UInt64).toNat = 2 ^ 63 - 1 := by decide
  rw [e, Nat.and_two_pow_sub_one_eq_mod]
  exact h1
theorem nn32 {x : UInt32} (h : FP.Core.fIsNaN x = false) : x &&& 0x7fffffff ≤ 0x7f800000 := by
  have h1 := (FP.Core.ne_nan32 x).mp ((FP.Core.notNaN_iff32 x).mp h)
  rw [UInt32.le_iff_toNat_le, UInt32.toNat_and]
  have e : (0x7fffffff : UInt32).toNat = 2 ^ 31 - 1 := by decide
  rw [e, Nat.and_two_pow_sub_one_eq_mod]
  exact h1
theorem mean_num (a : Int32) {b : Int32} (hb : b ≠ 0) : FP.Core.dIsNaN (FP.ddiv (FP.i2d a) (FP.i2d b)) = false := FP.Core.ddiv_out (FP.Core.i2d_fin a).notNaN (FP.Core.i2d_fin b) (fun q => FP.Core.i2d_ne_zero hb ((FP.Core.zero_bits2 _).mp q))
theorem share_num (a : Int32) {b : Int32} (hb : b ≠ 0) : FP.Core.fIsNaN (FP.fdiv (FP.i2f a) (FP.i2f b)) = false := FP.Core.fdiv_out (FP.Core.i2f_fin a).notNaN (FP.Core.i2f_fin b) (fun q => FP.Core.i2f_ne_zero hb ((FP.Core.zero_bits232 _).mp q))
theorem dself {x : UInt64} (h : FP.Core.dIsNaN x = false) : Op.cmpValue (FP.dcmp x x) CmpOp.l = 0 := by
  rw [show FP.dcmp x x = some .eq from FP.Core.dcmp_self ((FP.Core.notNaN_iff x).mp h)]
  rfl
theorem f2d_num {x : UInt32} (h : FP.Core.fIsNaN x = false) : FP.Core.dIsNaN (FP.f2d x) = false := by
  unfold FP.f2d
  rw [h]
  exact FP.Core.f2d_out h
theorem mean_both {g : Nat → Int32} {s r : Int32} (h4 : g 4 = s) (h5 : g 5 = r) (o : Nat → UInt64) (code : Int32) : (f_L_meanError s r o 1 = some (1, o) ∧ ∃ v, f_X13_meanError g code = some (v, 1)) ∨ ∃ v : UInt64, FP.Core.dIsNaN v = false ∧ f_L_meanError s r o 1 = some (0, va_up o (0 : Int32).toNatClampNeg v) ∧ f_X13_meanError g code = some (v, 0) := by
  unfold f_L_meanError f_X12_meanError f_X12_requireScored f_X13_meanError
  rw [show g (4 : Int32).toNatClampNeg = s from h4, show g (5 : Int32).toNatClampNeg = r from h5]
  by_cases h : s = 0
  · refine Or.inl ⟨?_, 0, ?_⟩
    · simp only [if_pos h, obS, show ((5 : Nat) = 0) = False from eq_false (by decide), if_false, if_true]
    · simp only [joE, if_pos h, m_fails1, obS, i10, if_false]
  · have hm := mean_num r h
    have hn : (¬ FP.ddiv (FP.i2d r) (FP.i2d s) &&& 0x7fffffffffffffff ≤ 0x7ff0000000000000) = False := eq_false (fun q => q (nn64 hm))
    refine Or.inr ⟨FP.ddiv (FP.i2d r) (FP.i2d s), hm, ?_, ?_⟩
    · simp only [if_neg h, obS, if_true, hn, if_false]
      exact if_neg (g0F (by decide))
    · simp only [joE, if_neg h, m_fails0, obS, if_true, hn, if_false]
theorem share_both {g : Nat → Int32} {s r : Int32} (h4 : g 4 = s) (h6 : g 6 = r) (o : Nat → UInt64) (code : Int32) : (f_L_hitShare s r o 1 = some (1, o) ∧ ∃ v, f_X13_hitShare g code = some (v, 1)) ∨ ∃ v : UInt32, FP.Core.fIsNaN v = false ∧ f_L_hitShare s r o 1 = some (0, va_up o (0 : Int32).toNatClampNeg (FP.f2d v)) ∧ f_X13_hitShare g code = some (v, 0) := by
  unfold f_L_hitShare f_X12_hitShare f_X12_requireScored f_X13_hitShare
  rw [show g (4 : Int32).toNatClampNeg = s from h4, show g (6 : Int32).toNatClampNeg = r from h6]
  by_cases h : s = 0
  · refine Or.inl ⟨?_, 0, ?_⟩
    · simp only [if_pos h, obS, show ((5 : Nat) = 0) = False from eq_false (by decide), if_false, if_true]
    · simp only [joE, if_pos h, m_fails1, obS, i10, if_false]
  · have hm := share_num r h
    have hn : (¬ FP.fdiv (FP.i2f r) (FP.i2f s) &&& 0x7fffffff ≤ 0x7f800000) = False := eq_false (fun q => q (nn32 hm))
    have hn2 : (¬ FP.f2d (FP.fdiv (FP.i2f r) (FP.i2f s)) &&& 0x7fffffffffffffff ≤ 0x7ff0000000000000) = False := eq_false (fun q => q (nn64 (f2d_num hm)))
    refine Or.inr ⟨FP.fdiv (FP.i2f r) (FP.i2f s), hm, ?_, ?_⟩
    · simp only [if_neg h, obS, if_true, hn, hn2, if_false]
      exact if_neg (g0F (by decide))
    · simp only [joE, if_neg h, m_fails0, obS, if_true, hn, if_false]
