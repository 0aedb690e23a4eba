/-! no NaN: a quotient of two ints, the second not 0 -/
theorem fp_n64 {r : UInt64} (h : FP.Core.dIsNaN r = false) : vf_n64 r := by
  have h1 : ¬ 9218868437227405312 < r.toNat % 2 ^ 63 := fun q => by rw [(FP.Core.isNaN_bits r).mpr q] at h; cases h
  show r &&& 0x7fffffffffffffff ≤ 0x7ff0000000000000
  rw [UInt64.le_iff_toNat_le, UInt64.toNat_and]
  have e : (0x7fffffffffffffff : UInt64).toNat = 2 ^ 63 - 1 := rfl
  rw [e, Nat.and_two_pow_sub_one_eq_mod]
  exact Nat.not_lt.mp h1
theorem fp_dd (a b : Int32) (hb : b ≠ 0) : FP.Core.dIsNaN (FP.ddiv (FP.i2d a) (FP.i2d b)) = false := FP.Core.ddiv_out (FP.Core.i2d_fin a).notNaN (FP.Core.i2d_fin b) (fun h => FP.Core.i2d_ne_zero hb ((FP.Core.zero_bits2 _).mp h))
theorem fp_ff (a b : Int32) (hb : b ≠ 0) : FP.Core.fIsNaN (FP.fdiv (FP.i2f a) (FP.i2f b)) = false := FP.Core.fdiv_out (FP.Core.i2f_fin a).notNaN (FP.Core.i2f_fin b) (fun h => FP.Core.i2f_ne_zero hb ((FP.Core.zero_bits232 _).mp h))
theorem fp_n32 {r : UInt32} (h : FP.Core.fIsNaN r = false) : vf_n32 r := by
  have h1 : ¬ 2139095040 < r.toNat % 2 ^ 31 := fun q => by rw [(FP.Core.isNaN_bits32 r).mpr q] at h; cases h
  show r &&& 0x7fffffff ≤ 0x7f800000
  rw [UInt32.le_iff_toNat_le, UInt32.toNat_and]
  have e : (0x7fffffff : UInt32).toNat = 2 ^ 31 - 1 := rfl
  rw [e, Nat.and_two_pow_sub_one_eq_mod]
  exact Nat.not_lt.mp h1
theorem nn_d (a b : Int32) (hb : b ≠ 0) : vf_n64 (FP.ddiv (FP.i2d a) (FP.i2d b)) := fp_n64 (fp_dd a b hb)
theorem nn_f (a b : Int32) (hb : b ≠ 0) : vf_n32 (FP.fdiv (FP.i2f a) (FP.i2f b)) := fp_n32 (fp_ff a b hb)
theorem nn_fd (a b : Int32) (hb : b ≠ 0) : vf_n64 (FP.f2d (FP.fdiv (FP.i2f a) (FP.i2f b))) := by
  rw [FP.f2d_core (fp_ff a b hb)]
  exact fp_n64 (FP.Core.f2d_out (fp_ff a b hb))
