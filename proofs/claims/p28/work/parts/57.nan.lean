/-! a rate is a number -/
theorem nn_div (x y : Int32) (h : ¬ y = 0) : vf_n64 (FP.ddiv (FP.i2d x) (FP.i2d y)) := by
  have h1 : FP.Core.dIsNaN (FP.Core.ddiv (FP.Core.i2d x) (FP.Core.i2d y)) = false := FP.Core.ddiv_out (FP.Core.i2d_fin x).notNaN (FP.Core.i2d_fin y) (fun q => FP.Core.i2d_ne_zero h ((FP.Core.zero_bits2 _).mp q))
  have h2 : ¬ 9218868437227405312 < (FP.ddiv (FP.i2d x) (FP.i2d y)).toNat % 2 ^ 63 := fun q => by
    have h3 := (FP.Core.isNaN_bits _).mpr q
    exact absurd (h3.symm.trans h1) (by decide)
  unfold vf_n64
  rw [UInt64.le_iff_toNat_le, UInt64.toNat_and]
  have e : (0x7fffffffffffffff : UInt64).toNat = 2 ^ 63 - 1 := by decide
  rw [e, Nat.and_two_pow_sub_one_eq_mod]
  have e2 : (0x7ff0000000000000 : UInt64).toNat = 9218868437227405312 := by decide
  rw [e2]
  omega
