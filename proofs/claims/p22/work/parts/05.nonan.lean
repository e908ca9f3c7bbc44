-- FLOATS THAT ARE NO NaN
theorem n32_of {r : UInt32} (h : FP.Core.fIsNaN r = false) : vf_n32 r := by
  unfold vf_n32
  rw [UInt32.le_iff_toNat_le, FP.Core.mask_toNat32]
  have h1 : ¬ (2139095040 < r.toNat % 2 ^ 31) := fun q => by
    have := (FP.Core.isNaN_bits32 r).mpr q
    rw [h] at this
    cases this
  have h2 : (0x7f800000 : UInt32).toNat = 2139095040 := by decide
  omega
theorem mul_mag32 (x y : Int32) : (FP.fmul (FP.i2f x) (FP.i2f y)).toNat % 2 ^ 31 < 194 * 2 ^ 23 := by
  have h := FP.Core.fmul_mag (FP.Core.i2f_mag x) (FP.Core.i2f_mag y) (by omega) (by omega)
  exact h
theorem mul_fin (x y : Int32) : FP.Core.FFin (FP.fmul (FP.i2f x) (FP.i2f y)) := FP.Core.fin_of_lt32 (mul_mag32 x y) (by omega)
theorem half_mag32 (x y : Int32) : (FP.fmul (FP.fmul (FP.i2f x) (FP.i2f y)) 1056964608).toNat % 2 ^ 31 < 195 * 2 ^ 23 := by
  have h := FP.Core.fmul_mag (b := 1056964608) (Kb := 127) (mul_mag32 x y) (by decide) (by omega) (by omega)
  exact h
theorem half_fin (x y : Int32) : FP.Core.FFin (FP.fmul (FP.fmul (FP.i2f x) (FP.i2f y)) 1056964608) := FP.Core.fin_of_lt32 (half_mag32 x y) (by omega)
theorem nn_mul (x y : Int32) : vf_n32 (FP.fmul (FP.i2f x) (FP.i2f y)) := n32_of (mul_fin x y).notNaN
theorem nn_half (x y : Int32) : vf_n32 (FP.fmul (FP.fmul (FP.i2f x) (FP.i2f y)) 1056964608) := n32_of (half_fin x y).notNaN
theorem nn_add {m r : UInt32} (hm : FP.Core.FFin m) (hr : FP.Core.FFin r) : vf_n32 (FP.fadd m r) := n32_of (FP.Core.fadd_out' hm hr.notNaN)
theorem nn_sub {m r : UInt32} (hm : FP.Core.FFin m) (hr : FP.Core.FFin r) : vf_n32 (FP.fsub m r) := n32_of (FP.Core.fsub_out' hm hr.notNaN)
