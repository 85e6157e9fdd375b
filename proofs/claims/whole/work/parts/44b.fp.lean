-- figures: no NaN
theorem fp_a : ∀ b, b < 91 → b = 0 ∨ ∀ a, a < 91 → (FP.fdiv (FP.i2f (nI a)) (FP.i2f (nI b)) &&& 0x7fffffff ≤ 0x7f800000) ∧ FP.f2d (FP.fdiv (FP.i2f (nI a)) (FP.i2f (nI b))) &&& 0x7fffffffffffffff ≤ 0x7ff0000000000000 := by decide +kernel
theorem fp_m0 : ∀ b, b < 45 → b + 0 = 0 ∨ ∀ a, a < 9 * (b + 0) + 1 → FP.ddiv (FP.i2d (nI a)) (FP.i2d (nI (b + 0))) &&& 0x7fffffffffffffff ≤ 0x7ff0000000000000 := by decide +kernel
theorem fp_m1 : ∀ b, b < 19 → b + 45 = 0 ∨ ∀ a, a < 9 * (b + 45) + 1 → FP.ddiv (FP.i2d (nI a)) (FP.i2d (nI (b + 45))) &&& 0x7fffffffffffffff ≤ 0x7ff0000000000000 := by decide +kernel
theorem fp_m2 : ∀ b, b < 15 → b + 64 = 0 ∨ ∀ a, a < 9 * (b + 64) + 1 → FP.ddiv (FP.i2d (nI a)) (FP.i2d (nI (b + 64))) &&& 0x7fffffffffffffff ≤ 0x7ff0000000000000 := by decide +kernel
theorem fp_m3 : ∀ b, b < 12 → b + 79 = 0 ∨ ∀ a, a < 9 * (b + 79) + 1 → FP.ddiv (FP.i2d (nI a)) (FP.i2d (nI (b + 79))) &&& 0x7fffffffffffffff ≤ 0x7ff0000000000000 := by decide +kernel
