/-! the few quotients that can come: none is no number, and each is its like -/
set_option maxRecDepth 100000 in
theorem dd_ok : ∀ b, b < 36 → ∀ a, a < 289 → FP.ddiv (FP.i2d (nI a)) (FP.i2d (nI (b + 1))) &&& 0x7fffffffffffffff ≤ 0x7ff0000000000000 ∧ Op.cmpValue (FP.dcmp (FP.ddiv (FP.i2d (nI a)) (FP.i2d (nI (b + 1)))) (FP.ddiv (FP.i2d (nI a)) (FP.i2d (nI (b + 1))))) .l = 0 := by decide +kernel
set_option maxRecDepth 100000 in
theorem ff_ok : ∀ b, b < 36 → ∀ a, a < 37 → FP.fdiv (FP.i2f (nI a)) (FP.i2f (nI (b + 1))) &&& 0x7fffffff ≤ 0x7f800000 ∧ FP.f2d (FP.fdiv (FP.i2f (nI a)) (FP.i2f (nI (b + 1)))) &&& 0x7fffffffffffffff ≤ 0x7ff0000000000000 ∧ Op.cmpValue (FP.dcmp (FP.f2d (FP.fdiv (FP.i2f (nI a)) (FP.i2f (nI (b + 1))))) (FP.f2d (FP.fdiv (FP.i2f (nI a)) (FP.i2f (nI (b + 1)))))) .l = 0 := by decide +kernel
