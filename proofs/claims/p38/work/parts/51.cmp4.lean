set_option maxRecDepth 100000 in
theorem mg_cmp_4 : ∀ r, r < 5 → ∀ s, s < 481 → 0 < 20 + r → s ≤ 20 * (20 + r) → Op.cmpValue (FP.dcmp (FP.ddiv (FP.i2d (nI s)) (FP.i2d (nI (20 + r)))) (FP.ddiv (FP.i2d (nI s)) (FP.i2d (nI (20 + r))))) .l = 0 := by decide +kernel
