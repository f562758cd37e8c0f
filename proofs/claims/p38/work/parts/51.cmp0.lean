set_option maxRecDepth 100000 in
theorem mg_cmp_0 : ∀ r, r < 5 → ∀ s, s < 81 → 0 < 0 + r → s ≤ 20 * (0 + r) → Op.cmpValue (FP.dcmp (FP.ddiv (FP.i2d (nI s)) (FP.i2d (nI (0 + r)))) (FP.ddiv (FP.i2d (nI s)) (FP.i2d (nI (0 + r))))) .l = 0 := by decide +kernel
