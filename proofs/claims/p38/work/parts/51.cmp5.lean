set_option maxRecDepth 100000 in
theorem mg_cmp_5 : ∀ r, r < 5 → ∀ s, s < 581 → 0 < 25 + r → s ≤ 20 * (25 + r) → Op.cmpValue (FP.dcmp (FP.ddiv (FP.i2d (nI s)) (FP.i2d (nI (25 + r)))) (FP.ddiv (FP.i2d (nI s)) (FP.i2d (nI (25 + r))))) .l = 0 := by decide +kernel
