set_option maxRecDepth 100000 in
theorem mg_cmp_3 : ∀ r, r < 5 → ∀ s, s < 381 → 0 < 15 + r → s ≤ 20 * (15 + r) → Op.cmpValue (FP.dcmp (FP.ddiv (FP.i2d (nI s)) (FP.i2d (nI (15 + r)))) (FP.ddiv (FP.i2d (nI s)) (FP.i2d (nI (15 + r))))) .l = 0 := by decide +kernel
