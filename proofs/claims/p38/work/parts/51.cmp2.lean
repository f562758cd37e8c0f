set_option maxRecDepth 100000 in
theorem mg_cmp_2 : ∀ r, r < 5 → ∀ s, s < 281 → 0 < 10 + r → s ≤ 20 * (10 + r) → Op.cmpValue (FP.dcmp (FP.ddiv (FP.i2d (nI s)) (FP.i2d (nI (10 + r)))) (FP.ddiv (FP.i2d (nI s)) (FP.i2d (nI (10 + r))))) .l = 0 := by decide +kernel
