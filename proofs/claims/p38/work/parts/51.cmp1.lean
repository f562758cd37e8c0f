set_option maxRecDepth 100000 in
theorem mg_cmp_1 : ∀ r, r < 5 → ∀ s, s < 181 → 0 < 5 + r → s ≤ 20 * (5 + r) → Op.cmpValue (FP.dcmp (FP.ddiv (FP.i2d (nI s)) (FP.i2d (nI (5 + r)))) (FP.ddiv (FP.i2d (nI s)) (FP.i2d (nI (5 + r))))) .l = 0 := by decide +kernel
