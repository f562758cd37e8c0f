set_option maxRecDepth 100000 in
theorem mg_cmp_7 : ∀ r, r < 5 → ∀ s, s < 781 → 0 < 35 + r → s ≤ 20 * (35 + r) → Op.cmpValue (FP.dcmp (FP.ddiv (FP.i2d (nI s)) (FP.i2d (nI (35 + r)))) (FP.ddiv (FP.i2d (nI s)) (FP.i2d (nI (35 + r))))) .l = 0 := by decide +kernel
