set_option maxRecDepth 100000 in
theorem mg_cmp_6 : ∀ r, r < 5 → ∀ s, s < 681 → 0 < 30 + r → s ≤ 20 * (30 + r) → Op.cmpValue (FP.dcmp (FP.ddiv (FP.i2d (nI s)) (FP.i2d (nI (30 + r)))) (FP.ddiv (FP.i2d (nI s)) (FP.i2d (nI (30 + r))))) .l = 0 := by decide +kernel
