set_option maxRecDepth 100000 in
theorem mg_cmp_8 : ∀ r, r < 5 → ∀ s, s < 881 → 0 < 40 + r → s ≤ 20 * (40 + r) → Op.cmpValue (FP.dcmp (FP.ddiv (FP.i2d (nI s)) (FP.i2d (nI (40 + r)))) (FP.ddiv (FP.i2d (nI s)) (FP.i2d (nI (40 + r))))) .l = 0 := by decide +kernel
