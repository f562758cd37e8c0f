set_option maxRecDepth 100000 in
theorem mg_n64_5 : ∀ r, r < 5 → ∀ s, s < 581 → 0 < 25 + r → s ≤ 20 * (25 + r) → vf_n64 (FP.ddiv (FP.i2d (nI s)) (FP.i2d (nI (25 + r)))) := by unfold vf_n64; decide +kernel
