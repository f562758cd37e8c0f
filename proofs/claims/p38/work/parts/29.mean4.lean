set_option maxRecDepth 100000 in
theorem mg_n64_4 : ∀ r, r < 5 → ∀ s, s < 481 → 0 < 20 + r → s ≤ 20 * (20 + r) → vf_n64 (FP.ddiv (FP.i2d (nI s)) (FP.i2d (nI (20 + r)))) := by unfold vf_n64; decide +kernel
