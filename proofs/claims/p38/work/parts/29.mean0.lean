set_option maxRecDepth 100000 in
theorem mg_n64_0 : ∀ r, r < 5 → ∀ s, s < 81 → 0 < 0 + r → s ≤ 20 * (0 + r) → vf_n64 (FP.ddiv (FP.i2d (nI s)) (FP.i2d (nI (0 + r)))) := by unfold vf_n64; decide +kernel
