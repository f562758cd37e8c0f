set_option maxRecDepth 100000 in
theorem mg_n64_2 : ∀ r, r < 5 → ∀ s, s < 281 → 0 < 10 + r → s ≤ 20 * (10 + r) → vf_n64 (FP.ddiv (FP.i2d (nI s)) (FP.i2d (nI (10 + r)))) := by unfold vf_n64; decide +kernel
