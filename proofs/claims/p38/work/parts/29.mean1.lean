set_option maxRecDepth 100000 in
theorem mg_n64_1 : ∀ r, r < 5 → ∀ s, s < 181 → 0 < 5 + r → s ≤ 20 * (5 + r) → vf_n64 (FP.ddiv (FP.i2d (nI s)) (FP.i2d (nI (5 + r)))) := by unfold vf_n64; decide +kernel
