set_option maxRecDepth 100000 in
theorem mg_n64_3 : ∀ r, r < 5 → ∀ s, s < 381 → 0 < 15 + r → s ≤ 20 * (15 + r) → vf_n64 (FP.ddiv (FP.i2d (nI s)) (FP.i2d (nI (15 + r)))) := by unfold vf_n64; decide +kernel
