set_option maxRecDepth 100000 in
theorem mg_n64_6 : ∀ r, r < 5 → ∀ s, s < 681 → 0 < 30 + r → s ≤ 20 * (30 + r) → vf_n64 (FP.ddiv (FP.i2d (nI s)) (FP.i2d (nI (30 + r)))) := by unfold vf_n64; decide +kernel
