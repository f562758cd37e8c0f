set_option maxRecDepth 100000 in
theorem mg_n64_7 : ∀ r, r < 5 → ∀ s, s < 781 → 0 < 35 + r → s ≤ 20 * (35 + r) → vf_n64 (FP.ddiv (FP.i2d (nI s)) (FP.i2d (nI (35 + r)))) := by unfold vf_n64; decide +kernel
