set_option maxRecDepth 100000 in
theorem mg_n64_8 : ∀ r, r < 5 → ∀ s, s < 881 → 0 < 40 + r → s ≤ 20 * (40 + r) → vf_n64 (FP.ddiv (FP.i2d (nI s)) (FP.i2d (nI (40 + r)))) := by unfold vf_n64; decide +kernel
