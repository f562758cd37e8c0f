set_option maxRecDepth 100000 in
theorem mg_n64 : ∀ c, c < 41 → ∀ s, s < 801 → 0 < c → s ≤ 20 * c → vf_n64 (FP.ddiv (FP.i2d (nI s)) (FP.i2d (nI c))) := by unfold vf_n64; decide +kernel
