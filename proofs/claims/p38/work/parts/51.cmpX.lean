theorem mg_cmp (c : Nat) (hc : c < 41) (s : Nat) (h0 : 0 < c) (hs : s ≤ 20 * c) : Op.cmpValue (FP.dcmp (FP.ddiv (FP.i2d (nI s)) (FP.i2d (nI c))) (FP.ddiv (FP.i2d (nI s)) (FP.i2d (nI c)))) .l = 0 := by
  obtain ⟨k, r, hr, rfl⟩ : ∃ k r, r < 5 ∧ c = 5 * k + r := ⟨c / 5, c % 5, Nat.mod_lt _ (by decide), by omega⟩
  rcases (show k = 0 ∨ k = 1 ∨ k = 2 ∨ k = 3 ∨ k = 4 ∨ k = 5 ∨ k = 6 ∨ k = 7 ∨ k = 8 by omega) with rfl | rfl | rfl | rfl | rfl | rfl | rfl | rfl | rfl
  · exact mg_cmp_0 r hr s (by omega) (by omega) (by omega)
  · exact mg_cmp_1 r hr s (by omega) (by omega) (by omega)
  · exact mg_cmp_2 r hr s (by omega) (by omega) (by omega)
  · exact mg_cmp_3 r hr s (by omega) (by omega) (by omega)
  · exact mg_cmp_4 r hr s (by omega) (by omega) (by omega)
  · exact mg_cmp_5 r hr s (by omega) (by omega) (by omega)
  · exact mg_cmp_6 r hr s (by omega) (by omega) (by omega)
  · exact mg_cmp_7 r hr s (by omega) (by omega) (by omega)
  · exact mg_cmp_8 r hr s (by omega) (by omega) (by omega)
theorem mg_cmp0 : Op.cmpValue (FP.dcmp FP.dconst0 FP.dconst0) .l = 0 := by decide +kernel
