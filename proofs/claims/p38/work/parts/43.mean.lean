theorem mg_n64 (c : Nat) (hc : c < 41) (s : Nat) (_ : s < 801) (h0 : 0 < c) (hs : s ≤ 20 * c) : vf_n64 (FP.ddiv (FP.i2d (nI s)) (FP.i2d (nI c))) := by
  obtain ⟨k, r, hr, rfl⟩ : ∃ k r, r < 5 ∧ c = 5 * k + r := ⟨c / 5, c % 5, Nat.mod_lt _ (by decide), by omega⟩
  rcases (show k = 0 ∨ k = 1 ∨ k = 2 ∨ k = 3 ∨ k = 4 ∨ k = 5 ∨ k = 6 ∨ k = 7 ∨ k = 8 by omega) with rfl | rfl | rfl | rfl | rfl | rfl | rfl | rfl | rfl
  · exact mg_n64_0 r hr s (by omega) (by omega) (by omega)
  · exact mg_n64_1 r hr s (by omega) (by omega) (by omega)
  · exact mg_n64_2 r hr s (by omega) (by omega) (by omega)
  · exact mg_n64_3 r hr s (by omega) (by omega) (by omega)
  · exact mg_n64_4 r hr s (by omega) (by omega) (by omega)
  · exact mg_n64_5 r hr s (by omega) (by omega) (by omega)
  · exact mg_n64_6 r hr s (by omega) (by omega) (by omega)
  · exact mg_n64_7 r hr s (by omega) (by omega) (by omega)
  · exact mg_n64_8 r hr s (by omega) (by omega) (by omega)
