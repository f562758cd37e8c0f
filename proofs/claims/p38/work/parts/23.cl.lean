theorem g_cl {α : Type} {f : Nat → α} {k : Nat} {v : α} (h : k < 2 ^ 31) (e : f k = v) : f (nI k).toNatClampNeg = v := by rw [nI_clamp h]; exact e
theorem g_clu {f f' : Nat → Int32} {k : Nat} {x : Int32} (h : k < 2 ^ 31) (e : upd f k x = f') : upd f (nI k).toNatClampNeg x = f' := by rw [nI_clamp h]; exact e
theorem g_clL {f f' : Nat → Int64} {k : Nat} {x : Int64} (h : k < 2 ^ 31) (e : vp_updL f k x = f') : vp_updL f (nI k).toNatClampNeg x = f' := by rw [nI_clamp h]; exact e
theorem nI_neq {a b : Nat} (h : a ≠ b) (ha : a < 2 ^ 31) (hb : b < 2 ^ 31) : ¬ nI a = nI b := fun e => h ((nI_eq ha hb).mp e)
