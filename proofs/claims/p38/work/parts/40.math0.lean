/-! bits, sums, greater and smaller numbers -/
theorem bl_ge {x : Int64} {o : Nat} (h : 64 ≤ o) : bitL x o = false := BitVec.getLsbD_of_ge _ _ h
theorem bl_or (x y : Int64) (o : Nat) : bitL (x ||| y) o = (bitL x o || bitL y o) := by unfold bitL; rw [Int64.toBitVec_or, BitVec.getLsbD_or]
theorem bl_and (x y : Int64) (o : Nat) : bitL (x &&& y) o = (bitL x o && bitL y o) := by unfold bitL; rw [Int64.toBitVec_and, BitVec.getLsbD_and]
theorem bl_bit {k : Nat} (hk : k < 64) (o : Nat) : bitL (gbit k) o = decide (o = k) := by
  by_cases h : 64 ≤ o
  · rw [bl_ge h]; exact (decide_eq_false (by omega)).symm
  · show (BitVec.ofNat 64 (2 ^ k)).getLsbD o = _
    rw [BitVec.getLsbD_ofNat, Nat.testBit_two_pow, decide_eq_true (show o < 64 by omega), Bool.true_and]
    exact decide_eq_decide.mpr ⟨fun h => h.symm, fun h => h.symm⟩
theorem bl_0 (o : Nat) : bitL 0 o = false := BitVec.getLsbD_zero
theorem bl_ext {x y : Int64} (h : ∀ o, o < 64 → bitL x o = bitL y o) : x = y := Int64.toBitVec_inj.mp (BitVec.eq_of_getLsbD_eq (fun i hi => h i hi))
theorem gEx_bl (x : Int64) {k : Nat} (hk : k < 64) : gEx x k = bitL x k := by
  unfold gEx
  by_cases h : bitL x k = true
  · rw [h, decide_eq_false (fun e => ?_)]; · rfl
    have := bl_0 k; rw [← e, bl_and, h, bl_bit hk, decide_eq_true rfl] at this; cases this
  · have h := ts_nt h
    rw [h, decide_eq_true]; · rfl
    refine bl_ext (fun o _ => ?_)
    rw [bl_and, bl_bit hk, bl_0]
    by_cases e : o = k
    · subst e; rw [h]; rfl
    · rw [decide_eq_false e, Bool.and_false]
theorem sum_ct (f : Nat → Bool) : ∀ n, sumI (fun p => b2i (f p)) n = nI (fb_ct f n)
  | 0 => nI_0.symm
  | n + 1 => by
    rw [sumI, sum_ct f n, fb_ct_succ]
    cases f n
    · show nI _ + 0 = nI (_ + 0); rw [Int32.add_zero, Nat.add_zero]
    · exact nI_1 _
theorem sum_cong {f g : Nat → Int32} : ∀ {n : Nat}, (∀ k, k < n → f k = g k) → sumI f n = sumI g n
  | 0, _ => rfl
  | n + 1, h => by rw [sumI, sumI, sum_cong (fun k hk => h k (by omega)), h n (by omega)]
theorem amx_cong {w v f g : Nat → Int32} {z : Int32 × Int32} : ∀ {n : Nat}, (∀ k, k < n → w k = v k ∧ f k = g k) → amx w f z n = amx v g z n
  | 0, _ => rfl
  | n + 1, h => by rw [amx, amx, amx_cong (fun k hk => h k (by omega)), (h n (by omega)).1, (h n (by omega)).2]
theorem i_ext {x y : Int32} (h : x.toInt = y.toInt) : x = y := Int32.toInt_inj.mp h
theorem imx_I (x y : Int32) : (imx x y).toInt = max x.toInt y.toInt := by
  unfold imx
  by_cases h : x < y
  · rw [if_pos h]; have := Int32.lt_iff_toInt_lt.mp h; omega
  · rw [if_neg h]; have : ¬ x.toInt < y.toInt := fun q => h (Int32.lt_iff_toInt_lt.mpr q); omega
theorem imn_I (x y : Int32) : (imn x y).toInt = min x.toInt y.toInt := by
  unfold imn
  by_cases h : y < x
  · rw [if_pos h]; have := Int32.lt_iff_toInt_lt.mp h; omega
  · rw [if_neg h]; have : ¬ y.toInt < x.toInt := fun q => h (Int32.lt_iff_toInt_lt.mpr q); omega
theorem imn_comm (x y : Int32) : imn x y = imn y x := i_ext (by rw [imn_I, imn_I]; omega)
/-! the greatest over a set -/
theorem mBf_ge (h : Nat → Bool) (v : Nat → Int32) : ∀ n, 0 ≤ (mBf h v n).toInt
  | 0 => by show 0 ≤ (0 : Int32).toInt; decide
  | n + 1 => by
    rw [mBf]
    by_cases q : h n = true
    · rw [if_pos q, imx_I]; have := mBf_ge h v n; omega
    · rw [if_neg q]; exact mBf_ge h v n
theorem mBf_or {h h1 h2 : Nat → Bool} (v : Nat → Int32) : ∀ n, (∀ o, o < n → h o = (h1 o || h2 o)) → mBf h v n = imx (mBf h1 v n) (mBf h2 v n)
  | 0, _ => rfl
  | n + 1, q => by
    have ih := mBf_or v n (fun o ho => q o (by omega))
    have I := congrArg Int32.toInt ih
    rw [imx_I] at I
    refine i_ext ?_
    rw [imx_I, mBf, mBf, mBf, q n (by omega)]
    cases h1 n <;> cases h2 n <;> (simp only [Bool.or_false, Bool.or_true, if_true, if_false, Bool.false_eq_true, imx_I]; omega)
theorem mBf_cong {h h1 : Nat → Bool} {v v1 : Nat → Int32} : ∀ n, (∀ o, o < n → h o = h1 o ∧ (h o = true → v o = v1 o)) → mBf h v n = mBf h1 v1 n
  | 0, _ => rfl
  | n + 1, q => by
    rw [mBf, mBf, mBf_cong n (fun o ho => q o (by omega)), ← (q n (by omega)).1]
    by_cases c : h n = true
    · rw [if_pos c, if_pos c, (q n (by omega)).2 c]
    · rw [if_neg c, if_neg c]
theorem mBf_one {h : Nat → Bool} (v : Nat → Int32) (p : Nat) : ∀ n, (∀ o, o < n → h o = decide (o = p)) → mBf h v n = if p < n then imx 0 (v p) else 0
  | 0, _ => rfl
  | n + 1, q => by
    rw [mBf, mBf_one v p n (fun o ho => q o (by omega)), q n (by omega)]
    by_cases c : n = p
    · subst c; rw [decide_eq_true rfl, if_pos rfl, if_neg (by omega), if_pos (by omega)]
    · rw [decide_eq_false c, if_neg (by decide)]
      by_cases e : p < n
      · rw [if_pos e, if_pos (by omega)]
      · rw [if_neg e, if_neg (by omega)]
/-! the reference's table -/
theorem tb_eq {τ : MS} {ex f0 U : Nat → Int32} {n : Nat} (hU : ∀ p, p < n → (mf τ p = true → mo τ p < p ∧ mh τ p < p ∧ U p = imx (U (mo τ p)) (U (mh τ p))) ∧ (mf τ p = false → U p = if md τ p = -1 then ex p else md τ p)) : ∀ i, i ≤ n → ∀ p, p < i → tbR τ ex f0 i p = U p
  | 0, _, p, h => by omega
  | i + 1, hi, p, h => by
    have ih := tb_eq (f0 := f0) hU i (by omega)
    rw [tbR]
    by_cases c : p = i
    · subst c
      rw [pk_us]
      obtain ⟨h1, h2⟩ := hU p (by omega)
      by_cases q : mf τ p = true
      · obtain ⟨a1, a2, a3⟩ := h1 q
        rw [if_pos q, ih _ a1, ih _ a2, a3]
      · rw [if_neg q, h2 (ts_nt q)]
    · rw [pk_un c]; exact ih p (by omega)
