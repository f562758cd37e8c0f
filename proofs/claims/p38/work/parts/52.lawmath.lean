/-! what the law's checks say of the class's numbers -/
theorem imx_nI {a b : Nat} (ha : a < 2 ^ 31) (hb : b < 2 ^ 31) : imx (nI a) (nI b) = nI (max a b) := by
  refine i_ext ?_
  rw [imx_I, nI_toInt ha, nI_toInt hb, nI_toInt (by omega)]; omega
theorem imn_nI {a b : Nat} (ha : a < 2 ^ 31) (hb : b < 2 ^ 31) : imn (nI a) (nI b) = nI (min a b) := by
  refine i_ext ?_
  rw [imn_I, nI_toInt ha, nI_toInt hb, nI_toInt (by omega)]; omega
theorem imx_sub {a b : Nat} (ha : a < 2 ^ 30) (hb : b < 2 ^ 30) : imx 0 (nI a - nI b) = nI (a - b) := by
  refine i_ext ?_
  rw [imx_I, pk_sub_toInt ha hb, nI_toInt (by omega), show (0 : Int32).toInt = 0 from rfl]; omega
/-- sure grades, hopes and hindsights as numbers -/
theorem RR.num {σ : GS} {τ : MS} (h : RR σ τ) (q : RQ τ) : ∀ n p, p < n → p < mn τ → ∃ u v w, gsu σ p = nI u ∧ gho σ p = nI v ∧ ghs σ p = nI w ∧ u ≤ v ∧ w ≤ v ∧ v ≤ 20
  | 0, _, h, _ => by omega
  | n + 1, p, hn, hp => by
    by_cases c : mf τ p = true
    · obtain ⟨_, _, a3, a4, _, _, a7, a8, a9, _⟩ := h.f c
      obtain ⟨u1, v1, w1, b1, b2, b3, b4, b5, b6⟩ := h.num q n (mo τ p) (by omega) (by omega)
      obtain ⟨u2, v2, w2, d1, d2, d3, d4, d5, d6⟩ := h.num q n (mh τ p) (by omega) (by omega)
      refine ⟨max u1 u2, max v1 v2, max w1 w2, ?_, ?_, ?_, by omega, by omega, by omega⟩
      · rw [a7, b1, d1, imx_nI (by omega) (by omega)]
      · rw [a8, b2, d2, imx_nI (by omega) (by omega)]
      · rw [a9, b3, d3, imx_nI (by omega) (by omega)]
    · have c := ts_nt c
      obtain ⟨_, _, a3, a4, _, _, a7, a8, a9, _⟩ := h.e hp c
      obtain ⟨q1, q2⟩ := (q p hp).1 c
      by_cases e : md τ p = -1
      · rw [if_pos e] at a7 a8 a9
        exact ⟨mo τ p, mh τ p, 0, a7, a8, a9, q1, Nat.zero_le _, a4⟩
      · rw [if_neg e] at a7 a8 a9
        rcases q2 with z | ⟨g, g1, g2, g3⟩
        · exact absurd z e
        · exact ⟨g, g, g, by rw [a7, g3], by rw [a8, g3], by rw [a9, g3], Nat.le_refl _, Nat.le_refl _, by omega⟩
theorem RR.num1 {σ : GS} {τ : MS} (h : RR σ τ) (q : RQ τ) {p : Nat} (hp : p < mn τ) : ∃ u v w, gsu σ p = nI u ∧ gho σ p = nI v ∧ ghs σ p = nI w ∧ u ≤ v ∧ w ≤ v ∧ v ≤ 20 := h.num q (p + 1) p (by omega) hp
theorem RR.rsk {σ : GS} {τ : MS} (h : RR σ τ) (q : RQ τ) {p : Nat} (hp : p < mn τ) (hf : mf τ p = true) (b : Bool) : ∃ r, gRisk σ p b = nI r ∧ r ≤ 180 := by
  obtain ⟨w, w1, w2, w3⟩ := (q p hp).2 hf
  have t1 := h.to hf b
  have t2 := h.to hf (!b)
  obtain ⟨u, _, _, b1, _, _, b4, _, b6⟩ := h.num1 q (p := mTo τ p b) (by omega)
  obtain ⟨_, v, _, _, d2, _, _, _, d6⟩ := h.num1 q (p := mTo τ p (!b)) (by omega)
  refine ⟨(v - u) * w, ?_, Nat.mul_le_mul (show v - u ≤ 20 by omega) w2⟩
  rw [h.rk hf, b1, d2, imx_sub (by omega) (by omega), w3, pk_mul]
theorem RR.sm {σ : GS} {τ : MS} (h : RR σ τ) (q : RQ τ) {p : Nat} (hp : p < mn τ) (hf : mf τ p = true) : ∃ r, gSm σ p = nI r ∧ r ≤ 180 := by
  obtain ⟨r1, e1, l1⟩ := h.rsk q hp hf false
  obtain ⟨r2, e2, l2⟩ := h.rsk q hp hf true
  exact ⟨min r1 r2, by rw [gSm, e1, e2, imn_nI (by omega) (by omega)], by omega⟩
/-- where the plan ends -/
theorem RR.ldE {σ : GS} {τ : MS} (h : RR σ τ) : ∀ d p, p < d → p < mn τ → gLd σ d p < mn τ ∧ mf τ (gLd σ d p) = false ∧ bitL (mr τ p) (gLd σ d p) = true
  | 0, _, h, _ => by omega
  | d + 1, p, hd, hp => by
    have n4 := h.1.1
    rw [gLd, h.ex hp]
    by_cases c : mf τ p = true
    · have t := h.to c (gPl σ p)
      rw [c, if_neg (by decide), t.1]
      obtain ⟨i1, i2, i3⟩ := h.ldE d (mTo τ p (gPl σ p)) (by omega) (by omega)
      refine ⟨i1, i2, ?_⟩
      obtain ⟨_, _, _, _, _, _, _, _, _, a10⟩ := h.f c
      rw [a10]
      unfold mTo at i3 ⊢
      split at i3 <;> rename_i z
      · rw [if_pos z, i3, Bool.or_true]; rfl
      · rw [if_neg z, i3]; rfl
    · have c := ts_nt c
      rw [c, if_pos (by decide)]
      refine ⟨hp, c, ?_⟩
      rw [(h.e hp c).2.2.2.2.2.2.2.2.2, decide_eq_true rfl]
theorem RR.ldS {σ : GS} {τ : MS} (h : RR σ τ) : ∀ d p, p < d → p < mn τ → gLd σ (d + 1) p = gLd σ d p
  | 0, _, h, _ => by omega
  | d + 1, p, hd, hp => by
    show (if gEx (ge σ) p = true then p else gLd σ (d + 1) (gTo σ p (gPl σ p))) = if gEx (ge σ) p = true then p else gLd σ d (gTo σ p (gPl σ p))
    by_cases c : mf τ p = true
    · have t := h.to c (gPl σ p)
      rw [h.ex hp, c, if_neg (by decide), if_neg (by decide), t.1, h.ldS d _ (by omega) (by omega)]
    · rw [h.ex hp, ts_nt c, if_pos (by decide), if_pos (by decide)]
theorem RR.ldF {σ : GS} {τ : MS} (h : RR σ τ) {p : Nat} (hp : p < mn τ) (c : mf τ p = true) : gLd σ 40 p = gLd σ 40 (mTo τ p (gPl σ p)) := by
  have n4 := h.1.1
  have t := h.to c (gPl σ p)
  rw [h.ldS 39 (mTo τ p (gPl σ p)) (by omega) (by omega)]
  show gLd σ (39 + 1) p = _
  rw [gLd, h.ex hp, c, if_neg (by decide), t.1]
theorem RR.ldX {σ : GS} {τ : MS} (h : RR σ τ) {p : Nat} (hp : p < mn τ) (c : mf τ p = false) : gLd σ 40 p = p := by
  show gLd σ (39 + 1) p = _
  rw [gLd, h.ex hp, c, if_pos (by decide)]
theorem RR.selfb {σ : GS} {τ : MS} (h : RR σ τ) {p : Nat} (hp : p < mn τ) : bitL (mr τ p) p = true := by
  by_cases c : mf τ p = true
  · rw [(h.f c).2.2.2.2.2.2.2.2.2, decide_eq_true rfl, Bool.or_true]
  · rw [(h.e hp (ts_nt c)).2.2.2.2.2.2.2.2.2, decide_eq_true rfl]
theorem RR.abv {σ : GS} {τ : MS} (h : RR σ τ) {p o : Nat} (hp : p < mn τ) (ho : p < o) : bitL (mr τ p) o = false := h.above (p + 1) p (by omega) hp o ho
theorem RR.many {σ : GS} {τ : MS} (h : RR σ τ) {p : Nat} (hp : p < mn τ) : sumI (fun o => b2i (mEx τ p o)) (mn τ) = gEf σ p := by
  rw [← h.ef hp, mEf]
  obtain ⟨k, hk⟩ : ∃ k, mn τ = p + 1 + k := ⟨mn τ - (p + 1), by omega⟩
  rw [hk]
  clear hk
  induction k with
  | zero => rfl
  | succ k ih =>
    show sumI _ (p + 1 + k + 1) = _
    rw [sumI, ih, mEx, h.abv hp (by omega), Bool.false_and]
    exact Int32.add_zero _
/-- the riskiest fork, told by what it is -/
def rkB (σ : GS) (τ : MS) (lo n : Nat) (z : Int32 × Int32) : Prop := ((∀ x, lo ≤ x → x < n → mf τ x = false) ∧ z = (-1, -1)) ∨ ∃ r, lo ≤ r ∧ r < n ∧ mf τ r = true ∧ z = (nI r, gSm σ r) ∧ (∀ x, lo ≤ x → x < n → mf τ x = true → gSm σ x ≤ gSm σ r) ∧ ∀ x, lo ≤ x → x < r → mf τ x = true → gSm σ x < gSm σ r
theorem RR.rkA {σ : GS} {τ : MS} (h : RR σ τ) (q : RQ τ) : ∀ n, n ≤ mn τ → rkB σ τ 0 n (amx nI (fun p => if gEx (ge σ) p then -1 else gSm σ p) (-1, -1) n)
  | 0, _ => Or.inl ⟨fun x _ hx => absurd hx (Nat.not_lt_zero _), rfl⟩
  | n + 1, hn => by
    have ih := h.rkA q n (by omega)
    rw [amx]
    by_cases c : mf τ n = true
    · have w : (if gEx (ge σ) n = true then (-1 : Int32) else gSm σ n) = gSm σ n := by rw [h.ex (by omega), c]; rfl
      rw [w]
      obtain ⟨r1, e1, l1⟩ := h.sm q (p := n) (by omega) c
      rcases ih with ⟨i1, i2⟩ | ⟨r, i1, i2, i3, i4, i5, i6⟩
      · rw [i2, if_pos (by rw [e1]; exact Int32.lt_iff_toInt_lt.mpr (by rw [nI_toInt (by omega)]; show (-1 : Int) < _; omega))]
        refine Or.inr ⟨n, Nat.zero_le _, by omega, c, rfl, fun x _ hx hf => ?_, fun x _ hx hf => ?_⟩
        · by_cases e : x = n
          · rw [e]; exact Int32.le_refl _
          · rw [i1 x (Nat.zero_le _) (by omega)] at hf; cases hf
        · rw [i1 x (Nat.zero_le _) hx] at hf; cases hf
      · rw [i4]
        by_cases g : gSm σ r < gSm σ n
        · rw [if_pos g]
          refine Or.inr ⟨n, Nat.zero_le _, by omega, c, rfl, fun x _ hx hf => ?_, fun x _ hx hf => ?_⟩
          · by_cases e : x = n
            · rw [e]; exact Int32.le_refl _
            · exact Int32.le_trans (i5 x (Nat.zero_le _) (by omega) hf) (Int32.le_of_lt g)
          · exact Int32.lt_of_le_of_lt (i5 x (Nat.zero_le _) hx hf) g
        · rw [if_neg g]
          refine Or.inr ⟨r, i1, by omega, i3, rfl, fun x _ hx hf => ?_, i6⟩
          by_cases e : x = n
          · rw [e]; exact Int32.not_lt.mp g
          · exact i5 x (Nat.zero_le _) (by omega) hf
    · have w : (if gEx (ge σ) n = true then (-1 : Int32) else gSm σ n) = -1 := by rw [h.ex (by omega), ts_nt c]; rfl
      rw [w]
      have gex : ¬ (amx nI (fun p => if gEx (ge σ) p then -1 else gSm σ p) (-1, -1) n).2 < -1 := fun z => Int32.not_le.mpr z (amx_ge _ _ n)
      rw [if_neg gex]
      rcases ih with ⟨i1, i2⟩ | ⟨r, i1, i2, i3, i4, i5, i6⟩
      · refine Or.inl ⟨fun x _ hx => ?_, i2⟩
        by_cases e : x = n
        · rw [e]; exact ts_nt c
        · exact i1 x (Nat.zero_le _) (by omega)
      · refine Or.inr ⟨r, i1, by omega, i3, i4, fun x _ hx hf => ?_, i6⟩
        by_cases e : x = n
        · rw [e] at hf; exact absurd hf c
        · exact i5 x (Nat.zero_le _) (by omega) hf
theorem RR.rkR {σ : GS} {τ : MS} (h : RR σ τ) (q : RQ τ) : rkB σ τ 0 (mn τ) (gRf σ) := by
  have := h.rkA q (mn τ) (Nat.le_refl _)
  rw [gRf, h.n]; exact this
theorem rkB_eq {σ : GS} {τ : MS} {n : Nat} {z y : Int32 × Int32} (h1 : rkB σ τ 0 n z) (h2 : rkB σ τ 0 n y) : z = y := by
  rcases h1 with ⟨i1, i2⟩ | ⟨r, i1, i2, i3, i4, i5, i6⟩ <;> rcases h2 with ⟨j1, j2⟩ | ⟨t, j1, j2, j3, j4, j5, j6⟩
  · rw [i2, j2]
  · rw [i1 t (Nat.zero_le _) j2] at j3; cases j3
  · rw [j1 r (Nat.zero_le _) i2] at i3; cases i3
  · rcases Nat.lt_trichotomy r t with e | e | e
    · exact absurd (j6 r (Nat.zero_le _) e i3) (Int32.not_lt.mpr (i5 t (Nat.zero_le _) j2 j3))
    · rw [i4, j4, e]
    · exact absurd (i6 t (Nat.zero_le _) e j3) (Int32.not_lt.mpr (j5 r (Nat.zero_le _) i2 i3))
/-- one step down -/
theorem rkB_ex {σ : GS} {τ : MS} {d n : Nat} {z : Int32 × Int32} (h : rkB σ τ (d + 1) n z) (c : mf τ d = false) : rkB σ τ d n z := by
  have key : ∀ x, d ≤ x → mf τ x = true → d + 1 ≤ x := fun x hx hf => by
    by_cases e : x = d
    · rw [e, c] at hf; cases hf
    · omega
  rcases h with ⟨i1, i2⟩ | ⟨r, i1, i2, i3, i4, i5, i6⟩
  · refine Or.inl ⟨fun x hx hn => ?_, i2⟩
    by_cases e : x = d
    · rw [e]; exact c
    · exact i1 x (by omega) hn
  · exact Or.inr ⟨r, by omega, i2, i3, i4, fun x hx hn hf => i5 x (key x hx hf) hn hf, fun x hx hr hf => i6 x (key x hx hf) hr hf⟩
theorem RR.rkB_lt {σ : GS} {τ : MS} (h : RR σ τ) (q : RQ τ) {d n : Nat} {x7 : Int32} {x6 : Int32} (hn : n ≤ mn τ) (hd : d < n) (i : rkB σ τ (d + 1) n (x6, x7)) (c : mf τ d = true) (g : gSm σ d < x7) : rkB σ τ d n (x6, x7) := by
  rcases i with ⟨i1, i2⟩ | ⟨r, i1, i2, i3, i4, i5, i6⟩
  · obtain ⟨r1, e1, l1⟩ := h.sm q (p := d) (by omega) c
    cases i2
    rw [e1] at g
    exact absurd (Int32.lt_iff_toInt_lt.mp g) (by rw [nI_toInt (by omega)]; show ¬ (_ < (-1 : Int)); omega)
  · cases i4
    refine Or.inr ⟨r, by omega, i2, i3, rfl, fun x hx hn hf => ?_, fun x hx hr hf => ?_⟩
    · by_cases e : x = d
      · rw [e]; exact Int32.le_of_lt g
      · exact i5 x (by omega) hn hf
    · by_cases e : x = d
      · rw [e]; exact g
      · exact i6 x (by omega) hr hf
theorem RR.rkB_ge {σ : GS} {τ : MS} {d n : Nat} {x7 : Int32} {x6 : Int32} (hd : d < n) (i : rkB σ τ (d + 1) n (x6, x7)) (c : mf τ d = true) (g : x7 ≤ gSm σ d) : rkB σ τ d n (nI d, gSm σ d) := by
  refine Or.inr ⟨d, Nat.le_refl _, hd, c, rfl, fun x hx hn hf => ?_, fun x hx hr hf => absurd hr (by omega)⟩
  by_cases e : x = d
  · rw [e]; exact Int32.le_refl _
  · rcases i with ⟨i1, i2⟩ | ⟨r, i1, i2, i3, i4, i5, i6⟩
    · rw [i1 x (by omega) hn] at hf; cases hf
    · cases i4
      exact Int32.le_trans (i5 x (by omega) hn hf) g
/-- the greatest of a set: no less than any, and one of them or nothing -/
theorem mBf_up {h : Nat → Bool} {v : Nat → Int32} : ∀ n o, o < n → h o = true → v o ≤ mBf h v n
  | 0, _, h, _ => by omega
  | n + 1, o, ho, hh => by
    rw [mBf]
    by_cases e : o = n
    · subst e
      rw [if_pos hh]
      exact Int32.le_iff_toInt_le.mpr (by rw [imx_I]; omega)
    · have ih := mBf_up (v := v) n o (by omega) hh
      split
      · exact Int32.le_trans ih (Int32.le_iff_toInt_le.mpr (by rw [imx_I]; omega))
      · exact ih
theorem mBf_at {h : Nat → Bool} {v : Nat → Int32} : ∀ n, mBf h v n = 0 ∨ ∃ o, o < n ∧ h o = true ∧ v o = mBf h v n
  | 0 => Or.inl rfl
  | n + 1 => by
    rw [mBf]
    by_cases c : h n = true
    · rw [if_pos c]
      unfold imx
      split
      · exact Or.inr ⟨n, by omega, c, rfl⟩
      · rcases mBf_at (h := h) (v := v) n with e | ⟨o, o1, o2, o3⟩
        · exact Or.inl e
        · exact Or.inr ⟨o, by omega, o2, o3⟩
    · rw [if_neg c]
      rcases mBf_at (h := h) (v := v) n with e | ⟨o, o1, o2, o3⟩
      · exact Or.inl e
      · exact Or.inr ⟨o, by omega, o2, o3⟩
theorem RR.hsU {σ : GS} {τ : MS} (h : RR σ τ) {p o : Nat} (hf : mf τ p = true) (ho : o < p) (b : bitL (mr τ p) o = true) (c : mf τ o = false) : md τ o ≤ ghs σ p := by
  rw [← h.bh hf, mBh]; exact mBf_up p o ho (by rw [mEx, b, c]; rfl)
def anyB (f : Nat → Bool) (z : Bool) : Nat → Bool
  | 0 => z
  | n + 1 => anyB f z n || f n
theorem anyB_z {f : Nat → Bool} : ∀ n, anyB f true n = true
  | 0 => rfl
  | n + 1 => by rw [anyB, anyB_z n]; rfl
theorem anyB_o {f : Nat → Bool} {z : Bool} : ∀ n o, o < n → f o = true → anyB f z n = true
  | 0, _, h, _ => by omega
  | n + 1, o, ho, hf => by
    rw [anyB]
    by_cases e : o = n
    · subst e; rw [hf, Bool.or_true]
    · rw [anyB_o n o (by omega) hf]; rfl
theorem RR.hsA {σ : GS} {τ : MS} (h : RR σ τ) {p : Nat} (hf : mf τ p = true) : anyB (fun o => mEx τ p o && decide (md τ o = ghs σ p)) (decide (ghs σ p = 0)) p = true := by
  have e := h.bh hf
  rw [mBh] at e
  rcases mBf_at (h := mEx τ p) (v := md τ) p with z | ⟨o, o1, o2, o3⟩
  · rw [show decide (ghs σ p = 0) = true from decide_eq_true (by rw [← e, z])]; exact anyB_z p
  · exact anyB_o p o o1 (by rw [o2, decide_eq_true (by rw [← e, o3])]; rfl)
theorem b2i_or (x y : Bool) : b2i x ||| b2i y = b2i (x || y) := by cases x <;> cases y <;> decide
/-- regrets as numbers; the worst fork -/
theorem RR.regN {σ : GS} {τ : MS} (h : RR σ τ) (q : RQ τ) {t : Nat} (ht : t < mk τ) (hg : mGd τ (ms τ t) = true) {j : Nat} (hj : j < mp τ t) : ∃ r, gReg σ t j = nI r ∧ r ≤ 180 := by
  have hE : mf τ (ms τ t) = false := by cases c : mf τ (ms τ t) <;> rw [mGd, c] at hg <;> first | rfl | cases hg
  obtain ⟨q1, q2⟩ := h.2.2.2.2.2.1.2.2.2.2.2.1 t j hj
  have hF := h.lt q1
  obtain ⟨w, w1, w2, w3⟩ := (q _ hF).2 q1
  obtain ⟨g, g1, g2⟩ := (h.grd0 (h.mok.2.2.2.2.2.2.2.2 t ht) hE).1 hg
  obtain ⟨_, v, w9, _, _, b3, _, b5, b6⟩ := h.num1 q hF
  refine ⟨(w9 - g) * w, ?_, Nat.mul_le_mul (show w9 - g ≤ 20 by omega) w2⟩
  rw [h.rg ht hj hE, b3, g2, imx_sub (by omega) (by omega), w3, pk_mul]
theorem RR.regS {σ : GS} {τ : MS} (h : RR σ τ) (q : RQ τ) {t : Nat} (ht : t < mk τ) (hg : mGd τ (ms τ t) = true) : ∀ n, n ≤ mp τ t → ∃ r, sumI (gReg σ t) n = nI r ∧ r ≤ 180 * n ∧ ∀ j, j < n → ∃ r', gReg σ t j = nI r' ∧ r' ≤ r
  | 0, _ => ⟨0, rfl, Nat.le_refl _, fun j hj => absurd hj (Nat.not_lt_zero _)⟩
  | n + 1, hn => by
    obtain ⟨r, e, l, a⟩ := h.regS q ht hg n (by omega)
    obtain ⟨r', e', l'⟩ := h.regN q ht hg (j := n) (by omega)
    refine ⟨r + r', by rw [sumI, e, e', nI_add], by omega, fun j hj => ?_⟩
    by_cases c : j = n
    · subst c; exact ⟨r', e', by omega⟩
    · obtain ⟨r2, e2, l2⟩ := a j (by omega)
      exact ⟨r2, e2, by omega⟩
theorem RR.wst {σ : GS} {τ : MS} (h : RR σ τ) (q : RQ τ) {t : Nat} (ht : t < mk τ) (hg : mGd τ (ms τ t) = true) : ∀ n, n ≤ mp τ t → (amx (fun j => nI (gpf σ (t * 40 + j))) (gReg σ t) (-1, 0) n = (-1, 0) ∧ sumI (gReg σ t) n = 0) ∨ ∃ j r, j < n ∧ gReg σ t j = nI r ∧ 0 < r ∧ amx (fun j => nI (gpf σ (t * 40 + j))) (gReg σ t) (-1, 0) n = (nI (gpf σ (t * 40 + j)), nI r)
  | 0, _ => Or.inl ⟨rfl, rfl⟩
  | n + 1, hn => by
    obtain ⟨r', e', l'⟩ := h.regN q ht hg (j := n) (by omega)
    rw [amx]
    rcases h.wst q ht hg n (by omega) with ⟨i1, i2⟩ | ⟨j, r, j1, j2, j3, j4⟩
    · rw [i1, e']
      by_cases c : r' = 0
      · subst c
        rw [if_neg (by decide)]
        refine Or.inl ⟨rfl, ?_⟩
        rw [sumI, i2, e']; rfl
      · rw [if_pos (show (0 : Int32) < nI r' from nI_lt (a := 0) (by omega) (by omega))]
        exact Or.inr ⟨n, r', by omega, e', by omega, rfl⟩
    · rw [j4, e']
      by_cases c : (nI r : Int32) < nI r'
      · rw [if_pos c]
        refine Or.inr ⟨n, r', by omega, e', ?_, rfl⟩
        have := Int32.lt_iff_toInt_lt.mp c
        obtain ⟨r2, e2, l2⟩ := h.regN q ht hg (j := j) (by omega)
        have r1 : r ≤ 180 ∨ True := Or.inr trivial
        rcases Nat.eq_zero_or_pos r' with z | z
        · subst z
          exact absurd c (nI_pos (by
            have e3 : nI r = nI r2 := j2.symm.trans e2
            have := congrArg Int32.toInt e3
            by_cases b : r < 2 ^ 31
            · exact b
            · exfalso
              have c1 := Int32.lt_iff_toInt_lt.mp c
              rw [e3, nI_toInt (by omega), show (nI 0).toInt = 0 from rfl] at c1
              omega))
        · exact z
      · rw [if_neg c]
        exact Or.inr ⟨j, r, by omega, j2, j3, rfl⟩
theorem RR.wrs {σ : GS} {τ : MS} (h : RR σ τ) (q : RQ τ) {t : Nat} (ht : t < mk τ) (hg : mGd τ (ms τ t) = true) : ((gWf σ t).1 = -1 ∧ gRegs σ t = 0) ∨ ∃ f w g v R, (gWf σ t).1 = nI f ∧ f < mn τ ∧ mf τ f = true ∧ ghs σ f = nI v ∧ md τ (ms τ t) = nI g ∧ g < v ∧ v ≤ 20 ∧ md τ f = nI w ∧ 1 ≤ w ∧ w ≤ 9 ∧ gRegs σ t = nI R ∧ (v - g) * w ≤ R ∧ R ≤ 7200 ∧ 0 < R ∧ 0 < mp τ t := by
  have hE : mf τ (ms τ t) = false := by cases c : mf τ (ms τ t) <;> rw [mGd, c] at hg <;> first | rfl | cases hg
  have m7 := h.mok.2.2.2.2.2.2.1 t
  rw [gWf, gRegs, h.pc]
  rcases h.wst q ht hg (mp τ t) (Nat.le_refl _) with ⟨i1, i2⟩ | ⟨j, r, j1, j2, j3, j4⟩
  · exact Or.inl ⟨by rw [i1], i2⟩
  · obtain ⟨q1, q2⟩ := h.2.2.2.2.2.1.2.2.2.2.2.1 t j j1
    have hF := h.lt q1
    obtain ⟨w, w1, w2, w3⟩ := (q _ hF).2 q1
    obtain ⟨g, g1, g2⟩ := (h.grd0 (h.mok.2.2.2.2.2.2.2.2 t ht) hE).1 hg
    obtain ⟨_, v, w9, _, _, b3, _, b5, b6⟩ := h.num1 q hF
    obtain ⟨R, e, l, a⟩ := h.regS q ht hg (mp τ t) (Nat.le_refl _)
    obtain ⟨r2, e2, l2⟩ := a j j1
    have e3 : gReg σ t j = nI ((w9 - g) * w) := by rw [h.rg ht j1 hE, b3, g2, imx_sub (by omega) (by omega), w3, pk_mul]
    have l3 : (w9 - g) * w ≤ 20 * 9 := Nat.mul_le_mul (by omega) w2
    have e4 : r2 = (w9 - g) * w := (nI_eq (by omega) (by omega)).mp (e2.symm.trans e3)
    have pos : 0 < (w9 - g) * w := by
      rcases Nat.eq_zero_or_pos ((w9 - g) * w) with z | z
      · exfalso
        rw [z] at e3
        have e5 : nI r = nI 0 := j2.symm.trans e3
        obtain ⟨r5, e6, l6⟩ := h.regN q ht hg (j := j) j1
        have := (h.wst q ht hg (mp τ t) (Nat.le_refl _))
        have c0 : gReg σ t j = 0 := e3
        have amxp : ∀ n, (0 : Int32) ≤ (amx (fun j => nI (gpf σ (t * 40 + j))) (gReg σ t) (-1, 0) n).2 ∧ ((amx (fun j => nI (gpf σ (t * 40 + j))) (gReg σ t) (-1, 0) n).2 = 0 → (amx (fun j => nI (gpf σ (t * 40 + j))) (gReg σ t) (-1, 0) n).1 = -1) := by
          intro n
          induction n with
          | zero => exact ⟨Int32.le_refl (0 : Int32), fun _ => rfl⟩
          | succ n ih =>
            rw [amx]
            split
            · rename_i c
              exact ⟨Int32.le_of_lt (Int32.lt_of_le_of_lt ih.1 c), fun z => absurd c (by show ¬ _ < gReg σ t n; have z : gReg σ t n = 0 := z; rw [z]; exact Int32.not_lt.mpr ih.1)⟩
            · exact ih
        have k := (amxp (mp τ t)).2 (by rw [j4]; exact e5)
        rw [j4] at k
        have k : nI (gpf σ (t * 40 + j)) = -1 := k
        have gl : gpf σ (t * 40 + j) < 40 := by rw [h.pf]; exact h.mok.2.2.2.2.2.1 _
        have := congrArg Int32.toInt k
        rw [nI_toInt (by omega)] at this
        have : ((gpf σ (t * 40 + j) : Nat) : Int) = -1 := this
        omega
      · exact z
    have gv : g < w9 := by
      rcases Nat.lt_or_ge g w9 with z | z
      · exact z
      · rw [show w9 - g = 0 by omega, Nat.zero_mul] at pos; omega
    refine Or.inr ⟨mw τ (40 * t + j), w, g, w9, R, ?_, hF, q1, b3, g2, gv, by omega, w3, w1, w2, e, by omega, by omega, by omega, by omega⟩
    rw [j4, h.pf, show t * 40 + j = 40 * t + j by omega]
/-- a grade told: hopes no greater, sure grades no smaller -/
theorem RR.mono {σ σ' : GS} {τ : MS} {e g : Nat} (h : RR σ τ) (q : RQ τ) (h' : RR σ' (mMd τ e (nI g))) (q' : RQ (mMd τ e (nI g))) (he : e < mn τ) (hE : mf τ e = false) (hu : md τ e = -1) (g1 : mo τ e ≤ g) (g2 : g ≤ mh τ e) : ∀ n o, o < n → o < mn τ → gho σ' o ≤ gho σ o ∧ gsu σ o ≤ gsu σ' o ∧ (bitL (mr τ o) e = false → gho σ' o = gho σ o ∧ gsu σ' o = gsu σ o)
  | 0, _, h, _ => by omega
  | n + 1, o, hn, ho => by
    by_cases c : mf τ o = true
    · obtain ⟨_, _, a3, a4, _, _, a7, a8, _, a10⟩ := h.f c
      obtain ⟨_, _, _, _, _, _, b7, b8, _, _⟩ := h'.f (p := o) c
      obtain ⟨i1, i2, i3⟩ := h.mono q h' q' he hE hu g1 g2 n (mo τ o) (by omega) (by omega)
      obtain ⟨j1, j2, j3⟩ := h.mono q h' q' he hE hu g1 g2 n (mh τ o) (by omega) (by omega)
      have b7 : gsu σ' o = imx (gsu σ' (mo τ o)) (gsu σ' (mh τ o)) := b7
      have b8 : gho σ' o = imx (gho σ' (mo τ o)) (gho σ' (mh τ o)) := b8
      have i1 := Int32.le_iff_toInt_le.mp i1
      have i2 := Int32.le_iff_toInt_le.mp i2
      have j1 := Int32.le_iff_toInt_le.mp j1
      have j2 := Int32.le_iff_toInt_le.mp j2
      refine ⟨Int32.le_iff_toInt_le.mpr (by rw [a8, b8, imx_I, imx_I]; omega), Int32.le_iff_toInt_le.mpr (by rw [a7, b7, imx_I, imx_I]; omega), fun z => ?_⟩
      rw [a10] at z
      have z1 : bitL (mr τ (mo τ o)) e = false := by cases x : bitL (mr τ (mo τ o)) e <;> rw [x] at z <;> first | rfl | (simp at z)
      have z2 : bitL (mr τ (mh τ o)) e = false := by cases x : bitL (mr τ (mh τ o)) e <;> rw [x] at z <;> first | rfl | (simp at z)
      exact ⟨by rw [a8, b8, (i3 z1).1, (j3 z2).1], by rw [a7, b7, (i3 z1).2, (j3 z2).2]⟩
    · have c := ts_nt c
      obtain ⟨_, _, a3, a4, _, _, a7, a8, _, a10⟩ := h.e ho c
      obtain ⟨_, _, _, _, _, _, b7, b8, _, _⟩ := h'.e (p := o) ho c
      by_cases k : o = e
      · subst k
        rw [if_pos hu] at a7 a8
        have m1 : md (mMd τ o (nI g)) o = nI g := pk_us
        have m2 : ¬ md (mMd τ o (nI g)) o = -1 := by
          rw [m1]; intro z
          have := congrArg Int32.toInt z
          rw [nI_toInt (by omega)] at this
          have : ((g : Nat) : Int) = -1 := this
          omega
        rw [if_neg m2, m1] at b7 b8
        refine ⟨by rw [a8, b8]; exact nI_le g2 (by omega), by rw [a7, b7]; exact nI_le g1 (by omega), fun z => ?_⟩
        rw [a10, decide_eq_true rfl] at z; cases z
      · have m1 : md (mMd τ e (nI g)) o = md τ o := pk_un k
        rw [m1] at b7 b8
        have e1 : gsu σ' o = gsu σ o := by rw [a7, b7]; rfl
        have e2 : gho σ' o = gho σ o := by rw [a8, b8]; rfl
        rw [e1, e2]
        exact ⟨Int32.le_refl _, Int32.le_refl _, fun _ => ⟨rfl, rfl⟩⟩
/-- the bounds of a mean -/
theorem mean_b {σ : GS} {τ : MS} (h : RR σ τ) : ∀ n, n ≤ mn τ → ∃ c s, sumI (fun p => b2i (mGd τ p)) n = nI c ∧ sumI (fun p => if mGd τ p then md τ p else 0) n = nI s ∧ c ≤ n ∧ s ≤ 20 * c
  | 0, _ => ⟨0, 0, rfl, rfl, Nat.le_refl _, Nat.zero_le _⟩
  | n + 1, hn => by
    obtain ⟨c, s, e1, e2, h1, h2⟩ := mean_b h n (by omega)
    rw [sumI, sumI, e1, e2]
    by_cases g : mGd τ n = true
    · have ff : mf τ n = false := by rw [mGd] at g; cases q : mf τ n <;> rw [q] at g <;> first | rfl | cases g
      obtain ⟨_, _, _, _, _, a6, _⟩ := h.e (p := n) (by omega) ff
      obtain q | ⟨x, q1, q2⟩ := a6
      · rw [mGd, ff, q] at g; cases g
      · refine ⟨c + 1, s + x, ?_, ?_, by omega, by omega⟩
        · rw [g]; exact nI_1 c
        · rw [if_pos g, q2]; exact nI_add s x
    · have g := ts_nt g
      refine ⟨c, s, ?_, ?_, by omega, h2⟩
      · rw [g]; exact Int32.add_zero _
      · rw [if_neg (by rw [g]; decide)]; exact Int32.add_zero _
theorem RR.mean {σ : GS} {τ : MS} (h : RR σ τ) : ∃ c s, mGn τ = nI c ∧ mSum τ = nI s ∧ c ≤ 40 ∧ s ≤ 20 * c := by
  obtain ⟨c, s, e1, e2, h1, h2⟩ := mean_b h (mn τ) (Nat.le_refl _)
  exact ⟨c, s, e1, e2, Nat.le_trans h1 h.1.1, h2⟩
