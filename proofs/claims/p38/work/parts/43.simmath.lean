/-! the law's own garden, told of the numbers: what is reached step by step, the greatest of what is reached -/
def rc (τ : MS) (pl : Nat) : Nat → (Nat → Bool)
  | 0 => va_up (fun _ => false) pl true
  | j + 1 => if rc τ pl j (pl - j) && mf τ (pl - j) then va_up (va_up (rc τ pl j) (mo τ (pl - j)) true) (mh τ (pl - j)) true else rc τ pl j
/-- reached by a last step -/
theorem RR.last {σ : GS} {τ : MS} (h : RR σ τ) : ∀ n pl, pl < n → pl < mn τ → ∀ o, bitL (mr τ pl) o = true ↔ (o = pl ∨ ∃ f, f ≤ pl ∧ mf τ f = true ∧ bitL (mr τ pl) f = true ∧ (mo τ f = o ∨ mh τ f = o))
  | 0, _, h, _, _ => by omega
  | n + 1, pl, hn, hp, o => by
    by_cases c : mf τ pl = true
    · obtain ⟨_, _, a3, a4, _, _, _, _, _, a10⟩ := h.f c
      have I1 := h.last n (mo τ pl) (by omega) (by omega)
      have I2 := h.last n (mh τ pl) (by omega) (by omega)
      have s1 : bitL (mr τ (mo τ pl)) (mo τ pl) = true := (I1 _).mpr (Or.inl rfl)
      have s2 : bitL (mr τ (mh τ pl)) (mh τ pl) = true := (I2 _).mpr (Or.inl rfl)
      have s0 : bitL (mr τ pl) pl = true := by rw [a10, decide_eq_true rfl, Bool.or_true]
      constructor
      · intro q
        rw [a10] at q
        by_cases e : o = pl
        · exact Or.inl e
        · rw [decide_eq_false e, Bool.or_false] at q
          refine Or.inr ?_
          by_cases q1 : bitL (mr τ (mo τ pl)) o = true
          · rcases (I1 o).mp q1 with rfl | ⟨f, f1, f2, f3, f4⟩
            · exact ⟨pl, Nat.le_refl _, c, s0, Or.inl rfl⟩
            · exact ⟨f, by omega, f2, by rw [a10, f3]; rfl, f4⟩
          · rw [ts_nt q1, Bool.false_or] at q
            rcases (I2 o).mp q with rfl | ⟨f, f1, f2, f3, f4⟩
            · exact ⟨pl, Nat.le_refl _, c, s0, Or.inr rfl⟩
            · exact ⟨f, by omega, f2, by rw [a10, f3, Bool.or_true]; rfl, f4⟩
      · rintro (rfl | ⟨f, f1, f2, f3, f4⟩)
        · exact s0
        · by_cases e : f = pl
          · subst e
            rw [a10]
            rcases f4 with rfl | rfl
            · rw [s1]; rfl
            · rw [s2, Bool.or_true]; rfl
          · rw [a10, decide_eq_false e, Bool.or_false] at f3
            rw [a10]
            by_cases q1 : bitL (mr τ (mo τ pl)) f = true
            · have f5 : f ≤ mo τ pl := Nat.not_lt.mp (fun z => by rw [h.above (mo τ pl + 1) _ (by omega) (by omega) f z] at q1; cases q1)
              rw [(I1 o).mpr (Or.inr ⟨f, f5, f2, q1, f4⟩)]; rfl
            · rw [ts_nt q1, Bool.false_or] at f3
              have f5 : f ≤ mh τ pl := Nat.not_lt.mp (fun z => by rw [h.above (mh τ pl + 1) _ (by omega) (by omega) f z] at f3; cases f3)
              rw [(I2 o).mpr (Or.inr ⟨f, f5, f2, f3, f4⟩), Bool.or_true]; rfl
    · have c := ts_nt c
      obtain ⟨_, _, _, _, _, _, _, _, _, a10⟩ := h.e hp c
      constructor
      · intro q
        rw [a10] at q
        exact Or.inl (of_decide_eq_true q)
      · rintro (rfl | ⟨f, f1, f2, f3, f4⟩)
        · rw [a10, decide_eq_true rfl]
        · rw [a10] at f3
          have e := of_decide_eq_true f3
          rw [e, c] at f2; cases f2
theorem up_tt {f : Nat → Bool} {k o : Nat} : va_up f k true o = true ↔ (f o = true ∨ o = k) := by
  unfold va_up
  by_cases e : o = k
  · rw [if_pos e]; exact ⟨fun _ => Or.inr e, fun _ => rfl⟩
  · rw [if_neg e]; exact ⟨Or.inl, fun z => z.elim id (fun q => absurd q e)⟩
theorem RR.rcI {σ : GS} {τ : MS} (h : RR σ τ) {pl : Nat} (hp : pl < mn τ) : ∀ j, j ≤ pl + 1 → ∀ o, rc τ pl j o = true ↔ (o = pl ∨ ∃ f, pl < f + j ∧ f ≤ pl ∧ mf τ f = true ∧ bitL (mr τ pl) f = true ∧ (mo τ f = o ∨ mh τ f = o))
  | 0, _, o => by
    rw [rc, up_tt]
    constructor
    · rintro (q | q)
      · cases q
      · exact Or.inl q
    · rintro (q | ⟨f, f1, f2, _⟩)
      · exact Or.inr q
      · omega
  | j + 1, hj, o => by
    have ih := h.rcI hp j (by omega)
    have L := h.last (pl + 1) pl (by omega) hp
    have key : rc τ pl j (pl - j) = true ↔ bitL (mr τ pl) (pl - j) = true := by
      rw [ih, L]
      constructor
      · rintro (q | ⟨f, _, f2, f3, f4, f5⟩)
        · exact Or.inl q
        · exact Or.inr ⟨f, f2, f3, f4, f5⟩
      · rintro (q | ⟨f, f2, f3, f4, f5⟩)
        · exact Or.inl q
        · obtain ⟨_, _, a3, a4, _⟩ := h.f f3
          exact Or.inr ⟨f, by rcases f5 with e | e <;> omega, f2, f3, f4, f5⟩
    rw [rc]
    by_cases g : (rc τ pl j (pl - j) && mf τ (pl - j)) = true
    · rw [if_pos g, up_tt, up_tt, ih]
      obtain ⟨g1, g2⟩ := Bool.and_eq_true_iff.mp g
      have g1 := key.mp g1
      constructor
      · rintro ((q | q) | q)
        · rcases q with q | ⟨f, f1, f2⟩
          · exact Or.inl q
          · exact Or.inr ⟨f, by omega, f2⟩
        · exact Or.inr ⟨pl - j, by omega, by omega, g2, g1, Or.inl q.symm⟩
        · exact Or.inr ⟨pl - j, by omega, by omega, g2, g1, Or.inr q.symm⟩
      · rintro (q | ⟨f, f1, f2, f3, f4, f5⟩)
        · exact Or.inl (Or.inl (Or.inl q))
        · by_cases e : f = pl - j
          · subst e
            rcases f5 with f5 | f5
            · exact Or.inl (Or.inr f5.symm)
            · exact Or.inr f5.symm
          · exact Or.inl (Or.inl (Or.inr ⟨f, by omega, f2, f3, f4, f5⟩))
    · rw [if_neg g, ih]
      constructor
      · rintro (q | ⟨f, f1, f2⟩)
        · exact Or.inl q
        · exact Or.inr ⟨f, by omega, f2⟩
      · rintro (q | ⟨f, f1, f2, f3, f4, f5⟩)
        · exact Or.inl q
        · by_cases e : f = pl - j
          · subst e
            exact absurd (Bool.and_eq_true_iff.mpr ⟨key.mpr f4, f3⟩) g
          · exact Or.inr ⟨f, by omega, f2, f3, f4, f5⟩
theorem RR.rcA {σ : GS} {τ : MS} (h : RR σ τ) {pl : Nat} (hp : pl < mn τ) (o : Nat) : rc τ pl (pl + 1) o = bitL (mr τ pl) o := by
  have a := h.rcI hp (pl + 1) (Nat.le_refl _) o
  have b := h.last (pl + 1) pl (by omega) hp o
  have e : rc τ pl (pl + 1) o = true ↔ bitL (mr τ pl) o = true := by
    rw [a, b]
    constructor
    · rintro (q | ⟨f, _, f2⟩)
      · exact Or.inl q
      · exact Or.inr ⟨f, f2⟩
    · rintro (q | ⟨f, f2⟩)
      · exact Or.inl q
      · exact Or.inr ⟨f, by omega, f2⟩
  exact Bool.eq_iff_iff.mpr e
def bst (h : Nat → Bool) (v : Nat → Int32) : Nat → Int32
  | 0 => -1
  | n + 1 => if h n then imx (bst h v n) (v n) else bst h v n
theorem bst_ge (h : Nat → Bool) (v : Nat → Int32) : ∀ n, -1 ≤ (bst h v n).toInt
  | 0 => by show -1 ≤ (-1 : Int32).toInt; decide
  | n + 1 => by
    rw [bst]
    by_cases q : h n = true
    · rw [if_pos q, imx_I]; have := bst_ge h v n; omega
    · rw [if_neg q]; exact bst_ge h v n
theorem bst_or {h h1 h2 : Nat → Bool} (v : Nat → Int32) : ∀ n, (∀ o, o < n → h o = (h1 o || h2 o)) → bst h v n = imx (bst h1 v n) (bst h2 v n)
  | 0, _ => rfl
  | n + 1, q => by
    have ih := bst_or v n (fun o ho => q o (by omega))
    have I := congrArg Int32.toInt ih
    rw [imx_I] at I
    refine i_ext ?_
    rw [imx_I, bst, bst, bst, q n (by omega)]
    cases h1 n <;> cases h2 n <;> (simp only [Bool.or_false, Bool.or_true, if_true, if_false, Bool.false_eq_true, imx_I]; omega)
theorem bst_one {h : Nat → Bool} (v : Nat → Int32) (p : Nat) (hv : 0 ≤ (v p).toInt) : ∀ n, (∀ o, o < n → h o = decide (o = p)) → bst h v n = if p < n then v p else -1
  | 0, _ => rfl
  | n + 1, q => by
    rw [bst, bst_one v p hv n (fun o ho => q o (by omega)), q n (by omega)]
    by_cases c : n = p
    · subst c
      rw [decide_eq_true rfl, if_pos rfl, if_neg (by omega), if_pos (by omega)]
      refine i_ext ?_
      rw [imx_I, show (-1 : Int32).toInt = -1 from rfl]; omega
    · rw [decide_eq_false c, if_neg (by decide)]
      by_cases e : p < n
      · rw [if_pos e, if_pos (by omega)]
      · rw [if_neg e, if_neg (by omega)]
theorem RR.bstA {σ : GS} {τ : MS} (h : RR σ τ) {U : Nat → Int32} (hU : ∀ p, p < mn τ → (mf τ p = true → U p = imx (U (mo τ p)) (U (mh τ p))) ∧ (mf τ p = false → 0 ≤ (U p).toInt)) : ∀ n p, p < n → p < mn τ → ∀ N, p < N → bst (mEx τ p) U N = U p
  | 0, _, h, _, _, _ => by omega
  | n + 1, p, hn, hp, N, hN => by
    by_cases c : mf τ p = true
    · obtain ⟨_, _, a3, a4, _, _, _, _, _, a10⟩ := h.f c
      rw [(hU p hp).1 c, ← h.bstA hU n (mo τ p) (by omega) (by omega) N (by omega), ← h.bstA hU n (mh τ p) (by omega) (by omega) N (by omega)]
      refine bst_or _ N (fun o _ => ?_)
      rw [mEx, mEx, mEx, a10]
      by_cases e : o = p
      · subst e; rw [c]; simp
      · rw [decide_eq_false e]; cases mf τ o <;> simp
    · have c := ts_nt c
      obtain ⟨_, _, _, _, _, _, _, _, _, a10⟩ := h.e hp c
      have one : ∀ o, o < N → mEx τ p o = decide (o = p) := by
        intro o _
        rw [mEx, a10]
        by_cases e : o = p
        · subst e; rw [c]; simp
        · rw [decide_eq_false e]; rfl
      rw [bst_one _ p ((hU p hp).2 c) N one, if_pos hN]
theorem RR.su {σ : GS} {τ : MS} (h : RR σ τ) {p : Nat} (hp : p < mn τ) (c : mf τ p = false) : (mGd τ p = true → gsu σ p = md τ p ∧ gho σ p = md τ p ∧ ghs σ p = md τ p) ∧ (mGd τ p = false → gsu σ p = nI (mo τ p) ∧ gho σ p = nI (mh τ p) ∧ ghs σ p = 0 ∧ md τ p = -1) := by
  obtain ⟨_, _, _, _, _, _, a7, a8, a9, _⟩ := h.e hp c
  rw [mGd, c]
  by_cases e : md τ p = -1
  · rw [decide_eq_true e]
    rw [if_pos e] at a7 a8 a9
    exact ⟨fun z => (by cases z), fun _ => ⟨a7, a8, a9, e⟩⟩
  · rw [decide_eq_false e]
    rw [if_neg e] at a7 a8 a9
    exact ⟨fun _ => ⟨a7, a8, a9⟩, fun z => by cases z⟩
theorem RR.grd0 {σ : GS} {τ : MS} (h : RR σ τ) {p : Nat} (hp : p < mn τ) (c : mf τ p = false) : (mGd τ p = true → ∃ g, g ≤ 20 ∧ md τ p = nI g) ∧ (mGd τ p = false → md τ p = -1) := by
  refine ⟨fun q => ?_, fun q => ((h.su hp c).2 q).2.2.2⟩
  obtain ⟨_, _, _, _, _, a6, _⟩ := h.e hp c
  rcases a6 with e | e
  · rw [mGd, c, decide_eq_true e] at q; cases q
  · exact e
theorem RR.ge0 {σ : GS} {τ : MS} (h : RR σ τ) {p : Nat} (hp : p < mn τ) (c : mf τ p = false) : mGd τ p = !decide (md τ p < 0) := by
  cases q : mGd τ p
  · rw [(h.grd0 hp c).2 q]; rfl
  · obtain ⟨g, g1, g2⟩ := (h.grd0 hp c).1 q
    rw [g2, decide_eq_false (nI_pos (by omega))]; rfl
theorem RR.bsu {σ : GS} {τ : MS} (h : RR σ τ) {p : Nat} (hp : p < mn τ) : bst (mEx τ p) (gsu σ) (p + 1) = gsu σ p := by
  refine h.bstA (fun q hq => ⟨fun c => (h.f c).2.2.2.2.2.2.1, fun c => ?_⟩) (p + 1) p (by omega) hp (p + 1) (by omega)
  obtain ⟨_, _, a3, a4, _, a6, a7, a8, a9, _⟩ := h.e hq c
  rw [a7]
  by_cases e : md τ q = -1
  · rw [if_pos e, nI_toInt (by omega)]; omega
  · rw [if_neg e]
    rcases a6 with e' | ⟨g, g1, g2⟩
    · exact absurd e' e
    · rw [g2, nI_toInt (by omega)]; omega
theorem RR.bho {σ : GS} {τ : MS} (h : RR σ τ) {p : Nat} (hp : p < mn τ) : bst (mEx τ p) (gho σ) (p + 1) = gho σ p := by
  refine h.bstA (fun q hq => ⟨fun c => (h.f c).2.2.2.2.2.2.2.1, fun c => ?_⟩) (p + 1) p (by omega) hp (p + 1) (by omega)
  obtain ⟨_, _, a3, a4, _, a6, a7, a8, a9, _⟩ := h.e hq c
  rw [a8]
  by_cases e : md τ q = -1
  · rw [if_pos e, nI_toInt (by omega)]; omega
  · rw [if_neg e]
    rcases a6 with e' | ⟨g, g1, g2⟩
    · exact absurd e' e
    · rw [g2, nI_toInt (by omega)]; omega
