
theorem ixP {n : Nat} (hn : n ≤ 40) (x : Int32) : ((x < 0 ∨ nI n ≤ x) ∧ iIn x 0 (nI n - 1) = false) ∨ ∃ k, k < n ∧ x = nI k ∧ iIn (nI k) 0 (nI n - 1) = true := by
  have e1 : (nI n - nI 1).toInt = (n : Int) - 1 := by have := pk_sub_toInt (a := n) (b := 1) (by omega) (by decide); rw [this]; rfl
  have e1 : (nI n - 1).toInt = (n : Int) - 1 := e1
  rcases pk_ix x (n := n) (by omega) with h | h | ⟨k, hk, rfl⟩
  · exact Or.inl ⟨Or.inl h, by rw [iIn, decide_eq_true h]; rfl⟩
  · refine Or.inl ⟨Or.inr h, ?_⟩
    have h2 : nI n - 1 < x := Int32.lt_iff_toInt_lt.mpr (by have := Int32.le_iff_toInt_le.mp h; rw [nI_toInt (by omega)] at this; rw [e1]; omega)
    rw [iIn, decide_eq_true h2, Bool.or_true]; rfl
  · refine Or.inr ⟨k, hk, rfl, ?_⟩
    have h2 : ¬ nI n - 1 < nI k := fun q => by have := Int32.lt_iff_toInt_lt.mp q; rw [nI_toInt (by omega), e1] at this; omega
    rw [iIn, decide_eq_false (nI_pos (by omega)), decide_eq_false h2]; rfl
theorem plc {σ : GS} {τ : MS} (h : RR σ τ) (x : Int32) : (gPb σ x ∧ mIsP τ x = false) ∨ ∃ k, k < mn τ ∧ x = nI k ∧ mIsP τ (nI k) = true := by
  rcases ixP h.1.1 x with ⟨a, b⟩ | ⟨k, a, b, c⟩
  · exact Or.inl ⟨by rw [gPb, h.n]; exact a, b⟩
  · exact Or.inr ⟨k, a, b, c⟩
theorem stc {σ : GS} {τ : MS} (h : RR σ τ) (x : Int32) : (gSb σ x ∧ mIsS τ x = false) ∨ ∃ k, k < mk τ ∧ x = nI k ∧ mIsS τ (nI k) = true := by
  rcases ixP (n := mk τ) (by have := h.1.2.1; omega) x with ⟨a, b⟩ | ⟨k, a, b, c⟩
  · exact Or.inl ⟨by rw [gSb, h.k]; exact a, b⟩
  · exact Or.inr ⟨k, a, b, c⟩
theorem rgc (v lo hi : Int32) : ((v < lo ∨ hi < v) ∧ iIn v lo hi = false) ∨ (¬ v < lo ∧ v ≤ hi ∧ iIn v lo hi = true) := by
  by_cases a : v < lo
  · exact Or.inl ⟨Or.inl a, by rw [iIn, decide_eq_true a]; rfl⟩
  · by_cases b : hi < v
    · exact Or.inl ⟨Or.inr b, by rw [iIn, decide_eq_true b, Bool.or_true]; rfl⟩
    · exact Or.inr ⟨a, Int32.not_lt.mp b, by rw [iIn, decide_eq_false a, decide_eq_false b]; rfl⟩
theorem mFo_mt (s : Nat) : ∀ (f : Nat) (τ : MS), mt (mFo s f τ) = mt τ
  | 0, _ => rfl
  | f + 1, τ => by
    rw [mFo]
    by_cases c : mf τ (ms τ s) = true
    · rw [if_pos c, mFo_mt s f]; rfl
    · rw [if_neg c]
/-- one call on both: yL the law's method about the class, yM the reference's -/
def OP (l : Launch) (E : GE) (a b : Nat → Nat) (σ : GS) (τ : MS) (q9 : Nat) (f : Nat → Int64) (yL yM : MethodName) (wL wM : List Cond) (rmM : Room) (As : List Value) (post : Int32 → Int64 → Prop) : Prop :=
  ∃ (k v : Int32) (σ' : GS) (τ' : MS) (f' : Nat → Int64),
    (∀ sz, Met l yL wL { frames := 10, cells := 1, slots := 6, locals := 300 } (va_Pc (.ref (a 0) :: (As ++ [.ref q9])) (gBy E sz (gO E a σ q9 f))) (gQi E k (gO E a σ q9 f) (gO E a σ' q9 f') sz) 1 6 (va_A (gO E a σ q9 f) sz)) ∧
    (∀ sz, Met l yM wM rmM (va_Pc (.ref (b 0) :: As) (gBw E sz (mW E b τ))) (gQi E v (mW E b τ) (mW E b τ') sz) 0 0 (va_A (mW E b τ) sz)) ∧
    mt τ' = k ∧ (k = 0 → post v (f' 0)) ∧ RR σ' τ'
def pI (v : Int32) (o : Int64) : Prop := o = v.toInt64
def pB (v : Int32) (o : Int64) : Prop := ∃ x : Bool, v = b2i x ∧ o = bl x
theorem up0 {f : Nat → Int64} {v : Int64} : vp_updL f 0 v 0 = v := pk_uLs
set_option maxHeartbeats 4000000 in
theorem op_isExam (l : Launch) (hfl : l.stackTraces = false) (E : GE) (a b : Nat → Nat) (σ : GS) (τ : MS) (h : RR σ τ) (q9 : Nat) (f : Nat → Int64) (x : Int32) : OP l E a b σ τ q9 f yL_isExam yX1_isExam wsL_isExam wsX1_isExam { frames := 2, cells := 0, slots := 0, locals := 43 } [.int x] pB := by
  have hn0 : gn σ ≤ 40 := by rw [h.n]; exact h.1.1
  have hk0 : gk σ ≤ 8 := by rw [h.k]; exact h.1.2.1
  have gO9 := h.gok
  have mO9 := h.mok
  have tt := (h.thr 0).tt
  obtain ⟨hb1, hb2⟩ | ⟨k, hk, rfl, hp⟩ := plc h x
  · exact ⟨1, 0, σ, mThr τ 1, f, fun sz => w_isExam_1 l hfl E a σ q9 f sz x hb1, fun sz => m_isExam_b l E b τ sz x hb2, rfl, fun q => absurd q (by decide), h⟩
  · have gk9 : k < gn σ := by rw [h.n]; exact hk
    exact ⟨0, b2i (!mf τ k), σ, mThr τ 0, vp_updL f 0 (bl (gEx (ge σ) k)), fun sz => w_isExam l E a σ q9 f sz k hn0 gk9, fun sz => m_isExam l E b τ sz h.1.1 k hk hp, rfl, fun _ => ⟨_, rfl, up0.trans (by rw [h.ex hk])⟩, h⟩
set_option maxHeartbeats 4000000 in
theorem op_sureGrade (l : Launch) (hfl : l.stackTraces = false) (E : GE) (a b : Nat → Nat) (σ : GS) (τ : MS) (h : RR σ τ) (q9 : Nat) (f : Nat → Int64) (x : Int32) : OP l E a b σ τ q9 f yL_sureGrade yX1_sureGrade wsL_sureGrade wsX1_sureGrade { frames := 3, cells := 0, slots := 0, locals := 65 } [.int x] pI := by
  have hn0 : gn σ ≤ 40 := by rw [h.n]; exact h.1.1
  have hk0 : gk σ ≤ 8 := by rw [h.k]; exact h.1.2.1
  have gO9 := h.gok
  have mO9 := h.mok
  have tt := (h.thr 0).tt
  obtain ⟨hb1, hb2⟩ | ⟨k, hk, rfl, hp⟩ := plc h x
  · exact ⟨1, 0, σ, mThr (mTab (mThr τ 0)) 1, f, fun sz => w_sureGrade_1 l hfl E a σ q9 f sz x hb1, fun sz => m_sureGrade_b l E b τ sz mO9 x hb2, rfl, fun q => absurd q (by decide), h⟩
  · have gk9 : k < gn σ := by rw [h.n]; exact hk
    exact ⟨0, mu (mTab (mThr τ 0)) k, σ, mTab (mThr τ 0), vp_updL f 0 ((gsu σ k).toInt64), fun sz => w_sureGrade l E a σ q9 f sz k hn0 gk9, fun sz => m_sureGrade l E b τ sz mO9 h.1.1 k hk hp, rfl, fun _ => up0.trans (by rw [← (tt k hk).1]), h⟩
set_option maxHeartbeats 4000000 in
theorem op_hope (l : Launch) (hfl : l.stackTraces = false) (E : GE) (a b : Nat → Nat) (σ : GS) (τ : MS) (h : RR σ τ) (q9 : Nat) (f : Nat → Int64) (x : Int32) : OP l E a b σ τ q9 f yL_hope yX1_hope wsL_hope wsX1_hope { frames := 3, cells := 0, slots := 0, locals := 65 } [.int x] pI := by
  have hn0 : gn σ ≤ 40 := by rw [h.n]; exact h.1.1
  have hk0 : gk σ ≤ 8 := by rw [h.k]; exact h.1.2.1
  have gO9 := h.gok
  have mO9 := h.mok
  have tt := (h.thr 0).tt
  obtain ⟨hb1, hb2⟩ | ⟨k, hk, rfl, hp⟩ := plc h x
  · exact ⟨1, 0, σ, mThr (mTab (mThr τ 0)) 1, f, fun sz => w_hope_1 l hfl E a σ q9 f sz x hb1, fun sz => m_hope_b l E b τ sz mO9 x hb2, rfl, fun q => absurd q (by decide), h⟩
  · have gk9 : k < gn σ := by rw [h.n]; exact hk
    exact ⟨0, mv (mTab (mThr τ 0)) k, σ, mTab (mThr τ 0), vp_updL f 0 ((gho σ k).toInt64), fun sz => w_hope l E a σ q9 f sz k hn0 gk9, fun sz => m_hope l E b τ sz mO9 h.1.1 k hk hp, rfl, fun _ => up0.trans (by rw [← (tt k hk).2]), h⟩
set_option maxHeartbeats 4000000 in
theorem op_examsFrom (l : Launch) (hfl : l.stackTraces = false) (E : GE) (a b : Nat → Nat) (σ : GS) (τ : MS) (h : RR σ τ) (q9 : Nat) (f : Nat → Int64) (x : Int32) : OP l E a b σ τ q9 f yL_examsFrom yX1_examsFrom wsL_examsFrom wsX1_examsFrom { frames := 2, cells := 0, slots := 0, locals := 45 } [.int x] pI := by
  have hn0 : gn σ ≤ 40 := by rw [h.n]; exact h.1.1
  have hk0 : gk σ ≤ 8 := by rw [h.k]; exact h.1.2.1
  have gO9 := h.gok
  have mO9 := h.mok
  have tt := (h.thr 0).tt
  obtain ⟨hb1, hb2⟩ | ⟨k, hk, rfl, hp⟩ := plc h x
  · exact ⟨1, 0, σ, mThr τ 1, f, fun sz => w_examsFrom_1 l hfl E a σ q9 f sz x hb1, fun sz => m_examsFrom_b l E b τ sz x hb2, rfl, fun q => absurd q (by decide), h⟩
  · have gk9 : k < gn σ := by rw [h.n]; exact hk
    exact ⟨0, mEf τ k, σ, mThr τ 0, vp_updL f 0 ((gEf σ k).toInt64), fun sz => w_examsFrom l E a σ q9 f sz k hn0 gk9, fun sz => m_examsFrom l E b τ sz mO9 h.1.1 k hk hp, rfl, fun _ => up0.trans (by rw [← h.ef hk]), h⟩
set_option maxHeartbeats 4000000 in
theorem op_planLeadsTo (l : Launch) (hfl : l.stackTraces = false) (E : GE) (a b : Nat → Nat) (σ : GS) (τ : MS) (h : RR σ τ) (q9 : Nat) (f : Nat → Int64) (x : Int32) : OP l E a b σ τ q9 f yL_planLeadsTo yX1_planLeadsTo wsL_planLeadsTo wsX1_planLeadsTo { frames := 5, cells := 0, slots := 0, locals := 109 } [.int x] pI := by
  have hn0 : gn σ ≤ 40 := by rw [h.n]; exact h.1.1
  have hk0 : gk σ ≤ 8 := by rw [h.k]; exact h.1.2.1
  have gO9 := h.gok
  have mO9 := h.mok
  have tt := (h.thr 0).tt
  obtain ⟨hb1, hb2⟩ | ⟨k, hk, rfl, hp⟩ := plc h x
  · exact ⟨1, 0, σ, mThr (mTab (mThr τ 0)) 1, f, fun sz => w_planLeadsTo_1 l hfl E a σ q9 f sz x hb1, fun sz => m_planLeadsTo_b l E b τ sz mO9 x hb2, rfl, fun q => absurd q (by decide), h⟩
  · have gk9 : k < gn σ := by rw [h.n]; exact hk
    exact ⟨0, nI (mLd (mTab (mThr τ 0)) 40 k), σ, mTab (mThr τ 0), vp_updL f 0 ((nI (gLd σ 40 k)).toInt64), fun sz => w_planLeadsTo l E a σ q9 f sz gO9 k gk9, fun sz => m_planLeadsTo l E b τ sz mO9 h.1.1 k hk hp, rfl, fun _ => up0.trans (by rw [← (h.thr 0).tab.ld tt 40 k hk]), h⟩
set_option maxHeartbeats 4000000 in
theorem op_isGraded (l : Launch) (hfl : l.stackTraces = false) (E : GE) (a b : Nat → Nat) (σ : GS) (τ : MS) (h : RR σ τ) (q9 : Nat) (f : Nat → Int64) (x : Int32) : OP l E a b σ τ q9 f yL_isGraded yX1_isGraded wsL_isGraded wsX1_isGraded { frames := 3, cells := 0, slots := 0, locals := 64 } [.int x] pB := by
  have hn0 : gn σ ≤ 40 := by rw [h.n]; exact h.1.1
  have hk0 : gk σ ≤ 8 := by rw [h.k]; exact h.1.2.1
  have gO9 := h.gok
  have mO9 := h.mok
  have tt := (h.thr 0).tt
  obtain ⟨hb1, hb2⟩ | ⟨k, hk, rfl, hp⟩ := plc h x
  · exact ⟨1, 0, σ, mThr τ 1, f, fun sz => w_isGraded_1 l hfl E a σ q9 f sz hn0 x (Or.inl hb1), fun sz => m_isGraded_b l E b τ sz x hb2, rfl, fun q => absurd q (by decide), h⟩
  · have gk9 : k < gn σ := by rw [h.n]; exact hk
    cases hf : mf τ k
    · have hE : gEx (ge σ) k = true := by rw [h.ex hk, hf]; rfl
      exact ⟨0, b2i (!decide (md τ k = -1)), σ, mThr τ 0, vp_updL f 0 (bl (gHas σ k)), fun sz => w_isGraded l E a σ q9 f sz k hn0 gk9 hE, fun sz => m_isGraded l E b τ sz h.1.1 k hk hp hf, rfl, fun _ => ⟨_, rfl, up0.trans (by rw [gHas, (h.e hk hf).2.2.2.2.1])⟩, h⟩
    · have hE : gEx (ge σ) k = false := by rw [h.ex hk, hf]; rfl
      exact ⟨1, 0, σ, mThr τ 1, f, fun sz => w_isGraded_1 l hfl E a σ q9 f sz hn0 (nI k) (Or.inr ⟨k, gk9, rfl, hE⟩), fun sz => m_isGraded_f l E b τ sz h.1.1 k hk hp hf, rfl, fun q => absurd q (by decide), h⟩
set_option maxHeartbeats 4000000 in
theorem op_gradeOf (l : Launch) (hfl : l.stackTraces = false) (E : GE) (a b : Nat → Nat) (σ : GS) (τ : MS) (h : RR σ τ) (q9 : Nat) (f : Nat → Int64) (x : Int32) : OP l E a b σ τ q9 f yL_gradeOf yX1_gradeOf wsL_gradeOf wsX1_gradeOf { frames := 3, cells := 0, slots := 0, locals := 64 } [.int x] pI := by
  have hn0 : gn σ ≤ 40 := by rw [h.n]; exact h.1.1
  have hk0 : gk σ ≤ 8 := by rw [h.k]; exact h.1.2.1
  have gO9 := h.gok
  have mO9 := h.mok
  have tt := (h.thr 0).tt
  obtain ⟨hb1, hb2⟩ | ⟨k, hk, rfl, hp⟩ := plc h x
  · exact ⟨1, 0, σ, mThr τ 1, f, fun sz => w_gradeOf_1 l hfl E a σ q9 f sz hn0 x (Or.inl hb1), fun sz => m_gradeOf_b l E b τ sz x hb2, rfl, fun q => absurd q (by decide), h⟩
  · have gk9 : k < gn σ := by rw [h.n]; exact hk
    cases hf : mf τ k
    · have hE : gEx (ge σ) k = true := by rw [h.ex hk, hf]; rfl
      exact ⟨0, md τ k, σ, mThr τ 0, vp_updL f 0 ((ggr σ k).toInt64), fun sz => w_gradeOf l E a σ q9 f sz k hn0 gk9 hE, fun sz => m_gradeOf l E b τ sz h.1.1 k hk hp hf, rfl, fun _ => up0.trans (by rw [(h.e hk hf).2.2.2.2.1]), h⟩
    · have hE : gEx (ge σ) k = false := by rw [h.ex hk, hf]; rfl
      exact ⟨1, 0, σ, mThr τ 1, f, fun sz => w_gradeOf_1 l hfl E a σ q9 f sz hn0 (nI k) (Or.inr ⟨k, gk9, rfl, hE⟩), fun sz => m_gradeOf_f l E b τ sz h.1.1 k hk hp hf, rfl, fun q => absurd q (by decide), h⟩
set_option maxHeartbeats 4000000 in
theorem op_leftOf (l : Launch) (hfl : l.stackTraces = false) (E : GE) (a b : Nat → Nat) (σ : GS) (τ : MS) (h : RR σ τ) (q9 : Nat) (f : Nat → Int64) (x : Int32) : OP l E a b σ τ q9 f yL_leftOf yX1_leftOf wsL_leftOf wsX1_leftOf { frames := 4, cells := 0, slots := 0, locals := 86 } [.int x] pI := by
  have hn0 : gn σ ≤ 40 := by rw [h.n]; exact h.1.1
  have hk0 : gk σ ≤ 8 := by rw [h.k]; exact h.1.2.1
  have gO9 := h.gok
  have mO9 := h.mok
  have tt := (h.thr 0).tt
  obtain ⟨hb1, hb2⟩ | ⟨k, hk, rfl, hp⟩ := plc h x
  · exact ⟨1, 0, σ, mThr τ 1, f, fun sz => w_leftOf_1 l hfl E a σ q9 f sz hn0 x (Or.inl hb1), fun sz => m_leftOf_b l E b τ sz x hb2, rfl, fun q => absurd q (by decide), h⟩
  · have gk9 : k < gn σ := by rw [h.n]; exact hk
    cases hf : mf τ k
    · have hE : gEx (ge σ) k = true := by rw [h.ex hk, hf]; rfl
      exact ⟨1, 0, σ, mThr τ 1, f, fun sz => w_leftOf_1 l hfl E a σ q9 f sz hn0 (nI k) (Or.inr ⟨k, gk9, rfl, hE⟩), fun sz => m_leftOf_f l E b τ sz h.1.1 k hk hp hf, rfl, fun q => absurd q (by decide), h⟩
    · have hE : gEx (ge σ) k = false := by rw [h.ex hk, hf]; rfl
      exact ⟨0, nI (mo τ k), σ, mThr τ 0, vp_updL f 0 ((nI (glf σ k)).toInt64), fun sz => w_leftOf l E a σ q9 f sz k hn0 gk9 hE, fun sz => m_leftOf l E b τ sz h.1.1 k hk hp hf, rfl, fun _ => up0.trans (by rw [(h.f hf).1]), h⟩
set_option maxHeartbeats 4000000 in
theorem op_rightOf (l : Launch) (hfl : l.stackTraces = false) (E : GE) (a b : Nat → Nat) (σ : GS) (τ : MS) (h : RR σ τ) (q9 : Nat) (f : Nat → Int64) (x : Int32) : OP l E a b σ τ q9 f yL_rightOf yX1_rightOf wsL_rightOf wsX1_rightOf { frames := 4, cells := 0, slots := 0, locals := 86 } [.int x] pI := by
  have hn0 : gn σ ≤ 40 := by rw [h.n]; exact h.1.1
  have hk0 : gk σ ≤ 8 := by rw [h.k]; exact h.1.2.1
  have gO9 := h.gok
  have mO9 := h.mok
  have tt := (h.thr 0).tt
  obtain ⟨hb1, hb2⟩ | ⟨k, hk, rfl, hp⟩ := plc h x
  · exact ⟨1, 0, σ, mThr τ 1, f, fun sz => w_rightOf_1 l hfl E a σ q9 f sz hn0 x (Or.inl hb1), fun sz => m_rightOf_b l E b τ sz x hb2, rfl, fun q => absurd q (by decide), h⟩
  · have gk9 : k < gn σ := by rw [h.n]; exact hk
    cases hf : mf τ k
    · have hE : gEx (ge σ) k = true := by rw [h.ex hk, hf]; rfl
      exact ⟨1, 0, σ, mThr τ 1, f, fun sz => w_rightOf_1 l hfl E a σ q9 f sz hn0 (nI k) (Or.inr ⟨k, gk9, rfl, hE⟩), fun sz => m_rightOf_f l E b τ sz h.1.1 k hk hp hf, rfl, fun q => absurd q (by decide), h⟩
    · have hE : gEx (ge σ) k = false := by rw [h.ex hk, hf]; rfl
      exact ⟨0, nI (mh τ k), σ, mThr τ 0, vp_updL f 0 ((nI (grt σ k)).toInt64), fun sz => w_rightOf l E a σ q9 f sz k hn0 gk9 hE, fun sz => m_rightOf l E b τ sz h.1.1 k hk hp hf, rfl, fun _ => up0.trans (by rw [(h.f hf).2.1]), h⟩
set_option maxHeartbeats 4000000 in
theorem op_weightOf (l : Launch) (hfl : l.stackTraces = false) (E : GE) (a b : Nat → Nat) (σ : GS) (τ : MS) (h : RR σ τ) (q9 : Nat) (f : Nat → Int64) (x : Int32) : OP l E a b σ τ q9 f yL_weightOf yX1_weightOf wsL_weightOf wsX1_weightOf { frames := 4, cells := 0, slots := 0, locals := 86 } [.int x] pI := by
  have hn0 : gn σ ≤ 40 := by rw [h.n]; exact h.1.1
  have hk0 : gk σ ≤ 8 := by rw [h.k]; exact h.1.2.1
  have gO9 := h.gok
  have mO9 := h.mok
  have tt := (h.thr 0).tt
  obtain ⟨hb1, hb2⟩ | ⟨k, hk, rfl, hp⟩ := plc h x
  · exact ⟨1, 0, σ, mThr τ 1, f, fun sz => w_weightOf_1 l hfl E a σ q9 f sz hn0 x (Or.inl hb1), fun sz => m_weightOf_b l E b τ sz x hb2, rfl, fun q => absurd q (by decide), h⟩
  · have gk9 : k < gn σ := by rw [h.n]; exact hk
    cases hf : mf τ k
    · have hE : gEx (ge σ) k = true := by rw [h.ex hk, hf]; rfl
      exact ⟨1, 0, σ, mThr τ 1, f, fun sz => w_weightOf_1 l hfl E a σ q9 f sz hn0 (nI k) (Or.inr ⟨k, gk9, rfl, hE⟩), fun sz => m_weightOf_f l E b τ sz h.1.1 k hk hp hf, rfl, fun q => absurd q (by decide), h⟩
    · have hE : gEx (ge σ) k = false := by rw [h.ex hk, hf]; rfl
      exact ⟨0, md τ k, σ, mThr τ 0, vp_updL f 0 ((gwt σ k).toInt64), fun sz => w_weightOf l E a σ q9 f sz k hn0 gk9 hE, fun sz => m_weightOf l E b τ sz h.1.1 k hk hp hf, rfl, fun _ => up0.trans (by rw [(h.f hf).2.2.2.2.1]), h⟩
set_option maxHeartbeats 4000000 in
theorem op_hindsight (l : Launch) (hfl : l.stackTraces = false) (E : GE) (a b : Nat → Nat) (σ : GS) (τ : MS) (h : RR σ τ) (q9 : Nat) (f : Nat → Int64) (x : Int32) : OP l E a b σ τ q9 f yL_hindsight yX1_hindsight wsL_hindsight wsX1_hindsight { frames := 3, cells := 0, slots := 0, locals := 64 } [.int x] pI := by
  have hn0 : gn σ ≤ 40 := by rw [h.n]; exact h.1.1
  have hk0 : gk σ ≤ 8 := by rw [h.k]; exact h.1.2.1
  have gO9 := h.gok
  have mO9 := h.mok
  have tt := (h.thr 0).tt
  obtain ⟨hb1, hb2⟩ | ⟨k, hk, rfl, hp⟩ := plc h x
  · exact ⟨1, 0, σ, mThr τ 1, f, fun sz => w_hindsight_1 l hfl E a σ q9 f sz hn0 x (Or.inl hb1), fun sz => m_hindsight_b l E b τ sz x hb2, rfl, fun q => absurd q (by decide), h⟩
  · have gk9 : k < gn σ := by rw [h.n]; exact hk
    cases hf : mf τ k
    · have hE : gEx (ge σ) k = true := by rw [h.ex hk, hf]; rfl
      exact ⟨1, 0, σ, mThr τ 1, f, fun sz => w_hindsight_1 l hfl E a σ q9 f sz hn0 (nI k) (Or.inr ⟨k, gk9, rfl, hE⟩), fun sz => m_hindsight_f l E b τ sz h.1.1 k hk hp hf, rfl, fun q => absurd q (by decide), h⟩
    · have hE : gEx (ge σ) k = false := by rw [h.ex hk, hf]; rfl
      exact ⟨0, mBh τ k, σ, mThr τ 0, vp_updL f 0 ((ghs σ k).toInt64), fun sz => w_hindsight l E a σ q9 f sz k hn0 gk9 hE, fun sz => m_hindsight l E b τ sz mO9 h.1.1 k hk hp hf, rfl, fun _ => up0.trans (by rw [← h.bh hf]), h⟩
set_option maxHeartbeats 4000000 in
theorem op_risk (l : Launch) (hfl : l.stackTraces = false) (E : GE) (a b : Nat → Nat) (σ : GS) (τ : MS) (h : RR σ τ) (q9 : Nat) (f : Nat → Int64) (x : Int32) (d : Bool) : OP l E a b σ τ q9 f yL_risk yX1_risk wsL_risk wsX1_risk { frames := 3, cells := 0, slots := 0, locals := 64 } [.int x, .int (b2i d)] pI := by
  have hn0 : gn σ ≤ 40 := by rw [h.n]; exact h.1.1
  have hk0 : gk σ ≤ 8 := by rw [h.k]; exact h.1.2.1
  have gO9 := h.gok
  have mO9 := h.mok
  have tt := (h.thr 0).tt
  obtain ⟨hb1, hb2⟩ | ⟨k, hk, rfl, hp⟩ := plc h x
  · exact ⟨1, 0, σ, mThr (mTab (mThr τ 0)) 1, f, fun sz => w_risk_1 l hfl E a σ q9 f sz hn0 x (b2i d) (Or.inl hb1), fun sz => m_risk_b l E b τ sz mO9 x hb2 (b2i d), rfl, fun q => absurd q (by decide), h⟩
  · have gk9 : k < gn σ := by rw [h.n]; exact hk
    cases hf : mf τ k
    · have hE : gEx (ge σ) k = true := by rw [h.ex hk, hf]; rfl
      exact ⟨1, 0, σ, mThr (mTab (mThr τ 0)) 1, f, fun sz => w_risk_1 l hfl E a σ q9 f sz hn0 (nI k) (b2i d) (Or.inr ⟨k, gk9, rfl, hE⟩), fun sz => m_risk_f l E b τ sz mO9 h.1.1 k hk hp hf (b2i d), rfl, fun q => absurd q (by decide), h⟩
    · have hE : gEx (ge σ) k = false := by rw [h.ex hk, hf]; rfl
      exact ⟨0, mRisk (mTab (mThr τ 0)) k d, σ, mTab (mThr τ 0), vp_updL f 0 ((gRisk σ k d).toInt64), fun sz => w_risk l E a σ q9 f sz gO9 k gk9 hE d, fun sz => m_risk l E b τ sz mO9 h.1.1 k hk hp hf d, rfl, fun _ => up0.trans (by rw [← (h.thr 0).tab.risk tt hf d]), h⟩
set_option maxHeartbeats 4000000 in
theorem op_planTurnsRight (l : Launch) (hfl : l.stackTraces = false) (E : GE) (a b : Nat → Nat) (σ : GS) (τ : MS) (h : RR σ τ) (q9 : Nat) (f : Nat → Int64) (x : Int32) : OP l E a b σ τ q9 f yL_planTurnsRight yX1_planTurnsRight wsL_planTurnsRight wsX1_planTurnsRight { frames := 3, cells := 0, slots := 0, locals := 66 } [.int x] pB := by
  have hn0 : gn σ ≤ 40 := by rw [h.n]; exact h.1.1
  have hk0 : gk σ ≤ 8 := by rw [h.k]; exact h.1.2.1
  have gO9 := h.gok
  have mO9 := h.mok
  have tt := (h.thr 0).tt
  obtain ⟨hb1, hb2⟩ | ⟨k, hk, rfl, hp⟩ := plc h x
  · exact ⟨1, 0, σ, mThr (mTab (mThr τ 0)) 1, f, fun sz => w_planTurnsRight_1 l hfl E a σ q9 f sz hn0 x (Or.inl hb1), fun sz => m_planTurnsRight_b l E b τ sz mO9 x hb2, rfl, fun q => absurd q (by decide), h⟩
  · have gk9 : k < gn σ := by rw [h.n]; exact hk
    cases hf : mf τ k
    · have hE : gEx (ge σ) k = true := by rw [h.ex hk, hf]; rfl
      exact ⟨1, 0, σ, mThr (mTab (mThr τ 0)) 1, f, fun sz => w_planTurnsRight_1 l hfl E a σ q9 f sz hn0 (nI k) (Or.inr ⟨k, gk9, rfl, hE⟩), fun sz => m_planTurnsRight_f l E b τ sz mO9 h.1.1 k hk hp hf, rfl, fun q => absurd q (by decide), h⟩
    · have hE : gEx (ge σ) k = false := by rw [h.ex hk, hf]; rfl
      exact ⟨0, b2i (mPl (mTab (mThr τ 0)) k), σ, mTab (mThr τ 0), vp_updL f 0 (bl (gPl σ k)), fun sz => w_planTurnsRight l E a σ q9 f sz gO9 k gk9 hE, fun sz => m_planTurnsRight l E b τ sz mO9 h.1.1 k hk hp hf, rfl, fun _ => ⟨_, rfl, up0.trans (by rw [← (h.thr 0).tab.pl tt hf])⟩, h⟩
set_option maxHeartbeats 4000000 in
theorem op_reaches (l : Launch) (hfl : l.stackTraces = false) (E : GE) (a b : Nat → Nat) (σ : GS) (τ : MS) (h : RR σ τ) (q9 : Nat) (f : Nat → Int64) (x y : Int32) : OP l E a b σ τ q9 f yL_reaches yX1_reaches wsL_reaches wsX1_reaches { frames := 2, cells := 0, slots := 0, locals := 43 } [.int x, .int y] pB := by
  have hn0 : gn σ ≤ 40 := by rw [h.n]; exact h.1.1
  have hk0 : gk σ ≤ 8 := by rw [h.k]; exact h.1.2.1
  have gO9 := h.gok
  have mO9 := h.mok
  have tt := (h.thr 0).tt
  obtain ⟨hb1, hb2⟩ | ⟨k, hk, rfl, hp⟩ := plc h x
  · exact ⟨1, 0, σ, mThr τ 1, f, fun sz => w_reaches_1 l hfl E a σ q9 f sz x y hb1, fun sz => m_reaches_b l E b τ sz x hb2 y, rfl, fun q => absurd q (by decide), h⟩
  · have gk9 : k < gn σ := by rw [h.n]; exact hk
    obtain ⟨hb1, hb2⟩ | ⟨k2, hk2, rfl, hp2⟩ := plc h y
    · exact ⟨1, 0, σ, mThr τ 1, f, fun sz => w_reaches_2 l hfl E a σ q9 f sz hn0 k gk9 y hb1, fun sz => m_reaches_c l E b τ sz h.1.1 k hk hp y hb2, rfl, fun q => absurd q (by decide), h⟩
    · have gk2 : k2 < gn σ := by rw [h.n]; exact hk2
      exact ⟨0, b2i (bitL (mr τ k) k2), σ, mThr τ 0, vp_updL f 0 (bl (gEx (grb σ k) k2)), fun sz => w_reaches l E a σ q9 f sz k hn0 gk9 k2 gk2, fun sz => m_reaches l E b τ sz h.1.1 k hk hp k2 hk2 hp2, rfl, fun _ => ⟨_, rfl, up0.trans (by rw [h.rb hk hk2])⟩, h⟩
set_option maxHeartbeats 4000000 in
theorem op_placeOf (l : Launch) (hfl : l.stackTraces = false) (E : GE) (a b : Nat → Nat) (σ : GS) (τ : MS) (h : RR σ τ) (q9 : Nat) (f : Nat → Int64) (x : Int32) : OP l E a b σ τ q9 f yL_placeOf yX1_placeOf wsL_placeOf wsX1_placeOf { frames := 3, cells := 0, slots := 0, locals := 65 } [.int x] pI := by
  have hn0 : gn σ ≤ 40 := by rw [h.n]; exact h.1.1
  have hk0 : gk σ ≤ 8 := by rw [h.k]; exact h.1.2.1
  have gO9 := h.gok
  have mO9 := h.mok
  have tt := (h.thr 0).tt
  obtain ⟨hb1, hb2⟩ | ⟨k, hk, rfl, hp⟩ := stc h x
  · exact ⟨1, 0, σ, mThr τ 1, f, fun sz => w_placeOf_1 l hfl E a σ q9 f sz x hb1, fun sz => m_placeOf_b l E b τ sz x hb2, rfl, fun q => absurd q (by decide), h⟩
  · have gk9 : k < gk σ := by rw [h.k]; exact hk
    exact ⟨0, nI (ms τ k), σ, mThr τ 0, vp_updL f 0 ((nI (gst σ k)).toInt64), fun sz => w_placeOf l E a σ q9 f sz k hk0 gk9, fun sz => m_placeOf l E b τ sz h.1.2.1 k hk hp, rfl, fun _ => up0.trans (by rw [h.st]), h⟩
set_option maxHeartbeats 4000000 in
theorem op_passedBy (l : Launch) (hfl : l.stackTraces = false) (E : GE) (a b : Nat → Nat) (σ : GS) (τ : MS) (h : RR σ τ) (q9 : Nat) (f : Nat → Int64) (x : Int32) : OP l E a b σ τ q9 f yL_passedBy yX1_passedBy wsL_passedBy wsX1_passedBy { frames := 3, cells := 0, slots := 0, locals := 65 } [.int x] pI := by
  have hn0 : gn σ ≤ 40 := by rw [h.n]; exact h.1.1
  have hk0 : gk σ ≤ 8 := by rw [h.k]; exact h.1.2.1
  have gO9 := h.gok
  have mO9 := h.mok
  have tt := (h.thr 0).tt
  obtain ⟨hb1, hb2⟩ | ⟨k, hk, rfl, hp⟩ := stc h x
  · exact ⟨1, 0, σ, mThr τ 1, f, fun sz => w_passedBy_1 l hfl E a σ q9 f sz x hb1, fun sz => m_passedBy_b l E b τ sz x hb2, rfl, fun q => absurd q (by decide), h⟩
  · have gk9 : k < gk σ := by rw [h.k]; exact hk
    exact ⟨0, nI (mp τ k), σ, mThr τ 0, vp_updL f 0 ((nI (gpc σ k)).toInt64), fun sz => w_passedBy l E a σ q9 f sz k hk0 gk9, fun sz => m_passedBy l E b τ sz h.1.2.1 k hk hp, rfl, fun _ => up0.trans (by rw [h.pc]), h⟩
set_option maxHeartbeats 4000000 in
theorem op_regretOf (l : Launch) (hfl : l.stackTraces = false) (E : GE) (a b : Nat → Nat) (σ : GS) (τ : MS) (h : RR σ τ) (q9 : Nat) (f : Nat → Int64) (x : Int32) : OP l E a b σ τ q9 f yL_regretOf yX1_regretOf wsL_regretOf wsX1_regretOf { frames := 4, cells := 0, slots := 0, locals := 91 } [.int x] pI := by
  have hn0 : gn σ ≤ 40 := by rw [h.n]; exact h.1.1
  have hk0 : gk σ ≤ 8 := by rw [h.k]; exact h.1.2.1
  have gO9 := h.gok
  have mO9 := h.mok
  have tt := (h.thr 0).tt
  obtain ⟨hb1, hb2⟩ | ⟨k, hk, rfl, hp⟩ := stc h x
  · exact ⟨1, 0, σ, mThr τ 1, f, fun sz => w_regretOf_1 l hfl E a σ q9 f sz x hb1, fun sz => m_regretOf_b l E b τ sz x hb2, rfl, fun q => absurd q (by decide), h⟩
  · have gk9 : k < gk σ := by rw [h.k]; exact hk
    have e9 : gHas σ (gst σ k) = mGd τ (ms τ k) := by rw [h.st]; exact h.has (mO9.2.2.2.2.2.2.2.2 k hk)
    cases hg : mGd τ (ms τ k)
    · exact ⟨2, 0, σ, mThr τ 2, f, fun sz => w_regretOf_2 l hfl E a σ q9 f sz gO9 k gk9 (e9.trans hg), fun sz => m_regretOf_g l E b τ sz mO9 k hk hp hg, rfl, fun q => absurd q (by decide), h⟩
    · exact ⟨0, mRegs τ k, σ, mThr τ 0, vp_updL f 0 ((gRegs σ k).toInt64), fun sz => w_regretOf l E a σ q9 f sz gO9 k gk9 (e9.trans hg), fun sz => m_regretOf l E b τ sz mO9 k hk hp hg, rfl, fun _ => up0.trans (by rw [← h.regs hk hg]), h⟩
set_option maxHeartbeats 4000000 in
theorem op_worstFork (l : Launch) (hfl : l.stackTraces = false) (E : GE) (a b : Nat → Nat) (σ : GS) (τ : MS) (h : RR σ τ) (q9 : Nat) (f : Nat → Int64) (x : Int32) : OP l E a b σ τ q9 f yL_worstFork yX1_worstFork wsL_worstFork wsX1_worstFork { frames := 4, cells := 0, slots := 0, locals := 92 } [.int x] pI := by
  have hn0 : gn σ ≤ 40 := by rw [h.n]; exact h.1.1
  have hk0 : gk σ ≤ 8 := by rw [h.k]; exact h.1.2.1
  have gO9 := h.gok
  have mO9 := h.mok
  have tt := (h.thr 0).tt
  obtain ⟨hb1, hb2⟩ | ⟨k, hk, rfl, hp⟩ := stc h x
  · exact ⟨1, 0, σ, mThr τ 1, f, fun sz => w_worstFork_1 l hfl E a σ q9 f sz x hb1, fun sz => m_worstFork_b l E b τ sz x hb2, rfl, fun q => absurd q (by decide), h⟩
  · have gk9 : k < gk σ := by rw [h.k]; exact hk
    have e9 : gHas σ (gst σ k) = mGd τ (ms τ k) := by rw [h.st]; exact h.has (mO9.2.2.2.2.2.2.2.2 k hk)
    cases hg : mGd τ (ms τ k)
    · exact ⟨2, 0, σ, mThr τ 2, f, fun sz => w_worstFork_2 l hfl E a σ q9 f sz gO9 k gk9 (e9.trans hg), fun sz => m_worstFork_g l E b τ sz mO9 k hk hp hg, rfl, fun q => absurd q (by decide), h⟩
    · exact ⟨0, (mWf τ k).1, σ, mThr τ 0, vp_updL f 0 (((gWf σ k).1).toInt64), fun sz => w_worstFork l E a σ q9 f sz gO9 k gk9 (e9.trans hg), fun sz => m_worstFork l E b τ sz mO9 k hk hp hg, rfl, fun _ => up0.trans (by rw [← h.wf hk hg]), h⟩
set_option maxHeartbeats 4000000 in
theorem op_addExam (l : Launch) (hfl : l.stackTraces = false) (E : GE) (a b : Nat → Nat) (σ : GS) (τ : MS) (h : RR σ τ) (q9 : Nat) (f : Nat → Int64) (x y : Int32) : OP l E a b σ τ q9 f yL_addExam yX1_addExam wsL_addExam wsX1_addExam { frames := 1, cells := 0, slots := 0, locals := 21 } [.int x, .int y] pI := by
  have hn0 : gn σ ≤ 40 := by rw [h.n]; exact h.1.1
  have hk0 : gk σ ≤ 8 := by rw [h.k]; exact h.1.2.1
  have gO9 := h.gok
  have mO9 := h.mok
  have tt := (h.thr 0).tt
  by_cases c : x < 0 ∨ nI 20 < y ∨ y < x
  · exact ⟨1, 0, σ, mThr τ 1, f, fun sz => w_addExam_1 l hfl E a σ q9 f sz x y c, fun sz => m_addExam_1 l E b τ sz x y c, rfl, fun q => absurd q (by decide), h⟩
  · have c1 : ¬ x < 0 := fun q => c (Or.inl q)
    have c2 : ¬ nI 20 < y := fun q => c (Or.inr (Or.inl q))
    have c3 : ¬ y < x := fun q => c (Or.inr (Or.inr q))
    have hy0 : ¬ y < 0 := fun q => c3 (Int32.lt_iff_toInt_lt.mpr (by have h1 := Int32.lt_iff_toInt_lt.mp q; have h2 := Int32.le_iff_toInt_le.mp (Int32.not_lt.mp c1); omega))
    obtain ⟨y, hy, rfl⟩ := nI_of2 (n := 20) (M := nI 20) (by rfl) hy0 (Int32.not_lt.mp c2)
    obtain ⟨x, hx, rfl⟩ := nI_of2 (n := y) (M := nI y) (nI_toInt (by omega)) c1 (Int32.not_lt.mp c3)
    have n40 := h.1.1
    by_cases d : mn τ = 40
    · exact ⟨2, 0, σ, mThr τ 2, f, fun sz => w_addExam_2 l hfl E a σ q9 f sz x y hx hy (h.n.trans d), fun sz => m_addExam_2 l E b τ sz x y hx hy d, rfl, fun q => absurd q (by decide), h⟩
    · exact ⟨0, nI (mn τ), gAddE σ x y, mAddE τ x y, vp_updL f 0 ((nI (gn σ)).toInt64), fun sz => w_addExam l E a σ q9 f sz x y hx hy (by rw [h.n]; omega), fun sz => m_addExam l E b τ sz x y hx hy (by omega), rfl, fun _ => up0.trans (by rw [h.n]), h.addE (by omega) hy (by omega)⟩
set_option maxHeartbeats 4000000 in
theorem op_addFork (l : Launch) (hfl : l.stackTraces = false) (E : GE) (a b : Nat → Nat) (σ : GS) (τ : MS) (h : RR σ τ) (q9 : Nat) (f : Nat → Int64) (x y w : Int32) : OP l E a b σ τ q9 f yL_addFork yX1_addFork wsL_addFork wsX1_addFork { frames := 2, cells := 0, slots := 0, locals := 43 } [.int x, .int y, .int w] pI := by
  have hn0 : gn σ ≤ 40 := by rw [h.n]; exact h.1.1
  have hk0 : gk σ ≤ 8 := by rw [h.k]; exact h.1.2.1
  have gO9 := h.gok
  have mO9 := h.mok
  have tt := (h.thr 0).tt
  obtain ⟨hb1, hb2⟩ | ⟨k, hk, rfl, hp⟩ := plc h x
  · exact ⟨1, 0, σ, mThr τ 1, f, fun sz => w_addFork_1 l hfl E a σ q9 f sz x y w hb1, fun sz => m_addFork_1 l E b τ sz x hb2 y w, rfl, fun q => absurd q (by decide), h⟩
  · have gk9 : k < gn σ := by rw [h.n]; exact hk
    obtain ⟨hb1, hb2⟩ | ⟨k2, hk2, rfl, hp2⟩ := plc h y
    · exact ⟨1, 0, σ, mThr τ 1, f, fun sz => w_addFork_2 l hfl E a σ q9 f sz hn0 k gk9 y w hb1, fun sz => m_addFork_1b l E b τ sz k hp y w hb2, rfl, fun q => absurd q (by decide), h⟩
    · have gk2 : k2 < gn σ := by rw [h.n]; exact hk2
      have n40 := h.1.1
      obtain ⟨hw1, hw2⟩ | ⟨h1, h9, hw2⟩ := rgc w 1 (nI 9)
      · exact ⟨2, 0, σ, mThr τ 2, f, fun sz => w_addFork_3 l hfl E a σ q9 f sz hn0 k k2 gk9 gk2 w hw1, fun sz => m_addFork_2 l E b τ sz k k2 hk hk2 hp hp2 w hw2, rfl, fun q => absurd q (by decide), h⟩
      · by_cases d : mn τ = 40
        · exact ⟨3, 0, σ, mThr τ 3, f, fun sz => w_addFork_4 l hfl E a σ q9 f sz k k2 gk9 gk2 w h1 h9 (h.n.trans d), fun sz => m_addFork_3 l E b τ sz k k2 hk hk2 hp hp2 w hw2 d, rfl, fun q => absurd q (by decide), h⟩
        · exact ⟨0, nI (mn τ), gAddF σ k k2 w, mAddF τ k k2 w, vp_updL f 0 ((nI (gn σ)).toInt64), fun sz => w_addFork l E a σ q9 f sz gO9 k k2 gk9 gk2 w h1 h9 (by rw [h.n]; omega), fun sz => m_addFork l E b τ sz k k2 hk hk2 hp hp2 w hw2 (by omega), rfl, fun _ => up0.trans (by rw [h.n]), h.addF hk hk2 w (by omega)⟩
set_option maxHeartbeats 4000000 in
theorem op_grade (l : Launch) (hfl : l.stackTraces = false) (E : GE) (a b : Nat → Nat) (σ : GS) (τ : MS) (h : RR σ τ) (q9 : Nat) (f : Nat → Int64) (x g : Int32) : OP l E a b σ τ q9 f yL_grade yX1_grade wsL_grade wsX1_grade { frames := 3, cells := 0, slots := 0, locals := 64 } [.int x, .int g] pI := by
  have hn0 : gn σ ≤ 40 := by rw [h.n]; exact h.1.1
  have hk0 : gk σ ≤ 8 := by rw [h.k]; exact h.1.2.1
  have gO9 := h.gok
  have mO9 := h.mok
  have tt := (h.thr 0).tt
  obtain ⟨hb1, hb2⟩ | ⟨k, hk, rfl, hp⟩ := plc h x
  · exact ⟨1, 0, σ, mThr τ 1, f, fun sz => w_grade_1 l hfl E a σ q9 f sz hn0 x g (Or.inl hb1), fun sz => m_grade_1 l E b τ sz x hb2 g, rfl, fun q => absurd q (by decide), h⟩
  · have gk9 : k < gn σ := by rw [h.n]; exact hk
    cases hf : mf τ k
    · have hE : gEx (ge σ) k = true := by rw [h.ex hk, hf]; rfl
      obtain ⟨e1, e2, e3, e4, e5, e6, _⟩ := h.e hk hf
      obtain ⟨hw1, hw2⟩ | ⟨h1, h9, hw2⟩ := rgc g (nI (mo τ k)) (nI (mh τ k))
      · exact ⟨2, 0, σ, mThr τ 2, f, fun sz => w_grade_2 l hfl E a σ q9 f sz hn0 k gk9 hE g (by rw [e1, e2]; exact hw1), fun sz => m_grade_2 l E b τ sz h.1.1 k hk hp hf g hw2, rfl, fun q => absurd q (by decide), h⟩
      · by_cases d : md τ k = -1
        · have g0 : ¬ g < 0 := fun q => h1 (Int32.lt_iff_toInt_lt.mpr (by have h3 := Int32.lt_iff_toInt_lt.mp q; rw [nI_toInt (by omega)]; have : (0 : Int32).toInt = 0 := rfl; omega))
          obtain ⟨g, hg, rfl⟩ := nI_of2 (n := mh τ k) (M := nI (mh τ k)) (nI_toInt (by omega)) g0 h9
          have lo9 : mo τ k ≤ g := by have := h1; rw [nI_ltI (by omega) (by omega)] at this; omega
          have hh9 : gHas σ k = false := by rw [gHas, e5, decide_eq_true d]; rfl
          have r9 := h.grd hk hf (g := g) (by omega) d
          exact ⟨0, mGn (mMd τ k (nI g)), gGrd σ k (nI g), mMd τ k (nI g), vp_updL f 0 ((gc σ + 1).toInt64), fun sz => w_grade l E a σ q9 f sz gO9 k g gk9 hE (by rw [e1]; exact lo9) (by rw [e2]; exact hg) (by rw [e2]; exact e4) hh9, fun sz => m_grade l E b τ sz mO9 k hk hp hf (nI g) hw2 d, rfl, fun _ => up0.trans (by rw [← r9.2.2.2.2.2.2.1, gGrd, gSA_eq]; rfl), r9⟩
        · exact ⟨3, 0, σ, mThr τ 3, f, fun sz => w_grade_3 l hfl E a σ q9 f sz hn0 k gk9 hE g (by rw [e1]; exact h1) (by rw [e2]; exact h9) (by rw [gHas, e5, decide_eq_false d]; rfl), fun sz => m_grade_3 l E b τ sz h.1.1 k hk hp hf g hw2 d, rfl, fun q => absurd q (by decide), h⟩
    · have hE : gEx (ge σ) k = false := by rw [h.ex hk, hf]; rfl
      exact ⟨1, 0, σ, mThr τ 1, f, fun sz => w_grade_1 l hfl E a σ q9 f sz hn0 (nI k) g (Or.inr ⟨k, gk9, rfl, hE⟩), fun sz => m_grade_1f l E b τ sz h.1.1 k hk hp hf g, rfl, fun q => absurd q (by decide), h⟩
set_option maxHeartbeats 4000000 in
theorem op_weigh (l : Launch) (hfl : l.stackTraces = false) (E : GE) (a b : Nat → Nat) (σ : GS) (τ : MS) (h : RR σ τ) (q9 : Nat) (f : Nat → Int64) (x w : Int32) : OP l E a b σ τ q9 f yL_weigh yX1_weigh wsL_weigh wsX1_weigh { frames := 3, cells := 0, slots := 0, locals := 64 } [.int x, .int w] pI := by
  have hn0 : gn σ ≤ 40 := by rw [h.n]; exact h.1.1
  have hk0 : gk σ ≤ 8 := by rw [h.k]; exact h.1.2.1
  have gO9 := h.gok
  have mO9 := h.mok
  have tt := (h.thr 0).tt
  obtain ⟨hb1, hb2⟩ | ⟨k, hk, rfl, hp⟩ := plc h x
  · exact ⟨1, 0, σ, mThr τ 1, f, fun sz => w_weigh_1 l hfl E a σ q9 f sz hn0 x w (Or.inl hb1), fun sz => m_weigh_1 l E b τ sz x hb2 w, rfl, fun q => absurd q (by decide), h⟩
  · have gk9 : k < gn σ := by rw [h.n]; exact hk
    cases hf : mf τ k
    · have hE : gEx (ge σ) k = true := by rw [h.ex hk, hf]; rfl
      exact ⟨1, 0, σ, mThr τ 1, f, fun sz => w_weigh_1 l hfl E a σ q9 f sz hn0 (nI k) w (Or.inr ⟨k, gk9, rfl, hE⟩), fun sz => m_weigh_1f l E b τ sz h.1.1 k hk hp hf w, rfl, fun q => absurd q (by decide), h⟩
    · have hE : gEx (ge σ) k = false := by rw [h.ex hk, hf]; rfl
      obtain ⟨hw1, hw2⟩ | ⟨h1, h9, hw2⟩ := rgc w 1 (nI 9)
      · exact ⟨2, 0, σ, mThr τ 2, f, fun sz => w_weigh_2 l hfl E a σ q9 f sz hn0 k gk9 hE w hw1, fun sz => m_weigh_2 l E b τ sz h.1.1 k hk hp hf w hw2, rfl, fun q => absurd q (by decide), h⟩
      · exact ⟨0, md τ k, gWgh σ k w, mMd τ k w, vp_updL f 0 ((gwt σ k).toInt64), fun sz => w_weigh l E a σ q9 f sz k hn0 gk9 hE w h1 h9, fun sz => m_weigh l E b τ sz h.1.1 k hk hp hf w hw2, rfl, fun _ => up0.trans (by rw [(h.f hf).2.2.2.2.1]), h.wgh hf w⟩
set_option maxHeartbeats 4000000 in
theorem op_enroll (l : Launch) (hfl : l.stackTraces = false) (E : GE) (a b : Nat → Nat) (σ : GS) (τ : MS) (h : RR σ τ) (q9 : Nat) (f : Nat → Int64) (x : Int32) : OP l E a b σ τ q9 f yL_enroll yX1_enroll wsL_enroll wsX1_enroll { frames := 2, cells := 0, slots := 0, locals := 43 } [.int x] pI := by
  have hn0 : gn σ ≤ 40 := by rw [h.n]; exact h.1.1
  have hk0 : gk σ ≤ 8 := by rw [h.k]; exact h.1.2.1
  have gO9 := h.gok
  have mO9 := h.mok
  have tt := (h.thr 0).tt
  obtain ⟨hb1, hb2⟩ | ⟨k, hk, rfl, hp⟩ := plc h x
  · exact ⟨1, 0, σ, mThr τ 1, f, fun sz => w_enroll_1 l hfl E a σ q9 f sz x hb1, fun sz => m_enroll_1 l E b τ sz x hb2, rfl, fun q => absurd q (by decide), h⟩
  · have gk9 : k < gn σ := by rw [h.n]; exact hk
    have k8 := h.1.2.1
    by_cases d : mk τ = 8
    · exact ⟨2, 0, σ, mThr τ 2, f, fun sz => w_enroll_2 l hfl E a σ q9 f sz hn0 k gk9 (h.k.trans d), fun sz => m_enroll_2 l E b τ sz h.1.1 k hk hp d, rfl, fun q => absurd q (by decide), h⟩
    · exact ⟨0, nI (mk τ), gEnr σ k, mEnr τ k, vp_updL f 0 ((nI (gk σ)).toInt64), fun sz => w_enroll l E a σ q9 f sz k hn0 gk9 (by rw [h.k]; omega), fun sz => m_enroll l E b τ sz h.1.1 k hk hp (by omega), rfl, fun _ => up0.trans (by rw [h.k]), h.enr hk (by omega)⟩
set_option maxHeartbeats 4000000 in
theorem op_turn (l : Launch) (hfl : l.stackTraces = false) (E : GE) (a b : Nat → Nat) (σ : GS) (τ : MS) (h : RR σ τ) (q9 : Nat) (f : Nat → Int64) (x : Int32) (d : Bool) : OP l E a b σ τ q9 f yL_turn yX1_turn wsL_turn wsX1_turn { frames := 2, cells := 0, slots := 0, locals := 43 } [.int x, .int (b2i d)] pI := by
  have hn0 : gn σ ≤ 40 := by rw [h.n]; exact h.1.1
  have hk0 : gk σ ≤ 8 := by rw [h.k]; exact h.1.2.1
  have gO9 := h.gok
  have mO9 := h.mok
  have tt := (h.thr 0).tt
  obtain ⟨hb1, hb2⟩ | ⟨k, hk, rfl, hp⟩ := stc h x
  · exact ⟨1, 0, σ, mThr τ 1, f, fun sz => w_turn_1 l hfl E a σ q9 f sz x (b2i d) hb1, fun sz => m_turn_1 l E b τ sz x hb2 (b2i d), rfl, fun q => absurd q (by decide), h⟩
  · have gk9 : k < gk σ := by rw [h.k]; exact hk
    have s9 := mO9.2.2.2.2.2.2.2.2 k hk
    have e9 : gEx (ge σ) (gst σ k) = !mf τ (ms τ k) := by rw [h.st]; exact h.ex s9
    cases hf : mf τ (ms τ k)
    · exact ⟨2, 0, σ, mThr τ 2, f, fun sz => w_turn_2 l hfl E a σ q9 f sz gO9 k gk9 (b2i d) (by rw [e9, hf]; rfl), fun sz => m_turn_2 l E b τ sz mO9 k hk hp hf (b2i d), rfl, fun q => absurd q (by decide), h⟩
    · exact ⟨0, nI (mTo τ (ms τ k) d), gWalk σ k d, mGo (mThr τ 0) k (mTo τ (ms τ k) d), vp_updL f 0 ((nI (gTo σ (gst σ k) d)).toInt64), fun sz => w_turn l E a σ q9 f sz gO9 k gk9 (by rw [e9, hf]; rfl) d, fun sz => m_turn l E b τ sz mO9 k hk hp hf d, rfl, fun _ => up0.trans (by rw [h.st, (h.to hf d).1]), h.go hk hf d⟩
set_option maxHeartbeats 4000000 in
theorem op_goBack (l : Launch) (hfl : l.stackTraces = false) (E : GE) (a b : Nat → Nat) (σ : GS) (τ : MS) (h : RR σ τ) (q9 : Nat) (f : Nat → Int64) (x : Int32) : OP l E a b σ τ q9 f yL_goBack yX1_goBack wsL_goBack wsX1_goBack { frames := 2, cells := 0, slots := 0, locals := 43 } [.int x] pI := by
  have hn0 : gn σ ≤ 40 := by rw [h.n]; exact h.1.1
  have hk0 : gk σ ≤ 8 := by rw [h.k]; exact h.1.2.1
  have gO9 := h.gok
  have mO9 := h.mok
  have tt := (h.thr 0).tt
  obtain ⟨hb1, hb2⟩ | ⟨k, hk, rfl, hp⟩ := stc h x
  · exact ⟨1, 0, σ, mThr τ 1, f, fun sz => w_goBack_1 l hfl E a σ q9 f sz x hb1, fun sz => m_goBack_1 l E b τ sz x hb2, rfl, fun q => absurd q (by decide), h⟩
  · have gk9 : k < gk σ := by rw [h.k]; exact hk
    have z9 := mO9.2.2.2.2.2.2.1 k
    cases hc : mp τ k with
    | zero => exact ⟨2, 0, σ, mThr τ 2, f, fun sz => w_goBack_2 l hfl E a σ q9 f sz hk0 k gk9 (by rw [h.pc]; exact hc), fun sz => m_goBack_2 l E b τ sz mO9 k hk hp hc, rfl, fun q => absurd q (by decide), h⟩
    | succ j => exact ⟨0, nI (mw τ (40 * k + j)), gBk σ k j, mBk τ k j, vp_updL f 0 ((nI (gpf σ (k * 40 + j))).toInt64), fun sz => w_goBack l E a σ q9 f sz k j hk0 gk9 (by rw [h.pc]; exact hc) (by omega), fun sz => m_goBack l E b τ sz mO9 k hk hp j hc (by omega), rfl, fun _ => up0.trans (by rw [h.pf, show k * 40 + j = 40 * k + j by omega]), h.bk hk hc⟩
set_option maxHeartbeats 4000000 in
theorem op_follow (l : Launch) (hfl : l.stackTraces = false) (E : GE) (a b : Nat → Nat) (σ : GS) (τ : MS) (h : RR σ τ) (q9 : Nat) (f : Nat → Int64) (x : Int32) : OP l E a b σ τ q9 f yL_follow yX1_follow wsL_follow wsX1_follow { frames := 4, cells := 0, slots := 0, locals := 87 } [.int x] pI := by
  have hn0 : gn σ ≤ 40 := by rw [h.n]; exact h.1.1
  have hk0 : gk σ ≤ 8 := by rw [h.k]; exact h.1.2.1
  have gO9 := h.gok
  have mO9 := h.mok
  have tt := (h.thr 0).tt
  obtain ⟨hb1, hb2⟩ | ⟨k, hk, rfl, hp⟩ := stc h x
  · exact ⟨1, 0, σ, mThr τ 1, f, fun sz => w_follow_1 l hfl E a σ q9 f sz x hb1, fun sz => m_follow_1 l E b τ sz x hb2, rfl, fun q => absurd q (by decide), h⟩
  · have gk9 : k < gk σ := by rw [h.k]; exact hk
    obtain ⟨r9, c9⟩ := RR.fo (s := k) 40 (h.thr 0).tab tt hk
    exact ⟨0, nI (mp (mFo k 40 (mTab (mThr τ 0))) k) - nI (mp τ k), gFo k 40 σ, mFo k 40 (mTab (mThr τ 0)), vp_updL f 0 ((nI (gFc k 40 σ)).toInt64), fun sz => w_follow l E a σ q9 f sz gO9 k gk9, fun sz => m_follow l E b τ sz mO9 k hk hp, (mFo_mt k 40 _), fun _ => up0.trans (by rw [← c9, pk_sub (show mp τ k ≤ gFc k 40 σ + mp (mTab (mThr τ 0)) k from Nat.le_add_left _ _)]; show (nI (gFc k 40 σ)).toInt64 = (nI (gFc k 40 σ + mp τ k - mp τ k)).toInt64; rw [Nat.add_sub_cancel]), r9⟩
