/-! what the law's choices keep of the places; the class's garden and the law's own in one heap -/
def RQ (τ : MS) : Prop := ∀ p, p < mn τ → (mf τ p = false → mo τ p ≤ mh τ p ∧ (md τ p = -1 ∨ ∃ g, mo τ p ≤ g ∧ g ≤ mh τ p ∧ md τ p = nI g)) ∧ (mf τ p = true → ∃ w, 1 ≤ w ∧ w ≤ 9 ∧ md τ p = nI w)
theorem RQ.cg {τ τ' : MS} {p : Nat} (h : (mf τ p = false → mo τ p ≤ mh τ p ∧ (md τ p = -1 ∨ ∃ g, mo τ p ≤ g ∧ g ≤ mh τ p ∧ md τ p = nI g)) ∧ (mf τ p = true → ∃ w, 1 ≤ w ∧ w ≤ 9 ∧ md τ p = nI w)) (e1 : mf τ' p = mf τ p) (e2 : mo τ' p = mo τ p) (e3 : mh τ' p = mh τ p) (e4 : md τ' p = md τ p) : (mf τ' p = false → mo τ' p ≤ mh τ' p ∧ (md τ' p = -1 ∨ ∃ g, mo τ' p ≤ g ∧ g ≤ mh τ' p ∧ md τ' p = nI g)) ∧ (mf τ' p = true → ∃ w, 1 ≤ w ∧ w ≤ 9 ∧ md τ' p = nI w) := by
  rw [e1, e2, e3, e4]; exact h
theorem RQ.init : RQ mS0 := fun p hp => absurd hp (Nat.not_lt_zero _)
theorem RQ.addE {σ : GS} {τ : MS} (h : RR σ τ) (q : RQ τ) {x y : Nat} (hxy : x ≤ y) : RQ (mAddE τ x y) := by
  intro p hp
  have hp : p < mn τ + 1 := hp
  by_cases c : p = mn τ
  · subst c
    have f0 : mf τ (mn τ) = false := h.2.2.1 _ (Nat.le_refl _)
    refine ⟨fun _ => ⟨?_, Or.inl pk_us⟩, fun z => ?_⟩
    · rw [show mo (mAddE τ x y) (mn τ) = x from up_s, show mh (mAddE τ x y) (mn τ) = y from up_s]; exact hxy
    · rw [show mf (mAddE τ x y) (mn τ) = mf τ (mn τ) from rfl, f0] at z; cases z
  · exact RQ.cg (τ' := mAddE τ x y) (q p (by omega)) rfl (up_n c) (up_n c) (pk_un c)
theorem RQ.addF {τ : MS} (q : RQ τ) {x y w : Nat} (h1 : 1 ≤ w) (h9 : w ≤ 9) : RQ (mAddF τ x y (nI w)) := by
  intro p hp
  have hp : p < mn τ + 1 := hp
  by_cases c : p = mn τ
  · subst c
    refine ⟨fun z => ?_, fun _ => ⟨w, h1, h9, pk_us⟩⟩
    rw [show mf (mAddF τ x y (nI w)) (mn τ) = true from up_s] at z; cases z
  · exact RQ.cg (τ' := mAddF τ x y (nI w)) (q p (by omega)) (up_n c) (up_n c) (up_n c) (pk_un c)
theorem RQ.grd {τ : MS} (q : RQ τ) {e g : Nat} (he : e < mn τ) (hE : mf τ e = false) (h1 : mo τ e ≤ g) (h2 : g ≤ mh τ e) : RQ (mMd τ e (nI g)) := by
  intro p hp
  have hp : p < mn τ := hp
  by_cases c : p = e
  · subst c
    exact ⟨fun _ => ⟨(q p hp).1 hE |>.1, Or.inr ⟨g, h1, h2, pk_us⟩⟩, fun z => by rw [show mf (mMd τ p (nI g)) p = mf τ p from rfl, hE] at z; cases z⟩
  · exact RQ.cg (τ' := mMd τ e (nI g)) (q p hp) rfl rfl rfl (pk_un c)
theorem RQ.wgh {τ : MS} (q : RQ τ) {k w : Nat} (hf : mf τ k = true) (h1 : 1 ≤ w) (h9 : w ≤ 9) : RQ (mMd τ k (nI w)) := by
  intro p hp
  have hp : p < mn τ := hp
  by_cases c : p = k
  · subst c
    exact ⟨fun z => (by rw [show mf (mMd τ p (nI w)) p = mf τ p from rfl, hf] at z; cases z), fun _ => ⟨w, h1, h9, pk_us⟩⟩
  · exact RQ.cg (τ' := mMd τ k (nI w)) (q p hp) rfl rfl rfl (pk_un c)
def LG (A : Nat → Prop) (E : GE) (a b : Nat → Nat) (σ : GS) (τ : MS) (H : Heap) : Prop := gP E (gW E a σ) H ∧ va_D A (gW E a σ) ∧ si_P E b τ H ∧ si_D A b (mn τ) (mk τ) ∧ ∀ i, si_V (mn τ) (mk τ) i → ∀ j, j < 14 → b i ≠ a j
theorem gW_ad {E : GE} {a : Nat → Nat} {σ : GS} {k : Nat} {q : Nat} {e : va_E} (h : (gW E a σ)[k]? = some (q, e)) : k < 14 ∧ q = a k := by
  have hk : k < 14 := (List.getElem?_eq_some_iff.mp h).1
  refine ⟨hk, ?_⟩
  rcases (show k = 0 ∨ k = 1 ∨ k = 2 ∨ k = 3 ∨ k = 4 ∨ k = 5 ∨ k = 6 ∨ k = 7 ∨ k = 8 ∨ k = 9 ∨ k = 10 ∨ k = 11 ∨ k = 12 ∨ k = 13 by omega) with rfl | rfl | rfl | rfl | rfl | rfl | rfl | rfl | rfl | rfl | rfl | rfl | rfl | rfl <;> (cases h; rfl)
theorem gW_at (E : GE) (a : Nat → Nat) (σ : GS) {k : Nat} (hk : k < 14) : ∃ e, (gW E a σ)[k]? = some (a k, e) := by
  rcases (show k = 0 ∨ k = 1 ∨ k = 2 ∨ k = 3 ∨ k = 4 ∨ k = 5 ∨ k = 6 ∨ k = 7 ∨ k = 8 ∨ k = 9 ∨ k = 10 ∨ k = 11 ∨ k = 12 ∨ k = 13 by omega) with rfl | rfl | rfl | rfl | rfl | rfl | rfl | rfl | rfl | rfl | rfl | rfl | rfl | rfl <;> exact ⟨_, rfl⟩
theorem LG.g {A : Nat → Prop} {E : GE} {a b : Nat → Nat} {σ : GS} {τ : MS} {H : Heap} (h : LG A E a b σ τ H) : gP E (gW E a σ) H := h.1
theorem LG.s {A : Nat → Prop} {E : GE} {a b : Nat → Nat} {σ : GS} {τ : MS} {H : Heap} (h : LG A E a b σ τ H) : si_P E b τ H := h.2.2.1
theorem LG.alt {A : Nat → Prop} {E : GE} {a b : Nat → Nat} {σ : GS} {τ : MS} {H : Heap} (h : LG A E a b σ τ H) {j : Nat} (hj : j < 14) : a j < H.size ∧ A (a j) := by
  obtain ⟨e, he⟩ := gW_at E a σ hj
  exact ⟨vx_lt h.1 he, h.2.1.2 j _ he⟩
theorem LG.weak {A B : Nat → Prop} {E : GE} {a b : Nat → Nat} {σ : GS} {τ : MS} {H : Heap} (h : LG A E a b σ τ H) (hw : ∀ q, A q → B q) : LG B E a b σ τ H :=
  ⟨h.1, h.2.1.weaken (fun _ _ _ z => hw _ z), h.2.2.1, ⟨fun i hi => hw _ (h.2.2.2.1.1 i hi), h.2.2.2.1.2⟩, h.2.2.2.2⟩
theorem LG.up {A : Nat → Prop} {E : GE} {a b : Nat → Nat} {σ : GS} {τ : MS} {H H1 : Heap} (h : LG A E a b σ τ H) (hq : ∀ q, q < H.size → H1[q]? = H[q]?) : LG A E a b σ τ H1 := ⟨h.1.up hq, h.2.1, h.2.2.1.up hq, h.2.2.2⟩
/-- behind a call that writes the class's garden -/
theorem LG.call {A : Nat → Prop} {E : GE} {a b : Nat → Nat} {σ σ' : GS} {τ : MS} {H H1 : Heap} (h : LG A E a b σ τ H) (hP : gP E (gW E a σ') H1) (hq : ∀ q, q < H.size → ¬ va_A (gW E a σ) H.size q → H1[q]? = H[q]?) : LG A E a b σ' τ H1 := by
  refine ⟨hP, gW_D h.2.1, h.2.2.1.kept (fun i hi => hq _ (h.2.2.1.lt hi) ?_), h.2.2.2⟩
  rintro (⟨k, e, hk⟩ | z)
  · obtain ⟨k1, k2⟩ := gW_ad hk
    exact h.2.2.2.2 i hi k k1 k2
  · exact absurd (h.2.2.1.lt hi) (Nat.not_lt.mpr z)
/-- behind a change of the law's own garden -/
theorem LG.mix {A : Nat → Prop} {E : GE} {a b b' : Nat → Nat} {σ : GS} {τ τ' : MS} {H H1 : Heap} (h : LG A E a b σ τ H) (hG : ∀ q, q < H.size → (∀ i, si_V (mn τ) (mk τ) i → q ≠ b i) → H1[q]? = H[q]?) (hv : ∀ i, si_V (mn τ') (mk τ') i → va_at E.1 vwCl (b' i, si_e E b' τ' i) H1)
    (hb : ∀ i, si_V (mn τ') (mk τ') i → (si_V (mn τ) (mk τ) i ∧ b' i = b i) ∨ (H.size ≤ b' i ∧ A (b' i))) (hi : ∀ i j, si_V (mn τ') (mk τ') i → si_V (mn τ') (mk τ') j → H.size ≤ b' i → b' i = b' j → i = j) : LG A E a b' σ τ' H1 := by
  have hlt : ∀ i, si_V (mn τ) (mk τ) i → b i < H.size := fun i hi => h.2.2.1.lt hi
  refine ⟨va_P.kept h.1 (fun k q hk => ?_), h.2.1, hv, ⟨fun i hi => ?_, fun i j vi vj e => ?_⟩, fun i vi j hj e => ?_⟩
  · obtain ⟨k1, k2⟩ := gW_ad (e := q.2) hk
    exact hG _ (vx_lt h.1 hk) (fun i vi z => h.2.2.2.2 i vi k k1 (by rw [← z, k2]))
  · rcases hb i hi with ⟨v, e⟩ | ⟨_, z⟩
    · rw [e]; exact h.2.2.2.1.1 i v
    · exact z
  · rcases hb i vi with ⟨v, e1⟩ | ⟨z, _⟩
    · rcases hb j vj with ⟨v2, e2⟩ | ⟨z, _⟩
      · exact h.2.2.2.1.2 i j v v2 (by rw [← e1, ← e2]; exact e)
      · exact (hi j i vj vi z e.symm).symm
    · exact hi i j vi vj z e
  · rcases hb i vi with ⟨v, e1⟩ | ⟨z, _⟩
    · exact h.2.2.2.2 i v j hj (by rw [← e1]; exact e)
    · have := (h.alt hj).1; omega
theorem si_kept {E : GE} {b b' : Nat → Nat} {τ τ' : MS} {H H1 : Heap} (h : si_P E b τ H) {i : Nat} (vi : si_V (mn τ) (mk τ) i) (e1 : b' i = b i) (e2 : si_e E b' τ' i = si_e E b τ i) (hq : H1[b i]? = H[b i]?) : va_at E.1 vwCl (b' i, si_e E b' τ' i) H1 := by
  rw [e1, e2]; exact (h i vi).kept hq
theorem si_rowc {E : GE} {b : Nat → Nat} {τ : MS} {H : Heap} {p q : Nat} {f : Nat → Int32} (h : gP E [(q, gI E 4 f)] H) (e : ∀ j, j < 4 → f j = si_row τ p j) : va_at E.1 vwCl (q, si_e E b τ (3 + 2 * p)) H := by
  rw [si_e_p]; exact gP1' (gI_cong h e)
theorem si_rowq {τ τ' : MS} {p : Nat} (e1 : mf τ' p = mf τ p) (e2 : mo τ' p = mo τ p) (e3 : mh τ' p = mh τ p) (e4 : md τ' p = md τ p) : si_row τ' p = si_row τ p := by
  funext j; unfold si_row; rw [e1, e2, e3, e4]
/-- a row of a place is written -/
theorem LG.setP {A : Nat → Prop} {E : GE} {a b : Nat → Nat} {σ : GS} {τ : MS} {H H1 : Heap} (h : LG A E a b σ τ H) {p : Nat} {v : Int32} (hp : p < mn τ) (hk : ∀ q, q ≠ b (3 + 2 * p) → H1[q]? = H[q]?) (w : gP E [(b (3 + 2 * p), gI E 4 (upd (si_row τ p) 3 v))] H1) : LG A E a b σ (mMd τ p v) H1 := by
  have vp : si_V (mn τ) (mk τ) (3 + 2 * p) := Or.inr (Or.inl ⟨p, hp, rfl⟩)
  have ne : ∀ i, si_V (mn τ) (mk τ) i → i ≠ 3 + 2 * p → b i ≠ b (3 + 2 * p) := fun i vi z e => z (h.2.2.2.1.2 i _ vi vp e)
  refine LG.mix (τ' := mMd τ p v) (b' := b) h (fun q _ z => hk q (z _ vp)) (fun i vi => ?_) (fun i vi => Or.inl ⟨vi, rfl⟩) (fun i j vi vj z e => ?_)
  · by_cases c : i = 3 + 2 * p
    · subst c
      refine si_rowc (τ := mMd τ p v) w (fun j hj => ?_)
      rcases (show j = 0 ∨ j = 1 ∨ j = 2 ∨ j = 3 by omega) with rfl | rfl | rfl | rfl
      · rfl
      · rfl
      · rfl
      · rw [pk_us, si_r3]; exact pk_us.symm
    · refine si_kept (τ := τ) h.2.2.1 vi rfl ?_ (hk _ (ne i vi c))
      rcases vi with vi | ⟨p', hp', rfl⟩ | ⟨t, ht, rfl⟩
      · rcases (show i = 0 ∨ i = 1 ∨ i = 2 by omega) with rfl | rfl | rfl <;> rfl
      · rw [si_e_p, si_e_p, si_rowq (τ := τ) (τ' := mMd τ p v) rfl rfl rfl (pk_un (by omega))]
      · rw [si_e_t, si_e_t]; rfl
  · have := h.2.2.1.lt (i := i) vi; omega
/-- a place more -/
theorem LG.addP {A : Nat → Prop} {E : GE} {a b : Nat → Nat} {σ : GS} {τ τ' : MS} {H H1 : Heap} (h : LG A E a b σ τ H) {q1 ra : Nat} {f : Nat → Int32} (hq : H.size ≤ q1) (hr : H.size ≤ ra) (hne : q1 ≠ ra) (hA : ∀ q, H.size ≤ q → A q) (hk : ∀ q, q < H.size → q ≠ b 0 → H1[q]? = H[q]?) (o : gP E [(b 0, .inr (1, [.ref ra, .ref (b 2)]))] H1)
    (r : gP E [(ra, gR E (mn τ + 1) (va_up (fun p => b (3 + 2 * p)) (mn τ) q1))] H1) (w : gP E [(q1, gI E 4 f)] H1) (e1 : mn τ' = mn τ + 1) (e2 : mk τ' = mk τ) (e3 : ∀ p, p < mn τ → si_row τ' p = si_row τ p) (e4 : ∀ j, j < 4 → f j = si_row τ' (mn τ) j) (e5 : mp τ' = mp τ ∧ si_stu τ' = si_stu τ) : LG A E a (va_up (va_up b 1 ra) (3 + 2 * mn τ) q1) σ τ' H1 := by
  have v0 : si_V (mn τ) (mk τ) 0 := Or.inl (by omega)
  have u1 : ∀ i, i ≠ 1 → i ≠ 3 + 2 * mn τ → va_up (va_up b 1 ra) (3 + 2 * mn τ) q1 i = b i := fun i z1 z2 => by rw [up_n z2, up_n z1]
  have u2 : va_up (va_up b 1 ra) (3 + 2 * mn τ) q1 1 = ra := by rw [up_n (by omega)]; exact up_s
  have ne : ∀ i, si_V (mn τ) (mk τ) i → i ≠ 0 → b i ≠ b 0 := fun i vi z e => z (h.2.2.2.1.2 i 0 vi v0 e)
  have kp : ∀ i, si_V (mn τ) (mk τ) i → i ≠ 0 → H1[b i]? = H[b i]? := fun i vi z => hk _ (h.2.2.1.lt vi) (ne i vi z)
  have cs : ∀ i, si_V (mn τ') (mk τ') i → i = 0 ∨ i = 1 ∨ i = 2 ∨ i = 3 + 2 * mn τ ∨ (∃ p, p < mn τ ∧ i = 3 + 2 * p) ∨ ∃ t, t < mk τ ∧ i = 4 + 2 * t := by
    intro i vi
    rw [e1, e2] at vi
    rcases vi with vi | ⟨p, hp, rfl⟩ | ⟨t, ht, rfl⟩
    · omega
    · by_cases c : p = mn τ
      · subst c; exact Or.inr (Or.inr (Or.inr (Or.inl rfl)))
      · exact Or.inr (Or.inr (Or.inr (Or.inr (Or.inl ⟨p, by omega, rfl⟩))))
    · exact Or.inr (Or.inr (Or.inr (Or.inr (Or.inr ⟨t, ht, rfl⟩))))
  refine h.mix (fun q z1 z2 => hk q z1 (z2 0 v0)) (fun i vi => ?_) (fun i vi => ?_) (fun i j vi vj z e => ?_)
  · rcases cs i vi with rfl | rfl | rfl | rfl | ⟨p, hp, rfl⟩ | ⟨t, ht, rfl⟩
    · have o' := gP1' o
      rw [u1 0 (by omega) (by omega)]
      show va_at E.1 vwCl (b 0, .inr (1, [.ref (va_up (va_up b 1 ra) (3 + 2 * mn τ) q1 1), .ref (va_up (va_up b 1 ra) (3 + 2 * mn τ) q1 2)])) H1
      rw [u2, u1 2 (by omega) (by omega)]; exact o'
    · rw [u2]
      show va_at E.1 vwCl (ra, gR E (mn τ') (fun p => va_up (va_up b 1 ra) (3 + 2 * mn τ) q1 (3 + 2 * p))) H1
      rw [e1]
      refine gP1' (gR_cong r (fun j hj => ?_))
      dsimp only
      by_cases c : j = mn τ
      · subst c; rw [show va_up (fun p => b (3 + 2 * p)) (mn τ) q1 (mn τ) = q1 from up_s, show va_up (va_up b 1 ra) (3 + 2 * mn τ) q1 (3 + 2 * mn τ) = q1 from up_s]
      · rw [up_n c, u1 _ (by omega) (by omega)]
    · rw [u1 2 (by omega) (by omega)]
      show va_at E.1 vwCl (b 2, gR E (mk τ') (fun t => va_up (va_up b 1 ra) (3 + 2 * mn τ) q1 (4 + 2 * t))) H1
      rw [e2, show (fun t => va_up (va_up b 1 ra) (3 + 2 * mn τ) q1 (4 + 2 * t)) = fun t => b (4 + 2 * t) from funext fun t => u1 _ (by omega) (by omega)]
      exact (h.2.2.1 2 (Or.inl (by omega))).kept (kp 2 (Or.inl (by omega)) (by omega))
    · rw [show va_up (va_up b 1 ra) (3 + 2 * mn τ) q1 (3 + 2 * mn τ) = q1 from up_s]
      exact si_rowc w e4
    · have vp : si_V (mn τ) (mk τ) (3 + 2 * p) := Or.inr (Or.inl ⟨p, hp, rfl⟩)
      refine si_kept (τ := τ) h.2.2.1 vp (u1 _ (by omega) (by omega)) ?_ (kp _ vp (by omega))
      rw [si_e_p, si_e_p, e3 p hp]
    · have vt : si_V (mn τ) (mk τ) (4 + 2 * t) := Or.inr (Or.inr ⟨t, ht, rfl⟩)
      refine si_kept (τ := τ) h.2.2.1 vt (u1 _ (by omega) (by omega)) ?_ (kp _ vt (by omega))
      rw [si_e_t, si_e_t, e5.1, e5.2]
  · rcases cs i vi with rfl | rfl | rfl | rfl | ⟨p, hp, rfl⟩ | ⟨t, ht, rfl⟩
    · exact Or.inl ⟨v0, u1 _ (by omega) (by omega)⟩
    · rw [u2]; exact Or.inr ⟨hr, hA _ hr⟩
    · exact Or.inl ⟨Or.inl (by omega), u1 _ (by omega) (by omega)⟩
    · rw [show va_up (va_up b 1 ra) (3 + 2 * mn τ) q1 (3 + 2 * mn τ) = q1 from up_s]; exact Or.inr ⟨hq, hA _ hq⟩
    · exact Or.inl ⟨Or.inr (Or.inl ⟨p, hp, rfl⟩), u1 _ (by omega) (by omega)⟩
    · exact Or.inl ⟨Or.inr (Or.inr ⟨t, ht, rfl⟩), u1 _ (by omega) (by omega)⟩
  · have old : ∀ i, si_V (mn τ') (mk τ') i → i ≠ 1 → i ≠ 3 + 2 * mn τ → va_up (va_up b 1 ra) (3 + 2 * mn τ) q1 i < H.size := by
      intro i vi z1 z2
      rw [u1 i z1 z2]
      rcases cs i vi with rfl | rfl | rfl | rfl | ⟨p, hp, rfl⟩ | ⟨t, ht, rfl⟩
      · exact h.2.2.1.lt v0
      · omega
      · exact h.2.2.1.lt (Or.inl (by omega))
      · omega
      · exact h.2.2.1.lt (Or.inr (Or.inl ⟨p, hp, rfl⟩))
      · exact h.2.2.1.lt (Or.inr (Or.inr ⟨t, ht, rfl⟩))
    have s1 : va_up (va_up b 1 ra) (3 + 2 * mn τ) q1 (3 + 2 * mn τ) = q1 := up_s
    by_cases c1 : i = 1
    · subst c1
      rw [u2] at e z
      by_cases c2 : j = 1
      · exact c2.symm
      · by_cases c3 : j = 3 + 2 * mn τ
        · subst c3; rw [s1] at e; exact absurd e.symm hne
        · have := old j vj c2 c3; omega
    · by_cases c2 : i = 3 + 2 * mn τ
      · subst c2
        rw [s1] at e z
        by_cases c2 : j = 1
        · subst c2; rw [u2] at e; exact absurd e hne
        · by_cases c3 : j = 3 + 2 * mn τ
          · exact c3.symm
          · have := old j vj c2 c3; omega
      · have := old i vi c1 c2; omega
/-- a student more -/
theorem LG.addT {A : Nat → Prop} {E : GE} {a b : Nat → Nat} {σ : GS} {τ τ' : MS} {H H1 : Heap} (h : LG A E a b σ τ H) {q1 ra : Nat} {f : Nat → Int32} (hq : H.size ≤ q1) (hr : H.size ≤ ra) (hne : q1 ≠ ra) (hA : ∀ q, H.size ≤ q → A q) (hk : ∀ q, q < H.size → q ≠ b 0 → H1[q]? = H[q]?) (o : gP E [(b 0, .inr (1, [.ref (b 1), .ref ra]))] H1)
    (r : gP E [(ra, gR E (mk τ + 1) (va_up (fun t => b (4 + 2 * t)) (mk τ) q1))] H1) (w : gP E [(q1, gI E (mp τ' (mk τ) + 1) f)] H1) (e1 : mn τ' = mn τ) (e2 : mk τ' = mk τ + 1) (e3 : si_row τ' = si_row τ) (e4 : ∀ j, j < mp τ' (mk τ) + 1 → f j = nI (si_stu τ' (mk τ) j)) (e5 : ∀ t, t < mk τ → mp τ' t = mp τ t ∧ si_stu τ' t = si_stu τ t) : LG A E a (va_up (va_up b 2 ra) (4 + 2 * mk τ) q1) σ τ' H1 := by
  have v0 : si_V (mn τ) (mk τ) 0 := Or.inl (by omega)
  have u1 : ∀ i, i ≠ 2 → i ≠ 4 + 2 * mk τ → va_up (va_up b 2 ra) (4 + 2 * mk τ) q1 i = b i := fun i z1 z2 => by rw [up_n z2, up_n z1]
  have u2 : va_up (va_up b 2 ra) (4 + 2 * mk τ) q1 2 = ra := by rw [up_n (by omega)]; exact up_s
  have ne : ∀ i, si_V (mn τ) (mk τ) i → i ≠ 0 → b i ≠ b 0 := fun i vi z e => z (h.2.2.2.1.2 i 0 vi v0 e)
  have kp : ∀ i, si_V (mn τ) (mk τ) i → i ≠ 0 → H1[b i]? = H[b i]? := fun i vi z => hk _ (h.2.2.1.lt vi) (ne i vi z)
  have cs : ∀ i, si_V (mn τ') (mk τ') i → i = 0 ∨ i = 1 ∨ i = 2 ∨ i = 4 + 2 * mk τ ∨ (∃ p, p < mn τ ∧ i = 3 + 2 * p) ∨ ∃ t, t < mk τ ∧ i = 4 + 2 * t := by
    intro i vi
    rw [e1, e2] at vi
    rcases vi with vi | ⟨p, hp, rfl⟩ | ⟨t, ht, rfl⟩
    · omega
    · exact Or.inr (Or.inr (Or.inr (Or.inr (Or.inl ⟨p, hp, rfl⟩))))
    · by_cases c : t = mk τ
      · subst c; exact Or.inr (Or.inr (Or.inr (Or.inl rfl)))
      · exact Or.inr (Or.inr (Or.inr (Or.inr (Or.inr ⟨t, by omega, rfl⟩))))
  refine h.mix (fun q z1 z2 => hk q z1 (z2 0 v0)) (fun i vi => ?_) (fun i vi => ?_) (fun i j vi vj z e => ?_)
  · rcases cs i vi with rfl | rfl | rfl | rfl | ⟨p, hp, rfl⟩ | ⟨t, ht, rfl⟩
    · have o' := gP1' o
      rw [u1 0 (by omega) (by omega)]
      show va_at E.1 vwCl (b 0, .inr (1, [.ref (va_up (va_up b 2 ra) (4 + 2 * mk τ) q1 1), .ref (va_up (va_up b 2 ra) (4 + 2 * mk τ) q1 2)])) H1
      rw [u2, u1 1 (by omega) (by omega)]; exact o'
    · rw [u1 1 (by omega) (by omega)]
      show va_at E.1 vwCl (b 1, gR E (mn τ') (fun p => va_up (va_up b 2 ra) (4 + 2 * mk τ) q1 (3 + 2 * p))) H1
      rw [e1, show (fun p => va_up (va_up b 2 ra) (4 + 2 * mk τ) q1 (3 + 2 * p)) = fun p => b (3 + 2 * p) from funext fun t => u1 _ (by omega) (by omega)]
      exact (h.2.2.1 1 (Or.inl (by omega))).kept (kp 1 (Or.inl (by omega)) (by omega))
    · rw [u2]
      show va_at E.1 vwCl (ra, gR E (mk τ') (fun t => va_up (va_up b 2 ra) (4 + 2 * mk τ) q1 (4 + 2 * t))) H1
      rw [e2]
      refine gP1' (gR_cong r (fun j hj => ?_))
      dsimp only
      by_cases c : j = mk τ
      · subst c; rw [show va_up (fun p => b (4 + 2 * p)) (mk τ) q1 (mk τ) = q1 from up_s, show va_up (va_up b 2 ra) (4 + 2 * mk τ) q1 (4 + 2 * mk τ) = q1 from up_s]
      · rw [up_n c, u1 _ (by omega) (by omega)]
    · rw [show va_up (va_up b 2 ra) (4 + 2 * mk τ) q1 (4 + 2 * mk τ) = q1 from up_s, si_e_t]
      exact gP1' (gI_cong w e4)
    · have vp : si_V (mn τ) (mk τ) (3 + 2 * p) := Or.inr (Or.inl ⟨p, hp, rfl⟩)
      refine si_kept (τ := τ) h.2.2.1 vp (u1 _ (by omega) (by omega)) ?_ (kp _ vp (by omega))
      rw [si_e_p, si_e_p, e3]
    · have vt : si_V (mn τ) (mk τ) (4 + 2 * t) := Or.inr (Or.inr ⟨t, ht, rfl⟩)
      refine si_kept (τ := τ) h.2.2.1 vt (u1 _ (by omega) (by omega)) ?_ (kp _ vt (by omega))
      rw [si_e_t, si_e_t, (e5 t ht).1, (e5 t ht).2]
  · rcases cs i vi with rfl | rfl | rfl | rfl | ⟨p, hp, rfl⟩ | ⟨t, ht, rfl⟩
    · exact Or.inl ⟨v0, u1 _ (by omega) (by omega)⟩
    · exact Or.inl ⟨Or.inl (by omega), u1 _ (by omega) (by omega)⟩
    · rw [u2]; exact Or.inr ⟨hr, hA _ hr⟩
    · rw [show va_up (va_up b 2 ra) (4 + 2 * mk τ) q1 (4 + 2 * mk τ) = q1 from up_s]; exact Or.inr ⟨hq, hA _ hq⟩
    · exact Or.inl ⟨Or.inr (Or.inl ⟨p, hp, rfl⟩), u1 _ (by omega) (by omega)⟩
    · exact Or.inl ⟨Or.inr (Or.inr ⟨t, ht, rfl⟩), u1 _ (by omega) (by omega)⟩
  · have old : ∀ i, si_V (mn τ') (mk τ') i → i ≠ 2 → i ≠ 4 + 2 * mk τ → va_up (va_up b 2 ra) (4 + 2 * mk τ) q1 i < H.size := by
      intro i vi z1 z2
      rw [u1 i z1 z2]
      rcases cs i vi with rfl | rfl | rfl | rfl | ⟨p, hp, rfl⟩ | ⟨t, ht, rfl⟩
      · exact h.2.2.1.lt v0
      · exact h.2.2.1.lt (Or.inl (by omega))
      · omega
      · omega
      · exact h.2.2.1.lt (Or.inr (Or.inl ⟨p, hp, rfl⟩))
      · exact h.2.2.1.lt (Or.inr (Or.inr ⟨t, ht, rfl⟩))
    have s1 : va_up (va_up b 2 ra) (4 + 2 * mk τ) q1 (4 + 2 * mk τ) = q1 := up_s
    by_cases c1 : i = 2
    · subst c1
      rw [u2] at e z
      by_cases c2 : j = 2
      · exact c2.symm
      · by_cases c3 : j = 4 + 2 * mk τ
        · subst c3; rw [s1] at e; exact absurd e.symm hne
        · have := old j vj c2 c3; omega
    · by_cases c2 : i = 4 + 2 * mk τ
      · subst c2
        rw [s1] at e z
        by_cases c2 : j = 2
        · subst c2; rw [u2] at e; exact absurd e hne
        · by_cases c3 : j = 4 + 2 * mk τ
          · exact c3.symm
          · have := old j vj c2 c3; omega
      · have := old i vi c1 c2; omega
/-- a student's row anew -/
theorem LG.setT {A : Nat → Prop} {E : GE} {a b : Nat → Nat} {σ : GS} {τ τ' : MS} {H H1 : Heap} (h : LG A E a b σ τ H) {t ra : Nat} {f : Nat → Int32} (ht : t < mk τ) (hr : H.size ≤ ra) (hA : ∀ q, H.size ≤ q → A q) (hk : ∀ q, q < H.size → q ≠ b 2 → H1[q]? = H[q]?) (o : gP E [(b 2, gRo E (mk τ) (va_up (fun t => some (b (4 + 2 * t))) t (some ra)))] H1)
    (w : gP E [(ra, gI E (mp τ' t + 1) f)] H1) (e1 : mn τ' = mn τ) (e2 : mk τ' = mk τ) (e3 : si_row τ' = si_row τ) (e4 : ∀ j, j < mp τ' t + 1 → f j = nI (si_stu τ' t j)) (e5 : ∀ t', t' < mk τ → t' ≠ t → mp τ' t' = mp τ t' ∧ si_stu τ' t' = si_stu τ t') : LG A E a (va_up b (4 + 2 * t) ra) σ τ' H1 := by
  have v2 : si_V (mn τ) (mk τ) 2 := Or.inl (by omega)
  have vt : si_V (mn τ) (mk τ) (4 + 2 * t) := Or.inr (Or.inr ⟨t, ht, rfl⟩)
  have u1 : ∀ i, i ≠ 4 + 2 * t → va_up b (4 + 2 * t) ra i = b i := fun i z => up_n z
  have s1 : va_up b (4 + 2 * t) ra (4 + 2 * t) = ra := up_s
  have kp : ∀ i, si_V (mn τ) (mk τ) i → i ≠ 2 → H1[b i]? = H[b i]? := fun i vi z => hk _ (h.2.2.1.lt vi) (fun e => z (h.2.2.2.1.2 i 2 vi v2 e))
  have vv : ∀ i, si_V (mn τ') (mk τ') i → si_V (mn τ) (mk τ) i := fun i vi => by rw [e1, e2] at vi; exact vi
  refine h.mix (fun q z1 z2 => hk q z1 (z2 2 v2)) (fun i vi => ?_) (fun i vi => ?_) (fun i j vi vj z e => ?_)
  · have vi := vv i vi
    by_cases c : i = 4 + 2 * t
    · subst c; rw [s1, si_e_t]; exact gP1' (gI_cong w e4)
    · by_cases c2 : i = 2
      · subst c2
        rw [u1 2 (by omega)]
        show va_at E.1 vwCl (b 2, gR E (mk τ') (fun x => va_up b (4 + 2 * t) ra (4 + 2 * x))) H1
        rw [e2]
        refine gP1' (gR_cong o (fun j hj => ?_))
        dsimp only
        by_cases c3 : j = t
        · subst c3; rw [show va_up (fun t => some (b (4 + 2 * t))) j (some ra) j = some ra from up_s, s1]
        · rw [up_n c3, u1 _ (by omega)]
      · refine si_kept (τ := τ) h.2.2.1 vi (u1 i c) ?_ (kp i vi c2)
        rcases vi with vi | ⟨p, hp, rfl⟩ | ⟨x, hx, rfl⟩
        · rcases (show i = 0 ∨ i = 1 by omega) with rfl | rfl
          · show (.inr (1, [.ref (va_up b (4 + 2 * t) ra 1), .ref (va_up b (4 + 2 * t) ra 2)]) : va_E) = .inr (1, [.ref (b 1), .ref (b 2)])
            rw [u1 1 (by omega), u1 2 (by omega)]
          · show gR E (mn τ') (fun p => va_up b (4 + 2 * t) ra (3 + 2 * p)) = gR E (mn τ) (fun p => b (3 + 2 * p))
            rw [e1, show (fun p => va_up b (4 + 2 * t) ra (3 + 2 * p)) = fun p => b (3 + 2 * p) from funext fun p => u1 _ (by omega)]
        · rw [si_e_p, si_e_p, e3]
        · rw [si_e_t, si_e_t, (e5 x hx (by omega)).1, (e5 x hx (by omega)).2]
  · have vi := vv i vi
    by_cases c : i = 4 + 2 * t
    · subst c; rw [s1]; exact Or.inr ⟨hr, hA _ hr⟩
    · exact Or.inl ⟨vi, u1 i c⟩
  · have old : ∀ i, si_V (mn τ') (mk τ') i → i ≠ 4 + 2 * t → va_up b (4 + 2 * t) ra i < H.size := fun i vi z => by rw [u1 i z]; exact h.2.2.1.lt (vv i vi)
    by_cases c1 : i = 4 + 2 * t
    · by_cases c2 : j = 4 + 2 * t
      · rw [c1, c2]
      · have := old j vj c2; omega
    · have := old i vi c1; omega
