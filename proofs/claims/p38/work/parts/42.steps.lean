theorem up_n {α : Type} {f : Nat → α} {k j : Nat} {v : α} (h : j ≠ k) : va_up f k v j = f j := if_neg h
theorem up_s {α : Type} {f : Nat → α} {k : Nat} {v : α} : va_up f k v k = v := if_pos rfl
def AGg (σ σ' : GS) (q : Nat) : Prop := grb σ' q = grb σ q ∧ gEx (ge σ') q = gEx (ge σ) q ∧ glo σ' q = glo σ q ∧ ghi σ' q = ghi σ q ∧ ggr σ' q = ggr σ q ∧ gwt σ' q = gwt σ q ∧ glf σ' q = glf σ q ∧ grt σ' q = grt σ q ∧ gsu σ' q = gsu σ q ∧ gho σ' q = gho σ q ∧ ghs σ' q = ghs σ q
def AGm (τ τ' : MS) (q : Nat) : Prop := mf τ' q = mf τ q ∧ mo τ' q = mo τ q ∧ mh τ' q = mh τ q ∧ md τ' q = md τ q ∧ mr τ' q = mr τ q
theorem RP.cg {σ σ' : GS} {τ τ' : MS} {p : Nat} (h : RP σ τ p) (a : ∀ q, q ≤ p → AGg σ σ' q) (b : ∀ q, q ≤ p → AGm τ τ' q) : RP σ' τ' p := by
  obtain ⟨a1, a2, a3, a4, a5, a6, a7, a8, a9, a10, a11⟩ := a p (Nat.le_refl _)
  obtain ⟨b1, b2, b3, b4, b5⟩ := b p (Nat.le_refl _)
  obtain ⟨h1, h2, h3, h4⟩ := h
  refine ⟨by rw [a1, b5]; exact h1, by rw [a2, b1]; exact h2, fun q => ?_, fun q => ?_⟩
  · rw [b1] at q
    obtain ⟨c1, c2, c3, c4, c5, c6, c7, c8, c9, c10⟩ := h3 q
    obtain ⟨_, _, _, _, _, _, _, _, x9, x10, x11⟩ := a (mo τ p) (Nat.le_of_lt c3)
    obtain ⟨_, _, _, _, _, _, _, _, y9, y10, y11⟩ := a (mh τ p) (Nat.le_of_lt c4)
    refine ⟨?_, ?_, ?_, ?_, ?_, ?_, ?_, ?_, ?_, fun o => ?_⟩
    · rw [a7, b2, c1]
    · rw [a8, b3, c2]
    · rw [b2]; exact c3
    · rw [b3]; exact c4
    · rw [a6, b4, c5]
    · rw [a5, c6]
    · rw [a9, b2, b3, x9, y9, c7]
    · rw [a10, b2, b3, x10, y10, c8]
    · rw [a11, b2, b3, x11, y11, c9]
    · rw [b5, b2, b3, (b _ (Nat.le_of_lt c3)).2.2.2.2, (b _ (Nat.le_of_lt c4)).2.2.2.2, c10]
  · rw [b1] at q
    obtain ⟨c1, c2, c3, c4, c5, c6, c7, c8, c9, c10⟩ := h4 q
    refine ⟨?_, ?_, ?_, ?_, ?_, ?_, ?_, ?_, ?_, fun o => ?_⟩
    · rw [a3, b2, c1]
    · rw [a4, b3, c2]
    · rw [b2]; exact c3
    · rw [b3]; exact c4
    · rw [a5, b4, c5]
    · rw [b4]; exact c6
    · rw [a9, b4, b2, c7]
    · rw [a10, b4, b3, c8]
    · rw [a11, b4, c9]
    · rw [b5, c10]
theorem gEx_or {x : Int64} {n q : Nat} (hn : n < 64) (hq : q < 64) : gEx (x ||| gbit n) q = (gEx x q || decide (q = n)) := by rw [gEx_bl _ hq, gEx_bl _ hq, bl_or, bl_bit hn]
theorem sum_one {f f' : Nat → Int32} {e : Nat} : ∀ {n : Nat}, e < n → (∀ k, k < n → k ≠ e → f' k = f k) → f e = 0 → sumI f' n = sumI f n + f' e
  | 0, h, _, _ => by omega
  | n + 1, h, q, z => by
    rw [sumI, sumI]
    by_cases c : n = e
    · subst c
      rw [sum_cong (fun k hk => q k (by omega) (by omega)), z, Int32.add_zero]
    · rw [sum_one (by omega) (fun k hk => q k (by omega)) z, q n (by omega) c, Int32.add_assoc, Int32.add_comm (f' e), ← Int32.add_assoc]
theorem RR.init : RR gS0 mS0 := by
  refine ⟨⟨by decide, by decide, rfl, rfl⟩, fun p hp => absurd hp (Nat.not_lt_zero _), fun _ _ => rfl, fun p _ h => ?_, ⟨fun _ => ?_, fun _ => ?_, fun _ => ?_, fun _ => ?_⟩, ⟨rfl, rfl, rfl, fun _ _ => rfl, fun s hs => absurd hs (Nat.not_lt_zero _), fun s j hj => absurd hj (Nat.not_lt_zero _), fun _ => ?_, fun _ => ?_, fun _ => ?_⟩, rfl, rfl⟩
  · rw [gEx_bl _ h]; exact bl_0 p
  all_goals first | exact (by decide : (0 : Nat) < 40) | exact (by decide : (0 : Nat) + 0 ≤ 39)
theorem gd_cong {τ τ' : MS} {q : Nat} (h : AGm τ τ' q) : mGd τ' q = mGd τ q := by rw [mGd, mGd, h.1, h.2.2.2.1]
theorem gn_one {τ τ' : MS} (hn : mn τ' = mn τ + 1) (h : ∀ q, q < mn τ → AGm τ τ' q) (hg : mGd τ' (mn τ) = false) : mGn τ' = mGn τ ∧ mSum τ' = mSum τ := by
  refine ⟨?_, ?_⟩
  · rw [mGn, hn, sumI, hg]
    show _ + (0 : Int32) = _
    rw [Int32.add_zero]
    exact sum_cong (fun q hq => by rw [gd_cong (h q hq)])
  · rw [mSum, hn, sumI, hg]
    show _ + (0 : Int32) = _
    rw [Int32.add_zero]
    exact sum_cong (fun q hq => by rw [gd_cong (h q hq), (h q hq).2.2.2.1])
theorem RR.addE {σ : GS} {τ : MS} (h : RR σ τ) {x y : Nat} (hx : x ≤ 20) (hy : y ≤ 20) (hn : mn τ < 40) : RR (gAddE σ x y) (mAddE τ x y) := by
  have n0 := h.n
  have ag : ∀ q, q < mn τ → AGg σ (gAddE σ x y) q := fun q hq =>
    have c : q ≠ gn σ := by omega
    ⟨pk_uLn c, (gEx_or (by omega) (by omega)).trans (by rw [decide_eq_false c, Bool.or_false]), up_n c, up_n c, pk_un c, rfl, rfl, rfl, pk_un c, pk_un c, pk_un c⟩
  have am : ∀ q, q < mn τ → AGm τ (mAddE τ x y) q := fun q hq =>
    have c : q ≠ mn τ := by omega
    ⟨rfl, up_n c, up_n c, pk_un c, pk_uLn c⟩
  have f0 : mf τ (mn τ) = false := h.2.2.1 _ (Nat.le_refl _)
  have d0 : md (mAddE τ x y) (mn τ) = -1 := pk_us
  obtain ⟨s1, s2⟩ := gn_one (τ' := mAddE τ x y) rfl am (by rw [mGd, d0, decide_eq_true rfl, Bool.not_true, Bool.and_false])
  refine ⟨⟨by show mn τ + 1 ≤ 40; omega, h.1.2.1, by show gn σ + 1 = mn τ + 1; rw [n0], h.k⟩, fun p hp => ?_, fun p hp => h.2.2.1 p (Nat.le_trans (Nat.le_succ _) hp), fun p hp h64 => ?_, ⟨h.2.2.2.2.1.1, h.2.2.2.2.1.2.1, fun j => ?_, fun j => ?_⟩, ?_, h.2.2.2.2.2.2.1.trans s1.symm, h.2.2.2.2.2.2.2.trans s2.symm⟩
  · by_cases c : p < mn τ
    · exact (h.2.1 p c).cg (fun q hq => ag q (by omega)) (fun q hq => am q (by omega))
    · obtain rfl : p = mn τ := by have : p < mn τ + 1 := hp; omega
      have e1 : gHas (gn σ, gk σ, gc σ, gs σ, ge σ ||| gbit (gn σ), glf σ, grt σ, gst σ, gpc σ, gpf σ, va_up (glo σ) (gn σ) x, va_up (ghi σ) (gn σ) y, gwt σ, upd (ggr σ) (gn σ) (-1), gsu σ, gho σ, ghs σ, vp_updL (grb σ) (gn σ) (gbit (gn σ))) (gn σ) = false := by
        rw [gHas]
        show (!decide (upd (ggr σ) (gn σ) (-1) (gn σ) = -1)) = false
        rw [pk_us]; rfl
      have g1 : ∀ {f : Nat → Int32} {v : Int32}, upd f (gn σ) v (mn τ) = v := fun {f v} => by rw [n0]; exact pk_us
      have g2 : ∀ {f : Nat → Nat} {v : Nat}, va_up f (gn σ) v (mn τ) = v := fun {f v} => by rw [n0]; exact up_s
      refine ⟨?_, ?_, fun q => ?_, fun _ => ⟨g2.trans up_s.symm, g2.trans up_s.symm, ?_, ?_, g1.trans pk_us.symm, Or.inl pk_us, ?_, ?_, ?_, fun o => ?_⟩⟩
      · show vp_updL (grb σ) (gn σ) (gbit (gn σ)) (mn τ) = vp_updL (mr τ) (mn τ) (gbit (mn τ)) (mn τ)
        rw [n0, pk_uLs, pk_uLs]
      · show gEx (ge σ ||| gbit (gn σ)) (mn τ) = !mf τ (mn τ)
        rw [gEx_or (by omega) (by omega), decide_eq_true n0.symm, Bool.or_true, f0]; rfl
      · rw [show mf (mAddE τ x y) (mn τ) = mf τ (mn τ) from rfl, f0] at q; cases q
      · rw [show mo (mAddE τ x y) (mn τ) = x from up_s]; exact hx
      · rw [show mh (mAddE τ x y) (mn τ) = y from up_s]; exact hy
      · rw [d0, if_pos rfl, show mo (mAddE τ x y) (mn τ) = x from up_s]
        refine g1.trans ?_
        rw [e1, if_neg (by decide)]; exact congrArg nI up_s
      · rw [d0, if_pos rfl, show mh (mAddE τ x y) (mn τ) = y from up_s]
        refine g1.trans ?_
        rw [e1, if_neg (by decide)]; exact congrArg nI up_s
      · rw [d0, if_pos rfl]
        refine g1.trans ?_
        rw [e1, if_neg (by decide)]
      · rw [show mr (mAddE τ x y) (mn τ) = gbit (mn τ) from pk_uLs, bl_bit (by omega)]
  · show gEx (ge σ ||| gbit (gn σ)) p = false
    have hp : mn τ + 1 ≤ p := hp
    rw [gEx_or (by omega) h64, h.2.2.2.1 p (by omega) h64, decide_eq_false (by omega)]; rfl
  · show va_up (mo τ) (mn τ) x j < 40
    unfold va_up; split
    · omega
    · exact h.2.2.2.2.1.2.2.1 j
  · show va_up (mh τ) (mn τ) y j < 40
    unfold va_up; split
    · omega
    · exact h.2.2.2.2.1.2.2.2 j
  · obtain ⟨r1, r2, r3, r4, r5, r6, r7, r8, r9⟩ := h.2.2.2.2.2.1
    exact ⟨r1, r2, r3, r4, fun s hs => Nat.lt_succ_of_lt (r5 s hs), r6, r7, r8, r9⟩
theorem RR.addF {σ : GS} {τ : MS} (h : RR σ τ) {x y : Nat} (hx : x < mn τ) (hy : y < mn τ) (w : Int32) (hn : mn τ < 40) : RR (gAddF σ x y w) (mAddF τ x y w) := by
  have n0 := h.n
  have f0 : mf τ (mn τ) = false := h.2.2.1 _ (Nat.le_refl _)
  have ag : ∀ q, q < mn τ → AGg σ (gAddF σ x y w) q := fun q hq =>
    have c : q ≠ gn σ := by omega
    ⟨pk_uLn c, rfl, rfl, rfl, pk_un c, pk_un c, up_n c, up_n c, pk_un c, pk_un c, pk_un c⟩
  have am : ∀ q, q < mn τ → AGm τ (mAddF τ x y w) q := fun q hq =>
    have c : q ≠ mn τ := by omega
    ⟨up_n c, up_n c, up_n c, pk_un c, pk_uLn c⟩
  have m0 : mf (mAddF τ x y w) (mn τ) = true := up_s
  obtain ⟨s1, s2⟩ := gn_one (τ' := mAddF τ x y w) rfl am (by rw [mGd, m0]; rfl)
  have mfk : ∀ q, mf τ q = true → mf (mAddF τ x y w) q = true := fun q hq => by
    show va_up (mf τ) (mn τ) true q = true
    unfold va_up; split
    · rfl
    · exact hq
  refine ⟨⟨by show mn τ + 1 ≤ 40; omega, h.1.2.1, by show gn σ + 1 = mn τ + 1; rw [n0], h.k⟩, fun p hp => ?_, fun p hp => ?_, fun p hp h64 => ?_, ⟨fun j => ?_, fun j => ?_, fun j => ?_, fun j => ?_⟩, ?_, h.2.2.2.2.2.2.1.trans s1.symm, h.2.2.2.2.2.2.2.trans s2.symm⟩
  · by_cases c : p < mn τ
    · exact (h.2.1 p c).cg (fun q hq => ag q (by omega)) (fun q hq => am q (by omega))
    · obtain rfl : p = mn τ := by have : p < mn τ + 1 := hp; omega
      have g1 : ∀ {f : Nat → Int32} {v : Int32}, upd f (gn σ) v (mn τ) = v := fun {f v} => by rw [n0]; exact pk_us
      have g2 : ∀ {f : Nat → Nat} {v : Nat}, va_up f (gn σ) v (mn τ) = v := fun {f v} => by rw [n0]; exact up_s
      have o1 : mo (mAddF τ x y w) (mn τ) = x := up_s
      have o2 : mh (mAddF τ x y w) (mn τ) = y := up_s
      have l1 : glf (gAddF σ x y w) (gn σ) = x := up_s
      have l2 : grt (gAddF σ x y w) (gn σ) = y := up_s
      have r1 : ∀ q, q < mn τ → mr (mAddF τ x y w) q = mr τ q := fun q hq => (am q hq).2.2.2.2
      refine ⟨?_, ?_, fun _ => ⟨g2.trans up_s.symm, g2.trans up_s.symm, by rw [o1]; exact hx, by rw [o2]; exact hy, g1.trans pk_us.symm, g1, ?_, ?_, ?_, fun o => ?_⟩, fun q => ?_⟩
      · show vp_updL (grb σ) (gn σ) ((gbit (gn σ) ||| grb σ x) ||| grb σ y) (mn τ) = vp_updL (mr τ) (mn τ) ((mr τ x ||| mr τ y) ||| gbit (mn τ)) (mn τ)
        rw [n0, pk_uLs, pk_uLs, (h.2.1 x hx).1, (h.2.1 y hy).1]
        refine bl_ext (fun o _ => ?_)
        rw [bl_or, bl_or, bl_or, bl_or]
        cases bitL (gbit (mn τ)) o <;> cases bitL (mr τ x) o <;> cases bitL (mr τ y) o <;> rfl
      · show gEx (ge σ) (mn τ) = !mf (mAddF τ x y w) (mn τ)
        rw [m0, h.2.2.2.1 _ (Nat.le_refl _) (by omega)]; rfl
      · rw [o1, o2, (ag x hx).2.2.2.2.2.2.2.2.1, (ag y hy).2.2.2.2.2.2.2.2.1]
        refine g1.trans ?_
        show imx (gsu σ (va_up (glf σ) (gn σ) x (gn σ))) (gsu σ (va_up (grt σ) (gn σ) y (gn σ))) = _
        rw [up_s, up_s]
      · rw [o1, o2, (ag x hx).2.2.2.2.2.2.2.2.2.1, (ag y hy).2.2.2.2.2.2.2.2.2.1]
        refine g1.trans ?_
        show imx (gho σ (va_up (glf σ) (gn σ) x (gn σ))) (gho σ (va_up (grt σ) (gn σ) y (gn σ))) = _
        rw [up_s, up_s]
      · rw [o1, o2, (ag x hx).2.2.2.2.2.2.2.2.2.2, (ag y hy).2.2.2.2.2.2.2.2.2.2]
        refine g1.trans ?_
        show imx (ghs σ (va_up (glf σ) (gn σ) x (gn σ))) (ghs σ (va_up (grt σ) (gn σ) y (gn σ))) = _
        rw [up_s, up_s]
      · rw [o1, o2, r1 x hx, r1 y hy, show mr (mAddF τ x y w) (mn τ) = (mr τ x ||| mr τ y) ||| gbit (mn τ) from pk_uLs, bl_or, bl_or, bl_bit (by omega)]
      · rw [m0] at q; cases q
  · have hp : mn τ + 1 ≤ p := hp
    exact (up_n (by omega)).trans (h.2.2.1 p (by omega))
  · have hp : mn τ + 1 ≤ p := hp
    exact h.2.2.2.1 p (by omega) h64
  · show va_up (glf σ) (gn σ) x j < 40
    unfold va_up; split
    · omega
    · exact h.2.2.2.2.1.1 j
  · show va_up (grt σ) (gn σ) y j < 40
    unfold va_up; split
    · omega
    · exact h.2.2.2.2.1.2.1 j
  · show va_up (mo τ) (mn τ) x j < 40
    unfold va_up; split
    · omega
    · exact h.2.2.2.2.1.2.2.1 j
  · show va_up (mh τ) (mn τ) y j < 40
    unfold va_up; split
    · omega
    · exact h.2.2.2.2.1.2.2.2 j
  · obtain ⟨r1, r2, r3, r4, r5, r6, r7, r8, r9⟩ := h.2.2.2.2.2.1
    exact ⟨r1, r2, r3, r4, fun s hs => Nat.lt_succ_of_lt (r5 s hs), fun s j hj => ⟨mfk _ (r6 s j hj).1, (r6 s j hj).2⟩, r7, r8, r9⟩
/-! settling all above a place -/
def gSf (eb : Int64) (l r : Nat → Nat) (e : Nat) (f : Nat → Int32) : Nat → (Nat → Int32)
  | 0 => f
  | j + 1 => if gEx eb (e + j) then gSf eb l r e f j else upd (gSf eb l r e f j) (e + j) (imx (gSf eb l r e f j (l (e + j))) (gSf eb l r e f j (r (e + j))))
theorem gSA_eq (σ : GS) (e : Nat) : ∀ j, gSA σ e j = (gn σ, gk σ, gc σ, gs σ, ge σ, glf σ, grt σ, gst σ, gpc σ, gpf σ, glo σ, ghi σ, gwt σ, ggr σ, gSf (ge σ) (glf σ) (grt σ) e (gsu σ) j, gSf (ge σ) (glf σ) (grt σ) e (gho σ) j, gSf (ge σ) (glf σ) (grt σ) e (ghs σ) j, grb σ)
  | 0 => rfl
  | j + 1 => by
    rw [gSA]
    by_cases c : gEx (ge σ) (e + j) = true
    · rw [if_pos c, gSA_eq σ e j, gSf, gSf, gSf, if_pos c, if_pos c, if_pos c]
    · rw [if_neg c, gSA_eq σ e j, gSf, gSf, gSf, if_neg c, if_neg c, if_neg c]; rfl
theorem gSf_ge {eb : Int64} {l r : Nat → Nat} {e : Nat} {f : Nat → Int32} {p : Nat} : ∀ {j : Nat}, (p < e ∨ e + j ≤ p ∨ gEx eb p = true) → gSf eb l r e f j p = f p
  | 0, _ => rfl
  | j + 1, h => by
    rw [gSf]
    by_cases c : gEx eb (e + j) = true
    · rw [if_pos c]; exact gSf_ge (by rcases h with h | h | h <;> first | exact Or.inl h | exact Or.inr (Or.inl (by omega)) | exact Or.inr (Or.inr h))
    · rw [if_neg c]
      have d : p ≠ e + j := by
        rcases h with h | h | h
        · omega
        · omega
        · exact fun q => c (q ▸ h)
      rw [pk_un d]; exact gSf_ge (by rcases h with h | h | h <;> first | exact Or.inl h | exact Or.inr (Or.inl (by omega)) | exact Or.inr (Or.inr h))
theorem gSf_eq {eb : Int64} {l r : Nat → Nat} {e : Nat} {f : Nat → Int32} {p : Nat} (hp : e ≤ p) (hE : gEx eb p = false) (hl : l p < p) (hr : r p < p) : ∀ {j : Nat}, p < e + j → gSf eb l r e f j p = imx (gSf eb l r e f j (l p)) (gSf eb l r e f j (r p))
  | 0, h => by omega
  | j + 1, h => by
    rw [gSf]
    by_cases c : gEx eb (e + j) = true
    · rw [if_pos c]
      have d : p ≠ e + j := fun q => by rw [← q, hE] at c; cases c
      exact gSf_eq hp hE hl hr (by omega)
    · rw [if_neg c]
      by_cases d : p = e + j
      · subst d; rw [pk_us, pk_un (by omega), pk_un (by omega)]
      · rw [pk_un d, pk_un (by omega), pk_un (by omega)]; exact gSf_eq hp hE hl hr (by omega)
theorem grd_f {σ : GS} {τ : MS} (h : RR σ τ) {e : Nat} (he : e < mn τ) (hE : mf τ e = false) (f : Nat → Int32) (v : Int32) :
    (∀ p, p < mn τ → mf τ p = false → gSf (ge σ) (glf σ) (grt σ) (e + 1) (upd f e v) (gn σ - (e + 1)) p = if p = e then v else f p) ∧
    (∀ p, mf τ p = true → f p = imx (f (mo τ p)) (f (mh τ p)) → gSf (ge σ) (glf σ) (grt σ) (e + 1) (upd f e v) (gn σ - (e + 1)) p = imx (gSf (ge σ) (glf σ) (grt σ) (e + 1) (upd f e v) (gn σ - (e + 1)) (mo τ p)) (gSf (ge σ) (glf σ) (grt σ) (e + 1) (upd f e v) (gn σ - (e + 1)) (mh τ p))) := by
  refine ⟨fun p hp q => ?_, fun p q hf => ?_⟩
  · rw [gSf_ge (Or.inr (Or.inr (by rw [h.ex hp, q]; rfl)))]; rfl
  · obtain ⟨a1, a2, a3, a4, _⟩ := h.f q
    have hp := h.lt q
    have n0 := h.n
    by_cases c : p < e
    · rw [gSf_ge (Or.inl (by omega)), gSf_ge (Or.inl (by omega)), gSf_ge (Or.inl (by omega)), pk_un (by omega), pk_un (by omega), pk_un (by omega)]; exact hf
    · have d : p ≠ e := fun z => by rw [z, hE] at q; cases q
      have := gSf_eq (eb := ge σ) (l := glf σ) (r := grt σ) (e := e + 1) (f := upd f e v) (p := p) (by omega) (by rw [h.ex hp, q]; rfl) (by rw [a1]; exact a3) (by rw [a2]; exact a4) (j := gn σ - (e + 1)) (by omega)
      rw [a1, a2] at this; exact this
theorem nI_n1 {g : Nat} (h : g < 2 ^ 31) : nI g ≠ -1 := fun e => by
  have := congrArg Int32.toInt e
  rw [nI_toInt h] at this
  have : ((g : Nat) : Int) = -1 := this
  omega
theorem RR.grd {σ : GS} {τ : MS} (h : RR σ τ) {e g : Nat} (he : e < mn τ) (hE : mf τ e = false) (hg : g ≤ 20) (hu : md τ e = -1) : RR (gGrd σ e (nI g)) (mMd τ e (nI g)) := by
  have n1 : nI g ≠ -1 := nI_n1 (by omega)
  have H : gHas (gn σ, gk σ, gc σ + 1, gs σ + nI g, ge σ, glf σ, grt σ, gst σ, gpc σ, gpf σ, glo σ, ghi σ, gwt σ, upd (ggr σ) e (nI g), gsu σ, gho σ, ghs σ, grb σ) e = true := by
    rw [gHas]
    show (!decide (upd (ggr σ) e (nI g) e = -1)) = true
    rw [pk_us, decide_eq_false n1]; rfl
  have E0 : gGrd σ e (nI g) = (gn σ, gk σ, gc σ + 1, gs σ + nI g, ge σ, glf σ, grt σ, gst σ, gpc σ, gpf σ, glo σ, ghi σ, gwt σ, upd (ggr σ) e (nI g), gSf (ge σ) (glf σ) (grt σ) (e + 1) (upd (gsu σ) e (nI g)) (gn σ - (e + 1)), gSf (ge σ) (glf σ) (grt σ) (e + 1) (upd (gho σ) e (nI g)) (gn σ - (e + 1)), gSf (ge σ) (glf σ) (grt σ) (e + 1) (upd (ghs σ) e (nI g)) (gn σ - (e + 1)), grb σ) := by
    rw [gGrd, gSA_eq, gSeE, if_pos H, if_pos H, if_pos H]
    show (_, _, _, _, _, _, _, _, _, _, _, _, _, _, gSf _ _ _ _ (upd _ e (upd (ggr σ) e (nI g) e)) _, gSf _ _ _ _ (upd _ e (upd (ggr σ) e (nI g) e)) _, gSf _ _ _ _ (upd _ e (upd (ggr σ) e (nI g) e)) _, _) = _
    rw [pk_us]
  rw [E0]
  obtain ⟨u1, u2⟩ := grd_f h he hE (gsu σ) (nI g)
  obtain ⟨v1, v2⟩ := grd_f h he hE (gho σ) (nI g)
  obtain ⟨w1, w2⟩ := grd_f h he hE (ghs σ) (nI g)
  have gd : ∀ p, p ≠ e → mGd (mMd τ e (nI g)) p = mGd τ p := fun p hp => by
    rw [mGd, mGd, show md (mMd τ e (nI g)) p = md τ p from pk_un hp]; rfl
  have gde : mGd (mMd τ e (nI g)) e = true := by
    rw [mGd, show md (mMd τ e (nI g)) e = nI g from pk_us, show mf (mMd τ e (nI g)) e = mf τ e from rfl, hE, decide_eq_false n1]; rfl
  have gd0 : mGd τ e = false := by rw [mGd, hE, hu]; rfl
  have c1 : mGn (mMd τ e (nI g)) = mGn τ + 1 := by
    refine (sum_one (f := fun p => b2i (mGd τ p)) (e := e) he (fun k _ hk => by rw [gd k hk]) (by rw [gd0]; rfl)).trans ?_
    rw [gde]; rfl
  have c2 : mSum (mMd τ e (nI g)) = mSum τ + nI g := by
    refine (sum_one (f := fun p => if mGd τ p then md τ p else 0) (e := e) he (fun k _ hk => by rw [gd k hk, show md (mMd τ e (nI g)) k = md τ k from pk_un hk]) (by rw [gd0]; rfl)).trans ?_
    rw [gde, if_pos rfl, show md (mMd τ e (nI g)) e = nI g from pk_us]; rfl
  refine ⟨h.1, fun p hp => ⟨(h.2.1 p hp).1, (h.2.1 p hp).2.1, fun q => ?_, fun q => ?_⟩, h.2.2.1, h.2.2.2.1, h.2.2.2.2.1, h.2.2.2.2.2.1, ?_, ?_⟩
  · have q : mf τ p = true := q
    have d : p ≠ e := fun z => by rw [z, hE] at q; cases q
    obtain ⟨a1, a2, a3, a4, a5, a6, a7, a8, a9, a10⟩ := h.f q
    exact ⟨a1, a2, a3, a4, a5.trans (pk_un d).symm, (pk_un d).trans a6, u2 p q a7, v2 p q a8, w2 p q a9, a10⟩
  · have q : mf τ p = false := q
    obtain ⟨a1, a2, a3, a4, a5, a6, a7, a8, a9, a10⟩ := h.e hp q
    by_cases d : p = e
    · subst d
      have dm : md (mMd τ p (nI g)) p = nI g := pk_us
      refine ⟨a1, a2, a3, a4, ?_, Or.inr ⟨g, hg, dm⟩, ?_, ?_, ?_, a10⟩
      · rw [dm]; exact pk_us
      · rw [dm, if_neg n1]; exact (u1 p hp q).trans (if_pos rfl)
      · rw [dm, if_neg n1]; exact (v1 p hp q).trans (if_pos rfl)
      · rw [dm, if_neg n1]; exact (w1 p hp q).trans (if_pos rfl)
    · have dm : md (mMd τ e (nI g)) p = md τ p := pk_un d
      refine ⟨a1, a2, a3, a4, ?_, by rw [dm]; exact a6, ?_, ?_, ?_, a10⟩
      · rw [dm, ← a5]; exact pk_un d
      · rw [dm]; exact ((u1 p hp q).trans (if_neg d)).trans a7
      · rw [dm]; exact ((v1 p hp q).trans (if_neg d)).trans a8
      · rw [dm]; exact ((w1 p hp q).trans (if_neg d)).trans a9
  · show gc σ + 1 = _
    rw [c1, h.2.2.2.2.2.2.1]
  · show gs σ + nI g = _
    rw [c2, h.2.2.2.2.2.2.2]
theorem RR.wgh {σ : GS} {τ : MS} (h : RR σ τ) {k : Nat} (hk : mf τ k = true) (w : Int32) : RR (gWgh σ k w) (mMd τ k w) := by
  have gd : ∀ p, mGd (mMd τ k w) p = mGd τ p := fun p => by
    by_cases c : p = k
    · subst c; rw [mGd, mGd, show mf (mMd τ p w) p = mf τ p from rfl, hk]; rfl
    · rw [mGd, mGd, show md (mMd τ k w) p = md τ p from pk_un c]; rfl
  refine ⟨h.1, fun p hp => ⟨(h.2.1 p hp).1, (h.2.1 p hp).2.1, fun q => ?_, fun q => ?_⟩, h.2.2.1, h.2.2.2.1, h.2.2.2.2.1, h.2.2.2.2.2.1, ?_, ?_⟩
  · obtain ⟨a1, a2, a3, a4, a5, a6, a7, a8, a9, a10⟩ := h.f q
    refine ⟨a1, a2, a3, a4, ?_, a6, a7, a8, a9, a10⟩
    show upd (gwt σ) k w p = upd (md τ) k w p
    unfold upd; split
    · rfl
    · exact a5
  · have q : mf τ p = false := q
    have d : p ≠ k := fun z => by rw [z, hk] at q; cases q
    have dm : md (mMd τ k w) p = md τ p := pk_un d
    obtain ⟨a1, a2, a3, a4, a5, a6, a7, a8, a9, a10⟩ := h.e hp q
    refine ⟨a1, a2, a3, a4, ?_, ?_, ?_, ?_, ?_, a10⟩ <;> rw [dm]
    · exact a5
    · exact a6
    · exact a7
    · exact a8
    · exact a9
  · refine h.2.2.2.2.2.2.1.trans (sum_cong (fun p _ => by rw [gd p]))
  · refine h.2.2.2.2.2.2.2.trans (sum_cong (fun p _ => ?_))
    rw [gd p]
    by_cases c : mGd τ p = true
    · rw [if_pos c, if_pos c]
      have d : p ≠ k := fun z => by rw [z, mGd, hk] at c; cases c
      exact (pk_un d).symm
    · rw [if_neg c, if_neg c]
/-! the students -/
theorem RR.enr {σ : GS} {τ : MS} (h : RR σ τ) {p : Nat} (hp : p < mn τ) (h8 : mk τ < 8) : RR (gEnr σ p) (mEnr τ p) := by
  obtain ⟨r1, r2, r3, r4, r5, r6, r7, r8, r9⟩ := h.2.2.2.2.2.1
  have n0 := h.1.1
  refine ⟨⟨h.1.1, by show mk τ + 1 ≤ 8; omega, h.n, by show gk σ + 1 = mk τ + 1; rw [h.k]⟩, h.2.1, h.2.2.1, h.2.2.2.1, h.2.2.2.2.1, ⟨?_, r2, r3, fun s hs => r4 s (Nat.le_trans (Nat.le_succ _) hs), fun s hs => ?_, r6, fun j => ?_, r8, fun j => ?_⟩, h.2.2.2.2.2.2⟩
  · show va_up (gst σ) (gk σ) p = va_up (ms τ) (mk τ) p
    rw [r1, h.k]
  · show va_up (ms τ) (mk τ) p s < mn τ
    have hs : s < mk τ + 1 := hs
    unfold va_up; split
    · exact hp
    · exact r5 s (by omega)
  · show va_up (ms τ) (mk τ) p j < 40
    unfold va_up; split
    · omega
    · exact r7 j
  · show va_up (ms τ) (mk τ) p j + mp τ j ≤ 39
    unfold va_up; split
    · next e => rw [e, r4 _ (Nat.le_refl _)]; omega
    · exact r9 j
theorem RR.go {σ : GS} {τ : MS} (h : RR σ τ) {s : Nat} (hs : s < mk τ) (hf : mf τ (ms τ s) = true) (b : Bool) : RR (gWalk σ s b) (mGo τ s (mTo τ (ms τ s) b)) := by
  obtain ⟨r1, r2, r3, r4, r5, r6, r7, r8, r9⟩ := h.2.2.2.2.2.1
  obtain ⟨t1, t2⟩ := h.to hf b
  have n0 := h.1.1
  have z5 := r5 s hs
  have z9 := r9 s
  refine ⟨h.1, h.2.1, h.2.2.1, h.2.2.2.1, h.2.2.2.2.1, ⟨?_, ?_, ?_, fun s' hs' => ?_, fun s' hs' => ?_, fun s' j hj => ?_, fun j => ?_, fun j => ?_, fun j => ?_⟩, h.2.2.2.2.2.2⟩
  · show va_up (gst σ) s (gTo σ (gst σ s) b) = va_up (ms τ) s (mTo τ (ms τ s) b)
    rw [r1, t1]
  · show va_up (gpc σ) s (gpc σ s + 1) = va_up (mp τ) s (mp τ s + 1)
    rw [r2]
  · show va_up (gpf σ) (s * 40 + gpc σ s) (gst σ s) = va_up (mw τ) (40 * s + mp τ s) (ms τ s)
    rw [r1, r2, r3, Nat.mul_comm]
  · have hs' : mk τ ≤ s' := hs'
    show va_up (mp τ) s (mp τ s + 1) s' = 0
    rw [up_n (by omega)]; exact r4 s' hs'
  · show va_up (ms τ) s (mTo τ (ms τ s) b) s' < mn τ
    unfold va_up; split
    · omega
    · exact r5 s' hs'
  · have hj : j < va_up (mp τ) s (mp τ s + 1) s' := hj
    show mf τ (va_up (mw τ) (40 * s + mp τ s) (ms τ s) (40 * s' + j)) = true ∧ va_up (mw τ) (40 * s + mp τ s) (ms τ s) (40 * s' + j) + j ≤ 39
    have z9' := r9 s'
    by_cases c : s' = s
    · subst c
      rw [up_s] at hj
      by_cases d : j = mp τ s'
      · subst d; rw [up_s]; exact ⟨hf, z9⟩
      · rw [up_n (by omega)]; exact r6 s' j (by omega)
    · rw [up_n c] at hj
      rw [up_n (by omega)]; exact r6 s' j hj
  · show va_up (ms τ) s (mTo τ (ms τ s) b) j < 40
    unfold va_up; split
    · omega
    · exact r7 j
  · show va_up (mw τ) (40 * s + mp τ s) (ms τ s) j < 40
    unfold va_up; split
    · omega
    · exact r8 j
  · show va_up (ms τ) s (mTo τ (ms τ s) b) j + va_up (mp τ) s (mp τ s + 1) j ≤ 39
    by_cases c : j = s
    · subst c; rw [up_s, up_s]; omega
    · rw [up_n c, up_n c]; exact r9 j
theorem RR.bk {σ : GS} {τ : MS} (h : RR σ τ) {s j : Nat} (hs : s < mk τ) (hj : mp τ s = j + 1) : RR (gBk σ s j) (mBk τ s j) := by
  obtain ⟨r1, r2, r3, r4, r5, r6, r7, r8, r9⟩ := h.2.2.2.2.2.1
  obtain ⟨t1, t2⟩ := r6 s j (by omega)
  have n0 := h.lt t1
  refine ⟨h.1, h.2.1, h.2.2.1, h.2.2.2.1, h.2.2.2.2.1, ⟨?_, ?_, r3, fun s' hs' => ?_, fun s' hs' => ?_, fun s' i hi => ?_, fun i => ?_, r8, fun i => ?_⟩, h.2.2.2.2.2.2⟩
  · show va_up (gst σ) s (gpf σ (s * 40 + j)) = va_up (ms τ) s (mw τ (40 * s + j))
    rw [r1, r3, Nat.mul_comm]
  · show va_up (gpc σ) s j = va_up (mp τ) s j
    rw [r2]
  · have hs' : mk τ ≤ s' := hs'
    show va_up (mp τ) s j s' = 0
    rw [up_n (by omega)]; exact r4 s' hs'
  · show va_up (ms τ) s (mw τ (40 * s + j)) s' < mn τ
    unfold va_up; split
    · exact n0
    · exact r5 s' hs'
  · have hi : i < va_up (mp τ) s j s' := hi
    show mf τ (mw τ (40 * s' + i)) = true ∧ mw τ (40 * s' + i) + i ≤ 39
    by_cases c : s' = s
    · subst c; rw [up_s] at hi; exact r6 s' i (by omega)
    · rw [up_n c] at hi; exact r6 s' i hi
  · show va_up (ms τ) s (mw τ (40 * s + j)) i < 40
    unfold va_up; split
    · exact r8 _
    · exact r7 i
  · show va_up (ms τ) s (mw τ (40 * s + j)) i + va_up (mp τ) s j i ≤ 39
    by_cases c : i = s
    · subst c; rw [up_s, up_s]; exact t2
    · rw [up_n c, up_n c]; exact r9 i
theorem RR.fo {s : Nat} : ∀ (f : Nat) {σ : GS} {τ : MS}, RR σ τ → TT σ τ → s < mk τ → RR (gFo s f σ) (mFo s f τ) ∧ gFc s f σ + mp τ s = mp (mFo s f τ) s
  | 0, _, _, h, _, _ => ⟨h, Nat.zero_add _⟩
  | f + 1, σ, τ, h, ht, hs => by
    rw [gFo, mFo, gFc, h.st, h.ex (h.mok.2.2.2.2.2.2.2.2 s hs)]
    by_cases c : mf τ (ms τ s) = true
    · rw [if_pos c, c, if_neg (by decide), if_neg (by decide), ← h.pl ht c]
      obtain ⟨a, b⟩ := RR.fo f (h.go hs c (mPl τ (ms τ s))) ht hs
      refine ⟨a, ?_⟩
      rw [← b, show mp (mGo τ s (mTo τ (ms τ s) (mPl τ (ms τ s)))) s = mp τ s + 1 from up_s]; omega
    · rw [if_neg c, ts_nt c]; exact ⟨h, Nat.zero_add _⟩
