/-! the law's own garden: its methods that change nothing, told of the class's state -/
theorem oF {s : State} {H : Heap} {locs : List Loc} {t : State} (hS : va_S (nA s) s.heap H locs) (ht : t.heap = H) : va_F (fun _ => False) s t := ⟨by rw [ht]; exact hS.1, fun q h1 _ => by rw [ht]; exact nA_up hS q h1⟩
theorem imx_nn {z : Int32} (h : 0 ≤ z) : imx 0 z = z := by
  refine i_ext ?_
  have := Int32.le_iff_toInt_le.mp h
  rw [imx_I, show (0 : Int32).toInt = 0 from rfl] at *; omega
theorem imx_ng {z : Int32} (h : ¬ 0 ≤ z) : imx 0 z = 0 := by
  refine i_ext ?_
  have : ¬ (0 : Int32).toInt ≤ z.toInt := fun q => h (Int32.le_iff_toInt_le.mpr q)
  rw [imx_I, show (0 : Int32).toInt = 0 from rfl] at *; omega
theorem RR.hsn {σ : GS} {τ : MS} (h : RR σ τ) {k i : Nat} (hi : i < mn τ) (g : mGd τ i = false) : mBf (mEx τ k) (md τ) (i + 1) = mBf (mEx τ k) (md τ) i := by
  rw [mBf]
  by_cases c : mf τ i = true
  · rw [if_neg (by rw [mEx, c, Bool.not_true, Bool.and_false]; decide)]
  · rw [(h.grd0 hi (ts_nt c)).2 g]
    split
    · refine i_ext ?_
      have := mBf_ge (mEx τ k) (md τ) i
      rw [imx_I, show (-1 : Int32).toInt = -1 from rfl]; omega
    · rfl
theorem RR.hsy {τ : MS} {k i : Nat} (b : bitL (mr τ k) i = true) (g : mGd τ i = true) : mBf (mEx τ k) (md τ) (i + 1) = imx (mBf (mEx τ k) (md τ) i) (md τ i) := by
  have c : mf τ i = false := by cases q : mf τ i <;> rw [mGd, q] at g <;> first | rfl | cases g
  rw [mBf, if_pos (by rw [mEx, b, c]; rfl)]
theorem RR.hsx {τ : MS} {k i : Nat} (b : bitL (mr τ k) i = false) : mBf (mEx τ k) (md τ) (i + 1) = mBf (mEx τ k) (md τ) i := by
  rw [mBf, if_neg (by rw [mEx, b, Bool.false_and]; decide)]
theorem RR.rk {σ : GS} {τ : MS} (h : RR σ τ) {k : Nat} (hf : mf τ k = true) (w : Bool) : gRisk σ k w = imx 0 (gho σ (mTo τ k (!w)) - gsu σ (mTo τ k w)) * md τ k := by
  obtain ⟨a1, a2, a3, a4, a5, _⟩ := h.f hf
  rw [gRisk, (h.to hf _).1, (h.to hf _).1, a5]
theorem RR.rg {σ : GS} {τ : MS} (h : RR σ τ) {t j : Nat} (ht : t < mk τ) (hj : j < mp τ t) (hE : mf τ (ms τ t) = false) : gReg σ t j = imx 0 (ghs σ (mw τ (40 * t + j)) - md τ (ms τ t)) * md τ (mw τ (40 * t + j)) := by
  obtain ⟨q1, q2⟩ := h.2.2.2.2.2.1.2.2.2.2.2.1 t j hj
  rw [gReg, h.pf, h.st, show t * 40 + j = 40 * t + j by omega, (h.e (h.mok.2.2.2.2.2.2.2.2 t ht) hE).2.2.2.2.1, (h.f q1).2.2.2.2.1]
theorem hinX1_isFork : ∀ w ∈ wsX10, w ∈ wsX1_isFork := fun w h => List.mem_cons_of_mem _ (List.mem_append_right _ h)
theorem hdX1_isFork : yX1_isFork.cls = RX1 ∧ yX1_isFork.cls ≠ "java/lang/invoke/MethodHandle" ∧ yX1_isFork.cls ≠ "java/lang/invoke/VarHandle" ∧ (parseMethodDescriptor yX1_isFork.desc).map (fun d => d.parameters.length) = some 1 := by decide +kernel
set_option maxHeartbeats 4000000 in
set_option maxRecDepth 100000 in
theorem c_isFork (l : Launch) (E : GE) (b : Nat → Nat) (σ : GS) (τ : MS) (h : RR σ τ) (k : Nat) (hk : k < mn τ) : Met l yX1_isFork wsX1_isFork { frames := 0, cells := 0, slots := 0, locals := 0 } (va_Pc [.ref (b 0), .int (nI k)] (gH E (si_P E b τ))) (vp_Si (fun r => r = b2i (mf τ k))) 0 0 (fun _ => False) := by
  refine w_met (cc := cX1_isFork) (maxL := 2) (ret := (some .boolean)) (by decide) rfl (Nat.le_of_ble_eq_true rfl) ?_
  intro p e s m below meth c ls S hr hlocks hname hB hl
  obtain ⟨hP, hK⟩ := hB
  obtain ⟨hx, hb, hml, hown, hts⟩ := id S
  have n4 := h.1.1
  have k8 := h.1.2.1
  have hts1 := hinX1_isFork
  have hl : lv_has ls 2 [(0, .ref (b 0)), (1, .int (nI k))] := hl
  refine lv_aload_n hx hb dX1_isFork_0 rfl (lv_at hl 0 rfl) ?_
  refine s_get hx hb hts hts1 hown hK hP 0 (by decide) (by decide +kernel) rfl rfl dX1_isFork_1 ?_
  refine lv_iload_n hx hb dX1_isFork_4 rfl (lv_at hl 1 rfl) ?_
  refine s_ald hx hb hK (si_p hP) (k := k) (by omega) (by omega) rfl dX1_isFork_5 ?_
  refine lv_iconst (v := 0) hx hb dX1_isFork_6 (by decide) ?_
  refine s_ild hx hb hK (si_r hP (p := k) (by omega)) (k := 0) (by decide) (by decide) (v := b2i (mf τ k)) rfl dX1_isFork_7 ?_
  refine lv_iconst (v := 1) hx hb dX1_isFork_8 (by decide) ?_
  refine lv_icmp_ne (tgt := 16) hx hb dX1_isFork_9 (by decide) (fun c9 => ?_) (fun c9 => ?_)
  · refine lv_iconst (v := 0) hx hb dX1_isFork_16 (by decide) ?_
    exact W.zret hx hb hr rfl (fun t ht hW => ⟨_, rfl, (by first | exact c9.symm | (cases hm : mf τ k <;> rw [hm] at c9 <;> first | rfl | exact absurd rfl c9)), ht⟩) (fun _ h => nomatch h) dX1_isFork_17
  · refine lv_iconst (v := 1) hx hb dX1_isFork_12 (by decide) ?_
    refine lv_goto (tgt := 17) hx hb dX1_isFork_13 (by decide) ?_
    exact W.zret hx hb hr rfl (fun t ht hW => ⟨_, rfl, (by first | exact c9.symm | (cases hm : mf τ k <;> rw [hm] at c9 <;> first | rfl | exact absurd rfl c9)), ht⟩) (fun _ h => nomatch h) dX1_isFork_17
theorem hinX1_isGraded : ∀ w ∈ wsX10, w ∈ wsX1_isGraded := fun w h => List.mem_cons_of_mem _ (List.mem_append_right _ h)
theorem hdX1_isGraded : yX1_isGraded.cls = RX1 ∧ yX1_isGraded.cls ≠ "java/lang/invoke/MethodHandle" ∧ yX1_isGraded.cls ≠ "java/lang/invoke/VarHandle" ∧ (parseMethodDescriptor yX1_isGraded.desc).map (fun d => d.parameters.length) = some 1 := by decide +kernel
set_option maxHeartbeats 4000000 in
set_option maxRecDepth 100000 in
theorem c_isGradedS (l : Launch) (E : GE) (b : Nat → Nat) (σ : GS) (τ : MS) (h : RR σ τ) (k : Nat) (hk : k < mn τ) : Met l yX1_isGraded wsX1_isGraded { frames := 1, cells := 0, slots := 0, locals := 21 } (va_Pc [.ref (b 0), .int (nI k)] (gH E (si_P E b τ))) (vp_Si (fun r => r = b2i (mGd τ k))) 0 0 (fun _ => False) := by
  refine w_met (cc := cX1_isGraded) (maxL := 2) (ret := (some .boolean)) (by decide) rfl (Nat.le_of_ble_eq_true rfl) ?_
  intro p e s m below meth c ls S hr hlocks hname hB hl
  obtain ⟨hP, hK⟩ := hB
  obtain ⟨hx, hb, hml, hown, hts⟩ := id S
  have n4 := h.1.1
  have k8 := h.1.2.1
  have hts1 := hinX1_isGraded
  have hl : lv_has ls 2 [(0, .ref (b 0)), (1, .int (nI k))] := hl
  refine lv_aload_n hx hb dX1_isGraded_0 rfl (lv_at hl 0 rfl) ?_
  refine lv_iload_n hx hb dX1_isGraded_1 rfl (lv_at hl 1 rfl) ?_
  refine s0p (As := [.int (nI k)]) (rest := []) S (c_isFork l E b σ τ h k (by omega)) (cwV 1 hts gX1_isGraded_X1_isFork rfl rfl rfl hdX1_isFork ⟨Nat.le_of_ble_eq_true rfl, Nat.le_of_ble_eq_true rfl⟩) hK hP rfl hl.1 rfl (Nat.le_of_ble_eq_true rfl) ⟨Nat.zero_le _, Nat.zero_le _⟩ dX1_isGraded_2 ?_
  refine lv_if_ne (tgt := 23) hx hb dX1_isGraded_5 (by decide) (fun c5 => ?_) (fun c5 => ?_)
  · refine lv_iconst (v := 0) hx hb dX1_isGraded_23 (by decide) ?_
    exact W.zret hx hb hr rfl (fun t ht hW => ⟨_, rfl, (by first | (rw [mGd, b2i_ne0.mp c5]; rfl) | (rw [h.ge0 hk (b2i_eq0.mp c5), decide_eq_true c16]; rfl) | (rw [h.ge0 hk (b2i_eq0.mp c5), decide_eq_false c16]; rfl)), ht⟩) (fun _ h => nomatch h) dX1_isGraded_24
  · refine lv_aload_n hx hb dX1_isGraded_8 rfl (lv_at hl 0 rfl) ?_
    refine s_get hx hb hts hts1 hown hK hP 0 (by decide) (by decide +kernel) rfl rfl dX1_isGraded_9 ?_
    refine lv_iload_n hx hb dX1_isGraded_12 rfl (lv_at hl 1 rfl) ?_
    refine s_ald hx hb hK (si_p hP) (k := k) (by omega) (by omega) rfl dX1_isGraded_13 ?_
    refine lv_iconst (v := 3) hx hb dX1_isGraded_14 (by decide) ?_
    refine s_ild hx hb hK (si_r hP (p := k) (by omega)) (k := 3) (by decide) (by decide) (v := md τ k) rfl dX1_isGraded_15 ?_
    refine lv_if_lt (tgt := 23) hx hb dX1_isGraded_16 (by decide) (fun c16 => ?_) (fun c16 => ?_)
    · refine lv_iconst (v := 0) hx hb dX1_isGraded_23 (by decide) ?_
      exact W.zret hx hb hr rfl (fun t ht hW => ⟨_, rfl, (by first | (rw [mGd, b2i_ne0.mp c5]; rfl) | (rw [h.ge0 hk (b2i_eq0.mp c5), decide_eq_true c16]; rfl) | (rw [h.ge0 hk (b2i_eq0.mp c5), decide_eq_false c16]; rfl)), ht⟩) (fun _ h => nomatch h) dX1_isGraded_24
    · refine lv_iconst (v := 1) hx hb dX1_isGraded_19 (by decide) ?_
      refine lv_goto (tgt := 24) hx hb dX1_isGraded_20 (by decide) ?_
      exact W.zret hx hb hr rfl (fun t ht hW => ⟨_, rfl, (by first | (rw [mGd, b2i_ne0.mp c5]; rfl) | (rw [h.ge0 hk (b2i_eq0.mp c5), decide_eq_true c16]; rfl) | (rw [h.ge0 hk (b2i_eq0.mp c5), decide_eq_false c16]; rfl)), ht⟩) (fun _ h => nomatch h) dX1_isGraded_24
theorem hinX1_at : ∀ w ∈ wsX10, w ∈ wsX1_at := fun w h => List.mem_cons_of_mem _ (List.mem_append_right _ h)
theorem hdX1_at : yX1_at.cls = RX1 ∧ yX1_at.cls ≠ "java/lang/invoke/MethodHandle" ∧ yX1_at.cls ≠ "java/lang/invoke/VarHandle" ∧ (parseMethodDescriptor yX1_at.desc).map (fun d => d.parameters.length) = some 1 := by decide +kernel
set_option maxHeartbeats 4000000 in
set_option maxRecDepth 100000 in
theorem c_atS (l : Launch) (E : GE) (b : Nat → Nat) (σ : GS) (τ : MS) (h : RR σ τ) (k : Nat) (hk : k < mk τ) : Met l yX1_at wsX1_at { frames := 0, cells := 0, slots := 0, locals := 0 } (va_Pc [.ref (b 0), .int (nI k)] (gH E (si_P E b τ))) (vp_Si (fun r => r = nI (ms τ k))) 0 0 (fun _ => False) := by
  refine w_met (cc := cX1_at) (maxL := 2) (ret := (some .int)) (by decide) rfl (Nat.le_of_ble_eq_true rfl) ?_
  intro p e s m below meth c ls S hr hlocks hname hB hl
  obtain ⟨hP, hK⟩ := hB
  obtain ⟨hx, hb, hml, hown, hts⟩ := id S
  have n4 := h.1.1
  have k8 := h.1.2.1
  have t7 := h.mok.2.2.2.2.2.2.1 k
  have hts1 := hinX1_at
  have hl : lv_has ls 2 [(0, .ref (b 0)), (1, .int (nI k))] := hl
  refine lv_aload_n hx hb dX1_at_0 rfl (lv_at hl 0 rfl) ?_
  refine s_get hx hb hts hts1 hown hK hP 1 (by decide) (by decide +kernel) rfl rfl dX1_at_1 ?_
  refine lv_iload_n hx hb dX1_at_4 rfl (lv_at hl 1 rfl) ?_
  refine s_ald hx hb hK (si_s hP) (k := k) (by omega) (by omega) rfl dX1_at_5 ?_
  refine lv_aload_n hx hb dX1_at_6 rfl (lv_at hl 0 rfl) ?_
  refine s_get hx hb hts hts1 hown hK hP 1 (by decide) (by decide +kernel) rfl rfl dX1_at_7 ?_
  refine lv_iload_n hx hb dX1_at_10 rfl (lv_at hl 1 rfl) ?_
  refine s_ald hx hb hK (si_s hP) (k := k) (by omega) (by omega) rfl dX1_at_11 ?_
  refine s_alenI hx hb hK (si_t hP (t := k) (by omega)) dX1_at_12 ?_
  refine lv_iconst (v := 1) hx hb dX1_at_13 (by decide) ?_
  refine lv_isub hx hb dX1_at_14 ?_
  rw [nI_pred]
  refine s_ild hx hb hK (si_t hP (t := k) hk) (k := mp τ k) (by omega) (by omega) (v := nI (ms τ k)) (si_tl τ k) dX1_at_15 ?_
  exact W.iret hx hb hr (fun t ht hW => ⟨_, rfl, rfl, ht⟩) (fun _ h => nomatch h) dX1_at_16
theorem hinX1_graded : ∀ w ∈ wsX10, w ∈ wsX1_graded := fun w h => List.mem_cons_of_mem _ (List.mem_append_right _ h)
theorem hdX1_graded : yX1_graded.cls = RX1 ∧ yX1_graded.cls ≠ "java/lang/invoke/MethodHandle" ∧ yX1_graded.cls ≠ "java/lang/invoke/VarHandle" ∧ (parseMethodDescriptor yX1_graded.desc).map (fun d => d.parameters.length) = some 0 := by decide +kernel
set_option maxHeartbeats 4000000 in
set_option maxRecDepth 100000 in
theorem c_gradedS (l : Launch) (E : GE) (b : Nat → Nat) (σ : GS) (τ : MS) (h : RR σ τ)  : Met l yX1_graded wsX1_graded { frames := 2, cells := 0, slots := 0, locals := 42 } (va_Pc [.ref (b 0)] (gH E (si_P E b τ))) (vp_Si (fun r => r = mGn τ)) 0 0 (fun _ => False) := by
  refine w_met (cc := cX1_graded) (maxL := 3) (ret := (some .int)) (by decide) rfl (Nat.le_of_ble_eq_true rfl) ?_
  intro p e s m below meth c ls S hr hlocks hname hB hl
  obtain ⟨hP, hK⟩ := hB
  obtain ⟨hx, hb, hml, hown, hts⟩ := id S
  have n4 := h.1.1
  have k8 := h.1.2.1
  have hts1 := hinX1_graded
  have hl : lv_has ls 3 [(0, .ref (b 0))] := hl
  refine lv_iconst (v := 0) hx hb dX1_graded_0 (by decide) ?_
  refine lv_istore_n (lv' := [(1, .int 0), (0, .ref (b 0))]) hx hb dX1_graded_1 rfl hl (by decide) rfl (fun ls hl => ?_)
  refine lv_iconst (v := 0) hx hb dX1_graded_2 (by decide) ?_
  refine lv_istore_n (lv' := [(2, .int 0), (1, .int 0), (0, .ref (b 0))]) hx hb dX1_graded_3 rfl hl (by decide) rfl (fun ls hl => ?_)
  have key : ∀ (d : Nat) (i : Nat) (x : Int32) (ls : Array Slot), i + d = mn τ → lv_has ls 3 [(2, .int (nI i)), (1, .int x), (0, .ref (b 0))] → x = sumI (fun p => b2i (mGd τ p)) i → W p l e (headSpec wsX1_graded { frames := 2, cells := 0, slots := 0, locals := 42 }).room s m [.ref (b 0)].toArray below meth c s.heap [] 0 0 (MQ below (vp_Si (fun r => r = mGn τ)) [.ref (b 0)].toArray s 0 0 (fun _ => False)) (F0 m 4 ls []) := by
    intro d
    induction d with
    | zero =>
      intro i x ls hi hl hinv
      obtain rfl : i = mn τ := by omega
      refine lv_iload_n hx hb dX1_graded_4 rfl (lv_at hl 0 rfl) ?_
      refine lv_aload_n hx hb dX1_graded_5 rfl (lv_at hl 2 rfl) ?_
      refine s_get hx hb hts hts1 hown hK hP 0 (by decide) (by decide +kernel) rfl rfl dX1_graded_6 ?_
      refine s_alenR hx hb hK (si_p hP) dX1_graded_9 ?_
      refine lv_icmp_ge (tgt := 35) hx hb dX1_graded_10 (by decide) (fun _ => ?_) (fun q => absurd ((nI_le (Nat.le_refl _) (by omega))) q)
      refine lv_iload_n hx hb dX1_graded_35 rfl (lv_at hl 1 rfl) ?_
      exact W.iret hx hb hr (fun t ht hW => ⟨_, rfl, hinv, ht⟩) (fun _ h => nomatch h) dX1_graded_36
    | succ d ih =>
      intro i x ls hi hl hinv
      refine lv_iload_n hx hb dX1_graded_4 rfl (lv_at hl 0 rfl) ?_
      refine lv_aload_n hx hb dX1_graded_5 rfl (lv_at hl 2 rfl) ?_
      refine s_get hx hb hts hts1 hown hK hP 0 (by decide) (by decide +kernel) rfl rfl dX1_graded_6 ?_
      refine s_alenR hx hb hK (si_p hP) dX1_graded_9 ?_
      refine lv_icmp_ge (tgt := 35) hx hb dX1_graded_10 (by decide) (fun q => absurd q ((nI_ge (by omega) (by omega)))) (fun _ => ?_)
      refine lv_iload_n hx hb dX1_graded_13 rfl (lv_at hl 1 rfl) ?_
      refine lv_aload_n hx hb dX1_graded_14 rfl (lv_at hl 2 rfl) ?_
      refine lv_iload_n hx hb dX1_graded_15 rfl (lv_at hl 0 rfl) ?_
      refine s0p (As := [.int (nI i)]) (rest := [.int x]) S (c_isGradedS l E b σ τ h i (by omega)) (cwV 1 hts gX1_graded_X1_isGraded rfl rfl rfl hdX1_isGraded ⟨Nat.le_of_ble_eq_true rfl, Nat.le_of_ble_eq_true rfl⟩) hK hP rfl hl.1 rfl (Nat.le_of_ble_eq_true rfl) ⟨Nat.zero_le _, Nat.zero_le _⟩ dX1_graded_16 ?_
      refine lv_if_eq (tgt := 26) hx hb dX1_graded_19 (by decide) (fun c19 => ?_) (fun c19 => ?_)
      · refine lv_iconst (v := 0) hx hb dX1_graded_26 (by decide) ?_
        refine lv_iadd hx hb dX1_graded_27 ?_
        refine lv_istore_n (lv' := [(1, .int (x + 0)), (2, .int (nI i)), (0, .ref (b 0))]) hx hb dX1_graded_28 rfl hl (by decide) rfl (fun ls hl => ?_)
        refine lv_iinc (v := nI (i + 1)) (lv' := [(2, .int (nI (i + 1))), (1, .int (x + 0)), (0, .ref (b 0))]) hx hb dX1_graded_29 hl (k := 1) rfl (nI_1 i) (by decide) rfl (fun ls hl => ?_)
        refine lv_goto (tgt := 4) hx hb dX1_graded_32 (by decide) ?_
        exact ih (i + 1) (x + 0) ls (by omega) (lv_sub hl [0, 1, 2] rfl) (by first | (rw [hinv, sumI, b2i_eq0.mp c19]; rfl) | (rw [hinv, sumI, b2i_ne0.mp c19]; rfl))
      · refine lv_iconst (v := 1) hx hb dX1_graded_22 (by decide) ?_
        refine lv_goto (tgt := 27) hx hb dX1_graded_23 (by decide) ?_
        refine lv_iadd hx hb dX1_graded_27 ?_
        refine lv_istore_n (lv' := [(1, .int (x + 1)), (2, .int (nI i)), (0, .ref (b 0))]) hx hb dX1_graded_28 rfl hl (by decide) rfl (fun ls hl => ?_)
        refine lv_iinc (v := nI (i + 1)) (lv' := [(2, .int (nI (i + 1))), (1, .int (x + 1)), (0, .ref (b 0))]) hx hb dX1_graded_29 hl (k := 1) rfl (nI_1 i) (by decide) rfl (fun ls hl => ?_)
        refine lv_goto (tgt := 4) hx hb dX1_graded_32 (by decide) ?_
        exact ih (i + 1) (x + 1) ls (by omega) (lv_sub hl [0, 1, 2] rfl) (by first | (rw [hinv, sumI, b2i_eq0.mp c19]; rfl) | (rw [hinv, sumI, b2i_ne0.mp c19]; rfl))
  exact key (mn τ) 0 0 ls (by omega) (lv_sub hl [0, 1, 2] rfl) rfl
theorem hinX1_reached : ∀ w ∈ wsX10, w ∈ wsX1_reached := fun w h => List.mem_cons_of_mem _ (List.mem_append_right _ h)
theorem hdX1_reached : yX1_reached.cls = RX1 ∧ yX1_reached.cls ≠ "java/lang/invoke/MethodHandle" ∧ yX1_reached.cls ≠ "java/lang/invoke/VarHandle" ∧ (parseMethodDescriptor yX1_reached.desc).map (fun d => d.parameters.length) = some 1 := by decide +kernel
set_option maxHeartbeats 4000000 in
set_option maxRecDepth 100000 in
theorem c_reached (l : Launch) (E : GE) (b : Nat → Nat) (σ : GS) (τ : MS) (h : RR σ τ) (k : Nat) (hk : k < mn τ) : Met l yX1_reached wsX1_reached { frames := 1, cells := 1, slots := 40, locals := 21 } (va_Pc [.ref (b 0), .int (nI k)] (gH E (si_P E b τ))) (gQRZ E (mn τ) (bitL (mr τ k))) 1 40 (fun _ => False) := by
  refine w_met (cc := cX1_reached) (maxL := 4) (ret := (some (.array .boolean))) (by decide) rfl (Nat.le_of_ble_eq_true rfl) ?_
  intro p e s m below meth c ls S hr hlocks hname hB hl
  obtain ⟨hP0, hK⟩ := hB
  have hS : va_S (nA s) s.heap s.heap [] := va_S.rf
  obtain ⟨hx, hb, hml, hown, hts⟩ := id S
  have n4 := h.1.1
  have k8 := h.1.2.1
  have hS0 := hS
  have hts1 := hinX1_reached
  have hl : lv_has ls 4 [(0, .ref (b 0)), (1, .int (nI k))] := hl
  refine lv_aload_n hx hb dX1_reached_0 rfl (lv_at hl 0 rfl) ?_
  refine s_get hx hb hts hts1 hown hK (hP0.up (nA_up hS)) 0 (by decide) (by decide +kernel) rfl rfl dX1_reached_1 ?_
  refine s_alenR hx hb hK (si_p (hP0.up (nA_up hS))) dX1_reached_4 ?_
  refine s_newZ hx hb (hts (.arrayClass .boolean) (by decide +kernel)) hK hS (N := mn τ) (by omega) (by decide) (by show 0 + mn τ ≤ 40; omega) dX1_reached_5 (fun zq H hzq _ _ hZ hS => ?_)
  have hz : nA s zq := by rw [hzq]; exact hS0.1
  refine lv_astore_n (lv' := [(2, .ref zq), (0, .ref (b 0)), (1, .int (nI k))]) hx hb dX1_reached_7 rfl hl (by decide) rfl (fun ls hl => ?_)
  refine lv_aload_n hx hb dX1_reached_8 rfl (lv_at hl 0 rfl) ?_
  refine lv_iload_n hx hb dX1_reached_9 rfl (lv_at hl 2 rfl) ?_
  refine lv_iconst (v := 1) hx hb dX1_reached_10 (by decide) ?_
  refine s_zst (x := true) hx hb hK hZ hz hS (k := k) (by omega) (by omega) (f' := va_up (fun _ => false) k true) rfl dX1_reached_11 (fun H locs _ _ hZ hS => ?_)
  refine lv_iload_n hx hb dX1_reached_12 rfl (lv_at hl 2 rfl) ?_
  refine lv_istore_n (lv' := [(3, .int (nI k)), (2, .ref zq), (0, .ref (b 0)), (1, .int (nI k))]) hx hb dX1_reached_13 rfl hl (by decide) rfl (fun ls hl => ?_)
  have key : ∀ (d j : Nat) (H : Heap) (locs : List Loc) (ls : Array Slot), j + d = k + 1 → va_S (nA s) s.heap H locs → gP E [(zq, gZb E (mn τ) (rc τ k j))] H → lv_has ls 4 [(3, .int (nI d + (-1))), (2, .ref zq), (0, .ref (b 0)), (1, .int (nI k))] → W p l e (headSpec wsX1_reached { frames := 1, cells := 1, slots := 40, locals := 21 }).room s m [.ref (b 0), .int (nI k)].toArray below meth c H locs (0 + 1) (0 + mn τ) (MQ below (gQRZ E (mn τ) (bitL (mr τ k))) [.ref (b 0), .int (nI k)].toArray s 1 40 (fun _ => False)) (F0 m 14 ls []) := by
    intro d
    induction d with
    | zero =>
      intro j H locs ls hj hS hZ hl
      obtain rfl : j = k + 1 := by omega
      rw [show rc τ k (k + 1) = bitL (mr τ k) from funext (h.rcA hk)] at hZ
      refine lv_iload_n hx hb dX1_reached_14 rfl (lv_at hl 0 rfl) ?_
      refine lv_if_lt (tgt := 63) hx hb dX1_reached_15 (by decide) (fun _ => ?_) (fun q => absurd ((by decide)) q)
      refine lv_aload_n hx hb dX1_reached_63 rfl (lv_at hl 1 rfl) ?_
      refine va_forget (fun q hq => hS.2.2 q hq) ?_
      refine W.widen (k := 1) (n := 40) (by omega) (by omega) ?_
      exact W.aret (v := .ref zq) (rt := .array .boolean) hx hb hr (Or.inr ⟨_, rfl⟩) (Or.inr ⟨_, rfl⟩) (fun t ht hW => ⟨⟨(), _, rfl, trivial, by show gP E _ t.heap; rw [ht]; exact hZ⟩, (oF hS ht)⟩) (fun _ h => nomatch h) dX1_reached_64
    | succ d ih =>
      intro j H locs ls hj hS hZ hl
      rw [pk_m1 d] at hl
      have e : k - j = d := by omega
      refine lv_iload_n hx hb dX1_reached_14 rfl (lv_at hl 0 rfl) ?_
      refine lv_if_lt (tgt := 63) hx hb dX1_reached_15 (by decide) (fun q => absurd q ((nI_pos (by omega)))) (fun _ => ?_)
      refine lv_aload_n hx hb dX1_reached_18 rfl (lv_at hl 1 rfl) ?_
      refine lv_iload_n hx hb dX1_reached_19 rfl (lv_at hl 0 rfl) ?_
      refine s_zld hx hb hK hZ (k := d) (by omega) (by omega) (v := b2i ((rc τ k j) d)) rfl dX1_reached_20 ?_
      refine lv_if_eq (tgt := 57) hx hb dX1_reached_21 (by decide) (fun c21 => ?_) (fun c21 => ?_)
      · refine lv_iinc (v := nI d + -1) (lv' := [(3, .int (nI d + -1)), (2, .ref zq), (0, .ref (b 0)), (1, .int (nI k))]) hx hb dX1_reached_57 hl (k := 0) rfl rfl (by decide) rfl (fun ls hl => ?_)
        refine lv_goto (tgt := 14) hx hb dX1_reached_60 (by decide) ?_
        exact ih (j + 1) H locs ls (by omega) hS (by first | (rw [rc, e, if_neg (by rw [b2i_eq0.mp c21, Bool.false_and]; decide)]; exact hZ) | (rw [rc, e, if_neg (by rw [b2i_eq0.mp c29, Bool.and_false]; decide)]; exact hZ) | (rw [rc, e, if_pos (by rw [b2i_ne0.mp c21, b2i_ne0.mp c29]; rfl)]; exact hZ)) (lv_sub hl [0, 1, 2, 3] rfl)
      · refine lv_aload_n hx hb dX1_reached_24 rfl (lv_at hl 2 rfl) ?_
        refine lv_iload_n hx hb dX1_reached_25 rfl (lv_at hl 0 rfl) ?_
        refine s0p (As := [.int (nI d)]) (rest := []) S (c_isFork l E b σ τ h d (by omega)) (cwV 1 hts gX1_reached_X1_isFork rfl rfl rfl hdX1_isFork ⟨Nat.le_of_ble_eq_true rfl, Nat.le_of_ble_eq_true rfl⟩) hK (hP0.up (nA_up hS)) rfl hl.1 rfl (Nat.le_of_ble_eq_true rfl) ⟨by show 0 + 1 ≤ 1; omega, by show 0 + mn τ ≤ 40; omega⟩ dX1_reached_26 ?_
        refine lv_if_ne (tgt := 35) hx hb dX1_reached_29 (by decide) (fun c29 => ?_) (fun c29 => ?_)
        · have hf : mf τ d = true := b2i_ne0.mp c29
          obtain ⟨_, _, g3, g4, _⟩ := h.f hf
          refine lv_aload_n hx hb dX1_reached_35 rfl (lv_at hl 1 rfl) ?_
          refine lv_aload_n hx hb dX1_reached_36 rfl (lv_at hl 2 rfl) ?_
          refine s_get hx hb hts hts1 hown hK (hP0.up (nA_up hS)) 0 (by decide) (by decide +kernel) rfl rfl dX1_reached_37 ?_
          refine lv_iload_n hx hb dX1_reached_40 rfl (lv_at hl 0 rfl) ?_
          refine s_ald hx hb hK (si_p (hP0.up (nA_up hS))) (k := d) (by omega) (by omega) rfl dX1_reached_41 ?_
          refine lv_iconst (v := 1) hx hb dX1_reached_42 (by decide) ?_
          refine s_ild hx hb hK (si_r (hP0.up (nA_up hS)) (p := d) (by omega)) (k := 1) (by decide) (by decide) (v := nI (mo τ d)) rfl dX1_reached_43 ?_
          refine lv_iconst (v := 1) hx hb dX1_reached_44 (by decide) ?_
          refine s_zst (x := true) hx hb hK hZ hz hS (k := mo τ d) (by omega) (by omega) (f' := va_up (rc τ k j) (mo τ d) true) rfl dX1_reached_45 (fun H locs _ _ hZ hS => ?_)
          refine lv_aload_n hx hb dX1_reached_46 rfl (lv_at hl 1 rfl) ?_
          refine lv_aload_n hx hb dX1_reached_47 rfl (lv_at hl 2 rfl) ?_
          refine s_get hx hb hts hts1 hown hK (hP0.up (nA_up hS)) 0 (by decide) (by decide +kernel) rfl rfl dX1_reached_48 ?_
          refine lv_iload_n hx hb dX1_reached_51 rfl (lv_at hl 0 rfl) ?_
          refine s_ald hx hb hK (si_p (hP0.up (nA_up hS))) (k := d) (by omega) (by omega) rfl dX1_reached_52 ?_
          refine lv_iconst (v := 2) hx hb dX1_reached_53 (by decide) ?_
          refine s_ild hx hb hK (si_r (hP0.up (nA_up hS)) (p := d) (by omega)) (k := 2) (by decide) (by decide) (v := nI (mh τ d)) rfl dX1_reached_54 ?_
          refine lv_iconst (v := 1) hx hb dX1_reached_55 (by decide) ?_
          refine s_zst (x := true) hx hb hK hZ hz hS (k := mh τ d) (by omega) (by omega) (f' := va_up (va_up (rc τ k j) (mo τ d) true) (mh τ d) true) rfl dX1_reached_56 (fun H locs _ _ hZ hS => ?_)
          refine lv_iinc (v := nI d + -1) (lv' := [(3, .int (nI d + -1)), (2, .ref zq), (0, .ref (b 0)), (1, .int (nI k))]) hx hb dX1_reached_57 hl (k := 0) rfl rfl (by decide) rfl (fun ls hl => ?_)
          refine lv_goto (tgt := 14) hx hb dX1_reached_60 (by decide) ?_
          exact ih (j + 1) H locs ls (by omega) hS (by first | (rw [rc, e, if_neg (by rw [b2i_eq0.mp c21, Bool.false_and]; decide)]; exact hZ) | (rw [rc, e, if_neg (by rw [b2i_eq0.mp c29, Bool.and_false]; decide)]; exact hZ) | (rw [rc, e, if_pos (by rw [b2i_ne0.mp c21, b2i_ne0.mp c29]; rfl)]; exact hZ)) (lv_sub hl [0, 1, 2, 3] rfl)
        · refine lv_goto (tgt := 57) hx hb dX1_reached_32 (by decide) ?_
          refine lv_iinc (v := nI d + -1) (lv' := [(3, .int (nI d + -1)), (2, .ref zq), (0, .ref (b 0)), (1, .int (nI k))]) hx hb dX1_reached_57 hl (k := 0) rfl rfl (by decide) rfl (fun ls hl => ?_)
          refine lv_goto (tgt := 14) hx hb dX1_reached_60 (by decide) ?_
          exact ih (j + 1) H locs ls (by omega) hS (by first | (rw [rc, e, if_neg (by rw [b2i_eq0.mp c21, Bool.false_and]; decide)]; exact hZ) | (rw [rc, e, if_neg (by rw [b2i_eq0.mp c29, Bool.and_false]; decide)]; exact hZ) | (rw [rc, e, if_pos (by rw [b2i_ne0.mp c21, b2i_ne0.mp c29]; rfl)]; exact hZ)) (lv_sub hl [0, 1, 2, 3] rfl)
  exact key (k + 1) 0 H _ ls (by omega) hS hZ (by rw [pk_m1]; exact lv_sub hl [0, 1, 2, 3] rfl)
theorem hinX1_best : ∀ w ∈ wsX10, w ∈ wsX1_best := fun w h => List.mem_cons_of_mem _ (List.mem_append_right _ h)
theorem hdX1_best : yX1_best.cls = RX1 ∧ yX1_best.cls ≠ "java/lang/invoke/MethodHandle" ∧ yX1_best.cls ≠ "java/lang/invoke/VarHandle" ∧ (parseMethodDescriptor yX1_best.desc).map (fun d => d.parameters.length) = some 2 := by decide +kernel
set_option maxHeartbeats 4000000 in
set_option maxRecDepth 100000 in
theorem c_best (l : Launch) (E : GE) (b : Nat → Nat) (σ : GS) (τ : MS) (h : RR σ τ) (k : Nat) (hk : k < mn τ) (w : Bool) : Met l yX1_best wsX1_best { frames := 2, cells := 1, slots := 40, locals := 44 } (va_Pc [.ref (b 0), .int (nI k), .int (b2i w)] (gH E (si_P E b τ))) (gQN (if w then gho σ k else gsu σ k)) 1 40 (fun _ => False) := by
  refine w_met (cc := cX1_best) (maxL := 7) (ret := (some .int)) (by decide) rfl (Nat.le_of_ble_eq_true rfl) ?_
  intro p e s m below meth c ls S hr hlocks hname hB hl
  obtain ⟨hP0, hK⟩ := hB
  have hS : va_S (nA s) s.heap s.heap [] := va_S.rf
  obtain ⟨hx, hb, hml, hown, hts⟩ := id S
  have n4 := h.1.1
  have k8 := h.1.2.1
  have hts1 := hinX1_best
  rcases w with _ | _
  · have hl : lv_has ls 7 [(0, .ref (b 0)), (1, .int (nI k)), (2, .int (b2i false))] := hl
    refine lv_aload_n hx hb dX1_best_0 rfl (lv_at hl 0 rfl) ?_
    refine lv_iload_n hx hb dX1_best_1 rfl (lv_at hl 1 rfl) ?_
    refine s0z (As := [.int (nI k)]) (rest := []) S (c_reached l E b σ τ h k (by omega)) (cwV 1 hts gX1_best_X1_reached rfl rfl rfl hdX1_reached ⟨Nat.le_of_ble_eq_true rfl, Nat.le_of_ble_eq_true rfl⟩) hK (hP0.up (nA_up hS)) hS rfl hl.1 rfl (Nat.le_of_ble_eq_true rfl) ⟨by show 0 + 1 ≤ 1; omega, by show 0 + 40 ≤ 40; omega⟩ dX1_best_2 (fun zq H locs _ hkp hZ hS => ?_)
    refine lv_astore_n (lv' := [(3, .ref zq), (0, .ref (b 0)), (1, .int (nI k)), (2, .int (b2i false))]) hx hb dX1_best_5 rfl hl (by decide) rfl (fun ls hl => ?_)
    refine lv_iconst (v := -1) hx hb dX1_best_6 (by decide) ?_
    refine lv_istore (lv' := [(4, .int ((-1))), (3, .ref zq), (0, .ref (b 0)), (1, .int (nI k)), (2, .int (b2i false))]) hx hb dX1_best_7 hl (by decide) rfl (fun ls hl => ?_)
    refine lv_iconst (v := 0) hx hb dX1_best_9 (by decide) ?_
    refine lv_istore (lv' := [(5, .int 0), (4, .int ((-1))), (3, .ref zq), (0, .ref (b 0)), (1, .int (nI k)), (2, .int (b2i false))]) hx hb dX1_best_10 hl (by decide) rfl (fun ls hl => ?_)
    have key : ∀ (d i : Nat) (x : Int32) (ls : Array Slot), i + d = k + 1 → x = bst (mEx τ k) (gsu σ) i → lv_has ls 7 [(5, .int (nI i)), (4, .int x), (3, .ref zq), (0, .ref (b 0)), (1, .int (nI k)), (2, .int (b2i false))] → W p l e (headSpec wsX1_best { frames := 2, cells := 1, slots := 40, locals := 44 }).room s m [.ref (b 0), .int (nI k), .int (b2i false)].toArray below meth c H locs (0 + 1) (0 + 40) (MQ below (gQN (if false then gho σ k else gsu σ k)) [.ref (b 0), .int (nI k), .int (b2i false)].toArray s 1 40 (fun _ => False)) (F0 m 12 ls []) := by
      intro d
      induction d with
      | zero =>
        intro i x ls hi hinv hl
        obtain rfl : i = k + 1 := by omega
        refine lv_iload hx hb dX1_best_12 (lv_at hl 0 rfl) ?_
        refine lv_iload_n hx hb dX1_best_14 rfl (lv_at hl 4 rfl) ?_
        refine lv_icmp_gt (tgt := 99) hx hb dX1_best_15 (by decide) (fun _ => ?_) (fun q => absurd ((nI_lt (by omega) (by omega))) q)
        refine lv_iload hx hb dX1_best_99 (lv_at hl 1 rfl) ?_
        refine va_forget (fun q hq => hS.2.2 q hq) ?_
        refine W.widen (k := 1) (n := 40) (by omega) (by omega) ?_
        exact W.iret hx hb hr (fun t ht hW => ⟨⟨_, (), rfl, (hinv.trans (h.bsu hk)), trivial⟩, (oF hS ht)⟩) (fun _ h => nomatch h) dX1_best_101
      | succ d ih =>
        intro i x ls hi hinv hl
        refine lv_iload hx hb dX1_best_12 (lv_at hl 0 rfl) ?_
        refine lv_iload_n hx hb dX1_best_14 rfl (lv_at hl 4 rfl) ?_
        refine lv_icmp_gt (tgt := 99) hx hb dX1_best_15 (by decide) (fun q => absurd q ((nI_nlt (by omega) (by omega)))) (fun _ => ?_)
        refine lv_aload_n hx hb dX1_best_18 rfl (lv_at hl 2 rfl) ?_
        refine lv_iload hx hb dX1_best_19 (lv_at hl 0 rfl) ?_
        refine s_zld hx hb hK hZ (k := i) (by omega) (by omega) (v := b2i ((bitL (mr τ k)) i)) rfl dX1_best_21 ?_
        refine lv_if_eq (tgt := 93) hx hb dX1_best_22 (by decide) (fun c22 => ?_) (fun c22 => ?_)
        · refine lv_iinc (v := nI (i + 1)) (lv' := [(5, .int (nI (i + 1))), (4, .int x), (3, .ref zq), (0, .ref (b 0)), (1, .int (nI k)), (2, .int (b2i false))]) hx hb dX1_best_93 hl (k := 0) rfl (nI_1 i) (by decide) rfl (fun ls hl => ?_)
          refine lv_goto (tgt := 12) hx hb dX1_best_96 (by decide) ?_
          exact ih (i + 1) x ls (by omega) (by first | (rw [bst, if_neg (by rw [mEx, b2i_eq0.mp c22, Bool.false_and]; decide)]; exact hinv) | (rw [bst, if_neg (by rw [mEx, b2i_ne0.mp c31, Bool.not_true, Bool.and_false]; decide)]; exact hinv) | (rw [bst, if_pos hex, hu, ← hinv, imx, if_neg (Int32.not_lt.mpr c81)]) | (rw [bst, if_pos hex, hu, ← hinv, imx, if_pos (Int32.not_le.mp c81)])) (lv_sub hl [0, 1, 2, 3, 4, 5] rfl)
        · refine lv_aload_n hx hb dX1_best_25 rfl (lv_at hl 3 rfl) ?_
          refine lv_iload hx hb dX1_best_26 (lv_at hl 0 rfl) ?_
          refine s0p (As := [.int (nI i)]) (rest := []) S (c_isFork l E b σ τ h i (by omega)) (cwV 1 hts gX1_best_X1_isFork rfl rfl rfl hdX1_isFork ⟨Nat.le_of_ble_eq_true rfl, Nat.le_of_ble_eq_true rfl⟩) hK (hP0.up (nA_up hS)) rfl hl.1 rfl (Nat.le_of_ble_eq_true rfl) ⟨by show 0 + 1 ≤ 1; omega, by show 0 + 40 ≤ 40; omega⟩ dX1_best_28 ?_
          refine lv_if_eq (tgt := 37) hx hb dX1_best_31 (by decide) (fun c31 => ?_) (fun c31 => ?_)
          · have hf : mf τ i = false := b2i_eq0.mp c31
            have hex : mEx τ k i = true := by rw [mEx, b2i_ne0.mp c22, hf]; rfl
            refine lv_aload_n hx hb dX1_best_37 rfl (lv_at hl 3 rfl) ?_
            refine lv_iload hx hb dX1_best_38 (lv_at hl 0 rfl) ?_
            refine s0p (As := [.int (nI i)]) (rest := []) S (c_isGradedS l E b σ τ h i (by omega)) (cwV 1 hts gX1_best_X1_isGraded rfl rfl rfl hdX1_isGraded ⟨Nat.le_of_ble_eq_true rfl, Nat.le_of_ble_eq_true rfl⟩) hK (hP0.up (nA_up hS)) rfl hl.1 rfl (Nat.le_of_ble_eq_true rfl) ⟨by show 0 + 1 ≤ 1; omega, by show 0 + 40 ≤ 40; omega⟩ dX1_best_40 ?_
            refine lv_if_eq (tgt := 58) hx hb dX1_best_43 (by decide) (fun c43 => ?_) (fun c43 => ?_)
            · have hu : gsu σ i = nI (mo τ i) := ((h.su (by omega) hf).2 (b2i_eq0.mp c43)).1
              refine lv_aload_n hx hb dX1_best_58 rfl (lv_at hl 3 rfl) ?_
              refine s_get hx hb hts hts1 hown hK (hP0.up (nA_up hS)) 0 (by decide) (by decide +kernel) rfl rfl dX1_best_59 ?_
              refine lv_iload hx hb dX1_best_62 (lv_at hl 0 rfl) ?_
              refine s_ald hx hb hK (si_p (hP0.up (nA_up hS))) (k := i) (by omega) (by omega) rfl dX1_best_64 ?_
              refine lv_iload_n hx hb dX1_best_65 rfl (lv_at hl 5 rfl) ?_
              refine lv_if_eq (tgt := 73) hx hb dX1_best_66 (by decide) (fun _ => ?_) (fun q => absurd ((rfl : b2i false = 0)) q)
              refine lv_iconst (v := 1) hx hb dX1_best_73 (by decide) ?_
              refine s_ild hx hb hK (si_r (hP0.up (nA_up hS)) (p := i) (by omega)) (k := 1) (by decide) (by decide) (v := nI (mo τ i)) rfl dX1_best_74 ?_
              refine lv_istore (lv' := [(6, .int (nI (mo τ i))), (5, .int (nI i)), (4, .int x), (3, .ref zq), (0, .ref (b 0)), (1, .int (nI k)), (2, .int (b2i false))]) hx hb dX1_best_75 hl (by decide) rfl (fun ls hl => ?_)
              refine lv_iload hx hb dX1_best_77 (lv_at hl 0 rfl) ?_
              refine lv_iload hx hb dX1_best_79 (lv_at hl 2 rfl) ?_
              refine lv_icmp_le (tgt := 89) hx hb dX1_best_81 (by decide) (fun c81 => ?_) (fun c81 => ?_)
              · refine lv_iload hx hb dX1_best_89 (lv_at hl 2 rfl) ?_
                refine lv_istore (lv' := [(4, .int x), (6, .int (nI (mo τ i))), (5, .int (nI i)), (3, .ref zq), (0, .ref (b 0)), (1, .int (nI k)), (2, .int (b2i false))]) hx hb dX1_best_91 hl (by decide) rfl (fun ls hl => ?_)
                refine lv_iinc (v := nI (i + 1)) (lv' := [(5, .int (nI (i + 1))), (4, .int x), (6, .int (nI (mo τ i))), (3, .ref zq), (0, .ref (b 0)), (1, .int (nI k)), (2, .int (b2i false))]) hx hb dX1_best_93 hl (k := 2) rfl (nI_1 i) (by decide) rfl (fun ls hl => ?_)
                refine lv_goto (tgt := 12) hx hb dX1_best_96 (by decide) ?_
                exact ih (i + 1) x ls (by omega) (by first | (rw [bst, if_neg (by rw [mEx, b2i_eq0.mp c22, Bool.false_and]; decide)]; exact hinv) | (rw [bst, if_neg (by rw [mEx, b2i_ne0.mp c31, Bool.not_true, Bool.and_false]; decide)]; exact hinv) | (rw [bst, if_pos hex, hu, ← hinv, imx, if_neg (Int32.not_lt.mpr c81)]) | (rw [bst, if_pos hex, hu, ← hinv, imx, if_pos (Int32.not_le.mp c81)])) (lv_sub hl [0, 1, 3, 4, 5, 6] rfl)
              · refine lv_iload hx hb dX1_best_84 (lv_at hl 0 rfl) ?_
                refine lv_goto (tgt := 91) hx hb dX1_best_86 (by decide) ?_
                refine lv_istore (lv' := [(4, .int (nI (mo τ i))), (6, .int (nI (mo τ i))), (5, .int (nI i)), (3, .ref zq), (0, .ref (b 0)), (1, .int (nI k)), (2, .int (b2i false))]) hx hb dX1_best_91 hl (by decide) rfl (fun ls hl => ?_)
                refine lv_iinc (v := nI (i + 1)) (lv' := [(5, .int (nI (i + 1))), (4, .int (nI (mo τ i))), (6, .int (nI (mo τ i))), (3, .ref zq), (0, .ref (b 0)), (1, .int (nI k)), (2, .int (b2i false))]) hx hb dX1_best_93 hl (k := 2) rfl (nI_1 i) (by decide) rfl (fun ls hl => ?_)
                refine lv_goto (tgt := 12) hx hb dX1_best_96 (by decide) ?_
                exact ih (i + 1) (nI (mo τ i)) ls (by omega) (by first | (rw [bst, if_neg (by rw [mEx, b2i_eq0.mp c22, Bool.false_and]; decide)]; exact hinv) | (rw [bst, if_neg (by rw [mEx, b2i_ne0.mp c31, Bool.not_true, Bool.and_false]; decide)]; exact hinv) | (rw [bst, if_pos hex, hu, ← hinv, imx, if_neg (Int32.not_lt.mpr c81)]) | (rw [bst, if_pos hex, hu, ← hinv, imx, if_pos (Int32.not_le.mp c81)])) (lv_sub hl [0, 1, 3, 4, 5, 6] rfl)
            · have hu : gsu σ i = md τ i := ((h.su (by omega) hf).1 (b2i_ne0.mp c43)).1
              refine lv_aload_n hx hb dX1_best_46 rfl (lv_at hl 3 rfl) ?_
              refine s_get hx hb hts hts1 hown hK (hP0.up (nA_up hS)) 0 (by decide) (by decide +kernel) rfl rfl dX1_best_47 ?_
              refine lv_iload hx hb dX1_best_50 (lv_at hl 0 rfl) ?_
              refine s_ald hx hb hK (si_p (hP0.up (nA_up hS))) (k := i) (by omega) (by omega) rfl dX1_best_52 ?_
              refine lv_iconst (v := 3) hx hb dX1_best_53 (by decide) ?_
              refine s_ild hx hb hK (si_r (hP0.up (nA_up hS)) (p := i) (by omega)) (k := 3) (by decide) (by decide) (v := md τ i) rfl dX1_best_54 ?_
              refine lv_goto (tgt := 75) hx hb dX1_best_55 (by decide) ?_
              refine lv_istore (lv' := [(6, .int (md τ i)), (5, .int (nI i)), (4, .int x), (3, .ref zq), (0, .ref (b 0)), (1, .int (nI k)), (2, .int (b2i false))]) hx hb dX1_best_75 hl (by decide) rfl (fun ls hl => ?_)
              refine lv_iload hx hb dX1_best_77 (lv_at hl 0 rfl) ?_
              refine lv_iload hx hb dX1_best_79 (lv_at hl 2 rfl) ?_
              refine lv_icmp_le (tgt := 89) hx hb dX1_best_81 (by decide) (fun c81 => ?_) (fun c81 => ?_)
              · refine lv_iload hx hb dX1_best_89 (lv_at hl 2 rfl) ?_
                refine lv_istore (lv' := [(4, .int x), (6, .int (md τ i)), (5, .int (nI i)), (3, .ref zq), (0, .ref (b 0)), (1, .int (nI k)), (2, .int (b2i false))]) hx hb dX1_best_91 hl (by decide) rfl (fun ls hl => ?_)
                refine lv_iinc (v := nI (i + 1)) (lv' := [(5, .int (nI (i + 1))), (4, .int x), (6, .int (md τ i)), (3, .ref zq), (0, .ref (b 0)), (1, .int (nI k)), (2, .int (b2i false))]) hx hb dX1_best_93 hl (k := 2) rfl (nI_1 i) (by decide) rfl (fun ls hl => ?_)
                refine lv_goto (tgt := 12) hx hb dX1_best_96 (by decide) ?_
                exact ih (i + 1) x ls (by omega) (by first | (rw [bst, if_neg (by rw [mEx, b2i_eq0.mp c22, Bool.false_and]; decide)]; exact hinv) | (rw [bst, if_neg (by rw [mEx, b2i_ne0.mp c31, Bool.not_true, Bool.and_false]; decide)]; exact hinv) | (rw [bst, if_pos hex, hu, ← hinv, imx, if_neg (Int32.not_lt.mpr c81)]) | (rw [bst, if_pos hex, hu, ← hinv, imx, if_pos (Int32.not_le.mp c81)])) (lv_sub hl [0, 1, 3, 4, 5, 6] rfl)
              · refine lv_iload hx hb dX1_best_84 (lv_at hl 0 rfl) ?_
                refine lv_goto (tgt := 91) hx hb dX1_best_86 (by decide) ?_
                refine lv_istore (lv' := [(4, .int (md τ i)), (6, .int (md τ i)), (5, .int (nI i)), (3, .ref zq), (0, .ref (b 0)), (1, .int (nI k)), (2, .int (b2i false))]) hx hb dX1_best_91 hl (by decide) rfl (fun ls hl => ?_)
                refine lv_iinc (v := nI (i + 1)) (lv' := [(5, .int (nI (i + 1))), (4, .int (md τ i)), (6, .int (md τ i)), (3, .ref zq), (0, .ref (b 0)), (1, .int (nI k)), (2, .int (b2i false))]) hx hb dX1_best_93 hl (k := 2) rfl (nI_1 i) (by decide) rfl (fun ls hl => ?_)
                refine lv_goto (tgt := 12) hx hb dX1_best_96 (by decide) ?_
                exact ih (i + 1) (md τ i) ls (by omega) (by first | (rw [bst, if_neg (by rw [mEx, b2i_eq0.mp c22, Bool.false_and]; decide)]; exact hinv) | (rw [bst, if_neg (by rw [mEx, b2i_ne0.mp c31, Bool.not_true, Bool.and_false]; decide)]; exact hinv) | (rw [bst, if_pos hex, hu, ← hinv, imx, if_neg (Int32.not_lt.mpr c81)]) | (rw [bst, if_pos hex, hu, ← hinv, imx, if_pos (Int32.not_le.mp c81)])) (lv_sub hl [0, 1, 3, 4, 5, 6] rfl)
          · refine lv_goto (tgt := 93) hx hb dX1_best_34 (by decide) ?_
            refine lv_iinc (v := nI (i + 1)) (lv' := [(5, .int (nI (i + 1))), (4, .int x), (3, .ref zq), (0, .ref (b 0)), (1, .int (nI k)), (2, .int (b2i false))]) hx hb dX1_best_93 hl (k := 0) rfl (nI_1 i) (by decide) rfl (fun ls hl => ?_)
            refine lv_goto (tgt := 12) hx hb dX1_best_96 (by decide) ?_
            exact ih (i + 1) x ls (by omega) (by first | (rw [bst, if_neg (by rw [mEx, b2i_eq0.mp c22, Bool.false_and]; decide)]; exact hinv) | (rw [bst, if_neg (by rw [mEx, b2i_ne0.mp c31, Bool.not_true, Bool.and_false]; decide)]; exact hinv) | (rw [bst, if_pos hex, hu, ← hinv, imx, if_neg (Int32.not_lt.mpr c81)]) | (rw [bst, if_pos hex, hu, ← hinv, imx, if_pos (Int32.not_le.mp c81)])) (lv_sub hl [0, 1, 2, 3, 4, 5] rfl)
    exact key (k + 1) 0 (-1) ls (by omega) rfl (lv_sub hl [0, 1, 2, 3, 4, 5] rfl)
  · have hl : lv_has ls 7 [(0, .ref (b 0)), (1, .int (nI k)), (2, .int (b2i true))] := hl
    refine lv_aload_n hx hb dX1_best_0 rfl (lv_at hl 0 rfl) ?_
    refine lv_iload_n hx hb dX1_best_1 rfl (lv_at hl 1 rfl) ?_
    refine s0z (As := [.int (nI k)]) (rest := []) S (c_reached l E b σ τ h k (by omega)) (cwV 1 hts gX1_best_X1_reached rfl rfl rfl hdX1_reached ⟨Nat.le_of_ble_eq_true rfl, Nat.le_of_ble_eq_true rfl⟩) hK (hP0.up (nA_up hS)) hS rfl hl.1 rfl (Nat.le_of_ble_eq_true rfl) ⟨by show 0 + 1 ≤ 1; omega, by show 0 + 40 ≤ 40; omega⟩ dX1_best_2 (fun zq H locs _ hkp hZ hS => ?_)
    refine lv_astore_n (lv' := [(3, .ref zq), (0, .ref (b 0)), (1, .int (nI k)), (2, .int (b2i true))]) hx hb dX1_best_5 rfl hl (by decide) rfl (fun ls hl => ?_)
    refine lv_iconst (v := -1) hx hb dX1_best_6 (by decide) ?_
    refine lv_istore (lv' := [(4, .int ((-1))), (3, .ref zq), (0, .ref (b 0)), (1, .int (nI k)), (2, .int (b2i true))]) hx hb dX1_best_7 hl (by decide) rfl (fun ls hl => ?_)
    refine lv_iconst (v := 0) hx hb dX1_best_9 (by decide) ?_
    refine lv_istore (lv' := [(5, .int 0), (4, .int ((-1))), (3, .ref zq), (0, .ref (b 0)), (1, .int (nI k)), (2, .int (b2i true))]) hx hb dX1_best_10 hl (by decide) rfl (fun ls hl => ?_)
    have key : ∀ (d i : Nat) (x : Int32) (ls : Array Slot), i + d = k + 1 → x = bst (mEx τ k) (gho σ) i → lv_has ls 7 [(5, .int (nI i)), (4, .int x), (3, .ref zq), (0, .ref (b 0)), (1, .int (nI k)), (2, .int (b2i true))] → W p l e (headSpec wsX1_best { frames := 2, cells := 1, slots := 40, locals := 44 }).room s m [.ref (b 0), .int (nI k), .int (b2i true)].toArray below meth c H locs (0 + 1) (0 + 40) (MQ below (gQN (if true then gho σ k else gsu σ k)) [.ref (b 0), .int (nI k), .int (b2i true)].toArray s 1 40 (fun _ => False)) (F0 m 12 ls []) := by
      intro d
      induction d with
      | zero =>
        intro i x ls hi hinv hl
        obtain rfl : i = k + 1 := by omega
        refine lv_iload hx hb dX1_best_12 (lv_at hl 0 rfl) ?_
        refine lv_iload_n hx hb dX1_best_14 rfl (lv_at hl 4 rfl) ?_
        refine lv_icmp_gt (tgt := 99) hx hb dX1_best_15 (by decide) (fun _ => ?_) (fun q => absurd ((nI_lt (by omega) (by omega))) q)
        refine lv_iload hx hb dX1_best_99 (lv_at hl 1 rfl) ?_
        refine va_forget (fun q hq => hS.2.2 q hq) ?_
        refine W.widen (k := 1) (n := 40) (by omega) (by omega) ?_
        exact W.iret hx hb hr (fun t ht hW => ⟨⟨_, (), rfl, (hinv.trans (h.bho hk)), trivial⟩, (oF hS ht)⟩) (fun _ h => nomatch h) dX1_best_101
      | succ d ih =>
        intro i x ls hi hinv hl
        refine lv_iload hx hb dX1_best_12 (lv_at hl 0 rfl) ?_
        refine lv_iload_n hx hb dX1_best_14 rfl (lv_at hl 4 rfl) ?_
        refine lv_icmp_gt (tgt := 99) hx hb dX1_best_15 (by decide) (fun q => absurd q ((nI_nlt (by omega) (by omega)))) (fun _ => ?_)
        refine lv_aload_n hx hb dX1_best_18 rfl (lv_at hl 2 rfl) ?_
        refine lv_iload hx hb dX1_best_19 (lv_at hl 0 rfl) ?_
        refine s_zld hx hb hK hZ (k := i) (by omega) (by omega) (v := b2i ((bitL (mr τ k)) i)) rfl dX1_best_21 ?_
        refine lv_if_eq (tgt := 93) hx hb dX1_best_22 (by decide) (fun c22 => ?_) (fun c22 => ?_)
        · refine lv_iinc (v := nI (i + 1)) (lv' := [(5, .int (nI (i + 1))), (4, .int x), (3, .ref zq), (0, .ref (b 0)), (1, .int (nI k)), (2, .int (b2i true))]) hx hb dX1_best_93 hl (k := 0) rfl (nI_1 i) (by decide) rfl (fun ls hl => ?_)
          refine lv_goto (tgt := 12) hx hb dX1_best_96 (by decide) ?_
          exact ih (i + 1) x ls (by omega) (by first | (rw [bst, if_neg (by rw [mEx, b2i_eq0.mp c22, Bool.false_and]; decide)]; exact hinv) | (rw [bst, if_neg (by rw [mEx, b2i_ne0.mp c31, Bool.not_true, Bool.and_false]; decide)]; exact hinv) | (rw [bst, if_pos hex, hu, ← hinv, imx, if_neg (Int32.not_lt.mpr c81)]) | (rw [bst, if_pos hex, hu, ← hinv, imx, if_pos (Int32.not_le.mp c81)])) (lv_sub hl [0, 1, 2, 3, 4, 5] rfl)
        · refine lv_aload_n hx hb dX1_best_25 rfl (lv_at hl 3 rfl) ?_
          refine lv_iload hx hb dX1_best_26 (lv_at hl 0 rfl) ?_
          refine s0p (As := [.int (nI i)]) (rest := []) S (c_isFork l E b σ τ h i (by omega)) (cwV 1 hts gX1_best_X1_isFork rfl rfl rfl hdX1_isFork ⟨Nat.le_of_ble_eq_true rfl, Nat.le_of_ble_eq_true rfl⟩) hK (hP0.up (nA_up hS)) rfl hl.1 rfl (Nat.le_of_ble_eq_true rfl) ⟨by show 0 + 1 ≤ 1; omega, by show 0 + 40 ≤ 40; omega⟩ dX1_best_28 ?_
          refine lv_if_eq (tgt := 37) hx hb dX1_best_31 (by decide) (fun c31 => ?_) (fun c31 => ?_)
          · have hf : mf τ i = false := b2i_eq0.mp c31
            have hex : mEx τ k i = true := by rw [mEx, b2i_ne0.mp c22, hf]; rfl
            refine lv_aload_n hx hb dX1_best_37 rfl (lv_at hl 3 rfl) ?_
            refine lv_iload hx hb dX1_best_38 (lv_at hl 0 rfl) ?_
            refine s0p (As := [.int (nI i)]) (rest := []) S (c_isGradedS l E b σ τ h i (by omega)) (cwV 1 hts gX1_best_X1_isGraded rfl rfl rfl hdX1_isGraded ⟨Nat.le_of_ble_eq_true rfl, Nat.le_of_ble_eq_true rfl⟩) hK (hP0.up (nA_up hS)) rfl hl.1 rfl (Nat.le_of_ble_eq_true rfl) ⟨by show 0 + 1 ≤ 1; omega, by show 0 + 40 ≤ 40; omega⟩ dX1_best_40 ?_
            refine lv_if_eq (tgt := 58) hx hb dX1_best_43 (by decide) (fun c43 => ?_) (fun c43 => ?_)
            · have hu : gho σ i = nI (mh τ i) := ((h.su (by omega) hf).2 (b2i_eq0.mp c43)).2.1
              refine lv_aload_n hx hb dX1_best_58 rfl (lv_at hl 3 rfl) ?_
              refine s_get hx hb hts hts1 hown hK (hP0.up (nA_up hS)) 0 (by decide) (by decide +kernel) rfl rfl dX1_best_59 ?_
              refine lv_iload hx hb dX1_best_62 (lv_at hl 0 rfl) ?_
              refine s_ald hx hb hK (si_p (hP0.up (nA_up hS))) (k := i) (by omega) (by omega) rfl dX1_best_64 ?_
              refine lv_iload_n hx hb dX1_best_65 rfl (lv_at hl 5 rfl) ?_
              refine lv_if_eq (tgt := 73) hx hb dX1_best_66 (by decide) (fun q => absurd q ((b2i_ne0.mpr rfl))) (fun _ => ?_)
              refine lv_iconst (v := 2) hx hb dX1_best_69 (by decide) ?_
              refine lv_goto (tgt := 74) hx hb dX1_best_70 (by decide) ?_
              refine s_ild hx hb hK (si_r (hP0.up (nA_up hS)) (p := i) (by omega)) (k := 2) (by decide) (by decide) (v := nI (mh τ i)) rfl dX1_best_74 ?_
              refine lv_istore (lv' := [(6, .int (nI (mh τ i))), (5, .int (nI i)), (4, .int x), (3, .ref zq), (0, .ref (b 0)), (1, .int (nI k)), (2, .int (b2i true))]) hx hb dX1_best_75 hl (by decide) rfl (fun ls hl => ?_)
              refine lv_iload hx hb dX1_best_77 (lv_at hl 0 rfl) ?_
              refine lv_iload hx hb dX1_best_79 (lv_at hl 2 rfl) ?_
              refine lv_icmp_le (tgt := 89) hx hb dX1_best_81 (by decide) (fun c81 => ?_) (fun c81 => ?_)
              · refine lv_iload hx hb dX1_best_89 (lv_at hl 2 rfl) ?_
                refine lv_istore (lv' := [(4, .int x), (6, .int (nI (mh τ i))), (5, .int (nI i)), (3, .ref zq), (0, .ref (b 0)), (1, .int (nI k)), (2, .int (b2i true))]) hx hb dX1_best_91 hl (by decide) rfl (fun ls hl => ?_)
                refine lv_iinc (v := nI (i + 1)) (lv' := [(5, .int (nI (i + 1))), (4, .int x), (6, .int (nI (mh τ i))), (3, .ref zq), (0, .ref (b 0)), (1, .int (nI k)), (2, .int (b2i true))]) hx hb dX1_best_93 hl (k := 2) rfl (nI_1 i) (by decide) rfl (fun ls hl => ?_)
                refine lv_goto (tgt := 12) hx hb dX1_best_96 (by decide) ?_
                exact ih (i + 1) x ls (by omega) (by first | (rw [bst, if_neg (by rw [mEx, b2i_eq0.mp c22, Bool.false_and]; decide)]; exact hinv) | (rw [bst, if_neg (by rw [mEx, b2i_ne0.mp c31, Bool.not_true, Bool.and_false]; decide)]; exact hinv) | (rw [bst, if_pos hex, hu, ← hinv, imx, if_neg (Int32.not_lt.mpr c81)]) | (rw [bst, if_pos hex, hu, ← hinv, imx, if_pos (Int32.not_le.mp c81)])) (lv_sub hl [0, 1, 3, 4, 5, 6] rfl)
              · refine lv_iload hx hb dX1_best_84 (lv_at hl 0 rfl) ?_
                refine lv_goto (tgt := 91) hx hb dX1_best_86 (by decide) ?_
                refine lv_istore (lv' := [(4, .int (nI (mh τ i))), (6, .int (nI (mh τ i))), (5, .int (nI i)), (3, .ref zq), (0, .ref (b 0)), (1, .int (nI k)), (2, .int (b2i true))]) hx hb dX1_best_91 hl (by decide) rfl (fun ls hl => ?_)
                refine lv_iinc (v := nI (i + 1)) (lv' := [(5, .int (nI (i + 1))), (4, .int (nI (mh τ i))), (6, .int (nI (mh τ i))), (3, .ref zq), (0, .ref (b 0)), (1, .int (nI k)), (2, .int (b2i true))]) hx hb dX1_best_93 hl (k := 2) rfl (nI_1 i) (by decide) rfl (fun ls hl => ?_)
                refine lv_goto (tgt := 12) hx hb dX1_best_96 (by decide) ?_
                exact ih (i + 1) (nI (mh τ i)) ls (by omega) (by first | (rw [bst, if_neg (by rw [mEx, b2i_eq0.mp c22, Bool.false_and]; decide)]; exact hinv) | (rw [bst, if_neg (by rw [mEx, b2i_ne0.mp c31, Bool.not_true, Bool.and_false]; decide)]; exact hinv) | (rw [bst, if_pos hex, hu, ← hinv, imx, if_neg (Int32.not_lt.mpr c81)]) | (rw [bst, if_pos hex, hu, ← hinv, imx, if_pos (Int32.not_le.mp c81)])) (lv_sub hl [0, 1, 3, 4, 5, 6] rfl)
            · have hu : gho σ i = md τ i := ((h.su (by omega) hf).1 (b2i_ne0.mp c43)).2.1
              refine lv_aload_n hx hb dX1_best_46 rfl (lv_at hl 3 rfl) ?_
              refine s_get hx hb hts hts1 hown hK (hP0.up (nA_up hS)) 0 (by decide) (by decide +kernel) rfl rfl dX1_best_47 ?_
              refine lv_iload hx hb dX1_best_50 (lv_at hl 0 rfl) ?_
              refine s_ald hx hb hK (si_p (hP0.up (nA_up hS))) (k := i) (by omega) (by omega) rfl dX1_best_52 ?_
              refine lv_iconst (v := 3) hx hb dX1_best_53 (by decide) ?_
              refine s_ild hx hb hK (si_r (hP0.up (nA_up hS)) (p := i) (by omega)) (k := 3) (by decide) (by decide) (v := md τ i) rfl dX1_best_54 ?_
              refine lv_goto (tgt := 75) hx hb dX1_best_55 (by decide) ?_
              refine lv_istore (lv' := [(6, .int (md τ i)), (5, .int (nI i)), (4, .int x), (3, .ref zq), (0, .ref (b 0)), (1, .int (nI k)), (2, .int (b2i true))]) hx hb dX1_best_75 hl (by decide) rfl (fun ls hl => ?_)
              refine lv_iload hx hb dX1_best_77 (lv_at hl 0 rfl) ?_
              refine lv_iload hx hb dX1_best_79 (lv_at hl 2 rfl) ?_
              refine lv_icmp_le (tgt := 89) hx hb dX1_best_81 (by decide) (fun c81 => ?_) (fun c81 => ?_)
              · refine lv_iload hx hb dX1_best_89 (lv_at hl 2 rfl) ?_
                refine lv_istore (lv' := [(4, .int x), (6, .int (md τ i)), (5, .int (nI i)), (3, .ref zq), (0, .ref (b 0)), (1, .int (nI k)), (2, .int (b2i true))]) hx hb dX1_best_91 hl (by decide) rfl (fun ls hl => ?_)
                refine lv_iinc (v := nI (i + 1)) (lv' := [(5, .int (nI (i + 1))), (4, .int x), (6, .int (md τ i)), (3, .ref zq), (0, .ref (b 0)), (1, .int (nI k)), (2, .int (b2i true))]) hx hb dX1_best_93 hl (k := 2) rfl (nI_1 i) (by decide) rfl (fun ls hl => ?_)
                refine lv_goto (tgt := 12) hx hb dX1_best_96 (by decide) ?_
                exact ih (i + 1) x ls (by omega) (by first | (rw [bst, if_neg (by rw [mEx, b2i_eq0.mp c22, Bool.false_and]; decide)]; exact hinv) | (rw [bst, if_neg (by rw [mEx, b2i_ne0.mp c31, Bool.not_true, Bool.and_false]; decide)]; exact hinv) | (rw [bst, if_pos hex, hu, ← hinv, imx, if_neg (Int32.not_lt.mpr c81)]) | (rw [bst, if_pos hex, hu, ← hinv, imx, if_pos (Int32.not_le.mp c81)])) (lv_sub hl [0, 1, 3, 4, 5, 6] rfl)
              · refine lv_iload hx hb dX1_best_84 (lv_at hl 0 rfl) ?_
                refine lv_goto (tgt := 91) hx hb dX1_best_86 (by decide) ?_
                refine lv_istore (lv' := [(4, .int (md τ i)), (6, .int (md τ i)), (5, .int (nI i)), (3, .ref zq), (0, .ref (b 0)), (1, .int (nI k)), (2, .int (b2i true))]) hx hb dX1_best_91 hl (by decide) rfl (fun ls hl => ?_)
                refine lv_iinc (v := nI (i + 1)) (lv' := [(5, .int (nI (i + 1))), (4, .int (md τ i)), (6, .int (md τ i)), (3, .ref zq), (0, .ref (b 0)), (1, .int (nI k)), (2, .int (b2i true))]) hx hb dX1_best_93 hl (k := 2) rfl (nI_1 i) (by decide) rfl (fun ls hl => ?_)
                refine lv_goto (tgt := 12) hx hb dX1_best_96 (by decide) ?_
                exact ih (i + 1) (md τ i) ls (by omega) (by first | (rw [bst, if_neg (by rw [mEx, b2i_eq0.mp c22, Bool.false_and]; decide)]; exact hinv) | (rw [bst, if_neg (by rw [mEx, b2i_ne0.mp c31, Bool.not_true, Bool.and_false]; decide)]; exact hinv) | (rw [bst, if_pos hex, hu, ← hinv, imx, if_neg (Int32.not_lt.mpr c81)]) | (rw [bst, if_pos hex, hu, ← hinv, imx, if_pos (Int32.not_le.mp c81)])) (lv_sub hl [0, 1, 3, 4, 5, 6] rfl)
          · refine lv_goto (tgt := 93) hx hb dX1_best_34 (by decide) ?_
            refine lv_iinc (v := nI (i + 1)) (lv' := [(5, .int (nI (i + 1))), (4, .int x), (3, .ref zq), (0, .ref (b 0)), (1, .int (nI k)), (2, .int (b2i true))]) hx hb dX1_best_93 hl (k := 0) rfl (nI_1 i) (by decide) rfl (fun ls hl => ?_)
            refine lv_goto (tgt := 12) hx hb dX1_best_96 (by decide) ?_
            exact ih (i + 1) x ls (by omega) (by first | (rw [bst, if_neg (by rw [mEx, b2i_eq0.mp c22, Bool.false_and]; decide)]; exact hinv) | (rw [bst, if_neg (by rw [mEx, b2i_ne0.mp c31, Bool.not_true, Bool.and_false]; decide)]; exact hinv) | (rw [bst, if_pos hex, hu, ← hinv, imx, if_neg (Int32.not_lt.mpr c81)]) | (rw [bst, if_pos hex, hu, ← hinv, imx, if_pos (Int32.not_le.mp c81)])) (lv_sub hl [0, 1, 2, 3, 4, 5] rfl)
    exact key (k + 1) 0 (-1) ls (by omega) rfl (lv_sub hl [0, 1, 2, 3, 4, 5] rfl)
theorem hinX1_hindsight : ∀ w ∈ wsX10, w ∈ wsX1_hindsight := fun w h => List.mem_cons_of_mem _ (List.mem_append_right _ h)
theorem hdX1_hindsight : yX1_hindsight.cls = RX1 ∧ yX1_hindsight.cls ≠ "java/lang/invoke/MethodHandle" ∧ yX1_hindsight.cls ≠ "java/lang/invoke/VarHandle" ∧ (parseMethodDescriptor yX1_hindsight.desc).map (fun d => d.parameters.length) = some 1 := by decide +kernel
set_option maxHeartbeats 4000000 in
set_option maxRecDepth 100000 in
theorem c_hindsightS (l : Launch) (E : GE) (b : Nat → Nat) (σ : GS) (τ : MS) (h : RR σ τ) (k : Nat) (hk : k < mn τ) (hf : mf τ k = true) : Met l yX1_hindsight wsX1_hindsight { frames := 2, cells := 1, slots := 40, locals := 44 } (va_Pc [.ref (b 0), .int (nI k)] (gH E (si_P E b τ))) (gQN (ghs σ k)) 1 40 (fun _ => False) := by
  refine w_met (cc := cX1_hindsight) (maxL := 5) (ret := (some .int)) (by decide) rfl (Nat.le_of_ble_eq_true rfl) ?_
  intro p e s m below meth c ls S hr hlocks hname hB hl
  obtain ⟨hP0, hK⟩ := hB
  have hS : va_S (nA s) s.heap s.heap [] := va_S.rf
  obtain ⟨hx, hb, hml, hown, hts⟩ := id S
  have n4 := h.1.1
  have k8 := h.1.2.1
  have hts1 := hinX1_hindsight
  have hl : lv_has ls 5 [(0, .ref (b 0)), (1, .int (nI k))] := hl
  refine lv_aload_n hx hb dX1_hindsight_0 rfl (lv_at hl 0 rfl) ?_
  refine lv_iload_n hx hb dX1_hindsight_1 rfl (lv_at hl 1 rfl) ?_
  refine s0z (As := [.int (nI k)]) (rest := []) S (c_reached l E b σ τ h k (by omega)) (cwV 1 hts gX1_hindsight_X1_reached rfl rfl rfl hdX1_reached ⟨Nat.le_of_ble_eq_true rfl, Nat.le_of_ble_eq_true rfl⟩) hK (hP0.up (nA_up hS)) hS rfl hl.1 rfl (Nat.le_of_ble_eq_true rfl) ⟨by show 0 + 1 ≤ 1; omega, by show 0 + 40 ≤ 40; omega⟩ dX1_hindsight_2 (fun zq H locs _ hkp hZ hS => ?_)
  refine lv_astore_n (lv' := [(2, .ref zq), (0, .ref (b 0)), (1, .int (nI k))]) hx hb dX1_hindsight_5 rfl hl (by decide) rfl (fun ls hl => ?_)
  refine lv_iconst (v := 0) hx hb dX1_hindsight_6 (by decide) ?_
  refine lv_istore_n (lv' := [(3, .int 0), (2, .ref zq), (0, .ref (b 0)), (1, .int (nI k))]) hx hb dX1_hindsight_7 rfl hl (by decide) rfl (fun ls hl => ?_)
  refine lv_iconst (v := 0) hx hb dX1_hindsight_8 (by decide) ?_
  refine lv_istore (lv' := [(4, .int 0), (3, .int 0), (2, .ref zq), (0, .ref (b 0)), (1, .int (nI k))]) hx hb dX1_hindsight_9 hl (by decide) rfl (fun ls hl => ?_)
  have key : ∀ (d i : Nat) (x : Int32) (ls : Array Slot), i + d = k → x = mBf (mEx τ k) (md τ) i → lv_has ls 5 [(4, .int (nI i)), (3, .int x), (2, .ref zq), (0, .ref (b 0)), (1, .int (nI k))] → W p l e (headSpec wsX1_hindsight { frames := 2, cells := 1, slots := 40, locals := 44 }).room s m [.ref (b 0), .int (nI k)].toArray below meth c H locs (0 + 1) (0 + 40) (MQ below (gQN (ghs σ k)) [.ref (b 0), .int (nI k)].toArray s 1 40 (fun _ => False)) (F0 m 11 ls []) := by
    intro d
    induction d with
    | zero =>
      intro i x ls hi hinv hl
      obtain rfl : i = k := by omega
      refine lv_iload hx hb dX1_hindsight_11 (lv_at hl 0 rfl) ?_
      refine lv_iload_n hx hb dX1_hindsight_13 rfl (lv_at hl 4 rfl) ?_
      refine lv_icmp_ge (tgt := 62) hx hb dX1_hindsight_14 (by decide) (fun _ => ?_) (fun q => absurd ((nI_le (Nat.le_refl _) (by omega))) q)
      refine lv_iload_n hx hb dX1_hindsight_62 rfl (lv_at hl 1 rfl) ?_
      refine va_forget (fun q hq => hS.2.2 q hq) ?_
      refine W.widen (k := 1) (n := 40) (by omega) (by omega) ?_
      exact W.iret hx hb hr (fun t ht hW => ⟨⟨_, (), rfl, (hinv.trans (h.bh hf)), trivial⟩, (oF hS ht)⟩) (fun _ h => nomatch h) dX1_hindsight_63
    | succ d ih =>
      intro i x ls hi hinv hl
      refine lv_iload hx hb dX1_hindsight_11 (lv_at hl 0 rfl) ?_
      refine lv_iload_n hx hb dX1_hindsight_13 rfl (lv_at hl 4 rfl) ?_
      refine lv_icmp_ge (tgt := 62) hx hb dX1_hindsight_14 (by decide) (fun q => absurd q ((nI_ge (by omega) (by omega)))) (fun _ => ?_)
      refine lv_aload_n hx hb dX1_hindsight_17 rfl (lv_at hl 2 rfl) ?_
      refine lv_iload hx hb dX1_hindsight_18 (lv_at hl 0 rfl) ?_
      refine s_zld hx hb hK hZ (k := i) (by omega) (by omega) (v := b2i ((bitL (mr τ k)) i)) rfl dX1_hindsight_20 ?_
      refine lv_if_eq (tgt := 56) hx hb dX1_hindsight_21 (by decide) (fun c21 => ?_) (fun c21 => ?_)
      · refine lv_iinc (v := nI (i + 1)) (lv' := [(4, .int (nI (i + 1))), (3, .int x), (2, .ref zq), (0, .ref (b 0)), (1, .int (nI k))]) hx hb dX1_hindsight_56 hl (k := 0) rfl (nI_1 i) (by decide) rfl (fun ls hl => ?_)
        refine lv_goto (tgt := 11) hx hb dX1_hindsight_59 (by decide) ?_
        exact ih (i + 1) x ls (by omega) (by first | exact hinv.trans (RR.hsx (b2i_eq0.mp c21)).symm | exact hinv.trans (h.hsn (by omega) (b2i_eq0.mp c30)).symm | (rw [RR.hsy (b2i_ne0.mp c21) (b2i_ne0.mp c30), ← hinv, imx, if_neg (Int32.not_lt.mpr c43)]) | (rw [RR.hsy (b2i_ne0.mp c21) (b2i_ne0.mp c30), ← hinv, imx, if_pos (Int32.not_le.mp c43)])) (lv_sub hl [0, 1, 2, 3, 4] rfl)
      · refine lv_aload_n hx hb dX1_hindsight_24 rfl (lv_at hl 3 rfl) ?_
        refine lv_iload hx hb dX1_hindsight_25 (lv_at hl 0 rfl) ?_
        refine s0p (As := [.int (nI i)]) (rest := []) S (c_isGradedS l E b σ τ h i (by omega)) (cwV 1 hts gX1_hindsight_X1_isGraded rfl rfl rfl hdX1_isGraded ⟨Nat.le_of_ble_eq_true rfl, Nat.le_of_ble_eq_true rfl⟩) hK (hP0.up (nA_up hS)) rfl hl.1 rfl (Nat.le_of_ble_eq_true rfl) ⟨by show 0 + 1 ≤ 1; omega, by show 0 + 40 ≤ 40; omega⟩ dX1_hindsight_27 ?_
        refine lv_if_eq (tgt := 56) hx hb dX1_hindsight_30 (by decide) (fun c30 => ?_) (fun c30 => ?_)
        · refine lv_iinc (v := nI (i + 1)) (lv' := [(4, .int (nI (i + 1))), (3, .int x), (2, .ref zq), (0, .ref (b 0)), (1, .int (nI k))]) hx hb dX1_hindsight_56 hl (k := 0) rfl (nI_1 i) (by decide) rfl (fun ls hl => ?_)
          refine lv_goto (tgt := 11) hx hb dX1_hindsight_59 (by decide) ?_
          exact ih (i + 1) x ls (by omega) (by first | exact hinv.trans (RR.hsx (b2i_eq0.mp c21)).symm | exact hinv.trans (h.hsn (by omega) (b2i_eq0.mp c30)).symm | (rw [RR.hsy (b2i_ne0.mp c21) (b2i_ne0.mp c30), ← hinv, imx, if_neg (Int32.not_lt.mpr c43)]) | (rw [RR.hsy (b2i_ne0.mp c21) (b2i_ne0.mp c30), ← hinv, imx, if_pos (Int32.not_le.mp c43)])) (lv_sub hl [0, 1, 2, 3, 4] rfl)
        · refine lv_aload_n hx hb dX1_hindsight_33 rfl (lv_at hl 3 rfl) ?_
          refine s_get hx hb hts hts1 hown hK (hP0.up (nA_up hS)) 0 (by decide) (by decide +kernel) rfl rfl dX1_hindsight_34 ?_
          refine lv_iload hx hb dX1_hindsight_37 (lv_at hl 0 rfl) ?_
          refine s_ald hx hb hK (si_p (hP0.up (nA_up hS))) (k := i) (by omega) (by omega) rfl dX1_hindsight_39 ?_
          refine lv_iconst (v := 3) hx hb dX1_hindsight_40 (by decide) ?_
          refine s_ild hx hb hK (si_r (hP0.up (nA_up hS)) (p := i) (by omega)) (k := 3) (by decide) (by decide) (v := md τ i) rfl dX1_hindsight_41 ?_
          refine lv_iload_n hx hb dX1_hindsight_42 rfl (lv_at hl 1 rfl) ?_
          refine lv_icmp_le (tgt := 56) hx hb dX1_hindsight_43 (by decide) (fun c43 => ?_) (fun c43 => ?_)
          · refine lv_iinc (v := nI (i + 1)) (lv' := [(4, .int (nI (i + 1))), (3, .int x), (2, .ref zq), (0, .ref (b 0)), (1, .int (nI k))]) hx hb dX1_hindsight_56 hl (k := 0) rfl (nI_1 i) (by decide) rfl (fun ls hl => ?_)
            refine lv_goto (tgt := 11) hx hb dX1_hindsight_59 (by decide) ?_
            exact ih (i + 1) x ls (by omega) (by first | exact hinv.trans (RR.hsx (b2i_eq0.mp c21)).symm | exact hinv.trans (h.hsn (by omega) (b2i_eq0.mp c30)).symm | (rw [RR.hsy (b2i_ne0.mp c21) (b2i_ne0.mp c30), ← hinv, imx, if_neg (Int32.not_lt.mpr c43)]) | (rw [RR.hsy (b2i_ne0.mp c21) (b2i_ne0.mp c30), ← hinv, imx, if_pos (Int32.not_le.mp c43)])) (lv_sub hl [0, 1, 2, 3, 4] rfl)
          · refine lv_aload_n hx hb dX1_hindsight_46 rfl (lv_at hl 3 rfl) ?_
            refine s_get hx hb hts hts1 hown hK (hP0.up (nA_up hS)) 0 (by decide) (by decide +kernel) rfl rfl dX1_hindsight_47 ?_
            refine lv_iload hx hb dX1_hindsight_50 (lv_at hl 0 rfl) ?_
            refine s_ald hx hb hK (si_p (hP0.up (nA_up hS))) (k := i) (by omega) (by omega) rfl dX1_hindsight_52 ?_
            refine lv_iconst (v := 3) hx hb dX1_hindsight_53 (by decide) ?_
            refine s_ild hx hb hK (si_r (hP0.up (nA_up hS)) (p := i) (by omega)) (k := 3) (by decide) (by decide) (v := md τ i) rfl dX1_hindsight_54 ?_
            refine lv_istore_n (lv' := [(3, .int (md τ i)), (4, .int (nI i)), (2, .ref zq), (0, .ref (b 0)), (1, .int (nI k))]) hx hb dX1_hindsight_55 rfl hl (by decide) rfl (fun ls hl => ?_)
            refine lv_iinc (v := nI (i + 1)) (lv' := [(4, .int (nI (i + 1))), (3, .int (md τ i)), (2, .ref zq), (0, .ref (b 0)), (1, .int (nI k))]) hx hb dX1_hindsight_56 hl (k := 1) rfl (nI_1 i) (by decide) rfl (fun ls hl => ?_)
            refine lv_goto (tgt := 11) hx hb dX1_hindsight_59 (by decide) ?_
            exact ih (i + 1) (md τ i) ls (by omega) (by first | exact hinv.trans (RR.hsx (b2i_eq0.mp c21)).symm | exact hinv.trans (h.hsn (by omega) (b2i_eq0.mp c30)).symm | (rw [RR.hsy (b2i_ne0.mp c21) (b2i_ne0.mp c30), ← hinv, imx, if_neg (Int32.not_lt.mpr c43)]) | (rw [RR.hsy (b2i_ne0.mp c21) (b2i_ne0.mp c30), ← hinv, imx, if_pos (Int32.not_le.mp c43)])) (lv_sub hl [0, 1, 2, 3, 4] rfl)
  exact key k 0 0 ls (by omega) rfl (lv_sub hl [0, 1, 2, 3, 4] rfl)
theorem hinX1_exams : ∀ w ∈ wsX10, w ∈ wsX1_exams := fun w h => List.mem_cons_of_mem _ (List.mem_append_right _ h)
theorem hdX1_exams : yX1_exams.cls = RX1 ∧ yX1_exams.cls ≠ "java/lang/invoke/MethodHandle" ∧ yX1_exams.cls ≠ "java/lang/invoke/VarHandle" ∧ (parseMethodDescriptor yX1_exams.desc).map (fun d => d.parameters.length) = some 1 := by decide +kernel
set_option maxHeartbeats 4000000 in
set_option maxRecDepth 100000 in
theorem c_examsS (l : Launch) (E : GE) (b : Nat → Nat) (σ : GS) (τ : MS) (h : RR σ τ) (k : Nat) (hk : k < mn τ) : Met l yX1_exams wsX1_exams { frames := 2, cells := 1, slots := 40, locals := 44 } (va_Pc [.ref (b 0), .int (nI k)] (gH E (si_P E b τ))) (gQN (gEf σ k)) 1 40 (fun _ => False) := by
  refine w_met (cc := cX1_exams) (maxL := 5) (ret := (some .int)) (by decide) rfl (Nat.le_of_ble_eq_true rfl) ?_
  intro p e s m below meth c ls S hr hlocks hname hB hl
  obtain ⟨hP0, hK⟩ := hB
  have hS : va_S (nA s) s.heap s.heap [] := va_S.rf
  obtain ⟨hx, hb, hml, hown, hts⟩ := id S
  have n4 := h.1.1
  have k8 := h.1.2.1
  have hts1 := hinX1_exams
  have hl : lv_has ls 5 [(0, .ref (b 0)), (1, .int (nI k))] := hl
  refine lv_aload_n hx hb dX1_exams_0 rfl (lv_at hl 0 rfl) ?_
  refine lv_iload_n hx hb dX1_exams_1 rfl (lv_at hl 1 rfl) ?_
  refine s0z (As := [.int (nI k)]) (rest := []) S (c_reached l E b σ τ h k (by omega)) (cwV 1 hts gX1_exams_X1_reached rfl rfl rfl hdX1_reached ⟨Nat.le_of_ble_eq_true rfl, Nat.le_of_ble_eq_true rfl⟩) hK (hP0.up (nA_up hS)) hS rfl hl.1 rfl (Nat.le_of_ble_eq_true rfl) ⟨by show 0 + 1 ≤ 1; omega, by show 0 + 40 ≤ 40; omega⟩ dX1_exams_2 (fun zq H locs _ hkp hZ hS => ?_)
  refine lv_astore_n (lv' := [(2, .ref zq), (0, .ref (b 0)), (1, .int (nI k))]) hx hb dX1_exams_5 rfl hl (by decide) rfl (fun ls hl => ?_)
  refine lv_iconst (v := 0) hx hb dX1_exams_6 (by decide) ?_
  refine lv_istore_n (lv' := [(3, .int 0), (2, .ref zq), (0, .ref (b 0)), (1, .int (nI k))]) hx hb dX1_exams_7 rfl hl (by decide) rfl (fun ls hl => ?_)
  refine lv_iconst (v := 0) hx hb dX1_exams_8 (by decide) ?_
  refine lv_istore (lv' := [(4, .int 0), (3, .int 0), (2, .ref zq), (0, .ref (b 0)), (1, .int (nI k))]) hx hb dX1_exams_9 hl (by decide) rfl (fun ls hl => ?_)
  have key : ∀ (d i : Nat) (x : Int32) (ls : Array Slot), i + d = k + 1 → x = sumI (fun o => b2i (mEx τ k o)) i → lv_has ls 5 [(4, .int (nI i)), (3, .int x), (2, .ref zq), (0, .ref (b 0)), (1, .int (nI k))] → W p l e (headSpec wsX1_exams { frames := 2, cells := 1, slots := 40, locals := 44 }).room s m [.ref (b 0), .int (nI k)].toArray below meth c H locs (0 + 1) (0 + 40) (MQ below (gQN (gEf σ k)) [.ref (b 0), .int (nI k)].toArray s 1 40 (fun _ => False)) (F0 m 11 ls []) := by
    intro d
    induction d with
    | zero =>
      intro i x ls hi hinv hl
      obtain rfl : i = k + 1 := by omega
      refine lv_iload hx hb dX1_exams_11 (lv_at hl 0 rfl) ?_
      refine lv_iload_n hx hb dX1_exams_13 rfl (lv_at hl 4 rfl) ?_
      refine lv_icmp_gt (tgt := 47) hx hb dX1_exams_14 (by decide) (fun _ => ?_) (fun q => absurd ((nI_lt (by omega) (by omega))) q)
      refine lv_iload_n hx hb dX1_exams_47 rfl (lv_at hl 1 rfl) ?_
      refine va_forget (fun q hq => hS.2.2 q hq) ?_
      refine W.widen (k := 1) (n := 40) (by omega) (by omega) ?_
      exact W.iret hx hb hr (fun t ht hW => ⟨⟨_, (), rfl, (hinv.trans (h.ef hk)), trivial⟩, (oF hS ht)⟩) (fun _ h => nomatch h) dX1_exams_48
    | succ d ih =>
      intro i x ls hi hinv hl
      refine lv_iload hx hb dX1_exams_11 (lv_at hl 0 rfl) ?_
      refine lv_iload_n hx hb dX1_exams_13 rfl (lv_at hl 4 rfl) ?_
      refine lv_icmp_gt (tgt := 47) hx hb dX1_exams_14 (by decide) (fun q => absurd q ((nI_nlt (by omega) (by omega)))) (fun _ => ?_)
      refine lv_iload_n hx hb dX1_exams_17 rfl (lv_at hl 1 rfl) ?_
      refine lv_aload_n hx hb dX1_exams_18 rfl (lv_at hl 2 rfl) ?_
      refine lv_iload hx hb dX1_exams_19 (lv_at hl 0 rfl) ?_
      refine s_zld hx hb hK hZ (k := i) (by omega) (by omega) (v := b2i ((bitL (mr τ k)) i)) rfl dX1_exams_21 ?_
      refine lv_if_eq (tgt := 38) hx hb dX1_exams_22 (by decide) (fun c22 => ?_) (fun c22 => ?_)
      · refine lv_iconst (v := 0) hx hb dX1_exams_38 (by decide) ?_
        refine lv_iadd hx hb dX1_exams_39 ?_
        refine lv_istore_n (lv' := [(3, .int (x + 0)), (4, .int (nI i)), (2, .ref zq), (0, .ref (b 0)), (1, .int (nI k))]) hx hb dX1_exams_40 rfl hl (by decide) rfl (fun ls hl => ?_)
        refine lv_iinc (v := nI (i + 1)) (lv' := [(4, .int (nI (i + 1))), (3, .int (x + 0)), (2, .ref zq), (0, .ref (b 0)), (1, .int (nI k))]) hx hb dX1_exams_41 hl (k := 1) rfl (nI_1 i) (by decide) rfl (fun ls hl => ?_)
        refine lv_goto (tgt := 11) hx hb dX1_exams_44 (by decide) ?_
        exact ih (i + 1) (x + 0) ls (by omega) (by first | (rw [hinv, sumI, mEx, b2i_eq0.mp c22, Bool.false_and]; rfl) | (rw [hinv, sumI, mEx, b2i_ne0.mp c31, Bool.not_true, Bool.and_false]; rfl) | (rw [hinv, sumI, mEx, b2i_ne0.mp c22, b2i_eq0.mp c31]; rfl)) (lv_sub hl [0, 1, 2, 3, 4] rfl)
      · refine lv_aload_n hx hb dX1_exams_25 rfl (lv_at hl 3 rfl) ?_
        refine lv_iload hx hb dX1_exams_26 (lv_at hl 0 rfl) ?_
        refine s0p (As := [.int (nI i)]) (rest := [.int x]) S (c_isFork l E b σ τ h i (by omega)) (cwV 1 hts gX1_exams_X1_isFork rfl rfl rfl hdX1_isFork ⟨Nat.le_of_ble_eq_true rfl, Nat.le_of_ble_eq_true rfl⟩) hK (hP0.up (nA_up hS)) rfl hl.1 rfl (Nat.le_of_ble_eq_true rfl) ⟨by show 0 + 1 ≤ 1; omega, by show 0 + 40 ≤ 40; omega⟩ dX1_exams_28 ?_
        refine lv_if_ne (tgt := 38) hx hb dX1_exams_31 (by decide) (fun c31 => ?_) (fun c31 => ?_)
        · refine lv_iconst (v := 0) hx hb dX1_exams_38 (by decide) ?_
          refine lv_iadd hx hb dX1_exams_39 ?_
          refine lv_istore_n (lv' := [(3, .int (x + 0)), (4, .int (nI i)), (2, .ref zq), (0, .ref (b 0)), (1, .int (nI k))]) hx hb dX1_exams_40 rfl hl (by decide) rfl (fun ls hl => ?_)
          refine lv_iinc (v := nI (i + 1)) (lv' := [(4, .int (nI (i + 1))), (3, .int (x + 0)), (2, .ref zq), (0, .ref (b 0)), (1, .int (nI k))]) hx hb dX1_exams_41 hl (k := 1) rfl (nI_1 i) (by decide) rfl (fun ls hl => ?_)
          refine lv_goto (tgt := 11) hx hb dX1_exams_44 (by decide) ?_
          exact ih (i + 1) (x + 0) ls (by omega) (by first | (rw [hinv, sumI, mEx, b2i_eq0.mp c22, Bool.false_and]; rfl) | (rw [hinv, sumI, mEx, b2i_ne0.mp c31, Bool.not_true, Bool.and_false]; rfl) | (rw [hinv, sumI, mEx, b2i_ne0.mp c22, b2i_eq0.mp c31]; rfl)) (lv_sub hl [0, 1, 2, 3, 4] rfl)
        · refine lv_iconst (v := 1) hx hb dX1_exams_34 (by decide) ?_
          refine lv_goto (tgt := 39) hx hb dX1_exams_35 (by decide) ?_
          refine lv_iadd hx hb dX1_exams_39 ?_
          refine lv_istore_n (lv' := [(3, .int (x + 1)), (4, .int (nI i)), (2, .ref zq), (0, .ref (b 0)), (1, .int (nI k))]) hx hb dX1_exams_40 rfl hl (by decide) rfl (fun ls hl => ?_)
          refine lv_iinc (v := nI (i + 1)) (lv' := [(4, .int (nI (i + 1))), (3, .int (x + 1)), (2, .ref zq), (0, .ref (b 0)), (1, .int (nI k))]) hx hb dX1_exams_41 hl (k := 1) rfl (nI_1 i) (by decide) rfl (fun ls hl => ?_)
          refine lv_goto (tgt := 11) hx hb dX1_exams_44 (by decide) ?_
          exact ih (i + 1) (x + 1) ls (by omega) (by first | (rw [hinv, sumI, mEx, b2i_eq0.mp c22, Bool.false_and]; rfl) | (rw [hinv, sumI, mEx, b2i_ne0.mp c31, Bool.not_true, Bool.and_false]; rfl) | (rw [hinv, sumI, mEx, b2i_ne0.mp c22, b2i_eq0.mp c31]; rfl)) (lv_sub hl [0, 1, 2, 3, 4] rfl)
  exact key (k + 1) 0 0 ls (by omega) rfl (lv_sub hl [0, 1, 2, 3, 4] rfl)
theorem hinX1_risk : ∀ w ∈ wsX10, w ∈ wsX1_risk := fun w h => List.mem_cons_of_mem _ (List.mem_append_right _ h)
theorem hdX1_risk : yX1_risk.cls = RX1 ∧ yX1_risk.cls ≠ "java/lang/invoke/MethodHandle" ∧ yX1_risk.cls ≠ "java/lang/invoke/VarHandle" ∧ (parseMethodDescriptor yX1_risk.desc).map (fun d => d.parameters.length) = some 2 := by decide +kernel
set_option maxHeartbeats 4000000 in
set_option maxRecDepth 100000 in
theorem c_riskS (l : Launch) (E : GE) (b : Nat → Nat) (σ : GS) (τ : MS) (h : RR σ τ) (k : Nat) (hk : k < mn τ) (hf : mf τ k = true) (w : Bool) : Met l yX1_risk wsX1_risk { frames := 3, cells := 2, slots := 80, locals := 70 } (va_Pc [.ref (b 0), .int (nI k), .int (b2i w)] (gH E (si_P E b τ))) (gQN (gRisk σ k w)) 2 80 (fun _ => False) := by
  refine w_met (cc := cX1_risk) (maxL := 4) (ret := (some .int)) (by decide) rfl (Nat.le_of_ble_eq_true rfl) ?_
  intro p e s m below meth c ls S hr hlocks hname hB hl
  obtain ⟨hP0, hK⟩ := hB
  have hS : va_S (nA s) s.heap s.heap [] := va_S.rf
  obtain ⟨hx, hb, hml, hown, hts⟩ := id S
  have n4 := h.1.1
  have k8 := h.1.2.1
  obtain ⟨_, _, g3, g4, _⟩ := h.f hf
  have hts1 := hinX1_risk
  rcases w with _ | _
  · have hl : lv_has ls 4 [(0, .ref (b 0)), (1, .int (nI k)), (2, .int (b2i false))] := hl
    refine lv_aload_n hx hb dX1_risk_0 rfl (lv_at hl 0 rfl) ?_
    refine lv_aload_n hx hb dX1_risk_1 rfl (lv_at hl 0 rfl) ?_
    refine s_get hx hb hts hts1 hown hK (hP0.up (nA_up hS)) 0 (by decide) (by decide +kernel) rfl rfl dX1_risk_2 ?_
    refine lv_iload_n hx hb dX1_risk_5 rfl (lv_at hl 1 rfl) ?_
    refine s_ald hx hb hK (si_p (hP0.up (nA_up hS))) (k := k) (by omega) (by omega) rfl dX1_risk_6 ?_
    refine lv_iload_n hx hb dX1_risk_7 rfl (lv_at hl 2 rfl) ?_
    refine lv_if_eq (tgt := 15) hx hb dX1_risk_8 (by decide) (fun _ => ?_) (fun q => absurd ((rfl : b2i false = 0)) q)
    refine lv_iconst (v := 2) hx hb dX1_risk_15 (by decide) ?_
    refine s_ild hx hb hK (si_r (hP0.up (nA_up hS)) (p := k) (by omega)) (k := 2) (by decide) (by decide) (v := nI (mh τ k)) rfl dX1_risk_16 ?_
    refine lv_iconst (v := 1) hx hb dX1_risk_17 (by decide) ?_
    refine s0i (As := [.int (nI (mh τ k)), .int (b2i true)]) (rest := []) S (c_best l E b σ τ h (mh τ k) (by omega) true) (cwV 2 hts gX1_risk_X1_best rfl rfl rfl hdX1_best ⟨Nat.le_of_ble_eq_true rfl, Nat.le_of_ble_eq_true rfl⟩) hK (hP0.up (nA_up hS)) hS rfl hl.1 rfl (Nat.le_of_ble_eq_true rfl) ⟨by show 0 + 1 ≤ 2; omega, by show 0 + 40 ≤ 80; omega⟩ dX1_risk_18 (fun H locs _ hkp hS => ?_)
    refine lv_aload_n hx hb dX1_risk_21 rfl (lv_at hl 0 rfl) ?_
    refine lv_aload_n hx hb dX1_risk_22 rfl (lv_at hl 0 rfl) ?_
    refine s_get hx hb hts hts1 hown hK (hP0.up (nA_up hS)) 0 (by decide) (by decide +kernel) rfl rfl dX1_risk_23 ?_
    refine lv_iload_n hx hb dX1_risk_26 rfl (lv_at hl 1 rfl) ?_
    refine s_ald hx hb hK (si_p (hP0.up (nA_up hS))) (k := k) (by omega) (by omega) rfl dX1_risk_27 ?_
    refine lv_iload_n hx hb dX1_risk_28 rfl (lv_at hl 2 rfl) ?_
    refine lv_if_eq (tgt := 36) hx hb dX1_risk_29 (by decide) (fun _ => ?_) (fun q => absurd ((rfl : b2i false = 0)) q)
    refine lv_iconst (v := 1) hx hb dX1_risk_36 (by decide) ?_
    refine s_ild hx hb hK (si_r (hP0.up (nA_up hS)) (p := k) (by omega)) (k := 1) (by decide) (by decide) (v := nI (mo τ k)) rfl dX1_risk_37 ?_
    refine lv_iconst (v := 0) hx hb dX1_risk_38 (by decide) ?_
    refine s0i (As := [.int (nI (mo τ k)), .int (b2i false)]) (rest := [.int (gho σ (mh τ k))]) S (c_best l E b σ τ h (mo τ k) (by omega) false) (cwV 2 hts gX1_risk_X1_best rfl rfl rfl hdX1_best ⟨Nat.le_of_ble_eq_true rfl, Nat.le_of_ble_eq_true rfl⟩) hK (hP0.up (nA_up hS)) hS rfl hl.1 rfl (Nat.le_of_ble_eq_true rfl) ⟨by show 0 + 1 + 1 ≤ 2; omega, by show 0 + 40 + 40 ≤ 80; omega⟩ dX1_risk_39 (fun H locs _ hkp hS => ?_)
    refine lv_isub hx hb dX1_risk_42 ?_
    refine lv_istore_n (lv' := [(3, .int ((gho σ (mh τ k)) - (gsu σ (mo τ k)))), (0, .ref (b 0)), (1, .int (nI k)), (2, .int (b2i false))]) hx hb dX1_risk_43 rfl hl (by decide) rfl (fun ls hl => ?_)
    refine lv_iload_n hx hb dX1_risk_44 rfl (lv_at hl 0 rfl) ?_
    refine lv_if_ge (tgt := 52) hx hb dX1_risk_45 (by decide) (fun c45 => ?_) (fun c45 => ?_)
    · refine lv_iload_n hx hb dX1_risk_52 rfl (lv_at hl 0 rfl) ?_
      refine lv_aload_n hx hb dX1_risk_53 rfl (lv_at hl 1 rfl) ?_
      refine s_get hx hb hts hts1 hown hK (hP0.up (nA_up hS)) 0 (by decide) (by decide +kernel) rfl rfl dX1_risk_54 ?_
      refine lv_iload_n hx hb dX1_risk_57 rfl (lv_at hl 2 rfl) ?_
      refine s_ald hx hb hK (si_p (hP0.up (nA_up hS))) (k := k) (by omega) (by omega) rfl dX1_risk_58 ?_
      refine lv_iconst (v := 3) hx hb dX1_risk_59 (by decide) ?_
      refine s_ild hx hb hK (si_r (hP0.up (nA_up hS)) (p := k) (by omega)) (k := 3) (by decide) (by decide) (v := md τ k) rfl dX1_risk_60 ?_
      refine lv_imul hx hb dX1_risk_61 ?_
      refine va_forget (fun q hq => hS.2.2 q hq) ?_
      refine W.widen (k := 2) (n := 80) (by omega) (by omega) ?_
      exact W.iret hx hb hr (fun t ht hW => ⟨⟨_, (), rfl, (by first | exact ((h.rk hf false).trans (congrArg (· * md τ k) (imx_nn c45))).symm | exact ((h.rk hf false).trans ((congrArg (· * md τ k) (imx_ng c45)).trans Int32.zero_mul)).symm), trivial⟩, (oF hS ht)⟩) (fun _ h => nomatch h) dX1_risk_62
    · refine lv_iconst (v := 0) hx hb dX1_risk_48 (by decide) ?_
      refine lv_goto (tgt := 62) hx hb dX1_risk_49 (by decide) ?_
      refine va_forget (fun q hq => hS.2.2 q hq) ?_
      refine W.widen (k := 2) (n := 80) (by omega) (by omega) ?_
      exact W.iret hx hb hr (fun t ht hW => ⟨⟨_, (), rfl, (by first | exact ((h.rk hf false).trans (congrArg (· * md τ k) (imx_nn c45))).symm | exact ((h.rk hf false).trans ((congrArg (· * md τ k) (imx_ng c45)).trans Int32.zero_mul)).symm), trivial⟩, (oF hS ht)⟩) (fun _ h => nomatch h) dX1_risk_62
  · have hl : lv_has ls 4 [(0, .ref (b 0)), (1, .int (nI k)), (2, .int (b2i true))] := hl
    refine lv_aload_n hx hb dX1_risk_0 rfl (lv_at hl 0 rfl) ?_
    refine lv_aload_n hx hb dX1_risk_1 rfl (lv_at hl 0 rfl) ?_
    refine s_get hx hb hts hts1 hown hK (hP0.up (nA_up hS)) 0 (by decide) (by decide +kernel) rfl rfl dX1_risk_2 ?_
    refine lv_iload_n hx hb dX1_risk_5 rfl (lv_at hl 1 rfl) ?_
    refine s_ald hx hb hK (si_p (hP0.up (nA_up hS))) (k := k) (by omega) (by omega) rfl dX1_risk_6 ?_
    refine lv_iload_n hx hb dX1_risk_7 rfl (lv_at hl 2 rfl) ?_
    refine lv_if_eq (tgt := 15) hx hb dX1_risk_8 (by decide) (fun q => absurd q ((b2i_ne0.mpr rfl))) (fun _ => ?_)
    refine lv_iconst (v := 1) hx hb dX1_risk_11 (by decide) ?_
    refine lv_goto (tgt := 16) hx hb dX1_risk_12 (by decide) ?_
    refine s_ild hx hb hK (si_r (hP0.up (nA_up hS)) (p := k) (by omega)) (k := 1) (by decide) (by decide) (v := nI (mo τ k)) rfl dX1_risk_16 ?_
    refine lv_iconst (v := 1) hx hb dX1_risk_17 (by decide) ?_
    refine s0i (As := [.int (nI (mo τ k)), .int (b2i true)]) (rest := []) S (c_best l E b σ τ h (mo τ k) (by omega) true) (cwV 2 hts gX1_risk_X1_best rfl rfl rfl hdX1_best ⟨Nat.le_of_ble_eq_true rfl, Nat.le_of_ble_eq_true rfl⟩) hK (hP0.up (nA_up hS)) hS rfl hl.1 rfl (Nat.le_of_ble_eq_true rfl) ⟨by show 0 + 1 ≤ 2; omega, by show 0 + 40 ≤ 80; omega⟩ dX1_risk_18 (fun H locs _ hkp hS => ?_)
    refine lv_aload_n hx hb dX1_risk_21 rfl (lv_at hl 0 rfl) ?_
    refine lv_aload_n hx hb dX1_risk_22 rfl (lv_at hl 0 rfl) ?_
    refine s_get hx hb hts hts1 hown hK (hP0.up (nA_up hS)) 0 (by decide) (by decide +kernel) rfl rfl dX1_risk_23 ?_
    refine lv_iload_n hx hb dX1_risk_26 rfl (lv_at hl 1 rfl) ?_
    refine s_ald hx hb hK (si_p (hP0.up (nA_up hS))) (k := k) (by omega) (by omega) rfl dX1_risk_27 ?_
    refine lv_iload_n hx hb dX1_risk_28 rfl (lv_at hl 2 rfl) ?_
    refine lv_if_eq (tgt := 36) hx hb dX1_risk_29 (by decide) (fun q => absurd q ((b2i_ne0.mpr rfl))) (fun _ => ?_)
    refine lv_iconst (v := 2) hx hb dX1_risk_32 (by decide) ?_
    refine lv_goto (tgt := 37) hx hb dX1_risk_33 (by decide) ?_
    refine s_ild hx hb hK (si_r (hP0.up (nA_up hS)) (p := k) (by omega)) (k := 2) (by decide) (by decide) (v := nI (mh τ k)) rfl dX1_risk_37 ?_
    refine lv_iconst (v := 0) hx hb dX1_risk_38 (by decide) ?_
    refine s0i (As := [.int (nI (mh τ k)), .int (b2i false)]) (rest := [.int (gho σ (mo τ k))]) S (c_best l E b σ τ h (mh τ k) (by omega) false) (cwV 2 hts gX1_risk_X1_best rfl rfl rfl hdX1_best ⟨Nat.le_of_ble_eq_true rfl, Nat.le_of_ble_eq_true rfl⟩) hK (hP0.up (nA_up hS)) hS rfl hl.1 rfl (Nat.le_of_ble_eq_true rfl) ⟨by show 0 + 1 + 1 ≤ 2; omega, by show 0 + 40 + 40 ≤ 80; omega⟩ dX1_risk_39 (fun H locs _ hkp hS => ?_)
    refine lv_isub hx hb dX1_risk_42 ?_
    refine lv_istore_n (lv' := [(3, .int ((gho σ (mo τ k)) - (gsu σ (mh τ k)))), (0, .ref (b 0)), (1, .int (nI k)), (2, .int (b2i true))]) hx hb dX1_risk_43 rfl hl (by decide) rfl (fun ls hl => ?_)
    refine lv_iload_n hx hb dX1_risk_44 rfl (lv_at hl 0 rfl) ?_
    refine lv_if_ge (tgt := 52) hx hb dX1_risk_45 (by decide) (fun c45 => ?_) (fun c45 => ?_)
    · refine lv_iload_n hx hb dX1_risk_52 rfl (lv_at hl 0 rfl) ?_
      refine lv_aload_n hx hb dX1_risk_53 rfl (lv_at hl 1 rfl) ?_
      refine s_get hx hb hts hts1 hown hK (hP0.up (nA_up hS)) 0 (by decide) (by decide +kernel) rfl rfl dX1_risk_54 ?_
      refine lv_iload_n hx hb dX1_risk_57 rfl (lv_at hl 2 rfl) ?_
      refine s_ald hx hb hK (si_p (hP0.up (nA_up hS))) (k := k) (by omega) (by omega) rfl dX1_risk_58 ?_
      refine lv_iconst (v := 3) hx hb dX1_risk_59 (by decide) ?_
      refine s_ild hx hb hK (si_r (hP0.up (nA_up hS)) (p := k) (by omega)) (k := 3) (by decide) (by decide) (v := md τ k) rfl dX1_risk_60 ?_
      refine lv_imul hx hb dX1_risk_61 ?_
      refine va_forget (fun q hq => hS.2.2 q hq) ?_
      refine W.widen (k := 2) (n := 80) (by omega) (by omega) ?_
      exact W.iret hx hb hr (fun t ht hW => ⟨⟨_, (), rfl, (by first | exact ((h.rk hf true).trans (congrArg (· * md τ k) (imx_nn c45))).symm | exact ((h.rk hf true).trans ((congrArg (· * md τ k) (imx_ng c45)).trans Int32.zero_mul)).symm), trivial⟩, (oF hS ht)⟩) (fun _ h => nomatch h) dX1_risk_62
    · refine lv_iconst (v := 0) hx hb dX1_risk_48 (by decide) ?_
      refine lv_goto (tgt := 62) hx hb dX1_risk_49 (by decide) ?_
      refine va_forget (fun q hq => hS.2.2 q hq) ?_
      refine W.widen (k := 2) (n := 80) (by omega) (by omega) ?_
      exact W.iret hx hb hr (fun t ht hW => ⟨⟨_, (), rfl, (by first | exact ((h.rk hf true).trans (congrArg (· * md τ k) (imx_nn c45))).symm | exact ((h.rk hf true).trans ((congrArg (· * md τ k) (imx_ng c45)).trans Int32.zero_mul)).symm), trivial⟩, (oF hS ht)⟩) (fun _ h => nomatch h) dX1_risk_62
theorem hinX1_next : ∀ w ∈ wsX10, w ∈ wsX1_next := fun w h => List.mem_cons_of_mem _ (List.mem_append_right _ h)
theorem hdX1_next : yX1_next.cls = RX1 ∧ yX1_next.cls ≠ "java/lang/invoke/MethodHandle" ∧ yX1_next.cls ≠ "java/lang/invoke/VarHandle" ∧ (parseMethodDescriptor yX1_next.desc).map (fun d => d.parameters.length) = some 1 := by decide +kernel
set_option maxHeartbeats 4000000 in
set_option maxRecDepth 100000 in
theorem c_next (l : Launch) (E : GE) (b : Nat → Nat) (σ : GS) (τ : MS) (h : RR σ τ) (k : Nat) (hk : k < mn τ) (hf : mf τ k = true) : Met l yX1_next wsX1_next { frames := 4, cells := 4, slots := 160, locals := 93 } (va_Pc [.ref (b 0), .int (nI k)] (gH E (si_P E b τ))) (gQN (nI (gTo σ k (gPl σ k)))) 4 160 (fun _ => False) := by
  refine w_met (cc := cX1_next) (maxL := 2) (ret := (some .int)) (by decide) rfl (Nat.le_of_ble_eq_true rfl) ?_
  intro p e s m below meth c ls S hr hlocks hname hB hl
  obtain ⟨hP0, hK⟩ := hB
  have hS : va_S (nA s) s.heap s.heap [] := va_S.rf
  obtain ⟨hx, hb, hml, hown, hts⟩ := id S
  have n4 := h.1.1
  have k8 := h.1.2.1
  have hts1 := hinX1_next
  have hl : lv_has ls 2 [(0, .ref (b 0)), (1, .int (nI k))] := hl
  refine lv_aload_n hx hb dX1_next_0 rfl (lv_at hl 0 rfl) ?_
  refine lv_iload_n hx hb dX1_next_1 rfl (lv_at hl 1 rfl) ?_
  refine lv_iconst (v := 0) hx hb dX1_next_2 (by decide) ?_
  refine s0i (As := [.int (nI k), .int (b2i false)]) (rest := []) S (c_riskS l E b σ τ h k (by omega) hf false) (cwV 2 hts gX1_next_X1_risk rfl rfl rfl hdX1_risk ⟨Nat.le_of_ble_eq_true rfl, Nat.le_of_ble_eq_true rfl⟩) hK (hP0.up (nA_up hS)) hS rfl hl.1 rfl (Nat.le_of_ble_eq_true rfl) ⟨by show 0 + 2 ≤ 4; omega, by show 0 + 80 ≤ 160; omega⟩ dX1_next_3 (fun H locs _ hkp hS => ?_)
  refine lv_aload_n hx hb dX1_next_6 rfl (lv_at hl 0 rfl) ?_
  refine lv_iload_n hx hb dX1_next_7 rfl (lv_at hl 1 rfl) ?_
  refine lv_iconst (v := 1) hx hb dX1_next_8 (by decide) ?_
  refine s0i (As := [.int (nI k), .int (b2i true)]) (rest := [.int (gRisk σ k false)]) S (c_riskS l E b σ τ h k (by omega) hf true) (cwV 2 hts gX1_next_X1_risk rfl rfl rfl hdX1_risk ⟨Nat.le_of_ble_eq_true rfl, Nat.le_of_ble_eq_true rfl⟩) hK (hP0.up (nA_up hS)) hS rfl hl.1 rfl (Nat.le_of_ble_eq_true rfl) ⟨by show 0 + 2 + 2 ≤ 4; omega, by show 0 + 80 + 80 ≤ 160; omega⟩ dX1_next_9 (fun H locs _ hkp hS => ?_)
  refine lv_icmp_gt (tgt := 26) hx hb dX1_next_12 (by decide) (fun c12 => ?_) (fun c12 => ?_)
  · refine lv_aload_n hx hb dX1_next_26 rfl (lv_at hl 0 rfl) ?_
    refine s_get hx hb hts hts1 hown hK (hP0.up (nA_up hS)) 0 (by decide) (by decide +kernel) rfl rfl dX1_next_27 ?_
    refine lv_iload_n hx hb dX1_next_30 rfl (lv_at hl 1 rfl) ?_
    refine s_ald hx hb hK (si_p (hP0.up (nA_up hS))) (k := k) (by omega) (by omega) rfl dX1_next_31 ?_
    refine lv_iconst (v := 2) hx hb dX1_next_32 (by decide) ?_
    refine s_ild hx hb hK (si_r (hP0.up (nA_up hS)) (p := k) (by omega)) (k := 2) (by decide) (by decide) (v := nI (mh τ k)) rfl dX1_next_33 ?_
    refine va_forget (fun q hq => hS.2.2 q hq) ?_
    refine W.widen (k := 4) (n := 160) (by omega) (by omega) ?_
    exact W.iret hx hb hr (fun t ht hW => ⟨⟨_, (), rfl, (by first | (rw [gPl, decide_eq_true c12, (h.to hf _).1]; rfl) | (rw [gPl, decide_eq_false c12, (h.to hf _).1]; rfl)), trivial⟩, (oF hS ht)⟩) (fun _ h => nomatch h) dX1_next_34
  · refine lv_aload_n hx hb dX1_next_15 rfl (lv_at hl 0 rfl) ?_
    refine s_get hx hb hts hts1 hown hK (hP0.up (nA_up hS)) 0 (by decide) (by decide +kernel) rfl rfl dX1_next_16 ?_
    refine lv_iload_n hx hb dX1_next_19 rfl (lv_at hl 1 rfl) ?_
    refine s_ald hx hb hK (si_p (hP0.up (nA_up hS))) (k := k) (by omega) (by omega) rfl dX1_next_20 ?_
    refine lv_iconst (v := 1) hx hb dX1_next_21 (by decide) ?_
    refine s_ild hx hb hK (si_r (hP0.up (nA_up hS)) (p := k) (by omega)) (k := 1) (by decide) (by decide) (v := nI (mo τ k)) rfl dX1_next_22 ?_
    refine lv_goto (tgt := 34) hx hb dX1_next_23 (by decide) ?_
    refine va_forget (fun q hq => hS.2.2 q hq) ?_
    refine W.widen (k := 4) (n := 160) (by omega) (by omega) ?_
    exact W.iret hx hb hr (fun t ht hW => ⟨⟨_, (), rfl, (by first | (rw [gPl, decide_eq_true c12, (h.to hf _).1]; rfl) | (rw [gPl, decide_eq_false c12, (h.to hf _).1]; rfl)), trivial⟩, (oF hS ht)⟩) (fun _ h => nomatch h) dX1_next_34
theorem hinX1_end : ∀ w ∈ wsX10, w ∈ wsX1_end := fun w h => List.mem_cons_of_mem _ (List.mem_append_right _ h)
theorem hdX1_end : yX1_end.cls = RX1 ∧ yX1_end.cls ≠ "java/lang/invoke/MethodHandle" ∧ yX1_end.cls ≠ "java/lang/invoke/VarHandle" ∧ (parseMethodDescriptor yX1_end.desc).map (fun d => d.parameters.length) = some 1 := by decide +kernel
set_option maxHeartbeats 4000000 in
set_option maxRecDepth 100000 in
theorem c_end (l : Launch) (E : GE) (b : Nat → Nat) (σ : GS) (τ : MS) (h : RR σ τ) (k : Nat) (hk : k < mn τ) : Met l yX1_end wsX1_end { frames := 5, cells := 160, slots := 6400, locals := 114 } (va_Pc [.ref (b 0), .int (nI k)] (gH E (si_P E b τ))) (gQN (nI (gLd σ 40 k))) 160 6400 (fun _ => False) := by
  refine w_met (cc := cX1_end) (maxL := 3) (ret := (some .int)) (by decide) rfl (Nat.le_of_ble_eq_true rfl) ?_
  intro p e s m below meth c ls S hr hlocks hname hB hl
  obtain ⟨hP0, hK⟩ := hB
  have hS : va_S (nA s) s.heap s.heap [] := va_S.rf
  obtain ⟨hx, hb, hml, hown, hts⟩ := id S
  have n4 := h.1.1
  have k8 := h.1.2.1
  have hts1 := hinX1_end
  have hl : lv_has ls 3 [(0, .ref (b 0)), (1, .int (nI k))] := hl
  refine lv_iload_n hx hb dX1_end_0 rfl (lv_at hl 1 rfl) ?_
  refine lv_istore_n (lv' := [(2, .int (nI k)), (0, .ref (b 0)), (1, .int (nI k))]) hx hb dX1_end_1 rfl hl (by decide) rfl (fun ls hl => ?_)
  have key : ∀ (d y : Nat) (H : Heap) (locs : List Loc) (cells slots : Nat) (ls : Array Slot), y < d → y < mn τ → gLd σ d y = gLd σ 40 k → va_S (nA s) s.heap H locs → cells + 4 * d ≤ 160 → slots + 160 * d ≤ 6400 → lv_has ls 3 [(2, .int (nI y)), (0, .ref (b 0)), (1, .int (nI k))] → W p l e (headSpec wsX1_end { frames := 5, cells := 160, slots := 6400, locals := 114 }).room s m [.ref (b 0), .int (nI k)].toArray below meth c H locs cells slots (MQ below (gQN (nI (gLd σ 40 k))) [.ref (b 0), .int (nI k)].toArray s 160 6400 (fun _ => False)) (F0 m 2 ls []) := by
    intro d
    induction d with
    | zero =>
      intro y H locs cells slots ls h0
      omega
    | succ d ih =>
      intro y H locs cells slots ls hd hy he hS hcs hss hl
      refine lv_aload_n hx hb dX1_end_2 rfl (lv_at hl 1 rfl) ?_
      refine lv_iload_n hx hb dX1_end_3 rfl (lv_at hl 0 rfl) ?_
      refine s0p (As := [.int (nI y)]) (rest := []) S (c_isFork l E b σ τ h y (by omega)) (cwV 1 hts gX1_end_X1_isFork rfl rfl rfl hdX1_isFork ⟨Nat.le_of_ble_eq_true rfl, Nat.le_of_ble_eq_true rfl⟩) hK (hP0.up (nA_up hS)) rfl hl.1 rfl (Nat.le_of_ble_eq_true rfl) ⟨by show cells ≤ 160; omega, by show slots ≤ 6400; omega⟩ dX1_end_4 ?_
      refine lv_if_eq (tgt := 19) hx hb dX1_end_7 (by decide) (fun c7 => ?_) (fun c7 => ?_)
      · rw [gLd, h.ex hy, b2i_eq0.mp c7, if_pos (by decide)] at he
        refine lv_iload_n hx hb dX1_end_19 rfl (lv_at hl 0 rfl) ?_
        refine va_forget (fun q hq => hS.2.2 q hq) ?_
        refine W.widen (k := 160) (n := 6400) (by omega) (by omega) ?_
        exact W.iret hx hb hr (fun t ht hW => ⟨⟨_, (), rfl, (congrArg nI he), trivial⟩, (oF hS ht)⟩) (fun _ h => nomatch h) dX1_end_20
      · have hf : mf τ y = true := b2i_ne0.mp c7
        have ht := h.to hf (gPl σ y)
        have hlt := h.to hf (gPl σ y)
        rw [gLd, h.ex hy, hf, if_neg (by decide)] at he
        refine lv_aload_n hx hb dX1_end_10 rfl (lv_at hl 1 rfl) ?_
        refine lv_iload_n hx hb dX1_end_11 rfl (lv_at hl 0 rfl) ?_
        refine s0i (As := [.int (nI y)]) (rest := []) S (c_next l E b σ τ h y (by omega) hf) (cwV 1 hts gX1_end_X1_next rfl rfl rfl hdX1_next ⟨Nat.le_of_ble_eq_true rfl, Nat.le_of_ble_eq_true rfl⟩) hK (hP0.up (nA_up hS)) hS rfl hl.1 rfl (Nat.le_of_ble_eq_true rfl) ⟨by show cells + 4 ≤ 160; omega, by show slots + 160 ≤ 6400; omega⟩ dX1_end_12 (fun H locs _ hkp hS => ?_)
        refine lv_istore_n (lv' := [(2, .int (nI (gTo σ y (gPl σ y)))), (0, .ref (b 0)), (1, .int (nI k))]) hx hb dX1_end_15 rfl hl (by decide) rfl (fun ls hl => ?_)
        refine lv_goto (tgt := 2) hx hb dX1_end_16 (by decide) ?_
        exact ih (gTo σ y (gPl σ y)) H _ _ _ ls (by rw [ht.1]; omega) (by rw [ht.1]; omega) he hS (by omega) (by omega) (lv_sub hl [0, 1, 2] rfl)
  exact key 40 k s.heap [] 0 0 ls (by omega) hk rfl hS (by omega) (by omega) (lv_sub hl [0, 1, 2] rfl)
theorem hinX1_regret : ∀ w ∈ wsX10, w ∈ wsX1_regret := fun w h => List.mem_cons_of_mem _ (List.mem_append_right _ h)
theorem hdX1_regret : yX1_regret.cls = RX1 ∧ yX1_regret.cls ≠ "java/lang/invoke/MethodHandle" ∧ yX1_regret.cls ≠ "java/lang/invoke/VarHandle" ∧ (parseMethodDescriptor yX1_regret.desc).map (fun d => d.parameters.length) = some 2 := by decide +kernel
set_option maxHeartbeats 4000000 in
set_option maxRecDepth 100000 in
theorem c_regret (l : Launch) (E : GE) (b : Nat → Nat) (σ : GS) (τ : MS) (h : RR σ τ) (tt j : Nat) (htt : tt < mk τ) (hj : j < mp τ tt) (hE : mf τ (ms τ tt) = false) : Met l yX1_regret wsX1_regret { frames := 3, cells := 1, slots := 40, locals := 68 } (va_Pc [.ref (b 0), .int (nI tt), .int (nI j)] (gH E (si_P E b τ))) (gQN (gReg σ tt j)) 1 40 (fun _ => False) := by
  refine w_met (cc := cX1_regret) (maxL := 5) (ret := (some .int)) (by decide) rfl (Nat.le_of_ble_eq_true rfl) ?_
  intro p e s m below meth c ls S hr hlocks hname hB hl
  obtain ⟨hP0, hK⟩ := hB
  have hS : va_S (nA s) s.heap s.heap [] := va_S.rf
  obtain ⟨hx, hb, hml, hown, hts⟩ := id S
  have n4 := h.1.1
  have k8 := h.1.2.1
  obtain ⟨q1, q2⟩ := h.2.2.2.2.2.1.2.2.2.2.2.1 tt j hj
  have q9 := h.mok.2.2.2.2.2.2.2.2 tt htt
  have t7 := h.mok.2.2.2.2.2.2.1 tt
  have hts1 := hinX1_regret
  have hl : lv_has ls 5 [(0, .ref (b 0)), (1, .int (nI tt)), (2, .int (nI j))] := hl
  refine lv_aload_n hx hb dX1_regret_0 rfl (lv_at hl 0 rfl) ?_
  refine s_get hx hb hts hts1 hown hK (hP0.up (nA_up hS)) 1 (by decide) (by decide +kernel) rfl rfl dX1_regret_1 ?_
  refine lv_iload_n hx hb dX1_regret_4 rfl (lv_at hl 1 rfl) ?_
  refine s_ald hx hb hK (si_s (hP0.up (nA_up hS))) (k := tt) htt (by omega) rfl dX1_regret_5 ?_
  refine lv_iload_n hx hb dX1_regret_6 rfl (lv_at hl 2 rfl) ?_
  refine s_ild hx hb hK (si_t (hP0.up (nA_up hS)) (t := tt) htt) (k := j) (by omega) (by omega) (v := nI (mw τ (40 * tt + j))) (si_tj τ hj) dX1_regret_7 ?_
  refine lv_istore_n (lv' := [(3, .int (nI (mw τ (40 * tt + j)))), (0, .ref (b 0)), (1, .int (nI tt)), (2, .int (nI j))]) hx hb dX1_regret_8 rfl hl (by decide) rfl (fun ls hl => ?_)
  refine lv_aload_n hx hb dX1_regret_9 rfl (lv_at hl 1 rfl) ?_
  refine lv_iload_n hx hb dX1_regret_10 rfl (lv_at hl 0 rfl) ?_
  refine s0i (As := [.int (nI (mw τ (40 * tt + j)))]) (rest := []) S (c_hindsightS l E b σ τ h (mw τ (40 * tt + j)) (h.lt q1) q1) (cwV 1 hts gX1_regret_X1_hindsight rfl rfl rfl hdX1_hindsight ⟨Nat.le_of_ble_eq_true rfl, Nat.le_of_ble_eq_true rfl⟩) hK (hP0.up (nA_up hS)) hS rfl hl.1 rfl (Nat.le_of_ble_eq_true rfl) ⟨by show 0 + 1 ≤ 1; omega, by show 0 + 40 ≤ 40; omega⟩ dX1_regret_11 (fun H locs _ hkp hS => ?_)
  refine lv_aload_n hx hb dX1_regret_14 rfl (lv_at hl 1 rfl) ?_
  refine s_get hx hb hts hts1 hown hK (hP0.up (nA_up hS)) 0 (by decide) (by decide +kernel) rfl rfl dX1_regret_15 ?_
  refine lv_aload_n hx hb dX1_regret_18 rfl (lv_at hl 1 rfl) ?_
  refine lv_iload_n hx hb dX1_regret_19 rfl (lv_at hl 2 rfl) ?_
  refine s0p (As := [.int (nI tt)]) (rest := [.ref (b 1), .int (ghs σ (mw τ (40 * tt + j)))]) S (c_atS l E b σ τ h tt htt) (cwV 1 hts gX1_regret_X1_at rfl rfl rfl hdX1_at ⟨Nat.le_of_ble_eq_true rfl, Nat.le_of_ble_eq_true rfl⟩) hK (hP0.up (nA_up hS)) rfl hl.1 rfl (Nat.le_of_ble_eq_true rfl) ⟨by show 0 + 1 ≤ 1; omega, by show 0 + 40 ≤ 40; omega⟩ dX1_regret_20 ?_
  refine s_ald hx hb hK (si_p (hP0.up (nA_up hS))) (k := ms τ tt) q9 (by omega) rfl dX1_regret_23 ?_
  refine lv_iconst (v := 3) hx hb dX1_regret_24 (by decide) ?_
  refine s_ild hx hb hK (si_r (hP0.up (nA_up hS)) (p := ms τ tt) q9) (k := 3) (by decide) (by decide) (v := md τ (ms τ tt)) rfl dX1_regret_25 ?_
  refine lv_isub hx hb dX1_regret_26 ?_
  refine lv_istore (lv' := [(4, .int ((ghs σ (mw τ (40 * tt + j))) - (md τ (ms τ tt)))), (3, .int (nI (mw τ (40 * tt + j)))), (0, .ref (b 0)), (1, .int (nI tt)), (2, .int (nI j))]) hx hb dX1_regret_27 hl (by decide) rfl (fun ls hl => ?_)
  refine lv_iload hx hb dX1_regret_29 (lv_at hl 0 rfl) ?_
  refine lv_if_ge (tgt := 38) hx hb dX1_regret_31 (by decide) (fun c31 => ?_) (fun c31 => ?_)
  · refine lv_iload hx hb dX1_regret_38 (lv_at hl 0 rfl) ?_
    refine lv_aload_n hx hb dX1_regret_40 rfl (lv_at hl 2 rfl) ?_
    refine s_get hx hb hts hts1 hown hK (hP0.up (nA_up hS)) 0 (by decide) (by decide +kernel) rfl rfl dX1_regret_41 ?_
    refine lv_iload_n hx hb dX1_regret_44 rfl (lv_at hl 1 rfl) ?_
    refine s_ald hx hb hK (si_p (hP0.up (nA_up hS))) (k := mw τ (40 * tt + j)) (h.lt q1) (by omega) rfl dX1_regret_45 ?_
    refine lv_iconst (v := 3) hx hb dX1_regret_46 (by decide) ?_
    refine s_ild hx hb hK (si_r (hP0.up (nA_up hS)) (p := mw τ (40 * tt + j)) (h.lt q1)) (k := 3) (by decide) (by decide) (v := md τ (mw τ (40 * tt + j))) rfl dX1_regret_47 ?_
    refine lv_imul hx hb dX1_regret_48 ?_
    refine va_forget (fun q hq => hS.2.2 q hq) ?_
    refine W.widen (k := 1) (n := 40) (by omega) (by omega) ?_
    exact W.iret hx hb hr (fun t ht hW => ⟨⟨_, (), rfl, (by first | exact ((h.rg htt hj hE).trans (congrArg (· * md τ (mw τ (40 * tt + j))) (imx_nn c31))).symm | exact ((h.rg htt hj hE).trans ((congrArg (· * md τ (mw τ (40 * tt + j))) (imx_ng c31)).trans Int32.zero_mul)).symm), trivial⟩, (oF hS ht)⟩) (fun _ h => nomatch h) dX1_regret_49
  · refine lv_iconst (v := 0) hx hb dX1_regret_34 (by decide) ?_
    refine lv_goto (tgt := 49) hx hb dX1_regret_35 (by decide) ?_
    refine va_forget (fun q hq => hS.2.2 q hq) ?_
    refine W.widen (k := 1) (n := 40) (by omega) (by omega) ?_
    exact W.iret hx hb hr (fun t ht hW => ⟨⟨_, (), rfl, (by first | exact ((h.rg htt hj hE).trans (congrArg (· * md τ (mw τ (40 * tt + j))) (imx_nn c31))).symm | exact ((h.rg htt hj hE).trans ((congrArg (· * md τ (mw τ (40 * tt + j))) (imx_ng c31)).trans Int32.zero_mul)).symm), trivial⟩, (oF hS ht)⟩) (fun _ h => nomatch h) dX1_regret_49
theorem hinX1_regrets : ∀ w ∈ wsX10, w ∈ wsX1_regrets := fun w h => List.mem_cons_of_mem _ (List.mem_append_right _ h)
theorem hdX1_regrets : yX1_regrets.cls = RX1 ∧ yX1_regrets.cls ≠ "java/lang/invoke/MethodHandle" ∧ yX1_regrets.cls ≠ "java/lang/invoke/VarHandle" ∧ (parseMethodDescriptor yX1_regrets.desc).map (fun d => d.parameters.length) = some 1 := by decide +kernel
set_option maxHeartbeats 4000000 in
set_option maxRecDepth 100000 in
theorem c_regrets (l : Launch) (E : GE) (b : Nat → Nat) (σ : GS) (τ : MS) (h : RR σ τ) (tt : Nat) (htt : tt < mk τ) (hE : mf τ (ms τ tt) = false) : Met l yX1_regrets wsX1_regrets { frames := 4, cells := 40, slots := 1600, locals := 92 } (va_Pc [.ref (b 0), .int (nI tt)] (gH E (si_P E b τ))) (gQN (gRegs σ tt)) 40 1600 (fun _ => False) := by
  refine w_met (cc := cX1_regrets) (maxL := 4) (ret := (some .int)) (by decide) rfl (Nat.le_of_ble_eq_true rfl) ?_
  intro p e s m below meth c ls S hr hlocks hname hB hl
  obtain ⟨hP0, hK⟩ := hB
  have hS : va_S (nA s) s.heap s.heap [] := va_S.rf
  obtain ⟨hx, hb, hml, hown, hts⟩ := id S
  have n4 := h.1.1
  have k8 := h.1.2.1
  have t7 := h.mok.2.2.2.2.2.2.1 tt
  have hts1 := hinX1_regrets
  have hl : lv_has ls 4 [(0, .ref (b 0)), (1, .int (nI tt))] := hl
  refine lv_iconst (v := 0) hx hb dX1_regrets_0 (by decide) ?_
  refine lv_istore_n (lv' := [(2, .int 0), (0, .ref (b 0)), (1, .int (nI tt))]) hx hb dX1_regrets_1 rfl hl (by decide) rfl (fun ls hl => ?_)
  refine lv_iconst (v := 0) hx hb dX1_regrets_2 (by decide) ?_
  refine lv_istore_n (lv' := [(3, .int 0), (2, .int 0), (0, .ref (b 0)), (1, .int (nI tt))]) hx hb dX1_regrets_3 rfl hl (by decide) rfl (fun ls hl => ?_)
  have key : ∀ (d i : Nat) (x : Int32) (H : Heap) (locs : List Loc) (cells slots : Nat) (ls : Array Slot), i + d = mp τ tt → x = sumI (gReg σ tt) i → va_S (nA s) s.heap H locs → cells + d ≤ 40 → slots + 40 * d ≤ 1600 → lv_has ls 4 [(3, .int (nI i)), (2, .int x), (0, .ref (b 0)), (1, .int (nI tt))] → W p l e (headSpec wsX1_regrets { frames := 4, cells := 40, slots := 1600, locals := 92 }).room s m [.ref (b 0), .int (nI tt)].toArray below meth c H locs cells slots (MQ below (gQN (gRegs σ tt)) [.ref (b 0), .int (nI tt)].toArray s 40 1600 (fun _ => False)) (F0 m 4 ls []) := by
    intro d
    induction d with
    | zero =>
      intro i x H locs cells slots ls hi hinv hS hcs hss hl
      obtain rfl : i = mp τ tt := by omega
      refine lv_iload_n hx hb dX1_regrets_4 rfl (lv_at hl 0 rfl) ?_
      refine lv_iconst (v := 1) hx hb dX1_regrets_5 (by decide) ?_
      refine lv_iadd hx hb dX1_regrets_6 ?_
      rw [nI_1 (mp τ tt)]
      refine lv_aload_n hx hb dX1_regrets_7 rfl (lv_at hl 2 rfl) ?_
      refine s_get hx hb hts hts1 hown hK (hP0.up (nA_up hS)) 1 (by decide) (by decide +kernel) rfl rfl dX1_regrets_8 ?_
      refine lv_iload_n hx hb dX1_regrets_11 rfl (lv_at hl 3 rfl) ?_
      refine s_ald hx hb hK (si_s (hP0.up (nA_up hS))) (k := tt) htt (by omega) rfl dX1_regrets_12 ?_
      refine s_alenI hx hb hK (si_t (hP0.up (nA_up hS)) (t := tt) htt) dX1_regrets_13 ?_
      refine lv_icmp_ge (tgt := 32) hx hb dX1_regrets_14 (by decide) (fun _ => ?_) (fun q => absurd ((nI_le (Nat.le_refl _) (by omega))) q)
      refine lv_iload_n hx hb dX1_regrets_32 rfl (lv_at hl 1 rfl) ?_
      refine va_forget (fun q hq => hS.2.2 q hq) ?_
      refine W.widen (k := 40) (n := 1600) (by omega) (by omega) ?_
      exact W.iret hx hb hr (fun t ht hW => ⟨⟨_, (), rfl, (by rw [gRegs, h.pc]; exact hinv), trivial⟩, (oF hS ht)⟩) (fun _ h => nomatch h) dX1_regrets_33
    | succ d ih =>
      intro i x H locs cells slots ls hi hinv hS hcs hss hl
      refine lv_iload_n hx hb dX1_regrets_4 rfl (lv_at hl 0 rfl) ?_
      refine lv_iconst (v := 1) hx hb dX1_regrets_5 (by decide) ?_
      refine lv_iadd hx hb dX1_regrets_6 ?_
      rw [nI_1 i]
      refine lv_aload_n hx hb dX1_regrets_7 rfl (lv_at hl 2 rfl) ?_
      refine s_get hx hb hts hts1 hown hK (hP0.up (nA_up hS)) 1 (by decide) (by decide +kernel) rfl rfl dX1_regrets_8 ?_
      refine lv_iload_n hx hb dX1_regrets_11 rfl (lv_at hl 3 rfl) ?_
      refine s_ald hx hb hK (si_s (hP0.up (nA_up hS))) (k := tt) htt (by omega) rfl dX1_regrets_12 ?_
      refine s_alenI hx hb hK (si_t (hP0.up (nA_up hS)) (t := tt) htt) dX1_regrets_13 ?_
      refine lv_icmp_ge (tgt := 32) hx hb dX1_regrets_14 (by decide) (fun q => absurd q ((nI_ge (by omega) (by omega)))) (fun _ => ?_)
      refine lv_iload_n hx hb dX1_regrets_17 rfl (lv_at hl 1 rfl) ?_
      refine lv_aload_n hx hb dX1_regrets_18 rfl (lv_at hl 2 rfl) ?_
      refine lv_iload_n hx hb dX1_regrets_19 rfl (lv_at hl 3 rfl) ?_
      refine lv_iload_n hx hb dX1_regrets_20 rfl (lv_at hl 0 rfl) ?_
      refine s0i (As := [.int (nI tt), .int (nI i)]) (rest := [.int x]) S (c_regret l E b σ τ h tt i htt (by omega) hE) (cwV 2 hts gX1_regrets_X1_regret rfl rfl rfl hdX1_regret ⟨Nat.le_of_ble_eq_true rfl, Nat.le_of_ble_eq_true rfl⟩) hK (hP0.up (nA_up hS)) hS rfl hl.1 rfl (Nat.le_of_ble_eq_true rfl) ⟨by show cells + 1 ≤ 40; omega, by show slots + 40 ≤ 1600; omega⟩ dX1_regrets_21 (fun H locs _ hkp hS => ?_)
      refine lv_iadd hx hb dX1_regrets_24 ?_
      refine lv_istore_n (lv' := [(2, .int (x + (gReg σ tt i))), (3, .int (nI i)), (0, .ref (b 0)), (1, .int (nI tt))]) hx hb dX1_regrets_25 rfl hl (by decide) rfl (fun ls hl => ?_)
      refine lv_iinc (v := nI (i + 1)) (lv' := [(3, .int (nI (i + 1))), (2, .int (x + (gReg σ tt i))), (0, .ref (b 0)), (1, .int (nI tt))]) hx hb dX1_regrets_26 hl (k := 1) rfl (nI_1 i) (by decide) rfl (fun ls hl => ?_)
      refine lv_goto (tgt := 4) hx hb dX1_regrets_29 (by decide) ?_
      exact ih (i + 1) (x + gReg σ tt i) H _ _ _ ls (by omega) (by rw [hinv]; rfl) hS (by omega) (by omega) (lv_sub hl [0, 1, 2, 3] rfl)
  exact key (mp τ tt) 0 0 s.heap [] 0 0 ls (by omega) rfl hS (by omega) (by omega) (lv_sub hl [0, 1, 2, 3] rfl)
