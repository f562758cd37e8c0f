theorem hdL_addExam : yL_addExam.cls ≠ "java/lang/invoke/MethodHandle" ∧ yL_addExam.cls ≠ "java/lang/invoke/VarHandle" ∧ (parseMethodDescriptor yL_addExam.desc).map (fun d => d.parameters.length) = some 4 := by decide +kernel
set_option maxHeartbeats 4000000 in
set_option maxRecDepth 100000 in
theorem w_addExam (l : Launch) (E : GE) (a : Nat → Nat) (σ : GS) (q9 : Nat) (f : Nat → Int64) (sz : Nat) (x y : Nat) (hxy : x ≤ y) (hy : y ≤ 20) (hn : gn σ < 40) : Met l yL_addExam wsL_addExam { frames := 10, cells := 1, slots := 6, locals := 300 } (va_Pc [.ref (a 0), .int (nI x), .int (nI y), .ref q9] (gBy E sz (gO E a σ q9 f))) (gQi E 0 (gO E a σ q9 f) (gO E a (gAddE σ x y) q9 (vp_updL f 0 ((nI (gn σ)).toInt64))) sz) 1 6 (va_A (gO E a σ q9 f) sz) := by
  refine w_met2 (cc := cL_addExam) (maxL := 5) (ret := some .int) (hh := [(0, 10, 13, 13), (0, 10, 17, 15)]) (by decide) rfl (Nat.le_of_ble_eq_true rfl) ?_
  intro p e s m below meth c ls S hr hlocks htab hB hl
  obtain ⟨⟨hsz, hP, hK, hD0⟩, hZ, hN⟩ := hB
  subst hsz
  have hD := hD0.self (sz := s.heap.size)
  have hA : ∀ q : Nat, s.heap.size ≤ q → (va_A (gO E a σ q9 f) s.heap.size) q := fun q h => Or.inr h
  have hS : va_S (va_A (gO E a σ q9 f) s.heap.size) s.heap s.heap [] := va_S.rf
  obtain ⟨hx, hb, hml, hown, hts⟩ := id S
  have hl : lv_has ls 5 [(0, .ref (a 0)), (1, .int (nI x)), (2, .int (nI y)), (3, .ref q9)] := hl
  refine lv_aload_n hx hb dL_addExam_0 rfl (lv_at hl 3 rfl) ?_
  refine lv_iconst (v := 0) hx hb dL_addExam_1 (by decide) ?_
  refine lv_aload_n hx hb dL_addExam_2 rfl (lv_at hl 0 rfl) ?_
  refine lv_iload_n hx hb dL_addExam_3 rfl (lv_at hl 1 rfl) ?_
  refine lv_iload_n hx hb dL_addExam_4 rfl (lv_at hl 2 rfl) ?_
  refine g0wo (As := [.int (nI x), .int (nI y)]) (rest := [.int 0, .ref q9]) (σ' := gAddE σ x y) S (c_addExam l E a σ _ x y hxy hy hn) (cwV 2 hts gL_addExam_X0_addExam rfl rfl rfl hdX0_addExam ⟨Nat.le_of_ble_eq_true rfl, Nat.le_of_ble_eq_true rfl⟩) hK hP hD hS hA rfl hl.1 rfl (Nat.le_of_ble_eq_true rfl) ⟨Nat.zero_le _, Nat.zero_le _⟩ dL_addExam_5 (fun H locs hP hD hS => ?_)
  refine lv_i2l hx hb dL_addExam_8 rfl ?_
  refine g_lst hx hb hK hP hD hS 14 rfl (f' := vp_updL f 0 ((nI (gn σ)).toInt64)) (i := nI 0) (vp_in_nI (by decide) (by decide)) (g_clL (k := 0) (by decide) rfl) dL_addExam_9 (fun H locs hP hD hS => ?_)
  refine lv_goto (tgt := 21) hx hb dL_addExam_10 (by decide) ?_
  refine lv_iconst (v := 0) hx hb dL_addExam_21 (by decide) ?_
  refine W.widen (k := 1) (n := 6) (by omega) (by omega) ?_
  exact W.iret hx hb hr (fun t ht hW => ⟨⟨_, (), rfl, rfl, by show gP E _ t.heap; rw [ht]; exact hP⟩, hS.F ht⟩) hS.2.2 dL_addExam_22
set_option maxHeartbeats 4000000 in
set_option maxRecDepth 100000 in
theorem w_addExam_1 (l : Launch) (hfl : l.stackTraces = false) (E : GE) (a : Nat → Nat) (σ : GS) (q9 : Nat) (f : Nat → Int64) (sz : Nat) (x y : Int32) (h : x < 0 ∨ nI 20 < y ∨ y < x) : Met l yL_addExam wsL_addExam { frames := 10, cells := 1, slots := 6, locals := 300 } (va_Pc [.ref (a 0), .int x, .int y, .ref q9] (gBy E sz (gO E a σ q9 f))) (gQi E 1 (gO E a σ q9 f) (gO E a σ q9 f) sz) 1 6 (va_A (gO E a σ q9 f) sz) := by
  refine w_met2 (cc := cL_addExam) (maxL := 5) (ret := some .int) (hh := [(0, 10, 13, 13), (0, 10, 17, 15)]) (by decide) rfl (Nat.le_of_ble_eq_true rfl) ?_
  intro p e s m below meth c ls S hr hlocks htab hB hl
  obtain ⟨⟨hsz, hP, hK, hD0⟩, hZ, hN⟩ := hB
  subst hsz
  have hD := hD0.self (sz := s.heap.size)
  have hA : ∀ q : Nat, s.heap.size ≤ q → (va_A (gO E a σ q9 f) s.heap.size) q := fun q h => Or.inr h
  have hS : va_S (va_A (gO E a σ q9 f) s.heap.size) s.heap s.heap [] := va_S.rf
  obtain ⟨hx, hb, hml, hown, hts⟩ := id S
  have hl : lv_has ls 5 [(0, .ref (a 0)), (1, .int x), (2, .int y), (3, .ref q9)] := hl
  refine lv_aload_n hx hb dL_addExam_0 rfl (lv_at hl 3 rfl) ?_
  refine lv_iconst (v := 0) hx hb dL_addExam_1 (by decide) ?_
  refine lv_aload_n hx hb dL_addExam_2 rfl (lv_at hl 0 rfl) ?_
  refine lv_iload_n hx hb dL_addExam_3 rfl (lv_at hl 1 rfl) ?_
  refine lv_iload_n hx hb dL_addExam_4 rfl (lv_at hl 2 rfl) ?_
  refine g0xo (A := (va_A (gO E a σ q9 f) s.heap.size)) (As := [.int x, .int y]) (rest := [.int 0, .ref q9]) S (x_addExam l hfl E a σ x y h) (cwV 2 hts gL_addExam_X0_addExam rfl rfl rfl hdX0_addExam ⟨Nat.le_of_ble_eq_true rfl, Nat.le_of_ble_eq_true rfl⟩) hK hP hZ rfl hl.1 rfl (Nat.le_of_ble_eq_true rfl) ⟨Nat.le_of_ble_eq_true rfl, Nat.le_of_ble_eq_true rfl⟩ dL_addExam_5 [] ⟨0, 10, 13, 13⟩ [⟨0, 10, 17, 15⟩] (htab.trans rfl) (ps_nil (U := fun _ => True)) (by decide) (by decide) (hts (.classLink RL 13 "java/lang/IllegalArgumentException") (by decide +kernel)) (by decide +kernel) (fun q H locs hP hS => ?_)
  refine lv_astore (lv' := [(4, .ref q), (0, .ref (a 0)), (1, .int x), (2, .int y), (3, .ref q9)]) hx hb dL_addExam_13 hl (by decide) rfl (fun ls hl => ?_)
  refine lv_iconst (v := 1) hx hb dL_addExam_15 (by decide) ?_
  exact W.iret hx hb hr (fun t ht hW => ⟨⟨_, (), rfl, rfl, by show gP E _ t.heap; rw [ht]; exact hP⟩, hS.F ht⟩) hS.2.2 dL_addExam_16
set_option maxHeartbeats 4000000 in
set_option maxRecDepth 100000 in
theorem w_addExam_2 (l : Launch) (hfl : l.stackTraces = false) (E : GE) (a : Nat → Nat) (σ : GS) (q9 : Nat) (f : Nat → Int64) (sz : Nat) (x y : Nat) (hxy : x ≤ y) (hy : y ≤ 20) (h1 : gn σ = 40) : Met l yL_addExam wsL_addExam { frames := 10, cells := 1, slots := 6, locals := 300 } (va_Pc [.ref (a 0), .int (nI x), .int (nI y), .ref q9] (gBy E sz (gO E a σ q9 f))) (gQi E 2 (gO E a σ q9 f) (gO E a σ q9 f) sz) 1 6 (va_A (gO E a σ q9 f) sz) := by
  refine w_met2 (cc := cL_addExam) (maxL := 5) (ret := some .int) (hh := [(0, 10, 13, 13), (0, 10, 17, 15)]) (by decide) rfl (Nat.le_of_ble_eq_true rfl) ?_
  intro p e s m below meth c ls S hr hlocks htab hB hl
  obtain ⟨⟨hsz, hP, hK, hD0⟩, hZ, hN⟩ := hB
  subst hsz
  have hD := hD0.self (sz := s.heap.size)
  have hA : ∀ q : Nat, s.heap.size ≤ q → (va_A (gO E a σ q9 f) s.heap.size) q := fun q h => Or.inr h
  have hS : va_S (va_A (gO E a σ q9 f) s.heap.size) s.heap s.heap [] := va_S.rf
  obtain ⟨hx, hb, hml, hown, hts⟩ := id S
  have hl : lv_has ls 5 [(0, .ref (a 0)), (1, .int (nI x)), (2, .int (nI y)), (3, .ref q9)] := hl
  refine lv_aload_n hx hb dL_addExam_0 rfl (lv_at hl 3 rfl) ?_
  refine lv_iconst (v := 0) hx hb dL_addExam_1 (by decide) ?_
  refine lv_aload_n hx hb dL_addExam_2 rfl (lv_at hl 0 rfl) ?_
  refine lv_iload_n hx hb dL_addExam_3 rfl (lv_at hl 1 rfl) ?_
  refine lv_iload_n hx hb dL_addExam_4 rfl (lv_at hl 2 rfl) ?_
  refine g0xo (A := (va_A (gO E a σ q9 f) s.heap.size)) (As := [.int (nI x), .int (nI y)]) (rest := [.int 0, .ref q9]) S (x_addExam2 l hfl E a σ x y hxy hy h1) (cwV 2 hts gL_addExam_X0_addExam rfl rfl rfl hdX0_addExam ⟨Nat.le_of_ble_eq_true rfl, Nat.le_of_ble_eq_true rfl⟩) hK hP hZ rfl hl.1 rfl (Nat.le_of_ble_eq_true rfl) ⟨Nat.le_of_ble_eq_true rfl, Nat.le_of_ble_eq_true rfl⟩ dL_addExam_5 [⟨0, 10, 13, 13⟩] ⟨0, 10, 17, 15⟩ [] (htab.trans rfl) (ps_cons (by decide) (hts (.classLink RL 13 "java/lang/IllegalArgumentException") (by decide +kernel)) hN.1 (ps_nil (U := fun _ => True))) (by decide) (by decide) (hts (.classLink RL 15 "java/lang/IllegalStateException") (by decide +kernel)) (by decide +kernel) (fun q H locs hP hS => ?_)
  refine lv_astore (lv' := [(4, .ref q), (0, .ref (a 0)), (1, .int (nI x)), (2, .int (nI y)), (3, .ref q9)]) hx hb dL_addExam_17 hl (by decide) rfl (fun ls hl => ?_)
  refine lv_iconst (v := 2) hx hb dL_addExam_19 (by decide) ?_
  exact W.iret hx hb hr (fun t ht hW => ⟨⟨_, (), rfl, rfl, by show gP E _ t.heap; rw [ht]; exact hP⟩, hS.F ht⟩) hS.2.2 dL_addExam_20
theorem hdL_addFork : yL_addFork.cls ≠ "java/lang/invoke/MethodHandle" ∧ yL_addFork.cls ≠ "java/lang/invoke/VarHandle" ∧ (parseMethodDescriptor yL_addFork.desc).map (fun d => d.parameters.length) = some 5 := by decide +kernel
set_option maxHeartbeats 4000000 in
set_option maxRecDepth 100000 in
theorem w_addFork (l : Launch) (E : GE) (a : Nat → Nat) (σ : GS) (q9 : Nat) (f : Nat → Int64) (sz : Nat) (hO : GOK σ) (x y : Nat) (hx8 : x < gn σ) (hy : y < gn σ) (w : Int32) (h1 : ¬ w < 1) (h9 : w ≤ nI 9) (hn : gn σ < 40) : Met l yL_addFork wsL_addFork { frames := 10, cells := 1, slots := 6, locals := 300 } (va_Pc [.ref (a 0), .int (nI x), .int (nI y), .int w, .ref q9] (gBy E sz (gO E a σ q9 f))) (gQi E 0 (gO E a σ q9 f) (gO E a (gAddF σ x y w) q9 (vp_updL f 0 ((nI (gn σ)).toInt64))) sz) 1 6 (va_A (gO E a σ q9 f) sz) := by
  refine w_met2 (cc := cL_addFork) (maxL := 6) (ret := some .int) (hh := [(0, 12, 15, 21), (0, 12, 19, 13), (0, 12, 23, 15)]) (by decide) rfl (Nat.le_of_ble_eq_true rfl) ?_
  intro p e s m below meth c ls S hr hlocks htab hB hl
  obtain ⟨⟨hsz, hP, hK, hD0⟩, hZ, hN⟩ := hB
  subst hsz
  have hD := hD0.self (sz := s.heap.size)
  have hA : ∀ q : Nat, s.heap.size ≤ q → (va_A (gO E a σ q9 f) s.heap.size) q := fun q h => Or.inr h
  have hS : va_S (va_A (gO E a σ q9 f) s.heap.size) s.heap s.heap [] := va_S.rf
  obtain ⟨hx, hb, hml, hown, hts⟩ := id S
  have hl : lv_has ls 6 [(0, .ref (a 0)), (1, .int (nI x)), (2, .int (nI y)), (3, .int w), (4, .ref q9)] := hl
  refine lv_aload hx hb dL_addFork_0 (lv_at hl 4 rfl) ?_
  refine lv_iconst (v := 0) hx hb dL_addFork_2 (by decide) ?_
  refine lv_aload_n hx hb dL_addFork_3 rfl (lv_at hl 0 rfl) ?_
  refine lv_iload_n hx hb dL_addFork_4 rfl (lv_at hl 1 rfl) ?_
  refine lv_iload_n hx hb dL_addFork_5 rfl (lv_at hl 2 rfl) ?_
  refine lv_iload_n hx hb dL_addFork_6 rfl (lv_at hl 3 rfl) ?_
  refine g0wo (As := [.int (nI x), .int (nI y), .int w]) (rest := [.int 0, .ref q9]) (σ' := gAddF σ x y w) S (c_addFork l E a σ _ hO x y hx8 hy w h1 h9 hn) (cwV 3 hts gL_addFork_X0_addFork rfl rfl rfl hdX0_addFork ⟨Nat.le_of_ble_eq_true rfl, Nat.le_of_ble_eq_true rfl⟩) hK hP hD hS hA rfl hl.1 rfl (Nat.le_of_ble_eq_true rfl) ⟨Nat.zero_le _, Nat.zero_le _⟩ dL_addFork_7 (fun H locs hP hD hS => ?_)
  refine lv_i2l hx hb dL_addFork_10 rfl ?_
  refine g_lst hx hb hK hP hD hS 14 rfl (f' := vp_updL f 0 ((nI (gn σ)).toInt64)) (i := nI 0) (vp_in_nI (by decide) (by decide)) (g_clL (k := 0) (by decide) rfl) dL_addFork_11 (fun H locs hP hD hS => ?_)
  refine lv_goto (tgt := 27) hx hb dL_addFork_12 (by decide) ?_
  refine lv_iconst (v := 0) hx hb dL_addFork_27 (by decide) ?_
  refine W.widen (k := 1) (n := 6) (by omega) (by omega) ?_
  exact W.iret hx hb hr (fun t ht hW => ⟨⟨_, (), rfl, rfl, by show gP E _ t.heap; rw [ht]; exact hP⟩, hS.F ht⟩) hS.2.2 dL_addFork_28
set_option maxHeartbeats 4000000 in
set_option maxRecDepth 100000 in
theorem w_addFork_1 (l : Launch) (hfl : l.stackTraces = false) (E : GE) (a : Nat → Nat) (σ : GS) (q9 : Nat) (f : Nat → Int64) (sz : Nat) (pp qq w0 : Int32) (h : gPb σ pp) : Met l yL_addFork wsL_addFork { frames := 10, cells := 1, slots := 6, locals := 300 } (va_Pc [.ref (a 0), .int pp, .int qq, .int w0, .ref q9] (gBy E sz (gO E a σ q9 f))) (gQi E 1 (gO E a σ q9 f) (gO E a σ q9 f) sz) 1 6 (va_A (gO E a σ q9 f) sz) := by
  refine w_met2 (cc := cL_addFork) (maxL := 6) (ret := some .int) (hh := [(0, 12, 15, 21), (0, 12, 19, 13), (0, 12, 23, 15)]) (by decide) rfl (Nat.le_of_ble_eq_true rfl) ?_
  intro p e s m below meth c ls S hr hlocks htab hB hl
  obtain ⟨⟨hsz, hP, hK, hD0⟩, hZ, hN⟩ := hB
  subst hsz
  have hD := hD0.self (sz := s.heap.size)
  have hA : ∀ q : Nat, s.heap.size ≤ q → (va_A (gO E a σ q9 f) s.heap.size) q := fun q h => Or.inr h
  have hS : va_S (va_A (gO E a σ q9 f) s.heap.size) s.heap s.heap [] := va_S.rf
  obtain ⟨hx, hb, hml, hown, hts⟩ := id S
  have hl : lv_has ls 6 [(0, .ref (a 0)), (1, .int pp), (2, .int qq), (3, .int w0), (4, .ref q9)] := hl
  refine lv_aload hx hb dL_addFork_0 (lv_at hl 4 rfl) ?_
  refine lv_iconst (v := 0) hx hb dL_addFork_2 (by decide) ?_
  refine lv_aload_n hx hb dL_addFork_3 rfl (lv_at hl 0 rfl) ?_
  refine lv_iload_n hx hb dL_addFork_4 rfl (lv_at hl 1 rfl) ?_
  refine lv_iload_n hx hb dL_addFork_5 rfl (lv_at hl 2 rfl) ?_
  refine lv_iload_n hx hb dL_addFork_6 rfl (lv_at hl 3 rfl) ?_
  refine g0xo (A := (va_A (gO E a σ q9 f) s.heap.size)) (As := [.int pp, .int qq, .int w0]) (rest := [.int 0, .ref q9]) S (x_addFork l hfl E a σ pp qq w0 h) (cwV 3 hts gL_addFork_X0_addFork rfl rfl rfl hdX0_addFork ⟨Nat.le_of_ble_eq_true rfl, Nat.le_of_ble_eq_true rfl⟩) hK hP hZ rfl hl.1 rfl (Nat.le_of_ble_eq_true rfl) ⟨Nat.le_of_ble_eq_true rfl, Nat.le_of_ble_eq_true rfl⟩ dL_addFork_7 [] ⟨0, 12, 15, 21⟩ [⟨0, 12, 19, 13⟩, ⟨0, 12, 23, 15⟩] (htab.trans rfl) (ps_nil (U := fun _ => True)) (by decide) (by decide) (hts (.classLink RL 21 "java/lang/IndexOutOfBoundsException") (by decide +kernel)) (by decide +kernel) (fun q H locs hP hS => ?_)
  refine lv_astore (lv' := [(5, .ref q), (0, .ref (a 0)), (1, .int pp), (2, .int qq), (3, .int w0), (4, .ref q9)]) hx hb dL_addFork_15 hl (by decide) rfl (fun ls hl => ?_)
  refine lv_iconst (v := 1) hx hb dL_addFork_17 (by decide) ?_
  exact W.iret hx hb hr (fun t ht hW => ⟨⟨_, (), rfl, rfl, by show gP E _ t.heap; rw [ht]; exact hP⟩, hS.F ht⟩) hS.2.2 dL_addFork_18
set_option maxHeartbeats 4000000 in
set_option maxRecDepth 100000 in
theorem w_addFork_2 (l : Launch) (hfl : l.stackTraces = false) (E : GE) (a : Nat → Nat) (σ : GS) (q9 : Nat) (f : Nat → Int64) (sz : Nat) (hn : gn σ ≤ 40) (k : Nat) (hk : k < gn σ) (qq w0 : Int32) (h : gPb σ qq) : Met l yL_addFork wsL_addFork { frames := 10, cells := 1, slots := 6, locals := 300 } (va_Pc [.ref (a 0), .int (nI k), .int qq, .int w0, .ref q9] (gBy E sz (gO E a σ q9 f))) (gQi E 1 (gO E a σ q9 f) (gO E a σ q9 f) sz) 1 6 (va_A (gO E a σ q9 f) sz) := by
  refine w_met2 (cc := cL_addFork) (maxL := 6) (ret := some .int) (hh := [(0, 12, 15, 21), (0, 12, 19, 13), (0, 12, 23, 15)]) (by decide) rfl (Nat.le_of_ble_eq_true rfl) ?_
  intro p e s m below meth c ls S hr hlocks htab hB hl
  obtain ⟨⟨hsz, hP, hK, hD0⟩, hZ, hN⟩ := hB
  subst hsz
  have hD := hD0.self (sz := s.heap.size)
  have hA : ∀ q : Nat, s.heap.size ≤ q → (va_A (gO E a σ q9 f) s.heap.size) q := fun q h => Or.inr h
  have hS : va_S (va_A (gO E a σ q9 f) s.heap.size) s.heap s.heap [] := va_S.rf
  obtain ⟨hx, hb, hml, hown, hts⟩ := id S
  have hl : lv_has ls 6 [(0, .ref (a 0)), (1, .int (nI k)), (2, .int qq), (3, .int w0), (4, .ref q9)] := hl
  refine lv_aload hx hb dL_addFork_0 (lv_at hl 4 rfl) ?_
  refine lv_iconst (v := 0) hx hb dL_addFork_2 (by decide) ?_
  refine lv_aload_n hx hb dL_addFork_3 rfl (lv_at hl 0 rfl) ?_
  refine lv_iload_n hx hb dL_addFork_4 rfl (lv_at hl 1 rfl) ?_
  refine lv_iload_n hx hb dL_addFork_5 rfl (lv_at hl 2 rfl) ?_
  refine lv_iload_n hx hb dL_addFork_6 rfl (lv_at hl 3 rfl) ?_
  refine g0xo (A := (va_A (gO E a σ q9 f) s.heap.size)) (As := [.int (nI k), .int qq, .int w0]) (rest := [.int 0, .ref q9]) S (x_addFork2 l hfl E a σ hn k hk qq w0 h) (cwV 3 hts gL_addFork_X0_addFork rfl rfl rfl hdX0_addFork ⟨Nat.le_of_ble_eq_true rfl, Nat.le_of_ble_eq_true rfl⟩) hK hP hZ rfl hl.1 rfl (Nat.le_of_ble_eq_true rfl) ⟨Nat.le_of_ble_eq_true rfl, Nat.le_of_ble_eq_true rfl⟩ dL_addFork_7 [] ⟨0, 12, 15, 21⟩ [⟨0, 12, 19, 13⟩, ⟨0, 12, 23, 15⟩] (htab.trans rfl) (ps_nil (U := fun _ => True)) (by decide) (by decide) (hts (.classLink RL 21 "java/lang/IndexOutOfBoundsException") (by decide +kernel)) (by decide +kernel) (fun q H locs hP hS => ?_)
  refine lv_astore (lv' := [(5, .ref q), (0, .ref (a 0)), (1, .int (nI k)), (2, .int qq), (3, .int w0), (4, .ref q9)]) hx hb dL_addFork_15 hl (by decide) rfl (fun ls hl => ?_)
  refine lv_iconst (v := 1) hx hb dL_addFork_17 (by decide) ?_
  exact W.iret hx hb hr (fun t ht hW => ⟨⟨_, (), rfl, rfl, by show gP E _ t.heap; rw [ht]; exact hP⟩, hS.F ht⟩) hS.2.2 dL_addFork_18
set_option maxHeartbeats 4000000 in
set_option maxRecDepth 100000 in
theorem w_addFork_3 (l : Launch) (hfl : l.stackTraces = false) (E : GE) (a : Nat → Nat) (σ : GS) (q9 : Nat) (f : Nat → Int64) (sz : Nat) (hn : gn σ ≤ 40) (k k2 : Nat) (hk : k < gn σ) (hk2 : k2 < gn σ) (w0 : Int32) (h : w0 < 1 ∨ nI 9 < w0) : Met l yL_addFork wsL_addFork { frames := 10, cells := 1, slots := 6, locals := 300 } (va_Pc [.ref (a 0), .int (nI k), .int (nI k2), .int w0, .ref q9] (gBy E sz (gO E a σ q9 f))) (gQi E 2 (gO E a σ q9 f) (gO E a σ q9 f) sz) 1 6 (va_A (gO E a σ q9 f) sz) := by
  refine w_met2 (cc := cL_addFork) (maxL := 6) (ret := some .int) (hh := [(0, 12, 15, 21), (0, 12, 19, 13), (0, 12, 23, 15)]) (by decide) rfl (Nat.le_of_ble_eq_true rfl) ?_
  intro p e s m below meth c ls S hr hlocks htab hB hl
  obtain ⟨⟨hsz, hP, hK, hD0⟩, hZ, hN⟩ := hB
  subst hsz
  have hD := hD0.self (sz := s.heap.size)
  have hA : ∀ q : Nat, s.heap.size ≤ q → (va_A (gO E a σ q9 f) s.heap.size) q := fun q h => Or.inr h
  have hS : va_S (va_A (gO E a σ q9 f) s.heap.size) s.heap s.heap [] := va_S.rf
  obtain ⟨hx, hb, hml, hown, hts⟩ := id S
  have hl : lv_has ls 6 [(0, .ref (a 0)), (1, .int (nI k)), (2, .int (nI k2)), (3, .int w0), (4, .ref q9)] := hl
  refine lv_aload hx hb dL_addFork_0 (lv_at hl 4 rfl) ?_
  refine lv_iconst (v := 0) hx hb dL_addFork_2 (by decide) ?_
  refine lv_aload_n hx hb dL_addFork_3 rfl (lv_at hl 0 rfl) ?_
  refine lv_iload_n hx hb dL_addFork_4 rfl (lv_at hl 1 rfl) ?_
  refine lv_iload_n hx hb dL_addFork_5 rfl (lv_at hl 2 rfl) ?_
  refine lv_iload_n hx hb dL_addFork_6 rfl (lv_at hl 3 rfl) ?_
  refine g0xo (A := (va_A (gO E a σ q9 f) s.heap.size)) (As := [.int (nI k), .int (nI k2), .int w0]) (rest := [.int 0, .ref q9]) S (x_addFork3 l hfl E a σ hn k k2 hk hk2 w0 h) (cwV 3 hts gL_addFork_X0_addFork rfl rfl rfl hdX0_addFork ⟨Nat.le_of_ble_eq_true rfl, Nat.le_of_ble_eq_true rfl⟩) hK hP hZ rfl hl.1 rfl (Nat.le_of_ble_eq_true rfl) ⟨Nat.le_of_ble_eq_true rfl, Nat.le_of_ble_eq_true rfl⟩ dL_addFork_7 [⟨0, 12, 15, 21⟩] ⟨0, 12, 19, 13⟩ [⟨0, 12, 23, 15⟩] (htab.trans rfl) (ps_cons (by decide) (hts (.classLink RL 21 "java/lang/IndexOutOfBoundsException") (by decide +kernel)) hN.2.1 (ps_nil (U := fun _ => True))) (by decide) (by decide) (hts (.classLink RL 13 "java/lang/IllegalArgumentException") (by decide +kernel)) (by decide +kernel) (fun q H locs hP hS => ?_)
  refine lv_astore (lv' := [(5, .ref q), (0, .ref (a 0)), (1, .int (nI k)), (2, .int (nI k2)), (3, .int w0), (4, .ref q9)]) hx hb dL_addFork_19 hl (by decide) rfl (fun ls hl => ?_)
  refine lv_iconst (v := 2) hx hb dL_addFork_21 (by decide) ?_
  exact W.iret hx hb hr (fun t ht hW => ⟨⟨_, (), rfl, rfl, by show gP E _ t.heap; rw [ht]; exact hP⟩, hS.F ht⟩) hS.2.2 dL_addFork_22
set_option maxHeartbeats 4000000 in
set_option maxRecDepth 100000 in
theorem w_addFork_4 (l : Launch) (hfl : l.stackTraces = false) (E : GE) (a : Nat → Nat) (σ : GS) (q9 : Nat) (f : Nat → Int64) (sz : Nat) (k k2 : Nat) (hk : k < gn σ) (hk2 : k2 < gn σ) (w0 : Int32) (h1 : ¬ w0 < 1) (h9 : w0 ≤ nI 9) (h40 : gn σ = 40) : Met l yL_addFork wsL_addFork { frames := 10, cells := 1, slots := 6, locals := 300 } (va_Pc [.ref (a 0), .int (nI k), .int (nI k2), .int w0, .ref q9] (gBy E sz (gO E a σ q9 f))) (gQi E 3 (gO E a σ q9 f) (gO E a σ q9 f) sz) 1 6 (va_A (gO E a σ q9 f) sz) := by
  refine w_met2 (cc := cL_addFork) (maxL := 6) (ret := some .int) (hh := [(0, 12, 15, 21), (0, 12, 19, 13), (0, 12, 23, 15)]) (by decide) rfl (Nat.le_of_ble_eq_true rfl) ?_
  intro p e s m below meth c ls S hr hlocks htab hB hl
  obtain ⟨⟨hsz, hP, hK, hD0⟩, hZ, hN⟩ := hB
  subst hsz
  have hD := hD0.self (sz := s.heap.size)
  have hA : ∀ q : Nat, s.heap.size ≤ q → (va_A (gO E a σ q9 f) s.heap.size) q := fun q h => Or.inr h
  have hS : va_S (va_A (gO E a σ q9 f) s.heap.size) s.heap s.heap [] := va_S.rf
  obtain ⟨hx, hb, hml, hown, hts⟩ := id S
  have hl : lv_has ls 6 [(0, .ref (a 0)), (1, .int (nI k)), (2, .int (nI k2)), (3, .int w0), (4, .ref q9)] := hl
  refine lv_aload hx hb dL_addFork_0 (lv_at hl 4 rfl) ?_
  refine lv_iconst (v := 0) hx hb dL_addFork_2 (by decide) ?_
  refine lv_aload_n hx hb dL_addFork_3 rfl (lv_at hl 0 rfl) ?_
  refine lv_iload_n hx hb dL_addFork_4 rfl (lv_at hl 1 rfl) ?_
  refine lv_iload_n hx hb dL_addFork_5 rfl (lv_at hl 2 rfl) ?_
  refine lv_iload_n hx hb dL_addFork_6 rfl (lv_at hl 3 rfl) ?_
  refine g0xo (A := (va_A (gO E a σ q9 f) s.heap.size)) (As := [.int (nI k), .int (nI k2), .int w0]) (rest := [.int 0, .ref q9]) S (x_addFork4 l hfl E a σ k k2 hk hk2 w0 h1 h9 h40) (cwV 3 hts gL_addFork_X0_addFork rfl rfl rfl hdX0_addFork ⟨Nat.le_of_ble_eq_true rfl, Nat.le_of_ble_eq_true rfl⟩) hK hP hZ rfl hl.1 rfl (Nat.le_of_ble_eq_true rfl) ⟨Nat.le_of_ble_eq_true rfl, Nat.le_of_ble_eq_true rfl⟩ dL_addFork_7 [⟨0, 12, 15, 21⟩, ⟨0, 12, 19, 13⟩] ⟨0, 12, 23, 15⟩ [] (htab.trans rfl) (ps_cons (by decide) (hts (.classLink RL 21 "java/lang/IndexOutOfBoundsException") (by decide +kernel)) hN.2.2 (ps_cons (by decide) (hts (.classLink RL 13 "java/lang/IllegalArgumentException") (by decide +kernel)) hN.1 (ps_nil (U := fun _ => True)))) (by decide) (by decide) (hts (.classLink RL 15 "java/lang/IllegalStateException") (by decide +kernel)) (by decide +kernel) (fun q H locs hP hS => ?_)
  refine lv_astore (lv' := [(5, .ref q), (0, .ref (a 0)), (1, .int (nI k)), (2, .int (nI k2)), (3, .int w0), (4, .ref q9)]) hx hb dL_addFork_23 hl (by decide) rfl (fun ls hl => ?_)
  refine lv_iconst (v := 3) hx hb dL_addFork_25 (by decide) ?_
  exact W.iret hx hb hr (fun t ht hW => ⟨⟨_, (), rfl, rfl, by show gP E _ t.heap; rw [ht]; exact hP⟩, hS.F ht⟩) hS.2.2 dL_addFork_26
theorem hdL_enroll : yL_enroll.cls ≠ "java/lang/invoke/MethodHandle" ∧ yL_enroll.cls ≠ "java/lang/invoke/VarHandle" ∧ (parseMethodDescriptor yL_enroll.desc).map (fun d => d.parameters.length) = some 3 := by decide +kernel
set_option maxHeartbeats 4000000 in
set_option maxRecDepth 100000 in
theorem w_enroll (l : Launch) (E : GE) (a : Nat → Nat) (σ : GS) (q9 : Nat) (f : Nat → Int64) (sz : Nat) (k : Nat) (hn : gn σ ≤ 40) (hk : k < gn σ) (h8 : gk σ < 8) : Met l yL_enroll wsL_enroll { frames := 10, cells := 1, slots := 6, locals := 300 } (va_Pc [.ref (a 0), .int (nI k), .ref q9] (gBy E sz (gO E a σ q9 f))) (gQi E 0 (gO E a σ q9 f) (gO E a (gEnr σ k) q9 (vp_updL f 0 ((nI (gk σ)).toInt64))) sz) 1 6 (va_A (gO E a σ q9 f) sz) := by
  refine w_met2 (cc := cL_enroll) (maxL := 4) (ret := some .int) (hh := [(0, 9, 12, 21), (0, 9, 15, 15)]) (by decide) rfl (Nat.le_of_ble_eq_true rfl) ?_
  intro p e s m below meth c ls S hr hlocks htab hB hl
  obtain ⟨⟨hsz, hP, hK, hD0⟩, hZ, hN⟩ := hB
  subst hsz
  have hD := hD0.self (sz := s.heap.size)
  have hA : ∀ q : Nat, s.heap.size ≤ q → (va_A (gO E a σ q9 f) s.heap.size) q := fun q h => Or.inr h
  have hS : va_S (va_A (gO E a σ q9 f) s.heap.size) s.heap s.heap [] := va_S.rf
  obtain ⟨hx, hb, hml, hown, hts⟩ := id S
  have hl : lv_has ls 4 [(0, .ref (a 0)), (1, .int (nI k)), (2, .ref q9)] := hl
  refine lv_aload_n hx hb dL_enroll_0 rfl (lv_at hl 2 rfl) ?_
  refine lv_iconst (v := 0) hx hb dL_enroll_1 (by decide) ?_
  refine lv_aload_n hx hb dL_enroll_2 rfl (lv_at hl 0 rfl) ?_
  refine lv_iload_n hx hb dL_enroll_3 rfl (lv_at hl 1 rfl) ?_
  refine g0wo (As := [.int (nI k)]) (rest := [.int 0, .ref q9]) (σ' := gEnr σ k) S (c_enroll l E a σ _ k hn hk h8) (cwV 1 hts gL_enroll_X0_enroll rfl rfl rfl hdX0_enroll ⟨Nat.le_of_ble_eq_true rfl, Nat.le_of_ble_eq_true rfl⟩) hK hP hD hS hA rfl hl.1 rfl (Nat.le_of_ble_eq_true rfl) ⟨Nat.zero_le _, Nat.zero_le _⟩ dL_enroll_4 (fun H locs hP hD hS => ?_)
  refine lv_i2l hx hb dL_enroll_7 rfl ?_
  refine g_lst hx hb hK hP hD hS 14 rfl (f' := vp_updL f 0 ((nI (gk σ)).toInt64)) (i := nI 0) (vp_in_nI (by decide) (by decide)) (g_clL (k := 0) (by decide) rfl) dL_enroll_8 (fun H locs hP hD hS => ?_)
  refine lv_goto (tgt := 18) hx hb dL_enroll_9 (by decide) ?_
  refine lv_iconst (v := 0) hx hb dL_enroll_18 (by decide) ?_
  refine W.widen (k := 1) (n := 6) (by omega) (by omega) ?_
  exact W.iret hx hb hr (fun t ht hW => ⟨⟨_, (), rfl, rfl, by show gP E _ t.heap; rw [ht]; exact hP⟩, hS.F ht⟩) hS.2.2 dL_enroll_19
set_option maxHeartbeats 4000000 in
set_option maxRecDepth 100000 in
theorem w_enroll_1 (l : Launch) (hfl : l.stackTraces = false) (E : GE) (a : Nat → Nat) (σ : GS) (q9 : Nat) (f : Nat → Int64) (sz : Nat) (pp : Int32) (h : gPb σ pp) : Met l yL_enroll wsL_enroll { frames := 10, cells := 1, slots := 6, locals := 300 } (va_Pc [.ref (a 0), .int pp, .ref q9] (gBy E sz (gO E a σ q9 f))) (gQi E 1 (gO E a σ q9 f) (gO E a σ q9 f) sz) 1 6 (va_A (gO E a σ q9 f) sz) := by
  refine w_met2 (cc := cL_enroll) (maxL := 4) (ret := some .int) (hh := [(0, 9, 12, 21), (0, 9, 15, 15)]) (by decide) rfl (Nat.le_of_ble_eq_true rfl) ?_
  intro p e s m below meth c ls S hr hlocks htab hB hl
  obtain ⟨⟨hsz, hP, hK, hD0⟩, hZ, hN⟩ := hB
  subst hsz
  have hD := hD0.self (sz := s.heap.size)
  have hA : ∀ q : Nat, s.heap.size ≤ q → (va_A (gO E a σ q9 f) s.heap.size) q := fun q h => Or.inr h
  have hS : va_S (va_A (gO E a σ q9 f) s.heap.size) s.heap s.heap [] := va_S.rf
  obtain ⟨hx, hb, hml, hown, hts⟩ := id S
  have hl : lv_has ls 4 [(0, .ref (a 0)), (1, .int pp), (2, .ref q9)] := hl
  refine lv_aload_n hx hb dL_enroll_0 rfl (lv_at hl 2 rfl) ?_
  refine lv_iconst (v := 0) hx hb dL_enroll_1 (by decide) ?_
  refine lv_aload_n hx hb dL_enroll_2 rfl (lv_at hl 0 rfl) ?_
  refine lv_iload_n hx hb dL_enroll_3 rfl (lv_at hl 1 rfl) ?_
  refine g0xo (A := (va_A (gO E a σ q9 f) s.heap.size)) (As := [.int pp]) (rest := [.int 0, .ref q9]) S (x_enroll l hfl E a σ pp h) (cwV 1 hts gL_enroll_X0_enroll rfl rfl rfl hdX0_enroll ⟨Nat.le_of_ble_eq_true rfl, Nat.le_of_ble_eq_true rfl⟩) hK hP hZ rfl hl.1 rfl (Nat.le_of_ble_eq_true rfl) ⟨Nat.le_of_ble_eq_true rfl, Nat.le_of_ble_eq_true rfl⟩ dL_enroll_4 [] ⟨0, 9, 12, 21⟩ [⟨0, 9, 15, 15⟩] (htab.trans rfl) (ps_nil (U := fun _ => True)) (by decide) (by decide) (hts (.classLink RL 21 "java/lang/IndexOutOfBoundsException") (by decide +kernel)) (by decide +kernel) (fun q H locs hP hS => ?_)
  refine lv_astore_n (lv' := [(3, .ref q), (0, .ref (a 0)), (1, .int pp), (2, .ref q9)]) hx hb dL_enroll_12 rfl hl (by decide) rfl (fun ls hl => ?_)
  refine lv_iconst (v := 1) hx hb dL_enroll_13 (by decide) ?_
  exact W.iret hx hb hr (fun t ht hW => ⟨⟨_, (), rfl, rfl, by show gP E _ t.heap; rw [ht]; exact hP⟩, hS.F ht⟩) hS.2.2 dL_enroll_14
set_option maxHeartbeats 4000000 in
set_option maxRecDepth 100000 in
theorem w_enroll_2 (l : Launch) (hfl : l.stackTraces = false) (E : GE) (a : Nat → Nat) (σ : GS) (q9 : Nat) (f : Nat → Int64) (sz : Nat) (hn : gn σ ≤ 40) (k : Nat) (hk : k < gn σ) (h8 : gk σ = 8) : Met l yL_enroll wsL_enroll { frames := 10, cells := 1, slots := 6, locals := 300 } (va_Pc [.ref (a 0), .int (nI k), .ref q9] (gBy E sz (gO E a σ q9 f))) (gQi E 2 (gO E a σ q9 f) (gO E a σ q9 f) sz) 1 6 (va_A (gO E a σ q9 f) sz) := by
  refine w_met2 (cc := cL_enroll) (maxL := 4) (ret := some .int) (hh := [(0, 9, 12, 21), (0, 9, 15, 15)]) (by decide) rfl (Nat.le_of_ble_eq_true rfl) ?_
  intro p e s m below meth c ls S hr hlocks htab hB hl
  obtain ⟨⟨hsz, hP, hK, hD0⟩, hZ, hN⟩ := hB
  subst hsz
  have hD := hD0.self (sz := s.heap.size)
  have hA : ∀ q : Nat, s.heap.size ≤ q → (va_A (gO E a σ q9 f) s.heap.size) q := fun q h => Or.inr h
  have hS : va_S (va_A (gO E a σ q9 f) s.heap.size) s.heap s.heap [] := va_S.rf
  obtain ⟨hx, hb, hml, hown, hts⟩ := id S
  have hl : lv_has ls 4 [(0, .ref (a 0)), (1, .int (nI k)), (2, .ref q9)] := hl
  refine lv_aload_n hx hb dL_enroll_0 rfl (lv_at hl 2 rfl) ?_
  refine lv_iconst (v := 0) hx hb dL_enroll_1 (by decide) ?_
  refine lv_aload_n hx hb dL_enroll_2 rfl (lv_at hl 0 rfl) ?_
  refine lv_iload_n hx hb dL_enroll_3 rfl (lv_at hl 1 rfl) ?_
  refine g0xo (A := (va_A (gO E a σ q9 f) s.heap.size)) (As := [.int (nI k)]) (rest := [.int 0, .ref q9]) S (x_enroll2 l hfl E a σ hn k hk h8) (cwV 1 hts gL_enroll_X0_enroll rfl rfl rfl hdX0_enroll ⟨Nat.le_of_ble_eq_true rfl, Nat.le_of_ble_eq_true rfl⟩) hK hP hZ rfl hl.1 rfl (Nat.le_of_ble_eq_true rfl) ⟨Nat.le_of_ble_eq_true rfl, Nat.le_of_ble_eq_true rfl⟩ dL_enroll_4 [⟨0, 9, 12, 21⟩] ⟨0, 9, 15, 15⟩ [] (htab.trans rfl) (ps_cons (by decide) (hts (.classLink RL 21 "java/lang/IndexOutOfBoundsException") (by decide +kernel)) hN.2.2 (ps_nil (U := fun _ => True))) (by decide) (by decide) (hts (.classLink RL 15 "java/lang/IllegalStateException") (by decide +kernel)) (by decide +kernel) (fun q H locs hP hS => ?_)
  refine lv_astore_n (lv' := [(3, .ref q), (0, .ref (a 0)), (1, .int (nI k)), (2, .ref q9)]) hx hb dL_enroll_15 rfl hl (by decide) rfl (fun ls hl => ?_)
  refine lv_iconst (v := 2) hx hb dL_enroll_16 (by decide) ?_
  exact W.iret hx hb hr (fun t ht hW => ⟨⟨_, (), rfl, rfl, by show gP E _ t.heap; rw [ht]; exact hP⟩, hS.F ht⟩) hS.2.2 dL_enroll_17
theorem hdL_examsFrom : yL_examsFrom.cls ≠ "java/lang/invoke/MethodHandle" ∧ yL_examsFrom.cls ≠ "java/lang/invoke/VarHandle" ∧ (parseMethodDescriptor yL_examsFrom.desc).map (fun d => d.parameters.length) = some 3 := by decide +kernel
set_option maxHeartbeats 4000000 in
set_option maxRecDepth 100000 in
theorem w_examsFrom (l : Launch) (E : GE) (a : Nat → Nat) (σ : GS) (q9 : Nat) (f : Nat → Int64) (sz : Nat) (k : Nat) (hn : gn σ ≤ 40) (hk : k < gn σ) : Met l yL_examsFrom wsL_examsFrom { frames := 10, cells := 1, slots := 6, locals := 300 } (va_Pc [.ref (a 0), .int (nI k), .ref q9] (gBy E sz (gO E a σ q9 f))) (gQi E 0 (gO E a σ q9 f) (gO E a σ q9 (vp_updL f 0 ((gEf σ k).toInt64))) sz) 1 6 (va_A (gO E a σ q9 f) sz) := by
  refine w_met2 (cc := cL_examsFrom) (maxL := 4) (ret := some .int) (hh := [(0, 9, 12, 21)]) (by decide) rfl (Nat.le_of_ble_eq_true rfl) ?_
  intro p e s m below meth c ls S hr hlocks htab hB hl
  obtain ⟨⟨hsz, hP, hK, hD0⟩, hZ, hN⟩ := hB
  subst hsz
  have hD := hD0.self (sz := s.heap.size)
  have hA : ∀ q : Nat, s.heap.size ≤ q → (va_A (gO E a σ q9 f) s.heap.size) q := fun q h => Or.inr h
  have hS : va_S (va_A (gO E a σ q9 f) s.heap.size) s.heap s.heap [] := va_S.rf
  obtain ⟨hx, hb, hml, hown, hts⟩ := id S
  have hl : lv_has ls 4 [(0, .ref (a 0)), (1, .int (nI k)), (2, .ref q9)] := hl
  refine lv_aload_n hx hb dL_examsFrom_0 rfl (lv_at hl 2 rfl) ?_
  refine lv_iconst (v := 0) hx hb dL_examsFrom_1 (by decide) ?_
  refine lv_aload_n hx hb dL_examsFrom_2 rfl (lv_at hl 0 rfl) ?_
  refine lv_iload_n hx hb dL_examsFrom_3 rfl (lv_at hl 1 rfl) ?_
  refine g0i (As := [.int (nI k)]) (rest := [.int 0, .ref q9]) S (c_examsFrom l E a σ k hn hk) (cwV 1 hts gL_examsFrom_X0_examsFrom rfl rfl rfl hdX0_examsFrom ⟨Nat.le_of_ble_eq_true rfl, Nat.le_of_ble_eq_true rfl⟩) hK (gO_l hP) rfl hl.1 rfl (Nat.le_of_ble_eq_true rfl) ⟨Nat.zero_le _, Nat.zero_le _⟩ dL_examsFrom_4 ?_
  refine lv_i2l hx hb dL_examsFrom_7 rfl ?_
  refine g_lst hx hb hK hP hD hS 14 rfl (f' := vp_updL f 0 ((gEf σ k).toInt64)) (i := nI 0) (vp_in_nI (by decide) (by decide)) (g_clL (k := 0) (by decide) rfl) dL_examsFrom_8 (fun H locs hP hD hS => ?_)
  refine lv_goto (tgt := 15) hx hb dL_examsFrom_9 (by decide) ?_
  refine lv_iconst (v := 0) hx hb dL_examsFrom_15 (by decide) ?_
  refine W.widen (k := 1) (n := 6) (by omega) (by omega) ?_
  exact W.iret hx hb hr (fun t ht hW => ⟨⟨_, (), rfl, rfl, by show gP E _ t.heap; rw [ht]; exact hP⟩, hS.F ht⟩) hS.2.2 dL_examsFrom_16
set_option maxHeartbeats 4000000 in
set_option maxRecDepth 100000 in
theorem w_examsFrom_1 (l : Launch) (hfl : l.stackTraces = false) (E : GE) (a : Nat → Nat) (σ : GS) (q9 : Nat) (f : Nat → Int64) (sz : Nat) (pp : Int32) (h : gPb σ pp) : Met l yL_examsFrom wsL_examsFrom { frames := 10, cells := 1, slots := 6, locals := 300 } (va_Pc [.ref (a 0), .int pp, .ref q9] (gBy E sz (gO E a σ q9 f))) (gQi E 1 (gO E a σ q9 f) (gO E a σ q9 f) sz) 1 6 (va_A (gO E a σ q9 f) sz) := by
  refine w_met2 (cc := cL_examsFrom) (maxL := 4) (ret := some .int) (hh := [(0, 9, 12, 21)]) (by decide) rfl (Nat.le_of_ble_eq_true rfl) ?_
  intro p e s m below meth c ls S hr hlocks htab hB hl
  obtain ⟨⟨hsz, hP, hK, hD0⟩, hZ, hN⟩ := hB
  subst hsz
  have hD := hD0.self (sz := s.heap.size)
  have hA : ∀ q : Nat, s.heap.size ≤ q → (va_A (gO E a σ q9 f) s.heap.size) q := fun q h => Or.inr h
  have hS : va_S (va_A (gO E a σ q9 f) s.heap.size) s.heap s.heap [] := va_S.rf
  obtain ⟨hx, hb, hml, hown, hts⟩ := id S
  have hl : lv_has ls 4 [(0, .ref (a 0)), (1, .int pp), (2, .ref q9)] := hl
  refine lv_aload_n hx hb dL_examsFrom_0 rfl (lv_at hl 2 rfl) ?_
  refine lv_iconst (v := 0) hx hb dL_examsFrom_1 (by decide) ?_
  refine lv_aload_n hx hb dL_examsFrom_2 rfl (lv_at hl 0 rfl) ?_
  refine lv_iload_n hx hb dL_examsFrom_3 rfl (lv_at hl 1 rfl) ?_
  refine g0xo (A := (va_A (gO E a σ q9 f) s.heap.size)) (As := [.int pp]) (rest := [.int 0, .ref q9]) S (x_examsFrom l hfl E a σ pp h) (cwV 1 hts gL_examsFrom_X0_examsFrom rfl rfl rfl hdX0_examsFrom ⟨Nat.le_of_ble_eq_true rfl, Nat.le_of_ble_eq_true rfl⟩) hK hP hZ rfl hl.1 rfl (Nat.le_of_ble_eq_true rfl) ⟨Nat.le_of_ble_eq_true rfl, Nat.le_of_ble_eq_true rfl⟩ dL_examsFrom_4 [] ⟨0, 9, 12, 21⟩ [] (htab.trans rfl) (ps_nil (U := fun _ => True)) (by decide) (by decide) (hts (.classLink RL 21 "java/lang/IndexOutOfBoundsException") (by decide +kernel)) (by decide +kernel) (fun q H locs hP hS => ?_)
  refine lv_astore_n (lv' := [(3, .ref q), (0, .ref (a 0)), (1, .int pp), (2, .ref q9)]) hx hb dL_examsFrom_12 rfl hl (by decide) rfl (fun ls hl => ?_)
  refine lv_iconst (v := 1) hx hb dL_examsFrom_13 (by decide) ?_
  exact W.iret hx hb hr (fun t ht hW => ⟨⟨_, (), rfl, rfl, by show gP E _ t.heap; rw [ht]; exact hP⟩, hS.F ht⟩) hS.2.2 dL_examsFrom_14
theorem hdL_follow : yL_follow.cls ≠ "java/lang/invoke/MethodHandle" ∧ yL_follow.cls ≠ "java/lang/invoke/VarHandle" ∧ (parseMethodDescriptor yL_follow.desc).map (fun d => d.parameters.length) = some 3 := by decide +kernel
set_option maxHeartbeats 4000000 in
set_option maxRecDepth 100000 in
theorem w_follow (l : Launch) (E : GE) (a : Nat → Nat) (σ : GS) (q9 : Nat) (f : Nat → Int64) (sz : Nat) (hO : GOK σ) (k : Nat) (hk : k < gk σ) : Met l yL_follow wsL_follow { frames := 10, cells := 1, slots := 6, locals := 300 } (va_Pc [.ref (a 0), .int (nI k), .ref q9] (gBy E sz (gO E a σ q9 f))) (gQi E 0 (gO E a σ q9 f) (gO E a (gFo k 40 σ) q9 (vp_updL f 0 ((nI (gFc k 40 σ)).toInt64))) sz) 1 6 (va_A (gO E a σ q9 f) sz) := by
  refine w_met2 (cc := cL_follow) (maxL := 4) (ret := some .int) (hh := [(0, 9, 12, 21)]) (by decide) rfl (Nat.le_of_ble_eq_true rfl) ?_
  intro p e s m below meth c ls S hr hlocks htab hB hl
  obtain ⟨⟨hsz, hP, hK, hD0⟩, hZ, hN⟩ := hB
  subst hsz
  have hD := hD0.self (sz := s.heap.size)
  have hA : ∀ q : Nat, s.heap.size ≤ q → (va_A (gO E a σ q9 f) s.heap.size) q := fun q h => Or.inr h
  have hS : va_S (va_A (gO E a σ q9 f) s.heap.size) s.heap s.heap [] := va_S.rf
  obtain ⟨hx, hb, hml, hown, hts⟩ := id S
  have hl : lv_has ls 4 [(0, .ref (a 0)), (1, .int (nI k)), (2, .ref q9)] := hl
  refine lv_aload_n hx hb dL_follow_0 rfl (lv_at hl 2 rfl) ?_
  refine lv_iconst (v := 0) hx hb dL_follow_1 (by decide) ?_
  refine lv_aload_n hx hb dL_follow_2 rfl (lv_at hl 0 rfl) ?_
  refine lv_iload_n hx hb dL_follow_3 rfl (lv_at hl 1 rfl) ?_
  refine g0wo (As := [.int (nI k)]) (rest := [.int 0, .ref q9]) (σ' := gFo k 40 σ) S (c_follow l E a σ _ hO k hk) (cwV 1 hts gL_follow_X0_follow rfl rfl rfl hdX0_follow ⟨Nat.le_of_ble_eq_true rfl, Nat.le_of_ble_eq_true rfl⟩) hK hP hD hS hA rfl hl.1 rfl (Nat.le_of_ble_eq_true rfl) ⟨Nat.zero_le _, Nat.zero_le _⟩ dL_follow_4 (fun H locs hP hD hS => ?_)
  refine lv_i2l hx hb dL_follow_7 rfl ?_
  refine g_lst hx hb hK hP hD hS 14 rfl (f' := vp_updL f 0 ((nI (gFc k 40 σ)).toInt64)) (i := nI 0) (vp_in_nI (by decide) (by decide)) (g_clL (k := 0) (by decide) rfl) dL_follow_8 (fun H locs hP hD hS => ?_)
  refine lv_goto (tgt := 15) hx hb dL_follow_9 (by decide) ?_
  refine lv_iconst (v := 0) hx hb dL_follow_15 (by decide) ?_
  refine W.widen (k := 1) (n := 6) (by omega) (by omega) ?_
  exact W.iret hx hb hr (fun t ht hW => ⟨⟨_, (), rfl, rfl, by show gP E _ t.heap; rw [ht]; exact hP⟩, hS.F ht⟩) hS.2.2 dL_follow_16
set_option maxHeartbeats 4000000 in
set_option maxRecDepth 100000 in
theorem w_follow_1 (l : Launch) (hfl : l.stackTraces = false) (E : GE) (a : Nat → Nat) (σ : GS) (q9 : Nat) (f : Nat → Int64) (sz : Nat) (pp : Int32) (h : gSb σ pp) : Met l yL_follow wsL_follow { frames := 10, cells := 1, slots := 6, locals := 300 } (va_Pc [.ref (a 0), .int pp, .ref q9] (gBy E sz (gO E a σ q9 f))) (gQi E 1 (gO E a σ q9 f) (gO E a σ q9 f) sz) 1 6 (va_A (gO E a σ q9 f) sz) := by
  refine w_met2 (cc := cL_follow) (maxL := 4) (ret := some .int) (hh := [(0, 9, 12, 21)]) (by decide) rfl (Nat.le_of_ble_eq_true rfl) ?_
  intro p e s m below meth c ls S hr hlocks htab hB hl
  obtain ⟨⟨hsz, hP, hK, hD0⟩, hZ, hN⟩ := hB
  subst hsz
  have hD := hD0.self (sz := s.heap.size)
  have hA : ∀ q : Nat, s.heap.size ≤ q → (va_A (gO E a σ q9 f) s.heap.size) q := fun q h => Or.inr h
  have hS : va_S (va_A (gO E a σ q9 f) s.heap.size) s.heap s.heap [] := va_S.rf
  obtain ⟨hx, hb, hml, hown, hts⟩ := id S
  have hl : lv_has ls 4 [(0, .ref (a 0)), (1, .int pp), (2, .ref q9)] := hl
  refine lv_aload_n hx hb dL_follow_0 rfl (lv_at hl 2 rfl) ?_
  refine lv_iconst (v := 0) hx hb dL_follow_1 (by decide) ?_
  refine lv_aload_n hx hb dL_follow_2 rfl (lv_at hl 0 rfl) ?_
  refine lv_iload_n hx hb dL_follow_3 rfl (lv_at hl 1 rfl) ?_
  refine g0xo (A := (va_A (gO E a σ q9 f) s.heap.size)) (As := [.int pp]) (rest := [.int 0, .ref q9]) S (x_follow l hfl E a σ pp h) (cwV 1 hts gL_follow_X0_follow rfl rfl rfl hdX0_follow ⟨Nat.le_of_ble_eq_true rfl, Nat.le_of_ble_eq_true rfl⟩) hK hP hZ rfl hl.1 rfl (Nat.le_of_ble_eq_true rfl) ⟨Nat.le_of_ble_eq_true rfl, Nat.le_of_ble_eq_true rfl⟩ dL_follow_4 [] ⟨0, 9, 12, 21⟩ [] (htab.trans rfl) (ps_nil (U := fun _ => True)) (by decide) (by decide) (hts (.classLink RL 21 "java/lang/IndexOutOfBoundsException") (by decide +kernel)) (by decide +kernel) (fun q H locs hP hS => ?_)
  refine lv_astore_n (lv' := [(3, .ref q), (0, .ref (a 0)), (1, .int pp), (2, .ref q9)]) hx hb dL_follow_12 rfl hl (by decide) rfl (fun ls hl => ?_)
  refine lv_iconst (v := 1) hx hb dL_follow_13 (by decide) ?_
  exact W.iret hx hb hr (fun t ht hW => ⟨⟨_, (), rfl, rfl, by show gP E _ t.heap; rw [ht]; exact hP⟩, hS.F ht⟩) hS.2.2 dL_follow_14
theorem hdL_goBack : yL_goBack.cls ≠ "java/lang/invoke/MethodHandle" ∧ yL_goBack.cls ≠ "java/lang/invoke/VarHandle" ∧ (parseMethodDescriptor yL_goBack.desc).map (fun d => d.parameters.length) = some 3 := by decide +kernel
set_option maxHeartbeats 4000000 in
set_option maxRecDepth 100000 in
theorem w_goBack (l : Launch) (E : GE) (a : Nat → Nat) (σ : GS) (q9 : Nat) (f : Nat → Int64) (sz : Nat) (k j : Nat) (hn : gk σ ≤ 8) (hk : k < gk σ) (hc : gpc σ k = j + 1) (hc9 : j < 40) : Met l yL_goBack wsL_goBack { frames := 10, cells := 1, slots := 6, locals := 300 } (va_Pc [.ref (a 0), .int (nI k), .ref q9] (gBy E sz (gO E a σ q9 f))) (gQi E 0 (gO E a σ q9 f) (gO E a (gBk σ k j) q9 (vp_updL f 0 ((nI (gpf σ (k * 40 + j))).toInt64))) sz) 1 6 (va_A (gO E a σ q9 f) sz) := by
  refine w_met2 (cc := cL_goBack) (maxL := 4) (ret := some .int) (hh := [(0, 9, 12, 21), (0, 9, 15, 15)]) (by decide) rfl (Nat.le_of_ble_eq_true rfl) ?_
  intro p e s m below meth c ls S hr hlocks htab hB hl
  obtain ⟨⟨hsz, hP, hK, hD0⟩, hZ, hN⟩ := hB
  subst hsz
  have hD := hD0.self (sz := s.heap.size)
  have hA : ∀ q : Nat, s.heap.size ≤ q → (va_A (gO E a σ q9 f) s.heap.size) q := fun q h => Or.inr h
  have hS : va_S (va_A (gO E a σ q9 f) s.heap.size) s.heap s.heap [] := va_S.rf
  obtain ⟨hx, hb, hml, hown, hts⟩ := id S
  have hl : lv_has ls 4 [(0, .ref (a 0)), (1, .int (nI k)), (2, .ref q9)] := hl
  refine lv_aload_n hx hb dL_goBack_0 rfl (lv_at hl 2 rfl) ?_
  refine lv_iconst (v := 0) hx hb dL_goBack_1 (by decide) ?_
  refine lv_aload_n hx hb dL_goBack_2 rfl (lv_at hl 0 rfl) ?_
  refine lv_iload_n hx hb dL_goBack_3 rfl (lv_at hl 1 rfl) ?_
  refine g0wo (As := [.int (nI k)]) (rest := [.int 0, .ref q9]) (σ' := gBk σ k j) S (c_goBack l E a σ _ k j hn hk hc hc9) (cwV 1 hts gL_goBack_X0_goBack rfl rfl rfl hdX0_goBack ⟨Nat.le_of_ble_eq_true rfl, Nat.le_of_ble_eq_true rfl⟩) hK hP hD hS hA rfl hl.1 rfl (Nat.le_of_ble_eq_true rfl) ⟨Nat.zero_le _, Nat.zero_le _⟩ dL_goBack_4 (fun H locs hP hD hS => ?_)
  refine lv_i2l hx hb dL_goBack_7 rfl ?_
  refine g_lst hx hb hK hP hD hS 14 rfl (f' := vp_updL f 0 ((nI (gpf σ (k * 40 + j))).toInt64)) (i := nI 0) (vp_in_nI (by decide) (by decide)) (g_clL (k := 0) (by decide) rfl) dL_goBack_8 (fun H locs hP hD hS => ?_)
  refine lv_goto (tgt := 18) hx hb dL_goBack_9 (by decide) ?_
  refine lv_iconst (v := 0) hx hb dL_goBack_18 (by decide) ?_
  refine W.widen (k := 1) (n := 6) (by omega) (by omega) ?_
  exact W.iret hx hb hr (fun t ht hW => ⟨⟨_, (), rfl, rfl, by show gP E _ t.heap; rw [ht]; exact hP⟩, hS.F ht⟩) hS.2.2 dL_goBack_19
set_option maxHeartbeats 4000000 in
set_option maxRecDepth 100000 in
theorem w_goBack_1 (l : Launch) (hfl : l.stackTraces = false) (E : GE) (a : Nat → Nat) (σ : GS) (q9 : Nat) (f : Nat → Int64) (sz : Nat) (pp : Int32) (h : gSb σ pp) : Met l yL_goBack wsL_goBack { frames := 10, cells := 1, slots := 6, locals := 300 } (va_Pc [.ref (a 0), .int pp, .ref q9] (gBy E sz (gO E a σ q9 f))) (gQi E 1 (gO E a σ q9 f) (gO E a σ q9 f) sz) 1 6 (va_A (gO E a σ q9 f) sz) := by
  refine w_met2 (cc := cL_goBack) (maxL := 4) (ret := some .int) (hh := [(0, 9, 12, 21), (0, 9, 15, 15)]) (by decide) rfl (Nat.le_of_ble_eq_true rfl) ?_
  intro p e s m below meth c ls S hr hlocks htab hB hl
  obtain ⟨⟨hsz, hP, hK, hD0⟩, hZ, hN⟩ := hB
  subst hsz
  have hD := hD0.self (sz := s.heap.size)
  have hA : ∀ q : Nat, s.heap.size ≤ q → (va_A (gO E a σ q9 f) s.heap.size) q := fun q h => Or.inr h
  have hS : va_S (va_A (gO E a σ q9 f) s.heap.size) s.heap s.heap [] := va_S.rf
  obtain ⟨hx, hb, hml, hown, hts⟩ := id S
  have hl : lv_has ls 4 [(0, .ref (a 0)), (1, .int pp), (2, .ref q9)] := hl
  refine lv_aload_n hx hb dL_goBack_0 rfl (lv_at hl 2 rfl) ?_
  refine lv_iconst (v := 0) hx hb dL_goBack_1 (by decide) ?_
  refine lv_aload_n hx hb dL_goBack_2 rfl (lv_at hl 0 rfl) ?_
  refine lv_iload_n hx hb dL_goBack_3 rfl (lv_at hl 1 rfl) ?_
  refine g0xo (A := (va_A (gO E a σ q9 f) s.heap.size)) (As := [.int pp]) (rest := [.int 0, .ref q9]) S (x_goBack l hfl E a σ pp h) (cwV 1 hts gL_goBack_X0_goBack rfl rfl rfl hdX0_goBack ⟨Nat.le_of_ble_eq_true rfl, Nat.le_of_ble_eq_true rfl⟩) hK hP hZ rfl hl.1 rfl (Nat.le_of_ble_eq_true rfl) ⟨Nat.le_of_ble_eq_true rfl, Nat.le_of_ble_eq_true rfl⟩ dL_goBack_4 [] ⟨0, 9, 12, 21⟩ [⟨0, 9, 15, 15⟩] (htab.trans rfl) (ps_nil (U := fun _ => True)) (by decide) (by decide) (hts (.classLink RL 21 "java/lang/IndexOutOfBoundsException") (by decide +kernel)) (by decide +kernel) (fun q H locs hP hS => ?_)
  refine lv_astore_n (lv' := [(3, .ref q), (0, .ref (a 0)), (1, .int pp), (2, .ref q9)]) hx hb dL_goBack_12 rfl hl (by decide) rfl (fun ls hl => ?_)
  refine lv_iconst (v := 1) hx hb dL_goBack_13 (by decide) ?_
  exact W.iret hx hb hr (fun t ht hW => ⟨⟨_, (), rfl, rfl, by show gP E _ t.heap; rw [ht]; exact hP⟩, hS.F ht⟩) hS.2.2 dL_goBack_14
set_option maxHeartbeats 4000000 in
set_option maxRecDepth 100000 in
theorem w_goBack_2 (l : Launch) (hfl : l.stackTraces = false) (E : GE) (a : Nat → Nat) (σ : GS) (q9 : Nat) (f : Nat → Int64) (sz : Nat) (hn : gk σ ≤ 8) (k : Nat) (hk : k < gk σ) (hc : gpc σ k = 0) : Met l yL_goBack wsL_goBack { frames := 10, cells := 1, slots := 6, locals := 300 } (va_Pc [.ref (a 0), .int (nI k), .ref q9] (gBy E sz (gO E a σ q9 f))) (gQi E 2 (gO E a σ q9 f) (gO E a σ q9 f) sz) 1 6 (va_A (gO E a σ q9 f) sz) := by
  refine w_met2 (cc := cL_goBack) (maxL := 4) (ret := some .int) (hh := [(0, 9, 12, 21), (0, 9, 15, 15)]) (by decide) rfl (Nat.le_of_ble_eq_true rfl) ?_
  intro p e s m below meth c ls S hr hlocks htab hB hl
  obtain ⟨⟨hsz, hP, hK, hD0⟩, hZ, hN⟩ := hB
  subst hsz
  have hD := hD0.self (sz := s.heap.size)
  have hA : ∀ q : Nat, s.heap.size ≤ q → (va_A (gO E a σ q9 f) s.heap.size) q := fun q h => Or.inr h
  have hS : va_S (va_A (gO E a σ q9 f) s.heap.size) s.heap s.heap [] := va_S.rf
  obtain ⟨hx, hb, hml, hown, hts⟩ := id S
  have hl : lv_has ls 4 [(0, .ref (a 0)), (1, .int (nI k)), (2, .ref q9)] := hl
  refine lv_aload_n hx hb dL_goBack_0 rfl (lv_at hl 2 rfl) ?_
  refine lv_iconst (v := 0) hx hb dL_goBack_1 (by decide) ?_
  refine lv_aload_n hx hb dL_goBack_2 rfl (lv_at hl 0 rfl) ?_
  refine lv_iload_n hx hb dL_goBack_3 rfl (lv_at hl 1 rfl) ?_
  refine g0xo (A := (va_A (gO E a σ q9 f) s.heap.size)) (As := [.int (nI k)]) (rest := [.int 0, .ref q9]) S (x_goBack2 l hfl E a σ hn k hk hc) (cwV 1 hts gL_goBack_X0_goBack rfl rfl rfl hdX0_goBack ⟨Nat.le_of_ble_eq_true rfl, Nat.le_of_ble_eq_true rfl⟩) hK hP hZ rfl hl.1 rfl (Nat.le_of_ble_eq_true rfl) ⟨Nat.le_of_ble_eq_true rfl, Nat.le_of_ble_eq_true rfl⟩ dL_goBack_4 [⟨0, 9, 12, 21⟩] ⟨0, 9, 15, 15⟩ [] (htab.trans rfl) (ps_cons (by decide) (hts (.classLink RL 21 "java/lang/IndexOutOfBoundsException") (by decide +kernel)) hN.2.2 (ps_nil (U := fun _ => True))) (by decide) (by decide) (hts (.classLink RL 15 "java/lang/IllegalStateException") (by decide +kernel)) (by decide +kernel) (fun q H locs hP hS => ?_)
  refine lv_astore_n (lv' := [(3, .ref q), (0, .ref (a 0)), (1, .int (nI k)), (2, .ref q9)]) hx hb dL_goBack_15 rfl hl (by decide) rfl (fun ls hl => ?_)
  refine lv_iconst (v := 2) hx hb dL_goBack_16 (by decide) ?_
  exact W.iret hx hb hr (fun t ht hW => ⟨⟨_, (), rfl, rfl, by show gP E _ t.heap; rw [ht]; exact hP⟩, hS.F ht⟩) hS.2.2 dL_goBack_17
theorem hdL_grade : yL_grade.cls ≠ "java/lang/invoke/MethodHandle" ∧ yL_grade.cls ≠ "java/lang/invoke/VarHandle" ∧ (parseMethodDescriptor yL_grade.desc).map (fun d => d.parameters.length) = some 4 := by decide +kernel
set_option maxHeartbeats 4000000 in
set_option maxRecDepth 100000 in
theorem w_grade (l : Launch) (E : GE) (a : Nat → Nat) (σ : GS) (q9 : Nat) (f : Nat → Int64) (sz : Nat) (hO : GOK σ) (k g : Nat) (hk : k < gn σ) (hE : gEx (ge σ) k = true) (h1 : glo σ k ≤ g) (h2 : g ≤ ghi σ k) (h3 : ghi σ k ≤ 20) (hG : gHas σ k = false) : Met l yL_grade wsL_grade { frames := 10, cells := 1, slots := 6, locals := 300 } (va_Pc [.ref (a 0), .int (nI k), .int (nI g), .ref q9] (gBy E sz (gO E a σ q9 f))) (gQi E 0 (gO E a σ q9 f) (gO E a (gGrd σ k (nI g)) q9 (vp_updL f 0 ((gc σ + 1).toInt64))) sz) 1 6 (va_A (gO E a σ q9 f) sz) := by
  refine w_met2 (cc := cL_grade) (maxL := 5) (ret := some .int) (hh := [(0, 10, 13, 21), (0, 10, 17, 13), (0, 10, 21, 15)]) (by decide) rfl (Nat.le_of_ble_eq_true rfl) ?_
  intro p e s m below meth c ls S hr hlocks htab hB hl
  obtain ⟨⟨hsz, hP, hK, hD0⟩, hZ, hN⟩ := hB
  subst hsz
  have hD := hD0.self (sz := s.heap.size)
  have hA : ∀ q : Nat, s.heap.size ≤ q → (va_A (gO E a σ q9 f) s.heap.size) q := fun q h => Or.inr h
  have hS : va_S (va_A (gO E a σ q9 f) s.heap.size) s.heap s.heap [] := va_S.rf
  obtain ⟨hx, hb, hml, hown, hts⟩ := id S
  have hl : lv_has ls 5 [(0, .ref (a 0)), (1, .int (nI k)), (2, .int (nI g)), (3, .ref q9)] := hl
  refine lv_aload_n hx hb dL_grade_0 rfl (lv_at hl 3 rfl) ?_
  refine lv_iconst (v := 0) hx hb dL_grade_1 (by decide) ?_
  refine lv_aload_n hx hb dL_grade_2 rfl (lv_at hl 0 rfl) ?_
  refine lv_iload_n hx hb dL_grade_3 rfl (lv_at hl 1 rfl) ?_
  refine lv_iload_n hx hb dL_grade_4 rfl (lv_at hl 2 rfl) ?_
  refine g0wo (As := [.int (nI k), .int (nI g)]) (rest := [.int 0, .ref q9]) (σ' := gGrd σ k (nI g)) S (c_grade l E a σ _ hO k g hk hE h1 h2 h3 hG) (cwV 2 hts gL_grade_X0_grade rfl rfl rfl hdX0_grade ⟨Nat.le_of_ble_eq_true rfl, Nat.le_of_ble_eq_true rfl⟩) hK hP hD hS hA rfl hl.1 rfl (Nat.le_of_ble_eq_true rfl) ⟨Nat.zero_le _, Nat.zero_le _⟩ dL_grade_5 (fun H locs hP hD hS => ?_)
  refine lv_i2l hx hb dL_grade_8 rfl ?_
  refine g_lst hx hb hK hP hD hS 14 rfl (f' := vp_updL f 0 ((gc σ + 1).toInt64)) (i := nI 0) (vp_in_nI (by decide) (by decide)) (g_clL (k := 0) (by decide) rfl) dL_grade_9 (fun H locs hP hD hS => ?_)
  refine lv_goto (tgt := 25) hx hb dL_grade_10 (by decide) ?_
  refine lv_iconst (v := 0) hx hb dL_grade_25 (by decide) ?_
  refine W.widen (k := 1) (n := 6) (by omega) (by omega) ?_
  exact W.iret hx hb hr (fun t ht hW => ⟨⟨_, (), rfl, rfl, by show gP E _ t.heap; rw [ht]; exact hP⟩, hS.F ht⟩) hS.2.2 dL_grade_26
set_option maxHeartbeats 4000000 in
set_option maxRecDepth 100000 in
theorem w_grade_1 (l : Launch) (hfl : l.stackTraces = false) (E : GE) (a : Nat → Nat) (σ : GS) (q9 : Nat) (f : Nat → Int64) (sz : Nat) (hn : gn σ ≤ 40) (pp g : Int32) (h : gNE σ pp) : Met l yL_grade wsL_grade { frames := 10, cells := 1, slots := 6, locals := 300 } (va_Pc [.ref (a 0), .int pp, .int g, .ref q9] (gBy E sz (gO E a σ q9 f))) (gQi E 1 (gO E a σ q9 f) (gO E a σ q9 f) sz) 1 6 (va_A (gO E a σ q9 f) sz) := by
  refine w_met2 (cc := cL_grade) (maxL := 5) (ret := some .int) (hh := [(0, 10, 13, 21), (0, 10, 17, 13), (0, 10, 21, 15)]) (by decide) rfl (Nat.le_of_ble_eq_true rfl) ?_
  intro p e s m below meth c ls S hr hlocks htab hB hl
  obtain ⟨⟨hsz, hP, hK, hD0⟩, hZ, hN⟩ := hB
  subst hsz
  have hD := hD0.self (sz := s.heap.size)
  have hA : ∀ q : Nat, s.heap.size ≤ q → (va_A (gO E a σ q9 f) s.heap.size) q := fun q h => Or.inr h
  have hS : va_S (va_A (gO E a σ q9 f) s.heap.size) s.heap s.heap [] := va_S.rf
  obtain ⟨hx, hb, hml, hown, hts⟩ := id S
  have hl : lv_has ls 5 [(0, .ref (a 0)), (1, .int pp), (2, .int g), (3, .ref q9)] := hl
  refine lv_aload_n hx hb dL_grade_0 rfl (lv_at hl 3 rfl) ?_
  refine lv_iconst (v := 0) hx hb dL_grade_1 (by decide) ?_
  refine lv_aload_n hx hb dL_grade_2 rfl (lv_at hl 0 rfl) ?_
  refine lv_iload_n hx hb dL_grade_3 rfl (lv_at hl 1 rfl) ?_
  refine lv_iload_n hx hb dL_grade_4 rfl (lv_at hl 2 rfl) ?_
  refine g0xo (A := (va_A (gO E a σ q9 f) s.heap.size)) (As := [.int pp, .int g]) (rest := [.int 0, .ref q9]) S (x_grade l hfl E a σ hn pp g h) (cwV 2 hts gL_grade_X0_grade rfl rfl rfl hdX0_grade ⟨Nat.le_of_ble_eq_true rfl, Nat.le_of_ble_eq_true rfl⟩) hK hP hZ rfl hl.1 rfl (Nat.le_of_ble_eq_true rfl) ⟨Nat.le_of_ble_eq_true rfl, Nat.le_of_ble_eq_true rfl⟩ dL_grade_5 [] ⟨0, 10, 13, 21⟩ [⟨0, 10, 17, 13⟩, ⟨0, 10, 21, 15⟩] (htab.trans rfl) (ps_nil (U := fun _ => True)) (by decide) (by decide) (hts (.classLink RL 21 "java/lang/IndexOutOfBoundsException") (by decide +kernel)) (by decide +kernel) (fun q H locs hP hS => ?_)
  refine lv_astore (lv' := [(4, .ref q), (0, .ref (a 0)), (1, .int pp), (2, .int g), (3, .ref q9)]) hx hb dL_grade_13 hl (by decide) rfl (fun ls hl => ?_)
  refine lv_iconst (v := 1) hx hb dL_grade_15 (by decide) ?_
  exact W.iret hx hb hr (fun t ht hW => ⟨⟨_, (), rfl, rfl, by show gP E _ t.heap; rw [ht]; exact hP⟩, hS.F ht⟩) hS.2.2 dL_grade_16
set_option maxHeartbeats 4000000 in
set_option maxRecDepth 100000 in
theorem w_grade_2 (l : Launch) (hfl : l.stackTraces = false) (E : GE) (a : Nat → Nat) (σ : GS) (q9 : Nat) (f : Nat → Int64) (sz : Nat) (hn : gn σ ≤ 40) (k : Nat) (hk : k < gn σ) (hE : gEx (ge σ) k = true) (g : Int32) (h : g < nI (glo σ k) ∨ nI (ghi σ k) < g) : Met l yL_grade wsL_grade { frames := 10, cells := 1, slots := 6, locals := 300 } (va_Pc [.ref (a 0), .int (nI k), .int g, .ref q9] (gBy E sz (gO E a σ q9 f))) (gQi E 2 (gO E a σ q9 f) (gO E a σ q9 f) sz) 1 6 (va_A (gO E a σ q9 f) sz) := by
  refine w_met2 (cc := cL_grade) (maxL := 5) (ret := some .int) (hh := [(0, 10, 13, 21), (0, 10, 17, 13), (0, 10, 21, 15)]) (by decide) rfl (Nat.le_of_ble_eq_true rfl) ?_
  intro p e s m below meth c ls S hr hlocks htab hB hl
  obtain ⟨⟨hsz, hP, hK, hD0⟩, hZ, hN⟩ := hB
  subst hsz
  have hD := hD0.self (sz := s.heap.size)
  have hA : ∀ q : Nat, s.heap.size ≤ q → (va_A (gO E a σ q9 f) s.heap.size) q := fun q h => Or.inr h
  have hS : va_S (va_A (gO E a σ q9 f) s.heap.size) s.heap s.heap [] := va_S.rf
  obtain ⟨hx, hb, hml, hown, hts⟩ := id S
  have hl : lv_has ls 5 [(0, .ref (a 0)), (1, .int (nI k)), (2, .int g), (3, .ref q9)] := hl
  refine lv_aload_n hx hb dL_grade_0 rfl (lv_at hl 3 rfl) ?_
  refine lv_iconst (v := 0) hx hb dL_grade_1 (by decide) ?_
  refine lv_aload_n hx hb dL_grade_2 rfl (lv_at hl 0 rfl) ?_
  refine lv_iload_n hx hb dL_grade_3 rfl (lv_at hl 1 rfl) ?_
  refine lv_iload_n hx hb dL_grade_4 rfl (lv_at hl 2 rfl) ?_
  refine g0xo (A := (va_A (gO E a σ q9 f) s.heap.size)) (As := [.int (nI k), .int g]) (rest := [.int 0, .ref q9]) S (x_grade2 l hfl E a σ hn k hk hE g h) (cwV 2 hts gL_grade_X0_grade rfl rfl rfl hdX0_grade ⟨Nat.le_of_ble_eq_true rfl, Nat.le_of_ble_eq_true rfl⟩) hK hP hZ rfl hl.1 rfl (Nat.le_of_ble_eq_true rfl) ⟨Nat.le_of_ble_eq_true rfl, Nat.le_of_ble_eq_true rfl⟩ dL_grade_5 [⟨0, 10, 13, 21⟩] ⟨0, 10, 17, 13⟩ [⟨0, 10, 21, 15⟩] (htab.trans rfl) (ps_cons (by decide) (hts (.classLink RL 21 "java/lang/IndexOutOfBoundsException") (by decide +kernel)) hN.2.1 (ps_nil (U := fun _ => True))) (by decide) (by decide) (hts (.classLink RL 13 "java/lang/IllegalArgumentException") (by decide +kernel)) (by decide +kernel) (fun q H locs hP hS => ?_)
  refine lv_astore (lv' := [(4, .ref q), (0, .ref (a 0)), (1, .int (nI k)), (2, .int g), (3, .ref q9)]) hx hb dL_grade_17 hl (by decide) rfl (fun ls hl => ?_)
  refine lv_iconst (v := 2) hx hb dL_grade_19 (by decide) ?_
  exact W.iret hx hb hr (fun t ht hW => ⟨⟨_, (), rfl, rfl, by show gP E _ t.heap; rw [ht]; exact hP⟩, hS.F ht⟩) hS.2.2 dL_grade_20
set_option maxHeartbeats 4000000 in
set_option maxRecDepth 100000 in
theorem w_grade_3 (l : Launch) (hfl : l.stackTraces = false) (E : GE) (a : Nat → Nat) (σ : GS) (q9 : Nat) (f : Nat → Int64) (sz : Nat) (hn : gn σ ≤ 40) (k : Nat) (hk : k < gn σ) (hE : gEx (ge σ) k = true) (g : Int32) (h1 : ¬ g < nI (glo σ k)) (h2 : g ≤ nI (ghi σ k)) (hG : gHas σ k = true) : Met l yL_grade wsL_grade { frames := 10, cells := 1, slots := 6, locals := 300 } (va_Pc [.ref (a 0), .int (nI k), .int g, .ref q9] (gBy E sz (gO E a σ q9 f))) (gQi E 3 (gO E a σ q9 f) (gO E a σ q9 f) sz) 1 6 (va_A (gO E a σ q9 f) sz) := by
  refine w_met2 (cc := cL_grade) (maxL := 5) (ret := some .int) (hh := [(0, 10, 13, 21), (0, 10, 17, 13), (0, 10, 21, 15)]) (by decide) rfl (Nat.le_of_ble_eq_true rfl) ?_
  intro p e s m below meth c ls S hr hlocks htab hB hl
  obtain ⟨⟨hsz, hP, hK, hD0⟩, hZ, hN⟩ := hB
  subst hsz
  have hD := hD0.self (sz := s.heap.size)
  have hA : ∀ q : Nat, s.heap.size ≤ q → (va_A (gO E a σ q9 f) s.heap.size) q := fun q h => Or.inr h
  have hS : va_S (va_A (gO E a σ q9 f) s.heap.size) s.heap s.heap [] := va_S.rf
  obtain ⟨hx, hb, hml, hown, hts⟩ := id S
  have hl : lv_has ls 5 [(0, .ref (a 0)), (1, .int (nI k)), (2, .int g), (3, .ref q9)] := hl
  refine lv_aload_n hx hb dL_grade_0 rfl (lv_at hl 3 rfl) ?_
  refine lv_iconst (v := 0) hx hb dL_grade_1 (by decide) ?_
  refine lv_aload_n hx hb dL_grade_2 rfl (lv_at hl 0 rfl) ?_
  refine lv_iload_n hx hb dL_grade_3 rfl (lv_at hl 1 rfl) ?_
  refine lv_iload_n hx hb dL_grade_4 rfl (lv_at hl 2 rfl) ?_
  refine g0xo (A := (va_A (gO E a σ q9 f) s.heap.size)) (As := [.int (nI k), .int g]) (rest := [.int 0, .ref q9]) S (x_grade3 l hfl E a σ hn k hk hE g h1 h2 hG) (cwV 2 hts gL_grade_X0_grade rfl rfl rfl hdX0_grade ⟨Nat.le_of_ble_eq_true rfl, Nat.le_of_ble_eq_true rfl⟩) hK hP hZ rfl hl.1 rfl (Nat.le_of_ble_eq_true rfl) ⟨Nat.le_of_ble_eq_true rfl, Nat.le_of_ble_eq_true rfl⟩ dL_grade_5 [⟨0, 10, 13, 21⟩, ⟨0, 10, 17, 13⟩] ⟨0, 10, 21, 15⟩ [] (htab.trans rfl) (ps_cons (by decide) (hts (.classLink RL 21 "java/lang/IndexOutOfBoundsException") (by decide +kernel)) hN.2.2 (ps_cons (by decide) (hts (.classLink RL 13 "java/lang/IllegalArgumentException") (by decide +kernel)) hN.1 (ps_nil (U := fun _ => True)))) (by decide) (by decide) (hts (.classLink RL 15 "java/lang/IllegalStateException") (by decide +kernel)) (by decide +kernel) (fun q H locs hP hS => ?_)
  refine lv_astore (lv' := [(4, .ref q), (0, .ref (a 0)), (1, .int (nI k)), (2, .int g), (3, .ref q9)]) hx hb dL_grade_21 hl (by decide) rfl (fun ls hl => ?_)
  refine lv_iconst (v := 3) hx hb dL_grade_23 (by decide) ?_
  exact W.iret hx hb hr (fun t ht hW => ⟨⟨_, (), rfl, rfl, by show gP E _ t.heap; rw [ht]; exact hP⟩, hS.F ht⟩) hS.2.2 dL_grade_24
theorem hdL_gradeOf : yL_gradeOf.cls ≠ "java/lang/invoke/MethodHandle" ∧ yL_gradeOf.cls ≠ "java/lang/invoke/VarHandle" ∧ (parseMethodDescriptor yL_gradeOf.desc).map (fun d => d.parameters.length) = some 3 := by decide +kernel
set_option maxHeartbeats 4000000 in
set_option maxRecDepth 100000 in
theorem w_gradeOf (l : Launch) (E : GE) (a : Nat → Nat) (σ : GS) (q9 : Nat) (f : Nat → Int64) (sz : Nat) (k : Nat) (hn : gn σ ≤ 40) (hk : k < gn σ) (hE : gEx (ge σ) k = true) : Met l yL_gradeOf wsL_gradeOf { frames := 10, cells := 1, slots := 6, locals := 300 } (va_Pc [.ref (a 0), .int (nI k), .ref q9] (gBy E sz (gO E a σ q9 f))) (gQi E 0 (gO E a σ q9 f) (gO E a σ q9 (vp_updL f 0 ((ggr σ k).toInt64))) sz) 1 6 (va_A (gO E a σ q9 f) sz) := by
  refine w_met2 (cc := cL_gradeOf) (maxL := 4) (ret := some .int) (hh := [(0, 9, 12, 21)]) (by decide) rfl (Nat.le_of_ble_eq_true rfl) ?_
  intro p e s m below meth c ls S hr hlocks htab hB hl
  obtain ⟨⟨hsz, hP, hK, hD0⟩, hZ, hN⟩ := hB
  subst hsz
  have hD := hD0.self (sz := s.heap.size)
  have hA : ∀ q : Nat, s.heap.size ≤ q → (va_A (gO E a σ q9 f) s.heap.size) q := fun q h => Or.inr h
  have hS : va_S (va_A (gO E a σ q9 f) s.heap.size) s.heap s.heap [] := va_S.rf
  obtain ⟨hx, hb, hml, hown, hts⟩ := id S
  have hl : lv_has ls 4 [(0, .ref (a 0)), (1, .int (nI k)), (2, .ref q9)] := hl
  refine lv_aload_n hx hb dL_gradeOf_0 rfl (lv_at hl 2 rfl) ?_
  refine lv_iconst (v := 0) hx hb dL_gradeOf_1 (by decide) ?_
  refine lv_aload_n hx hb dL_gradeOf_2 rfl (lv_at hl 0 rfl) ?_
  refine lv_iload_n hx hb dL_gradeOf_3 rfl (lv_at hl 1 rfl) ?_
  refine g0i (As := [.int (nI k)]) (rest := [.int 0, .ref q9]) S (c_gradeOf l E a σ k hn hk hE) (cwV 1 hts gL_gradeOf_X0_gradeOf rfl rfl rfl hdX0_gradeOf ⟨Nat.le_of_ble_eq_true rfl, Nat.le_of_ble_eq_true rfl⟩) hK (gO_l hP) rfl hl.1 rfl (Nat.le_of_ble_eq_true rfl) ⟨Nat.zero_le _, Nat.zero_le _⟩ dL_gradeOf_4 ?_
  refine lv_i2l hx hb dL_gradeOf_7 rfl ?_
  refine g_lst hx hb hK hP hD hS 14 rfl (f' := vp_updL f 0 ((ggr σ k).toInt64)) (i := nI 0) (vp_in_nI (by decide) (by decide)) (g_clL (k := 0) (by decide) rfl) dL_gradeOf_8 (fun H locs hP hD hS => ?_)
  refine lv_goto (tgt := 15) hx hb dL_gradeOf_9 (by decide) ?_
  refine lv_iconst (v := 0) hx hb dL_gradeOf_15 (by decide) ?_
  refine W.widen (k := 1) (n := 6) (by omega) (by omega) ?_
  exact W.iret hx hb hr (fun t ht hW => ⟨⟨_, (), rfl, rfl, by show gP E _ t.heap; rw [ht]; exact hP⟩, hS.F ht⟩) hS.2.2 dL_gradeOf_16
set_option maxHeartbeats 4000000 in
set_option maxRecDepth 100000 in
theorem w_gradeOf_1 (l : Launch) (hfl : l.stackTraces = false) (E : GE) (a : Nat → Nat) (σ : GS) (q9 : Nat) (f : Nat → Int64) (sz : Nat) (hn : gn σ ≤ 40) (pp : Int32) (h : gNE σ pp) : Met l yL_gradeOf wsL_gradeOf { frames := 10, cells := 1, slots := 6, locals := 300 } (va_Pc [.ref (a 0), .int pp, .ref q9] (gBy E sz (gO E a σ q9 f))) (gQi E 1 (gO E a σ q9 f) (gO E a σ q9 f) sz) 1 6 (va_A (gO E a σ q9 f) sz) := by
  refine w_met2 (cc := cL_gradeOf) (maxL := 4) (ret := some .int) (hh := [(0, 9, 12, 21)]) (by decide) rfl (Nat.le_of_ble_eq_true rfl) ?_
  intro p e s m below meth c ls S hr hlocks htab hB hl
  obtain ⟨⟨hsz, hP, hK, hD0⟩, hZ, hN⟩ := hB
  subst hsz
  have hD := hD0.self (sz := s.heap.size)
  have hA : ∀ q : Nat, s.heap.size ≤ q → (va_A (gO E a σ q9 f) s.heap.size) q := fun q h => Or.inr h
  have hS : va_S (va_A (gO E a σ q9 f) s.heap.size) s.heap s.heap [] := va_S.rf
  obtain ⟨hx, hb, hml, hown, hts⟩ := id S
  have hl : lv_has ls 4 [(0, .ref (a 0)), (1, .int pp), (2, .ref q9)] := hl
  refine lv_aload_n hx hb dL_gradeOf_0 rfl (lv_at hl 2 rfl) ?_
  refine lv_iconst (v := 0) hx hb dL_gradeOf_1 (by decide) ?_
  refine lv_aload_n hx hb dL_gradeOf_2 rfl (lv_at hl 0 rfl) ?_
  refine lv_iload_n hx hb dL_gradeOf_3 rfl (lv_at hl 1 rfl) ?_
  refine g0xo (A := (va_A (gO E a σ q9 f) s.heap.size)) (As := [.int pp]) (rest := [.int 0, .ref q9]) S (x_gradeOf l hfl E a σ hn pp h) (cwV 1 hts gL_gradeOf_X0_gradeOf rfl rfl rfl hdX0_gradeOf ⟨Nat.le_of_ble_eq_true rfl, Nat.le_of_ble_eq_true rfl⟩) hK hP hZ rfl hl.1 rfl (Nat.le_of_ble_eq_true rfl) ⟨Nat.le_of_ble_eq_true rfl, Nat.le_of_ble_eq_true rfl⟩ dL_gradeOf_4 [] ⟨0, 9, 12, 21⟩ [] (htab.trans rfl) (ps_nil (U := fun _ => True)) (by decide) (by decide) (hts (.classLink RL 21 "java/lang/IndexOutOfBoundsException") (by decide +kernel)) (by decide +kernel) (fun q H locs hP hS => ?_)
  refine lv_astore_n (lv' := [(3, .ref q), (0, .ref (a 0)), (1, .int pp), (2, .ref q9)]) hx hb dL_gradeOf_12 rfl hl (by decide) rfl (fun ls hl => ?_)
  refine lv_iconst (v := 1) hx hb dL_gradeOf_13 (by decide) ?_
  exact W.iret hx hb hr (fun t ht hW => ⟨⟨_, (), rfl, rfl, by show gP E _ t.heap; rw [ht]; exact hP⟩, hS.F ht⟩) hS.2.2 dL_gradeOf_14
theorem hdL_hindsight : yL_hindsight.cls ≠ "java/lang/invoke/MethodHandle" ∧ yL_hindsight.cls ≠ "java/lang/invoke/VarHandle" ∧ (parseMethodDescriptor yL_hindsight.desc).map (fun d => d.parameters.length) = some 3 := by decide +kernel
set_option maxHeartbeats 4000000 in
set_option maxRecDepth 100000 in
theorem w_hindsight (l : Launch) (E : GE) (a : Nat → Nat) (σ : GS) (q9 : Nat) (f : Nat → Int64) (sz : Nat) (k : Nat) (hn : gn σ ≤ 40) (hk : k < gn σ) (hE : gEx (ge σ) k = false) : Met l yL_hindsight wsL_hindsight { frames := 10, cells := 1, slots := 6, locals := 300 } (va_Pc [.ref (a 0), .int (nI k), .ref q9] (gBy E sz (gO E a σ q9 f))) (gQi E 0 (gO E a σ q9 f) (gO E a σ q9 (vp_updL f 0 ((ghs σ k).toInt64))) sz) 1 6 (va_A (gO E a σ q9 f) sz) := by
  refine w_met2 (cc := cL_hindsight) (maxL := 4) (ret := some .int) (hh := [(0, 9, 12, 21)]) (by decide) rfl (Nat.le_of_ble_eq_true rfl) ?_
  intro p e s m below meth c ls S hr hlocks htab hB hl
  obtain ⟨⟨hsz, hP, hK, hD0⟩, hZ, hN⟩ := hB
  subst hsz
  have hD := hD0.self (sz := s.heap.size)
  have hA : ∀ q : Nat, s.heap.size ≤ q → (va_A (gO E a σ q9 f) s.heap.size) q := fun q h => Or.inr h
  have hS : va_S (va_A (gO E a σ q9 f) s.heap.size) s.heap s.heap [] := va_S.rf
  obtain ⟨hx, hb, hml, hown, hts⟩ := id S
  have hl : lv_has ls 4 [(0, .ref (a 0)), (1, .int (nI k)), (2, .ref q9)] := hl
  refine lv_aload_n hx hb dL_hindsight_0 rfl (lv_at hl 2 rfl) ?_
  refine lv_iconst (v := 0) hx hb dL_hindsight_1 (by decide) ?_
  refine lv_aload_n hx hb dL_hindsight_2 rfl (lv_at hl 0 rfl) ?_
  refine lv_iload_n hx hb dL_hindsight_3 rfl (lv_at hl 1 rfl) ?_
  refine g0i (As := [.int (nI k)]) (rest := [.int 0, .ref q9]) S (c_hindsight l E a σ k hn hk hE) (cwV 1 hts gL_hindsight_X0_hindsight rfl rfl rfl hdX0_hindsight ⟨Nat.le_of_ble_eq_true rfl, Nat.le_of_ble_eq_true rfl⟩) hK (gO_l hP) rfl hl.1 rfl (Nat.le_of_ble_eq_true rfl) ⟨Nat.zero_le _, Nat.zero_le _⟩ dL_hindsight_4 ?_
  refine lv_i2l hx hb dL_hindsight_7 rfl ?_
  refine g_lst hx hb hK hP hD hS 14 rfl (f' := vp_updL f 0 ((ghs σ k).toInt64)) (i := nI 0) (vp_in_nI (by decide) (by decide)) (g_clL (k := 0) (by decide) rfl) dL_hindsight_8 (fun H locs hP hD hS => ?_)
  refine lv_goto (tgt := 15) hx hb dL_hindsight_9 (by decide) ?_
  refine lv_iconst (v := 0) hx hb dL_hindsight_15 (by decide) ?_
  refine W.widen (k := 1) (n := 6) (by omega) (by omega) ?_
  exact W.iret hx hb hr (fun t ht hW => ⟨⟨_, (), rfl, rfl, by show gP E _ t.heap; rw [ht]; exact hP⟩, hS.F ht⟩) hS.2.2 dL_hindsight_16
set_option maxHeartbeats 4000000 in
set_option maxRecDepth 100000 in
theorem w_hindsight_1 (l : Launch) (hfl : l.stackTraces = false) (E : GE) (a : Nat → Nat) (σ : GS) (q9 : Nat) (f : Nat → Int64) (sz : Nat) (hn : gn σ ≤ 40) (pp : Int32) (h : gNF σ pp) : Met l yL_hindsight wsL_hindsight { frames := 10, cells := 1, slots := 6, locals := 300 } (va_Pc [.ref (a 0), .int pp, .ref q9] (gBy E sz (gO E a σ q9 f))) (gQi E 1 (gO E a σ q9 f) (gO E a σ q9 f) sz) 1 6 (va_A (gO E a σ q9 f) sz) := by
  refine w_met2 (cc := cL_hindsight) (maxL := 4) (ret := some .int) (hh := [(0, 9, 12, 21)]) (by decide) rfl (Nat.le_of_ble_eq_true rfl) ?_
  intro p e s m below meth c ls S hr hlocks htab hB hl
  obtain ⟨⟨hsz, hP, hK, hD0⟩, hZ, hN⟩ := hB
  subst hsz
  have hD := hD0.self (sz := s.heap.size)
  have hA : ∀ q : Nat, s.heap.size ≤ q → (va_A (gO E a σ q9 f) s.heap.size) q := fun q h => Or.inr h
  have hS : va_S (va_A (gO E a σ q9 f) s.heap.size) s.heap s.heap [] := va_S.rf
  obtain ⟨hx, hb, hml, hown, hts⟩ := id S
  have hl : lv_has ls 4 [(0, .ref (a 0)), (1, .int pp), (2, .ref q9)] := hl
  refine lv_aload_n hx hb dL_hindsight_0 rfl (lv_at hl 2 rfl) ?_
  refine lv_iconst (v := 0) hx hb dL_hindsight_1 (by decide) ?_
  refine lv_aload_n hx hb dL_hindsight_2 rfl (lv_at hl 0 rfl) ?_
  refine lv_iload_n hx hb dL_hindsight_3 rfl (lv_at hl 1 rfl) ?_
  refine g0xo (A := (va_A (gO E a σ q9 f) s.heap.size)) (As := [.int pp]) (rest := [.int 0, .ref q9]) S (x_hindsight l hfl E a σ hn pp h) (cwV 1 hts gL_hindsight_X0_hindsight rfl rfl rfl hdX0_hindsight ⟨Nat.le_of_ble_eq_true rfl, Nat.le_of_ble_eq_true rfl⟩) hK hP hZ rfl hl.1 rfl (Nat.le_of_ble_eq_true rfl) ⟨Nat.le_of_ble_eq_true rfl, Nat.le_of_ble_eq_true rfl⟩ dL_hindsight_4 [] ⟨0, 9, 12, 21⟩ [] (htab.trans rfl) (ps_nil (U := fun _ => True)) (by decide) (by decide) (hts (.classLink RL 21 "java/lang/IndexOutOfBoundsException") (by decide +kernel)) (by decide +kernel) (fun q H locs hP hS => ?_)
  refine lv_astore_n (lv' := [(3, .ref q), (0, .ref (a 0)), (1, .int pp), (2, .ref q9)]) hx hb dL_hindsight_12 rfl hl (by decide) rfl (fun ls hl => ?_)
  refine lv_iconst (v := 1) hx hb dL_hindsight_13 (by decide) ?_
  exact W.iret hx hb hr (fun t ht hW => ⟨⟨_, (), rfl, rfl, by show gP E _ t.heap; rw [ht]; exact hP⟩, hS.F ht⟩) hS.2.2 dL_hindsight_14
theorem hdL_hope : yL_hope.cls ≠ "java/lang/invoke/MethodHandle" ∧ yL_hope.cls ≠ "java/lang/invoke/VarHandle" ∧ (parseMethodDescriptor yL_hope.desc).map (fun d => d.parameters.length) = some 3 := by decide +kernel
set_option maxHeartbeats 4000000 in
set_option maxRecDepth 100000 in
theorem w_hope (l : Launch) (E : GE) (a : Nat → Nat) (σ : GS) (q9 : Nat) (f : Nat → Int64) (sz : Nat) (k : Nat) (hn : gn σ ≤ 40) (hk : k < gn σ) : Met l yL_hope wsL_hope { frames := 10, cells := 1, slots := 6, locals := 300 } (va_Pc [.ref (a 0), .int (nI k), .ref q9] (gBy E sz (gO E a σ q9 f))) (gQi E 0 (gO E a σ q9 f) (gO E a σ q9 (vp_updL f 0 ((gho σ k).toInt64))) sz) 1 6 (va_A (gO E a σ q9 f) sz) := by
  refine w_met2 (cc := cL_hope) (maxL := 4) (ret := some .int) (hh := [(0, 9, 12, 21)]) (by decide) rfl (Nat.le_of_ble_eq_true rfl) ?_
  intro p e s m below meth c ls S hr hlocks htab hB hl
  obtain ⟨⟨hsz, hP, hK, hD0⟩, hZ, hN⟩ := hB
  subst hsz
  have hD := hD0.self (sz := s.heap.size)
  have hA : ∀ q : Nat, s.heap.size ≤ q → (va_A (gO E a σ q9 f) s.heap.size) q := fun q h => Or.inr h
  have hS : va_S (va_A (gO E a σ q9 f) s.heap.size) s.heap s.heap [] := va_S.rf
  obtain ⟨hx, hb, hml, hown, hts⟩ := id S
  have hl : lv_has ls 4 [(0, .ref (a 0)), (1, .int (nI k)), (2, .ref q9)] := hl
  refine lv_aload_n hx hb dL_hope_0 rfl (lv_at hl 2 rfl) ?_
  refine lv_iconst (v := 0) hx hb dL_hope_1 (by decide) ?_
  refine lv_aload_n hx hb dL_hope_2 rfl (lv_at hl 0 rfl) ?_
  refine lv_iload_n hx hb dL_hope_3 rfl (lv_at hl 1 rfl) ?_
  refine g0i (As := [.int (nI k)]) (rest := [.int 0, .ref q9]) S (c_hope l E a σ k hn hk) (cwV 1 hts gL_hope_X0_hope rfl rfl rfl hdX0_hope ⟨Nat.le_of_ble_eq_true rfl, Nat.le_of_ble_eq_true rfl⟩) hK (gO_l hP) rfl hl.1 rfl (Nat.le_of_ble_eq_true rfl) ⟨Nat.zero_le _, Nat.zero_le _⟩ dL_hope_4 ?_
  refine lv_i2l hx hb dL_hope_7 rfl ?_
  refine g_lst hx hb hK hP hD hS 14 rfl (f' := vp_updL f 0 ((gho σ k).toInt64)) (i := nI 0) (vp_in_nI (by decide) (by decide)) (g_clL (k := 0) (by decide) rfl) dL_hope_8 (fun H locs hP hD hS => ?_)
  refine lv_goto (tgt := 15) hx hb dL_hope_9 (by decide) ?_
  refine lv_iconst (v := 0) hx hb dL_hope_15 (by decide) ?_
  refine W.widen (k := 1) (n := 6) (by omega) (by omega) ?_
  exact W.iret hx hb hr (fun t ht hW => ⟨⟨_, (), rfl, rfl, by show gP E _ t.heap; rw [ht]; exact hP⟩, hS.F ht⟩) hS.2.2 dL_hope_16
set_option maxHeartbeats 4000000 in
set_option maxRecDepth 100000 in
theorem w_hope_1 (l : Launch) (hfl : l.stackTraces = false) (E : GE) (a : Nat → Nat) (σ : GS) (q9 : Nat) (f : Nat → Int64) (sz : Nat) (pp : Int32) (h : gPb σ pp) : Met l yL_hope wsL_hope { frames := 10, cells := 1, slots := 6, locals := 300 } (va_Pc [.ref (a 0), .int pp, .ref q9] (gBy E sz (gO E a σ q9 f))) (gQi E 1 (gO E a σ q9 f) (gO E a σ q9 f) sz) 1 6 (va_A (gO E a σ q9 f) sz) := by
  refine w_met2 (cc := cL_hope) (maxL := 4) (ret := some .int) (hh := [(0, 9, 12, 21)]) (by decide) rfl (Nat.le_of_ble_eq_true rfl) ?_
  intro p e s m below meth c ls S hr hlocks htab hB hl
  obtain ⟨⟨hsz, hP, hK, hD0⟩, hZ, hN⟩ := hB
  subst hsz
  have hD := hD0.self (sz := s.heap.size)
  have hA : ∀ q : Nat, s.heap.size ≤ q → (va_A (gO E a σ q9 f) s.heap.size) q := fun q h => Or.inr h
  have hS : va_S (va_A (gO E a σ q9 f) s.heap.size) s.heap s.heap [] := va_S.rf
  obtain ⟨hx, hb, hml, hown, hts⟩ := id S
  have hl : lv_has ls 4 [(0, .ref (a 0)), (1, .int pp), (2, .ref q9)] := hl
  refine lv_aload_n hx hb dL_hope_0 rfl (lv_at hl 2 rfl) ?_
  refine lv_iconst (v := 0) hx hb dL_hope_1 (by decide) ?_
  refine lv_aload_n hx hb dL_hope_2 rfl (lv_at hl 0 rfl) ?_
  refine lv_iload_n hx hb dL_hope_3 rfl (lv_at hl 1 rfl) ?_
  refine g0xo (A := (va_A (gO E a σ q9 f) s.heap.size)) (As := [.int pp]) (rest := [.int 0, .ref q9]) S (x_hope l hfl E a σ pp h) (cwV 1 hts gL_hope_X0_hope rfl rfl rfl hdX0_hope ⟨Nat.le_of_ble_eq_true rfl, Nat.le_of_ble_eq_true rfl⟩) hK hP hZ rfl hl.1 rfl (Nat.le_of_ble_eq_true rfl) ⟨Nat.le_of_ble_eq_true rfl, Nat.le_of_ble_eq_true rfl⟩ dL_hope_4 [] ⟨0, 9, 12, 21⟩ [] (htab.trans rfl) (ps_nil (U := fun _ => True)) (by decide) (by decide) (hts (.classLink RL 21 "java/lang/IndexOutOfBoundsException") (by decide +kernel)) (by decide +kernel) (fun q H locs hP hS => ?_)
  refine lv_astore_n (lv' := [(3, .ref q), (0, .ref (a 0)), (1, .int pp), (2, .ref q9)]) hx hb dL_hope_12 rfl hl (by decide) rfl (fun ls hl => ?_)
  refine lv_iconst (v := 1) hx hb dL_hope_13 (by decide) ?_
  exact W.iret hx hb hr (fun t ht hW => ⟨⟨_, (), rfl, rfl, by show gP E _ t.heap; rw [ht]; exact hP⟩, hS.F ht⟩) hS.2.2 dL_hope_14
theorem hdL_isExam : yL_isExam.cls ≠ "java/lang/invoke/MethodHandle" ∧ yL_isExam.cls ≠ "java/lang/invoke/VarHandle" ∧ (parseMethodDescriptor yL_isExam.desc).map (fun d => d.parameters.length) = some 3 := by decide +kernel
set_option maxHeartbeats 4000000 in
set_option maxRecDepth 100000 in
theorem w_isExam (l : Launch) (E : GE) (a : Nat → Nat) (σ : GS) (q9 : Nat) (f : Nat → Int64) (sz : Nat) (k : Nat) (hn : gn σ ≤ 40) (hk : k < gn σ) : Met l yL_isExam wsL_isExam { frames := 10, cells := 1, slots := 6, locals := 300 } (va_Pc [.ref (a 0), .int (nI k), .ref q9] (gBy E sz (gO E a σ q9 f))) (gQi E 0 (gO E a σ q9 f) (gO E a σ q9 (vp_updL f 0 (bl (gEx (ge σ) k)))) sz) 1 6 (va_A (gO E a σ q9 f) sz) := by
  refine w_met2 (cc := cL_isExam) (maxL := 4) (ret := some .int) (hh := [(0, 16, 19, 21)]) (by decide) rfl (Nat.le_of_ble_eq_true rfl) ?_
  intro p e s m below meth c ls S hr hlocks htab hB hl
  obtain ⟨⟨hsz, hP, hK, hD0⟩, hZ, hN⟩ := hB
  subst hsz
  have hD := hD0.self (sz := s.heap.size)
  have hA : ∀ q : Nat, s.heap.size ≤ q → (va_A (gO E a σ q9 f) s.heap.size) q := fun q h => Or.inr h
  have hS : va_S (va_A (gO E a σ q9 f) s.heap.size) s.heap s.heap [] := va_S.rf
  obtain ⟨hx, hb, hml, hown, hts⟩ := id S
  have hl : lv_has ls 4 [(0, .ref (a 0)), (1, .int (nI k)), (2, .ref q9)] := hl
  refine lv_aload_n hx hb dL_isExam_0 rfl (lv_at hl 2 rfl) ?_
  refine lv_iconst (v := 0) hx hb dL_isExam_1 (by decide) ?_
  refine lv_aload_n hx hb dL_isExam_2 rfl (lv_at hl 0 rfl) ?_
  refine lv_iload_n hx hb dL_isExam_3 rfl (lv_at hl 1 rfl) ?_
  refine g0i (As := [.int (nI k)]) (rest := [.int 0, .ref q9]) S (c_isExam l E a σ k hn hk) (cwV 1 hts gL_isExam_X0_isExam rfl rfl rfl hdX0_isExam ⟨Nat.le_of_ble_eq_true rfl, Nat.le_of_ble_eq_true rfl⟩) hK (gO_l hP) rfl hl.1 rfl (Nat.le_of_ble_eq_true rfl) ⟨Nat.zero_le _, Nat.zero_le _⟩ dL_isExam_4 ?_
  refine lv_if_eq (tgt := 14) hx hb dL_isExam_7 (by decide) (fun c7 => ?_) (fun c7 => ?_)
  · refine lv_lconst (v := 0) hx hb dL_isExam_14 (by decide) ?_
    refine g_lst hx hb hK hP hD hS 14 rfl (f' := vp_updL f 0 0) (i := nI 0) (vp_in_nI (by decide) (by decide)) (g_clL (k := 0) (by decide) rfl) dL_isExam_15 (fun H locs hP hD hS => ?_)
    refine lv_goto (tgt := 22) hx hb dL_isExam_16 (by decide) ?_
    refine lv_iconst (v := 0) hx hb dL_isExam_22 (by decide) ?_
    refine W.widen (k := 1) (n := 6) (by omega) (by omega) ?_
    exact W.iret hx hb hr (fun t ht hW => ⟨⟨_, (), rfl, rfl, by show gP E _ t.heap; rw [ht]; first | (rw [bl, b2i_eq0.mp c7]; exact hP) | (rw [bl, b2i_ne0.mp c7]; exact hP)⟩, hS.F ht⟩) hS.2.2 dL_isExam_23
  · refine lv_lconst (v := 1) hx hb dL_isExam_10 (by decide) ?_
    refine lv_goto (tgt := 15) hx hb dL_isExam_11 (by decide) ?_
    refine g_lst hx hb hK hP hD hS 14 rfl (f' := vp_updL f 0 1) (i := nI 0) (vp_in_nI (by decide) (by decide)) (g_clL (k := 0) (by decide) rfl) dL_isExam_15 (fun H locs hP hD hS => ?_)
    refine lv_goto (tgt := 22) hx hb dL_isExam_16 (by decide) ?_
    refine lv_iconst (v := 0) hx hb dL_isExam_22 (by decide) ?_
    refine W.widen (k := 1) (n := 6) (by omega) (by omega) ?_
    exact W.iret hx hb hr (fun t ht hW => ⟨⟨_, (), rfl, rfl, by show gP E _ t.heap; rw [ht]; first | (rw [bl, b2i_eq0.mp c7]; exact hP) | (rw [bl, b2i_ne0.mp c7]; exact hP)⟩, hS.F ht⟩) hS.2.2 dL_isExam_23
set_option maxHeartbeats 4000000 in
set_option maxRecDepth 100000 in
theorem w_isExam_1 (l : Launch) (hfl : l.stackTraces = false) (E : GE) (a : Nat → Nat) (σ : GS) (q9 : Nat) (f : Nat → Int64) (sz : Nat) (pp : Int32) (h : gPb σ pp) : Met l yL_isExam wsL_isExam { frames := 10, cells := 1, slots := 6, locals := 300 } (va_Pc [.ref (a 0), .int pp, .ref q9] (gBy E sz (gO E a σ q9 f))) (gQi E 1 (gO E a σ q9 f) (gO E a σ q9 f) sz) 1 6 (va_A (gO E a σ q9 f) sz) := by
  refine w_met2 (cc := cL_isExam) (maxL := 4) (ret := some .int) (hh := [(0, 16, 19, 21)]) (by decide) rfl (Nat.le_of_ble_eq_true rfl) ?_
  intro p e s m below meth c ls S hr hlocks htab hB hl
  obtain ⟨⟨hsz, hP, hK, hD0⟩, hZ, hN⟩ := hB
  subst hsz
  have hD := hD0.self (sz := s.heap.size)
  have hA : ∀ q : Nat, s.heap.size ≤ q → (va_A (gO E a σ q9 f) s.heap.size) q := fun q h => Or.inr h
  have hS : va_S (va_A (gO E a σ q9 f) s.heap.size) s.heap s.heap [] := va_S.rf
  obtain ⟨hx, hb, hml, hown, hts⟩ := id S
  have hl : lv_has ls 4 [(0, .ref (a 0)), (1, .int pp), (2, .ref q9)] := hl
  refine lv_aload_n hx hb dL_isExam_0 rfl (lv_at hl 2 rfl) ?_
  refine lv_iconst (v := 0) hx hb dL_isExam_1 (by decide) ?_
  refine lv_aload_n hx hb dL_isExam_2 rfl (lv_at hl 0 rfl) ?_
  refine lv_iload_n hx hb dL_isExam_3 rfl (lv_at hl 1 rfl) ?_
  refine g0xo (A := (va_A (gO E a σ q9 f) s.heap.size)) (As := [.int pp]) (rest := [.int 0, .ref q9]) S (x_isExam l hfl E a σ pp h) (cwV 1 hts gL_isExam_X0_isExam rfl rfl rfl hdX0_isExam ⟨Nat.le_of_ble_eq_true rfl, Nat.le_of_ble_eq_true rfl⟩) hK hP hZ rfl hl.1 rfl (Nat.le_of_ble_eq_true rfl) ⟨Nat.le_of_ble_eq_true rfl, Nat.le_of_ble_eq_true rfl⟩ dL_isExam_4 [] ⟨0, 16, 19, 21⟩ [] (htab.trans rfl) (ps_nil (U := fun _ => True)) (by decide) (by decide) (hts (.classLink RL 21 "java/lang/IndexOutOfBoundsException") (by decide +kernel)) (by decide +kernel) (fun q H locs hP hS => ?_)
  refine lv_astore_n (lv' := [(3, .ref q), (0, .ref (a 0)), (1, .int pp), (2, .ref q9)]) hx hb dL_isExam_19 rfl hl (by decide) rfl (fun ls hl => ?_)
  refine lv_iconst (v := 1) hx hb dL_isExam_20 (by decide) ?_
  exact W.iret hx hb hr (fun t ht hW => ⟨⟨_, (), rfl, rfl, by show gP E _ t.heap; rw [ht]; exact hP⟩, hS.F ht⟩) hS.2.2 dL_isExam_21
theorem hdL_isGraded : yL_isGraded.cls ≠ "java/lang/invoke/MethodHandle" ∧ yL_isGraded.cls ≠ "java/lang/invoke/VarHandle" ∧ (parseMethodDescriptor yL_isGraded.desc).map (fun d => d.parameters.length) = some 3 := by decide +kernel
set_option maxHeartbeats 4000000 in
set_option maxRecDepth 100000 in
theorem w_isGraded (l : Launch) (E : GE) (a : Nat → Nat) (σ : GS) (q9 : Nat) (f : Nat → Int64) (sz : Nat) (k : Nat) (hn : gn σ ≤ 40) (hk : k < gn σ) (hE : gEx (ge σ) k = true) : Met l yL_isGraded wsL_isGraded { frames := 10, cells := 1, slots := 6, locals := 300 } (va_Pc [.ref (a 0), .int (nI k), .ref q9] (gBy E sz (gO E a σ q9 f))) (gQi E 0 (gO E a σ q9 f) (gO E a σ q9 (vp_updL f 0 (bl (gHas σ k)))) sz) 1 6 (va_A (gO E a σ q9 f) sz) := by
  refine w_met2 (cc := cL_isGraded) (maxL := 4) (ret := some .int) (hh := [(0, 16, 19, 21)]) (by decide) rfl (Nat.le_of_ble_eq_true rfl) ?_
  intro p e s m below meth c ls S hr hlocks htab hB hl
  obtain ⟨⟨hsz, hP, hK, hD0⟩, hZ, hN⟩ := hB
  subst hsz
  have hD := hD0.self (sz := s.heap.size)
  have hA : ∀ q : Nat, s.heap.size ≤ q → (va_A (gO E a σ q9 f) s.heap.size) q := fun q h => Or.inr h
  have hS : va_S (va_A (gO E a σ q9 f) s.heap.size) s.heap s.heap [] := va_S.rf
  obtain ⟨hx, hb, hml, hown, hts⟩ := id S
  have hl : lv_has ls 4 [(0, .ref (a 0)), (1, .int (nI k)), (2, .ref q9)] := hl
  refine lv_aload_n hx hb dL_isGraded_0 rfl (lv_at hl 2 rfl) ?_
  refine lv_iconst (v := 0) hx hb dL_isGraded_1 (by decide) ?_
  refine lv_aload_n hx hb dL_isGraded_2 rfl (lv_at hl 0 rfl) ?_
  refine lv_iload_n hx hb dL_isGraded_3 rfl (lv_at hl 1 rfl) ?_
  refine g0i (As := [.int (nI k)]) (rest := [.int 0, .ref q9]) S (c_isGraded l E a σ k hn hk hE) (cwV 1 hts gL_isGraded_X0_isGraded rfl rfl rfl hdX0_isGraded ⟨Nat.le_of_ble_eq_true rfl, Nat.le_of_ble_eq_true rfl⟩) hK (gO_l hP) rfl hl.1 rfl (Nat.le_of_ble_eq_true rfl) ⟨Nat.zero_le _, Nat.zero_le _⟩ dL_isGraded_4 ?_
  refine lv_if_eq (tgt := 14) hx hb dL_isGraded_7 (by decide) (fun c7 => ?_) (fun c7 => ?_)
  · refine lv_lconst (v := 0) hx hb dL_isGraded_14 (by decide) ?_
    refine g_lst hx hb hK hP hD hS 14 rfl (f' := vp_updL f 0 0) (i := nI 0) (vp_in_nI (by decide) (by decide)) (g_clL (k := 0) (by decide) rfl) dL_isGraded_15 (fun H locs hP hD hS => ?_)
    refine lv_goto (tgt := 22) hx hb dL_isGraded_16 (by decide) ?_
    refine lv_iconst (v := 0) hx hb dL_isGraded_22 (by decide) ?_
    refine W.widen (k := 1) (n := 6) (by omega) (by omega) ?_
    exact W.iret hx hb hr (fun t ht hW => ⟨⟨_, (), rfl, rfl, by show gP E _ t.heap; rw [ht]; first | (rw [bl, b2i_eq0.mp c7]; exact hP) | (rw [bl, b2i_ne0.mp c7]; exact hP)⟩, hS.F ht⟩) hS.2.2 dL_isGraded_23
  · refine lv_lconst (v := 1) hx hb dL_isGraded_10 (by decide) ?_
    refine lv_goto (tgt := 15) hx hb dL_isGraded_11 (by decide) ?_
    refine g_lst hx hb hK hP hD hS 14 rfl (f' := vp_updL f 0 1) (i := nI 0) (vp_in_nI (by decide) (by decide)) (g_clL (k := 0) (by decide) rfl) dL_isGraded_15 (fun H locs hP hD hS => ?_)
    refine lv_goto (tgt := 22) hx hb dL_isGraded_16 (by decide) ?_
    refine lv_iconst (v := 0) hx hb dL_isGraded_22 (by decide) ?_
    refine W.widen (k := 1) (n := 6) (by omega) (by omega) ?_
    exact W.iret hx hb hr (fun t ht hW => ⟨⟨_, (), rfl, rfl, by show gP E _ t.heap; rw [ht]; first | (rw [bl, b2i_eq0.mp c7]; exact hP) | (rw [bl, b2i_ne0.mp c7]; exact hP)⟩, hS.F ht⟩) hS.2.2 dL_isGraded_23
set_option maxHeartbeats 4000000 in
set_option maxRecDepth 100000 in
theorem w_isGraded_1 (l : Launch) (hfl : l.stackTraces = false) (E : GE) (a : Nat → Nat) (σ : GS) (q9 : Nat) (f : Nat → Int64) (sz : Nat) (hn : gn σ ≤ 40) (pp : Int32) (h : gNE σ pp) : Met l yL_isGraded wsL_isGraded { frames := 10, cells := 1, slots := 6, locals := 300 } (va_Pc [.ref (a 0), .int pp, .ref q9] (gBy E sz (gO E a σ q9 f))) (gQi E 1 (gO E a σ q9 f) (gO E a σ q9 f) sz) 1 6 (va_A (gO E a σ q9 f) sz) := by
  refine w_met2 (cc := cL_isGraded) (maxL := 4) (ret := some .int) (hh := [(0, 16, 19, 21)]) (by decide) rfl (Nat.le_of_ble_eq_true rfl) ?_
  intro p e s m below meth c ls S hr hlocks htab hB hl
  obtain ⟨⟨hsz, hP, hK, hD0⟩, hZ, hN⟩ := hB
  subst hsz
  have hD := hD0.self (sz := s.heap.size)
  have hA : ∀ q : Nat, s.heap.size ≤ q → (va_A (gO E a σ q9 f) s.heap.size) q := fun q h => Or.inr h
  have hS : va_S (va_A (gO E a σ q9 f) s.heap.size) s.heap s.heap [] := va_S.rf
  obtain ⟨hx, hb, hml, hown, hts⟩ := id S
  have hl : lv_has ls 4 [(0, .ref (a 0)), (1, .int pp), (2, .ref q9)] := hl
  refine lv_aload_n hx hb dL_isGraded_0 rfl (lv_at hl 2 rfl) ?_
  refine lv_iconst (v := 0) hx hb dL_isGraded_1 (by decide) ?_
  refine lv_aload_n hx hb dL_isGraded_2 rfl (lv_at hl 0 rfl) ?_
  refine lv_iload_n hx hb dL_isGraded_3 rfl (lv_at hl 1 rfl) ?_
  refine g0xo (A := (va_A (gO E a σ q9 f) s.heap.size)) (As := [.int pp]) (rest := [.int 0, .ref q9]) S (x_isGraded l hfl E a σ hn pp h) (cwV 1 hts gL_isGraded_X0_isGraded rfl rfl rfl hdX0_isGraded ⟨Nat.le_of_ble_eq_true rfl, Nat.le_of_ble_eq_true rfl⟩) hK hP hZ rfl hl.1 rfl (Nat.le_of_ble_eq_true rfl) ⟨Nat.le_of_ble_eq_true rfl, Nat.le_of_ble_eq_true rfl⟩ dL_isGraded_4 [] ⟨0, 16, 19, 21⟩ [] (htab.trans rfl) (ps_nil (U := fun _ => True)) (by decide) (by decide) (hts (.classLink RL 21 "java/lang/IndexOutOfBoundsException") (by decide +kernel)) (by decide +kernel) (fun q H locs hP hS => ?_)
  refine lv_astore_n (lv' := [(3, .ref q), (0, .ref (a 0)), (1, .int pp), (2, .ref q9)]) hx hb dL_isGraded_19 rfl hl (by decide) rfl (fun ls hl => ?_)
  refine lv_iconst (v := 1) hx hb dL_isGraded_20 (by decide) ?_
  exact W.iret hx hb hr (fun t ht hW => ⟨⟨_, (), rfl, rfl, by show gP E _ t.heap; rw [ht]; exact hP⟩, hS.F ht⟩) hS.2.2 dL_isGraded_21
theorem hdL_leftOf : yL_leftOf.cls ≠ "java/lang/invoke/MethodHandle" ∧ yL_leftOf.cls ≠ "java/lang/invoke/VarHandle" ∧ (parseMethodDescriptor yL_leftOf.desc).map (fun d => d.parameters.length) = some 3 := by decide +kernel
set_option maxHeartbeats 4000000 in
set_option maxRecDepth 100000 in
theorem w_leftOf (l : Launch) (E : GE) (a : Nat → Nat) (σ : GS) (q9 : Nat) (f : Nat → Int64) (sz : Nat) (k : Nat) (hn : gn σ ≤ 40) (hk : k < gn σ) (hE : gEx (ge σ) k = false) : Met l yL_leftOf wsL_leftOf { frames := 10, cells := 1, slots := 6, locals := 300 } (va_Pc [.ref (a 0), .int (nI k), .ref q9] (gBy E sz (gO E a σ q9 f))) (gQi E 0 (gO E a σ q9 f) (gO E a σ q9 (vp_updL f 0 ((nI (glf σ k)).toInt64))) sz) 1 6 (va_A (gO E a σ q9 f) sz) := by
  refine w_met2 (cc := cL_leftOf) (maxL := 4) (ret := some .int) (hh := [(0, 9, 12, 21)]) (by decide) rfl (Nat.le_of_ble_eq_true rfl) ?_
  intro p e s m below meth c ls S hr hlocks htab hB hl
  obtain ⟨⟨hsz, hP, hK, hD0⟩, hZ, hN⟩ := hB
  subst hsz
  have hD := hD0.self (sz := s.heap.size)
  have hA : ∀ q : Nat, s.heap.size ≤ q → (va_A (gO E a σ q9 f) s.heap.size) q := fun q h => Or.inr h
  have hS : va_S (va_A (gO E a σ q9 f) s.heap.size) s.heap s.heap [] := va_S.rf
  obtain ⟨hx, hb, hml, hown, hts⟩ := id S
  have hl : lv_has ls 4 [(0, .ref (a 0)), (1, .int (nI k)), (2, .ref q9)] := hl
  refine lv_aload_n hx hb dL_leftOf_0 rfl (lv_at hl 2 rfl) ?_
  refine lv_iconst (v := 0) hx hb dL_leftOf_1 (by decide) ?_
  refine lv_aload_n hx hb dL_leftOf_2 rfl (lv_at hl 0 rfl) ?_
  refine lv_iload_n hx hb dL_leftOf_3 rfl (lv_at hl 1 rfl) ?_
  refine g0i (As := [.int (nI k)]) (rest := [.int 0, .ref q9]) S (c_leftOf l E a σ k hn hk hE) (cwV 1 hts gL_leftOf_X0_leftOf rfl rfl rfl hdX0_leftOf ⟨Nat.le_of_ble_eq_true rfl, Nat.le_of_ble_eq_true rfl⟩) hK (gO_l hP) rfl hl.1 rfl (Nat.le_of_ble_eq_true rfl) ⟨Nat.zero_le _, Nat.zero_le _⟩ dL_leftOf_4 ?_
  refine lv_i2l hx hb dL_leftOf_7 rfl ?_
  refine g_lst hx hb hK hP hD hS 14 rfl (f' := vp_updL f 0 ((nI (glf σ k)).toInt64)) (i := nI 0) (vp_in_nI (by decide) (by decide)) (g_clL (k := 0) (by decide) rfl) dL_leftOf_8 (fun H locs hP hD hS => ?_)
  refine lv_goto (tgt := 15) hx hb dL_leftOf_9 (by decide) ?_
  refine lv_iconst (v := 0) hx hb dL_leftOf_15 (by decide) ?_
  refine W.widen (k := 1) (n := 6) (by omega) (by omega) ?_
  exact W.iret hx hb hr (fun t ht hW => ⟨⟨_, (), rfl, rfl, by show gP E _ t.heap; rw [ht]; exact hP⟩, hS.F ht⟩) hS.2.2 dL_leftOf_16
set_option maxHeartbeats 4000000 in
set_option maxRecDepth 100000 in
theorem w_leftOf_1 (l : Launch) (hfl : l.stackTraces = false) (E : GE) (a : Nat → Nat) (σ : GS) (q9 : Nat) (f : Nat → Int64) (sz : Nat) (hn : gn σ ≤ 40) (pp : Int32) (h : gNF σ pp) : Met l yL_leftOf wsL_leftOf { frames := 10, cells := 1, slots := 6, locals := 300 } (va_Pc [.ref (a 0), .int pp, .ref q9] (gBy E sz (gO E a σ q9 f))) (gQi E 1 (gO E a σ q9 f) (gO E a σ q9 f) sz) 1 6 (va_A (gO E a σ q9 f) sz) := by
  refine w_met2 (cc := cL_leftOf) (maxL := 4) (ret := some .int) (hh := [(0, 9, 12, 21)]) (by decide) rfl (Nat.le_of_ble_eq_true rfl) ?_
  intro p e s m below meth c ls S hr hlocks htab hB hl
  obtain ⟨⟨hsz, hP, hK, hD0⟩, hZ, hN⟩ := hB
  subst hsz
  have hD := hD0.self (sz := s.heap.size)
  have hA : ∀ q : Nat, s.heap.size ≤ q → (va_A (gO E a σ q9 f) s.heap.size) q := fun q h => Or.inr h
  have hS : va_S (va_A (gO E a σ q9 f) s.heap.size) s.heap s.heap [] := va_S.rf
  obtain ⟨hx, hb, hml, hown, hts⟩ := id S
  have hl : lv_has ls 4 [(0, .ref (a 0)), (1, .int pp), (2, .ref q9)] := hl
  refine lv_aload_n hx hb dL_leftOf_0 rfl (lv_at hl 2 rfl) ?_
  refine lv_iconst (v := 0) hx hb dL_leftOf_1 (by decide) ?_
  refine lv_aload_n hx hb dL_leftOf_2 rfl (lv_at hl 0 rfl) ?_
  refine lv_iload_n hx hb dL_leftOf_3 rfl (lv_at hl 1 rfl) ?_
  refine g0xo (A := (va_A (gO E a σ q9 f) s.heap.size)) (As := [.int pp]) (rest := [.int 0, .ref q9]) S (x_leftOf l hfl E a σ hn pp h) (cwV 1 hts gL_leftOf_X0_leftOf rfl rfl rfl hdX0_leftOf ⟨Nat.le_of_ble_eq_true rfl, Nat.le_of_ble_eq_true rfl⟩) hK hP hZ rfl hl.1 rfl (Nat.le_of_ble_eq_true rfl) ⟨Nat.le_of_ble_eq_true rfl, Nat.le_of_ble_eq_true rfl⟩ dL_leftOf_4 [] ⟨0, 9, 12, 21⟩ [] (htab.trans rfl) (ps_nil (U := fun _ => True)) (by decide) (by decide) (hts (.classLink RL 21 "java/lang/IndexOutOfBoundsException") (by decide +kernel)) (by decide +kernel) (fun q H locs hP hS => ?_)
  refine lv_astore_n (lv' := [(3, .ref q), (0, .ref (a 0)), (1, .int pp), (2, .ref q9)]) hx hb dL_leftOf_12 rfl hl (by decide) rfl (fun ls hl => ?_)
  refine lv_iconst (v := 1) hx hb dL_leftOf_13 (by decide) ?_
  exact W.iret hx hb hr (fun t ht hW => ⟨⟨_, (), rfl, rfl, by show gP E _ t.heap; rw [ht]; exact hP⟩, hS.F ht⟩) hS.2.2 dL_leftOf_14
theorem hdL_passedBy : yL_passedBy.cls ≠ "java/lang/invoke/MethodHandle" ∧ yL_passedBy.cls ≠ "java/lang/invoke/VarHandle" ∧ (parseMethodDescriptor yL_passedBy.desc).map (fun d => d.parameters.length) = some 3 := by decide +kernel
set_option maxHeartbeats 4000000 in
set_option maxRecDepth 100000 in
theorem w_passedBy (l : Launch) (E : GE) (a : Nat → Nat) (σ : GS) (q9 : Nat) (f : Nat → Int64) (sz : Nat) (k : Nat) (hn : gk σ ≤ 8) (hk : k < gk σ) : Met l yL_passedBy wsL_passedBy { frames := 10, cells := 1, slots := 6, locals := 300 } (va_Pc [.ref (a 0), .int (nI k), .ref q9] (gBy E sz (gO E a σ q9 f))) (gQi E 0 (gO E a σ q9 f) (gO E a σ q9 (vp_updL f 0 ((nI (gpc σ k)).toInt64))) sz) 1 6 (va_A (gO E a σ q9 f) sz) := by
  refine w_met2 (cc := cL_passedBy) (maxL := 4) (ret := some .int) (hh := [(0, 9, 12, 21)]) (by decide) rfl (Nat.le_of_ble_eq_true rfl) ?_
  intro p e s m below meth c ls S hr hlocks htab hB hl
  obtain ⟨⟨hsz, hP, hK, hD0⟩, hZ, hN⟩ := hB
  subst hsz
  have hD := hD0.self (sz := s.heap.size)
  have hA : ∀ q : Nat, s.heap.size ≤ q → (va_A (gO E a σ q9 f) s.heap.size) q := fun q h => Or.inr h
  have hS : va_S (va_A (gO E a σ q9 f) s.heap.size) s.heap s.heap [] := va_S.rf
  obtain ⟨hx, hb, hml, hown, hts⟩ := id S
  have hl : lv_has ls 4 [(0, .ref (a 0)), (1, .int (nI k)), (2, .ref q9)] := hl
  refine lv_aload_n hx hb dL_passedBy_0 rfl (lv_at hl 2 rfl) ?_
  refine lv_iconst (v := 0) hx hb dL_passedBy_1 (by decide) ?_
  refine lv_aload_n hx hb dL_passedBy_2 rfl (lv_at hl 0 rfl) ?_
  refine lv_iload_n hx hb dL_passedBy_3 rfl (lv_at hl 1 rfl) ?_
  refine g0i (As := [.int (nI k)]) (rest := [.int 0, .ref q9]) S (c_passedBy l E a σ k hn hk) (cwV 1 hts gL_passedBy_X0_passedBy rfl rfl rfl hdX0_passedBy ⟨Nat.le_of_ble_eq_true rfl, Nat.le_of_ble_eq_true rfl⟩) hK (gO_l hP) rfl hl.1 rfl (Nat.le_of_ble_eq_true rfl) ⟨Nat.zero_le _, Nat.zero_le _⟩ dL_passedBy_4 ?_
  refine lv_i2l hx hb dL_passedBy_7 rfl ?_
  refine g_lst hx hb hK hP hD hS 14 rfl (f' := vp_updL f 0 ((nI (gpc σ k)).toInt64)) (i := nI 0) (vp_in_nI (by decide) (by decide)) (g_clL (k := 0) (by decide) rfl) dL_passedBy_8 (fun H locs hP hD hS => ?_)
  refine lv_goto (tgt := 15) hx hb dL_passedBy_9 (by decide) ?_
  refine lv_iconst (v := 0) hx hb dL_passedBy_15 (by decide) ?_
  refine W.widen (k := 1) (n := 6) (by omega) (by omega) ?_
  exact W.iret hx hb hr (fun t ht hW => ⟨⟨_, (), rfl, rfl, by show gP E _ t.heap; rw [ht]; exact hP⟩, hS.F ht⟩) hS.2.2 dL_passedBy_16
set_option maxHeartbeats 4000000 in
set_option maxRecDepth 100000 in
theorem w_passedBy_1 (l : Launch) (hfl : l.stackTraces = false) (E : GE) (a : Nat → Nat) (σ : GS) (q9 : Nat) (f : Nat → Int64) (sz : Nat) (pp : Int32) (h : gSb σ pp) : Met l yL_passedBy wsL_passedBy { frames := 10, cells := 1, slots := 6, locals := 300 } (va_Pc [.ref (a 0), .int pp, .ref q9] (gBy E sz (gO E a σ q9 f))) (gQi E 1 (gO E a σ q9 f) (gO E a σ q9 f) sz) 1 6 (va_A (gO E a σ q9 f) sz) := by
  refine w_met2 (cc := cL_passedBy) (maxL := 4) (ret := some .int) (hh := [(0, 9, 12, 21)]) (by decide) rfl (Nat.le_of_ble_eq_true rfl) ?_
  intro p e s m below meth c ls S hr hlocks htab hB hl
  obtain ⟨⟨hsz, hP, hK, hD0⟩, hZ, hN⟩ := hB
  subst hsz
  have hD := hD0.self (sz := s.heap.size)
  have hA : ∀ q : Nat, s.heap.size ≤ q → (va_A (gO E a σ q9 f) s.heap.size) q := fun q h => Or.inr h
  have hS : va_S (va_A (gO E a σ q9 f) s.heap.size) s.heap s.heap [] := va_S.rf
  obtain ⟨hx, hb, hml, hown, hts⟩ := id S
  have hl : lv_has ls 4 [(0, .ref (a 0)), (1, .int pp), (2, .ref q9)] := hl
  refine lv_aload_n hx hb dL_passedBy_0 rfl (lv_at hl 2 rfl) ?_
  refine lv_iconst (v := 0) hx hb dL_passedBy_1 (by decide) ?_
  refine lv_aload_n hx hb dL_passedBy_2 rfl (lv_at hl 0 rfl) ?_
  refine lv_iload_n hx hb dL_passedBy_3 rfl (lv_at hl 1 rfl) ?_
  refine g0xo (A := (va_A (gO E a σ q9 f) s.heap.size)) (As := [.int pp]) (rest := [.int 0, .ref q9]) S (x_passedBy l hfl E a σ pp h) (cwV 1 hts gL_passedBy_X0_passedBy rfl rfl rfl hdX0_passedBy ⟨Nat.le_of_ble_eq_true rfl, Nat.le_of_ble_eq_true rfl⟩) hK hP hZ rfl hl.1 rfl (Nat.le_of_ble_eq_true rfl) ⟨Nat.le_of_ble_eq_true rfl, Nat.le_of_ble_eq_true rfl⟩ dL_passedBy_4 [] ⟨0, 9, 12, 21⟩ [] (htab.trans rfl) (ps_nil (U := fun _ => True)) (by decide) (by decide) (hts (.classLink RL 21 "java/lang/IndexOutOfBoundsException") (by decide +kernel)) (by decide +kernel) (fun q H locs hP hS => ?_)
  refine lv_astore_n (lv' := [(3, .ref q), (0, .ref (a 0)), (1, .int pp), (2, .ref q9)]) hx hb dL_passedBy_12 rfl hl (by decide) rfl (fun ls hl => ?_)
  refine lv_iconst (v := 1) hx hb dL_passedBy_13 (by decide) ?_
  exact W.iret hx hb hr (fun t ht hW => ⟨⟨_, (), rfl, rfl, by show gP E _ t.heap; rw [ht]; exact hP⟩, hS.F ht⟩) hS.2.2 dL_passedBy_14
theorem hdL_placeOf : yL_placeOf.cls ≠ "java/lang/invoke/MethodHandle" ∧ yL_placeOf.cls ≠ "java/lang/invoke/VarHandle" ∧ (parseMethodDescriptor yL_placeOf.desc).map (fun d => d.parameters.length) = some 3 := by decide +kernel
set_option maxHeartbeats 4000000 in
set_option maxRecDepth 100000 in
theorem w_placeOf (l : Launch) (E : GE) (a : Nat → Nat) (σ : GS) (q9 : Nat) (f : Nat → Int64) (sz : Nat) (k : Nat) (hn : gk σ ≤ 8) (hk : k < gk σ) : Met l yL_placeOf wsL_placeOf { frames := 10, cells := 1, slots := 6, locals := 300 } (va_Pc [.ref (a 0), .int (nI k), .ref q9] (gBy E sz (gO E a σ q9 f))) (gQi E 0 (gO E a σ q9 f) (gO E a σ q9 (vp_updL f 0 ((nI (gst σ k)).toInt64))) sz) 1 6 (va_A (gO E a σ q9 f) sz) := by
  refine w_met2 (cc := cL_placeOf) (maxL := 4) (ret := some .int) (hh := [(0, 9, 12, 21)]) (by decide) rfl (Nat.le_of_ble_eq_true rfl) ?_
  intro p e s m below meth c ls S hr hlocks htab hB hl
  obtain ⟨⟨hsz, hP, hK, hD0⟩, hZ, hN⟩ := hB
  subst hsz
  have hD := hD0.self (sz := s.heap.size)
  have hA : ∀ q : Nat, s.heap.size ≤ q → (va_A (gO E a σ q9 f) s.heap.size) q := fun q h => Or.inr h
  have hS : va_S (va_A (gO E a σ q9 f) s.heap.size) s.heap s.heap [] := va_S.rf
  obtain ⟨hx, hb, hml, hown, hts⟩ := id S
  have hl : lv_has ls 4 [(0, .ref (a 0)), (1, .int (nI k)), (2, .ref q9)] := hl
  refine lv_aload_n hx hb dL_placeOf_0 rfl (lv_at hl 2 rfl) ?_
  refine lv_iconst (v := 0) hx hb dL_placeOf_1 (by decide) ?_
  refine lv_aload_n hx hb dL_placeOf_2 rfl (lv_at hl 0 rfl) ?_
  refine lv_iload_n hx hb dL_placeOf_3 rfl (lv_at hl 1 rfl) ?_
  refine g0i (As := [.int (nI k)]) (rest := [.int 0, .ref q9]) S (c_placeOf l E a σ k hn hk) (cwV 1 hts gL_placeOf_X0_placeOf rfl rfl rfl hdX0_placeOf ⟨Nat.le_of_ble_eq_true rfl, Nat.le_of_ble_eq_true rfl⟩) hK (gO_l hP) rfl hl.1 rfl (Nat.le_of_ble_eq_true rfl) ⟨Nat.zero_le _, Nat.zero_le _⟩ dL_placeOf_4 ?_
  refine lv_i2l hx hb dL_placeOf_7 rfl ?_
  refine g_lst hx hb hK hP hD hS 14 rfl (f' := vp_updL f 0 ((nI (gst σ k)).toInt64)) (i := nI 0) (vp_in_nI (by decide) (by decide)) (g_clL (k := 0) (by decide) rfl) dL_placeOf_8 (fun H locs hP hD hS => ?_)
  refine lv_goto (tgt := 15) hx hb dL_placeOf_9 (by decide) ?_
  refine lv_iconst (v := 0) hx hb dL_placeOf_15 (by decide) ?_
  refine W.widen (k := 1) (n := 6) (by omega) (by omega) ?_
  exact W.iret hx hb hr (fun t ht hW => ⟨⟨_, (), rfl, rfl, by show gP E _ t.heap; rw [ht]; exact hP⟩, hS.F ht⟩) hS.2.2 dL_placeOf_16
set_option maxHeartbeats 4000000 in
set_option maxRecDepth 100000 in
theorem w_placeOf_1 (l : Launch) (hfl : l.stackTraces = false) (E : GE) (a : Nat → Nat) (σ : GS) (q9 : Nat) (f : Nat → Int64) (sz : Nat) (pp : Int32) (h : gSb σ pp) : Met l yL_placeOf wsL_placeOf { frames := 10, cells := 1, slots := 6, locals := 300 } (va_Pc [.ref (a 0), .int pp, .ref q9] (gBy E sz (gO E a σ q9 f))) (gQi E 1 (gO E a σ q9 f) (gO E a σ q9 f) sz) 1 6 (va_A (gO E a σ q9 f) sz) := by
  refine w_met2 (cc := cL_placeOf) (maxL := 4) (ret := some .int) (hh := [(0, 9, 12, 21)]) (by decide) rfl (Nat.le_of_ble_eq_true rfl) ?_
  intro p e s m below meth c ls S hr hlocks htab hB hl
  obtain ⟨⟨hsz, hP, hK, hD0⟩, hZ, hN⟩ := hB
  subst hsz
  have hD := hD0.self (sz := s.heap.size)
  have hA : ∀ q : Nat, s.heap.size ≤ q → (va_A (gO E a σ q9 f) s.heap.size) q := fun q h => Or.inr h
  have hS : va_S (va_A (gO E a σ q9 f) s.heap.size) s.heap s.heap [] := va_S.rf
  obtain ⟨hx, hb, hml, hown, hts⟩ := id S
  have hl : lv_has ls 4 [(0, .ref (a 0)), (1, .int pp), (2, .ref q9)] := hl
  refine lv_aload_n hx hb dL_placeOf_0 rfl (lv_at hl 2 rfl) ?_
  refine lv_iconst (v := 0) hx hb dL_placeOf_1 (by decide) ?_
  refine lv_aload_n hx hb dL_placeOf_2 rfl (lv_at hl 0 rfl) ?_
  refine lv_iload_n hx hb dL_placeOf_3 rfl (lv_at hl 1 rfl) ?_
  refine g0xo (A := (va_A (gO E a σ q9 f) s.heap.size)) (As := [.int pp]) (rest := [.int 0, .ref q9]) S (x_placeOf l hfl E a σ pp h) (cwV 1 hts gL_placeOf_X0_placeOf rfl rfl rfl hdX0_placeOf ⟨Nat.le_of_ble_eq_true rfl, Nat.le_of_ble_eq_true rfl⟩) hK hP hZ rfl hl.1 rfl (Nat.le_of_ble_eq_true rfl) ⟨Nat.le_of_ble_eq_true rfl, Nat.le_of_ble_eq_true rfl⟩ dL_placeOf_4 [] ⟨0, 9, 12, 21⟩ [] (htab.trans rfl) (ps_nil (U := fun _ => True)) (by decide) (by decide) (hts (.classLink RL 21 "java/lang/IndexOutOfBoundsException") (by decide +kernel)) (by decide +kernel) (fun q H locs hP hS => ?_)
  refine lv_astore_n (lv' := [(3, .ref q), (0, .ref (a 0)), (1, .int pp), (2, .ref q9)]) hx hb dL_placeOf_12 rfl hl (by decide) rfl (fun ls hl => ?_)
  refine lv_iconst (v := 1) hx hb dL_placeOf_13 (by decide) ?_
  exact W.iret hx hb hr (fun t ht hW => ⟨⟨_, (), rfl, rfl, by show gP E _ t.heap; rw [ht]; exact hP⟩, hS.F ht⟩) hS.2.2 dL_placeOf_14
theorem hdL_planLeadsTo : yL_planLeadsTo.cls ≠ "java/lang/invoke/MethodHandle" ∧ yL_planLeadsTo.cls ≠ "java/lang/invoke/VarHandle" ∧ (parseMethodDescriptor yL_planLeadsTo.desc).map (fun d => d.parameters.length) = some 3 := by decide +kernel
set_option maxHeartbeats 4000000 in
set_option maxRecDepth 100000 in
theorem w_planLeadsTo (l : Launch) (E : GE) (a : Nat → Nat) (σ : GS) (q9 : Nat) (f : Nat → Int64) (sz : Nat) (hO : GOK σ) (k : Nat) (hk : k < gn σ) : Met l yL_planLeadsTo wsL_planLeadsTo { frames := 10, cells := 1, slots := 6, locals := 300 } (va_Pc [.ref (a 0), .int (nI k), .ref q9] (gBy E sz (gO E a σ q9 f))) (gQi E 0 (gO E a σ q9 f) (gO E a σ q9 (vp_updL f 0 ((nI (gLd σ 40 k)).toInt64))) sz) 1 6 (va_A (gO E a σ q9 f) sz) := by
  refine w_met2 (cc := cL_planLeadsTo) (maxL := 4) (ret := some .int) (hh := [(0, 9, 12, 21)]) (by decide) rfl (Nat.le_of_ble_eq_true rfl) ?_
  intro p e s m below meth c ls S hr hlocks htab hB hl
  obtain ⟨⟨hsz, hP, hK, hD0⟩, hZ, hN⟩ := hB
  subst hsz
  have hD := hD0.self (sz := s.heap.size)
  have hA : ∀ q : Nat, s.heap.size ≤ q → (va_A (gO E a σ q9 f) s.heap.size) q := fun q h => Or.inr h
  have hS : va_S (va_A (gO E a σ q9 f) s.heap.size) s.heap s.heap [] := va_S.rf
  obtain ⟨hx, hb, hml, hown, hts⟩ := id S
  have hl : lv_has ls 4 [(0, .ref (a 0)), (1, .int (nI k)), (2, .ref q9)] := hl
  refine lv_aload_n hx hb dL_planLeadsTo_0 rfl (lv_at hl 2 rfl) ?_
  refine lv_iconst (v := 0) hx hb dL_planLeadsTo_1 (by decide) ?_
  refine lv_aload_n hx hb dL_planLeadsTo_2 rfl (lv_at hl 0 rfl) ?_
  refine lv_iload_n hx hb dL_planLeadsTo_3 rfl (lv_at hl 1 rfl) ?_
  refine g0i (As := [.int (nI k)]) (rest := [.int 0, .ref q9]) S (c_planLeadsTo l E a σ hO k hk) (cwV 1 hts gL_planLeadsTo_X0_planLeadsTo rfl rfl rfl hdX0_planLeadsTo ⟨Nat.le_of_ble_eq_true rfl, Nat.le_of_ble_eq_true rfl⟩) hK (gO_l hP) rfl hl.1 rfl (Nat.le_of_ble_eq_true rfl) ⟨Nat.zero_le _, Nat.zero_le _⟩ dL_planLeadsTo_4 ?_
  refine lv_i2l hx hb dL_planLeadsTo_7 rfl ?_
  refine g_lst hx hb hK hP hD hS 14 rfl (f' := vp_updL f 0 ((nI (gLd σ 40 k)).toInt64)) (i := nI 0) (vp_in_nI (by decide) (by decide)) (g_clL (k := 0) (by decide) rfl) dL_planLeadsTo_8 (fun H locs hP hD hS => ?_)
  refine lv_goto (tgt := 15) hx hb dL_planLeadsTo_9 (by decide) ?_
  refine lv_iconst (v := 0) hx hb dL_planLeadsTo_15 (by decide) ?_
  refine W.widen (k := 1) (n := 6) (by omega) (by omega) ?_
  exact W.iret hx hb hr (fun t ht hW => ⟨⟨_, (), rfl, rfl, by show gP E _ t.heap; rw [ht]; exact hP⟩, hS.F ht⟩) hS.2.2 dL_planLeadsTo_16
set_option maxHeartbeats 4000000 in
set_option maxRecDepth 100000 in
theorem w_planLeadsTo_1 (l : Launch) (hfl : l.stackTraces = false) (E : GE) (a : Nat → Nat) (σ : GS) (q9 : Nat) (f : Nat → Int64) (sz : Nat) (pp : Int32) (h : gPb σ pp) : Met l yL_planLeadsTo wsL_planLeadsTo { frames := 10, cells := 1, slots := 6, locals := 300 } (va_Pc [.ref (a 0), .int pp, .ref q9] (gBy E sz (gO E a σ q9 f))) (gQi E 1 (gO E a σ q9 f) (gO E a σ q9 f) sz) 1 6 (va_A (gO E a σ q9 f) sz) := by
  refine w_met2 (cc := cL_planLeadsTo) (maxL := 4) (ret := some .int) (hh := [(0, 9, 12, 21)]) (by decide) rfl (Nat.le_of_ble_eq_true rfl) ?_
  intro p e s m below meth c ls S hr hlocks htab hB hl
  obtain ⟨⟨hsz, hP, hK, hD0⟩, hZ, hN⟩ := hB
  subst hsz
  have hD := hD0.self (sz := s.heap.size)
  have hA : ∀ q : Nat, s.heap.size ≤ q → (va_A (gO E a σ q9 f) s.heap.size) q := fun q h => Or.inr h
  have hS : va_S (va_A (gO E a σ q9 f) s.heap.size) s.heap s.heap [] := va_S.rf
  obtain ⟨hx, hb, hml, hown, hts⟩ := id S
  have hl : lv_has ls 4 [(0, .ref (a 0)), (1, .int pp), (2, .ref q9)] := hl
  refine lv_aload_n hx hb dL_planLeadsTo_0 rfl (lv_at hl 2 rfl) ?_
  refine lv_iconst (v := 0) hx hb dL_planLeadsTo_1 (by decide) ?_
  refine lv_aload_n hx hb dL_planLeadsTo_2 rfl (lv_at hl 0 rfl) ?_
  refine lv_iload_n hx hb dL_planLeadsTo_3 rfl (lv_at hl 1 rfl) ?_
  refine g0xo (A := (va_A (gO E a σ q9 f) s.heap.size)) (As := [.int pp]) (rest := [.int 0, .ref q9]) S (x_planLeadsTo l hfl E a σ pp h) (cwV 1 hts gL_planLeadsTo_X0_planLeadsTo rfl rfl rfl hdX0_planLeadsTo ⟨Nat.le_of_ble_eq_true rfl, Nat.le_of_ble_eq_true rfl⟩) hK hP hZ rfl hl.1 rfl (Nat.le_of_ble_eq_true rfl) ⟨Nat.le_of_ble_eq_true rfl, Nat.le_of_ble_eq_true rfl⟩ dL_planLeadsTo_4 [] ⟨0, 9, 12, 21⟩ [] (htab.trans rfl) (ps_nil (U := fun _ => True)) (by decide) (by decide) (hts (.classLink RL 21 "java/lang/IndexOutOfBoundsException") (by decide +kernel)) (by decide +kernel) (fun q H locs hP hS => ?_)
  refine lv_astore_n (lv' := [(3, .ref q), (0, .ref (a 0)), (1, .int pp), (2, .ref q9)]) hx hb dL_planLeadsTo_12 rfl hl (by decide) rfl (fun ls hl => ?_)
  refine lv_iconst (v := 1) hx hb dL_planLeadsTo_13 (by decide) ?_
  exact W.iret hx hb hr (fun t ht hW => ⟨⟨_, (), rfl, rfl, by show gP E _ t.heap; rw [ht]; exact hP⟩, hS.F ht⟩) hS.2.2 dL_planLeadsTo_14
theorem hdL_planTurnsRight : yL_planTurnsRight.cls ≠ "java/lang/invoke/MethodHandle" ∧ yL_planTurnsRight.cls ≠ "java/lang/invoke/VarHandle" ∧ (parseMethodDescriptor yL_planTurnsRight.desc).map (fun d => d.parameters.length) = some 3 := by decide +kernel
set_option maxHeartbeats 4000000 in
set_option maxRecDepth 100000 in
theorem w_planTurnsRight (l : Launch) (E : GE) (a : Nat → Nat) (σ : GS) (q9 : Nat) (f : Nat → Int64) (sz : Nat) (hO : GOK σ) (k : Nat) (hk : k < gn σ) (hE : gEx (ge σ) k = false) : Met l yL_planTurnsRight wsL_planTurnsRight { frames := 10, cells := 1, slots := 6, locals := 300 } (va_Pc [.ref (a 0), .int (nI k), .ref q9] (gBy E sz (gO E a σ q9 f))) (gQi E 0 (gO E a σ q9 f) (gO E a σ q9 (vp_updL f 0 (bl (gPl σ k)))) sz) 1 6 (va_A (gO E a σ q9 f) sz) := by
  refine w_met2 (cc := cL_planTurnsRight) (maxL := 4) (ret := some .int) (hh := [(0, 16, 19, 21)]) (by decide) rfl (Nat.le_of_ble_eq_true rfl) ?_
  intro p e s m below meth c ls S hr hlocks htab hB hl
  obtain ⟨⟨hsz, hP, hK, hD0⟩, hZ, hN⟩ := hB
  subst hsz
  have hD := hD0.self (sz := s.heap.size)
  have hA : ∀ q : Nat, s.heap.size ≤ q → (va_A (gO E a σ q9 f) s.heap.size) q := fun q h => Or.inr h
  have hS : va_S (va_A (gO E a σ q9 f) s.heap.size) s.heap s.heap [] := va_S.rf
  obtain ⟨hx, hb, hml, hown, hts⟩ := id S
  have hl : lv_has ls 4 [(0, .ref (a 0)), (1, .int (nI k)), (2, .ref q9)] := hl
  refine lv_aload_n hx hb dL_planTurnsRight_0 rfl (lv_at hl 2 rfl) ?_
  refine lv_iconst (v := 0) hx hb dL_planTurnsRight_1 (by decide) ?_
  refine lv_aload_n hx hb dL_planTurnsRight_2 rfl (lv_at hl 0 rfl) ?_
  refine lv_iload_n hx hb dL_planTurnsRight_3 rfl (lv_at hl 1 rfl) ?_
  refine g0i (As := [.int (nI k)]) (rest := [.int 0, .ref q9]) S (c_planTurnsRight l E a σ hO k hk hE) (cwV 1 hts gL_planTurnsRight_X0_planTurnsRight rfl rfl rfl hdX0_planTurnsRight ⟨Nat.le_of_ble_eq_true rfl, Nat.le_of_ble_eq_true rfl⟩) hK (gO_l hP) rfl hl.1 rfl (Nat.le_of_ble_eq_true rfl) ⟨Nat.zero_le _, Nat.zero_le _⟩ dL_planTurnsRight_4 ?_
  refine lv_if_eq (tgt := 14) hx hb dL_planTurnsRight_7 (by decide) (fun c7 => ?_) (fun c7 => ?_)
  · refine lv_lconst (v := 0) hx hb dL_planTurnsRight_14 (by decide) ?_
    refine g_lst hx hb hK hP hD hS 14 rfl (f' := vp_updL f 0 0) (i := nI 0) (vp_in_nI (by decide) (by decide)) (g_clL (k := 0) (by decide) rfl) dL_planTurnsRight_15 (fun H locs hP hD hS => ?_)
    refine lv_goto (tgt := 22) hx hb dL_planTurnsRight_16 (by decide) ?_
    refine lv_iconst (v := 0) hx hb dL_planTurnsRight_22 (by decide) ?_
    refine W.widen (k := 1) (n := 6) (by omega) (by omega) ?_
    exact W.iret hx hb hr (fun t ht hW => ⟨⟨_, (), rfl, rfl, by show gP E _ t.heap; rw [ht]; first | (rw [bl, b2i_eq0.mp c7]; exact hP) | (rw [bl, b2i_ne0.mp c7]; exact hP)⟩, hS.F ht⟩) hS.2.2 dL_planTurnsRight_23
  · refine lv_lconst (v := 1) hx hb dL_planTurnsRight_10 (by decide) ?_
    refine lv_goto (tgt := 15) hx hb dL_planTurnsRight_11 (by decide) ?_
    refine g_lst hx hb hK hP hD hS 14 rfl (f' := vp_updL f 0 1) (i := nI 0) (vp_in_nI (by decide) (by decide)) (g_clL (k := 0) (by decide) rfl) dL_planTurnsRight_15 (fun H locs hP hD hS => ?_)
    refine lv_goto (tgt := 22) hx hb dL_planTurnsRight_16 (by decide) ?_
    refine lv_iconst (v := 0) hx hb dL_planTurnsRight_22 (by decide) ?_
    refine W.widen (k := 1) (n := 6) (by omega) (by omega) ?_
    exact W.iret hx hb hr (fun t ht hW => ⟨⟨_, (), rfl, rfl, by show gP E _ t.heap; rw [ht]; first | (rw [bl, b2i_eq0.mp c7]; exact hP) | (rw [bl, b2i_ne0.mp c7]; exact hP)⟩, hS.F ht⟩) hS.2.2 dL_planTurnsRight_23
set_option maxHeartbeats 4000000 in
set_option maxRecDepth 100000 in
theorem w_planTurnsRight_1 (l : Launch) (hfl : l.stackTraces = false) (E : GE) (a : Nat → Nat) (σ : GS) (q9 : Nat) (f : Nat → Int64) (sz : Nat) (hn : gn σ ≤ 40) (pp : Int32) (h : gNF σ pp) : Met l yL_planTurnsRight wsL_planTurnsRight { frames := 10, cells := 1, slots := 6, locals := 300 } (va_Pc [.ref (a 0), .int pp, .ref q9] (gBy E sz (gO E a σ q9 f))) (gQi E 1 (gO E a σ q9 f) (gO E a σ q9 f) sz) 1 6 (va_A (gO E a σ q9 f) sz) := by
  refine w_met2 (cc := cL_planTurnsRight) (maxL := 4) (ret := some .int) (hh := [(0, 16, 19, 21)]) (by decide) rfl (Nat.le_of_ble_eq_true rfl) ?_
  intro p e s m below meth c ls S hr hlocks htab hB hl
  obtain ⟨⟨hsz, hP, hK, hD0⟩, hZ, hN⟩ := hB
  subst hsz
  have hD := hD0.self (sz := s.heap.size)
  have hA : ∀ q : Nat, s.heap.size ≤ q → (va_A (gO E a σ q9 f) s.heap.size) q := fun q h => Or.inr h
  have hS : va_S (va_A (gO E a σ q9 f) s.heap.size) s.heap s.heap [] := va_S.rf
  obtain ⟨hx, hb, hml, hown, hts⟩ := id S
  have hl : lv_has ls 4 [(0, .ref (a 0)), (1, .int pp), (2, .ref q9)] := hl
  refine lv_aload_n hx hb dL_planTurnsRight_0 rfl (lv_at hl 2 rfl) ?_
  refine lv_iconst (v := 0) hx hb dL_planTurnsRight_1 (by decide) ?_
  refine lv_aload_n hx hb dL_planTurnsRight_2 rfl (lv_at hl 0 rfl) ?_
  refine lv_iload_n hx hb dL_planTurnsRight_3 rfl (lv_at hl 1 rfl) ?_
  refine g0xo (A := (va_A (gO E a σ q9 f) s.heap.size)) (As := [.int pp]) (rest := [.int 0, .ref q9]) S (x_planTurnsRight l hfl E a σ hn pp h) (cwV 1 hts gL_planTurnsRight_X0_planTurnsRight rfl rfl rfl hdX0_planTurnsRight ⟨Nat.le_of_ble_eq_true rfl, Nat.le_of_ble_eq_true rfl⟩) hK hP hZ rfl hl.1 rfl (Nat.le_of_ble_eq_true rfl) ⟨Nat.le_of_ble_eq_true rfl, Nat.le_of_ble_eq_true rfl⟩ dL_planTurnsRight_4 [] ⟨0, 16, 19, 21⟩ [] (htab.trans rfl) (ps_nil (U := fun _ => True)) (by decide) (by decide) (hts (.classLink RL 21 "java/lang/IndexOutOfBoundsException") (by decide +kernel)) (by decide +kernel) (fun q H locs hP hS => ?_)
  refine lv_astore_n (lv' := [(3, .ref q), (0, .ref (a 0)), (1, .int pp), (2, .ref q9)]) hx hb dL_planTurnsRight_19 rfl hl (by decide) rfl (fun ls hl => ?_)
  refine lv_iconst (v := 1) hx hb dL_planTurnsRight_20 (by decide) ?_
  exact W.iret hx hb hr (fun t ht hW => ⟨⟨_, (), rfl, rfl, by show gP E _ t.heap; rw [ht]; exact hP⟩, hS.F ht⟩) hS.2.2 dL_planTurnsRight_21
theorem hdL_reaches : yL_reaches.cls ≠ "java/lang/invoke/MethodHandle" ∧ yL_reaches.cls ≠ "java/lang/invoke/VarHandle" ∧ (parseMethodDescriptor yL_reaches.desc).map (fun d => d.parameters.length) = some 4 := by decide +kernel
set_option maxHeartbeats 4000000 in
set_option maxRecDepth 100000 in
theorem w_reaches (l : Launch) (E : GE) (a : Nat → Nat) (σ : GS) (q9 : Nat) (f : Nat → Int64) (sz : Nat) (k : Nat) (hn : gn σ ≤ 40) (hk : k < gn σ) (k2 : Nat) (hk2 : k2 < gn σ) : Met l yL_reaches wsL_reaches { frames := 10, cells := 1, slots := 6, locals := 300 } (va_Pc [.ref (a 0), .int (nI k), .int (nI k2), .ref q9] (gBy E sz (gO E a σ q9 f))) (gQi E 0 (gO E a σ q9 f) (gO E a σ q9 (vp_updL f 0 (bl (gEx (grb σ k) k2)))) sz) 1 6 (va_A (gO E a σ q9 f) sz) := by
  refine w_met2 (cc := cL_reaches) (maxL := 5) (ret := some .int) (hh := [(0, 17, 20, 21)]) (by decide) rfl (Nat.le_of_ble_eq_true rfl) ?_
  intro p e s m below meth c ls S hr hlocks htab hB hl
  obtain ⟨⟨hsz, hP, hK, hD0⟩, hZ, hN⟩ := hB
  subst hsz
  have hD := hD0.self (sz := s.heap.size)
  have hA : ∀ q : Nat, s.heap.size ≤ q → (va_A (gO E a σ q9 f) s.heap.size) q := fun q h => Or.inr h
  have hS : va_S (va_A (gO E a σ q9 f) s.heap.size) s.heap s.heap [] := va_S.rf
  obtain ⟨hx, hb, hml, hown, hts⟩ := id S
  have hl : lv_has ls 5 [(0, .ref (a 0)), (1, .int (nI k)), (2, .int (nI k2)), (3, .ref q9)] := hl
  refine lv_aload_n hx hb dL_reaches_0 rfl (lv_at hl 3 rfl) ?_
  refine lv_iconst (v := 0) hx hb dL_reaches_1 (by decide) ?_
  refine lv_aload_n hx hb dL_reaches_2 rfl (lv_at hl 0 rfl) ?_
  refine lv_iload_n hx hb dL_reaches_3 rfl (lv_at hl 1 rfl) ?_
  refine lv_iload_n hx hb dL_reaches_4 rfl (lv_at hl 2 rfl) ?_
  refine g0i (As := [.int (nI k), .int (nI k2)]) (rest := [.int 0, .ref q9]) S (c_reaches l E a σ k hn hk k2 hk2) (cwV 2 hts gL_reaches_X0_reaches rfl rfl rfl hdX0_reaches ⟨Nat.le_of_ble_eq_true rfl, Nat.le_of_ble_eq_true rfl⟩) hK (gO_l hP) rfl hl.1 rfl (Nat.le_of_ble_eq_true rfl) ⟨Nat.zero_le _, Nat.zero_le _⟩ dL_reaches_5 ?_
  refine lv_if_eq (tgt := 15) hx hb dL_reaches_8 (by decide) (fun c8 => ?_) (fun c8 => ?_)
  · refine lv_lconst (v := 0) hx hb dL_reaches_15 (by decide) ?_
    refine g_lst hx hb hK hP hD hS 14 rfl (f' := vp_updL f 0 0) (i := nI 0) (vp_in_nI (by decide) (by decide)) (g_clL (k := 0) (by decide) rfl) dL_reaches_16 (fun H locs hP hD hS => ?_)
    refine lv_goto (tgt := 24) hx hb dL_reaches_17 (by decide) ?_
    refine lv_iconst (v := 0) hx hb dL_reaches_24 (by decide) ?_
    refine W.widen (k := 1) (n := 6) (by omega) (by omega) ?_
    exact W.iret hx hb hr (fun t ht hW => ⟨⟨_, (), rfl, rfl, by show gP E _ t.heap; rw [ht]; first | (rw [bl, b2i_eq0.mp c8]; exact hP) | (rw [bl, b2i_ne0.mp c8]; exact hP)⟩, hS.F ht⟩) hS.2.2 dL_reaches_25
  · refine lv_lconst (v := 1) hx hb dL_reaches_11 (by decide) ?_
    refine lv_goto (tgt := 16) hx hb dL_reaches_12 (by decide) ?_
    refine g_lst hx hb hK hP hD hS 14 rfl (f' := vp_updL f 0 1) (i := nI 0) (vp_in_nI (by decide) (by decide)) (g_clL (k := 0) (by decide) rfl) dL_reaches_16 (fun H locs hP hD hS => ?_)
    refine lv_goto (tgt := 24) hx hb dL_reaches_17 (by decide) ?_
    refine lv_iconst (v := 0) hx hb dL_reaches_24 (by decide) ?_
    refine W.widen (k := 1) (n := 6) (by omega) (by omega) ?_
    exact W.iret hx hb hr (fun t ht hW => ⟨⟨_, (), rfl, rfl, by show gP E _ t.heap; rw [ht]; first | (rw [bl, b2i_eq0.mp c8]; exact hP) | (rw [bl, b2i_ne0.mp c8]; exact hP)⟩, hS.F ht⟩) hS.2.2 dL_reaches_25
set_option maxHeartbeats 4000000 in
set_option maxRecDepth 100000 in
theorem w_reaches_1 (l : Launch) (hfl : l.stackTraces = false) (E : GE) (a : Nat → Nat) (σ : GS) (q9 : Nat) (f : Nat → Int64) (sz : Nat) (pp qq : Int32) (h : gPb σ pp) : Met l yL_reaches wsL_reaches { frames := 10, cells := 1, slots := 6, locals := 300 } (va_Pc [.ref (a 0), .int pp, .int qq, .ref q9] (gBy E sz (gO E a σ q9 f))) (gQi E 1 (gO E a σ q9 f) (gO E a σ q9 f) sz) 1 6 (va_A (gO E a σ q9 f) sz) := by
  refine w_met2 (cc := cL_reaches) (maxL := 5) (ret := some .int) (hh := [(0, 17, 20, 21)]) (by decide) rfl (Nat.le_of_ble_eq_true rfl) ?_
  intro p e s m below meth c ls S hr hlocks htab hB hl
  obtain ⟨⟨hsz, hP, hK, hD0⟩, hZ, hN⟩ := hB
  subst hsz
  have hD := hD0.self (sz := s.heap.size)
  have hA : ∀ q : Nat, s.heap.size ≤ q → (va_A (gO E a σ q9 f) s.heap.size) q := fun q h => Or.inr h
  have hS : va_S (va_A (gO E a σ q9 f) s.heap.size) s.heap s.heap [] := va_S.rf
  obtain ⟨hx, hb, hml, hown, hts⟩ := id S
  have hl : lv_has ls 5 [(0, .ref (a 0)), (1, .int pp), (2, .int qq), (3, .ref q9)] := hl
  refine lv_aload_n hx hb dL_reaches_0 rfl (lv_at hl 3 rfl) ?_
  refine lv_iconst (v := 0) hx hb dL_reaches_1 (by decide) ?_
  refine lv_aload_n hx hb dL_reaches_2 rfl (lv_at hl 0 rfl) ?_
  refine lv_iload_n hx hb dL_reaches_3 rfl (lv_at hl 1 rfl) ?_
  refine lv_iload_n hx hb dL_reaches_4 rfl (lv_at hl 2 rfl) ?_
  refine g0xo (A := (va_A (gO E a σ q9 f) s.heap.size)) (As := [.int pp, .int qq]) (rest := [.int 0, .ref q9]) S (x_reaches l hfl E a σ pp qq h) (cwV 2 hts gL_reaches_X0_reaches rfl rfl rfl hdX0_reaches ⟨Nat.le_of_ble_eq_true rfl, Nat.le_of_ble_eq_true rfl⟩) hK hP hZ rfl hl.1 rfl (Nat.le_of_ble_eq_true rfl) ⟨Nat.le_of_ble_eq_true rfl, Nat.le_of_ble_eq_true rfl⟩ dL_reaches_5 [] ⟨0, 17, 20, 21⟩ [] (htab.trans rfl) (ps_nil (U := fun _ => True)) (by decide) (by decide) (hts (.classLink RL 21 "java/lang/IndexOutOfBoundsException") (by decide +kernel)) (by decide +kernel) (fun q H locs hP hS => ?_)
  refine lv_astore (lv' := [(4, .ref q), (0, .ref (a 0)), (1, .int pp), (2, .int qq), (3, .ref q9)]) hx hb dL_reaches_20 hl (by decide) rfl (fun ls hl => ?_)
  refine lv_iconst (v := 1) hx hb dL_reaches_22 (by decide) ?_
  exact W.iret hx hb hr (fun t ht hW => ⟨⟨_, (), rfl, rfl, by show gP E _ t.heap; rw [ht]; exact hP⟩, hS.F ht⟩) hS.2.2 dL_reaches_23
set_option maxHeartbeats 4000000 in
set_option maxRecDepth 100000 in
theorem w_reaches_2 (l : Launch) (hfl : l.stackTraces = false) (E : GE) (a : Nat → Nat) (σ : GS) (q9 : Nat) (f : Nat → Int64) (sz : Nat) (hn : gn σ ≤ 40) (k : Nat) (hk : k < gn σ) (qq : Int32) (h : gPb σ qq) : Met l yL_reaches wsL_reaches { frames := 10, cells := 1, slots := 6, locals := 300 } (va_Pc [.ref (a 0), .int (nI k), .int qq, .ref q9] (gBy E sz (gO E a σ q9 f))) (gQi E 1 (gO E a σ q9 f) (gO E a σ q9 f) sz) 1 6 (va_A (gO E a σ q9 f) sz) := by
  refine w_met2 (cc := cL_reaches) (maxL := 5) (ret := some .int) (hh := [(0, 17, 20, 21)]) (by decide) rfl (Nat.le_of_ble_eq_true rfl) ?_
  intro p e s m below meth c ls S hr hlocks htab hB hl
  obtain ⟨⟨hsz, hP, hK, hD0⟩, hZ, hN⟩ := hB
  subst hsz
  have hD := hD0.self (sz := s.heap.size)
  have hA : ∀ q : Nat, s.heap.size ≤ q → (va_A (gO E a σ q9 f) s.heap.size) q := fun q h => Or.inr h
  have hS : va_S (va_A (gO E a σ q9 f) s.heap.size) s.heap s.heap [] := va_S.rf
  obtain ⟨hx, hb, hml, hown, hts⟩ := id S
  have hl : lv_has ls 5 [(0, .ref (a 0)), (1, .int (nI k)), (2, .int qq), (3, .ref q9)] := hl
  refine lv_aload_n hx hb dL_reaches_0 rfl (lv_at hl 3 rfl) ?_
  refine lv_iconst (v := 0) hx hb dL_reaches_1 (by decide) ?_
  refine lv_aload_n hx hb dL_reaches_2 rfl (lv_at hl 0 rfl) ?_
  refine lv_iload_n hx hb dL_reaches_3 rfl (lv_at hl 1 rfl) ?_
  refine lv_iload_n hx hb dL_reaches_4 rfl (lv_at hl 2 rfl) ?_
  refine g0xo (A := (va_A (gO E a σ q9 f) s.heap.size)) (As := [.int (nI k), .int qq]) (rest := [.int 0, .ref q9]) S (x_reaches2 l hfl E a σ hn k hk qq h) (cwV 2 hts gL_reaches_X0_reaches rfl rfl rfl hdX0_reaches ⟨Nat.le_of_ble_eq_true rfl, Nat.le_of_ble_eq_true rfl⟩) hK hP hZ rfl hl.1 rfl (Nat.le_of_ble_eq_true rfl) ⟨Nat.le_of_ble_eq_true rfl, Nat.le_of_ble_eq_true rfl⟩ dL_reaches_5 [] ⟨0, 17, 20, 21⟩ [] (htab.trans rfl) (ps_nil (U := fun _ => True)) (by decide) (by decide) (hts (.classLink RL 21 "java/lang/IndexOutOfBoundsException") (by decide +kernel)) (by decide +kernel) (fun q H locs hP hS => ?_)
  refine lv_astore (lv' := [(4, .ref q), (0, .ref (a 0)), (1, .int (nI k)), (2, .int qq), (3, .ref q9)]) hx hb dL_reaches_20 hl (by decide) rfl (fun ls hl => ?_)
  refine lv_iconst (v := 1) hx hb dL_reaches_22 (by decide) ?_
  exact W.iret hx hb hr (fun t ht hW => ⟨⟨_, (), rfl, rfl, by show gP E _ t.heap; rw [ht]; exact hP⟩, hS.F ht⟩) hS.2.2 dL_reaches_23
theorem hdL_regretOf : yL_regretOf.cls ≠ "java/lang/invoke/MethodHandle" ∧ yL_regretOf.cls ≠ "java/lang/invoke/VarHandle" ∧ (parseMethodDescriptor yL_regretOf.desc).map (fun d => d.parameters.length) = some 3 := by decide +kernel
set_option maxHeartbeats 4000000 in
set_option maxRecDepth 100000 in
theorem w_regretOf (l : Launch) (E : GE) (a : Nat → Nat) (σ : GS) (q9 : Nat) (f : Nat → Int64) (sz : Nat) (hO : GOK σ) (k : Nat) (hk : k < gk σ) (hG : gHas σ (gst σ k) = true) : Met l yL_regretOf wsL_regretOf { frames := 10, cells := 1, slots := 6, locals := 300 } (va_Pc [.ref (a 0), .int (nI k), .ref q9] (gBy E sz (gO E a σ q9 f))) (gQi E 0 (gO E a σ q9 f) (gO E a σ q9 (vp_updL f 0 ((gRegs σ k).toInt64))) sz) 1 6 (va_A (gO E a σ q9 f) sz) := by
  refine w_met2 (cc := cL_regretOf) (maxL := 4) (ret := some .int) (hh := [(0, 9, 12, 21), (0, 9, 15, 15)]) (by decide) rfl (Nat.le_of_ble_eq_true rfl) ?_
  intro p e s m below meth c ls S hr hlocks htab hB hl
  obtain ⟨⟨hsz, hP, hK, hD0⟩, hZ, hN⟩ := hB
  subst hsz
  have hD := hD0.self (sz := s.heap.size)
  have hA : ∀ q : Nat, s.heap.size ≤ q → (va_A (gO E a σ q9 f) s.heap.size) q := fun q h => Or.inr h
  have hS : va_S (va_A (gO E a σ q9 f) s.heap.size) s.heap s.heap [] := va_S.rf
  obtain ⟨hx, hb, hml, hown, hts⟩ := id S
  have hl : lv_has ls 4 [(0, .ref (a 0)), (1, .int (nI k)), (2, .ref q9)] := hl
  refine lv_aload_n hx hb dL_regretOf_0 rfl (lv_at hl 2 rfl) ?_
  refine lv_iconst (v := 0) hx hb dL_regretOf_1 (by decide) ?_
  refine lv_aload_n hx hb dL_regretOf_2 rfl (lv_at hl 0 rfl) ?_
  refine lv_iload_n hx hb dL_regretOf_3 rfl (lv_at hl 1 rfl) ?_
  refine g0i (As := [.int (nI k)]) (rest := [.int 0, .ref q9]) S (c_regretOf l E a σ hO k hk hG) (cwV 1 hts gL_regretOf_X0_regretOf rfl rfl rfl hdX0_regretOf ⟨Nat.le_of_ble_eq_true rfl, Nat.le_of_ble_eq_true rfl⟩) hK (gO_l hP) rfl hl.1 rfl (Nat.le_of_ble_eq_true rfl) ⟨Nat.zero_le _, Nat.zero_le _⟩ dL_regretOf_4 ?_
  refine lv_i2l hx hb dL_regretOf_7 rfl ?_
  refine g_lst hx hb hK hP hD hS 14 rfl (f' := vp_updL f 0 ((gRegs σ k).toInt64)) (i := nI 0) (vp_in_nI (by decide) (by decide)) (g_clL (k := 0) (by decide) rfl) dL_regretOf_8 (fun H locs hP hD hS => ?_)
  refine lv_goto (tgt := 18) hx hb dL_regretOf_9 (by decide) ?_
  refine lv_iconst (v := 0) hx hb dL_regretOf_18 (by decide) ?_
  refine W.widen (k := 1) (n := 6) (by omega) (by omega) ?_
  exact W.iret hx hb hr (fun t ht hW => ⟨⟨_, (), rfl, rfl, by show gP E _ t.heap; rw [ht]; exact hP⟩, hS.F ht⟩) hS.2.2 dL_regretOf_19
set_option maxHeartbeats 4000000 in
set_option maxRecDepth 100000 in
theorem w_regretOf_1 (l : Launch) (hfl : l.stackTraces = false) (E : GE) (a : Nat → Nat) (σ : GS) (q9 : Nat) (f : Nat → Int64) (sz : Nat) (pp : Int32) (h : gSb σ pp) : Met l yL_regretOf wsL_regretOf { frames := 10, cells := 1, slots := 6, locals := 300 } (va_Pc [.ref (a 0), .int pp, .ref q9] (gBy E sz (gO E a σ q9 f))) (gQi E 1 (gO E a σ q9 f) (gO E a σ q9 f) sz) 1 6 (va_A (gO E a σ q9 f) sz) := by
  refine w_met2 (cc := cL_regretOf) (maxL := 4) (ret := some .int) (hh := [(0, 9, 12, 21), (0, 9, 15, 15)]) (by decide) rfl (Nat.le_of_ble_eq_true rfl) ?_
  intro p e s m below meth c ls S hr hlocks htab hB hl
  obtain ⟨⟨hsz, hP, hK, hD0⟩, hZ, hN⟩ := hB
  subst hsz
  have hD := hD0.self (sz := s.heap.size)
  have hA : ∀ q : Nat, s.heap.size ≤ q → (va_A (gO E a σ q9 f) s.heap.size) q := fun q h => Or.inr h
  have hS : va_S (va_A (gO E a σ q9 f) s.heap.size) s.heap s.heap [] := va_S.rf
  obtain ⟨hx, hb, hml, hown, hts⟩ := id S
  have hl : lv_has ls 4 [(0, .ref (a 0)), (1, .int pp), (2, .ref q9)] := hl
  refine lv_aload_n hx hb dL_regretOf_0 rfl (lv_at hl 2 rfl) ?_
  refine lv_iconst (v := 0) hx hb dL_regretOf_1 (by decide) ?_
  refine lv_aload_n hx hb dL_regretOf_2 rfl (lv_at hl 0 rfl) ?_
  refine lv_iload_n hx hb dL_regretOf_3 rfl (lv_at hl 1 rfl) ?_
  refine g0xo (A := (va_A (gO E a σ q9 f) s.heap.size)) (As := [.int pp]) (rest := [.int 0, .ref q9]) S (x_regretOf l hfl E a σ pp h) (cwV 1 hts gL_regretOf_X0_regretOf rfl rfl rfl hdX0_regretOf ⟨Nat.le_of_ble_eq_true rfl, Nat.le_of_ble_eq_true rfl⟩) hK hP hZ rfl hl.1 rfl (Nat.le_of_ble_eq_true rfl) ⟨Nat.le_of_ble_eq_true rfl, Nat.le_of_ble_eq_true rfl⟩ dL_regretOf_4 [] ⟨0, 9, 12, 21⟩ [⟨0, 9, 15, 15⟩] (htab.trans rfl) (ps_nil (U := fun _ => True)) (by decide) (by decide) (hts (.classLink RL 21 "java/lang/IndexOutOfBoundsException") (by decide +kernel)) (by decide +kernel) (fun q H locs hP hS => ?_)
  refine lv_astore_n (lv' := [(3, .ref q), (0, .ref (a 0)), (1, .int pp), (2, .ref q9)]) hx hb dL_regretOf_12 rfl hl (by decide) rfl (fun ls hl => ?_)
  refine lv_iconst (v := 1) hx hb dL_regretOf_13 (by decide) ?_
  exact W.iret hx hb hr (fun t ht hW => ⟨⟨_, (), rfl, rfl, by show gP E _ t.heap; rw [ht]; exact hP⟩, hS.F ht⟩) hS.2.2 dL_regretOf_14
set_option maxHeartbeats 4000000 in
set_option maxRecDepth 100000 in
theorem w_regretOf_2 (l : Launch) (hfl : l.stackTraces = false) (E : GE) (a : Nat → Nat) (σ : GS) (q9 : Nat) (f : Nat → Int64) (sz : Nat) (hO : GOK σ) (k : Nat) (hk : k < gk σ) (hG : gHas σ (gst σ k) = false) : Met l yL_regretOf wsL_regretOf { frames := 10, cells := 1, slots := 6, locals := 300 } (va_Pc [.ref (a 0), .int (nI k), .ref q9] (gBy E sz (gO E a σ q9 f))) (gQi E 2 (gO E a σ q9 f) (gO E a σ q9 f) sz) 1 6 (va_A (gO E a σ q9 f) sz) := by
  refine w_met2 (cc := cL_regretOf) (maxL := 4) (ret := some .int) (hh := [(0, 9, 12, 21), (0, 9, 15, 15)]) (by decide) rfl (Nat.le_of_ble_eq_true rfl) ?_
  intro p e s m below meth c ls S hr hlocks htab hB hl
  obtain ⟨⟨hsz, hP, hK, hD0⟩, hZ, hN⟩ := hB
  subst hsz
  have hD := hD0.self (sz := s.heap.size)
  have hA : ∀ q : Nat, s.heap.size ≤ q → (va_A (gO E a σ q9 f) s.heap.size) q := fun q h => Or.inr h
  have hS : va_S (va_A (gO E a σ q9 f) s.heap.size) s.heap s.heap [] := va_S.rf
  obtain ⟨hx, hb, hml, hown, hts⟩ := id S
  have hl : lv_has ls 4 [(0, .ref (a 0)), (1, .int (nI k)), (2, .ref q9)] := hl
  refine lv_aload_n hx hb dL_regretOf_0 rfl (lv_at hl 2 rfl) ?_
  refine lv_iconst (v := 0) hx hb dL_regretOf_1 (by decide) ?_
  refine lv_aload_n hx hb dL_regretOf_2 rfl (lv_at hl 0 rfl) ?_
  refine lv_iload_n hx hb dL_regretOf_3 rfl (lv_at hl 1 rfl) ?_
  refine g0xo (A := (va_A (gO E a σ q9 f) s.heap.size)) (As := [.int (nI k)]) (rest := [.int 0, .ref q9]) S (x_regretOf2 l hfl E a σ hO k hk hG) (cwV 1 hts gL_regretOf_X0_regretOf rfl rfl rfl hdX0_regretOf ⟨Nat.le_of_ble_eq_true rfl, Nat.le_of_ble_eq_true rfl⟩) hK hP hZ rfl hl.1 rfl (Nat.le_of_ble_eq_true rfl) ⟨Nat.le_of_ble_eq_true rfl, Nat.le_of_ble_eq_true rfl⟩ dL_regretOf_4 [⟨0, 9, 12, 21⟩] ⟨0, 9, 15, 15⟩ [] (htab.trans rfl) (ps_cons (by decide) (hts (.classLink RL 21 "java/lang/IndexOutOfBoundsException") (by decide +kernel)) hN.2.2 (ps_nil (U := fun _ => True))) (by decide) (by decide) (hts (.classLink RL 15 "java/lang/IllegalStateException") (by decide +kernel)) (by decide +kernel) (fun q H locs hP hS => ?_)
  refine lv_astore_n (lv' := [(3, .ref q), (0, .ref (a 0)), (1, .int (nI k)), (2, .ref q9)]) hx hb dL_regretOf_15 rfl hl (by decide) rfl (fun ls hl => ?_)
  refine lv_iconst (v := 2) hx hb dL_regretOf_16 (by decide) ?_
  exact W.iret hx hb hr (fun t ht hW => ⟨⟨_, (), rfl, rfl, by show gP E _ t.heap; rw [ht]; exact hP⟩, hS.F ht⟩) hS.2.2 dL_regretOf_17
theorem hdL_rightOf : yL_rightOf.cls ≠ "java/lang/invoke/MethodHandle" ∧ yL_rightOf.cls ≠ "java/lang/invoke/VarHandle" ∧ (parseMethodDescriptor yL_rightOf.desc).map (fun d => d.parameters.length) = some 3 := by decide +kernel
set_option maxHeartbeats 4000000 in
set_option maxRecDepth 100000 in
theorem w_rightOf (l : Launch) (E : GE) (a : Nat → Nat) (σ : GS) (q9 : Nat) (f : Nat → Int64) (sz : Nat) (k : Nat) (hn : gn σ ≤ 40) (hk : k < gn σ) (hE : gEx (ge σ) k = false) : Met l yL_rightOf wsL_rightOf { frames := 10, cells := 1, slots := 6, locals := 300 } (va_Pc [.ref (a 0), .int (nI k), .ref q9] (gBy E sz (gO E a σ q9 f))) (gQi E 0 (gO E a σ q9 f) (gO E a σ q9 (vp_updL f 0 ((nI (grt σ k)).toInt64))) sz) 1 6 (va_A (gO E a σ q9 f) sz) := by
  refine w_met2 (cc := cL_rightOf) (maxL := 4) (ret := some .int) (hh := [(0, 9, 12, 21)]) (by decide) rfl (Nat.le_of_ble_eq_true rfl) ?_
  intro p e s m below meth c ls S hr hlocks htab hB hl
  obtain ⟨⟨hsz, hP, hK, hD0⟩, hZ, hN⟩ := hB
  subst hsz
  have hD := hD0.self (sz := s.heap.size)
  have hA : ∀ q : Nat, s.heap.size ≤ q → (va_A (gO E a σ q9 f) s.heap.size) q := fun q h => Or.inr h
  have hS : va_S (va_A (gO E a σ q9 f) s.heap.size) s.heap s.heap [] := va_S.rf
  obtain ⟨hx, hb, hml, hown, hts⟩ := id S
  have hl : lv_has ls 4 [(0, .ref (a 0)), (1, .int (nI k)), (2, .ref q9)] := hl
  refine lv_aload_n hx hb dL_rightOf_0 rfl (lv_at hl 2 rfl) ?_
  refine lv_iconst (v := 0) hx hb dL_rightOf_1 (by decide) ?_
  refine lv_aload_n hx hb dL_rightOf_2 rfl (lv_at hl 0 rfl) ?_
  refine lv_iload_n hx hb dL_rightOf_3 rfl (lv_at hl 1 rfl) ?_
  refine g0i (As := [.int (nI k)]) (rest := [.int 0, .ref q9]) S (c_rightOf l E a σ k hn hk hE) (cwV 1 hts gL_rightOf_X0_rightOf rfl rfl rfl hdX0_rightOf ⟨Nat.le_of_ble_eq_true rfl, Nat.le_of_ble_eq_true rfl⟩) hK (gO_l hP) rfl hl.1 rfl (Nat.le_of_ble_eq_true rfl) ⟨Nat.zero_le _, Nat.zero_le _⟩ dL_rightOf_4 ?_
  refine lv_i2l hx hb dL_rightOf_7 rfl ?_
  refine g_lst hx hb hK hP hD hS 14 rfl (f' := vp_updL f 0 ((nI (grt σ k)).toInt64)) (i := nI 0) (vp_in_nI (by decide) (by decide)) (g_clL (k := 0) (by decide) rfl) dL_rightOf_8 (fun H locs hP hD hS => ?_)
  refine lv_goto (tgt := 15) hx hb dL_rightOf_9 (by decide) ?_
  refine lv_iconst (v := 0) hx hb dL_rightOf_15 (by decide) ?_
  refine W.widen (k := 1) (n := 6) (by omega) (by omega) ?_
  exact W.iret hx hb hr (fun t ht hW => ⟨⟨_, (), rfl, rfl, by show gP E _ t.heap; rw [ht]; exact hP⟩, hS.F ht⟩) hS.2.2 dL_rightOf_16
set_option maxHeartbeats 4000000 in
set_option maxRecDepth 100000 in
theorem w_rightOf_1 (l : Launch) (hfl : l.stackTraces = false) (E : GE) (a : Nat → Nat) (σ : GS) (q9 : Nat) (f : Nat → Int64) (sz : Nat) (hn : gn σ ≤ 40) (pp : Int32) (h : gNF σ pp) : Met l yL_rightOf wsL_rightOf { frames := 10, cells := 1, slots := 6, locals := 300 } (va_Pc [.ref (a 0), .int pp, .ref q9] (gBy E sz (gO E a σ q9 f))) (gQi E 1 (gO E a σ q9 f) (gO E a σ q9 f) sz) 1 6 (va_A (gO E a σ q9 f) sz) := by
  refine w_met2 (cc := cL_rightOf) (maxL := 4) (ret := some .int) (hh := [(0, 9, 12, 21)]) (by decide) rfl (Nat.le_of_ble_eq_true rfl) ?_
  intro p e s m below meth c ls S hr hlocks htab hB hl
  obtain ⟨⟨hsz, hP, hK, hD0⟩, hZ, hN⟩ := hB
  subst hsz
  have hD := hD0.self (sz := s.heap.size)
  have hA : ∀ q : Nat, s.heap.size ≤ q → (va_A (gO E a σ q9 f) s.heap.size) q := fun q h => Or.inr h
  have hS : va_S (va_A (gO E a σ q9 f) s.heap.size) s.heap s.heap [] := va_S.rf
  obtain ⟨hx, hb, hml, hown, hts⟩ := id S
  have hl : lv_has ls 4 [(0, .ref (a 0)), (1, .int pp), (2, .ref q9)] := hl
  refine lv_aload_n hx hb dL_rightOf_0 rfl (lv_at hl 2 rfl) ?_
  refine lv_iconst (v := 0) hx hb dL_rightOf_1 (by decide) ?_
  refine lv_aload_n hx hb dL_rightOf_2 rfl (lv_at hl 0 rfl) ?_
  refine lv_iload_n hx hb dL_rightOf_3 rfl (lv_at hl 1 rfl) ?_
  refine g0xo (A := (va_A (gO E a σ q9 f) s.heap.size)) (As := [.int pp]) (rest := [.int 0, .ref q9]) S (x_rightOf l hfl E a σ hn pp h) (cwV 1 hts gL_rightOf_X0_rightOf rfl rfl rfl hdX0_rightOf ⟨Nat.le_of_ble_eq_true rfl, Nat.le_of_ble_eq_true rfl⟩) hK hP hZ rfl hl.1 rfl (Nat.le_of_ble_eq_true rfl) ⟨Nat.le_of_ble_eq_true rfl, Nat.le_of_ble_eq_true rfl⟩ dL_rightOf_4 [] ⟨0, 9, 12, 21⟩ [] (htab.trans rfl) (ps_nil (U := fun _ => True)) (by decide) (by decide) (hts (.classLink RL 21 "java/lang/IndexOutOfBoundsException") (by decide +kernel)) (by decide +kernel) (fun q H locs hP hS => ?_)
  refine lv_astore_n (lv' := [(3, .ref q), (0, .ref (a 0)), (1, .int pp), (2, .ref q9)]) hx hb dL_rightOf_12 rfl hl (by decide) rfl (fun ls hl => ?_)
  refine lv_iconst (v := 1) hx hb dL_rightOf_13 (by decide) ?_
  exact W.iret hx hb hr (fun t ht hW => ⟨⟨_, (), rfl, rfl, by show gP E _ t.heap; rw [ht]; exact hP⟩, hS.F ht⟩) hS.2.2 dL_rightOf_14
theorem hdL_risk : yL_risk.cls ≠ "java/lang/invoke/MethodHandle" ∧ yL_risk.cls ≠ "java/lang/invoke/VarHandle" ∧ (parseMethodDescriptor yL_risk.desc).map (fun d => d.parameters.length) = some 4 := by decide +kernel
set_option maxHeartbeats 4000000 in
set_option maxRecDepth 100000 in
theorem w_risk (l : Launch) (E : GE) (a : Nat → Nat) (σ : GS) (q9 : Nat) (f : Nat → Int64) (sz : Nat) (hO : GOK σ) (k : Nat) (hk : k < gn σ) (hE : gEx (ge σ) k = false) (b : Bool) : Met l yL_risk wsL_risk { frames := 10, cells := 1, slots := 6, locals := 300 } (va_Pc [.ref (a 0), .int (nI k), .int (b2i b), .ref q9] (gBy E sz (gO E a σ q9 f))) (gQi E 0 (gO E a σ q9 f) (gO E a σ q9 (vp_updL f 0 ((gRisk σ k b).toInt64))) sz) 1 6 (va_A (gO E a σ q9 f) sz) := by
  refine w_met2 (cc := cL_risk) (maxL := 5) (ret := some .int) (hh := [(0, 10, 13, 21)]) (by decide) rfl (Nat.le_of_ble_eq_true rfl) ?_
  intro p e s m below meth c ls S hr hlocks htab hB hl
  obtain ⟨⟨hsz, hP, hK, hD0⟩, hZ, hN⟩ := hB
  subst hsz
  have hD := hD0.self (sz := s.heap.size)
  have hA : ∀ q : Nat, s.heap.size ≤ q → (va_A (gO E a σ q9 f) s.heap.size) q := fun q h => Or.inr h
  have hS : va_S (va_A (gO E a σ q9 f) s.heap.size) s.heap s.heap [] := va_S.rf
  obtain ⟨hx, hb, hml, hown, hts⟩ := id S
  have hl : lv_has ls 5 [(0, .ref (a 0)), (1, .int (nI k)), (2, .int (b2i b)), (3, .ref q9)] := hl
  refine lv_aload_n hx hb dL_risk_0 rfl (lv_at hl 3 rfl) ?_
  refine lv_iconst (v := 0) hx hb dL_risk_1 (by decide) ?_
  refine lv_aload_n hx hb dL_risk_2 rfl (lv_at hl 0 rfl) ?_
  refine lv_iload_n hx hb dL_risk_3 rfl (lv_at hl 1 rfl) ?_
  refine lv_iload_n hx hb dL_risk_4 rfl (lv_at hl 2 rfl) ?_
  refine g0i (As := [.int (nI k), .int (b2i b)]) (rest := [.int 0, .ref q9]) S (c_risk l E a σ hO k hk hE b) (cwV 2 hts gL_risk_X0_risk rfl rfl rfl hdX0_risk ⟨Nat.le_of_ble_eq_true rfl, Nat.le_of_ble_eq_true rfl⟩) hK (gO_l hP) rfl hl.1 rfl (Nat.le_of_ble_eq_true rfl) ⟨Nat.zero_le _, Nat.zero_le _⟩ dL_risk_5 ?_
  refine lv_i2l hx hb dL_risk_8 rfl ?_
  refine g_lst hx hb hK hP hD hS 14 rfl (f' := vp_updL f 0 ((gRisk σ k b).toInt64)) (i := nI 0) (vp_in_nI (by decide) (by decide)) (g_clL (k := 0) (by decide) rfl) dL_risk_9 (fun H locs hP hD hS => ?_)
  refine lv_goto (tgt := 17) hx hb dL_risk_10 (by decide) ?_
  refine lv_iconst (v := 0) hx hb dL_risk_17 (by decide) ?_
  refine W.widen (k := 1) (n := 6) (by omega) (by omega) ?_
  exact W.iret hx hb hr (fun t ht hW => ⟨⟨_, (), rfl, rfl, by show gP E _ t.heap; rw [ht]; exact hP⟩, hS.F ht⟩) hS.2.2 dL_risk_18
set_option maxHeartbeats 4000000 in
set_option maxRecDepth 100000 in
theorem w_risk_1 (l : Launch) (hfl : l.stackTraces = false) (E : GE) (a : Nat → Nat) (σ : GS) (q9 : Nat) (f : Nat → Int64) (sz : Nat) (hn : gn σ ≤ 40) (pp b : Int32) (h : gNF σ pp) : Met l yL_risk wsL_risk { frames := 10, cells := 1, slots := 6, locals := 300 } (va_Pc [.ref (a 0), .int pp, .int b, .ref q9] (gBy E sz (gO E a σ q9 f))) (gQi E 1 (gO E a σ q9 f) (gO E a σ q9 f) sz) 1 6 (va_A (gO E a σ q9 f) sz) := by
  refine w_met2 (cc := cL_risk) (maxL := 5) (ret := some .int) (hh := [(0, 10, 13, 21)]) (by decide) rfl (Nat.le_of_ble_eq_true rfl) ?_
  intro p e s m below meth c ls S hr hlocks htab hB hl
  obtain ⟨⟨hsz, hP, hK, hD0⟩, hZ, hN⟩ := hB
  subst hsz
  have hD := hD0.self (sz := s.heap.size)
  have hA : ∀ q : Nat, s.heap.size ≤ q → (va_A (gO E a σ q9 f) s.heap.size) q := fun q h => Or.inr h
  have hS : va_S (va_A (gO E a σ q9 f) s.heap.size) s.heap s.heap [] := va_S.rf
  obtain ⟨hx, hb, hml, hown, hts⟩ := id S
  have hl : lv_has ls 5 [(0, .ref (a 0)), (1, .int pp), (2, .int b), (3, .ref q9)] := hl
  refine lv_aload_n hx hb dL_risk_0 rfl (lv_at hl 3 rfl) ?_
  refine lv_iconst (v := 0) hx hb dL_risk_1 (by decide) ?_
  refine lv_aload_n hx hb dL_risk_2 rfl (lv_at hl 0 rfl) ?_
  refine lv_iload_n hx hb dL_risk_3 rfl (lv_at hl 1 rfl) ?_
  refine lv_iload_n hx hb dL_risk_4 rfl (lv_at hl 2 rfl) ?_
  refine g0xo (A := (va_A (gO E a σ q9 f) s.heap.size)) (As := [.int pp, .int b]) (rest := [.int 0, .ref q9]) S (x_risk l hfl E a σ hn pp b h) (cwV 2 hts gL_risk_X0_risk rfl rfl rfl hdX0_risk ⟨Nat.le_of_ble_eq_true rfl, Nat.le_of_ble_eq_true rfl⟩) hK hP hZ rfl hl.1 rfl (Nat.le_of_ble_eq_true rfl) ⟨Nat.le_of_ble_eq_true rfl, Nat.le_of_ble_eq_true rfl⟩ dL_risk_5 [] ⟨0, 10, 13, 21⟩ [] (htab.trans rfl) (ps_nil (U := fun _ => True)) (by decide) (by decide) (hts (.classLink RL 21 "java/lang/IndexOutOfBoundsException") (by decide +kernel)) (by decide +kernel) (fun q H locs hP hS => ?_)
  refine lv_astore (lv' := [(4, .ref q), (0, .ref (a 0)), (1, .int pp), (2, .int b), (3, .ref q9)]) hx hb dL_risk_13 hl (by decide) rfl (fun ls hl => ?_)
  refine lv_iconst (v := 1) hx hb dL_risk_15 (by decide) ?_
  exact W.iret hx hb hr (fun t ht hW => ⟨⟨_, (), rfl, rfl, by show gP E _ t.heap; rw [ht]; exact hP⟩, hS.F ht⟩) hS.2.2 dL_risk_16
theorem hdL_sureGrade : yL_sureGrade.cls ≠ "java/lang/invoke/MethodHandle" ∧ yL_sureGrade.cls ≠ "java/lang/invoke/VarHandle" ∧ (parseMethodDescriptor yL_sureGrade.desc).map (fun d => d.parameters.length) = some 3 := by decide +kernel
set_option maxHeartbeats 4000000 in
set_option maxRecDepth 100000 in
theorem w_sureGrade (l : Launch) (E : GE) (a : Nat → Nat) (σ : GS) (q9 : Nat) (f : Nat → Int64) (sz : Nat) (k : Nat) (hn : gn σ ≤ 40) (hk : k < gn σ) : Met l yL_sureGrade wsL_sureGrade { frames := 10, cells := 1, slots := 6, locals := 300 } (va_Pc [.ref (a 0), .int (nI k), .ref q9] (gBy E sz (gO E a σ q9 f))) (gQi E 0 (gO E a σ q9 f) (gO E a σ q9 (vp_updL f 0 ((gsu σ k).toInt64))) sz) 1 6 (va_A (gO E a σ q9 f) sz) := by
  refine w_met2 (cc := cL_sureGrade) (maxL := 4) (ret := some .int) (hh := [(0, 9, 12, 21)]) (by decide) rfl (Nat.le_of_ble_eq_true rfl) ?_
  intro p e s m below meth c ls S hr hlocks htab hB hl
  obtain ⟨⟨hsz, hP, hK, hD0⟩, hZ, hN⟩ := hB
  subst hsz
  have hD := hD0.self (sz := s.heap.size)
  have hA : ∀ q : Nat, s.heap.size ≤ q → (va_A (gO E a σ q9 f) s.heap.size) q := fun q h => Or.inr h
  have hS : va_S (va_A (gO E a σ q9 f) s.heap.size) s.heap s.heap [] := va_S.rf
  obtain ⟨hx, hb, hml, hown, hts⟩ := id S
  have hl : lv_has ls 4 [(0, .ref (a 0)), (1, .int (nI k)), (2, .ref q9)] := hl
  refine lv_aload_n hx hb dL_sureGrade_0 rfl (lv_at hl 2 rfl) ?_
  refine lv_iconst (v := 0) hx hb dL_sureGrade_1 (by decide) ?_
  refine lv_aload_n hx hb dL_sureGrade_2 rfl (lv_at hl 0 rfl) ?_
  refine lv_iload_n hx hb dL_sureGrade_3 rfl (lv_at hl 1 rfl) ?_
  refine g0i (As := [.int (nI k)]) (rest := [.int 0, .ref q9]) S (c_sureGrade l E a σ k hn hk) (cwV 1 hts gL_sureGrade_X0_sureGrade rfl rfl rfl hdX0_sureGrade ⟨Nat.le_of_ble_eq_true rfl, Nat.le_of_ble_eq_true rfl⟩) hK (gO_l hP) rfl hl.1 rfl (Nat.le_of_ble_eq_true rfl) ⟨Nat.zero_le _, Nat.zero_le _⟩ dL_sureGrade_4 ?_
  refine lv_i2l hx hb dL_sureGrade_7 rfl ?_
  refine g_lst hx hb hK hP hD hS 14 rfl (f' := vp_updL f 0 ((gsu σ k).toInt64)) (i := nI 0) (vp_in_nI (by decide) (by decide)) (g_clL (k := 0) (by decide) rfl) dL_sureGrade_8 (fun H locs hP hD hS => ?_)
  refine lv_goto (tgt := 15) hx hb dL_sureGrade_9 (by decide) ?_
  refine lv_iconst (v := 0) hx hb dL_sureGrade_15 (by decide) ?_
  refine W.widen (k := 1) (n := 6) (by omega) (by omega) ?_
  exact W.iret hx hb hr (fun t ht hW => ⟨⟨_, (), rfl, rfl, by show gP E _ t.heap; rw [ht]; exact hP⟩, hS.F ht⟩) hS.2.2 dL_sureGrade_16
set_option maxHeartbeats 4000000 in
set_option maxRecDepth 100000 in
theorem w_sureGrade_1 (l : Launch) (hfl : l.stackTraces = false) (E : GE) (a : Nat → Nat) (σ : GS) (q9 : Nat) (f : Nat → Int64) (sz : Nat) (pp : Int32) (h : gPb σ pp) : Met l yL_sureGrade wsL_sureGrade { frames := 10, cells := 1, slots := 6, locals := 300 } (va_Pc [.ref (a 0), .int pp, .ref q9] (gBy E sz (gO E a σ q9 f))) (gQi E 1 (gO E a σ q9 f) (gO E a σ q9 f) sz) 1 6 (va_A (gO E a σ q9 f) sz) := by
  refine w_met2 (cc := cL_sureGrade) (maxL := 4) (ret := some .int) (hh := [(0, 9, 12, 21)]) (by decide) rfl (Nat.le_of_ble_eq_true rfl) ?_
  intro p e s m below meth c ls S hr hlocks htab hB hl
  obtain ⟨⟨hsz, hP, hK, hD0⟩, hZ, hN⟩ := hB
  subst hsz
  have hD := hD0.self (sz := s.heap.size)
  have hA : ∀ q : Nat, s.heap.size ≤ q → (va_A (gO E a σ q9 f) s.heap.size) q := fun q h => Or.inr h
  have hS : va_S (va_A (gO E a σ q9 f) s.heap.size) s.heap s.heap [] := va_S.rf
  obtain ⟨hx, hb, hml, hown, hts⟩ := id S
  have hl : lv_has ls 4 [(0, .ref (a 0)), (1, .int pp), (2, .ref q9)] := hl
  refine lv_aload_n hx hb dL_sureGrade_0 rfl (lv_at hl 2 rfl) ?_
  refine lv_iconst (v := 0) hx hb dL_sureGrade_1 (by decide) ?_
  refine lv_aload_n hx hb dL_sureGrade_2 rfl (lv_at hl 0 rfl) ?_
  refine lv_iload_n hx hb dL_sureGrade_3 rfl (lv_at hl 1 rfl) ?_
  refine g0xo (A := (va_A (gO E a σ q9 f) s.heap.size)) (As := [.int pp]) (rest := [.int 0, .ref q9]) S (x_sureGrade l hfl E a σ pp h) (cwV 1 hts gL_sureGrade_X0_sureGrade rfl rfl rfl hdX0_sureGrade ⟨Nat.le_of_ble_eq_true rfl, Nat.le_of_ble_eq_true rfl⟩) hK hP hZ rfl hl.1 rfl (Nat.le_of_ble_eq_true rfl) ⟨Nat.le_of_ble_eq_true rfl, Nat.le_of_ble_eq_true rfl⟩ dL_sureGrade_4 [] ⟨0, 9, 12, 21⟩ [] (htab.trans rfl) (ps_nil (U := fun _ => True)) (by decide) (by decide) (hts (.classLink RL 21 "java/lang/IndexOutOfBoundsException") (by decide +kernel)) (by decide +kernel) (fun q H locs hP hS => ?_)
  refine lv_astore_n (lv' := [(3, .ref q), (0, .ref (a 0)), (1, .int pp), (2, .ref q9)]) hx hb dL_sureGrade_12 rfl hl (by decide) rfl (fun ls hl => ?_)
  refine lv_iconst (v := 1) hx hb dL_sureGrade_13 (by decide) ?_
  exact W.iret hx hb hr (fun t ht hW => ⟨⟨_, (), rfl, rfl, by show gP E _ t.heap; rw [ht]; exact hP⟩, hS.F ht⟩) hS.2.2 dL_sureGrade_14
theorem hdL_turn : yL_turn.cls ≠ "java/lang/invoke/MethodHandle" ∧ yL_turn.cls ≠ "java/lang/invoke/VarHandle" ∧ (parseMethodDescriptor yL_turn.desc).map (fun d => d.parameters.length) = some 4 := by decide +kernel
set_option maxHeartbeats 4000000 in
set_option maxRecDepth 100000 in
theorem w_turn (l : Launch) (E : GE) (a : Nat → Nat) (σ : GS) (q9 : Nat) (f : Nat → Int64) (sz : Nat) (hO : GOK σ) (k : Nat) (hk : k < gk σ) (hE : gEx (ge σ) (gst σ k) = false) (b : Bool) : Met l yL_turn wsL_turn { frames := 10, cells := 1, slots := 6, locals := 300 } (va_Pc [.ref (a 0), .int (nI k), .int (b2i b), .ref q9] (gBy E sz (gO E a σ q9 f))) (gQi E 0 (gO E a σ q9 f) (gO E a (gWalk σ k b) q9 (vp_updL f 0 ((nI (gTo σ (gst σ k) b)).toInt64))) sz) 1 6 (va_A (gO E a σ q9 f) sz) := by
  refine w_met2 (cc := cL_turn) (maxL := 5) (ret := some .int) (hh := [(0, 10, 13, 21), (0, 10, 17, 15)]) (by decide) rfl (Nat.le_of_ble_eq_true rfl) ?_
  intro p e s m below meth c ls S hr hlocks htab hB hl
  obtain ⟨⟨hsz, hP, hK, hD0⟩, hZ, hN⟩ := hB
  subst hsz
  have hD := hD0.self (sz := s.heap.size)
  have hA : ∀ q : Nat, s.heap.size ≤ q → (va_A (gO E a σ q9 f) s.heap.size) q := fun q h => Or.inr h
  have hS : va_S (va_A (gO E a σ q9 f) s.heap.size) s.heap s.heap [] := va_S.rf
  obtain ⟨hx, hb, hml, hown, hts⟩ := id S
  have hl : lv_has ls 5 [(0, .ref (a 0)), (1, .int (nI k)), (2, .int (b2i b)), (3, .ref q9)] := hl
  refine lv_aload_n hx hb dL_turn_0 rfl (lv_at hl 3 rfl) ?_
  refine lv_iconst (v := 0) hx hb dL_turn_1 (by decide) ?_
  refine lv_aload_n hx hb dL_turn_2 rfl (lv_at hl 0 rfl) ?_
  refine lv_iload_n hx hb dL_turn_3 rfl (lv_at hl 1 rfl) ?_
  refine lv_iload_n hx hb dL_turn_4 rfl (lv_at hl 2 rfl) ?_
  refine g0wo (As := [.int (nI k), .int (b2i b)]) (rest := [.int 0, .ref q9]) (σ' := gWalk σ k b) S (c_turn l E a σ _ hO k hk hE b) (cwV 2 hts gL_turn_X0_turn rfl rfl rfl hdX0_turn ⟨Nat.le_of_ble_eq_true rfl, Nat.le_of_ble_eq_true rfl⟩) hK hP hD hS hA rfl hl.1 rfl (Nat.le_of_ble_eq_true rfl) ⟨Nat.zero_le _, Nat.zero_le _⟩ dL_turn_5 (fun H locs hP hD hS => ?_)
  refine lv_i2l hx hb dL_turn_8 rfl ?_
  refine g_lst hx hb hK hP hD hS 14 rfl (f' := vp_updL f 0 ((nI (gTo σ (gst σ k) b)).toInt64)) (i := nI 0) (vp_in_nI (by decide) (by decide)) (g_clL (k := 0) (by decide) rfl) dL_turn_9 (fun H locs hP hD hS => ?_)
  refine lv_goto (tgt := 21) hx hb dL_turn_10 (by decide) ?_
  refine lv_iconst (v := 0) hx hb dL_turn_21 (by decide) ?_
  refine W.widen (k := 1) (n := 6) (by omega) (by omega) ?_
  exact W.iret hx hb hr (fun t ht hW => ⟨⟨_, (), rfl, rfl, by show gP E _ t.heap; rw [ht]; exact hP⟩, hS.F ht⟩) hS.2.2 dL_turn_22
set_option maxHeartbeats 4000000 in
set_option maxRecDepth 100000 in
theorem w_turn_1 (l : Launch) (hfl : l.stackTraces = false) (E : GE) (a : Nat → Nat) (σ : GS) (q9 : Nat) (f : Nat → Int64) (sz : Nat) (pp b : Int32) (h : gSb σ pp) : Met l yL_turn wsL_turn { frames := 10, cells := 1, slots := 6, locals := 300 } (va_Pc [.ref (a 0), .int pp, .int b, .ref q9] (gBy E sz (gO E a σ q9 f))) (gQi E 1 (gO E a σ q9 f) (gO E a σ q9 f) sz) 1 6 (va_A (gO E a σ q9 f) sz) := by
  refine w_met2 (cc := cL_turn) (maxL := 5) (ret := some .int) (hh := [(0, 10, 13, 21), (0, 10, 17, 15)]) (by decide) rfl (Nat.le_of_ble_eq_true rfl) ?_
  intro p e s m below meth c ls S hr hlocks htab hB hl
  obtain ⟨⟨hsz, hP, hK, hD0⟩, hZ, hN⟩ := hB
  subst hsz
  have hD := hD0.self (sz := s.heap.size)
  have hA : ∀ q : Nat, s.heap.size ≤ q → (va_A (gO E a σ q9 f) s.heap.size) q := fun q h => Or.inr h
  have hS : va_S (va_A (gO E a σ q9 f) s.heap.size) s.heap s.heap [] := va_S.rf
  obtain ⟨hx, hb, hml, hown, hts⟩ := id S
  have hl : lv_has ls 5 [(0, .ref (a 0)), (1, .int pp), (2, .int b), (3, .ref q9)] := hl
  refine lv_aload_n hx hb dL_turn_0 rfl (lv_at hl 3 rfl) ?_
  refine lv_iconst (v := 0) hx hb dL_turn_1 (by decide) ?_
  refine lv_aload_n hx hb dL_turn_2 rfl (lv_at hl 0 rfl) ?_
  refine lv_iload_n hx hb dL_turn_3 rfl (lv_at hl 1 rfl) ?_
  refine lv_iload_n hx hb dL_turn_4 rfl (lv_at hl 2 rfl) ?_
  refine g0xo (A := (va_A (gO E a σ q9 f) s.heap.size)) (As := [.int pp, .int b]) (rest := [.int 0, .ref q9]) S (x_turn l hfl E a σ pp b h) (cwV 2 hts gL_turn_X0_turn rfl rfl rfl hdX0_turn ⟨Nat.le_of_ble_eq_true rfl, Nat.le_of_ble_eq_true rfl⟩) hK hP hZ rfl hl.1 rfl (Nat.le_of_ble_eq_true rfl) ⟨Nat.le_of_ble_eq_true rfl, Nat.le_of_ble_eq_true rfl⟩ dL_turn_5 [] ⟨0, 10, 13, 21⟩ [⟨0, 10, 17, 15⟩] (htab.trans rfl) (ps_nil (U := fun _ => True)) (by decide) (by decide) (hts (.classLink RL 21 "java/lang/IndexOutOfBoundsException") (by decide +kernel)) (by decide +kernel) (fun q H locs hP hS => ?_)
  refine lv_astore (lv' := [(4, .ref q), (0, .ref (a 0)), (1, .int pp), (2, .int b), (3, .ref q9)]) hx hb dL_turn_13 hl (by decide) rfl (fun ls hl => ?_)
  refine lv_iconst (v := 1) hx hb dL_turn_15 (by decide) ?_
  exact W.iret hx hb hr (fun t ht hW => ⟨⟨_, (), rfl, rfl, by show gP E _ t.heap; rw [ht]; exact hP⟩, hS.F ht⟩) hS.2.2 dL_turn_16
set_option maxHeartbeats 4000000 in
set_option maxRecDepth 100000 in
theorem w_turn_2 (l : Launch) (hfl : l.stackTraces = false) (E : GE) (a : Nat → Nat) (σ : GS) (q9 : Nat) (f : Nat → Int64) (sz : Nat) (hO : GOK σ) (k : Nat) (hk : k < gk σ) (b : Int32) (hE : gEx (ge σ) (gst σ k) = true) : Met l yL_turn wsL_turn { frames := 10, cells := 1, slots := 6, locals := 300 } (va_Pc [.ref (a 0), .int (nI k), .int b, .ref q9] (gBy E sz (gO E a σ q9 f))) (gQi E 2 (gO E a σ q9 f) (gO E a σ q9 f) sz) 1 6 (va_A (gO E a σ q9 f) sz) := by
  refine w_met2 (cc := cL_turn) (maxL := 5) (ret := some .int) (hh := [(0, 10, 13, 21), (0, 10, 17, 15)]) (by decide) rfl (Nat.le_of_ble_eq_true rfl) ?_
  intro p e s m below meth c ls S hr hlocks htab hB hl
  obtain ⟨⟨hsz, hP, hK, hD0⟩, hZ, hN⟩ := hB
  subst hsz
  have hD := hD0.self (sz := s.heap.size)
  have hA : ∀ q : Nat, s.heap.size ≤ q → (va_A (gO E a σ q9 f) s.heap.size) q := fun q h => Or.inr h
  have hS : va_S (va_A (gO E a σ q9 f) s.heap.size) s.heap s.heap [] := va_S.rf
  obtain ⟨hx, hb, hml, hown, hts⟩ := id S
  have hl : lv_has ls 5 [(0, .ref (a 0)), (1, .int (nI k)), (2, .int b), (3, .ref q9)] := hl
  refine lv_aload_n hx hb dL_turn_0 rfl (lv_at hl 3 rfl) ?_
  refine lv_iconst (v := 0) hx hb dL_turn_1 (by decide) ?_
  refine lv_aload_n hx hb dL_turn_2 rfl (lv_at hl 0 rfl) ?_
  refine lv_iload_n hx hb dL_turn_3 rfl (lv_at hl 1 rfl) ?_
  refine lv_iload_n hx hb dL_turn_4 rfl (lv_at hl 2 rfl) ?_
  refine g0xo (A := (va_A (gO E a σ q9 f) s.heap.size)) (As := [.int (nI k), .int b]) (rest := [.int 0, .ref q9]) S (x_turn2 l hfl E a σ hO k hk b hE) (cwV 2 hts gL_turn_X0_turn rfl rfl rfl hdX0_turn ⟨Nat.le_of_ble_eq_true rfl, Nat.le_of_ble_eq_true rfl⟩) hK hP hZ rfl hl.1 rfl (Nat.le_of_ble_eq_true rfl) ⟨Nat.le_of_ble_eq_true rfl, Nat.le_of_ble_eq_true rfl⟩ dL_turn_5 [⟨0, 10, 13, 21⟩] ⟨0, 10, 17, 15⟩ [] (htab.trans rfl) (ps_cons (by decide) (hts (.classLink RL 21 "java/lang/IndexOutOfBoundsException") (by decide +kernel)) hN.2.2 (ps_nil (U := fun _ => True))) (by decide) (by decide) (hts (.classLink RL 15 "java/lang/IllegalStateException") (by decide +kernel)) (by decide +kernel) (fun q H locs hP hS => ?_)
  refine lv_astore (lv' := [(4, .ref q), (0, .ref (a 0)), (1, .int (nI k)), (2, .int b), (3, .ref q9)]) hx hb dL_turn_17 hl (by decide) rfl (fun ls hl => ?_)
  refine lv_iconst (v := 2) hx hb dL_turn_19 (by decide) ?_
  exact W.iret hx hb hr (fun t ht hW => ⟨⟨_, (), rfl, rfl, by show gP E _ t.heap; rw [ht]; exact hP⟩, hS.F ht⟩) hS.2.2 dL_turn_20
theorem hdL_weigh : yL_weigh.cls ≠ "java/lang/invoke/MethodHandle" ∧ yL_weigh.cls ≠ "java/lang/invoke/VarHandle" ∧ (parseMethodDescriptor yL_weigh.desc).map (fun d => d.parameters.length) = some 4 := by decide +kernel
set_option maxHeartbeats 4000000 in
set_option maxRecDepth 100000 in
theorem w_weigh (l : Launch) (E : GE) (a : Nat → Nat) (σ : GS) (q9 : Nat) (f : Nat → Int64) (sz : Nat) (k : Nat) (hn : gn σ ≤ 40) (hk : k < gn σ) (hE : gEx (ge σ) k = false) (w : Int32) (h1 : ¬ w < 1) (h9 : w ≤ nI 9) : Met l yL_weigh wsL_weigh { frames := 10, cells := 1, slots := 6, locals := 300 } (va_Pc [.ref (a 0), .int (nI k), .int w, .ref q9] (gBy E sz (gO E a σ q9 f))) (gQi E 0 (gO E a σ q9 f) (gO E a (gWgh σ k w) q9 (vp_updL f 0 ((gwt σ k).toInt64))) sz) 1 6 (va_A (gO E a σ q9 f) sz) := by
  refine w_met2 (cc := cL_weigh) (maxL := 5) (ret := some .int) (hh := [(0, 10, 13, 21), (0, 10, 17, 13)]) (by decide) rfl (Nat.le_of_ble_eq_true rfl) ?_
  intro p e s m below meth c ls S hr hlocks htab hB hl
  obtain ⟨⟨hsz, hP, hK, hD0⟩, hZ, hN⟩ := hB
  subst hsz
  have hD := hD0.self (sz := s.heap.size)
  have hA : ∀ q : Nat, s.heap.size ≤ q → (va_A (gO E a σ q9 f) s.heap.size) q := fun q h => Or.inr h
  have hS : va_S (va_A (gO E a σ q9 f) s.heap.size) s.heap s.heap [] := va_S.rf
  obtain ⟨hx, hb, hml, hown, hts⟩ := id S
  have hl : lv_has ls 5 [(0, .ref (a 0)), (1, .int (nI k)), (2, .int w), (3, .ref q9)] := hl
  refine lv_aload_n hx hb dL_weigh_0 rfl (lv_at hl 3 rfl) ?_
  refine lv_iconst (v := 0) hx hb dL_weigh_1 (by decide) ?_
  refine lv_aload_n hx hb dL_weigh_2 rfl (lv_at hl 0 rfl) ?_
  refine lv_iload_n hx hb dL_weigh_3 rfl (lv_at hl 1 rfl) ?_
  refine lv_iload_n hx hb dL_weigh_4 rfl (lv_at hl 2 rfl) ?_
  refine g0wo (As := [.int (nI k), .int w]) (rest := [.int 0, .ref q9]) (σ' := gWgh σ k w) S (c_weigh l E a σ _ k hn hk hE w h1 h9) (cwV 2 hts gL_weigh_X0_weigh rfl rfl rfl hdX0_weigh ⟨Nat.le_of_ble_eq_true rfl, Nat.le_of_ble_eq_true rfl⟩) hK hP hD hS hA rfl hl.1 rfl (Nat.le_of_ble_eq_true rfl) ⟨Nat.zero_le _, Nat.zero_le _⟩ dL_weigh_5 (fun H locs hP hD hS => ?_)
  refine lv_i2l hx hb dL_weigh_8 rfl ?_
  refine g_lst hx hb hK hP hD hS 14 rfl (f' := vp_updL f 0 ((gwt σ k).toInt64)) (i := nI 0) (vp_in_nI (by decide) (by decide)) (g_clL (k := 0) (by decide) rfl) dL_weigh_9 (fun H locs hP hD hS => ?_)
  refine lv_goto (tgt := 21) hx hb dL_weigh_10 (by decide) ?_
  refine lv_iconst (v := 0) hx hb dL_weigh_21 (by decide) ?_
  refine W.widen (k := 1) (n := 6) (by omega) (by omega) ?_
  exact W.iret hx hb hr (fun t ht hW => ⟨⟨_, (), rfl, rfl, by show gP E _ t.heap; rw [ht]; exact hP⟩, hS.F ht⟩) hS.2.2 dL_weigh_22
set_option maxHeartbeats 4000000 in
set_option maxRecDepth 100000 in
theorem w_weigh_1 (l : Launch) (hfl : l.stackTraces = false) (E : GE) (a : Nat → Nat) (σ : GS) (q9 : Nat) (f : Nat → Int64) (sz : Nat) (hn : gn σ ≤ 40) (pp w0 : Int32) (h : gNF σ pp) : Met l yL_weigh wsL_weigh { frames := 10, cells := 1, slots := 6, locals := 300 } (va_Pc [.ref (a 0), .int pp, .int w0, .ref q9] (gBy E sz (gO E a σ q9 f))) (gQi E 1 (gO E a σ q9 f) (gO E a σ q9 f) sz) 1 6 (va_A (gO E a σ q9 f) sz) := by
  refine w_met2 (cc := cL_weigh) (maxL := 5) (ret := some .int) (hh := [(0, 10, 13, 21), (0, 10, 17, 13)]) (by decide) rfl (Nat.le_of_ble_eq_true rfl) ?_
  intro p e s m below meth c ls S hr hlocks htab hB hl
  obtain ⟨⟨hsz, hP, hK, hD0⟩, hZ, hN⟩ := hB
  subst hsz
  have hD := hD0.self (sz := s.heap.size)
  have hA : ∀ q : Nat, s.heap.size ≤ q → (va_A (gO E a σ q9 f) s.heap.size) q := fun q h => Or.inr h
  have hS : va_S (va_A (gO E a σ q9 f) s.heap.size) s.heap s.heap [] := va_S.rf
  obtain ⟨hx, hb, hml, hown, hts⟩ := id S
  have hl : lv_has ls 5 [(0, .ref (a 0)), (1, .int pp), (2, .int w0), (3, .ref q9)] := hl
  refine lv_aload_n hx hb dL_weigh_0 rfl (lv_at hl 3 rfl) ?_
  refine lv_iconst (v := 0) hx hb dL_weigh_1 (by decide) ?_
  refine lv_aload_n hx hb dL_weigh_2 rfl (lv_at hl 0 rfl) ?_
  refine lv_iload_n hx hb dL_weigh_3 rfl (lv_at hl 1 rfl) ?_
  refine lv_iload_n hx hb dL_weigh_4 rfl (lv_at hl 2 rfl) ?_
  refine g0xo (A := (va_A (gO E a σ q9 f) s.heap.size)) (As := [.int pp, .int w0]) (rest := [.int 0, .ref q9]) S (x_weigh l hfl E a σ hn pp w0 h) (cwV 2 hts gL_weigh_X0_weigh rfl rfl rfl hdX0_weigh ⟨Nat.le_of_ble_eq_true rfl, Nat.le_of_ble_eq_true rfl⟩) hK hP hZ rfl hl.1 rfl (Nat.le_of_ble_eq_true rfl) ⟨Nat.le_of_ble_eq_true rfl, Nat.le_of_ble_eq_true rfl⟩ dL_weigh_5 [] ⟨0, 10, 13, 21⟩ [⟨0, 10, 17, 13⟩] (htab.trans rfl) (ps_nil (U := fun _ => True)) (by decide) (by decide) (hts (.classLink RL 21 "java/lang/IndexOutOfBoundsException") (by decide +kernel)) (by decide +kernel) (fun q H locs hP hS => ?_)
  refine lv_astore (lv' := [(4, .ref q), (0, .ref (a 0)), (1, .int pp), (2, .int w0), (3, .ref q9)]) hx hb dL_weigh_13 hl (by decide) rfl (fun ls hl => ?_)
  refine lv_iconst (v := 1) hx hb dL_weigh_15 (by decide) ?_
  exact W.iret hx hb hr (fun t ht hW => ⟨⟨_, (), rfl, rfl, by show gP E _ t.heap; rw [ht]; exact hP⟩, hS.F ht⟩) hS.2.2 dL_weigh_16
set_option maxHeartbeats 4000000 in
set_option maxRecDepth 100000 in
theorem w_weigh_2 (l : Launch) (hfl : l.stackTraces = false) (E : GE) (a : Nat → Nat) (σ : GS) (q9 : Nat) (f : Nat → Int64) (sz : Nat) (hn : gn σ ≤ 40) (k : Nat) (hk : k < gn σ) (hE : gEx (ge σ) k = false) (w0 : Int32) (h : w0 < 1 ∨ nI 9 < w0) : Met l yL_weigh wsL_weigh { frames := 10, cells := 1, slots := 6, locals := 300 } (va_Pc [.ref (a 0), .int (nI k), .int w0, .ref q9] (gBy E sz (gO E a σ q9 f))) (gQi E 2 (gO E a σ q9 f) (gO E a σ q9 f) sz) 1 6 (va_A (gO E a σ q9 f) sz) := by
  refine w_met2 (cc := cL_weigh) (maxL := 5) (ret := some .int) (hh := [(0, 10, 13, 21), (0, 10, 17, 13)]) (by decide) rfl (Nat.le_of_ble_eq_true rfl) ?_
  intro p e s m below meth c ls S hr hlocks htab hB hl
  obtain ⟨⟨hsz, hP, hK, hD0⟩, hZ, hN⟩ := hB
  subst hsz
  have hD := hD0.self (sz := s.heap.size)
  have hA : ∀ q : Nat, s.heap.size ≤ q → (va_A (gO E a σ q9 f) s.heap.size) q := fun q h => Or.inr h
  have hS : va_S (va_A (gO E a σ q9 f) s.heap.size) s.heap s.heap [] := va_S.rf
  obtain ⟨hx, hb, hml, hown, hts⟩ := id S
  have hl : lv_has ls 5 [(0, .ref (a 0)), (1, .int (nI k)), (2, .int w0), (3, .ref q9)] := hl
  refine lv_aload_n hx hb dL_weigh_0 rfl (lv_at hl 3 rfl) ?_
  refine lv_iconst (v := 0) hx hb dL_weigh_1 (by decide) ?_
  refine lv_aload_n hx hb dL_weigh_2 rfl (lv_at hl 0 rfl) ?_
  refine lv_iload_n hx hb dL_weigh_3 rfl (lv_at hl 1 rfl) ?_
  refine lv_iload_n hx hb dL_weigh_4 rfl (lv_at hl 2 rfl) ?_
  refine g0xo (A := (va_A (gO E a σ q9 f) s.heap.size)) (As := [.int (nI k), .int w0]) (rest := [.int 0, .ref q9]) S (x_weigh2 l hfl E a σ hn k hk hE w0 h) (cwV 2 hts gL_weigh_X0_weigh rfl rfl rfl hdX0_weigh ⟨Nat.le_of_ble_eq_true rfl, Nat.le_of_ble_eq_true rfl⟩) hK hP hZ rfl hl.1 rfl (Nat.le_of_ble_eq_true rfl) ⟨Nat.le_of_ble_eq_true rfl, Nat.le_of_ble_eq_true rfl⟩ dL_weigh_5 [⟨0, 10, 13, 21⟩] ⟨0, 10, 17, 13⟩ [] (htab.trans rfl) (ps_cons (by decide) (hts (.classLink RL 21 "java/lang/IndexOutOfBoundsException") (by decide +kernel)) hN.2.1 (ps_nil (U := fun _ => True))) (by decide) (by decide) (hts (.classLink RL 13 "java/lang/IllegalArgumentException") (by decide +kernel)) (by decide +kernel) (fun q H locs hP hS => ?_)
  refine lv_astore (lv' := [(4, .ref q), (0, .ref (a 0)), (1, .int (nI k)), (2, .int w0), (3, .ref q9)]) hx hb dL_weigh_17 hl (by decide) rfl (fun ls hl => ?_)
  refine lv_iconst (v := 2) hx hb dL_weigh_19 (by decide) ?_
  exact W.iret hx hb hr (fun t ht hW => ⟨⟨_, (), rfl, rfl, by show gP E _ t.heap; rw [ht]; exact hP⟩, hS.F ht⟩) hS.2.2 dL_weigh_20
theorem hdL_weightOf : yL_weightOf.cls ≠ "java/lang/invoke/MethodHandle" ∧ yL_weightOf.cls ≠ "java/lang/invoke/VarHandle" ∧ (parseMethodDescriptor yL_weightOf.desc).map (fun d => d.parameters.length) = some 3 := by decide +kernel
set_option maxHeartbeats 4000000 in
set_option maxRecDepth 100000 in
theorem w_weightOf (l : Launch) (E : GE) (a : Nat → Nat) (σ : GS) (q9 : Nat) (f : Nat → Int64) (sz : Nat) (k : Nat) (hn : gn σ ≤ 40) (hk : k < gn σ) (hE : gEx (ge σ) k = false) : Met l yL_weightOf wsL_weightOf { frames := 10, cells := 1, slots := 6, locals := 300 } (va_Pc [.ref (a 0), .int (nI k), .ref q9] (gBy E sz (gO E a σ q9 f))) (gQi E 0 (gO E a σ q9 f) (gO E a σ q9 (vp_updL f 0 ((gwt σ k).toInt64))) sz) 1 6 (va_A (gO E a σ q9 f) sz) := by
  refine w_met2 (cc := cL_weightOf) (maxL := 4) (ret := some .int) (hh := [(0, 9, 12, 21)]) (by decide) rfl (Nat.le_of_ble_eq_true rfl) ?_
  intro p e s m below meth c ls S hr hlocks htab hB hl
  obtain ⟨⟨hsz, hP, hK, hD0⟩, hZ, hN⟩ := hB
  subst hsz
  have hD := hD0.self (sz := s.heap.size)
  have hA : ∀ q : Nat, s.heap.size ≤ q → (va_A (gO E a σ q9 f) s.heap.size) q := fun q h => Or.inr h
  have hS : va_S (va_A (gO E a σ q9 f) s.heap.size) s.heap s.heap [] := va_S.rf
  obtain ⟨hx, hb, hml, hown, hts⟩ := id S
  have hl : lv_has ls 4 [(0, .ref (a 0)), (1, .int (nI k)), (2, .ref q9)] := hl
  refine lv_aload_n hx hb dL_weightOf_0 rfl (lv_at hl 2 rfl) ?_
  refine lv_iconst (v := 0) hx hb dL_weightOf_1 (by decide) ?_
  refine lv_aload_n hx hb dL_weightOf_2 rfl (lv_at hl 0 rfl) ?_
  refine lv_iload_n hx hb dL_weightOf_3 rfl (lv_at hl 1 rfl) ?_
  refine g0i (As := [.int (nI k)]) (rest := [.int 0, .ref q9]) S (c_weightOf l E a σ k hn hk hE) (cwV 1 hts gL_weightOf_X0_weightOf rfl rfl rfl hdX0_weightOf ⟨Nat.le_of_ble_eq_true rfl, Nat.le_of_ble_eq_true rfl⟩) hK (gO_l hP) rfl hl.1 rfl (Nat.le_of_ble_eq_true rfl) ⟨Nat.zero_le _, Nat.zero_le _⟩ dL_weightOf_4 ?_
  refine lv_i2l hx hb dL_weightOf_7 rfl ?_
  refine g_lst hx hb hK hP hD hS 14 rfl (f' := vp_updL f 0 ((gwt σ k).toInt64)) (i := nI 0) (vp_in_nI (by decide) (by decide)) (g_clL (k := 0) (by decide) rfl) dL_weightOf_8 (fun H locs hP hD hS => ?_)
  refine lv_goto (tgt := 15) hx hb dL_weightOf_9 (by decide) ?_
  refine lv_iconst (v := 0) hx hb dL_weightOf_15 (by decide) ?_
  refine W.widen (k := 1) (n := 6) (by omega) (by omega) ?_
  exact W.iret hx hb hr (fun t ht hW => ⟨⟨_, (), rfl, rfl, by show gP E _ t.heap; rw [ht]; exact hP⟩, hS.F ht⟩) hS.2.2 dL_weightOf_16
set_option maxHeartbeats 4000000 in
set_option maxRecDepth 100000 in
theorem w_weightOf_1 (l : Launch) (hfl : l.stackTraces = false) (E : GE) (a : Nat → Nat) (σ : GS) (q9 : Nat) (f : Nat → Int64) (sz : Nat) (hn : gn σ ≤ 40) (pp : Int32) (h : gNF σ pp) : Met l yL_weightOf wsL_weightOf { frames := 10, cells := 1, slots := 6, locals := 300 } (va_Pc [.ref (a 0), .int pp, .ref q9] (gBy E sz (gO E a σ q9 f))) (gQi E 1 (gO E a σ q9 f) (gO E a σ q9 f) sz) 1 6 (va_A (gO E a σ q9 f) sz) := by
  refine w_met2 (cc := cL_weightOf) (maxL := 4) (ret := some .int) (hh := [(0, 9, 12, 21)]) (by decide) rfl (Nat.le_of_ble_eq_true rfl) ?_
  intro p e s m below meth c ls S hr hlocks htab hB hl
  obtain ⟨⟨hsz, hP, hK, hD0⟩, hZ, hN⟩ := hB
  subst hsz
  have hD := hD0.self (sz := s.heap.size)
  have hA : ∀ q : Nat, s.heap.size ≤ q → (va_A (gO E a σ q9 f) s.heap.size) q := fun q h => Or.inr h
  have hS : va_S (va_A (gO E a σ q9 f) s.heap.size) s.heap s.heap [] := va_S.rf
  obtain ⟨hx, hb, hml, hown, hts⟩ := id S
  have hl : lv_has ls 4 [(0, .ref (a 0)), (1, .int pp), (2, .ref q9)] := hl
  refine lv_aload_n hx hb dL_weightOf_0 rfl (lv_at hl 2 rfl) ?_
  refine lv_iconst (v := 0) hx hb dL_weightOf_1 (by decide) ?_
  refine lv_aload_n hx hb dL_weightOf_2 rfl (lv_at hl 0 rfl) ?_
  refine lv_iload_n hx hb dL_weightOf_3 rfl (lv_at hl 1 rfl) ?_
  refine g0xo (A := (va_A (gO E a σ q9 f) s.heap.size)) (As := [.int pp]) (rest := [.int 0, .ref q9]) S (x_weightOf l hfl E a σ hn pp h) (cwV 1 hts gL_weightOf_X0_weightOf rfl rfl rfl hdX0_weightOf ⟨Nat.le_of_ble_eq_true rfl, Nat.le_of_ble_eq_true rfl⟩) hK hP hZ rfl hl.1 rfl (Nat.le_of_ble_eq_true rfl) ⟨Nat.le_of_ble_eq_true rfl, Nat.le_of_ble_eq_true rfl⟩ dL_weightOf_4 [] ⟨0, 9, 12, 21⟩ [] (htab.trans rfl) (ps_nil (U := fun _ => True)) (by decide) (by decide) (hts (.classLink RL 21 "java/lang/IndexOutOfBoundsException") (by decide +kernel)) (by decide +kernel) (fun q H locs hP hS => ?_)
  refine lv_astore_n (lv' := [(3, .ref q), (0, .ref (a 0)), (1, .int pp), (2, .ref q9)]) hx hb dL_weightOf_12 rfl hl (by decide) rfl (fun ls hl => ?_)
  refine lv_iconst (v := 1) hx hb dL_weightOf_13 (by decide) ?_
  exact W.iret hx hb hr (fun t ht hW => ⟨⟨_, (), rfl, rfl, by show gP E _ t.heap; rw [ht]; exact hP⟩, hS.F ht⟩) hS.2.2 dL_weightOf_14
theorem hdL_worstFork : yL_worstFork.cls ≠ "java/lang/invoke/MethodHandle" ∧ yL_worstFork.cls ≠ "java/lang/invoke/VarHandle" ∧ (parseMethodDescriptor yL_worstFork.desc).map (fun d => d.parameters.length) = some 3 := by decide +kernel
set_option maxHeartbeats 4000000 in
set_option maxRecDepth 100000 in
theorem w_worstFork (l : Launch) (E : GE) (a : Nat → Nat) (σ : GS) (q9 : Nat) (f : Nat → Int64) (sz : Nat) (hO : GOK σ) (k : Nat) (hk : k < gk σ) (hG : gHas σ (gst σ k) = true) : Met l yL_worstFork wsL_worstFork { frames := 10, cells := 1, slots := 6, locals := 300 } (va_Pc [.ref (a 0), .int (nI k), .ref q9] (gBy E sz (gO E a σ q9 f))) (gQi E 0 (gO E a σ q9 f) (gO E a σ q9 (vp_updL f 0 (((gWf σ k).1).toInt64))) sz) 1 6 (va_A (gO E a σ q9 f) sz) := by
  refine w_met2 (cc := cL_worstFork) (maxL := 4) (ret := some .int) (hh := [(0, 9, 12, 21), (0, 9, 15, 15)]) (by decide) rfl (Nat.le_of_ble_eq_true rfl) ?_
  intro p e s m below meth c ls S hr hlocks htab hB hl
  obtain ⟨⟨hsz, hP, hK, hD0⟩, hZ, hN⟩ := hB
  subst hsz
  have hD := hD0.self (sz := s.heap.size)
  have hA : ∀ q : Nat, s.heap.size ≤ q → (va_A (gO E a σ q9 f) s.heap.size) q := fun q h => Or.inr h
  have hS : va_S (va_A (gO E a σ q9 f) s.heap.size) s.heap s.heap [] := va_S.rf
  obtain ⟨hx, hb, hml, hown, hts⟩ := id S
  have hl : lv_has ls 4 [(0, .ref (a 0)), (1, .int (nI k)), (2, .ref q9)] := hl
  refine lv_aload_n hx hb dL_worstFork_0 rfl (lv_at hl 2 rfl) ?_
  refine lv_iconst (v := 0) hx hb dL_worstFork_1 (by decide) ?_
  refine lv_aload_n hx hb dL_worstFork_2 rfl (lv_at hl 0 rfl) ?_
  refine lv_iload_n hx hb dL_worstFork_3 rfl (lv_at hl 1 rfl) ?_
  refine g0i (As := [.int (nI k)]) (rest := [.int 0, .ref q9]) S (c_worstFork l E a σ hO k hk hG) (cwV 1 hts gL_worstFork_X0_worstFork rfl rfl rfl hdX0_worstFork ⟨Nat.le_of_ble_eq_true rfl, Nat.le_of_ble_eq_true rfl⟩) hK (gO_l hP) rfl hl.1 rfl (Nat.le_of_ble_eq_true rfl) ⟨Nat.zero_le _, Nat.zero_le _⟩ dL_worstFork_4 ?_
  refine lv_i2l hx hb dL_worstFork_7 rfl ?_
  refine g_lst hx hb hK hP hD hS 14 rfl (f' := vp_updL f 0 (((gWf σ k).1).toInt64)) (i := nI 0) (vp_in_nI (by decide) (by decide)) (g_clL (k := 0) (by decide) rfl) dL_worstFork_8 (fun H locs hP hD hS => ?_)
  refine lv_goto (tgt := 18) hx hb dL_worstFork_9 (by decide) ?_
  refine lv_iconst (v := 0) hx hb dL_worstFork_18 (by decide) ?_
  refine W.widen (k := 1) (n := 6) (by omega) (by omega) ?_
  exact W.iret hx hb hr (fun t ht hW => ⟨⟨_, (), rfl, rfl, by show gP E _ t.heap; rw [ht]; exact hP⟩, hS.F ht⟩) hS.2.2 dL_worstFork_19
set_option maxHeartbeats 4000000 in
set_option maxRecDepth 100000 in
theorem w_worstFork_1 (l : Launch) (hfl : l.stackTraces = false) (E : GE) (a : Nat → Nat) (σ : GS) (q9 : Nat) (f : Nat → Int64) (sz : Nat) (pp : Int32) (h : gSb σ pp) : Met l yL_worstFork wsL_worstFork { frames := 10, cells := 1, slots := 6, locals := 300 } (va_Pc [.ref (a 0), .int pp, .ref q9] (gBy E sz (gO E a σ q9 f))) (gQi E 1 (gO E a σ q9 f) (gO E a σ q9 f) sz) 1 6 (va_A (gO E a σ q9 f) sz) := by
  refine w_met2 (cc := cL_worstFork) (maxL := 4) (ret := some .int) (hh := [(0, 9, 12, 21), (0, 9, 15, 15)]) (by decide) rfl (Nat.le_of_ble_eq_true rfl) ?_
  intro p e s m below meth c ls S hr hlocks htab hB hl
  obtain ⟨⟨hsz, hP, hK, hD0⟩, hZ, hN⟩ := hB
  subst hsz
  have hD := hD0.self (sz := s.heap.size)
  have hA : ∀ q : Nat, s.heap.size ≤ q → (va_A (gO E a σ q9 f) s.heap.size) q := fun q h => Or.inr h
  have hS : va_S (va_A (gO E a σ q9 f) s.heap.size) s.heap s.heap [] := va_S.rf
  obtain ⟨hx, hb, hml, hown, hts⟩ := id S
  have hl : lv_has ls 4 [(0, .ref (a 0)), (1, .int pp), (2, .ref q9)] := hl
  refine lv_aload_n hx hb dL_worstFork_0 rfl (lv_at hl 2 rfl) ?_
  refine lv_iconst (v := 0) hx hb dL_worstFork_1 (by decide) ?_
  refine lv_aload_n hx hb dL_worstFork_2 rfl (lv_at hl 0 rfl) ?_
  refine lv_iload_n hx hb dL_worstFork_3 rfl (lv_at hl 1 rfl) ?_
  refine g0xo (A := (va_A (gO E a σ q9 f) s.heap.size)) (As := [.int pp]) (rest := [.int 0, .ref q9]) S (x_worstFork l hfl E a σ pp h) (cwV 1 hts gL_worstFork_X0_worstFork rfl rfl rfl hdX0_worstFork ⟨Nat.le_of_ble_eq_true rfl, Nat.le_of_ble_eq_true rfl⟩) hK hP hZ rfl hl.1 rfl (Nat.le_of_ble_eq_true rfl) ⟨Nat.le_of_ble_eq_true rfl, Nat.le_of_ble_eq_true rfl⟩ dL_worstFork_4 [] ⟨0, 9, 12, 21⟩ [⟨0, 9, 15, 15⟩] (htab.trans rfl) (ps_nil (U := fun _ => True)) (by decide) (by decide) (hts (.classLink RL 21 "java/lang/IndexOutOfBoundsException") (by decide +kernel)) (by decide +kernel) (fun q H locs hP hS => ?_)
  refine lv_astore_n (lv' := [(3, .ref q), (0, .ref (a 0)), (1, .int pp), (2, .ref q9)]) hx hb dL_worstFork_12 rfl hl (by decide) rfl (fun ls hl => ?_)
  refine lv_iconst (v := 1) hx hb dL_worstFork_13 (by decide) ?_
  exact W.iret hx hb hr (fun t ht hW => ⟨⟨_, (), rfl, rfl, by show gP E _ t.heap; rw [ht]; exact hP⟩, hS.F ht⟩) hS.2.2 dL_worstFork_14
set_option maxHeartbeats 4000000 in
set_option maxRecDepth 100000 in
theorem w_worstFork_2 (l : Launch) (hfl : l.stackTraces = false) (E : GE) (a : Nat → Nat) (σ : GS) (q9 : Nat) (f : Nat → Int64) (sz : Nat) (hO : GOK σ) (k : Nat) (hk : k < gk σ) (hG : gHas σ (gst σ k) = false) : Met l yL_worstFork wsL_worstFork { frames := 10, cells := 1, slots := 6, locals := 300 } (va_Pc [.ref (a 0), .int (nI k), .ref q9] (gBy E sz (gO E a σ q9 f))) (gQi E 2 (gO E a σ q9 f) (gO E a σ q9 f) sz) 1 6 (va_A (gO E a σ q9 f) sz) := by
  refine w_met2 (cc := cL_worstFork) (maxL := 4) (ret := some .int) (hh := [(0, 9, 12, 21), (0, 9, 15, 15)]) (by decide) rfl (Nat.le_of_ble_eq_true rfl) ?_
  intro p e s m below meth c ls S hr hlocks htab hB hl
  obtain ⟨⟨hsz, hP, hK, hD0⟩, hZ, hN⟩ := hB
  subst hsz
  have hD := hD0.self (sz := s.heap.size)
  have hA : ∀ q : Nat, s.heap.size ≤ q → (va_A (gO E a σ q9 f) s.heap.size) q := fun q h => Or.inr h
  have hS : va_S (va_A (gO E a σ q9 f) s.heap.size) s.heap s.heap [] := va_S.rf
  obtain ⟨hx, hb, hml, hown, hts⟩ := id S
  have hl : lv_has ls 4 [(0, .ref (a 0)), (1, .int (nI k)), (2, .ref q9)] := hl
  refine lv_aload_n hx hb dL_worstFork_0 rfl (lv_at hl 2 rfl) ?_
  refine lv_iconst (v := 0) hx hb dL_worstFork_1 (by decide) ?_
  refine lv_aload_n hx hb dL_worstFork_2 rfl (lv_at hl 0 rfl) ?_
  refine lv_iload_n hx hb dL_worstFork_3 rfl (lv_at hl 1 rfl) ?_
  refine g0xo (A := (va_A (gO E a σ q9 f) s.heap.size)) (As := [.int (nI k)]) (rest := [.int 0, .ref q9]) S (x_worstFork2 l hfl E a σ hO k hk hG) (cwV 1 hts gL_worstFork_X0_worstFork rfl rfl rfl hdX0_worstFork ⟨Nat.le_of_ble_eq_true rfl, Nat.le_of_ble_eq_true rfl⟩) hK hP hZ rfl hl.1 rfl (Nat.le_of_ble_eq_true rfl) ⟨Nat.le_of_ble_eq_true rfl, Nat.le_of_ble_eq_true rfl⟩ dL_worstFork_4 [⟨0, 9, 12, 21⟩] ⟨0, 9, 15, 15⟩ [] (htab.trans rfl) (ps_cons (by decide) (hts (.classLink RL 21 "java/lang/IndexOutOfBoundsException") (by decide +kernel)) hN.2.2 (ps_nil (U := fun _ => True))) (by decide) (by decide) (hts (.classLink RL 15 "java/lang/IllegalStateException") (by decide +kernel)) (by decide +kernel) (fun q H locs hP hS => ?_)
  refine lv_astore_n (lv' := [(3, .ref q), (0, .ref (a 0)), (1, .int (nI k)), (2, .ref q9)]) hx hb dL_worstFork_15 rfl hl (by decide) rfl (fun ls hl => ?_)
  refine lv_iconst (v := 2) hx hb dL_worstFork_16 (by decide) ?_
  exact W.iret hx hb hr (fun t ht hW => ⟨⟨_, (), rfl, rfl, by show gP E _ t.heap; rw [ht]; exact hP⟩, hS.F ht⟩) hS.2.2 dL_worstFork_17
