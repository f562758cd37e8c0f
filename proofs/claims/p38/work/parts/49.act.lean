/-! the law's act: something done to both gardens -/
theorem hinL_act : ∀ w ∈ wsX10, w ∈ wsL_act := fun w h => List.mem_cons_of_mem _ (List.mem_append_left _ (List.mem_append_left _ (List.mem_append_left _ (List.mem_append_left _ (List.mem_append_right _ h)))))
abbrev aAV (a bA : Nat → Nat) (x : Int32) : List Value := [.ref (a 0), .ref (bA 0), .int x]
section ACT2
variable {p : Program} {l : Launch} {e : Env} {s : State} {m : MethodId} {below : List Frame} {meth : Method} {c : Code} {E : GE} {a bA : Nat → Nat} {σ : GS} {τA : MS} {x : Int32}

def AC (p : Program) (l : Launch) (s : State) (m : MethodId) (meth : Method) (c : Code) (E : GE) (a bA : Nat → Nat) (σ : GS) (τA : MS) (x : Int32) : Prop := CallFix p m c cL_act 10 s (aAV a bA x).toArray wsL_act RL ∧ meth.sig.returnType = some .boolean ∧ meth.locks = false ∧ c.exceptionTable.toList = tableOf aTb ∧ l.stackTraces = false ∧ gK E s ∧ gQ s ∧ gZh s s.heap ∧ LG (actA E a bA σ τA s.heap.size) E a bA σ τA s.heap ∧ RR σ τA ∧ RQ τA
abbrev aW (p : Program) (l : Launch) (e : Env) (s : State) (m : MethodId) (below : List Frame) (meth : Method) (c : Code) (E : GE) (a bA : Nat → Nat) (σ : GS) (τA : MS) (x : Int32) (H : Heap) (locs : List Loc) (cells slots pc : Nat) (ls : Array Slot) (st : List Value) : Prop := W p l e (headSpec wsL_act aRm).room s m (aAV a bA x).toArray below meth c H locs cells slots (MQ below (gQA E a bA σ τA s.heap.size) (aAV a bA x).toArray s 210 8300 (actA E a bA σ τA s.heap.size)) (F0 m pc ls st)
theorem act_end (hC : AC p l s m meth c E a bA σ τA x) {σ' : GS} {τ : MS} {b : Nat → Nat} {H : Heap} {locs : List Loc} {cells slots pc : Nat} {ls : Array Slot} (hG : LG (actA E a bA σ τA s.heap.size) E a b σ' τ H) (hO : RR σ' τ) (hq : RQ τ) (h1 : 1 ≤ mn τ) (hb0 : b 0 = bA 0) (hS : va_S (actA E a bA σ τA s.heap.size) s.heap H locs) (hc : cells ≤ 210) (hs : slots ≤ 8300) (hdg : decode cL_act pc = .ok (.ireturn, 1)) : aW p l e s m below meth c E a bA σ τA x H locs cells slots pc ls [.int 1] := by
  obtain ⟨S, hr, hlocks, htab, hfl, hK, hQ, hZ, hG0, h0, hq0⟩ := hC
  obtain ⟨hx, hb, hml, hown, hts⟩ := id S
  refine W.widen (k := 210) (n := 8300) hc hs ?_
  exact W.zret hx hb hr rfl (fun t ht hW => ⟨⟨1, (σ', τ, b), rfl, ⟨rfl, hO, hq, h1, hb0⟩, by show LG _ _ _ _ _ _ t.heap; rw [ht]; exact hG⟩, hS.F ht⟩) hS.2.2 hdg
theorem gGrd_c (σ : GS) (k : Nat) (g : Int32) : gc (gGrd σ k g) = gc σ + 1 := gSA_gc _ _ _
theorem addE_row {σ : GS} {τ : MS} (h : RR σ τ) (x y : Nat) : ∀ j, j < 4 → upd (upd (upd (upd (fun _ => 0) 0 0) 1 (nI x)) 2 (nI y)) 3 (-1) j = si_row (mAddE τ x y) (mn τ) j := by
  have f0 : mf τ (mn τ) = false := h.2.2.1 _ (Nat.le_refl _)
  intro j hj
  rcases (show j = 0 ∨ j = 1 ∨ j = 2 ∨ j = 3 by omega) with rfl | rfl | rfl | rfl
  · rw [si_r0, show mf (mAddE τ x y) (mn τ) = mf τ (mn τ) from rfl, f0]; rfl
  · rw [si_r1, show mo (mAddE τ x y) (mn τ) = x from up_s]; rfl
  · rw [si_r2, show mh (mAddE τ x y) (mn τ) = y from up_s]; rfl
  · rw [si_r3, show md (mAddE τ x y) (mn τ) = -1 from pk_us]; rfl
theorem addF_row (τ : MS) (x y : Nat) (w : Int32) : ∀ j, j < 4 → upd (upd (upd (upd (fun _ => 0) 0 1) 1 (nI x)) 2 (nI y)) 3 w j = si_row (mAddF τ x y w) (mn τ) j := by
  intro j hj
  rcases (show j = 0 ∨ j = 1 ∨ j = 2 ∨ j = 3 by omega) with rfl | rfl | rfl | rfl
  · rw [si_r0, show mf (mAddF τ x y w) (mn τ) = true from up_s]; rfl
  · rw [si_r1, show mo (mAddF τ x y w) (mn τ) = x from up_s]; rfl
  · rw [si_r2, show mh (mAddF τ x y w) (mn τ) = y from up_s]; rfl
  · rw [si_r3, show md (mAddF τ x y w) (mn τ) = w from pk_us]; rfl
set_option maxHeartbeats 4000000 in
set_option maxRecDepth 100000 in
theorem act_t146 (hC : AC p l s m meth c E a bA σ τA x) {b : Nat → Nat} {τ : MS} {H : Heap} {locs : List Loc} {cells slots : Nat} {k t y : Nat} (lo hi : Nat) (hlh : lo ≤ hi) (hhi : hi ≤ 20) (h40 : mn τA < 40) (h1 : 1 ≤ mn τ) (hG : LG (actA E a bA σ τA s.heap.size) E a b σ τ H) (h : RR (gAddE σ lo hi) τ) (hq : RQ τ) (hb0 : b 0 = bA 0) (hS : va_S (actA E a bA σ τA s.heap.size) s.heap H locs) (hc : cells ≤ 210) (hs : slots ≤ 8300) {ls : Array Slot} (hl : lv_has ls 10 [(0, .ref (a 0)), (1, .ref (b 0)), (2, .int x), (9, .int (nI hi)), (8, .int (nI lo)), (7, .int 1), (6, .int (nI y)), (5, .int (nI t)), (4, .int (nI k)), (3, .int (nI (mn τA)))]) : aW p l e s m below meth c E a bA σ τA x H locs cells slots 146 ls [] := by
  obtain ⟨S, hr, hlocks, htab, hfl, hK, hQ, hZ, hG0, h0, hq0⟩ := id hC
  obtain ⟨hx, hb, hml, hown, hts⟩ := id S
  have hts1 := hinL_act
  have n4 := h0.1.1
  have k8 := h0.1.2.1
  refine lv_aload_n hx hb dL_act_146 rfl (lv_at hl 0 rfl) ?_
  refine lv_iload hx hb dL_act_147 (lv_at hl 4 rfl) ?_
  refine lv_iload hx hb dL_act_149 (lv_at hl 3 rfl) ?_
  refine l0w (As := [.int (nI lo), .int (nI hi)]) (rest := []) (σ' := gAddE σ lo hi) S (fun sz => c_addExam l E a σ sz lo hi hlh hhi (by rw [h0.n]; exact h40)) (cwV 2 hts gL_act_X0_addExam rfl rfl rfl hdX0_addExam ⟨Nat.le_of_ble_eq_true rfl, Nat.le_of_ble_eq_true rfl⟩) hK hG hS actA_new rfl hl.1 rfl (Nat.le_of_ble_eq_true rfl) ⟨by show cells ≤ 210; omega, by show slots ≤ 8300; omega⟩ dL_act_151 (fun H locs _ _ hG hS => ?_)
  refine lv_iload_n hx hb dL_act_154 rfl (lv_at hl 9 rfl) ?_
  refine lv_icmp_ne (tgt := 167) hx hb dL_act_155 (by decide) (fun q => absurd ((congrArg nI h0.n)) q) (fun _ => ?_)
  refine lv_iload hx hb dL_act_158 (lv_at hl 5 rfl) ?_
  refine lv_if_eq (tgt := 167) hx hb dL_act_160 (by decide) (fun q => absurd q ((by decide))) (fun _ => ?_)
  refine lv_iconst (v := 1) hx hb dL_act_163 (by decide) ?_
  refine lv_goto (tgt := 168) hx hb dL_act_164 (by decide) ?_
  exact act_end hC hG h hq h1 hb0 hS hc hs dL_act_168
set_option maxHeartbeats 4000000 in
set_option maxRecDepth 100000 in
theorem act_t261 (hC : AC p l s m meth c E a bA σ τA x) {b : Nat → Nat} {τ : MS} {H : Heap} {locs : List Loc} {cells slots : Nat} {k t y : Nat} (f1 f2 w q1 : Nat) (hf1 : f1 < mn τA) (hf2 : f2 < mn τA) (hw1 : 1 ≤ w) (hw9 : w ≤ 9) (h40 : mn τA < 40) (h1 : 1 ≤ mn τ) {fo : Nat → Int32} (hW1 : gP E [(q1, gI E 4 fo)] H) (hv : fo 1 = nI f1 ∧ fo 2 = nI f2 ∧ fo 3 = nI w) (hG : LG (actA E a bA σ τA s.heap.size) E a b σ τ H) (h : RR (gAddF σ f1 f2 (nI w)) τ) (hq : RQ τ) (hb0 : b 0 = bA 0) (hS : va_S (actA E a bA σ τA s.heap.size) s.heap H locs) (hc : cells ≤ 210) (hs : slots ≤ 8300) {ls : Array Slot} (hl : lv_has ls 10 [(0, .ref (a 0)), (1, .ref (b 0)), (2, .int x), (8, .ref q1), (7, .int 1), (6, .int (nI y)), (5, .int (nI t)), (4, .int (nI k)), (3, .int (nI (mn τA)))]) : aW p l e s m below meth c E a bA σ τA x H locs cells slots 261 ls [] := by
  obtain ⟨S, hr, hlocks, htab, hfl, hK, hQ, hZ, hG0, h0, hq0⟩ := id hC
  obtain ⟨hx, hb, hml, hown, hts⟩ := id S
  have hts1 := hinL_act
  have n4 := h0.1.1
  have k8 := h0.1.2.1
  refine lv_aload_n hx hb dL_act_261 rfl (lv_at hl 0 rfl) ?_
  refine lv_aload hx hb dL_act_262 (lv_at hl 3 rfl) ?_
  refine lv_iconst (v := nI 1) hx hb dL_act_264 (by decide) ?_
  refine s_ild hx hb hK hW1 (k := 1) (by decide) (by decide) (v := nI f1) hv.1 dL_act_265 ?_
  refine lv_aload hx hb dL_act_266 (lv_at hl 3 rfl) ?_
  refine lv_iconst (v := nI 2) hx hb dL_act_268 (by decide) ?_
  refine s_ild hx hb hK hW1 (k := 2) (by decide) (by decide) (v := nI f2) hv.2.1 dL_act_269 ?_
  refine lv_aload hx hb dL_act_270 (lv_at hl 3 rfl) ?_
  refine lv_iconst (v := nI 3) hx hb dL_act_272 (by decide) ?_
  refine s_ild hx hb hK hW1 (k := 3) (by decide) (by decide) (v := nI w) hv.2.2 dL_act_273 ?_
  refine l0w (As := [.int (nI f1), .int (nI f2), .int (nI w)]) (rest := []) (σ' := gAddF σ f1 f2 (nI w)) S (fun sz => c_addFork l E a σ sz h0.gok f1 f2 (by rw [h0.n]; exact hf1) (by rw [h0.n]; exact hf2) (nI w) (fun z => Int32.not_lt.mpr (nI_le (a := 1) hw1 (by omega)) z) (nI_le hw9 (by decide)) (by rw [h0.n]; exact h40)) (cwV 3 hts gL_act_X0_addFork rfl rfl rfl hdX0_addFork ⟨Nat.le_of_ble_eq_true rfl, Nat.le_of_ble_eq_true rfl⟩) hK hG hS actA_new rfl hl.1 rfl (Nat.le_of_ble_eq_true rfl) ⟨by show cells ≤ 210; omega, by show slots ≤ 8300; omega⟩ dL_act_274 (fun H locs _ _ hG hS => ?_)
  refine lv_iload_n hx hb dL_act_277 rfl (lv_at hl 8 rfl) ?_
  refine lv_icmp_ne (tgt := 290) hx hb dL_act_278 (by decide) (fun q => absurd ((congrArg nI h0.n)) q) (fun _ => ?_)
  refine lv_iload hx hb dL_act_281 (lv_at hl 4 rfl) ?_
  refine lv_if_eq (tgt := 290) hx hb dL_act_283 (by decide) (fun q => absurd q ((by decide))) (fun _ => ?_)
  refine lv_iconst (v := 1) hx hb dL_act_286 (by decide) ?_
  refine lv_goto (tgt := 291) hx hb dL_act_287 (by decide) ?_
  exact act_end hC hG h hq h1 hb0 hS hc hs dL_act_291
set_option maxHeartbeats 4000000 in
set_option maxRecDepth 100000 in
theorem act_t366 (hC : AC p l s m meth c E a bA σ τA x) {b : Nat → Nat} {τ : MS} {H : Heap} {locs : List Loc} {cells slots : Nat} {t y : Nat} (k g : Nat) (hk : k < mn τA) (hf : mf τA k = false) (hg1 : mo τA k ≤ g) (hg2 : g ≤ mh τA k) (hu : md τA k = -1) (h1 : 1 ≤ mn τ) (hG : LG (actA E a bA σ τA s.heap.size) E a b σ τ H) (h : RR (gGrd σ k (nI g)) τ) (hq : RQ τ) (hb0 : b 0 = bA 0) (hS : va_S (actA E a bA σ τA s.heap.size) s.heap H locs) (hc : cells ≤ 210) (hs : slots ≤ 8300) {ls : Array Slot} (hl : lv_has ls 10 [(0, .ref (a 0)), (1, .ref (b 0)), (2, .int x), (9, .int (nI g)), (8, .ref (bA (3 + 2 * k))), (7, .int 1), (6, .int (nI y)), (5, .int (nI t)), (4, .int (nI k)), (3, .int (nI (mn τA)))]) : aW p l e s m below meth c E a bA σ τA x H locs cells slots 366 ls [] := by
  obtain ⟨S, hr, hlocks, htab, hfl, hK, hQ, hZ, hG0, h0, hq0⟩ := id hC
  obtain ⟨hx, hb, hml, hown, hts⟩ := id S
  have hts1 := hinL_act
  have n4 := h0.1.1
  have k8 := h0.1.2.1
  refine lv_aload_n hx hb dL_act_366 rfl (lv_at hl 0 rfl) ?_
  refine lv_iload hx hb dL_act_367 (lv_at hl 8 rfl) ?_
  refine lv_iload hx hb dL_act_369 (lv_at hl 3 rfl) ?_
  refine l0w (As := [.int (nI k), .int (nI g)]) (rest := []) (σ' := gGrd σ k (nI g)) S (fun sz => c_grade l E a σ sz h0.gok k g (by rw [h0.n]; exact hk) (by rw [h0.ex hk, hf]; rfl) (by rw [(h0.e hk hf).1]; exact hg1) (by rw [(h0.e hk hf).2.1]; exact hg2) (by rw [(h0.e hk hf).2.1]; exact (h0.e hk hf).2.2.2.1) (by rw [gHas, (h0.e hk hf).2.2.2.2.1, hu]; rfl)) (cwV 2 hts gL_act_X0_grade rfl rfl rfl hdX0_grade ⟨Nat.le_of_ble_eq_true rfl, Nat.le_of_ble_eq_true rfl⟩) hK hG hS actA_new rfl hl.1 rfl (Nat.le_of_ble_eq_true rfl) ⟨by show cells ≤ 210; omega, by show slots ≤ 8300; omega⟩ dL_act_371 (fun H locs _ _ hG hS => ?_)
  refine lv_aload_n hx hb dL_act_374 rfl (lv_at hl 1 rfl) ?_
  refine s0p (As := []) (rest := [.int (gc σ + 1)]) S (c_gradedS l E b (gGrd σ k (nI g)) τ h ) (cwV 0 hts gL_act_X1_graded rfl rfl rfl hdX1_graded ⟨Nat.le_of_ble_eq_true rfl, Nat.le_of_ble_eq_true rfl⟩) hK hG.s rfl hl.1 rfl (Nat.le_of_ble_eq_true rfl) ⟨by show cells ≤ 210; omega, by show slots ≤ 8300; omega⟩ dL_act_375 ?_
  refine lv_icmp_ne (tgt := 390) hx hb dL_act_378 (by decide) (fun q => absurd ((by rw [← h.2.2.2.2.2.2.1]; exact (gGrd_c σ k (nI g)).symm)) q) (fun _ => ?_)
  refine lv_iload hx hb dL_act_381 (lv_at hl 5 rfl) ?_
  refine lv_if_eq (tgt := 390) hx hb dL_act_383 (by decide) (fun q => absurd q ((by decide))) (fun _ => ?_)
  refine lv_iconst (v := 1) hx hb dL_act_386 (by decide) ?_
  refine lv_goto (tgt := 391) hx hb dL_act_387 (by decide) ?_
  exact act_end hC hG h hq h1 hb0 hS hc hs dL_act_391
set_option maxHeartbeats 4000000 in
set_option maxRecDepth 100000 in
theorem act_t438 (hC : AC p l s m meth c E a bA σ τA x) {b : Nat → Nat} {τ : MS} {H : Heap} {locs : List Loc} {cells slots : Nat} {t y : Nat} (k w w0 : Nat) (wa : Int32) (hk : k < mn τA) (hf : mf τA k = true) (hw1 : 1 ≤ w) (hw9 : w ≤ 9) (hwa : wa = md τA k) (h1 : 1 ≤ mn τ) (hmn : mn τ = mn τA) (hmd : md τ k = nI w) (hG : LG (actA E a bA σ τA s.heap.size) E a b σ τ H) (h : RR (gWgh σ k (nI w)) τ) (hq : RQ τ) (hb0 : b 0 = bA 0) (hS : va_S (actA E a bA σ τA s.heap.size) s.heap H locs) (hc : cells ≤ 210) (hs : slots ≤ 8300) {ls : Array Slot} (hl : lv_has ls 10 [(0, .ref (a 0)), (1, .ref (b 0)), (2, .int x), (8, .int wa), (7, .int 1), (6, .int (nI y)), (5, .int (nI t)), (4, .int (nI k)), (3, .int (nI (mn τA)))]) : aW p l e s m below meth c E a bA σ τA x H locs cells slots 438 ls [] := by
  obtain ⟨S, hr, hlocks, htab, hfl, hK, hQ, hZ, hG0, h0, hq0⟩ := id hC
  obtain ⟨hx, hb, hml, hown, hts⟩ := id S
  have hts1 := hinL_act
  have n4 := h0.1.1
  have k8 := h0.1.2.1
  refine lv_aload_n hx hb dL_act_438 rfl (lv_at hl 0 rfl) ?_
  refine lv_iload hx hb dL_act_439 (lv_at hl 7 rfl) ?_
  refine lv_aload_n hx hb dL_act_441 rfl (lv_at hl 1 rfl) ?_
  refine s_get hx hb hts hts1 hown hK hG.s 0 (by decide) (by decide +kernel) rfl rfl dL_act_442 ?_
  refine lv_iload hx hb dL_act_445 (lv_at hl 7 rfl) ?_
  refine s_ald hx hb hK (si_p hG.s) (k := k) (by omega) (by omega) rfl dL_act_447 ?_
  refine lv_iconst (v := nI 3) hx hb dL_act_448 (by decide) ?_
  refine s_ild hx hb hK (si_r hG.s (p := k) (by omega)) (k := 3) (by decide) (by decide) (v := md τ k) rfl dL_act_449 ?_
  rw [hmd]
  refine l0w (As := [.int (nI k), .int (nI w)]) (rest := []) (σ' := gWgh σ k (nI w)) S (fun sz => c_weigh l E a σ sz k (by rw [h0.n]; exact n4) (by rw [h0.n]; exact hk) (by rw [h0.ex hk, hf]; rfl) (nI w) (fun z => Int32.not_lt.mpr (nI_le (a := 1) hw1 (by omega)) z) (nI_le hw9 (by decide))) (cwV 2 hts gL_act_X0_weigh rfl rfl rfl hdX0_weigh ⟨Nat.le_of_ble_eq_true rfl, Nat.le_of_ble_eq_true rfl⟩) hK hG hS actA_new rfl hl.1 rfl (Nat.le_of_ble_eq_true rfl) ⟨by show cells ≤ 210; omega, by show slots ≤ 8300; omega⟩ dL_act_450 (fun H locs _ _ hG hS => ?_)
  refine lv_iload hx hb dL_act_453 (lv_at hl 3 rfl) ?_
  refine lv_icmp_ne (tgt := 462) hx hb dL_act_455 (by decide) (fun q => absurd ((by rw [hwa]; exact (h0.f hf).2.2.2.2.1)) q) (fun _ => ?_)
  refine lv_iconst (v := 1) hx hb dL_act_458 (by decide) ?_
  refine lv_goto (tgt := 463) hx hb dL_act_459 (by decide) ?_
  exact act_end hC hG h hq h1 hb0 hS hc hs dL_act_463
set_option maxHeartbeats 4000000 in
set_option maxRecDepth 100000 in
theorem act_t540 (hC : AC p l s m meth c E a bA σ τA x) {b : Nat → Nat} {τ : MS} {H : Heap} {locs : List Loc} {cells slots : Nat} {k t y : Nat} (to : Nat) (hto : to < mn τA) (h8 : mk τA < 8) (h1 : 1 ≤ mn τ) (hmk : mk τ = mk τA + 1) (hG : LG (actA E a bA σ τA s.heap.size) E a b σ τ H) (h : RR (gEnr σ to) τ) (hq : RQ τ) (hb0 : b 0 = bA 0) (hS : va_S (actA E a bA σ τA s.heap.size) s.heap H locs) (hc : cells ≤ 210) (hs : slots ≤ 8300) {ls : Array Slot} (hl : lv_has ls 10 [(0, .ref (a 0)), (1, .ref (b 0)), (2, .int x), (8, .int (nI to)), (7, .int 1), (6, .int (nI y)), (5, .int (nI t)), (4, .int (nI k)), (3, .int (nI (mn τA)))]) : aW p l e s m below meth c E a bA σ τA x H locs cells slots 540 ls [] := by
  obtain ⟨S, hr, hlocks, htab, hfl, hK, hQ, hZ, hG0, h0, hq0⟩ := id hC
  obtain ⟨hx, hb, hml, hown, hts⟩ := id S
  have hts1 := hinL_act
  have n4 := h0.1.1
  have k8 := h0.1.2.1
  refine lv_aload_n hx hb dL_act_540 rfl (lv_at hl 0 rfl) ?_
  refine lv_iload hx hb dL_act_541 (lv_at hl 3 rfl) ?_
  refine l0w (As := [.int (nI to)]) (rest := []) (σ' := gEnr σ to) S (fun sz => c_enroll l E a σ sz to (by rw [h0.n]; exact n4) (by rw [h0.n]; exact hto) (by rw [h0.k]; exact h8)) (cwV 1 hts gL_act_X0_enroll rfl rfl rfl hdX0_enroll ⟨Nat.le_of_ble_eq_true rfl, Nat.le_of_ble_eq_true rfl⟩) hK hG hS actA_new rfl hl.1 rfl (Nat.le_of_ble_eq_true rfl) ⟨by show cells ≤ 210; omega, by show slots ≤ 8300; omega⟩ dL_act_543 (fun H locs _ _ hG hS => ?_)
  refine lv_aload_n hx hb dL_act_546 rfl (lv_at hl 1 rfl) ?_
  refine s_get hx hb hts hts1 hown hK hG.s 1 (by decide) (by decide +kernel) rfl rfl dL_act_547 ?_
  refine s_alenR hx hb hK (si_s hG.s) dL_act_550 ?_
  refine lv_iconst (v := 1) hx hb dL_act_551 (by decide) ?_
  refine lv_isub hx hb dL_act_552 ?_
  refine lv_icmp_ne (tgt := 565) hx hb dL_act_553 (by decide) (fun q => absurd ((by rw [h0.k, hmk, nI_pred])) q) (fun _ => ?_)
  refine lv_iload hx hb dL_act_556 (lv_at hl 4 rfl) ?_
  refine lv_if_eq (tgt := 565) hx hb dL_act_558 (by decide) (fun q => absurd q ((by decide))) (fun _ => ?_)
  refine lv_iconst (v := 1) hx hb dL_act_561 (by decide) ?_
  refine lv_goto (tgt := 566) hx hb dL_act_562 (by decide) ?_
  exact act_end hC hG h hq h1 hb0 hS hc hs dL_act_566
set_option maxHeartbeats 4000000 in
set_option maxRecDepth 100000 in
theorem act_t673 (hC : AC p l s m meth c E a bA σ τA x) {b : Nat → Nat} {τ : MS} {H : Heap} {locs : List Loc} {cells slots : Nat} {k y : Nat} (t : Nat) (d : Bool) (ht : t < mk τA) (hf : mf τA (ms τA t) = true) (h1 : 1 ≤ mn τ) (hms : ms τ t = mTo τA (ms τA t) d) (hmk : mk τ = mk τA) (hG : LG (actA E a bA σ τA s.heap.size) E a b σ τ H) (h : RR (gWalk σ t d) τ) (hq : RQ τ) (hb0 : b 0 = bA 0) (hS : va_S (actA E a bA σ τA s.heap.size) s.heap H locs) (hc : cells ≤ 210) (hs : slots ≤ 8300) {ls : Array Slot} (hl : lv_has ls 10 [(0, .ref (a 0)), (1, .ref (b 0)), (2, .int x), (9, .int (b2i d)), (8, .int (nI (ms τA t))), (7, .int 1), (6, .int (nI y)), (5, .int (nI t)), (4, .int (nI k)), (3, .int (nI (mn τA)))]) : aW p l e s m below meth c E a bA σ τA x H locs cells slots 673 ls [] := by
  obtain ⟨S, hr, hlocks, htab, hfl, hK, hQ, hZ, hG0, h0, hq0⟩ := id hC
  obtain ⟨hx, hb, hml, hown, hts⟩ := id S
  have hts1 := hinL_act
  have n4 := h0.1.1
  have k8 := h0.1.2.1
  refine lv_aload_n hx hb dL_act_673 rfl (lv_at hl 0 rfl) ?_
  refine lv_iload hx hb dL_act_674 (lv_at hl 7 rfl) ?_
  refine lv_iload hx hb dL_act_676 (lv_at hl 3 rfl) ?_
  refine l0w (As := [.int (nI t), .int (b2i d)]) (rest := []) (σ' := gWalk σ t d) S (fun sz => c_turn l E a σ sz h0.gok t (by rw [h0.k]; exact ht) (by rw [h0.st, h0.ex (h0.lt hf), hf]; rfl) d) (cwV 2 hts gL_act_X0_turn rfl rfl rfl hdX0_turn ⟨Nat.le_of_ble_eq_true rfl, Nat.le_of_ble_eq_true rfl⟩) hK hG hS actA_new rfl hl.1 rfl (Nat.le_of_ble_eq_true rfl) ⟨by show cells ≤ 210; omega, by show slots ≤ 8300; omega⟩ dL_act_678 (fun H locs _ _ hG hS => ?_)
  refine lv_aload_n hx hb dL_act_681 rfl (lv_at hl 1 rfl) ?_
  refine lv_iload hx hb dL_act_682 (lv_at hl 7 rfl) ?_
  refine s0p (As := [.int (nI t)]) (rest := [.int (nI (gTo σ (gst σ t) d))]) S (c_atS l E b (gWalk σ t d) τ h t (by omega)) (cwV 1 hts gL_act_X1_at rfl rfl rfl hdX1_at ⟨Nat.le_of_ble_eq_true rfl, Nat.le_of_ble_eq_true rfl⟩) hK hG.s rfl hl.1 rfl (Nat.le_of_ble_eq_true rfl) ⟨by show cells ≤ 210; omega, by show slots ≤ 8300; omega⟩ dL_act_684 ?_
  refine lv_icmp_ne (tgt := 699) hx hb dL_act_687 (by decide) (fun q => absurd ((by rw [hms, h0.st, (h0.to hf d).1])) q) (fun _ => ?_)
  refine lv_iload hx hb dL_act_690 (lv_at hl 5 rfl) ?_
  refine lv_if_eq (tgt := 699) hx hb dL_act_692 (by decide) (fun q => absurd q ((by decide))) (fun _ => ?_)
  refine lv_iconst (v := 1) hx hb dL_act_695 (by decide) ?_
  refine lv_goto (tgt := 700) hx hb dL_act_696 (by decide) ?_
  exact act_end hC hG h hq h1 hb0 hS hc hs dL_act_700
set_option maxHeartbeats 4000000 in
set_option maxRecDepth 100000 in
theorem act_t746 (hC : AC p l s m meth c E a bA σ τA x) {b : Nat → Nat} {τ : MS} {H : Heap} {locs : List Loc} {cells slots : Nat} {k y : Nat} (t j : Nat) (ht : t < mk τA) (hj : mp τA t = j + 1) (h1 : 1 ≤ mn τ) (hms : ms τ t = mw τA (40 * t + j)) (hmk : mk τ = mk τA) (hG : LG (actA E a bA σ τA s.heap.size) E a b σ τ H) (h : RR (gBk σ t j) τ) (hq : RQ τ) (hb0 : b 0 = bA 0) (hS : va_S (actA E a bA σ τA s.heap.size) s.heap H locs) (hc : cells ≤ 210) (hs : slots ≤ 8300) {ls : Array Slot} (hl : lv_has ls 10 [(0, .ref (a 0)), (1, .ref (b 0)), (2, .int x), (9, .int (nI (mp τA t + 1))), (8, .int (nI (ms τA t))), (7, .int 1), (6, .int (nI y)), (5, .int (nI t)), (4, .int (nI k)), (3, .int (nI (mn τA)))]) : aW p l e s m below meth c E a bA σ τA x H locs cells slots 746 ls [] := by
  obtain ⟨S, hr, hlocks, htab, hfl, hK, hQ, hZ, hG0, h0, hq0⟩ := id hC
  obtain ⟨hx, hb, hml, hown, hts⟩ := id S
  have hts1 := hinL_act
  have n4 := h0.1.1
  have k8 := h0.1.2.1
  refine lv_aload_n hx hb dL_act_746 rfl (lv_at hl 0 rfl) ?_
  refine lv_iload hx hb dL_act_747 (lv_at hl 7 rfl) ?_
  refine l0w (As := [.int (nI t)]) (rest := []) (σ' := gBk σ t j) S (fun sz => c_goBack l E a σ sz t j (by rw [h0.k]; exact k8) (by rw [h0.k]; exact ht) (by rw [h0.pc]; exact hj) (by have := h0.mok.2.2.2.2.2.2.1 t; omega)) (cwV 1 hts gL_act_X0_goBack rfl rfl rfl hdX0_goBack ⟨Nat.le_of_ble_eq_true rfl, Nat.le_of_ble_eq_true rfl⟩) hK hG hS actA_new rfl hl.1 rfl (Nat.le_of_ble_eq_true rfl) ⟨by show cells ≤ 210; omega, by show slots ≤ 8300; omega⟩ dL_act_749 (fun H locs _ _ hG hS => ?_)
  refine lv_aload_n hx hb dL_act_752 rfl (lv_at hl 1 rfl) ?_
  refine lv_iload hx hb dL_act_753 (lv_at hl 7 rfl) ?_
  refine s0p (As := [.int (nI t)]) (rest := [.int (nI (gpf σ (t * 40 + j)))]) S (c_atS l E b (gBk σ t j) τ h t (by omega)) (cwV 1 hts gL_act_X1_at rfl rfl rfl hdX1_at ⟨Nat.le_of_ble_eq_true rfl, Nat.le_of_ble_eq_true rfl⟩) hK hG.s rfl hl.1 rfl (Nat.le_of_ble_eq_true rfl) ⟨by show cells ≤ 210; omega, by show slots ≤ 8300; omega⟩ dL_act_755 ?_
  refine lv_icmp_ne (tgt := 770) hx hb dL_act_758 (by decide) (fun q => absurd ((by rw [hms, h0.pf, Nat.mul_comm])) q) (fun _ => ?_)
  refine lv_iload hx hb dL_act_761 (lv_at hl 5 rfl) ?_
  refine lv_if_eq (tgt := 770) hx hb dL_act_763 (by decide) (fun q => absurd q ((by decide))) (fun _ => ?_)
  refine lv_iconst (v := 1) hx hb dL_act_766 (by decide) ?_
  refine lv_goto (tgt := 771) hx hb dL_act_767 (by decide) ?_
  exact act_end hC hG h hq h1 hb0 hS hc hs dL_act_771
set_option maxHeartbeats 4000000 in
set_option maxRecDepth 100000 in
theorem act_t821 (hC : AC p l s m meth c E a bA σ τA x) {b : Nat → Nat} {τ : MS} {H : Heap} {locs : List Loc} {cells slots : Nat} {k y : Nat} (t i : Nat) (ht : t < mk τA) (hi : i = gFc t 40 σ) (h1 : 1 ≤ mn τ) (hG : LG (actA E a bA σ τA s.heap.size) E a b σ τ H) (h : RR (gFo t 40 σ) τ) (hq : RQ τ) (hb0 : b 0 = bA 0) (hS : va_S (actA E a bA σ τA s.heap.size) s.heap H locs) (hc : cells ≤ 210) (hs : slots ≤ 8300) {ls : Array Slot} (hl : lv_has ls 10 [(0, .ref (a 0)), (1, .ref (b 0)), (2, .int x), (9, .int (nI i)), (8, .int (nI (ms τA t))), (7, .int 1), (6, .int (nI y)), (5, .int (nI t)), (4, .int (nI k)), (3, .int (nI (mn τA)))]) : aW p l e s m below meth c E a bA σ τA x H locs cells slots 821 ls [] := by
  obtain ⟨S, hr, hlocks, htab, hfl, hK, hQ, hZ, hG0, h0, hq0⟩ := id hC
  obtain ⟨hx, hb, hml, hown, hts⟩ := id S
  have hts1 := hinL_act
  have n4 := h0.1.1
  have k8 := h0.1.2.1
  refine lv_aload_n hx hb dL_act_821 rfl (lv_at hl 0 rfl) ?_
  refine lv_iload hx hb dL_act_822 (lv_at hl 7 rfl) ?_
  refine l0w (As := [.int (nI t)]) (rest := []) (σ' := gFo t 40 σ) S (fun sz => c_follow l E a σ sz h0.gok t (by rw [h0.k]; exact ht)) (cwV 1 hts gL_act_X0_follow rfl rfl rfl hdX0_follow ⟨Nat.le_of_ble_eq_true rfl, Nat.le_of_ble_eq_true rfl⟩) hK hG hS actA_new rfl hl.1 rfl (Nat.le_of_ble_eq_true rfl) ⟨by show cells ≤ 210; omega, by show slots ≤ 8300; omega⟩ dL_act_824 (fun H locs _ _ hG hS => ?_)
  refine lv_iload hx hb dL_act_827 (lv_at hl 3 rfl) ?_
  refine lv_icmp_ne (tgt := 836) hx hb dL_act_829 (by decide) (fun q => absurd ((by rw [hi])) q) (fun _ => ?_)
  refine lv_iconst (v := 1) hx hb dL_act_832 (by decide) ?_
  refine lv_goto (tgt := 837) hx hb dL_act_833 (by decide) ?_
  exact act_end hC hG h hq h1 hb0 hS hc hs dL_act_837
set_option maxHeartbeats 4000000 in
set_option maxRecDepth 100000 in
theorem act_x146 (hC : AC p l s m meth c E a bA σ τA x) {k t y : Nat} (lo hi : Nat) (hlh : lo ≤ hi) (hhi : hi ≤ 20) (h40 : mn τA = 40) {ls : Array Slot} (hl : lv_has ls 10 [(0, .ref (a 0)), (1, .ref (bA 0)), (2, .int x), (9, .int (nI hi)), (8, .int (nI lo)), (7, .int 0), (6, .int (nI y)), (5, .int (nI t)), (4, .int (nI k)), (3, .int (nI (mn τA)))]) : aW p l e s m below meth c E a bA σ τA x s.heap [] 0 0 146 ls [] := by
  obtain ⟨S, hr, hlocks, htab, hfl, hK, hQ, hZ, hG0, h0, hq0⟩ := id hC
  obtain ⟨hx, hb, hml, hown, hts⟩ := id S
  have hts1 := hinL_act
  have n4 := h0.1.1
  have k8 := h0.1.2.1
  have hk : ∀ z, z < s.heap.size → s.heap[z]? = s.heap[z]? := fun _ _ => rfl
  have hS : va_S (actA E a bA σ τA s.heap.size) s.heap s.heap [] := va_S.rf
  have hsz := hS.1
  refine lv_aload_n hx hb dL_act_146 rfl (lv_at hl 0 rfl) ?_
  refine lv_iload hx hb dL_act_147 (lv_at hl 4 rfl) ?_
  refine lv_iload hx hb dL_act_149 (lv_at hl 3 rfl) ?_
  refine l0x (As := [.int (nI lo), .int (nI hi)]) (rest := []) S (x_addExam2 l hfl E a σ lo hi hlh hhi (by rw [h0.n]; exact h40)) (cwV 2 hts gL_act_X0_addExam rfl rfl rfl hdX0_addExam ⟨Nat.le_of_ble_eq_true rfl, Nat.le_of_ble_eq_true rfl⟩) hK (hG0.up hk).1 (hZ.kept hk) hZ hS rfl hl.1 rfl (Nat.le_of_ble_eq_true rfl) ⟨by show 0 + 1 ≤ 210; omega, by show 0 + 6 ≤ 8300; omega⟩ dL_act_151 [] ⟨59, 168, 838, 78⟩ [⟨169, 291, 838, 78⟩, ⟨292, 391, 838, 78⟩, ⟨392, 463, 838, 78⟩, ⟨464, 566, 838, 78⟩, ⟨567, 700, 838, 78⟩, ⟨701, 771, 838, 78⟩, ⟨772, 837, 838, 78⟩] (htab.trans rfl) (by decide) (by decide) (by decide) (hts (.classLink RL 78 "java/lang/IllegalStateException") (by decide +kernel)) (by decide +kernel) (fun q9 H locs oq hS => ?_)
  refine lv_astore (lv' := [(8, .ref q9), (0, .ref (a 0)), (1, .ref (bA 0)), (2, .int x), (9, .int (nI hi)), (7, .int 0), (6, .int (nI y)), (5, .int (nI t)), (4, .int (nI k)), (3, .int (nI (mn τA)))]) hx hb dL_act_838 hl (by decide) rfl (fun ls hl => ?_)
  refine lv_iload hx hb dL_act_840 (lv_at hl 5 rfl) ?_
  refine lv_if_ne (tgt := 849) hx hb dL_act_842 (by decide) (fun q => absurd rfl q) (fun _ => ?_)
  refine lv_iconst (v := 1) hx hb dL_act_845 (by decide) ?_
  refine lv_goto (tgt := 850) hx hb dL_act_846 (by decide) ?_
  exact act_end hC (hG0.up (fun z hz => (oq z (Nat.lt_of_lt_of_le hz hsz)).trans (hk z hz))) h0 hq0 (by omega) rfl hS (by omega) (by omega) dL_act_850
set_option maxHeartbeats 4000000 in
set_option maxRecDepth 100000 in
theorem act_x261 (hC : AC p l s m meth c E a bA σ τA x) {H : Heap} {locs : List Loc} {cells slots : Nat} (hk : ∀ z, z < s.heap.size → H[z]? = s.heap[z]?) (hS : va_S (actA E a bA σ τA s.heap.size) s.heap H locs) (hc : cells ≤ 200) (hs : slots ≤ 8200) {k t y : Nat} (f1 f2 w q1 : Nat) (hf1 : f1 < mn τA) (hf2 : f2 < mn τA) (hw1 : 1 ≤ w) (hw9 : w ≤ 9) (h40 : mn τA = 40) {fo : Nat → Int32} (hW1 : gP E [(q1, gI E 4 fo)] H) (hv : fo 1 = nI f1 ∧ fo 2 = nI f2 ∧ fo 3 = nI w) {ls : Array Slot} (hl : lv_has ls 10 [(0, .ref (a 0)), (1, .ref (bA 0)), (2, .int x), (8, .ref q1), (7, .int 0), (6, .int (nI y)), (5, .int (nI t)), (4, .int (nI k)), (3, .int (nI (mn τA)))]) : aW p l e s m below meth c E a bA σ τA x H locs cells slots 261 ls [] := by
  obtain ⟨S, hr, hlocks, htab, hfl, hK, hQ, hZ, hG0, h0, hq0⟩ := id hC
  obtain ⟨hx, hb, hml, hown, hts⟩ := id S
  have hts1 := hinL_act
  have n4 := h0.1.1
  have k8 := h0.1.2.1
  have hsz := hS.1
  refine lv_aload_n hx hb dL_act_261 rfl (lv_at hl 0 rfl) ?_
  refine lv_aload hx hb dL_act_262 (lv_at hl 3 rfl) ?_
  refine lv_iconst (v := nI 1) hx hb dL_act_264 (by decide) ?_
  refine s_ild hx hb hK hW1 (k := 1) (by decide) (by decide) (v := nI f1) hv.1 dL_act_265 ?_
  refine lv_aload hx hb dL_act_266 (lv_at hl 3 rfl) ?_
  refine lv_iconst (v := nI 2) hx hb dL_act_268 (by decide) ?_
  refine s_ild hx hb hK hW1 (k := 2) (by decide) (by decide) (v := nI f2) hv.2.1 dL_act_269 ?_
  refine lv_aload hx hb dL_act_270 (lv_at hl 3 rfl) ?_
  refine lv_iconst (v := nI 3) hx hb dL_act_272 (by decide) ?_
  refine s_ild hx hb hK hW1 (k := 3) (by decide) (by decide) (v := nI w) hv.2.2 dL_act_273 ?_
  refine l0x (As := [.int (nI f1), .int (nI f2), .int (nI w)]) (rest := []) S (x_addFork4 l hfl E a σ f1 f2 (by rw [h0.n]; exact hf1) (by rw [h0.n]; exact hf2) (nI w) (fun z => Int32.not_lt.mpr (nI_le (a := 1) hw1 (by omega)) z) (nI_le hw9 (by decide)) (by rw [h0.n]; exact h40)) (cwV 3 hts gL_act_X0_addFork rfl rfl rfl hdX0_addFork ⟨Nat.le_of_ble_eq_true rfl, Nat.le_of_ble_eq_true rfl⟩) hK (hG0.up hk).1 (hZ.kept hk) hZ hS rfl hl.1 rfl (Nat.le_of_ble_eq_true rfl) ⟨by show cells + 1 ≤ 210; omega, by show slots + 6 ≤ 8300; omega⟩ dL_act_274 [⟨59, 168, 838, 78⟩] ⟨169, 291, 838, 78⟩ [⟨292, 391, 838, 78⟩, ⟨392, 463, 838, 78⟩, ⟨464, 566, 838, 78⟩, ⟨567, 700, 838, 78⟩, ⟨701, 771, 838, 78⟩, ⟨772, 837, 838, 78⟩] (htab.trans rfl) (by decide) (by decide) (by decide) (hts (.classLink RL 78 "java/lang/IllegalStateException") (by decide +kernel)) (by decide +kernel) (fun q9 H locs oq hS => ?_)
  refine lv_astore (lv' := [(8, .ref q9), (0, .ref (a 0)), (1, .ref (bA 0)), (2, .int x), (7, .int 0), (6, .int (nI y)), (5, .int (nI t)), (4, .int (nI k)), (3, .int (nI (mn τA)))]) hx hb dL_act_838 hl (by decide) rfl (fun ls hl => ?_)
  refine lv_iload hx hb dL_act_840 (lv_at hl 4 rfl) ?_
  refine lv_if_ne (tgt := 849) hx hb dL_act_842 (by decide) (fun q => absurd rfl q) (fun _ => ?_)
  refine lv_iconst (v := 1) hx hb dL_act_845 (by decide) ?_
  refine lv_goto (tgt := 850) hx hb dL_act_846 (by decide) ?_
  exact act_end hC (hG0.up (fun z hz => (oq z (Nat.lt_of_lt_of_le hz hsz)).trans (hk z hz))) h0 hq0 (by omega) rfl hS (by omega) (by omega) dL_act_850
set_option maxHeartbeats 4000000 in
set_option maxRecDepth 100000 in
theorem act_x366 (hC : AC p l s m meth c E a bA σ τA x) {t y : Nat} (k g : Nat) (hk1 : k < mn τA) (hf : mf τA k = false) (hg1 : mo τA k ≤ g) (hg2 : g ≤ mh τA k) (hu : gHas σ k = true) {ls : Array Slot} (hl : lv_has ls 10 [(0, .ref (a 0)), (1, .ref (bA 0)), (2, .int x), (9, .int (nI g)), (8, .ref (bA (3 + 2 * k))), (7, .int 0), (6, .int (nI y)), (5, .int (nI t)), (4, .int (nI k)), (3, .int (nI (mn τA)))]) : aW p l e s m below meth c E a bA σ τA x s.heap [] 0 0 366 ls [] := by
  obtain ⟨S, hr, hlocks, htab, hfl, hK, hQ, hZ, hG0, h0, hq0⟩ := id hC
  obtain ⟨hx, hb, hml, hown, hts⟩ := id S
  have hts1 := hinL_act
  have n4 := h0.1.1
  have k8 := h0.1.2.1
  have hk : ∀ z, z < s.heap.size → s.heap[z]? = s.heap[z]? := fun _ _ => rfl
  have hS : va_S (actA E a bA σ τA s.heap.size) s.heap s.heap [] := va_S.rf
  have hsz := hS.1
  refine lv_aload_n hx hb dL_act_366 rfl (lv_at hl 0 rfl) ?_
  refine lv_iload hx hb dL_act_367 (lv_at hl 8 rfl) ?_
  refine lv_iload hx hb dL_act_369 (lv_at hl 3 rfl) ?_
  refine l0x (As := [.int (nI k), .int (nI g)]) (rest := []) S (x_grade3 l hfl E a σ (by rw [h0.n]; exact n4) k (by rw [h0.n]; exact hk1) (by rw [h0.ex hk1, hf]; rfl) (nI g) (by rw [(h0.e hk1 hf).1]; exact fun z => Int32.not_lt.mpr (nI_le hg1 (by have := (h0.e hk1 hf).2.2.2.1; omega)) z) (by rw [(h0.e hk1 hf).2.1]; exact nI_le hg2 (by have := (h0.e hk1 hf).2.2.2.1; omega)) hu) (cwV 2 hts gL_act_X0_grade rfl rfl rfl hdX0_grade ⟨Nat.le_of_ble_eq_true rfl, Nat.le_of_ble_eq_true rfl⟩) hK (hG0.up hk).1 (hZ.kept hk) hZ hS rfl hl.1 rfl (Nat.le_of_ble_eq_true rfl) ⟨by show 0 + 1 ≤ 210; omega, by show 0 + 6 ≤ 8300; omega⟩ dL_act_371 [⟨59, 168, 838, 78⟩, ⟨169, 291, 838, 78⟩] ⟨292, 391, 838, 78⟩ [⟨392, 463, 838, 78⟩, ⟨464, 566, 838, 78⟩, ⟨567, 700, 838, 78⟩, ⟨701, 771, 838, 78⟩, ⟨772, 837, 838, 78⟩] (htab.trans rfl) (by decide) (by decide) (by decide) (hts (.classLink RL 78 "java/lang/IllegalStateException") (by decide +kernel)) (by decide +kernel) (fun q9 H locs oq hS => ?_)
  refine lv_astore (lv' := [(8, .ref q9), (0, .ref (a 0)), (1, .ref (bA 0)), (2, .int x), (9, .int (nI g)), (7, .int 0), (6, .int (nI y)), (5, .int (nI t)), (4, .int (nI k)), (3, .int (nI (mn τA)))]) hx hb dL_act_838 hl (by decide) rfl (fun ls hl => ?_)
  refine lv_iload hx hb dL_act_840 (lv_at hl 5 rfl) ?_
  refine lv_if_ne (tgt := 849) hx hb dL_act_842 (by decide) (fun q => absurd rfl q) (fun _ => ?_)
  refine lv_iconst (v := 1) hx hb dL_act_845 (by decide) ?_
  refine lv_goto (tgt := 850) hx hb dL_act_846 (by decide) ?_
  exact act_end hC (hG0.up (fun z hz => (oq z (Nat.lt_of_lt_of_le hz hsz)).trans (hk z hz))) h0 hq0 (by omega) rfl hS (by omega) (by omega) dL_act_850
set_option maxHeartbeats 4000000 in
set_option maxRecDepth 100000 in
theorem act_x540 (hC : AC p l s m meth c E a bA σ τA x) {k t y : Nat} (to : Nat) (hto : to < mn τA) (h8 : mk τA = 8) {ls : Array Slot} (hl : lv_has ls 10 [(0, .ref (a 0)), (1, .ref (bA 0)), (2, .int x), (8, .int (nI to)), (7, .int 0), (6, .int (nI y)), (5, .int (nI t)), (4, .int (nI k)), (3, .int (nI (mn τA)))]) : aW p l e s m below meth c E a bA σ τA x s.heap [] 0 0 540 ls [] := by
  obtain ⟨S, hr, hlocks, htab, hfl, hK, hQ, hZ, hG0, h0, hq0⟩ := id hC
  obtain ⟨hx, hb, hml, hown, hts⟩ := id S
  have hts1 := hinL_act
  have n4 := h0.1.1
  have k8 := h0.1.2.1
  have hk : ∀ z, z < s.heap.size → s.heap[z]? = s.heap[z]? := fun _ _ => rfl
  have hS : va_S (actA E a bA σ τA s.heap.size) s.heap s.heap [] := va_S.rf
  have hsz := hS.1
  refine lv_aload_n hx hb dL_act_540 rfl (lv_at hl 0 rfl) ?_
  refine lv_iload hx hb dL_act_541 (lv_at hl 3 rfl) ?_
  refine l0x (As := [.int (nI to)]) (rest := []) S (x_enroll2 l hfl E a σ (by rw [h0.n]; exact n4) to (by rw [h0.n]; exact hto) (by rw [h0.k]; exact h8)) (cwV 1 hts gL_act_X0_enroll rfl rfl rfl hdX0_enroll ⟨Nat.le_of_ble_eq_true rfl, Nat.le_of_ble_eq_true rfl⟩) hK (hG0.up hk).1 (hZ.kept hk) hZ hS rfl hl.1 rfl (Nat.le_of_ble_eq_true rfl) ⟨by show 0 + 1 ≤ 210; omega, by show 0 + 6 ≤ 8300; omega⟩ dL_act_543 [⟨59, 168, 838, 78⟩, ⟨169, 291, 838, 78⟩, ⟨292, 391, 838, 78⟩, ⟨392, 463, 838, 78⟩] ⟨464, 566, 838, 78⟩ [⟨567, 700, 838, 78⟩, ⟨701, 771, 838, 78⟩, ⟨772, 837, 838, 78⟩] (htab.trans rfl) (by decide) (by decide) (by decide) (hts (.classLink RL 78 "java/lang/IllegalStateException") (by decide +kernel)) (by decide +kernel) (fun q9 H locs oq hS => ?_)
  refine lv_astore (lv' := [(8, .ref q9), (0, .ref (a 0)), (1, .ref (bA 0)), (2, .int x), (7, .int 0), (6, .int (nI y)), (5, .int (nI t)), (4, .int (nI k)), (3, .int (nI (mn τA)))]) hx hb dL_act_838 hl (by decide) rfl (fun ls hl => ?_)
  refine lv_iload hx hb dL_act_840 (lv_at hl 4 rfl) ?_
  refine lv_if_ne (tgt := 849) hx hb dL_act_842 (by decide) (fun q => absurd rfl q) (fun _ => ?_)
  refine lv_iconst (v := 1) hx hb dL_act_845 (by decide) ?_
  refine lv_goto (tgt := 850) hx hb dL_act_846 (by decide) ?_
  exact act_end hC (hG0.up (fun z hz => (oq z (Nat.lt_of_lt_of_le hz hsz)).trans (hk z hz))) h0 hq0 (by omega) rfl hS (by omega) (by omega) dL_act_850
set_option maxHeartbeats 4000000 in
set_option maxRecDepth 100000 in
theorem act_x673 (hC : AC p l s m meth c E a bA σ τA x) {k y : Nat} (t : Nat) (v9 : Int32) (ht : t < mk τA) (hf : mf τA (ms τA t) = false) {ls : Array Slot} (hl : lv_has ls 10 [(0, .ref (a 0)), (1, .ref (bA 0)), (2, .int x), (9, .int v9), (8, .int (nI (ms τA t))), (7, .int 0), (6, .int (nI y)), (5, .int (nI t)), (4, .int (nI k)), (3, .int (nI (mn τA)))]) : aW p l e s m below meth c E a bA σ τA x s.heap [] 0 0 673 ls [] := by
  obtain ⟨S, hr, hlocks, htab, hfl, hK, hQ, hZ, hG0, h0, hq0⟩ := id hC
  obtain ⟨hx, hb, hml, hown, hts⟩ := id S
  have hts1 := hinL_act
  have n4 := h0.1.1
  have k8 := h0.1.2.1
  have hk : ∀ z, z < s.heap.size → s.heap[z]? = s.heap[z]? := fun _ _ => rfl
  have hS : va_S (actA E a bA σ τA s.heap.size) s.heap s.heap [] := va_S.rf
  have hsz := hS.1
  refine lv_aload_n hx hb dL_act_673 rfl (lv_at hl 0 rfl) ?_
  refine lv_iload hx hb dL_act_674 (lv_at hl 7 rfl) ?_
  refine lv_iload hx hb dL_act_676 (lv_at hl 3 rfl) ?_
  refine l0x (As := [.int (nI t), .int v9]) (rest := []) S (x_turn2 l hfl E a σ h0.gok t (by rw [h0.k]; exact ht) v9 (by rw [h0.st, h0.ex (h0.mok.2.2.2.2.2.2.2.2 t ht), hf]; rfl)) (cwV 2 hts gL_act_X0_turn rfl rfl rfl hdX0_turn ⟨Nat.le_of_ble_eq_true rfl, Nat.le_of_ble_eq_true rfl⟩) hK (hG0.up hk).1 (hZ.kept hk) hZ hS rfl hl.1 rfl (Nat.le_of_ble_eq_true rfl) ⟨by show 0 + 1 ≤ 210; omega, by show 0 + 6 ≤ 8300; omega⟩ dL_act_678 [⟨59, 168, 838, 78⟩, ⟨169, 291, 838, 78⟩, ⟨292, 391, 838, 78⟩, ⟨392, 463, 838, 78⟩, ⟨464, 566, 838, 78⟩] ⟨567, 700, 838, 78⟩ [⟨701, 771, 838, 78⟩, ⟨772, 837, 838, 78⟩] (htab.trans rfl) (by decide) (by decide) (by decide) (hts (.classLink RL 78 "java/lang/IllegalStateException") (by decide +kernel)) (by decide +kernel) (fun q9 H locs oq hS => ?_)
  refine lv_astore (lv' := [(8, .ref q9), (0, .ref (a 0)), (1, .ref (bA 0)), (2, .int x), (9, .int v9), (7, .int 0), (6, .int (nI y)), (5, .int (nI t)), (4, .int (nI k)), (3, .int (nI (mn τA)))]) hx hb dL_act_838 hl (by decide) rfl (fun ls hl => ?_)
  refine lv_iload hx hb dL_act_840 (lv_at hl 5 rfl) ?_
  refine lv_if_ne (tgt := 849) hx hb dL_act_842 (by decide) (fun q => absurd rfl q) (fun _ => ?_)
  refine lv_iconst (v := 1) hx hb dL_act_845 (by decide) ?_
  refine lv_goto (tgt := 850) hx hb dL_act_846 (by decide) ?_
  exact act_end hC (hG0.up (fun z hz => (oq z (Nat.lt_of_lt_of_le hz hsz)).trans (hk z hz))) h0 hq0 (by have := h0.mok.2.2.2.2.2.2.2.2 t ht; omega) rfl hS (by omega) (by omega) dL_act_850
set_option maxHeartbeats 4000000 in
set_option maxRecDepth 100000 in
theorem act_x746 (hC : AC p l s m meth c E a bA σ τA x) {k y : Nat} (t : Nat) (ht : t < mk τA) (hj : mp τA t = 0) {ls : Array Slot} (hl : lv_has ls 10 [(0, .ref (a 0)), (1, .ref (bA 0)), (2, .int x), (9, .int (nI (mp τA t + 1))), (8, .int (nI (ms τA t))), (7, .int 0), (6, .int (nI y)), (5, .int (nI t)), (4, .int (nI k)), (3, .int (nI (mn τA)))]) : aW p l e s m below meth c E a bA σ τA x s.heap [] 0 0 746 ls [] := by
  obtain ⟨S, hr, hlocks, htab, hfl, hK, hQ, hZ, hG0, h0, hq0⟩ := id hC
  obtain ⟨hx, hb, hml, hown, hts⟩ := id S
  have hts1 := hinL_act
  have n4 := h0.1.1
  have k8 := h0.1.2.1
  have hk : ∀ z, z < s.heap.size → s.heap[z]? = s.heap[z]? := fun _ _ => rfl
  have hS : va_S (actA E a bA σ τA s.heap.size) s.heap s.heap [] := va_S.rf
  have hsz := hS.1
  refine lv_aload_n hx hb dL_act_746 rfl (lv_at hl 0 rfl) ?_
  refine lv_iload hx hb dL_act_747 (lv_at hl 7 rfl) ?_
  refine l0x (As := [.int (nI t)]) (rest := []) S (x_goBack2 l hfl E a σ (by rw [h0.k]; exact k8) t (by rw [h0.k]; exact ht) (by rw [h0.pc]; exact hj)) (cwV 1 hts gL_act_X0_goBack rfl rfl rfl hdX0_goBack ⟨Nat.le_of_ble_eq_true rfl, Nat.le_of_ble_eq_true rfl⟩) hK (hG0.up hk).1 (hZ.kept hk) hZ hS rfl hl.1 rfl (Nat.le_of_ble_eq_true rfl) ⟨by show 0 + 1 ≤ 210; omega, by show 0 + 6 ≤ 8300; omega⟩ dL_act_749 [⟨59, 168, 838, 78⟩, ⟨169, 291, 838, 78⟩, ⟨292, 391, 838, 78⟩, ⟨392, 463, 838, 78⟩, ⟨464, 566, 838, 78⟩, ⟨567, 700, 838, 78⟩] ⟨701, 771, 838, 78⟩ [⟨772, 837, 838, 78⟩] (htab.trans rfl) (by decide) (by decide) (by decide) (hts (.classLink RL 78 "java/lang/IllegalStateException") (by decide +kernel)) (by decide +kernel) (fun q9 H locs oq hS => ?_)
  refine lv_astore (lv' := [(8, .ref q9), (0, .ref (a 0)), (1, .ref (bA 0)), (2, .int x), (9, .int (nI (mp τA t + 1))), (7, .int 0), (6, .int (nI y)), (5, .int (nI t)), (4, .int (nI k)), (3, .int (nI (mn τA)))]) hx hb dL_act_838 hl (by decide) rfl (fun ls hl => ?_)
  refine lv_iload hx hb dL_act_840 (lv_at hl 5 rfl) ?_
  refine lv_if_ne (tgt := 849) hx hb dL_act_842 (by decide) (fun q => absurd rfl q) (fun _ => ?_)
  refine lv_iconst (v := 1) hx hb dL_act_845 (by decide) ?_
  refine lv_goto (tgt := 850) hx hb dL_act_846 (by decide) ?_
  exact act_end hC (hG0.up (fun z hz => (oq z (Nat.lt_of_lt_of_le hz hsz)).trans (hk z hz))) h0 hq0 (by have := h0.mok.2.2.2.2.2.2.2.2 t ht; omega) rfl hS (by omega) (by omega) dL_act_850
theorem RR.mdn {σ : GS} {τ : MS} (h : RR σ τ) {p : Nat} (hp : p < mn τ) (c : mf τ p = false) : (¬ 0 ≤ md τ p → md τ p = -1) ∧ (0 ≤ md τ p → gHas σ p = true) := by
  obtain ⟨_, _, _, _, a5, a6, _⟩ := h.e hp c
  constructor
  · intro z
    rcases a6 with e | ⟨g, g1, g2⟩
    · exact e
    · exact absurd (by rw [g2]; exact nI_le (a := 0) (Nat.zero_le _) (by omega)) z
  · intro z
    rw [gHas, a5, decide_eq_false (fun e => by rw [e] at z; exact absurd z (by decide))]; rfl
theorem go_row {τ : MS} {t x : Nat} : ∀ j, j < mp (mGo τ t x) t + 1 → upd (fun j => nI (si_stu τ t j)) (mp τ t + 1) (nI x) j = nI (si_stu (mGo τ t x) t j) := by
  intro j hj
  have e1 : mp (mGo τ t x) t = mp τ t + 1 := up_s
  rw [e1] at hj
  have e2 : si_stu (mGo τ t x) t j = if j < mp τ t + 1 then va_up (mw τ) (40 * t + mp τ t) (ms τ t) (40 * t + j) else x := by
    unfold si_stu
    rw [e1, show ms (mGo τ t x) t = x from up_s]; rfl
  rw [e2]
  by_cases c : j = mp τ t + 1
  · subst c; rw [pk_us, if_neg (by omega)]
  · rw [pk_un c, if_pos (by omega)]
    unfold si_stu
    by_cases c2 : j = mp τ t
    · subst c2; rw [if_neg (by omega), show va_up (mw τ) (40 * t + mp τ t) (ms τ t) (40 * t + mp τ t) = ms τ t from up_s]
    · rw [if_pos (by omega), up_n (by omega)]
theorem go_oth {σ : GS} {τ : MS} (h : RR σ τ) {t x : Nat} : ∀ t', t' < mk τ → t' ≠ t → mp (mGo τ t x) t' = mp τ t' ∧ si_stu (mGo τ t x) t' = si_stu τ t' := by
  intro t' ht' ne
  have e1 : mp (mGo τ t x) t' = mp τ t' := up_n ne
  have m1 := h.mok.2.2.2.2.2.2.1 t'
  have m2 := h.mok.2.2.2.2.2.2.1 t
  refine ⟨e1, funext fun j => ?_⟩
  unfold si_stu
  rw [e1, show ms (mGo τ t x) t' = ms τ t' from up_n ne]
  by_cases c : j < mp τ t'
  · rw [if_pos c, if_pos c]
    show va_up (mw τ) (40 * t + mp τ t) (ms τ t) (40 * t' + j) = _
    rw [up_n (by omega)]
  · rw [if_neg c, if_neg c]
theorem bk_row {τ : MS} {t j : Nat} (hj : mp τ t = j + 1) : ∀ i, i < mp (mBk τ t j) t + 1 → nI (si_stu τ t i) = nI (si_stu (mBk τ t j) t i) := by
  intro i hi
  have e1 : mp (mBk τ t j) t = j := up_s
  rw [e1] at hi
  unfold si_stu
  rw [e1, show ms (mBk τ t j) t = mw τ (40 * t + j) from up_s, hj, if_pos (by omega)]
  by_cases c : i = j
  · subst c; rw [if_neg (by omega)]
  · rw [if_pos (by omega)]; rfl
theorem bk_oth {τ : MS} {t j : Nat} : ∀ t', t' < mk τ → t' ≠ t → mp (mBk τ t j) t' = mp τ t' ∧ si_stu (mBk τ t j) t' = si_stu τ t' := by
  intro t' ht' ne
  have e1 : mp (mBk τ t j) t' = mp τ t' := up_n ne
  refine ⟨e1, funext fun i => ?_⟩
  unfold si_stu
  rw [e1, show ms (mBk τ t j) t' = ms τ t' from up_n ne]
  rfl
theorem enr_row {σ : GS} {τ : MS} (h : RR σ τ) (to : Nat) : mp (mEnr τ to) (mk τ) = 0 ∧ (∀ j, j < mp (mEnr τ to) (mk τ) + 1 → upd (fun _ => 0) 0 (nI to) j = nI (si_stu (mEnr τ to) (mk τ) j)) ∧ ∀ t, t < mk τ → mp (mEnr τ to) t = mp τ t ∧ si_stu (mEnr τ to) t = si_stu τ t := by
  have e0 : mp τ (mk τ) = 0 := h.2.2.2.2.2.1.2.2.2.1 _ (Nat.le_refl _)
  refine ⟨e0, fun j hj => ?_, fun t ht => ⟨rfl, funext fun i => ?_⟩⟩
  · have hj : j < mp τ (mk τ) + 1 := hj
    obtain rfl : j = 0 := by omega
    unfold si_stu
    rw [pk_us, if_neg (by show ¬ 0 < mp τ (mk τ); omega), show ms (mEnr τ to) (mk τ) = to from up_s]
  · unfold si_stu
    rw [show ms (mEnr τ to) t = ms τ t from up_n (by omega)]
    rfl
set_option maxHeartbeats 4000000 in
set_option maxRecDepth 100000 in
theorem act_c69 (hC : AC p l s m meth c E a bA σ τA x) {k t y : Nat}  {ls : Array Slot} (hl : lv_has ls 10 [(0, .ref (a 0)), (1, .ref (bA 0)), (2, .int x), (7, .int 1), (6, .int (nI y)), (5, .int (nI t)), (4, .int (nI k)), (3, .int (nI (mn τA)))]) : aW p l e s m below meth c E a bA σ τA x s.heap [] 0 0 69 ls [] := by
  obtain ⟨S, hr, hlocks, htab, hfl, hK, hQ, hZ, hG0, h0, hq0⟩ := id hC
  obtain ⟨hx, hb, hml, hown, hts⟩ := id S
  have hts1 := hinL_act
  have n4 := h0.1.1
  have k8 := h0.1.2.1
  have hk : ∀ z, z < s.heap.size → s.heap[z]? = s.heap[z]? := fun _ _ => rfl
  have hS : va_S (actA E a bA σ τA s.heap.size) s.heap s.heap [] := va_S.rf
  refine lv_iload_n hx hb dL_act_69 rfl (lv_at hl 2 rfl) ?_
  refine lv_iconst (v := nI 4) hx hb dL_act_70 (by decide) ?_
  refine lv_ishr hx hb dL_act_71 ?_
  refine lv_bipush (v := nI 21) hx hb dL_act_72 (by decide) ?_
  refine l_below (N := 21) (by omega) (by omega) S (va_cwS 2 hts gL_act_L_below rfl rfl rfl hdL_below ⟨Nat.le_of_ble_eq_true rfl, Nat.le_of_ble_eq_true rfl⟩) hK hl.1 (Nat.le_of_ble_eq_true rfl) ⟨by show 0 ≤ 210; omega, by show 0 ≤ 8300; omega⟩ dL_act_74 (fun j74 hj74 => ?_)
  refine lv_istore (lv' := [(8, .int (nI j74)), (0, .ref (a 0)), (1, .ref (bA 0)), (2, .int x), (7, .int 1), (6, .int (nI y)), (5, .int (nI t)), (4, .int (nI k)), (3, .int (nI (mn τA)))]) hx hb dL_act_77 hl (by decide) rfl (fun ls hl => ?_)
  refine lv_iload hx hb dL_act_79 (lv_at hl 0 rfl) ?_
  refine lv_iload_n hx hb dL_act_81 rfl (lv_at hl 3 rfl) ?_
  refine lv_bipush (v := nI 6) hx hb dL_act_82 (by decide) ?_
  refine lv_ishr hx hb dL_act_84 ?_
  refine lv_bipush (v := nI 21) hx hb dL_act_85 (by decide) ?_
  refine lv_iload hx hb dL_act_87 (lv_at hl 0 rfl) ?_
  refine lv_isub hx hb dL_act_89 ?_
  rw [pk_sub (a := 21) (b := j74) (by omega)]
  refine l_below (N := 21 - j74) (by omega) (by omega) S (va_cwS 2 hts gL_act_L_below rfl rfl rfl hdL_below ⟨Nat.le_of_ble_eq_true rfl, Nat.le_of_ble_eq_true rfl⟩) hK hl.1 (Nat.le_of_ble_eq_true rfl) ⟨by show 0 ≤ 210; omega, by show 0 ≤ 8300; omega⟩ dL_act_90 (fun j90 hj90 => ?_)
  refine lv_iadd hx hb dL_act_93 ?_
  rw [nI_add j74 j90]
  refine lv_istore (lv' := [(9, .int (nI (j74 + j90))), (8, .int (nI j74)), (0, .ref (a 0)), (1, .ref (bA 0)), (2, .int x), (7, .int 1), (6, .int (nI y)), (5, .int (nI t)), (4, .int (nI k)), (3, .int (nI (mn τA)))]) hx hb dL_act_94 hl (by decide) rfl (fun ls hl => ?_)
  refine lv_iload_n hx hb dL_act_96 rfl (lv_at hl 9 rfl) ?_
  refine lv_bipush (v := nI 40) hx hb dL_act_97 (by decide) ?_
  refine lv_icmp_ge (tgt := 106) hx hb dL_act_99 (by decide) (fun c99 => ?_) (fun c99 => ?_)
  · have h40 : mn τA = 40 := by have := (nI_leI (by decide) (by omega)).mp c99; omega
    refine lv_iconst (v := 0) hx hb dL_act_106 (by decide) ?_
    refine lv_istore (lv' := [(7, .int 0), (9, .int (nI (j74 + j90))), (8, .int (nI j74)), (0, .ref (a 0)), (1, .ref (bA 0)), (2, .int x), (6, .int (nI y)), (5, .int (nI t)), (4, .int (nI k)), (3, .int (nI (mn τA)))]) hx hb dL_act_107 hl (by decide) rfl (fun ls hl => ?_)
    refine lv_iload hx hb dL_act_109 (lv_at hl 0 rfl) ?_
    refine lv_if_eq (tgt := 146) hx hb dL_act_111 (by decide) (fun _ => ?_) (fun q => absurd rfl q)
    exact act_x146 hC j74 (j74 + j90) (by omega) (by omega) h40 (lv_sub hl [3, 4, 5, 1, 2, 0, 6, 7, 8, 9] rfl)
  · have h40 : mn τA < 40 := Nat.not_le.mp (fun z => c99 (nI_le z (by omega)))
    refine lv_iconst (v := 1) hx hb dL_act_102 (by decide) ?_
    refine lv_goto (tgt := 107) hx hb dL_act_103 (by decide) ?_
    refine lv_istore (lv' := [(7, .int 1), (9, .int (nI (j74 + j90))), (8, .int (nI j74)), (0, .ref (a 0)), (1, .ref (bA 0)), (2, .int x), (6, .int (nI y)), (5, .int (nI t)), (4, .int (nI k)), (3, .int (nI (mn τA)))]) hx hb dL_act_107 hl (by decide) rfl (fun ls hl => ?_)
    refine lv_iload hx hb dL_act_109 (lv_at hl 0 rfl) ?_
    refine lv_if_eq (tgt := 146) hx hb dL_act_111 (by decide) (fun q => absurd q ((by decide))) (fun _ => ?_)
    refine lv_aload_n hx hb dL_act_114 rfl (lv_at hl 4 rfl) ?_
    refine lv_aload_n hx hb dL_act_115 rfl (lv_at hl 4 rfl) ?_
    refine s_get hx hb hts hts1 hown hK (hG0.up hk).s 0 (by decide) (by decide +kernel) rfl rfl dL_act_116 ?_
    refine lv_iconst (v := nI 4) hx hb dL_act_119 (by decide) ?_
    refine s_newI hx hb (hts (.arrayClass .int) (by decide +kernel)) hK hS (N := 4) (by decide) (by show 0 + 1 ≤ 210; omega) (by show 0 + 4 ≤ 8300; omega) dL_act_120 (fun q1 H hq1 _ oq hW1 hS => ?_)
    have hk : ∀ z, z < s.heap.size → H[z]? = s.heap[z]? := fun z hz => (oq z hz).trans (hk z hz)
    have hq1 : s.heap.size ≤ q1 := by rw [hq1]; exact Nat.le_refl _
    refine lv_dup hx hb dL_act_122 rfl ?_
    refine lv_iconst (v := nI 0) hx hb dL_act_123 (by decide) ?_
    refine lv_iconst (v := 0) hx hb dL_act_124 (by decide) ?_
    refine s_ist hx hb hK hW1 (actA_new q1 hq1) hS (k := 0) (by decide) (by decide) rfl dL_act_125 (fun H locs _ oq hW1 hS => ?_)
    have hk : ∀ z, z < s.heap.size → H[z]? = s.heap[z]? := fun z hz => (oq z (by omega)).trans (hk z hz)
    refine lv_dup hx hb dL_act_126 rfl ?_
    refine lv_iconst (v := nI 1) hx hb dL_act_127 (by decide) ?_
    refine lv_iload hx hb dL_act_128 (lv_at hl 2 rfl) ?_
    refine s_ist hx hb hK hW1 (actA_new q1 hq1) hS (k := 1) (by decide) (by decide) rfl dL_act_130 (fun H locs _ oq hW1 hS => ?_)
    have hk : ∀ z, z < s.heap.size → H[z]? = s.heap[z]? := fun z hz => (oq z (by omega)).trans (hk z hz)
    refine lv_dup hx hb dL_act_131 rfl ?_
    refine lv_iconst (v := nI 2) hx hb dL_act_132 (by decide) ?_
    refine lv_iload hx hb dL_act_133 (lv_at hl 1 rfl) ?_
    refine s_ist hx hb hK hW1 (actA_new q1 hq1) hS (k := 2) (by decide) (by decide) rfl dL_act_135 (fun H locs _ oq hW1 hS => ?_)
    have hk : ∀ z, z < s.heap.size → H[z]? = s.heap[z]? := fun z hz => (oq z (by omega)).trans (hk z hz)
    refine lv_dup hx hb dL_act_136 rfl ?_
    refine lv_iconst (v := nI 3) hx hb dL_act_137 (by decide) ?_
    refine lv_iconst (v := -1) hx hb dL_act_138 (by decide) ?_
    refine s_ist hx hb hK hW1 (actA_new q1 hq1) hS (k := 3) (by decide) (by decide) rfl dL_act_139 (fun H locs _ oq hW1 hS => ?_)
    have hk : ∀ z, z < s.heap.size → H[z]? = s.heap[z]? := fun z hz => (oq z (by omega)).trans (hk z hz)
    have hsz := hS.1
    have hql := (gP1' hW1).lt
    have hb0l := hG0.s.lt (i := 0) (Or.inl (by decide))
    refine l_with (N := mn τA) (by omega) S (va_cwS 2 hts gL_act_X1_with rfl rfl rfl hdX1_with ⟨Nat.le_of_ble_eq_true rfl, Nat.le_of_ble_eq_true rfl⟩) hK hQ ⟨si_p (hG0.up hk).s, si_isI_p (hG0.up hk).s, ⟨4, _, hW1⟩⟩ hS actA_new hl.1 (Nat.le_of_ble_eq_true rfl) ⟨(by show 1 + 1 ≤ 210; omega), (by show 4 + 41 ≤ 8300; omega)⟩ dL_act_140 (fun ra H locs hz0 oq hra hR hS => ?_)
    have hk : ∀ z, z < s.heap.size → H[z]? = s.heap[z]? := fun z hz => (oq z (Nat.lt_of_lt_of_le hz hsz)).trans (hk z hz)
    have hne : q1 ≠ ra := by omega
    have hra : s.heap.size ≤ ra := Nat.le_trans hsz hra
    have hW1 := hW1.up oq
    refine s_put hx hb hts hts1 hown hK (si_o (hG0.up hk).s) (hG0.2.2.2.1.1 0 (Or.inl (by decide))) hS 0 (by decide) rfl (by decide +kernel) ⟨rfl, rfl, by decide +kernel⟩ rfl dL_act_143 (fun H locs _ oq hO hS => ?_)
    have hR := gP1 ((gP1' hR).kept (oq ra (by omega)))
    have hW1 := gP1 ((gP1' hW1).kept (oq q1 (by omega)))
    have hG := LG.addP (τ' := mAddE τA j74 (j74 + j90)) hG0 hq1 hra hne actA_new (fun z h1 h2 => (oq z h2).trans (hk z h1)) hO hR hW1 rfl rfl (fun z hz => si_rowq rfl (up_n (by omega)) (up_n (by omega)) (pk_un (by omega))) (addE_row h0 j74 (j74 + j90)) ⟨rfl, rfl⟩
    obtain ⟨bB, hbz, hG⟩ : ∃ bB : Nat → Nat, bB 0 = bA 0 ∧ LG _ E a bB σ _ H := ⟨_, by first | (rw [up_n (by omega), up_n (by omega)]) | (rw [up_n (by omega)]), hG⟩
    rw [← hbz] at hl
    exact act_t146 hC j74 (j74 + j90) (by omega) (by omega) h40 (by show 1 ≤ mn τA + 1; omega) hG (h0.addE (by omega) (by omega) h40) (hq0.addE h0 (by omega)) hbz hS (by omega) (by omega) (lv_sub hl [3, 4, 5, 1, 2, 0, 6, 7, 8, 9] rfl)
set_option maxHeartbeats 4000000 in
set_option maxRecDepth 100000 in
theorem act_c175 (hC : AC p l s m meth c E a bA σ τA x) {t y : Nat} (k : Nat) (hk1 : k < mn τA) {ls : Array Slot} (hl : lv_has ls 10 [(0, .ref (a 0)), (1, .ref (bA 0)), (2, .int x), (7, .int 1), (6, .int (nI y)), (5, .int (nI t)), (4, .int (nI k)), (3, .int (nI (mn τA)))]) : aW p l e s m below meth c E a bA σ τA x s.heap [] 0 0 175 ls [] := by
  obtain ⟨S, hr, hlocks, htab, hfl, hK, hQ, hZ, hG0, h0, hq0⟩ := id hC
  obtain ⟨hx, hb, hml, hown, hts⟩ := id S
  have hts1 := hinL_act
  have n4 := h0.1.1
  have k8 := h0.1.2.1
  have hk : ∀ z, z < s.heap.size → s.heap[z]? = s.heap[z]? := fun _ _ => rfl
  have hS : va_S (actA E a bA σ τA s.heap.size) s.heap s.heap [] := va_S.rf
  refine lv_iconst (v := nI 4) hx hb dL_act_175 (by decide) ?_
  refine s_newI hx hb (hts (.arrayClass .int) (by decide +kernel)) hK hS (N := 4) (by decide) (by show 0 + 1 ≤ 210; omega) (by show 0 + 4 ≤ 8300; omega) dL_act_176 (fun q1 H hq1 _ oq hW1 hS => ?_)
  have hk : ∀ z, z < s.heap.size → H[z]? = s.heap[z]? := fun z hz => (oq z hz).trans (hk z hz)
  have hq1 : s.heap.size ≤ q1 := by rw [hq1]; exact Nat.le_refl _
  refine lv_dup hx hb dL_act_178 rfl ?_
  refine lv_iconst (v := nI 0) hx hb dL_act_179 (by decide) ?_
  refine lv_iconst (v := 1) hx hb dL_act_180 (by decide) ?_
  refine s_ist hx hb hK hW1 (actA_new q1 hq1) hS (k := 0) (by decide) (by decide) rfl dL_act_181 (fun H locs _ oq hW1 hS => ?_)
  have hk : ∀ z, z < s.heap.size → H[z]? = s.heap[z]? := fun z hz => (oq z (by omega)).trans (hk z hz)
  refine lv_dup hx hb dL_act_182 rfl ?_
  refine lv_iconst (v := nI 1) hx hb dL_act_183 (by decide) ?_
  refine lv_iload hx hb dL_act_184 (lv_at hl 6 rfl) ?_
  refine s_ist hx hb hK hW1 (actA_new q1 hq1) hS (k := 1) (by decide) (by decide) rfl dL_act_186 (fun H locs _ oq hW1 hS => ?_)
  have hk : ∀ z, z < s.heap.size → H[z]? = s.heap[z]? := fun z hz => (oq z (by omega)).trans (hk z hz)
  refine lv_dup hx hb dL_act_187 rfl ?_
  refine lv_iconst (v := nI 2) hx hb dL_act_188 (by decide) ?_
  refine lv_iload_n hx hb dL_act_189 rfl (lv_at hl 2 rfl) ?_
  refine lv_iconst (v := nI 5) hx hb dL_act_190 (by decide) ?_
  refine lv_ishr hx hb dL_act_191 ?_
  refine lv_iconst (v := nI 2) hx hb dL_act_192 (by decide) ?_
  refine l_below (N := 2) (by omega) (by omega) S (va_cwS 2 hts gL_act_L_below rfl rfl rfl hdL_below ⟨Nat.le_of_ble_eq_true rfl, Nat.le_of_ble_eq_true rfl⟩) hK hl.1 (Nat.le_of_ble_eq_true rfl) ⟨by show 1 ≤ 210; omega, by show 4 ≤ 8300; omega⟩ dL_act_193 (fun j193 hj193 => ?_)
  refine lv_if_ne (tgt := 205) hx hb dL_act_196 (by decide) (fun c196 => ?_) (fun c196 => ?_)
  · refine lv_iload_n hx hb dL_act_205 rfl (lv_at hl 2 rfl) ?_
    refine lv_bipush (v := nI 6) hx hb dL_act_206 (by decide) ?_
    refine lv_ishr hx hb dL_act_208 ?_
    refine lv_iload_n hx hb dL_act_209 rfl (lv_at hl 7 rfl) ?_
    refine l_below (N := mn τA) (by omega) (by omega) S (va_cwS 2 hts gL_act_L_below rfl rfl rfl hdL_below ⟨Nat.le_of_ble_eq_true rfl, Nat.le_of_ble_eq_true rfl⟩) hK hl.1 (Nat.le_of_ble_eq_true rfl) ⟨by show 1 ≤ 210; omega, by show 4 ≤ 8300; omega⟩ dL_act_210 (fun j210 hj210 => ?_)
    refine s_ist hx hb hK hW1 (actA_new q1 hq1) hS (k := 2) (by decide) (by decide) rfl dL_act_213 (fun H locs _ oq hW1 hS => ?_)
    have hk : ∀ z, z < s.heap.size → H[z]? = s.heap[z]? := fun z hz => (oq z (by omega)).trans (hk z hz)
    refine lv_dup hx hb dL_act_214 rfl ?_
    refine lv_iconst (v := nI 3) hx hb dL_act_215 (by decide) ?_
    refine lv_iconst (v := nI 1) hx hb dL_act_216 (by decide) ?_
    refine lv_iload_n hx hb dL_act_217 rfl (lv_at hl 2 rfl) ?_
    refine lv_bipush (v := nI 7) hx hb dL_act_218 (by decide) ?_
    refine lv_ishr hx hb dL_act_220 ?_
    refine lv_bipush (v := nI 9) hx hb dL_act_221 (by decide) ?_
    refine l_below (N := 9) (by omega) (by omega) S (va_cwS 2 hts gL_act_L_below rfl rfl rfl hdL_below ⟨Nat.le_of_ble_eq_true rfl, Nat.le_of_ble_eq_true rfl⟩) hK hl.1 (Nat.le_of_ble_eq_true rfl) ⟨by show 1 ≤ 210; omega, by show 4 ≤ 8300; omega⟩ dL_act_223 (fun j223 hj223 => ?_)
    refine lv_iadd hx hb dL_act_226 ?_
    rw [nI_add 1 j223]
    refine s_ist hx hb hK hW1 (actA_new q1 hq1) hS (k := 3) (by decide) (by decide) rfl dL_act_227 (fun H locs _ oq hW1 hS => ?_)
    have hk : ∀ z, z < s.heap.size → H[z]? = s.heap[z]? := fun z hz => (oq z (by omega)).trans (hk z hz)
    refine lv_astore (lv' := [(8, .ref q1), (0, .ref (a 0)), (1, .ref (bA 0)), (2, .int x), (7, .int 1), (6, .int (nI y)), (5, .int (nI t)), (4, .int (nI k)), (3, .int (nI (mn τA)))]) hx hb dL_act_228 hl (by decide) rfl (fun ls hl => ?_)
    refine lv_iload_n hx hb dL_act_230 rfl (lv_at hl 8 rfl) ?_
    refine lv_bipush (v := nI 40) hx hb dL_act_231 (by decide) ?_
    refine lv_icmp_ge (tgt := 240) hx hb dL_act_233 (by decide) (fun c233 => ?_) (fun c233 => ?_)
    · have h40 : mn τA = 40 := by have := (nI_leI (by decide) (by omega)).mp c233; omega
      refine lv_iconst (v := 0) hx hb dL_act_240 (by decide) ?_
      refine lv_istore (lv' := [(7, .int 0), (8, .ref q1), (0, .ref (a 0)), (1, .ref (bA 0)), (2, .int x), (6, .int (nI y)), (5, .int (nI t)), (4, .int (nI k)), (3, .int (nI (mn τA)))]) hx hb dL_act_241 hl (by decide) rfl (fun ls hl => ?_)
      refine lv_iload hx hb dL_act_243 (lv_at hl 0 rfl) ?_
      refine lv_if_eq (tgt := 261) hx hb dL_act_245 (by decide) (fun _ => ?_) (fun q => absurd rfl q)
      exact act_x261 hC hk hS (by omega) (by omega) k (j210) (1 + j223) q1 (by omega) (by omega) (by omega) (by omega) h40 hW1 ⟨rfl, rfl, rfl⟩ (lv_sub hl [2, 3, 4, 1, 0, 5, 6, 7, 8] rfl)
    · have h40 : mn τA < 40 := Nat.not_le.mp (fun z => c233 (nI_le z (by omega)))
      refine lv_iconst (v := 1) hx hb dL_act_236 (by decide) ?_
      refine lv_goto (tgt := 241) hx hb dL_act_237 (by decide) ?_
      refine lv_istore (lv' := [(7, .int 1), (8, .ref q1), (0, .ref (a 0)), (1, .ref (bA 0)), (2, .int x), (6, .int (nI y)), (5, .int (nI t)), (4, .int (nI k)), (3, .int (nI (mn τA)))]) hx hb dL_act_241 hl (by decide) rfl (fun ls hl => ?_)
      refine lv_iload hx hb dL_act_243 (lv_at hl 0 rfl) ?_
      refine lv_if_eq (tgt := 261) hx hb dL_act_245 (by decide) (fun q => absurd q ((by decide))) (fun _ => ?_)
      refine lv_aload_n hx hb dL_act_248 rfl (lv_at hl 3 rfl) ?_
      refine lv_aload_n hx hb dL_act_249 rfl (lv_at hl 3 rfl) ?_
      refine s_get hx hb hts hts1 hown hK (hG0.up hk).s 0 (by decide) (by decide +kernel) rfl rfl dL_act_250 ?_
      refine lv_aload hx hb dL_act_253 (lv_at hl 1 rfl) ?_
      have hsz := hS.1
      have hql := (gP1' hW1).lt
      have hb0l := hG0.s.lt (i := 0) (Or.inl (by decide))
      refine l_with (N := mn τA) (by omega) S (va_cwS 2 hts gL_act_X1_with rfl rfl rfl hdX1_with ⟨Nat.le_of_ble_eq_true rfl, Nat.le_of_ble_eq_true rfl⟩) hK hQ ⟨si_p (hG0.up hk).s, si_isI_p (hG0.up hk).s, ⟨4, _, hW1⟩⟩ hS actA_new hl.1 (Nat.le_of_ble_eq_true rfl) ⟨(by show 1 + 1 ≤ 210; omega), (by show 4 + 41 ≤ 8300; omega)⟩ dL_act_255 (fun ra H locs hz0 oq hra hR hS => ?_)
      have hk : ∀ z, z < s.heap.size → H[z]? = s.heap[z]? := fun z hz => (oq z (Nat.lt_of_lt_of_le hz hsz)).trans (hk z hz)
      have hne : q1 ≠ ra := by omega
      have hra : s.heap.size ≤ ra := Nat.le_trans hsz hra
      have hW1 := hW1.up oq
      refine s_put hx hb hts hts1 hown hK (si_o (hG0.up hk).s) (hG0.2.2.2.1.1 0 (Or.inl (by decide))) hS 0 (by decide) rfl (by decide +kernel) ⟨rfl, rfl, by decide +kernel⟩ rfl dL_act_258 (fun H locs _ oq hO hS => ?_)
      have hR := gP1 ((gP1' hR).kept (oq ra (by omega)))
      have hW1 := gP1 ((gP1' hW1).kept (oq q1 (by omega)))
      have hG := LG.addP (τ' := mAddF τA k (j210) (nI (1 + j223))) hG0 hq1 hra hne actA_new (fun z h1 h2 => (oq z h2).trans (hk z h1)) hO hR hW1 rfl rfl (fun z hz => si_rowq (up_n (by omega)) (up_n (by omega)) (up_n (by omega)) (pk_un (by omega))) (addF_row τA k (j210) (nI (1 + j223))) ⟨rfl, rfl⟩
      obtain ⟨bB, hbz, hG⟩ : ∃ bB : Nat → Nat, bB 0 = bA 0 ∧ LG _ E a bB σ _ H := ⟨_, by first | (rw [up_n (by omega), up_n (by omega)]) | (rw [up_n (by omega)]), hG⟩
      rw [← hbz] at hl
      exact act_t261 hC k (j210) (1 + j223) q1 (by omega) (by omega) (by omega) (by omega) h40 (by show 1 ≤ mn τA + 1; omega) hW1 ⟨rfl, rfl, rfl⟩ hG (h0.addF (by omega) (by omega) _ h40) (hq0.addF (by omega) (by omega)) hbz hS (by omega) (by omega) (lv_sub hl [2, 3, 4, 1, 0, 5, 6, 7, 8] rfl)
  · refine lv_iload_n hx hb dL_act_199 rfl (lv_at hl 7 rfl) ?_
    refine lv_iconst (v := nI 1) hx hb dL_act_200 (by decide) ?_
    refine lv_isub hx hb dL_act_201 ?_
    rw [pk_sub (a := mn τA) (b := 1) (by omega)]
    refine lv_goto (tgt := 213) hx hb dL_act_202 (by decide) ?_
    refine s_ist hx hb hK hW1 (actA_new q1 hq1) hS (k := 2) (by decide) (by decide) rfl dL_act_213 (fun H locs _ oq hW1 hS => ?_)
    have hk : ∀ z, z < s.heap.size → H[z]? = s.heap[z]? := fun z hz => (oq z (by omega)).trans (hk z hz)
    refine lv_dup hx hb dL_act_214 rfl ?_
    refine lv_iconst (v := nI 3) hx hb dL_act_215 (by decide) ?_
    refine lv_iconst (v := nI 1) hx hb dL_act_216 (by decide) ?_
    refine lv_iload_n hx hb dL_act_217 rfl (lv_at hl 2 rfl) ?_
    refine lv_bipush (v := nI 7) hx hb dL_act_218 (by decide) ?_
    refine lv_ishr hx hb dL_act_220 ?_
    refine lv_bipush (v := nI 9) hx hb dL_act_221 (by decide) ?_
    refine l_below (N := 9) (by omega) (by omega) S (va_cwS 2 hts gL_act_L_below rfl rfl rfl hdL_below ⟨Nat.le_of_ble_eq_true rfl, Nat.le_of_ble_eq_true rfl⟩) hK hl.1 (Nat.le_of_ble_eq_true rfl) ⟨by show 1 ≤ 210; omega, by show 4 ≤ 8300; omega⟩ dL_act_223 (fun j223 hj223 => ?_)
    refine lv_iadd hx hb dL_act_226 ?_
    rw [nI_add 1 j223]
    refine s_ist hx hb hK hW1 (actA_new q1 hq1) hS (k := 3) (by decide) (by decide) rfl dL_act_227 (fun H locs _ oq hW1 hS => ?_)
    have hk : ∀ z, z < s.heap.size → H[z]? = s.heap[z]? := fun z hz => (oq z (by omega)).trans (hk z hz)
    refine lv_astore (lv' := [(8, .ref q1), (0, .ref (a 0)), (1, .ref (bA 0)), (2, .int x), (7, .int 1), (6, .int (nI y)), (5, .int (nI t)), (4, .int (nI k)), (3, .int (nI (mn τA)))]) hx hb dL_act_228 hl (by decide) rfl (fun ls hl => ?_)
    refine lv_iload_n hx hb dL_act_230 rfl (lv_at hl 8 rfl) ?_
    refine lv_bipush (v := nI 40) hx hb dL_act_231 (by decide) ?_
    refine lv_icmp_ge (tgt := 240) hx hb dL_act_233 (by decide) (fun c233 => ?_) (fun c233 => ?_)
    · have h40 : mn τA = 40 := by have := (nI_leI (by decide) (by omega)).mp c233; omega
      refine lv_iconst (v := 0) hx hb dL_act_240 (by decide) ?_
      refine lv_istore (lv' := [(7, .int 0), (8, .ref q1), (0, .ref (a 0)), (1, .ref (bA 0)), (2, .int x), (6, .int (nI y)), (5, .int (nI t)), (4, .int (nI k)), (3, .int (nI (mn τA)))]) hx hb dL_act_241 hl (by decide) rfl (fun ls hl => ?_)
      refine lv_iload hx hb dL_act_243 (lv_at hl 0 rfl) ?_
      refine lv_if_eq (tgt := 261) hx hb dL_act_245 (by decide) (fun _ => ?_) (fun q => absurd rfl q)
      exact act_x261 hC hk hS (by omega) (by omega) k (mn τA - 1) (1 + j223) q1 (by omega) (by omega) (by omega) (by omega) h40 hW1 ⟨rfl, rfl, rfl⟩ (lv_sub hl [2, 3, 4, 1, 0, 5, 6, 7, 8] rfl)
    · have h40 : mn τA < 40 := Nat.not_le.mp (fun z => c233 (nI_le z (by omega)))
      refine lv_iconst (v := 1) hx hb dL_act_236 (by decide) ?_
      refine lv_goto (tgt := 241) hx hb dL_act_237 (by decide) ?_
      refine lv_istore (lv' := [(7, .int 1), (8, .ref q1), (0, .ref (a 0)), (1, .ref (bA 0)), (2, .int x), (6, .int (nI y)), (5, .int (nI t)), (4, .int (nI k)), (3, .int (nI (mn τA)))]) hx hb dL_act_241 hl (by decide) rfl (fun ls hl => ?_)
      refine lv_iload hx hb dL_act_243 (lv_at hl 0 rfl) ?_
      refine lv_if_eq (tgt := 261) hx hb dL_act_245 (by decide) (fun q => absurd q ((by decide))) (fun _ => ?_)
      refine lv_aload_n hx hb dL_act_248 rfl (lv_at hl 3 rfl) ?_
      refine lv_aload_n hx hb dL_act_249 rfl (lv_at hl 3 rfl) ?_
      refine s_get hx hb hts hts1 hown hK (hG0.up hk).s 0 (by decide) (by decide +kernel) rfl rfl dL_act_250 ?_
      refine lv_aload hx hb dL_act_253 (lv_at hl 1 rfl) ?_
      have hsz := hS.1
      have hql := (gP1' hW1).lt
      have hb0l := hG0.s.lt (i := 0) (Or.inl (by decide))
      refine l_with (N := mn τA) (by omega) S (va_cwS 2 hts gL_act_X1_with rfl rfl rfl hdX1_with ⟨Nat.le_of_ble_eq_true rfl, Nat.le_of_ble_eq_true rfl⟩) hK hQ ⟨si_p (hG0.up hk).s, si_isI_p (hG0.up hk).s, ⟨4, _, hW1⟩⟩ hS actA_new hl.1 (Nat.le_of_ble_eq_true rfl) ⟨(by show 1 + 1 ≤ 210; omega), (by show 4 + 41 ≤ 8300; omega)⟩ dL_act_255 (fun ra H locs hz0 oq hra hR hS => ?_)
      have hk : ∀ z, z < s.heap.size → H[z]? = s.heap[z]? := fun z hz => (oq z (Nat.lt_of_lt_of_le hz hsz)).trans (hk z hz)
      have hne : q1 ≠ ra := by omega
      have hra : s.heap.size ≤ ra := Nat.le_trans hsz hra
      have hW1 := hW1.up oq
      refine s_put hx hb hts hts1 hown hK (si_o (hG0.up hk).s) (hG0.2.2.2.1.1 0 (Or.inl (by decide))) hS 0 (by decide) rfl (by decide +kernel) ⟨rfl, rfl, by decide +kernel⟩ rfl dL_act_258 (fun H locs _ oq hO hS => ?_)
      have hR := gP1 ((gP1' hR).kept (oq ra (by omega)))
      have hW1 := gP1 ((gP1' hW1).kept (oq q1 (by omega)))
      have hG := LG.addP (τ' := mAddF τA k (mn τA - 1) (nI (1 + j223))) hG0 hq1 hra hne actA_new (fun z h1 h2 => (oq z h2).trans (hk z h1)) hO hR hW1 rfl rfl (fun z hz => si_rowq (up_n (by omega)) (up_n (by omega)) (up_n (by omega)) (pk_un (by omega))) (addF_row τA k (mn τA - 1) (nI (1 + j223))) ⟨rfl, rfl⟩
      obtain ⟨bB, hbz, hG⟩ : ∃ bB : Nat → Nat, bB 0 = bA 0 ∧ LG _ E a bB σ _ H := ⟨_, by first | (rw [up_n (by omega), up_n (by omega)]) | (rw [up_n (by omega)]), hG⟩
      rw [← hbz] at hl
      exact act_t261 hC k (mn τA - 1) (1 + j223) q1 (by omega) (by omega) (by omega) (by omega) h40 (by show 1 ≤ mn τA + 1; omega) hW1 ⟨rfl, rfl, rfl⟩ hG (h0.addF (by omega) (by omega) _ h40) (hq0.addF (by omega) (by omega)) hbz hS (by omega) (by omega) (lv_sub hl [2, 3, 4, 1, 0, 5, 6, 7, 8] rfl)
set_option maxHeartbeats 4000000 in
set_option maxRecDepth 100000 in
theorem act_c308 (hC : AC p l s m meth c E a bA σ τA x) {t y : Nat} (k : Nat) (hk1 : k < mn τA) (hf : mf τA k = false) (hlh : mo τA k ≤ mh τA k) (hh20 : mh τA k ≤ 20) {ls : Array Slot} (hl : lv_has ls 10 [(0, .ref (a 0)), (1, .ref (bA 0)), (2, .int x), (7, .int 1), (6, .int (nI y)), (5, .int (nI t)), (4, .int (nI k)), (3, .int (nI (mn τA)))]) : aW p l e s m below meth c E a bA σ τA x s.heap [] 0 0 308 ls [] := by
  obtain ⟨S, hr, hlocks, htab, hfl, hK, hQ, hZ, hG0, h0, hq0⟩ := id hC
  obtain ⟨hx, hb, hml, hown, hts⟩ := id S
  have hts1 := hinL_act
  have n4 := h0.1.1
  have k8 := h0.1.2.1
  have hk : ∀ z, z < s.heap.size → s.heap[z]? = s.heap[z]? := fun _ _ => rfl
  have hS : va_S (actA E a bA σ τA s.heap.size) s.heap s.heap [] := va_S.rf
  refine lv_aload_n hx hb dL_act_308 rfl (lv_at hl 1 rfl) ?_
  refine s_get hx hb hts hts1 hown hK (hG0.up hk).s 0 (by decide) (by decide +kernel) rfl rfl dL_act_309 ?_
  refine lv_iload hx hb dL_act_312 (lv_at hl 6 rfl) ?_
  refine s_ald hx hb hK (si_p (hG0.up hk).s) (k := k) hk1 (by omega) rfl dL_act_314 ?_
  refine lv_astore (lv' := [(8, .ref (bA (3 + 2 * k))), (0, .ref (a 0)), (1, .ref (bA 0)), (2, .int x), (7, .int 1), (6, .int (nI y)), (5, .int (nI t)), (4, .int (nI k)), (3, .int (nI (mn τA)))]) hx hb dL_act_315 hl (by decide) rfl (fun ls hl => ?_)
  refine lv_aload hx hb dL_act_317 (lv_at hl 0 rfl) ?_
  refine lv_iconst (v := nI 1) hx hb dL_act_319 (by decide) ?_
  refine s_ild hx hb hK (si_r (hG0.up hk).s (p := k) hk1) (k := 1) (by decide) (by decide) (v := nI (mo τA k)) rfl dL_act_320 ?_
  refine lv_iload_n hx hb dL_act_321 rfl (lv_at hl 3 rfl) ?_
  refine lv_iconst (v := nI 5) hx hb dL_act_322 (by decide) ?_
  refine lv_ishr hx hb dL_act_323 ?_
  refine lv_aload hx hb dL_act_324 (lv_at hl 0 rfl) ?_
  refine lv_iconst (v := nI 2) hx hb dL_act_326 (by decide) ?_
  refine s_ild hx hb hK (si_r (hG0.up hk).s (p := k) hk1) (k := 2) (by decide) (by decide) (v := nI (mh τA k)) rfl dL_act_327 ?_
  refine lv_aload hx hb dL_act_328 (lv_at hl 0 rfl) ?_
  refine lv_iconst (v := nI 1) hx hb dL_act_330 (by decide) ?_
  refine s_ild hx hb hK (si_r (hG0.up hk).s (p := k) hk1) (k := 1) (by decide) (by decide) (v := nI (mo τA k)) rfl dL_act_331 ?_
  refine lv_isub hx hb dL_act_332 ?_
  rw [pk_sub (a := mh τA k) (b := mo τA k) hlh]
  refine lv_iconst (v := 1) hx hb dL_act_333 (by decide) ?_
  refine lv_iadd hx hb dL_act_334 ?_
  rw [nI_1 (mh τA k - mo τA k)]
  refine l_below (N := (mh τA k - mo τA k) + 1) (by omega) (by omega) S (va_cwS 2 hts gL_act_L_below rfl rfl rfl hdL_below ⟨Nat.le_of_ble_eq_true rfl, Nat.le_of_ble_eq_true rfl⟩) hK hl.1 (Nat.le_of_ble_eq_true rfl) ⟨by show 0 ≤ 210; omega, by show 0 ≤ 8300; omega⟩ dL_act_335 (fun j335 hj335 => ?_)
  refine lv_iadd hx hb dL_act_338 ?_
  rw [nI_add (mo τA k) j335]
  refine lv_istore (lv' := [(9, .int (nI ((mo τA k) + j335))), (8, .ref (bA (3 + 2 * k))), (0, .ref (a 0)), (1, .ref (bA 0)), (2, .int x), (7, .int 1), (6, .int (nI y)), (5, .int (nI t)), (4, .int (nI k)), (3, .int (nI (mn τA)))]) hx hb dL_act_339 hl (by decide) rfl (fun ls hl => ?_)
  refine lv_aload hx hb dL_act_341 (lv_at hl 1 rfl) ?_
  refine lv_iconst (v := nI 3) hx hb dL_act_343 (by decide) ?_
  refine s_ild hx hb hK (si_r (hG0.up hk).s (p := k) hk1) (k := 3) (by decide) (by decide) (v := md τA k) rfl dL_act_344 ?_
  refine lv_if_ge (tgt := 352) hx hb dL_act_345 (by decide) (fun c345 => ?_) (fun c345 => ?_)
  · have hu := (h0.mdn hk1 hf).2 c345
    refine lv_iconst (v := 0) hx hb dL_act_352 (by decide) ?_
    refine lv_istore (lv' := [(7, .int 0), (9, .int (nI ((mo τA k) + j335))), (8, .ref (bA (3 + 2 * k))), (0, .ref (a 0)), (1, .ref (bA 0)), (2, .int x), (6, .int (nI y)), (5, .int (nI t)), (4, .int (nI k)), (3, .int (nI (mn τA)))]) hx hb dL_act_353 hl (by decide) rfl (fun ls hl => ?_)
    refine lv_iload hx hb dL_act_355 (lv_at hl 0 rfl) ?_
    refine lv_if_eq (tgt := 366) hx hb dL_act_357 (by decide) (fun _ => ?_) (fun q => absurd rfl q)
    exact act_x366 hC k (mo τA k + j335) hk1 hf (by omega) (by omega) hu (lv_sub hl [3, 4, 5, 1, 2, 0, 6, 7, 8, 9] rfl)
  · have hu := (h0.mdn hk1 hf).1 c345
    refine lv_iconst (v := 1) hx hb dL_act_348 (by decide) ?_
    refine lv_goto (tgt := 353) hx hb dL_act_349 (by decide) ?_
    refine lv_istore (lv' := [(7, .int 1), (9, .int (nI ((mo τA k) + j335))), (8, .ref (bA (3 + 2 * k))), (0, .ref (a 0)), (1, .ref (bA 0)), (2, .int x), (6, .int (nI y)), (5, .int (nI t)), (4, .int (nI k)), (3, .int (nI (mn τA)))]) hx hb dL_act_353 hl (by decide) rfl (fun ls hl => ?_)
    refine lv_iload hx hb dL_act_355 (lv_at hl 0 rfl) ?_
    refine lv_if_eq (tgt := 366) hx hb dL_act_357 (by decide) (fun q => absurd q ((by decide))) (fun _ => ?_)
    refine lv_aload hx hb dL_act_360 (lv_at hl 2 rfl) ?_
    refine lv_iconst (v := nI 3) hx hb dL_act_362 (by decide) ?_
    refine lv_iload hx hb dL_act_363 (lv_at hl 1 rfl) ?_
    refine s_ist hx hb hK (si_r (hG0.up hk).s (p := k) hk1) (hG0.2.2.2.1.1 (3 + 2 * k) (Or.inr (Or.inl ⟨k, hk1, rfl⟩))) hS (k := 3) (by decide) (by decide) rfl dL_act_365 (fun H locs _ oq hW hS => ?_)
    have hG := LG.setP hG0 hk1 oq hW
    exact act_t366 (τ := mMd τA k (nI (mo τA k + j335))) hC k (mo τA k + j335) hk1 hf (by omega) (by omega) hu (by show 1 ≤ mn τA; omega) hG (h0.grd hk1 hf (by omega) hu) (hq0.grd hk1 hf (by omega) (by omega)) rfl hS (by omega) (by omega) (lv_sub hl [3, 4, 5, 1, 2, 0, 6, 7, 8, 9] rfl)
set_option maxHeartbeats 4000000 in
set_option maxRecDepth 100000 in
theorem act_c408 (hC : AC p l s m meth c E a bA σ τA x) {t y : Nat} (k : Nat) (hk1 : k < mn τA) (hf : mf τA k = true) {ls : Array Slot} (hl : lv_has ls 10 [(0, .ref (a 0)), (1, .ref (bA 0)), (2, .int x), (7, .int 1), (6, .int (nI y)), (5, .int (nI t)), (4, .int (nI k)), (3, .int (nI (mn τA)))]) : aW p l e s m below meth c E a bA σ τA x s.heap [] 0 0 408 ls [] := by
  obtain ⟨S, hr, hlocks, htab, hfl, hK, hQ, hZ, hG0, h0, hq0⟩ := id hC
  obtain ⟨hx, hb, hml, hown, hts⟩ := id S
  have hts1 := hinL_act
  have n4 := h0.1.1
  have k8 := h0.1.2.1
  have hk : ∀ z, z < s.heap.size → s.heap[z]? = s.heap[z]? := fun _ _ => rfl
  have hS : va_S (actA E a bA σ τA s.heap.size) s.heap s.heap [] := va_S.rf
  refine lv_aload_n hx hb dL_act_408 rfl (lv_at hl 1 rfl) ?_
  refine s_get hx hb hts hts1 hown hK (hG0.up hk).s 0 (by decide) (by decide +kernel) rfl rfl dL_act_409 ?_
  refine lv_iload hx hb dL_act_412 (lv_at hl 6 rfl) ?_
  refine s_ald hx hb hK (si_p (hG0.up hk).s) (k := k) hk1 (by omega) rfl dL_act_414 ?_
  refine lv_iconst (v := nI 3) hx hb dL_act_415 (by decide) ?_
  refine s_ild hx hb hK (si_r (hG0.up hk).s (p := k) hk1) (k := 3) (by decide) (by decide) (v := md τA k) rfl dL_act_416 ?_
  refine lv_istore (lv' := [(8, .int (md τA k)), (0, .ref (a 0)), (1, .ref (bA 0)), (2, .int x), (7, .int 1), (6, .int (nI y)), (5, .int (nI t)), (4, .int (nI k)), (3, .int (nI (mn τA)))]) hx hb dL_act_417 hl (by decide) rfl (fun ls hl => ?_)
  refine lv_aload_n hx hb dL_act_419 rfl (lv_at hl 2 rfl) ?_
  refine s_get hx hb hts hts1 hown hK (hG0.up hk).s 0 (by decide) (by decide +kernel) rfl rfl dL_act_420 ?_
  refine lv_iload hx hb dL_act_423 (lv_at hl 7 rfl) ?_
  refine s_ald hx hb hK (si_p (hG0.up hk).s) (k := k) hk1 (by omega) rfl dL_act_425 ?_
  refine lv_iconst (v := nI 3) hx hb dL_act_426 (by decide) ?_
  refine lv_iconst (v := nI 1) hx hb dL_act_427 (by decide) ?_
  refine lv_iload_n hx hb dL_act_428 rfl (lv_at hl 3 rfl) ?_
  refine lv_iconst (v := nI 5) hx hb dL_act_429 (by decide) ?_
  refine lv_ishr hx hb dL_act_430 ?_
  refine lv_bipush (v := nI 9) hx hb dL_act_431 (by decide) ?_
  refine l_below (N := 9) (by omega) (by omega) S (va_cwS 2 hts gL_act_L_below rfl rfl rfl hdL_below ⟨Nat.le_of_ble_eq_true rfl, Nat.le_of_ble_eq_true rfl⟩) hK hl.1 (Nat.le_of_ble_eq_true rfl) ⟨by show 0 ≤ 210; omega, by show 0 ≤ 8300; omega⟩ dL_act_433 (fun j433 hj433 => ?_)
  refine lv_iadd hx hb dL_act_436 ?_
  rw [nI_add 1 j433]
  refine s_ist hx hb hK (si_r (hG0.up hk).s (p := k) hk1) (hG0.2.2.2.1.1 (3 + 2 * k) (Or.inr (Or.inl ⟨k, hk1, rfl⟩))) hS (k := 3) (by decide) (by decide) rfl dL_act_437 (fun H locs _ oq hW hS => ?_)
  have hG := LG.setP hG0 hk1 oq hW
  exact act_t438 (τ := mMd τA k (nI (1 + j433))) hC k (1 + j433) 0 (md τA k) hk1 hf (by omega) (by omega) rfl (by show 1 ≤ mn τA; omega) rfl pk_us hG (h0.wgh hf _) (hq0.wgh hf (by omega) (by omega)) rfl hS (by omega) (by omega) (lv_sub hl [1, 2, 3, 0, 4, 5, 6, 7, 8] rfl)
set_option maxHeartbeats 4000000 in
set_option maxRecDepth 100000 in
theorem act_c479 (hC : AC p l s m meth c E a bA σ τA x) {t y : Nat} (k : Nat) (hk1 : k < mn τA) {ls : Array Slot} (hl : lv_has ls 10 [(0, .ref (a 0)), (1, .ref (bA 0)), (2, .int x), (7, .int 1), (6, .int (nI y)), (5, .int (nI t)), (4, .int (nI k)), (3, .int (nI (mn τA)))]) : aW p l e s m below meth c E a bA σ τA x s.heap [] 0 0 479 ls [] := by
  obtain ⟨S, hr, hlocks, htab, hfl, hK, hQ, hZ, hG0, h0, hq0⟩ := id hC
  obtain ⟨hx, hb, hml, hown, hts⟩ := id S
  have hts1 := hinL_act
  have n4 := h0.1.1
  have k8 := h0.1.2.1
  have hk : ∀ z, z < s.heap.size → s.heap[z]? = s.heap[z]? := fun _ _ => rfl
  have hS : va_S (actA E a bA σ τA s.heap.size) s.heap s.heap [] := va_S.rf
  refine lv_iload_n hx hb dL_act_479 rfl (lv_at hl 2 rfl) ?_
  refine lv_iconst (v := nI 5) hx hb dL_act_480 (by decide) ?_
  refine lv_ishr hx hb dL_act_481 ?_
  refine lv_iconst (v := nI 2) hx hb dL_act_482 (by decide) ?_
  refine l_below (N := 2) (by omega) (by omega) S (va_cwS 2 hts gL_act_L_below rfl rfl rfl hdL_below ⟨Nat.le_of_ble_eq_true rfl, Nat.le_of_ble_eq_true rfl⟩) hK hl.1 (Nat.le_of_ble_eq_true rfl) ⟨by show 0 ≤ 210; omega, by show 0 ≤ 8300; omega⟩ dL_act_483 (fun j483 hj483 => ?_)
  refine lv_if_ne (tgt := 495) hx hb dL_act_486 (by decide) (fun c486 => ?_) (fun c486 => ?_)
  · refine lv_iload hx hb dL_act_495 (lv_at hl 6 rfl) ?_
    refine lv_istore (lv' := [(8, .int (nI k)), (0, .ref (a 0)), (1, .ref (bA 0)), (2, .int x), (7, .int 1), (6, .int (nI y)), (5, .int (nI t)), (4, .int (nI k)), (3, .int (nI (mn τA)))]) hx hb dL_act_497 hl (by decide) rfl (fun ls hl => ?_)
    refine lv_aload_n hx hb dL_act_499 rfl (lv_at hl 2 rfl) ?_
    refine s_get hx hb hts hts1 hown hK (hG0.up hk).s 1 (by decide) (by decide +kernel) rfl rfl dL_act_500 ?_
    refine s_alenR hx hb hK (si_s (hG0.up hk).s) dL_act_503 ?_
    refine lv_bipush (v := nI 8) hx hb dL_act_504 (by decide) ?_
    refine lv_icmp_ge (tgt := 513) hx hb dL_act_506 (by decide) (fun c506 => ?_) (fun c506 => ?_)
    · have h8 : mk τA = 8 := by have := (nI_leI (by decide) (by omega)).mp c506; omega
      refine lv_iconst (v := 0) hx hb dL_act_513 (by decide) ?_
      refine lv_istore (lv' := [(7, .int 0), (8, .int (nI k)), (0, .ref (a 0)), (1, .ref (bA 0)), (2, .int x), (6, .int (nI y)), (5, .int (nI t)), (4, .int (nI k)), (3, .int (nI (mn τA)))]) hx hb dL_act_514 hl (by decide) rfl (fun ls hl => ?_)
      refine lv_iload hx hb dL_act_516 (lv_at hl 0 rfl) ?_
      refine lv_if_eq (tgt := 540) hx hb dL_act_518 (by decide) (fun _ => ?_) (fun q => absurd rfl q)
      exact act_x540 hC (k) (by omega) h8 (lv_sub hl [2, 3, 4, 1, 0, 5, 6, 7, 8] rfl)
    · have h8 : mk τA < 8 := Nat.not_le.mp (fun z => c506 (nI_le z (by omega)))
      refine lv_iconst (v := 1) hx hb dL_act_509 (by decide) ?_
      refine lv_goto (tgt := 514) hx hb dL_act_510 (by decide) ?_
      refine lv_istore (lv' := [(7, .int 1), (8, .int (nI k)), (0, .ref (a 0)), (1, .ref (bA 0)), (2, .int x), (6, .int (nI y)), (5, .int (nI t)), (4, .int (nI k)), (3, .int (nI (mn τA)))]) hx hb dL_act_514 hl (by decide) rfl (fun ls hl => ?_)
      refine lv_iload hx hb dL_act_516 (lv_at hl 0 rfl) ?_
      refine lv_if_eq (tgt := 540) hx hb dL_act_518 (by decide) (fun q => absurd q ((by decide))) (fun _ => ?_)
      refine lv_aload_n hx hb dL_act_521 rfl (lv_at hl 3 rfl) ?_
      refine lv_aload_n hx hb dL_act_522 rfl (lv_at hl 3 rfl) ?_
      refine s_get hx hb hts hts1 hown hK (hG0.up hk).s 1 (by decide) (by decide +kernel) rfl rfl dL_act_523 ?_
      refine lv_iconst (v := nI 1) hx hb dL_act_526 (by decide) ?_
      refine s_newI hx hb (hts (.arrayClass .int) (by decide +kernel)) hK hS (N := 1) (by decide) (by show 0 + 1 ≤ 210; omega) (by show 0 + 1 ≤ 8300; omega) dL_act_527 (fun q1 H hq1 _ oq hW1 hS => ?_)
      have hk : ∀ z, z < s.heap.size → H[z]? = s.heap[z]? := fun z hz => (oq z hz).trans (hk z hz)
      have hq1 : s.heap.size ≤ q1 := by rw [hq1]; exact Nat.le_refl _
      refine lv_dup hx hb dL_act_529 rfl ?_
      refine lv_iconst (v := nI 0) hx hb dL_act_530 (by decide) ?_
      refine lv_iload hx hb dL_act_531 (lv_at hl 1 rfl) ?_
      refine s_ist hx hb hK hW1 (actA_new q1 hq1) hS (k := 0) (by decide) (by decide) rfl dL_act_533 (fun H locs _ oq hW1 hS => ?_)
      have hk : ∀ z, z < s.heap.size → H[z]? = s.heap[z]? := fun z hz => (oq z (by omega)).trans (hk z hz)
      have hsz := hS.1
      have hql := (gP1' hW1).lt
      have hb0l := hG0.s.lt (i := 0) (Or.inl (by decide))
      refine l_with (N := mk τA) (by omega) S (va_cwS 2 hts gL_act_X1_with rfl rfl rfl hdX1_with ⟨Nat.le_of_ble_eq_true rfl, Nat.le_of_ble_eq_true rfl⟩) hK hQ ⟨si_s (hG0.up hk).s, si_isI_t (hG0.up hk).s, ⟨1, _, hW1⟩⟩ hS actA_new hl.1 (Nat.le_of_ble_eq_true rfl) ⟨(by show 1 + 1 ≤ 210; omega), (by show 1 + 41 ≤ 8300; omega)⟩ dL_act_534 (fun ra H locs hz0 oq hra hR hS => ?_)
      have hk : ∀ z, z < s.heap.size → H[z]? = s.heap[z]? := fun z hz => (oq z (Nat.lt_of_lt_of_le hz hsz)).trans (hk z hz)
      have hne : q1 ≠ ra := by omega
      have hra : s.heap.size ≤ ra := Nat.le_trans hsz hra
      have hW1 := hW1.up oq
      refine s_put hx hb hts hts1 hown hK (si_o (hG0.up hk).s) (hG0.2.2.2.1.1 0 (Or.inl (by decide))) hS 1 (by decide) rfl (by decide +kernel) ⟨rfl, rfl, by decide +kernel⟩ rfl dL_act_537 (fun H locs _ oq hO hS => ?_)
      have hR := gP1 ((gP1' hR).kept (oq ra (by omega)))
      have hW1 := gP1 ((gP1' hW1).kept (oq q1 (by omega)))
      have hG := LG.addT (τ' := mEnr τA (k)) hG0 hq1 hra hne actA_new (fun z h1 h2 => (oq z h2).trans (hk z h1)) hO hR (by rw [(enr_row h0 (k)).1]; exact hW1) rfl rfl rfl (enr_row h0 (k)).2.1 (enr_row h0 (k)).2.2
      obtain ⟨bB, hbz, hG⟩ : ∃ bB : Nat → Nat, bB 0 = bA 0 ∧ LG _ E a bB σ _ H := ⟨_, by first | (rw [up_n (by omega), up_n (by omega)]) | (rw [up_n (by omega)]), hG⟩
      rw [← hbz] at hl
      exact act_t540 (τ := mEnr τA (k)) hC (k) (by omega) h8 (by show 1 ≤ mn τA; omega) rfl hG (h0.enr (by omega) h8) hq0 hbz hS (by omega) (by omega) (lv_sub hl [2, 3, 4, 1, 0, 5, 6, 7, 8] rfl)
  · refine lv_iload_n hx hb dL_act_489 rfl (lv_at hl 7 rfl) ?_
    refine lv_iconst (v := nI 1) hx hb dL_act_490 (by decide) ?_
    refine lv_isub hx hb dL_act_491 ?_
    rw [pk_sub (a := mn τA) (b := 1) (by omega)]
    refine lv_goto (tgt := 497) hx hb dL_act_492 (by decide) ?_
    refine lv_istore (lv' := [(8, .int (nI (mn τA - 1))), (0, .ref (a 0)), (1, .ref (bA 0)), (2, .int x), (7, .int 1), (6, .int (nI y)), (5, .int (nI t)), (4, .int (nI k)), (3, .int (nI (mn τA)))]) hx hb dL_act_497 hl (by decide) rfl (fun ls hl => ?_)
    refine lv_aload_n hx hb dL_act_499 rfl (lv_at hl 2 rfl) ?_
    refine s_get hx hb hts hts1 hown hK (hG0.up hk).s 1 (by decide) (by decide +kernel) rfl rfl dL_act_500 ?_
    refine s_alenR hx hb hK (si_s (hG0.up hk).s) dL_act_503 ?_
    refine lv_bipush (v := nI 8) hx hb dL_act_504 (by decide) ?_
    refine lv_icmp_ge (tgt := 513) hx hb dL_act_506 (by decide) (fun c506 => ?_) (fun c506 => ?_)
    · have h8 : mk τA = 8 := by have := (nI_leI (by decide) (by omega)).mp c506; omega
      refine lv_iconst (v := 0) hx hb dL_act_513 (by decide) ?_
      refine lv_istore (lv' := [(7, .int 0), (8, .int (nI (mn τA - 1))), (0, .ref (a 0)), (1, .ref (bA 0)), (2, .int x), (6, .int (nI y)), (5, .int (nI t)), (4, .int (nI k)), (3, .int (nI (mn τA)))]) hx hb dL_act_514 hl (by decide) rfl (fun ls hl => ?_)
      refine lv_iload hx hb dL_act_516 (lv_at hl 0 rfl) ?_
      refine lv_if_eq (tgt := 540) hx hb dL_act_518 (by decide) (fun _ => ?_) (fun q => absurd rfl q)
      exact act_x540 hC (mn τA - 1) (by omega) h8 (lv_sub hl [2, 3, 4, 1, 0, 5, 6, 7, 8] rfl)
    · have h8 : mk τA < 8 := Nat.not_le.mp (fun z => c506 (nI_le z (by omega)))
      refine lv_iconst (v := 1) hx hb dL_act_509 (by decide) ?_
      refine lv_goto (tgt := 514) hx hb dL_act_510 (by decide) ?_
      refine lv_istore (lv' := [(7, .int 1), (8, .int (nI (mn τA - 1))), (0, .ref (a 0)), (1, .ref (bA 0)), (2, .int x), (6, .int (nI y)), (5, .int (nI t)), (4, .int (nI k)), (3, .int (nI (mn τA)))]) hx hb dL_act_514 hl (by decide) rfl (fun ls hl => ?_)
      refine lv_iload hx hb dL_act_516 (lv_at hl 0 rfl) ?_
      refine lv_if_eq (tgt := 540) hx hb dL_act_518 (by decide) (fun q => absurd q ((by decide))) (fun _ => ?_)
      refine lv_aload_n hx hb dL_act_521 rfl (lv_at hl 3 rfl) ?_
      refine lv_aload_n hx hb dL_act_522 rfl (lv_at hl 3 rfl) ?_
      refine s_get hx hb hts hts1 hown hK (hG0.up hk).s 1 (by decide) (by decide +kernel) rfl rfl dL_act_523 ?_
      refine lv_iconst (v := nI 1) hx hb dL_act_526 (by decide) ?_
      refine s_newI hx hb (hts (.arrayClass .int) (by decide +kernel)) hK hS (N := 1) (by decide) (by show 0 + 1 ≤ 210; omega) (by show 0 + 1 ≤ 8300; omega) dL_act_527 (fun q1 H hq1 _ oq hW1 hS => ?_)
      have hk : ∀ z, z < s.heap.size → H[z]? = s.heap[z]? := fun z hz => (oq z hz).trans (hk z hz)
      have hq1 : s.heap.size ≤ q1 := by rw [hq1]; exact Nat.le_refl _
      refine lv_dup hx hb dL_act_529 rfl ?_
      refine lv_iconst (v := nI 0) hx hb dL_act_530 (by decide) ?_
      refine lv_iload hx hb dL_act_531 (lv_at hl 1 rfl) ?_
      refine s_ist hx hb hK hW1 (actA_new q1 hq1) hS (k := 0) (by decide) (by decide) rfl dL_act_533 (fun H locs _ oq hW1 hS => ?_)
      have hk : ∀ z, z < s.heap.size → H[z]? = s.heap[z]? := fun z hz => (oq z (by omega)).trans (hk z hz)
      have hsz := hS.1
      have hql := (gP1' hW1).lt
      have hb0l := hG0.s.lt (i := 0) (Or.inl (by decide))
      refine l_with (N := mk τA) (by omega) S (va_cwS 2 hts gL_act_X1_with rfl rfl rfl hdX1_with ⟨Nat.le_of_ble_eq_true rfl, Nat.le_of_ble_eq_true rfl⟩) hK hQ ⟨si_s (hG0.up hk).s, si_isI_t (hG0.up hk).s, ⟨1, _, hW1⟩⟩ hS actA_new hl.1 (Nat.le_of_ble_eq_true rfl) ⟨(by show 1 + 1 ≤ 210; omega), (by show 1 + 41 ≤ 8300; omega)⟩ dL_act_534 (fun ra H locs hz0 oq hra hR hS => ?_)
      have hk : ∀ z, z < s.heap.size → H[z]? = s.heap[z]? := fun z hz => (oq z (Nat.lt_of_lt_of_le hz hsz)).trans (hk z hz)
      have hne : q1 ≠ ra := by omega
      have hra : s.heap.size ≤ ra := Nat.le_trans hsz hra
      have hW1 := hW1.up oq
      refine s_put hx hb hts hts1 hown hK (si_o (hG0.up hk).s) (hG0.2.2.2.1.1 0 (Or.inl (by decide))) hS 1 (by decide) rfl (by decide +kernel) ⟨rfl, rfl, by decide +kernel⟩ rfl dL_act_537 (fun H locs _ oq hO hS => ?_)
      have hR := gP1 ((gP1' hR).kept (oq ra (by omega)))
      have hW1 := gP1 ((gP1' hW1).kept (oq q1 (by omega)))
      have hG := LG.addT (τ' := mEnr τA (mn τA - 1)) hG0 hq1 hra hne actA_new (fun z h1 h2 => (oq z h2).trans (hk z h1)) hO hR (by rw [(enr_row h0 (mn τA - 1)).1]; exact hW1) rfl rfl rfl (enr_row h0 (mn τA - 1)).2.1 (enr_row h0 (mn τA - 1)).2.2
      obtain ⟨bB, hbz, hG⟩ : ∃ bB : Nat → Nat, bB 0 = bA 0 ∧ LG _ E a bB σ _ H := ⟨_, by first | (rw [up_n (by omega), up_n (by omega)]) | (rw [up_n (by omega)]), hG⟩
      rw [← hbz] at hl
      exact act_t540 (τ := mEnr τA (mn τA - 1)) hC (mn τA - 1) (by omega) h8 (by show 1 ≤ mn τA; omega) rfl hG (h0.enr (by omega) h8) hq0 hbz hS (by omega) (by omega) (lv_sub hl [2, 3, 4, 1, 0, 5, 6, 7, 8] rfl)
set_option maxHeartbeats 4000000 in
set_option maxRecDepth 100000 in
theorem act_c608 (hC : AC p l s m meth c E a bA σ τA x) {k y : Nat} (t : Nat) (ht : t < mk τA) {ls : Array Slot} (hl : lv_has ls 10 [(0, .ref (a 0)), (1, .ref (bA 0)), (2, .int x), (8, .int (nI (ms τA t))), (7, .int 1), (6, .int (nI y)), (5, .int (nI t)), (4, .int (nI k)), (3, .int (nI (mn τA)))]) : aW p l e s m below meth c E a bA σ τA x s.heap [] 0 0 608 ls [] := by
  obtain ⟨S, hr, hlocks, htab, hfl, hK, hQ, hZ, hG0, h0, hq0⟩ := id hC
  obtain ⟨hx, hb, hml, hown, hts⟩ := id S
  have hts1 := hinL_act
  have n4 := h0.1.1
  have k8 := h0.1.2.1
  have hk : ∀ z, z < s.heap.size → s.heap[z]? = s.heap[z]? := fun _ _ => rfl
  have hS : va_S (actA E a bA σ τA s.heap.size) s.heap s.heap [] := va_S.rf
  have hy := h0.mok.2.2.2.2.2.2.2.2 t ht
  have t7 := h0.mok.2.2.2.2.2.2.1 t
  refine lv_iload_n hx hb dL_act_608 rfl (lv_at hl 2 rfl) ?_
  refine lv_iconst (v := nI 5) hx hb dL_act_609 (by decide) ?_
  refine lv_ishr hx hb dL_act_610 ?_
  refine lv_iconst (v := nI 2) hx hb dL_act_611 (by decide) ?_
  refine l_below (N := 2) (by omega) (by omega) S (va_cwS 2 hts gL_act_L_below rfl rfl rfl hdL_below ⟨Nat.le_of_ble_eq_true rfl, Nat.le_of_ble_eq_true rfl⟩) hK hl.1 (Nat.le_of_ble_eq_true rfl) ⟨by show 0 ≤ 210; omega, by show 0 ≤ 8300; omega⟩ dL_act_612 (fun j612 hj612 => ?_)
  refine lv_if_ne (tgt := 622) hx hb dL_act_615 (by decide) (fun c615 => ?_) (fun c615 => ?_)
  · refine lv_iconst (v := 0) hx hb dL_act_622 (by decide) ?_
    refine lv_istore (lv' := [(9, .int 0), (0, .ref (a 0)), (1, .ref (bA 0)), (2, .int x), (8, .int (nI (ms τA t))), (7, .int 1), (6, .int (nI y)), (5, .int (nI t)), (4, .int (nI k)), (3, .int (nI (mn τA)))]) hx hb dL_act_623 hl (by decide) rfl (fun ls hl => ?_)
    refine lv_aload_n hx hb dL_act_625 rfl (lv_at hl 2 rfl) ?_
    refine lv_iload hx hb dL_act_626 (lv_at hl 4 rfl) ?_
    refine s0p (As := [.int (nI (ms τA t))]) (rest := []) S (c_isFork l E bA σ τA h0 (ms τA t) (by omega)) (cwV 1 hts gL_act_X1_isFork rfl rfl rfl hdX1_isFork ⟨Nat.le_of_ble_eq_true rfl, Nat.le_of_ble_eq_true rfl⟩) hK (hG0.up hk).s rfl hl.1 rfl (Nat.le_of_ble_eq_true rfl) ⟨by show 0 ≤ 210; omega, by show 0 ≤ 8300; omega⟩ dL_act_628 ?_
    refine lv_istore (lv' := [(7, .int (b2i (mf τA (ms τA t)))), (9, .int 0), (0, .ref (a 0)), (1, .ref (bA 0)), (2, .int x), (8, .int (nI (ms τA t))), (6, .int (nI y)), (5, .int (nI t)), (4, .int (nI k)), (3, .int (nI (mn τA)))]) hx hb dL_act_631 hl (by decide) rfl (fun ls hl => ?_)
    refine lv_iload hx hb dL_act_633 (lv_at hl 0 rfl) ?_
    refine lv_if_eq (tgt := 673) hx hb dL_act_635 (by decide) (fun c635 => ?_) (fun c635 => ?_)
    · have hf : mf τA (ms τA t) = false := b2i_eq0.mp c635
      rw [hf] at hl
      exact act_x673 hC t _ ht hf (lv_sub hl [2, 3, 4, 1, 5, 0, 6, 7, 8, 9] rfl)
    · have hf : mf τA (ms τA t) = true := b2i_ne0.mp c635
      rw [hf] at hl
      have hto := fun d => (h0.to hf d).2
      refine lv_aload_n hx hb dL_act_638 rfl (lv_at hl 3 rfl) ?_
      refine s_get hx hb hts hts1 hown hK (hG0.up hk).s 1 (by decide) (by decide +kernel) rfl rfl dL_act_639 ?_
      refine lv_iload hx hb dL_act_642 (lv_at hl 7 rfl) ?_
      refine lv_aload_n hx hb dL_act_644 rfl (lv_at hl 3 rfl) ?_
      refine s_get hx hb hts hts1 hown hK (hG0.up hk).s 1 (by decide) (by decide +kernel) rfl rfl dL_act_645 ?_
      refine lv_iload hx hb dL_act_648 (lv_at hl 7 rfl) ?_
      refine s_ald hx hb hK (si_s (hG0.up hk).s) (k := t) ht (by omega) rfl dL_act_650 ?_
      refine lv_aload_n hx hb dL_act_651 rfl (lv_at hl 3 rfl) ?_
      refine s_get hx hb hts hts1 hown hK (hG0.up hk).s 0 (by decide) (by decide +kernel) rfl rfl dL_act_652 ?_
      refine lv_iload hx hb dL_act_655 (lv_at hl 5 rfl) ?_
      refine s_ald hx hb hK (si_p (hG0.up hk).s) (k := ms τA t) (by omega) (by omega) rfl dL_act_657 ?_
      refine lv_iload hx hb dL_act_658 (lv_at hl 1 rfl) ?_
      refine lv_if_eq (tgt := 667) hx hb dL_act_660 (by decide) (fun _ => ?_) (fun q => absurd rfl q)
      refine lv_iconst (v := 1) hx hb dL_act_667 (by decide) ?_
      refine s_ild hx hb hK (si_r (hG0.up hk).s (p := ms τA t) (by omega)) (k := 1) (by decide) (by decide) (v := nI (mo τA (ms τA t))) rfl dL_act_668 ?_
      have hsz := hS.1
      have hb2l := hG0.s.lt (i := 2) (Or.inl (by decide))
      refine l_with_ (N := mp τA t + 1) (by omega) S (va_cwS 2 hts gL_act_X1_with_ rfl rfl rfl hdX1_with_ ⟨Nat.le_of_ble_eq_true rfl, Nat.le_of_ble_eq_true rfl⟩) hK hQ (si_t (hG0.up hk).s ht) hS actA_new hl.1 (Nat.le_of_ble_eq_true rfl) ⟨(by show 0 + 1 ≤ 210; omega), (by show 0 + 41 ≤ 8300; omega)⟩ dL_act_669 (fun ra H locs hz0 oq hra hR hS => ?_)
      have hk : ∀ z, z < s.heap.size → H[z]? = s.heap[z]? := fun z hz => (oq z (Nat.lt_of_lt_of_le hz hsz)).trans (hk z hz)
      have hra : s.heap.size ≤ ra := Nat.le_trans hsz hra
      refine s_ast hx hb hK hQ (si_s (hG0.up hk).s) ⟨_, _, hR⟩ (hG0.2.2.2.1.1 2 (Or.inl (by decide))) hS (k := t) ht (by omega) rfl dL_act_672 (fun H locs _ oq hO hS => ?_)
      have hR := gP1 ((gP1' hR).kept (oq ra (by omega)))
      have hG := LG.setT (τ' := mGo τA t (mTo τA (ms τA t) false)) hG0 ht hra actA_new (fun z h1 h2 => (oq z h2).trans (hk z h1)) hO (by rw [show mp (mGo τA t (mTo τA (ms τA t) false)) t = mp τA t + 1 from up_s]; exact hR) rfl rfl rfl go_row (go_oth h0)
      obtain ⟨bB, hbz, hG⟩ : ∃ bB : Nat → Nat, bB 0 = bA 0 ∧ LG _ E a bB σ _ H := ⟨_, by first | (rw [up_n (by omega), up_n (by omega)]) | (rw [up_n (by omega)]), hG⟩
      rw [← hbz] at hl
      exact act_t673 (τ := mGo τA t (mTo τA (ms τA t) false)) hC t false ht hf (by show 1 ≤ mn τA; omega) up_s rfl hG (h0.go ht hf false) hq0 hbz hS (by omega) (by omega) (lv_sub hl [2, 3, 4, 1, 5, 0, 6, 7, 8, 9] rfl)
  · refine lv_iconst (v := 1) hx hb dL_act_618 (by decide) ?_
    refine lv_goto (tgt := 623) hx hb dL_act_619 (by decide) ?_
    refine lv_istore (lv' := [(9, .int 1), (0, .ref (a 0)), (1, .ref (bA 0)), (2, .int x), (8, .int (nI (ms τA t))), (7, .int 1), (6, .int (nI y)), (5, .int (nI t)), (4, .int (nI k)), (3, .int (nI (mn τA)))]) hx hb dL_act_623 hl (by decide) rfl (fun ls hl => ?_)
    refine lv_aload_n hx hb dL_act_625 rfl (lv_at hl 2 rfl) ?_
    refine lv_iload hx hb dL_act_626 (lv_at hl 4 rfl) ?_
    refine s0p (As := [.int (nI (ms τA t))]) (rest := []) S (c_isFork l E bA σ τA h0 (ms τA t) (by omega)) (cwV 1 hts gL_act_X1_isFork rfl rfl rfl hdX1_isFork ⟨Nat.le_of_ble_eq_true rfl, Nat.le_of_ble_eq_true rfl⟩) hK (hG0.up hk).s rfl hl.1 rfl (Nat.le_of_ble_eq_true rfl) ⟨by show 0 ≤ 210; omega, by show 0 ≤ 8300; omega⟩ dL_act_628 ?_
    refine lv_istore (lv' := [(7, .int (b2i (mf τA (ms τA t)))), (9, .int 1), (0, .ref (a 0)), (1, .ref (bA 0)), (2, .int x), (8, .int (nI (ms τA t))), (6, .int (nI y)), (5, .int (nI t)), (4, .int (nI k)), (3, .int (nI (mn τA)))]) hx hb dL_act_631 hl (by decide) rfl (fun ls hl => ?_)
    refine lv_iload hx hb dL_act_633 (lv_at hl 0 rfl) ?_
    refine lv_if_eq (tgt := 673) hx hb dL_act_635 (by decide) (fun c635 => ?_) (fun c635 => ?_)
    · have hf : mf τA (ms τA t) = false := b2i_eq0.mp c635
      rw [hf] at hl
      exact act_x673 hC t _ ht hf (lv_sub hl [2, 3, 4, 1, 5, 0, 6, 7, 8, 9] rfl)
    · have hf : mf τA (ms τA t) = true := b2i_ne0.mp c635
      rw [hf] at hl
      have hto := fun d => (h0.to hf d).2
      refine lv_aload_n hx hb dL_act_638 rfl (lv_at hl 3 rfl) ?_
      refine s_get hx hb hts hts1 hown hK (hG0.up hk).s 1 (by decide) (by decide +kernel) rfl rfl dL_act_639 ?_
      refine lv_iload hx hb dL_act_642 (lv_at hl 7 rfl) ?_
      refine lv_aload_n hx hb dL_act_644 rfl (lv_at hl 3 rfl) ?_
      refine s_get hx hb hts hts1 hown hK (hG0.up hk).s 1 (by decide) (by decide +kernel) rfl rfl dL_act_645 ?_
      refine lv_iload hx hb dL_act_648 (lv_at hl 7 rfl) ?_
      refine s_ald hx hb hK (si_s (hG0.up hk).s) (k := t) ht (by omega) rfl dL_act_650 ?_
      refine lv_aload_n hx hb dL_act_651 rfl (lv_at hl 3 rfl) ?_
      refine s_get hx hb hts hts1 hown hK (hG0.up hk).s 0 (by decide) (by decide +kernel) rfl rfl dL_act_652 ?_
      refine lv_iload hx hb dL_act_655 (lv_at hl 5 rfl) ?_
      refine s_ald hx hb hK (si_p (hG0.up hk).s) (k := ms τA t) (by omega) (by omega) rfl dL_act_657 ?_
      refine lv_iload hx hb dL_act_658 (lv_at hl 1 rfl) ?_
      refine lv_if_eq (tgt := 667) hx hb dL_act_660 (by decide) (fun q => absurd q ((by decide))) (fun _ => ?_)
      refine lv_iconst (v := nI 2) hx hb dL_act_663 (by decide) ?_
      refine lv_goto (tgt := 668) hx hb dL_act_664 (by decide) ?_
      refine s_ild hx hb hK (si_r (hG0.up hk).s (p := ms τA t) (by omega)) (k := 2) (by decide) (by decide) (v := nI (mh τA (ms τA t))) rfl dL_act_668 ?_
      have hsz := hS.1
      have hb2l := hG0.s.lt (i := 2) (Or.inl (by decide))
      refine l_with_ (N := mp τA t + 1) (by omega) S (va_cwS 2 hts gL_act_X1_with_ rfl rfl rfl hdX1_with_ ⟨Nat.le_of_ble_eq_true rfl, Nat.le_of_ble_eq_true rfl⟩) hK hQ (si_t (hG0.up hk).s ht) hS actA_new hl.1 (Nat.le_of_ble_eq_true rfl) ⟨(by show 0 + 1 ≤ 210; omega), (by show 0 + 41 ≤ 8300; omega)⟩ dL_act_669 (fun ra H locs hz0 oq hra hR hS => ?_)
      have hk : ∀ z, z < s.heap.size → H[z]? = s.heap[z]? := fun z hz => (oq z (Nat.lt_of_lt_of_le hz hsz)).trans (hk z hz)
      have hra : s.heap.size ≤ ra := Nat.le_trans hsz hra
      refine s_ast hx hb hK hQ (si_s (hG0.up hk).s) ⟨_, _, hR⟩ (hG0.2.2.2.1.1 2 (Or.inl (by decide))) hS (k := t) ht (by omega) rfl dL_act_672 (fun H locs _ oq hO hS => ?_)
      have hR := gP1 ((gP1' hR).kept (oq ra (by omega)))
      have hG := LG.setT (τ' := mGo τA t (mTo τA (ms τA t) true)) hG0 ht hra actA_new (fun z h1 h2 => (oq z h2).trans (hk z h1)) hO (by rw [show mp (mGo τA t (mTo τA (ms τA t) true)) t = mp τA t + 1 from up_s]; exact hR) rfl rfl rfl go_row (go_oth h0)
      obtain ⟨bB, hbz, hG⟩ : ∃ bB : Nat → Nat, bB 0 = bA 0 ∧ LG _ E a bB σ _ H := ⟨_, by first | (rw [up_n (by omega), up_n (by omega)]) | (rw [up_n (by omega)]), hG⟩
      rw [← hbz] at hl
      exact act_t673 (τ := mGo τA t (mTo τA (ms τA t) true)) hC t true ht hf (by show 1 ≤ mn τA; omega) up_s rfl hG (h0.go ht hf true) hq0 hbz hS (by omega) (by omega) (lv_sub hl [2, 3, 4, 1, 5, 0, 6, 7, 8, 9] rfl)
set_option maxHeartbeats 4000000 in
set_option maxRecDepth 100000 in
theorem act_c701 (hC : AC p l s m meth c E a bA σ τA x) {k y : Nat} (t : Nat) (ht : t < mk τA) {ls : Array Slot} (hl : lv_has ls 10 [(0, .ref (a 0)), (1, .ref (bA 0)), (2, .int x), (8, .int (nI (ms τA t))), (7, .int 1), (6, .int (nI y)), (5, .int (nI t)), (4, .int (nI k)), (3, .int (nI (mn τA)))]) : aW p l e s m below meth c E a bA σ τA x s.heap [] 0 0 701 ls [] := by
  obtain ⟨S, hr, hlocks, htab, hfl, hK, hQ, hZ, hG0, h0, hq0⟩ := id hC
  obtain ⟨hx, hb, hml, hown, hts⟩ := id S
  have hts1 := hinL_act
  have n4 := h0.1.1
  have k8 := h0.1.2.1
  have hk : ∀ z, z < s.heap.size → s.heap[z]? = s.heap[z]? := fun _ _ => rfl
  have hS : va_S (actA E a bA σ τA s.heap.size) s.heap s.heap [] := va_S.rf
  have hy := h0.mok.2.2.2.2.2.2.2.2 t ht
  have t7 := h0.mok.2.2.2.2.2.2.1 t
  refine lv_aload_n hx hb dL_act_701 rfl (lv_at hl 1 rfl) ?_
  refine s_get hx hb hts hts1 hown hK (hG0.up hk).s 1 (by decide) (by decide +kernel) rfl rfl dL_act_702 ?_
  refine lv_iload hx hb dL_act_705 (lv_at hl 6 rfl) ?_
  refine s_ald hx hb hK (si_s (hG0.up hk).s) (k := t) ht (by omega) rfl dL_act_707 ?_
  refine s_alenI hx hb hK (si_t (hG0.up hk).s (t := t) ht) dL_act_708 ?_
  refine lv_istore (lv' := [(9, .int (nI (mp τA t + 1))), (0, .ref (a 0)), (1, .ref (bA 0)), (2, .int x), (8, .int (nI (ms τA t))), (7, .int 1), (6, .int (nI y)), (5, .int (nI t)), (4, .int (nI k)), (3, .int (nI (mn τA)))]) hx hb dL_act_709 hl (by decide) rfl (fun ls hl => ?_)
  refine lv_iload hx hb dL_act_711 (lv_at hl 0 rfl) ?_
  refine lv_iconst (v := nI 1) hx hb dL_act_713 (by decide) ?_
  refine lv_icmp_le (tgt := 721) hx hb dL_act_714 (by decide) (fun c714 => ?_) (fun c714 => ?_)
  · have hj : mp τA t = 0 := by have := (nI_leI (by omega) (by decide)).mp c714; omega
    refine lv_iconst (v := 0) hx hb dL_act_721 (by decide) ?_
    refine lv_istore (lv' := [(7, .int 0), (9, .int (nI (mp τA t + 1))), (0, .ref (a 0)), (1, .ref (bA 0)), (2, .int x), (8, .int (nI (ms τA t))), (6, .int (nI y)), (5, .int (nI t)), (4, .int (nI k)), (3, .int (nI (mn τA)))]) hx hb dL_act_722 hl (by decide) rfl (fun ls hl => ?_)
    refine lv_iload hx hb dL_act_724 (lv_at hl 0 rfl) ?_
    refine lv_if_eq (tgt := 746) hx hb dL_act_726 (by decide) (fun _ => ?_) (fun q => absurd rfl q)
    exact act_x746 hC t ht hj (lv_sub hl [2, 3, 4, 1, 5, 0, 6, 7, 8, 9] rfl)
  · obtain ⟨j, hj⟩ : ∃ j, mp τA t = j + 1 := ⟨mp τA t - 1, by have : ¬ mp τA t + 1 ≤ 1 := fun z => c714 (nI_le z (by decide)); omega⟩
    refine lv_iconst (v := 1) hx hb dL_act_717 (by decide) ?_
    refine lv_goto (tgt := 722) hx hb dL_act_718 (by decide) ?_
    refine lv_istore (lv' := [(7, .int 1), (9, .int (nI (mp τA t + 1))), (0, .ref (a 0)), (1, .ref (bA 0)), (2, .int x), (8, .int (nI (ms τA t))), (6, .int (nI y)), (5, .int (nI t)), (4, .int (nI k)), (3, .int (nI (mn τA)))]) hx hb dL_act_722 hl (by decide) rfl (fun ls hl => ?_)
    refine lv_iload hx hb dL_act_724 (lv_at hl 0 rfl) ?_
    refine lv_if_eq (tgt := 746) hx hb dL_act_726 (by decide) (fun q => absurd q ((by decide))) (fun _ => ?_)
    refine lv_aload_n hx hb dL_act_729 rfl (lv_at hl 3 rfl) ?_
    refine s_get hx hb hts hts1 hown hK (hG0.up hk).s 1 (by decide) (by decide +kernel) rfl rfl dL_act_730 ?_
    refine lv_iload hx hb dL_act_733 (lv_at hl 7 rfl) ?_
    refine lv_aload_n hx hb dL_act_735 rfl (lv_at hl 3 rfl) ?_
    refine s_get hx hb hts hts1 hown hK (hG0.up hk).s 1 (by decide) (by decide +kernel) rfl rfl dL_act_736 ?_
    refine lv_iload hx hb dL_act_739 (lv_at hl 7 rfl) ?_
    refine s_ald hx hb hK (si_s (hG0.up hk).s) (k := t) ht (by omega) rfl dL_act_741 ?_
    have hsz := hS.1
    have hb2l := hG0.s.lt (i := 2) (Or.inl (by decide))
    refine l_less (N := mp τA t) (by omega) S (va_cwS 1 hts gL_act_L_less rfl rfl rfl hdL_less ⟨Nat.le_of_ble_eq_true rfl, Nat.le_of_ble_eq_true rfl⟩) hK hQ (si_t (hG0.up hk).s ht) hS actA_new hl.1 (Nat.le_of_ble_eq_true rfl) ⟨(by show 0 + 1 ≤ 210; omega), (by show 0 + 41 ≤ 8300; omega)⟩ dL_act_742 (fun ra H locs hz0 oq hra hR hS => ?_)
    have hk : ∀ z, z < s.heap.size → H[z]? = s.heap[z]? := fun z hz => (oq z (Nat.lt_of_lt_of_le hz hsz)).trans (hk z hz)
    have hra : s.heap.size ≤ ra := Nat.le_trans hsz hra
    refine s_ast hx hb hK hQ (si_s (hG0.up hk).s) ⟨_, _, hR⟩ (hG0.2.2.2.1.1 2 (Or.inl (by decide))) hS (k := t) ht (by omega) rfl dL_act_745 (fun H locs _ oq hO hS => ?_)
    have hR := gP1 ((gP1' hR).kept (oq ra (by omega)))
    have hG := LG.setT (τ' := mBk τA t j) hG0 ht hra actA_new (fun z h1 h2 => (oq z h2).trans (hk z h1)) hO (by rw [show mp (mBk τA t j) t + 1 = mp τA t from by rw [hj]; exact congrArg (· + 1) up_s]; exact hR) rfl rfl rfl (bk_row hj) bk_oth
    obtain ⟨bB, hbz, hG⟩ : ∃ bB : Nat → Nat, bB 0 = bA 0 ∧ LG _ E a bB σ _ H := ⟨_, by first | (rw [up_n (by omega), up_n (by omega)]) | (rw [up_n (by omega)]), hG⟩
    rw [← hbz] at hl
    exact act_t746 (τ := mBk τA t j) hC t j ht hj (by show 1 ≤ mn τA; omega) up_s rfl hG (h0.bk ht hj) hq0 hbz hS (by omega) (by omega) (lv_sub hl [2, 3, 4, 1, 5, 0, 6, 7, 8, 9] rfl)
set_option maxHeartbeats 4000000 in
set_option maxRecDepth 100000 in
theorem act_loop (hC : AC p l s m meth c E a bA σ τA x) (k t y : Nat) (htA : t < mk τA) : ∀ (d i : Nat) (σg : GS) (τ : MS) (b : Nat → Nat) (H : Heap) (locs : List Loc) (cells slots : Nat) (ls : Array Slot), LG (actA E a bA σ τA s.heap.size) E a b σ τ H → RR σg τ → RQ τ → b 0 = bA 0 → gFo t d σg = gFo t 40 σ → gFc t d σg + i = gFc t 40 σ → ms τ t < d → t < mk τ → 1 ≤ mn τ → va_S (actA E a bA σ τA s.heap.size) s.heap H locs → cells + 5 * d ≤ 210 → slots + 201 * d ≤ 8300 → lv_has ls 10 [(0, .ref (a 0)), (1, .ref (b 0)), (2, .int x), (9, .int (nI i)), (8, .int (nI (ms τA t))), (7, .int 1), (6, .int (nI y)), (5, .int (nI t)), (4, .int (nI k)), (3, .int (nI (mn τA)))] → aW p l e s m below meth c E a bA σ τA x H locs cells slots 775 ls [] := by
  obtain ⟨S, hr, hlocks, htab, hfl, hK, hQ, hZ, hG0, h0, hq0⟩ := id hC
  obtain ⟨hx, hb, hml, hown, hts⟩ := id S
  have hts1 := hinL_act
  have n4 := h0.1.1
  have k8 := h0.1.2.1
  intro d
  induction d with
  | zero =>
    intro i σg τ b H locs cells slots ls hG h hq hb0 hfo hfc h9
    omega
  | succ d ih =>
    intro i σg τ b H locs cells slots ls hG h hq hb0 hfo hfc hd ht h1 hS hcs hss hl
    have n5 := h.1.1
    have k9 := h.1.2.1
    have hy := h.mok.2.2.2.2.2.2.2.2 t ht
    have t7 := h.mok.2.2.2.2.2.2.1 t
    have hts1 := hinL_act
    have hsz := hS.1
    refine lv_aload_n hx hb dL_act_775 rfl (lv_at hl 1 rfl) ?_
    refine lv_aload_n hx hb dL_act_776 rfl (lv_at hl 1 rfl) ?_
    refine lv_iload hx hb dL_act_777 (lv_at hl 7 rfl) ?_
    refine s0p (As := [.int (nI t)]) (rest := [.ref (b 0)]) S (c_atS l E b σg τ h t ht) (cwV 1 hts gL_act_X1_at rfl rfl rfl hdX1_at ⟨Nat.le_of_ble_eq_true rfl, Nat.le_of_ble_eq_true rfl⟩) hK hG.s rfl hl.1 rfl (Nat.le_of_ble_eq_true rfl) ⟨by show cells ≤ 210; omega, by show slots ≤ 8300; omega⟩ dL_act_779 ?_
    refine s0p (As := [.int (nI (ms τ t))]) (rest := []) S (c_isFork l E b σg τ h (ms τ t) hy) (cwV 1 hts gL_act_X1_isFork rfl rfl rfl hdX1_isFork ⟨Nat.le_of_ble_eq_true rfl, Nat.le_of_ble_eq_true rfl⟩) hK hG.s rfl hl.1 rfl (Nat.le_of_ble_eq_true rfl) ⟨by show cells ≤ 210; omega, by show slots ≤ 8300; omega⟩ dL_act_782 ?_
    refine lv_if_eq (tgt := 821) hx hb dL_act_785 (by decide) (fun c785 => ?_) (fun c785 => ?_)
    · have hf : mf τ (ms τ t) = false := b2i_eq0.mp c785
      rw [gFo, h.st, h.ex hy, hf, if_pos (by decide)] at hfo
      rw [gFc, h.st, h.ex hy, hf, if_pos (by decide)] at hfc
      exact act_t821 hC t i htA (by omega) h1 hG (by rw [← hfo]; exact h) hq hb0 hS (by omega) (by omega) (lv_sub hl [0, 1, 2, 3, 4, 5, 6, 7, 8, 9] rfl)
    · have hf : mf τ (ms τ t) = true := b2i_ne0.mp c785
      have hto := (h.to hf (gPl σg (ms τ t))).2
      rw [gFo, h.st, h.ex hy, hf, if_neg (by decide)] at hfo
      rw [gFc, h.st, h.ex hy, hf, if_neg (by decide)] at hfc
      refine lv_aload_n hx hb dL_act_788 rfl (lv_at hl 1 rfl) ?_
      refine s_get hx hb hts hts1 hown hK hG.s 1 (by decide) (by decide +kernel) rfl rfl dL_act_789 ?_
      refine lv_iload hx hb dL_act_792 (lv_at hl 7 rfl) ?_
      refine lv_aload_n hx hb dL_act_794 rfl (lv_at hl 1 rfl) ?_
      refine s_get hx hb hts hts1 hown hK hG.s 1 (by decide) (by decide +kernel) rfl rfl dL_act_795 ?_
      refine lv_iload hx hb dL_act_798 (lv_at hl 7 rfl) ?_
      refine s_ald hx hb hK (si_s hG.s) (k := t) ht (by omega) rfl dL_act_800 ?_
      refine lv_aload_n hx hb dL_act_801 rfl (lv_at hl 1 rfl) ?_
      refine lv_aload_n hx hb dL_act_802 rfl (lv_at hl 1 rfl) ?_
      refine lv_iload hx hb dL_act_803 (lv_at hl 7 rfl) ?_
      refine s0p (As := [.int (nI t)]) (rest := [.ref (b 0), .ref (b (4 + 2 * t)), .int (nI t), .ref (b 2)]) S (c_atS l E b σg τ h t ht) (cwV 1 hts gL_act_X1_at rfl rfl rfl hdX1_at ⟨Nat.le_of_ble_eq_true rfl, Nat.le_of_ble_eq_true rfl⟩) hK hG.s rfl hl.1 rfl (Nat.le_of_ble_eq_true rfl) ⟨by show cells ≤ 210; omega, by show slots ≤ 8300; omega⟩ dL_act_805 ?_
      refine s0i (As := [.int (nI (ms τ t))]) (rest := [.ref (b (4 + 2 * t)), .int (nI t), .ref (b 2)]) S (c_next l E b σg τ h (ms τ t) hy hf) (cwV 1 hts gL_act_X1_next rfl rfl rfl hdX1_next ⟨Nat.le_of_ble_eq_true rfl, Nat.le_of_ble_eq_true rfl⟩) hK hG.s hS rfl hl.1 rfl (Nat.le_of_ble_eq_true rfl) ⟨by show cells + 4 ≤ 210; omega, by show slots + 160 ≤ 8300; omega⟩ dL_act_808 (fun H locs _ hkp hS => ?_)
      have hG := hG.up hkp
      have hsz := hS.1
      refine l_with_ (N := mp τ t + 1) (by omega) S (va_cwS 2 hts gL_act_X1_with_ rfl rfl rfl hdX1_with_ ⟨Nat.le_of_ble_eq_true rfl, Nat.le_of_ble_eq_true rfl⟩) hK hQ (si_t hG.s ht) hS actA_new hl.1 (Nat.le_of_ble_eq_true rfl) ⟨by show cells + 4 + 1 ≤ 210; omega, by show slots + 160 + 41 ≤ 8300; omega⟩ dL_act_811 (fun ra H locs hz0 oq hra hR hS => ?_)
      have hG1 := hG.up oq
      have hb2l := hG.s.lt (i := 2) (Or.inl (by decide))
      refine s_ast hx hb hK hQ (si_s hG1.s) ⟨_, _, hR⟩ (hG.2.2.2.1.1 2 (Or.inl (by decide))) hS (k := t) ht (by omega) rfl dL_act_814 (fun H locs _ oq2 hO hS => ?_)
      have hR := gP1 ((gP1' hR).kept (oq2 ra (by omega)))
      rw [(h.to hf (gPl σg (ms τ t))).1] at hR
      have hG := LG.setT (τ' := mGo τ t (mTo τ (ms τ t) (gPl σg (ms τ t)))) hG ht hra (fun z hz => actA_new z (Nat.le_trans hsz hz)) (fun z h1 h2 => (oq2 z h2).trans (oq z h1)) hO (by rw [show mp (mGo τ t (mTo τ (ms τ t) (gPl σg (ms τ t)))) t = mp τ t + 1 from up_s]; exact hR) rfl rfl rfl go_row (go_oth h)
      refine lv_iinc (v := nI (i + 1)) (lv' := [(9, .int (nI (i + 1))), (0, .ref (a 0)), (1, .ref (b 0)), (2, .int x), (8, .int (nI (ms τA t))), (7, .int 1), (6, .int (nI y)), (5, .int (nI t)), (4, .int (nI k)), (3, .int (nI (mn τA)))]) hx hb dL_act_815 hl (k := 3) rfl (nI_1 i) (by decide) rfl (fun ls hl => ?_)
      refine lv_goto (tgt := 775) hx hb dL_act_818 (by decide) ?_
      obtain ⟨b2, hbz, hG⟩ : ∃ b2 : Nat → Nat, b2 0 = b 0 ∧ LG _ E a b2 σ _ H := ⟨_, by rw [up_n (by omega)], hG⟩
      rw [← hbz] at hl
      exact ih (i + 1) (gWalk σg t (gPl σg (ms τ t))) (mGo τ t (mTo τ (ms τ t) (gPl σg (ms τ t)))) b2 H locs _ _ ls hG (h.go ht hf _) hq (hbz.trans hb0) hfo (by omega) (by rw [show ms (mGo τ t (mTo τ (ms τ t) (gPl σg (ms τ t)))) t = mTo τ (ms τ t) (gPl σg (ms τ t)) from up_s]; omega) ht h1 hS (by omega) (by omega) (lv_sub hl [1, 2, 3, 0, 4, 5, 6, 7, 8, 9] rfl)
set_option maxHeartbeats 4000000 in
set_option maxRecDepth 100000 in
theorem act_c772 (hC : AC p l s m meth c E a bA σ τA x) {k y : Nat} (t : Nat) (ht : t < mk τA) {ls : Array Slot} (hl : lv_has ls 10 [(0, .ref (a 0)), (1, .ref (bA 0)), (2, .int x), (8, .int (nI (ms τA t))), (7, .int 1), (6, .int (nI y)), (5, .int (nI t)), (4, .int (nI k)), (3, .int (nI (mn τA)))]) : aW p l e s m below meth c E a bA σ τA x s.heap [] 0 0 772 ls [] := by
  obtain ⟨S, hr, hlocks, htab, hfl, hK, hQ, hZ, hG0, h0, hq0⟩ := id hC
  obtain ⟨hx, hb, hml, hown, hts⟩ := id S
  have hts1 := hinL_act
  have n4 := h0.1.1
  have k8 := h0.1.2.1
  have hk : ∀ z, z < s.heap.size → s.heap[z]? = s.heap[z]? := fun _ _ => rfl
  have hS : va_S (actA E a bA σ τA s.heap.size) s.heap s.heap [] := va_S.rf
  have hy := h0.mok.2.2.2.2.2.2.2.2 t ht
  have t7 := h0.mok.2.2.2.2.2.2.1 t
  refine lv_iconst (v := 0) hx hb dL_act_772 (by decide) ?_
  refine lv_istore (lv' := [(9, .int 0), (0, .ref (a 0)), (1, .ref (bA 0)), (2, .int x), (8, .int (nI (ms τA t))), (7, .int 1), (6, .int (nI y)), (5, .int (nI t)), (4, .int (nI k)), (3, .int (nI (mn τA)))]) hx hb dL_act_773 hl (by decide) rfl (fun ls hl => ?_)
  exact act_loop hC k t y ht 40 0 σ τA bA s.heap [] 0 0 ls hG0 h0 hq0 rfl rfl (by omega) (by omega) ht (by omega) hS (by omega) (by omega) (lv_sub hl [1, 2, 3, 0, 4, 5, 6, 7, 8, 9] rfl)
set_option maxHeartbeats 4000000 in
set_option maxRecDepth 100000 in
theorem act_59 (hC : AC p l s m meth c E a bA σ τA x) (k t y : Nat) (hk1 : mn τA ≠ 0 → k < mn τA) (ht1 : mk τA ≠ 0 → t < mk τA) (hy14 : y < 14) {ls : Array Slot} (hl : lv_has ls 10 [(0, .ref (a 0)), (1, .ref (bA 0)), (2, .int x), (7, .int 1), (6, .int (nI y)), (5, .int (nI t)), (4, .int (nI k)), (3, .int (nI (mn τA)))]) : aW p l e s m below meth c E a bA σ τA x s.heap [] 0 0 59 ls [] := by
  obtain ⟨S, hr, hlocks, htab, hfl, hK, hQ, hZ, hG0, h0, hq0⟩ := id hC
  obtain ⟨hx, hb, hml, hown, hts⟩ := id S
  have hts1 := hinL_act
  have n4 := h0.1.1
  have k8 := h0.1.2.1
  refine lv_iload_n hx hb dL_act_59 rfl (lv_at hl 7 rfl) ?_
  refine lv_if_eq (tgt := 69) hx hb dL_act_60 (by decide) (fun c60 => ?_) (fun c60 => ?_)
  · exact act_c69 hC (lv_sub hl [0, 1, 2, 3, 4, 5, 6, 7] rfl)
  · have hn0 : mn τA ≠ 0 := fun z => c60 (by rw [z]; rfl)
    have hk2 := hk1 hn0
    refine lv_iload hx hb dL_act_63 (lv_at hl 4 rfl) ?_
    refine lv_iconst (v := nI 2) hx hb dL_act_65 (by decide) ?_
    refine lv_icmp_ge (tgt := 169) hx hb dL_act_66 (by decide) (fun c66 => ?_) (fun c66 => ?_)
    · have y66 : 2 ≤ y := (nI_leI (by decide) (by omega)).mp c66
      refine lv_iload hx hb dL_act_169 (lv_at hl 4 rfl) ?_
      refine lv_iconst (v := nI 5) hx hb dL_act_171 (by decide) ?_
      refine lv_icmp_ge (tgt := 292) hx hb dL_act_172 (by decide) (fun c172 => ?_) (fun c172 => ?_)
      · have y172 : 5 ≤ y := (nI_leI (by decide) (by omega)).mp c172
        refine lv_iload hx hb dL_act_292 (lv_at hl 4 rfl) ?_
        refine lv_bipush (v := nI 7) hx hb dL_act_294 (by decide) ?_
        refine lv_icmp_ge (tgt := 392) hx hb dL_act_296 (by decide) (fun c296 => ?_) (fun c296 => ?_)
        · refine lv_iload hx hb dL_act_392 (lv_at hl 4 rfl) ?_
          refine lv_bipush (v := nI 7) hx hb dL_act_394 (by decide) ?_
          refine lv_icmp_ne (tgt := 464) hx hb dL_act_396 (by decide) (fun c396 => ?_) (fun c396 => ?_)
          · have y396 : y ≠ 7 := fun z => c396 (by rw [z])
            refine lv_aload_n hx hb dL_act_464 rfl (lv_at hl 1 rfl) ?_
            refine s_get hx hb hts hts1 hown hK hG0.s 1 (by decide) (by decide +kernel) rfl rfl dL_act_465 ?_
            refine s_alenR hx hb hK (si_s hG0.s) dL_act_468 ?_
            refine lv_if_eq (tgt := 479) hx hb dL_act_469 (by decide) (fun c469 => ?_) (fun c469 => ?_)
            · exact act_c479 hC k hk2 (lv_sub hl [0, 1, 2, 3, 4, 5, 6, 7] rfl)
            · have hk0 : mk τA ≠ 0 := fun z => c469 (by rw [z]; rfl)
              have ht2 := ht1 hk0
              refine lv_iload hx hb dL_act_472 (lv_at hl 4 rfl) ?_
              refine lv_bipush (v := nI 8) hx hb dL_act_474 (by decide) ?_
              refine lv_icmp_ne (tgt := 567) hx hb dL_act_476 (by decide) (fun c476 => ?_) (fun c476 => ?_)
              · have y476 : y ≠ 8 := fun z => c476 (by rw [z])
                refine lv_aload_n hx hb dL_act_567 rfl (lv_at hl 1 rfl) ?_
                refine lv_iload hx hb dL_act_568 (lv_at hl 5 rfl) ?_
                refine s0p (As := [.int (nI t)]) (rest := []) S (c_atS l E bA σ τA h0 t ht2) (cwV 1 hts gL_act_X1_at rfl rfl rfl hdX1_at ⟨Nat.le_of_ble_eq_true rfl, Nat.le_of_ble_eq_true rfl⟩) hK hG0.s rfl hl.1 rfl (Nat.le_of_ble_eq_true rfl) ⟨by show 0 ≤ 210; omega, by show 0 ≤ 8300; omega⟩ dL_act_570 ?_
                refine lv_istore (lv' := [(8, .int (nI (ms τA t))), (0, .ref (a 0)), (1, .ref (bA 0)), (2, .int x), (7, .int 1), (6, .int (nI y)), (5, .int (nI t)), (4, .int (nI k)), (3, .int (nI (mn τA)))]) hx hb dL_act_573 hl (by decide) rfl (fun ls hl => ?_)
                refine lv_iload hx hb dL_act_575 (lv_at hl 5 rfl) ?_
                by_cases y12 : 9 ≤ y ∧ y ≤ 12
                · rcases (show y = 9 ∨ y = 10 ∨ y = 11 ∨ y = 12 by omega) with rfl | rfl | rfl | rfl
                  · refine lv_tableIn (tgt := 608) (off := 31) hx hb dL_act_577 (by decide) (by decide) (by decide) (by decide) ?_
                    exact act_c608 hC t ht2 (lv_sub hl [1, 2, 3, 0, 4, 5, 6, 7, 8] rfl)
                  · refine lv_tableIn (tgt := 608) (off := 31) hx hb dL_act_577 (by decide) (by decide) (by decide) (by decide) ?_
                    exact act_c608 hC t ht2 (lv_sub hl [1, 2, 3, 0, 4, 5, 6, 7, 8] rfl)
                  · refine lv_tableIn (tgt := 608) (off := 31) hx hb dL_act_577 (by decide) (by decide) (by decide) (by decide) ?_
                    exact act_c608 hC t ht2 (lv_sub hl [1, 2, 3, 0, 4, 5, 6, 7, 8] rfl)
                  · refine lv_tableIn (tgt := 701) (off := 124) hx hb dL_act_577 (by decide) (by decide) (by decide) (by decide) ?_
                    exact act_c701 hC t ht2 (lv_sub hl [1, 2, 3, 0, 4, 5, 6, 7, 8] rfl)
                · refine lv_tableOut (tgt := 772) hx hb dL_act_577 (by rw [nI_toInt (by omega)]; omega) (by decide) ?_
                  exact act_c772 hC t ht2 (lv_sub hl [1, 2, 3, 0, 4, 5, 6, 7, 8] rfl)
              · have y476 : y = 8 := (nI_eq (by omega) (by decide)).mp c476
                exact act_c479 hC k hk2 (lv_sub hl [0, 1, 2, 3, 4, 5, 6, 7] rfl)
          · have y396 : y = 7 := (nI_eq (by omega) (by decide)).mp c396
            refine lv_aload_n hx hb dL_act_399 rfl (lv_at hl 1 rfl) ?_
            refine lv_iload hx hb dL_act_400 (lv_at hl 6 rfl) ?_
            refine s0p (As := [.int (nI k)]) (rest := []) S (c_isFork l E bA σ τA h0 k hk2) (cwV 1 hts gL_act_X1_isFork rfl rfl rfl hdX1_isFork ⟨Nat.le_of_ble_eq_true rfl, Nat.le_of_ble_eq_true rfl⟩) hK hG0.s rfl hl.1 rfl (Nat.le_of_ble_eq_true rfl) ⟨by show 0 ≤ 210; omega, by show 0 ≤ 8300; omega⟩ dL_act_402 ?_
            refine lv_if_eq (tgt := 464) hx hb dL_act_405 (by decide) (fun c405 => ?_) (fun c405 => ?_)
            · refine lv_aload_n hx hb dL_act_464 rfl (lv_at hl 1 rfl) ?_
              refine s_get hx hb hts hts1 hown hK hG0.s 1 (by decide) (by decide +kernel) rfl rfl dL_act_465 ?_
              refine s_alenR hx hb hK (si_s hG0.s) dL_act_468 ?_
              refine lv_if_eq (tgt := 479) hx hb dL_act_469 (by decide) (fun c469 => ?_) (fun c469 => ?_)
              · exact act_c479 hC k hk2 (lv_sub hl [0, 1, 2, 3, 4, 5, 6, 7] rfl)
              · have hk0 : mk τA ≠ 0 := fun z => c469 (by rw [z]; rfl)
                have ht2 := ht1 hk0
                refine lv_iload hx hb dL_act_472 (lv_at hl 4 rfl) ?_
                refine lv_bipush (v := nI 8) hx hb dL_act_474 (by decide) ?_
                refine lv_icmp_ne (tgt := 567) hx hb dL_act_476 (by decide) (fun c476 => ?_) (fun c476 => ?_)
                · have y476 : y ≠ 8 := fun z => c476 (by rw [z])
                  refine lv_aload_n hx hb dL_act_567 rfl (lv_at hl 1 rfl) ?_
                  refine lv_iload hx hb dL_act_568 (lv_at hl 5 rfl) ?_
                  refine s0p (As := [.int (nI t)]) (rest := []) S (c_atS l E bA σ τA h0 t ht2) (cwV 1 hts gL_act_X1_at rfl rfl rfl hdX1_at ⟨Nat.le_of_ble_eq_true rfl, Nat.le_of_ble_eq_true rfl⟩) hK hG0.s rfl hl.1 rfl (Nat.le_of_ble_eq_true rfl) ⟨by show 0 ≤ 210; omega, by show 0 ≤ 8300; omega⟩ dL_act_570 ?_
                  refine lv_istore (lv' := [(8, .int (nI (ms τA t))), (0, .ref (a 0)), (1, .ref (bA 0)), (2, .int x), (7, .int 1), (6, .int (nI y)), (5, .int (nI t)), (4, .int (nI k)), (3, .int (nI (mn τA)))]) hx hb dL_act_573 hl (by decide) rfl (fun ls hl => ?_)
                  refine lv_iload hx hb dL_act_575 (lv_at hl 5 rfl) ?_
                  by_cases y12 : 9 ≤ y ∧ y ≤ 12
                  · rcases (show y = 9 ∨ y = 10 ∨ y = 11 ∨ y = 12 by omega) with rfl | rfl | rfl | rfl
                    · refine lv_tableIn (tgt := 608) (off := 31) hx hb dL_act_577 (by decide) (by decide) (by decide) (by decide) ?_
                      exact act_c608 hC t ht2 (lv_sub hl [1, 2, 3, 0, 4, 5, 6, 7, 8] rfl)
                    · refine lv_tableIn (tgt := 608) (off := 31) hx hb dL_act_577 (by decide) (by decide) (by decide) (by decide) ?_
                      exact act_c608 hC t ht2 (lv_sub hl [1, 2, 3, 0, 4, 5, 6, 7, 8] rfl)
                    · refine lv_tableIn (tgt := 608) (off := 31) hx hb dL_act_577 (by decide) (by decide) (by decide) (by decide) ?_
                      exact act_c608 hC t ht2 (lv_sub hl [1, 2, 3, 0, 4, 5, 6, 7, 8] rfl)
                    · refine lv_tableIn (tgt := 701) (off := 124) hx hb dL_act_577 (by decide) (by decide) (by decide) (by decide) ?_
                      exact act_c701 hC t ht2 (lv_sub hl [1, 2, 3, 0, 4, 5, 6, 7, 8] rfl)
                  · refine lv_tableOut (tgt := 772) hx hb dL_act_577 (by rw [nI_toInt (by omega)]; omega) (by decide) ?_
                    exact act_c772 hC t ht2 (lv_sub hl [1, 2, 3, 0, 4, 5, 6, 7, 8] rfl)
                · have y476 : y = 8 := (nI_eq (by omega) (by decide)).mp c476
                  exact act_c479 hC k hk2 (lv_sub hl [0, 1, 2, 3, 4, 5, 6, 7] rfl)
            · have hf : mf τA k = true := b2i_ne0.mp c405
              exact act_c408 hC k hk2 hf (lv_sub hl [0, 1, 2, 3, 4, 5, 6, 7] rfl)
        · refine lv_aload_n hx hb dL_act_299 rfl (lv_at hl 1 rfl) ?_
          refine lv_iload hx hb dL_act_300 (lv_at hl 6 rfl) ?_
          refine s0p (As := [.int (nI k)]) (rest := []) S (c_isFork l E bA σ τA h0 k hk2) (cwV 1 hts gL_act_X1_isFork rfl rfl rfl hdX1_isFork ⟨Nat.le_of_ble_eq_true rfl, Nat.le_of_ble_eq_true rfl⟩) hK hG0.s rfl hl.1 rfl (Nat.le_of_ble_eq_true rfl) ⟨by show 0 ≤ 210; omega, by show 0 ≤ 8300; omega⟩ dL_act_302 ?_
          refine lv_if_ne (tgt := 392) hx hb dL_act_305 (by decide) (fun c305 => ?_) (fun c305 => ?_)
          · refine lv_iload hx hb dL_act_392 (lv_at hl 4 rfl) ?_
            refine lv_bipush (v := nI 7) hx hb dL_act_394 (by decide) ?_
            refine lv_icmp_ne (tgt := 464) hx hb dL_act_396 (by decide) (fun c396 => ?_) (fun c396 => ?_)
            · have y396 : y ≠ 7 := fun z => c396 (by rw [z])
              refine lv_aload_n hx hb dL_act_464 rfl (lv_at hl 1 rfl) ?_
              refine s_get hx hb hts hts1 hown hK hG0.s 1 (by decide) (by decide +kernel) rfl rfl dL_act_465 ?_
              refine s_alenR hx hb hK (si_s hG0.s) dL_act_468 ?_
              refine lv_if_eq (tgt := 479) hx hb dL_act_469 (by decide) (fun c469 => ?_) (fun c469 => ?_)
              · exact act_c479 hC k hk2 (lv_sub hl [0, 1, 2, 3, 4, 5, 6, 7] rfl)
              · have hk0 : mk τA ≠ 0 := fun z => c469 (by rw [z]; rfl)
                have ht2 := ht1 hk0
                refine lv_iload hx hb dL_act_472 (lv_at hl 4 rfl) ?_
                refine lv_bipush (v := nI 8) hx hb dL_act_474 (by decide) ?_
                refine lv_icmp_ne (tgt := 567) hx hb dL_act_476 (by decide) (fun c476 => ?_) (fun c476 => ?_)
                · have y476 : y ≠ 8 := fun z => c476 (by rw [z])
                  refine lv_aload_n hx hb dL_act_567 rfl (lv_at hl 1 rfl) ?_
                  refine lv_iload hx hb dL_act_568 (lv_at hl 5 rfl) ?_
                  refine s0p (As := [.int (nI t)]) (rest := []) S (c_atS l E bA σ τA h0 t ht2) (cwV 1 hts gL_act_X1_at rfl rfl rfl hdX1_at ⟨Nat.le_of_ble_eq_true rfl, Nat.le_of_ble_eq_true rfl⟩) hK hG0.s rfl hl.1 rfl (Nat.le_of_ble_eq_true rfl) ⟨by show 0 ≤ 210; omega, by show 0 ≤ 8300; omega⟩ dL_act_570 ?_
                  refine lv_istore (lv' := [(8, .int (nI (ms τA t))), (0, .ref (a 0)), (1, .ref (bA 0)), (2, .int x), (7, .int 1), (6, .int (nI y)), (5, .int (nI t)), (4, .int (nI k)), (3, .int (nI (mn τA)))]) hx hb dL_act_573 hl (by decide) rfl (fun ls hl => ?_)
                  refine lv_iload hx hb dL_act_575 (lv_at hl 5 rfl) ?_
                  by_cases y12 : 9 ≤ y ∧ y ≤ 12
                  · rcases (show y = 9 ∨ y = 10 ∨ y = 11 ∨ y = 12 by omega) with rfl | rfl | rfl | rfl
                    · refine lv_tableIn (tgt := 608) (off := 31) hx hb dL_act_577 (by decide) (by decide) (by decide) (by decide) ?_
                      exact act_c608 hC t ht2 (lv_sub hl [1, 2, 3, 0, 4, 5, 6, 7, 8] rfl)
                    · refine lv_tableIn (tgt := 608) (off := 31) hx hb dL_act_577 (by decide) (by decide) (by decide) (by decide) ?_
                      exact act_c608 hC t ht2 (lv_sub hl [1, 2, 3, 0, 4, 5, 6, 7, 8] rfl)
                    · refine lv_tableIn (tgt := 608) (off := 31) hx hb dL_act_577 (by decide) (by decide) (by decide) (by decide) ?_
                      exact act_c608 hC t ht2 (lv_sub hl [1, 2, 3, 0, 4, 5, 6, 7, 8] rfl)
                    · refine lv_tableIn (tgt := 701) (off := 124) hx hb dL_act_577 (by decide) (by decide) (by decide) (by decide) ?_
                      exact act_c701 hC t ht2 (lv_sub hl [1, 2, 3, 0, 4, 5, 6, 7, 8] rfl)
                  · refine lv_tableOut (tgt := 772) hx hb dL_act_577 (by rw [nI_toInt (by omega)]; omega) (by decide) ?_
                    exact act_c772 hC t ht2 (lv_sub hl [1, 2, 3, 0, 4, 5, 6, 7, 8] rfl)
                · have y476 : y = 8 := (nI_eq (by omega) (by decide)).mp c476
                  exact act_c479 hC k hk2 (lv_sub hl [0, 1, 2, 3, 4, 5, 6, 7] rfl)
            · have y396 : y = 7 := (nI_eq (by omega) (by decide)).mp c396
              refine lv_aload_n hx hb dL_act_399 rfl (lv_at hl 1 rfl) ?_
              refine lv_iload hx hb dL_act_400 (lv_at hl 6 rfl) ?_
              refine s0p (As := [.int (nI k)]) (rest := []) S (c_isFork l E bA σ τA h0 k hk2) (cwV 1 hts gL_act_X1_isFork rfl rfl rfl hdX1_isFork ⟨Nat.le_of_ble_eq_true rfl, Nat.le_of_ble_eq_true rfl⟩) hK hG0.s rfl hl.1 rfl (Nat.le_of_ble_eq_true rfl) ⟨by show 0 ≤ 210; omega, by show 0 ≤ 8300; omega⟩ dL_act_402 ?_
              refine lv_if_eq (tgt := 464) hx hb dL_act_405 (by decide) (fun c405 => ?_) (fun c405 => ?_)
              · refine lv_aload_n hx hb dL_act_464 rfl (lv_at hl 1 rfl) ?_
                refine s_get hx hb hts hts1 hown hK hG0.s 1 (by decide) (by decide +kernel) rfl rfl dL_act_465 ?_
                refine s_alenR hx hb hK (si_s hG0.s) dL_act_468 ?_
                refine lv_if_eq (tgt := 479) hx hb dL_act_469 (by decide) (fun c469 => ?_) (fun c469 => ?_)
                · exact act_c479 hC k hk2 (lv_sub hl [0, 1, 2, 3, 4, 5, 6, 7] rfl)
                · have hk0 : mk τA ≠ 0 := fun z => c469 (by rw [z]; rfl)
                  have ht2 := ht1 hk0
                  refine lv_iload hx hb dL_act_472 (lv_at hl 4 rfl) ?_
                  refine lv_bipush (v := nI 8) hx hb dL_act_474 (by decide) ?_
                  refine lv_icmp_ne (tgt := 567) hx hb dL_act_476 (by decide) (fun c476 => ?_) (fun c476 => ?_)
                  · have y476 : y ≠ 8 := fun z => c476 (by rw [z])
                    refine lv_aload_n hx hb dL_act_567 rfl (lv_at hl 1 rfl) ?_
                    refine lv_iload hx hb dL_act_568 (lv_at hl 5 rfl) ?_
                    refine s0p (As := [.int (nI t)]) (rest := []) S (c_atS l E bA σ τA h0 t ht2) (cwV 1 hts gL_act_X1_at rfl rfl rfl hdX1_at ⟨Nat.le_of_ble_eq_true rfl, Nat.le_of_ble_eq_true rfl⟩) hK hG0.s rfl hl.1 rfl (Nat.le_of_ble_eq_true rfl) ⟨by show 0 ≤ 210; omega, by show 0 ≤ 8300; omega⟩ dL_act_570 ?_
                    refine lv_istore (lv' := [(8, .int (nI (ms τA t))), (0, .ref (a 0)), (1, .ref (bA 0)), (2, .int x), (7, .int 1), (6, .int (nI y)), (5, .int (nI t)), (4, .int (nI k)), (3, .int (nI (mn τA)))]) hx hb dL_act_573 hl (by decide) rfl (fun ls hl => ?_)
                    refine lv_iload hx hb dL_act_575 (lv_at hl 5 rfl) ?_
                    by_cases y12 : 9 ≤ y ∧ y ≤ 12
                    · rcases (show y = 9 ∨ y = 10 ∨ y = 11 ∨ y = 12 by omega) with rfl | rfl | rfl | rfl
                      · refine lv_tableIn (tgt := 608) (off := 31) hx hb dL_act_577 (by decide) (by decide) (by decide) (by decide) ?_
                        exact act_c608 hC t ht2 (lv_sub hl [1, 2, 3, 0, 4, 5, 6, 7, 8] rfl)
                      · refine lv_tableIn (tgt := 608) (off := 31) hx hb dL_act_577 (by decide) (by decide) (by decide) (by decide) ?_
                        exact act_c608 hC t ht2 (lv_sub hl [1, 2, 3, 0, 4, 5, 6, 7, 8] rfl)
                      · refine lv_tableIn (tgt := 608) (off := 31) hx hb dL_act_577 (by decide) (by decide) (by decide) (by decide) ?_
                        exact act_c608 hC t ht2 (lv_sub hl [1, 2, 3, 0, 4, 5, 6, 7, 8] rfl)
                      · refine lv_tableIn (tgt := 701) (off := 124) hx hb dL_act_577 (by decide) (by decide) (by decide) (by decide) ?_
                        exact act_c701 hC t ht2 (lv_sub hl [1, 2, 3, 0, 4, 5, 6, 7, 8] rfl)
                    · refine lv_tableOut (tgt := 772) hx hb dL_act_577 (by rw [nI_toInt (by omega)]; omega) (by decide) ?_
                      exact act_c772 hC t ht2 (lv_sub hl [1, 2, 3, 0, 4, 5, 6, 7, 8] rfl)
                  · have y476 : y = 8 := (nI_eq (by omega) (by decide)).mp c476
                    exact act_c479 hC k hk2 (lv_sub hl [0, 1, 2, 3, 4, 5, 6, 7] rfl)
              · have hf : mf τA k = true := b2i_ne0.mp c405
                exact act_c408 hC k hk2 hf (lv_sub hl [0, 1, 2, 3, 4, 5, 6, 7] rfl)
          · have hf : mf τA k = false := b2i_eq0.mp c305
            exact act_c308 hC k hk2 hf ((hq0 k hk2).1 hf).1 (h0.e hk2 hf).2.2.2.1 (lv_sub hl [0, 1, 2, 3, 4, 5, 6, 7] rfl)
      · exact act_c175 hC k hk2 (lv_sub hl [0, 1, 2, 3, 4, 5, 6, 7] rfl)
    · exact act_c69 hC (lv_sub hl [0, 1, 2, 3, 4, 5, 6, 7] rfl)
end ACT2
set_option maxHeartbeats 4000000 in
set_option maxRecDepth 100000 in
theorem c_act (l : Launch) (hfl : l.stackTraces = false) (E : GE) (a bA : Nat → Nat) (σ : GS) (τA : MS) (h0 : RR σ τA) (hq0 : RQ τA) (sz : Nat) (x : Int32) : Met l yL_act wsL_act aRm (va_Pc (aAV a bA x) (gLY E sz (LG (fun _ => True) E a bA σ τA))) (gQA E a bA σ τA sz) 210 8300 (actA E a bA σ τA sz) := by
  refine w_met3 (cc := cL_act) (maxL := 10) (ret := some .boolean) (hh := aTb) (by decide) rfl (Nat.le_of_ble_eq_true rfl) ?_
  intro p e s m below meth c ls S hr hlocks htab hB hl
  obtain ⟨hsz, hG1, hK, hQ, hZ⟩ := hB
  subst hsz
  have hG0 := hG1.act (sz := s.heap.size)
  have hC : AC p l s m meth c E a bA σ τA x := ⟨S, hr, hlocks, htab, hfl, hK, hQ, hZ, hG0, h0, hq0⟩
  obtain ⟨hx, hb, hml, hown, hts⟩ := id S
  have hts1 := hinL_act
  have n4 := h0.1.1
  have k8 := h0.1.2.1
  have hl : lv_has ls 10 [(0, .ref (a 0)), (1, .ref (bA 0)), (2, .int x)] := hl
  refine lv_aload_n hx hb dL_act_0 rfl (lv_at hl 1 rfl) ?_
  refine s_get hx hb hts hts1 hown hK hG0.s 0 (by decide) (by decide +kernel) rfl rfl dL_act_1 ?_
  refine s_alenR hx hb hK (si_p hG0.s) dL_act_4 ?_
  refine lv_istore_n (lv' := [(3, .int (nI (mn τA))), (0, .ref (a 0)), (1, .ref (bA 0)), (2, .int x)]) hx hb dL_act_5 rfl hl (by decide) rfl (fun ls hl => ?_)
  refine lv_iload_n hx hb dL_act_6 rfl (lv_at hl 0 rfl) ?_
  refine lv_if_ne (tgt := 14) hx hb dL_act_7 (by decide) (fun c7 => ?_) (fun c7 => ?_)
  · have hn0 : mn τA ≠ 0 := fun z => c7 (by rw [z]; rfl)
    refine lv_iload_n hx hb dL_act_14 rfl (lv_at hl 3 rfl) ?_
    refine lv_iconst (v := nI 3) hx hb dL_act_15 (by decide) ?_
    refine lv_ishr hx hb dL_act_16 ?_
    refine lv_iload_n hx hb dL_act_17 rfl (lv_at hl 0 rfl) ?_
    refine l_below (N := mn τA) (Nat.pos_of_ne_zero hn0) (by omega) S (va_cwS 2 hts gL_act_L_below rfl rfl rfl hdL_below ⟨Nat.le_of_ble_eq_true rfl, Nat.le_of_ble_eq_true rfl⟩) hK hl.1 (Nat.le_of_ble_eq_true rfl) ⟨by show 0 ≤ 210; omega, by show 0 ≤ 8300; omega⟩ dL_act_18 (fun j18 hj18 => ?_)
    refine lv_istore (lv' := [(4, .int (nI j18)), (3, .int (nI (mn τA))), (0, .ref (a 0)), (1, .ref (bA 0)), (2, .int x)]) hx hb dL_act_21 hl (by decide) rfl (fun ls hl => ?_)
    refine lv_aload_n hx hb dL_act_23 rfl (lv_at hl 3 rfl) ?_
    refine s_get hx hb hts hts1 hown hK hG0.s 1 (by decide) (by decide +kernel) rfl rfl dL_act_24 ?_
    refine s_alenR hx hb hK (si_s hG0.s) dL_act_27 ?_
    refine lv_if_ne (tgt := 35) hx hb dL_act_28 (by decide) (fun c28 => ?_) (fun c28 => ?_)
    · have hk0 : mk τA ≠ 0 := fun z => c28 (by rw [z]; rfl)
      refine lv_iload_n hx hb dL_act_35 rfl (lv_at hl 4 rfl) ?_
      refine lv_iconst (v := nI 4) hx hb dL_act_36 (by decide) ?_
      refine lv_ishr hx hb dL_act_37 ?_
      refine lv_aload_n hx hb dL_act_38 rfl (lv_at hl 3 rfl) ?_
      refine s_get hx hb hts hts1 hown hK hG0.s 1 (by decide) (by decide +kernel) rfl rfl dL_act_39 ?_
      refine s_alenR hx hb hK (si_s hG0.s) dL_act_42 ?_
      refine l_below (N := mk τA) (Nat.pos_of_ne_zero hk0) (by omega) S (va_cwS 2 hts gL_act_L_below rfl rfl rfl hdL_below ⟨Nat.le_of_ble_eq_true rfl, Nat.le_of_ble_eq_true rfl⟩) hK hl.1 (Nat.le_of_ble_eq_true rfl) ⟨by show 0 ≤ 210; omega, by show 0 ≤ 8300; omega⟩ dL_act_43 (fun j43 hj43 => ?_)
      refine lv_istore (lv' := [(5, .int (nI j43)), (4, .int (nI j18)), (3, .int (nI (mn τA))), (0, .ref (a 0)), (1, .ref (bA 0)), (2, .int x)]) hx hb dL_act_46 hl (by decide) rfl (fun ls hl => ?_)
      refine lv_iload_n hx hb dL_act_48 rfl (lv_at hl 5 rfl) ?_
      refine lv_bipush (v := nI 14) hx hb dL_act_49 (by decide) ?_
      refine l_below (N := 14) (by omega) (by omega) S (va_cwS 2 hts gL_act_L_below rfl rfl rfl hdL_below ⟨Nat.le_of_ble_eq_true rfl, Nat.le_of_ble_eq_true rfl⟩) hK hl.1 (Nat.le_of_ble_eq_true rfl) ⟨by show 0 ≤ 210; omega, by show 0 ≤ 8300; omega⟩ dL_act_51 (fun j51 hj51 => ?_)
      refine lv_istore (lv' := [(6, .int (nI j51)), (5, .int (nI j43)), (4, .int (nI j18)), (3, .int (nI (mn τA))), (0, .ref (a 0)), (1, .ref (bA 0)), (2, .int x)]) hx hb dL_act_54 hl (by decide) rfl (fun ls hl => ?_)
      refine lv_iconst (v := 1) hx hb dL_act_56 (by decide) ?_
      refine lv_istore (lv' := [(7, .int 1), (6, .int (nI j51)), (5, .int (nI j43)), (4, .int (nI j18)), (3, .int (nI (mn τA))), (0, .ref (a 0)), (1, .ref (bA 0)), (2, .int x)]) hx hb dL_act_57 hl (by decide) rfl (fun ls hl => ?_)
      exact act_59 hC j18 j43 j51 (fun z => by omega) (fun z => by omega) (by omega) (lv_sub hl [5, 6, 7, 0, 1, 2, 3, 4] rfl)
    · have hk0 : mk τA = 0 := (nI_eq (by omega) (by decide)).mp c28
      refine lv_iconst (v := 0) hx hb dL_act_31 (by decide) ?_
      refine lv_goto (tgt := 46) hx hb dL_act_32 (by decide) ?_
      refine lv_istore (lv' := [(5, .int 0), (4, .int (nI j18)), (3, .int (nI (mn τA))), (0, .ref (a 0)), (1, .ref (bA 0)), (2, .int x)]) hx hb dL_act_46 hl (by decide) rfl (fun ls hl => ?_)
      refine lv_iload_n hx hb dL_act_48 rfl (lv_at hl 5 rfl) ?_
      refine lv_bipush (v := nI 14) hx hb dL_act_49 (by decide) ?_
      refine l_below (N := 14) (by omega) (by omega) S (va_cwS 2 hts gL_act_L_below rfl rfl rfl hdL_below ⟨Nat.le_of_ble_eq_true rfl, Nat.le_of_ble_eq_true rfl⟩) hK hl.1 (Nat.le_of_ble_eq_true rfl) ⟨by show 0 ≤ 210; omega, by show 0 ≤ 8300; omega⟩ dL_act_51 (fun j51 hj51 => ?_)
      refine lv_istore (lv' := [(6, .int (nI j51)), (5, .int 0), (4, .int (nI j18)), (3, .int (nI (mn τA))), (0, .ref (a 0)), (1, .ref (bA 0)), (2, .int x)]) hx hb dL_act_54 hl (by decide) rfl (fun ls hl => ?_)
      refine lv_iconst (v := 1) hx hb dL_act_56 (by decide) ?_
      refine lv_istore (lv' := [(7, .int 1), (6, .int (nI j51)), (5, .int 0), (4, .int (nI j18)), (3, .int (nI (mn τA))), (0, .ref (a 0)), (1, .ref (bA 0)), (2, .int x)]) hx hb dL_act_57 hl (by decide) rfl (fun ls hl => ?_)
      exact act_59 hC j18 0 j51 (fun z => by omega) (fun z => by omega) (by omega) (lv_sub hl [5, 6, 7, 0, 1, 2, 3, 4] rfl)
  · have hn0 : mn τA = 0 := (nI_eq (by omega) (by decide)).mp c7
    refine lv_iconst (v := 0) hx hb dL_act_10 (by decide) ?_
    refine lv_goto (tgt := 21) hx hb dL_act_11 (by decide) ?_
    refine lv_istore (lv' := [(4, .int 0), (3, .int (nI (mn τA))), (0, .ref (a 0)), (1, .ref (bA 0)), (2, .int x)]) hx hb dL_act_21 hl (by decide) rfl (fun ls hl => ?_)
    refine lv_aload_n hx hb dL_act_23 rfl (lv_at hl 3 rfl) ?_
    refine s_get hx hb hts hts1 hown hK hG0.s 1 (by decide) (by decide +kernel) rfl rfl dL_act_24 ?_
    refine s_alenR hx hb hK (si_s hG0.s) dL_act_27 ?_
    refine lv_if_ne (tgt := 35) hx hb dL_act_28 (by decide) (fun c28 => ?_) (fun c28 => ?_)
    · have hk0 : mk τA ≠ 0 := fun z => c28 (by rw [z]; rfl)
      refine lv_iload_n hx hb dL_act_35 rfl (lv_at hl 4 rfl) ?_
      refine lv_iconst (v := nI 4) hx hb dL_act_36 (by decide) ?_
      refine lv_ishr hx hb dL_act_37 ?_
      refine lv_aload_n hx hb dL_act_38 rfl (lv_at hl 3 rfl) ?_
      refine s_get hx hb hts hts1 hown hK hG0.s 1 (by decide) (by decide +kernel) rfl rfl dL_act_39 ?_
      refine s_alenR hx hb hK (si_s hG0.s) dL_act_42 ?_
      refine l_below (N := mk τA) (Nat.pos_of_ne_zero hk0) (by omega) S (va_cwS 2 hts gL_act_L_below rfl rfl rfl hdL_below ⟨Nat.le_of_ble_eq_true rfl, Nat.le_of_ble_eq_true rfl⟩) hK hl.1 (Nat.le_of_ble_eq_true rfl) ⟨by show 0 ≤ 210; omega, by show 0 ≤ 8300; omega⟩ dL_act_43 (fun j43 hj43 => ?_)
      refine lv_istore (lv' := [(5, .int (nI j43)), (4, .int 0), (3, .int (nI (mn τA))), (0, .ref (a 0)), (1, .ref (bA 0)), (2, .int x)]) hx hb dL_act_46 hl (by decide) rfl (fun ls hl => ?_)
      refine lv_iload_n hx hb dL_act_48 rfl (lv_at hl 5 rfl) ?_
      refine lv_bipush (v := nI 14) hx hb dL_act_49 (by decide) ?_
      refine l_below (N := 14) (by omega) (by omega) S (va_cwS 2 hts gL_act_L_below rfl rfl rfl hdL_below ⟨Nat.le_of_ble_eq_true rfl, Nat.le_of_ble_eq_true rfl⟩) hK hl.1 (Nat.le_of_ble_eq_true rfl) ⟨by show 0 ≤ 210; omega, by show 0 ≤ 8300; omega⟩ dL_act_51 (fun j51 hj51 => ?_)
      refine lv_istore (lv' := [(6, .int (nI j51)), (5, .int (nI j43)), (4, .int 0), (3, .int (nI (mn τA))), (0, .ref (a 0)), (1, .ref (bA 0)), (2, .int x)]) hx hb dL_act_54 hl (by decide) rfl (fun ls hl => ?_)
      refine lv_iconst (v := 1) hx hb dL_act_56 (by decide) ?_
      refine lv_istore (lv' := [(7, .int 1), (6, .int (nI j51)), (5, .int (nI j43)), (4, .int 0), (3, .int (nI (mn τA))), (0, .ref (a 0)), (1, .ref (bA 0)), (2, .int x)]) hx hb dL_act_57 hl (by decide) rfl (fun ls hl => ?_)
      exact act_59 hC 0 j43 j51 (fun z => by omega) (fun z => by omega) (by omega) (lv_sub hl [5, 6, 7, 0, 1, 2, 3, 4] rfl)
    · have hk0 : mk τA = 0 := (nI_eq (by omega) (by decide)).mp c28
      refine lv_iconst (v := 0) hx hb dL_act_31 (by decide) ?_
      refine lv_goto (tgt := 46) hx hb dL_act_32 (by decide) ?_
      refine lv_istore (lv' := [(5, .int 0), (4, .int 0), (3, .int (nI (mn τA))), (0, .ref (a 0)), (1, .ref (bA 0)), (2, .int x)]) hx hb dL_act_46 hl (by decide) rfl (fun ls hl => ?_)
      refine lv_iload_n hx hb dL_act_48 rfl (lv_at hl 5 rfl) ?_
      refine lv_bipush (v := nI 14) hx hb dL_act_49 (by decide) ?_
      refine l_below (N := 14) (by omega) (by omega) S (va_cwS 2 hts gL_act_L_below rfl rfl rfl hdL_below ⟨Nat.le_of_ble_eq_true rfl, Nat.le_of_ble_eq_true rfl⟩) hK hl.1 (Nat.le_of_ble_eq_true rfl) ⟨by show 0 ≤ 210; omega, by show 0 ≤ 8300; omega⟩ dL_act_51 (fun j51 hj51 => ?_)
      refine lv_istore (lv' := [(6, .int (nI j51)), (5, .int 0), (4, .int 0), (3, .int (nI (mn τA))), (0, .ref (a 0)), (1, .ref (bA 0)), (2, .int x)]) hx hb dL_act_54 hl (by decide) rfl (fun ls hl => ?_)
      refine lv_iconst (v := 1) hx hb dL_act_56 (by decide) ?_
      refine lv_istore (lv' := [(7, .int 1), (6, .int (nI j51)), (5, .int 0), (4, .int 0), (3, .int (nI (mn τA))), (0, .ref (a 0)), (1, .ref (bA 0)), (2, .int x)]) hx hb dL_act_57 hl (by decide) rfl (fun ls hl => ?_)
      exact act_59 hC 0 0 j51 (fun z => by omega) (fun z => by omega) (by omega) (lv_sub hl [5, 6, 7, 0, 1, 2, 3, 4] rfl)
