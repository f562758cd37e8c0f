section LAWP
variable {p : Program} {l : Launch} {e : Env} {s : State} {m : MethodId} {below : List Frame} {meth : Method} {c : Code} {sb L : Nat} {xs : Nat → Int32} {E : GE} {a b : Nat → Nat} {σ : GS} {τ : MS} {qs qh : Nat} {f g : Nat → Int32} {H : Heap} {locs : List Loc} {cells slots : Nat}
variable {x4 x8 x9 : Int32} {dg : Int64} {t i o : Nat} {ls : Array Slot}
set_option maxHeartbeats 4000000 in
set_option maxRecDepth 100000 in
theorem lp_144 (hC : LPl p l s m meth c sb L xs E a b σ τ qs qh f g H locs cells slots) (hi : i < mn τ) (hfs : ∀ j, j < i + 1 → f j = gsu σ j) (hgs : ∀ j, j < i + 1 → g j = gho σ j) (hl : lv_has ls 23 [(12, .int (nI i)), (11, .ref qh), (10, .ref qs), (9, .int x9), (8, .int x8), (7, .int (nI (mn τ))), (5, .long dg), (4, .int x4), (3, .int (nI t)), (2, .ref (b 0)), (1, .ref (a 0)), (0, .ref sb)]) (kk : ∀ (ls : Array Slot), lv_has ls 23 [(13, .int (nI (gLd σ 40 i))), (12, .int (nI i)), (11, .ref qh), (10, .ref qs), (9, .int x9), (8, .int x8), (7, .int (nI (mn τ))), (5, .long dg), (4, .int x4), (3, .int (nI t)), (2, .ref (b 0)), (1, .ref (a 0)), (0, .ref sb)] → lW p l e s m below meth c sb H locs cells slots 216 ls []) : lW p l e s m below meth c sb H locs cells slots 144 ls [] := by
  obtain ⟨⟨S, hK, hQ, hZ, hX, hbl, hL, hfl, hr, hlk⟩, h, q, hG, hS, hqs, hqh, hcs, hss⟩ := id hC
  obtain ⟨hx, hb, hml, hown, hts⟩ := id S
  have hts1 := inlX1
  have n4 := h.1.1
  have k8 := h.1.2.1
  obtain ⟨u, v, w, eu, ev, ew, h1, h2, h3⟩ := h.num1 q hi
  have ld := h.ldE 40 i (by omega) hi
  refine lv_aload_n hx hb dL_law_144 rfl (lv_at hl 10 rfl) ?_
  refine lv_iload hx hb dL_law_145 (lv_at hl 0 rfl) ?_
  refine g0i (As := [.int (nI i)]) (rest := []) S (c_planLeadsTo l E a σ h.gok i (by rw [h.n]; exact (by omega))) (cwV 1 hts gL_law_X0_planLeadsTo rfl rfl rfl hdX0_planLeadsTo ⟨Nat.le_of_ble_eq_true rfl, Nat.le_of_ble_eq_true rfl⟩) hK hG.1 rfl hl.1 rfl (Nat.le_of_ble_eq_true rfl) ⟨by show cells ≤ 600130; omega, by show slots ≤ 7301080; omega⟩ dL_law_147 ?_
  refine lv_istore (lv' := [(13, .int (nI (gLd σ 40 i))), (12, .int (nI i)), (11, .ref qh), (10, .ref qs), (9, .int x9), (8, .int x8), (7, .int (nI (mn τ))), (5, .long dg), (4, .int x4), (3, .int (nI t)), (2, .ref (b 0)), (1, .ref (a 0)), (0, .ref sb)]) hx hb dL_law_150 hl (by decide) rfl (fun ls hl => ?_)
  refine lv_aload hx hb dL_law_152 (lv_at hl 3 rfl) ?_
  refine lv_iload hx hb dL_law_154 (lv_at hl 1 rfl) ?_
  refine s_ild hx hb hK hqs (k := i) (by omega) (by omega) (v := gsu σ i) (hfs i (by omega)) dL_law_156 ?_
  refine lv_if_lt (tgt := 214) hx hb dL_law_157 (by decide) (fun q => absurd q ((by rw [eu]; exact nI_pos (by omega)))) (fun _ => ?_)
  refine lv_aload hx hb dL_law_160 (lv_at hl 3 rfl) ?_
  refine lv_iload hx hb dL_law_162 (lv_at hl 1 rfl) ?_
  refine s_ild hx hb hK hqs (k := i) (by omega) (by omega) (v := gsu σ i) (hfs i (by omega)) dL_law_164 ?_
  refine lv_aload hx hb dL_law_165 (lv_at hl 2 rfl) ?_
  refine lv_iload hx hb dL_law_167 (lv_at hl 1 rfl) ?_
  refine s_ild hx hb hK hqh (k := i) (by omega) (by omega) (v := gho σ i) (hgs i (by omega)) dL_law_169 ?_
  refine lv_icmp_gt (tgt := 214) hx hb dL_law_170 (by decide) (fun q => absurd q ((by rw [eu, ev]; exact Int32.not_lt.mpr (nI_le h1 (by omega))))) (fun _ => ?_)
  refine lv_aload hx hb dL_law_173 (lv_at hl 2 rfl) ?_
  refine lv_iload hx hb dL_law_175 (lv_at hl 1 rfl) ?_
  refine s_ild hx hb hK hqh (k := i) (by omega) (by omega) (v := gho σ i) (hgs i (by omega)) dL_law_177 ?_
  refine lv_bipush (v := nI 20) hx hb dL_law_178 (by decide) ?_
  refine lv_icmp_gt (tgt := 214) hx hb dL_law_180 (by decide) (fun q => absurd q ((by rw [ev]; exact Int32.not_lt.mpr (nI_le h3 (by omega))))) (fun _ => ?_)
  refine lv_aload_n hx hb dL_law_183 rfl (lv_at hl 11 rfl) ?_
  refine lv_iload hx hb dL_law_184 (lv_at hl 0 rfl) ?_
  refine g0i (As := [.int (nI (gLd σ 40 i))]) (rest := []) S (c_isExam l E a σ (gLd σ 40 i) (by rw [h.n]; exact n4) (by rw [h.n]; exact ld.1)) (cwV 1 hts gL_law_X0_isExam rfl rfl rfl hdX0_isExam ⟨Nat.le_of_ble_eq_true rfl, Nat.le_of_ble_eq_true rfl⟩) hK hG.1 rfl hl.1 rfl (Nat.le_of_ble_eq_true rfl) ⟨by show cells ≤ 600130; omega, by show slots ≤ 7301080; omega⟩ dL_law_186 ?_
  rw [h.ex (p := gLd σ 40 i) ld.1]
  refine lv_if_eq (tgt := 214) hx hb dL_law_189 (by decide) (fun q => absurd q ((by rw [ld.2.1]; decide))) (fun _ => ?_)
  refine lv_aload_n hx hb dL_law_192 rfl (lv_at hl 11 rfl) ?_
  refine lv_iload hx hb dL_law_193 (lv_at hl 1 rfl) ?_
  refine lv_iload hx hb dL_law_195 (lv_at hl 0 rfl) ?_
  refine g0i (As := [.int (nI i), .int (nI (gLd σ 40 i))]) (rest := []) S (c_reaches l E a σ i (by rw [h.n]; exact n4) (by rw [h.n]; exact (by omega)) (gLd σ 40 i) (by rw [h.n]; exact ld.1)) (cwV 2 hts gL_law_X0_reaches rfl rfl rfl hdX0_reaches ⟨Nat.le_of_ble_eq_true rfl, Nat.le_of_ble_eq_true rfl⟩) hK hG.1 rfl hl.1 rfl (Nat.le_of_ble_eq_true rfl) ⟨by show cells ≤ 600130; omega, by show slots ≤ 7301080; omega⟩ dL_law_197 ?_
  rw [h.rb (p := i) (q := gLd σ 40 i) (by omega) ld.1]
  refine lv_if_eq (tgt := 214) hx hb dL_law_200 (by decide) (fun q => absurd q ((by rw [ld.2.2]; decide))) (fun _ => ?_)
  refine lv_aload_n hx hb dL_law_203 rfl (lv_at hl 11 rfl) ?_
  refine lv_iload hx hb dL_law_204 (lv_at hl 1 rfl) ?_
  refine lv_iload hx hb dL_law_206 (lv_at hl 1 rfl) ?_
  refine g0i (As := [.int (nI i), .int (nI i)]) (rest := []) S (c_reaches l E a σ i (by rw [h.n]; exact n4) (by rw [h.n]; exact (by omega)) i (by rw [h.n]; exact (by omega))) (cwV 2 hts gL_law_X0_reaches rfl rfl rfl hdX0_reaches ⟨Nat.le_of_ble_eq_true rfl, Nat.le_of_ble_eq_true rfl⟩) hK hG.1 rfl hl.1 rfl (Nat.le_of_ble_eq_true rfl) ⟨by show cells ≤ 600130; omega, by show slots ≤ 7301080; omega⟩ dL_law_208 ?_
  rw [h.rb (p := i) (q := i) (by omega) (by omega)]
  refine lv_if_ne (tgt := 216) hx hb dL_law_211 (by decide) (fun _ => ?_) (fun q => absurd q ((by rw [h.selfb hi]; decide)))
  exact kk ls (lv_sub hl [0, 1, 2, 3, 4, 5, 6, 7, 8, 9, 10, 11, 12] rfl)
set_option maxHeartbeats 4000000 in
set_option maxRecDepth 100000 in
theorem lp_277e (hC : LPl p l s m meth c sb L xs E a b σ τ qs qh f g H locs cells slots) (hi : i < mn τ) (hfs : ∀ j, j < i + 1 → f j = gsu σ j) (hgs : ∀ j, j < i + 1 → g j = gho σ j) (ho : o < mn τ) {x14 : Int32} (he : mf τ i = false) (hl : lv_has ls 23 [(15, .int (nI o)), (14, .int x14), (13, .int (nI (gLd σ 40 i))), (12, .int (nI i)), (11, .ref qh), (10, .ref qs), (9, .int x9), (8, .int x8), (7, .int (nI (mn τ))), (5, .long dg), (4, .int x4), (3, .int (nI t)), (2, .ref (b 0)), (1, .ref (a 0)), (0, .ref sb)]) (kk : ∀ (ls : Array Slot), lv_has ls 23 [(15, .int (nI o)), (14, .int x14), (13, .int (nI (gLd σ 40 i))), (12, .int (nI i)), (11, .ref qh), (10, .ref qs), (9, .int x9), (8, .int x8), (7, .int (nI (mn τ))), (5, .long dg), (4, .int x4), (3, .int (nI t)), (2, .ref (b 0)), (1, .ref (a 0)), (0, .ref sb)] → lW p l e s m below meth c sb H locs cells slots 368 ls []) : lW p l e s m below meth c sb H locs cells slots 277 ls [] := by
  obtain ⟨⟨S, hK, hQ, hZ, hX, hbl, hL, hfl, hr, hlk⟩, h, q, hG, hS, hqs, hqh, hcs, hss⟩ := id hC
  obtain ⟨hx, hb, hml, hown, hts⟩ := id S
  have hts1 := inlX1
  have n4 := h.1.1
  have k8 := h.1.2.1
  refine lv_aload_n hx hb dL_law_277 rfl (lv_at hl 13 rfl) ?_
  refine lv_iload hx hb dL_law_278 (lv_at hl 3 rfl) ?_
  refine g0i (As := [.int (nI i)]) (rest := []) S (c_isExam l E a σ i (by rw [h.n]; exact n4) (by rw [h.n]; exact (by omega))) (cwV 1 hts gL_law_X0_isExam rfl rfl rfl hdX0_isExam ⟨Nat.le_of_ble_eq_true rfl, Nat.le_of_ble_eq_true rfl⟩) hK hG.1 rfl hl.1 rfl (Nat.le_of_ble_eq_true rfl) ⟨by show cells ≤ 600130; omega, by show slots ≤ 7301080; omega⟩ dL_law_280 ?_
  rw [h.ex (p := i) (by omega)]
  refine lv_if_eq (tgt := 304) hx hb dL_law_283 (by decide) (fun q => absurd q ((by rw [he]; decide))) (fun _ => ?_)
  refine lv_iload hx hb dL_law_286 (lv_at hl 0 rfl) ?_
  refine lv_iload hx hb dL_law_288 (lv_at hl 3 rfl) ?_
  refine lv_icmp_eq (tgt := 304) hx hb dL_law_290 (by decide) (fun c290 => ?_) (fun c290 => ?_)
  · refine lv_aload_n hx hb dL_law_304 rfl (lv_at hl 13 rfl) ?_
    refine lv_iload hx hb dL_law_305 (lv_at hl 3 rfl) ?_
    refine g0i (As := [.int (nI i)]) (rest := []) S (c_isExam l E a σ i (by rw [h.n]; exact n4) (by rw [h.n]; exact (by omega))) (cwV 1 hts gL_law_X0_isExam rfl rfl rfl hdX0_isExam ⟨Nat.le_of_ble_eq_true rfl, Nat.le_of_ble_eq_true rfl⟩) hK hG.1 rfl hl.1 rfl (Nat.le_of_ble_eq_true rfl) ⟨by show cells ≤ 600130; omega, by show slots ≤ 7301080; omega⟩ dL_law_307 ?_
    rw [h.ex (p := i) (by omega)]
    refine lv_if_ne (tgt := 368) hx hb dL_law_310 (by decide) (fun _ => ?_) (fun q => absurd q ((by rw [he]; decide)))
    exact kk ls (lv_sub hl [0, 1, 2, 3, 4, 5, 6, 7, 8, 9, 10, 11, 12, 13, 14] rfl)
  · refine lv_aload_n hx hb dL_law_293 rfl (lv_at hl 13 rfl) ?_
    refine lv_iload hx hb dL_law_294 (lv_at hl 3 rfl) ?_
    refine lv_iload hx hb dL_law_296 (lv_at hl 0 rfl) ?_
    refine g0i (As := [.int (nI i), .int (nI o)]) (rest := []) S (c_reaches l E a σ i (by rw [h.n]; exact n4) (by rw [h.n]; exact (by omega)) o (by rw [h.n]; exact (by omega))) (cwV 2 hts gL_law_X0_reaches rfl rfl rfl hdX0_reaches ⟨Nat.le_of_ble_eq_true rfl, Nat.le_of_ble_eq_true rfl⟩) hK hG.1 rfl hl.1 rfl (Nat.le_of_ble_eq_true rfl) ⟨by show cells ≤ 600130; omega, by show slots ≤ 7301080; omega⟩ dL_law_298 ?_
    rw [h.rb (p := i) (q := o) (by omega) (by omega)]
    refine lv_if_ne (tgt := 366) hx hb dL_law_301 (by decide) (fun q => absurd ((by rw [(h.e hi he).2.2.2.2.2.2.2.2.2, decide_eq_false (fun z => c290 (congrArg nI z))]; rfl)) q) (fun _ => ?_)
    refine lv_aload_n hx hb dL_law_304 rfl (lv_at hl 13 rfl) ?_
    refine lv_iload hx hb dL_law_305 (lv_at hl 3 rfl) ?_
    refine g0i (As := [.int (nI i)]) (rest := []) S (c_isExam l E a σ i (by rw [h.n]; exact n4) (by rw [h.n]; exact (by omega))) (cwV 1 hts gL_law_X0_isExam rfl rfl rfl hdX0_isExam ⟨Nat.le_of_ble_eq_true rfl, Nat.le_of_ble_eq_true rfl⟩) hK hG.1 rfl hl.1 rfl (Nat.le_of_ble_eq_true rfl) ⟨by show cells ≤ 600130; omega, by show slots ≤ 7301080; omega⟩ dL_law_307 ?_
    rw [h.ex (p := i) (by omega)]
    refine lv_if_ne (tgt := 368) hx hb dL_law_310 (by decide) (fun _ => ?_) (fun q => absurd q ((by rw [he]; decide)))
    exact kk ls (lv_sub hl [0, 1, 2, 3, 4, 5, 6, 7, 8, 9, 10, 11, 12, 13, 14] rfl)
set_option maxHeartbeats 4000000 in
set_option maxRecDepth 100000 in
theorem lp_277f (hC : LPl p l s m meth c sb L xs E a b σ τ qs qh f g H locs cells slots) (hi : i < mn τ) (hfs : ∀ j, j < i + 1 → f j = gsu σ j) (hgs : ∀ j, j < i + 1 → g j = gho σ j) (ho : o < mn τ) {x14 : Int32} (hk : mf τ i = true) (hl : lv_has ls 23 [(15, .int (nI o)), (14, .int x14), (13, .int (nI (gLd σ 40 i))), (12, .int (nI i)), (11, .ref qh), (10, .ref qs), (9, .int x9), (8, .int x8), (7, .int (nI (mn τ))), (5, .long dg), (4, .int x4), (3, .int (nI t)), (2, .ref (b 0)), (1, .ref (a 0)), (0, .ref sb)]) (kk : ∀ (ls : Array Slot), lv_has ls 23 [(15, .int (nI o)), (14, .int x14), (13, .int (nI (gLd σ 40 i))), (12, .int (nI i)), (11, .ref qh), (10, .ref qs), (9, .int x9), (8, .int x8), (7, .int (nI (mn τ))), (5, .long dg), (4, .int x4), (3, .int (nI t)), (2, .ref (b 0)), (1, .ref (a 0)), (0, .ref sb)] → lW p l e s m below meth c sb H locs cells slots 368 ls []) : lW p l e s m below meth c sb H locs cells slots 277 ls [] := by
  obtain ⟨⟨S, hK, hQ, hZ, hX, hbl, hL, hfl, hr, hlk⟩, h, q, hG, hS, hqs, hqh, hcs, hss⟩ := id hC
  obtain ⟨hx, hb, hml, hown, hts⟩ := id S
  have hts1 := inlX1
  have n4 := h.1.1
  have k8 := h.1.2.1
  have f10 := (h.f hk).2.2.2.2.2.2.2.2.2 o
  have f3 := (h.f hk).2.2.1
  have f4 := (h.f hk).2.2.2.1
  refine lv_aload_n hx hb dL_law_277 rfl (lv_at hl 13 rfl) ?_
  refine lv_iload hx hb dL_law_278 (lv_at hl 3 rfl) ?_
  refine g0i (As := [.int (nI i)]) (rest := []) S (c_isExam l E a σ i (by rw [h.n]; exact n4) (by rw [h.n]; exact (by omega))) (cwV 1 hts gL_law_X0_isExam rfl rfl rfl hdX0_isExam ⟨Nat.le_of_ble_eq_true rfl, Nat.le_of_ble_eq_true rfl⟩) hK hG.1 rfl hl.1 rfl (Nat.le_of_ble_eq_true rfl) ⟨by show cells ≤ 600130; omega, by show slots ≤ 7301080; omega⟩ dL_law_280 ?_
  rw [h.ex (p := i) (by omega)]
  refine lv_if_eq (tgt := 304) hx hb dL_law_283 (by decide) (fun _ => ?_) (fun q => absurd ((by rw [hk]; rfl)) q)
  refine lv_aload_n hx hb dL_law_304 rfl (lv_at hl 13 rfl) ?_
  refine lv_iload hx hb dL_law_305 (lv_at hl 3 rfl) ?_
  refine g0i (As := [.int (nI i)]) (rest := []) S (c_isExam l E a σ i (by rw [h.n]; exact n4) (by rw [h.n]; exact (by omega))) (cwV 1 hts gL_law_X0_isExam rfl rfl rfl hdX0_isExam ⟨Nat.le_of_ble_eq_true rfl, Nat.le_of_ble_eq_true rfl⟩) hK hG.1 rfl hl.1 rfl (Nat.le_of_ble_eq_true rfl) ⟨by show cells ≤ 600130; omega, by show slots ≤ 7301080; omega⟩ dL_law_307 ?_
  rw [h.ex (p := i) (by omega)]
  refine lv_if_ne (tgt := 368) hx hb dL_law_310 (by decide) (fun q => absurd ((by rw [hk]; rfl)) q) (fun _ => ?_)
  refine lv_iload hx hb dL_law_313 (lv_at hl 0 rfl) ?_
  refine lv_iload hx hb dL_law_315 (lv_at hl 3 rfl) ?_
  refine lv_icmp_eq (tgt := 368) hx hb dL_law_317 (by decide) (fun c317 => ?_) (fun c317 => ?_)
  · exact kk ls (lv_sub hl [0, 1, 2, 3, 4, 5, 6, 7, 8, 9, 10, 11, 12, 13, 14] rfl)
  · refine lv_aload_n hx hb dL_law_320 rfl (lv_at hl 13 rfl) ?_
    refine lv_iload hx hb dL_law_321 (lv_at hl 3 rfl) ?_
    refine lv_iload hx hb dL_law_323 (lv_at hl 0 rfl) ?_
    refine g0i (As := [.int (nI i), .int (nI o)]) (rest := []) S (c_reaches l E a σ i (by rw [h.n]; exact n4) (by rw [h.n]; exact (by omega)) o (by rw [h.n]; exact (by omega))) (cwV 2 hts gL_law_X0_reaches rfl rfl rfl hdX0_reaches ⟨Nat.le_of_ble_eq_true rfl, Nat.le_of_ble_eq_true rfl⟩) hK hG.1 rfl hl.1 rfl (Nat.le_of_ble_eq_true rfl) ⟨by show cells ≤ 600130; omega, by show slots ≤ 7301080; omega⟩ dL_law_325 ?_
    rw [h.rb (p := i) (q := o) (by omega) (by omega)]
    refine lv_aload_n hx hb dL_law_328 rfl (lv_at hl 13 rfl) ?_
    refine lv_aload_n hx hb dL_law_329 rfl (lv_at hl 13 rfl) ?_
    refine lv_iload hx hb dL_law_330 (lv_at hl 3 rfl) ?_
    refine g0i (As := [.int (nI i)]) (rest := [.ref (a 0), .int (b2i (bitL (mr τ i) o))]) S (c_leftOf l E a σ i (by rw [h.n]; exact n4) (by rw [h.n]; exact (by omega)) (by rw [h.ex (by omega), hk]; rfl)) (cwV 1 hts gL_law_X0_leftOf rfl rfl rfl hdX0_leftOf ⟨Nat.le_of_ble_eq_true rfl, Nat.le_of_ble_eq_true rfl⟩) hK hG.1 rfl hl.1 rfl (Nat.le_of_ble_eq_true rfl) ⟨by show cells ≤ 600130; omega, by show slots ≤ 7301080; omega⟩ dL_law_332 ?_
    rw [(h.f hk).1]
    refine lv_iload hx hb dL_law_335 (lv_at hl 0 rfl) ?_
    refine g0i (As := [.int (nI (mo τ i)), .int (nI o)]) (rest := [.int (b2i (bitL (mr τ i) o))]) S (c_reaches l E a σ (mo τ i) (by rw [h.n]; exact n4) (by rw [h.n]; exact (by omega)) o (by rw [h.n]; exact (by omega))) (cwV 2 hts gL_law_X0_reaches rfl rfl rfl hdX0_reaches ⟨Nat.le_of_ble_eq_true rfl, Nat.le_of_ble_eq_true rfl⟩) hK hG.1 rfl hl.1 rfl (Nat.le_of_ble_eq_true rfl) ⟨by show cells ≤ 600130; omega, by show slots ≤ 7301080; omega⟩ dL_law_337 ?_
    rw [h.rb (p := mo τ i) (q := o) (by omega) (by omega)]
    refine lv_if_ne (tgt := 358) hx hb dL_law_340 (by decide) (fun c340 => ?_) (fun c340 => ?_)
    · refine lv_iconst (v := 1) hx hb dL_law_358 (by decide) ?_
      refine lv_goto (tgt := 363) hx hb dL_law_359 (by decide) ?_
      refine lv_icmp_eq (tgt := 368) hx hb dL_law_363 (by decide) (fun _ => ?_) (fun q => absurd ((by first | (rw [f10, b2i_ne0.mp c340]; rfl) | (rw [f10, b2i_ne0.mp c355, Bool.or_true]; rfl) | (rw [f10, b2i_eq0.mp c340, b2i_eq0.mp c355, decide_eq_false (fun z => c317 (congrArg nI z))]; rfl))) q)
      exact kk ls (lv_sub hl [0, 1, 2, 3, 4, 5, 6, 7, 8, 9, 10, 11, 12, 13, 14] rfl)
    · refine lv_aload_n hx hb dL_law_343 rfl (lv_at hl 13 rfl) ?_
      refine lv_aload_n hx hb dL_law_344 rfl (lv_at hl 13 rfl) ?_
      refine lv_iload hx hb dL_law_345 (lv_at hl 3 rfl) ?_
      refine g0i (As := [.int (nI i)]) (rest := [.ref (a 0), .int (b2i (bitL (mr τ i) o))]) S (c_rightOf l E a σ i (by rw [h.n]; exact n4) (by rw [h.n]; exact (by omega)) (by rw [h.ex (by omega), hk]; rfl)) (cwV 1 hts gL_law_X0_rightOf rfl rfl rfl hdX0_rightOf ⟨Nat.le_of_ble_eq_true rfl, Nat.le_of_ble_eq_true rfl⟩) hK hG.1 rfl hl.1 rfl (Nat.le_of_ble_eq_true rfl) ⟨by show cells ≤ 600130; omega, by show slots ≤ 7301080; omega⟩ dL_law_347 ?_
      rw [(h.f hk).2.1]
      refine lv_iload hx hb dL_law_350 (lv_at hl 0 rfl) ?_
      refine g0i (As := [.int (nI (mh τ i)), .int (nI o)]) (rest := [.int (b2i (bitL (mr τ i) o))]) S (c_reaches l E a σ (mh τ i) (by rw [h.n]; exact n4) (by rw [h.n]; exact (by omega)) o (by rw [h.n]; exact (by omega))) (cwV 2 hts gL_law_X0_reaches rfl rfl rfl hdX0_reaches ⟨Nat.le_of_ble_eq_true rfl, Nat.le_of_ble_eq_true rfl⟩) hK hG.1 rfl hl.1 rfl (Nat.le_of_ble_eq_true rfl) ⟨by show cells ≤ 600130; omega, by show slots ≤ 7301080; omega⟩ dL_law_352 ?_
      rw [h.rb (p := mh τ i) (q := o) (by omega) (by omega)]
      refine lv_if_eq (tgt := 362) hx hb dL_law_355 (by decide) (fun c355 => ?_) (fun c355 => ?_)
      · refine lv_iconst (v := 0) hx hb dL_law_362 (by decide) ?_
        refine lv_icmp_eq (tgt := 368) hx hb dL_law_363 (by decide) (fun _ => ?_) (fun q => absurd ((by first | (rw [f10, b2i_ne0.mp c340]; rfl) | (rw [f10, b2i_ne0.mp c355, Bool.or_true]; rfl) | (rw [f10, b2i_eq0.mp c340, b2i_eq0.mp c355, decide_eq_false (fun z => c317 (congrArg nI z))]; rfl))) q)
        exact kk ls (lv_sub hl [0, 1, 2, 3, 4, 5, 6, 7, 8, 9, 10, 11, 12, 13, 14] rfl)
      · refine lv_iconst (v := 1) hx hb dL_law_358 (by decide) ?_
        refine lv_goto (tgt := 363) hx hb dL_law_359 (by decide) ?_
        refine lv_icmp_eq (tgt := 368) hx hb dL_law_363 (by decide) (fun _ => ?_) (fun q => absurd ((by first | (rw [f10, b2i_ne0.mp c340]; rfl) | (rw [f10, b2i_ne0.mp c355, Bool.or_true]; rfl) | (rw [f10, b2i_eq0.mp c340, b2i_eq0.mp c355, decide_eq_false (fun z => c317 (congrArg nI z))]; rfl))) q)
        exact kk ls (lv_sub hl [0, 1, 2, 3, 4, 5, 6, 7, 8, 9, 10, 11, 12, 13, 14] rfl)
set_option maxHeartbeats 4000000 in
set_option maxRecDepth 100000 in
theorem lp_259 (hC : LPl p l s m meth c sb L xs E a b σ τ qs qh f g H locs cells slots) (hi : i < mn τ) (hfs : ∀ j, j < i + 1 → f j = gsu σ j) (hgs : ∀ j, j < i + 1 → g j = gho σ j) (ho : o < mn τ) {x14 : Int32} (hl : lv_has ls 23 [(15, .int (nI o)), (14, .int x14), (13, .int (nI (gLd σ 40 i))), (12, .int (nI i)), (11, .ref qh), (10, .ref qs), (9, .int x9), (8, .int x8), (7, .int (nI (mn τ))), (5, .long dg), (4, .int x4), (3, .int (nI t)), (2, .ref (b 0)), (1, .ref (a 0)), (0, .ref sb)]) (kk : ∀ (ls : Array Slot), lv_has ls 23 [(15, .int (nI o)), (14, .int x14), (13, .int (nI (gLd σ 40 i))), (12, .int (nI i)), (11, .ref qh), (10, .ref qs), (9, .int x9), (8, .int x8), (7, .int (nI (mn τ))), (5, .long dg), (4, .int x4), (3, .int (nI t)), (2, .ref (b 0)), (1, .ref (a 0)), (0, .ref sb)] → lW p l e s m below meth c sb H locs cells slots 277 ls []) : lW p l e s m below meth c sb H locs cells slots 259 ls [] := by
  obtain ⟨⟨S, hK, hQ, hZ, hX, hbl, hL, hfl, hr, hlk⟩, h, q, hG, hS, hqs, hqh, hcs, hss⟩ := id hC
  obtain ⟨hx, hb, hml, hown, hts⟩ := id S
  have hts1 := inlX1
  have n4 := h.1.1
  have k8 := h.1.2.1
  refine lv_iload hx hb dL_law_259 (lv_at hl 0 rfl) ?_
  refine lv_iload hx hb dL_law_261 (lv_at hl 3 rfl) ?_
  refine lv_icmp_le (tgt := 277) hx hb dL_law_263 (by decide) (fun c263 => ?_) (fun c263 => ?_)
  · exact kk ls (lv_sub hl [0, 1, 2, 3, 4, 5, 6, 7, 8, 9, 10, 11, 12, 13, 14] rfl)
  · refine lv_aload_n hx hb dL_law_266 rfl (lv_at hl 13 rfl) ?_
    refine lv_iload hx hb dL_law_267 (lv_at hl 3 rfl) ?_
    refine lv_iload hx hb dL_law_269 (lv_at hl 0 rfl) ?_
    refine g0i (As := [.int (nI i), .int (nI o)]) (rest := []) S (c_reaches l E a σ i (by rw [h.n]; exact n4) (by rw [h.n]; exact (by omega)) o (by rw [h.n]; exact (by omega))) (cwV 2 hts gL_law_X0_reaches rfl rfl rfl hdX0_reaches ⟨Nat.le_of_ble_eq_true rfl, Nat.le_of_ble_eq_true rfl⟩) hK hG.1 rfl hl.1 rfl (Nat.le_of_ble_eq_true rfl) ⟨by show cells ≤ 600130; omega, by show slots ≤ 7301080; omega⟩ dL_law_271 ?_
    rw [h.rb (p := i) (q := o) (by omega) (by omega)]
    refine lv_if_ne (tgt := 366) hx hb dL_law_274 (by decide) (fun q => absurd ((by rw [h.abv hi (Nat.not_le.mp (fun z => c263 (nI_le z (by omega))))]; rfl)) q) (fun _ => ?_)
    exact kk ls (lv_sub hl [0, 1, 2, 3, 4, 5, 6, 7, 8, 9, 10, 11, 12, 13, 14] rfl)
theorem lp_259a (hC : LPl p l s m meth c sb L xs E a b σ τ qs qh f g H locs cells slots) (hi : i < mn τ) (hfs : ∀ j, j < i + 1 → f j = gsu σ j) (hgs : ∀ j, j < i + 1 → g j = gho σ j) (ho : o < mn τ) {x14 : Int32} (hl : lv_has ls 23 [(15, .int (nI o)), (14, .int x14), (13, .int (nI (gLd σ 40 i))), (12, .int (nI i)), (11, .ref qh), (10, .ref qs), (9, .int x9), (8, .int x8), (7, .int (nI (mn τ))), (5, .long dg), (4, .int x4), (3, .int (nI t)), (2, .ref (b 0)), (1, .ref (a 0)), (0, .ref sb)]) (kk : ∀ (ls : Array Slot), lv_has ls 23 [(15, .int (nI (o + 1))), (14, .int x14), (13, .int (nI (gLd σ 40 i))), (12, .int (nI i)), (11, .ref qh), (10, .ref qs), (9, .int x9), (8, .int x8), (7, .int (nI (mn τ))), (5, .long dg), (4, .int x4), (3, .int (nI t)), (2, .ref (b 0)), (1, .ref (a 0)), (0, .ref sb)] → lW p l e s m below meth c sb H locs cells slots 222 ls []) : lW p l e s m below meth c sb H locs cells slots 259 ls [] := by
  obtain ⟨⟨S, hK, hQ, hZ, hX, hbl, hL, hfl, hr, hlk⟩, h, q, hG, hS, hqs, hqh, hcs, hss⟩ := id hC
  obtain ⟨hx, hb, hml, hown, hts⟩ := id S
  have key : ∀ ls : Array Slot, lv_has ls 23 [(15, .int (nI o)), (14, .int x14), (13, .int (nI (gLd σ 40 i))), (12, .int (nI i)), (11, .ref qh), (10, .ref qs), (9, .int x9), (8, .int x8), (7, .int (nI (mn τ))), (5, .long dg), (4, .int x4), (3, .int (nI t)), (2, .ref (b 0)), (1, .ref (a 0)), (0, .ref sb)] → lW p l e s m below meth c sb H locs cells slots 368 ls [] := fun ls hl => by
    refine lv_iinc (v := nI (o + 1)) (lv' := [(15, .int (nI (o + 1))), (14, .int x14), (13, .int (nI (gLd σ 40 i))), (12, .int (nI i)), (11, .ref qh), (10, .ref qs), (9, .int x9), (8, .int x8), (7, .int (nI (mn τ))), (5, .long dg), (4, .int x4), (3, .int (nI t)), (2, .ref (b 0)), (1, .ref (a 0)), (0, .ref sb)]) hx hb dL_law_368 hl (k := 0) rfl (nI_1 o) (by decide) rfl (fun ls hl => ?_)
    refine lv_goto (tgt := 222) hx hb dL_law_371 (by decide) ?_
    exact kk ls hl
  refine lp_259 hC hi hfs hgs ho hl (fun ls hl => ?_)
  by_cases hk : mf τ i = true
  · exact lp_277f hC hi hfs hgs ho hk hl key
  · exact lp_277e hC hi hfs hgs ho (ts_nt hk) hl key
set_option maxHeartbeats 4000000 in
set_option maxRecDepth 100000 in
theorem lp_222 (hC : LPl p l s m meth c sb L xs E a b σ τ qs qh f g H locs cells slots) (hi : i < mn τ) (hfs : ∀ j, j < i + 1 → f j = gsu σ j) (hgs : ∀ j, j < i + 1 → g j = gho σ j) (kk : ∀ (ls : Array Slot), lv_has ls 23 [(14, .int (gEf σ i)), (13, .int (nI (gLd σ 40 i))), (12, .int (nI i)), (11, .ref qh), (10, .ref qs), (9, .int x9), (8, .int x8), (7, .int (nI (mn τ))), (5, .long dg), (4, .int x4), (3, .int (nI t)), (2, .ref (b 0)), (1, .ref (a 0)), (0, .ref sb)] → lW p l e s m below meth c sb H locs cells slots 374 ls []) : ∀ (d : Nat) (o : Nat) (x14 : Int32) (ls : Array Slot), o + d = mn τ → x14 = sumI (fun o => b2i (mEx τ i o)) o → lv_has ls 23 [(15, .int (nI o)), (14, .int x14), (13, .int (nI (gLd σ 40 i))), (12, .int (nI i)), (11, .ref qh), (10, .ref qs), (9, .int x9), (8, .int x8), (7, .int (nI (mn τ))), (5, .long dg), (4, .int x4), (3, .int (nI t)), (2, .ref (b 0)), (1, .ref (a 0)), (0, .ref sb)] → lW p l e s m below meth c sb H locs cells slots 222 ls [] := by
  obtain ⟨⟨S, hK, hQ, hZ, hX, hbl, hL, hfl, hr, hlk⟩, h, q, hG, hS, hqs, hqh, hcs, hss⟩ := id hC
  obtain ⟨hx, hb, hml, hown, hts⟩ := id S
  have hts1 := inlX1
  have n4 := h.1.1
  have k8 := h.1.2.1
  intro d
  induction d with
  | zero =>
    intro o x14 ls hm hinv hl
    obtain rfl : o = mn τ := by omega
    rw [h.many hi] at hinv
    subst hinv
    refine lv_iload hx hb dL_law_222 (lv_at hl 0 rfl) ?_
    refine lv_iload hx hb dL_law_224 (lv_at hl 8 rfl) ?_
    refine lv_icmp_ge (tgt := 374) hx hb dL_law_226 (by decide) (fun _ => ?_) (fun q => absurd ((nI_le (Nat.le_refl _) (by omega))) q)
    exact kk ls (lv_sub hl [1, 2, 3, 4, 5, 6, 7, 8, 9, 10, 11, 12, 13, 14] rfl)
  | succ d ih =>
    intro o x14 ls hm hinv hl
    refine lv_iload hx hb dL_law_222 (lv_at hl 0 rfl) ?_
    refine lv_iload hx hb dL_law_224 (lv_at hl 8 rfl) ?_
    refine lv_icmp_ge (tgt := 374) hx hb dL_law_226 (by decide) (fun q => absurd q ((nI_ge (by omega) (by omega)))) (fun _ => ?_)
    refine lv_iload hx hb dL_law_229 (lv_at hl 1 rfl) ?_
    refine lv_aload_n hx hb dL_law_231 rfl (lv_at hl 13 rfl) ?_
    refine lv_iload hx hb dL_law_232 (lv_at hl 3 rfl) ?_
    refine lv_iload hx hb dL_law_234 (lv_at hl 0 rfl) ?_
    refine g0i (As := [.int (nI i), .int (nI o)]) (rest := [.int x14]) S (c_reaches l E a σ i (by rw [h.n]; exact n4) (by rw [h.n]; exact (by omega)) o (by rw [h.n]; exact (by omega))) (cwV 2 hts gL_law_X0_reaches rfl rfl rfl hdX0_reaches ⟨Nat.le_of_ble_eq_true rfl, Nat.le_of_ble_eq_true rfl⟩) hK hG.1 rfl hl.1 rfl (Nat.le_of_ble_eq_true rfl) ⟨by show cells ≤ 600130; omega, by show slots ≤ 7301080; omega⟩ dL_law_236 ?_
    rw [h.rb (p := i) (q := o) (by omega) (by omega)]
    refine lv_if_eq (tgt := 255) hx hb dL_law_239 (by decide) (fun c239 => ?_) (fun c239 => ?_)
    · refine lv_iconst (v := 0) hx hb dL_law_255 (by decide) ?_
      refine lv_iadd hx hb dL_law_256 ?_
      refine lv_istore (lv' := [(14, .int (x14 + 0)), (15, .int (nI o)), (13, .int (nI (gLd σ 40 i))), (12, .int (nI i)), (11, .ref qh), (10, .ref qs), (9, .int x9), (8, .int x8), (7, .int (nI (mn τ))), (5, .long dg), (4, .int x4), (3, .int (nI t)), (2, .ref (b 0)), (1, .ref (a 0)), (0, .ref sb)]) hx hb dL_law_257 hl (by decide) rfl (fun ls hl => ?_)
      exact lp_259a hC hi hfs hgs (by omega) (lv_sub hl [1, 0, 2, 3, 4, 5, 6, 7, 8, 9, 10, 11, 12, 13, 14] rfl) (fun ls hl => ih (o + 1) _ ls (by omega) (by first | (rw [hinv, sumI, mEx, b2i_eq0.mp c239, Bool.false_and]; rfl) | (rw [hinv, sumI, mEx, b2i_ne0.mp c239, b2i_eq0.mp c248]; rfl) | (rw [hinv, sumI, mEx, b2i_ne0.mp c239, b2i_ne0.mp c248]; rfl)) hl)
    · refine lv_aload_n hx hb dL_law_242 rfl (lv_at hl 13 rfl) ?_
      refine lv_iload hx hb dL_law_243 (lv_at hl 0 rfl) ?_
      refine g0i (As := [.int (nI o)]) (rest := [.int x14]) S (c_isExam l E a σ o (by rw [h.n]; exact n4) (by rw [h.n]; exact (by omega))) (cwV 1 hts gL_law_X0_isExam rfl rfl rfl hdX0_isExam ⟨Nat.le_of_ble_eq_true rfl, Nat.le_of_ble_eq_true rfl⟩) hK hG.1 rfl hl.1 rfl (Nat.le_of_ble_eq_true rfl) ⟨by show cells ≤ 600130; omega, by show slots ≤ 7301080; omega⟩ dL_law_245 ?_
      rw [h.ex (p := o) (by omega)]
      refine lv_if_eq (tgt := 255) hx hb dL_law_248 (by decide) (fun c248 => ?_) (fun c248 => ?_)
      · refine lv_iconst (v := 0) hx hb dL_law_255 (by decide) ?_
        refine lv_iadd hx hb dL_law_256 ?_
        refine lv_istore (lv' := [(14, .int (x14 + 0)), (15, .int (nI o)), (13, .int (nI (gLd σ 40 i))), (12, .int (nI i)), (11, .ref qh), (10, .ref qs), (9, .int x9), (8, .int x8), (7, .int (nI (mn τ))), (5, .long dg), (4, .int x4), (3, .int (nI t)), (2, .ref (b 0)), (1, .ref (a 0)), (0, .ref sb)]) hx hb dL_law_257 hl (by decide) rfl (fun ls hl => ?_)
        exact lp_259a hC hi hfs hgs (by omega) (lv_sub hl [1, 0, 2, 3, 4, 5, 6, 7, 8, 9, 10, 11, 12, 13, 14] rfl) (fun ls hl => ih (o + 1) _ ls (by omega) (by first | (rw [hinv, sumI, mEx, b2i_eq0.mp c239, Bool.false_and]; rfl) | (rw [hinv, sumI, mEx, b2i_ne0.mp c239, b2i_eq0.mp c248]; rfl) | (rw [hinv, sumI, mEx, b2i_ne0.mp c239, b2i_ne0.mp c248]; rfl)) hl)
      · refine lv_iconst (v := 1) hx hb dL_law_251 (by decide) ?_
        refine lv_goto (tgt := 256) hx hb dL_law_252 (by decide) ?_
        refine lv_iadd hx hb dL_law_256 ?_
        refine lv_istore (lv' := [(14, .int (x14 + 1)), (15, .int (nI o)), (13, .int (nI (gLd σ 40 i))), (12, .int (nI i)), (11, .ref qh), (10, .ref qs), (9, .int x9), (8, .int x8), (7, .int (nI (mn τ))), (5, .long dg), (4, .int x4), (3, .int (nI t)), (2, .ref (b 0)), (1, .ref (a 0)), (0, .ref sb)]) hx hb dL_law_257 hl (by decide) rfl (fun ls hl => ?_)
        exact lp_259a hC hi hfs hgs (by omega) (lv_sub hl [1, 0, 2, 3, 4, 5, 6, 7, 8, 9, 10, 11, 12, 13, 14] rfl) (fun ls hl => ih (o + 1) _ ls (by omega) (by first | (rw [hinv, sumI, mEx, b2i_eq0.mp c239, Bool.false_and]; rfl) | (rw [hinv, sumI, mEx, b2i_ne0.mp c239, b2i_eq0.mp c248]; rfl) | (rw [hinv, sumI, mEx, b2i_ne0.mp c239, b2i_ne0.mp c248]; rfl)) hl)
set_option maxHeartbeats 4000000 in
set_option maxRecDepth 100000 in
theorem lp_xg (hC : LPl p l s m meth c sb L xs E a b σ τ qs qh f g H locs cells slots) (hi : i < mn τ) (hfs : ∀ j, j < i + 1 → f j = gsu σ j) (hgs : ∀ j, j < i + 1 → g j = gho σ j) (he : mf τ i = false) (hgd : mGd τ i = true) (hu : ¬ md τ i < 0) (hl : lv_has ls 23 [(14, .int (gEf σ i)), (13, .int (nI (gLd σ 40 i))), (12, .int (nI i)), (11, .ref qh), (10, .ref qs), (9, .int x9), (8, .int x8), (7, .int (nI (mn τ))), (5, .long dg), (4, .int x4), (3, .int (nI t)), (2, .ref (b 0)), (1, .ref (a 0)), (0, .ref sb)]) (kk : ∀ (y8 y9 : Int32) (ls : Array Slot), lv_has ls 23 [(12, .int (nI i)), (11, .ref qh), (10, .ref qs), (9, .int y9), (8, .int y8), (7, .int (nI (mn τ))), (5, .long dg), (4, .int x4), (3, .int (nI t)), (2, .ref (b 0)), (1, .ref (a 0)), (0, .ref sb)] → y8 = x8 + 1 → y9 = x9 + 1 → lW p l e s m below meth c sb H locs cells slots 863 ls []) : lW p l e s m below meth c sb H locs cells slots 374 ls [] := by
  obtain ⟨⟨S, hK, hQ, hZ, hX, hbl, hL, hfl, hr, hlk⟩, h, q, hG, hS, hqs, hqh, hcs, hss⟩ := id hC
  obtain ⟨hx, hb, hml, hown, hts⟩ := id S
  have hts1 := inlX1
  have n4 := h.1.1
  have k8 := h.1.2.1
  have e7 := (h.e hi he).2.2.2.2.2.2.1
  have e8 := (h.e hi he).2.2.2.2.2.2.2.1
  have hn1 : ¬ md τ i = -1 := fun z => hu (by rw [z]; decide)
  refine lv_iload hx hb dL_law_374 (lv_at hl 0 rfl) ?_
  refine lv_aload_n hx hb dL_law_376 rfl (lv_at hl 12 rfl) ?_
  refine lv_iload hx hb dL_law_377 (lv_at hl 2 rfl) ?_
  refine g0i (As := [.int (nI i)]) (rest := [.int (gEf σ i)]) S (c_examsFrom l E a σ i (by rw [h.n]; exact n4) (by rw [h.n]; exact (by omega))) (cwV 1 hts gL_law_X0_examsFrom rfl rfl rfl hdX0_examsFrom ⟨Nat.le_of_ble_eq_true rfl, Nat.le_of_ble_eq_true rfl⟩) hK hG.1 rfl hl.1 rfl (Nat.le_of_ble_eq_true rfl) ⟨by show cells ≤ 600130; omega, by show slots ≤ 7301080; omega⟩ dL_law_379 ?_
  refine lv_icmp_eq (tgt := 387) hx hb dL_law_382 (by decide) (fun _ => ?_) (fun q => absurd rfl q)
  refine lv_aload_n hx hb dL_law_387 rfl (lv_at hl 12 rfl) ?_
  refine lv_iload hx hb dL_law_388 (lv_at hl 2 rfl) ?_
  refine g0i (As := [.int (nI i)]) (rest := []) S (c_isExam l E a σ i (by rw [h.n]; exact n4) (by rw [h.n]; exact (by omega))) (cwV 1 hts gL_law_X0_isExam rfl rfl rfl hdX0_isExam ⟨Nat.le_of_ble_eq_true rfl, Nat.le_of_ble_eq_true rfl⟩) hK hG.1 rfl hl.1 rfl (Nat.le_of_ble_eq_true rfl) ⟨by show cells ≤ 600130; omega, by show slots ≤ 7301080; omega⟩ dL_law_390 ?_
  rw [h.ex (p := i) (by omega)]
  refine lv_if_eq (tgt := 486) hx hb dL_law_393 (by decide) (fun q => absurd q ((by rw [he]; decide))) (fun _ => ?_)
  refine lv_iinc (v := x8 + 1) (lv' := [(8, .int (x8 + 1)), (14, .int (gEf σ i)), (13, .int (nI (gLd σ 40 i))), (12, .int (nI i)), (11, .ref qh), (10, .ref qs), (9, .int x9), (7, .int (nI (mn τ))), (5, .long dg), (4, .int x4), (3, .int (nI t)), (2, .ref (b 0)), (1, .ref (a 0)), (0, .ref sb)]) hx hb dL_law_396 hl (k := 6) rfl rfl (by decide) rfl (fun ls hl => ?_)
  refine lv_iload hx hb dL_law_399 (lv_at hl 6 rfl) ?_
  refine lv_aload_n hx hb dL_law_401 rfl (lv_at hl 12 rfl) ?_
  refine lv_iload hx hb dL_law_402 (lv_at hl 3 rfl) ?_
  refine g0i (As := [.int (nI i)]) (rest := [.int x9]) S (c_isGraded l E a σ i (by rw [h.n]; exact n4) (by rw [h.n]; exact (by omega)) (by rw [h.ex (by omega), he]; rfl)) (cwV 1 hts gL_law_X0_isGraded rfl rfl rfl hdX0_isGraded ⟨Nat.le_of_ble_eq_true rfl, Nat.le_of_ble_eq_true rfl⟩) hK hG.1 rfl hl.1 rfl (Nat.le_of_ble_eq_true rfl) ⟨by show cells ≤ 600130; omega, by show slots ≤ 7301080; omega⟩ dL_law_404 ?_
  rw [h.has (p := i) (by omega)]
  rw [hgd]
  refine lv_if_eq (tgt := 414) hx hb dL_law_407 (by decide) (fun q => absurd q ((b2i_ne0.mpr rfl))) (fun _ => ?_)
  refine lv_iconst (v := 1) hx hb dL_law_410 (by decide) ?_
  refine lv_goto (tgt := 415) hx hb dL_law_411 (by decide) ?_
  refine lv_iadd hx hb dL_law_415 ?_
  refine lv_istore (lv' := [(9, .int (x9 + 1)), (8, .int (x8 + 1)), (14, .int (gEf σ i)), (13, .int (nI (gLd σ 40 i))), (12, .int (nI i)), (11, .ref qh), (10, .ref qs), (7, .int (nI (mn τ))), (5, .long dg), (4, .int x4), (3, .int (nI t)), (2, .ref (b 0)), (1, .ref (a 0)), (0, .ref sb)]) hx hb dL_law_416 hl (by decide) rfl (fun ls hl => ?_)
  refine lv_aload_n hx hb dL_law_418 rfl (lv_at hl 12 rfl) ?_
  refine lv_iload hx hb dL_law_419 (lv_at hl 4 rfl) ?_
  refine g0i (As := [.int (nI i)]) (rest := []) S (c_isGraded l E a σ i (by rw [h.n]; exact n4) (by rw [h.n]; exact (by omega)) (by rw [h.ex (by omega), he]; rfl)) (cwV 1 hts gL_law_X0_isGraded rfl rfl rfl hdX0_isGraded ⟨Nat.le_of_ble_eq_true rfl, Nat.le_of_ble_eq_true rfl⟩) hK hG.1 rfl hl.1 rfl (Nat.le_of_ble_eq_true rfl) ⟨by show cells ≤ 600130; omega, by show slots ≤ 7301080; omega⟩ dL_law_421 ?_
  rw [h.has (p := i) (by omega)]
  rw [hgd]
  refine lv_aload_n hx hb dL_law_424 rfl (lv_at hl 12 rfl) ?_
  refine lv_iload hx hb dL_law_425 (lv_at hl 4 rfl) ?_
  refine g0i (As := [.int (nI i)]) (rest := [.int (b2i true)]) S (c_gradeOf l E a σ i (by rw [h.n]; exact n4) (by rw [h.n]; exact (by omega)) (by rw [h.ex (by omega), he]; rfl)) (cwV 1 hts gL_law_X0_gradeOf rfl rfl rfl hdX0_gradeOf ⟨Nat.le_of_ble_eq_true rfl, Nat.le_of_ble_eq_true rfl⟩) hK hG.1 rfl hl.1 rfl (Nat.le_of_ble_eq_true rfl) ⟨by show cells ≤ 600130; omega, by show slots ≤ 7301080; omega⟩ dL_law_427 ?_
  rw [(h.e (p := i) (by omega) he).2.2.2.2.1]
  refine lv_if_lt (tgt := 437) hx hb dL_law_430 (by decide) (fun q => absurd q hu) (fun _ => ?_)
  refine lv_iconst (v := 1) hx hb dL_law_433 (by decide) ?_
  refine lv_goto (tgt := 438) hx hb dL_law_434 (by decide) ?_
  refine lv_icmp_ne (tgt := 484) hx hb dL_law_438 (by decide) (fun q => absurd rfl q) (fun _ => ?_)
  refine lv_aload_n hx hb dL_law_441 rfl (lv_at hl 12 rfl) ?_
  refine lv_iload hx hb dL_law_442 (lv_at hl 4 rfl) ?_
  refine g0i (As := [.int (nI i)]) (rest := []) S (c_isGraded l E a σ i (by rw [h.n]; exact n4) (by rw [h.n]; exact (by omega)) (by rw [h.ex (by omega), he]; rfl)) (cwV 1 hts gL_law_X0_isGraded rfl rfl rfl hdX0_isGraded ⟨Nat.le_of_ble_eq_true rfl, Nat.le_of_ble_eq_true rfl⟩) hK hG.1 rfl hl.1 rfl (Nat.le_of_ble_eq_true rfl) ⟨by show cells ≤ 600130; omega, by show slots ≤ 7301080; omega⟩ dL_law_444 ?_
  rw [h.has (p := i) (by omega)]
  rw [hgd]
  refine lv_if_eq (tgt := 477) hx hb dL_law_447 (by decide) (fun q => absurd q ((b2i_ne0.mpr rfl))) (fun _ => ?_)
  refine lv_aload hx hb dL_law_450 (lv_at hl 6 rfl) ?_
  refine lv_iload hx hb dL_law_452 (lv_at hl 4 rfl) ?_
  refine s_ild hx hb hK hqs (k := i) (by omega) (by omega) (v := gsu σ i) (hfs i (by omega)) dL_law_454 ?_
  refine lv_aload_n hx hb dL_law_455 rfl (lv_at hl 12 rfl) ?_
  refine lv_iload hx hb dL_law_456 (lv_at hl 4 rfl) ?_
  refine g0i (As := [.int (nI i)]) (rest := [.int (gsu σ i)]) S (c_gradeOf l E a σ i (by rw [h.n]; exact n4) (by rw [h.n]; exact (by omega)) (by rw [h.ex (by omega), he]; rfl)) (cwV 1 hts gL_law_X0_gradeOf rfl rfl rfl hdX0_gradeOf ⟨Nat.le_of_ble_eq_true rfl, Nat.le_of_ble_eq_true rfl⟩) hK hG.1 rfl hl.1 rfl (Nat.le_of_ble_eq_true rfl) ⟨by show cells ≤ 600130; omega, by show slots ≤ 7301080; omega⟩ dL_law_458 ?_
  rw [(h.e (p := i) (by omega) he).2.2.2.2.1]
  refine lv_icmp_ne (tgt := 484) hx hb dL_law_461 (by decide) (fun q => absurd ((by rw [e7, if_neg hn1])) q) (fun _ => ?_)
  refine lv_aload hx hb dL_law_464 (lv_at hl 5 rfl) ?_
  refine lv_iload hx hb dL_law_466 (lv_at hl 4 rfl) ?_
  refine s_ild hx hb hK hqh (k := i) (by omega) (by omega) (v := gho σ i) (hgs i (by omega)) dL_law_468 ?_
  refine lv_aload hx hb dL_law_469 (lv_at hl 6 rfl) ?_
  refine lv_iload hx hb dL_law_471 (lv_at hl 4 rfl) ?_
  refine s_ild hx hb hK hqs (k := i) (by omega) (by omega) (v := gsu σ i) (hfs i (by omega)) dL_law_473 ?_
  refine lv_icmp_ne (tgt := 484) hx hb dL_law_474 (by decide) (fun q => absurd ((by rw [e7, e8, if_neg hn1, if_neg hn1])) q) (fun _ => ?_)
  refine lv_iload hx hb dL_law_477 (lv_at hl 3 rfl) ?_
  refine lv_iload hx hb dL_law_479 (lv_at hl 4 rfl) ?_
  refine lv_icmp_eq (tgt := 863) hx hb dL_law_481 (by decide) (fun _ => ?_) (fun q => absurd ((congrArg nI (h.ldX hi he))) q)
  exact kk _ _ ls (lv_sub hl [4, 5, 6, 0, 1, 7, 8, 9, 10, 11, 12, 13] rfl) rfl rfl
set_option maxHeartbeats 4000000 in
set_option maxRecDepth 100000 in
theorem lp_xu (hC : LPl p l s m meth c sb L xs E a b σ τ qs qh f g H locs cells slots) (hi : i < mn τ) (hfs : ∀ j, j < i + 1 → f j = gsu σ j) (hgs : ∀ j, j < i + 1 → g j = gho σ j) (he : mf τ i = false) (hgd : mGd τ i = false) (hu : md τ i < 0) (hl : lv_has ls 23 [(14, .int (gEf σ i)), (13, .int (nI (gLd σ 40 i))), (12, .int (nI i)), (11, .ref qh), (10, .ref qs), (9, .int x9), (8, .int x8), (7, .int (nI (mn τ))), (5, .long dg), (4, .int x4), (3, .int (nI t)), (2, .ref (b 0)), (1, .ref (a 0)), (0, .ref sb)]) (kk : ∀ (y8 y9 : Int32) (ls : Array Slot), lv_has ls 23 [(12, .int (nI i)), (11, .ref qh), (10, .ref qs), (9, .int y9), (8, .int y8), (7, .int (nI (mn τ))), (5, .long dg), (4, .int x4), (3, .int (nI t)), (2, .ref (b 0)), (1, .ref (a 0)), (0, .ref sb)] → y8 = x8 + 1 → y9 = x9 + 0 → lW p l e s m below meth c sb H locs cells slots 863 ls []) : lW p l e s m below meth c sb H locs cells slots 374 ls [] := by
  obtain ⟨⟨S, hK, hQ, hZ, hX, hbl, hL, hfl, hr, hlk⟩, h, q, hG, hS, hqs, hqh, hcs, hss⟩ := id hC
  obtain ⟨hx, hb, hml, hown, hts⟩ := id S
  have hts1 := inlX1
  have n4 := h.1.1
  have k8 := h.1.2.1
  have e7 := (h.e hi he).2.2.2.2.2.2.1
  have e8 := (h.e hi he).2.2.2.2.2.2.2.1
  refine lv_iload hx hb dL_law_374 (lv_at hl 0 rfl) ?_
  refine lv_aload_n hx hb dL_law_376 rfl (lv_at hl 12 rfl) ?_
  refine lv_iload hx hb dL_law_377 (lv_at hl 2 rfl) ?_
  refine g0i (As := [.int (nI i)]) (rest := [.int (gEf σ i)]) S (c_examsFrom l E a σ i (by rw [h.n]; exact n4) (by rw [h.n]; exact (by omega))) (cwV 1 hts gL_law_X0_examsFrom rfl rfl rfl hdX0_examsFrom ⟨Nat.le_of_ble_eq_true rfl, Nat.le_of_ble_eq_true rfl⟩) hK hG.1 rfl hl.1 rfl (Nat.le_of_ble_eq_true rfl) ⟨by show cells ≤ 600130; omega, by show slots ≤ 7301080; omega⟩ dL_law_379 ?_
  refine lv_icmp_eq (tgt := 387) hx hb dL_law_382 (by decide) (fun _ => ?_) (fun q => absurd rfl q)
  refine lv_aload_n hx hb dL_law_387 rfl (lv_at hl 12 rfl) ?_
  refine lv_iload hx hb dL_law_388 (lv_at hl 2 rfl) ?_
  refine g0i (As := [.int (nI i)]) (rest := []) S (c_isExam l E a σ i (by rw [h.n]; exact n4) (by rw [h.n]; exact (by omega))) (cwV 1 hts gL_law_X0_isExam rfl rfl rfl hdX0_isExam ⟨Nat.le_of_ble_eq_true rfl, Nat.le_of_ble_eq_true rfl⟩) hK hG.1 rfl hl.1 rfl (Nat.le_of_ble_eq_true rfl) ⟨by show cells ≤ 600130; omega, by show slots ≤ 7301080; omega⟩ dL_law_390 ?_
  rw [h.ex (p := i) (by omega)]
  refine lv_if_eq (tgt := 486) hx hb dL_law_393 (by decide) (fun q => absurd q ((by rw [he]; decide))) (fun _ => ?_)
  refine lv_iinc (v := x8 + 1) (lv' := [(8, .int (x8 + 1)), (14, .int (gEf σ i)), (13, .int (nI (gLd σ 40 i))), (12, .int (nI i)), (11, .ref qh), (10, .ref qs), (9, .int x9), (7, .int (nI (mn τ))), (5, .long dg), (4, .int x4), (3, .int (nI t)), (2, .ref (b 0)), (1, .ref (a 0)), (0, .ref sb)]) hx hb dL_law_396 hl (k := 6) rfl rfl (by decide) rfl (fun ls hl => ?_)
  refine lv_iload hx hb dL_law_399 (lv_at hl 6 rfl) ?_
  refine lv_aload_n hx hb dL_law_401 rfl (lv_at hl 12 rfl) ?_
  refine lv_iload hx hb dL_law_402 (lv_at hl 3 rfl) ?_
  refine g0i (As := [.int (nI i)]) (rest := [.int x9]) S (c_isGraded l E a σ i (by rw [h.n]; exact n4) (by rw [h.n]; exact (by omega)) (by rw [h.ex (by omega), he]; rfl)) (cwV 1 hts gL_law_X0_isGraded rfl rfl rfl hdX0_isGraded ⟨Nat.le_of_ble_eq_true rfl, Nat.le_of_ble_eq_true rfl⟩) hK hG.1 rfl hl.1 rfl (Nat.le_of_ble_eq_true rfl) ⟨by show cells ≤ 600130; omega, by show slots ≤ 7301080; omega⟩ dL_law_404 ?_
  rw [h.has (p := i) (by omega)]
  rw [hgd]
  refine lv_if_eq (tgt := 414) hx hb dL_law_407 (by decide) (fun _ => ?_) (fun q => absurd ((rfl : b2i false = 0)) q)
  refine lv_iconst (v := 0) hx hb dL_law_414 (by decide) ?_
  refine lv_iadd hx hb dL_law_415 ?_
  refine lv_istore (lv' := [(9, .int (x9 + 0)), (8, .int (x8 + 1)), (14, .int (gEf σ i)), (13, .int (nI (gLd σ 40 i))), (12, .int (nI i)), (11, .ref qh), (10, .ref qs), (7, .int (nI (mn τ))), (5, .long dg), (4, .int x4), (3, .int (nI t)), (2, .ref (b 0)), (1, .ref (a 0)), (0, .ref sb)]) hx hb dL_law_416 hl (by decide) rfl (fun ls hl => ?_)
  refine lv_aload_n hx hb dL_law_418 rfl (lv_at hl 12 rfl) ?_
  refine lv_iload hx hb dL_law_419 (lv_at hl 4 rfl) ?_
  refine g0i (As := [.int (nI i)]) (rest := []) S (c_isGraded l E a σ i (by rw [h.n]; exact n4) (by rw [h.n]; exact (by omega)) (by rw [h.ex (by omega), he]; rfl)) (cwV 1 hts gL_law_X0_isGraded rfl rfl rfl hdX0_isGraded ⟨Nat.le_of_ble_eq_true rfl, Nat.le_of_ble_eq_true rfl⟩) hK hG.1 rfl hl.1 rfl (Nat.le_of_ble_eq_true rfl) ⟨by show cells ≤ 600130; omega, by show slots ≤ 7301080; omega⟩ dL_law_421 ?_
  rw [h.has (p := i) (by omega)]
  rw [hgd]
  refine lv_aload_n hx hb dL_law_424 rfl (lv_at hl 12 rfl) ?_
  refine lv_iload hx hb dL_law_425 (lv_at hl 4 rfl) ?_
  refine g0i (As := [.int (nI i)]) (rest := [.int (b2i false)]) S (c_gradeOf l E a σ i (by rw [h.n]; exact n4) (by rw [h.n]; exact (by omega)) (by rw [h.ex (by omega), he]; rfl)) (cwV 1 hts gL_law_X0_gradeOf rfl rfl rfl hdX0_gradeOf ⟨Nat.le_of_ble_eq_true rfl, Nat.le_of_ble_eq_true rfl⟩) hK hG.1 rfl hl.1 rfl (Nat.le_of_ble_eq_true rfl) ⟨by show cells ≤ 600130; omega, by show slots ≤ 7301080; omega⟩ dL_law_427 ?_
  rw [(h.e (p := i) (by omega) he).2.2.2.2.1]
  refine lv_if_lt (tgt := 437) hx hb dL_law_430 (by decide) (fun _ => ?_) (fun q => absurd hu q)
  refine lv_iconst (v := 0) hx hb dL_law_437 (by decide) ?_
  refine lv_icmp_ne (tgt := 484) hx hb dL_law_438 (by decide) (fun q => absurd rfl q) (fun _ => ?_)
  refine lv_aload_n hx hb dL_law_441 rfl (lv_at hl 12 rfl) ?_
  refine lv_iload hx hb dL_law_442 (lv_at hl 4 rfl) ?_
  refine g0i (As := [.int (nI i)]) (rest := []) S (c_isGraded l E a σ i (by rw [h.n]; exact n4) (by rw [h.n]; exact (by omega)) (by rw [h.ex (by omega), he]; rfl)) (cwV 1 hts gL_law_X0_isGraded rfl rfl rfl hdX0_isGraded ⟨Nat.le_of_ble_eq_true rfl, Nat.le_of_ble_eq_true rfl⟩) hK hG.1 rfl hl.1 rfl (Nat.le_of_ble_eq_true rfl) ⟨by show cells ≤ 600130; omega, by show slots ≤ 7301080; omega⟩ dL_law_444 ?_
  rw [h.has (p := i) (by omega)]
  rw [hgd]
  refine lv_if_eq (tgt := 477) hx hb dL_law_447 (by decide) (fun _ => ?_) (fun q => absurd ((rfl : b2i false = 0)) q)
  refine lv_iload hx hb dL_law_477 (lv_at hl 3 rfl) ?_
  refine lv_iload hx hb dL_law_479 (lv_at hl 4 rfl) ?_
  refine lv_icmp_eq (tgt := 863) hx hb dL_law_481 (by decide) (fun _ => ?_) (fun q => absurd ((congrArg nI (h.ldX hi he))) q)
  exact kk _ _ ls (lv_sub hl [4, 5, 6, 0, 1, 7, 8, 9, 10, 11, 12, 13] rfl) rfl rfl
set_option maxHeartbeats 4000000 in
set_option maxRecDepth 100000 in
theorem lp_374f (hC : LPl p l s m meth c sb L xs E a b σ τ qs qh f g H locs cells slots) (hi : i < mn τ) (hfs : ∀ j, j < i + 1 → f j = gsu σ j) (hgs : ∀ j, j < i + 1 → g j = gho σ j) (hk : mf τ i = true) (hl : lv_has ls 23 [(14, .int (gEf σ i)), (13, .int (nI (gLd σ 40 i))), (12, .int (nI i)), (11, .ref qh), (10, .ref qs), (9, .int x9), (8, .int x8), (7, .int (nI (mn τ))), (5, .long dg), (4, .int x4), (3, .int (nI t)), (2, .ref (b 0)), (1, .ref (a 0)), (0, .ref sb)]) (kk : ∀ (ls : Array Slot), lv_has ls 23 [(13, .int (nI (gLd σ 40 i))), (12, .int (nI i)), (11, .ref qh), (10, .ref qs), (9, .int x9), (8, .int x8), (7, .int (nI (mn τ))), (5, .long dg), (4, .int x4), (3, .int (nI t)), (2, .ref (b 0)), (1, .ref (a 0)), (0, .ref sb)] → lW p l e s m below meth c sb H locs cells slots 486 ls []) : lW p l e s m below meth c sb H locs cells slots 374 ls [] := by
  obtain ⟨⟨S, hK, hQ, hZ, hX, hbl, hL, hfl, hr, hlk⟩, h, q, hG, hS, hqs, hqh, hcs, hss⟩ := id hC
  obtain ⟨hx, hb, hml, hown, hts⟩ := id S
  have hts1 := inlX1
  have n4 := h.1.1
  have k8 := h.1.2.1
  refine lv_iload hx hb dL_law_374 (lv_at hl 0 rfl) ?_
  refine lv_aload_n hx hb dL_law_376 rfl (lv_at hl 12 rfl) ?_
  refine lv_iload hx hb dL_law_377 (lv_at hl 2 rfl) ?_
  refine g0i (As := [.int (nI i)]) (rest := [.int (gEf σ i)]) S (c_examsFrom l E a σ i (by rw [h.n]; exact n4) (by rw [h.n]; exact (by omega))) (cwV 1 hts gL_law_X0_examsFrom rfl rfl rfl hdX0_examsFrom ⟨Nat.le_of_ble_eq_true rfl, Nat.le_of_ble_eq_true rfl⟩) hK hG.1 rfl hl.1 rfl (Nat.le_of_ble_eq_true rfl) ⟨by show cells ≤ 600130; omega, by show slots ≤ 7301080; omega⟩ dL_law_379 ?_
  refine lv_icmp_eq (tgt := 387) hx hb dL_law_382 (by decide) (fun _ => ?_) (fun q => absurd rfl q)
  refine lv_aload_n hx hb dL_law_387 rfl (lv_at hl 12 rfl) ?_
  refine lv_iload hx hb dL_law_388 (lv_at hl 2 rfl) ?_
  refine g0i (As := [.int (nI i)]) (rest := []) S (c_isExam l E a σ i (by rw [h.n]; exact n4) (by rw [h.n]; exact (by omega))) (cwV 1 hts gL_law_X0_isExam rfl rfl rfl hdX0_isExam ⟨Nat.le_of_ble_eq_true rfl, Nat.le_of_ble_eq_true rfl⟩) hK hG.1 rfl hl.1 rfl (Nat.le_of_ble_eq_true rfl) ⟨by show cells ≤ 600130; omega, by show slots ≤ 7301080; omega⟩ dL_law_390 ?_
  rw [h.ex (p := i) (by omega)]
  refine lv_if_eq (tgt := 486) hx hb dL_law_393 (by decide) (fun _ => ?_) (fun q => absurd ((by rw [hk]; rfl)) q)
  exact kk ls (lv_sub hl [1, 2, 3, 4, 5, 6, 7, 8, 9, 10, 11, 12, 13] rfl)
set_option maxHeartbeats 4000000 in
set_option maxRecDepth 100000 in
theorem lp_486 (hC : LPl p l s m meth c sb L xs E a b σ τ qs qh f g H locs cells slots) (hi : i < mn τ) (hfs : ∀ j, j < i + 1 → f j = gsu σ j) (hgs : ∀ j, j < i + 1 → g j = gho σ j) (hk : mf τ i = true) (hl : lv_has ls 23 [(13, .int (nI (gLd σ 40 i))), (12, .int (nI i)), (11, .ref qh), (10, .ref qs), (9, .int x9), (8, .int x8), (7, .int (nI (mn τ))), (5, .long dg), (4, .int x4), (3, .int (nI t)), (2, .ref (b 0)), (1, .ref (a 0)), (0, .ref sb)]) (kk : ∀ (ls : Array Slot), lv_has ls 23 [(13, .int (nI (gLd σ 40 i))), (12, .int (nI i)), (11, .ref qh), (10, .ref qs), (9, .int x9), (8, .int x8), (7, .int (nI (mn τ))), (5, .long dg), (4, .int x4), (3, .int (nI t)), (2, .ref (b 0)), (1, .ref (a 0)), (0, .ref sb)] → lW p l e s m below meth c sb H locs cells slots 720 ls []) : lW p l e s m below meth c sb H locs cells slots 486 ls [] := by
  obtain ⟨⟨S, hK, hQ, hZ, hX, hbl, hL, hfl, hr, hlk⟩, h, q, hG, hS, hqs, hqh, hcs, hss⟩ := id hC
  obtain ⟨hx, hb, hml, hown, hts⟩ := id S
  have hts1 := inlX1
  have n4 := h.1.1
  have k8 := h.1.2.1
  have f3 := (h.f hk).2.2.1
  have f4 := (h.f hk).2.2.2.1
  have f5 := (h.f hk).2.2.2.2.1
  have f7 := (h.f hk).2.2.2.2.2.2.1
  have f8 := (h.f hk).2.2.2.2.2.2.2.1
  obtain ⟨w, w1, w2, hw⟩ := (q i hi).2 hk
  obtain ⟨r, hr1, hr2, er, hle⟩ : ∃ r, r < mn τ ∧ mf τ r = true ∧ (gRf σ).1 = nI r ∧ gSm σ i ≤ gSm σ r := by
    rcases h.rkR q with ⟨i1, _⟩ | ⟨r, _, i2, i3, i4, i5, _⟩
    · rw [i1 i (Nat.zero_le _) hi] at hk; cases hk
    · exact ⟨r, i2, i3, by rw [i4], i5 i (Nat.zero_le _) hi hk⟩
  have r0 : gRisk σ i false = imx 0 (gho σ (mh τ i) - gsu σ (mo τ i)) * nI w := by rw [gRisk, (h.to hk _).1, (h.to hk _).1, f5, hw]; rfl
  have r1 : gRisk σ i true = imx 0 (gho σ (mo τ i) - gsu σ (mh τ i)) * nI w := by rw [gRisk, (h.to hk _).1, (h.to hk _).1, f5, hw]; rfl
  refine lv_aload_n hx hb dL_law_486 rfl (lv_at hl 11 rfl) ?_
  refine lv_iload hx hb dL_law_487 (lv_at hl 1 rfl) ?_
  refine g0i (As := [.int (nI i)]) (rest := []) S (c_leftOf l E a σ i (by rw [h.n]; exact n4) (by rw [h.n]; exact (by omega)) (by rw [h.ex (by omega), hk]; rfl)) (cwV 1 hts gL_law_X0_leftOf rfl rfl rfl hdX0_leftOf ⟨Nat.le_of_ble_eq_true rfl, Nat.le_of_ble_eq_true rfl⟩) hK hG.1 rfl hl.1 rfl (Nat.le_of_ble_eq_true rfl) ⟨by show cells ≤ 600130; omega, by show slots ≤ 7301080; omega⟩ dL_law_489 ?_
  rw [(h.f hk).1]
  refine lv_istore (lv' := [(15, .int (nI (mo τ i))), (13, .int (nI (gLd σ 40 i))), (12, .int (nI i)), (11, .ref qh), (10, .ref qs), (9, .int x9), (8, .int x8), (7, .int (nI (mn τ))), (5, .long dg), (4, .int x4), (3, .int (nI t)), (2, .ref (b 0)), (1, .ref (a 0)), (0, .ref sb)]) hx hb dL_law_492 hl (by decide) rfl (fun ls hl => ?_)
  refine lv_aload_n hx hb dL_law_494 rfl (lv_at hl 12 rfl) ?_
  refine lv_iload hx hb dL_law_495 (lv_at hl 2 rfl) ?_
  refine g0i (As := [.int (nI i)]) (rest := []) S (c_rightOf l E a σ i (by rw [h.n]; exact n4) (by rw [h.n]; exact (by omega)) (by rw [h.ex (by omega), hk]; rfl)) (cwV 1 hts gL_law_X0_rightOf rfl rfl rfl hdX0_rightOf ⟨Nat.le_of_ble_eq_true rfl, Nat.le_of_ble_eq_true rfl⟩) hK hG.1 rfl hl.1 rfl (Nat.le_of_ble_eq_true rfl) ⟨by show cells ≤ 600130; omega, by show slots ≤ 7301080; omega⟩ dL_law_497 ?_
  rw [(h.f hk).2.1]
  refine lv_istore (lv' := [(16, .int (nI (mh τ i))), (15, .int (nI (mo τ i))), (13, .int (nI (gLd σ 40 i))), (12, .int (nI i)), (11, .ref qh), (10, .ref qs), (9, .int x9), (8, .int x8), (7, .int (nI (mn τ))), (5, .long dg), (4, .int x4), (3, .int (nI t)), (2, .ref (b 0)), (1, .ref (a 0)), (0, .ref sb)]) hx hb dL_law_500 hl (by decide) rfl (fun ls hl => ?_)
  refine lv_aload_n hx hb dL_law_502 rfl (lv_at hl 13 rfl) ?_
  refine lv_iload hx hb dL_law_503 (lv_at hl 3 rfl) ?_
  refine g0i (As := [.int (nI i)]) (rest := []) S (c_weightOf l E a σ i (by rw [h.n]; exact n4) (by rw [h.n]; exact (by omega)) (by rw [h.ex (by omega), hk]; rfl)) (cwV 1 hts gL_law_X0_weightOf rfl rfl rfl hdX0_weightOf ⟨Nat.le_of_ble_eq_true rfl, Nat.le_of_ble_eq_true rfl⟩) hK hG.1 rfl hl.1 rfl (Nat.le_of_ble_eq_true rfl) ⟨by show cells ≤ 600130; omega, by show slots ≤ 7301080; omega⟩ dL_law_505 ?_
  rw [(h.f hk).2.2.2.2.1, hw]
  refine lv_istore (lv' := [(17, .int (nI w)), (16, .int (nI (mh τ i))), (15, .int (nI (mo τ i))), (13, .int (nI (gLd σ 40 i))), (12, .int (nI i)), (11, .ref qh), (10, .ref qs), (9, .int x9), (8, .int x8), (7, .int (nI (mn τ))), (5, .long dg), (4, .int x4), (3, .int (nI t)), (2, .ref (b 0)), (1, .ref (a 0)), (0, .ref sb)]) hx hb dL_law_508 hl (by decide) rfl (fun ls hl => ?_)
  refine lv_aload_n hx hb dL_law_510 rfl (lv_at hl 14 rfl) ?_
  refine lv_iload hx hb dL_law_511 (lv_at hl 4 rfl) ?_
  refine lv_iconst (v := 0) hx hb dL_law_513 (by decide) ?_
  refine g0i (As := [.int (nI i), .int (b2i false)]) (rest := []) S (c_risk l E a σ h.gok i (by rw [h.n]; exact (by omega)) (by rw [h.ex (by omega), hk]; rfl) false) (cwV 2 hts gL_law_X0_risk rfl rfl rfl hdX0_risk ⟨Nat.le_of_ble_eq_true rfl, Nat.le_of_ble_eq_true rfl⟩) hK hG.1 rfl hl.1 rfl (Nat.le_of_ble_eq_true rfl) ⟨by show cells ≤ 600130; omega, by show slots ≤ 7301080; omega⟩ dL_law_514 ?_
  refine lv_istore (lv' := [(18, .int (gRisk σ i false)), (17, .int (nI w)), (16, .int (nI (mh τ i))), (15, .int (nI (mo τ i))), (13, .int (nI (gLd σ 40 i))), (12, .int (nI i)), (11, .ref qh), (10, .ref qs), (9, .int x9), (8, .int x8), (7, .int (nI (mn τ))), (5, .long dg), (4, .int x4), (3, .int (nI t)), (2, .ref (b 0)), (1, .ref (a 0)), (0, .ref sb)]) hx hb dL_law_517 hl (by decide) rfl (fun ls hl => ?_)
  refine lv_aload_n hx hb dL_law_519 rfl (lv_at hl 15 rfl) ?_
  refine lv_iload hx hb dL_law_520 (lv_at hl 5 rfl) ?_
  refine lv_iconst (v := 1) hx hb dL_law_522 (by decide) ?_
  refine g0i (As := [.int (nI i), .int (b2i true)]) (rest := []) S (c_risk l E a σ h.gok i (by rw [h.n]; exact (by omega)) (by rw [h.ex (by omega), hk]; rfl) true) (cwV 2 hts gL_law_X0_risk rfl rfl rfl hdX0_risk ⟨Nat.le_of_ble_eq_true rfl, Nat.le_of_ble_eq_true rfl⟩) hK hG.1 rfl hl.1 rfl (Nat.le_of_ble_eq_true rfl) ⟨by show cells ≤ 600130; omega, by show slots ≤ 7301080; omega⟩ dL_law_523 ?_
  refine lv_istore (lv' := [(19, .int (gRisk σ i true)), (18, .int (gRisk σ i false)), (17, .int (nI w)), (16, .int (nI (mh τ i))), (15, .int (nI (mo τ i))), (13, .int (nI (gLd σ 40 i))), (12, .int (nI i)), (11, .ref qh), (10, .ref qs), (9, .int x9), (8, .int x8), (7, .int (nI (mn τ))), (5, .long dg), (4, .int x4), (3, .int (nI t)), (2, .ref (b 0)), (1, .ref (a 0)), (0, .ref sb)]) hx hb dL_law_526 hl (by decide) rfl (fun ls hl => ?_)
  refine lv_iload hx hb dL_law_528 (lv_at hl 4 rfl) ?_
  refine lv_iload hx hb dL_law_530 (lv_at hl 6 rfl) ?_
  refine lv_icmp_ge (tgt := 718) hx hb dL_law_532 (by decide) (fun q => absurd q ((nI_ge f3 (by omega)))) (fun _ => ?_)
  refine lv_iload hx hb dL_law_535 (lv_at hl 3 rfl) ?_
  refine lv_iload hx hb dL_law_537 (lv_at hl 6 rfl) ?_
  refine lv_icmp_ge (tgt := 718) hx hb dL_law_539 (by decide) (fun q => absurd q ((nI_ge f4 (by omega)))) (fun _ => ?_)
  refine lv_iload hx hb dL_law_542 (lv_at hl 2 rfl) ?_
  refine lv_iconst (v := 1) hx hb dL_law_544 (by decide) ?_
  refine lv_icmp_lt (tgt := 718) hx hb dL_law_545 (by decide) (fun q => absurd q ((fun z => Int32.not_lt.mpr (nI_le (a := 1) w1 (by omega)) z))) (fun _ => ?_)
  refine lv_iload hx hb dL_law_548 (lv_at hl 2 rfl) ?_
  refine lv_bipush (v := nI 9) hx hb dL_law_550 (by decide) ?_
  refine lv_icmp_gt (tgt := 718) hx hb dL_law_552 (by decide) (fun q => absurd q ((Int32.not_lt.mpr (nI_le w2 (by decide))))) (fun _ => ?_)
  refine lv_aload hx hb dL_law_555 (lv_at hl 8 rfl) ?_
  refine lv_iload hx hb dL_law_557 (lv_at hl 6 rfl) ?_
  refine s_ild hx hb hK hqs (k := i) (by omega) (by omega) (v := gsu σ i) (hfs i (by omega)) dL_law_559 ?_
  refine lv_aload hx hb dL_law_560 (lv_at hl 8 rfl) ?_
  refine lv_iload hx hb dL_law_562 (lv_at hl 4 rfl) ?_
  refine s_ild hx hb hK hqs (k := mo τ i) (by omega) (by omega) (v := gsu σ (mo τ i)) (hfs (mo τ i) (by omega)) dL_law_564 ?_
  refine lv_aload hx hb dL_law_565 (lv_at hl 8 rfl) ?_
  refine lv_iload hx hb dL_law_567 (lv_at hl 3 rfl) ?_
  refine s_ild hx hb hK hqs (k := mh τ i) (by omega) (by omega) (v := gsu σ (mh τ i)) (hfs (mh τ i) (by omega)) dL_law_569 ?_
  refine g_max hx hb (hml.trans hl.1.symm) hown (hts (.methodLink RL 137 Lib.Math.max.name) (by decide +kernel)) (hts (.static Lib.Math.max.name) (by decide +kernel)) (hts (.initialized "java/lang/Math") (by decide +kernel)) (hts (.code Lib.Math.max.name Lib.Math.max.code 2 (some .int)) (by decide +kernel)) (Nat.le_of_ble_eq_true rfl) (Nat.le_of_ble_eq_true rfl) ⟨by show cells ≤ 600130; omega, by show slots ≤ 7301080; omega⟩ dL_law_570 ?_
  refine lv_icmp_ne (tgt := 718) hx hb dL_law_573 (by decide) (fun q => absurd f7 q) (fun _ => ?_)
  refine lv_aload hx hb dL_law_576 (lv_at hl 7 rfl) ?_
  refine lv_iload hx hb dL_law_578 (lv_at hl 6 rfl) ?_
  refine s_ild hx hb hK hqh (k := i) (by omega) (by omega) (v := gho σ i) (hgs i (by omega)) dL_law_580 ?_
  refine lv_aload hx hb dL_law_581 (lv_at hl 7 rfl) ?_
  refine lv_iload hx hb dL_law_583 (lv_at hl 4 rfl) ?_
  refine s_ild hx hb hK hqh (k := mo τ i) (by omega) (by omega) (v := gho σ (mo τ i)) (hgs (mo τ i) (by omega)) dL_law_585 ?_
  refine lv_aload hx hb dL_law_586 (lv_at hl 7 rfl) ?_
  refine lv_iload hx hb dL_law_588 (lv_at hl 3 rfl) ?_
  refine s_ild hx hb hK hqh (k := mh τ i) (by omega) (by omega) (v := gho σ (mh τ i)) (hgs (mh τ i) (by omega)) dL_law_590 ?_
  refine g_max hx hb (hml.trans hl.1.symm) hown (hts (.methodLink RL 137 Lib.Math.max.name) (by decide +kernel)) (hts (.static Lib.Math.max.name) (by decide +kernel)) (hts (.initialized "java/lang/Math") (by decide +kernel)) (hts (.code Lib.Math.max.name Lib.Math.max.code 2 (some .int)) (by decide +kernel)) (Nat.le_of_ble_eq_true rfl) (Nat.le_of_ble_eq_true rfl) ⟨by show cells ≤ 600130; omega, by show slots ≤ 7301080; omega⟩ dL_law_591 ?_
  refine lv_icmp_ne (tgt := 718) hx hb dL_law_594 (by decide) (fun q => absurd f8 q) (fun _ => ?_)
  refine lv_iload hx hb dL_law_597 (lv_at hl 1 rfl) ?_
  refine lv_iconst (v := 0) hx hb dL_law_599 (by decide) ?_
  refine lv_aload hx hb dL_law_600 (lv_at hl 7 rfl) ?_
  refine lv_iload hx hb dL_law_602 (lv_at hl 3 rfl) ?_
  refine s_ild hx hb hK hqh (k := mh τ i) (by omega) (by omega) (v := gho σ (mh τ i)) (hgs (mh τ i) (by omega)) dL_law_604 ?_
  refine lv_aload hx hb dL_law_605 (lv_at hl 8 rfl) ?_
  refine lv_iload hx hb dL_law_607 (lv_at hl 4 rfl) ?_
  refine s_ild hx hb hK hqs (k := mo τ i) (by omega) (by omega) (v := gsu σ (mo τ i)) (hfs (mo τ i) (by omega)) dL_law_609 ?_
  refine lv_isub hx hb dL_law_610 ?_
  refine g_max hx hb (hml.trans hl.1.symm) hown (hts (.methodLink RL 137 Lib.Math.max.name) (by decide +kernel)) (hts (.static Lib.Math.max.name) (by decide +kernel)) (hts (.initialized "java/lang/Math") (by decide +kernel)) (hts (.code Lib.Math.max.name Lib.Math.max.code 2 (some .int)) (by decide +kernel)) (Nat.le_of_ble_eq_true rfl) (Nat.le_of_ble_eq_true rfl) ⟨by show cells ≤ 600130; omega, by show slots ≤ 7301080; omega⟩ dL_law_611 ?_
  refine lv_iload hx hb dL_law_614 (lv_at hl 2 rfl) ?_
  refine lv_imul hx hb dL_law_616 ?_
  refine lv_icmp_ne (tgt := 718) hx hb dL_law_617 (by decide) (fun q => absurd r0 q) (fun _ => ?_)
  refine lv_iload hx hb dL_law_620 (lv_at hl 0 rfl) ?_
  refine lv_iconst (v := 0) hx hb dL_law_622 (by decide) ?_
  refine lv_aload hx hb dL_law_623 (lv_at hl 7 rfl) ?_
  refine lv_iload hx hb dL_law_625 (lv_at hl 4 rfl) ?_
  refine s_ild hx hb hK hqh (k := mo τ i) (by omega) (by omega) (v := gho σ (mo τ i)) (hgs (mo τ i) (by omega)) dL_law_627 ?_
  refine lv_aload hx hb dL_law_628 (lv_at hl 8 rfl) ?_
  refine lv_iload hx hb dL_law_630 (lv_at hl 3 rfl) ?_
  refine s_ild hx hb hK hqs (k := mh τ i) (by omega) (by omega) (v := gsu σ (mh τ i)) (hfs (mh τ i) (by omega)) dL_law_632 ?_
  refine lv_isub hx hb dL_law_633 ?_
  refine g_max hx hb (hml.trans hl.1.symm) hown (hts (.methodLink RL 137 Lib.Math.max.name) (by decide +kernel)) (hts (.static Lib.Math.max.name) (by decide +kernel)) (hts (.initialized "java/lang/Math") (by decide +kernel)) (hts (.code Lib.Math.max.name Lib.Math.max.code 2 (some .int)) (by decide +kernel)) (Nat.le_of_ble_eq_true rfl) (Nat.le_of_ble_eq_true rfl) ⟨by show cells ≤ 600130; omega, by show slots ≤ 7301080; omega⟩ dL_law_634 ?_
  refine lv_iload hx hb dL_law_637 (lv_at hl 2 rfl) ?_
  refine lv_imul hx hb dL_law_639 ?_
  refine lv_icmp_ne (tgt := 718) hx hb dL_law_640 (by decide) (fun q => absurd r1 q) (fun _ => ?_)
  refine lv_aload_n hx hb dL_law_643 rfl (lv_at hl 16 rfl) ?_
  refine lv_iload hx hb dL_law_644 (lv_at hl 6 rfl) ?_
  refine g0i (As := [.int (nI i)]) (rest := []) S (c_planTurnsRight l E a σ h.gok i (by rw [h.n]; exact (by omega)) (by rw [h.ex (by omega), hk]; rfl)) (cwV 1 hts gL_law_X0_planTurnsRight rfl rfl rfl hdX0_planTurnsRight ⟨Nat.le_of_ble_eq_true rfl, Nat.le_of_ble_eq_true rfl⟩) hK hG.1 rfl hl.1 rfl (Nat.le_of_ble_eq_true rfl) ⟨by show cells ≤ 600130; omega, by show slots ≤ 7301080; omega⟩ dL_law_646 ?_
  refine lv_iload hx hb dL_law_649 (lv_at hl 0 rfl) ?_
  refine lv_iload hx hb dL_law_651 (lv_at hl 1 rfl) ?_
  refine lv_icmp_ge (tgt := 660) hx hb dL_law_653 (by decide) (fun c653 => ?_) (fun c653 => ?_)
  · refine lv_iconst (v := 0) hx hb dL_law_660 (by decide) ?_
    refine lv_icmp_ne (tgt := 718) hx hb dL_law_661 (by decide) (fun q => absurd ((by rw [gPl, decide_eq_false (Int32.not_lt.mpr c653)]; rfl)) q) (fun _ => ?_)
    refine lv_iload hx hb dL_law_664 (lv_at hl 5 rfl) ?_
    refine lv_aload_n hx hb dL_law_666 rfl (lv_at hl 16 rfl) ?_
    refine lv_iload hx hb dL_law_667 (lv_at hl 0 rfl) ?_
    refine lv_iload hx hb dL_law_669 (lv_at hl 1 rfl) ?_
    refine lv_icmp_ge (tgt := 679) hx hb dL_law_671 (by decide) (fun _ => ?_) (fun q => absurd c653 q)
    refine lv_iload hx hb dL_law_679 (lv_at hl 4 rfl) ?_
    refine g0i (As := [.int (nI (mo τ i))]) (rest := [.int (nI (gLd σ 40 i))]) S (c_planLeadsTo l E a σ h.gok (mo τ i) (by rw [h.n]; exact (by omega))) (cwV 1 hts gL_law_X0_planLeadsTo rfl rfl rfl hdX0_planLeadsTo ⟨Nat.le_of_ble_eq_true rfl, Nat.le_of_ble_eq_true rfl⟩) hK hG.1 rfl hl.1 rfl (Nat.le_of_ble_eq_true rfl) ⟨by show cells ≤ 600130; omega, by show slots ≤ 7301080; omega⟩ dL_law_681 ?_
    refine lv_icmp_ne (tgt := 718) hx hb dL_law_684 (by decide) (fun q => absurd ((by rw [h.ldF hi hk, gPl, decide_eq_false (Int32.not_lt.mpr c653)]; rfl)) q) (fun _ => ?_)
    refine lv_iload hx hb dL_law_687 (lv_at hl 1 rfl) ?_
    refine lv_iload hx hb dL_law_689 (lv_at hl 0 rfl) ?_
    refine g_min hx hb (hml.trans hl.1.symm) hown (hts (.methodLink RL 145 Lib.Math.min.name) (by decide +kernel)) (hts (.static Lib.Math.min.name) (by decide +kernel)) (hts (.initialized "java/lang/Math") (by decide +kernel)) (hts (.code Lib.Math.min.name Lib.Math.min.code 2 (some .int)) (by decide +kernel)) (Nat.le_of_ble_eq_true rfl) (Nat.le_of_ble_eq_true rfl) ⟨by show cells ≤ 600130; omega, by show slots ≤ 7301080; omega⟩ dL_law_691 ?_
    refine lv_aload_n hx hb dL_law_694 rfl (lv_at hl 16 rfl) ?_
    refine lv_aload_n hx hb dL_law_695 rfl (lv_at hl 16 rfl) ?_
    refine g0i (As := []) (rest := [.ref (a 0), .int (imn (gRisk σ i false) (gRisk σ i true))]) S (c_riskiestFork l E a σ h.gok) (cwV 0 hts gL_law_X0_riskiestFork rfl rfl rfl hdX0_riskiestFork ⟨Nat.le_of_ble_eq_true rfl, Nat.le_of_ble_eq_true rfl⟩) hK hG.1 rfl hl.1 rfl (Nat.le_of_ble_eq_true rfl) ⟨by show cells ≤ 600130; omega, by show slots ≤ 7301080; omega⟩ dL_law_696 ?_
    rw [er]
    refine lv_iconst (v := 0) hx hb dL_law_699 (by decide) ?_
    refine g0i (As := [.int (nI r), .int (b2i false)]) (rest := [.int (imn (gRisk σ i false) (gRisk σ i true))]) S (c_risk l E a σ h.gok r (by rw [h.n]; exact hr1) (by rw [h.ex hr1, hr2]; rfl) false) (cwV 2 hts gL_law_X0_risk rfl rfl rfl hdX0_risk ⟨Nat.le_of_ble_eq_true rfl, Nat.le_of_ble_eq_true rfl⟩) hK hG.1 rfl hl.1 rfl (Nat.le_of_ble_eq_true rfl) ⟨by show cells ≤ 600130; omega, by show slots ≤ 7301080; omega⟩ dL_law_700 ?_
    refine lv_aload_n hx hb dL_law_703 rfl (lv_at hl 16 rfl) ?_
    refine lv_aload_n hx hb dL_law_704 rfl (lv_at hl 16 rfl) ?_
    refine g0i (As := []) (rest := [.ref (a 0), .int (gRisk σ r false), .int (imn (gRisk σ i false) (gRisk σ i true))]) S (c_riskiestFork l E a σ h.gok) (cwV 0 hts gL_law_X0_riskiestFork rfl rfl rfl hdX0_riskiestFork ⟨Nat.le_of_ble_eq_true rfl, Nat.le_of_ble_eq_true rfl⟩) hK hG.1 rfl hl.1 rfl (Nat.le_of_ble_eq_true rfl) ⟨by show cells ≤ 600130; omega, by show slots ≤ 7301080; omega⟩ dL_law_705 ?_
    rw [er]
    refine lv_iconst (v := 1) hx hb dL_law_708 (by decide) ?_
    refine g0i (As := [.int (nI r), .int (b2i true)]) (rest := [.int (gRisk σ r false), .int (imn (gRisk σ i false) (gRisk σ i true))]) S (c_risk l E a σ h.gok r (by rw [h.n]; exact hr1) (by rw [h.ex hr1, hr2]; rfl) true) (cwV 2 hts gL_law_X0_risk rfl rfl rfl hdX0_risk ⟨Nat.le_of_ble_eq_true rfl, Nat.le_of_ble_eq_true rfl⟩) hK hG.1 rfl hl.1 rfl (Nat.le_of_ble_eq_true rfl) ⟨by show cells ≤ 600130; omega, by show slots ≤ 7301080; omega⟩ dL_law_709 ?_
    refine g_min hx hb (hml.trans hl.1.symm) hown (hts (.methodLink RL 145 Lib.Math.min.name) (by decide +kernel)) (hts (.static Lib.Math.min.name) (by decide +kernel)) (hts (.initialized "java/lang/Math") (by decide +kernel)) (hts (.code Lib.Math.min.name Lib.Math.min.code 2 (some .int)) (by decide +kernel)) (Nat.le_of_ble_eq_true rfl) (Nat.le_of_ble_eq_true rfl) ⟨by show cells ≤ 600130; omega, by show slots ≤ 7301080; omega⟩ dL_law_712 ?_
    refine lv_icmp_le (tgt := 720) hx hb dL_law_715 (by decide) (fun _ => ?_) (fun q => absurd hle q)
    exact kk ls (lv_sub hl [5, 6, 7, 8, 9, 10, 11, 12, 13, 14, 15, 16, 17] rfl)
  · refine lv_iconst (v := 1) hx hb dL_law_656 (by decide) ?_
    refine lv_goto (tgt := 661) hx hb dL_law_657 (by decide) ?_
    refine lv_icmp_ne (tgt := 718) hx hb dL_law_661 (by decide) (fun q => absurd ((by rw [gPl, decide_eq_true (Int32.not_le.mp c653)]; rfl)) q) (fun _ => ?_)
    refine lv_iload hx hb dL_law_664 (lv_at hl 5 rfl) ?_
    refine lv_aload_n hx hb dL_law_666 rfl (lv_at hl 16 rfl) ?_
    refine lv_iload hx hb dL_law_667 (lv_at hl 0 rfl) ?_
    refine lv_iload hx hb dL_law_669 (lv_at hl 1 rfl) ?_
    refine lv_icmp_ge (tgt := 679) hx hb dL_law_671 (by decide) (fun q => absurd q c653) (fun _ => ?_)
    refine lv_iload hx hb dL_law_674 (lv_at hl 3 rfl) ?_
    refine lv_goto (tgt := 681) hx hb dL_law_676 (by decide) ?_
    refine g0i (As := [.int (nI (mh τ i))]) (rest := [.int (nI (gLd σ 40 i))]) S (c_planLeadsTo l E a σ h.gok (mh τ i) (by rw [h.n]; exact (by omega))) (cwV 1 hts gL_law_X0_planLeadsTo rfl rfl rfl hdX0_planLeadsTo ⟨Nat.le_of_ble_eq_true rfl, Nat.le_of_ble_eq_true rfl⟩) hK hG.1 rfl hl.1 rfl (Nat.le_of_ble_eq_true rfl) ⟨by show cells ≤ 600130; omega, by show slots ≤ 7301080; omega⟩ dL_law_681 ?_
    refine lv_icmp_ne (tgt := 718) hx hb dL_law_684 (by decide) (fun q => absurd ((by rw [h.ldF hi hk, gPl, decide_eq_true (Int32.not_le.mp c653)]; rfl)) q) (fun _ => ?_)
    refine lv_iload hx hb dL_law_687 (lv_at hl 1 rfl) ?_
    refine lv_iload hx hb dL_law_689 (lv_at hl 0 rfl) ?_
    refine g_min hx hb (hml.trans hl.1.symm) hown (hts (.methodLink RL 145 Lib.Math.min.name) (by decide +kernel)) (hts (.static Lib.Math.min.name) (by decide +kernel)) (hts (.initialized "java/lang/Math") (by decide +kernel)) (hts (.code Lib.Math.min.name Lib.Math.min.code 2 (some .int)) (by decide +kernel)) (Nat.le_of_ble_eq_true rfl) (Nat.le_of_ble_eq_true rfl) ⟨by show cells ≤ 600130; omega, by show slots ≤ 7301080; omega⟩ dL_law_691 ?_
    refine lv_aload_n hx hb dL_law_694 rfl (lv_at hl 16 rfl) ?_
    refine lv_aload_n hx hb dL_law_695 rfl (lv_at hl 16 rfl) ?_
    refine g0i (As := []) (rest := [.ref (a 0), .int (imn (gRisk σ i false) (gRisk σ i true))]) S (c_riskiestFork l E a σ h.gok) (cwV 0 hts gL_law_X0_riskiestFork rfl rfl rfl hdX0_riskiestFork ⟨Nat.le_of_ble_eq_true rfl, Nat.le_of_ble_eq_true rfl⟩) hK hG.1 rfl hl.1 rfl (Nat.le_of_ble_eq_true rfl) ⟨by show cells ≤ 600130; omega, by show slots ≤ 7301080; omega⟩ dL_law_696 ?_
    rw [er]
    refine lv_iconst (v := 0) hx hb dL_law_699 (by decide) ?_
    refine g0i (As := [.int (nI r), .int (b2i false)]) (rest := [.int (imn (gRisk σ i false) (gRisk σ i true))]) S (c_risk l E a σ h.gok r (by rw [h.n]; exact hr1) (by rw [h.ex hr1, hr2]; rfl) false) (cwV 2 hts gL_law_X0_risk rfl rfl rfl hdX0_risk ⟨Nat.le_of_ble_eq_true rfl, Nat.le_of_ble_eq_true rfl⟩) hK hG.1 rfl hl.1 rfl (Nat.le_of_ble_eq_true rfl) ⟨by show cells ≤ 600130; omega, by show slots ≤ 7301080; omega⟩ dL_law_700 ?_
    refine lv_aload_n hx hb dL_law_703 rfl (lv_at hl 16 rfl) ?_
    refine lv_aload_n hx hb dL_law_704 rfl (lv_at hl 16 rfl) ?_
    refine g0i (As := []) (rest := [.ref (a 0), .int (gRisk σ r false), .int (imn (gRisk σ i false) (gRisk σ i true))]) S (c_riskiestFork l E a σ h.gok) (cwV 0 hts gL_law_X0_riskiestFork rfl rfl rfl hdX0_riskiestFork ⟨Nat.le_of_ble_eq_true rfl, Nat.le_of_ble_eq_true rfl⟩) hK hG.1 rfl hl.1 rfl (Nat.le_of_ble_eq_true rfl) ⟨by show cells ≤ 600130; omega, by show slots ≤ 7301080; omega⟩ dL_law_705 ?_
    rw [er]
    refine lv_iconst (v := 1) hx hb dL_law_708 (by decide) ?_
    refine g0i (As := [.int (nI r), .int (b2i true)]) (rest := [.int (gRisk σ r false), .int (imn (gRisk σ i false) (gRisk σ i true))]) S (c_risk l E a σ h.gok r (by rw [h.n]; exact hr1) (by rw [h.ex hr1, hr2]; rfl) true) (cwV 2 hts gL_law_X0_risk rfl rfl rfl hdX0_risk ⟨Nat.le_of_ble_eq_true rfl, Nat.le_of_ble_eq_true rfl⟩) hK hG.1 rfl hl.1 rfl (Nat.le_of_ble_eq_true rfl) ⟨by show cells ≤ 600130; omega, by show slots ≤ 7301080; omega⟩ dL_law_709 ?_
    refine g_min hx hb (hml.trans hl.1.symm) hown (hts (.methodLink RL 145 Lib.Math.min.name) (by decide +kernel)) (hts (.static Lib.Math.min.name) (by decide +kernel)) (hts (.initialized "java/lang/Math") (by decide +kernel)) (hts (.code Lib.Math.min.name Lib.Math.min.code 2 (some .int)) (by decide +kernel)) (Nat.le_of_ble_eq_true rfl) (Nat.le_of_ble_eq_true rfl) ⟨by show cells ≤ 600130; omega, by show slots ≤ 7301080; omega⟩ dL_law_712 ?_
    refine lv_icmp_le (tgt := 720) hx hb dL_law_715 (by decide) (fun _ => ?_) (fun q => absurd hle q)
    exact kk ls (lv_sub hl [5, 6, 7, 8, 9, 10, 11, 12, 13, 14, 15, 16, 17] rfl)
set_option maxHeartbeats 4000000 in
set_option maxRecDepth 100000 in
theorem lp_720 (hC : LPl p l s m meth c sb L xs E a b σ τ qs qh f g H locs cells slots) (hi : i < mn τ) (hfs : ∀ j, j < i + 1 → f j = gsu σ j) (hgs : ∀ j, j < i + 1 → g j = gho σ j) (hk : mf τ i = true) (hl : lv_has ls 23 [(13, .int (nI (gLd σ 40 i))), (12, .int (nI i)), (11, .ref qh), (10, .ref qs), (9, .int x9), (8, .int x8), (7, .int (nI (mn τ))), (5, .long dg), (4, .int x4), (3, .int (nI t)), (2, .ref (b 0)), (1, .ref (a 0)), (0, .ref sb)]) (kk : ∀ (x21 : Int32) (ls : Array Slot), lv_has ls 23 [(21, .int x21), (20, .int (ghs σ i)), (12, .int (nI i)), (11, .ref qh), (10, .ref qs), (9, .int x9), (8, .int x8), (7, .int (nI (mn τ))), (5, .long dg), (4, .int x4), (3, .int (nI t)), (2, .ref (b 0)), (1, .ref (a 0)), (0, .ref sb)] → x21 = b2i (decide (ghs σ i = 0)) → lW p l e s m below meth c sb H locs cells slots 740 ls []) : lW p l e s m below meth c sb H locs cells slots 720 ls [] := by
  obtain ⟨⟨S, hK, hQ, hZ, hX, hbl, hL, hfl, hr, hlk⟩, h, q, hG, hS, hqs, hqh, hcs, hss⟩ := id hC
  obtain ⟨hx, hb, hml, hown, hts⟩ := id S
  have hts1 := inlX1
  have n4 := h.1.1
  have k8 := h.1.2.1
  refine lv_aload_n hx hb dL_law_720 rfl (lv_at hl 11 rfl) ?_
  refine lv_iload hx hb dL_law_721 (lv_at hl 1 rfl) ?_
  refine g0i (As := [.int (nI i)]) (rest := []) S (c_hindsight l E a σ i (by rw [h.n]; exact n4) (by rw [h.n]; exact (by omega)) (by rw [h.ex (by omega), hk]; rfl)) (cwV 1 hts gL_law_X0_hindsight rfl rfl rfl hdX0_hindsight ⟨Nat.le_of_ble_eq_true rfl, Nat.le_of_ble_eq_true rfl⟩) hK hG.1 rfl hl.1 rfl (Nat.le_of_ble_eq_true rfl) ⟨by show cells ≤ 600130; omega, by show slots ≤ 7301080; omega⟩ dL_law_723 ?_
  refine lv_istore (lv' := [(20, .int (ghs σ i)), (13, .int (nI (gLd σ 40 i))), (12, .int (nI i)), (11, .ref qh), (10, .ref qs), (9, .int x9), (8, .int x8), (7, .int (nI (mn τ))), (5, .long dg), (4, .int x4), (3, .int (nI t)), (2, .ref (b 0)), (1, .ref (a 0)), (0, .ref sb)]) hx hb dL_law_726 hl (by decide) rfl (fun ls hl => ?_)
  refine lv_iload hx hb dL_law_728 (lv_at hl 0 rfl) ?_
  refine lv_if_ne (tgt := 737) hx hb dL_law_730 (by decide) (fun c730 => ?_) (fun c730 => ?_)
  · refine lv_iconst (v := 0) hx hb dL_law_737 (by decide) ?_
    refine lv_istore (lv' := [(21, .int 0), (20, .int (ghs σ i)), (13, .int (nI (gLd σ 40 i))), (12, .int (nI i)), (11, .ref qh), (10, .ref qs), (9, .int x9), (8, .int x8), (7, .int (nI (mn τ))), (5, .long dg), (4, .int x4), (3, .int (nI t)), (2, .ref (b 0)), (1, .ref (a 0)), (0, .ref sb)]) hx hb dL_law_738 hl (by decide) rfl (fun ls hl => ?_)
    exact kk _ ls (lv_sub hl [0, 1, 3, 4, 5, 6, 7, 8, 9, 10, 11, 12, 13, 14] rfl) (by first | (rw [decide_eq_false c730]; rfl) | (rw [decide_eq_true c730]; rfl))
  · refine lv_iconst (v := 1) hx hb dL_law_733 (by decide) ?_
    refine lv_goto (tgt := 738) hx hb dL_law_734 (by decide) ?_
    refine lv_istore (lv' := [(21, .int 1), (20, .int (ghs σ i)), (13, .int (nI (gLd σ 40 i))), (12, .int (nI i)), (11, .ref qh), (10, .ref qs), (9, .int x9), (8, .int x8), (7, .int (nI (mn τ))), (5, .long dg), (4, .int x4), (3, .int (nI t)), (2, .ref (b 0)), (1, .ref (a 0)), (0, .ref sb)]) hx hb dL_law_738 hl (by decide) rfl (fun ls hl => ?_)
    exact kk _ ls (lv_sub hl [0, 1, 3, 4, 5, 6, 7, 8, 9, 10, 11, 12, 13, 14] rfl) (by first | (rw [decide_eq_false c730]; rfl) | (rw [decide_eq_true c730]; rfl))
set_option maxHeartbeats 4000000 in
set_option maxRecDepth 100000 in
theorem lp_743 (hC : LPl p l s m meth c sb L xs E a b σ τ qs qh f g H locs cells slots) (hi : i < mn τ) (hfs : ∀ j, j < i + 1 → f j = gsu σ j) (hgs : ∀ j, j < i + 1 → g j = gho σ j) (hk : mf τ i = true) (kk : ∀ (ls : Array Slot), lv_has ls 23 [(21, .int (b2i true)), (20, .int (ghs σ i)), (12, .int (nI i)), (11, .ref qh), (10, .ref qs), (9, .int x9), (8, .int x8), (7, .int (nI (mn τ))), (5, .long dg), (4, .int x4), (3, .int (nI t)), (2, .ref (b 0)), (1, .ref (a 0)), (0, .ref sb)] → lW p l e s m below meth c sb H locs cells slots 797 ls []) : ∀ (d : Nat) (o : Nat) (x21 : Int32) (ls : Array Slot), o + d = i → x21 = b2i (anyB (fun o => mEx τ i o && decide (md τ o = ghs σ i)) (decide (ghs σ i = 0)) o) → lv_has ls 23 [(22, .int (nI o)), (21, .int x21), (20, .int (ghs σ i)), (12, .int (nI i)), (11, .ref qh), (10, .ref qs), (9, .int x9), (8, .int x8), (7, .int (nI (mn τ))), (5, .long dg), (4, .int x4), (3, .int (nI t)), (2, .ref (b 0)), (1, .ref (a 0)), (0, .ref sb)] → lW p l e s m below meth c sb H locs cells slots 743 ls [] := by
  obtain ⟨⟨S, hK, hQ, hZ, hX, hbl, hL, hfl, hr, hlk⟩, h, q, hG, hS, hqs, hqh, hcs, hss⟩ := id hC
  obtain ⟨hx, hb, hml, hown, hts⟩ := id S
  have hts1 := inlX1
  have n4 := h.1.1
  have k8 := h.1.2.1
  intro d
  induction d with
  | zero =>
    intro o x21 ls hm hinv hl
    obtain rfl : o = i := by omega
    rw [h.hsA hk] at hinv
    subst hinv
    refine lv_iload hx hb dL_law_743 (lv_at hl 0 rfl) ?_
    refine lv_iload hx hb dL_law_745 (lv_at hl 3 rfl) ?_
    refine lv_icmp_ge (tgt := 797) hx hb dL_law_747 (by decide) (fun _ => ?_) (fun q => absurd ((nI_le (Nat.le_refl _) (by omega))) q)
    exact kk ls (lv_sub hl [1, 2, 3, 4, 5, 6, 7, 8, 9, 10, 11, 12, 13, 14] rfl)
  | succ d ih =>
    intro o x21 ls hm hinv hl
    refine lv_iload hx hb dL_law_743 (lv_at hl 0 rfl) ?_
    refine lv_iload hx hb dL_law_745 (lv_at hl 3 rfl) ?_
    refine lv_icmp_ge (tgt := 797) hx hb dL_law_747 (by decide) (fun q => absurd q ((nI_ge (by omega) (by omega)))) (fun _ => ?_)
    refine lv_iload hx hb dL_law_750 (lv_at hl 1 rfl) ?_
    refine lv_aload_n hx hb dL_law_752 rfl (lv_at hl 13 rfl) ?_
    refine lv_iload hx hb dL_law_753 (lv_at hl 3 rfl) ?_
    refine lv_iload hx hb dL_law_755 (lv_at hl 0 rfl) ?_
    refine g0i (As := [.int (nI i), .int (nI o)]) (rest := [.int x21]) S (c_reaches l E a σ i (by rw [h.n]; exact n4) (by rw [h.n]; exact (by omega)) o (by rw [h.n]; exact (by omega))) (cwV 2 hts gL_law_X0_reaches rfl rfl rfl hdX0_reaches ⟨Nat.le_of_ble_eq_true rfl, Nat.le_of_ble_eq_true rfl⟩) hK hG.1 rfl hl.1 rfl (Nat.le_of_ble_eq_true rfl) ⟨by show cells ≤ 600130; omega, by show slots ≤ 7301080; omega⟩ dL_law_757 ?_
    rw [h.rb (p := i) (q := o) (by omega) (by omega)]
    refine lv_if_eq (tgt := 787) hx hb dL_law_760 (by decide) (fun c760 => ?_) (fun c760 => ?_)
    · refine lv_iconst (v := 0) hx hb dL_law_787 (by decide) ?_
      refine lv_ior hx hb dL_law_788 ?_
      refine lv_istore (lv' := [(21, .int (x21 ||| 0)), (22, .int (nI o)), (20, .int (ghs σ i)), (12, .int (nI i)), (11, .ref qh), (10, .ref qs), (9, .int x9), (8, .int x8), (7, .int (nI (mn τ))), (5, .long dg), (4, .int x4), (3, .int (nI t)), (2, .ref (b 0)), (1, .ref (a 0)), (0, .ref sb)]) hx hb dL_law_789 hl (by decide) rfl (fun ls hl => ?_)
      refine lv_iinc (v := nI (o + 1)) (lv' := [(22, .int (nI (o + 1))), (21, .int (x21 ||| 0)), (20, .int (ghs σ i)), (12, .int (nI i)), (11, .ref qh), (10, .ref qs), (9, .int x9), (8, .int x8), (7, .int (nI (mn τ))), (5, .long dg), (4, .int x4), (3, .int (nI t)), (2, .ref (b 0)), (1, .ref (a 0)), (0, .ref sb)]) hx hb dL_law_791 hl (k := 1) rfl (nI_1 o) (by decide) rfl (fun ls hl => ?_)
      refine lv_goto (tgt := 743) hx hb dL_law_794 (by decide) ?_
      exact ih (o + 1) _ ls (by omega) (by first | (rw [hinv, anyB, mEx, b2i_eq0.mp c760, Bool.false_and, Bool.false_and, Bool.or_false]; exact Int32.or_zero) | (rw [hinv, anyB, mEx, b2i_eq0.mp c769, Bool.and_false, Bool.false_and, Bool.or_false]; exact Int32.or_zero) | (rw [hinv, anyB, mEx, b2i_ne0.mp c760, b2i_ne0.mp c769, decide_eq_false c780, Bool.and_false, Bool.or_false]; exact Int32.or_zero) | (rw [hinv, anyB, mEx, b2i_ne0.mp c760, b2i_ne0.mp c769, decide_eq_true c780]; exact b2i_or _ true)) (lv_sub hl [0, 1, 2, 3, 4, 5, 6, 7, 8, 9, 10, 11, 12, 13, 14] rfl)
    · refine lv_aload_n hx hb dL_law_763 rfl (lv_at hl 13 rfl) ?_
      refine lv_iload hx hb dL_law_764 (lv_at hl 0 rfl) ?_
      refine g0i (As := [.int (nI o)]) (rest := [.int x21]) S (c_isExam l E a σ o (by rw [h.n]; exact n4) (by rw [h.n]; exact (by omega))) (cwV 1 hts gL_law_X0_isExam rfl rfl rfl hdX0_isExam ⟨Nat.le_of_ble_eq_true rfl, Nat.le_of_ble_eq_true rfl⟩) hK hG.1 rfl hl.1 rfl (Nat.le_of_ble_eq_true rfl) ⟨by show cells ≤ 600130; omega, by show slots ≤ 7301080; omega⟩ dL_law_766 ?_
      rw [h.ex (p := o) (by omega)]
      refine lv_if_eq (tgt := 787) hx hb dL_law_769 (by decide) (fun c769 => ?_) (fun c769 => ?_)
      · refine lv_iconst (v := 0) hx hb dL_law_787 (by decide) ?_
        refine lv_ior hx hb dL_law_788 ?_
        refine lv_istore (lv' := [(21, .int (x21 ||| 0)), (22, .int (nI o)), (20, .int (ghs σ i)), (12, .int (nI i)), (11, .ref qh), (10, .ref qs), (9, .int x9), (8, .int x8), (7, .int (nI (mn τ))), (5, .long dg), (4, .int x4), (3, .int (nI t)), (2, .ref (b 0)), (1, .ref (a 0)), (0, .ref sb)]) hx hb dL_law_789 hl (by decide) rfl (fun ls hl => ?_)
        refine lv_iinc (v := nI (o + 1)) (lv' := [(22, .int (nI (o + 1))), (21, .int (x21 ||| 0)), (20, .int (ghs σ i)), (12, .int (nI i)), (11, .ref qh), (10, .ref qs), (9, .int x9), (8, .int x8), (7, .int (nI (mn τ))), (5, .long dg), (4, .int x4), (3, .int (nI t)), (2, .ref (b 0)), (1, .ref (a 0)), (0, .ref sb)]) hx hb dL_law_791 hl (k := 1) rfl (nI_1 o) (by decide) rfl (fun ls hl => ?_)
        refine lv_goto (tgt := 743) hx hb dL_law_794 (by decide) ?_
        exact ih (o + 1) _ ls (by omega) (by first | (rw [hinv, anyB, mEx, b2i_eq0.mp c760, Bool.false_and, Bool.false_and, Bool.or_false]; exact Int32.or_zero) | (rw [hinv, anyB, mEx, b2i_eq0.mp c769, Bool.and_false, Bool.false_and, Bool.or_false]; exact Int32.or_zero) | (rw [hinv, anyB, mEx, b2i_ne0.mp c760, b2i_ne0.mp c769, decide_eq_false c780, Bool.and_false, Bool.or_false]; exact Int32.or_zero) | (rw [hinv, anyB, mEx, b2i_ne0.mp c760, b2i_ne0.mp c769, decide_eq_true c780]; exact b2i_or _ true)) (lv_sub hl [0, 1, 2, 3, 4, 5, 6, 7, 8, 9, 10, 11, 12, 13, 14] rfl)
      · have ho2 : mf τ o = false := by have z := b2i_ne0.mp c769; cases y : mf τ o <;> rw [y] at z <;> first | rfl | cases z
        refine lv_aload_n hx hb dL_law_772 rfl (lv_at hl 13 rfl) ?_
        refine lv_iload hx hb dL_law_773 (lv_at hl 0 rfl) ?_
        refine g0i (As := [.int (nI o)]) (rest := [.int x21]) S (c_gradeOf l E a σ o (by rw [h.n]; exact n4) (by rw [h.n]; exact (by omega)) (by rw [h.ex (by omega), ho2]; rfl)) (cwV 1 hts gL_law_X0_gradeOf rfl rfl rfl hdX0_gradeOf ⟨Nat.le_of_ble_eq_true rfl, Nat.le_of_ble_eq_true rfl⟩) hK hG.1 rfl hl.1 rfl (Nat.le_of_ble_eq_true rfl) ⟨by show cells ≤ 600130; omega, by show slots ≤ 7301080; omega⟩ dL_law_775 ?_
        rw [(h.e (p := o) (by omega) ho2).2.2.2.2.1]
        refine lv_iload hx hb dL_law_778 (lv_at hl 2 rfl) ?_
        refine lv_icmp_ne (tgt := 787) hx hb dL_law_780 (by decide) (fun c780 => ?_) (fun c780 => ?_)
        · refine lv_iconst (v := 0) hx hb dL_law_787 (by decide) ?_
          refine lv_ior hx hb dL_law_788 ?_
          refine lv_istore (lv' := [(21, .int (x21 ||| 0)), (22, .int (nI o)), (20, .int (ghs σ i)), (12, .int (nI i)), (11, .ref qh), (10, .ref qs), (9, .int x9), (8, .int x8), (7, .int (nI (mn τ))), (5, .long dg), (4, .int x4), (3, .int (nI t)), (2, .ref (b 0)), (1, .ref (a 0)), (0, .ref sb)]) hx hb dL_law_789 hl (by decide) rfl (fun ls hl => ?_)
          refine lv_iinc (v := nI (o + 1)) (lv' := [(22, .int (nI (o + 1))), (21, .int (x21 ||| 0)), (20, .int (ghs σ i)), (12, .int (nI i)), (11, .ref qh), (10, .ref qs), (9, .int x9), (8, .int x8), (7, .int (nI (mn τ))), (5, .long dg), (4, .int x4), (3, .int (nI t)), (2, .ref (b 0)), (1, .ref (a 0)), (0, .ref sb)]) hx hb dL_law_791 hl (k := 1) rfl (nI_1 o) (by decide) rfl (fun ls hl => ?_)
          refine lv_goto (tgt := 743) hx hb dL_law_794 (by decide) ?_
          exact ih (o + 1) _ ls (by omega) (by first | (rw [hinv, anyB, mEx, b2i_eq0.mp c760, Bool.false_and, Bool.false_and, Bool.or_false]; exact Int32.or_zero) | (rw [hinv, anyB, mEx, b2i_eq0.mp c769, Bool.and_false, Bool.false_and, Bool.or_false]; exact Int32.or_zero) | (rw [hinv, anyB, mEx, b2i_ne0.mp c760, b2i_ne0.mp c769, decide_eq_false c780, Bool.and_false, Bool.or_false]; exact Int32.or_zero) | (rw [hinv, anyB, mEx, b2i_ne0.mp c760, b2i_ne0.mp c769, decide_eq_true c780]; exact b2i_or _ true)) (lv_sub hl [0, 1, 2, 3, 4, 5, 6, 7, 8, 9, 10, 11, 12, 13, 14] rfl)
        · refine lv_iconst (v := 1) hx hb dL_law_783 (by decide) ?_
          refine lv_goto (tgt := 788) hx hb dL_law_784 (by decide) ?_
          refine lv_ior hx hb dL_law_788 ?_
          refine lv_istore (lv' := [(21, .int (x21 ||| 1)), (22, .int (nI o)), (20, .int (ghs σ i)), (12, .int (nI i)), (11, .ref qh), (10, .ref qs), (9, .int x9), (8, .int x8), (7, .int (nI (mn τ))), (5, .long dg), (4, .int x4), (3, .int (nI t)), (2, .ref (b 0)), (1, .ref (a 0)), (0, .ref sb)]) hx hb dL_law_789 hl (by decide) rfl (fun ls hl => ?_)
          refine lv_iinc (v := nI (o + 1)) (lv' := [(22, .int (nI (o + 1))), (21, .int (x21 ||| 1)), (20, .int (ghs σ i)), (12, .int (nI i)), (11, .ref qh), (10, .ref qs), (9, .int x9), (8, .int x8), (7, .int (nI (mn τ))), (5, .long dg), (4, .int x4), (3, .int (nI t)), (2, .ref (b 0)), (1, .ref (a 0)), (0, .ref sb)]) hx hb dL_law_791 hl (k := 1) rfl (nI_1 o) (by decide) rfl (fun ls hl => ?_)
          refine lv_goto (tgt := 743) hx hb dL_law_794 (by decide) ?_
          exact ih (o + 1) _ ls (by omega) (by first | (rw [hinv, anyB, mEx, b2i_eq0.mp c760, Bool.false_and, Bool.false_and, Bool.or_false]; exact Int32.or_zero) | (rw [hinv, anyB, mEx, b2i_eq0.mp c769, Bool.and_false, Bool.false_and, Bool.or_false]; exact Int32.or_zero) | (rw [hinv, anyB, mEx, b2i_ne0.mp c760, b2i_ne0.mp c769, decide_eq_false c780, Bool.and_false, Bool.or_false]; exact Int32.or_zero) | (rw [hinv, anyB, mEx, b2i_ne0.mp c760, b2i_ne0.mp c769, decide_eq_true c780]; exact b2i_or _ true)) (lv_sub hl [0, 1, 2, 3, 4, 5, 6, 7, 8, 9, 10, 11, 12, 13, 14] rfl)
set_option maxHeartbeats 4000000 in
set_option maxRecDepth 100000 in
theorem lp_800 (hC : LPl p l s m meth c sb L xs E a b σ τ qs qh f g H locs cells slots) (hi : i < mn τ) (hfs : ∀ j, j < i + 1 → f j = gsu σ j) (hgs : ∀ j, j < i + 1 → g j = gho σ j) (hk : mf τ i = true) (kk : ∀ (ls : Array Slot), lv_has ls 23 [(21, .int (b2i true)), (20, .int (ghs σ i)), (12, .int (nI i)), (11, .ref qh), (10, .ref qs), (9, .int x9), (8, .int x8), (7, .int (nI (mn τ))), (5, .long dg), (4, .int x4), (3, .int (nI t)), (2, .ref (b 0)), (1, .ref (a 0)), (0, .ref sb)] → lW p l e s m below meth c sb H locs cells slots 846 ls []) : ∀ (d : Nat) (o : Nat) (ls : Array Slot), o + d = i → lv_has ls 23 [(22, .int (nI o)), (21, .int (b2i true)), (20, .int (ghs σ i)), (12, .int (nI i)), (11, .ref qh), (10, .ref qs), (9, .int x9), (8, .int x8), (7, .int (nI (mn τ))), (5, .long dg), (4, .int x4), (3, .int (nI t)), (2, .ref (b 0)), (1, .ref (a 0)), (0, .ref sb)] → lW p l e s m below meth c sb H locs cells slots 800 ls [] := by
  obtain ⟨⟨S, hK, hQ, hZ, hX, hbl, hL, hfl, hr, hlk⟩, h, q, hG, hS, hqs, hqh, hcs, hss⟩ := id hC
  obtain ⟨hx, hb, hml, hown, hts⟩ := id S
  have hts1 := inlX1
  have n4 := h.1.1
  have k8 := h.1.2.1
  intro d
  induction d with
  | zero =>
    intro o ls hm  hl
    obtain rfl : o = i := by omega
    refine lv_iload hx hb dL_law_800 (lv_at hl 0 rfl) ?_
    refine lv_iload hx hb dL_law_802 (lv_at hl 3 rfl) ?_
    refine lv_icmp_ge (tgt := 846) hx hb dL_law_804 (by decide) (fun _ => ?_) (fun q => absurd ((nI_le (Nat.le_refl _) (by omega))) q)
    exact kk ls (lv_sub hl [1, 2, 3, 4, 5, 6, 7, 8, 9, 10, 11, 12, 13, 14] rfl)
  | succ d ih =>
    intro o ls hm  hl
    refine lv_iload hx hb dL_law_800 (lv_at hl 0 rfl) ?_
    refine lv_iload hx hb dL_law_802 (lv_at hl 3 rfl) ?_
    refine lv_icmp_ge (tgt := 846) hx hb dL_law_804 (by decide) (fun q => absurd q ((nI_ge (by omega) (by omega)))) (fun _ => ?_)
    refine lv_aload_n hx hb dL_law_807 rfl (lv_at hl 13 rfl) ?_
    refine lv_iload hx hb dL_law_808 (lv_at hl 3 rfl) ?_
    refine lv_iload hx hb dL_law_810 (lv_at hl 0 rfl) ?_
    refine g0i (As := [.int (nI i), .int (nI o)]) (rest := []) S (c_reaches l E a σ i (by rw [h.n]; exact n4) (by rw [h.n]; exact (by omega)) o (by rw [h.n]; exact (by omega))) (cwV 2 hts gL_law_X0_reaches rfl rfl rfl hdX0_reaches ⟨Nat.le_of_ble_eq_true rfl, Nat.le_of_ble_eq_true rfl⟩) hK hG.1 rfl hl.1 rfl (Nat.le_of_ble_eq_true rfl) ⟨by show cells ≤ 600130; omega, by show slots ≤ 7301080; omega⟩ dL_law_812 ?_
    rw [h.rb (p := i) (q := o) (by omega) (by omega)]
    refine lv_if_eq (tgt := 840) hx hb dL_law_815 (by decide) (fun c815 => ?_) (fun c815 => ?_)
    · refine lv_iinc (v := nI (o + 1)) (lv' := [(22, .int (nI (o + 1))), (21, .int (b2i true)), (20, .int (ghs σ i)), (12, .int (nI i)), (11, .ref qh), (10, .ref qs), (9, .int x9), (8, .int x8), (7, .int (nI (mn τ))), (5, .long dg), (4, .int x4), (3, .int (nI t)), (2, .ref (b 0)), (1, .ref (a 0)), (0, .ref sb)]) hx hb dL_law_840 hl (k := 0) rfl (nI_1 o) (by decide) rfl (fun ls hl => ?_)
      refine lv_goto (tgt := 800) hx hb dL_law_843 (by decide) ?_
      exact ih (o + 1) ls (by omega) (lv_sub hl [0, 1, 2, 3, 4, 5, 6, 7, 8, 9, 10, 11, 12, 13, 14] rfl)
    · refine lv_aload_n hx hb dL_law_818 rfl (lv_at hl 13 rfl) ?_
      refine lv_iload hx hb dL_law_819 (lv_at hl 0 rfl) ?_
      refine g0i (As := [.int (nI o)]) (rest := []) S (c_isExam l E a σ o (by rw [h.n]; exact n4) (by rw [h.n]; exact (by omega))) (cwV 1 hts gL_law_X0_isExam rfl rfl rfl hdX0_isExam ⟨Nat.le_of_ble_eq_true rfl, Nat.le_of_ble_eq_true rfl⟩) hK hG.1 rfl hl.1 rfl (Nat.le_of_ble_eq_true rfl) ⟨by show cells ≤ 600130; omega, by show slots ≤ 7301080; omega⟩ dL_law_821 ?_
      rw [h.ex (p := o) (by omega)]
      refine lv_if_eq (tgt := 840) hx hb dL_law_824 (by decide) (fun c824 => ?_) (fun c824 => ?_)
      · refine lv_iinc (v := nI (o + 1)) (lv' := [(22, .int (nI (o + 1))), (21, .int (b2i true)), (20, .int (ghs σ i)), (12, .int (nI i)), (11, .ref qh), (10, .ref qs), (9, .int x9), (8, .int x8), (7, .int (nI (mn τ))), (5, .long dg), (4, .int x4), (3, .int (nI t)), (2, .ref (b 0)), (1, .ref (a 0)), (0, .ref sb)]) hx hb dL_law_840 hl (k := 0) rfl (nI_1 o) (by decide) rfl (fun ls hl => ?_)
        refine lv_goto (tgt := 800) hx hb dL_law_843 (by decide) ?_
        exact ih (o + 1) ls (by omega) (lv_sub hl [0, 1, 2, 3, 4, 5, 6, 7, 8, 9, 10, 11, 12, 13, 14] rfl)
      · have ho2 : mf τ o = false := by have z := b2i_ne0.mp c824; cases y : mf τ o <;> rw [y] at z <;> first | rfl | cases z
        refine lv_aload_n hx hb dL_law_827 rfl (lv_at hl 13 rfl) ?_
        refine lv_iload hx hb dL_law_828 (lv_at hl 0 rfl) ?_
        refine g0i (As := [.int (nI o)]) (rest := []) S (c_gradeOf l E a σ o (by rw [h.n]; exact n4) (by rw [h.n]; exact (by omega)) (by rw [h.ex (by omega), ho2]; rfl)) (cwV 1 hts gL_law_X0_gradeOf rfl rfl rfl hdX0_gradeOf ⟨Nat.le_of_ble_eq_true rfl, Nat.le_of_ble_eq_true rfl⟩) hK hG.1 rfl hl.1 rfl (Nat.le_of_ble_eq_true rfl) ⟨by show cells ≤ 600130; omega, by show slots ≤ 7301080; omega⟩ dL_law_830 ?_
        rw [(h.e (p := o) (by omega) ho2).2.2.2.2.1]
        refine lv_iload hx hb dL_law_833 (lv_at hl 2 rfl) ?_
        refine lv_icmp_le (tgt := 840) hx hb dL_law_835 (by decide) (fun _ => ?_) (fun q => absurd ((h.hsU hk (by omega) (b2i_ne0.mp c815) ho2)) q)
        refine lv_iinc (v := nI (o + 1)) (lv' := [(22, .int (nI (o + 1))), (21, .int (b2i true)), (20, .int (ghs σ i)), (12, .int (nI i)), (11, .ref qh), (10, .ref qs), (9, .int x9), (8, .int x8), (7, .int (nI (mn τ))), (5, .long dg), (4, .int x4), (3, .int (nI t)), (2, .ref (b 0)), (1, .ref (a 0)), (0, .ref sb)]) hx hb dL_law_840 hl (k := 0) rfl (nI_1 o) (by decide) rfl (fun ls hl => ?_)
        refine lv_goto (tgt := 800) hx hb dL_law_843 (by decide) ?_
        exact ih (o + 1) ls (by omega) (lv_sub hl [0, 1, 2, 3, 4, 5, 6, 7, 8, 9, 10, 11, 12, 13, 14] rfl)
set_option maxHeartbeats 4000000 in
set_option maxRecDepth 100000 in
theorem lp_846 (hC : LPl p l s m meth c sb L xs E a b σ τ qs qh f g H locs cells slots) (hi : i < mn τ) (hfs : ∀ j, j < i + 1 → f j = gsu σ j) (hgs : ∀ j, j < i + 1 → g j = gho σ j) (hk : mf τ i = true) (hl : lv_has ls 23 [(21, .int (b2i true)), (20, .int (ghs σ i)), (12, .int (nI i)), (11, .ref qh), (10, .ref qs), (9, .int x9), (8, .int x8), (7, .int (nI (mn τ))), (5, .long dg), (4, .int x4), (3, .int (nI t)), (2, .ref (b 0)), (1, .ref (a 0)), (0, .ref sb)]) (kk : ∀ (ls : Array Slot), lv_has ls 23 [(12, .int (nI i)), (11, .ref qh), (10, .ref qs), (9, .int x9), (8, .int x8), (7, .int (nI (mn τ))), (5, .long dg), (4, .int x4), (3, .int (nI t)), (2, .ref (b 0)), (1, .ref (a 0)), (0, .ref sb)] → lW p l e s m below meth c sb H locs cells slots 863 ls []) : lW p l e s m below meth c sb H locs cells slots 846 ls [] := by
  obtain ⟨⟨S, hK, hQ, hZ, hX, hbl, hL, hfl, hr, hlk⟩, h, q, hG, hS, hqs, hqh, hcs, hss⟩ := id hC
  obtain ⟨hx, hb, hml, hown, hts⟩ := id S
  have hts1 := inlX1
  have n4 := h.1.1
  have k8 := h.1.2.1
  obtain ⟨u, v, w, eu, ev, ew, h1, h2, h3⟩ := h.num1 q hi
  refine lv_iload hx hb dL_law_846 (lv_at hl 0 rfl) ?_
  refine lv_if_eq (tgt := 861) hx hb dL_law_848 (by decide) (fun q => absurd q ((b2i_ne0.mpr rfl))) (fun _ => ?_)
  refine lv_iload hx hb dL_law_851 (lv_at hl 1 rfl) ?_
  refine lv_aload hx hb dL_law_853 (lv_at hl 3 rfl) ?_
  refine lv_iload hx hb dL_law_855 (lv_at hl 2 rfl) ?_
  refine s_ild hx hb hK hqh (k := i) (by omega) (by omega) (v := gho σ i) (hgs i (by omega)) dL_law_857 ?_
  refine lv_icmp_le (tgt := 863) hx hb dL_law_858 (by decide) (fun _ => ?_) (fun q => absurd ((by rw [ew, ev]; exact nI_le h2 (by omega))) q)
  exact kk ls (lv_sub hl [2, 3, 4, 5, 6, 7, 8, 9, 10, 11, 12, 13] rfl)
set_option maxHeartbeats 4000000 in
set_option maxRecDepth 100000 in
theorem lp_place (hC : LPl p l s m meth c sb L xs E a b σ τ qs qh f g H locs cells slots) (hi : i < mn τ) (hfs : ∀ j, j < i + 1 → f j = gsu σ j) (hgs : ∀ j, j < i + 1 → g j = gho σ j) (hl : lv_has ls 23 [(12, .int (nI i)), (11, .ref qh), (10, .ref qs), (9, .int x9), (8, .int x8), (7, .int (nI (mn τ))), (5, .long dg), (4, .int x4), (3, .int (nI t)), (2, .ref (b 0)), (1, .ref (a 0)), (0, .ref sb)]) (kk : ∀ (y8 y9 : Int32) (ls : Array Slot), lv_has ls 23 [(12, .int (nI i)), (11, .ref qh), (10, .ref qs), (9, .int y9), (8, .int y8), (7, .int (nI (mn τ))), (5, .long dg), (4, .int x4), (3, .int (nI t)), (2, .ref (b 0)), (1, .ref (a 0)), (0, .ref sb)] → y8 = x8 + b2i (!mf τ i) → y9 = x9 + b2i (mGd τ i) → lW p l e s m below meth c sb H locs cells slots 863 ls []) : lW p l e s m below meth c sb H locs cells slots 144 ls [] := by
  obtain ⟨⟨S, hK, hQ, hZ, hX, hbl, hL, hfl, hr, hlk⟩, h, q, hG, hS, hqs, hqh, hcs, hss⟩ := id hC
  obtain ⟨hx, hb, hml, hown, hts⟩ := id S
  refine lp_144 hC hi hfs hgs hl (fun ls hl => ?_)
  refine lv_iconst (v := 0) hx hb dL_law_216 (by decide) ?_
  refine lv_istore (lv' := [(14, .int 0), (13, .int (nI (gLd σ 40 i))), (12, .int (nI i)), (11, .ref qh), (10, .ref qs), (9, .int x9), (8, .int x8), (7, .int (nI (mn τ))), (5, .long dg), (4, .int x4), (3, .int (nI t)), (2, .ref (b 0)), (1, .ref (a 0)), (0, .ref sb)]) hx hb dL_law_217 hl (by decide) rfl (fun ls hl => ?_)
  refine lv_iconst (v := 0) hx hb dL_law_219 (by decide) ?_
  refine lv_istore (lv' := [(15, .int (nI 0)), (14, .int 0), (13, .int (nI (gLd σ 40 i))), (12, .int (nI i)), (11, .ref qh), (10, .ref qs), (9, .int x9), (8, .int x8), (7, .int (nI (mn τ))), (5, .long dg), (4, .int x4), (3, .int (nI t)), (2, .ref (b 0)), (1, .ref (a 0)), (0, .ref sb)]) hx hb dL_law_220 hl (by decide) rfl (fun ls hl => ?_)
  refine lp_222 hC hi hfs hgs (fun ls hl => ?_) (mn τ) 0 0 ls (by omega) rfl (lv_sub hl [0, 1, 2, 3, 4, 5, 6, 7, 8, 9, 10, 11, 12, 13, 14] rfl)
  by_cases hk : mf τ i = true
  · have hgd : mGd τ i = false := by rw [mGd, hk]; rfl
    refine lp_374f hC hi hfs hgs hk hl (fun ls hl => ?_)
    refine lp_486 hC hi hfs hgs hk hl (fun ls hl => ?_)
    refine lp_720 hC hi hfs hgs hk hl (fun x21 ls hl e21 => ?_)
    refine lv_iconst (v := 0) hx hb dL_law_740 (by decide) ?_
    refine lv_istore (lv' := [(22, .int (nI 0)), (21, .int x21), (20, .int (ghs σ i)), (12, .int (nI i)), (11, .ref qh), (10, .ref qs), (9, .int x9), (8, .int x8), (7, .int (nI (mn τ))), (5, .long dg), (4, .int x4), (3, .int (nI t)), (2, .ref (b 0)), (1, .ref (a 0)), (0, .ref sb)]) hx hb dL_law_741 hl (by decide) rfl (fun ls hl => ?_)
    refine lp_743 hC hi hfs hgs hk (fun ls hl => ?_) i 0 x21 ls (by omega) e21 hl
    refine lv_iconst (v := 0) hx hb dL_law_797 (by decide) ?_
    refine lv_istore (lv' := [(22, .int (nI 0)), (21, .int (b2i true)), (20, .int (ghs σ i)), (12, .int (nI i)), (11, .ref qh), (10, .ref qs), (9, .int x9), (8, .int x8), (7, .int (nI (mn τ))), (5, .long dg), (4, .int x4), (3, .int (nI t)), (2, .ref (b 0)), (1, .ref (a 0)), (0, .ref sb)]) hx hb dL_law_798 hl (by decide) rfl (fun ls hl => ?_)
    refine lp_800 hC hi hfs hgs hk (fun ls hl => ?_) i 0 ls (by omega) hl
    refine lp_846 hC hi hfs hgs hk hl (fun ls hl => ?_)
    exact kk x8 x9 ls hl (by rw [hk]; exact (Int32.add_zero _).symm) (by rw [hgd]; exact (Int32.add_zero _).symm)
  · have he := ts_nt hk
    by_cases hu : md τ i < 0
    · have hgd : mGd τ i = false := by
        rcases ((q i hi).1 he).2 with z | ⟨g, _, g2, z⟩
        · rw [mGd, z]; exact Bool.and_false _
        · rw [z] at hu; exact absurd hu (nI_pos (by have := (h.e hi he).2.2.2.1; omega))
      exact lp_xu hC hi hfs hgs he hgd hu hl (fun y8 y9 ls hl e8 e9 => kk y8 y9 ls hl (by rw [e8, he]; rfl) (by rw [e9, hgd]; rfl))
    · have hgd : mGd τ i = true := by
        rw [mGd, he, decide_eq_false (fun z => hu (by rw [z]; decide))]; rfl
      exact lp_xg hC hi hfs hgs he hgd hu hl (fun y8 y9 ls hl e8 e9 => kk y8 y9 ls hl (by rw [e8, he]; rfl) (by rw [e9, hgd]; rfl))
end LAWP
