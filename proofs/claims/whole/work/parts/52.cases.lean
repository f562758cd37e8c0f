section LAWK
variable {p : Program} {l : Launch} {e : Env} {s : State} {m : MethodId} {below : List Frame} {meth : Method} {c : Code} {H : Heap} {locs : List Loc} {cells slots : Nat} {Q : State → Prop} {b L : Nat} {xs : Nat → Int32} {E : GE} {a b2 : Nat → Nat} {q9 : Nat} {σ : GS} {τ : MS} {f : Nat → Int64} {i : Nat} {ls : Array Slot}
/-- what may follow a call: the end of the switch, the gardens still the same -/
def NX (p : Program) (l : Launch) (e : Env) (s : State) (m : MethodId) (below : List Frame) (meth : Method) (c : Code) (cells slots : Nat) (Q : State → Prop) (b : Nat) (E : GE) (a b2 : Nat → Nat) (q9 i : Nat) : Prop := ∀ (σ' : GS) (τ' : MS) (f' : Nat → Int64) (H' : Heap) (locs' : List Loc) (cells' slots' : Nat) (ls' : Array Slot), RR σ' τ' → LI s E a b2 q9 σ' τ' f' H' locs' → lv_has ls' 9 [(0, .ref b), (1, .ref (a 0)), (2, .ref (b2 0)), (3, .ref q9), (4, .int (nI i))] → cells' ≤ cells + 42 → slots' ≤ slots + 214 → W p l e room_1 s m #[Value.ref b] below meth c H' locs' cells' slots' Q (F0 m 1950 ls' [])
set_option maxHeartbeats 4000000 in
set_option maxRecDepth 100000 in
theorem case_addExam (hC : LC p l s m c b L xs E) (h : RR σ τ) (hi : i + 4 ≤ L) (hc : cells + 42 ≤ 601024) (hs : slots + 214 ≤ 7293034) (hI : LI s E a b2 q9 σ τ f H locs) (hl : lv_has ls 9 [(0, .ref b), (1, .ref (a 0)), (2, .ref (b2 0)), (3, .ref q9), (4, .int (nI i))]) (nx : NX p l e s m below meth c cells slots Q b E a b2 q9 i) : W p l e room_1 s m #[Value.ref b] below meth c H locs cells slots Q (F0 m 192 ls []) := by
  obtain ⟨S, hK, hZ, hN, hX, hbl, hL, hfl⟩ := hC
  obtain ⟨hx, hb, hml, hown, hts⟩ := id S
  obtain ⟨k, v, σ', τ', f', hw, hm, ht, hp, hr⟩ := op_addExam l hfl E a b2 σ τ h q9 f (xs (i + 1)) (xs (i + 2))
  refine lv_aload_n hx hb dL_law_192 rfl (lv_at hl 1 rfl) ?_
  refine lv_aload_n hx hb dL_law_193 rfl (lv_at hl 0 rfl) ?_
  refine lv_iload hx hb dL_law_194 (lv_at hl 4 rfl) ?_
  refine lv_iconst (v := 1) hx hb dL_law_196 (by decide) ?_
  refine lv_iadd hx hb dL_law_197 ?_
  rw [show (nI i + 1 : Int32) = nI (i + 1) from nI_add _ 1]
  refine va_sld hx hb hX hbl (Nat.not_le.mpr hbl) hI.2.2.2 (i := nI (i + 1)) (vp_in_nI (by omega) (by omega)) dL_law_198 ?_
  rw [nI_clamp (by omega)]
  refine lv_aload_n hx hb dL_law_199 rfl (lv_at hl 0 rfl) ?_
  refine lv_iload hx hb dL_law_200 (lv_at hl 4 rfl) ?_
  refine lv_iconst (v := 2) hx hb dL_law_202 (by decide) ?_
  refine lv_iadd hx hb dL_law_203 ?_
  rw [show (nI i + 2 : Int32) = nI (i + 2) from nI_add _ 2]
  refine va_sld hx hb hX hbl (Nat.not_le.mpr hbl) hI.2.2.2 (i := nI (i + 2)) (vp_in_nI (by omega) (by omega)) dL_law_204 ?_
  rw [nI_clamp (by omega)]
  refine lv_aload_n hx hb dL_law_205 rfl (lv_at hl 3 rfl) ?_
  refine l_own (As := [.ref (a 0), .int (xs (i + 1)), .int (xs (i + 2)), .ref q9]) (rest := []) (σ' := σ') (f' := f') S hw (vx_cwSW 4 hts gL_law_L_addExam rfl rfl rfl hdL_addExam ⟨Nat.le_of_ble_eq_true rfl, Nat.le_of_ble_eq_true rfl⟩) hK hZ hN hI rfl hl.1 rfl (Nat.le_of_ble_eq_true rfl) ⟨by show cells + 1 ≤ 601024; omega, by show slots + 6 ≤ 7293034; omega⟩ dL_law_206 (fun H locs hI => ?_)
  refine lv_istore (lv' := [(5, .int k), (0, .ref b), (1, .ref (a 0)), (2, .ref (b2 0)), (3, .ref q9), (4, .int (nI i))]) hx hb dL_law_209 hl (by decide) rfl (fun ls hl => ?_)
  refine lv_aload_n hx hb dL_law_211 rfl (lv_at hl 3 rfl) ?_
  refine lv_aload_n hx hb dL_law_212 rfl (lv_at hl 1 rfl) ?_
  refine lv_iload hx hb dL_law_213 (lv_at hl 5 rfl) ?_
  refine lv_iconst (v := 1) hx hb dL_law_215 (by decide) ?_
  refine lv_iadd hx hb dL_law_216 ?_
  rw [show (nI i + 1 : Int32) = nI (i + 1) from nI_add _ 1]
  refine va_sld hx hb hX hbl (Nat.not_le.mpr hbl) hI.2.2.2 (i := nI (i + 1)) (vp_in_nI (by omega) (by omega)) dL_law_217 ?_
  rw [nI_clamp (by omega)]
  refine lv_aload_n hx hb dL_law_218 rfl (lv_at hl 1 rfl) ?_
  refine lv_iload hx hb dL_law_219 (lv_at hl 5 rfl) ?_
  refine lv_iconst (v := 2) hx hb dL_law_221 (by decide) ?_
  refine lv_iadd hx hb dL_law_222 ?_
  rw [show (nI i + 2 : Int32) = nI (i + 2) from nI_add _ 2]
  refine va_sld hx hb hX hbl (Nat.not_le.mpr hbl) hI.2.2.2 (i := nI (i + 2)) (vp_in_nI (by omega) (by omega)) dL_law_223 ?_
  rw [nI_clamp (by omega)]
  refine l_ref (As := [.int (xs (i + 1)), .int (xs (i + 2))]) (rest := []) (τ' := τ') S hm (cwV 2 hts gL_law_X1_addExam rfl rfl rfl hdX1_addExam ⟨Nat.le_of_ble_eq_true rfl, Nat.le_of_ble_eq_true rfl⟩) hK hI rfl hl.1 rfl (Nat.le_of_ble_eq_true rfl) ⟨by show cells + 1 ≤ 601024; omega, by show slots + 6 ≤ 7293034; omega⟩ dL_law_224 (fun H locs hI => ?_)
  refine lv_istore (lv' := [(6, .int v), (5, .int k), (0, .ref b), (1, .ref (a 0)), (2, .ref (b2 0)), (3, .ref q9), (4, .int (nI i))]) hx hb dL_law_227 hl (by decide) rfl (fun ls hl => ?_)
  refine lv_aload_n hx hb dL_law_229 rfl (lv_at hl 4 rfl) ?_
  refine m0i (As := []) (rest := []) S (m_thrown l E b2 τ') (cwV 0 hts gL_law_X1_thrown rfl rfl rfl hdX1_thrown ⟨Nat.le_of_ble_eq_true rfl, Nat.le_of_ble_eq_true rfl⟩) hK hI.2.1 rfl hl.1 rfl (Nat.le_of_ble_eq_true rfl) ⟨by show cells + 1 ≤ 601024; omega, by show slots + 6 ≤ 7293034; omega⟩ dL_law_230 ?_
  refine lv_iload hx hb dL_law_233 (lv_at hl 1 rfl) ?_
  refine lv_icmp_eq (tgt := 240) hx hb dL_law_235 (by decide) (fun _ => ?_) (fun q => absurd ht q)
  refine lv_iload hx hb dL_law_240 (lv_at hl 1 rfl) ?_
  refine lv_if_ne (tgt := 257) hx hb dL_law_242 (by decide) (fun c242 => ?_) (fun c242 => ?_)
  · refine lv_goto (tgt := 1950) hx hb dL_law_257 (by decide) ?_
    exact nx σ' τ' f' H locs _ _ ls hr hI (lv_sub hl [2, 3, 4, 5, 6] rfl) (by omega) (by omega)
  · refine lv_aload_n hx hb dL_law_245 rfl (lv_at hl 5 rfl) ?_
    refine lv_iconst (v := 0) hx hb dL_law_246 (by decide) ?_
    refine g_lld hx hb hK hI.1 14 rfl (i := nI 0) (v := f' 0) (vp_in_nI (by decide) (by decide)) (by rw [nI_clamp (by decide)]) dL_law_247 ?_
    refine lv_iload hx hb dL_law_248 (lv_at hl 0 rfl) ?_
    refine lv_i2l hx hb dL_law_250 rfl ?_
    refine W.lcmp hx hb dL_law_251 ?_
    refine lv_if_eq (tgt := 257) hx hb dL_law_252 (by decide) (fun _ => ?_) (fun q => absurd ((by rw [show f' 0 = v.toInt64 from hp c242]; exact lg_self _)) q)
    refine lv_goto (tgt := 1950) hx hb dL_law_257 (by decide) ?_
    exact nx σ' τ' f' H locs _ _ ls hr hI (lv_sub hl [2, 3, 4, 5, 6] rfl) (by omega) (by omega)
set_option maxHeartbeats 4000000 in
set_option maxRecDepth 100000 in
theorem case_addFork (hC : LC p l s m c b L xs E) (h : RR σ τ) (hi : i + 4 ≤ L) (hc : cells + 42 ≤ 601024) (hs : slots + 214 ≤ 7293034) (hI : LI s E a b2 q9 σ τ f H locs) (hl : lv_has ls 9 [(0, .ref b), (1, .ref (a 0)), (2, .ref (b2 0)), (3, .ref q9), (4, .int (nI i))]) (nx : NX p l e s m below meth c cells slots Q b E a b2 q9 i) : W p l e room_1 s m #[Value.ref b] below meth c H locs cells slots Q (F0 m 260 ls []) := by
  obtain ⟨S, hK, hZ, hN, hX, hbl, hL, hfl⟩ := hC
  obtain ⟨hx, hb, hml, hown, hts⟩ := id S
  obtain ⟨k, v, σ', τ', f', hw, hm, ht, hp, hr⟩ := op_addFork l hfl E a b2 σ τ h q9 f (xs (i + 1)) (xs (i + 2)) (xs (i + 3))
  refine lv_aload_n hx hb dL_law_260 rfl (lv_at hl 1 rfl) ?_
  refine lv_aload_n hx hb dL_law_261 rfl (lv_at hl 0 rfl) ?_
  refine lv_iload hx hb dL_law_262 (lv_at hl 4 rfl) ?_
  refine lv_iconst (v := 1) hx hb dL_law_264 (by decide) ?_
  refine lv_iadd hx hb dL_law_265 ?_
  rw [show (nI i + 1 : Int32) = nI (i + 1) from nI_add _ 1]
  refine va_sld hx hb hX hbl (Nat.not_le.mpr hbl) hI.2.2.2 (i := nI (i + 1)) (vp_in_nI (by omega) (by omega)) dL_law_266 ?_
  rw [nI_clamp (by omega)]
  refine lv_aload_n hx hb dL_law_267 rfl (lv_at hl 0 rfl) ?_
  refine lv_iload hx hb dL_law_268 (lv_at hl 4 rfl) ?_
  refine lv_iconst (v := 2) hx hb dL_law_270 (by decide) ?_
  refine lv_iadd hx hb dL_law_271 ?_
  rw [show (nI i + 2 : Int32) = nI (i + 2) from nI_add _ 2]
  refine va_sld hx hb hX hbl (Nat.not_le.mpr hbl) hI.2.2.2 (i := nI (i + 2)) (vp_in_nI (by omega) (by omega)) dL_law_272 ?_
  rw [nI_clamp (by omega)]
  refine lv_aload_n hx hb dL_law_273 rfl (lv_at hl 0 rfl) ?_
  refine lv_iload hx hb dL_law_274 (lv_at hl 4 rfl) ?_
  refine lv_iconst (v := 3) hx hb dL_law_276 (by decide) ?_
  refine lv_iadd hx hb dL_law_277 ?_
  rw [show (nI i + 3 : Int32) = nI (i + 3) from nI_add _ 3]
  refine va_sld hx hb hX hbl (Nat.not_le.mpr hbl) hI.2.2.2 (i := nI (i + 3)) (vp_in_nI (by omega) (by omega)) dL_law_278 ?_
  rw [nI_clamp (by omega)]
  refine lv_aload_n hx hb dL_law_279 rfl (lv_at hl 3 rfl) ?_
  refine l_own (As := [.ref (a 0), .int (xs (i + 1)), .int (xs (i + 2)), .int (xs (i + 3)), .ref q9]) (rest := []) (σ' := σ') (f' := f') S hw (vx_cwSW 5 hts gL_law_L_addFork rfl rfl rfl hdL_addFork ⟨Nat.le_of_ble_eq_true rfl, Nat.le_of_ble_eq_true rfl⟩) hK hZ hN hI rfl hl.1 rfl (Nat.le_of_ble_eq_true rfl) ⟨by show cells + 1 ≤ 601024; omega, by show slots + 6 ≤ 7293034; omega⟩ dL_law_280 (fun H locs hI => ?_)
  refine lv_istore (lv' := [(5, .int k), (0, .ref b), (1, .ref (a 0)), (2, .ref (b2 0)), (3, .ref q9), (4, .int (nI i))]) hx hb dL_law_283 hl (by decide) rfl (fun ls hl => ?_)
  refine lv_aload_n hx hb dL_law_285 rfl (lv_at hl 3 rfl) ?_
  refine lv_aload_n hx hb dL_law_286 rfl (lv_at hl 1 rfl) ?_
  refine lv_iload hx hb dL_law_287 (lv_at hl 5 rfl) ?_
  refine lv_iconst (v := 1) hx hb dL_law_289 (by decide) ?_
  refine lv_iadd hx hb dL_law_290 ?_
  rw [show (nI i + 1 : Int32) = nI (i + 1) from nI_add _ 1]
  refine va_sld hx hb hX hbl (Nat.not_le.mpr hbl) hI.2.2.2 (i := nI (i + 1)) (vp_in_nI (by omega) (by omega)) dL_law_291 ?_
  rw [nI_clamp (by omega)]
  refine lv_aload_n hx hb dL_law_292 rfl (lv_at hl 1 rfl) ?_
  refine lv_iload hx hb dL_law_293 (lv_at hl 5 rfl) ?_
  refine lv_iconst (v := 2) hx hb dL_law_295 (by decide) ?_
  refine lv_iadd hx hb dL_law_296 ?_
  rw [show (nI i + 2 : Int32) = nI (i + 2) from nI_add _ 2]
  refine va_sld hx hb hX hbl (Nat.not_le.mpr hbl) hI.2.2.2 (i := nI (i + 2)) (vp_in_nI (by omega) (by omega)) dL_law_297 ?_
  rw [nI_clamp (by omega)]
  refine lv_aload_n hx hb dL_law_298 rfl (lv_at hl 1 rfl) ?_
  refine lv_iload hx hb dL_law_299 (lv_at hl 5 rfl) ?_
  refine lv_iconst (v := 3) hx hb dL_law_301 (by decide) ?_
  refine lv_iadd hx hb dL_law_302 ?_
  rw [show (nI i + 3 : Int32) = nI (i + 3) from nI_add _ 3]
  refine va_sld hx hb hX hbl (Nat.not_le.mpr hbl) hI.2.2.2 (i := nI (i + 3)) (vp_in_nI (by omega) (by omega)) dL_law_303 ?_
  rw [nI_clamp (by omega)]
  refine l_ref (As := [.int (xs (i + 1)), .int (xs (i + 2)), .int (xs (i + 3))]) (rest := []) (τ' := τ') S hm (cwV 3 hts gL_law_X1_addFork rfl rfl rfl hdX1_addFork ⟨Nat.le_of_ble_eq_true rfl, Nat.le_of_ble_eq_true rfl⟩) hK hI rfl hl.1 rfl (Nat.le_of_ble_eq_true rfl) ⟨by show cells + 1 ≤ 601024; omega, by show slots + 6 ≤ 7293034; omega⟩ dL_law_304 (fun H locs hI => ?_)
  refine lv_istore (lv' := [(6, .int v), (5, .int k), (0, .ref b), (1, .ref (a 0)), (2, .ref (b2 0)), (3, .ref q9), (4, .int (nI i))]) hx hb dL_law_307 hl (by decide) rfl (fun ls hl => ?_)
  refine lv_aload_n hx hb dL_law_309 rfl (lv_at hl 4 rfl) ?_
  refine m0i (As := []) (rest := []) S (m_thrown l E b2 τ') (cwV 0 hts gL_law_X1_thrown rfl rfl rfl hdX1_thrown ⟨Nat.le_of_ble_eq_true rfl, Nat.le_of_ble_eq_true rfl⟩) hK hI.2.1 rfl hl.1 rfl (Nat.le_of_ble_eq_true rfl) ⟨by show cells + 1 ≤ 601024; omega, by show slots + 6 ≤ 7293034; omega⟩ dL_law_310 ?_
  refine lv_iload hx hb dL_law_313 (lv_at hl 1 rfl) ?_
  refine lv_icmp_eq (tgt := 320) hx hb dL_law_315 (by decide) (fun _ => ?_) (fun q => absurd ht q)
  refine lv_iload hx hb dL_law_320 (lv_at hl 1 rfl) ?_
  refine lv_if_ne (tgt := 337) hx hb dL_law_322 (by decide) (fun c322 => ?_) (fun c322 => ?_)
  · refine lv_goto (tgt := 1950) hx hb dL_law_337 (by decide) ?_
    exact nx σ' τ' f' H locs _ _ ls hr hI (lv_sub hl [2, 3, 4, 5, 6] rfl) (by omega) (by omega)
  · refine lv_aload_n hx hb dL_law_325 rfl (lv_at hl 5 rfl) ?_
    refine lv_iconst (v := 0) hx hb dL_law_326 (by decide) ?_
    refine g_lld hx hb hK hI.1 14 rfl (i := nI 0) (v := f' 0) (vp_in_nI (by decide) (by decide)) (by rw [nI_clamp (by decide)]) dL_law_327 ?_
    refine lv_iload hx hb dL_law_328 (lv_at hl 0 rfl) ?_
    refine lv_i2l hx hb dL_law_330 rfl ?_
    refine W.lcmp hx hb dL_law_331 ?_
    refine lv_if_eq (tgt := 337) hx hb dL_law_332 (by decide) (fun _ => ?_) (fun q => absurd ((by rw [show f' 0 = v.toInt64 from hp c322]; exact lg_self _)) q)
    refine lv_goto (tgt := 1950) hx hb dL_law_337 (by decide) ?_
    exact nx σ' τ' f' H locs _ _ ls hr hI (lv_sub hl [2, 3, 4, 5, 6] rfl) (by omega) (by omega)
set_option maxHeartbeats 4000000 in
set_option maxRecDepth 100000 in
theorem case_grade (hC : LC p l s m c b L xs E) (h : RR σ τ) (hi : i + 4 ≤ L) (hc : cells + 42 ≤ 601024) (hs : slots + 214 ≤ 7293034) (hI : LI s E a b2 q9 σ τ f H locs) (hl : lv_has ls 9 [(0, .ref b), (1, .ref (a 0)), (2, .ref (b2 0)), (3, .ref q9), (4, .int (nI i))]) (nx : NX p l e s m below meth c cells slots Q b E a b2 q9 i) : W p l e room_1 s m #[Value.ref b] below meth c H locs cells slots Q (F0 m 340 ls []) := by
  obtain ⟨S, hK, hZ, hN, hX, hbl, hL, hfl⟩ := hC
  obtain ⟨hx, hb, hml, hown, hts⟩ := id S
  obtain ⟨k, v, σ', τ', f', hw, hm, ht, hp, hr⟩ := op_grade l hfl E a b2 σ τ h q9 f (xs (i + 1)) (xs (i + 2))
  refine lv_aload_n hx hb dL_law_340 rfl (lv_at hl 1 rfl) ?_
  refine lv_aload_n hx hb dL_law_341 rfl (lv_at hl 0 rfl) ?_
  refine lv_iload hx hb dL_law_342 (lv_at hl 4 rfl) ?_
  refine lv_iconst (v := 1) hx hb dL_law_344 (by decide) ?_
  refine lv_iadd hx hb dL_law_345 ?_
  rw [show (nI i + 1 : Int32) = nI (i + 1) from nI_add _ 1]
  refine va_sld hx hb hX hbl (Nat.not_le.mpr hbl) hI.2.2.2 (i := nI (i + 1)) (vp_in_nI (by omega) (by omega)) dL_law_346 ?_
  rw [nI_clamp (by omega)]
  refine lv_aload_n hx hb dL_law_347 rfl (lv_at hl 0 rfl) ?_
  refine lv_iload hx hb dL_law_348 (lv_at hl 4 rfl) ?_
  refine lv_iconst (v := 2) hx hb dL_law_350 (by decide) ?_
  refine lv_iadd hx hb dL_law_351 ?_
  rw [show (nI i + 2 : Int32) = nI (i + 2) from nI_add _ 2]
  refine va_sld hx hb hX hbl (Nat.not_le.mpr hbl) hI.2.2.2 (i := nI (i + 2)) (vp_in_nI (by omega) (by omega)) dL_law_352 ?_
  rw [nI_clamp (by omega)]
  refine lv_aload_n hx hb dL_law_353 rfl (lv_at hl 3 rfl) ?_
  refine l_own (As := [.ref (a 0), .int (xs (i + 1)), .int (xs (i + 2)), .ref q9]) (rest := []) (σ' := σ') (f' := f') S hw (vx_cwSW 4 hts gL_law_L_grade rfl rfl rfl hdL_grade ⟨Nat.le_of_ble_eq_true rfl, Nat.le_of_ble_eq_true rfl⟩) hK hZ hN hI rfl hl.1 rfl (Nat.le_of_ble_eq_true rfl) ⟨by show cells + 1 ≤ 601024; omega, by show slots + 6 ≤ 7293034; omega⟩ dL_law_354 (fun H locs hI => ?_)
  refine lv_istore (lv' := [(5, .int k), (0, .ref b), (1, .ref (a 0)), (2, .ref (b2 0)), (3, .ref q9), (4, .int (nI i))]) hx hb dL_law_357 hl (by decide) rfl (fun ls hl => ?_)
  refine lv_aload_n hx hb dL_law_359 rfl (lv_at hl 3 rfl) ?_
  refine lv_aload_n hx hb dL_law_360 rfl (lv_at hl 1 rfl) ?_
  refine lv_iload hx hb dL_law_361 (lv_at hl 5 rfl) ?_
  refine lv_iconst (v := 1) hx hb dL_law_363 (by decide) ?_
  refine lv_iadd hx hb dL_law_364 ?_
  rw [show (nI i + 1 : Int32) = nI (i + 1) from nI_add _ 1]
  refine va_sld hx hb hX hbl (Nat.not_le.mpr hbl) hI.2.2.2 (i := nI (i + 1)) (vp_in_nI (by omega) (by omega)) dL_law_365 ?_
  rw [nI_clamp (by omega)]
  refine lv_aload_n hx hb dL_law_366 rfl (lv_at hl 1 rfl) ?_
  refine lv_iload hx hb dL_law_367 (lv_at hl 5 rfl) ?_
  refine lv_iconst (v := 2) hx hb dL_law_369 (by decide) ?_
  refine lv_iadd hx hb dL_law_370 ?_
  rw [show (nI i + 2 : Int32) = nI (i + 2) from nI_add _ 2]
  refine va_sld hx hb hX hbl (Nat.not_le.mpr hbl) hI.2.2.2 (i := nI (i + 2)) (vp_in_nI (by omega) (by omega)) dL_law_371 ?_
  rw [nI_clamp (by omega)]
  refine l_ref (As := [.int (xs (i + 1)), .int (xs (i + 2))]) (rest := []) (τ' := τ') S hm (cwV 2 hts gL_law_X1_grade rfl rfl rfl hdX1_grade ⟨Nat.le_of_ble_eq_true rfl, Nat.le_of_ble_eq_true rfl⟩) hK hI rfl hl.1 rfl (Nat.le_of_ble_eq_true rfl) ⟨by show cells + 1 ≤ 601024; omega, by show slots + 6 ≤ 7293034; omega⟩ dL_law_372 (fun H locs hI => ?_)
  refine lv_istore (lv' := [(6, .int v), (5, .int k), (0, .ref b), (1, .ref (a 0)), (2, .ref (b2 0)), (3, .ref q9), (4, .int (nI i))]) hx hb dL_law_375 hl (by decide) rfl (fun ls hl => ?_)
  refine lv_aload_n hx hb dL_law_377 rfl (lv_at hl 4 rfl) ?_
  refine m0i (As := []) (rest := []) S (m_thrown l E b2 τ') (cwV 0 hts gL_law_X1_thrown rfl rfl rfl hdX1_thrown ⟨Nat.le_of_ble_eq_true rfl, Nat.le_of_ble_eq_true rfl⟩) hK hI.2.1 rfl hl.1 rfl (Nat.le_of_ble_eq_true rfl) ⟨by show cells + 1 ≤ 601024; omega, by show slots + 6 ≤ 7293034; omega⟩ dL_law_378 ?_
  refine lv_iload hx hb dL_law_381 (lv_at hl 1 rfl) ?_
  refine lv_icmp_eq (tgt := 388) hx hb dL_law_383 (by decide) (fun _ => ?_) (fun q => absurd ht q)
  refine lv_iload hx hb dL_law_388 (lv_at hl 1 rfl) ?_
  refine lv_if_ne (tgt := 405) hx hb dL_law_390 (by decide) (fun c390 => ?_) (fun c390 => ?_)
  · refine lv_goto (tgt := 1950) hx hb dL_law_405 (by decide) ?_
    exact nx σ' τ' f' H locs _ _ ls hr hI (lv_sub hl [2, 3, 4, 5, 6] rfl) (by omega) (by omega)
  · refine lv_aload_n hx hb dL_law_393 rfl (lv_at hl 5 rfl) ?_
    refine lv_iconst (v := 0) hx hb dL_law_394 (by decide) ?_
    refine g_lld hx hb hK hI.1 14 rfl (i := nI 0) (v := f' 0) (vp_in_nI (by decide) (by decide)) (by rw [nI_clamp (by decide)]) dL_law_395 ?_
    refine lv_iload hx hb dL_law_396 (lv_at hl 0 rfl) ?_
    refine lv_i2l hx hb dL_law_398 rfl ?_
    refine W.lcmp hx hb dL_law_399 ?_
    refine lv_if_eq (tgt := 405) hx hb dL_law_400 (by decide) (fun _ => ?_) (fun q => absurd ((by rw [show f' 0 = v.toInt64 from hp c390]; exact lg_self _)) q)
    refine lv_goto (tgt := 1950) hx hb dL_law_405 (by decide) ?_
    exact nx σ' τ' f' H locs _ _ ls hr hI (lv_sub hl [2, 3, 4, 5, 6] rfl) (by omega) (by omega)
set_option maxHeartbeats 4000000 in
set_option maxRecDepth 100000 in
theorem case_weigh (hC : LC p l s m c b L xs E) (h : RR σ τ) (hi : i + 4 ≤ L) (hc : cells + 42 ≤ 601024) (hs : slots + 214 ≤ 7293034) (hI : LI s E a b2 q9 σ τ f H locs) (hl : lv_has ls 9 [(0, .ref b), (1, .ref (a 0)), (2, .ref (b2 0)), (3, .ref q9), (4, .int (nI i))]) (nx : NX p l e s m below meth c cells slots Q b E a b2 q9 i) : W p l e room_1 s m #[Value.ref b] below meth c H locs cells slots Q (F0 m 408 ls []) := by
  obtain ⟨S, hK, hZ, hN, hX, hbl, hL, hfl⟩ := hC
  obtain ⟨hx, hb, hml, hown, hts⟩ := id S
  obtain ⟨k, v, σ', τ', f', hw, hm, ht, hp, hr⟩ := op_weigh l hfl E a b2 σ τ h q9 f (xs (i + 1)) (xs (i + 2))
  refine lv_aload_n hx hb dL_law_408 rfl (lv_at hl 1 rfl) ?_
  refine lv_aload_n hx hb dL_law_409 rfl (lv_at hl 0 rfl) ?_
  refine lv_iload hx hb dL_law_410 (lv_at hl 4 rfl) ?_
  refine lv_iconst (v := 1) hx hb dL_law_412 (by decide) ?_
  refine lv_iadd hx hb dL_law_413 ?_
  rw [show (nI i + 1 : Int32) = nI (i + 1) from nI_add _ 1]
  refine va_sld hx hb hX hbl (Nat.not_le.mpr hbl) hI.2.2.2 (i := nI (i + 1)) (vp_in_nI (by omega) (by omega)) dL_law_414 ?_
  rw [nI_clamp (by omega)]
  refine lv_aload_n hx hb dL_law_415 rfl (lv_at hl 0 rfl) ?_
  refine lv_iload hx hb dL_law_416 (lv_at hl 4 rfl) ?_
  refine lv_iconst (v := 2) hx hb dL_law_418 (by decide) ?_
  refine lv_iadd hx hb dL_law_419 ?_
  rw [show (nI i + 2 : Int32) = nI (i + 2) from nI_add _ 2]
  refine va_sld hx hb hX hbl (Nat.not_le.mpr hbl) hI.2.2.2 (i := nI (i + 2)) (vp_in_nI (by omega) (by omega)) dL_law_420 ?_
  rw [nI_clamp (by omega)]
  refine lv_aload_n hx hb dL_law_421 rfl (lv_at hl 3 rfl) ?_
  refine l_own (As := [.ref (a 0), .int (xs (i + 1)), .int (xs (i + 2)), .ref q9]) (rest := []) (σ' := σ') (f' := f') S hw (vx_cwSW 4 hts gL_law_L_weigh rfl rfl rfl hdL_weigh ⟨Nat.le_of_ble_eq_true rfl, Nat.le_of_ble_eq_true rfl⟩) hK hZ hN hI rfl hl.1 rfl (Nat.le_of_ble_eq_true rfl) ⟨by show cells + 1 ≤ 601024; omega, by show slots + 6 ≤ 7293034; omega⟩ dL_law_422 (fun H locs hI => ?_)
  refine lv_istore (lv' := [(5, .int k), (0, .ref b), (1, .ref (a 0)), (2, .ref (b2 0)), (3, .ref q9), (4, .int (nI i))]) hx hb dL_law_425 hl (by decide) rfl (fun ls hl => ?_)
  refine lv_aload_n hx hb dL_law_427 rfl (lv_at hl 3 rfl) ?_
  refine lv_aload_n hx hb dL_law_428 rfl (lv_at hl 1 rfl) ?_
  refine lv_iload hx hb dL_law_429 (lv_at hl 5 rfl) ?_
  refine lv_iconst (v := 1) hx hb dL_law_431 (by decide) ?_
  refine lv_iadd hx hb dL_law_432 ?_
  rw [show (nI i + 1 : Int32) = nI (i + 1) from nI_add _ 1]
  refine va_sld hx hb hX hbl (Nat.not_le.mpr hbl) hI.2.2.2 (i := nI (i + 1)) (vp_in_nI (by omega) (by omega)) dL_law_433 ?_
  rw [nI_clamp (by omega)]
  refine lv_aload_n hx hb dL_law_434 rfl (lv_at hl 1 rfl) ?_
  refine lv_iload hx hb dL_law_435 (lv_at hl 5 rfl) ?_
  refine lv_iconst (v := 2) hx hb dL_law_437 (by decide) ?_
  refine lv_iadd hx hb dL_law_438 ?_
  rw [show (nI i + 2 : Int32) = nI (i + 2) from nI_add _ 2]
  refine va_sld hx hb hX hbl (Nat.not_le.mpr hbl) hI.2.2.2 (i := nI (i + 2)) (vp_in_nI (by omega) (by omega)) dL_law_439 ?_
  rw [nI_clamp (by omega)]
  refine l_ref (As := [.int (xs (i + 1)), .int (xs (i + 2))]) (rest := []) (τ' := τ') S hm (cwV 2 hts gL_law_X1_weigh rfl rfl rfl hdX1_weigh ⟨Nat.le_of_ble_eq_true rfl, Nat.le_of_ble_eq_true rfl⟩) hK hI rfl hl.1 rfl (Nat.le_of_ble_eq_true rfl) ⟨by show cells + 1 ≤ 601024; omega, by show slots + 6 ≤ 7293034; omega⟩ dL_law_440 (fun H locs hI => ?_)
  refine lv_istore (lv' := [(6, .int v), (5, .int k), (0, .ref b), (1, .ref (a 0)), (2, .ref (b2 0)), (3, .ref q9), (4, .int (nI i))]) hx hb dL_law_443 hl (by decide) rfl (fun ls hl => ?_)
  refine lv_aload_n hx hb dL_law_445 rfl (lv_at hl 4 rfl) ?_
  refine m0i (As := []) (rest := []) S (m_thrown l E b2 τ') (cwV 0 hts gL_law_X1_thrown rfl rfl rfl hdX1_thrown ⟨Nat.le_of_ble_eq_true rfl, Nat.le_of_ble_eq_true rfl⟩) hK hI.2.1 rfl hl.1 rfl (Nat.le_of_ble_eq_true rfl) ⟨by show cells + 1 ≤ 601024; omega, by show slots + 6 ≤ 7293034; omega⟩ dL_law_446 ?_
  refine lv_iload hx hb dL_law_449 (lv_at hl 1 rfl) ?_
  refine lv_icmp_eq (tgt := 456) hx hb dL_law_451 (by decide) (fun _ => ?_) (fun q => absurd ht q)
  refine lv_iload hx hb dL_law_456 (lv_at hl 1 rfl) ?_
  refine lv_if_ne (tgt := 473) hx hb dL_law_458 (by decide) (fun c458 => ?_) (fun c458 => ?_)
  · refine lv_goto (tgt := 1950) hx hb dL_law_473 (by decide) ?_
    exact nx σ' τ' f' H locs _ _ ls hr hI (lv_sub hl [2, 3, 4, 5, 6] rfl) (by omega) (by omega)
  · refine lv_aload_n hx hb dL_law_461 rfl (lv_at hl 5 rfl) ?_
    refine lv_iconst (v := 0) hx hb dL_law_462 (by decide) ?_
    refine g_lld hx hb hK hI.1 14 rfl (i := nI 0) (v := f' 0) (vp_in_nI (by decide) (by decide)) (by rw [nI_clamp (by decide)]) dL_law_463 ?_
    refine lv_iload hx hb dL_law_464 (lv_at hl 0 rfl) ?_
    refine lv_i2l hx hb dL_law_466 rfl ?_
    refine W.lcmp hx hb dL_law_467 ?_
    refine lv_if_eq (tgt := 473) hx hb dL_law_468 (by decide) (fun _ => ?_) (fun q => absurd ((by rw [show f' 0 = v.toInt64 from hp c458]; exact lg_self _)) q)
    refine lv_goto (tgt := 1950) hx hb dL_law_473 (by decide) ?_
    exact nx σ' τ' f' H locs _ _ ls hr hI (lv_sub hl [2, 3, 4, 5, 6] rfl) (by omega) (by omega)
set_option maxHeartbeats 4000000 in
set_option maxRecDepth 100000 in
theorem case_enroll (hC : LC p l s m c b L xs E) (h : RR σ τ) (hi : i + 4 ≤ L) (hc : cells + 42 ≤ 601024) (hs : slots + 214 ≤ 7293034) (hI : LI s E a b2 q9 σ τ f H locs) (hl : lv_has ls 9 [(0, .ref b), (1, .ref (a 0)), (2, .ref (b2 0)), (3, .ref q9), (4, .int (nI i))]) (nx : NX p l e s m below meth c cells slots Q b E a b2 q9 i) : W p l e room_1 s m #[Value.ref b] below meth c H locs cells slots Q (F0 m 476 ls []) := by
  obtain ⟨S, hK, hZ, hN, hX, hbl, hL, hfl⟩ := hC
  obtain ⟨hx, hb, hml, hown, hts⟩ := id S
  obtain ⟨k, v, σ', τ', f', hw, hm, ht, hp, hr⟩ := op_enroll l hfl E a b2 σ τ h q9 f (xs (i + 1))
  refine lv_aload_n hx hb dL_law_476 rfl (lv_at hl 1 rfl) ?_
  refine lv_aload_n hx hb dL_law_477 rfl (lv_at hl 0 rfl) ?_
  refine lv_iload hx hb dL_law_478 (lv_at hl 4 rfl) ?_
  refine lv_iconst (v := 1) hx hb dL_law_480 (by decide) ?_
  refine lv_iadd hx hb dL_law_481 ?_
  rw [show (nI i + 1 : Int32) = nI (i + 1) from nI_add _ 1]
  refine va_sld hx hb hX hbl (Nat.not_le.mpr hbl) hI.2.2.2 (i := nI (i + 1)) (vp_in_nI (by omega) (by omega)) dL_law_482 ?_
  rw [nI_clamp (by omega)]
  refine lv_aload_n hx hb dL_law_483 rfl (lv_at hl 3 rfl) ?_
  refine l_own (As := [.ref (a 0), .int (xs (i + 1)), .ref q9]) (rest := []) (σ' := σ') (f' := f') S hw (vx_cwSW 3 hts gL_law_L_enroll rfl rfl rfl hdL_enroll ⟨Nat.le_of_ble_eq_true rfl, Nat.le_of_ble_eq_true rfl⟩) hK hZ hN hI rfl hl.1 rfl (Nat.le_of_ble_eq_true rfl) ⟨by show cells + 1 ≤ 601024; omega, by show slots + 6 ≤ 7293034; omega⟩ dL_law_484 (fun H locs hI => ?_)
  refine lv_istore (lv' := [(5, .int k), (0, .ref b), (1, .ref (a 0)), (2, .ref (b2 0)), (3, .ref q9), (4, .int (nI i))]) hx hb dL_law_487 hl (by decide) rfl (fun ls hl => ?_)
  refine lv_aload_n hx hb dL_law_489 rfl (lv_at hl 3 rfl) ?_
  refine lv_aload_n hx hb dL_law_490 rfl (lv_at hl 1 rfl) ?_
  refine lv_iload hx hb dL_law_491 (lv_at hl 5 rfl) ?_
  refine lv_iconst (v := 1) hx hb dL_law_493 (by decide) ?_
  refine lv_iadd hx hb dL_law_494 ?_
  rw [show (nI i + 1 : Int32) = nI (i + 1) from nI_add _ 1]
  refine va_sld hx hb hX hbl (Nat.not_le.mpr hbl) hI.2.2.2 (i := nI (i + 1)) (vp_in_nI (by omega) (by omega)) dL_law_495 ?_
  rw [nI_clamp (by omega)]
  refine l_ref (As := [.int (xs (i + 1))]) (rest := []) (τ' := τ') S hm (cwV 1 hts gL_law_X1_enroll rfl rfl rfl hdX1_enroll ⟨Nat.le_of_ble_eq_true rfl, Nat.le_of_ble_eq_true rfl⟩) hK hI rfl hl.1 rfl (Nat.le_of_ble_eq_true rfl) ⟨by show cells + 1 ≤ 601024; omega, by show slots + 6 ≤ 7293034; omega⟩ dL_law_496 (fun H locs hI => ?_)
  refine lv_istore (lv' := [(6, .int v), (5, .int k), (0, .ref b), (1, .ref (a 0)), (2, .ref (b2 0)), (3, .ref q9), (4, .int (nI i))]) hx hb dL_law_499 hl (by decide) rfl (fun ls hl => ?_)
  refine lv_aload_n hx hb dL_law_501 rfl (lv_at hl 4 rfl) ?_
  refine m0i (As := []) (rest := []) S (m_thrown l E b2 τ') (cwV 0 hts gL_law_X1_thrown rfl rfl rfl hdX1_thrown ⟨Nat.le_of_ble_eq_true rfl, Nat.le_of_ble_eq_true rfl⟩) hK hI.2.1 rfl hl.1 rfl (Nat.le_of_ble_eq_true rfl) ⟨by show cells + 1 ≤ 601024; omega, by show slots + 6 ≤ 7293034; omega⟩ dL_law_502 ?_
  refine lv_iload hx hb dL_law_505 (lv_at hl 1 rfl) ?_
  refine lv_icmp_eq (tgt := 512) hx hb dL_law_507 (by decide) (fun _ => ?_) (fun q => absurd ht q)
  refine lv_iload hx hb dL_law_512 (lv_at hl 1 rfl) ?_
  refine lv_if_ne (tgt := 529) hx hb dL_law_514 (by decide) (fun c514 => ?_) (fun c514 => ?_)
  · refine lv_goto (tgt := 1950) hx hb dL_law_529 (by decide) ?_
    exact nx σ' τ' f' H locs _ _ ls hr hI (lv_sub hl [2, 3, 4, 5, 6] rfl) (by omega) (by omega)
  · refine lv_aload_n hx hb dL_law_517 rfl (lv_at hl 5 rfl) ?_
    refine lv_iconst (v := 0) hx hb dL_law_518 (by decide) ?_
    refine g_lld hx hb hK hI.1 14 rfl (i := nI 0) (v := f' 0) (vp_in_nI (by decide) (by decide)) (by rw [nI_clamp (by decide)]) dL_law_519 ?_
    refine lv_iload hx hb dL_law_520 (lv_at hl 0 rfl) ?_
    refine lv_i2l hx hb dL_law_522 rfl ?_
    refine W.lcmp hx hb dL_law_523 ?_
    refine lv_if_eq (tgt := 529) hx hb dL_law_524 (by decide) (fun _ => ?_) (fun q => absurd ((by rw [show f' 0 = v.toInt64 from hp c514]; exact lg_self _)) q)
    refine lv_goto (tgt := 1950) hx hb dL_law_529 (by decide) ?_
    exact nx σ' τ' f' H locs _ _ ls hr hI (lv_sub hl [2, 3, 4, 5, 6] rfl) (by omega) (by omega)
set_option maxHeartbeats 4000000 in
set_option maxRecDepth 100000 in
theorem case_turn (hC : LC p l s m c b L xs E) (h : RR σ τ) (hi : i + 4 ≤ L) (hc : cells + 42 ≤ 601024) (hs : slots + 214 ≤ 7293034) (hI : LI s E a b2 q9 σ τ f H locs) (hl : lv_has ls 9 [(0, .ref b), (1, .ref (a 0)), (2, .ref (b2 0)), (3, .ref q9), (4, .int (nI i))]) (nx : NX p l e s m below meth c cells slots Q b E a b2 q9 i) : W p l e room_1 s m #[Value.ref b] below meth c H locs cells slots Q (F0 m 532 ls []) := by
  obtain ⟨S, hK, hZ, hN, hX, hbl, hL, hfl⟩ := hC
  obtain ⟨hx, hb, hml, hown, hts⟩ := id S
  by_cases hd : xs (i + 2) = 0
  · obtain ⟨k, v, σ', τ', f', hw, hm, ht, hp, hr⟩ := op_turn l hfl E a b2 σ τ h q9 f (xs (i + 1)) false
    refine lv_aload_n hx hb dL_law_532 rfl (lv_at hl 1 rfl) ?_
    refine lv_aload_n hx hb dL_law_533 rfl (lv_at hl 0 rfl) ?_
    refine lv_iload hx hb dL_law_534 (lv_at hl 4 rfl) ?_
    refine lv_iconst (v := 1) hx hb dL_law_536 (by decide) ?_
    refine lv_iadd hx hb dL_law_537 ?_
    rw [show (nI i + 1 : Int32) = nI (i + 1) from nI_add _ 1]
    refine va_sld hx hb hX hbl (Nat.not_le.mpr hbl) hI.2.2.2 (i := nI (i + 1)) (vp_in_nI (by omega) (by omega)) dL_law_538 ?_
    rw [nI_clamp (by omega)]
    refine lv_aload_n hx hb dL_law_539 rfl (lv_at hl 0 rfl) ?_
    refine lv_iload hx hb dL_law_540 (lv_at hl 4 rfl) ?_
    refine lv_iconst (v := 2) hx hb dL_law_542 (by decide) ?_
    refine lv_iadd hx hb dL_law_543 ?_
    rw [show (nI i + 2 : Int32) = nI (i + 2) from nI_add _ 2]
    refine va_sld hx hb hX hbl (Nat.not_le.mpr hbl) hI.2.2.2 (i := nI (i + 2)) (vp_in_nI (by omega) (by omega)) dL_law_544 ?_
    rw [nI_clamp (by omega)]
    refine lv_if_eq (tgt := 552) hx hb dL_law_545 (by decide) (fun _ => ?_) (fun q => absurd hd q)
    refine lv_iconst (v := 0) hx hb dL_law_552 (by decide) ?_
    refine lv_aload_n hx hb dL_law_553 rfl (lv_at hl 3 rfl) ?_
    refine l_own (As := [.ref (a 0), .int (xs (i + 1)), .int (b2i false), .ref q9]) (rest := []) (σ' := σ') (f' := f') S hw (vx_cwSW 4 hts gL_law_L_turn rfl rfl rfl hdL_turn ⟨Nat.le_of_ble_eq_true rfl, Nat.le_of_ble_eq_true rfl⟩) hK hZ hN hI rfl hl.1 rfl (Nat.le_of_ble_eq_true rfl) ⟨by show cells + 1 ≤ 601024; omega, by show slots + 6 ≤ 7293034; omega⟩ dL_law_554 (fun H locs hI => ?_)
    refine lv_istore (lv' := [(5, .int k), (0, .ref b), (1, .ref (a 0)), (2, .ref (b2 0)), (3, .ref q9), (4, .int (nI i))]) hx hb dL_law_557 hl (by decide) rfl (fun ls hl => ?_)
    refine lv_aload_n hx hb dL_law_559 rfl (lv_at hl 3 rfl) ?_
    refine lv_aload_n hx hb dL_law_560 rfl (lv_at hl 1 rfl) ?_
    refine lv_iload hx hb dL_law_561 (lv_at hl 5 rfl) ?_
    refine lv_iconst (v := 1) hx hb dL_law_563 (by decide) ?_
    refine lv_iadd hx hb dL_law_564 ?_
    rw [show (nI i + 1 : Int32) = nI (i + 1) from nI_add _ 1]
    refine va_sld hx hb hX hbl (Nat.not_le.mpr hbl) hI.2.2.2 (i := nI (i + 1)) (vp_in_nI (by omega) (by omega)) dL_law_565 ?_
    rw [nI_clamp (by omega)]
    refine lv_aload_n hx hb dL_law_566 rfl (lv_at hl 1 rfl) ?_
    refine lv_iload hx hb dL_law_567 (lv_at hl 5 rfl) ?_
    refine lv_iconst (v := 2) hx hb dL_law_569 (by decide) ?_
    refine lv_iadd hx hb dL_law_570 ?_
    rw [show (nI i + 2 : Int32) = nI (i + 2) from nI_add _ 2]
    refine va_sld hx hb hX hbl (Nat.not_le.mpr hbl) hI.2.2.2 (i := nI (i + 2)) (vp_in_nI (by omega) (by omega)) dL_law_571 ?_
    rw [nI_clamp (by omega)]
    refine lv_if_eq (tgt := 579) hx hb dL_law_572 (by decide) (fun _ => ?_) (fun q => absurd hd q)
    refine lv_iconst (v := 0) hx hb dL_law_579 (by decide) ?_
    refine l_ref (As := [.int (xs (i + 1)), .int (b2i false)]) (rest := []) (τ' := τ') S hm (cwV 2 hts gL_law_X1_turn rfl rfl rfl hdX1_turn ⟨Nat.le_of_ble_eq_true rfl, Nat.le_of_ble_eq_true rfl⟩) hK hI rfl hl.1 rfl (Nat.le_of_ble_eq_true rfl) ⟨by show cells + 1 ≤ 601024; omega, by show slots + 6 ≤ 7293034; omega⟩ dL_law_580 (fun H locs hI => ?_)
    refine lv_istore (lv' := [(6, .int v), (5, .int k), (0, .ref b), (1, .ref (a 0)), (2, .ref (b2 0)), (3, .ref q9), (4, .int (nI i))]) hx hb dL_law_583 hl (by decide) rfl (fun ls hl => ?_)
    refine lv_aload_n hx hb dL_law_585 rfl (lv_at hl 4 rfl) ?_
    refine m0i (As := []) (rest := []) S (m_thrown l E b2 τ') (cwV 0 hts gL_law_X1_thrown rfl rfl rfl hdX1_thrown ⟨Nat.le_of_ble_eq_true rfl, Nat.le_of_ble_eq_true rfl⟩) hK hI.2.1 rfl hl.1 rfl (Nat.le_of_ble_eq_true rfl) ⟨by show cells + 1 ≤ 601024; omega, by show slots + 6 ≤ 7293034; omega⟩ dL_law_586 ?_
    refine lv_iload hx hb dL_law_589 (lv_at hl 1 rfl) ?_
    refine lv_icmp_eq (tgt := 596) hx hb dL_law_591 (by decide) (fun _ => ?_) (fun q => absurd ht q)
    refine lv_iload hx hb dL_law_596 (lv_at hl 1 rfl) ?_
    refine lv_if_ne (tgt := 613) hx hb dL_law_598 (by decide) (fun c598 => ?_) (fun c598 => ?_)
    · refine lv_goto (tgt := 1950) hx hb dL_law_613 (by decide) ?_
      exact nx σ' τ' f' H locs _ _ ls hr hI (lv_sub hl [2, 3, 4, 5, 6] rfl) (by omega) (by omega)
    · refine lv_aload_n hx hb dL_law_601 rfl (lv_at hl 5 rfl) ?_
      refine lv_iconst (v := 0) hx hb dL_law_602 (by decide) ?_
      refine g_lld hx hb hK hI.1 14 rfl (i := nI 0) (v := f' 0) (vp_in_nI (by decide) (by decide)) (by rw [nI_clamp (by decide)]) dL_law_603 ?_
      refine lv_iload hx hb dL_law_604 (lv_at hl 0 rfl) ?_
      refine lv_i2l hx hb dL_law_606 rfl ?_
      refine W.lcmp hx hb dL_law_607 ?_
      refine lv_if_eq (tgt := 613) hx hb dL_law_608 (by decide) (fun _ => ?_) (fun q => absurd ((by rw [show f' 0 = v.toInt64 from hp c598]; exact lg_self _)) q)
      refine lv_goto (tgt := 1950) hx hb dL_law_613 (by decide) ?_
      exact nx σ' τ' f' H locs _ _ ls hr hI (lv_sub hl [2, 3, 4, 5, 6] rfl) (by omega) (by omega)
  · obtain ⟨k, v, σ', τ', f', hw, hm, ht, hp, hr⟩ := op_turn l hfl E a b2 σ τ h q9 f (xs (i + 1)) true
    refine lv_aload_n hx hb dL_law_532 rfl (lv_at hl 1 rfl) ?_
    refine lv_aload_n hx hb dL_law_533 rfl (lv_at hl 0 rfl) ?_
    refine lv_iload hx hb dL_law_534 (lv_at hl 4 rfl) ?_
    refine lv_iconst (v := 1) hx hb dL_law_536 (by decide) ?_
    refine lv_iadd hx hb dL_law_537 ?_
    rw [show (nI i + 1 : Int32) = nI (i + 1) from nI_add _ 1]
    refine va_sld hx hb hX hbl (Nat.not_le.mpr hbl) hI.2.2.2 (i := nI (i + 1)) (vp_in_nI (by omega) (by omega)) dL_law_538 ?_
    rw [nI_clamp (by omega)]
    refine lv_aload_n hx hb dL_law_539 rfl (lv_at hl 0 rfl) ?_
    refine lv_iload hx hb dL_law_540 (lv_at hl 4 rfl) ?_
    refine lv_iconst (v := 2) hx hb dL_law_542 (by decide) ?_
    refine lv_iadd hx hb dL_law_543 ?_
    rw [show (nI i + 2 : Int32) = nI (i + 2) from nI_add _ 2]
    refine va_sld hx hb hX hbl (Nat.not_le.mpr hbl) hI.2.2.2 (i := nI (i + 2)) (vp_in_nI (by omega) (by omega)) dL_law_544 ?_
    rw [nI_clamp (by omega)]
    refine lv_if_eq (tgt := 552) hx hb dL_law_545 (by decide) (fun q => absurd q hd) (fun _ => ?_)
    refine lv_iconst (v := 1) hx hb dL_law_548 (by decide) ?_
    refine lv_goto (tgt := 553) hx hb dL_law_549 (by decide) ?_
    refine lv_aload_n hx hb dL_law_553 rfl (lv_at hl 3 rfl) ?_
    refine l_own (As := [.ref (a 0), .int (xs (i + 1)), .int (b2i true), .ref q9]) (rest := []) (σ' := σ') (f' := f') S hw (vx_cwSW 4 hts gL_law_L_turn rfl rfl rfl hdL_turn ⟨Nat.le_of_ble_eq_true rfl, Nat.le_of_ble_eq_true rfl⟩) hK hZ hN hI rfl hl.1 rfl (Nat.le_of_ble_eq_true rfl) ⟨by show cells + 1 ≤ 601024; omega, by show slots + 6 ≤ 7293034; omega⟩ dL_law_554 (fun H locs hI => ?_)
    refine lv_istore (lv' := [(5, .int k), (0, .ref b), (1, .ref (a 0)), (2, .ref (b2 0)), (3, .ref q9), (4, .int (nI i))]) hx hb dL_law_557 hl (by decide) rfl (fun ls hl => ?_)
    refine lv_aload_n hx hb dL_law_559 rfl (lv_at hl 3 rfl) ?_
    refine lv_aload_n hx hb dL_law_560 rfl (lv_at hl 1 rfl) ?_
    refine lv_iload hx hb dL_law_561 (lv_at hl 5 rfl) ?_
    refine lv_iconst (v := 1) hx hb dL_law_563 (by decide) ?_
    refine lv_iadd hx hb dL_law_564 ?_
    rw [show (nI i + 1 : Int32) = nI (i + 1) from nI_add _ 1]
    refine va_sld hx hb hX hbl (Nat.not_le.mpr hbl) hI.2.2.2 (i := nI (i + 1)) (vp_in_nI (by omega) (by omega)) dL_law_565 ?_
    rw [nI_clamp (by omega)]
    refine lv_aload_n hx hb dL_law_566 rfl (lv_at hl 1 rfl) ?_
    refine lv_iload hx hb dL_law_567 (lv_at hl 5 rfl) ?_
    refine lv_iconst (v := 2) hx hb dL_law_569 (by decide) ?_
    refine lv_iadd hx hb dL_law_570 ?_
    rw [show (nI i + 2 : Int32) = nI (i + 2) from nI_add _ 2]
    refine va_sld hx hb hX hbl (Nat.not_le.mpr hbl) hI.2.2.2 (i := nI (i + 2)) (vp_in_nI (by omega) (by omega)) dL_law_571 ?_
    rw [nI_clamp (by omega)]
    refine lv_if_eq (tgt := 579) hx hb dL_law_572 (by decide) (fun q => absurd q hd) (fun _ => ?_)
    refine lv_iconst (v := 1) hx hb dL_law_575 (by decide) ?_
    refine lv_goto (tgt := 580) hx hb dL_law_576 (by decide) ?_
    refine l_ref (As := [.int (xs (i + 1)), .int (b2i true)]) (rest := []) (τ' := τ') S hm (cwV 2 hts gL_law_X1_turn rfl rfl rfl hdX1_turn ⟨Nat.le_of_ble_eq_true rfl, Nat.le_of_ble_eq_true rfl⟩) hK hI rfl hl.1 rfl (Nat.le_of_ble_eq_true rfl) ⟨by show cells + 1 ≤ 601024; omega, by show slots + 6 ≤ 7293034; omega⟩ dL_law_580 (fun H locs hI => ?_)
    refine lv_istore (lv' := [(6, .int v), (5, .int k), (0, .ref b), (1, .ref (a 0)), (2, .ref (b2 0)), (3, .ref q9), (4, .int (nI i))]) hx hb dL_law_583 hl (by decide) rfl (fun ls hl => ?_)
    refine lv_aload_n hx hb dL_law_585 rfl (lv_at hl 4 rfl) ?_
    refine m0i (As := []) (rest := []) S (m_thrown l E b2 τ') (cwV 0 hts gL_law_X1_thrown rfl rfl rfl hdX1_thrown ⟨Nat.le_of_ble_eq_true rfl, Nat.le_of_ble_eq_true rfl⟩) hK hI.2.1 rfl hl.1 rfl (Nat.le_of_ble_eq_true rfl) ⟨by show cells + 1 ≤ 601024; omega, by show slots + 6 ≤ 7293034; omega⟩ dL_law_586 ?_
    refine lv_iload hx hb dL_law_589 (lv_at hl 1 rfl) ?_
    refine lv_icmp_eq (tgt := 596) hx hb dL_law_591 (by decide) (fun _ => ?_) (fun q => absurd ht q)
    refine lv_iload hx hb dL_law_596 (lv_at hl 1 rfl) ?_
    refine lv_if_ne (tgt := 613) hx hb dL_law_598 (by decide) (fun c598 => ?_) (fun c598 => ?_)
    · refine lv_goto (tgt := 1950) hx hb dL_law_613 (by decide) ?_
      exact nx σ' τ' f' H locs _ _ ls hr hI (lv_sub hl [2, 3, 4, 5, 6] rfl) (by omega) (by omega)
    · refine lv_aload_n hx hb dL_law_601 rfl (lv_at hl 5 rfl) ?_
      refine lv_iconst (v := 0) hx hb dL_law_602 (by decide) ?_
      refine g_lld hx hb hK hI.1 14 rfl (i := nI 0) (v := f' 0) (vp_in_nI (by decide) (by decide)) (by rw [nI_clamp (by decide)]) dL_law_603 ?_
      refine lv_iload hx hb dL_law_604 (lv_at hl 0 rfl) ?_
      refine lv_i2l hx hb dL_law_606 rfl ?_
      refine W.lcmp hx hb dL_law_607 ?_
      refine lv_if_eq (tgt := 613) hx hb dL_law_608 (by decide) (fun _ => ?_) (fun q => absurd ((by rw [show f' 0 = v.toInt64 from hp c598]; exact lg_self _)) q)
      refine lv_goto (tgt := 1950) hx hb dL_law_613 (by decide) ?_
      exact nx σ' τ' f' H locs _ _ ls hr hI (lv_sub hl [2, 3, 4, 5, 6] rfl) (by omega) (by omega)
set_option maxHeartbeats 4000000 in
set_option maxRecDepth 100000 in
theorem case_goBack (hC : LC p l s m c b L xs E) (h : RR σ τ) (hi : i + 4 ≤ L) (hc : cells + 42 ≤ 601024) (hs : slots + 214 ≤ 7293034) (hI : LI s E a b2 q9 σ τ f H locs) (hl : lv_has ls 9 [(0, .ref b), (1, .ref (a 0)), (2, .ref (b2 0)), (3, .ref q9), (4, .int (nI i))]) (nx : NX p l e s m below meth c cells slots Q b E a b2 q9 i) : W p l e room_1 s m #[Value.ref b] below meth c H locs cells slots Q (F0 m 616 ls []) := by
  obtain ⟨S, hK, hZ, hN, hX, hbl, hL, hfl⟩ := hC
  obtain ⟨hx, hb, hml, hown, hts⟩ := id S
  obtain ⟨k, v, σ', τ', f', hw, hm, ht, hp, hr⟩ := op_goBack l hfl E a b2 σ τ h q9 f (xs (i + 1))
  refine lv_aload_n hx hb dL_law_616 rfl (lv_at hl 1 rfl) ?_
  refine lv_aload_n hx hb dL_law_617 rfl (lv_at hl 0 rfl) ?_
  refine lv_iload hx hb dL_law_618 (lv_at hl 4 rfl) ?_
  refine lv_iconst (v := 1) hx hb dL_law_620 (by decide) ?_
  refine lv_iadd hx hb dL_law_621 ?_
  rw [show (nI i + 1 : Int32) = nI (i + 1) from nI_add _ 1]
  refine va_sld hx hb hX hbl (Nat.not_le.mpr hbl) hI.2.2.2 (i := nI (i + 1)) (vp_in_nI (by omega) (by omega)) dL_law_622 ?_
  rw [nI_clamp (by omega)]
  refine lv_aload_n hx hb dL_law_623 rfl (lv_at hl 3 rfl) ?_
  refine l_own (As := [.ref (a 0), .int (xs (i + 1)), .ref q9]) (rest := []) (σ' := σ') (f' := f') S hw (vx_cwSW 3 hts gL_law_L_goBack rfl rfl rfl hdL_goBack ⟨Nat.le_of_ble_eq_true rfl, Nat.le_of_ble_eq_true rfl⟩) hK hZ hN hI rfl hl.1 rfl (Nat.le_of_ble_eq_true rfl) ⟨by show cells + 1 ≤ 601024; omega, by show slots + 6 ≤ 7293034; omega⟩ dL_law_624 (fun H locs hI => ?_)
  refine lv_istore (lv' := [(5, .int k), (0, .ref b), (1, .ref (a 0)), (2, .ref (b2 0)), (3, .ref q9), (4, .int (nI i))]) hx hb dL_law_627 hl (by decide) rfl (fun ls hl => ?_)
  refine lv_aload_n hx hb dL_law_629 rfl (lv_at hl 3 rfl) ?_
  refine lv_aload_n hx hb dL_law_630 rfl (lv_at hl 1 rfl) ?_
  refine lv_iload hx hb dL_law_631 (lv_at hl 5 rfl) ?_
  refine lv_iconst (v := 1) hx hb dL_law_633 (by decide) ?_
  refine lv_iadd hx hb dL_law_634 ?_
  rw [show (nI i + 1 : Int32) = nI (i + 1) from nI_add _ 1]
  refine va_sld hx hb hX hbl (Nat.not_le.mpr hbl) hI.2.2.2 (i := nI (i + 1)) (vp_in_nI (by omega) (by omega)) dL_law_635 ?_
  rw [nI_clamp (by omega)]
  refine l_ref (As := [.int (xs (i + 1))]) (rest := []) (τ' := τ') S hm (cwV 1 hts gL_law_X1_goBack rfl rfl rfl hdX1_goBack ⟨Nat.le_of_ble_eq_true rfl, Nat.le_of_ble_eq_true rfl⟩) hK hI rfl hl.1 rfl (Nat.le_of_ble_eq_true rfl) ⟨by show cells + 1 ≤ 601024; omega, by show slots + 6 ≤ 7293034; omega⟩ dL_law_636 (fun H locs hI => ?_)
  refine lv_istore (lv' := [(6, .int v), (5, .int k), (0, .ref b), (1, .ref (a 0)), (2, .ref (b2 0)), (3, .ref q9), (4, .int (nI i))]) hx hb dL_law_639 hl (by decide) rfl (fun ls hl => ?_)
  refine lv_aload_n hx hb dL_law_641 rfl (lv_at hl 4 rfl) ?_
  refine m0i (As := []) (rest := []) S (m_thrown l E b2 τ') (cwV 0 hts gL_law_X1_thrown rfl rfl rfl hdX1_thrown ⟨Nat.le_of_ble_eq_true rfl, Nat.le_of_ble_eq_true rfl⟩) hK hI.2.1 rfl hl.1 rfl (Nat.le_of_ble_eq_true rfl) ⟨by show cells + 1 ≤ 601024; omega, by show slots + 6 ≤ 7293034; omega⟩ dL_law_642 ?_
  refine lv_iload hx hb dL_law_645 (lv_at hl 1 rfl) ?_
  refine lv_icmp_eq (tgt := 652) hx hb dL_law_647 (by decide) (fun _ => ?_) (fun q => absurd ht q)
  refine lv_iload hx hb dL_law_652 (lv_at hl 1 rfl) ?_
  refine lv_if_ne (tgt := 669) hx hb dL_law_654 (by decide) (fun c654 => ?_) (fun c654 => ?_)
  · refine lv_goto (tgt := 1950) hx hb dL_law_669 (by decide) ?_
    exact nx σ' τ' f' H locs _ _ ls hr hI (lv_sub hl [2, 3, 4, 5, 6] rfl) (by omega) (by omega)
  · refine lv_aload_n hx hb dL_law_657 rfl (lv_at hl 5 rfl) ?_
    refine lv_iconst (v := 0) hx hb dL_law_658 (by decide) ?_
    refine g_lld hx hb hK hI.1 14 rfl (i := nI 0) (v := f' 0) (vp_in_nI (by decide) (by decide)) (by rw [nI_clamp (by decide)]) dL_law_659 ?_
    refine lv_iload hx hb dL_law_660 (lv_at hl 0 rfl) ?_
    refine lv_i2l hx hb dL_law_662 rfl ?_
    refine W.lcmp hx hb dL_law_663 ?_
    refine lv_if_eq (tgt := 669) hx hb dL_law_664 (by decide) (fun _ => ?_) (fun q => absurd ((by rw [show f' 0 = v.toInt64 from hp c654]; exact lg_self _)) q)
    refine lv_goto (tgt := 1950) hx hb dL_law_669 (by decide) ?_
    exact nx σ' τ' f' H locs _ _ ls hr hI (lv_sub hl [2, 3, 4, 5, 6] rfl) (by omega) (by omega)
set_option maxHeartbeats 4000000 in
set_option maxRecDepth 100000 in
theorem case_follow (hC : LC p l s m c b L xs E) (h : RR σ τ) (hi : i + 4 ≤ L) (hc : cells + 42 ≤ 601024) (hs : slots + 214 ≤ 7293034) (hI : LI s E a b2 q9 σ τ f H locs) (hl : lv_has ls 9 [(0, .ref b), (1, .ref (a 0)), (2, .ref (b2 0)), (3, .ref q9), (4, .int (nI i))]) (nx : NX p l e s m below meth c cells slots Q b E a b2 q9 i) : W p l e room_1 s m #[Value.ref b] below meth c H locs cells slots Q (F0 m 672 ls []) := by
  obtain ⟨S, hK, hZ, hN, hX, hbl, hL, hfl⟩ := hC
  obtain ⟨hx, hb, hml, hown, hts⟩ := id S
  obtain ⟨k, v, σ', τ', f', hw, hm, ht, hp, hr⟩ := op_follow l hfl E a b2 σ τ h q9 f (xs (i + 1))
  refine lv_aload_n hx hb dL_law_672 rfl (lv_at hl 1 rfl) ?_
  refine lv_aload_n hx hb dL_law_673 rfl (lv_at hl 0 rfl) ?_
  refine lv_iload hx hb dL_law_674 (lv_at hl 4 rfl) ?_
  refine lv_iconst (v := 1) hx hb dL_law_676 (by decide) ?_
  refine lv_iadd hx hb dL_law_677 ?_
  rw [show (nI i + 1 : Int32) = nI (i + 1) from nI_add _ 1]
  refine va_sld hx hb hX hbl (Nat.not_le.mpr hbl) hI.2.2.2 (i := nI (i + 1)) (vp_in_nI (by omega) (by omega)) dL_law_678 ?_
  rw [nI_clamp (by omega)]
  refine lv_aload_n hx hb dL_law_679 rfl (lv_at hl 3 rfl) ?_
  refine l_own (As := [.ref (a 0), .int (xs (i + 1)), .ref q9]) (rest := []) (σ' := σ') (f' := f') S hw (vx_cwSW 3 hts gL_law_L_follow rfl rfl rfl hdL_follow ⟨Nat.le_of_ble_eq_true rfl, Nat.le_of_ble_eq_true rfl⟩) hK hZ hN hI rfl hl.1 rfl (Nat.le_of_ble_eq_true rfl) ⟨by show cells + 1 ≤ 601024; omega, by show slots + 6 ≤ 7293034; omega⟩ dL_law_680 (fun H locs hI => ?_)
  refine lv_istore (lv' := [(5, .int k), (0, .ref b), (1, .ref (a 0)), (2, .ref (b2 0)), (3, .ref q9), (4, .int (nI i))]) hx hb dL_law_683 hl (by decide) rfl (fun ls hl => ?_)
  refine lv_aload_n hx hb dL_law_685 rfl (lv_at hl 3 rfl) ?_
  refine lv_aload_n hx hb dL_law_686 rfl (lv_at hl 1 rfl) ?_
  refine lv_iload hx hb dL_law_687 (lv_at hl 5 rfl) ?_
  refine lv_iconst (v := 1) hx hb dL_law_689 (by decide) ?_
  refine lv_iadd hx hb dL_law_690 ?_
  rw [show (nI i + 1 : Int32) = nI (i + 1) from nI_add _ 1]
  refine va_sld hx hb hX hbl (Nat.not_le.mpr hbl) hI.2.2.2 (i := nI (i + 1)) (vp_in_nI (by omega) (by omega)) dL_law_691 ?_
  rw [nI_clamp (by omega)]
  refine l_ref (As := [.int (xs (i + 1))]) (rest := []) (τ' := τ') S hm (cwV 1 hts gL_law_X1_follow rfl rfl rfl hdX1_follow ⟨Nat.le_of_ble_eq_true rfl, Nat.le_of_ble_eq_true rfl⟩) hK hI rfl hl.1 rfl (Nat.le_of_ble_eq_true rfl) ⟨by show cells + 1 ≤ 601024; omega, by show slots + 6 ≤ 7293034; omega⟩ dL_law_692 (fun H locs hI => ?_)
  refine lv_istore (lv' := [(6, .int v), (5, .int k), (0, .ref b), (1, .ref (a 0)), (2, .ref (b2 0)), (3, .ref q9), (4, .int (nI i))]) hx hb dL_law_695 hl (by decide) rfl (fun ls hl => ?_)
  refine lv_aload_n hx hb dL_law_697 rfl (lv_at hl 4 rfl) ?_
  refine m0i (As := []) (rest := []) S (m_thrown l E b2 τ') (cwV 0 hts gL_law_X1_thrown rfl rfl rfl hdX1_thrown ⟨Nat.le_of_ble_eq_true rfl, Nat.le_of_ble_eq_true rfl⟩) hK hI.2.1 rfl hl.1 rfl (Nat.le_of_ble_eq_true rfl) ⟨by show cells + 1 ≤ 601024; omega, by show slots + 6 ≤ 7293034; omega⟩ dL_law_698 ?_
  refine lv_iload hx hb dL_law_701 (lv_at hl 1 rfl) ?_
  refine lv_icmp_eq (tgt := 708) hx hb dL_law_703 (by decide) (fun _ => ?_) (fun q => absurd ht q)
  refine lv_iload hx hb dL_law_708 (lv_at hl 1 rfl) ?_
  refine lv_if_ne (tgt := 725) hx hb dL_law_710 (by decide) (fun c710 => ?_) (fun c710 => ?_)
  · refine lv_goto (tgt := 1950) hx hb dL_law_725 (by decide) ?_
    exact nx σ' τ' f' H locs _ _ ls hr hI (lv_sub hl [2, 3, 4, 5, 6] rfl) (by omega) (by omega)
  · refine lv_aload_n hx hb dL_law_713 rfl (lv_at hl 5 rfl) ?_
    refine lv_iconst (v := 0) hx hb dL_law_714 (by decide) ?_
    refine g_lld hx hb hK hI.1 14 rfl (i := nI 0) (v := f' 0) (vp_in_nI (by decide) (by decide)) (by rw [nI_clamp (by decide)]) dL_law_715 ?_
    refine lv_iload hx hb dL_law_716 (lv_at hl 0 rfl) ?_
    refine lv_i2l hx hb dL_law_718 rfl ?_
    refine W.lcmp hx hb dL_law_719 ?_
    refine lv_if_eq (tgt := 725) hx hb dL_law_720 (by decide) (fun _ => ?_) (fun q => absurd ((by rw [show f' 0 = v.toInt64 from hp c710]; exact lg_self _)) q)
    refine lv_goto (tgt := 1950) hx hb dL_law_725 (by decide) ?_
    exact nx σ' τ' f' H locs _ _ ls hr hI (lv_sub hl [2, 3, 4, 5, 6] rfl) (by omega) (by omega)
set_option maxHeartbeats 4000000 in
set_option maxRecDepth 100000 in
theorem case_places (hC : LC p l s m c b L xs E) (h : RR σ τ) (hi : i + 4 ≤ L) (hc : cells + 42 ≤ 601024) (hs : slots + 214 ≤ 7293034) (hI : LI s E a b2 q9 σ τ f H locs) (hl : lv_has ls 9 [(0, .ref b), (1, .ref (a 0)), (2, .ref (b2 0)), (3, .ref q9), (4, .int (nI i))]) (nx : NX p l e s m below meth c cells slots Q b E a b2 q9 i) : W p l e room_1 s m #[Value.ref b] below meth c H locs cells slots Q (F0 m 728 ls []) := by
  obtain ⟨S, hK, hZ, hN, hX, hbl, hL, hfl⟩ := hC
  obtain ⟨hx, hb, hml, hown, hts⟩ := id S
  refine lv_aload_n hx hb dL_law_728 rfl (lv_at hl 1 rfl) ?_
  refine g0i (As := []) (rest := []) S (c_places l E a σ) (cwV 0 hts gL_law_X0_places rfl rfl rfl hdX0_places ⟨Nat.le_of_ble_eq_true rfl, Nat.le_of_ble_eq_true rfl⟩) hK (gO_l hI.1) rfl hl.1 rfl (Nat.le_of_ble_eq_true rfl) ⟨by show cells ≤ 601024; omega, by show slots ≤ 7293034; omega⟩ dL_law_729 ?_
  refine lv_aload_n hx hb dL_law_732 rfl (lv_at hl 2 rfl) ?_
  refine l_ref (As := []) (rest := [.int (nI (gn σ))]) (τ' := (mThr τ 0)) S (fun sz => m_places l E b2 τ sz) (cwV 0 hts gL_law_X1_places rfl rfl rfl hdX1_places ⟨Nat.le_of_ble_eq_true rfl, Nat.le_of_ble_eq_true rfl⟩) hK hI rfl hl.1 rfl (Nat.le_of_ble_eq_true rfl) ⟨by show cells ≤ 601024; omega, by show slots ≤ 7293034; omega⟩ dL_law_733 (fun H locs hI => ?_)
  refine lv_icmp_eq (tgt := 1950) hx hb dL_law_736 (by decide) (fun _ => ?_) (fun q => absurd ((by rw [h.n])) q)
  exact nx σ ((mThr τ 0)) f H locs _ _ ls (h.thr 0) hI (lv_sub hl [0, 1, 2, 3, 4] rfl) (by omega) (by omega)
set_option maxHeartbeats 4000000 in
set_option maxRecDepth 100000 in
theorem case_exams (hC : LC p l s m c b L xs E) (h : RR σ τ) (hi : i + 4 ≤ L) (hc : cells + 42 ≤ 601024) (hs : slots + 214 ≤ 7293034) (hI : LI s E a b2 q9 σ τ f H locs) (hl : lv_has ls 9 [(0, .ref b), (1, .ref (a 0)), (2, .ref (b2 0)), (3, .ref q9), (4, .int (nI i))]) (nx : NX p l e s m below meth c cells slots Q b E a b2 q9 i) : W p l e room_1 s m #[Value.ref b] below meth c H locs cells slots Q (F0 m 741 ls []) := by
  obtain ⟨S, hK, hZ, hN, hX, hbl, hL, hfl⟩ := hC
  obtain ⟨hx, hb, hml, hown, hts⟩ := id S
  refine lv_aload_n hx hb dL_law_741 rfl (lv_at hl 1 rfl) ?_
  refine g0i (As := []) (rest := []) S (c_exams l E a σ) (cwV 0 hts gL_law_X0_exams rfl rfl rfl hdX0_exams ⟨Nat.le_of_ble_eq_true rfl, Nat.le_of_ble_eq_true rfl⟩) hK (gO_l hI.1) rfl hl.1 rfl (Nat.le_of_ble_eq_true rfl) ⟨by show cells ≤ 601024; omega, by show slots ≤ 7293034; omega⟩ dL_law_742 ?_
  refine lv_aload_n hx hb dL_law_745 rfl (lv_at hl 2 rfl) ?_
  refine l_ref (As := []) (rest := [.int (popc (ge σ))]) (τ' := (mThr τ 0)) S (fun sz => m_exams l E b2 τ sz h.mok) (cwV 0 hts gL_law_X1_exams rfl rfl rfl hdX1_exams ⟨Nat.le_of_ble_eq_true rfl, Nat.le_of_ble_eq_true rfl⟩) hK hI rfl hl.1 rfl (Nat.le_of_ble_eq_true rfl) ⟨by show cells ≤ 601024; omega, by show slots ≤ 7293034; omega⟩ dL_law_746 (fun H locs hI => ?_)
  refine lv_icmp_eq (tgt := 1950) hx hb dL_law_749 (by decide) (fun _ => ?_) (fun q => absurd h.xn.symm q)
  exact nx σ ((mThr τ 0)) f H locs _ _ ls (h.thr 0) hI (lv_sub hl [0, 1, 2, 3, 4] rfl) (by omega) (by omega)
set_option maxHeartbeats 4000000 in
set_option maxRecDepth 100000 in
theorem case_graded (hC : LC p l s m c b L xs E) (h : RR σ τ) (hi : i + 4 ≤ L) (hc : cells + 42 ≤ 601024) (hs : slots + 214 ≤ 7293034) (hI : LI s E a b2 q9 σ τ f H locs) (hl : lv_has ls 9 [(0, .ref b), (1, .ref (a 0)), (2, .ref (b2 0)), (3, .ref q9), (4, .int (nI i))]) (nx : NX p l e s m below meth c cells slots Q b E a b2 q9 i) : W p l e room_1 s m #[Value.ref b] below meth c H locs cells slots Q (F0 m 754 ls []) := by
  obtain ⟨S, hK, hZ, hN, hX, hbl, hL, hfl⟩ := hC
  obtain ⟨hx, hb, hml, hown, hts⟩ := id S
  refine lv_aload_n hx hb dL_law_754 rfl (lv_at hl 1 rfl) ?_
  refine g0i (As := []) (rest := []) S (c_graded l E a σ) (cwV 0 hts gL_law_X0_graded rfl rfl rfl hdX0_graded ⟨Nat.le_of_ble_eq_true rfl, Nat.le_of_ble_eq_true rfl⟩) hK (gO_l hI.1) rfl hl.1 rfl (Nat.le_of_ble_eq_true rfl) ⟨by show cells ≤ 601024; omega, by show slots ≤ 7293034; omega⟩ dL_law_755 ?_
  refine lv_aload_n hx hb dL_law_758 rfl (lv_at hl 2 rfl) ?_
  refine l_ref (As := []) (rest := [.int (gc σ)]) (τ' := (mThr τ 0)) S (fun sz => m_graded l E b2 τ sz h.mok) (cwV 0 hts gL_law_X1_graded rfl rfl rfl hdX1_graded ⟨Nat.le_of_ble_eq_true rfl, Nat.le_of_ble_eq_true rfl⟩) hK hI rfl hl.1 rfl (Nat.le_of_ble_eq_true rfl) ⟨by show cells ≤ 601024; omega, by show slots ≤ 7293034; omega⟩ dL_law_759 (fun H locs hI => ?_)
  refine lv_icmp_eq (tgt := 1950) hx hb dL_law_762 (by decide) (fun _ => ?_) (fun q => absurd h.2.2.2.2.2.2.1 q)
  exact nx σ ((mThr τ 0)) f H locs _ _ ls (h.thr 0) hI (lv_sub hl [0, 1, 2, 3, 4] rfl) (by omega) (by omega)
set_option maxHeartbeats 4000000 in
set_option maxRecDepth 100000 in
theorem case_students (hC : LC p l s m c b L xs E) (h : RR σ τ) (hi : i + 4 ≤ L) (hc : cells + 42 ≤ 601024) (hs : slots + 214 ≤ 7293034) (hI : LI s E a b2 q9 σ τ f H locs) (hl : lv_has ls 9 [(0, .ref b), (1, .ref (a 0)), (2, .ref (b2 0)), (3, .ref q9), (4, .int (nI i))]) (nx : NX p l e s m below meth c cells slots Q b E a b2 q9 i) : W p l e room_1 s m #[Value.ref b] below meth c H locs cells slots Q (F0 m 767 ls []) := by
  obtain ⟨S, hK, hZ, hN, hX, hbl, hL, hfl⟩ := hC
  obtain ⟨hx, hb, hml, hown, hts⟩ := id S
  refine lv_aload_n hx hb dL_law_767 rfl (lv_at hl 1 rfl) ?_
  refine g0i (As := []) (rest := []) S (c_students l E a σ) (cwV 0 hts gL_law_X0_students rfl rfl rfl hdX0_students ⟨Nat.le_of_ble_eq_true rfl, Nat.le_of_ble_eq_true rfl⟩) hK (gO_l hI.1) rfl hl.1 rfl (Nat.le_of_ble_eq_true rfl) ⟨by show cells ≤ 601024; omega, by show slots ≤ 7293034; omega⟩ dL_law_768 ?_
  refine lv_aload_n hx hb dL_law_771 rfl (lv_at hl 2 rfl) ?_
  refine l_ref (As := []) (rest := [.int (nI (gk σ))]) (τ' := (mThr τ 0)) S (fun sz => m_students l E b2 τ sz) (cwV 0 hts gL_law_X1_students rfl rfl rfl hdX1_students ⟨Nat.le_of_ble_eq_true rfl, Nat.le_of_ble_eq_true rfl⟩) hK hI rfl hl.1 rfl (Nat.le_of_ble_eq_true rfl) ⟨by show cells ≤ 601024; omega, by show slots ≤ 7293034; omega⟩ dL_law_772 (fun H locs hI => ?_)
  refine lv_icmp_eq (tgt := 1950) hx hb dL_law_775 (by decide) (fun _ => ?_) (fun q => absurd ((by rw [h.k])) q)
  exact nx σ ((mThr τ 0)) f H locs _ _ ls (h.thr 0) hI (lv_sub hl [0, 1, 2, 3, 4] rfl) (by omega) (by omega)
set_option maxHeartbeats 4000000 in
set_option maxRecDepth 100000 in
theorem case_atExams (hC : LC p l s m c b L xs E) (h : RR σ τ) (hi : i + 4 ≤ L) (hc : cells + 42 ≤ 601024) (hs : slots + 214 ≤ 7293034) (hI : LI s E a b2 q9 σ τ f H locs) (hl : lv_has ls 9 [(0, .ref b), (1, .ref (a 0)), (2, .ref (b2 0)), (3, .ref q9), (4, .int (nI i))]) (nx : NX p l e s m below meth c cells slots Q b E a b2 q9 i) : W p l e room_1 s m #[Value.ref b] below meth c H locs cells slots Q (F0 m 780 ls []) := by
  obtain ⟨S, hK, hZ, hN, hX, hbl, hL, hfl⟩ := hC
  obtain ⟨hx, hb, hml, hown, hts⟩ := id S
  refine lv_aload_n hx hb dL_law_780 rfl (lv_at hl 1 rfl) ?_
  refine g0i (As := []) (rest := []) S (c_atExams l E a σ h.gok) (cwV 0 hts gL_law_X0_atExams rfl rfl rfl hdX0_atExams ⟨Nat.le_of_ble_eq_true rfl, Nat.le_of_ble_eq_true rfl⟩) hK (gO_l hI.1) rfl hl.1 rfl (Nat.le_of_ble_eq_true rfl) ⟨by show cells ≤ 601024; omega, by show slots ≤ 7293034; omega⟩ dL_law_781 ?_
  refine lv_aload_n hx hb dL_law_784 rfl (lv_at hl 2 rfl) ?_
  refine l_ref (As := []) (rest := [.int (gAtE σ)]) (τ' := (mThr τ 0)) S (fun sz => m_atExams l E b2 τ sz h.mok) (cwV 0 hts gL_law_X1_atExams rfl rfl rfl hdX1_atExams ⟨Nat.le_of_ble_eq_true rfl, Nat.le_of_ble_eq_true rfl⟩) hK hI rfl hl.1 rfl (Nat.le_of_ble_eq_true rfl) ⟨by show cells ≤ 601024; omega, by show slots ≤ 7293034; omega⟩ dL_law_785 (fun H locs hI => ?_)
  refine lv_icmp_eq (tgt := 1950) hx hb dL_law_788 (by decide) (fun _ => ?_) (fun q => absurd h.at.symm q)
  exact nx σ ((mThr τ 0)) f H locs _ _ ls (h.thr 0) hI (lv_sub hl [0, 1, 2, 3, 4] rfl) (by omega) (by omega)
set_option maxHeartbeats 4000000 in
set_option maxRecDepth 100000 in
theorem case_isExam (hC : LC p l s m c b L xs E) (h : RR σ τ) (hi : i + 4 ≤ L) (hc : cells + 42 ≤ 601024) (hs : slots + 214 ≤ 7293034) (hI : LI s E a b2 q9 σ τ f H locs) (hl : lv_has ls 9 [(0, .ref b), (1, .ref (a 0)), (2, .ref (b2 0)), (3, .ref q9), (4, .int (nI i))]) (nx : NX p l e s m below meth c cells slots Q b E a b2 q9 i) : W p l e room_1 s m #[Value.ref b] below meth c H locs cells slots Q (F0 m 793 ls []) := by
  obtain ⟨S, hK, hZ, hN, hX, hbl, hL, hfl⟩ := hC
  obtain ⟨hx, hb, hml, hown, hts⟩ := id S
  obtain ⟨k, v, σ', τ', f', hw, hm, ht, hp, hr⟩ := op_isExam l hfl E a b2 σ τ h q9 f (xs (i + 1))
  refine lv_aload_n hx hb dL_law_793 rfl (lv_at hl 1 rfl) ?_
  refine lv_aload_n hx hb dL_law_794 rfl (lv_at hl 0 rfl) ?_
  refine lv_iload hx hb dL_law_795 (lv_at hl 4 rfl) ?_
  refine lv_iconst (v := 1) hx hb dL_law_797 (by decide) ?_
  refine lv_iadd hx hb dL_law_798 ?_
  rw [show (nI i + 1 : Int32) = nI (i + 1) from nI_add _ 1]
  refine va_sld hx hb hX hbl (Nat.not_le.mpr hbl) hI.2.2.2 (i := nI (i + 1)) (vp_in_nI (by omega) (by omega)) dL_law_799 ?_
  rw [nI_clamp (by omega)]
  refine lv_aload_n hx hb dL_law_800 rfl (lv_at hl 3 rfl) ?_
  refine l_own (As := [.ref (a 0), .int (xs (i + 1)), .ref q9]) (rest := []) (σ' := σ') (f' := f') S hw (vx_cwSW 3 hts gL_law_L_isExam rfl rfl rfl hdL_isExam ⟨Nat.le_of_ble_eq_true rfl, Nat.le_of_ble_eq_true rfl⟩) hK hZ hN hI rfl hl.1 rfl (Nat.le_of_ble_eq_true rfl) ⟨by show cells + 1 ≤ 601024; omega, by show slots + 6 ≤ 7293034; omega⟩ dL_law_801 (fun H locs hI => ?_)
  refine lv_istore (lv' := [(5, .int k), (0, .ref b), (1, .ref (a 0)), (2, .ref (b2 0)), (3, .ref q9), (4, .int (nI i))]) hx hb dL_law_804 hl (by decide) rfl (fun ls hl => ?_)
  refine lv_aload_n hx hb dL_law_806 rfl (lv_at hl 3 rfl) ?_
  refine lv_aload_n hx hb dL_law_807 rfl (lv_at hl 1 rfl) ?_
  refine lv_iload hx hb dL_law_808 (lv_at hl 5 rfl) ?_
  refine lv_iconst (v := 1) hx hb dL_law_810 (by decide) ?_
  refine lv_iadd hx hb dL_law_811 ?_
  rw [show (nI i + 1 : Int32) = nI (i + 1) from nI_add _ 1]
  refine va_sld hx hb hX hbl (Nat.not_le.mpr hbl) hI.2.2.2 (i := nI (i + 1)) (vp_in_nI (by omega) (by omega)) dL_law_812 ?_
  rw [nI_clamp (by omega)]
  refine l_ref (As := [.int (xs (i + 1))]) (rest := []) (τ' := τ') S hm (cwV 1 hts gL_law_X1_isExam rfl rfl rfl hdX1_isExam ⟨Nat.le_of_ble_eq_true rfl, Nat.le_of_ble_eq_true rfl⟩) hK hI rfl hl.1 rfl (Nat.le_of_ble_eq_true rfl) ⟨by show cells + 1 ≤ 601024; omega, by show slots + 6 ≤ 7293034; omega⟩ dL_law_813 (fun H locs hI => ?_)
  refine lv_istore (lv' := [(6, .int v), (5, .int k), (0, .ref b), (1, .ref (a 0)), (2, .ref (b2 0)), (3, .ref q9), (4, .int (nI i))]) hx hb dL_law_816 hl (by decide) rfl (fun ls hl => ?_)
  refine lv_aload_n hx hb dL_law_818 rfl (lv_at hl 4 rfl) ?_
  refine m0i (As := []) (rest := []) S (m_thrown l E b2 τ') (cwV 0 hts gL_law_X1_thrown rfl rfl rfl hdX1_thrown ⟨Nat.le_of_ble_eq_true rfl, Nat.le_of_ble_eq_true rfl⟩) hK hI.2.1 rfl hl.1 rfl (Nat.le_of_ble_eq_true rfl) ⟨by show cells + 1 ≤ 601024; omega, by show slots + 6 ≤ 7293034; omega⟩ dL_law_819 ?_
  refine lv_iload hx hb dL_law_822 (lv_at hl 1 rfl) ?_
  refine lv_icmp_eq (tgt := 829) hx hb dL_law_824 (by decide) (fun _ => ?_) (fun q => absurd ht q)
  refine lv_iload hx hb dL_law_829 (lv_at hl 1 rfl) ?_
  refine lv_if_ne (tgt := 853) hx hb dL_law_831 (by decide) (fun c831 => ?_) (fun c831 => ?_)
  · refine lv_goto (tgt := 1950) hx hb dL_law_853 (by decide) ?_
    exact nx σ' τ' f' H locs _ _ ls hr hI (lv_sub hl [2, 3, 4, 5, 6] rfl) (by omega) (by omega)
  · obtain ⟨x, hv, ho⟩ := hp c831
    refine lv_aload_n hx hb dL_law_834 rfl (lv_at hl 5 rfl) ?_
    refine lv_iconst (v := 0) hx hb dL_law_835 (by decide) ?_
    refine g_lld hx hb hK hI.1 14 rfl (i := nI 0) (v := f' 0) (vp_in_nI (by decide) (by decide)) (by rw [nI_clamp (by decide)]) dL_law_836 ?_
    refine lv_iload hx hb dL_law_837 (lv_at hl 0 rfl) ?_
    refine lv_if_eq (tgt := 846) hx hb dL_law_839 (by decide) (fun c839 => ?_) (fun c839 => ?_)
    · refine lv_lconst (v := 0) hx hb dL_law_846 (by decide) ?_
      refine W.lcmp hx hb dL_law_847 ?_
      refine lv_if_eq (tgt := 853) hx hb dL_law_848 (by decide) (fun _ => ?_) (fun q => absurd ((by first | (rw [ho, bl, b2i_eq0.mp (show b2i x = 0 from hv ▸ c839)]; exact lg_self _) | (rw [ho, bl, b2i_ne0.mp (show ¬ b2i x = 0 from hv ▸ c839)]; exact lg_self _))) q)
      refine lv_goto (tgt := 1950) hx hb dL_law_853 (by decide) ?_
      exact nx σ' τ' f' H locs _ _ ls hr hI (lv_sub hl [2, 3, 4, 5, 6] rfl) (by omega) (by omega)
    · refine lv_lconst (v := 1) hx hb dL_law_842 (by decide) ?_
      refine lv_goto (tgt := 847) hx hb dL_law_843 (by decide) ?_
      refine W.lcmp hx hb dL_law_847 ?_
      refine lv_if_eq (tgt := 853) hx hb dL_law_848 (by decide) (fun _ => ?_) (fun q => absurd ((by first | (rw [ho, bl, b2i_eq0.mp (show b2i x = 0 from hv ▸ c839)]; exact lg_self _) | (rw [ho, bl, b2i_ne0.mp (show ¬ b2i x = 0 from hv ▸ c839)]; exact lg_self _))) q)
      refine lv_goto (tgt := 1950) hx hb dL_law_853 (by decide) ?_
      exact nx σ' τ' f' H locs _ _ ls hr hI (lv_sub hl [2, 3, 4, 5, 6] rfl) (by omega) (by omega)
set_option maxHeartbeats 4000000 in
set_option maxRecDepth 100000 in
theorem case_isGraded (hC : LC p l s m c b L xs E) (h : RR σ τ) (hi : i + 4 ≤ L) (hc : cells + 42 ≤ 601024) (hs : slots + 214 ≤ 7293034) (hI : LI s E a b2 q9 σ τ f H locs) (hl : lv_has ls 9 [(0, .ref b), (1, .ref (a 0)), (2, .ref (b2 0)), (3, .ref q9), (4, .int (nI i))]) (nx : NX p l e s m below meth c cells slots Q b E a b2 q9 i) : W p l e room_1 s m #[Value.ref b] below meth c H locs cells slots Q (F0 m 856 ls []) := by
  obtain ⟨S, hK, hZ, hN, hX, hbl, hL, hfl⟩ := hC
  obtain ⟨hx, hb, hml, hown, hts⟩ := id S
  obtain ⟨k, v, σ', τ', f', hw, hm, ht, hp, hr⟩ := op_isGraded l hfl E a b2 σ τ h q9 f (xs (i + 1))
  refine lv_aload_n hx hb dL_law_856 rfl (lv_at hl 1 rfl) ?_
  refine lv_aload_n hx hb dL_law_857 rfl (lv_at hl 0 rfl) ?_
  refine lv_iload hx hb dL_law_858 (lv_at hl 4 rfl) ?_
  refine lv_iconst (v := 1) hx hb dL_law_860 (by decide) ?_
  refine lv_iadd hx hb dL_law_861 ?_
  rw [show (nI i + 1 : Int32) = nI (i + 1) from nI_add _ 1]
  refine va_sld hx hb hX hbl (Nat.not_le.mpr hbl) hI.2.2.2 (i := nI (i + 1)) (vp_in_nI (by omega) (by omega)) dL_law_862 ?_
  rw [nI_clamp (by omega)]
  refine lv_aload_n hx hb dL_law_863 rfl (lv_at hl 3 rfl) ?_
  refine l_own (As := [.ref (a 0), .int (xs (i + 1)), .ref q9]) (rest := []) (σ' := σ') (f' := f') S hw (vx_cwSW 3 hts gL_law_L_isGraded rfl rfl rfl hdL_isGraded ⟨Nat.le_of_ble_eq_true rfl, Nat.le_of_ble_eq_true rfl⟩) hK hZ hN hI rfl hl.1 rfl (Nat.le_of_ble_eq_true rfl) ⟨by show cells + 1 ≤ 601024; omega, by show slots + 6 ≤ 7293034; omega⟩ dL_law_864 (fun H locs hI => ?_)
  refine lv_istore (lv' := [(5, .int k), (0, .ref b), (1, .ref (a 0)), (2, .ref (b2 0)), (3, .ref q9), (4, .int (nI i))]) hx hb dL_law_867 hl (by decide) rfl (fun ls hl => ?_)
  refine lv_aload_n hx hb dL_law_869 rfl (lv_at hl 3 rfl) ?_
  refine lv_aload_n hx hb dL_law_870 rfl (lv_at hl 1 rfl) ?_
  refine lv_iload hx hb dL_law_871 (lv_at hl 5 rfl) ?_
  refine lv_iconst (v := 1) hx hb dL_law_873 (by decide) ?_
  refine lv_iadd hx hb dL_law_874 ?_
  rw [show (nI i + 1 : Int32) = nI (i + 1) from nI_add _ 1]
  refine va_sld hx hb hX hbl (Nat.not_le.mpr hbl) hI.2.2.2 (i := nI (i + 1)) (vp_in_nI (by omega) (by omega)) dL_law_875 ?_
  rw [nI_clamp (by omega)]
  refine l_ref (As := [.int (xs (i + 1))]) (rest := []) (τ' := τ') S hm (cwV 1 hts gL_law_X1_isGraded rfl rfl rfl hdX1_isGraded ⟨Nat.le_of_ble_eq_true rfl, Nat.le_of_ble_eq_true rfl⟩) hK hI rfl hl.1 rfl (Nat.le_of_ble_eq_true rfl) ⟨by show cells + 1 ≤ 601024; omega, by show slots + 6 ≤ 7293034; omega⟩ dL_law_876 (fun H locs hI => ?_)
  refine lv_istore (lv' := [(6, .int v), (5, .int k), (0, .ref b), (1, .ref (a 0)), (2, .ref (b2 0)), (3, .ref q9), (4, .int (nI i))]) hx hb dL_law_879 hl (by decide) rfl (fun ls hl => ?_)
  refine lv_aload_n hx hb dL_law_881 rfl (lv_at hl 4 rfl) ?_
  refine m0i (As := []) (rest := []) S (m_thrown l E b2 τ') (cwV 0 hts gL_law_X1_thrown rfl rfl rfl hdX1_thrown ⟨Nat.le_of_ble_eq_true rfl, Nat.le_of_ble_eq_true rfl⟩) hK hI.2.1 rfl hl.1 rfl (Nat.le_of_ble_eq_true rfl) ⟨by show cells + 1 ≤ 601024; omega, by show slots + 6 ≤ 7293034; omega⟩ dL_law_882 ?_
  refine lv_iload hx hb dL_law_885 (lv_at hl 1 rfl) ?_
  refine lv_icmp_eq (tgt := 892) hx hb dL_law_887 (by decide) (fun _ => ?_) (fun q => absurd ht q)
  refine lv_iload hx hb dL_law_892 (lv_at hl 1 rfl) ?_
  refine lv_if_ne (tgt := 916) hx hb dL_law_894 (by decide) (fun c894 => ?_) (fun c894 => ?_)
  · refine lv_goto (tgt := 1950) hx hb dL_law_916 (by decide) ?_
    exact nx σ' τ' f' H locs _ _ ls hr hI (lv_sub hl [2, 3, 4, 5, 6] rfl) (by omega) (by omega)
  · obtain ⟨x, hv, ho⟩ := hp c894
    refine lv_aload_n hx hb dL_law_897 rfl (lv_at hl 5 rfl) ?_
    refine lv_iconst (v := 0) hx hb dL_law_898 (by decide) ?_
    refine g_lld hx hb hK hI.1 14 rfl (i := nI 0) (v := f' 0) (vp_in_nI (by decide) (by decide)) (by rw [nI_clamp (by decide)]) dL_law_899 ?_
    refine lv_iload hx hb dL_law_900 (lv_at hl 0 rfl) ?_
    refine lv_if_eq (tgt := 909) hx hb dL_law_902 (by decide) (fun c902 => ?_) (fun c902 => ?_)
    · refine lv_lconst (v := 0) hx hb dL_law_909 (by decide) ?_
      refine W.lcmp hx hb dL_law_910 ?_
      refine lv_if_eq (tgt := 916) hx hb dL_law_911 (by decide) (fun _ => ?_) (fun q => absurd ((by first | (rw [ho, bl, b2i_eq0.mp (show b2i x = 0 from hv ▸ c902)]; exact lg_self _) | (rw [ho, bl, b2i_ne0.mp (show ¬ b2i x = 0 from hv ▸ c902)]; exact lg_self _))) q)
      refine lv_goto (tgt := 1950) hx hb dL_law_916 (by decide) ?_
      exact nx σ' τ' f' H locs _ _ ls hr hI (lv_sub hl [2, 3, 4, 5, 6] rfl) (by omega) (by omega)
    · refine lv_lconst (v := 1) hx hb dL_law_905 (by decide) ?_
      refine lv_goto (tgt := 910) hx hb dL_law_906 (by decide) ?_
      refine W.lcmp hx hb dL_law_910 ?_
      refine lv_if_eq (tgt := 916) hx hb dL_law_911 (by decide) (fun _ => ?_) (fun q => absurd ((by first | (rw [ho, bl, b2i_eq0.mp (show b2i x = 0 from hv ▸ c902)]; exact lg_self _) | (rw [ho, bl, b2i_ne0.mp (show ¬ b2i x = 0 from hv ▸ c902)]; exact lg_self _))) q)
      refine lv_goto (tgt := 1950) hx hb dL_law_916 (by decide) ?_
      exact nx σ' τ' f' H locs _ _ ls hr hI (lv_sub hl [2, 3, 4, 5, 6] rfl) (by omega) (by omega)
set_option maxHeartbeats 4000000 in
set_option maxRecDepth 100000 in
theorem case_gradeOf (hC : LC p l s m c b L xs E) (h : RR σ τ) (hi : i + 4 ≤ L) (hc : cells + 42 ≤ 601024) (hs : slots + 214 ≤ 7293034) (hI : LI s E a b2 q9 σ τ f H locs) (hl : lv_has ls 9 [(0, .ref b), (1, .ref (a 0)), (2, .ref (b2 0)), (3, .ref q9), (4, .int (nI i))]) (nx : NX p l e s m below meth c cells slots Q b E a b2 q9 i) : W p l e room_1 s m #[Value.ref b] below meth c H locs cells slots Q (F0 m 919 ls []) := by
  obtain ⟨S, hK, hZ, hN, hX, hbl, hL, hfl⟩ := hC
  obtain ⟨hx, hb, hml, hown, hts⟩ := id S
  obtain ⟨k, v, σ', τ', f', hw, hm, ht, hp, hr⟩ := op_gradeOf l hfl E a b2 σ τ h q9 f (xs (i + 1))
  refine lv_aload_n hx hb dL_law_919 rfl (lv_at hl 1 rfl) ?_
  refine lv_aload_n hx hb dL_law_920 rfl (lv_at hl 0 rfl) ?_
  refine lv_iload hx hb dL_law_921 (lv_at hl 4 rfl) ?_
  refine lv_iconst (v := 1) hx hb dL_law_923 (by decide) ?_
  refine lv_iadd hx hb dL_law_924 ?_
  rw [show (nI i + 1 : Int32) = nI (i + 1) from nI_add _ 1]
  refine va_sld hx hb hX hbl (Nat.not_le.mpr hbl) hI.2.2.2 (i := nI (i + 1)) (vp_in_nI (by omega) (by omega)) dL_law_925 ?_
  rw [nI_clamp (by omega)]
  refine lv_aload_n hx hb dL_law_926 rfl (lv_at hl 3 rfl) ?_
  refine l_own (As := [.ref (a 0), .int (xs (i + 1)), .ref q9]) (rest := []) (σ' := σ') (f' := f') S hw (vx_cwSW 3 hts gL_law_L_gradeOf rfl rfl rfl hdL_gradeOf ⟨Nat.le_of_ble_eq_true rfl, Nat.le_of_ble_eq_true rfl⟩) hK hZ hN hI rfl hl.1 rfl (Nat.le_of_ble_eq_true rfl) ⟨by show cells + 1 ≤ 601024; omega, by show slots + 6 ≤ 7293034; omega⟩ dL_law_927 (fun H locs hI => ?_)
  refine lv_istore (lv' := [(5, .int k), (0, .ref b), (1, .ref (a 0)), (2, .ref (b2 0)), (3, .ref q9), (4, .int (nI i))]) hx hb dL_law_930 hl (by decide) rfl (fun ls hl => ?_)
  refine lv_aload_n hx hb dL_law_932 rfl (lv_at hl 3 rfl) ?_
  refine lv_aload_n hx hb dL_law_933 rfl (lv_at hl 1 rfl) ?_
  refine lv_iload hx hb dL_law_934 (lv_at hl 5 rfl) ?_
  refine lv_iconst (v := 1) hx hb dL_law_936 (by decide) ?_
  refine lv_iadd hx hb dL_law_937 ?_
  rw [show (nI i + 1 : Int32) = nI (i + 1) from nI_add _ 1]
  refine va_sld hx hb hX hbl (Nat.not_le.mpr hbl) hI.2.2.2 (i := nI (i + 1)) (vp_in_nI (by omega) (by omega)) dL_law_938 ?_
  rw [nI_clamp (by omega)]
  refine l_ref (As := [.int (xs (i + 1))]) (rest := []) (τ' := τ') S hm (cwV 1 hts gL_law_X1_gradeOf rfl rfl rfl hdX1_gradeOf ⟨Nat.le_of_ble_eq_true rfl, Nat.le_of_ble_eq_true rfl⟩) hK hI rfl hl.1 rfl (Nat.le_of_ble_eq_true rfl) ⟨by show cells + 1 ≤ 601024; omega, by show slots + 6 ≤ 7293034; omega⟩ dL_law_939 (fun H locs hI => ?_)
  refine lv_istore (lv' := [(6, .int v), (5, .int k), (0, .ref b), (1, .ref (a 0)), (2, .ref (b2 0)), (3, .ref q9), (4, .int (nI i))]) hx hb dL_law_942 hl (by decide) rfl (fun ls hl => ?_)
  refine lv_aload_n hx hb dL_law_944 rfl (lv_at hl 4 rfl) ?_
  refine m0i (As := []) (rest := []) S (m_thrown l E b2 τ') (cwV 0 hts gL_law_X1_thrown rfl rfl rfl hdX1_thrown ⟨Nat.le_of_ble_eq_true rfl, Nat.le_of_ble_eq_true rfl⟩) hK hI.2.1 rfl hl.1 rfl (Nat.le_of_ble_eq_true rfl) ⟨by show cells + 1 ≤ 601024; omega, by show slots + 6 ≤ 7293034; omega⟩ dL_law_945 ?_
  refine lv_iload hx hb dL_law_948 (lv_at hl 1 rfl) ?_
  refine lv_icmp_eq (tgt := 955) hx hb dL_law_950 (by decide) (fun _ => ?_) (fun q => absurd ht q)
  refine lv_iload hx hb dL_law_955 (lv_at hl 1 rfl) ?_
  refine lv_if_ne (tgt := 972) hx hb dL_law_957 (by decide) (fun c957 => ?_) (fun c957 => ?_)
  · refine lv_goto (tgt := 1950) hx hb dL_law_972 (by decide) ?_
    exact nx σ' τ' f' H locs _ _ ls hr hI (lv_sub hl [2, 3, 4, 5, 6] rfl) (by omega) (by omega)
  · refine lv_aload_n hx hb dL_law_960 rfl (lv_at hl 5 rfl) ?_
    refine lv_iconst (v := 0) hx hb dL_law_961 (by decide) ?_
    refine g_lld hx hb hK hI.1 14 rfl (i := nI 0) (v := f' 0) (vp_in_nI (by decide) (by decide)) (by rw [nI_clamp (by decide)]) dL_law_962 ?_
    refine lv_iload hx hb dL_law_963 (lv_at hl 0 rfl) ?_
    refine lv_i2l hx hb dL_law_965 rfl ?_
    refine W.lcmp hx hb dL_law_966 ?_
    refine lv_if_eq (tgt := 972) hx hb dL_law_967 (by decide) (fun _ => ?_) (fun q => absurd ((by rw [show f' 0 = v.toInt64 from hp c957]; exact lg_self _)) q)
    refine lv_goto (tgt := 1950) hx hb dL_law_972 (by decide) ?_
    exact nx σ' τ' f' H locs _ _ ls hr hI (lv_sub hl [2, 3, 4, 5, 6] rfl) (by omega) (by omega)
set_option maxHeartbeats 4000000 in
set_option maxRecDepth 100000 in
theorem case_leftOf (hC : LC p l s m c b L xs E) (h : RR σ τ) (hi : i + 4 ≤ L) (hc : cells + 42 ≤ 601024) (hs : slots + 214 ≤ 7293034) (hI : LI s E a b2 q9 σ τ f H locs) (hl : lv_has ls 9 [(0, .ref b), (1, .ref (a 0)), (2, .ref (b2 0)), (3, .ref q9), (4, .int (nI i))]) (nx : NX p l e s m below meth c cells slots Q b E a b2 q9 i) : W p l e room_1 s m #[Value.ref b] below meth c H locs cells slots Q (F0 m 975 ls []) := by
  obtain ⟨S, hK, hZ, hN, hX, hbl, hL, hfl⟩ := hC
  obtain ⟨hx, hb, hml, hown, hts⟩ := id S
  obtain ⟨k, v, σ', τ', f', hw, hm, ht, hp, hr⟩ := op_leftOf l hfl E a b2 σ τ h q9 f (xs (i + 1))
  refine lv_aload_n hx hb dL_law_975 rfl (lv_at hl 1 rfl) ?_
  refine lv_aload_n hx hb dL_law_976 rfl (lv_at hl 0 rfl) ?_
  refine lv_iload hx hb dL_law_977 (lv_at hl 4 rfl) ?_
  refine lv_iconst (v := 1) hx hb dL_law_979 (by decide) ?_
  refine lv_iadd hx hb dL_law_980 ?_
  rw [show (nI i + 1 : Int32) = nI (i + 1) from nI_add _ 1]
  refine va_sld hx hb hX hbl (Nat.not_le.mpr hbl) hI.2.2.2 (i := nI (i + 1)) (vp_in_nI (by omega) (by omega)) dL_law_981 ?_
  rw [nI_clamp (by omega)]
  refine lv_aload_n hx hb dL_law_982 rfl (lv_at hl 3 rfl) ?_
  refine l_own (As := [.ref (a 0), .int (xs (i + 1)), .ref q9]) (rest := []) (σ' := σ') (f' := f') S hw (vx_cwSW 3 hts gL_law_L_leftOf rfl rfl rfl hdL_leftOf ⟨Nat.le_of_ble_eq_true rfl, Nat.le_of_ble_eq_true rfl⟩) hK hZ hN hI rfl hl.1 rfl (Nat.le_of_ble_eq_true rfl) ⟨by show cells + 1 ≤ 601024; omega, by show slots + 6 ≤ 7293034; omega⟩ dL_law_983 (fun H locs hI => ?_)
  refine lv_istore (lv' := [(5, .int k), (0, .ref b), (1, .ref (a 0)), (2, .ref (b2 0)), (3, .ref q9), (4, .int (nI i))]) hx hb dL_law_986 hl (by decide) rfl (fun ls hl => ?_)
  refine lv_aload_n hx hb dL_law_988 rfl (lv_at hl 3 rfl) ?_
  refine lv_aload_n hx hb dL_law_989 rfl (lv_at hl 1 rfl) ?_
  refine lv_iload hx hb dL_law_990 (lv_at hl 5 rfl) ?_
  refine lv_iconst (v := 1) hx hb dL_law_992 (by decide) ?_
  refine lv_iadd hx hb dL_law_993 ?_
  rw [show (nI i + 1 : Int32) = nI (i + 1) from nI_add _ 1]
  refine va_sld hx hb hX hbl (Nat.not_le.mpr hbl) hI.2.2.2 (i := nI (i + 1)) (vp_in_nI (by omega) (by omega)) dL_law_994 ?_
  rw [nI_clamp (by omega)]
  refine l_ref (As := [.int (xs (i + 1))]) (rest := []) (τ' := τ') S hm (cwV 1 hts gL_law_X1_leftOf rfl rfl rfl hdX1_leftOf ⟨Nat.le_of_ble_eq_true rfl, Nat.le_of_ble_eq_true rfl⟩) hK hI rfl hl.1 rfl (Nat.le_of_ble_eq_true rfl) ⟨by show cells + 1 ≤ 601024; omega, by show slots + 6 ≤ 7293034; omega⟩ dL_law_995 (fun H locs hI => ?_)
  refine lv_istore (lv' := [(6, .int v), (5, .int k), (0, .ref b), (1, .ref (a 0)), (2, .ref (b2 0)), (3, .ref q9), (4, .int (nI i))]) hx hb dL_law_998 hl (by decide) rfl (fun ls hl => ?_)
  refine lv_aload_n hx hb dL_law_1000 rfl (lv_at hl 4 rfl) ?_
  refine m0i (As := []) (rest := []) S (m_thrown l E b2 τ') (cwV 0 hts gL_law_X1_thrown rfl rfl rfl hdX1_thrown ⟨Nat.le_of_ble_eq_true rfl, Nat.le_of_ble_eq_true rfl⟩) hK hI.2.1 rfl hl.1 rfl (Nat.le_of_ble_eq_true rfl) ⟨by show cells + 1 ≤ 601024; omega, by show slots + 6 ≤ 7293034; omega⟩ dL_law_1001 ?_
  refine lv_iload hx hb dL_law_1004 (lv_at hl 1 rfl) ?_
  refine lv_icmp_eq (tgt := 1011) hx hb dL_law_1006 (by decide) (fun _ => ?_) (fun q => absurd ht q)
  refine lv_iload hx hb dL_law_1011 (lv_at hl 1 rfl) ?_
  refine lv_if_ne (tgt := 1028) hx hb dL_law_1013 (by decide) (fun c1013 => ?_) (fun c1013 => ?_)
  · refine lv_goto (tgt := 1950) hx hb dL_law_1028 (by decide) ?_
    exact nx σ' τ' f' H locs _ _ ls hr hI (lv_sub hl [2, 3, 4, 5, 6] rfl) (by omega) (by omega)
  · refine lv_aload_n hx hb dL_law_1016 rfl (lv_at hl 5 rfl) ?_
    refine lv_iconst (v := 0) hx hb dL_law_1017 (by decide) ?_
    refine g_lld hx hb hK hI.1 14 rfl (i := nI 0) (v := f' 0) (vp_in_nI (by decide) (by decide)) (by rw [nI_clamp (by decide)]) dL_law_1018 ?_
    refine lv_iload hx hb dL_law_1019 (lv_at hl 0 rfl) ?_
    refine lv_i2l hx hb dL_law_1021 rfl ?_
    refine W.lcmp hx hb dL_law_1022 ?_
    refine lv_if_eq (tgt := 1028) hx hb dL_law_1023 (by decide) (fun _ => ?_) (fun q => absurd ((by rw [show f' 0 = v.toInt64 from hp c1013]; exact lg_self _)) q)
    refine lv_goto (tgt := 1950) hx hb dL_law_1028 (by decide) ?_
    exact nx σ' τ' f' H locs _ _ ls hr hI (lv_sub hl [2, 3, 4, 5, 6] rfl) (by omega) (by omega)
set_option maxHeartbeats 4000000 in
set_option maxRecDepth 100000 in
theorem case_rightOf (hC : LC p l s m c b L xs E) (h : RR σ τ) (hi : i + 4 ≤ L) (hc : cells + 42 ≤ 601024) (hs : slots + 214 ≤ 7293034) (hI : LI s E a b2 q9 σ τ f H locs) (hl : lv_has ls 9 [(0, .ref b), (1, .ref (a 0)), (2, .ref (b2 0)), (3, .ref q9), (4, .int (nI i))]) (nx : NX p l e s m below meth c cells slots Q b E a b2 q9 i) : W p l e room_1 s m #[Value.ref b] below meth c H locs cells slots Q (F0 m 1031 ls []) := by
  obtain ⟨S, hK, hZ, hN, hX, hbl, hL, hfl⟩ := hC
  obtain ⟨hx, hb, hml, hown, hts⟩ := id S
  obtain ⟨k, v, σ', τ', f', hw, hm, ht, hp, hr⟩ := op_rightOf l hfl E a b2 σ τ h q9 f (xs (i + 1))
  refine lv_aload_n hx hb dL_law_1031 rfl (lv_at hl 1 rfl) ?_
  refine lv_aload_n hx hb dL_law_1032 rfl (lv_at hl 0 rfl) ?_
  refine lv_iload hx hb dL_law_1033 (lv_at hl 4 rfl) ?_
  refine lv_iconst (v := 1) hx hb dL_law_1035 (by decide) ?_
  refine lv_iadd hx hb dL_law_1036 ?_
  rw [show (nI i + 1 : Int32) = nI (i + 1) from nI_add _ 1]
  refine va_sld hx hb hX hbl (Nat.not_le.mpr hbl) hI.2.2.2 (i := nI (i + 1)) (vp_in_nI (by omega) (by omega)) dL_law_1037 ?_
  rw [nI_clamp (by omega)]
  refine lv_aload_n hx hb dL_law_1038 rfl (lv_at hl 3 rfl) ?_
  refine l_own (As := [.ref (a 0), .int (xs (i + 1)), .ref q9]) (rest := []) (σ' := σ') (f' := f') S hw (vx_cwSW 3 hts gL_law_L_rightOf rfl rfl rfl hdL_rightOf ⟨Nat.le_of_ble_eq_true rfl, Nat.le_of_ble_eq_true rfl⟩) hK hZ hN hI rfl hl.1 rfl (Nat.le_of_ble_eq_true rfl) ⟨by show cells + 1 ≤ 601024; omega, by show slots + 6 ≤ 7293034; omega⟩ dL_law_1039 (fun H locs hI => ?_)
  refine lv_istore (lv' := [(5, .int k), (0, .ref b), (1, .ref (a 0)), (2, .ref (b2 0)), (3, .ref q9), (4, .int (nI i))]) hx hb dL_law_1042 hl (by decide) rfl (fun ls hl => ?_)
  refine lv_aload_n hx hb dL_law_1044 rfl (lv_at hl 3 rfl) ?_
  refine lv_aload_n hx hb dL_law_1045 rfl (lv_at hl 1 rfl) ?_
  refine lv_iload hx hb dL_law_1046 (lv_at hl 5 rfl) ?_
  refine lv_iconst (v := 1) hx hb dL_law_1048 (by decide) ?_
  refine lv_iadd hx hb dL_law_1049 ?_
  rw [show (nI i + 1 : Int32) = nI (i + 1) from nI_add _ 1]
  refine va_sld hx hb hX hbl (Nat.not_le.mpr hbl) hI.2.2.2 (i := nI (i + 1)) (vp_in_nI (by omega) (by omega)) dL_law_1050 ?_
  rw [nI_clamp (by omega)]
  refine l_ref (As := [.int (xs (i + 1))]) (rest := []) (τ' := τ') S hm (cwV 1 hts gL_law_X1_rightOf rfl rfl rfl hdX1_rightOf ⟨Nat.le_of_ble_eq_true rfl, Nat.le_of_ble_eq_true rfl⟩) hK hI rfl hl.1 rfl (Nat.le_of_ble_eq_true rfl) ⟨by show cells + 1 ≤ 601024; omega, by show slots + 6 ≤ 7293034; omega⟩ dL_law_1051 (fun H locs hI => ?_)
  refine lv_istore (lv' := [(6, .int v), (5, .int k), (0, .ref b), (1, .ref (a 0)), (2, .ref (b2 0)), (3, .ref q9), (4, .int (nI i))]) hx hb dL_law_1054 hl (by decide) rfl (fun ls hl => ?_)
  refine lv_aload_n hx hb dL_law_1056 rfl (lv_at hl 4 rfl) ?_
  refine m0i (As := []) (rest := []) S (m_thrown l E b2 τ') (cwV 0 hts gL_law_X1_thrown rfl rfl rfl hdX1_thrown ⟨Nat.le_of_ble_eq_true rfl, Nat.le_of_ble_eq_true rfl⟩) hK hI.2.1 rfl hl.1 rfl (Nat.le_of_ble_eq_true rfl) ⟨by show cells + 1 ≤ 601024; omega, by show slots + 6 ≤ 7293034; omega⟩ dL_law_1057 ?_
  refine lv_iload hx hb dL_law_1060 (lv_at hl 1 rfl) ?_
  refine lv_icmp_eq (tgt := 1067) hx hb dL_law_1062 (by decide) (fun _ => ?_) (fun q => absurd ht q)
  refine lv_iload hx hb dL_law_1067 (lv_at hl 1 rfl) ?_
  refine lv_if_ne (tgt := 1084) hx hb dL_law_1069 (by decide) (fun c1069 => ?_) (fun c1069 => ?_)
  · refine lv_goto (tgt := 1950) hx hb dL_law_1084 (by decide) ?_
    exact nx σ' τ' f' H locs _ _ ls hr hI (lv_sub hl [2, 3, 4, 5, 6] rfl) (by omega) (by omega)
  · refine lv_aload_n hx hb dL_law_1072 rfl (lv_at hl 5 rfl) ?_
    refine lv_iconst (v := 0) hx hb dL_law_1073 (by decide) ?_
    refine g_lld hx hb hK hI.1 14 rfl (i := nI 0) (v := f' 0) (vp_in_nI (by decide) (by decide)) (by rw [nI_clamp (by decide)]) dL_law_1074 ?_
    refine lv_iload hx hb dL_law_1075 (lv_at hl 0 rfl) ?_
    refine lv_i2l hx hb dL_law_1077 rfl ?_
    refine W.lcmp hx hb dL_law_1078 ?_
    refine lv_if_eq (tgt := 1084) hx hb dL_law_1079 (by decide) (fun _ => ?_) (fun q => absurd ((by rw [show f' 0 = v.toInt64 from hp c1069]; exact lg_self _)) q)
    refine lv_goto (tgt := 1950) hx hb dL_law_1084 (by decide) ?_
    exact nx σ' τ' f' H locs _ _ ls hr hI (lv_sub hl [2, 3, 4, 5, 6] rfl) (by omega) (by omega)
set_option maxHeartbeats 4000000 in
set_option maxRecDepth 100000 in
theorem case_weightOf (hC : LC p l s m c b L xs E) (h : RR σ τ) (hi : i + 4 ≤ L) (hc : cells + 42 ≤ 601024) (hs : slots + 214 ≤ 7293034) (hI : LI s E a b2 q9 σ τ f H locs) (hl : lv_has ls 9 [(0, .ref b), (1, .ref (a 0)), (2, .ref (b2 0)), (3, .ref q9), (4, .int (nI i))]) (nx : NX p l e s m below meth c cells slots Q b E a b2 q9 i) : W p l e room_1 s m #[Value.ref b] below meth c H locs cells slots Q (F0 m 1087 ls []) := by
  obtain ⟨S, hK, hZ, hN, hX, hbl, hL, hfl⟩ := hC
  obtain ⟨hx, hb, hml, hown, hts⟩ := id S
  obtain ⟨k, v, σ', τ', f', hw, hm, ht, hp, hr⟩ := op_weightOf l hfl E a b2 σ τ h q9 f (xs (i + 1))
  refine lv_aload_n hx hb dL_law_1087 rfl (lv_at hl 1 rfl) ?_
  refine lv_aload_n hx hb dL_law_1088 rfl (lv_at hl 0 rfl) ?_
  refine lv_iload hx hb dL_law_1089 (lv_at hl 4 rfl) ?_
  refine lv_iconst (v := 1) hx hb dL_law_1091 (by decide) ?_
  refine lv_iadd hx hb dL_law_1092 ?_
  rw [show (nI i + 1 : Int32) = nI (i + 1) from nI_add _ 1]
  refine va_sld hx hb hX hbl (Nat.not_le.mpr hbl) hI.2.2.2 (i := nI (i + 1)) (vp_in_nI (by omega) (by omega)) dL_law_1093 ?_
  rw [nI_clamp (by omega)]
  refine lv_aload_n hx hb dL_law_1094 rfl (lv_at hl 3 rfl) ?_
  refine l_own (As := [.ref (a 0), .int (xs (i + 1)), .ref q9]) (rest := []) (σ' := σ') (f' := f') S hw (vx_cwSW 3 hts gL_law_L_weightOf rfl rfl rfl hdL_weightOf ⟨Nat.le_of_ble_eq_true rfl, Nat.le_of_ble_eq_true rfl⟩) hK hZ hN hI rfl hl.1 rfl (Nat.le_of_ble_eq_true rfl) ⟨by show cells + 1 ≤ 601024; omega, by show slots + 6 ≤ 7293034; omega⟩ dL_law_1095 (fun H locs hI => ?_)
  refine lv_istore (lv' := [(5, .int k), (0, .ref b), (1, .ref (a 0)), (2, .ref (b2 0)), (3, .ref q9), (4, .int (nI i))]) hx hb dL_law_1098 hl (by decide) rfl (fun ls hl => ?_)
  refine lv_aload_n hx hb dL_law_1100 rfl (lv_at hl 3 rfl) ?_
  refine lv_aload_n hx hb dL_law_1101 rfl (lv_at hl 1 rfl) ?_
  refine lv_iload hx hb dL_law_1102 (lv_at hl 5 rfl) ?_
  refine lv_iconst (v := 1) hx hb dL_law_1104 (by decide) ?_
  refine lv_iadd hx hb dL_law_1105 ?_
  rw [show (nI i + 1 : Int32) = nI (i + 1) from nI_add _ 1]
  refine va_sld hx hb hX hbl (Nat.not_le.mpr hbl) hI.2.2.2 (i := nI (i + 1)) (vp_in_nI (by omega) (by omega)) dL_law_1106 ?_
  rw [nI_clamp (by omega)]
  refine l_ref (As := [.int (xs (i + 1))]) (rest := []) (τ' := τ') S hm (cwV 1 hts gL_law_X1_weightOf rfl rfl rfl hdX1_weightOf ⟨Nat.le_of_ble_eq_true rfl, Nat.le_of_ble_eq_true rfl⟩) hK hI rfl hl.1 rfl (Nat.le_of_ble_eq_true rfl) ⟨by show cells + 1 ≤ 601024; omega, by show slots + 6 ≤ 7293034; omega⟩ dL_law_1107 (fun H locs hI => ?_)
  refine lv_istore (lv' := [(6, .int v), (5, .int k), (0, .ref b), (1, .ref (a 0)), (2, .ref (b2 0)), (3, .ref q9), (4, .int (nI i))]) hx hb dL_law_1110 hl (by decide) rfl (fun ls hl => ?_)
  refine lv_aload_n hx hb dL_law_1112 rfl (lv_at hl 4 rfl) ?_
  refine m0i (As := []) (rest := []) S (m_thrown l E b2 τ') (cwV 0 hts gL_law_X1_thrown rfl rfl rfl hdX1_thrown ⟨Nat.le_of_ble_eq_true rfl, Nat.le_of_ble_eq_true rfl⟩) hK hI.2.1 rfl hl.1 rfl (Nat.le_of_ble_eq_true rfl) ⟨by show cells + 1 ≤ 601024; omega, by show slots + 6 ≤ 7293034; omega⟩ dL_law_1113 ?_
  refine lv_iload hx hb dL_law_1116 (lv_at hl 1 rfl) ?_
  refine lv_icmp_eq (tgt := 1123) hx hb dL_law_1118 (by decide) (fun _ => ?_) (fun q => absurd ht q)
  refine lv_iload hx hb dL_law_1123 (lv_at hl 1 rfl) ?_
  refine lv_if_ne (tgt := 1140) hx hb dL_law_1125 (by decide) (fun c1125 => ?_) (fun c1125 => ?_)
  · refine lv_goto (tgt := 1950) hx hb dL_law_1140 (by decide) ?_
    exact nx σ' τ' f' H locs _ _ ls hr hI (lv_sub hl [2, 3, 4, 5, 6] rfl) (by omega) (by omega)
  · refine lv_aload_n hx hb dL_law_1128 rfl (lv_at hl 5 rfl) ?_
    refine lv_iconst (v := 0) hx hb dL_law_1129 (by decide) ?_
    refine g_lld hx hb hK hI.1 14 rfl (i := nI 0) (v := f' 0) (vp_in_nI (by decide) (by decide)) (by rw [nI_clamp (by decide)]) dL_law_1130 ?_
    refine lv_iload hx hb dL_law_1131 (lv_at hl 0 rfl) ?_
    refine lv_i2l hx hb dL_law_1133 rfl ?_
    refine W.lcmp hx hb dL_law_1134 ?_
    refine lv_if_eq (tgt := 1140) hx hb dL_law_1135 (by decide) (fun _ => ?_) (fun q => absurd ((by rw [show f' 0 = v.toInt64 from hp c1125]; exact lg_self _)) q)
    refine lv_goto (tgt := 1950) hx hb dL_law_1140 (by decide) ?_
    exact nx σ' τ' f' H locs _ _ ls hr hI (lv_sub hl [2, 3, 4, 5, 6] rfl) (by omega) (by omega)
set_option maxHeartbeats 4000000 in
set_option maxRecDepth 100000 in
theorem case_placeOf (hC : LC p l s m c b L xs E) (h : RR σ τ) (hi : i + 4 ≤ L) (hc : cells + 42 ≤ 601024) (hs : slots + 214 ≤ 7293034) (hI : LI s E a b2 q9 σ τ f H locs) (hl : lv_has ls 9 [(0, .ref b), (1, .ref (a 0)), (2, .ref (b2 0)), (3, .ref q9), (4, .int (nI i))]) (nx : NX p l e s m below meth c cells slots Q b E a b2 q9 i) : W p l e room_1 s m #[Value.ref b] below meth c H locs cells slots Q (F0 m 1143 ls []) := by
  obtain ⟨S, hK, hZ, hN, hX, hbl, hL, hfl⟩ := hC
  obtain ⟨hx, hb, hml, hown, hts⟩ := id S
  obtain ⟨k, v, σ', τ', f', hw, hm, ht, hp, hr⟩ := op_placeOf l hfl E a b2 σ τ h q9 f (xs (i + 1))
  refine lv_aload_n hx hb dL_law_1143 rfl (lv_at hl 1 rfl) ?_
  refine lv_aload_n hx hb dL_law_1144 rfl (lv_at hl 0 rfl) ?_
  refine lv_iload hx hb dL_law_1145 (lv_at hl 4 rfl) ?_
  refine lv_iconst (v := 1) hx hb dL_law_1147 (by decide) ?_
  refine lv_iadd hx hb dL_law_1148 ?_
  rw [show (nI i + 1 : Int32) = nI (i + 1) from nI_add _ 1]
  refine va_sld hx hb hX hbl (Nat.not_le.mpr hbl) hI.2.2.2 (i := nI (i + 1)) (vp_in_nI (by omega) (by omega)) dL_law_1149 ?_
  rw [nI_clamp (by omega)]
  refine lv_aload_n hx hb dL_law_1150 rfl (lv_at hl 3 rfl) ?_
  refine l_own (As := [.ref (a 0), .int (xs (i + 1)), .ref q9]) (rest := []) (σ' := σ') (f' := f') S hw (vx_cwSW 3 hts gL_law_L_placeOf rfl rfl rfl hdL_placeOf ⟨Nat.le_of_ble_eq_true rfl, Nat.le_of_ble_eq_true rfl⟩) hK hZ hN hI rfl hl.1 rfl (Nat.le_of_ble_eq_true rfl) ⟨by show cells + 1 ≤ 601024; omega, by show slots + 6 ≤ 7293034; omega⟩ dL_law_1151 (fun H locs hI => ?_)
  refine lv_istore (lv' := [(5, .int k), (0, .ref b), (1, .ref (a 0)), (2, .ref (b2 0)), (3, .ref q9), (4, .int (nI i))]) hx hb dL_law_1154 hl (by decide) rfl (fun ls hl => ?_)
  refine lv_aload_n hx hb dL_law_1156 rfl (lv_at hl 3 rfl) ?_
  refine lv_aload_n hx hb dL_law_1157 rfl (lv_at hl 1 rfl) ?_
  refine lv_iload hx hb dL_law_1158 (lv_at hl 5 rfl) ?_
  refine lv_iconst (v := 1) hx hb dL_law_1160 (by decide) ?_
  refine lv_iadd hx hb dL_law_1161 ?_
  rw [show (nI i + 1 : Int32) = nI (i + 1) from nI_add _ 1]
  refine va_sld hx hb hX hbl (Nat.not_le.mpr hbl) hI.2.2.2 (i := nI (i + 1)) (vp_in_nI (by omega) (by omega)) dL_law_1162 ?_
  rw [nI_clamp (by omega)]
  refine l_ref (As := [.int (xs (i + 1))]) (rest := []) (τ' := τ') S hm (cwV 1 hts gL_law_X1_placeOf rfl rfl rfl hdX1_placeOf ⟨Nat.le_of_ble_eq_true rfl, Nat.le_of_ble_eq_true rfl⟩) hK hI rfl hl.1 rfl (Nat.le_of_ble_eq_true rfl) ⟨by show cells + 1 ≤ 601024; omega, by show slots + 6 ≤ 7293034; omega⟩ dL_law_1163 (fun H locs hI => ?_)
  refine lv_istore (lv' := [(6, .int v), (5, .int k), (0, .ref b), (1, .ref (a 0)), (2, .ref (b2 0)), (3, .ref q9), (4, .int (nI i))]) hx hb dL_law_1166 hl (by decide) rfl (fun ls hl => ?_)
  refine lv_aload_n hx hb dL_law_1168 rfl (lv_at hl 4 rfl) ?_
  refine m0i (As := []) (rest := []) S (m_thrown l E b2 τ') (cwV 0 hts gL_law_X1_thrown rfl rfl rfl hdX1_thrown ⟨Nat.le_of_ble_eq_true rfl, Nat.le_of_ble_eq_true rfl⟩) hK hI.2.1 rfl hl.1 rfl (Nat.le_of_ble_eq_true rfl) ⟨by show cells + 1 ≤ 601024; omega, by show slots + 6 ≤ 7293034; omega⟩ dL_law_1169 ?_
  refine lv_iload hx hb dL_law_1172 (lv_at hl 1 rfl) ?_
  refine lv_icmp_eq (tgt := 1179) hx hb dL_law_1174 (by decide) (fun _ => ?_) (fun q => absurd ht q)
  refine lv_iload hx hb dL_law_1179 (lv_at hl 1 rfl) ?_
  refine lv_if_ne (tgt := 1196) hx hb dL_law_1181 (by decide) (fun c1181 => ?_) (fun c1181 => ?_)
  · refine lv_goto (tgt := 1950) hx hb dL_law_1196 (by decide) ?_
    exact nx σ' τ' f' H locs _ _ ls hr hI (lv_sub hl [2, 3, 4, 5, 6] rfl) (by omega) (by omega)
  · refine lv_aload_n hx hb dL_law_1184 rfl (lv_at hl 5 rfl) ?_
    refine lv_iconst (v := 0) hx hb dL_law_1185 (by decide) ?_
    refine g_lld hx hb hK hI.1 14 rfl (i := nI 0) (v := f' 0) (vp_in_nI (by decide) (by decide)) (by rw [nI_clamp (by decide)]) dL_law_1186 ?_
    refine lv_iload hx hb dL_law_1187 (lv_at hl 0 rfl) ?_
    refine lv_i2l hx hb dL_law_1189 rfl ?_
    refine W.lcmp hx hb dL_law_1190 ?_
    refine lv_if_eq (tgt := 1196) hx hb dL_law_1191 (by decide) (fun _ => ?_) (fun q => absurd ((by rw [show f' 0 = v.toInt64 from hp c1181]; exact lg_self _)) q)
    refine lv_goto (tgt := 1950) hx hb dL_law_1196 (by decide) ?_
    exact nx σ' τ' f' H locs _ _ ls hr hI (lv_sub hl [2, 3, 4, 5, 6] rfl) (by omega) (by omega)
set_option maxHeartbeats 4000000 in
set_option maxRecDepth 100000 in
theorem case_passedBy (hC : LC p l s m c b L xs E) (h : RR σ τ) (hi : i + 4 ≤ L) (hc : cells + 42 ≤ 601024) (hs : slots + 214 ≤ 7293034) (hI : LI s E a b2 q9 σ τ f H locs) (hl : lv_has ls 9 [(0, .ref b), (1, .ref (a 0)), (2, .ref (b2 0)), (3, .ref q9), (4, .int (nI i))]) (nx : NX p l e s m below meth c cells slots Q b E a b2 q9 i) : W p l e room_1 s m #[Value.ref b] below meth c H locs cells slots Q (F0 m 1199 ls []) := by
  obtain ⟨S, hK, hZ, hN, hX, hbl, hL, hfl⟩ := hC
  obtain ⟨hx, hb, hml, hown, hts⟩ := id S
  obtain ⟨k, v, σ', τ', f', hw, hm, ht, hp, hr⟩ := op_passedBy l hfl E a b2 σ τ h q9 f (xs (i + 1))
  refine lv_aload_n hx hb dL_law_1199 rfl (lv_at hl 1 rfl) ?_
  refine lv_aload_n hx hb dL_law_1200 rfl (lv_at hl 0 rfl) ?_
  refine lv_iload hx hb dL_law_1201 (lv_at hl 4 rfl) ?_
  refine lv_iconst (v := 1) hx hb dL_law_1203 (by decide) ?_
  refine lv_iadd hx hb dL_law_1204 ?_
  rw [show (nI i + 1 : Int32) = nI (i + 1) from nI_add _ 1]
  refine va_sld hx hb hX hbl (Nat.not_le.mpr hbl) hI.2.2.2 (i := nI (i + 1)) (vp_in_nI (by omega) (by omega)) dL_law_1205 ?_
  rw [nI_clamp (by omega)]
  refine lv_aload_n hx hb dL_law_1206 rfl (lv_at hl 3 rfl) ?_
  refine l_own (As := [.ref (a 0), .int (xs (i + 1)), .ref q9]) (rest := []) (σ' := σ') (f' := f') S hw (vx_cwSW 3 hts gL_law_L_passedBy rfl rfl rfl hdL_passedBy ⟨Nat.le_of_ble_eq_true rfl, Nat.le_of_ble_eq_true rfl⟩) hK hZ hN hI rfl hl.1 rfl (Nat.le_of_ble_eq_true rfl) ⟨by show cells + 1 ≤ 601024; omega, by show slots + 6 ≤ 7293034; omega⟩ dL_law_1207 (fun H locs hI => ?_)
  refine lv_istore (lv' := [(5, .int k), (0, .ref b), (1, .ref (a 0)), (2, .ref (b2 0)), (3, .ref q9), (4, .int (nI i))]) hx hb dL_law_1210 hl (by decide) rfl (fun ls hl => ?_)
  refine lv_aload_n hx hb dL_law_1212 rfl (lv_at hl 3 rfl) ?_
  refine lv_aload_n hx hb dL_law_1213 rfl (lv_at hl 1 rfl) ?_
  refine lv_iload hx hb dL_law_1214 (lv_at hl 5 rfl) ?_
  refine lv_iconst (v := 1) hx hb dL_law_1216 (by decide) ?_
  refine lv_iadd hx hb dL_law_1217 ?_
  rw [show (nI i + 1 : Int32) = nI (i + 1) from nI_add _ 1]
  refine va_sld hx hb hX hbl (Nat.not_le.mpr hbl) hI.2.2.2 (i := nI (i + 1)) (vp_in_nI (by omega) (by omega)) dL_law_1218 ?_
  rw [nI_clamp (by omega)]
  refine l_ref (As := [.int (xs (i + 1))]) (rest := []) (τ' := τ') S hm (cwV 1 hts gL_law_X1_passedBy rfl rfl rfl hdX1_passedBy ⟨Nat.le_of_ble_eq_true rfl, Nat.le_of_ble_eq_true rfl⟩) hK hI rfl hl.1 rfl (Nat.le_of_ble_eq_true rfl) ⟨by show cells + 1 ≤ 601024; omega, by show slots + 6 ≤ 7293034; omega⟩ dL_law_1219 (fun H locs hI => ?_)
  refine lv_istore (lv' := [(6, .int v), (5, .int k), (0, .ref b), (1, .ref (a 0)), (2, .ref (b2 0)), (3, .ref q9), (4, .int (nI i))]) hx hb dL_law_1222 hl (by decide) rfl (fun ls hl => ?_)
  refine lv_aload_n hx hb dL_law_1224 rfl (lv_at hl 4 rfl) ?_
  refine m0i (As := []) (rest := []) S (m_thrown l E b2 τ') (cwV 0 hts gL_law_X1_thrown rfl rfl rfl hdX1_thrown ⟨Nat.le_of_ble_eq_true rfl, Nat.le_of_ble_eq_true rfl⟩) hK hI.2.1 rfl hl.1 rfl (Nat.le_of_ble_eq_true rfl) ⟨by show cells + 1 ≤ 601024; omega, by show slots + 6 ≤ 7293034; omega⟩ dL_law_1225 ?_
  refine lv_iload hx hb dL_law_1228 (lv_at hl 1 rfl) ?_
  refine lv_icmp_eq (tgt := 1235) hx hb dL_law_1230 (by decide) (fun _ => ?_) (fun q => absurd ht q)
  refine lv_iload hx hb dL_law_1235 (lv_at hl 1 rfl) ?_
  refine lv_if_ne (tgt := 1252) hx hb dL_law_1237 (by decide) (fun c1237 => ?_) (fun c1237 => ?_)
  · refine lv_goto (tgt := 1950) hx hb dL_law_1252 (by decide) ?_
    exact nx σ' τ' f' H locs _ _ ls hr hI (lv_sub hl [2, 3, 4, 5, 6] rfl) (by omega) (by omega)
  · refine lv_aload_n hx hb dL_law_1240 rfl (lv_at hl 5 rfl) ?_
    refine lv_iconst (v := 0) hx hb dL_law_1241 (by decide) ?_
    refine g_lld hx hb hK hI.1 14 rfl (i := nI 0) (v := f' 0) (vp_in_nI (by decide) (by decide)) (by rw [nI_clamp (by decide)]) dL_law_1242 ?_
    refine lv_iload hx hb dL_law_1243 (lv_at hl 0 rfl) ?_
    refine lv_i2l hx hb dL_law_1245 rfl ?_
    refine W.lcmp hx hb dL_law_1246 ?_
    refine lv_if_eq (tgt := 1252) hx hb dL_law_1247 (by decide) (fun _ => ?_) (fun q => absurd ((by rw [show f' 0 = v.toInt64 from hp c1237]; exact lg_self _)) q)
    refine lv_goto (tgt := 1950) hx hb dL_law_1252 (by decide) ?_
    exact nx σ' τ' f' H locs _ _ ls hr hI (lv_sub hl [2, 3, 4, 5, 6] rfl) (by omega) (by omega)
set_option maxHeartbeats 4000000 in
set_option maxRecDepth 100000 in
theorem case_sureGrade (hC : LC p l s m c b L xs E) (h : RR σ τ) (hi : i + 4 ≤ L) (hc : cells + 42 ≤ 601024) (hs : slots + 214 ≤ 7293034) (hI : LI s E a b2 q9 σ τ f H locs) (hl : lv_has ls 9 [(0, .ref b), (1, .ref (a 0)), (2, .ref (b2 0)), (3, .ref q9), (4, .int (nI i))]) (nx : NX p l e s m below meth c cells slots Q b E a b2 q9 i) : W p l e room_1 s m #[Value.ref b] below meth c H locs cells slots Q (F0 m 1255 ls []) := by
  obtain ⟨S, hK, hZ, hN, hX, hbl, hL, hfl⟩ := hC
  obtain ⟨hx, hb, hml, hown, hts⟩ := id S
  obtain ⟨k, v, σ', τ', f', hw, hm, ht, hp, hr⟩ := op_sureGrade l hfl E a b2 σ τ h q9 f (xs (i + 1))
  refine lv_aload_n hx hb dL_law_1255 rfl (lv_at hl 1 rfl) ?_
  refine lv_aload_n hx hb dL_law_1256 rfl (lv_at hl 0 rfl) ?_
  refine lv_iload hx hb dL_law_1257 (lv_at hl 4 rfl) ?_
  refine lv_iconst (v := 1) hx hb dL_law_1259 (by decide) ?_
  refine lv_iadd hx hb dL_law_1260 ?_
  rw [show (nI i + 1 : Int32) = nI (i + 1) from nI_add _ 1]
  refine va_sld hx hb hX hbl (Nat.not_le.mpr hbl) hI.2.2.2 (i := nI (i + 1)) (vp_in_nI (by omega) (by omega)) dL_law_1261 ?_
  rw [nI_clamp (by omega)]
  refine lv_aload_n hx hb dL_law_1262 rfl (lv_at hl 3 rfl) ?_
  refine l_own (As := [.ref (a 0), .int (xs (i + 1)), .ref q9]) (rest := []) (σ' := σ') (f' := f') S hw (vx_cwSW 3 hts gL_law_L_sureGrade rfl rfl rfl hdL_sureGrade ⟨Nat.le_of_ble_eq_true rfl, Nat.le_of_ble_eq_true rfl⟩) hK hZ hN hI rfl hl.1 rfl (Nat.le_of_ble_eq_true rfl) ⟨by show cells + 1 ≤ 601024; omega, by show slots + 6 ≤ 7293034; omega⟩ dL_law_1263 (fun H locs hI => ?_)
  refine lv_istore (lv' := [(5, .int k), (0, .ref b), (1, .ref (a 0)), (2, .ref (b2 0)), (3, .ref q9), (4, .int (nI i))]) hx hb dL_law_1266 hl (by decide) rfl (fun ls hl => ?_)
  refine lv_aload_n hx hb dL_law_1268 rfl (lv_at hl 3 rfl) ?_
  refine lv_aload_n hx hb dL_law_1269 rfl (lv_at hl 1 rfl) ?_
  refine lv_iload hx hb dL_law_1270 (lv_at hl 5 rfl) ?_
  refine lv_iconst (v := 1) hx hb dL_law_1272 (by decide) ?_
  refine lv_iadd hx hb dL_law_1273 ?_
  rw [show (nI i + 1 : Int32) = nI (i + 1) from nI_add _ 1]
  refine va_sld hx hb hX hbl (Nat.not_le.mpr hbl) hI.2.2.2 (i := nI (i + 1)) (vp_in_nI (by omega) (by omega)) dL_law_1274 ?_
  rw [nI_clamp (by omega)]
  refine l_ref (As := [.int (xs (i + 1))]) (rest := []) (τ' := τ') S hm (cwV 1 hts gL_law_X1_sureGrade rfl rfl rfl hdX1_sureGrade ⟨Nat.le_of_ble_eq_true rfl, Nat.le_of_ble_eq_true rfl⟩) hK hI rfl hl.1 rfl (Nat.le_of_ble_eq_true rfl) ⟨by show cells + 1 ≤ 601024; omega, by show slots + 6 ≤ 7293034; omega⟩ dL_law_1275 (fun H locs hI => ?_)
  refine lv_istore (lv' := [(6, .int v), (5, .int k), (0, .ref b), (1, .ref (a 0)), (2, .ref (b2 0)), (3, .ref q9), (4, .int (nI i))]) hx hb dL_law_1278 hl (by decide) rfl (fun ls hl => ?_)
  refine lv_aload_n hx hb dL_law_1280 rfl (lv_at hl 4 rfl) ?_
  refine m0i (As := []) (rest := []) S (m_thrown l E b2 τ') (cwV 0 hts gL_law_X1_thrown rfl rfl rfl hdX1_thrown ⟨Nat.le_of_ble_eq_true rfl, Nat.le_of_ble_eq_true rfl⟩) hK hI.2.1 rfl hl.1 rfl (Nat.le_of_ble_eq_true rfl) ⟨by show cells + 1 ≤ 601024; omega, by show slots + 6 ≤ 7293034; omega⟩ dL_law_1281 ?_
  refine lv_iload hx hb dL_law_1284 (lv_at hl 1 rfl) ?_
  refine lv_icmp_eq (tgt := 1291) hx hb dL_law_1286 (by decide) (fun _ => ?_) (fun q => absurd ht q)
  refine lv_iload hx hb dL_law_1291 (lv_at hl 1 rfl) ?_
  refine lv_if_ne (tgt := 1308) hx hb dL_law_1293 (by decide) (fun c1293 => ?_) (fun c1293 => ?_)
  · refine lv_goto (tgt := 1950) hx hb dL_law_1308 (by decide) ?_
    exact nx σ' τ' f' H locs _ _ ls hr hI (lv_sub hl [2, 3, 4, 5, 6] rfl) (by omega) (by omega)
  · refine lv_aload_n hx hb dL_law_1296 rfl (lv_at hl 5 rfl) ?_
    refine lv_iconst (v := 0) hx hb dL_law_1297 (by decide) ?_
    refine g_lld hx hb hK hI.1 14 rfl (i := nI 0) (v := f' 0) (vp_in_nI (by decide) (by decide)) (by rw [nI_clamp (by decide)]) dL_law_1298 ?_
    refine lv_iload hx hb dL_law_1299 (lv_at hl 0 rfl) ?_
    refine lv_i2l hx hb dL_law_1301 rfl ?_
    refine W.lcmp hx hb dL_law_1302 ?_
    refine lv_if_eq (tgt := 1308) hx hb dL_law_1303 (by decide) (fun _ => ?_) (fun q => absurd ((by rw [show f' 0 = v.toInt64 from hp c1293]; exact lg_self _)) q)
    refine lv_goto (tgt := 1950) hx hb dL_law_1308 (by decide) ?_
    exact nx σ' τ' f' H locs _ _ ls hr hI (lv_sub hl [2, 3, 4, 5, 6] rfl) (by omega) (by omega)
set_option maxHeartbeats 4000000 in
set_option maxRecDepth 100000 in
theorem case_hope (hC : LC p l s m c b L xs E) (h : RR σ τ) (hi : i + 4 ≤ L) (hc : cells + 42 ≤ 601024) (hs : slots + 214 ≤ 7293034) (hI : LI s E a b2 q9 σ τ f H locs) (hl : lv_has ls 9 [(0, .ref b), (1, .ref (a 0)), (2, .ref (b2 0)), (3, .ref q9), (4, .int (nI i))]) (nx : NX p l e s m below meth c cells slots Q b E a b2 q9 i) : W p l e room_1 s m #[Value.ref b] below meth c H locs cells slots Q (F0 m 1311 ls []) := by
  obtain ⟨S, hK, hZ, hN, hX, hbl, hL, hfl⟩ := hC
  obtain ⟨hx, hb, hml, hown, hts⟩ := id S
  obtain ⟨k, v, σ', τ', f', hw, hm, ht, hp, hr⟩ := op_hope l hfl E a b2 σ τ h q9 f (xs (i + 1))
  refine lv_aload_n hx hb dL_law_1311 rfl (lv_at hl 1 rfl) ?_
  refine lv_aload_n hx hb dL_law_1312 rfl (lv_at hl 0 rfl) ?_
  refine lv_iload hx hb dL_law_1313 (lv_at hl 4 rfl) ?_
  refine lv_iconst (v := 1) hx hb dL_law_1315 (by decide) ?_
  refine lv_iadd hx hb dL_law_1316 ?_
  rw [show (nI i + 1 : Int32) = nI (i + 1) from nI_add _ 1]
  refine va_sld hx hb hX hbl (Nat.not_le.mpr hbl) hI.2.2.2 (i := nI (i + 1)) (vp_in_nI (by omega) (by omega)) dL_law_1317 ?_
  rw [nI_clamp (by omega)]
  refine lv_aload_n hx hb dL_law_1318 rfl (lv_at hl 3 rfl) ?_
  refine l_own (As := [.ref (a 0), .int (xs (i + 1)), .ref q9]) (rest := []) (σ' := σ') (f' := f') S hw (vx_cwSW 3 hts gL_law_L_hope rfl rfl rfl hdL_hope ⟨Nat.le_of_ble_eq_true rfl, Nat.le_of_ble_eq_true rfl⟩) hK hZ hN hI rfl hl.1 rfl (Nat.le_of_ble_eq_true rfl) ⟨by show cells + 1 ≤ 601024; omega, by show slots + 6 ≤ 7293034; omega⟩ dL_law_1319 (fun H locs hI => ?_)
  refine lv_istore (lv' := [(5, .int k), (0, .ref b), (1, .ref (a 0)), (2, .ref (b2 0)), (3, .ref q9), (4, .int (nI i))]) hx hb dL_law_1322 hl (by decide) rfl (fun ls hl => ?_)
  refine lv_aload_n hx hb dL_law_1324 rfl (lv_at hl 3 rfl) ?_
  refine lv_aload_n hx hb dL_law_1325 rfl (lv_at hl 1 rfl) ?_
  refine lv_iload hx hb dL_law_1326 (lv_at hl 5 rfl) ?_
  refine lv_iconst (v := 1) hx hb dL_law_1328 (by decide) ?_
  refine lv_iadd hx hb dL_law_1329 ?_
  rw [show (nI i + 1 : Int32) = nI (i + 1) from nI_add _ 1]
  refine va_sld hx hb hX hbl (Nat.not_le.mpr hbl) hI.2.2.2 (i := nI (i + 1)) (vp_in_nI (by omega) (by omega)) dL_law_1330 ?_
  rw [nI_clamp (by omega)]
  refine l_ref (As := [.int (xs (i + 1))]) (rest := []) (τ' := τ') S hm (cwV 1 hts gL_law_X1_hope rfl rfl rfl hdX1_hope ⟨Nat.le_of_ble_eq_true rfl, Nat.le_of_ble_eq_true rfl⟩) hK hI rfl hl.1 rfl (Nat.le_of_ble_eq_true rfl) ⟨by show cells + 1 ≤ 601024; omega, by show slots + 6 ≤ 7293034; omega⟩ dL_law_1331 (fun H locs hI => ?_)
  refine lv_istore (lv' := [(6, .int v), (5, .int k), (0, .ref b), (1, .ref (a 0)), (2, .ref (b2 0)), (3, .ref q9), (4, .int (nI i))]) hx hb dL_law_1334 hl (by decide) rfl (fun ls hl => ?_)
  refine lv_aload_n hx hb dL_law_1336 rfl (lv_at hl 4 rfl) ?_
  refine m0i (As := []) (rest := []) S (m_thrown l E b2 τ') (cwV 0 hts gL_law_X1_thrown rfl rfl rfl hdX1_thrown ⟨Nat.le_of_ble_eq_true rfl, Nat.le_of_ble_eq_true rfl⟩) hK hI.2.1 rfl hl.1 rfl (Nat.le_of_ble_eq_true rfl) ⟨by show cells + 1 ≤ 601024; omega, by show slots + 6 ≤ 7293034; omega⟩ dL_law_1337 ?_
  refine lv_iload hx hb dL_law_1340 (lv_at hl 1 rfl) ?_
  refine lv_icmp_eq (tgt := 1347) hx hb dL_law_1342 (by decide) (fun _ => ?_) (fun q => absurd ht q)
  refine lv_iload hx hb dL_law_1347 (lv_at hl 1 rfl) ?_
  refine lv_if_ne (tgt := 1364) hx hb dL_law_1349 (by decide) (fun c1349 => ?_) (fun c1349 => ?_)
  · refine lv_goto (tgt := 1950) hx hb dL_law_1364 (by decide) ?_
    exact nx σ' τ' f' H locs _ _ ls hr hI (lv_sub hl [2, 3, 4, 5, 6] rfl) (by omega) (by omega)
  · refine lv_aload_n hx hb dL_law_1352 rfl (lv_at hl 5 rfl) ?_
    refine lv_iconst (v := 0) hx hb dL_law_1353 (by decide) ?_
    refine g_lld hx hb hK hI.1 14 rfl (i := nI 0) (v := f' 0) (vp_in_nI (by decide) (by decide)) (by rw [nI_clamp (by decide)]) dL_law_1354 ?_
    refine lv_iload hx hb dL_law_1355 (lv_at hl 0 rfl) ?_
    refine lv_i2l hx hb dL_law_1357 rfl ?_
    refine W.lcmp hx hb dL_law_1358 ?_
    refine lv_if_eq (tgt := 1364) hx hb dL_law_1359 (by decide) (fun _ => ?_) (fun q => absurd ((by rw [show f' 0 = v.toInt64 from hp c1349]; exact lg_self _)) q)
    refine lv_goto (tgt := 1950) hx hb dL_law_1364 (by decide) ?_
    exact nx σ' τ' f' H locs _ _ ls hr hI (lv_sub hl [2, 3, 4, 5, 6] rfl) (by omega) (by omega)
set_option maxHeartbeats 4000000 in
set_option maxRecDepth 100000 in
theorem case_reaches (hC : LC p l s m c b L xs E) (h : RR σ τ) (hi : i + 4 ≤ L) (hc : cells + 42 ≤ 601024) (hs : slots + 214 ≤ 7293034) (hI : LI s E a b2 q9 σ τ f H locs) (hl : lv_has ls 9 [(0, .ref b), (1, .ref (a 0)), (2, .ref (b2 0)), (3, .ref q9), (4, .int (nI i))]) (nx : NX p l e s m below meth c cells slots Q b E a b2 q9 i) : W p l e room_1 s m #[Value.ref b] below meth c H locs cells slots Q (F0 m 1367 ls []) := by
  obtain ⟨S, hK, hZ, hN, hX, hbl, hL, hfl⟩ := hC
  obtain ⟨hx, hb, hml, hown, hts⟩ := id S
  obtain ⟨k, v, σ', τ', f', hw, hm, ht, hp, hr⟩ := op_reaches l hfl E a b2 σ τ h q9 f (xs (i + 1)) (xs (i + 2))
  refine lv_aload_n hx hb dL_law_1367 rfl (lv_at hl 1 rfl) ?_
  refine lv_aload_n hx hb dL_law_1368 rfl (lv_at hl 0 rfl) ?_
  refine lv_iload hx hb dL_law_1369 (lv_at hl 4 rfl) ?_
  refine lv_iconst (v := 1) hx hb dL_law_1371 (by decide) ?_
  refine lv_iadd hx hb dL_law_1372 ?_
  rw [show (nI i + 1 : Int32) = nI (i + 1) from nI_add _ 1]
  refine va_sld hx hb hX hbl (Nat.not_le.mpr hbl) hI.2.2.2 (i := nI (i + 1)) (vp_in_nI (by omega) (by omega)) dL_law_1373 ?_
  rw [nI_clamp (by omega)]
  refine lv_aload_n hx hb dL_law_1374 rfl (lv_at hl 0 rfl) ?_
  refine lv_iload hx hb dL_law_1375 (lv_at hl 4 rfl) ?_
  refine lv_iconst (v := 2) hx hb dL_law_1377 (by decide) ?_
  refine lv_iadd hx hb dL_law_1378 ?_
  rw [show (nI i + 2 : Int32) = nI (i + 2) from nI_add _ 2]
  refine va_sld hx hb hX hbl (Nat.not_le.mpr hbl) hI.2.2.2 (i := nI (i + 2)) (vp_in_nI (by omega) (by omega)) dL_law_1379 ?_
  rw [nI_clamp (by omega)]
  refine lv_aload_n hx hb dL_law_1380 rfl (lv_at hl 3 rfl) ?_
  refine l_own (As := [.ref (a 0), .int (xs (i + 1)), .int (xs (i + 2)), .ref q9]) (rest := []) (σ' := σ') (f' := f') S hw (vx_cwSW 4 hts gL_law_L_reaches rfl rfl rfl hdL_reaches ⟨Nat.le_of_ble_eq_true rfl, Nat.le_of_ble_eq_true rfl⟩) hK hZ hN hI rfl hl.1 rfl (Nat.le_of_ble_eq_true rfl) ⟨by show cells + 1 ≤ 601024; omega, by show slots + 6 ≤ 7293034; omega⟩ dL_law_1381 (fun H locs hI => ?_)
  refine lv_istore (lv' := [(5, .int k), (0, .ref b), (1, .ref (a 0)), (2, .ref (b2 0)), (3, .ref q9), (4, .int (nI i))]) hx hb dL_law_1384 hl (by decide) rfl (fun ls hl => ?_)
  refine lv_aload_n hx hb dL_law_1386 rfl (lv_at hl 3 rfl) ?_
  refine lv_aload_n hx hb dL_law_1387 rfl (lv_at hl 1 rfl) ?_
  refine lv_iload hx hb dL_law_1388 (lv_at hl 5 rfl) ?_
  refine lv_iconst (v := 1) hx hb dL_law_1390 (by decide) ?_
  refine lv_iadd hx hb dL_law_1391 ?_
  rw [show (nI i + 1 : Int32) = nI (i + 1) from nI_add _ 1]
  refine va_sld hx hb hX hbl (Nat.not_le.mpr hbl) hI.2.2.2 (i := nI (i + 1)) (vp_in_nI (by omega) (by omega)) dL_law_1392 ?_
  rw [nI_clamp (by omega)]
  refine lv_aload_n hx hb dL_law_1393 rfl (lv_at hl 1 rfl) ?_
  refine lv_iload hx hb dL_law_1394 (lv_at hl 5 rfl) ?_
  refine lv_iconst (v := 2) hx hb dL_law_1396 (by decide) ?_
  refine lv_iadd hx hb dL_law_1397 ?_
  rw [show (nI i + 2 : Int32) = nI (i + 2) from nI_add _ 2]
  refine va_sld hx hb hX hbl (Nat.not_le.mpr hbl) hI.2.2.2 (i := nI (i + 2)) (vp_in_nI (by omega) (by omega)) dL_law_1398 ?_
  rw [nI_clamp (by omega)]
  refine l_ref (As := [.int (xs (i + 1)), .int (xs (i + 2))]) (rest := []) (τ' := τ') S hm (cwV 2 hts gL_law_X1_reaches rfl rfl rfl hdX1_reaches ⟨Nat.le_of_ble_eq_true rfl, Nat.le_of_ble_eq_true rfl⟩) hK hI rfl hl.1 rfl (Nat.le_of_ble_eq_true rfl) ⟨by show cells + 1 ≤ 601024; omega, by show slots + 6 ≤ 7293034; omega⟩ dL_law_1399 (fun H locs hI => ?_)
  refine lv_istore (lv' := [(6, .int v), (5, .int k), (0, .ref b), (1, .ref (a 0)), (2, .ref (b2 0)), (3, .ref q9), (4, .int (nI i))]) hx hb dL_law_1402 hl (by decide) rfl (fun ls hl => ?_)
  refine lv_aload_n hx hb dL_law_1404 rfl (lv_at hl 4 rfl) ?_
  refine m0i (As := []) (rest := []) S (m_thrown l E b2 τ') (cwV 0 hts gL_law_X1_thrown rfl rfl rfl hdX1_thrown ⟨Nat.le_of_ble_eq_true rfl, Nat.le_of_ble_eq_true rfl⟩) hK hI.2.1 rfl hl.1 rfl (Nat.le_of_ble_eq_true rfl) ⟨by show cells + 1 ≤ 601024; omega, by show slots + 6 ≤ 7293034; omega⟩ dL_law_1405 ?_
  refine lv_iload hx hb dL_law_1408 (lv_at hl 1 rfl) ?_
  refine lv_icmp_eq (tgt := 1415) hx hb dL_law_1410 (by decide) (fun _ => ?_) (fun q => absurd ht q)
  refine lv_iload hx hb dL_law_1415 (lv_at hl 1 rfl) ?_
  refine lv_if_ne (tgt := 1439) hx hb dL_law_1417 (by decide) (fun c1417 => ?_) (fun c1417 => ?_)
  · refine lv_goto (tgt := 1950) hx hb dL_law_1439 (by decide) ?_
    exact nx σ' τ' f' H locs _ _ ls hr hI (lv_sub hl [2, 3, 4, 5, 6] rfl) (by omega) (by omega)
  · obtain ⟨x, hv, ho⟩ := hp c1417
    refine lv_aload_n hx hb dL_law_1420 rfl (lv_at hl 5 rfl) ?_
    refine lv_iconst (v := 0) hx hb dL_law_1421 (by decide) ?_
    refine g_lld hx hb hK hI.1 14 rfl (i := nI 0) (v := f' 0) (vp_in_nI (by decide) (by decide)) (by rw [nI_clamp (by decide)]) dL_law_1422 ?_
    refine lv_iload hx hb dL_law_1423 (lv_at hl 0 rfl) ?_
    refine lv_if_eq (tgt := 1432) hx hb dL_law_1425 (by decide) (fun c1425 => ?_) (fun c1425 => ?_)
    · refine lv_lconst (v := 0) hx hb dL_law_1432 (by decide) ?_
      refine W.lcmp hx hb dL_law_1433 ?_
      refine lv_if_eq (tgt := 1439) hx hb dL_law_1434 (by decide) (fun _ => ?_) (fun q => absurd ((by first | (rw [ho, bl, b2i_eq0.mp (show b2i x = 0 from hv ▸ c1425)]; exact lg_self _) | (rw [ho, bl, b2i_ne0.mp (show ¬ b2i x = 0 from hv ▸ c1425)]; exact lg_self _))) q)
      refine lv_goto (tgt := 1950) hx hb dL_law_1439 (by decide) ?_
      exact nx σ' τ' f' H locs _ _ ls hr hI (lv_sub hl [2, 3, 4, 5, 6] rfl) (by omega) (by omega)
    · refine lv_lconst (v := 1) hx hb dL_law_1428 (by decide) ?_
      refine lv_goto (tgt := 1433) hx hb dL_law_1429 (by decide) ?_
      refine W.lcmp hx hb dL_law_1433 ?_
      refine lv_if_eq (tgt := 1439) hx hb dL_law_1434 (by decide) (fun _ => ?_) (fun q => absurd ((by first | (rw [ho, bl, b2i_eq0.mp (show b2i x = 0 from hv ▸ c1425)]; exact lg_self _) | (rw [ho, bl, b2i_ne0.mp (show ¬ b2i x = 0 from hv ▸ c1425)]; exact lg_self _))) q)
      refine lv_goto (tgt := 1950) hx hb dL_law_1439 (by decide) ?_
      exact nx σ' τ' f' H locs _ _ ls hr hI (lv_sub hl [2, 3, 4, 5, 6] rfl) (by omega) (by omega)
set_option maxHeartbeats 4000000 in
set_option maxRecDepth 100000 in
theorem case_examsFrom (hC : LC p l s m c b L xs E) (h : RR σ τ) (hi : i + 4 ≤ L) (hc : cells + 42 ≤ 601024) (hs : slots + 214 ≤ 7293034) (hI : LI s E a b2 q9 σ τ f H locs) (hl : lv_has ls 9 [(0, .ref b), (1, .ref (a 0)), (2, .ref (b2 0)), (3, .ref q9), (4, .int (nI i))]) (nx : NX p l e s m below meth c cells slots Q b E a b2 q9 i) : W p l e room_1 s m #[Value.ref b] below meth c H locs cells slots Q (F0 m 1442 ls []) := by
  obtain ⟨S, hK, hZ, hN, hX, hbl, hL, hfl⟩ := hC
  obtain ⟨hx, hb, hml, hown, hts⟩ := id S
  obtain ⟨k, v, σ', τ', f', hw, hm, ht, hp, hr⟩ := op_examsFrom l hfl E a b2 σ τ h q9 f (xs (i + 1))
  refine lv_aload_n hx hb dL_law_1442 rfl (lv_at hl 1 rfl) ?_
  refine lv_aload_n hx hb dL_law_1443 rfl (lv_at hl 0 rfl) ?_
  refine lv_iload hx hb dL_law_1444 (lv_at hl 4 rfl) ?_
  refine lv_iconst (v := 1) hx hb dL_law_1446 (by decide) ?_
  refine lv_iadd hx hb dL_law_1447 ?_
  rw [show (nI i + 1 : Int32) = nI (i + 1) from nI_add _ 1]
  refine va_sld hx hb hX hbl (Nat.not_le.mpr hbl) hI.2.2.2 (i := nI (i + 1)) (vp_in_nI (by omega) (by omega)) dL_law_1448 ?_
  rw [nI_clamp (by omega)]
  refine lv_aload_n hx hb dL_law_1449 rfl (lv_at hl 3 rfl) ?_
  refine l_own (As := [.ref (a 0), .int (xs (i + 1)), .ref q9]) (rest := []) (σ' := σ') (f' := f') S hw (vx_cwSW 3 hts gL_law_L_examsFrom rfl rfl rfl hdL_examsFrom ⟨Nat.le_of_ble_eq_true rfl, Nat.le_of_ble_eq_true rfl⟩) hK hZ hN hI rfl hl.1 rfl (Nat.le_of_ble_eq_true rfl) ⟨by show cells + 1 ≤ 601024; omega, by show slots + 6 ≤ 7293034; omega⟩ dL_law_1450 (fun H locs hI => ?_)
  refine lv_istore (lv' := [(5, .int k), (0, .ref b), (1, .ref (a 0)), (2, .ref (b2 0)), (3, .ref q9), (4, .int (nI i))]) hx hb dL_law_1453 hl (by decide) rfl (fun ls hl => ?_)
  refine lv_aload_n hx hb dL_law_1455 rfl (lv_at hl 3 rfl) ?_
  refine lv_aload_n hx hb dL_law_1456 rfl (lv_at hl 1 rfl) ?_
  refine lv_iload hx hb dL_law_1457 (lv_at hl 5 rfl) ?_
  refine lv_iconst (v := 1) hx hb dL_law_1459 (by decide) ?_
  refine lv_iadd hx hb dL_law_1460 ?_
  rw [show (nI i + 1 : Int32) = nI (i + 1) from nI_add _ 1]
  refine va_sld hx hb hX hbl (Nat.not_le.mpr hbl) hI.2.2.2 (i := nI (i + 1)) (vp_in_nI (by omega) (by omega)) dL_law_1461 ?_
  rw [nI_clamp (by omega)]
  refine l_ref (As := [.int (xs (i + 1))]) (rest := []) (τ' := τ') S hm (cwV 1 hts gL_law_X1_examsFrom rfl rfl rfl hdX1_examsFrom ⟨Nat.le_of_ble_eq_true rfl, Nat.le_of_ble_eq_true rfl⟩) hK hI rfl hl.1 rfl (Nat.le_of_ble_eq_true rfl) ⟨by show cells + 1 ≤ 601024; omega, by show slots + 6 ≤ 7293034; omega⟩ dL_law_1462 (fun H locs hI => ?_)
  refine lv_istore (lv' := [(6, .int v), (5, .int k), (0, .ref b), (1, .ref (a 0)), (2, .ref (b2 0)), (3, .ref q9), (4, .int (nI i))]) hx hb dL_law_1465 hl (by decide) rfl (fun ls hl => ?_)
  refine lv_aload_n hx hb dL_law_1467 rfl (lv_at hl 4 rfl) ?_
  refine m0i (As := []) (rest := []) S (m_thrown l E b2 τ') (cwV 0 hts gL_law_X1_thrown rfl rfl rfl hdX1_thrown ⟨Nat.le_of_ble_eq_true rfl, Nat.le_of_ble_eq_true rfl⟩) hK hI.2.1 rfl hl.1 rfl (Nat.le_of_ble_eq_true rfl) ⟨by show cells + 1 ≤ 601024; omega, by show slots + 6 ≤ 7293034; omega⟩ dL_law_1468 ?_
  refine lv_iload hx hb dL_law_1471 (lv_at hl 1 rfl) ?_
  refine lv_icmp_eq (tgt := 1478) hx hb dL_law_1473 (by decide) (fun _ => ?_) (fun q => absurd ht q)
  refine lv_iload hx hb dL_law_1478 (lv_at hl 1 rfl) ?_
  refine lv_if_ne (tgt := 1495) hx hb dL_law_1480 (by decide) (fun c1480 => ?_) (fun c1480 => ?_)
  · refine lv_goto (tgt := 1950) hx hb dL_law_1495 (by decide) ?_
    exact nx σ' τ' f' H locs _ _ ls hr hI (lv_sub hl [2, 3, 4, 5, 6] rfl) (by omega) (by omega)
  · refine lv_aload_n hx hb dL_law_1483 rfl (lv_at hl 5 rfl) ?_
    refine lv_iconst (v := 0) hx hb dL_law_1484 (by decide) ?_
    refine g_lld hx hb hK hI.1 14 rfl (i := nI 0) (v := f' 0) (vp_in_nI (by decide) (by decide)) (by rw [nI_clamp (by decide)]) dL_law_1485 ?_
    refine lv_iload hx hb dL_law_1486 (lv_at hl 0 rfl) ?_
    refine lv_i2l hx hb dL_law_1488 rfl ?_
    refine W.lcmp hx hb dL_law_1489 ?_
    refine lv_if_eq (tgt := 1495) hx hb dL_law_1490 (by decide) (fun _ => ?_) (fun q => absurd ((by rw [show f' 0 = v.toInt64 from hp c1480]; exact lg_self _)) q)
    refine lv_goto (tgt := 1950) hx hb dL_law_1495 (by decide) ?_
    exact nx σ' τ' f' H locs _ _ ls hr hI (lv_sub hl [2, 3, 4, 5, 6] rfl) (by omega) (by omega)
set_option maxHeartbeats 4000000 in
set_option maxRecDepth 100000 in
theorem case_risk (hC : LC p l s m c b L xs E) (h : RR σ τ) (hi : i + 4 ≤ L) (hc : cells + 42 ≤ 601024) (hs : slots + 214 ≤ 7293034) (hI : LI s E a b2 q9 σ τ f H locs) (hl : lv_has ls 9 [(0, .ref b), (1, .ref (a 0)), (2, .ref (b2 0)), (3, .ref q9), (4, .int (nI i))]) (nx : NX p l e s m below meth c cells slots Q b E a b2 q9 i) : W p l e room_1 s m #[Value.ref b] below meth c H locs cells slots Q (F0 m 1498 ls []) := by
  obtain ⟨S, hK, hZ, hN, hX, hbl, hL, hfl⟩ := hC
  obtain ⟨hx, hb, hml, hown, hts⟩ := id S
  by_cases hd : xs (i + 2) = 0
  · obtain ⟨k, v, σ', τ', f', hw, hm, ht, hp, hr⟩ := op_risk l hfl E a b2 σ τ h q9 f (xs (i + 1)) false
    refine lv_aload_n hx hb dL_law_1498 rfl (lv_at hl 1 rfl) ?_
    refine lv_aload_n hx hb dL_law_1499 rfl (lv_at hl 0 rfl) ?_
    refine lv_iload hx hb dL_law_1500 (lv_at hl 4 rfl) ?_
    refine lv_iconst (v := 1) hx hb dL_law_1502 (by decide) ?_
    refine lv_iadd hx hb dL_law_1503 ?_
    rw [show (nI i + 1 : Int32) = nI (i + 1) from nI_add _ 1]
    refine va_sld hx hb hX hbl (Nat.not_le.mpr hbl) hI.2.2.2 (i := nI (i + 1)) (vp_in_nI (by omega) (by omega)) dL_law_1504 ?_
    rw [nI_clamp (by omega)]
    refine lv_aload_n hx hb dL_law_1505 rfl (lv_at hl 0 rfl) ?_
    refine lv_iload hx hb dL_law_1506 (lv_at hl 4 rfl) ?_
    refine lv_iconst (v := 2) hx hb dL_law_1508 (by decide) ?_
    refine lv_iadd hx hb dL_law_1509 ?_
    rw [show (nI i + 2 : Int32) = nI (i + 2) from nI_add _ 2]
    refine va_sld hx hb hX hbl (Nat.not_le.mpr hbl) hI.2.2.2 (i := nI (i + 2)) (vp_in_nI (by omega) (by omega)) dL_law_1510 ?_
    rw [nI_clamp (by omega)]
    refine lv_if_eq (tgt := 1518) hx hb dL_law_1511 (by decide) (fun _ => ?_) (fun q => absurd hd q)
    refine lv_iconst (v := 0) hx hb dL_law_1518 (by decide) ?_
    refine lv_aload_n hx hb dL_law_1519 rfl (lv_at hl 3 rfl) ?_
    refine l_own (As := [.ref (a 0), .int (xs (i + 1)), .int (b2i false), .ref q9]) (rest := []) (σ' := σ') (f' := f') S hw (vx_cwSW 4 hts gL_law_L_risk rfl rfl rfl hdL_risk ⟨Nat.le_of_ble_eq_true rfl, Nat.le_of_ble_eq_true rfl⟩) hK hZ hN hI rfl hl.1 rfl (Nat.le_of_ble_eq_true rfl) ⟨by show cells + 1 ≤ 601024; omega, by show slots + 6 ≤ 7293034; omega⟩ dL_law_1520 (fun H locs hI => ?_)
    refine lv_istore (lv' := [(5, .int k), (0, .ref b), (1, .ref (a 0)), (2, .ref (b2 0)), (3, .ref q9), (4, .int (nI i))]) hx hb dL_law_1523 hl (by decide) rfl (fun ls hl => ?_)
    refine lv_aload_n hx hb dL_law_1525 rfl (lv_at hl 3 rfl) ?_
    refine lv_aload_n hx hb dL_law_1526 rfl (lv_at hl 1 rfl) ?_
    refine lv_iload hx hb dL_law_1527 (lv_at hl 5 rfl) ?_
    refine lv_iconst (v := 1) hx hb dL_law_1529 (by decide) ?_
    refine lv_iadd hx hb dL_law_1530 ?_
    rw [show (nI i + 1 : Int32) = nI (i + 1) from nI_add _ 1]
    refine va_sld hx hb hX hbl (Nat.not_le.mpr hbl) hI.2.2.2 (i := nI (i + 1)) (vp_in_nI (by omega) (by omega)) dL_law_1531 ?_
    rw [nI_clamp (by omega)]
    refine lv_aload_n hx hb dL_law_1532 rfl (lv_at hl 1 rfl) ?_
    refine lv_iload hx hb dL_law_1533 (lv_at hl 5 rfl) ?_
    refine lv_iconst (v := 2) hx hb dL_law_1535 (by decide) ?_
    refine lv_iadd hx hb dL_law_1536 ?_
    rw [show (nI i + 2 : Int32) = nI (i + 2) from nI_add _ 2]
    refine va_sld hx hb hX hbl (Nat.not_le.mpr hbl) hI.2.2.2 (i := nI (i + 2)) (vp_in_nI (by omega) (by omega)) dL_law_1537 ?_
    rw [nI_clamp (by omega)]
    refine lv_if_eq (tgt := 1545) hx hb dL_law_1538 (by decide) (fun _ => ?_) (fun q => absurd hd q)
    refine lv_iconst (v := 0) hx hb dL_law_1545 (by decide) ?_
    refine l_ref (As := [.int (xs (i + 1)), .int (b2i false)]) (rest := []) (τ' := τ') S hm (cwV 2 hts gL_law_X1_risk rfl rfl rfl hdX1_risk ⟨Nat.le_of_ble_eq_true rfl, Nat.le_of_ble_eq_true rfl⟩) hK hI rfl hl.1 rfl (Nat.le_of_ble_eq_true rfl) ⟨by show cells + 1 ≤ 601024; omega, by show slots + 6 ≤ 7293034; omega⟩ dL_law_1546 (fun H locs hI => ?_)
    refine lv_istore (lv' := [(6, .int v), (5, .int k), (0, .ref b), (1, .ref (a 0)), (2, .ref (b2 0)), (3, .ref q9), (4, .int (nI i))]) hx hb dL_law_1549 hl (by decide) rfl (fun ls hl => ?_)
    refine lv_aload_n hx hb dL_law_1551 rfl (lv_at hl 4 rfl) ?_
    refine m0i (As := []) (rest := []) S (m_thrown l E b2 τ') (cwV 0 hts gL_law_X1_thrown rfl rfl rfl hdX1_thrown ⟨Nat.le_of_ble_eq_true rfl, Nat.le_of_ble_eq_true rfl⟩) hK hI.2.1 rfl hl.1 rfl (Nat.le_of_ble_eq_true rfl) ⟨by show cells + 1 ≤ 601024; omega, by show slots + 6 ≤ 7293034; omega⟩ dL_law_1552 ?_
    refine lv_iload hx hb dL_law_1555 (lv_at hl 1 rfl) ?_
    refine lv_icmp_eq (tgt := 1562) hx hb dL_law_1557 (by decide) (fun _ => ?_) (fun q => absurd ht q)
    refine lv_iload hx hb dL_law_1562 (lv_at hl 1 rfl) ?_
    refine lv_if_ne (tgt := 1579) hx hb dL_law_1564 (by decide) (fun c1564 => ?_) (fun c1564 => ?_)
    · refine lv_goto (tgt := 1950) hx hb dL_law_1579 (by decide) ?_
      exact nx σ' τ' f' H locs _ _ ls hr hI (lv_sub hl [2, 3, 4, 5, 6] rfl) (by omega) (by omega)
    · refine lv_aload_n hx hb dL_law_1567 rfl (lv_at hl 5 rfl) ?_
      refine lv_iconst (v := 0) hx hb dL_law_1568 (by decide) ?_
      refine g_lld hx hb hK hI.1 14 rfl (i := nI 0) (v := f' 0) (vp_in_nI (by decide) (by decide)) (by rw [nI_clamp (by decide)]) dL_law_1569 ?_
      refine lv_iload hx hb dL_law_1570 (lv_at hl 0 rfl) ?_
      refine lv_i2l hx hb dL_law_1572 rfl ?_
      refine W.lcmp hx hb dL_law_1573 ?_
      refine lv_if_eq (tgt := 1579) hx hb dL_law_1574 (by decide) (fun _ => ?_) (fun q => absurd ((by rw [show f' 0 = v.toInt64 from hp c1564]; exact lg_self _)) q)
      refine lv_goto (tgt := 1950) hx hb dL_law_1579 (by decide) ?_
      exact nx σ' τ' f' H locs _ _ ls hr hI (lv_sub hl [2, 3, 4, 5, 6] rfl) (by omega) (by omega)
  · obtain ⟨k, v, σ', τ', f', hw, hm, ht, hp, hr⟩ := op_risk l hfl E a b2 σ τ h q9 f (xs (i + 1)) true
    refine lv_aload_n hx hb dL_law_1498 rfl (lv_at hl 1 rfl) ?_
    refine lv_aload_n hx hb dL_law_1499 rfl (lv_at hl 0 rfl) ?_
    refine lv_iload hx hb dL_law_1500 (lv_at hl 4 rfl) ?_
    refine lv_iconst (v := 1) hx hb dL_law_1502 (by decide) ?_
    refine lv_iadd hx hb dL_law_1503 ?_
    rw [show (nI i + 1 : Int32) = nI (i + 1) from nI_add _ 1]
    refine va_sld hx hb hX hbl (Nat.not_le.mpr hbl) hI.2.2.2 (i := nI (i + 1)) (vp_in_nI (by omega) (by omega)) dL_law_1504 ?_
    rw [nI_clamp (by omega)]
    refine lv_aload_n hx hb dL_law_1505 rfl (lv_at hl 0 rfl) ?_
    refine lv_iload hx hb dL_law_1506 (lv_at hl 4 rfl) ?_
    refine lv_iconst (v := 2) hx hb dL_law_1508 (by decide) ?_
    refine lv_iadd hx hb dL_law_1509 ?_
    rw [show (nI i + 2 : Int32) = nI (i + 2) from nI_add _ 2]
    refine va_sld hx hb hX hbl (Nat.not_le.mpr hbl) hI.2.2.2 (i := nI (i + 2)) (vp_in_nI (by omega) (by omega)) dL_law_1510 ?_
    rw [nI_clamp (by omega)]
    refine lv_if_eq (tgt := 1518) hx hb dL_law_1511 (by decide) (fun q => absurd q hd) (fun _ => ?_)
    refine lv_iconst (v := 1) hx hb dL_law_1514 (by decide) ?_
    refine lv_goto (tgt := 1519) hx hb dL_law_1515 (by decide) ?_
    refine lv_aload_n hx hb dL_law_1519 rfl (lv_at hl 3 rfl) ?_
    refine l_own (As := [.ref (a 0), .int (xs (i + 1)), .int (b2i true), .ref q9]) (rest := []) (σ' := σ') (f' := f') S hw (vx_cwSW 4 hts gL_law_L_risk rfl rfl rfl hdL_risk ⟨Nat.le_of_ble_eq_true rfl, Nat.le_of_ble_eq_true rfl⟩) hK hZ hN hI rfl hl.1 rfl (Nat.le_of_ble_eq_true rfl) ⟨by show cells + 1 ≤ 601024; omega, by show slots + 6 ≤ 7293034; omega⟩ dL_law_1520 (fun H locs hI => ?_)
    refine lv_istore (lv' := [(5, .int k), (0, .ref b), (1, .ref (a 0)), (2, .ref (b2 0)), (3, .ref q9), (4, .int (nI i))]) hx hb dL_law_1523 hl (by decide) rfl (fun ls hl => ?_)
    refine lv_aload_n hx hb dL_law_1525 rfl (lv_at hl 3 rfl) ?_
    refine lv_aload_n hx hb dL_law_1526 rfl (lv_at hl 1 rfl) ?_
    refine lv_iload hx hb dL_law_1527 (lv_at hl 5 rfl) ?_
    refine lv_iconst (v := 1) hx hb dL_law_1529 (by decide) ?_
    refine lv_iadd hx hb dL_law_1530 ?_
    rw [show (nI i + 1 : Int32) = nI (i + 1) from nI_add _ 1]
    refine va_sld hx hb hX hbl (Nat.not_le.mpr hbl) hI.2.2.2 (i := nI (i + 1)) (vp_in_nI (by omega) (by omega)) dL_law_1531 ?_
    rw [nI_clamp (by omega)]
    refine lv_aload_n hx hb dL_law_1532 rfl (lv_at hl 1 rfl) ?_
    refine lv_iload hx hb dL_law_1533 (lv_at hl 5 rfl) ?_
    refine lv_iconst (v := 2) hx hb dL_law_1535 (by decide) ?_
    refine lv_iadd hx hb dL_law_1536 ?_
    rw [show (nI i + 2 : Int32) = nI (i + 2) from nI_add _ 2]
    refine va_sld hx hb hX hbl (Nat.not_le.mpr hbl) hI.2.2.2 (i := nI (i + 2)) (vp_in_nI (by omega) (by omega)) dL_law_1537 ?_
    rw [nI_clamp (by omega)]
    refine lv_if_eq (tgt := 1545) hx hb dL_law_1538 (by decide) (fun q => absurd q hd) (fun _ => ?_)
    refine lv_iconst (v := 1) hx hb dL_law_1541 (by decide) ?_
    refine lv_goto (tgt := 1546) hx hb dL_law_1542 (by decide) ?_
    refine l_ref (As := [.int (xs (i + 1)), .int (b2i true)]) (rest := []) (τ' := τ') S hm (cwV 2 hts gL_law_X1_risk rfl rfl rfl hdX1_risk ⟨Nat.le_of_ble_eq_true rfl, Nat.le_of_ble_eq_true rfl⟩) hK hI rfl hl.1 rfl (Nat.le_of_ble_eq_true rfl) ⟨by show cells + 1 ≤ 601024; omega, by show slots + 6 ≤ 7293034; omega⟩ dL_law_1546 (fun H locs hI => ?_)
    refine lv_istore (lv' := [(6, .int v), (5, .int k), (0, .ref b), (1, .ref (a 0)), (2, .ref (b2 0)), (3, .ref q9), (4, .int (nI i))]) hx hb dL_law_1549 hl (by decide) rfl (fun ls hl => ?_)
    refine lv_aload_n hx hb dL_law_1551 rfl (lv_at hl 4 rfl) ?_
    refine m0i (As := []) (rest := []) S (m_thrown l E b2 τ') (cwV 0 hts gL_law_X1_thrown rfl rfl rfl hdX1_thrown ⟨Nat.le_of_ble_eq_true rfl, Nat.le_of_ble_eq_true rfl⟩) hK hI.2.1 rfl hl.1 rfl (Nat.le_of_ble_eq_true rfl) ⟨by show cells + 1 ≤ 601024; omega, by show slots + 6 ≤ 7293034; omega⟩ dL_law_1552 ?_
    refine lv_iload hx hb dL_law_1555 (lv_at hl 1 rfl) ?_
    refine lv_icmp_eq (tgt := 1562) hx hb dL_law_1557 (by decide) (fun _ => ?_) (fun q => absurd ht q)
    refine lv_iload hx hb dL_law_1562 (lv_at hl 1 rfl) ?_
    refine lv_if_ne (tgt := 1579) hx hb dL_law_1564 (by decide) (fun c1564 => ?_) (fun c1564 => ?_)
    · refine lv_goto (tgt := 1950) hx hb dL_law_1579 (by decide) ?_
      exact nx σ' τ' f' H locs _ _ ls hr hI (lv_sub hl [2, 3, 4, 5, 6] rfl) (by omega) (by omega)
    · refine lv_aload_n hx hb dL_law_1567 rfl (lv_at hl 5 rfl) ?_
      refine lv_iconst (v := 0) hx hb dL_law_1568 (by decide) ?_
      refine g_lld hx hb hK hI.1 14 rfl (i := nI 0) (v := f' 0) (vp_in_nI (by decide) (by decide)) (by rw [nI_clamp (by decide)]) dL_law_1569 ?_
      refine lv_iload hx hb dL_law_1570 (lv_at hl 0 rfl) ?_
      refine lv_i2l hx hb dL_law_1572 rfl ?_
      refine W.lcmp hx hb dL_law_1573 ?_
      refine lv_if_eq (tgt := 1579) hx hb dL_law_1574 (by decide) (fun _ => ?_) (fun q => absurd ((by rw [show f' 0 = v.toInt64 from hp c1564]; exact lg_self _)) q)
      refine lv_goto (tgt := 1950) hx hb dL_law_1579 (by decide) ?_
      exact nx σ' τ' f' H locs _ _ ls hr hI (lv_sub hl [2, 3, 4, 5, 6] rfl) (by omega) (by omega)
set_option maxHeartbeats 4000000 in
set_option maxRecDepth 100000 in
theorem case_planTurnsRight (hC : LC p l s m c b L xs E) (h : RR σ τ) (hi : i + 4 ≤ L) (hc : cells + 42 ≤ 601024) (hs : slots + 214 ≤ 7293034) (hI : LI s E a b2 q9 σ τ f H locs) (hl : lv_has ls 9 [(0, .ref b), (1, .ref (a 0)), (2, .ref (b2 0)), (3, .ref q9), (4, .int (nI i))]) (nx : NX p l e s m below meth c cells slots Q b E a b2 q9 i) : W p l e room_1 s m #[Value.ref b] below meth c H locs cells slots Q (F0 m 1582 ls []) := by
  obtain ⟨S, hK, hZ, hN, hX, hbl, hL, hfl⟩ := hC
  obtain ⟨hx, hb, hml, hown, hts⟩ := id S
  obtain ⟨k, v, σ', τ', f', hw, hm, ht, hp, hr⟩ := op_planTurnsRight l hfl E a b2 σ τ h q9 f (xs (i + 1))
  refine lv_aload_n hx hb dL_law_1582 rfl (lv_at hl 1 rfl) ?_
  refine lv_aload_n hx hb dL_law_1583 rfl (lv_at hl 0 rfl) ?_
  refine lv_iload hx hb dL_law_1584 (lv_at hl 4 rfl) ?_
  refine lv_iconst (v := 1) hx hb dL_law_1586 (by decide) ?_
  refine lv_iadd hx hb dL_law_1587 ?_
  rw [show (nI i + 1 : Int32) = nI (i + 1) from nI_add _ 1]
  refine va_sld hx hb hX hbl (Nat.not_le.mpr hbl) hI.2.2.2 (i := nI (i + 1)) (vp_in_nI (by omega) (by omega)) dL_law_1588 ?_
  rw [nI_clamp (by omega)]
  refine lv_aload_n hx hb dL_law_1589 rfl (lv_at hl 3 rfl) ?_
  refine l_own (As := [.ref (a 0), .int (xs (i + 1)), .ref q9]) (rest := []) (σ' := σ') (f' := f') S hw (vx_cwSW 3 hts gL_law_L_planTurnsRight rfl rfl rfl hdL_planTurnsRight ⟨Nat.le_of_ble_eq_true rfl, Nat.le_of_ble_eq_true rfl⟩) hK hZ hN hI rfl hl.1 rfl (Nat.le_of_ble_eq_true rfl) ⟨by show cells + 1 ≤ 601024; omega, by show slots + 6 ≤ 7293034; omega⟩ dL_law_1590 (fun H locs hI => ?_)
  refine lv_istore (lv' := [(5, .int k), (0, .ref b), (1, .ref (a 0)), (2, .ref (b2 0)), (3, .ref q9), (4, .int (nI i))]) hx hb dL_law_1593 hl (by decide) rfl (fun ls hl => ?_)
  refine lv_aload_n hx hb dL_law_1595 rfl (lv_at hl 3 rfl) ?_
  refine lv_aload_n hx hb dL_law_1596 rfl (lv_at hl 1 rfl) ?_
  refine lv_iload hx hb dL_law_1597 (lv_at hl 5 rfl) ?_
  refine lv_iconst (v := 1) hx hb dL_law_1599 (by decide) ?_
  refine lv_iadd hx hb dL_law_1600 ?_
  rw [show (nI i + 1 : Int32) = nI (i + 1) from nI_add _ 1]
  refine va_sld hx hb hX hbl (Nat.not_le.mpr hbl) hI.2.2.2 (i := nI (i + 1)) (vp_in_nI (by omega) (by omega)) dL_law_1601 ?_
  rw [nI_clamp (by omega)]
  refine l_ref (As := [.int (xs (i + 1))]) (rest := []) (τ' := τ') S hm (cwV 1 hts gL_law_X1_planTurnsRight rfl rfl rfl hdX1_planTurnsRight ⟨Nat.le_of_ble_eq_true rfl, Nat.le_of_ble_eq_true rfl⟩) hK hI rfl hl.1 rfl (Nat.le_of_ble_eq_true rfl) ⟨by show cells + 1 ≤ 601024; omega, by show slots + 6 ≤ 7293034; omega⟩ dL_law_1602 (fun H locs hI => ?_)
  refine lv_istore (lv' := [(6, .int v), (5, .int k), (0, .ref b), (1, .ref (a 0)), (2, .ref (b2 0)), (3, .ref q9), (4, .int (nI i))]) hx hb dL_law_1605 hl (by decide) rfl (fun ls hl => ?_)
  refine lv_aload_n hx hb dL_law_1607 rfl (lv_at hl 4 rfl) ?_
  refine m0i (As := []) (rest := []) S (m_thrown l E b2 τ') (cwV 0 hts gL_law_X1_thrown rfl rfl rfl hdX1_thrown ⟨Nat.le_of_ble_eq_true rfl, Nat.le_of_ble_eq_true rfl⟩) hK hI.2.1 rfl hl.1 rfl (Nat.le_of_ble_eq_true rfl) ⟨by show cells + 1 ≤ 601024; omega, by show slots + 6 ≤ 7293034; omega⟩ dL_law_1608 ?_
  refine lv_iload hx hb dL_law_1611 (lv_at hl 1 rfl) ?_
  refine lv_icmp_eq (tgt := 1618) hx hb dL_law_1613 (by decide) (fun _ => ?_) (fun q => absurd ht q)
  refine lv_iload hx hb dL_law_1618 (lv_at hl 1 rfl) ?_
  refine lv_if_ne (tgt := 1642) hx hb dL_law_1620 (by decide) (fun c1620 => ?_) (fun c1620 => ?_)
  · refine lv_goto (tgt := 1950) hx hb dL_law_1642 (by decide) ?_
    exact nx σ' τ' f' H locs _ _ ls hr hI (lv_sub hl [2, 3, 4, 5, 6] rfl) (by omega) (by omega)
  · obtain ⟨x, hv, ho⟩ := hp c1620
    refine lv_aload_n hx hb dL_law_1623 rfl (lv_at hl 5 rfl) ?_
    refine lv_iconst (v := 0) hx hb dL_law_1624 (by decide) ?_
    refine g_lld hx hb hK hI.1 14 rfl (i := nI 0) (v := f' 0) (vp_in_nI (by decide) (by decide)) (by rw [nI_clamp (by decide)]) dL_law_1625 ?_
    refine lv_iload hx hb dL_law_1626 (lv_at hl 0 rfl) ?_
    refine lv_if_eq (tgt := 1635) hx hb dL_law_1628 (by decide) (fun c1628 => ?_) (fun c1628 => ?_)
    · refine lv_lconst (v := 0) hx hb dL_law_1635 (by decide) ?_
      refine W.lcmp hx hb dL_law_1636 ?_
      refine lv_if_eq (tgt := 1642) hx hb dL_law_1637 (by decide) (fun _ => ?_) (fun q => absurd ((by first | (rw [ho, bl, b2i_eq0.mp (show b2i x = 0 from hv ▸ c1628)]; exact lg_self _) | (rw [ho, bl, b2i_ne0.mp (show ¬ b2i x = 0 from hv ▸ c1628)]; exact lg_self _))) q)
      refine lv_goto (tgt := 1950) hx hb dL_law_1642 (by decide) ?_
      exact nx σ' τ' f' H locs _ _ ls hr hI (lv_sub hl [2, 3, 4, 5, 6] rfl) (by omega) (by omega)
    · refine lv_lconst (v := 1) hx hb dL_law_1631 (by decide) ?_
      refine lv_goto (tgt := 1636) hx hb dL_law_1632 (by decide) ?_
      refine W.lcmp hx hb dL_law_1636 ?_
      refine lv_if_eq (tgt := 1642) hx hb dL_law_1637 (by decide) (fun _ => ?_) (fun q => absurd ((by first | (rw [ho, bl, b2i_eq0.mp (show b2i x = 0 from hv ▸ c1628)]; exact lg_self _) | (rw [ho, bl, b2i_ne0.mp (show ¬ b2i x = 0 from hv ▸ c1628)]; exact lg_self _))) q)
      refine lv_goto (tgt := 1950) hx hb dL_law_1642 (by decide) ?_
      exact nx σ' τ' f' H locs _ _ ls hr hI (lv_sub hl [2, 3, 4, 5, 6] rfl) (by omega) (by omega)
set_option maxHeartbeats 4000000 in
set_option maxRecDepth 100000 in
theorem case_planLeadsTo (hC : LC p l s m c b L xs E) (h : RR σ τ) (hi : i + 4 ≤ L) (hc : cells + 42 ≤ 601024) (hs : slots + 214 ≤ 7293034) (hI : LI s E a b2 q9 σ τ f H locs) (hl : lv_has ls 9 [(0, .ref b), (1, .ref (a 0)), (2, .ref (b2 0)), (3, .ref q9), (4, .int (nI i))]) (nx : NX p l e s m below meth c cells slots Q b E a b2 q9 i) : W p l e room_1 s m #[Value.ref b] below meth c H locs cells slots Q (F0 m 1645 ls []) := by
  obtain ⟨S, hK, hZ, hN, hX, hbl, hL, hfl⟩ := hC
  obtain ⟨hx, hb, hml, hown, hts⟩ := id S
  obtain ⟨k, v, σ', τ', f', hw, hm, ht, hp, hr⟩ := op_planLeadsTo l hfl E a b2 σ τ h q9 f (xs (i + 1))
  refine lv_aload_n hx hb dL_law_1645 rfl (lv_at hl 1 rfl) ?_
  refine lv_aload_n hx hb dL_law_1646 rfl (lv_at hl 0 rfl) ?_
  refine lv_iload hx hb dL_law_1647 (lv_at hl 4 rfl) ?_
  refine lv_iconst (v := 1) hx hb dL_law_1649 (by decide) ?_
  refine lv_iadd hx hb dL_law_1650 ?_
  rw [show (nI i + 1 : Int32) = nI (i + 1) from nI_add _ 1]
  refine va_sld hx hb hX hbl (Nat.not_le.mpr hbl) hI.2.2.2 (i := nI (i + 1)) (vp_in_nI (by omega) (by omega)) dL_law_1651 ?_
  rw [nI_clamp (by omega)]
  refine lv_aload_n hx hb dL_law_1652 rfl (lv_at hl 3 rfl) ?_
  refine l_own (As := [.ref (a 0), .int (xs (i + 1)), .ref q9]) (rest := []) (σ' := σ') (f' := f') S hw (vx_cwSW 3 hts gL_law_L_planLeadsTo rfl rfl rfl hdL_planLeadsTo ⟨Nat.le_of_ble_eq_true rfl, Nat.le_of_ble_eq_true rfl⟩) hK hZ hN hI rfl hl.1 rfl (Nat.le_of_ble_eq_true rfl) ⟨by show cells + 1 ≤ 601024; omega, by show slots + 6 ≤ 7293034; omega⟩ dL_law_1653 (fun H locs hI => ?_)
  refine lv_istore (lv' := [(5, .int k), (0, .ref b), (1, .ref (a 0)), (2, .ref (b2 0)), (3, .ref q9), (4, .int (nI i))]) hx hb dL_law_1656 hl (by decide) rfl (fun ls hl => ?_)
  refine lv_aload_n hx hb dL_law_1658 rfl (lv_at hl 3 rfl) ?_
  refine lv_aload_n hx hb dL_law_1659 rfl (lv_at hl 1 rfl) ?_
  refine lv_iload hx hb dL_law_1660 (lv_at hl 5 rfl) ?_
  refine lv_iconst (v := 1) hx hb dL_law_1662 (by decide) ?_
  refine lv_iadd hx hb dL_law_1663 ?_
  rw [show (nI i + 1 : Int32) = nI (i + 1) from nI_add _ 1]
  refine va_sld hx hb hX hbl (Nat.not_le.mpr hbl) hI.2.2.2 (i := nI (i + 1)) (vp_in_nI (by omega) (by omega)) dL_law_1664 ?_
  rw [nI_clamp (by omega)]
  refine l_ref (As := [.int (xs (i + 1))]) (rest := []) (τ' := τ') S hm (cwV 1 hts gL_law_X1_planLeadsTo rfl rfl rfl hdX1_planLeadsTo ⟨Nat.le_of_ble_eq_true rfl, Nat.le_of_ble_eq_true rfl⟩) hK hI rfl hl.1 rfl (Nat.le_of_ble_eq_true rfl) ⟨by show cells + 1 ≤ 601024; omega, by show slots + 6 ≤ 7293034; omega⟩ dL_law_1665 (fun H locs hI => ?_)
  refine lv_istore (lv' := [(6, .int v), (5, .int k), (0, .ref b), (1, .ref (a 0)), (2, .ref (b2 0)), (3, .ref q9), (4, .int (nI i))]) hx hb dL_law_1668 hl (by decide) rfl (fun ls hl => ?_)
  refine lv_aload_n hx hb dL_law_1670 rfl (lv_at hl 4 rfl) ?_
  refine m0i (As := []) (rest := []) S (m_thrown l E b2 τ') (cwV 0 hts gL_law_X1_thrown rfl rfl rfl hdX1_thrown ⟨Nat.le_of_ble_eq_true rfl, Nat.le_of_ble_eq_true rfl⟩) hK hI.2.1 rfl hl.1 rfl (Nat.le_of_ble_eq_true rfl) ⟨by show cells + 1 ≤ 601024; omega, by show slots + 6 ≤ 7293034; omega⟩ dL_law_1671 ?_
  refine lv_iload hx hb dL_law_1674 (lv_at hl 1 rfl) ?_
  refine lv_icmp_eq (tgt := 1681) hx hb dL_law_1676 (by decide) (fun _ => ?_) (fun q => absurd ht q)
  refine lv_iload hx hb dL_law_1681 (lv_at hl 1 rfl) ?_
  refine lv_if_ne (tgt := 1698) hx hb dL_law_1683 (by decide) (fun c1683 => ?_) (fun c1683 => ?_)
  · refine lv_goto (tgt := 1950) hx hb dL_law_1698 (by decide) ?_
    exact nx σ' τ' f' H locs _ _ ls hr hI (lv_sub hl [2, 3, 4, 5, 6] rfl) (by omega) (by omega)
  · refine lv_aload_n hx hb dL_law_1686 rfl (lv_at hl 5 rfl) ?_
    refine lv_iconst (v := 0) hx hb dL_law_1687 (by decide) ?_
    refine g_lld hx hb hK hI.1 14 rfl (i := nI 0) (v := f' 0) (vp_in_nI (by decide) (by decide)) (by rw [nI_clamp (by decide)]) dL_law_1688 ?_
    refine lv_iload hx hb dL_law_1689 (lv_at hl 0 rfl) ?_
    refine lv_i2l hx hb dL_law_1691 rfl ?_
    refine W.lcmp hx hb dL_law_1692 ?_
    refine lv_if_eq (tgt := 1698) hx hb dL_law_1693 (by decide) (fun _ => ?_) (fun q => absurd ((by rw [show f' 0 = v.toInt64 from hp c1683]; exact lg_self _)) q)
    refine lv_goto (tgt := 1950) hx hb dL_law_1698 (by decide) ?_
    exact nx σ' τ' f' H locs _ _ ls hr hI (lv_sub hl [2, 3, 4, 5, 6] rfl) (by omega) (by omega)
set_option maxHeartbeats 4000000 in
set_option maxRecDepth 100000 in
theorem case_riskiestFork (hC : LC p l s m c b L xs E) (h : RR σ τ) (hi : i + 4 ≤ L) (hc : cells + 42 ≤ 601024) (hs : slots + 214 ≤ 7293034) (hI : LI s E a b2 q9 σ τ f H locs) (hl : lv_has ls 9 [(0, .ref b), (1, .ref (a 0)), (2, .ref (b2 0)), (3, .ref q9), (4, .int (nI i))]) (nx : NX p l e s m below meth c cells slots Q b E a b2 q9 i) : W p l e room_1 s m #[Value.ref b] below meth c H locs cells slots Q (F0 m 1701 ls []) := by
  obtain ⟨S, hK, hZ, hN, hX, hbl, hL, hfl⟩ := hC
  obtain ⟨hx, hb, hml, hown, hts⟩ := id S
  refine lv_aload_n hx hb dL_law_1701 rfl (lv_at hl 1 rfl) ?_
  refine g0i (As := []) (rest := []) S (c_riskiestFork l E a σ h.gok) (cwV 0 hts gL_law_X0_riskiestFork rfl rfl rfl hdX0_riskiestFork ⟨Nat.le_of_ble_eq_true rfl, Nat.le_of_ble_eq_true rfl⟩) hK (gO_l hI.1) rfl hl.1 rfl (Nat.le_of_ble_eq_true rfl) ⟨by show cells ≤ 601024; omega, by show slots ≤ 7293034; omega⟩ dL_law_1702 ?_
  refine lv_aload_n hx hb dL_law_1705 rfl (lv_at hl 2 rfl) ?_
  refine l_ref (As := []) (rest := [.int ((gRf σ).1)]) (τ' := (mThr (mTab τ) 0)) S (fun sz => m_riskiestFork l E b2 τ sz h.mok) (cwV 0 hts gL_law_X1_riskiestFork rfl rfl rfl hdX1_riskiestFork ⟨Nat.le_of_ble_eq_true rfl, Nat.le_of_ble_eq_true rfl⟩) hK hI rfl hl.1 rfl (Nat.le_of_ble_eq_true rfl) ⟨by show cells ≤ 601024; omega, by show slots ≤ 7293034; omega⟩ dL_law_1706 (fun H locs hI => ?_)
  refine lv_icmp_eq (tgt := 1950) hx hb dL_law_1709 (by decide) (fun _ => ?_) (fun q => absurd ((by rw [h.tab.rf h.tt])) q)
  exact nx σ ((mThr (mTab τ) 0)) f H locs _ _ ls (h.tab.thr 0) hI (lv_sub hl [0, 1, 2, 3, 4] rfl) (by omega) (by omega)
set_option maxHeartbeats 4000000 in
set_option maxRecDepth 100000 in
theorem case_hindsight (hC : LC p l s m c b L xs E) (h : RR σ τ) (hi : i + 4 ≤ L) (hc : cells + 42 ≤ 601024) (hs : slots + 214 ≤ 7293034) (hI : LI s E a b2 q9 σ τ f H locs) (hl : lv_has ls 9 [(0, .ref b), (1, .ref (a 0)), (2, .ref (b2 0)), (3, .ref q9), (4, .int (nI i))]) (nx : NX p l e s m below meth c cells slots Q b E a b2 q9 i) : W p l e room_1 s m #[Value.ref b] below meth c H locs cells slots Q (F0 m 1714 ls []) := by
  obtain ⟨S, hK, hZ, hN, hX, hbl, hL, hfl⟩ := hC
  obtain ⟨hx, hb, hml, hown, hts⟩ := id S
  obtain ⟨k, v, σ', τ', f', hw, hm, ht, hp, hr⟩ := op_hindsight l hfl E a b2 σ τ h q9 f (xs (i + 1))
  refine lv_aload_n hx hb dL_law_1714 rfl (lv_at hl 1 rfl) ?_
  refine lv_aload_n hx hb dL_law_1715 rfl (lv_at hl 0 rfl) ?_
  refine lv_iload hx hb dL_law_1716 (lv_at hl 4 rfl) ?_
  refine lv_iconst (v := 1) hx hb dL_law_1718 (by decide) ?_
  refine lv_iadd hx hb dL_law_1719 ?_
  rw [show (nI i + 1 : Int32) = nI (i + 1) from nI_add _ 1]
  refine va_sld hx hb hX hbl (Nat.not_le.mpr hbl) hI.2.2.2 (i := nI (i + 1)) (vp_in_nI (by omega) (by omega)) dL_law_1720 ?_
  rw [nI_clamp (by omega)]
  refine lv_aload_n hx hb dL_law_1721 rfl (lv_at hl 3 rfl) ?_
  refine l_own (As := [.ref (a 0), .int (xs (i + 1)), .ref q9]) (rest := []) (σ' := σ') (f' := f') S hw (vx_cwSW 3 hts gL_law_L_hindsight rfl rfl rfl hdL_hindsight ⟨Nat.le_of_ble_eq_true rfl, Nat.le_of_ble_eq_true rfl⟩) hK hZ hN hI rfl hl.1 rfl (Nat.le_of_ble_eq_true rfl) ⟨by show cells + 1 ≤ 601024; omega, by show slots + 6 ≤ 7293034; omega⟩ dL_law_1722 (fun H locs hI => ?_)
  refine lv_istore (lv' := [(5, .int k), (0, .ref b), (1, .ref (a 0)), (2, .ref (b2 0)), (3, .ref q9), (4, .int (nI i))]) hx hb dL_law_1725 hl (by decide) rfl (fun ls hl => ?_)
  refine lv_aload_n hx hb dL_law_1727 rfl (lv_at hl 3 rfl) ?_
  refine lv_aload_n hx hb dL_law_1728 rfl (lv_at hl 1 rfl) ?_
  refine lv_iload hx hb dL_law_1729 (lv_at hl 5 rfl) ?_
  refine lv_iconst (v := 1) hx hb dL_law_1731 (by decide) ?_
  refine lv_iadd hx hb dL_law_1732 ?_
  rw [show (nI i + 1 : Int32) = nI (i + 1) from nI_add _ 1]
  refine va_sld hx hb hX hbl (Nat.not_le.mpr hbl) hI.2.2.2 (i := nI (i + 1)) (vp_in_nI (by omega) (by omega)) dL_law_1733 ?_
  rw [nI_clamp (by omega)]
  refine l_ref (As := [.int (xs (i + 1))]) (rest := []) (τ' := τ') S hm (cwV 1 hts gL_law_X1_hindsight rfl rfl rfl hdX1_hindsight ⟨Nat.le_of_ble_eq_true rfl, Nat.le_of_ble_eq_true rfl⟩) hK hI rfl hl.1 rfl (Nat.le_of_ble_eq_true rfl) ⟨by show cells + 1 ≤ 601024; omega, by show slots + 6 ≤ 7293034; omega⟩ dL_law_1734 (fun H locs hI => ?_)
  refine lv_istore (lv' := [(6, .int v), (5, .int k), (0, .ref b), (1, .ref (a 0)), (2, .ref (b2 0)), (3, .ref q9), (4, .int (nI i))]) hx hb dL_law_1737 hl (by decide) rfl (fun ls hl => ?_)
  refine lv_aload_n hx hb dL_law_1739 rfl (lv_at hl 4 rfl) ?_
  refine m0i (As := []) (rest := []) S (m_thrown l E b2 τ') (cwV 0 hts gL_law_X1_thrown rfl rfl rfl hdX1_thrown ⟨Nat.le_of_ble_eq_true rfl, Nat.le_of_ble_eq_true rfl⟩) hK hI.2.1 rfl hl.1 rfl (Nat.le_of_ble_eq_true rfl) ⟨by show cells + 1 ≤ 601024; omega, by show slots + 6 ≤ 7293034; omega⟩ dL_law_1740 ?_
  refine lv_iload hx hb dL_law_1743 (lv_at hl 1 rfl) ?_
  refine lv_icmp_eq (tgt := 1750) hx hb dL_law_1745 (by decide) (fun _ => ?_) (fun q => absurd ht q)
  refine lv_iload hx hb dL_law_1750 (lv_at hl 1 rfl) ?_
  refine lv_if_ne (tgt := 1767) hx hb dL_law_1752 (by decide) (fun c1752 => ?_) (fun c1752 => ?_)
  · refine lv_goto (tgt := 1950) hx hb dL_law_1767 (by decide) ?_
    exact nx σ' τ' f' H locs _ _ ls hr hI (lv_sub hl [2, 3, 4, 5, 6] rfl) (by omega) (by omega)
  · refine lv_aload_n hx hb dL_law_1755 rfl (lv_at hl 5 rfl) ?_
    refine lv_iconst (v := 0) hx hb dL_law_1756 (by decide) ?_
    refine g_lld hx hb hK hI.1 14 rfl (i := nI 0) (v := f' 0) (vp_in_nI (by decide) (by decide)) (by rw [nI_clamp (by decide)]) dL_law_1757 ?_
    refine lv_iload hx hb dL_law_1758 (lv_at hl 0 rfl) ?_
    refine lv_i2l hx hb dL_law_1760 rfl ?_
    refine W.lcmp hx hb dL_law_1761 ?_
    refine lv_if_eq (tgt := 1767) hx hb dL_law_1762 (by decide) (fun _ => ?_) (fun q => absurd ((by rw [show f' 0 = v.toInt64 from hp c1752]; exact lg_self _)) q)
    refine lv_goto (tgt := 1950) hx hb dL_law_1767 (by decide) ?_
    exact nx σ' τ' f' H locs _ _ ls hr hI (lv_sub hl [2, 3, 4, 5, 6] rfl) (by omega) (by omega)
set_option maxHeartbeats 4000000 in
set_option maxRecDepth 100000 in
theorem case_regretOf (hC : LC p l s m c b L xs E) (h : RR σ τ) (hi : i + 4 ≤ L) (hc : cells + 42 ≤ 601024) (hs : slots + 214 ≤ 7293034) (hI : LI s E a b2 q9 σ τ f H locs) (hl : lv_has ls 9 [(0, .ref b), (1, .ref (a 0)), (2, .ref (b2 0)), (3, .ref q9), (4, .int (nI i))]) (nx : NX p l e s m below meth c cells slots Q b E a b2 q9 i) : W p l e room_1 s m #[Value.ref b] below meth c H locs cells slots Q (F0 m 1770 ls []) := by
  obtain ⟨S, hK, hZ, hN, hX, hbl, hL, hfl⟩ := hC
  obtain ⟨hx, hb, hml, hown, hts⟩ := id S
  obtain ⟨k, v, σ', τ', f', hw, hm, ht, hp, hr⟩ := op_regretOf l hfl E a b2 σ τ h q9 f (xs (i + 1))
  refine lv_aload_n hx hb dL_law_1770 rfl (lv_at hl 1 rfl) ?_
  refine lv_aload_n hx hb dL_law_1771 rfl (lv_at hl 0 rfl) ?_
  refine lv_iload hx hb dL_law_1772 (lv_at hl 4 rfl) ?_
  refine lv_iconst (v := 1) hx hb dL_law_1774 (by decide) ?_
  refine lv_iadd hx hb dL_law_1775 ?_
  rw [show (nI i + 1 : Int32) = nI (i + 1) from nI_add _ 1]
  refine va_sld hx hb hX hbl (Nat.not_le.mpr hbl) hI.2.2.2 (i := nI (i + 1)) (vp_in_nI (by omega) (by omega)) dL_law_1776 ?_
  rw [nI_clamp (by omega)]
  refine lv_aload_n hx hb dL_law_1777 rfl (lv_at hl 3 rfl) ?_
  refine l_own (As := [.ref (a 0), .int (xs (i + 1)), .ref q9]) (rest := []) (σ' := σ') (f' := f') S hw (vx_cwSW 3 hts gL_law_L_regretOf rfl rfl rfl hdL_regretOf ⟨Nat.le_of_ble_eq_true rfl, Nat.le_of_ble_eq_true rfl⟩) hK hZ hN hI rfl hl.1 rfl (Nat.le_of_ble_eq_true rfl) ⟨by show cells + 1 ≤ 601024; omega, by show slots + 6 ≤ 7293034; omega⟩ dL_law_1778 (fun H locs hI => ?_)
  refine lv_istore (lv' := [(5, .int k), (0, .ref b), (1, .ref (a 0)), (2, .ref (b2 0)), (3, .ref q9), (4, .int (nI i))]) hx hb dL_law_1781 hl (by decide) rfl (fun ls hl => ?_)
  refine lv_aload_n hx hb dL_law_1783 rfl (lv_at hl 3 rfl) ?_
  refine lv_aload_n hx hb dL_law_1784 rfl (lv_at hl 1 rfl) ?_
  refine lv_iload hx hb dL_law_1785 (lv_at hl 5 rfl) ?_
  refine lv_iconst (v := 1) hx hb dL_law_1787 (by decide) ?_
  refine lv_iadd hx hb dL_law_1788 ?_
  rw [show (nI i + 1 : Int32) = nI (i + 1) from nI_add _ 1]
  refine va_sld hx hb hX hbl (Nat.not_le.mpr hbl) hI.2.2.2 (i := nI (i + 1)) (vp_in_nI (by omega) (by omega)) dL_law_1789 ?_
  rw [nI_clamp (by omega)]
  refine l_ref (As := [.int (xs (i + 1))]) (rest := []) (τ' := τ') S hm (cwV 1 hts gL_law_X1_regretOf rfl rfl rfl hdX1_regretOf ⟨Nat.le_of_ble_eq_true rfl, Nat.le_of_ble_eq_true rfl⟩) hK hI rfl hl.1 rfl (Nat.le_of_ble_eq_true rfl) ⟨by show cells + 1 ≤ 601024; omega, by show slots + 6 ≤ 7293034; omega⟩ dL_law_1790 (fun H locs hI => ?_)
  refine lv_istore (lv' := [(6, .int v), (5, .int k), (0, .ref b), (1, .ref (a 0)), (2, .ref (b2 0)), (3, .ref q9), (4, .int (nI i))]) hx hb dL_law_1793 hl (by decide) rfl (fun ls hl => ?_)
  refine lv_aload_n hx hb dL_law_1795 rfl (lv_at hl 4 rfl) ?_
  refine m0i (As := []) (rest := []) S (m_thrown l E b2 τ') (cwV 0 hts gL_law_X1_thrown rfl rfl rfl hdX1_thrown ⟨Nat.le_of_ble_eq_true rfl, Nat.le_of_ble_eq_true rfl⟩) hK hI.2.1 rfl hl.1 rfl (Nat.le_of_ble_eq_true rfl) ⟨by show cells + 1 ≤ 601024; omega, by show slots + 6 ≤ 7293034; omega⟩ dL_law_1796 ?_
  refine lv_iload hx hb dL_law_1799 (lv_at hl 1 rfl) ?_
  refine lv_icmp_eq (tgt := 1806) hx hb dL_law_1801 (by decide) (fun _ => ?_) (fun q => absurd ht q)
  refine lv_iload hx hb dL_law_1806 (lv_at hl 1 rfl) ?_
  refine lv_if_ne (tgt := 1823) hx hb dL_law_1808 (by decide) (fun c1808 => ?_) (fun c1808 => ?_)
  · refine lv_goto (tgt := 1950) hx hb dL_law_1823 (by decide) ?_
    exact nx σ' τ' f' H locs _ _ ls hr hI (lv_sub hl [2, 3, 4, 5, 6] rfl) (by omega) (by omega)
  · refine lv_aload_n hx hb dL_law_1811 rfl (lv_at hl 5 rfl) ?_
    refine lv_iconst (v := 0) hx hb dL_law_1812 (by decide) ?_
    refine g_lld hx hb hK hI.1 14 rfl (i := nI 0) (v := f' 0) (vp_in_nI (by decide) (by decide)) (by rw [nI_clamp (by decide)]) dL_law_1813 ?_
    refine lv_iload hx hb dL_law_1814 (lv_at hl 0 rfl) ?_
    refine lv_i2l hx hb dL_law_1816 rfl ?_
    refine W.lcmp hx hb dL_law_1817 ?_
    refine lv_if_eq (tgt := 1823) hx hb dL_law_1818 (by decide) (fun _ => ?_) (fun q => absurd ((by rw [show f' 0 = v.toInt64 from hp c1808]; exact lg_self _)) q)
    refine lv_goto (tgt := 1950) hx hb dL_law_1823 (by decide) ?_
    exact nx σ' τ' f' H locs _ _ ls hr hI (lv_sub hl [2, 3, 4, 5, 6] rfl) (by omega) (by omega)
set_option maxHeartbeats 4000000 in
set_option maxRecDepth 100000 in
theorem case_worstFork (hC : LC p l s m c b L xs E) (h : RR σ τ) (hi : i + 4 ≤ L) (hc : cells + 42 ≤ 601024) (hs : slots + 214 ≤ 7293034) (hI : LI s E a b2 q9 σ τ f H locs) (hl : lv_has ls 9 [(0, .ref b), (1, .ref (a 0)), (2, .ref (b2 0)), (3, .ref q9), (4, .int (nI i))]) (nx : NX p l e s m below meth c cells slots Q b E a b2 q9 i) : W p l e room_1 s m #[Value.ref b] below meth c H locs cells slots Q (F0 m 1826 ls []) := by
  obtain ⟨S, hK, hZ, hN, hX, hbl, hL, hfl⟩ := hC
  obtain ⟨hx, hb, hml, hown, hts⟩ := id S
  obtain ⟨k, v, σ', τ', f', hw, hm, ht, hp, hr⟩ := op_worstFork l hfl E a b2 σ τ h q9 f (xs (i + 1))
  refine lv_aload_n hx hb dL_law_1826 rfl (lv_at hl 1 rfl) ?_
  refine lv_aload_n hx hb dL_law_1827 rfl (lv_at hl 0 rfl) ?_
  refine lv_iload hx hb dL_law_1828 (lv_at hl 4 rfl) ?_
  refine lv_iconst (v := 1) hx hb dL_law_1830 (by decide) ?_
  refine lv_iadd hx hb dL_law_1831 ?_
  rw [show (nI i + 1 : Int32) = nI (i + 1) from nI_add _ 1]
  refine va_sld hx hb hX hbl (Nat.not_le.mpr hbl) hI.2.2.2 (i := nI (i + 1)) (vp_in_nI (by omega) (by omega)) dL_law_1832 ?_
  rw [nI_clamp (by omega)]
  refine lv_aload_n hx hb dL_law_1833 rfl (lv_at hl 3 rfl) ?_
  refine l_own (As := [.ref (a 0), .int (xs (i + 1)), .ref q9]) (rest := []) (σ' := σ') (f' := f') S hw (vx_cwSW 3 hts gL_law_L_worstFork rfl rfl rfl hdL_worstFork ⟨Nat.le_of_ble_eq_true rfl, Nat.le_of_ble_eq_true rfl⟩) hK hZ hN hI rfl hl.1 rfl (Nat.le_of_ble_eq_true rfl) ⟨by show cells + 1 ≤ 601024; omega, by show slots + 6 ≤ 7293034; omega⟩ dL_law_1834 (fun H locs hI => ?_)
  refine lv_istore (lv' := [(5, .int k), (0, .ref b), (1, .ref (a 0)), (2, .ref (b2 0)), (3, .ref q9), (4, .int (nI i))]) hx hb dL_law_1837 hl (by decide) rfl (fun ls hl => ?_)
  refine lv_aload_n hx hb dL_law_1839 rfl (lv_at hl 3 rfl) ?_
  refine lv_aload_n hx hb dL_law_1840 rfl (lv_at hl 1 rfl) ?_
  refine lv_iload hx hb dL_law_1841 (lv_at hl 5 rfl) ?_
  refine lv_iconst (v := 1) hx hb dL_law_1843 (by decide) ?_
  refine lv_iadd hx hb dL_law_1844 ?_
  rw [show (nI i + 1 : Int32) = nI (i + 1) from nI_add _ 1]
  refine va_sld hx hb hX hbl (Nat.not_le.mpr hbl) hI.2.2.2 (i := nI (i + 1)) (vp_in_nI (by omega) (by omega)) dL_law_1845 ?_
  rw [nI_clamp (by omega)]
  refine l_ref (As := [.int (xs (i + 1))]) (rest := []) (τ' := τ') S hm (cwV 1 hts gL_law_X1_worstFork rfl rfl rfl hdX1_worstFork ⟨Nat.le_of_ble_eq_true rfl, Nat.le_of_ble_eq_true rfl⟩) hK hI rfl hl.1 rfl (Nat.le_of_ble_eq_true rfl) ⟨by show cells + 1 ≤ 601024; omega, by show slots + 6 ≤ 7293034; omega⟩ dL_law_1846 (fun H locs hI => ?_)
  refine lv_istore (lv' := [(6, .int v), (5, .int k), (0, .ref b), (1, .ref (a 0)), (2, .ref (b2 0)), (3, .ref q9), (4, .int (nI i))]) hx hb dL_law_1849 hl (by decide) rfl (fun ls hl => ?_)
  refine lv_aload_n hx hb dL_law_1851 rfl (lv_at hl 4 rfl) ?_
  refine m0i (As := []) (rest := []) S (m_thrown l E b2 τ') (cwV 0 hts gL_law_X1_thrown rfl rfl rfl hdX1_thrown ⟨Nat.le_of_ble_eq_true rfl, Nat.le_of_ble_eq_true rfl⟩) hK hI.2.1 rfl hl.1 rfl (Nat.le_of_ble_eq_true rfl) ⟨by show cells + 1 ≤ 601024; omega, by show slots + 6 ≤ 7293034; omega⟩ dL_law_1852 ?_
  refine lv_iload hx hb dL_law_1855 (lv_at hl 1 rfl) ?_
  refine lv_icmp_eq (tgt := 1862) hx hb dL_law_1857 (by decide) (fun _ => ?_) (fun q => absurd ht q)
  refine lv_iload hx hb dL_law_1862 (lv_at hl 1 rfl) ?_
  refine lv_if_ne (tgt := 1879) hx hb dL_law_1864 (by decide) (fun c1864 => ?_) (fun c1864 => ?_)
  · refine lv_goto (tgt := 1950) hx hb dL_law_1879 (by decide) ?_
    exact nx σ' τ' f' H locs _ _ ls hr hI (lv_sub hl [2, 3, 4, 5, 6] rfl) (by omega) (by omega)
  · refine lv_aload_n hx hb dL_law_1867 rfl (lv_at hl 5 rfl) ?_
    refine lv_iconst (v := 0) hx hb dL_law_1868 (by decide) ?_
    refine g_lld hx hb hK hI.1 14 rfl (i := nI 0) (v := f' 0) (vp_in_nI (by decide) (by decide)) (by rw [nI_clamp (by decide)]) dL_law_1869 ?_
    refine lv_iload hx hb dL_law_1870 (lv_at hl 0 rfl) ?_
    refine lv_i2l hx hb dL_law_1872 rfl ?_
    refine W.lcmp hx hb dL_law_1873 ?_
    refine lv_if_eq (tgt := 1879) hx hb dL_law_1874 (by decide) (fun _ => ?_) (fun q => absurd ((by rw [show f' 0 = v.toInt64 from hp c1864]; exact lg_self _)) q)
    refine lv_goto (tgt := 1950) hx hb dL_law_1879 (by decide) ?_
    exact nx σ' τ' f' H locs _ _ ls hr hI (lv_sub hl [2, 3, 4, 5, 6] rfl) (by omega) (by omega)
set_option maxHeartbeats 4000000 in
set_option maxRecDepth 100000 in
theorem case_allRegret (hC : LC p l s m c b L xs E) (h : RR σ τ) (hi : i + 4 ≤ L) (hc : cells + 42 ≤ 601024) (hs : slots + 214 ≤ 7293034) (hI : LI s E a b2 q9 σ τ f H locs) (hl : lv_has ls 9 [(0, .ref b), (1, .ref (a 0)), (2, .ref (b2 0)), (3, .ref q9), (4, .int (nI i))]) (nx : NX p l e s m below meth c cells slots Q b E a b2 q9 i) : W p l e room_1 s m #[Value.ref b] below meth c H locs cells slots Q (F0 m 1882 ls []) := by
  obtain ⟨S, hK, hZ, hN, hX, hbl, hL, hfl⟩ := hC
  obtain ⟨hx, hb, hml, hown, hts⟩ := id S
  refine lv_aload_n hx hb dL_law_1882 rfl (lv_at hl 1 rfl) ?_
  refine g0i (As := []) (rest := []) S (c_allRegret l E a σ h.gok) (cwV 0 hts gL_law_X0_allRegret rfl rfl rfl hdX0_allRegret ⟨Nat.le_of_ble_eq_true rfl, Nat.le_of_ble_eq_true rfl⟩) hK (gO_l hI.1) rfl hl.1 rfl (Nat.le_of_ble_eq_true rfl) ⟨by show cells ≤ 601024; omega, by show slots ≤ 7293034; omega⟩ dL_law_1883 ?_
  refine lv_aload_n hx hb dL_law_1886 rfl (lv_at hl 2 rfl) ?_
  refine l_ref (As := []) (rest := [.int (gAll σ)]) (τ' := (mThr τ 0)) S (fun sz => m_allRegret l E b2 τ sz h.mok) (cwV 0 hts gL_law_X1_allRegret rfl rfl rfl hdX1_allRegret ⟨Nat.le_of_ble_eq_true rfl, Nat.le_of_ble_eq_true rfl⟩) hK hI rfl hl.1 rfl (Nat.le_of_ble_eq_true rfl) ⟨by show cells ≤ 601024; omega, by show slots ≤ 7293034; omega⟩ dL_law_1887 (fun H locs hI => ?_)
  refine lv_icmp_eq (tgt := 1950) hx hb dL_law_1890 (by decide) (fun _ => ?_) (fun q => absurd h.all.symm q)
  exact nx σ ((mThr τ 0)) f H locs _ _ ls (h.thr 0) hI (lv_sub hl [0, 1, 2, 3, 4] rfl) (by omega) (by omega)
set_option maxHeartbeats 4000000 in
set_option maxRecDepth 100000 in
theorem case_meanGrade (hC : LC p l s m c b L xs E) (h : RR σ τ) (hi : i + 4 ≤ L) (hc : cells + 42 ≤ 601024) (hs : slots + 214 ≤ 7293034) (hI : LI s E a b2 q9 σ τ f H locs) (hl : lv_has ls 9 [(0, .ref b), (1, .ref (a 0)), (2, .ref (b2 0)), (3, .ref q9), (4, .int (nI i))]) (nx : NX p l e s m below meth c cells slots Q b E a b2 q9 i) : W p l e room_1 s m #[Value.ref b] below meth c H locs cells slots Q (F0 m 1895 ls []) := by
  obtain ⟨S, hK, hZ, hN, hX, hbl, hL, hfl⟩ := hC
  obtain ⟨hx, hb, hml, hown, hts⟩ := id S
  obtain ⟨z, hz⟩ : ∃ z, dMean (gs σ) (gc σ) = z := ⟨_, rfl⟩
  have hcm : Met l yX0_meanGrade wsX0_meanGrade rmZ (va_Pc [.ref (a 0)] (gB E (gW E a σ))) (vp_Sd (fun r => r = z)) 0 0 (fun _ => False) := by
    have q := c_meanGrade l E a σ (by rw [h.2.2.2.2.2.2.1, h.2.2.2.2.2.2.2]; exact h.ne)
    rw [hz] at q; exact q
  have hmm : ∀ sz, Met l yX1_meanGrade wsX1_meanGrade { frames := 1, cells := 0, slots := 0, locals := 22 } (va_Pc [.ref (b2 0)] (gBw E sz (mW E b2 τ))) (gQd E z (mW E b2 τ) (mW E b2 (mThr τ 0)) sz) 0 0 (va_A (mW E b2 τ) sz) := by
    intro sz
    have q := m_meanGrade l E b2 τ sz h.mok h.ne
    rw [← h.2.2.2.2.2.2.1, ← h.2.2.2.2.2.2.2, hz] at q; exact q
  refine lv_aload_n hx hb dL_law_1895 rfl (lv_at hl 1 rfl) ?_
  refine g0d (As := []) (rest := []) S hcm (cwV 0 hts gL_law_X0_meanGrade rfl rfl rfl hdX0_meanGrade ⟨Nat.le_of_ble_eq_true rfl, Nat.le_of_ble_eq_true rfl⟩) hK (gO_l hI.1) rfl hl.1 rfl (Nat.le_of_ble_eq_true rfl) ⟨by show cells ≤ 601024; omega, by show slots ≤ 7293034; omega⟩ dL_law_1896 ?_
  refine lv_dstore (lv' := [(5, .double z), (0, .ref b), (1, .ref (a 0)), (2, .ref (b2 0)), (3, .ref q9), (4, .int (nI i))]) hx hb dL_law_1899 hl (by decide) rfl (fun ls hl => ?_)
  refine lv_aload_n hx hb dL_law_1901 rfl (lv_at hl 3 rfl) ?_
  refine l_refd (As := []) (rest := []) (τ' := mThr τ 0) S hmm (cwV 0 hts gL_law_X1_meanGrade rfl rfl rfl hdX1_meanGrade ⟨Nat.le_of_ble_eq_true rfl, Nat.le_of_ble_eq_true rfl⟩) hK hI rfl hl.1 rfl (Nat.le_of_ble_eq_true rfl) ⟨by show cells ≤ 601024; omega, by show slots ≤ 7293034; omega⟩ dL_law_1902 (fun H locs hI => ?_)
  refine lv_dstore (lv' := [(7, .double z), (5, .double z), (0, .ref b), (1, .ref (a 0)), (2, .ref (b2 0)), (3, .ref q9), (4, .int (nI i))]) hx hb dL_law_1905 hl (by decide) rfl (fun ls hl => ?_)
  refine lv_dload hx hb dL_law_1907 (lv_at hl 1 rfl) ?_
  refine lv_dload hx hb dL_law_1909 (lv_at hl 0 rfl) ?_
  refine lv_dcmp hx hb dL_law_1911 ?_
  refine lv_if_eq (tgt := 1933) hx hb dL_law_1912 (by decide) (fun c1912 => ?_) (fun c1912 => ?_)
  · refine lv_goto (tgt := 1950) hx hb dL_law_1933 (by decide) ?_
    exact nx σ ((mThr τ 0)) f H locs _ _ ls (h.thr 0) hI (lv_sub hl [2, 3, 4, 5, 6] rfl) (by omega) (by omega)
  · refine lv_dload hx hb dL_law_1915 (lv_at hl 1 rfl) ?_
    refine lv_dload hx hb dL_law_1917 (lv_at hl 1 rfl) ?_
    refine lv_dcmp hx hb dL_law_1919 ?_
    refine lv_if_eq (tgt := 1931) hx hb dL_law_1920 (by decide) (fun q => absurd q c1912) (fun _ => ?_)
    refine lv_dload hx hb dL_law_1923 (lv_at hl 0 rfl) ?_
    refine lv_dload hx hb dL_law_1925 (lv_at hl 0 rfl) ?_
    refine lv_dcmp hx hb dL_law_1927 ?_
    refine lv_if_ne (tgt := 1933) hx hb dL_law_1928 (by decide) (fun _ => ?_) (fun q => absurd q c1912)
    refine lv_goto (tgt := 1950) hx hb dL_law_1933 (by decide) ?_
    exact nx σ ((mThr τ 0)) f H locs _ _ ls (h.thr 0) hI (lv_sub hl [2, 3, 4, 5, 6] rfl) (by omega) (by omega)
set_option maxHeartbeats 4000000 in
set_option maxRecDepth 100000 in
theorem case_digest (hC : LC p l s m c b L xs E) (h : RR σ τ) (hi : i + 4 ≤ L) (hc : cells + 42 ≤ 601024) (hs : slots + 214 ≤ 7293034) (hI : LI s E a b2 q9 σ τ f H locs) (hl : lv_has ls 9 [(0, .ref b), (1, .ref (a 0)), (2, .ref (b2 0)), (3, .ref q9), (4, .int (nI i))]) (nx : NX p l e s m below meth c cells slots Q b E a b2 q9 i) : W p l e room_1 s m #[Value.ref b] below meth c H locs cells slots Q (F0 m 1936 ls []) := by
  obtain ⟨S, hK, hZ, hN, hX, hbl, hL, hfl⟩ := hC
  obtain ⟨hx, hb, hml, hown, hts⟩ := id S
  refine lv_aload_n hx hb dL_law_1936 rfl (lv_at hl 1 rfl) ?_
  refine g0l (As := []) (rest := []) S (c_digest l E a σ h.gok) (cwV 0 hts gL_law_X0_digest rfl rfl rfl hdX0_digest ⟨Nat.le_of_ble_eq_true rfl, Nat.le_of_ble_eq_true rfl⟩) hK (gO_l hI.1) rfl hl.1 rfl (Nat.le_of_ble_eq_true rfl) ⟨by show cells ≤ 601024; omega, by show slots ≤ 7293034; omega⟩ dL_law_1937 ?_
  refine lv_aload_n hx hb dL_law_1940 rfl (lv_at hl 2 rfl) ?_
  refine l_refl (As := []) (rest := [.long (gDig σ)]) (τ' := mTab (mThr τ 0)) S (fun sz => m_digest l E b2 τ sz h.mok) (cwV 0 hts gL_law_X1_digest rfl rfl rfl hdX1_digest ⟨Nat.le_of_ble_eq_true rfl, Nat.le_of_ble_eq_true rfl⟩) hK hI rfl hl.1 rfl (Nat.le_of_ble_eq_true rfl) ⟨by show cells + 41 ≤ 601024; omega, by show slots + 207 ≤ 7293034; omega⟩ dL_law_1941 (fun H locs hI => ?_)
  refine W.lcmp hx hb dL_law_1944 ?_
  refine lv_if_eq (tgt := 1950) hx hb dL_law_1945 (by decide) (fun _ => ?_) (fun q => absurd ((by rw [(h.thr 0).tab.dig (h.thr 0).tt]; exact lg_self _)) q)
  exact nx σ ((mTab (mThr τ 0))) f H locs _ _ ls (h.thr 0).tab hI (lv_sub hl [0, 1, 2, 3, 4] rfl) (by omega) (by omega)
end LAWK
