
/-! ExamGarden's methods that write, told of the state -/
def gSeE (σ : GS) (k : Nat) : GS := (gn σ, gk σ, gc σ, gs σ, ge σ, glf σ, grt σ, gst σ, gpc σ, gpf σ, glo σ, ghi σ, gwt σ, ggr σ, upd (gsu σ) k (if gHas σ k then ggr σ k else nI (glo σ k)), upd (gho σ) k (if gHas σ k then ggr σ k else nI (ghi σ k)), upd (ghs σ) k (if gHas σ k then ggr σ k else 0), grb σ)
def gGr1 (f : Nat → Int32) (σ : GS) (k : Nat) : Nat → Int32 := upd f k (imx (f (glf σ k)) (f (grt σ k)))
def gSeF (σ : GS) (k : Nat) : GS := (gn σ, gk σ, gc σ, gs σ, ge σ, glf σ, grt σ, gst σ, gpc σ, gpf σ, glo σ, ghi σ, gwt σ, ggr σ, gGr1 (gsu σ) σ k, gGr1 (gho σ) σ k, gGr1 (ghs σ) σ k, grb σ)
/-- all forks from e on, j places far -/
def gSA (σ : GS) (e : Nat) : Nat → GS
  | 0 => σ
  | j + 1 => if gEx (ge σ) (e + j) then gSA σ e j else gSeF (gSA σ e j) (e + j)
theorem gSA_same (σ : GS) (e : Nat) : ∀ j, gn (gSA σ e j) = gn σ ∧ ge (gSA σ e j) = ge σ ∧ (GOK σ → GOK (gSA σ e j))
  | 0 => ⟨rfl, rfl, id⟩
  | j + 1 => by
    have ih := gSA_same σ e j
    rw [gSA]
    split
    · exact ih
    · exact ⟨ih.1, ih.2.1, fun h => ih.2.2 h⟩
def gWalk (σ : GS) (s : Nat) (b : Bool) : GS := (gn σ, gk σ, gc σ, gs σ, ge σ, glf σ, grt σ, va_up (gst σ) s (gTo σ (gst σ s) b), va_up (gpc σ) s (gpc σ s + 1), va_up (gpf σ) (s * 40 + gpc σ s) (gst σ s), glo σ, ghi σ, gwt σ, ggr σ, gsu σ, gho σ, ghs σ, grb σ)
theorem gWalk_ok {σ : GS} (h : GOK σ) {s : Nat} (hs : s < gk σ) (hE : gEx (ge σ) (gst σ s) = false) (b : Bool) : GOK (gWalk σ s b) := by
  obtain ⟨h1, h2, h3, h4, h5, h6, h7, h8, h9⟩ := h
  have hst := h9 s hs
  have hto : gTo σ (gst σ s) b < gst σ s := by
    have q := h8 _ hst hE
    unfold gTo
    split
    · exact q.2
    · exact q.1
  have hto2 : gTo σ (gst σ s) b < 40 := by have := h5 s; omega
  refine ⟨h1, h2, h3, h4, fun j => ?_, fun j => ?_, fun j => ?_, h8, fun j hj => ?_⟩
  · show va_up (gst σ) s _ j < 40
    unfold va_up
    split
    · exact hto2
    · exact h5 j
  · show va_up (gpf σ) _ _ j < 40
    unfold va_up
    split
    · exact h5 s
    · exact h6 j
  · show va_up (gst σ) s _ j + va_up (gpc σ) s _ j ≤ 39
    unfold va_up
    have := h7 s
    have := h7 j
    split <;> omega
  · show va_up (gst σ) s _ j < gn σ
    unfold va_up
    split
    · omega
    · exact h9 j hj
def gFo (s : Nat) : Nat → GS → GS
  | 0, σ => σ
  | f + 1, σ => if gEx (ge σ) (gst σ s) then σ else gFo s f (gWalk σ s (gPl σ (gst σ s)))
def gFc (s : Nat) : Nat → GS → Nat
  | 0, _ => 0
  | f + 1, σ => if gEx (ge σ) (gst σ s) then 0 else gFc s f (gWalk σ s (gPl σ (gst σ s))) + 1
theorem gSA_gc (σ : GS) (e : Nat) : ∀ j, gc (gSA σ e j) = gc σ
  | 0 => rfl
  | j + 1 => by
    have ih := gSA_gc σ e j
    rw [gSA]
    split <;> exact ih
def gInc (σ : GS) : GS := (gn σ + 1, σ.2)
def gAddE (σ : GS) (x y : Nat) : GS := gInc (gSeE (gn σ, gk σ, gc σ, gs σ, ge σ ||| gbit (gn σ), glf σ, grt σ, gst σ, gpc σ, gpf σ, va_up (glo σ) (gn σ) x, va_up (ghi σ) (gn σ) y, gwt σ, upd (ggr σ) (gn σ) (-1), gsu σ, gho σ, ghs σ, vp_updL (grb σ) (gn σ) (gbit (gn σ))) (gn σ))
def gAddF (σ : GS) (x y : Nat) (w : Int32) : GS := gInc (gSeF (gn σ, gk σ, gc σ, gs σ, ge σ, va_up (glf σ) (gn σ) x, va_up (grt σ) (gn σ) y, gst σ, gpc σ, gpf σ, glo σ, ghi σ, upd (gwt σ) (gn σ) w, upd (ggr σ) (gn σ) (-1), gsu σ, gho σ, ghs σ, vp_updL (grb σ) (gn σ) ((gbit (gn σ) ||| grb σ x) ||| grb σ y)) (gn σ))
def gGrd (σ : GS) (e : Nat) (g : Int32) : GS := gSA (gSeE (gn σ, gk σ, gc σ + 1, gs σ + g, ge σ, glf σ, grt σ, gst σ, gpc σ, gpf σ, glo σ, ghi σ, gwt σ, upd (ggr σ) e g, gsu σ, gho σ, ghs σ, grb σ) e) (e + 1) (gn σ - (e + 1))
def gWgh (σ : GS) (k : Nat) (w : Int32) : GS := (gn σ, gk σ, gc σ, gs σ, ge σ, glf σ, grt σ, gst σ, gpc σ, gpf σ, glo σ, ghi σ, upd (gwt σ) k w, ggr σ, gsu σ, gho σ, ghs σ, grb σ)
def gEnr (σ : GS) (k : Nat) : GS := (gn σ, gk σ + 1, gc σ, gs σ, ge σ, glf σ, grt σ, va_up (gst σ) (gk σ) k, gpc σ, gpf σ, glo σ, ghi σ, gwt σ, ggr σ, gsu σ, gho σ, ghs σ, grb σ)
def gBk (σ : GS) (s c : Nat) : GS := (gn σ, gk σ, gc σ, gs σ, ge σ, glf σ, grt σ, va_up (gst σ) s (gpf σ (s * 40 + c)), va_up (gpc σ) s c, gpf σ, glo σ, ghi σ, gwt σ, ggr σ, gsu σ, gho σ, ghs σ, grb σ)
theorem hinX0_settleExam : ∀ w ∈ wsX00, w ∈ wsX0_settleExam := fun w h => List.mem_cons_of_mem _ (List.mem_append_right _ h)
theorem hdX0_settleExam : yX0_settleExam.cls = RX0 ∧ yX0_settleExam.cls ≠ "java/lang/invoke/MethodHandle" ∧ yX0_settleExam.cls ≠ "java/lang/invoke/VarHandle" ∧ (parseMethodDescriptor yX0_settleExam.desc).map (fun d => d.parameters.length) = some 1 := by decide +kernel
set_option maxHeartbeats 4000000 in
set_option maxRecDepth 100000 in
theorem c_settleExam (l : Launch) (E : GE) (a : Nat → Nat) (σ : GS) (sz : Nat) (k : Nat) (hk : k < 40) : Met l yX0_settleExam wsX0_settleExam { frames := 2, cells := 0, slots := 0, locals := 42 } (va_Pc [.ref (a 0), .int (nI k)] (gBw E sz (gW E a σ))) (gQv E (gW E a σ) (gW E a (gSeE σ k)) sz) 0 0 (va_A (gW E a σ) sz) := by
  refine w_met (cc := cX0_settleExam) (maxL := 4) (ret := none) (by decide) rfl (Nat.le_of_ble_eq_true rfl) ?_
  intro p e s m below meth c ls S hr hlocks hname hB hl
  obtain ⟨hsz, hP, hK, hD0⟩ := hB
  subst hsz
  have hD := hD0.self (sz := s.heap.size)
  have hA : ∀ q : Nat, s.heap.size ≤ q → va_A (gW E a σ) s.heap.size q := fun q h => Or.inr h
  have hS : va_S (va_A (gW E a σ) s.heap.size) s.heap s.heap [] := va_S.rf
  obtain ⟨hx, hb, hml, hown, hts⟩ := id S
  have hts0 := hinX0_settleExam
  rcases hG : gHas σ k with _ | _
  · have hl : lv_has ls 4 [(0, .ref (a 0)), (1, .int (nI k))] := hl
    refine lv_aload_n hx hb dX0_settleExam_0 rfl (lv_at hl 0 rfl) ?_
    refine lv_iload_n hx hb dX0_settleExam_1 rfl (lv_at hl 1 rfl) ?_
    refine g0i (As := [.int (nI k)]) (rest := []) S (c_hasGrade l E a σ k (by omega)) (cwV 1 hts gX0_settleExam_X0_hasGrade rfl rfl rfl hdX0_hasGrade ⟨Nat.le_of_ble_eq_true rfl, Nat.le_of_ble_eq_true rfl⟩) hK hP rfl hl.1 rfl (Nat.le_of_ble_eq_true rfl) ⟨Nat.zero_le _, Nat.zero_le _⟩ dX0_settleExam_2 ?_
    refine lv_if_ne (tgt := 12) hx hb dX0_settleExam_5 (by decide) (fun q => absurd ((b2i_eq0.mpr hG)) q) (fun _ => ?_)
    refine lv_iconst (v := 1) hx hb dX0_settleExam_8 (by decide) ?_
    refine lv_goto (tgt := 13) hx hb dX0_settleExam_9 (by decide) ?_
    refine lv_istore_n (lv' := [(2, .int 1), (0, .ref (a 0)), (1, .int (nI k))]) hx hb dX0_settleExam_13 rfl hl (by decide) rfl (fun ls hl => ?_)
    refine lv_aload_n hx hb dX0_settleExam_14 rfl (lv_at hl 1 rfl) ?_
    refine g_get (σ := σ) hx hb hts hts0 hown hK hP 10 (by decide) (by decide +kernel) rfl rfl dX0_settleExam_15 ?_
    refine lv_iload_n hx hb dX0_settleExam_18 rfl (lv_at hl 2 rfl) ?_
    refine g_at S gX0_settleExam_X0_at hK hP 6 rfl (by decide) (v := (ggr σ) k) (vp_in_nI (by omega) (by decide)) (by rw [nI_clamp (by omega)]) hl.1 (Nat.le_of_ble_eq_true rfl) ⟨Nat.zero_le _, Nat.zero_le _⟩ ⟨Nat.le_of_ble_eq_true rfl, Nat.le_of_ble_eq_true rfl⟩ dX0_settleExam_19 ?_
    refine lv_istore_n (lv' := [(3, .int ((ggr σ) k)), (2, .int 1), (0, .ref (a 0)), (1, .int (nI k))]) hx hb dX0_settleExam_22 rfl hl (by decide) rfl (fun ls hl => ?_)
    refine lv_aload_n hx hb dX0_settleExam_23 rfl (lv_at hl 2 rfl) ?_
    refine g_get (σ := σ) hx hb hts hts0 hown hK hP 11 (by decide) (by decide +kernel) rfl rfl dX0_settleExam_24 ?_
    refine lv_iload_n hx hb dX0_settleExam_27 rfl (lv_at hl 3 rfl) ?_
    refine lv_iload_n hx hb dX0_settleExam_28 rfl (lv_at hl 1 rfl) ?_
    refine lv_if_eq (tgt := 43) hx hb dX0_settleExam_29 (by decide) (fun q => absurd q ((by decide : ¬ (1 : Int32) = 0))) (fun _ => ?_)
    refine lv_aload_n hx hb dX0_settleExam_32 rfl (lv_at hl 2 rfl) ?_
    refine g_get (σ := σ) hx hb hts hts0 hown hK hP 5 (by decide) (by decide +kernel) rfl rfl dX0_settleExam_33 ?_
    refine lv_iload_n hx hb dX0_settleExam_36 rfl (lv_at hl 3 rfl) ?_
    refine g_at S gX0_settleExam_X0_at hK hP 1 rfl (by decide) (v := nI ((glo σ) k)) (vp_in_nI (by omega) (by decide)) (by rw [nI_clamp (by omega)]) hl.1 (Nat.le_of_ble_eq_true rfl) ⟨Nat.zero_le _, Nat.zero_le _⟩ ⟨Nat.le_of_ble_eq_true rfl, Nat.le_of_ble_eq_true rfl⟩ dX0_settleExam_37 ?_
    refine lv_goto (tgt := 44) hx hb dX0_settleExam_40 (by decide) ?_
    refine g_put S gX0_settleExam_X0_put hK hP hD hS hA 7 rfl (by decide) (f' := (upd ((gsu σ)) k (nI ((glo σ) k)))) (vp_in_nI (by omega) (by decide)) (by rw [nI_clamp (by omega)]) hl.1 (Nat.le_of_ble_eq_true rfl) ⟨Nat.zero_le _, Nat.zero_le _⟩ ⟨Nat.le_of_ble_eq_true rfl, Nat.le_of_ble_eq_true rfl⟩ dX0_settleExam_44 (fun H locs hP hD hS => ?_)
    have hP : gP E (gW E a (gn σ, gk σ, gc σ, gs σ, ge σ, glf σ, grt σ, gst σ, gpc σ, gpf σ, glo σ, ghi σ, gwt σ, ggr σ, upd ((gsu σ)) k (nI ((glo σ) k)), gho σ, ghs σ, grb σ)) H := hP
    have hD : va_D (va_A (gW E a σ) s.heap.size) (gW E a (gn σ, gk σ, gc σ, gs σ, ge σ, glf σ, grt σ, gst σ, gpc σ, gpf σ, glo σ, ghi σ, gwt σ, ggr σ, upd ((gsu σ)) k (nI ((glo σ) k)), gho σ, ghs σ, grb σ)) := hD
    refine lv_aload_n hx hb dX0_settleExam_47 rfl (lv_at hl 2 rfl) ?_
    refine g_get (σ := (gn σ, gk σ, gc σ, gs σ, ge σ, glf σ, grt σ, gst σ, gpc σ, gpf σ, glo σ, ghi σ, gwt σ, ggr σ, upd ((gsu σ)) k (nI ((glo σ) k)), gho σ, ghs σ, grb σ)) hx hb hts hts0 hown hK hP 12 (by decide) (by decide +kernel) rfl rfl dX0_settleExam_48 ?_
    refine lv_iload_n hx hb dX0_settleExam_51 rfl (lv_at hl 3 rfl) ?_
    refine lv_iload_n hx hb dX0_settleExam_52 rfl (lv_at hl 1 rfl) ?_
    refine lv_if_eq (tgt := 67) hx hb dX0_settleExam_53 (by decide) (fun q => absurd q ((by decide : ¬ (1 : Int32) = 0))) (fun _ => ?_)
    refine lv_aload_n hx hb dX0_settleExam_56 rfl (lv_at hl 2 rfl) ?_
    refine g_get (σ := (gn σ, gk σ, gc σ, gs σ, ge σ, glf σ, grt σ, gst σ, gpc σ, gpf σ, glo σ, ghi σ, gwt σ, ggr σ, upd ((gsu σ)) k (nI ((glo σ) k)), gho σ, ghs σ, grb σ)) hx hb hts hts0 hown hK hP 6 (by decide) (by decide +kernel) rfl rfl dX0_settleExam_57 ?_
    refine lv_iload_n hx hb dX0_settleExam_60 rfl (lv_at hl 3 rfl) ?_
    refine g_at S gX0_settleExam_X0_at hK hP 2 rfl (by decide) (v := nI ((ghi σ) k)) (vp_in_nI (by omega) (by decide)) (by rw [nI_clamp (by omega)]) hl.1 (Nat.le_of_ble_eq_true rfl) ⟨Nat.zero_le _, Nat.zero_le _⟩ ⟨Nat.le_of_ble_eq_true rfl, Nat.le_of_ble_eq_true rfl⟩ dX0_settleExam_61 ?_
    refine lv_goto (tgt := 68) hx hb dX0_settleExam_64 (by decide) ?_
    refine g_put S gX0_settleExam_X0_put hK hP hD hS hA 8 rfl (by decide) (f' := (upd ((gho σ)) k (nI ((ghi σ) k)))) (vp_in_nI (by omega) (by decide)) (by rw [nI_clamp (by omega)]) hl.1 (Nat.le_of_ble_eq_true rfl) ⟨Nat.zero_le _, Nat.zero_le _⟩ ⟨Nat.le_of_ble_eq_true rfl, Nat.le_of_ble_eq_true rfl⟩ dX0_settleExam_68 (fun H locs hP hD hS => ?_)
    have hP : gP E (gW E a (gn σ, gk σ, gc σ, gs σ, ge σ, glf σ, grt σ, gst σ, gpc σ, gpf σ, glo σ, ghi σ, gwt σ, ggr σ, upd ((gsu σ)) k (nI ((glo σ) k)), upd ((gho σ)) k (nI ((ghi σ) k)), ghs σ, grb σ)) H := hP
    have hD : va_D (va_A (gW E a σ) s.heap.size) (gW E a (gn σ, gk σ, gc σ, gs σ, ge σ, glf σ, grt σ, gst σ, gpc σ, gpf σ, glo σ, ghi σ, gwt σ, ggr σ, upd ((gsu σ)) k (nI ((glo σ) k)), upd ((gho σ)) k (nI ((ghi σ) k)), ghs σ, grb σ)) := hD
    refine lv_aload_n hx hb dX0_settleExam_71 rfl (lv_at hl 2 rfl) ?_
    refine g_get (σ := (gn σ, gk σ, gc σ, gs σ, ge σ, glf σ, grt σ, gst σ, gpc σ, gpf σ, glo σ, ghi σ, gwt σ, ggr σ, upd ((gsu σ)) k (nI ((glo σ) k)), upd ((gho σ)) k (nI ((ghi σ) k)), ghs σ, grb σ)) hx hb hts hts0 hown hK hP 13 (by decide) (by decide +kernel) rfl rfl dX0_settleExam_72 ?_
    refine lv_iload_n hx hb dX0_settleExam_75 rfl (lv_at hl 3 rfl) ?_
    refine lv_iload_n hx hb dX0_settleExam_76 rfl (lv_at hl 1 rfl) ?_
    refine lv_if_eq (tgt := 84) hx hb dX0_settleExam_77 (by decide) (fun q => absurd q ((by decide : ¬ (1 : Int32) = 0))) (fun _ => ?_)
    refine lv_iconst (v := 0) hx hb dX0_settleExam_80 (by decide) ?_
    refine lv_goto (tgt := 85) hx hb dX0_settleExam_81 (by decide) ?_
    refine g_put S gX0_settleExam_X0_put hK hP hD hS hA 9 rfl (by decide) (f' := (upd ((ghs σ)) k 0)) (vp_in_nI (by omega) (by decide)) (by rw [nI_clamp (by omega)]) hl.1 (Nat.le_of_ble_eq_true rfl) ⟨Nat.zero_le _, Nat.zero_le _⟩ ⟨Nat.le_of_ble_eq_true rfl, Nat.le_of_ble_eq_true rfl⟩ dX0_settleExam_85 (fun H locs hP hD hS => ?_)
    have hP : gP E (gW E a (gn σ, gk σ, gc σ, gs σ, ge σ, glf σ, grt σ, gst σ, gpc σ, gpf σ, glo σ, ghi σ, gwt σ, ggr σ, upd ((gsu σ)) k (nI ((glo σ) k)), upd ((gho σ)) k (nI ((ghi σ) k)), upd ((ghs σ)) k 0, grb σ)) H := hP
    have hD : va_D (va_A (gW E a σ) s.heap.size) (gW E a (gn σ, gk σ, gc σ, gs σ, ge σ, glf σ, grt σ, gst σ, gpc σ, gpf σ, glo σ, ghi σ, gwt σ, ggr σ, upd ((gsu σ)) k (nI ((glo σ) k)), upd ((gho σ)) k (nI ((ghi σ) k)), upd ((ghs σ)) k 0, grb σ)) := hD
    exact W.vret hx hb hr (fun t ht hW => ⟨⟨(), rfl, trivial, by show gP E _ t.heap; rw [ht]; rw [gSeE, hG]; exact hP⟩, hS.F ht⟩) hS.2.2 dX0_settleExam_88
  · have hl : lv_has ls 4 [(0, .ref (a 0)), (1, .int (nI k))] := hl
    refine lv_aload_n hx hb dX0_settleExam_0 rfl (lv_at hl 0 rfl) ?_
    refine lv_iload_n hx hb dX0_settleExam_1 rfl (lv_at hl 1 rfl) ?_
    refine g0i (As := [.int (nI k)]) (rest := []) S (c_hasGrade l E a σ k (by omega)) (cwV 1 hts gX0_settleExam_X0_hasGrade rfl rfl rfl hdX0_hasGrade ⟨Nat.le_of_ble_eq_true rfl, Nat.le_of_ble_eq_true rfl⟩) hK hP rfl hl.1 rfl (Nat.le_of_ble_eq_true rfl) ⟨Nat.zero_le _, Nat.zero_le _⟩ dX0_settleExam_2 ?_
    refine lv_if_ne (tgt := 12) hx hb dX0_settleExam_5 (by decide) (fun _ => ?_) (fun q => absurd q ((b2i_ne0.mpr hG)))
    refine lv_iconst (v := 0) hx hb dX0_settleExam_12 (by decide) ?_
    refine lv_istore_n (lv' := [(2, .int 0), (0, .ref (a 0)), (1, .int (nI k))]) hx hb dX0_settleExam_13 rfl hl (by decide) rfl (fun ls hl => ?_)
    refine lv_aload_n hx hb dX0_settleExam_14 rfl (lv_at hl 1 rfl) ?_
    refine g_get (σ := σ) hx hb hts hts0 hown hK hP 10 (by decide) (by decide +kernel) rfl rfl dX0_settleExam_15 ?_
    refine lv_iload_n hx hb dX0_settleExam_18 rfl (lv_at hl 2 rfl) ?_
    refine g_at S gX0_settleExam_X0_at hK hP 6 rfl (by decide) (v := (ggr σ) k) (vp_in_nI (by omega) (by decide)) (by rw [nI_clamp (by omega)]) hl.1 (Nat.le_of_ble_eq_true rfl) ⟨Nat.zero_le _, Nat.zero_le _⟩ ⟨Nat.le_of_ble_eq_true rfl, Nat.le_of_ble_eq_true rfl⟩ dX0_settleExam_19 ?_
    refine lv_istore_n (lv' := [(3, .int ((ggr σ) k)), (2, .int 0), (0, .ref (a 0)), (1, .int (nI k))]) hx hb dX0_settleExam_22 rfl hl (by decide) rfl (fun ls hl => ?_)
    refine lv_aload_n hx hb dX0_settleExam_23 rfl (lv_at hl 2 rfl) ?_
    refine g_get (σ := σ) hx hb hts hts0 hown hK hP 11 (by decide) (by decide +kernel) rfl rfl dX0_settleExam_24 ?_
    refine lv_iload_n hx hb dX0_settleExam_27 rfl (lv_at hl 3 rfl) ?_
    refine lv_iload_n hx hb dX0_settleExam_28 rfl (lv_at hl 1 rfl) ?_
    refine lv_if_eq (tgt := 43) hx hb dX0_settleExam_29 (by decide) (fun _ => ?_) (fun q => absurd ((rfl : (0 : Int32) = 0)) q)
    refine lv_iload_n hx hb dX0_settleExam_43 rfl (lv_at hl 0 rfl) ?_
    refine g_put S gX0_settleExam_X0_put hK hP hD hS hA 7 rfl (by decide) (f' := (upd ((gsu σ)) k ((ggr σ) k))) (vp_in_nI (by omega) (by decide)) (by rw [nI_clamp (by omega)]) hl.1 (Nat.le_of_ble_eq_true rfl) ⟨Nat.zero_le _, Nat.zero_le _⟩ ⟨Nat.le_of_ble_eq_true rfl, Nat.le_of_ble_eq_true rfl⟩ dX0_settleExam_44 (fun H locs hP hD hS => ?_)
    have hP : gP E (gW E a (gn σ, gk σ, gc σ, gs σ, ge σ, glf σ, grt σ, gst σ, gpc σ, gpf σ, glo σ, ghi σ, gwt σ, ggr σ, upd ((gsu σ)) k ((ggr σ) k), gho σ, ghs σ, grb σ)) H := hP
    have hD : va_D (va_A (gW E a σ) s.heap.size) (gW E a (gn σ, gk σ, gc σ, gs σ, ge σ, glf σ, grt σ, gst σ, gpc σ, gpf σ, glo σ, ghi σ, gwt σ, ggr σ, upd ((gsu σ)) k ((ggr σ) k), gho σ, ghs σ, grb σ)) := hD
    refine lv_aload_n hx hb dX0_settleExam_47 rfl (lv_at hl 2 rfl) ?_
    refine g_get (σ := (gn σ, gk σ, gc σ, gs σ, ge σ, glf σ, grt σ, gst σ, gpc σ, gpf σ, glo σ, ghi σ, gwt σ, ggr σ, upd ((gsu σ)) k ((ggr σ) k), gho σ, ghs σ, grb σ)) hx hb hts hts0 hown hK hP 12 (by decide) (by decide +kernel) rfl rfl dX0_settleExam_48 ?_
    refine lv_iload_n hx hb dX0_settleExam_51 rfl (lv_at hl 3 rfl) ?_
    refine lv_iload_n hx hb dX0_settleExam_52 rfl (lv_at hl 1 rfl) ?_
    refine lv_if_eq (tgt := 67) hx hb dX0_settleExam_53 (by decide) (fun _ => ?_) (fun q => absurd ((rfl : (0 : Int32) = 0)) q)
    refine lv_iload_n hx hb dX0_settleExam_67 rfl (lv_at hl 0 rfl) ?_
    refine g_put S gX0_settleExam_X0_put hK hP hD hS hA 8 rfl (by decide) (f' := (upd ((gho σ)) k ((ggr σ) k))) (vp_in_nI (by omega) (by decide)) (by rw [nI_clamp (by omega)]) hl.1 (Nat.le_of_ble_eq_true rfl) ⟨Nat.zero_le _, Nat.zero_le _⟩ ⟨Nat.le_of_ble_eq_true rfl, Nat.le_of_ble_eq_true rfl⟩ dX0_settleExam_68 (fun H locs hP hD hS => ?_)
    have hP : gP E (gW E a (gn σ, gk σ, gc σ, gs σ, ge σ, glf σ, grt σ, gst σ, gpc σ, gpf σ, glo σ, ghi σ, gwt σ, ggr σ, upd ((gsu σ)) k ((ggr σ) k), upd ((gho σ)) k ((ggr σ) k), ghs σ, grb σ)) H := hP
    have hD : va_D (va_A (gW E a σ) s.heap.size) (gW E a (gn σ, gk σ, gc σ, gs σ, ge σ, glf σ, grt σ, gst σ, gpc σ, gpf σ, glo σ, ghi σ, gwt σ, ggr σ, upd ((gsu σ)) k ((ggr σ) k), upd ((gho σ)) k ((ggr σ) k), ghs σ, grb σ)) := hD
    refine lv_aload_n hx hb dX0_settleExam_71 rfl (lv_at hl 2 rfl) ?_
    refine g_get (σ := (gn σ, gk σ, gc σ, gs σ, ge σ, glf σ, grt σ, gst σ, gpc σ, gpf σ, glo σ, ghi σ, gwt σ, ggr σ, upd ((gsu σ)) k ((ggr σ) k), upd ((gho σ)) k ((ggr σ) k), ghs σ, grb σ)) hx hb hts hts0 hown hK hP 13 (by decide) (by decide +kernel) rfl rfl dX0_settleExam_72 ?_
    refine lv_iload_n hx hb dX0_settleExam_75 rfl (lv_at hl 3 rfl) ?_
    refine lv_iload_n hx hb dX0_settleExam_76 rfl (lv_at hl 1 rfl) ?_
    refine lv_if_eq (tgt := 84) hx hb dX0_settleExam_77 (by decide) (fun _ => ?_) (fun q => absurd ((rfl : (0 : Int32) = 0)) q)
    refine lv_iload_n hx hb dX0_settleExam_84 rfl (lv_at hl 0 rfl) ?_
    refine g_put S gX0_settleExam_X0_put hK hP hD hS hA 9 rfl (by decide) (f' := (upd ((ghs σ)) k ((ggr σ) k))) (vp_in_nI (by omega) (by decide)) (by rw [nI_clamp (by omega)]) hl.1 (Nat.le_of_ble_eq_true rfl) ⟨Nat.zero_le _, Nat.zero_le _⟩ ⟨Nat.le_of_ble_eq_true rfl, Nat.le_of_ble_eq_true rfl⟩ dX0_settleExam_85 (fun H locs hP hD hS => ?_)
    have hP : gP E (gW E a (gn σ, gk σ, gc σ, gs σ, ge σ, glf σ, grt σ, gst σ, gpc σ, gpf σ, glo σ, ghi σ, gwt σ, ggr σ, upd ((gsu σ)) k ((ggr σ) k), upd ((gho σ)) k ((ggr σ) k), upd ((ghs σ)) k ((ggr σ) k), grb σ)) H := hP
    have hD : va_D (va_A (gW E a σ) s.heap.size) (gW E a (gn σ, gk σ, gc σ, gs σ, ge σ, glf σ, grt σ, gst σ, gpc σ, gpf σ, glo σ, ghi σ, gwt σ, ggr σ, upd ((gsu σ)) k ((ggr σ) k), upd ((gho σ)) k ((ggr σ) k), upd ((ghs σ)) k ((ggr σ) k), grb σ)) := hD
    exact W.vret hx hb hr (fun t ht hW => ⟨⟨(), rfl, trivial, by show gP E _ t.heap; rw [ht]; rw [gSeE, hG]; exact hP⟩, hS.F ht⟩) hS.2.2 dX0_settleExam_88
theorem hinX0_settleGreater : ∀ w ∈ wsX00, w ∈ wsX0_settleGreater := fun w h => List.mem_cons_of_mem _ (List.mem_append_right _ h)
theorem hdX0_settleGreater : yX0_settleGreater.cls = RX0 ∧ yX0_settleGreater.cls ≠ "java/lang/invoke/MethodHandle" ∧ yX0_settleGreater.cls ≠ "java/lang/invoke/VarHandle" ∧ (parseMethodDescriptor yX0_settleGreater.desc).map (fun d => d.parameters.length) = some 2 := by decide +kernel
set_option maxHeartbeats 4000000 in
set_option maxRecDepth 100000 in
theorem c_sg_su (l : Launch) (E : GE) (a : Nat → Nat) (σ : GS) (sz : Nat) (k : Nat) (hk : k < 40) (t1 : glf σ k < 40) (t2 : grt σ k < 40) : Met l yX0_settleGreater wsX0_settleGreater { frames := 1, cells := 0, slots := 0, locals := 22 } (va_Pc [.ref (a 0), .ref (a 7), .int (nI k)] (gBw E sz (gW E a σ))) (gQv E (gW E a σ) (gW E a ((gn σ, gk σ, gc σ, gs σ, ge σ, glf σ, grt σ, gst σ, gpc σ, gpf σ, glo σ, ghi σ, gwt σ, ggr σ, gGr1 (gsu σ) σ k, gho σ, ghs σ, grb σ))) sz) 0 0 (va_A (gW E a σ) sz) := by
  refine w_met (cc := cX0_settleGreater) (maxL := 3) (ret := none) (by decide) rfl (Nat.le_of_ble_eq_true rfl) ?_
  intro p e s m below meth c ls S hr hlocks hname hB hl
  obtain ⟨hsz, hP, hK, hD0⟩ := hB
  subst hsz
  have hD := hD0.self (sz := s.heap.size)
  have hA : ∀ q : Nat, s.heap.size ≤ q → va_A (gW E a σ) s.heap.size q := fun q h => Or.inr h
  have hS : va_S (va_A (gW E a σ) s.heap.size) s.heap s.heap [] := va_S.rf
  obtain ⟨hx, hb, hml, hown, hts⟩ := id S
  have hts0 := hinX0_settleGreater
  have hl : lv_has ls 3 [(0, .ref (a 0)), (1, .ref (a 7)), (2, .int (nI k))] := hl
  refine lv_aload_n hx hb dX0_settleGreater_0 rfl (lv_at hl 1 rfl) ?_
  refine lv_iload_n hx hb dX0_settleGreater_1 rfl (lv_at hl 2 rfl) ?_
  refine lv_aload_n hx hb dX0_settleGreater_2 rfl (lv_at hl 1 rfl) ?_
  refine lv_aload_n hx hb dX0_settleGreater_3 rfl (lv_at hl 0 rfl) ?_
  refine g_get (σ := σ) hx hb hts hts0 hown hK hP 7 (by decide) (by decide +kernel) rfl rfl dX0_settleGreater_4 ?_
  refine lv_iload_n hx hb dX0_settleGreater_7 rfl (lv_at hl 2 rfl) ?_
  refine g_at S gX0_settleGreater_X0_at hK hP 3 rfl (by decide) (v := nI ((glf σ) k)) (vp_in_nI (by omega) (by decide)) (by rw [nI_clamp (by omega)]) hl.1 (Nat.le_of_ble_eq_true rfl) ⟨Nat.zero_le _, Nat.zero_le _⟩ ⟨Nat.le_of_ble_eq_true rfl, Nat.le_of_ble_eq_true rfl⟩ dX0_settleGreater_8 ?_
  refine g_at S gX0_settleGreater_X0_at hK hP 7 rfl (by decide) (v := (gsu σ) ((glf σ) k)) (vp_in_nI (by omega) (by decide)) (by rw [nI_clamp (by omega)]) hl.1 (Nat.le_of_ble_eq_true rfl) ⟨Nat.zero_le _, Nat.zero_le _⟩ ⟨Nat.le_of_ble_eq_true rfl, Nat.le_of_ble_eq_true rfl⟩ dX0_settleGreater_11 ?_
  refine lv_aload_n hx hb dX0_settleGreater_14 rfl (lv_at hl 1 rfl) ?_
  refine lv_aload_n hx hb dX0_settleGreater_15 rfl (lv_at hl 0 rfl) ?_
  refine g_get (σ := σ) hx hb hts hts0 hown hK hP 8 (by decide) (by decide +kernel) rfl rfl dX0_settleGreater_16 ?_
  refine lv_iload_n hx hb dX0_settleGreater_19 rfl (lv_at hl 2 rfl) ?_
  refine g_at S gX0_settleGreater_X0_at hK hP 4 rfl (by decide) (v := nI ((grt σ) k)) (vp_in_nI (by omega) (by decide)) (by rw [nI_clamp (by omega)]) hl.1 (Nat.le_of_ble_eq_true rfl) ⟨Nat.zero_le _, Nat.zero_le _⟩ ⟨Nat.le_of_ble_eq_true rfl, Nat.le_of_ble_eq_true rfl⟩ dX0_settleGreater_20 ?_
  refine g_at S gX0_settleGreater_X0_at hK hP 7 rfl (by decide) (v := (gsu σ) ((grt σ) k)) (vp_in_nI (by omega) (by decide)) (by rw [nI_clamp (by omega)]) hl.1 (Nat.le_of_ble_eq_true rfl) ⟨Nat.zero_le _, Nat.zero_le _⟩ ⟨Nat.le_of_ble_eq_true rfl, Nat.le_of_ble_eq_true rfl⟩ dX0_settleGreater_23 ?_
  refine g_max hx hb (hml.trans hl.1.symm) hown (hts (.methodLink RX0 269 Lib.Math.max.name) (by decide +kernel)) (hts (.static Lib.Math.max.name) (by decide +kernel)) (hts (.initialized "java/lang/Math") (by decide +kernel)) (hts (.code Lib.Math.max.name Lib.Math.max.code 2 (some .int)) (by decide +kernel)) (Nat.le_of_ble_eq_true rfl) (Nat.le_of_ble_eq_true rfl) ⟨Nat.zero_le _, Nat.zero_le _⟩ dX0_settleGreater_26 ?_
  refine g_put S gX0_settleGreater_X0_put hK hP hD hS hA 7 rfl (by decide) (f' := (upd ((gsu σ)) k (imx ((gsu σ) ((glf σ) k)) ((gsu σ) ((grt σ) k))))) (vp_in_nI (by omega) (by decide)) (by rw [nI_clamp (by omega)]) hl.1 (Nat.le_of_ble_eq_true rfl) ⟨Nat.zero_le _, Nat.zero_le _⟩ ⟨Nat.le_of_ble_eq_true rfl, Nat.le_of_ble_eq_true rfl⟩ dX0_settleGreater_29 (fun H locs hP hD hS => ?_)
  have hP : gP E (gW E a (gn σ, gk σ, gc σ, gs σ, ge σ, glf σ, grt σ, gst σ, gpc σ, gpf σ, glo σ, ghi σ, gwt σ, ggr σ, upd ((gsu σ)) k (imx ((gsu σ) ((glf σ) k)) ((gsu σ) ((grt σ) k))), gho σ, ghs σ, grb σ)) H := hP
  have hD : va_D (va_A (gW E a σ) s.heap.size) (gW E a (gn σ, gk σ, gc σ, gs σ, ge σ, glf σ, grt σ, gst σ, gpc σ, gpf σ, glo σ, ghi σ, gwt σ, ggr σ, upd ((gsu σ)) k (imx ((gsu σ) ((glf σ) k)) ((gsu σ) ((grt σ) k))), gho σ, ghs σ, grb σ)) := hD
  exact W.vret hx hb hr (fun t ht hW => ⟨⟨(), rfl, trivial, by show gP E _ t.heap; rw [ht]; exact hP⟩, hS.F ht⟩) hS.2.2 dX0_settleGreater_32
set_option maxHeartbeats 4000000 in
set_option maxRecDepth 100000 in
theorem c_sg_ho (l : Launch) (E : GE) (a : Nat → Nat) (σ : GS) (sz : Nat) (k : Nat) (hk : k < 40) (t1 : glf σ k < 40) (t2 : grt σ k < 40) : Met l yX0_settleGreater wsX0_settleGreater { frames := 1, cells := 0, slots := 0, locals := 22 } (va_Pc [.ref (a 0), .ref (a 8), .int (nI k)] (gBw E sz (gW E a σ))) (gQv E (gW E a σ) (gW E a ((gn σ, gk σ, gc σ, gs σ, ge σ, glf σ, grt σ, gst σ, gpc σ, gpf σ, glo σ, ghi σ, gwt σ, ggr σ, gsu σ, gGr1 (gho σ) σ k, ghs σ, grb σ))) sz) 0 0 (va_A (gW E a σ) sz) := by
  refine w_met (cc := cX0_settleGreater) (maxL := 3) (ret := none) (by decide) rfl (Nat.le_of_ble_eq_true rfl) ?_
  intro p e s m below meth c ls S hr hlocks hname hB hl
  obtain ⟨hsz, hP, hK, hD0⟩ := hB
  subst hsz
  have hD := hD0.self (sz := s.heap.size)
  have hA : ∀ q : Nat, s.heap.size ≤ q → va_A (gW E a σ) s.heap.size q := fun q h => Or.inr h
  have hS : va_S (va_A (gW E a σ) s.heap.size) s.heap s.heap [] := va_S.rf
  obtain ⟨hx, hb, hml, hown, hts⟩ := id S
  have hts0 := hinX0_settleGreater
  have hl : lv_has ls 3 [(0, .ref (a 0)), (1, .ref (a 8)), (2, .int (nI k))] := hl
  refine lv_aload_n hx hb dX0_settleGreater_0 rfl (lv_at hl 1 rfl) ?_
  refine lv_iload_n hx hb dX0_settleGreater_1 rfl (lv_at hl 2 rfl) ?_
  refine lv_aload_n hx hb dX0_settleGreater_2 rfl (lv_at hl 1 rfl) ?_
  refine lv_aload_n hx hb dX0_settleGreater_3 rfl (lv_at hl 0 rfl) ?_
  refine g_get (σ := σ) hx hb hts hts0 hown hK hP 7 (by decide) (by decide +kernel) rfl rfl dX0_settleGreater_4 ?_
  refine lv_iload_n hx hb dX0_settleGreater_7 rfl (lv_at hl 2 rfl) ?_
  refine g_at S gX0_settleGreater_X0_at hK hP 3 rfl (by decide) (v := nI ((glf σ) k)) (vp_in_nI (by omega) (by decide)) (by rw [nI_clamp (by omega)]) hl.1 (Nat.le_of_ble_eq_true rfl) ⟨Nat.zero_le _, Nat.zero_le _⟩ ⟨Nat.le_of_ble_eq_true rfl, Nat.le_of_ble_eq_true rfl⟩ dX0_settleGreater_8 ?_
  refine g_at S gX0_settleGreater_X0_at hK hP 8 rfl (by decide) (v := (gho σ) ((glf σ) k)) (vp_in_nI (by omega) (by decide)) (by rw [nI_clamp (by omega)]) hl.1 (Nat.le_of_ble_eq_true rfl) ⟨Nat.zero_le _, Nat.zero_le _⟩ ⟨Nat.le_of_ble_eq_true rfl, Nat.le_of_ble_eq_true rfl⟩ dX0_settleGreater_11 ?_
  refine lv_aload_n hx hb dX0_settleGreater_14 rfl (lv_at hl 1 rfl) ?_
  refine lv_aload_n hx hb dX0_settleGreater_15 rfl (lv_at hl 0 rfl) ?_
  refine g_get (σ := σ) hx hb hts hts0 hown hK hP 8 (by decide) (by decide +kernel) rfl rfl dX0_settleGreater_16 ?_
  refine lv_iload_n hx hb dX0_settleGreater_19 rfl (lv_at hl 2 rfl) ?_
  refine g_at S gX0_settleGreater_X0_at hK hP 4 rfl (by decide) (v := nI ((grt σ) k)) (vp_in_nI (by omega) (by decide)) (by rw [nI_clamp (by omega)]) hl.1 (Nat.le_of_ble_eq_true rfl) ⟨Nat.zero_le _, Nat.zero_le _⟩ ⟨Nat.le_of_ble_eq_true rfl, Nat.le_of_ble_eq_true rfl⟩ dX0_settleGreater_20 ?_
  refine g_at S gX0_settleGreater_X0_at hK hP 8 rfl (by decide) (v := (gho σ) ((grt σ) k)) (vp_in_nI (by omega) (by decide)) (by rw [nI_clamp (by omega)]) hl.1 (Nat.le_of_ble_eq_true rfl) ⟨Nat.zero_le _, Nat.zero_le _⟩ ⟨Nat.le_of_ble_eq_true rfl, Nat.le_of_ble_eq_true rfl⟩ dX0_settleGreater_23 ?_
  refine g_max hx hb (hml.trans hl.1.symm) hown (hts (.methodLink RX0 269 Lib.Math.max.name) (by decide +kernel)) (hts (.static Lib.Math.max.name) (by decide +kernel)) (hts (.initialized "java/lang/Math") (by decide +kernel)) (hts (.code Lib.Math.max.name Lib.Math.max.code 2 (some .int)) (by decide +kernel)) (Nat.le_of_ble_eq_true rfl) (Nat.le_of_ble_eq_true rfl) ⟨Nat.zero_le _, Nat.zero_le _⟩ dX0_settleGreater_26 ?_
  refine g_put S gX0_settleGreater_X0_put hK hP hD hS hA 8 rfl (by decide) (f' := (upd ((gho σ)) k (imx ((gho σ) ((glf σ) k)) ((gho σ) ((grt σ) k))))) (vp_in_nI (by omega) (by decide)) (by rw [nI_clamp (by omega)]) hl.1 (Nat.le_of_ble_eq_true rfl) ⟨Nat.zero_le _, Nat.zero_le _⟩ ⟨Nat.le_of_ble_eq_true rfl, Nat.le_of_ble_eq_true rfl⟩ dX0_settleGreater_29 (fun H locs hP hD hS => ?_)
  have hP : gP E (gW E a (gn σ, gk σ, gc σ, gs σ, ge σ, glf σ, grt σ, gst σ, gpc σ, gpf σ, glo σ, ghi σ, gwt σ, ggr σ, gsu σ, upd ((gho σ)) k (imx ((gho σ) ((glf σ) k)) ((gho σ) ((grt σ) k))), ghs σ, grb σ)) H := hP
  have hD : va_D (va_A (gW E a σ) s.heap.size) (gW E a (gn σ, gk σ, gc σ, gs σ, ge σ, glf σ, grt σ, gst σ, gpc σ, gpf σ, glo σ, ghi σ, gwt σ, ggr σ, gsu σ, upd ((gho σ)) k (imx ((gho σ) ((glf σ) k)) ((gho σ) ((grt σ) k))), ghs σ, grb σ)) := hD
  exact W.vret hx hb hr (fun t ht hW => ⟨⟨(), rfl, trivial, by show gP E _ t.heap; rw [ht]; exact hP⟩, hS.F ht⟩) hS.2.2 dX0_settleGreater_32
set_option maxHeartbeats 4000000 in
set_option maxRecDepth 100000 in
theorem c_sg_hs (l : Launch) (E : GE) (a : Nat → Nat) (σ : GS) (sz : Nat) (k : Nat) (hk : k < 40) (t1 : glf σ k < 40) (t2 : grt σ k < 40) : Met l yX0_settleGreater wsX0_settleGreater { frames := 1, cells := 0, slots := 0, locals := 22 } (va_Pc [.ref (a 0), .ref (a 9), .int (nI k)] (gBw E sz (gW E a σ))) (gQv E (gW E a σ) (gW E a ((gn σ, gk σ, gc σ, gs σ, ge σ, glf σ, grt σ, gst σ, gpc σ, gpf σ, glo σ, ghi σ, gwt σ, ggr σ, gsu σ, gho σ, gGr1 (ghs σ) σ k, grb σ))) sz) 0 0 (va_A (gW E a σ) sz) := by
  refine w_met (cc := cX0_settleGreater) (maxL := 3) (ret := none) (by decide) rfl (Nat.le_of_ble_eq_true rfl) ?_
  intro p e s m below meth c ls S hr hlocks hname hB hl
  obtain ⟨hsz, hP, hK, hD0⟩ := hB
  subst hsz
  have hD := hD0.self (sz := s.heap.size)
  have hA : ∀ q : Nat, s.heap.size ≤ q → va_A (gW E a σ) s.heap.size q := fun q h => Or.inr h
  have hS : va_S (va_A (gW E a σ) s.heap.size) s.heap s.heap [] := va_S.rf
  obtain ⟨hx, hb, hml, hown, hts⟩ := id S
  have hts0 := hinX0_settleGreater
  have hl : lv_has ls 3 [(0, .ref (a 0)), (1, .ref (a 9)), (2, .int (nI k))] := hl
  refine lv_aload_n hx hb dX0_settleGreater_0 rfl (lv_at hl 1 rfl) ?_
  refine lv_iload_n hx hb dX0_settleGreater_1 rfl (lv_at hl 2 rfl) ?_
  refine lv_aload_n hx hb dX0_settleGreater_2 rfl (lv_at hl 1 rfl) ?_
  refine lv_aload_n hx hb dX0_settleGreater_3 rfl (lv_at hl 0 rfl) ?_
  refine g_get (σ := σ) hx hb hts hts0 hown hK hP 7 (by decide) (by decide +kernel) rfl rfl dX0_settleGreater_4 ?_
  refine lv_iload_n hx hb dX0_settleGreater_7 rfl (lv_at hl 2 rfl) ?_
  refine g_at S gX0_settleGreater_X0_at hK hP 3 rfl (by decide) (v := nI ((glf σ) k)) (vp_in_nI (by omega) (by decide)) (by rw [nI_clamp (by omega)]) hl.1 (Nat.le_of_ble_eq_true rfl) ⟨Nat.zero_le _, Nat.zero_le _⟩ ⟨Nat.le_of_ble_eq_true rfl, Nat.le_of_ble_eq_true rfl⟩ dX0_settleGreater_8 ?_
  refine g_at S gX0_settleGreater_X0_at hK hP 9 rfl (by decide) (v := (ghs σ) ((glf σ) k)) (vp_in_nI (by omega) (by decide)) (by rw [nI_clamp (by omega)]) hl.1 (Nat.le_of_ble_eq_true rfl) ⟨Nat.zero_le _, Nat.zero_le _⟩ ⟨Nat.le_of_ble_eq_true rfl, Nat.le_of_ble_eq_true rfl⟩ dX0_settleGreater_11 ?_
  refine lv_aload_n hx hb dX0_settleGreater_14 rfl (lv_at hl 1 rfl) ?_
  refine lv_aload_n hx hb dX0_settleGreater_15 rfl (lv_at hl 0 rfl) ?_
  refine g_get (σ := σ) hx hb hts hts0 hown hK hP 8 (by decide) (by decide +kernel) rfl rfl dX0_settleGreater_16 ?_
  refine lv_iload_n hx hb dX0_settleGreater_19 rfl (lv_at hl 2 rfl) ?_
  refine g_at S gX0_settleGreater_X0_at hK hP 4 rfl (by decide) (v := nI ((grt σ) k)) (vp_in_nI (by omega) (by decide)) (by rw [nI_clamp (by omega)]) hl.1 (Nat.le_of_ble_eq_true rfl) ⟨Nat.zero_le _, Nat.zero_le _⟩ ⟨Nat.le_of_ble_eq_true rfl, Nat.le_of_ble_eq_true rfl⟩ dX0_settleGreater_20 ?_
  refine g_at S gX0_settleGreater_X0_at hK hP 9 rfl (by decide) (v := (ghs σ) ((grt σ) k)) (vp_in_nI (by omega) (by decide)) (by rw [nI_clamp (by omega)]) hl.1 (Nat.le_of_ble_eq_true rfl) ⟨Nat.zero_le _, Nat.zero_le _⟩ ⟨Nat.le_of_ble_eq_true rfl, Nat.le_of_ble_eq_true rfl⟩ dX0_settleGreater_23 ?_
  refine g_max hx hb (hml.trans hl.1.symm) hown (hts (.methodLink RX0 269 Lib.Math.max.name) (by decide +kernel)) (hts (.static Lib.Math.max.name) (by decide +kernel)) (hts (.initialized "java/lang/Math") (by decide +kernel)) (hts (.code Lib.Math.max.name Lib.Math.max.code 2 (some .int)) (by decide +kernel)) (Nat.le_of_ble_eq_true rfl) (Nat.le_of_ble_eq_true rfl) ⟨Nat.zero_le _, Nat.zero_le _⟩ dX0_settleGreater_26 ?_
  refine g_put S gX0_settleGreater_X0_put hK hP hD hS hA 9 rfl (by decide) (f' := (upd ((ghs σ)) k (imx ((ghs σ) ((glf σ) k)) ((ghs σ) ((grt σ) k))))) (vp_in_nI (by omega) (by decide)) (by rw [nI_clamp (by omega)]) hl.1 (Nat.le_of_ble_eq_true rfl) ⟨Nat.zero_le _, Nat.zero_le _⟩ ⟨Nat.le_of_ble_eq_true rfl, Nat.le_of_ble_eq_true rfl⟩ dX0_settleGreater_29 (fun H locs hP hD hS => ?_)
  have hP : gP E (gW E a (gn σ, gk σ, gc σ, gs σ, ge σ, glf σ, grt σ, gst σ, gpc σ, gpf σ, glo σ, ghi σ, gwt σ, ggr σ, gsu σ, gho σ, upd ((ghs σ)) k (imx ((ghs σ) ((glf σ) k)) ((ghs σ) ((grt σ) k))), grb σ)) H := hP
  have hD : va_D (va_A (gW E a σ) s.heap.size) (gW E a (gn σ, gk σ, gc σ, gs σ, ge σ, glf σ, grt σ, gst σ, gpc σ, gpf σ, glo σ, ghi σ, gwt σ, ggr σ, gsu σ, gho σ, upd ((ghs σ)) k (imx ((ghs σ) ((glf σ) k)) ((ghs σ) ((grt σ) k))), grb σ)) := hD
  exact W.vret hx hb hr (fun t ht hW => ⟨⟨(), rfl, trivial, by show gP E _ t.heap; rw [ht]; exact hP⟩, hS.F ht⟩) hS.2.2 dX0_settleGreater_32
theorem hinX0_settleFork : ∀ w ∈ wsX00, w ∈ wsX0_settleFork := fun w h => List.mem_cons_of_mem _ (List.mem_append_right _ h)
theorem hdX0_settleFork : yX0_settleFork.cls = RX0 ∧ yX0_settleFork.cls ≠ "java/lang/invoke/MethodHandle" ∧ yX0_settleFork.cls ≠ "java/lang/invoke/VarHandle" ∧ (parseMethodDescriptor yX0_settleFork.desc).map (fun d => d.parameters.length) = some 1 := by decide +kernel
set_option maxHeartbeats 4000000 in
set_option maxRecDepth 100000 in
theorem c_settleFork (l : Launch) (E : GE) (a : Nat → Nat) (σ : GS) (sz : Nat) (k : Nat) (hk : k < 40) (t1 : glf σ k < 40) (t2 : grt σ k < 40) : Met l yX0_settleFork wsX0_settleFork { frames := 2, cells := 0, slots := 0, locals := 44 } (va_Pc [.ref (a 0), .int (nI k)] (gBw E sz (gW E a σ))) (gQv E (gW E a σ) (gW E a (gSeF σ k)) sz) 0 0 (va_A (gW E a σ) sz) := by
  refine w_met (cc := cX0_settleFork) (maxL := 2) (ret := none) (by decide) rfl (Nat.le_of_ble_eq_true rfl) ?_
  intro p e s m below meth c ls S hr hlocks hname hB hl
  obtain ⟨hsz, hP, hK, hD0⟩ := hB
  subst hsz
  have hD := hD0.self (sz := s.heap.size)
  have hA : ∀ q : Nat, s.heap.size ≤ q → va_A (gW E a σ) s.heap.size q := fun q h => Or.inr h
  have hS : va_S (va_A (gW E a σ) s.heap.size) s.heap s.heap [] := va_S.rf
  obtain ⟨hx, hb, hml, hown, hts⟩ := id S
  have hts0 := hinX0_settleFork
  have hl : lv_has ls 2 [(0, .ref (a 0)), (1, .int (nI k))] := hl
  refine lv_aload_n hx hb dX0_settleFork_0 rfl (lv_at hl 0 rfl) ?_
  refine lv_aload_n hx hb dX0_settleFork_1 rfl (lv_at hl 0 rfl) ?_
  refine g_get (σ := σ) hx hb hts hts0 hown hK hP 11 (by decide) (by decide +kernel) rfl rfl dX0_settleFork_2 ?_
  refine lv_iload_n hx hb dX0_settleFork_5 rfl (lv_at hl 1 rfl) ?_
  refine g0w (As := [.ref (a 7), .int (nI k)]) (rest := []) (σ' := (gn σ, gk σ, gc σ, gs σ, ge σ, glf σ, grt σ, gst σ, gpc σ, gpf σ, glo σ, ghi σ, gwt σ, ggr σ, gGr1 (gsu σ) σ k, gho σ, ghs σ, grb σ)) S (c_sg_su l E a σ _ k (by omega) t1 t2) (cwV 2 hts gX0_settleFork_X0_settleGreater rfl rfl rfl hdX0_settleGreater ⟨Nat.le_of_ble_eq_true rfl, Nat.le_of_ble_eq_true rfl⟩) hK hP hD hS hA rfl hl.1 rfl (Nat.le_of_ble_eq_true rfl) ⟨Nat.zero_le _, Nat.zero_le _⟩ dX0_settleFork_6 (fun H locs hP hD hS => ?_)
  refine lv_aload_n hx hb dX0_settleFork_9 rfl (lv_at hl 0 rfl) ?_
  refine lv_aload_n hx hb dX0_settleFork_10 rfl (lv_at hl 0 rfl) ?_
  refine g_get (σ := (gn σ, gk σ, gc σ, gs σ, ge σ, glf σ, grt σ, gst σ, gpc σ, gpf σ, glo σ, ghi σ, gwt σ, ggr σ, gGr1 (gsu σ) σ k, gho σ, ghs σ, grb σ)) hx hb hts hts0 hown hK hP 12 (by decide) (by decide +kernel) rfl rfl dX0_settleFork_11 ?_
  refine lv_iload_n hx hb dX0_settleFork_14 rfl (lv_at hl 1 rfl) ?_
  refine g0w (As := [.ref (a 8), .int (nI k)]) (rest := []) (σ' := (gn σ, gk σ, gc σ, gs σ, ge σ, glf σ, grt σ, gst σ, gpc σ, gpf σ, glo σ, ghi σ, gwt σ, ggr σ, gGr1 (gsu σ) σ k, gGr1 (gho σ) σ k, ghs σ, grb σ)) S (c_sg_ho l E a (gn σ, gk σ, gc σ, gs σ, ge σ, glf σ, grt σ, gst σ, gpc σ, gpf σ, glo σ, ghi σ, gwt σ, ggr σ, gGr1 (gsu σ) σ k, gho σ, ghs σ, grb σ) _ k (by omega) t1 t2) (cwV 2 hts gX0_settleFork_X0_settleGreater rfl rfl rfl hdX0_settleGreater ⟨Nat.le_of_ble_eq_true rfl, Nat.le_of_ble_eq_true rfl⟩) hK hP hD hS hA rfl hl.1 rfl (Nat.le_of_ble_eq_true rfl) ⟨Nat.zero_le _, Nat.zero_le _⟩ dX0_settleFork_15 (fun H locs hP hD hS => ?_)
  refine lv_aload_n hx hb dX0_settleFork_18 rfl (lv_at hl 0 rfl) ?_
  refine lv_aload_n hx hb dX0_settleFork_19 rfl (lv_at hl 0 rfl) ?_
  refine g_get (σ := (gn σ, gk σ, gc σ, gs σ, ge σ, glf σ, grt σ, gst σ, gpc σ, gpf σ, glo σ, ghi σ, gwt σ, ggr σ, gGr1 (gsu σ) σ k, gGr1 (gho σ) σ k, ghs σ, grb σ)) hx hb hts hts0 hown hK hP 13 (by decide) (by decide +kernel) rfl rfl dX0_settleFork_20 ?_
  refine lv_iload_n hx hb dX0_settleFork_23 rfl (lv_at hl 1 rfl) ?_
  refine g0w (As := [.ref (a 9), .int (nI k)]) (rest := []) (σ' := (gn σ, gk σ, gc σ, gs σ, ge σ, glf σ, grt σ, gst σ, gpc σ, gpf σ, glo σ, ghi σ, gwt σ, ggr σ, gGr1 (gsu σ) σ k, gGr1 (gho σ) σ k, gGr1 (ghs σ) σ k, grb σ)) S (c_sg_hs l E a (gn σ, gk σ, gc σ, gs σ, ge σ, glf σ, grt σ, gst σ, gpc σ, gpf σ, glo σ, ghi σ, gwt σ, ggr σ, gGr1 (gsu σ) σ k, gGr1 (gho σ) σ k, ghs σ, grb σ) _ k (by omega) t1 t2) (cwV 2 hts gX0_settleFork_X0_settleGreater rfl rfl rfl hdX0_settleGreater ⟨Nat.le_of_ble_eq_true rfl, Nat.le_of_ble_eq_true rfl⟩) hK hP hD hS hA rfl hl.1 rfl (Nat.le_of_ble_eq_true rfl) ⟨Nat.zero_le _, Nat.zero_le _⟩ dX0_settleFork_24 (fun H locs hP hD hS => ?_)
  exact W.vret hx hb hr (fun t ht hW => ⟨⟨(), rfl, trivial, by show gP E _ t.heap; rw [ht]; exact hP⟩, hS.F ht⟩) hS.2.2 dX0_settleFork_27
theorem hinX0_settleForksAfter : ∀ w ∈ wsX00, w ∈ wsX0_settleForksAfter := fun w h => List.mem_cons_of_mem _ (List.mem_append_right _ h)
theorem hdX0_settleForksAfter : yX0_settleForksAfter.cls = RX0 ∧ yX0_settleForksAfter.cls ≠ "java/lang/invoke/MethodHandle" ∧ yX0_settleForksAfter.cls ≠ "java/lang/invoke/VarHandle" ∧ (parseMethodDescriptor yX0_settleForksAfter.desc).map (fun d => d.parameters.length) = some 1 := by decide +kernel
set_option maxHeartbeats 4000000 in
set_option maxRecDepth 100000 in
theorem c_settleForksAfter (l : Launch) (E : GE) (a : Nat → Nat) (σ : GS) (sz : Nat) (hO : GOK σ) (k : Nat) (hk : k < gn σ) : Met l yX0_settleForksAfter wsX0_settleForksAfter { frames := 3, cells := 0, slots := 0, locals := 65 } (va_Pc [.ref (a 0), .int (nI k)] (gBw E sz (gW E a σ))) (gQv E (gW E a σ) (gW E a (gSA σ (k + 1) (gn σ - (k + 1)))) sz) 0 0 (va_A (gW E a σ) sz) := by
  refine w_met (cc := cX0_settleForksAfter) (maxL := 3) (ret := none) (by decide) rfl (Nat.le_of_ble_eq_true rfl) ?_
  intro p e s m below meth c ls S hr hlocks hname hB hl
  obtain ⟨hsz, hP, hK, hD0⟩ := hB
  subst hsz
  have hD := hD0.self (sz := s.heap.size)
  have hA : ∀ q : Nat, s.heap.size ≤ q → va_A (gW E a σ) s.heap.size q := fun q h => Or.inr h
  have hS : va_S (va_A (gW E a σ) s.heap.size) s.heap s.heap [] := va_S.rf
  obtain ⟨hx, hb, hml, hown, hts⟩ := id S
  have tn := hO.1
  have hts0 := hinX0_settleForksAfter
  have hl : lv_has ls 3 [(0, .ref (a 0)), (1, .int (nI k))] := hl
  refine lv_iload_n hx hb dX0_settleForksAfter_0 rfl (lv_at hl 1 rfl) ?_
  refine lv_iconst (v := 1) hx hb dX0_settleForksAfter_1 (by decide) ?_
  refine lv_iadd hx hb dX0_settleForksAfter_2 ?_
  rw [nI_1 k]
  refine lv_istore_n (lv' := [(2, .int (nI (k + 1))), (0, .ref (a 0)), (1, .int (nI k))]) hx hb dX0_settleForksAfter_3 rfl hl (by decide) rfl (fun ls hl => ?_)
  have key : ∀ (d i : Nat) (j : Nat) (s1 : GS) (H : Heap) (locs : List Loc) (ls : Array Slot), i + d = gn σ → s1 = gSA σ (k + 1) j ∧ i = k + 1 + j → gP E (gW E a s1) H → va_S (va_A (gW E a σ) s.heap.size) s.heap H locs → lv_has ls 3 [(2, .int (nI i)), (0, .ref (a 0)), (1, .int (nI k))] → W p l e (headSpec wsX0_settleForksAfter { frames := 3, cells := 0, slots := 0, locals := 65 }).room s m [.ref (a 0), .int (nI k)].toArray below meth c H locs 0 0 (MQ below (gQv E (gW E a σ) (gW E a (gSA σ (k + 1) (gn σ - (k + 1)))) s.heap.size) [.ref (a 0), .int (nI k)].toArray s 0 0 (va_A (gW E a σ) s.heap.size)) (F0 m 4 ls []) := by
    intro d
    induction d with
    | zero =>
      intro i j s1 H locs ls hi hinv hP hS hl
      have hD : va_D (va_A (gW E a σ) s.heap.size) (gW E a s1) := gW_D hD
      have hq := gSA_same σ (k + 1) j
      rw [← hinv.1] at hq
      obtain ⟨hq1, hq2, hq3⟩ := hq
      have hO1 := hq3 hO
      obtain rfl : i = gn σ := by omega
      refine lv_iload_n hx hb dX0_settleForksAfter_4 rfl (lv_at hl 0 rfl) ?_
      refine lv_aload_n hx hb dX0_settleForksAfter_5 rfl (lv_at hl 1 rfl) ?_
      refine g_get (σ := s1) hx hb hts hts0 hown hK hP 0 (by decide) (by decide +kernel) rfl rfl dX0_settleForksAfter_6 ?_
      refine lv_icmp_ge (tgt := 31) hx hb dX0_settleForksAfter_9 (by decide) (fun _ => ?_) (fun q => absurd ((nI_le (by omega) (by omega))) q)
      exact W.vret hx hb hr (fun t ht hW => ⟨⟨(), rfl, trivial, by show gP E _ t.heap; rw [ht]; rw [show gn σ - (k + 1) = j by omega, ← hinv.1]; exact hP⟩, hS.F ht⟩) hS.2.2 dX0_settleForksAfter_31
    | succ d ih =>
      intro i j s1 H locs ls hi hinv hP hS hl
      have hD : va_D (va_A (gW E a σ) s.heap.size) (gW E a s1) := gW_D hD
      have hq := gSA_same σ (k + 1) j
      rw [← hinv.1] at hq
      obtain ⟨hq1, hq2, hq3⟩ := hq
      have hO1 := hq3 hO
      refine lv_iload_n hx hb dX0_settleForksAfter_4 rfl (lv_at hl 0 rfl) ?_
      refine lv_aload_n hx hb dX0_settleForksAfter_5 rfl (lv_at hl 1 rfl) ?_
      refine g_get (σ := s1) hx hb hts hts0 hown hK hP 0 (by decide) (by decide +kernel) rfl rfl dX0_settleForksAfter_6 ?_
      refine lv_icmp_ge (tgt := 31) hx hb dX0_settleForksAfter_9 (by decide) (fun q => absurd q ((nI_ge (by omega) (by omega)))) (fun _ => ?_)
      refine lv_aload_n hx hb dX0_settleForksAfter_12 rfl (lv_at hl 1 rfl) ?_
      refine lv_iload_n hx hb dX0_settleForksAfter_13 rfl (lv_at hl 0 rfl) ?_
      refine g0i (As := [.int (nI i)]) (rest := []) S (c_holdsExam l E a s1 i (by omega)) (cwV 1 hts gX0_settleForksAfter_X0_holdsExam rfl rfl rfl hdX0_holdsExam ⟨Nat.le_of_ble_eq_true rfl, Nat.le_of_ble_eq_true rfl⟩) hK hP rfl hl.1 rfl (Nat.le_of_ble_eq_true rfl) ⟨Nat.zero_le _, Nat.zero_le _⟩ dX0_settleForksAfter_14 ?_
      refine lv_if_ne (tgt := 25) hx hb dX0_settleForksAfter_17 (by decide) (fun c17 => ?_) (fun c17 => ?_)
      · refine lv_iinc (v := nI (i + 1)) (lv' := [(2, .int (nI (i + 1))), (0, .ref (a 0)), (1, .int (nI k))]) hx hb dX0_settleForksAfter_25 hl (k := 0) rfl (nI_1 i) (by decide) rfl (fun ls hl => ?_)
        refine lv_goto (tgt := 4) hx hb dX0_settleForksAfter_28 (by decide) ?_
        exact ih (i + 1) (j + 1) s1 H locs ls (by omega) ⟨(by first | (rw [gSA, ← hinv.2, ← hinv.1, if_pos (by rw [← hq2]; exact b2i_ne0.mp c17)]) | (rw [gSA, ← hinv.2, ← hinv.1, if_neg (by rw [← hq2, b2i_eq0.mp c17]; decide)])), by omega⟩ hP hS (lv_sub hl [0, 1, 2] rfl)
      · refine lv_aload_n hx hb dX0_settleForksAfter_20 rfl (lv_at hl 1 rfl) ?_
        refine lv_iload_n hx hb dX0_settleForksAfter_21 rfl (lv_at hl 0 rfl) ?_
        refine g0w (As := [.int (nI i)]) (rest := []) (σ' := gSeF s1 i) S (c_settleFork l E a s1 _ i (by omega) (hO1.2.2.1 _) (hO1.2.2.2.1 _)) (cwV 1 hts gX0_settleForksAfter_X0_settleFork rfl rfl rfl hdX0_settleFork ⟨Nat.le_of_ble_eq_true rfl, Nat.le_of_ble_eq_true rfl⟩) hK hP hD hS hA rfl hl.1 rfl (Nat.le_of_ble_eq_true rfl) ⟨Nat.zero_le _, Nat.zero_le _⟩ dX0_settleForksAfter_22 (fun H locs hP hD hS => ?_)
        refine lv_iinc (v := nI (i + 1)) (lv' := [(2, .int (nI (i + 1))), (0, .ref (a 0)), (1, .int (nI k))]) hx hb dX0_settleForksAfter_25 hl (k := 0) rfl (nI_1 i) (by decide) rfl (fun ls hl => ?_)
        refine lv_goto (tgt := 4) hx hb dX0_settleForksAfter_28 (by decide) ?_
        exact ih (i + 1) (j + 1) ((gSeF s1 i)) H locs ls (by omega) ⟨(by first | (rw [gSA, ← hinv.2, ← hinv.1, if_pos (by rw [← hq2]; exact b2i_ne0.mp c17)]) | (rw [gSA, ← hinv.2, ← hinv.1, if_neg (by rw [← hq2, b2i_eq0.mp c17]; decide)])), by omega⟩ hP hS (lv_sub hl [0, 1, 2] rfl)
  exact key (gn σ - (k + 1)) (k + 1) 0 σ _ _ ls (by omega) ⟨rfl, by omega⟩ hP hS (lv_sub hl [0, 1, 2] rfl)
theorem hdX0_requireWeight : yX0_requireWeight.cls = RX0 ∧ yX0_requireWeight.cls ≠ "java/lang/invoke/MethodHandle" ∧ yX0_requireWeight.cls ≠ "java/lang/invoke/VarHandle" ∧ (parseMethodDescriptor yX0_requireWeight.desc).map (fun d => d.parameters.length) = some 1 := by decide +kernel
set_option maxHeartbeats 4000000 in
set_option maxRecDepth 100000 in
theorem c_requireWeight (l : Launch) (E : GE) (w : Int32) (h1 : ¬ w < 1) (h9 : w ≤ nI 9) : Met l yX0_requireWeight wsX0_requireWeight rmZ (va_Pc [.int w] (gB E [])) (va_Sv (fun _ => True)) 0 0 (fun _ => False) := by
  refine w_met (cc := cX0_requireWeight) (maxL := 1) (ret := none) (by decide) rfl (Nat.le_of_ble_eq_true rfl) ?_
  intro p e s m below meth c ls S hr hlocks hname hB hl
  obtain ⟨hx, hb, hml, hown, hts⟩ := id S
  have hl : lv_has ls 1 [(0, .int w)] := hl
  refine lv_iload_n hx hb dX0_requireWeight_0 rfl (lv_at hl 0 rfl) ?_
  refine lv_iconst (v := 1) hx hb dX0_requireWeight_1 (by decide) ?_
  refine lv_icmp_lt (tgt := 11) hx hb dX0_requireWeight_2 (by decide) (fun q => absurd q h1) (fun _ => ?_)
  refine lv_iload_n hx hb dX0_requireWeight_5 rfl (lv_at hl 0 rfl) ?_
  refine lv_bipush (v := nI 9) hx hb dX0_requireWeight_6 (by decide) ?_
  refine lv_icmp_le (tgt := 22) hx hb dX0_requireWeight_8 (by decide) (fun _ => ?_) (fun q => absurd h9 q)
  exact W.vret hx hb hr (fun t ht hW => ⟨rfl, trivial, ht⟩) (fun _ h => nomatch h) dX0_requireWeight_22
theorem hinX0_walk : ∀ w ∈ wsX00, w ∈ wsX0_walk := fun w h => List.mem_cons_of_mem _ (List.mem_append_right _ h)
theorem hdX0_walk : yX0_walk.cls = RX0 ∧ yX0_walk.cls ≠ "java/lang/invoke/MethodHandle" ∧ yX0_walk.cls ≠ "java/lang/invoke/VarHandle" ∧ (parseMethodDescriptor yX0_walk.desc).map (fun d => d.parameters.length) = some 2 := by decide +kernel
set_option maxHeartbeats 4000000 in
set_option maxRecDepth 100000 in
theorem c_walk (l : Launch) (E : GE) (a : Nat → Nat) (σ : GS) (sz : Nat) (hO : GOK σ) (k : Nat) (hk : k < 8) (hc : gpc σ k < 40) (b : Bool) : Met l yX0_walk wsX0_walk { frames := 2, cells := 0, slots := 0, locals := 43 } (va_Pc [.ref (a 0), .int (nI k), .int (b2i b)] (gBw E sz (gW E a σ))) (gQv E (gW E a σ) (gW E a (gWalk σ k b)) sz) 0 0 (va_A (gW E a σ) sz) := by
  refine w_met (cc := cX0_walk) (maxL := 5) (ret := none) (by decide) rfl (Nat.le_of_ble_eq_true rfl) ?_
  intro p e s m below meth c ls S hr hlocks hname hB hl
  obtain ⟨hsz, hP, hK, hD0⟩ := hB
  subst hsz
  have hD := hD0.self (sz := s.heap.size)
  have hA : ∀ q : Nat, s.heap.size ≤ q → va_A (gW E a σ) s.heap.size q := fun q h => Or.inr h
  have hS : va_S (va_A (gW E a σ) s.heap.size) s.heap s.heap [] := va_S.rf
  obtain ⟨hx, hb, hml, hown, hts⟩ := id S
  have t1 := hO.2.2.2.2.1 k
  have hts0 := hinX0_walk
  have hl : lv_has ls 5 [(0, .ref (a 0)), (1, .int (nI k)), (2, .int (b2i b))] := hl
  refine lv_aload_n hx hb dX0_walk_0 rfl (lv_at hl 0 rfl) ?_
  refine g_get (σ := σ) hx hb hts hts0 hown hK hP 15 (by decide) (by decide +kernel) rfl rfl dX0_walk_1 ?_
  refine lv_iload_n hx hb dX0_walk_4 rfl (lv_at hl 1 rfl) ?_
  refine g_at S gX0_walk_X0_at hK hP 11 rfl (by decide) (v := nI ((gst σ) k)) (vp_in_nI (by omega) (by decide)) (by rw [nI_clamp (by omega)]) hl.1 (Nat.le_of_ble_eq_true rfl) ⟨Nat.zero_le _, Nat.zero_le _⟩ ⟨Nat.le_of_ble_eq_true rfl, Nat.le_of_ble_eq_true rfl⟩ dX0_walk_5 ?_
  refine lv_istore_n (lv' := [(3, .int (nI ((gst σ) k))), (0, .ref (a 0)), (1, .int (nI k)), (2, .int (b2i b))]) hx hb dX0_walk_8 rfl hl (by decide) rfl (fun ls hl => ?_)
  refine lv_aload_n hx hb dX0_walk_9 rfl (lv_at hl 1 rfl) ?_
  refine g_get (σ := σ) hx hb hts hts0 hown hK hP 16 (by decide) (by decide +kernel) rfl rfl dX0_walk_10 ?_
  refine lv_iload_n hx hb dX0_walk_13 rfl (lv_at hl 2 rfl) ?_
  refine g_at S gX0_walk_X0_at hK hP 12 rfl (by decide) (v := nI ((gpc σ) k)) (vp_in_nI (by omega) (by decide)) (by rw [nI_clamp (by omega)]) hl.1 (Nat.le_of_ble_eq_true rfl) ⟨Nat.zero_le _, Nat.zero_le _⟩ ⟨Nat.le_of_ble_eq_true rfl, Nat.le_of_ble_eq_true rfl⟩ dX0_walk_14 ?_
  refine lv_istore (lv' := [(4, .int (nI ((gpc σ) k))), (3, .int (nI ((gst σ) k))), (0, .ref (a 0)), (1, .int (nI k)), (2, .int (b2i b))]) hx hb dX0_walk_17 hl (by decide) rfl (fun ls hl => ?_)
  refine lv_aload_n hx hb dX0_walk_19 rfl (lv_at hl 2 rfl) ?_
  refine g_get (σ := σ) hx hb hts hts0 hown hK hP 17 (by decide) (by decide +kernel) rfl rfl dX0_walk_20 ?_
  refine lv_iload_n hx hb dX0_walk_23 rfl (lv_at hl 3 rfl) ?_
  refine lv_bipush (v := nI 40) hx hb dX0_walk_24 (by decide) ?_
  refine lv_imul hx hb dX0_walk_26 ?_
  rw [pk_mul k 40]
  refine lv_iload hx hb dX0_walk_27 (lv_at hl 0 rfl) ?_
  refine lv_iadd hx hb dX0_walk_29 ?_
  rw [nI_add (k * 40) ((gpc σ) k)]
  refine lv_iload_n hx hb dX0_walk_30 rfl (lv_at hl 1 rfl) ?_
  refine g_put S gX0_walk_X0_put hK hP hD hS hA 13 rfl (by decide) (f' := (fun z9 => nI (va_up ((gpf σ)) ((k * 40) + ((gpc σ) k)) ((gst σ) k) z9))) (vp_in_nI (by omega) (by decide)) (by rw [nI_clamp (by omega)]; exact n_upd _ _ _) hl.1 (Nat.le_of_ble_eq_true rfl) ⟨Nat.zero_le _, Nat.zero_le _⟩ ⟨Nat.le_of_ble_eq_true rfl, Nat.le_of_ble_eq_true rfl⟩ dX0_walk_31 (fun H locs hP hD hS => ?_)
  have hP : gP E (gW E a (gn σ, gk σ, gc σ, gs σ, ge σ, glf σ, grt σ, gst σ, gpc σ, va_up ((gpf σ)) ((k * 40) + ((gpc σ) k)) ((gst σ) k), glo σ, ghi σ, gwt σ, ggr σ, gsu σ, gho σ, ghs σ, grb σ)) H := hP
  have hD : va_D (va_A (gW E a σ) s.heap.size) (gW E a (gn σ, gk σ, gc σ, gs σ, ge σ, glf σ, grt σ, gst σ, gpc σ, va_up ((gpf σ)) ((k * 40) + ((gpc σ) k)) ((gst σ) k), glo σ, ghi σ, gwt σ, ggr σ, gsu σ, gho σ, ghs σ, grb σ)) := hD
  refine lv_aload_n hx hb dX0_walk_34 rfl (lv_at hl 2 rfl) ?_
  refine g_get (σ := (gn σ, gk σ, gc σ, gs σ, ge σ, glf σ, grt σ, gst σ, gpc σ, va_up ((gpf σ)) ((k * 40) + ((gpc σ) k)) ((gst σ) k), glo σ, ghi σ, gwt σ, ggr σ, gsu σ, gho σ, ghs σ, grb σ)) hx hb hts hts0 hown hK hP 16 (by decide) (by decide +kernel) rfl rfl dX0_walk_35 ?_
  refine lv_iload_n hx hb dX0_walk_38 rfl (lv_at hl 3 rfl) ?_
  refine lv_iload hx hb dX0_walk_39 (lv_at hl 0 rfl) ?_
  refine lv_iconst (v := 1) hx hb dX0_walk_41 (by decide) ?_
  refine lv_iadd hx hb dX0_walk_42 ?_
  rw [nI_1 ((gpc σ) k)]
  refine g_put S gX0_walk_X0_put hK hP hD hS hA 12 rfl (by decide) (f' := (fun z9 => nI (va_up ((gpc σ)) k (((gpc σ) k) + 1) z9))) (vp_in_nI (by omega) (by decide)) (by rw [nI_clamp (by omega)]; exact n_upd _ _ _) hl.1 (Nat.le_of_ble_eq_true rfl) ⟨Nat.zero_le _, Nat.zero_le _⟩ ⟨Nat.le_of_ble_eq_true rfl, Nat.le_of_ble_eq_true rfl⟩ dX0_walk_43 (fun H locs hP hD hS => ?_)
  have hP : gP E (gW E a (gn σ, gk σ, gc σ, gs σ, ge σ, glf σ, grt σ, gst σ, va_up ((gpc σ)) k (((gpc σ) k) + 1), va_up ((gpf σ)) ((k * 40) + ((gpc σ) k)) ((gst σ) k), glo σ, ghi σ, gwt σ, ggr σ, gsu σ, gho σ, ghs σ, grb σ)) H := hP
  have hD : va_D (va_A (gW E a σ) s.heap.size) (gW E a (gn σ, gk σ, gc σ, gs σ, ge σ, glf σ, grt σ, gst σ, va_up ((gpc σ)) k (((gpc σ) k) + 1), va_up ((gpf σ)) ((k * 40) + ((gpc σ) k)) ((gst σ) k), glo σ, ghi σ, gwt σ, ggr σ, gsu σ, gho σ, ghs σ, grb σ)) := hD
  refine lv_aload_n hx hb dX0_walk_46 rfl (lv_at hl 2 rfl) ?_
  refine g_get (σ := (gn σ, gk σ, gc σ, gs σ, ge σ, glf σ, grt σ, gst σ, va_up ((gpc σ)) k (((gpc σ) k) + 1), va_up ((gpf σ)) ((k * 40) + ((gpc σ) k)) ((gst σ) k), glo σ, ghi σ, gwt σ, ggr σ, gsu σ, gho σ, ghs σ, grb σ)) hx hb hts hts0 hown hK hP 15 (by decide) (by decide +kernel) rfl rfl dX0_walk_47 ?_
  refine lv_iload_n hx hb dX0_walk_50 rfl (lv_at hl 3 rfl) ?_
  refine lv_aload_n hx hb dX0_walk_51 rfl (lv_at hl 2 rfl) ?_
  refine lv_iload_n hx hb dX0_walk_52 rfl (lv_at hl 1 rfl) ?_
  refine lv_iload_n hx hb dX0_walk_53 rfl (lv_at hl 4 rfl) ?_
  refine g0i (As := [.int (nI ((gst σ) k)), .int (b2i b)]) (rest := [.int (nI k), .ref (a 11)]) S (c_pathFrom l E a (gn σ, gk σ, gc σ, gs σ, ge σ, glf σ, grt σ, gst σ, va_up ((gpc σ)) k (((gpc σ) k) + 1), va_up ((gpf σ)) ((k * 40) + ((gpc σ) k)) ((gst σ) k), glo σ, ghi σ, gwt σ, ggr σ, gsu σ, gho σ, ghs σ, grb σ) ((gst σ) k) (by omega) b) (cwV 2 hts gX0_walk_X0_pathFrom rfl rfl rfl hdX0_pathFrom ⟨Nat.le_of_ble_eq_true rfl, Nat.le_of_ble_eq_true rfl⟩) hK hP rfl hl.1 rfl (Nat.le_of_ble_eq_true rfl) ⟨Nat.zero_le _, Nat.zero_le _⟩ dX0_walk_54 ?_
  refine g_put S gX0_walk_X0_put hK hP hD hS hA 11 rfl (by decide) (f' := (fun z9 => nI (va_up ((gst σ)) k (gTo (gn σ, gk σ, gc σ, gs σ, ge σ, glf σ, grt σ, gst σ, va_up ((gpc σ)) k (((gpc σ) k) + 1), va_up ((gpf σ)) ((k * 40) + ((gpc σ) k)) ((gst σ) k), glo σ, ghi σ, gwt σ, ggr σ, gsu σ, gho σ, ghs σ, grb σ) ((gst σ) k) b) z9))) (vp_in_nI (by omega) (by decide)) (by rw [nI_clamp (by omega)]; exact n_upd _ _ _) hl.1 (Nat.le_of_ble_eq_true rfl) ⟨Nat.zero_le _, Nat.zero_le _⟩ ⟨Nat.le_of_ble_eq_true rfl, Nat.le_of_ble_eq_true rfl⟩ dX0_walk_57 (fun H locs hP hD hS => ?_)
  have hP : gP E (gW E a (gn σ, gk σ, gc σ, gs σ, ge σ, glf σ, grt σ, va_up ((gst σ)) k (gTo (gn σ, gk σ, gc σ, gs σ, ge σ, glf σ, grt σ, gst σ, va_up ((gpc σ)) k (((gpc σ) k) + 1), va_up ((gpf σ)) ((k * 40) + ((gpc σ) k)) ((gst σ) k), glo σ, ghi σ, gwt σ, ggr σ, gsu σ, gho σ, ghs σ, grb σ) ((gst σ) k) b), va_up ((gpc σ)) k (((gpc σ) k) + 1), va_up ((gpf σ)) ((k * 40) + ((gpc σ) k)) ((gst σ) k), glo σ, ghi σ, gwt σ, ggr σ, gsu σ, gho σ, ghs σ, grb σ)) H := hP
  have hD : va_D (va_A (gW E a σ) s.heap.size) (gW E a (gn σ, gk σ, gc σ, gs σ, ge σ, glf σ, grt σ, va_up ((gst σ)) k (gTo (gn σ, gk σ, gc σ, gs σ, ge σ, glf σ, grt σ, gst σ, va_up ((gpc σ)) k (((gpc σ) k) + 1), va_up ((gpf σ)) ((k * 40) + ((gpc σ) k)) ((gst σ) k), glo σ, ghi σ, gwt σ, ggr σ, gsu σ, gho σ, ghs σ, grb σ) ((gst σ) k) b), va_up ((gpc σ)) k (((gpc σ) k) + 1), va_up ((gpf σ)) ((k * 40) + ((gpc σ) k)) ((gst σ) k), glo σ, ghi σ, gwt σ, ggr σ, gsu σ, gho σ, ghs σ, grb σ)) := hD
  exact W.vret hx hb hr (fun t ht hW => ⟨⟨(), rfl, trivial, by show gP E _ t.heap; rw [ht]; exact hP⟩, hS.F ht⟩) hS.2.2 dX0_walk_60
theorem hinX0_follow : ∀ w ∈ wsX00, w ∈ wsX0_follow := fun w h => List.mem_cons_of_mem _ (List.mem_append_left _ (List.mem_append_right _ h))
theorem hdX0_follow : yX0_follow.cls = RX0 ∧ yX0_follow.cls ≠ "java/lang/invoke/MethodHandle" ∧ yX0_follow.cls ≠ "java/lang/invoke/VarHandle" ∧ (parseMethodDescriptor yX0_follow.desc).map (fun d => d.parameters.length) = some 1 := by decide +kernel
set_option maxHeartbeats 4000000 in
set_option maxRecDepth 100000 in
theorem c_follow (l : Launch) (E : GE) (a : Nat → Nat) (σ : GS) (sz : Nat) (hO : GOK σ) (k : Nat) (hk : k < gk σ) : Met l yX0_follow wsX0_follow { frames := 4, cells := 0, slots := 0, locals := 88 } (va_Pc [.ref (a 0), .int (nI k)] (gBw E sz (gW E a σ))) (gQi E (nI (gFc k 40 σ)) (gW E a σ) (gW E a (gFo k 40 σ)) sz) 0 0 (va_A (gW E a σ) sz) := by
  refine w_met (cc := cX0_follow) (maxL := 3) (ret := (some .int)) (by decide) rfl (Nat.le_of_ble_eq_true rfl) ?_
  intro p e s m below meth c ls S hr hlocks hname hB hl
  obtain ⟨hsz, hP, hK, hD0⟩ := hB
  subst hsz
  have hD := hD0.self (sz := s.heap.size)
  have hA : ∀ q : Nat, s.heap.size ≤ q → va_A (gW E a σ) s.heap.size q := fun q h => Or.inr h
  have hS : va_S (va_A (gW E a σ) s.heap.size) s.heap s.heap [] := va_S.rf
  obtain ⟨hx, hb, hml, hown, hts⟩ := id S
  have tk := hO.2.1
  have hts0 := hinX0_follow
  have hl : lv_has ls 3 [(0, .ref (a 0)), (1, .int (nI k))] := hl
  refine lv_aload_n hx hb dX0_follow_0 rfl (lv_at hl 0 rfl) ?_
  refine lv_iload_n hx hb dX0_follow_1 rfl (lv_at hl 1 rfl) ?_
  refine g0v (As := [.int (nI k)]) (rest := []) S (c_requireStudent l E a σ k (by omega) (by omega)) (cwV 1 hts gX0_follow_X0_requireStudent rfl rfl rfl hdX0_requireStudent ⟨Nat.le_of_ble_eq_true rfl, Nat.le_of_ble_eq_true rfl⟩) hK hP rfl hl.1 rfl (Nat.le_of_ble_eq_true rfl) ⟨Nat.zero_le _, Nat.zero_le _⟩ dX0_follow_2 ?_
  refine lv_iconst (v := 0) hx hb dX0_follow_5 (by decide) ?_
  refine lv_istore_n (lv' := [(2, .int 0), (0, .ref (a 0)), (1, .int (nI k))]) hx hb dX0_follow_6 rfl hl (by decide) rfl (fun ls hl => ?_)
  have key : ∀ (d i : Nat) (x : Nat) (s1 : GS) (H : Heap) (locs : List Loc) (ls : Array Slot), i + d = 40 → gFo k 40 σ = gFo k (40 - i) s1 ∧ gFc k 40 σ = gFc k (40 - i) s1 + x ∧ x = i ∧ GOK s1 ∧ k < gk s1 → gP E (gW E a s1) H → va_S (va_A (gW E a σ) s.heap.size) s.heap H locs → lv_has ls 3 [(2, .int (nI i)), (0, .ref (a 0)), (1, .int (nI k))] → W p l e (headSpec wsX0_follow { frames := 4, cells := 0, slots := 0, locals := 88 }).room s m [.ref (a 0), .int (nI k)].toArray below meth c H locs 0 0 (MQ below (gQi E (nI (gFc k 40 σ)) (gW E a σ) (gW E a (gFo k 40 σ)) s.heap.size) [.ref (a 0), .int (nI k)].toArray s 0 0 (va_A (gW E a σ) s.heap.size)) (F0 m 7 ls []) := by
    intro d
    induction d with
    | zero =>
      intro i x s1 H locs ls hi hinv hP hS hl
      have hD : va_D (va_A (gW E a σ) s.heap.size) (gW E a s1) := gW_D hD
      have hO1 := hinv.2.2.2.1
      have t1 := hO1.2.2.2.2.1 k
      have t2 := hO1.2.2.2.2.2.2.1 k
      have t3 := hO1.2.1
      have t4 := hinv.2.2.2.2
      obtain rfl : i = 40 := by omega
      refine lv_iload_n hx hb dX0_follow_7 rfl (lv_at hl 0 rfl) ?_
      refine lv_bipush (v := nI 40) hx hb dX0_follow_8 (by decide) ?_
      refine lv_icmp_ge (tgt := 51) hx hb dX0_follow_10 (by decide) (fun _ => ?_) (fun q => absurd ((nI_le (by omega) (by omega))) q)
      refine lv_iload_n hx hb dX0_follow_51 rfl (lv_at hl 0 rfl) ?_
      exact W.iret hx hb hr (fun t ht hW => ⟨⟨_, (), rfl, (by first | (rw [hinv.2.1, show 40 - i = (40 - (i + 1)) + 1 by omega, gFc, if_pos hz, hinv.2.2.1, Nat.zero_add]) | (rw [hinv.2.1, hinv.2.2.1]; rfl)), by show gP E _ t.heap; rw [ht]; (first | (rw [hinv.1, show 40 - i = (40 - (i + 1)) + 1 by omega, gFo, if_pos hz]; exact hP) | (rw [hinv.1]; exact hP))⟩, hS.F ht⟩) hS.2.2 dX0_follow_52
    | succ d ih =>
      intro i x s1 H locs ls hi hinv hP hS hl
      have hD : va_D (va_A (gW E a σ) s.heap.size) (gW E a s1) := gW_D hD
      have hO1 := hinv.2.2.2.1
      have t1 := hO1.2.2.2.2.1 k
      have t2 := hO1.2.2.2.2.2.2.1 k
      have t3 := hO1.2.1
      have t4 := hinv.2.2.2.2
      refine lv_iload_n hx hb dX0_follow_7 rfl (lv_at hl 0 rfl) ?_
      refine lv_bipush (v := nI 40) hx hb dX0_follow_8 (by decide) ?_
      refine lv_icmp_ge (tgt := 51) hx hb dX0_follow_10 (by decide) (fun q => absurd q ((nI_ge (by omega) (by omega)))) (fun _ => ?_)
      refine lv_aload_n hx hb dX0_follow_13 rfl (lv_at hl 1 rfl) ?_
      refine lv_aload_n hx hb dX0_follow_14 rfl (lv_at hl 1 rfl) ?_
      refine g_get (σ := s1) hx hb hts hts0 hown hK hP 15 (by decide) (by decide +kernel) rfl rfl dX0_follow_15 ?_
      refine lv_iload_n hx hb dX0_follow_18 rfl (lv_at hl 2 rfl) ?_
      refine g_at S gX0_follow_X0_at hK hP 11 rfl (by decide) (v := nI ((gst s1) k)) (vp_in_nI (by omega) (by decide)) (by rw [nI_clamp (by omega)]) hl.1 (Nat.le_of_ble_eq_true rfl) ⟨Nat.zero_le _, Nat.zero_le _⟩ ⟨Nat.le_of_ble_eq_true rfl, Nat.le_of_ble_eq_true rfl⟩ dX0_follow_19 ?_
      refine g0i (As := [.int (nI ((gst s1) k))]) (rest := []) S (c_holdsExam l E a s1 ((gst s1) k) (by omega)) (cwV 1 hts gX0_follow_X0_holdsExam rfl rfl rfl hdX0_holdsExam ⟨Nat.le_of_ble_eq_true rfl, Nat.le_of_ble_eq_true rfl⟩) hK hP rfl hl.1 rfl (Nat.le_of_ble_eq_true rfl) ⟨Nat.zero_le _, Nat.zero_le _⟩ dX0_follow_22 ?_
      refine lv_if_ne (tgt := 51) hx hb dX0_follow_25 (by decide) (fun c25 => ?_) (fun c25 => ?_)
      · have hz := b2i_ne0.mp c25
        refine lv_iload_n hx hb dX0_follow_51 rfl (lv_at hl 0 rfl) ?_
        exact W.iret hx hb hr (fun t ht hW => ⟨⟨_, (), rfl, (by first | (rw [hinv.2.1, show 40 - i = (40 - (i + 1)) + 1 by omega, gFc, if_pos hz, hinv.2.2.1, Nat.zero_add]) | (rw [hinv.2.1, hinv.2.2.1]; rfl)), by show gP E _ t.heap; rw [ht]; (first | (rw [hinv.1, show 40 - i = (40 - (i + 1)) + 1 by omega, gFo, if_pos hz]; exact hP) | (rw [hinv.1]; exact hP))⟩, hS.F ht⟩) hS.2.2 dX0_follow_52
      · have hz := b2i_eq0.mp c25
        refine lv_aload_n hx hb dX0_follow_28 rfl (lv_at hl 1 rfl) ?_
        refine lv_iload_n hx hb dX0_follow_29 rfl (lv_at hl 2 rfl) ?_
        refine lv_aload_n hx hb dX0_follow_30 rfl (lv_at hl 1 rfl) ?_
        refine lv_aload_n hx hb dX0_follow_31 rfl (lv_at hl 1 rfl) ?_
        refine g_get (σ := s1) hx hb hts hts0 hown hK hP 15 (by decide) (by decide +kernel) rfl rfl dX0_follow_32 ?_
        refine lv_iload_n hx hb dX0_follow_35 rfl (lv_at hl 2 rfl) ?_
        refine g_at S gX0_follow_X0_at hK hP 11 rfl (by decide) (v := nI ((gst s1) k)) (vp_in_nI (by omega) (by decide)) (by rw [nI_clamp (by omega)]) hl.1 (Nat.le_of_ble_eq_true rfl) ⟨Nat.zero_le _, Nat.zero_le _⟩ ⟨Nat.le_of_ble_eq_true rfl, Nat.le_of_ble_eq_true rfl⟩ dX0_follow_36 ?_
        refine g0i (As := [.int (nI ((gst s1) k))]) (rest := [.int (nI k), .ref (a 0)]) S (c_plansRight l E a s1 hO1 ((gst s1) k) (by omega)) (cwV 1 hts gX0_follow_X0_plansRight rfl rfl rfl hdX0_plansRight ⟨Nat.le_of_ble_eq_true rfl, Nat.le_of_ble_eq_true rfl⟩) hK hP rfl hl.1 rfl (Nat.le_of_ble_eq_true rfl) ⟨Nat.zero_le _, Nat.zero_le _⟩ dX0_follow_39 ?_
        refine g0w (As := [.int (nI k), .int (b2i (gPl s1 ((gst s1) k)))]) (rest := []) (σ' := gWalk s1 k (gPl s1 ((gst s1) k))) S (c_walk l E a s1 _ hO1 k (by omega) (by omega) (gPl s1 ((gst s1) k))) (cwV 2 hts gX0_follow_X0_walk rfl rfl rfl hdX0_walk ⟨Nat.le_of_ble_eq_true rfl, Nat.le_of_ble_eq_true rfl⟩) hK hP hD hS hA rfl hl.1 rfl (Nat.le_of_ble_eq_true rfl) ⟨Nat.zero_le _, Nat.zero_le _⟩ dX0_follow_42 (fun H locs hP hD hS => ?_)
        refine lv_iinc (v := nI (i + 1)) (lv' := [(2, .int (nI (i + 1))), (0, .ref (a 0)), (1, .int (nI k))]) hx hb dX0_follow_45 hl (k := 0) rfl (nI_1 i) (by decide) rfl (fun ls hl => ?_)
        refine lv_goto (tgt := 7) hx hb dX0_follow_48 (by decide) ?_
        exact ih (i + 1) (x + 1) ((gWalk s1 k (gPl s1 ((gst s1) k)))) H locs ls (by omega) ⟨by rw [hinv.1, show 40 - i = (40 - (i + 1)) + 1 by omega, gFo, hz]; rfl, by rw [hinv.2.1, show 40 - i = (40 - (i + 1)) + 1 by omega, gFc, hz]; show _ + 1 + x = _ + (x + 1); omega, by omega, gWalk_ok hO1 hinv.2.2.2.2 hz _, hinv.2.2.2.2⟩ hP hS (lv_sub hl [0, 1, 2] rfl)
  exact key 40 0 0 σ _ _ ls (by omega) ⟨rfl, rfl, rfl, hO, hk⟩ hP hS (lv_sub hl [0, 1, 2] rfl)
theorem hinX0_addExam : ∀ w ∈ wsX00, w ∈ wsX0_addExam := fun w h => List.mem_cons_of_mem _ (List.mem_append_left _ (List.mem_append_left _ (List.mem_append_right _ h)))
theorem hdX0_addExam : yX0_addExam.cls = RX0 ∧ yX0_addExam.cls ≠ "java/lang/invoke/MethodHandle" ∧ yX0_addExam.cls ≠ "java/lang/invoke/VarHandle" ∧ (parseMethodDescriptor yX0_addExam.desc).map (fun d => d.parameters.length) = some 2 := by decide +kernel
set_option maxHeartbeats 4000000 in
set_option maxRecDepth 100000 in
theorem c_addExam (l : Launch) (E : GE) (a : Nat → Nat) (σ : GS) (sz : Nat) (x y : Nat) (hxy : x ≤ y) (hy : y ≤ 20) (hn : gn σ < 40) : Met l yX0_addExam wsX0_addExam { frames := 3, cells := 0, slots := 0, locals := 65 } (va_Pc [.ref (a 0), .int (nI x), .int (nI y)] (gBw E sz (gW E a σ))) (gQi E (nI (gn σ)) (gW E a σ) (gW E a (gAddE σ x y)) sz) 0 0 (va_A (gW E a σ) sz) := by
  refine w_met (cc := cX0_addExam) (maxL := 4) (ret := (some .int)) (by decide) rfl (Nat.le_of_ble_eq_true rfl) ?_
  intro p e s m below meth c ls S hr hlocks hname hB hl
  obtain ⟨hsz, hP, hK, hD0⟩ := hB
  subst hsz
  have hD := hD0.self (sz := s.heap.size)
  have hA : ∀ q : Nat, s.heap.size ≤ q → va_A (gW E a σ) s.heap.size q := fun q h => Or.inr h
  have hS : va_S (va_A (gW E a σ) s.heap.size) s.heap s.heap [] := va_S.rf
  obtain ⟨hx, hb, hml, hown, hts⟩ := id S
  have hts0 := hinX0_addExam
  have hl : lv_has ls 4 [(0, .ref (a 0)), (1, .int (nI x)), (2, .int (nI y))] := hl
  refine lv_iload_n hx hb dX0_addExam_0 rfl (lv_at hl 1 rfl) ?_
  refine lv_if_lt (tgt := 15) hx hb dX0_addExam_1 (by decide) (fun q => absurd q ((nI_pos (by omega)))) (fun _ => ?_)
  refine lv_iload_n hx hb dX0_addExam_4 rfl (lv_at hl 2 rfl) ?_
  refine lv_bipush (v := nI 20) hx hb dX0_addExam_5 (by decide) ?_
  refine lv_icmp_gt (tgt := 15) hx hb dX0_addExam_7 (by decide) (fun q => absurd q ((nI_nlt (by omega) (by omega)))) (fun _ => ?_)
  refine lv_iload_n hx hb dX0_addExam_10 rfl (lv_at hl 2 rfl) ?_
  refine lv_iload_n hx hb dX0_addExam_11 rfl (lv_at hl 1 rfl) ?_
  refine lv_icmp_ge (tgt := 25) hx hb dX0_addExam_12 (by decide) (fun _ => ?_) (fun q => absurd ((nI_le (by omega) (by omega))) q)
  refine lv_aload_n hx hb dX0_addExam_25 rfl (lv_at hl 0 rfl) ?_
  refine g0v (As := []) (rest := []) S (c_requireRoom l E a σ (by omega)) (cwV 0 hts gX0_addExam_X0_requireRoom rfl rfl rfl hdX0_requireRoom ⟨Nat.le_of_ble_eq_true rfl, Nat.le_of_ble_eq_true rfl⟩) hK hP rfl hl.1 rfl (Nat.le_of_ble_eq_true rfl) ⟨Nat.zero_le _, Nat.zero_le _⟩ dX0_addExam_26 ?_
  refine lv_aload_n hx hb dX0_addExam_29 rfl (lv_at hl 0 rfl) ?_
  refine g_get (σ := σ) hx hb hts hts0 hown hK hP 0 (by decide) (by decide +kernel) rfl rfl dX0_addExam_30 ?_
  refine lv_istore_n (lv' := [(3, .int (nI (gn σ))), (0, .ref (a 0)), (1, .int (nI x)), (2, .int (nI y))]) hx hb dX0_addExam_33 rfl hl (by decide) rfl (fun ls hl => ?_)
  refine lv_aload_n hx hb dX0_addExam_34 rfl (lv_at hl 1 rfl) ?_
  refine lv_dup hx hb dX0_addExam_35 rfl ?_
  refine g_get (σ := σ) hx hb hts hts0 hown hK hP 4 (by decide) (by decide +kernel) rfl rfl dX0_addExam_36 ?_
  refine lv_iload_n hx hb dX0_addExam_39 rfl (lv_at hl 0 rfl) ?_
  refine g_bitOf S gX0_addExam_X0_bitOf hK (k := gn σ) (by omega) hl.1 (Nat.le_of_ble_eq_true rfl) ⟨Nat.zero_le _, Nat.zero_le _⟩ ⟨Nat.le_of_ble_eq_true rfl, Nat.le_of_ble_eq_true rfl⟩ dX0_addExam_40 ?_
  refine lv_lor hx hb dX0_addExam_43 ?_
  refine va_put (D := E.1) (ci := 0) (v := .long ((ge σ) ||| (gbit (gn σ)))) (ty := .long) (C := RX0) (T := TX0) (N := 18) hx hb hts hts0 tyX0 tyX0_ok nmX0 hown hK hP hD hS 0 rfl rfl 4 (by decide) (hts (.fieldLink RX0 64 "ExamGarden" "examBits" "J") (by decide +kernel)) (fun _ h9 => h9) rfl (by decide +kernel) rfl rfl (Nat.le_of_ble_eq_true rfl) dX0_addExam_44 (fun H locs hP hD hS => ?_)
  have hP : gP E (gW E a (gn σ, gk σ, gc σ, gs σ, (ge σ) ||| (gbit (gn σ)), glf σ, grt σ, gst σ, gpc σ, gpf σ, glo σ, ghi σ, gwt σ, ggr σ, gsu σ, gho σ, ghs σ, grb σ)) H := hP
  have hD : va_D (va_A (gW E a σ) s.heap.size) (gW E a (gn σ, gk σ, gc σ, gs σ, (ge σ) ||| (gbit (gn σ)), glf σ, grt σ, gst σ, gpc σ, gpf σ, glo σ, ghi σ, gwt σ, ggr σ, gsu σ, gho σ, ghs σ, grb σ)) := hD
  refine lv_aload_n hx hb dX0_addExam_47 rfl (lv_at hl 1 rfl) ?_
  refine g_get (σ := (gn σ, gk σ, gc σ, gs σ, (ge σ) ||| (gbit (gn σ)), glf σ, grt σ, gst σ, gpc σ, gpf σ, glo σ, ghi σ, gwt σ, ggr σ, gsu σ, gho σ, ghs σ, grb σ)) hx hb hts hts0 hown hK hP 5 (by decide) (by decide +kernel) rfl rfl dX0_addExam_48 ?_
  refine lv_iload_n hx hb dX0_addExam_51 rfl (lv_at hl 0 rfl) ?_
  refine lv_iload_n hx hb dX0_addExam_52 rfl (lv_at hl 2 rfl) ?_
  refine g_put S gX0_addExam_X0_put hK hP hD hS hA 1 rfl (by decide) (f' := (fun z9 => nI (va_up ((glo σ)) (gn σ) x z9))) (vp_in_nI (by omega) (by decide)) (by rw [nI_clamp (by omega)]; exact n_upd _ _ _) hl.1 (Nat.le_of_ble_eq_true rfl) ⟨Nat.zero_le _, Nat.zero_le _⟩ ⟨Nat.le_of_ble_eq_true rfl, Nat.le_of_ble_eq_true rfl⟩ dX0_addExam_53 (fun H locs hP hD hS => ?_)
  have hP : gP E (gW E a (gn σ, gk σ, gc σ, gs σ, (ge σ) ||| (gbit (gn σ)), glf σ, grt σ, gst σ, gpc σ, gpf σ, va_up ((glo σ)) (gn σ) x, ghi σ, gwt σ, ggr σ, gsu σ, gho σ, ghs σ, grb σ)) H := hP
  have hD : va_D (va_A (gW E a σ) s.heap.size) (gW E a (gn σ, gk σ, gc σ, gs σ, (ge σ) ||| (gbit (gn σ)), glf σ, grt σ, gst σ, gpc σ, gpf σ, va_up ((glo σ)) (gn σ) x, ghi σ, gwt σ, ggr σ, gsu σ, gho σ, ghs σ, grb σ)) := hD
  refine lv_aload_n hx hb dX0_addExam_56 rfl (lv_at hl 1 rfl) ?_
  refine g_get (σ := (gn σ, gk σ, gc σ, gs σ, (ge σ) ||| (gbit (gn σ)), glf σ, grt σ, gst σ, gpc σ, gpf σ, va_up ((glo σ)) (gn σ) x, ghi σ, gwt σ, ggr σ, gsu σ, gho σ, ghs σ, grb σ)) hx hb hts hts0 hown hK hP 6 (by decide) (by decide +kernel) rfl rfl dX0_addExam_57 ?_
  refine lv_iload_n hx hb dX0_addExam_60 rfl (lv_at hl 0 rfl) ?_
  refine lv_iload_n hx hb dX0_addExam_61 rfl (lv_at hl 3 rfl) ?_
  refine g_put S gX0_addExam_X0_put hK hP hD hS hA 2 rfl (by decide) (f' := (fun z9 => nI (va_up ((ghi σ)) (gn σ) y z9))) (vp_in_nI (by omega) (by decide)) (by rw [nI_clamp (by omega)]; exact n_upd _ _ _) hl.1 (Nat.le_of_ble_eq_true rfl) ⟨Nat.zero_le _, Nat.zero_le _⟩ ⟨Nat.le_of_ble_eq_true rfl, Nat.le_of_ble_eq_true rfl⟩ dX0_addExam_62 (fun H locs hP hD hS => ?_)
  have hP : gP E (gW E a (gn σ, gk σ, gc σ, gs σ, (ge σ) ||| (gbit (gn σ)), glf σ, grt σ, gst σ, gpc σ, gpf σ, va_up ((glo σ)) (gn σ) x, va_up ((ghi σ)) (gn σ) y, gwt σ, ggr σ, gsu σ, gho σ, ghs σ, grb σ)) H := hP
  have hD : va_D (va_A (gW E a σ) s.heap.size) (gW E a (gn σ, gk σ, gc σ, gs σ, (ge σ) ||| (gbit (gn σ)), glf σ, grt σ, gst σ, gpc σ, gpf σ, va_up ((glo σ)) (gn σ) x, va_up ((ghi σ)) (gn σ) y, gwt σ, ggr σ, gsu σ, gho σ, ghs σ, grb σ)) := hD
  refine lv_aload_n hx hb dX0_addExam_65 rfl (lv_at hl 1 rfl) ?_
  refine g_get (σ := (gn σ, gk σ, gc σ, gs σ, (ge σ) ||| (gbit (gn σ)), glf σ, grt σ, gst σ, gpc σ, gpf σ, va_up ((glo σ)) (gn σ) x, va_up ((ghi σ)) (gn σ) y, gwt σ, ggr σ, gsu σ, gho σ, ghs σ, grb σ)) hx hb hts hts0 hown hK hP 10 (by decide) (by decide +kernel) rfl rfl dX0_addExam_66 ?_
  refine lv_iload_n hx hb dX0_addExam_69 rfl (lv_at hl 0 rfl) ?_
  refine lv_iconst (v := -1) hx hb dX0_addExam_70 (by decide) ?_
  refine g_put S gX0_addExam_X0_put hK hP hD hS hA 6 rfl (by decide) (f' := (upd ((ggr σ)) (gn σ) ((-1)))) (vp_in_nI (by omega) (by decide)) (by rw [nI_clamp (by omega)]) hl.1 (Nat.le_of_ble_eq_true rfl) ⟨Nat.zero_le _, Nat.zero_le _⟩ ⟨Nat.le_of_ble_eq_true rfl, Nat.le_of_ble_eq_true rfl⟩ dX0_addExam_71 (fun H locs hP hD hS => ?_)
  have hP : gP E (gW E a (gn σ, gk σ, gc σ, gs σ, (ge σ) ||| (gbit (gn σ)), glf σ, grt σ, gst σ, gpc σ, gpf σ, va_up ((glo σ)) (gn σ) x, va_up ((ghi σ)) (gn σ) y, gwt σ, upd ((ggr σ)) (gn σ) ((-1)), gsu σ, gho σ, ghs σ, grb σ)) H := hP
  have hD : va_D (va_A (gW E a σ) s.heap.size) (gW E a (gn σ, gk σ, gc σ, gs σ, (ge σ) ||| (gbit (gn σ)), glf σ, grt σ, gst σ, gpc σ, gpf σ, va_up ((glo σ)) (gn σ) x, va_up ((ghi σ)) (gn σ) y, gwt σ, upd ((ggr σ)) (gn σ) ((-1)), gsu σ, gho σ, ghs σ, grb σ)) := hD
  refine lv_aload_n hx hb dX0_addExam_74 rfl (lv_at hl 1 rfl) ?_
  refine g_get (σ := (gn σ, gk σ, gc σ, gs σ, (ge σ) ||| (gbit (gn σ)), glf σ, grt σ, gst σ, gpc σ, gpf σ, va_up ((glo σ)) (gn σ) x, va_up ((ghi σ)) (gn σ) y, gwt σ, upd ((ggr σ)) (gn σ) ((-1)), gsu σ, gho σ, ghs σ, grb σ)) hx hb hts hts0 hown hK hP 14 (by decide) (by decide +kernel) rfl rfl dX0_addExam_75 ?_
  refine lv_iload_n hx hb dX0_addExam_78 rfl (lv_at hl 0 rfl) ?_
  refine lv_iload_n hx hb dX0_addExam_79 rfl (lv_at hl 0 rfl) ?_
  refine g_bitOf S gX0_addExam_X0_bitOf hK (k := gn σ) (by omega) hl.1 (Nat.le_of_ble_eq_true rfl) ⟨Nat.zero_le _, Nat.zero_le _⟩ ⟨Nat.le_of_ble_eq_true rfl, Nat.le_of_ble_eq_true rfl⟩ dX0_addExam_80 ?_
  refine g_putBits S gX0_addExam_X0_putBits hK hP hD hS hA 10 rfl (by decide) (f' := (vp_updL ((grb σ)) (gn σ) (gbit (gn σ)))) (vp_in_nI (by omega) (by decide)) (by rw [nI_clamp (by omega)]) hl.1 (Nat.le_of_ble_eq_true rfl) ⟨Nat.zero_le _, Nat.zero_le _⟩ ⟨Nat.le_of_ble_eq_true rfl, Nat.le_of_ble_eq_true rfl⟩ dX0_addExam_83 (fun H locs hP hD hS => ?_)
  have hP : gP E (gW E a (gn σ, gk σ, gc σ, gs σ, (ge σ) ||| (gbit (gn σ)), glf σ, grt σ, gst σ, gpc σ, gpf σ, va_up ((glo σ)) (gn σ) x, va_up ((ghi σ)) (gn σ) y, gwt σ, upd ((ggr σ)) (gn σ) ((-1)), gsu σ, gho σ, ghs σ, vp_updL ((grb σ)) (gn σ) (gbit (gn σ)))) H := hP
  have hD : va_D (va_A (gW E a σ) s.heap.size) (gW E a (gn σ, gk σ, gc σ, gs σ, (ge σ) ||| (gbit (gn σ)), glf σ, grt σ, gst σ, gpc σ, gpf σ, va_up ((glo σ)) (gn σ) x, va_up ((ghi σ)) (gn σ) y, gwt σ, upd ((ggr σ)) (gn σ) ((-1)), gsu σ, gho σ, ghs σ, vp_updL ((grb σ)) (gn σ) (gbit (gn σ)))) := hD
  refine lv_aload_n hx hb dX0_addExam_86 rfl (lv_at hl 1 rfl) ?_
  refine lv_iload_n hx hb dX0_addExam_87 rfl (lv_at hl 0 rfl) ?_
  refine g0w (As := [.int (nI (gn σ))]) (rest := []) (σ' := gSeE (gn σ, gk σ, gc σ, gs σ, (ge σ) ||| (gbit (gn σ)), glf σ, grt σ, gst σ, gpc σ, gpf σ, va_up ((glo σ)) (gn σ) x, va_up ((ghi σ)) (gn σ) y, gwt σ, upd ((ggr σ)) (gn σ) ((-1)), gsu σ, gho σ, ghs σ, vp_updL ((grb σ)) (gn σ) (gbit (gn σ))) (gn σ)) S (c_settleExam l E a (gn σ, gk σ, gc σ, gs σ, (ge σ) ||| (gbit (gn σ)), glf σ, grt σ, gst σ, gpc σ, gpf σ, va_up ((glo σ)) (gn σ) x, va_up ((ghi σ)) (gn σ) y, gwt σ, upd ((ggr σ)) (gn σ) ((-1)), gsu σ, gho σ, ghs σ, vp_updL ((grb σ)) (gn σ) (gbit (gn σ))) _ (gn σ) (by omega)) (cwV 1 hts gX0_addExam_X0_settleExam rfl rfl rfl hdX0_settleExam ⟨Nat.le_of_ble_eq_true rfl, Nat.le_of_ble_eq_true rfl⟩) hK hP hD hS hA rfl hl.1 rfl (Nat.le_of_ble_eq_true rfl) ⟨Nat.zero_le _, Nat.zero_le _⟩ dX0_addExam_88 (fun H locs hP hD hS => ?_)
  refine lv_aload_n hx hb dX0_addExam_91 rfl (lv_at hl 1 rfl) ?_
  refine lv_dup hx hb dX0_addExam_92 rfl ?_
  refine g_get (σ := (gSeE (gn σ, gk σ, gc σ, gs σ, (ge σ) ||| (gbit (gn σ)), glf σ, grt σ, gst σ, gpc σ, gpf σ, va_up ((glo σ)) (gn σ) x, va_up ((ghi σ)) (gn σ) y, gwt σ, upd ((ggr σ)) (gn σ) ((-1)), gsu σ, gho σ, ghs σ, vp_updL ((grb σ)) (gn σ) (gbit (gn σ))) (gn σ))) hx hb hts hts0 hown hK hP 0 (by decide) (by decide +kernel) rfl rfl dX0_addExam_93 ?_
  refine lv_iconst (v := 1) hx hb dX0_addExam_96 (by decide) ?_
  refine lv_iadd hx hb dX0_addExam_97 ?_
  rw [nI_1 (gn (gSeE (gn σ, gk σ, gc σ, gs σ, (ge σ) ||| (gbit (gn σ)), glf σ, grt σ, gst σ, gpc σ, gpf σ, va_up ((glo σ)) (gn σ) x, va_up ((ghi σ)) (gn σ) y, gwt σ, upd ((ggr σ)) (gn σ) ((-1)), gsu σ, gho σ, ghs σ, vp_updL ((grb σ)) (gn σ) (gbit (gn σ))) (gn σ)))]
  refine va_put (D := E.1) (ci := 0) (v := .int (nI ((gn (gSeE (gn σ, gk σ, gc σ, gs σ, (ge σ) ||| (gbit (gn σ)), glf σ, grt σ, gst σ, gpc σ, gpf σ, va_up ((glo σ)) (gn σ) x, va_up ((ghi σ)) (gn σ) y, gwt σ, upd ((ggr σ)) (gn σ) ((-1)), gsu σ, gho σ, ghs σ, vp_updL ((grb σ)) (gn σ) (gbit (gn σ))) (gn σ))) + 1))) (ty := .int) (C := RX0) (T := TX0) (N := 18) hx hb hts hts0 tyX0 tyX0_ok nmX0 hown hK hP hD hS 0 rfl rfl 0 (by decide) (hts (.fieldLink RX0 60 "ExamGarden" "placeCount" "I") (by decide +kernel)) (fun _ h9 => h9) rfl (by decide +kernel) rfl rfl (Nat.le_of_ble_eq_true rfl) dX0_addExam_98 (fun H locs hP hD hS => ?_)
  have hP : gP E (gW E a ((gn (gSeE (gn σ, gk σ, gc σ, gs σ, (ge σ) ||| (gbit (gn σ)), glf σ, grt σ, gst σ, gpc σ, gpf σ, va_up ((glo σ)) (gn σ) x, va_up ((ghi σ)) (gn σ) y, gwt σ, upd ((ggr σ)) (gn σ) ((-1)), gsu σ, gho σ, ghs σ, vp_updL ((grb σ)) (gn σ) (gbit (gn σ))) (gn σ))) + 1, gk (gSeE (gn σ, gk σ, gc σ, gs σ, (ge σ) ||| (gbit (gn σ)), glf σ, grt σ, gst σ, gpc σ, gpf σ, va_up ((glo σ)) (gn σ) x, va_up ((ghi σ)) (gn σ) y, gwt σ, upd ((ggr σ)) (gn σ) ((-1)), gsu σ, gho σ, ghs σ, vp_updL ((grb σ)) (gn σ) (gbit (gn σ))) (gn σ)), gc (gSeE (gn σ, gk σ, gc σ, gs σ, (ge σ) ||| (gbit (gn σ)), glf σ, grt σ, gst σ, gpc σ, gpf σ, va_up ((glo σ)) (gn σ) x, va_up ((ghi σ)) (gn σ) y, gwt σ, upd ((ggr σ)) (gn σ) ((-1)), gsu σ, gho σ, ghs σ, vp_updL ((grb σ)) (gn σ) (gbit (gn σ))) (gn σ)), gs (gSeE (gn σ, gk σ, gc σ, gs σ, (ge σ) ||| (gbit (gn σ)), glf σ, grt σ, gst σ, gpc σ, gpf σ, va_up ((glo σ)) (gn σ) x, va_up ((ghi σ)) (gn σ) y, gwt σ, upd ((ggr σ)) (gn σ) ((-1)), gsu σ, gho σ, ghs σ, vp_updL ((grb σ)) (gn σ) (gbit (gn σ))) (gn σ)), ge (gSeE (gn σ, gk σ, gc σ, gs σ, (ge σ) ||| (gbit (gn σ)), glf σ, grt σ, gst σ, gpc σ, gpf σ, va_up ((glo σ)) (gn σ) x, va_up ((ghi σ)) (gn σ) y, gwt σ, upd ((ggr σ)) (gn σ) ((-1)), gsu σ, gho σ, ghs σ, vp_updL ((grb σ)) (gn σ) (gbit (gn σ))) (gn σ)), glf (gSeE (gn σ, gk σ, gc σ, gs σ, (ge σ) ||| (gbit (gn σ)), glf σ, grt σ, gst σ, gpc σ, gpf σ, va_up ((glo σ)) (gn σ) x, va_up ((ghi σ)) (gn σ) y, gwt σ, upd ((ggr σ)) (gn σ) ((-1)), gsu σ, gho σ, ghs σ, vp_updL ((grb σ)) (gn σ) (gbit (gn σ))) (gn σ)), grt (gSeE (gn σ, gk σ, gc σ, gs σ, (ge σ) ||| (gbit (gn σ)), glf σ, grt σ, gst σ, gpc σ, gpf σ, va_up ((glo σ)) (gn σ) x, va_up ((ghi σ)) (gn σ) y, gwt σ, upd ((ggr σ)) (gn σ) ((-1)), gsu σ, gho σ, ghs σ, vp_updL ((grb σ)) (gn σ) (gbit (gn σ))) (gn σ)), gst (gSeE (gn σ, gk σ, gc σ, gs σ, (ge σ) ||| (gbit (gn σ)), glf σ, grt σ, gst σ, gpc σ, gpf σ, va_up ((glo σ)) (gn σ) x, va_up ((ghi σ)) (gn σ) y, gwt σ, upd ((ggr σ)) (gn σ) ((-1)), gsu σ, gho σ, ghs σ, vp_updL ((grb σ)) (gn σ) (gbit (gn σ))) (gn σ)), gpc (gSeE (gn σ, gk σ, gc σ, gs σ, (ge σ) ||| (gbit (gn σ)), glf σ, grt σ, gst σ, gpc σ, gpf σ, va_up ((glo σ)) (gn σ) x, va_up ((ghi σ)) (gn σ) y, gwt σ, upd ((ggr σ)) (gn σ) ((-1)), gsu σ, gho σ, ghs σ, vp_updL ((grb σ)) (gn σ) (gbit (gn σ))) (gn σ)), gpf (gSeE (gn σ, gk σ, gc σ, gs σ, (ge σ) ||| (gbit (gn σ)), glf σ, grt σ, gst σ, gpc σ, gpf σ, va_up ((glo σ)) (gn σ) x, va_up ((ghi σ)) (gn σ) y, gwt σ, upd ((ggr σ)) (gn σ) ((-1)), gsu σ, gho σ, ghs σ, vp_updL ((grb σ)) (gn σ) (gbit (gn σ))) (gn σ)), glo (gSeE (gn σ, gk σ, gc σ, gs σ, (ge σ) ||| (gbit (gn σ)), glf σ, grt σ, gst σ, gpc σ, gpf σ, va_up ((glo σ)) (gn σ) x, va_up ((ghi σ)) (gn σ) y, gwt σ, upd ((ggr σ)) (gn σ) ((-1)), gsu σ, gho σ, ghs σ, vp_updL ((grb σ)) (gn σ) (gbit (gn σ))) (gn σ)), ghi (gSeE (gn σ, gk σ, gc σ, gs σ, (ge σ) ||| (gbit (gn σ)), glf σ, grt σ, gst σ, gpc σ, gpf σ, va_up ((glo σ)) (gn σ) x, va_up ((ghi σ)) (gn σ) y, gwt σ, upd ((ggr σ)) (gn σ) ((-1)), gsu σ, gho σ, ghs σ, vp_updL ((grb σ)) (gn σ) (gbit (gn σ))) (gn σ)), gwt (gSeE (gn σ, gk σ, gc σ, gs σ, (ge σ) ||| (gbit (gn σ)), glf σ, grt σ, gst σ, gpc σ, gpf σ, va_up ((glo σ)) (gn σ) x, va_up ((ghi σ)) (gn σ) y, gwt σ, upd ((ggr σ)) (gn σ) ((-1)), gsu σ, gho σ, ghs σ, vp_updL ((grb σ)) (gn σ) (gbit (gn σ))) (gn σ)), ggr (gSeE (gn σ, gk σ, gc σ, gs σ, (ge σ) ||| (gbit (gn σ)), glf σ, grt σ, gst σ, gpc σ, gpf σ, va_up ((glo σ)) (gn σ) x, va_up ((ghi σ)) (gn σ) y, gwt σ, upd ((ggr σ)) (gn σ) ((-1)), gsu σ, gho σ, ghs σ, vp_updL ((grb σ)) (gn σ) (gbit (gn σ))) (gn σ)), gsu (gSeE (gn σ, gk σ, gc σ, gs σ, (ge σ) ||| (gbit (gn σ)), glf σ, grt σ, gst σ, gpc σ, gpf σ, va_up ((glo σ)) (gn σ) x, va_up ((ghi σ)) (gn σ) y, gwt σ, upd ((ggr σ)) (gn σ) ((-1)), gsu σ, gho σ, ghs σ, vp_updL ((grb σ)) (gn σ) (gbit (gn σ))) (gn σ)), gho (gSeE (gn σ, gk σ, gc σ, gs σ, (ge σ) ||| (gbit (gn σ)), glf σ, grt σ, gst σ, gpc σ, gpf σ, va_up ((glo σ)) (gn σ) x, va_up ((ghi σ)) (gn σ) y, gwt σ, upd ((ggr σ)) (gn σ) ((-1)), gsu σ, gho σ, ghs σ, vp_updL ((grb σ)) (gn σ) (gbit (gn σ))) (gn σ)), ghs (gSeE (gn σ, gk σ, gc σ, gs σ, (ge σ) ||| (gbit (gn σ)), glf σ, grt σ, gst σ, gpc σ, gpf σ, va_up ((glo σ)) (gn σ) x, va_up ((ghi σ)) (gn σ) y, gwt σ, upd ((ggr σ)) (gn σ) ((-1)), gsu σ, gho σ, ghs σ, vp_updL ((grb σ)) (gn σ) (gbit (gn σ))) (gn σ)), grb (gSeE (gn σ, gk σ, gc σ, gs σ, (ge σ) ||| (gbit (gn σ)), glf σ, grt σ, gst σ, gpc σ, gpf σ, va_up ((glo σ)) (gn σ) x, va_up ((ghi σ)) (gn σ) y, gwt σ, upd ((ggr σ)) (gn σ) ((-1)), gsu σ, gho σ, ghs σ, vp_updL ((grb σ)) (gn σ) (gbit (gn σ))) (gn σ)))) H := hP
  have hD : va_D (va_A (gW E a σ) s.heap.size) (gW E a ((gn (gSeE (gn σ, gk σ, gc σ, gs σ, (ge σ) ||| (gbit (gn σ)), glf σ, grt σ, gst σ, gpc σ, gpf σ, va_up ((glo σ)) (gn σ) x, va_up ((ghi σ)) (gn σ) y, gwt σ, upd ((ggr σ)) (gn σ) ((-1)), gsu σ, gho σ, ghs σ, vp_updL ((grb σ)) (gn σ) (gbit (gn σ))) (gn σ))) + 1, gk (gSeE (gn σ, gk σ, gc σ, gs σ, (ge σ) ||| (gbit (gn σ)), glf σ, grt σ, gst σ, gpc σ, gpf σ, va_up ((glo σ)) (gn σ) x, va_up ((ghi σ)) (gn σ) y, gwt σ, upd ((ggr σ)) (gn σ) ((-1)), gsu σ, gho σ, ghs σ, vp_updL ((grb σ)) (gn σ) (gbit (gn σ))) (gn σ)), gc (gSeE (gn σ, gk σ, gc σ, gs σ, (ge σ) ||| (gbit (gn σ)), glf σ, grt σ, gst σ, gpc σ, gpf σ, va_up ((glo σ)) (gn σ) x, va_up ((ghi σ)) (gn σ) y, gwt σ, upd ((ggr σ)) (gn σ) ((-1)), gsu σ, gho σ, ghs σ, vp_updL ((grb σ)) (gn σ) (gbit (gn σ))) (gn σ)), gs (gSeE (gn σ, gk σ, gc σ, gs σ, (ge σ) ||| (gbit (gn σ)), glf σ, grt σ, gst σ, gpc σ, gpf σ, va_up ((glo σ)) (gn σ) x, va_up ((ghi σ)) (gn σ) y, gwt σ, upd ((ggr σ)) (gn σ) ((-1)), gsu σ, gho σ, ghs σ, vp_updL ((grb σ)) (gn σ) (gbit (gn σ))) (gn σ)), ge (gSeE (gn σ, gk σ, gc σ, gs σ, (ge σ) ||| (gbit (gn σ)), glf σ, grt σ, gst σ, gpc σ, gpf σ, va_up ((glo σ)) (gn σ) x, va_up ((ghi σ)) (gn σ) y, gwt σ, upd ((ggr σ)) (gn σ) ((-1)), gsu σ, gho σ, ghs σ, vp_updL ((grb σ)) (gn σ) (gbit (gn σ))) (gn σ)), glf (gSeE (gn σ, gk σ, gc σ, gs σ, (ge σ) ||| (gbit (gn σ)), glf σ, grt σ, gst σ, gpc σ, gpf σ, va_up ((glo σ)) (gn σ) x, va_up ((ghi σ)) (gn σ) y, gwt σ, upd ((ggr σ)) (gn σ) ((-1)), gsu σ, gho σ, ghs σ, vp_updL ((grb σ)) (gn σ) (gbit (gn σ))) (gn σ)), grt (gSeE (gn σ, gk σ, gc σ, gs σ, (ge σ) ||| (gbit (gn σ)), glf σ, grt σ, gst σ, gpc σ, gpf σ, va_up ((glo σ)) (gn σ) x, va_up ((ghi σ)) (gn σ) y, gwt σ, upd ((ggr σ)) (gn σ) ((-1)), gsu σ, gho σ, ghs σ, vp_updL ((grb σ)) (gn σ) (gbit (gn σ))) (gn σ)), gst (gSeE (gn σ, gk σ, gc σ, gs σ, (ge σ) ||| (gbit (gn σ)), glf σ, grt σ, gst σ, gpc σ, gpf σ, va_up ((glo σ)) (gn σ) x, va_up ((ghi σ)) (gn σ) y, gwt σ, upd ((ggr σ)) (gn σ) ((-1)), gsu σ, gho σ, ghs σ, vp_updL ((grb σ)) (gn σ) (gbit (gn σ))) (gn σ)), gpc (gSeE (gn σ, gk σ, gc σ, gs σ, (ge σ) ||| (gbit (gn σ)), glf σ, grt σ, gst σ, gpc σ, gpf σ, va_up ((glo σ)) (gn σ) x, va_up ((ghi σ)) (gn σ) y, gwt σ, upd ((ggr σ)) (gn σ) ((-1)), gsu σ, gho σ, ghs σ, vp_updL ((grb σ)) (gn σ) (gbit (gn σ))) (gn σ)), gpf (gSeE (gn σ, gk σ, gc σ, gs σ, (ge σ) ||| (gbit (gn σ)), glf σ, grt σ, gst σ, gpc σ, gpf σ, va_up ((glo σ)) (gn σ) x, va_up ((ghi σ)) (gn σ) y, gwt σ, upd ((ggr σ)) (gn σ) ((-1)), gsu σ, gho σ, ghs σ, vp_updL ((grb σ)) (gn σ) (gbit (gn σ))) (gn σ)), glo (gSeE (gn σ, gk σ, gc σ, gs σ, (ge σ) ||| (gbit (gn σ)), glf σ, grt σ, gst σ, gpc σ, gpf σ, va_up ((glo σ)) (gn σ) x, va_up ((ghi σ)) (gn σ) y, gwt σ, upd ((ggr σ)) (gn σ) ((-1)), gsu σ, gho σ, ghs σ, vp_updL ((grb σ)) (gn σ) (gbit (gn σ))) (gn σ)), ghi (gSeE (gn σ, gk σ, gc σ, gs σ, (ge σ) ||| (gbit (gn σ)), glf σ, grt σ, gst σ, gpc σ, gpf σ, va_up ((glo σ)) (gn σ) x, va_up ((ghi σ)) (gn σ) y, gwt σ, upd ((ggr σ)) (gn σ) ((-1)), gsu σ, gho σ, ghs σ, vp_updL ((grb σ)) (gn σ) (gbit (gn σ))) (gn σ)), gwt (gSeE (gn σ, gk σ, gc σ, gs σ, (ge σ) ||| (gbit (gn σ)), glf σ, grt σ, gst σ, gpc σ, gpf σ, va_up ((glo σ)) (gn σ) x, va_up ((ghi σ)) (gn σ) y, gwt σ, upd ((ggr σ)) (gn σ) ((-1)), gsu σ, gho σ, ghs σ, vp_updL ((grb σ)) (gn σ) (gbit (gn σ))) (gn σ)), ggr (gSeE (gn σ, gk σ, gc σ, gs σ, (ge σ) ||| (gbit (gn σ)), glf σ, grt σ, gst σ, gpc σ, gpf σ, va_up ((glo σ)) (gn σ) x, va_up ((ghi σ)) (gn σ) y, gwt σ, upd ((ggr σ)) (gn σ) ((-1)), gsu σ, gho σ, ghs σ, vp_updL ((grb σ)) (gn σ) (gbit (gn σ))) (gn σ)), gsu (gSeE (gn σ, gk σ, gc σ, gs σ, (ge σ) ||| (gbit (gn σ)), glf σ, grt σ, gst σ, gpc σ, gpf σ, va_up ((glo σ)) (gn σ) x, va_up ((ghi σ)) (gn σ) y, gwt σ, upd ((ggr σ)) (gn σ) ((-1)), gsu σ, gho σ, ghs σ, vp_updL ((grb σ)) (gn σ) (gbit (gn σ))) (gn σ)), gho (gSeE (gn σ, gk σ, gc σ, gs σ, (ge σ) ||| (gbit (gn σ)), glf σ, grt σ, gst σ, gpc σ, gpf σ, va_up ((glo σ)) (gn σ) x, va_up ((ghi σ)) (gn σ) y, gwt σ, upd ((ggr σ)) (gn σ) ((-1)), gsu σ, gho σ, ghs σ, vp_updL ((grb σ)) (gn σ) (gbit (gn σ))) (gn σ)), ghs (gSeE (gn σ, gk σ, gc σ, gs σ, (ge σ) ||| (gbit (gn σ)), glf σ, grt σ, gst σ, gpc σ, gpf σ, va_up ((glo σ)) (gn σ) x, va_up ((ghi σ)) (gn σ) y, gwt σ, upd ((ggr σ)) (gn σ) ((-1)), gsu σ, gho σ, ghs σ, vp_updL ((grb σ)) (gn σ) (gbit (gn σ))) (gn σ)), grb (gSeE (gn σ, gk σ, gc σ, gs σ, (ge σ) ||| (gbit (gn σ)), glf σ, grt σ, gst σ, gpc σ, gpf σ, va_up ((glo σ)) (gn σ) x, va_up ((ghi σ)) (gn σ) y, gwt σ, upd ((ggr σ)) (gn σ) ((-1)), gsu σ, gho σ, ghs σ, vp_updL ((grb σ)) (gn σ) (gbit (gn σ))) (gn σ)))) := hD
  refine lv_iload_n hx hb dX0_addExam_101 rfl (lv_at hl 0 rfl) ?_
  exact W.iret hx hb hr (fun t ht hW => ⟨⟨_, (), rfl, rfl, by show gP E _ t.heap; rw [ht]; exact hP⟩, hS.F ht⟩) hS.2.2 dX0_addExam_102
theorem hinX0_addFork : ∀ w ∈ wsX00, w ∈ wsX0_addFork := fun w h => List.mem_cons_of_mem _ (List.mem_append_left _ (List.mem_append_left _ (List.mem_append_left _ (List.mem_append_right _ h))))
theorem hdX0_addFork : yX0_addFork.cls = RX0 ∧ yX0_addFork.cls ≠ "java/lang/invoke/MethodHandle" ∧ yX0_addFork.cls ≠ "java/lang/invoke/VarHandle" ∧ (parseMethodDescriptor yX0_addFork.desc).map (fun d => d.parameters.length) = some 3 := by decide +kernel
set_option maxHeartbeats 4000000 in
set_option maxRecDepth 100000 in
theorem c_addFork (l : Launch) (E : GE) (a : Nat → Nat) (σ : GS) (sz : Nat) (hO : GOK σ) (x y : Nat) (hx : x < gn σ) (hy : y < gn σ) (w : Int32) (h1 : ¬ w < 1) (h9 : w ≤ nI 9) (hn : gn σ < 40) : Met l yX0_addFork wsX0_addFork { frames := 3, cells := 0, slots := 0, locals := 65 } (va_Pc [.ref (a 0), .int (nI x), .int (nI y), .int w] (gBw E sz (gW E a σ))) (gQi E (nI (gn σ)) (gW E a σ) (gW E a (gAddF σ x y w)) sz) 0 0 (va_A (gW E a σ) sz) := by
  refine w_met (cc := cX0_addFork) (maxL := 5) (ret := (some .int)) (by decide) rfl (Nat.le_of_ble_eq_true rfl) ?_
  intro p e s m below meth c ls S hr hlocks hname hB hl
  obtain ⟨hsz, hP, hK, hD0⟩ := hB
  subst hsz
  have hD := hD0.self (sz := s.heap.size)
  have hA : ∀ q : Nat, s.heap.size ≤ q → va_A (gW E a σ) s.heap.size q := fun q h => Or.inr h
  have hS : va_S (va_A (gW E a σ) s.heap.size) s.heap s.heap [] := va_S.rf
  obtain ⟨hx, hb, hml, hown, hts⟩ := id S
  have hts0 := hinX0_addFork
  have hl : lv_has ls 5 [(0, .ref (a 0)), (1, .int (nI x)), (2, .int (nI y)), (3, .int w)] := hl
  refine lv_aload_n hx hb dX0_addFork_0 rfl (lv_at hl 0 rfl) ?_
  refine lv_iload_n hx hb dX0_addFork_1 rfl (lv_at hl 1 rfl) ?_
  refine g0v (As := [.int (nI x)]) (rest := []) S (c_requirePlace l E a σ x (by omega) (by omega)) (cwV 1 hts gX0_addFork_X0_requirePlace rfl rfl rfl hdX0_requirePlace ⟨Nat.le_of_ble_eq_true rfl, Nat.le_of_ble_eq_true rfl⟩) hK hP rfl hl.1 rfl (Nat.le_of_ble_eq_true rfl) ⟨Nat.zero_le _, Nat.zero_le _⟩ dX0_addFork_2 ?_
  refine lv_aload_n hx hb dX0_addFork_5 rfl (lv_at hl 0 rfl) ?_
  refine lv_iload_n hx hb dX0_addFork_6 rfl (lv_at hl 2 rfl) ?_
  refine g0v (As := [.int (nI y)]) (rest := []) S (c_requirePlace l E a σ y (by omega) (by omega)) (cwV 1 hts gX0_addFork_X0_requirePlace rfl rfl rfl hdX0_requirePlace ⟨Nat.le_of_ble_eq_true rfl, Nat.le_of_ble_eq_true rfl⟩) hK hP rfl hl.1 rfl (Nat.le_of_ble_eq_true rfl) ⟨Nat.zero_le _, Nat.zero_le _⟩ dX0_addFork_7 ?_
  refine lv_iload_n hx hb dX0_addFork_10 rfl (lv_at hl 3 rfl) ?_
  refine g_sv (As := [.int w]) (rest := []) S (c_requireWeight l E w h1 h9) (va_cwS 1 hts gX0_addFork_X0_requireWeight rfl rfl rfl hdX0_requireWeight.2 ⟨Nat.le_of_ble_eq_true rfl, Nat.le_of_ble_eq_true rfl⟩) hK (fun _ _ h => nomatch h) rfl hl.1 rfl (Nat.le_of_ble_eq_true rfl) ⟨Nat.zero_le _, Nat.zero_le _⟩ dX0_addFork_11 ?_
  refine lv_aload_n hx hb dX0_addFork_14 rfl (lv_at hl 0 rfl) ?_
  refine g0v (As := []) (rest := []) S (c_requireRoom l E a σ (by omega)) (cwV 0 hts gX0_addFork_X0_requireRoom rfl rfl rfl hdX0_requireRoom ⟨Nat.le_of_ble_eq_true rfl, Nat.le_of_ble_eq_true rfl⟩) hK hP rfl hl.1 rfl (Nat.le_of_ble_eq_true rfl) ⟨Nat.zero_le _, Nat.zero_le _⟩ dX0_addFork_15 ?_
  refine lv_aload_n hx hb dX0_addFork_18 rfl (lv_at hl 0 rfl) ?_
  refine g_get (σ := σ) hx hb hts hts0 hown hK hP 0 (by decide) (by decide +kernel) rfl rfl dX0_addFork_19 ?_
  refine lv_istore (lv' := [(4, .int (nI (gn σ))), (0, .ref (a 0)), (1, .int (nI x)), (2, .int (nI y)), (3, .int w)]) hx hb dX0_addFork_22 hl (by decide) rfl (fun ls hl => ?_)
  refine lv_aload_n hx hb dX0_addFork_24 rfl (lv_at hl 1 rfl) ?_
  refine g_get (σ := σ) hx hb hts hts0 hown hK hP 7 (by decide) (by decide +kernel) rfl rfl dX0_addFork_25 ?_
  refine lv_iload hx hb dX0_addFork_28 (lv_at hl 0 rfl) ?_
  refine lv_iload_n hx hb dX0_addFork_30 rfl (lv_at hl 2 rfl) ?_
  refine g_put S gX0_addFork_X0_put hK hP hD hS hA 3 rfl (by decide) (f' := (fun z9 => nI (va_up ((glf σ)) (gn σ) x z9))) (vp_in_nI (by omega) (by decide)) (by rw [nI_clamp (by omega)]; exact n_upd _ _ _) hl.1 (Nat.le_of_ble_eq_true rfl) ⟨Nat.zero_le _, Nat.zero_le _⟩ ⟨Nat.le_of_ble_eq_true rfl, Nat.le_of_ble_eq_true rfl⟩ dX0_addFork_31 (fun H locs hP hD hS => ?_)
  have hP : gP E (gW E a (gn σ, gk σ, gc σ, gs σ, ge σ, va_up ((glf σ)) (gn σ) x, grt σ, gst σ, gpc σ, gpf σ, glo σ, ghi σ, gwt σ, ggr σ, gsu σ, gho σ, ghs σ, grb σ)) H := hP
  have hD : va_D (va_A (gW E a σ) s.heap.size) (gW E a (gn σ, gk σ, gc σ, gs σ, ge σ, va_up ((glf σ)) (gn σ) x, grt σ, gst σ, gpc σ, gpf σ, glo σ, ghi σ, gwt σ, ggr σ, gsu σ, gho σ, ghs σ, grb σ)) := hD
  refine lv_aload_n hx hb dX0_addFork_34 rfl (lv_at hl 1 rfl) ?_
  refine g_get (σ := (gn σ, gk σ, gc σ, gs σ, ge σ, va_up ((glf σ)) (gn σ) x, grt σ, gst σ, gpc σ, gpf σ, glo σ, ghi σ, gwt σ, ggr σ, gsu σ, gho σ, ghs σ, grb σ)) hx hb hts hts0 hown hK hP 8 (by decide) (by decide +kernel) rfl rfl dX0_addFork_35 ?_
  refine lv_iload hx hb dX0_addFork_38 (lv_at hl 0 rfl) ?_
  refine lv_iload_n hx hb dX0_addFork_40 rfl (lv_at hl 3 rfl) ?_
  refine g_put S gX0_addFork_X0_put hK hP hD hS hA 4 rfl (by decide) (f' := (fun z9 => nI (va_up ((grt σ)) (gn σ) y z9))) (vp_in_nI (by omega) (by decide)) (by rw [nI_clamp (by omega)]; exact n_upd _ _ _) hl.1 (Nat.le_of_ble_eq_true rfl) ⟨Nat.zero_le _, Nat.zero_le _⟩ ⟨Nat.le_of_ble_eq_true rfl, Nat.le_of_ble_eq_true rfl⟩ dX0_addFork_41 (fun H locs hP hD hS => ?_)
  have hP : gP E (gW E a (gn σ, gk σ, gc σ, gs σ, ge σ, va_up ((glf σ)) (gn σ) x, va_up ((grt σ)) (gn σ) y, gst σ, gpc σ, gpf σ, glo σ, ghi σ, gwt σ, ggr σ, gsu σ, gho σ, ghs σ, grb σ)) H := hP
  have hD : va_D (va_A (gW E a σ) s.heap.size) (gW E a (gn σ, gk σ, gc σ, gs σ, ge σ, va_up ((glf σ)) (gn σ) x, va_up ((grt σ)) (gn σ) y, gst σ, gpc σ, gpf σ, glo σ, ghi σ, gwt σ, ggr σ, gsu σ, gho σ, ghs σ, grb σ)) := hD
  refine lv_aload_n hx hb dX0_addFork_44 rfl (lv_at hl 1 rfl) ?_
  refine g_get (σ := (gn σ, gk σ, gc σ, gs σ, ge σ, va_up ((glf σ)) (gn σ) x, va_up ((grt σ)) (gn σ) y, gst σ, gpc σ, gpf σ, glo σ, ghi σ, gwt σ, ggr σ, gsu σ, gho σ, ghs σ, grb σ)) hx hb hts hts0 hown hK hP 9 (by decide) (by decide +kernel) rfl rfl dX0_addFork_45 ?_
  refine lv_iload hx hb dX0_addFork_48 (lv_at hl 0 rfl) ?_
  refine lv_iload_n hx hb dX0_addFork_50 rfl (lv_at hl 4 rfl) ?_
  refine g_put S gX0_addFork_X0_put hK hP hD hS hA 5 rfl (by decide) (f' := (upd ((gwt σ)) (gn σ) w)) (vp_in_nI (by omega) (by decide)) (by rw [nI_clamp (by omega)]) hl.1 (Nat.le_of_ble_eq_true rfl) ⟨Nat.zero_le _, Nat.zero_le _⟩ ⟨Nat.le_of_ble_eq_true rfl, Nat.le_of_ble_eq_true rfl⟩ dX0_addFork_51 (fun H locs hP hD hS => ?_)
  have hP : gP E (gW E a (gn σ, gk σ, gc σ, gs σ, ge σ, va_up ((glf σ)) (gn σ) x, va_up ((grt σ)) (gn σ) y, gst σ, gpc σ, gpf σ, glo σ, ghi σ, upd ((gwt σ)) (gn σ) w, ggr σ, gsu σ, gho σ, ghs σ, grb σ)) H := hP
  have hD : va_D (va_A (gW E a σ) s.heap.size) (gW E a (gn σ, gk σ, gc σ, gs σ, ge σ, va_up ((glf σ)) (gn σ) x, va_up ((grt σ)) (gn σ) y, gst σ, gpc σ, gpf σ, glo σ, ghi σ, upd ((gwt σ)) (gn σ) w, ggr σ, gsu σ, gho σ, ghs σ, grb σ)) := hD
  refine lv_aload_n hx hb dX0_addFork_54 rfl (lv_at hl 1 rfl) ?_
  refine g_get (σ := (gn σ, gk σ, gc σ, gs σ, ge σ, va_up ((glf σ)) (gn σ) x, va_up ((grt σ)) (gn σ) y, gst σ, gpc σ, gpf σ, glo σ, ghi σ, upd ((gwt σ)) (gn σ) w, ggr σ, gsu σ, gho σ, ghs σ, grb σ)) hx hb hts hts0 hown hK hP 10 (by decide) (by decide +kernel) rfl rfl dX0_addFork_55 ?_
  refine lv_iload hx hb dX0_addFork_58 (lv_at hl 0 rfl) ?_
  refine lv_iconst (v := -1) hx hb dX0_addFork_60 (by decide) ?_
  refine g_put S gX0_addFork_X0_put hK hP hD hS hA 6 rfl (by decide) (f' := (upd ((ggr σ)) (gn σ) ((-1)))) (vp_in_nI (by omega) (by decide)) (by rw [nI_clamp (by omega)]) hl.1 (Nat.le_of_ble_eq_true rfl) ⟨Nat.zero_le _, Nat.zero_le _⟩ ⟨Nat.le_of_ble_eq_true rfl, Nat.le_of_ble_eq_true rfl⟩ dX0_addFork_61 (fun H locs hP hD hS => ?_)
  have hP : gP E (gW E a (gn σ, gk σ, gc σ, gs σ, ge σ, va_up ((glf σ)) (gn σ) x, va_up ((grt σ)) (gn σ) y, gst σ, gpc σ, gpf σ, glo σ, ghi σ, upd ((gwt σ)) (gn σ) w, upd ((ggr σ)) (gn σ) ((-1)), gsu σ, gho σ, ghs σ, grb σ)) H := hP
  have hD : va_D (va_A (gW E a σ) s.heap.size) (gW E a (gn σ, gk σ, gc σ, gs σ, ge σ, va_up ((glf σ)) (gn σ) x, va_up ((grt σ)) (gn σ) y, gst σ, gpc σ, gpf σ, glo σ, ghi σ, upd ((gwt σ)) (gn σ) w, upd ((ggr σ)) (gn σ) ((-1)), gsu σ, gho σ, ghs σ, grb σ)) := hD
  refine lv_aload_n hx hb dX0_addFork_64 rfl (lv_at hl 1 rfl) ?_
  refine g_get (σ := (gn σ, gk σ, gc σ, gs σ, ge σ, va_up ((glf σ)) (gn σ) x, va_up ((grt σ)) (gn σ) y, gst σ, gpc σ, gpf σ, glo σ, ghi σ, upd ((gwt σ)) (gn σ) w, upd ((ggr σ)) (gn σ) ((-1)), gsu σ, gho σ, ghs σ, grb σ)) hx hb hts hts0 hown hK hP 14 (by decide) (by decide +kernel) rfl rfl dX0_addFork_65 ?_
  refine lv_iload hx hb dX0_addFork_68 (lv_at hl 0 rfl) ?_
  refine lv_iload hx hb dX0_addFork_70 (lv_at hl 0 rfl) ?_
  refine g_bitOf S gX0_addFork_X0_bitOf hK (k := gn σ) (by omega) hl.1 (Nat.le_of_ble_eq_true rfl) ⟨Nat.zero_le _, Nat.zero_le _⟩ ⟨Nat.le_of_ble_eq_true rfl, Nat.le_of_ble_eq_true rfl⟩ dX0_addFork_72 ?_
  refine lv_aload_n hx hb dX0_addFork_75 rfl (lv_at hl 1 rfl) ?_
  refine g_get (σ := (gn σ, gk σ, gc σ, gs σ, ge σ, va_up ((glf σ)) (gn σ) x, va_up ((grt σ)) (gn σ) y, gst σ, gpc σ, gpf σ, glo σ, ghi σ, upd ((gwt σ)) (gn σ) w, upd ((ggr σ)) (gn σ) ((-1)), gsu σ, gho σ, ghs σ, grb σ)) hx hb hts hts0 hown hK hP 14 (by decide) (by decide +kernel) rfl rfl dX0_addFork_76 ?_
  refine lv_iload_n hx hb dX0_addFork_79 rfl (lv_at hl 2 rfl) ?_
  refine g_bitsAt S gX0_addFork_X0_bitsAt hK hP 10 rfl (by decide) (v := (grb σ) x) (vp_in_nI (by omega) (by decide)) (by rw [nI_clamp (by omega)]) hl.1 (Nat.le_of_ble_eq_true rfl) ⟨Nat.zero_le _, Nat.zero_le _⟩ ⟨Nat.le_of_ble_eq_true rfl, Nat.le_of_ble_eq_true rfl⟩ dX0_addFork_80 ?_
  refine lv_lor hx hb dX0_addFork_83 ?_
  refine lv_aload_n hx hb dX0_addFork_84 rfl (lv_at hl 1 rfl) ?_
  refine g_get (σ := (gn σ, gk σ, gc σ, gs σ, ge σ, va_up ((glf σ)) (gn σ) x, va_up ((grt σ)) (gn σ) y, gst σ, gpc σ, gpf σ, glo σ, ghi σ, upd ((gwt σ)) (gn σ) w, upd ((ggr σ)) (gn σ) ((-1)), gsu σ, gho σ, ghs σ, grb σ)) hx hb hts hts0 hown hK hP 14 (by decide) (by decide +kernel) rfl rfl dX0_addFork_85 ?_
  refine lv_iload_n hx hb dX0_addFork_88 rfl (lv_at hl 3 rfl) ?_
  refine g_bitsAt S gX0_addFork_X0_bitsAt hK hP 10 rfl (by decide) (v := (grb σ) y) (vp_in_nI (by omega) (by decide)) (by rw [nI_clamp (by omega)]) hl.1 (Nat.le_of_ble_eq_true rfl) ⟨Nat.zero_le _, Nat.zero_le _⟩ ⟨Nat.le_of_ble_eq_true rfl, Nat.le_of_ble_eq_true rfl⟩ dX0_addFork_89 ?_
  refine lv_lor hx hb dX0_addFork_92 ?_
  refine g_putBits S gX0_addFork_X0_putBits hK hP hD hS hA 10 rfl (by decide) (f' := (vp_updL ((grb σ)) (gn σ) (((gbit (gn σ)) ||| ((grb σ) x)) ||| ((grb σ) y)))) (vp_in_nI (by omega) (by decide)) (by rw [nI_clamp (by omega)]) hl.1 (Nat.le_of_ble_eq_true rfl) ⟨Nat.zero_le _, Nat.zero_le _⟩ ⟨Nat.le_of_ble_eq_true rfl, Nat.le_of_ble_eq_true rfl⟩ dX0_addFork_93 (fun H locs hP hD hS => ?_)
  have hP : gP E (gW E a (gn σ, gk σ, gc σ, gs σ, ge σ, va_up ((glf σ)) (gn σ) x, va_up ((grt σ)) (gn σ) y, gst σ, gpc σ, gpf σ, glo σ, ghi σ, upd ((gwt σ)) (gn σ) w, upd ((ggr σ)) (gn σ) ((-1)), gsu σ, gho σ, ghs σ, vp_updL ((grb σ)) (gn σ) (((gbit (gn σ)) ||| ((grb σ) x)) ||| ((grb σ) y)))) H := hP
  have hD : va_D (va_A (gW E a σ) s.heap.size) (gW E a (gn σ, gk σ, gc σ, gs σ, ge σ, va_up ((glf σ)) (gn σ) x, va_up ((grt σ)) (gn σ) y, gst σ, gpc σ, gpf σ, glo σ, ghi σ, upd ((gwt σ)) (gn σ) w, upd ((ggr σ)) (gn σ) ((-1)), gsu σ, gho σ, ghs σ, vp_updL ((grb σ)) (gn σ) (((gbit (gn σ)) ||| ((grb σ) x)) ||| ((grb σ) y)))) := hD
  refine lv_aload_n hx hb dX0_addFork_96 rfl (lv_at hl 1 rfl) ?_
  refine lv_iload hx hb dX0_addFork_97 (lv_at hl 0 rfl) ?_
  refine g0w (As := [.int (nI (gn σ))]) (rest := []) (σ' := gSeF (gn σ, gk σ, gc σ, gs σ, ge σ, va_up ((glf σ)) (gn σ) x, va_up ((grt σ)) (gn σ) y, gst σ, gpc σ, gpf σ, glo σ, ghi σ, upd ((gwt σ)) (gn σ) w, upd ((ggr σ)) (gn σ) ((-1)), gsu σ, gho σ, ghs σ, vp_updL ((grb σ)) (gn σ) (((gbit (gn σ)) ||| ((grb σ) x)) ||| ((grb σ) y))) (gn σ)) S (c_settleFork l E a (gn σ, gk σ, gc σ, gs σ, ge σ, va_up ((glf σ)) (gn σ) x, va_up ((grt σ)) (gn σ) y, gst σ, gpc σ, gpf σ, glo σ, ghi σ, upd ((gwt σ)) (gn σ) w, upd ((ggr σ)) (gn σ) ((-1)), gsu σ, gho σ, ghs σ, vp_updL ((grb σ)) (gn σ) (((gbit (gn σ)) ||| ((grb σ) x)) ||| ((grb σ) y))) _ (gn σ) (by omega) (by show va_up (glf σ) (gn σ) x (gn σ) < 40; rw [va_up_self]; omega) (by show va_up (grt σ) (gn σ) y (gn σ) < 40; rw [va_up_self]; omega)) (cwV 1 hts gX0_addFork_X0_settleFork rfl rfl rfl hdX0_settleFork ⟨Nat.le_of_ble_eq_true rfl, Nat.le_of_ble_eq_true rfl⟩) hK hP hD hS hA rfl hl.1 rfl (Nat.le_of_ble_eq_true rfl) ⟨Nat.zero_le _, Nat.zero_le _⟩ dX0_addFork_99 (fun H locs hP hD hS => ?_)
  refine lv_aload_n hx hb dX0_addFork_102 rfl (lv_at hl 1 rfl) ?_
  refine lv_dup hx hb dX0_addFork_103 rfl ?_
  refine g_get (σ := (gSeF (gn σ, gk σ, gc σ, gs σ, ge σ, va_up ((glf σ)) (gn σ) x, va_up ((grt σ)) (gn σ) y, gst σ, gpc σ, gpf σ, glo σ, ghi σ, upd ((gwt σ)) (gn σ) w, upd ((ggr σ)) (gn σ) ((-1)), gsu σ, gho σ, ghs σ, vp_updL ((grb σ)) (gn σ) (((gbit (gn σ)) ||| ((grb σ) x)) ||| ((grb σ) y))) (gn σ))) hx hb hts hts0 hown hK hP 0 (by decide) (by decide +kernel) rfl rfl dX0_addFork_104 ?_
  refine lv_iconst (v := 1) hx hb dX0_addFork_107 (by decide) ?_
  refine lv_iadd hx hb dX0_addFork_108 ?_
  rw [nI_1 (gn (gSeF (gn σ, gk σ, gc σ, gs σ, ge σ, va_up ((glf σ)) (gn σ) x, va_up ((grt σ)) (gn σ) y, gst σ, gpc σ, gpf σ, glo σ, ghi σ, upd ((gwt σ)) (gn σ) w, upd ((ggr σ)) (gn σ) ((-1)), gsu σ, gho σ, ghs σ, vp_updL ((grb σ)) (gn σ) (((gbit (gn σ)) ||| ((grb σ) x)) ||| ((grb σ) y))) (gn σ)))]
  refine va_put (D := E.1) (ci := 0) (v := .int (nI ((gn (gSeF (gn σ, gk σ, gc σ, gs σ, ge σ, va_up ((glf σ)) (gn σ) x, va_up ((grt σ)) (gn σ) y, gst σ, gpc σ, gpf σ, glo σ, ghi σ, upd ((gwt σ)) (gn σ) w, upd ((ggr σ)) (gn σ) ((-1)), gsu σ, gho σ, ghs σ, vp_updL ((grb σ)) (gn σ) (((gbit (gn σ)) ||| ((grb σ) x)) ||| ((grb σ) y))) (gn σ))) + 1))) (ty := .int) (C := RX0) (T := TX0) (N := 18) hx hb hts hts0 tyX0 tyX0_ok nmX0 hown hK hP hD hS 0 rfl rfl 0 (by decide) (hts (.fieldLink RX0 60 "ExamGarden" "placeCount" "I") (by decide +kernel)) (fun _ h9 => h9) rfl (by decide +kernel) rfl rfl (Nat.le_of_ble_eq_true rfl) dX0_addFork_109 (fun H locs hP hD hS => ?_)
  have hP : gP E (gW E a ((gn (gSeF (gn σ, gk σ, gc σ, gs σ, ge σ, va_up ((glf σ)) (gn σ) x, va_up ((grt σ)) (gn σ) y, gst σ, gpc σ, gpf σ, glo σ, ghi σ, upd ((gwt σ)) (gn σ) w, upd ((ggr σ)) (gn σ) ((-1)), gsu σ, gho σ, ghs σ, vp_updL ((grb σ)) (gn σ) (((gbit (gn σ)) ||| ((grb σ) x)) ||| ((grb σ) y))) (gn σ))) + 1, gk (gSeF (gn σ, gk σ, gc σ, gs σ, ge σ, va_up ((glf σ)) (gn σ) x, va_up ((grt σ)) (gn σ) y, gst σ, gpc σ, gpf σ, glo σ, ghi σ, upd ((gwt σ)) (gn σ) w, upd ((ggr σ)) (gn σ) ((-1)), gsu σ, gho σ, ghs σ, vp_updL ((grb σ)) (gn σ) (((gbit (gn σ)) ||| ((grb σ) x)) ||| ((grb σ) y))) (gn σ)), gc (gSeF (gn σ, gk σ, gc σ, gs σ, ge σ, va_up ((glf σ)) (gn σ) x, va_up ((grt σ)) (gn σ) y, gst σ, gpc σ, gpf σ, glo σ, ghi σ, upd ((gwt σ)) (gn σ) w, upd ((ggr σ)) (gn σ) ((-1)), gsu σ, gho σ, ghs σ, vp_updL ((grb σ)) (gn σ) (((gbit (gn σ)) ||| ((grb σ) x)) ||| ((grb σ) y))) (gn σ)), gs (gSeF (gn σ, gk σ, gc σ, gs σ, ge σ, va_up ((glf σ)) (gn σ) x, va_up ((grt σ)) (gn σ) y, gst σ, gpc σ, gpf σ, glo σ, ghi σ, upd ((gwt σ)) (gn σ) w, upd ((ggr σ)) (gn σ) ((-1)), gsu σ, gho σ, ghs σ, vp_updL ((grb σ)) (gn σ) (((gbit (gn σ)) ||| ((grb σ) x)) ||| ((grb σ) y))) (gn σ)), ge (gSeF (gn σ, gk σ, gc σ, gs σ, ge σ, va_up ((glf σ)) (gn σ) x, va_up ((grt σ)) (gn σ) y, gst σ, gpc σ, gpf σ, glo σ, ghi σ, upd ((gwt σ)) (gn σ) w, upd ((ggr σ)) (gn σ) ((-1)), gsu σ, gho σ, ghs σ, vp_updL ((grb σ)) (gn σ) (((gbit (gn σ)) ||| ((grb σ) x)) ||| ((grb σ) y))) (gn σ)), glf (gSeF (gn σ, gk σ, gc σ, gs σ, ge σ, va_up ((glf σ)) (gn σ) x, va_up ((grt σ)) (gn σ) y, gst σ, gpc σ, gpf σ, glo σ, ghi σ, upd ((gwt σ)) (gn σ) w, upd ((ggr σ)) (gn σ) ((-1)), gsu σ, gho σ, ghs σ, vp_updL ((grb σ)) (gn σ) (((gbit (gn σ)) ||| ((grb σ) x)) ||| ((grb σ) y))) (gn σ)), grt (gSeF (gn σ, gk σ, gc σ, gs σ, ge σ, va_up ((glf σ)) (gn σ) x, va_up ((grt σ)) (gn σ) y, gst σ, gpc σ, gpf σ, glo σ, ghi σ, upd ((gwt σ)) (gn σ) w, upd ((ggr σ)) (gn σ) ((-1)), gsu σ, gho σ, ghs σ, vp_updL ((grb σ)) (gn σ) (((gbit (gn σ)) ||| ((grb σ) x)) ||| ((grb σ) y))) (gn σ)), gst (gSeF (gn σ, gk σ, gc σ, gs σ, ge σ, va_up ((glf σ)) (gn σ) x, va_up ((grt σ)) (gn σ) y, gst σ, gpc σ, gpf σ, glo σ, ghi σ, upd ((gwt σ)) (gn σ) w, upd ((ggr σ)) (gn σ) ((-1)), gsu σ, gho σ, ghs σ, vp_updL ((grb σ)) (gn σ) (((gbit (gn σ)) ||| ((grb σ) x)) ||| ((grb σ) y))) (gn σ)), gpc (gSeF (gn σ, gk σ, gc σ, gs σ, ge σ, va_up ((glf σ)) (gn σ) x, va_up ((grt σ)) (gn σ) y, gst σ, gpc σ, gpf σ, glo σ, ghi σ, upd ((gwt σ)) (gn σ) w, upd ((ggr σ)) (gn σ) ((-1)), gsu σ, gho σ, ghs σ, vp_updL ((grb σ)) (gn σ) (((gbit (gn σ)) ||| ((grb σ) x)) ||| ((grb σ) y))) (gn σ)), gpf (gSeF (gn σ, gk σ, gc σ, gs σ, ge σ, va_up ((glf σ)) (gn σ) x, va_up ((grt σ)) (gn σ) y, gst σ, gpc σ, gpf σ, glo σ, ghi σ, upd ((gwt σ)) (gn σ) w, upd ((ggr σ)) (gn σ) ((-1)), gsu σ, gho σ, ghs σ, vp_updL ((grb σ)) (gn σ) (((gbit (gn σ)) ||| ((grb σ) x)) ||| ((grb σ) y))) (gn σ)), glo (gSeF (gn σ, gk σ, gc σ, gs σ, ge σ, va_up ((glf σ)) (gn σ) x, va_up ((grt σ)) (gn σ) y, gst σ, gpc σ, gpf σ, glo σ, ghi σ, upd ((gwt σ)) (gn σ) w, upd ((ggr σ)) (gn σ) ((-1)), gsu σ, gho σ, ghs σ, vp_updL ((grb σ)) (gn σ) (((gbit (gn σ)) ||| ((grb σ) x)) ||| ((grb σ) y))) (gn σ)), ghi (gSeF (gn σ, gk σ, gc σ, gs σ, ge σ, va_up ((glf σ)) (gn σ) x, va_up ((grt σ)) (gn σ) y, gst σ, gpc σ, gpf σ, glo σ, ghi σ, upd ((gwt σ)) (gn σ) w, upd ((ggr σ)) (gn σ) ((-1)), gsu σ, gho σ, ghs σ, vp_updL ((grb σ)) (gn σ) (((gbit (gn σ)) ||| ((grb σ) x)) ||| ((grb σ) y))) (gn σ)), gwt (gSeF (gn σ, gk σ, gc σ, gs σ, ge σ, va_up ((glf σ)) (gn σ) x, va_up ((grt σ)) (gn σ) y, gst σ, gpc σ, gpf σ, glo σ, ghi σ, upd ((gwt σ)) (gn σ) w, upd ((ggr σ)) (gn σ) ((-1)), gsu σ, gho σ, ghs σ, vp_updL ((grb σ)) (gn σ) (((gbit (gn σ)) ||| ((grb σ) x)) ||| ((grb σ) y))) (gn σ)), ggr (gSeF (gn σ, gk σ, gc σ, gs σ, ge σ, va_up ((glf σ)) (gn σ) x, va_up ((grt σ)) (gn σ) y, gst σ, gpc σ, gpf σ, glo σ, ghi σ, upd ((gwt σ)) (gn σ) w, upd ((ggr σ)) (gn σ) ((-1)), gsu σ, gho σ, ghs σ, vp_updL ((grb σ)) (gn σ) (((gbit (gn σ)) ||| ((grb σ) x)) ||| ((grb σ) y))) (gn σ)), gsu (gSeF (gn σ, gk σ, gc σ, gs σ, ge σ, va_up ((glf σ)) (gn σ) x, va_up ((grt σ)) (gn σ) y, gst σ, gpc σ, gpf σ, glo σ, ghi σ, upd ((gwt σ)) (gn σ) w, upd ((ggr σ)) (gn σ) ((-1)), gsu σ, gho σ, ghs σ, vp_updL ((grb σ)) (gn σ) (((gbit (gn σ)) ||| ((grb σ) x)) ||| ((grb σ) y))) (gn σ)), gho (gSeF (gn σ, gk σ, gc σ, gs σ, ge σ, va_up ((glf σ)) (gn σ) x, va_up ((grt σ)) (gn σ) y, gst σ, gpc σ, gpf σ, glo σ, ghi σ, upd ((gwt σ)) (gn σ) w, upd ((ggr σ)) (gn σ) ((-1)), gsu σ, gho σ, ghs σ, vp_updL ((grb σ)) (gn σ) (((gbit (gn σ)) ||| ((grb σ) x)) ||| ((grb σ) y))) (gn σ)), ghs (gSeF (gn σ, gk σ, gc σ, gs σ, ge σ, va_up ((glf σ)) (gn σ) x, va_up ((grt σ)) (gn σ) y, gst σ, gpc σ, gpf σ, glo σ, ghi σ, upd ((gwt σ)) (gn σ) w, upd ((ggr σ)) (gn σ) ((-1)), gsu σ, gho σ, ghs σ, vp_updL ((grb σ)) (gn σ) (((gbit (gn σ)) ||| ((grb σ) x)) ||| ((grb σ) y))) (gn σ)), grb (gSeF (gn σ, gk σ, gc σ, gs σ, ge σ, va_up ((glf σ)) (gn σ) x, va_up ((grt σ)) (gn σ) y, gst σ, gpc σ, gpf σ, glo σ, ghi σ, upd ((gwt σ)) (gn σ) w, upd ((ggr σ)) (gn σ) ((-1)), gsu σ, gho σ, ghs σ, vp_updL ((grb σ)) (gn σ) (((gbit (gn σ)) ||| ((grb σ) x)) ||| ((grb σ) y))) (gn σ)))) H := hP
  have hD : va_D (va_A (gW E a σ) s.heap.size) (gW E a ((gn (gSeF (gn σ, gk σ, gc σ, gs σ, ge σ, va_up ((glf σ)) (gn σ) x, va_up ((grt σ)) (gn σ) y, gst σ, gpc σ, gpf σ, glo σ, ghi σ, upd ((gwt σ)) (gn σ) w, upd ((ggr σ)) (gn σ) ((-1)), gsu σ, gho σ, ghs σ, vp_updL ((grb σ)) (gn σ) (((gbit (gn σ)) ||| ((grb σ) x)) ||| ((grb σ) y))) (gn σ))) + 1, gk (gSeF (gn σ, gk σ, gc σ, gs σ, ge σ, va_up ((glf σ)) (gn σ) x, va_up ((grt σ)) (gn σ) y, gst σ, gpc σ, gpf σ, glo σ, ghi σ, upd ((gwt σ)) (gn σ) w, upd ((ggr σ)) (gn σ) ((-1)), gsu σ, gho σ, ghs σ, vp_updL ((grb σ)) (gn σ) (((gbit (gn σ)) ||| ((grb σ) x)) ||| ((grb σ) y))) (gn σ)), gc (gSeF (gn σ, gk σ, gc σ, gs σ, ge σ, va_up ((glf σ)) (gn σ) x, va_up ((grt σ)) (gn σ) y, gst σ, gpc σ, gpf σ, glo σ, ghi σ, upd ((gwt σ)) (gn σ) w, upd ((ggr σ)) (gn σ) ((-1)), gsu σ, gho σ, ghs σ, vp_updL ((grb σ)) (gn σ) (((gbit (gn σ)) ||| ((grb σ) x)) ||| ((grb σ) y))) (gn σ)), gs (gSeF (gn σ, gk σ, gc σ, gs σ, ge σ, va_up ((glf σ)) (gn σ) x, va_up ((grt σ)) (gn σ) y, gst σ, gpc σ, gpf σ, glo σ, ghi σ, upd ((gwt σ)) (gn σ) w, upd ((ggr σ)) (gn σ) ((-1)), gsu σ, gho σ, ghs σ, vp_updL ((grb σ)) (gn σ) (((gbit (gn σ)) ||| ((grb σ) x)) ||| ((grb σ) y))) (gn σ)), ge (gSeF (gn σ, gk σ, gc σ, gs σ, ge σ, va_up ((glf σ)) (gn σ) x, va_up ((grt σ)) (gn σ) y, gst σ, gpc σ, gpf σ, glo σ, ghi σ, upd ((gwt σ)) (gn σ) w, upd ((ggr σ)) (gn σ) ((-1)), gsu σ, gho σ, ghs σ, vp_updL ((grb σ)) (gn σ) (((gbit (gn σ)) ||| ((grb σ) x)) ||| ((grb σ) y))) (gn σ)), glf (gSeF (gn σ, gk σ, gc σ, gs σ, ge σ, va_up ((glf σ)) (gn σ) x, va_up ((grt σ)) (gn σ) y, gst σ, gpc σ, gpf σ, glo σ, ghi σ, upd ((gwt σ)) (gn σ) w, upd ((ggr σ)) (gn σ) ((-1)), gsu σ, gho σ, ghs σ, vp_updL ((grb σ)) (gn σ) (((gbit (gn σ)) ||| ((grb σ) x)) ||| ((grb σ) y))) (gn σ)), grt (gSeF (gn σ, gk σ, gc σ, gs σ, ge σ, va_up ((glf σ)) (gn σ) x, va_up ((grt σ)) (gn σ) y, gst σ, gpc σ, gpf σ, glo σ, ghi σ, upd ((gwt σ)) (gn σ) w, upd ((ggr σ)) (gn σ) ((-1)), gsu σ, gho σ, ghs σ, vp_updL ((grb σ)) (gn σ) (((gbit (gn σ)) ||| ((grb σ) x)) ||| ((grb σ) y))) (gn σ)), gst (gSeF (gn σ, gk σ, gc σ, gs σ, ge σ, va_up ((glf σ)) (gn σ) x, va_up ((grt σ)) (gn σ) y, gst σ, gpc σ, gpf σ, glo σ, ghi σ, upd ((gwt σ)) (gn σ) w, upd ((ggr σ)) (gn σ) ((-1)), gsu σ, gho σ, ghs σ, vp_updL ((grb σ)) (gn σ) (((gbit (gn σ)) ||| ((grb σ) x)) ||| ((grb σ) y))) (gn σ)), gpc (gSeF (gn σ, gk σ, gc σ, gs σ, ge σ, va_up ((glf σ)) (gn σ) x, va_up ((grt σ)) (gn σ) y, gst σ, gpc σ, gpf σ, glo σ, ghi σ, upd ((gwt σ)) (gn σ) w, upd ((ggr σ)) (gn σ) ((-1)), gsu σ, gho σ, ghs σ, vp_updL ((grb σ)) (gn σ) (((gbit (gn σ)) ||| ((grb σ) x)) ||| ((grb σ) y))) (gn σ)), gpf (gSeF (gn σ, gk σ, gc σ, gs σ, ge σ, va_up ((glf σ)) (gn σ) x, va_up ((grt σ)) (gn σ) y, gst σ, gpc σ, gpf σ, glo σ, ghi σ, upd ((gwt σ)) (gn σ) w, upd ((ggr σ)) (gn σ) ((-1)), gsu σ, gho σ, ghs σ, vp_updL ((grb σ)) (gn σ) (((gbit (gn σ)) ||| ((grb σ) x)) ||| ((grb σ) y))) (gn σ)), glo (gSeF (gn σ, gk σ, gc σ, gs σ, ge σ, va_up ((glf σ)) (gn σ) x, va_up ((grt σ)) (gn σ) y, gst σ, gpc σ, gpf σ, glo σ, ghi σ, upd ((gwt σ)) (gn σ) w, upd ((ggr σ)) (gn σ) ((-1)), gsu σ, gho σ, ghs σ, vp_updL ((grb σ)) (gn σ) (((gbit (gn σ)) ||| ((grb σ) x)) ||| ((grb σ) y))) (gn σ)), ghi (gSeF (gn σ, gk σ, gc σ, gs σ, ge σ, va_up ((glf σ)) (gn σ) x, va_up ((grt σ)) (gn σ) y, gst σ, gpc σ, gpf σ, glo σ, ghi σ, upd ((gwt σ)) (gn σ) w, upd ((ggr σ)) (gn σ) ((-1)), gsu σ, gho σ, ghs σ, vp_updL ((grb σ)) (gn σ) (((gbit (gn σ)) ||| ((grb σ) x)) ||| ((grb σ) y))) (gn σ)), gwt (gSeF (gn σ, gk σ, gc σ, gs σ, ge σ, va_up ((glf σ)) (gn σ) x, va_up ((grt σ)) (gn σ) y, gst σ, gpc σ, gpf σ, glo σ, ghi σ, upd ((gwt σ)) (gn σ) w, upd ((ggr σ)) (gn σ) ((-1)), gsu σ, gho σ, ghs σ, vp_updL ((grb σ)) (gn σ) (((gbit (gn σ)) ||| ((grb σ) x)) ||| ((grb σ) y))) (gn σ)), ggr (gSeF (gn σ, gk σ, gc σ, gs σ, ge σ, va_up ((glf σ)) (gn σ) x, va_up ((grt σ)) (gn σ) y, gst σ, gpc σ, gpf σ, glo σ, ghi σ, upd ((gwt σ)) (gn σ) w, upd ((ggr σ)) (gn σ) ((-1)), gsu σ, gho σ, ghs σ, vp_updL ((grb σ)) (gn σ) (((gbit (gn σ)) ||| ((grb σ) x)) ||| ((grb σ) y))) (gn σ)), gsu (gSeF (gn σ, gk σ, gc σ, gs σ, ge σ, va_up ((glf σ)) (gn σ) x, va_up ((grt σ)) (gn σ) y, gst σ, gpc σ, gpf σ, glo σ, ghi σ, upd ((gwt σ)) (gn σ) w, upd ((ggr σ)) (gn σ) ((-1)), gsu σ, gho σ, ghs σ, vp_updL ((grb σ)) (gn σ) (((gbit (gn σ)) ||| ((grb σ) x)) ||| ((grb σ) y))) (gn σ)), gho (gSeF (gn σ, gk σ, gc σ, gs σ, ge σ, va_up ((glf σ)) (gn σ) x, va_up ((grt σ)) (gn σ) y, gst σ, gpc σ, gpf σ, glo σ, ghi σ, upd ((gwt σ)) (gn σ) w, upd ((ggr σ)) (gn σ) ((-1)), gsu σ, gho σ, ghs σ, vp_updL ((grb σ)) (gn σ) (((gbit (gn σ)) ||| ((grb σ) x)) ||| ((grb σ) y))) (gn σ)), ghs (gSeF (gn σ, gk σ, gc σ, gs σ, ge σ, va_up ((glf σ)) (gn σ) x, va_up ((grt σ)) (gn σ) y, gst σ, gpc σ, gpf σ, glo σ, ghi σ, upd ((gwt σ)) (gn σ) w, upd ((ggr σ)) (gn σ) ((-1)), gsu σ, gho σ, ghs σ, vp_updL ((grb σ)) (gn σ) (((gbit (gn σ)) ||| ((grb σ) x)) ||| ((grb σ) y))) (gn σ)), grb (gSeF (gn σ, gk σ, gc σ, gs σ, ge σ, va_up ((glf σ)) (gn σ) x, va_up ((grt σ)) (gn σ) y, gst σ, gpc σ, gpf σ, glo σ, ghi σ, upd ((gwt σ)) (gn σ) w, upd ((ggr σ)) (gn σ) ((-1)), gsu σ, gho σ, ghs σ, vp_updL ((grb σ)) (gn σ) (((gbit (gn σ)) ||| ((grb σ) x)) ||| ((grb σ) y))) (gn σ)))) := hD
  refine lv_iload hx hb dX0_addFork_112 (lv_at hl 0 rfl) ?_
  exact W.iret hx hb hr (fun t ht hW => ⟨⟨_, (), rfl, rfl, by show gP E _ t.heap; rw [ht]; exact hP⟩, hS.F ht⟩) hS.2.2 dX0_addFork_114
theorem hinX0_weigh : ∀ w ∈ wsX00, w ∈ wsX0_weigh := fun w h => List.mem_cons_of_mem _ (List.mem_append_left _ (List.mem_append_left _ (List.mem_append_right _ h)))
theorem hdX0_weigh : yX0_weigh.cls = RX0 ∧ yX0_weigh.cls ≠ "java/lang/invoke/MethodHandle" ∧ yX0_weigh.cls ≠ "java/lang/invoke/VarHandle" ∧ (parseMethodDescriptor yX0_weigh.desc).map (fun d => d.parameters.length) = some 2 := by decide +kernel
set_option maxHeartbeats 4000000 in
set_option maxRecDepth 100000 in
theorem c_weigh (l : Launch) (E : GE) (a : Nat → Nat) (σ : GS) (sz : Nat) (k : Nat) (hn : gn σ ≤ 40) (hk : k < gn σ) (hE : gEx (ge σ) k = false) (w : Int32) (h1 : ¬ w < 1) (h9 : w ≤ nI 9) : Met l yX0_weigh wsX0_weigh { frames := 3, cells := 0, slots := 0, locals := 62 } (va_Pc [.ref (a 0), .int (nI k), .int w] (gBw E sz (gW E a σ))) (gQi E (gwt σ k) (gW E a σ) (gW E a (gWgh σ k w)) sz) 0 0 (va_A (gW E a σ) sz) := by
  refine w_met (cc := cX0_weigh) (maxL := 4) (ret := (some .int)) (by decide) rfl (Nat.le_of_ble_eq_true rfl) ?_
  intro p e s m below meth c ls S hr hlocks hname hB hl
  obtain ⟨hsz, hP, hK, hD0⟩ := hB
  subst hsz
  have hD := hD0.self (sz := s.heap.size)
  have hA : ∀ q : Nat, s.heap.size ≤ q → va_A (gW E a σ) s.heap.size q := fun q h => Or.inr h
  have hS : va_S (va_A (gW E a σ) s.heap.size) s.heap s.heap [] := va_S.rf
  obtain ⟨hx, hb, hml, hown, hts⟩ := id S
  have hts0 := hinX0_weigh
  have hl : lv_has ls 4 [(0, .ref (a 0)), (1, .int (nI k)), (2, .int w)] := hl
  refine lv_aload_n hx hb dX0_weigh_0 rfl (lv_at hl 0 rfl) ?_
  refine lv_iload_n hx hb dX0_weigh_1 rfl (lv_at hl 1 rfl) ?_
  refine g0v (As := [.int (nI k)]) (rest := []) S (c_requireFork l E a σ k (by omega) (by omega) hE) (cwV 1 hts gX0_weigh_X0_requireFork rfl rfl rfl hdX0_requireFork ⟨Nat.le_of_ble_eq_true rfl, Nat.le_of_ble_eq_true rfl⟩) hK hP rfl hl.1 rfl (Nat.le_of_ble_eq_true rfl) ⟨Nat.zero_le _, Nat.zero_le _⟩ dX0_weigh_2 ?_
  refine lv_iload_n hx hb dX0_weigh_5 rfl (lv_at hl 2 rfl) ?_
  refine g_sv (As := [.int w]) (rest := []) S (c_requireWeight l E w h1 h9) (va_cwS 1 hts gX0_weigh_X0_requireWeight rfl rfl rfl hdX0_requireWeight.2 ⟨Nat.le_of_ble_eq_true rfl, Nat.le_of_ble_eq_true rfl⟩) hK (fun _ _ h => nomatch h) rfl hl.1 rfl (Nat.le_of_ble_eq_true rfl) ⟨Nat.zero_le _, Nat.zero_le _⟩ dX0_weigh_6 ?_
  refine lv_aload_n hx hb dX0_weigh_9 rfl (lv_at hl 0 rfl) ?_
  refine g_get (σ := σ) hx hb hts hts0 hown hK hP 9 (by decide) (by decide +kernel) rfl rfl dX0_weigh_10 ?_
  refine lv_iload_n hx hb dX0_weigh_13 rfl (lv_at hl 1 rfl) ?_
  refine g_at S gX0_weigh_X0_at hK hP 5 rfl (by decide) (v := (gwt σ) k) (vp_in_nI (by omega) (by decide)) (by rw [nI_clamp (by omega)]) hl.1 (Nat.le_of_ble_eq_true rfl) ⟨Nat.zero_le _, Nat.zero_le _⟩ ⟨Nat.le_of_ble_eq_true rfl, Nat.le_of_ble_eq_true rfl⟩ dX0_weigh_14 ?_
  refine lv_istore_n (lv' := [(3, .int ((gwt σ) k)), (0, .ref (a 0)), (1, .int (nI k)), (2, .int w)]) hx hb dX0_weigh_17 rfl hl (by decide) rfl (fun ls hl => ?_)
  refine lv_aload_n hx hb dX0_weigh_18 rfl (lv_at hl 1 rfl) ?_
  refine g_get (σ := σ) hx hb hts hts0 hown hK hP 9 (by decide) (by decide +kernel) rfl rfl dX0_weigh_19 ?_
  refine lv_iload_n hx hb dX0_weigh_22 rfl (lv_at hl 2 rfl) ?_
  refine lv_iload_n hx hb dX0_weigh_23 rfl (lv_at hl 3 rfl) ?_
  refine g_put S gX0_weigh_X0_put hK hP hD hS hA 5 rfl (by decide) (f' := (upd ((gwt σ)) k w)) (vp_in_nI (by omega) (by decide)) (by rw [nI_clamp (by omega)]) hl.1 (Nat.le_of_ble_eq_true rfl) ⟨Nat.zero_le _, Nat.zero_le _⟩ ⟨Nat.le_of_ble_eq_true rfl, Nat.le_of_ble_eq_true rfl⟩ dX0_weigh_24 (fun H locs hP hD hS => ?_)
  have hP : gP E (gW E a (gn σ, gk σ, gc σ, gs σ, ge σ, glf σ, grt σ, gst σ, gpc σ, gpf σ, glo σ, ghi σ, upd ((gwt σ)) k w, ggr σ, gsu σ, gho σ, ghs σ, grb σ)) H := hP
  have hD : va_D (va_A (gW E a σ) s.heap.size) (gW E a (gn σ, gk σ, gc σ, gs σ, ge σ, glf σ, grt σ, gst σ, gpc σ, gpf σ, glo σ, ghi σ, upd ((gwt σ)) k w, ggr σ, gsu σ, gho σ, ghs σ, grb σ)) := hD
  refine lv_iload_n hx hb dX0_weigh_27 rfl (lv_at hl 0 rfl) ?_
  exact W.iret hx hb hr (fun t ht hW => ⟨⟨_, (), rfl, rfl, by show gP E _ t.heap; rw [ht]; exact hP⟩, hS.F ht⟩) hS.2.2 dX0_weigh_28
theorem hinX0_enroll : ∀ w ∈ wsX00, w ∈ wsX0_enroll := fun w h => List.mem_cons_of_mem _ (List.mem_append_left _ (List.mem_append_left _ (List.mem_append_right _ h)))
theorem hdX0_enroll : yX0_enroll.cls = RX0 ∧ yX0_enroll.cls ≠ "java/lang/invoke/MethodHandle" ∧ yX0_enroll.cls ≠ "java/lang/invoke/VarHandle" ∧ (parseMethodDescriptor yX0_enroll.desc).map (fun d => d.parameters.length) = some 1 := by decide +kernel
set_option maxHeartbeats 4000000 in
set_option maxRecDepth 100000 in
theorem c_enroll (l : Launch) (E : GE) (a : Nat → Nat) (σ : GS) (sz : Nat) (k : Nat) (hn : gn σ ≤ 40) (hk : k < gn σ) (h8 : gk σ < 8) : Met l yX0_enroll wsX0_enroll { frames := 1, cells := 0, slots := 0, locals := 22 } (va_Pc [.ref (a 0), .int (nI k)] (gBw E sz (gW E a σ))) (gQi E (nI (gk σ)) (gW E a σ) (gW E a (gEnr σ k)) sz) 0 0 (va_A (gW E a σ) sz) := by
  refine w_met (cc := cX0_enroll) (maxL := 3) (ret := (some .int)) (by decide) rfl (Nat.le_of_ble_eq_true rfl) ?_
  intro p e s m below meth c ls S hr hlocks hname hB hl
  obtain ⟨hsz, hP, hK, hD0⟩ := hB
  subst hsz
  have hD := hD0.self (sz := s.heap.size)
  have hA : ∀ q : Nat, s.heap.size ≤ q → va_A (gW E a σ) s.heap.size q := fun q h => Or.inr h
  have hS : va_S (va_A (gW E a σ) s.heap.size) s.heap s.heap [] := va_S.rf
  obtain ⟨hx, hb, hml, hown, hts⟩ := id S
  have hts0 := hinX0_enroll
  have hl : lv_has ls 3 [(0, .ref (a 0)), (1, .int (nI k))] := hl
  refine lv_aload_n hx hb dX0_enroll_0 rfl (lv_at hl 0 rfl) ?_
  refine lv_iload_n hx hb dX0_enroll_1 rfl (lv_at hl 1 rfl) ?_
  refine g0v (As := [.int (nI k)]) (rest := []) S (c_requirePlace l E a σ k (by omega) (by omega)) (cwV 1 hts gX0_enroll_X0_requirePlace rfl rfl rfl hdX0_requirePlace ⟨Nat.le_of_ble_eq_true rfl, Nat.le_of_ble_eq_true rfl⟩) hK hP rfl hl.1 rfl (Nat.le_of_ble_eq_true rfl) ⟨Nat.zero_le _, Nat.zero_le _⟩ dX0_enroll_2 ?_
  refine lv_aload_n hx hb dX0_enroll_5 rfl (lv_at hl 0 rfl) ?_
  refine g_get (σ := σ) hx hb hts hts0 hown hK hP 1 (by decide) (by decide +kernel) rfl rfl dX0_enroll_6 ?_
  refine lv_bipush (v := nI 8) hx hb dX0_enroll_9 (by decide) ?_
  refine lv_icmp_lt (tgt := 24) hx hb dX0_enroll_11 (by decide) (fun _ => ?_) (fun q => absurd ((nI_lt (by omega) (by omega))) q)
  refine lv_aload_n hx hb dX0_enroll_24 rfl (lv_at hl 0 rfl) ?_
  refine g_get (σ := σ) hx hb hts hts0 hown hK hP 1 (by decide) (by decide +kernel) rfl rfl dX0_enroll_25 ?_
  refine lv_istore_n (lv' := [(2, .int (nI (gk σ))), (0, .ref (a 0)), (1, .int (nI k))]) hx hb dX0_enroll_28 rfl hl (by decide) rfl (fun ls hl => ?_)
  refine lv_aload_n hx hb dX0_enroll_29 rfl (lv_at hl 1 rfl) ?_
  refine g_get (σ := σ) hx hb hts hts0 hown hK hP 15 (by decide) (by decide +kernel) rfl rfl dX0_enroll_30 ?_
  refine lv_iload_n hx hb dX0_enroll_33 rfl (lv_at hl 0 rfl) ?_
  refine lv_iload_n hx hb dX0_enroll_34 rfl (lv_at hl 2 rfl) ?_
  refine g_put S gX0_enroll_X0_put hK hP hD hS hA 11 rfl (by decide) (f' := (fun z9 => nI (va_up ((gst σ)) (gk σ) k z9))) (vp_in_nI (by omega) (by decide)) (by rw [nI_clamp (by omega)]; exact n_upd _ _ _) hl.1 (Nat.le_of_ble_eq_true rfl) ⟨Nat.zero_le _, Nat.zero_le _⟩ ⟨Nat.le_of_ble_eq_true rfl, Nat.le_of_ble_eq_true rfl⟩ dX0_enroll_35 (fun H locs hP hD hS => ?_)
  have hP : gP E (gW E a (gn σ, gk σ, gc σ, gs σ, ge σ, glf σ, grt σ, va_up ((gst σ)) (gk σ) k, gpc σ, gpf σ, glo σ, ghi σ, gwt σ, ggr σ, gsu σ, gho σ, ghs σ, grb σ)) H := hP
  have hD : va_D (va_A (gW E a σ) s.heap.size) (gW E a (gn σ, gk σ, gc σ, gs σ, ge σ, glf σ, grt σ, va_up ((gst σ)) (gk σ) k, gpc σ, gpf σ, glo σ, ghi σ, gwt σ, ggr σ, gsu σ, gho σ, ghs σ, grb σ)) := hD
  refine lv_aload_n hx hb dX0_enroll_38 rfl (lv_at hl 1 rfl) ?_
  refine lv_dup hx hb dX0_enroll_39 rfl ?_
  refine g_get (σ := (gn σ, gk σ, gc σ, gs σ, ge σ, glf σ, grt σ, va_up ((gst σ)) (gk σ) k, gpc σ, gpf σ, glo σ, ghi σ, gwt σ, ggr σ, gsu σ, gho σ, ghs σ, grb σ)) hx hb hts hts0 hown hK hP 1 (by decide) (by decide +kernel) rfl rfl dX0_enroll_40 ?_
  refine lv_iconst (v := 1) hx hb dX0_enroll_43 (by decide) ?_
  refine lv_iadd hx hb dX0_enroll_44 ?_
  rw [nI_1 (gk σ)]
  refine va_put (D := E.1) (ci := 0) (v := .int (nI ((gk σ) + 1))) (ty := .int) (C := RX0) (T := TX0) (N := 18) hx hb hts hts0 tyX0 tyX0_ok nmX0 hown hK hP hD hS 0 rfl rfl 1 (by decide) (hts (.fieldLink RX0 127 "ExamGarden" "studentCount" "I") (by decide +kernel)) (fun _ h9 => h9) rfl (by decide +kernel) rfl rfl (Nat.le_of_ble_eq_true rfl) dX0_enroll_45 (fun H locs hP hD hS => ?_)
  have hP : gP E (gW E a (gn σ, (gk σ) + 1, gc σ, gs σ, ge σ, glf σ, grt σ, va_up ((gst σ)) (gk σ) k, gpc σ, gpf σ, glo σ, ghi σ, gwt σ, ggr σ, gsu σ, gho σ, ghs σ, grb σ)) H := hP
  have hD : va_D (va_A (gW E a σ) s.heap.size) (gW E a (gn σ, (gk σ) + 1, gc σ, gs σ, ge σ, glf σ, grt σ, va_up ((gst σ)) (gk σ) k, gpc σ, gpf σ, glo σ, ghi σ, gwt σ, ggr σ, gsu σ, gho σ, ghs σ, grb σ)) := hD
  refine lv_iload_n hx hb dX0_enroll_48 rfl (lv_at hl 0 rfl) ?_
  exact W.iret hx hb hr (fun t ht hW => ⟨⟨_, (), rfl, rfl, by show gP E _ t.heap; rw [ht]; exact hP⟩, hS.F ht⟩) hS.2.2 dX0_enroll_49
theorem hinX0_turn : ∀ w ∈ wsX00, w ∈ wsX0_turn := fun w h => List.mem_cons_of_mem _ (List.mem_append_left _ (List.mem_append_left _ (List.mem_append_right _ h)))
theorem hdX0_turn : yX0_turn.cls = RX0 ∧ yX0_turn.cls ≠ "java/lang/invoke/MethodHandle" ∧ yX0_turn.cls ≠ "java/lang/invoke/VarHandle" ∧ (parseMethodDescriptor yX0_turn.desc).map (fun d => d.parameters.length) = some 2 := by decide +kernel
set_option maxHeartbeats 4000000 in
set_option maxRecDepth 100000 in
theorem c_turn (l : Launch) (E : GE) (a : Nat → Nat) (σ : GS) (sz : Nat) (hO : GOK σ) (k : Nat) (hk : k < gk σ) (hE : gEx (ge σ) (gst σ k) = false) (b : Bool) : Met l yX0_turn wsX0_turn { frames := 3, cells := 0, slots := 0, locals := 67 } (va_Pc [.ref (a 0), .int (nI k), .int (b2i b)] (gBw E sz (gW E a σ))) (gQi E (nI (gTo σ (gst σ k) b)) (gW E a σ) (gW E a (gWalk σ k b)) sz) 0 0 (va_A (gW E a σ) sz) := by
  refine w_met (cc := cX0_turn) (maxL := 3) (ret := (some .int)) (by decide) rfl (Nat.le_of_ble_eq_true rfl) ?_
  intro p e s m below meth c ls S hr hlocks hname hB hl
  obtain ⟨hsz, hP, hK, hD0⟩ := hB
  subst hsz
  have hD := hD0.self (sz := s.heap.size)
  have hA : ∀ q : Nat, s.heap.size ≤ q → va_A (gW E a σ) s.heap.size q := fun q h => Or.inr h
  have hS : va_S (va_A (gW E a σ) s.heap.size) s.heap s.heap [] := va_S.rf
  obtain ⟨hx, hb, hml, hown, hts⟩ := id S
  have tk := hO.2.1
  have t1 := hO.2.2.2.2.1 k
  have t2 := hO.2.2.2.2.2.2.1 k
  have hts0 := hinX0_turn
  have hl : lv_has ls 3 [(0, .ref (a 0)), (1, .int (nI k)), (2, .int (b2i b))] := hl
  refine lv_aload_n hx hb dX0_turn_0 rfl (lv_at hl 0 rfl) ?_
  refine lv_iload_n hx hb dX0_turn_1 rfl (lv_at hl 1 rfl) ?_
  refine g0v (As := [.int (nI k)]) (rest := []) S (c_requireStudent l E a σ k (by omega) (by omega)) (cwV 1 hts gX0_turn_X0_requireStudent rfl rfl rfl hdX0_requireStudent ⟨Nat.le_of_ble_eq_true rfl, Nat.le_of_ble_eq_true rfl⟩) hK hP rfl hl.1 rfl (Nat.le_of_ble_eq_true rfl) ⟨Nat.zero_le _, Nat.zero_le _⟩ dX0_turn_2 ?_
  refine lv_aload_n hx hb dX0_turn_5 rfl (lv_at hl 0 rfl) ?_
  refine lv_aload_n hx hb dX0_turn_6 rfl (lv_at hl 0 rfl) ?_
  refine g_get (σ := σ) hx hb hts hts0 hown hK hP 15 (by decide) (by decide +kernel) rfl rfl dX0_turn_7 ?_
  refine lv_iload_n hx hb dX0_turn_10 rfl (lv_at hl 1 rfl) ?_
  refine g_at S gX0_turn_X0_at hK hP 11 rfl (by decide) (v := nI ((gst σ) k)) (vp_in_nI (by omega) (by decide)) (by rw [nI_clamp (by omega)]) hl.1 (Nat.le_of_ble_eq_true rfl) ⟨Nat.zero_le _, Nat.zero_le _⟩ ⟨Nat.le_of_ble_eq_true rfl, Nat.le_of_ble_eq_true rfl⟩ dX0_turn_11 ?_
  refine g0i (As := [.int (nI ((gst σ) k))]) (rest := []) S (c_holdsExam l E a σ ((gst σ) k) (by omega)) (cwV 1 hts gX0_turn_X0_holdsExam rfl rfl rfl hdX0_holdsExam ⟨Nat.le_of_ble_eq_true rfl, Nat.le_of_ble_eq_true rfl⟩) hK hP rfl hl.1 rfl (Nat.le_of_ble_eq_true rfl) ⟨Nat.zero_le _, Nat.zero_le _⟩ dX0_turn_14 ?_
  refine lv_if_eq (tgt := 30) hx hb dX0_turn_17 (by decide) (fun _ => ?_) (fun q => absurd ((b2i_eq0.mpr hE)) q)
  refine lv_aload_n hx hb dX0_turn_30 rfl (lv_at hl 0 rfl) ?_
  refine lv_iload_n hx hb dX0_turn_31 rfl (lv_at hl 1 rfl) ?_
  refine lv_iload_n hx hb dX0_turn_32 rfl (lv_at hl 2 rfl) ?_
  refine g0w (As := [.int (nI k), .int (b2i b)]) (rest := []) (σ' := gWalk σ k b) S (c_walk l E a σ _ hO k (by omega) (by omega) b) (cwV 2 hts gX0_turn_X0_walk rfl rfl rfl hdX0_walk ⟨Nat.le_of_ble_eq_true rfl, Nat.le_of_ble_eq_true rfl⟩) hK hP hD hS hA rfl hl.1 rfl (Nat.le_of_ble_eq_true rfl) ⟨Nat.zero_le _, Nat.zero_le _⟩ dX0_turn_33 (fun H locs hP hD hS => ?_)
  refine lv_aload_n hx hb dX0_turn_36 rfl (lv_at hl 0 rfl) ?_
  refine g_get (σ := (gWalk σ k b)) hx hb hts hts0 hown hK hP 15 (by decide) (by decide +kernel) rfl rfl dX0_turn_37 ?_
  refine lv_iload_n hx hb dX0_turn_40 rfl (lv_at hl 1 rfl) ?_
  refine g_at S gX0_turn_X0_at hK hP 11 rfl (by decide) (v := nI (gTo σ (gst σ k) b)) (vp_in_nI (by omega) (by decide)) (by rw [nI_clamp (by omega)]; show nI (va_up (gst σ) k _ k) = _; rw [va_up_self]) hl.1 (Nat.le_of_ble_eq_true rfl) ⟨Nat.zero_le _, Nat.zero_le _⟩ ⟨Nat.le_of_ble_eq_true rfl, Nat.le_of_ble_eq_true rfl⟩ dX0_turn_41 ?_
  exact W.iret hx hb hr (fun t ht hW => ⟨⟨_, (), rfl, rfl, by show gP E _ t.heap; rw [ht]; exact hP⟩, hS.F ht⟩) hS.2.2 dX0_turn_44
theorem hinX0_goBack : ∀ w ∈ wsX00, w ∈ wsX0_goBack := fun w h => List.mem_cons_of_mem _ (List.mem_append_left _ (List.mem_append_left _ (List.mem_append_right _ h)))
theorem hdX0_goBack : yX0_goBack.cls = RX0 ∧ yX0_goBack.cls ≠ "java/lang/invoke/MethodHandle" ∧ yX0_goBack.cls ≠ "java/lang/invoke/VarHandle" ∧ (parseMethodDescriptor yX0_goBack.desc).map (fun d => d.parameters.length) = some 1 := by decide +kernel
set_option maxHeartbeats 4000000 in
set_option maxRecDepth 100000 in
theorem c_goBack (l : Launch) (E : GE) (a : Nat → Nat) (σ : GS) (sz : Nat) (k j : Nat) (hn : gk σ ≤ 8) (hk : k < gk σ) (hc : gpc σ k = j + 1) (hc9 : j < 40) : Met l yX0_goBack wsX0_goBack { frames := 2, cells := 0, slots := 0, locals := 43 } (va_Pc [.ref (a 0), .int (nI k)] (gBw E sz (gW E a σ))) (gQi E (nI (gpf σ (k * 40 + j))) (gW E a σ) (gW E a (gBk σ k j)) sz) 0 0 (va_A (gW E a σ) sz) := by
  refine w_met (cc := cX0_goBack) (maxL := 4) (ret := (some .int)) (by decide) rfl (Nat.le_of_ble_eq_true rfl) ?_
  intro p e s m below meth c ls S hr hlocks hname hB hl
  obtain ⟨hsz, hP, hK, hD0⟩ := hB
  subst hsz
  have hD := hD0.self (sz := s.heap.size)
  have hA : ∀ q : Nat, s.heap.size ≤ q → va_A (gW E a σ) s.heap.size q := fun q h => Or.inr h
  have hS : va_S (va_A (gW E a σ) s.heap.size) s.heap s.heap [] := va_S.rf
  obtain ⟨hx, hb, hml, hown, hts⟩ := id S
  have hts0 := hinX0_goBack
  have hl : lv_has ls 4 [(0, .ref (a 0)), (1, .int (nI k))] := hl
  refine lv_aload_n hx hb dX0_goBack_0 rfl (lv_at hl 0 rfl) ?_
  refine lv_iload_n hx hb dX0_goBack_1 rfl (lv_at hl 1 rfl) ?_
  refine g0v (As := [.int (nI k)]) (rest := []) S (c_requireStudent l E a σ k (by omega) (by omega)) (cwV 1 hts gX0_goBack_X0_requireStudent rfl rfl rfl hdX0_requireStudent ⟨Nat.le_of_ble_eq_true rfl, Nat.le_of_ble_eq_true rfl⟩) hK hP rfl hl.1 rfl (Nat.le_of_ble_eq_true rfl) ⟨Nat.zero_le _, Nat.zero_le _⟩ dX0_goBack_2 ?_
  refine lv_aload_n hx hb dX0_goBack_5 rfl (lv_at hl 0 rfl) ?_
  refine g_get (σ := σ) hx hb hts hts0 hown hK hP 16 (by decide) (by decide +kernel) rfl rfl dX0_goBack_6 ?_
  refine lv_iload_n hx hb dX0_goBack_9 rfl (lv_at hl 1 rfl) ?_
  refine g_at S gX0_goBack_X0_at hK hP 12 rfl (by decide) (v := nI ((gpc σ) k)) (vp_in_nI (by omega) (by decide)) (by rw [nI_clamp (by omega)]) hl.1 (Nat.le_of_ble_eq_true rfl) ⟨Nat.zero_le _, Nat.zero_le _⟩ ⟨Nat.le_of_ble_eq_true rfl, Nat.le_of_ble_eq_true rfl⟩ dX0_goBack_10 ?_
  refine lv_iconst (v := 1) hx hb dX0_goBack_13 (by decide) ?_
  refine lv_isub hx hb dX0_goBack_14 ?_
  rw [hc, nI_pred j]
  refine lv_istore_n (lv' := [(2, .int (nI j)), (0, .ref (a 0)), (1, .int (nI k))]) hx hb dX0_goBack_15 rfl hl (by decide) rfl (fun ls hl => ?_)
  refine lv_iload_n hx hb dX0_goBack_16 rfl (lv_at hl 0 rfl) ?_
  refine lv_if_ge (tgt := 30) hx hb dX0_goBack_17 (by decide) (fun _ => ?_) (fun q => absurd ((nI_pos' (by omega))) q)
  refine lv_aload_n hx hb dX0_goBack_30 rfl (lv_at hl 1 rfl) ?_
  refine lv_iload_n hx hb dX0_goBack_31 rfl (lv_at hl 2 rfl) ?_
  refine lv_iload_n hx hb dX0_goBack_32 rfl (lv_at hl 0 rfl) ?_
  refine g0i (As := [.int (nI k), .int (nI j)]) (rest := []) S (c_passedFork l E a σ k j (by omega) (by omega)) (cwV 2 hts gX0_goBack_X0_passedFork rfl rfl rfl hdX0_passedFork ⟨Nat.le_of_ble_eq_true rfl, Nat.le_of_ble_eq_true rfl⟩) hK hP rfl hl.1 rfl (Nat.le_of_ble_eq_true rfl) ⟨Nat.zero_le _, Nat.zero_le _⟩ dX0_goBack_33 ?_
  refine lv_istore_n (lv' := [(3, .int (nI (gpf σ (k * 40 + j)))), (2, .int (nI j)), (0, .ref (a 0)), (1, .int (nI k))]) hx hb dX0_goBack_36 rfl hl (by decide) rfl (fun ls hl => ?_)
  refine lv_aload_n hx hb dX0_goBack_37 rfl (lv_at hl 2 rfl) ?_
  refine g_get (σ := σ) hx hb hts hts0 hown hK hP 15 (by decide) (by decide +kernel) rfl rfl dX0_goBack_38 ?_
  refine lv_iload_n hx hb dX0_goBack_41 rfl (lv_at hl 3 rfl) ?_
  refine lv_iload_n hx hb dX0_goBack_42 rfl (lv_at hl 0 rfl) ?_
  refine g_put S gX0_goBack_X0_put hK hP hD hS hA 11 rfl (by decide) (f' := (fun z9 => nI (va_up ((gst σ)) k (gpf σ (k * 40 + j)) z9))) (vp_in_nI (by omega) (by decide)) (by rw [nI_clamp (by omega)]; exact n_upd _ _ _) hl.1 (Nat.le_of_ble_eq_true rfl) ⟨Nat.zero_le _, Nat.zero_le _⟩ ⟨Nat.le_of_ble_eq_true rfl, Nat.le_of_ble_eq_true rfl⟩ dX0_goBack_43 (fun H locs hP hD hS => ?_)
  have hP : gP E (gW E a (gn σ, gk σ, gc σ, gs σ, ge σ, glf σ, grt σ, va_up ((gst σ)) k (gpf σ (k * 40 + j)), gpc σ, gpf σ, glo σ, ghi σ, gwt σ, ggr σ, gsu σ, gho σ, ghs σ, grb σ)) H := hP
  have hD : va_D (va_A (gW E a σ) s.heap.size) (gW E a (gn σ, gk σ, gc σ, gs σ, ge σ, glf σ, grt σ, va_up ((gst σ)) k (gpf σ (k * 40 + j)), gpc σ, gpf σ, glo σ, ghi σ, gwt σ, ggr σ, gsu σ, gho σ, ghs σ, grb σ)) := hD
  refine lv_aload_n hx hb dX0_goBack_46 rfl (lv_at hl 2 rfl) ?_
  refine g_get (σ := (gn σ, gk σ, gc σ, gs σ, ge σ, glf σ, grt σ, va_up ((gst σ)) k (gpf σ (k * 40 + j)), gpc σ, gpf σ, glo σ, ghi σ, gwt σ, ggr σ, gsu σ, gho σ, ghs σ, grb σ)) hx hb hts hts0 hown hK hP 16 (by decide) (by decide +kernel) rfl rfl dX0_goBack_47 ?_
  refine lv_iload_n hx hb dX0_goBack_50 rfl (lv_at hl 3 rfl) ?_
  refine lv_iload_n hx hb dX0_goBack_51 rfl (lv_at hl 1 rfl) ?_
  refine g_put S gX0_goBack_X0_put hK hP hD hS hA 12 rfl (by decide) (f' := (fun z9 => nI (va_up ((gpc σ)) k j z9))) (vp_in_nI (by omega) (by decide)) (by rw [nI_clamp (by omega)]; exact n_upd _ _ _) hl.1 (Nat.le_of_ble_eq_true rfl) ⟨Nat.zero_le _, Nat.zero_le _⟩ ⟨Nat.le_of_ble_eq_true rfl, Nat.le_of_ble_eq_true rfl⟩ dX0_goBack_52 (fun H locs hP hD hS => ?_)
  have hP : gP E (gW E a (gn σ, gk σ, gc σ, gs σ, ge σ, glf σ, grt σ, va_up ((gst σ)) k (gpf σ (k * 40 + j)), va_up ((gpc σ)) k j, gpf σ, glo σ, ghi σ, gwt σ, ggr σ, gsu σ, gho σ, ghs σ, grb σ)) H := hP
  have hD : va_D (va_A (gW E a σ) s.heap.size) (gW E a (gn σ, gk σ, gc σ, gs σ, ge σ, glf σ, grt σ, va_up ((gst σ)) k (gpf σ (k * 40 + j)), va_up ((gpc σ)) k j, gpf σ, glo σ, ghi σ, gwt σ, ggr σ, gsu σ, gho σ, ghs σ, grb σ)) := hD
  refine lv_iload_n hx hb dX0_goBack_55 rfl (lv_at hl 0 rfl) ?_
  exact W.iret hx hb hr (fun t ht hW => ⟨⟨_, (), rfl, rfl, by show gP E _ t.heap; rw [ht]; exact hP⟩, hS.F ht⟩) hS.2.2 dX0_goBack_56
theorem hinX0_grade : ∀ w ∈ wsX00, w ∈ wsX0_grade := fun w h => List.mem_cons_of_mem _ (List.mem_append_left _ (List.mem_append_left _ (List.mem_append_left _ (List.mem_append_right _ h))))
theorem hdX0_grade : yX0_grade.cls = RX0 ∧ yX0_grade.cls ≠ "java/lang/invoke/MethodHandle" ∧ yX0_grade.cls ≠ "java/lang/invoke/VarHandle" ∧ (parseMethodDescriptor yX0_grade.desc).map (fun d => d.parameters.length) = some 2 := by decide +kernel
set_option maxHeartbeats 4000000 in
set_option maxRecDepth 100000 in
theorem c_grade (l : Launch) (E : GE) (a : Nat → Nat) (σ : GS) (sz : Nat) (hO : GOK σ) (k g : Nat) (hk : k < gn σ) (hE : gEx (ge σ) k = true) (h1 : glo σ k ≤ g) (h2 : g ≤ ghi σ k) (h3 : ghi σ k ≤ 20) (hG : gHas σ k = false) : Met l yX0_grade wsX0_grade { frames := 4, cells := 0, slots := 0, locals := 87 } (va_Pc [.ref (a 0), .int (nI k), .int (nI g)] (gBw E sz (gW E a σ))) (gQi E (gc σ + 1) (gW E a σ) (gW E a (gGrd σ k (nI g))) sz) 0 0 (va_A (gW E a σ) sz) := by
  refine w_met (cc := cX0_grade) (maxL := 3) (ret := (some .int)) (by decide) rfl (Nat.le_of_ble_eq_true rfl) ?_
  intro p e s m below meth c ls S hr hlocks hname hB hl
  obtain ⟨hsz, hP, hK, hD0⟩ := hB
  subst hsz
  have hD := hD0.self (sz := s.heap.size)
  have hA : ∀ q : Nat, s.heap.size ≤ q → va_A (gW E a σ) s.heap.size q := fun q h => Or.inr h
  have hS : va_S (va_A (gW E a σ) s.heap.size) s.heap s.heap [] := va_S.rf
  obtain ⟨hx, hb, hml, hown, hts⟩ := id S
  have tn := hO.1
  have hts0 := hinX0_grade
  have hl : lv_has ls 3 [(0, .ref (a 0)), (1, .int (nI k)), (2, .int (nI g))] := hl
  refine lv_aload_n hx hb dX0_grade_0 rfl (lv_at hl 0 rfl) ?_
  refine lv_iload_n hx hb dX0_grade_1 rfl (lv_at hl 1 rfl) ?_
  refine g0v (As := [.int (nI k)]) (rest := []) S (c_requireExam l E a σ k (by omega) (by omega) hE) (cwV 1 hts gX0_grade_X0_requireExam rfl rfl rfl hdX0_requireExam ⟨Nat.le_of_ble_eq_true rfl, Nat.le_of_ble_eq_true rfl⟩) hK hP rfl hl.1 rfl (Nat.le_of_ble_eq_true rfl) ⟨Nat.zero_le _, Nat.zero_le _⟩ dX0_grade_2 ?_
  refine lv_iload_n hx hb dX0_grade_5 rfl (lv_at hl 2 rfl) ?_
  refine lv_aload_n hx hb dX0_grade_6 rfl (lv_at hl 0 rfl) ?_
  refine g_get (σ := σ) hx hb hts hts0 hown hK hP 5 (by decide) (by decide +kernel) rfl rfl dX0_grade_7 ?_
  refine lv_iload_n hx hb dX0_grade_10 rfl (lv_at hl 1 rfl) ?_
  refine g_at S gX0_grade_X0_at hK hP 1 rfl (by decide) (v := nI ((glo σ) k)) (vp_in_nI (by omega) (by decide)) (by rw [nI_clamp (by omega)]) hl.1 (Nat.le_of_ble_eq_true rfl) ⟨Nat.zero_le _, Nat.zero_le _⟩ ⟨Nat.le_of_ble_eq_true rfl, Nat.le_of_ble_eq_true rfl⟩ dX0_grade_11 ?_
  refine lv_icmp_lt (tgt := 29) hx hb dX0_grade_14 (by decide) (fun q => absurd q ((nI_nlt (by omega) (by omega)))) (fun _ => ?_)
  refine lv_iload_n hx hb dX0_grade_17 rfl (lv_at hl 2 rfl) ?_
  refine lv_aload_n hx hb dX0_grade_18 rfl (lv_at hl 0 rfl) ?_
  refine g_get (σ := σ) hx hb hts hts0 hown hK hP 6 (by decide) (by decide +kernel) rfl rfl dX0_grade_19 ?_
  refine lv_iload_n hx hb dX0_grade_22 rfl (lv_at hl 1 rfl) ?_
  refine g_at S gX0_grade_X0_at hK hP 2 rfl (by decide) (v := nI ((ghi σ) k)) (vp_in_nI (by omega) (by decide)) (by rw [nI_clamp (by omega)]) hl.1 (Nat.le_of_ble_eq_true rfl) ⟨Nat.zero_le _, Nat.zero_le _⟩ ⟨Nat.le_of_ble_eq_true rfl, Nat.le_of_ble_eq_true rfl⟩ dX0_grade_23 ?_
  refine lv_icmp_le (tgt := 39) hx hb dX0_grade_26 (by decide) (fun _ => ?_) (fun q => absurd ((nI_le (by omega) (by omega))) q)
  refine lv_aload_n hx hb dX0_grade_39 rfl (lv_at hl 0 rfl) ?_
  refine lv_iload_n hx hb dX0_grade_40 rfl (lv_at hl 1 rfl) ?_
  refine g0i (As := [.int (nI k)]) (rest := []) S (c_hasGrade l E a σ k (by omega)) (cwV 1 hts gX0_grade_X0_hasGrade rfl rfl rfl hdX0_hasGrade ⟨Nat.le_of_ble_eq_true rfl, Nat.le_of_ble_eq_true rfl⟩) hK hP rfl hl.1 rfl (Nat.le_of_ble_eq_true rfl) ⟨Nat.zero_le _, Nat.zero_le _⟩ dX0_grade_41 ?_
  refine lv_if_eq (tgt := 57) hx hb dX0_grade_44 (by decide) (fun _ => ?_) (fun q => absurd ((b2i_eq0.mpr hG)) q)
  refine lv_aload_n hx hb dX0_grade_57 rfl (lv_at hl 0 rfl) ?_
  refine g_get (σ := σ) hx hb hts hts0 hown hK hP 10 (by decide) (by decide +kernel) rfl rfl dX0_grade_58 ?_
  refine lv_iload_n hx hb dX0_grade_61 rfl (lv_at hl 1 rfl) ?_
  refine lv_iload_n hx hb dX0_grade_62 rfl (lv_at hl 2 rfl) ?_
  refine g_put S gX0_grade_X0_put hK hP hD hS hA 6 rfl (by decide) (f' := (upd ((ggr σ)) k (nI g))) (vp_in_nI (by omega) (by decide)) (by rw [nI_clamp (by omega)]) hl.1 (Nat.le_of_ble_eq_true rfl) ⟨Nat.zero_le _, Nat.zero_le _⟩ ⟨Nat.le_of_ble_eq_true rfl, Nat.le_of_ble_eq_true rfl⟩ dX0_grade_63 (fun H locs hP hD hS => ?_)
  have hP : gP E (gW E a (gn σ, gk σ, gc σ, gs σ, ge σ, glf σ, grt σ, gst σ, gpc σ, gpf σ, glo σ, ghi σ, gwt σ, upd ((ggr σ)) k (nI g), gsu σ, gho σ, ghs σ, grb σ)) H := hP
  have hD : va_D (va_A (gW E a σ) s.heap.size) (gW E a (gn σ, gk σ, gc σ, gs σ, ge σ, glf σ, grt σ, gst σ, gpc σ, gpf σ, glo σ, ghi σ, gwt σ, upd ((ggr σ)) k (nI g), gsu σ, gho σ, ghs σ, grb σ)) := hD
  refine lv_aload_n hx hb dX0_grade_66 rfl (lv_at hl 0 rfl) ?_
  refine lv_dup hx hb dX0_grade_67 rfl ?_
  refine g_get (σ := (gn σ, gk σ, gc σ, gs σ, ge σ, glf σ, grt σ, gst σ, gpc σ, gpf σ, glo σ, ghi σ, gwt σ, upd ((ggr σ)) k (nI g), gsu σ, gho σ, ghs σ, grb σ)) hx hb hts hts0 hown hK hP 2 (by decide) (by decide +kernel) rfl rfl dX0_grade_68 ?_
  refine lv_iconst (v := 1) hx hb dX0_grade_71 (by decide) ?_
  refine lv_iadd hx hb dX0_grade_72 ?_
  refine va_put (D := E.1) (ci := 0) (v := .int ((gc σ) + 1)) (ty := .int) (C := RX0) (T := TX0) (N := 18) hx hb hts hts0 tyX0 tyX0_ok nmX0 hown hK hP hD hS 0 rfl rfl 2 (by decide) (hts (.fieldLink RX0 115 "ExamGarden" "gradedCount" "I") (by decide +kernel)) (fun _ h9 => h9) rfl (by decide +kernel) rfl rfl (Nat.le_of_ble_eq_true rfl) dX0_grade_73 (fun H locs hP hD hS => ?_)
  have hP : gP E (gW E a (gn σ, gk σ, (gc σ) + 1, gs σ, ge σ, glf σ, grt σ, gst σ, gpc σ, gpf σ, glo σ, ghi σ, gwt σ, upd ((ggr σ)) k (nI g), gsu σ, gho σ, ghs σ, grb σ)) H := hP
  have hD : va_D (va_A (gW E a σ) s.heap.size) (gW E a (gn σ, gk σ, (gc σ) + 1, gs σ, ge σ, glf σ, grt σ, gst σ, gpc σ, gpf σ, glo σ, ghi σ, gwt σ, upd ((ggr σ)) k (nI g), gsu σ, gho σ, ghs σ, grb σ)) := hD
  refine lv_aload_n hx hb dX0_grade_76 rfl (lv_at hl 0 rfl) ?_
  refine lv_dup hx hb dX0_grade_77 rfl ?_
  refine g_get (σ := (gn σ, gk σ, (gc σ) + 1, gs σ, ge σ, glf σ, grt σ, gst σ, gpc σ, gpf σ, glo σ, ghi σ, gwt σ, upd ((ggr σ)) k (nI g), gsu σ, gho σ, ghs σ, grb σ)) hx hb hts hts0 hown hK hP 3 (by decide) (by decide +kernel) rfl rfl dX0_grade_78 ?_
  refine lv_iload_n hx hb dX0_grade_81 rfl (lv_at hl 2 rfl) ?_
  refine lv_iadd hx hb dX0_grade_82 ?_
  refine va_put (D := E.1) (ci := 0) (v := .int ((gs σ) + (nI g))) (ty := .int) (C := RX0) (T := TX0) (N := 18) hx hb hts hts0 tyX0 tyX0_ok nmX0 hown hK hP hD hS 0 rfl rfl 3 (by decide) (hts (.fieldLink RX0 118 "ExamGarden" "gradeSum" "I") (by decide +kernel)) (fun _ h9 => h9) rfl (by decide +kernel) rfl rfl (Nat.le_of_ble_eq_true rfl) dX0_grade_83 (fun H locs hP hD hS => ?_)
  have hP : gP E (gW E a (gn σ, gk σ, (gc σ) + 1, (gs σ) + (nI g), ge σ, glf σ, grt σ, gst σ, gpc σ, gpf σ, glo σ, ghi σ, gwt σ, upd ((ggr σ)) k (nI g), gsu σ, gho σ, ghs σ, grb σ)) H := hP
  have hD : va_D (va_A (gW E a σ) s.heap.size) (gW E a (gn σ, gk σ, (gc σ) + 1, (gs σ) + (nI g), ge σ, glf σ, grt σ, gst σ, gpc σ, gpf σ, glo σ, ghi σ, gwt σ, upd ((ggr σ)) k (nI g), gsu σ, gho σ, ghs σ, grb σ)) := hD
  refine lv_aload_n hx hb dX0_grade_86 rfl (lv_at hl 0 rfl) ?_
  refine lv_iload_n hx hb dX0_grade_87 rfl (lv_at hl 1 rfl) ?_
  refine g0w (As := [.int (nI k)]) (rest := []) (σ' := gSeE (gn σ, gk σ, (gc σ) + 1, (gs σ) + (nI g), ge σ, glf σ, grt σ, gst σ, gpc σ, gpf σ, glo σ, ghi σ, gwt σ, upd ((ggr σ)) k (nI g), gsu σ, gho σ, ghs σ, grb σ) k) S (c_settleExam l E a (gn σ, gk σ, (gc σ) + 1, (gs σ) + (nI g), ge σ, glf σ, grt σ, gst σ, gpc σ, gpf σ, glo σ, ghi σ, gwt σ, upd ((ggr σ)) k (nI g), gsu σ, gho σ, ghs σ, grb σ) _ k (by omega)) (cwV 1 hts gX0_grade_X0_settleExam rfl rfl rfl hdX0_settleExam ⟨Nat.le_of_ble_eq_true rfl, Nat.le_of_ble_eq_true rfl⟩) hK hP hD hS hA rfl hl.1 rfl (Nat.le_of_ble_eq_true rfl) ⟨Nat.zero_le _, Nat.zero_le _⟩ dX0_grade_88 (fun H locs hP hD hS => ?_)
  refine lv_aload_n hx hb dX0_grade_91 rfl (lv_at hl 0 rfl) ?_
  refine lv_iload_n hx hb dX0_grade_92 rfl (lv_at hl 1 rfl) ?_
  refine g0w (As := [.int (nI k)]) (rest := []) (σ' := gSA (gSeE (gn σ, gk σ, (gc σ) + 1, (gs σ) + (nI g), ge σ, glf σ, grt σ, gst σ, gpc σ, gpf σ, glo σ, ghi σ, gwt σ, upd ((ggr σ)) k (nI g), gsu σ, gho σ, ghs σ, grb σ) k) (k + 1) (gn σ - (k + 1))) S (c_settleForksAfter l E a (gSeE (gn σ, gk σ, (gc σ) + 1, (gs σ) + (nI g), ge σ, glf σ, grt σ, gst σ, gpc σ, gpf σ, glo σ, ghi σ, gwt σ, upd ((ggr σ)) k (nI g), gsu σ, gho σ, ghs σ, grb σ) k) _ hO k (by show _ < gn σ; omega)) (cwV 1 hts gX0_grade_X0_settleForksAfter rfl rfl rfl hdX0_settleForksAfter ⟨Nat.le_of_ble_eq_true rfl, Nat.le_of_ble_eq_true rfl⟩) hK hP hD hS hA rfl hl.1 rfl (Nat.le_of_ble_eq_true rfl) ⟨Nat.zero_le _, Nat.zero_le _⟩ dX0_grade_93 (fun H locs hP hD hS => ?_)
  refine lv_aload_n hx hb dX0_grade_96 rfl (lv_at hl 0 rfl) ?_
  refine g_get (σ := (gSA (gSeE (gn σ, gk σ, (gc σ) + 1, (gs σ) + (nI g), ge σ, glf σ, grt σ, gst σ, gpc σ, gpf σ, glo σ, ghi σ, gwt σ, upd ((ggr σ)) k (nI g), gsu σ, gho σ, ghs σ, grb σ) k) (k + 1) (gn σ - (k + 1)))) hx hb hts hts0 hown hK hP 2 (by decide) (by decide +kernel) rfl rfl dX0_grade_97 ?_
  exact W.iret hx hb hr (fun t ht hW => ⟨⟨_, (), rfl, (gSA_gc _ _ _), by show gP E _ t.heap; rw [ht]; exact hP⟩, hS.F ht⟩) hS.2.2 dX0_grade_100
