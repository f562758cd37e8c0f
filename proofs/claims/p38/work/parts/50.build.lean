/-! the law's garden made, and built by the law's choices -/
theorem hinX1_init : ∀ w ∈ wsX10, w ∈ wsX1_init := fun w h => List.mem_cons_of_mem _ (List.mem_append_right _ h)
theorem hinL_build : ∀ w ∈ wsX10, w ∈ wsL_build := fun w h => List.mem_cons_of_mem _ (List.mem_append_left _ (List.mem_append_left _ (List.mem_append_left _ (List.mem_append_left _ (List.mem_append_right _ h)))))
theorem hdX1_init : yX1_init.cls ≠ "java/lang/invoke/MethodHandle" ∧ yX1_init.cls ≠ "java/lang/invoke/VarHandle" ∧ (parseMethodDescriptor yX1_init.desc).map (fun d => d.parameters.length) = some 0 := by decide +kernel
theorem hdL_act : yL_act.cls ≠ "java/lang/invoke/MethodHandle" ∧ yL_act.cls ≠ "java/lang/invoke/VarHandle" ∧ (parseMethodDescriptor yL_act.desc).map (fun d => d.parameters.length) = some 3 := by decide +kernel
set_option maxHeartbeats 4000000 in
set_option maxRecDepth 100000 in
theorem c_initS (l : Launch) (E : GE) (sz h0 : Nat) : Met l yX1_init wsX1_init { frames := 1, cells := 2, slots := 0, locals := 20 } (va_Pc [.ref h0] (gHQ E sz (fun H => gP E [(h0, .inr (1, [.null, .null]))] H))) (va_Qv (fun _ : Nat × Nat => True) (fun z t => sz ≤ z.1 ∧ sz ≤ z.2 ∧ z.1 ≠ z.2 ∧ gP E [(h0, .inr (1, [.ref z.1, .ref z.2]))] t.heap ∧ gP E [(z.1, gRo E 0 (fun _ => none))] t.heap ∧ gP E [(z.2, gRo E 0 (fun _ => none))] t.heap) (fun q => q = h0 ∨ sz ≤ q)) 2 0 (fun q => q = h0 ∨ sz ≤ q) := by
  refine w_met (cc := cX1_init) (maxL := 1) (ret := none) (by decide) rfl (Nat.le_of_ble_eq_true rfl) ?_
  intro p e s m below meth c ls S hr hlocks hname hB hl
  obtain ⟨hsz, hP, hK, hQ⟩ := hB
  subst hsz
  have hS : va_S (fun q => q = h0 ∨ s.heap.size ≤ q) s.heap s.heap [] := va_S.rf
  obtain ⟨hx, hb, hml, hown, hts⟩ := id S
  have hts1 := hinX1_init
  have hl : lv_has ls 1 [(0, .ref h0)] := hl
  have hlt : h0 < s.heap.size := (gP1' hP).lt
  refine lv_aload_n hx hb dX1_init_0 rfl (lv_at hl 0 rfl) ?_
  refine W.objInit hx hb hown (hts (.methodLink RX1 1 objectInit) (by decide +kernel)) (hts (.instanceMethod objectInit) (by decide +kernel)) (hts (.code objectInit ⟨#[0xb1]⟩ 1 none) (by decide +kernel)) rfl (by rw [hml]; exact hl.1) rfl dX1_init_1 (Nat.le_of_ble_eq_true rfl) (Nat.le_of_ble_eq_true rfl) ?_
  refine W.eq (g2 := F0 m 4 ls []) rfl ?_
  refine lv_aload_n hx hb dX1_init_4 rfl (lv_at hl 0 rfl) ?_
  refine lv_iconst (v := nI 0) hx hb dX1_init_5 (by decide) ?_
  refine s_newR hx hb hown (hts (.classLink RX1 7 "[I") (by decide +kernel)) hQ hK hS (N := 0) (by decide) (by decide) (by decide) dX1_init_6 (fun q1 H hq1 hz1 oq hR1 hS => ?_)
  refine s_put hx hb hts hts1 hown hK (hP.up oq) (Or.inl rfl) hS 0 (by decide) rfl (by decide +kernel) ⟨rfl, rfl, by decide +kernel⟩ rfl dX1_init_9 (fun H2 locs hz2 oq2 hO hS => ?_)
  have hR1 := gP1 ((gP1' hR1).kept (oq2 q1 (by omega)))
  refine lv_aload_n hx hb dX1_init_12 rfl (lv_at hl 0 rfl) ?_
  refine lv_iconst (v := nI 0) hx hb dX1_init_13 (by decide) ?_
  refine s_newR hx hb hown (hts (.classLink RX1 7 "[I") (by decide +kernel)) hQ hK hS (N := 0) (by decide) (by decide) (by decide) dX1_init_14 (fun q2 H3 hq2 hz3 oq3 hR2 hS => ?_)
  refine s_put hx hb hts hts1 hown hK (hO.up oq3) (Or.inl rfl) hS 1 (by decide) rfl (by decide +kernel) ⟨rfl, rfl, by decide +kernel⟩ rfl dX1_init_17 (fun H4 locs hz4 oq4 hO2 hS => ?_)
  have hR1 := gP1 ((gP1' (hR1.up oq3)).kept (oq4 q1 (by omega)))
  have hR2 := gP1 ((gP1' hR2).kept (oq4 q2 (by omega)))
  exact W.vret hx hb hr (fun t ht hW => ⟨⟨(q1, q2), rfl, trivial, by omega, by show s.heap.size ≤ q2; omega, by show q1 ≠ q2; omega, by show gP E _ t.heap; rw [ht]; exact hO2, by show gP E _ t.heap; rw [ht]; exact hR1, by show gP E _ t.heap; rw [ht]; exact hR2⟩, hS.F ht⟩) hS.2.2 dX1_init_20
/-- what a throw needs, apart from cells that change -/
def gZA (A : Nat → Prop) (U : State) (H : Heap) : Prop := vx_Zq Bundle.tN "UNASSIGNED_STACK" Bundle.steD A U H ∧ vx_Zq Bundle.tN "SUPPRESSED_SENTINEL" Bundle.listD A U H ∧ (∀ q ∈ gStr, ∃ sa : Nat, vk_R RX0 q.1 q.2 sa U) ∧ ∀ w ∈ gCast, va_Nw w U
theorem gZA.h {A : Nat → Prop} {U : State} {H : Heap} (h : gZA A U H) : gZh U H := ⟨h.1.narrow (fun _ z => z.elim), h.2.1.narrow (fun _ z => z.elim), h.2.2⟩
theorem gZA.narrow {A B : Nat → Prop} {U : State} {H : Heap} (h : gZA A U H) (hAB : ∀ q, B q → A q) : gZA B U H := ⟨h.1.narrow hAB, h.2.1.narrow hAB, h.2.2⟩
theorem gZA.kept {A : Nat → Prop} {s : State} {H H1 : Heap} (h : gZA A s H) (hq : ∀ q : Nat, q < H.size → ¬ A q → H1[q]? = H[q]?) : gZA A s H1 := ⟨h.1.kept hq, h.2.1.kept hq, h.2.2⟩
theorem gZA.warm {A : Nat → Prop} {s U : State} {H : Heap} (hW : s.WarmedH U.vm) (h : gZA A s H) : gZA A U H := by
  refine ⟨h.1.moved hW.alike, h.2.1.moved hW.alike, fun q hq => ?_, fun w hw => ?_⟩
  · obtain ⟨sa, hs⟩ := h.2.2.1 q hq
    exact ⟨sa, vk_R.warm hW hs⟩
  · have h2 := h.2.2.2 w hw
    simp only [gCast, List.mem_cons, List.not_mem_nil, or_false] at hw
    rcases hw with rfl | rfl | rfl | rfl | rfl | rfl <;> first | exact va_Nw.warmC hW h2 | exact va_Nw.warmD hW h2
section LACT
variable {p : Program} {l : Launch} {e : Env} {R : Room} {s : State} {m : MethodId} {args : Array Value} {below : List Frame} {meth : Method} {c : Code} {H H0 : Heap} {locs : List Loc} {cells slots : Nat} {Q : State → Prop} {A : Nat → Prop}
variable {cc : ByteArray} {pc nL index : Nat} {ls : Array Slot} {rest : List Value} {E : GE} {Ts : List Cond} {own : String} {a b : Nat → Nat} {σ : GS} {τ : MS} {x : Int32}
/-- the law's call of act -/
theorem l_act (S : CallFix p m c cc nL s args Ts own) (hfl : l.stackTraces = false) (h : RR σ τ) (hq : RQ τ) (cw : vx_CSW R s args own index yL_act cL_act 10 (some .boolean) aTb wsL_act aRm 210 8300 3) (hK : gK E s) (hQ : gQ s) (hZ : gZh s H) (hG : LG A E a b σ τ H) (hS : va_S A H0 H locs) (hA : ∀ q, H0.size ≤ q → A q)
    (hsize : ls.size = nL) (hW : (rest.map fun v => v.category).sum ≤ 8) (hf : cells + 210 ≤ R.cells ∧ slots + 8300 ≤ R.slots) (hdg : decode cc pc = .ok (.invokestatic index, 3))
    (kk : ∀ (σ' : GS) (τ' : MS) (b' : Nat → Nat) (H1 : Heap) (locs1 : List Loc), RR σ' τ' → RQ τ' → 1 ≤ mn τ' → b' 0 = b 0 → LG A E a b' σ' τ' H1 → va_S A H0 H1 locs1 → W p l e R s m args below meth c H1 locs1 (cells + 210) (slots + 8300) Q (F0 m (pc + 3) ls (.int 1 :: rest))) : W p l e R s m args below meth c H locs cells slots Q (F0 m pc ls (.int x :: .ref (b 0) :: .ref (a 0) :: rest)) :=
  have hA1 : ∀ q, H.size ≤ q → A q := fun q z => hA q (Nat.le_trans hS.1 z)
  va_calli (vx_runSW (As := [.ref (a 0), .ref (b 0), .int x]) (rest := rest) S (c_act l hfl E a b σ τ h hq H.size x) cw (gLY_preS (hG.weak (fun _ _ => trivial)) hK hQ hZ _) rfl rfl hsize rfl (lv_room hW) hdg hf) hS (fun q _ z => hG.actIn hA1 q z) (hG.actIn hA1) (fun r z t H1 locs1 ht _ hr hB _ _ hS1 => by
    rw [hr.1]
    exact kk z.1 z.2.1 z.2.2 H1 locs1 hr.2.1 hr.2.2.1 hr.2.2.2.1 hr.2.2.2.2 ((by rw [← ht]; exact hB : LG (actA E a b σ τ H.size) E a z.2.2 z.1 z.2.1 H1).weak (hG.actIn hA1)) hS1)
theorem l_cell {sb L k : Nat} {xs : Nat → Int32} (hL : L ≤ 260) (hk : k < 2 ^ 31) (S : CallFix p m c cc nL s args Ts own) (cw : CallB R s args own index yL_cell cL_cell 2 (some .int) wsL_cell rmZ 0 0 2 ∧ (Cond.static yL_cell).before args s = true) (hX : va_X sb L xs s H)
    (hsize : ls.size = nL) (hW : (rest.map fun v => v.category).sum ≤ 8) (hf : cells ≤ R.cells ∧ slots ≤ R.slots) (hdg : decode cc pc = .ok (.invokestatic index, 3))
    (kk : ∀ r : Int32, W p l e R s m args below meth c H locs cells slots Q (F0 m (pc + 3) ls (.int r :: rest))) : W p l e R s m args below meth c H locs cells slots Q (F0 m pc ls (.int (nI k) :: .ref sb :: rest)) :=
  vp_callSi (W.runS (As := [.ref sb, .int (nI k)]) (rest := rest) S (c_cell l sb L xs k hL hk) cw ⟨gX_blind, fun U hU hW => ⟨rfl, by show va_X sb L xs U U.heap; rw [hU]; exact va_X.moved hW.alike hX⟩⟩ rfl rfl hsize rfl (lv_room hW) hdg hf) (fun r _ => kk r)
end LACT
/-- the first state of the law's own garden -/
def bS0 (h0 q1 q2 : Nat) : Nat → Nat := fun i => if i = 0 then h0 else if i = 1 then q1 else q2
theorem LG.first {A : Nat → Prop} {E : GE} {a : Nat → Nat} {H : Heap} {h0 q1 q2 : Nat} (hg : gP E (gW E a gS0) H) (hD : va_D A (gW E a gS0)) (o : gP E [(h0, .inr (1, [.ref q1, .ref q2]))] H) (r1 : gP E [(q1, gRo E 0 (fun _ => none))] H) (r2 : gP E [(q2, gRo E 0 (fun _ => none))] H) (n1 : h0 ≠ q1) (n2 : h0 ≠ q2) (n3 : q1 ≠ q2) (hA : A h0 ∧ A q1 ∧ A q2) (hj : ∀ j, j < 14 → h0 ≠ a j ∧ q1 ≠ a j ∧ q2 ≠ a j) : LG A E a (bS0 h0 q1 q2) gS0 mS0 H := by
  have cs : ∀ i, si_V (mn mS0) (mk mS0) i → i = 0 ∨ i = 1 ∨ i = 2 := by
    rintro i (hi | ⟨p, hp, _⟩ | ⟨t, ht, _⟩)
    · omega
    · exact absurd hp (Nat.not_lt_zero _)
    · exact absurd ht (Nat.not_lt_zero _)
  refine ⟨hg, hD, fun i hi => ?_, ⟨fun i hi => ?_, fun i j hi hj2 e => ?_⟩, fun i hi j hj2 => ?_⟩
  · rcases cs i hi with rfl | rfl | rfl
    · exact gP1' o
    · exact gP1' (gR_cong (g := fun j => some (bS0 h0 q1 q2 (3 + 2 * j))) r1 (fun j hj => absurd hj (Nat.not_lt_zero _)))
    · exact gP1' (gR_cong (g := fun j => some (bS0 h0 q1 q2 (4 + 2 * j))) r2 (fun j hj => absurd hj (Nat.not_lt_zero _)))
  · rcases cs i hi with rfl | rfl | rfl
    · exact hA.1
    · exact hA.2.1
    · exact hA.2.2
  · rcases cs i hi with rfl | rfl | rfl <;> rcases cs j hj2 with rfl | rfl | rfl <;> first | rfl | exact absurd e n1 | exact absurd e n2 | exact absurd e n3 | exact absurd e.symm n1 | exact absurd e.symm n2 | exact absurd e.symm n3
  · rcases cs i hi with rfl | rfl | rfl
    · exact (hj j hj2).1
    · exact (hj j hj2).2.1
    · exact (hj j hj2).2.2
abbrev nest80 : Cond := .methodLinkNest RL 80 yX1_init RL
def gBU (E : GE) (sz : Nat) (a : Nat → Nat) (sb L : Nat) (xs : Nat → Int32) (U : State) : Prop := U.heap.size = sz ∧ gP E (gW E a gS0) U.heap ∧ va_D (fun _ => True) (gW E a gS0) ∧ va_X sb L xs U U.heap ∧ ¬ va_A (gW E a gS0) sz sb ∧ gK E U ∧ gQ U ∧ gZA (va_A (gW E a gS0) sz) U U.heap ∧ va_Nw nest80 U
theorem gBU_blind {E : GE} {sz : Nat} {a : Nat → Nat} {sb L : Nat} {xs : Nat → Int32} {av : List Value} : FrameBlind (va_Pc av (gBU E sz a sb L xs)) := fun a U g mk q => by
  obtain ⟨q0, q1, qP, qD, qX, qn, qK, qQ, qZ, qN⟩ := q
  exact ⟨q0, q1, qP, qD, va_X.moved (u := U) (U := U.calling g mk a) (Vm.Alike.refl U.vm) qX, qn, va_K.moved (u := U) (U := U.calling g mk a) (Vm.Alike.refl U.vm) qK, gQ.moved (u := U) (U := U.calling g mk a) (Vm.Alike.refl U.vm) qQ, gZA.warm (U := U.calling g mk a) (State.WarmedH.refl U) qZ, va_Nw.warmM (U := U.calling g mk a) (State.WarmedH.refl U) qN⟩
abbrev bRm : Room := { frames := 11, cells := 6310, slots := 250000, locals := 330 }
set_option maxHeartbeats 4000000 in
set_option maxRecDepth 100000 in
theorem c_build (l : Launch) (hfl : l.stackTraces = false) (E : GE) (a : Nat → Nat) (sb L : Nat) (xs : Nat → Int32) (hL : L ≤ 260) (sz : Nat) : Met l yL_build wsL_build bRm (va_Pc [.ref (a 0), .ref sb] (gBU E sz a sb L xs)) (va_Qr (fun z : actR => RR z.1 z.2.1 ∧ RQ z.2.1 ∧ 1 ≤ mn z.2.1) (fun z ra t => ra = z.2.2 0 ∧ LG (va_A (gW E a gS0) sz) E a z.2.2 z.1 z.2.1 t.heap) (va_A (gW E a gS0) sz)) 6310 250000 (va_A (gW E a gS0) sz) := by
  refine w_met (cc := cL_build) (maxL := 5) (ret := some (.object "ExamGardenLaw$Sim")) (by decide) rfl (Nat.le_of_ble_eq_true rfl) ?_
  intro p e s m below meth c ls S hr hlocks hname hB hl
  obtain ⟨hsz, hP0, hD0, hX, hnb, hK, hQ, hZ, hN⟩ := hB
  subst hsz
  have hD := hD0.self (sz := s.heap.size)
  have hA : ∀ q : Nat, s.heap.size ≤ q → (va_A (gW E a gS0) s.heap.size) q := fun q h => Or.inr h
  have hS : va_S (va_A (gW E a gS0) s.heap.size) s.heap s.heap [] := va_S.rf
  obtain ⟨hx, hb, hml, hown, hts⟩ := id S
  have hts1 := hinL_build
  have hsl : sb < s.heap.size := Nat.not_le.mp (fun z => hnb (Or.inr z))
  have hal : ∀ j, j < 14 → a j < s.heap.size := fun j hj => by
    obtain ⟨x, hx⟩ := gW_at E a gS0 hj
    exact vx_lt hP0 hx
  have hl : lv_has ls 5 [(0, .ref (a 0)), (1, .ref sb)] := hl
  have hPn : gP E [] s.heap := fun k q h => by simp at h
  have hDn : va_D (va_A (gW E a gS0) s.heap.size) [] := ⟨fun i j p q h => by simp at h, fun k q h => by simp at h⟩
  refine va_new (D := E.1) (ci := 1) (fs := [.null, .null]) (C := RX1) (T := TX1) (N := 2) hx hb hts hts1 tyX1 tyX1_ok hown (hts (.classLink RL 10 RX1) (by decide +kernel)) (hts (.instantiable RX1 2) (by decide +kernel)) (hts (.initialized RX1) (by decide +kernel)) hK hP0 hD hS hA rfl (fun j hj => by rcases (show j = 0 ∨ j = 1 by omega) with rfl | rfl <;> rfl) (Nat.le_of_ble_eq_true rfl) (Nat.le_of_ble_eq_true rfl) dL_build_0 (fun h0 H hP hD2 hS => ?_)
  have hP : gP E (gW E a gS0 ++ [(h0, .inr (1, [.null, .null]))]) H := hP
  have hD2 : va_D (va_A (gW E a gS0) s.heap.size) (gW E a gS0 ++ [(h0, .inr (1, [.null, .null]))]) := hD2
  have hPh : gP E [(h0, .inr (1, [.null, .null]))] H := hP.sub [14] rfl
  have hPg : gP E (gW E a gS0) H := hP.sub [0, 1, 2, 3, 4, 5, 6, 7, 8, 9, 10, 11, 12, 13] rfl
  have hhA : va_A (gW E a gS0) s.heap.size h0 := hD2.2 14 _ rfl
  have hhn : ∀ j, j < 14 → h0 ≠ a j := fun j hj e => by
    obtain ⟨x, hx⟩ := gW_at E a gS0 hj
    have := hD2.1 14 j (h0, _) (a j, x) rfl (by rw [List.getElem?_append_left (by exact hj)]; exact hx) e
    omega
  refine lv_dup hx hb dL_build_3 rfl ?_
  have hA1 : ∀ q, (q = h0 ∨ H.size ≤ q) → va_A (gW E a gS0) s.heap.size q := by
    rintro q (rfl | z)
    · exact hhA
    · exact Or.inr (Nat.le_trans hS.1 z)
  refine va_callv (va_runIN (As := []) (rest := [.ref h0]) S (c_initS l E H.size h0) ⟨va_cnB 0 hts gL_build_X1_init_n80 rfl rfl rfl hN (hts (.initialized RX1) (by decide +kernel)) hdX1_init ⟨Nat.le_of_ble_eq_true rfl, Nat.le_of_ble_eq_true rfl⟩, rfl, hts (.instanceMethod yX1_init) (by decide +kernel)⟩ (gHQ_preS hPh hK hQ _) rfl rfl hl.1 rfl (lv_room (Nat.le_of_ble_eq_true rfl)) dL_build_4 ⟨Nat.le_of_ble_eq_true rfl, Nat.le_of_ble_eq_true rfl⟩) hS (fun q _ h => hA1 q h) hA1 (fun z t H1 locs ht _ _ hB hz1 hq hS => ?_)
  rw [ht] at hB
  obtain ⟨g1, g2, g3, g4, g5, g6⟩ := hB
  have hhl : h0 < H.size := (gP1' hPh).lt
  have hgl : ∀ j, j < 14 → a j < H.size := fun j hj => by
    obtain ⟨x, hx⟩ := gW_at E a gS0 hj
    exact vx_lt hPg hx
  have hPg : gP E (gW E a gS0) H1 := va_P.kept hPg (fun k q hk => by
    obtain ⟨k1, k2⟩ := gW_ad (e := q.2) hk
    have := hgl k k1
    refine hq q.1 (by omega) ?_
    rintro (z | z)
    · exact hhn k k1 (by omega)
    · omega)
  have hG : LG (va_A (gW E a gS0) s.heap.size) E a (bS0 h0 z.1 z.2) gS0 mS0 H1 := LG.first hPg hD g4 g5 g6 (by omega) (by omega) g3 ⟨hhA, hA1 _ (Or.inr g1), hA1 _ (Or.inr g2)⟩ (fun j hj => ⟨hhn j hj, by have := hgl j hj; omega, by have := hgl j hj; omega⟩)
  have hXk : ∀ {H : Heap} {locs : List Loc}, va_S (va_A (gW E a gS0) s.heap.size) s.heap H locs → va_X sb L xs s H := fun hS => hX.kept (hS.2.1 sb hsl hnb)
  have hZk : ∀ {H : Heap} {locs : List Loc}, va_S (va_A (gW E a gS0) s.heap.size) s.heap H locs → gZh s H := fun hS => (hZ.kept hS.2.1).h
  generalize hb0 : bS0 h0 z.1 z.2 = b0 at hG
  have e0 : h0 = b0 0 := by rw [← hb0]; rfl
  rw [e0]
  refine lv_astore_n (lv' := [(2, .ref (b0 0)), (0, .ref (a 0)), (1, .ref sb)]) hx hb dL_build_7 rfl hl (by decide) rfl (fun ls hl => ?_)
  refine lv_bipush (v := nI 8) hx hb dL_build_8 (by decide) ?_
  refine lv_aload_n hx hb dL_build_10 rfl (lv_at hl 2 rfl) ?_
  refine lv_iconst (v := nI 0) hx hb dL_build_11 (by decide) ?_
  refine l_cell hL (by decide) S (va_cwS 2 hts gL_build_L_cell rfl rfl rfl hdL_cell ⟨Nat.le_of_ble_eq_true rfl, Nat.le_of_ble_eq_true rfl⟩) (hXk hS) hl.1 (Nat.le_of_ble_eq_true rfl) ⟨Nat.le_of_ble_eq_true rfl, Nat.le_of_ble_eq_true rfl⟩ dL_build_12 (fun r12 => ?_)
  refine lv_bipush (v := nI 22) hx hb dL_build_15 (by decide) ?_
  refine l_below (N := 22) (by decide) (by decide) S (va_cwS 2 hts gL_build_L_below rfl rfl rfl hdL_below ⟨Nat.le_of_ble_eq_true rfl, Nat.le_of_ble_eq_true rfl⟩) hK hl.1 (Nat.le_of_ble_eq_true rfl) ⟨Nat.le_of_ble_eq_true rfl, Nat.le_of_ble_eq_true rfl⟩ dL_build_17 (fun j hj => ?_)
  refine lv_iadd hx hb dL_build_20 ?_
  rw [nI_add 8 j]
  refine lv_istore_n (lv' := [(3, .int (nI (8 + j))), (2, .ref (b0 0)), (0, .ref (a 0)), (1, .ref sb)]) hx hb dL_build_21 rfl hl (by decide) rfl (fun ls hl => ?_)
  refine lv_iconst (v := 0) hx hb dL_build_22 (by decide) ?_
  refine lv_istore (lv' := [(4, .int 0), (3, .int (nI (8 + j))), (2, .ref (b0 0)), (0, .ref (a 0)), (1, .ref sb)]) hx hb dL_build_23 hl (by decide) rfl (fun ls hl => ?_)
  have key : ∀ (d i : Nat) (σ : GS) (τ : MS) (b : Nat → Nat) (H : Heap) (locs : List Loc) (cells slots : Nat) (ls : Array Slot), i + d = 8 + j → (i = 0 ∨ 1 ≤ mn τ) → RR σ τ → RQ τ → b 0 = b0 0 → LG (va_A (gW E a gS0) s.heap.size) E a b σ τ H → va_S (va_A (gW E a gS0) s.heap.size) s.heap H locs → cells + 210 * d ≤ 6310 → slots + 8300 * d ≤ 250000 → lv_has ls 5 [(4, .int (nI i)), (3, .int (nI (8 + j))), (2, .ref (b0 0)), (0, .ref (a 0)), (1, .ref sb)] → W p l e (headSpec wsL_build bRm).room s m [.ref (a 0), .ref sb].toArray below meth c H locs cells slots (MQ below (va_Qr (fun z : actR => RR z.1 z.2.1 ∧ RQ z.2.1 ∧ 1 ≤ mn z.2.1) (fun z ra t => ra = z.2.2 0 ∧ LG (va_A (gW E a gS0) s.heap.size) E a z.2.2 z.1 z.2.1 t.heap) (va_A (gW E a gS0) s.heap.size)) [.ref (a 0), .ref sb].toArray s 6310 250000 (va_A (gW E a gS0) s.heap.size)) (F0 m 25 ls []) := by
    intro d
    induction d with
    | zero =>
      intro i σ τ b H locs cells slots ls hi hm h hq hb9 hG hS hcs hss hl
      obtain rfl : i = 8 + j := by omega
      refine lv_iload hx hb dL_build_25 (lv_at hl 0 rfl) ?_
      refine lv_iload_n hx hb dL_build_27 rfl (lv_at hl 1 rfl) ?_
      refine lv_icmp_ge (tgt := 72) hx hb dL_build_28 (by decide) (fun _ => ?_) (fun z => absurd (nI_le (Nat.le_refl _) (by omega)) z)
      refine lv_aload_n hx hb dL_build_72 rfl (lv_at hl 2 rfl) ?_
      refine W.widen (k := 6310) (n := 250000) (by omega) (by omega) ?_
      exact W.aret (v := .ref (b0 0)) (rt := .object "ExamGardenLaw$Sim") hx hb hr (Or.inl ⟨_, rfl⟩) (Or.inr ⟨_, rfl⟩) (fun t ht hW => ⟨⟨(σ, τ, b), _, rfl, ⟨h, hq, by rcases hm with z | z <;> omega⟩, hb9.symm, by show LG _ _ _ _ _ _ t.heap; rw [ht]; exact hG⟩, hS.F ht⟩) hS.2.2 dL_build_73
    | succ d ih =>
      intro i σ τ b H locs cells slots ls hi hm h hq hb9 hG hS hcs hss hl
      refine lv_iload hx hb dL_build_25 (lv_at hl 0 rfl) ?_
      refine lv_iload_n hx hb dL_build_27 rfl (lv_at hl 1 rfl) ?_
      refine lv_icmp_ge (tgt := 72) hx hb dL_build_28 (by decide) (fun z => absurd z (nI_ge (by omega) (by omega))) (fun _ => ?_)
      refine lv_aload_n hx hb dL_build_31 rfl (lv_at hl 3 rfl) ?_
      refine lv_aload_n hx hb dL_build_32 rfl (lv_at hl 2 rfl) ?_
      refine lv_aload_n hx hb dL_build_33 rfl (lv_at hl 4 rfl) ?_
      refine lv_iconst (v := nI 1) hx hb dL_build_34 (by decide) ?_
      refine lv_iload hx hb dL_build_35 (lv_at hl 0 rfl) ?_
      refine lv_bipush (v := nI 15) hx hb dL_build_37 (by decide) ?_
      refine lv_irem hx hb dL_build_39 (nI_ne0 (by decide) (by decide)) ?_
      rw [pk_rem (a := i) (d := 15) (by omega) (by decide) (by decide)]
      refine lv_iadd hx hb dL_build_40 ?_
      rw [nI_add 1 (i % 15)]
      refine l_cell hL (by omega) S (va_cwS 2 hts gL_build_L_cell rfl rfl rfl hdL_cell ⟨Nat.le_of_ble_eq_true rfl, Nat.le_of_ble_eq_true rfl⟩) (hXk hS) hl.1 (Nat.le_of_ble_eq_true rfl) ⟨by show cells ≤ 6310; omega, by show slots ≤ 250000; omega⟩ dL_build_41 (fun r41 => ?_)
      refine lv_iload hx hb dL_build_44 (lv_at hl 0 rfl) ?_
      refine lv_bipush (v := nI 15) hx hb dL_build_46 (by decide) ?_
      refine lv_idiv hx hb dL_build_48 (nI_ne0 (by decide) (by decide)) ?_
      refine lv_iconst (v := 3) hx hb dL_build_49 (by decide) ?_
      refine lv_imul hx hb dL_build_50 ?_
      refine lv_ishr hx hb dL_build_51 ?_
      refine lv_bipush (v := nI 41) hx hb dL_build_52 (by decide) ?_
      refine lv_iload hx hb dL_build_54 (lv_at hl 0 rfl) ?_
      refine lv_imul hx hb dL_build_56 ?_
      refine lv_iadd hx hb dL_build_57 ?_
      rw [← hb9] at hl ⊢
      refine l_act S hfl h hq (vx_cwSW 3 hts gL_build_L_act rfl rfl rfl hdL_act ⟨Nat.le_of_ble_eq_true rfl, Nat.le_of_ble_eq_true rfl⟩) hK hQ (hZk hS) hG hS hA hl.1 (Nat.le_of_ble_eq_true rfl) ⟨by show cells + 210 ≤ 6310; omega, by show slots + 8300 ≤ 250000; omega⟩ dL_build_58 (fun σ' τ' b' H locs h hq h1 hb' hG hS => ?_)
      refine lv_if_ne (tgt := 66) hx hb dL_build_61 (by decide) (fun _ => ?_) (fun z => absurd z (by decide))
      refine lv_iinc (v := nI (i + 1)) (lv' := [(4, .int (nI (i + 1))), (3, .int (nI (8 + j))), (2, .ref (b 0)), (0, .ref (a 0)), (1, .ref sb)]) hx hb dL_build_66 hl (k := 0) rfl (nI_1 i) (by decide) rfl (fun ls hl => ?_)
      refine lv_goto (tgt := 25) hx hb dL_build_69 (by decide) ?_
      rw [hb9] at hl
      exact ih (i + 1) σ' τ' b' H locs _ _ ls (by omega) (Or.inr h1) h hq (hb'.trans hb9) hG hS (by omega) (by omega) hl
  exact key (8 + j) 0 gS0 mS0 b0 H1 locs _ _ ls (by omega) (Or.inl rfl) RR.init RQ.init rfl hG hS (by omega) (by omega) hl
