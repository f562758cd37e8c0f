theorem st_arr {s : State} {args : Array Value} (ty : FieldType) (h : (Cond.arrayClass ty).before args s = true) : ∃ cA, ArrOfT s cA ty ∧ s.vm.findClass ("[" ++ ty.toString) = some cA := by
  obtain ⟨cA, kA, comp, h1, h2, h3⟩ := Cond.arrayClass_spec h
  exact ⟨cA, fun n z => ⟨fun k h => (by cases h), kA, h2, comp, h3⟩, h1⟩
theorem st_arrO {s : State} {args : Array Value} (h : (Cond.arrayOver (.array .int)).before args s = true) : ∃ cA, ArrOfT s cA (.array .int) ∧ s.vm.findClass ("[" ++ (FieldType.array .int).toString) = some cA := by
  obtain ⟨comp, c, k, h1, h2, h3, h4, h5⟩ := arrayOverA_spec h
  exact ⟨c, fun n z => ⟨fun k h => (by cases h), k, h3, comp, h4⟩, h5⟩
theorem st_gQ {s : State} {args : Array Value} (h : (Cond.arrayOver (.array .int)).before args s = true) : gQ s := by
  unfold gQ
  unfold Cond.before Cond.holds at h ⊢
  simp only [Cond.value] at h ⊢
  exact h
theorem st_str {s : State} {args : Array Value} {k : Nat} {tx : String} (h1 : (Cond.stringRef RX0 k tx).before args s = true) (h2 : (Cond.exactly (.string "ExamGarden" k) "java/lang/String").before args s = true) : ∃ sa : Nat, vk_R RX0 k tx sa s := by
  obtain ⟨q, _, _, _, h3, _⟩ := Cond.exactly_spec h2
  exact ⟨q, vk_R.of h1 h3⟩
/-- what a throw needs, out of what the claim gives of the start -/
theorem st_zh {s : State} {b : Nat} (hts : ∀ w ∈ lw_tbl, w.before #[Value.ref b] s = true) (hgv : (Jvm.Cond.and given_1 narrow_1).before #[Value.ref b] s = true) : gZA (LA s) s s.heap := by
  have hs := flat_of_before _ hgv
  refine ⟨?_, ?_, fun q hq => ?_, fun w hw => ?_⟩
  · exact vx_Zqof (hts (.laysStatic "java/lang/Throwable" "UNASSIGNED_STACK" "[Ljava/lang/StackTraceElement;") (by decide +kernel)) (hts (.initialized "java/lang/Throwable") (by decide +kernel)) (hs (.isRef (.static "java/lang/Throwable" "UNASSIGNED_STACK" "[Ljava/lang/StackTraceElement;")) (by decide +kernel)) (fun _ h z => absurd h (Nat.not_lt.mpr z))
  · exact vx_Zqof (hts (.laysStatic "java/lang/Throwable" "SUPPRESSED_SENTINEL" "Ljava/util/List;") (by decide +kernel)) (hts (.initialized "java/lang/Throwable") (by decide +kernel)) (hs (.isRef (.static "java/lang/Throwable" "SUPPRESSED_SENTINEL" "Ljava/util/List;")) (by decide +kernel)) (fun _ h z => absurd h (Nat.not_lt.mpr z))
  · have g : ∀ q ∈ gStr, Cond.stringRef RX0 q.1 q.2 ∈ lw_tbl ∧ Cond.exactly (.string "ExamGarden" q.1) "java/lang/String" ∈ flatC (Jvm.Cond.and given_1 narrow_1) := by decide +kernel
    exact st_str (hts _ (g q hq).1) (hs _ (g q hq).2)
  · have g : ∀ w ∈ gCast, w ∈ lw_tbl := by decide +kernel
    exact va_Nw.of (gCast_tab w hw) (hts w (g w hw))
theorem st_K {s : State} {b : Nat} (hts : ∀ w ∈ lw_tbl, w.before #[Value.ref b] s = true) : (∃ E : GE, gK E s) ∧ gQ s ∧ va_Nw nest80 s := by
  obtain ⟨c0, iS0, hKn0⟩ := u_known (C := RX0) (T := TX0) (N := 18) (n := 18) hts inX0 (hts (.instantiable RX0 18) (by decide +kernel))
  obtain ⟨c1, iS1, hKn1⟩ := u_known (C := RX1) (T := TX1) (N := 2) (n := 2) hts inX1 (hts (.instantiable RX1 2) (by decide +kernel))
  obtain ⟨cI, aI, fI⟩ := st_arr .int (hts (.arrayClass .int) (by decide +kernel))
  obtain ⟨cJ, aJ, fJ⟩ := st_arr .long (hts (.arrayClass .long) (by decide +kernel))
  obtain ⟨cZ, aZ, fZ⟩ := st_arr .boolean (hts (.arrayClass .boolean) (by decide +kernel))
  have hO := hts (.arrayOver (.array .int)) (by decide +kernel)
  obtain ⟨cO, aO, fO⟩ := st_arrO hO
  refine ⟨⟨((fun k => if k = 0 then c0 else c1, fun k => if k = 0 then iS0 else iS1), cI, cJ, cZ, cO), fun k q hq => ?_, fun k q hq => ?_⟩, st_gQ hO, va_Nw.of rfl (hts nest80 (by decide +kernel))⟩
  · match k, hq with
    | 0, hq => cases hq; exact hKn0
    | 1, hq => cases hq; exact hKn1
    | k + 2, hq => simp [vwCl] at hq
  · match k, hq with
    | 0, hq => cases hq; exact ⟨aI, fI⟩
    | 1, hq => cases hq; exact ⟨aJ, fJ⟩
    | 2, hq => cases hq; exact ⟨aZ, fZ⟩
    | 3, hq => cases hq; exact ⟨aO, fO⟩
    | k + 4, hq => simp [gTy] at hq
theorem hdL_build : yL_build.cls ≠ "java/lang/invoke/MethodHandle" ∧ yL_build.cls ≠ "java/lang/invoke/VarHandle" ∧ (parseMethodDescriptor yL_build.desc).map (fun d => d.parameters.length) = some 2 := by decide +kernel
set_option maxHeartbeats 4000000 in
set_option maxRecDepth 100000 in
theorem whole_start {p : Program} {e : Env} {s : State} {m : MethodId} {below : List Frame} {meth : Method} {c : Code} (l : Launch) (hflags : l.flags = flags0) {b L : Nat} {xs : Nat → Int32} (hL : L ≤ 260) (C0 : lw_At p s m meth c b L xs) : W p l e room_1 s m #[Value.ref b] below meth c s.heap [] 0 0 (lw_Z below #[Value.ref b] s) (entryFrame m ([Value.ref b] : List Value).toArray 23) := by
  obtain ⟨hx, hb, hr, hml, hown, htsT, hX, hbl, hlocks, hgv⟩ := id C0
  have hts : ∀ w ∈ wsL_law, w.before #[Value.ref b] s = true := fun w hw => htsT w (wsL_law_in w hw)
  have hfl : l.stackTraces = false := by rw [Launch.stackTraces, hflags]; decide +kernel
  have S : CallFix p m c cL_law 23 s #[Value.ref b] wsL_law RL := ⟨hx, hb, hml, hown, hts⟩
  have hZ := st_zh htsT hgv
  obtain ⟨⟨E, hK⟩, hQ, hN⟩ := st_K htsT
  have hC : LC p l s m meth c b L xs E := ⟨S, hK, hQ, hZ, hX, hbl, hL, hfl, hr, hlocks⟩
  have hS : va_S (LA s) s.heap s.heap [] := va_S.rf
  have hP : gP E [] s.heap := fun k q h => by simp at h
  have hD : va_D (LA s) [] := ⟨fun i j p q h => by simp at h, fun k q h => by simp at h⟩
  have hl := lv_entry ([.ref b]) (n := 23) (Nat.le_of_ble_eq_true rfl)
  rw [lg_entry_eq]
  generalize (lg_sl ([.ref b]) ++ List.replicate (23 - (lg_sl ([.ref b])).length) Slot.unset).toArray = ls at hl ⊢
  have hl : lv_has ls 23 [(0, .ref b)] := hl
  refine va_new (D := E.1) (ci := 0) (fs := [.int (nI 0), .int (nI 0), .int 0, .int 0, .long 0, .null, .null, .null, .null, .null, .null, .null, .null, .null, .null, .null, .null, .null]) (C := RX0) (T := TX0) (N := 18) hx hb hts inlX0 tyX0 tyX0_ok hown (hts (.classLink RL 29 RX0) (by decide +kernel)) (hts (.instantiable RX0 18) (by decide +kernel)) (hts (.initialized RX0) (by decide +kernel)) hK hP hD hS LA_sz rfl (fun j hj => by rcases (show j = 0 ∨ j = 1 ∨ j = 2 ∨ j = 3 ∨ j = 4 ∨ j = 5 ∨ j = 6 ∨ j = 7 ∨ j = 8 ∨ j = 9 ∨ j = 10 ∨ j = 11 ∨ j = 12 ∨ j = 13 ∨ j = 14 ∨ j = 15 ∨ j = 16 ∨ j = 17 by omega) with rfl | rfl | rfl | rfl | rfl | rfl | rfl | rfl | rfl | rfl | rfl | rfl | rfl | rfl | rfl | rfl | rfl | rfl <;> rfl) (Nat.le_of_ble_eq_true rfl) (Nat.le_of_ble_eq_true rfl) dL_law_0 (fun h0 H hP hD hS => ?_)
  have hP : gP E [(h0, .inr (0, [.int (nI 0), .int (nI 0), .int 0, .int 0, .long 0, .null, .null, .null, .null, .null, .null, .null, .null, .null, .null, .null, .null, .null]))] H := hP
  have hD : va_D (LA s) [(h0, .inr (0, [.int (nI 0), .int (nI 0), .int 0, .int 0, .long 0, .null, .null, .null, .null, .null, .null, .null, .null, .null, .null, .null, .null, .null]))] := hD
  refine lv_dup hx hb dL_law_3 rfl ?_
  have hF := va_A_in hD hS LA_sz
  refine va_callv (va_runI (As := []) (rest := [.ref h0]) S (c_init0 l E h0 H.size) (cwI 0 hts gL_law_X0_init rfl rfl rfl (hts (.initialized RX0) (by decide +kernel)) (hts (.methodLink RL 89 yX0_init) (by decide +kernel)) (hts (.instanceMethod yX0_init) (by decide +kernel)) rfl (by decide +kernel) ⟨Nat.le_of_ble_eq_true rfl, Nat.le_of_ble_eq_true rfl⟩) (gBw_preS hP hK hD _) rfl rfl hl.1 rfl (lv_room (Nat.le_of_ble_eq_true rfl)) dL_law_4 ⟨Nat.le_of_ble_eq_true rfl, Nat.le_of_ble_eq_true rfl⟩) hS (fun q _ h => hF q h) hF (fun a t H1 locs ht _ ha hB _ _ hS => ?_)
  subst ha
  have hP : gP E (gW E a gS0) H1 := by rw [← ht]; exact hB.1
  have hD : va_D (LA s) (gW E a gS0) := hB.2.weaken (fun _ _ _ h => hF _ h)
  refine lv_astore_n (lv' := [(1, .ref (a 0)), (0, .ref b)]) hx hb dL_law_7 rfl hl (by decide) rfl (fun ls hl => ?_)
  refine lv_aload_n hx hb dL_law_8 rfl (lv_at hl 0 rfl) ?_
  refine lv_aload_n hx hb dL_law_9 rfl (lv_at hl 1 rfl) ?_
  have hF := va_A_in hD hS LA_sz
  have hbs : b < H1.size := Nat.lt_of_lt_of_le hbl hS.1
  have hnA : ¬ va_A (gW E a gS0) H1.size b := fun z => by
    have z2 : s.heap.size ≤ b := hF b z
    omega
  have hX1 : va_X b L xs s H1 := hX.kept (hS.2.1 b hbl (Nat.not_le.mpr hbl))
  have hZ1 : gZA (va_A (gW E a gS0) H1.size) s H1 := (hZ.kept hS.2.1).narrow hF
  refine va_callr (va_runS (As := [.ref (a 0), .ref b]) (rest := []) S (c_build l hfl E a b L xs hL H1.size) (va_cwS 2 hts gL_law_L_build rfl rfl rfl hdL_build ⟨Nat.le_of_ble_eq_true rfl, Nat.le_of_ble_eq_true rfl⟩) ⟨gBU_blind, fun U hU hW => ⟨rfl, by rw [hU], by rw [hU]; exact hP, hD.weaken (fun _ _ _ _ => trivial), by rw [hU]; exact va_X.moved hW.alike hX1, hnA, va_K.moved hW.alike hK, gQ.moved hW.alike hQ, by rw [hU]; exact gZA.warm hW hZ1, va_Nw.warmM hW hN⟩⟩ rfl rfl hl.1 rfl (lv_room (Nat.le_of_ble_eq_true rfl)) dL_law_10 ⟨Nat.le_of_ble_eq_true rfl, Nat.le_of_ble_eq_true rfl⟩) hS (fun q _ h => hF q h) hF (fun z ra t H locs ht _ hp hB _ _ hS => ?_)
  obtain ⟨h, q, h1n⟩ := hp
  obtain ⟨rfl, hG⟩ := hB
  rw [ht] at hG
  have hG := hG.weak hF
  refine lv_astore_n (lv' := [(2, .ref (z.2.2 0)), (1, .ref (a 0)), (0, .ref b)]) hx hb dL_law_13 rfl hl (by decide) rfl (fun ls hl => ?_)
  refine lv_aload_n hx hb dL_law_14 rfl (lv_at hl 0 rfl) ?_
  refine lv_ifnonnull (tgt := 20) hx hb dL_law_15 (by decide) ?_
  refine lv_iconst (v := nI 0) hx hb dL_law_20 (by decide) ?_
  refine lv_istore_n (lv' := [(3, .int (nI 0)), (2, .ref (z.2.2 0)), (1, .ref (a 0)), (0, .ref b)]) hx hb dL_law_21 rfl hl (by decide) rfl (fun ls hl => ?_)
  exact lp_22 hC 8 0 z.1 z.2.1 z.2.2 H _ _ _ ls (by omega) h q h1n hG hS (Nat.le_of_ble_eq_true rfl) (Nat.le_of_ble_eq_true rfl) hl
