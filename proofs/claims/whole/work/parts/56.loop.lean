section LLOOP
variable {p : Program} {l : Launch} {e : Env} {s : State} {m : MethodId} {below : List Frame} {meth : Method} {c : Code} {b L : Nat} {xs : Nat → Int32} {E : GE} {a b2 : Nat → Nat} {q9 : Nat}
set_option maxHeartbeats 4000000 in
set_option maxRecDepth 100000 in
/-- from the switch on: any of the 64 numbers -/
theorem law_switch (hC : LC p l s m c b L xs E) {H : Heap} {locs : List Loc} {cells slots : Nat} {Q : State → Prop} {σ : GS} {τ : MS} {f : Nat → Int64} {i j : Nat} {ls : Array Slot} (hj : j < 64) (h : RR σ τ) (hi : i + 4 ≤ L) (hc : cells + 42 ≤ 601024) (hs : slots + 214 ≤ 7293034) (hI : LI s E a b2 q9 σ τ f H locs) (hl : lv_has ls 9 [(0, .ref b), (1, .ref (a 0)), (2, .ref (b2 0)), (3, .ref q9), (4, .int (nI i))]) (nx : NX p l e s m below meth c cells slots Q b E a b2 q9 i) : W p l e room_1 s m #[Value.ref b] below meth c H locs cells slots Q (F0 m 39 ls [.int (nI j)]) := by
  obtain ⟨hx, hb, hml, hown, hts⟩ := hC.1
  by_cases h35 : 35 ≤ j
  · refine lv_tableOut (tgt := 1950) hx hb dL_law_39 (Or.inr (by rw [nI_toInt (by omega)]; omega)) (by decide) ?_
    exact nx σ τ f H locs cells slots ls h hI hl (by omega) (by omega)
  rcases (show j = 0 ∨ j = 1 ∨ j = 2 ∨ j = 3 ∨ j = 4 ∨ j = 5 ∨ j = 6 ∨ j = 7 ∨ j = 8 ∨ j = 9 ∨ j = 10 ∨ j = 11 ∨ j = 12 ∨ j = 13 ∨ j = 14 ∨ j = 15 ∨ j = 16 ∨ j = 17 ∨ j = 18 ∨ j = 19 ∨ j = 20 ∨ j = 21 ∨ j = 22 ∨ j = 23 ∨ j = 24 ∨ j = 25 ∨ j = 26 ∨ j = 27 ∨ j = 28 ∨ j = 29 ∨ j = 30 ∨ j = 31 ∨ j = 32 ∨ j = 33 ∨ j = 34 by omega) with rfl | rfl | rfl | rfl | rfl | rfl | rfl | rfl | rfl | rfl | rfl | rfl | rfl | rfl | rfl | rfl | rfl | rfl | rfl | rfl | rfl | rfl | rfl | rfl | rfl | rfl | rfl | rfl | rfl | rfl | rfl | rfl | rfl | rfl | rfl
  · refine lv_tableIn (tgt := 192) (off := 153) hx hb dL_law_39 (by decide) (by decide) (by decide) (by decide) ?_
    exact case_addExam hC h hi hc hs hI hl nx
  · refine lv_tableIn (tgt := 260) (off := 221) hx hb dL_law_39 (by decide) (by decide) (by decide) (by decide) ?_
    exact case_addFork hC h hi hc hs hI hl nx
  · refine lv_tableIn (tgt := 340) (off := 301) hx hb dL_law_39 (by decide) (by decide) (by decide) (by decide) ?_
    exact case_grade hC h hi hc hs hI hl nx
  · refine lv_tableIn (tgt := 408) (off := 369) hx hb dL_law_39 (by decide) (by decide) (by decide) (by decide) ?_
    exact case_weigh hC h hi hc hs hI hl nx
  · refine lv_tableIn (tgt := 476) (off := 437) hx hb dL_law_39 (by decide) (by decide) (by decide) (by decide) ?_
    exact case_enroll hC h hi hc hs hI hl nx
  · refine lv_tableIn (tgt := 532) (off := 493) hx hb dL_law_39 (by decide) (by decide) (by decide) (by decide) ?_
    exact case_turn hC h hi hc hs hI hl nx
  · refine lv_tableIn (tgt := 616) (off := 577) hx hb dL_law_39 (by decide) (by decide) (by decide) (by decide) ?_
    exact case_goBack hC h hi hc hs hI hl nx
  · refine lv_tableIn (tgt := 672) (off := 633) hx hb dL_law_39 (by decide) (by decide) (by decide) (by decide) ?_
    exact case_follow hC h hi hc hs hI hl nx
  · refine lv_tableIn (tgt := 728) (off := 689) hx hb dL_law_39 (by decide) (by decide) (by decide) (by decide) ?_
    exact case_places hC h hi hc hs hI hl nx
  · refine lv_tableIn (tgt := 741) (off := 702) hx hb dL_law_39 (by decide) (by decide) (by decide) (by decide) ?_
    exact case_exams hC h hi hc hs hI hl nx
  · refine lv_tableIn (tgt := 754) (off := 715) hx hb dL_law_39 (by decide) (by decide) (by decide) (by decide) ?_
    exact case_graded hC h hi hc hs hI hl nx
  · refine lv_tableIn (tgt := 767) (off := 728) hx hb dL_law_39 (by decide) (by decide) (by decide) (by decide) ?_
    exact case_students hC h hi hc hs hI hl nx
  · refine lv_tableIn (tgt := 780) (off := 741) hx hb dL_law_39 (by decide) (by decide) (by decide) (by decide) ?_
    exact case_atExams hC h hi hc hs hI hl nx
  · refine lv_tableIn (tgt := 793) (off := 754) hx hb dL_law_39 (by decide) (by decide) (by decide) (by decide) ?_
    exact case_isExam hC h hi hc hs hI hl nx
  · refine lv_tableIn (tgt := 856) (off := 817) hx hb dL_law_39 (by decide) (by decide) (by decide) (by decide) ?_
    exact case_isGraded hC h hi hc hs hI hl nx
  · refine lv_tableIn (tgt := 919) (off := 880) hx hb dL_law_39 (by decide) (by decide) (by decide) (by decide) ?_
    exact case_gradeOf hC h hi hc hs hI hl nx
  · refine lv_tableIn (tgt := 975) (off := 936) hx hb dL_law_39 (by decide) (by decide) (by decide) (by decide) ?_
    exact case_leftOf hC h hi hc hs hI hl nx
  · refine lv_tableIn (tgt := 1031) (off := 992) hx hb dL_law_39 (by decide) (by decide) (by decide) (by decide) ?_
    exact case_rightOf hC h hi hc hs hI hl nx
  · refine lv_tableIn (tgt := 1087) (off := 1048) hx hb dL_law_39 (by decide) (by decide) (by decide) (by decide) ?_
    exact case_weightOf hC h hi hc hs hI hl nx
  · refine lv_tableIn (tgt := 1143) (off := 1104) hx hb dL_law_39 (by decide) (by decide) (by decide) (by decide) ?_
    exact case_placeOf hC h hi hc hs hI hl nx
  · refine lv_tableIn (tgt := 1199) (off := 1160) hx hb dL_law_39 (by decide) (by decide) (by decide) (by decide) ?_
    exact case_passedBy hC h hi hc hs hI hl nx
  · refine lv_tableIn (tgt := 1255) (off := 1216) hx hb dL_law_39 (by decide) (by decide) (by decide) (by decide) ?_
    exact case_sureGrade hC h hi hc hs hI hl nx
  · refine lv_tableIn (tgt := 1311) (off := 1272) hx hb dL_law_39 (by decide) (by decide) (by decide) (by decide) ?_
    exact case_hope hC h hi hc hs hI hl nx
  · refine lv_tableIn (tgt := 1367) (off := 1328) hx hb dL_law_39 (by decide) (by decide) (by decide) (by decide) ?_
    exact case_reaches hC h hi hc hs hI hl nx
  · refine lv_tableIn (tgt := 1442) (off := 1403) hx hb dL_law_39 (by decide) (by decide) (by decide) (by decide) ?_
    exact case_examsFrom hC h hi hc hs hI hl nx
  · refine lv_tableIn (tgt := 1498) (off := 1459) hx hb dL_law_39 (by decide) (by decide) (by decide) (by decide) ?_
    exact case_risk hC h hi hc hs hI hl nx
  · refine lv_tableIn (tgt := 1582) (off := 1543) hx hb dL_law_39 (by decide) (by decide) (by decide) (by decide) ?_
    exact case_planTurnsRight hC h hi hc hs hI hl nx
  · refine lv_tableIn (tgt := 1645) (off := 1606) hx hb dL_law_39 (by decide) (by decide) (by decide) (by decide) ?_
    exact case_planLeadsTo hC h hi hc hs hI hl nx
  · refine lv_tableIn (tgt := 1701) (off := 1662) hx hb dL_law_39 (by decide) (by decide) (by decide) (by decide) ?_
    exact case_riskiestFork hC h hi hc hs hI hl nx
  · refine lv_tableIn (tgt := 1714) (off := 1675) hx hb dL_law_39 (by decide) (by decide) (by decide) (by decide) ?_
    exact case_hindsight hC h hi hc hs hI hl nx
  · refine lv_tableIn (tgt := 1770) (off := 1731) hx hb dL_law_39 (by decide) (by decide) (by decide) (by decide) ?_
    exact case_regretOf hC h hi hc hs hI hl nx
  · refine lv_tableIn (tgt := 1826) (off := 1787) hx hb dL_law_39 (by decide) (by decide) (by decide) (by decide) ?_
    exact case_worstFork hC h hi hc hs hI hl nx
  · refine lv_tableIn (tgt := 1882) (off := 1843) hx hb dL_law_39 (by decide) (by decide) (by decide) (by decide) ?_
    exact case_allRegret hC h hi hc hs hI hl nx
  · refine lv_tableIn (tgt := 1895) (off := 1856) hx hb dL_law_39 (by decide) (by decide) (by decide) (by decide) ?_
    exact case_meanGrade hC h hi hc hs hI hl nx
  · refine lv_tableIn (tgt := 1936) (off := 1897) hx hb dL_law_39 (by decide) (by decide) (by decide) (by decide) ?_
    exact case_digest hC h hi hc hs hI hl nx
set_option maxHeartbeats 4000000 in
set_option maxRecDepth 100000 in
theorem law_loop (hC : LC p l s m c b L xs E) (hr : meth.sig.returnType = ret) (hlk : meth.locks = false) : ∀ (n i : Nat) (σ : GS) (τ : MS) (f : Nat → Int64) (H : Heap) (locs : List Loc) (cells slots : Nat) (ls : Array Slot), L < i + 4 * n + 4 → i ≤ 3000 → RR σ τ → cells + 42 * n ≤ 601024 → slots + 214 * n ≤ 7293034 → LI s E a b2 q9 σ τ f H locs → lv_has ls 9 [(0, .ref b), (1, .ref (a 0)), (2, .ref (b2 0)), (3, .ref q9), (4, .int (nI i))] → W p l e room_1 s m #[Value.ref b] below meth c H locs cells slots (lw_Z below #[Value.ref b] s) (F0 m 23 ls []) := by
  obtain ⟨S, hK, hZ, hN, hX, hbl, hL, hfl⟩ := id hC
  obtain ⟨hx, hb, hml, hown, hts⟩ := id S
  have e1 : (Int32.ofNat L - 4 : Int32).toInt = (L : Int) - 4 := by have q := pk_sub_toInt (a := L) (b := 4) (by omega) (by decide); exact q
  intro n
  induction n with
  | zero =>
    intro i σ τ f H locs cells slots ls hn hi h hc hs hI hl
    refine lv_iload hx hb dL_law_23 (lv_at hl 4 rfl) ?_
    refine lv_aload_n hx hb dL_law_25 rfl (lv_at hl 0 rfl) ?_
    refine va_slen hx hb hX hbl (Nat.not_le.mpr hbl) hI.2.2.2 dL_law_26 ?_
    refine lv_iconst (v := 4) hx hb dL_law_27 (by decide) ?_
    refine lv_isub hx hb dL_law_28 ?_
    refine lv_icmp_gt (tgt := 1956) hx hb dL_law_29 (by decide) (fun _ => ?_) (fun q => absurd (Int32.lt_iff_toInt_lt.mpr (by rw [e1, nI_toInt (by omega)]; omega)) q)
    refine lv_iconst (v := 1) hx hb dL_law_1956 (by decide) ?_
    refine va_forget (fun q hq => hI.2.2.2.2.2 q hq) ?_
    refine W.widen (k := 601024) (n := 7293034) (by omega) (by omega) ?_
    exact lw_ret (Drawn.sameBut.refl s.drawn lw_cs) hx hb hr hlk dL_law_1957
  | succ n ih =>
    intro i σ τ f H locs cells slots ls hn hi h hc hs hI hl
    refine lv_iload hx hb dL_law_23 (lv_at hl 4 rfl) ?_
    refine lv_aload_n hx hb dL_law_25 rfl (lv_at hl 0 rfl) ?_
    refine va_slen hx hb hX hbl (Nat.not_le.mpr hbl) hI.2.2.2 dL_law_26 ?_
    refine lv_iconst (v := 4) hx hb dL_law_27 (by decide) ?_
    refine lv_isub hx hb dL_law_28 ?_
    by_cases g4 : i + 4 ≤ L
    · refine lv_icmp_gt (tgt := 1956) hx hb dL_law_29 (by decide) (fun q => absurd (Int32.lt_iff_toInt_lt.mp q) (by rw [e1, nI_toInt (by omega)]; omega)) (fun _ => ?_)
      refine lv_aload_n hx hb dL_law_32 rfl (lv_at hl 0 rfl) ?_
      refine lv_iload hx hb dL_law_33 (lv_at hl 4 rfl) ?_
      refine va_sld hx hb hX hbl (Nat.not_le.mpr hbl) hI.2.2.2 (i := nI i) (vp_in_nI (by omega) (by omega)) dL_law_35 ?_
      refine lv_bipush (v := nI 63) hx hb dL_law_36 (by decide) ?_
      refine lv_iand hx hb dL_law_38 ?_
      obtain ⟨j, hj, ej⟩ := pk_andE (xs (nI i).toNatClampNeg) (m := nI 63) 6 (by decide)
      rw [ej]
      refine law_switch hC (by omega) h g4 (by omega) (by omega) hI hl ?_
      intro σ' τ' f' H' locs' cells' slots' ls' h' hI' hl' hc' hs'
      refine lv_iinc (v := nI (i + 4)) (lv' := [(4, .int (nI (i + 4))), (0, .ref b), (1, .ref (a 0)), (2, .ref (b2 0)), (3, .ref q9)]) hx hb dL_law_1950 hl' (k := 4) rfl (nI_add i 4) (by decide) rfl (fun ls hl => ?_)
      refine lv_goto (tgt := 23) hx hb dL_law_1953 (by decide) ?_
      exact ih (i + 4) σ' τ' f' H' locs' cells' slots' ls (by omega) (by omega) h' (by omega) (by omega) hI' (lv_sub hl [1, 2, 3, 4, 0] rfl)
    · refine lv_icmp_gt (tgt := 1956) hx hb dL_law_29 (by decide) (fun _ => ?_) (fun q => absurd (Int32.lt_iff_toInt_lt.mpr (by rw [e1, nI_toInt (by omega)]; omega)) q)
      refine lv_iconst (v := 1) hx hb dL_law_1956 (by decide) ?_
      refine va_forget (fun q hq => hI.2.2.2.2.2 q hq) ?_
      refine W.widen (k := 601024) (n := 7293034) (by omega) (by omega) ?_
      exact lw_ret (Drawn.sameBut.refl s.drawn lw_cs) hx hb hr hlk dL_law_1957
end LLOOP
