set_option maxHeartbeats 4000000 in
set_option maxRecDepth 100000 in
theorem c_at (l : Launch) (E : GE) (q n : Nat) (f : Nat → Int32) (i v : Int32) (hi : vp_in i n) (hn : n < 2 ^ 31) (hv : f i.toNatClampNeg = v) : Met l yX0_at wsX0_at { frames := 0, cells := 0, slots := 0, locals := 0 } (va_Pc [.ref q, .int i] (gB E [(q, gI E n f)])) (vp_Si (fun r => r = v)) 0 0 (fun _ => False) := by
  refine w_met (cc := cX0_at) (maxL := 2) (ret := some .int) (by decide) rfl (Nat.le_of_ble_eq_true rfl) ?_
  intro p e s m below meth c ls S hr hlocks hname hB hl
  obtain ⟨hP, hK⟩ := hB
  obtain ⟨hx, hb, hml, hown, hts⟩ := id S
  have hl : lv_has ls 2 [(0, .ref q), (1, .int i)] := hl
  obtain ⟨k, hk, rfl⟩ := vp_in_of hi hn
  refine lv_iload_n hx hb dX0_at_0 rfl (lv_at hl 1 rfl) ?_
  refine lv_if_lt (tgt := 16) hx hb dX0_at_1 (by decide) (fun h => absurd h (nI_pos (by omega))) (fun _ => ?_)
  refine lv_iload_n hx hb dX0_at_4 rfl (lv_at hl 1 rfl) ?_
  refine lv_aload_n hx hb dX0_at_5 rfl (lv_at hl 0 rfl) ?_
  refine va_alen hx hb hK hP 0 0 rfl rfl (v := nI n) rfl dX0_at_6 ?_
  refine lv_icmp_ge (tgt := 16) hx hb dX0_at_7 (by decide) (fun h => absurd h (nI_ge hk hn)) (fun _ => ?_)
  refine lv_aload_n hx hb dX0_at_10 rfl (lv_at hl 0 rfl) ?_
  refine lv_iload_n hx hb dX0_at_11 rfl (lv_at hl 1 rfl) ?_
  refine va_iald hx hb hK hP 0 0 rfl rfl hi dX0_at_12 ?_
  refine lv_goto (tgt := 17) hx hb dX0_at_13 (by decide) ?_
  exact W.iret hx hb hr (fun t ht hW => ⟨_, rfl, hv, ht⟩) (fun _ h => nomatch h) dX0_at_17
def gbit (k : Nat) : Int64 := lN (2 ^ k)
def gEx (eb : Int64) (k : Nat) : Bool := !decide (eb &&& gbit k = 0)
set_option maxHeartbeats 4000000 in
set_option maxRecDepth 100000 in
theorem c_bitOf (l : Launch) (E : GE) (k : Nat) (hk : k < 64) : Met l yX0_bitOf wsX0_bitOf { frames := 0, cells := 0, slots := 0, locals := 0 } (va_Pc [.int (nI k)] (gB E [])) (vp_Sl (fun r => r = gbit k)) 0 0 (fun _ => False) := by
  refine w_met (cc := cX0_bitOf) (maxL := 1) (ret := some .long) (by decide) rfl (Nat.le_of_ble_eq_true rfl) ?_
  intro p e s m below meth c ls S hr hlocks hname hB hl
  obtain ⟨hx, hb, hml, hown, hts⟩ := id S
  have hl : lv_has ls 1 [(0, .int (nI k))] := hl
  refine lv_lconst (v := 1) hx hb dX0_bitOf_0 (by decide) ?_
  refine lv_iload_n hx hb dX0_bitOf_1 rfl (lv_at hl 0 rfl) ?_
  refine lv_lshl (v := gbit k) hx hb dX0_bitOf_2 ((wb_shl 1 hk).trans (by rw [Nat.one_mul]; rfl)) ?_
  exact W.lret hx hb hr (fun t ht hW => ⟨_, rfl, rfl, ht⟩) (fun _ h => nomatch h) dX0_bitOf_3
theorem hinX0_holdsExam : ∀ w ∈ wsX00, w ∈ wsX0_holdsExam := fun w h => List.mem_cons_of_mem _ (List.mem_append_right _ h)
set_option maxHeartbeats 4000000 in
set_option maxRecDepth 100000 in
theorem c_holdsExam (l : Launch) (E : GE) (a : Nat → Nat) (σ : GS) (k : Nat) (hk : k < 64) : Met l yX0_holdsExam wsX0_holdsExam { frames := 1, cells := 0, slots := 0, locals := 20 } (va_Pc [.ref (a 0), .int (nI k)] (gB E (gW E a σ))) (vp_Si (fun r => r = b2i (gEx (ge σ) k))) 0 0 (fun _ => False) := by
  refine w_met (cc := cX0_holdsExam) (maxL := 2) (ret := some .boolean) (by decide) rfl (Nat.le_of_ble_eq_true rfl) ?_
  intro p e s m below meth c ls S hr hlocks hname hB hl
  obtain ⟨hP, hK⟩ := hB
  obtain ⟨hx, hb, hml, hown, hts⟩ := id S
  have hl : lv_has ls 2 [(0, .ref (a 0)), (1, .int (nI k))] := hl
  refine lv_aload_n hx hb dX0_holdsExam_0 rfl (lv_at hl 0 rfl) ?_
  refine va_get (D := E.1) (ci := 0) (v := .long (ge σ)) (C := RX0) (T := TX0) (N := 18) hx hb hts hinX0_holdsExam hown hK hP 0 rfl rfl 4 (by decide) (hts (.fieldLink RX0 64 "ExamGarden" "examBits" "J") (by decide +kernel)) (fun _ h9 => h9) rfl dX0_holdsExam_1 ?_
  refine lv_iload_n hx hb dX0_holdsExam_4 rfl (lv_at hl 1 rfl) ?_
  refine g_sl (As := [.int (nI k)]) (rest := [.long (ge σ)]) S (c_bitOf l E k hk) (va_cwS 1 hts gX0_holdsExam_X0_bitOf rfl rfl rfl (by decide +kernel) ⟨Nat.le_of_ble_eq_true rfl, Nat.le_of_ble_eq_true rfl⟩) hK (hP.sub [] rfl) rfl hl.1 rfl (Nat.le_of_ble_eq_true rfl) ⟨Nat.zero_le _, Nat.zero_le _⟩ dX0_holdsExam_5 ?_
  refine lv_land hx hb dX0_holdsExam_8 ?_
  refine lv_lconst (v := 0) hx hb dX0_holdsExam_9 (by decide) ?_
  refine W.lcmp hx hb dX0_holdsExam_10 ?_
  refine lv_if_eq (tgt := 18) hx hb dX0_holdsExam_11 (by decide) (fun c1 => ?_) (fun c1 => ?_)
  · refine lv_iconst (v := 0) hx hb dX0_holdsExam_18 (by decide) ?_
    exact W.zret hx hb hr rfl (fun t ht hW => ⟨_, rfl, by rw [gEx, decide_eq_true ((lg_cmp_eq _ _).mp c1)]; rfl, ht⟩) (fun _ h => nomatch h) dX0_holdsExam_19
  · refine lv_iconst (v := 1) hx hb dX0_holdsExam_14 (by decide) ?_
    refine lv_goto (tgt := 19) hx hb dX0_holdsExam_15 (by decide) ?_
    exact W.zret hx hb hr rfl (fun t ht hW => ⟨_, rfl, by rw [gEx, decide_eq_false (fun h => c1 ((lg_cmp_eq _ _).mpr h))]; rfl, ht⟩) (fun _ h => nomatch h) dX0_holdsExam_19
