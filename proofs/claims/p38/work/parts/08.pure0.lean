
/-! ExamGarden's methods that change nothing, told of the state -/
def gTo (σ : GS) (k : Nat) (b : Bool) : Nat := if b then grt σ k else glf σ k
/-- the risk of a path at fork k -/
def gRisk (σ : GS) (k : Nat) (b : Bool) : Int32 := imx 0 (gho σ (gTo σ k (!b)) - gsu σ (gTo σ k b)) * gwt σ k
def gPl (σ : GS) (k : Nat) : Bool := decide (gRisk σ k true < gRisk σ k false)
def gSm (σ : GS) (k : Nat) : Int32 := imn (gRisk σ k false) (gRisk σ k true)
def gHas (σ : GS) (k : Nat) : Bool := !decide (ggr σ k = -1)
/-- what student s regrets of the fork passed as the j-th -/
def gReg (σ : GS) (s j : Nat) : Int32 := imx 0 (ghs σ (gpf σ (s * 40 + j)) - ggr σ (gst σ s)) * gwt σ (gpf σ (s * 40 + j))
def sumI (f : Nat → Int32) : Nat → Int32
  | 0 => 0
  | n + 1 => sumI f n + f n
/-- the first of the greatest, and how great it is -/
def amx (w f : Nat → Int32) (z : Int32 × Int32) : Nat → Int32 × Int32
  | 0 => z
  | n + 1 => if (amx w f z n).2 < f n then (w n, f n) else amx w f z n
theorem amx_ge (w f : Nat → Int32) : ∀ n, (-1 : Int32) ≤ (amx w f (-1, -1) n).2
  | 0 => by show (-1 : Int32) ≤ -1; decide
  | n + 1 => by
    have ih := amx_ge w f n
    rw [amx]
    split
    · rename_i h
      exact Int32.le_of_lt (Int32.lt_of_le_of_lt ih h)
    · exact ih
def gRegs (σ : GS) (s : Nat) : Int32 := sumI (gReg σ s) (gpc σ s)
def gLd (σ : GS) : Nat → Nat → Nat
  | 0, p => p
  | f + 1, p => if gEx (ge σ) p then p else gLd σ f (gTo σ p (gPl σ p))
def gAtE (σ : GS) : Int32 := sumI (fun s => b2i (gEx (ge σ) (gst σ s))) (gk σ)
def gAll (σ : GS) : Int32 := sumI (fun s => if gHas σ (gst σ s) then gRegs σ s else 0) (gk σ)
def gRf (σ : GS) : Int32 × Int32 := amx nI (fun p => if gEx (ge σ) p then -1 else gSm σ p) (-1, -1) (gn σ)
def gWf (σ : GS) (s : Nat) : Int32 × Int32 := amx (fun j => nI (gpf σ (s * 40 + j))) (gReg σ s) (-1, 0) (gpc σ s)
def hsh (d : Int64) (x : Int32) : Int64 := d * 31 + x.toInt64
def gEf (σ : GS) (p : Nat) : Int32 := popc (grb σ p &&& ge σ)
def gPd0 (σ : GS) (d : Int64) (p : Nat) : Int64 := hsh (hsh (hsh (hsh (hsh d (b2i (gEx (ge σ) p))) (gsu σ p)) (gho σ p)) (gEf σ p)) (nI (gLd σ 40 p))
def gPd (σ : GS) (d : Int64) (p : Nat) : Int64 := if gEx (ge σ) p then hsh (gPd0 σ d p) (ggr σ p) else hsh (hsh (hsh (hsh (gPd0 σ d p) (nI (glf σ p))) (nI (grt σ p))) (gwt σ p)) (ghs σ p)
def gDp (σ : GS) (d : Int64) : Nat → Int64
  | 0 => d
  | n + 1 => gPd σ (gDp σ d n) n
def gDs (σ : GS) (d : Int64) : Nat → Int64
  | 0 => d
  | n + 1 => hsh (hsh (gDs σ d n) (nI (gst σ n))) (nI (gpc σ n))
def gD0 (σ : GS) : Int64 := hsh (hsh (hsh (hsh (hsh (hsh (hsh 1039 (nI (gn σ))) (popc (ge σ))) (gc σ)) (nI (gk σ))) (gAtE σ)) (gRf σ).1) (gAll σ)
def gDig (σ : GS) : Int64 := gDs σ (gDp σ (gD0 σ) (gn σ)) (gk σ)
/-- what always holds of the rows -/
def GOK (σ : GS) : Prop := gn σ ≤ 40 ∧ gk σ ≤ 8 ∧ (∀ j, glf σ j < 40) ∧ (∀ j, grt σ j < 40) ∧ (∀ j, gst σ j < 40) ∧ (∀ j, gpf σ j < 40) ∧ (∀ j, gst σ j + gpc σ j ≤ 39) ∧ (∀ p, p < gn σ → gEx (ge σ) p = false → glf σ p < p ∧ grt σ p < p) ∧ (∀ s, s < gk σ → gst σ s < gn σ)
theorem gTo_lt {σ : GS} (h : GOK σ) (k : Nat) (b : Bool) : gTo σ k b < 40 := by
  unfold gTo
  split
  · exact h.2.2.2.1 k
  · exact h.2.2.1 k
section GMX
variable {p : Program} {l : Launch} {e : Env} {R : Room} {s : State} {m : MethodId} {args : Array Value} {below : List Frame} {meth : Method} {c : Code} {H : Heap} {locs : List Loc} {cells slots : Nat} {Q : State → Prop}
variable {cc : ByteArray} {pc index : Nat} {ls : Array Slot} {rest : List Value} {own : String}
theorem g_max (hx : p.tables.exec = Jvm.exec) (hb : c.code = cc) (hml : c.maxLocals = ls.size) (hown : s.vm.findClass own = some m.cls) (hlink : (Cond.methodLink own index Lib.Math.max.name).before args s = true) (hstat : (Cond.static Lib.Math.max.name).before args s = true) (hini : (Cond.initialized "java/lang/Math").before args s = true) (hcode : (Cond.code Lib.Math.max.name Lib.Math.max.code 2 (some .int)).before args s = true)
    (hframes : 1 ≤ R.frames) (hlocals : (rest.map fun v => v.category).sum + 13 ≤ R.locals) (hf : cells ≤ R.cells ∧ slots ≤ R.slots) {x y : Int32} (hdg : decode cc pc = .ok (.invokestatic index, 3))
    (kk : W p l e R s m args below meth c H locs cells slots Q (F0 m (pc + 3) ls (.int (imx x y) :: rest))) : W p l e R s m args below meth c H locs cells slots Q (F0 m pc ls (.int y :: .int x :: rest)) :=
  va_mmax hx hb hml hown hlink hstat hini hcode hframes hlocals hf.1 hf.2 hdg kk
theorem g_min (hx : p.tables.exec = Jvm.exec) (hb : c.code = cc) (hml : c.maxLocals = ls.size) (hown : s.vm.findClass own = some m.cls) (hlink : (Cond.methodLink own index Lib.Math.min.name).before args s = true) (hstat : (Cond.static Lib.Math.min.name).before args s = true) (hini : (Cond.initialized "java/lang/Math").before args s = true) (hcode : (Cond.code Lib.Math.min.name Lib.Math.min.code 2 (some .int)).before args s = true)
    (hframes : 1 ≤ R.frames) (hlocals : (rest.map fun v => v.category).sum + 13 ≤ R.locals) (hf : cells ≤ R.cells ∧ slots ≤ R.slots) {x y : Int32} (hdg : decode cc pc = .ok (.invokestatic index, 3))
    (kk : W p l e R s m args below meth c H locs cells slots Q (F0 m (pc + 3) ls (.int (imn x y) :: rest))) : W p l e R s m args below meth c H locs cells slots Q (F0 m pc ls (.int y :: .int x :: rest)) :=
  va_mmin hx hb hml hown hlink hstat hini hcode hframes hlocals hf.1 hf.2 hdg kk
end GMX
theorem hinX0_holdsExam : ∀ w ∈ wsX00, w ∈ wsX0_holdsExam := fun w h => List.mem_cons_of_mem _ (List.mem_append_right _ h)
theorem hdX0_holdsExam : yX0_holdsExam.cls = RX0 ∧ yX0_holdsExam.cls ≠ "java/lang/invoke/MethodHandle" ∧ yX0_holdsExam.cls ≠ "java/lang/invoke/VarHandle" ∧ (parseMethodDescriptor yX0_holdsExam.desc).map (fun d => d.parameters.length) = some 1 := by decide +kernel
set_option maxHeartbeats 4000000 in
set_option maxRecDepth 100000 in
theorem c_holdsExam (l : Launch) (E : GE) (a : Nat → Nat) (σ : GS) (k : Nat) (hk : k < 64) : Met l yX0_holdsExam wsX0_holdsExam { frames := 1, cells := 0, slots := 0, locals := 20 } (va_Pc [.ref (a 0), .int (nI k)] (gB E (gW E a σ))) (vp_Si (fun r => r = b2i (gEx (ge σ) k))) 0 0 (fun _ => False) := by
  refine w_met (cc := cX0_holdsExam) (maxL := 2) (ret := (some .boolean)) (by decide) rfl (Nat.le_of_ble_eq_true rfl) ?_
  intro p e s m below meth c ls S hr hlocks hname hB hl
  obtain ⟨hP, hK⟩ := hB
  obtain ⟨hx, hb, hml, hown, hts⟩ := id S
  have hts0 := hinX0_holdsExam
  have hl : lv_has ls 2 [(0, .ref (a 0)), (1, .int (nI k))] := hl
  refine lv_aload_n hx hb dX0_holdsExam_0 rfl (lv_at hl 0 rfl) ?_
  refine g_get (σ := σ) hx hb hts hts0 hown hK hP 4 (by decide) (by decide +kernel) rfl rfl dX0_holdsExam_1 ?_
  refine lv_iload_n hx hb dX0_holdsExam_4 rfl (lv_at hl 1 rfl) ?_
  refine g_bitOf S gX0_holdsExam_X0_bitOf hK (k := k) (by omega) hl.1 (Nat.le_of_ble_eq_true rfl) ⟨Nat.zero_le _, Nat.zero_le _⟩ ⟨Nat.le_of_ble_eq_true rfl, Nat.le_of_ble_eq_true rfl⟩ dX0_holdsExam_5 ?_
  refine lv_land hx hb dX0_holdsExam_8 ?_
  refine lv_lconst (v := 0) hx hb dX0_holdsExam_9 (by decide) ?_
  refine W.lcmp hx hb dX0_holdsExam_10 ?_
  refine lv_if_eq (tgt := 18) hx hb dX0_holdsExam_11 (by decide) (fun c11 => ?_) (fun c11 => ?_)
  · refine lv_iconst (v := 0) hx hb dX0_holdsExam_18 (by decide) ?_
    exact W.zret hx hb hr rfl (fun t ht hW => ⟨_, rfl, (by first | (rw [gEx, decide_eq_true ((lg_cmp_eq _ _).mp c11)]; rfl) | (rw [gEx, decide_eq_false (fun h => c11 ((lg_cmp_eq _ _).mpr h))]; rfl)), ht⟩) (fun _ h => nomatch h) dX0_holdsExam_19
  · refine lv_iconst (v := 1) hx hb dX0_holdsExam_14 (by decide) ?_
    refine lv_goto (tgt := 19) hx hb dX0_holdsExam_15 (by decide) ?_
    exact W.zret hx hb hr rfl (fun t ht hW => ⟨_, rfl, (by first | (rw [gEx, decide_eq_true ((lg_cmp_eq _ _).mp c11)]; rfl) | (rw [gEx, decide_eq_false (fun h => c11 ((lg_cmp_eq _ _).mpr h))]; rfl)), ht⟩) (fun _ h => nomatch h) dX0_holdsExam_19
theorem hinX0_hasGrade : ∀ w ∈ wsX00, w ∈ wsX0_hasGrade := fun w h => List.mem_cons_of_mem _ (List.mem_append_right _ h)
theorem hdX0_hasGrade : yX0_hasGrade.cls = RX0 ∧ yX0_hasGrade.cls ≠ "java/lang/invoke/MethodHandle" ∧ yX0_hasGrade.cls ≠ "java/lang/invoke/VarHandle" ∧ (parseMethodDescriptor yX0_hasGrade.desc).map (fun d => d.parameters.length) = some 1 := by decide +kernel
set_option maxHeartbeats 4000000 in
set_option maxRecDepth 100000 in
theorem c_hasGrade (l : Launch) (E : GE) (a : Nat → Nat) (σ : GS) (k : Nat) (hk : k < 40) : Met l yX0_hasGrade wsX0_hasGrade { frames := 1, cells := 0, slots := 0, locals := 21 } (va_Pc [.ref (a 0), .int (nI k)] (gB E (gW E a σ))) (vp_Si (fun r => r = b2i (gHas σ k))) 0 0 (fun _ => False) := by
  refine w_met (cc := cX0_hasGrade) (maxL := 2) (ret := (some .boolean)) (by decide) rfl (Nat.le_of_ble_eq_true rfl) ?_
  intro p e s m below meth c ls S hr hlocks hname hB hl
  obtain ⟨hP, hK⟩ := hB
  obtain ⟨hx, hb, hml, hown, hts⟩ := id S
  have hts0 := hinX0_hasGrade
  have hl : lv_has ls 2 [(0, .ref (a 0)), (1, .int (nI k))] := hl
  refine lv_aload_n hx hb dX0_hasGrade_0 rfl (lv_at hl 0 rfl) ?_
  refine g_get (σ := σ) hx hb hts hts0 hown hK hP 10 (by decide) (by decide +kernel) rfl rfl dX0_hasGrade_1 ?_
  refine lv_iload_n hx hb dX0_hasGrade_4 rfl (lv_at hl 1 rfl) ?_
  refine g_at S gX0_hasGrade_X0_at hK hP 6 rfl (by decide) (v := ggr σ k) (vp_in_nI (by omega) (by decide)) (by rw [nI_clamp (by omega)]) hl.1 (Nat.le_of_ble_eq_true rfl) ⟨Nat.zero_le _, Nat.zero_le _⟩ ⟨Nat.le_of_ble_eq_true rfl, Nat.le_of_ble_eq_true rfl⟩ dX0_hasGrade_5 ?_
  refine lv_iconst (v := -1) hx hb dX0_hasGrade_8 (by decide) ?_
  refine lv_icmp_eq (tgt := 16) hx hb dX0_hasGrade_9 (by decide) (fun c9 => ?_) (fun c9 => ?_)
  · refine lv_iconst (v := 0) hx hb dX0_hasGrade_16 (by decide) ?_
    exact W.zret hx hb hr rfl (fun t ht hW => ⟨_, rfl, (by first | (rw [gHas, decide_eq_true c9]; rfl) | (rw [gHas, decide_eq_false c9]; rfl)), ht⟩) (fun _ h => nomatch h) dX0_hasGrade_17
  · refine lv_iconst (v := 1) hx hb dX0_hasGrade_12 (by decide) ?_
    refine lv_goto (tgt := 17) hx hb dX0_hasGrade_13 (by decide) ?_
    exact W.zret hx hb hr rfl (fun t ht hW => ⟨_, rfl, (by first | (rw [gHas, decide_eq_true c9]; rfl) | (rw [gHas, decide_eq_false c9]; rfl)), ht⟩) (fun _ h => nomatch h) dX0_hasGrade_17
theorem hinX0_pathFrom : ∀ w ∈ wsX00, w ∈ wsX0_pathFrom := fun w h => List.mem_cons_of_mem _ (List.mem_append_right _ h)
theorem hdX0_pathFrom : yX0_pathFrom.cls = RX0 ∧ yX0_pathFrom.cls ≠ "java/lang/invoke/MethodHandle" ∧ yX0_pathFrom.cls ≠ "java/lang/invoke/VarHandle" ∧ (parseMethodDescriptor yX0_pathFrom.desc).map (fun d => d.parameters.length) = some 2 := by decide +kernel
set_option maxHeartbeats 4000000 in
set_option maxRecDepth 100000 in
theorem c_pathFrom (l : Launch) (E : GE) (a : Nat → Nat) (σ : GS) (k : Nat) (hk : k < 40) (b : Bool) : Met l yX0_pathFrom wsX0_pathFrom { frames := 1, cells := 0, slots := 0, locals := 21 } (va_Pc [.ref (a 0), .int (nI k), .int (b2i b)] (gB E (gW E a σ))) (vp_Si (fun r => r = nI (gTo σ k b))) 0 0 (fun _ => False) := by
  refine w_met (cc := cX0_pathFrom) (maxL := 3) (ret := (some .int)) (by decide) rfl (Nat.le_of_ble_eq_true rfl) ?_
  intro p e s m below meth c ls S hr hlocks hname hB hl
  obtain ⟨hP, hK⟩ := hB
  obtain ⟨hx, hb, hml, hown, hts⟩ := id S
  have hts0 := hinX0_pathFrom
  have hl : lv_has ls 3 [(0, .ref (a 0)), (1, .int (nI k)), (2, .int (b2i b))] := hl
  refine lv_iload_n hx hb dX0_pathFrom_0 rfl (lv_at hl 2 rfl) ?_
  refine lv_if_eq (tgt := 15) hx hb dX0_pathFrom_1 (by decide) (fun c1 => ?_) (fun c1 => ?_)
  · obtain rfl : b = false := b2i_eq0.mp c1
    refine lv_aload_n hx hb dX0_pathFrom_15 rfl (lv_at hl 0 rfl) ?_
    refine g_get (σ := σ) hx hb hts hts0 hown hK hP 7 (by decide) (by decide +kernel) rfl rfl dX0_pathFrom_16 ?_
    refine lv_iload_n hx hb dX0_pathFrom_19 rfl (lv_at hl 1 rfl) ?_
    refine g_at S gX0_pathFrom_X0_at hK hP 3 rfl (by decide) (v := nI (glf σ k)) (vp_in_nI (by omega) (by decide)) (by rw [nI_clamp (by omega)]) hl.1 (Nat.le_of_ble_eq_true rfl) ⟨Nat.zero_le _, Nat.zero_le _⟩ ⟨Nat.le_of_ble_eq_true rfl, Nat.le_of_ble_eq_true rfl⟩ dX0_pathFrom_20 ?_
    exact W.iret hx hb hr (fun t ht hW => ⟨_, rfl, rfl, ht⟩) (fun _ h => nomatch h) dX0_pathFrom_23
  · obtain rfl : b = true := b2i_ne0.mp c1
    refine lv_aload_n hx hb dX0_pathFrom_4 rfl (lv_at hl 0 rfl) ?_
    refine g_get (σ := σ) hx hb hts hts0 hown hK hP 8 (by decide) (by decide +kernel) rfl rfl dX0_pathFrom_5 ?_
    refine lv_iload_n hx hb dX0_pathFrom_8 rfl (lv_at hl 1 rfl) ?_
    refine g_at S gX0_pathFrom_X0_at hK hP 4 rfl (by decide) (v := nI (grt σ k)) (vp_in_nI (by omega) (by decide)) (by rw [nI_clamp (by omega)]) hl.1 (Nat.le_of_ble_eq_true rfl) ⟨Nat.zero_le _, Nat.zero_le _⟩ ⟨Nat.le_of_ble_eq_true rfl, Nat.le_of_ble_eq_true rfl⟩ dX0_pathFrom_9 ?_
    refine lv_goto (tgt := 23) hx hb dX0_pathFrom_12 (by decide) ?_
    exact W.iret hx hb hr (fun t ht hW => ⟨_, rfl, rfl, ht⟩) (fun _ h => nomatch h) dX0_pathFrom_23
theorem hinX0_riskOfPath : ∀ w ∈ wsX00, w ∈ wsX0_riskOfPath := fun w h => List.mem_cons_of_mem _ (List.mem_append_right _ h)
theorem hdX0_riskOfPath : yX0_riskOfPath.cls = RX0 ∧ yX0_riskOfPath.cls ≠ "java/lang/invoke/MethodHandle" ∧ yX0_riskOfPath.cls ≠ "java/lang/invoke/VarHandle" ∧ (parseMethodDescriptor yX0_riskOfPath.desc).map (fun d => d.parameters.length) = some 2 := by decide +kernel
set_option maxHeartbeats 4000000 in
set_option maxRecDepth 100000 in
theorem c_riskOfPath (l : Launch) (E : GE) (a : Nat → Nat) (σ : GS) (hO : GOK σ) (k : Nat) (hk : k < 40) (b : Bool) : Met l yX0_riskOfPath wsX0_riskOfPath { frames := 2, cells := 0, slots := 0, locals := 43 } (va_Pc [.ref (a 0), .int (nI k), .int (b2i b)] (gB E (gW E a σ))) (vp_Si (fun r => r = gRisk σ k b)) 0 0 (fun _ => False) := by
  refine w_met (cc := cX0_riskOfPath) (maxL := 5) (ret := (some .int)) (by decide) rfl (Nat.le_of_ble_eq_true rfl) ?_
  intro p e s m below meth c ls S hr hlocks hname hB hl
  obtain ⟨hP, hK⟩ := hB
  obtain ⟨hx, hb, hml, hown, hts⟩ := id S
  have t1 := gTo_lt hO k true
  have t2 := gTo_lt hO k false
  have hts0 := hinX0_riskOfPath
  rcases b with _ | _
  · have hl : lv_has ls 5 [(0, .ref (a 0)), (1, .int (nI k)), (2, .int (b2i false))] := hl
    refine lv_aload_n hx hb dX0_riskOfPath_0 rfl (lv_at hl 0 rfl) ?_
    refine g_get (σ := σ) hx hb hts hts0 hown hK hP 11 (by decide) (by decide +kernel) rfl rfl dX0_riskOfPath_1 ?_
    refine lv_aload_n hx hb dX0_riskOfPath_4 rfl (lv_at hl 0 rfl) ?_
    refine lv_iload_n hx hb dX0_riskOfPath_5 rfl (lv_at hl 1 rfl) ?_
    refine lv_iload_n hx hb dX0_riskOfPath_6 rfl (lv_at hl 2 rfl) ?_
    refine g0i (As := [.int (nI k), .int (b2i false)]) (rest := [.ref (a 7)]) S (c_pathFrom l E a σ k (by omega) false) (cwV 2 hts gX0_riskOfPath_X0_pathFrom rfl rfl rfl hdX0_pathFrom ⟨Nat.le_of_ble_eq_true rfl, Nat.le_of_ble_eq_true rfl⟩) hK hP rfl hl.1 rfl (Nat.le_of_ble_eq_true rfl) ⟨Nat.zero_le _, Nat.zero_le _⟩ dX0_riskOfPath_7 ?_
    refine g_at S gX0_riskOfPath_X0_at hK hP 7 rfl (by decide) (v := gsu σ (gTo σ k false)) (vp_in_nI (by omega) (by decide)) (by rw [nI_clamp (by omega)]) hl.1 (Nat.le_of_ble_eq_true rfl) ⟨Nat.zero_le _, Nat.zero_le _⟩ ⟨Nat.le_of_ble_eq_true rfl, Nat.le_of_ble_eq_true rfl⟩ dX0_riskOfPath_10 ?_
    refine lv_istore_n (lv' := [(3, .int (gsu σ (gTo σ k false))), (0, .ref (a 0)), (1, .int (nI k)), (2, .int (b2i false))]) hx hb dX0_riskOfPath_13 rfl hl (by decide) rfl (fun ls hl => ?_)
    refine lv_aload_n hx hb dX0_riskOfPath_14 rfl (lv_at hl 1 rfl) ?_
    refine g_get (σ := σ) hx hb hts hts0 hown hK hP 12 (by decide) (by decide +kernel) rfl rfl dX0_riskOfPath_15 ?_
    refine lv_aload_n hx hb dX0_riskOfPath_18 rfl (lv_at hl 1 rfl) ?_
    refine lv_iload_n hx hb dX0_riskOfPath_19 rfl (lv_at hl 2 rfl) ?_
    refine lv_iload_n hx hb dX0_riskOfPath_20 rfl (lv_at hl 3 rfl) ?_
    refine lv_if_ne (tgt := 28) hx hb dX0_riskOfPath_21 (by decide) (fun q => absurd ((rfl : b2i false = 0)) q) (fun _ => ?_)
    refine lv_iconst (v := 1) hx hb dX0_riskOfPath_24 (by decide) ?_
    refine lv_goto (tgt := 29) hx hb dX0_riskOfPath_25 (by decide) ?_
    refine g0i (As := [.int (nI k), .int (b2i true)]) (rest := [.ref (a 8)]) S (c_pathFrom l E a σ k (by omega) true) (cwV 2 hts gX0_riskOfPath_X0_pathFrom rfl rfl rfl hdX0_pathFrom ⟨Nat.le_of_ble_eq_true rfl, Nat.le_of_ble_eq_true rfl⟩) hK hP rfl hl.1 rfl (Nat.le_of_ble_eq_true rfl) ⟨Nat.zero_le _, Nat.zero_le _⟩ dX0_riskOfPath_29 ?_
    refine g_at S gX0_riskOfPath_X0_at hK hP 8 rfl (by decide) (v := gho σ (gTo σ k true)) (vp_in_nI (by omega) (by decide)) (by rw [nI_clamp (by omega)]) hl.1 (Nat.le_of_ble_eq_true rfl) ⟨Nat.zero_le _, Nat.zero_le _⟩ ⟨Nat.le_of_ble_eq_true rfl, Nat.le_of_ble_eq_true rfl⟩ dX0_riskOfPath_32 ?_
    refine lv_istore (lv' := [(4, .int (gho σ (gTo σ k true))), (3, .int (gsu σ (gTo σ k false))), (0, .ref (a 0)), (1, .int (nI k)), (2, .int (b2i false))]) hx hb dX0_riskOfPath_35 hl (by decide) rfl (fun ls hl => ?_)
    refine lv_iconst (v := 0) hx hb dX0_riskOfPath_37 (by decide) ?_
    refine lv_iload hx hb dX0_riskOfPath_38 (lv_at hl 0 rfl) ?_
    refine lv_iload_n hx hb dX0_riskOfPath_40 rfl (lv_at hl 1 rfl) ?_
    refine lv_isub hx hb dX0_riskOfPath_41 ?_
    refine g_max hx hb (hml.trans hl.1.symm) hown (hts (.methodLink RX0 269 Lib.Math.max.name) (by decide +kernel)) (hts (.static Lib.Math.max.name) (by decide +kernel)) (hts (.initialized "java/lang/Math") (by decide +kernel)) (hts (.code Lib.Math.max.name Lib.Math.max.code 2 (some .int)) (by decide +kernel)) (Nat.le_of_ble_eq_true rfl) (Nat.le_of_ble_eq_true rfl) ⟨Nat.zero_le _, Nat.zero_le _⟩ dX0_riskOfPath_42 ?_
    refine lv_aload_n hx hb dX0_riskOfPath_45 rfl (lv_at hl 2 rfl) ?_
    refine g_get (σ := σ) hx hb hts hts0 hown hK hP 9 (by decide) (by decide +kernel) rfl rfl dX0_riskOfPath_46 ?_
    refine lv_iload_n hx hb dX0_riskOfPath_49 rfl (lv_at hl 3 rfl) ?_
    refine g_at S gX0_riskOfPath_X0_at hK hP 5 rfl (by decide) (v := gwt σ k) (vp_in_nI (by omega) (by decide)) (by rw [nI_clamp (by omega)]) hl.1 (Nat.le_of_ble_eq_true rfl) ⟨Nat.zero_le _, Nat.zero_le _⟩ ⟨Nat.le_of_ble_eq_true rfl, Nat.le_of_ble_eq_true rfl⟩ dX0_riskOfPath_50 ?_
    refine lv_imul hx hb dX0_riskOfPath_53 ?_
    exact W.iret hx hb hr (fun t ht hW => ⟨_, rfl, rfl, ht⟩) (fun _ h => nomatch h) dX0_riskOfPath_54
  · have hl : lv_has ls 5 [(0, .ref (a 0)), (1, .int (nI k)), (2, .int (b2i true))] := hl
    refine lv_aload_n hx hb dX0_riskOfPath_0 rfl (lv_at hl 0 rfl) ?_
    refine g_get (σ := σ) hx hb hts hts0 hown hK hP 11 (by decide) (by decide +kernel) rfl rfl dX0_riskOfPath_1 ?_
    refine lv_aload_n hx hb dX0_riskOfPath_4 rfl (lv_at hl 0 rfl) ?_
    refine lv_iload_n hx hb dX0_riskOfPath_5 rfl (lv_at hl 1 rfl) ?_
    refine lv_iload_n hx hb dX0_riskOfPath_6 rfl (lv_at hl 2 rfl) ?_
    refine g0i (As := [.int (nI k), .int (b2i true)]) (rest := [.ref (a 7)]) S (c_pathFrom l E a σ k (by omega) true) (cwV 2 hts gX0_riskOfPath_X0_pathFrom rfl rfl rfl hdX0_pathFrom ⟨Nat.le_of_ble_eq_true rfl, Nat.le_of_ble_eq_true rfl⟩) hK hP rfl hl.1 rfl (Nat.le_of_ble_eq_true rfl) ⟨Nat.zero_le _, Nat.zero_le _⟩ dX0_riskOfPath_7 ?_
    refine g_at S gX0_riskOfPath_X0_at hK hP 7 rfl (by decide) (v := gsu σ (gTo σ k true)) (vp_in_nI (by omega) (by decide)) (by rw [nI_clamp (by omega)]) hl.1 (Nat.le_of_ble_eq_true rfl) ⟨Nat.zero_le _, Nat.zero_le _⟩ ⟨Nat.le_of_ble_eq_true rfl, Nat.le_of_ble_eq_true rfl⟩ dX0_riskOfPath_10 ?_
    refine lv_istore_n (lv' := [(3, .int (gsu σ (gTo σ k true))), (0, .ref (a 0)), (1, .int (nI k)), (2, .int (b2i true))]) hx hb dX0_riskOfPath_13 rfl hl (by decide) rfl (fun ls hl => ?_)
    refine lv_aload_n hx hb dX0_riskOfPath_14 rfl (lv_at hl 1 rfl) ?_
    refine g_get (σ := σ) hx hb hts hts0 hown hK hP 12 (by decide) (by decide +kernel) rfl rfl dX0_riskOfPath_15 ?_
    refine lv_aload_n hx hb dX0_riskOfPath_18 rfl (lv_at hl 1 rfl) ?_
    refine lv_iload_n hx hb dX0_riskOfPath_19 rfl (lv_at hl 2 rfl) ?_
    refine lv_iload_n hx hb dX0_riskOfPath_20 rfl (lv_at hl 3 rfl) ?_
    refine lv_if_ne (tgt := 28) hx hb dX0_riskOfPath_21 (by decide) (fun _ => ?_) (fun q => absurd q ((b2i_ne0.mpr rfl)))
    refine lv_iconst (v := 0) hx hb dX0_riskOfPath_28 (by decide) ?_
    refine g0i (As := [.int (nI k), .int (b2i false)]) (rest := [.ref (a 8)]) S (c_pathFrom l E a σ k (by omega) false) (cwV 2 hts gX0_riskOfPath_X0_pathFrom rfl rfl rfl hdX0_pathFrom ⟨Nat.le_of_ble_eq_true rfl, Nat.le_of_ble_eq_true rfl⟩) hK hP rfl hl.1 rfl (Nat.le_of_ble_eq_true rfl) ⟨Nat.zero_le _, Nat.zero_le _⟩ dX0_riskOfPath_29 ?_
    refine g_at S gX0_riskOfPath_X0_at hK hP 8 rfl (by decide) (v := gho σ (gTo σ k false)) (vp_in_nI (by omega) (by decide)) (by rw [nI_clamp (by omega)]) hl.1 (Nat.le_of_ble_eq_true rfl) ⟨Nat.zero_le _, Nat.zero_le _⟩ ⟨Nat.le_of_ble_eq_true rfl, Nat.le_of_ble_eq_true rfl⟩ dX0_riskOfPath_32 ?_
    refine lv_istore (lv' := [(4, .int (gho σ (gTo σ k false))), (3, .int (gsu σ (gTo σ k true))), (0, .ref (a 0)), (1, .int (nI k)), (2, .int (b2i true))]) hx hb dX0_riskOfPath_35 hl (by decide) rfl (fun ls hl => ?_)
    refine lv_iconst (v := 0) hx hb dX0_riskOfPath_37 (by decide) ?_
    refine lv_iload hx hb dX0_riskOfPath_38 (lv_at hl 0 rfl) ?_
    refine lv_iload_n hx hb dX0_riskOfPath_40 rfl (lv_at hl 1 rfl) ?_
    refine lv_isub hx hb dX0_riskOfPath_41 ?_
    refine g_max hx hb (hml.trans hl.1.symm) hown (hts (.methodLink RX0 269 Lib.Math.max.name) (by decide +kernel)) (hts (.static Lib.Math.max.name) (by decide +kernel)) (hts (.initialized "java/lang/Math") (by decide +kernel)) (hts (.code Lib.Math.max.name Lib.Math.max.code 2 (some .int)) (by decide +kernel)) (Nat.le_of_ble_eq_true rfl) (Nat.le_of_ble_eq_true rfl) ⟨Nat.zero_le _, Nat.zero_le _⟩ dX0_riskOfPath_42 ?_
    refine lv_aload_n hx hb dX0_riskOfPath_45 rfl (lv_at hl 2 rfl) ?_
    refine g_get (σ := σ) hx hb hts hts0 hown hK hP 9 (by decide) (by decide +kernel) rfl rfl dX0_riskOfPath_46 ?_
    refine lv_iload_n hx hb dX0_riskOfPath_49 rfl (lv_at hl 3 rfl) ?_
    refine g_at S gX0_riskOfPath_X0_at hK hP 5 rfl (by decide) (v := gwt σ k) (vp_in_nI (by omega) (by decide)) (by rw [nI_clamp (by omega)]) hl.1 (Nat.le_of_ble_eq_true rfl) ⟨Nat.zero_le _, Nat.zero_le _⟩ ⟨Nat.le_of_ble_eq_true rfl, Nat.le_of_ble_eq_true rfl⟩ dX0_riskOfPath_50 ?_
    refine lv_imul hx hb dX0_riskOfPath_53 ?_
    exact W.iret hx hb hr (fun t ht hW => ⟨_, rfl, rfl, ht⟩) (fun _ h => nomatch h) dX0_riskOfPath_54
theorem hinX0_plansRight : ∀ w ∈ wsX00, w ∈ wsX0_plansRight := fun w h => List.mem_cons_of_mem _ (List.mem_append_right _ h)
theorem hdX0_plansRight : yX0_plansRight.cls = RX0 ∧ yX0_plansRight.cls ≠ "java/lang/invoke/MethodHandle" ∧ yX0_plansRight.cls ≠ "java/lang/invoke/VarHandle" ∧ (parseMethodDescriptor yX0_plansRight.desc).map (fun d => d.parameters.length) = some 1 := by decide +kernel
set_option maxHeartbeats 4000000 in
set_option maxRecDepth 100000 in
theorem c_plansRight (l : Launch) (E : GE) (a : Nat → Nat) (σ : GS) (hO : GOK σ) (k : Nat) (hk : k < 40) : Met l yX0_plansRight wsX0_plansRight { frames := 3, cells := 0, slots := 0, locals := 67 } (va_Pc [.ref (a 0), .int (nI k)] (gB E (gW E a σ))) (vp_Si (fun r => r = b2i (gPl σ k))) 0 0 (fun _ => False) := by
  refine w_met (cc := cX0_plansRight) (maxL := 2) (ret := (some .boolean)) (by decide) rfl (Nat.le_of_ble_eq_true rfl) ?_
  intro p e s m below meth c ls S hr hlocks hname hB hl
  obtain ⟨hP, hK⟩ := hB
  obtain ⟨hx, hb, hml, hown, hts⟩ := id S
  have hts0 := hinX0_plansRight
  have hl : lv_has ls 2 [(0, .ref (a 0)), (1, .int (nI k))] := hl
  refine lv_aload_n hx hb dX0_plansRight_0 rfl (lv_at hl 0 rfl) ?_
  refine lv_iload_n hx hb dX0_plansRight_1 rfl (lv_at hl 1 rfl) ?_
  refine lv_iconst (v := 1) hx hb dX0_plansRight_2 (by decide) ?_
  refine g0i (As := [.int (nI k), .int (b2i true)]) (rest := []) S (c_riskOfPath l E a σ hO k (by omega) true) (cwV 2 hts gX0_plansRight_X0_riskOfPath rfl rfl rfl hdX0_riskOfPath ⟨Nat.le_of_ble_eq_true rfl, Nat.le_of_ble_eq_true rfl⟩) hK hP rfl hl.1 rfl (Nat.le_of_ble_eq_true rfl) ⟨Nat.zero_le _, Nat.zero_le _⟩ dX0_plansRight_3 ?_
  refine lv_aload_n hx hb dX0_plansRight_6 rfl (lv_at hl 0 rfl) ?_
  refine lv_iload_n hx hb dX0_plansRight_7 rfl (lv_at hl 1 rfl) ?_
  refine lv_iconst (v := 0) hx hb dX0_plansRight_8 (by decide) ?_
  refine g0i (As := [.int (nI k), .int (b2i false)]) (rest := [.int (gRisk σ k true)]) S (c_riskOfPath l E a σ hO k (by omega) false) (cwV 2 hts gX0_plansRight_X0_riskOfPath rfl rfl rfl hdX0_riskOfPath ⟨Nat.le_of_ble_eq_true rfl, Nat.le_of_ble_eq_true rfl⟩) hK hP rfl hl.1 rfl (Nat.le_of_ble_eq_true rfl) ⟨Nat.zero_le _, Nat.zero_le _⟩ dX0_plansRight_9 ?_
  refine lv_icmp_ge (tgt := 19) hx hb dX0_plansRight_12 (by decide) (fun c12 => ?_) (fun c12 => ?_)
  · refine lv_iconst (v := 0) hx hb dX0_plansRight_19 (by decide) ?_
    exact W.zret hx hb hr rfl (fun t ht hW => ⟨_, rfl, (by first | (rw [gPl, decide_eq_false (fun h => Int32.not_lt.mpr c12 h)]; rfl) | (rw [gPl, decide_eq_true (Int32.not_le.mp c12)]; rfl)), ht⟩) (fun _ h => nomatch h) dX0_plansRight_20
  · refine lv_iconst (v := 1) hx hb dX0_plansRight_15 (by decide) ?_
    refine lv_goto (tgt := 20) hx hb dX0_plansRight_16 (by decide) ?_
    exact W.zret hx hb hr rfl (fun t ht hW => ⟨_, rfl, (by first | (rw [gPl, decide_eq_false (fun h => Int32.not_lt.mpr c12 h)]; rfl) | (rw [gPl, decide_eq_true (Int32.not_le.mp c12)]; rfl)), ht⟩) (fun _ h => nomatch h) dX0_plansRight_20
theorem hinX0_smallerRisk : ∀ w ∈ wsX00, w ∈ wsX0_smallerRisk := fun w h => List.mem_cons_of_mem _ (List.mem_append_right _ h)
theorem hdX0_smallerRisk : yX0_smallerRisk.cls = RX0 ∧ yX0_smallerRisk.cls ≠ "java/lang/invoke/MethodHandle" ∧ yX0_smallerRisk.cls ≠ "java/lang/invoke/VarHandle" ∧ (parseMethodDescriptor yX0_smallerRisk.desc).map (fun d => d.parameters.length) = some 1 := by decide +kernel
set_option maxHeartbeats 4000000 in
set_option maxRecDepth 100000 in
theorem c_smallerRisk (l : Launch) (E : GE) (a : Nat → Nat) (σ : GS) (hO : GOK σ) (k : Nat) (hk : k < 40) : Met l yX0_smallerRisk wsX0_smallerRisk { frames := 3, cells := 0, slots := 0, locals := 67 } (va_Pc [.ref (a 0), .int (nI k)] (gB E (gW E a σ))) (vp_Si (fun r => r = gSm σ k)) 0 0 (fun _ => False) := by
  refine w_met (cc := cX0_smallerRisk) (maxL := 2) (ret := (some .int)) (by decide) rfl (Nat.le_of_ble_eq_true rfl) ?_
  intro p e s m below meth c ls S hr hlocks hname hB hl
  obtain ⟨hP, hK⟩ := hB
  obtain ⟨hx, hb, hml, hown, hts⟩ := id S
  have hts0 := hinX0_smallerRisk
  have hl : lv_has ls 2 [(0, .ref (a 0)), (1, .int (nI k))] := hl
  refine lv_aload_n hx hb dX0_smallerRisk_0 rfl (lv_at hl 0 rfl) ?_
  refine lv_iload_n hx hb dX0_smallerRisk_1 rfl (lv_at hl 1 rfl) ?_
  refine lv_iconst (v := 0) hx hb dX0_smallerRisk_2 (by decide) ?_
  refine g0i (As := [.int (nI k), .int (b2i false)]) (rest := []) S (c_riskOfPath l E a σ hO k (by omega) false) (cwV 2 hts gX0_smallerRisk_X0_riskOfPath rfl rfl rfl hdX0_riskOfPath ⟨Nat.le_of_ble_eq_true rfl, Nat.le_of_ble_eq_true rfl⟩) hK hP rfl hl.1 rfl (Nat.le_of_ble_eq_true rfl) ⟨Nat.zero_le _, Nat.zero_le _⟩ dX0_smallerRisk_3 ?_
  refine lv_aload_n hx hb dX0_smallerRisk_6 rfl (lv_at hl 0 rfl) ?_
  refine lv_iload_n hx hb dX0_smallerRisk_7 rfl (lv_at hl 1 rfl) ?_
  refine lv_iconst (v := 1) hx hb dX0_smallerRisk_8 (by decide) ?_
  refine g0i (As := [.int (nI k), .int (b2i true)]) (rest := [.int (gRisk σ k false)]) S (c_riskOfPath l E a σ hO k (by omega) true) (cwV 2 hts gX0_smallerRisk_X0_riskOfPath rfl rfl rfl hdX0_riskOfPath ⟨Nat.le_of_ble_eq_true rfl, Nat.le_of_ble_eq_true rfl⟩) hK hP rfl hl.1 rfl (Nat.le_of_ble_eq_true rfl) ⟨Nat.zero_le _, Nat.zero_le _⟩ dX0_smallerRisk_9 ?_
  refine g_min hx hb (hml.trans hl.1.symm) hown (hts (.methodLink RX0 274 Lib.Math.min.name) (by decide +kernel)) (hts (.static Lib.Math.min.name) (by decide +kernel)) (hts (.initialized "java/lang/Math") (by decide +kernel)) (hts (.code Lib.Math.min.name Lib.Math.min.code 2 (some .int)) (by decide +kernel)) (Nat.le_of_ble_eq_true rfl) (Nat.le_of_ble_eq_true rfl) ⟨Nat.zero_le _, Nat.zero_le _⟩ dX0_smallerRisk_12 ?_
  exact W.iret hx hb hr (fun t ht hW => ⟨_, rfl, rfl, ht⟩) (fun _ h => nomatch h) dX0_smallerRisk_15
theorem hinX0_passedFork : ∀ w ∈ wsX00, w ∈ wsX0_passedFork := fun w h => List.mem_cons_of_mem _ (List.mem_append_right _ h)
theorem hdX0_passedFork : yX0_passedFork.cls = RX0 ∧ yX0_passedFork.cls ≠ "java/lang/invoke/MethodHandle" ∧ yX0_passedFork.cls ≠ "java/lang/invoke/VarHandle" ∧ (parseMethodDescriptor yX0_passedFork.desc).map (fun d => d.parameters.length) = some 2 := by decide +kernel
set_option maxHeartbeats 4000000 in
set_option maxRecDepth 100000 in
theorem c_passedFork (l : Launch) (E : GE) (a : Nat → Nat) (σ : GS) (s0 j : Nat) (hs : s0 < 8) (hj : j < 40) : Met l yX0_passedFork wsX0_passedFork { frames := 1, cells := 0, slots := 0, locals := 21 } (va_Pc [.ref (a 0), .int (nI s0), .int (nI j)] (gB E (gW E a σ))) (vp_Si (fun r => r = nI (gpf σ (s0 * 40 + j)))) 0 0 (fun _ => False) := by
  refine w_met (cc := cX0_passedFork) (maxL := 3) (ret := (some .int)) (by decide) rfl (Nat.le_of_ble_eq_true rfl) ?_
  intro p e s m below meth c ls S hr hlocks hname hB hl
  obtain ⟨hP, hK⟩ := hB
  obtain ⟨hx, hb, hml, hown, hts⟩ := id S
  have hts0 := hinX0_passedFork
  have hl : lv_has ls 3 [(0, .ref (a 0)), (1, .int (nI s0)), (2, .int (nI j))] := hl
  refine lv_aload_n hx hb dX0_passedFork_0 rfl (lv_at hl 0 rfl) ?_
  refine g_get (σ := σ) hx hb hts hts0 hown hK hP 17 (by decide) (by decide +kernel) rfl rfl dX0_passedFork_1 ?_
  refine lv_iload_n hx hb dX0_passedFork_4 rfl (lv_at hl 1 rfl) ?_
  refine lv_bipush (v := nI 40) hx hb dX0_passedFork_5 (by decide) ?_
  refine lv_imul hx hb dX0_passedFork_7 ?_
  rw [pk_mul s0 40]
  refine lv_iload_n hx hb dX0_passedFork_8 rfl (lv_at hl 2 rfl) ?_
  refine lv_iadd hx hb dX0_passedFork_9 ?_
  rw [nI_add (s0 * 40) j]
  refine g_at S gX0_passedFork_X0_at hK hP 13 rfl (by decide) (v := nI (gpf σ ((s0 * 40) + j))) (vp_in_nI (by omega) (by decide)) (by rw [nI_clamp (by omega)]) hl.1 (Nat.le_of_ble_eq_true rfl) ⟨Nat.zero_le _, Nat.zero_le _⟩ ⟨Nat.le_of_ble_eq_true rfl, Nat.le_of_ble_eq_true rfl⟩ dX0_passedFork_10 ?_
  exact W.iret hx hb hr (fun t ht hW => ⟨_, rfl, rfl, ht⟩) (fun _ h => nomatch h) dX0_passedFork_13
theorem hinX0_regretOfStep : ∀ w ∈ wsX00, w ∈ wsX0_regretOfStep := fun w h => List.mem_cons_of_mem _ (List.mem_append_right _ h)
theorem hdX0_regretOfStep : yX0_regretOfStep.cls = RX0 ∧ yX0_regretOfStep.cls ≠ "java/lang/invoke/MethodHandle" ∧ yX0_regretOfStep.cls ≠ "java/lang/invoke/VarHandle" ∧ (parseMethodDescriptor yX0_regretOfStep.desc).map (fun d => d.parameters.length) = some 2 := by decide +kernel
set_option maxHeartbeats 4000000 in
set_option maxRecDepth 100000 in
theorem c_regretOfStep (l : Launch) (E : GE) (a : Nat → Nat) (σ : GS) (hO : GOK σ) (s0 j : Nat) (hs : s0 < 8) (hj : j < 40) : Met l yX0_regretOfStep wsX0_regretOfStep { frames := 2, cells := 0, slots := 0, locals := 43 } (va_Pc [.ref (a 0), .int (nI s0), .int (nI j)] (gB E (gW E a σ))) (vp_Si (fun r => r = gReg σ s0 j)) 0 0 (fun _ => False) := by
  refine w_met (cc := cX0_regretOfStep) (maxL := 5) (ret := (some .int)) (by decide) rfl (Nat.le_of_ble_eq_true rfl) ?_
  intro p e s m below meth c ls S hr hlocks hname hB hl
  obtain ⟨hP, hK⟩ := hB
  obtain ⟨hx, hb, hml, hown, hts⟩ := id S
  have t1 := hO.2.2.2.2.2.1 (s0 * 40 + j)
  have t2 := hO.2.2.2.2.1 s0
  have hts0 := hinX0_regretOfStep
  have hl : lv_has ls 5 [(0, .ref (a 0)), (1, .int (nI s0)), (2, .int (nI j))] := hl
  refine lv_aload_n hx hb dX0_regretOfStep_0 rfl (lv_at hl 0 rfl) ?_
  refine lv_iload_n hx hb dX0_regretOfStep_1 rfl (lv_at hl 1 rfl) ?_
  refine lv_iload_n hx hb dX0_regretOfStep_2 rfl (lv_at hl 2 rfl) ?_
  refine g0i (As := [.int (nI s0), .int (nI j)]) (rest := []) S (c_passedFork l E a σ s0 j (by omega) (by omega)) (cwV 2 hts gX0_regretOfStep_X0_passedFork rfl rfl rfl hdX0_passedFork ⟨Nat.le_of_ble_eq_true rfl, Nat.le_of_ble_eq_true rfl⟩) hK hP rfl hl.1 rfl (Nat.le_of_ble_eq_true rfl) ⟨Nat.zero_le _, Nat.zero_le _⟩ dX0_regretOfStep_3 ?_
  refine lv_istore_n (lv' := [(3, .int (nI (gpf σ (s0 * 40 + j)))), (0, .ref (a 0)), (1, .int (nI s0)), (2, .int (nI j))]) hx hb dX0_regretOfStep_6 rfl hl (by decide) rfl (fun ls hl => ?_)
  refine lv_aload_n hx hb dX0_regretOfStep_7 rfl (lv_at hl 1 rfl) ?_
  refine g_get (σ := σ) hx hb hts hts0 hown hK hP 10 (by decide) (by decide +kernel) rfl rfl dX0_regretOfStep_8 ?_
  refine lv_aload_n hx hb dX0_regretOfStep_11 rfl (lv_at hl 1 rfl) ?_
  refine g_get (σ := σ) hx hb hts hts0 hown hK hP 15 (by decide) (by decide +kernel) rfl rfl dX0_regretOfStep_12 ?_
  refine lv_iload_n hx hb dX0_regretOfStep_15 rfl (lv_at hl 2 rfl) ?_
  refine g_at S gX0_regretOfStep_X0_at hK hP 11 rfl (by decide) (v := nI (gst σ s0)) (vp_in_nI (by omega) (by decide)) (by rw [nI_clamp (by omega)]) hl.1 (Nat.le_of_ble_eq_true rfl) ⟨Nat.zero_le _, Nat.zero_le _⟩ ⟨Nat.le_of_ble_eq_true rfl, Nat.le_of_ble_eq_true rfl⟩ dX0_regretOfStep_16 ?_
  refine g_at S gX0_regretOfStep_X0_at hK hP 6 rfl (by decide) (v := ggr σ (gst σ s0)) (vp_in_nI (by omega) (by decide)) (by rw [nI_clamp (by omega)]) hl.1 (Nat.le_of_ble_eq_true rfl) ⟨Nat.zero_le _, Nat.zero_le _⟩ ⟨Nat.le_of_ble_eq_true rfl, Nat.le_of_ble_eq_true rfl⟩ dX0_regretOfStep_19 ?_
  refine lv_istore (lv' := [(4, .int (ggr σ (gst σ s0))), (3, .int (nI (gpf σ (s0 * 40 + j)))), (0, .ref (a 0)), (1, .int (nI s0)), (2, .int (nI j))]) hx hb dX0_regretOfStep_22 hl (by decide) rfl (fun ls hl => ?_)
  refine lv_iconst (v := 0) hx hb dX0_regretOfStep_24 (by decide) ?_
  refine lv_aload_n hx hb dX0_regretOfStep_25 rfl (lv_at hl 2 rfl) ?_
  refine g_get (σ := σ) hx hb hts hts0 hown hK hP 13 (by decide) (by decide +kernel) rfl rfl dX0_regretOfStep_26 ?_
  refine lv_iload_n hx hb dX0_regretOfStep_29 rfl (lv_at hl 1 rfl) ?_
  refine g_at S gX0_regretOfStep_X0_at hK hP 9 rfl (by decide) (v := ghs σ (gpf σ (s0 * 40 + j))) (vp_in_nI (by omega) (by decide)) (by rw [nI_clamp (by omega)]) hl.1 (Nat.le_of_ble_eq_true rfl) ⟨Nat.zero_le _, Nat.zero_le _⟩ ⟨Nat.le_of_ble_eq_true rfl, Nat.le_of_ble_eq_true rfl⟩ dX0_regretOfStep_30 ?_
  refine lv_iload hx hb dX0_regretOfStep_33 (lv_at hl 0 rfl) ?_
  refine lv_isub hx hb dX0_regretOfStep_35 ?_
  refine g_max hx hb (hml.trans hl.1.symm) hown (hts (.methodLink RX0 269 Lib.Math.max.name) (by decide +kernel)) (hts (.static Lib.Math.max.name) (by decide +kernel)) (hts (.initialized "java/lang/Math") (by decide +kernel)) (hts (.code Lib.Math.max.name Lib.Math.max.code 2 (some .int)) (by decide +kernel)) (Nat.le_of_ble_eq_true rfl) (Nat.le_of_ble_eq_true rfl) ⟨Nat.zero_le _, Nat.zero_le _⟩ dX0_regretOfStep_36 ?_
  refine lv_aload_n hx hb dX0_regretOfStep_39 rfl (lv_at hl 2 rfl) ?_
  refine g_get (σ := σ) hx hb hts hts0 hown hK hP 9 (by decide) (by decide +kernel) rfl rfl dX0_regretOfStep_40 ?_
  refine lv_iload_n hx hb dX0_regretOfStep_43 rfl (lv_at hl 1 rfl) ?_
  refine g_at S gX0_regretOfStep_X0_at hK hP 5 rfl (by decide) (v := gwt σ (gpf σ (s0 * 40 + j))) (vp_in_nI (by omega) (by decide)) (by rw [nI_clamp (by omega)]) hl.1 (Nat.le_of_ble_eq_true rfl) ⟨Nat.zero_le _, Nat.zero_le _⟩ ⟨Nat.le_of_ble_eq_true rfl, Nat.le_of_ble_eq_true rfl⟩ dX0_regretOfStep_44 ?_
  refine lv_imul hx hb dX0_regretOfStep_47 ?_
  exact W.iret hx hb hr (fun t ht hW => ⟨_, rfl, rfl, ht⟩) (fun _ h => nomatch h) dX0_regretOfStep_48
theorem hinX0_regretOfAll : ∀ w ∈ wsX00, w ∈ wsX0_regretOfAll := fun w h => List.mem_cons_of_mem _ (List.mem_append_right _ h)
theorem hdX0_regretOfAll : yX0_regretOfAll.cls = RX0 ∧ yX0_regretOfAll.cls ≠ "java/lang/invoke/MethodHandle" ∧ yX0_regretOfAll.cls ≠ "java/lang/invoke/VarHandle" ∧ (parseMethodDescriptor yX0_regretOfAll.desc).map (fun d => d.parameters.length) = some 1 := by decide +kernel
set_option maxHeartbeats 4000000 in
set_option maxRecDepth 100000 in
theorem c_regretOfAll (l : Launch) (E : GE) (a : Nat → Nat) (σ : GS) (hO : GOK σ) (s0 : Nat) (hs : s0 < 8) : Met l yX0_regretOfAll wsX0_regretOfAll { frames := 3, cells := 0, slots := 0, locals := 67 } (va_Pc [.ref (a 0), .int (nI s0)] (gB E (gW E a σ))) (vp_Si (fun r => r = gRegs σ s0)) 0 0 (fun _ => False) := by
  refine w_met (cc := cX0_regretOfAll) (maxL := 5) (ret := (some .int)) (by decide) rfl (Nat.le_of_ble_eq_true rfl) ?_
  intro p e s m below meth c ls S hr hlocks hname hB hl
  obtain ⟨hP, hK⟩ := hB
  obtain ⟨hx, hb, hml, hown, hts⟩ := id S
  have t1 := hO.2.2.2.2.2.2.1 s0
  have hts0 := hinX0_regretOfAll
  have hl : lv_has ls 5 [(0, .ref (a 0)), (1, .int (nI s0))] := hl
  refine lv_iconst (v := 0) hx hb dX0_regretOfAll_0 (by decide) ?_
  refine lv_istore_n (lv' := [(2, .int 0), (0, .ref (a 0)), (1, .int (nI s0))]) hx hb dX0_regretOfAll_1 rfl hl (by decide) rfl (fun ls hl => ?_)
  refine lv_aload_n hx hb dX0_regretOfAll_2 rfl (lv_at hl 1 rfl) ?_
  refine g_get (σ := σ) hx hb hts hts0 hown hK hP 16 (by decide) (by decide +kernel) rfl rfl dX0_regretOfAll_3 ?_
  refine lv_iload_n hx hb dX0_regretOfAll_6 rfl (lv_at hl 2 rfl) ?_
  refine g_at S gX0_regretOfAll_X0_at hK hP 12 rfl (by decide) (v := nI (gpc σ s0)) (vp_in_nI (by omega) (by decide)) (by rw [nI_clamp (by omega)]) hl.1 (Nat.le_of_ble_eq_true rfl) ⟨Nat.zero_le _, Nat.zero_le _⟩ ⟨Nat.le_of_ble_eq_true rfl, Nat.le_of_ble_eq_true rfl⟩ dX0_regretOfAll_7 ?_
  refine lv_istore_n (lv' := [(3, .int (nI (gpc σ s0))), (2, .int 0), (0, .ref (a 0)), (1, .int (nI s0))]) hx hb dX0_regretOfAll_10 rfl hl (by decide) rfl (fun ls hl => ?_)
  refine lv_iconst (v := 0) hx hb dX0_regretOfAll_11 (by decide) ?_
  refine lv_istore (lv' := [(4, .int 0), (3, .int (nI (gpc σ s0))), (2, .int 0), (0, .ref (a 0)), (1, .int (nI s0))]) hx hb dX0_regretOfAll_12 hl (by decide) rfl (fun ls hl => ?_)
  have key : ∀ (d i : Nat) (x : Int32) (ls : Array Slot), i + d = gpc σ s0 → x = sumI (gReg σ s0) i → lv_has ls 5 [(4, .int (nI i)), (3, .int (nI (gpc σ s0))), (2, .int x), (0, .ref (a 0)), (1, .int (nI s0))] → W p l e (headSpec wsX0_regretOfAll { frames := 3, cells := 0, slots := 0, locals := 67 }).room s m [.ref (a 0), .int (nI s0)].toArray below meth c s.heap [] 0 0 (MQ below (vp_Si (fun r => r = gRegs σ s0)) [.ref (a 0), .int (nI s0)].toArray s 0 0 (fun _ => False)) (F0 m 14 ls []) := by
    intro d
    induction d with
    | zero =>
      intro i x ls hi hinv hl
      obtain rfl : i = gpc σ s0 := by omega
      refine lv_iload hx hb dX0_regretOfAll_14 (lv_at hl 0 rfl) ?_
      refine lv_iload_n hx hb dX0_regretOfAll_16 rfl (lv_at hl 1 rfl) ?_
      refine lv_icmp_ge (tgt := 36) hx hb dX0_regretOfAll_17 (by decide) (fun _ => ?_) (fun q => absurd ((nI_le (Nat.le_refl _) (by omega))) q)
      refine lv_iload_n hx hb dX0_regretOfAll_36 rfl (lv_at hl 2 rfl) ?_
      exact W.iret hx hb hr (fun t ht hW => ⟨_, rfl, hinv, ht⟩) (fun _ h => nomatch h) dX0_regretOfAll_37
    | succ d ih =>
      intro i x ls hi hinv hl
      refine lv_iload hx hb dX0_regretOfAll_14 (lv_at hl 0 rfl) ?_
      refine lv_iload_n hx hb dX0_regretOfAll_16 rfl (lv_at hl 1 rfl) ?_
      refine lv_icmp_ge (tgt := 36) hx hb dX0_regretOfAll_17 (by decide) (fun q => absurd q ((nI_ge (by omega) (by omega)))) (fun _ => ?_)
      refine lv_iload_n hx hb dX0_regretOfAll_20 rfl (lv_at hl 2 rfl) ?_
      refine lv_aload_n hx hb dX0_regretOfAll_21 rfl (lv_at hl 3 rfl) ?_
      refine lv_iload_n hx hb dX0_regretOfAll_22 rfl (lv_at hl 4 rfl) ?_
      refine lv_iload hx hb dX0_regretOfAll_23 (lv_at hl 0 rfl) ?_
      refine g0i (As := [.int (nI s0), .int (nI i)]) (rest := [.int x]) S (c_regretOfStep l E a σ hO s0 i (by omega) (by omega)) (cwV 2 hts gX0_regretOfAll_X0_regretOfStep rfl rfl rfl hdX0_regretOfStep ⟨Nat.le_of_ble_eq_true rfl, Nat.le_of_ble_eq_true rfl⟩) hK hP rfl hl.1 rfl (Nat.le_of_ble_eq_true rfl) ⟨Nat.zero_le _, Nat.zero_le _⟩ dX0_regretOfAll_25 ?_
      refine lv_iadd hx hb dX0_regretOfAll_28 ?_
      refine lv_istore_n (lv' := [(2, .int (x + (gReg σ s0 i))), (4, .int (nI i)), (3, .int (nI (gpc σ s0))), (0, .ref (a 0)), (1, .int (nI s0))]) hx hb dX0_regretOfAll_29 rfl hl (by decide) rfl (fun ls hl => ?_)
      refine lv_iinc (v := nI (i + 1)) (lv' := [(4, .int (nI (i + 1))), (2, .int (x + (gReg σ s0 i))), (3, .int (nI (gpc σ s0))), (0, .ref (a 0)), (1, .int (nI s0))]) hx hb dX0_regretOfAll_30 hl (k := 1) rfl (nI_1 i) (by decide) rfl (fun ls hl => ?_)
      refine lv_goto (tgt := 14) hx hb dX0_regretOfAll_33 (by decide) ?_
      exact ih (i + 1) (x + (gReg σ s0 i)) ls (by omega) (by rw [hinv]; rfl) (lv_sub hl [0, 2, 1, 3, 4] rfl)
  exact key (gpc σ s0) 0 0 ls (by omega) rfl (lv_sub hl [0, 1, 2, 3, 4] rfl)
theorem hinX0_atExams : ∀ w ∈ wsX00, w ∈ wsX0_atExams := fun w h => List.mem_cons_of_mem _ (List.mem_append_right _ h)
theorem hdX0_atExams : yX0_atExams.cls = RX0 ∧ yX0_atExams.cls ≠ "java/lang/invoke/MethodHandle" ∧ yX0_atExams.cls ≠ "java/lang/invoke/VarHandle" ∧ (parseMethodDescriptor yX0_atExams.desc).map (fun d => d.parameters.length) = some 0 := by decide +kernel
set_option maxHeartbeats 4000000 in
set_option maxRecDepth 100000 in
theorem c_atExams (l : Launch) (E : GE) (a : Nat → Nat) (σ : GS) (hO : GOK σ) : Met l yX0_atExams wsX0_atExams { frames := 2, cells := 0, slots := 0, locals := 41 } (va_Pc [.ref (a 0)] (gB E (gW E a σ))) (vp_Si (fun r => r = gAtE σ)) 0 0 (fun _ => False) := by
  refine w_met (cc := cX0_atExams) (maxL := 3) (ret := (some .int)) (by decide) rfl (Nat.le_of_ble_eq_true rfl) ?_
  intro p e s m below meth c ls S hr hlocks hname hB hl
  obtain ⟨hP, hK⟩ := hB
  obtain ⟨hx, hb, hml, hown, hts⟩ := id S
  have tk := hO.2.1
  have hts0 := hinX0_atExams
  have hl : lv_has ls 3 [(0, .ref (a 0))] := hl
  refine lv_iconst (v := 0) hx hb dX0_atExams_0 (by decide) ?_
  refine lv_istore_n (lv' := [(1, .int 0), (0, .ref (a 0))]) hx hb dX0_atExams_1 rfl hl (by decide) rfl (fun ls hl => ?_)
  refine lv_iconst (v := 0) hx hb dX0_atExams_2 (by decide) ?_
  refine lv_istore_n (lv' := [(2, .int 0), (1, .int 0), (0, .ref (a 0))]) hx hb dX0_atExams_3 rfl hl (by decide) rfl (fun ls hl => ?_)
  have key : ∀ (d i : Nat) (x : Int32) (ls : Array Slot), i + d = gk σ → x = sumI (fun s => b2i (gEx (ge σ) (gst σ s))) i → lv_has ls 3 [(2, .int (nI i)), (1, .int x), (0, .ref (a 0))] → W p l e (headSpec wsX0_atExams { frames := 2, cells := 0, slots := 0, locals := 41 }).room s m [.ref (a 0)].toArray below meth c s.heap [] 0 0 (MQ below (vp_Si (fun r => r = gAtE σ)) [.ref (a 0)].toArray s 0 0 (fun _ => False)) (F0 m 4 ls []) := by
    intro d
    induction d with
    | zero =>
      intro i x ls hi hinv hl
      obtain rfl : i = gk σ := by omega
      refine lv_iload_n hx hb dX0_atExams_4 rfl (lv_at hl 0 rfl) ?_
      refine lv_aload_n hx hb dX0_atExams_5 rfl (lv_at hl 2 rfl) ?_
      refine g_get (σ := σ) hx hb hts hts0 hown hK hP 1 (by decide) (by decide +kernel) rfl rfl dX0_atExams_6 ?_
      refine lv_icmp_ge (tgt := 36) hx hb dX0_atExams_9 (by decide) (fun _ => ?_) (fun q => absurd ((nI_le (Nat.le_refl _) (by omega))) q)
      refine lv_iload_n hx hb dX0_atExams_36 rfl (lv_at hl 1 rfl) ?_
      exact W.iret hx hb hr (fun t ht hW => ⟨_, rfl, hinv, ht⟩) (fun _ h => nomatch h) dX0_atExams_37
    | succ d ih =>
      intro i x ls hi hinv hl
      have t2 := hO.2.2.2.2.1 i
      refine lv_iload_n hx hb dX0_atExams_4 rfl (lv_at hl 0 rfl) ?_
      refine lv_aload_n hx hb dX0_atExams_5 rfl (lv_at hl 2 rfl) ?_
      refine g_get (σ := σ) hx hb hts hts0 hown hK hP 1 (by decide) (by decide +kernel) rfl rfl dX0_atExams_6 ?_
      refine lv_icmp_ge (tgt := 36) hx hb dX0_atExams_9 (by decide) (fun q => absurd q ((nI_ge (by omega) (by omega)))) (fun _ => ?_)
      refine lv_aload_n hx hb dX0_atExams_12 rfl (lv_at hl 2 rfl) ?_
      refine lv_aload_n hx hb dX0_atExams_13 rfl (lv_at hl 2 rfl) ?_
      refine g_get (σ := σ) hx hb hts hts0 hown hK hP 15 (by decide) (by decide +kernel) rfl rfl dX0_atExams_14 ?_
      refine lv_iload_n hx hb dX0_atExams_17 rfl (lv_at hl 0 rfl) ?_
      refine g_at S gX0_atExams_X0_at hK hP 11 rfl (by decide) (v := nI (gst σ i)) (vp_in_nI (by omega) (by decide)) (by rw [nI_clamp (by omega)]) hl.1 (Nat.le_of_ble_eq_true rfl) ⟨Nat.zero_le _, Nat.zero_le _⟩ ⟨Nat.le_of_ble_eq_true rfl, Nat.le_of_ble_eq_true rfl⟩ dX0_atExams_18 ?_
      refine g0i (As := [.int (nI (gst σ i))]) (rest := []) S (c_holdsExam l E a σ (gst σ i) (by omega)) (cwV 1 hts gX0_atExams_X0_holdsExam rfl rfl rfl hdX0_holdsExam ⟨Nat.le_of_ble_eq_true rfl, Nat.le_of_ble_eq_true rfl⟩) hK hP rfl hl.1 rfl (Nat.le_of_ble_eq_true rfl) ⟨Nat.zero_le _, Nat.zero_le _⟩ dX0_atExams_21 ?_
      refine lv_if_eq (tgt := 30) hx hb dX0_atExams_24 (by decide) (fun c24 => ?_) (fun c24 => ?_)
      · refine lv_iinc (v := nI (i + 1)) (lv' := [(2, .int (nI (i + 1))), (1, .int x), (0, .ref (a 0))]) hx hb dX0_atExams_30 hl (k := 0) rfl (nI_1 i) (by decide) rfl (fun ls hl => ?_)
        refine lv_goto (tgt := 4) hx hb dX0_atExams_33 (by decide) ?_
        exact ih (i + 1) x ls (by omega) (by first | (rw [hinv, sumI, b2i_eq0.mp c24]; exact (Int32.add_zero _).symm) | (rw [hinv, sumI, b2i_ne0.mp c24]; rfl)) (lv_sub hl [0, 1, 2] rfl)
      · refine lv_iinc (v := x + 1) (lv' := [(1, .int (x + 1)), (2, .int (nI i)), (0, .ref (a 0))]) hx hb dX0_atExams_27 hl (k := 1) rfl rfl (by decide) rfl (fun ls hl => ?_)
        refine lv_iinc (v := nI (i + 1)) (lv' := [(2, .int (nI (i + 1))), (1, .int (x + 1)), (0, .ref (a 0))]) hx hb dX0_atExams_30 hl (k := 1) rfl (nI_1 i) (by decide) rfl (fun ls hl => ?_)
        refine lv_goto (tgt := 4) hx hb dX0_atExams_33 (by decide) ?_
        exact ih (i + 1) (x + 1) ls (by omega) (by first | (rw [hinv, sumI, b2i_eq0.mp c24]; exact (Int32.add_zero _).symm) | (rw [hinv, sumI, b2i_ne0.mp c24]; rfl)) (lv_sub hl [0, 1, 2] rfl)
  exact key (gk σ) 0 0 ls (by omega) rfl (lv_sub hl [0, 1, 2] rfl)
theorem hinX0_allRegret : ∀ w ∈ wsX00, w ∈ wsX0_allRegret := fun w h => List.mem_cons_of_mem _ (List.mem_append_right _ h)
theorem hdX0_allRegret : yX0_allRegret.cls = RX0 ∧ yX0_allRegret.cls ≠ "java/lang/invoke/MethodHandle" ∧ yX0_allRegret.cls ≠ "java/lang/invoke/VarHandle" ∧ (parseMethodDescriptor yX0_allRegret.desc).map (fun d => d.parameters.length) = some 0 := by decide +kernel
set_option maxHeartbeats 4000000 in
set_option maxRecDepth 100000 in
theorem c_allRegret (l : Launch) (E : GE) (a : Nat → Nat) (σ : GS) (hO : GOK σ) : Met l yX0_allRegret wsX0_allRegret { frames := 4, cells := 0, slots := 0, locals := 91 } (va_Pc [.ref (a 0)] (gB E (gW E a σ))) (vp_Si (fun r => r = gAll σ)) 0 0 (fun _ => False) := by
  refine w_met (cc := cX0_allRegret) (maxL := 3) (ret := (some .int)) (by decide) rfl (Nat.le_of_ble_eq_true rfl) ?_
  intro p e s m below meth c ls S hr hlocks hname hB hl
  obtain ⟨hP, hK⟩ := hB
  obtain ⟨hx, hb, hml, hown, hts⟩ := id S
  have tk := hO.2.1
  have hts0 := hinX0_allRegret
  have hl : lv_has ls 3 [(0, .ref (a 0))] := hl
  refine lv_iconst (v := 0) hx hb dX0_allRegret_0 (by decide) ?_
  refine lv_istore_n (lv' := [(1, .int 0), (0, .ref (a 0))]) hx hb dX0_allRegret_1 rfl hl (by decide) rfl (fun ls hl => ?_)
  refine lv_iconst (v := 0) hx hb dX0_allRegret_2 (by decide) ?_
  refine lv_istore_n (lv' := [(2, .int 0), (1, .int 0), (0, .ref (a 0))]) hx hb dX0_allRegret_3 rfl hl (by decide) rfl (fun ls hl => ?_)
  have key : ∀ (d i : Nat) (x : Int32) (ls : Array Slot), i + d = gk σ → x = sumI (fun s => if gHas σ (gst σ s) then gRegs σ s else 0) i → lv_has ls 3 [(2, .int (nI i)), (1, .int x), (0, .ref (a 0))] → W p l e (headSpec wsX0_allRegret { frames := 4, cells := 0, slots := 0, locals := 91 }).room s m [.ref (a 0)].toArray below meth c s.heap [] 0 0 (MQ below (vp_Si (fun r => r = gAll σ)) [.ref (a 0)].toArray s 0 0 (fun _ => False)) (F0 m 4 ls []) := by
    intro d
    induction d with
    | zero =>
      intro i x ls hi hinv hl
      obtain rfl : i = gk σ := by omega
      refine lv_iload_n hx hb dX0_allRegret_4 rfl (lv_at hl 0 rfl) ?_
      refine lv_aload_n hx hb dX0_allRegret_5 rfl (lv_at hl 2 rfl) ?_
      refine g_get (σ := σ) hx hb hts hts0 hown hK hP 1 (by decide) (by decide +kernel) rfl rfl dX0_allRegret_6 ?_
      refine lv_icmp_ge (tgt := 41) hx hb dX0_allRegret_9 (by decide) (fun _ => ?_) (fun q => absurd ((nI_le (Nat.le_refl _) (by omega))) q)
      refine lv_iload_n hx hb dX0_allRegret_41 rfl (lv_at hl 1 rfl) ?_
      exact W.iret hx hb hr (fun t ht hW => ⟨_, rfl, hinv, ht⟩) (fun _ h => nomatch h) dX0_allRegret_42
    | succ d ih =>
      intro i x ls hi hinv hl
      have t2 := hO.2.2.2.2.1 i
      refine lv_iload_n hx hb dX0_allRegret_4 rfl (lv_at hl 0 rfl) ?_
      refine lv_aload_n hx hb dX0_allRegret_5 rfl (lv_at hl 2 rfl) ?_
      refine g_get (σ := σ) hx hb hts hts0 hown hK hP 1 (by decide) (by decide +kernel) rfl rfl dX0_allRegret_6 ?_
      refine lv_icmp_ge (tgt := 41) hx hb dX0_allRegret_9 (by decide) (fun q => absurd q ((nI_ge (by omega) (by omega)))) (fun _ => ?_)
      refine lv_aload_n hx hb dX0_allRegret_12 rfl (lv_at hl 2 rfl) ?_
      refine lv_aload_n hx hb dX0_allRegret_13 rfl (lv_at hl 2 rfl) ?_
      refine g_get (σ := σ) hx hb hts hts0 hown hK hP 15 (by decide) (by decide +kernel) rfl rfl dX0_allRegret_14 ?_
      refine lv_iload_n hx hb dX0_allRegret_17 rfl (lv_at hl 0 rfl) ?_
      refine g_at S gX0_allRegret_X0_at hK hP 11 rfl (by decide) (v := nI (gst σ i)) (vp_in_nI (by omega) (by decide)) (by rw [nI_clamp (by omega)]) hl.1 (Nat.le_of_ble_eq_true rfl) ⟨Nat.zero_le _, Nat.zero_le _⟩ ⟨Nat.le_of_ble_eq_true rfl, Nat.le_of_ble_eq_true rfl⟩ dX0_allRegret_18 ?_
      refine g0i (As := [.int (nI (gst σ i))]) (rest := []) S (c_hasGrade l E a σ (gst σ i) (by omega)) (cwV 1 hts gX0_allRegret_X0_hasGrade rfl rfl rfl hdX0_hasGrade ⟨Nat.le_of_ble_eq_true rfl, Nat.le_of_ble_eq_true rfl⟩) hK hP rfl hl.1 rfl (Nat.le_of_ble_eq_true rfl) ⟨Nat.zero_le _, Nat.zero_le _⟩ dX0_allRegret_21 ?_
      refine lv_if_eq (tgt := 35) hx hb dX0_allRegret_24 (by decide) (fun c24 => ?_) (fun c24 => ?_)
      · refine lv_iinc (v := nI (i + 1)) (lv' := [(2, .int (nI (i + 1))), (1, .int x), (0, .ref (a 0))]) hx hb dX0_allRegret_35 hl (k := 0) rfl (nI_1 i) (by decide) rfl (fun ls hl => ?_)
        refine lv_goto (tgt := 4) hx hb dX0_allRegret_38 (by decide) ?_
        exact ih (i + 1) x ls (by omega) (by first | (rw [hinv, sumI, b2i_eq0.mp c24]; exact (Int32.add_zero _).symm) | (rw [hinv, sumI, b2i_ne0.mp c24]; rfl)) (lv_sub hl [0, 1, 2] rfl)
      · refine lv_iload_n hx hb dX0_allRegret_27 rfl (lv_at hl 1 rfl) ?_
        refine lv_aload_n hx hb dX0_allRegret_28 rfl (lv_at hl 2 rfl) ?_
        refine lv_iload_n hx hb dX0_allRegret_29 rfl (lv_at hl 0 rfl) ?_
        refine g0i (As := [.int (nI i)]) (rest := [.int x]) S (c_regretOfAll l E a σ hO i (by omega)) (cwV 1 hts gX0_allRegret_X0_regretOfAll rfl rfl rfl hdX0_regretOfAll ⟨Nat.le_of_ble_eq_true rfl, Nat.le_of_ble_eq_true rfl⟩) hK hP rfl hl.1 rfl (Nat.le_of_ble_eq_true rfl) ⟨Nat.zero_le _, Nat.zero_le _⟩ dX0_allRegret_30 ?_
        refine lv_iadd hx hb dX0_allRegret_33 ?_
        refine lv_istore_n (lv' := [(1, .int (x + (gRegs σ i))), (2, .int (nI i)), (0, .ref (a 0))]) hx hb dX0_allRegret_34 rfl hl (by decide) rfl (fun ls hl => ?_)
        refine lv_iinc (v := nI (i + 1)) (lv' := [(2, .int (nI (i + 1))), (1, .int (x + (gRegs σ i))), (0, .ref (a 0))]) hx hb dX0_allRegret_35 hl (k := 1) rfl (nI_1 i) (by decide) rfl (fun ls hl => ?_)
        refine lv_goto (tgt := 4) hx hb dX0_allRegret_38 (by decide) ?_
        exact ih (i + 1) (x + (gRegs σ i)) ls (by omega) (by first | (rw [hinv, sumI, b2i_eq0.mp c24]; exact (Int32.add_zero _).symm) | (rw [hinv, sumI, b2i_ne0.mp c24]; rfl)) (lv_sub hl [0, 1, 2] rfl)
  exact key (gk σ) 0 0 ls (by omega) rfl (lv_sub hl [0, 1, 2] rfl)
theorem hinX0_riskiestFork : ∀ w ∈ wsX00, w ∈ wsX0_riskiestFork := fun w h => List.mem_cons_of_mem _ (List.mem_append_right _ h)
theorem hdX0_riskiestFork : yX0_riskiestFork.cls = RX0 ∧ yX0_riskiestFork.cls ≠ "java/lang/invoke/MethodHandle" ∧ yX0_riskiestFork.cls ≠ "java/lang/invoke/VarHandle" ∧ (parseMethodDescriptor yX0_riskiestFork.desc).map (fun d => d.parameters.length) = some 0 := by decide +kernel
set_option maxHeartbeats 4000000 in
set_option maxRecDepth 100000 in
theorem c_riskiestFork (l : Launch) (E : GE) (a : Nat → Nat) (σ : GS) (hO : GOK σ) : Met l yX0_riskiestFork wsX0_riskiestFork { frames := 4, cells := 0, slots := 0, locals := 88 } (va_Pc [.ref (a 0)] (gB E (gW E a σ))) (vp_Si (fun r => r = (gRf σ).1)) 0 0 (fun _ => False) := by
  refine w_met (cc := cX0_riskiestFork) (maxL := 4) (ret := (some .int)) (by decide) rfl (Nat.le_of_ble_eq_true rfl) ?_
  intro p e s m below meth c ls S hr hlocks hname hB hl
  obtain ⟨hP, hK⟩ := hB
  obtain ⟨hx, hb, hml, hown, hts⟩ := id S
  have tn := hO.1
  have hts0 := hinX0_riskiestFork
  have hl : lv_has ls 4 [(0, .ref (a 0))] := hl
  refine lv_iconst (v := -1) hx hb dX0_riskiestFork_0 (by decide) ?_
  refine lv_istore_n (lv' := [(1, .int ((-1))), (0, .ref (a 0))]) hx hb dX0_riskiestFork_1 rfl hl (by decide) rfl (fun ls hl => ?_)
  refine lv_iconst (v := -1) hx hb dX0_riskiestFork_2 (by decide) ?_
  refine lv_istore_n (lv' := [(2, .int ((-1))), (1, .int ((-1))), (0, .ref (a 0))]) hx hb dX0_riskiestFork_3 rfl hl (by decide) rfl (fun ls hl => ?_)
  refine lv_iconst (v := 0) hx hb dX0_riskiestFork_4 (by decide) ?_
  refine lv_istore_n (lv' := [(3, .int 0), (2, .int ((-1))), (1, .int ((-1))), (0, .ref (a 0))]) hx hb dX0_riskiestFork_5 rfl hl (by decide) rfl (fun ls hl => ?_)
  have key : ∀ (d i : Nat) (x : Int32) (y : Int32) (ls : Array Slot), i + d = gn σ → (x, y) = amx nI (fun p => if gEx (ge σ) p then -1 else gSm σ p) (-1, -1) i → lv_has ls 4 [(3, .int (nI i)), (2, .int y), (1, .int x), (0, .ref (a 0))] → W p l e (headSpec wsX0_riskiestFork { frames := 4, cells := 0, slots := 0, locals := 88 }).room s m [.ref (a 0)].toArray below meth c s.heap [] 0 0 (MQ below (vp_Si (fun r => r = (gRf σ).1)) [.ref (a 0)].toArray s 0 0 (fun _ => False)) (F0 m 6 ls []) := by
    intro d
    induction d with
    | zero =>
      intro i x y ls hi hinv hl
      obtain rfl : i = gn σ := by omega
      refine lv_iload_n hx hb dX0_riskiestFork_6 rfl (lv_at hl 0 rfl) ?_
      refine lv_aload_n hx hb dX0_riskiestFork_7 rfl (lv_at hl 3 rfl) ?_
      refine g_get (σ := σ) hx hb hts hts0 hown hK hP 0 (by decide) (by decide +kernel) rfl rfl dX0_riskiestFork_8 ?_
      refine lv_icmp_ge (tgt := 45) hx hb dX0_riskiestFork_11 (by decide) (fun _ => ?_) (fun q => absurd ((nI_le (Nat.le_refl _) (by omega))) q)
      refine lv_iload_n hx hb dX0_riskiestFork_45 rfl (lv_at hl 2 rfl) ?_
      exact W.iret hx hb hr (fun t ht hW => ⟨_, rfl, (congrArg Prod.fst hinv), ht⟩) (fun _ h => nomatch h) dX0_riskiestFork_46
    | succ d ih =>
      intro i x y ls hi hinv hl
      refine lv_iload_n hx hb dX0_riskiestFork_6 rfl (lv_at hl 0 rfl) ?_
      refine lv_aload_n hx hb dX0_riskiestFork_7 rfl (lv_at hl 3 rfl) ?_
      refine g_get (σ := σ) hx hb hts hts0 hown hK hP 0 (by decide) (by decide +kernel) rfl rfl dX0_riskiestFork_8 ?_
      refine lv_icmp_ge (tgt := 45) hx hb dX0_riskiestFork_11 (by decide) (fun q => absurd q ((nI_ge (by omega) (by omega)))) (fun _ => ?_)
      refine lv_aload_n hx hb dX0_riskiestFork_14 rfl (lv_at hl 3 rfl) ?_
      refine lv_iload_n hx hb dX0_riskiestFork_15 rfl (lv_at hl 0 rfl) ?_
      refine g0i (As := [.int (nI i)]) (rest := []) S (c_holdsExam l E a σ i (by omega)) (cwV 1 hts gX0_riskiestFork_X0_holdsExam rfl rfl rfl hdX0_holdsExam ⟨Nat.le_of_ble_eq_true rfl, Nat.le_of_ble_eq_true rfl⟩) hK hP rfl hl.1 rfl (Nat.le_of_ble_eq_true rfl) ⟨Nat.zero_le _, Nat.zero_le _⟩ dX0_riskiestFork_16 ?_
      refine lv_if_ne (tgt := 39) hx hb dX0_riskiestFork_19 (by decide) (fun c19 => ?_) (fun c19 => ?_)
      · refine lv_iinc (v := nI (i + 1)) (lv' := [(3, .int (nI (i + 1))), (2, .int y), (1, .int x), (0, .ref (a 0))]) hx hb dX0_riskiestFork_39 hl (k := 0) rfl (nI_1 i) (by decide) rfl (fun ls hl => ?_)
        refine lv_goto (tgt := 6) hx hb dX0_riskiestFork_42 (by decide) ?_
        exact ih (i + 1) x y ls (by omega) (by first | (rw [amx, ← hinv, if_pos (b2i_ne0.mp c19), if_neg (fun h => Int32.not_le.mpr h (by have q := amx_ge nI (fun p => if gEx (ge σ) p then -1 else gSm σ p) i; rw [← hinv] at q; exact q))]) | (rw [amx, ← hinv, b2i_eq0.mp c19]; exact (if_neg (fun h => Int32.not_le.mpr h c28)).symm) | (rw [amx, ← hinv, b2i_eq0.mp c19]; exact (if_pos (Int32.not_le.mp c28)).symm)) (lv_sub hl [0, 1, 2, 3] rfl)
      · refine lv_aload_n hx hb dX0_riskiestFork_22 rfl (lv_at hl 3 rfl) ?_
        refine lv_iload_n hx hb dX0_riskiestFork_23 rfl (lv_at hl 0 rfl) ?_
        refine g0i (As := [.int (nI i)]) (rest := []) S (c_smallerRisk l E a σ hO i (by omega)) (cwV 1 hts gX0_riskiestFork_X0_smallerRisk rfl rfl rfl hdX0_smallerRisk ⟨Nat.le_of_ble_eq_true rfl, Nat.le_of_ble_eq_true rfl⟩) hK hP rfl hl.1 rfl (Nat.le_of_ble_eq_true rfl) ⟨Nat.zero_le _, Nat.zero_le _⟩ dX0_riskiestFork_24 ?_
        refine lv_iload_n hx hb dX0_riskiestFork_27 rfl (lv_at hl 1 rfl) ?_
        refine lv_icmp_le (tgt := 39) hx hb dX0_riskiestFork_28 (by decide) (fun c28 => ?_) (fun c28 => ?_)
        · refine lv_iinc (v := nI (i + 1)) (lv' := [(3, .int (nI (i + 1))), (2, .int y), (1, .int x), (0, .ref (a 0))]) hx hb dX0_riskiestFork_39 hl (k := 0) rfl (nI_1 i) (by decide) rfl (fun ls hl => ?_)
          refine lv_goto (tgt := 6) hx hb dX0_riskiestFork_42 (by decide) ?_
          exact ih (i + 1) x y ls (by omega) (by first | (rw [amx, ← hinv, if_pos (b2i_ne0.mp c19), if_neg (fun h => Int32.not_le.mpr h (by have q := amx_ge nI (fun p => if gEx (ge σ) p then -1 else gSm σ p) i; rw [← hinv] at q; exact q))]) | (rw [amx, ← hinv, b2i_eq0.mp c19]; exact (if_neg (fun h => Int32.not_le.mpr h c28)).symm) | (rw [amx, ← hinv, b2i_eq0.mp c19]; exact (if_pos (Int32.not_le.mp c28)).symm)) (lv_sub hl [0, 1, 2, 3] rfl)
        · refine lv_iload_n hx hb dX0_riskiestFork_31 rfl (lv_at hl 0 rfl) ?_
          refine lv_istore_n (lv' := [(1, .int (nI i)), (3, .int (nI i)), (2, .int y), (0, .ref (a 0))]) hx hb dX0_riskiestFork_32 rfl hl (by decide) rfl (fun ls hl => ?_)
          refine lv_aload_n hx hb dX0_riskiestFork_33 rfl (lv_at hl 3 rfl) ?_
          refine lv_iload_n hx hb dX0_riskiestFork_34 rfl (lv_at hl 1 rfl) ?_
          refine g0i (As := [.int (nI i)]) (rest := []) S (c_smallerRisk l E a σ hO i (by omega)) (cwV 1 hts gX0_riskiestFork_X0_smallerRisk rfl rfl rfl hdX0_smallerRisk ⟨Nat.le_of_ble_eq_true rfl, Nat.le_of_ble_eq_true rfl⟩) hK hP rfl hl.1 rfl (Nat.le_of_ble_eq_true rfl) ⟨Nat.zero_le _, Nat.zero_le _⟩ dX0_riskiestFork_35 ?_
          refine lv_istore_n (lv' := [(2, .int (gSm σ i)), (1, .int (nI i)), (3, .int (nI i)), (0, .ref (a 0))]) hx hb dX0_riskiestFork_38 rfl hl (by decide) rfl (fun ls hl => ?_)
          refine lv_iinc (v := nI (i + 1)) (lv' := [(3, .int (nI (i + 1))), (2, .int (gSm σ i)), (1, .int (nI i)), (0, .ref (a 0))]) hx hb dX0_riskiestFork_39 hl (k := 2) rfl (nI_1 i) (by decide) rfl (fun ls hl => ?_)
          refine lv_goto (tgt := 6) hx hb dX0_riskiestFork_42 (by decide) ?_
          exact ih (i + 1) (nI i) (gSm σ i) ls (by omega) (by first | (rw [amx, ← hinv, if_pos (b2i_ne0.mp c19), if_neg (fun h => Int32.not_le.mpr h (by have q := amx_ge nI (fun p => if gEx (ge σ) p then -1 else gSm σ p) i; rw [← hinv] at q; exact q))]) | (rw [amx, ← hinv, b2i_eq0.mp c19]; exact (if_neg (fun h => Int32.not_le.mpr h c28)).symm) | (rw [amx, ← hinv, b2i_eq0.mp c19]; exact (if_pos (Int32.not_le.mp c28)).symm)) (lv_sub hl [0, 1, 2, 3] rfl)
  exact key (gn σ) 0 ((-1)) ((-1)) ls (by omega) rfl (lv_sub hl [0, 1, 2, 3] rfl)
theorem hinX0_requireRoom : ∀ w ∈ wsX00, w ∈ wsX0_requireRoom := fun w h => List.mem_cons_of_mem _ (List.mem_append_left _ (List.mem_append_right _ h))
theorem hdX0_requireRoom : yX0_requireRoom.cls = RX0 ∧ yX0_requireRoom.cls ≠ "java/lang/invoke/MethodHandle" ∧ yX0_requireRoom.cls ≠ "java/lang/invoke/VarHandle" ∧ (parseMethodDescriptor yX0_requireRoom.desc).map (fun d => d.parameters.length) = some 0 := by decide +kernel
set_option maxHeartbeats 4000000 in
set_option maxRecDepth 100000 in
theorem c_requireRoom (l : Launch) (E : GE) (a : Nat → Nat) (σ : GS) (h : gn σ < 40) : Met l yX0_requireRoom wsX0_requireRoom { frames := 0, cells := 0, slots := 0, locals := 0 } (va_Pc [.ref (a 0)] (gB E (gW E a σ))) (va_Sv (fun _ => True)) 0 0 (fun _ => False) := by
  refine w_met (cc := cX0_requireRoom) (maxL := 1) (ret := none) (by decide) rfl (Nat.le_of_ble_eq_true rfl) ?_
  intro p e s m below meth c ls S hr hlocks hname hB hl
  obtain ⟨hP, hK⟩ := hB
  obtain ⟨hx, hb, hml, hown, hts⟩ := id S
  have hts0 := hinX0_requireRoom
  have hl : lv_has ls 1 [(0, .ref (a 0))] := hl
  refine lv_aload_n hx hb dX0_requireRoom_0 rfl (lv_at hl 0 rfl) ?_
  refine g_get (σ := σ) hx hb hts hts0 hown hK hP 0 (by decide) (by decide +kernel) rfl rfl dX0_requireRoom_1 ?_
  refine lv_bipush (v := nI 40) hx hb dX0_requireRoom_4 (by decide) ?_
  refine lv_icmp_lt (tgt := 19) hx hb dX0_requireRoom_6 (by decide) (fun _ => ?_) (fun q => absurd ((nI_lt (by omega) (by decide))) q)
  exact W.vret hx hb hr (fun t ht hW => ⟨rfl, trivial, ht⟩) (fun _ h => nomatch h) dX0_requireRoom_19
theorem hinX0_requirePlace : ∀ w ∈ wsX00, w ∈ wsX0_requirePlace := fun w h => List.mem_cons_of_mem _ (List.mem_append_left _ (List.mem_append_right _ h))
theorem hdX0_requirePlace : yX0_requirePlace.cls = RX0 ∧ yX0_requirePlace.cls ≠ "java/lang/invoke/MethodHandle" ∧ yX0_requirePlace.cls ≠ "java/lang/invoke/VarHandle" ∧ (parseMethodDescriptor yX0_requirePlace.desc).map (fun d => d.parameters.length) = some 1 := by decide +kernel
set_option maxHeartbeats 4000000 in
set_option maxRecDepth 100000 in
theorem c_requirePlace (l : Launch) (E : GE) (a : Nat → Nat) (σ : GS) (k : Nat) (hn : gn σ ≤ 40) (hk : k < gn σ) : Met l yX0_requirePlace wsX0_requirePlace { frames := 0, cells := 0, slots := 0, locals := 0 } (va_Pc [.ref (a 0), .int (nI k)] (gB E (gW E a σ))) (va_Sv (fun _ => True)) 0 0 (fun _ => False) := by
  refine w_met (cc := cX0_requirePlace) (maxL := 2) (ret := none) (by decide) rfl (Nat.le_of_ble_eq_true rfl) ?_
  intro p e s m below meth c ls S hr hlocks hname hB hl
  obtain ⟨hP, hK⟩ := hB
  obtain ⟨hx, hb, hml, hown, hts⟩ := id S
  have hts0 := hinX0_requirePlace
  have hl : lv_has ls 2 [(0, .ref (a 0)), (1, .int (nI k))] := hl
  refine lv_iload_n hx hb dX0_requirePlace_0 rfl (lv_at hl 1 rfl) ?_
  refine lv_if_lt (tgt := 12) hx hb dX0_requirePlace_1 (by decide) (fun q => absurd q ((nI_pos (by omega)))) (fun _ => ?_)
  refine lv_iload_n hx hb dX0_requirePlace_4 rfl (lv_at hl 1 rfl) ?_
  refine lv_aload_n hx hb dX0_requirePlace_5 rfl (lv_at hl 0 rfl) ?_
  refine g_get (σ := σ) hx hb hts hts0 hown hK hP 0 (by decide) (by decide +kernel) rfl rfl dX0_requirePlace_6 ?_
  refine lv_icmp_lt (tgt := 22) hx hb dX0_requirePlace_9 (by decide) (fun _ => ?_) (fun q => absurd ((nI_lt (by omega) (by omega))) q)
  exact W.vret hx hb hr (fun t ht hW => ⟨rfl, trivial, ht⟩) (fun _ h => nomatch h) dX0_requirePlace_22
theorem hinX0_requireStudent : ∀ w ∈ wsX00, w ∈ wsX0_requireStudent := fun w h => List.mem_cons_of_mem _ (List.mem_append_left _ (List.mem_append_right _ h))
theorem hdX0_requireStudent : yX0_requireStudent.cls = RX0 ∧ yX0_requireStudent.cls ≠ "java/lang/invoke/MethodHandle" ∧ yX0_requireStudent.cls ≠ "java/lang/invoke/VarHandle" ∧ (parseMethodDescriptor yX0_requireStudent.desc).map (fun d => d.parameters.length) = some 1 := by decide +kernel
set_option maxHeartbeats 4000000 in
set_option maxRecDepth 100000 in
theorem c_requireStudent (l : Launch) (E : GE) (a : Nat → Nat) (σ : GS) (k : Nat) (hn : gk σ ≤ 8) (hk : k < gk σ) : Met l yX0_requireStudent wsX0_requireStudent { frames := 0, cells := 0, slots := 0, locals := 0 } (va_Pc [.ref (a 0), .int (nI k)] (gB E (gW E a σ))) (va_Sv (fun _ => True)) 0 0 (fun _ => False) := by
  refine w_met (cc := cX0_requireStudent) (maxL := 2) (ret := none) (by decide) rfl (Nat.le_of_ble_eq_true rfl) ?_
  intro p e s m below meth c ls S hr hlocks hname hB hl
  obtain ⟨hP, hK⟩ := hB
  obtain ⟨hx, hb, hml, hown, hts⟩ := id S
  have hts0 := hinX0_requireStudent
  have hl : lv_has ls 2 [(0, .ref (a 0)), (1, .int (nI k))] := hl
  refine lv_iload_n hx hb dX0_requireStudent_0 rfl (lv_at hl 1 rfl) ?_
  refine lv_if_lt (tgt := 12) hx hb dX0_requireStudent_1 (by decide) (fun q => absurd q ((nI_pos (by omega)))) (fun _ => ?_)
  refine lv_iload_n hx hb dX0_requireStudent_4 rfl (lv_at hl 1 rfl) ?_
  refine lv_aload_n hx hb dX0_requireStudent_5 rfl (lv_at hl 0 rfl) ?_
  refine g_get (σ := σ) hx hb hts hts0 hown hK hP 1 (by decide) (by decide +kernel) rfl rfl dX0_requireStudent_6 ?_
  refine lv_icmp_lt (tgt := 23) hx hb dX0_requireStudent_9 (by decide) (fun _ => ?_) (fun q => absurd ((nI_lt (by omega) (by omega))) q)
  exact W.vret hx hb hr (fun t ht hW => ⟨rfl, trivial, ht⟩) (fun _ h => nomatch h) dX0_requireStudent_23
theorem hinX0_requireExam : ∀ w ∈ wsX00, w ∈ wsX0_requireExam := fun w h => List.mem_cons_of_mem _ (List.mem_append_left _ (List.mem_append_right _ h))
theorem hdX0_requireExam : yX0_requireExam.cls = RX0 ∧ yX0_requireExam.cls ≠ "java/lang/invoke/MethodHandle" ∧ yX0_requireExam.cls ≠ "java/lang/invoke/VarHandle" ∧ (parseMethodDescriptor yX0_requireExam.desc).map (fun d => d.parameters.length) = some 1 := by decide +kernel
set_option maxHeartbeats 4000000 in
set_option maxRecDepth 100000 in
theorem c_requireExam (l : Launch) (E : GE) (a : Nat → Nat) (σ : GS) (k : Nat) (hn : gn σ ≤ 40) (hk : k < gn σ) (hE : gEx (ge σ) k = true) : Met l yX0_requireExam wsX0_requireExam { frames := 2, cells := 0, slots := 0, locals := 41 } (va_Pc [.ref (a 0), .int (nI k)] (gB E (gW E a σ))) (va_Sv (fun _ => True)) 0 0 (fun _ => False) := by
  refine w_met (cc := cX0_requireExam) (maxL := 2) (ret := none) (by decide) rfl (Nat.le_of_ble_eq_true rfl) ?_
  intro p e s m below meth c ls S hr hlocks hname hB hl
  obtain ⟨hP, hK⟩ := hB
  obtain ⟨hx, hb, hml, hown, hts⟩ := id S
  have hts0 := hinX0_requireExam
  have hl : lv_has ls 2 [(0, .ref (a 0)), (1, .int (nI k))] := hl
  refine lv_aload_n hx hb dX0_requireExam_0 rfl (lv_at hl 0 rfl) ?_
  refine lv_iload_n hx hb dX0_requireExam_1 rfl (lv_at hl 1 rfl) ?_
  refine g0v (As := [.int (nI k)]) (rest := []) S (c_requirePlace l E a σ k (by omega) (by omega)) (cwV 1 hts gX0_requireExam_X0_requirePlace rfl rfl rfl hdX0_requirePlace ⟨Nat.le_of_ble_eq_true rfl, Nat.le_of_ble_eq_true rfl⟩) hK hP rfl hl.1 rfl (Nat.le_of_ble_eq_true rfl) ⟨Nat.zero_le _, Nat.zero_le _⟩ dX0_requireExam_2 ?_
  refine lv_aload_n hx hb dX0_requireExam_5 rfl (lv_at hl 0 rfl) ?_
  refine lv_iload_n hx hb dX0_requireExam_6 rfl (lv_at hl 1 rfl) ?_
  refine g0i (As := [.int (nI k)]) (rest := []) S (c_holdsExam l E a σ k (by omega)) (cwV 1 hts gX0_requireExam_X0_holdsExam rfl rfl rfl hdX0_holdsExam ⟨Nat.le_of_ble_eq_true rfl, Nat.le_of_ble_eq_true rfl⟩) hK hP rfl hl.1 rfl (Nat.le_of_ble_eq_true rfl) ⟨Nat.zero_le _, Nat.zero_le _⟩ dX0_requireExam_7 ?_
  refine lv_if_ne (tgt := 23) hx hb dX0_requireExam_10 (by decide) (fun _ => ?_) (fun q => absurd q ((b2i_ne0.mpr hE)))
  exact W.vret hx hb hr (fun t ht hW => ⟨rfl, trivial, ht⟩) (fun _ h => nomatch h) dX0_requireExam_23
theorem hinX0_requireFork : ∀ w ∈ wsX00, w ∈ wsX0_requireFork := fun w h => List.mem_cons_of_mem _ (List.mem_append_left _ (List.mem_append_right _ h))
theorem hdX0_requireFork : yX0_requireFork.cls = RX0 ∧ yX0_requireFork.cls ≠ "java/lang/invoke/MethodHandle" ∧ yX0_requireFork.cls ≠ "java/lang/invoke/VarHandle" ∧ (parseMethodDescriptor yX0_requireFork.desc).map (fun d => d.parameters.length) = some 1 := by decide +kernel
set_option maxHeartbeats 4000000 in
set_option maxRecDepth 100000 in
theorem c_requireFork (l : Launch) (E : GE) (a : Nat → Nat) (σ : GS) (k : Nat) (hn : gn σ ≤ 40) (hk : k < gn σ) (hE : gEx (ge σ) k = false) : Met l yX0_requireFork wsX0_requireFork { frames := 2, cells := 0, slots := 0, locals := 41 } (va_Pc [.ref (a 0), .int (nI k)] (gB E (gW E a σ))) (va_Sv (fun _ => True)) 0 0 (fun _ => False) := by
  refine w_met (cc := cX0_requireFork) (maxL := 2) (ret := none) (by decide) rfl (Nat.le_of_ble_eq_true rfl) ?_
  intro p e s m below meth c ls S hr hlocks hname hB hl
  obtain ⟨hP, hK⟩ := hB
  obtain ⟨hx, hb, hml, hown, hts⟩ := id S
  have hts0 := hinX0_requireFork
  have hl : lv_has ls 2 [(0, .ref (a 0)), (1, .int (nI k))] := hl
  refine lv_aload_n hx hb dX0_requireFork_0 rfl (lv_at hl 0 rfl) ?_
  refine lv_iload_n hx hb dX0_requireFork_1 rfl (lv_at hl 1 rfl) ?_
  refine g0v (As := [.int (nI k)]) (rest := []) S (c_requirePlace l E a σ k (by omega) (by omega)) (cwV 1 hts gX0_requireFork_X0_requirePlace rfl rfl rfl hdX0_requirePlace ⟨Nat.le_of_ble_eq_true rfl, Nat.le_of_ble_eq_true rfl⟩) hK hP rfl hl.1 rfl (Nat.le_of_ble_eq_true rfl) ⟨Nat.zero_le _, Nat.zero_le _⟩ dX0_requireFork_2 ?_
  refine lv_aload_n hx hb dX0_requireFork_5 rfl (lv_at hl 0 rfl) ?_
  refine lv_iload_n hx hb dX0_requireFork_6 rfl (lv_at hl 1 rfl) ?_
  refine g0i (As := [.int (nI k)]) (rest := []) S (c_holdsExam l E a σ k (by omega)) (cwV 1 hts gX0_requireFork_X0_holdsExam rfl rfl rfl hdX0_holdsExam ⟨Nat.le_of_ble_eq_true rfl, Nat.le_of_ble_eq_true rfl⟩) hK hP rfl hl.1 rfl (Nat.le_of_ble_eq_true rfl) ⟨Nat.zero_le _, Nat.zero_le _⟩ dX0_requireFork_7 ?_
  refine lv_if_eq (tgt := 24) hx hb dX0_requireFork_10 (by decide) (fun _ => ?_) (fun q => absurd ((b2i_eq0.mpr hE)) q)
  exact W.vret hx hb hr (fun t ht hW => ⟨rfl, trivial, ht⟩) (fun _ h => nomatch h) dX0_requireFork_24
theorem hinX0_requireGraded : ∀ w ∈ wsX00, w ∈ wsX0_requireGraded := fun w h => List.mem_cons_of_mem _ (List.mem_append_left _ (List.mem_append_right _ h))
theorem hdX0_requireGraded : yX0_requireGraded.cls = RX0 ∧ yX0_requireGraded.cls ≠ "java/lang/invoke/MethodHandle" ∧ yX0_requireGraded.cls ≠ "java/lang/invoke/VarHandle" ∧ (parseMethodDescriptor yX0_requireGraded.desc).map (fun d => d.parameters.length) = some 1 := by decide +kernel
set_option maxHeartbeats 4000000 in
set_option maxRecDepth 100000 in
theorem c_requireGraded (l : Launch) (E : GE) (a : Nat → Nat) (σ : GS) (hO : GOK σ) (k : Nat) (hk : k < 8) (hG : gHas σ (gst σ k) = true) : Met l yX0_requireGraded wsX0_requireGraded { frames := 2, cells := 0, slots := 0, locals := 42 } (va_Pc [.ref (a 0), .int (nI k)] (gB E (gW E a σ))) (va_Sv (fun _ => True)) 0 0 (fun _ => False) := by
  refine w_met (cc := cX0_requireGraded) (maxL := 2) (ret := none) (by decide) rfl (Nat.le_of_ble_eq_true rfl) ?_
  intro p e s m below meth c ls S hr hlocks hname hB hl
  obtain ⟨hP, hK⟩ := hB
  obtain ⟨hx, hb, hml, hown, hts⟩ := id S
  have t2 := hO.2.2.2.2.1 k
  have hts0 := hinX0_requireGraded
  have hl : lv_has ls 2 [(0, .ref (a 0)), (1, .int (nI k))] := hl
  refine lv_aload_n hx hb dX0_requireGraded_0 rfl (lv_at hl 0 rfl) ?_
  refine lv_aload_n hx hb dX0_requireGraded_1 rfl (lv_at hl 0 rfl) ?_
  refine g_get (σ := σ) hx hb hts hts0 hown hK hP 15 (by decide) (by decide +kernel) rfl rfl dX0_requireGraded_2 ?_
  refine lv_iload_n hx hb dX0_requireGraded_5 rfl (lv_at hl 1 rfl) ?_
  refine g_at S gX0_requireGraded_X0_at hK hP 11 rfl (by decide) (v := nI (gst σ k)) (vp_in_nI (by omega) (by decide)) (by rw [nI_clamp (by omega)]) hl.1 (Nat.le_of_ble_eq_true rfl) ⟨Nat.zero_le _, Nat.zero_le _⟩ ⟨Nat.le_of_ble_eq_true rfl, Nat.le_of_ble_eq_true rfl⟩ dX0_requireGraded_6 ?_
  refine g0i (As := [.int (nI (gst σ k))]) (rest := []) S (c_hasGrade l E a σ (gst σ k) (by omega)) (cwV 1 hts gX0_requireGraded_X0_hasGrade rfl rfl rfl hdX0_hasGrade ⟨Nat.le_of_ble_eq_true rfl, Nat.le_of_ble_eq_true rfl⟩) hK hP rfl hl.1 rfl (Nat.le_of_ble_eq_true rfl) ⟨Nat.zero_le _, Nat.zero_le _⟩ dX0_requireGraded_9 ?_
  refine lv_if_ne (tgt := 26) hx hb dX0_requireGraded_12 (by decide) (fun _ => ?_) (fun q => absurd q ((b2i_ne0.mpr hG)))
  exact W.vret hx hb hr (fun t ht hW => ⟨rfl, trivial, ht⟩) (fun _ h => nomatch h) dX0_requireGraded_26
theorem hinX0_sureGrade : ∀ w ∈ wsX00, w ∈ wsX0_sureGrade := fun w h => List.mem_cons_of_mem _ (List.mem_append_left _ (List.mem_append_right _ h))
theorem hdX0_sureGrade : yX0_sureGrade.cls = RX0 ∧ yX0_sureGrade.cls ≠ "java/lang/invoke/MethodHandle" ∧ yX0_sureGrade.cls ≠ "java/lang/invoke/VarHandle" ∧ (parseMethodDescriptor yX0_sureGrade.desc).map (fun d => d.parameters.length) = some 1 := by decide +kernel
set_option maxHeartbeats 4000000 in
set_option maxRecDepth 100000 in
theorem c_sureGrade (l : Launch) (E : GE) (a : Nat → Nat) (σ : GS) (k : Nat) (hn : gn σ ≤ 40) (hk : k < gn σ) : Met l yX0_sureGrade wsX0_sureGrade { frames := 1, cells := 0, slots := 0, locals := 21 } (va_Pc [.ref (a 0), .int (nI k)] (gB E (gW E a σ))) (vp_Si (fun r => r = gsu σ k)) 0 0 (fun _ => False) := by
  refine w_met (cc := cX0_sureGrade) (maxL := 2) (ret := (some .int)) (by decide) rfl (Nat.le_of_ble_eq_true rfl) ?_
  intro p e s m below meth c ls S hr hlocks hname hB hl
  obtain ⟨hP, hK⟩ := hB
  obtain ⟨hx, hb, hml, hown, hts⟩ := id S
  have hts0 := hinX0_sureGrade
  have hl : lv_has ls 2 [(0, .ref (a 0)), (1, .int (nI k))] := hl
  refine lv_aload_n hx hb dX0_sureGrade_0 rfl (lv_at hl 0 rfl) ?_
  refine lv_iload_n hx hb dX0_sureGrade_1 rfl (lv_at hl 1 rfl) ?_
  refine g0v (As := [.int (nI k)]) (rest := []) S (c_requirePlace l E a σ k (by omega) (by omega)) (cwV 1 hts gX0_sureGrade_X0_requirePlace rfl rfl rfl hdX0_requirePlace ⟨Nat.le_of_ble_eq_true rfl, Nat.le_of_ble_eq_true rfl⟩) hK hP rfl hl.1 rfl (Nat.le_of_ble_eq_true rfl) ⟨Nat.zero_le _, Nat.zero_le _⟩ dX0_sureGrade_2 ?_
  refine lv_aload_n hx hb dX0_sureGrade_5 rfl (lv_at hl 0 rfl) ?_
  refine g_get (σ := σ) hx hb hts hts0 hown hK hP 11 (by decide) (by decide +kernel) rfl rfl dX0_sureGrade_6 ?_
  refine lv_iload_n hx hb dX0_sureGrade_9 rfl (lv_at hl 1 rfl) ?_
  refine g_at S gX0_sureGrade_X0_at hK hP 7 rfl (by decide) (v := gsu σ k) (vp_in_nI (by omega) (by decide)) (by rw [nI_clamp (by omega)]) hl.1 (Nat.le_of_ble_eq_true rfl) ⟨Nat.zero_le _, Nat.zero_le _⟩ ⟨Nat.le_of_ble_eq_true rfl, Nat.le_of_ble_eq_true rfl⟩ dX0_sureGrade_10 ?_
  exact W.iret hx hb hr (fun t ht hW => ⟨_, rfl, rfl, ht⟩) (fun _ h => nomatch h) dX0_sureGrade_13
theorem hinX0_hope : ∀ w ∈ wsX00, w ∈ wsX0_hope := fun w h => List.mem_cons_of_mem _ (List.mem_append_left _ (List.mem_append_right _ h))
theorem hdX0_hope : yX0_hope.cls = RX0 ∧ yX0_hope.cls ≠ "java/lang/invoke/MethodHandle" ∧ yX0_hope.cls ≠ "java/lang/invoke/VarHandle" ∧ (parseMethodDescriptor yX0_hope.desc).map (fun d => d.parameters.length) = some 1 := by decide +kernel
set_option maxHeartbeats 4000000 in
set_option maxRecDepth 100000 in
theorem c_hope (l : Launch) (E : GE) (a : Nat → Nat) (σ : GS) (k : Nat) (hn : gn σ ≤ 40) (hk : k < gn σ) : Met l yX0_hope wsX0_hope { frames := 1, cells := 0, slots := 0, locals := 21 } (va_Pc [.ref (a 0), .int (nI k)] (gB E (gW E a σ))) (vp_Si (fun r => r = gho σ k)) 0 0 (fun _ => False) := by
  refine w_met (cc := cX0_hope) (maxL := 2) (ret := (some .int)) (by decide) rfl (Nat.le_of_ble_eq_true rfl) ?_
  intro p e s m below meth c ls S hr hlocks hname hB hl
  obtain ⟨hP, hK⟩ := hB
  obtain ⟨hx, hb, hml, hown, hts⟩ := id S
  have hts0 := hinX0_hope
  have hl : lv_has ls 2 [(0, .ref (a 0)), (1, .int (nI k))] := hl
  refine lv_aload_n hx hb dX0_hope_0 rfl (lv_at hl 0 rfl) ?_
  refine lv_iload_n hx hb dX0_hope_1 rfl (lv_at hl 1 rfl) ?_
  refine g0v (As := [.int (nI k)]) (rest := []) S (c_requirePlace l E a σ k (by omega) (by omega)) (cwV 1 hts gX0_hope_X0_requirePlace rfl rfl rfl hdX0_requirePlace ⟨Nat.le_of_ble_eq_true rfl, Nat.le_of_ble_eq_true rfl⟩) hK hP rfl hl.1 rfl (Nat.le_of_ble_eq_true rfl) ⟨Nat.zero_le _, Nat.zero_le _⟩ dX0_hope_2 ?_
  refine lv_aload_n hx hb dX0_hope_5 rfl (lv_at hl 0 rfl) ?_
  refine g_get (σ := σ) hx hb hts hts0 hown hK hP 12 (by decide) (by decide +kernel) rfl rfl dX0_hope_6 ?_
  refine lv_iload_n hx hb dX0_hope_9 rfl (lv_at hl 1 rfl) ?_
  refine g_at S gX0_hope_X0_at hK hP 8 rfl (by decide) (v := gho σ k) (vp_in_nI (by omega) (by decide)) (by rw [nI_clamp (by omega)]) hl.1 (Nat.le_of_ble_eq_true rfl) ⟨Nat.zero_le _, Nat.zero_le _⟩ ⟨Nat.le_of_ble_eq_true rfl, Nat.le_of_ble_eq_true rfl⟩ dX0_hope_10 ?_
  exact W.iret hx hb hr (fun t ht hW => ⟨_, rfl, rfl, ht⟩) (fun _ h => nomatch h) dX0_hope_13
theorem hinX0_leftOf : ∀ w ∈ wsX00, w ∈ wsX0_leftOf := fun w h => List.mem_cons_of_mem _ (List.mem_append_left _ (List.mem_append_right _ h))
theorem hdX0_leftOf : yX0_leftOf.cls = RX0 ∧ yX0_leftOf.cls ≠ "java/lang/invoke/MethodHandle" ∧ yX0_leftOf.cls ≠ "java/lang/invoke/VarHandle" ∧ (parseMethodDescriptor yX0_leftOf.desc).map (fun d => d.parameters.length) = some 1 := by decide +kernel
set_option maxHeartbeats 4000000 in
set_option maxRecDepth 100000 in
theorem c_leftOf (l : Launch) (E : GE) (a : Nat → Nat) (σ : GS) (k : Nat) (hn : gn σ ≤ 40) (hk : k < gn σ) (hE : gEx (ge σ) k = false) : Met l yX0_leftOf wsX0_leftOf { frames := 3, cells := 0, slots := 0, locals := 62 } (va_Pc [.ref (a 0), .int (nI k)] (gB E (gW E a σ))) (vp_Si (fun r => r = nI (glf σ k))) 0 0 (fun _ => False) := by
  refine w_met (cc := cX0_leftOf) (maxL := 2) (ret := (some .int)) (by decide) rfl (Nat.le_of_ble_eq_true rfl) ?_
  intro p e s m below meth c ls S hr hlocks hname hB hl
  obtain ⟨hP, hK⟩ := hB
  obtain ⟨hx, hb, hml, hown, hts⟩ := id S
  have hts0 := hinX0_leftOf
  have hl : lv_has ls 2 [(0, .ref (a 0)), (1, .int (nI k))] := hl
  refine lv_aload_n hx hb dX0_leftOf_0 rfl (lv_at hl 0 rfl) ?_
  refine lv_iload_n hx hb dX0_leftOf_1 rfl (lv_at hl 1 rfl) ?_
  refine g0v (As := [.int (nI k)]) (rest := []) S (c_requireFork l E a σ k (by omega) (by omega) hE) (cwV 1 hts gX0_leftOf_X0_requireFork rfl rfl rfl hdX0_requireFork ⟨Nat.le_of_ble_eq_true rfl, Nat.le_of_ble_eq_true rfl⟩) hK hP rfl hl.1 rfl (Nat.le_of_ble_eq_true rfl) ⟨Nat.zero_le _, Nat.zero_le _⟩ dX0_leftOf_2 ?_
  refine lv_aload_n hx hb dX0_leftOf_5 rfl (lv_at hl 0 rfl) ?_
  refine g_get (σ := σ) hx hb hts hts0 hown hK hP 7 (by decide) (by decide +kernel) rfl rfl dX0_leftOf_6 ?_
  refine lv_iload_n hx hb dX0_leftOf_9 rfl (lv_at hl 1 rfl) ?_
  refine g_at S gX0_leftOf_X0_at hK hP 3 rfl (by decide) (v := nI (glf σ k)) (vp_in_nI (by omega) (by decide)) (by rw [nI_clamp (by omega)]) hl.1 (Nat.le_of_ble_eq_true rfl) ⟨Nat.zero_le _, Nat.zero_le _⟩ ⟨Nat.le_of_ble_eq_true rfl, Nat.le_of_ble_eq_true rfl⟩ dX0_leftOf_10 ?_
  exact W.iret hx hb hr (fun t ht hW => ⟨_, rfl, rfl, ht⟩) (fun _ h => nomatch h) dX0_leftOf_13
theorem hinX0_rightOf : ∀ w ∈ wsX00, w ∈ wsX0_rightOf := fun w h => List.mem_cons_of_mem _ (List.mem_append_left _ (List.mem_append_right _ h))
theorem hdX0_rightOf : yX0_rightOf.cls = RX0 ∧ yX0_rightOf.cls ≠ "java/lang/invoke/MethodHandle" ∧ yX0_rightOf.cls ≠ "java/lang/invoke/VarHandle" ∧ (parseMethodDescriptor yX0_rightOf.desc).map (fun d => d.parameters.length) = some 1 := by decide +kernel
set_option maxHeartbeats 4000000 in
set_option maxRecDepth 100000 in
theorem c_rightOf (l : Launch) (E : GE) (a : Nat → Nat) (σ : GS) (k : Nat) (hn : gn σ ≤ 40) (hk : k < gn σ) (hE : gEx (ge σ) k = false) : Met l yX0_rightOf wsX0_rightOf { frames := 3, cells := 0, slots := 0, locals := 62 } (va_Pc [.ref (a 0), .int (nI k)] (gB E (gW E a σ))) (vp_Si (fun r => r = nI (grt σ k))) 0 0 (fun _ => False) := by
  refine w_met (cc := cX0_rightOf) (maxL := 2) (ret := (some .int)) (by decide) rfl (Nat.le_of_ble_eq_true rfl) ?_
  intro p e s m below meth c ls S hr hlocks hname hB hl
  obtain ⟨hP, hK⟩ := hB
  obtain ⟨hx, hb, hml, hown, hts⟩ := id S
  have hts0 := hinX0_rightOf
  have hl : lv_has ls 2 [(0, .ref (a 0)), (1, .int (nI k))] := hl
  refine lv_aload_n hx hb dX0_rightOf_0 rfl (lv_at hl 0 rfl) ?_
  refine lv_iload_n hx hb dX0_rightOf_1 rfl (lv_at hl 1 rfl) ?_
  refine g0v (As := [.int (nI k)]) (rest := []) S (c_requireFork l E a σ k (by omega) (by omega) hE) (cwV 1 hts gX0_rightOf_X0_requireFork rfl rfl rfl hdX0_requireFork ⟨Nat.le_of_ble_eq_true rfl, Nat.le_of_ble_eq_true rfl⟩) hK hP rfl hl.1 rfl (Nat.le_of_ble_eq_true rfl) ⟨Nat.zero_le _, Nat.zero_le _⟩ dX0_rightOf_2 ?_
  refine lv_aload_n hx hb dX0_rightOf_5 rfl (lv_at hl 0 rfl) ?_
  refine g_get (σ := σ) hx hb hts hts0 hown hK hP 8 (by decide) (by decide +kernel) rfl rfl dX0_rightOf_6 ?_
  refine lv_iload_n hx hb dX0_rightOf_9 rfl (lv_at hl 1 rfl) ?_
  refine g_at S gX0_rightOf_X0_at hK hP 4 rfl (by decide) (v := nI (grt σ k)) (vp_in_nI (by omega) (by decide)) (by rw [nI_clamp (by omega)]) hl.1 (Nat.le_of_ble_eq_true rfl) ⟨Nat.zero_le _, Nat.zero_le _⟩ ⟨Nat.le_of_ble_eq_true rfl, Nat.le_of_ble_eq_true rfl⟩ dX0_rightOf_10 ?_
  exact W.iret hx hb hr (fun t ht hW => ⟨_, rfl, rfl, ht⟩) (fun _ h => nomatch h) dX0_rightOf_13
theorem hinX0_weightOf : ∀ w ∈ wsX00, w ∈ wsX0_weightOf := fun w h => List.mem_cons_of_mem _ (List.mem_append_left _ (List.mem_append_right _ h))
theorem hdX0_weightOf : yX0_weightOf.cls = RX0 ∧ yX0_weightOf.cls ≠ "java/lang/invoke/MethodHandle" ∧ yX0_weightOf.cls ≠ "java/lang/invoke/VarHandle" ∧ (parseMethodDescriptor yX0_weightOf.desc).map (fun d => d.parameters.length) = some 1 := by decide +kernel
set_option maxHeartbeats 4000000 in
set_option maxRecDepth 100000 in
theorem c_weightOf (l : Launch) (E : GE) (a : Nat → Nat) (σ : GS) (k : Nat) (hn : gn σ ≤ 40) (hk : k < gn σ) (hE : gEx (ge σ) k = false) : Met l yX0_weightOf wsX0_weightOf { frames := 3, cells := 0, slots := 0, locals := 62 } (va_Pc [.ref (a 0), .int (nI k)] (gB E (gW E a σ))) (vp_Si (fun r => r = gwt σ k)) 0 0 (fun _ => False) := by
  refine w_met (cc := cX0_weightOf) (maxL := 2) (ret := (some .int)) (by decide) rfl (Nat.le_of_ble_eq_true rfl) ?_
  intro p e s m below meth c ls S hr hlocks hname hB hl
  obtain ⟨hP, hK⟩ := hB
  obtain ⟨hx, hb, hml, hown, hts⟩ := id S
  have hts0 := hinX0_weightOf
  have hl : lv_has ls 2 [(0, .ref (a 0)), (1, .int (nI k))] := hl
  refine lv_aload_n hx hb dX0_weightOf_0 rfl (lv_at hl 0 rfl) ?_
  refine lv_iload_n hx hb dX0_weightOf_1 rfl (lv_at hl 1 rfl) ?_
  refine g0v (As := [.int (nI k)]) (rest := []) S (c_requireFork l E a σ k (by omega) (by omega) hE) (cwV 1 hts gX0_weightOf_X0_requireFork rfl rfl rfl hdX0_requireFork ⟨Nat.le_of_ble_eq_true rfl, Nat.le_of_ble_eq_true rfl⟩) hK hP rfl hl.1 rfl (Nat.le_of_ble_eq_true rfl) ⟨Nat.zero_le _, Nat.zero_le _⟩ dX0_weightOf_2 ?_
  refine lv_aload_n hx hb dX0_weightOf_5 rfl (lv_at hl 0 rfl) ?_
  refine g_get (σ := σ) hx hb hts hts0 hown hK hP 9 (by decide) (by decide +kernel) rfl rfl dX0_weightOf_6 ?_
  refine lv_iload_n hx hb dX0_weightOf_9 rfl (lv_at hl 1 rfl) ?_
  refine g_at S gX0_weightOf_X0_at hK hP 5 rfl (by decide) (v := gwt σ k) (vp_in_nI (by omega) (by decide)) (by rw [nI_clamp (by omega)]) hl.1 (Nat.le_of_ble_eq_true rfl) ⟨Nat.zero_le _, Nat.zero_le _⟩ ⟨Nat.le_of_ble_eq_true rfl, Nat.le_of_ble_eq_true rfl⟩ dX0_weightOf_10 ?_
  exact W.iret hx hb hr (fun t ht hW => ⟨_, rfl, rfl, ht⟩) (fun _ h => nomatch h) dX0_weightOf_13
theorem hinX0_hindsight : ∀ w ∈ wsX00, w ∈ wsX0_hindsight := fun w h => List.mem_cons_of_mem _ (List.mem_append_left _ (List.mem_append_right _ h))
theorem hdX0_hindsight : yX0_hindsight.cls = RX0 ∧ yX0_hindsight.cls ≠ "java/lang/invoke/MethodHandle" ∧ yX0_hindsight.cls ≠ "java/lang/invoke/VarHandle" ∧ (parseMethodDescriptor yX0_hindsight.desc).map (fun d => d.parameters.length) = some 1 := by decide +kernel
set_option maxHeartbeats 4000000 in
set_option maxRecDepth 100000 in
theorem c_hindsight (l : Launch) (E : GE) (a : Nat → Nat) (σ : GS) (k : Nat) (hn : gn σ ≤ 40) (hk : k < gn σ) (hE : gEx (ge σ) k = false) : Met l yX0_hindsight wsX0_hindsight { frames := 3, cells := 0, slots := 0, locals := 62 } (va_Pc [.ref (a 0), .int (nI k)] (gB E (gW E a σ))) (vp_Si (fun r => r = ghs σ k)) 0 0 (fun _ => False) := by
  refine w_met (cc := cX0_hindsight) (maxL := 2) (ret := (some .int)) (by decide) rfl (Nat.le_of_ble_eq_true rfl) ?_
  intro p e s m below meth c ls S hr hlocks hname hB hl
  obtain ⟨hP, hK⟩ := hB
  obtain ⟨hx, hb, hml, hown, hts⟩ := id S
  have hts0 := hinX0_hindsight
  have hl : lv_has ls 2 [(0, .ref (a 0)), (1, .int (nI k))] := hl
  refine lv_aload_n hx hb dX0_hindsight_0 rfl (lv_at hl 0 rfl) ?_
  refine lv_iload_n hx hb dX0_hindsight_1 rfl (lv_at hl 1 rfl) ?_
  refine g0v (As := [.int (nI k)]) (rest := []) S (c_requireFork l E a σ k (by omega) (by omega) hE) (cwV 1 hts gX0_hindsight_X0_requireFork rfl rfl rfl hdX0_requireFork ⟨Nat.le_of_ble_eq_true rfl, Nat.le_of_ble_eq_true rfl⟩) hK hP rfl hl.1 rfl (Nat.le_of_ble_eq_true rfl) ⟨Nat.zero_le _, Nat.zero_le _⟩ dX0_hindsight_2 ?_
  refine lv_aload_n hx hb dX0_hindsight_5 rfl (lv_at hl 0 rfl) ?_
  refine g_get (σ := σ) hx hb hts hts0 hown hK hP 13 (by decide) (by decide +kernel) rfl rfl dX0_hindsight_6 ?_
  refine lv_iload_n hx hb dX0_hindsight_9 rfl (lv_at hl 1 rfl) ?_
  refine g_at S gX0_hindsight_X0_at hK hP 9 rfl (by decide) (v := ghs σ k) (vp_in_nI (by omega) (by decide)) (by rw [nI_clamp (by omega)]) hl.1 (Nat.le_of_ble_eq_true rfl) ⟨Nat.zero_le _, Nat.zero_le _⟩ ⟨Nat.le_of_ble_eq_true rfl, Nat.le_of_ble_eq_true rfl⟩ dX0_hindsight_10 ?_
  exact W.iret hx hb hr (fun t ht hW => ⟨_, rfl, rfl, ht⟩) (fun _ h => nomatch h) dX0_hindsight_13
theorem hinX0_gradeOf : ∀ w ∈ wsX00, w ∈ wsX0_gradeOf := fun w h => List.mem_cons_of_mem _ (List.mem_append_left _ (List.mem_append_right _ h))
theorem hdX0_gradeOf : yX0_gradeOf.cls = RX0 ∧ yX0_gradeOf.cls ≠ "java/lang/invoke/MethodHandle" ∧ yX0_gradeOf.cls ≠ "java/lang/invoke/VarHandle" ∧ (parseMethodDescriptor yX0_gradeOf.desc).map (fun d => d.parameters.length) = some 1 := by decide +kernel
set_option maxHeartbeats 4000000 in
set_option maxRecDepth 100000 in
theorem c_gradeOf (l : Launch) (E : GE) (a : Nat → Nat) (σ : GS) (k : Nat) (hn : gn σ ≤ 40) (hk : k < gn σ) (hE : gEx (ge σ) k = true) : Met l yX0_gradeOf wsX0_gradeOf { frames := 3, cells := 0, slots := 0, locals := 62 } (va_Pc [.ref (a 0), .int (nI k)] (gB E (gW E a σ))) (vp_Si (fun r => r = ggr σ k)) 0 0 (fun _ => False) := by
  refine w_met (cc := cX0_gradeOf) (maxL := 2) (ret := (some .int)) (by decide) rfl (Nat.le_of_ble_eq_true rfl) ?_
  intro p e s m below meth c ls S hr hlocks hname hB hl
  obtain ⟨hP, hK⟩ := hB
  obtain ⟨hx, hb, hml, hown, hts⟩ := id S
  have hts0 := hinX0_gradeOf
  have hl : lv_has ls 2 [(0, .ref (a 0)), (1, .int (nI k))] := hl
  refine lv_aload_n hx hb dX0_gradeOf_0 rfl (lv_at hl 0 rfl) ?_
  refine lv_iload_n hx hb dX0_gradeOf_1 rfl (lv_at hl 1 rfl) ?_
  refine g0v (As := [.int (nI k)]) (rest := []) S (c_requireExam l E a σ k (by omega) (by omega) hE) (cwV 1 hts gX0_gradeOf_X0_requireExam rfl rfl rfl hdX0_requireExam ⟨Nat.le_of_ble_eq_true rfl, Nat.le_of_ble_eq_true rfl⟩) hK hP rfl hl.1 rfl (Nat.le_of_ble_eq_true rfl) ⟨Nat.zero_le _, Nat.zero_le _⟩ dX0_gradeOf_2 ?_
  refine lv_aload_n hx hb dX0_gradeOf_5 rfl (lv_at hl 0 rfl) ?_
  refine g_get (σ := σ) hx hb hts hts0 hown hK hP 10 (by decide) (by decide +kernel) rfl rfl dX0_gradeOf_6 ?_
  refine lv_iload_n hx hb dX0_gradeOf_9 rfl (lv_at hl 1 rfl) ?_
  refine g_at S gX0_gradeOf_X0_at hK hP 6 rfl (by decide) (v := ggr σ k) (vp_in_nI (by omega) (by decide)) (by rw [nI_clamp (by omega)]) hl.1 (Nat.le_of_ble_eq_true rfl) ⟨Nat.zero_le _, Nat.zero_le _⟩ ⟨Nat.le_of_ble_eq_true rfl, Nat.le_of_ble_eq_true rfl⟩ dX0_gradeOf_10 ?_
  exact W.iret hx hb hr (fun t ht hW => ⟨_, rfl, rfl, ht⟩) (fun _ h => nomatch h) dX0_gradeOf_13
theorem hinX0_isExam : ∀ w ∈ wsX00, w ∈ wsX0_isExam := fun w h => List.mem_cons_of_mem _ (List.mem_append_left _ (List.mem_append_right _ h))
theorem hdX0_isExam : yX0_isExam.cls = RX0 ∧ yX0_isExam.cls ≠ "java/lang/invoke/MethodHandle" ∧ yX0_isExam.cls ≠ "java/lang/invoke/VarHandle" ∧ (parseMethodDescriptor yX0_isExam.desc).map (fun d => d.parameters.length) = some 1 := by decide +kernel
set_option maxHeartbeats 4000000 in
set_option maxRecDepth 100000 in
theorem c_isExam (l : Launch) (E : GE) (a : Nat → Nat) (σ : GS) (k : Nat) (hn : gn σ ≤ 40) (hk : k < gn σ) : Met l yX0_isExam wsX0_isExam { frames := 2, cells := 0, slots := 0, locals := 41 } (va_Pc [.ref (a 0), .int (nI k)] (gB E (gW E a σ))) (vp_Si (fun r => r = b2i (gEx (ge σ) k))) 0 0 (fun _ => False) := by
  refine w_met (cc := cX0_isExam) (maxL := 2) (ret := (some .boolean)) (by decide) rfl (Nat.le_of_ble_eq_true rfl) ?_
  intro p e s m below meth c ls S hr hlocks hname hB hl
  obtain ⟨hP, hK⟩ := hB
  obtain ⟨hx, hb, hml, hown, hts⟩ := id S
  have hts0 := hinX0_isExam
  have hl : lv_has ls 2 [(0, .ref (a 0)), (1, .int (nI k))] := hl
  refine lv_aload_n hx hb dX0_isExam_0 rfl (lv_at hl 0 rfl) ?_
  refine lv_iload_n hx hb dX0_isExam_1 rfl (lv_at hl 1 rfl) ?_
  refine g0v (As := [.int (nI k)]) (rest := []) S (c_requirePlace l E a σ k (by omega) (by omega)) (cwV 1 hts gX0_isExam_X0_requirePlace rfl rfl rfl hdX0_requirePlace ⟨Nat.le_of_ble_eq_true rfl, Nat.le_of_ble_eq_true rfl⟩) hK hP rfl hl.1 rfl (Nat.le_of_ble_eq_true rfl) ⟨Nat.zero_le _, Nat.zero_le _⟩ dX0_isExam_2 ?_
  refine lv_aload_n hx hb dX0_isExam_5 rfl (lv_at hl 0 rfl) ?_
  refine lv_iload_n hx hb dX0_isExam_6 rfl (lv_at hl 1 rfl) ?_
  refine g0i (As := [.int (nI k)]) (rest := []) S (c_holdsExam l E a σ k (by omega)) (cwV 1 hts gX0_isExam_X0_holdsExam rfl rfl rfl hdX0_holdsExam ⟨Nat.le_of_ble_eq_true rfl, Nat.le_of_ble_eq_true rfl⟩) hK hP rfl hl.1 rfl (Nat.le_of_ble_eq_true rfl) ⟨Nat.zero_le _, Nat.zero_le _⟩ dX0_isExam_7 ?_
  exact W.zret hx hb hr (b2i_nar _) (fun t ht hW => ⟨_, rfl, rfl, ht⟩) (fun _ h => nomatch h) dX0_isExam_10
theorem hinX0_isGraded : ∀ w ∈ wsX00, w ∈ wsX0_isGraded := fun w h => List.mem_cons_of_mem _ (List.mem_append_left _ (List.mem_append_right _ h))
theorem hdX0_isGraded : yX0_isGraded.cls = RX0 ∧ yX0_isGraded.cls ≠ "java/lang/invoke/MethodHandle" ∧ yX0_isGraded.cls ≠ "java/lang/invoke/VarHandle" ∧ (parseMethodDescriptor yX0_isGraded.desc).map (fun d => d.parameters.length) = some 1 := by decide +kernel
set_option maxHeartbeats 4000000 in
set_option maxRecDepth 100000 in
theorem c_isGraded (l : Launch) (E : GE) (a : Nat → Nat) (σ : GS) (k : Nat) (hn : gn σ ≤ 40) (hk : k < gn σ) (hE : gEx (ge σ) k = true) : Met l yX0_isGraded wsX0_isGraded { frames := 3, cells := 0, slots := 0, locals := 62 } (va_Pc [.ref (a 0), .int (nI k)] (gB E (gW E a σ))) (vp_Si (fun r => r = b2i (gHas σ k))) 0 0 (fun _ => False) := by
  refine w_met (cc := cX0_isGraded) (maxL := 2) (ret := (some .boolean)) (by decide) rfl (Nat.le_of_ble_eq_true rfl) ?_
  intro p e s m below meth c ls S hr hlocks hname hB hl
  obtain ⟨hP, hK⟩ := hB
  obtain ⟨hx, hb, hml, hown, hts⟩ := id S
  have hts0 := hinX0_isGraded
  have hl : lv_has ls 2 [(0, .ref (a 0)), (1, .int (nI k))] := hl
  refine lv_aload_n hx hb dX0_isGraded_0 rfl (lv_at hl 0 rfl) ?_
  refine lv_iload_n hx hb dX0_isGraded_1 rfl (lv_at hl 1 rfl) ?_
  refine g0v (As := [.int (nI k)]) (rest := []) S (c_requireExam l E a σ k (by omega) (by omega) hE) (cwV 1 hts gX0_isGraded_X0_requireExam rfl rfl rfl hdX0_requireExam ⟨Nat.le_of_ble_eq_true rfl, Nat.le_of_ble_eq_true rfl⟩) hK hP rfl hl.1 rfl (Nat.le_of_ble_eq_true rfl) ⟨Nat.zero_le _, Nat.zero_le _⟩ dX0_isGraded_2 ?_
  refine lv_aload_n hx hb dX0_isGraded_5 rfl (lv_at hl 0 rfl) ?_
  refine lv_iload_n hx hb dX0_isGraded_6 rfl (lv_at hl 1 rfl) ?_
  refine g0i (As := [.int (nI k)]) (rest := []) S (c_hasGrade l E a σ k (by omega)) (cwV 1 hts gX0_isGraded_X0_hasGrade rfl rfl rfl hdX0_hasGrade ⟨Nat.le_of_ble_eq_true rfl, Nat.le_of_ble_eq_true rfl⟩) hK hP rfl hl.1 rfl (Nat.le_of_ble_eq_true rfl) ⟨Nat.zero_le _, Nat.zero_le _⟩ dX0_isGraded_7 ?_
  exact W.zret hx hb hr (b2i_nar _) (fun t ht hW => ⟨_, rfl, rfl, ht⟩) (fun _ h => nomatch h) dX0_isGraded_10
theorem hinX0_placeOf : ∀ w ∈ wsX00, w ∈ wsX0_placeOf := fun w h => List.mem_cons_of_mem _ (List.mem_append_left _ (List.mem_append_right _ h))
theorem hdX0_placeOf : yX0_placeOf.cls = RX0 ∧ yX0_placeOf.cls ≠ "java/lang/invoke/MethodHandle" ∧ yX0_placeOf.cls ≠ "java/lang/invoke/VarHandle" ∧ (parseMethodDescriptor yX0_placeOf.desc).map (fun d => d.parameters.length) = some 1 := by decide +kernel
set_option maxHeartbeats 4000000 in
set_option maxRecDepth 100000 in
theorem c_placeOf (l : Launch) (E : GE) (a : Nat → Nat) (σ : GS) (k : Nat) (hn : gk σ ≤ 8) (hk : k < gk σ) : Met l yX0_placeOf wsX0_placeOf { frames := 1, cells := 0, slots := 0, locals := 21 } (va_Pc [.ref (a 0), .int (nI k)] (gB E (gW E a σ))) (vp_Si (fun r => r = nI (gst σ k))) 0 0 (fun _ => False) := by
  refine w_met (cc := cX0_placeOf) (maxL := 2) (ret := (some .int)) (by decide) rfl (Nat.le_of_ble_eq_true rfl) ?_
  intro p e s m below meth c ls S hr hlocks hname hB hl
  obtain ⟨hP, hK⟩ := hB
  obtain ⟨hx, hb, hml, hown, hts⟩ := id S
  have hts0 := hinX0_placeOf
  have hl : lv_has ls 2 [(0, .ref (a 0)), (1, .int (nI k))] := hl
  refine lv_aload_n hx hb dX0_placeOf_0 rfl (lv_at hl 0 rfl) ?_
  refine lv_iload_n hx hb dX0_placeOf_1 rfl (lv_at hl 1 rfl) ?_
  refine g0v (As := [.int (nI k)]) (rest := []) S (c_requireStudent l E a σ k (by omega) (by omega)) (cwV 1 hts gX0_placeOf_X0_requireStudent rfl rfl rfl hdX0_requireStudent ⟨Nat.le_of_ble_eq_true rfl, Nat.le_of_ble_eq_true rfl⟩) hK hP rfl hl.1 rfl (Nat.le_of_ble_eq_true rfl) ⟨Nat.zero_le _, Nat.zero_le _⟩ dX0_placeOf_2 ?_
  refine lv_aload_n hx hb dX0_placeOf_5 rfl (lv_at hl 0 rfl) ?_
  refine g_get (σ := σ) hx hb hts hts0 hown hK hP 15 (by decide) (by decide +kernel) rfl rfl dX0_placeOf_6 ?_
  refine lv_iload_n hx hb dX0_placeOf_9 rfl (lv_at hl 1 rfl) ?_
  refine g_at S gX0_placeOf_X0_at hK hP 11 rfl (by decide) (v := nI (gst σ k)) (vp_in_nI (by omega) (by decide)) (by rw [nI_clamp (by omega)]) hl.1 (Nat.le_of_ble_eq_true rfl) ⟨Nat.zero_le _, Nat.zero_le _⟩ ⟨Nat.le_of_ble_eq_true rfl, Nat.le_of_ble_eq_true rfl⟩ dX0_placeOf_10 ?_
  exact W.iret hx hb hr (fun t ht hW => ⟨_, rfl, rfl, ht⟩) (fun _ h => nomatch h) dX0_placeOf_13
theorem hinX0_passedBy : ∀ w ∈ wsX00, w ∈ wsX0_passedBy := fun w h => List.mem_cons_of_mem _ (List.mem_append_left _ (List.mem_append_right _ h))
theorem hdX0_passedBy : yX0_passedBy.cls = RX0 ∧ yX0_passedBy.cls ≠ "java/lang/invoke/MethodHandle" ∧ yX0_passedBy.cls ≠ "java/lang/invoke/VarHandle" ∧ (parseMethodDescriptor yX0_passedBy.desc).map (fun d => d.parameters.length) = some 1 := by decide +kernel
set_option maxHeartbeats 4000000 in
set_option maxRecDepth 100000 in
theorem c_passedBy (l : Launch) (E : GE) (a : Nat → Nat) (σ : GS) (k : Nat) (hn : gk σ ≤ 8) (hk : k < gk σ) : Met l yX0_passedBy wsX0_passedBy { frames := 1, cells := 0, slots := 0, locals := 21 } (va_Pc [.ref (a 0), .int (nI k)] (gB E (gW E a σ))) (vp_Si (fun r => r = nI (gpc σ k))) 0 0 (fun _ => False) := by
  refine w_met (cc := cX0_passedBy) (maxL := 2) (ret := (some .int)) (by decide) rfl (Nat.le_of_ble_eq_true rfl) ?_
  intro p e s m below meth c ls S hr hlocks hname hB hl
  obtain ⟨hP, hK⟩ := hB
  obtain ⟨hx, hb, hml, hown, hts⟩ := id S
  have hts0 := hinX0_passedBy
  have hl : lv_has ls 2 [(0, .ref (a 0)), (1, .int (nI k))] := hl
  refine lv_aload_n hx hb dX0_passedBy_0 rfl (lv_at hl 0 rfl) ?_
  refine lv_iload_n hx hb dX0_passedBy_1 rfl (lv_at hl 1 rfl) ?_
  refine g0v (As := [.int (nI k)]) (rest := []) S (c_requireStudent l E a σ k (by omega) (by omega)) (cwV 1 hts gX0_passedBy_X0_requireStudent rfl rfl rfl hdX0_requireStudent ⟨Nat.le_of_ble_eq_true rfl, Nat.le_of_ble_eq_true rfl⟩) hK hP rfl hl.1 rfl (Nat.le_of_ble_eq_true rfl) ⟨Nat.zero_le _, Nat.zero_le _⟩ dX0_passedBy_2 ?_
  refine lv_aload_n hx hb dX0_passedBy_5 rfl (lv_at hl 0 rfl) ?_
  refine g_get (σ := σ) hx hb hts hts0 hown hK hP 16 (by decide) (by decide +kernel) rfl rfl dX0_passedBy_6 ?_
  refine lv_iload_n hx hb dX0_passedBy_9 rfl (lv_at hl 1 rfl) ?_
  refine g_at S gX0_passedBy_X0_at hK hP 12 rfl (by decide) (v := nI (gpc σ k)) (vp_in_nI (by omega) (by decide)) (by rw [nI_clamp (by omega)]) hl.1 (Nat.le_of_ble_eq_true rfl) ⟨Nat.zero_le _, Nat.zero_le _⟩ ⟨Nat.le_of_ble_eq_true rfl, Nat.le_of_ble_eq_true rfl⟩ dX0_passedBy_10 ?_
  exact W.iret hx hb hr (fun t ht hW => ⟨_, rfl, rfl, ht⟩) (fun _ h => nomatch h) dX0_passedBy_13
theorem hinX0_reaches : ∀ w ∈ wsX00, w ∈ wsX0_reaches := fun w h => List.mem_cons_of_mem _ (List.mem_append_left _ (List.mem_append_right _ h))
theorem hdX0_reaches : yX0_reaches.cls = RX0 ∧ yX0_reaches.cls ≠ "java/lang/invoke/MethodHandle" ∧ yX0_reaches.cls ≠ "java/lang/invoke/VarHandle" ∧ (parseMethodDescriptor yX0_reaches.desc).map (fun d => d.parameters.length) = some 2 := by decide +kernel
set_option maxHeartbeats 4000000 in
set_option maxRecDepth 100000 in
theorem c_reaches (l : Launch) (E : GE) (a : Nat → Nat) (σ : GS) (k : Nat) (hn : gn σ ≤ 40) (hk : k < gn σ) (k2 : Nat) (hk2 : k2 < gn σ) : Met l yX0_reaches wsX0_reaches { frames := 1, cells := 0, slots := 0, locals := 21 } (va_Pc [.ref (a 0), .int (nI k), .int (nI k2)] (gB E (gW E a σ))) (vp_Si (fun r => r = b2i (gEx (grb σ k) k2))) 0 0 (fun _ => False) := by
  refine w_met (cc := cX0_reaches) (maxL := 3) (ret := (some .boolean)) (by decide) rfl (Nat.le_of_ble_eq_true rfl) ?_
  intro p e s m below meth c ls S hr hlocks hname hB hl
  obtain ⟨hP, hK⟩ := hB
  obtain ⟨hx, hb, hml, hown, hts⟩ := id S
  have hts0 := hinX0_reaches
  have hl : lv_has ls 3 [(0, .ref (a 0)), (1, .int (nI k)), (2, .int (nI k2))] := hl
  refine lv_aload_n hx hb dX0_reaches_0 rfl (lv_at hl 0 rfl) ?_
  refine lv_iload_n hx hb dX0_reaches_1 rfl (lv_at hl 1 rfl) ?_
  refine g0v (As := [.int (nI k)]) (rest := []) S (c_requirePlace l E a σ k (by omega) (by omega)) (cwV 1 hts gX0_reaches_X0_requirePlace rfl rfl rfl hdX0_requirePlace ⟨Nat.le_of_ble_eq_true rfl, Nat.le_of_ble_eq_true rfl⟩) hK hP rfl hl.1 rfl (Nat.le_of_ble_eq_true rfl) ⟨Nat.zero_le _, Nat.zero_le _⟩ dX0_reaches_2 ?_
  refine lv_aload_n hx hb dX0_reaches_5 rfl (lv_at hl 0 rfl) ?_
  refine lv_iload_n hx hb dX0_reaches_6 rfl (lv_at hl 2 rfl) ?_
  refine g0v (As := [.int (nI k2)]) (rest := []) S (c_requirePlace l E a σ k2 (by omega) (by omega)) (cwV 1 hts gX0_reaches_X0_requirePlace rfl rfl rfl hdX0_requirePlace ⟨Nat.le_of_ble_eq_true rfl, Nat.le_of_ble_eq_true rfl⟩) hK hP rfl hl.1 rfl (Nat.le_of_ble_eq_true rfl) ⟨Nat.zero_le _, Nat.zero_le _⟩ dX0_reaches_7 ?_
  refine lv_aload_n hx hb dX0_reaches_10 rfl (lv_at hl 0 rfl) ?_
  refine g_get (σ := σ) hx hb hts hts0 hown hK hP 14 (by decide) (by decide +kernel) rfl rfl dX0_reaches_11 ?_
  refine lv_iload_n hx hb dX0_reaches_14 rfl (lv_at hl 1 rfl) ?_
  refine g_bitsAt S gX0_reaches_X0_bitsAt hK hP 10 rfl (by decide) (v := grb σ k) (vp_in_nI (by omega) (by decide)) (by rw [nI_clamp (by omega)]) hl.1 (Nat.le_of_ble_eq_true rfl) ⟨Nat.zero_le _, Nat.zero_le _⟩ ⟨Nat.le_of_ble_eq_true rfl, Nat.le_of_ble_eq_true rfl⟩ dX0_reaches_15 ?_
  refine lv_iload_n hx hb dX0_reaches_18 rfl (lv_at hl 2 rfl) ?_
  refine g_bitOf S gX0_reaches_X0_bitOf hK (k := k2) (by omega) hl.1 (Nat.le_of_ble_eq_true rfl) ⟨Nat.zero_le _, Nat.zero_le _⟩ ⟨Nat.le_of_ble_eq_true rfl, Nat.le_of_ble_eq_true rfl⟩ dX0_reaches_19 ?_
  refine lv_land hx hb dX0_reaches_22 ?_
  refine lv_lconst (v := 0) hx hb dX0_reaches_23 (by decide) ?_
  refine W.lcmp hx hb dX0_reaches_24 ?_
  refine lv_if_eq (tgt := 32) hx hb dX0_reaches_25 (by decide) (fun c25 => ?_) (fun c25 => ?_)
  · refine lv_iconst (v := 0) hx hb dX0_reaches_32 (by decide) ?_
    exact W.zret hx hb hr rfl (fun t ht hW => ⟨_, rfl, (by first | (rw [gEx, decide_eq_true ((lg_cmp_eq _ _).mp c25)]; rfl) | (rw [gEx, decide_eq_false (fun h => c25 ((lg_cmp_eq _ _).mpr h))]; rfl)), ht⟩) (fun _ h => nomatch h) dX0_reaches_33
  · refine lv_iconst (v := 1) hx hb dX0_reaches_28 (by decide) ?_
    refine lv_goto (tgt := 33) hx hb dX0_reaches_29 (by decide) ?_
    exact W.zret hx hb hr rfl (fun t ht hW => ⟨_, rfl, (by first | (rw [gEx, decide_eq_true ((lg_cmp_eq _ _).mp c25)]; rfl) | (rw [gEx, decide_eq_false (fun h => c25 ((lg_cmp_eq _ _).mpr h))]; rfl)), ht⟩) (fun _ h => nomatch h) dX0_reaches_33
theorem hinX0_examsFrom : ∀ w ∈ wsX00, w ∈ wsX0_examsFrom := fun w h => List.mem_cons_of_mem _ (List.mem_append_left _ (List.mem_append_right _ h))
theorem hdX0_examsFrom : yX0_examsFrom.cls = RX0 ∧ yX0_examsFrom.cls ≠ "java/lang/invoke/MethodHandle" ∧ yX0_examsFrom.cls ≠ "java/lang/invoke/VarHandle" ∧ (parseMethodDescriptor yX0_examsFrom.desc).map (fun d => d.parameters.length) = some 1 := by decide +kernel
set_option maxHeartbeats 4000000 in
set_option maxRecDepth 100000 in
theorem c_examsFrom (l : Launch) (E : GE) (a : Nat → Nat) (σ : GS) (k : Nat) (hn : gn σ ≤ 40) (hk : k < gn σ) : Met l yX0_examsFrom wsX0_examsFrom { frames := 1, cells := 0, slots := 0, locals := 21 } (va_Pc [.ref (a 0), .int (nI k)] (gB E (gW E a σ))) (vp_Si (fun r => r = gEf σ k)) 0 0 (fun _ => False) := by
  refine w_met (cc := cX0_examsFrom) (maxL := 2) (ret := (some .int)) (by decide) rfl (Nat.le_of_ble_eq_true rfl) ?_
  intro p e s m below meth c ls S hr hlocks hname hB hl
  obtain ⟨hP, hK⟩ := hB
  obtain ⟨hx, hb, hml, hown, hts⟩ := id S
  have hts0 := hinX0_examsFrom
  have hl : lv_has ls 2 [(0, .ref (a 0)), (1, .int (nI k))] := hl
  refine lv_aload_n hx hb dX0_examsFrom_0 rfl (lv_at hl 0 rfl) ?_
  refine lv_iload_n hx hb dX0_examsFrom_1 rfl (lv_at hl 1 rfl) ?_
  refine g0v (As := [.int (nI k)]) (rest := []) S (c_requirePlace l E a σ k (by omega) (by omega)) (cwV 1 hts gX0_examsFrom_X0_requirePlace rfl rfl rfl hdX0_requirePlace ⟨Nat.le_of_ble_eq_true rfl, Nat.le_of_ble_eq_true rfl⟩) hK hP rfl hl.1 rfl (Nat.le_of_ble_eq_true rfl) ⟨Nat.zero_le _, Nat.zero_le _⟩ dX0_examsFrom_2 ?_
  refine lv_aload_n hx hb dX0_examsFrom_5 rfl (lv_at hl 0 rfl) ?_
  refine g_get (σ := σ) hx hb hts hts0 hown hK hP 14 (by decide) (by decide +kernel) rfl rfl dX0_examsFrom_6 ?_
  refine lv_iload_n hx hb dX0_examsFrom_9 rfl (lv_at hl 1 rfl) ?_
  refine g_bitsAt S gX0_examsFrom_X0_bitsAt hK hP 10 rfl (by decide) (v := grb σ k) (vp_in_nI (by omega) (by decide)) (by rw [nI_clamp (by omega)]) hl.1 (Nat.le_of_ble_eq_true rfl) ⟨Nat.zero_le _, Nat.zero_le _⟩ ⟨Nat.le_of_ble_eq_true rfl, Nat.le_of_ble_eq_true rfl⟩ dX0_examsFrom_10 ?_
  refine lv_aload_n hx hb dX0_examsFrom_13 rfl (lv_at hl 0 rfl) ?_
  refine g_get (σ := σ) hx hb hts hts0 hown hK hP 4 (by decide) (by decide +kernel) rfl rfl dX0_examsFrom_14 ?_
  refine lv_land hx hb dX0_examsFrom_17 ?_
  refine g_si (As := [.long ((grb σ k) &&& (ge σ))]) (rest := []) S (c_bitCount l E ((grb σ k) &&& (ge σ))) (va_cwS 1 hts gX0_examsFrom_J13_bitCount_95d88 rfl rfl rfl hdJ13_bitCount_95d88.2 ⟨Nat.le_of_ble_eq_true rfl, Nat.le_of_ble_eq_true rfl⟩) hK (hP.sub [] rfl) rfl hl.1 rfl (Nat.le_of_ble_eq_true rfl) ⟨Nat.zero_le _, Nat.zero_le _⟩ dX0_examsFrom_18 ?_
  exact W.iret hx hb hr (fun t ht hW => ⟨_, rfl, rfl, ht⟩) (fun _ h => nomatch h) dX0_examsFrom_21
theorem hinX0_exams : ∀ w ∈ wsX00, w ∈ wsX0_exams := fun w h => List.mem_cons_of_mem _ (List.mem_append_right _ h)
theorem hdX0_exams : yX0_exams.cls = RX0 ∧ yX0_exams.cls ≠ "java/lang/invoke/MethodHandle" ∧ yX0_exams.cls ≠ "java/lang/invoke/VarHandle" ∧ (parseMethodDescriptor yX0_exams.desc).map (fun d => d.parameters.length) = some 0 := by decide +kernel
set_option maxHeartbeats 4000000 in
set_option maxRecDepth 100000 in
theorem c_exams (l : Launch) (E : GE) (a : Nat → Nat) (σ : GS)  : Met l yX0_exams wsX0_exams { frames := 1, cells := 0, slots := 0, locals := 21 } (va_Pc [.ref (a 0)] (gB E (gW E a σ))) (vp_Si (fun r => r = popc (ge σ))) 0 0 (fun _ => False) := by
  refine w_met (cc := cX0_exams) (maxL := 1) (ret := (some .int)) (by decide) rfl (Nat.le_of_ble_eq_true rfl) ?_
  intro p e s m below meth c ls S hr hlocks hname hB hl
  obtain ⟨hP, hK⟩ := hB
  obtain ⟨hx, hb, hml, hown, hts⟩ := id S
  have hts0 := hinX0_exams
  have hl : lv_has ls 1 [(0, .ref (a 0))] := hl
  refine lv_aload_n hx hb dX0_exams_0 rfl (lv_at hl 0 rfl) ?_
  refine g_get (σ := σ) hx hb hts hts0 hown hK hP 4 (by decide) (by decide +kernel) rfl rfl dX0_exams_1 ?_
  refine g_si (As := [.long (ge σ)]) (rest := []) S (c_bitCount l E (ge σ)) (va_cwS 1 hts gX0_exams_J13_bitCount_95d88 rfl rfl rfl hdJ13_bitCount_95d88.2 ⟨Nat.le_of_ble_eq_true rfl, Nat.le_of_ble_eq_true rfl⟩) hK (hP.sub [] rfl) rfl hl.1 rfl (Nat.le_of_ble_eq_true rfl) ⟨Nat.zero_le _, Nat.zero_le _⟩ dX0_exams_4 ?_
  exact W.iret hx hb hr (fun t ht hW => ⟨_, rfl, rfl, ht⟩) (fun _ h => nomatch h) dX0_exams_7
theorem hinX0_places : ∀ w ∈ wsX00, w ∈ wsX0_places := fun w h => List.mem_cons_of_mem _ (List.mem_append_right _ h)
theorem hdX0_places : yX0_places.cls = RX0 ∧ yX0_places.cls ≠ "java/lang/invoke/MethodHandle" ∧ yX0_places.cls ≠ "java/lang/invoke/VarHandle" ∧ (parseMethodDescriptor yX0_places.desc).map (fun d => d.parameters.length) = some 0 := by decide +kernel
set_option maxHeartbeats 4000000 in
set_option maxRecDepth 100000 in
theorem c_places (l : Launch) (E : GE) (a : Nat → Nat) (σ : GS)  : Met l yX0_places wsX0_places { frames := 0, cells := 0, slots := 0, locals := 0 } (va_Pc [.ref (a 0)] (gB E (gW E a σ))) (vp_Si (fun r => r = nI (gn σ))) 0 0 (fun _ => False) := by
  refine w_met (cc := cX0_places) (maxL := 1) (ret := (some .int)) (by decide) rfl (Nat.le_of_ble_eq_true rfl) ?_
  intro p e s m below meth c ls S hr hlocks hname hB hl
  obtain ⟨hP, hK⟩ := hB
  obtain ⟨hx, hb, hml, hown, hts⟩ := id S
  have hts0 := hinX0_places
  have hl : lv_has ls 1 [(0, .ref (a 0))] := hl
  refine lv_aload_n hx hb dX0_places_0 rfl (lv_at hl 0 rfl) ?_
  refine g_get (σ := σ) hx hb hts hts0 hown hK hP 0 (by decide) (by decide +kernel) rfl rfl dX0_places_1 ?_
  exact W.iret hx hb hr (fun t ht hW => ⟨_, rfl, rfl, ht⟩) (fun _ h => nomatch h) dX0_places_4
theorem hinX0_graded : ∀ w ∈ wsX00, w ∈ wsX0_graded := fun w h => List.mem_cons_of_mem _ (List.mem_append_right _ h)
theorem hdX0_graded : yX0_graded.cls = RX0 ∧ yX0_graded.cls ≠ "java/lang/invoke/MethodHandle" ∧ yX0_graded.cls ≠ "java/lang/invoke/VarHandle" ∧ (parseMethodDescriptor yX0_graded.desc).map (fun d => d.parameters.length) = some 0 := by decide +kernel
set_option maxHeartbeats 4000000 in
set_option maxRecDepth 100000 in
theorem c_graded (l : Launch) (E : GE) (a : Nat → Nat) (σ : GS)  : Met l yX0_graded wsX0_graded { frames := 0, cells := 0, slots := 0, locals := 0 } (va_Pc [.ref (a 0)] (gB E (gW E a σ))) (vp_Si (fun r => r = gc σ)) 0 0 (fun _ => False) := by
  refine w_met (cc := cX0_graded) (maxL := 1) (ret := (some .int)) (by decide) rfl (Nat.le_of_ble_eq_true rfl) ?_
  intro p e s m below meth c ls S hr hlocks hname hB hl
  obtain ⟨hP, hK⟩ := hB
  obtain ⟨hx, hb, hml, hown, hts⟩ := id S
  have hts0 := hinX0_graded
  have hl : lv_has ls 1 [(0, .ref (a 0))] := hl
  refine lv_aload_n hx hb dX0_graded_0 rfl (lv_at hl 0 rfl) ?_
  refine g_get (σ := σ) hx hb hts hts0 hown hK hP 2 (by decide) (by decide +kernel) rfl rfl dX0_graded_1 ?_
  exact W.iret hx hb hr (fun t ht hW => ⟨_, rfl, rfl, ht⟩) (fun _ h => nomatch h) dX0_graded_4
theorem hinX0_students : ∀ w ∈ wsX00, w ∈ wsX0_students := fun w h => List.mem_cons_of_mem _ (List.mem_append_right _ h)
theorem hdX0_students : yX0_students.cls = RX0 ∧ yX0_students.cls ≠ "java/lang/invoke/MethodHandle" ∧ yX0_students.cls ≠ "java/lang/invoke/VarHandle" ∧ (parseMethodDescriptor yX0_students.desc).map (fun d => d.parameters.length) = some 0 := by decide +kernel
set_option maxHeartbeats 4000000 in
set_option maxRecDepth 100000 in
theorem c_students (l : Launch) (E : GE) (a : Nat → Nat) (σ : GS)  : Met l yX0_students wsX0_students { frames := 0, cells := 0, slots := 0, locals := 0 } (va_Pc [.ref (a 0)] (gB E (gW E a σ))) (vp_Si (fun r => r = nI (gk σ))) 0 0 (fun _ => False) := by
  refine w_met (cc := cX0_students) (maxL := 1) (ret := (some .int)) (by decide) rfl (Nat.le_of_ble_eq_true rfl) ?_
  intro p e s m below meth c ls S hr hlocks hname hB hl
  obtain ⟨hP, hK⟩ := hB
  obtain ⟨hx, hb, hml, hown, hts⟩ := id S
  have hts0 := hinX0_students
  have hl : lv_has ls 1 [(0, .ref (a 0))] := hl
  refine lv_aload_n hx hb dX0_students_0 rfl (lv_at hl 0 rfl) ?_
  refine g_get (σ := σ) hx hb hts hts0 hown hK hP 1 (by decide) (by decide +kernel) rfl rfl dX0_students_1 ?_
  exact W.iret hx hb hr (fun t ht hW => ⟨_, rfl, rfl, ht⟩) (fun _ h => nomatch h) dX0_students_4
theorem hinX0_risk : ∀ w ∈ wsX00, w ∈ wsX0_risk := fun w h => List.mem_cons_of_mem _ (List.mem_append_left _ (List.mem_append_right _ h))
theorem hdX0_risk : yX0_risk.cls = RX0 ∧ yX0_risk.cls ≠ "java/lang/invoke/MethodHandle" ∧ yX0_risk.cls ≠ "java/lang/invoke/VarHandle" ∧ (parseMethodDescriptor yX0_risk.desc).map (fun d => d.parameters.length) = some 2 := by decide +kernel
set_option maxHeartbeats 4000000 in
set_option maxRecDepth 100000 in
theorem c_risk (l : Launch) (E : GE) (a : Nat → Nat) (σ : GS) (hO : GOK σ) (k : Nat) (hk : k < gn σ) (hE : gEx (ge σ) k = false) (b : Bool) : Met l yX0_risk wsX0_risk { frames := 3, cells := 0, slots := 0, locals := 67 } (va_Pc [.ref (a 0), .int (nI k), .int (b2i b)] (gB E (gW E a σ))) (vp_Si (fun r => r = gRisk σ k b)) 0 0 (fun _ => False) := by
  refine w_met (cc := cX0_risk) (maxL := 3) (ret := (some .int)) (by decide) rfl (Nat.le_of_ble_eq_true rfl) ?_
  intro p e s m below meth c ls S hr hlocks hname hB hl
  obtain ⟨hP, hK⟩ := hB
  obtain ⟨hx, hb, hml, hown, hts⟩ := id S
  have tn := hO.1
  have hts0 := hinX0_risk
  have hl : lv_has ls 3 [(0, .ref (a 0)), (1, .int (nI k)), (2, .int (b2i b))] := hl
  refine lv_aload_n hx hb dX0_risk_0 rfl (lv_at hl 0 rfl) ?_
  refine lv_iload_n hx hb dX0_risk_1 rfl (lv_at hl 1 rfl) ?_
  refine g0v (As := [.int (nI k)]) (rest := []) S (c_requireFork l E a σ k (by omega) (by omega) hE) (cwV 1 hts gX0_risk_X0_requireFork rfl rfl rfl hdX0_requireFork ⟨Nat.le_of_ble_eq_true rfl, Nat.le_of_ble_eq_true rfl⟩) hK hP rfl hl.1 rfl (Nat.le_of_ble_eq_true rfl) ⟨Nat.zero_le _, Nat.zero_le _⟩ dX0_risk_2 ?_
  refine lv_aload_n hx hb dX0_risk_5 rfl (lv_at hl 0 rfl) ?_
  refine lv_iload_n hx hb dX0_risk_6 rfl (lv_at hl 1 rfl) ?_
  refine lv_iload_n hx hb dX0_risk_7 rfl (lv_at hl 2 rfl) ?_
  refine g0i (As := [.int (nI k), .int (b2i b)]) (rest := []) S (c_riskOfPath l E a σ hO k (by omega) b) (cwV 2 hts gX0_risk_X0_riskOfPath rfl rfl rfl hdX0_riskOfPath ⟨Nat.le_of_ble_eq_true rfl, Nat.le_of_ble_eq_true rfl⟩) hK hP rfl hl.1 rfl (Nat.le_of_ble_eq_true rfl) ⟨Nat.zero_le _, Nat.zero_le _⟩ dX0_risk_8 ?_
  exact W.iret hx hb hr (fun t ht hW => ⟨_, rfl, rfl, ht⟩) (fun _ h => nomatch h) dX0_risk_11
theorem hinX0_planTurnsRight : ∀ w ∈ wsX00, w ∈ wsX0_planTurnsRight := fun w h => List.mem_cons_of_mem _ (List.mem_append_left _ (List.mem_append_right _ h))
theorem hdX0_planTurnsRight : yX0_planTurnsRight.cls = RX0 ∧ yX0_planTurnsRight.cls ≠ "java/lang/invoke/MethodHandle" ∧ yX0_planTurnsRight.cls ≠ "java/lang/invoke/VarHandle" ∧ (parseMethodDescriptor yX0_planTurnsRight.desc).map (fun d => d.parameters.length) = some 1 := by decide +kernel
set_option maxHeartbeats 4000000 in
set_option maxRecDepth 100000 in
theorem c_planTurnsRight (l : Launch) (E : GE) (a : Nat → Nat) (σ : GS) (hO : GOK σ) (k : Nat) (hk : k < gn σ) (hE : gEx (ge σ) k = false) : Met l yX0_planTurnsRight wsX0_planTurnsRight { frames := 4, cells := 0, slots := 0, locals := 88 } (va_Pc [.ref (a 0), .int (nI k)] (gB E (gW E a σ))) (vp_Si (fun r => r = b2i (gPl σ k))) 0 0 (fun _ => False) := by
  refine w_met (cc := cX0_planTurnsRight) (maxL := 2) (ret := (some .boolean)) (by decide) rfl (Nat.le_of_ble_eq_true rfl) ?_
  intro p e s m below meth c ls S hr hlocks hname hB hl
  obtain ⟨hP, hK⟩ := hB
  obtain ⟨hx, hb, hml, hown, hts⟩ := id S
  have tn := hO.1
  have hts0 := hinX0_planTurnsRight
  have hl : lv_has ls 2 [(0, .ref (a 0)), (1, .int (nI k))] := hl
  refine lv_aload_n hx hb dX0_planTurnsRight_0 rfl (lv_at hl 0 rfl) ?_
  refine lv_iload_n hx hb dX0_planTurnsRight_1 rfl (lv_at hl 1 rfl) ?_
  refine g0v (As := [.int (nI k)]) (rest := []) S (c_requireFork l E a σ k (by omega) (by omega) hE) (cwV 1 hts gX0_planTurnsRight_X0_requireFork rfl rfl rfl hdX0_requireFork ⟨Nat.le_of_ble_eq_true rfl, Nat.le_of_ble_eq_true rfl⟩) hK hP rfl hl.1 rfl (Nat.le_of_ble_eq_true rfl) ⟨Nat.zero_le _, Nat.zero_le _⟩ dX0_planTurnsRight_2 ?_
  refine lv_aload_n hx hb dX0_planTurnsRight_5 rfl (lv_at hl 0 rfl) ?_
  refine lv_iload_n hx hb dX0_planTurnsRight_6 rfl (lv_at hl 1 rfl) ?_
  refine g0i (As := [.int (nI k)]) (rest := []) S (c_plansRight l E a σ hO k (by omega)) (cwV 1 hts gX0_planTurnsRight_X0_plansRight rfl rfl rfl hdX0_plansRight ⟨Nat.le_of_ble_eq_true rfl, Nat.le_of_ble_eq_true rfl⟩) hK hP rfl hl.1 rfl (Nat.le_of_ble_eq_true rfl) ⟨Nat.zero_le _, Nat.zero_le _⟩ dX0_planTurnsRight_7 ?_
  exact W.zret hx hb hr (b2i_nar _) (fun t ht hW => ⟨_, rfl, rfl, ht⟩) (fun _ h => nomatch h) dX0_planTurnsRight_10
theorem hinX0_regretOf : ∀ w ∈ wsX00, w ∈ wsX0_regretOf := fun w h => List.mem_cons_of_mem _ (List.mem_append_left _ (List.mem_append_left _ (List.mem_append_right _ h)))
theorem hdX0_regretOf : yX0_regretOf.cls = RX0 ∧ yX0_regretOf.cls ≠ "java/lang/invoke/MethodHandle" ∧ yX0_regretOf.cls ≠ "java/lang/invoke/VarHandle" ∧ (parseMethodDescriptor yX0_regretOf.desc).map (fun d => d.parameters.length) = some 1 := by decide +kernel
set_option maxHeartbeats 4000000 in
set_option maxRecDepth 100000 in
theorem c_regretOf (l : Launch) (E : GE) (a : Nat → Nat) (σ : GS) (hO : GOK σ) (k : Nat) (hk : k < gk σ) (hG : gHas σ (gst σ k) = true) : Met l yX0_regretOf wsX0_regretOf { frames := 4, cells := 0, slots := 0, locals := 91 } (va_Pc [.ref (a 0), .int (nI k)] (gB E (gW E a σ))) (vp_Si (fun r => r = gRegs σ k)) 0 0 (fun _ => False) := by
  refine w_met (cc := cX0_regretOf) (maxL := 2) (ret := (some .int)) (by decide) rfl (Nat.le_of_ble_eq_true rfl) ?_
  intro p e s m below meth c ls S hr hlocks hname hB hl
  obtain ⟨hP, hK⟩ := hB
  obtain ⟨hx, hb, hml, hown, hts⟩ := id S
  have tk := hO.2.1
  have hts0 := hinX0_regretOf
  have hl : lv_has ls 2 [(0, .ref (a 0)), (1, .int (nI k))] := hl
  refine lv_aload_n hx hb dX0_regretOf_0 rfl (lv_at hl 0 rfl) ?_
  refine lv_iload_n hx hb dX0_regretOf_1 rfl (lv_at hl 1 rfl) ?_
  refine g0v (As := [.int (nI k)]) (rest := []) S (c_requireStudent l E a σ k (by omega) (by omega)) (cwV 1 hts gX0_regretOf_X0_requireStudent rfl rfl rfl hdX0_requireStudent ⟨Nat.le_of_ble_eq_true rfl, Nat.le_of_ble_eq_true rfl⟩) hK hP rfl hl.1 rfl (Nat.le_of_ble_eq_true rfl) ⟨Nat.zero_le _, Nat.zero_le _⟩ dX0_regretOf_2 ?_
  refine lv_aload_n hx hb dX0_regretOf_5 rfl (lv_at hl 0 rfl) ?_
  refine lv_iload_n hx hb dX0_regretOf_6 rfl (lv_at hl 1 rfl) ?_
  refine g0v (As := [.int (nI k)]) (rest := []) S (c_requireGraded l E a σ hO k (by omega) hG) (cwV 1 hts gX0_regretOf_X0_requireGraded rfl rfl rfl hdX0_requireGraded ⟨Nat.le_of_ble_eq_true rfl, Nat.le_of_ble_eq_true rfl⟩) hK hP rfl hl.1 rfl (Nat.le_of_ble_eq_true rfl) ⟨Nat.zero_le _, Nat.zero_le _⟩ dX0_regretOf_7 ?_
  refine lv_aload_n hx hb dX0_regretOf_10 rfl (lv_at hl 0 rfl) ?_
  refine lv_iload_n hx hb dX0_regretOf_11 rfl (lv_at hl 1 rfl) ?_
  refine g0i (As := [.int (nI k)]) (rest := []) S (c_regretOfAll l E a σ hO k (by omega)) (cwV 1 hts gX0_regretOf_X0_regretOfAll rfl rfl rfl hdX0_regretOfAll ⟨Nat.le_of_ble_eq_true rfl, Nat.le_of_ble_eq_true rfl⟩) hK hP rfl hl.1 rfl (Nat.le_of_ble_eq_true rfl) ⟨Nat.zero_le _, Nat.zero_le _⟩ dX0_regretOf_12 ?_
  exact W.iret hx hb hr (fun t ht hW => ⟨_, rfl, rfl, ht⟩) (fun _ h => nomatch h) dX0_regretOf_15
theorem hinX0_worstFork : ∀ w ∈ wsX00, w ∈ wsX0_worstFork := fun w h => List.mem_cons_of_mem _ (List.mem_append_left _ (List.mem_append_left _ (List.mem_append_right _ h)))
theorem hdX0_worstFork : yX0_worstFork.cls = RX0 ∧ yX0_worstFork.cls ≠ "java/lang/invoke/MethodHandle" ∧ yX0_worstFork.cls ≠ "java/lang/invoke/VarHandle" ∧ (parseMethodDescriptor yX0_worstFork.desc).map (fun d => d.parameters.length) = some 1 := by decide +kernel
set_option maxHeartbeats 4000000 in
set_option maxRecDepth 100000 in
theorem c_worstFork (l : Launch) (E : GE) (a : Nat → Nat) (σ : GS) (hO : GOK σ) (k : Nat) (hk : k < gk σ) (hG : gHas σ (gst σ k) = true) : Met l yX0_worstFork wsX0_worstFork { frames := 3, cells := 0, slots := 0, locals := 67 } (va_Pc [.ref (a 0), .int (nI k)] (gB E (gW E a σ))) (vp_Si (fun r => r = (gWf σ k).1)) 0 0 (fun _ => False) := by
  refine w_met (cc := cX0_worstFork) (maxL := 7) (ret := (some .int)) (by decide) rfl (Nat.le_of_ble_eq_true rfl) ?_
  intro p e s m below meth c ls S hr hlocks hname hB hl
  obtain ⟨hP, hK⟩ := hB
  obtain ⟨hx, hb, hml, hown, hts⟩ := id S
  have tk := hO.2.1
  have t1 := hO.2.2.2.2.2.2.1 k
  have hts0 := hinX0_worstFork
  have hl : lv_has ls 7 [(0, .ref (a 0)), (1, .int (nI k))] := hl
  refine lv_aload_n hx hb dX0_worstFork_0 rfl (lv_at hl 0 rfl) ?_
  refine lv_iload_n hx hb dX0_worstFork_1 rfl (lv_at hl 1 rfl) ?_
  refine g0v (As := [.int (nI k)]) (rest := []) S (c_requireStudent l E a σ k (by omega) (by omega)) (cwV 1 hts gX0_worstFork_X0_requireStudent rfl rfl rfl hdX0_requireStudent ⟨Nat.le_of_ble_eq_true rfl, Nat.le_of_ble_eq_true rfl⟩) hK hP rfl hl.1 rfl (Nat.le_of_ble_eq_true rfl) ⟨Nat.zero_le _, Nat.zero_le _⟩ dX0_worstFork_2 ?_
  refine lv_aload_n hx hb dX0_worstFork_5 rfl (lv_at hl 0 rfl) ?_
  refine lv_iload_n hx hb dX0_worstFork_6 rfl (lv_at hl 1 rfl) ?_
  refine g0v (As := [.int (nI k)]) (rest := []) S (c_requireGraded l E a σ hO k (by omega) hG) (cwV 1 hts gX0_worstFork_X0_requireGraded rfl rfl rfl hdX0_requireGraded ⟨Nat.le_of_ble_eq_true rfl, Nat.le_of_ble_eq_true rfl⟩) hK hP rfl hl.1 rfl (Nat.le_of_ble_eq_true rfl) ⟨Nat.zero_le _, Nat.zero_le _⟩ dX0_worstFork_7 ?_
  refine lv_iconst (v := -1) hx hb dX0_worstFork_10 (by decide) ?_
  refine lv_istore_n (lv' := [(2, .int ((-1))), (0, .ref (a 0)), (1, .int (nI k))]) hx hb dX0_worstFork_11 rfl hl (by decide) rfl (fun ls hl => ?_)
  refine lv_iconst (v := 0) hx hb dX0_worstFork_12 (by decide) ?_
  refine lv_istore_n (lv' := [(3, .int 0), (2, .int ((-1))), (0, .ref (a 0)), (1, .int (nI k))]) hx hb dX0_worstFork_13 rfl hl (by decide) rfl (fun ls hl => ?_)
  refine lv_aload_n hx hb dX0_worstFork_14 rfl (lv_at hl 2 rfl) ?_
  refine g_get (σ := σ) hx hb hts hts0 hown hK hP 16 (by decide) (by decide +kernel) rfl rfl dX0_worstFork_15 ?_
  refine lv_iload_n hx hb dX0_worstFork_18 rfl (lv_at hl 3 rfl) ?_
  refine g_at S gX0_worstFork_X0_at hK hP 12 rfl (by decide) (v := nI (gpc σ k)) (vp_in_nI (by omega) (by decide)) (by rw [nI_clamp (by omega)]) hl.1 (Nat.le_of_ble_eq_true rfl) ⟨Nat.zero_le _, Nat.zero_le _⟩ ⟨Nat.le_of_ble_eq_true rfl, Nat.le_of_ble_eq_true rfl⟩ dX0_worstFork_19 ?_
  refine lv_istore (lv' := [(4, .int (nI (gpc σ k))), (3, .int 0), (2, .int ((-1))), (0, .ref (a 0)), (1, .int (nI k))]) hx hb dX0_worstFork_22 hl (by decide) rfl (fun ls hl => ?_)
  refine lv_iconst (v := 0) hx hb dX0_worstFork_24 (by decide) ?_
  refine lv_istore (lv' := [(5, .int 0), (4, .int (nI (gpc σ k))), (3, .int 0), (2, .int ((-1))), (0, .ref (a 0)), (1, .int (nI k))]) hx hb dX0_worstFork_25 hl (by decide) rfl (fun ls hl => ?_)
  have key : ∀ (d i : Nat) (x : Int32) (y : Int32) (ls : Array Slot), i + d = gpc σ k → (x, y) = amx (fun j => nI (gpf σ (k * 40 + j))) (gReg σ k) (-1, 0) i → lv_has ls 7 [(5, .int (nI i)), (4, .int (nI (gpc σ k))), (3, .int y), (2, .int x), (0, .ref (a 0)), (1, .int (nI k))] → W p l e (headSpec wsX0_worstFork { frames := 3, cells := 0, slots := 0, locals := 67 }).room s m [.ref (a 0), .int (nI k)].toArray below meth c s.heap [] 0 0 (MQ below (vp_Si (fun r => r = (gWf σ k).1)) [.ref (a 0), .int (nI k)].toArray s 0 0 (fun _ => False)) (F0 m 27 ls []) := by
    intro d
    induction d with
    | zero =>
      intro i x y ls hi hinv hl
      obtain rfl : i = gpc σ k := by omega
      refine lv_iload hx hb dX0_worstFork_27 (lv_at hl 0 rfl) ?_
      refine lv_iload hx hb dX0_worstFork_29 (lv_at hl 1 rfl) ?_
      refine lv_icmp_ge (tgt := 66) hx hb dX0_worstFork_31 (by decide) (fun _ => ?_) (fun q => absurd ((nI_le (Nat.le_refl _) (by omega))) q)
      refine lv_iload_n hx hb dX0_worstFork_66 rfl (lv_at hl 3 rfl) ?_
      exact W.iret hx hb hr (fun t ht hW => ⟨_, rfl, (congrArg Prod.fst hinv), ht⟩) (fun _ h => nomatch h) dX0_worstFork_67
    | succ d ih =>
      intro i x y ls hi hinv hl
      refine lv_iload hx hb dX0_worstFork_27 (lv_at hl 0 rfl) ?_
      refine lv_iload hx hb dX0_worstFork_29 (lv_at hl 1 rfl) ?_
      refine lv_icmp_ge (tgt := 66) hx hb dX0_worstFork_31 (by decide) (fun q => absurd q ((nI_ge (by omega) (by omega)))) (fun _ => ?_)
      refine lv_aload_n hx hb dX0_worstFork_34 rfl (lv_at hl 4 rfl) ?_
      refine lv_iload_n hx hb dX0_worstFork_35 rfl (lv_at hl 5 rfl) ?_
      refine lv_iload hx hb dX0_worstFork_36 (lv_at hl 0 rfl) ?_
      refine g0i (As := [.int (nI k), .int (nI i)]) (rest := []) S (c_regretOfStep l E a σ hO k i (by omega) (by omega)) (cwV 2 hts gX0_worstFork_X0_regretOfStep rfl rfl rfl hdX0_regretOfStep ⟨Nat.le_of_ble_eq_true rfl, Nat.le_of_ble_eq_true rfl⟩) hK hP rfl hl.1 rfl (Nat.le_of_ble_eq_true rfl) ⟨Nat.zero_le _, Nat.zero_le _⟩ dX0_worstFork_38 ?_
      refine lv_istore (lv' := [(6, .int (gReg σ k i)), (5, .int (nI i)), (4, .int (nI (gpc σ k))), (3, .int y), (2, .int x), (0, .ref (a 0)), (1, .int (nI k))]) hx hb dX0_worstFork_41 hl (by decide) rfl (fun ls hl => ?_)
      refine lv_iload hx hb dX0_worstFork_43 (lv_at hl 0 rfl) ?_
      refine lv_iload_n hx hb dX0_worstFork_45 rfl (lv_at hl 3 rfl) ?_
      refine lv_icmp_le (tgt := 60) hx hb dX0_worstFork_46 (by decide) (fun c46 => ?_) (fun c46 => ?_)
      · refine lv_iinc (v := nI (i + 1)) (lv' := [(5, .int (nI (i + 1))), (6, .int (gReg σ k i)), (4, .int (nI (gpc σ k))), (3, .int y), (2, .int x), (0, .ref (a 0)), (1, .int (nI k))]) hx hb dX0_worstFork_60 hl (k := 1) rfl (nI_1 i) (by decide) rfl (fun ls hl => ?_)
        refine lv_goto (tgt := 27) hx hb dX0_worstFork_63 (by decide) ?_
        exact ih (i + 1) x y ls (by omega) (by first | (rw [amx, ← hinv]; exact (if_neg (fun h => Int32.not_le.mpr h c46)).symm) | (rw [amx, ← hinv]; exact (if_pos (Int32.not_le.mp c46)).symm)) (lv_sub hl [0, 2, 3, 4, 5, 6] rfl)
      · refine lv_aload_n hx hb dX0_worstFork_49 rfl (lv_at hl 5 rfl) ?_
        refine lv_iload_n hx hb dX0_worstFork_50 rfl (lv_at hl 6 rfl) ?_
        refine lv_iload hx hb dX0_worstFork_51 (lv_at hl 1 rfl) ?_
        refine g0i (As := [.int (nI k), .int (nI i)]) (rest := []) S (c_passedFork l E a σ k i (by omega) (by omega)) (cwV 2 hts gX0_worstFork_X0_passedFork rfl rfl rfl hdX0_passedFork ⟨Nat.le_of_ble_eq_true rfl, Nat.le_of_ble_eq_true rfl⟩) hK hP rfl hl.1 rfl (Nat.le_of_ble_eq_true rfl) ⟨Nat.zero_le _, Nat.zero_le _⟩ dX0_worstFork_53 ?_
        refine lv_istore_n (lv' := [(2, .int (nI (gpf σ (k * 40 + i)))), (6, .int (gReg σ k i)), (5, .int (nI i)), (4, .int (nI (gpc σ k))), (3, .int y), (0, .ref (a 0)), (1, .int (nI k))]) hx hb dX0_worstFork_56 rfl hl (by decide) rfl (fun ls hl => ?_)
        refine lv_iload hx hb dX0_worstFork_57 (lv_at hl 1 rfl) ?_
        refine lv_istore_n (lv' := [(3, .int (gReg σ k i)), (2, .int (nI (gpf σ (k * 40 + i)))), (6, .int (gReg σ k i)), (5, .int (nI i)), (4, .int (nI (gpc σ k))), (0, .ref (a 0)), (1, .int (nI k))]) hx hb dX0_worstFork_59 rfl hl (by decide) rfl (fun ls hl => ?_)
        refine lv_iinc (v := nI (i + 1)) (lv' := [(5, .int (nI (i + 1))), (3, .int (gReg σ k i)), (2, .int (nI (gpf σ (k * 40 + i)))), (6, .int (gReg σ k i)), (4, .int (nI (gpc σ k))), (0, .ref (a 0)), (1, .int (nI k))]) hx hb dX0_worstFork_60 hl (k := 3) rfl (nI_1 i) (by decide) rfl (fun ls hl => ?_)
        refine lv_goto (tgt := 27) hx hb dX0_worstFork_63 (by decide) ?_
        exact ih (i + 1) (nI (gpf σ (k * 40 + i))) (gReg σ k i) ls (by omega) (by first | (rw [amx, ← hinv]; exact (if_neg (fun h => Int32.not_le.mpr h c46)).symm) | (rw [amx, ← hinv]; exact (if_pos (Int32.not_le.mp c46)).symm)) (lv_sub hl [0, 4, 1, 2, 5, 6] rfl)
  exact key (gpc σ k) 0 ((-1)) 0 ls (by omega) rfl (lv_sub hl [0, 1, 2, 3, 4, 5] rfl)
theorem hinX0_planLeadsTo : ∀ w ∈ wsX00, w ∈ wsX0_planLeadsTo := fun w h => List.mem_cons_of_mem _ (List.mem_append_left _ (List.mem_append_right _ h))
theorem hdX0_planLeadsTo : yX0_planLeadsTo.cls = RX0 ∧ yX0_planLeadsTo.cls ≠ "java/lang/invoke/MethodHandle" ∧ yX0_planLeadsTo.cls ≠ "java/lang/invoke/VarHandle" ∧ (parseMethodDescriptor yX0_planLeadsTo.desc).map (fun d => d.parameters.length) = some 1 := by decide +kernel
set_option maxHeartbeats 4000000 in
set_option maxRecDepth 100000 in
theorem c_planLeadsTo (l : Launch) (E : GE) (a : Nat → Nat) (σ : GS) (hO : GOK σ) (k : Nat) (hk : k < gn σ) : Met l yX0_planLeadsTo wsX0_planLeadsTo { frames := 4, cells := 0, slots := 0, locals := 88 } (va_Pc [.ref (a 0), .int (nI k)] (gB E (gW E a σ))) (vp_Si (fun r => r = nI (gLd σ 40 k))) 0 0 (fun _ => False) := by
  refine w_met (cc := cX0_planLeadsTo) (maxL := 4) (ret := (some .int)) (by decide) rfl (Nat.le_of_ble_eq_true rfl) ?_
  intro p e s m below meth c ls S hr hlocks hname hB hl
  obtain ⟨hP, hK⟩ := hB
  obtain ⟨hx, hb, hml, hown, hts⟩ := id S
  have tn := hO.1
  have hts0 := hinX0_planLeadsTo
  have hl : lv_has ls 4 [(0, .ref (a 0)), (1, .int (nI k))] := hl
  refine lv_aload_n hx hb dX0_planLeadsTo_0 rfl (lv_at hl 0 rfl) ?_
  refine lv_iload_n hx hb dX0_planLeadsTo_1 rfl (lv_at hl 1 rfl) ?_
  refine g0v (As := [.int (nI k)]) (rest := []) S (c_requirePlace l E a σ k (by omega) (by omega)) (cwV 1 hts gX0_planLeadsTo_X0_requirePlace rfl rfl rfl hdX0_requirePlace ⟨Nat.le_of_ble_eq_true rfl, Nat.le_of_ble_eq_true rfl⟩) hK hP rfl hl.1 rfl (Nat.le_of_ble_eq_true rfl) ⟨Nat.zero_le _, Nat.zero_le _⟩ dX0_planLeadsTo_2 ?_
  refine lv_iload_n hx hb dX0_planLeadsTo_5 rfl (lv_at hl 1 rfl) ?_
  refine lv_istore_n (lv' := [(2, .int (nI k)), (0, .ref (a 0)), (1, .int (nI k))]) hx hb dX0_planLeadsTo_6 rfl hl (by decide) rfl (fun ls hl => ?_)
  refine lv_iconst (v := 0) hx hb dX0_planLeadsTo_7 (by decide) ?_
  refine lv_istore_n (lv' := [(3, .int 0), (2, .int (nI k)), (0, .ref (a 0)), (1, .int (nI k))]) hx hb dX0_planLeadsTo_8 rfl hl (by decide) rfl (fun ls hl => ?_)
  have key : ∀ (d i : Nat) (q : Nat) (ls : Array Slot), i + d = 40 → q < 40 ∧ gLd σ 40 k = gLd σ (40 - i) q → lv_has ls 4 [(3, .int (nI i)), (2, .int (nI q)), (0, .ref (a 0)), (1, .int (nI k))] → W p l e (headSpec wsX0_planLeadsTo { frames := 4, cells := 0, slots := 0, locals := 88 }).room s m [.ref (a 0), .int (nI k)].toArray below meth c s.heap [] 0 0 (MQ below (vp_Si (fun r => r = nI (gLd σ 40 k))) [.ref (a 0), .int (nI k)].toArray s 0 0 (fun _ => False)) (F0 m 9 ls []) := by
    intro d
    induction d with
    | zero =>
      intro i q ls hi hinv hl
      obtain rfl : i = 40 := by omega
      refine lv_iload_n hx hb dX0_planLeadsTo_9 rfl (lv_at hl 0 rfl) ?_
      refine lv_bipush (v := nI 40) hx hb dX0_planLeadsTo_10 (by decide) ?_
      refine lv_icmp_ge (tgt := 40) hx hb dX0_planLeadsTo_12 (by decide) (fun _ => ?_) (fun q => absurd ((nI_le (Nat.le_refl _) (by omega))) q)
      refine lv_iload_n hx hb dX0_planLeadsTo_40 rfl (lv_at hl 1 rfl) ?_
      exact W.iret hx hb hr (fun t ht hW => ⟨_, rfl, (by first | rw [hz] | rw [hinv.2]; rfl), ht⟩) (fun _ h => nomatch h) dX0_planLeadsTo_41
    | succ d ih =>
      intro i q ls hi hinv hl
      have hq := hinv.1
      refine lv_iload_n hx hb dX0_planLeadsTo_9 rfl (lv_at hl 0 rfl) ?_
      refine lv_bipush (v := nI 40) hx hb dX0_planLeadsTo_10 (by decide) ?_
      refine lv_icmp_ge (tgt := 40) hx hb dX0_planLeadsTo_12 (by decide) (fun q => absurd q ((nI_ge (by omega) (by omega)))) (fun _ => ?_)
      refine lv_aload_n hx hb dX0_planLeadsTo_15 rfl (lv_at hl 2 rfl) ?_
      refine lv_iload_n hx hb dX0_planLeadsTo_16 rfl (lv_at hl 1 rfl) ?_
      refine g0i (As := [.int (nI q)]) (rest := []) S (c_holdsExam l E a σ q (by omega)) (cwV 1 hts gX0_planLeadsTo_X0_holdsExam rfl rfl rfl hdX0_holdsExam ⟨Nat.le_of_ble_eq_true rfl, Nat.le_of_ble_eq_true rfl⟩) hK hP rfl hl.1 rfl (Nat.le_of_ble_eq_true rfl) ⟨Nat.zero_le _, Nat.zero_le _⟩ dX0_planLeadsTo_17 ?_
      refine lv_if_ne (tgt := 40) hx hb dX0_planLeadsTo_20 (by decide) (fun c20 => ?_) (fun c20 => ?_)
      · have hz : gLd σ 40 k = q := by rw [hinv.2, show 40 - i = (40 - (i + 1)) + 1 by omega, gLd, if_pos (b2i_ne0.mp c20)]
        refine lv_iload_n hx hb dX0_planLeadsTo_40 rfl (lv_at hl 1 rfl) ?_
        exact W.iret hx hb hr (fun t ht hW => ⟨_, rfl, (by first | rw [hz] | rw [hinv.2]; rfl), ht⟩) (fun _ h => nomatch h) dX0_planLeadsTo_41
      · refine lv_aload_n hx hb dX0_planLeadsTo_23 rfl (lv_at hl 2 rfl) ?_
        refine lv_iload_n hx hb dX0_planLeadsTo_24 rfl (lv_at hl 1 rfl) ?_
        refine lv_aload_n hx hb dX0_planLeadsTo_25 rfl (lv_at hl 2 rfl) ?_
        refine lv_iload_n hx hb dX0_planLeadsTo_26 rfl (lv_at hl 1 rfl) ?_
        refine g0i (As := [.int (nI q)]) (rest := [.int (nI q), .ref (a 0)]) S (c_plansRight l E a σ hO q (by omega)) (cwV 1 hts gX0_planLeadsTo_X0_plansRight rfl rfl rfl hdX0_plansRight ⟨Nat.le_of_ble_eq_true rfl, Nat.le_of_ble_eq_true rfl⟩) hK hP rfl hl.1 rfl (Nat.le_of_ble_eq_true rfl) ⟨Nat.zero_le _, Nat.zero_le _⟩ dX0_planLeadsTo_27 ?_
        refine g0i (As := [.int (nI q), .int (b2i (gPl σ q))]) (rest := []) S (c_pathFrom l E a σ q (by omega) (gPl σ q)) (cwV 2 hts gX0_planLeadsTo_X0_pathFrom rfl rfl rfl hdX0_pathFrom ⟨Nat.le_of_ble_eq_true rfl, Nat.le_of_ble_eq_true rfl⟩) hK hP rfl hl.1 rfl (Nat.le_of_ble_eq_true rfl) ⟨Nat.zero_le _, Nat.zero_le _⟩ dX0_planLeadsTo_30 ?_
        refine lv_istore_n (lv' := [(2, .int (nI (gTo σ q (gPl σ q)))), (3, .int (nI i)), (0, .ref (a 0)), (1, .int (nI k))]) hx hb dX0_planLeadsTo_33 rfl hl (by decide) rfl (fun ls hl => ?_)
        refine lv_iinc (v := nI (i + 1)) (lv' := [(3, .int (nI (i + 1))), (2, .int (nI (gTo σ q (gPl σ q)))), (0, .ref (a 0)), (1, .int (nI k))]) hx hb dX0_planLeadsTo_34 hl (k := 1) rfl (nI_1 i) (by decide) rfl (fun ls hl => ?_)
        refine lv_goto (tgt := 9) hx hb dX0_planLeadsTo_37 (by decide) ?_
        exact ih (i + 1) ((gTo σ q (gPl σ q))) ls (by omega) ⟨gTo_lt hO _ _, by rw [hinv.2, show 40 - i = (40 - (i + 1)) + 1 by omega, gLd, if_neg (by rw [b2i_eq0.mp c20]; decide)]⟩ (lv_sub hl [0, 1, 2, 3] rfl)
  exact key 40 0 k ls (by omega) ⟨by omega, rfl⟩ (lv_sub hl [0, 1, 2, 3] rfl)
theorem hdX0_mix : yX0_mix.cls = RX0 ∧ yX0_mix.cls ≠ "java/lang/invoke/MethodHandle" ∧ yX0_mix.cls ≠ "java/lang/invoke/VarHandle" ∧ (parseMethodDescriptor yX0_mix.desc).map (fun d => d.parameters.length) = some 2 := by decide +kernel
set_option maxHeartbeats 4000000 in
set_option maxRecDepth 100000 in
theorem c_mix (l : Launch) (E : GE) (d : Int64) (x : Int32) : Met l yX0_mix wsX0_mix rmZ (va_Pc [.long d, .int x] (gB E [])) (vp_Sl (fun r => r = hsh d x)) 0 0 (fun _ => False) := by
  refine w_met (cc := cX0_mix) (maxL := 3) (ret := some .long) (by decide) rfl (Nat.le_of_ble_eq_true rfl) ?_
  intro p e s m below meth c ls S hr hlocks hname hB hl
  obtain ⟨hx0, hb, hml, hown, hts⟩ := id S
  have hl : lv_has ls 3 [(0, .long d), (2, .int x)] := hl
  refine lv_lload_n hx0 hb dX0_mix_0 rfl (lv_at hl 0 rfl) ?_
  refine lv_ldc2 (v := 31) hx0 hb hown (hts (.constantLong RX0 246 (31)) (by decide +kernel)) dX0_mix_1 ?_
  refine lv_lmul hx0 hb dX0_mix_4 ?_
  refine lv_iload_n hx0 hb dX0_mix_5 rfl (lv_at hl 1 rfl) ?_
  refine lv_i2l hx0 hb dX0_mix_6 rfl ?_
  refine lv_ladd hx0 hb dX0_mix_7 ?_
  exact W.lret hx0 hb hr (fun t ht hW => ⟨_, rfl, rfl, ht⟩) (fun _ h => nomatch h) dX0_mix_8
theorem hinX0_mixPlace : ∀ w ∈ wsX00, w ∈ wsX0_mixPlace := fun w h => List.mem_cons_of_mem _ (List.mem_append_left _ (List.mem_append_right _ h))
theorem hdX0_mixPlace : yX0_mixPlace.cls = RX0 ∧ yX0_mixPlace.cls ≠ "java/lang/invoke/MethodHandle" ∧ yX0_mixPlace.cls ≠ "java/lang/invoke/VarHandle" ∧ (parseMethodDescriptor yX0_mixPlace.desc).map (fun d => d.parameters.length) = some 2 := by decide +kernel
set_option maxHeartbeats 4000000 in
set_option maxRecDepth 100000 in
theorem c_mixPlace (l : Launch) (E : GE) (a : Nat → Nat) (σ : GS) (hO : GOK σ) (d : Int64) (k : Nat) (hk : k < gn σ) : Met l yX0_mixPlace wsX0_mixPlace { frames := 5, cells := 0, slots := 0, locals := 111 } (va_Pc [.ref (a 0), .long d, .int (nI k)] (gB E (gW E a σ))) (vp_Sl (fun r => r = gPd σ d k)) 0 0 (fun _ => False) := by
  refine w_met (cc := cX0_mixPlace) (maxL := 6) (ret := (some .long)) (by decide) rfl (Nat.le_of_ble_eq_true rfl) ?_
  intro p e s m below meth c ls S hr hlocks hname hB hl
  obtain ⟨hP, hK⟩ := hB
  obtain ⟨hx, hb, hml, hown, hts⟩ := id S
  have tn := hO.1
  have hts0 := hinX0_mixPlace
  rcases hE : gEx (ge σ) k with _ | _
  · have hl : lv_has ls 6 [(0, .ref (a 0)), (1, .long d), (3, .int (nI k))] := hl
    refine lv_lload_n hx hb dX0_mixPlace_0 rfl (lv_at hl 1 rfl) ?_
    refine lv_aload_n hx hb dX0_mixPlace_1 rfl (lv_at hl 0 rfl) ?_
    refine lv_iload_n hx hb dX0_mixPlace_2 rfl (lv_at hl 2 rfl) ?_
    refine g0i (As := [.int (nI k)]) (rest := [.long d]) S (c_isExam l E a σ k (by omega) (by omega)) (cwV 1 hts gX0_mixPlace_X0_isExam rfl rfl rfl hdX0_isExam ⟨Nat.le_of_ble_eq_true rfl, Nat.le_of_ble_eq_true rfl⟩) hK hP rfl hl.1 rfl (Nat.le_of_ble_eq_true rfl) ⟨Nat.zero_le _, Nat.zero_le _⟩ dX0_mixPlace_3 ?_
    refine lv_if_eq (tgt := 13) hx hb dX0_mixPlace_6 (by decide) (fun _ => ?_) (fun q => absurd ((b2i_eq0.mpr hE)) q)
    refine lv_iconst (v := 0) hx hb dX0_mixPlace_13 (by decide) ?_
    refine g_sl (As := [.long d, .int 0]) (rest := []) S (c_mix l E d 0) (va_cwS 2 hts gX0_mixPlace_X0_mix rfl rfl rfl hdX0_mix.2 ⟨Nat.le_of_ble_eq_true rfl, Nat.le_of_ble_eq_true rfl⟩) hK (hP.sub [] rfl) rfl hl.1 rfl (Nat.le_of_ble_eq_true rfl) ⟨Nat.zero_le _, Nat.zero_le _⟩ dX0_mixPlace_14 ?_
    refine lv_lstore (lv' := [(4, .long (hsh d 0)), (0, .ref (a 0)), (1, .long d), (3, .int (nI k))]) hx hb dX0_mixPlace_17 hl (by decide) rfl (fun ls hl => ?_)
    refine lv_lload hx hb dX0_mixPlace_19 (lv_at hl 0 rfl) ?_
    refine lv_aload_n hx hb dX0_mixPlace_21 rfl (lv_at hl 1 rfl) ?_
    refine lv_iload_n hx hb dX0_mixPlace_22 rfl (lv_at hl 3 rfl) ?_
    refine g0i (As := [.int (nI k)]) (rest := [.long (hsh d 0)]) S (c_sureGrade l E a σ k (by omega) (by omega)) (cwV 1 hts gX0_mixPlace_X0_sureGrade rfl rfl rfl hdX0_sureGrade ⟨Nat.le_of_ble_eq_true rfl, Nat.le_of_ble_eq_true rfl⟩) hK hP rfl hl.1 rfl (Nat.le_of_ble_eq_true rfl) ⟨Nat.zero_le _, Nat.zero_le _⟩ dX0_mixPlace_23 ?_
    refine g_sl (As := [.long (hsh d 0), .int (gsu σ k)]) (rest := []) S (c_mix l E (hsh d 0) (gsu σ k)) (va_cwS 2 hts gX0_mixPlace_X0_mix rfl rfl rfl hdX0_mix.2 ⟨Nat.le_of_ble_eq_true rfl, Nat.le_of_ble_eq_true rfl⟩) hK (hP.sub [] rfl) rfl hl.1 rfl (Nat.le_of_ble_eq_true rfl) ⟨Nat.zero_le _, Nat.zero_le _⟩ dX0_mixPlace_26 ?_
    refine lv_lstore (lv' := [(4, .long (hsh (hsh d 0) (gsu σ k))), (0, .ref (a 0)), (1, .long d), (3, .int (nI k))]) hx hb dX0_mixPlace_29 hl (by decide) rfl (fun ls hl => ?_)
    refine lv_lload hx hb dX0_mixPlace_31 (lv_at hl 0 rfl) ?_
    refine lv_aload_n hx hb dX0_mixPlace_33 rfl (lv_at hl 1 rfl) ?_
    refine lv_iload_n hx hb dX0_mixPlace_34 rfl (lv_at hl 3 rfl) ?_
    refine g0i (As := [.int (nI k)]) (rest := [.long (hsh (hsh d 0) (gsu σ k))]) S (c_hope l E a σ k (by omega) (by omega)) (cwV 1 hts gX0_mixPlace_X0_hope rfl rfl rfl hdX0_hope ⟨Nat.le_of_ble_eq_true rfl, Nat.le_of_ble_eq_true rfl⟩) hK hP rfl hl.1 rfl (Nat.le_of_ble_eq_true rfl) ⟨Nat.zero_le _, Nat.zero_le _⟩ dX0_mixPlace_35 ?_
    refine g_sl (As := [.long (hsh (hsh d 0) (gsu σ k)), .int (gho σ k)]) (rest := []) S (c_mix l E (hsh (hsh d 0) (gsu σ k)) (gho σ k)) (va_cwS 2 hts gX0_mixPlace_X0_mix rfl rfl rfl hdX0_mix.2 ⟨Nat.le_of_ble_eq_true rfl, Nat.le_of_ble_eq_true rfl⟩) hK (hP.sub [] rfl) rfl hl.1 rfl (Nat.le_of_ble_eq_true rfl) ⟨Nat.zero_le _, Nat.zero_le _⟩ dX0_mixPlace_38 ?_
    refine lv_lstore (lv' := [(4, .long (hsh (hsh (hsh d 0) (gsu σ k)) (gho σ k))), (0, .ref (a 0)), (1, .long d), (3, .int (nI k))]) hx hb dX0_mixPlace_41 hl (by decide) rfl (fun ls hl => ?_)
    refine lv_lload hx hb dX0_mixPlace_43 (lv_at hl 0 rfl) ?_
    refine lv_aload_n hx hb dX0_mixPlace_45 rfl (lv_at hl 1 rfl) ?_
    refine lv_iload_n hx hb dX0_mixPlace_46 rfl (lv_at hl 3 rfl) ?_
    refine g0i (As := [.int (nI k)]) (rest := [.long (hsh (hsh (hsh d 0) (gsu σ k)) (gho σ k))]) S (c_examsFrom l E a σ k (by omega) (by omega)) (cwV 1 hts gX0_mixPlace_X0_examsFrom rfl rfl rfl hdX0_examsFrom ⟨Nat.le_of_ble_eq_true rfl, Nat.le_of_ble_eq_true rfl⟩) hK hP rfl hl.1 rfl (Nat.le_of_ble_eq_true rfl) ⟨Nat.zero_le _, Nat.zero_le _⟩ dX0_mixPlace_47 ?_
    refine g_sl (As := [.long (hsh (hsh (hsh d 0) (gsu σ k)) (gho σ k)), .int (gEf σ k)]) (rest := []) S (c_mix l E (hsh (hsh (hsh d 0) (gsu σ k)) (gho σ k)) (gEf σ k)) (va_cwS 2 hts gX0_mixPlace_X0_mix rfl rfl rfl hdX0_mix.2 ⟨Nat.le_of_ble_eq_true rfl, Nat.le_of_ble_eq_true rfl⟩) hK (hP.sub [] rfl) rfl hl.1 rfl (Nat.le_of_ble_eq_true rfl) ⟨Nat.zero_le _, Nat.zero_le _⟩ dX0_mixPlace_50 ?_
    refine lv_lstore (lv' := [(4, .long (hsh (hsh (hsh (hsh d 0) (gsu σ k)) (gho σ k)) (gEf σ k))), (0, .ref (a 0)), (1, .long d), (3, .int (nI k))]) hx hb dX0_mixPlace_53 hl (by decide) rfl (fun ls hl => ?_)
    refine lv_lload hx hb dX0_mixPlace_55 (lv_at hl 0 rfl) ?_
    refine lv_aload_n hx hb dX0_mixPlace_57 rfl (lv_at hl 1 rfl) ?_
    refine lv_iload_n hx hb dX0_mixPlace_58 rfl (lv_at hl 3 rfl) ?_
    refine g0i (As := [.int (nI k)]) (rest := [.long (hsh (hsh (hsh (hsh d 0) (gsu σ k)) (gho σ k)) (gEf σ k))]) S (c_planLeadsTo l E a σ hO k (by omega)) (cwV 1 hts gX0_mixPlace_X0_planLeadsTo rfl rfl rfl hdX0_planLeadsTo ⟨Nat.le_of_ble_eq_true rfl, Nat.le_of_ble_eq_true rfl⟩) hK hP rfl hl.1 rfl (Nat.le_of_ble_eq_true rfl) ⟨Nat.zero_le _, Nat.zero_le _⟩ dX0_mixPlace_59 ?_
    refine g_sl (As := [.long (hsh (hsh (hsh (hsh d 0) (gsu σ k)) (gho σ k)) (gEf σ k)), .int (nI (gLd σ 40 k))]) (rest := []) S (c_mix l E (hsh (hsh (hsh (hsh d 0) (gsu σ k)) (gho σ k)) (gEf σ k)) (nI (gLd σ 40 k))) (va_cwS 2 hts gX0_mixPlace_X0_mix rfl rfl rfl hdX0_mix.2 ⟨Nat.le_of_ble_eq_true rfl, Nat.le_of_ble_eq_true rfl⟩) hK (hP.sub [] rfl) rfl hl.1 rfl (Nat.le_of_ble_eq_true rfl) ⟨Nat.zero_le _, Nat.zero_le _⟩ dX0_mixPlace_62 ?_
    refine lv_lstore (lv' := [(4, .long (hsh (hsh (hsh (hsh (hsh d 0) (gsu σ k)) (gho σ k)) (gEf σ k)) (nI (gLd σ 40 k)))), (0, .ref (a 0)), (1, .long d), (3, .int (nI k))]) hx hb dX0_mixPlace_65 hl (by decide) rfl (fun ls hl => ?_)
    refine lv_aload_n hx hb dX0_mixPlace_67 rfl (lv_at hl 1 rfl) ?_
    refine lv_iload_n hx hb dX0_mixPlace_68 rfl (lv_at hl 3 rfl) ?_
    refine g0i (As := [.int (nI k)]) (rest := []) S (c_holdsExam l E a σ k (by omega)) (cwV 1 hts gX0_mixPlace_X0_holdsExam rfl rfl rfl hdX0_holdsExam ⟨Nat.le_of_ble_eq_true rfl, Nat.le_of_ble_eq_true rfl⟩) hK hP rfl hl.1 rfl (Nat.le_of_ble_eq_true rfl) ⟨Nat.zero_le _, Nat.zero_le _⟩ dX0_mixPlace_69 ?_
    refine lv_if_eq (tgt := 86) hx hb dX0_mixPlace_72 (by decide) (fun _ => ?_) (fun q => absurd ((b2i_eq0.mpr hE)) q)
    refine lv_lload hx hb dX0_mixPlace_86 (lv_at hl 0 rfl) ?_
    refine lv_aload_n hx hb dX0_mixPlace_88 rfl (lv_at hl 1 rfl) ?_
    refine lv_iload_n hx hb dX0_mixPlace_89 rfl (lv_at hl 3 rfl) ?_
    refine g0i (As := [.int (nI k)]) (rest := [.long (hsh (hsh (hsh (hsh (hsh d 0) (gsu σ k)) (gho σ k)) (gEf σ k)) (nI (gLd σ 40 k)))]) S (c_leftOf l E a σ k (by omega) (by omega) hE) (cwV 1 hts gX0_mixPlace_X0_leftOf rfl rfl rfl hdX0_leftOf ⟨Nat.le_of_ble_eq_true rfl, Nat.le_of_ble_eq_true rfl⟩) hK hP rfl hl.1 rfl (Nat.le_of_ble_eq_true rfl) ⟨Nat.zero_le _, Nat.zero_le _⟩ dX0_mixPlace_90 ?_
    refine g_sl (As := [.long (hsh (hsh (hsh (hsh (hsh d 0) (gsu σ k)) (gho σ k)) (gEf σ k)) (nI (gLd σ 40 k))), .int (nI (glf σ k))]) (rest := []) S (c_mix l E (hsh (hsh (hsh (hsh (hsh d 0) (gsu σ k)) (gho σ k)) (gEf σ k)) (nI (gLd σ 40 k))) (nI (glf σ k))) (va_cwS 2 hts gX0_mixPlace_X0_mix rfl rfl rfl hdX0_mix.2 ⟨Nat.le_of_ble_eq_true rfl, Nat.le_of_ble_eq_true rfl⟩) hK (hP.sub [] rfl) rfl hl.1 rfl (Nat.le_of_ble_eq_true rfl) ⟨Nat.zero_le _, Nat.zero_le _⟩ dX0_mixPlace_93 ?_
    refine lv_lstore (lv' := [(4, .long (hsh (hsh (hsh (hsh (hsh (hsh d 0) (gsu σ k)) (gho σ k)) (gEf σ k)) (nI (gLd σ 40 k))) (nI (glf σ k)))), (0, .ref (a 0)), (1, .long d), (3, .int (nI k))]) hx hb dX0_mixPlace_96 hl (by decide) rfl (fun ls hl => ?_)
    refine lv_lload hx hb dX0_mixPlace_98 (lv_at hl 0 rfl) ?_
    refine lv_aload_n hx hb dX0_mixPlace_100 rfl (lv_at hl 1 rfl) ?_
    refine lv_iload_n hx hb dX0_mixPlace_101 rfl (lv_at hl 3 rfl) ?_
    refine g0i (As := [.int (nI k)]) (rest := [.long (hsh (hsh (hsh (hsh (hsh (hsh d 0) (gsu σ k)) (gho σ k)) (gEf σ k)) (nI (gLd σ 40 k))) (nI (glf σ k)))]) S (c_rightOf l E a σ k (by omega) (by omega) hE) (cwV 1 hts gX0_mixPlace_X0_rightOf rfl rfl rfl hdX0_rightOf ⟨Nat.le_of_ble_eq_true rfl, Nat.le_of_ble_eq_true rfl⟩) hK hP rfl hl.1 rfl (Nat.le_of_ble_eq_true rfl) ⟨Nat.zero_le _, Nat.zero_le _⟩ dX0_mixPlace_102 ?_
    refine g_sl (As := [.long (hsh (hsh (hsh (hsh (hsh (hsh d 0) (gsu σ k)) (gho σ k)) (gEf σ k)) (nI (gLd σ 40 k))) (nI (glf σ k))), .int (nI (grt σ k))]) (rest := []) S (c_mix l E (hsh (hsh (hsh (hsh (hsh (hsh d 0) (gsu σ k)) (gho σ k)) (gEf σ k)) (nI (gLd σ 40 k))) (nI (glf σ k))) (nI (grt σ k))) (va_cwS 2 hts gX0_mixPlace_X0_mix rfl rfl rfl hdX0_mix.2 ⟨Nat.le_of_ble_eq_true rfl, Nat.le_of_ble_eq_true rfl⟩) hK (hP.sub [] rfl) rfl hl.1 rfl (Nat.le_of_ble_eq_true rfl) ⟨Nat.zero_le _, Nat.zero_le _⟩ dX0_mixPlace_105 ?_
    refine lv_lstore (lv' := [(4, .long (hsh (hsh (hsh (hsh (hsh (hsh (hsh d 0) (gsu σ k)) (gho σ k)) (gEf σ k)) (nI (gLd σ 40 k))) (nI (glf σ k))) (nI (grt σ k)))), (0, .ref (a 0)), (1, .long d), (3, .int (nI k))]) hx hb dX0_mixPlace_108 hl (by decide) rfl (fun ls hl => ?_)
    refine lv_lload hx hb dX0_mixPlace_110 (lv_at hl 0 rfl) ?_
    refine lv_aload_n hx hb dX0_mixPlace_112 rfl (lv_at hl 1 rfl) ?_
    refine lv_iload_n hx hb dX0_mixPlace_113 rfl (lv_at hl 3 rfl) ?_
    refine g0i (As := [.int (nI k)]) (rest := [.long (hsh (hsh (hsh (hsh (hsh (hsh (hsh d 0) (gsu σ k)) (gho σ k)) (gEf σ k)) (nI (gLd σ 40 k))) (nI (glf σ k))) (nI (grt σ k)))]) S (c_weightOf l E a σ k (by omega) (by omega) hE) (cwV 1 hts gX0_mixPlace_X0_weightOf rfl rfl rfl hdX0_weightOf ⟨Nat.le_of_ble_eq_true rfl, Nat.le_of_ble_eq_true rfl⟩) hK hP rfl hl.1 rfl (Nat.le_of_ble_eq_true rfl) ⟨Nat.zero_le _, Nat.zero_le _⟩ dX0_mixPlace_114 ?_
    refine g_sl (As := [.long (hsh (hsh (hsh (hsh (hsh (hsh (hsh d 0) (gsu σ k)) (gho σ k)) (gEf σ k)) (nI (gLd σ 40 k))) (nI (glf σ k))) (nI (grt σ k))), .int (gwt σ k)]) (rest := []) S (c_mix l E (hsh (hsh (hsh (hsh (hsh (hsh (hsh d 0) (gsu σ k)) (gho σ k)) (gEf σ k)) (nI (gLd σ 40 k))) (nI (glf σ k))) (nI (grt σ k))) (gwt σ k)) (va_cwS 2 hts gX0_mixPlace_X0_mix rfl rfl rfl hdX0_mix.2 ⟨Nat.le_of_ble_eq_true rfl, Nat.le_of_ble_eq_true rfl⟩) hK (hP.sub [] rfl) rfl hl.1 rfl (Nat.le_of_ble_eq_true rfl) ⟨Nat.zero_le _, Nat.zero_le _⟩ dX0_mixPlace_117 ?_
    refine lv_lstore (lv' := [(4, .long (hsh (hsh (hsh (hsh (hsh (hsh (hsh (hsh d 0) (gsu σ k)) (gho σ k)) (gEf σ k)) (nI (gLd σ 40 k))) (nI (glf σ k))) (nI (grt σ k))) (gwt σ k))), (0, .ref (a 0)), (1, .long d), (3, .int (nI k))]) hx hb dX0_mixPlace_120 hl (by decide) rfl (fun ls hl => ?_)
    refine lv_lload hx hb dX0_mixPlace_122 (lv_at hl 0 rfl) ?_
    refine lv_aload_n hx hb dX0_mixPlace_124 rfl (lv_at hl 1 rfl) ?_
    refine lv_iload_n hx hb dX0_mixPlace_125 rfl (lv_at hl 3 rfl) ?_
    refine g0i (As := [.int (nI k)]) (rest := [.long (hsh (hsh (hsh (hsh (hsh (hsh (hsh (hsh d 0) (gsu σ k)) (gho σ k)) (gEf σ k)) (nI (gLd σ 40 k))) (nI (glf σ k))) (nI (grt σ k))) (gwt σ k))]) S (c_hindsight l E a σ k (by omega) (by omega) hE) (cwV 1 hts gX0_mixPlace_X0_hindsight rfl rfl rfl hdX0_hindsight ⟨Nat.le_of_ble_eq_true rfl, Nat.le_of_ble_eq_true rfl⟩) hK hP rfl hl.1 rfl (Nat.le_of_ble_eq_true rfl) ⟨Nat.zero_le _, Nat.zero_le _⟩ dX0_mixPlace_126 ?_
    refine g_sl (As := [.long (hsh (hsh (hsh (hsh (hsh (hsh (hsh (hsh d 0) (gsu σ k)) (gho σ k)) (gEf σ k)) (nI (gLd σ 40 k))) (nI (glf σ k))) (nI (grt σ k))) (gwt σ k)), .int (ghs σ k)]) (rest := []) S (c_mix l E (hsh (hsh (hsh (hsh (hsh (hsh (hsh (hsh d 0) (gsu σ k)) (gho σ k)) (gEf σ k)) (nI (gLd σ 40 k))) (nI (glf σ k))) (nI (grt σ k))) (gwt σ k)) (ghs σ k)) (va_cwS 2 hts gX0_mixPlace_X0_mix rfl rfl rfl hdX0_mix.2 ⟨Nat.le_of_ble_eq_true rfl, Nat.le_of_ble_eq_true rfl⟩) hK (hP.sub [] rfl) rfl hl.1 rfl (Nat.le_of_ble_eq_true rfl) ⟨Nat.zero_le _, Nat.zero_le _⟩ dX0_mixPlace_129 ?_
    exact W.lret hx hb hr (fun t ht hW => ⟨_, rfl, (by rw [gPd, gPd0, hE]; rfl), ht⟩) (fun _ h => nomatch h) dX0_mixPlace_132
  · have hl : lv_has ls 6 [(0, .ref (a 0)), (1, .long d), (3, .int (nI k))] := hl
    refine lv_lload_n hx hb dX0_mixPlace_0 rfl (lv_at hl 1 rfl) ?_
    refine lv_aload_n hx hb dX0_mixPlace_1 rfl (lv_at hl 0 rfl) ?_
    refine lv_iload_n hx hb dX0_mixPlace_2 rfl (lv_at hl 2 rfl) ?_
    refine g0i (As := [.int (nI k)]) (rest := [.long d]) S (c_isExam l E a σ k (by omega) (by omega)) (cwV 1 hts gX0_mixPlace_X0_isExam rfl rfl rfl hdX0_isExam ⟨Nat.le_of_ble_eq_true rfl, Nat.le_of_ble_eq_true rfl⟩) hK hP rfl hl.1 rfl (Nat.le_of_ble_eq_true rfl) ⟨Nat.zero_le _, Nat.zero_le _⟩ dX0_mixPlace_3 ?_
    refine lv_if_eq (tgt := 13) hx hb dX0_mixPlace_6 (by decide) (fun q => absurd q ((b2i_ne0.mpr hE))) (fun _ => ?_)
    refine lv_iconst (v := 1) hx hb dX0_mixPlace_9 (by decide) ?_
    refine lv_goto (tgt := 14) hx hb dX0_mixPlace_10 (by decide) ?_
    refine g_sl (As := [.long d, .int 1]) (rest := []) S (c_mix l E d 1) (va_cwS 2 hts gX0_mixPlace_X0_mix rfl rfl rfl hdX0_mix.2 ⟨Nat.le_of_ble_eq_true rfl, Nat.le_of_ble_eq_true rfl⟩) hK (hP.sub [] rfl) rfl hl.1 rfl (Nat.le_of_ble_eq_true rfl) ⟨Nat.zero_le _, Nat.zero_le _⟩ dX0_mixPlace_14 ?_
    refine lv_lstore (lv' := [(4, .long (hsh d 1)), (0, .ref (a 0)), (1, .long d), (3, .int (nI k))]) hx hb dX0_mixPlace_17 hl (by decide) rfl (fun ls hl => ?_)
    refine lv_lload hx hb dX0_mixPlace_19 (lv_at hl 0 rfl) ?_
    refine lv_aload_n hx hb dX0_mixPlace_21 rfl (lv_at hl 1 rfl) ?_
    refine lv_iload_n hx hb dX0_mixPlace_22 rfl (lv_at hl 3 rfl) ?_
    refine g0i (As := [.int (nI k)]) (rest := [.long (hsh d 1)]) S (c_sureGrade l E a σ k (by omega) (by omega)) (cwV 1 hts gX0_mixPlace_X0_sureGrade rfl rfl rfl hdX0_sureGrade ⟨Nat.le_of_ble_eq_true rfl, Nat.le_of_ble_eq_true rfl⟩) hK hP rfl hl.1 rfl (Nat.le_of_ble_eq_true rfl) ⟨Nat.zero_le _, Nat.zero_le _⟩ dX0_mixPlace_23 ?_
    refine g_sl (As := [.long (hsh d 1), .int (gsu σ k)]) (rest := []) S (c_mix l E (hsh d 1) (gsu σ k)) (va_cwS 2 hts gX0_mixPlace_X0_mix rfl rfl rfl hdX0_mix.2 ⟨Nat.le_of_ble_eq_true rfl, Nat.le_of_ble_eq_true rfl⟩) hK (hP.sub [] rfl) rfl hl.1 rfl (Nat.le_of_ble_eq_true rfl) ⟨Nat.zero_le _, Nat.zero_le _⟩ dX0_mixPlace_26 ?_
    refine lv_lstore (lv' := [(4, .long (hsh (hsh d 1) (gsu σ k))), (0, .ref (a 0)), (1, .long d), (3, .int (nI k))]) hx hb dX0_mixPlace_29 hl (by decide) rfl (fun ls hl => ?_)
    refine lv_lload hx hb dX0_mixPlace_31 (lv_at hl 0 rfl) ?_
    refine lv_aload_n hx hb dX0_mixPlace_33 rfl (lv_at hl 1 rfl) ?_
    refine lv_iload_n hx hb dX0_mixPlace_34 rfl (lv_at hl 3 rfl) ?_
    refine g0i (As := [.int (nI k)]) (rest := [.long (hsh (hsh d 1) (gsu σ k))]) S (c_hope l E a σ k (by omega) (by omega)) (cwV 1 hts gX0_mixPlace_X0_hope rfl rfl rfl hdX0_hope ⟨Nat.le_of_ble_eq_true rfl, Nat.le_of_ble_eq_true rfl⟩) hK hP rfl hl.1 rfl (Nat.le_of_ble_eq_true rfl) ⟨Nat.zero_le _, Nat.zero_le _⟩ dX0_mixPlace_35 ?_
    refine g_sl (As := [.long (hsh (hsh d 1) (gsu σ k)), .int (gho σ k)]) (rest := []) S (c_mix l E (hsh (hsh d 1) (gsu σ k)) (gho σ k)) (va_cwS 2 hts gX0_mixPlace_X0_mix rfl rfl rfl hdX0_mix.2 ⟨Nat.le_of_ble_eq_true rfl, Nat.le_of_ble_eq_true rfl⟩) hK (hP.sub [] rfl) rfl hl.1 rfl (Nat.le_of_ble_eq_true rfl) ⟨Nat.zero_le _, Nat.zero_le _⟩ dX0_mixPlace_38 ?_
    refine lv_lstore (lv' := [(4, .long (hsh (hsh (hsh d 1) (gsu σ k)) (gho σ k))), (0, .ref (a 0)), (1, .long d), (3, .int (nI k))]) hx hb dX0_mixPlace_41 hl (by decide) rfl (fun ls hl => ?_)
    refine lv_lload hx hb dX0_mixPlace_43 (lv_at hl 0 rfl) ?_
    refine lv_aload_n hx hb dX0_mixPlace_45 rfl (lv_at hl 1 rfl) ?_
    refine lv_iload_n hx hb dX0_mixPlace_46 rfl (lv_at hl 3 rfl) ?_
    refine g0i (As := [.int (nI k)]) (rest := [.long (hsh (hsh (hsh d 1) (gsu σ k)) (gho σ k))]) S (c_examsFrom l E a σ k (by omega) (by omega)) (cwV 1 hts gX0_mixPlace_X0_examsFrom rfl rfl rfl hdX0_examsFrom ⟨Nat.le_of_ble_eq_true rfl, Nat.le_of_ble_eq_true rfl⟩) hK hP rfl hl.1 rfl (Nat.le_of_ble_eq_true rfl) ⟨Nat.zero_le _, Nat.zero_le _⟩ dX0_mixPlace_47 ?_
    refine g_sl (As := [.long (hsh (hsh (hsh d 1) (gsu σ k)) (gho σ k)), .int (gEf σ k)]) (rest := []) S (c_mix l E (hsh (hsh (hsh d 1) (gsu σ k)) (gho σ k)) (gEf σ k)) (va_cwS 2 hts gX0_mixPlace_X0_mix rfl rfl rfl hdX0_mix.2 ⟨Nat.le_of_ble_eq_true rfl, Nat.le_of_ble_eq_true rfl⟩) hK (hP.sub [] rfl) rfl hl.1 rfl (Nat.le_of_ble_eq_true rfl) ⟨Nat.zero_le _, Nat.zero_le _⟩ dX0_mixPlace_50 ?_
    refine lv_lstore (lv' := [(4, .long (hsh (hsh (hsh (hsh d 1) (gsu σ k)) (gho σ k)) (gEf σ k))), (0, .ref (a 0)), (1, .long d), (3, .int (nI k))]) hx hb dX0_mixPlace_53 hl (by decide) rfl (fun ls hl => ?_)
    refine lv_lload hx hb dX0_mixPlace_55 (lv_at hl 0 rfl) ?_
    refine lv_aload_n hx hb dX0_mixPlace_57 rfl (lv_at hl 1 rfl) ?_
    refine lv_iload_n hx hb dX0_mixPlace_58 rfl (lv_at hl 3 rfl) ?_
    refine g0i (As := [.int (nI k)]) (rest := [.long (hsh (hsh (hsh (hsh d 1) (gsu σ k)) (gho σ k)) (gEf σ k))]) S (c_planLeadsTo l E a σ hO k (by omega)) (cwV 1 hts gX0_mixPlace_X0_planLeadsTo rfl rfl rfl hdX0_planLeadsTo ⟨Nat.le_of_ble_eq_true rfl, Nat.le_of_ble_eq_true rfl⟩) hK hP rfl hl.1 rfl (Nat.le_of_ble_eq_true rfl) ⟨Nat.zero_le _, Nat.zero_le _⟩ dX0_mixPlace_59 ?_
    refine g_sl (As := [.long (hsh (hsh (hsh (hsh d 1) (gsu σ k)) (gho σ k)) (gEf σ k)), .int (nI (gLd σ 40 k))]) (rest := []) S (c_mix l E (hsh (hsh (hsh (hsh d 1) (gsu σ k)) (gho σ k)) (gEf σ k)) (nI (gLd σ 40 k))) (va_cwS 2 hts gX0_mixPlace_X0_mix rfl rfl rfl hdX0_mix.2 ⟨Nat.le_of_ble_eq_true rfl, Nat.le_of_ble_eq_true rfl⟩) hK (hP.sub [] rfl) rfl hl.1 rfl (Nat.le_of_ble_eq_true rfl) ⟨Nat.zero_le _, Nat.zero_le _⟩ dX0_mixPlace_62 ?_
    refine lv_lstore (lv' := [(4, .long (hsh (hsh (hsh (hsh (hsh d 1) (gsu σ k)) (gho σ k)) (gEf σ k)) (nI (gLd σ 40 k)))), (0, .ref (a 0)), (1, .long d), (3, .int (nI k))]) hx hb dX0_mixPlace_65 hl (by decide) rfl (fun ls hl => ?_)
    refine lv_aload_n hx hb dX0_mixPlace_67 rfl (lv_at hl 1 rfl) ?_
    refine lv_iload_n hx hb dX0_mixPlace_68 rfl (lv_at hl 3 rfl) ?_
    refine g0i (As := [.int (nI k)]) (rest := []) S (c_holdsExam l E a σ k (by omega)) (cwV 1 hts gX0_mixPlace_X0_holdsExam rfl rfl rfl hdX0_holdsExam ⟨Nat.le_of_ble_eq_true rfl, Nat.le_of_ble_eq_true rfl⟩) hK hP rfl hl.1 rfl (Nat.le_of_ble_eq_true rfl) ⟨Nat.zero_le _, Nat.zero_le _⟩ dX0_mixPlace_69 ?_
    refine lv_if_eq (tgt := 86) hx hb dX0_mixPlace_72 (by decide) (fun q => absurd q ((b2i_ne0.mpr hE))) (fun _ => ?_)
    refine lv_lload hx hb dX0_mixPlace_75 (lv_at hl 0 rfl) ?_
    refine lv_aload_n hx hb dX0_mixPlace_77 rfl (lv_at hl 1 rfl) ?_
    refine lv_iload_n hx hb dX0_mixPlace_78 rfl (lv_at hl 3 rfl) ?_
    refine g0i (As := [.int (nI k)]) (rest := [.long (hsh (hsh (hsh (hsh (hsh d 1) (gsu σ k)) (gho σ k)) (gEf σ k)) (nI (gLd σ 40 k)))]) S (c_gradeOf l E a σ k (by omega) (by omega) hE) (cwV 1 hts gX0_mixPlace_X0_gradeOf rfl rfl rfl hdX0_gradeOf ⟨Nat.le_of_ble_eq_true rfl, Nat.le_of_ble_eq_true rfl⟩) hK hP rfl hl.1 rfl (Nat.le_of_ble_eq_true rfl) ⟨Nat.zero_le _, Nat.zero_le _⟩ dX0_mixPlace_79 ?_
    refine g_sl (As := [.long (hsh (hsh (hsh (hsh (hsh d 1) (gsu σ k)) (gho σ k)) (gEf σ k)) (nI (gLd σ 40 k))), .int (ggr σ k)]) (rest := []) S (c_mix l E (hsh (hsh (hsh (hsh (hsh d 1) (gsu σ k)) (gho σ k)) (gEf σ k)) (nI (gLd σ 40 k))) (ggr σ k)) (va_cwS 2 hts gX0_mixPlace_X0_mix rfl rfl rfl hdX0_mix.2 ⟨Nat.le_of_ble_eq_true rfl, Nat.le_of_ble_eq_true rfl⟩) hK (hP.sub [] rfl) rfl hl.1 rfl (Nat.le_of_ble_eq_true rfl) ⟨Nat.zero_le _, Nat.zero_le _⟩ dX0_mixPlace_82 ?_
    exact W.lret hx hb hr (fun t ht hW => ⟨_, rfl, (by rw [gPd, gPd0, hE]; rfl), ht⟩) (fun _ h => nomatch h) dX0_mixPlace_85
theorem hinX0_digest : ∀ w ∈ wsX00, w ∈ wsX0_digest := fun w h => List.mem_cons_of_mem _ (List.mem_append_left _ (List.mem_append_right _ h))
theorem hdX0_digest : yX0_digest.cls = RX0 ∧ yX0_digest.cls ≠ "java/lang/invoke/MethodHandle" ∧ yX0_digest.cls ≠ "java/lang/invoke/VarHandle" ∧ (parseMethodDescriptor yX0_digest.desc).map (fun d => d.parameters.length) = some 0 := by decide +kernel
set_option maxHeartbeats 4000000 in
set_option maxRecDepth 100000 in
theorem c_digest (l : Launch) (E : GE) (a : Nat → Nat) (σ : GS) (hO : GOK σ) : Met l yX0_digest wsX0_digest { frames := 6, cells := 0, slots := 0, locals := 136 } (va_Pc [.ref (a 0)] (gB E (gW E a σ))) (vp_Sl (fun r => r = gDig σ)) 0 0 (fun _ => False) := by
  refine w_met (cc := cX0_digest) (maxL := 4) (ret := (some .long)) (by decide) rfl (Nat.le_of_ble_eq_true rfl) ?_
  intro p e s m below meth c ls S hr hlocks hname hB hl
  obtain ⟨hP, hK⟩ := hB
  obtain ⟨hx, hb, hml, hown, hts⟩ := id S
  have tn := hO.1
  have tk := hO.2.1
  have hts0 := hinX0_digest
  have hl : lv_has ls 4 [(0, .ref (a 0))] := hl
  refine lv_ldc2 (v := 1039) hx hb hown (hts (.constantLong RX0 179 (1039)) (by decide +kernel)) dX0_digest_0 ?_
  refine lv_lstore_n (lv' := [(1, .long 1039), (0, .ref (a 0))]) hx hb dX0_digest_3 rfl hl (by decide) rfl (fun ls hl => ?_)
  refine lv_lload_n hx hb dX0_digest_4 rfl (lv_at hl 0 rfl) ?_
  refine lv_aload_n hx hb dX0_digest_5 rfl (lv_at hl 1 rfl) ?_
  refine g0i (As := []) (rest := [.long 1039]) S (c_places l E a σ) (cwV 0 hts gX0_digest_X0_places rfl rfl rfl hdX0_places ⟨Nat.le_of_ble_eq_true rfl, Nat.le_of_ble_eq_true rfl⟩) hK hP rfl hl.1 rfl (Nat.le_of_ble_eq_true rfl) ⟨Nat.zero_le _, Nat.zero_le _⟩ dX0_digest_6 ?_
  refine g_sl (As := [.long 1039, .int (nI (gn σ))]) (rest := []) S (c_mix l E 1039 (nI (gn σ))) (va_cwS 2 hts gX0_digest_X0_mix rfl rfl rfl hdX0_mix.2 ⟨Nat.le_of_ble_eq_true rfl, Nat.le_of_ble_eq_true rfl⟩) hK (hP.sub [] rfl) rfl hl.1 rfl (Nat.le_of_ble_eq_true rfl) ⟨Nat.zero_le _, Nat.zero_le _⟩ dX0_digest_9 ?_
  refine lv_lstore_n (lv' := [(1, .long (hsh 1039 (nI (gn σ)))), (0, .ref (a 0))]) hx hb dX0_digest_12 rfl hl (by decide) rfl (fun ls hl => ?_)
  refine lv_lload_n hx hb dX0_digest_13 rfl (lv_at hl 0 rfl) ?_
  refine lv_aload_n hx hb dX0_digest_14 rfl (lv_at hl 1 rfl) ?_
  refine g0i (As := []) (rest := [.long (hsh 1039 (nI (gn σ)))]) S (c_exams l E a σ) (cwV 0 hts gX0_digest_X0_exams rfl rfl rfl hdX0_exams ⟨Nat.le_of_ble_eq_true rfl, Nat.le_of_ble_eq_true rfl⟩) hK hP rfl hl.1 rfl (Nat.le_of_ble_eq_true rfl) ⟨Nat.zero_le _, Nat.zero_le _⟩ dX0_digest_15 ?_
  refine g_sl (As := [.long (hsh 1039 (nI (gn σ))), .int (popc (ge σ))]) (rest := []) S (c_mix l E (hsh 1039 (nI (gn σ))) (popc (ge σ))) (va_cwS 2 hts gX0_digest_X0_mix rfl rfl rfl hdX0_mix.2 ⟨Nat.le_of_ble_eq_true rfl, Nat.le_of_ble_eq_true rfl⟩) hK (hP.sub [] rfl) rfl hl.1 rfl (Nat.le_of_ble_eq_true rfl) ⟨Nat.zero_le _, Nat.zero_le _⟩ dX0_digest_18 ?_
  refine lv_lstore_n (lv' := [(1, .long (hsh (hsh 1039 (nI (gn σ))) (popc (ge σ)))), (0, .ref (a 0))]) hx hb dX0_digest_21 rfl hl (by decide) rfl (fun ls hl => ?_)
  refine lv_lload_n hx hb dX0_digest_22 rfl (lv_at hl 0 rfl) ?_
  refine lv_aload_n hx hb dX0_digest_23 rfl (lv_at hl 1 rfl) ?_
  refine g0i (As := []) (rest := [.long (hsh (hsh 1039 (nI (gn σ))) (popc (ge σ)))]) S (c_graded l E a σ) (cwV 0 hts gX0_digest_X0_graded rfl rfl rfl hdX0_graded ⟨Nat.le_of_ble_eq_true rfl, Nat.le_of_ble_eq_true rfl⟩) hK hP rfl hl.1 rfl (Nat.le_of_ble_eq_true rfl) ⟨Nat.zero_le _, Nat.zero_le _⟩ dX0_digest_24 ?_
  refine g_sl (As := [.long (hsh (hsh 1039 (nI (gn σ))) (popc (ge σ))), .int (gc σ)]) (rest := []) S (c_mix l E (hsh (hsh 1039 (nI (gn σ))) (popc (ge σ))) (gc σ)) (va_cwS 2 hts gX0_digest_X0_mix rfl rfl rfl hdX0_mix.2 ⟨Nat.le_of_ble_eq_true rfl, Nat.le_of_ble_eq_true rfl⟩) hK (hP.sub [] rfl) rfl hl.1 rfl (Nat.le_of_ble_eq_true rfl) ⟨Nat.zero_le _, Nat.zero_le _⟩ dX0_digest_27 ?_
  refine lv_lstore_n (lv' := [(1, .long (hsh (hsh (hsh 1039 (nI (gn σ))) (popc (ge σ))) (gc σ))), (0, .ref (a 0))]) hx hb dX0_digest_30 rfl hl (by decide) rfl (fun ls hl => ?_)
  refine lv_lload_n hx hb dX0_digest_31 rfl (lv_at hl 0 rfl) ?_
  refine lv_aload_n hx hb dX0_digest_32 rfl (lv_at hl 1 rfl) ?_
  refine g0i (As := []) (rest := [.long (hsh (hsh (hsh 1039 (nI (gn σ))) (popc (ge σ))) (gc σ))]) S (c_students l E a σ) (cwV 0 hts gX0_digest_X0_students rfl rfl rfl hdX0_students ⟨Nat.le_of_ble_eq_true rfl, Nat.le_of_ble_eq_true rfl⟩) hK hP rfl hl.1 rfl (Nat.le_of_ble_eq_true rfl) ⟨Nat.zero_le _, Nat.zero_le _⟩ dX0_digest_33 ?_
  refine g_sl (As := [.long (hsh (hsh (hsh 1039 (nI (gn σ))) (popc (ge σ))) (gc σ)), .int (nI (gk σ))]) (rest := []) S (c_mix l E (hsh (hsh (hsh 1039 (nI (gn σ))) (popc (ge σ))) (gc σ)) (nI (gk σ))) (va_cwS 2 hts gX0_digest_X0_mix rfl rfl rfl hdX0_mix.2 ⟨Nat.le_of_ble_eq_true rfl, Nat.le_of_ble_eq_true rfl⟩) hK (hP.sub [] rfl) rfl hl.1 rfl (Nat.le_of_ble_eq_true rfl) ⟨Nat.zero_le _, Nat.zero_le _⟩ dX0_digest_36 ?_
  refine lv_lstore_n (lv' := [(1, .long (hsh (hsh (hsh (hsh 1039 (nI (gn σ))) (popc (ge σ))) (gc σ)) (nI (gk σ)))), (0, .ref (a 0))]) hx hb dX0_digest_39 rfl hl (by decide) rfl (fun ls hl => ?_)
  refine lv_lload_n hx hb dX0_digest_40 rfl (lv_at hl 0 rfl) ?_
  refine lv_aload_n hx hb dX0_digest_41 rfl (lv_at hl 1 rfl) ?_
  refine g0i (As := []) (rest := [.long (hsh (hsh (hsh (hsh 1039 (nI (gn σ))) (popc (ge σ))) (gc σ)) (nI (gk σ)))]) S (c_atExams l E a σ hO) (cwV 0 hts gX0_digest_X0_atExams rfl rfl rfl hdX0_atExams ⟨Nat.le_of_ble_eq_true rfl, Nat.le_of_ble_eq_true rfl⟩) hK hP rfl hl.1 rfl (Nat.le_of_ble_eq_true rfl) ⟨Nat.zero_le _, Nat.zero_le _⟩ dX0_digest_42 ?_
  refine g_sl (As := [.long (hsh (hsh (hsh (hsh 1039 (nI (gn σ))) (popc (ge σ))) (gc σ)) (nI (gk σ))), .int (gAtE σ)]) (rest := []) S (c_mix l E (hsh (hsh (hsh (hsh 1039 (nI (gn σ))) (popc (ge σ))) (gc σ)) (nI (gk σ))) (gAtE σ)) (va_cwS 2 hts gX0_digest_X0_mix rfl rfl rfl hdX0_mix.2 ⟨Nat.le_of_ble_eq_true rfl, Nat.le_of_ble_eq_true rfl⟩) hK (hP.sub [] rfl) rfl hl.1 rfl (Nat.le_of_ble_eq_true rfl) ⟨Nat.zero_le _, Nat.zero_le _⟩ dX0_digest_45 ?_
  refine lv_lstore_n (lv' := [(1, .long (hsh (hsh (hsh (hsh (hsh 1039 (nI (gn σ))) (popc (ge σ))) (gc σ)) (nI (gk σ))) (gAtE σ))), (0, .ref (a 0))]) hx hb dX0_digest_48 rfl hl (by decide) rfl (fun ls hl => ?_)
  refine lv_lload_n hx hb dX0_digest_49 rfl (lv_at hl 0 rfl) ?_
  refine lv_aload_n hx hb dX0_digest_50 rfl (lv_at hl 1 rfl) ?_
  refine g0i (As := []) (rest := [.long (hsh (hsh (hsh (hsh (hsh 1039 (nI (gn σ))) (popc (ge σ))) (gc σ)) (nI (gk σ))) (gAtE σ))]) S (c_riskiestFork l E a σ hO) (cwV 0 hts gX0_digest_X0_riskiestFork rfl rfl rfl hdX0_riskiestFork ⟨Nat.le_of_ble_eq_true rfl, Nat.le_of_ble_eq_true rfl⟩) hK hP rfl hl.1 rfl (Nat.le_of_ble_eq_true rfl) ⟨Nat.zero_le _, Nat.zero_le _⟩ dX0_digest_51 ?_
  refine g_sl (As := [.long (hsh (hsh (hsh (hsh (hsh 1039 (nI (gn σ))) (popc (ge σ))) (gc σ)) (nI (gk σ))) (gAtE σ)), .int ((gRf σ).1)]) (rest := []) S (c_mix l E (hsh (hsh (hsh (hsh (hsh 1039 (nI (gn σ))) (popc (ge σ))) (gc σ)) (nI (gk σ))) (gAtE σ)) ((gRf σ).1)) (va_cwS 2 hts gX0_digest_X0_mix rfl rfl rfl hdX0_mix.2 ⟨Nat.le_of_ble_eq_true rfl, Nat.le_of_ble_eq_true rfl⟩) hK (hP.sub [] rfl) rfl hl.1 rfl (Nat.le_of_ble_eq_true rfl) ⟨Nat.zero_le _, Nat.zero_le _⟩ dX0_digest_54 ?_
  refine lv_lstore_n (lv' := [(1, .long (hsh (hsh (hsh (hsh (hsh (hsh 1039 (nI (gn σ))) (popc (ge σ))) (gc σ)) (nI (gk σ))) (gAtE σ)) ((gRf σ).1))), (0, .ref (a 0))]) hx hb dX0_digest_57 rfl hl (by decide) rfl (fun ls hl => ?_)
  refine lv_lload_n hx hb dX0_digest_58 rfl (lv_at hl 0 rfl) ?_
  refine lv_aload_n hx hb dX0_digest_59 rfl (lv_at hl 1 rfl) ?_
  refine g0i (As := []) (rest := [.long (hsh (hsh (hsh (hsh (hsh (hsh 1039 (nI (gn σ))) (popc (ge σ))) (gc σ)) (nI (gk σ))) (gAtE σ)) ((gRf σ).1))]) S (c_allRegret l E a σ hO) (cwV 0 hts gX0_digest_X0_allRegret rfl rfl rfl hdX0_allRegret ⟨Nat.le_of_ble_eq_true rfl, Nat.le_of_ble_eq_true rfl⟩) hK hP rfl hl.1 rfl (Nat.le_of_ble_eq_true rfl) ⟨Nat.zero_le _, Nat.zero_le _⟩ dX0_digest_60 ?_
  refine g_sl (As := [.long (hsh (hsh (hsh (hsh (hsh (hsh 1039 (nI (gn σ))) (popc (ge σ))) (gc σ)) (nI (gk σ))) (gAtE σ)) ((gRf σ).1)), .int (gAll σ)]) (rest := []) S (c_mix l E (hsh (hsh (hsh (hsh (hsh (hsh 1039 (nI (gn σ))) (popc (ge σ))) (gc σ)) (nI (gk σ))) (gAtE σ)) ((gRf σ).1)) (gAll σ)) (va_cwS 2 hts gX0_digest_X0_mix rfl rfl rfl hdX0_mix.2 ⟨Nat.le_of_ble_eq_true rfl, Nat.le_of_ble_eq_true rfl⟩) hK (hP.sub [] rfl) rfl hl.1 rfl (Nat.le_of_ble_eq_true rfl) ⟨Nat.zero_le _, Nat.zero_le _⟩ dX0_digest_63 ?_
  refine lv_lstore_n (lv' := [(1, .long (hsh (hsh (hsh (hsh (hsh (hsh (hsh 1039 (nI (gn σ))) (popc (ge σ))) (gc σ)) (nI (gk σ))) (gAtE σ)) ((gRf σ).1)) (gAll σ))), (0, .ref (a 0))]) hx hb dX0_digest_66 rfl hl (by decide) rfl (fun ls hl => ?_)
  refine lv_iconst (v := 0) hx hb dX0_digest_67 (by decide) ?_
  refine lv_istore_n (lv' := [(3, .int 0), (1, .long (hsh (hsh (hsh (hsh (hsh (hsh (hsh 1039 (nI (gn σ))) (popc (ge σ))) (gc σ)) (nI (gk σ))) (gAtE σ)) ((gRf σ).1)) (gAll σ))), (0, .ref (a 0))]) hx hb dX0_digest_68 rfl hl (by decide) rfl (fun ls hl => ?_)
  have key : ∀ (d i : Nat) (x : Int64) (ls : Array Slot), i + d = gn σ → x = gDp σ (gD0 σ) i → lv_has ls 4 [(3, .int (nI i)), (1, .long x), (0, .ref (a 0))] → W p l e (headSpec wsX0_digest { frames := 6, cells := 0, slots := 0, locals := 136 }).room s m [.ref (a 0)].toArray below meth c s.heap [] 0 0 (MQ below (vp_Sl (fun r => r = gDig σ)) [.ref (a 0)].toArray s 0 0 (fun _ => False)) (F0 m 69 ls []) := by
    intro d
    induction d with
    | zero =>
      intro i x ls hi hinv hl
      obtain rfl : i = gn σ := by omega
      refine lv_iload_n hx hb dX0_digest_69 rfl (lv_at hl 0 rfl) ?_
      refine lv_aload_n hx hb dX0_digest_70 rfl (lv_at hl 2 rfl) ?_
      refine g_get (σ := σ) hx hb hts hts0 hown hK hP 0 (by decide) (by decide +kernel) rfl rfl dX0_digest_71 ?_
      refine lv_icmp_ge (tgt := 90) hx hb dX0_digest_74 (by decide) (fun _ => ?_) (fun q => absurd ((nI_le (Nat.le_refl _) (by omega))) q)
      refine lv_iconst (v := 0) hx hb dX0_digest_90 (by decide) ?_
      refine lv_istore_n (lv' := [(3, .int 0), (1, .long x), (0, .ref (a 0))]) hx hb dX0_digest_91 rfl hl (by decide) rfl (fun ls hl => ?_)
      have key : ∀ (d i : Nat) (x : Int64) (ls : Array Slot), i + d = gk σ → x = gDs σ (gDp σ (gD0 σ) (gn σ)) i → lv_has ls 4 [(3, .int (nI i)), (1, .long x), (0, .ref (a 0))] → W p l e (headSpec wsX0_digest { frames := 6, cells := 0, slots := 0, locals := 136 }).room s m [.ref (a 0)].toArray below meth c s.heap [] 0 0 (MQ below (vp_Sl (fun r => r = gDig σ)) [.ref (a 0)].toArray s 0 0 (fun _ => False)) (F0 m 92 ls []) := by
        intro d
        induction d with
        | zero =>
          intro i x ls hi hinv hl
          obtain rfl : i = gk σ := by omega
          refine lv_iload_n hx hb dX0_digest_92 rfl (lv_at hl 0 rfl) ?_
          refine lv_aload_n hx hb dX0_digest_93 rfl (lv_at hl 2 rfl) ?_
          refine g_get (σ := σ) hx hb hts hts0 hown hK hP 1 (by decide) (by decide +kernel) rfl rfl dX0_digest_94 ?_
          refine lv_icmp_ge (tgt := 126) hx hb dX0_digest_97 (by decide) (fun _ => ?_) (fun q => absurd ((nI_le (Nat.le_refl _) (by omega))) q)
          refine lv_lload_n hx hb dX0_digest_126 rfl (lv_at hl 1 rfl) ?_
          exact W.lret hx hb hr (fun t ht hW => ⟨_, rfl, hinv, ht⟩) (fun _ h => nomatch h) dX0_digest_127
        | succ d ih =>
          intro i x ls hi hinv hl
          refine lv_iload_n hx hb dX0_digest_92 rfl (lv_at hl 0 rfl) ?_
          refine lv_aload_n hx hb dX0_digest_93 rfl (lv_at hl 2 rfl) ?_
          refine g_get (σ := σ) hx hb hts hts0 hown hK hP 1 (by decide) (by decide +kernel) rfl rfl dX0_digest_94 ?_
          refine lv_icmp_ge (tgt := 126) hx hb dX0_digest_97 (by decide) (fun q => absurd q ((nI_ge (by omega) (by omega)))) (fun _ => ?_)
          refine lv_lload_n hx hb dX0_digest_100 rfl (lv_at hl 1 rfl) ?_
          refine lv_aload_n hx hb dX0_digest_101 rfl (lv_at hl 2 rfl) ?_
          refine lv_iload_n hx hb dX0_digest_102 rfl (lv_at hl 0 rfl) ?_
          refine g0i (As := [.int (nI i)]) (rest := [.long x]) S (c_placeOf l E a σ i (by omega) (by omega)) (cwV 1 hts gX0_digest_X0_placeOf rfl rfl rfl hdX0_placeOf ⟨Nat.le_of_ble_eq_true rfl, Nat.le_of_ble_eq_true rfl⟩) hK hP rfl hl.1 rfl (Nat.le_of_ble_eq_true rfl) ⟨Nat.zero_le _, Nat.zero_le _⟩ dX0_digest_103 ?_
          refine g_sl (As := [.long x, .int (nI (gst σ i))]) (rest := []) S (c_mix l E x (nI (gst σ i))) (va_cwS 2 hts gX0_digest_X0_mix rfl rfl rfl hdX0_mix.2 ⟨Nat.le_of_ble_eq_true rfl, Nat.le_of_ble_eq_true rfl⟩) hK (hP.sub [] rfl) rfl hl.1 rfl (Nat.le_of_ble_eq_true rfl) ⟨Nat.zero_le _, Nat.zero_le _⟩ dX0_digest_106 ?_
          refine lv_lstore_n (lv' := [(1, .long (hsh x (nI (gst σ i)))), (3, .int (nI i)), (0, .ref (a 0))]) hx hb dX0_digest_109 rfl hl (by decide) rfl (fun ls hl => ?_)
          refine lv_lload_n hx hb dX0_digest_110 rfl (lv_at hl 0 rfl) ?_
          refine lv_aload_n hx hb dX0_digest_111 rfl (lv_at hl 2 rfl) ?_
          refine lv_iload_n hx hb dX0_digest_112 rfl (lv_at hl 1 rfl) ?_
          refine g0i (As := [.int (nI i)]) (rest := [.long (hsh x (nI (gst σ i)))]) S (c_passedBy l E a σ i (by omega) (by omega)) (cwV 1 hts gX0_digest_X0_passedBy rfl rfl rfl hdX0_passedBy ⟨Nat.le_of_ble_eq_true rfl, Nat.le_of_ble_eq_true rfl⟩) hK hP rfl hl.1 rfl (Nat.le_of_ble_eq_true rfl) ⟨Nat.zero_le _, Nat.zero_le _⟩ dX0_digest_113 ?_
          refine g_sl (As := [.long (hsh x (nI (gst σ i))), .int (nI (gpc σ i))]) (rest := []) S (c_mix l E (hsh x (nI (gst σ i))) (nI (gpc σ i))) (va_cwS 2 hts gX0_digest_X0_mix rfl rfl rfl hdX0_mix.2 ⟨Nat.le_of_ble_eq_true rfl, Nat.le_of_ble_eq_true rfl⟩) hK (hP.sub [] rfl) rfl hl.1 rfl (Nat.le_of_ble_eq_true rfl) ⟨Nat.zero_le _, Nat.zero_le _⟩ dX0_digest_116 ?_
          refine lv_lstore_n (lv' := [(1, .long (hsh (hsh x (nI (gst σ i))) (nI (gpc σ i)))), (3, .int (nI i)), (0, .ref (a 0))]) hx hb dX0_digest_119 rfl hl (by decide) rfl (fun ls hl => ?_)
          refine lv_iinc (v := nI (i + 1)) (lv' := [(3, .int (nI (i + 1))), (1, .long (hsh (hsh x (nI (gst σ i))) (nI (gpc σ i)))), (0, .ref (a 0))]) hx hb dX0_digest_120 hl (k := 1) rfl (nI_1 i) (by decide) rfl (fun ls hl => ?_)
          refine lv_goto (tgt := 92) hx hb dX0_digest_123 (by decide) ?_
          exact ih (i + 1) (hsh (hsh x (nI (gst σ i))) (nI (gpc σ i))) ls (by omega) (by rw [hinv]; rfl) (lv_sub hl [0, 1, 2] rfl)
      exact key (gk σ) 0 x ls (by omega) hinv (lv_sub hl [0, 1, 2] rfl)
    | succ d ih =>
      intro i x ls hi hinv hl
      refine lv_iload_n hx hb dX0_digest_69 rfl (lv_at hl 0 rfl) ?_
      refine lv_aload_n hx hb dX0_digest_70 rfl (lv_at hl 2 rfl) ?_
      refine g_get (σ := σ) hx hb hts hts0 hown hK hP 0 (by decide) (by decide +kernel) rfl rfl dX0_digest_71 ?_
      refine lv_icmp_ge (tgt := 90) hx hb dX0_digest_74 (by decide) (fun q => absurd q ((nI_ge (by omega) (by omega)))) (fun _ => ?_)
      refine lv_aload_n hx hb dX0_digest_77 rfl (lv_at hl 2 rfl) ?_
      refine lv_lload_n hx hb dX0_digest_78 rfl (lv_at hl 1 rfl) ?_
      refine lv_iload_n hx hb dX0_digest_79 rfl (lv_at hl 0 rfl) ?_
      refine g0l (As := [.long x, .int (nI i)]) (rest := []) S (c_mixPlace l E a σ hO x i (by omega)) (cwV 2 hts gX0_digest_X0_mixPlace rfl rfl rfl hdX0_mixPlace ⟨Nat.le_of_ble_eq_true rfl, Nat.le_of_ble_eq_true rfl⟩) hK hP rfl hl.1 rfl (Nat.le_of_ble_eq_true rfl) ⟨Nat.zero_le _, Nat.zero_le _⟩ dX0_digest_80 ?_
      refine lv_lstore_n (lv' := [(1, .long (gPd σ x i)), (3, .int (nI i)), (0, .ref (a 0))]) hx hb dX0_digest_83 rfl hl (by decide) rfl (fun ls hl => ?_)
      refine lv_iinc (v := nI (i + 1)) (lv' := [(3, .int (nI (i + 1))), (1, .long (gPd σ x i)), (0, .ref (a 0))]) hx hb dX0_digest_84 hl (k := 1) rfl (nI_1 i) (by decide) rfl (fun ls hl => ?_)
      refine lv_goto (tgt := 69) hx hb dX0_digest_87 (by decide) ?_
      exact ih (i + 1) (gPd σ x i) ls (by omega) (by rw [hinv]; rfl) (lv_sub hl [0, 1, 2] rfl)
  exact key (gn σ) 0 (gD0 σ) ls (by omega) rfl (lv_sub hl [0, 1, 2] rfl)
