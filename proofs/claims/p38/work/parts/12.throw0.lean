
/-! ExamGarden's throws -/
abbrev XA : String := "java/lang/IllegalArgumentException"
abbrev XS : String := "java/lang/IllegalStateException"
abbrev XI : String := "java/lang/IndexOutOfBoundsException"
abbrev gUp : List String := ["java/lang/RuntimeException", "java/lang/Exception"]
def gStr : List (Nat × String) := [(52, "an exam has grades from 0 to 20, the lowest one first"), (104, "the exam can't have this grade"), (112, "the exam is graded"), (130, "there are 8 students"), (138, "the student stands at an exam"), (144, "the student passed no fork"), (248, "there are 40 places"), (252, "there is no such place"), (255, "the place is no exam"), (257, "the place is no fork"), (259, "a weight is 1 to 9"), (261, "there is no such student"), (263, "the student does not stand at a graded exam")]
def gCast : List Cond := [.castable "java/lang/IllegalArgumentException" "java/lang/IllegalArgumentException", .castable "java/lang/IllegalStateException" "java/lang/IllegalStateException", .castable "java/lang/IndexOutOfBoundsException" "java/lang/IndexOutOfBoundsException", .declares ⟨"java/lang/RuntimeException", "<init>", "(Ljava/lang/String;)V"⟩, .declares ⟨"java/lang/Exception", "<init>", "(Ljava/lang/String;)V"⟩, .declares ⟨"java/lang/Throwable", "<init>", "(Ljava/lang/String;)V"⟩]
/-- what a throw needs of the world: two statics of Throwable, the texts, three words -/
def gZh (U : State) (H : Heap) : Prop := vx_Zq Bundle.tN "UNASSIGNED_STACK" Bundle.steD (fun _ => False) U H ∧ vx_Zq Bundle.tN "SUPPRESSED_SENTINEL" Bundle.listD (fun _ => False) U H ∧ (∀ q ∈ gStr, ∃ sa : Nat, vk_R RX0 q.1 q.2 sa U) ∧ ∀ w ∈ gCast, va_Nw w U
theorem gZh.warm {s U : State} {H : Heap} (hW : s.WarmedH U.vm) (h : gZh s H) : gZh U H := by
  refine ⟨h.1.moved hW.alike, h.2.1.moved hW.alike, fun q hq => ?_, fun w hw => ?_⟩
  · obtain ⟨sa, hs⟩ := h.2.2.1 q hq
    exact ⟨sa, vk_R.warm hW hs⟩
  · have h2 := h.2.2.2 w hw
    simp only [gCast, List.mem_cons, List.not_mem_nil, or_false] at hw
    rcases hw with rfl | rfl | rfl | rfl | rfl | rfl <;> first | exact va_Nw.warmC hW h2 | exact va_Nw.warmD hW h2
theorem gZh.kept {s : State} {H H1 : Heap} (h : gZh s H) (hq : ∀ a : Nat, a < H.size → H1[a]? = H[a]?) : gZh s H1 := ⟨h.1.kept (fun a ha _ => hq a ha), h.2.1.kept (fun a ha _ => hq a ha), h.2.2⟩
def gBx (E : GE) (ws : va_W) (U : State) : Prop := gB E ws U ∧ gZh U U.heap
theorem gBx_blind {E : GE} {ws : va_W} {av : List Value} : FrameBlind (va_Pc av (gBx E ws)) := fun a U g mk q => by
  obtain ⟨q0, ⟨qP, qK⟩, qZ⟩ := q
  exact ⟨q0, ⟨qP, va_K.moved (u := U) (U := U.calling g mk a) (Vm.Alike.refl U.vm) qK⟩, gZh.warm (U := U.calling g mk a) (State.WarmedH.refl U) qZ⟩
theorem gBx_preS {E : GE} {ws : va_W} {s : State} {H : Heap} (hP : gP E ws H) (hK : gK E s) (hZ : gZh s H) (As : List Value) : PreS s H (va_Pc As (gBx E ws)) As :=
  ⟨gBx_blind, fun U hU hW => ⟨rfl, ⟨by rw [hU]; exact hP, va_K.moved hW.alike hK⟩, by rw [hU]; exact gZh.warm hW hZ⟩⟩
theorem gBx_preV {E : GE} {ws : va_W} {s : State} {H : Heap} {b ci q0 : Nat} {q : vw_C} {fs : List Value} (hP : gP E ws H) (hK : gK E s) (hZ : gZh s H) (hc : vwCl[ci]? = some q) (he : ws[q0]? = some (b, .inr (ci, fs))) (As : List Value) : PreV s H q.1 b (va_Pc (.ref b :: As) (gBx E ws)) As :=
  ⟨gBx_blind, va_recv hK hP hc he, fun U hU hW => ⟨rfl, ⟨by rw [hU]; exact hP, va_K.moved hW.alike hK⟩, by rw [hU]; exact gZh.warm hW hZ⟩⟩
/-- thrown: an object of this class, and nothing else is other than it was -/
abbrev gXC (cls : String) : String → State → State → Prop := vx_X (fun _ : Unit => True) (fun En _ _ => En = cls) (fun _ => False)
abbrev gQF : Array Value → State → Outcome → State → Prop := va_Qv (fun _ : Unit => False) (fun _ _ => True) (fun _ => False)
abbrev gQFi : Array Value → State → Outcome → State → Prop := va_Qi (fun (_ : Int32) (_ : Unit) => False) (fun _ _ => True) (fun _ => False)
theorem w_xmet {l : Launch} {y : MethodName} {ws ws' : List Cond} {rm : Room} {av : List Value} {B : State → Prop} {Qc : Array Value → State → Outcome → State → Prop} {XC : String → State → State → Prop} {mc ms : Nat} {free : Addr → Prop} {cc : ByteArray} {maxL : Nat} {ret : Option FieldType}
    (hy : plainName y.cls = true) (hw : ws = Cond.code y cc maxL ret :: ws') (hn : (lg_sl av).length ≤ maxL)
    (body : ∀ (p : Program) (e : Env) (s : State) (m : MethodId) (below : List Frame) (meth : Method) (c : Code) (ls : Array Slot), CallFix p m c cc maxL s av.toArray ws y.cls → meth.sig.returnType = ret → meth.locks = false → (∀ x ∈ c.exceptionTable.toList, False) → B s → lv_has ls maxL (lv_args 0 av) →
      W p l e (headSpec ws rm).room s m av.toArray below meth c s.heap [] 0 0 (vx_MQ below Qc XC av.toArray s mc ms free) (F0 m 0 ls [])) : vx_Met l y ws rm (va_Pc av B) Qc XC mc ms free := by
  refine vx_ofW (cc := cc) (maxL := maxL) (ret := ret) hy hw ?_
  intro p e s m args below meth c s₁ B0 hml hnt hv
  obtain ⟨rfl, hB⟩ := hv
  rw [lg_entry_eq]
  exact body p e s m below meth c _ ⟨B0.exec, B0.bytes, hml, findClass_of_methodNamed B0.named, atoms_spec (ws := ws) B0.pre⟩ B0.returns B0.notSynchronized hnt hB (lv_entry av hn)
/-- what holds of a class that is thrown here -/
def gTh (cls : String) (ik ic : Nat) : Prop := Bundle.fit cls = true ∧ (∀ w ∈ Cond.classLink RX0 ik cls :: Cond.initialized cls :: vx_atS RX0 ic cls gUp, vx_ot w = true) ∧ ∀ w ∈ (vx_atS RX0 ic cls gUp).filter (fun w => !goodWord w), w ∈ gCast
theorem gUp_fit : ∀ n ∈ gUp, Bundle.fit n = true := by decide +kernel
theorem gThA : gTh "java/lang/IllegalArgumentException" 50 54 := ⟨by decide +kernel, by decide +kernel, by decide +kernel⟩
theorem gThS : gTh "java/lang/IllegalStateException" 110 114 := ⟨by decide +kernel, by decide +kernel, by decide +kernel⟩
theorem gThI : gTh "java/lang/IndexOutOfBoundsException" 250 254 := ⟨by decide +kernel, by decide +kernel, by decide +kernel⟩
theorem gCast_tab : ∀ w ∈ gCast, w.onTables = true := by decide +kernel
section GTH
variable {p : Program} {l : Launch} {e : Env} {R : Room} {s : State} {m : MethodId} {args : Array Value} {below : List Frame} {meth : Method} {c : Code}
variable {cc bytes : ByteArray} {pc nL maxL n index ik ic is : Nat} {ls : Array Slot} {rest st0 : List Value} {E : GE} {Ts wl : List Cond} {own cls text : String} {y : MethodName} {ret : Option FieldType} {rm : Room} {a : Nat → Nat} {σ : GS} {As : List Value} {Qc : Array Value → State → Outcome → State → Prop} {ws : va_W}
theorem g_throw (hT : gTh cls ik ic) (hl : l.stackTraces = false) (S : CallFix p m c cc nL s args Ts RX0) (hZ : gZh s s.heap) (hk : Cond.classLink RX0 ik cls ∈ Ts) (hini : Cond.initialized cls ∈ Ts) (hat : ∀ w ∈ (vx_atS RX0 ic cls gUp).filter goodWord, w ∈ Ts) (hstr : (is, text) ∈ gStr) (hsize : ls.size = nL)
    (d0 : decode cc pc = .ok (.new ik, 3)) (d3 : decode cc (pc + 3) = .ok (.dup, 1)) (d4 : decode cc (pc + 4) = .ok (.ldc is, 2)) (d6 : decode cc (pc + 6) = .ok (.invokespecial ic, 3)) (d9 : decode cc (pc + 9) = .ok (.athrow, 1)) (hnt : ∀ x ∈ c.exceptionTable.toList, False)
    (hR : 5 < R.frames ∧ (rest.map fun v => v.category).sum + 82 ≤ R.locals ∧ 1 ≤ R.cells ∧ 6 ≤ R.slots) (hlocks : meth.locks = false) : W p l e R s m args below meth c s.heap [] 0 0 (vx_MQ below Qc (gXC cls) args s 1 6 (fun _ => False)) (F0 m pc ls rest) := by
  obtain ⟨hx, hb, hml, hown, hts⟩ := S
  obtain ⟨sa, hsa⟩ := hZ.2.2.1 (is, text) hstr
  exact vx_throwS (A := fun _ => False) hx hb hl hown hT.1 gUp_fit (hts _ hk) (hts _ hini) hsa (vx_hat (fun w hw => hts w (hat w hw)) hT.2.2 (fun w hw => va_Nw.use (gCast_tab w hw) (hZ.2.2.2 w hw))) hT.2.1 hZ.1 hZ.2.1 va_S.rf (hsize.trans hml.symm) d0 d3 d4 d6 d9 (fun x h => (hnt x h).elim) hR.1 hR.2.1 (by omega) (by omega) hlocks
    (fun t _ hsz hq => ⟨(), trivial, rfl, hsz, fun q h _ => hq q h⟩) (fun _ h => nomatch h) (Nat.le_refl _) (Nat.le_refl _)
theorem g_throwW (hT : gTh cls ik ic) (hl : l.stackTraces = false) (S : CallFix p m c cc nL s args Ts RX0) (hZ : gZh s s.heap) (hk : Cond.classLink RX0 ik cls ∈ Ts) (hini : Cond.initialized cls ∈ Ts) (hat : ∀ w ∈ (vx_atS RX0 ic cls gUp).filter goodWord, w ∈ Ts) (hstr : (is, text) ∈ gStr) (hsize : ls.size = nL)
    (d0 : decode cc pc = .ok (.new ik, 3)) (d3 : decode cc (pc + 3) = .ok (.dup, 1)) (d4 : decode cc (pc + 4) = .ok (.ldc_w is, 3)) (d6 : decode cc (pc + 7) = .ok (.invokespecial ic, 3)) (d9 : decode cc (pc + 10) = .ok (.athrow, 1)) (hnt : ∀ x ∈ c.exceptionTable.toList, False)
    (hR : 5 < R.frames ∧ (rest.map fun v => v.category).sum + 82 ≤ R.locals ∧ 1 ≤ R.cells ∧ 6 ≤ R.slots) (hlocks : meth.locks = false) : W p l e R s m args below meth c s.heap [] 0 0 (vx_MQ below Qc (gXC cls) args s 1 6 (fun _ => False)) (F0 m pc ls rest) := by
  obtain ⟨hx, hb, hml, hown, hts⟩ := S
  obtain ⟨sa, hsa⟩ := hZ.2.2.1 (is, text) hstr
  exact vx_throwSW (A := fun _ => False) hx hb hl hown hT.1 gUp_fit (hts _ hk) (hts _ hini) hsa (vx_hat (fun w hw => hts w (hat w hw)) hT.2.2 (fun w hw => va_Nw.use (gCast_tab w hw) (hZ.2.2.2 w hw))) hT.2.1 hZ.1 hZ.2.1 va_S.rf (hsize.trans hml.symm) d0 d3 d4 d6 d9 (fun x h => (hnt x h).elim) hR.1 hR.2.1 (by omega) (by omega) hlocks
    (fun t _ hsz hq => ⟨(), trivial, rfl, hsz, fun q h _ => hq q h⟩) (fun _ h => nomatch h) (Nat.le_refl _) (Nat.le_refl _)
/-- what the callee throws goes on to the caller -/
theorem g0x (S : CallFix p m c cc nL s args Ts own) (hM : vx_Met l y wl rm (va_Pc (.ref (a 0) :: As) (gBx E (gW E a σ))) gQF (gXC cls) 1 6 (fun _ => False)) (cw : CallW R s args own RX0 index y bytes maxL ret wl rm 1 6 n) (hK : gK E s) (hP : gP E (gW E a σ) s.heap) (hZ : gZh s s.heap)
    (hn : As.length = n) (hsize : ls.size = nL) (hstack : st0 = As.reverse ++ .ref (a 0) :: rest) (hW : (rest.map fun v => v.category).sum ≤ 8) (hf : 0 + 1 ≤ R.cells ∧ 0 + 6 ≤ R.slots) (hdg : decode cc pc = .ok (.invokevirtual index, 3)) (hnt : ∀ x ∈ c.exceptionTable.toList, False) (hlocks : meth.locks = false) :
    W p l e R s m args below meth c s.heap [] 0 0 (vx_MQ below Qc (gXC cls) args s 1 6 (fun _ => False)) (F0 m pc ls st0) :=
  vx_callv (A0 := fun _ => False) (vx_runV S hM cw (gBx_preV (ci := 0) (q0 := 0) (q := (RX0, TX0, 18)) (fs := gF a σ) hP hK hZ rfl rfl As) rfl hn hsize hstack (lv_room hW) hdg hf) va_S.rf (fun q _ h => h.elim) (fun q h => h.elim) (fun q _ h => h.elim)
    (fun En ce q9 u t H1 locs1 ht hvm _ hB hsz hq hS1 hce hcv hcl => vx_out (fun x h => (hnt x h).elim) hlocks hce hcv hcl (fun t2 ht2 hvm2 => ⟨(), trivial, hB, hS1.F ht2⟩) (fun z hz => (hS1.2.2 z hz).elim) (Nat.le_refl _) (Nat.le_refl _)) (fun _ _ _ _ _ _ h => h.elim)
theorem g0xs (S : CallFix p m c cc nL s args Ts own) (hM : vx_Met l y wl rm (va_Pc As (gBx E ws)) gQF (gXC cls) 1 6 (fun _ => False)) (cw : CallB R s args own index y bytes maxL ret wl rm 1 6 n ∧ (Cond.static y).before args s = true) (hK : gK E s) (hP : gP E ws s.heap) (hZ : gZh s s.heap)
    (hn : As.length = n) (hsize : ls.size = nL) (hstack : st0 = As.reverse ++ rest) (hW : (rest.map fun v => v.category).sum ≤ 8) (hf : 0 + 1 ≤ R.cells ∧ 0 + 6 ≤ R.slots) (hdg : decode cc pc = .ok (.invokestatic index, 3)) (hnt : ∀ x ∈ c.exceptionTable.toList, False) (hlocks : meth.locks = false) :
    W p l e R s m args below meth c s.heap [] 0 0 (vx_MQ below Qc (gXC cls) args s 1 6 (fun _ => False)) (F0 m pc ls st0) :=
  vx_callv (A0 := fun _ => False) (vx_runS S hM cw (gBx_preS hP hK hZ As) rfl hn hsize hstack (lv_room hW) hdg hf) va_S.rf (fun q _ h => h.elim) (fun q h => h.elim) (fun q _ h => h.elim)
    (fun En ce q9 u t H1 locs1 ht hvm _ hB hsz hq hS1 hce hcv hcl => vx_out (fun x h => (hnt x h).elim) hlocks hce hcv hcl (fun t2 ht2 hvm2 => ⟨(), trivial, hB, hS1.F ht2⟩) (fun z hz => (hS1.2.2 z hz).elim) (Nat.le_refl _) (Nat.le_refl _)) (fun _ _ _ _ _ _ h => h.elim)
end GTH
/-- no such place; no exam; no fork; no such student -/
def gPb (σ : GS) (p : Int32) : Prop := p < 0 ∨ nI (gn σ) ≤ p
def gNE (σ : GS) (p : Int32) : Prop := gPb σ p ∨ ∃ k, k < gn σ ∧ p = nI k ∧ gEx (ge σ) k = false
def gNF (σ : GS) (p : Int32) : Prop := gPb σ p ∨ ∃ k, k < gn σ ∧ p = nI k ∧ gEx (ge σ) k = true
def gSb (σ : GS) (p : Int32) : Prop := p < 0 ∨ nI (gk σ) ≤ p
set_option maxHeartbeats 4000000 in
set_option maxRecDepth 100000 in
theorem x_requireRoom (l : Launch) (hfl : l.stackTraces = false) (E : GE) (a : Nat → Nat) (σ : GS) (h1 : gn σ = 40) : vx_Met l yX0_requireRoom wsX0_requireRoom { frames := 6, cells := 1, slots := 6, locals := 90 } (va_Pc [.ref (a 0)] (gBx E (gW E a σ))) gQF (gXC "java/lang/IllegalStateException") 1 6 (fun _ => False) := by
  refine w_xmet (cc := cX0_requireRoom) (maxL := 1) (ret := none) (by decide) rfl (Nat.le_of_ble_eq_true rfl) ?_
  intro p e s m below meth c ls S hr hlocks hnt hB hl
  obtain ⟨⟨hP, hK⟩, hZ⟩ := hB
  obtain ⟨hx, hb, hml, hown, hts⟩ := id S
  have hts0 := hinX0_requireRoom
  have hl : lv_has ls 1 [(0, .ref (a 0))] := hl
  refine lv_aload_n hx hb dX0_requireRoom_0 rfl (lv_at hl 0 rfl) ?_
  refine g_get (σ := σ) hx hb hts hts0 hown hK hP 0 (by decide) (by decide +kernel) rfl rfl dX0_requireRoom_1 ?_
  refine lv_bipush (v := nI 40) hx hb dX0_requireRoom_4 (by decide) ?_
  refine lv_icmp_lt (tgt := 19) hx hb dX0_requireRoom_6 (by decide) (fun q => absurd q ((nI_nlt (by omega) (by omega)))) (fun _ => ?_)
  exact g_throw gThS hfl S hZ (by decide +kernel) (by decide +kernel) (fun _ h => List.mem_cons_of_mem _ (List.mem_append_right _ h)) (text := "there are 40 places") (by decide +kernel) hl.1 dX0_requireRoom_9 dX0_requireRoom_12 dX0_requireRoom_13 dX0_requireRoom_15 dX0_requireRoom_18 hnt ⟨Nat.le_of_ble_eq_true rfl, Nat.le_of_ble_eq_true rfl, Nat.le_of_ble_eq_true rfl, Nat.le_of_ble_eq_true rfl⟩ hlocks
set_option maxHeartbeats 4000000 in
set_option maxRecDepth 100000 in
theorem x_requirePlace (l : Launch) (hfl : l.stackTraces = false) (E : GE) (a : Nat → Nat) (σ : GS) (pp : Int32) (h : gPb σ pp) : vx_Met l yX0_requirePlace wsX0_requirePlace { frames := 6, cells := 1, slots := 6, locals := 90 } (va_Pc [.ref (a 0), .int pp] (gBx E (gW E a σ))) gQF (gXC "java/lang/IndexOutOfBoundsException") 1 6 (fun _ => False) := by
  refine w_xmet (cc := cX0_requirePlace) (maxL := 2) (ret := none) (by decide) rfl (Nat.le_of_ble_eq_true rfl) ?_
  intro p e s m below meth c ls S hr hlocks hnt hB hl
  obtain ⟨⟨hP, hK⟩, hZ⟩ := hB
  obtain ⟨hx, hb, hml, hown, hts⟩ := id S
  have hts0 := hinX0_requirePlace
  have hl : lv_has ls 2 [(0, .ref (a 0)), (1, .int pp)] := hl
  refine lv_iload_n hx hb dX0_requirePlace_0 rfl (lv_at hl 1 rfl) ?_
  refine lv_if_lt (tgt := 12) hx hb dX0_requirePlace_1 (by decide) (fun c1 => ?_) (fun c1 => ?_)
  · exact g_throw gThI hfl S hZ (by decide +kernel) (by decide +kernel) (fun _ h => List.mem_cons_of_mem _ (List.mem_append_right _ h)) (text := "there is no such place") (by decide +kernel) hl.1 dX0_requirePlace_12 dX0_requirePlace_15 dX0_requirePlace_16 dX0_requirePlace_18 dX0_requirePlace_21 hnt ⟨Nat.le_of_ble_eq_true rfl, Nat.le_of_ble_eq_true rfl, Nat.le_of_ble_eq_true rfl, Nat.le_of_ble_eq_true rfl⟩ hlocks
  · refine lv_iload_n hx hb dX0_requirePlace_4 rfl (lv_at hl 1 rfl) ?_
    refine lv_aload_n hx hb dX0_requirePlace_5 rfl (lv_at hl 0 rfl) ?_
    refine g_get (σ := σ) hx hb hts hts0 hown hK hP 0 (by decide) (by decide +kernel) rfl rfl dX0_requirePlace_6 ?_
    refine lv_icmp_lt (tgt := 22) hx hb dX0_requirePlace_9 (by decide) (fun q => absurd q ((Int32.not_lt.mpr (h.resolve_left c1)))) (fun _ => ?_)
    exact g_throw gThI hfl S hZ (by decide +kernel) (by decide +kernel) (fun _ h => List.mem_cons_of_mem _ (List.mem_append_right _ h)) (text := "there is no such place") (by decide +kernel) hl.1 dX0_requirePlace_12 dX0_requirePlace_15 dX0_requirePlace_16 dX0_requirePlace_18 dX0_requirePlace_21 hnt ⟨Nat.le_of_ble_eq_true rfl, Nat.le_of_ble_eq_true rfl, Nat.le_of_ble_eq_true rfl, Nat.le_of_ble_eq_true rfl⟩ hlocks
set_option maxHeartbeats 4000000 in
set_option maxRecDepth 100000 in
theorem x_requireStudent (l : Launch) (hfl : l.stackTraces = false) (E : GE) (a : Nat → Nat) (σ : GS) (pp : Int32) (h : gSb σ pp) : vx_Met l yX0_requireStudent wsX0_requireStudent { frames := 6, cells := 1, slots := 6, locals := 90 } (va_Pc [.ref (a 0), .int pp] (gBx E (gW E a σ))) gQF (gXC "java/lang/IndexOutOfBoundsException") 1 6 (fun _ => False) := by
  refine w_xmet (cc := cX0_requireStudent) (maxL := 2) (ret := none) (by decide) rfl (Nat.le_of_ble_eq_true rfl) ?_
  intro p e s m below meth c ls S hr hlocks hnt hB hl
  obtain ⟨⟨hP, hK⟩, hZ⟩ := hB
  obtain ⟨hx, hb, hml, hown, hts⟩ := id S
  have hts0 := hinX0_requireStudent
  have hl : lv_has ls 2 [(0, .ref (a 0)), (1, .int pp)] := hl
  refine lv_iload_n hx hb dX0_requireStudent_0 rfl (lv_at hl 1 rfl) ?_
  refine lv_if_lt (tgt := 12) hx hb dX0_requireStudent_1 (by decide) (fun c1 => ?_) (fun c1 => ?_)
  · exact g_throwW gThI hfl S hZ (by decide +kernel) (by decide +kernel) (fun _ h => List.mem_cons_of_mem _ (List.mem_append_right _ h)) (text := "there is no such student") (by decide +kernel) hl.1 dX0_requireStudent_12 dX0_requireStudent_15 dX0_requireStudent_16 dX0_requireStudent_19 dX0_requireStudent_22 hnt ⟨Nat.le_of_ble_eq_true rfl, Nat.le_of_ble_eq_true rfl, Nat.le_of_ble_eq_true rfl, Nat.le_of_ble_eq_true rfl⟩ hlocks
  · refine lv_iload_n hx hb dX0_requireStudent_4 rfl (lv_at hl 1 rfl) ?_
    refine lv_aload_n hx hb dX0_requireStudent_5 rfl (lv_at hl 0 rfl) ?_
    refine g_get (σ := σ) hx hb hts hts0 hown hK hP 1 (by decide) (by decide +kernel) rfl rfl dX0_requireStudent_6 ?_
    refine lv_icmp_lt (tgt := 23) hx hb dX0_requireStudent_9 (by decide) (fun q => absurd q ((Int32.not_lt.mpr (h.resolve_left c1)))) (fun _ => ?_)
    exact g_throwW gThI hfl S hZ (by decide +kernel) (by decide +kernel) (fun _ h => List.mem_cons_of_mem _ (List.mem_append_right _ h)) (text := "there is no such student") (by decide +kernel) hl.1 dX0_requireStudent_12 dX0_requireStudent_15 dX0_requireStudent_16 dX0_requireStudent_19 dX0_requireStudent_22 hnt ⟨Nat.le_of_ble_eq_true rfl, Nat.le_of_ble_eq_true rfl, Nat.le_of_ble_eq_true rfl, Nat.le_of_ble_eq_true rfl⟩ hlocks
set_option maxHeartbeats 4000000 in
set_option maxRecDepth 100000 in
theorem x_requireWeight (l : Launch) (hfl : l.stackTraces = false) (E : GE) (a : Nat → Nat) (σ : GS) (pp : Int32) (h : pp < 1 ∨ nI 9 < pp) : vx_Met l yX0_requireWeight wsX0_requireWeight { frames := 6, cells := 1, slots := 6, locals := 90 } (va_Pc [.int pp] (gBx E ([]))) gQF (gXC "java/lang/IllegalArgumentException") 1 6 (fun _ => False) := by
  refine w_xmet (cc := cX0_requireWeight) (maxL := 1) (ret := none) (by decide) rfl (Nat.le_of_ble_eq_true rfl) ?_
  intro p e s m below meth c ls S hr hlocks hnt hB hl
  obtain ⟨⟨hP, hK⟩, hZ⟩ := hB
  obtain ⟨hx, hb, hml, hown, hts⟩ := id S
  have hl : lv_has ls 1 [(0, .int pp)] := hl
  refine lv_iload_n hx hb dX0_requireWeight_0 rfl (lv_at hl 0 rfl) ?_
  refine lv_iconst (v := 1) hx hb dX0_requireWeight_1 (by decide) ?_
  refine lv_icmp_lt (tgt := 11) hx hb dX0_requireWeight_2 (by decide) (fun c2 => ?_) (fun c2 => ?_)
  · exact g_throwW gThA hfl S hZ (by decide +kernel) (by decide +kernel) (fun _ h => List.mem_cons_of_mem _ (List.mem_append_right _ h)) (text := "a weight is 1 to 9") (by decide +kernel) hl.1 dX0_requireWeight_11 dX0_requireWeight_14 dX0_requireWeight_15 dX0_requireWeight_18 dX0_requireWeight_21 hnt ⟨Nat.le_of_ble_eq_true rfl, Nat.le_of_ble_eq_true rfl, Nat.le_of_ble_eq_true rfl, Nat.le_of_ble_eq_true rfl⟩ hlocks
  · refine lv_iload_n hx hb dX0_requireWeight_5 rfl (lv_at hl 0 rfl) ?_
    refine lv_bipush (v := nI 9) hx hb dX0_requireWeight_6 (by decide) ?_
    refine lv_icmp_le (tgt := 22) hx hb dX0_requireWeight_8 (by decide) (fun q => absurd q ((Int32.not_le.mpr (h.resolve_left c2)))) (fun _ => ?_)
    exact g_throwW gThA hfl S hZ (by decide +kernel) (by decide +kernel) (fun _ h => List.mem_cons_of_mem _ (List.mem_append_right _ h)) (text := "a weight is 1 to 9") (by decide +kernel) hl.1 dX0_requireWeight_11 dX0_requireWeight_14 dX0_requireWeight_15 dX0_requireWeight_18 dX0_requireWeight_21 hnt ⟨Nat.le_of_ble_eq_true rfl, Nat.le_of_ble_eq_true rfl, Nat.le_of_ble_eq_true rfl, Nat.le_of_ble_eq_true rfl⟩ hlocks
set_option maxHeartbeats 4000000 in
set_option maxRecDepth 100000 in
theorem x_requireExam (l : Launch) (hfl : l.stackTraces = false) (E : GE) (a : Nat → Nat) (σ : GS) (hn : gn σ ≤ 40) (pp : Int32) (h : gNE σ pp) : vx_Met l yX0_requireExam wsX0_requireExam { frames := 7, cells := 1, slots := 6, locals := 111 } (va_Pc [.ref (a 0), .int pp] (gBx E (gW E a σ))) gQF (gXC "java/lang/IndexOutOfBoundsException") 1 6 (fun _ => False) := by
  refine w_xmet (cc := cX0_requireExam) (maxL := 2) (ret := none) (by decide) rfl (Nat.le_of_ble_eq_true rfl) ?_
  intro p e s m below meth c ls S hr hlocks hnt hB hl
  obtain ⟨⟨hP, hK⟩, hZ⟩ := hB
  obtain ⟨hx, hb, hml, hown, hts⟩ := id S
  have hts0 := hinX0_requireExam
  rcases h with h | ⟨k, hk, rfl, hE⟩
  · have hl : lv_has ls 2 [(0, .ref (a 0)), (1, .int pp)] := hl
    refine lv_aload_n hx hb dX0_requireExam_0 rfl (lv_at hl 0 rfl) ?_
    refine lv_iload_n hx hb dX0_requireExam_1 rfl (lv_at hl 1 rfl) ?_
    exact g0x (As := [.int pp]) (rest := []) S (x_requirePlace l hfl E a σ pp h) (cwV 1 hts gX0_requireExam_X0_requirePlace rfl rfl rfl hdX0_requirePlace ⟨Nat.le_of_ble_eq_true rfl, Nat.le_of_ble_eq_true rfl⟩) hK hP hZ rfl hl.1 rfl (Nat.le_of_ble_eq_true rfl) ⟨Nat.le_of_ble_eq_true rfl, Nat.le_of_ble_eq_true rfl⟩ dX0_requireExam_2 hnt hlocks
  · have hl : lv_has ls 2 [(0, .ref (a 0)), (1, .int (nI k))] := hl
    refine lv_aload_n hx hb dX0_requireExam_0 rfl (lv_at hl 0 rfl) ?_
    refine lv_iload_n hx hb dX0_requireExam_1 rfl (lv_at hl 1 rfl) ?_
    refine g0v (As := [.int (nI k)]) (rest := []) S (c_requirePlace l E a σ k (by omega) (by omega)) (cwV 1 hts gX0_requireExam_X0_requirePlace rfl rfl rfl hdX0_requirePlace ⟨Nat.le_of_ble_eq_true rfl, Nat.le_of_ble_eq_true rfl⟩) hK hP rfl hl.1 rfl (Nat.le_of_ble_eq_true rfl) ⟨Nat.zero_le _, Nat.zero_le _⟩ dX0_requireExam_2 ?_
    refine lv_aload_n hx hb dX0_requireExam_5 rfl (lv_at hl 0 rfl) ?_
    refine lv_iload_n hx hb dX0_requireExam_6 rfl (lv_at hl 1 rfl) ?_
    refine g0i (As := [.int (nI k)]) (rest := []) S (c_holdsExam l E a σ k (by omega)) (cwV 1 hts gX0_requireExam_X0_holdsExam rfl rfl rfl hdX0_holdsExam ⟨Nat.le_of_ble_eq_true rfl, Nat.le_of_ble_eq_true rfl⟩) hK hP rfl hl.1 rfl (Nat.le_of_ble_eq_true rfl) ⟨Nat.zero_le _, Nat.zero_le _⟩ dX0_requireExam_7 ?_
    refine lv_if_ne (tgt := 23) hx hb dX0_requireExam_10 (by decide) (fun q => absurd ((b2i_eq0.mpr hE)) q) (fun _ => ?_)
    exact g_throw gThI hfl S hZ (by decide +kernel) (by decide +kernel) (fun _ h => List.mem_cons_of_mem _ (List.mem_append_right _ h)) (text := "the place is no exam") (by decide +kernel) hl.1 dX0_requireExam_13 dX0_requireExam_16 dX0_requireExam_17 dX0_requireExam_19 dX0_requireExam_22 hnt ⟨Nat.le_of_ble_eq_true rfl, Nat.le_of_ble_eq_true rfl, Nat.le_of_ble_eq_true rfl, Nat.le_of_ble_eq_true rfl⟩ hlocks
set_option maxHeartbeats 4000000 in
set_option maxRecDepth 100000 in
theorem x_requireFork (l : Launch) (hfl : l.stackTraces = false) (E : GE) (a : Nat → Nat) (σ : GS) (hn : gn σ ≤ 40) (pp : Int32) (h : gNF σ pp) : vx_Met l yX0_requireFork wsX0_requireFork { frames := 7, cells := 1, slots := 6, locals := 111 } (va_Pc [.ref (a 0), .int pp] (gBx E (gW E a σ))) gQF (gXC "java/lang/IndexOutOfBoundsException") 1 6 (fun _ => False) := by
  refine w_xmet (cc := cX0_requireFork) (maxL := 2) (ret := none) (by decide) rfl (Nat.le_of_ble_eq_true rfl) ?_
  intro p e s m below meth c ls S hr hlocks hnt hB hl
  obtain ⟨⟨hP, hK⟩, hZ⟩ := hB
  obtain ⟨hx, hb, hml, hown, hts⟩ := id S
  have hts0 := hinX0_requireFork
  rcases h with h | ⟨k, hk, rfl, hE⟩
  · have hl : lv_has ls 2 [(0, .ref (a 0)), (1, .int pp)] := hl
    refine lv_aload_n hx hb dX0_requireFork_0 rfl (lv_at hl 0 rfl) ?_
    refine lv_iload_n hx hb dX0_requireFork_1 rfl (lv_at hl 1 rfl) ?_
    exact g0x (As := [.int pp]) (rest := []) S (x_requirePlace l hfl E a σ pp h) (cwV 1 hts gX0_requireFork_X0_requirePlace rfl rfl rfl hdX0_requirePlace ⟨Nat.le_of_ble_eq_true rfl, Nat.le_of_ble_eq_true rfl⟩) hK hP hZ rfl hl.1 rfl (Nat.le_of_ble_eq_true rfl) ⟨Nat.le_of_ble_eq_true rfl, Nat.le_of_ble_eq_true rfl⟩ dX0_requireFork_2 hnt hlocks
  · have hl : lv_has ls 2 [(0, .ref (a 0)), (1, .int (nI k))] := hl
    refine lv_aload_n hx hb dX0_requireFork_0 rfl (lv_at hl 0 rfl) ?_
    refine lv_iload_n hx hb dX0_requireFork_1 rfl (lv_at hl 1 rfl) ?_
    refine g0v (As := [.int (nI k)]) (rest := []) S (c_requirePlace l E a σ k (by omega) (by omega)) (cwV 1 hts gX0_requireFork_X0_requirePlace rfl rfl rfl hdX0_requirePlace ⟨Nat.le_of_ble_eq_true rfl, Nat.le_of_ble_eq_true rfl⟩) hK hP rfl hl.1 rfl (Nat.le_of_ble_eq_true rfl) ⟨Nat.zero_le _, Nat.zero_le _⟩ dX0_requireFork_2 ?_
    refine lv_aload_n hx hb dX0_requireFork_5 rfl (lv_at hl 0 rfl) ?_
    refine lv_iload_n hx hb dX0_requireFork_6 rfl (lv_at hl 1 rfl) ?_
    refine g0i (As := [.int (nI k)]) (rest := []) S (c_holdsExam l E a σ k (by omega)) (cwV 1 hts gX0_requireFork_X0_holdsExam rfl rfl rfl hdX0_holdsExam ⟨Nat.le_of_ble_eq_true rfl, Nat.le_of_ble_eq_true rfl⟩) hK hP rfl hl.1 rfl (Nat.le_of_ble_eq_true rfl) ⟨Nat.zero_le _, Nat.zero_le _⟩ dX0_requireFork_7 ?_
    refine lv_if_eq (tgt := 24) hx hb dX0_requireFork_10 (by decide) (fun q => absurd q ((b2i_ne0.mpr hE))) (fun _ => ?_)
    exact g_throwW gThI hfl S hZ (by decide +kernel) (by decide +kernel) (fun _ h => List.mem_cons_of_mem _ (List.mem_append_right _ h)) (text := "the place is no fork") (by decide +kernel) hl.1 dX0_requireFork_13 dX0_requireFork_16 dX0_requireFork_17 dX0_requireFork_20 dX0_requireFork_23 hnt ⟨Nat.le_of_ble_eq_true rfl, Nat.le_of_ble_eq_true rfl, Nat.le_of_ble_eq_true rfl, Nat.le_of_ble_eq_true rfl⟩ hlocks
set_option maxHeartbeats 4000000 in
set_option maxRecDepth 100000 in
theorem x_requireGraded (l : Launch) (hfl : l.stackTraces = false) (E : GE) (a : Nat → Nat) (σ : GS) (hO : GOK σ) (k : Nat) (hk : k < 8) (hG : gHas σ (gst σ k) = false) : vx_Met l yX0_requireGraded wsX0_requireGraded { frames := 6, cells := 1, slots := 6, locals := 90 } (va_Pc [.ref (a 0), .int (nI k)] (gBx E (gW E a σ))) gQF (gXC "java/lang/IllegalStateException") 1 6 (fun _ => False) := by
  refine w_xmet (cc := cX0_requireGraded) (maxL := 2) (ret := none) (by decide) rfl (Nat.le_of_ble_eq_true rfl) ?_
  intro p e s m below meth c ls S hr hlocks hnt hB hl
  obtain ⟨⟨hP, hK⟩, hZ⟩ := hB
  obtain ⟨hx, hb, hml, hown, hts⟩ := id S
  have t2 := hO.2.2.2.2.1 k
  have hts0 := hinX0_requireGraded
  have hl : lv_has ls 2 [(0, .ref (a 0)), (1, .int (nI k))] := hl
  refine lv_aload_n hx hb dX0_requireGraded_0 rfl (lv_at hl 0 rfl) ?_
  refine lv_aload_n hx hb dX0_requireGraded_1 rfl (lv_at hl 0 rfl) ?_
  refine g_get (σ := σ) hx hb hts hts0 hown hK hP 15 (by decide) (by decide +kernel) rfl rfl dX0_requireGraded_2 ?_
  refine lv_iload_n hx hb dX0_requireGraded_5 rfl (lv_at hl 1 rfl) ?_
  refine g_at S gX0_requireGraded_X0_at hK hP 11 rfl (by decide) (v := nI (gst σ k)) (vp_in_nI (by omega) (by decide)) (by rw [nI_clamp (by omega)]) hl.1 (Nat.le_of_ble_eq_true rfl) ⟨Nat.zero_le _, Nat.zero_le _⟩ ⟨Nat.le_of_ble_eq_true rfl, Nat.le_of_ble_eq_true rfl⟩ dX0_requireGraded_6 ?_
  refine g0i (As := [.int (nI (gst σ k))]) (rest := []) S (c_hasGrade l E a σ (gst σ k) (by omega)) (cwV 1 hts gX0_requireGraded_X0_hasGrade rfl rfl rfl hdX0_hasGrade ⟨Nat.le_of_ble_eq_true rfl, Nat.le_of_ble_eq_true rfl⟩) hK hP rfl hl.1 rfl (Nat.le_of_ble_eq_true rfl) ⟨Nat.zero_le _, Nat.zero_le _⟩ dX0_requireGraded_9 ?_
  refine lv_if_ne (tgt := 26) hx hb dX0_requireGraded_12 (by decide) (fun q => absurd ((b2i_eq0.mpr hG)) q) (fun _ => ?_)
  exact g_throwW gThS hfl S hZ (by decide +kernel) (by decide +kernel) (fun _ h => List.mem_cons_of_mem _ (List.mem_append_right _ h)) (text := "the student does not stand at a graded exam") (by decide +kernel) hl.1 dX0_requireGraded_15 dX0_requireGraded_18 dX0_requireGraded_19 dX0_requireGraded_22 dX0_requireGraded_25 hnt ⟨Nat.le_of_ble_eq_true rfl, Nat.le_of_ble_eq_true rfl, Nat.le_of_ble_eq_true rfl, Nat.le_of_ble_eq_true rfl⟩ hlocks
set_option maxHeartbeats 4000000 in
set_option maxRecDepth 100000 in
theorem x_sureGrade (l : Launch) (hfl : l.stackTraces = false) (E : GE) (a : Nat → Nat) (σ : GS) (pp : Int32) (h : gPb σ pp) : vx_Met l yX0_sureGrade wsX0_sureGrade { frames := 7, cells := 1, slots := 6, locals := 111 } (va_Pc [.ref (a 0), .int pp] (gBx E (gW E a σ))) gQFi (gXC "java/lang/IndexOutOfBoundsException") 1 6 (fun _ => False) := by
  refine w_xmet (cc := cX0_sureGrade) (maxL := 2) (ret := (some .int)) (by decide) rfl (Nat.le_of_ble_eq_true rfl) ?_
  intro p e s m below meth c ls S hr hlocks hnt hB hl
  obtain ⟨⟨hP, hK⟩, hZ⟩ := hB
  obtain ⟨hx, hb, hml, hown, hts⟩ := id S
  have hts0 := hinX0_sureGrade
  have hl : lv_has ls 2 [(0, .ref (a 0)), (1, .int pp)] := hl
  refine lv_aload_n hx hb dX0_sureGrade_0 rfl (lv_at hl 0 rfl) ?_
  refine lv_iload_n hx hb dX0_sureGrade_1 rfl (lv_at hl 1 rfl) ?_
  exact g0x (As := [.int pp]) (rest := []) S (x_requirePlace l hfl E a σ pp h) (cwV 1 hts gX0_sureGrade_X0_requirePlace rfl rfl rfl hdX0_requirePlace ⟨Nat.le_of_ble_eq_true rfl, Nat.le_of_ble_eq_true rfl⟩) hK hP hZ rfl hl.1 rfl (Nat.le_of_ble_eq_true rfl) ⟨Nat.le_of_ble_eq_true rfl, Nat.le_of_ble_eq_true rfl⟩ dX0_sureGrade_2 hnt hlocks
set_option maxHeartbeats 4000000 in
set_option maxRecDepth 100000 in
theorem x_hope (l : Launch) (hfl : l.stackTraces = false) (E : GE) (a : Nat → Nat) (σ : GS) (pp : Int32) (h : gPb σ pp) : vx_Met l yX0_hope wsX0_hope { frames := 7, cells := 1, slots := 6, locals := 111 } (va_Pc [.ref (a 0), .int pp] (gBx E (gW E a σ))) gQFi (gXC "java/lang/IndexOutOfBoundsException") 1 6 (fun _ => False) := by
  refine w_xmet (cc := cX0_hope) (maxL := 2) (ret := (some .int)) (by decide) rfl (Nat.le_of_ble_eq_true rfl) ?_
  intro p e s m below meth c ls S hr hlocks hnt hB hl
  obtain ⟨⟨hP, hK⟩, hZ⟩ := hB
  obtain ⟨hx, hb, hml, hown, hts⟩ := id S
  have hts0 := hinX0_hope
  have hl : lv_has ls 2 [(0, .ref (a 0)), (1, .int pp)] := hl
  refine lv_aload_n hx hb dX0_hope_0 rfl (lv_at hl 0 rfl) ?_
  refine lv_iload_n hx hb dX0_hope_1 rfl (lv_at hl 1 rfl) ?_
  exact g0x (As := [.int pp]) (rest := []) S (x_requirePlace l hfl E a σ pp h) (cwV 1 hts gX0_hope_X0_requirePlace rfl rfl rfl hdX0_requirePlace ⟨Nat.le_of_ble_eq_true rfl, Nat.le_of_ble_eq_true rfl⟩) hK hP hZ rfl hl.1 rfl (Nat.le_of_ble_eq_true rfl) ⟨Nat.le_of_ble_eq_true rfl, Nat.le_of_ble_eq_true rfl⟩ dX0_hope_2 hnt hlocks
set_option maxHeartbeats 4000000 in
set_option maxRecDepth 100000 in
theorem x_isExam (l : Launch) (hfl : l.stackTraces = false) (E : GE) (a : Nat → Nat) (σ : GS) (pp : Int32) (h : gPb σ pp) : vx_Met l yX0_isExam wsX0_isExam { frames := 7, cells := 1, slots := 6, locals := 111 } (va_Pc [.ref (a 0), .int pp] (gBx E (gW E a σ))) gQFi (gXC "java/lang/IndexOutOfBoundsException") 1 6 (fun _ => False) := by
  refine w_xmet (cc := cX0_isExam) (maxL := 2) (ret := (some .boolean)) (by decide) rfl (Nat.le_of_ble_eq_true rfl) ?_
  intro p e s m below meth c ls S hr hlocks hnt hB hl
  obtain ⟨⟨hP, hK⟩, hZ⟩ := hB
  obtain ⟨hx, hb, hml, hown, hts⟩ := id S
  have hts0 := hinX0_isExam
  have hl : lv_has ls 2 [(0, .ref (a 0)), (1, .int pp)] := hl
  refine lv_aload_n hx hb dX0_isExam_0 rfl (lv_at hl 0 rfl) ?_
  refine lv_iload_n hx hb dX0_isExam_1 rfl (lv_at hl 1 rfl) ?_
  exact g0x (As := [.int pp]) (rest := []) S (x_requirePlace l hfl E a σ pp h) (cwV 1 hts gX0_isExam_X0_requirePlace rfl rfl rfl hdX0_requirePlace ⟨Nat.le_of_ble_eq_true rfl, Nat.le_of_ble_eq_true rfl⟩) hK hP hZ rfl hl.1 rfl (Nat.le_of_ble_eq_true rfl) ⟨Nat.le_of_ble_eq_true rfl, Nat.le_of_ble_eq_true rfl⟩ dX0_isExam_2 hnt hlocks
set_option maxHeartbeats 4000000 in
set_option maxRecDepth 100000 in
theorem x_examsFrom (l : Launch) (hfl : l.stackTraces = false) (E : GE) (a : Nat → Nat) (σ : GS) (pp : Int32) (h : gPb σ pp) : vx_Met l yX0_examsFrom wsX0_examsFrom { frames := 7, cells := 1, slots := 6, locals := 111 } (va_Pc [.ref (a 0), .int pp] (gBx E (gW E a σ))) gQFi (gXC "java/lang/IndexOutOfBoundsException") 1 6 (fun _ => False) := by
  refine w_xmet (cc := cX0_examsFrom) (maxL := 2) (ret := (some .int)) (by decide) rfl (Nat.le_of_ble_eq_true rfl) ?_
  intro p e s m below meth c ls S hr hlocks hnt hB hl
  obtain ⟨⟨hP, hK⟩, hZ⟩ := hB
  obtain ⟨hx, hb, hml, hown, hts⟩ := id S
  have hts0 := hinX0_examsFrom
  have hl : lv_has ls 2 [(0, .ref (a 0)), (1, .int pp)] := hl
  refine lv_aload_n hx hb dX0_examsFrom_0 rfl (lv_at hl 0 rfl) ?_
  refine lv_iload_n hx hb dX0_examsFrom_1 rfl (lv_at hl 1 rfl) ?_
  exact g0x (As := [.int pp]) (rest := []) S (x_requirePlace l hfl E a σ pp h) (cwV 1 hts gX0_examsFrom_X0_requirePlace rfl rfl rfl hdX0_requirePlace ⟨Nat.le_of_ble_eq_true rfl, Nat.le_of_ble_eq_true rfl⟩) hK hP hZ rfl hl.1 rfl (Nat.le_of_ble_eq_true rfl) ⟨Nat.le_of_ble_eq_true rfl, Nat.le_of_ble_eq_true rfl⟩ dX0_examsFrom_2 hnt hlocks
set_option maxHeartbeats 4000000 in
set_option maxRecDepth 100000 in
theorem x_planLeadsTo (l : Launch) (hfl : l.stackTraces = false) (E : GE) (a : Nat → Nat) (σ : GS) (pp : Int32) (h : gPb σ pp) : vx_Met l yX0_planLeadsTo wsX0_planLeadsTo { frames := 7, cells := 1, slots := 6, locals := 111 } (va_Pc [.ref (a 0), .int pp] (gBx E (gW E a σ))) gQFi (gXC "java/lang/IndexOutOfBoundsException") 1 6 (fun _ => False) := by
  refine w_xmet (cc := cX0_planLeadsTo) (maxL := 4) (ret := (some .int)) (by decide) rfl (Nat.le_of_ble_eq_true rfl) ?_
  intro p e s m below meth c ls S hr hlocks hnt hB hl
  obtain ⟨⟨hP, hK⟩, hZ⟩ := hB
  obtain ⟨hx, hb, hml, hown, hts⟩ := id S
  have hts0 := hinX0_planLeadsTo
  have hl : lv_has ls 4 [(0, .ref (a 0)), (1, .int pp)] := hl
  refine lv_aload_n hx hb dX0_planLeadsTo_0 rfl (lv_at hl 0 rfl) ?_
  refine lv_iload_n hx hb dX0_planLeadsTo_1 rfl (lv_at hl 1 rfl) ?_
  exact g0x (As := [.int pp]) (rest := []) S (x_requirePlace l hfl E a σ pp h) (cwV 1 hts gX0_planLeadsTo_X0_requirePlace rfl rfl rfl hdX0_requirePlace ⟨Nat.le_of_ble_eq_true rfl, Nat.le_of_ble_eq_true rfl⟩) hK hP hZ rfl hl.1 rfl (Nat.le_of_ble_eq_true rfl) ⟨Nat.le_of_ble_eq_true rfl, Nat.le_of_ble_eq_true rfl⟩ dX0_planLeadsTo_2 hnt hlocks
set_option maxHeartbeats 4000000 in
set_option maxRecDepth 100000 in
theorem x_gradeOf (l : Launch) (hfl : l.stackTraces = false) (E : GE) (a : Nat → Nat) (σ : GS) (hn : gn σ ≤ 40) (pp : Int32) (h : gNE σ pp) : vx_Met l yX0_gradeOf wsX0_gradeOf { frames := 8, cells := 1, slots := 6, locals := 132 } (va_Pc [.ref (a 0), .int pp] (gBx E (gW E a σ))) gQFi (gXC "java/lang/IndexOutOfBoundsException") 1 6 (fun _ => False) := by
  refine w_xmet (cc := cX0_gradeOf) (maxL := 2) (ret := (some .int)) (by decide) rfl (Nat.le_of_ble_eq_true rfl) ?_
  intro p e s m below meth c ls S hr hlocks hnt hB hl
  obtain ⟨⟨hP, hK⟩, hZ⟩ := hB
  obtain ⟨hx, hb, hml, hown, hts⟩ := id S
  have hts0 := hinX0_gradeOf
  have hl : lv_has ls 2 [(0, .ref (a 0)), (1, .int pp)] := hl
  refine lv_aload_n hx hb dX0_gradeOf_0 rfl (lv_at hl 0 rfl) ?_
  refine lv_iload_n hx hb dX0_gradeOf_1 rfl (lv_at hl 1 rfl) ?_
  exact g0x (As := [.int pp]) (rest := []) S (x_requireExam l hfl E a σ hn pp h) (cwV 1 hts gX0_gradeOf_X0_requireExam rfl rfl rfl hdX0_requireExam ⟨Nat.le_of_ble_eq_true rfl, Nat.le_of_ble_eq_true rfl⟩) hK hP hZ rfl hl.1 rfl (Nat.le_of_ble_eq_true rfl) ⟨Nat.le_of_ble_eq_true rfl, Nat.le_of_ble_eq_true rfl⟩ dX0_gradeOf_2 hnt hlocks
set_option maxHeartbeats 4000000 in
set_option maxRecDepth 100000 in
theorem x_isGraded (l : Launch) (hfl : l.stackTraces = false) (E : GE) (a : Nat → Nat) (σ : GS) (hn : gn σ ≤ 40) (pp : Int32) (h : gNE σ pp) : vx_Met l yX0_isGraded wsX0_isGraded { frames := 8, cells := 1, slots := 6, locals := 132 } (va_Pc [.ref (a 0), .int pp] (gBx E (gW E a σ))) gQFi (gXC "java/lang/IndexOutOfBoundsException") 1 6 (fun _ => False) := by
  refine w_xmet (cc := cX0_isGraded) (maxL := 2) (ret := (some .boolean)) (by decide) rfl (Nat.le_of_ble_eq_true rfl) ?_
  intro p e s m below meth c ls S hr hlocks hnt hB hl
  obtain ⟨⟨hP, hK⟩, hZ⟩ := hB
  obtain ⟨hx, hb, hml, hown, hts⟩ := id S
  have hts0 := hinX0_isGraded
  have hl : lv_has ls 2 [(0, .ref (a 0)), (1, .int pp)] := hl
  refine lv_aload_n hx hb dX0_isGraded_0 rfl (lv_at hl 0 rfl) ?_
  refine lv_iload_n hx hb dX0_isGraded_1 rfl (lv_at hl 1 rfl) ?_
  exact g0x (As := [.int pp]) (rest := []) S (x_requireExam l hfl E a σ hn pp h) (cwV 1 hts gX0_isGraded_X0_requireExam rfl rfl rfl hdX0_requireExam ⟨Nat.le_of_ble_eq_true rfl, Nat.le_of_ble_eq_true rfl⟩) hK hP hZ rfl hl.1 rfl (Nat.le_of_ble_eq_true rfl) ⟨Nat.le_of_ble_eq_true rfl, Nat.le_of_ble_eq_true rfl⟩ dX0_isGraded_2 hnt hlocks
set_option maxHeartbeats 4000000 in
set_option maxRecDepth 100000 in
theorem x_leftOf (l : Launch) (hfl : l.stackTraces = false) (E : GE) (a : Nat → Nat) (σ : GS) (hn : gn σ ≤ 40) (pp : Int32) (h : gNF σ pp) : vx_Met l yX0_leftOf wsX0_leftOf { frames := 8, cells := 1, slots := 6, locals := 132 } (va_Pc [.ref (a 0), .int pp] (gBx E (gW E a σ))) gQFi (gXC "java/lang/IndexOutOfBoundsException") 1 6 (fun _ => False) := by
  refine w_xmet (cc := cX0_leftOf) (maxL := 2) (ret := (some .int)) (by decide) rfl (Nat.le_of_ble_eq_true rfl) ?_
  intro p e s m below meth c ls S hr hlocks hnt hB hl
  obtain ⟨⟨hP, hK⟩, hZ⟩ := hB
  obtain ⟨hx, hb, hml, hown, hts⟩ := id S
  have hts0 := hinX0_leftOf
  have hl : lv_has ls 2 [(0, .ref (a 0)), (1, .int pp)] := hl
  refine lv_aload_n hx hb dX0_leftOf_0 rfl (lv_at hl 0 rfl) ?_
  refine lv_iload_n hx hb dX0_leftOf_1 rfl (lv_at hl 1 rfl) ?_
  exact g0x (As := [.int pp]) (rest := []) S (x_requireFork l hfl E a σ hn pp h) (cwV 1 hts gX0_leftOf_X0_requireFork rfl rfl rfl hdX0_requireFork ⟨Nat.le_of_ble_eq_true rfl, Nat.le_of_ble_eq_true rfl⟩) hK hP hZ rfl hl.1 rfl (Nat.le_of_ble_eq_true rfl) ⟨Nat.le_of_ble_eq_true rfl, Nat.le_of_ble_eq_true rfl⟩ dX0_leftOf_2 hnt hlocks
set_option maxHeartbeats 4000000 in
set_option maxRecDepth 100000 in
theorem x_rightOf (l : Launch) (hfl : l.stackTraces = false) (E : GE) (a : Nat → Nat) (σ : GS) (hn : gn σ ≤ 40) (pp : Int32) (h : gNF σ pp) : vx_Met l yX0_rightOf wsX0_rightOf { frames := 8, cells := 1, slots := 6, locals := 132 } (va_Pc [.ref (a 0), .int pp] (gBx E (gW E a σ))) gQFi (gXC "java/lang/IndexOutOfBoundsException") 1 6 (fun _ => False) := by
  refine w_xmet (cc := cX0_rightOf) (maxL := 2) (ret := (some .int)) (by decide) rfl (Nat.le_of_ble_eq_true rfl) ?_
  intro p e s m below meth c ls S hr hlocks hnt hB hl
  obtain ⟨⟨hP, hK⟩, hZ⟩ := hB
  obtain ⟨hx, hb, hml, hown, hts⟩ := id S
  have hts0 := hinX0_rightOf
  have hl : lv_has ls 2 [(0, .ref (a 0)), (1, .int pp)] := hl
  refine lv_aload_n hx hb dX0_rightOf_0 rfl (lv_at hl 0 rfl) ?_
  refine lv_iload_n hx hb dX0_rightOf_1 rfl (lv_at hl 1 rfl) ?_
  exact g0x (As := [.int pp]) (rest := []) S (x_requireFork l hfl E a σ hn pp h) (cwV 1 hts gX0_rightOf_X0_requireFork rfl rfl rfl hdX0_requireFork ⟨Nat.le_of_ble_eq_true rfl, Nat.le_of_ble_eq_true rfl⟩) hK hP hZ rfl hl.1 rfl (Nat.le_of_ble_eq_true rfl) ⟨Nat.le_of_ble_eq_true rfl, Nat.le_of_ble_eq_true rfl⟩ dX0_rightOf_2 hnt hlocks
set_option maxHeartbeats 4000000 in
set_option maxRecDepth 100000 in
theorem x_weightOf (l : Launch) (hfl : l.stackTraces = false) (E : GE) (a : Nat → Nat) (σ : GS) (hn : gn σ ≤ 40) (pp : Int32) (h : gNF σ pp) : vx_Met l yX0_weightOf wsX0_weightOf { frames := 8, cells := 1, slots := 6, locals := 132 } (va_Pc [.ref (a 0), .int pp] (gBx E (gW E a σ))) gQFi (gXC "java/lang/IndexOutOfBoundsException") 1 6 (fun _ => False) := by
  refine w_xmet (cc := cX0_weightOf) (maxL := 2) (ret := (some .int)) (by decide) rfl (Nat.le_of_ble_eq_true rfl) ?_
  intro p e s m below meth c ls S hr hlocks hnt hB hl
  obtain ⟨⟨hP, hK⟩, hZ⟩ := hB
  obtain ⟨hx, hb, hml, hown, hts⟩ := id S
  have hts0 := hinX0_weightOf
  have hl : lv_has ls 2 [(0, .ref (a 0)), (1, .int pp)] := hl
  refine lv_aload_n hx hb dX0_weightOf_0 rfl (lv_at hl 0 rfl) ?_
  refine lv_iload_n hx hb dX0_weightOf_1 rfl (lv_at hl 1 rfl) ?_
  exact g0x (As := [.int pp]) (rest := []) S (x_requireFork l hfl E a σ hn pp h) (cwV 1 hts gX0_weightOf_X0_requireFork rfl rfl rfl hdX0_requireFork ⟨Nat.le_of_ble_eq_true rfl, Nat.le_of_ble_eq_true rfl⟩) hK hP hZ rfl hl.1 rfl (Nat.le_of_ble_eq_true rfl) ⟨Nat.le_of_ble_eq_true rfl, Nat.le_of_ble_eq_true rfl⟩ dX0_weightOf_2 hnt hlocks
set_option maxHeartbeats 4000000 in
set_option maxRecDepth 100000 in
theorem x_hindsight (l : Launch) (hfl : l.stackTraces = false) (E : GE) (a : Nat → Nat) (σ : GS) (hn : gn σ ≤ 40) (pp : Int32) (h : gNF σ pp) : vx_Met l yX0_hindsight wsX0_hindsight { frames := 8, cells := 1, slots := 6, locals := 132 } (va_Pc [.ref (a 0), .int pp] (gBx E (gW E a σ))) gQFi (gXC "java/lang/IndexOutOfBoundsException") 1 6 (fun _ => False) := by
  refine w_xmet (cc := cX0_hindsight) (maxL := 2) (ret := (some .int)) (by decide) rfl (Nat.le_of_ble_eq_true rfl) ?_
  intro p e s m below meth c ls S hr hlocks hnt hB hl
  obtain ⟨⟨hP, hK⟩, hZ⟩ := hB
  obtain ⟨hx, hb, hml, hown, hts⟩ := id S
  have hts0 := hinX0_hindsight
  have hl : lv_has ls 2 [(0, .ref (a 0)), (1, .int pp)] := hl
  refine lv_aload_n hx hb dX0_hindsight_0 rfl (lv_at hl 0 rfl) ?_
  refine lv_iload_n hx hb dX0_hindsight_1 rfl (lv_at hl 1 rfl) ?_
  exact g0x (As := [.int pp]) (rest := []) S (x_requireFork l hfl E a σ hn pp h) (cwV 1 hts gX0_hindsight_X0_requireFork rfl rfl rfl hdX0_requireFork ⟨Nat.le_of_ble_eq_true rfl, Nat.le_of_ble_eq_true rfl⟩) hK hP hZ rfl hl.1 rfl (Nat.le_of_ble_eq_true rfl) ⟨Nat.le_of_ble_eq_true rfl, Nat.le_of_ble_eq_true rfl⟩ dX0_hindsight_2 hnt hlocks
set_option maxHeartbeats 4000000 in
set_option maxRecDepth 100000 in
theorem x_planTurnsRight (l : Launch) (hfl : l.stackTraces = false) (E : GE) (a : Nat → Nat) (σ : GS) (hn : gn σ ≤ 40) (pp : Int32) (h : gNF σ pp) : vx_Met l yX0_planTurnsRight wsX0_planTurnsRight { frames := 8, cells := 1, slots := 6, locals := 132 } (va_Pc [.ref (a 0), .int pp] (gBx E (gW E a σ))) gQFi (gXC "java/lang/IndexOutOfBoundsException") 1 6 (fun _ => False) := by
  refine w_xmet (cc := cX0_planTurnsRight) (maxL := 2) (ret := (some .boolean)) (by decide) rfl (Nat.le_of_ble_eq_true rfl) ?_
  intro p e s m below meth c ls S hr hlocks hnt hB hl
  obtain ⟨⟨hP, hK⟩, hZ⟩ := hB
  obtain ⟨hx, hb, hml, hown, hts⟩ := id S
  have hts0 := hinX0_planTurnsRight
  have hl : lv_has ls 2 [(0, .ref (a 0)), (1, .int pp)] := hl
  refine lv_aload_n hx hb dX0_planTurnsRight_0 rfl (lv_at hl 0 rfl) ?_
  refine lv_iload_n hx hb dX0_planTurnsRight_1 rfl (lv_at hl 1 rfl) ?_
  exact g0x (As := [.int pp]) (rest := []) S (x_requireFork l hfl E a σ hn pp h) (cwV 1 hts gX0_planTurnsRight_X0_requireFork rfl rfl rfl hdX0_requireFork ⟨Nat.le_of_ble_eq_true rfl, Nat.le_of_ble_eq_true rfl⟩) hK hP hZ rfl hl.1 rfl (Nat.le_of_ble_eq_true rfl) ⟨Nat.le_of_ble_eq_true rfl, Nat.le_of_ble_eq_true rfl⟩ dX0_planTurnsRight_2 hnt hlocks
set_option maxHeartbeats 4000000 in
set_option maxRecDepth 100000 in
theorem x_risk (l : Launch) (hfl : l.stackTraces = false) (E : GE) (a : Nat → Nat) (σ : GS) (hn : gn σ ≤ 40) (pp b : Int32) (h : gNF σ pp) : vx_Met l yX0_risk wsX0_risk { frames := 8, cells := 1, slots := 6, locals := 132 } (va_Pc [.ref (a 0), .int pp, .int b] (gBx E (gW E a σ))) gQFi (gXC "java/lang/IndexOutOfBoundsException") 1 6 (fun _ => False) := by
  refine w_xmet (cc := cX0_risk) (maxL := 3) (ret := (some .int)) (by decide) rfl (Nat.le_of_ble_eq_true rfl) ?_
  intro p e s m below meth c ls S hr hlocks hnt hB hl
  obtain ⟨⟨hP, hK⟩, hZ⟩ := hB
  obtain ⟨hx, hb, hml, hown, hts⟩ := id S
  have hts0 := hinX0_risk
  have hl : lv_has ls 3 [(0, .ref (a 0)), (1, .int pp), (2, .int b)] := hl
  refine lv_aload_n hx hb dX0_risk_0 rfl (lv_at hl 0 rfl) ?_
  refine lv_iload_n hx hb dX0_risk_1 rfl (lv_at hl 1 rfl) ?_
  exact g0x (As := [.int pp]) (rest := []) S (x_requireFork l hfl E a σ hn pp h) (cwV 1 hts gX0_risk_X0_requireFork rfl rfl rfl hdX0_requireFork ⟨Nat.le_of_ble_eq_true rfl, Nat.le_of_ble_eq_true rfl⟩) hK hP hZ rfl hl.1 rfl (Nat.le_of_ble_eq_true rfl) ⟨Nat.le_of_ble_eq_true rfl, Nat.le_of_ble_eq_true rfl⟩ dX0_risk_2 hnt hlocks
set_option maxHeartbeats 4000000 in
set_option maxRecDepth 100000 in
theorem x_placeOf (l : Launch) (hfl : l.stackTraces = false) (E : GE) (a : Nat → Nat) (σ : GS) (pp : Int32) (h : gSb σ pp) : vx_Met l yX0_placeOf wsX0_placeOf { frames := 7, cells := 1, slots := 6, locals := 111 } (va_Pc [.ref (a 0), .int pp] (gBx E (gW E a σ))) gQFi (gXC "java/lang/IndexOutOfBoundsException") 1 6 (fun _ => False) := by
  refine w_xmet (cc := cX0_placeOf) (maxL := 2) (ret := (some .int)) (by decide) rfl (Nat.le_of_ble_eq_true rfl) ?_
  intro p e s m below meth c ls S hr hlocks hnt hB hl
  obtain ⟨⟨hP, hK⟩, hZ⟩ := hB
  obtain ⟨hx, hb, hml, hown, hts⟩ := id S
  have hts0 := hinX0_placeOf
  have hl : lv_has ls 2 [(0, .ref (a 0)), (1, .int pp)] := hl
  refine lv_aload_n hx hb dX0_placeOf_0 rfl (lv_at hl 0 rfl) ?_
  refine lv_iload_n hx hb dX0_placeOf_1 rfl (lv_at hl 1 rfl) ?_
  exact g0x (As := [.int pp]) (rest := []) S (x_requireStudent l hfl E a σ pp h) (cwV 1 hts gX0_placeOf_X0_requireStudent rfl rfl rfl hdX0_requireStudent ⟨Nat.le_of_ble_eq_true rfl, Nat.le_of_ble_eq_true rfl⟩) hK hP hZ rfl hl.1 rfl (Nat.le_of_ble_eq_true rfl) ⟨Nat.le_of_ble_eq_true rfl, Nat.le_of_ble_eq_true rfl⟩ dX0_placeOf_2 hnt hlocks
set_option maxHeartbeats 4000000 in
set_option maxRecDepth 100000 in
theorem x_passedBy (l : Launch) (hfl : l.stackTraces = false) (E : GE) (a : Nat → Nat) (σ : GS) (pp : Int32) (h : gSb σ pp) : vx_Met l yX0_passedBy wsX0_passedBy { frames := 7, cells := 1, slots := 6, locals := 111 } (va_Pc [.ref (a 0), .int pp] (gBx E (gW E a σ))) gQFi (gXC "java/lang/IndexOutOfBoundsException") 1 6 (fun _ => False) := by
  refine w_xmet (cc := cX0_passedBy) (maxL := 2) (ret := (some .int)) (by decide) rfl (Nat.le_of_ble_eq_true rfl) ?_
  intro p e s m below meth c ls S hr hlocks hnt hB hl
  obtain ⟨⟨hP, hK⟩, hZ⟩ := hB
  obtain ⟨hx, hb, hml, hown, hts⟩ := id S
  have hts0 := hinX0_passedBy
  have hl : lv_has ls 2 [(0, .ref (a 0)), (1, .int pp)] := hl
  refine lv_aload_n hx hb dX0_passedBy_0 rfl (lv_at hl 0 rfl) ?_
  refine lv_iload_n hx hb dX0_passedBy_1 rfl (lv_at hl 1 rfl) ?_
  exact g0x (As := [.int pp]) (rest := []) S (x_requireStudent l hfl E a σ pp h) (cwV 1 hts gX0_passedBy_X0_requireStudent rfl rfl rfl hdX0_requireStudent ⟨Nat.le_of_ble_eq_true rfl, Nat.le_of_ble_eq_true rfl⟩) hK hP hZ rfl hl.1 rfl (Nat.le_of_ble_eq_true rfl) ⟨Nat.le_of_ble_eq_true rfl, Nat.le_of_ble_eq_true rfl⟩ dX0_passedBy_2 hnt hlocks
set_option maxHeartbeats 4000000 in
set_option maxRecDepth 100000 in
theorem x_follow (l : Launch) (hfl : l.stackTraces = false) (E : GE) (a : Nat → Nat) (σ : GS) (pp : Int32) (h : gSb σ pp) : vx_Met l yX0_follow wsX0_follow { frames := 7, cells := 1, slots := 6, locals := 111 } (va_Pc [.ref (a 0), .int pp] (gBx E (gW E a σ))) gQFi (gXC "java/lang/IndexOutOfBoundsException") 1 6 (fun _ => False) := by
  refine w_xmet (cc := cX0_follow) (maxL := 3) (ret := (some .int)) (by decide) rfl (Nat.le_of_ble_eq_true rfl) ?_
  intro p e s m below meth c ls S hr hlocks hnt hB hl
  obtain ⟨⟨hP, hK⟩, hZ⟩ := hB
  obtain ⟨hx, hb, hml, hown, hts⟩ := id S
  have hts0 := hinX0_follow
  have hl : lv_has ls 3 [(0, .ref (a 0)), (1, .int pp)] := hl
  refine lv_aload_n hx hb dX0_follow_0 rfl (lv_at hl 0 rfl) ?_
  refine lv_iload_n hx hb dX0_follow_1 rfl (lv_at hl 1 rfl) ?_
  exact g0x (As := [.int pp]) (rest := []) S (x_requireStudent l hfl E a σ pp h) (cwV 1 hts gX0_follow_X0_requireStudent rfl rfl rfl hdX0_requireStudent ⟨Nat.le_of_ble_eq_true rfl, Nat.le_of_ble_eq_true rfl⟩) hK hP hZ rfl hl.1 rfl (Nat.le_of_ble_eq_true rfl) ⟨Nat.le_of_ble_eq_true rfl, Nat.le_of_ble_eq_true rfl⟩ dX0_follow_2 hnt hlocks
set_option maxHeartbeats 4000000 in
set_option maxRecDepth 100000 in
theorem x_regretOf (l : Launch) (hfl : l.stackTraces = false) (E : GE) (a : Nat → Nat) (σ : GS) (pp : Int32) (h : gSb σ pp) : vx_Met l yX0_regretOf wsX0_regretOf { frames := 7, cells := 1, slots := 6, locals := 111 } (va_Pc [.ref (a 0), .int pp] (gBx E (gW E a σ))) gQFi (gXC "java/lang/IndexOutOfBoundsException") 1 6 (fun _ => False) := by
  refine w_xmet (cc := cX0_regretOf) (maxL := 2) (ret := (some .int)) (by decide) rfl (Nat.le_of_ble_eq_true rfl) ?_
  intro p e s m below meth c ls S hr hlocks hnt hB hl
  obtain ⟨⟨hP, hK⟩, hZ⟩ := hB
  obtain ⟨hx, hb, hml, hown, hts⟩ := id S
  have hts0 := hinX0_regretOf
  have hl : lv_has ls 2 [(0, .ref (a 0)), (1, .int pp)] := hl
  refine lv_aload_n hx hb dX0_regretOf_0 rfl (lv_at hl 0 rfl) ?_
  refine lv_iload_n hx hb dX0_regretOf_1 rfl (lv_at hl 1 rfl) ?_
  exact g0x (As := [.int pp]) (rest := []) S (x_requireStudent l hfl E a σ pp h) (cwV 1 hts gX0_regretOf_X0_requireStudent rfl rfl rfl hdX0_requireStudent ⟨Nat.le_of_ble_eq_true rfl, Nat.le_of_ble_eq_true rfl⟩) hK hP hZ rfl hl.1 rfl (Nat.le_of_ble_eq_true rfl) ⟨Nat.le_of_ble_eq_true rfl, Nat.le_of_ble_eq_true rfl⟩ dX0_regretOf_2 hnt hlocks
set_option maxHeartbeats 4000000 in
set_option maxRecDepth 100000 in
theorem x_regretOf2 (l : Launch) (hfl : l.stackTraces = false) (E : GE) (a : Nat → Nat) (σ : GS) (hO : GOK σ) (k : Nat) (hk : k < gk σ) (hG : gHas σ (gst σ k) = false) : vx_Met l yX0_regretOf wsX0_regretOf { frames := 7, cells := 1, slots := 6, locals := 111 } (va_Pc [.ref (a 0), .int (nI k)] (gBx E (gW E a σ))) gQFi (gXC "java/lang/IllegalStateException") 1 6 (fun _ => False) := by
  refine w_xmet (cc := cX0_regretOf) (maxL := 2) (ret := (some .int)) (by decide) rfl (Nat.le_of_ble_eq_true rfl) ?_
  intro p e s m below meth c ls S hr hlocks hnt hB hl
  obtain ⟨⟨hP, hK⟩, hZ⟩ := hB
  obtain ⟨hx, hb, hml, hown, hts⟩ := id S
  have tk := hO.2.1
  have hts0 := hinX0_regretOf
  have hl : lv_has ls 2 [(0, .ref (a 0)), (1, .int (nI k))] := hl
  refine lv_aload_n hx hb dX0_regretOf_0 rfl (lv_at hl 0 rfl) ?_
  refine lv_iload_n hx hb dX0_regretOf_1 rfl (lv_at hl 1 rfl) ?_
  refine g0v (As := [.int (nI k)]) (rest := []) S (c_requireStudent l E a σ k (by omega) (by omega)) (cwV 1 hts gX0_regretOf_X0_requireStudent rfl rfl rfl hdX0_requireStudent ⟨Nat.le_of_ble_eq_true rfl, Nat.le_of_ble_eq_true rfl⟩) hK hP rfl hl.1 rfl (Nat.le_of_ble_eq_true rfl) ⟨Nat.zero_le _, Nat.zero_le _⟩ dX0_regretOf_2 ?_
  refine lv_aload_n hx hb dX0_regretOf_5 rfl (lv_at hl 0 rfl) ?_
  refine lv_iload_n hx hb dX0_regretOf_6 rfl (lv_at hl 1 rfl) ?_
  exact g0x (As := [.int (nI k)]) (rest := []) S (x_requireGraded l hfl E a σ hO k (by omega) hG) (cwV 1 hts gX0_regretOf_X0_requireGraded rfl rfl rfl hdX0_requireGraded ⟨Nat.le_of_ble_eq_true rfl, Nat.le_of_ble_eq_true rfl⟩) hK hP hZ rfl hl.1 rfl (Nat.le_of_ble_eq_true rfl) ⟨Nat.le_of_ble_eq_true rfl, Nat.le_of_ble_eq_true rfl⟩ dX0_regretOf_7 hnt hlocks
set_option maxHeartbeats 4000000 in
set_option maxRecDepth 100000 in
theorem x_worstFork (l : Launch) (hfl : l.stackTraces = false) (E : GE) (a : Nat → Nat) (σ : GS) (pp : Int32) (h : gSb σ pp) : vx_Met l yX0_worstFork wsX0_worstFork { frames := 7, cells := 1, slots := 6, locals := 111 } (va_Pc [.ref (a 0), .int pp] (gBx E (gW E a σ))) gQFi (gXC "java/lang/IndexOutOfBoundsException") 1 6 (fun _ => False) := by
  refine w_xmet (cc := cX0_worstFork) (maxL := 7) (ret := (some .int)) (by decide) rfl (Nat.le_of_ble_eq_true rfl) ?_
  intro p e s m below meth c ls S hr hlocks hnt hB hl
  obtain ⟨⟨hP, hK⟩, hZ⟩ := hB
  obtain ⟨hx, hb, hml, hown, hts⟩ := id S
  have hts0 := hinX0_worstFork
  have hl : lv_has ls 7 [(0, .ref (a 0)), (1, .int pp)] := hl
  refine lv_aload_n hx hb dX0_worstFork_0 rfl (lv_at hl 0 rfl) ?_
  refine lv_iload_n hx hb dX0_worstFork_1 rfl (lv_at hl 1 rfl) ?_
  exact g0x (As := [.int pp]) (rest := []) S (x_requireStudent l hfl E a σ pp h) (cwV 1 hts gX0_worstFork_X0_requireStudent rfl rfl rfl hdX0_requireStudent ⟨Nat.le_of_ble_eq_true rfl, Nat.le_of_ble_eq_true rfl⟩) hK hP hZ rfl hl.1 rfl (Nat.le_of_ble_eq_true rfl) ⟨Nat.le_of_ble_eq_true rfl, Nat.le_of_ble_eq_true rfl⟩ dX0_worstFork_2 hnt hlocks
set_option maxHeartbeats 4000000 in
set_option maxRecDepth 100000 in
theorem x_worstFork2 (l : Launch) (hfl : l.stackTraces = false) (E : GE) (a : Nat → Nat) (σ : GS) (hO : GOK σ) (k : Nat) (hk : k < gk σ) (hG : gHas σ (gst σ k) = false) : vx_Met l yX0_worstFork wsX0_worstFork { frames := 7, cells := 1, slots := 6, locals := 111 } (va_Pc [.ref (a 0), .int (nI k)] (gBx E (gW E a σ))) gQFi (gXC "java/lang/IllegalStateException") 1 6 (fun _ => False) := by
  refine w_xmet (cc := cX0_worstFork) (maxL := 7) (ret := (some .int)) (by decide) rfl (Nat.le_of_ble_eq_true rfl) ?_
  intro p e s m below meth c ls S hr hlocks hnt hB hl
  obtain ⟨⟨hP, hK⟩, hZ⟩ := hB
  obtain ⟨hx, hb, hml, hown, hts⟩ := id S
  have tk := hO.2.1
  have hts0 := hinX0_worstFork
  have hl : lv_has ls 7 [(0, .ref (a 0)), (1, .int (nI k))] := hl
  refine lv_aload_n hx hb dX0_worstFork_0 rfl (lv_at hl 0 rfl) ?_
  refine lv_iload_n hx hb dX0_worstFork_1 rfl (lv_at hl 1 rfl) ?_
  refine g0v (As := [.int (nI k)]) (rest := []) S (c_requireStudent l E a σ k (by omega) (by omega)) (cwV 1 hts gX0_worstFork_X0_requireStudent rfl rfl rfl hdX0_requireStudent ⟨Nat.le_of_ble_eq_true rfl, Nat.le_of_ble_eq_true rfl⟩) hK hP rfl hl.1 rfl (Nat.le_of_ble_eq_true rfl) ⟨Nat.zero_le _, Nat.zero_le _⟩ dX0_worstFork_2 ?_
  refine lv_aload_n hx hb dX0_worstFork_5 rfl (lv_at hl 0 rfl) ?_
  refine lv_iload_n hx hb dX0_worstFork_6 rfl (lv_at hl 1 rfl) ?_
  exact g0x (As := [.int (nI k)]) (rest := []) S (x_requireGraded l hfl E a σ hO k (by omega) hG) (cwV 1 hts gX0_worstFork_X0_requireGraded rfl rfl rfl hdX0_requireGraded ⟨Nat.le_of_ble_eq_true rfl, Nat.le_of_ble_eq_true rfl⟩) hK hP hZ rfl hl.1 rfl (Nat.le_of_ble_eq_true rfl) ⟨Nat.le_of_ble_eq_true rfl, Nat.le_of_ble_eq_true rfl⟩ dX0_worstFork_7 hnt hlocks
set_option maxHeartbeats 4000000 in
set_option maxRecDepth 100000 in
theorem x_reaches (l : Launch) (hfl : l.stackTraces = false) (E : GE) (a : Nat → Nat) (σ : GS) (pp qq : Int32) (h : gPb σ pp) : vx_Met l yX0_reaches wsX0_reaches { frames := 7, cells := 1, slots := 6, locals := 111 } (va_Pc [.ref (a 0), .int pp, .int qq] (gBx E (gW E a σ))) gQFi (gXC "java/lang/IndexOutOfBoundsException") 1 6 (fun _ => False) := by
  refine w_xmet (cc := cX0_reaches) (maxL := 3) (ret := (some .boolean)) (by decide) rfl (Nat.le_of_ble_eq_true rfl) ?_
  intro p e s m below meth c ls S hr hlocks hnt hB hl
  obtain ⟨⟨hP, hK⟩, hZ⟩ := hB
  obtain ⟨hx, hb, hml, hown, hts⟩ := id S
  have hts0 := hinX0_reaches
  have hl : lv_has ls 3 [(0, .ref (a 0)), (1, .int pp), (2, .int qq)] := hl
  refine lv_aload_n hx hb dX0_reaches_0 rfl (lv_at hl 0 rfl) ?_
  refine lv_iload_n hx hb dX0_reaches_1 rfl (lv_at hl 1 rfl) ?_
  exact g0x (As := [.int pp]) (rest := []) S (x_requirePlace l hfl E a σ pp h) (cwV 1 hts gX0_reaches_X0_requirePlace rfl rfl rfl hdX0_requirePlace ⟨Nat.le_of_ble_eq_true rfl, Nat.le_of_ble_eq_true rfl⟩) hK hP hZ rfl hl.1 rfl (Nat.le_of_ble_eq_true rfl) ⟨Nat.le_of_ble_eq_true rfl, Nat.le_of_ble_eq_true rfl⟩ dX0_reaches_2 hnt hlocks
set_option maxHeartbeats 4000000 in
set_option maxRecDepth 100000 in
theorem x_reaches2 (l : Launch) (hfl : l.stackTraces = false) (E : GE) (a : Nat → Nat) (σ : GS) (hn : gn σ ≤ 40) (k : Nat) (hk : k < gn σ) (qq : Int32) (h : gPb σ qq) : vx_Met l yX0_reaches wsX0_reaches { frames := 7, cells := 1, slots := 6, locals := 111 } (va_Pc [.ref (a 0), .int (nI k), .int qq] (gBx E (gW E a σ))) gQFi (gXC "java/lang/IndexOutOfBoundsException") 1 6 (fun _ => False) := by
  refine w_xmet (cc := cX0_reaches) (maxL := 3) (ret := (some .boolean)) (by decide) rfl (Nat.le_of_ble_eq_true rfl) ?_
  intro p e s m below meth c ls S hr hlocks hnt hB hl
  obtain ⟨⟨hP, hK⟩, hZ⟩ := hB
  obtain ⟨hx, hb, hml, hown, hts⟩ := id S
  have hts0 := hinX0_reaches
  have hl : lv_has ls 3 [(0, .ref (a 0)), (1, .int (nI k)), (2, .int qq)] := hl
  refine lv_aload_n hx hb dX0_reaches_0 rfl (lv_at hl 0 rfl) ?_
  refine lv_iload_n hx hb dX0_reaches_1 rfl (lv_at hl 1 rfl) ?_
  refine g0v (As := [.int (nI k)]) (rest := []) S (c_requirePlace l E a σ k (by omega) (by omega)) (cwV 1 hts gX0_reaches_X0_requirePlace rfl rfl rfl hdX0_requirePlace ⟨Nat.le_of_ble_eq_true rfl, Nat.le_of_ble_eq_true rfl⟩) hK hP rfl hl.1 rfl (Nat.le_of_ble_eq_true rfl) ⟨Nat.zero_le _, Nat.zero_le _⟩ dX0_reaches_2 ?_
  refine lv_aload_n hx hb dX0_reaches_5 rfl (lv_at hl 0 rfl) ?_
  refine lv_iload_n hx hb dX0_reaches_6 rfl (lv_at hl 2 rfl) ?_
  exact g0x (As := [.int qq]) (rest := []) S (x_requirePlace l hfl E a σ qq h) (cwV 1 hts gX0_reaches_X0_requirePlace rfl rfl rfl hdX0_requirePlace ⟨Nat.le_of_ble_eq_true rfl, Nat.le_of_ble_eq_true rfl⟩) hK hP hZ rfl hl.1 rfl (Nat.le_of_ble_eq_true rfl) ⟨Nat.le_of_ble_eq_true rfl, Nat.le_of_ble_eq_true rfl⟩ dX0_reaches_7 hnt hlocks
set_option maxHeartbeats 4000000 in
set_option maxRecDepth 100000 in
theorem x_addExam (l : Launch) (hfl : l.stackTraces = false) (E : GE) (a : Nat → Nat) (σ : GS) (x y : Int32) (h : x < 0 ∨ nI 20 < y ∨ y < x) : vx_Met l yX0_addExam wsX0_addExam { frames := 7, cells := 1, slots := 6, locals := 110 } (va_Pc [.ref (a 0), .int x, .int y] (gBx E (gW E a σ))) gQFi (gXC "java/lang/IllegalArgumentException") 1 6 (fun _ => False) := by
  refine w_xmet (cc := cX0_addExam) (maxL := 4) (ret := (some .int)) (by decide) rfl (Nat.le_of_ble_eq_true rfl) ?_
  intro p e s m below meth c ls S hr hlocks hnt hB hl
  obtain ⟨⟨hP, hK⟩, hZ⟩ := hB
  obtain ⟨hx, hb, hml, hown, hts⟩ := id S
  have hts0 := hinX0_addExam
  have hl : lv_has ls 4 [(0, .ref (a 0)), (1, .int x), (2, .int y)] := hl
  refine lv_iload_n hx hb dX0_addExam_0 rfl (lv_at hl 1 rfl) ?_
  refine lv_if_lt (tgt := 15) hx hb dX0_addExam_1 (by decide) (fun c1 => ?_) (fun c1 => ?_)
  · exact g_throw gThA hfl S hZ (by decide +kernel) (by decide +kernel) (fun _ h => List.mem_cons_of_mem _ (List.mem_append_left _ (List.mem_append_right _ h))) (text := "an exam has grades from 0 to 20, the lowest one first") (by decide +kernel) hl.1 dX0_addExam_15 dX0_addExam_18 dX0_addExam_19 dX0_addExam_21 dX0_addExam_24 hnt ⟨Nat.le_of_ble_eq_true rfl, Nat.le_of_ble_eq_true rfl, Nat.le_of_ble_eq_true rfl, Nat.le_of_ble_eq_true rfl⟩ hlocks
  · refine lv_iload_n hx hb dX0_addExam_4 rfl (lv_at hl 2 rfl) ?_
    refine lv_bipush (v := nI 20) hx hb dX0_addExam_5 (by decide) ?_
    refine lv_icmp_gt (tgt := 15) hx hb dX0_addExam_7 (by decide) (fun c7 => ?_) (fun c7 => ?_)
    · exact g_throw gThA hfl S hZ (by decide +kernel) (by decide +kernel) (fun _ h => List.mem_cons_of_mem _ (List.mem_append_left _ (List.mem_append_right _ h))) (text := "an exam has grades from 0 to 20, the lowest one first") (by decide +kernel) hl.1 dX0_addExam_15 dX0_addExam_18 dX0_addExam_19 dX0_addExam_21 dX0_addExam_24 hnt ⟨Nat.le_of_ble_eq_true rfl, Nat.le_of_ble_eq_true rfl, Nat.le_of_ble_eq_true rfl, Nat.le_of_ble_eq_true rfl⟩ hlocks
    · refine lv_iload_n hx hb dX0_addExam_10 rfl (lv_at hl 2 rfl) ?_
      refine lv_iload_n hx hb dX0_addExam_11 rfl (lv_at hl 1 rfl) ?_
      refine lv_icmp_ge (tgt := 25) hx hb dX0_addExam_12 (by decide) (fun q => absurd q ((Int32.not_le.mpr ((h.resolve_left c1).resolve_left c7)))) (fun _ => ?_)
      exact g_throw gThA hfl S hZ (by decide +kernel) (by decide +kernel) (fun _ h => List.mem_cons_of_mem _ (List.mem_append_left _ (List.mem_append_right _ h))) (text := "an exam has grades from 0 to 20, the lowest one first") (by decide +kernel) hl.1 dX0_addExam_15 dX0_addExam_18 dX0_addExam_19 dX0_addExam_21 dX0_addExam_24 hnt ⟨Nat.le_of_ble_eq_true rfl, Nat.le_of_ble_eq_true rfl, Nat.le_of_ble_eq_true rfl, Nat.le_of_ble_eq_true rfl⟩ hlocks
set_option maxHeartbeats 4000000 in
set_option maxRecDepth 100000 in
theorem x_addExam2 (l : Launch) (hfl : l.stackTraces = false) (E : GE) (a : Nat → Nat) (σ : GS) (x y : Nat) (hxy : x ≤ y) (hy : y ≤ 20) (h1 : gn σ = 40) : vx_Met l yX0_addExam wsX0_addExam { frames := 7, cells := 1, slots := 6, locals := 110 } (va_Pc [.ref (a 0), .int (nI x), .int (nI y)] (gBx E (gW E a σ))) gQFi (gXC "java/lang/IllegalStateException") 1 6 (fun _ => False) := by
  refine w_xmet (cc := cX0_addExam) (maxL := 4) (ret := (some .int)) (by decide) rfl (Nat.le_of_ble_eq_true rfl) ?_
  intro p e s m below meth c ls S hr hlocks hnt hB hl
  obtain ⟨⟨hP, hK⟩, hZ⟩ := hB
  obtain ⟨hx, hb, hml, hown, hts⟩ := id S
  have hts0 := hinX0_addExam
  have hl : lv_has ls 4 [(0, .ref (a 0)), (1, .int (nI x)), (2, .int (nI y))] := hl
  refine lv_iload_n hx hb dX0_addExam_0 rfl (lv_at hl 1 rfl) ?_
  refine lv_if_lt (tgt := 15) hx hb dX0_addExam_1 (by decide) (fun q => absurd q ((nI_pos (by omega)))) (fun _ => ?_)
  refine lv_iload_n hx hb dX0_addExam_4 rfl (lv_at hl 2 rfl) ?_
  refine lv_bipush (v := nI 20) hx hb dX0_addExam_5 (by decide) ?_
  refine lv_icmp_gt (tgt := 15) hx hb dX0_addExam_7 (by decide) (fun q => absurd q ((nI_nlt (by omega) (by omega)))) (fun _ => ?_)
  refine lv_iload_n hx hb dX0_addExam_10 rfl (lv_at hl 2 rfl) ?_
  refine lv_iload_n hx hb dX0_addExam_11 rfl (lv_at hl 1 rfl) ?_
  refine lv_icmp_ge (tgt := 25) hx hb dX0_addExam_12 (by decide) (fun _ => ?_) (fun q => absurd ((nI_le (by omega) (by omega))) q)
  refine lv_aload_n hx hb dX0_addExam_25 rfl (lv_at hl 0 rfl) ?_
  exact g0x (As := []) (rest := []) S (x_requireRoom l hfl E a σ h1) (cwV 0 hts gX0_addExam_X0_requireRoom rfl rfl rfl hdX0_requireRoom ⟨Nat.le_of_ble_eq_true rfl, Nat.le_of_ble_eq_true rfl⟩) hK hP hZ rfl hl.1 rfl (Nat.le_of_ble_eq_true rfl) ⟨Nat.le_of_ble_eq_true rfl, Nat.le_of_ble_eq_true rfl⟩ dX0_addExam_26 hnt hlocks
set_option maxHeartbeats 4000000 in
set_option maxRecDepth 100000 in
theorem x_addFork (l : Launch) (hfl : l.stackTraces = false) (E : GE) (a : Nat → Nat) (σ : GS) (pp qq w0 : Int32) (h : gPb σ pp) : vx_Met l yX0_addFork wsX0_addFork { frames := 7, cells := 1, slots := 6, locals := 111 } (va_Pc [.ref (a 0), .int pp, .int qq, .int w0] (gBx E (gW E a σ))) gQFi (gXC "java/lang/IndexOutOfBoundsException") 1 6 (fun _ => False) := by
  refine w_xmet (cc := cX0_addFork) (maxL := 5) (ret := (some .int)) (by decide) rfl (Nat.le_of_ble_eq_true rfl) ?_
  intro p e s m below meth c ls S hr hlocks hnt hB hl
  obtain ⟨⟨hP, hK⟩, hZ⟩ := hB
  obtain ⟨hx, hb, hml, hown, hts⟩ := id S
  have hts0 := hinX0_addFork
  have hl : lv_has ls 5 [(0, .ref (a 0)), (1, .int pp), (2, .int qq), (3, .int w0)] := hl
  refine lv_aload_n hx hb dX0_addFork_0 rfl (lv_at hl 0 rfl) ?_
  refine lv_iload_n hx hb dX0_addFork_1 rfl (lv_at hl 1 rfl) ?_
  exact g0x (As := [.int pp]) (rest := []) S (x_requirePlace l hfl E a σ pp h) (cwV 1 hts gX0_addFork_X0_requirePlace rfl rfl rfl hdX0_requirePlace ⟨Nat.le_of_ble_eq_true rfl, Nat.le_of_ble_eq_true rfl⟩) hK hP hZ rfl hl.1 rfl (Nat.le_of_ble_eq_true rfl) ⟨Nat.le_of_ble_eq_true rfl, Nat.le_of_ble_eq_true rfl⟩ dX0_addFork_2 hnt hlocks
set_option maxHeartbeats 4000000 in
set_option maxRecDepth 100000 in
theorem x_addFork2 (l : Launch) (hfl : l.stackTraces = false) (E : GE) (a : Nat → Nat) (σ : GS) (hn : gn σ ≤ 40) (k : Nat) (hk : k < gn σ) (qq w0 : Int32) (h : gPb σ qq) : vx_Met l yX0_addFork wsX0_addFork { frames := 7, cells := 1, slots := 6, locals := 111 } (va_Pc [.ref (a 0), .int (nI k), .int qq, .int w0] (gBx E (gW E a σ))) gQFi (gXC "java/lang/IndexOutOfBoundsException") 1 6 (fun _ => False) := by
  refine w_xmet (cc := cX0_addFork) (maxL := 5) (ret := (some .int)) (by decide) rfl (Nat.le_of_ble_eq_true rfl) ?_
  intro p e s m below meth c ls S hr hlocks hnt hB hl
  obtain ⟨⟨hP, hK⟩, hZ⟩ := hB
  obtain ⟨hx, hb, hml, hown, hts⟩ := id S
  have hts0 := hinX0_addFork
  have hl : lv_has ls 5 [(0, .ref (a 0)), (1, .int (nI k)), (2, .int qq), (3, .int w0)] := hl
  refine lv_aload_n hx hb dX0_addFork_0 rfl (lv_at hl 0 rfl) ?_
  refine lv_iload_n hx hb dX0_addFork_1 rfl (lv_at hl 1 rfl) ?_
  refine g0v (As := [.int (nI k)]) (rest := []) S (c_requirePlace l E a σ k (by omega) (by omega)) (cwV 1 hts gX0_addFork_X0_requirePlace rfl rfl rfl hdX0_requirePlace ⟨Nat.le_of_ble_eq_true rfl, Nat.le_of_ble_eq_true rfl⟩) hK hP rfl hl.1 rfl (Nat.le_of_ble_eq_true rfl) ⟨Nat.zero_le _, Nat.zero_le _⟩ dX0_addFork_2 ?_
  refine lv_aload_n hx hb dX0_addFork_5 rfl (lv_at hl 0 rfl) ?_
  refine lv_iload_n hx hb dX0_addFork_6 rfl (lv_at hl 2 rfl) ?_
  exact g0x (As := [.int qq]) (rest := []) S (x_requirePlace l hfl E a σ qq h) (cwV 1 hts gX0_addFork_X0_requirePlace rfl rfl rfl hdX0_requirePlace ⟨Nat.le_of_ble_eq_true rfl, Nat.le_of_ble_eq_true rfl⟩) hK hP hZ rfl hl.1 rfl (Nat.le_of_ble_eq_true rfl) ⟨Nat.le_of_ble_eq_true rfl, Nat.le_of_ble_eq_true rfl⟩ dX0_addFork_7 hnt hlocks
set_option maxHeartbeats 4000000 in
set_option maxRecDepth 100000 in
theorem x_addFork3 (l : Launch) (hfl : l.stackTraces = false) (E : GE) (a : Nat → Nat) (σ : GS) (hn : gn σ ≤ 40) (k k2 : Nat) (hk : k < gn σ) (hk2 : k2 < gn σ) (w0 : Int32) (h : w0 < 1 ∨ nI 9 < w0) : vx_Met l yX0_addFork wsX0_addFork { frames := 7, cells := 1, slots := 6, locals := 111 } (va_Pc [.ref (a 0), .int (nI k), .int (nI k2), .int w0] (gBx E (gW E a σ))) gQFi (gXC "java/lang/IllegalArgumentException") 1 6 (fun _ => False) := by
  refine w_xmet (cc := cX0_addFork) (maxL := 5) (ret := (some .int)) (by decide) rfl (Nat.le_of_ble_eq_true rfl) ?_
  intro p e s m below meth c ls S hr hlocks hnt hB hl
  obtain ⟨⟨hP, hK⟩, hZ⟩ := hB
  obtain ⟨hx, hb, hml, hown, hts⟩ := id S
  have hts0 := hinX0_addFork
  have hl : lv_has ls 5 [(0, .ref (a 0)), (1, .int (nI k)), (2, .int (nI k2)), (3, .int w0)] := hl
  refine lv_aload_n hx hb dX0_addFork_0 rfl (lv_at hl 0 rfl) ?_
  refine lv_iload_n hx hb dX0_addFork_1 rfl (lv_at hl 1 rfl) ?_
  refine g0v (As := [.int (nI k)]) (rest := []) S (c_requirePlace l E a σ k (by omega) (by omega)) (cwV 1 hts gX0_addFork_X0_requirePlace rfl rfl rfl hdX0_requirePlace ⟨Nat.le_of_ble_eq_true rfl, Nat.le_of_ble_eq_true rfl⟩) hK hP rfl hl.1 rfl (Nat.le_of_ble_eq_true rfl) ⟨Nat.zero_le _, Nat.zero_le _⟩ dX0_addFork_2 ?_
  refine lv_aload_n hx hb dX0_addFork_5 rfl (lv_at hl 0 rfl) ?_
  refine lv_iload_n hx hb dX0_addFork_6 rfl (lv_at hl 2 rfl) ?_
  refine g0v (As := [.int (nI k2)]) (rest := []) S (c_requirePlace l E a σ k2 (by omega) (by omega)) (cwV 1 hts gX0_addFork_X0_requirePlace rfl rfl rfl hdX0_requirePlace ⟨Nat.le_of_ble_eq_true rfl, Nat.le_of_ble_eq_true rfl⟩) hK hP rfl hl.1 rfl (Nat.le_of_ble_eq_true rfl) ⟨Nat.zero_le _, Nat.zero_le _⟩ dX0_addFork_7 ?_
  refine lv_iload_n hx hb dX0_addFork_10 rfl (lv_at hl 3 rfl) ?_
  exact g0xs (As := [.int w0]) (rest := []) (ws := []) S (x_requireWeight l hfl E a σ w0 h) (va_cwS 1 hts gX0_addFork_X0_requireWeight rfl rfl rfl hdX0_requireWeight.2 ⟨Nat.le_of_ble_eq_true rfl, Nat.le_of_ble_eq_true rfl⟩) hK (fun _ _ h => nomatch h) hZ rfl hl.1 rfl (Nat.le_of_ble_eq_true rfl) ⟨Nat.le_of_ble_eq_true rfl, Nat.le_of_ble_eq_true rfl⟩ dX0_addFork_11 hnt hlocks
set_option maxHeartbeats 4000000 in
set_option maxRecDepth 100000 in
theorem x_addFork4 (l : Launch) (hfl : l.stackTraces = false) (E : GE) (a : Nat → Nat) (σ : GS) (k k2 : Nat) (hk : k < gn σ) (hk2 : k2 < gn σ) (w0 : Int32) (h1 : ¬ w0 < 1) (h9 : w0 ≤ nI 9) (h40 : gn σ = 40) : vx_Met l yX0_addFork wsX0_addFork { frames := 7, cells := 1, slots := 6, locals := 111 } (va_Pc [.ref (a 0), .int (nI k), .int (nI k2), .int w0] (gBx E (gW E a σ))) gQFi (gXC "java/lang/IllegalStateException") 1 6 (fun _ => False) := by
  refine w_xmet (cc := cX0_addFork) (maxL := 5) (ret := (some .int)) (by decide) rfl (Nat.le_of_ble_eq_true rfl) ?_
  intro p e s m below meth c ls S hr hlocks hnt hB hl
  obtain ⟨⟨hP, hK⟩, hZ⟩ := hB
  obtain ⟨hx, hb, hml, hown, hts⟩ := id S
  have hts0 := hinX0_addFork
  have hl : lv_has ls 5 [(0, .ref (a 0)), (1, .int (nI k)), (2, .int (nI k2)), (3, .int w0)] := hl
  refine lv_aload_n hx hb dX0_addFork_0 rfl (lv_at hl 0 rfl) ?_
  refine lv_iload_n hx hb dX0_addFork_1 rfl (lv_at hl 1 rfl) ?_
  refine g0v (As := [.int (nI k)]) (rest := []) S (c_requirePlace l E a σ k (by omega) (by omega)) (cwV 1 hts gX0_addFork_X0_requirePlace rfl rfl rfl hdX0_requirePlace ⟨Nat.le_of_ble_eq_true rfl, Nat.le_of_ble_eq_true rfl⟩) hK hP rfl hl.1 rfl (Nat.le_of_ble_eq_true rfl) ⟨Nat.zero_le _, Nat.zero_le _⟩ dX0_addFork_2 ?_
  refine lv_aload_n hx hb dX0_addFork_5 rfl (lv_at hl 0 rfl) ?_
  refine lv_iload_n hx hb dX0_addFork_6 rfl (lv_at hl 2 rfl) ?_
  refine g0v (As := [.int (nI k2)]) (rest := []) S (c_requirePlace l E a σ k2 (by omega) (by omega)) (cwV 1 hts gX0_addFork_X0_requirePlace rfl rfl rfl hdX0_requirePlace ⟨Nat.le_of_ble_eq_true rfl, Nat.le_of_ble_eq_true rfl⟩) hK hP rfl hl.1 rfl (Nat.le_of_ble_eq_true rfl) ⟨Nat.zero_le _, Nat.zero_le _⟩ dX0_addFork_7 ?_
  refine lv_iload_n hx hb dX0_addFork_10 rfl (lv_at hl 3 rfl) ?_
  refine g_sv (As := [.int w0]) (rest := []) S (c_requireWeight l E w0 h1 h9) (va_cwS 1 hts gX0_addFork_X0_requireWeight rfl rfl rfl hdX0_requireWeight.2 ⟨Nat.le_of_ble_eq_true rfl, Nat.le_of_ble_eq_true rfl⟩) hK (fun _ _ h => nomatch h) rfl hl.1 rfl (Nat.le_of_ble_eq_true rfl) ⟨Nat.zero_le _, Nat.zero_le _⟩ dX0_addFork_11 ?_
  refine lv_aload_n hx hb dX0_addFork_14 rfl (lv_at hl 0 rfl) ?_
  exact g0x (As := []) (rest := []) S (x_requireRoom l hfl E a σ h40) (cwV 0 hts gX0_addFork_X0_requireRoom rfl rfl rfl hdX0_requireRoom ⟨Nat.le_of_ble_eq_true rfl, Nat.le_of_ble_eq_true rfl⟩) hK hP hZ rfl hl.1 rfl (Nat.le_of_ble_eq_true rfl) ⟨Nat.le_of_ble_eq_true rfl, Nat.le_of_ble_eq_true rfl⟩ dX0_addFork_15 hnt hlocks
set_option maxHeartbeats 4000000 in
set_option maxRecDepth 100000 in
theorem x_grade (l : Launch) (hfl : l.stackTraces = false) (E : GE) (a : Nat → Nat) (σ : GS) (hn : gn σ ≤ 40) (pp g : Int32) (h : gNE σ pp) : vx_Met l yX0_grade wsX0_grade { frames := 8, cells := 1, slots := 6, locals := 132 } (va_Pc [.ref (a 0), .int pp, .int g] (gBx E (gW E a σ))) gQFi (gXC "java/lang/IndexOutOfBoundsException") 1 6 (fun _ => False) := by
  refine w_xmet (cc := cX0_grade) (maxL := 3) (ret := (some .int)) (by decide) rfl (Nat.le_of_ble_eq_true rfl) ?_
  intro p e s m below meth c ls S hr hlocks hnt hB hl
  obtain ⟨⟨hP, hK⟩, hZ⟩ := hB
  obtain ⟨hx, hb, hml, hown, hts⟩ := id S
  have hts0 := hinX0_grade
  have hl : lv_has ls 3 [(0, .ref (a 0)), (1, .int pp), (2, .int g)] := hl
  refine lv_aload_n hx hb dX0_grade_0 rfl (lv_at hl 0 rfl) ?_
  refine lv_iload_n hx hb dX0_grade_1 rfl (lv_at hl 1 rfl) ?_
  exact g0x (As := [.int pp]) (rest := []) S (x_requireExam l hfl E a σ hn pp h) (cwV 1 hts gX0_grade_X0_requireExam rfl rfl rfl hdX0_requireExam ⟨Nat.le_of_ble_eq_true rfl, Nat.le_of_ble_eq_true rfl⟩) hK hP hZ rfl hl.1 rfl (Nat.le_of_ble_eq_true rfl) ⟨Nat.le_of_ble_eq_true rfl, Nat.le_of_ble_eq_true rfl⟩ dX0_grade_2 hnt hlocks
set_option maxHeartbeats 4000000 in
set_option maxRecDepth 100000 in
theorem x_grade2 (l : Launch) (hfl : l.stackTraces = false) (E : GE) (a : Nat → Nat) (σ : GS) (hn : gn σ ≤ 40) (k : Nat) (hk : k < gn σ) (hE : gEx (ge σ) k = true) (g : Int32) (h : g < nI (glo σ k) ∨ nI (ghi σ k) < g) : vx_Met l yX0_grade wsX0_grade { frames := 8, cells := 1, slots := 6, locals := 132 } (va_Pc [.ref (a 0), .int (nI k), .int g] (gBx E (gW E a σ))) gQFi (gXC "java/lang/IllegalArgumentException") 1 6 (fun _ => False) := by
  refine w_xmet (cc := cX0_grade) (maxL := 3) (ret := (some .int)) (by decide) rfl (Nat.le_of_ble_eq_true rfl) ?_
  intro p e s m below meth c ls S hr hlocks hnt hB hl
  obtain ⟨⟨hP, hK⟩, hZ⟩ := hB
  obtain ⟨hx, hb, hml, hown, hts⟩ := id S
  have hts0 := hinX0_grade
  have hl : lv_has ls 3 [(0, .ref (a 0)), (1, .int (nI k)), (2, .int g)] := hl
  refine lv_aload_n hx hb dX0_grade_0 rfl (lv_at hl 0 rfl) ?_
  refine lv_iload_n hx hb dX0_grade_1 rfl (lv_at hl 1 rfl) ?_
  refine g0v (As := [.int (nI k)]) (rest := []) S (c_requireExam l E a σ k (by omega) (by omega) hE) (cwV 1 hts gX0_grade_X0_requireExam rfl rfl rfl hdX0_requireExam ⟨Nat.le_of_ble_eq_true rfl, Nat.le_of_ble_eq_true rfl⟩) hK hP rfl hl.1 rfl (Nat.le_of_ble_eq_true rfl) ⟨Nat.zero_le _, Nat.zero_le _⟩ dX0_grade_2 ?_
  refine lv_iload_n hx hb dX0_grade_5 rfl (lv_at hl 2 rfl) ?_
  refine lv_aload_n hx hb dX0_grade_6 rfl (lv_at hl 0 rfl) ?_
  refine g_get (σ := σ) hx hb hts hts0 hown hK hP 5 (by decide) (by decide +kernel) rfl rfl dX0_grade_7 ?_
  refine lv_iload_n hx hb dX0_grade_10 rfl (lv_at hl 1 rfl) ?_
  refine g_at S gX0_grade_X0_at hK hP 1 rfl (by decide) (v := nI (glo σ k)) (vp_in_nI (by omega) (by decide)) (by rw [nI_clamp (by omega)]) hl.1 (Nat.le_of_ble_eq_true rfl) ⟨Nat.zero_le _, Nat.zero_le _⟩ ⟨Nat.le_of_ble_eq_true rfl, Nat.le_of_ble_eq_true rfl⟩ dX0_grade_11 ?_
  refine lv_icmp_lt (tgt := 29) hx hb dX0_grade_14 (by decide) (fun c14 => ?_) (fun c14 => ?_)
  · exact g_throw gThA hfl S hZ (by decide +kernel) (by decide +kernel) (fun _ h => List.mem_cons_of_mem _ (List.mem_append_left _ (List.mem_append_left _ (List.mem_append_right _ h)))) (text := "the exam can't have this grade") (by decide +kernel) hl.1 dX0_grade_29 dX0_grade_32 dX0_grade_33 dX0_grade_35 dX0_grade_38 hnt ⟨Nat.le_of_ble_eq_true rfl, Nat.le_of_ble_eq_true rfl, Nat.le_of_ble_eq_true rfl, Nat.le_of_ble_eq_true rfl⟩ hlocks
  · refine lv_iload_n hx hb dX0_grade_17 rfl (lv_at hl 2 rfl) ?_
    refine lv_aload_n hx hb dX0_grade_18 rfl (lv_at hl 0 rfl) ?_
    refine g_get (σ := σ) hx hb hts hts0 hown hK hP 6 (by decide) (by decide +kernel) rfl rfl dX0_grade_19 ?_
    refine lv_iload_n hx hb dX0_grade_22 rfl (lv_at hl 1 rfl) ?_
    refine g_at S gX0_grade_X0_at hK hP 2 rfl (by decide) (v := nI (ghi σ k)) (vp_in_nI (by omega) (by decide)) (by rw [nI_clamp (by omega)]) hl.1 (Nat.le_of_ble_eq_true rfl) ⟨Nat.zero_le _, Nat.zero_le _⟩ ⟨Nat.le_of_ble_eq_true rfl, Nat.le_of_ble_eq_true rfl⟩ dX0_grade_23 ?_
    refine lv_icmp_le (tgt := 39) hx hb dX0_grade_26 (by decide) (fun q => absurd q ((Int32.not_le.mpr (h.resolve_left c14)))) (fun _ => ?_)
    exact g_throw gThA hfl S hZ (by decide +kernel) (by decide +kernel) (fun _ h => List.mem_cons_of_mem _ (List.mem_append_left _ (List.mem_append_left _ (List.mem_append_right _ h)))) (text := "the exam can't have this grade") (by decide +kernel) hl.1 dX0_grade_29 dX0_grade_32 dX0_grade_33 dX0_grade_35 dX0_grade_38 hnt ⟨Nat.le_of_ble_eq_true rfl, Nat.le_of_ble_eq_true rfl, Nat.le_of_ble_eq_true rfl, Nat.le_of_ble_eq_true rfl⟩ hlocks
set_option maxHeartbeats 4000000 in
set_option maxRecDepth 100000 in
theorem x_grade3 (l : Launch) (hfl : l.stackTraces = false) (E : GE) (a : Nat → Nat) (σ : GS) (hn : gn σ ≤ 40) (k : Nat) (hk : k < gn σ) (hE : gEx (ge σ) k = true) (g : Int32) (h1 : ¬ g < nI (glo σ k)) (h2 : g ≤ nI (ghi σ k)) (hG : gHas σ k = true) : vx_Met l yX0_grade wsX0_grade { frames := 8, cells := 1, slots := 6, locals := 132 } (va_Pc [.ref (a 0), .int (nI k), .int g] (gBx E (gW E a σ))) gQFi (gXC "java/lang/IllegalStateException") 1 6 (fun _ => False) := by
  refine w_xmet (cc := cX0_grade) (maxL := 3) (ret := (some .int)) (by decide) rfl (Nat.le_of_ble_eq_true rfl) ?_
  intro p e s m below meth c ls S hr hlocks hnt hB hl
  obtain ⟨⟨hP, hK⟩, hZ⟩ := hB
  obtain ⟨hx, hb, hml, hown, hts⟩ := id S
  have hts0 := hinX0_grade
  have hl : lv_has ls 3 [(0, .ref (a 0)), (1, .int (nI k)), (2, .int g)] := hl
  refine lv_aload_n hx hb dX0_grade_0 rfl (lv_at hl 0 rfl) ?_
  refine lv_iload_n hx hb dX0_grade_1 rfl (lv_at hl 1 rfl) ?_
  refine g0v (As := [.int (nI k)]) (rest := []) S (c_requireExam l E a σ k (by omega) (by omega) hE) (cwV 1 hts gX0_grade_X0_requireExam rfl rfl rfl hdX0_requireExam ⟨Nat.le_of_ble_eq_true rfl, Nat.le_of_ble_eq_true rfl⟩) hK hP rfl hl.1 rfl (Nat.le_of_ble_eq_true rfl) ⟨Nat.zero_le _, Nat.zero_le _⟩ dX0_grade_2 ?_
  refine lv_iload_n hx hb dX0_grade_5 rfl (lv_at hl 2 rfl) ?_
  refine lv_aload_n hx hb dX0_grade_6 rfl (lv_at hl 0 rfl) ?_
  refine g_get (σ := σ) hx hb hts hts0 hown hK hP 5 (by decide) (by decide +kernel) rfl rfl dX0_grade_7 ?_
  refine lv_iload_n hx hb dX0_grade_10 rfl (lv_at hl 1 rfl) ?_
  refine g_at S gX0_grade_X0_at hK hP 1 rfl (by decide) (v := nI (glo σ k)) (vp_in_nI (by omega) (by decide)) (by rw [nI_clamp (by omega)]) hl.1 (Nat.le_of_ble_eq_true rfl) ⟨Nat.zero_le _, Nat.zero_le _⟩ ⟨Nat.le_of_ble_eq_true rfl, Nat.le_of_ble_eq_true rfl⟩ dX0_grade_11 ?_
  refine lv_icmp_lt (tgt := 29) hx hb dX0_grade_14 (by decide) (fun q => absurd q h1) (fun _ => ?_)
  refine lv_iload_n hx hb dX0_grade_17 rfl (lv_at hl 2 rfl) ?_
  refine lv_aload_n hx hb dX0_grade_18 rfl (lv_at hl 0 rfl) ?_
  refine g_get (σ := σ) hx hb hts hts0 hown hK hP 6 (by decide) (by decide +kernel) rfl rfl dX0_grade_19 ?_
  refine lv_iload_n hx hb dX0_grade_22 rfl (lv_at hl 1 rfl) ?_
  refine g_at S gX0_grade_X0_at hK hP 2 rfl (by decide) (v := nI (ghi σ k)) (vp_in_nI (by omega) (by decide)) (by rw [nI_clamp (by omega)]) hl.1 (Nat.le_of_ble_eq_true rfl) ⟨Nat.zero_le _, Nat.zero_le _⟩ ⟨Nat.le_of_ble_eq_true rfl, Nat.le_of_ble_eq_true rfl⟩ dX0_grade_23 ?_
  refine lv_icmp_le (tgt := 39) hx hb dX0_grade_26 (by decide) (fun _ => ?_) (fun q => absurd h2 q)
  refine lv_aload_n hx hb dX0_grade_39 rfl (lv_at hl 0 rfl) ?_
  refine lv_iload_n hx hb dX0_grade_40 rfl (lv_at hl 1 rfl) ?_
  refine g0i (As := [.int (nI k)]) (rest := []) S (c_hasGrade l E a σ k (by omega)) (cwV 1 hts gX0_grade_X0_hasGrade rfl rfl rfl hdX0_hasGrade ⟨Nat.le_of_ble_eq_true rfl, Nat.le_of_ble_eq_true rfl⟩) hK hP rfl hl.1 rfl (Nat.le_of_ble_eq_true rfl) ⟨Nat.zero_le _, Nat.zero_le _⟩ dX0_grade_41 ?_
  refine lv_if_eq (tgt := 57) hx hb dX0_grade_44 (by decide) (fun q => absurd q ((b2i_ne0.mpr hG))) (fun _ => ?_)
  exact g_throw gThS hfl S hZ (by decide +kernel) (by decide +kernel) (fun _ h => List.mem_cons_of_mem _ (List.mem_append_left _ (List.mem_append_right _ h))) (text := "the exam is graded") (by decide +kernel) hl.1 dX0_grade_47 dX0_grade_50 dX0_grade_51 dX0_grade_53 dX0_grade_56 hnt ⟨Nat.le_of_ble_eq_true rfl, Nat.le_of_ble_eq_true rfl, Nat.le_of_ble_eq_true rfl, Nat.le_of_ble_eq_true rfl⟩ hlocks
set_option maxHeartbeats 4000000 in
set_option maxRecDepth 100000 in
theorem x_weigh (l : Launch) (hfl : l.stackTraces = false) (E : GE) (a : Nat → Nat) (σ : GS) (hn : gn σ ≤ 40) (pp w0 : Int32) (h : gNF σ pp) : vx_Met l yX0_weigh wsX0_weigh { frames := 8, cells := 1, slots := 6, locals := 132 } (va_Pc [.ref (a 0), .int pp, .int w0] (gBx E (gW E a σ))) gQFi (gXC "java/lang/IndexOutOfBoundsException") 1 6 (fun _ => False) := by
  refine w_xmet (cc := cX0_weigh) (maxL := 4) (ret := (some .int)) (by decide) rfl (Nat.le_of_ble_eq_true rfl) ?_
  intro p e s m below meth c ls S hr hlocks hnt hB hl
  obtain ⟨⟨hP, hK⟩, hZ⟩ := hB
  obtain ⟨hx, hb, hml, hown, hts⟩ := id S
  have hts0 := hinX0_weigh
  have hl : lv_has ls 4 [(0, .ref (a 0)), (1, .int pp), (2, .int w0)] := hl
  refine lv_aload_n hx hb dX0_weigh_0 rfl (lv_at hl 0 rfl) ?_
  refine lv_iload_n hx hb dX0_weigh_1 rfl (lv_at hl 1 rfl) ?_
  exact g0x (As := [.int pp]) (rest := []) S (x_requireFork l hfl E a σ hn pp h) (cwV 1 hts gX0_weigh_X0_requireFork rfl rfl rfl hdX0_requireFork ⟨Nat.le_of_ble_eq_true rfl, Nat.le_of_ble_eq_true rfl⟩) hK hP hZ rfl hl.1 rfl (Nat.le_of_ble_eq_true rfl) ⟨Nat.le_of_ble_eq_true rfl, Nat.le_of_ble_eq_true rfl⟩ dX0_weigh_2 hnt hlocks
set_option maxHeartbeats 4000000 in
set_option maxRecDepth 100000 in
theorem x_weigh2 (l : Launch) (hfl : l.stackTraces = false) (E : GE) (a : Nat → Nat) (σ : GS) (hn : gn σ ≤ 40) (k : Nat) (hk : k < gn σ) (hE : gEx (ge σ) k = false) (w0 : Int32) (h : w0 < 1 ∨ nI 9 < w0) : vx_Met l yX0_weigh wsX0_weigh { frames := 8, cells := 1, slots := 6, locals := 132 } (va_Pc [.ref (a 0), .int (nI k), .int w0] (gBx E (gW E a σ))) gQFi (gXC "java/lang/IllegalArgumentException") 1 6 (fun _ => False) := by
  refine w_xmet (cc := cX0_weigh) (maxL := 4) (ret := (some .int)) (by decide) rfl (Nat.le_of_ble_eq_true rfl) ?_
  intro p e s m below meth c ls S hr hlocks hnt hB hl
  obtain ⟨⟨hP, hK⟩, hZ⟩ := hB
  obtain ⟨hx, hb, hml, hown, hts⟩ := id S
  have hts0 := hinX0_weigh
  have hl : lv_has ls 4 [(0, .ref (a 0)), (1, .int (nI k)), (2, .int w0)] := hl
  refine lv_aload_n hx hb dX0_weigh_0 rfl (lv_at hl 0 rfl) ?_
  refine lv_iload_n hx hb dX0_weigh_1 rfl (lv_at hl 1 rfl) ?_
  refine g0v (As := [.int (nI k)]) (rest := []) S (c_requireFork l E a σ k (by omega) (by omega) hE) (cwV 1 hts gX0_weigh_X0_requireFork rfl rfl rfl hdX0_requireFork ⟨Nat.le_of_ble_eq_true rfl, Nat.le_of_ble_eq_true rfl⟩) hK hP rfl hl.1 rfl (Nat.le_of_ble_eq_true rfl) ⟨Nat.zero_le _, Nat.zero_le _⟩ dX0_weigh_2 ?_
  refine lv_iload_n hx hb dX0_weigh_5 rfl (lv_at hl 2 rfl) ?_
  exact g0xs (As := [.int w0]) (rest := []) (ws := []) S (x_requireWeight l hfl E a σ w0 h) (va_cwS 1 hts gX0_weigh_X0_requireWeight rfl rfl rfl hdX0_requireWeight.2 ⟨Nat.le_of_ble_eq_true rfl, Nat.le_of_ble_eq_true rfl⟩) hK (fun _ _ h => nomatch h) hZ rfl hl.1 rfl (Nat.le_of_ble_eq_true rfl) ⟨Nat.le_of_ble_eq_true rfl, Nat.le_of_ble_eq_true rfl⟩ dX0_weigh_6 hnt hlocks
set_option maxHeartbeats 4000000 in
set_option maxRecDepth 100000 in
theorem x_enroll (l : Launch) (hfl : l.stackTraces = false) (E : GE) (a : Nat → Nat) (σ : GS) (pp : Int32) (h : gPb σ pp) : vx_Met l yX0_enroll wsX0_enroll { frames := 7, cells := 1, slots := 6, locals := 111 } (va_Pc [.ref (a 0), .int pp] (gBx E (gW E a σ))) gQFi (gXC "java/lang/IndexOutOfBoundsException") 1 6 (fun _ => False) := by
  refine w_xmet (cc := cX0_enroll) (maxL := 3) (ret := (some .int)) (by decide) rfl (Nat.le_of_ble_eq_true rfl) ?_
  intro p e s m below meth c ls S hr hlocks hnt hB hl
  obtain ⟨⟨hP, hK⟩, hZ⟩ := hB
  obtain ⟨hx, hb, hml, hown, hts⟩ := id S
  have hts0 := hinX0_enroll
  have hl : lv_has ls 3 [(0, .ref (a 0)), (1, .int pp)] := hl
  refine lv_aload_n hx hb dX0_enroll_0 rfl (lv_at hl 0 rfl) ?_
  refine lv_iload_n hx hb dX0_enroll_1 rfl (lv_at hl 1 rfl) ?_
  exact g0x (As := [.int pp]) (rest := []) S (x_requirePlace l hfl E a σ pp h) (cwV 1 hts gX0_enroll_X0_requirePlace rfl rfl rfl hdX0_requirePlace ⟨Nat.le_of_ble_eq_true rfl, Nat.le_of_ble_eq_true rfl⟩) hK hP hZ rfl hl.1 rfl (Nat.le_of_ble_eq_true rfl) ⟨Nat.le_of_ble_eq_true rfl, Nat.le_of_ble_eq_true rfl⟩ dX0_enroll_2 hnt hlocks
set_option maxHeartbeats 4000000 in
set_option maxRecDepth 100000 in
theorem x_enroll2 (l : Launch) (hfl : l.stackTraces = false) (E : GE) (a : Nat → Nat) (σ : GS) (hn : gn σ ≤ 40) (k : Nat) (hk : k < gn σ) (h8 : gk σ = 8) : vx_Met l yX0_enroll wsX0_enroll { frames := 7, cells := 1, slots := 6, locals := 111 } (va_Pc [.ref (a 0), .int (nI k)] (gBx E (gW E a σ))) gQFi (gXC "java/lang/IllegalStateException") 1 6 (fun _ => False) := by
  refine w_xmet (cc := cX0_enroll) (maxL := 3) (ret := (some .int)) (by decide) rfl (Nat.le_of_ble_eq_true rfl) ?_
  intro p e s m below meth c ls S hr hlocks hnt hB hl
  obtain ⟨⟨hP, hK⟩, hZ⟩ := hB
  obtain ⟨hx, hb, hml, hown, hts⟩ := id S
  have hts0 := hinX0_enroll
  have hl : lv_has ls 3 [(0, .ref (a 0)), (1, .int (nI k))] := hl
  refine lv_aload_n hx hb dX0_enroll_0 rfl (lv_at hl 0 rfl) ?_
  refine lv_iload_n hx hb dX0_enroll_1 rfl (lv_at hl 1 rfl) ?_
  refine g0v (As := [.int (nI k)]) (rest := []) S (c_requirePlace l E a σ k (by omega) (by omega)) (cwV 1 hts gX0_enroll_X0_requirePlace rfl rfl rfl hdX0_requirePlace ⟨Nat.le_of_ble_eq_true rfl, Nat.le_of_ble_eq_true rfl⟩) hK hP rfl hl.1 rfl (Nat.le_of_ble_eq_true rfl) ⟨Nat.zero_le _, Nat.zero_le _⟩ dX0_enroll_2 ?_
  refine lv_aload_n hx hb dX0_enroll_5 rfl (lv_at hl 0 rfl) ?_
  refine g_get (σ := σ) hx hb hts hts0 hown hK hP 1 (by decide) (by decide +kernel) rfl rfl dX0_enroll_6 ?_
  refine lv_bipush (v := nI 8) hx hb dX0_enroll_9 (by decide) ?_
  refine lv_icmp_lt (tgt := 24) hx hb dX0_enroll_11 (by decide) (fun q => absurd q ((nI_nlt (by omega) (by omega)))) (fun _ => ?_)
  exact g_throw gThS hfl S hZ (by decide +kernel) (by decide +kernel) (fun _ h => List.mem_cons_of_mem _ (List.mem_append_left _ (List.mem_append_right _ h))) (text := "there are 8 students") (by decide +kernel) hl.1 dX0_enroll_14 dX0_enroll_17 dX0_enroll_18 dX0_enroll_20 dX0_enroll_23 hnt ⟨Nat.le_of_ble_eq_true rfl, Nat.le_of_ble_eq_true rfl, Nat.le_of_ble_eq_true rfl, Nat.le_of_ble_eq_true rfl⟩ hlocks
set_option maxHeartbeats 4000000 in
set_option maxRecDepth 100000 in
theorem x_turn (l : Launch) (hfl : l.stackTraces = false) (E : GE) (a : Nat → Nat) (σ : GS) (pp b : Int32) (h : gSb σ pp) : vx_Met l yX0_turn wsX0_turn { frames := 7, cells := 1, slots := 6, locals := 111 } (va_Pc [.ref (a 0), .int pp, .int b] (gBx E (gW E a σ))) gQFi (gXC "java/lang/IndexOutOfBoundsException") 1 6 (fun _ => False) := by
  refine w_xmet (cc := cX0_turn) (maxL := 3) (ret := (some .int)) (by decide) rfl (Nat.le_of_ble_eq_true rfl) ?_
  intro p e s m below meth c ls S hr hlocks hnt hB hl
  obtain ⟨⟨hP, hK⟩, hZ⟩ := hB
  obtain ⟨hx, hb, hml, hown, hts⟩ := id S
  have hts0 := hinX0_turn
  have hl : lv_has ls 3 [(0, .ref (a 0)), (1, .int pp), (2, .int b)] := hl
  refine lv_aload_n hx hb dX0_turn_0 rfl (lv_at hl 0 rfl) ?_
  refine lv_iload_n hx hb dX0_turn_1 rfl (lv_at hl 1 rfl) ?_
  exact g0x (As := [.int pp]) (rest := []) S (x_requireStudent l hfl E a σ pp h) (cwV 1 hts gX0_turn_X0_requireStudent rfl rfl rfl hdX0_requireStudent ⟨Nat.le_of_ble_eq_true rfl, Nat.le_of_ble_eq_true rfl⟩) hK hP hZ rfl hl.1 rfl (Nat.le_of_ble_eq_true rfl) ⟨Nat.le_of_ble_eq_true rfl, Nat.le_of_ble_eq_true rfl⟩ dX0_turn_2 hnt hlocks
set_option maxHeartbeats 4000000 in
set_option maxRecDepth 100000 in
theorem x_turn2 (l : Launch) (hfl : l.stackTraces = false) (E : GE) (a : Nat → Nat) (σ : GS) (hO : GOK σ) (k : Nat) (hk : k < gk σ) (b : Int32) (hE : gEx (ge σ) (gst σ k) = true) : vx_Met l yX0_turn wsX0_turn { frames := 7, cells := 1, slots := 6, locals := 111 } (va_Pc [.ref (a 0), .int (nI k), .int b] (gBx E (gW E a σ))) gQFi (gXC "java/lang/IllegalStateException") 1 6 (fun _ => False) := by
  refine w_xmet (cc := cX0_turn) (maxL := 3) (ret := (some .int)) (by decide) rfl (Nat.le_of_ble_eq_true rfl) ?_
  intro p e s m below meth c ls S hr hlocks hnt hB hl
  obtain ⟨⟨hP, hK⟩, hZ⟩ := hB
  obtain ⟨hx, hb, hml, hown, hts⟩ := id S
  have tk := hO.2.1
  have t1 := hO.2.2.2.2.1 k
  have hts0 := hinX0_turn
  have hl : lv_has ls 3 [(0, .ref (a 0)), (1, .int (nI k)), (2, .int b)] := hl
  refine lv_aload_n hx hb dX0_turn_0 rfl (lv_at hl 0 rfl) ?_
  refine lv_iload_n hx hb dX0_turn_1 rfl (lv_at hl 1 rfl) ?_
  refine g0v (As := [.int (nI k)]) (rest := []) S (c_requireStudent l E a σ k (by omega) (by omega)) (cwV 1 hts gX0_turn_X0_requireStudent rfl rfl rfl hdX0_requireStudent ⟨Nat.le_of_ble_eq_true rfl, Nat.le_of_ble_eq_true rfl⟩) hK hP rfl hl.1 rfl (Nat.le_of_ble_eq_true rfl) ⟨Nat.zero_le _, Nat.zero_le _⟩ dX0_turn_2 ?_
  refine lv_aload_n hx hb dX0_turn_5 rfl (lv_at hl 0 rfl) ?_
  refine lv_aload_n hx hb dX0_turn_6 rfl (lv_at hl 0 rfl) ?_
  refine g_get (σ := σ) hx hb hts hts0 hown hK hP 15 (by decide) (by decide +kernel) rfl rfl dX0_turn_7 ?_
  refine lv_iload_n hx hb dX0_turn_10 rfl (lv_at hl 1 rfl) ?_
  refine g_at S gX0_turn_X0_at hK hP 11 rfl (by decide) (v := nI (gst σ k)) (vp_in_nI (by omega) (by decide)) (by rw [nI_clamp (by omega)]) hl.1 (Nat.le_of_ble_eq_true rfl) ⟨Nat.zero_le _, Nat.zero_le _⟩ ⟨Nat.le_of_ble_eq_true rfl, Nat.le_of_ble_eq_true rfl⟩ dX0_turn_11 ?_
  refine g0i (As := [.int (nI (gst σ k))]) (rest := []) S (c_holdsExam l E a σ (gst σ k) (by omega)) (cwV 1 hts gX0_turn_X0_holdsExam rfl rfl rfl hdX0_holdsExam ⟨Nat.le_of_ble_eq_true rfl, Nat.le_of_ble_eq_true rfl⟩) hK hP rfl hl.1 rfl (Nat.le_of_ble_eq_true rfl) ⟨Nat.zero_le _, Nat.zero_le _⟩ dX0_turn_14 ?_
  refine lv_if_eq (tgt := 30) hx hb dX0_turn_17 (by decide) (fun q => absurd q ((b2i_ne0.mpr hE))) (fun _ => ?_)
  exact g_throw gThS hfl S hZ (by decide +kernel) (by decide +kernel) (fun _ h => List.mem_cons_of_mem _ (List.mem_append_left _ (List.mem_append_right _ h))) (text := "the student stands at an exam") (by decide +kernel) hl.1 dX0_turn_20 dX0_turn_23 dX0_turn_24 dX0_turn_26 dX0_turn_29 hnt ⟨Nat.le_of_ble_eq_true rfl, Nat.le_of_ble_eq_true rfl, Nat.le_of_ble_eq_true rfl, Nat.le_of_ble_eq_true rfl⟩ hlocks
set_option maxHeartbeats 4000000 in
set_option maxRecDepth 100000 in
theorem x_goBack (l : Launch) (hfl : l.stackTraces = false) (E : GE) (a : Nat → Nat) (σ : GS) (pp : Int32) (h : gSb σ pp) : vx_Met l yX0_goBack wsX0_goBack { frames := 7, cells := 1, slots := 6, locals := 111 } (va_Pc [.ref (a 0), .int pp] (gBx E (gW E a σ))) gQFi (gXC "java/lang/IndexOutOfBoundsException") 1 6 (fun _ => False) := by
  refine w_xmet (cc := cX0_goBack) (maxL := 4) (ret := (some .int)) (by decide) rfl (Nat.le_of_ble_eq_true rfl) ?_
  intro p e s m below meth c ls S hr hlocks hnt hB hl
  obtain ⟨⟨hP, hK⟩, hZ⟩ := hB
  obtain ⟨hx, hb, hml, hown, hts⟩ := id S
  have hts0 := hinX0_goBack
  have hl : lv_has ls 4 [(0, .ref (a 0)), (1, .int pp)] := hl
  refine lv_aload_n hx hb dX0_goBack_0 rfl (lv_at hl 0 rfl) ?_
  refine lv_iload_n hx hb dX0_goBack_1 rfl (lv_at hl 1 rfl) ?_
  exact g0x (As := [.int pp]) (rest := []) S (x_requireStudent l hfl E a σ pp h) (cwV 1 hts gX0_goBack_X0_requireStudent rfl rfl rfl hdX0_requireStudent ⟨Nat.le_of_ble_eq_true rfl, Nat.le_of_ble_eq_true rfl⟩) hK hP hZ rfl hl.1 rfl (Nat.le_of_ble_eq_true rfl) ⟨Nat.le_of_ble_eq_true rfl, Nat.le_of_ble_eq_true rfl⟩ dX0_goBack_2 hnt hlocks
set_option maxHeartbeats 4000000 in
set_option maxRecDepth 100000 in
theorem x_goBack2 (l : Launch) (hfl : l.stackTraces = false) (E : GE) (a : Nat → Nat) (σ : GS) (hn : gk σ ≤ 8) (k : Nat) (hk : k < gk σ) (hc : gpc σ k = 0) : vx_Met l yX0_goBack wsX0_goBack { frames := 7, cells := 1, slots := 6, locals := 111 } (va_Pc [.ref (a 0), .int (nI k)] (gBx E (gW E a σ))) gQFi (gXC "java/lang/IllegalStateException") 1 6 (fun _ => False) := by
  refine w_xmet (cc := cX0_goBack) (maxL := 4) (ret := (some .int)) (by decide) rfl (Nat.le_of_ble_eq_true rfl) ?_
  intro p e s m below meth c ls S hr hlocks hnt hB hl
  obtain ⟨⟨hP, hK⟩, hZ⟩ := hB
  obtain ⟨hx, hb, hml, hown, hts⟩ := id S
  have hts0 := hinX0_goBack
  have hl : lv_has ls 4 [(0, .ref (a 0)), (1, .int (nI k))] := hl
  refine lv_aload_n hx hb dX0_goBack_0 rfl (lv_at hl 0 rfl) ?_
  refine lv_iload_n hx hb dX0_goBack_1 rfl (lv_at hl 1 rfl) ?_
  refine g0v (As := [.int (nI k)]) (rest := []) S (c_requireStudent l E a σ k (by omega) (by omega)) (cwV 1 hts gX0_goBack_X0_requireStudent rfl rfl rfl hdX0_requireStudent ⟨Nat.le_of_ble_eq_true rfl, Nat.le_of_ble_eq_true rfl⟩) hK hP rfl hl.1 rfl (Nat.le_of_ble_eq_true rfl) ⟨Nat.zero_le _, Nat.zero_le _⟩ dX0_goBack_2 ?_
  refine lv_aload_n hx hb dX0_goBack_5 rfl (lv_at hl 0 rfl) ?_
  refine g_get (σ := σ) hx hb hts hts0 hown hK hP 16 (by decide) (by decide +kernel) rfl rfl dX0_goBack_6 ?_
  refine lv_iload_n hx hb dX0_goBack_9 rfl (lv_at hl 1 rfl) ?_
  refine g_at S gX0_goBack_X0_at hK hP 12 rfl (by decide) (v := nI (gpc σ k)) (vp_in_nI (by omega) (by decide)) (by rw [nI_clamp (by omega)]) hl.1 (Nat.le_of_ble_eq_true rfl) ⟨Nat.zero_le _, Nat.zero_le _⟩ ⟨Nat.le_of_ble_eq_true rfl, Nat.le_of_ble_eq_true rfl⟩ dX0_goBack_10 ?_
  refine lv_iconst (v := 1) hx hb dX0_goBack_13 (by decide) ?_
  refine lv_isub hx hb dX0_goBack_14 ?_
  rw [hc, show (nI 0 - 1 : Int32) = -1 by decide]
  refine lv_istore_n (lv' := [(2, .int (-1)), (0, .ref (a 0)), (1, .int (nI k))]) hx hb dX0_goBack_15 rfl hl (by decide) rfl (fun ls hl => ?_)
  refine lv_iload_n hx hb dX0_goBack_16 rfl (lv_at hl 0 rfl) ?_
  refine lv_if_ge (tgt := 30) hx hb dX0_goBack_17 (by decide) (fun q => absurd q ((by decide : ¬ (0 : Int32) ≤ -1))) (fun _ => ?_)
  exact g_throw gThS hfl S hZ (by decide +kernel) (by decide +kernel) (fun _ h => List.mem_cons_of_mem _ (List.mem_append_left _ (List.mem_append_right _ h))) (text := "the student passed no fork") (by decide +kernel) hl.1 dX0_goBack_20 dX0_goBack_23 dX0_goBack_24 dX0_goBack_26 dX0_goBack_29 hnt ⟨Nat.le_of_ble_eq_true rfl, Nat.le_of_ble_eq_true rfl, Nat.le_of_ble_eq_true rfl, Nat.le_of_ble_eq_true rfl⟩ hlocks
