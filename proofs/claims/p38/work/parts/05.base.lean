/-! the words for a state of the system, and rows for calls that change nothing -/
abbrev vwCl : List vw_C := [(RX0, TX0, 18), (RX1, TX1, 2)]
/-- truth as the machine has it -/
def b2i (b : Bool) : Int32 := if b then 1 else 0
theorem b2i_eq0 {b : Bool} : b2i b = 0 ↔ b = false := by cases b <;> decide
theorem b2i_ne0 {b : Bool} : ¬ b2i b = 0 ↔ b = true := by cases b <;> decide
theorem b2i_nar (b : Bool) : narrow .boolean (.int (b2i b)) = .int (b2i b) := by cases b <;> rfl
/-- of ExamGarden: places, students, graded, their sum, the bits of exams; rows of numbers: lefts, rights, standing, passedCounts, passedForks, lowest, highest; int rows: weights, grades, sure, hopes, hindsights; the row of reached bits -/
abbrev GS : Type := Nat × Nat × Int32 × Int32 × Int64 × (Nat → Nat) × (Nat → Nat) × (Nat → Nat) × (Nat → Nat) × (Nat → Nat) × (Nat → Nat) × (Nat → Nat) × (Nat → Int32) × (Nat → Int32) × (Nat → Int32) × (Nat → Int32) × (Nat → Int32) × (Nat → Int64)
abbrev gn (σ : GS) : Nat := σ.1
abbrev gk (σ : GS) : Nat := σ.2.1
abbrev gc (σ : GS) : Int32 := σ.2.2.1
abbrev gs (σ : GS) : Int32 := σ.2.2.2.1
abbrev ge (σ : GS) : Int64 := σ.2.2.2.2.1
abbrev glf (σ : GS) : Nat → Nat := σ.2.2.2.2.2.1
abbrev grt (σ : GS) : Nat → Nat := σ.2.2.2.2.2.2.1
abbrev gst (σ : GS) : Nat → Nat := σ.2.2.2.2.2.2.2.1
abbrev gpc (σ : GS) : Nat → Nat := σ.2.2.2.2.2.2.2.2.1
abbrev gpf (σ : GS) : Nat → Nat := σ.2.2.2.2.2.2.2.2.2.1
abbrev glo (σ : GS) : Nat → Nat := σ.2.2.2.2.2.2.2.2.2.2.1
abbrev ghi (σ : GS) : Nat → Nat := σ.2.2.2.2.2.2.2.2.2.2.2.1
abbrev gwt (σ : GS) : Nat → Int32 := σ.2.2.2.2.2.2.2.2.2.2.2.2.1
abbrev ggr (σ : GS) : Nat → Int32 := σ.2.2.2.2.2.2.2.2.2.2.2.2.2.1
abbrev gsu (σ : GS) : Nat → Int32 := σ.2.2.2.2.2.2.2.2.2.2.2.2.2.2.1
abbrev gho (σ : GS) : Nat → Int32 := σ.2.2.2.2.2.2.2.2.2.2.2.2.2.2.2.1
abbrev ghs (σ : GS) : Nat → Int32 := σ.2.2.2.2.2.2.2.2.2.2.2.2.2.2.2.2.1
abbrev grb (σ : GS) : Nat → Int64 := σ.2.2.2.2.2.2.2.2.2.2.2.2.2.2.2.2.2
/-- of the reference: thrown, places, students, forks, one, other, third, reach, sure, hopes, stands, passed, ways -/
abbrev MS : Type := Int32 × Nat × Nat × (Nat → Bool) × (Nat → Nat) × (Nat → Nat) × (Nat → Int32) × (Nat → Int64) × (Nat → Int32) × (Nat → Int32) × (Nat → Nat) × (Nat → Nat) × (Nat → Nat)
abbrev mt (σ : MS) : Int32 := σ.1
abbrev mn (σ : MS) : Nat := σ.2.1
abbrev mk (σ : MS) : Nat := σ.2.2.1
abbrev mf (σ : MS) : Nat → Bool := σ.2.2.2.1
abbrev mo (σ : MS) : Nat → Nat := σ.2.2.2.2.1
abbrev mh (σ : MS) : Nat → Nat := σ.2.2.2.2.2.1
abbrev md (σ : MS) : Nat → Int32 := σ.2.2.2.2.2.2.1
abbrev mr (σ : MS) : Nat → Int64 := σ.2.2.2.2.2.2.2.1
abbrev mu (σ : MS) : Nat → Int32 := σ.2.2.2.2.2.2.2.2.1
abbrev mv (σ : MS) : Nat → Int32 := σ.2.2.2.2.2.2.2.2.2.1
abbrev ms (σ : MS) : Nat → Nat := σ.2.2.2.2.2.2.2.2.2.2.1
abbrev mp (σ : MS) : Nat → Nat := σ.2.2.2.2.2.2.2.2.2.2.2.1
abbrev mw (σ : MS) : Nat → Nat := σ.2.2.2.2.2.2.2.2.2.2.2.2
/-- class ids: of the objects' classes and slots, of int rows, long rows, boolean rows -/
abbrev GE : Type := va_G × ClassId × ClassId × ClassId × ClassId
abbrev gTy (E : GE) : List (ClassId × FieldType) := [(E.2.1, .int), (E.2.2.1, .long), (E.2.2.2.1, .boolean), (E.2.2.2.2, .array .int)]
abbrev gK (E : GE) (U : State) : Prop := va_K E.1 vwCl (gTy E) U
abbrev gP (E : GE) (ws : va_W) (H : Heap) : Prop := va_P E.1 vwCl ws H
abbrev gI (E : GE) (n : Nat) (f : Nat → Int32) : va_E := .inl (E.2.1, n, .inl f)
abbrev gJ (E : GE) (n : Nat) (f : Nat → Int64) : va_E := .inl (E.2.2.1, n, .inr (.inl f))
abbrev gZ (E : GE) (n : Nat) (f : Nat → Int32) : va_E := .inl (E.2.2.2.1, n, .inl f)
abbrev gM (E : GE) (n : Nat) (f : Nat → Nat) : va_E := .inl (E.2.1, n, .inl (fun j => nI (f j)))
abbrev gZb (E : GE) (n : Nat) (f : Nat → Bool) : va_E := .inl (E.2.2.2.1, n, .inl (fun j => b2i (f j)))
abbrev gF (a : Nat → Nat) (σ : GS) : List Value := [.int (nI (gn σ)), .int (nI (gk σ)), .int (gc σ), .int (gs σ), .long (ge σ), .ref (a 1), .ref (a 2), .ref (a 3), .ref (a 4), .ref (a 5), .ref (a 6), .ref (a 7), .ref (a 8), .ref (a 9), .ref (a 10), .ref (a 11), .ref (a 12), .ref (a 13)]
/-- the cells of an ExamGarden at a 0, its rows at a 1 .. a 13 -/
abbrev gW (E : GE) (a : Nat → Nat) (σ : GS) : va_W := [(a 0, .inr (0, gF a σ)), (a 1, gM E 40 (glo σ)), (a 2, gM E 40 (ghi σ)), (a 3, gM E 40 (glf σ)), (a 4, gM E 40 (grt σ)), (a 5, gI E 40 (gwt σ)), (a 6, gI E 40 (ggr σ)), (a 7, gI E 40 (gsu σ)), (a 8, gI E 40 (gho σ)), (a 9, gI E 40 (ghs σ)), (a 10, gJ E 40 (grb σ)), (a 11, gM E 8 (gst σ)), (a 12, gM E 8 (gpc σ)), (a 13, gM E 320 (gpf σ))]
/-- a world held, and the tables known -/
def gB (E : GE) (ws : va_W) (U : State) : Prop := gP E ws U.heap ∧ gK E U
theorem gB_blind {E : GE} {ws : va_W} {av : List Value} : FrameBlind (va_Pc av (gB E ws)) := fun a U g mk q => by
  obtain ⟨q0, qP, qK⟩ := q
  exact ⟨q0, qP, va_K.moved (u := U) (U := U.calling g mk a) (Vm.Alike.refl U.vm) qK⟩
theorem gB_preS {E : GE} {ws : va_W} {s : State} {H : Heap} (hP : gP E ws H) (hK : gK E s) (As : List Value) : PreS s H (va_Pc As (gB E ws)) As :=
  ⟨gB_blind, fun U hU hW => ⟨rfl, by rw [hU]; exact hP, va_K.moved hW.alike hK⟩⟩
theorem gB_preV {E : GE} {ws : va_W} {s : State} {H : Heap} {b ci q0 : Nat} {q : vw_C} {fs : List Value} (hP : gP E ws H) (hK : gK E s) (hc : vwCl[ci]? = some q) (he : ws[q0]? = some (b, .inr (ci, fs))) (As : List Value) : PreV s H q.1 b (va_Pc (.ref b :: As) (gB E ws)) As :=
  ⟨gB_blind, va_recv hK hP hc he, fun U hU hW => ⟨rfl, by rw [hU]; exact hP, va_K.moved hW.alike hK⟩⟩
/-- a method by its body -/
theorem w_met {l : Launch} {y : MethodName} {ws ws' : List Cond} {rm : Room} {av : List Value} {B : State → Prop} {Qc : Array Value → State → Outcome → State → Prop} {mc ms : Nat} {free : Addr → Prop} {cc : ByteArray} {maxL : Nat} {ret : Option FieldType}
    (hy : plainName y.cls = true) (hw : ws = Cond.code y cc maxL ret :: ws') (hn : (lg_sl av).length ≤ maxL)
    (body : ∀ (p : Program) (e : Env) (s : State) (m : MethodId) (below : List Frame) (meth : Method) (c : Code) (ls : Array Slot), CallFix p m c cc maxL s av.toArray ws y.cls → meth.sig.returnType = ret → meth.locks = false → meth.name = y.name → B s → lv_has ls maxL (lv_args 0 av) →
      W p l e (headSpec ws rm).room s m av.toArray below meth c s.heap [] 0 0 (MQ below Qc av.toArray s mc ms free) (F0 m 0 ls [])) : Met l y ws rm (va_Pc av B) Qc mc ms free := by
  refine Met.ofW (cc := cc) (maxL := maxL) (ret := ret) hy hw ?_
  intro p e s m args below meth c s₁ B0 hml hv
  obtain ⟨rfl, hB⟩ := hv
  rw [lg_entry_eq]
  exact body p e s m below meth c _ ⟨B0.exec, B0.bytes, hml, findClass_of_methodNamed B0.named, atoms_spec (ws := ws) B0.pre⟩ B0.returns B0.notSynchronized (name_of_methodNamed B0.named B0.method).1 hB (lv_entry av hn)
section GC
variable {p : Program} {l : Launch} {e : Env} {R : Room} {s : State} {m : MethodId} {args : Array Value} {below : List Frame} {meth : Method} {c : Code} {H : Heap} {locs : List Loc} {cells slots : Nat} {Q : State → Prop}
variable {cc bytes : ByteArray} {pc nL maxL n index : Nat} {ls : Array Slot} {rest st0 : List Value} {E : GE} {ws wc : va_W} {Ts wl : List Cond} {own C : String} {y : MethodName} {ret : Option FieldType} {rm : Room} {b ci q0 : Nat} {fs : List Value} {q : vw_C} {As : List Value}
/-- a call on an object that changes nothing and answers an int -/
theorem g_vi {v : Int32} (S : CallFix p m c cc nL s args Ts own) (hM : Met l y wl rm (va_Pc (.ref b :: As) (gB E wc)) (vp_Si (fun r => r = v)) 0 0 (fun _ => False)) (cw : CallW R s args own q.1 index y bytes maxL ret wl rm 0 0 n) (hK : gK E s) (hP : gP E wc H) (hc : vwCl[ci]? = some q) (he : wc[q0]? = some (b, .inr (ci, fs)))
    (hn : As.length = n) (hsize : ls.size = nL) (hstack : st0 = As.reverse ++ .ref b :: rest) (hW : (rest.map fun v => v.category).sum ≤ 8) (hf : cells ≤ R.cells ∧ slots ≤ R.slots) (hdg : decode cc pc = .ok (.invokevirtual index, 3))
    (kk : W p l e R s m args below meth c H locs cells slots Q (F0 m (pc + 3) ls (.int v :: rest))) : W p l e R s m args below meth c H locs cells slots Q (F0 m pc ls st0) :=
  vp_callSi (W.runV S hM cw (gB_preV hP hK hc he As) rfl hn hsize hstack (lv_room hW) hdg hf) (fun _ h => h ▸ kk)
theorem g_vl {v : Int64} (S : CallFix p m c cc nL s args Ts own) (hM : Met l y wl rm (va_Pc (.ref b :: As) (gB E wc)) (vp_Sl (fun r => r = v)) 0 0 (fun _ => False)) (cw : CallW R s args own q.1 index y bytes maxL ret wl rm 0 0 n) (hK : gK E s) (hP : gP E wc H) (hc : vwCl[ci]? = some q) (he : wc[q0]? = some (b, .inr (ci, fs)))
    (hn : As.length = n) (hsize : ls.size = nL) (hstack : st0 = As.reverse ++ .ref b :: rest) (hW : (rest.map fun v => v.category).sum ≤ 8) (hf : cells ≤ R.cells ∧ slots ≤ R.slots) (hdg : decode cc pc = .ok (.invokevirtual index, 3))
    (kk : W p l e R s m args below meth c H locs cells slots Q (F0 m (pc + 3) ls (.long v :: rest))) : W p l e R s m args below meth c H locs cells slots Q (F0 m pc ls st0) :=
  vp_callSl (W.runV S hM cw (gB_preV hP hK hc he As) rfl hn hsize hstack (lv_room hW) hdg hf) (fun _ h => h ▸ kk)
theorem g_vv (S : CallFix p m c cc nL s args Ts own) (hM : Met l y wl rm (va_Pc (.ref b :: As) (gB E wc)) (va_Sv (fun _ => True)) 0 0 (fun _ => False)) (cw : CallW R s args own q.1 index y bytes maxL ret wl rm 0 0 n) (hK : gK E s) (hP : gP E wc H) (hc : vwCl[ci]? = some q) (he : wc[q0]? = some (b, .inr (ci, fs)))
    (hn : As.length = n) (hsize : ls.size = nL) (hstack : st0 = As.reverse ++ .ref b :: rest) (hW : (rest.map fun v => v.category).sum ≤ 8) (hf : cells ≤ R.cells ∧ slots ≤ R.slots) (hdg : decode cc pc = .ok (.invokevirtual index, 3))
    (kk : W p l e R s m args below meth c H locs cells slots Q (F0 m (pc + 3) ls rest)) : W p l e R s m args below meth c H locs cells slots Q (F0 m pc ls st0) :=
  va_csv (W.runV S hM cw (gB_preV hP hK hc he As) rfl hn hsize hstack (lv_room hW) hdg hf) (fun _ => kk)
theorem g_si {v : Int32} (S : CallFix p m c cc nL s args Ts own) (hM : Met l y wl rm (va_Pc As (gB E wc)) (vp_Si (fun r => r = v)) 0 0 (fun _ => False)) (cw : CallB R s args own index y bytes maxL ret wl rm 0 0 n ∧ (Cond.static y).before args s = true) (hK : gK E s) (hP : gP E wc H)
    (hn : As.length = n) (hsize : ls.size = nL) (hstack : st0 = As.reverse ++ rest) (hW : (rest.map fun v => v.category).sum ≤ 8) (hf : cells ≤ R.cells ∧ slots ≤ R.slots) (hdg : decode cc pc = .ok (.invokestatic index, 3))
    (kk : W p l e R s m args below meth c H locs cells slots Q (F0 m (pc + 3) ls (.int v :: rest))) : W p l e R s m args below meth c H locs cells slots Q (F0 m pc ls st0) :=
  vp_callSi (W.runS S hM cw (gB_preS hP hK As) rfl hn hsize hstack (lv_room hW) hdg hf) (fun _ h => h ▸ kk)
theorem g_sl {v : Int64} (S : CallFix p m c cc nL s args Ts own) (hM : Met l y wl rm (va_Pc As (gB E wc)) (vp_Sl (fun r => r = v)) 0 0 (fun _ => False)) (cw : CallB R s args own index y bytes maxL ret wl rm 0 0 n ∧ (Cond.static y).before args s = true) (hK : gK E s) (hP : gP E wc H)
    (hn : As.length = n) (hsize : ls.size = nL) (hstack : st0 = As.reverse ++ rest) (hW : (rest.map fun v => v.category).sum ≤ 8) (hf : cells ≤ R.cells ∧ slots ≤ R.slots) (hdg : decode cc pc = .ok (.invokestatic index, 3))
    (kk : W p l e R s m args below meth c H locs cells slots Q (F0 m (pc + 3) ls (.long v :: rest))) : W p l e R s m args below meth c H locs cells slots Q (F0 m pc ls st0) :=
  vp_callSl (W.runS S hM cw (gB_preS hP hK As) rfl hn hsize hstack (lv_room hW) hdg hf) (fun _ h => h ▸ kk)
theorem g_sv (S : CallFix p m c cc nL s args Ts own) (hM : Met l y wl rm (va_Pc As (gB E wc)) (va_Sv (fun _ => True)) 0 0 (fun _ => False)) (cw : CallB R s args own index y bytes maxL ret wl rm 0 0 n ∧ (Cond.static y).before args s = true) (hK : gK E s) (hP : gP E wc H)
    (hn : As.length = n) (hsize : ls.size = nL) (hstack : st0 = As.reverse ++ rest) (hW : (rest.map fun v => v.category).sum ≤ 8) (hf : cells ≤ R.cells ∧ slots ≤ R.slots) (hdg : decode cc pc = .ok (.invokestatic index, 3))
    (kk : W p l e R s m args below meth c H locs cells slots Q (F0 m (pc + 3) ls rest)) : W p l e R s m args below meth c H locs cells slots Q (F0 m pc ls st0) :=
  va_csv (W.runS S hM cw (gB_preS hP hK As) rfl hn hsize hstack (lv_room hW) hdg hf) (fun _ => kk)
end GC

section GL
variable {p : Program} {l : Launch} {e : Env} {R : Room} {s : State} {m : MethodId} {args : Array Value} {below : List Frame} {meth : Method} {c : Code} {H H0 : Heap} {locs : List Loc} {cells slots : Nat} {Q : State → Prop} {A : Nat → Prop}
variable {cc : ByteArray} {pc n index : Nat} {ls : Array Slot} {rest : List Value} {E : GE} {ws : va_W} {Ts : List Cond} {b : Nat} {a : Nat → Nat} {σ : GS} {τ : MS}
theorem g_get (hx : p.tables.exec = Jvm.exec) (hb : c.code = cc) (hts : ∀ w ∈ Ts, w.before args s = true) (hin : ∀ w ∈ wsX00, w ∈ Ts) (hown : s.vm.findClass RX0 = some m.cls) (hK : gK E s) (hP : gP E (gW E a σ) H) (k : Nat) (hk : k < 18) (hlink : Cond.fieldLink RX0 index RX0 (TX0 k).2.1 (TX0 k).2.2.1 ∈ Ts) (ho : (TX0 k).1 = RX0) {v : Value} (hv : (gF a σ)[k]? = some v) (hdg : decode cc pc = .ok (.getfield index, 3))
    (kk : W p l e R s m args below meth c H locs cells slots Q (F0 m (pc + 3) ls (v :: rest))) : W p l e R s m args below meth c H locs cells slots Q (F0 m pc ls (.ref (a 0) :: rest)) :=
  va_get (D := E.1) (ci := 0) (C := RX0) (T := TX0) (N := 18) hx hb hts hin hown hK hP 0 rfl rfl k hk (hts _ hlink) (fun _ h => by rw [ho] at h; exact h) hv hdg kk
theorem g_ild (hx : p.tables.exec = Jvm.exec) (hb : c.code = cc) (hK : gK E s) (hP : gP E ws H) (q0 : Nat) {f : Nat → Int32} (ha : ws[q0]? = some (b, gI E n f)) {i v : Int32} (hin : vp_in i n) (hv : f i.toNatClampNeg = v) (hdg : decode cc pc = .ok (.iaload, 1))
    (kk : W p l e R s m args below meth c H locs cells slots Q (F0 m (pc + 1) ls (.int v :: rest))) : W p l e R s m args below meth c H locs cells slots Q (F0 m pc ls (.int i :: .ref b :: rest)) :=
  va_iald hx hb hK hP q0 0 ha rfl hin hdg (by rw [hv]; exact kk)
theorem g_zld (hx : p.tables.exec = Jvm.exec) (hb : c.code = cc) (hK : gK E s) (hP : gP E ws H) (q0 : Nat) {f : Nat → Int32} (ha : ws[q0]? = some (b, gZ E n f)) {i v : Int32} (hin : vp_in i n) (hv : f i.toNatClampNeg = v) (hdg : decode cc pc = .ok (.baload, 1))
    (kk : W p l e R s m args below meth c H locs cells slots Q (F0 m (pc + 1) ls (.int v :: rest))) : W p l e R s m args below meth c H locs cells slots Q (F0 m pc ls (.int i :: .ref b :: rest)) :=
  va_zald hx hb hK hP q0 2 ha rfl hin hdg (by rw [hv]; exact kk)
theorem g_lld (hx : p.tables.exec = Jvm.exec) (hb : c.code = cc) (hK : gK E s) (hP : gP E ws H) (q0 : Nat) {f : Nat → Int64} (ha : ws[q0]? = some (b, gJ E n f)) {i : Int32} {v : Int64} (hin : vp_in i n) (hv : f i.toNatClampNeg = v) (hdg : decode cc pc = .ok (.laload, 1))
    (kk : W p l e R s m args below meth c H locs cells slots Q (F0 m (pc + 1) ls (.long v :: rest))) : W p l e R s m args below meth c H locs cells slots Q (F0 m pc ls (.int i :: .ref b :: rest)) :=
  va_lald hx hb hK hP q0 1 ha rfl hin hdg (by rw [hv]; exact kk)
theorem g_ist (hx : p.tables.exec = Jvm.exec) (hb : c.code = cc) (hK : gK E s) (hP : gP E ws H) (hD : va_D A ws) (hS : va_S A H0 H locs) (q0 : Nat) {f f' : Nat → Int32} (ha : ws[q0]? = some (b, gI E n f)) {i x : Int32} (hin : vp_in i n) (hv : upd f i.toNatClampNeg x = f') (hdg : decode cc pc = .ok (.iastore, 1))
    (kk : ∀ (H1 : Heap) (locs1 : List Loc), gP E (ws.set q0 (b, gI E n f')) H1 → va_D A (ws.set q0 (b, gI E n f')) → va_S A H0 H1 locs1 → W p l e R s m args below meth c H1 locs1 cells slots Q (F0 m (pc + 1) ls rest)) : W p l e R s m args below meth c H locs cells slots Q (F0 m pc ls (.int x :: .int i :: .ref b :: rest)) :=
  va_iast hx hb hK hP hD hS q0 0 ha rfl hin hdg (by rw [hv]; exact kk)
theorem g_zst (hx : p.tables.exec = Jvm.exec) (hb : c.code = cc) (hK : gK E s) (hP : gP E ws H) (hD : va_D A ws) (hS : va_S A H0 H locs) (q0 : Nat) {f f' : Nat → Int32} (ha : ws[q0]? = some (b, gZ E n f)) {i x : Int32} (hin : vp_in i n) (hv : upd f i.toNatClampNeg (vp_nar .boolean x) = f') (hdg : decode cc pc = .ok (.bastore, 1))
    (kk : ∀ (H1 : Heap) (locs1 : List Loc), gP E (ws.set q0 (b, gZ E n f')) H1 → va_D A (ws.set q0 (b, gZ E n f')) → va_S A H0 H1 locs1 → W p l e R s m args below meth c H1 locs1 cells slots Q (F0 m (pc + 1) ls rest)) : W p l e R s m args below meth c H locs cells slots Q (F0 m pc ls (.int x :: .int i :: .ref b :: rest)) :=
  va_zast hx hb hK hP hD hS q0 2 ha rfl hin hdg (by rw [hv]; exact kk)
theorem g_lst (hx : p.tables.exec = Jvm.exec) (hb : c.code = cc) (hK : gK E s) (hP : gP E ws H) (hD : va_D A ws) (hS : va_S A H0 H locs) (q0 : Nat) {f f' : Nat → Int64} (ha : ws[q0]? = some (b, gJ E n f)) {i : Int32} {x : Int64} (hin : vp_in i n) (hv : vp_updL f i.toNatClampNeg x = f') (hdg : decode cc pc = .ok (.lastore, 1))
    (kk : ∀ (H1 : Heap) (locs1 : List Loc), gP E (ws.set q0 (b, gJ E n f')) H1 → va_D A (ws.set q0 (b, gJ E n f')) → va_S A H0 H1 locs1 → W p l e R s m args below meth c H1 locs1 cells slots Q (F0 m (pc + 1) ls rest)) : W p l e R s m args below meth c H locs cells slots Q (F0 m pc ls (.long x :: .int i :: .ref b :: rest)) :=
  va_last hx hb hK hP hD hS q0 1 ha rfl hin hdg (by rw [hv]; exact kk)
end GL
/-- a row of numbers, written at a place -/
theorem n_upd (f : Nat → Nat) (k v : Nat) : upd (fun j => nI (f j)) k (nI v) = fun j => nI (va_up f k v j) := by
  funext j
  by_cases h : j = k <;> simp [upd, va_up, h]
theorem b_upd (f : Nat → Bool) (k : Nat) (v : Bool) : upd (fun j => b2i (f j)) k (b2i v) = fun j => b2i (va_up f k v j) := by
  funext j
  by_cases h : j = k <;> simp [upd, va_up, h]
theorem b2i_vp (b : Bool) : vp_nar .boolean (b2i b) = b2i b := by cases b <;> rfl
theorem va_D_fst {A : Nat → Prop} {w1 w2 : va_W} (h : va_D A w1) (e : w1.map Prod.fst = w2.map Prod.fst) : va_D A w2 := by
  have key : ∀ (i : Nat) (p : Nat × va_E), w2[i]? = some p → ∃ p0 : Nat × va_E, w1[i]? = some p0 ∧ p0.1 = p.1 := by
    intro i p hp
    have h2 : (w2.map Prod.fst)[i]? = some p.1 := by rw [List.getElem?_map, hp]; rfl
    rw [← e, List.getElem?_map] at h2
    cases h3 : w1[i]? with
    | none => rw [h3] at h2; cases h2
    | some p0 => rw [h3] at h2; exact ⟨p0, rfl, Option.some.inj h2⟩
  refine ⟨fun i j p q hi hj hpq => ?_, fun k q hk => ?_⟩
  · obtain ⟨p0, h1, h2⟩ := key i p hi
    obtain ⟨q0, h3, h4⟩ := key j q hj
    exact h.1 i j p0 q0 h1 h3 (by rw [h2, h4, hpq])
  · obtain ⟨q0, h3, h4⟩ := key k q hk
    rw [← h4]
    exact h.2 k q0 h3
theorem gW_D {A : Nat → Prop} {E : GE} {a : Nat → Nat} {σ σ' : GS} (h : va_D A (gW E a σ)) : va_D A (gW E a σ') := va_D_fst h rfl
/-- a world held, the heap's size told, the addresses apart -/
def gBw (E : GE) (sz : Nat) (ws : va_W) (U : State) : Prop := U.heap.size = sz ∧ gP E ws U.heap ∧ gK E U ∧ va_D (fun _ => True) ws
theorem gBw_blind {E : GE} {sz : Nat} {ws : va_W} {av : List Value} : FrameBlind (va_Pc av (gBw E sz ws)) := fun a U g mk q => by
  obtain ⟨q0, q1, qP, qK, qD⟩ := q
  exact ⟨q0, q1, qP, va_K.moved (u := U) (U := U.calling g mk a) (Vm.Alike.refl U.vm) qK, qD⟩
theorem gBw_preS {E : GE} {ws : va_W} {s : State} {H : Heap} {A : Nat → Prop} (hP : gP E ws H) (hK : gK E s) (hD : va_D A ws) (As : List Value) : PreS s H (va_Pc As (gBw E H.size ws)) As :=
  ⟨gBw_blind, fun U hU hW => ⟨rfl, by rw [hU], by rw [hU]; exact hP, va_K.moved hW.alike hK, hD.weaken (fun _ _ _ _ => trivial)⟩⟩
theorem gBw_preV {E : GE} {ws : va_W} {s : State} {H : Heap} {A : Nat → Prop} {b ci q0 : Nat} {q : vw_C} {fs : List Value} (hP : gP E ws H) (hK : gK E s) (hD : va_D A ws) (hc : vwCl[ci]? = some q) (he : ws[q0]? = some (b, .inr (ci, fs))) (As : List Value) : PreV s H q.1 b (va_Pc (.ref b :: As) (gBw E H.size ws)) As :=
  ⟨gBw_blind, va_recv hK hP hc he, fun U hU hW => ⟨rfl, by rw [hU], by rw [hU]; exact hP, va_K.moved hW.alike hK, hD.weaken (fun _ _ _ _ => trivial)⟩⟩
/-- what a method that writes its world hands back -/
abbrev gQv (E : GE) (ws ws' : va_W) (sz : Nat) : Array Value → State → Outcome → State → Prop := va_Qv (fun _ : Unit => True) (fun _ t => gP E ws' t.heap) (va_A ws sz)
abbrev gQi (E : GE) (v : Int32) (ws ws' : va_W) (sz : Nat) : Array Value → State → Outcome → State → Prop := va_Qi (fun r (_ : Unit) => r = v) (fun _ t => gP E ws' t.heap) (va_A ws sz)
/-- all of one world may be written: inside another one -/
theorem va_A_in {A : Nat → Prop} {ws : va_W} {H0 H : Heap} {locs : List Loc} (hD : va_D A ws) (hS : va_S A H0 H locs) (hA : ∀ q, H0.size ≤ q → A q) : ∀ q, va_A ws H.size q → A q := by
  rintro q (⟨k, e, hk⟩ | h)
  · exact hD.2 k (q, e) hk
  · exact hA q (Nat.le_trans hS.1 h)
section GV
variable {p : Program} {l : Launch} {e : Env} {R : Room} {s : State} {m : MethodId} {args : Array Value} {below : List Frame} {meth : Method} {c : Code} {H H0 : Heap} {locs : List Loc} {cells slots : Nat} {Q : State → Prop} {A : Nat → Prop}
variable {cc bytes : ByteArray} {pc nL maxL n index : Nat} {ls : Array Slot} {rest st0 : List Value} {E : GE} {ws : va_W} {Ts wl : List Cond} {own : String} {y : MethodName} {ret : Option FieldType} {rm : Room} {b : Nat} {a : Nat → Nat} {σ σ' : GS} {τ τ' : MS} {As : List Value}
theorem g0i {v : Int32} (S : CallFix p m c cc nL s args Ts own) (hM : Met l y wl rm (va_Pc (.ref (a 0) :: As) (gB E (gW E a σ))) (vp_Si (fun r => r = v)) 0 0 (fun _ => False)) (cw : CallW R s args own RX0 index y bytes maxL ret wl rm 0 0 n) (hK : gK E s) (hP : gP E (gW E a σ) H)
    (hn : As.length = n) (hsize : ls.size = nL) (hstack : st0 = As.reverse ++ .ref (a 0) :: rest) (hW : (rest.map fun v => v.category).sum ≤ 8) (hf : cells ≤ R.cells ∧ slots ≤ R.slots) (hdg : decode cc pc = .ok (.invokevirtual index, 3))
    (kk : W p l e R s m args below meth c H locs cells slots Q (F0 m (pc + 3) ls (.int v :: rest))) : W p l e R s m args below meth c H locs cells slots Q (F0 m pc ls st0) :=
  g_vi (ci := 0) (q0 := 0) (q := (RX0, TX0, 18)) (fs := gF a σ) S hM cw hK hP rfl rfl hn hsize hstack hW hf hdg kk
theorem g0l {v : Int64} (S : CallFix p m c cc nL s args Ts own) (hM : Met l y wl rm (va_Pc (.ref (a 0) :: As) (gB E (gW E a σ))) (vp_Sl (fun r => r = v)) 0 0 (fun _ => False)) (cw : CallW R s args own RX0 index y bytes maxL ret wl rm 0 0 n) (hK : gK E s) (hP : gP E (gW E a σ) H)
    (hn : As.length = n) (hsize : ls.size = nL) (hstack : st0 = As.reverse ++ .ref (a 0) :: rest) (hW : (rest.map fun v => v.category).sum ≤ 8) (hf : cells ≤ R.cells ∧ slots ≤ R.slots) (hdg : decode cc pc = .ok (.invokevirtual index, 3))
    (kk : W p l e R s m args below meth c H locs cells slots Q (F0 m (pc + 3) ls (.long v :: rest))) : W p l e R s m args below meth c H locs cells slots Q (F0 m pc ls st0) :=
  g_vl (ci := 0) (q0 := 0) (q := (RX0, TX0, 18)) (fs := gF a σ) S hM cw hK hP rfl rfl hn hsize hstack hW hf hdg kk
theorem g0v (S : CallFix p m c cc nL s args Ts own) (hM : Met l y wl rm (va_Pc (.ref (a 0) :: As) (gB E (gW E a σ))) (va_Sv (fun _ => True)) 0 0 (fun _ => False)) (cw : CallW R s args own RX0 index y bytes maxL ret wl rm 0 0 n) (hK : gK E s) (hP : gP E (gW E a σ) H)
    (hn : As.length = n) (hsize : ls.size = nL) (hstack : st0 = As.reverse ++ .ref (a 0) :: rest) (hW : (rest.map fun v => v.category).sum ≤ 8) (hf : cells ≤ R.cells ∧ slots ≤ R.slots) (hdg : decode cc pc = .ok (.invokevirtual index, 3))
    (kk : W p l e R s m args below meth c H locs cells slots Q (F0 m (pc + 3) ls rest)) : W p l e R s m args below meth c H locs cells slots Q (F0 m pc ls st0) :=
  g_vv (ci := 0) (q0 := 0) (q := (RX0, TX0, 18)) (fs := gF a σ) S hM cw hK hP rfl rfl hn hsize hstack hW hf hdg kk
/-- calls that write their whole world -/
theorem g0w (S : CallFix p m c cc nL s args Ts own) (hM : Met l y wl rm (va_Pc (.ref (a 0) :: As) (gBw E H.size (gW E a σ))) (gQv E (gW E a σ) (gW E a σ') H.size) 0 0 (va_A (gW E a σ) H.size)) (cw : CallW R s args own RX0 index y bytes maxL ret wl rm 0 0 n) (hK : gK E s) (hP : gP E (gW E a σ) H) (hD : va_D A (gW E a σ)) (hS : va_S A H0 H locs) (hA : ∀ q, H0.size ≤ q → A q)
    (hn : As.length = n) (hsize : ls.size = nL) (hstack : st0 = As.reverse ++ .ref (a 0) :: rest) (hW : (rest.map fun v => v.category).sum ≤ 8) (hf : cells ≤ R.cells ∧ slots ≤ R.slots) (hdg : decode cc pc = .ok (.invokevirtual index, 3))
    (kk : ∀ (H1 : Heap) (locs1 : List Loc), gP E (gW E a σ') H1 → va_D A (gW E a σ') → va_S A H0 H1 locs1 → W p l e R s m args below meth c H1 locs1 cells slots Q (F0 m (pc + 3) ls rest)) : W p l e R s m args below meth c H locs cells slots Q (F0 m pc ls st0) :=
  va_callv (va_runV S hM cw (gBw_preV (ci := 0) (q0 := 0) (q := (RX0, TX0, 18)) (fs := gF a σ) hP hK hD rfl rfl As) rfl hn hsize hstack (lv_room hW) hdg hf) hS (fun q _ h => va_A_in hD hS hA q h) (va_A_in hD hS hA) (fun _ t H1 locs1 ht _ _ hB _ _ hS1 => kk H1 locs1 (by rw [← ht]; exact hB) (gW_D hD) hS1)
end GV
