/-! the words for a state of the system, and rows for calls that change nothing -/
/-- of ExamGarden: (places, students, graded, their sum, the bits of exams), rows of numbers (0 lefts, 1 rights, 2 standing, 3 passedCounts, 4 passedForks), int rows (0 lowest, 1 highest, 2 weights, 3 grades, 4 sure, 5 hopes, 6 hindsights), the row of reached bits -/
abbrev GS : Type := (Nat × Nat × Int32 × Int32 × Int64) × (Nat → Nat → Nat) × (Nat → Nat → Int32) × (Nat → Int64)
abbrev gn (σ : GS) : Nat := σ.1.1
abbrev gk (σ : GS) : Nat := σ.1.2.1
abbrev gc (σ : GS) : Int32 := σ.1.2.2.1
abbrev gs (σ : GS) : Int32 := σ.1.2.2.2.1
abbrev ge (σ : GS) : Int64 := σ.1.2.2.2.2
abbrev gN (σ : GS) (i : Nat) : Nat → Nat := σ.2.1 i
abbrev gR (σ : GS) (i : Nat) : Nat → Int32 := σ.2.2.1 i
abbrev gL (σ : GS) : Nat → Int64 := σ.2.2.2
/-- class ids: of the objects' classes and slots, of int rows, long rows, boolean rows -/
abbrev GE : Type := va_G × ClassId × ClassId × ClassId
abbrev gTy (E : GE) : List (ClassId × FieldType) := [(E.2.1, .int), (E.2.2.1, .long), (E.2.2.2, .boolean)]
abbrev gK (E : GE) (U : State) : Prop := va_K E.1 vwCl (gTy E) U
abbrev gP (E : GE) (ws : va_W) (H : Heap) : Prop := va_P E.1 vwCl ws H
abbrev gI (E : GE) (n : Nat) (f : Nat → Int32) : va_E := .inl (E.2.1, n, .inl f)
abbrev gJ (E : GE) (n : Nat) (f : Nat → Int64) : va_E := .inl (E.2.2.1, n, .inr (.inl f))
abbrev gZ (E : GE) (n : Nat) (f : Nat → Int32) : va_E := .inl (E.2.2.2, n, .inl f)
abbrev gM (E : GE) (n : Nat) (f : Nat → Nat) : va_E := .inl (E.2.1, n, .inl (fun j => nI (f j)))
abbrev gF (a : Nat → Nat) (σ : GS) : List Value := [.int (nI (gn σ)), .int (nI (gk σ)), .int (gc σ), .int (gs σ), .long (ge σ), .ref (a 1), .ref (a 2), .ref (a 3), .ref (a 4), .ref (a 5), .ref (a 6), .ref (a 7), .ref (a 8), .ref (a 9), .ref (a 10), .ref (a 11), .ref (a 12), .ref (a 13)]
/-- the cells of an ExamGarden at a 0, its rows at a 1 .. a 13 -/
abbrev gW (E : GE) (a : Nat → Nat) (σ : GS) : va_W := [(a 0, .inr (0, gF a σ)), (a 1, gI E 40 (gR σ 0)), (a 2, gI E 40 (gR σ 1)), (a 3, gM E 40 (gN σ 0)), (a 4, gM E 40 (gN σ 1)), (a 5, gI E 40 (gR σ 2)), (a 6, gI E 40 (gR σ 3)), (a 7, gI E 40 (gR σ 4)), (a 8, gI E 40 (gR σ 5)), (a 9, gI E 40 (gR σ 6)), (a 10, gJ E 40 (gL σ)), (a 11, gM E 8 (gN σ 2)), (a 12, gM E 8 (gN σ 3)), (a 13, gM E 320 (gN σ 4))]
/-- a world held, and the tables known -/
def gB (E : GE) (ws : va_W) (U : State) : Prop := gP E ws U.heap ∧ gK E U
theorem gB_blind {E : GE} {ws : va_W} {av : List Value} : FrameBlind (va_Pc av (gB E ws)) := fun a U g mk q => by
  obtain ⟨q0, qP, qK⟩ := q
  exact ⟨q0, qP, va_K.moved (u := U) (U := U.calling g mk a) (Vm.Alike.refl U.vm) qK⟩
theorem gB_preS {E : GE} {ws : va_W} {s : State} {H : Heap} (hP : gP E ws H) (hK : gK E s) (As : List Value) : PreS s H (va_Pc As (gB E ws)) As :=
  ⟨gB_blind, fun U hU hW => ⟨rfl, by rw [hU]; exact hP, va_K.moved hW.alike hK⟩⟩
theorem gB_preV {E : GE} {ws : va_W} {s : State} {H : Heap} {b ci q0 : Nat} {q : vw_C} {fs : List Value} (hP : gP E ws H) (hK : gK E s) (hc : vwCl[ci]? = some q) (he : ws[q0]? = some (b, .inr (ci, fs))) (As : List Value) : PreV s H q.1 b (va_Pc (.ref b :: As) (gB E ws)) As :=
  ⟨gB_blind, va_recv hK hP hc he, fun U hU hW => ⟨rfl, by rw [hU]; exact hP, va_K.moved hW.alike hK⟩⟩
/-- what a body stands on -/
abbrev gX (p : Program) (s : State) (m : MethodId) (args : Array Value) (meth : Method) (c : Code) (cc : ByteArray) (nL : Nat) (ret : Option FieldType) (ws : List Cond) (C : String) : Prop :=
  CallFix p m c cc nL s args ws C ∧ meth.sig.returnType = ret ∧ meth.locks = false ∧ meth.name = meth.name
/-- a method by its body -/
theorem w_met {l : Launch} {y : MethodName} {ws ws' : List Cond} {rm : Room} {av : List Value} {B : State → Prop} {Qc : Array Value → State → Outcome → State → Prop} {mc ms : Nat} {free : Addr → Prop} {cc : ByteArray} {maxL : Nat} {ret : Option FieldType}
    (hy : plainName y.cls = true) (hw : ws = Cond.code y cc maxL ret :: ws') (hn : (lg_sl av).length ≤ maxL)
    (body : ∀ (p : Program) (e : Env) (s : State) (m : MethodId) (below : List Frame) (meth : Method) (c : Code) (ls : Array Slot), CallFix p m c cc maxL s av.toArray ws y.cls → meth.sig.returnType = ret → meth.locks = false → meth.name = y.name → B s → lv_has ls maxL (lv_args 0 av) →
      W p l e (headSpec ws rm).room s m av.toArray below meth c s.heap [] 0 0 (MQ below Qc av.toArray s mc ms free) (F0 m 0 ls [])) : Met l y ws rm (va_Pc av B) Qc mc ms free := by
  refine Met.ofW (cc := cc) (maxL := maxL) (ret := ret) hy hw ?_
  intro p e s m args below meth c s₁ B0 hml hv
  obtain ⟨rfl, hB⟩ := hv
  rw [lg_entry_eq]
  exact body p e s m below meth c _ ⟨B0.exec, B0.bytes, hml, findClass_of_methodNamed B0.named, atoms_spec (ws := ws) B0.pre⟩ B0.returns B0.notSynchronized (name_of_methodNamed B0.named B0.method).1 hB (lv_entry av hn)
section GC
variable {p : Program} {l : Launch} {e : Env} {R : Room} {s : State} {m : MethodId} {args : Array Value} {below : List Frame} {meth : Method} {c : Code} {H : Heap} {locs : List Loc} {cells slots : Nat} {Q : State → Prop}
variable {cc bytes : ByteArray} {pc nL maxL n index : Nat} {ls : Array Slot} {rest st0 : List Value} {E : GE} {ws wc : va_W} {Ts wl : List Cond} {own C : String} {y : MethodName} {ret : Option FieldType} {rm : Room} {b ci q0 : Nat} {fs : List Value} {q : vw_C} {As : List Value}
/-- a call on an object that changes nothing and answers an int -/
theorem g_vi {v : Int32} (S : CallFix p m c cc nL s args Ts own) (hM : Met l y wl rm (va_Pc (.ref b :: As) (gB E wc)) (vp_Si (fun r => r = v)) 0 0 (fun _ => False)) (cw : CallW R s args own q.1 index y bytes maxL ret wl rm 0 0 n) (hK : gK E s) (hP : gP E wc H) (hc : vwCl[ci]? = some q) (he : wc[q0]? = some (b, .inr (ci, fs)))
    (hn : As.length = n) (hsize : ls.size = nL) (hstack : st0 = As.reverse ++ .ref b :: rest) (hW : (rest.map fun v => v.category).sum ≤ 8) (hf : cells ≤ R.cells ∧ slots ≤ R.slots) (hdg : decode cc pc = .ok (.invokevirtual index, 3))
    (kk : W p l e R s m args below meth c H locs cells slots Q (F0 m (pc + 3) ls (.int v :: rest))) : W p l e R s m args below meth c H locs cells slots Q (F0 m pc ls st0) :=
  vp_callSi (W.runV S hM cw (gB_preV hP hK hc he As) rfl hn hsize hstack (lv_room hW) hdg hf) (fun _ h => h ▸ kk)
theorem g_vl {v : Int64} (S : CallFix p m c cc nL s args Ts own) (hM : Met l y wl rm (va_Pc (.ref b :: As) (gB E wc)) (vp_Sl (fun r => r = v)) 0 0 (fun _ => False)) (cw : CallW R s args own q.1 index y bytes maxL ret wl rm 0 0 n) (hK : gK E s) (hP : gP E wc H) (hc : vwCl[ci]? = some q) (he : wc[q0]? = some (b, .inr (ci, fs)))
    (hn : As.length = n) (hsize : ls.size = nL) (hstack : st0 = As.reverse ++ .ref b :: rest) (hW : (rest.map fun v => v.category).sum ≤ 8) (hf : cells ≤ R.cells ∧ slots ≤ R.slots) (hdg : decode cc pc = .ok (.invokevirtual index, 3))
    (kk : W p l e R s m args below meth c H locs cells slots Q (F0 m (pc + 3) ls (.long v :: rest))) : W p l e R s m args below meth c H locs cells slots Q (F0 m pc ls st0) :=
  vp_callSl (W.runV S hM cw (gB_preV hP hK hc he As) rfl hn hsize hstack (lv_room hW) hdg hf) (fun _ h => h ▸ kk)
theorem g_vv (S : CallFix p m c cc nL s args Ts own) (hM : Met l y wl rm (va_Pc (.ref b :: As) (gB E wc)) (va_Sv (fun _ => True)) 0 0 (fun _ => False)) (cw : CallW R s args own q.1 index y bytes maxL ret wl rm 0 0 n) (hK : gK E s) (hP : gP E wc H) (hc : vwCl[ci]? = some q) (he : wc[q0]? = some (b, .inr (ci, fs)))
    (hn : As.length = n) (hsize : ls.size = nL) (hstack : st0 = As.reverse ++ .ref b :: rest) (hW : (rest.map fun v => v.category).sum ≤ 8) (hf : cells ≤ R.cells ∧ slots ≤ R.slots) (hdg : decode cc pc = .ok (.invokevirtual index, 3))
    (kk : W p l e R s m args below meth c H locs cells slots Q (F0 m (pc + 3) ls rest)) : W p l e R s m args below meth c H locs cells slots Q (F0 m pc ls st0) :=
  va_csv (W.runV S hM cw (gB_preV hP hK hc he As) rfl hn hsize hstack (lv_room hW) hdg hf) (fun _ => kk)
theorem g_si {v : Int32} (S : CallFix p m c cc nL s args Ts own) (hM : Met l y wl rm (va_Pc As (gB E wc)) (vp_Si (fun r => r = v)) 0 0 (fun _ => False)) (cw : CallB R s args own index y bytes maxL ret wl rm 0 0 n ∧ (Cond.static y).before args s = true) (hK : gK E s) (hP : gP E wc H)
    (hn : As.length = n) (hsize : ls.size = nL) (hstack : st0 = As.reverse ++ rest) (hW : (rest.map fun v => v.category).sum ≤ 8) (hf : cells ≤ R.cells ∧ slots ≤ R.slots) (hdg : decode cc pc = .ok (.invokestatic index, 3))
    (kk : W p l e R s m args below meth c H locs cells slots Q (F0 m (pc + 3) ls (.int v :: rest))) : W p l e R s m args below meth c H locs cells slots Q (F0 m pc ls st0) :=
  vp_callSi (W.runS S hM cw (gB_preS hP hK As) rfl hn hsize hstack (lv_room hW) hdg hf) (fun _ h => h ▸ kk)
theorem g_sl {v : Int64} (S : CallFix p m c cc nL s args Ts own) (hM : Met l y wl rm (va_Pc As (gB E wc)) (vp_Sl (fun r => r = v)) 0 0 (fun _ => False)) (cw : CallB R s args own index y bytes maxL ret wl rm 0 0 n ∧ (Cond.static y).before args s = true) (hK : gK E s) (hP : gP E wc H)
    (hn : As.length = n) (hsize : ls.size = nL) (hstack : st0 = As.reverse ++ rest) (hW : (rest.map fun v => v.category).sum ≤ 8) (hf : cells ≤ R.cells ∧ slots ≤ R.slots) (hdg : decode cc pc = .ok (.invokestatic index, 3))
    (kk : W p l e R s m args below meth c H locs cells slots Q (F0 m (pc + 3) ls (.long v :: rest))) : W p l e R s m args below meth c H locs cells slots Q (F0 m pc ls st0) :=
  vp_callSl (W.runS S hM cw (gB_preS hP hK As) rfl hn hsize hstack (lv_room hW) hdg hf) (fun _ h => h ▸ kk)
theorem g_sv (S : CallFix p m c cc nL s args Ts own) (hM : Met l y wl rm (va_Pc As (gB E wc)) (va_Sv (fun _ => True)) 0 0 (fun _ => False)) (cw : CallB R s args own index y bytes maxL ret wl rm 0 0 n ∧ (Cond.static y).before args s = true) (hK : gK E s) (hP : gP E wc H)
    (hn : As.length = n) (hsize : ls.size = nL) (hstack : st0 = As.reverse ++ rest) (hW : (rest.map fun v => v.category).sum ≤ 8) (hf : cells ≤ R.cells ∧ slots ≤ R.slots) (hdg : decode cc pc = .ok (.invokestatic index, 3))
    (kk : W p l e R s m args below meth c H locs cells slots Q (F0 m (pc + 3) ls rest)) : W p l e R s m args below meth c H locs cells slots Q (F0 m pc ls st0) :=
  va_csv (W.runS S hM cw (gB_preS hP hK As) rfl hn hsize hstack (lv_room hW) hdg hf) (fun _ => kk)
end GC
/-- truth as the machine has it -/
def b2i (b : Bool) : Int32 := if b then 1 else 0
theorem b2i_eq0 {b : Bool} : b2i b = 0 ↔ b = false := by cases b <;> decide
theorem b2i_ne0 {b : Bool} : ¬ b2i b = 0 ↔ b = true := by cases b <;> decide
theorem b2i_nar (b : Bool) : narrow .boolean (.int (b2i b)) = .int (b2i b) := by cases b <;> rfl
