/-! the law's own methods: what they are called with, and what a call that throws is caught by -/
def bl (b : Bool) : Int64 := if b then 1 else 0
abbrev gO (E : GE) (a : Nat → Nat) (σ : GS) (q : Nat) (f : Nat → Int64) : va_W := gW E a σ ++ [(q, gJ E 1 f)]
/-- the pairs of classes that are told apart -/
def gNc (U : State) : Prop := va_Nc XS XA U ∧ va_Nc XA XI U ∧ va_Nc XS XI U
theorem gNc.moved {u U : State} (hvm : u.vm.Alike U.vm) (h : gNc u) : gNc U := ⟨h.1.moved hvm, h.2.1.moved hvm, h.2.2.moved hvm⟩
/-- the law's: a world, what a throw needs, the classes -/
def gBy (E : GE) (sz : Nat) (ws : va_W) (U : State) : Prop := gBw E sz ws U ∧ gZh U U.heap ∧ gNc U
theorem gBy_blind {E : GE} {sz : Nat} {ws : va_W} {av : List Value} : FrameBlind (va_Pc av (gBy E sz ws)) := fun a U g mk q => by
  obtain ⟨q0, ⟨q1, qP, qK, qD⟩, qZ, qN⟩ := q
  exact ⟨q0, ⟨q1, qP, va_K.moved (u := U) (U := U.calling g mk a) (Vm.Alike.refl U.vm) qK, qD⟩, gZh.warm (U := U.calling g mk a) (State.WarmedH.refl U) qZ, gNc.moved (u := U) (U := U.calling g mk a) (Vm.Alike.refl U.vm) qN⟩
theorem gBy_preS {E : GE} {ws : va_W} {s : State} {H : Heap} {A : Nat → Prop} (hP : gP E ws H) (hK : gK E s) (hD : va_D A ws) (hZ : gZh s H) (hN : gNc s) (As : List Value) : PreS s H (va_Pc As (gBy E H.size ws)) As :=
  ⟨gBy_blind, fun U hU hW => ⟨rfl, ⟨by rw [hU], by rw [hU]; exact hP, va_K.moved hW.alike hK, hD.weaken (fun _ _ _ _ => trivial)⟩, by rw [hU]; exact gZh.warm hW hZ, hN.moved hW.alike⟩⟩
theorem gO_l {E : GE} {a : Nat → Nat} {σ : GS} {q : Nat} {f : Nat → Int64} {H : Heap} (h : gP E (gO E a σ q f) H) : gP E (gW E a σ) H := h.sub [0, 1, 2, 3, 4, 5, 6, 7, 8, 9, 10, 11, 12, 13] rfl
theorem gO_r {E : GE} {a : Nat → Nat} {σ : GS} {q : Nat} {f : Nat → Int64} {H : Heap} (h : gP E (gO E a σ q f) H) : gP E [(q, gJ E 1 f)] H := h.sub [14] rfl
theorem gO_Dl {E : GE} {a : Nat → Nat} {σ : GS} {q : Nat} {f : Nat → Int64} {A : Nat → Prop} (h : va_D A (gO E a σ q f)) : va_D A (gW E a σ) := h.sub [0, 1, 2, 3, 4, 5, 6, 7, 8, 9, 10, 11, 12, 13] rfl rfl
theorem gO_D {A : Nat → Prop} {E : GE} {a : Nat → Nat} {σ σ' : GS} {q : Nat} {f f' : Nat → Int64} (h : va_D A (gO E a σ q f)) : va_D A (gO E a σ' q f') := va_D_fst h rfl
/-- the row for the answer is none of the garden's -/
theorem gO_ne {E : GE} {a : Nat → Nat} {σ : GS} {q : Nat} {f : Nat → Int64} {A : Nat → Prop} {sz : Nat} (h : va_D A (gO E a σ q f)) (hq : q < sz) : ¬ va_A (gW E a σ) sz q := by
  rintro (⟨k, e, hk⟩ | h1)
  · have hk14 : k < 14 := by
      have := (List.getElem?_eq_some_iff.mp hk).1
      exact this
    have := h.1 k 14 (q, e) (q, gJ E 1 f) (by rw [List.getElem?_append_left (by exact hk14)]; exact hk) rfl rfl
    omega
  · omega
theorem w_met2 {l : Launch} {y : MethodName} {ws ws' : List Cond} {rm : Room} {av : List Value} {B : State → Prop} {Qc : Array Value → State → Outcome → State → Prop} {mc ms : Nat} {free : Addr → Prop} {cc : ByteArray} {maxL : Nat} {ret : Option FieldType} {hh : List (Nat × Nat × Nat × Nat)}
    (hy : plainName y.cls = true) (hw : ws = Cond.codeWith y cc maxL ret hh :: ws') (hn : (lg_sl av).length ≤ maxL)
    (body : ∀ (p : Program) (e : Env) (s : State) (m : MethodId) (below : List Frame) (meth : Method) (c : Code) (ls : Array Slot), CallFix p m c cc maxL s av.toArray ws y.cls → meth.sig.returnType = ret → meth.locks = false → c.exceptionTable.toList = tableOf hh → B s → lv_has ls maxL (lv_args 0 av) →
      W p l e (headSpec ws rm).room s m av.toArray below meth c s.heap [] 0 0 (MQ below Qc av.toArray s mc ms free) (F0 m 0 ls [])) : Met l y ws rm (va_Pc av B) Qc mc ms free := by
  refine va_MetW (cc := cc) (maxL := maxL) (ret := ret) (hh := hh) hy hw ?_
  intro p e s m args below meth c s₁ B0 hml hv
  obtain ⟨rfl, hB⟩ := hv
  rw [lg_entry_eq]
  exact body p e s m below meth c _ ⟨B0.exec, B0.bytes, hml, findClass_of_methodNamed B0.named, atoms_spec (ws := ws) B0.pre⟩ B0.returns B0.notSynchronized (vx_table (x := y) B0 (atoms_spec (ws := ws) B0.pre _ (by rw [hw]; exact List.mem_cons_self))) hB (lv_entry av hn)
section GWR
variable {p : Program} {l : Launch} {e : Env} {R : Room} {s : State} {m : MethodId} {args : Array Value} {below : List Frame} {meth : Method} {c : Code} {H H0 : Heap} {locs : List Loc} {cells slots : Nat} {Q : State → Prop} {A : Nat → Prop}
variable {cc bytes : ByteArray} {pc nL maxL n index : Nat} {ls : Array Slot} {rest st0 : List Value} {E : GE} {Ts wl : List Cond} {y : MethodName} {ret : Option FieldType} {rm : Room} {a : Nat → Nat} {σ σ' : GS} {As : List Value} {f : Nat → Int64} {q9 : Nat} {cls : String}
/-- a call that writes the garden, the row for the answer beside it -/
theorem g0wo {v : Int32} (S : CallFix p m c cc nL s args Ts RL) (hM : Met l y wl rm (va_Pc (.ref (a 0) :: As) (gBw E H.size (gW E a σ))) (gQi E v (gW E a σ) (gW E a σ') H.size) 0 0 (va_A (gW E a σ) H.size)) (cw : CallW R s args RL RX0 index y bytes maxL ret wl rm 0 0 n) (hK : gK E s) (hP : gP E (gO E a σ q9 f) H) (hD : va_D A (gO E a σ q9 f)) (hS : va_S A H0 H locs) (hA : ∀ q, H0.size ≤ q → A q)
    (hn : As.length = n) (hsize : ls.size = nL) (hstack : st0 = As.reverse ++ .ref (a 0) :: rest) (hW : (rest.map fun v => v.category).sum ≤ 8) (hf : cells ≤ R.cells ∧ slots ≤ R.slots) (hdg : decode cc pc = .ok (.invokevirtual index, 3))
    (kk : ∀ (H1 : Heap) (locs1 : List Loc), gP E (gO E a σ' q9 f) H1 → va_D A (gO E a σ' q9 f) → va_S A H0 H1 locs1 → W p l e R s m args below meth c H1 locs1 cells slots Q (F0 m (pc + 3) ls (.int v :: rest))) : W p l e R s m args below meth c H locs cells slots Q (F0 m pc ls st0) :=
  va_calli (va_runV S hM cw (gBw_preV (ci := 0) (q0 := 0) (q := (RX0, TX0, 18)) (fs := gF a σ) (gO_l hP) hK (gO_Dl hD) rfl rfl As) rfl hn hsize hstack (lv_room hW) hdg hf) hS (fun q _ h => va_A_in (gO_Dl hD) hS hA q h) (va_A_in (gO_Dl hD) hS hA) (fun r _ t H1 locs1 ht _ hr hB _ hq hS1 => by
    rw [hr]
    exact kk H1 locs1 (va_P.app (by rw [← ht]; exact hB) ((gO_r hP).kept (fun k q hk => by
      have hlt := vx_lt hP (k := 14) (q := (q9, gJ E 1 f)) rfl
      match k, hk with
      | 0, hk => cases hk; exact hq q9 hlt (gO_ne hD hlt)))) (gO_D hD) hS1)
theorem ps_nil {U : State → Prop} : ∀ z ∈ ([] : List ExceptionTableEntry), covers z pc = false ∨ (z.catchType ≠ 0 ∧ ∃ nm : String, (Cond.classLink RL z.catchType nm).before args s = true ∧ va_Nc cls nm s) := fun _ h => nomatch h
theorem ps_cons {x : ExceptionTableEntry} {xs : List ExceptionTableEntry} {nm : String} (h0 : x.catchType ≠ 0) (hl : (Cond.classLink RL x.catchType nm).before args s = true) (hN : va_Nc cls nm s) (h : ∀ z ∈ xs, covers z pc = false ∨ (z.catchType ≠ 0 ∧ ∃ nm : String, (Cond.classLink RL z.catchType nm).before args s = true ∧ va_Nc cls nm s)) :
    ∀ z ∈ x :: xs, covers z pc = false ∨ (z.catchType ≠ 0 ∧ ∃ nm : String, (Cond.classLink RL z.catchType nm).before args s = true ∧ va_Nc cls nm s) := fun z hz => by
  rcases List.mem_cons.mp hz with rfl | hz
  · exact Or.inr ⟨h0, nm, hl, hN⟩
  · exact h z hz
/-- a call that throws, caught by a row of this method's table -/
theorem g0xo (S : CallFix p m c cc nL s args Ts RL) (hM : vx_Met l y wl rm (va_Pc (.ref (a 0) :: As) (gBx E (gW E a σ))) gQFi (gXC cls) 1 6 (fun _ => False)) (cw : CallW R s args RL RX0 index y bytes maxL ret wl rm 1 6 n) (hK : gK E s) (hP : gP E (gO E a σ q9 f) s.heap) (hZ : gZh s s.heap)
    (hn : As.length = n) (hsize : ls.size = nL) (hstack : st0 = As.reverse ++ .ref (a 0) :: rest) (hW : (rest.map fun v => v.category).sum ≤ 8) (hf : 0 + 1 ≤ R.cells ∧ 0 + 6 ≤ R.slots) (hdg : decode cc pc = .ok (.invokevirtual index, 3))
    (pre : List ExceptionTableEntry) (x : ExceptionTableEntry) (suf : List ExceptionTableEntry) (hsplit : c.exceptionTable.toList = pre ++ x :: suf) (hpass : ∀ z ∈ pre, covers z pc = false ∨ (z.catchType ≠ 0 ∧ ∃ nm : String, (Cond.classLink RL z.catchType nm).before args s = true ∧ va_Nc cls nm s)) (hx : covers x pc = true) (h0 : x.catchType ≠ 0)
    (hlink : (Cond.classLink RL x.catchType cls).before args s = true) (hcast : Cond.castable cls cls ∈ gCast)
    (kk : ∀ (q : Addr) (H1 : Heap) (locs1 : List Loc), gP E (gO E a σ q9 f) H1 → va_S A s.heap H1 locs1 → W p l e R s m args below meth c H1 locs1 1 6 Q (F0 m x.handlerPc ls [.ref q])) : W p l e R s m args below meth c s.heap [] 0 0 Q (F0 m pc ls st0) :=
  vx_calli (A0 := A) (vx_runV S hM cw (gBx_preV (ci := 0) (q0 := 0) (q := (RX0, TX0, 18)) (fs := gF a σ) (gO_l hP) hK hZ rfl rfl As) rfl hn hsize hstack (lv_room hW) hdg hf) va_S.rf (fun q _ h => h.elim) (fun q h => h.elim) (fun q _ h => h.elim)
    (fun En ce q9 u t H1 locs1 ht hvm _ hB hsz hq hS1 hce hcv hcl => by
      obtain rfl : En = cls := hB
      exact vx_catch S.2.2.2.1 pre x suf hsplit hpass hx h0 hlink (va_Nw.use (gCast_tab _ hcast) (hZ.2.2.2 _ hcast)) hce hcv hcl (kk q9 H1 locs1 (hP.kept (fun k q hk => hq q.1 (vx_lt hP hk) (fun h => h))) hS1))
    (fun _ _ _ _ _ _ _ h => h.elim)
end GWR
