/-! the law's calls of the class beside its own garden: what holds, and one row for each kind of call -/
def actA (E : GE) (a b : Nat → Nat) (σ : GS) (τ : MS) (sz : Nat) : Nat → Prop := fun q => va_A (gW E a σ) sz q ∨ ∃ i, si_V (mn τ) (mk τ) i ∧ q = b i
theorem actA_new {E : GE} {a b : Nat → Nat} {σ : GS} {τ : MS} {sz : Nat} : ∀ q : Nat, sz ≤ q → actA E a b σ τ sz q := fun _ h => Or.inl (Or.inr h)
theorem LG.act {A : Nat → Prop} {E : GE} {a b : Nat → Nat} {σ : GS} {τ : MS} {H : Heap} {sz : Nat} (h : LG A E a b σ τ H) : LG (actA E a b σ τ sz) E a b σ τ H :=
  ⟨h.1, ⟨h.2.1.1, fun _ _ hk => Or.inl (va_A.in hk)⟩, h.2.2.1, ⟨fun i hi => Or.inr ⟨i, hi, rfl⟩, h.2.2.2.1.2⟩, h.2.2.2.2⟩
theorem LG.actIn {A : Nat → Prop} {E : GE} {a b : Nat → Nat} {σ : GS} {τ : MS} {H : Heap} (h : LG A E a b σ τ H) (hA : ∀ q, H.size ≤ q → A q) : ∀ q, actA E a b σ τ H.size q → A q := by
  rintro q ((⟨k, e, hk⟩ | hq) | ⟨i, hi, rfl⟩)
  · exact h.2.1.2 k _ hk
  · exact hA q hq
  · exact h.2.2.2.1.1 i hi
/-- the law's own methods that call the class: the gardens, and what a throw needs -/
def gLY (E : GE) (sz : Nat) (X : Heap → Prop) (U : State) : Prop := U.heap.size = sz ∧ X U.heap ∧ gK E U ∧ gQ U ∧ gZh U U.heap
theorem gLY_blind {E : GE} {sz : Nat} {X : Heap → Prop} {av : List Value} : FrameBlind (va_Pc av (gLY E sz X)) := fun a U g mk q => by
  obtain ⟨q0, q1, qP, qK, qQ, qZ⟩ := q
  exact ⟨q0, q1, qP, va_K.moved (u := U) (U := U.calling g mk a) (Vm.Alike.refl U.vm) qK, gQ.moved (u := U) (U := U.calling g mk a) (Vm.Alike.refl U.vm) qQ, gZh.warm (U := U.calling g mk a) (State.WarmedH.refl U) qZ⟩
theorem gLY_preS {E : GE} {X : Heap → Prop} {s : State} {H : Heap} (hX : X H) (hK : gK E s) (hQ : gQ s) (hZ : gZh s H) (As : List Value) : PreS s H (va_Pc As (gLY E H.size X)) As :=
  ⟨gLY_blind, fun U hU hW => ⟨rfl, by rw [hU], by rw [hU]; exact hX, va_K.moved hW.alike hK, gQ.moved hW.alike hQ, by rw [hU]; exact gZh.warm hW hZ⟩⟩
theorem w_met3 {l : Launch} {y : MethodName} {ws ws' : List Cond} {rm : Room} {av : List Value} {B : State → Prop} {Qc : Array Value → State → Outcome → State → Prop} {mc ms : Nat} {free : Addr → Prop} {cc : ByteArray} {maxL : Nat} {ret : Option FieldType} {hh : List (Nat × Nat × Nat × Nat)}
    (hy : plainName y.cls = true) (hw : ws = Cond.codeWith y cc maxL ret hh :: ws') (hn : (lg_sl av).length ≤ maxL)
    (body : ∀ (p : Program) (e : Env) (s : State) (m : MethodId) (below : List Frame) (meth : Method) (c : Code) (ls : Array Slot), CallFix p m c cc maxL s av.toArray ws y.cls → meth.sig.returnType = ret → meth.locks = false → c.exceptionTable.toList = tableOf hh → B s → lv_has ls maxL (lv_args 0 av) →
      W p l e (headSpec ws rm).room s m av.toArray below meth c s.heap [] 0 0 (MQ below Qc av.toArray s mc ms free) (F0 m 0 ls [])) : Met l y ws rm (va_Pc av B) Qc mc ms free := by
  refine va_MetW (cc := cc) (maxL := maxL) (ret := ret) (hh := hh) hy hw ?_
  intro p e s m args below meth c s₁ B0 hml hv
  obtain ⟨rfl, hB⟩ := hv
  rw [lg_entry_eq]
  exact body p e s m below meth c _ ⟨B0.exec, B0.bytes, hml, findClass_of_methodNamed B0.named, atoms_spec (ws := ws) B0.pre⟩ B0.returns B0.notSynchronized (vx_table (x := y) B0 (atoms_spec (ws := ws) B0.pre _ (by rw [hw]; exact List.mem_cons_self))) hB (lv_entry av hn)
abbrev actR : Type := GS × MS × (Nat → Nat)
def actO (b : Nat → Nat) (z : actR) : Prop := RR z.1 z.2.1 ∧ RQ z.2.1 ∧ 1 ≤ mn z.2.1 ∧ z.2.2 0 = b 0
abbrev gQA (E : GE) (a b : Nat → Nat) (σ : GS) (τ : MS) (sz : Nat) : Array Value → State → Outcome → State → Prop := va_Qi (fun r (z : actR) => r = 1 ∧ actO b z) (fun z t => LG (actA E a b σ τ sz) E a z.2.2 z.1 z.2.1 t.heap) (actA E a b σ τ sz)
abbrev aRm : Room := { frames := 10, cells := 210, slots := 8300, locals := 300 }
abbrev aTb : List (Nat × Nat × Nat × Nat) := [(59, 168, 838, 78), (169, 291, 838, 78), (292, 391, 838, 78), (392, 463, 838, 78), (464, 566, 838, 78), (567, 700, 838, 78), (701, 771, 838, 78), (772, 837, 838, 78)]
section ACT
variable {p : Program} {l : Launch} {e : Env} {R : Room} {s : State} {m : MethodId} {args : Array Value} {below : List Frame} {meth : Method} {c : Code} {H H0 : Heap} {locs : List Loc} {cells slots : Nat} {Q : State → Prop} {A : Nat → Prop}
variable {cc bytes : ByteArray} {pc nL maxL n index mc ms : Nat} {ls : Array Slot} {rest st0 : List Value} {E : GE} {Ts wl : List Cond} {own : String} {y : MethodName} {ret : Option FieldType} {rm : Room} {a b : Nat → Nat} {σ σ' : GS} {τ : MS} {As : List Value} {cls : String}
/-- a call that writes the class's garden -/
theorem l0w {v : Int32} (S : CallFix p m c cc nL s args Ts own) (hM : ∀ sz, Met l y wl rm (va_Pc (.ref (a 0) :: As) (gBw E sz (gW E a σ))) (gQi E v (gW E a σ) (gW E a σ') sz) 0 0 (va_A (gW E a σ) sz)) (cw : CallW R s args own RX0 index y bytes maxL ret wl rm 0 0 n) (hK : gK E s) (hG : LG A E a b σ τ H) (hS : va_S A H0 H locs) (hA : ∀ q, H0.size ≤ q → A q)
    (hn : As.length = n) (hsize : ls.size = nL) (hstack : st0 = As.reverse ++ .ref (a 0) :: rest) (hW : (rest.map fun v => v.category).sum ≤ 8) (hf : cells ≤ R.cells ∧ slots ≤ R.slots) (hdg : decode cc pc = .ok (.invokevirtual index, 3))
    (kk : ∀ (H1 : Heap) (locs1 : List Loc), H.size ≤ H1.size → (∀ q, q < H.size → (∀ j, j < 14 → q ≠ a j) → H1[q]? = H[q]?) → LG A E a b σ' τ H1 → va_S A H0 H1 locs1 → W p l e R s m args below meth c H1 locs1 cells slots Q (F0 m (pc + 3) ls (.int v :: rest))) : W p l e R s m args below meth c H locs cells slots Q (F0 m pc ls st0) :=
  va_calli (va_runV S (hM H.size) cw (gBw_preV (ci := 0) (q0 := 0) (q := (RX0, TX0, 18)) (fs := gF a σ) hG.1 hK hG.2.1 rfl rfl As) rfl hn hsize hstack (lv_room hW) hdg hf) hS (fun q _ h => va_A_in hG.2.1 hS hA q h) (va_A_in hG.2.1 hS hA) (fun r _ t H1 locs1 ht _ hr hB hz hq hS1 => by
    rw [hr]
    exact kk H1 locs1 hz (fun q h1 h2 => hq q h1 (by
      rintro (⟨k, e, hk⟩ | z)
      · obtain ⟨k1, k2⟩ := gW_ad hk; exact h2 k k1 k2
      · omega)) (hG.call (by rw [← ht]; exact hB) hq) hS1)
/-- a call that throws, caught by a row of this method's table -/
theorem l0x (S : CallFix p m c cc nL s args Ts own) (hM : vx_Met l y wl rm (va_Pc (.ref (a 0) :: As) (gBx E (gW E a σ))) gQFi (gXC cls) 1 6 (fun _ => False)) (cw : CallW R s args own RX0 index y bytes maxL ret wl rm 1 6 n) (hK : gK E s) (hP : gP E (gW E a σ) H) (hZ : gZh s H) (hZ0 : gZh s s.heap) (hS : va_S A H0 H locs)
    (hn : As.length = n) (hsize : ls.size = nL) (hstack : st0 = As.reverse ++ .ref (a 0) :: rest) (hW : (rest.map fun v => v.category).sum ≤ 8) (hf : cells + 1 ≤ R.cells ∧ slots + 6 ≤ R.slots) (hdg : decode cc pc = .ok (.invokevirtual index, 3))
    (pre : List ExceptionTableEntry) (x : ExceptionTableEntry) (suf : List ExceptionTableEntry) (hsplit : c.exceptionTable.toList = pre ++ x :: suf) (hpass : ∀ z ∈ pre, covers z pc = false) (hx : covers x pc = true) (h0 : x.catchType ≠ 0)
    (hlink : (Cond.classLink own x.catchType cls).before args s = true) (hcast : Cond.castable cls cls ∈ gCast)
    (kk : ∀ (q : Addr) (H1 : Heap) (locs1 : List Loc), (∀ z, z < H.size → H1[z]? = H[z]?) → va_S A H0 H1 locs1 → W p l e R s m args below meth c H1 locs1 (cells + 1) (slots + 6) Q (F0 m x.handlerPc ls [.ref q])) : W p l e R s m args below meth c H locs cells slots Q (F0 m pc ls st0) :=
  vx_calli (A0 := A) (vx_runV S hM cw (gBx_preV (ci := 0) (q0 := 0) (q := (RX0, TX0, 18)) (fs := gF a σ) hP hK hZ rfl rfl As) rfl hn hsize hstack (lv_room hW) hdg hf) hS (fun q _ h => h.elim) (fun q h => h.elim) (fun q _ h => h.elim)
    (fun En ce q9 u t H1 locs1 ht hvm _ hB hsz hq hS1 hce hcv hcl => by
      obtain rfl : En = cls := hB
      exact vx_catch S.2.2.2.1 pre x suf hsplit (fun z hz => Or.inl (hpass z hz)) hx h0 hlink (va_Nw.use (gCast_tab _ hcast) (hZ0.2.2.2 _ hcast)) hce hcv hcl (kk q9 H1 locs1 (fun z hz => hq z hz (fun h => h)) hS1))
    (fun _ _ _ _ _ _ _ h => h.elim)
theorem l_with {r0 q N : Nat} {f : Nat → Nat} (hN : N ≤ 40) (S : CallFix p m c cc nL s args Ts own) (cw : CallB R s args own index yX1_with cX1_with 4 (some (.array (.array .int))) wsX1_with { frames := 0, cells := 1, slots := 41, locals := 0 } 1 41 2 ∧ (Cond.static yX1_with).before args s = true) (hK : gK E s) (hQ : gQ s) (hX : gP E [(r0, gR E N f)] H ∧ (∀ k, k < N → isI E H (f k)) ∧ isI E H q) (hS : va_S A H0 H locs) (hA : ∀ q, H0.size ≤ q → A q)
    (hsize : ls.size = nL) (hW : (rest.map fun v => v.category).sum ≤ 8) (hf : cells + 1 ≤ R.cells ∧ slots + 41 ≤ R.slots) (hdg : decode cc pc = .ok (.invokestatic index, 3))
    (kk : ∀ (ra : Nat) (H1 : Heap) (locs1 : List Loc), H.size ≤ H1.size → (∀ z, z < H.size → H1[z]? = H[z]?) → H.size ≤ ra → gP E [(ra, gR E (N + 1) (va_up f N q))] H1 → va_S A H0 H1 locs1 → W p l e R s m args below meth c H1 locs1 (cells + 1) (slots + 41) Q (F0 m (pc + 3) ls (.ref ra :: rest))) : W p l e R s m args below meth c H locs cells slots Q (F0 m pc ls (.ref q :: .ref r0 :: rest)) :=
  va_callr (va_runS (As := [.ref r0, .ref q]) (rest := rest) S (c_with l E H.size r0 N q f hN) cw (gHQ_preS hX hK hQ _) rfl rfl hsize rfl (lv_room hW) hdg hf) hS (fun _ _ h => h.elim) (fun _ h => h.elim) (fun _ ra t H1 locs1 ht _ _ hB hz hq hS1 => kk ra H1 locs1 hz (fun z h => hq z h (fun x => x)) hB.1 (by rw [← ht]; exact hB.2) hS1)
theorem l_with_ {r0 N : Nat} {x : Int32} {f : Nat → Int32} (hN : N ≤ 40) (S : CallFix p m c cc nL s args Ts own) (cw : CallB R s args own index yX1_with_ cX1_with_ 4 (some (.array .int)) wsX1_with_ { frames := 0, cells := 1, slots := 41, locals := 0 } 1 41 2 ∧ (Cond.static yX1_with_).before args s = true) (hK : gK E s) (hQ : gQ s) (hX : gP E [(r0, gI E N f)] H) (hS : va_S A H0 H locs) (hA : ∀ q, H0.size ≤ q → A q)
    (hsize : ls.size = nL) (hW : (rest.map fun v => v.category).sum ≤ 8) (hf : cells + 1 ≤ R.cells ∧ slots + 41 ≤ R.slots) (hdg : decode cc pc = .ok (.invokestatic index, 3))
    (kk : ∀ (ra : Nat) (H1 : Heap) (locs1 : List Loc), H.size ≤ H1.size → (∀ z, z < H.size → H1[z]? = H[z]?) → H.size ≤ ra → gP E [(ra, gI E (N + 1) (upd f N x))] H1 → va_S A H0 H1 locs1 → W p l e R s m args below meth c H1 locs1 (cells + 1) (slots + 41) Q (F0 m (pc + 3) ls (.ref ra :: rest))) : W p l e R s m args below meth c H locs cells slots Q (F0 m pc ls (.int x :: .ref r0 :: rest)) :=
  va_callr (va_runS (As := [.ref r0, .int x]) (rest := rest) S (c_with_ l E H.size r0 N f x hN) cw (gHQ_preS hX hK hQ _) rfl rfl hsize rfl (lv_room hW) hdg hf) hS (fun _ _ h => h.elim) (fun _ h => h.elim) (fun _ ra t H1 locs1 ht _ _ hB hz hq hS1 => kk ra H1 locs1 hz (fun z h => hq z h (fun x => x)) hB.1 (by rw [← ht]; exact hB.2) hS1)
theorem l_less {r0 N : Nat} {f : Nat → Int32} (hN : N ≤ 40) (S : CallFix p m c cc nL s args Ts own) (cw : CallB R s args own index yL_less cL_less 3 (some (.array .int)) wsL_less { frames := 0, cells := 1, slots := 41, locals := 0 } 1 41 1 ∧ (Cond.static yL_less).before args s = true) (hK : gK E s) (hQ : gQ s) (hX : gP E [(r0, gI E (N + 1) f)] H) (hS : va_S A H0 H locs) (hA : ∀ q, H0.size ≤ q → A q)
    (hsize : ls.size = nL) (hW : (rest.map fun v => v.category).sum ≤ 8) (hf : cells + 1 ≤ R.cells ∧ slots + 41 ≤ R.slots) (hdg : decode cc pc = .ok (.invokestatic index, 3))
    (kk : ∀ (ra : Nat) (H1 : Heap) (locs1 : List Loc), H.size ≤ H1.size → (∀ z, z < H.size → H1[z]? = H[z]?) → H.size ≤ ra → gP E [(ra, gI E N f)] H1 → va_S A H0 H1 locs1 → W p l e R s m args below meth c H1 locs1 (cells + 1) (slots + 41) Q (F0 m (pc + 3) ls (.ref ra :: rest))) : W p l e R s m args below meth c H locs cells slots Q (F0 m pc ls (.ref r0 :: rest)) :=
  va_callr (va_runS (As := [.ref r0]) (rest := rest) S (c_less l E H.size r0 N f hN) cw (gHQ_preS hX hK hQ _) rfl rfl hsize rfl (lv_room hW) hdg hf) hS (fun _ _ h => h.elim) (fun _ h => h.elim) (fun _ ra t H1 locs1 ht _ _ hB hz hq hS1 => kk ra H1 locs1 hz (fun z h => hq z h (fun x => x)) hB.1 (by rw [← ht]; exact hB.2) hS1)
theorem l_below {N : Nat} {v : Int32} (h0 : 0 < N) (hN : N < 2 ^ 31) (S : CallFix p m c cc nL s args Ts own) (cw : CallB R s args own index yL_below cL_below 2 (some .int) wsL_below rmZ 0 0 2 ∧ (Cond.static yL_below).before args s = true) (hK : gK E s)
    (hsize : ls.size = nL) (hW : (rest.map fun v => v.category).sum ≤ 8) (hf : cells ≤ R.cells ∧ slots ≤ R.slots) (hdg : decode cc pc = .ok (.invokestatic index, 3))
    (kk : ∀ j, j < N → W p l e R s m args below meth c H locs cells slots Q (F0 m (pc + 3) ls (.int (nI j) :: rest))) : W p l e R s m args below meth c H locs cells slots Q (F0 m pc ls (.int (nI N) :: .int v :: rest)) :=
  g_si (As := [.int v, .int (nI N)]) (rest := rest) S (c_below l E v N h0 hN) cw hK (fun _ _ h => nomatch h) rfl hsize rfl hW hf hdg (kk _ (bw_lt v h0))
end ACT
theorem si_isI_p {E : GE} {b : Nat → Nat} {τ : MS} {H : Heap} (h : si_P E b τ H) : ∀ k, k < mn τ → isI E H (b (3 + 2 * k)) := fun k hk => ⟨4, si_row τ k, si_r h hk⟩
theorem si_isI_t {E : GE} {b : Nat → Nat} {τ : MS} {H : Heap} (h : si_P E b τ H) : ∀ t, t < mk τ → isI E H (b (4 + 2 * t)) := fun t ht => ⟨mp τ t + 1, fun j => nI (si_stu τ t j), si_t h ht⟩
