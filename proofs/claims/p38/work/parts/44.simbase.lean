/-! the law's own garden: its cells by tagged places (0 the object, 1 and 2 its two rows of rows, 3 + 2p the row of place p, 4 + 2t that of student t) -/
def si_V (n k i : Nat) : Prop := i < 3 ∨ (∃ p, p < n ∧ i = 3 + 2 * p) ∨ ∃ t, t < k ∧ i = 4 + 2 * t
def si_row (τ : MS) (p j : Nat) : Int32 := if j = 0 then b2i (mf τ p) else if j = 1 then nI (mo τ p) else if j = 2 then nI (mh τ p) else md τ p
def si_stu (τ : MS) (t j : Nat) : Nat := if j < mp τ t then mw τ (40 * t + j) else ms τ t
abbrev gR (E : GE) (n : Nat) (f : Nat → Nat) : va_E := .inl (E.2.2.2.2, n, .inr (.inr (.inr (.inr (fun j => some (f j))))))
abbrev gRo (E : GE) (n : Nat) (f : Nat → Option Nat) : va_E := .inl (E.2.2.2.2, n, .inr (.inr (.inr (.inr f))))
def si_e (E : GE) (b : Nat → Nat) (τ : MS) (i : Nat) : va_E := if i = 0 then .inr (1, [.ref (b 1), .ref (b 2)]) else if i = 1 then gR E (mn τ) (fun p => b (3 + 2 * p)) else if i = 2 then gR E (mk τ) (fun t => b (4 + 2 * t)) else if i % 2 = 1 then gI E 4 (si_row τ ((i - 3) / 2)) else gM E (mp τ ((i - 4) / 2) + 1) (si_stu τ ((i - 4) / 2))
def si_P (E : GE) (b : Nat → Nat) (τ : MS) (H : Heap) : Prop := ∀ i, si_V (mn τ) (mk τ) i → va_at E.1 vwCl (b i, si_e E b τ i) H
def si_D (A : Nat → Prop) (b : Nat → Nat) (n k : Nat) : Prop := (∀ i, si_V n k i → A (b i)) ∧ ∀ i j, si_V n k i → si_V n k j → b i = b j → i = j
theorem si_e_p (E : GE) (b : Nat → Nat) (τ : MS) (p : Nat) : si_e E b τ (3 + 2 * p) = gI E 4 (si_row τ p) := by
  unfold si_e
  rw [if_neg (by omega), if_neg (by omega), if_neg (by omega), if_pos (by omega), show (3 + 2 * p - 3) / 2 = p by omega]
theorem si_e_t (E : GE) (b : Nat → Nat) (τ : MS) (t : Nat) : si_e E b τ (4 + 2 * t) = gM E (mp τ t + 1) (si_stu τ t) := by
  unfold si_e
  rw [if_neg (by omega), if_neg (by omega), if_neg (by omega), if_neg (by omega), show (4 + 2 * t - 4) / 2 = t by omega]
theorem gP1 {E : GE} {q : Nat} {x : va_E} {H : Heap} (h : va_at E.1 vwCl (q, x) H) : gP E [(q, x)] H := by
  intro k r hk
  match k, hk with
  | 0, hk => cases hk; exact h
  | k + 1, hk => simp at hk
theorem gP1' {E : GE} {q : Nat} {x : va_E} {H : Heap} (h : gP E [(q, x)] H) : va_at E.1 vwCl (q, x) H := h 0 _ rfl
theorem si_o {E : GE} {b : Nat → Nat} {τ : MS} {H : Heap} (h : si_P E b τ H) : gP E [(b 0, .inr (1, [.ref (b 1), .ref (b 2)]))] H := gP1 (h 0 (Or.inl (by omega)))
theorem si_p {E : GE} {b : Nat → Nat} {τ : MS} {H : Heap} (h : si_P E b τ H) : gP E [(b 1, gR E (mn τ) (fun p => b (3 + 2 * p)))] H := gP1 (h 1 (Or.inl (by omega)))
theorem si_s {E : GE} {b : Nat → Nat} {τ : MS} {H : Heap} (h : si_P E b τ H) : gP E [(b 2, gR E (mk τ) (fun t => b (4 + 2 * t)))] H := gP1 (h 2 (Or.inl (by omega)))
theorem si_r {E : GE} {b : Nat → Nat} {τ : MS} {H : Heap} (h : si_P E b τ H) {p : Nat} (hp : p < mn τ) : gP E [(b (3 + 2 * p), gI E 4 (si_row τ p))] H := by
  have q := h (3 + 2 * p) (Or.inr (Or.inl ⟨p, hp, rfl⟩))
  rw [si_e_p] at q
  exact gP1 q
theorem si_t {E : GE} {b : Nat → Nat} {τ : MS} {H : Heap} (h : si_P E b τ H) {t : Nat} (ht : t < mk τ) : gP E [(b (4 + 2 * t), gM E (mp τ t + 1) (si_stu τ t))] H := by
  have q := h (4 + 2 * t) (Or.inr (Or.inr ⟨t, ht, rfl⟩))
  rw [si_e_t] at q
  exact gP1 q
theorem si_P.kept {E : GE} {b : Nat → Nat} {τ : MS} {H H1 : Heap} (h : si_P E b τ H) (hq : ∀ i, si_V (mn τ) (mk τ) i → H1[b i]? = H[b i]?) : si_P E b τ H1 := fun i hi => (h i hi).kept (hq i hi)
theorem si_P.lt {E : GE} {b : Nat → Nat} {τ : MS} {H : Heap} (h : si_P E b τ H) {i : Nat} (hi : si_V (mn τ) (mk τ) i) : b i < H.size := (h i hi).lt
theorem si_P.up {E : GE} {b : Nat → Nat} {τ : MS} {H H1 : Heap} (h : si_P E b τ H) (hq : ∀ q, q < H.size → H1[q]? = H[q]?) : si_P E b τ H1 := h.kept (fun _ hi => hq _ (h.lt hi))
theorem gP.up {E : GE} {ws : va_W} {H H1 : Heap} (h : gP E ws H) (hq : ∀ q, q < H.size → H1[q]? = H[q]?) : gP E ws H1 := va_P.kept h (fun _ q hk => hq q.1 (vx_lt h hk))
/-- what was there at the entry, the cells made since alone changed -/
def nA (s : State) : Nat → Prop := fun q => s.heap.size ≤ q
theorem nA_up {s : State} {H : Heap} {locs : List Loc} (hS : va_S (nA s) s.heap H locs) : ∀ q, q < s.heap.size → H[q]? = s.heap[q]? := fun q h => hS.2.1 q h (Nat.not_le.mpr h)
theorem nA_A {s : State} : ∀ q, s.heap.size ≤ q → nA s q := fun _ h => h
/-- a heap as asked, the tables known -/
def gH (E : GE) (X : Heap → Prop) (U : State) : Prop := X U.heap ∧ gK E U
theorem gH_blind {E : GE} {X : Heap → Prop} {av : List Value} : FrameBlind (va_Pc av (gH E X)) := fun a U g mk q => by
  obtain ⟨q0, qP, qK⟩ := q
  exact ⟨q0, qP, va_K.moved (u := U) (U := U.calling g mk a) (Vm.Alike.refl U.vm) qK⟩
theorem gH_preS {E : GE} {X : Heap → Prop} {s : State} {H : Heap} (hX : X H) (hK : gK E s) (As : List Value) : PreS s H (va_Pc As (gH E X)) As :=
  ⟨gH_blind, fun U hU hW => ⟨rfl, by rw [hU]; exact hX, va_K.moved hW.alike hK⟩⟩
theorem gH_preV {E : GE} {X : Heap → Prop} {s : State} {H : Heap} {b ci : Nat} {q : vw_C} {fs : List Value} (hX : X H) (hP : gP E [(b, .inr (ci, fs))] H) (hK : gK E s) (hc : vwCl[ci]? = some q) (As : List Value) : PreV s H q.1 b (va_Pc (.ref b :: As) (gH E X)) As :=
  ⟨gH_blind, va_recv (q0 := 0) hK hP hc rfl, fun U hU hW => ⟨rfl, by rw [hU]; exact hX, va_K.moved hW.alike hK⟩⟩
/-- the array class of rows of rows, and what may lie in it -/
def gQ (U : State) : Prop := (Cond.arrayOver (.array .int)).before #[] U = true
theorem gQ.moved {u U : State} (hvm : u.vm.Alike U.vm) (h : gQ u) : gQ U := by
  obtain ⟨comp, c, k, h1, h2, h3, h4, h5⟩ := arrayOverA_spec h
  obtain ⟨k', hk', he⟩ := hvm.2.2 _ _ h3
  have hi : (U.vm.classes.findIdx? fun (x : Class) => match x.kind with | .array component _ => component == comp | _ => false) = some c := by
    rw [hvm.findIdx?_eq _ (fun _ => rfl)]
    exact h2
  have hkind : k'.kind = .array comp (.array .int) := by rw [he]; exact h4
  have f1 : U.vm.findClass (FieldType.array .int).toString = some comp := by rw [hvm.findClass]; exact h1
  have f2 : U.vm.findClass ("[" ++ (FieldType.array .int).toString) = some c := by rw [hvm.findClass]; exact h5
  unfold gQ Cond.before Cond.holds
  simp only [Cond.value]
  rw [f1, Option.bind_some]
  refine (congrArg (fun o : Option Nat => (o.bind (fun c => (U.vm.classes[c]?).map fun (k : Class) => match k.kind with | .array _ ty => decide (ty = FieldType.array .int) && decide (U.vm.findClass ("[" ++ (FieldType.array .int).toString) = some c) | _ => false) == some true)) hi).trans ?_
  simp [hk', hkind, f2]
theorem gQ.kind {E : GE} {s : State} (h : gQ s) (hK : gK E s) : (∃ k : Class, s.vm.classes[E.2.2.2.2]? = some k ∧ k.kind = .array E.2.1 (.array .int)) ∧ ∃ kc : Class, s.vm.classes[E.2.1]? = some kc := by
  obtain ⟨comp, c, k, h1, h2, h3, h4, h5⟩ := arrayOverA_spec h
  have e1 : s.vm.findClass ("[" ++ FieldType.int.toString) = some E.2.1 := (hK.2 0 _ rfl).2
  have e2 : s.vm.findClass ("[" ++ (FieldType.array .int).toString) = some E.2.2.2.2 := (hK.2 3 _ rfl).2
  obtain rfl : comp = E.2.1 := Option.some.inj (h1.symm.trans e1)
  obtain rfl : c = E.2.2.2.2 := Option.some.inj (h5.symm.trans e2)
  obtain ⟨kc, hkc, -⟩ := Vm.findClass_spec h1
  exact ⟨⟨k, h3, h4⟩, kc, hkc⟩
theorem arr_cong {c : ClassId} {N : Nat} {f g : Nat → Value} (h : ∀ j, j < N → f j = g j) : arrV c N f = arrV c N g := by
  unfold arrV
  congr 1
  exact congrArg Array.ofFn (funext fun j : Fin N => h j.1 j.2)
theorem gR_cong {E : GE} {q N : Nat} {f g : Nat → Option Nat} {H : Heap} (h : gP E [(q, gRo E N f)] H) (e : ∀ j, j < N → f j = g j) : gP E [(q, gRo E N g)] H := by
  refine gP1 ?_
  show H[q]? = some (vp_cell _ _)
  rw [show H[q]? = some (vp_cell E.2.2.2.2 (N, .inr (.inr (.inr (.inr f))))) from gP1' h, vp_cell_q, vp_cell_q]
  exact congrArg some (arr_cong (fun j hj => by rw [e j hj]))
theorem gI_cong {E : GE} {q N : Nat} {f g : Nat → Int32} {H : Heap} (h : gP E [(q, gI E N f)] H) (e : ∀ j, j < N → f j = g j) : gP E [(q, gI E N g)] H := by
  refine gP1 ?_
  show H[q]? = some (vp_cell _ _)
  rw [show H[q]? = some (vp_cell E.2.1 (N, .inl f)) from gP1' h, vp_cell_i, vp_cell_i]
  exact congrArg some (arr_cong (fun j hj => by rw [e j hj]))
/-- a row of ints lies there -/
def isI (E : GE) (H : Heap) (q : Nat) : Prop := ∃ (N : Nat) (f : Nat → Int32), gP E [(q, gI E N f)] H
theorem isI.lt {E : GE} {H : Heap} {q : Nat} (h : isI E H q) : q < H.size := by
  obtain ⟨N, f, h⟩ := h
  exact (gP1' h).lt
theorem isI.kept {E : GE} {H H1 : Heap} {q : Nat} (h : isI E H q) (e : H1[q]? = H[q]?) : isI E H1 q := by
  obtain ⟨N, f, h⟩ := h
  exact ⟨N, f, gP1 ((gP1' h).kept e)⟩
section SIB
variable {p : Program} {l : Launch} {e : Env} {R : Room} {s : State} {m : MethodId} {args : Array Value} {below : List Frame} {meth : Method} {c : Code} {H H0 : Heap} {locs : List Loc} {cells slots : Nat} {Q : State → Prop} {A : Nat → Prop}
variable {cc bytes : ByteArray} {pc nL maxL n index mc ms : Nat} {ls : Array Slot} {rest st0 : List Value} {E : GE} {Ts wl : List Cond} {own : String} {y : MethodName} {ret : Option FieldType} {rm : Room} {a b : Nat} {β : Nat → Nat} {τ : MS} {As : List Value}
theorem s_get (hx : p.tables.exec = Jvm.exec) (hb : c.code = cc) (hts : ∀ w ∈ Ts, w.before args s = true) (hin : ∀ w ∈ wsX10, w ∈ Ts) (hown : s.vm.findClass own = some m.cls) (hK : gK E s) (hP : si_P E β τ H) (k : Nat) (hk : k < 2) (hlink : Cond.fieldLink own index RX1 (TX1 k).2.1 (TX1 k).2.2.1 ∈ Ts) (ho : (TX1 k).1 = RX1) {q : Nat} (hv : ([.ref (β 1), .ref (β 2)] : List Value)[k]? = some (.ref q)) (hdg : decode cc pc = .ok (.getfield index, 3))
    (kk : W p l e R s m args below meth c H locs cells slots Q (F0 m (pc + 3) ls (.ref q :: rest))) : W p l e R s m args below meth c H locs cells slots Q (F0 m pc ls (.ref (β 0) :: rest)) :=
  va_get (D := E.1) (ci := 1) (C := RX1) (T := TX1) (N := 2) hx hb hts hin hown hK (si_o hP) 0 rfl rfl k hk (hts _ hlink) (fun _ h => by rw [ho] at h; exact h) hv hdg kk
theorem s_ald (hx : p.tables.exec = Jvm.exec) (hb : c.code = cc) (hK : gK E s) {N : Nat} {f : Nat → Option Nat} (hP : gP E [(a, gRo E N f)] H) {k : Nat} (hk : k < N) (hN : N < 2 ^ 31) {v : Nat} (hv : f k = some v) (hdg : decode cc pc = .ok (.aaload, 1))
    (kk : W p l e R s m args below meth c H locs cells slots Q (F0 m (pc + 1) ls (.ref v :: rest))) : W p l e R s m args below meth c H locs cells slots Q (F0 m pc ls (.int (nI k) :: .ref a :: rest)) :=
  W.aald (v := .ref v) (ty := .array .int) hx hb (gP1' hP) ((hK.2 3 _ rfl).1 N (fun j => va_rf (f j))) rfl (fun q => by cases q) (by show ¬ (nI k < 0 ∨ (arrV _ _ _).slots.size ≤ _); rw [arrV_size]; exact vp_in_nI hk hN) (by rw [nI_clamp (by omega)]; show (arrV _ _ _).slots[_]? = _; rw [arrV_read _ _ hk, hv]; rfl) rfl rfl hdg kk
theorem s_alenR (hx : p.tables.exec = Jvm.exec) (hb : c.code = cc) (hK : gK E s) {N : Nat} {f : Nat → Option Nat} (hP : gP E [(a, gRo E N f)] H) (hdg : decode cc pc = .ok (.arraylength, 1))
    (kk : W p l e R s m args below meth c H locs cells slots Q (F0 m (pc + 1) ls (.int (nI N) :: rest))) : W p l e R s m args below meth c H locs cells slots Q (F0 m pc ls (.ref a :: rest)) :=
  va_alen hx hb hK hP 0 3 rfl rfl (v := nI N) rfl hdg kk
theorem s_alenI (hx : p.tables.exec = Jvm.exec) (hb : c.code = cc) (hK : gK E s) {N : Nat} {f : Nat → Int32} (hP : gP E [(a, gI E N f)] H) (hdg : decode cc pc = .ok (.arraylength, 1))
    (kk : W p l e R s m args below meth c H locs cells slots Q (F0 m (pc + 1) ls (.int (nI N) :: rest))) : W p l e R s m args below meth c H locs cells slots Q (F0 m pc ls (.ref a :: rest)) :=
  va_alen hx hb hK hP 0 0 rfl rfl (v := nI N) rfl hdg kk
theorem s_ild (hx : p.tables.exec = Jvm.exec) (hb : c.code = cc) (hK : gK E s) {N : Nat} {f : Nat → Int32} (hP : gP E [(a, gI E N f)] H) {k : Nat} (hk : k < N) (hN : N < 2 ^ 31) {v : Int32} (hv : f k = v) (hdg : decode cc pc = .ok (.iaload, 1))
    (kk : W p l e R s m args below meth c H locs cells slots Q (F0 m (pc + 1) ls (.int v :: rest))) : W p l e R s m args below meth c H locs cells slots Q (F0 m pc ls (.int (nI k) :: .ref a :: rest)) :=
  g_ild hx hb hK hP 0 rfl (vp_in_nI hk hN) (by rw [nI_clamp (by omega)]; exact hv) hdg kk
theorem s_zld (hx : p.tables.exec = Jvm.exec) (hb : c.code = cc) (hK : gK E s) {N : Nat} {f : Nat → Bool} (hP : gP E [(a, gZb E N f)] H) {k : Nat} (hk : k < N) (hN : N < 2 ^ 31) {v : Int32} (hv : b2i (f k) = v) (hdg : decode cc pc = .ok (.baload, 1))
    (kk : W p l e R s m args below meth c H locs cells slots Q (F0 m (pc + 1) ls (.int v :: rest))) : W p l e R s m args below meth c H locs cells slots Q (F0 m pc ls (.int (nI k) :: .ref a :: rest)) :=
  g_zld hx hb hK hP 0 rfl (vp_in_nI hk hN) (by rw [nI_clamp (by omega)]; exact hv) hdg kk
theorem s_ist (hx : p.tables.exec = Jvm.exec) (hb : c.code = cc) (hK : gK E s) {N : Nat} {f f' : Nat → Int32} (hP : gP E [(a, gI E N f)] H) (hA : A a) (hS : va_S A H0 H locs) {k : Nat} (hk : k < N) (hN : N < 2 ^ 31) {x : Int32} (hv : upd f k x = f') (hdg : decode cc pc = .ok (.iastore, 1))
    (kk : ∀ (H1 : Heap) (locs1 : List Loc), H1.size = H.size → (∀ q, q ≠ a → H1[q]? = H[q]?) → gP E [(a, gI E N f')] H1 → va_S A H0 H1 locs1 → W p l e R s m args below meth c H1 locs1 cells slots Q (F0 m (pc + 1) ls rest)) : W p l e R s m args below meth c H locs cells slots Q (F0 m pc ls (.int x :: .int (nI k) :: .ref a :: rest)) := by
  refine W.iast hx hb (gP1' hP) ((hK.2 0 _ rfl).1 N (fun j => .int (f j))) (fun q => by cases q) (by show ¬ (nI k < 0 ∨ (arrV _ _ _).slots.size ≤ _); rw [arrV_size]; exact vp_in_nI hk hN) rfl rfl hdg fun H1 e z oq => ?_
  refine kk H1 _ z oq (gP1 ?_) (hS.put z oq hA)
  show H1[a]? = some (vp_cell _ _)
  rw [e, vp_cell_i, vp_cell_i, arrV_store, nI_clamp (by omega), ← hv]
  congr 2
  funext q
  by_cases hq : q = k
  · subst hq; simp [updV, upd]
  · simp [updV, upd, hq]
theorem s_zst (hx : p.tables.exec = Jvm.exec) (hb : c.code = cc) (hK : gK E s) {N : Nat} {f f' : Nat → Bool} (hP : gP E [(a, gZb E N f)] H) (hA : A a) (hS : va_S A H0 H locs) {k : Nat} (hk : k < N) (hN : N < 2 ^ 31) {x : Bool} (hv : va_up f k x = f') (hdg : decode cc pc = .ok (.bastore, 1))
    (kk : ∀ (H1 : Heap) (locs1 : List Loc), H1.size = H.size → (∀ q, q ≠ a → H1[q]? = H[q]?) → gP E [(a, gZb E N f')] H1 → va_S A H0 H1 locs1 → W p l e R s m args below meth c H1 locs1 cells slots Q (F0 m (pc + 1) ls rest)) : W p l e R s m args below meth c H locs cells slots Q (F0 m pc ls (.int (b2i x) :: .int (nI k) :: .ref a :: rest)) := by
  refine W.zast hx hb (gP1' hP) ((hK.2 2 _ rfl).1 N (fun j => .int (b2i (f j)))) (fun q => by cases q) (by show ¬ (nI k < 0 ∨ (arrV _ _ _).slots.size ≤ _); rw [arrV_size]; exact vp_in_nI hk hN) rfl rfl hdg fun H1 e z oq => ?_
  refine kk H1 _ z oq (gP1 ?_) (hS.put z oq hA)
  show H1[a]? = some (vp_cell _ _)
  rw [e, vp_cell_i, vp_cell_i, arrV_store, nI_clamp (by omega), ← hv]
  congr 2
  funext q
  by_cases hq : q = k
  · subst hq; simp [updV, va_up, b2i_nar]
  · simp [updV, va_up, hq]
theorem s_ast (hx : p.tables.exec = Jvm.exec) (hb : c.code = cc) (hK : gK E s) (hQ : gQ s) {N v : Nat} {f f' : Nat → Option Nat} (hP : gP E [(a, gRo E N f)] H) (hI : isI E H v) (hA : A a) (hS : va_S A H0 H locs) {k : Nat} (hk : k < N) (hN : N < 2 ^ 31) (hv : va_up f k (some v) = f') (hdg : decode cc pc = .ok (.aastore, 1))
    (kk : ∀ (H1 : Heap) (locs1 : List Loc), H1.size = H.size → (∀ q, q ≠ a → H1[q]? = H[q]?) → gP E [(a, gRo E N f')] H1 → va_S A H0 H1 locs1 → W p l e R s m args below meth c H1 locs1 cells slots Q (F0 m (pc + 1) ls rest)) : W p l e R s m args below meth c H locs cells slots Q (F0 m pc ls (.ref v :: .int (nI k) :: .ref a :: rest)) := by
  obtain ⟨⟨kA, k1, k2⟩, kc, k3⟩ := hQ.kind hK
  obtain ⟨N', f2, g1⟩ := hI
  have g2 : H[v]? = some (vp_cell E.2.1 (N', .inl f2)) := gP1' g1
  refine W.aast hx hb (gP1' hP) (fun q h => by cases h) (fun h => by cases h) k1 k2 rfl k3 ⟨nI_pos (by omega), by show _ < (arrV _ _ _).slots.size; rw [arrV_size, nI_clamp (by omega)]; exact hk⟩ g2 (fun q h => by cases h) k3 (va_asg _ _) rfl rfl hdg fun H1 e z oq => ?_
  refine kk H1 _ z oq (gP1 ?_) (hS.put z oq hA)
  show H1[a]? = some (vp_cell _ _)
  rw [e, vp_cell_q, vp_cell_q, arrV_store, nI_clamp (by omega), ← hv]
  congr 2
  funext q
  by_cases hq : q = k
  · subst hq; simp [updV, va_up, va_rf]
  · simp [updV, va_up, hq]
theorem s_newI (hx : p.tables.exec = Jvm.exec) (hb : c.code = cc) (harr : (Cond.arrayClass .int).before args s = true) (hK : gK E s) (hS : va_S A H0 H locs) {N : Nat} (hN : N < 2 ^ 20) (hcells : cells + 1 ≤ R.cells) (hslots : slots + N ≤ R.slots) (hdg : decode cc pc = .ok (.newarray .int, 2))
    (kk : ∀ (q : Nat) (H1 : Heap), q = H.size → H1.size = H.size + 1 → (∀ z, z < H.size → H1[z]? = H[z]?) → gP E [(q, gI E N (fun _ => 0))] H1 → va_S A H0 H1 locs → W p l e R s m args below meth c H1 locs (cells + 1) (slots + N) Q (F0 m (pc + 2) ls (.ref q :: rest))) : W p l e R s m args below meth c H locs cells slots Q (F0 m pc ls (.int (nI N) :: rest)) := by
  refine va_newaK (atype := .int) hx hb harr rfl hdg rfl (nI_pos (by omega)) (nI_clamp (by omega)) (by show N * 4 ≤ _; omega) hcells hslots rfl fun H1 cA e1 z1 o1 hAr hNm => ?_
  obtain rfl : cA = E.2.1 := Option.some.inj (hNm.symm.trans (hK.2 0 _ rfl).2)
  exact kk H.size H1 rfl z1 o1 (gP1 e1) ⟨Nat.le_trans hS.1 (by omega), fun x h1 h2 => (o1 x (Nat.lt_of_lt_of_le h1 hS.1)).trans (hS.2.1 x h1 h2), hS.2.2⟩
theorem s_newZ (hx : p.tables.exec = Jvm.exec) (hb : c.code = cc) (harr : (Cond.arrayClass .boolean).before args s = true) (hK : gK E s) (hS : va_S A H0 H locs) {N : Nat} (hN : N < 2 ^ 20) (hcells : cells + 1 ≤ R.cells) (hslots : slots + N ≤ R.slots) (hdg : decode cc pc = .ok (.newarray .boolean, 2))
    (kk : ∀ (q : Nat) (H1 : Heap), q = H.size → H1.size = H.size + 1 → (∀ z, z < H.size → H1[z]? = H[z]?) → gP E [(q, gZb E N (fun _ => false))] H1 → va_S A H0 H1 locs → W p l e R s m args below meth c H1 locs (cells + 1) (slots + N) Q (F0 m (pc + 2) ls (.ref q :: rest))) : W p l e R s m args below meth c H locs cells slots Q (F0 m pc ls (.int (nI N) :: rest)) := by
  refine va_newaK (atype := .boolean) hx hb harr rfl hdg rfl (nI_pos (by omega)) (nI_clamp (by omega)) (by show N * 1 ≤ _; omega) hcells hslots rfl fun H1 cA e1 z1 o1 hAr hNm => ?_
  obtain rfl : cA = E.2.2.2.1 := Option.some.inj (hNm.symm.trans (hK.2 2 _ rfl).2)
  exact kk H.size H1 rfl z1 o1 (gP1 e1) ⟨Nat.le_trans hS.1 (by omega), fun x h1 h2 => (o1 x (Nat.lt_of_lt_of_le h1 hS.1)).trans (hS.2.1 x h1 h2), hS.2.2⟩
theorem s_newR (hx : p.tables.exec = Jvm.exec) (hb : c.code = cc) (hown : s.vm.findClass own = some m.cls) (hclink : (Cond.classLink own index "[I").before args s = true) (hQ : gQ s) (hK : gK E s) (hS : va_S A H0 H locs) {N : Nat} (hN : N < 2 ^ 20) (hcells : cells + 1 ≤ R.cells) (hslots : slots + N ≤ R.slots) (hdg : decode cc pc = .ok (.anewarray index, 3))
    (kk : ∀ (q : Nat) (H1 : Heap), q = H.size → H1.size = H.size + 1 → (∀ z, z < H.size → H1[z]? = H[z]?) → gP E [(q, gRo E N (fun _ => none))] H1 → va_S A H0 H1 locs → W p l e R s m args below meth c H1 locs (cells + 1) (slots + N) Q (F0 m (pc + 3) ls (.ref q :: rest))) : W p l e R s m args below meth c H locs cells slots Q (F0 m pc ls (.int (nI N) :: rest)) := by
  have hn : (nI N).toNatClampNeg = N := nI_clamp (by omega)
  refine W.anewA (t := .int) hx hb hown hclink hQ rfl hdg rfl (nI_pos (by omega)) (by rw [hn]; omega) hcells (by rw [hn]; exact hslots) fun cA kA comp f1 f2 f3 f4 => ?_
  obtain rfl : cA = E.2.2.2.2 := Option.some.inj (f1.symm.trans (hK.2 3 _ rfl).2)
  rw [hn]
  generalize hH1 : H.push ({ cls := E.2.2.2.2, slots := Array.replicate N .null, vm := .none } : Cell) = H1
  have z1 : H1.size = H.size + 1 := by rw [← hH1, Array.size_push]
  have e1 : H1[H.size]? = some (arrV E.2.2.2.2 N (fun _ => .null)) := by rw [← hH1, Array.getElem?_push_size, ← arrV_new]
  have o1 : ∀ q : Nat, q < H.size → H1[q]? = H[q]? := fun q hq => by rw [← hH1, Array.getElem?_push, if_neg (Nat.ne_of_lt hq)]
  exact kk H.size H1 rfl z1 o1 (gP1 e1) ⟨Nat.le_trans hS.1 (by omega), fun x h1 h2 => (o1 x (Nat.lt_of_lt_of_le h1 hS.1)).trans (hS.2.1 x h1 h2), hS.2.2⟩
/-- a field of the object is written: it alone changes -/
theorem s_put (hx : p.tables.exec = Jvm.exec) (hb : c.code = cc) (hts : ∀ w ∈ Ts, w.before args s = true) (hin : ∀ w ∈ wsX10, w ∈ Ts) (hown : s.vm.findClass own = some m.cls) (hK : gK E s) {fs fs' : List Value} (hP : gP E [(a, .inr (1, fs))] H) (hA : A a) (hS : va_S A H0 H locs) (k : Nat) (hk : k < 2) (hl : fs.length = 2) (hlink : Cond.fieldLink own index RX1 (TX1 k).2.1 (TX1 k).2.2.1 ∈ Ts) (ho : (TX1 k).1 = RX1 ∧ (TX1 k).2.2.2 = false ∧ parseFieldDescriptor (TX1 k).2.2.1 = some (.array (.array .int))) {q : Nat} (hv : fs.set k (.ref q) = fs') (hdg : decode cc pc = .ok (.putfield index, 3))
    (kk : ∀ (H1 : Heap) (locs1 : List Loc), H1.size = H.size → (∀ z, z ≠ a → H1[z]? = H[z]?) → gP E [(a, .inr (1, fs'))] H1 → va_S A H0 H1 locs1 → W p l e R s m args below meth c H1 locs1 cells slots Q (F0 m (pc + 3) ls rest)) : W p l e R s m args below meth c H locs cells slots Q (F0 m pc ls (.ref q :: .ref a :: rest)) := by
  have hap := va_apart (own := own) hts hin tyX1 tyX1_ok nmX1 hK (ci := 1) (C := RX1) (T := TX1) (N := 2) rfl
  obtain ⟨r, h1, cell, q1, q2, q3, q4⟩ := gP1' hP
  have hr : r = (RX1, TX1, 2) := Option.some.inj (h1.symm.trans rfl)
  subst hr
  obtain ⟨hS1, hfc, kC, hkC, hkind⟩ := hK.1 1 (RX1, TX1, 2) rfl
  obtain ⟨cf, kf, fi, f, hi, hsl⟩ := hS1 k hk
  have hlay := hts _ (hin _ (u_in_lay hk))
  unfold u_lay at hlay
  rw [if_neg (by rw [ho.2.1]; decide)] at hlay
  have hst := (u_facts hfc hkC (u_lays hts hin hk) hi).1
  have h6 := u_store hfc hkC hkind hlay hi ho.2.2 (v := .ref q) rfl rfl
  refine W.putK hx hb (f := f) (ref := RX1) ⟨hown, hts _ hlink, ⟨_, _, _, by rw [ho.1] at hi; exact hi⟩, hst⟩ (by rw [q2]; exact h6) q1 q3 (by rw [hsl]; exact k2_hasslot (q4 k hk)) rfl rfl hdg fun H' e1 e2 e3 => ?_
  rw [hsl] at e1 ⊢
  refine kk H' _ e2 e3 (gP1 ?_) (hS.put e2 e3 hA)
  rw [← hv]
  exact ⟨_, rfl, t_OB.to (V := updV (vp_V fs) k (.ref q)) ⟨_, e1, q2, q3, t_set q4 hap hk (.ref q)⟩ (fun j _ => vp_updV_set (by omega) (.ref q) j)⟩
/-- a call on the law's garden that changes nothing, makes nothing and answers an int -/
theorem s0p {v : Int32} (S : CallFix p m c cc nL s args Ts own) (hM : Met l y wl rm (va_Pc (.ref (β 0) :: As) (gH E (si_P E β τ))) (vp_Si (fun r => r = v)) 0 0 (fun _ => False)) (cw : CallW R s args own RX1 index y bytes maxL ret wl rm 0 0 n) (hK : gK E s) (hP : si_P E β τ H)
    (hn : As.length = n) (hsize : ls.size = nL) (hstack : st0 = As.reverse ++ .ref (β 0) :: rest) (hW : (rest.map fun v => v.category).sum ≤ 8) (hf : cells ≤ R.cells ∧ slots ≤ R.slots) (hdg : decode cc pc = .ok (.invokevirtual index, 3))
    (kk : W p l e R s m args below meth c H locs cells slots Q (F0 m (pc + 3) ls (.int v :: rest))) : W p l e R s m args below meth c H locs cells slots Q (F0 m pc ls st0) :=
  vp_callSi (W.runV S hM cw (gH_preV (ci := 1) (q := (RX1, TX1, 2)) hP (si_o hP) hK rfl As) rfl hn hsize hstack (lv_room hW) hdg hf) (fun _ h => h ▸ kk)
abbrev gQN (v : Int32) : Array Value → State → Outcome → State → Prop := va_Qi (fun r (_ : Unit) => r = v) (fun _ _ => True) (fun _ => False)
/-- .. that changes nothing of what was there, but may make cells -/
theorem s0i {v : Int32} (S : CallFix p m c cc nL s args Ts own) (hM : Met l y wl rm (va_Pc (.ref (β 0) :: As) (gH E (si_P E β τ))) (gQN v) mc ms (fun _ => False)) (cw : CallW R s args own RX1 index y bytes maxL ret wl rm mc ms n) (hK : gK E s) (hP : si_P E β τ H) (hS : va_S A H0 H locs)
    (hn : As.length = n) (hsize : ls.size = nL) (hstack : st0 = As.reverse ++ .ref (β 0) :: rest) (hW : (rest.map fun v => v.category).sum ≤ 8) (hf : cells + mc ≤ R.cells ∧ slots + ms ≤ R.slots) (hdg : decode cc pc = .ok (.invokevirtual index, 3))
    (kk : ∀ (H1 : Heap) (locs1 : List Loc), H.size ≤ H1.size → (∀ q, q < H.size → H1[q]? = H[q]?) → va_S A H0 H1 locs1 → W p l e R s m args below meth c H1 locs1 (cells + mc) (slots + ms) Q (F0 m (pc + 3) ls (.int v :: rest))) : W p l e R s m args below meth c H locs cells slots Q (F0 m pc ls st0) :=
  va_calli (va_runV S hM cw (gH_preV (ci := 1) (q := (RX1, TX1, 2)) hP (si_o hP) hK rfl As) rfl hn hsize hstack (lv_room hW) hdg hf) hS (fun _ _ h => h.elim) (fun _ h => h.elim) (fun r _ t H1 locs1 ht _ hr hB hz hq hS1 => by
    rw [hr]
    exact kk H1 locs1 hz (fun q h => hq q h (fun z => z)) hS1)
abbrev gQRZ (E : GE) (N : Nat) (f : Nat → Bool) : Array Value → State → Outcome → State → Prop := va_Qr (fun _ : Unit => True) (fun _ q t => gP E [(q, gZb E N f)] t.heap) (fun _ => False)
/-- .. and answers a row of booleans that it made -/
theorem s0z {N : Nat} {f : Nat → Bool} (S : CallFix p m c cc nL s args Ts own) (hM : Met l y wl rm (va_Pc (.ref (β 0) :: As) (gH E (si_P E β τ))) (gQRZ E N f) mc ms (fun _ => False)) (cw : CallW R s args own RX1 index y bytes maxL ret wl rm mc ms n) (hK : gK E s) (hP : si_P E β τ H) (hS : va_S A H0 H locs)
    (hn : As.length = n) (hsize : ls.size = nL) (hstack : st0 = As.reverse ++ .ref (β 0) :: rest) (hW : (rest.map fun v => v.category).sum ≤ 8) (hf : cells + mc ≤ R.cells ∧ slots + ms ≤ R.slots) (hdg : decode cc pc = .ok (.invokevirtual index, 3))
    (kk : ∀ (q : Nat) (H1 : Heap) (locs1 : List Loc), H.size ≤ H1.size → (∀ q, q < H.size → H1[q]? = H[q]?) → gP E [(q, gZb E N f)] H1 → va_S A H0 H1 locs1 → W p l e R s m args below meth c H1 locs1 (cells + mc) (slots + ms) Q (F0 m (pc + 3) ls (.ref q :: rest))) : W p l e R s m args below meth c H locs cells slots Q (F0 m pc ls st0) :=
  va_callr (va_runV S hM cw (gH_preV (ci := 1) (q := (RX1, TX1, 2)) hP (si_o hP) hK rfl As) rfl hn hsize hstack (lv_room hW) hdg hf) hS (fun _ _ h => h.elim) (fun _ h => h.elim) (fun _ ra t H1 locs1 ht _ hr hB hz hq hS1 =>
    kk ra H1 locs1 hz (fun q h => hq q h (fun z => z)) (by rw [← ht]; exact hB) hS1)
end SIB
theorem si_r0 (τ : MS) (p : Nat) : si_row τ p 0 = b2i (mf τ p) := rfl
theorem si_r1 (τ : MS) (p : Nat) : si_row τ p 1 = nI (mo τ p) := rfl
theorem si_r2 (τ : MS) (p : Nat) : si_row τ p 2 = nI (mh τ p) := rfl
theorem si_r3 (τ : MS) (p : Nat) : si_row τ p 3 = md τ p := rfl
theorem si_tl (τ : MS) (t : Nat) : nI (si_stu τ t (mp τ t)) = nI (ms τ t) := by rw [si_stu, if_neg (by omega)]
theorem si_tj (τ : MS) {t j : Nat} (h : j < mp τ t) : nI (si_stu τ t j) = nI (mw τ (40 * t + j)) := by rw [si_stu, if_pos h]
