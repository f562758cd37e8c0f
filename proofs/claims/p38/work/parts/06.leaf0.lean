/-! ExamGarden's static rows: at, put, bitsAt, putBits, bitOf -/
abbrev rmZ : Room := { frames := 0, cells := 0, slots := 0, locals := 0 }
def gbit (k : Nat) : Int64 := lN (2 ^ k)
/-- whether bit k is set -/
def gEx (eb : Int64) (k : Nat) : Bool := !decide (eb &&& gbit k = 0)
def imx (x y : Int32) : Int32 := if x < y then y else x
def imn (x y : Int32) : Int32 := if y < x then y else x
set_option maxHeartbeats 4000000 in
set_option maxRecDepth 100000 in
theorem c_at (l : Launch) (E : GE) (q n : Nat) (f : Nat → Int32) (i v : Int32) (hi : vp_in i n) (hn : n < 2 ^ 31) (hv : f i.toNatClampNeg = v) : Met l yX0_at wsX0_at rmZ (va_Pc [.ref q, .int i] (gB E [(q, gI E n f)])) (vp_Si (fun r => r = v)) 0 0 (fun _ => False) := by
  refine w_met (cc := cX0_at) (maxL := 2) (ret := some .int) (by decide) rfl (Nat.le_of_ble_eq_true rfl) ?_
  intro p e s m below meth c ls S hr hlocks hname hB hl
  obtain ⟨hP, hK⟩ := hB
  obtain ⟨hx, hb, hml, hown, hts⟩ := id S
  have hl : lv_has ls 2 [(0, .ref q), (1, .int i)] := hl
  obtain ⟨k, hk, rfl⟩ := vp_in_of hi hn
  refine lv_iload_n hx hb dX0_at_0 rfl (lv_at hl 1 rfl) ?_
  refine lv_if_lt (tgt := 16) hx hb dX0_at_1 (by decide) (fun h => absurd h (nI_pos (by omega))) (fun _ => ?_)
  refine lv_iload_n hx hb dX0_at_4 rfl (lv_at hl 1 rfl) ?_
  refine lv_aload_n hx hb dX0_at_5 rfl (lv_at hl 0 rfl) ?_
  refine va_alen hx hb hK hP 0 0 rfl rfl (v := nI n) rfl dX0_at_6 ?_
  refine lv_icmp_ge (tgt := 16) hx hb dX0_at_7 (by decide) (fun h => absurd h (nI_ge hk hn)) (fun _ => ?_)
  refine lv_aload_n hx hb dX0_at_10 rfl (lv_at hl 0 rfl) ?_
  refine lv_iload_n hx hb dX0_at_11 rfl (lv_at hl 1 rfl) ?_
  refine va_iald hx hb hK hP 0 0 rfl rfl hi dX0_at_12 ?_
  refine lv_goto (tgt := 17) hx hb dX0_at_13 (by decide) ?_
  exact W.iret hx hb hr (fun t ht hW => ⟨_, rfl, hv, ht⟩) (fun _ h => nomatch h) dX0_at_17
set_option maxHeartbeats 4000000 in
set_option maxRecDepth 100000 in
theorem c_bitsAt (l : Launch) (E : GE) (q n : Nat) (f : Nat → Int64) (i : Int32) (v : Int64) (hi : vp_in i n) (hn : n < 2 ^ 31) (hv : f i.toNatClampNeg = v) : Met l yX0_bitsAt wsX0_bitsAt rmZ (va_Pc [.ref q, .int i] (gB E [(q, gJ E n f)])) (vp_Sl (fun r => r = v)) 0 0 (fun _ => False) := by
  refine w_met (cc := cX0_bitsAt) (maxL := 2) (ret := some .long) (by decide) rfl (Nat.le_of_ble_eq_true rfl) ?_
  intro p e s m below meth c ls S hr hlocks hname hB hl
  obtain ⟨hP, hK⟩ := hB
  obtain ⟨hx, hb, hml, hown, hts⟩ := id S
  have hl : lv_has ls 2 [(0, .ref q), (1, .int i)] := hl
  obtain ⟨k, hk, rfl⟩ := vp_in_of hi hn
  refine lv_iload_n hx hb dX0_bitsAt_0 rfl (lv_at hl 1 rfl) ?_
  refine lv_if_lt (tgt := 16) hx hb dX0_bitsAt_1 (by decide) (fun h => absurd h (nI_pos (by omega))) (fun _ => ?_)
  refine lv_iload_n hx hb dX0_bitsAt_4 rfl (lv_at hl 1 rfl) ?_
  refine lv_aload_n hx hb dX0_bitsAt_5 rfl (lv_at hl 0 rfl) ?_
  refine va_alen hx hb hK hP 0 1 rfl rfl (v := nI n) rfl dX0_bitsAt_6 ?_
  refine lv_icmp_ge (tgt := 16) hx hb dX0_bitsAt_7 (by decide) (fun h => absurd h (nI_ge hk hn)) (fun _ => ?_)
  refine lv_aload_n hx hb dX0_bitsAt_10 rfl (lv_at hl 0 rfl) ?_
  refine lv_iload_n hx hb dX0_bitsAt_11 rfl (lv_at hl 1 rfl) ?_
  refine va_lald hx hb hK hP 0 1 rfl rfl hi dX0_bitsAt_12 ?_
  refine lv_goto (tgt := 17) hx hb dX0_bitsAt_13 (by decide) ?_
  exact W.lret hx hb hr (fun t ht hW => ⟨_, rfl, hv, ht⟩) (fun _ h => nomatch h) dX0_bitsAt_17
set_option maxHeartbeats 4000000 in
set_option maxRecDepth 100000 in
theorem c_bitOf (l : Launch) (E : GE) (k : Nat) (hk : k < 64) : Met l yX0_bitOf wsX0_bitOf rmZ (va_Pc [.int (nI k)] (gB E [])) (vp_Sl (fun r => r = gbit k)) 0 0 (fun _ => False) := by
  refine w_met (cc := cX0_bitOf) (maxL := 1) (ret := some .long) (by decide) rfl (Nat.le_of_ble_eq_true rfl) ?_
  intro p e s m below meth c ls S hr hlocks hname hB hl
  obtain ⟨hx, hb, hml, hown, hts⟩ := id S
  have hl : lv_has ls 1 [(0, .int (nI k))] := hl
  refine lv_lconst (v := 1) hx hb dX0_bitOf_0 (by decide) ?_
  refine lv_iload_n hx hb dX0_bitOf_1 rfl (lv_at hl 0 rfl) ?_
  refine lv_lshl (v := gbit k) hx hb dX0_bitOf_2 ((wb_shl 1 hk).trans (by rw [Nat.one_mul]; rfl)) ?_
  exact W.lret hx hb hr (fun t ht hW => ⟨_, rfl, rfl, ht⟩) (fun _ h => nomatch h) dX0_bitOf_3
theorem gD1 {A : Nat → Prop} {q : Nat} {x : va_E} (h : A q) : va_D A [(q, x)] := by
  refine ⟨fun i j p r hi hj _ => ?_, fun k r hk => ?_⟩
  · have h1 := (List.getElem?_eq_some_iff.mp hi).1
    have h2 := (List.getElem?_eq_some_iff.mp hj).1
    simp only [List.length_cons, List.length_nil] at h1 h2
    omega
  · have h1 := (List.getElem?_eq_some_iff.mp hk).1
    simp only [List.length_cons, List.length_nil] at h1
    have h2 : k = 0 := by omega
    subst h2
    cases hk
    exact h
set_option maxHeartbeats 4000000 in
set_option maxRecDepth 100000 in
theorem c_put (l : Launch) (E : GE) (sz q n : Nat) (f f' : Nat → Int32) (i v : Int32) (hi : vp_in i n) (hn : n < 2 ^ 31) (hv : upd f i.toNatClampNeg v = f') : Met l yX0_put wsX0_put rmZ (va_Pc [.ref q, .int i, .int v] (gBw E sz [(q, gI E n f)])) (gQv E [(q, gI E n f)] [(q, gI E n f')] sz) 0 0 (va_A [(q, gI E n f)] sz) := by
  refine w_met (cc := cX0_put) (maxL := 3) (ret := none) (by decide) rfl (Nat.le_of_ble_eq_true rfl) ?_
  intro p e s m below meth c ls S hr hlocks hname hB hl
  obtain ⟨hsz, hP, hK, hD0⟩ := hB
  subst hsz
  have hD := hD0.self (sz := s.heap.size)
  have hS : va_S (va_A [(q, gI E n f)] s.heap.size) s.heap s.heap [] := va_S.rf
  obtain ⟨hx, hb, hml, hown, hts⟩ := id S
  have hl : lv_has ls 3 [(0, .ref q), (1, .int i), (2, .int v)] := hl
  obtain ⟨k, hk, rfl⟩ := vp_in_of hi hn
  refine lv_iload_n hx hb dX0_put_0 rfl (lv_at hl 1 rfl) ?_
  refine lv_if_lt (tgt := 14) hx hb dX0_put_1 (by decide) (fun h => absurd h (nI_pos (by omega))) (fun _ => ?_)
  refine lv_iload_n hx hb dX0_put_4 rfl (lv_at hl 1 rfl) ?_
  refine lv_aload_n hx hb dX0_put_5 rfl (lv_at hl 0 rfl) ?_
  refine va_alen hx hb hK hP 0 0 rfl rfl (v := nI n) rfl dX0_put_6 ?_
  refine lv_icmp_ge (tgt := 14) hx hb dX0_put_7 (by decide) (fun h => absurd h (nI_ge hk hn)) (fun _ => ?_)
  refine lv_aload_n hx hb dX0_put_10 rfl (lv_at hl 0 rfl) ?_
  refine lv_iload_n hx hb dX0_put_11 rfl (lv_at hl 1 rfl) ?_
  refine lv_iload_n hx hb dX0_put_12 rfl (lv_at hl 2 rfl) ?_
  refine g_ist hx hb hK hP hD hS 0 rfl hi hv dX0_put_13 (fun H locs hP hD hS => ?_)
  exact W.vret hx hb hr (fun t ht hW => ⟨⟨(), rfl, trivial, by show gP E _ t.heap; rw [ht]; exact hP⟩, hS.F ht⟩) hS.2.2 dX0_put_14
set_option maxHeartbeats 4000000 in
set_option maxRecDepth 100000 in
theorem c_putBits (l : Launch) (E : GE) (sz q n : Nat) (f f' : Nat → Int64) (i : Int32) (v : Int64) (hi : vp_in i n) (hn : n < 2 ^ 31) (hv : vp_updL f i.toNatClampNeg v = f') : Met l yX0_putBits wsX0_putBits rmZ (va_Pc [.ref q, .int i, .long v] (gBw E sz [(q, gJ E n f)])) (gQv E [(q, gJ E n f)] [(q, gJ E n f')] sz) 0 0 (va_A [(q, gJ E n f)] sz) := by
  refine w_met (cc := cX0_putBits) (maxL := 4) (ret := none) (by decide) rfl (Nat.le_of_ble_eq_true rfl) ?_
  intro p e s m below meth c ls S hr hlocks hname hB hl
  obtain ⟨hsz, hP, hK, hD0⟩ := hB
  subst hsz
  have hD := hD0.self (sz := s.heap.size)
  have hS : va_S (va_A [(q, gJ E n f)] s.heap.size) s.heap s.heap [] := va_S.rf
  obtain ⟨hx, hb, hml, hown, hts⟩ := id S
  have hl : lv_has ls 4 [(0, .ref q), (1, .int i), (2, .long v)] := hl
  obtain ⟨k, hk, rfl⟩ := vp_in_of hi hn
  refine lv_iload_n hx hb dX0_putBits_0 rfl (lv_at hl 1 rfl) ?_
  refine lv_if_lt (tgt := 14) hx hb dX0_putBits_1 (by decide) (fun h => absurd h (nI_pos (by omega))) (fun _ => ?_)
  refine lv_iload_n hx hb dX0_putBits_4 rfl (lv_at hl 1 rfl) ?_
  refine lv_aload_n hx hb dX0_putBits_5 rfl (lv_at hl 0 rfl) ?_
  refine va_alen hx hb hK hP 0 1 rfl rfl (v := nI n) rfl dX0_putBits_6 ?_
  refine lv_icmp_ge (tgt := 14) hx hb dX0_putBits_7 (by decide) (fun h => absurd h (nI_ge hk hn)) (fun _ => ?_)
  refine lv_aload_n hx hb dX0_putBits_10 rfl (lv_at hl 0 rfl) ?_
  refine lv_iload_n hx hb dX0_putBits_11 rfl (lv_at hl 1 rfl) ?_
  refine lv_lload_n hx hb dX0_putBits_12 rfl (lv_at hl 2 rfl) ?_
  refine g_lst hx hb hK hP hD hS 0 rfl hi hv dX0_putBits_13 (fun H locs hP hD hS => ?_)
  exact W.vret hx hb hr (fun t ht hW => ⟨⟨(), rfl, trivial, by show gP E _ t.heap; rw [ht]; exact hP⟩, hS.F ht⟩) hS.2.2 dX0_putBits_14
/-- one cell of a world, at its place -/
theorem va_A_one {A : Nat → Prop} {ws : va_W} {q0 q : Nat} {x : va_E} {H0 H : Heap} {locs : List Loc} (hD : va_D A ws) (hS : va_S A H0 H locs) (hA : ∀ q, H0.size ≤ q → A q) (ha : ws[q0]? = some (q, x)) : ∀ z, va_A [(q, x)] H.size z → A z := by
  rintro z (⟨k, e, hk⟩ | h)
  · have h1 := (List.getElem?_eq_some_iff.mp hk).1
    simp only [List.length_cons, List.length_nil] at h1
    have h2 : k = 0 := by omega
    subst h2
    cases hk
    exact hD.2 q0 _ ha
  · exact hA z (Nat.le_trans hS.1 h)
theorem gP_one {E : GE} {ws : va_W} {H : Heap} {q0 q : Nat} {x : va_E} (h : gP E ws H) (ha : ws[q0]? = some (q, x)) : gP E [(q, x)] H := by
  intro k r hk
  have h1 := (List.getElem?_eq_some_iff.mp hk).1
  simp only [List.length_cons, List.length_nil] at h1
  have h2 : k = 0 := by omega
  subst h2
  cases hk
  exact h q0 _ ha
/-- the world with one cell changed, the heap elsewhere as it was -/
theorem gP_put {E : GE} {A : Nat → Prop} {ws : va_W} {H H1 : Heap} {q0 q : Nat} {x x' : va_E} (h : gP E ws H) (hD : va_D A ws) (ha : ws[q0]? = some (q, x)) (h1 : gP E [(q, x')] H1) (ho : ∀ z : Nat, z < H.size → ¬ va_A [(q, x)] H.size z → H1[z]? = H[z]?) : gP E (ws.set q0 (q, x')) H1 := by
  intro k r hk
  rw [List.getElem?_set] at hk
  by_cases hq : q0 = k
  · rw [if_pos hq] at hk
    split at hk
    · cases hk
      exact h1 0 _ rfl
    · cases hk
  · rw [if_neg hq] at hk
    have hr := h k r hk
    refine va_at.kept hr (ho r.1 (va_at.lt hr) ?_)
    rintro (⟨j, e, hj⟩ | hz)
    · have h3 := (List.getElem?_eq_some_iff.mp hj).1
      simp only [List.length_cons, List.length_nil] at h3
      have h2 : j = 0 := by omega
      subst h2
      have h4 : q = r.1 := by cases hj; rfl
      exact hq (hD.1 q0 k _ _ ha hk h4)
    · exact absurd (va_at.lt hr) (Nat.not_lt.mpr hz)
section GA
variable {p : Program} {l : Launch} {e : Env} {R : Room} {s : State} {m : MethodId} {args : Array Value} {below : List Frame} {meth : Method} {c : Code} {H H0 : Heap} {locs : List Loc} {cells slots : Nat} {Q : State → Prop} {A : Nat → Prop}
variable {cc : ByteArray} {pc nL n index : Nat} {ls : Array Slot} {rest : List Value} {E : GE} {ws : va_W} {Ts : List Cond} {own : String} {b : Nat}
theorem hdX0_at : yX0_at.cls ≠ "java/lang/invoke/MethodHandle" ∧ yX0_at.cls ≠ "java/lang/invoke/VarHandle" ∧ (parseMethodDescriptor yX0_at.desc).map (fun d => d.parameters.length) = some 2 := by decide +kernel
theorem hdX0_put : yX0_put.cls ≠ "java/lang/invoke/MethodHandle" ∧ yX0_put.cls ≠ "java/lang/invoke/VarHandle" ∧ (parseMethodDescriptor yX0_put.desc).map (fun d => d.parameters.length) = some 3 := by decide +kernel
theorem hdX0_bitsAt : yX0_bitsAt.cls ≠ "java/lang/invoke/MethodHandle" ∧ yX0_bitsAt.cls ≠ "java/lang/invoke/VarHandle" ∧ (parseMethodDescriptor yX0_bitsAt.desc).map (fun d => d.parameters.length) = some 2 := by decide +kernel
theorem hdX0_putBits : yX0_putBits.cls ≠ "java/lang/invoke/MethodHandle" ∧ yX0_putBits.cls ≠ "java/lang/invoke/VarHandle" ∧ (parseMethodDescriptor yX0_putBits.desc).map (fun d => d.parameters.length) = some 3 := by decide +kernel
theorem hdX0_bitOf : yX0_bitOf.cls ≠ "java/lang/invoke/MethodHandle" ∧ yX0_bitOf.cls ≠ "java/lang/invoke/VarHandle" ∧ (parseMethodDescriptor yX0_bitOf.desc).map (fun d => d.parameters.length) = some 1 := by decide +kernel
theorem g_at (S : CallFix p m c cc nL s args Ts own) (hg : GoodIn Ts (va_wsS own index yX0_at wsX0_at)) (hK : gK E s) (hP : gP E ws H) (q0 : Nat) {f : Nat → Int32} (ha : ws[q0]? = some (b, gI E n f)) (hn : n < 2 ^ 31) {i v : Int32} (hin : vp_in i n) (hv : f i.toNatClampNeg = v) (hsize : ls.size = nL) (hW : (rest.map fun v => v.category).sum ≤ 8) (hf : cells ≤ R.cells ∧ slots ≤ R.slots) (hR : 1 ≤ R.frames ∧ 21 ≤ R.locals) (hdg : decode cc pc = .ok (.invokestatic index, 3))
    (kk : W p l e R s m args below meth c H locs cells slots Q (F0 m (pc + 3) ls (.int v :: rest))) : W p l e R s m args below meth c H locs cells slots Q (F0 m pc ls (.int i :: .ref b :: rest)) :=
  g_si (As := [.ref b, .int i]) (rest := rest) S (c_at l E b n f i v hin hn hv) (va_cwS 2 S.2.2.2.2 hg rfl rfl rfl hdX0_at hR) hK (gP_one hP ha) rfl hsize rfl hW hf hdg kk
theorem g_bitsAt (S : CallFix p m c cc nL s args Ts own) (hg : GoodIn Ts (va_wsS own index yX0_bitsAt wsX0_bitsAt)) (hK : gK E s) (hP : gP E ws H) (q0 : Nat) {f : Nat → Int64} (ha : ws[q0]? = some (b, gJ E n f)) (hn : n < 2 ^ 31) {i : Int32} {v : Int64} (hin : vp_in i n) (hv : f i.toNatClampNeg = v) (hsize : ls.size = nL) (hW : (rest.map fun v => v.category).sum ≤ 8) (hf : cells ≤ R.cells ∧ slots ≤ R.slots) (hR : 1 ≤ R.frames ∧ 21 ≤ R.locals) (hdg : decode cc pc = .ok (.invokestatic index, 3))
    (kk : W p l e R s m args below meth c H locs cells slots Q (F0 m (pc + 3) ls (.long v :: rest))) : W p l e R s m args below meth c H locs cells slots Q (F0 m pc ls (.int i :: .ref b :: rest)) :=
  g_sl (As := [.ref b, .int i]) (rest := rest) S (c_bitsAt l E b n f i v hin hn hv) (va_cwS 2 S.2.2.2.2 hg rfl rfl rfl hdX0_bitsAt hR) hK (gP_one hP ha) rfl hsize rfl hW hf hdg kk
theorem g_bitOf (S : CallFix p m c cc nL s args Ts own) (hg : GoodIn Ts (va_wsS own index yX0_bitOf wsX0_bitOf)) (hK : gK E s) {k : Nat} (hk : k < 64) (hsize : ls.size = nL) (hW : (rest.map fun v => v.category).sum ≤ 8) (hf : cells ≤ R.cells ∧ slots ≤ R.slots) (hR : 1 ≤ R.frames ∧ 20 ≤ R.locals) (hdg : decode cc pc = .ok (.invokestatic index, 3))
    (kk : W p l e R s m args below meth c H locs cells slots Q (F0 m (pc + 3) ls (.long (gbit k) :: rest))) : W p l e R s m args below meth c H locs cells slots Q (F0 m pc ls (.int (nI k) :: rest)) :=
  g_sl (As := [.int (nI k)]) (rest := rest) S (c_bitOf l E k hk) (va_cwS 1 S.2.2.2.2 hg rfl rfl rfl hdX0_bitOf hR) hK (fun _ _ h => nomatch h) rfl hsize rfl hW hf hdg kk
theorem g_put (S : CallFix p m c cc nL s args Ts own) (hg : GoodIn Ts (va_wsS own index yX0_put wsX0_put)) (hK : gK E s) (hP : gP E ws H) (hD : va_D A ws) (hS : va_S A H0 H locs) (hA : ∀ q, H0.size ≤ q → A q) (q0 : Nat) {f f' : Nat → Int32} (ha : ws[q0]? = some (b, gI E n f)) (hn : n < 2 ^ 31) {i v : Int32} (hin : vp_in i n) (hv : upd f i.toNatClampNeg v = f') (hsize : ls.size = nL) (hW : (rest.map fun v => v.category).sum ≤ 8) (hf : cells ≤ R.cells ∧ slots ≤ R.slots) (hR : 1 ≤ R.frames ∧ 22 ≤ R.locals) (hdg : decode cc pc = .ok (.invokestatic index, 3))
    (kk : ∀ (H1 : Heap) (locs1 : List Loc), gP E (ws.set q0 (b, gI E n f')) H1 → va_D A (ws.set q0 (b, gI E n f')) → va_S A H0 H1 locs1 → W p l e R s m args below meth c H1 locs1 cells slots Q (F0 m (pc + 3) ls rest)) : W p l e R s m args below meth c H locs cells slots Q (F0 m pc ls (.int v :: .int i :: .ref b :: rest)) :=
  va_callv (va_runS (As := [.ref b, .int i, .int v]) (rest := rest) S (c_put l E H.size b n f f' i v hin hn hv) (va_cwS 3 S.2.2.2.2 hg rfl rfl rfl hdX0_put hR) (gBw_preS (gP_one hP ha) hK (gD1 (A := fun _ => True) trivial) _) rfl rfl hsize rfl (lv_room hW) hdg hf) hS (fun q _ h => va_A_one hD hS hA ha q h) (va_A_one hD hS hA ha)
    (fun _ t H1 locs1 ht _ _ hB _ ho hS1 => kk H1 locs1 (gP_put hP hD ha (by rw [← ht]; exact hB) ho) (hD.set ha) hS1)
theorem g_putBits (S : CallFix p m c cc nL s args Ts own) (hg : GoodIn Ts (va_wsS own index yX0_putBits wsX0_putBits)) (hK : gK E s) (hP : gP E ws H) (hD : va_D A ws) (hS : va_S A H0 H locs) (hA : ∀ q, H0.size ≤ q → A q) (q0 : Nat) {f f' : Nat → Int64} (ha : ws[q0]? = some (b, gJ E n f)) (hn : n < 2 ^ 31) {i : Int32} {v : Int64} (hin : vp_in i n) (hv : vp_updL f i.toNatClampNeg v = f') (hsize : ls.size = nL) (hW : (rest.map fun v => v.category).sum ≤ 8) (hf : cells ≤ R.cells ∧ slots ≤ R.slots) (hR : 1 ≤ R.frames ∧ 23 ≤ R.locals) (hdg : decode cc pc = .ok (.invokestatic index, 3))
    (kk : ∀ (H1 : Heap) (locs1 : List Loc), gP E (ws.set q0 (b, gJ E n f')) H1 → va_D A (ws.set q0 (b, gJ E n f')) → va_S A H0 H1 locs1 → W p l e R s m args below meth c H1 locs1 cells slots Q (F0 m (pc + 3) ls rest)) : W p l e R s m args below meth c H locs cells slots Q (F0 m pc ls (.long v :: .int i :: .ref b :: rest)) :=
  va_callv (va_runS (As := [.ref b, .int i, .long v]) (rest := rest) S (c_putBits l E H.size b n f f' i v hin hn hv) (va_cwS 3 S.2.2.2.2 hg rfl rfl rfl hdX0_putBits hR) (gBw_preS (gP_one hP ha) hK (gD1 (A := fun _ => True) trivial) _) rfl rfl hsize rfl (lv_room hW) hdg hf) hS (fun q _ h => va_A_one hD hS hA ha q h) (va_A_one hD hS hA ha)
    (fun _ t H1 locs1 ht _ _ hB _ ho hS1 => kk H1 locs1 (gP_put hP hD ha (by rw [← ht]; exact hB) ho) (hD.set ha) hS1)
end GA
