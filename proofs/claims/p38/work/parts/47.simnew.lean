/-! the law's small methods: rows made anew, numbers chosen -/
def gHQ (E : GE) (sz : Nat) (X : Heap → Prop) (U : State) : Prop := U.heap.size = sz ∧ X U.heap ∧ gK E U ∧ gQ U
theorem gHQ_blind {E : GE} {sz : Nat} {X : Heap → Prop} {av : List Value} : FrameBlind (va_Pc av (gHQ E sz X)) := fun a U g mk q => by
  obtain ⟨q0, q1, qP, qK, qQ⟩ := q
  exact ⟨q0, q1, qP, va_K.moved (u := U) (U := U.calling g mk a) (Vm.Alike.refl U.vm) qK, gQ.moved (u := U) (U := U.calling g mk a) (Vm.Alike.refl U.vm) qQ⟩
theorem gHQ_preS {E : GE} {X : Heap → Prop} {s : State} {H : Heap} (hX : X H) (hK : gK E s) (hQ : gQ s) (As : List Value) : PreS s H (va_Pc As (gHQ E H.size X)) As :=
  ⟨gHQ_blind, fun U hU hW => ⟨rfl, by rw [hU], by rw [hU]; exact hX, va_K.moved hW.alike hK, gQ.moved hW.alike hQ⟩⟩
theorem hdX1_with : yX1_with.cls ≠ "java/lang/invoke/MethodHandle" ∧ yX1_with.cls ≠ "java/lang/invoke/VarHandle" ∧ (parseMethodDescriptor yX1_with.desc).map (fun d => d.parameters.length) = some 2 := by decide +kernel
theorem hdX1_with_ : yX1_with_.cls ≠ "java/lang/invoke/MethodHandle" ∧ yX1_with_.cls ≠ "java/lang/invoke/VarHandle" ∧ (parseMethodDescriptor yX1_with_.desc).map (fun d => d.parameters.length) = some 2 := by decide +kernel
theorem hdL_less : yL_less.cls ≠ "java/lang/invoke/MethodHandle" ∧ yL_less.cls ≠ "java/lang/invoke/VarHandle" ∧ (parseMethodDescriptor yL_less.desc).map (fun d => d.parameters.length) = some 1 := by decide +kernel
theorem hdL_below : yL_below.cls ≠ "java/lang/invoke/MethodHandle" ∧ yL_below.cls ≠ "java/lang/invoke/VarHandle" ∧ (parseMethodDescriptor yL_below.desc).map (fun d => d.parameters.length) = some 2 := by decide +kernel
theorem hdL_cell : yL_cell.cls ≠ "java/lang/invoke/MethodHandle" ∧ yL_cell.cls ≠ "java/lang/invoke/VarHandle" ∧ (parseMethodDescriptor yL_cell.desc).map (fun d => d.parameters.length) = some 2 := by decide +kernel
set_option maxHeartbeats 4000000 in
set_option maxRecDepth 100000 in
theorem c_with (l : Launch) (E : GE) (sz r0 n q : Nat) (f : Nat → Nat) (hn : n ≤ 40) : Met l yX1_with wsX1_with { frames := 0, cells := 1, slots := 41, locals := 0 } (va_Pc [.ref r0, .ref q] (gHQ E sz (fun H => gP E [(r0, gR E n f)] H ∧ (∀ k, k < n → isI E H (f k)) ∧ isI E H q))) (va_Qr (fun _ : Unit => True) (fun _ ra t => sz ≤ ra ∧ gP E [(ra, gR E (n + 1) (va_up f n q))] t.heap) (fun _ => False)) 1 41 (fun _ => False) := by
  refine w_met (cc := cX1_with) (maxL := 4) (ret := some (.array (.array .int))) (by decide) rfl (Nat.le_of_ble_eq_true rfl) ?_
  intro p e s m below meth c ls S hr hlocks hname hB hl
  obtain ⟨hsz, ⟨hP0, hI0, hq0⟩, hK, hQ⟩ := hB
  subst hsz
  have hS : va_S (nA s) s.heap s.heap [] := va_S.rf
  obtain ⟨hx, hb, hml, hown, hts⟩ := id S
  have hl : lv_has ls 4 [(0, .ref r0), (1, .ref q)] := hl
  refine lv_aload_n hx hb dX1_with_0 rfl (lv_at hl 0 rfl) ?_
  refine s_alenR hx hb hK hP0 dX1_with_1 ?_
  refine lv_iconst (v := 1) hx hb dX1_with_2 (by decide) ?_
  refine lv_iadd hx hb dX1_with_3 ?_
  rw [nI_1 n]
  refine s_newR hx hb hown (hts (.classLink RX1 7 "[I") (by decide +kernel)) hQ hK hS (N := n + 1) (by omega) (by show 0 + 1 ≤ 1; omega) (by show 0 + (n + 1) ≤ 41; omega) dX1_with_4 (fun ra H hra _ _ hZ hS => ?_)
  have hz : nA s ra := by rw [hra]; exact Nat.le_refl _
  refine lv_astore_n (lv' := [(2, .ref ra), (0, .ref r0), (1, .ref q)]) hx hb dX1_with_7 rfl hl (by decide) rfl (fun ls hl => ?_)
  refine lv_iconst (v := 0) hx hb dX1_with_8 (by decide) ?_
  refine lv_istore_n (lv' := [(3, .int 0), (2, .ref ra), (0, .ref r0), (1, .ref q)]) hx hb dX1_with_9 rfl hl (by decide) rfl (fun ls hl => ?_)
  have key : ∀ (d i : Nat) (H : Heap) (locs : List Loc) (ls : Array Slot), i + d = n → va_S (nA s) s.heap H locs → gP E [(ra, gRo E (n + 1) (fun j => if j < i then some (f j) else none))] H → lv_has ls 4 [(3, .int (nI i)), (2, .ref ra), (0, .ref r0), (1, .ref q)] → W p l e (headSpec wsX1_with { frames := 0, cells := 1, slots := 41, locals := 0 }).room s m [.ref r0, .ref q].toArray below meth c H locs (0 + 1) (0 + (n + 1)) (MQ below (va_Qr (fun _ : Unit => True) (fun _ ra t => s.heap.size ≤ ra ∧ gP E [(ra, gR E (n + 1) (va_up f n q))] t.heap) (fun _ => False)) [.ref r0, .ref q].toArray s 1 41 (fun _ => False)) (F0 m 10 ls []) := by
    intro d
    induction d with
    | zero =>
      intro i H locs ls hi hS hZ hl
      obtain rfl : i = n := by omega
      refine lv_iload_n hx hb dX1_with_10 rfl (lv_at hl 0 rfl) ?_
      refine lv_aload_n hx hb dX1_with_11 rfl (lv_at hl 2 rfl) ?_
      refine s_alenR hx hb hK (gP.up hP0 (nA_up hS)) dX1_with_12 ?_
      refine lv_icmp_ge (tgt := 28) hx hb dX1_with_13 (by decide) (fun _ => ?_) (fun z => absurd (nI_le (Nat.le_refl _) (by omega)) z)
      refine lv_aload_n hx hb dX1_with_28 rfl (lv_at hl 1 rfl) ?_
      refine lv_aload_n hx hb dX1_with_29 rfl (lv_at hl 2 rfl) ?_
      refine s_alenR hx hb hK (gP.up hP0 (nA_up hS)) dX1_with_30 ?_
      refine lv_aload_n hx hb dX1_with_31 rfl (lv_at hl 3 rfl) ?_
      refine s_ast hx hb hK hQ hZ (hq0.kept (nA_up hS _ hq0.lt)) hz hS (k := i) (by omega) (by omega) rfl dX1_with_32 (fun H locs _ _ hZ hS => ?_)
      refine lv_aload_n hx hb dX1_with_33 rfl (lv_at hl 1 rfl) ?_
      have hZ : gP E [(ra, gR E (i + 1) (va_up f i q))] H := gR_cong hZ (fun j hj => by
        unfold va_up
        by_cases e : j = i
        · rw [if_pos e, if_pos e]
        · rw [if_neg e, if_neg e]; dsimp only; rw [if_pos (by omega)])
      refine va_forget (fun q hq => hS.2.2 q hq) ?_
      refine W.widen (k := 1) (n := 41) (by omega) (by omega) ?_
      exact W.aret (v := .ref ra) (rt := .array (.array .int)) hx hb hr (Or.inr ⟨_, rfl⟩) (Or.inr ⟨_, rfl⟩) (fun t ht hW => ⟨⟨(), _, rfl, trivial, hz, by show gP E _ t.heap; rw [ht]; exact hZ⟩, oF hS ht⟩) (fun _ h => nomatch h) dX1_with_34
    | succ d ih =>
      intro i H locs ls hi hS hZ hl
      refine lv_iload_n hx hb dX1_with_10 rfl (lv_at hl 0 rfl) ?_
      refine lv_aload_n hx hb dX1_with_11 rfl (lv_at hl 2 rfl) ?_
      refine s_alenR hx hb hK (gP.up hP0 (nA_up hS)) dX1_with_12 ?_
      refine lv_icmp_ge (tgt := 28) hx hb dX1_with_13 (by decide) (fun z => absurd z (nI_ge (by omega) (by omega))) (fun _ => ?_)
      refine lv_aload_n hx hb dX1_with_16 rfl (lv_at hl 1 rfl) ?_
      refine lv_iload_n hx hb dX1_with_17 rfl (lv_at hl 0 rfl) ?_
      refine lv_aload_n hx hb dX1_with_18 rfl (lv_at hl 2 rfl) ?_
      refine lv_iload_n hx hb dX1_with_19 rfl (lv_at hl 0 rfl) ?_
      refine s_ald hx hb hK (gP.up hP0 (nA_up hS)) (k := i) (by omega) (by omega) rfl dX1_with_20 ?_
      refine s_ast hx hb hK hQ hZ ((hI0 i (by omega)).kept (nA_up hS _ (hI0 i (by omega)).lt)) hz hS (k := i) (by omega) (by omega) (f' := fun j => if j < i + 1 then some (f j) else none) (by
        funext j
        unfold va_up
        by_cases e : j = i
        · rw [if_pos e, if_pos (by omega), e]
        · rw [if_neg e]
          dsimp only
          by_cases g : j < i
          · rw [if_pos g, if_pos (by omega)]
          · rw [if_neg g, if_neg (by omega)]) dX1_with_21 (fun H locs _ _ hZ hS => ?_)
      refine lv_iinc (v := nI (i + 1)) (lv' := [(3, .int (nI (i + 1))), (2, .ref ra), (0, .ref r0), (1, .ref q)]) hx hb dX1_with_22 hl (k := 0) rfl (nI_1 i) (by decide) rfl (fun ls hl => ?_)
      refine lv_goto (tgt := 10) hx hb dX1_with_25 (by decide) ?_
      exact ih (i + 1) H locs ls (by omega) hS hZ hl
  exact key n 0 H _ ls (by omega) hS (gR_cong hZ (fun j hj => (if_neg (by omega)).symm)) hl
set_option maxHeartbeats 4000000 in
set_option maxRecDepth 100000 in
theorem c_with_ (l : Launch) (E : GE) (sz r0 n : Nat) (f : Nat → Int32) (x : Int32) (hn : n ≤ 40) : Met l yX1_with_ wsX1_with_ { frames := 0, cells := 1, slots := 41, locals := 0 } (va_Pc [.ref r0, .int x] (gHQ E sz (fun H => gP E [(r0, gI E n f)] H))) (va_Qr (fun _ : Unit => True) (fun _ ra t => sz ≤ ra ∧ gP E [(ra, gI E (n + 1) (upd f n x))] t.heap) (fun _ => False)) 1 41 (fun _ => False) := by
  refine w_met (cc := cX1_with_) (maxL := 4) (ret := some (.array .int)) (by decide) rfl (Nat.le_of_ble_eq_true rfl) ?_
  intro p e s m below meth c ls S hr hlocks hname hB hl
  obtain ⟨hsz, hP0, hK, hQ⟩ := hB
  subst hsz
  have hS : va_S (nA s) s.heap s.heap [] := va_S.rf
  obtain ⟨hx, hb, hml, hown, hts⟩ := id S
  have hl : lv_has ls 4 [(0, .ref r0), (1, .int x)] := hl
  refine lv_aload_n hx hb dX1_with__0 rfl (lv_at hl 0 rfl) ?_
  refine s_alenI hx hb hK hP0 dX1_with__1 ?_
  refine lv_iconst (v := 1) hx hb dX1_with__2 (by decide) ?_
  refine lv_iadd hx hb dX1_with__3 ?_
  rw [nI_1 n]
  refine s_newI hx hb (hts (.arrayClass .int) (by decide +kernel)) hK hS (N := n + 1) (by omega) (by show 0 + 1 ≤ 1; omega) (by show 0 + (n + 1) ≤ 41; omega) dX1_with__4 (fun ra H hra _ _ hZ hS => ?_)
  have hz : nA s ra := by rw [hra]; exact Nat.le_refl _
  refine lv_astore_n (lv' := [(2, .ref ra), (0, .ref r0), (1, .int x)]) hx hb dX1_with__6 rfl hl (by decide) rfl (fun ls hl => ?_)
  refine lv_iconst (v := 0) hx hb dX1_with__7 (by decide) ?_
  refine lv_istore_n (lv' := [(3, .int 0), (2, .ref ra), (0, .ref r0), (1, .int x)]) hx hb dX1_with__8 rfl hl (by decide) rfl (fun ls hl => ?_)
  have key : ∀ (d i : Nat) (H : Heap) (locs : List Loc) (ls : Array Slot), i + d = n → va_S (nA s) s.heap H locs → gP E [(ra, gI E (n + 1) (fun j => if j < i then f j else 0))] H → lv_has ls 4 [(3, .int (nI i)), (2, .ref ra), (0, .ref r0), (1, .int x)] → W p l e (headSpec wsX1_with_ { frames := 0, cells := 1, slots := 41, locals := 0 }).room s m [.ref r0, .int x].toArray below meth c H locs (0 + 1) (0 + (n + 1)) (MQ below (va_Qr (fun _ : Unit => True) (fun _ ra t => s.heap.size ≤ ra ∧ gP E [(ra, gI E (n + 1) (upd f n x))] t.heap) (fun _ => False)) [.ref r0, .int x].toArray s 1 41 (fun _ => False)) (F0 m 9 ls []) := by
    intro d
    induction d with
    | zero =>
      intro i H locs ls hi hS hZ hl
      obtain rfl : i = n := by omega
      refine lv_iload_n hx hb dX1_with__9 rfl (lv_at hl 0 rfl) ?_
      refine lv_aload_n hx hb dX1_with__10 rfl (lv_at hl 2 rfl) ?_
      refine s_alenI hx hb hK (gP.up hP0 (nA_up hS)) dX1_with__11 ?_
      refine lv_icmp_ge (tgt := 27) hx hb dX1_with__12 (by decide) (fun _ => ?_) (fun z => absurd (nI_le (Nat.le_refl _) (by omega)) z)
      refine lv_aload_n hx hb dX1_with__27 rfl (lv_at hl 1 rfl) ?_
      refine lv_aload_n hx hb dX1_with__28 rfl (lv_at hl 2 rfl) ?_
      refine s_alenI hx hb hK (gP.up hP0 (nA_up hS)) dX1_with__29 ?_
      refine lv_iload_n hx hb dX1_with__30 rfl (lv_at hl 3 rfl) ?_
      refine s_ist hx hb hK hZ hz hS (k := i) (by omega) (by omega) rfl dX1_with__31 (fun H locs _ _ hZ hS => ?_)
      refine lv_aload_n hx hb dX1_with__32 rfl (lv_at hl 1 rfl) ?_
      have hZ : gP E [(ra, gI E (i + 1) (upd f i x))] H := gI_cong hZ (fun j hj => by
        by_cases e : j = i
        · subst e; rw [pk_us, pk_us]
        · rw [pk_un e, pk_un e, if_pos (by omega)])
      refine va_forget (fun q hq => hS.2.2 q hq) ?_
      refine W.widen (k := 1) (n := 41) (by omega) (by omega) ?_
      exact W.aret (v := .ref ra) (rt := .array .int) hx hb hr (Or.inr ⟨_, rfl⟩) (Or.inr ⟨_, rfl⟩) (fun t ht hW => ⟨⟨(), _, rfl, trivial, hz, by show gP E _ t.heap; rw [ht]; exact hZ⟩, oF hS ht⟩) (fun _ h => nomatch h) dX1_with__33
    | succ d ih =>
      intro i H locs ls hi hS hZ hl
      refine lv_iload_n hx hb dX1_with__9 rfl (lv_at hl 0 rfl) ?_
      refine lv_aload_n hx hb dX1_with__10 rfl (lv_at hl 2 rfl) ?_
      refine s_alenI hx hb hK (gP.up hP0 (nA_up hS)) dX1_with__11 ?_
      refine lv_icmp_ge (tgt := 27) hx hb dX1_with__12 (by decide) (fun z => absurd z (nI_ge (by omega) (by omega))) (fun _ => ?_)
      refine lv_aload_n hx hb dX1_with__15 rfl (lv_at hl 1 rfl) ?_
      refine lv_iload_n hx hb dX1_with__16 rfl (lv_at hl 0 rfl) ?_
      refine lv_aload_n hx hb dX1_with__17 rfl (lv_at hl 2 rfl) ?_
      refine lv_iload_n hx hb dX1_with__18 rfl (lv_at hl 0 rfl) ?_
      refine s_ild hx hb hK (gP.up hP0 (nA_up hS)) (k := i) (by omega) (by omega) rfl dX1_with__19 ?_
      refine s_ist hx hb hK hZ hz hS (k := i) (by omega) (by omega) (f' := fun j => if j < i + 1 then f j else 0) (by
        funext j
        by_cases e : j = i
        · subst e; rw [pk_us, if_pos (by omega)]
        · rw [pk_un e]
          by_cases g : j < i
          · rw [if_pos g, if_pos (by omega)]
          · rw [if_neg g, if_neg (by omega)]) dX1_with__20 (fun H locs _ _ hZ hS => ?_)
      refine lv_iinc (v := nI (i + 1)) (lv' := [(3, .int (nI (i + 1))), (2, .ref ra), (0, .ref r0), (1, .int x)]) hx hb dX1_with__21 hl (k := 0) rfl (nI_1 i) (by decide) rfl (fun ls hl => ?_)
      refine lv_goto (tgt := 9) hx hb dX1_with__24 (by decide) ?_
      exact ih (i + 1) H locs ls (by omega) hS hZ hl
  exact key n 0 H _ ls (by omega) hS (gI_cong hZ (fun j hj => (if_neg (by omega)).symm)) hl
set_option maxHeartbeats 4000000 in
set_option maxRecDepth 100000 in
theorem c_less (l : Launch) (E : GE) (sz r0 n : Nat) (f : Nat → Int32) (hn : n ≤ 40) : Met l yL_less wsL_less { frames := 0, cells := 1, slots := 41, locals := 0 } (va_Pc [.ref r0] (gHQ E sz (fun H => gP E [(r0, gI E (n + 1) f)] H))) (va_Qr (fun _ : Unit => True) (fun _ ra t => sz ≤ ra ∧ gP E [(ra, gI E n f)] t.heap) (fun _ => False)) 1 41 (fun _ => False) := by
  refine w_met (cc := cL_less) (maxL := 3) (ret := some (.array .int)) (by decide) rfl (Nat.le_of_ble_eq_true rfl) ?_
  intro p e s m below meth c ls S hr hlocks hname hB hl
  obtain ⟨hsz, hP0, hK, hQ⟩ := hB
  subst hsz
  have hS : va_S (nA s) s.heap s.heap [] := va_S.rf
  obtain ⟨hx, hb, hml, hown, hts⟩ := id S
  have hl : lv_has ls 3 [(0, .ref r0)] := hl
  refine lv_aload_n hx hb dL_less_0 rfl (lv_at hl 0 rfl) ?_
  refine s_alenI hx hb hK hP0 dL_less_1 ?_
  refine lv_iconst (v := 1) hx hb dL_less_2 (by decide) ?_
  refine lv_isub hx hb dL_less_3 ?_
  rw [nI_pred]
  refine s_newI hx hb (hts (.arrayClass .int) (by decide +kernel)) hK hS (N := n) (by omega) (by show 0 + 1 ≤ 1; omega) (by show 0 + n ≤ 41; omega) dL_less_4 (fun ra H hra _ _ hZ hS => ?_)
  have hz : nA s ra := by rw [hra]; exact Nat.le_refl _
  refine lv_astore_n (lv' := [(1, .ref ra), (0, .ref r0)]) hx hb dL_less_6 rfl hl (by decide) rfl (fun ls hl => ?_)
  refine lv_iconst (v := 0) hx hb dL_less_7 (by decide) ?_
  refine lv_istore_n (lv' := [(2, .int 0), (1, .ref ra), (0, .ref r0)]) hx hb dL_less_8 rfl hl (by decide) rfl (fun ls hl => ?_)
  have key : ∀ (d i : Nat) (H : Heap) (locs : List Loc) (ls : Array Slot), i + d = n → va_S (nA s) s.heap H locs → gP E [(ra, gI E n (fun j => if j < i then f j else 0))] H → lv_has ls 3 [(2, .int (nI i)), (1, .ref ra), (0, .ref r0)] → W p l e (headSpec wsL_less { frames := 0, cells := 1, slots := 41, locals := 0 }).room s m [.ref r0].toArray below meth c H locs (0 + 1) (0 + n) (MQ below (va_Qr (fun _ : Unit => True) (fun _ ra t => s.heap.size ≤ ra ∧ gP E [(ra, gI E n f)] t.heap) (fun _ => False)) [.ref r0].toArray s 1 41 (fun _ => False)) (F0 m 9 ls []) := by
    intro d
    induction d with
    | zero =>
      intro i H locs ls hi hS hZ hl
      obtain rfl : i = n := by omega
      refine lv_iload_n hx hb dL_less_9 rfl (lv_at hl 0 rfl) ?_
      refine lv_aload_n hx hb dL_less_10 rfl (lv_at hl 1 rfl) ?_
      refine s_alenI hx hb hK hZ dL_less_11 ?_
      refine lv_icmp_ge (tgt := 27) hx hb dL_less_12 (by decide) (fun _ => ?_) (fun z => absurd (nI_le (Nat.le_refl _) (by omega)) z)
      refine lv_aload_n hx hb dL_less_27 rfl (lv_at hl 1 rfl) ?_
      have hZ : gP E [(ra, gI E i f)] H := gI_cong hZ (fun j hj => if_pos hj)
      refine va_forget (fun q hq => hS.2.2 q hq) ?_
      refine W.widen (k := 1) (n := 41) (by omega) (by omega) ?_
      exact W.aret (v := .ref ra) (rt := .array .int) hx hb hr (Or.inr ⟨_, rfl⟩) (Or.inr ⟨_, rfl⟩) (fun t ht hW => ⟨⟨(), _, rfl, trivial, hz, by show gP E _ t.heap; rw [ht]; exact hZ⟩, oF hS ht⟩) (fun _ h => nomatch h) dL_less_28
    | succ d ih =>
      intro i H locs ls hi hS hZ hl
      refine lv_iload_n hx hb dL_less_9 rfl (lv_at hl 0 rfl) ?_
      refine lv_aload_n hx hb dL_less_10 rfl (lv_at hl 1 rfl) ?_
      refine s_alenI hx hb hK hZ dL_less_11 ?_
      refine lv_icmp_ge (tgt := 27) hx hb dL_less_12 (by decide) (fun z => absurd z (nI_ge (by omega) (by omega))) (fun _ => ?_)
      refine lv_aload_n hx hb dL_less_15 rfl (lv_at hl 1 rfl) ?_
      refine lv_iload_n hx hb dL_less_16 rfl (lv_at hl 0 rfl) ?_
      refine lv_aload_n hx hb dL_less_17 rfl (lv_at hl 2 rfl) ?_
      refine lv_iload_n hx hb dL_less_18 rfl (lv_at hl 0 rfl) ?_
      refine s_ild hx hb hK (gP.up hP0 (nA_up hS)) (k := i) (by omega) (by omega) rfl dL_less_19 ?_
      refine s_ist hx hb hK hZ hz hS (k := i) (by omega) (by omega) (f' := fun j => if j < i + 1 then f j else 0) (by
        funext j
        by_cases e : j = i
        · subst e; rw [pk_us, if_pos (by omega)]
        · rw [pk_un e]
          by_cases g : j < i
          · rw [if_pos g, if_pos (by omega)]
          · rw [if_neg g, if_neg (by omega)]) dL_less_20 (fun H locs _ _ hZ hS => ?_)
      refine lv_iinc (v := nI (i + 1)) (lv' := [(2, .int (nI (i + 1))), (1, .ref ra), (0, .ref r0)]) hx hb dL_less_21 hl (k := 0) rfl (nI_1 i) (by decide) rfl (fun ls hl => ?_)
      refine lv_goto (tgt := 9) hx hb dL_less_24 (by decide) ?_
      exact ih (i + 1) H locs ls (by omega) hS hZ hl
  exact key n 0 H _ ls (by omega) hS (gI_cong hZ (fun j hj => (if_neg (by omega)).symm)) hl
/-- the law's choice of a number below n -/
def bw (v : Int32) (n : Nat) : Nat := v.toBitVec.toNat % 2 ^ 31 % n
theorem bw_lt (v : Int32) {n : Nat} (h : 0 < n) : bw v n < n := Nat.mod_lt _ h
set_option maxHeartbeats 4000000 in
set_option maxRecDepth 100000 in
theorem c_below (l : Launch) (E : GE) (v : Int32) (n : Nat) (h0 : 0 < n) (hn : n < 2 ^ 31) : Met l yL_below wsL_below rmZ (va_Pc [.int v, .int (nI n)] (gB E [])) (vp_Si (fun r => r = nI (bw v n))) 0 0 (fun _ => False) := by
  refine w_met (cc := cL_below) (maxL := 2) (ret := some .int) (by decide) rfl (Nat.le_of_ble_eq_true rfl) ?_
  intro p e s m below meth c ls S hr hlocks hname hB hl
  obtain ⟨hx, hb, hml, hown, hts⟩ := id S
  have hl : lv_has ls 2 [(0, .int v), (1, .int (nI n))] := hl
  refine lv_iload_n hx hb dL_below_0 rfl (lv_at hl 0 rfl) ?_
  refine lv_ldc (v := 2147483647) hx hb hown (hts (.constant RL 7 (2147483647)) (by decide +kernel)) dL_below_1 ?_
  refine lv_iand hx hb dL_below_3 ?_
  rw [pk_and v (m := 2147483647) 31 (by decide)]
  refine lv_iload_n hx hb dL_below_4 rfl (lv_at hl 1 rfl) ?_
  refine lv_irem hx hb dL_below_5 (nI_ne0 h0 hn) ?_
  rw [pk_rem (Nat.mod_lt _ (by decide)) h0 hn]
  exact W.iret hx hb hr (fun t ht hW => ⟨_, rfl, rfl, ht⟩) (fun _ h => nomatch h) dL_below_6
theorem gX_blind {b L : Nat} {xs : Nat → Int32} {av : List Value} : FrameBlind (va_Pc av (fun U => va_X b L xs U U.heap)) := fun a U g mk q => by
  obtain ⟨q0, qX⟩ := q
  exact ⟨q0, va_X.moved (u := U) (U := U.calling g mk a) (Vm.Alike.refl U.vm) qX⟩
set_option maxHeartbeats 4000000 in
set_option maxRecDepth 100000 in
theorem c_cell (l : Launch) (b L : Nat) (xs : Nat → Int32) (k : Nat) (hL : L ≤ 260) (hk : k < 2 ^ 31) : Met l yL_cell wsL_cell rmZ (va_Pc [.ref b, .int (nI k)] (fun U => va_X b L xs U U.heap)) (vp_Si (fun _ => True)) 0 0 (fun _ => False) := by
  refine w_met (cc := cL_cell) (maxL := 2) (ret := some .int) (by decide) rfl (Nat.le_of_ble_eq_true rfl) ?_
  intro p e s m below meth c ls S hr hlocks hname hX hl
  obtain ⟨hx, hb, hml, hown, hts⟩ := id S
  have hl : lv_has ls 2 [(0, .ref b), (1, .int (nI k))] := hl
  have hbl : b < s.heap.size := by obtain ⟨scr, h1, _⟩ := hX; exact (Array.getElem?_eq_some_iff.mp h1).1
  have hS : va_S (nA s) s.heap s.heap [] := va_S.rf
  refine lv_iload_n hx hb dL_cell_0 rfl (lv_at hl 1 rfl) ?_
  refine lv_aload_n hx hb dL_cell_1 rfl (lv_at hl 0 rfl) ?_
  refine va_slen hx hb hX hbl (Nat.not_le.mpr hbl) hS dL_cell_2 ?_
  refine lv_icmp_ge (tgt := 12) hx hb dL_cell_3 (by decide) (fun c3 => ?_) (fun c3 => ?_)
  · refine lv_ldc (v := 790386105) hx hb hown (hts (.constant RL 8 (790386105)) (by decide +kernel)) dL_cell_12 ?_
    refine lv_iload_n hx hb dL_cell_14 rfl (lv_at hl 1 rfl) ?_
    refine lv_iconst (v := 3) hx hb dL_cell_15 (by decide) ?_
    refine lv_iadd hx hb dL_cell_16 ?_
    refine lv_imul hx hb dL_cell_17 ?_
    exact W.iret hx hb hr (fun t ht hW => ⟨_, rfl, trivial, ht⟩) (fun _ h => nomatch h) dL_cell_18
  · refine lv_aload_n hx hb dL_cell_6 rfl (lv_at hl 0 rfl) ?_
    refine lv_iload_n hx hb dL_cell_7 rfl (lv_at hl 1 rfl) ?_
    refine va_sld hx hb hX hbl (Nat.not_le.mpr hbl) hS (i := nI k) (vp_in_nI (Nat.not_le.mp (fun z => c3 (nI_le z (by omega)))) (by omega)) dL_cell_8 ?_
    refine lv_goto (tgt := 18) hx hb dL_cell_9 (by decide) ?_
    exact W.iret hx hb hr (fun t ht hW => ⟨_, rfl, trivial, ht⟩) (fun _ h => nomatch h) dL_cell_18
