
/-! the reference's public methods, told of its state -/
def mThr (τ : MS) (t : Int32) : MS := (t, τ.2)
def mUV (τ : MS) (u v : Nat → Int32) : MS := (mt τ, mn τ, mk τ, mf τ, mo τ, mh τ, md τ, mr τ, u, v, ms τ, mp τ, mw τ)
def tbR (τ : MS) (ex f0 : Nat → Int32) : Nat → (Nat → Int32)
  | 0 => f0
  | i + 1 => upd (tbR τ ex f0 i) i (if mf τ i then imx (tbR τ ex f0 i (mo τ i)) (tbR τ ex f0 i (mh τ i)) else if md τ i = -1 then ex i else md τ i)
def mTb (τ : MS) (i : Nat) : MS := mUV τ (tbR τ (fun p => nI (mo τ p)) (mu τ) i) (tbR τ (fun p => nI (mh τ p)) (mv τ) i)
def mTab (τ : MS) : MS := mTb τ (mn τ)
theorem mTbF {τ : MS} {i : Nat} (h : mf τ i = true) : mTb τ (i + 1) = mUV (mTb τ i) (upd (mu (mTb τ i)) i (imx (mu (mTb τ i) (mo τ i)) (mu (mTb τ i) (mh τ i)))) (upd (mv (mTb τ i)) i (imx (mv (mTb τ i) (mo τ i)) (mv (mTb τ i) (mh τ i)))) := by
  rw [mTb, tbR, tbR, if_pos h, if_pos h]; rfl
theorem mTbG {τ : MS} {i : Nat} (h : mf τ i = false) (h2 : ¬ md τ i = -1) : mTb τ (i + 1) = mUV (mTb τ i) (upd (mu (mTb τ i)) i (md τ i)) (upd (mv (mTb τ i)) i (md τ i)) := by
  rw [mTb, tbR, tbR]; simp only [h, Bool.false_eq_true, if_false, if_neg h2]; rfl
theorem mTbU {τ : MS} {i : Nat} (h : mf τ i = false) (h2 : md τ i = -1) : mTb τ (i + 1) = mUV (mTb τ i) (upd (mu (mTb τ i)) i (nI (mo τ i))) (upd (mv (mTb τ i)) i (nI (mh τ i))) := by
  rw [mTb, tbR, tbR]; simp only [h, Bool.false_eq_true, if_false, if_pos h2]; rfl
def mGo (τ : MS) (s x : Nat) : MS := (mt τ, mn τ, mk τ, mf τ, mo τ, mh τ, md τ, mr τ, mu τ, mv τ, va_up (ms τ) s x, va_up (mp τ) s (mp τ s + 1), va_up (mw τ) (40 * s + mp τ s) (ms τ s))
theorem mGo_ok {τ : MS} (h : MOK τ) {s : Nat} (hs : s < mk τ) (x : Nat) (hx : x < ms τ s) : MOK (mGo τ s x) := by
  obtain ⟨h1, h2, h3, h4, h5, h6, h7, h8, h9⟩ := h
  have hst := h9 s hs
  have h5s := h5 s
  refine ⟨h1, h2, h3, h4, fun j => ?_, fun j => ?_, fun j => ?_, h8, fun j hj => ?_⟩
  · show va_up (ms τ) s _ j < 40
    unfold va_up
    split
    · omega
    · exact h5 j
  · show va_up (mw τ) _ _ j < 40
    unfold va_up
    split
    · exact h5 s
    · exact h6 j
  · show va_up (ms τ) s _ j + va_up (mp τ) s _ j ≤ 39
    unfold va_up
    have := h7 s
    have := h7 j
    split <;> omega
  · show va_up (ms τ) s _ j < mn τ
    unfold va_up
    split
    · omega
    · exact h9 j hj
def mFo (s : Nat) : Nat → MS → MS
  | 0, τ => τ
  | f + 1, τ => if mf τ (ms τ s) then mFo s f (mGo τ s (mTo τ (ms τ s) (mPl τ (ms τ s)))) else τ
def mAddE (τ : MS) (x y : Nat) : MS := (0, mn τ + 1, mk τ, mf τ, va_up (mo τ) (mn τ) x, va_up (mh τ) (mn τ) y, upd (md τ) (mn τ) (-1), vp_updL (mr τ) (mn τ) (gbit (mn τ)), mu τ, mv τ, ms τ, mp τ, mw τ)
def mAddF (τ : MS) (x y : Nat) (w : Int32) : MS := (0, mn τ + 1, mk τ, va_up (mf τ) (mn τ) true, va_up (mo τ) (mn τ) x, va_up (mh τ) (mn τ) y, upd (md τ) (mn τ) w, vp_updL (mr τ) (mn τ) ((mr τ x ||| mr τ y) ||| gbit (mn τ)), mu τ, mv τ, ms τ, mp τ, mw τ)
def mMd (τ : MS) (k : Nat) (g : Int32) : MS := (0, mn τ, mk τ, mf τ, mo τ, mh τ, upd (md τ) k g, mr τ, mu τ, mv τ, ms τ, mp τ, mw τ)
def mEnr (τ : MS) (k : Nat) : MS := (0, mn τ, mk τ + 1, mf τ, mo τ, mh τ, md τ, mr τ, mu τ, mv τ, va_up (ms τ) (mk τ) k, mp τ, mw τ)
def mBk (τ : MS) (s j : Nat) : MS := (0, mn τ, mk τ, mf τ, mo τ, mh τ, md τ, mr τ, mu τ, mv τ, va_up (ms τ) s (mw τ (40 * s + j)), va_up (mp τ) s j, mw τ)
theorem hinX1_no : ∀ w ∈ wsX10, w ∈ wsX1_no := fun w h => List.mem_cons_of_mem _ (List.mem_append_right _ h)
theorem hdX1_no : yX1_no.cls = RX1 ∧ yX1_no.cls ≠ "java/lang/invoke/MethodHandle" ∧ yX1_no.cls ≠ "java/lang/invoke/VarHandle" ∧ (parseMethodDescriptor yX1_no.desc).map (fun d => d.parameters.length) = some 1 := by decide +kernel
set_option maxHeartbeats 4000000 in
set_option maxRecDepth 100000 in
theorem m_no (l : Launch) (E : GE) (a : Nat → Nat) (τ : MS) (sz : Nat) (i : Int32) : Met l yX1_no wsX1_no { frames := 0, cells := 0, slots := 0, locals := 0 } (va_Pc [.ref (a 0), .int i] (gBw E sz (mW E a τ))) (gQi E (0) (mW E a τ) (mW E a (mThr τ i)) sz) 0 0 (va_A (mW E a τ) sz) := by
  refine w_met (cc := cX1_no) (maxL := 2) (ret := (some .int)) (by decide) rfl (Nat.le_of_ble_eq_true rfl) ?_
  intro p e s m below meth c ls S hr hlocks hname hB hl
  obtain ⟨hsz, hP, hK, hD0⟩ := hB
  subst hsz
  have hD := hD0.self (sz := s.heap.size)
  have hA : ∀ q : Nat, s.heap.size ≤ q → va_A (mW E a τ) s.heap.size q := fun q h => Or.inr h
  have hS : va_S (va_A (mW E a τ) s.heap.size) s.heap s.heap [] := va_S.rf
  obtain ⟨hx, hb, hml, hown, hts⟩ := id S
  have hts0 := hinX1_no
  have hl : lv_has ls 2 [(0, .ref (a 0)), (1, .int i)] := hl
  refine lv_aload_n hx hb dX1_no_0 rfl (lv_at hl 0 rfl) ?_
  refine lv_iload_n hx hb dX1_no_1 rfl (lv_at hl 1 rfl) ?_
  refine va_put (D := E.1) (ci := 1) (v := .int i) (ty := .int) (C := RX1) (T := TX1) (N := 13) hx hb hts hts0 tyX1 tyX1_ok nmX1 hown hK hP hD hS 0 rfl rfl 0 (by decide) (hts (.fieldLink RX1 42 "ExamGardenModel" "thrown" "I") (by decide +kernel)) (fun _ h9 => h9) rfl (by decide +kernel) rfl rfl (Nat.le_of_ble_eq_true rfl) dX1_no_2 (fun H locs hP hD hS => ?_)
  have hP : gP E (mW E a (i, mn τ, mk τ, mf τ, mo τ, mh τ, md τ, mr τ, mu τ, mv τ, ms τ, mp τ, mw τ)) H := hP
  have hD : va_D (va_A (mW E a τ) s.heap.size) (mW E a (i, mn τ, mk τ, mf τ, mo τ, mh τ, md τ, mr τ, mu τ, mv τ, ms τ, mp τ, mw τ)) := hD
  refine lv_iconst (v := 0) hx hb dX1_no_5 (by decide) ?_
  exact W.iret hx hb hr (fun t ht hW => ⟨⟨_, (), rfl, rfl, by show gP E _ t.heap; rw [ht]; exact hP⟩, hS.F ht⟩) hS.2.2 dX1_no_6
theorem hinX1_isNot : ∀ w ∈ wsX10, w ∈ wsX1_isNot := fun w h => List.mem_cons_of_mem _ (List.mem_append_right _ h)
theorem hdX1_isNot : yX1_isNot.cls = RX1 ∧ yX1_isNot.cls ≠ "java/lang/invoke/MethodHandle" ∧ yX1_isNot.cls ≠ "java/lang/invoke/VarHandle" ∧ (parseMethodDescriptor yX1_isNot.desc).map (fun d => d.parameters.length) = some 1 := by decide +kernel
set_option maxHeartbeats 4000000 in
set_option maxRecDepth 100000 in
theorem m_isNot (l : Launch) (E : GE) (a : Nat → Nat) (τ : MS) (sz : Nat) (i : Int32) : Met l yX1_isNot wsX1_isNot { frames := 0, cells := 0, slots := 0, locals := 0 } (va_Pc [.ref (a 0), .int i] (gBw E sz (mW E a τ))) (gQi E (0) (mW E a τ) (mW E a (mThr τ i)) sz) 0 0 (va_A (mW E a τ) sz) := by
  refine w_met (cc := cX1_isNot) (maxL := 2) (ret := (some .boolean)) (by decide) rfl (Nat.le_of_ble_eq_true rfl) ?_
  intro p e s m below meth c ls S hr hlocks hname hB hl
  obtain ⟨hsz, hP, hK, hD0⟩ := hB
  subst hsz
  have hD := hD0.self (sz := s.heap.size)
  have hA : ∀ q : Nat, s.heap.size ≤ q → va_A (mW E a τ) s.heap.size q := fun q h => Or.inr h
  have hS : va_S (va_A (mW E a τ) s.heap.size) s.heap s.heap [] := va_S.rf
  obtain ⟨hx, hb, hml, hown, hts⟩ := id S
  have hts0 := hinX1_isNot
  have hl : lv_has ls 2 [(0, .ref (a 0)), (1, .int i)] := hl
  refine lv_aload_n hx hb dX1_isNot_0 rfl (lv_at hl 0 rfl) ?_
  refine lv_iload_n hx hb dX1_isNot_1 rfl (lv_at hl 1 rfl) ?_
  refine va_put (D := E.1) (ci := 1) (v := .int i) (ty := .int) (C := RX1) (T := TX1) (N := 13) hx hb hts hts0 tyX1 tyX1_ok nmX1 hown hK hP hD hS 0 rfl rfl 0 (by decide) (hts (.fieldLink RX1 42 "ExamGardenModel" "thrown" "I") (by decide +kernel)) (fun _ h9 => h9) rfl (by decide +kernel) rfl rfl (Nat.le_of_ble_eq_true rfl) dX1_isNot_2 (fun H locs hP hD hS => ?_)
  have hP : gP E (mW E a (i, mn τ, mk τ, mf τ, mo τ, mh τ, md τ, mr τ, mu τ, mv τ, ms τ, mp τ, mw τ)) H := hP
  have hD : va_D (va_A (mW E a τ) s.heap.size) (mW E a (i, mn τ, mk τ, mf τ, mo τ, mh τ, md τ, mr τ, mu τ, mv τ, ms τ, mp τ, mw τ)) := hD
  refine lv_iconst (v := 0) hx hb dX1_isNot_5 (by decide) ?_
  exact W.zret hx hb hr rfl (fun t ht hW => ⟨⟨_, (), rfl, rfl, by show gP E _ t.heap; rw [ht]; exact hP⟩, hS.F ht⟩) hS.2.2 dX1_isNot_6
theorem hinX1_ok : ∀ w ∈ wsX10, w ∈ wsX1_ok := fun w h => List.mem_cons_of_mem _ (List.mem_append_right _ h)
theorem hdX1_ok : yX1_ok.cls = RX1 ∧ yX1_ok.cls ≠ "java/lang/invoke/MethodHandle" ∧ yX1_ok.cls ≠ "java/lang/invoke/VarHandle" ∧ (parseMethodDescriptor yX1_ok.desc).map (fun d => d.parameters.length) = some 1 := by decide +kernel
set_option maxHeartbeats 4000000 in
set_option maxRecDepth 100000 in
theorem m_ok (l : Launch) (E : GE) (a : Nat → Nat) (τ : MS) (sz : Nat) (i : Int32) : Met l yX1_ok wsX1_ok { frames := 0, cells := 0, slots := 0, locals := 0 } (va_Pc [.ref (a 0), .int i] (gBw E sz (mW E a τ))) (gQi E (i) (mW E a τ) (mW E a (mThr τ 0)) sz) 0 0 (va_A (mW E a τ) sz) := by
  refine w_met (cc := cX1_ok) (maxL := 2) (ret := (some .int)) (by decide) rfl (Nat.le_of_ble_eq_true rfl) ?_
  intro p e s m below meth c ls S hr hlocks hname hB hl
  obtain ⟨hsz, hP, hK, hD0⟩ := hB
  subst hsz
  have hD := hD0.self (sz := s.heap.size)
  have hA : ∀ q : Nat, s.heap.size ≤ q → va_A (mW E a τ) s.heap.size q := fun q h => Or.inr h
  have hS : va_S (va_A (mW E a τ) s.heap.size) s.heap s.heap [] := va_S.rf
  obtain ⟨hx, hb, hml, hown, hts⟩ := id S
  have hts0 := hinX1_ok
  have hl : lv_has ls 2 [(0, .ref (a 0)), (1, .int i)] := hl
  refine lv_aload_n hx hb dX1_ok_0 rfl (lv_at hl 0 rfl) ?_
  refine lv_iconst (v := 0) hx hb dX1_ok_1 (by decide) ?_
  refine va_put (D := E.1) (ci := 1) (v := .int 0) (ty := .int) (C := RX1) (T := TX1) (N := 13) hx hb hts hts0 tyX1 tyX1_ok nmX1 hown hK hP hD hS 0 rfl rfl 0 (by decide) (hts (.fieldLink RX1 42 "ExamGardenModel" "thrown" "I") (by decide +kernel)) (fun _ h9 => h9) rfl (by decide +kernel) rfl rfl (Nat.le_of_ble_eq_true rfl) dX1_ok_2 (fun H locs hP hD hS => ?_)
  have hP : gP E (mW E a (0, mn τ, mk τ, mf τ, mo τ, mh τ, md τ, mr τ, mu τ, mv τ, ms τ, mp τ, mw τ)) H := hP
  have hD : va_D (va_A (mW E a τ) s.heap.size) (mW E a (0, mn τ, mk τ, mf τ, mo τ, mh τ, md τ, mr τ, mu τ, mv τ, ms τ, mp τ, mw τ)) := hD
  refine lv_iload_n hx hb dX1_ok_5 rfl (lv_at hl 1 rfl) ?_
  exact W.iret hx hb hr (fun t ht hW => ⟨⟨_, (), rfl, rfl, by show gP E _ t.heap; rw [ht]; exact hP⟩, hS.F ht⟩) hS.2.2 dX1_ok_6
theorem hinX1_table : ∀ w ∈ wsX10, w ∈ wsX1_table := fun w h => List.mem_cons_of_mem _ (List.mem_append_right _ h)
theorem hdX1_table : yX1_table.cls = RX1 ∧ yX1_table.cls ≠ "java/lang/invoke/MethodHandle" ∧ yX1_table.cls ≠ "java/lang/invoke/VarHandle" ∧ (parseMethodDescriptor yX1_table.desc).map (fun d => d.parameters.length) = some 0 := by decide +kernel
set_option maxHeartbeats 4000000 in
set_option maxRecDepth 100000 in
theorem m_table (l : Launch) (E : GE) (a : Nat → Nat) (τ : MS) (sz : Nat) (hO : MOK τ) : Met l yX1_table wsX1_table { frames := 1, cells := 0, slots := 0, locals := 21 } (va_Pc [.ref (a 0)] (gBw E sz (mW E a τ))) (gQv E (mW E a τ) (mW E a (mTab τ)) sz) 0 0 (va_A (mW E a τ) sz) := by
  refine w_met (cc := cX1_table) (maxL := 3) (ret := none) (by decide) rfl (Nat.le_of_ble_eq_true rfl) ?_
  intro p e s m below meth c ls S hr hlocks hname hB hl
  obtain ⟨hsz, hP, hK, hD0⟩ := hB
  subst hsz
  have hD := hD0.self (sz := s.heap.size)
  have hA : ∀ q : Nat, s.heap.size ≤ q → va_A (mW E a τ) s.heap.size q := fun q h => Or.inr h
  have hS : va_S (va_A (mW E a τ) s.heap.size) s.heap s.heap [] := va_S.rf
  obtain ⟨hx, hb, hml, hown, hts⟩ := id S
  have tn := hO.1
  have hts0 := hinX1_table
  have hl : lv_has ls 3 [(0, .ref (a 0))] := hl
  refine lv_iconst (v := 0) hx hb dX1_table_0 (by decide) ?_
  refine lv_istore_n (lv' := [(1, .int 0), (0, .ref (a 0))]) hx hb dX1_table_1 rfl hl (by decide) rfl (fun ls hl => ?_)
  have key : ∀ (d i : Nat) (H : Heap) (locs : List Loc) (ls : Array Slot), i + d = mn τ → gP E (mW E a (mTb τ i)) H → va_S (va_A (mW E a τ) s.heap.size) s.heap H locs → lv_has ls 3 [(1, .int (nI i)), (0, .ref (a 0))] → W p l e (headSpec wsX1_table { frames := 1, cells := 0, slots := 0, locals := 21 }).room s m [.ref (a 0)].toArray below meth c H locs 0 0 (MQ below (gQv E (mW E a τ) (mW E a (mTab τ)) s.heap.size) [.ref (a 0)].toArray s 0 0 (va_A (mW E a τ) s.heap.size)) (F0 m 2 ls []) := by
    intro d
    induction d with
    | zero =>
      intro i H locs ls hi hP hS hl
      have hD : va_D (va_A (mW E a τ) s.heap.size) (mW E a (mTb τ i)) := mW_D hD
      have t1 := hO.2.2.1 i
      have t2 := hO.2.2.2.1 i
      obtain rfl : i = mn τ := by omega
      refine lv_iload_n hx hb dX1_table_2 rfl (lv_at hl 0 rfl) ?_
      refine lv_aload_n hx hb dX1_table_3 rfl (lv_at hl 1 rfl) ?_
      refine m_get (τ := (mTb τ (mn τ))) hx hb hts hts0 hown hK hP 1 (by decide) (by decide +kernel) rfl rfl dX1_table_4 ?_
      refine lv_icmp_ge (tgt := 165) hx hb dX1_table_7 (by decide) (fun _ => ?_) (fun q => absurd ((nI_le (by show mn τ ≤ mn τ; omega) (by omega))) q)
      exact W.vret hx hb hr (fun t ht hW => ⟨⟨(), rfl, trivial, by show gP E _ t.heap; rw [ht]; exact hP⟩, hS.F ht⟩) hS.2.2 dX1_table_165
    | succ d ih =>
      intro i H locs ls hi hP hS hl
      have hD : va_D (va_A (mW E a τ) s.heap.size) (mW E a (mTb τ i)) := mW_D hD
      have t1 := hO.2.2.1 i
      have t2 := hO.2.2.2.1 i
      refine lv_iload_n hx hb dX1_table_2 rfl (lv_at hl 0 rfl) ?_
      refine lv_aload_n hx hb dX1_table_3 rfl (lv_at hl 1 rfl) ?_
      refine m_get (τ := (mTb τ i)) hx hb hts hts0 hown hK hP 1 (by decide) (by decide +kernel) rfl rfl dX1_table_4 ?_
      refine lv_icmp_ge (tgt := 165) hx hb dX1_table_7 (by decide) (fun q => absurd q ((nI_ge (by show i < mn τ; omega) (by show mn τ < _; omega)))) (fun _ => ?_)
      refine lv_aload_n hx hb dX1_table_10 rfl (lv_at hl 1 rfl) ?_
      refine m_get (τ := (mTb τ i)) hx hb hts hts0 hown hK hP 3 (by decide) (by decide +kernel) rfl rfl dX1_table_11 ?_
      refine lv_iload_n hx hb dX1_table_14 rfl (lv_at hl 0 rfl) ?_
      refine g_zld hx hb hK hP 1 rfl (v := b2i ((mf τ) i)) (vp_in_nI (by omega) (by decide)) (by rw [nI_clamp (by omega)] <;> rfl) dX1_table_15 ?_
      refine lv_if_ne (tgt := 33) hx hb dX1_table_16 (by decide) (fun c16 => ?_) (fun c16 => ?_)
      · refine lv_iconst (v := 0) hx hb dX1_table_33 (by decide) ?_
        refine lv_istore_n (lv' := [(2, .int 0), (1, .int (nI i)), (0, .ref (a 0))]) hx hb dX1_table_34 rfl hl (by decide) rfl (fun ls hl => ?_)
        refine lv_aload_n hx hb dX1_table_35 rfl (lv_at hl 2 rfl) ?_
        refine m_get (τ := (mTb τ i)) hx hb hts hts0 hown hK hP 8 (by decide) (by decide +kernel) rfl rfl dX1_table_36 ?_
        refine lv_iload_n hx hb dX1_table_39 rfl (lv_at hl 1 rfl) ?_
        refine lv_aload_n hx hb dX1_table_40 rfl (lv_at hl 2 rfl) ?_
        refine m_get (τ := (mTb τ i)) hx hb hts hts0 hown hK hP 3 (by decide) (by decide +kernel) rfl rfl dX1_table_41 ?_
        refine lv_iload_n hx hb dX1_table_44 rfl (lv_at hl 1 rfl) ?_
        refine g_zld hx hb hK hP 1 rfl (v := b2i ((mf τ) i)) (vp_in_nI (by omega) (by decide)) (by rw [nI_clamp (by omega)] <;> rfl) dX1_table_45 ?_
        refine lv_if_eq (tgt := 77) hx hb dX1_table_46 (by decide) (fun q => absurd q c16) (fun _ => ?_)
        refine lv_aload_n hx hb dX1_table_49 rfl (lv_at hl 2 rfl) ?_
        refine m_get (τ := (mTb τ i)) hx hb hts hts0 hown hK hP 8 (by decide) (by decide +kernel) rfl rfl dX1_table_50 ?_
        refine lv_aload_n hx hb dX1_table_53 rfl (lv_at hl 2 rfl) ?_
        refine m_get (τ := (mTb τ i)) hx hb hts hts0 hown hK hP 4 (by decide) (by decide +kernel) rfl rfl dX1_table_54 ?_
        refine lv_iload_n hx hb dX1_table_57 rfl (lv_at hl 1 rfl) ?_
        refine g_ild hx hb hK hP 2 rfl (v := nI ((mo τ) i)) (vp_in_nI (by omega) (by decide)) (by rw [nI_clamp (by omega)] <;> rfl) dX1_table_58 ?_
        refine g_ild hx hb hK hP 6 rfl (v := (mu (mTb τ i)) ((mo τ) i)) (vp_in_nI (by omega) (by decide)) (by rw [nI_clamp (by omega)] <;> rfl) dX1_table_59 ?_
        refine lv_aload_n hx hb dX1_table_60 rfl (lv_at hl 2 rfl) ?_
        refine m_get (τ := (mTb τ i)) hx hb hts hts0 hown hK hP 8 (by decide) (by decide +kernel) rfl rfl dX1_table_61 ?_
        refine lv_aload_n hx hb dX1_table_64 rfl (lv_at hl 2 rfl) ?_
        refine m_get (τ := (mTb τ i)) hx hb hts hts0 hown hK hP 5 (by decide) (by decide +kernel) rfl rfl dX1_table_65 ?_
        refine lv_iload_n hx hb dX1_table_68 rfl (lv_at hl 1 rfl) ?_
        refine g_ild hx hb hK hP 3 rfl (v := nI ((mh τ) i)) (vp_in_nI (by omega) (by decide)) (by rw [nI_clamp (by omega)] <;> rfl) dX1_table_69 ?_
        refine g_ild hx hb hK hP 6 rfl (v := (mu (mTb τ i)) ((mh τ) i)) (vp_in_nI (by omega) (by decide)) (by rw [nI_clamp (by omega)] <;> rfl) dX1_table_70 ?_
        refine g_max hx hb (hml.trans hl.1.symm) hown (hts (.methodLink RX1 60 Lib.Math.max.name) (by decide +kernel)) (hts (.static Lib.Math.max.name) (by decide +kernel)) (hts (.initialized "java/lang/Math") (by decide +kernel)) (hts (.code Lib.Math.max.name Lib.Math.max.code 2 (some .int)) (by decide +kernel)) (Nat.le_of_ble_eq_true rfl) (Nat.le_of_ble_eq_true rfl) ⟨Nat.zero_le _, Nat.zero_le _⟩ dX1_table_71 ?_
        refine lv_goto (tgt := 96) hx hb dX1_table_74 (by decide) ?_
        refine g_ist hx hb hK hP hD hS 6 rfl (f' := (upd ((mu (mTb τ i))) i (imx ((mu (mTb τ i)) ((mo τ) i)) ((mu (mTb τ i)) ((mh τ) i))))) (vp_in_nI (by omega) (by decide)) (g_clu (k := i) (by omega) rfl) dX1_table_96 (fun H locs hP hD hS => ?_)
        have hP : gP E (mW E a (mt τ, mn τ, mk τ, mf τ, mo τ, mh τ, md τ, mr τ, upd ((mu (mTb τ i))) i (imx ((mu (mTb τ i)) ((mo τ) i)) ((mu (mTb τ i)) ((mh τ) i))), mv (mTb τ i), ms τ, mp τ, mw τ)) H := hP
        have hD : va_D (va_A (mW E a τ) s.heap.size) (mW E a (mt τ, mn τ, mk τ, mf τ, mo τ, mh τ, md τ, mr τ, upd ((mu (mTb τ i))) i (imx ((mu (mTb τ i)) ((mo τ) i)) ((mu (mTb τ i)) ((mh τ) i))), mv (mTb τ i), ms τ, mp τ, mw τ)) := hD
        refine lv_aload_n hx hb dX1_table_97 rfl (lv_at hl 2 rfl) ?_
        refine m_get (τ := (mt τ, mn τ, mk τ, mf τ, mo τ, mh τ, md τ, mr τ, upd ((mu (mTb τ i))) i (imx ((mu (mTb τ i)) ((mo τ) i)) ((mu (mTb τ i)) ((mh τ) i))), mv (mTb τ i), ms τ, mp τ, mw τ)) hx hb hts hts0 hown hK hP 9 (by decide) (by decide +kernel) rfl rfl dX1_table_98 ?_
        refine lv_iload_n hx hb dX1_table_101 rfl (lv_at hl 1 rfl) ?_
        refine lv_aload_n hx hb dX1_table_102 rfl (lv_at hl 2 rfl) ?_
        refine m_get (τ := (mt τ, mn τ, mk τ, mf τ, mo τ, mh τ, md τ, mr τ, upd ((mu (mTb τ i))) i (imx ((mu (mTb τ i)) ((mo τ) i)) ((mu (mTb τ i)) ((mh τ) i))), mv (mTb τ i), ms τ, mp τ, mw τ)) hx hb hts hts0 hown hK hP 3 (by decide) (by decide +kernel) rfl rfl dX1_table_103 ?_
        refine lv_iload_n hx hb dX1_table_106 rfl (lv_at hl 1 rfl) ?_
        refine g_zld hx hb hK hP 1 rfl (v := b2i ((mf τ) i)) (vp_in_nI (by omega) (by decide)) (by rw [nI_clamp (by omega)] <;> rfl) dX1_table_107 ?_
        refine lv_if_eq (tgt := 139) hx hb dX1_table_108 (by decide) (fun q => absurd q c16) (fun _ => ?_)
        refine lv_aload_n hx hb dX1_table_111 rfl (lv_at hl 2 rfl) ?_
        refine m_get (τ := (mt τ, mn τ, mk τ, mf τ, mo τ, mh τ, md τ, mr τ, upd ((mu (mTb τ i))) i (imx ((mu (mTb τ i)) ((mo τ) i)) ((mu (mTb τ i)) ((mh τ) i))), mv (mTb τ i), ms τ, mp τ, mw τ)) hx hb hts hts0 hown hK hP 9 (by decide) (by decide +kernel) rfl rfl dX1_table_112 ?_
        refine lv_aload_n hx hb dX1_table_115 rfl (lv_at hl 2 rfl) ?_
        refine m_get (τ := (mt τ, mn τ, mk τ, mf τ, mo τ, mh τ, md τ, mr τ, upd ((mu (mTb τ i))) i (imx ((mu (mTb τ i)) ((mo τ) i)) ((mu (mTb τ i)) ((mh τ) i))), mv (mTb τ i), ms τ, mp τ, mw τ)) hx hb hts hts0 hown hK hP 4 (by decide) (by decide +kernel) rfl rfl dX1_table_116 ?_
        refine lv_iload_n hx hb dX1_table_119 rfl (lv_at hl 1 rfl) ?_
        refine g_ild hx hb hK hP 2 rfl (v := nI ((mo τ) i)) (vp_in_nI (by omega) (by decide)) (by rw [nI_clamp (by omega)] <;> rfl) dX1_table_120 ?_
        refine g_ild hx hb hK hP 7 rfl (v := (mv (mTb τ i)) ((mo τ) i)) (vp_in_nI (by omega) (by decide)) (by rw [nI_clamp (by omega)] <;> rfl) dX1_table_121 ?_
        refine lv_aload_n hx hb dX1_table_122 rfl (lv_at hl 2 rfl) ?_
        refine m_get (τ := (mt τ, mn τ, mk τ, mf τ, mo τ, mh τ, md τ, mr τ, upd ((mu (mTb τ i))) i (imx ((mu (mTb τ i)) ((mo τ) i)) ((mu (mTb τ i)) ((mh τ) i))), mv (mTb τ i), ms τ, mp τ, mw τ)) hx hb hts hts0 hown hK hP 9 (by decide) (by decide +kernel) rfl rfl dX1_table_123 ?_
        refine lv_aload_n hx hb dX1_table_126 rfl (lv_at hl 2 rfl) ?_
        refine m_get (τ := (mt τ, mn τ, mk τ, mf τ, mo τ, mh τ, md τ, mr τ, upd ((mu (mTb τ i))) i (imx ((mu (mTb τ i)) ((mo τ) i)) ((mu (mTb τ i)) ((mh τ) i))), mv (mTb τ i), ms τ, mp τ, mw τ)) hx hb hts hts0 hown hK hP 5 (by decide) (by decide +kernel) rfl rfl dX1_table_127 ?_
        refine lv_iload_n hx hb dX1_table_130 rfl (lv_at hl 1 rfl) ?_
        refine g_ild hx hb hK hP 3 rfl (v := nI ((mh τ) i)) (vp_in_nI (by omega) (by decide)) (by rw [nI_clamp (by omega)] <;> rfl) dX1_table_131 ?_
        refine g_ild hx hb hK hP 7 rfl (v := (mv (mTb τ i)) ((mh τ) i)) (vp_in_nI (by omega) (by decide)) (by rw [nI_clamp (by omega)] <;> rfl) dX1_table_132 ?_
        refine g_max hx hb (hml.trans hl.1.symm) hown (hts (.methodLink RX1 60 Lib.Math.max.name) (by decide +kernel)) (hts (.static Lib.Math.max.name) (by decide +kernel)) (hts (.initialized "java/lang/Math") (by decide +kernel)) (hts (.code Lib.Math.max.name Lib.Math.max.code 2 (some .int)) (by decide +kernel)) (Nat.le_of_ble_eq_true rfl) (Nat.le_of_ble_eq_true rfl) ⟨Nat.zero_le _, Nat.zero_le _⟩ dX1_table_133 ?_
        refine lv_goto (tgt := 158) hx hb dX1_table_136 (by decide) ?_
        refine g_ist hx hb hK hP hD hS 7 rfl (f' := (upd ((mv (mTb τ i))) i (imx ((mv (mTb τ i)) ((mo τ) i)) ((mv (mTb τ i)) ((mh τ) i))))) (vp_in_nI (by omega) (by decide)) (g_clu (k := i) (by omega) rfl) dX1_table_158 (fun H locs hP hD hS => ?_)
        have hP : gP E (mW E a (mt τ, mn τ, mk τ, mf τ, mo τ, mh τ, md τ, mr τ, upd ((mu (mTb τ i))) i (imx ((mu (mTb τ i)) ((mo τ) i)) ((mu (mTb τ i)) ((mh τ) i))), upd ((mv (mTb τ i))) i (imx ((mv (mTb τ i)) ((mo τ) i)) ((mv (mTb τ i)) ((mh τ) i))), ms τ, mp τ, mw τ)) H := hP
        have hD : va_D (va_A (mW E a τ) s.heap.size) (mW E a (mt τ, mn τ, mk τ, mf τ, mo τ, mh τ, md τ, mr τ, upd ((mu (mTb τ i))) i (imx ((mu (mTb τ i)) ((mo τ) i)) ((mu (mTb τ i)) ((mh τ) i))), upd ((mv (mTb τ i))) i (imx ((mv (mTb τ i)) ((mo τ) i)) ((mv (mTb τ i)) ((mh τ) i))), ms τ, mp τ, mw τ)) := hD
        refine lv_iinc (v := nI (i + 1)) (lv' := [(1, .int (nI (i + 1))), (2, .int 0), (0, .ref (a 0))]) hx hb dX1_table_159 hl (k := 1) rfl (nI_1 i) (by decide) rfl (fun ls hl => ?_)
        refine lv_goto (tgt := 2) hx hb dX1_table_162 (by decide) ?_
        exact ih (i + 1) H locs ls (by omega) (by rw [mTbF (b2i_ne0.mp c16)]; exact hP) hS (lv_sub hl [0, 2] rfl)
      · refine lv_aload_n hx hb dX1_table_19 rfl (lv_at hl 1 rfl) ?_
        refine m_get (τ := (mTb τ i)) hx hb hts hts0 hown hK hP 6 (by decide) (by decide +kernel) rfl rfl dX1_table_20 ?_
        refine lv_iload_n hx hb dX1_table_23 rfl (lv_at hl 0 rfl) ?_
        refine g_ild hx hb hK hP 4 rfl (v := (md τ) i) (vp_in_nI (by omega) (by decide)) (by rw [nI_clamp (by omega)] <;> rfl) dX1_table_24 ?_
        refine lv_iconst (v := -1) hx hb dX1_table_25 (by decide) ?_
        refine lv_icmp_eq (tgt := 33) hx hb dX1_table_26 (by decide) (fun c26 => ?_) (fun c26 => ?_)
        · refine lv_iconst (v := 0) hx hb dX1_table_33 (by decide) ?_
          refine lv_istore_n (lv' := [(2, .int 0), (1, .int (nI i)), (0, .ref (a 0))]) hx hb dX1_table_34 rfl hl (by decide) rfl (fun ls hl => ?_)
          refine lv_aload_n hx hb dX1_table_35 rfl (lv_at hl 2 rfl) ?_
          refine m_get (τ := (mTb τ i)) hx hb hts hts0 hown hK hP 8 (by decide) (by decide +kernel) rfl rfl dX1_table_36 ?_
          refine lv_iload_n hx hb dX1_table_39 rfl (lv_at hl 1 rfl) ?_
          refine lv_aload_n hx hb dX1_table_40 rfl (lv_at hl 2 rfl) ?_
          refine m_get (τ := (mTb τ i)) hx hb hts hts0 hown hK hP 3 (by decide) (by decide +kernel) rfl rfl dX1_table_41 ?_
          refine lv_iload_n hx hb dX1_table_44 rfl (lv_at hl 1 rfl) ?_
          refine g_zld hx hb hK hP 1 rfl (v := b2i ((mf τ) i)) (vp_in_nI (by omega) (by decide)) (by rw [nI_clamp (by omega)] <;> rfl) dX1_table_45 ?_
          refine lv_if_eq (tgt := 77) hx hb dX1_table_46 (by decide) (fun _ => ?_) (fun q => absurd c16 q)
          refine lv_iload_n hx hb dX1_table_77 rfl (lv_at hl 0 rfl) ?_
          refine lv_if_eq (tgt := 90) hx hb dX1_table_78 (by decide) (fun _ => ?_) (fun q => absurd ((rfl : (0 : Int32) = 0)) q)
          refine lv_aload_n hx hb dX1_table_90 rfl (lv_at hl 2 rfl) ?_
          refine m_get (τ := (mTb τ i)) hx hb hts hts0 hown hK hP 4 (by decide) (by decide +kernel) rfl rfl dX1_table_91 ?_
          refine lv_iload_n hx hb dX1_table_94 rfl (lv_at hl 1 rfl) ?_
          refine g_ild hx hb hK hP 2 rfl (v := nI ((mo τ) i)) (vp_in_nI (by omega) (by decide)) (by rw [nI_clamp (by omega)] <;> rfl) dX1_table_95 ?_
          refine g_ist hx hb hK hP hD hS 6 rfl (f' := (upd ((mu (mTb τ i))) i (nI ((mo τ) i)))) (vp_in_nI (by omega) (by decide)) (g_clu (k := i) (by omega) rfl) dX1_table_96 (fun H locs hP hD hS => ?_)
          have hP : gP E (mW E a (mt τ, mn τ, mk τ, mf τ, mo τ, mh τ, md τ, mr τ, upd ((mu (mTb τ i))) i (nI ((mo τ) i)), mv (mTb τ i), ms τ, mp τ, mw τ)) H := hP
          have hD : va_D (va_A (mW E a τ) s.heap.size) (mW E a (mt τ, mn τ, mk τ, mf τ, mo τ, mh τ, md τ, mr τ, upd ((mu (mTb τ i))) i (nI ((mo τ) i)), mv (mTb τ i), ms τ, mp τ, mw τ)) := hD
          refine lv_aload_n hx hb dX1_table_97 rfl (lv_at hl 2 rfl) ?_
          refine m_get (τ := (mt τ, mn τ, mk τ, mf τ, mo τ, mh τ, md τ, mr τ, upd ((mu (mTb τ i))) i (nI ((mo τ) i)), mv (mTb τ i), ms τ, mp τ, mw τ)) hx hb hts hts0 hown hK hP 9 (by decide) (by decide +kernel) rfl rfl dX1_table_98 ?_
          refine lv_iload_n hx hb dX1_table_101 rfl (lv_at hl 1 rfl) ?_
          refine lv_aload_n hx hb dX1_table_102 rfl (lv_at hl 2 rfl) ?_
          refine m_get (τ := (mt τ, mn τ, mk τ, mf τ, mo τ, mh τ, md τ, mr τ, upd ((mu (mTb τ i))) i (nI ((mo τ) i)), mv (mTb τ i), ms τ, mp τ, mw τ)) hx hb hts hts0 hown hK hP 3 (by decide) (by decide +kernel) rfl rfl dX1_table_103 ?_
          refine lv_iload_n hx hb dX1_table_106 rfl (lv_at hl 1 rfl) ?_
          refine g_zld hx hb hK hP 1 rfl (v := b2i ((mf τ) i)) (vp_in_nI (by omega) (by decide)) (by rw [nI_clamp (by omega)] <;> rfl) dX1_table_107 ?_
          refine lv_if_eq (tgt := 139) hx hb dX1_table_108 (by decide) (fun _ => ?_) (fun q => absurd c16 q)
          refine lv_iload_n hx hb dX1_table_139 rfl (lv_at hl 0 rfl) ?_
          refine lv_if_eq (tgt := 152) hx hb dX1_table_140 (by decide) (fun _ => ?_) (fun q => absurd ((rfl : (0 : Int32) = 0)) q)
          refine lv_aload_n hx hb dX1_table_152 rfl (lv_at hl 2 rfl) ?_
          refine m_get (τ := (mt τ, mn τ, mk τ, mf τ, mo τ, mh τ, md τ, mr τ, upd ((mu (mTb τ i))) i (nI ((mo τ) i)), mv (mTb τ i), ms τ, mp τ, mw τ)) hx hb hts hts0 hown hK hP 5 (by decide) (by decide +kernel) rfl rfl dX1_table_153 ?_
          refine lv_iload_n hx hb dX1_table_156 rfl (lv_at hl 1 rfl) ?_
          refine g_ild hx hb hK hP 3 rfl (v := nI ((mh τ) i)) (vp_in_nI (by omega) (by decide)) (by rw [nI_clamp (by omega)] <;> rfl) dX1_table_157 ?_
          refine g_ist hx hb hK hP hD hS 7 rfl (f' := (upd ((mv (mTb τ i))) i (nI ((mh τ) i)))) (vp_in_nI (by omega) (by decide)) (g_clu (k := i) (by omega) rfl) dX1_table_158 (fun H locs hP hD hS => ?_)
          have hP : gP E (mW E a (mt τ, mn τ, mk τ, mf τ, mo τ, mh τ, md τ, mr τ, upd ((mu (mTb τ i))) i (nI ((mo τ) i)), upd ((mv (mTb τ i))) i (nI ((mh τ) i)), ms τ, mp τ, mw τ)) H := hP
          have hD : va_D (va_A (mW E a τ) s.heap.size) (mW E a (mt τ, mn τ, mk τ, mf τ, mo τ, mh τ, md τ, mr τ, upd ((mu (mTb τ i))) i (nI ((mo τ) i)), upd ((mv (mTb τ i))) i (nI ((mh τ) i)), ms τ, mp τ, mw τ)) := hD
          refine lv_iinc (v := nI (i + 1)) (lv' := [(1, .int (nI (i + 1))), (2, .int 0), (0, .ref (a 0))]) hx hb dX1_table_159 hl (k := 1) rfl (nI_1 i) (by decide) rfl (fun ls hl => ?_)
          refine lv_goto (tgt := 2) hx hb dX1_table_162 (by decide) ?_
          exact ih (i + 1) H locs ls (by omega) (by rw [mTbU (b2i_eq0.mp c16) c26]; exact hP) hS (lv_sub hl [0, 2] rfl)
        · refine lv_iconst (v := 1) hx hb dX1_table_29 (by decide) ?_
          refine lv_goto (tgt := 34) hx hb dX1_table_30 (by decide) ?_
          refine lv_istore_n (lv' := [(2, .int 1), (1, .int (nI i)), (0, .ref (a 0))]) hx hb dX1_table_34 rfl hl (by decide) rfl (fun ls hl => ?_)
          refine lv_aload_n hx hb dX1_table_35 rfl (lv_at hl 2 rfl) ?_
          refine m_get (τ := (mTb τ i)) hx hb hts hts0 hown hK hP 8 (by decide) (by decide +kernel) rfl rfl dX1_table_36 ?_
          refine lv_iload_n hx hb dX1_table_39 rfl (lv_at hl 1 rfl) ?_
          refine lv_aload_n hx hb dX1_table_40 rfl (lv_at hl 2 rfl) ?_
          refine m_get (τ := (mTb τ i)) hx hb hts hts0 hown hK hP 3 (by decide) (by decide +kernel) rfl rfl dX1_table_41 ?_
          refine lv_iload_n hx hb dX1_table_44 rfl (lv_at hl 1 rfl) ?_
          refine g_zld hx hb hK hP 1 rfl (v := b2i ((mf τ) i)) (vp_in_nI (by omega) (by decide)) (by rw [nI_clamp (by omega)] <;> rfl) dX1_table_45 ?_
          refine lv_if_eq (tgt := 77) hx hb dX1_table_46 (by decide) (fun _ => ?_) (fun q => absurd c16 q)
          refine lv_iload_n hx hb dX1_table_77 rfl (lv_at hl 0 rfl) ?_
          refine lv_if_eq (tgt := 90) hx hb dX1_table_78 (by decide) (fun q => absurd q ((by decide : ¬ (1 : Int32) = 0))) (fun _ => ?_)
          refine lv_aload_n hx hb dX1_table_81 rfl (lv_at hl 2 rfl) ?_
          refine m_get (τ := (mTb τ i)) hx hb hts hts0 hown hK hP 6 (by decide) (by decide +kernel) rfl rfl dX1_table_82 ?_
          refine lv_iload_n hx hb dX1_table_85 rfl (lv_at hl 1 rfl) ?_
          refine g_ild hx hb hK hP 4 rfl (v := (md τ) i) (vp_in_nI (by omega) (by decide)) (by rw [nI_clamp (by omega)] <;> rfl) dX1_table_86 ?_
          refine lv_goto (tgt := 96) hx hb dX1_table_87 (by decide) ?_
          refine g_ist hx hb hK hP hD hS 6 rfl (f' := (upd ((mu (mTb τ i))) i ((md τ) i))) (vp_in_nI (by omega) (by decide)) (g_clu (k := i) (by omega) rfl) dX1_table_96 (fun H locs hP hD hS => ?_)
          have hP : gP E (mW E a (mt τ, mn τ, mk τ, mf τ, mo τ, mh τ, md τ, mr τ, upd ((mu (mTb τ i))) i ((md τ) i), mv (mTb τ i), ms τ, mp τ, mw τ)) H := hP
          have hD : va_D (va_A (mW E a τ) s.heap.size) (mW E a (mt τ, mn τ, mk τ, mf τ, mo τ, mh τ, md τ, mr τ, upd ((mu (mTb τ i))) i ((md τ) i), mv (mTb τ i), ms τ, mp τ, mw τ)) := hD
          refine lv_aload_n hx hb dX1_table_97 rfl (lv_at hl 2 rfl) ?_
          refine m_get (τ := (mt τ, mn τ, mk τ, mf τ, mo τ, mh τ, md τ, mr τ, upd ((mu (mTb τ i))) i ((md τ) i), mv (mTb τ i), ms τ, mp τ, mw τ)) hx hb hts hts0 hown hK hP 9 (by decide) (by decide +kernel) rfl rfl dX1_table_98 ?_
          refine lv_iload_n hx hb dX1_table_101 rfl (lv_at hl 1 rfl) ?_
          refine lv_aload_n hx hb dX1_table_102 rfl (lv_at hl 2 rfl) ?_
          refine m_get (τ := (mt τ, mn τ, mk τ, mf τ, mo τ, mh τ, md τ, mr τ, upd ((mu (mTb τ i))) i ((md τ) i), mv (mTb τ i), ms τ, mp τ, mw τ)) hx hb hts hts0 hown hK hP 3 (by decide) (by decide +kernel) rfl rfl dX1_table_103 ?_
          refine lv_iload_n hx hb dX1_table_106 rfl (lv_at hl 1 rfl) ?_
          refine g_zld hx hb hK hP 1 rfl (v := b2i ((mf τ) i)) (vp_in_nI (by omega) (by decide)) (by rw [nI_clamp (by omega)] <;> rfl) dX1_table_107 ?_
          refine lv_if_eq (tgt := 139) hx hb dX1_table_108 (by decide) (fun _ => ?_) (fun q => absurd c16 q)
          refine lv_iload_n hx hb dX1_table_139 rfl (lv_at hl 0 rfl) ?_
          refine lv_if_eq (tgt := 152) hx hb dX1_table_140 (by decide) (fun q => absurd q ((by decide : ¬ (1 : Int32) = 0))) (fun _ => ?_)
          refine lv_aload_n hx hb dX1_table_143 rfl (lv_at hl 2 rfl) ?_
          refine m_get (τ := (mt τ, mn τ, mk τ, mf τ, mo τ, mh τ, md τ, mr τ, upd ((mu (mTb τ i))) i ((md τ) i), mv (mTb τ i), ms τ, mp τ, mw τ)) hx hb hts hts0 hown hK hP 6 (by decide) (by decide +kernel) rfl rfl dX1_table_144 ?_
          refine lv_iload_n hx hb dX1_table_147 rfl (lv_at hl 1 rfl) ?_
          refine g_ild hx hb hK hP 4 rfl (v := (md τ) i) (vp_in_nI (by omega) (by decide)) (by rw [nI_clamp (by omega)] <;> rfl) dX1_table_148 ?_
          refine lv_goto (tgt := 158) hx hb dX1_table_149 (by decide) ?_
          refine g_ist hx hb hK hP hD hS 7 rfl (f' := (upd ((mv (mTb τ i))) i ((md τ) i))) (vp_in_nI (by omega) (by decide)) (g_clu (k := i) (by omega) rfl) dX1_table_158 (fun H locs hP hD hS => ?_)
          have hP : gP E (mW E a (mt τ, mn τ, mk τ, mf τ, mo τ, mh τ, md τ, mr τ, upd ((mu (mTb τ i))) i ((md τ) i), upd ((mv (mTb τ i))) i ((md τ) i), ms τ, mp τ, mw τ)) H := hP
          have hD : va_D (va_A (mW E a τ) s.heap.size) (mW E a (mt τ, mn τ, mk τ, mf τ, mo τ, mh τ, md τ, mr τ, upd ((mu (mTb τ i))) i ((md τ) i), upd ((mv (mTb τ i))) i ((md τ) i), ms τ, mp τ, mw τ)) := hD
          refine lv_iinc (v := nI (i + 1)) (lv' := [(1, .int (nI (i + 1))), (2, .int 1), (0, .ref (a 0))]) hx hb dX1_table_159 hl (k := 1) rfl (nI_1 i) (by decide) rfl (fun ls hl => ?_)
          refine lv_goto (tgt := 2) hx hb dX1_table_162 (by decide) ?_
          exact ih (i + 1) H locs ls (by omega) (by rw [mTbG (b2i_eq0.mp c16) c26]; exact hP) hS (lv_sub hl [0, 2] rfl)
  exact key (mn τ) 0 _ _ ls (by omega) hP hS (lv_sub hl [0, 1] rfl)
theorem hinX1_places : ∀ w ∈ wsX10, w ∈ wsX1_places := fun w h => List.mem_cons_of_mem _ (List.mem_append_right _ h)
theorem hdX1_places : yX1_places.cls = RX1 ∧ yX1_places.cls ≠ "java/lang/invoke/MethodHandle" ∧ yX1_places.cls ≠ "java/lang/invoke/VarHandle" ∧ (parseMethodDescriptor yX1_places.desc).map (fun d => d.parameters.length) = some 0 := by decide +kernel
set_option maxHeartbeats 4000000 in
set_option maxRecDepth 100000 in
theorem m_places (l : Launch) (E : GE) (a : Nat → Nat) (τ : MS) (sz : Nat)  : Met l yX1_places wsX1_places { frames := 1, cells := 0, slots := 0, locals := 21 } (va_Pc [.ref (a 0)] (gBw E sz (mW E a τ))) (gQi E (nI (mn τ)) (mW E a τ) (mW E a (mThr τ 0)) sz) 0 0 (va_A (mW E a τ) sz) := by
  refine w_met (cc := cX1_places) (maxL := 1) (ret := (some .int)) (by decide) rfl (Nat.le_of_ble_eq_true rfl) ?_
  intro p e s m below meth c ls S hr hlocks hname hB hl
  obtain ⟨hsz, hP, hK, hD0⟩ := hB
  subst hsz
  have hD := hD0.self (sz := s.heap.size)
  have hA : ∀ q : Nat, s.heap.size ≤ q → va_A (mW E a τ) s.heap.size q := fun q h => Or.inr h
  have hS : va_S (va_A (mW E a τ) s.heap.size) s.heap s.heap [] := va_S.rf
  obtain ⟨hx, hb, hml, hown, hts⟩ := id S
  have hts0 := hinX1_places
  have hl : lv_has ls 1 [(0, .ref (a 0))] := hl
  refine lv_aload_n hx hb dX1_places_0 rfl (lv_at hl 0 rfl) ?_
  refine lv_aload_n hx hb dX1_places_1 rfl (lv_at hl 0 rfl) ?_
  refine m_get (τ := τ) hx hb hts hts0 hown hK hP 1 (by decide) (by decide +kernel) rfl rfl dX1_places_2 ?_
  refine m0wi (As := [.int (nI (mn τ))]) (rest := []) (τ' := mThr τ 0) S (m_ok l E a τ _ (nI (mn τ))) (cwV 1 hts gX1_places_X1_ok rfl rfl rfl hdX1_ok ⟨Nat.le_of_ble_eq_true rfl, Nat.le_of_ble_eq_true rfl⟩) hK hP hD hS hA rfl hl.1 rfl (Nat.le_of_ble_eq_true rfl) ⟨Nat.zero_le _, Nat.zero_le _⟩ dX1_places_5 (fun H locs hP hD hS => ?_)
  exact W.iret hx hb hr (fun t ht hW => ⟨⟨_, (), rfl, rfl, by show gP E _ t.heap; rw [ht]; exact hP⟩, hS.F ht⟩) hS.2.2 dX1_places_8
theorem hinX1_students : ∀ w ∈ wsX10, w ∈ wsX1_students := fun w h => List.mem_cons_of_mem _ (List.mem_append_right _ h)
theorem hdX1_students : yX1_students.cls = RX1 ∧ yX1_students.cls ≠ "java/lang/invoke/MethodHandle" ∧ yX1_students.cls ≠ "java/lang/invoke/VarHandle" ∧ (parseMethodDescriptor yX1_students.desc).map (fun d => d.parameters.length) = some 0 := by decide +kernel
set_option maxHeartbeats 4000000 in
set_option maxRecDepth 100000 in
theorem m_students (l : Launch) (E : GE) (a : Nat → Nat) (τ : MS) (sz : Nat)  : Met l yX1_students wsX1_students { frames := 1, cells := 0, slots := 0, locals := 21 } (va_Pc [.ref (a 0)] (gBw E sz (mW E a τ))) (gQi E (nI (mk τ)) (mW E a τ) (mW E a (mThr τ 0)) sz) 0 0 (va_A (mW E a τ) sz) := by
  refine w_met (cc := cX1_students) (maxL := 1) (ret := (some .int)) (by decide) rfl (Nat.le_of_ble_eq_true rfl) ?_
  intro p e s m below meth c ls S hr hlocks hname hB hl
  obtain ⟨hsz, hP, hK, hD0⟩ := hB
  subst hsz
  have hD := hD0.self (sz := s.heap.size)
  have hA : ∀ q : Nat, s.heap.size ≤ q → va_A (mW E a τ) s.heap.size q := fun q h => Or.inr h
  have hS : va_S (va_A (mW E a τ) s.heap.size) s.heap s.heap [] := va_S.rf
  obtain ⟨hx, hb, hml, hown, hts⟩ := id S
  have hts0 := hinX1_students
  have hl : lv_has ls 1 [(0, .ref (a 0))] := hl
  refine lv_aload_n hx hb dX1_students_0 rfl (lv_at hl 0 rfl) ?_
  refine lv_aload_n hx hb dX1_students_1 rfl (lv_at hl 0 rfl) ?_
  refine m_get (τ := τ) hx hb hts hts0 hown hK hP 2 (by decide) (by decide +kernel) rfl rfl dX1_students_2 ?_
  refine m0wi (As := [.int (nI (mk τ))]) (rest := []) (τ' := mThr τ 0) S (m_ok l E a τ _ (nI (mk τ))) (cwV 1 hts gX1_students_X1_ok rfl rfl rfl hdX1_ok ⟨Nat.le_of_ble_eq_true rfl, Nat.le_of_ble_eq_true rfl⟩) hK hP hD hS hA rfl hl.1 rfl (Nat.le_of_ble_eq_true rfl) ⟨Nat.zero_le _, Nat.zero_le _⟩ dX1_students_5 (fun H locs hP hD hS => ?_)
  exact W.iret hx hb hr (fun t ht hW => ⟨⟨_, (), rfl, rfl, by show gP E _ t.heap; rw [ht]; exact hP⟩, hS.F ht⟩) hS.2.2 dX1_students_8
theorem hinX1_exams : ∀ w ∈ wsX10, w ∈ wsX1_exams := fun w h => List.mem_cons_of_mem _ (List.mem_append_right _ h)
theorem hdX1_exams : yX1_exams.cls = RX1 ∧ yX1_exams.cls ≠ "java/lang/invoke/MethodHandle" ∧ yX1_exams.cls ≠ "java/lang/invoke/VarHandle" ∧ (parseMethodDescriptor yX1_exams.desc).map (fun d => d.parameters.length) = some 0 := by decide +kernel
set_option maxHeartbeats 4000000 in
set_option maxRecDepth 100000 in
theorem m_exams (l : Launch) (E : GE) (a : Nat → Nat) (τ : MS) (sz : Nat) (hO : MOK τ) : Met l yX1_exams wsX1_exams { frames := 1, cells := 0, slots := 0, locals := 22 } (va_Pc [.ref (a 0)] (gBw E sz (mW E a τ))) (gQi E (mXn τ) (mW E a τ) (mW E a (mThr τ 0)) sz) 0 0 (va_A (mW E a τ) sz) := by
  refine w_met (cc := cX1_exams) (maxL := 1) (ret := (some .int)) (by decide) rfl (Nat.le_of_ble_eq_true rfl) ?_
  intro p e s m below meth c ls S hr hlocks hname hB hl
  obtain ⟨hsz, hP, hK, hD0⟩ := hB
  subst hsz
  have hD := hD0.self (sz := s.heap.size)
  have hA : ∀ q : Nat, s.heap.size ≤ q → va_A (mW E a τ) s.heap.size q := fun q h => Or.inr h
  have hS : va_S (va_A (mW E a τ) s.heap.size) s.heap s.heap [] := va_S.rf
  obtain ⟨hx, hb, hml, hown, hts⟩ := id S
  have hts0 := hinX1_exams
  have hl : lv_has ls 1 [(0, .ref (a 0))] := hl
  refine lv_aload_n hx hb dX1_exams_0 rfl (lv_at hl 0 rfl) ?_
  refine lv_aload_n hx hb dX1_exams_1 rfl (lv_at hl 0 rfl) ?_
  refine m0i (As := []) (rest := [.ref (a 0)]) S (m_examsNow l E a τ hO) (cwV 0 hts gX1_exams_X1_examsNow rfl rfl rfl hdX1_examsNow ⟨Nat.le_of_ble_eq_true rfl, Nat.le_of_ble_eq_true rfl⟩) hK hP rfl hl.1 rfl (Nat.le_of_ble_eq_true rfl) ⟨Nat.zero_le _, Nat.zero_le _⟩ dX1_exams_2 ?_
  refine m0wi (As := [.int (mXn τ)]) (rest := []) (τ' := mThr τ 0) S (m_ok l E a τ _ (mXn τ)) (cwV 1 hts gX1_exams_X1_ok rfl rfl rfl hdX1_ok ⟨Nat.le_of_ble_eq_true rfl, Nat.le_of_ble_eq_true rfl⟩) hK hP hD hS hA rfl hl.1 rfl (Nat.le_of_ble_eq_true rfl) ⟨Nat.zero_le _, Nat.zero_le _⟩ dX1_exams_5 (fun H locs hP hD hS => ?_)
  exact W.iret hx hb hr (fun t ht hW => ⟨⟨_, (), rfl, rfl, by show gP E _ t.heap; rw [ht]; exact hP⟩, hS.F ht⟩) hS.2.2 dX1_exams_8
theorem hinX1_graded : ∀ w ∈ wsX10, w ∈ wsX1_graded := fun w h => List.mem_cons_of_mem _ (List.mem_append_right _ h)
theorem hdX1_graded : yX1_graded.cls = RX1 ∧ yX1_graded.cls ≠ "java/lang/invoke/MethodHandle" ∧ yX1_graded.cls ≠ "java/lang/invoke/VarHandle" ∧ (parseMethodDescriptor yX1_graded.desc).map (fun d => d.parameters.length) = some 0 := by decide +kernel
set_option maxHeartbeats 4000000 in
set_option maxRecDepth 100000 in
theorem m_graded (l : Launch) (E : GE) (a : Nat → Nat) (τ : MS) (sz : Nat) (hO : MOK τ) : Met l yX1_graded wsX1_graded { frames := 1, cells := 0, slots := 0, locals := 22 } (va_Pc [.ref (a 0)] (gBw E sz (mW E a τ))) (gQi E (mGn τ) (mW E a τ) (mW E a (mThr τ 0)) sz) 0 0 (va_A (mW E a τ) sz) := by
  refine w_met (cc := cX1_graded) (maxL := 1) (ret := (some .int)) (by decide) rfl (Nat.le_of_ble_eq_true rfl) ?_
  intro p e s m below meth c ls S hr hlocks hname hB hl
  obtain ⟨hsz, hP, hK, hD0⟩ := hB
  subst hsz
  have hD := hD0.self (sz := s.heap.size)
  have hA : ∀ q : Nat, s.heap.size ≤ q → va_A (mW E a τ) s.heap.size q := fun q h => Or.inr h
  have hS : va_S (va_A (mW E a τ) s.heap.size) s.heap s.heap [] := va_S.rf
  obtain ⟨hx, hb, hml, hown, hts⟩ := id S
  have hts0 := hinX1_graded
  have hl : lv_has ls 1 [(0, .ref (a 0))] := hl
  refine lv_aload_n hx hb dX1_graded_0 rfl (lv_at hl 0 rfl) ?_
  refine lv_aload_n hx hb dX1_graded_1 rfl (lv_at hl 0 rfl) ?_
  refine m0i (As := []) (rest := [.ref (a 0)]) S (m_gradedNow l E a τ hO) (cwV 0 hts gX1_graded_X1_gradedNow rfl rfl rfl hdX1_gradedNow ⟨Nat.le_of_ble_eq_true rfl, Nat.le_of_ble_eq_true rfl⟩) hK hP rfl hl.1 rfl (Nat.le_of_ble_eq_true rfl) ⟨Nat.zero_le _, Nat.zero_le _⟩ dX1_graded_2 ?_
  refine m0wi (As := [.int (mGn τ)]) (rest := []) (τ' := mThr τ 0) S (m_ok l E a τ _ (mGn τ)) (cwV 1 hts gX1_graded_X1_ok rfl rfl rfl hdX1_ok ⟨Nat.le_of_ble_eq_true rfl, Nat.le_of_ble_eq_true rfl⟩) hK hP hD hS hA rfl hl.1 rfl (Nat.le_of_ble_eq_true rfl) ⟨Nat.zero_le _, Nat.zero_le _⟩ dX1_graded_5 (fun H locs hP hD hS => ?_)
  exact W.iret hx hb hr (fun t ht hW => ⟨⟨_, (), rfl, rfl, by show gP E _ t.heap; rw [ht]; exact hP⟩, hS.F ht⟩) hS.2.2 dX1_graded_8
theorem hinX1_atExams : ∀ w ∈ wsX10, w ∈ wsX1_atExams := fun w h => List.mem_cons_of_mem _ (List.mem_append_right _ h)
theorem hdX1_atExams : yX1_atExams.cls = RX1 ∧ yX1_atExams.cls ≠ "java/lang/invoke/MethodHandle" ∧ yX1_atExams.cls ≠ "java/lang/invoke/VarHandle" ∧ (parseMethodDescriptor yX1_atExams.desc).map (fun d => d.parameters.length) = some 0 := by decide +kernel
set_option maxHeartbeats 4000000 in
set_option maxRecDepth 100000 in
theorem m_atExams (l : Launch) (E : GE) (a : Nat → Nat) (τ : MS) (sz : Nat) (hO : MOK τ) : Met l yX1_atExams wsX1_atExams { frames := 1, cells := 0, slots := 0, locals := 22 } (va_Pc [.ref (a 0)] (gBw E sz (mW E a τ))) (gQi E (mAt τ) (mW E a τ) (mW E a (mThr τ 0)) sz) 0 0 (va_A (mW E a τ) sz) := by
  refine w_met (cc := cX1_atExams) (maxL := 1) (ret := (some .int)) (by decide) rfl (Nat.le_of_ble_eq_true rfl) ?_
  intro p e s m below meth c ls S hr hlocks hname hB hl
  obtain ⟨hsz, hP, hK, hD0⟩ := hB
  subst hsz
  have hD := hD0.self (sz := s.heap.size)
  have hA : ∀ q : Nat, s.heap.size ≤ q → va_A (mW E a τ) s.heap.size q := fun q h => Or.inr h
  have hS : va_S (va_A (mW E a τ) s.heap.size) s.heap s.heap [] := va_S.rf
  obtain ⟨hx, hb, hml, hown, hts⟩ := id S
  have hts0 := hinX1_atExams
  have hl : lv_has ls 1 [(0, .ref (a 0))] := hl
  refine lv_aload_n hx hb dX1_atExams_0 rfl (lv_at hl 0 rfl) ?_
  refine lv_aload_n hx hb dX1_atExams_1 rfl (lv_at hl 0 rfl) ?_
  refine m0i (As := []) (rest := [.ref (a 0)]) S (m_atEnds l E a τ hO) (cwV 0 hts gX1_atExams_X1_atEnds rfl rfl rfl hdX1_atEnds ⟨Nat.le_of_ble_eq_true rfl, Nat.le_of_ble_eq_true rfl⟩) hK hP rfl hl.1 rfl (Nat.le_of_ble_eq_true rfl) ⟨Nat.zero_le _, Nat.zero_le _⟩ dX1_atExams_2 ?_
  refine m0wi (As := [.int (mAt τ)]) (rest := []) (τ' := mThr τ 0) S (m_ok l E a τ _ (mAt τ)) (cwV 1 hts gX1_atExams_X1_ok rfl rfl rfl hdX1_ok ⟨Nat.le_of_ble_eq_true rfl, Nat.le_of_ble_eq_true rfl⟩) hK hP hD hS hA rfl hl.1 rfl (Nat.le_of_ble_eq_true rfl) ⟨Nat.zero_le _, Nat.zero_le _⟩ dX1_atExams_5 (fun H locs hP hD hS => ?_)
  exact W.iret hx hb hr (fun t ht hW => ⟨⟨_, (), rfl, rfl, by show gP E _ t.heap; rw [ht]; exact hP⟩, hS.F ht⟩) hS.2.2 dX1_atExams_8
theorem hinX1_allRegret : ∀ w ∈ wsX10, w ∈ wsX1_allRegret := fun w h => List.mem_cons_of_mem _ (List.mem_append_right _ h)
theorem hdX1_allRegret : yX1_allRegret.cls = RX1 ∧ yX1_allRegret.cls ≠ "java/lang/invoke/MethodHandle" ∧ yX1_allRegret.cls ≠ "java/lang/invoke/VarHandle" ∧ (parseMethodDescriptor yX1_allRegret.desc).map (fun d => d.parameters.length) = some 0 := by decide +kernel
set_option maxHeartbeats 4000000 in
set_option maxRecDepth 100000 in
theorem m_allRegret (l : Launch) (E : GE) (a : Nat → Nat) (τ : MS) (sz : Nat) (hO : MOK τ) : Met l yX1_allRegret wsX1_allRegret { frames := 5, cells := 0, slots := 0, locals := 113 } (va_Pc [.ref (a 0)] (gBw E sz (mW E a τ))) (gQi E (mAll τ) (mW E a τ) (mW E a (mThr τ 0)) sz) 0 0 (va_A (mW E a τ) sz) := by
  refine w_met (cc := cX1_allRegret) (maxL := 1) (ret := (some .int)) (by decide) rfl (Nat.le_of_ble_eq_true rfl) ?_
  intro p e s m below meth c ls S hr hlocks hname hB hl
  obtain ⟨hsz, hP, hK, hD0⟩ := hB
  subst hsz
  have hD := hD0.self (sz := s.heap.size)
  have hA : ∀ q : Nat, s.heap.size ≤ q → va_A (mW E a τ) s.heap.size q := fun q h => Or.inr h
  have hS : va_S (va_A (mW E a τ) s.heap.size) s.heap s.heap [] := va_S.rf
  obtain ⟨hx, hb, hml, hown, hts⟩ := id S
  have hts0 := hinX1_allRegret
  have hl : lv_has ls 1 [(0, .ref (a 0))] := hl
  refine lv_aload_n hx hb dX1_allRegret_0 rfl (lv_at hl 0 rfl) ?_
  refine lv_aload_n hx hb dX1_allRegret_1 rfl (lv_at hl 0 rfl) ?_
  refine m0i (As := []) (rest := [.ref (a 0)]) S (m_allRegrets l E a τ hO) (cwV 0 hts gX1_allRegret_X1_allRegrets rfl rfl rfl hdX1_allRegrets ⟨Nat.le_of_ble_eq_true rfl, Nat.le_of_ble_eq_true rfl⟩) hK hP rfl hl.1 rfl (Nat.le_of_ble_eq_true rfl) ⟨Nat.zero_le _, Nat.zero_le _⟩ dX1_allRegret_2 ?_
  refine m0wi (As := [.int (mAll τ)]) (rest := []) (τ' := mThr τ 0) S (m_ok l E a τ _ (mAll τ)) (cwV 1 hts gX1_allRegret_X1_ok rfl rfl rfl hdX1_ok ⟨Nat.le_of_ble_eq_true rfl, Nat.le_of_ble_eq_true rfl⟩) hK hP hD hS hA rfl hl.1 rfl (Nat.le_of_ble_eq_true rfl) ⟨Nat.zero_le _, Nat.zero_le _⟩ dX1_allRegret_5 (fun H locs hP hD hS => ?_)
  exact W.iret hx hb hr (fun t ht hW => ⟨⟨_, (), rfl, rfl, by show gP E _ t.heap; rw [ht]; exact hP⟩, hS.F ht⟩) hS.2.2 dX1_allRegret_8
theorem hinX1_riskiestFork : ∀ w ∈ wsX10, w ∈ wsX1_riskiestFork := fun w h => List.mem_cons_of_mem _ (List.mem_append_right _ h)
theorem hdX1_riskiestFork : yX1_riskiestFork.cls = RX1 ∧ yX1_riskiestFork.cls ≠ "java/lang/invoke/MethodHandle" ∧ yX1_riskiestFork.cls ≠ "java/lang/invoke/VarHandle" ∧ (parseMethodDescriptor yX1_riskiestFork.desc).map (fun d => d.parameters.length) = some 0 := by decide +kernel
set_option maxHeartbeats 4000000 in
set_option maxRecDepth 100000 in
theorem m_riskiestFork (l : Launch) (E : GE) (a : Nat → Nat) (τ : MS) (sz : Nat) (hO : MOK τ) : Met l yX1_riskiestFork wsX1_riskiestFork { frames := 3, cells := 0, slots := 0, locals := 69 } (va_Pc [.ref (a 0)] (gBw E sz (mW E a τ))) (gQi E ((mRf (mTab τ)).1) (mW E a τ) (mW E a (mThr (mTab τ) 0)) sz) 0 0 (va_A (mW E a τ) sz) := by
  refine w_met (cc := cX1_riskiestFork) (maxL := 1) (ret := (some .int)) (by decide) rfl (Nat.le_of_ble_eq_true rfl) ?_
  intro p e s m below meth c ls S hr hlocks hname hB hl
  obtain ⟨hsz, hP, hK, hD0⟩ := hB
  subst hsz
  have hD := hD0.self (sz := s.heap.size)
  have hA : ∀ q : Nat, s.heap.size ≤ q → va_A (mW E a τ) s.heap.size q := fun q h => Or.inr h
  have hS : va_S (va_A (mW E a τ) s.heap.size) s.heap s.heap [] := va_S.rf
  obtain ⟨hx, hb, hml, hown, hts⟩ := id S
  have hts0 := hinX1_riskiestFork
  have hl : lv_has ls 1 [(0, .ref (a 0))] := hl
  refine lv_aload_n hx hb dX1_riskiestFork_0 rfl (lv_at hl 0 rfl) ?_
  refine m0wv (As := []) (rest := []) (τ' := mTab τ) S (m_table l E a τ _ hO) (cwV 0 hts gX1_riskiestFork_X1_table rfl rfl rfl hdX1_table ⟨Nat.le_of_ble_eq_true rfl, Nat.le_of_ble_eq_true rfl⟩) hK hP hD hS hA rfl hl.1 rfl (Nat.le_of_ble_eq_true rfl) ⟨Nat.zero_le _, Nat.zero_le _⟩ dX1_riskiestFork_1 (fun H locs hP hD hS => ?_)
  refine lv_aload_n hx hb dX1_riskiestFork_4 rfl (lv_at hl 0 rfl) ?_
  refine lv_aload_n hx hb dX1_riskiestFork_5 rfl (lv_at hl 0 rfl) ?_
  refine m0i (As := []) (rest := [.ref (a 0)]) S (m_riskiest l E a (mTab τ) hO) (cwV 0 hts gX1_riskiestFork_X1_riskiest rfl rfl rfl hdX1_riskiest ⟨Nat.le_of_ble_eq_true rfl, Nat.le_of_ble_eq_true rfl⟩) hK hP rfl hl.1 rfl (Nat.le_of_ble_eq_true rfl) ⟨Nat.zero_le _, Nat.zero_le _⟩ dX1_riskiestFork_6 ?_
  refine m0wi (As := [.int ((mRf (mTab τ)).1)]) (rest := []) (τ' := mThr (mTab τ) 0) S (m_ok l E a (mTab τ) _ ((mRf (mTab τ)).1)) (cwV 1 hts gX1_riskiestFork_X1_ok rfl rfl rfl hdX1_ok ⟨Nat.le_of_ble_eq_true rfl, Nat.le_of_ble_eq_true rfl⟩) hK hP hD hS hA rfl hl.1 rfl (Nat.le_of_ble_eq_true rfl) ⟨Nat.zero_le _, Nat.zero_le _⟩ dX1_riskiestFork_9 (fun H locs hP hD hS => ?_)
  exact W.iret hx hb hr (fun t ht hW => ⟨⟨_, (), rfl, rfl, by show gP E _ t.heap; rw [ht]; exact hP⟩, hS.F ht⟩) hS.2.2 dX1_riskiestFork_12
theorem hinX1_isExam : ∀ w ∈ wsX10, w ∈ wsX1_isExam := fun w h => List.mem_cons_of_mem _ (List.mem_append_right _ h)
theorem hdX1_isExam : yX1_isExam.cls = RX1 ∧ yX1_isExam.cls ≠ "java/lang/invoke/MethodHandle" ∧ yX1_isExam.cls ≠ "java/lang/invoke/VarHandle" ∧ (parseMethodDescriptor yX1_isExam.desc).map (fun d => d.parameters.length) = some 1 := by decide +kernel
set_option maxHeartbeats 4000000 in
set_option maxRecDepth 100000 in
theorem m_isExam (l : Launch) (E : GE) (a : Nat → Nat) (τ : MS) (sz : Nat) (hn : mn τ ≤ 40) (k : Nat) (hk : k < mn τ) (hp : mIsP τ (nI k) = true) : Met l yX1_isExam wsX1_isExam { frames := 2, cells := 0, slots := 0, locals := 43 } (va_Pc [.ref (a 0), .int (nI k)] (gBw E sz (mW E a τ))) (gQi E (b2i (!mf τ k)) (mW E a τ) (mW E a (mThr τ 0)) sz) 0 0 (va_A (mW E a τ) sz) := by
  refine w_met (cc := cX1_isExam) (maxL := 2) (ret := (some .boolean)) (by decide) rfl (Nat.le_of_ble_eq_true rfl) ?_
  intro p e s m below meth c ls S hr hlocks hname hB hl
  obtain ⟨hsz, hP, hK, hD0⟩ := hB
  subst hsz
  have hD := hD0.self (sz := s.heap.size)
  have hA : ∀ q : Nat, s.heap.size ≤ q → va_A (mW E a τ) s.heap.size q := fun q h => Or.inr h
  have hS : va_S (va_A (mW E a τ) s.heap.size) s.heap s.heap [] := va_S.rf
  obtain ⟨hx, hb, hml, hown, hts⟩ := id S
  have hts0 := hinX1_isExam
  have hl : lv_has ls 2 [(0, .ref (a 0)), (1, .int (nI k))] := hl
  refine lv_aload_n hx hb dX1_isExam_0 rfl (lv_at hl 0 rfl) ?_
  refine lv_iconst (v := 0) hx hb dX1_isExam_1 (by decide) ?_
  refine va_put (D := E.1) (ci := 1) (v := .int 0) (ty := .int) (C := RX1) (T := TX1) (N := 13) hx hb hts hts0 tyX1 tyX1_ok nmX1 hown hK hP hD hS 0 rfl rfl 0 (by decide) (hts (.fieldLink RX1 42 "ExamGardenModel" "thrown" "I") (by decide +kernel)) (fun _ h9 => h9) rfl (by decide +kernel) rfl rfl (Nat.le_of_ble_eq_true rfl) dX1_isExam_2 (fun H locs hP hD hS => ?_)
  have hP : gP E (mW E a (0, mn τ, mk τ, mf τ, mo τ, mh τ, md τ, mr τ, mu τ, mv τ, ms τ, mp τ, mw τ)) H := hP
  have hD : va_D (va_A (mW E a τ) s.heap.size) (mW E a (0, mn τ, mk τ, mf τ, mo τ, mh τ, md τ, mr τ, mu τ, mv τ, ms τ, mp τ, mw τ)) := hD
  refine lv_aload_n hx hb dX1_isExam_5 rfl (lv_at hl 0 rfl) ?_
  refine lv_iload_n hx hb dX1_isExam_6 rfl (lv_at hl 1 rfl) ?_
  refine m0i (As := [.int (nI k)]) (rest := []) S (m_isPlace l E a (0, mn τ, mk τ, mf τ, mo τ, mh τ, md τ, mr τ, mu τ, mv τ, ms τ, mp τ, mw τ) (nI k)) (cwV 1 hts gX1_isExam_X1_isPlace rfl rfl rfl hdX1_isPlace ⟨Nat.le_of_ble_eq_true rfl, Nat.le_of_ble_eq_true rfl⟩) hK hP rfl hl.1 rfl (Nat.le_of_ble_eq_true rfl) ⟨Nat.zero_le _, Nat.zero_le _⟩ dX1_isExam_7 ?_
  refine lv_if_eq (tgt := 30) hx hb dX1_isExam_10 (by decide) (fun q => absurd q ((b2i_ne0.mpr hp))) (fun _ => ?_)
  refine lv_aload_n hx hb dX1_isExam_13 rfl (lv_at hl 0 rfl) ?_
  refine m_get (τ := (0, mn τ, mk τ, mf τ, mo τ, mh τ, md τ, mr τ, mu τ, mv τ, ms τ, mp τ, mw τ)) hx hb hts hts0 hown hK hP 3 (by decide) (by decide +kernel) rfl rfl dX1_isExam_14 ?_
  refine lv_iload_n hx hb dX1_isExam_17 rfl (lv_at hl 1 rfl) ?_
  refine g_zld hx hb hK hP 1 rfl (v := b2i ((mf τ) k)) (vp_in_nI (by omega) (by decide)) (by rw [nI_clamp (by omega)] <;> rfl) dX1_isExam_18 ?_
  refine lv_if_ne (tgt := 26) hx hb dX1_isExam_19 (by decide) (fun c19 => ?_) (fun c19 => ?_)
  · refine lv_iconst (v := 0) hx hb dX1_isExam_26 (by decide) ?_
    refine lv_goto (tgt := 35) hx hb dX1_isExam_27 (by decide) ?_
    exact W.zret hx hb hr rfl (fun t ht hW => ⟨⟨_, (), rfl, (by first | (rw [b2i_eq0.mp c19]; rfl) | (rw [b2i_ne0.mp c19]; rfl)), by show gP E _ t.heap; rw [ht]; exact hP⟩, hS.F ht⟩) hS.2.2 dX1_isExam_35
  · refine lv_iconst (v := 1) hx hb dX1_isExam_22 (by decide) ?_
    refine lv_goto (tgt := 35) hx hb dX1_isExam_23 (by decide) ?_
    exact W.zret hx hb hr rfl (fun t ht hW => ⟨⟨_, (), rfl, (by first | (rw [b2i_eq0.mp c19]; rfl) | (rw [b2i_ne0.mp c19]; rfl)), by show gP E _ t.heap; rw [ht]; exact hP⟩, hS.F ht⟩) hS.2.2 dX1_isExam_35
set_option maxHeartbeats 4000000 in
set_option maxRecDepth 100000 in
theorem m_isExam_b (l : Launch) (E : GE) (a : Nat → Nat) (τ : MS) (sz : Nat) (pp : Int32) (hp : mIsP τ pp = false) : Met l yX1_isExam wsX1_isExam { frames := 2, cells := 0, slots := 0, locals := 43 } (va_Pc [.ref (a 0), .int pp] (gBw E sz (mW E a τ))) (gQi E (0) (mW E a τ) (mW E a (mThr τ 1)) sz) 0 0 (va_A (mW E a τ) sz) := by
  refine w_met (cc := cX1_isExam) (maxL := 2) (ret := (some .boolean)) (by decide) rfl (Nat.le_of_ble_eq_true rfl) ?_
  intro p e s m below meth c ls S hr hlocks hname hB hl
  obtain ⟨hsz, hP, hK, hD0⟩ := hB
  subst hsz
  have hD := hD0.self (sz := s.heap.size)
  have hA : ∀ q : Nat, s.heap.size ≤ q → va_A (mW E a τ) s.heap.size q := fun q h => Or.inr h
  have hS : va_S (va_A (mW E a τ) s.heap.size) s.heap s.heap [] := va_S.rf
  obtain ⟨hx, hb, hml, hown, hts⟩ := id S
  have hts0 := hinX1_isExam
  have hl : lv_has ls 2 [(0, .ref (a 0)), (1, .int pp)] := hl
  refine lv_aload_n hx hb dX1_isExam_0 rfl (lv_at hl 0 rfl) ?_
  refine lv_iconst (v := 0) hx hb dX1_isExam_1 (by decide) ?_
  refine va_put (D := E.1) (ci := 1) (v := .int 0) (ty := .int) (C := RX1) (T := TX1) (N := 13) hx hb hts hts0 tyX1 tyX1_ok nmX1 hown hK hP hD hS 0 rfl rfl 0 (by decide) (hts (.fieldLink RX1 42 "ExamGardenModel" "thrown" "I") (by decide +kernel)) (fun _ h9 => h9) rfl (by decide +kernel) rfl rfl (Nat.le_of_ble_eq_true rfl) dX1_isExam_2 (fun H locs hP hD hS => ?_)
  have hP : gP E (mW E a (0, mn τ, mk τ, mf τ, mo τ, mh τ, md τ, mr τ, mu τ, mv τ, ms τ, mp τ, mw τ)) H := hP
  have hD : va_D (va_A (mW E a τ) s.heap.size) (mW E a (0, mn τ, mk τ, mf τ, mo τ, mh τ, md τ, mr τ, mu τ, mv τ, ms τ, mp τ, mw τ)) := hD
  refine lv_aload_n hx hb dX1_isExam_5 rfl (lv_at hl 0 rfl) ?_
  refine lv_iload_n hx hb dX1_isExam_6 rfl (lv_at hl 1 rfl) ?_
  refine m0i (As := [.int pp]) (rest := []) S (m_isPlace l E a (0, mn τ, mk τ, mf τ, mo τ, mh τ, md τ, mr τ, mu τ, mv τ, ms τ, mp τ, mw τ) pp) (cwV 1 hts gX1_isExam_X1_isPlace rfl rfl rfl hdX1_isPlace ⟨Nat.le_of_ble_eq_true rfl, Nat.le_of_ble_eq_true rfl⟩) hK hP rfl hl.1 rfl (Nat.le_of_ble_eq_true rfl) ⟨Nat.zero_le _, Nat.zero_le _⟩ dX1_isExam_7 ?_
  refine lv_if_eq (tgt := 30) hx hb dX1_isExam_10 (by decide) (fun _ => ?_) (fun q => absurd ((b2i_eq0.mpr hp)) q)
  refine lv_aload_n hx hb dX1_isExam_30 rfl (lv_at hl 0 rfl) ?_
  refine lv_iconst (v := 1) hx hb dX1_isExam_31 (by decide) ?_
  refine m0wi (As := [.int 1]) (rest := []) (τ' := mThr (0, mn τ, mk τ, mf τ, mo τ, mh τ, md τ, mr τ, mu τ, mv τ, ms τ, mp τ, mw τ) 1) S (m_isNot l E a (0, mn τ, mk τ, mf τ, mo τ, mh τ, md τ, mr τ, mu τ, mv τ, ms τ, mp τ, mw τ) _ 1) (cwV 1 hts gX1_isExam_X1_isNot rfl rfl rfl hdX1_isNot ⟨Nat.le_of_ble_eq_true rfl, Nat.le_of_ble_eq_true rfl⟩) hK hP hD hS hA rfl hl.1 rfl (Nat.le_of_ble_eq_true rfl) ⟨Nat.zero_le _, Nat.zero_le _⟩ dX1_isExam_32 (fun H locs hP hD hS => ?_)
  exact W.zret hx hb hr rfl (fun t ht hW => ⟨⟨_, (), rfl, rfl, by show gP E _ t.heap; rw [ht]; exact hP⟩, hS.F ht⟩) hS.2.2 dX1_isExam_35
theorem hinX1_isGraded : ∀ w ∈ wsX10, w ∈ wsX1_isGraded := fun w h => List.mem_cons_of_mem _ (List.mem_append_right _ h)
theorem hdX1_isGraded : yX1_isGraded.cls = RX1 ∧ yX1_isGraded.cls ≠ "java/lang/invoke/MethodHandle" ∧ yX1_isGraded.cls ≠ "java/lang/invoke/VarHandle" ∧ (parseMethodDescriptor yX1_isGraded.desc).map (fun d => d.parameters.length) = some 1 := by decide +kernel
set_option maxHeartbeats 4000000 in
set_option maxRecDepth 100000 in
theorem m_isGraded (l : Launch) (E : GE) (a : Nat → Nat) (τ : MS) (sz : Nat) (hn : mn τ ≤ 40) (k : Nat) (hk : k < mn τ) (hp : mIsP τ (nI k) = true) (hE : mf τ k = false) : Met l yX1_isGraded wsX1_isGraded { frames := 3, cells := 0, slots := 0, locals := 64 } (va_Pc [.ref (a 0), .int (nI k)] (gBw E sz (mW E a τ))) (gQi E (b2i (!decide (md τ k = -1))) (mW E a τ) (mW E a (mThr τ 0)) sz) 0 0 (va_A (mW E a τ) sz) := by
  refine w_met (cc := cX1_isGraded) (maxL := 2) (ret := (some .boolean)) (by decide) rfl (Nat.le_of_ble_eq_true rfl) ?_
  intro p e s m below meth c ls S hr hlocks hname hB hl
  obtain ⟨hsz, hP, hK, hD0⟩ := hB
  subst hsz
  have hD := hD0.self (sz := s.heap.size)
  have hA : ∀ q : Nat, s.heap.size ≤ q → va_A (mW E a τ) s.heap.size q := fun q h => Or.inr h
  have hS : va_S (va_A (mW E a τ) s.heap.size) s.heap s.heap [] := va_S.rf
  obtain ⟨hx, hb, hml, hown, hts⟩ := id S
  have hts0 := hinX1_isGraded
  have hl : lv_has ls 2 [(0, .ref (a 0)), (1, .int (nI k))] := hl
  refine lv_aload_n hx hb dX1_isGraded_0 rfl (lv_at hl 0 rfl) ?_
  refine lv_iconst (v := 0) hx hb dX1_isGraded_1 (by decide) ?_
  refine va_put (D := E.1) (ci := 1) (v := .int 0) (ty := .int) (C := RX1) (T := TX1) (N := 13) hx hb hts hts0 tyX1 tyX1_ok nmX1 hown hK hP hD hS 0 rfl rfl 0 (by decide) (hts (.fieldLink RX1 42 "ExamGardenModel" "thrown" "I") (by decide +kernel)) (fun _ h9 => h9) rfl (by decide +kernel) rfl rfl (Nat.le_of_ble_eq_true rfl) dX1_isGraded_2 (fun H locs hP hD hS => ?_)
  have hP : gP E (mW E a (0, mn τ, mk τ, mf τ, mo τ, mh τ, md τ, mr τ, mu τ, mv τ, ms τ, mp τ, mw τ)) H := hP
  have hD : va_D (va_A (mW E a τ) s.heap.size) (mW E a (0, mn τ, mk τ, mf τ, mo τ, mh τ, md τ, mr τ, mu τ, mv τ, ms τ, mp τ, mw τ)) := hD
  refine lv_aload_n hx hb dX1_isGraded_5 rfl (lv_at hl 0 rfl) ?_
  refine lv_iload_n hx hb dX1_isGraded_6 rfl (lv_at hl 1 rfl) ?_
  refine m0i (As := [.int (nI k)]) (rest := []) S (m_isExamAt l E a (0, mn τ, mk τ, mf τ, mo τ, mh τ, md τ, mr τ, mu τ, mv τ, ms τ, mp τ, mw τ) k (by omega) hp) (cwV 1 hts gX1_isGraded_X1_isExamAt rfl rfl rfl hdX1_isExamAt ⟨Nat.le_of_ble_eq_true rfl, Nat.le_of_ble_eq_true rfl⟩) hK hP rfl hl.1 rfl (Nat.le_of_ble_eq_true rfl) ⟨Nat.zero_le _, Nat.zero_le _⟩ dX1_isGraded_7 ?_
  refine lv_if_eq (tgt := 31) hx hb dX1_isGraded_10 (by decide) (fun q => absurd q ((b2i_ne0.mpr (by rw [hE]; rfl)))) (fun _ => ?_)
  refine lv_aload_n hx hb dX1_isGraded_13 rfl (lv_at hl 0 rfl) ?_
  refine m_get (τ := (0, mn τ, mk τ, mf τ, mo τ, mh τ, md τ, mr τ, mu τ, mv τ, ms τ, mp τ, mw τ)) hx hb hts hts0 hown hK hP 6 (by decide) (by decide +kernel) rfl rfl dX1_isGraded_14 ?_
  refine lv_iload_n hx hb dX1_isGraded_17 rfl (lv_at hl 1 rfl) ?_
  refine g_ild hx hb hK hP 4 rfl (v := (md τ) k) (vp_in_nI (by omega) (by decide)) (by rw [nI_clamp (by omega)] <;> rfl) dX1_isGraded_18 ?_
  refine lv_iconst (v := -1) hx hb dX1_isGraded_19 (by decide) ?_
  refine lv_icmp_eq (tgt := 27) hx hb dX1_isGraded_20 (by decide) (fun c20 => ?_) (fun c20 => ?_)
  · refine lv_iconst (v := 0) hx hb dX1_isGraded_27 (by decide) ?_
    refine lv_goto (tgt := 36) hx hb dX1_isGraded_28 (by decide) ?_
    exact W.zret hx hb hr rfl (fun t ht hW => ⟨⟨_, (), rfl, (by first | (rw [decide_eq_true c20]; rfl) | (rw [decide_eq_false c20]; rfl)), by show gP E _ t.heap; rw [ht]; exact hP⟩, hS.F ht⟩) hS.2.2 dX1_isGraded_36
  · refine lv_iconst (v := 1) hx hb dX1_isGraded_23 (by decide) ?_
    refine lv_goto (tgt := 36) hx hb dX1_isGraded_24 (by decide) ?_
    exact W.zret hx hb hr rfl (fun t ht hW => ⟨⟨_, (), rfl, (by first | (rw [decide_eq_true c20]; rfl) | (rw [decide_eq_false c20]; rfl)), by show gP E _ t.heap; rw [ht]; exact hP⟩, hS.F ht⟩) hS.2.2 dX1_isGraded_36
set_option maxHeartbeats 4000000 in
set_option maxRecDepth 100000 in
theorem m_isGraded_b (l : Launch) (E : GE) (a : Nat → Nat) (τ : MS) (sz : Nat) (pp : Int32) (hp : mIsP τ pp = false) : Met l yX1_isGraded wsX1_isGraded { frames := 3, cells := 0, slots := 0, locals := 64 } (va_Pc [.ref (a 0), .int pp] (gBw E sz (mW E a τ))) (gQi E (0) (mW E a τ) (mW E a (mThr τ 1)) sz) 0 0 (va_A (mW E a τ) sz) := by
  refine w_met (cc := cX1_isGraded) (maxL := 2) (ret := (some .boolean)) (by decide) rfl (Nat.le_of_ble_eq_true rfl) ?_
  intro p e s m below meth c ls S hr hlocks hname hB hl
  obtain ⟨hsz, hP, hK, hD0⟩ := hB
  subst hsz
  have hD := hD0.self (sz := s.heap.size)
  have hA : ∀ q : Nat, s.heap.size ≤ q → va_A (mW E a τ) s.heap.size q := fun q h => Or.inr h
  have hS : va_S (va_A (mW E a τ) s.heap.size) s.heap s.heap [] := va_S.rf
  obtain ⟨hx, hb, hml, hown, hts⟩ := id S
  have hts0 := hinX1_isGraded
  have hl : lv_has ls 2 [(0, .ref (a 0)), (1, .int pp)] := hl
  refine lv_aload_n hx hb dX1_isGraded_0 rfl (lv_at hl 0 rfl) ?_
  refine lv_iconst (v := 0) hx hb dX1_isGraded_1 (by decide) ?_
  refine va_put (D := E.1) (ci := 1) (v := .int 0) (ty := .int) (C := RX1) (T := TX1) (N := 13) hx hb hts hts0 tyX1 tyX1_ok nmX1 hown hK hP hD hS 0 rfl rfl 0 (by decide) (hts (.fieldLink RX1 42 "ExamGardenModel" "thrown" "I") (by decide +kernel)) (fun _ h9 => h9) rfl (by decide +kernel) rfl rfl (Nat.le_of_ble_eq_true rfl) dX1_isGraded_2 (fun H locs hP hD hS => ?_)
  have hP : gP E (mW E a (0, mn τ, mk τ, mf τ, mo τ, mh τ, md τ, mr τ, mu τ, mv τ, ms τ, mp τ, mw τ)) H := hP
  have hD : va_D (va_A (mW E a τ) s.heap.size) (mW E a (0, mn τ, mk τ, mf τ, mo τ, mh τ, md τ, mr τ, mu τ, mv τ, ms τ, mp τ, mw τ)) := hD
  refine lv_aload_n hx hb dX1_isGraded_5 rfl (lv_at hl 0 rfl) ?_
  refine lv_iload_n hx hb dX1_isGraded_6 rfl (lv_at hl 1 rfl) ?_
  refine m0i (As := [.int pp]) (rest := []) S (m_isExamAt_b l E a (0, mn τ, mk τ, mf τ, mo τ, mh τ, md τ, mr τ, mu τ, mv τ, ms τ, mp τ, mw τ) pp hp) (cwV 1 hts gX1_isGraded_X1_isExamAt rfl rfl rfl hdX1_isExamAt ⟨Nat.le_of_ble_eq_true rfl, Nat.le_of_ble_eq_true rfl⟩) hK hP rfl hl.1 rfl (Nat.le_of_ble_eq_true rfl) ⟨Nat.zero_le _, Nat.zero_le _⟩ dX1_isGraded_7 ?_
  refine lv_if_eq (tgt := 31) hx hb dX1_isGraded_10 (by decide) (fun _ => ?_) (fun q => absurd rfl q)
  refine lv_aload_n hx hb dX1_isGraded_31 rfl (lv_at hl 0 rfl) ?_
  refine lv_iconst (v := 1) hx hb dX1_isGraded_32 (by decide) ?_
  refine m0wi (As := [.int 1]) (rest := []) (τ' := mThr (0, mn τ, mk τ, mf τ, mo τ, mh τ, md τ, mr τ, mu τ, mv τ, ms τ, mp τ, mw τ) 1) S (m_isNot l E a (0, mn τ, mk τ, mf τ, mo τ, mh τ, md τ, mr τ, mu τ, mv τ, ms τ, mp τ, mw τ) _ 1) (cwV 1 hts gX1_isGraded_X1_isNot rfl rfl rfl hdX1_isNot ⟨Nat.le_of_ble_eq_true rfl, Nat.le_of_ble_eq_true rfl⟩) hK hP hD hS hA rfl hl.1 rfl (Nat.le_of_ble_eq_true rfl) ⟨Nat.zero_le _, Nat.zero_le _⟩ dX1_isGraded_33 (fun H locs hP hD hS => ?_)
  exact W.zret hx hb hr rfl (fun t ht hW => ⟨⟨_, (), rfl, rfl, by show gP E _ t.heap; rw [ht]; exact hP⟩, hS.F ht⟩) hS.2.2 dX1_isGraded_36
set_option maxHeartbeats 4000000 in
set_option maxRecDepth 100000 in
theorem m_isGraded_f (l : Launch) (E : GE) (a : Nat → Nat) (τ : MS) (sz : Nat) (hn : mn τ ≤ 40) (k : Nat) (hk : k < mn τ) (hp : mIsP τ (nI k) = true) (hE : mf τ k = true) : Met l yX1_isGraded wsX1_isGraded { frames := 3, cells := 0, slots := 0, locals := 64 } (va_Pc [.ref (a 0), .int (nI k)] (gBw E sz (mW E a τ))) (gQi E (0) (mW E a τ) (mW E a (mThr τ 1)) sz) 0 0 (va_A (mW E a τ) sz) := by
  refine w_met (cc := cX1_isGraded) (maxL := 2) (ret := (some .boolean)) (by decide) rfl (Nat.le_of_ble_eq_true rfl) ?_
  intro p e s m below meth c ls S hr hlocks hname hB hl
  obtain ⟨hsz, hP, hK, hD0⟩ := hB
  subst hsz
  have hD := hD0.self (sz := s.heap.size)
  have hA : ∀ q : Nat, s.heap.size ≤ q → va_A (mW E a τ) s.heap.size q := fun q h => Or.inr h
  have hS : va_S (va_A (mW E a τ) s.heap.size) s.heap s.heap [] := va_S.rf
  obtain ⟨hx, hb, hml, hown, hts⟩ := id S
  have hts0 := hinX1_isGraded
  have hl : lv_has ls 2 [(0, .ref (a 0)), (1, .int (nI k))] := hl
  refine lv_aload_n hx hb dX1_isGraded_0 rfl (lv_at hl 0 rfl) ?_
  refine lv_iconst (v := 0) hx hb dX1_isGraded_1 (by decide) ?_
  refine va_put (D := E.1) (ci := 1) (v := .int 0) (ty := .int) (C := RX1) (T := TX1) (N := 13) hx hb hts hts0 tyX1 tyX1_ok nmX1 hown hK hP hD hS 0 rfl rfl 0 (by decide) (hts (.fieldLink RX1 42 "ExamGardenModel" "thrown" "I") (by decide +kernel)) (fun _ h9 => h9) rfl (by decide +kernel) rfl rfl (Nat.le_of_ble_eq_true rfl) dX1_isGraded_2 (fun H locs hP hD hS => ?_)
  have hP : gP E (mW E a (0, mn τ, mk τ, mf τ, mo τ, mh τ, md τ, mr τ, mu τ, mv τ, ms τ, mp τ, mw τ)) H := hP
  have hD : va_D (va_A (mW E a τ) s.heap.size) (mW E a (0, mn τ, mk τ, mf τ, mo τ, mh τ, md τ, mr τ, mu τ, mv τ, ms τ, mp τ, mw τ)) := hD
  refine lv_aload_n hx hb dX1_isGraded_5 rfl (lv_at hl 0 rfl) ?_
  refine lv_iload_n hx hb dX1_isGraded_6 rfl (lv_at hl 1 rfl) ?_
  refine m0i (As := [.int (nI k)]) (rest := []) S (m_isExamAt l E a (0, mn τ, mk τ, mf τ, mo τ, mh τ, md τ, mr τ, mu τ, mv τ, ms τ, mp τ, mw τ) k (by omega) hp) (cwV 1 hts gX1_isGraded_X1_isExamAt rfl rfl rfl hdX1_isExamAt ⟨Nat.le_of_ble_eq_true rfl, Nat.le_of_ble_eq_true rfl⟩) hK hP rfl hl.1 rfl (Nat.le_of_ble_eq_true rfl) ⟨Nat.zero_le _, Nat.zero_le _⟩ dX1_isGraded_7 ?_
  refine lv_if_eq (tgt := 31) hx hb dX1_isGraded_10 (by decide) (fun _ => ?_) (fun q => absurd ((b2i_eq0.mpr (by rw [hE]; rfl))) q)
  refine lv_aload_n hx hb dX1_isGraded_31 rfl (lv_at hl 0 rfl) ?_
  refine lv_iconst (v := 1) hx hb dX1_isGraded_32 (by decide) ?_
  refine m0wi (As := [.int 1]) (rest := []) (τ' := mThr (0, mn τ, mk τ, mf τ, mo τ, mh τ, md τ, mr τ, mu τ, mv τ, ms τ, mp τ, mw τ) 1) S (m_isNot l E a (0, mn τ, mk τ, mf τ, mo τ, mh τ, md τ, mr τ, mu τ, mv τ, ms τ, mp τ, mw τ) _ 1) (cwV 1 hts gX1_isGraded_X1_isNot rfl rfl rfl hdX1_isNot ⟨Nat.le_of_ble_eq_true rfl, Nat.le_of_ble_eq_true rfl⟩) hK hP hD hS hA rfl hl.1 rfl (Nat.le_of_ble_eq_true rfl) ⟨Nat.zero_le _, Nat.zero_le _⟩ dX1_isGraded_33 (fun H locs hP hD hS => ?_)
  exact W.zret hx hb hr rfl (fun t ht hW => ⟨⟨_, (), rfl, rfl, by show gP E _ t.heap; rw [ht]; exact hP⟩, hS.F ht⟩) hS.2.2 dX1_isGraded_36
theorem hinX1_gradeOf : ∀ w ∈ wsX10, w ∈ wsX1_gradeOf := fun w h => List.mem_cons_of_mem _ (List.mem_append_right _ h)
theorem hdX1_gradeOf : yX1_gradeOf.cls = RX1 ∧ yX1_gradeOf.cls ≠ "java/lang/invoke/MethodHandle" ∧ yX1_gradeOf.cls ≠ "java/lang/invoke/VarHandle" ∧ (parseMethodDescriptor yX1_gradeOf.desc).map (fun d => d.parameters.length) = some 1 := by decide +kernel
set_option maxHeartbeats 4000000 in
set_option maxRecDepth 100000 in
theorem m_gradeOf (l : Launch) (E : GE) (a : Nat → Nat) (τ : MS) (sz : Nat) (hn : mn τ ≤ 40) (k : Nat) (hk : k < mn τ) (hp : mIsP τ (nI k) = true) (hE : mf τ k = false) : Met l yX1_gradeOf wsX1_gradeOf { frames := 3, cells := 0, slots := 0, locals := 64 } (va_Pc [.ref (a 0), .int (nI k)] (gBw E sz (mW E a τ))) (gQi E (md τ k) (mW E a τ) (mW E a (mThr τ 0)) sz) 0 0 (va_A (mW E a τ) sz) := by
  refine w_met (cc := cX1_gradeOf) (maxL := 2) (ret := (some .int)) (by decide) rfl (Nat.le_of_ble_eq_true rfl) ?_
  intro p e s m below meth c ls S hr hlocks hname hB hl
  obtain ⟨hsz, hP, hK, hD0⟩ := hB
  subst hsz
  have hD := hD0.self (sz := s.heap.size)
  have hA : ∀ q : Nat, s.heap.size ≤ q → va_A (mW E a τ) s.heap.size q := fun q h => Or.inr h
  have hS : va_S (va_A (mW E a τ) s.heap.size) s.heap s.heap [] := va_S.rf
  obtain ⟨hx, hb, hml, hown, hts⟩ := id S
  have hts0 := hinX1_gradeOf
  have hl : lv_has ls 2 [(0, .ref (a 0)), (1, .int (nI k))] := hl
  refine lv_aload_n hx hb dX1_gradeOf_0 rfl (lv_at hl 0 rfl) ?_
  refine lv_iconst (v := 0) hx hb dX1_gradeOf_1 (by decide) ?_
  refine va_put (D := E.1) (ci := 1) (v := .int 0) (ty := .int) (C := RX1) (T := TX1) (N := 13) hx hb hts hts0 tyX1 tyX1_ok nmX1 hown hK hP hD hS 0 rfl rfl 0 (by decide) (hts (.fieldLink RX1 42 "ExamGardenModel" "thrown" "I") (by decide +kernel)) (fun _ h9 => h9) rfl (by decide +kernel) rfl rfl (Nat.le_of_ble_eq_true rfl) dX1_gradeOf_2 (fun H locs hP hD hS => ?_)
  have hP : gP E (mW E a (0, mn τ, mk τ, mf τ, mo τ, mh τ, md τ, mr τ, mu τ, mv τ, ms τ, mp τ, mw τ)) H := hP
  have hD : va_D (va_A (mW E a τ) s.heap.size) (mW E a (0, mn τ, mk τ, mf τ, mo τ, mh τ, md τ, mr τ, mu τ, mv τ, ms τ, mp τ, mw τ)) := hD
  refine lv_aload_n hx hb dX1_gradeOf_5 rfl (lv_at hl 0 rfl) ?_
  refine lv_iload_n hx hb dX1_gradeOf_6 rfl (lv_at hl 1 rfl) ?_
  refine m0i (As := [.int (nI k)]) (rest := []) S (m_isExamAt l E a (0, mn τ, mk τ, mf τ, mo τ, mh τ, md τ, mr τ, mu τ, mv τ, ms τ, mp τ, mw τ) k (by omega) hp) (cwV 1 hts gX1_gradeOf_X1_isExamAt rfl rfl rfl hdX1_isExamAt ⟨Nat.le_of_ble_eq_true rfl, Nat.le_of_ble_eq_true rfl⟩) hK hP rfl hl.1 rfl (Nat.le_of_ble_eq_true rfl) ⟨Nat.zero_le _, Nat.zero_le _⟩ dX1_gradeOf_7 ?_
  refine lv_if_eq (tgt := 22) hx hb dX1_gradeOf_10 (by decide) (fun q => absurd q ((b2i_ne0.mpr (by rw [hE]; rfl)))) (fun _ => ?_)
  refine lv_aload_n hx hb dX1_gradeOf_13 rfl (lv_at hl 0 rfl) ?_
  refine m_get (τ := (0, mn τ, mk τ, mf τ, mo τ, mh τ, md τ, mr τ, mu τ, mv τ, ms τ, mp τ, mw τ)) hx hb hts hts0 hown hK hP 6 (by decide) (by decide +kernel) rfl rfl dX1_gradeOf_14 ?_
  refine lv_iload_n hx hb dX1_gradeOf_17 rfl (lv_at hl 1 rfl) ?_
  refine g_ild hx hb hK hP 4 rfl (v := (md τ) k) (vp_in_nI (by omega) (by decide)) (by rw [nI_clamp (by omega)] <;> rfl) dX1_gradeOf_18 ?_
  refine lv_goto (tgt := 27) hx hb dX1_gradeOf_19 (by decide) ?_
  exact W.iret hx hb hr (fun t ht hW => ⟨⟨_, (), rfl, rfl, by show gP E _ t.heap; rw [ht]; exact hP⟩, hS.F ht⟩) hS.2.2 dX1_gradeOf_27
set_option maxHeartbeats 4000000 in
set_option maxRecDepth 100000 in
theorem m_gradeOf_b (l : Launch) (E : GE) (a : Nat → Nat) (τ : MS) (sz : Nat) (pp : Int32) (hp : mIsP τ pp = false) : Met l yX1_gradeOf wsX1_gradeOf { frames := 3, cells := 0, slots := 0, locals := 64 } (va_Pc [.ref (a 0), .int pp] (gBw E sz (mW E a τ))) (gQi E (0) (mW E a τ) (mW E a (mThr τ 1)) sz) 0 0 (va_A (mW E a τ) sz) := by
  refine w_met (cc := cX1_gradeOf) (maxL := 2) (ret := (some .int)) (by decide) rfl (Nat.le_of_ble_eq_true rfl) ?_
  intro p e s m below meth c ls S hr hlocks hname hB hl
  obtain ⟨hsz, hP, hK, hD0⟩ := hB
  subst hsz
  have hD := hD0.self (sz := s.heap.size)
  have hA : ∀ q : Nat, s.heap.size ≤ q → va_A (mW E a τ) s.heap.size q := fun q h => Or.inr h
  have hS : va_S (va_A (mW E a τ) s.heap.size) s.heap s.heap [] := va_S.rf
  obtain ⟨hx, hb, hml, hown, hts⟩ := id S
  have hts0 := hinX1_gradeOf
  have hl : lv_has ls 2 [(0, .ref (a 0)), (1, .int pp)] := hl
  refine lv_aload_n hx hb dX1_gradeOf_0 rfl (lv_at hl 0 rfl) ?_
  refine lv_iconst (v := 0) hx hb dX1_gradeOf_1 (by decide) ?_
  refine va_put (D := E.1) (ci := 1) (v := .int 0) (ty := .int) (C := RX1) (T := TX1) (N := 13) hx hb hts hts0 tyX1 tyX1_ok nmX1 hown hK hP hD hS 0 rfl rfl 0 (by decide) (hts (.fieldLink RX1 42 "ExamGardenModel" "thrown" "I") (by decide +kernel)) (fun _ h9 => h9) rfl (by decide +kernel) rfl rfl (Nat.le_of_ble_eq_true rfl) dX1_gradeOf_2 (fun H locs hP hD hS => ?_)
  have hP : gP E (mW E a (0, mn τ, mk τ, mf τ, mo τ, mh τ, md τ, mr τ, mu τ, mv τ, ms τ, mp τ, mw τ)) H := hP
  have hD : va_D (va_A (mW E a τ) s.heap.size) (mW E a (0, mn τ, mk τ, mf τ, mo τ, mh τ, md τ, mr τ, mu τ, mv τ, ms τ, mp τ, mw τ)) := hD
  refine lv_aload_n hx hb dX1_gradeOf_5 rfl (lv_at hl 0 rfl) ?_
  refine lv_iload_n hx hb dX1_gradeOf_6 rfl (lv_at hl 1 rfl) ?_
  refine m0i (As := [.int pp]) (rest := []) S (m_isExamAt_b l E a (0, mn τ, mk τ, mf τ, mo τ, mh τ, md τ, mr τ, mu τ, mv τ, ms τ, mp τ, mw τ) pp hp) (cwV 1 hts gX1_gradeOf_X1_isExamAt rfl rfl rfl hdX1_isExamAt ⟨Nat.le_of_ble_eq_true rfl, Nat.le_of_ble_eq_true rfl⟩) hK hP rfl hl.1 rfl (Nat.le_of_ble_eq_true rfl) ⟨Nat.zero_le _, Nat.zero_le _⟩ dX1_gradeOf_7 ?_
  refine lv_if_eq (tgt := 22) hx hb dX1_gradeOf_10 (by decide) (fun _ => ?_) (fun q => absurd rfl q)
  refine lv_aload_n hx hb dX1_gradeOf_22 rfl (lv_at hl 0 rfl) ?_
  refine lv_iconst (v := 1) hx hb dX1_gradeOf_23 (by decide) ?_
  refine m0wi (As := [.int 1]) (rest := []) (τ' := mThr (0, mn τ, mk τ, mf τ, mo τ, mh τ, md τ, mr τ, mu τ, mv τ, ms τ, mp τ, mw τ) 1) S (m_no l E a (0, mn τ, mk τ, mf τ, mo τ, mh τ, md τ, mr τ, mu τ, mv τ, ms τ, mp τ, mw τ) _ 1) (cwV 1 hts gX1_gradeOf_X1_no rfl rfl rfl hdX1_no ⟨Nat.le_of_ble_eq_true rfl, Nat.le_of_ble_eq_true rfl⟩) hK hP hD hS hA rfl hl.1 rfl (Nat.le_of_ble_eq_true rfl) ⟨Nat.zero_le _, Nat.zero_le _⟩ dX1_gradeOf_24 (fun H locs hP hD hS => ?_)
  exact W.iret hx hb hr (fun t ht hW => ⟨⟨_, (), rfl, rfl, by show gP E _ t.heap; rw [ht]; exact hP⟩, hS.F ht⟩) hS.2.2 dX1_gradeOf_27
set_option maxHeartbeats 4000000 in
set_option maxRecDepth 100000 in
theorem m_gradeOf_f (l : Launch) (E : GE) (a : Nat → Nat) (τ : MS) (sz : Nat) (hn : mn τ ≤ 40) (k : Nat) (hk : k < mn τ) (hp : mIsP τ (nI k) = true) (hE : mf τ k = true) : Met l yX1_gradeOf wsX1_gradeOf { frames := 3, cells := 0, slots := 0, locals := 64 } (va_Pc [.ref (a 0), .int (nI k)] (gBw E sz (mW E a τ))) (gQi E (0) (mW E a τ) (mW E a (mThr τ 1)) sz) 0 0 (va_A (mW E a τ) sz) := by
  refine w_met (cc := cX1_gradeOf) (maxL := 2) (ret := (some .int)) (by decide) rfl (Nat.le_of_ble_eq_true rfl) ?_
  intro p e s m below meth c ls S hr hlocks hname hB hl
  obtain ⟨hsz, hP, hK, hD0⟩ := hB
  subst hsz
  have hD := hD0.self (sz := s.heap.size)
  have hA : ∀ q : Nat, s.heap.size ≤ q → va_A (mW E a τ) s.heap.size q := fun q h => Or.inr h
  have hS : va_S (va_A (mW E a τ) s.heap.size) s.heap s.heap [] := va_S.rf
  obtain ⟨hx, hb, hml, hown, hts⟩ := id S
  have hts0 := hinX1_gradeOf
  have hl : lv_has ls 2 [(0, .ref (a 0)), (1, .int (nI k))] := hl
  refine lv_aload_n hx hb dX1_gradeOf_0 rfl (lv_at hl 0 rfl) ?_
  refine lv_iconst (v := 0) hx hb dX1_gradeOf_1 (by decide) ?_
  refine va_put (D := E.1) (ci := 1) (v := .int 0) (ty := .int) (C := RX1) (T := TX1) (N := 13) hx hb hts hts0 tyX1 tyX1_ok nmX1 hown hK hP hD hS 0 rfl rfl 0 (by decide) (hts (.fieldLink RX1 42 "ExamGardenModel" "thrown" "I") (by decide +kernel)) (fun _ h9 => h9) rfl (by decide +kernel) rfl rfl (Nat.le_of_ble_eq_true rfl) dX1_gradeOf_2 (fun H locs hP hD hS => ?_)
  have hP : gP E (mW E a (0, mn τ, mk τ, mf τ, mo τ, mh τ, md τ, mr τ, mu τ, mv τ, ms τ, mp τ, mw τ)) H := hP
  have hD : va_D (va_A (mW E a τ) s.heap.size) (mW E a (0, mn τ, mk τ, mf τ, mo τ, mh τ, md τ, mr τ, mu τ, mv τ, ms τ, mp τ, mw τ)) := hD
  refine lv_aload_n hx hb dX1_gradeOf_5 rfl (lv_at hl 0 rfl) ?_
  refine lv_iload_n hx hb dX1_gradeOf_6 rfl (lv_at hl 1 rfl) ?_
  refine m0i (As := [.int (nI k)]) (rest := []) S (m_isExamAt l E a (0, mn τ, mk τ, mf τ, mo τ, mh τ, md τ, mr τ, mu τ, mv τ, ms τ, mp τ, mw τ) k (by omega) hp) (cwV 1 hts gX1_gradeOf_X1_isExamAt rfl rfl rfl hdX1_isExamAt ⟨Nat.le_of_ble_eq_true rfl, Nat.le_of_ble_eq_true rfl⟩) hK hP rfl hl.1 rfl (Nat.le_of_ble_eq_true rfl) ⟨Nat.zero_le _, Nat.zero_le _⟩ dX1_gradeOf_7 ?_
  refine lv_if_eq (tgt := 22) hx hb dX1_gradeOf_10 (by decide) (fun _ => ?_) (fun q => absurd ((b2i_eq0.mpr (by rw [hE]; rfl))) q)
  refine lv_aload_n hx hb dX1_gradeOf_22 rfl (lv_at hl 0 rfl) ?_
  refine lv_iconst (v := 1) hx hb dX1_gradeOf_23 (by decide) ?_
  refine m0wi (As := [.int 1]) (rest := []) (τ' := mThr (0, mn τ, mk τ, mf τ, mo τ, mh τ, md τ, mr τ, mu τ, mv τ, ms τ, mp τ, mw τ) 1) S (m_no l E a (0, mn τ, mk τ, mf τ, mo τ, mh τ, md τ, mr τ, mu τ, mv τ, ms τ, mp τ, mw τ) _ 1) (cwV 1 hts gX1_gradeOf_X1_no rfl rfl rfl hdX1_no ⟨Nat.le_of_ble_eq_true rfl, Nat.le_of_ble_eq_true rfl⟩) hK hP hD hS hA rfl hl.1 rfl (Nat.le_of_ble_eq_true rfl) ⟨Nat.zero_le _, Nat.zero_le _⟩ dX1_gradeOf_24 (fun H locs hP hD hS => ?_)
  exact W.iret hx hb hr (fun t ht hW => ⟨⟨_, (), rfl, rfl, by show gP E _ t.heap; rw [ht]; exact hP⟩, hS.F ht⟩) hS.2.2 dX1_gradeOf_27
theorem hinX1_ofFork : ∀ w ∈ wsX10, w ∈ wsX1_ofFork := fun w h => List.mem_cons_of_mem _ (List.mem_append_right _ h)
theorem hdX1_ofFork : yX1_ofFork.cls = RX1 ∧ yX1_ofFork.cls ≠ "java/lang/invoke/MethodHandle" ∧ yX1_ofFork.cls ≠ "java/lang/invoke/VarHandle" ∧ (parseMethodDescriptor yX1_ofFork.desc).map (fun d => d.parameters.length) = some 2 := by decide +kernel
set_option maxHeartbeats 4000000 in
set_option maxRecDepth 100000 in
theorem m_ofFork_a2 (l : Launch) (E : GE) (a : Nat → Nat) (τ : MS) (sz : Nat) (hn : mn τ ≤ 40) (k : Nat) (hk : k < mn τ) (hp : mIsP τ (nI k) = true) (hE : mf τ k = true) : Met l yX1_ofFork wsX1_ofFork { frames := 3, cells := 0, slots := 0, locals := 64 } (va_Pc [.ref (a 0), .int (nI k), .ref (a 2)] (gBw E sz (mW E a τ))) (gQi E (nI (mo τ k)) (mW E a τ) (mW E a (mThr τ 0)) sz) 0 0 (va_A (mW E a τ) sz) := by
  refine w_met (cc := cX1_ofFork) (maxL := 3) (ret := (some .int)) (by decide) rfl (Nat.le_of_ble_eq_true rfl) ?_
  intro p e s m below meth c ls S hr hlocks hname hB hl
  obtain ⟨hsz, hP, hK, hD0⟩ := hB
  subst hsz
  have hD := hD0.self (sz := s.heap.size)
  have hA : ∀ q : Nat, s.heap.size ≤ q → va_A (mW E a τ) s.heap.size q := fun q h => Or.inr h
  have hS : va_S (va_A (mW E a τ) s.heap.size) s.heap s.heap [] := va_S.rf
  obtain ⟨hx, hb, hml, hown, hts⟩ := id S
  have hts0 := hinX1_ofFork
  have hl : lv_has ls 3 [(0, .ref (a 0)), (1, .int (nI k)), (2, .ref (a 2))] := hl
  refine lv_aload_n hx hb dX1_ofFork_0 rfl (lv_at hl 0 rfl) ?_
  refine lv_iconst (v := 0) hx hb dX1_ofFork_1 (by decide) ?_
  refine va_put (D := E.1) (ci := 1) (v := .int 0) (ty := .int) (C := RX1) (T := TX1) (N := 13) hx hb hts hts0 tyX1 tyX1_ok nmX1 hown hK hP hD hS 0 rfl rfl 0 (by decide) (hts (.fieldLink RX1 42 "ExamGardenModel" "thrown" "I") (by decide +kernel)) (fun _ h9 => h9) rfl (by decide +kernel) rfl rfl (Nat.le_of_ble_eq_true rfl) dX1_ofFork_2 (fun H locs hP hD hS => ?_)
  have hP : gP E (mW E a (0, mn τ, mk τ, mf τ, mo τ, mh τ, md τ, mr τ, mu τ, mv τ, ms τ, mp τ, mw τ)) H := hP
  have hD : va_D (va_A (mW E a τ) s.heap.size) (mW E a (0, mn τ, mk τ, mf τ, mo τ, mh τ, md τ, mr τ, mu τ, mv τ, ms τ, mp τ, mw τ)) := hD
  refine lv_aload_n hx hb dX1_ofFork_5 rfl (lv_at hl 0 rfl) ?_
  refine lv_iload_n hx hb dX1_ofFork_6 rfl (lv_at hl 1 rfl) ?_
  refine m0i (As := [.int (nI k)]) (rest := []) S (m_isForkAt l E a (0, mn τ, mk τ, mf τ, mo τ, mh τ, md τ, mr τ, mu τ, mv τ, ms τ, mp τ, mw τ) k (by omega) hp) (cwV 1 hts gX1_ofFork_X1_isForkAt rfl rfl rfl hdX1_isForkAt ⟨Nat.le_of_ble_eq_true rfl, Nat.le_of_ble_eq_true rfl⟩) hK hP rfl hl.1 rfl (Nat.le_of_ble_eq_true rfl) ⟨Nat.zero_le _, Nat.zero_le _⟩ dX1_ofFork_7 ?_
  refine lv_if_eq (tgt := 19) hx hb dX1_ofFork_10 (by decide) (fun q => absurd q ((b2i_ne0.mpr hE))) (fun _ => ?_)
  refine lv_aload_n hx hb dX1_ofFork_13 rfl (lv_at hl 2 rfl) ?_
  refine lv_iload_n hx hb dX1_ofFork_14 rfl (lv_at hl 1 rfl) ?_
  refine g_ild hx hb hK hP 2 rfl (v := nI ((mo τ) k)) (vp_in_nI (by omega) (by decide)) (by rw [nI_clamp (by omega)] <;> rfl) dX1_ofFork_15 ?_
  refine lv_goto (tgt := 24) hx hb dX1_ofFork_16 (by decide) ?_
  exact W.iret hx hb hr (fun t ht hW => ⟨⟨_, (), rfl, rfl, by show gP E _ t.heap; rw [ht]; exact hP⟩, hS.F ht⟩) hS.2.2 dX1_ofFork_24
set_option maxHeartbeats 4000000 in
set_option maxRecDepth 100000 in
theorem m_ofFork_a2_b (l : Launch) (E : GE) (a : Nat → Nat) (τ : MS) (sz : Nat) (pp : Int32) (hp : mIsP τ pp = false) : Met l yX1_ofFork wsX1_ofFork { frames := 3, cells := 0, slots := 0, locals := 64 } (va_Pc [.ref (a 0), .int pp, .ref (a 2)] (gBw E sz (mW E a τ))) (gQi E (0) (mW E a τ) (mW E a (mThr τ 1)) sz) 0 0 (va_A (mW E a τ) sz) := by
  refine w_met (cc := cX1_ofFork) (maxL := 3) (ret := (some .int)) (by decide) rfl (Nat.le_of_ble_eq_true rfl) ?_
  intro p e s m below meth c ls S hr hlocks hname hB hl
  obtain ⟨hsz, hP, hK, hD0⟩ := hB
  subst hsz
  have hD := hD0.self (sz := s.heap.size)
  have hA : ∀ q : Nat, s.heap.size ≤ q → va_A (mW E a τ) s.heap.size q := fun q h => Or.inr h
  have hS : va_S (va_A (mW E a τ) s.heap.size) s.heap s.heap [] := va_S.rf
  obtain ⟨hx, hb, hml, hown, hts⟩ := id S
  have hts0 := hinX1_ofFork
  have hl : lv_has ls 3 [(0, .ref (a 0)), (1, .int pp), (2, .ref (a 2))] := hl
  refine lv_aload_n hx hb dX1_ofFork_0 rfl (lv_at hl 0 rfl) ?_
  refine lv_iconst (v := 0) hx hb dX1_ofFork_1 (by decide) ?_
  refine va_put (D := E.1) (ci := 1) (v := .int 0) (ty := .int) (C := RX1) (T := TX1) (N := 13) hx hb hts hts0 tyX1 tyX1_ok nmX1 hown hK hP hD hS 0 rfl rfl 0 (by decide) (hts (.fieldLink RX1 42 "ExamGardenModel" "thrown" "I") (by decide +kernel)) (fun _ h9 => h9) rfl (by decide +kernel) rfl rfl (Nat.le_of_ble_eq_true rfl) dX1_ofFork_2 (fun H locs hP hD hS => ?_)
  have hP : gP E (mW E a (0, mn τ, mk τ, mf τ, mo τ, mh τ, md τ, mr τ, mu τ, mv τ, ms τ, mp τ, mw τ)) H := hP
  have hD : va_D (va_A (mW E a τ) s.heap.size) (mW E a (0, mn τ, mk τ, mf τ, mo τ, mh τ, md τ, mr τ, mu τ, mv τ, ms τ, mp τ, mw τ)) := hD
  refine lv_aload_n hx hb dX1_ofFork_5 rfl (lv_at hl 0 rfl) ?_
  refine lv_iload_n hx hb dX1_ofFork_6 rfl (lv_at hl 1 rfl) ?_
  refine m0i (As := [.int pp]) (rest := []) S (m_isForkAt_b l E a (0, mn τ, mk τ, mf τ, mo τ, mh τ, md τ, mr τ, mu τ, mv τ, ms τ, mp τ, mw τ) pp hp) (cwV 1 hts gX1_ofFork_X1_isForkAt rfl rfl rfl hdX1_isForkAt ⟨Nat.le_of_ble_eq_true rfl, Nat.le_of_ble_eq_true rfl⟩) hK hP rfl hl.1 rfl (Nat.le_of_ble_eq_true rfl) ⟨Nat.zero_le _, Nat.zero_le _⟩ dX1_ofFork_7 ?_
  refine lv_if_eq (tgt := 19) hx hb dX1_ofFork_10 (by decide) (fun _ => ?_) (fun q => absurd rfl q)
  refine lv_aload_n hx hb dX1_ofFork_19 rfl (lv_at hl 0 rfl) ?_
  refine lv_iconst (v := 1) hx hb dX1_ofFork_20 (by decide) ?_
  refine m0wi (As := [.int 1]) (rest := []) (τ' := mThr (0, mn τ, mk τ, mf τ, mo τ, mh τ, md τ, mr τ, mu τ, mv τ, ms τ, mp τ, mw τ) 1) S (m_no l E a (0, mn τ, mk τ, mf τ, mo τ, mh τ, md τ, mr τ, mu τ, mv τ, ms τ, mp τ, mw τ) _ 1) (cwV 1 hts gX1_ofFork_X1_no rfl rfl rfl hdX1_no ⟨Nat.le_of_ble_eq_true rfl, Nat.le_of_ble_eq_true rfl⟩) hK hP hD hS hA rfl hl.1 rfl (Nat.le_of_ble_eq_true rfl) ⟨Nat.zero_le _, Nat.zero_le _⟩ dX1_ofFork_21 (fun H locs hP hD hS => ?_)
  exact W.iret hx hb hr (fun t ht hW => ⟨⟨_, (), rfl, rfl, by show gP E _ t.heap; rw [ht]; exact hP⟩, hS.F ht⟩) hS.2.2 dX1_ofFork_24
set_option maxHeartbeats 4000000 in
set_option maxRecDepth 100000 in
theorem m_ofFork_a2_f (l : Launch) (E : GE) (a : Nat → Nat) (τ : MS) (sz : Nat) (hn : mn τ ≤ 40) (k : Nat) (hk : k < mn τ) (hp : mIsP τ (nI k) = true) (hE : mf τ k = false) : Met l yX1_ofFork wsX1_ofFork { frames := 3, cells := 0, slots := 0, locals := 64 } (va_Pc [.ref (a 0), .int (nI k), .ref (a 2)] (gBw E sz (mW E a τ))) (gQi E (0) (mW E a τ) (mW E a (mThr τ 1)) sz) 0 0 (va_A (mW E a τ) sz) := by
  refine w_met (cc := cX1_ofFork) (maxL := 3) (ret := (some .int)) (by decide) rfl (Nat.le_of_ble_eq_true rfl) ?_
  intro p e s m below meth c ls S hr hlocks hname hB hl
  obtain ⟨hsz, hP, hK, hD0⟩ := hB
  subst hsz
  have hD := hD0.self (sz := s.heap.size)
  have hA : ∀ q : Nat, s.heap.size ≤ q → va_A (mW E a τ) s.heap.size q := fun q h => Or.inr h
  have hS : va_S (va_A (mW E a τ) s.heap.size) s.heap s.heap [] := va_S.rf
  obtain ⟨hx, hb, hml, hown, hts⟩ := id S
  have hts0 := hinX1_ofFork
  have hl : lv_has ls 3 [(0, .ref (a 0)), (1, .int (nI k)), (2, .ref (a 2))] := hl
  refine lv_aload_n hx hb dX1_ofFork_0 rfl (lv_at hl 0 rfl) ?_
  refine lv_iconst (v := 0) hx hb dX1_ofFork_1 (by decide) ?_
  refine va_put (D := E.1) (ci := 1) (v := .int 0) (ty := .int) (C := RX1) (T := TX1) (N := 13) hx hb hts hts0 tyX1 tyX1_ok nmX1 hown hK hP hD hS 0 rfl rfl 0 (by decide) (hts (.fieldLink RX1 42 "ExamGardenModel" "thrown" "I") (by decide +kernel)) (fun _ h9 => h9) rfl (by decide +kernel) rfl rfl (Nat.le_of_ble_eq_true rfl) dX1_ofFork_2 (fun H locs hP hD hS => ?_)
  have hP : gP E (mW E a (0, mn τ, mk τ, mf τ, mo τ, mh τ, md τ, mr τ, mu τ, mv τ, ms τ, mp τ, mw τ)) H := hP
  have hD : va_D (va_A (mW E a τ) s.heap.size) (mW E a (0, mn τ, mk τ, mf τ, mo τ, mh τ, md τ, mr τ, mu τ, mv τ, ms τ, mp τ, mw τ)) := hD
  refine lv_aload_n hx hb dX1_ofFork_5 rfl (lv_at hl 0 rfl) ?_
  refine lv_iload_n hx hb dX1_ofFork_6 rfl (lv_at hl 1 rfl) ?_
  refine m0i (As := [.int (nI k)]) (rest := []) S (m_isForkAt l E a (0, mn τ, mk τ, mf τ, mo τ, mh τ, md τ, mr τ, mu τ, mv τ, ms τ, mp τ, mw τ) k (by omega) hp) (cwV 1 hts gX1_ofFork_X1_isForkAt rfl rfl rfl hdX1_isForkAt ⟨Nat.le_of_ble_eq_true rfl, Nat.le_of_ble_eq_true rfl⟩) hK hP rfl hl.1 rfl (Nat.le_of_ble_eq_true rfl) ⟨Nat.zero_le _, Nat.zero_le _⟩ dX1_ofFork_7 ?_
  refine lv_if_eq (tgt := 19) hx hb dX1_ofFork_10 (by decide) (fun _ => ?_) (fun q => absurd ((b2i_eq0.mpr hE)) q)
  refine lv_aload_n hx hb dX1_ofFork_19 rfl (lv_at hl 0 rfl) ?_
  refine lv_iconst (v := 1) hx hb dX1_ofFork_20 (by decide) ?_
  refine m0wi (As := [.int 1]) (rest := []) (τ' := mThr (0, mn τ, mk τ, mf τ, mo τ, mh τ, md τ, mr τ, mu τ, mv τ, ms τ, mp τ, mw τ) 1) S (m_no l E a (0, mn τ, mk τ, mf τ, mo τ, mh τ, md τ, mr τ, mu τ, mv τ, ms τ, mp τ, mw τ) _ 1) (cwV 1 hts gX1_ofFork_X1_no rfl rfl rfl hdX1_no ⟨Nat.le_of_ble_eq_true rfl, Nat.le_of_ble_eq_true rfl⟩) hK hP hD hS hA rfl hl.1 rfl (Nat.le_of_ble_eq_true rfl) ⟨Nat.zero_le _, Nat.zero_le _⟩ dX1_ofFork_21 (fun H locs hP hD hS => ?_)
  exact W.iret hx hb hr (fun t ht hW => ⟨⟨_, (), rfl, rfl, by show gP E _ t.heap; rw [ht]; exact hP⟩, hS.F ht⟩) hS.2.2 dX1_ofFork_24
theorem hinX1_leftOf : ∀ w ∈ wsX10, w ∈ wsX1_leftOf := fun w h => List.mem_cons_of_mem _ (List.mem_append_right _ h)
theorem hdX1_leftOf : yX1_leftOf.cls = RX1 ∧ yX1_leftOf.cls ≠ "java/lang/invoke/MethodHandle" ∧ yX1_leftOf.cls ≠ "java/lang/invoke/VarHandle" ∧ (parseMethodDescriptor yX1_leftOf.desc).map (fun d => d.parameters.length) = some 1 := by decide +kernel
set_option maxHeartbeats 4000000 in
set_option maxRecDepth 100000 in
theorem m_leftOf (l : Launch) (E : GE) (a : Nat → Nat) (τ : MS) (sz : Nat) (hn : mn τ ≤ 40) (k : Nat) (hk : k < mn τ) (hp : mIsP τ (nI k) = true) (hE : mf τ k = true) : Met l yX1_leftOf wsX1_leftOf { frames := 4, cells := 0, slots := 0, locals := 86 } (va_Pc [.ref (a 0), .int (nI k)] (gBw E sz (mW E a τ))) (gQi E (nI (mo τ k)) (mW E a τ) (mW E a (mThr τ 0)) sz) 0 0 (va_A (mW E a τ) sz) := by
  refine w_met (cc := cX1_leftOf) (maxL := 2) (ret := (some .int)) (by decide) rfl (Nat.le_of_ble_eq_true rfl) ?_
  intro p e s m below meth c ls S hr hlocks hname hB hl
  obtain ⟨hsz, hP, hK, hD0⟩ := hB
  subst hsz
  have hD := hD0.self (sz := s.heap.size)
  have hA : ∀ q : Nat, s.heap.size ≤ q → va_A (mW E a τ) s.heap.size q := fun q h => Or.inr h
  have hS : va_S (va_A (mW E a τ) s.heap.size) s.heap s.heap [] := va_S.rf
  obtain ⟨hx, hb, hml, hown, hts⟩ := id S
  have hts0 := hinX1_leftOf
  have hl : lv_has ls 2 [(0, .ref (a 0)), (1, .int (nI k))] := hl
  refine lv_aload_n hx hb dX1_leftOf_0 rfl (lv_at hl 0 rfl) ?_
  refine lv_iload_n hx hb dX1_leftOf_1 rfl (lv_at hl 1 rfl) ?_
  refine lv_aload_n hx hb dX1_leftOf_2 rfl (lv_at hl 0 rfl) ?_
  refine m_get (τ := τ) hx hb hts hts0 hown hK hP 4 (by decide) (by decide +kernel) rfl rfl dX1_leftOf_3 ?_
  refine m0wi (As := [.int (nI k), .ref (a 2)]) (rest := []) (τ' := mThr τ 0) S (m_ofFork_a2 l E a τ _ hn k hk hp hE) (cwV 2 hts gX1_leftOf_X1_ofFork rfl rfl rfl hdX1_ofFork ⟨Nat.le_of_ble_eq_true rfl, Nat.le_of_ble_eq_true rfl⟩) hK hP hD hS hA rfl hl.1 rfl (Nat.le_of_ble_eq_true rfl) ⟨Nat.zero_le _, Nat.zero_le _⟩ dX1_leftOf_6 (fun H locs hP hD hS => ?_)
  exact W.iret hx hb hr (fun t ht hW => ⟨⟨_, (), rfl, rfl, by show gP E _ t.heap; rw [ht]; exact hP⟩, hS.F ht⟩) hS.2.2 dX1_leftOf_9
set_option maxHeartbeats 4000000 in
set_option maxRecDepth 100000 in
theorem m_leftOf_b (l : Launch) (E : GE) (a : Nat → Nat) (τ : MS) (sz : Nat) (pp : Int32) (hp : mIsP τ pp = false) : Met l yX1_leftOf wsX1_leftOf { frames := 4, cells := 0, slots := 0, locals := 86 } (va_Pc [.ref (a 0), .int pp] (gBw E sz (mW E a τ))) (gQi E (0) (mW E a τ) (mW E a (mThr τ 1)) sz) 0 0 (va_A (mW E a τ) sz) := by
  refine w_met (cc := cX1_leftOf) (maxL := 2) (ret := (some .int)) (by decide) rfl (Nat.le_of_ble_eq_true rfl) ?_
  intro p e s m below meth c ls S hr hlocks hname hB hl
  obtain ⟨hsz, hP, hK, hD0⟩ := hB
  subst hsz
  have hD := hD0.self (sz := s.heap.size)
  have hA : ∀ q : Nat, s.heap.size ≤ q → va_A (mW E a τ) s.heap.size q := fun q h => Or.inr h
  have hS : va_S (va_A (mW E a τ) s.heap.size) s.heap s.heap [] := va_S.rf
  obtain ⟨hx, hb, hml, hown, hts⟩ := id S
  have hts0 := hinX1_leftOf
  have hl : lv_has ls 2 [(0, .ref (a 0)), (1, .int pp)] := hl
  refine lv_aload_n hx hb dX1_leftOf_0 rfl (lv_at hl 0 rfl) ?_
  refine lv_iload_n hx hb dX1_leftOf_1 rfl (lv_at hl 1 rfl) ?_
  refine lv_aload_n hx hb dX1_leftOf_2 rfl (lv_at hl 0 rfl) ?_
  refine m_get (τ := τ) hx hb hts hts0 hown hK hP 4 (by decide) (by decide +kernel) rfl rfl dX1_leftOf_3 ?_
  refine m0wi (As := [.int pp, .ref (a 2)]) (rest := []) (τ' := mThr τ 1) S (m_ofFork_a2_b l E a τ _ pp hp) (cwV 2 hts gX1_leftOf_X1_ofFork rfl rfl rfl hdX1_ofFork ⟨Nat.le_of_ble_eq_true rfl, Nat.le_of_ble_eq_true rfl⟩) hK hP hD hS hA rfl hl.1 rfl (Nat.le_of_ble_eq_true rfl) ⟨Nat.zero_le _, Nat.zero_le _⟩ dX1_leftOf_6 (fun H locs hP hD hS => ?_)
  exact W.iret hx hb hr (fun t ht hW => ⟨⟨_, (), rfl, rfl, by show gP E _ t.heap; rw [ht]; exact hP⟩, hS.F ht⟩) hS.2.2 dX1_leftOf_9
set_option maxHeartbeats 4000000 in
set_option maxRecDepth 100000 in
theorem m_leftOf_f (l : Launch) (E : GE) (a : Nat → Nat) (τ : MS) (sz : Nat) (hn : mn τ ≤ 40) (k : Nat) (hk : k < mn τ) (hp : mIsP τ (nI k) = true) (hE : mf τ k = false) : Met l yX1_leftOf wsX1_leftOf { frames := 4, cells := 0, slots := 0, locals := 86 } (va_Pc [.ref (a 0), .int (nI k)] (gBw E sz (mW E a τ))) (gQi E (0) (mW E a τ) (mW E a (mThr τ 1)) sz) 0 0 (va_A (mW E a τ) sz) := by
  refine w_met (cc := cX1_leftOf) (maxL := 2) (ret := (some .int)) (by decide) rfl (Nat.le_of_ble_eq_true rfl) ?_
  intro p e s m below meth c ls S hr hlocks hname hB hl
  obtain ⟨hsz, hP, hK, hD0⟩ := hB
  subst hsz
  have hD := hD0.self (sz := s.heap.size)
  have hA : ∀ q : Nat, s.heap.size ≤ q → va_A (mW E a τ) s.heap.size q := fun q h => Or.inr h
  have hS : va_S (va_A (mW E a τ) s.heap.size) s.heap s.heap [] := va_S.rf
  obtain ⟨hx, hb, hml, hown, hts⟩ := id S
  have hts0 := hinX1_leftOf
  have hl : lv_has ls 2 [(0, .ref (a 0)), (1, .int (nI k))] := hl
  refine lv_aload_n hx hb dX1_leftOf_0 rfl (lv_at hl 0 rfl) ?_
  refine lv_iload_n hx hb dX1_leftOf_1 rfl (lv_at hl 1 rfl) ?_
  refine lv_aload_n hx hb dX1_leftOf_2 rfl (lv_at hl 0 rfl) ?_
  refine m_get (τ := τ) hx hb hts hts0 hown hK hP 4 (by decide) (by decide +kernel) rfl rfl dX1_leftOf_3 ?_
  refine m0wi (As := [.int (nI k), .ref (a 2)]) (rest := []) (τ' := mThr τ 1) S (m_ofFork_a2_f l E a τ _ hn k hk hp hE) (cwV 2 hts gX1_leftOf_X1_ofFork rfl rfl rfl hdX1_ofFork ⟨Nat.le_of_ble_eq_true rfl, Nat.le_of_ble_eq_true rfl⟩) hK hP hD hS hA rfl hl.1 rfl (Nat.le_of_ble_eq_true rfl) ⟨Nat.zero_le _, Nat.zero_le _⟩ dX1_leftOf_6 (fun H locs hP hD hS => ?_)
  exact W.iret hx hb hr (fun t ht hW => ⟨⟨_, (), rfl, rfl, by show gP E _ t.heap; rw [ht]; exact hP⟩, hS.F ht⟩) hS.2.2 dX1_leftOf_9
set_option maxHeartbeats 4000000 in
set_option maxRecDepth 100000 in
theorem m_ofFork_a3 (l : Launch) (E : GE) (a : Nat → Nat) (τ : MS) (sz : Nat) (hn : mn τ ≤ 40) (k : Nat) (hk : k < mn τ) (hp : mIsP τ (nI k) = true) (hE : mf τ k = true) : Met l yX1_ofFork wsX1_ofFork { frames := 3, cells := 0, slots := 0, locals := 64 } (va_Pc [.ref (a 0), .int (nI k), .ref (a 3)] (gBw E sz (mW E a τ))) (gQi E (nI (mh τ k)) (mW E a τ) (mW E a (mThr τ 0)) sz) 0 0 (va_A (mW E a τ) sz) := by
  refine w_met (cc := cX1_ofFork) (maxL := 3) (ret := (some .int)) (by decide) rfl (Nat.le_of_ble_eq_true rfl) ?_
  intro p e s m below meth c ls S hr hlocks hname hB hl
  obtain ⟨hsz, hP, hK, hD0⟩ := hB
  subst hsz
  have hD := hD0.self (sz := s.heap.size)
  have hA : ∀ q : Nat, s.heap.size ≤ q → va_A (mW E a τ) s.heap.size q := fun q h => Or.inr h
  have hS : va_S (va_A (mW E a τ) s.heap.size) s.heap s.heap [] := va_S.rf
  obtain ⟨hx, hb, hml, hown, hts⟩ := id S
  have hts0 := hinX1_ofFork
  have hl : lv_has ls 3 [(0, .ref (a 0)), (1, .int (nI k)), (2, .ref (a 3))] := hl
  refine lv_aload_n hx hb dX1_ofFork_0 rfl (lv_at hl 0 rfl) ?_
  refine lv_iconst (v := 0) hx hb dX1_ofFork_1 (by decide) ?_
  refine va_put (D := E.1) (ci := 1) (v := .int 0) (ty := .int) (C := RX1) (T := TX1) (N := 13) hx hb hts hts0 tyX1 tyX1_ok nmX1 hown hK hP hD hS 0 rfl rfl 0 (by decide) (hts (.fieldLink RX1 42 "ExamGardenModel" "thrown" "I") (by decide +kernel)) (fun _ h9 => h9) rfl (by decide +kernel) rfl rfl (Nat.le_of_ble_eq_true rfl) dX1_ofFork_2 (fun H locs hP hD hS => ?_)
  have hP : gP E (mW E a (0, mn τ, mk τ, mf τ, mo τ, mh τ, md τ, mr τ, mu τ, mv τ, ms τ, mp τ, mw τ)) H := hP
  have hD : va_D (va_A (mW E a τ) s.heap.size) (mW E a (0, mn τ, mk τ, mf τ, mo τ, mh τ, md τ, mr τ, mu τ, mv τ, ms τ, mp τ, mw τ)) := hD
  refine lv_aload_n hx hb dX1_ofFork_5 rfl (lv_at hl 0 rfl) ?_
  refine lv_iload_n hx hb dX1_ofFork_6 rfl (lv_at hl 1 rfl) ?_
  refine m0i (As := [.int (nI k)]) (rest := []) S (m_isForkAt l E a (0, mn τ, mk τ, mf τ, mo τ, mh τ, md τ, mr τ, mu τ, mv τ, ms τ, mp τ, mw τ) k (by omega) hp) (cwV 1 hts gX1_ofFork_X1_isForkAt rfl rfl rfl hdX1_isForkAt ⟨Nat.le_of_ble_eq_true rfl, Nat.le_of_ble_eq_true rfl⟩) hK hP rfl hl.1 rfl (Nat.le_of_ble_eq_true rfl) ⟨Nat.zero_le _, Nat.zero_le _⟩ dX1_ofFork_7 ?_
  refine lv_if_eq (tgt := 19) hx hb dX1_ofFork_10 (by decide) (fun q => absurd q ((b2i_ne0.mpr hE))) (fun _ => ?_)
  refine lv_aload_n hx hb dX1_ofFork_13 rfl (lv_at hl 2 rfl) ?_
  refine lv_iload_n hx hb dX1_ofFork_14 rfl (lv_at hl 1 rfl) ?_
  refine g_ild hx hb hK hP 3 rfl (v := nI ((mh τ) k)) (vp_in_nI (by omega) (by decide)) (by rw [nI_clamp (by omega)] <;> rfl) dX1_ofFork_15 ?_
  refine lv_goto (tgt := 24) hx hb dX1_ofFork_16 (by decide) ?_
  exact W.iret hx hb hr (fun t ht hW => ⟨⟨_, (), rfl, rfl, by show gP E _ t.heap; rw [ht]; exact hP⟩, hS.F ht⟩) hS.2.2 dX1_ofFork_24
set_option maxHeartbeats 4000000 in
set_option maxRecDepth 100000 in
theorem m_ofFork_a3_b (l : Launch) (E : GE) (a : Nat → Nat) (τ : MS) (sz : Nat) (pp : Int32) (hp : mIsP τ pp = false) : Met l yX1_ofFork wsX1_ofFork { frames := 3, cells := 0, slots := 0, locals := 64 } (va_Pc [.ref (a 0), .int pp, .ref (a 3)] (gBw E sz (mW E a τ))) (gQi E (0) (mW E a τ) (mW E a (mThr τ 1)) sz) 0 0 (va_A (mW E a τ) sz) := by
  refine w_met (cc := cX1_ofFork) (maxL := 3) (ret := (some .int)) (by decide) rfl (Nat.le_of_ble_eq_true rfl) ?_
  intro p e s m below meth c ls S hr hlocks hname hB hl
  obtain ⟨hsz, hP, hK, hD0⟩ := hB
  subst hsz
  have hD := hD0.self (sz := s.heap.size)
  have hA : ∀ q : Nat, s.heap.size ≤ q → va_A (mW E a τ) s.heap.size q := fun q h => Or.inr h
  have hS : va_S (va_A (mW E a τ) s.heap.size) s.heap s.heap [] := va_S.rf
  obtain ⟨hx, hb, hml, hown, hts⟩ := id S
  have hts0 := hinX1_ofFork
  have hl : lv_has ls 3 [(0, .ref (a 0)), (1, .int pp), (2, .ref (a 3))] := hl
  refine lv_aload_n hx hb dX1_ofFork_0 rfl (lv_at hl 0 rfl) ?_
  refine lv_iconst (v := 0) hx hb dX1_ofFork_1 (by decide) ?_
  refine va_put (D := E.1) (ci := 1) (v := .int 0) (ty := .int) (C := RX1) (T := TX1) (N := 13) hx hb hts hts0 tyX1 tyX1_ok nmX1 hown hK hP hD hS 0 rfl rfl 0 (by decide) (hts (.fieldLink RX1 42 "ExamGardenModel" "thrown" "I") (by decide +kernel)) (fun _ h9 => h9) rfl (by decide +kernel) rfl rfl (Nat.le_of_ble_eq_true rfl) dX1_ofFork_2 (fun H locs hP hD hS => ?_)
  have hP : gP E (mW E a (0, mn τ, mk τ, mf τ, mo τ, mh τ, md τ, mr τ, mu τ, mv τ, ms τ, mp τ, mw τ)) H := hP
  have hD : va_D (va_A (mW E a τ) s.heap.size) (mW E a (0, mn τ, mk τ, mf τ, mo τ, mh τ, md τ, mr τ, mu τ, mv τ, ms τ, mp τ, mw τ)) := hD
  refine lv_aload_n hx hb dX1_ofFork_5 rfl (lv_at hl 0 rfl) ?_
  refine lv_iload_n hx hb dX1_ofFork_6 rfl (lv_at hl 1 rfl) ?_
  refine m0i (As := [.int pp]) (rest := []) S (m_isForkAt_b l E a (0, mn τ, mk τ, mf τ, mo τ, mh τ, md τ, mr τ, mu τ, mv τ, ms τ, mp τ, mw τ) pp hp) (cwV 1 hts gX1_ofFork_X1_isForkAt rfl rfl rfl hdX1_isForkAt ⟨Nat.le_of_ble_eq_true rfl, Nat.le_of_ble_eq_true rfl⟩) hK hP rfl hl.1 rfl (Nat.le_of_ble_eq_true rfl) ⟨Nat.zero_le _, Nat.zero_le _⟩ dX1_ofFork_7 ?_
  refine lv_if_eq (tgt := 19) hx hb dX1_ofFork_10 (by decide) (fun _ => ?_) (fun q => absurd rfl q)
  refine lv_aload_n hx hb dX1_ofFork_19 rfl (lv_at hl 0 rfl) ?_
  refine lv_iconst (v := 1) hx hb dX1_ofFork_20 (by decide) ?_
  refine m0wi (As := [.int 1]) (rest := []) (τ' := mThr (0, mn τ, mk τ, mf τ, mo τ, mh τ, md τ, mr τ, mu τ, mv τ, ms τ, mp τ, mw τ) 1) S (m_no l E a (0, mn τ, mk τ, mf τ, mo τ, mh τ, md τ, mr τ, mu τ, mv τ, ms τ, mp τ, mw τ) _ 1) (cwV 1 hts gX1_ofFork_X1_no rfl rfl rfl hdX1_no ⟨Nat.le_of_ble_eq_true rfl, Nat.le_of_ble_eq_true rfl⟩) hK hP hD hS hA rfl hl.1 rfl (Nat.le_of_ble_eq_true rfl) ⟨Nat.zero_le _, Nat.zero_le _⟩ dX1_ofFork_21 (fun H locs hP hD hS => ?_)
  exact W.iret hx hb hr (fun t ht hW => ⟨⟨_, (), rfl, rfl, by show gP E _ t.heap; rw [ht]; exact hP⟩, hS.F ht⟩) hS.2.2 dX1_ofFork_24
set_option maxHeartbeats 4000000 in
set_option maxRecDepth 100000 in
theorem m_ofFork_a3_f (l : Launch) (E : GE) (a : Nat → Nat) (τ : MS) (sz : Nat) (hn : mn τ ≤ 40) (k : Nat) (hk : k < mn τ) (hp : mIsP τ (nI k) = true) (hE : mf τ k = false) : Met l yX1_ofFork wsX1_ofFork { frames := 3, cells := 0, slots := 0, locals := 64 } (va_Pc [.ref (a 0), .int (nI k), .ref (a 3)] (gBw E sz (mW E a τ))) (gQi E (0) (mW E a τ) (mW E a (mThr τ 1)) sz) 0 0 (va_A (mW E a τ) sz) := by
  refine w_met (cc := cX1_ofFork) (maxL := 3) (ret := (some .int)) (by decide) rfl (Nat.le_of_ble_eq_true rfl) ?_
  intro p e s m below meth c ls S hr hlocks hname hB hl
  obtain ⟨hsz, hP, hK, hD0⟩ := hB
  subst hsz
  have hD := hD0.self (sz := s.heap.size)
  have hA : ∀ q : Nat, s.heap.size ≤ q → va_A (mW E a τ) s.heap.size q := fun q h => Or.inr h
  have hS : va_S (va_A (mW E a τ) s.heap.size) s.heap s.heap [] := va_S.rf
  obtain ⟨hx, hb, hml, hown, hts⟩ := id S
  have hts0 := hinX1_ofFork
  have hl : lv_has ls 3 [(0, .ref (a 0)), (1, .int (nI k)), (2, .ref (a 3))] := hl
  refine lv_aload_n hx hb dX1_ofFork_0 rfl (lv_at hl 0 rfl) ?_
  refine lv_iconst (v := 0) hx hb dX1_ofFork_1 (by decide) ?_
  refine va_put (D := E.1) (ci := 1) (v := .int 0) (ty := .int) (C := RX1) (T := TX1) (N := 13) hx hb hts hts0 tyX1 tyX1_ok nmX1 hown hK hP hD hS 0 rfl rfl 0 (by decide) (hts (.fieldLink RX1 42 "ExamGardenModel" "thrown" "I") (by decide +kernel)) (fun _ h9 => h9) rfl (by decide +kernel) rfl rfl (Nat.le_of_ble_eq_true rfl) dX1_ofFork_2 (fun H locs hP hD hS => ?_)
  have hP : gP E (mW E a (0, mn τ, mk τ, mf τ, mo τ, mh τ, md τ, mr τ, mu τ, mv τ, ms τ, mp τ, mw τ)) H := hP
  have hD : va_D (va_A (mW E a τ) s.heap.size) (mW E a (0, mn τ, mk τ, mf τ, mo τ, mh τ, md τ, mr τ, mu τ, mv τ, ms τ, mp τ, mw τ)) := hD
  refine lv_aload_n hx hb dX1_ofFork_5 rfl (lv_at hl 0 rfl) ?_
  refine lv_iload_n hx hb dX1_ofFork_6 rfl (lv_at hl 1 rfl) ?_
  refine m0i (As := [.int (nI k)]) (rest := []) S (m_isForkAt l E a (0, mn τ, mk τ, mf τ, mo τ, mh τ, md τ, mr τ, mu τ, mv τ, ms τ, mp τ, mw τ) k (by omega) hp) (cwV 1 hts gX1_ofFork_X1_isForkAt rfl rfl rfl hdX1_isForkAt ⟨Nat.le_of_ble_eq_true rfl, Nat.le_of_ble_eq_true rfl⟩) hK hP rfl hl.1 rfl (Nat.le_of_ble_eq_true rfl) ⟨Nat.zero_le _, Nat.zero_le _⟩ dX1_ofFork_7 ?_
  refine lv_if_eq (tgt := 19) hx hb dX1_ofFork_10 (by decide) (fun _ => ?_) (fun q => absurd ((b2i_eq0.mpr hE)) q)
  refine lv_aload_n hx hb dX1_ofFork_19 rfl (lv_at hl 0 rfl) ?_
  refine lv_iconst (v := 1) hx hb dX1_ofFork_20 (by decide) ?_
  refine m0wi (As := [.int 1]) (rest := []) (τ' := mThr (0, mn τ, mk τ, mf τ, mo τ, mh τ, md τ, mr τ, mu τ, mv τ, ms τ, mp τ, mw τ) 1) S (m_no l E a (0, mn τ, mk τ, mf τ, mo τ, mh τ, md τ, mr τ, mu τ, mv τ, ms τ, mp τ, mw τ) _ 1) (cwV 1 hts gX1_ofFork_X1_no rfl rfl rfl hdX1_no ⟨Nat.le_of_ble_eq_true rfl, Nat.le_of_ble_eq_true rfl⟩) hK hP hD hS hA rfl hl.1 rfl (Nat.le_of_ble_eq_true rfl) ⟨Nat.zero_le _, Nat.zero_le _⟩ dX1_ofFork_21 (fun H locs hP hD hS => ?_)
  exact W.iret hx hb hr (fun t ht hW => ⟨⟨_, (), rfl, rfl, by show gP E _ t.heap; rw [ht]; exact hP⟩, hS.F ht⟩) hS.2.2 dX1_ofFork_24
theorem hinX1_rightOf : ∀ w ∈ wsX10, w ∈ wsX1_rightOf := fun w h => List.mem_cons_of_mem _ (List.mem_append_right _ h)
theorem hdX1_rightOf : yX1_rightOf.cls = RX1 ∧ yX1_rightOf.cls ≠ "java/lang/invoke/MethodHandle" ∧ yX1_rightOf.cls ≠ "java/lang/invoke/VarHandle" ∧ (parseMethodDescriptor yX1_rightOf.desc).map (fun d => d.parameters.length) = some 1 := by decide +kernel
set_option maxHeartbeats 4000000 in
set_option maxRecDepth 100000 in
theorem m_rightOf (l : Launch) (E : GE) (a : Nat → Nat) (τ : MS) (sz : Nat) (hn : mn τ ≤ 40) (k : Nat) (hk : k < mn τ) (hp : mIsP τ (nI k) = true) (hE : mf τ k = true) : Met l yX1_rightOf wsX1_rightOf { frames := 4, cells := 0, slots := 0, locals := 86 } (va_Pc [.ref (a 0), .int (nI k)] (gBw E sz (mW E a τ))) (gQi E (nI (mh τ k)) (mW E a τ) (mW E a (mThr τ 0)) sz) 0 0 (va_A (mW E a τ) sz) := by
  refine w_met (cc := cX1_rightOf) (maxL := 2) (ret := (some .int)) (by decide) rfl (Nat.le_of_ble_eq_true rfl) ?_
  intro p e s m below meth c ls S hr hlocks hname hB hl
  obtain ⟨hsz, hP, hK, hD0⟩ := hB
  subst hsz
  have hD := hD0.self (sz := s.heap.size)
  have hA : ∀ q : Nat, s.heap.size ≤ q → va_A (mW E a τ) s.heap.size q := fun q h => Or.inr h
  have hS : va_S (va_A (mW E a τ) s.heap.size) s.heap s.heap [] := va_S.rf
  obtain ⟨hx, hb, hml, hown, hts⟩ := id S
  have hts0 := hinX1_rightOf
  have hl : lv_has ls 2 [(0, .ref (a 0)), (1, .int (nI k))] := hl
  refine lv_aload_n hx hb dX1_rightOf_0 rfl (lv_at hl 0 rfl) ?_
  refine lv_iload_n hx hb dX1_rightOf_1 rfl (lv_at hl 1 rfl) ?_
  refine lv_aload_n hx hb dX1_rightOf_2 rfl (lv_at hl 0 rfl) ?_
  refine m_get (τ := τ) hx hb hts hts0 hown hK hP 5 (by decide) (by decide +kernel) rfl rfl dX1_rightOf_3 ?_
  refine m0wi (As := [.int (nI k), .ref (a 3)]) (rest := []) (τ' := mThr τ 0) S (m_ofFork_a3 l E a τ _ hn k hk hp hE) (cwV 2 hts gX1_rightOf_X1_ofFork rfl rfl rfl hdX1_ofFork ⟨Nat.le_of_ble_eq_true rfl, Nat.le_of_ble_eq_true rfl⟩) hK hP hD hS hA rfl hl.1 rfl (Nat.le_of_ble_eq_true rfl) ⟨Nat.zero_le _, Nat.zero_le _⟩ dX1_rightOf_6 (fun H locs hP hD hS => ?_)
  exact W.iret hx hb hr (fun t ht hW => ⟨⟨_, (), rfl, rfl, by show gP E _ t.heap; rw [ht]; exact hP⟩, hS.F ht⟩) hS.2.2 dX1_rightOf_9
set_option maxHeartbeats 4000000 in
set_option maxRecDepth 100000 in
theorem m_rightOf_b (l : Launch) (E : GE) (a : Nat → Nat) (τ : MS) (sz : Nat) (pp : Int32) (hp : mIsP τ pp = false) : Met l yX1_rightOf wsX1_rightOf { frames := 4, cells := 0, slots := 0, locals := 86 } (va_Pc [.ref (a 0), .int pp] (gBw E sz (mW E a τ))) (gQi E (0) (mW E a τ) (mW E a (mThr τ 1)) sz) 0 0 (va_A (mW E a τ) sz) := by
  refine w_met (cc := cX1_rightOf) (maxL := 2) (ret := (some .int)) (by decide) rfl (Nat.le_of_ble_eq_true rfl) ?_
  intro p e s m below meth c ls S hr hlocks hname hB hl
  obtain ⟨hsz, hP, hK, hD0⟩ := hB
  subst hsz
  have hD := hD0.self (sz := s.heap.size)
  have hA : ∀ q : Nat, s.heap.size ≤ q → va_A (mW E a τ) s.heap.size q := fun q h => Or.inr h
  have hS : va_S (va_A (mW E a τ) s.heap.size) s.heap s.heap [] := va_S.rf
  obtain ⟨hx, hb, hml, hown, hts⟩ := id S
  have hts0 := hinX1_rightOf
  have hl : lv_has ls 2 [(0, .ref (a 0)), (1, .int pp)] := hl
  refine lv_aload_n hx hb dX1_rightOf_0 rfl (lv_at hl 0 rfl) ?_
  refine lv_iload_n hx hb dX1_rightOf_1 rfl (lv_at hl 1 rfl) ?_
  refine lv_aload_n hx hb dX1_rightOf_2 rfl (lv_at hl 0 rfl) ?_
  refine m_get (τ := τ) hx hb hts hts0 hown hK hP 5 (by decide) (by decide +kernel) rfl rfl dX1_rightOf_3 ?_
  refine m0wi (As := [.int pp, .ref (a 3)]) (rest := []) (τ' := mThr τ 1) S (m_ofFork_a3_b l E a τ _ pp hp) (cwV 2 hts gX1_rightOf_X1_ofFork rfl rfl rfl hdX1_ofFork ⟨Nat.le_of_ble_eq_true rfl, Nat.le_of_ble_eq_true rfl⟩) hK hP hD hS hA rfl hl.1 rfl (Nat.le_of_ble_eq_true rfl) ⟨Nat.zero_le _, Nat.zero_le _⟩ dX1_rightOf_6 (fun H locs hP hD hS => ?_)
  exact W.iret hx hb hr (fun t ht hW => ⟨⟨_, (), rfl, rfl, by show gP E _ t.heap; rw [ht]; exact hP⟩, hS.F ht⟩) hS.2.2 dX1_rightOf_9
set_option maxHeartbeats 4000000 in
set_option maxRecDepth 100000 in
theorem m_rightOf_f (l : Launch) (E : GE) (a : Nat → Nat) (τ : MS) (sz : Nat) (hn : mn τ ≤ 40) (k : Nat) (hk : k < mn τ) (hp : mIsP τ (nI k) = true) (hE : mf τ k = false) : Met l yX1_rightOf wsX1_rightOf { frames := 4, cells := 0, slots := 0, locals := 86 } (va_Pc [.ref (a 0), .int (nI k)] (gBw E sz (mW E a τ))) (gQi E (0) (mW E a τ) (mW E a (mThr τ 1)) sz) 0 0 (va_A (mW E a τ) sz) := by
  refine w_met (cc := cX1_rightOf) (maxL := 2) (ret := (some .int)) (by decide) rfl (Nat.le_of_ble_eq_true rfl) ?_
  intro p e s m below meth c ls S hr hlocks hname hB hl
  obtain ⟨hsz, hP, hK, hD0⟩ := hB
  subst hsz
  have hD := hD0.self (sz := s.heap.size)
  have hA : ∀ q : Nat, s.heap.size ≤ q → va_A (mW E a τ) s.heap.size q := fun q h => Or.inr h
  have hS : va_S (va_A (mW E a τ) s.heap.size) s.heap s.heap [] := va_S.rf
  obtain ⟨hx, hb, hml, hown, hts⟩ := id S
  have hts0 := hinX1_rightOf
  have hl : lv_has ls 2 [(0, .ref (a 0)), (1, .int (nI k))] := hl
  refine lv_aload_n hx hb dX1_rightOf_0 rfl (lv_at hl 0 rfl) ?_
  refine lv_iload_n hx hb dX1_rightOf_1 rfl (lv_at hl 1 rfl) ?_
  refine lv_aload_n hx hb dX1_rightOf_2 rfl (lv_at hl 0 rfl) ?_
  refine m_get (τ := τ) hx hb hts hts0 hown hK hP 5 (by decide) (by decide +kernel) rfl rfl dX1_rightOf_3 ?_
  refine m0wi (As := [.int (nI k), .ref (a 3)]) (rest := []) (τ' := mThr τ 1) S (m_ofFork_a3_f l E a τ _ hn k hk hp hE) (cwV 2 hts gX1_rightOf_X1_ofFork rfl rfl rfl hdX1_ofFork ⟨Nat.le_of_ble_eq_true rfl, Nat.le_of_ble_eq_true rfl⟩) hK hP hD hS hA rfl hl.1 rfl (Nat.le_of_ble_eq_true rfl) ⟨Nat.zero_le _, Nat.zero_le _⟩ dX1_rightOf_6 (fun H locs hP hD hS => ?_)
  exact W.iret hx hb hr (fun t ht hW => ⟨⟨_, (), rfl, rfl, by show gP E _ t.heap; rw [ht]; exact hP⟩, hS.F ht⟩) hS.2.2 dX1_rightOf_9
set_option maxHeartbeats 4000000 in
set_option maxRecDepth 100000 in
theorem m_ofFork_a4 (l : Launch) (E : GE) (a : Nat → Nat) (τ : MS) (sz : Nat) (hn : mn τ ≤ 40) (k : Nat) (hk : k < mn τ) (hp : mIsP τ (nI k) = true) (hE : mf τ k = true) : Met l yX1_ofFork wsX1_ofFork { frames := 3, cells := 0, slots := 0, locals := 64 } (va_Pc [.ref (a 0), .int (nI k), .ref (a 4)] (gBw E sz (mW E a τ))) (gQi E (md τ k) (mW E a τ) (mW E a (mThr τ 0)) sz) 0 0 (va_A (mW E a τ) sz) := by
  refine w_met (cc := cX1_ofFork) (maxL := 3) (ret := (some .int)) (by decide) rfl (Nat.le_of_ble_eq_true rfl) ?_
  intro p e s m below meth c ls S hr hlocks hname hB hl
  obtain ⟨hsz, hP, hK, hD0⟩ := hB
  subst hsz
  have hD := hD0.self (sz := s.heap.size)
  have hA : ∀ q : Nat, s.heap.size ≤ q → va_A (mW E a τ) s.heap.size q := fun q h => Or.inr h
  have hS : va_S (va_A (mW E a τ) s.heap.size) s.heap s.heap [] := va_S.rf
  obtain ⟨hx, hb, hml, hown, hts⟩ := id S
  have hts0 := hinX1_ofFork
  have hl : lv_has ls 3 [(0, .ref (a 0)), (1, .int (nI k)), (2, .ref (a 4))] := hl
  refine lv_aload_n hx hb dX1_ofFork_0 rfl (lv_at hl 0 rfl) ?_
  refine lv_iconst (v := 0) hx hb dX1_ofFork_1 (by decide) ?_
  refine va_put (D := E.1) (ci := 1) (v := .int 0) (ty := .int) (C := RX1) (T := TX1) (N := 13) hx hb hts hts0 tyX1 tyX1_ok nmX1 hown hK hP hD hS 0 rfl rfl 0 (by decide) (hts (.fieldLink RX1 42 "ExamGardenModel" "thrown" "I") (by decide +kernel)) (fun _ h9 => h9) rfl (by decide +kernel) rfl rfl (Nat.le_of_ble_eq_true rfl) dX1_ofFork_2 (fun H locs hP hD hS => ?_)
  have hP : gP E (mW E a (0, mn τ, mk τ, mf τ, mo τ, mh τ, md τ, mr τ, mu τ, mv τ, ms τ, mp τ, mw τ)) H := hP
  have hD : va_D (va_A (mW E a τ) s.heap.size) (mW E a (0, mn τ, mk τ, mf τ, mo τ, mh τ, md τ, mr τ, mu τ, mv τ, ms τ, mp τ, mw τ)) := hD
  refine lv_aload_n hx hb dX1_ofFork_5 rfl (lv_at hl 0 rfl) ?_
  refine lv_iload_n hx hb dX1_ofFork_6 rfl (lv_at hl 1 rfl) ?_
  refine m0i (As := [.int (nI k)]) (rest := []) S (m_isForkAt l E a (0, mn τ, mk τ, mf τ, mo τ, mh τ, md τ, mr τ, mu τ, mv τ, ms τ, mp τ, mw τ) k (by omega) hp) (cwV 1 hts gX1_ofFork_X1_isForkAt rfl rfl rfl hdX1_isForkAt ⟨Nat.le_of_ble_eq_true rfl, Nat.le_of_ble_eq_true rfl⟩) hK hP rfl hl.1 rfl (Nat.le_of_ble_eq_true rfl) ⟨Nat.zero_le _, Nat.zero_le _⟩ dX1_ofFork_7 ?_
  refine lv_if_eq (tgt := 19) hx hb dX1_ofFork_10 (by decide) (fun q => absurd q ((b2i_ne0.mpr hE))) (fun _ => ?_)
  refine lv_aload_n hx hb dX1_ofFork_13 rfl (lv_at hl 2 rfl) ?_
  refine lv_iload_n hx hb dX1_ofFork_14 rfl (lv_at hl 1 rfl) ?_
  refine g_ild hx hb hK hP 4 rfl (v := (md τ) k) (vp_in_nI (by omega) (by decide)) (by rw [nI_clamp (by omega)] <;> rfl) dX1_ofFork_15 ?_
  refine lv_goto (tgt := 24) hx hb dX1_ofFork_16 (by decide) ?_
  exact W.iret hx hb hr (fun t ht hW => ⟨⟨_, (), rfl, rfl, by show gP E _ t.heap; rw [ht]; exact hP⟩, hS.F ht⟩) hS.2.2 dX1_ofFork_24
set_option maxHeartbeats 4000000 in
set_option maxRecDepth 100000 in
theorem m_ofFork_a4_b (l : Launch) (E : GE) (a : Nat → Nat) (τ : MS) (sz : Nat) (pp : Int32) (hp : mIsP τ pp = false) : Met l yX1_ofFork wsX1_ofFork { frames := 3, cells := 0, slots := 0, locals := 64 } (va_Pc [.ref (a 0), .int pp, .ref (a 4)] (gBw E sz (mW E a τ))) (gQi E (0) (mW E a τ) (mW E a (mThr τ 1)) sz) 0 0 (va_A (mW E a τ) sz) := by
  refine w_met (cc := cX1_ofFork) (maxL := 3) (ret := (some .int)) (by decide) rfl (Nat.le_of_ble_eq_true rfl) ?_
  intro p e s m below meth c ls S hr hlocks hname hB hl
  obtain ⟨hsz, hP, hK, hD0⟩ := hB
  subst hsz
  have hD := hD0.self (sz := s.heap.size)
  have hA : ∀ q : Nat, s.heap.size ≤ q → va_A (mW E a τ) s.heap.size q := fun q h => Or.inr h
  have hS : va_S (va_A (mW E a τ) s.heap.size) s.heap s.heap [] := va_S.rf
  obtain ⟨hx, hb, hml, hown, hts⟩ := id S
  have hts0 := hinX1_ofFork
  have hl : lv_has ls 3 [(0, .ref (a 0)), (1, .int pp), (2, .ref (a 4))] := hl
  refine lv_aload_n hx hb dX1_ofFork_0 rfl (lv_at hl 0 rfl) ?_
  refine lv_iconst (v := 0) hx hb dX1_ofFork_1 (by decide) ?_
  refine va_put (D := E.1) (ci := 1) (v := .int 0) (ty := .int) (C := RX1) (T := TX1) (N := 13) hx hb hts hts0 tyX1 tyX1_ok nmX1 hown hK hP hD hS 0 rfl rfl 0 (by decide) (hts (.fieldLink RX1 42 "ExamGardenModel" "thrown" "I") (by decide +kernel)) (fun _ h9 => h9) rfl (by decide +kernel) rfl rfl (Nat.le_of_ble_eq_true rfl) dX1_ofFork_2 (fun H locs hP hD hS => ?_)
  have hP : gP E (mW E a (0, mn τ, mk τ, mf τ, mo τ, mh τ, md τ, mr τ, mu τ, mv τ, ms τ, mp τ, mw τ)) H := hP
  have hD : va_D (va_A (mW E a τ) s.heap.size) (mW E a (0, mn τ, mk τ, mf τ, mo τ, mh τ, md τ, mr τ, mu τ, mv τ, ms τ, mp τ, mw τ)) := hD
  refine lv_aload_n hx hb dX1_ofFork_5 rfl (lv_at hl 0 rfl) ?_
  refine lv_iload_n hx hb dX1_ofFork_6 rfl (lv_at hl 1 rfl) ?_
  refine m0i (As := [.int pp]) (rest := []) S (m_isForkAt_b l E a (0, mn τ, mk τ, mf τ, mo τ, mh τ, md τ, mr τ, mu τ, mv τ, ms τ, mp τ, mw τ) pp hp) (cwV 1 hts gX1_ofFork_X1_isForkAt rfl rfl rfl hdX1_isForkAt ⟨Nat.le_of_ble_eq_true rfl, Nat.le_of_ble_eq_true rfl⟩) hK hP rfl hl.1 rfl (Nat.le_of_ble_eq_true rfl) ⟨Nat.zero_le _, Nat.zero_le _⟩ dX1_ofFork_7 ?_
  refine lv_if_eq (tgt := 19) hx hb dX1_ofFork_10 (by decide) (fun _ => ?_) (fun q => absurd rfl q)
  refine lv_aload_n hx hb dX1_ofFork_19 rfl (lv_at hl 0 rfl) ?_
  refine lv_iconst (v := 1) hx hb dX1_ofFork_20 (by decide) ?_
  refine m0wi (As := [.int 1]) (rest := []) (τ' := mThr (0, mn τ, mk τ, mf τ, mo τ, mh τ, md τ, mr τ, mu τ, mv τ, ms τ, mp τ, mw τ) 1) S (m_no l E a (0, mn τ, mk τ, mf τ, mo τ, mh τ, md τ, mr τ, mu τ, mv τ, ms τ, mp τ, mw τ) _ 1) (cwV 1 hts gX1_ofFork_X1_no rfl rfl rfl hdX1_no ⟨Nat.le_of_ble_eq_true rfl, Nat.le_of_ble_eq_true rfl⟩) hK hP hD hS hA rfl hl.1 rfl (Nat.le_of_ble_eq_true rfl) ⟨Nat.zero_le _, Nat.zero_le _⟩ dX1_ofFork_21 (fun H locs hP hD hS => ?_)
  exact W.iret hx hb hr (fun t ht hW => ⟨⟨_, (), rfl, rfl, by show gP E _ t.heap; rw [ht]; exact hP⟩, hS.F ht⟩) hS.2.2 dX1_ofFork_24
set_option maxHeartbeats 4000000 in
set_option maxRecDepth 100000 in
theorem m_ofFork_a4_f (l : Launch) (E : GE) (a : Nat → Nat) (τ : MS) (sz : Nat) (hn : mn τ ≤ 40) (k : Nat) (hk : k < mn τ) (hp : mIsP τ (nI k) = true) (hE : mf τ k = false) : Met l yX1_ofFork wsX1_ofFork { frames := 3, cells := 0, slots := 0, locals := 64 } (va_Pc [.ref (a 0), .int (nI k), .ref (a 4)] (gBw E sz (mW E a τ))) (gQi E (0) (mW E a τ) (mW E a (mThr τ 1)) sz) 0 0 (va_A (mW E a τ) sz) := by
  refine w_met (cc := cX1_ofFork) (maxL := 3) (ret := (some .int)) (by decide) rfl (Nat.le_of_ble_eq_true rfl) ?_
  intro p e s m below meth c ls S hr hlocks hname hB hl
  obtain ⟨hsz, hP, hK, hD0⟩ := hB
  subst hsz
  have hD := hD0.self (sz := s.heap.size)
  have hA : ∀ q : Nat, s.heap.size ≤ q → va_A (mW E a τ) s.heap.size q := fun q h => Or.inr h
  have hS : va_S (va_A (mW E a τ) s.heap.size) s.heap s.heap [] := va_S.rf
  obtain ⟨hx, hb, hml, hown, hts⟩ := id S
  have hts0 := hinX1_ofFork
  have hl : lv_has ls 3 [(0, .ref (a 0)), (1, .int (nI k)), (2, .ref (a 4))] := hl
  refine lv_aload_n hx hb dX1_ofFork_0 rfl (lv_at hl 0 rfl) ?_
  refine lv_iconst (v := 0) hx hb dX1_ofFork_1 (by decide) ?_
  refine va_put (D := E.1) (ci := 1) (v := .int 0) (ty := .int) (C := RX1) (T := TX1) (N := 13) hx hb hts hts0 tyX1 tyX1_ok nmX1 hown hK hP hD hS 0 rfl rfl 0 (by decide) (hts (.fieldLink RX1 42 "ExamGardenModel" "thrown" "I") (by decide +kernel)) (fun _ h9 => h9) rfl (by decide +kernel) rfl rfl (Nat.le_of_ble_eq_true rfl) dX1_ofFork_2 (fun H locs hP hD hS => ?_)
  have hP : gP E (mW E a (0, mn τ, mk τ, mf τ, mo τ, mh τ, md τ, mr τ, mu τ, mv τ, ms τ, mp τ, mw τ)) H := hP
  have hD : va_D (va_A (mW E a τ) s.heap.size) (mW E a (0, mn τ, mk τ, mf τ, mo τ, mh τ, md τ, mr τ, mu τ, mv τ, ms τ, mp τ, mw τ)) := hD
  refine lv_aload_n hx hb dX1_ofFork_5 rfl (lv_at hl 0 rfl) ?_
  refine lv_iload_n hx hb dX1_ofFork_6 rfl (lv_at hl 1 rfl) ?_
  refine m0i (As := [.int (nI k)]) (rest := []) S (m_isForkAt l E a (0, mn τ, mk τ, mf τ, mo τ, mh τ, md τ, mr τ, mu τ, mv τ, ms τ, mp τ, mw τ) k (by omega) hp) (cwV 1 hts gX1_ofFork_X1_isForkAt rfl rfl rfl hdX1_isForkAt ⟨Nat.le_of_ble_eq_true rfl, Nat.le_of_ble_eq_true rfl⟩) hK hP rfl hl.1 rfl (Nat.le_of_ble_eq_true rfl) ⟨Nat.zero_le _, Nat.zero_le _⟩ dX1_ofFork_7 ?_
  refine lv_if_eq (tgt := 19) hx hb dX1_ofFork_10 (by decide) (fun _ => ?_) (fun q => absurd ((b2i_eq0.mpr hE)) q)
  refine lv_aload_n hx hb dX1_ofFork_19 rfl (lv_at hl 0 rfl) ?_
  refine lv_iconst (v := 1) hx hb dX1_ofFork_20 (by decide) ?_
  refine m0wi (As := [.int 1]) (rest := []) (τ' := mThr (0, mn τ, mk τ, mf τ, mo τ, mh τ, md τ, mr τ, mu τ, mv τ, ms τ, mp τ, mw τ) 1) S (m_no l E a (0, mn τ, mk τ, mf τ, mo τ, mh τ, md τ, mr τ, mu τ, mv τ, ms τ, mp τ, mw τ) _ 1) (cwV 1 hts gX1_ofFork_X1_no rfl rfl rfl hdX1_no ⟨Nat.le_of_ble_eq_true rfl, Nat.le_of_ble_eq_true rfl⟩) hK hP hD hS hA rfl hl.1 rfl (Nat.le_of_ble_eq_true rfl) ⟨Nat.zero_le _, Nat.zero_le _⟩ dX1_ofFork_21 (fun H locs hP hD hS => ?_)
  exact W.iret hx hb hr (fun t ht hW => ⟨⟨_, (), rfl, rfl, by show gP E _ t.heap; rw [ht]; exact hP⟩, hS.F ht⟩) hS.2.2 dX1_ofFork_24
theorem hinX1_weightOf : ∀ w ∈ wsX10, w ∈ wsX1_weightOf := fun w h => List.mem_cons_of_mem _ (List.mem_append_right _ h)
theorem hdX1_weightOf : yX1_weightOf.cls = RX1 ∧ yX1_weightOf.cls ≠ "java/lang/invoke/MethodHandle" ∧ yX1_weightOf.cls ≠ "java/lang/invoke/VarHandle" ∧ (parseMethodDescriptor yX1_weightOf.desc).map (fun d => d.parameters.length) = some 1 := by decide +kernel
set_option maxHeartbeats 4000000 in
set_option maxRecDepth 100000 in
theorem m_weightOf (l : Launch) (E : GE) (a : Nat → Nat) (τ : MS) (sz : Nat) (hn : mn τ ≤ 40) (k : Nat) (hk : k < mn τ) (hp : mIsP τ (nI k) = true) (hE : mf τ k = true) : Met l yX1_weightOf wsX1_weightOf { frames := 4, cells := 0, slots := 0, locals := 86 } (va_Pc [.ref (a 0), .int (nI k)] (gBw E sz (mW E a τ))) (gQi E (md τ k) (mW E a τ) (mW E a (mThr τ 0)) sz) 0 0 (va_A (mW E a τ) sz) := by
  refine w_met (cc := cX1_weightOf) (maxL := 2) (ret := (some .int)) (by decide) rfl (Nat.le_of_ble_eq_true rfl) ?_
  intro p e s m below meth c ls S hr hlocks hname hB hl
  obtain ⟨hsz, hP, hK, hD0⟩ := hB
  subst hsz
  have hD := hD0.self (sz := s.heap.size)
  have hA : ∀ q : Nat, s.heap.size ≤ q → va_A (mW E a τ) s.heap.size q := fun q h => Or.inr h
  have hS : va_S (va_A (mW E a τ) s.heap.size) s.heap s.heap [] := va_S.rf
  obtain ⟨hx, hb, hml, hown, hts⟩ := id S
  have hts0 := hinX1_weightOf
  have hl : lv_has ls 2 [(0, .ref (a 0)), (1, .int (nI k))] := hl
  refine lv_aload_n hx hb dX1_weightOf_0 rfl (lv_at hl 0 rfl) ?_
  refine lv_iload_n hx hb dX1_weightOf_1 rfl (lv_at hl 1 rfl) ?_
  refine lv_aload_n hx hb dX1_weightOf_2 rfl (lv_at hl 0 rfl) ?_
  refine m_get (τ := τ) hx hb hts hts0 hown hK hP 6 (by decide) (by decide +kernel) rfl rfl dX1_weightOf_3 ?_
  refine m0wi (As := [.int (nI k), .ref (a 4)]) (rest := []) (τ' := mThr τ 0) S (m_ofFork_a4 l E a τ _ hn k hk hp hE) (cwV 2 hts gX1_weightOf_X1_ofFork rfl rfl rfl hdX1_ofFork ⟨Nat.le_of_ble_eq_true rfl, Nat.le_of_ble_eq_true rfl⟩) hK hP hD hS hA rfl hl.1 rfl (Nat.le_of_ble_eq_true rfl) ⟨Nat.zero_le _, Nat.zero_le _⟩ dX1_weightOf_6 (fun H locs hP hD hS => ?_)
  exact W.iret hx hb hr (fun t ht hW => ⟨⟨_, (), rfl, rfl, by show gP E _ t.heap; rw [ht]; exact hP⟩, hS.F ht⟩) hS.2.2 dX1_weightOf_9
set_option maxHeartbeats 4000000 in
set_option maxRecDepth 100000 in
theorem m_weightOf_b (l : Launch) (E : GE) (a : Nat → Nat) (τ : MS) (sz : Nat) (pp : Int32) (hp : mIsP τ pp = false) : Met l yX1_weightOf wsX1_weightOf { frames := 4, cells := 0, slots := 0, locals := 86 } (va_Pc [.ref (a 0), .int pp] (gBw E sz (mW E a τ))) (gQi E (0) (mW E a τ) (mW E a (mThr τ 1)) sz) 0 0 (va_A (mW E a τ) sz) := by
  refine w_met (cc := cX1_weightOf) (maxL := 2) (ret := (some .int)) (by decide) rfl (Nat.le_of_ble_eq_true rfl) ?_
  intro p e s m below meth c ls S hr hlocks hname hB hl
  obtain ⟨hsz, hP, hK, hD0⟩ := hB
  subst hsz
  have hD := hD0.self (sz := s.heap.size)
  have hA : ∀ q : Nat, s.heap.size ≤ q → va_A (mW E a τ) s.heap.size q := fun q h => Or.inr h
  have hS : va_S (va_A (mW E a τ) s.heap.size) s.heap s.heap [] := va_S.rf
  obtain ⟨hx, hb, hml, hown, hts⟩ := id S
  have hts0 := hinX1_weightOf
  have hl : lv_has ls 2 [(0, .ref (a 0)), (1, .int pp)] := hl
  refine lv_aload_n hx hb dX1_weightOf_0 rfl (lv_at hl 0 rfl) ?_
  refine lv_iload_n hx hb dX1_weightOf_1 rfl (lv_at hl 1 rfl) ?_
  refine lv_aload_n hx hb dX1_weightOf_2 rfl (lv_at hl 0 rfl) ?_
  refine m_get (τ := τ) hx hb hts hts0 hown hK hP 6 (by decide) (by decide +kernel) rfl rfl dX1_weightOf_3 ?_
  refine m0wi (As := [.int pp, .ref (a 4)]) (rest := []) (τ' := mThr τ 1) S (m_ofFork_a4_b l E a τ _ pp hp) (cwV 2 hts gX1_weightOf_X1_ofFork rfl rfl rfl hdX1_ofFork ⟨Nat.le_of_ble_eq_true rfl, Nat.le_of_ble_eq_true rfl⟩) hK hP hD hS hA rfl hl.1 rfl (Nat.le_of_ble_eq_true rfl) ⟨Nat.zero_le _, Nat.zero_le _⟩ dX1_weightOf_6 (fun H locs hP hD hS => ?_)
  exact W.iret hx hb hr (fun t ht hW => ⟨⟨_, (), rfl, rfl, by show gP E _ t.heap; rw [ht]; exact hP⟩, hS.F ht⟩) hS.2.2 dX1_weightOf_9
set_option maxHeartbeats 4000000 in
set_option maxRecDepth 100000 in
theorem m_weightOf_f (l : Launch) (E : GE) (a : Nat → Nat) (τ : MS) (sz : Nat) (hn : mn τ ≤ 40) (k : Nat) (hk : k < mn τ) (hp : mIsP τ (nI k) = true) (hE : mf τ k = false) : Met l yX1_weightOf wsX1_weightOf { frames := 4, cells := 0, slots := 0, locals := 86 } (va_Pc [.ref (a 0), .int (nI k)] (gBw E sz (mW E a τ))) (gQi E (0) (mW E a τ) (mW E a (mThr τ 1)) sz) 0 0 (va_A (mW E a τ) sz) := by
  refine w_met (cc := cX1_weightOf) (maxL := 2) (ret := (some .int)) (by decide) rfl (Nat.le_of_ble_eq_true rfl) ?_
  intro p e s m below meth c ls S hr hlocks hname hB hl
  obtain ⟨hsz, hP, hK, hD0⟩ := hB
  subst hsz
  have hD := hD0.self (sz := s.heap.size)
  have hA : ∀ q : Nat, s.heap.size ≤ q → va_A (mW E a τ) s.heap.size q := fun q h => Or.inr h
  have hS : va_S (va_A (mW E a τ) s.heap.size) s.heap s.heap [] := va_S.rf
  obtain ⟨hx, hb, hml, hown, hts⟩ := id S
  have hts0 := hinX1_weightOf
  have hl : lv_has ls 2 [(0, .ref (a 0)), (1, .int (nI k))] := hl
  refine lv_aload_n hx hb dX1_weightOf_0 rfl (lv_at hl 0 rfl) ?_
  refine lv_iload_n hx hb dX1_weightOf_1 rfl (lv_at hl 1 rfl) ?_
  refine lv_aload_n hx hb dX1_weightOf_2 rfl (lv_at hl 0 rfl) ?_
  refine m_get (τ := τ) hx hb hts hts0 hown hK hP 6 (by decide) (by decide +kernel) rfl rfl dX1_weightOf_3 ?_
  refine m0wi (As := [.int (nI k), .ref (a 4)]) (rest := []) (τ' := mThr τ 1) S (m_ofFork_a4_f l E a τ _ hn k hk hp hE) (cwV 2 hts gX1_weightOf_X1_ofFork rfl rfl rfl hdX1_ofFork ⟨Nat.le_of_ble_eq_true rfl, Nat.le_of_ble_eq_true rfl⟩) hK hP hD hS hA rfl hl.1 rfl (Nat.le_of_ble_eq_true rfl) ⟨Nat.zero_le _, Nat.zero_le _⟩ dX1_weightOf_6 (fun H locs hP hD hS => ?_)
  exact W.iret hx hb hr (fun t ht hW => ⟨⟨_, (), rfl, rfl, by show gP E _ t.heap; rw [ht]; exact hP⟩, hS.F ht⟩) hS.2.2 dX1_weightOf_9
theorem hinX1_ofStudent : ∀ w ∈ wsX10, w ∈ wsX1_ofStudent := fun w h => List.mem_cons_of_mem _ (List.mem_append_right _ h)
theorem hdX1_ofStudent : yX1_ofStudent.cls = RX1 ∧ yX1_ofStudent.cls ≠ "java/lang/invoke/MethodHandle" ∧ yX1_ofStudent.cls ≠ "java/lang/invoke/VarHandle" ∧ (parseMethodDescriptor yX1_ofStudent.desc).map (fun d => d.parameters.length) = some 2 := by decide +kernel
set_option maxHeartbeats 4000000 in
set_option maxRecDepth 100000 in
theorem m_ofStudent_a8 (l : Launch) (E : GE) (a : Nat → Nat) (τ : MS) (sz : Nat) (hn : mk τ ≤ 8) (k : Nat) (hk : k < mk τ) (hp : mIsS τ (nI k) = true) : Met l yX1_ofStudent wsX1_ofStudent { frames := 2, cells := 0, slots := 0, locals := 43 } (va_Pc [.ref (a 0), .int (nI k), .ref (a 8)] (gBw E sz (mW E a τ))) (gQi E (nI (ms τ k)) (mW E a τ) (mW E a (mThr τ 0)) sz) 0 0 (va_A (mW E a τ) sz) := by
  refine w_met (cc := cX1_ofStudent) (maxL := 3) (ret := (some .int)) (by decide) rfl (Nat.le_of_ble_eq_true rfl) ?_
  intro p e s m below meth c ls S hr hlocks hname hB hl
  obtain ⟨hsz, hP, hK, hD0⟩ := hB
  subst hsz
  have hD := hD0.self (sz := s.heap.size)
  have hA : ∀ q : Nat, s.heap.size ≤ q → va_A (mW E a τ) s.heap.size q := fun q h => Or.inr h
  have hS : va_S (va_A (mW E a τ) s.heap.size) s.heap s.heap [] := va_S.rf
  obtain ⟨hx, hb, hml, hown, hts⟩ := id S
  have hts0 := hinX1_ofStudent
  have hl : lv_has ls 3 [(0, .ref (a 0)), (1, .int (nI k)), (2, .ref (a 8))] := hl
  refine lv_aload_n hx hb dX1_ofStudent_0 rfl (lv_at hl 0 rfl) ?_
  refine lv_iconst (v := 0) hx hb dX1_ofStudent_1 (by decide) ?_
  refine va_put (D := E.1) (ci := 1) (v := .int 0) (ty := .int) (C := RX1) (T := TX1) (N := 13) hx hb hts hts0 tyX1 tyX1_ok nmX1 hown hK hP hD hS 0 rfl rfl 0 (by decide) (hts (.fieldLink RX1 42 "ExamGardenModel" "thrown" "I") (by decide +kernel)) (fun _ h9 => h9) rfl (by decide +kernel) rfl rfl (Nat.le_of_ble_eq_true rfl) dX1_ofStudent_2 (fun H locs hP hD hS => ?_)
  have hP : gP E (mW E a (0, mn τ, mk τ, mf τ, mo τ, mh τ, md τ, mr τ, mu τ, mv τ, ms τ, mp τ, mw τ)) H := hP
  have hD : va_D (va_A (mW E a τ) s.heap.size) (mW E a (0, mn τ, mk τ, mf τ, mo τ, mh τ, md τ, mr τ, mu τ, mv τ, ms τ, mp τ, mw τ)) := hD
  refine lv_aload_n hx hb dX1_ofStudent_5 rfl (lv_at hl 0 rfl) ?_
  refine lv_iload_n hx hb dX1_ofStudent_6 rfl (lv_at hl 1 rfl) ?_
  refine m0i (As := [.int (nI k)]) (rest := []) S (m_isStudent l E a (0, mn τ, mk τ, mf τ, mo τ, mh τ, md τ, mr τ, mu τ, mv τ, ms τ, mp τ, mw τ) (nI k)) (cwV 1 hts gX1_ofStudent_X1_isStudent rfl rfl rfl hdX1_isStudent ⟨Nat.le_of_ble_eq_true rfl, Nat.le_of_ble_eq_true rfl⟩) hK hP rfl hl.1 rfl (Nat.le_of_ble_eq_true rfl) ⟨Nat.zero_le _, Nat.zero_le _⟩ dX1_ofStudent_7 ?_
  refine lv_if_eq (tgt := 19) hx hb dX1_ofStudent_10 (by decide) (fun q => absurd q ((b2i_ne0.mpr hp))) (fun _ => ?_)
  refine lv_aload_n hx hb dX1_ofStudent_13 rfl (lv_at hl 2 rfl) ?_
  refine lv_iload_n hx hb dX1_ofStudent_14 rfl (lv_at hl 1 rfl) ?_
  refine g_ild hx hb hK hP 8 rfl (v := nI ((ms τ) k)) (vp_in_nI (by omega) (by decide)) (by rw [nI_clamp (by omega)] <;> rfl) dX1_ofStudent_15 ?_
  refine lv_goto (tgt := 24) hx hb dX1_ofStudent_16 (by decide) ?_
  exact W.iret hx hb hr (fun t ht hW => ⟨⟨_, (), rfl, rfl, by show gP E _ t.heap; rw [ht]; exact hP⟩, hS.F ht⟩) hS.2.2 dX1_ofStudent_24
set_option maxHeartbeats 4000000 in
set_option maxRecDepth 100000 in
theorem m_ofStudent_a8_b (l : Launch) (E : GE) (a : Nat → Nat) (τ : MS) (sz : Nat) (pp : Int32) (hp : mIsS τ pp = false) : Met l yX1_ofStudent wsX1_ofStudent { frames := 2, cells := 0, slots := 0, locals := 43 } (va_Pc [.ref (a 0), .int pp, .ref (a 8)] (gBw E sz (mW E a τ))) (gQi E (0) (mW E a τ) (mW E a (mThr τ 1)) sz) 0 0 (va_A (mW E a τ) sz) := by
  refine w_met (cc := cX1_ofStudent) (maxL := 3) (ret := (some .int)) (by decide) rfl (Nat.le_of_ble_eq_true rfl) ?_
  intro p e s m below meth c ls S hr hlocks hname hB hl
  obtain ⟨hsz, hP, hK, hD0⟩ := hB
  subst hsz
  have hD := hD0.self (sz := s.heap.size)
  have hA : ∀ q : Nat, s.heap.size ≤ q → va_A (mW E a τ) s.heap.size q := fun q h => Or.inr h
  have hS : va_S (va_A (mW E a τ) s.heap.size) s.heap s.heap [] := va_S.rf
  obtain ⟨hx, hb, hml, hown, hts⟩ := id S
  have hts0 := hinX1_ofStudent
  have hl : lv_has ls 3 [(0, .ref (a 0)), (1, .int pp), (2, .ref (a 8))] := hl
  refine lv_aload_n hx hb dX1_ofStudent_0 rfl (lv_at hl 0 rfl) ?_
  refine lv_iconst (v := 0) hx hb dX1_ofStudent_1 (by decide) ?_
  refine va_put (D := E.1) (ci := 1) (v := .int 0) (ty := .int) (C := RX1) (T := TX1) (N := 13) hx hb hts hts0 tyX1 tyX1_ok nmX1 hown hK hP hD hS 0 rfl rfl 0 (by decide) (hts (.fieldLink RX1 42 "ExamGardenModel" "thrown" "I") (by decide +kernel)) (fun _ h9 => h9) rfl (by decide +kernel) rfl rfl (Nat.le_of_ble_eq_true rfl) dX1_ofStudent_2 (fun H locs hP hD hS => ?_)
  have hP : gP E (mW E a (0, mn τ, mk τ, mf τ, mo τ, mh τ, md τ, mr τ, mu τ, mv τ, ms τ, mp τ, mw τ)) H := hP
  have hD : va_D (va_A (mW E a τ) s.heap.size) (mW E a (0, mn τ, mk τ, mf τ, mo τ, mh τ, md τ, mr τ, mu τ, mv τ, ms τ, mp τ, mw τ)) := hD
  refine lv_aload_n hx hb dX1_ofStudent_5 rfl (lv_at hl 0 rfl) ?_
  refine lv_iload_n hx hb dX1_ofStudent_6 rfl (lv_at hl 1 rfl) ?_
  refine m0i (As := [.int pp]) (rest := []) S (m_isStudent l E a (0, mn τ, mk τ, mf τ, mo τ, mh τ, md τ, mr τ, mu τ, mv τ, ms τ, mp τ, mw τ) pp) (cwV 1 hts gX1_ofStudent_X1_isStudent rfl rfl rfl hdX1_isStudent ⟨Nat.le_of_ble_eq_true rfl, Nat.le_of_ble_eq_true rfl⟩) hK hP rfl hl.1 rfl (Nat.le_of_ble_eq_true rfl) ⟨Nat.zero_le _, Nat.zero_le _⟩ dX1_ofStudent_7 ?_
  refine lv_if_eq (tgt := 19) hx hb dX1_ofStudent_10 (by decide) (fun _ => ?_) (fun q => absurd ((b2i_eq0.mpr hp)) q)
  refine lv_aload_n hx hb dX1_ofStudent_19 rfl (lv_at hl 0 rfl) ?_
  refine lv_iconst (v := 1) hx hb dX1_ofStudent_20 (by decide) ?_
  refine m0wi (As := [.int 1]) (rest := []) (τ' := mThr (0, mn τ, mk τ, mf τ, mo τ, mh τ, md τ, mr τ, mu τ, mv τ, ms τ, mp τ, mw τ) 1) S (m_no l E a (0, mn τ, mk τ, mf τ, mo τ, mh τ, md τ, mr τ, mu τ, mv τ, ms τ, mp τ, mw τ) _ 1) (cwV 1 hts gX1_ofStudent_X1_no rfl rfl rfl hdX1_no ⟨Nat.le_of_ble_eq_true rfl, Nat.le_of_ble_eq_true rfl⟩) hK hP hD hS hA rfl hl.1 rfl (Nat.le_of_ble_eq_true rfl) ⟨Nat.zero_le _, Nat.zero_le _⟩ dX1_ofStudent_21 (fun H locs hP hD hS => ?_)
  exact W.iret hx hb hr (fun t ht hW => ⟨⟨_, (), rfl, rfl, by show gP E _ t.heap; rw [ht]; exact hP⟩, hS.F ht⟩) hS.2.2 dX1_ofStudent_24
theorem hinX1_placeOf : ∀ w ∈ wsX10, w ∈ wsX1_placeOf := fun w h => List.mem_cons_of_mem _ (List.mem_append_right _ h)
theorem hdX1_placeOf : yX1_placeOf.cls = RX1 ∧ yX1_placeOf.cls ≠ "java/lang/invoke/MethodHandle" ∧ yX1_placeOf.cls ≠ "java/lang/invoke/VarHandle" ∧ (parseMethodDescriptor yX1_placeOf.desc).map (fun d => d.parameters.length) = some 1 := by decide +kernel
set_option maxHeartbeats 4000000 in
set_option maxRecDepth 100000 in
theorem m_placeOf (l : Launch) (E : GE) (a : Nat → Nat) (τ : MS) (sz : Nat) (hn : mk τ ≤ 8) (k : Nat) (hk : k < mk τ) (hp : mIsS τ (nI k) = true) : Met l yX1_placeOf wsX1_placeOf { frames := 3, cells := 0, slots := 0, locals := 65 } (va_Pc [.ref (a 0), .int (nI k)] (gBw E sz (mW E a τ))) (gQi E (nI (ms τ k)) (mW E a τ) (mW E a (mThr τ 0)) sz) 0 0 (va_A (mW E a τ) sz) := by
  refine w_met (cc := cX1_placeOf) (maxL := 2) (ret := (some .int)) (by decide) rfl (Nat.le_of_ble_eq_true rfl) ?_
  intro p e s m below meth c ls S hr hlocks hname hB hl
  obtain ⟨hsz, hP, hK, hD0⟩ := hB
  subst hsz
  have hD := hD0.self (sz := s.heap.size)
  have hA : ∀ q : Nat, s.heap.size ≤ q → va_A (mW E a τ) s.heap.size q := fun q h => Or.inr h
  have hS : va_S (va_A (mW E a τ) s.heap.size) s.heap s.heap [] := va_S.rf
  obtain ⟨hx, hb, hml, hown, hts⟩ := id S
  have hts0 := hinX1_placeOf
  have hl : lv_has ls 2 [(0, .ref (a 0)), (1, .int (nI k))] := hl
  refine lv_aload_n hx hb dX1_placeOf_0 rfl (lv_at hl 0 rfl) ?_
  refine lv_iload_n hx hb dX1_placeOf_1 rfl (lv_at hl 1 rfl) ?_
  refine lv_aload_n hx hb dX1_placeOf_2 rfl (lv_at hl 0 rfl) ?_
  refine m_get (τ := τ) hx hb hts hts0 hown hK hP 10 (by decide) (by decide +kernel) rfl rfl dX1_placeOf_3 ?_
  refine m0wi (As := [.int (nI k), .ref (a 8)]) (rest := []) (τ' := mThr τ 0) S (m_ofStudent_a8 l E a τ _ hn k hk hp) (cwV 2 hts gX1_placeOf_X1_ofStudent rfl rfl rfl hdX1_ofStudent ⟨Nat.le_of_ble_eq_true rfl, Nat.le_of_ble_eq_true rfl⟩) hK hP hD hS hA rfl hl.1 rfl (Nat.le_of_ble_eq_true rfl) ⟨Nat.zero_le _, Nat.zero_le _⟩ dX1_placeOf_6 (fun H locs hP hD hS => ?_)
  exact W.iret hx hb hr (fun t ht hW => ⟨⟨_, (), rfl, rfl, by show gP E _ t.heap; rw [ht]; exact hP⟩, hS.F ht⟩) hS.2.2 dX1_placeOf_9
set_option maxHeartbeats 4000000 in
set_option maxRecDepth 100000 in
theorem m_placeOf_b (l : Launch) (E : GE) (a : Nat → Nat) (τ : MS) (sz : Nat) (pp : Int32) (hp : mIsS τ pp = false) : Met l yX1_placeOf wsX1_placeOf { frames := 3, cells := 0, slots := 0, locals := 65 } (va_Pc [.ref (a 0), .int pp] (gBw E sz (mW E a τ))) (gQi E (0) (mW E a τ) (mW E a (mThr τ 1)) sz) 0 0 (va_A (mW E a τ) sz) := by
  refine w_met (cc := cX1_placeOf) (maxL := 2) (ret := (some .int)) (by decide) rfl (Nat.le_of_ble_eq_true rfl) ?_
  intro p e s m below meth c ls S hr hlocks hname hB hl
  obtain ⟨hsz, hP, hK, hD0⟩ := hB
  subst hsz
  have hD := hD0.self (sz := s.heap.size)
  have hA : ∀ q : Nat, s.heap.size ≤ q → va_A (mW E a τ) s.heap.size q := fun q h => Or.inr h
  have hS : va_S (va_A (mW E a τ) s.heap.size) s.heap s.heap [] := va_S.rf
  obtain ⟨hx, hb, hml, hown, hts⟩ := id S
  have hts0 := hinX1_placeOf
  have hl : lv_has ls 2 [(0, .ref (a 0)), (1, .int pp)] := hl
  refine lv_aload_n hx hb dX1_placeOf_0 rfl (lv_at hl 0 rfl) ?_
  refine lv_iload_n hx hb dX1_placeOf_1 rfl (lv_at hl 1 rfl) ?_
  refine lv_aload_n hx hb dX1_placeOf_2 rfl (lv_at hl 0 rfl) ?_
  refine m_get (τ := τ) hx hb hts hts0 hown hK hP 10 (by decide) (by decide +kernel) rfl rfl dX1_placeOf_3 ?_
  refine m0wi (As := [.int pp, .ref (a 8)]) (rest := []) (τ' := mThr τ 1) S (m_ofStudent_a8_b l E a τ _ pp hp) (cwV 2 hts gX1_placeOf_X1_ofStudent rfl rfl rfl hdX1_ofStudent ⟨Nat.le_of_ble_eq_true rfl, Nat.le_of_ble_eq_true rfl⟩) hK hP hD hS hA rfl hl.1 rfl (Nat.le_of_ble_eq_true rfl) ⟨Nat.zero_le _, Nat.zero_le _⟩ dX1_placeOf_6 (fun H locs hP hD hS => ?_)
  exact W.iret hx hb hr (fun t ht hW => ⟨⟨_, (), rfl, rfl, by show gP E _ t.heap; rw [ht]; exact hP⟩, hS.F ht⟩) hS.2.2 dX1_placeOf_9
set_option maxHeartbeats 4000000 in
set_option maxRecDepth 100000 in
theorem m_ofStudent_a9 (l : Launch) (E : GE) (a : Nat → Nat) (τ : MS) (sz : Nat) (hn : mk τ ≤ 8) (k : Nat) (hk : k < mk τ) (hp : mIsS τ (nI k) = true) : Met l yX1_ofStudent wsX1_ofStudent { frames := 2, cells := 0, slots := 0, locals := 43 } (va_Pc [.ref (a 0), .int (nI k), .ref (a 9)] (gBw E sz (mW E a τ))) (gQi E (nI (mp τ k)) (mW E a τ) (mW E a (mThr τ 0)) sz) 0 0 (va_A (mW E a τ) sz) := by
  refine w_met (cc := cX1_ofStudent) (maxL := 3) (ret := (some .int)) (by decide) rfl (Nat.le_of_ble_eq_true rfl) ?_
  intro p e s m below meth c ls S hr hlocks hname hB hl
  obtain ⟨hsz, hP, hK, hD0⟩ := hB
  subst hsz
  have hD := hD0.self (sz := s.heap.size)
  have hA : ∀ q : Nat, s.heap.size ≤ q → va_A (mW E a τ) s.heap.size q := fun q h => Or.inr h
  have hS : va_S (va_A (mW E a τ) s.heap.size) s.heap s.heap [] := va_S.rf
  obtain ⟨hx, hb, hml, hown, hts⟩ := id S
  have hts0 := hinX1_ofStudent
  have hl : lv_has ls 3 [(0, .ref (a 0)), (1, .int (nI k)), (2, .ref (a 9))] := hl
  refine lv_aload_n hx hb dX1_ofStudent_0 rfl (lv_at hl 0 rfl) ?_
  refine lv_iconst (v := 0) hx hb dX1_ofStudent_1 (by decide) ?_
  refine va_put (D := E.1) (ci := 1) (v := .int 0) (ty := .int) (C := RX1) (T := TX1) (N := 13) hx hb hts hts0 tyX1 tyX1_ok nmX1 hown hK hP hD hS 0 rfl rfl 0 (by decide) (hts (.fieldLink RX1 42 "ExamGardenModel" "thrown" "I") (by decide +kernel)) (fun _ h9 => h9) rfl (by decide +kernel) rfl rfl (Nat.le_of_ble_eq_true rfl) dX1_ofStudent_2 (fun H locs hP hD hS => ?_)
  have hP : gP E (mW E a (0, mn τ, mk τ, mf τ, mo τ, mh τ, md τ, mr τ, mu τ, mv τ, ms τ, mp τ, mw τ)) H := hP
  have hD : va_D (va_A (mW E a τ) s.heap.size) (mW E a (0, mn τ, mk τ, mf τ, mo τ, mh τ, md τ, mr τ, mu τ, mv τ, ms τ, mp τ, mw τ)) := hD
  refine lv_aload_n hx hb dX1_ofStudent_5 rfl (lv_at hl 0 rfl) ?_
  refine lv_iload_n hx hb dX1_ofStudent_6 rfl (lv_at hl 1 rfl) ?_
  refine m0i (As := [.int (nI k)]) (rest := []) S (m_isStudent l E a (0, mn τ, mk τ, mf τ, mo τ, mh τ, md τ, mr τ, mu τ, mv τ, ms τ, mp τ, mw τ) (nI k)) (cwV 1 hts gX1_ofStudent_X1_isStudent rfl rfl rfl hdX1_isStudent ⟨Nat.le_of_ble_eq_true rfl, Nat.le_of_ble_eq_true rfl⟩) hK hP rfl hl.1 rfl (Nat.le_of_ble_eq_true rfl) ⟨Nat.zero_le _, Nat.zero_le _⟩ dX1_ofStudent_7 ?_
  refine lv_if_eq (tgt := 19) hx hb dX1_ofStudent_10 (by decide) (fun q => absurd q ((b2i_ne0.mpr hp))) (fun _ => ?_)
  refine lv_aload_n hx hb dX1_ofStudent_13 rfl (lv_at hl 2 rfl) ?_
  refine lv_iload_n hx hb dX1_ofStudent_14 rfl (lv_at hl 1 rfl) ?_
  refine g_ild hx hb hK hP 9 rfl (v := nI ((mp τ) k)) (vp_in_nI (by omega) (by decide)) (by rw [nI_clamp (by omega)] <;> rfl) dX1_ofStudent_15 ?_
  refine lv_goto (tgt := 24) hx hb dX1_ofStudent_16 (by decide) ?_
  exact W.iret hx hb hr (fun t ht hW => ⟨⟨_, (), rfl, rfl, by show gP E _ t.heap; rw [ht]; exact hP⟩, hS.F ht⟩) hS.2.2 dX1_ofStudent_24
set_option maxHeartbeats 4000000 in
set_option maxRecDepth 100000 in
theorem m_ofStudent_a9_b (l : Launch) (E : GE) (a : Nat → Nat) (τ : MS) (sz : Nat) (pp : Int32) (hp : mIsS τ pp = false) : Met l yX1_ofStudent wsX1_ofStudent { frames := 2, cells := 0, slots := 0, locals := 43 } (va_Pc [.ref (a 0), .int pp, .ref (a 9)] (gBw E sz (mW E a τ))) (gQi E (0) (mW E a τ) (mW E a (mThr τ 1)) sz) 0 0 (va_A (mW E a τ) sz) := by
  refine w_met (cc := cX1_ofStudent) (maxL := 3) (ret := (some .int)) (by decide) rfl (Nat.le_of_ble_eq_true rfl) ?_
  intro p e s m below meth c ls S hr hlocks hname hB hl
  obtain ⟨hsz, hP, hK, hD0⟩ := hB
  subst hsz
  have hD := hD0.self (sz := s.heap.size)
  have hA : ∀ q : Nat, s.heap.size ≤ q → va_A (mW E a τ) s.heap.size q := fun q h => Or.inr h
  have hS : va_S (va_A (mW E a τ) s.heap.size) s.heap s.heap [] := va_S.rf
  obtain ⟨hx, hb, hml, hown, hts⟩ := id S
  have hts0 := hinX1_ofStudent
  have hl : lv_has ls 3 [(0, .ref (a 0)), (1, .int pp), (2, .ref (a 9))] := hl
  refine lv_aload_n hx hb dX1_ofStudent_0 rfl (lv_at hl 0 rfl) ?_
  refine lv_iconst (v := 0) hx hb dX1_ofStudent_1 (by decide) ?_
  refine va_put (D := E.1) (ci := 1) (v := .int 0) (ty := .int) (C := RX1) (T := TX1) (N := 13) hx hb hts hts0 tyX1 tyX1_ok nmX1 hown hK hP hD hS 0 rfl rfl 0 (by decide) (hts (.fieldLink RX1 42 "ExamGardenModel" "thrown" "I") (by decide +kernel)) (fun _ h9 => h9) rfl (by decide +kernel) rfl rfl (Nat.le_of_ble_eq_true rfl) dX1_ofStudent_2 (fun H locs hP hD hS => ?_)
  have hP : gP E (mW E a (0, mn τ, mk τ, mf τ, mo τ, mh τ, md τ, mr τ, mu τ, mv τ, ms τ, mp τ, mw τ)) H := hP
  have hD : va_D (va_A (mW E a τ) s.heap.size) (mW E a (0, mn τ, mk τ, mf τ, mo τ, mh τ, md τ, mr τ, mu τ, mv τ, ms τ, mp τ, mw τ)) := hD
  refine lv_aload_n hx hb dX1_ofStudent_5 rfl (lv_at hl 0 rfl) ?_
  refine lv_iload_n hx hb dX1_ofStudent_6 rfl (lv_at hl 1 rfl) ?_
  refine m0i (As := [.int pp]) (rest := []) S (m_isStudent l E a (0, mn τ, mk τ, mf τ, mo τ, mh τ, md τ, mr τ, mu τ, mv τ, ms τ, mp τ, mw τ) pp) (cwV 1 hts gX1_ofStudent_X1_isStudent rfl rfl rfl hdX1_isStudent ⟨Nat.le_of_ble_eq_true rfl, Nat.le_of_ble_eq_true rfl⟩) hK hP rfl hl.1 rfl (Nat.le_of_ble_eq_true rfl) ⟨Nat.zero_le _, Nat.zero_le _⟩ dX1_ofStudent_7 ?_
  refine lv_if_eq (tgt := 19) hx hb dX1_ofStudent_10 (by decide) (fun _ => ?_) (fun q => absurd ((b2i_eq0.mpr hp)) q)
  refine lv_aload_n hx hb dX1_ofStudent_19 rfl (lv_at hl 0 rfl) ?_
  refine lv_iconst (v := 1) hx hb dX1_ofStudent_20 (by decide) ?_
  refine m0wi (As := [.int 1]) (rest := []) (τ' := mThr (0, mn τ, mk τ, mf τ, mo τ, mh τ, md τ, mr τ, mu τ, mv τ, ms τ, mp τ, mw τ) 1) S (m_no l E a (0, mn τ, mk τ, mf τ, mo τ, mh τ, md τ, mr τ, mu τ, mv τ, ms τ, mp τ, mw τ) _ 1) (cwV 1 hts gX1_ofStudent_X1_no rfl rfl rfl hdX1_no ⟨Nat.le_of_ble_eq_true rfl, Nat.le_of_ble_eq_true rfl⟩) hK hP hD hS hA rfl hl.1 rfl (Nat.le_of_ble_eq_true rfl) ⟨Nat.zero_le _, Nat.zero_le _⟩ dX1_ofStudent_21 (fun H locs hP hD hS => ?_)
  exact W.iret hx hb hr (fun t ht hW => ⟨⟨_, (), rfl, rfl, by show gP E _ t.heap; rw [ht]; exact hP⟩, hS.F ht⟩) hS.2.2 dX1_ofStudent_24
theorem hinX1_passedBy : ∀ w ∈ wsX10, w ∈ wsX1_passedBy := fun w h => List.mem_cons_of_mem _ (List.mem_append_right _ h)
theorem hdX1_passedBy : yX1_passedBy.cls = RX1 ∧ yX1_passedBy.cls ≠ "java/lang/invoke/MethodHandle" ∧ yX1_passedBy.cls ≠ "java/lang/invoke/VarHandle" ∧ (parseMethodDescriptor yX1_passedBy.desc).map (fun d => d.parameters.length) = some 1 := by decide +kernel
set_option maxHeartbeats 4000000 in
set_option maxRecDepth 100000 in
theorem m_passedBy (l : Launch) (E : GE) (a : Nat → Nat) (τ : MS) (sz : Nat) (hn : mk τ ≤ 8) (k : Nat) (hk : k < mk τ) (hp : mIsS τ (nI k) = true) : Met l yX1_passedBy wsX1_passedBy { frames := 3, cells := 0, slots := 0, locals := 65 } (va_Pc [.ref (a 0), .int (nI k)] (gBw E sz (mW E a τ))) (gQi E (nI (mp τ k)) (mW E a τ) (mW E a (mThr τ 0)) sz) 0 0 (va_A (mW E a τ) sz) := by
  refine w_met (cc := cX1_passedBy) (maxL := 2) (ret := (some .int)) (by decide) rfl (Nat.le_of_ble_eq_true rfl) ?_
  intro p e s m below meth c ls S hr hlocks hname hB hl
  obtain ⟨hsz, hP, hK, hD0⟩ := hB
  subst hsz
  have hD := hD0.self (sz := s.heap.size)
  have hA : ∀ q : Nat, s.heap.size ≤ q → va_A (mW E a τ) s.heap.size q := fun q h => Or.inr h
  have hS : va_S (va_A (mW E a τ) s.heap.size) s.heap s.heap [] := va_S.rf
  obtain ⟨hx, hb, hml, hown, hts⟩ := id S
  have hts0 := hinX1_passedBy
  have hl : lv_has ls 2 [(0, .ref (a 0)), (1, .int (nI k))] := hl
  refine lv_aload_n hx hb dX1_passedBy_0 rfl (lv_at hl 0 rfl) ?_
  refine lv_iload_n hx hb dX1_passedBy_1 rfl (lv_at hl 1 rfl) ?_
  refine lv_aload_n hx hb dX1_passedBy_2 rfl (lv_at hl 0 rfl) ?_
  refine m_get (τ := τ) hx hb hts hts0 hown hK hP 11 (by decide) (by decide +kernel) rfl rfl dX1_passedBy_3 ?_
  refine m0wi (As := [.int (nI k), .ref (a 9)]) (rest := []) (τ' := mThr τ 0) S (m_ofStudent_a9 l E a τ _ hn k hk hp) (cwV 2 hts gX1_passedBy_X1_ofStudent rfl rfl rfl hdX1_ofStudent ⟨Nat.le_of_ble_eq_true rfl, Nat.le_of_ble_eq_true rfl⟩) hK hP hD hS hA rfl hl.1 rfl (Nat.le_of_ble_eq_true rfl) ⟨Nat.zero_le _, Nat.zero_le _⟩ dX1_passedBy_6 (fun H locs hP hD hS => ?_)
  exact W.iret hx hb hr (fun t ht hW => ⟨⟨_, (), rfl, rfl, by show gP E _ t.heap; rw [ht]; exact hP⟩, hS.F ht⟩) hS.2.2 dX1_passedBy_9
set_option maxHeartbeats 4000000 in
set_option maxRecDepth 100000 in
theorem m_passedBy_b (l : Launch) (E : GE) (a : Nat → Nat) (τ : MS) (sz : Nat) (pp : Int32) (hp : mIsS τ pp = false) : Met l yX1_passedBy wsX1_passedBy { frames := 3, cells := 0, slots := 0, locals := 65 } (va_Pc [.ref (a 0), .int pp] (gBw E sz (mW E a τ))) (gQi E (0) (mW E a τ) (mW E a (mThr τ 1)) sz) 0 0 (va_A (mW E a τ) sz) := by
  refine w_met (cc := cX1_passedBy) (maxL := 2) (ret := (some .int)) (by decide) rfl (Nat.le_of_ble_eq_true rfl) ?_
  intro p e s m below meth c ls S hr hlocks hname hB hl
  obtain ⟨hsz, hP, hK, hD0⟩ := hB
  subst hsz
  have hD := hD0.self (sz := s.heap.size)
  have hA : ∀ q : Nat, s.heap.size ≤ q → va_A (mW E a τ) s.heap.size q := fun q h => Or.inr h
  have hS : va_S (va_A (mW E a τ) s.heap.size) s.heap s.heap [] := va_S.rf
  obtain ⟨hx, hb, hml, hown, hts⟩ := id S
  have hts0 := hinX1_passedBy
  have hl : lv_has ls 2 [(0, .ref (a 0)), (1, .int pp)] := hl
  refine lv_aload_n hx hb dX1_passedBy_0 rfl (lv_at hl 0 rfl) ?_
  refine lv_iload_n hx hb dX1_passedBy_1 rfl (lv_at hl 1 rfl) ?_
  refine lv_aload_n hx hb dX1_passedBy_2 rfl (lv_at hl 0 rfl) ?_
  refine m_get (τ := τ) hx hb hts hts0 hown hK hP 11 (by decide) (by decide +kernel) rfl rfl dX1_passedBy_3 ?_
  refine m0wi (As := [.int pp, .ref (a 9)]) (rest := []) (τ' := mThr τ 1) S (m_ofStudent_a9_b l E a τ _ pp hp) (cwV 2 hts gX1_passedBy_X1_ofStudent rfl rfl rfl hdX1_ofStudent ⟨Nat.le_of_ble_eq_true rfl, Nat.le_of_ble_eq_true rfl⟩) hK hP hD hS hA rfl hl.1 rfl (Nat.le_of_ble_eq_true rfl) ⟨Nat.zero_le _, Nat.zero_le _⟩ dX1_passedBy_6 (fun H locs hP hD hS => ?_)
  exact W.iret hx hb hr (fun t ht hW => ⟨⟨_, (), rfl, rfl, by show gP E _ t.heap; rw [ht]; exact hP⟩, hS.F ht⟩) hS.2.2 dX1_passedBy_9
theorem hinX1_ofPlace : ∀ w ∈ wsX10, w ∈ wsX1_ofPlace := fun w h => List.mem_cons_of_mem _ (List.mem_append_right _ h)
theorem hdX1_ofPlace : yX1_ofPlace.cls = RX1 ∧ yX1_ofPlace.cls ≠ "java/lang/invoke/MethodHandle" ∧ yX1_ofPlace.cls ≠ "java/lang/invoke/VarHandle" ∧ (parseMethodDescriptor yX1_ofPlace.desc).map (fun d => d.parameters.length) = some 2 := by decide +kernel
set_option maxHeartbeats 4000000 in
set_option maxRecDepth 100000 in
theorem m_ofPlace_a6 (l : Launch) (E : GE) (a : Nat → Nat) (τ : MS) (sz : Nat) (hO : MOK τ) (hn : mn τ ≤ 40) (k : Nat) (hk : k < mn τ) (hp : mIsP τ (nI k) = true) : Met l yX1_ofPlace wsX1_ofPlace { frames := 2, cells := 0, slots := 0, locals := 43 } (va_Pc [.ref (a 0), .int (nI k), .ref (a 6)] (gBw E sz (mW E a τ))) (gQi E (mu (mTab (mThr τ 0)) k) (mW E a τ) (mW E a (mTab (mThr τ 0))) sz) 0 0 (va_A (mW E a τ) sz) := by
  refine w_met (cc := cX1_ofPlace) (maxL := 3) (ret := (some .int)) (by decide) rfl (Nat.le_of_ble_eq_true rfl) ?_
  intro p e s m below meth c ls S hr hlocks hname hB hl
  obtain ⟨hsz, hP, hK, hD0⟩ := hB
  subst hsz
  have hD := hD0.self (sz := s.heap.size)
  have hA : ∀ q : Nat, s.heap.size ≤ q → va_A (mW E a τ) s.heap.size q := fun q h => Or.inr h
  have hS : va_S (va_A (mW E a τ) s.heap.size) s.heap s.heap [] := va_S.rf
  obtain ⟨hx, hb, hml, hown, hts⟩ := id S
  have hts0 := hinX1_ofPlace
  have hl : lv_has ls 3 [(0, .ref (a 0)), (1, .int (nI k)), (2, .ref (a 6))] := hl
  refine lv_aload_n hx hb dX1_ofPlace_0 rfl (lv_at hl 0 rfl) ?_
  refine lv_iconst (v := 0) hx hb dX1_ofPlace_1 (by decide) ?_
  refine va_put (D := E.1) (ci := 1) (v := .int 0) (ty := .int) (C := RX1) (T := TX1) (N := 13) hx hb hts hts0 tyX1 tyX1_ok nmX1 hown hK hP hD hS 0 rfl rfl 0 (by decide) (hts (.fieldLink RX1 42 "ExamGardenModel" "thrown" "I") (by decide +kernel)) (fun _ h9 => h9) rfl (by decide +kernel) rfl rfl (Nat.le_of_ble_eq_true rfl) dX1_ofPlace_2 (fun H locs hP hD hS => ?_)
  have hP : gP E (mW E a (0, mn τ, mk τ, mf τ, mo τ, mh τ, md τ, mr τ, mu τ, mv τ, ms τ, mp τ, mw τ)) H := hP
  have hD : va_D (va_A (mW E a τ) s.heap.size) (mW E a (0, mn τ, mk τ, mf τ, mo τ, mh τ, md τ, mr τ, mu τ, mv τ, ms τ, mp τ, mw τ)) := hD
  refine lv_aload_n hx hb dX1_ofPlace_5 rfl (lv_at hl 0 rfl) ?_
  refine m0wv (As := []) (rest := []) (τ' := mTab (0, mn τ, mk τ, mf τ, mo τ, mh τ, md τ, mr τ, mu τ, mv τ, ms τ, mp τ, mw τ)) S (m_table l E a (0, mn τ, mk τ, mf τ, mo τ, mh τ, md τ, mr τ, mu τ, mv τ, ms τ, mp τ, mw τ) _ hO) (cwV 0 hts gX1_ofPlace_X1_table rfl rfl rfl hdX1_table ⟨Nat.le_of_ble_eq_true rfl, Nat.le_of_ble_eq_true rfl⟩) hK hP hD hS hA rfl hl.1 rfl (Nat.le_of_ble_eq_true rfl) ⟨Nat.zero_le _, Nat.zero_le _⟩ dX1_ofPlace_6 (fun H locs hP hD hS => ?_)
  refine lv_aload_n hx hb dX1_ofPlace_9 rfl (lv_at hl 0 rfl) ?_
  refine lv_iload_n hx hb dX1_ofPlace_10 rfl (lv_at hl 1 rfl) ?_
  refine m0i (As := [.int (nI k)]) (rest := []) S (m_isPlace l E a (mTab (0, mn τ, mk τ, mf τ, mo τ, mh τ, md τ, mr τ, mu τ, mv τ, ms τ, mp τ, mw τ)) (nI k)) (cwV 1 hts gX1_ofPlace_X1_isPlace rfl rfl rfl hdX1_isPlace ⟨Nat.le_of_ble_eq_true rfl, Nat.le_of_ble_eq_true rfl⟩) hK hP rfl hl.1 rfl (Nat.le_of_ble_eq_true rfl) ⟨Nat.zero_le _, Nat.zero_le _⟩ dX1_ofPlace_11 ?_
  refine lv_if_eq (tgt := 23) hx hb dX1_ofPlace_14 (by decide) (fun q => absurd q ((b2i_ne0.mpr hp))) (fun _ => ?_)
  refine lv_aload_n hx hb dX1_ofPlace_17 rfl (lv_at hl 2 rfl) ?_
  refine lv_iload_n hx hb dX1_ofPlace_18 rfl (lv_at hl 1 rfl) ?_
  refine g_ild hx hb hK hP 6 rfl (v := (mu (mTab (0, mn τ, mk τ, mf τ, mo τ, mh τ, md τ, mr τ, mu τ, mv τ, ms τ, mp τ, mw τ))) k) (vp_in_nI (by omega) (by decide)) (by rw [nI_clamp (by omega)] <;> rfl) dX1_ofPlace_19 ?_
  refine lv_goto (tgt := 28) hx hb dX1_ofPlace_20 (by decide) ?_
  exact W.iret hx hb hr (fun t ht hW => ⟨⟨_, (), rfl, rfl, by show gP E _ t.heap; rw [ht]; exact hP⟩, hS.F ht⟩) hS.2.2 dX1_ofPlace_28
set_option maxHeartbeats 4000000 in
set_option maxRecDepth 100000 in
theorem m_ofPlace_a6_b (l : Launch) (E : GE) (a : Nat → Nat) (τ : MS) (sz : Nat) (hO : MOK τ) (pp : Int32) (hp : mIsP τ pp = false) : Met l yX1_ofPlace wsX1_ofPlace { frames := 2, cells := 0, slots := 0, locals := 43 } (va_Pc [.ref (a 0), .int pp, .ref (a 6)] (gBw E sz (mW E a τ))) (gQi E (0) (mW E a τ) (mW E a (mThr (mTab (mThr τ 0)) 1)) sz) 0 0 (va_A (mW E a τ) sz) := by
  refine w_met (cc := cX1_ofPlace) (maxL := 3) (ret := (some .int)) (by decide) rfl (Nat.le_of_ble_eq_true rfl) ?_
  intro p e s m below meth c ls S hr hlocks hname hB hl
  obtain ⟨hsz, hP, hK, hD0⟩ := hB
  subst hsz
  have hD := hD0.self (sz := s.heap.size)
  have hA : ∀ q : Nat, s.heap.size ≤ q → va_A (mW E a τ) s.heap.size q := fun q h => Or.inr h
  have hS : va_S (va_A (mW E a τ) s.heap.size) s.heap s.heap [] := va_S.rf
  obtain ⟨hx, hb, hml, hown, hts⟩ := id S
  have hts0 := hinX1_ofPlace
  have hl : lv_has ls 3 [(0, .ref (a 0)), (1, .int pp), (2, .ref (a 6))] := hl
  refine lv_aload_n hx hb dX1_ofPlace_0 rfl (lv_at hl 0 rfl) ?_
  refine lv_iconst (v := 0) hx hb dX1_ofPlace_1 (by decide) ?_
  refine va_put (D := E.1) (ci := 1) (v := .int 0) (ty := .int) (C := RX1) (T := TX1) (N := 13) hx hb hts hts0 tyX1 tyX1_ok nmX1 hown hK hP hD hS 0 rfl rfl 0 (by decide) (hts (.fieldLink RX1 42 "ExamGardenModel" "thrown" "I") (by decide +kernel)) (fun _ h9 => h9) rfl (by decide +kernel) rfl rfl (Nat.le_of_ble_eq_true rfl) dX1_ofPlace_2 (fun H locs hP hD hS => ?_)
  have hP : gP E (mW E a (0, mn τ, mk τ, mf τ, mo τ, mh τ, md τ, mr τ, mu τ, mv τ, ms τ, mp τ, mw τ)) H := hP
  have hD : va_D (va_A (mW E a τ) s.heap.size) (mW E a (0, mn τ, mk τ, mf τ, mo τ, mh τ, md τ, mr τ, mu τ, mv τ, ms τ, mp τ, mw τ)) := hD
  refine lv_aload_n hx hb dX1_ofPlace_5 rfl (lv_at hl 0 rfl) ?_
  refine m0wv (As := []) (rest := []) (τ' := mTab (0, mn τ, mk τ, mf τ, mo τ, mh τ, md τ, mr τ, mu τ, mv τ, ms τ, mp τ, mw τ)) S (m_table l E a (0, mn τ, mk τ, mf τ, mo τ, mh τ, md τ, mr τ, mu τ, mv τ, ms τ, mp τ, mw τ) _ hO) (cwV 0 hts gX1_ofPlace_X1_table rfl rfl rfl hdX1_table ⟨Nat.le_of_ble_eq_true rfl, Nat.le_of_ble_eq_true rfl⟩) hK hP hD hS hA rfl hl.1 rfl (Nat.le_of_ble_eq_true rfl) ⟨Nat.zero_le _, Nat.zero_le _⟩ dX1_ofPlace_6 (fun H locs hP hD hS => ?_)
  refine lv_aload_n hx hb dX1_ofPlace_9 rfl (lv_at hl 0 rfl) ?_
  refine lv_iload_n hx hb dX1_ofPlace_10 rfl (lv_at hl 1 rfl) ?_
  refine m0i (As := [.int pp]) (rest := []) S (m_isPlace l E a (mTab (0, mn τ, mk τ, mf τ, mo τ, mh τ, md τ, mr τ, mu τ, mv τ, ms τ, mp τ, mw τ)) pp) (cwV 1 hts gX1_ofPlace_X1_isPlace rfl rfl rfl hdX1_isPlace ⟨Nat.le_of_ble_eq_true rfl, Nat.le_of_ble_eq_true rfl⟩) hK hP rfl hl.1 rfl (Nat.le_of_ble_eq_true rfl) ⟨Nat.zero_le _, Nat.zero_le _⟩ dX1_ofPlace_11 ?_
  refine lv_if_eq (tgt := 23) hx hb dX1_ofPlace_14 (by decide) (fun _ => ?_) (fun q => absurd ((b2i_eq0.mpr hp)) q)
  refine lv_aload_n hx hb dX1_ofPlace_23 rfl (lv_at hl 0 rfl) ?_
  refine lv_iconst (v := 1) hx hb dX1_ofPlace_24 (by decide) ?_
  refine m0wi (As := [.int 1]) (rest := []) (τ' := mThr (mTab (0, mn τ, mk τ, mf τ, mo τ, mh τ, md τ, mr τ, mu τ, mv τ, ms τ, mp τ, mw τ)) 1) S (m_no l E a (mTab (0, mn τ, mk τ, mf τ, mo τ, mh τ, md τ, mr τ, mu τ, mv τ, ms τ, mp τ, mw τ)) _ 1) (cwV 1 hts gX1_ofPlace_X1_no rfl rfl rfl hdX1_no ⟨Nat.le_of_ble_eq_true rfl, Nat.le_of_ble_eq_true rfl⟩) hK hP hD hS hA rfl hl.1 rfl (Nat.le_of_ble_eq_true rfl) ⟨Nat.zero_le _, Nat.zero_le _⟩ dX1_ofPlace_25 (fun H locs hP hD hS => ?_)
  exact W.iret hx hb hr (fun t ht hW => ⟨⟨_, (), rfl, rfl, by show gP E _ t.heap; rw [ht]; exact hP⟩, hS.F ht⟩) hS.2.2 dX1_ofPlace_28
theorem hinX1_sureGrade : ∀ w ∈ wsX10, w ∈ wsX1_sureGrade := fun w h => List.mem_cons_of_mem _ (List.mem_append_right _ h)
theorem hdX1_sureGrade : yX1_sureGrade.cls = RX1 ∧ yX1_sureGrade.cls ≠ "java/lang/invoke/MethodHandle" ∧ yX1_sureGrade.cls ≠ "java/lang/invoke/VarHandle" ∧ (parseMethodDescriptor yX1_sureGrade.desc).map (fun d => d.parameters.length) = some 1 := by decide +kernel
set_option maxHeartbeats 4000000 in
set_option maxRecDepth 100000 in
theorem m_sureGrade (l : Launch) (E : GE) (a : Nat → Nat) (τ : MS) (sz : Nat) (hO : MOK τ) (hn : mn τ ≤ 40) (k : Nat) (hk : k < mn τ) (hp : mIsP τ (nI k) = true) : Met l yX1_sureGrade wsX1_sureGrade { frames := 3, cells := 0, slots := 0, locals := 65 } (va_Pc [.ref (a 0), .int (nI k)] (gBw E sz (mW E a τ))) (gQi E (mu (mTab (mThr τ 0)) k) (mW E a τ) (mW E a (mTab (mThr τ 0))) sz) 0 0 (va_A (mW E a τ) sz) := by
  refine w_met (cc := cX1_sureGrade) (maxL := 2) (ret := (some .int)) (by decide) rfl (Nat.le_of_ble_eq_true rfl) ?_
  intro p e s m below meth c ls S hr hlocks hname hB hl
  obtain ⟨hsz, hP, hK, hD0⟩ := hB
  subst hsz
  have hD := hD0.self (sz := s.heap.size)
  have hA : ∀ q : Nat, s.heap.size ≤ q → va_A (mW E a τ) s.heap.size q := fun q h => Or.inr h
  have hS : va_S (va_A (mW E a τ) s.heap.size) s.heap s.heap [] := va_S.rf
  obtain ⟨hx, hb, hml, hown, hts⟩ := id S
  have hts0 := hinX1_sureGrade
  have hl : lv_has ls 2 [(0, .ref (a 0)), (1, .int (nI k))] := hl
  refine lv_aload_n hx hb dX1_sureGrade_0 rfl (lv_at hl 0 rfl) ?_
  refine lv_iload_n hx hb dX1_sureGrade_1 rfl (lv_at hl 1 rfl) ?_
  refine lv_aload_n hx hb dX1_sureGrade_2 rfl (lv_at hl 0 rfl) ?_
  refine m_get (τ := τ) hx hb hts hts0 hown hK hP 8 (by decide) (by decide +kernel) rfl rfl dX1_sureGrade_3 ?_
  refine m0wi (As := [.int (nI k), .ref (a 6)]) (rest := []) (τ' := mTab (mThr τ 0)) S (m_ofPlace_a6 l E a τ _ hO hn k hk hp) (cwV 2 hts gX1_sureGrade_X1_ofPlace rfl rfl rfl hdX1_ofPlace ⟨Nat.le_of_ble_eq_true rfl, Nat.le_of_ble_eq_true rfl⟩) hK hP hD hS hA rfl hl.1 rfl (Nat.le_of_ble_eq_true rfl) ⟨Nat.zero_le _, Nat.zero_le _⟩ dX1_sureGrade_6 (fun H locs hP hD hS => ?_)
  exact W.iret hx hb hr (fun t ht hW => ⟨⟨_, (), rfl, rfl, by show gP E _ t.heap; rw [ht]; exact hP⟩, hS.F ht⟩) hS.2.2 dX1_sureGrade_9
set_option maxHeartbeats 4000000 in
set_option maxRecDepth 100000 in
theorem m_sureGrade_b (l : Launch) (E : GE) (a : Nat → Nat) (τ : MS) (sz : Nat) (hO : MOK τ) (pp : Int32) (hp : mIsP τ pp = false) : Met l yX1_sureGrade wsX1_sureGrade { frames := 3, cells := 0, slots := 0, locals := 65 } (va_Pc [.ref (a 0), .int pp] (gBw E sz (mW E a τ))) (gQi E (0) (mW E a τ) (mW E a (mThr (mTab (mThr τ 0)) 1)) sz) 0 0 (va_A (mW E a τ) sz) := by
  refine w_met (cc := cX1_sureGrade) (maxL := 2) (ret := (some .int)) (by decide) rfl (Nat.le_of_ble_eq_true rfl) ?_
  intro p e s m below meth c ls S hr hlocks hname hB hl
  obtain ⟨hsz, hP, hK, hD0⟩ := hB
  subst hsz
  have hD := hD0.self (sz := s.heap.size)
  have hA : ∀ q : Nat, s.heap.size ≤ q → va_A (mW E a τ) s.heap.size q := fun q h => Or.inr h
  have hS : va_S (va_A (mW E a τ) s.heap.size) s.heap s.heap [] := va_S.rf
  obtain ⟨hx, hb, hml, hown, hts⟩ := id S
  have hts0 := hinX1_sureGrade
  have hl : lv_has ls 2 [(0, .ref (a 0)), (1, .int pp)] := hl
  refine lv_aload_n hx hb dX1_sureGrade_0 rfl (lv_at hl 0 rfl) ?_
  refine lv_iload_n hx hb dX1_sureGrade_1 rfl (lv_at hl 1 rfl) ?_
  refine lv_aload_n hx hb dX1_sureGrade_2 rfl (lv_at hl 0 rfl) ?_
  refine m_get (τ := τ) hx hb hts hts0 hown hK hP 8 (by decide) (by decide +kernel) rfl rfl dX1_sureGrade_3 ?_
  refine m0wi (As := [.int pp, .ref (a 6)]) (rest := []) (τ' := mThr (mTab (mThr τ 0)) 1) S (m_ofPlace_a6_b l E a τ _ hO pp hp) (cwV 2 hts gX1_sureGrade_X1_ofPlace rfl rfl rfl hdX1_ofPlace ⟨Nat.le_of_ble_eq_true rfl, Nat.le_of_ble_eq_true rfl⟩) hK hP hD hS hA rfl hl.1 rfl (Nat.le_of_ble_eq_true rfl) ⟨Nat.zero_le _, Nat.zero_le _⟩ dX1_sureGrade_6 (fun H locs hP hD hS => ?_)
  exact W.iret hx hb hr (fun t ht hW => ⟨⟨_, (), rfl, rfl, by show gP E _ t.heap; rw [ht]; exact hP⟩, hS.F ht⟩) hS.2.2 dX1_sureGrade_9
set_option maxHeartbeats 4000000 in
set_option maxRecDepth 100000 in
theorem m_ofPlace_a7 (l : Launch) (E : GE) (a : Nat → Nat) (τ : MS) (sz : Nat) (hO : MOK τ) (hn : mn τ ≤ 40) (k : Nat) (hk : k < mn τ) (hp : mIsP τ (nI k) = true) : Met l yX1_ofPlace wsX1_ofPlace { frames := 2, cells := 0, slots := 0, locals := 43 } (va_Pc [.ref (a 0), .int (nI k), .ref (a 7)] (gBw E sz (mW E a τ))) (gQi E (mv (mTab (mThr τ 0)) k) (mW E a τ) (mW E a (mTab (mThr τ 0))) sz) 0 0 (va_A (mW E a τ) sz) := by
  refine w_met (cc := cX1_ofPlace) (maxL := 3) (ret := (some .int)) (by decide) rfl (Nat.le_of_ble_eq_true rfl) ?_
  intro p e s m below meth c ls S hr hlocks hname hB hl
  obtain ⟨hsz, hP, hK, hD0⟩ := hB
  subst hsz
  have hD := hD0.self (sz := s.heap.size)
  have hA : ∀ q : Nat, s.heap.size ≤ q → va_A (mW E a τ) s.heap.size q := fun q h => Or.inr h
  have hS : va_S (va_A (mW E a τ) s.heap.size) s.heap s.heap [] := va_S.rf
  obtain ⟨hx, hb, hml, hown, hts⟩ := id S
  have hts0 := hinX1_ofPlace
  have hl : lv_has ls 3 [(0, .ref (a 0)), (1, .int (nI k)), (2, .ref (a 7))] := hl
  refine lv_aload_n hx hb dX1_ofPlace_0 rfl (lv_at hl 0 rfl) ?_
  refine lv_iconst (v := 0) hx hb dX1_ofPlace_1 (by decide) ?_
  refine va_put (D := E.1) (ci := 1) (v := .int 0) (ty := .int) (C := RX1) (T := TX1) (N := 13) hx hb hts hts0 tyX1 tyX1_ok nmX1 hown hK hP hD hS 0 rfl rfl 0 (by decide) (hts (.fieldLink RX1 42 "ExamGardenModel" "thrown" "I") (by decide +kernel)) (fun _ h9 => h9) rfl (by decide +kernel) rfl rfl (Nat.le_of_ble_eq_true rfl) dX1_ofPlace_2 (fun H locs hP hD hS => ?_)
  have hP : gP E (mW E a (0, mn τ, mk τ, mf τ, mo τ, mh τ, md τ, mr τ, mu τ, mv τ, ms τ, mp τ, mw τ)) H := hP
  have hD : va_D (va_A (mW E a τ) s.heap.size) (mW E a (0, mn τ, mk τ, mf τ, mo τ, mh τ, md τ, mr τ, mu τ, mv τ, ms τ, mp τ, mw τ)) := hD
  refine lv_aload_n hx hb dX1_ofPlace_5 rfl (lv_at hl 0 rfl) ?_
  refine m0wv (As := []) (rest := []) (τ' := mTab (0, mn τ, mk τ, mf τ, mo τ, mh τ, md τ, mr τ, mu τ, mv τ, ms τ, mp τ, mw τ)) S (m_table l E a (0, mn τ, mk τ, mf τ, mo τ, mh τ, md τ, mr τ, mu τ, mv τ, ms τ, mp τ, mw τ) _ hO) (cwV 0 hts gX1_ofPlace_X1_table rfl rfl rfl hdX1_table ⟨Nat.le_of_ble_eq_true rfl, Nat.le_of_ble_eq_true rfl⟩) hK hP hD hS hA rfl hl.1 rfl (Nat.le_of_ble_eq_true rfl) ⟨Nat.zero_le _, Nat.zero_le _⟩ dX1_ofPlace_6 (fun H locs hP hD hS => ?_)
  refine lv_aload_n hx hb dX1_ofPlace_9 rfl (lv_at hl 0 rfl) ?_
  refine lv_iload_n hx hb dX1_ofPlace_10 rfl (lv_at hl 1 rfl) ?_
  refine m0i (As := [.int (nI k)]) (rest := []) S (m_isPlace l E a (mTab (0, mn τ, mk τ, mf τ, mo τ, mh τ, md τ, mr τ, mu τ, mv τ, ms τ, mp τ, mw τ)) (nI k)) (cwV 1 hts gX1_ofPlace_X1_isPlace rfl rfl rfl hdX1_isPlace ⟨Nat.le_of_ble_eq_true rfl, Nat.le_of_ble_eq_true rfl⟩) hK hP rfl hl.1 rfl (Nat.le_of_ble_eq_true rfl) ⟨Nat.zero_le _, Nat.zero_le _⟩ dX1_ofPlace_11 ?_
  refine lv_if_eq (tgt := 23) hx hb dX1_ofPlace_14 (by decide) (fun q => absurd q ((b2i_ne0.mpr hp))) (fun _ => ?_)
  refine lv_aload_n hx hb dX1_ofPlace_17 rfl (lv_at hl 2 rfl) ?_
  refine lv_iload_n hx hb dX1_ofPlace_18 rfl (lv_at hl 1 rfl) ?_
  refine g_ild hx hb hK hP 7 rfl (v := (mv (mTab (0, mn τ, mk τ, mf τ, mo τ, mh τ, md τ, mr τ, mu τ, mv τ, ms τ, mp τ, mw τ))) k) (vp_in_nI (by omega) (by decide)) (by rw [nI_clamp (by omega)] <;> rfl) dX1_ofPlace_19 ?_
  refine lv_goto (tgt := 28) hx hb dX1_ofPlace_20 (by decide) ?_
  exact W.iret hx hb hr (fun t ht hW => ⟨⟨_, (), rfl, rfl, by show gP E _ t.heap; rw [ht]; exact hP⟩, hS.F ht⟩) hS.2.2 dX1_ofPlace_28
set_option maxHeartbeats 4000000 in
set_option maxRecDepth 100000 in
theorem m_ofPlace_a7_b (l : Launch) (E : GE) (a : Nat → Nat) (τ : MS) (sz : Nat) (hO : MOK τ) (pp : Int32) (hp : mIsP τ pp = false) : Met l yX1_ofPlace wsX1_ofPlace { frames := 2, cells := 0, slots := 0, locals := 43 } (va_Pc [.ref (a 0), .int pp, .ref (a 7)] (gBw E sz (mW E a τ))) (gQi E (0) (mW E a τ) (mW E a (mThr (mTab (mThr τ 0)) 1)) sz) 0 0 (va_A (mW E a τ) sz) := by
  refine w_met (cc := cX1_ofPlace) (maxL := 3) (ret := (some .int)) (by decide) rfl (Nat.le_of_ble_eq_true rfl) ?_
  intro p e s m below meth c ls S hr hlocks hname hB hl
  obtain ⟨hsz, hP, hK, hD0⟩ := hB
  subst hsz
  have hD := hD0.self (sz := s.heap.size)
  have hA : ∀ q : Nat, s.heap.size ≤ q → va_A (mW E a τ) s.heap.size q := fun q h => Or.inr h
  have hS : va_S (va_A (mW E a τ) s.heap.size) s.heap s.heap [] := va_S.rf
  obtain ⟨hx, hb, hml, hown, hts⟩ := id S
  have hts0 := hinX1_ofPlace
  have hl : lv_has ls 3 [(0, .ref (a 0)), (1, .int pp), (2, .ref (a 7))] := hl
  refine lv_aload_n hx hb dX1_ofPlace_0 rfl (lv_at hl 0 rfl) ?_
  refine lv_iconst (v := 0) hx hb dX1_ofPlace_1 (by decide) ?_
  refine va_put (D := E.1) (ci := 1) (v := .int 0) (ty := .int) (C := RX1) (T := TX1) (N := 13) hx hb hts hts0 tyX1 tyX1_ok nmX1 hown hK hP hD hS 0 rfl rfl 0 (by decide) (hts (.fieldLink RX1 42 "ExamGardenModel" "thrown" "I") (by decide +kernel)) (fun _ h9 => h9) rfl (by decide +kernel) rfl rfl (Nat.le_of_ble_eq_true rfl) dX1_ofPlace_2 (fun H locs hP hD hS => ?_)
  have hP : gP E (mW E a (0, mn τ, mk τ, mf τ, mo τ, mh τ, md τ, mr τ, mu τ, mv τ, ms τ, mp τ, mw τ)) H := hP
  have hD : va_D (va_A (mW E a τ) s.heap.size) (mW E a (0, mn τ, mk τ, mf τ, mo τ, mh τ, md τ, mr τ, mu τ, mv τ, ms τ, mp τ, mw τ)) := hD
  refine lv_aload_n hx hb dX1_ofPlace_5 rfl (lv_at hl 0 rfl) ?_
  refine m0wv (As := []) (rest := []) (τ' := mTab (0, mn τ, mk τ, mf τ, mo τ, mh τ, md τ, mr τ, mu τ, mv τ, ms τ, mp τ, mw τ)) S (m_table l E a (0, mn τ, mk τ, mf τ, mo τ, mh τ, md τ, mr τ, mu τ, mv τ, ms τ, mp τ, mw τ) _ hO) (cwV 0 hts gX1_ofPlace_X1_table rfl rfl rfl hdX1_table ⟨Nat.le_of_ble_eq_true rfl, Nat.le_of_ble_eq_true rfl⟩) hK hP hD hS hA rfl hl.1 rfl (Nat.le_of_ble_eq_true rfl) ⟨Nat.zero_le _, Nat.zero_le _⟩ dX1_ofPlace_6 (fun H locs hP hD hS => ?_)
  refine lv_aload_n hx hb dX1_ofPlace_9 rfl (lv_at hl 0 rfl) ?_
  refine lv_iload_n hx hb dX1_ofPlace_10 rfl (lv_at hl 1 rfl) ?_
  refine m0i (As := [.int pp]) (rest := []) S (m_isPlace l E a (mTab (0, mn τ, mk τ, mf τ, mo τ, mh τ, md τ, mr τ, mu τ, mv τ, ms τ, mp τ, mw τ)) pp) (cwV 1 hts gX1_ofPlace_X1_isPlace rfl rfl rfl hdX1_isPlace ⟨Nat.le_of_ble_eq_true rfl, Nat.le_of_ble_eq_true rfl⟩) hK hP rfl hl.1 rfl (Nat.le_of_ble_eq_true rfl) ⟨Nat.zero_le _, Nat.zero_le _⟩ dX1_ofPlace_11 ?_
  refine lv_if_eq (tgt := 23) hx hb dX1_ofPlace_14 (by decide) (fun _ => ?_) (fun q => absurd ((b2i_eq0.mpr hp)) q)
  refine lv_aload_n hx hb dX1_ofPlace_23 rfl (lv_at hl 0 rfl) ?_
  refine lv_iconst (v := 1) hx hb dX1_ofPlace_24 (by decide) ?_
  refine m0wi (As := [.int 1]) (rest := []) (τ' := mThr (mTab (0, mn τ, mk τ, mf τ, mo τ, mh τ, md τ, mr τ, mu τ, mv τ, ms τ, mp τ, mw τ)) 1) S (m_no l E a (mTab (0, mn τ, mk τ, mf τ, mo τ, mh τ, md τ, mr τ, mu τ, mv τ, ms τ, mp τ, mw τ)) _ 1) (cwV 1 hts gX1_ofPlace_X1_no rfl rfl rfl hdX1_no ⟨Nat.le_of_ble_eq_true rfl, Nat.le_of_ble_eq_true rfl⟩) hK hP hD hS hA rfl hl.1 rfl (Nat.le_of_ble_eq_true rfl) ⟨Nat.zero_le _, Nat.zero_le _⟩ dX1_ofPlace_25 (fun H locs hP hD hS => ?_)
  exact W.iret hx hb hr (fun t ht hW => ⟨⟨_, (), rfl, rfl, by show gP E _ t.heap; rw [ht]; exact hP⟩, hS.F ht⟩) hS.2.2 dX1_ofPlace_28
theorem hinX1_hope : ∀ w ∈ wsX10, w ∈ wsX1_hope := fun w h => List.mem_cons_of_mem _ (List.mem_append_right _ h)
theorem hdX1_hope : yX1_hope.cls = RX1 ∧ yX1_hope.cls ≠ "java/lang/invoke/MethodHandle" ∧ yX1_hope.cls ≠ "java/lang/invoke/VarHandle" ∧ (parseMethodDescriptor yX1_hope.desc).map (fun d => d.parameters.length) = some 1 := by decide +kernel
set_option maxHeartbeats 4000000 in
set_option maxRecDepth 100000 in
theorem m_hope (l : Launch) (E : GE) (a : Nat → Nat) (τ : MS) (sz : Nat) (hO : MOK τ) (hn : mn τ ≤ 40) (k : Nat) (hk : k < mn τ) (hp : mIsP τ (nI k) = true) : Met l yX1_hope wsX1_hope { frames := 3, cells := 0, slots := 0, locals := 65 } (va_Pc [.ref (a 0), .int (nI k)] (gBw E sz (mW E a τ))) (gQi E (mv (mTab (mThr τ 0)) k) (mW E a τ) (mW E a (mTab (mThr τ 0))) sz) 0 0 (va_A (mW E a τ) sz) := by
  refine w_met (cc := cX1_hope) (maxL := 2) (ret := (some .int)) (by decide) rfl (Nat.le_of_ble_eq_true rfl) ?_
  intro p e s m below meth c ls S hr hlocks hname hB hl
  obtain ⟨hsz, hP, hK, hD0⟩ := hB
  subst hsz
  have hD := hD0.self (sz := s.heap.size)
  have hA : ∀ q : Nat, s.heap.size ≤ q → va_A (mW E a τ) s.heap.size q := fun q h => Or.inr h
  have hS : va_S (va_A (mW E a τ) s.heap.size) s.heap s.heap [] := va_S.rf
  obtain ⟨hx, hb, hml, hown, hts⟩ := id S
  have hts0 := hinX1_hope
  have hl : lv_has ls 2 [(0, .ref (a 0)), (1, .int (nI k))] := hl
  refine lv_aload_n hx hb dX1_hope_0 rfl (lv_at hl 0 rfl) ?_
  refine lv_iload_n hx hb dX1_hope_1 rfl (lv_at hl 1 rfl) ?_
  refine lv_aload_n hx hb dX1_hope_2 rfl (lv_at hl 0 rfl) ?_
  refine m_get (τ := τ) hx hb hts hts0 hown hK hP 9 (by decide) (by decide +kernel) rfl rfl dX1_hope_3 ?_
  refine m0wi (As := [.int (nI k), .ref (a 7)]) (rest := []) (τ' := mTab (mThr τ 0)) S (m_ofPlace_a7 l E a τ _ hO hn k hk hp) (cwV 2 hts gX1_hope_X1_ofPlace rfl rfl rfl hdX1_ofPlace ⟨Nat.le_of_ble_eq_true rfl, Nat.le_of_ble_eq_true rfl⟩) hK hP hD hS hA rfl hl.1 rfl (Nat.le_of_ble_eq_true rfl) ⟨Nat.zero_le _, Nat.zero_le _⟩ dX1_hope_6 (fun H locs hP hD hS => ?_)
  exact W.iret hx hb hr (fun t ht hW => ⟨⟨_, (), rfl, rfl, by show gP E _ t.heap; rw [ht]; exact hP⟩, hS.F ht⟩) hS.2.2 dX1_hope_9
set_option maxHeartbeats 4000000 in
set_option maxRecDepth 100000 in
theorem m_hope_b (l : Launch) (E : GE) (a : Nat → Nat) (τ : MS) (sz : Nat) (hO : MOK τ) (pp : Int32) (hp : mIsP τ pp = false) : Met l yX1_hope wsX1_hope { frames := 3, cells := 0, slots := 0, locals := 65 } (va_Pc [.ref (a 0), .int pp] (gBw E sz (mW E a τ))) (gQi E (0) (mW E a τ) (mW E a (mThr (mTab (mThr τ 0)) 1)) sz) 0 0 (va_A (mW E a τ) sz) := by
  refine w_met (cc := cX1_hope) (maxL := 2) (ret := (some .int)) (by decide) rfl (Nat.le_of_ble_eq_true rfl) ?_
  intro p e s m below meth c ls S hr hlocks hname hB hl
  obtain ⟨hsz, hP, hK, hD0⟩ := hB
  subst hsz
  have hD := hD0.self (sz := s.heap.size)
  have hA : ∀ q : Nat, s.heap.size ≤ q → va_A (mW E a τ) s.heap.size q := fun q h => Or.inr h
  have hS : va_S (va_A (mW E a τ) s.heap.size) s.heap s.heap [] := va_S.rf
  obtain ⟨hx, hb, hml, hown, hts⟩ := id S
  have hts0 := hinX1_hope
  have hl : lv_has ls 2 [(0, .ref (a 0)), (1, .int pp)] := hl
  refine lv_aload_n hx hb dX1_hope_0 rfl (lv_at hl 0 rfl) ?_
  refine lv_iload_n hx hb dX1_hope_1 rfl (lv_at hl 1 rfl) ?_
  refine lv_aload_n hx hb dX1_hope_2 rfl (lv_at hl 0 rfl) ?_
  refine m_get (τ := τ) hx hb hts hts0 hown hK hP 9 (by decide) (by decide +kernel) rfl rfl dX1_hope_3 ?_
  refine m0wi (As := [.int pp, .ref (a 7)]) (rest := []) (τ' := mThr (mTab (mThr τ 0)) 1) S (m_ofPlace_a7_b l E a τ _ hO pp hp) (cwV 2 hts gX1_hope_X1_ofPlace rfl rfl rfl hdX1_ofPlace ⟨Nat.le_of_ble_eq_true rfl, Nat.le_of_ble_eq_true rfl⟩) hK hP hD hS hA rfl hl.1 rfl (Nat.le_of_ble_eq_true rfl) ⟨Nat.zero_le _, Nat.zero_le _⟩ dX1_hope_6 (fun H locs hP hD hS => ?_)
  exact W.iret hx hb hr (fun t ht hW => ⟨⟨_, (), rfl, rfl, by show gP E _ t.heap; rw [ht]; exact hP⟩, hS.F ht⟩) hS.2.2 dX1_hope_9
theorem hinX1_reaches : ∀ w ∈ wsX10, w ∈ wsX1_reaches := fun w h => List.mem_cons_of_mem _ (List.mem_append_right _ h)
theorem hdX1_reaches : yX1_reaches.cls = RX1 ∧ yX1_reaches.cls ≠ "java/lang/invoke/MethodHandle" ∧ yX1_reaches.cls ≠ "java/lang/invoke/VarHandle" ∧ (parseMethodDescriptor yX1_reaches.desc).map (fun d => d.parameters.length) = some 2 := by decide +kernel
set_option maxHeartbeats 4000000 in
set_option maxRecDepth 100000 in
theorem m_reaches (l : Launch) (E : GE) (a : Nat → Nat) (τ : MS) (sz : Nat) (hn : mn τ ≤ 40) (k : Nat) (hk : k < mn τ) (hp : mIsP τ (nI k) = true) (k2 : Nat) (hk2 : k2 < mn τ) (hp2 : mIsP τ (nI k2) = true) : Met l yX1_reaches wsX1_reaches { frames := 2, cells := 0, slots := 0, locals := 43 } (va_Pc [.ref (a 0), .int (nI k), .int (nI k2)] (gBw E sz (mW E a τ))) (gQi E (b2i (bitL (mr τ k) k2)) (mW E a τ) (mW E a (mThr τ 0)) sz) 0 0 (va_A (mW E a τ) sz) := by
  refine w_met (cc := cX1_reaches) (maxL := 3) (ret := (some .boolean)) (by decide) rfl (Nat.le_of_ble_eq_true rfl) ?_
  intro p e s m below meth c ls S hr hlocks hname hB hl
  obtain ⟨hsz, hP, hK, hD0⟩ := hB
  subst hsz
  have hD := hD0.self (sz := s.heap.size)
  have hA : ∀ q : Nat, s.heap.size ≤ q → va_A (mW E a τ) s.heap.size q := fun q h => Or.inr h
  have hS : va_S (va_A (mW E a τ) s.heap.size) s.heap s.heap [] := va_S.rf
  obtain ⟨hx, hb, hml, hown, hts⟩ := id S
  have hts0 := hinX1_reaches
  have hl : lv_has ls 3 [(0, .ref (a 0)), (1, .int (nI k)), (2, .int (nI k2))] := hl
  refine lv_aload_n hx hb dX1_reaches_0 rfl (lv_at hl 0 rfl) ?_
  refine lv_iconst (v := 0) hx hb dX1_reaches_1 (by decide) ?_
  refine va_put (D := E.1) (ci := 1) (v := .int 0) (ty := .int) (C := RX1) (T := TX1) (N := 13) hx hb hts hts0 tyX1 tyX1_ok nmX1 hown hK hP hD hS 0 rfl rfl 0 (by decide) (hts (.fieldLink RX1 42 "ExamGardenModel" "thrown" "I") (by decide +kernel)) (fun _ h9 => h9) rfl (by decide +kernel) rfl rfl (Nat.le_of_ble_eq_true rfl) dX1_reaches_2 (fun H locs hP hD hS => ?_)
  have hP : gP E (mW E a (0, mn τ, mk τ, mf τ, mo τ, mh τ, md τ, mr τ, mu τ, mv τ, ms τ, mp τ, mw τ)) H := hP
  have hD : va_D (va_A (mW E a τ) s.heap.size) (mW E a (0, mn τ, mk τ, mf τ, mo τ, mh τ, md τ, mr τ, mu τ, mv τ, ms τ, mp τ, mw τ)) := hD
  refine lv_aload_n hx hb dX1_reaches_5 rfl (lv_at hl 0 rfl) ?_
  refine lv_iload_n hx hb dX1_reaches_6 rfl (lv_at hl 1 rfl) ?_
  refine m0i (As := [.int (nI k)]) (rest := []) S (m_isPlace l E a (0, mn τ, mk τ, mf τ, mo τ, mh τ, md τ, mr τ, mu τ, mv τ, ms τ, mp τ, mw τ) (nI k)) (cwV 1 hts gX1_reaches_X1_isPlace rfl rfl rfl hdX1_isPlace ⟨Nat.le_of_ble_eq_true rfl, Nat.le_of_ble_eq_true rfl⟩) hK hP rfl hl.1 rfl (Nat.le_of_ble_eq_true rfl) ⟨Nat.zero_le _, Nat.zero_le _⟩ dX1_reaches_7 ?_
  refine lv_if_eq (tgt := 30) hx hb dX1_reaches_10 (by decide) (fun q => absurd q ((b2i_ne0.mpr hp))) (fun _ => ?_)
  refine lv_aload_n hx hb dX1_reaches_13 rfl (lv_at hl 0 rfl) ?_
  refine lv_iload_n hx hb dX1_reaches_14 rfl (lv_at hl 2 rfl) ?_
  refine m0i (As := [.int (nI k2)]) (rest := []) S (m_isPlace l E a (0, mn τ, mk τ, mf τ, mo τ, mh τ, md τ, mr τ, mu τ, mv τ, ms τ, mp τ, mw τ) (nI k2)) (cwV 1 hts gX1_reaches_X1_isPlace rfl rfl rfl hdX1_isPlace ⟨Nat.le_of_ble_eq_true rfl, Nat.le_of_ble_eq_true rfl⟩) hK hP rfl hl.1 rfl (Nat.le_of_ble_eq_true rfl) ⟨Nat.zero_le _, Nat.zero_le _⟩ dX1_reaches_15 ?_
  refine lv_if_eq (tgt := 30) hx hb dX1_reaches_18 (by decide) (fun q => absurd q ((b2i_ne0.mpr hp2))) (fun _ => ?_)
  refine lv_aload_n hx hb dX1_reaches_21 rfl (lv_at hl 0 rfl) ?_
  refine lv_iload_n hx hb dX1_reaches_22 rfl (lv_at hl 1 rfl) ?_
  refine lv_iload_n hx hb dX1_reaches_23 rfl (lv_at hl 2 rfl) ?_
  refine m0i (As := [.int (nI k), .int (nI k2)]) (rest := []) S (m_has l E a (0, mn τ, mk τ, mf τ, mo τ, mh τ, md τ, mr τ, mu τ, mv τ, ms τ, mp τ, mw τ) k k2 (by omega) (by omega)) (cwV 2 hts gX1_reaches_X1_has rfl rfl rfl hdX1_has ⟨Nat.le_of_ble_eq_true rfl, Nat.le_of_ble_eq_true rfl⟩) hK hP rfl hl.1 rfl (Nat.le_of_ble_eq_true rfl) ⟨Nat.zero_le _, Nat.zero_le _⟩ dX1_reaches_24 ?_
  refine lv_goto (tgt := 35) hx hb dX1_reaches_27 (by decide) ?_
  exact W.zret hx hb hr (b2i_nar _) (fun t ht hW => ⟨⟨_, (), rfl, rfl, by show gP E _ t.heap; rw [ht]; exact hP⟩, hS.F ht⟩) hS.2.2 dX1_reaches_35
set_option maxHeartbeats 4000000 in
set_option maxRecDepth 100000 in
theorem m_reaches_b (l : Launch) (E : GE) (a : Nat → Nat) (τ : MS) (sz : Nat) (pp : Int32) (hp : mIsP τ pp = false) (qq : Int32) : Met l yX1_reaches wsX1_reaches { frames := 2, cells := 0, slots := 0, locals := 43 } (va_Pc [.ref (a 0), .int pp, .int qq] (gBw E sz (mW E a τ))) (gQi E (0) (mW E a τ) (mW E a (mThr τ 1)) sz) 0 0 (va_A (mW E a τ) sz) := by
  refine w_met (cc := cX1_reaches) (maxL := 3) (ret := (some .boolean)) (by decide) rfl (Nat.le_of_ble_eq_true rfl) ?_
  intro p e s m below meth c ls S hr hlocks hname hB hl
  obtain ⟨hsz, hP, hK, hD0⟩ := hB
  subst hsz
  have hD := hD0.self (sz := s.heap.size)
  have hA : ∀ q : Nat, s.heap.size ≤ q → va_A (mW E a τ) s.heap.size q := fun q h => Or.inr h
  have hS : va_S (va_A (mW E a τ) s.heap.size) s.heap s.heap [] := va_S.rf
  obtain ⟨hx, hb, hml, hown, hts⟩ := id S
  have hts0 := hinX1_reaches
  have hl : lv_has ls 3 [(0, .ref (a 0)), (1, .int pp), (2, .int qq)] := hl
  refine lv_aload_n hx hb dX1_reaches_0 rfl (lv_at hl 0 rfl) ?_
  refine lv_iconst (v := 0) hx hb dX1_reaches_1 (by decide) ?_
  refine va_put (D := E.1) (ci := 1) (v := .int 0) (ty := .int) (C := RX1) (T := TX1) (N := 13) hx hb hts hts0 tyX1 tyX1_ok nmX1 hown hK hP hD hS 0 rfl rfl 0 (by decide) (hts (.fieldLink RX1 42 "ExamGardenModel" "thrown" "I") (by decide +kernel)) (fun _ h9 => h9) rfl (by decide +kernel) rfl rfl (Nat.le_of_ble_eq_true rfl) dX1_reaches_2 (fun H locs hP hD hS => ?_)
  have hP : gP E (mW E a (0, mn τ, mk τ, mf τ, mo τ, mh τ, md τ, mr τ, mu τ, mv τ, ms τ, mp τ, mw τ)) H := hP
  have hD : va_D (va_A (mW E a τ) s.heap.size) (mW E a (0, mn τ, mk τ, mf τ, mo τ, mh τ, md τ, mr τ, mu τ, mv τ, ms τ, mp τ, mw τ)) := hD
  refine lv_aload_n hx hb dX1_reaches_5 rfl (lv_at hl 0 rfl) ?_
  refine lv_iload_n hx hb dX1_reaches_6 rfl (lv_at hl 1 rfl) ?_
  refine m0i (As := [.int pp]) (rest := []) S (m_isPlace l E a (0, mn τ, mk τ, mf τ, mo τ, mh τ, md τ, mr τ, mu τ, mv τ, ms τ, mp τ, mw τ) pp) (cwV 1 hts gX1_reaches_X1_isPlace rfl rfl rfl hdX1_isPlace ⟨Nat.le_of_ble_eq_true rfl, Nat.le_of_ble_eq_true rfl⟩) hK hP rfl hl.1 rfl (Nat.le_of_ble_eq_true rfl) ⟨Nat.zero_le _, Nat.zero_le _⟩ dX1_reaches_7 ?_
  refine lv_if_eq (tgt := 30) hx hb dX1_reaches_10 (by decide) (fun _ => ?_) (fun q => absurd ((b2i_eq0.mpr hp)) q)
  refine lv_aload_n hx hb dX1_reaches_30 rfl (lv_at hl 0 rfl) ?_
  refine lv_iconst (v := 1) hx hb dX1_reaches_31 (by decide) ?_
  refine m0wi (As := [.int 1]) (rest := []) (τ' := mThr (0, mn τ, mk τ, mf τ, mo τ, mh τ, md τ, mr τ, mu τ, mv τ, ms τ, mp τ, mw τ) 1) S (m_isNot l E a (0, mn τ, mk τ, mf τ, mo τ, mh τ, md τ, mr τ, mu τ, mv τ, ms τ, mp τ, mw τ) _ 1) (cwV 1 hts gX1_reaches_X1_isNot rfl rfl rfl hdX1_isNot ⟨Nat.le_of_ble_eq_true rfl, Nat.le_of_ble_eq_true rfl⟩) hK hP hD hS hA rfl hl.1 rfl (Nat.le_of_ble_eq_true rfl) ⟨Nat.zero_le _, Nat.zero_le _⟩ dX1_reaches_32 (fun H locs hP hD hS => ?_)
  exact W.zret hx hb hr rfl (fun t ht hW => ⟨⟨_, (), rfl, rfl, by show gP E _ t.heap; rw [ht]; exact hP⟩, hS.F ht⟩) hS.2.2 dX1_reaches_35
set_option maxHeartbeats 4000000 in
set_option maxRecDepth 100000 in
theorem m_reaches_c (l : Launch) (E : GE) (a : Nat → Nat) (τ : MS) (sz : Nat) (hn : mn τ ≤ 40) (k : Nat) (hk : k < mn τ) (hp : mIsP τ (nI k) = true) (qq : Int32) (hq : mIsP τ qq = false) : Met l yX1_reaches wsX1_reaches { frames := 2, cells := 0, slots := 0, locals := 43 } (va_Pc [.ref (a 0), .int (nI k), .int qq] (gBw E sz (mW E a τ))) (gQi E (0) (mW E a τ) (mW E a (mThr τ 1)) sz) 0 0 (va_A (mW E a τ) sz) := by
  refine w_met (cc := cX1_reaches) (maxL := 3) (ret := (some .boolean)) (by decide) rfl (Nat.le_of_ble_eq_true rfl) ?_
  intro p e s m below meth c ls S hr hlocks hname hB hl
  obtain ⟨hsz, hP, hK, hD0⟩ := hB
  subst hsz
  have hD := hD0.self (sz := s.heap.size)
  have hA : ∀ q : Nat, s.heap.size ≤ q → va_A (mW E a τ) s.heap.size q := fun q h => Or.inr h
  have hS : va_S (va_A (mW E a τ) s.heap.size) s.heap s.heap [] := va_S.rf
  obtain ⟨hx, hb, hml, hown, hts⟩ := id S
  have hts0 := hinX1_reaches
  have hl : lv_has ls 3 [(0, .ref (a 0)), (1, .int (nI k)), (2, .int qq)] := hl
  refine lv_aload_n hx hb dX1_reaches_0 rfl (lv_at hl 0 rfl) ?_
  refine lv_iconst (v := 0) hx hb dX1_reaches_1 (by decide) ?_
  refine va_put (D := E.1) (ci := 1) (v := .int 0) (ty := .int) (C := RX1) (T := TX1) (N := 13) hx hb hts hts0 tyX1 tyX1_ok nmX1 hown hK hP hD hS 0 rfl rfl 0 (by decide) (hts (.fieldLink RX1 42 "ExamGardenModel" "thrown" "I") (by decide +kernel)) (fun _ h9 => h9) rfl (by decide +kernel) rfl rfl (Nat.le_of_ble_eq_true rfl) dX1_reaches_2 (fun H locs hP hD hS => ?_)
  have hP : gP E (mW E a (0, mn τ, mk τ, mf τ, mo τ, mh τ, md τ, mr τ, mu τ, mv τ, ms τ, mp τ, mw τ)) H := hP
  have hD : va_D (va_A (mW E a τ) s.heap.size) (mW E a (0, mn τ, mk τ, mf τ, mo τ, mh τ, md τ, mr τ, mu τ, mv τ, ms τ, mp τ, mw τ)) := hD
  refine lv_aload_n hx hb dX1_reaches_5 rfl (lv_at hl 0 rfl) ?_
  refine lv_iload_n hx hb dX1_reaches_6 rfl (lv_at hl 1 rfl) ?_
  refine m0i (As := [.int (nI k)]) (rest := []) S (m_isPlace l E a (0, mn τ, mk τ, mf τ, mo τ, mh τ, md τ, mr τ, mu τ, mv τ, ms τ, mp τ, mw τ) (nI k)) (cwV 1 hts gX1_reaches_X1_isPlace rfl rfl rfl hdX1_isPlace ⟨Nat.le_of_ble_eq_true rfl, Nat.le_of_ble_eq_true rfl⟩) hK hP rfl hl.1 rfl (Nat.le_of_ble_eq_true rfl) ⟨Nat.zero_le _, Nat.zero_le _⟩ dX1_reaches_7 ?_
  refine lv_if_eq (tgt := 30) hx hb dX1_reaches_10 (by decide) (fun q => absurd q ((b2i_ne0.mpr hp))) (fun _ => ?_)
  refine lv_aload_n hx hb dX1_reaches_13 rfl (lv_at hl 0 rfl) ?_
  refine lv_iload_n hx hb dX1_reaches_14 rfl (lv_at hl 2 rfl) ?_
  refine m0i (As := [.int qq]) (rest := []) S (m_isPlace l E a (0, mn τ, mk τ, mf τ, mo τ, mh τ, md τ, mr τ, mu τ, mv τ, ms τ, mp τ, mw τ) qq) (cwV 1 hts gX1_reaches_X1_isPlace rfl rfl rfl hdX1_isPlace ⟨Nat.le_of_ble_eq_true rfl, Nat.le_of_ble_eq_true rfl⟩) hK hP rfl hl.1 rfl (Nat.le_of_ble_eq_true rfl) ⟨Nat.zero_le _, Nat.zero_le _⟩ dX1_reaches_15 ?_
  refine lv_if_eq (tgt := 30) hx hb dX1_reaches_18 (by decide) (fun _ => ?_) (fun q => absurd ((b2i_eq0.mpr hq)) q)
  refine lv_aload_n hx hb dX1_reaches_30 rfl (lv_at hl 0 rfl) ?_
  refine lv_iconst (v := 1) hx hb dX1_reaches_31 (by decide) ?_
  refine m0wi (As := [.int 1]) (rest := []) (τ' := mThr (0, mn τ, mk τ, mf τ, mo τ, mh τ, md τ, mr τ, mu τ, mv τ, ms τ, mp τ, mw τ) 1) S (m_isNot l E a (0, mn τ, mk τ, mf τ, mo τ, mh τ, md τ, mr τ, mu τ, mv τ, ms τ, mp τ, mw τ) _ 1) (cwV 1 hts gX1_reaches_X1_isNot rfl rfl rfl hdX1_isNot ⟨Nat.le_of_ble_eq_true rfl, Nat.le_of_ble_eq_true rfl⟩) hK hP hD hS hA rfl hl.1 rfl (Nat.le_of_ble_eq_true rfl) ⟨Nat.zero_le _, Nat.zero_le _⟩ dX1_reaches_32 (fun H locs hP hD hS => ?_)
  exact W.zret hx hb hr rfl (fun t ht hW => ⟨⟨_, (), rfl, rfl, by show gP E _ t.heap; rw [ht]; exact hP⟩, hS.F ht⟩) hS.2.2 dX1_reaches_35
theorem hinX1_examsFrom : ∀ w ∈ wsX10, w ∈ wsX1_examsFrom := fun w h => List.mem_cons_of_mem _ (List.mem_append_right _ h)
theorem hdX1_examsFrom : yX1_examsFrom.cls = RX1 ∧ yX1_examsFrom.cls ≠ "java/lang/invoke/MethodHandle" ∧ yX1_examsFrom.cls ≠ "java/lang/invoke/VarHandle" ∧ (parseMethodDescriptor yX1_examsFrom.desc).map (fun d => d.parameters.length) = some 1 := by decide +kernel
set_option maxHeartbeats 4000000 in
set_option maxRecDepth 100000 in
theorem m_examsFrom (l : Launch) (E : GE) (a : Nat → Nat) (τ : MS) (sz : Nat) (hO : MOK τ) (hn : mn τ ≤ 40) (k : Nat) (hk : k < mn τ) (hp : mIsP τ (nI k) = true) : Met l yX1_examsFrom wsX1_examsFrom { frames := 2, cells := 0, slots := 0, locals := 45 } (va_Pc [.ref (a 0), .int (nI k)] (gBw E sz (mW E a τ))) (gQi E (mEf τ k) (mW E a τ) (mW E a (mThr τ 0)) sz) 0 0 (va_A (mW E a τ) sz) := by
  refine w_met (cc := cX1_examsFrom) (maxL := 2) (ret := (some .int)) (by decide) rfl (Nat.le_of_ble_eq_true rfl) ?_
  intro p e s m below meth c ls S hr hlocks hname hB hl
  obtain ⟨hsz, hP, hK, hD0⟩ := hB
  subst hsz
  have hD := hD0.self (sz := s.heap.size)
  have hA : ∀ q : Nat, s.heap.size ≤ q → va_A (mW E a τ) s.heap.size q := fun q h => Or.inr h
  have hS : va_S (va_A (mW E a τ) s.heap.size) s.heap s.heap [] := va_S.rf
  obtain ⟨hx, hb, hml, hown, hts⟩ := id S
  have hts0 := hinX1_examsFrom
  have hl : lv_has ls 2 [(0, .ref (a 0)), (1, .int (nI k))] := hl
  refine lv_aload_n hx hb dX1_examsFrom_0 rfl (lv_at hl 0 rfl) ?_
  refine lv_iconst (v := 0) hx hb dX1_examsFrom_1 (by decide) ?_
  refine va_put (D := E.1) (ci := 1) (v := .int 0) (ty := .int) (C := RX1) (T := TX1) (N := 13) hx hb hts hts0 tyX1 tyX1_ok nmX1 hown hK hP hD hS 0 rfl rfl 0 (by decide) (hts (.fieldLink RX1 42 "ExamGardenModel" "thrown" "I") (by decide +kernel)) (fun _ h9 => h9) rfl (by decide +kernel) rfl rfl (Nat.le_of_ble_eq_true rfl) dX1_examsFrom_2 (fun H locs hP hD hS => ?_)
  have hP : gP E (mW E a (0, mn τ, mk τ, mf τ, mo τ, mh τ, md τ, mr τ, mu τ, mv τ, ms τ, mp τ, mw τ)) H := hP
  have hD : va_D (va_A (mW E a τ) s.heap.size) (mW E a (0, mn τ, mk τ, mf τ, mo τ, mh τ, md τ, mr τ, mu τ, mv τ, ms τ, mp τ, mw τ)) := hD
  refine lv_aload_n hx hb dX1_examsFrom_5 rfl (lv_at hl 0 rfl) ?_
  refine lv_iload_n hx hb dX1_examsFrom_6 rfl (lv_at hl 1 rfl) ?_
  refine m0i (As := [.int (nI k)]) (rest := []) S (m_isPlace l E a (0, mn τ, mk τ, mf τ, mo τ, mh τ, md τ, mr τ, mu τ, mv τ, ms τ, mp τ, mw τ) (nI k)) (cwV 1 hts gX1_examsFrom_X1_isPlace rfl rfl rfl hdX1_isPlace ⟨Nat.le_of_ble_eq_true rfl, Nat.le_of_ble_eq_true rfl⟩) hK hP rfl hl.1 rfl (Nat.le_of_ble_eq_true rfl) ⟨Nat.zero_le _, Nat.zero_le _⟩ dX1_examsFrom_7 ?_
  refine lv_if_eq (tgt := 21) hx hb dX1_examsFrom_10 (by decide) (fun q => absurd q ((b2i_ne0.mpr hp))) (fun _ => ?_)
  refine lv_aload_n hx hb dX1_examsFrom_13 rfl (lv_at hl 0 rfl) ?_
  refine lv_iload_n hx hb dX1_examsFrom_14 rfl (lv_at hl 1 rfl) ?_
  refine m0i (As := [.int (nI k)]) (rest := []) S (m_examsOf l E a (0, mn τ, mk τ, mf τ, mo τ, mh τ, md τ, mr τ, mu τ, mv τ, ms τ, mp τ, mw τ) hO k (by omega)) (cwV 1 hts gX1_examsFrom_X1_examsOf rfl rfl rfl hdX1_examsOf ⟨Nat.le_of_ble_eq_true rfl, Nat.le_of_ble_eq_true rfl⟩) hK hP rfl hl.1 rfl (Nat.le_of_ble_eq_true rfl) ⟨Nat.zero_le _, Nat.zero_le _⟩ dX1_examsFrom_15 ?_
  refine lv_goto (tgt := 26) hx hb dX1_examsFrom_18 (by decide) ?_
  exact W.iret hx hb hr (fun t ht hW => ⟨⟨_, (), rfl, rfl, by show gP E _ t.heap; rw [ht]; exact hP⟩, hS.F ht⟩) hS.2.2 dX1_examsFrom_26
set_option maxHeartbeats 4000000 in
set_option maxRecDepth 100000 in
theorem m_examsFrom_b (l : Launch) (E : GE) (a : Nat → Nat) (τ : MS) (sz : Nat) (pp : Int32) (hp : mIsP τ pp = false) : Met l yX1_examsFrom wsX1_examsFrom { frames := 2, cells := 0, slots := 0, locals := 45 } (va_Pc [.ref (a 0), .int pp] (gBw E sz (mW E a τ))) (gQi E (0) (mW E a τ) (mW E a (mThr τ 1)) sz) 0 0 (va_A (mW E a τ) sz) := by
  refine w_met (cc := cX1_examsFrom) (maxL := 2) (ret := (some .int)) (by decide) rfl (Nat.le_of_ble_eq_true rfl) ?_
  intro p e s m below meth c ls S hr hlocks hname hB hl
  obtain ⟨hsz, hP, hK, hD0⟩ := hB
  subst hsz
  have hD := hD0.self (sz := s.heap.size)
  have hA : ∀ q : Nat, s.heap.size ≤ q → va_A (mW E a τ) s.heap.size q := fun q h => Or.inr h
  have hS : va_S (va_A (mW E a τ) s.heap.size) s.heap s.heap [] := va_S.rf
  obtain ⟨hx, hb, hml, hown, hts⟩ := id S
  have hts0 := hinX1_examsFrom
  have hl : lv_has ls 2 [(0, .ref (a 0)), (1, .int pp)] := hl
  refine lv_aload_n hx hb dX1_examsFrom_0 rfl (lv_at hl 0 rfl) ?_
  refine lv_iconst (v := 0) hx hb dX1_examsFrom_1 (by decide) ?_
  refine va_put (D := E.1) (ci := 1) (v := .int 0) (ty := .int) (C := RX1) (T := TX1) (N := 13) hx hb hts hts0 tyX1 tyX1_ok nmX1 hown hK hP hD hS 0 rfl rfl 0 (by decide) (hts (.fieldLink RX1 42 "ExamGardenModel" "thrown" "I") (by decide +kernel)) (fun _ h9 => h9) rfl (by decide +kernel) rfl rfl (Nat.le_of_ble_eq_true rfl) dX1_examsFrom_2 (fun H locs hP hD hS => ?_)
  have hP : gP E (mW E a (0, mn τ, mk τ, mf τ, mo τ, mh τ, md τ, mr τ, mu τ, mv τ, ms τ, mp τ, mw τ)) H := hP
  have hD : va_D (va_A (mW E a τ) s.heap.size) (mW E a (0, mn τ, mk τ, mf τ, mo τ, mh τ, md τ, mr τ, mu τ, mv τ, ms τ, mp τ, mw τ)) := hD
  refine lv_aload_n hx hb dX1_examsFrom_5 rfl (lv_at hl 0 rfl) ?_
  refine lv_iload_n hx hb dX1_examsFrom_6 rfl (lv_at hl 1 rfl) ?_
  refine m0i (As := [.int pp]) (rest := []) S (m_isPlace l E a (0, mn τ, mk τ, mf τ, mo τ, mh τ, md τ, mr τ, mu τ, mv τ, ms τ, mp τ, mw τ) pp) (cwV 1 hts gX1_examsFrom_X1_isPlace rfl rfl rfl hdX1_isPlace ⟨Nat.le_of_ble_eq_true rfl, Nat.le_of_ble_eq_true rfl⟩) hK hP rfl hl.1 rfl (Nat.le_of_ble_eq_true rfl) ⟨Nat.zero_le _, Nat.zero_le _⟩ dX1_examsFrom_7 ?_
  refine lv_if_eq (tgt := 21) hx hb dX1_examsFrom_10 (by decide) (fun _ => ?_) (fun q => absurd ((b2i_eq0.mpr hp)) q)
  refine lv_aload_n hx hb dX1_examsFrom_21 rfl (lv_at hl 0 rfl) ?_
  refine lv_iconst (v := 1) hx hb dX1_examsFrom_22 (by decide) ?_
  refine m0wi (As := [.int 1]) (rest := []) (τ' := mThr (0, mn τ, mk τ, mf τ, mo τ, mh τ, md τ, mr τ, mu τ, mv τ, ms τ, mp τ, mw τ) 1) S (m_no l E a (0, mn τ, mk τ, mf τ, mo τ, mh τ, md τ, mr τ, mu τ, mv τ, ms τ, mp τ, mw τ) _ 1) (cwV 1 hts gX1_examsFrom_X1_no rfl rfl rfl hdX1_no ⟨Nat.le_of_ble_eq_true rfl, Nat.le_of_ble_eq_true rfl⟩) hK hP hD hS hA rfl hl.1 rfl (Nat.le_of_ble_eq_true rfl) ⟨Nat.zero_le _, Nat.zero_le _⟩ dX1_examsFrom_23 (fun H locs hP hD hS => ?_)
  exact W.iret hx hb hr (fun t ht hW => ⟨⟨_, (), rfl, rfl, by show gP E _ t.heap; rw [ht]; exact hP⟩, hS.F ht⟩) hS.2.2 dX1_examsFrom_26
theorem hinX1_hindsight : ∀ w ∈ wsX10, w ∈ wsX1_hindsight := fun w h => List.mem_cons_of_mem _ (List.mem_append_right _ h)
theorem hdX1_hindsight : yX1_hindsight.cls = RX1 ∧ yX1_hindsight.cls ≠ "java/lang/invoke/MethodHandle" ∧ yX1_hindsight.cls ≠ "java/lang/invoke/VarHandle" ∧ (parseMethodDescriptor yX1_hindsight.desc).map (fun d => d.parameters.length) = some 1 := by decide +kernel
set_option maxHeartbeats 4000000 in
set_option maxRecDepth 100000 in
theorem m_hindsight (l : Launch) (E : GE) (a : Nat → Nat) (τ : MS) (sz : Nat) (hO : MOK τ) (hn : mn τ ≤ 40) (k : Nat) (hk : k < mn τ) (hp : mIsP τ (nI k) = true) (hE : mf τ k = true) : Met l yX1_hindsight wsX1_hindsight { frames := 3, cells := 0, slots := 0, locals := 64 } (va_Pc [.ref (a 0), .int (nI k)] (gBw E sz (mW E a τ))) (gQi E (mBh τ k) (mW E a τ) (mW E a (mThr τ 0)) sz) 0 0 (va_A (mW E a τ) sz) := by
  refine w_met (cc := cX1_hindsight) (maxL := 2) (ret := (some .int)) (by decide) rfl (Nat.le_of_ble_eq_true rfl) ?_
  intro p e s m below meth c ls S hr hlocks hname hB hl
  obtain ⟨hsz, hP, hK, hD0⟩ := hB
  subst hsz
  have hD := hD0.self (sz := s.heap.size)
  have hA : ∀ q : Nat, s.heap.size ≤ q → va_A (mW E a τ) s.heap.size q := fun q h => Or.inr h
  have hS : va_S (va_A (mW E a τ) s.heap.size) s.heap s.heap [] := va_S.rf
  obtain ⟨hx, hb, hml, hown, hts⟩ := id S
  have hts0 := hinX1_hindsight
  have hl : lv_has ls 2 [(0, .ref (a 0)), (1, .int (nI k))] := hl
  refine lv_aload_n hx hb dX1_hindsight_0 rfl (lv_at hl 0 rfl) ?_
  refine lv_iconst (v := 0) hx hb dX1_hindsight_1 (by decide) ?_
  refine va_put (D := E.1) (ci := 1) (v := .int 0) (ty := .int) (C := RX1) (T := TX1) (N := 13) hx hb hts hts0 tyX1 tyX1_ok nmX1 hown hK hP hD hS 0 rfl rfl 0 (by decide) (hts (.fieldLink RX1 42 "ExamGardenModel" "thrown" "I") (by decide +kernel)) (fun _ h9 => h9) rfl (by decide +kernel) rfl rfl (Nat.le_of_ble_eq_true rfl) dX1_hindsight_2 (fun H locs hP hD hS => ?_)
  have hP : gP E (mW E a (0, mn τ, mk τ, mf τ, mo τ, mh τ, md τ, mr τ, mu τ, mv τ, ms τ, mp τ, mw τ)) H := hP
  have hD : va_D (va_A (mW E a τ) s.heap.size) (mW E a (0, mn τ, mk τ, mf τ, mo τ, mh τ, md τ, mr τ, mu τ, mv τ, ms τ, mp τ, mw τ)) := hD
  refine lv_aload_n hx hb dX1_hindsight_5 rfl (lv_at hl 0 rfl) ?_
  refine lv_iload_n hx hb dX1_hindsight_6 rfl (lv_at hl 1 rfl) ?_
  refine m0i (As := [.int (nI k)]) (rest := []) S (m_isForkAt l E a (0, mn τ, mk τ, mf τ, mo τ, mh τ, md τ, mr τ, mu τ, mv τ, ms τ, mp τ, mw τ) k (by omega) hp) (cwV 1 hts gX1_hindsight_X1_isForkAt rfl rfl rfl hdX1_isForkAt ⟨Nat.le_of_ble_eq_true rfl, Nat.le_of_ble_eq_true rfl⟩) hK hP rfl hl.1 rfl (Nat.le_of_ble_eq_true rfl) ⟨Nat.zero_le _, Nat.zero_le _⟩ dX1_hindsight_7 ?_
  refine lv_if_eq (tgt := 21) hx hb dX1_hindsight_10 (by decide) (fun q => absurd q ((b2i_ne0.mpr hE))) (fun _ => ?_)
  refine lv_aload_n hx hb dX1_hindsight_13 rfl (lv_at hl 0 rfl) ?_
  refine lv_iload_n hx hb dX1_hindsight_14 rfl (lv_at hl 1 rfl) ?_
  refine m0i (As := [.int (nI k)]) (rest := []) S (m_behind l E a (0, mn τ, mk τ, mf τ, mo τ, mh τ, md τ, mr τ, mu τ, mv τ, ms τ, mp τ, mw τ) hO k (by omega)) (cwV 1 hts gX1_hindsight_X1_behind rfl rfl rfl hdX1_behind ⟨Nat.le_of_ble_eq_true rfl, Nat.le_of_ble_eq_true rfl⟩) hK hP rfl hl.1 rfl (Nat.le_of_ble_eq_true rfl) ⟨Nat.zero_le _, Nat.zero_le _⟩ dX1_hindsight_15 ?_
  refine lv_goto (tgt := 26) hx hb dX1_hindsight_18 (by decide) ?_
  exact W.iret hx hb hr (fun t ht hW => ⟨⟨_, (), rfl, rfl, by show gP E _ t.heap; rw [ht]; exact hP⟩, hS.F ht⟩) hS.2.2 dX1_hindsight_26
set_option maxHeartbeats 4000000 in
set_option maxRecDepth 100000 in
theorem m_hindsight_b (l : Launch) (E : GE) (a : Nat → Nat) (τ : MS) (sz : Nat) (pp : Int32) (hp : mIsP τ pp = false) : Met l yX1_hindsight wsX1_hindsight { frames := 3, cells := 0, slots := 0, locals := 64 } (va_Pc [.ref (a 0), .int pp] (gBw E sz (mW E a τ))) (gQi E (0) (mW E a τ) (mW E a (mThr τ 1)) sz) 0 0 (va_A (mW E a τ) sz) := by
  refine w_met (cc := cX1_hindsight) (maxL := 2) (ret := (some .int)) (by decide) rfl (Nat.le_of_ble_eq_true rfl) ?_
  intro p e s m below meth c ls S hr hlocks hname hB hl
  obtain ⟨hsz, hP, hK, hD0⟩ := hB
  subst hsz
  have hD := hD0.self (sz := s.heap.size)
  have hA : ∀ q : Nat, s.heap.size ≤ q → va_A (mW E a τ) s.heap.size q := fun q h => Or.inr h
  have hS : va_S (va_A (mW E a τ) s.heap.size) s.heap s.heap [] := va_S.rf
  obtain ⟨hx, hb, hml, hown, hts⟩ := id S
  have hts0 := hinX1_hindsight
  have hl : lv_has ls 2 [(0, .ref (a 0)), (1, .int pp)] := hl
  refine lv_aload_n hx hb dX1_hindsight_0 rfl (lv_at hl 0 rfl) ?_
  refine lv_iconst (v := 0) hx hb dX1_hindsight_1 (by decide) ?_
  refine va_put (D := E.1) (ci := 1) (v := .int 0) (ty := .int) (C := RX1) (T := TX1) (N := 13) hx hb hts hts0 tyX1 tyX1_ok nmX1 hown hK hP hD hS 0 rfl rfl 0 (by decide) (hts (.fieldLink RX1 42 "ExamGardenModel" "thrown" "I") (by decide +kernel)) (fun _ h9 => h9) rfl (by decide +kernel) rfl rfl (Nat.le_of_ble_eq_true rfl) dX1_hindsight_2 (fun H locs hP hD hS => ?_)
  have hP : gP E (mW E a (0, mn τ, mk τ, mf τ, mo τ, mh τ, md τ, mr τ, mu τ, mv τ, ms τ, mp τ, mw τ)) H := hP
  have hD : va_D (va_A (mW E a τ) s.heap.size) (mW E a (0, mn τ, mk τ, mf τ, mo τ, mh τ, md τ, mr τ, mu τ, mv τ, ms τ, mp τ, mw τ)) := hD
  refine lv_aload_n hx hb dX1_hindsight_5 rfl (lv_at hl 0 rfl) ?_
  refine lv_iload_n hx hb dX1_hindsight_6 rfl (lv_at hl 1 rfl) ?_
  refine m0i (As := [.int pp]) (rest := []) S (m_isForkAt_b l E a (0, mn τ, mk τ, mf τ, mo τ, mh τ, md τ, mr τ, mu τ, mv τ, ms τ, mp τ, mw τ) pp hp) (cwV 1 hts gX1_hindsight_X1_isForkAt rfl rfl rfl hdX1_isForkAt ⟨Nat.le_of_ble_eq_true rfl, Nat.le_of_ble_eq_true rfl⟩) hK hP rfl hl.1 rfl (Nat.le_of_ble_eq_true rfl) ⟨Nat.zero_le _, Nat.zero_le _⟩ dX1_hindsight_7 ?_
  refine lv_if_eq (tgt := 21) hx hb dX1_hindsight_10 (by decide) (fun _ => ?_) (fun q => absurd rfl q)
  refine lv_aload_n hx hb dX1_hindsight_21 rfl (lv_at hl 0 rfl) ?_
  refine lv_iconst (v := 1) hx hb dX1_hindsight_22 (by decide) ?_
  refine m0wi (As := [.int 1]) (rest := []) (τ' := mThr (0, mn τ, mk τ, mf τ, mo τ, mh τ, md τ, mr τ, mu τ, mv τ, ms τ, mp τ, mw τ) 1) S (m_no l E a (0, mn τ, mk τ, mf τ, mo τ, mh τ, md τ, mr τ, mu τ, mv τ, ms τ, mp τ, mw τ) _ 1) (cwV 1 hts gX1_hindsight_X1_no rfl rfl rfl hdX1_no ⟨Nat.le_of_ble_eq_true rfl, Nat.le_of_ble_eq_true rfl⟩) hK hP hD hS hA rfl hl.1 rfl (Nat.le_of_ble_eq_true rfl) ⟨Nat.zero_le _, Nat.zero_le _⟩ dX1_hindsight_23 (fun H locs hP hD hS => ?_)
  exact W.iret hx hb hr (fun t ht hW => ⟨⟨_, (), rfl, rfl, by show gP E _ t.heap; rw [ht]; exact hP⟩, hS.F ht⟩) hS.2.2 dX1_hindsight_26
set_option maxHeartbeats 4000000 in
set_option maxRecDepth 100000 in
theorem m_hindsight_f (l : Launch) (E : GE) (a : Nat → Nat) (τ : MS) (sz : Nat) (hn : mn τ ≤ 40) (k : Nat) (hk : k < mn τ) (hp : mIsP τ (nI k) = true) (hE : mf τ k = false) : Met l yX1_hindsight wsX1_hindsight { frames := 3, cells := 0, slots := 0, locals := 64 } (va_Pc [.ref (a 0), .int (nI k)] (gBw E sz (mW E a τ))) (gQi E (0) (mW E a τ) (mW E a (mThr τ 1)) sz) 0 0 (va_A (mW E a τ) sz) := by
  refine w_met (cc := cX1_hindsight) (maxL := 2) (ret := (some .int)) (by decide) rfl (Nat.le_of_ble_eq_true rfl) ?_
  intro p e s m below meth c ls S hr hlocks hname hB hl
  obtain ⟨hsz, hP, hK, hD0⟩ := hB
  subst hsz
  have hD := hD0.self (sz := s.heap.size)
  have hA : ∀ q : Nat, s.heap.size ≤ q → va_A (mW E a τ) s.heap.size q := fun q h => Or.inr h
  have hS : va_S (va_A (mW E a τ) s.heap.size) s.heap s.heap [] := va_S.rf
  obtain ⟨hx, hb, hml, hown, hts⟩ := id S
  have hts0 := hinX1_hindsight
  have hl : lv_has ls 2 [(0, .ref (a 0)), (1, .int (nI k))] := hl
  refine lv_aload_n hx hb dX1_hindsight_0 rfl (lv_at hl 0 rfl) ?_
  refine lv_iconst (v := 0) hx hb dX1_hindsight_1 (by decide) ?_
  refine va_put (D := E.1) (ci := 1) (v := .int 0) (ty := .int) (C := RX1) (T := TX1) (N := 13) hx hb hts hts0 tyX1 tyX1_ok nmX1 hown hK hP hD hS 0 rfl rfl 0 (by decide) (hts (.fieldLink RX1 42 "ExamGardenModel" "thrown" "I") (by decide +kernel)) (fun _ h9 => h9) rfl (by decide +kernel) rfl rfl (Nat.le_of_ble_eq_true rfl) dX1_hindsight_2 (fun H locs hP hD hS => ?_)
  have hP : gP E (mW E a (0, mn τ, mk τ, mf τ, mo τ, mh τ, md τ, mr τ, mu τ, mv τ, ms τ, mp τ, mw τ)) H := hP
  have hD : va_D (va_A (mW E a τ) s.heap.size) (mW E a (0, mn τ, mk τ, mf τ, mo τ, mh τ, md τ, mr τ, mu τ, mv τ, ms τ, mp τ, mw τ)) := hD
  refine lv_aload_n hx hb dX1_hindsight_5 rfl (lv_at hl 0 rfl) ?_
  refine lv_iload_n hx hb dX1_hindsight_6 rfl (lv_at hl 1 rfl) ?_
  refine m0i (As := [.int (nI k)]) (rest := []) S (m_isForkAt l E a (0, mn τ, mk τ, mf τ, mo τ, mh τ, md τ, mr τ, mu τ, mv τ, ms τ, mp τ, mw τ) k (by omega) hp) (cwV 1 hts gX1_hindsight_X1_isForkAt rfl rfl rfl hdX1_isForkAt ⟨Nat.le_of_ble_eq_true rfl, Nat.le_of_ble_eq_true rfl⟩) hK hP rfl hl.1 rfl (Nat.le_of_ble_eq_true rfl) ⟨Nat.zero_le _, Nat.zero_le _⟩ dX1_hindsight_7 ?_
  refine lv_if_eq (tgt := 21) hx hb dX1_hindsight_10 (by decide) (fun _ => ?_) (fun q => absurd ((b2i_eq0.mpr hE)) q)
  refine lv_aload_n hx hb dX1_hindsight_21 rfl (lv_at hl 0 rfl) ?_
  refine lv_iconst (v := 1) hx hb dX1_hindsight_22 (by decide) ?_
  refine m0wi (As := [.int 1]) (rest := []) (τ' := mThr (0, mn τ, mk τ, mf τ, mo τ, mh τ, md τ, mr τ, mu τ, mv τ, ms τ, mp τ, mw τ) 1) S (m_no l E a (0, mn τ, mk τ, mf τ, mo τ, mh τ, md τ, mr τ, mu τ, mv τ, ms τ, mp τ, mw τ) _ 1) (cwV 1 hts gX1_hindsight_X1_no rfl rfl rfl hdX1_no ⟨Nat.le_of_ble_eq_true rfl, Nat.le_of_ble_eq_true rfl⟩) hK hP hD hS hA rfl hl.1 rfl (Nat.le_of_ble_eq_true rfl) ⟨Nat.zero_le _, Nat.zero_le _⟩ dX1_hindsight_23 (fun H locs hP hD hS => ?_)
  exact W.iret hx hb hr (fun t ht hW => ⟨⟨_, (), rfl, rfl, by show gP E _ t.heap; rw [ht]; exact hP⟩, hS.F ht⟩) hS.2.2 dX1_hindsight_26
theorem hinX1_risk : ∀ w ∈ wsX10, w ∈ wsX1_risk := fun w h => List.mem_cons_of_mem _ (List.mem_append_right _ h)
theorem hdX1_risk : yX1_risk.cls = RX1 ∧ yX1_risk.cls ≠ "java/lang/invoke/MethodHandle" ∧ yX1_risk.cls ≠ "java/lang/invoke/VarHandle" ∧ (parseMethodDescriptor yX1_risk.desc).map (fun d => d.parameters.length) = some 2 := by decide +kernel
set_option maxHeartbeats 4000000 in
set_option maxRecDepth 100000 in
theorem m_risk (l : Launch) (E : GE) (a : Nat → Nat) (τ : MS) (sz : Nat) (hO : MOK τ) (hn : mn τ ≤ 40) (k : Nat) (hk : k < mn τ) (hp : mIsP τ (nI k) = true) (hE : mf τ k = true) (b : Bool) : Met l yX1_risk wsX1_risk { frames := 3, cells := 0, slots := 0, locals := 64 } (va_Pc [.ref (a 0), .int (nI k), .int (b2i b)] (gBw E sz (mW E a τ))) (gQi E (mRisk (mTab (mThr τ 0)) k b) (mW E a τ) (mW E a (mTab (mThr τ 0))) sz) 0 0 (va_A (mW E a τ) sz) := by
  refine w_met (cc := cX1_risk) (maxL := 3) (ret := (some .int)) (by decide) rfl (Nat.le_of_ble_eq_true rfl) ?_
  intro p e s m below meth c ls S hr hlocks hname hB hl
  obtain ⟨hsz, hP, hK, hD0⟩ := hB
  subst hsz
  have hD := hD0.self (sz := s.heap.size)
  have hA : ∀ q : Nat, s.heap.size ≤ q → va_A (mW E a τ) s.heap.size q := fun q h => Or.inr h
  have hS : va_S (va_A (mW E a τ) s.heap.size) s.heap s.heap [] := va_S.rf
  obtain ⟨hx, hb, hml, hown, hts⟩ := id S
  have hts0 := hinX1_risk
  have hl : lv_has ls 3 [(0, .ref (a 0)), (1, .int (nI k)), (2, .int (b2i b))] := hl
  refine lv_aload_n hx hb dX1_risk_0 rfl (lv_at hl 0 rfl) ?_
  refine lv_iconst (v := 0) hx hb dX1_risk_1 (by decide) ?_
  refine va_put (D := E.1) (ci := 1) (v := .int 0) (ty := .int) (C := RX1) (T := TX1) (N := 13) hx hb hts hts0 tyX1 tyX1_ok nmX1 hown hK hP hD hS 0 rfl rfl 0 (by decide) (hts (.fieldLink RX1 42 "ExamGardenModel" "thrown" "I") (by decide +kernel)) (fun _ h9 => h9) rfl (by decide +kernel) rfl rfl (Nat.le_of_ble_eq_true rfl) dX1_risk_2 (fun H locs hP hD hS => ?_)
  have hP : gP E (mW E a (0, mn τ, mk τ, mf τ, mo τ, mh τ, md τ, mr τ, mu τ, mv τ, ms τ, mp τ, mw τ)) H := hP
  have hD : va_D (va_A (mW E a τ) s.heap.size) (mW E a (0, mn τ, mk τ, mf τ, mo τ, mh τ, md τ, mr τ, mu τ, mv τ, ms τ, mp τ, mw τ)) := hD
  refine lv_aload_n hx hb dX1_risk_5 rfl (lv_at hl 0 rfl) ?_
  refine m0wv (As := []) (rest := []) (τ' := mTab (0, mn τ, mk τ, mf τ, mo τ, mh τ, md τ, mr τ, mu τ, mv τ, ms τ, mp τ, mw τ)) S (m_table l E a (0, mn τ, mk τ, mf τ, mo τ, mh τ, md τ, mr τ, mu τ, mv τ, ms τ, mp τ, mw τ) _ hO) (cwV 0 hts gX1_risk_X1_table rfl rfl rfl hdX1_table ⟨Nat.le_of_ble_eq_true rfl, Nat.le_of_ble_eq_true rfl⟩) hK hP hD hS hA rfl hl.1 rfl (Nat.le_of_ble_eq_true rfl) ⟨Nat.zero_le _, Nat.zero_le _⟩ dX1_risk_6 (fun H locs hP hD hS => ?_)
  refine lv_aload_n hx hb dX1_risk_9 rfl (lv_at hl 0 rfl) ?_
  refine lv_iload_n hx hb dX1_risk_10 rfl (lv_at hl 1 rfl) ?_
  refine m0i (As := [.int (nI k)]) (rest := []) S (m_isForkAt l E a (mTab (0, mn τ, mk τ, mf τ, mo τ, mh τ, md τ, mr τ, mu τ, mv τ, ms τ, mp τ, mw τ)) k (by omega) hp) (cwV 1 hts gX1_risk_X1_isForkAt rfl rfl rfl hdX1_isForkAt ⟨Nat.le_of_ble_eq_true rfl, Nat.le_of_ble_eq_true rfl⟩) hK hP rfl hl.1 rfl (Nat.le_of_ble_eq_true rfl) ⟨Nat.zero_le _, Nat.zero_le _⟩ dX1_risk_11 ?_
  refine lv_if_eq (tgt := 26) hx hb dX1_risk_14 (by decide) (fun q => absurd q ((b2i_ne0.mpr hE))) (fun _ => ?_)
  refine lv_aload_n hx hb dX1_risk_17 rfl (lv_at hl 0 rfl) ?_
  refine lv_iload_n hx hb dX1_risk_18 rfl (lv_at hl 1 rfl) ?_
  refine lv_iload_n hx hb dX1_risk_19 rfl (lv_at hl 2 rfl) ?_
  refine m0i (As := [.int (nI k), .int (b2i b)]) (rest := []) S (m_riskOf l E a (mTab (0, mn τ, mk τ, mf τ, mo τ, mh τ, md τ, mr τ, mu τ, mv τ, ms τ, mp τ, mw τ)) hO k (by omega) b) (cwV 2 hts gX1_risk_X1_riskOf rfl rfl rfl hdX1_riskOf ⟨Nat.le_of_ble_eq_true rfl, Nat.le_of_ble_eq_true rfl⟩) hK hP rfl hl.1 rfl (Nat.le_of_ble_eq_true rfl) ⟨Nat.zero_le _, Nat.zero_le _⟩ dX1_risk_20 ?_
  refine lv_goto (tgt := 31) hx hb dX1_risk_23 (by decide) ?_
  exact W.iret hx hb hr (fun t ht hW => ⟨⟨_, (), rfl, rfl, by show gP E _ t.heap; rw [ht]; exact hP⟩, hS.F ht⟩) hS.2.2 dX1_risk_31
set_option maxHeartbeats 4000000 in
set_option maxRecDepth 100000 in
theorem m_risk_b (l : Launch) (E : GE) (a : Nat → Nat) (τ : MS) (sz : Nat) (hO : MOK τ) (pp : Int32) (hp : mIsP τ pp = false) (b : Int32) : Met l yX1_risk wsX1_risk { frames := 3, cells := 0, slots := 0, locals := 64 } (va_Pc [.ref (a 0), .int pp, .int b] (gBw E sz (mW E a τ))) (gQi E (0) (mW E a τ) (mW E a (mThr (mTab (mThr τ 0)) 1)) sz) 0 0 (va_A (mW E a τ) sz) := by
  refine w_met (cc := cX1_risk) (maxL := 3) (ret := (some .int)) (by decide) rfl (Nat.le_of_ble_eq_true rfl) ?_
  intro p e s m below meth c ls S hr hlocks hname hB hl
  obtain ⟨hsz, hP, hK, hD0⟩ := hB
  subst hsz
  have hD := hD0.self (sz := s.heap.size)
  have hA : ∀ q : Nat, s.heap.size ≤ q → va_A (mW E a τ) s.heap.size q := fun q h => Or.inr h
  have hS : va_S (va_A (mW E a τ) s.heap.size) s.heap s.heap [] := va_S.rf
  obtain ⟨hx, hb, hml, hown, hts⟩ := id S
  have hts0 := hinX1_risk
  have hl : lv_has ls 3 [(0, .ref (a 0)), (1, .int pp), (2, .int b)] := hl
  refine lv_aload_n hx hb dX1_risk_0 rfl (lv_at hl 0 rfl) ?_
  refine lv_iconst (v := 0) hx hb dX1_risk_1 (by decide) ?_
  refine va_put (D := E.1) (ci := 1) (v := .int 0) (ty := .int) (C := RX1) (T := TX1) (N := 13) hx hb hts hts0 tyX1 tyX1_ok nmX1 hown hK hP hD hS 0 rfl rfl 0 (by decide) (hts (.fieldLink RX1 42 "ExamGardenModel" "thrown" "I") (by decide +kernel)) (fun _ h9 => h9) rfl (by decide +kernel) rfl rfl (Nat.le_of_ble_eq_true rfl) dX1_risk_2 (fun H locs hP hD hS => ?_)
  have hP : gP E (mW E a (0, mn τ, mk τ, mf τ, mo τ, mh τ, md τ, mr τ, mu τ, mv τ, ms τ, mp τ, mw τ)) H := hP
  have hD : va_D (va_A (mW E a τ) s.heap.size) (mW E a (0, mn τ, mk τ, mf τ, mo τ, mh τ, md τ, mr τ, mu τ, mv τ, ms τ, mp τ, mw τ)) := hD
  refine lv_aload_n hx hb dX1_risk_5 rfl (lv_at hl 0 rfl) ?_
  refine m0wv (As := []) (rest := []) (τ' := mTab (0, mn τ, mk τ, mf τ, mo τ, mh τ, md τ, mr τ, mu τ, mv τ, ms τ, mp τ, mw τ)) S (m_table l E a (0, mn τ, mk τ, mf τ, mo τ, mh τ, md τ, mr τ, mu τ, mv τ, ms τ, mp τ, mw τ) _ hO) (cwV 0 hts gX1_risk_X1_table rfl rfl rfl hdX1_table ⟨Nat.le_of_ble_eq_true rfl, Nat.le_of_ble_eq_true rfl⟩) hK hP hD hS hA rfl hl.1 rfl (Nat.le_of_ble_eq_true rfl) ⟨Nat.zero_le _, Nat.zero_le _⟩ dX1_risk_6 (fun H locs hP hD hS => ?_)
  refine lv_aload_n hx hb dX1_risk_9 rfl (lv_at hl 0 rfl) ?_
  refine lv_iload_n hx hb dX1_risk_10 rfl (lv_at hl 1 rfl) ?_
  refine m0i (As := [.int pp]) (rest := []) S (m_isForkAt_b l E a (mTab (0, mn τ, mk τ, mf τ, mo τ, mh τ, md τ, mr τ, mu τ, mv τ, ms τ, mp τ, mw τ)) pp hp) (cwV 1 hts gX1_risk_X1_isForkAt rfl rfl rfl hdX1_isForkAt ⟨Nat.le_of_ble_eq_true rfl, Nat.le_of_ble_eq_true rfl⟩) hK hP rfl hl.1 rfl (Nat.le_of_ble_eq_true rfl) ⟨Nat.zero_le _, Nat.zero_le _⟩ dX1_risk_11 ?_
  refine lv_if_eq (tgt := 26) hx hb dX1_risk_14 (by decide) (fun _ => ?_) (fun q => absurd rfl q)
  refine lv_aload_n hx hb dX1_risk_26 rfl (lv_at hl 0 rfl) ?_
  refine lv_iconst (v := 1) hx hb dX1_risk_27 (by decide) ?_
  refine m0wi (As := [.int 1]) (rest := []) (τ' := mThr (mTab (0, mn τ, mk τ, mf τ, mo τ, mh τ, md τ, mr τ, mu τ, mv τ, ms τ, mp τ, mw τ)) 1) S (m_no l E a (mTab (0, mn τ, mk τ, mf τ, mo τ, mh τ, md τ, mr τ, mu τ, mv τ, ms τ, mp τ, mw τ)) _ 1) (cwV 1 hts gX1_risk_X1_no rfl rfl rfl hdX1_no ⟨Nat.le_of_ble_eq_true rfl, Nat.le_of_ble_eq_true rfl⟩) hK hP hD hS hA rfl hl.1 rfl (Nat.le_of_ble_eq_true rfl) ⟨Nat.zero_le _, Nat.zero_le _⟩ dX1_risk_28 (fun H locs hP hD hS => ?_)
  exact W.iret hx hb hr (fun t ht hW => ⟨⟨_, (), rfl, rfl, by show gP E _ t.heap; rw [ht]; exact hP⟩, hS.F ht⟩) hS.2.2 dX1_risk_31
set_option maxHeartbeats 4000000 in
set_option maxRecDepth 100000 in
theorem m_risk_f (l : Launch) (E : GE) (a : Nat → Nat) (τ : MS) (sz : Nat) (hO : MOK τ) (hn : mn τ ≤ 40) (k : Nat) (hk : k < mn τ) (hp : mIsP τ (nI k) = true) (hE : mf τ k = false) (b : Int32) : Met l yX1_risk wsX1_risk { frames := 3, cells := 0, slots := 0, locals := 64 } (va_Pc [.ref (a 0), .int (nI k), .int b] (gBw E sz (mW E a τ))) (gQi E (0) (mW E a τ) (mW E a (mThr (mTab (mThr τ 0)) 1)) sz) 0 0 (va_A (mW E a τ) sz) := by
  refine w_met (cc := cX1_risk) (maxL := 3) (ret := (some .int)) (by decide) rfl (Nat.le_of_ble_eq_true rfl) ?_
  intro p e s m below meth c ls S hr hlocks hname hB hl
  obtain ⟨hsz, hP, hK, hD0⟩ := hB
  subst hsz
  have hD := hD0.self (sz := s.heap.size)
  have hA : ∀ q : Nat, s.heap.size ≤ q → va_A (mW E a τ) s.heap.size q := fun q h => Or.inr h
  have hS : va_S (va_A (mW E a τ) s.heap.size) s.heap s.heap [] := va_S.rf
  obtain ⟨hx, hb, hml, hown, hts⟩ := id S
  have hts0 := hinX1_risk
  have hl : lv_has ls 3 [(0, .ref (a 0)), (1, .int (nI k)), (2, .int b)] := hl
  refine lv_aload_n hx hb dX1_risk_0 rfl (lv_at hl 0 rfl) ?_
  refine lv_iconst (v := 0) hx hb dX1_risk_1 (by decide) ?_
  refine va_put (D := E.1) (ci := 1) (v := .int 0) (ty := .int) (C := RX1) (T := TX1) (N := 13) hx hb hts hts0 tyX1 tyX1_ok nmX1 hown hK hP hD hS 0 rfl rfl 0 (by decide) (hts (.fieldLink RX1 42 "ExamGardenModel" "thrown" "I") (by decide +kernel)) (fun _ h9 => h9) rfl (by decide +kernel) rfl rfl (Nat.le_of_ble_eq_true rfl) dX1_risk_2 (fun H locs hP hD hS => ?_)
  have hP : gP E (mW E a (0, mn τ, mk τ, mf τ, mo τ, mh τ, md τ, mr τ, mu τ, mv τ, ms τ, mp τ, mw τ)) H := hP
  have hD : va_D (va_A (mW E a τ) s.heap.size) (mW E a (0, mn τ, mk τ, mf τ, mo τ, mh τ, md τ, mr τ, mu τ, mv τ, ms τ, mp τ, mw τ)) := hD
  refine lv_aload_n hx hb dX1_risk_5 rfl (lv_at hl 0 rfl) ?_
  refine m0wv (As := []) (rest := []) (τ' := mTab (0, mn τ, mk τ, mf τ, mo τ, mh τ, md τ, mr τ, mu τ, mv τ, ms τ, mp τ, mw τ)) S (m_table l E a (0, mn τ, mk τ, mf τ, mo τ, mh τ, md τ, mr τ, mu τ, mv τ, ms τ, mp τ, mw τ) _ hO) (cwV 0 hts gX1_risk_X1_table rfl rfl rfl hdX1_table ⟨Nat.le_of_ble_eq_true rfl, Nat.le_of_ble_eq_true rfl⟩) hK hP hD hS hA rfl hl.1 rfl (Nat.le_of_ble_eq_true rfl) ⟨Nat.zero_le _, Nat.zero_le _⟩ dX1_risk_6 (fun H locs hP hD hS => ?_)
  refine lv_aload_n hx hb dX1_risk_9 rfl (lv_at hl 0 rfl) ?_
  refine lv_iload_n hx hb dX1_risk_10 rfl (lv_at hl 1 rfl) ?_
  refine m0i (As := [.int (nI k)]) (rest := []) S (m_isForkAt l E a (mTab (0, mn τ, mk τ, mf τ, mo τ, mh τ, md τ, mr τ, mu τ, mv τ, ms τ, mp τ, mw τ)) k (by omega) hp) (cwV 1 hts gX1_risk_X1_isForkAt rfl rfl rfl hdX1_isForkAt ⟨Nat.le_of_ble_eq_true rfl, Nat.le_of_ble_eq_true rfl⟩) hK hP rfl hl.1 rfl (Nat.le_of_ble_eq_true rfl) ⟨Nat.zero_le _, Nat.zero_le _⟩ dX1_risk_11 ?_
  refine lv_if_eq (tgt := 26) hx hb dX1_risk_14 (by decide) (fun _ => ?_) (fun q => absurd ((b2i_eq0.mpr hE)) q)
  refine lv_aload_n hx hb dX1_risk_26 rfl (lv_at hl 0 rfl) ?_
  refine lv_iconst (v := 1) hx hb dX1_risk_27 (by decide) ?_
  refine m0wi (As := [.int 1]) (rest := []) (τ' := mThr (mTab (0, mn τ, mk τ, mf τ, mo τ, mh τ, md τ, mr τ, mu τ, mv τ, ms τ, mp τ, mw τ)) 1) S (m_no l E a (mTab (0, mn τ, mk τ, mf τ, mo τ, mh τ, md τ, mr τ, mu τ, mv τ, ms τ, mp τ, mw τ)) _ 1) (cwV 1 hts gX1_risk_X1_no rfl rfl rfl hdX1_no ⟨Nat.le_of_ble_eq_true rfl, Nat.le_of_ble_eq_true rfl⟩) hK hP hD hS hA rfl hl.1 rfl (Nat.le_of_ble_eq_true rfl) ⟨Nat.zero_le _, Nat.zero_le _⟩ dX1_risk_28 (fun H locs hP hD hS => ?_)
  exact W.iret hx hb hr (fun t ht hW => ⟨⟨_, (), rfl, rfl, by show gP E _ t.heap; rw [ht]; exact hP⟩, hS.F ht⟩) hS.2.2 dX1_risk_31
theorem hinX1_planTurnsRight : ∀ w ∈ wsX10, w ∈ wsX1_planTurnsRight := fun w h => List.mem_cons_of_mem _ (List.mem_append_right _ h)
theorem hdX1_planTurnsRight : yX1_planTurnsRight.cls = RX1 ∧ yX1_planTurnsRight.cls ≠ "java/lang/invoke/MethodHandle" ∧ yX1_planTurnsRight.cls ≠ "java/lang/invoke/VarHandle" ∧ (parseMethodDescriptor yX1_planTurnsRight.desc).map (fun d => d.parameters.length) = some 1 := by decide +kernel
set_option maxHeartbeats 4000000 in
set_option maxRecDepth 100000 in
theorem m_planTurnsRight (l : Launch) (E : GE) (a : Nat → Nat) (τ : MS) (sz : Nat) (hO : MOK τ) (hn : mn τ ≤ 40) (k : Nat) (hk : k < mn τ) (hp : mIsP τ (nI k) = true) (hE : mf τ k = true) : Met l yX1_planTurnsRight wsX1_planTurnsRight { frames := 3, cells := 0, slots := 0, locals := 66 } (va_Pc [.ref (a 0), .int (nI k)] (gBw E sz (mW E a τ))) (gQi E (b2i (mPl (mTab (mThr τ 0)) k)) (mW E a τ) (mW E a (mTab (mThr τ 0))) sz) 0 0 (va_A (mW E a τ) sz) := by
  refine w_met (cc := cX1_planTurnsRight) (maxL := 2) (ret := (some .boolean)) (by decide) rfl (Nat.le_of_ble_eq_true rfl) ?_
  intro p e s m below meth c ls S hr hlocks hname hB hl
  obtain ⟨hsz, hP, hK, hD0⟩ := hB
  subst hsz
  have hD := hD0.self (sz := s.heap.size)
  have hA : ∀ q : Nat, s.heap.size ≤ q → va_A (mW E a τ) s.heap.size q := fun q h => Or.inr h
  have hS : va_S (va_A (mW E a τ) s.heap.size) s.heap s.heap [] := va_S.rf
  obtain ⟨hx, hb, hml, hown, hts⟩ := id S
  have hts0 := hinX1_planTurnsRight
  have hl : lv_has ls 2 [(0, .ref (a 0)), (1, .int (nI k))] := hl
  refine lv_aload_n hx hb dX1_planTurnsRight_0 rfl (lv_at hl 0 rfl) ?_
  refine lv_iconst (v := 0) hx hb dX1_planTurnsRight_1 (by decide) ?_
  refine va_put (D := E.1) (ci := 1) (v := .int 0) (ty := .int) (C := RX1) (T := TX1) (N := 13) hx hb hts hts0 tyX1 tyX1_ok nmX1 hown hK hP hD hS 0 rfl rfl 0 (by decide) (hts (.fieldLink RX1 42 "ExamGardenModel" "thrown" "I") (by decide +kernel)) (fun _ h9 => h9) rfl (by decide +kernel) rfl rfl (Nat.le_of_ble_eq_true rfl) dX1_planTurnsRight_2 (fun H locs hP hD hS => ?_)
  have hP : gP E (mW E a (0, mn τ, mk τ, mf τ, mo τ, mh τ, md τ, mr τ, mu τ, mv τ, ms τ, mp τ, mw τ)) H := hP
  have hD : va_D (va_A (mW E a τ) s.heap.size) (mW E a (0, mn τ, mk τ, mf τ, mo τ, mh τ, md τ, mr τ, mu τ, mv τ, ms τ, mp τ, mw τ)) := hD
  refine lv_aload_n hx hb dX1_planTurnsRight_5 rfl (lv_at hl 0 rfl) ?_
  refine m0wv (As := []) (rest := []) (τ' := mTab (0, mn τ, mk τ, mf τ, mo τ, mh τ, md τ, mr τ, mu τ, mv τ, ms τ, mp τ, mw τ)) S (m_table l E a (0, mn τ, mk τ, mf τ, mo τ, mh τ, md τ, mr τ, mu τ, mv τ, ms τ, mp τ, mw τ) _ hO) (cwV 0 hts gX1_planTurnsRight_X1_table rfl rfl rfl hdX1_table ⟨Nat.le_of_ble_eq_true rfl, Nat.le_of_ble_eq_true rfl⟩) hK hP hD hS hA rfl hl.1 rfl (Nat.le_of_ble_eq_true rfl) ⟨Nat.zero_le _, Nat.zero_le _⟩ dX1_planTurnsRight_6 (fun H locs hP hD hS => ?_)
  refine lv_aload_n hx hb dX1_planTurnsRight_9 rfl (lv_at hl 0 rfl) ?_
  refine lv_iload_n hx hb dX1_planTurnsRight_10 rfl (lv_at hl 1 rfl) ?_
  refine m0i (As := [.int (nI k)]) (rest := []) S (m_isForkAt l E a (mTab (0, mn τ, mk τ, mf τ, mo τ, mh τ, md τ, mr τ, mu τ, mv τ, ms τ, mp τ, mw τ)) k (by omega) hp) (cwV 1 hts gX1_planTurnsRight_X1_isForkAt rfl rfl rfl hdX1_isForkAt ⟨Nat.le_of_ble_eq_true rfl, Nat.le_of_ble_eq_true rfl⟩) hK hP rfl hl.1 rfl (Nat.le_of_ble_eq_true rfl) ⟨Nat.zero_le _, Nat.zero_le _⟩ dX1_planTurnsRight_11 ?_
  refine lv_if_eq (tgt := 25) hx hb dX1_planTurnsRight_14 (by decide) (fun q => absurd q ((b2i_ne0.mpr hE))) (fun _ => ?_)
  refine lv_aload_n hx hb dX1_planTurnsRight_17 rfl (lv_at hl 0 rfl) ?_
  refine lv_iload_n hx hb dX1_planTurnsRight_18 rfl (lv_at hl 1 rfl) ?_
  refine m0i (As := [.int (nI k)]) (rest := []) S (m_turnsRight l E a (mTab (0, mn τ, mk τ, mf τ, mo τ, mh τ, md τ, mr τ, mu τ, mv τ, ms τ, mp τ, mw τ)) hO k (by omega)) (cwV 1 hts gX1_planTurnsRight_X1_turnsRight rfl rfl rfl hdX1_turnsRight ⟨Nat.le_of_ble_eq_true rfl, Nat.le_of_ble_eq_true rfl⟩) hK hP rfl hl.1 rfl (Nat.le_of_ble_eq_true rfl) ⟨Nat.zero_le _, Nat.zero_le _⟩ dX1_planTurnsRight_19 ?_
  refine lv_goto (tgt := 30) hx hb dX1_planTurnsRight_22 (by decide) ?_
  exact W.zret hx hb hr (b2i_nar _) (fun t ht hW => ⟨⟨_, (), rfl, rfl, by show gP E _ t.heap; rw [ht]; exact hP⟩, hS.F ht⟩) hS.2.2 dX1_planTurnsRight_30
set_option maxHeartbeats 4000000 in
set_option maxRecDepth 100000 in
theorem m_planTurnsRight_b (l : Launch) (E : GE) (a : Nat → Nat) (τ : MS) (sz : Nat) (hO : MOK τ) (pp : Int32) (hp : mIsP τ pp = false) : Met l yX1_planTurnsRight wsX1_planTurnsRight { frames := 3, cells := 0, slots := 0, locals := 66 } (va_Pc [.ref (a 0), .int pp] (gBw E sz (mW E a τ))) (gQi E (0) (mW E a τ) (mW E a (mThr (mTab (mThr τ 0)) 1)) sz) 0 0 (va_A (mW E a τ) sz) := by
  refine w_met (cc := cX1_planTurnsRight) (maxL := 2) (ret := (some .boolean)) (by decide) rfl (Nat.le_of_ble_eq_true rfl) ?_
  intro p e s m below meth c ls S hr hlocks hname hB hl
  obtain ⟨hsz, hP, hK, hD0⟩ := hB
  subst hsz
  have hD := hD0.self (sz := s.heap.size)
  have hA : ∀ q : Nat, s.heap.size ≤ q → va_A (mW E a τ) s.heap.size q := fun q h => Or.inr h
  have hS : va_S (va_A (mW E a τ) s.heap.size) s.heap s.heap [] := va_S.rf
  obtain ⟨hx, hb, hml, hown, hts⟩ := id S
  have hts0 := hinX1_planTurnsRight
  have hl : lv_has ls 2 [(0, .ref (a 0)), (1, .int pp)] := hl
  refine lv_aload_n hx hb dX1_planTurnsRight_0 rfl (lv_at hl 0 rfl) ?_
  refine lv_iconst (v := 0) hx hb dX1_planTurnsRight_1 (by decide) ?_
  refine va_put (D := E.1) (ci := 1) (v := .int 0) (ty := .int) (C := RX1) (T := TX1) (N := 13) hx hb hts hts0 tyX1 tyX1_ok nmX1 hown hK hP hD hS 0 rfl rfl 0 (by decide) (hts (.fieldLink RX1 42 "ExamGardenModel" "thrown" "I") (by decide +kernel)) (fun _ h9 => h9) rfl (by decide +kernel) rfl rfl (Nat.le_of_ble_eq_true rfl) dX1_planTurnsRight_2 (fun H locs hP hD hS => ?_)
  have hP : gP E (mW E a (0, mn τ, mk τ, mf τ, mo τ, mh τ, md τ, mr τ, mu τ, mv τ, ms τ, mp τ, mw τ)) H := hP
  have hD : va_D (va_A (mW E a τ) s.heap.size) (mW E a (0, mn τ, mk τ, mf τ, mo τ, mh τ, md τ, mr τ, mu τ, mv τ, ms τ, mp τ, mw τ)) := hD
  refine lv_aload_n hx hb dX1_planTurnsRight_5 rfl (lv_at hl 0 rfl) ?_
  refine m0wv (As := []) (rest := []) (τ' := mTab (0, mn τ, mk τ, mf τ, mo τ, mh τ, md τ, mr τ, mu τ, mv τ, ms τ, mp τ, mw τ)) S (m_table l E a (0, mn τ, mk τ, mf τ, mo τ, mh τ, md τ, mr τ, mu τ, mv τ, ms τ, mp τ, mw τ) _ hO) (cwV 0 hts gX1_planTurnsRight_X1_table rfl rfl rfl hdX1_table ⟨Nat.le_of_ble_eq_true rfl, Nat.le_of_ble_eq_true rfl⟩) hK hP hD hS hA rfl hl.1 rfl (Nat.le_of_ble_eq_true rfl) ⟨Nat.zero_le _, Nat.zero_le _⟩ dX1_planTurnsRight_6 (fun H locs hP hD hS => ?_)
  refine lv_aload_n hx hb dX1_planTurnsRight_9 rfl (lv_at hl 0 rfl) ?_
  refine lv_iload_n hx hb dX1_planTurnsRight_10 rfl (lv_at hl 1 rfl) ?_
  refine m0i (As := [.int pp]) (rest := []) S (m_isForkAt_b l E a (mTab (0, mn τ, mk τ, mf τ, mo τ, mh τ, md τ, mr τ, mu τ, mv τ, ms τ, mp τ, mw τ)) pp hp) (cwV 1 hts gX1_planTurnsRight_X1_isForkAt rfl rfl rfl hdX1_isForkAt ⟨Nat.le_of_ble_eq_true rfl, Nat.le_of_ble_eq_true rfl⟩) hK hP rfl hl.1 rfl (Nat.le_of_ble_eq_true rfl) ⟨Nat.zero_le _, Nat.zero_le _⟩ dX1_planTurnsRight_11 ?_
  refine lv_if_eq (tgt := 25) hx hb dX1_planTurnsRight_14 (by decide) (fun _ => ?_) (fun q => absurd rfl q)
  refine lv_aload_n hx hb dX1_planTurnsRight_25 rfl (lv_at hl 0 rfl) ?_
  refine lv_iconst (v := 1) hx hb dX1_planTurnsRight_26 (by decide) ?_
  refine m0wi (As := [.int 1]) (rest := []) (τ' := mThr (mTab (0, mn τ, mk τ, mf τ, mo τ, mh τ, md τ, mr τ, mu τ, mv τ, ms τ, mp τ, mw τ)) 1) S (m_isNot l E a (mTab (0, mn τ, mk τ, mf τ, mo τ, mh τ, md τ, mr τ, mu τ, mv τ, ms τ, mp τ, mw τ)) _ 1) (cwV 1 hts gX1_planTurnsRight_X1_isNot rfl rfl rfl hdX1_isNot ⟨Nat.le_of_ble_eq_true rfl, Nat.le_of_ble_eq_true rfl⟩) hK hP hD hS hA rfl hl.1 rfl (Nat.le_of_ble_eq_true rfl) ⟨Nat.zero_le _, Nat.zero_le _⟩ dX1_planTurnsRight_27 (fun H locs hP hD hS => ?_)
  exact W.zret hx hb hr rfl (fun t ht hW => ⟨⟨_, (), rfl, rfl, by show gP E _ t.heap; rw [ht]; exact hP⟩, hS.F ht⟩) hS.2.2 dX1_planTurnsRight_30
set_option maxHeartbeats 4000000 in
set_option maxRecDepth 100000 in
theorem m_planTurnsRight_f (l : Launch) (E : GE) (a : Nat → Nat) (τ : MS) (sz : Nat) (hO : MOK τ) (hn : mn τ ≤ 40) (k : Nat) (hk : k < mn τ) (hp : mIsP τ (nI k) = true) (hE : mf τ k = false) : Met l yX1_planTurnsRight wsX1_planTurnsRight { frames := 3, cells := 0, slots := 0, locals := 66 } (va_Pc [.ref (a 0), .int (nI k)] (gBw E sz (mW E a τ))) (gQi E (0) (mW E a τ) (mW E a (mThr (mTab (mThr τ 0)) 1)) sz) 0 0 (va_A (mW E a τ) sz) := by
  refine w_met (cc := cX1_planTurnsRight) (maxL := 2) (ret := (some .boolean)) (by decide) rfl (Nat.le_of_ble_eq_true rfl) ?_
  intro p e s m below meth c ls S hr hlocks hname hB hl
  obtain ⟨hsz, hP, hK, hD0⟩ := hB
  subst hsz
  have hD := hD0.self (sz := s.heap.size)
  have hA : ∀ q : Nat, s.heap.size ≤ q → va_A (mW E a τ) s.heap.size q := fun q h => Or.inr h
  have hS : va_S (va_A (mW E a τ) s.heap.size) s.heap s.heap [] := va_S.rf
  obtain ⟨hx, hb, hml, hown, hts⟩ := id S
  have hts0 := hinX1_planTurnsRight
  have hl : lv_has ls 2 [(0, .ref (a 0)), (1, .int (nI k))] := hl
  refine lv_aload_n hx hb dX1_planTurnsRight_0 rfl (lv_at hl 0 rfl) ?_
  refine lv_iconst (v := 0) hx hb dX1_planTurnsRight_1 (by decide) ?_
  refine va_put (D := E.1) (ci := 1) (v := .int 0) (ty := .int) (C := RX1) (T := TX1) (N := 13) hx hb hts hts0 tyX1 tyX1_ok nmX1 hown hK hP hD hS 0 rfl rfl 0 (by decide) (hts (.fieldLink RX1 42 "ExamGardenModel" "thrown" "I") (by decide +kernel)) (fun _ h9 => h9) rfl (by decide +kernel) rfl rfl (Nat.le_of_ble_eq_true rfl) dX1_planTurnsRight_2 (fun H locs hP hD hS => ?_)
  have hP : gP E (mW E a (0, mn τ, mk τ, mf τ, mo τ, mh τ, md τ, mr τ, mu τ, mv τ, ms τ, mp τ, mw τ)) H := hP
  have hD : va_D (va_A (mW E a τ) s.heap.size) (mW E a (0, mn τ, mk τ, mf τ, mo τ, mh τ, md τ, mr τ, mu τ, mv τ, ms τ, mp τ, mw τ)) := hD
  refine lv_aload_n hx hb dX1_planTurnsRight_5 rfl (lv_at hl 0 rfl) ?_
  refine m0wv (As := []) (rest := []) (τ' := mTab (0, mn τ, mk τ, mf τ, mo τ, mh τ, md τ, mr τ, mu τ, mv τ, ms τ, mp τ, mw τ)) S (m_table l E a (0, mn τ, mk τ, mf τ, mo τ, mh τ, md τ, mr τ, mu τ, mv τ, ms τ, mp τ, mw τ) _ hO) (cwV 0 hts gX1_planTurnsRight_X1_table rfl rfl rfl hdX1_table ⟨Nat.le_of_ble_eq_true rfl, Nat.le_of_ble_eq_true rfl⟩) hK hP hD hS hA rfl hl.1 rfl (Nat.le_of_ble_eq_true rfl) ⟨Nat.zero_le _, Nat.zero_le _⟩ dX1_planTurnsRight_6 (fun H locs hP hD hS => ?_)
  refine lv_aload_n hx hb dX1_planTurnsRight_9 rfl (lv_at hl 0 rfl) ?_
  refine lv_iload_n hx hb dX1_planTurnsRight_10 rfl (lv_at hl 1 rfl) ?_
  refine m0i (As := [.int (nI k)]) (rest := []) S (m_isForkAt l E a (mTab (0, mn τ, mk τ, mf τ, mo τ, mh τ, md τ, mr τ, mu τ, mv τ, ms τ, mp τ, mw τ)) k (by omega) hp) (cwV 1 hts gX1_planTurnsRight_X1_isForkAt rfl rfl rfl hdX1_isForkAt ⟨Nat.le_of_ble_eq_true rfl, Nat.le_of_ble_eq_true rfl⟩) hK hP rfl hl.1 rfl (Nat.le_of_ble_eq_true rfl) ⟨Nat.zero_le _, Nat.zero_le _⟩ dX1_planTurnsRight_11 ?_
  refine lv_if_eq (tgt := 25) hx hb dX1_planTurnsRight_14 (by decide) (fun _ => ?_) (fun q => absurd ((b2i_eq0.mpr hE)) q)
  refine lv_aload_n hx hb dX1_planTurnsRight_25 rfl (lv_at hl 0 rfl) ?_
  refine lv_iconst (v := 1) hx hb dX1_planTurnsRight_26 (by decide) ?_
  refine m0wi (As := [.int 1]) (rest := []) (τ' := mThr (mTab (0, mn τ, mk τ, mf τ, mo τ, mh τ, md τ, mr τ, mu τ, mv τ, ms τ, mp τ, mw τ)) 1) S (m_isNot l E a (mTab (0, mn τ, mk τ, mf τ, mo τ, mh τ, md τ, mr τ, mu τ, mv τ, ms τ, mp τ, mw τ)) _ 1) (cwV 1 hts gX1_planTurnsRight_X1_isNot rfl rfl rfl hdX1_isNot ⟨Nat.le_of_ble_eq_true rfl, Nat.le_of_ble_eq_true rfl⟩) hK hP hD hS hA rfl hl.1 rfl (Nat.le_of_ble_eq_true rfl) ⟨Nat.zero_le _, Nat.zero_le _⟩ dX1_planTurnsRight_27 (fun H locs hP hD hS => ?_)
  exact W.zret hx hb hr rfl (fun t ht hW => ⟨⟨_, (), rfl, rfl, by show gP E _ t.heap; rw [ht]; exact hP⟩, hS.F ht⟩) hS.2.2 dX1_planTurnsRight_30
theorem hinX1_planLeadsTo : ∀ w ∈ wsX10, w ∈ wsX1_planLeadsTo := fun w h => List.mem_cons_of_mem _ (List.mem_append_right _ h)
theorem hdX1_planLeadsTo : yX1_planLeadsTo.cls = RX1 ∧ yX1_planLeadsTo.cls ≠ "java/lang/invoke/MethodHandle" ∧ yX1_planLeadsTo.cls ≠ "java/lang/invoke/VarHandle" ∧ (parseMethodDescriptor yX1_planLeadsTo.desc).map (fun d => d.parameters.length) = some 1 := by decide +kernel
set_option maxHeartbeats 4000000 in
set_option maxRecDepth 100000 in
theorem m_planLeadsTo (l : Launch) (E : GE) (a : Nat → Nat) (τ : MS) (sz : Nat) (hO : MOK τ) (hn : mn τ ≤ 40) (k : Nat) (hk : k < mn τ) (hp : mIsP τ (nI k) = true) : Met l yX1_planLeadsTo wsX1_planLeadsTo { frames := 5, cells := 0, slots := 0, locals := 109 } (va_Pc [.ref (a 0), .int (nI k)] (gBw E sz (mW E a τ))) (gQi E (nI (mLd (mTab (mThr τ 0)) 40 k)) (mW E a τ) (mW E a (mTab (mThr τ 0))) sz) 0 0 (va_A (mW E a τ) sz) := by
  refine w_met (cc := cX1_planLeadsTo) (maxL := 2) (ret := (some .int)) (by decide) rfl (Nat.le_of_ble_eq_true rfl) ?_
  intro p e s m below meth c ls S hr hlocks hname hB hl
  obtain ⟨hsz, hP, hK, hD0⟩ := hB
  subst hsz
  have hD := hD0.self (sz := s.heap.size)
  have hA : ∀ q : Nat, s.heap.size ≤ q → va_A (mW E a τ) s.heap.size q := fun q h => Or.inr h
  have hS : va_S (va_A (mW E a τ) s.heap.size) s.heap s.heap [] := va_S.rf
  obtain ⟨hx, hb, hml, hown, hts⟩ := id S
  have hts0 := hinX1_planLeadsTo
  have hl : lv_has ls 2 [(0, .ref (a 0)), (1, .int (nI k))] := hl
  refine lv_aload_n hx hb dX1_planLeadsTo_0 rfl (lv_at hl 0 rfl) ?_
  refine lv_iconst (v := 0) hx hb dX1_planLeadsTo_1 (by decide) ?_
  refine va_put (D := E.1) (ci := 1) (v := .int 0) (ty := .int) (C := RX1) (T := TX1) (N := 13) hx hb hts hts0 tyX1 tyX1_ok nmX1 hown hK hP hD hS 0 rfl rfl 0 (by decide) (hts (.fieldLink RX1 42 "ExamGardenModel" "thrown" "I") (by decide +kernel)) (fun _ h9 => h9) rfl (by decide +kernel) rfl rfl (Nat.le_of_ble_eq_true rfl) dX1_planLeadsTo_2 (fun H locs hP hD hS => ?_)
  have hP : gP E (mW E a (0, mn τ, mk τ, mf τ, mo τ, mh τ, md τ, mr τ, mu τ, mv τ, ms τ, mp τ, mw τ)) H := hP
  have hD : va_D (va_A (mW E a τ) s.heap.size) (mW E a (0, mn τ, mk τ, mf τ, mo τ, mh τ, md τ, mr τ, mu τ, mv τ, ms τ, mp τ, mw τ)) := hD
  refine lv_aload_n hx hb dX1_planLeadsTo_5 rfl (lv_at hl 0 rfl) ?_
  refine m0wv (As := []) (rest := []) (τ' := mTab (0, mn τ, mk τ, mf τ, mo τ, mh τ, md τ, mr τ, mu τ, mv τ, ms τ, mp τ, mw τ)) S (m_table l E a (0, mn τ, mk τ, mf τ, mo τ, mh τ, md τ, mr τ, mu τ, mv τ, ms τ, mp τ, mw τ) _ hO) (cwV 0 hts gX1_planLeadsTo_X1_table rfl rfl rfl hdX1_table ⟨Nat.le_of_ble_eq_true rfl, Nat.le_of_ble_eq_true rfl⟩) hK hP hD hS hA rfl hl.1 rfl (Nat.le_of_ble_eq_true rfl) ⟨Nat.zero_le _, Nat.zero_le _⟩ dX1_planLeadsTo_6 (fun H locs hP hD hS => ?_)
  refine lv_aload_n hx hb dX1_planLeadsTo_9 rfl (lv_at hl 0 rfl) ?_
  refine lv_iload_n hx hb dX1_planLeadsTo_10 rfl (lv_at hl 1 rfl) ?_
  refine m0i (As := [.int (nI k)]) (rest := []) S (m_isPlace l E a (mTab (0, mn τ, mk τ, mf τ, mo τ, mh τ, md τ, mr τ, mu τ, mv τ, ms τ, mp τ, mw τ)) (nI k)) (cwV 1 hts gX1_planLeadsTo_X1_isPlace rfl rfl rfl hdX1_isPlace ⟨Nat.le_of_ble_eq_true rfl, Nat.le_of_ble_eq_true rfl⟩) hK hP rfl hl.1 rfl (Nat.le_of_ble_eq_true rfl) ⟨Nat.zero_le _, Nat.zero_le _⟩ dX1_planLeadsTo_11 ?_
  refine lv_if_eq (tgt := 25) hx hb dX1_planLeadsTo_14 (by decide) (fun q => absurd q ((b2i_ne0.mpr hp))) (fun _ => ?_)
  refine lv_aload_n hx hb dX1_planLeadsTo_17 rfl (lv_at hl 0 rfl) ?_
  refine lv_iload_n hx hb dX1_planLeadsTo_18 rfl (lv_at hl 1 rfl) ?_
  refine m0i (As := [.int (nI k)]) (rest := []) S (m_leads l E a (mTab (0, mn τ, mk τ, mf τ, mo τ, mh τ, md τ, mr τ, mu τ, mv τ, ms τ, mp τ, mw τ)) hO k (by omega)) (cwV 1 hts gX1_planLeadsTo_X1_leads rfl rfl rfl hdX1_leads ⟨Nat.le_of_ble_eq_true rfl, Nat.le_of_ble_eq_true rfl⟩) hK hP rfl hl.1 rfl (Nat.le_of_ble_eq_true rfl) ⟨Nat.zero_le _, Nat.zero_le _⟩ dX1_planLeadsTo_19 ?_
  refine lv_goto (tgt := 30) hx hb dX1_planLeadsTo_22 (by decide) ?_
  exact W.iret hx hb hr (fun t ht hW => ⟨⟨_, (), rfl, rfl, by show gP E _ t.heap; rw [ht]; exact hP⟩, hS.F ht⟩) hS.2.2 dX1_planLeadsTo_30
set_option maxHeartbeats 4000000 in
set_option maxRecDepth 100000 in
theorem m_planLeadsTo_b (l : Launch) (E : GE) (a : Nat → Nat) (τ : MS) (sz : Nat) (hO : MOK τ) (pp : Int32) (hp : mIsP τ pp = false) : Met l yX1_planLeadsTo wsX1_planLeadsTo { frames := 5, cells := 0, slots := 0, locals := 109 } (va_Pc [.ref (a 0), .int pp] (gBw E sz (mW E a τ))) (gQi E (0) (mW E a τ) (mW E a (mThr (mTab (mThr τ 0)) 1)) sz) 0 0 (va_A (mW E a τ) sz) := by
  refine w_met (cc := cX1_planLeadsTo) (maxL := 2) (ret := (some .int)) (by decide) rfl (Nat.le_of_ble_eq_true rfl) ?_
  intro p e s m below meth c ls S hr hlocks hname hB hl
  obtain ⟨hsz, hP, hK, hD0⟩ := hB
  subst hsz
  have hD := hD0.self (sz := s.heap.size)
  have hA : ∀ q : Nat, s.heap.size ≤ q → va_A (mW E a τ) s.heap.size q := fun q h => Or.inr h
  have hS : va_S (va_A (mW E a τ) s.heap.size) s.heap s.heap [] := va_S.rf
  obtain ⟨hx, hb, hml, hown, hts⟩ := id S
  have hts0 := hinX1_planLeadsTo
  have hl : lv_has ls 2 [(0, .ref (a 0)), (1, .int pp)] := hl
  refine lv_aload_n hx hb dX1_planLeadsTo_0 rfl (lv_at hl 0 rfl) ?_
  refine lv_iconst (v := 0) hx hb dX1_planLeadsTo_1 (by decide) ?_
  refine va_put (D := E.1) (ci := 1) (v := .int 0) (ty := .int) (C := RX1) (T := TX1) (N := 13) hx hb hts hts0 tyX1 tyX1_ok nmX1 hown hK hP hD hS 0 rfl rfl 0 (by decide) (hts (.fieldLink RX1 42 "ExamGardenModel" "thrown" "I") (by decide +kernel)) (fun _ h9 => h9) rfl (by decide +kernel) rfl rfl (Nat.le_of_ble_eq_true rfl) dX1_planLeadsTo_2 (fun H locs hP hD hS => ?_)
  have hP : gP E (mW E a (0, mn τ, mk τ, mf τ, mo τ, mh τ, md τ, mr τ, mu τ, mv τ, ms τ, mp τ, mw τ)) H := hP
  have hD : va_D (va_A (mW E a τ) s.heap.size) (mW E a (0, mn τ, mk τ, mf τ, mo τ, mh τ, md τ, mr τ, mu τ, mv τ, ms τ, mp τ, mw τ)) := hD
  refine lv_aload_n hx hb dX1_planLeadsTo_5 rfl (lv_at hl 0 rfl) ?_
  refine m0wv (As := []) (rest := []) (τ' := mTab (0, mn τ, mk τ, mf τ, mo τ, mh τ, md τ, mr τ, mu τ, mv τ, ms τ, mp τ, mw τ)) S (m_table l E a (0, mn τ, mk τ, mf τ, mo τ, mh τ, md τ, mr τ, mu τ, mv τ, ms τ, mp τ, mw τ) _ hO) (cwV 0 hts gX1_planLeadsTo_X1_table rfl rfl rfl hdX1_table ⟨Nat.le_of_ble_eq_true rfl, Nat.le_of_ble_eq_true rfl⟩) hK hP hD hS hA rfl hl.1 rfl (Nat.le_of_ble_eq_true rfl) ⟨Nat.zero_le _, Nat.zero_le _⟩ dX1_planLeadsTo_6 (fun H locs hP hD hS => ?_)
  refine lv_aload_n hx hb dX1_planLeadsTo_9 rfl (lv_at hl 0 rfl) ?_
  refine lv_iload_n hx hb dX1_planLeadsTo_10 rfl (lv_at hl 1 rfl) ?_
  refine m0i (As := [.int pp]) (rest := []) S (m_isPlace l E a (mTab (0, mn τ, mk τ, mf τ, mo τ, mh τ, md τ, mr τ, mu τ, mv τ, ms τ, mp τ, mw τ)) pp) (cwV 1 hts gX1_planLeadsTo_X1_isPlace rfl rfl rfl hdX1_isPlace ⟨Nat.le_of_ble_eq_true rfl, Nat.le_of_ble_eq_true rfl⟩) hK hP rfl hl.1 rfl (Nat.le_of_ble_eq_true rfl) ⟨Nat.zero_le _, Nat.zero_le _⟩ dX1_planLeadsTo_11 ?_
  refine lv_if_eq (tgt := 25) hx hb dX1_planLeadsTo_14 (by decide) (fun _ => ?_) (fun q => absurd ((b2i_eq0.mpr hp)) q)
  refine lv_aload_n hx hb dX1_planLeadsTo_25 rfl (lv_at hl 0 rfl) ?_
  refine lv_iconst (v := 1) hx hb dX1_planLeadsTo_26 (by decide) ?_
  refine m0wi (As := [.int 1]) (rest := []) (τ' := mThr (mTab (0, mn τ, mk τ, mf τ, mo τ, mh τ, md τ, mr τ, mu τ, mv τ, ms τ, mp τ, mw τ)) 1) S (m_no l E a (mTab (0, mn τ, mk τ, mf τ, mo τ, mh τ, md τ, mr τ, mu τ, mv τ, ms τ, mp τ, mw τ)) _ 1) (cwV 1 hts gX1_planLeadsTo_X1_no rfl rfl rfl hdX1_no ⟨Nat.le_of_ble_eq_true rfl, Nat.le_of_ble_eq_true rfl⟩) hK hP hD hS hA rfl hl.1 rfl (Nat.le_of_ble_eq_true rfl) ⟨Nat.zero_le _, Nat.zero_le _⟩ dX1_planLeadsTo_27 (fun H locs hP hD hS => ?_)
  exact W.iret hx hb hr (fun t ht hW => ⟨⟨_, (), rfl, rfl, by show gP E _ t.heap; rw [ht]; exact hP⟩, hS.F ht⟩) hS.2.2 dX1_planLeadsTo_30
theorem hinX1_regretOf : ∀ w ∈ wsX10, w ∈ wsX1_regretOf := fun w h => List.mem_cons_of_mem _ (List.mem_append_right _ h)
theorem hdX1_regretOf : yX1_regretOf.cls = RX1 ∧ yX1_regretOf.cls ≠ "java/lang/invoke/MethodHandle" ∧ yX1_regretOf.cls ≠ "java/lang/invoke/VarHandle" ∧ (parseMethodDescriptor yX1_regretOf.desc).map (fun d => d.parameters.length) = some 1 := by decide +kernel
set_option maxHeartbeats 4000000 in
set_option maxRecDepth 100000 in
theorem m_regretOf (l : Launch) (E : GE) (a : Nat → Nat) (τ : MS) (sz : Nat) (hO : MOK τ) (k : Nat) (hk : k < mk τ) (hp : mIsS τ (nI k) = true) (hG : mGd τ (ms τ k) = true) : Met l yX1_regretOf wsX1_regretOf { frames := 4, cells := 0, slots := 0, locals := 91 } (va_Pc [.ref (a 0), .int (nI k)] (gBw E sz (mW E a τ))) (gQi E (mRegs τ k) (mW E a τ) (mW E a (mThr τ 0)) sz) 0 0 (va_A (mW E a τ) sz) := by
  refine w_met (cc := cX1_regretOf) (maxL := 2) (ret := (some .int)) (by decide) rfl (Nat.le_of_ble_eq_true rfl) ?_
  intro p e s m below meth c ls S hr hlocks hname hB hl
  obtain ⟨hsz, hP, hK, hD0⟩ := hB
  subst hsz
  have hD := hD0.self (sz := s.heap.size)
  have hA : ∀ q : Nat, s.heap.size ≤ q → va_A (mW E a τ) s.heap.size q := fun q h => Or.inr h
  have hS : va_S (va_A (mW E a τ) s.heap.size) s.heap s.heap [] := va_S.rf
  obtain ⟨hx, hb, hml, hown, hts⟩ := id S
  have tk := hO.2.1
  have hts0 := hinX1_regretOf
  have hl : lv_has ls 2 [(0, .ref (a 0)), (1, .int (nI k))] := hl
  refine lv_aload_n hx hb dX1_regretOf_0 rfl (lv_at hl 0 rfl) ?_
  refine lv_iconst (v := 0) hx hb dX1_regretOf_1 (by decide) ?_
  refine va_put (D := E.1) (ci := 1) (v := .int 0) (ty := .int) (C := RX1) (T := TX1) (N := 13) hx hb hts hts0 tyX1 tyX1_ok nmX1 hown hK hP hD hS 0 rfl rfl 0 (by decide) (hts (.fieldLink RX1 42 "ExamGardenModel" "thrown" "I") (by decide +kernel)) (fun _ h9 => h9) rfl (by decide +kernel) rfl rfl (Nat.le_of_ble_eq_true rfl) dX1_regretOf_2 (fun H locs hP hD hS => ?_)
  have hP : gP E (mW E a (0, mn τ, mk τ, mf τ, mo τ, mh τ, md τ, mr τ, mu τ, mv τ, ms τ, mp τ, mw τ)) H := hP
  have hD : va_D (va_A (mW E a τ) s.heap.size) (mW E a (0, mn τ, mk τ, mf τ, mo τ, mh τ, md τ, mr τ, mu τ, mv τ, ms τ, mp τ, mw τ)) := hD
  refine lv_aload_n hx hb dX1_regretOf_5 rfl (lv_at hl 0 rfl) ?_
  refine lv_iload_n hx hb dX1_regretOf_6 rfl (lv_at hl 1 rfl) ?_
  refine m0i (As := [.int (nI k)]) (rest := []) S (m_isStudent l E a (0, mn τ, mk τ, mf τ, mo τ, mh τ, md τ, mr τ, mu τ, mv τ, ms τ, mp τ, mw τ) (nI k)) (cwV 1 hts gX1_regretOf_X1_isStudent rfl rfl rfl hdX1_isStudent ⟨Nat.le_of_ble_eq_true rfl, Nat.le_of_ble_eq_true rfl⟩) hK hP rfl hl.1 rfl (Nat.le_of_ble_eq_true rfl) ⟨Nat.zero_le _, Nat.zero_le _⟩ dX1_regretOf_7 ?_
  refine lv_if_ne (tgt := 19) hx hb dX1_regretOf_10 (by decide) (fun _ => ?_) (fun q => absurd q ((b2i_ne0.mpr hp)))
  refine lv_aload_n hx hb dX1_regretOf_19 rfl (lv_at hl 0 rfl) ?_
  refine lv_iload_n hx hb dX1_regretOf_20 rfl (lv_at hl 1 rfl) ?_
  refine m0i (As := [.int (nI k)]) (rest := []) S (m_isKnown l E a (0, mn τ, mk τ, mf τ, mo τ, mh τ, md τ, mr τ, mu τ, mv τ, ms τ, mp τ, mw τ) hO k (by omega)) (cwV 1 hts gX1_regretOf_X1_isKnown rfl rfl rfl hdX1_isKnown ⟨Nat.le_of_ble_eq_true rfl, Nat.le_of_ble_eq_true rfl⟩) hK hP rfl hl.1 rfl (Nat.le_of_ble_eq_true rfl) ⟨Nat.zero_le _, Nat.zero_le _⟩ dX1_regretOf_21 ?_
  refine lv_if_eq (tgt := 35) hx hb dX1_regretOf_24 (by decide) (fun q => absurd q ((b2i_ne0.mpr hG))) (fun _ => ?_)
  refine lv_aload_n hx hb dX1_regretOf_27 rfl (lv_at hl 0 rfl) ?_
  refine lv_iload_n hx hb dX1_regretOf_28 rfl (lv_at hl 1 rfl) ?_
  refine m0i (As := [.int (nI k)]) (rest := []) S (m_regrets l E a (0, mn τ, mk τ, mf τ, mo τ, mh τ, md τ, mr τ, mu τ, mv τ, ms τ, mp τ, mw τ) hO k (by omega)) (cwV 1 hts gX1_regretOf_X1_regrets rfl rfl rfl hdX1_regrets ⟨Nat.le_of_ble_eq_true rfl, Nat.le_of_ble_eq_true rfl⟩) hK hP rfl hl.1 rfl (Nat.le_of_ble_eq_true rfl) ⟨Nat.zero_le _, Nat.zero_le _⟩ dX1_regretOf_29 ?_
  refine lv_goto (tgt := 40) hx hb dX1_regretOf_32 (by decide) ?_
  exact W.iret hx hb hr (fun t ht hW => ⟨⟨_, (), rfl, rfl, by show gP E _ t.heap; rw [ht]; exact hP⟩, hS.F ht⟩) hS.2.2 dX1_regretOf_40
set_option maxHeartbeats 4000000 in
set_option maxRecDepth 100000 in
theorem m_regretOf_b (l : Launch) (E : GE) (a : Nat → Nat) (τ : MS) (sz : Nat) (pp : Int32) (hp : mIsS τ pp = false) : Met l yX1_regretOf wsX1_regretOf { frames := 4, cells := 0, slots := 0, locals := 91 } (va_Pc [.ref (a 0), .int pp] (gBw E sz (mW E a τ))) (gQi E (0) (mW E a τ) (mW E a (mThr τ 1)) sz) 0 0 (va_A (mW E a τ) sz) := by
  refine w_met (cc := cX1_regretOf) (maxL := 2) (ret := (some .int)) (by decide) rfl (Nat.le_of_ble_eq_true rfl) ?_
  intro p e s m below meth c ls S hr hlocks hname hB hl
  obtain ⟨hsz, hP, hK, hD0⟩ := hB
  subst hsz
  have hD := hD0.self (sz := s.heap.size)
  have hA : ∀ q : Nat, s.heap.size ≤ q → va_A (mW E a τ) s.heap.size q := fun q h => Or.inr h
  have hS : va_S (va_A (mW E a τ) s.heap.size) s.heap s.heap [] := va_S.rf
  obtain ⟨hx, hb, hml, hown, hts⟩ := id S
  have hts0 := hinX1_regretOf
  have hl : lv_has ls 2 [(0, .ref (a 0)), (1, .int pp)] := hl
  refine lv_aload_n hx hb dX1_regretOf_0 rfl (lv_at hl 0 rfl) ?_
  refine lv_iconst (v := 0) hx hb dX1_regretOf_1 (by decide) ?_
  refine va_put (D := E.1) (ci := 1) (v := .int 0) (ty := .int) (C := RX1) (T := TX1) (N := 13) hx hb hts hts0 tyX1 tyX1_ok nmX1 hown hK hP hD hS 0 rfl rfl 0 (by decide) (hts (.fieldLink RX1 42 "ExamGardenModel" "thrown" "I") (by decide +kernel)) (fun _ h9 => h9) rfl (by decide +kernel) rfl rfl (Nat.le_of_ble_eq_true rfl) dX1_regretOf_2 (fun H locs hP hD hS => ?_)
  have hP : gP E (mW E a (0, mn τ, mk τ, mf τ, mo τ, mh τ, md τ, mr τ, mu τ, mv τ, ms τ, mp τ, mw τ)) H := hP
  have hD : va_D (va_A (mW E a τ) s.heap.size) (mW E a (0, mn τ, mk τ, mf τ, mo τ, mh τ, md τ, mr τ, mu τ, mv τ, ms τ, mp τ, mw τ)) := hD
  refine lv_aload_n hx hb dX1_regretOf_5 rfl (lv_at hl 0 rfl) ?_
  refine lv_iload_n hx hb dX1_regretOf_6 rfl (lv_at hl 1 rfl) ?_
  refine m0i (As := [.int pp]) (rest := []) S (m_isStudent l E a (0, mn τ, mk τ, mf τ, mo τ, mh τ, md τ, mr τ, mu τ, mv τ, ms τ, mp τ, mw τ) pp) (cwV 1 hts gX1_regretOf_X1_isStudent rfl rfl rfl hdX1_isStudent ⟨Nat.le_of_ble_eq_true rfl, Nat.le_of_ble_eq_true rfl⟩) hK hP rfl hl.1 rfl (Nat.le_of_ble_eq_true rfl) ⟨Nat.zero_le _, Nat.zero_le _⟩ dX1_regretOf_7 ?_
  refine lv_if_ne (tgt := 19) hx hb dX1_regretOf_10 (by decide) (fun q => absurd ((b2i_eq0.mpr hp)) q) (fun _ => ?_)
  refine lv_aload_n hx hb dX1_regretOf_13 rfl (lv_at hl 0 rfl) ?_
  refine lv_iconst (v := 1) hx hb dX1_regretOf_14 (by decide) ?_
  refine m0wi (As := [.int 1]) (rest := []) (τ' := mThr (0, mn τ, mk τ, mf τ, mo τ, mh τ, md τ, mr τ, mu τ, mv τ, ms τ, mp τ, mw τ) 1) S (m_no l E a (0, mn τ, mk τ, mf τ, mo τ, mh τ, md τ, mr τ, mu τ, mv τ, ms τ, mp τ, mw τ) _ 1) (cwV 1 hts gX1_regretOf_X1_no rfl rfl rfl hdX1_no ⟨Nat.le_of_ble_eq_true rfl, Nat.le_of_ble_eq_true rfl⟩) hK hP hD hS hA rfl hl.1 rfl (Nat.le_of_ble_eq_true rfl) ⟨Nat.zero_le _, Nat.zero_le _⟩ dX1_regretOf_15 (fun H locs hP hD hS => ?_)
  exact W.iret hx hb hr (fun t ht hW => ⟨⟨_, (), rfl, rfl, by show gP E _ t.heap; rw [ht]; exact hP⟩, hS.F ht⟩) hS.2.2 dX1_regretOf_18
set_option maxHeartbeats 4000000 in
set_option maxRecDepth 100000 in
theorem m_regretOf_g (l : Launch) (E : GE) (a : Nat → Nat) (τ : MS) (sz : Nat) (hO : MOK τ) (k : Nat) (hk : k < mk τ) (hp : mIsS τ (nI k) = true) (hG : mGd τ (ms τ k) = false) : Met l yX1_regretOf wsX1_regretOf { frames := 4, cells := 0, slots := 0, locals := 91 } (va_Pc [.ref (a 0), .int (nI k)] (gBw E sz (mW E a τ))) (gQi E (0) (mW E a τ) (mW E a (mThr τ 2)) sz) 0 0 (va_A (mW E a τ) sz) := by
  refine w_met (cc := cX1_regretOf) (maxL := 2) (ret := (some .int)) (by decide) rfl (Nat.le_of_ble_eq_true rfl) ?_
  intro p e s m below meth c ls S hr hlocks hname hB hl
  obtain ⟨hsz, hP, hK, hD0⟩ := hB
  subst hsz
  have hD := hD0.self (sz := s.heap.size)
  have hA : ∀ q : Nat, s.heap.size ≤ q → va_A (mW E a τ) s.heap.size q := fun q h => Or.inr h
  have hS : va_S (va_A (mW E a τ) s.heap.size) s.heap s.heap [] := va_S.rf
  obtain ⟨hx, hb, hml, hown, hts⟩ := id S
  have tk := hO.2.1
  have hts0 := hinX1_regretOf
  have hl : lv_has ls 2 [(0, .ref (a 0)), (1, .int (nI k))] := hl
  refine lv_aload_n hx hb dX1_regretOf_0 rfl (lv_at hl 0 rfl) ?_
  refine lv_iconst (v := 0) hx hb dX1_regretOf_1 (by decide) ?_
  refine va_put (D := E.1) (ci := 1) (v := .int 0) (ty := .int) (C := RX1) (T := TX1) (N := 13) hx hb hts hts0 tyX1 tyX1_ok nmX1 hown hK hP hD hS 0 rfl rfl 0 (by decide) (hts (.fieldLink RX1 42 "ExamGardenModel" "thrown" "I") (by decide +kernel)) (fun _ h9 => h9) rfl (by decide +kernel) rfl rfl (Nat.le_of_ble_eq_true rfl) dX1_regretOf_2 (fun H locs hP hD hS => ?_)
  have hP : gP E (mW E a (0, mn τ, mk τ, mf τ, mo τ, mh τ, md τ, mr τ, mu τ, mv τ, ms τ, mp τ, mw τ)) H := hP
  have hD : va_D (va_A (mW E a τ) s.heap.size) (mW E a (0, mn τ, mk τ, mf τ, mo τ, mh τ, md τ, mr τ, mu τ, mv τ, ms τ, mp τ, mw τ)) := hD
  refine lv_aload_n hx hb dX1_regretOf_5 rfl (lv_at hl 0 rfl) ?_
  refine lv_iload_n hx hb dX1_regretOf_6 rfl (lv_at hl 1 rfl) ?_
  refine m0i (As := [.int (nI k)]) (rest := []) S (m_isStudent l E a (0, mn τ, mk τ, mf τ, mo τ, mh τ, md τ, mr τ, mu τ, mv τ, ms τ, mp τ, mw τ) (nI k)) (cwV 1 hts gX1_regretOf_X1_isStudent rfl rfl rfl hdX1_isStudent ⟨Nat.le_of_ble_eq_true rfl, Nat.le_of_ble_eq_true rfl⟩) hK hP rfl hl.1 rfl (Nat.le_of_ble_eq_true rfl) ⟨Nat.zero_le _, Nat.zero_le _⟩ dX1_regretOf_7 ?_
  refine lv_if_ne (tgt := 19) hx hb dX1_regretOf_10 (by decide) (fun _ => ?_) (fun q => absurd q ((b2i_ne0.mpr hp)))
  refine lv_aload_n hx hb dX1_regretOf_19 rfl (lv_at hl 0 rfl) ?_
  refine lv_iload_n hx hb dX1_regretOf_20 rfl (lv_at hl 1 rfl) ?_
  refine m0i (As := [.int (nI k)]) (rest := []) S (m_isKnown l E a (0, mn τ, mk τ, mf τ, mo τ, mh τ, md τ, mr τ, mu τ, mv τ, ms τ, mp τ, mw τ) hO k (by omega)) (cwV 1 hts gX1_regretOf_X1_isKnown rfl rfl rfl hdX1_isKnown ⟨Nat.le_of_ble_eq_true rfl, Nat.le_of_ble_eq_true rfl⟩) hK hP rfl hl.1 rfl (Nat.le_of_ble_eq_true rfl) ⟨Nat.zero_le _, Nat.zero_le _⟩ dX1_regretOf_21 ?_
  refine lv_if_eq (tgt := 35) hx hb dX1_regretOf_24 (by decide) (fun _ => ?_) (fun q => absurd ((b2i_eq0.mpr hG)) q)
  refine lv_aload_n hx hb dX1_regretOf_35 rfl (lv_at hl 0 rfl) ?_
  refine lv_iconst (v := 2) hx hb dX1_regretOf_36 (by decide) ?_
  refine m0wi (As := [.int 2]) (rest := []) (τ' := mThr (0, mn τ, mk τ, mf τ, mo τ, mh τ, md τ, mr τ, mu τ, mv τ, ms τ, mp τ, mw τ) 2) S (m_no l E a (0, mn τ, mk τ, mf τ, mo τ, mh τ, md τ, mr τ, mu τ, mv τ, ms τ, mp τ, mw τ) _ 2) (cwV 1 hts gX1_regretOf_X1_no rfl rfl rfl hdX1_no ⟨Nat.le_of_ble_eq_true rfl, Nat.le_of_ble_eq_true rfl⟩) hK hP hD hS hA rfl hl.1 rfl (Nat.le_of_ble_eq_true rfl) ⟨Nat.zero_le _, Nat.zero_le _⟩ dX1_regretOf_37 (fun H locs hP hD hS => ?_)
  exact W.iret hx hb hr (fun t ht hW => ⟨⟨_, (), rfl, rfl, by show gP E _ t.heap; rw [ht]; exact hP⟩, hS.F ht⟩) hS.2.2 dX1_regretOf_40
theorem hinX1_worstFork : ∀ w ∈ wsX10, w ∈ wsX1_worstFork := fun w h => List.mem_cons_of_mem _ (List.mem_append_right _ h)
theorem hdX1_worstFork : yX1_worstFork.cls = RX1 ∧ yX1_worstFork.cls ≠ "java/lang/invoke/MethodHandle" ∧ yX1_worstFork.cls ≠ "java/lang/invoke/VarHandle" ∧ (parseMethodDescriptor yX1_worstFork.desc).map (fun d => d.parameters.length) = some 1 := by decide +kernel
set_option maxHeartbeats 4000000 in
set_option maxRecDepth 100000 in
theorem m_worstFork (l : Launch) (E : GE) (a : Nat → Nat) (τ : MS) (sz : Nat) (hO : MOK τ) (k : Nat) (hk : k < mk τ) (hp : mIsS τ (nI k) = true) (hG : mGd τ (ms τ k) = true) : Met l yX1_worstFork wsX1_worstFork { frames := 4, cells := 0, slots := 0, locals := 92 } (va_Pc [.ref (a 0), .int (nI k)] (gBw E sz (mW E a τ))) (gQi E ((mWf τ k).1) (mW E a τ) (mW E a (mThr τ 0)) sz) 0 0 (va_A (mW E a τ) sz) := by
  refine w_met (cc := cX1_worstFork) (maxL := 2) (ret := (some .int)) (by decide) rfl (Nat.le_of_ble_eq_true rfl) ?_
  intro p e s m below meth c ls S hr hlocks hname hB hl
  obtain ⟨hsz, hP, hK, hD0⟩ := hB
  subst hsz
  have hD := hD0.self (sz := s.heap.size)
  have hA : ∀ q : Nat, s.heap.size ≤ q → va_A (mW E a τ) s.heap.size q := fun q h => Or.inr h
  have hS : va_S (va_A (mW E a τ) s.heap.size) s.heap s.heap [] := va_S.rf
  obtain ⟨hx, hb, hml, hown, hts⟩ := id S
  have tk := hO.2.1
  have hts0 := hinX1_worstFork
  have hl : lv_has ls 2 [(0, .ref (a 0)), (1, .int (nI k))] := hl
  refine lv_aload_n hx hb dX1_worstFork_0 rfl (lv_at hl 0 rfl) ?_
  refine lv_iconst (v := 0) hx hb dX1_worstFork_1 (by decide) ?_
  refine va_put (D := E.1) (ci := 1) (v := .int 0) (ty := .int) (C := RX1) (T := TX1) (N := 13) hx hb hts hts0 tyX1 tyX1_ok nmX1 hown hK hP hD hS 0 rfl rfl 0 (by decide) (hts (.fieldLink RX1 42 "ExamGardenModel" "thrown" "I") (by decide +kernel)) (fun _ h9 => h9) rfl (by decide +kernel) rfl rfl (Nat.le_of_ble_eq_true rfl) dX1_worstFork_2 (fun H locs hP hD hS => ?_)
  have hP : gP E (mW E a (0, mn τ, mk τ, mf τ, mo τ, mh τ, md τ, mr τ, mu τ, mv τ, ms τ, mp τ, mw τ)) H := hP
  have hD : va_D (va_A (mW E a τ) s.heap.size) (mW E a (0, mn τ, mk τ, mf τ, mo τ, mh τ, md τ, mr τ, mu τ, mv τ, ms τ, mp τ, mw τ)) := hD
  refine lv_aload_n hx hb dX1_worstFork_5 rfl (lv_at hl 0 rfl) ?_
  refine lv_iload_n hx hb dX1_worstFork_6 rfl (lv_at hl 1 rfl) ?_
  refine m0i (As := [.int (nI k)]) (rest := []) S (m_isStudent l E a (0, mn τ, mk τ, mf τ, mo τ, mh τ, md τ, mr τ, mu τ, mv τ, ms τ, mp τ, mw τ) (nI k)) (cwV 1 hts gX1_worstFork_X1_isStudent rfl rfl rfl hdX1_isStudent ⟨Nat.le_of_ble_eq_true rfl, Nat.le_of_ble_eq_true rfl⟩) hK hP rfl hl.1 rfl (Nat.le_of_ble_eq_true rfl) ⟨Nat.zero_le _, Nat.zero_le _⟩ dX1_worstFork_7 ?_
  refine lv_if_ne (tgt := 19) hx hb dX1_worstFork_10 (by decide) (fun _ => ?_) (fun q => absurd q ((b2i_ne0.mpr hp)))
  refine lv_aload_n hx hb dX1_worstFork_19 rfl (lv_at hl 0 rfl) ?_
  refine lv_iload_n hx hb dX1_worstFork_20 rfl (lv_at hl 1 rfl) ?_
  refine m0i (As := [.int (nI k)]) (rest := []) S (m_isKnown l E a (0, mn τ, mk τ, mf τ, mo τ, mh τ, md τ, mr τ, mu τ, mv τ, ms τ, mp τ, mw τ) hO k (by omega)) (cwV 1 hts gX1_worstFork_X1_isKnown rfl rfl rfl hdX1_isKnown ⟨Nat.le_of_ble_eq_true rfl, Nat.le_of_ble_eq_true rfl⟩) hK hP rfl hl.1 rfl (Nat.le_of_ble_eq_true rfl) ⟨Nat.zero_le _, Nat.zero_le _⟩ dX1_worstFork_21 ?_
  refine lv_if_eq (tgt := 35) hx hb dX1_worstFork_24 (by decide) (fun q => absurd q ((b2i_ne0.mpr hG))) (fun _ => ?_)
  refine lv_aload_n hx hb dX1_worstFork_27 rfl (lv_at hl 0 rfl) ?_
  refine lv_iload_n hx hb dX1_worstFork_28 rfl (lv_at hl 1 rfl) ?_
  refine m0i (As := [.int (nI k)]) (rest := []) S (m_worst l E a (0, mn τ, mk τ, mf τ, mo τ, mh τ, md τ, mr τ, mu τ, mv τ, ms τ, mp τ, mw τ) hO k (by omega)) (cwV 1 hts gX1_worstFork_X1_worst rfl rfl rfl hdX1_worst ⟨Nat.le_of_ble_eq_true rfl, Nat.le_of_ble_eq_true rfl⟩) hK hP rfl hl.1 rfl (Nat.le_of_ble_eq_true rfl) ⟨Nat.zero_le _, Nat.zero_le _⟩ dX1_worstFork_29 ?_
  refine lv_goto (tgt := 40) hx hb dX1_worstFork_32 (by decide) ?_
  exact W.iret hx hb hr (fun t ht hW => ⟨⟨_, (), rfl, rfl, by show gP E _ t.heap; rw [ht]; exact hP⟩, hS.F ht⟩) hS.2.2 dX1_worstFork_40
set_option maxHeartbeats 4000000 in
set_option maxRecDepth 100000 in
theorem m_worstFork_b (l : Launch) (E : GE) (a : Nat → Nat) (τ : MS) (sz : Nat) (pp : Int32) (hp : mIsS τ pp = false) : Met l yX1_worstFork wsX1_worstFork { frames := 4, cells := 0, slots := 0, locals := 92 } (va_Pc [.ref (a 0), .int pp] (gBw E sz (mW E a τ))) (gQi E (0) (mW E a τ) (mW E a (mThr τ 1)) sz) 0 0 (va_A (mW E a τ) sz) := by
  refine w_met (cc := cX1_worstFork) (maxL := 2) (ret := (some .int)) (by decide) rfl (Nat.le_of_ble_eq_true rfl) ?_
  intro p e s m below meth c ls S hr hlocks hname hB hl
  obtain ⟨hsz, hP, hK, hD0⟩ := hB
  subst hsz
  have hD := hD0.self (sz := s.heap.size)
  have hA : ∀ q : Nat, s.heap.size ≤ q → va_A (mW E a τ) s.heap.size q := fun q h => Or.inr h
  have hS : va_S (va_A (mW E a τ) s.heap.size) s.heap s.heap [] := va_S.rf
  obtain ⟨hx, hb, hml, hown, hts⟩ := id S
  have hts0 := hinX1_worstFork
  have hl : lv_has ls 2 [(0, .ref (a 0)), (1, .int pp)] := hl
  refine lv_aload_n hx hb dX1_worstFork_0 rfl (lv_at hl 0 rfl) ?_
  refine lv_iconst (v := 0) hx hb dX1_worstFork_1 (by decide) ?_
  refine va_put (D := E.1) (ci := 1) (v := .int 0) (ty := .int) (C := RX1) (T := TX1) (N := 13) hx hb hts hts0 tyX1 tyX1_ok nmX1 hown hK hP hD hS 0 rfl rfl 0 (by decide) (hts (.fieldLink RX1 42 "ExamGardenModel" "thrown" "I") (by decide +kernel)) (fun _ h9 => h9) rfl (by decide +kernel) rfl rfl (Nat.le_of_ble_eq_true rfl) dX1_worstFork_2 (fun H locs hP hD hS => ?_)
  have hP : gP E (mW E a (0, mn τ, mk τ, mf τ, mo τ, mh τ, md τ, mr τ, mu τ, mv τ, ms τ, mp τ, mw τ)) H := hP
  have hD : va_D (va_A (mW E a τ) s.heap.size) (mW E a (0, mn τ, mk τ, mf τ, mo τ, mh τ, md τ, mr τ, mu τ, mv τ, ms τ, mp τ, mw τ)) := hD
  refine lv_aload_n hx hb dX1_worstFork_5 rfl (lv_at hl 0 rfl) ?_
  refine lv_iload_n hx hb dX1_worstFork_6 rfl (lv_at hl 1 rfl) ?_
  refine m0i (As := [.int pp]) (rest := []) S (m_isStudent l E a (0, mn τ, mk τ, mf τ, mo τ, mh τ, md τ, mr τ, mu τ, mv τ, ms τ, mp τ, mw τ) pp) (cwV 1 hts gX1_worstFork_X1_isStudent rfl rfl rfl hdX1_isStudent ⟨Nat.le_of_ble_eq_true rfl, Nat.le_of_ble_eq_true rfl⟩) hK hP rfl hl.1 rfl (Nat.le_of_ble_eq_true rfl) ⟨Nat.zero_le _, Nat.zero_le _⟩ dX1_worstFork_7 ?_
  refine lv_if_ne (tgt := 19) hx hb dX1_worstFork_10 (by decide) (fun q => absurd ((b2i_eq0.mpr hp)) q) (fun _ => ?_)
  refine lv_aload_n hx hb dX1_worstFork_13 rfl (lv_at hl 0 rfl) ?_
  refine lv_iconst (v := 1) hx hb dX1_worstFork_14 (by decide) ?_
  refine m0wi (As := [.int 1]) (rest := []) (τ' := mThr (0, mn τ, mk τ, mf τ, mo τ, mh τ, md τ, mr τ, mu τ, mv τ, ms τ, mp τ, mw τ) 1) S (m_no l E a (0, mn τ, mk τ, mf τ, mo τ, mh τ, md τ, mr τ, mu τ, mv τ, ms τ, mp τ, mw τ) _ 1) (cwV 1 hts gX1_worstFork_X1_no rfl rfl rfl hdX1_no ⟨Nat.le_of_ble_eq_true rfl, Nat.le_of_ble_eq_true rfl⟩) hK hP hD hS hA rfl hl.1 rfl (Nat.le_of_ble_eq_true rfl) ⟨Nat.zero_le _, Nat.zero_le _⟩ dX1_worstFork_15 (fun H locs hP hD hS => ?_)
  exact W.iret hx hb hr (fun t ht hW => ⟨⟨_, (), rfl, rfl, by show gP E _ t.heap; rw [ht]; exact hP⟩, hS.F ht⟩) hS.2.2 dX1_worstFork_18
set_option maxHeartbeats 4000000 in
set_option maxRecDepth 100000 in
theorem m_worstFork_g (l : Launch) (E : GE) (a : Nat → Nat) (τ : MS) (sz : Nat) (hO : MOK τ) (k : Nat) (hk : k < mk τ) (hp : mIsS τ (nI k) = true) (hG : mGd τ (ms τ k) = false) : Met l yX1_worstFork wsX1_worstFork { frames := 4, cells := 0, slots := 0, locals := 92 } (va_Pc [.ref (a 0), .int (nI k)] (gBw E sz (mW E a τ))) (gQi E (0) (mW E a τ) (mW E a (mThr τ 2)) sz) 0 0 (va_A (mW E a τ) sz) := by
  refine w_met (cc := cX1_worstFork) (maxL := 2) (ret := (some .int)) (by decide) rfl (Nat.le_of_ble_eq_true rfl) ?_
  intro p e s m below meth c ls S hr hlocks hname hB hl
  obtain ⟨hsz, hP, hK, hD0⟩ := hB
  subst hsz
  have hD := hD0.self (sz := s.heap.size)
  have hA : ∀ q : Nat, s.heap.size ≤ q → va_A (mW E a τ) s.heap.size q := fun q h => Or.inr h
  have hS : va_S (va_A (mW E a τ) s.heap.size) s.heap s.heap [] := va_S.rf
  obtain ⟨hx, hb, hml, hown, hts⟩ := id S
  have tk := hO.2.1
  have hts0 := hinX1_worstFork
  have hl : lv_has ls 2 [(0, .ref (a 0)), (1, .int (nI k))] := hl
  refine lv_aload_n hx hb dX1_worstFork_0 rfl (lv_at hl 0 rfl) ?_
  refine lv_iconst (v := 0) hx hb dX1_worstFork_1 (by decide) ?_
  refine va_put (D := E.1) (ci := 1) (v := .int 0) (ty := .int) (C := RX1) (T := TX1) (N := 13) hx hb hts hts0 tyX1 tyX1_ok nmX1 hown hK hP hD hS 0 rfl rfl 0 (by decide) (hts (.fieldLink RX1 42 "ExamGardenModel" "thrown" "I") (by decide +kernel)) (fun _ h9 => h9) rfl (by decide +kernel) rfl rfl (Nat.le_of_ble_eq_true rfl) dX1_worstFork_2 (fun H locs hP hD hS => ?_)
  have hP : gP E (mW E a (0, mn τ, mk τ, mf τ, mo τ, mh τ, md τ, mr τ, mu τ, mv τ, ms τ, mp τ, mw τ)) H := hP
  have hD : va_D (va_A (mW E a τ) s.heap.size) (mW E a (0, mn τ, mk τ, mf τ, mo τ, mh τ, md τ, mr τ, mu τ, mv τ, ms τ, mp τ, mw τ)) := hD
  refine lv_aload_n hx hb dX1_worstFork_5 rfl (lv_at hl 0 rfl) ?_
  refine lv_iload_n hx hb dX1_worstFork_6 rfl (lv_at hl 1 rfl) ?_
  refine m0i (As := [.int (nI k)]) (rest := []) S (m_isStudent l E a (0, mn τ, mk τ, mf τ, mo τ, mh τ, md τ, mr τ, mu τ, mv τ, ms τ, mp τ, mw τ) (nI k)) (cwV 1 hts gX1_worstFork_X1_isStudent rfl rfl rfl hdX1_isStudent ⟨Nat.le_of_ble_eq_true rfl, Nat.le_of_ble_eq_true rfl⟩) hK hP rfl hl.1 rfl (Nat.le_of_ble_eq_true rfl) ⟨Nat.zero_le _, Nat.zero_le _⟩ dX1_worstFork_7 ?_
  refine lv_if_ne (tgt := 19) hx hb dX1_worstFork_10 (by decide) (fun _ => ?_) (fun q => absurd q ((b2i_ne0.mpr hp)))
  refine lv_aload_n hx hb dX1_worstFork_19 rfl (lv_at hl 0 rfl) ?_
  refine lv_iload_n hx hb dX1_worstFork_20 rfl (lv_at hl 1 rfl) ?_
  refine m0i (As := [.int (nI k)]) (rest := []) S (m_isKnown l E a (0, mn τ, mk τ, mf τ, mo τ, mh τ, md τ, mr τ, mu τ, mv τ, ms τ, mp τ, mw τ) hO k (by omega)) (cwV 1 hts gX1_worstFork_X1_isKnown rfl rfl rfl hdX1_isKnown ⟨Nat.le_of_ble_eq_true rfl, Nat.le_of_ble_eq_true rfl⟩) hK hP rfl hl.1 rfl (Nat.le_of_ble_eq_true rfl) ⟨Nat.zero_le _, Nat.zero_le _⟩ dX1_worstFork_21 ?_
  refine lv_if_eq (tgt := 35) hx hb dX1_worstFork_24 (by decide) (fun _ => ?_) (fun q => absurd ((b2i_eq0.mpr hG)) q)
  refine lv_aload_n hx hb dX1_worstFork_35 rfl (lv_at hl 0 rfl) ?_
  refine lv_iconst (v := 2) hx hb dX1_worstFork_36 (by decide) ?_
  refine m0wi (As := [.int 2]) (rest := []) (τ' := mThr (0, mn τ, mk τ, mf τ, mo τ, mh τ, md τ, mr τ, mu τ, mv τ, ms τ, mp τ, mw τ) 2) S (m_no l E a (0, mn τ, mk τ, mf τ, mo τ, mh τ, md τ, mr τ, mu τ, mv τ, ms τ, mp τ, mw τ) _ 2) (cwV 1 hts gX1_worstFork_X1_no rfl rfl rfl hdX1_no ⟨Nat.le_of_ble_eq_true rfl, Nat.le_of_ble_eq_true rfl⟩) hK hP hD hS hA rfl hl.1 rfl (Nat.le_of_ble_eq_true rfl) ⟨Nat.zero_le _, Nat.zero_le _⟩ dX1_worstFork_37 (fun H locs hP hD hS => ?_)
  exact W.iret hx hb hr (fun t ht hW => ⟨⟨_, (), rfl, rfl, by show gP E _ t.heap; rw [ht]; exact hP⟩, hS.F ht⟩) hS.2.2 dX1_worstFork_40
theorem hinX1_addExam : ∀ w ∈ wsX10, w ∈ wsX1_addExam := fun w h => List.mem_cons_of_mem _ (List.mem_append_right _ h)
theorem hdX1_addExam : yX1_addExam.cls = RX1 ∧ yX1_addExam.cls ≠ "java/lang/invoke/MethodHandle" ∧ yX1_addExam.cls ≠ "java/lang/invoke/VarHandle" ∧ (parseMethodDescriptor yX1_addExam.desc).map (fun d => d.parameters.length) = some 2 := by decide +kernel
set_option maxHeartbeats 4000000 in
set_option maxRecDepth 100000 in
theorem m_addExam (l : Launch) (E : GE) (a : Nat → Nat) (τ : MS) (sz : Nat) (x y : Nat) (hxy : x ≤ y) (hy : y ≤ 20) (hn : mn τ < 40) : Met l yX1_addExam wsX1_addExam { frames := 1, cells := 0, slots := 0, locals := 21 } (va_Pc [.ref (a 0), .int (nI x), .int (nI y)] (gBw E sz (mW E a τ))) (gQi E (nI (mn τ)) (mW E a τ) (mW E a (mAddE τ x y)) sz) 0 0 (va_A (mW E a τ) sz) := by
  refine w_met (cc := cX1_addExam) (maxL := 3) (ret := (some .int)) (by decide) rfl (Nat.le_of_ble_eq_true rfl) ?_
  intro p e s m below meth c ls S hr hlocks hname hB hl
  obtain ⟨hsz, hP, hK, hD0⟩ := hB
  subst hsz
  have hD := hD0.self (sz := s.heap.size)
  have hA : ∀ q : Nat, s.heap.size ≤ q → va_A (mW E a τ) s.heap.size q := fun q h => Or.inr h
  have hS : va_S (va_A (mW E a τ) s.heap.size) s.heap s.heap [] := va_S.rf
  obtain ⟨hx, hb, hml, hown, hts⟩ := id S
  have hts0 := hinX1_addExam
  have hl : lv_has ls 3 [(0, .ref (a 0)), (1, .int (nI x)), (2, .int (nI y))] := hl
  refine lv_aload_n hx hb dX1_addExam_0 rfl (lv_at hl 0 rfl) ?_
  refine lv_iconst (v := 0) hx hb dX1_addExam_1 (by decide) ?_
  refine va_put (D := E.1) (ci := 1) (v := .int 0) (ty := .int) (C := RX1) (T := TX1) (N := 13) hx hb hts hts0 tyX1 tyX1_ok nmX1 hown hK hP hD hS 0 rfl rfl 0 (by decide) (hts (.fieldLink RX1 42 "ExamGardenModel" "thrown" "I") (by decide +kernel)) (fun _ h9 => h9) rfl (by decide +kernel) rfl rfl (Nat.le_of_ble_eq_true rfl) dX1_addExam_2 (fun H locs hP hD hS => ?_)
  have hP : gP E (mW E a (0, mn τ, mk τ, mf τ, mo τ, mh τ, md τ, mr τ, mu τ, mv τ, ms τ, mp τ, mw τ)) H := hP
  have hD : va_D (va_A (mW E a τ) s.heap.size) (mW E a (0, mn τ, mk τ, mf τ, mo τ, mh τ, md τ, mr τ, mu τ, mv τ, ms τ, mp τ, mw τ)) := hD
  refine lv_iload_n hx hb dX1_addExam_5 rfl (lv_at hl 1 rfl) ?_
  refine lv_if_lt (tgt := 20) hx hb dX1_addExam_6 (by decide) (fun q => absurd q ((nI_pos (by omega)))) (fun _ => ?_)
  refine lv_iload_n hx hb dX1_addExam_9 rfl (lv_at hl 2 rfl) ?_
  refine lv_bipush (v := nI 20) hx hb dX1_addExam_10 (by decide) ?_
  refine lv_icmp_gt (tgt := 20) hx hb dX1_addExam_12 (by decide) (fun q => absurd q ((nI_nlt (by omega) (by omega)))) (fun _ => ?_)
  refine lv_iload_n hx hb dX1_addExam_15 rfl (lv_at hl 2 rfl) ?_
  refine lv_iload_n hx hb dX1_addExam_16 rfl (lv_at hl 1 rfl) ?_
  refine lv_icmp_ge (tgt := 26) hx hb dX1_addExam_17 (by decide) (fun _ => ?_) (fun q => absurd ((nI_le (by omega) (by omega))) q)
  refine lv_aload_n hx hb dX1_addExam_26 rfl (lv_at hl 0 rfl) ?_
  refine m_get (τ := (0, mn τ, mk τ, mf τ, mo τ, mh τ, md τ, mr τ, mu τ, mv τ, ms τ, mp τ, mw τ)) hx hb hts hts0 hown hK hP 1 (by decide) (by decide +kernel) rfl rfl dX1_addExam_27 ?_
  refine lv_bipush (v := nI 40) hx hb dX1_addExam_30 (by decide) ?_
  refine lv_icmp_ne (tgt := 41) hx hb dX1_addExam_32 (by decide) (fun _ => ?_) (fun q => absurd q ((nI_neq (a := mn τ) (b := 40) (by omega) (by omega) (by decide))))
  refine lv_aload_n hx hb dX1_addExam_41 rfl (lv_at hl 0 rfl) ?_
  refine m_get (τ := (0, mn τ, mk τ, mf τ, mo τ, mh τ, md τ, mr τ, mu τ, mv τ, ms τ, mp τ, mw τ)) hx hb hts hts0 hown hK hP 4 (by decide) (by decide +kernel) rfl rfl dX1_addExam_42 ?_
  refine lv_aload_n hx hb dX1_addExam_45 rfl (lv_at hl 0 rfl) ?_
  refine m_get (τ := (0, mn τ, mk τ, mf τ, mo τ, mh τ, md τ, mr τ, mu τ, mv τ, ms τ, mp τ, mw τ)) hx hb hts hts0 hown hK hP 1 (by decide) (by decide +kernel) rfl rfl dX1_addExam_46 ?_
  refine lv_iload_n hx hb dX1_addExam_49 rfl (lv_at hl 1 rfl) ?_
  refine g_ist hx hb hK hP hD hS 2 rfl (f' := (fun z9 => nI (va_up ((mo τ)) (mn τ) x z9))) (vp_in_nI (by omega) (by decide)) (g_clu (k := mn τ) (by omega) (n_upd _ _ _)) dX1_addExam_50 (fun H locs hP hD hS => ?_)
  have hP : gP E (mW E a (0, mn τ, mk τ, mf τ, va_up ((mo τ)) (mn τ) x, mh τ, md τ, mr τ, mu τ, mv τ, ms τ, mp τ, mw τ)) H := hP
  have hD : va_D (va_A (mW E a τ) s.heap.size) (mW E a (0, mn τ, mk τ, mf τ, va_up ((mo τ)) (mn τ) x, mh τ, md τ, mr τ, mu τ, mv τ, ms τ, mp τ, mw τ)) := hD
  refine lv_aload_n hx hb dX1_addExam_51 rfl (lv_at hl 0 rfl) ?_
  refine m_get (τ := (0, mn τ, mk τ, mf τ, va_up ((mo τ)) (mn τ) x, mh τ, md τ, mr τ, mu τ, mv τ, ms τ, mp τ, mw τ)) hx hb hts hts0 hown hK hP 5 (by decide) (by decide +kernel) rfl rfl dX1_addExam_52 ?_
  refine lv_aload_n hx hb dX1_addExam_55 rfl (lv_at hl 0 rfl) ?_
  refine m_get (τ := (0, mn τ, mk τ, mf τ, va_up ((mo τ)) (mn τ) x, mh τ, md τ, mr τ, mu τ, mv τ, ms τ, mp τ, mw τ)) hx hb hts hts0 hown hK hP 1 (by decide) (by decide +kernel) rfl rfl dX1_addExam_56 ?_
  refine lv_iload_n hx hb dX1_addExam_59 rfl (lv_at hl 2 rfl) ?_
  refine g_ist hx hb hK hP hD hS 3 rfl (f' := (fun z9 => nI (va_up ((mh τ)) (mn τ) y z9))) (vp_in_nI (by omega) (by decide)) (g_clu (k := mn τ) (by omega) (n_upd _ _ _)) dX1_addExam_60 (fun H locs hP hD hS => ?_)
  have hP : gP E (mW E a (0, mn τ, mk τ, mf τ, va_up ((mo τ)) (mn τ) x, va_up ((mh τ)) (mn τ) y, md τ, mr τ, mu τ, mv τ, ms τ, mp τ, mw τ)) H := hP
  have hD : va_D (va_A (mW E a τ) s.heap.size) (mW E a (0, mn τ, mk τ, mf τ, va_up ((mo τ)) (mn τ) x, va_up ((mh τ)) (mn τ) y, md τ, mr τ, mu τ, mv τ, ms τ, mp τ, mw τ)) := hD
  refine lv_aload_n hx hb dX1_addExam_61 rfl (lv_at hl 0 rfl) ?_
  refine m_get (τ := (0, mn τ, mk τ, mf τ, va_up ((mo τ)) (mn τ) x, va_up ((mh τ)) (mn τ) y, md τ, mr τ, mu τ, mv τ, ms τ, mp τ, mw τ)) hx hb hts hts0 hown hK hP 6 (by decide) (by decide +kernel) rfl rfl dX1_addExam_62 ?_
  refine lv_aload_n hx hb dX1_addExam_65 rfl (lv_at hl 0 rfl) ?_
  refine m_get (τ := (0, mn τ, mk τ, mf τ, va_up ((mo τ)) (mn τ) x, va_up ((mh τ)) (mn τ) y, md τ, mr τ, mu τ, mv τ, ms τ, mp τ, mw τ)) hx hb hts hts0 hown hK hP 1 (by decide) (by decide +kernel) rfl rfl dX1_addExam_66 ?_
  refine lv_iconst (v := -1) hx hb dX1_addExam_69 (by decide) ?_
  refine g_ist hx hb hK hP hD hS 4 rfl (f' := (upd ((md τ)) (mn τ) ((-1)))) (vp_in_nI (by omega) (by decide)) (g_clu (k := mn τ) (by omega) rfl) dX1_addExam_70 (fun H locs hP hD hS => ?_)
  have hP : gP E (mW E a (0, mn τ, mk τ, mf τ, va_up ((mo τ)) (mn τ) x, va_up ((mh τ)) (mn τ) y, upd ((md τ)) (mn τ) ((-1)), mr τ, mu τ, mv τ, ms τ, mp τ, mw τ)) H := hP
  have hD : va_D (va_A (mW E a τ) s.heap.size) (mW E a (0, mn τ, mk τ, mf τ, va_up ((mo τ)) (mn τ) x, va_up ((mh τ)) (mn τ) y, upd ((md τ)) (mn τ) ((-1)), mr τ, mu τ, mv τ, ms τ, mp τ, mw τ)) := hD
  refine lv_aload_n hx hb dX1_addExam_71 rfl (lv_at hl 0 rfl) ?_
  refine m_get (τ := (0, mn τ, mk τ, mf τ, va_up ((mo τ)) (mn τ) x, va_up ((mh τ)) (mn τ) y, upd ((md τ)) (mn τ) ((-1)), mr τ, mu τ, mv τ, ms τ, mp τ, mw τ)) hx hb hts hts0 hown hK hP 7 (by decide) (by decide +kernel) rfl rfl dX1_addExam_72 ?_
  refine lv_aload_n hx hb dX1_addExam_75 rfl (lv_at hl 0 rfl) ?_
  refine m_get (τ := (0, mn τ, mk τ, mf τ, va_up ((mo τ)) (mn τ) x, va_up ((mh τ)) (mn τ) y, upd ((md τ)) (mn τ) ((-1)), mr τ, mu τ, mv τ, ms τ, mp τ, mw τ)) hx hb hts hts0 hown hK hP 1 (by decide) (by decide +kernel) rfl rfl dX1_addExam_76 ?_
  refine lv_lconst (v := 1) hx hb dX1_addExam_79 (by decide) ?_
  refine lv_aload_n hx hb dX1_addExam_80 rfl (lv_at hl 0 rfl) ?_
  refine m_get (τ := (0, mn τ, mk τ, mf τ, va_up ((mo τ)) (mn τ) x, va_up ((mh τ)) (mn τ) y, upd ((md τ)) (mn τ) ((-1)), mr τ, mu τ, mv τ, ms τ, mp τ, mw τ)) hx hb hts hts0 hown hK hP 1 (by decide) (by decide +kernel) rfl rfl dX1_addExam_81 ?_
  refine lv_lshl (v := gbit (mn τ)) hx hb dX1_addExam_84 ((wb_shl (k := mn τ) 1 (by omega)).trans (by rw [Nat.one_mul]; rfl)) ?_
  refine g_lst hx hb hK hP hD hS 5 rfl (f' := (vp_updL ((mr τ)) (mn τ) (gbit (mn τ)))) (vp_in_nI (by omega) (by decide)) (g_clL (k := mn τ) (by omega) rfl) dX1_addExam_85 (fun H locs hP hD hS => ?_)
  have hP : gP E (mW E a (0, mn τ, mk τ, mf τ, va_up ((mo τ)) (mn τ) x, va_up ((mh τ)) (mn τ) y, upd ((md τ)) (mn τ) ((-1)), vp_updL ((mr τ)) (mn τ) (gbit (mn τ)), mu τ, mv τ, ms τ, mp τ, mw τ)) H := hP
  have hD : va_D (va_A (mW E a τ) s.heap.size) (mW E a (0, mn τ, mk τ, mf τ, va_up ((mo τ)) (mn τ) x, va_up ((mh τ)) (mn τ) y, upd ((md τ)) (mn τ) ((-1)), vp_updL ((mr τ)) (mn τ) (gbit (mn τ)), mu τ, mv τ, ms τ, mp τ, mw τ)) := hD
  refine lv_aload_n hx hb dX1_addExam_86 rfl (lv_at hl 0 rfl) ?_
  refine lv_dup hx hb dX1_addExam_87 rfl ?_
  refine m_get (τ := (0, mn τ, mk τ, mf τ, va_up ((mo τ)) (mn τ) x, va_up ((mh τ)) (mn τ) y, upd ((md τ)) (mn τ) ((-1)), vp_updL ((mr τ)) (mn τ) (gbit (mn τ)), mu τ, mv τ, ms τ, mp τ, mw τ)) hx hb hts hts0 hown hK hP 1 (by decide) (by decide +kernel) rfl rfl dX1_addExam_88 ?_
  refine lv_iconst (v := 1) hx hb dX1_addExam_91 (by decide) ?_
  refine lv_iadd hx hb dX1_addExam_92 ?_
  rw [nI_1 (mn τ)]
  refine va_put (D := E.1) (ci := 1) (v := .int (nI ((mn τ) + 1))) (ty := .int) (C := RX1) (T := TX1) (N := 13) hx hb hts hts0 tyX1 tyX1_ok nmX1 hown hK hP hD hS 0 rfl rfl 1 (by decide) (hts (.fieldLink RX1 46 "ExamGardenModel" "places" "I") (by decide +kernel)) (fun _ h9 => h9) rfl (by decide +kernel) rfl rfl (Nat.le_of_ble_eq_true rfl) dX1_addExam_93 (fun H locs hP hD hS => ?_)
  have hP : gP E (mW E a (0, (mn τ) + 1, mk τ, mf τ, va_up ((mo τ)) (mn τ) x, va_up ((mh τ)) (mn τ) y, upd ((md τ)) (mn τ) ((-1)), vp_updL ((mr τ)) (mn τ) (gbit (mn τ)), mu τ, mv τ, ms τ, mp τ, mw τ)) H := hP
  have hD : va_D (va_A (mW E a τ) s.heap.size) (mW E a (0, (mn τ) + 1, mk τ, mf τ, va_up ((mo τ)) (mn τ) x, va_up ((mh τ)) (mn τ) y, upd ((md τ)) (mn τ) ((-1)), vp_updL ((mr τ)) (mn τ) (gbit (mn τ)), mu τ, mv τ, ms τ, mp τ, mw τ)) := hD
  refine lv_aload_n hx hb dX1_addExam_96 rfl (lv_at hl 0 rfl) ?_
  refine m_get (τ := (0, (mn τ) + 1, mk τ, mf τ, va_up ((mo τ)) (mn τ) x, va_up ((mh τ)) (mn τ) y, upd ((md τ)) (mn τ) ((-1)), vp_updL ((mr τ)) (mn τ) (gbit (mn τ)), mu τ, mv τ, ms τ, mp τ, mw τ)) hx hb hts hts0 hown hK hP 1 (by decide) (by decide +kernel) rfl rfl dX1_addExam_97 ?_
  refine lv_iconst (v := 1) hx hb dX1_addExam_100 (by decide) ?_
  refine lv_isub hx hb dX1_addExam_101 ?_
  rw [show (nI (mn τ + 1) - 1 : Int32) = nI (mn τ) from nI_pred _]
  exact W.iret hx hb hr (fun t ht hW => ⟨⟨_, (), rfl, rfl, by show gP E _ t.heap; rw [ht]; exact hP⟩, hS.F ht⟩) hS.2.2 dX1_addExam_102
set_option maxHeartbeats 4000000 in
set_option maxRecDepth 100000 in
theorem m_addExam_1 (l : Launch) (E : GE) (a : Nat → Nat) (τ : MS) (sz : Nat) (x y : Int32) (h : x < 0 ∨ nI 20 < y ∨ y < x) : Met l yX1_addExam wsX1_addExam { frames := 1, cells := 0, slots := 0, locals := 21 } (va_Pc [.ref (a 0), .int x, .int y] (gBw E sz (mW E a τ))) (gQi E (0) (mW E a τ) (mW E a (mThr τ 1)) sz) 0 0 (va_A (mW E a τ) sz) := by
  refine w_met (cc := cX1_addExam) (maxL := 3) (ret := (some .int)) (by decide) rfl (Nat.le_of_ble_eq_true rfl) ?_
  intro p e s m below meth c ls S hr hlocks hname hB hl
  obtain ⟨hsz, hP, hK, hD0⟩ := hB
  subst hsz
  have hD := hD0.self (sz := s.heap.size)
  have hA : ∀ q : Nat, s.heap.size ≤ q → va_A (mW E a τ) s.heap.size q := fun q h => Or.inr h
  have hS : va_S (va_A (mW E a τ) s.heap.size) s.heap s.heap [] := va_S.rf
  obtain ⟨hx, hb, hml, hown, hts⟩ := id S
  have hts0 := hinX1_addExam
  have hl : lv_has ls 3 [(0, .ref (a 0)), (1, .int x), (2, .int y)] := hl
  refine lv_aload_n hx hb dX1_addExam_0 rfl (lv_at hl 0 rfl) ?_
  refine lv_iconst (v := 0) hx hb dX1_addExam_1 (by decide) ?_
  refine va_put (D := E.1) (ci := 1) (v := .int 0) (ty := .int) (C := RX1) (T := TX1) (N := 13) hx hb hts hts0 tyX1 tyX1_ok nmX1 hown hK hP hD hS 0 rfl rfl 0 (by decide) (hts (.fieldLink RX1 42 "ExamGardenModel" "thrown" "I") (by decide +kernel)) (fun _ h9 => h9) rfl (by decide +kernel) rfl rfl (Nat.le_of_ble_eq_true rfl) dX1_addExam_2 (fun H locs hP hD hS => ?_)
  have hP : gP E (mW E a (0, mn τ, mk τ, mf τ, mo τ, mh τ, md τ, mr τ, mu τ, mv τ, ms τ, mp τ, mw τ)) H := hP
  have hD : va_D (va_A (mW E a τ) s.heap.size) (mW E a (0, mn τ, mk τ, mf τ, mo τ, mh τ, md τ, mr τ, mu τ, mv τ, ms τ, mp τ, mw τ)) := hD
  refine lv_iload_n hx hb dX1_addExam_5 rfl (lv_at hl 1 rfl) ?_
  refine lv_if_lt (tgt := 20) hx hb dX1_addExam_6 (by decide) (fun c6 => ?_) (fun c6 => ?_)
  · refine lv_aload_n hx hb dX1_addExam_20 rfl (lv_at hl 0 rfl) ?_
    refine lv_iconst (v := 1) hx hb dX1_addExam_21 (by decide) ?_
    refine m0wi (As := [.int 1]) (rest := []) (τ' := mThr (0, mn τ, mk τ, mf τ, mo τ, mh τ, md τ, mr τ, mu τ, mv τ, ms τ, mp τ, mw τ) 1) S (m_no l E a (0, mn τ, mk τ, mf τ, mo τ, mh τ, md τ, mr τ, mu τ, mv τ, ms τ, mp τ, mw τ) _ 1) (cwV 1 hts gX1_addExam_X1_no rfl rfl rfl hdX1_no ⟨Nat.le_of_ble_eq_true rfl, Nat.le_of_ble_eq_true rfl⟩) hK hP hD hS hA rfl hl.1 rfl (Nat.le_of_ble_eq_true rfl) ⟨Nat.zero_le _, Nat.zero_le _⟩ dX1_addExam_22 (fun H locs hP hD hS => ?_)
    exact W.iret hx hb hr (fun t ht hW => ⟨⟨_, (), rfl, rfl, by show gP E _ t.heap; rw [ht]; exact hP⟩, hS.F ht⟩) hS.2.2 dX1_addExam_25
  · refine lv_iload_n hx hb dX1_addExam_9 rfl (lv_at hl 2 rfl) ?_
    refine lv_bipush (v := nI 20) hx hb dX1_addExam_10 (by decide) ?_
    refine lv_icmp_gt (tgt := 20) hx hb dX1_addExam_12 (by decide) (fun c12 => ?_) (fun c12 => ?_)
    · refine lv_aload_n hx hb dX1_addExam_20 rfl (lv_at hl 0 rfl) ?_
      refine lv_iconst (v := 1) hx hb dX1_addExam_21 (by decide) ?_
      refine m0wi (As := [.int 1]) (rest := []) (τ' := mThr (0, mn τ, mk τ, mf τ, mo τ, mh τ, md τ, mr τ, mu τ, mv τ, ms τ, mp τ, mw τ) 1) S (m_no l E a (0, mn τ, mk τ, mf τ, mo τ, mh τ, md τ, mr τ, mu τ, mv τ, ms τ, mp τ, mw τ) _ 1) (cwV 1 hts gX1_addExam_X1_no rfl rfl rfl hdX1_no ⟨Nat.le_of_ble_eq_true rfl, Nat.le_of_ble_eq_true rfl⟩) hK hP hD hS hA rfl hl.1 rfl (Nat.le_of_ble_eq_true rfl) ⟨Nat.zero_le _, Nat.zero_le _⟩ dX1_addExam_22 (fun H locs hP hD hS => ?_)
      exact W.iret hx hb hr (fun t ht hW => ⟨⟨_, (), rfl, rfl, by show gP E _ t.heap; rw [ht]; exact hP⟩, hS.F ht⟩) hS.2.2 dX1_addExam_25
    · refine lv_iload_n hx hb dX1_addExam_15 rfl (lv_at hl 2 rfl) ?_
      refine lv_iload_n hx hb dX1_addExam_16 rfl (lv_at hl 1 rfl) ?_
      refine lv_icmp_ge (tgt := 26) hx hb dX1_addExam_17 (by decide) (fun q => absurd q ((Int32.not_le.mpr ((h.resolve_left c6).resolve_left c12)))) (fun _ => ?_)
      refine lv_aload_n hx hb dX1_addExam_20 rfl (lv_at hl 0 rfl) ?_
      refine lv_iconst (v := 1) hx hb dX1_addExam_21 (by decide) ?_
      refine m0wi (As := [.int 1]) (rest := []) (τ' := mThr (0, mn τ, mk τ, mf τ, mo τ, mh τ, md τ, mr τ, mu τ, mv τ, ms τ, mp τ, mw τ) 1) S (m_no l E a (0, mn τ, mk τ, mf τ, mo τ, mh τ, md τ, mr τ, mu τ, mv τ, ms τ, mp τ, mw τ) _ 1) (cwV 1 hts gX1_addExam_X1_no rfl rfl rfl hdX1_no ⟨Nat.le_of_ble_eq_true rfl, Nat.le_of_ble_eq_true rfl⟩) hK hP hD hS hA rfl hl.1 rfl (Nat.le_of_ble_eq_true rfl) ⟨Nat.zero_le _, Nat.zero_le _⟩ dX1_addExam_22 (fun H locs hP hD hS => ?_)
      exact W.iret hx hb hr (fun t ht hW => ⟨⟨_, (), rfl, rfl, by show gP E _ t.heap; rw [ht]; exact hP⟩, hS.F ht⟩) hS.2.2 dX1_addExam_25
set_option maxHeartbeats 4000000 in
set_option maxRecDepth 100000 in
theorem m_addExam_2 (l : Launch) (E : GE) (a : Nat → Nat) (τ : MS) (sz : Nat) (x y : Nat) (hxy : x ≤ y) (hy : y ≤ 20) (hn : mn τ = 40) : Met l yX1_addExam wsX1_addExam { frames := 1, cells := 0, slots := 0, locals := 21 } (va_Pc [.ref (a 0), .int (nI x), .int (nI y)] (gBw E sz (mW E a τ))) (gQi E (0) (mW E a τ) (mW E a (mThr τ 2)) sz) 0 0 (va_A (mW E a τ) sz) := by
  refine w_met (cc := cX1_addExam) (maxL := 3) (ret := (some .int)) (by decide) rfl (Nat.le_of_ble_eq_true rfl) ?_
  intro p e s m below meth c ls S hr hlocks hname hB hl
  obtain ⟨hsz, hP, hK, hD0⟩ := hB
  subst hsz
  have hD := hD0.self (sz := s.heap.size)
  have hA : ∀ q : Nat, s.heap.size ≤ q → va_A (mW E a τ) s.heap.size q := fun q h => Or.inr h
  have hS : va_S (va_A (mW E a τ) s.heap.size) s.heap s.heap [] := va_S.rf
  obtain ⟨hx, hb, hml, hown, hts⟩ := id S
  have hts0 := hinX1_addExam
  have hl : lv_has ls 3 [(0, .ref (a 0)), (1, .int (nI x)), (2, .int (nI y))] := hl
  refine lv_aload_n hx hb dX1_addExam_0 rfl (lv_at hl 0 rfl) ?_
  refine lv_iconst (v := 0) hx hb dX1_addExam_1 (by decide) ?_
  refine va_put (D := E.1) (ci := 1) (v := .int 0) (ty := .int) (C := RX1) (T := TX1) (N := 13) hx hb hts hts0 tyX1 tyX1_ok nmX1 hown hK hP hD hS 0 rfl rfl 0 (by decide) (hts (.fieldLink RX1 42 "ExamGardenModel" "thrown" "I") (by decide +kernel)) (fun _ h9 => h9) rfl (by decide +kernel) rfl rfl (Nat.le_of_ble_eq_true rfl) dX1_addExam_2 (fun H locs hP hD hS => ?_)
  have hP : gP E (mW E a (0, mn τ, mk τ, mf τ, mo τ, mh τ, md τ, mr τ, mu τ, mv τ, ms τ, mp τ, mw τ)) H := hP
  have hD : va_D (va_A (mW E a τ) s.heap.size) (mW E a (0, mn τ, mk τ, mf τ, mo τ, mh τ, md τ, mr τ, mu τ, mv τ, ms τ, mp τ, mw τ)) := hD
  refine lv_iload_n hx hb dX1_addExam_5 rfl (lv_at hl 1 rfl) ?_
  refine lv_if_lt (tgt := 20) hx hb dX1_addExam_6 (by decide) (fun q => absurd q ((nI_pos (by omega)))) (fun _ => ?_)
  refine lv_iload_n hx hb dX1_addExam_9 rfl (lv_at hl 2 rfl) ?_
  refine lv_bipush (v := nI 20) hx hb dX1_addExam_10 (by decide) ?_
  refine lv_icmp_gt (tgt := 20) hx hb dX1_addExam_12 (by decide) (fun q => absurd q ((nI_nlt (by omega) (by omega)))) (fun _ => ?_)
  refine lv_iload_n hx hb dX1_addExam_15 rfl (lv_at hl 2 rfl) ?_
  refine lv_iload_n hx hb dX1_addExam_16 rfl (lv_at hl 1 rfl) ?_
  refine lv_icmp_ge (tgt := 26) hx hb dX1_addExam_17 (by decide) (fun _ => ?_) (fun q => absurd ((nI_le (by omega) (by omega))) q)
  refine lv_aload_n hx hb dX1_addExam_26 rfl (lv_at hl 0 rfl) ?_
  refine m_get (τ := (0, mn τ, mk τ, mf τ, mo τ, mh τ, md τ, mr τ, mu τ, mv τ, ms τ, mp τ, mw τ)) hx hb hts hts0 hown hK hP 1 (by decide) (by decide +kernel) rfl rfl dX1_addExam_27 ?_
  refine lv_bipush (v := nI 40) hx hb dX1_addExam_30 (by decide) ?_
  refine lv_icmp_ne (tgt := 41) hx hb dX1_addExam_32 (by decide) (fun q => absurd ((by rw [show mn τ = 40 from hn])) q) (fun _ => ?_)
  refine lv_aload_n hx hb dX1_addExam_35 rfl (lv_at hl 0 rfl) ?_
  refine lv_iconst (v := 2) hx hb dX1_addExam_36 (by decide) ?_
  refine m0wi (As := [.int 2]) (rest := []) (τ' := mThr (0, mn τ, mk τ, mf τ, mo τ, mh τ, md τ, mr τ, mu τ, mv τ, ms τ, mp τ, mw τ) 2) S (m_no l E a (0, mn τ, mk τ, mf τ, mo τ, mh τ, md τ, mr τ, mu τ, mv τ, ms τ, mp τ, mw τ) _ 2) (cwV 1 hts gX1_addExam_X1_no rfl rfl rfl hdX1_no ⟨Nat.le_of_ble_eq_true rfl, Nat.le_of_ble_eq_true rfl⟩) hK hP hD hS hA rfl hl.1 rfl (Nat.le_of_ble_eq_true rfl) ⟨Nat.zero_le _, Nat.zero_le _⟩ dX1_addExam_37 (fun H locs hP hD hS => ?_)
  exact W.iret hx hb hr (fun t ht hW => ⟨⟨_, (), rfl, rfl, by show gP E _ t.heap; rw [ht]; exact hP⟩, hS.F ht⟩) hS.2.2 dX1_addExam_40
theorem hinX1_addFork : ∀ w ∈ wsX10, w ∈ wsX1_addFork := fun w h => List.mem_cons_of_mem _ (List.mem_append_right _ h)
theorem hdX1_addFork : yX1_addFork.cls = RX1 ∧ yX1_addFork.cls ≠ "java/lang/invoke/MethodHandle" ∧ yX1_addFork.cls ≠ "java/lang/invoke/VarHandle" ∧ (parseMethodDescriptor yX1_addFork.desc).map (fun d => d.parameters.length) = some 3 := by decide +kernel
set_option maxHeartbeats 4000000 in
set_option maxRecDepth 100000 in
theorem m_addFork (l : Launch) (E : GE) (a : Nat → Nat) (τ : MS) (sz : Nat) (x y : Nat) (hx0 : x < mn τ) (hy0 : y < mn τ) (hp : mIsP τ (nI x) = true) (hq : mIsP τ (nI y) = true) (w : Int32) (hw : iIn w 1 (nI 9) = true) (hn : mn τ < 40) : Met l yX1_addFork wsX1_addFork { frames := 2, cells := 0, slots := 0, locals := 43 } (va_Pc [.ref (a 0), .int (nI x), .int (nI y), .int w] (gBw E sz (mW E a τ))) (gQi E (nI (mn τ)) (mW E a τ) (mW E a (mAddF τ x y w)) sz) 0 0 (va_A (mW E a τ) sz) := by
  refine w_met (cc := cX1_addFork) (maxL := 4) (ret := (some .int)) (by decide) rfl (Nat.le_of_ble_eq_true rfl) ?_
  intro p e s m below meth c ls S hr hlocks hname hB hl
  obtain ⟨hsz, hP, hK, hD0⟩ := hB
  subst hsz
  have hD := hD0.self (sz := s.heap.size)
  have hA : ∀ q : Nat, s.heap.size ≤ q → va_A (mW E a τ) s.heap.size q := fun q h => Or.inr h
  have hS : va_S (va_A (mW E a τ) s.heap.size) s.heap s.heap [] := va_S.rf
  obtain ⟨hx, hb, hml, hown, hts⟩ := id S
  have hts0 := hinX1_addFork
  have hl : lv_has ls 4 [(0, .ref (a 0)), (1, .int (nI x)), (2, .int (nI y)), (3, .int w)] := hl
  refine lv_aload_n hx hb dX1_addFork_0 rfl (lv_at hl 0 rfl) ?_
  refine lv_iconst (v := 0) hx hb dX1_addFork_1 (by decide) ?_
  refine va_put (D := E.1) (ci := 1) (v := .int 0) (ty := .int) (C := RX1) (T := TX1) (N := 13) hx hb hts hts0 tyX1 tyX1_ok nmX1 hown hK hP hD hS 0 rfl rfl 0 (by decide) (hts (.fieldLink RX1 42 "ExamGardenModel" "thrown" "I") (by decide +kernel)) (fun _ h9 => h9) rfl (by decide +kernel) rfl rfl (Nat.le_of_ble_eq_true rfl) dX1_addFork_2 (fun H locs hP hD hS => ?_)
  have hP : gP E (mW E a (0, mn τ, mk τ, mf τ, mo τ, mh τ, md τ, mr τ, mu τ, mv τ, ms τ, mp τ, mw τ)) H := hP
  have hD : va_D (va_A (mW E a τ) s.heap.size) (mW E a (0, mn τ, mk τ, mf τ, mo τ, mh τ, md τ, mr τ, mu τ, mv τ, ms τ, mp τ, mw τ)) := hD
  refine lv_aload_n hx hb dX1_addFork_5 rfl (lv_at hl 0 rfl) ?_
  refine lv_iload_n hx hb dX1_addFork_6 rfl (lv_at hl 1 rfl) ?_
  refine m0i (As := [.int (nI x)]) (rest := []) S (m_isPlace l E a (0, mn τ, mk τ, mf τ, mo τ, mh τ, md τ, mr τ, mu τ, mv τ, ms τ, mp τ, mw τ) (nI x)) (cwV 1 hts gX1_addFork_X1_isPlace rfl rfl rfl hdX1_isPlace ⟨Nat.le_of_ble_eq_true rfl, Nat.le_of_ble_eq_true rfl⟩) hK hP rfl hl.1 rfl (Nat.le_of_ble_eq_true rfl) ⟨Nat.zero_le _, Nat.zero_le _⟩ dX1_addFork_7 ?_
  refine lv_if_eq (tgt := 21) hx hb dX1_addFork_10 (by decide) (fun q => absurd q ((b2i_ne0.mpr hp))) (fun _ => ?_)
  refine lv_aload_n hx hb dX1_addFork_13 rfl (lv_at hl 0 rfl) ?_
  refine lv_iload_n hx hb dX1_addFork_14 rfl (lv_at hl 2 rfl) ?_
  refine m0i (As := [.int (nI y)]) (rest := []) S (m_isPlace l E a (0, mn τ, mk τ, mf τ, mo τ, mh τ, md τ, mr τ, mu τ, mv τ, ms τ, mp τ, mw τ) (nI y)) (cwV 1 hts gX1_addFork_X1_isPlace rfl rfl rfl hdX1_isPlace ⟨Nat.le_of_ble_eq_true rfl, Nat.le_of_ble_eq_true rfl⟩) hK hP rfl hl.1 rfl (Nat.le_of_ble_eq_true rfl) ⟨Nat.zero_le _, Nat.zero_le _⟩ dX1_addFork_15 ?_
  refine lv_if_ne (tgt := 27) hx hb dX1_addFork_18 (by decide) (fun _ => ?_) (fun q => absurd q ((b2i_ne0.mpr hq)))
  refine lv_iload_n hx hb dX1_addFork_27 rfl (lv_at hl 3 rfl) ?_
  refine lv_iconst (v := 1) hx hb dX1_addFork_28 (by decide) ?_
  refine lv_bipush (v := nI 9) hx hb dX1_addFork_29 (by decide) ?_
  refine g_si (As := [.int w, .int 1, .int (nI 9)]) (rest := []) S (m_isIn l E w 1 (nI 9)) (va_cwS 3 hts gX1_addFork_X1_isIn rfl rfl rfl hdX1_isIn.2 ⟨Nat.le_of_ble_eq_true rfl, Nat.le_of_ble_eq_true rfl⟩) hK (fun _ _ h => nomatch h) rfl hl.1 rfl (Nat.le_of_ble_eq_true rfl) ⟨Nat.zero_le _, Nat.zero_le _⟩ dX1_addFork_31 ?_
  refine lv_if_ne (tgt := 43) hx hb dX1_addFork_34 (by decide) (fun _ => ?_) (fun q => absurd q ((b2i_ne0.mpr hw)))
  refine lv_aload_n hx hb dX1_addFork_43 rfl (lv_at hl 0 rfl) ?_
  refine m_get (τ := (0, mn τ, mk τ, mf τ, mo τ, mh τ, md τ, mr τ, mu τ, mv τ, ms τ, mp τ, mw τ)) hx hb hts hts0 hown hK hP 1 (by decide) (by decide +kernel) rfl rfl dX1_addFork_44 ?_
  refine lv_bipush (v := nI 40) hx hb dX1_addFork_47 (by decide) ?_
  refine lv_icmp_ne (tgt := 58) hx hb dX1_addFork_49 (by decide) (fun _ => ?_) (fun q => absurd q ((nI_neq (a := mn τ) (b := 40) (by omega) (by omega) (by decide))))
  refine lv_aload_n hx hb dX1_addFork_58 rfl (lv_at hl 0 rfl) ?_
  refine m_get (τ := (0, mn τ, mk τ, mf τ, mo τ, mh τ, md τ, mr τ, mu τ, mv τ, ms τ, mp τ, mw τ)) hx hb hts hts0 hown hK hP 3 (by decide) (by decide +kernel) rfl rfl dX1_addFork_59 ?_
  refine lv_aload_n hx hb dX1_addFork_62 rfl (lv_at hl 0 rfl) ?_
  refine m_get (τ := (0, mn τ, mk τ, mf τ, mo τ, mh τ, md τ, mr τ, mu τ, mv τ, ms τ, mp τ, mw τ)) hx hb hts hts0 hown hK hP 1 (by decide) (by decide +kernel) rfl rfl dX1_addFork_63 ?_
  refine lv_iconst (v := 1) hx hb dX1_addFork_66 (by decide) ?_
  refine g_zst hx hb hK hP hD hS 1 rfl (f' := (fun z9 => b2i (va_up ((mf τ)) (mn τ) true z9))) (vp_in_nI (by omega) (by decide)) (g_clu (k := mn τ) (by omega) (b_upd _ _ true)) dX1_addFork_67 (fun H locs hP hD hS => ?_)
  have hP : gP E (mW E a (0, mn τ, mk τ, va_up ((mf τ)) (mn τ) true, mo τ, mh τ, md τ, mr τ, mu τ, mv τ, ms τ, mp τ, mw τ)) H := hP
  have hD : va_D (va_A (mW E a τ) s.heap.size) (mW E a (0, mn τ, mk τ, va_up ((mf τ)) (mn τ) true, mo τ, mh τ, md τ, mr τ, mu τ, mv τ, ms τ, mp τ, mw τ)) := hD
  refine lv_aload_n hx hb dX1_addFork_68 rfl (lv_at hl 0 rfl) ?_
  refine m_get (τ := (0, mn τ, mk τ, va_up ((mf τ)) (mn τ) true, mo τ, mh τ, md τ, mr τ, mu τ, mv τ, ms τ, mp τ, mw τ)) hx hb hts hts0 hown hK hP 4 (by decide) (by decide +kernel) rfl rfl dX1_addFork_69 ?_
  refine lv_aload_n hx hb dX1_addFork_72 rfl (lv_at hl 0 rfl) ?_
  refine m_get (τ := (0, mn τ, mk τ, va_up ((mf τ)) (mn τ) true, mo τ, mh τ, md τ, mr τ, mu τ, mv τ, ms τ, mp τ, mw τ)) hx hb hts hts0 hown hK hP 1 (by decide) (by decide +kernel) rfl rfl dX1_addFork_73 ?_
  refine lv_iload_n hx hb dX1_addFork_76 rfl (lv_at hl 1 rfl) ?_
  refine g_ist hx hb hK hP hD hS 2 rfl (f' := (fun z9 => nI (va_up ((mo τ)) (mn τ) x z9))) (vp_in_nI (by omega) (by decide)) (g_clu (k := mn τ) (by omega) (n_upd _ _ _)) dX1_addFork_77 (fun H locs hP hD hS => ?_)
  have hP : gP E (mW E a (0, mn τ, mk τ, va_up ((mf τ)) (mn τ) true, va_up ((mo τ)) (mn τ) x, mh τ, md τ, mr τ, mu τ, mv τ, ms τ, mp τ, mw τ)) H := hP
  have hD : va_D (va_A (mW E a τ) s.heap.size) (mW E a (0, mn τ, mk τ, va_up ((mf τ)) (mn τ) true, va_up ((mo τ)) (mn τ) x, mh τ, md τ, mr τ, mu τ, mv τ, ms τ, mp τ, mw τ)) := hD
  refine lv_aload_n hx hb dX1_addFork_78 rfl (lv_at hl 0 rfl) ?_
  refine m_get (τ := (0, mn τ, mk τ, va_up ((mf τ)) (mn τ) true, va_up ((mo τ)) (mn τ) x, mh τ, md τ, mr τ, mu τ, mv τ, ms τ, mp τ, mw τ)) hx hb hts hts0 hown hK hP 5 (by decide) (by decide +kernel) rfl rfl dX1_addFork_79 ?_
  refine lv_aload_n hx hb dX1_addFork_82 rfl (lv_at hl 0 rfl) ?_
  refine m_get (τ := (0, mn τ, mk τ, va_up ((mf τ)) (mn τ) true, va_up ((mo τ)) (mn τ) x, mh τ, md τ, mr τ, mu τ, mv τ, ms τ, mp τ, mw τ)) hx hb hts hts0 hown hK hP 1 (by decide) (by decide +kernel) rfl rfl dX1_addFork_83 ?_
  refine lv_iload_n hx hb dX1_addFork_86 rfl (lv_at hl 2 rfl) ?_
  refine g_ist hx hb hK hP hD hS 3 rfl (f' := (fun z9 => nI (va_up ((mh τ)) (mn τ) y z9))) (vp_in_nI (by omega) (by decide)) (g_clu (k := mn τ) (by omega) (n_upd _ _ _)) dX1_addFork_87 (fun H locs hP hD hS => ?_)
  have hP : gP E (mW E a (0, mn τ, mk τ, va_up ((mf τ)) (mn τ) true, va_up ((mo τ)) (mn τ) x, va_up ((mh τ)) (mn τ) y, md τ, mr τ, mu τ, mv τ, ms τ, mp τ, mw τ)) H := hP
  have hD : va_D (va_A (mW E a τ) s.heap.size) (mW E a (0, mn τ, mk τ, va_up ((mf τ)) (mn τ) true, va_up ((mo τ)) (mn τ) x, va_up ((mh τ)) (mn τ) y, md τ, mr τ, mu τ, mv τ, ms τ, mp τ, mw τ)) := hD
  refine lv_aload_n hx hb dX1_addFork_88 rfl (lv_at hl 0 rfl) ?_
  refine m_get (τ := (0, mn τ, mk τ, va_up ((mf τ)) (mn τ) true, va_up ((mo τ)) (mn τ) x, va_up ((mh τ)) (mn τ) y, md τ, mr τ, mu τ, mv τ, ms τ, mp τ, mw τ)) hx hb hts hts0 hown hK hP 6 (by decide) (by decide +kernel) rfl rfl dX1_addFork_89 ?_
  refine lv_aload_n hx hb dX1_addFork_92 rfl (lv_at hl 0 rfl) ?_
  refine m_get (τ := (0, mn τ, mk τ, va_up ((mf τ)) (mn τ) true, va_up ((mo τ)) (mn τ) x, va_up ((mh τ)) (mn τ) y, md τ, mr τ, mu τ, mv τ, ms τ, mp τ, mw τ)) hx hb hts hts0 hown hK hP 1 (by decide) (by decide +kernel) rfl rfl dX1_addFork_93 ?_
  refine lv_iload_n hx hb dX1_addFork_96 rfl (lv_at hl 3 rfl) ?_
  refine g_ist hx hb hK hP hD hS 4 rfl (f' := (upd ((md τ)) (mn τ) w)) (vp_in_nI (by omega) (by decide)) (g_clu (k := mn τ) (by omega) rfl) dX1_addFork_97 (fun H locs hP hD hS => ?_)
  have hP : gP E (mW E a (0, mn τ, mk τ, va_up ((mf τ)) (mn τ) true, va_up ((mo τ)) (mn τ) x, va_up ((mh τ)) (mn τ) y, upd ((md τ)) (mn τ) w, mr τ, mu τ, mv τ, ms τ, mp τ, mw τ)) H := hP
  have hD : va_D (va_A (mW E a τ) s.heap.size) (mW E a (0, mn τ, mk τ, va_up ((mf τ)) (mn τ) true, va_up ((mo τ)) (mn τ) x, va_up ((mh τ)) (mn τ) y, upd ((md τ)) (mn τ) w, mr τ, mu τ, mv τ, ms τ, mp τ, mw τ)) := hD
  refine lv_aload_n hx hb dX1_addFork_98 rfl (lv_at hl 0 rfl) ?_
  refine m_get (τ := (0, mn τ, mk τ, va_up ((mf τ)) (mn τ) true, va_up ((mo τ)) (mn τ) x, va_up ((mh τ)) (mn τ) y, upd ((md τ)) (mn τ) w, mr τ, mu τ, mv τ, ms τ, mp τ, mw τ)) hx hb hts hts0 hown hK hP 7 (by decide) (by decide +kernel) rfl rfl dX1_addFork_99 ?_
  refine lv_aload_n hx hb dX1_addFork_102 rfl (lv_at hl 0 rfl) ?_
  refine m_get (τ := (0, mn τ, mk τ, va_up ((mf τ)) (mn τ) true, va_up ((mo τ)) (mn τ) x, va_up ((mh τ)) (mn τ) y, upd ((md τ)) (mn τ) w, mr τ, mu τ, mv τ, ms τ, mp τ, mw τ)) hx hb hts hts0 hown hK hP 1 (by decide) (by decide +kernel) rfl rfl dX1_addFork_103 ?_
  refine lv_aload_n hx hb dX1_addFork_106 rfl (lv_at hl 0 rfl) ?_
  refine m_get (τ := (0, mn τ, mk τ, va_up ((mf τ)) (mn τ) true, va_up ((mo τ)) (mn τ) x, va_up ((mh τ)) (mn τ) y, upd ((md τ)) (mn τ) w, mr τ, mu τ, mv τ, ms τ, mp τ, mw τ)) hx hb hts hts0 hown hK hP 7 (by decide) (by decide +kernel) rfl rfl dX1_addFork_107 ?_
  refine lv_iload_n hx hb dX1_addFork_110 rfl (lv_at hl 1 rfl) ?_
  refine g_lld hx hb hK hP 5 rfl (v := (mr τ) x) (vp_in_nI (by omega) (by decide)) (by rw [nI_clamp (by omega)] <;> rfl) dX1_addFork_111 ?_
  refine lv_aload_n hx hb dX1_addFork_112 rfl (lv_at hl 0 rfl) ?_
  refine m_get (τ := (0, mn τ, mk τ, va_up ((mf τ)) (mn τ) true, va_up ((mo τ)) (mn τ) x, va_up ((mh τ)) (mn τ) y, upd ((md τ)) (mn τ) w, mr τ, mu τ, mv τ, ms τ, mp τ, mw τ)) hx hb hts hts0 hown hK hP 7 (by decide) (by decide +kernel) rfl rfl dX1_addFork_113 ?_
  refine lv_iload_n hx hb dX1_addFork_116 rfl (lv_at hl 2 rfl) ?_
  refine g_lld hx hb hK hP 5 rfl (v := (mr τ) y) (vp_in_nI (by omega) (by decide)) (by rw [nI_clamp (by omega)] <;> rfl) dX1_addFork_117 ?_
  refine lv_lor hx hb dX1_addFork_118 ?_
  refine lv_lconst (v := 1) hx hb dX1_addFork_119 (by decide) ?_
  refine lv_aload_n hx hb dX1_addFork_120 rfl (lv_at hl 0 rfl) ?_
  refine m_get (τ := (0, mn τ, mk τ, va_up ((mf τ)) (mn τ) true, va_up ((mo τ)) (mn τ) x, va_up ((mh τ)) (mn τ) y, upd ((md τ)) (mn τ) w, mr τ, mu τ, mv τ, ms τ, mp τ, mw τ)) hx hb hts hts0 hown hK hP 1 (by decide) (by decide +kernel) rfl rfl dX1_addFork_121 ?_
  refine lv_lshl (v := gbit (mn τ)) hx hb dX1_addFork_124 ((wb_shl (k := mn τ) 1 (by omega)).trans (by rw [Nat.one_mul]; rfl)) ?_
  refine lv_lor hx hb dX1_addFork_125 ?_
  refine g_lst hx hb hK hP hD hS 5 rfl (f' := (vp_updL ((mr τ)) (mn τ) ((((mr τ) x) ||| ((mr τ) y)) ||| (gbit (mn τ))))) (vp_in_nI (by omega) (by decide)) (g_clL (k := mn τ) (by omega) rfl) dX1_addFork_126 (fun H locs hP hD hS => ?_)
  have hP : gP E (mW E a (0, mn τ, mk τ, va_up ((mf τ)) (mn τ) true, va_up ((mo τ)) (mn τ) x, va_up ((mh τ)) (mn τ) y, upd ((md τ)) (mn τ) w, vp_updL ((mr τ)) (mn τ) ((((mr τ) x) ||| ((mr τ) y)) ||| (gbit (mn τ))), mu τ, mv τ, ms τ, mp τ, mw τ)) H := hP
  have hD : va_D (va_A (mW E a τ) s.heap.size) (mW E a (0, mn τ, mk τ, va_up ((mf τ)) (mn τ) true, va_up ((mo τ)) (mn τ) x, va_up ((mh τ)) (mn τ) y, upd ((md τ)) (mn τ) w, vp_updL ((mr τ)) (mn τ) ((((mr τ) x) ||| ((mr τ) y)) ||| (gbit (mn τ))), mu τ, mv τ, ms τ, mp τ, mw τ)) := hD
  refine lv_aload_n hx hb dX1_addFork_127 rfl (lv_at hl 0 rfl) ?_
  refine lv_dup hx hb dX1_addFork_128 rfl ?_
  refine m_get (τ := (0, mn τ, mk τ, va_up ((mf τ)) (mn τ) true, va_up ((mo τ)) (mn τ) x, va_up ((mh τ)) (mn τ) y, upd ((md τ)) (mn τ) w, vp_updL ((mr τ)) (mn τ) ((((mr τ) x) ||| ((mr τ) y)) ||| (gbit (mn τ))), mu τ, mv τ, ms τ, mp τ, mw τ)) hx hb hts hts0 hown hK hP 1 (by decide) (by decide +kernel) rfl rfl dX1_addFork_129 ?_
  refine lv_iconst (v := 1) hx hb dX1_addFork_132 (by decide) ?_
  refine lv_iadd hx hb dX1_addFork_133 ?_
  rw [nI_1 (mn τ)]
  refine va_put (D := E.1) (ci := 1) (v := .int (nI ((mn τ) + 1))) (ty := .int) (C := RX1) (T := TX1) (N := 13) hx hb hts hts0 tyX1 tyX1_ok nmX1 hown hK hP hD hS 0 rfl rfl 1 (by decide) (hts (.fieldLink RX1 46 "ExamGardenModel" "places" "I") (by decide +kernel)) (fun _ h9 => h9) rfl (by decide +kernel) rfl rfl (Nat.le_of_ble_eq_true rfl) dX1_addFork_134 (fun H locs hP hD hS => ?_)
  have hP : gP E (mW E a (0, (mn τ) + 1, mk τ, va_up ((mf τ)) (mn τ) true, va_up ((mo τ)) (mn τ) x, va_up ((mh τ)) (mn τ) y, upd ((md τ)) (mn τ) w, vp_updL ((mr τ)) (mn τ) ((((mr τ) x) ||| ((mr τ) y)) ||| (gbit (mn τ))), mu τ, mv τ, ms τ, mp τ, mw τ)) H := hP
  have hD : va_D (va_A (mW E a τ) s.heap.size) (mW E a (0, (mn τ) + 1, mk τ, va_up ((mf τ)) (mn τ) true, va_up ((mo τ)) (mn τ) x, va_up ((mh τ)) (mn τ) y, upd ((md τ)) (mn τ) w, vp_updL ((mr τ)) (mn τ) ((((mr τ) x) ||| ((mr τ) y)) ||| (gbit (mn τ))), mu τ, mv τ, ms τ, mp τ, mw τ)) := hD
  refine lv_aload_n hx hb dX1_addFork_137 rfl (lv_at hl 0 rfl) ?_
  refine m_get (τ := (0, (mn τ) + 1, mk τ, va_up ((mf τ)) (mn τ) true, va_up ((mo τ)) (mn τ) x, va_up ((mh τ)) (mn τ) y, upd ((md τ)) (mn τ) w, vp_updL ((mr τ)) (mn τ) ((((mr τ) x) ||| ((mr τ) y)) ||| (gbit (mn τ))), mu τ, mv τ, ms τ, mp τ, mw τ)) hx hb hts hts0 hown hK hP 1 (by decide) (by decide +kernel) rfl rfl dX1_addFork_138 ?_
  refine lv_iconst (v := 1) hx hb dX1_addFork_141 (by decide) ?_
  refine lv_isub hx hb dX1_addFork_142 ?_
  rw [show (nI (mn τ + 1) - 1 : Int32) = nI (mn τ) from nI_pred _]
  exact W.iret hx hb hr (fun t ht hW => ⟨⟨_, (), rfl, rfl, by show gP E _ t.heap; rw [ht]; exact hP⟩, hS.F ht⟩) hS.2.2 dX1_addFork_143
set_option maxHeartbeats 4000000 in
set_option maxRecDepth 100000 in
theorem m_addFork_1 (l : Launch) (E : GE) (a : Nat → Nat) (τ : MS) (sz : Nat) (pp : Int32) (hp : mIsP τ pp = false) (qq w : Int32) : Met l yX1_addFork wsX1_addFork { frames := 2, cells := 0, slots := 0, locals := 43 } (va_Pc [.ref (a 0), .int pp, .int qq, .int w] (gBw E sz (mW E a τ))) (gQi E (0) (mW E a τ) (mW E a (mThr τ 1)) sz) 0 0 (va_A (mW E a τ) sz) := by
  refine w_met (cc := cX1_addFork) (maxL := 4) (ret := (some .int)) (by decide) rfl (Nat.le_of_ble_eq_true rfl) ?_
  intro p e s m below meth c ls S hr hlocks hname hB hl
  obtain ⟨hsz, hP, hK, hD0⟩ := hB
  subst hsz
  have hD := hD0.self (sz := s.heap.size)
  have hA : ∀ q : Nat, s.heap.size ≤ q → va_A (mW E a τ) s.heap.size q := fun q h => Or.inr h
  have hS : va_S (va_A (mW E a τ) s.heap.size) s.heap s.heap [] := va_S.rf
  obtain ⟨hx, hb, hml, hown, hts⟩ := id S
  have hts0 := hinX1_addFork
  have hl : lv_has ls 4 [(0, .ref (a 0)), (1, .int pp), (2, .int qq), (3, .int w)] := hl
  refine lv_aload_n hx hb dX1_addFork_0 rfl (lv_at hl 0 rfl) ?_
  refine lv_iconst (v := 0) hx hb dX1_addFork_1 (by decide) ?_
  refine va_put (D := E.1) (ci := 1) (v := .int 0) (ty := .int) (C := RX1) (T := TX1) (N := 13) hx hb hts hts0 tyX1 tyX1_ok nmX1 hown hK hP hD hS 0 rfl rfl 0 (by decide) (hts (.fieldLink RX1 42 "ExamGardenModel" "thrown" "I") (by decide +kernel)) (fun _ h9 => h9) rfl (by decide +kernel) rfl rfl (Nat.le_of_ble_eq_true rfl) dX1_addFork_2 (fun H locs hP hD hS => ?_)
  have hP : gP E (mW E a (0, mn τ, mk τ, mf τ, mo τ, mh τ, md τ, mr τ, mu τ, mv τ, ms τ, mp τ, mw τ)) H := hP
  have hD : va_D (va_A (mW E a τ) s.heap.size) (mW E a (0, mn τ, mk τ, mf τ, mo τ, mh τ, md τ, mr τ, mu τ, mv τ, ms τ, mp τ, mw τ)) := hD
  refine lv_aload_n hx hb dX1_addFork_5 rfl (lv_at hl 0 rfl) ?_
  refine lv_iload_n hx hb dX1_addFork_6 rfl (lv_at hl 1 rfl) ?_
  refine m0i (As := [.int pp]) (rest := []) S (m_isPlace l E a (0, mn τ, mk τ, mf τ, mo τ, mh τ, md τ, mr τ, mu τ, mv τ, ms τ, mp τ, mw τ) pp) (cwV 1 hts gX1_addFork_X1_isPlace rfl rfl rfl hdX1_isPlace ⟨Nat.le_of_ble_eq_true rfl, Nat.le_of_ble_eq_true rfl⟩) hK hP rfl hl.1 rfl (Nat.le_of_ble_eq_true rfl) ⟨Nat.zero_le _, Nat.zero_le _⟩ dX1_addFork_7 ?_
  refine lv_if_eq (tgt := 21) hx hb dX1_addFork_10 (by decide) (fun _ => ?_) (fun q => absurd ((b2i_eq0.mpr hp)) q)
  refine lv_aload_n hx hb dX1_addFork_21 rfl (lv_at hl 0 rfl) ?_
  refine lv_iconst (v := 1) hx hb dX1_addFork_22 (by decide) ?_
  refine m0wi (As := [.int 1]) (rest := []) (τ' := mThr (0, mn τ, mk τ, mf τ, mo τ, mh τ, md τ, mr τ, mu τ, mv τ, ms τ, mp τ, mw τ) 1) S (m_no l E a (0, mn τ, mk τ, mf τ, mo τ, mh τ, md τ, mr τ, mu τ, mv τ, ms τ, mp τ, mw τ) _ 1) (cwV 1 hts gX1_addFork_X1_no rfl rfl rfl hdX1_no ⟨Nat.le_of_ble_eq_true rfl, Nat.le_of_ble_eq_true rfl⟩) hK hP hD hS hA rfl hl.1 rfl (Nat.le_of_ble_eq_true rfl) ⟨Nat.zero_le _, Nat.zero_le _⟩ dX1_addFork_23 (fun H locs hP hD hS => ?_)
  exact W.iret hx hb hr (fun t ht hW => ⟨⟨_, (), rfl, rfl, by show gP E _ t.heap; rw [ht]; exact hP⟩, hS.F ht⟩) hS.2.2 dX1_addFork_26
set_option maxHeartbeats 4000000 in
set_option maxRecDepth 100000 in
theorem m_addFork_1b (l : Launch) (E : GE) (a : Nat → Nat) (τ : MS) (sz : Nat) (k : Nat) (hp : mIsP τ (nI k) = true) (qq w : Int32) (hq : mIsP τ qq = false) : Met l yX1_addFork wsX1_addFork { frames := 2, cells := 0, slots := 0, locals := 43 } (va_Pc [.ref (a 0), .int (nI k), .int qq, .int w] (gBw E sz (mW E a τ))) (gQi E (0) (mW E a τ) (mW E a (mThr τ 1)) sz) 0 0 (va_A (mW E a τ) sz) := by
  refine w_met (cc := cX1_addFork) (maxL := 4) (ret := (some .int)) (by decide) rfl (Nat.le_of_ble_eq_true rfl) ?_
  intro p e s m below meth c ls S hr hlocks hname hB hl
  obtain ⟨hsz, hP, hK, hD0⟩ := hB
  subst hsz
  have hD := hD0.self (sz := s.heap.size)
  have hA : ∀ q : Nat, s.heap.size ≤ q → va_A (mW E a τ) s.heap.size q := fun q h => Or.inr h
  have hS : va_S (va_A (mW E a τ) s.heap.size) s.heap s.heap [] := va_S.rf
  obtain ⟨hx, hb, hml, hown, hts⟩ := id S
  have hts0 := hinX1_addFork
  have hl : lv_has ls 4 [(0, .ref (a 0)), (1, .int (nI k)), (2, .int qq), (3, .int w)] := hl
  refine lv_aload_n hx hb dX1_addFork_0 rfl (lv_at hl 0 rfl) ?_
  refine lv_iconst (v := 0) hx hb dX1_addFork_1 (by decide) ?_
  refine va_put (D := E.1) (ci := 1) (v := .int 0) (ty := .int) (C := RX1) (T := TX1) (N := 13) hx hb hts hts0 tyX1 tyX1_ok nmX1 hown hK hP hD hS 0 rfl rfl 0 (by decide) (hts (.fieldLink RX1 42 "ExamGardenModel" "thrown" "I") (by decide +kernel)) (fun _ h9 => h9) rfl (by decide +kernel) rfl rfl (Nat.le_of_ble_eq_true rfl) dX1_addFork_2 (fun H locs hP hD hS => ?_)
  have hP : gP E (mW E a (0, mn τ, mk τ, mf τ, mo τ, mh τ, md τ, mr τ, mu τ, mv τ, ms τ, mp τ, mw τ)) H := hP
  have hD : va_D (va_A (mW E a τ) s.heap.size) (mW E a (0, mn τ, mk τ, mf τ, mo τ, mh τ, md τ, mr τ, mu τ, mv τ, ms τ, mp τ, mw τ)) := hD
  refine lv_aload_n hx hb dX1_addFork_5 rfl (lv_at hl 0 rfl) ?_
  refine lv_iload_n hx hb dX1_addFork_6 rfl (lv_at hl 1 rfl) ?_
  refine m0i (As := [.int (nI k)]) (rest := []) S (m_isPlace l E a (0, mn τ, mk τ, mf τ, mo τ, mh τ, md τ, mr τ, mu τ, mv τ, ms τ, mp τ, mw τ) (nI k)) (cwV 1 hts gX1_addFork_X1_isPlace rfl rfl rfl hdX1_isPlace ⟨Nat.le_of_ble_eq_true rfl, Nat.le_of_ble_eq_true rfl⟩) hK hP rfl hl.1 rfl (Nat.le_of_ble_eq_true rfl) ⟨Nat.zero_le _, Nat.zero_le _⟩ dX1_addFork_7 ?_
  refine lv_if_eq (tgt := 21) hx hb dX1_addFork_10 (by decide) (fun q => absurd q ((b2i_ne0.mpr hp))) (fun _ => ?_)
  refine lv_aload_n hx hb dX1_addFork_13 rfl (lv_at hl 0 rfl) ?_
  refine lv_iload_n hx hb dX1_addFork_14 rfl (lv_at hl 2 rfl) ?_
  refine m0i (As := [.int qq]) (rest := []) S (m_isPlace l E a (0, mn τ, mk τ, mf τ, mo τ, mh τ, md τ, mr τ, mu τ, mv τ, ms τ, mp τ, mw τ) qq) (cwV 1 hts gX1_addFork_X1_isPlace rfl rfl rfl hdX1_isPlace ⟨Nat.le_of_ble_eq_true rfl, Nat.le_of_ble_eq_true rfl⟩) hK hP rfl hl.1 rfl (Nat.le_of_ble_eq_true rfl) ⟨Nat.zero_le _, Nat.zero_le _⟩ dX1_addFork_15 ?_
  refine lv_if_ne (tgt := 27) hx hb dX1_addFork_18 (by decide) (fun q => absurd ((b2i_eq0.mpr hq)) q) (fun _ => ?_)
  refine lv_aload_n hx hb dX1_addFork_21 rfl (lv_at hl 0 rfl) ?_
  refine lv_iconst (v := 1) hx hb dX1_addFork_22 (by decide) ?_
  refine m0wi (As := [.int 1]) (rest := []) (τ' := mThr (0, mn τ, mk τ, mf τ, mo τ, mh τ, md τ, mr τ, mu τ, mv τ, ms τ, mp τ, mw τ) 1) S (m_no l E a (0, mn τ, mk τ, mf τ, mo τ, mh τ, md τ, mr τ, mu τ, mv τ, ms τ, mp τ, mw τ) _ 1) (cwV 1 hts gX1_addFork_X1_no rfl rfl rfl hdX1_no ⟨Nat.le_of_ble_eq_true rfl, Nat.le_of_ble_eq_true rfl⟩) hK hP hD hS hA rfl hl.1 rfl (Nat.le_of_ble_eq_true rfl) ⟨Nat.zero_le _, Nat.zero_le _⟩ dX1_addFork_23 (fun H locs hP hD hS => ?_)
  exact W.iret hx hb hr (fun t ht hW => ⟨⟨_, (), rfl, rfl, by show gP E _ t.heap; rw [ht]; exact hP⟩, hS.F ht⟩) hS.2.2 dX1_addFork_26
set_option maxHeartbeats 4000000 in
set_option maxRecDepth 100000 in
theorem m_addFork_2 (l : Launch) (E : GE) (a : Nat → Nat) (τ : MS) (sz : Nat) (x y : Nat) (hx0 : x < mn τ) (hy0 : y < mn τ) (hp : mIsP τ (nI x) = true) (hq : mIsP τ (nI y) = true) (w : Int32) (hw : iIn w 1 (nI 9) = false) : Met l yX1_addFork wsX1_addFork { frames := 2, cells := 0, slots := 0, locals := 43 } (va_Pc [.ref (a 0), .int (nI x), .int (nI y), .int w] (gBw E sz (mW E a τ))) (gQi E (0) (mW E a τ) (mW E a (mThr τ 2)) sz) 0 0 (va_A (mW E a τ) sz) := by
  refine w_met (cc := cX1_addFork) (maxL := 4) (ret := (some .int)) (by decide) rfl (Nat.le_of_ble_eq_true rfl) ?_
  intro p e s m below meth c ls S hr hlocks hname hB hl
  obtain ⟨hsz, hP, hK, hD0⟩ := hB
  subst hsz
  have hD := hD0.self (sz := s.heap.size)
  have hA : ∀ q : Nat, s.heap.size ≤ q → va_A (mW E a τ) s.heap.size q := fun q h => Or.inr h
  have hS : va_S (va_A (mW E a τ) s.heap.size) s.heap s.heap [] := va_S.rf
  obtain ⟨hx, hb, hml, hown, hts⟩ := id S
  have hts0 := hinX1_addFork
  have hl : lv_has ls 4 [(0, .ref (a 0)), (1, .int (nI x)), (2, .int (nI y)), (3, .int w)] := hl
  refine lv_aload_n hx hb dX1_addFork_0 rfl (lv_at hl 0 rfl) ?_
  refine lv_iconst (v := 0) hx hb dX1_addFork_1 (by decide) ?_
  refine va_put (D := E.1) (ci := 1) (v := .int 0) (ty := .int) (C := RX1) (T := TX1) (N := 13) hx hb hts hts0 tyX1 tyX1_ok nmX1 hown hK hP hD hS 0 rfl rfl 0 (by decide) (hts (.fieldLink RX1 42 "ExamGardenModel" "thrown" "I") (by decide +kernel)) (fun _ h9 => h9) rfl (by decide +kernel) rfl rfl (Nat.le_of_ble_eq_true rfl) dX1_addFork_2 (fun H locs hP hD hS => ?_)
  have hP : gP E (mW E a (0, mn τ, mk τ, mf τ, mo τ, mh τ, md τ, mr τ, mu τ, mv τ, ms τ, mp τ, mw τ)) H := hP
  have hD : va_D (va_A (mW E a τ) s.heap.size) (mW E a (0, mn τ, mk τ, mf τ, mo τ, mh τ, md τ, mr τ, mu τ, mv τ, ms τ, mp τ, mw τ)) := hD
  refine lv_aload_n hx hb dX1_addFork_5 rfl (lv_at hl 0 rfl) ?_
  refine lv_iload_n hx hb dX1_addFork_6 rfl (lv_at hl 1 rfl) ?_
  refine m0i (As := [.int (nI x)]) (rest := []) S (m_isPlace l E a (0, mn τ, mk τ, mf τ, mo τ, mh τ, md τ, mr τ, mu τ, mv τ, ms τ, mp τ, mw τ) (nI x)) (cwV 1 hts gX1_addFork_X1_isPlace rfl rfl rfl hdX1_isPlace ⟨Nat.le_of_ble_eq_true rfl, Nat.le_of_ble_eq_true rfl⟩) hK hP rfl hl.1 rfl (Nat.le_of_ble_eq_true rfl) ⟨Nat.zero_le _, Nat.zero_le _⟩ dX1_addFork_7 ?_
  refine lv_if_eq (tgt := 21) hx hb dX1_addFork_10 (by decide) (fun q => absurd q ((b2i_ne0.mpr hp))) (fun _ => ?_)
  refine lv_aload_n hx hb dX1_addFork_13 rfl (lv_at hl 0 rfl) ?_
  refine lv_iload_n hx hb dX1_addFork_14 rfl (lv_at hl 2 rfl) ?_
  refine m0i (As := [.int (nI y)]) (rest := []) S (m_isPlace l E a (0, mn τ, mk τ, mf τ, mo τ, mh τ, md τ, mr τ, mu τ, mv τ, ms τ, mp τ, mw τ) (nI y)) (cwV 1 hts gX1_addFork_X1_isPlace rfl rfl rfl hdX1_isPlace ⟨Nat.le_of_ble_eq_true rfl, Nat.le_of_ble_eq_true rfl⟩) hK hP rfl hl.1 rfl (Nat.le_of_ble_eq_true rfl) ⟨Nat.zero_le _, Nat.zero_le _⟩ dX1_addFork_15 ?_
  refine lv_if_ne (tgt := 27) hx hb dX1_addFork_18 (by decide) (fun _ => ?_) (fun q => absurd q ((b2i_ne0.mpr hq)))
  refine lv_iload_n hx hb dX1_addFork_27 rfl (lv_at hl 3 rfl) ?_
  refine lv_iconst (v := 1) hx hb dX1_addFork_28 (by decide) ?_
  refine lv_bipush (v := nI 9) hx hb dX1_addFork_29 (by decide) ?_
  refine g_si (As := [.int w, .int 1, .int (nI 9)]) (rest := []) S (m_isIn l E w 1 (nI 9)) (va_cwS 3 hts gX1_addFork_X1_isIn rfl rfl rfl hdX1_isIn.2 ⟨Nat.le_of_ble_eq_true rfl, Nat.le_of_ble_eq_true rfl⟩) hK (fun _ _ h => nomatch h) rfl hl.1 rfl (Nat.le_of_ble_eq_true rfl) ⟨Nat.zero_le _, Nat.zero_le _⟩ dX1_addFork_31 ?_
  refine lv_if_ne (tgt := 43) hx hb dX1_addFork_34 (by decide) (fun q => absurd ((b2i_eq0.mpr hw)) q) (fun _ => ?_)
  refine lv_aload_n hx hb dX1_addFork_37 rfl (lv_at hl 0 rfl) ?_
  refine lv_iconst (v := 2) hx hb dX1_addFork_38 (by decide) ?_
  refine m0wi (As := [.int 2]) (rest := []) (τ' := mThr (0, mn τ, mk τ, mf τ, mo τ, mh τ, md τ, mr τ, mu τ, mv τ, ms τ, mp τ, mw τ) 2) S (m_no l E a (0, mn τ, mk τ, mf τ, mo τ, mh τ, md τ, mr τ, mu τ, mv τ, ms τ, mp τ, mw τ) _ 2) (cwV 1 hts gX1_addFork_X1_no rfl rfl rfl hdX1_no ⟨Nat.le_of_ble_eq_true rfl, Nat.le_of_ble_eq_true rfl⟩) hK hP hD hS hA rfl hl.1 rfl (Nat.le_of_ble_eq_true rfl) ⟨Nat.zero_le _, Nat.zero_le _⟩ dX1_addFork_39 (fun H locs hP hD hS => ?_)
  exact W.iret hx hb hr (fun t ht hW => ⟨⟨_, (), rfl, rfl, by show gP E _ t.heap; rw [ht]; exact hP⟩, hS.F ht⟩) hS.2.2 dX1_addFork_42
set_option maxHeartbeats 4000000 in
set_option maxRecDepth 100000 in
theorem m_addFork_3 (l : Launch) (E : GE) (a : Nat → Nat) (τ : MS) (sz : Nat) (x y : Nat) (hx0 : x < mn τ) (hy0 : y < mn τ) (hp : mIsP τ (nI x) = true) (hq : mIsP τ (nI y) = true) (w : Int32) (hw : iIn w 1 (nI 9) = true) (hn : mn τ = 40) : Met l yX1_addFork wsX1_addFork { frames := 2, cells := 0, slots := 0, locals := 43 } (va_Pc [.ref (a 0), .int (nI x), .int (nI y), .int w] (gBw E sz (mW E a τ))) (gQi E (0) (mW E a τ) (mW E a (mThr τ 3)) sz) 0 0 (va_A (mW E a τ) sz) := by
  refine w_met (cc := cX1_addFork) (maxL := 4) (ret := (some .int)) (by decide) rfl (Nat.le_of_ble_eq_true rfl) ?_
  intro p e s m below meth c ls S hr hlocks hname hB hl
  obtain ⟨hsz, hP, hK, hD0⟩ := hB
  subst hsz
  have hD := hD0.self (sz := s.heap.size)
  have hA : ∀ q : Nat, s.heap.size ≤ q → va_A (mW E a τ) s.heap.size q := fun q h => Or.inr h
  have hS : va_S (va_A (mW E a τ) s.heap.size) s.heap s.heap [] := va_S.rf
  obtain ⟨hx, hb, hml, hown, hts⟩ := id S
  have hts0 := hinX1_addFork
  have hl : lv_has ls 4 [(0, .ref (a 0)), (1, .int (nI x)), (2, .int (nI y)), (3, .int w)] := hl
  refine lv_aload_n hx hb dX1_addFork_0 rfl (lv_at hl 0 rfl) ?_
  refine lv_iconst (v := 0) hx hb dX1_addFork_1 (by decide) ?_
  refine va_put (D := E.1) (ci := 1) (v := .int 0) (ty := .int) (C := RX1) (T := TX1) (N := 13) hx hb hts hts0 tyX1 tyX1_ok nmX1 hown hK hP hD hS 0 rfl rfl 0 (by decide) (hts (.fieldLink RX1 42 "ExamGardenModel" "thrown" "I") (by decide +kernel)) (fun _ h9 => h9) rfl (by decide +kernel) rfl rfl (Nat.le_of_ble_eq_true rfl) dX1_addFork_2 (fun H locs hP hD hS => ?_)
  have hP : gP E (mW E a (0, mn τ, mk τ, mf τ, mo τ, mh τ, md τ, mr τ, mu τ, mv τ, ms τ, mp τ, mw τ)) H := hP
  have hD : va_D (va_A (mW E a τ) s.heap.size) (mW E a (0, mn τ, mk τ, mf τ, mo τ, mh τ, md τ, mr τ, mu τ, mv τ, ms τ, mp τ, mw τ)) := hD
  refine lv_aload_n hx hb dX1_addFork_5 rfl (lv_at hl 0 rfl) ?_
  refine lv_iload_n hx hb dX1_addFork_6 rfl (lv_at hl 1 rfl) ?_
  refine m0i (As := [.int (nI x)]) (rest := []) S (m_isPlace l E a (0, mn τ, mk τ, mf τ, mo τ, mh τ, md τ, mr τ, mu τ, mv τ, ms τ, mp τ, mw τ) (nI x)) (cwV 1 hts gX1_addFork_X1_isPlace rfl rfl rfl hdX1_isPlace ⟨Nat.le_of_ble_eq_true rfl, Nat.le_of_ble_eq_true rfl⟩) hK hP rfl hl.1 rfl (Nat.le_of_ble_eq_true rfl) ⟨Nat.zero_le _, Nat.zero_le _⟩ dX1_addFork_7 ?_
  refine lv_if_eq (tgt := 21) hx hb dX1_addFork_10 (by decide) (fun q => absurd q ((b2i_ne0.mpr hp))) (fun _ => ?_)
  refine lv_aload_n hx hb dX1_addFork_13 rfl (lv_at hl 0 rfl) ?_
  refine lv_iload_n hx hb dX1_addFork_14 rfl (lv_at hl 2 rfl) ?_
  refine m0i (As := [.int (nI y)]) (rest := []) S (m_isPlace l E a (0, mn τ, mk τ, mf τ, mo τ, mh τ, md τ, mr τ, mu τ, mv τ, ms τ, mp τ, mw τ) (nI y)) (cwV 1 hts gX1_addFork_X1_isPlace rfl rfl rfl hdX1_isPlace ⟨Nat.le_of_ble_eq_true rfl, Nat.le_of_ble_eq_true rfl⟩) hK hP rfl hl.1 rfl (Nat.le_of_ble_eq_true rfl) ⟨Nat.zero_le _, Nat.zero_le _⟩ dX1_addFork_15 ?_
  refine lv_if_ne (tgt := 27) hx hb dX1_addFork_18 (by decide) (fun _ => ?_) (fun q => absurd q ((b2i_ne0.mpr hq)))
  refine lv_iload_n hx hb dX1_addFork_27 rfl (lv_at hl 3 rfl) ?_
  refine lv_iconst (v := 1) hx hb dX1_addFork_28 (by decide) ?_
  refine lv_bipush (v := nI 9) hx hb dX1_addFork_29 (by decide) ?_
  refine g_si (As := [.int w, .int 1, .int (nI 9)]) (rest := []) S (m_isIn l E w 1 (nI 9)) (va_cwS 3 hts gX1_addFork_X1_isIn rfl rfl rfl hdX1_isIn.2 ⟨Nat.le_of_ble_eq_true rfl, Nat.le_of_ble_eq_true rfl⟩) hK (fun _ _ h => nomatch h) rfl hl.1 rfl (Nat.le_of_ble_eq_true rfl) ⟨Nat.zero_le _, Nat.zero_le _⟩ dX1_addFork_31 ?_
  refine lv_if_ne (tgt := 43) hx hb dX1_addFork_34 (by decide) (fun _ => ?_) (fun q => absurd q ((b2i_ne0.mpr hw)))
  refine lv_aload_n hx hb dX1_addFork_43 rfl (lv_at hl 0 rfl) ?_
  refine m_get (τ := (0, mn τ, mk τ, mf τ, mo τ, mh τ, md τ, mr τ, mu τ, mv τ, ms τ, mp τ, mw τ)) hx hb hts hts0 hown hK hP 1 (by decide) (by decide +kernel) rfl rfl dX1_addFork_44 ?_
  refine lv_bipush (v := nI 40) hx hb dX1_addFork_47 (by decide) ?_
  refine lv_icmp_ne (tgt := 58) hx hb dX1_addFork_49 (by decide) (fun q => absurd ((by rw [show mn τ = 40 from hn])) q) (fun _ => ?_)
  refine lv_aload_n hx hb dX1_addFork_52 rfl (lv_at hl 0 rfl) ?_
  refine lv_iconst (v := 3) hx hb dX1_addFork_53 (by decide) ?_
  refine m0wi (As := [.int 3]) (rest := []) (τ' := mThr (0, mn τ, mk τ, mf τ, mo τ, mh τ, md τ, mr τ, mu τ, mv τ, ms τ, mp τ, mw τ) 3) S (m_no l E a (0, mn τ, mk τ, mf τ, mo τ, mh τ, md τ, mr τ, mu τ, mv τ, ms τ, mp τ, mw τ) _ 3) (cwV 1 hts gX1_addFork_X1_no rfl rfl rfl hdX1_no ⟨Nat.le_of_ble_eq_true rfl, Nat.le_of_ble_eq_true rfl⟩) hK hP hD hS hA rfl hl.1 rfl (Nat.le_of_ble_eq_true rfl) ⟨Nat.zero_le _, Nat.zero_le _⟩ dX1_addFork_54 (fun H locs hP hD hS => ?_)
  exact W.iret hx hb hr (fun t ht hW => ⟨⟨_, (), rfl, rfl, by show gP E _ t.heap; rw [ht]; exact hP⟩, hS.F ht⟩) hS.2.2 dX1_addFork_57
theorem hinX1_grade : ∀ w ∈ wsX10, w ∈ wsX1_grade := fun w h => List.mem_cons_of_mem _ (List.mem_append_right _ h)
theorem hdX1_grade : yX1_grade.cls = RX1 ∧ yX1_grade.cls ≠ "java/lang/invoke/MethodHandle" ∧ yX1_grade.cls ≠ "java/lang/invoke/VarHandle" ∧ (parseMethodDescriptor yX1_grade.desc).map (fun d => d.parameters.length) = some 2 := by decide +kernel
set_option maxHeartbeats 4000000 in
set_option maxRecDepth 100000 in
theorem m_grade (l : Launch) (E : GE) (a : Nat → Nat) (τ : MS) (sz : Nat) (hO : MOK τ) (k : Nat) (hk : k < mn τ) (hp : mIsP τ (nI k) = true) (hE : mf τ k = false) (g : Int32) (hw : iIn g (nI (mo τ k)) (nI (mh τ k)) = true) (hG : md τ k = -1) : Met l yX1_grade wsX1_grade { frames := 3, cells := 0, slots := 0, locals := 64 } (va_Pc [.ref (a 0), .int (nI k), .int g] (gBw E sz (mW E a τ))) (gQi E (mGn (mMd τ k g)) (mW E a τ) (mW E a (mMd τ k g)) sz) 0 0 (va_A (mW E a τ) sz) := by
  refine w_met (cc := cX1_grade) (maxL := 3) (ret := (some .int)) (by decide) rfl (Nat.le_of_ble_eq_true rfl) ?_
  intro p e s m below meth c ls S hr hlocks hname hB hl
  obtain ⟨hsz, hP, hK, hD0⟩ := hB
  subst hsz
  have hD := hD0.self (sz := s.heap.size)
  have hA : ∀ q : Nat, s.heap.size ≤ q → va_A (mW E a τ) s.heap.size q := fun q h => Or.inr h
  have hS : va_S (va_A (mW E a τ) s.heap.size) s.heap s.heap [] := va_S.rf
  obtain ⟨hx, hb, hml, hown, hts⟩ := id S
  have tn := hO.1
  have hts0 := hinX1_grade
  have hl : lv_has ls 3 [(0, .ref (a 0)), (1, .int (nI k)), (2, .int g)] := hl
  refine lv_aload_n hx hb dX1_grade_0 rfl (lv_at hl 0 rfl) ?_
  refine lv_iconst (v := 0) hx hb dX1_grade_1 (by decide) ?_
  refine va_put (D := E.1) (ci := 1) (v := .int 0) (ty := .int) (C := RX1) (T := TX1) (N := 13) hx hb hts hts0 tyX1 tyX1_ok nmX1 hown hK hP hD hS 0 rfl rfl 0 (by decide) (hts (.fieldLink RX1 42 "ExamGardenModel" "thrown" "I") (by decide +kernel)) (fun _ h9 => h9) rfl (by decide +kernel) rfl rfl (Nat.le_of_ble_eq_true rfl) dX1_grade_2 (fun H locs hP hD hS => ?_)
  have hP : gP E (mW E a (0, mn τ, mk τ, mf τ, mo τ, mh τ, md τ, mr τ, mu τ, mv τ, ms τ, mp τ, mw τ)) H := hP
  have hD : va_D (va_A (mW E a τ) s.heap.size) (mW E a (0, mn τ, mk τ, mf τ, mo τ, mh τ, md τ, mr τ, mu τ, mv τ, ms τ, mp τ, mw τ)) := hD
  refine lv_aload_n hx hb dX1_grade_5 rfl (lv_at hl 0 rfl) ?_
  refine lv_iload_n hx hb dX1_grade_6 rfl (lv_at hl 1 rfl) ?_
  refine m0i (As := [.int (nI k)]) (rest := []) S (m_isExamAt l E a (0, mn τ, mk τ, mf τ, mo τ, mh τ, md τ, mr τ, mu τ, mv τ, ms τ, mp τ, mw τ) k (by omega) hp) (cwV 1 hts gX1_grade_X1_isExamAt rfl rfl rfl hdX1_isExamAt ⟨Nat.le_of_ble_eq_true rfl, Nat.le_of_ble_eq_true rfl⟩) hK hP rfl hl.1 rfl (Nat.le_of_ble_eq_true rfl) ⟨Nat.zero_le _, Nat.zero_le _⟩ dX1_grade_7 ?_
  refine lv_if_ne (tgt := 19) hx hb dX1_grade_10 (by decide) (fun _ => ?_) (fun q => absurd q ((b2i_ne0.mpr (by rw [hE]; rfl))))
  refine lv_iload_n hx hb dX1_grade_19 rfl (lv_at hl 2 rfl) ?_
  refine lv_aload_n hx hb dX1_grade_20 rfl (lv_at hl 0 rfl) ?_
  refine m_get (τ := (0, mn τ, mk τ, mf τ, mo τ, mh τ, md τ, mr τ, mu τ, mv τ, ms τ, mp τ, mw τ)) hx hb hts hts0 hown hK hP 4 (by decide) (by decide +kernel) rfl rfl dX1_grade_21 ?_
  refine lv_iload_n hx hb dX1_grade_24 rfl (lv_at hl 1 rfl) ?_
  refine g_ild hx hb hK hP 2 rfl (v := nI ((mo τ) k)) (vp_in_nI (by omega) (by decide)) (by rw [nI_clamp (by omega)] <;> rfl) dX1_grade_25 ?_
  refine lv_aload_n hx hb dX1_grade_26 rfl (lv_at hl 0 rfl) ?_
  refine m_get (τ := (0, mn τ, mk τ, mf τ, mo τ, mh τ, md τ, mr τ, mu τ, mv τ, ms τ, mp τ, mw τ)) hx hb hts hts0 hown hK hP 5 (by decide) (by decide +kernel) rfl rfl dX1_grade_27 ?_
  refine lv_iload_n hx hb dX1_grade_30 rfl (lv_at hl 1 rfl) ?_
  refine g_ild hx hb hK hP 3 rfl (v := nI ((mh τ) k)) (vp_in_nI (by omega) (by decide)) (by rw [nI_clamp (by omega)] <;> rfl) dX1_grade_31 ?_
  refine g_si (As := [.int g, .int (nI ((mo τ) k)), .int (nI ((mh τ) k))]) (rest := []) S (m_isIn l E g (nI ((mo τ) k)) (nI ((mh τ) k))) (va_cwS 3 hts gX1_grade_X1_isIn rfl rfl rfl hdX1_isIn.2 ⟨Nat.le_of_ble_eq_true rfl, Nat.le_of_ble_eq_true rfl⟩) hK (fun _ _ h => nomatch h) rfl hl.1 rfl (Nat.le_of_ble_eq_true rfl) ⟨Nat.zero_le _, Nat.zero_le _⟩ dX1_grade_32 ?_
  refine lv_if_ne (tgt := 44) hx hb dX1_grade_35 (by decide) (fun _ => ?_) (fun q => absurd q ((b2i_ne0.mpr hw)))
  refine lv_aload_n hx hb dX1_grade_44 rfl (lv_at hl 0 rfl) ?_
  refine m_get (τ := (0, mn τ, mk τ, mf τ, mo τ, mh τ, md τ, mr τ, mu τ, mv τ, ms τ, mp τ, mw τ)) hx hb hts hts0 hown hK hP 6 (by decide) (by decide +kernel) rfl rfl dX1_grade_45 ?_
  refine lv_iload_n hx hb dX1_grade_48 rfl (lv_at hl 1 rfl) ?_
  refine g_ild hx hb hK hP 4 rfl (v := (md τ) k) (vp_in_nI (by omega) (by decide)) (by rw [nI_clamp (by omega)] <;> rfl) dX1_grade_49 ?_
  refine lv_iconst (v := -1) hx hb dX1_grade_50 (by decide) ?_
  refine lv_icmp_eq (tgt := 60) hx hb dX1_grade_51 (by decide) (fun _ => ?_) (fun q => absurd hG q)
  refine lv_aload_n hx hb dX1_grade_60 rfl (lv_at hl 0 rfl) ?_
  refine m_get (τ := (0, mn τ, mk τ, mf τ, mo τ, mh τ, md τ, mr τ, mu τ, mv τ, ms τ, mp τ, mw τ)) hx hb hts hts0 hown hK hP 6 (by decide) (by decide +kernel) rfl rfl dX1_grade_61 ?_
  refine lv_iload_n hx hb dX1_grade_64 rfl (lv_at hl 1 rfl) ?_
  refine lv_iload_n hx hb dX1_grade_65 rfl (lv_at hl 2 rfl) ?_
  refine g_ist hx hb hK hP hD hS 4 rfl (f' := (upd ((md τ)) k g)) (vp_in_nI (by omega) (by decide)) (g_clu (k := k) (by omega) rfl) dX1_grade_66 (fun H locs hP hD hS => ?_)
  have hP : gP E (mW E a (0, mn τ, mk τ, mf τ, mo τ, mh τ, upd ((md τ)) k g, mr τ, mu τ, mv τ, ms τ, mp τ, mw τ)) H := hP
  have hD : va_D (va_A (mW E a τ) s.heap.size) (mW E a (0, mn τ, mk τ, mf τ, mo τ, mh τ, upd ((md τ)) k g, mr τ, mu τ, mv τ, ms τ, mp τ, mw τ)) := hD
  refine lv_aload_n hx hb dX1_grade_67 rfl (lv_at hl 0 rfl) ?_
  refine m0i (As := []) (rest := []) S (m_gradedNow l E a (0, mn τ, mk τ, mf τ, mo τ, mh τ, upd ((md τ)) k g, mr τ, mu τ, mv τ, ms τ, mp τ, mw τ) hO) (cwV 0 hts gX1_grade_X1_gradedNow rfl rfl rfl hdX1_gradedNow ⟨Nat.le_of_ble_eq_true rfl, Nat.le_of_ble_eq_true rfl⟩) hK hP rfl hl.1 rfl (Nat.le_of_ble_eq_true rfl) ⟨Nat.zero_le _, Nat.zero_le _⟩ dX1_grade_68 ?_
  exact W.iret hx hb hr (fun t ht hW => ⟨⟨_, (), rfl, rfl, by show gP E _ t.heap; rw [ht]; exact hP⟩, hS.F ht⟩) hS.2.2 dX1_grade_71
set_option maxHeartbeats 4000000 in
set_option maxRecDepth 100000 in
theorem m_grade_1 (l : Launch) (E : GE) (a : Nat → Nat) (τ : MS) (sz : Nat) (pp : Int32) (hp : mIsP τ pp = false) (g : Int32) : Met l yX1_grade wsX1_grade { frames := 3, cells := 0, slots := 0, locals := 64 } (va_Pc [.ref (a 0), .int pp, .int g] (gBw E sz (mW E a τ))) (gQi E (0) (mW E a τ) (mW E a (mThr τ 1)) sz) 0 0 (va_A (mW E a τ) sz) := by
  refine w_met (cc := cX1_grade) (maxL := 3) (ret := (some .int)) (by decide) rfl (Nat.le_of_ble_eq_true rfl) ?_
  intro p e s m below meth c ls S hr hlocks hname hB hl
  obtain ⟨hsz, hP, hK, hD0⟩ := hB
  subst hsz
  have hD := hD0.self (sz := s.heap.size)
  have hA : ∀ q : Nat, s.heap.size ≤ q → va_A (mW E a τ) s.heap.size q := fun q h => Or.inr h
  have hS : va_S (va_A (mW E a τ) s.heap.size) s.heap s.heap [] := va_S.rf
  obtain ⟨hx, hb, hml, hown, hts⟩ := id S
  have hts0 := hinX1_grade
  have hl : lv_has ls 3 [(0, .ref (a 0)), (1, .int pp), (2, .int g)] := hl
  refine lv_aload_n hx hb dX1_grade_0 rfl (lv_at hl 0 rfl) ?_
  refine lv_iconst (v := 0) hx hb dX1_grade_1 (by decide) ?_
  refine va_put (D := E.1) (ci := 1) (v := .int 0) (ty := .int) (C := RX1) (T := TX1) (N := 13) hx hb hts hts0 tyX1 tyX1_ok nmX1 hown hK hP hD hS 0 rfl rfl 0 (by decide) (hts (.fieldLink RX1 42 "ExamGardenModel" "thrown" "I") (by decide +kernel)) (fun _ h9 => h9) rfl (by decide +kernel) rfl rfl (Nat.le_of_ble_eq_true rfl) dX1_grade_2 (fun H locs hP hD hS => ?_)
  have hP : gP E (mW E a (0, mn τ, mk τ, mf τ, mo τ, mh τ, md τ, mr τ, mu τ, mv τ, ms τ, mp τ, mw τ)) H := hP
  have hD : va_D (va_A (mW E a τ) s.heap.size) (mW E a (0, mn τ, mk τ, mf τ, mo τ, mh τ, md τ, mr τ, mu τ, mv τ, ms τ, mp τ, mw τ)) := hD
  refine lv_aload_n hx hb dX1_grade_5 rfl (lv_at hl 0 rfl) ?_
  refine lv_iload_n hx hb dX1_grade_6 rfl (lv_at hl 1 rfl) ?_
  refine m0i (As := [.int pp]) (rest := []) S (m_isExamAt_b l E a (0, mn τ, mk τ, mf τ, mo τ, mh τ, md τ, mr τ, mu τ, mv τ, ms τ, mp τ, mw τ) pp hp) (cwV 1 hts gX1_grade_X1_isExamAt rfl rfl rfl hdX1_isExamAt ⟨Nat.le_of_ble_eq_true rfl, Nat.le_of_ble_eq_true rfl⟩) hK hP rfl hl.1 rfl (Nat.le_of_ble_eq_true rfl) ⟨Nat.zero_le _, Nat.zero_le _⟩ dX1_grade_7 ?_
  refine lv_if_ne (tgt := 19) hx hb dX1_grade_10 (by decide) (fun q => absurd ((rfl : b2i false = 0)) q) (fun _ => ?_)
  refine lv_aload_n hx hb dX1_grade_13 rfl (lv_at hl 0 rfl) ?_
  refine lv_iconst (v := 1) hx hb dX1_grade_14 (by decide) ?_
  refine m0wi (As := [.int 1]) (rest := []) (τ' := mThr (0, mn τ, mk τ, mf τ, mo τ, mh τ, md τ, mr τ, mu τ, mv τ, ms τ, mp τ, mw τ) 1) S (m_no l E a (0, mn τ, mk τ, mf τ, mo τ, mh τ, md τ, mr τ, mu τ, mv τ, ms τ, mp τ, mw τ) _ 1) (cwV 1 hts gX1_grade_X1_no rfl rfl rfl hdX1_no ⟨Nat.le_of_ble_eq_true rfl, Nat.le_of_ble_eq_true rfl⟩) hK hP hD hS hA rfl hl.1 rfl (Nat.le_of_ble_eq_true rfl) ⟨Nat.zero_le _, Nat.zero_le _⟩ dX1_grade_15 (fun H locs hP hD hS => ?_)
  exact W.iret hx hb hr (fun t ht hW => ⟨⟨_, (), rfl, rfl, by show gP E _ t.heap; rw [ht]; exact hP⟩, hS.F ht⟩) hS.2.2 dX1_grade_18
set_option maxHeartbeats 4000000 in
set_option maxRecDepth 100000 in
theorem m_grade_1f (l : Launch) (E : GE) (a : Nat → Nat) (τ : MS) (sz : Nat) (hn : mn τ ≤ 40) (k : Nat) (hk : k < mn τ) (hp : mIsP τ (nI k) = true) (hE : mf τ k = true) (g : Int32) : Met l yX1_grade wsX1_grade { frames := 3, cells := 0, slots := 0, locals := 64 } (va_Pc [.ref (a 0), .int (nI k), .int g] (gBw E sz (mW E a τ))) (gQi E (0) (mW E a τ) (mW E a (mThr τ 1)) sz) 0 0 (va_A (mW E a τ) sz) := by
  refine w_met (cc := cX1_grade) (maxL := 3) (ret := (some .int)) (by decide) rfl (Nat.le_of_ble_eq_true rfl) ?_
  intro p e s m below meth c ls S hr hlocks hname hB hl
  obtain ⟨hsz, hP, hK, hD0⟩ := hB
  subst hsz
  have hD := hD0.self (sz := s.heap.size)
  have hA : ∀ q : Nat, s.heap.size ≤ q → va_A (mW E a τ) s.heap.size q := fun q h => Or.inr h
  have hS : va_S (va_A (mW E a τ) s.heap.size) s.heap s.heap [] := va_S.rf
  obtain ⟨hx, hb, hml, hown, hts⟩ := id S
  have hts0 := hinX1_grade
  have hl : lv_has ls 3 [(0, .ref (a 0)), (1, .int (nI k)), (2, .int g)] := hl
  refine lv_aload_n hx hb dX1_grade_0 rfl (lv_at hl 0 rfl) ?_
  refine lv_iconst (v := 0) hx hb dX1_grade_1 (by decide) ?_
  refine va_put (D := E.1) (ci := 1) (v := .int 0) (ty := .int) (C := RX1) (T := TX1) (N := 13) hx hb hts hts0 tyX1 tyX1_ok nmX1 hown hK hP hD hS 0 rfl rfl 0 (by decide) (hts (.fieldLink RX1 42 "ExamGardenModel" "thrown" "I") (by decide +kernel)) (fun _ h9 => h9) rfl (by decide +kernel) rfl rfl (Nat.le_of_ble_eq_true rfl) dX1_grade_2 (fun H locs hP hD hS => ?_)
  have hP : gP E (mW E a (0, mn τ, mk τ, mf τ, mo τ, mh τ, md τ, mr τ, mu τ, mv τ, ms τ, mp τ, mw τ)) H := hP
  have hD : va_D (va_A (mW E a τ) s.heap.size) (mW E a (0, mn τ, mk τ, mf τ, mo τ, mh τ, md τ, mr τ, mu τ, mv τ, ms τ, mp τ, mw τ)) := hD
  refine lv_aload_n hx hb dX1_grade_5 rfl (lv_at hl 0 rfl) ?_
  refine lv_iload_n hx hb dX1_grade_6 rfl (lv_at hl 1 rfl) ?_
  refine m0i (As := [.int (nI k)]) (rest := []) S (m_isExamAt l E a (0, mn τ, mk τ, mf τ, mo τ, mh τ, md τ, mr τ, mu τ, mv τ, ms τ, mp τ, mw τ) k (by omega) hp) (cwV 1 hts gX1_grade_X1_isExamAt rfl rfl rfl hdX1_isExamAt ⟨Nat.le_of_ble_eq_true rfl, Nat.le_of_ble_eq_true rfl⟩) hK hP rfl hl.1 rfl (Nat.le_of_ble_eq_true rfl) ⟨Nat.zero_le _, Nat.zero_le _⟩ dX1_grade_7 ?_
  refine lv_if_ne (tgt := 19) hx hb dX1_grade_10 (by decide) (fun q => absurd ((b2i_eq0.mpr (by rw [hE]; rfl))) q) (fun _ => ?_)
  refine lv_aload_n hx hb dX1_grade_13 rfl (lv_at hl 0 rfl) ?_
  refine lv_iconst (v := 1) hx hb dX1_grade_14 (by decide) ?_
  refine m0wi (As := [.int 1]) (rest := []) (τ' := mThr (0, mn τ, mk τ, mf τ, mo τ, mh τ, md τ, mr τ, mu τ, mv τ, ms τ, mp τ, mw τ) 1) S (m_no l E a (0, mn τ, mk τ, mf τ, mo τ, mh τ, md τ, mr τ, mu τ, mv τ, ms τ, mp τ, mw τ) _ 1) (cwV 1 hts gX1_grade_X1_no rfl rfl rfl hdX1_no ⟨Nat.le_of_ble_eq_true rfl, Nat.le_of_ble_eq_true rfl⟩) hK hP hD hS hA rfl hl.1 rfl (Nat.le_of_ble_eq_true rfl) ⟨Nat.zero_le _, Nat.zero_le _⟩ dX1_grade_15 (fun H locs hP hD hS => ?_)
  exact W.iret hx hb hr (fun t ht hW => ⟨⟨_, (), rfl, rfl, by show gP E _ t.heap; rw [ht]; exact hP⟩, hS.F ht⟩) hS.2.2 dX1_grade_18
set_option maxHeartbeats 4000000 in
set_option maxRecDepth 100000 in
theorem m_grade_2 (l : Launch) (E : GE) (a : Nat → Nat) (τ : MS) (sz : Nat) (hn : mn τ ≤ 40) (k : Nat) (hk : k < mn τ) (hp : mIsP τ (nI k) = true) (hE : mf τ k = false) (g : Int32) (hw : iIn g (nI (mo τ k)) (nI (mh τ k)) = false) : Met l yX1_grade wsX1_grade { frames := 3, cells := 0, slots := 0, locals := 64 } (va_Pc [.ref (a 0), .int (nI k), .int g] (gBw E sz (mW E a τ))) (gQi E (0) (mW E a τ) (mW E a (mThr τ 2)) sz) 0 0 (va_A (mW E a τ) sz) := by
  refine w_met (cc := cX1_grade) (maxL := 3) (ret := (some .int)) (by decide) rfl (Nat.le_of_ble_eq_true rfl) ?_
  intro p e s m below meth c ls S hr hlocks hname hB hl
  obtain ⟨hsz, hP, hK, hD0⟩ := hB
  subst hsz
  have hD := hD0.self (sz := s.heap.size)
  have hA : ∀ q : Nat, s.heap.size ≤ q → va_A (mW E a τ) s.heap.size q := fun q h => Or.inr h
  have hS : va_S (va_A (mW E a τ) s.heap.size) s.heap s.heap [] := va_S.rf
  obtain ⟨hx, hb, hml, hown, hts⟩ := id S
  have hts0 := hinX1_grade
  have hl : lv_has ls 3 [(0, .ref (a 0)), (1, .int (nI k)), (2, .int g)] := hl
  refine lv_aload_n hx hb dX1_grade_0 rfl (lv_at hl 0 rfl) ?_
  refine lv_iconst (v := 0) hx hb dX1_grade_1 (by decide) ?_
  refine va_put (D := E.1) (ci := 1) (v := .int 0) (ty := .int) (C := RX1) (T := TX1) (N := 13) hx hb hts hts0 tyX1 tyX1_ok nmX1 hown hK hP hD hS 0 rfl rfl 0 (by decide) (hts (.fieldLink RX1 42 "ExamGardenModel" "thrown" "I") (by decide +kernel)) (fun _ h9 => h9) rfl (by decide +kernel) rfl rfl (Nat.le_of_ble_eq_true rfl) dX1_grade_2 (fun H locs hP hD hS => ?_)
  have hP : gP E (mW E a (0, mn τ, mk τ, mf τ, mo τ, mh τ, md τ, mr τ, mu τ, mv τ, ms τ, mp τ, mw τ)) H := hP
  have hD : va_D (va_A (mW E a τ) s.heap.size) (mW E a (0, mn τ, mk τ, mf τ, mo τ, mh τ, md τ, mr τ, mu τ, mv τ, ms τ, mp τ, mw τ)) := hD
  refine lv_aload_n hx hb dX1_grade_5 rfl (lv_at hl 0 rfl) ?_
  refine lv_iload_n hx hb dX1_grade_6 rfl (lv_at hl 1 rfl) ?_
  refine m0i (As := [.int (nI k)]) (rest := []) S (m_isExamAt l E a (0, mn τ, mk τ, mf τ, mo τ, mh τ, md τ, mr τ, mu τ, mv τ, ms τ, mp τ, mw τ) k (by omega) hp) (cwV 1 hts gX1_grade_X1_isExamAt rfl rfl rfl hdX1_isExamAt ⟨Nat.le_of_ble_eq_true rfl, Nat.le_of_ble_eq_true rfl⟩) hK hP rfl hl.1 rfl (Nat.le_of_ble_eq_true rfl) ⟨Nat.zero_le _, Nat.zero_le _⟩ dX1_grade_7 ?_
  refine lv_if_ne (tgt := 19) hx hb dX1_grade_10 (by decide) (fun _ => ?_) (fun q => absurd q ((b2i_ne0.mpr (by rw [hE]; rfl))))
  refine lv_iload_n hx hb dX1_grade_19 rfl (lv_at hl 2 rfl) ?_
  refine lv_aload_n hx hb dX1_grade_20 rfl (lv_at hl 0 rfl) ?_
  refine m_get (τ := (0, mn τ, mk τ, mf τ, mo τ, mh τ, md τ, mr τ, mu τ, mv τ, ms τ, mp τ, mw τ)) hx hb hts hts0 hown hK hP 4 (by decide) (by decide +kernel) rfl rfl dX1_grade_21 ?_
  refine lv_iload_n hx hb dX1_grade_24 rfl (lv_at hl 1 rfl) ?_
  refine g_ild hx hb hK hP 2 rfl (v := nI ((mo τ) k)) (vp_in_nI (by omega) (by decide)) (by rw [nI_clamp (by omega)] <;> rfl) dX1_grade_25 ?_
  refine lv_aload_n hx hb dX1_grade_26 rfl (lv_at hl 0 rfl) ?_
  refine m_get (τ := (0, mn τ, mk τ, mf τ, mo τ, mh τ, md τ, mr τ, mu τ, mv τ, ms τ, mp τ, mw τ)) hx hb hts hts0 hown hK hP 5 (by decide) (by decide +kernel) rfl rfl dX1_grade_27 ?_
  refine lv_iload_n hx hb dX1_grade_30 rfl (lv_at hl 1 rfl) ?_
  refine g_ild hx hb hK hP 3 rfl (v := nI ((mh τ) k)) (vp_in_nI (by omega) (by decide)) (by rw [nI_clamp (by omega)] <;> rfl) dX1_grade_31 ?_
  refine g_si (As := [.int g, .int (nI ((mo τ) k)), .int (nI ((mh τ) k))]) (rest := []) S (m_isIn l E g (nI ((mo τ) k)) (nI ((mh τ) k))) (va_cwS 3 hts gX1_grade_X1_isIn rfl rfl rfl hdX1_isIn.2 ⟨Nat.le_of_ble_eq_true rfl, Nat.le_of_ble_eq_true rfl⟩) hK (fun _ _ h => nomatch h) rfl hl.1 rfl (Nat.le_of_ble_eq_true rfl) ⟨Nat.zero_le _, Nat.zero_le _⟩ dX1_grade_32 ?_
  refine lv_if_ne (tgt := 44) hx hb dX1_grade_35 (by decide) (fun q => absurd ((b2i_eq0.mpr hw)) q) (fun _ => ?_)
  refine lv_aload_n hx hb dX1_grade_38 rfl (lv_at hl 0 rfl) ?_
  refine lv_iconst (v := 2) hx hb dX1_grade_39 (by decide) ?_
  refine m0wi (As := [.int 2]) (rest := []) (τ' := mThr (0, mn τ, mk τ, mf τ, mo τ, mh τ, md τ, mr τ, mu τ, mv τ, ms τ, mp τ, mw τ) 2) S (m_no l E a (0, mn τ, mk τ, mf τ, mo τ, mh τ, md τ, mr τ, mu τ, mv τ, ms τ, mp τ, mw τ) _ 2) (cwV 1 hts gX1_grade_X1_no rfl rfl rfl hdX1_no ⟨Nat.le_of_ble_eq_true rfl, Nat.le_of_ble_eq_true rfl⟩) hK hP hD hS hA rfl hl.1 rfl (Nat.le_of_ble_eq_true rfl) ⟨Nat.zero_le _, Nat.zero_le _⟩ dX1_grade_40 (fun H locs hP hD hS => ?_)
  exact W.iret hx hb hr (fun t ht hW => ⟨⟨_, (), rfl, rfl, by show gP E _ t.heap; rw [ht]; exact hP⟩, hS.F ht⟩) hS.2.2 dX1_grade_43
set_option maxHeartbeats 4000000 in
set_option maxRecDepth 100000 in
theorem m_grade_3 (l : Launch) (E : GE) (a : Nat → Nat) (τ : MS) (sz : Nat) (hn : mn τ ≤ 40) (k : Nat) (hk : k < mn τ) (hp : mIsP τ (nI k) = true) (hE : mf τ k = false) (g : Int32) (hw : iIn g (nI (mo τ k)) (nI (mh τ k)) = true) (hG : ¬ md τ k = -1) : Met l yX1_grade wsX1_grade { frames := 3, cells := 0, slots := 0, locals := 64 } (va_Pc [.ref (a 0), .int (nI k), .int g] (gBw E sz (mW E a τ))) (gQi E (0) (mW E a τ) (mW E a (mThr τ 3)) sz) 0 0 (va_A (mW E a τ) sz) := by
  refine w_met (cc := cX1_grade) (maxL := 3) (ret := (some .int)) (by decide) rfl (Nat.le_of_ble_eq_true rfl) ?_
  intro p e s m below meth c ls S hr hlocks hname hB hl
  obtain ⟨hsz, hP, hK, hD0⟩ := hB
  subst hsz
  have hD := hD0.self (sz := s.heap.size)
  have hA : ∀ q : Nat, s.heap.size ≤ q → va_A (mW E a τ) s.heap.size q := fun q h => Or.inr h
  have hS : va_S (va_A (mW E a τ) s.heap.size) s.heap s.heap [] := va_S.rf
  obtain ⟨hx, hb, hml, hown, hts⟩ := id S
  have hts0 := hinX1_grade
  have hl : lv_has ls 3 [(0, .ref (a 0)), (1, .int (nI k)), (2, .int g)] := hl
  refine lv_aload_n hx hb dX1_grade_0 rfl (lv_at hl 0 rfl) ?_
  refine lv_iconst (v := 0) hx hb dX1_grade_1 (by decide) ?_
  refine va_put (D := E.1) (ci := 1) (v := .int 0) (ty := .int) (C := RX1) (T := TX1) (N := 13) hx hb hts hts0 tyX1 tyX1_ok nmX1 hown hK hP hD hS 0 rfl rfl 0 (by decide) (hts (.fieldLink RX1 42 "ExamGardenModel" "thrown" "I") (by decide +kernel)) (fun _ h9 => h9) rfl (by decide +kernel) rfl rfl (Nat.le_of_ble_eq_true rfl) dX1_grade_2 (fun H locs hP hD hS => ?_)
  have hP : gP E (mW E a (0, mn τ, mk τ, mf τ, mo τ, mh τ, md τ, mr τ, mu τ, mv τ, ms τ, mp τ, mw τ)) H := hP
  have hD : va_D (va_A (mW E a τ) s.heap.size) (mW E a (0, mn τ, mk τ, mf τ, mo τ, mh τ, md τ, mr τ, mu τ, mv τ, ms τ, mp τ, mw τ)) := hD
  refine lv_aload_n hx hb dX1_grade_5 rfl (lv_at hl 0 rfl) ?_
  refine lv_iload_n hx hb dX1_grade_6 rfl (lv_at hl 1 rfl) ?_
  refine m0i (As := [.int (nI k)]) (rest := []) S (m_isExamAt l E a (0, mn τ, mk τ, mf τ, mo τ, mh τ, md τ, mr τ, mu τ, mv τ, ms τ, mp τ, mw τ) k (by omega) hp) (cwV 1 hts gX1_grade_X1_isExamAt rfl rfl rfl hdX1_isExamAt ⟨Nat.le_of_ble_eq_true rfl, Nat.le_of_ble_eq_true rfl⟩) hK hP rfl hl.1 rfl (Nat.le_of_ble_eq_true rfl) ⟨Nat.zero_le _, Nat.zero_le _⟩ dX1_grade_7 ?_
  refine lv_if_ne (tgt := 19) hx hb dX1_grade_10 (by decide) (fun _ => ?_) (fun q => absurd q ((b2i_ne0.mpr (by rw [hE]; rfl))))
  refine lv_iload_n hx hb dX1_grade_19 rfl (lv_at hl 2 rfl) ?_
  refine lv_aload_n hx hb dX1_grade_20 rfl (lv_at hl 0 rfl) ?_
  refine m_get (τ := (0, mn τ, mk τ, mf τ, mo τ, mh τ, md τ, mr τ, mu τ, mv τ, ms τ, mp τ, mw τ)) hx hb hts hts0 hown hK hP 4 (by decide) (by decide +kernel) rfl rfl dX1_grade_21 ?_
  refine lv_iload_n hx hb dX1_grade_24 rfl (lv_at hl 1 rfl) ?_
  refine g_ild hx hb hK hP 2 rfl (v := nI ((mo τ) k)) (vp_in_nI (by omega) (by decide)) (by rw [nI_clamp (by omega)] <;> rfl) dX1_grade_25 ?_
  refine lv_aload_n hx hb dX1_grade_26 rfl (lv_at hl 0 rfl) ?_
  refine m_get (τ := (0, mn τ, mk τ, mf τ, mo τ, mh τ, md τ, mr τ, mu τ, mv τ, ms τ, mp τ, mw τ)) hx hb hts hts0 hown hK hP 5 (by decide) (by decide +kernel) rfl rfl dX1_grade_27 ?_
  refine lv_iload_n hx hb dX1_grade_30 rfl (lv_at hl 1 rfl) ?_
  refine g_ild hx hb hK hP 3 rfl (v := nI ((mh τ) k)) (vp_in_nI (by omega) (by decide)) (by rw [nI_clamp (by omega)] <;> rfl) dX1_grade_31 ?_
  refine g_si (As := [.int g, .int (nI ((mo τ) k)), .int (nI ((mh τ) k))]) (rest := []) S (m_isIn l E g (nI ((mo τ) k)) (nI ((mh τ) k))) (va_cwS 3 hts gX1_grade_X1_isIn rfl rfl rfl hdX1_isIn.2 ⟨Nat.le_of_ble_eq_true rfl, Nat.le_of_ble_eq_true rfl⟩) hK (fun _ _ h => nomatch h) rfl hl.1 rfl (Nat.le_of_ble_eq_true rfl) ⟨Nat.zero_le _, Nat.zero_le _⟩ dX1_grade_32 ?_
  refine lv_if_ne (tgt := 44) hx hb dX1_grade_35 (by decide) (fun _ => ?_) (fun q => absurd q ((b2i_ne0.mpr hw)))
  refine lv_aload_n hx hb dX1_grade_44 rfl (lv_at hl 0 rfl) ?_
  refine m_get (τ := (0, mn τ, mk τ, mf τ, mo τ, mh τ, md τ, mr τ, mu τ, mv τ, ms τ, mp τ, mw τ)) hx hb hts hts0 hown hK hP 6 (by decide) (by decide +kernel) rfl rfl dX1_grade_45 ?_
  refine lv_iload_n hx hb dX1_grade_48 rfl (lv_at hl 1 rfl) ?_
  refine g_ild hx hb hK hP 4 rfl (v := (md τ) k) (vp_in_nI (by omega) (by decide)) (by rw [nI_clamp (by omega)] <;> rfl) dX1_grade_49 ?_
  refine lv_iconst (v := -1) hx hb dX1_grade_50 (by decide) ?_
  refine lv_icmp_eq (tgt := 60) hx hb dX1_grade_51 (by decide) (fun q => absurd q hG) (fun _ => ?_)
  refine lv_aload_n hx hb dX1_grade_54 rfl (lv_at hl 0 rfl) ?_
  refine lv_iconst (v := 3) hx hb dX1_grade_55 (by decide) ?_
  refine m0wi (As := [.int 3]) (rest := []) (τ' := mThr (0, mn τ, mk τ, mf τ, mo τ, mh τ, md τ, mr τ, mu τ, mv τ, ms τ, mp τ, mw τ) 3) S (m_no l E a (0, mn τ, mk τ, mf τ, mo τ, mh τ, md τ, mr τ, mu τ, mv τ, ms τ, mp τ, mw τ) _ 3) (cwV 1 hts gX1_grade_X1_no rfl rfl rfl hdX1_no ⟨Nat.le_of_ble_eq_true rfl, Nat.le_of_ble_eq_true rfl⟩) hK hP hD hS hA rfl hl.1 rfl (Nat.le_of_ble_eq_true rfl) ⟨Nat.zero_le _, Nat.zero_le _⟩ dX1_grade_56 (fun H locs hP hD hS => ?_)
  exact W.iret hx hb hr (fun t ht hW => ⟨⟨_, (), rfl, rfl, by show gP E _ t.heap; rw [ht]; exact hP⟩, hS.F ht⟩) hS.2.2 dX1_grade_59
theorem hinX1_weigh : ∀ w ∈ wsX10, w ∈ wsX1_weigh := fun w h => List.mem_cons_of_mem _ (List.mem_append_right _ h)
theorem hdX1_weigh : yX1_weigh.cls = RX1 ∧ yX1_weigh.cls ≠ "java/lang/invoke/MethodHandle" ∧ yX1_weigh.cls ≠ "java/lang/invoke/VarHandle" ∧ (parseMethodDescriptor yX1_weigh.desc).map (fun d => d.parameters.length) = some 2 := by decide +kernel
set_option maxHeartbeats 4000000 in
set_option maxRecDepth 100000 in
theorem m_weigh (l : Launch) (E : GE) (a : Nat → Nat) (τ : MS) (sz : Nat) (hn : mn τ ≤ 40) (k : Nat) (hk : k < mn τ) (hp : mIsP τ (nI k) = true) (hE : mf τ k = true) (w : Int32) (hw : iIn w 1 (nI 9) = true) : Met l yX1_weigh wsX1_weigh { frames := 3, cells := 0, slots := 0, locals := 64 } (va_Pc [.ref (a 0), .int (nI k), .int w] (gBw E sz (mW E a τ))) (gQi E (md τ k) (mW E a τ) (mW E a (mMd τ k w)) sz) 0 0 (va_A (mW E a τ) sz) := by
  refine w_met (cc := cX1_weigh) (maxL := 4) (ret := (some .int)) (by decide) rfl (Nat.le_of_ble_eq_true rfl) ?_
  intro p e s m below meth c ls S hr hlocks hname hB hl
  obtain ⟨hsz, hP, hK, hD0⟩ := hB
  subst hsz
  have hD := hD0.self (sz := s.heap.size)
  have hA : ∀ q : Nat, s.heap.size ≤ q → va_A (mW E a τ) s.heap.size q := fun q h => Or.inr h
  have hS : va_S (va_A (mW E a τ) s.heap.size) s.heap s.heap [] := va_S.rf
  obtain ⟨hx, hb, hml, hown, hts⟩ := id S
  have hts0 := hinX1_weigh
  have hl : lv_has ls 4 [(0, .ref (a 0)), (1, .int (nI k)), (2, .int w)] := hl
  refine lv_aload_n hx hb dX1_weigh_0 rfl (lv_at hl 0 rfl) ?_
  refine lv_iconst (v := 0) hx hb dX1_weigh_1 (by decide) ?_
  refine va_put (D := E.1) (ci := 1) (v := .int 0) (ty := .int) (C := RX1) (T := TX1) (N := 13) hx hb hts hts0 tyX1 tyX1_ok nmX1 hown hK hP hD hS 0 rfl rfl 0 (by decide) (hts (.fieldLink RX1 42 "ExamGardenModel" "thrown" "I") (by decide +kernel)) (fun _ h9 => h9) rfl (by decide +kernel) rfl rfl (Nat.le_of_ble_eq_true rfl) dX1_weigh_2 (fun H locs hP hD hS => ?_)
  have hP : gP E (mW E a (0, mn τ, mk τ, mf τ, mo τ, mh τ, md τ, mr τ, mu τ, mv τ, ms τ, mp τ, mw τ)) H := hP
  have hD : va_D (va_A (mW E a τ) s.heap.size) (mW E a (0, mn τ, mk τ, mf τ, mo τ, mh τ, md τ, mr τ, mu τ, mv τ, ms τ, mp τ, mw τ)) := hD
  refine lv_aload_n hx hb dX1_weigh_5 rfl (lv_at hl 0 rfl) ?_
  refine lv_iload_n hx hb dX1_weigh_6 rfl (lv_at hl 1 rfl) ?_
  refine m0i (As := [.int (nI k)]) (rest := []) S (m_isForkAt l E a (0, mn τ, mk τ, mf τ, mo τ, mh τ, md τ, mr τ, mu τ, mv τ, ms τ, mp τ, mw τ) k (by omega) hp) (cwV 1 hts gX1_weigh_X1_isForkAt rfl rfl rfl hdX1_isForkAt ⟨Nat.le_of_ble_eq_true rfl, Nat.le_of_ble_eq_true rfl⟩) hK hP rfl hl.1 rfl (Nat.le_of_ble_eq_true rfl) ⟨Nat.zero_le _, Nat.zero_le _⟩ dX1_weigh_7 ?_
  refine lv_if_ne (tgt := 19) hx hb dX1_weigh_10 (by decide) (fun _ => ?_) (fun q => absurd q ((b2i_ne0.mpr hE)))
  refine lv_iload_n hx hb dX1_weigh_19 rfl (lv_at hl 2 rfl) ?_
  refine lv_iconst (v := 1) hx hb dX1_weigh_20 (by decide) ?_
  refine lv_bipush (v := nI 9) hx hb dX1_weigh_21 (by decide) ?_
  refine g_si (As := [.int w, .int 1, .int (nI 9)]) (rest := []) S (m_isIn l E w 1 (nI 9)) (va_cwS 3 hts gX1_weigh_X1_isIn rfl rfl rfl hdX1_isIn.2 ⟨Nat.le_of_ble_eq_true rfl, Nat.le_of_ble_eq_true rfl⟩) hK (fun _ _ h => nomatch h) rfl hl.1 rfl (Nat.le_of_ble_eq_true rfl) ⟨Nat.zero_le _, Nat.zero_le _⟩ dX1_weigh_23 ?_
  refine lv_if_ne (tgt := 35) hx hb dX1_weigh_26 (by decide) (fun _ => ?_) (fun q => absurd q ((b2i_ne0.mpr hw)))
  refine lv_aload_n hx hb dX1_weigh_35 rfl (lv_at hl 0 rfl) ?_
  refine m_get (τ := (0, mn τ, mk τ, mf τ, mo τ, mh τ, md τ, mr τ, mu τ, mv τ, ms τ, mp τ, mw τ)) hx hb hts hts0 hown hK hP 6 (by decide) (by decide +kernel) rfl rfl dX1_weigh_36 ?_
  refine lv_iload_n hx hb dX1_weigh_39 rfl (lv_at hl 1 rfl) ?_
  refine g_ild hx hb hK hP 4 rfl (v := (md τ) k) (vp_in_nI (by omega) (by decide)) (by rw [nI_clamp (by omega)] <;> rfl) dX1_weigh_40 ?_
  refine lv_istore_n (lv' := [(3, .int ((md τ) k)), (0, .ref (a 0)), (1, .int (nI k)), (2, .int w)]) hx hb dX1_weigh_41 rfl hl (by decide) rfl (fun ls hl => ?_)
  refine lv_aload_n hx hb dX1_weigh_42 rfl (lv_at hl 1 rfl) ?_
  refine m_get (τ := (0, mn τ, mk τ, mf τ, mo τ, mh τ, md τ, mr τ, mu τ, mv τ, ms τ, mp τ, mw τ)) hx hb hts hts0 hown hK hP 6 (by decide) (by decide +kernel) rfl rfl dX1_weigh_43 ?_
  refine lv_iload_n hx hb dX1_weigh_46 rfl (lv_at hl 2 rfl) ?_
  refine lv_iload_n hx hb dX1_weigh_47 rfl (lv_at hl 3 rfl) ?_
  refine g_ist hx hb hK hP hD hS 4 rfl (f' := (upd ((md τ)) k w)) (vp_in_nI (by omega) (by decide)) (g_clu (k := k) (by omega) rfl) dX1_weigh_48 (fun H locs hP hD hS => ?_)
  have hP : gP E (mW E a (0, mn τ, mk τ, mf τ, mo τ, mh τ, upd ((md τ)) k w, mr τ, mu τ, mv τ, ms τ, mp τ, mw τ)) H := hP
  have hD : va_D (va_A (mW E a τ) s.heap.size) (mW E a (0, mn τ, mk τ, mf τ, mo τ, mh τ, upd ((md τ)) k w, mr τ, mu τ, mv τ, ms τ, mp τ, mw τ)) := hD
  refine lv_iload_n hx hb dX1_weigh_49 rfl (lv_at hl 0 rfl) ?_
  exact W.iret hx hb hr (fun t ht hW => ⟨⟨_, (), rfl, rfl, by show gP E _ t.heap; rw [ht]; exact hP⟩, hS.F ht⟩) hS.2.2 dX1_weigh_50
set_option maxHeartbeats 4000000 in
set_option maxRecDepth 100000 in
theorem m_weigh_1 (l : Launch) (E : GE) (a : Nat → Nat) (τ : MS) (sz : Nat) (pp : Int32) (hp : mIsP τ pp = false) (w : Int32) : Met l yX1_weigh wsX1_weigh { frames := 3, cells := 0, slots := 0, locals := 64 } (va_Pc [.ref (a 0), .int pp, .int w] (gBw E sz (mW E a τ))) (gQi E (0) (mW E a τ) (mW E a (mThr τ 1)) sz) 0 0 (va_A (mW E a τ) sz) := by
  refine w_met (cc := cX1_weigh) (maxL := 4) (ret := (some .int)) (by decide) rfl (Nat.le_of_ble_eq_true rfl) ?_
  intro p e s m below meth c ls S hr hlocks hname hB hl
  obtain ⟨hsz, hP, hK, hD0⟩ := hB
  subst hsz
  have hD := hD0.self (sz := s.heap.size)
  have hA : ∀ q : Nat, s.heap.size ≤ q → va_A (mW E a τ) s.heap.size q := fun q h => Or.inr h
  have hS : va_S (va_A (mW E a τ) s.heap.size) s.heap s.heap [] := va_S.rf
  obtain ⟨hx, hb, hml, hown, hts⟩ := id S
  have hts0 := hinX1_weigh
  have hl : lv_has ls 4 [(0, .ref (a 0)), (1, .int pp), (2, .int w)] := hl
  refine lv_aload_n hx hb dX1_weigh_0 rfl (lv_at hl 0 rfl) ?_
  refine lv_iconst (v := 0) hx hb dX1_weigh_1 (by decide) ?_
  refine va_put (D := E.1) (ci := 1) (v := .int 0) (ty := .int) (C := RX1) (T := TX1) (N := 13) hx hb hts hts0 tyX1 tyX1_ok nmX1 hown hK hP hD hS 0 rfl rfl 0 (by decide) (hts (.fieldLink RX1 42 "ExamGardenModel" "thrown" "I") (by decide +kernel)) (fun _ h9 => h9) rfl (by decide +kernel) rfl rfl (Nat.le_of_ble_eq_true rfl) dX1_weigh_2 (fun H locs hP hD hS => ?_)
  have hP : gP E (mW E a (0, mn τ, mk τ, mf τ, mo τ, mh τ, md τ, mr τ, mu τ, mv τ, ms τ, mp τ, mw τ)) H := hP
  have hD : va_D (va_A (mW E a τ) s.heap.size) (mW E a (0, mn τ, mk τ, mf τ, mo τ, mh τ, md τ, mr τ, mu τ, mv τ, ms τ, mp τ, mw τ)) := hD
  refine lv_aload_n hx hb dX1_weigh_5 rfl (lv_at hl 0 rfl) ?_
  refine lv_iload_n hx hb dX1_weigh_6 rfl (lv_at hl 1 rfl) ?_
  refine m0i (As := [.int pp]) (rest := []) S (m_isForkAt_b l E a (0, mn τ, mk τ, mf τ, mo τ, mh τ, md τ, mr τ, mu τ, mv τ, ms τ, mp τ, mw τ) pp hp) (cwV 1 hts gX1_weigh_X1_isForkAt rfl rfl rfl hdX1_isForkAt ⟨Nat.le_of_ble_eq_true rfl, Nat.le_of_ble_eq_true rfl⟩) hK hP rfl hl.1 rfl (Nat.le_of_ble_eq_true rfl) ⟨Nat.zero_le _, Nat.zero_le _⟩ dX1_weigh_7 ?_
  refine lv_if_ne (tgt := 19) hx hb dX1_weigh_10 (by decide) (fun q => absurd ((rfl : b2i false = 0)) q) (fun _ => ?_)
  refine lv_aload_n hx hb dX1_weigh_13 rfl (lv_at hl 0 rfl) ?_
  refine lv_iconst (v := 1) hx hb dX1_weigh_14 (by decide) ?_
  refine m0wi (As := [.int 1]) (rest := []) (τ' := mThr (0, mn τ, mk τ, mf τ, mo τ, mh τ, md τ, mr τ, mu τ, mv τ, ms τ, mp τ, mw τ) 1) S (m_no l E a (0, mn τ, mk τ, mf τ, mo τ, mh τ, md τ, mr τ, mu τ, mv τ, ms τ, mp τ, mw τ) _ 1) (cwV 1 hts gX1_weigh_X1_no rfl rfl rfl hdX1_no ⟨Nat.le_of_ble_eq_true rfl, Nat.le_of_ble_eq_true rfl⟩) hK hP hD hS hA rfl hl.1 rfl (Nat.le_of_ble_eq_true rfl) ⟨Nat.zero_le _, Nat.zero_le _⟩ dX1_weigh_15 (fun H locs hP hD hS => ?_)
  exact W.iret hx hb hr (fun t ht hW => ⟨⟨_, (), rfl, rfl, by show gP E _ t.heap; rw [ht]; exact hP⟩, hS.F ht⟩) hS.2.2 dX1_weigh_18
set_option maxHeartbeats 4000000 in
set_option maxRecDepth 100000 in
theorem m_weigh_1f (l : Launch) (E : GE) (a : Nat → Nat) (τ : MS) (sz : Nat) (hn : mn τ ≤ 40) (k : Nat) (hk : k < mn τ) (hp : mIsP τ (nI k) = true) (hE : mf τ k = false) (w : Int32) : Met l yX1_weigh wsX1_weigh { frames := 3, cells := 0, slots := 0, locals := 64 } (va_Pc [.ref (a 0), .int (nI k), .int w] (gBw E sz (mW E a τ))) (gQi E (0) (mW E a τ) (mW E a (mThr τ 1)) sz) 0 0 (va_A (mW E a τ) sz) := by
  refine w_met (cc := cX1_weigh) (maxL := 4) (ret := (some .int)) (by decide) rfl (Nat.le_of_ble_eq_true rfl) ?_
  intro p e s m below meth c ls S hr hlocks hname hB hl
  obtain ⟨hsz, hP, hK, hD0⟩ := hB
  subst hsz
  have hD := hD0.self (sz := s.heap.size)
  have hA : ∀ q : Nat, s.heap.size ≤ q → va_A (mW E a τ) s.heap.size q := fun q h => Or.inr h
  have hS : va_S (va_A (mW E a τ) s.heap.size) s.heap s.heap [] := va_S.rf
  obtain ⟨hx, hb, hml, hown, hts⟩ := id S
  have hts0 := hinX1_weigh
  have hl : lv_has ls 4 [(0, .ref (a 0)), (1, .int (nI k)), (2, .int w)] := hl
  refine lv_aload_n hx hb dX1_weigh_0 rfl (lv_at hl 0 rfl) ?_
  refine lv_iconst (v := 0) hx hb dX1_weigh_1 (by decide) ?_
  refine va_put (D := E.1) (ci := 1) (v := .int 0) (ty := .int) (C := RX1) (T := TX1) (N := 13) hx hb hts hts0 tyX1 tyX1_ok nmX1 hown hK hP hD hS 0 rfl rfl 0 (by decide) (hts (.fieldLink RX1 42 "ExamGardenModel" "thrown" "I") (by decide +kernel)) (fun _ h9 => h9) rfl (by decide +kernel) rfl rfl (Nat.le_of_ble_eq_true rfl) dX1_weigh_2 (fun H locs hP hD hS => ?_)
  have hP : gP E (mW E a (0, mn τ, mk τ, mf τ, mo τ, mh τ, md τ, mr τ, mu τ, mv τ, ms τ, mp τ, mw τ)) H := hP
  have hD : va_D (va_A (mW E a τ) s.heap.size) (mW E a (0, mn τ, mk τ, mf τ, mo τ, mh τ, md τ, mr τ, mu τ, mv τ, ms τ, mp τ, mw τ)) := hD
  refine lv_aload_n hx hb dX1_weigh_5 rfl (lv_at hl 0 rfl) ?_
  refine lv_iload_n hx hb dX1_weigh_6 rfl (lv_at hl 1 rfl) ?_
  refine m0i (As := [.int (nI k)]) (rest := []) S (m_isForkAt l E a (0, mn τ, mk τ, mf τ, mo τ, mh τ, md τ, mr τ, mu τ, mv τ, ms τ, mp τ, mw τ) k (by omega) hp) (cwV 1 hts gX1_weigh_X1_isForkAt rfl rfl rfl hdX1_isForkAt ⟨Nat.le_of_ble_eq_true rfl, Nat.le_of_ble_eq_true rfl⟩) hK hP rfl hl.1 rfl (Nat.le_of_ble_eq_true rfl) ⟨Nat.zero_le _, Nat.zero_le _⟩ dX1_weigh_7 ?_
  refine lv_if_ne (tgt := 19) hx hb dX1_weigh_10 (by decide) (fun q => absurd ((b2i_eq0.mpr hE)) q) (fun _ => ?_)
  refine lv_aload_n hx hb dX1_weigh_13 rfl (lv_at hl 0 rfl) ?_
  refine lv_iconst (v := 1) hx hb dX1_weigh_14 (by decide) ?_
  refine m0wi (As := [.int 1]) (rest := []) (τ' := mThr (0, mn τ, mk τ, mf τ, mo τ, mh τ, md τ, mr τ, mu τ, mv τ, ms τ, mp τ, mw τ) 1) S (m_no l E a (0, mn τ, mk τ, mf τ, mo τ, mh τ, md τ, mr τ, mu τ, mv τ, ms τ, mp τ, mw τ) _ 1) (cwV 1 hts gX1_weigh_X1_no rfl rfl rfl hdX1_no ⟨Nat.le_of_ble_eq_true rfl, Nat.le_of_ble_eq_true rfl⟩) hK hP hD hS hA rfl hl.1 rfl (Nat.le_of_ble_eq_true rfl) ⟨Nat.zero_le _, Nat.zero_le _⟩ dX1_weigh_15 (fun H locs hP hD hS => ?_)
  exact W.iret hx hb hr (fun t ht hW => ⟨⟨_, (), rfl, rfl, by show gP E _ t.heap; rw [ht]; exact hP⟩, hS.F ht⟩) hS.2.2 dX1_weigh_18
set_option maxHeartbeats 4000000 in
set_option maxRecDepth 100000 in
theorem m_weigh_2 (l : Launch) (E : GE) (a : Nat → Nat) (τ : MS) (sz : Nat) (hn : mn τ ≤ 40) (k : Nat) (hk : k < mn τ) (hp : mIsP τ (nI k) = true) (hE : mf τ k = true) (w : Int32) (hw : iIn w 1 (nI 9) = false) : Met l yX1_weigh wsX1_weigh { frames := 3, cells := 0, slots := 0, locals := 64 } (va_Pc [.ref (a 0), .int (nI k), .int w] (gBw E sz (mW E a τ))) (gQi E (0) (mW E a τ) (mW E a (mThr τ 2)) sz) 0 0 (va_A (mW E a τ) sz) := by
  refine w_met (cc := cX1_weigh) (maxL := 4) (ret := (some .int)) (by decide) rfl (Nat.le_of_ble_eq_true rfl) ?_
  intro p e s m below meth c ls S hr hlocks hname hB hl
  obtain ⟨hsz, hP, hK, hD0⟩ := hB
  subst hsz
  have hD := hD0.self (sz := s.heap.size)
  have hA : ∀ q : Nat, s.heap.size ≤ q → va_A (mW E a τ) s.heap.size q := fun q h => Or.inr h
  have hS : va_S (va_A (mW E a τ) s.heap.size) s.heap s.heap [] := va_S.rf
  obtain ⟨hx, hb, hml, hown, hts⟩ := id S
  have hts0 := hinX1_weigh
  have hl : lv_has ls 4 [(0, .ref (a 0)), (1, .int (nI k)), (2, .int w)] := hl
  refine lv_aload_n hx hb dX1_weigh_0 rfl (lv_at hl 0 rfl) ?_
  refine lv_iconst (v := 0) hx hb dX1_weigh_1 (by decide) ?_
  refine va_put (D := E.1) (ci := 1) (v := .int 0) (ty := .int) (C := RX1) (T := TX1) (N := 13) hx hb hts hts0 tyX1 tyX1_ok nmX1 hown hK hP hD hS 0 rfl rfl 0 (by decide) (hts (.fieldLink RX1 42 "ExamGardenModel" "thrown" "I") (by decide +kernel)) (fun _ h9 => h9) rfl (by decide +kernel) rfl rfl (Nat.le_of_ble_eq_true rfl) dX1_weigh_2 (fun H locs hP hD hS => ?_)
  have hP : gP E (mW E a (0, mn τ, mk τ, mf τ, mo τ, mh τ, md τ, mr τ, mu τ, mv τ, ms τ, mp τ, mw τ)) H := hP
  have hD : va_D (va_A (mW E a τ) s.heap.size) (mW E a (0, mn τ, mk τ, mf τ, mo τ, mh τ, md τ, mr τ, mu τ, mv τ, ms τ, mp τ, mw τ)) := hD
  refine lv_aload_n hx hb dX1_weigh_5 rfl (lv_at hl 0 rfl) ?_
  refine lv_iload_n hx hb dX1_weigh_6 rfl (lv_at hl 1 rfl) ?_
  refine m0i (As := [.int (nI k)]) (rest := []) S (m_isForkAt l E a (0, mn τ, mk τ, mf τ, mo τ, mh τ, md τ, mr τ, mu τ, mv τ, ms τ, mp τ, mw τ) k (by omega) hp) (cwV 1 hts gX1_weigh_X1_isForkAt rfl rfl rfl hdX1_isForkAt ⟨Nat.le_of_ble_eq_true rfl, Nat.le_of_ble_eq_true rfl⟩) hK hP rfl hl.1 rfl (Nat.le_of_ble_eq_true rfl) ⟨Nat.zero_le _, Nat.zero_le _⟩ dX1_weigh_7 ?_
  refine lv_if_ne (tgt := 19) hx hb dX1_weigh_10 (by decide) (fun _ => ?_) (fun q => absurd q ((b2i_ne0.mpr hE)))
  refine lv_iload_n hx hb dX1_weigh_19 rfl (lv_at hl 2 rfl) ?_
  refine lv_iconst (v := 1) hx hb dX1_weigh_20 (by decide) ?_
  refine lv_bipush (v := nI 9) hx hb dX1_weigh_21 (by decide) ?_
  refine g_si (As := [.int w, .int 1, .int (nI 9)]) (rest := []) S (m_isIn l E w 1 (nI 9)) (va_cwS 3 hts gX1_weigh_X1_isIn rfl rfl rfl hdX1_isIn.2 ⟨Nat.le_of_ble_eq_true rfl, Nat.le_of_ble_eq_true rfl⟩) hK (fun _ _ h => nomatch h) rfl hl.1 rfl (Nat.le_of_ble_eq_true rfl) ⟨Nat.zero_le _, Nat.zero_le _⟩ dX1_weigh_23 ?_
  refine lv_if_ne (tgt := 35) hx hb dX1_weigh_26 (by decide) (fun q => absurd ((b2i_eq0.mpr hw)) q) (fun _ => ?_)
  refine lv_aload_n hx hb dX1_weigh_29 rfl (lv_at hl 0 rfl) ?_
  refine lv_iconst (v := 2) hx hb dX1_weigh_30 (by decide) ?_
  refine m0wi (As := [.int 2]) (rest := []) (τ' := mThr (0, mn τ, mk τ, mf τ, mo τ, mh τ, md τ, mr τ, mu τ, mv τ, ms τ, mp τ, mw τ) 2) S (m_no l E a (0, mn τ, mk τ, mf τ, mo τ, mh τ, md τ, mr τ, mu τ, mv τ, ms τ, mp τ, mw τ) _ 2) (cwV 1 hts gX1_weigh_X1_no rfl rfl rfl hdX1_no ⟨Nat.le_of_ble_eq_true rfl, Nat.le_of_ble_eq_true rfl⟩) hK hP hD hS hA rfl hl.1 rfl (Nat.le_of_ble_eq_true rfl) ⟨Nat.zero_le _, Nat.zero_le _⟩ dX1_weigh_31 (fun H locs hP hD hS => ?_)
  exact W.iret hx hb hr (fun t ht hW => ⟨⟨_, (), rfl, rfl, by show gP E _ t.heap; rw [ht]; exact hP⟩, hS.F ht⟩) hS.2.2 dX1_weigh_34
theorem hinX1_enroll : ∀ w ∈ wsX10, w ∈ wsX1_enroll := fun w h => List.mem_cons_of_mem _ (List.mem_append_right _ h)
theorem hdX1_enroll : yX1_enroll.cls = RX1 ∧ yX1_enroll.cls ≠ "java/lang/invoke/MethodHandle" ∧ yX1_enroll.cls ≠ "java/lang/invoke/VarHandle" ∧ (parseMethodDescriptor yX1_enroll.desc).map (fun d => d.parameters.length) = some 1 := by decide +kernel
set_option maxHeartbeats 4000000 in
set_option maxRecDepth 100000 in
theorem m_enroll (l : Launch) (E : GE) (a : Nat → Nat) (τ : MS) (sz : Nat) (hn : mn τ ≤ 40) (k : Nat) (hk : k < mn τ) (hp : mIsP τ (nI k) = true) (h8 : mk τ < 8) : Met l yX1_enroll wsX1_enroll { frames := 2, cells := 0, slots := 0, locals := 43 } (va_Pc [.ref (a 0), .int (nI k)] (gBw E sz (mW E a τ))) (gQi E (nI (mk τ)) (mW E a τ) (mW E a (mEnr τ k)) sz) 0 0 (va_A (mW E a τ) sz) := by
  refine w_met (cc := cX1_enroll) (maxL := 2) (ret := (some .int)) (by decide) rfl (Nat.le_of_ble_eq_true rfl) ?_
  intro p e s m below meth c ls S hr hlocks hname hB hl
  obtain ⟨hsz, hP, hK, hD0⟩ := hB
  subst hsz
  have hD := hD0.self (sz := s.heap.size)
  have hA : ∀ q : Nat, s.heap.size ≤ q → va_A (mW E a τ) s.heap.size q := fun q h => Or.inr h
  have hS : va_S (va_A (mW E a τ) s.heap.size) s.heap s.heap [] := va_S.rf
  obtain ⟨hx, hb, hml, hown, hts⟩ := id S
  have hts0 := hinX1_enroll
  have hl : lv_has ls 2 [(0, .ref (a 0)), (1, .int (nI k))] := hl
  refine lv_aload_n hx hb dX1_enroll_0 rfl (lv_at hl 0 rfl) ?_
  refine lv_iconst (v := 0) hx hb dX1_enroll_1 (by decide) ?_
  refine va_put (D := E.1) (ci := 1) (v := .int 0) (ty := .int) (C := RX1) (T := TX1) (N := 13) hx hb hts hts0 tyX1 tyX1_ok nmX1 hown hK hP hD hS 0 rfl rfl 0 (by decide) (hts (.fieldLink RX1 42 "ExamGardenModel" "thrown" "I") (by decide +kernel)) (fun _ h9 => h9) rfl (by decide +kernel) rfl rfl (Nat.le_of_ble_eq_true rfl) dX1_enroll_2 (fun H locs hP hD hS => ?_)
  have hP : gP E (mW E a (0, mn τ, mk τ, mf τ, mo τ, mh τ, md τ, mr τ, mu τ, mv τ, ms τ, mp τ, mw τ)) H := hP
  have hD : va_D (va_A (mW E a τ) s.heap.size) (mW E a (0, mn τ, mk τ, mf τ, mo τ, mh τ, md τ, mr τ, mu τ, mv τ, ms τ, mp τ, mw τ)) := hD
  refine lv_aload_n hx hb dX1_enroll_5 rfl (lv_at hl 0 rfl) ?_
  refine lv_iload_n hx hb dX1_enroll_6 rfl (lv_at hl 1 rfl) ?_
  refine m0i (As := [.int (nI k)]) (rest := []) S (m_isPlace l E a (0, mn τ, mk τ, mf τ, mo τ, mh τ, md τ, mr τ, mu τ, mv τ, ms τ, mp τ, mw τ) (nI k)) (cwV 1 hts gX1_enroll_X1_isPlace rfl rfl rfl hdX1_isPlace ⟨Nat.le_of_ble_eq_true rfl, Nat.le_of_ble_eq_true rfl⟩) hK hP rfl hl.1 rfl (Nat.le_of_ble_eq_true rfl) ⟨Nat.zero_le _, Nat.zero_le _⟩ dX1_enroll_7 ?_
  refine lv_if_ne (tgt := 19) hx hb dX1_enroll_10 (by decide) (fun _ => ?_) (fun q => absurd q ((b2i_ne0.mpr hp)))
  refine lv_aload_n hx hb dX1_enroll_19 rfl (lv_at hl 0 rfl) ?_
  refine m_get (τ := (0, mn τ, mk τ, mf τ, mo τ, mh τ, md τ, mr τ, mu τ, mv τ, ms τ, mp τ, mw τ)) hx hb hts hts0 hown hK hP 2 (by decide) (by decide +kernel) rfl rfl dX1_enroll_20 ?_
  refine lv_bipush (v := nI 8) hx hb dX1_enroll_23 (by decide) ?_
  refine lv_icmp_ne (tgt := 34) hx hb dX1_enroll_25 (by decide) (fun _ => ?_) (fun q => absurd q ((nI_neq (a := mk τ) (b := 8) (by omega) (by omega) (by decide))))
  refine lv_aload_n hx hb dX1_enroll_34 rfl (lv_at hl 0 rfl) ?_
  refine m_get (τ := (0, mn τ, mk τ, mf τ, mo τ, mh τ, md τ, mr τ, mu τ, mv τ, ms τ, mp τ, mw τ)) hx hb hts hts0 hown hK hP 10 (by decide) (by decide +kernel) rfl rfl dX1_enroll_35 ?_
  refine lv_aload_n hx hb dX1_enroll_38 rfl (lv_at hl 0 rfl) ?_
  refine m_get (τ := (0, mn τ, mk τ, mf τ, mo τ, mh τ, md τ, mr τ, mu τ, mv τ, ms τ, mp τ, mw τ)) hx hb hts hts0 hown hK hP 2 (by decide) (by decide +kernel) rfl rfl dX1_enroll_39 ?_
  refine lv_iload_n hx hb dX1_enroll_42 rfl (lv_at hl 1 rfl) ?_
  refine g_ist hx hb hK hP hD hS 8 rfl (f' := (fun z9 => nI (va_up ((ms τ)) (mk τ) k z9))) (vp_in_nI (by omega) (by decide)) (g_clu (k := mk τ) (by omega) (n_upd _ _ _)) dX1_enroll_43 (fun H locs hP hD hS => ?_)
  have hP : gP E (mW E a (0, mn τ, mk τ, mf τ, mo τ, mh τ, md τ, mr τ, mu τ, mv τ, va_up ((ms τ)) (mk τ) k, mp τ, mw τ)) H := hP
  have hD : va_D (va_A (mW E a τ) s.heap.size) (mW E a (0, mn τ, mk τ, mf τ, mo τ, mh τ, md τ, mr τ, mu τ, mv τ, va_up ((ms τ)) (mk τ) k, mp τ, mw τ)) := hD
  refine lv_aload_n hx hb dX1_enroll_44 rfl (lv_at hl 0 rfl) ?_
  refine lv_dup hx hb dX1_enroll_45 rfl ?_
  refine m_get (τ := (0, mn τ, mk τ, mf τ, mo τ, mh τ, md τ, mr τ, mu τ, mv τ, va_up ((ms τ)) (mk τ) k, mp τ, mw τ)) hx hb hts hts0 hown hK hP 2 (by decide) (by decide +kernel) rfl rfl dX1_enroll_46 ?_
  refine lv_iconst (v := 1) hx hb dX1_enroll_49 (by decide) ?_
  refine lv_iadd hx hb dX1_enroll_50 ?_
  rw [nI_1 (mk τ)]
  refine va_put (D := E.1) (ci := 1) (v := .int (nI ((mk τ) + 1))) (ty := .int) (C := RX1) (T := TX1) (N := 13) hx hb hts hts0 tyX1 tyX1_ok nmX1 hown hK hP hD hS 0 rfl rfl 2 (by decide) (hts (.fieldLink RX1 57 "ExamGardenModel" "students" "I") (by decide +kernel)) (fun _ h9 => h9) rfl (by decide +kernel) rfl rfl (Nat.le_of_ble_eq_true rfl) dX1_enroll_51 (fun H locs hP hD hS => ?_)
  have hP : gP E (mW E a (0, mn τ, (mk τ) + 1, mf τ, mo τ, mh τ, md τ, mr τ, mu τ, mv τ, va_up ((ms τ)) (mk τ) k, mp τ, mw τ)) H := hP
  have hD : va_D (va_A (mW E a τ) s.heap.size) (mW E a (0, mn τ, (mk τ) + 1, mf τ, mo τ, mh τ, md τ, mr τ, mu τ, mv τ, va_up ((ms τ)) (mk τ) k, mp τ, mw τ)) := hD
  refine lv_aload_n hx hb dX1_enroll_54 rfl (lv_at hl 0 rfl) ?_
  refine m_get (τ := (0, mn τ, (mk τ) + 1, mf τ, mo τ, mh τ, md τ, mr τ, mu τ, mv τ, va_up ((ms τ)) (mk τ) k, mp τ, mw τ)) hx hb hts hts0 hown hK hP 2 (by decide) (by decide +kernel) rfl rfl dX1_enroll_55 ?_
  refine lv_iconst (v := 1) hx hb dX1_enroll_58 (by decide) ?_
  refine lv_isub hx hb dX1_enroll_59 ?_
  rw [show (nI (mk τ + 1) - 1 : Int32) = nI (mk τ) from nI_pred _]
  exact W.iret hx hb hr (fun t ht hW => ⟨⟨_, (), rfl, rfl, by show gP E _ t.heap; rw [ht]; exact hP⟩, hS.F ht⟩) hS.2.2 dX1_enroll_60
set_option maxHeartbeats 4000000 in
set_option maxRecDepth 100000 in
theorem m_enroll_1 (l : Launch) (E : GE) (a : Nat → Nat) (τ : MS) (sz : Nat) (pp : Int32) (hp : mIsP τ pp = false) : Met l yX1_enroll wsX1_enroll { frames := 2, cells := 0, slots := 0, locals := 43 } (va_Pc [.ref (a 0), .int pp] (gBw E sz (mW E a τ))) (gQi E (0) (mW E a τ) (mW E a (mThr τ 1)) sz) 0 0 (va_A (mW E a τ) sz) := by
  refine w_met (cc := cX1_enroll) (maxL := 2) (ret := (some .int)) (by decide) rfl (Nat.le_of_ble_eq_true rfl) ?_
  intro p e s m below meth c ls S hr hlocks hname hB hl
  obtain ⟨hsz, hP, hK, hD0⟩ := hB
  subst hsz
  have hD := hD0.self (sz := s.heap.size)
  have hA : ∀ q : Nat, s.heap.size ≤ q → va_A (mW E a τ) s.heap.size q := fun q h => Or.inr h
  have hS : va_S (va_A (mW E a τ) s.heap.size) s.heap s.heap [] := va_S.rf
  obtain ⟨hx, hb, hml, hown, hts⟩ := id S
  have hts0 := hinX1_enroll
  have hl : lv_has ls 2 [(0, .ref (a 0)), (1, .int pp)] := hl
  refine lv_aload_n hx hb dX1_enroll_0 rfl (lv_at hl 0 rfl) ?_
  refine lv_iconst (v := 0) hx hb dX1_enroll_1 (by decide) ?_
  refine va_put (D := E.1) (ci := 1) (v := .int 0) (ty := .int) (C := RX1) (T := TX1) (N := 13) hx hb hts hts0 tyX1 tyX1_ok nmX1 hown hK hP hD hS 0 rfl rfl 0 (by decide) (hts (.fieldLink RX1 42 "ExamGardenModel" "thrown" "I") (by decide +kernel)) (fun _ h9 => h9) rfl (by decide +kernel) rfl rfl (Nat.le_of_ble_eq_true rfl) dX1_enroll_2 (fun H locs hP hD hS => ?_)
  have hP : gP E (mW E a (0, mn τ, mk τ, mf τ, mo τ, mh τ, md τ, mr τ, mu τ, mv τ, ms τ, mp τ, mw τ)) H := hP
  have hD : va_D (va_A (mW E a τ) s.heap.size) (mW E a (0, mn τ, mk τ, mf τ, mo τ, mh τ, md τ, mr τ, mu τ, mv τ, ms τ, mp τ, mw τ)) := hD
  refine lv_aload_n hx hb dX1_enroll_5 rfl (lv_at hl 0 rfl) ?_
  refine lv_iload_n hx hb dX1_enroll_6 rfl (lv_at hl 1 rfl) ?_
  refine m0i (As := [.int pp]) (rest := []) S (m_isPlace l E a (0, mn τ, mk τ, mf τ, mo τ, mh τ, md τ, mr τ, mu τ, mv τ, ms τ, mp τ, mw τ) pp) (cwV 1 hts gX1_enroll_X1_isPlace rfl rfl rfl hdX1_isPlace ⟨Nat.le_of_ble_eq_true rfl, Nat.le_of_ble_eq_true rfl⟩) hK hP rfl hl.1 rfl (Nat.le_of_ble_eq_true rfl) ⟨Nat.zero_le _, Nat.zero_le _⟩ dX1_enroll_7 ?_
  refine lv_if_ne (tgt := 19) hx hb dX1_enroll_10 (by decide) (fun q => absurd ((b2i_eq0.mpr hp)) q) (fun _ => ?_)
  refine lv_aload_n hx hb dX1_enroll_13 rfl (lv_at hl 0 rfl) ?_
  refine lv_iconst (v := 1) hx hb dX1_enroll_14 (by decide) ?_
  refine m0wi (As := [.int 1]) (rest := []) (τ' := mThr (0, mn τ, mk τ, mf τ, mo τ, mh τ, md τ, mr τ, mu τ, mv τ, ms τ, mp τ, mw τ) 1) S (m_no l E a (0, mn τ, mk τ, mf τ, mo τ, mh τ, md τ, mr τ, mu τ, mv τ, ms τ, mp τ, mw τ) _ 1) (cwV 1 hts gX1_enroll_X1_no rfl rfl rfl hdX1_no ⟨Nat.le_of_ble_eq_true rfl, Nat.le_of_ble_eq_true rfl⟩) hK hP hD hS hA rfl hl.1 rfl (Nat.le_of_ble_eq_true rfl) ⟨Nat.zero_le _, Nat.zero_le _⟩ dX1_enroll_15 (fun H locs hP hD hS => ?_)
  exact W.iret hx hb hr (fun t ht hW => ⟨⟨_, (), rfl, rfl, by show gP E _ t.heap; rw [ht]; exact hP⟩, hS.F ht⟩) hS.2.2 dX1_enroll_18
set_option maxHeartbeats 4000000 in
set_option maxRecDepth 100000 in
theorem m_enroll_2 (l : Launch) (E : GE) (a : Nat → Nat) (τ : MS) (sz : Nat) (hn : mn τ ≤ 40) (k : Nat) (hk : k < mn τ) (hp : mIsP τ (nI k) = true) (h8 : mk τ = 8) : Met l yX1_enroll wsX1_enroll { frames := 2, cells := 0, slots := 0, locals := 43 } (va_Pc [.ref (a 0), .int (nI k)] (gBw E sz (mW E a τ))) (gQi E (0) (mW E a τ) (mW E a (mThr τ 2)) sz) 0 0 (va_A (mW E a τ) sz) := by
  refine w_met (cc := cX1_enroll) (maxL := 2) (ret := (some .int)) (by decide) rfl (Nat.le_of_ble_eq_true rfl) ?_
  intro p e s m below meth c ls S hr hlocks hname hB hl
  obtain ⟨hsz, hP, hK, hD0⟩ := hB
  subst hsz
  have hD := hD0.self (sz := s.heap.size)
  have hA : ∀ q : Nat, s.heap.size ≤ q → va_A (mW E a τ) s.heap.size q := fun q h => Or.inr h
  have hS : va_S (va_A (mW E a τ) s.heap.size) s.heap s.heap [] := va_S.rf
  obtain ⟨hx, hb, hml, hown, hts⟩ := id S
  have hts0 := hinX1_enroll
  have hl : lv_has ls 2 [(0, .ref (a 0)), (1, .int (nI k))] := hl
  refine lv_aload_n hx hb dX1_enroll_0 rfl (lv_at hl 0 rfl) ?_
  refine lv_iconst (v := 0) hx hb dX1_enroll_1 (by decide) ?_
  refine va_put (D := E.1) (ci := 1) (v := .int 0) (ty := .int) (C := RX1) (T := TX1) (N := 13) hx hb hts hts0 tyX1 tyX1_ok nmX1 hown hK hP hD hS 0 rfl rfl 0 (by decide) (hts (.fieldLink RX1 42 "ExamGardenModel" "thrown" "I") (by decide +kernel)) (fun _ h9 => h9) rfl (by decide +kernel) rfl rfl (Nat.le_of_ble_eq_true rfl) dX1_enroll_2 (fun H locs hP hD hS => ?_)
  have hP : gP E (mW E a (0, mn τ, mk τ, mf τ, mo τ, mh τ, md τ, mr τ, mu τ, mv τ, ms τ, mp τ, mw τ)) H := hP
  have hD : va_D (va_A (mW E a τ) s.heap.size) (mW E a (0, mn τ, mk τ, mf τ, mo τ, mh τ, md τ, mr τ, mu τ, mv τ, ms τ, mp τ, mw τ)) := hD
  refine lv_aload_n hx hb dX1_enroll_5 rfl (lv_at hl 0 rfl) ?_
  refine lv_iload_n hx hb dX1_enroll_6 rfl (lv_at hl 1 rfl) ?_
  refine m0i (As := [.int (nI k)]) (rest := []) S (m_isPlace l E a (0, mn τ, mk τ, mf τ, mo τ, mh τ, md τ, mr τ, mu τ, mv τ, ms τ, mp τ, mw τ) (nI k)) (cwV 1 hts gX1_enroll_X1_isPlace rfl rfl rfl hdX1_isPlace ⟨Nat.le_of_ble_eq_true rfl, Nat.le_of_ble_eq_true rfl⟩) hK hP rfl hl.1 rfl (Nat.le_of_ble_eq_true rfl) ⟨Nat.zero_le _, Nat.zero_le _⟩ dX1_enroll_7 ?_
  refine lv_if_ne (tgt := 19) hx hb dX1_enroll_10 (by decide) (fun _ => ?_) (fun q => absurd q ((b2i_ne0.mpr hp)))
  refine lv_aload_n hx hb dX1_enroll_19 rfl (lv_at hl 0 rfl) ?_
  refine m_get (τ := (0, mn τ, mk τ, mf τ, mo τ, mh τ, md τ, mr τ, mu τ, mv τ, ms τ, mp τ, mw τ)) hx hb hts hts0 hown hK hP 2 (by decide) (by decide +kernel) rfl rfl dX1_enroll_20 ?_
  refine lv_bipush (v := nI 8) hx hb dX1_enroll_23 (by decide) ?_
  refine lv_icmp_ne (tgt := 34) hx hb dX1_enroll_25 (by decide) (fun q => absurd ((by rw [show mk τ = 8 from h8])) q) (fun _ => ?_)
  refine lv_aload_n hx hb dX1_enroll_28 rfl (lv_at hl 0 rfl) ?_
  refine lv_iconst (v := 2) hx hb dX1_enroll_29 (by decide) ?_
  refine m0wi (As := [.int 2]) (rest := []) (τ' := mThr (0, mn τ, mk τ, mf τ, mo τ, mh τ, md τ, mr τ, mu τ, mv τ, ms τ, mp τ, mw τ) 2) S (m_no l E a (0, mn τ, mk τ, mf τ, mo τ, mh τ, md τ, mr τ, mu τ, mv τ, ms τ, mp τ, mw τ) _ 2) (cwV 1 hts gX1_enroll_X1_no rfl rfl rfl hdX1_no ⟨Nat.le_of_ble_eq_true rfl, Nat.le_of_ble_eq_true rfl⟩) hK hP hD hS hA rfl hl.1 rfl (Nat.le_of_ble_eq_true rfl) ⟨Nat.zero_le _, Nat.zero_le _⟩ dX1_enroll_30 (fun H locs hP hD hS => ?_)
  exact W.iret hx hb hr (fun t ht hW => ⟨⟨_, (), rfl, rfl, by show gP E _ t.heap; rw [ht]; exact hP⟩, hS.F ht⟩) hS.2.2 dX1_enroll_33
theorem hinX1_go : ∀ w ∈ wsX10, w ∈ wsX1_go := fun w h => List.mem_cons_of_mem _ (List.mem_append_right _ h)
theorem hdX1_go : yX1_go.cls = RX1 ∧ yX1_go.cls ≠ "java/lang/invoke/MethodHandle" ∧ yX1_go.cls ≠ "java/lang/invoke/VarHandle" ∧ (parseMethodDescriptor yX1_go.desc).map (fun d => d.parameters.length) = some 2 := by decide +kernel
set_option maxHeartbeats 4000000 in
set_option maxRecDepth 100000 in
theorem m_go (l : Launch) (E : GE) (a : Nat → Nat) (τ : MS) (sz : Nat) (hs : ∀ j, ms τ j < 40) (k x : Nat) (hk : k < 8) (hc : mp τ k < 40) : Met l yX1_go wsX1_go { frames := 0, cells := 0, slots := 0, locals := 0 } (va_Pc [.ref (a 0), .int (nI k), .int (nI x)] (gBw E sz (mW E a τ))) (gQv E (mW E a τ) (mW E a (mGo τ k x)) sz) 0 0 (va_A (mW E a τ) sz) := by
  refine w_met (cc := cX1_go) (maxL := 3) (ret := none) (by decide) rfl (Nat.le_of_ble_eq_true rfl) ?_
  intro p e s m below meth c ls S hr hlocks hname hB hl
  obtain ⟨hsz, hP, hK, hD0⟩ := hB
  subst hsz
  have hD := hD0.self (sz := s.heap.size)
  have hA : ∀ q : Nat, s.heap.size ≤ q → va_A (mW E a τ) s.heap.size q := fun q h => Or.inr h
  have hS : va_S (va_A (mW E a τ) s.heap.size) s.heap s.heap [] := va_S.rf
  obtain ⟨hx, hb, hml, hown, hts⟩ := id S
  have t1 := hs k
  have hts0 := hinX1_go
  have hl : lv_has ls 3 [(0, .ref (a 0)), (1, .int (nI k)), (2, .int (nI x))] := hl
  refine lv_aload_n hx hb dX1_go_0 rfl (lv_at hl 0 rfl) ?_
  refine m_get (τ := τ) hx hb hts hts0 hown hK hP 12 (by decide) (by decide +kernel) rfl rfl dX1_go_1 ?_
  refine lv_bipush (v := nI 40) hx hb dX1_go_4 (by decide) ?_
  refine lv_iload_n hx hb dX1_go_6 rfl (lv_at hl 1 rfl) ?_
  refine lv_imul hx hb dX1_go_7 ?_
  rw [pk_mul 40 k]
  refine lv_aload_n hx hb dX1_go_8 rfl (lv_at hl 0 rfl) ?_
  refine m_get (τ := τ) hx hb hts hts0 hown hK hP 11 (by decide) (by decide +kernel) rfl rfl dX1_go_9 ?_
  refine lv_iload_n hx hb dX1_go_12 rfl (lv_at hl 1 rfl) ?_
  refine g_ild hx hb hK hP 9 rfl (v := nI ((mp τ) k)) (vp_in_nI (by omega) (by decide)) (by rw [nI_clamp (by omega)] <;> rfl) dX1_go_13 ?_
  refine lv_iadd hx hb dX1_go_14 ?_
  rw [nI_add (40 * k) ((mp τ) k)]
  refine lv_aload_n hx hb dX1_go_15 rfl (lv_at hl 0 rfl) ?_
  refine m_get (τ := τ) hx hb hts hts0 hown hK hP 10 (by decide) (by decide +kernel) rfl rfl dX1_go_16 ?_
  refine lv_iload_n hx hb dX1_go_19 rfl (lv_at hl 1 rfl) ?_
  refine g_ild hx hb hK hP 8 rfl (v := nI ((ms τ) k)) (vp_in_nI (by omega) (by decide)) (by rw [nI_clamp (by omega)] <;> rfl) dX1_go_20 ?_
  refine g_ist hx hb hK hP hD hS 10 rfl (f' := (fun z9 => nI (va_up ((mw τ)) ((40 * k) + ((mp τ) k)) ((ms τ) k) z9))) (vp_in_nI (by omega) (by decide)) (g_clu (k := (40 * k) + ((mp τ) k)) (by omega) (n_upd _ _ _)) dX1_go_21 (fun H locs hP hD hS => ?_)
  have hP : gP E (mW E a (mt τ, mn τ, mk τ, mf τ, mo τ, mh τ, md τ, mr τ, mu τ, mv τ, ms τ, mp τ, va_up ((mw τ)) ((40 * k) + ((mp τ) k)) ((ms τ) k))) H := hP
  have hD : va_D (va_A (mW E a τ) s.heap.size) (mW E a (mt τ, mn τ, mk τ, mf τ, mo τ, mh τ, md τ, mr τ, mu τ, mv τ, ms τ, mp τ, va_up ((mw τ)) ((40 * k) + ((mp τ) k)) ((ms τ) k))) := hD
  refine lv_aload_n hx hb dX1_go_22 rfl (lv_at hl 0 rfl) ?_
  refine m_get (τ := (mt τ, mn τ, mk τ, mf τ, mo τ, mh τ, md τ, mr τ, mu τ, mv τ, ms τ, mp τ, va_up ((mw τ)) ((40 * k) + ((mp τ) k)) ((ms τ) k))) hx hb hts hts0 hown hK hP 11 (by decide) (by decide +kernel) rfl rfl dX1_go_23 ?_
  refine lv_iload_n hx hb dX1_go_26 rfl (lv_at hl 1 rfl) ?_
  refine lv_dup2_11 hx hb dX1_go_27 rfl rfl ?_
  refine g_ild hx hb hK hP 9 rfl (v := nI ((mp τ) k)) (vp_in_nI (by omega) (by decide)) (by rw [nI_clamp (by omega)] <;> rfl) dX1_go_28 ?_
  refine lv_iconst (v := 1) hx hb dX1_go_29 (by decide) ?_
  refine lv_iadd hx hb dX1_go_30 ?_
  rw [nI_1 ((mp τ) k)]
  refine g_ist hx hb hK hP hD hS 9 rfl (f' := (fun z9 => nI (va_up ((mp τ)) k (((mp τ) k) + 1) z9))) (vp_in_nI (by omega) (by decide)) (g_clu (k := k) (by omega) (n_upd _ _ _)) dX1_go_31 (fun H locs hP hD hS => ?_)
  have hP : gP E (mW E a (mt τ, mn τ, mk τ, mf τ, mo τ, mh τ, md τ, mr τ, mu τ, mv τ, ms τ, va_up ((mp τ)) k (((mp τ) k) + 1), va_up ((mw τ)) ((40 * k) + ((mp τ) k)) ((ms τ) k))) H := hP
  have hD : va_D (va_A (mW E a τ) s.heap.size) (mW E a (mt τ, mn τ, mk τ, mf τ, mo τ, mh τ, md τ, mr τ, mu τ, mv τ, ms τ, va_up ((mp τ)) k (((mp τ) k) + 1), va_up ((mw τ)) ((40 * k) + ((mp τ) k)) ((ms τ) k))) := hD
  refine lv_aload_n hx hb dX1_go_32 rfl (lv_at hl 0 rfl) ?_
  refine m_get (τ := (mt τ, mn τ, mk τ, mf τ, mo τ, mh τ, md τ, mr τ, mu τ, mv τ, ms τ, va_up ((mp τ)) k (((mp τ) k) + 1), va_up ((mw τ)) ((40 * k) + ((mp τ) k)) ((ms τ) k))) hx hb hts hts0 hown hK hP 10 (by decide) (by decide +kernel) rfl rfl dX1_go_33 ?_
  refine lv_iload_n hx hb dX1_go_36 rfl (lv_at hl 1 rfl) ?_
  refine lv_iload_n hx hb dX1_go_37 rfl (lv_at hl 2 rfl) ?_
  refine g_ist hx hb hK hP hD hS 8 rfl (f' := (fun z9 => nI (va_up ((ms τ)) k x z9))) (vp_in_nI (by omega) (by decide)) (g_clu (k := k) (by omega) (n_upd _ _ _)) dX1_go_38 (fun H locs hP hD hS => ?_)
  have hP : gP E (mW E a (mt τ, mn τ, mk τ, mf τ, mo τ, mh τ, md τ, mr τ, mu τ, mv τ, va_up ((ms τ)) k x, va_up ((mp τ)) k (((mp τ) k) + 1), va_up ((mw τ)) ((40 * k) + ((mp τ) k)) ((ms τ) k))) H := hP
  have hD : va_D (va_A (mW E a τ) s.heap.size) (mW E a (mt τ, mn τ, mk τ, mf τ, mo τ, mh τ, md τ, mr τ, mu τ, mv τ, va_up ((ms τ)) k x, va_up ((mp τ)) k (((mp τ) k) + 1), va_up ((mw τ)) ((40 * k) + ((mp τ) k)) ((ms τ) k))) := hD
  exact W.vret hx hb hr (fun t ht hW => ⟨⟨(), rfl, trivial, by show gP E _ t.heap; rw [ht]; exact hP⟩, hS.F ht⟩) hS.2.2 dX1_go_39
theorem hinX1_turn : ∀ w ∈ wsX10, w ∈ wsX1_turn := fun w h => List.mem_cons_of_mem _ (List.mem_append_right _ h)
theorem hdX1_turn : yX1_turn.cls = RX1 ∧ yX1_turn.cls ≠ "java/lang/invoke/MethodHandle" ∧ yX1_turn.cls ≠ "java/lang/invoke/VarHandle" ∧ (parseMethodDescriptor yX1_turn.desc).map (fun d => d.parameters.length) = some 2 := by decide +kernel
set_option maxHeartbeats 4000000 in
set_option maxRecDepth 100000 in
theorem m_turn (l : Launch) (E : GE) (a : Nat → Nat) (τ : MS) (sz : Nat) (hO : MOK τ) (k : Nat) (hk : k < mk τ) (hp : mIsS τ (nI k) = true) (hE : mf τ (ms τ k) = true) (b : Bool) : Met l yX1_turn wsX1_turn { frames := 2, cells := 0, slots := 0, locals := 43 } (va_Pc [.ref (a 0), .int (nI k), .int (b2i b)] (gBw E sz (mW E a τ))) (gQi E (nI (mTo τ (ms τ k) b)) (mW E a τ) (mW E a (mGo (mThr τ 0) k (mTo τ (ms τ k) b))) sz) 0 0 (va_A (mW E a τ) sz) := by
  refine w_met (cc := cX1_turn) (maxL := 4) (ret := (some .int)) (by decide) rfl (Nat.le_of_ble_eq_true rfl) ?_
  intro p e s m below meth c ls S hr hlocks hname hB hl
  obtain ⟨hsz, hP, hK, hD0⟩ := hB
  subst hsz
  have hD := hD0.self (sz := s.heap.size)
  have hA : ∀ q : Nat, s.heap.size ≤ q → va_A (mW E a τ) s.heap.size q := fun q h => Or.inr h
  have hS : va_S (va_A (mW E a τ) s.heap.size) s.heap s.heap [] := va_S.rf
  obtain ⟨hx, hb, hml, hown, hts⟩ := id S
  have tk := hO.2.1
  have t1 := hO.2.2.2.2.1 k
  have t2 := hO.2.2.2.2.2.2.1 k
  have hts0 := hinX1_turn
  have hl : lv_has ls 4 [(0, .ref (a 0)), (1, .int (nI k)), (2, .int (b2i b))] := hl
  refine lv_aload_n hx hb dX1_turn_0 rfl (lv_at hl 0 rfl) ?_
  refine lv_iconst (v := 0) hx hb dX1_turn_1 (by decide) ?_
  refine va_put (D := E.1) (ci := 1) (v := .int 0) (ty := .int) (C := RX1) (T := TX1) (N := 13) hx hb hts hts0 tyX1 tyX1_ok nmX1 hown hK hP hD hS 0 rfl rfl 0 (by decide) (hts (.fieldLink RX1 42 "ExamGardenModel" "thrown" "I") (by decide +kernel)) (fun _ h9 => h9) rfl (by decide +kernel) rfl rfl (Nat.le_of_ble_eq_true rfl) dX1_turn_2 (fun H locs hP hD hS => ?_)
  have hP : gP E (mW E a (0, mn τ, mk τ, mf τ, mo τ, mh τ, md τ, mr τ, mu τ, mv τ, ms τ, mp τ, mw τ)) H := hP
  have hD : va_D (va_A (mW E a τ) s.heap.size) (mW E a (0, mn τ, mk τ, mf τ, mo τ, mh τ, md τ, mr τ, mu τ, mv τ, ms τ, mp τ, mw τ)) := hD
  refine lv_aload_n hx hb dX1_turn_5 rfl (lv_at hl 0 rfl) ?_
  refine lv_iload_n hx hb dX1_turn_6 rfl (lv_at hl 1 rfl) ?_
  refine m0i (As := [.int (nI k)]) (rest := []) S (m_isStudent l E a (0, mn τ, mk τ, mf τ, mo τ, mh τ, md τ, mr τ, mu τ, mv τ, ms τ, mp τ, mw τ) (nI k)) (cwV 1 hts gX1_turn_X1_isStudent rfl rfl rfl hdX1_isStudent ⟨Nat.le_of_ble_eq_true rfl, Nat.le_of_ble_eq_true rfl⟩) hK hP rfl hl.1 rfl (Nat.le_of_ble_eq_true rfl) ⟨Nat.zero_le _, Nat.zero_le _⟩ dX1_turn_7 ?_
  refine lv_if_ne (tgt := 19) hx hb dX1_turn_10 (by decide) (fun _ => ?_) (fun q => absurd q ((b2i_ne0.mpr hp)))
  refine lv_aload_n hx hb dX1_turn_19 rfl (lv_at hl 0 rfl) ?_
  refine m_get (τ := (0, mn τ, mk τ, mf τ, mo τ, mh τ, md τ, mr τ, mu τ, mv τ, ms τ, mp τ, mw τ)) hx hb hts hts0 hown hK hP 10 (by decide) (by decide +kernel) rfl rfl dX1_turn_20 ?_
  refine lv_iload_n hx hb dX1_turn_23 rfl (lv_at hl 1 rfl) ?_
  refine g_ild hx hb hK hP 8 rfl (v := nI ((ms τ) k)) (vp_in_nI (by omega) (by decide)) (by rw [nI_clamp (by omega)] <;> rfl) dX1_turn_24 ?_
  refine lv_istore_n (lv' := [(3, .int (nI ((ms τ) k))), (0, .ref (a 0)), (1, .int (nI k)), (2, .int (b2i b))]) hx hb dX1_turn_25 rfl hl (by decide) rfl (fun ls hl => ?_)
  refine lv_aload_n hx hb dX1_turn_26 rfl (lv_at hl 1 rfl) ?_
  refine m_get (τ := (0, mn τ, mk τ, mf τ, mo τ, mh τ, md τ, mr τ, mu τ, mv τ, ms τ, mp τ, mw τ)) hx hb hts hts0 hown hK hP 3 (by decide) (by decide +kernel) rfl rfl dX1_turn_27 ?_
  refine lv_iload_n hx hb dX1_turn_30 rfl (lv_at hl 0 rfl) ?_
  refine g_zld hx hb hK hP 1 rfl (v := b2i ((mf τ) ((ms τ) k))) (vp_in_nI (by omega) (by decide)) (by rw [nI_clamp (by omega)] <;> rfl) dX1_turn_31 ?_
  refine lv_if_ne (tgt := 41) hx hb dX1_turn_32 (by decide) (fun _ => ?_) (fun q => absurd q ((b2i_ne0.mpr hE)))
  refine lv_aload_n hx hb dX1_turn_41 rfl (lv_at hl 1 rfl) ?_
  refine lv_iload_n hx hb dX1_turn_42 rfl (lv_at hl 2 rfl) ?_
  refine lv_iload_n hx hb dX1_turn_43 rfl (lv_at hl 3 rfl) ?_
  refine lv_if_eq (tgt := 56) hx hb dX1_turn_44 (by decide) (fun c44 => ?_) (fun c44 => ?_)
  · obtain rfl : b = false := b2i_eq0.mp c44
    refine lv_aload_n hx hb dX1_turn_56 rfl (lv_at hl 1 rfl) ?_
    refine m_get (τ := (0, mn τ, mk τ, mf τ, mo τ, mh τ, md τ, mr τ, mu τ, mv τ, ms τ, mp τ, mw τ)) hx hb hts hts0 hown hK hP 4 (by decide) (by decide +kernel) rfl rfl dX1_turn_57 ?_
    refine lv_iload_n hx hb dX1_turn_60 rfl (lv_at hl 0 rfl) ?_
    refine g_ild hx hb hK hP 2 rfl (v := nI ((mo τ) ((ms τ) k))) (vp_in_nI (by omega) (by decide)) (by rw [nI_clamp (by omega)] <;> rfl) dX1_turn_61 ?_
    refine m0wv (As := [.int (nI k), .int (nI ((mo τ) ((ms τ) k)))]) (rest := []) (τ' := mGo (0, mn τ, mk τ, mf τ, mo τ, mh τ, md τ, mr τ, mu τ, mv τ, ms τ, mp τ, mw τ) k ((mo τ) ((ms τ) k))) S (m_go l E a (0, mn τ, mk τ, mf τ, mo τ, mh τ, md τ, mr τ, mu τ, mv τ, ms τ, mp τ, mw τ) _ (hO).2.2.2.2.1 k ((mo τ) ((ms τ) k)) (by omega) (by show mp τ k < 40; omega)) (cwV 2 hts gX1_turn_X1_go rfl rfl rfl hdX1_go ⟨Nat.le_of_ble_eq_true rfl, Nat.le_of_ble_eq_true rfl⟩) hK hP hD hS hA rfl hl.1 rfl (Nat.le_of_ble_eq_true rfl) ⟨Nat.zero_le _, Nat.zero_le _⟩ dX1_turn_62 (fun H locs hP hD hS => ?_)
    refine lv_aload_n hx hb dX1_turn_65 rfl (lv_at hl 1 rfl) ?_
    refine m_get (τ := (mGo (0, mn τ, mk τ, mf τ, mo τ, mh τ, md τ, mr τ, mu τ, mv τ, ms τ, mp τ, mw τ) k ((mo τ) ((ms τ) k)))) hx hb hts hts0 hown hK hP 10 (by decide) (by decide +kernel) rfl rfl dX1_turn_66 ?_
    refine lv_iload_n hx hb dX1_turn_69 rfl (lv_at hl 2 rfl) ?_
    refine g_ild hx hb hK hP 8 rfl (v := nI (mTo τ (ms τ k) false)) (vp_in_nI (by omega) (by decide)) (by rw [nI_clamp (by omega)]; show nI (va_up (ms τ) k _ k) = _; rw [va_up_self] <;> rfl) dX1_turn_70 ?_
    exact W.iret hx hb hr (fun t ht hW => ⟨⟨_, (), rfl, rfl, by show gP E _ t.heap; rw [ht]; exact hP⟩, hS.F ht⟩) hS.2.2 dX1_turn_71
  · obtain rfl : b = true := b2i_ne0.mp c44
    refine lv_aload_n hx hb dX1_turn_47 rfl (lv_at hl 1 rfl) ?_
    refine m_get (τ := (0, mn τ, mk τ, mf τ, mo τ, mh τ, md τ, mr τ, mu τ, mv τ, ms τ, mp τ, mw τ)) hx hb hts hts0 hown hK hP 5 (by decide) (by decide +kernel) rfl rfl dX1_turn_48 ?_
    refine lv_iload_n hx hb dX1_turn_51 rfl (lv_at hl 0 rfl) ?_
    refine g_ild hx hb hK hP 3 rfl (v := nI ((mh τ) ((ms τ) k))) (vp_in_nI (by omega) (by decide)) (by rw [nI_clamp (by omega)] <;> rfl) dX1_turn_52 ?_
    refine lv_goto (tgt := 62) hx hb dX1_turn_53 (by decide) ?_
    refine m0wv (As := [.int (nI k), .int (nI ((mh τ) ((ms τ) k)))]) (rest := []) (τ' := mGo (0, mn τ, mk τ, mf τ, mo τ, mh τ, md τ, mr τ, mu τ, mv τ, ms τ, mp τ, mw τ) k ((mh τ) ((ms τ) k))) S (m_go l E a (0, mn τ, mk τ, mf τ, mo τ, mh τ, md τ, mr τ, mu τ, mv τ, ms τ, mp τ, mw τ) _ (hO).2.2.2.2.1 k ((mh τ) ((ms τ) k)) (by omega) (by show mp τ k < 40; omega)) (cwV 2 hts gX1_turn_X1_go rfl rfl rfl hdX1_go ⟨Nat.le_of_ble_eq_true rfl, Nat.le_of_ble_eq_true rfl⟩) hK hP hD hS hA rfl hl.1 rfl (Nat.le_of_ble_eq_true rfl) ⟨Nat.zero_le _, Nat.zero_le _⟩ dX1_turn_62 (fun H locs hP hD hS => ?_)
    refine lv_aload_n hx hb dX1_turn_65 rfl (lv_at hl 1 rfl) ?_
    refine m_get (τ := (mGo (0, mn τ, mk τ, mf τ, mo τ, mh τ, md τ, mr τ, mu τ, mv τ, ms τ, mp τ, mw τ) k ((mh τ) ((ms τ) k)))) hx hb hts hts0 hown hK hP 10 (by decide) (by decide +kernel) rfl rfl dX1_turn_66 ?_
    refine lv_iload_n hx hb dX1_turn_69 rfl (lv_at hl 2 rfl) ?_
    refine g_ild hx hb hK hP 8 rfl (v := nI (mTo τ (ms τ k) true)) (vp_in_nI (by omega) (by decide)) (by rw [nI_clamp (by omega)]; show nI (va_up (ms τ) k _ k) = _; rw [va_up_self] <;> rfl) dX1_turn_70 ?_
    exact W.iret hx hb hr (fun t ht hW => ⟨⟨_, (), rfl, rfl, by show gP E _ t.heap; rw [ht]; exact hP⟩, hS.F ht⟩) hS.2.2 dX1_turn_71
set_option maxHeartbeats 4000000 in
set_option maxRecDepth 100000 in
theorem m_turn_1 (l : Launch) (E : GE) (a : Nat → Nat) (τ : MS) (sz : Nat) (pp : Int32) (hp : mIsS τ pp = false) (b : Int32) : Met l yX1_turn wsX1_turn { frames := 2, cells := 0, slots := 0, locals := 43 } (va_Pc [.ref (a 0), .int pp, .int b] (gBw E sz (mW E a τ))) (gQi E (0) (mW E a τ) (mW E a (mThr τ 1)) sz) 0 0 (va_A (mW E a τ) sz) := by
  refine w_met (cc := cX1_turn) (maxL := 4) (ret := (some .int)) (by decide) rfl (Nat.le_of_ble_eq_true rfl) ?_
  intro p e s m below meth c ls S hr hlocks hname hB hl
  obtain ⟨hsz, hP, hK, hD0⟩ := hB
  subst hsz
  have hD := hD0.self (sz := s.heap.size)
  have hA : ∀ q : Nat, s.heap.size ≤ q → va_A (mW E a τ) s.heap.size q := fun q h => Or.inr h
  have hS : va_S (va_A (mW E a τ) s.heap.size) s.heap s.heap [] := va_S.rf
  obtain ⟨hx, hb, hml, hown, hts⟩ := id S
  have hts0 := hinX1_turn
  have hl : lv_has ls 4 [(0, .ref (a 0)), (1, .int pp), (2, .int b)] := hl
  refine lv_aload_n hx hb dX1_turn_0 rfl (lv_at hl 0 rfl) ?_
  refine lv_iconst (v := 0) hx hb dX1_turn_1 (by decide) ?_
  refine va_put (D := E.1) (ci := 1) (v := .int 0) (ty := .int) (C := RX1) (T := TX1) (N := 13) hx hb hts hts0 tyX1 tyX1_ok nmX1 hown hK hP hD hS 0 rfl rfl 0 (by decide) (hts (.fieldLink RX1 42 "ExamGardenModel" "thrown" "I") (by decide +kernel)) (fun _ h9 => h9) rfl (by decide +kernel) rfl rfl (Nat.le_of_ble_eq_true rfl) dX1_turn_2 (fun H locs hP hD hS => ?_)
  have hP : gP E (mW E a (0, mn τ, mk τ, mf τ, mo τ, mh τ, md τ, mr τ, mu τ, mv τ, ms τ, mp τ, mw τ)) H := hP
  have hD : va_D (va_A (mW E a τ) s.heap.size) (mW E a (0, mn τ, mk τ, mf τ, mo τ, mh τ, md τ, mr τ, mu τ, mv τ, ms τ, mp τ, mw τ)) := hD
  refine lv_aload_n hx hb dX1_turn_5 rfl (lv_at hl 0 rfl) ?_
  refine lv_iload_n hx hb dX1_turn_6 rfl (lv_at hl 1 rfl) ?_
  refine m0i (As := [.int pp]) (rest := []) S (m_isStudent l E a (0, mn τ, mk τ, mf τ, mo τ, mh τ, md τ, mr τ, mu τ, mv τ, ms τ, mp τ, mw τ) pp) (cwV 1 hts gX1_turn_X1_isStudent rfl rfl rfl hdX1_isStudent ⟨Nat.le_of_ble_eq_true rfl, Nat.le_of_ble_eq_true rfl⟩) hK hP rfl hl.1 rfl (Nat.le_of_ble_eq_true rfl) ⟨Nat.zero_le _, Nat.zero_le _⟩ dX1_turn_7 ?_
  refine lv_if_ne (tgt := 19) hx hb dX1_turn_10 (by decide) (fun q => absurd ((b2i_eq0.mpr hp)) q) (fun _ => ?_)
  refine lv_aload_n hx hb dX1_turn_13 rfl (lv_at hl 0 rfl) ?_
  refine lv_iconst (v := 1) hx hb dX1_turn_14 (by decide) ?_
  refine m0wi (As := [.int 1]) (rest := []) (τ' := mThr (0, mn τ, mk τ, mf τ, mo τ, mh τ, md τ, mr τ, mu τ, mv τ, ms τ, mp τ, mw τ) 1) S (m_no l E a (0, mn τ, mk τ, mf τ, mo τ, mh τ, md τ, mr τ, mu τ, mv τ, ms τ, mp τ, mw τ) _ 1) (cwV 1 hts gX1_turn_X1_no rfl rfl rfl hdX1_no ⟨Nat.le_of_ble_eq_true rfl, Nat.le_of_ble_eq_true rfl⟩) hK hP hD hS hA rfl hl.1 rfl (Nat.le_of_ble_eq_true rfl) ⟨Nat.zero_le _, Nat.zero_le _⟩ dX1_turn_15 (fun H locs hP hD hS => ?_)
  exact W.iret hx hb hr (fun t ht hW => ⟨⟨_, (), rfl, rfl, by show gP E _ t.heap; rw [ht]; exact hP⟩, hS.F ht⟩) hS.2.2 dX1_turn_18
set_option maxHeartbeats 4000000 in
set_option maxRecDepth 100000 in
theorem m_turn_2 (l : Launch) (E : GE) (a : Nat → Nat) (τ : MS) (sz : Nat) (hO : MOK τ) (k : Nat) (hk : k < mk τ) (hp : mIsS τ (nI k) = true) (hE : mf τ (ms τ k) = false) (b : Int32) : Met l yX1_turn wsX1_turn { frames := 2, cells := 0, slots := 0, locals := 43 } (va_Pc [.ref (a 0), .int (nI k), .int b] (gBw E sz (mW E a τ))) (gQi E (0) (mW E a τ) (mW E a (mThr τ 2)) sz) 0 0 (va_A (mW E a τ) sz) := by
  refine w_met (cc := cX1_turn) (maxL := 4) (ret := (some .int)) (by decide) rfl (Nat.le_of_ble_eq_true rfl) ?_
  intro p e s m below meth c ls S hr hlocks hname hB hl
  obtain ⟨hsz, hP, hK, hD0⟩ := hB
  subst hsz
  have hD := hD0.self (sz := s.heap.size)
  have hA : ∀ q : Nat, s.heap.size ≤ q → va_A (mW E a τ) s.heap.size q := fun q h => Or.inr h
  have hS : va_S (va_A (mW E a τ) s.heap.size) s.heap s.heap [] := va_S.rf
  obtain ⟨hx, hb, hml, hown, hts⟩ := id S
  have tk := hO.2.1
  have t1 := hO.2.2.2.2.1 k
  have hts0 := hinX1_turn
  have hl : lv_has ls 4 [(0, .ref (a 0)), (1, .int (nI k)), (2, .int b)] := hl
  refine lv_aload_n hx hb dX1_turn_0 rfl (lv_at hl 0 rfl) ?_
  refine lv_iconst (v := 0) hx hb dX1_turn_1 (by decide) ?_
  refine va_put (D := E.1) (ci := 1) (v := .int 0) (ty := .int) (C := RX1) (T := TX1) (N := 13) hx hb hts hts0 tyX1 tyX1_ok nmX1 hown hK hP hD hS 0 rfl rfl 0 (by decide) (hts (.fieldLink RX1 42 "ExamGardenModel" "thrown" "I") (by decide +kernel)) (fun _ h9 => h9) rfl (by decide +kernel) rfl rfl (Nat.le_of_ble_eq_true rfl) dX1_turn_2 (fun H locs hP hD hS => ?_)
  have hP : gP E (mW E a (0, mn τ, mk τ, mf τ, mo τ, mh τ, md τ, mr τ, mu τ, mv τ, ms τ, mp τ, mw τ)) H := hP
  have hD : va_D (va_A (mW E a τ) s.heap.size) (mW E a (0, mn τ, mk τ, mf τ, mo τ, mh τ, md τ, mr τ, mu τ, mv τ, ms τ, mp τ, mw τ)) := hD
  refine lv_aload_n hx hb dX1_turn_5 rfl (lv_at hl 0 rfl) ?_
  refine lv_iload_n hx hb dX1_turn_6 rfl (lv_at hl 1 rfl) ?_
  refine m0i (As := [.int (nI k)]) (rest := []) S (m_isStudent l E a (0, mn τ, mk τ, mf τ, mo τ, mh τ, md τ, mr τ, mu τ, mv τ, ms τ, mp τ, mw τ) (nI k)) (cwV 1 hts gX1_turn_X1_isStudent rfl rfl rfl hdX1_isStudent ⟨Nat.le_of_ble_eq_true rfl, Nat.le_of_ble_eq_true rfl⟩) hK hP rfl hl.1 rfl (Nat.le_of_ble_eq_true rfl) ⟨Nat.zero_le _, Nat.zero_le _⟩ dX1_turn_7 ?_
  refine lv_if_ne (tgt := 19) hx hb dX1_turn_10 (by decide) (fun _ => ?_) (fun q => absurd q ((b2i_ne0.mpr hp)))
  refine lv_aload_n hx hb dX1_turn_19 rfl (lv_at hl 0 rfl) ?_
  refine m_get (τ := (0, mn τ, mk τ, mf τ, mo τ, mh τ, md τ, mr τ, mu τ, mv τ, ms τ, mp τ, mw τ)) hx hb hts hts0 hown hK hP 10 (by decide) (by decide +kernel) rfl rfl dX1_turn_20 ?_
  refine lv_iload_n hx hb dX1_turn_23 rfl (lv_at hl 1 rfl) ?_
  refine g_ild hx hb hK hP 8 rfl (v := nI ((ms τ) k)) (vp_in_nI (by omega) (by decide)) (by rw [nI_clamp (by omega)] <;> rfl) dX1_turn_24 ?_
  refine lv_istore_n (lv' := [(3, .int (nI ((ms τ) k))), (0, .ref (a 0)), (1, .int (nI k)), (2, .int b)]) hx hb dX1_turn_25 rfl hl (by decide) rfl (fun ls hl => ?_)
  refine lv_aload_n hx hb dX1_turn_26 rfl (lv_at hl 1 rfl) ?_
  refine m_get (τ := (0, mn τ, mk τ, mf τ, mo τ, mh τ, md τ, mr τ, mu τ, mv τ, ms τ, mp τ, mw τ)) hx hb hts hts0 hown hK hP 3 (by decide) (by decide +kernel) rfl rfl dX1_turn_27 ?_
  refine lv_iload_n hx hb dX1_turn_30 rfl (lv_at hl 0 rfl) ?_
  refine g_zld hx hb hK hP 1 rfl (v := b2i ((mf τ) ((ms τ) k))) (vp_in_nI (by omega) (by decide)) (by rw [nI_clamp (by omega)] <;> rfl) dX1_turn_31 ?_
  refine lv_if_ne (tgt := 41) hx hb dX1_turn_32 (by decide) (fun q => absurd ((b2i_eq0.mpr hE)) q) (fun _ => ?_)
  refine lv_aload_n hx hb dX1_turn_35 rfl (lv_at hl 1 rfl) ?_
  refine lv_iconst (v := 2) hx hb dX1_turn_36 (by decide) ?_
  refine m0wi (As := [.int 2]) (rest := []) (τ' := mThr (0, mn τ, mk τ, mf τ, mo τ, mh τ, md τ, mr τ, mu τ, mv τ, ms τ, mp τ, mw τ) 2) S (m_no l E a (0, mn τ, mk τ, mf τ, mo τ, mh τ, md τ, mr τ, mu τ, mv τ, ms τ, mp τ, mw τ) _ 2) (cwV 1 hts gX1_turn_X1_no rfl rfl rfl hdX1_no ⟨Nat.le_of_ble_eq_true rfl, Nat.le_of_ble_eq_true rfl⟩) hK hP hD hS hA rfl hl.1 rfl (Nat.le_of_ble_eq_true rfl) ⟨Nat.zero_le _, Nat.zero_le _⟩ dX1_turn_37 (fun H locs hP hD hS => ?_)
  exact W.iret hx hb hr (fun t ht hW => ⟨⟨_, (), rfl, rfl, by show gP E _ t.heap; rw [ht]; exact hP⟩, hS.F ht⟩) hS.2.2 dX1_turn_40
theorem hinX1_goBack : ∀ w ∈ wsX10, w ∈ wsX1_goBack := fun w h => List.mem_cons_of_mem _ (List.mem_append_right _ h)
theorem hdX1_goBack : yX1_goBack.cls = RX1 ∧ yX1_goBack.cls ≠ "java/lang/invoke/MethodHandle" ∧ yX1_goBack.cls ≠ "java/lang/invoke/VarHandle" ∧ (parseMethodDescriptor yX1_goBack.desc).map (fun d => d.parameters.length) = some 1 := by decide +kernel
set_option maxHeartbeats 4000000 in
set_option maxRecDepth 100000 in
theorem m_goBack (l : Launch) (E : GE) (a : Nat → Nat) (τ : MS) (sz : Nat) (hO : MOK τ) (k : Nat) (hk : k < mk τ) (hp : mIsS τ (nI k) = true) (j : Nat) (hc : mp τ k = j + 1) (hj : j < 40) : Met l yX1_goBack wsX1_goBack { frames := 2, cells := 0, slots := 0, locals := 43 } (va_Pc [.ref (a 0), .int (nI k)] (gBw E sz (mW E a τ))) (gQi E (nI (mw τ (40 * k + j))) (mW E a τ) (mW E a (mBk τ k j)) sz) 0 0 (va_A (mW E a τ) sz) := by
  refine w_met (cc := cX1_goBack) (maxL := 2) (ret := (some .int)) (by decide) rfl (Nat.le_of_ble_eq_true rfl) ?_
  intro p e s m below meth c ls S hr hlocks hname hB hl
  obtain ⟨hsz, hP, hK, hD0⟩ := hB
  subst hsz
  have hD := hD0.self (sz := s.heap.size)
  have hA : ∀ q : Nat, s.heap.size ≤ q → va_A (mW E a τ) s.heap.size q := fun q h => Or.inr h
  have hS : va_S (va_A (mW E a τ) s.heap.size) s.heap s.heap [] := va_S.rf
  obtain ⟨hx, hb, hml, hown, hts⟩ := id S
  have tk := hO.2.1
  have t6 := hO.2.2.2.2.2.1 (40 * k + j)
  have hts0 := hinX1_goBack
  have hl : lv_has ls 2 [(0, .ref (a 0)), (1, .int (nI k))] := hl
  refine lv_aload_n hx hb dX1_goBack_0 rfl (lv_at hl 0 rfl) ?_
  refine lv_iconst (v := 0) hx hb dX1_goBack_1 (by decide) ?_
  refine va_put (D := E.1) (ci := 1) (v := .int 0) (ty := .int) (C := RX1) (T := TX1) (N := 13) hx hb hts hts0 tyX1 tyX1_ok nmX1 hown hK hP hD hS 0 rfl rfl 0 (by decide) (hts (.fieldLink RX1 42 "ExamGardenModel" "thrown" "I") (by decide +kernel)) (fun _ h9 => h9) rfl (by decide +kernel) rfl rfl (Nat.le_of_ble_eq_true rfl) dX1_goBack_2 (fun H locs hP hD hS => ?_)
  have hP : gP E (mW E a (0, mn τ, mk τ, mf τ, mo τ, mh τ, md τ, mr τ, mu τ, mv τ, ms τ, mp τ, mw τ)) H := hP
  have hD : va_D (va_A (mW E a τ) s.heap.size) (mW E a (0, mn τ, mk τ, mf τ, mo τ, mh τ, md τ, mr τ, mu τ, mv τ, ms τ, mp τ, mw τ)) := hD
  refine lv_aload_n hx hb dX1_goBack_5 rfl (lv_at hl 0 rfl) ?_
  refine lv_iload_n hx hb dX1_goBack_6 rfl (lv_at hl 1 rfl) ?_
  refine m0i (As := [.int (nI k)]) (rest := []) S (m_isStudent l E a (0, mn τ, mk τ, mf τ, mo τ, mh τ, md τ, mr τ, mu τ, mv τ, ms τ, mp τ, mw τ) (nI k)) (cwV 1 hts gX1_goBack_X1_isStudent rfl rfl rfl hdX1_isStudent ⟨Nat.le_of_ble_eq_true rfl, Nat.le_of_ble_eq_true rfl⟩) hK hP rfl hl.1 rfl (Nat.le_of_ble_eq_true rfl) ⟨Nat.zero_le _, Nat.zero_le _⟩ dX1_goBack_7 ?_
  refine lv_if_ne (tgt := 19) hx hb dX1_goBack_10 (by decide) (fun _ => ?_) (fun q => absurd q ((b2i_ne0.mpr hp)))
  refine lv_aload_n hx hb dX1_goBack_19 rfl (lv_at hl 0 rfl) ?_
  refine m_get (τ := (0, mn τ, mk τ, mf τ, mo τ, mh τ, md τ, mr τ, mu τ, mv τ, ms τ, mp τ, mw τ)) hx hb hts hts0 hown hK hP 11 (by decide) (by decide +kernel) rfl rfl dX1_goBack_20 ?_
  refine lv_iload_n hx hb dX1_goBack_23 rfl (lv_at hl 1 rfl) ?_
  refine g_ild hx hb hK hP 9 rfl (v := nI ((mp τ) k)) (vp_in_nI (by omega) (by decide)) (by rw [nI_clamp (by omega)] <;> rfl) dX1_goBack_24 ?_
  refine lv_if_ne (tgt := 34) hx hb dX1_goBack_25 (by decide) (fun _ => ?_) (fun q => absurd q ((nI_neq (a := mp τ k) (b := 0) (by omega) (by omega) (by decide))))
  refine lv_aload_n hx hb dX1_goBack_34 rfl (lv_at hl 0 rfl) ?_
  refine m_get (τ := (0, mn τ, mk τ, mf τ, mo τ, mh τ, md τ, mr τ, mu τ, mv τ, ms τ, mp τ, mw τ)) hx hb hts hts0 hown hK hP 11 (by decide) (by decide +kernel) rfl rfl dX1_goBack_35 ?_
  refine lv_iload_n hx hb dX1_goBack_38 rfl (lv_at hl 1 rfl) ?_
  refine lv_dup2_11 hx hb dX1_goBack_39 rfl rfl ?_
  refine g_ild hx hb hK hP 9 rfl (v := nI (mp τ k)) (vp_in_nI (by omega) (by decide)) (by rw [nI_clamp (by omega)] <;> rfl) dX1_goBack_40 ?_
  refine lv_iconst (v := 1) hx hb dX1_goBack_41 (by decide) ?_
  refine lv_isub hx hb dX1_goBack_42 ?_
  rw [show (nI (mp τ k) - 1 : Int32) = nI j by rw [hc, nI_pred]]
  refine g_ist hx hb hK hP hD hS 9 rfl (f' := (fun z9 => nI (va_up ((mp τ)) k j z9))) (vp_in_nI (by omega) (by decide)) (g_clu (k := k) (by omega) (n_upd _ _ _)) dX1_goBack_43 (fun H locs hP hD hS => ?_)
  have hP : gP E (mW E a (0, mn τ, mk τ, mf τ, mo τ, mh τ, md τ, mr τ, mu τ, mv τ, ms τ, va_up ((mp τ)) k j, mw τ)) H := hP
  have hD : va_D (va_A (mW E a τ) s.heap.size) (mW E a (0, mn τ, mk τ, mf τ, mo τ, mh τ, md τ, mr τ, mu τ, mv τ, ms τ, va_up ((mp τ)) k j, mw τ)) := hD
  refine lv_aload_n hx hb dX1_goBack_44 rfl (lv_at hl 0 rfl) ?_
  refine m_get (τ := (0, mn τ, mk τ, mf τ, mo τ, mh τ, md τ, mr τ, mu τ, mv τ, ms τ, va_up ((mp τ)) k j, mw τ)) hx hb hts hts0 hown hK hP 10 (by decide) (by decide +kernel) rfl rfl dX1_goBack_45 ?_
  refine lv_iload_n hx hb dX1_goBack_48 rfl (lv_at hl 1 rfl) ?_
  refine lv_aload_n hx hb dX1_goBack_49 rfl (lv_at hl 0 rfl) ?_
  refine m_get (τ := (0, mn τ, mk τ, mf τ, mo τ, mh τ, md τ, mr τ, mu τ, mv τ, ms τ, va_up ((mp τ)) k j, mw τ)) hx hb hts hts0 hown hK hP 12 (by decide) (by decide +kernel) rfl rfl dX1_goBack_50 ?_
  refine lv_bipush (v := nI 40) hx hb dX1_goBack_53 (by decide) ?_
  refine lv_iload_n hx hb dX1_goBack_55 rfl (lv_at hl 1 rfl) ?_
  refine lv_imul hx hb dX1_goBack_56 ?_
  rw [pk_mul 40 k]
  refine lv_aload_n hx hb dX1_goBack_57 rfl (lv_at hl 0 rfl) ?_
  refine m_get (τ := (0, mn τ, mk τ, mf τ, mo τ, mh τ, md τ, mr τ, mu τ, mv τ, ms τ, va_up ((mp τ)) k j, mw τ)) hx hb hts hts0 hown hK hP 11 (by decide) (by decide +kernel) rfl rfl dX1_goBack_58 ?_
  refine lv_iload_n hx hb dX1_goBack_61 rfl (lv_at hl 1 rfl) ?_
  refine g_ild hx hb hK hP 9 rfl (v := nI j) (vp_in_nI (by omega) (by decide)) (by rw [nI_clamp (by omega)]; show nI (va_up (mp τ) k j k) = _; rw [va_up_self] <;> rfl) dX1_goBack_62 ?_
  refine lv_iadd hx hb dX1_goBack_63 ?_
  rw [nI_add (40 * k) j]
  refine g_ild hx hb hK hP 10 rfl (v := nI ((mw τ) ((40 * k) + j))) (vp_in_nI (by omega) (by decide)) (by rw [nI_clamp (by omega)] <;> rfl) dX1_goBack_64 ?_
  refine g_ist hx hb hK hP hD hS 8 rfl (f' := (fun z9 => nI (va_up ((ms τ)) k ((mw τ) ((40 * k) + j)) z9))) (vp_in_nI (by omega) (by decide)) (g_clu (k := k) (by omega) (n_upd _ _ _)) dX1_goBack_65 (fun H locs hP hD hS => ?_)
  have hP : gP E (mW E a (0, mn τ, mk τ, mf τ, mo τ, mh τ, md τ, mr τ, mu τ, mv τ, va_up ((ms τ)) k ((mw τ) ((40 * k) + j)), va_up ((mp τ)) k j, mw τ)) H := hP
  have hD : va_D (va_A (mW E a τ) s.heap.size) (mW E a (0, mn τ, mk τ, mf τ, mo τ, mh τ, md τ, mr τ, mu τ, mv τ, va_up ((ms τ)) k ((mw τ) ((40 * k) + j)), va_up ((mp τ)) k j, mw τ)) := hD
  refine lv_aload_n hx hb dX1_goBack_66 rfl (lv_at hl 0 rfl) ?_
  refine m_get (τ := (0, mn τ, mk τ, mf τ, mo τ, mh τ, md τ, mr τ, mu τ, mv τ, va_up ((ms τ)) k ((mw τ) ((40 * k) + j)), va_up ((mp τ)) k j, mw τ)) hx hb hts hts0 hown hK hP 10 (by decide) (by decide +kernel) rfl rfl dX1_goBack_67 ?_
  refine lv_iload_n hx hb dX1_goBack_70 rfl (lv_at hl 1 rfl) ?_
  refine g_ild hx hb hK hP 8 rfl (v := nI (mw τ (40 * k + j))) (vp_in_nI (by omega) (by decide)) (by rw [nI_clamp (by omega)]; show nI (va_up (ms τ) k _ k) = _; rw [va_up_self] <;> rfl) dX1_goBack_71 ?_
  exact W.iret hx hb hr (fun t ht hW => ⟨⟨_, (), rfl, rfl, by show gP E _ t.heap; rw [ht]; exact hP⟩, hS.F ht⟩) hS.2.2 dX1_goBack_72
set_option maxHeartbeats 4000000 in
set_option maxRecDepth 100000 in
theorem m_goBack_1 (l : Launch) (E : GE) (a : Nat → Nat) (τ : MS) (sz : Nat) (pp : Int32) (hp : mIsS τ pp = false) : Met l yX1_goBack wsX1_goBack { frames := 2, cells := 0, slots := 0, locals := 43 } (va_Pc [.ref (a 0), .int pp] (gBw E sz (mW E a τ))) (gQi E (0) (mW E a τ) (mW E a (mThr τ 1)) sz) 0 0 (va_A (mW E a τ) sz) := by
  refine w_met (cc := cX1_goBack) (maxL := 2) (ret := (some .int)) (by decide) rfl (Nat.le_of_ble_eq_true rfl) ?_
  intro p e s m below meth c ls S hr hlocks hname hB hl
  obtain ⟨hsz, hP, hK, hD0⟩ := hB
  subst hsz
  have hD := hD0.self (sz := s.heap.size)
  have hA : ∀ q : Nat, s.heap.size ≤ q → va_A (mW E a τ) s.heap.size q := fun q h => Or.inr h
  have hS : va_S (va_A (mW E a τ) s.heap.size) s.heap s.heap [] := va_S.rf
  obtain ⟨hx, hb, hml, hown, hts⟩ := id S
  have hts0 := hinX1_goBack
  have hl : lv_has ls 2 [(0, .ref (a 0)), (1, .int pp)] := hl
  refine lv_aload_n hx hb dX1_goBack_0 rfl (lv_at hl 0 rfl) ?_
  refine lv_iconst (v := 0) hx hb dX1_goBack_1 (by decide) ?_
  refine va_put (D := E.1) (ci := 1) (v := .int 0) (ty := .int) (C := RX1) (T := TX1) (N := 13) hx hb hts hts0 tyX1 tyX1_ok nmX1 hown hK hP hD hS 0 rfl rfl 0 (by decide) (hts (.fieldLink RX1 42 "ExamGardenModel" "thrown" "I") (by decide +kernel)) (fun _ h9 => h9) rfl (by decide +kernel) rfl rfl (Nat.le_of_ble_eq_true rfl) dX1_goBack_2 (fun H locs hP hD hS => ?_)
  have hP : gP E (mW E a (0, mn τ, mk τ, mf τ, mo τ, mh τ, md τ, mr τ, mu τ, mv τ, ms τ, mp τ, mw τ)) H := hP
  have hD : va_D (va_A (mW E a τ) s.heap.size) (mW E a (0, mn τ, mk τ, mf τ, mo τ, mh τ, md τ, mr τ, mu τ, mv τ, ms τ, mp τ, mw τ)) := hD
  refine lv_aload_n hx hb dX1_goBack_5 rfl (lv_at hl 0 rfl) ?_
  refine lv_iload_n hx hb dX1_goBack_6 rfl (lv_at hl 1 rfl) ?_
  refine m0i (As := [.int pp]) (rest := []) S (m_isStudent l E a (0, mn τ, mk τ, mf τ, mo τ, mh τ, md τ, mr τ, mu τ, mv τ, ms τ, mp τ, mw τ) pp) (cwV 1 hts gX1_goBack_X1_isStudent rfl rfl rfl hdX1_isStudent ⟨Nat.le_of_ble_eq_true rfl, Nat.le_of_ble_eq_true rfl⟩) hK hP rfl hl.1 rfl (Nat.le_of_ble_eq_true rfl) ⟨Nat.zero_le _, Nat.zero_le _⟩ dX1_goBack_7 ?_
  refine lv_if_ne (tgt := 19) hx hb dX1_goBack_10 (by decide) (fun q => absurd ((b2i_eq0.mpr hp)) q) (fun _ => ?_)
  refine lv_aload_n hx hb dX1_goBack_13 rfl (lv_at hl 0 rfl) ?_
  refine lv_iconst (v := 1) hx hb dX1_goBack_14 (by decide) ?_
  refine m0wi (As := [.int 1]) (rest := []) (τ' := mThr (0, mn τ, mk τ, mf τ, mo τ, mh τ, md τ, mr τ, mu τ, mv τ, ms τ, mp τ, mw τ) 1) S (m_no l E a (0, mn τ, mk τ, mf τ, mo τ, mh τ, md τ, mr τ, mu τ, mv τ, ms τ, mp τ, mw τ) _ 1) (cwV 1 hts gX1_goBack_X1_no rfl rfl rfl hdX1_no ⟨Nat.le_of_ble_eq_true rfl, Nat.le_of_ble_eq_true rfl⟩) hK hP hD hS hA rfl hl.1 rfl (Nat.le_of_ble_eq_true rfl) ⟨Nat.zero_le _, Nat.zero_le _⟩ dX1_goBack_15 (fun H locs hP hD hS => ?_)
  exact W.iret hx hb hr (fun t ht hW => ⟨⟨_, (), rfl, rfl, by show gP E _ t.heap; rw [ht]; exact hP⟩, hS.F ht⟩) hS.2.2 dX1_goBack_18
set_option maxHeartbeats 4000000 in
set_option maxRecDepth 100000 in
theorem m_goBack_2 (l : Launch) (E : GE) (a : Nat → Nat) (τ : MS) (sz : Nat) (hO : MOK τ) (k : Nat) (hk : k < mk τ) (hp : mIsS τ (nI k) = true) (hc : mp τ k = 0) : Met l yX1_goBack wsX1_goBack { frames := 2, cells := 0, slots := 0, locals := 43 } (va_Pc [.ref (a 0), .int (nI k)] (gBw E sz (mW E a τ))) (gQi E (0) (mW E a τ) (mW E a (mThr τ 2)) sz) 0 0 (va_A (mW E a τ) sz) := by
  refine w_met (cc := cX1_goBack) (maxL := 2) (ret := (some .int)) (by decide) rfl (Nat.le_of_ble_eq_true rfl) ?_
  intro p e s m below meth c ls S hr hlocks hname hB hl
  obtain ⟨hsz, hP, hK, hD0⟩ := hB
  subst hsz
  have hD := hD0.self (sz := s.heap.size)
  have hA : ∀ q : Nat, s.heap.size ≤ q → va_A (mW E a τ) s.heap.size q := fun q h => Or.inr h
  have hS : va_S (va_A (mW E a τ) s.heap.size) s.heap s.heap [] := va_S.rf
  obtain ⟨hx, hb, hml, hown, hts⟩ := id S
  have tk := hO.2.1
  have hts0 := hinX1_goBack
  have hl : lv_has ls 2 [(0, .ref (a 0)), (1, .int (nI k))] := hl
  refine lv_aload_n hx hb dX1_goBack_0 rfl (lv_at hl 0 rfl) ?_
  refine lv_iconst (v := 0) hx hb dX1_goBack_1 (by decide) ?_
  refine va_put (D := E.1) (ci := 1) (v := .int 0) (ty := .int) (C := RX1) (T := TX1) (N := 13) hx hb hts hts0 tyX1 tyX1_ok nmX1 hown hK hP hD hS 0 rfl rfl 0 (by decide) (hts (.fieldLink RX1 42 "ExamGardenModel" "thrown" "I") (by decide +kernel)) (fun _ h9 => h9) rfl (by decide +kernel) rfl rfl (Nat.le_of_ble_eq_true rfl) dX1_goBack_2 (fun H locs hP hD hS => ?_)
  have hP : gP E (mW E a (0, mn τ, mk τ, mf τ, mo τ, mh τ, md τ, mr τ, mu τ, mv τ, ms τ, mp τ, mw τ)) H := hP
  have hD : va_D (va_A (mW E a τ) s.heap.size) (mW E a (0, mn τ, mk τ, mf τ, mo τ, mh τ, md τ, mr τ, mu τ, mv τ, ms τ, mp τ, mw τ)) := hD
  refine lv_aload_n hx hb dX1_goBack_5 rfl (lv_at hl 0 rfl) ?_
  refine lv_iload_n hx hb dX1_goBack_6 rfl (lv_at hl 1 rfl) ?_
  refine m0i (As := [.int (nI k)]) (rest := []) S (m_isStudent l E a (0, mn τ, mk τ, mf τ, mo τ, mh τ, md τ, mr τ, mu τ, mv τ, ms τ, mp τ, mw τ) (nI k)) (cwV 1 hts gX1_goBack_X1_isStudent rfl rfl rfl hdX1_isStudent ⟨Nat.le_of_ble_eq_true rfl, Nat.le_of_ble_eq_true rfl⟩) hK hP rfl hl.1 rfl (Nat.le_of_ble_eq_true rfl) ⟨Nat.zero_le _, Nat.zero_le _⟩ dX1_goBack_7 ?_
  refine lv_if_ne (tgt := 19) hx hb dX1_goBack_10 (by decide) (fun _ => ?_) (fun q => absurd q ((b2i_ne0.mpr hp)))
  refine lv_aload_n hx hb dX1_goBack_19 rfl (lv_at hl 0 rfl) ?_
  refine m_get (τ := (0, mn τ, mk τ, mf τ, mo τ, mh τ, md τ, mr τ, mu τ, mv τ, ms τ, mp τ, mw τ)) hx hb hts hts0 hown hK hP 11 (by decide) (by decide +kernel) rfl rfl dX1_goBack_20 ?_
  refine lv_iload_n hx hb dX1_goBack_23 rfl (lv_at hl 1 rfl) ?_
  refine g_ild hx hb hK hP 9 rfl (v := nI ((mp τ) k)) (vp_in_nI (by omega) (by decide)) (by rw [nI_clamp (by omega)] <;> rfl) dX1_goBack_24 ?_
  refine lv_if_ne (tgt := 34) hx hb dX1_goBack_25 (by decide) (fun q => absurd ((by rw [show mp τ k = 0 from hc]; rfl)) q) (fun _ => ?_)
  refine lv_aload_n hx hb dX1_goBack_28 rfl (lv_at hl 0 rfl) ?_
  refine lv_iconst (v := 2) hx hb dX1_goBack_29 (by decide) ?_
  refine m0wi (As := [.int 2]) (rest := []) (τ' := mThr (0, mn τ, mk τ, mf τ, mo τ, mh τ, md τ, mr τ, mu τ, mv τ, ms τ, mp τ, mw τ) 2) S (m_no l E a (0, mn τ, mk τ, mf τ, mo τ, mh τ, md τ, mr τ, mu τ, mv τ, ms τ, mp τ, mw τ) _ 2) (cwV 1 hts gX1_goBack_X1_no rfl rfl rfl hdX1_no ⟨Nat.le_of_ble_eq_true rfl, Nat.le_of_ble_eq_true rfl⟩) hK hP hD hS hA rfl hl.1 rfl (Nat.le_of_ble_eq_true rfl) ⟨Nat.zero_le _, Nat.zero_le _⟩ dX1_goBack_30 (fun H locs hP hD hS => ?_)
  exact W.iret hx hb hr (fun t ht hW => ⟨⟨_, (), rfl, rfl, by show gP E _ t.heap; rw [ht]; exact hP⟩, hS.F ht⟩) hS.2.2 dX1_goBack_33
theorem hinX1_follow : ∀ w ∈ wsX10, w ∈ wsX1_follow := fun w h => List.mem_cons_of_mem _ (List.mem_append_right _ h)
theorem hdX1_follow : yX1_follow.cls = RX1 ∧ yX1_follow.cls ≠ "java/lang/invoke/MethodHandle" ∧ yX1_follow.cls ≠ "java/lang/invoke/VarHandle" ∧ (parseMethodDescriptor yX1_follow.desc).map (fun d => d.parameters.length) = some 1 := by decide +kernel
set_option maxHeartbeats 4000000 in
set_option maxRecDepth 100000 in
theorem m_follow_1 (l : Launch) (E : GE) (a : Nat → Nat) (τ : MS) (sz : Nat) (pp : Int32) (hp : mIsS τ pp = false) : Met l yX1_follow wsX1_follow { frames := 4, cells := 0, slots := 0, locals := 87 } (va_Pc [.ref (a 0), .int pp] (gBw E sz (mW E a τ))) (gQi E (0) (mW E a τ) (mW E a (mThr τ 1)) sz) 0 0 (va_A (mW E a τ) sz) := by
  refine w_met (cc := cX1_follow) (maxL := 3) (ret := (some .int)) (by decide) rfl (Nat.le_of_ble_eq_true rfl) ?_
  intro p e s m below meth c ls S hr hlocks hname hB hl
  obtain ⟨hsz, hP, hK, hD0⟩ := hB
  subst hsz
  have hD := hD0.self (sz := s.heap.size)
  have hA : ∀ q : Nat, s.heap.size ≤ q → va_A (mW E a τ) s.heap.size q := fun q h => Or.inr h
  have hS : va_S (va_A (mW E a τ) s.heap.size) s.heap s.heap [] := va_S.rf
  obtain ⟨hx, hb, hml, hown, hts⟩ := id S
  have hts0 := hinX1_follow
  have hl : lv_has ls 3 [(0, .ref (a 0)), (1, .int pp)] := hl
  refine lv_aload_n hx hb dX1_follow_0 rfl (lv_at hl 0 rfl) ?_
  refine lv_iconst (v := 0) hx hb dX1_follow_1 (by decide) ?_
  refine va_put (D := E.1) (ci := 1) (v := .int 0) (ty := .int) (C := RX1) (T := TX1) (N := 13) hx hb hts hts0 tyX1 tyX1_ok nmX1 hown hK hP hD hS 0 rfl rfl 0 (by decide) (hts (.fieldLink RX1 42 "ExamGardenModel" "thrown" "I") (by decide +kernel)) (fun _ h9 => h9) rfl (by decide +kernel) rfl rfl (Nat.le_of_ble_eq_true rfl) dX1_follow_2 (fun H locs hP hD hS => ?_)
  have hP : gP E (mW E a (0, mn τ, mk τ, mf τ, mo τ, mh τ, md τ, mr τ, mu τ, mv τ, ms τ, mp τ, mw τ)) H := hP
  have hD : va_D (va_A (mW E a τ) s.heap.size) (mW E a (0, mn τ, mk τ, mf τ, mo τ, mh τ, md τ, mr τ, mu τ, mv τ, ms τ, mp τ, mw τ)) := hD
  refine lv_aload_n hx hb dX1_follow_5 rfl (lv_at hl 0 rfl) ?_
  refine lv_iload_n hx hb dX1_follow_6 rfl (lv_at hl 1 rfl) ?_
  refine m0i (As := [.int pp]) (rest := []) S (m_isStudent l E a (0, mn τ, mk τ, mf τ, mo τ, mh τ, md τ, mr τ, mu τ, mv τ, ms τ, mp τ, mw τ) pp) (cwV 1 hts gX1_follow_X1_isStudent rfl rfl rfl hdX1_isStudent ⟨Nat.le_of_ble_eq_true rfl, Nat.le_of_ble_eq_true rfl⟩) hK hP rfl hl.1 rfl (Nat.le_of_ble_eq_true rfl) ⟨Nat.zero_le _, Nat.zero_le _⟩ dX1_follow_7 ?_
  refine lv_if_ne (tgt := 19) hx hb dX1_follow_10 (by decide) (fun q => absurd ((b2i_eq0.mpr hp)) q) (fun _ => ?_)
  refine lv_aload_n hx hb dX1_follow_13 rfl (lv_at hl 0 rfl) ?_
  refine lv_iconst (v := 1) hx hb dX1_follow_14 (by decide) ?_
  refine m0wi (As := [.int 1]) (rest := []) (τ' := mThr (0, mn τ, mk τ, mf τ, mo τ, mh τ, md τ, mr τ, mu τ, mv τ, ms τ, mp τ, mw τ) 1) S (m_no l E a (0, mn τ, mk τ, mf τ, mo τ, mh τ, md τ, mr τ, mu τ, mv τ, ms τ, mp τ, mw τ) _ 1) (cwV 1 hts gX1_follow_X1_no rfl rfl rfl hdX1_no ⟨Nat.le_of_ble_eq_true rfl, Nat.le_of_ble_eq_true rfl⟩) hK hP hD hS hA rfl hl.1 rfl (Nat.le_of_ble_eq_true rfl) ⟨Nat.zero_le _, Nat.zero_le _⟩ dX1_follow_15 (fun H locs hP hD hS => ?_)
  exact W.iret hx hb hr (fun t ht hW => ⟨⟨_, (), rfl, rfl, by show gP E _ t.heap; rw [ht]; exact hP⟩, hS.F ht⟩) hS.2.2 dX1_follow_18
