/-! the law's walk: what holds at the head of its loop, and its calls -/
def LA (s : State) : Nat → Prop := fun q => s.heap.size ≤ q
def LI (s : State) (E : GE) (a b2 : Nat → Nat) (q9 : Nat) (σ : GS) (τ : MS) (f : Nat → Int64) (H : Heap) (locs : List Loc) : Prop := gP E (gO E a σ q9 f) H ∧ gP E (mW E b2 τ) H ∧ va_D (LA s) (gO E a σ q9 f ++ mW E b2 τ) ∧ va_S (LA s) s.heap H locs
def LC (p : Program) (l : Launch) (s : State) (m : MethodId) (c : Code) (b L : Nat) (xs : Nat → Int32) (E : GE) : Prop := CallFix p m c cL_law 9 s #[Value.ref b] wsL_law RL ∧ gK E s ∧ gZh s s.heap ∧ gNc s ∧ va_X b L xs s s.heap ∧ b < s.heap.size ∧ L ≤ 2048 ∧ l.stackTraces = false
theorem LA_sz {s : State} : ∀ q : Nat, s.heap.size ≤ q → LA s q := fun _ h => h
theorem dj_l {A : Nat → Prop} {w1 w2 : va_W} {sz : Nat} (hD : va_D A (w1 ++ w2)) {k : Nat} {q : Nat × va_E} (hk : w2[k]? = some q) (hlt : q.1 < sz) : ¬ va_A w1 sz q.1 := by
  rintro (⟨j, e, hj⟩ | h)
  · have hj1 := (List.getElem?_eq_some_iff.mp hj).1
    have := hD.1 j (w1.length + k) (q.1, e) q (by rw [List.getElem?_append_left hj1]; exact hj) (by rw [List.getElem?_append_right (by omega), Nat.add_sub_cancel_left]; exact hk) rfl
    omega
  · omega
theorem dj_r {A : Nat → Prop} {w1 w2 : va_W} {sz : Nat} (hD : va_D A (w1 ++ w2)) {k : Nat} {q : Nat × va_E} (hk : w1[k]? = some q) (hlt : q.1 < sz) : ¬ va_A w2 sz q.1 := by
  rintro (⟨j, e, hj⟩ | h)
  · have hk1 := (List.getElem?_eq_some_iff.mp hk).1
    have := hD.1 k (w1.length + j) q (q.1, e) (by rw [List.getElem?_append_left hk1]; exact hk) (by rw [List.getElem?_append_right (by omega), Nat.add_sub_cancel_left]; exact hj) rfl
    omega
  · omega
theorem D_l {A : Nat → Prop} {w1 w2 : va_W} (hD : va_D A (w1 ++ w2)) : va_D A w1 := by
  refine ⟨fun i j p q hi hj e => hD.1 i j p q ?_ ?_ e, fun k q hk => hD.2 k q ?_⟩
  · rw [List.getElem?_append_left (List.getElem?_eq_some_iff.mp hi).1]; exact hi
  · rw [List.getElem?_append_left (List.getElem?_eq_some_iff.mp hj).1]; exact hj
  · rw [List.getElem?_append_left (List.getElem?_eq_some_iff.mp hk).1]; exact hk
theorem D_r {A : Nat → Prop} {w1 w2 : va_W} (hD : va_D A (w1 ++ w2)) : va_D A w2 := by
  have g : ∀ (i : Nat) (p : Nat × va_E), w2[i]? = some p → (w1 ++ w2)[w1.length + i]? = some p := fun i p hi => by
    rw [List.getElem?_append_right (by omega), Nat.add_sub_cancel_left]; exact hi
  refine ⟨fun i j p q hi hj e => ?_, fun k q hk => hD.2 _ q (g k q hk)⟩
  have := hD.1 _ _ p q (g i p hi) (g j q hj) e
  omega
theorem lg_self (x : Int64) : lg_cmp x x = 0 := (lg_cmp_eq x x).mpr rfl
section LAWC
variable {p : Program} {l : Launch} {e : Env} {R : Room} {s : State} {m : MethodId} {args : Array Value} {below : List Frame} {meth : Method} {c : Code} {H : Heap} {locs : List Loc} {cells slots : Nat} {Q : State → Prop}
variable {cc bytes : ByteArray} {pc nL maxL n index mc ms : Nat} {ls : Array Slot} {rest st0 : List Value} {E : GE} {Ts wl : List Cond} {y : MethodName} {ret : Option FieldType} {hh : List (Nat × Nat × Nat × Nat)} {rm : Room} {a b2 : Nat → Nat} {σ σ' : GS} {τ τ' : MS} {As : List Value} {f f' : Nat → Int64} {q9 : Nat}
/-- the law's own method -/
theorem l_own {k : Int32} (S : CallFix p m c cc nL s args Ts RL) (hM : ∀ sz, Met l y wl rm (va_Pc As (gBy E sz (gO E a σ q9 f))) (gQi E k (gO E a σ q9 f) (gO E a σ' q9 f') sz) 1 6 (va_A (gO E a σ q9 f) sz)) (cw : vx_CSW R s args RL index y bytes maxL ret hh wl rm 1 6 n) (hK : gK E s) (hZ : gZh s s.heap) (hN : gNc s) (hI : LI s E a b2 q9 σ τ f H locs)
    (hn : As.length = n) (hsize : ls.size = nL) (hstack : st0 = As.reverse ++ rest) (hW : (rest.map fun v => v.category).sum ≤ 8) (hf : cells + 1 ≤ R.cells ∧ slots + 6 ≤ R.slots) (hdg : decode cc pc = .ok (.invokestatic index, 3))
    (kk : ∀ (H1 : Heap) (locs1 : List Loc), LI s E a b2 q9 σ' τ f' H1 locs1 → W p l e R s m args below meth c H1 locs1 (cells + 1) (slots + 6) Q (F0 m (pc + 3) ls (.int k :: rest))) : W p l e R s m args below meth c H locs cells slots Q (F0 m pc ls st0) := by
  obtain ⟨hO, hM2, hD, hS⟩ := hI
  exact va_calli (vx_runSW S (hM H.size) cw (gBy_preS hO hK (D_l hD) (hZ.kept (fun q h => hS.2.1 q h (Nat.not_le.mpr h))) hN As) rfl hn hsize hstack (lv_room hW) hdg hf) hS (fun q _ h => va_A_in (D_l hD) hS LA_sz q h) (va_A_in (D_l hD) hS LA_sz) (fun r _ t H1 locs1 ht _ hr hB _ hq hS1 => by
    rw [hr]
    exact kk H1 locs1 ⟨by rw [← ht]; exact hB, hM2.kept (fun k q hk => hq q.1 (vx_lt hM2 hk) (dj_l hD hk (vx_lt hM2 hk))), va_D_fst hD rfl, hS1⟩)
/-- the reference's method -/
theorem l_ref {v : Int32} (S : CallFix p m c cc nL s args Ts RL) (hM : ∀ sz, Met l y wl rm (va_Pc (.ref (b2 0) :: As) (gBw E sz (mW E b2 τ))) (gQi E v (mW E b2 τ) (mW E b2 τ') sz) 0 0 (va_A (mW E b2 τ) sz)) (cw : CallW R s args RL RX1 index y bytes maxL ret wl rm 0 0 n) (hK : gK E s) (hI : LI s E a b2 q9 σ τ f H locs)
    (hn : As.length = n) (hsize : ls.size = nL) (hstack : st0 = As.reverse ++ .ref (b2 0) :: rest) (hW : (rest.map fun v => v.category).sum ≤ 8) (hf : cells ≤ R.cells ∧ slots ≤ R.slots) (hdg : decode cc pc = .ok (.invokevirtual index, 3))
    (kk : ∀ (H1 : Heap) (locs1 : List Loc), LI s E a b2 q9 σ τ' f H1 locs1 → W p l e R s m args below meth c H1 locs1 cells slots Q (F0 m (pc + 3) ls (.int v :: rest))) : W p l e R s m args below meth c H locs cells slots Q (F0 m pc ls st0) := by
  obtain ⟨hO, hM2, hD, hS⟩ := hI
  exact va_calli (va_runV S (hM H.size) cw (gBw_preV (ci := 1) (q0 := 0) (q := (RX1, TX1, 13)) (fs := mF b2 τ) hM2 hK (D_r hD) rfl rfl As) rfl hn hsize hstack (lv_room hW) hdg hf) hS (fun q _ h => va_A_in (D_r hD) hS LA_sz q h) (va_A_in (D_r hD) hS LA_sz) (fun r _ t H1 locs1 ht _ hr hB _ hq hS1 => by
    rw [hr]
    exact kk H1 locs1 ⟨hO.kept (fun k q hk => hq q.1 (vx_lt hO hk) (dj_r hD hk (vx_lt hO hk))), by rw [← ht]; exact hB, va_D_fst hD rfl, hS1⟩)
theorem l_refl {v : Int64} (S : CallFix p m c cc nL s args Ts RL) (hM : ∀ sz, Met l y wl rm (va_Pc (.ref (b2 0) :: As) (gBw E sz (mW E b2 τ))) (gQl E v (mW E b2 τ) (mW E b2 τ') sz) mc ms (va_A (mW E b2 τ) sz)) (cw : CallW R s args RL RX1 index y bytes maxL ret wl rm mc ms n) (hK : gK E s) (hI : LI s E a b2 q9 σ τ f H locs)
    (hn : As.length = n) (hsize : ls.size = nL) (hstack : st0 = As.reverse ++ .ref (b2 0) :: rest) (hW : (rest.map fun v => v.category).sum ≤ 8) (hf : cells + mc ≤ R.cells ∧ slots + ms ≤ R.slots) (hdg : decode cc pc = .ok (.invokevirtual index, 3))
    (kk : ∀ (H1 : Heap) (locs1 : List Loc), LI s E a b2 q9 σ τ' f H1 locs1 → W p l e R s m args below meth c H1 locs1 (cells + mc) (slots + ms) Q (F0 m (pc + 3) ls (.long v :: rest))) : W p l e R s m args below meth c H locs cells slots Q (F0 m pc ls st0) := by
  obtain ⟨hO, hM2, hD, hS⟩ := hI
  exact va_calll (va_runV S (hM H.size) cw (gBw_preV (ci := 1) (q0 := 0) (q := (RX1, TX1, 13)) (fs := mF b2 τ) hM2 hK (D_r hD) rfl rfl As) rfl hn hsize hstack (lv_room hW) hdg hf) hS (fun q _ h => va_A_in (D_r hD) hS LA_sz q h) (va_A_in (D_r hD) hS LA_sz) (fun r _ t H1 locs1 ht _ hr hB _ hq hS1 => by
    rw [hr]
    exact kk H1 locs1 ⟨hO.kept (fun k q hk => hq q.1 (vx_lt hO hk) (dj_r hD hk (vx_lt hO hk))), by rw [← ht]; exact hB, va_D_fst hD rfl, hS1⟩)
theorem l_refd {v : UInt64} (S : CallFix p m c cc nL s args Ts RL) (hM : ∀ sz, Met l y wl rm (va_Pc (.ref (b2 0) :: As) (gBw E sz (mW E b2 τ))) (gQd E v (mW E b2 τ) (mW E b2 τ') sz) 0 0 (va_A (mW E b2 τ) sz)) (cw : CallW R s args RL RX1 index y bytes maxL ret wl rm 0 0 n) (hK : gK E s) (hI : LI s E a b2 q9 σ τ f H locs)
    (hn : As.length = n) (hsize : ls.size = nL) (hstack : st0 = As.reverse ++ .ref (b2 0) :: rest) (hW : (rest.map fun v => v.category).sum ≤ 8) (hf : cells ≤ R.cells ∧ slots ≤ R.slots) (hdg : decode cc pc = .ok (.invokevirtual index, 3))
    (kk : ∀ (H1 : Heap) (locs1 : List Loc), LI s E a b2 q9 σ τ' f H1 locs1 → W p l e R s m args below meth c H1 locs1 cells slots Q (F0 m (pc + 3) ls (.double v :: rest))) : W p l e R s m args below meth c H locs cells slots Q (F0 m pc ls st0) := by
  obtain ⟨hO, hM2, hD, hS⟩ := hI
  exact va_calld (va_runV S (hM H.size) cw (gBw_preV (ci := 1) (q0 := 0) (q := (RX1, TX1, 13)) (fs := mF b2 τ) hM2 hK (D_r hD) rfl rfl As) rfl hn hsize hstack (lv_room hW) hdg hf) hS (fun q _ h => va_A_in (D_r hD) hS LA_sz q h) (va_A_in (D_r hD) hS LA_sz) (fun r _ t H1 locs1 ht _ hr hB _ hq hS1 => by
    rw [hr]
    exact kk H1 locs1 ⟨hO.kept (fun k q hk => hq q.1 (vx_lt hO hk) (dj_r hD hk (vx_lt hO hk))), by rw [← ht]; exact hB, va_D_fst hD rfl, hS1⟩)
theorem g0d {v : UInt64} (S : CallFix p m c cc nL s args Ts RL) (hM : Met l y wl rm (va_Pc (.ref (a 0) :: As) (gB E (gW E a σ))) (vp_Sd (fun r => r = v)) 0 0 (fun _ => False)) (cw : CallW R s args RL RX0 index y bytes maxL ret wl rm 0 0 n) (hK : gK E s) (hP : gP E (gW E a σ) H)
    (hn : As.length = n) (hsize : ls.size = nL) (hstack : st0 = As.reverse ++ .ref (a 0) :: rest) (hW : (rest.map fun v => v.category).sum ≤ 8) (hf : cells ≤ R.cells ∧ slots ≤ R.slots) (hdg : decode cc pc = .ok (.invokevirtual index, 3))
    (kk : W p l e R s m args below meth c H locs cells slots Q (F0 m (pc + 3) ls (.double v :: rest))) : W p l e R s m args below meth c H locs cells slots Q (F0 m pc ls st0) :=
  vp_callSd (W.runV S hM cw (gB_preV (ci := 0) (q0 := 0) (q := (RX0, TX0, 18)) (fs := gF a σ) hP hK rfl rfl As) rfl hn hsize hstack (lv_room hW) hdg hf) (fun _ h => h ▸ kk)
end LAWC
/-- the bounds of a mean -/
theorem mean_b {σ : GS} {τ : MS} (h : RR σ τ) : ∀ n, n ≤ mn τ → ∃ c s, sumI (fun p => b2i (mGd τ p)) n = nI c ∧ sumI (fun p => if mGd τ p then md τ p else 0) n = nI s ∧ c ≤ n ∧ s ≤ 20 * c
  | 0, _ => ⟨0, 0, rfl, rfl, Nat.le_refl _, Nat.zero_le _⟩
  | n + 1, hn => by
    obtain ⟨c, s, e1, e2, h1, h2⟩ := mean_b h n (by omega)
    rw [sumI, sumI, e1, e2]
    by_cases g : mGd τ n = true
    · have ff : mf τ n = false := by rw [mGd] at g; cases q : mf τ n <;> rw [q] at g <;> first | rfl | cases g
      obtain ⟨_, _, _, _, _, a6, _⟩ := h.e (p := n) (by omega) ff
      obtain q | ⟨x, q1, q2⟩ := a6
      · rw [mGd, ff, q] at g; cases g
      · refine ⟨c + 1, s + x, ?_, ?_, by omega, by omega⟩
        · rw [g]; exact nI_1 c
        · rw [if_pos g, q2]; exact nI_add s x
    · have g := ts_nt g
      refine ⟨c, s, ?_, ?_, by omega, h2⟩
      · rw [g]; exact Int32.add_zero _
      · rw [if_neg (by rw [g]; decide)]; exact Int32.add_zero _
theorem RR.ne {σ : GS} {τ : MS} (h : RR σ τ) : ¬ mGn τ = 0 → vf_n64 (FP.ddiv (FP.i2d (mSum τ)) (FP.i2d (mGn τ))) := by
  intro q
  have n4 := h.1.1
  obtain ⟨c, s, e1, e2, h1, h2⟩ := mean_b h (mn τ) (Nat.le_refl _)
  rw [mGn, mSum, e1, e2]
  rw [mGn, e1] at q
  exact mg_n64 c (by omega) s (by omega) (by have : c ≠ 0 := fun z => q (by rw [z]; exact nI_0); omega) h2
