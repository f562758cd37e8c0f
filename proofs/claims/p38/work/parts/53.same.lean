theorem hinX1_isSame : ∀ w ∈ wsX10, w ∈ wsX1_isSame := fun w h => List.mem_cons_of_mem _ (List.mem_append_left _ (List.mem_append_left _ (List.mem_append_right _ h)))
theorem hdX1_isSame : yX1_isSame.cls = RX1 ∧ yX1_isSame.cls ≠ "java/lang/invoke/MethodHandle" ∧ yX1_isSame.cls ≠ "java/lang/invoke/VarHandle" ∧ (parseMethodDescriptor yX1_isSame.desc).map (fun d => d.parameters.length) = some 1 := by decide +kernel
/-! the law's comparison of both gardens -/
theorem isum_dn {f : Nat → Int32} {x z : Int32} {d : Nat} (h : x + sumI f (d + 1) = z) : x + f d + sumI f d = z := by
  rw [← h, sumI, Int32.add_assoc, Int32.add_comm (f d)]
theorem RR.nne {σ : GS} {τ : MS} (h : RR σ τ) (z : ¬ mGn τ = 0) : vf_n64 (FP.ddiv (FP.i2d (mSum τ)) (FP.i2d (mGn τ))) := by
  obtain ⟨c, s, e1, e2, h1, h2⟩ := h.mean
  rw [e1] at z
  rw [e1, e2]
  have : c ≠ 0 := fun q => z (by rw [q]; rfl)
  exact mg_n64 c (by omega) s (by omega) (by omega) h2
theorem RR.mcmp {σ : GS} {τ : MS} (h : RR σ τ) (z : ¬ mGn τ = 0) : Op.cmpValue (FP.dcmp (FP.ddiv (FP.i2d (mSum τ)) (FP.i2d (mGn τ))) (FP.ddiv (FP.i2d (mSum τ)) (FP.i2d (mGn τ)))) .l = 0 := by
  obtain ⟨c, s, e1, e2, h1, h2⟩ := h.mean
  rw [e1] at z
  rw [e1, e2]
  have : c ≠ 0 := fun q => z (by rw [q]; rfl)
  exact mg_cmp c (by omega) s (by omega) h2
section G0D
variable {p : Program} {l : Launch} {e : Env} {R : Room} {s : State} {m : MethodId} {args : Array Value} {below : List Frame} {meth : Method} {c : Code} {H : Heap} {locs : List Loc} {cells slots : Nat} {Q : State → Prop}
variable {cc bytes : ByteArray} {pc nL maxL n index : Nat} {ls : Array Slot} {rest st0 : List Value} {E : GE} {Ts wl : List Cond} {own : String} {y : MethodName} {ret : Option FieldType} {rm : Room} {a : Nat → Nat} {σ : GS} {As : List Value}
theorem g0d {v : UInt64} (S : CallFix p m c cc nL s args Ts own) (hM : Met l y wl rm (va_Pc (.ref (a 0) :: As) (gB E (gW E a σ))) (vp_Sd (fun r => r = v)) 0 0 (fun _ => False)) (cw : CallW R s args own RX0 index y bytes maxL ret wl rm 0 0 n) (hK : gK E s) (hP : gP E (gW E a σ) H)
    (hn : As.length = n) (hsize : ls.size = nL) (hstack : st0 = As.reverse ++ .ref (a 0) :: rest) (hW : (rest.map fun v => v.category).sum ≤ 8) (hf : cells ≤ R.cells ∧ slots ≤ R.slots) (hdg : decode cc pc = .ok (.invokevirtual index, 3))
    (kk : W p l e R s m args below meth c H locs cells slots Q (F0 m (pc + 3) ls (.double v :: rest))) : W p l e R s m args below meth c H locs cells slots Q (F0 m pc ls st0) :=
  vp_callSd (W.runV S hM cw (gB_preV (ci := 0) (q0 := 0) (q := (RX0, TX0, 18)) (fs := gF a σ) hP hK rfl rfl As) rfl hn hsize hstack (lv_room hW) hdg hf) (fun _ h => h ▸ kk)
end G0D
section SAME
variable {p : Program} {l : Launch} {e : Env} {s : State} {m : MethodId} {below : List Frame} {meth : Method} {c : Code} {E : GE} {a b : Nat → Nat} {σ : GS} {τ : MS}
abbrev sAV (a b : Nat → Nat) : List Value := [.ref (b 0), .ref (a 0)]
abbrev sBoth (E : GE) (a b : Nat → Nat) (σ : GS) (τ : MS) (H : Heap) : Prop := gP E (gW E a σ) H ∧ si_P E b τ H
def SC (p : Program) (s : State) (m : MethodId) (meth : Method) (c : Code) (E : GE) (a b : Nat → Nat) (σ : GS) (τ : MS) : Prop := CallFix p m c cX1_isSame 12 s (sAV a b).toArray wsX1_isSame RX1 ∧ meth.sig.returnType = some .boolean ∧ meth.locks = false ∧ gK E s ∧ gP E (gW E a σ) s.heap ∧ si_P E b τ s.heap ∧ RR σ τ ∧ RQ τ
abbrev sRm : Room := { frames := 6, cells := 7100, slots := 290000, locals := 136 }
abbrev sW (p : Program) (l : Launch) (e : Env) (s : State) (m : MethodId) (below : List Frame) (meth : Method) (c : Code) (a b : Nat → Nat) (H : Heap) (locs : List Loc) (cells slots pc : Nat) (ls : Array Slot) (st : List Value) : Prop := W p l e (headSpec wsX1_isSame sRm).room s m (sAV a b).toArray below meth c H locs cells slots (MQ below (gQN 1) (sAV a b).toArray s 7100 290000 (fun _ => False)) (F0 m pc ls st)
set_option maxHeartbeats 4000000 in
set_option maxRecDepth 100000 in
theorem same_f (hC : SC p s m meth c E a b σ τ) {d : Nat} (hd : d < mn τ) (hf : mf τ d = true) (hg : mGd τ d = false) {x2 x3 x6 x7 : Int32} {H : Heap} {locs : List Loc} {cells slots : Nat} {ls : Array Slot} (hS : va_S (nA s) s.heap H locs) (hcs : cells + 168 ≤ 6720) (hss : slots + 6720 ≤ 268800) (hrk : rkB σ τ (d + 1) (mn τ) (x6, x7)) (hl : lv_has ls 12 [(8, .int (nI d)), (7, .int x7), (6, .int x6), (5, .int 0), (4, .int 0), (3, .int x3), (2, .int x2), (1, .ref (a 0)), (0, .ref (b 0))]) (kk : ∀ (y2 y3 y6 y7 : Int32) (H : Heap) (locs : List Loc) (cl sl : Nat) (ls : Array Slot), y2 = x2 + 0 → y3 = x3 + 0 → rkB σ τ d (mn τ) (y6, y7) → va_S (nA s) s.heap H locs → cl ≤ cells + 168 → sl ≤ slots + 6720 → lv_has ls 12 [(8, .int (nI d + (-1))), (7, .int y7), (6, .int y6), (5, .int 0), (4, .int 0), (3, .int y3), (2, .int y2), (1, .ref (a 0)), (0, .ref (b 0))] → sW p l e s m below meth c a b H locs cl sl 25 ls []) : sW p l e s m below meth c a b H locs cells slots 25 ls [] := by
  obtain ⟨S, hr, hlocks, hK, hg0, hP0, h, q⟩ := id hC
  obtain ⟨hx, hb, hml, hown, hts⟩ := id S
  have hts1 := hinX1_isSame
  have n4 := h.1.1
  have k8 := h.1.2.1
  refine lv_iload hx hb dX1_isSame_25 (lv_at hl 0 rfl) ?_
  refine lv_if_lt (tgt := 303) hx hb dX1_isSame_27 (by decide) (fun q => absurd q ((nI_pos (by omega)))) (fun _ => ?_)
  refine lv_aload_n hx hb dX1_isSame_30 rfl (lv_at hl 8 rfl) ?_
  refine s_get hx hb hts hts1 hown hK (hP0.up (nA_up hS)) 0 (by decide) (by decide +kernel) rfl rfl dX1_isSame_31 ?_
  refine lv_iload hx hb dX1_isSame_34 (lv_at hl 0 rfl) ?_
  refine s_ald hx hb hK (si_p (hP0.up (nA_up hS))) (k := d) hd (by omega) rfl dX1_isSame_36 ?_
  refine lv_astore (lv' := [(9, .ref (b (3 + 2 * d))), (8, .int (nI d)), (7, .int x7), (6, .int x6), (5, .int 0), (4, .int 0), (3, .int x3), (2, .int x2), (1, .ref (a 0)), (0, .ref (b 0))]) hx hb dX1_isSame_37 hl (by decide) rfl (fun ls hl => ?_)
  refine lv_aload_n hx hb dX1_isSame_39 rfl (lv_at hl 9 rfl) ?_
  refine lv_iload hx hb dX1_isSame_40 (lv_at hl 1 rfl) ?_
  refine s0p (As := [.int (nI d)]) (rest := []) S (c_isFork l E b σ τ h d hd) (cwV 1 hts gX1_isSame_X1_isFork rfl rfl rfl hdX1_isFork ⟨Nat.le_of_ble_eq_true rfl, Nat.le_of_ble_eq_true rfl⟩) hK (hP0.up (nA_up hS)) rfl hl.1 rfl (Nat.le_of_ble_eq_true rfl) ⟨by show cells ≤ 7100; omega, by show slots ≤ 290000; omega⟩ dX1_isSame_42 ?_
  rw [hf]
  refine lv_istore (lv' := [(10, .int (b2i true)), (9, .ref (b (3 + 2 * d))), (8, .int (nI d)), (7, .int x7), (6, .int x6), (5, .int 0), (4, .int 0), (3, .int x3), (2, .int x2), (1, .ref (a 0)), (0, .ref (b 0))]) hx hb dX1_isSame_45 hl (by decide) rfl (fun ls hl => ?_)
  refine lv_iload_n hx hb dX1_isSame_47 rfl (lv_at hl 8 rfl) ?_
  refine lv_iload hx hb dX1_isSame_48 (lv_at hl 0 rfl) ?_
  refine lv_if_eq (tgt := 57) hx hb dX1_isSame_50 (by decide) (fun q => absurd q ((b2i_ne0.mpr rfl))) (fun _ => ?_)
  refine lv_iconst (v := 0) hx hb dX1_isSame_53 (by decide) ?_
  refine lv_goto (tgt := 58) hx hb dX1_isSame_54 (by decide) ?_
  refine lv_iadd hx hb dX1_isSame_58 ?_
  refine lv_istore_n (lv' := [(2, .int (x2 + 0)), (10, .int (b2i true)), (9, .ref (b (3 + 2 * d))), (8, .int (nI d)), (7, .int x7), (6, .int x6), (5, .int 0), (4, .int 0), (3, .int x3), (1, .ref (a 0)), (0, .ref (b 0))]) hx hb dX1_isSame_59 rfl hl (by decide) rfl (fun ls hl => ?_)
  refine lv_iload_n hx hb dX1_isSame_60 rfl (lv_at hl 8 rfl) ?_
  refine lv_aload_n hx hb dX1_isSame_61 rfl (lv_at hl 10 rfl) ?_
  refine lv_iload hx hb dX1_isSame_62 (lv_at hl 3 rfl) ?_
  refine s0p (As := [.int (nI d)]) (rest := [.int x3]) S (c_isGradedS l E b σ τ h d hd) (cwV 1 hts gX1_isSame_X1_isGraded rfl rfl rfl hdX1_isGraded ⟨Nat.le_of_ble_eq_true rfl, Nat.le_of_ble_eq_true rfl⟩) hK (hP0.up (nA_up hS)) rfl hl.1 rfl (Nat.le_of_ble_eq_true rfl) ⟨by show cells ≤ 7100; omega, by show slots ≤ 290000; omega⟩ dX1_isSame_64 ?_
  rw [hg]
  refine lv_if_eq (tgt := 77) hx hb dX1_isSame_67 (by decide) (fun _ => ?_) (fun q => absurd ((rfl : b2i false = 0)) q)
  refine lv_iconst (v := 0) hx hb dX1_isSame_77 (by decide) ?_
  refine lv_iadd hx hb dX1_isSame_78 ?_
  refine lv_istore_n (lv' := [(3, .int (x3 + 0)), (2, .int (x2 + 0)), (10, .int (b2i true)), (9, .ref (b (3 + 2 * d))), (8, .int (nI d)), (7, .int x7), (6, .int x6), (5, .int 0), (4, .int 0), (1, .ref (a 0)), (0, .ref (b 0))]) hx hb dX1_isSame_79 rfl hl (by decide) rfl (fun ls hl => ?_)
  refine lv_aload_n hx hb dX1_isSame_80 rfl (lv_at hl 9 rfl) ?_
  refine lv_iload hx hb dX1_isSame_81 (lv_at hl 4 rfl) ?_
  refine g0i (As := [.int (nI d)]) (rest := []) S (c_isExam l E a σ d (by rw [h.n]; exact n4) (by rw [h.n]; exact hd)) (cwV 1 hts gX1_isSame_X0_isExam rfl rfl rfl hdX0_isExam ⟨Nat.le_of_ble_eq_true rfl, Nat.le_of_ble_eq_true rfl⟩) hK (hg0.up (nA_up hS)) rfl hl.1 rfl (Nat.le_of_ble_eq_true rfl) ⟨by show cells ≤ 7100; omega, by show slots ≤ 290000; omega⟩ dX1_isSame_83 ?_
  rw [h.ex hd, hf]
  refine lv_iload hx hb dX1_isSame_86 (lv_at hl 2 rfl) ?_
  refine lv_icmp_eq (tgt := 153) hx hb dX1_isSame_88 (by decide) (fun q => absurd q ((by decide))) (fun _ => ?_)
  refine lv_aload_n hx hb dX1_isSame_91 rfl (lv_at hl 9 rfl) ?_
  refine lv_iload hx hb dX1_isSame_92 (lv_at hl 4 rfl) ?_
  refine g0i (As := [.int (nI d)]) (rest := []) S (c_sureGrade l E a σ d (by rw [h.n]; exact n4) (by rw [h.n]; exact hd)) (cwV 1 hts gX1_isSame_X0_sureGrade rfl rfl rfl hdX0_sureGrade ⟨Nat.le_of_ble_eq_true rfl, Nat.le_of_ble_eq_true rfl⟩) hK (hg0.up (nA_up hS)) rfl hl.1 rfl (Nat.le_of_ble_eq_true rfl) ⟨by show cells ≤ 7100; omega, by show slots ≤ 290000; omega⟩ dX1_isSame_94 ?_
  refine lv_aload_n hx hb dX1_isSame_97 rfl (lv_at hl 10 rfl) ?_
  refine lv_iload hx hb dX1_isSame_98 (lv_at hl 4 rfl) ?_
  refine lv_iconst (v := 0) hx hb dX1_isSame_100 (by decide) ?_
  refine s0i (As := [.int (nI d), .int (b2i false)]) (rest := [.int (gsu σ d)]) S (c_best l E b σ τ h d hd false) (cwV 2 hts gX1_isSame_X1_best rfl rfl rfl hdX1_best ⟨Nat.le_of_ble_eq_true rfl, Nat.le_of_ble_eq_true rfl⟩) hK (hP0.up (nA_up hS)) hS rfl hl.1 rfl (Nat.le_of_ble_eq_true rfl) ⟨by show cells + 1 ≤ 7100; omega, by show slots + 40 ≤ 290000; omega⟩ dX1_isSame_101 (fun H locs _ hkp hS => ?_)
  refine lv_icmp_ne (tgt := 153) hx hb dX1_isSame_104 (by decide) (fun q => absurd rfl q) (fun _ => ?_)
  refine lv_aload_n hx hb dX1_isSame_107 rfl (lv_at hl 9 rfl) ?_
  refine lv_iload hx hb dX1_isSame_108 (lv_at hl 4 rfl) ?_
  refine g0i (As := [.int (nI d)]) (rest := []) S (c_hope l E a σ d (by rw [h.n]; exact n4) (by rw [h.n]; exact hd)) (cwV 1 hts gX1_isSame_X0_hope rfl rfl rfl hdX0_hope ⟨Nat.le_of_ble_eq_true rfl, Nat.le_of_ble_eq_true rfl⟩) hK (hg0.up (nA_up hS)) rfl hl.1 rfl (Nat.le_of_ble_eq_true rfl) ⟨by show cells + 1 ≤ 7100; omega, by show slots + 40 ≤ 290000; omega⟩ dX1_isSame_110 ?_
  refine lv_aload_n hx hb dX1_isSame_113 rfl (lv_at hl 10 rfl) ?_
  refine lv_iload hx hb dX1_isSame_114 (lv_at hl 4 rfl) ?_
  refine lv_iconst (v := 1) hx hb dX1_isSame_116 (by decide) ?_
  refine s0i (As := [.int (nI d), .int (b2i true)]) (rest := [.int (gho σ d)]) S (c_best l E b σ τ h d hd true) (cwV 2 hts gX1_isSame_X1_best rfl rfl rfl hdX1_best ⟨Nat.le_of_ble_eq_true rfl, Nat.le_of_ble_eq_true rfl⟩) hK (hP0.up (nA_up hS)) hS rfl hl.1 rfl (Nat.le_of_ble_eq_true rfl) ⟨by show cells + 1 + 1 ≤ 7100; omega, by show slots + 40 + 40 ≤ 290000; omega⟩ dX1_isSame_117 (fun H locs _ hkp hS => ?_)
  refine lv_icmp_ne (tgt := 153) hx hb dX1_isSame_120 (by decide) (fun q => absurd rfl q) (fun _ => ?_)
  refine lv_aload_n hx hb dX1_isSame_123 rfl (lv_at hl 9 rfl) ?_
  refine lv_iload hx hb dX1_isSame_124 (lv_at hl 4 rfl) ?_
  refine g0i (As := [.int (nI d)]) (rest := []) S (c_examsFrom l E a σ d (by rw [h.n]; exact n4) (by rw [h.n]; exact hd)) (cwV 1 hts gX1_isSame_X0_examsFrom rfl rfl rfl hdX0_examsFrom ⟨Nat.le_of_ble_eq_true rfl, Nat.le_of_ble_eq_true rfl⟩) hK (hg0.up (nA_up hS)) rfl hl.1 rfl (Nat.le_of_ble_eq_true rfl) ⟨by show cells + 1 + 1 ≤ 7100; omega, by show slots + 40 + 40 ≤ 290000; omega⟩ dX1_isSame_126 ?_
  refine lv_aload_n hx hb dX1_isSame_129 rfl (lv_at hl 10 rfl) ?_
  refine lv_iload hx hb dX1_isSame_130 (lv_at hl 4 rfl) ?_
  refine s0i (As := [.int (nI d)]) (rest := [.int (gEf σ d)]) S (c_examsS l E b σ τ h d hd) (cwV 1 hts gX1_isSame_X1_exams rfl rfl rfl hdX1_exams ⟨Nat.le_of_ble_eq_true rfl, Nat.le_of_ble_eq_true rfl⟩) hK (hP0.up (nA_up hS)) hS rfl hl.1 rfl (Nat.le_of_ble_eq_true rfl) ⟨by show cells + 1 + 1 + 1 ≤ 7100; omega, by show slots + 40 + 40 + 40 ≤ 290000; omega⟩ dX1_isSame_132 (fun H locs _ hkp hS => ?_)
  refine lv_icmp_ne (tgt := 153) hx hb dX1_isSame_135 (by decide) (fun q => absurd rfl q) (fun _ => ?_)
  refine lv_aload_n hx hb dX1_isSame_138 rfl (lv_at hl 9 rfl) ?_
  refine lv_iload hx hb dX1_isSame_139 (lv_at hl 4 rfl) ?_
  refine g0i (As := [.int (nI d)]) (rest := []) S (c_planLeadsTo l E a σ h.gok d (by rw [h.n]; exact hd)) (cwV 1 hts gX1_isSame_X0_planLeadsTo rfl rfl rfl hdX0_planLeadsTo ⟨Nat.le_of_ble_eq_true rfl, Nat.le_of_ble_eq_true rfl⟩) hK (hg0.up (nA_up hS)) rfl hl.1 rfl (Nat.le_of_ble_eq_true rfl) ⟨by show cells + 1 + 1 + 1 ≤ 7100; omega, by show slots + 40 + 40 + 40 ≤ 290000; omega⟩ dX1_isSame_141 ?_
  refine lv_aload_n hx hb dX1_isSame_144 rfl (lv_at hl 10 rfl) ?_
  refine lv_iload hx hb dX1_isSame_145 (lv_at hl 4 rfl) ?_
  refine s0i (As := [.int (nI d)]) (rest := [.int (nI (gLd σ 40 d))]) S (c_end l E b σ τ h d hd) (cwV 1 hts gX1_isSame_X1_end rfl rfl rfl hdX1_end ⟨Nat.le_of_ble_eq_true rfl, Nat.le_of_ble_eq_true rfl⟩) hK (hP0.up (nA_up hS)) hS rfl hl.1 rfl (Nat.le_of_ble_eq_true rfl) ⟨by show cells + 1 + 1 + 1 + 160 ≤ 7100; omega, by show slots + 40 + 40 + 40 + 6400 ≤ 290000; omega⟩ dX1_isSame_147 (fun H locs _ hkp hS => ?_)
  refine lv_icmp_eq (tgt := 155) hx hb dX1_isSame_150 (by decide) (fun _ => ?_) (fun q => absurd rfl q)
  refine lv_iload hx hb dX1_isSame_155 (lv_at hl 2 rfl) ?_
  refine lv_if_ne (tgt := 196) hx hb dX1_isSame_157 (by decide) (fun _ => ?_) (fun q => absurd q ((b2i_ne0.mpr rfl)))
  refine lv_iload hx hb dX1_isSame_196 (lv_at hl 2 rfl) ?_
  refine lv_if_ne (tgt := 204) hx hb dX1_isSame_198 (by decide) (fun _ => ?_) (fun q => absurd q ((b2i_ne0.mpr rfl)))
  refine lv_aload_n hx hb dX1_isSame_204 rfl (lv_at hl 9 rfl) ?_
  refine lv_iload hx hb dX1_isSame_205 (lv_at hl 4 rfl) ?_
  refine g0i (As := [.int (nI d)]) (rest := []) S (c_leftOf l E a σ d (by rw [h.n]; exact n4) (by rw [h.n]; exact hd) (by rw [h.ex hd, hf]; rfl)) (cwV 1 hts gX1_isSame_X0_leftOf rfl rfl rfl hdX0_leftOf ⟨Nat.le_of_ble_eq_true rfl, Nat.le_of_ble_eq_true rfl⟩) hK (hg0.up (nA_up hS)) rfl hl.1 rfl (Nat.le_of_ble_eq_true rfl) ⟨by show cells + 1 + 1 + 1 + 160 ≤ 7100; omega, by show slots + 40 + 40 + 40 + 6400 ≤ 290000; omega⟩ dX1_isSame_207 ?_
  refine lv_aload hx hb dX1_isSame_210 (lv_at hl 3 rfl) ?_
  refine lv_iconst (v := 1) hx hb dX1_isSame_212 (by decide) ?_
  refine s_ild hx hb hK (si_r (hP0.up (nA_up hS)) (p := d) hd) (k := 1) (by decide) (by decide) (v := nI (mo τ d)) rfl dX1_isSame_213 ?_
  refine lv_icmp_ne (tgt := 258) hx hb dX1_isSame_214 (by decide) (fun q => absurd ((congrArg nI (h.f hf).1)) q) (fun _ => ?_)
  refine lv_aload_n hx hb dX1_isSame_217 rfl (lv_at hl 9 rfl) ?_
  refine lv_iload hx hb dX1_isSame_218 (lv_at hl 4 rfl) ?_
  refine g0i (As := [.int (nI d)]) (rest := []) S (c_rightOf l E a σ d (by rw [h.n]; exact n4) (by rw [h.n]; exact hd) (by rw [h.ex hd, hf]; rfl)) (cwV 1 hts gX1_isSame_X0_rightOf rfl rfl rfl hdX0_rightOf ⟨Nat.le_of_ble_eq_true rfl, Nat.le_of_ble_eq_true rfl⟩) hK (hg0.up (nA_up hS)) rfl hl.1 rfl (Nat.le_of_ble_eq_true rfl) ⟨by show cells + 1 + 1 + 1 + 160 ≤ 7100; omega, by show slots + 40 + 40 + 40 + 6400 ≤ 290000; omega⟩ dX1_isSame_220 ?_
  refine lv_aload hx hb dX1_isSame_223 (lv_at hl 3 rfl) ?_
  refine lv_iconst (v := 2) hx hb dX1_isSame_225 (by decide) ?_
  refine s_ild hx hb hK (si_r (hP0.up (nA_up hS)) (p := d) hd) (k := 2) (by decide) (by decide) (v := nI (mh τ d)) rfl dX1_isSame_226 ?_
  refine lv_icmp_ne (tgt := 258) hx hb dX1_isSame_227 (by decide) (fun q => absurd ((congrArg nI (h.f hf).2.1)) q) (fun _ => ?_)
  refine lv_aload_n hx hb dX1_isSame_230 rfl (lv_at hl 9 rfl) ?_
  refine lv_iload hx hb dX1_isSame_231 (lv_at hl 4 rfl) ?_
  refine g0i (As := [.int (nI d)]) (rest := []) S (c_weightOf l E a σ d (by rw [h.n]; exact n4) (by rw [h.n]; exact hd) (by rw [h.ex hd, hf]; rfl)) (cwV 1 hts gX1_isSame_X0_weightOf rfl rfl rfl hdX0_weightOf ⟨Nat.le_of_ble_eq_true rfl, Nat.le_of_ble_eq_true rfl⟩) hK (hg0.up (nA_up hS)) rfl hl.1 rfl (Nat.le_of_ble_eq_true rfl) ⟨by show cells + 1 + 1 + 1 + 160 ≤ 7100; omega, by show slots + 40 + 40 + 40 + 6400 ≤ 290000; omega⟩ dX1_isSame_233 ?_
  refine lv_aload hx hb dX1_isSame_236 (lv_at hl 3 rfl) ?_
  refine lv_iconst (v := 3) hx hb dX1_isSame_238 (by decide) ?_
  refine s_ild hx hb hK (si_r (hP0.up (nA_up hS)) (p := d) hd) (k := 3) (by decide) (by decide) (v := md τ d) rfl dX1_isSame_239 ?_
  refine lv_icmp_ne (tgt := 258) hx hb dX1_isSame_240 (by decide) (fun q => absurd ((h.f hf).2.2.2.2.1) q) (fun _ => ?_)
  refine lv_aload_n hx hb dX1_isSame_243 rfl (lv_at hl 9 rfl) ?_
  refine lv_iload hx hb dX1_isSame_244 (lv_at hl 4 rfl) ?_
  refine g0i (As := [.int (nI d)]) (rest := []) S (c_hindsight l E a σ d (by rw [h.n]; exact n4) (by rw [h.n]; exact hd) (by rw [h.ex hd, hf]; rfl)) (cwV 1 hts gX1_isSame_X0_hindsight rfl rfl rfl hdX0_hindsight ⟨Nat.le_of_ble_eq_true rfl, Nat.le_of_ble_eq_true rfl⟩) hK (hg0.up (nA_up hS)) rfl hl.1 rfl (Nat.le_of_ble_eq_true rfl) ⟨by show cells + 1 + 1 + 1 + 160 ≤ 7100; omega, by show slots + 40 + 40 + 40 + 6400 ≤ 290000; omega⟩ dX1_isSame_246 ?_
  refine lv_aload_n hx hb dX1_isSame_249 rfl (lv_at hl 10 rfl) ?_
  refine lv_iload hx hb dX1_isSame_250 (lv_at hl 4 rfl) ?_
  refine s0i (As := [.int (nI d)]) (rest := [.int (ghs σ d)]) S (c_hindsightS l E b σ τ h d hd hf) (cwV 1 hts gX1_isSame_X1_hindsight rfl rfl rfl hdX1_hindsight ⟨Nat.le_of_ble_eq_true rfl, Nat.le_of_ble_eq_true rfl⟩) hK (hP0.up (nA_up hS)) hS rfl hl.1 rfl (Nat.le_of_ble_eq_true rfl) ⟨by show cells + 1 + 1 + 1 + 160 + 1 ≤ 7100; omega, by show slots + 40 + 40 + 40 + 6400 + 40 ≤ 290000; omega⟩ dX1_isSame_252 (fun H locs _ hkp hS => ?_)
  refine lv_icmp_eq (tgt := 260) hx hb dX1_isSame_255 (by decide) (fun _ => ?_) (fun q => absurd rfl q)
  refine lv_aload_n hx hb dX1_isSame_260 rfl (lv_at hl 10 rfl) ?_
  refine lv_iload hx hb dX1_isSame_261 (lv_at hl 4 rfl) ?_
  refine lv_iconst (v := 0) hx hb dX1_isSame_263 (by decide) ?_
  refine s0i (As := [.int (nI d), .int (b2i false)]) (rest := []) S (c_riskS l E b σ τ h d hd hf false) (cwV 2 hts gX1_isSame_X1_risk rfl rfl rfl hdX1_risk ⟨Nat.le_of_ble_eq_true rfl, Nat.le_of_ble_eq_true rfl⟩) hK (hP0.up (nA_up hS)) hS rfl hl.1 rfl (Nat.le_of_ble_eq_true rfl) ⟨by show cells + 1 + 1 + 1 + 160 + 1 + 2 ≤ 7100; omega, by show slots + 40 + 40 + 40 + 6400 + 40 + 80 ≤ 290000; omega⟩ dX1_isSame_264 (fun H locs _ hkp hS => ?_)
  refine lv_aload_n hx hb dX1_isSame_267 rfl (lv_at hl 10 rfl) ?_
  refine lv_iload hx hb dX1_isSame_268 (lv_at hl 4 rfl) ?_
  refine lv_iconst (v := 1) hx hb dX1_isSame_270 (by decide) ?_
  refine s0i (As := [.int (nI d), .int (b2i true)]) (rest := [.int (gRisk σ d false)]) S (c_riskS l E b σ τ h d hd hf true) (cwV 2 hts gX1_isSame_X1_risk rfl rfl rfl hdX1_risk ⟨Nat.le_of_ble_eq_true rfl, Nat.le_of_ble_eq_true rfl⟩) hK (hP0.up (nA_up hS)) hS rfl hl.1 rfl (Nat.le_of_ble_eq_true rfl) ⟨by show cells + 1 + 1 + 1 + 160 + 1 + 2 + 2 ≤ 7100; omega, by show slots + 40 + 40 + 40 + 6400 + 40 + 80 + 80 ≤ 290000; omega⟩ dX1_isSame_271 (fun H locs _ hkp hS => ?_)
  refine g_min hx hb (hml.trans hl.1.symm) hown (hts (.methodLink RX1 87 Lib.Math.min.name) (by decide +kernel)) (hts (.static Lib.Math.min.name) (by decide +kernel)) (hts (.initialized "java/lang/Math") (by decide +kernel)) (hts (.code Lib.Math.min.name Lib.Math.min.code 2 (some .int)) (by decide +kernel)) (Nat.le_of_ble_eq_true rfl) (Nat.le_of_ble_eq_true rfl) ⟨by show cells + 1 + 1 + 1 + 160 + 1 + 2 + 2 ≤ 7100; omega, by show slots + 40 + 40 + 40 + 6400 + 40 + 80 + 80 ≤ 290000; omega⟩ dX1_isSame_274 ?_
  refine lv_istore (lv' := [(11, .int (imn (gRisk σ d false) (gRisk σ d true))), (3, .int (x3 + 0)), (2, .int (x2 + 0)), (10, .int (b2i true)), (9, .ref (b (3 + 2 * d))), (8, .int (nI d)), (7, .int x7), (6, .int x6), (5, .int 0), (4, .int 0), (1, .ref (a 0)), (0, .ref (b 0))]) hx hb dX1_isSame_277 hl (by decide) rfl (fun ls hl => ?_)
  refine lv_iload hx hb dX1_isSame_279 (lv_at hl 0 rfl) ?_
  refine lv_iload hx hb dX1_isSame_281 (lv_at hl 6 rfl) ?_
  refine lv_icmp_ge (tgt := 289) hx hb dX1_isSame_283 (by decide) (fun c283 => ?_) (fun c283 => ?_)
  · refine lv_iload hx hb dX1_isSame_289 (lv_at hl 5 rfl) ?_
    refine lv_istore (lv' := [(6, .int (nI d)), (11, .int (imn (gRisk σ d false) (gRisk σ d true))), (3, .int (x3 + 0)), (2, .int (x2 + 0)), (10, .int (b2i true)), (9, .ref (b (3 + 2 * d))), (8, .int (nI d)), (7, .int x7), (5, .int 0), (4, .int 0), (1, .ref (a 0)), (0, .ref (b 0))]) hx hb dX1_isSame_291 hl (by decide) rfl (fun ls hl => ?_)
    refine lv_iload hx hb dX1_isSame_293 (lv_at hl 1 rfl) ?_
    refine lv_istore (lv' := [(7, .int (imn (gRisk σ d false) (gRisk σ d true))), (6, .int (nI d)), (11, .int (imn (gRisk σ d false) (gRisk σ d true))), (3, .int (x3 + 0)), (2, .int (x2 + 0)), (10, .int (b2i true)), (9, .ref (b (3 + 2 * d))), (8, .int (nI d)), (5, .int 0), (4, .int 0), (1, .ref (a 0)), (0, .ref (b 0))]) hx hb dX1_isSame_295 hl (by decide) rfl (fun ls hl => ?_)
    refine lv_iinc (v := nI d + -1) (lv' := [(8, .int (nI d + -1)), (7, .int (imn (gRisk σ d false) (gRisk σ d true))), (6, .int (nI d)), (11, .int (imn (gRisk σ d false) (gRisk σ d true))), (3, .int (x3 + 0)), (2, .int (x2 + 0)), (10, .int (b2i true)), (9, .ref (b (3 + 2 * d))), (5, .int 0), (4, .int 0), (1, .ref (a 0)), (0, .ref (b 0))]) hx hb dX1_isSame_297 hl (k := 7) rfl rfl (by decide) rfl (fun ls hl => ?_)
    refine lv_goto (tgt := 25) hx hb dX1_isSame_300 (by decide) ?_
    exact kk _ _ _ _ H locs _ _ ls rfl rfl (RR.rkB_ge (σ := σ) hd hrk hf c283) hS (by omega) (by omega) (lv_sub hl [0, 1, 2, 8, 9, 4, 5, 10, 11] rfl)
  · refine lv_goto (tgt := 297) hx hb dX1_isSame_286 (by decide) ?_
    refine lv_iinc (v := nI d + -1) (lv' := [(8, .int (nI d + -1)), (11, .int (imn (gRisk σ d false) (gRisk σ d true))), (3, .int (x3 + 0)), (2, .int (x2 + 0)), (10, .int (b2i true)), (9, .ref (b (3 + 2 * d))), (7, .int x7), (6, .int x6), (5, .int 0), (4, .int 0), (1, .ref (a 0)), (0, .ref (b 0))]) hx hb dX1_isSame_297 hl (k := 5) rfl rfl (by decide) rfl (fun ls hl => ?_)
    refine lv_goto (tgt := 25) hx hb dX1_isSame_300 (by decide) ?_
    exact kk _ _ _ _ H locs _ _ ls rfl rfl (h.rkB_lt q (Nat.le_refl _) hd hrk hf (Int32.not_le.mp c283)) hS (by omega) (by omega) (lv_sub hl [0, 6, 7, 8, 9, 2, 3, 10, 11] rfl)
set_option maxHeartbeats 4000000 in
set_option maxRecDepth 100000 in
theorem same_g (hC : SC p s m meth c E a b σ τ) {d : Nat} (hd : d < mn τ) (hf : mf τ d = false) (hg : mGd τ d = true) (hu : ¬ md τ d < 0) {x2 x3 x6 x7 : Int32} {H : Heap} {locs : List Loc} {cells slots : Nat} {ls : Array Slot} (hS : va_S (nA s) s.heap H locs) (hcs : cells + 168 ≤ 6720) (hss : slots + 6720 ≤ 268800) (hrk : rkB σ τ (d + 1) (mn τ) (x6, x7)) (hl : lv_has ls 12 [(8, .int (nI d)), (7, .int x7), (6, .int x6), (5, .int 0), (4, .int 0), (3, .int x3), (2, .int x2), (1, .ref (a 0)), (0, .ref (b 0))]) (kk : ∀ (y2 y3 y6 y7 : Int32) (H : Heap) (locs : List Loc) (cl sl : Nat) (ls : Array Slot), y2 = x2 + 1 → y3 = x3 + md τ d → rkB σ τ d (mn τ) (y6, y7) → va_S (nA s) s.heap H locs → cl ≤ cells + 168 → sl ≤ slots + 6720 → lv_has ls 12 [(8, .int (nI d + (-1))), (7, .int y7), (6, .int y6), (5, .int 0), (4, .int 0), (3, .int y3), (2, .int y2), (1, .ref (a 0)), (0, .ref (b 0))] → sW p l e s m below meth c a b H locs cl sl 25 ls []) : sW p l e s m below meth c a b H locs cells slots 25 ls [] := by
  obtain ⟨S, hr, hlocks, hK, hg0, hP0, h, q⟩ := id hC
  obtain ⟨hx, hb, hml, hown, hts⟩ := id S
  have hts1 := hinX1_isSame
  have n4 := h.1.1
  have k8 := h.1.2.1
  refine lv_iload hx hb dX1_isSame_25 (lv_at hl 0 rfl) ?_
  refine lv_if_lt (tgt := 303) hx hb dX1_isSame_27 (by decide) (fun q => absurd q ((nI_pos (by omega)))) (fun _ => ?_)
  refine lv_aload_n hx hb dX1_isSame_30 rfl (lv_at hl 8 rfl) ?_
  refine s_get hx hb hts hts1 hown hK (hP0.up (nA_up hS)) 0 (by decide) (by decide +kernel) rfl rfl dX1_isSame_31 ?_
  refine lv_iload hx hb dX1_isSame_34 (lv_at hl 0 rfl) ?_
  refine s_ald hx hb hK (si_p (hP0.up (nA_up hS))) (k := d) hd (by omega) rfl dX1_isSame_36 ?_
  refine lv_astore (lv' := [(9, .ref (b (3 + 2 * d))), (8, .int (nI d)), (7, .int x7), (6, .int x6), (5, .int 0), (4, .int 0), (3, .int x3), (2, .int x2), (1, .ref (a 0)), (0, .ref (b 0))]) hx hb dX1_isSame_37 hl (by decide) rfl (fun ls hl => ?_)
  refine lv_aload_n hx hb dX1_isSame_39 rfl (lv_at hl 9 rfl) ?_
  refine lv_iload hx hb dX1_isSame_40 (lv_at hl 1 rfl) ?_
  refine s0p (As := [.int (nI d)]) (rest := []) S (c_isFork l E b σ τ h d hd) (cwV 1 hts gX1_isSame_X1_isFork rfl rfl rfl hdX1_isFork ⟨Nat.le_of_ble_eq_true rfl, Nat.le_of_ble_eq_true rfl⟩) hK (hP0.up (nA_up hS)) rfl hl.1 rfl (Nat.le_of_ble_eq_true rfl) ⟨by show cells ≤ 7100; omega, by show slots ≤ 290000; omega⟩ dX1_isSame_42 ?_
  rw [hf]
  refine lv_istore (lv' := [(10, .int (b2i false)), (9, .ref (b (3 + 2 * d))), (8, .int (nI d)), (7, .int x7), (6, .int x6), (5, .int 0), (4, .int 0), (3, .int x3), (2, .int x2), (1, .ref (a 0)), (0, .ref (b 0))]) hx hb dX1_isSame_45 hl (by decide) rfl (fun ls hl => ?_)
  refine lv_iload_n hx hb dX1_isSame_47 rfl (lv_at hl 8 rfl) ?_
  refine lv_iload hx hb dX1_isSame_48 (lv_at hl 0 rfl) ?_
  refine lv_if_eq (tgt := 57) hx hb dX1_isSame_50 (by decide) (fun _ => ?_) (fun q => absurd ((rfl : b2i false = 0)) q)
  refine lv_iconst (v := 1) hx hb dX1_isSame_57 (by decide) ?_
  refine lv_iadd hx hb dX1_isSame_58 ?_
  refine lv_istore_n (lv' := [(2, .int (x2 + 1)), (10, .int (b2i false)), (9, .ref (b (3 + 2 * d))), (8, .int (nI d)), (7, .int x7), (6, .int x6), (5, .int 0), (4, .int 0), (3, .int x3), (1, .ref (a 0)), (0, .ref (b 0))]) hx hb dX1_isSame_59 rfl hl (by decide) rfl (fun ls hl => ?_)
  refine lv_iload_n hx hb dX1_isSame_60 rfl (lv_at hl 8 rfl) ?_
  refine lv_aload_n hx hb dX1_isSame_61 rfl (lv_at hl 10 rfl) ?_
  refine lv_iload hx hb dX1_isSame_62 (lv_at hl 3 rfl) ?_
  refine s0p (As := [.int (nI d)]) (rest := [.int x3]) S (c_isGradedS l E b σ τ h d hd) (cwV 1 hts gX1_isSame_X1_isGraded rfl rfl rfl hdX1_isGraded ⟨Nat.le_of_ble_eq_true rfl, Nat.le_of_ble_eq_true rfl⟩) hK (hP0.up (nA_up hS)) rfl hl.1 rfl (Nat.le_of_ble_eq_true rfl) ⟨by show cells ≤ 7100; omega, by show slots ≤ 290000; omega⟩ dX1_isSame_64 ?_
  rw [hg]
  refine lv_if_eq (tgt := 77) hx hb dX1_isSame_67 (by decide) (fun q => absurd q ((b2i_ne0.mpr rfl))) (fun _ => ?_)
  refine lv_aload hx hb dX1_isSame_70 (lv_at hl 2 rfl) ?_
  refine lv_iconst (v := 3) hx hb dX1_isSame_72 (by decide) ?_
  refine s_ild hx hb hK (si_r (hP0.up (nA_up hS)) (p := d) hd) (k := 3) (by decide) (by decide) (v := md τ d) rfl dX1_isSame_73 ?_
  refine lv_goto (tgt := 78) hx hb dX1_isSame_74 (by decide) ?_
  refine lv_iadd hx hb dX1_isSame_78 ?_
  refine lv_istore_n (lv' := [(3, .int (x3 + (md τ d))), (2, .int (x2 + 1)), (10, .int (b2i false)), (9, .ref (b (3 + 2 * d))), (8, .int (nI d)), (7, .int x7), (6, .int x6), (5, .int 0), (4, .int 0), (1, .ref (a 0)), (0, .ref (b 0))]) hx hb dX1_isSame_79 rfl hl (by decide) rfl (fun ls hl => ?_)
  refine lv_aload_n hx hb dX1_isSame_80 rfl (lv_at hl 9 rfl) ?_
  refine lv_iload hx hb dX1_isSame_81 (lv_at hl 4 rfl) ?_
  refine g0i (As := [.int (nI d)]) (rest := []) S (c_isExam l E a σ d (by rw [h.n]; exact n4) (by rw [h.n]; exact hd)) (cwV 1 hts gX1_isSame_X0_isExam rfl rfl rfl hdX0_isExam ⟨Nat.le_of_ble_eq_true rfl, Nat.le_of_ble_eq_true rfl⟩) hK (hg0.up (nA_up hS)) rfl hl.1 rfl (Nat.le_of_ble_eq_true rfl) ⟨by show cells ≤ 7100; omega, by show slots ≤ 290000; omega⟩ dX1_isSame_83 ?_
  rw [h.ex hd, hf]
  refine lv_iload hx hb dX1_isSame_86 (lv_at hl 2 rfl) ?_
  refine lv_icmp_eq (tgt := 153) hx hb dX1_isSame_88 (by decide) (fun q => absurd q ((by decide))) (fun _ => ?_)
  refine lv_aload_n hx hb dX1_isSame_91 rfl (lv_at hl 9 rfl) ?_
  refine lv_iload hx hb dX1_isSame_92 (lv_at hl 4 rfl) ?_
  refine g0i (As := [.int (nI d)]) (rest := []) S (c_sureGrade l E a σ d (by rw [h.n]; exact n4) (by rw [h.n]; exact hd)) (cwV 1 hts gX1_isSame_X0_sureGrade rfl rfl rfl hdX0_sureGrade ⟨Nat.le_of_ble_eq_true rfl, Nat.le_of_ble_eq_true rfl⟩) hK (hg0.up (nA_up hS)) rfl hl.1 rfl (Nat.le_of_ble_eq_true rfl) ⟨by show cells ≤ 7100; omega, by show slots ≤ 290000; omega⟩ dX1_isSame_94 ?_
  refine lv_aload_n hx hb dX1_isSame_97 rfl (lv_at hl 10 rfl) ?_
  refine lv_iload hx hb dX1_isSame_98 (lv_at hl 4 rfl) ?_
  refine lv_iconst (v := 0) hx hb dX1_isSame_100 (by decide) ?_
  refine s0i (As := [.int (nI d), .int (b2i false)]) (rest := [.int (gsu σ d)]) S (c_best l E b σ τ h d hd false) (cwV 2 hts gX1_isSame_X1_best rfl rfl rfl hdX1_best ⟨Nat.le_of_ble_eq_true rfl, Nat.le_of_ble_eq_true rfl⟩) hK (hP0.up (nA_up hS)) hS rfl hl.1 rfl (Nat.le_of_ble_eq_true rfl) ⟨by show cells + 1 ≤ 7100; omega, by show slots + 40 ≤ 290000; omega⟩ dX1_isSame_101 (fun H locs _ hkp hS => ?_)
  refine lv_icmp_ne (tgt := 153) hx hb dX1_isSame_104 (by decide) (fun q => absurd rfl q) (fun _ => ?_)
  refine lv_aload_n hx hb dX1_isSame_107 rfl (lv_at hl 9 rfl) ?_
  refine lv_iload hx hb dX1_isSame_108 (lv_at hl 4 rfl) ?_
  refine g0i (As := [.int (nI d)]) (rest := []) S (c_hope l E a σ d (by rw [h.n]; exact n4) (by rw [h.n]; exact hd)) (cwV 1 hts gX1_isSame_X0_hope rfl rfl rfl hdX0_hope ⟨Nat.le_of_ble_eq_true rfl, Nat.le_of_ble_eq_true rfl⟩) hK (hg0.up (nA_up hS)) rfl hl.1 rfl (Nat.le_of_ble_eq_true rfl) ⟨by show cells + 1 ≤ 7100; omega, by show slots + 40 ≤ 290000; omega⟩ dX1_isSame_110 ?_
  refine lv_aload_n hx hb dX1_isSame_113 rfl (lv_at hl 10 rfl) ?_
  refine lv_iload hx hb dX1_isSame_114 (lv_at hl 4 rfl) ?_
  refine lv_iconst (v := 1) hx hb dX1_isSame_116 (by decide) ?_
  refine s0i (As := [.int (nI d), .int (b2i true)]) (rest := [.int (gho σ d)]) S (c_best l E b σ τ h d hd true) (cwV 2 hts gX1_isSame_X1_best rfl rfl rfl hdX1_best ⟨Nat.le_of_ble_eq_true rfl, Nat.le_of_ble_eq_true rfl⟩) hK (hP0.up (nA_up hS)) hS rfl hl.1 rfl (Nat.le_of_ble_eq_true rfl) ⟨by show cells + 1 + 1 ≤ 7100; omega, by show slots + 40 + 40 ≤ 290000; omega⟩ dX1_isSame_117 (fun H locs _ hkp hS => ?_)
  refine lv_icmp_ne (tgt := 153) hx hb dX1_isSame_120 (by decide) (fun q => absurd rfl q) (fun _ => ?_)
  refine lv_aload_n hx hb dX1_isSame_123 rfl (lv_at hl 9 rfl) ?_
  refine lv_iload hx hb dX1_isSame_124 (lv_at hl 4 rfl) ?_
  refine g0i (As := [.int (nI d)]) (rest := []) S (c_examsFrom l E a σ d (by rw [h.n]; exact n4) (by rw [h.n]; exact hd)) (cwV 1 hts gX1_isSame_X0_examsFrom rfl rfl rfl hdX0_examsFrom ⟨Nat.le_of_ble_eq_true rfl, Nat.le_of_ble_eq_true rfl⟩) hK (hg0.up (nA_up hS)) rfl hl.1 rfl (Nat.le_of_ble_eq_true rfl) ⟨by show cells + 1 + 1 ≤ 7100; omega, by show slots + 40 + 40 ≤ 290000; omega⟩ dX1_isSame_126 ?_
  refine lv_aload_n hx hb dX1_isSame_129 rfl (lv_at hl 10 rfl) ?_
  refine lv_iload hx hb dX1_isSame_130 (lv_at hl 4 rfl) ?_
  refine s0i (As := [.int (nI d)]) (rest := [.int (gEf σ d)]) S (c_examsS l E b σ τ h d hd) (cwV 1 hts gX1_isSame_X1_exams rfl rfl rfl hdX1_exams ⟨Nat.le_of_ble_eq_true rfl, Nat.le_of_ble_eq_true rfl⟩) hK (hP0.up (nA_up hS)) hS rfl hl.1 rfl (Nat.le_of_ble_eq_true rfl) ⟨by show cells + 1 + 1 + 1 ≤ 7100; omega, by show slots + 40 + 40 + 40 ≤ 290000; omega⟩ dX1_isSame_132 (fun H locs _ hkp hS => ?_)
  refine lv_icmp_ne (tgt := 153) hx hb dX1_isSame_135 (by decide) (fun q => absurd rfl q) (fun _ => ?_)
  refine lv_aload_n hx hb dX1_isSame_138 rfl (lv_at hl 9 rfl) ?_
  refine lv_iload hx hb dX1_isSame_139 (lv_at hl 4 rfl) ?_
  refine g0i (As := [.int (nI d)]) (rest := []) S (c_planLeadsTo l E a σ h.gok d (by rw [h.n]; exact hd)) (cwV 1 hts gX1_isSame_X0_planLeadsTo rfl rfl rfl hdX0_planLeadsTo ⟨Nat.le_of_ble_eq_true rfl, Nat.le_of_ble_eq_true rfl⟩) hK (hg0.up (nA_up hS)) rfl hl.1 rfl (Nat.le_of_ble_eq_true rfl) ⟨by show cells + 1 + 1 + 1 ≤ 7100; omega, by show slots + 40 + 40 + 40 ≤ 290000; omega⟩ dX1_isSame_141 ?_
  refine lv_aload_n hx hb dX1_isSame_144 rfl (lv_at hl 10 rfl) ?_
  refine lv_iload hx hb dX1_isSame_145 (lv_at hl 4 rfl) ?_
  refine s0i (As := [.int (nI d)]) (rest := [.int (nI (gLd σ 40 d))]) S (c_end l E b σ τ h d hd) (cwV 1 hts gX1_isSame_X1_end rfl rfl rfl hdX1_end ⟨Nat.le_of_ble_eq_true rfl, Nat.le_of_ble_eq_true rfl⟩) hK (hP0.up (nA_up hS)) hS rfl hl.1 rfl (Nat.le_of_ble_eq_true rfl) ⟨by show cells + 1 + 1 + 1 + 160 ≤ 7100; omega, by show slots + 40 + 40 + 40 + 6400 ≤ 290000; omega⟩ dX1_isSame_147 (fun H locs _ hkp hS => ?_)
  refine lv_icmp_eq (tgt := 155) hx hb dX1_isSame_150 (by decide) (fun _ => ?_) (fun q => absurd rfl q)
  refine lv_iload hx hb dX1_isSame_155 (lv_at hl 2 rfl) ?_
  refine lv_if_ne (tgt := 196) hx hb dX1_isSame_157 (by decide) (fun q => absurd ((rfl : b2i false = 0)) q) (fun _ => ?_)
  refine lv_aload_n hx hb dX1_isSame_160 rfl (lv_at hl 9 rfl) ?_
  refine lv_iload hx hb dX1_isSame_161 (lv_at hl 4 rfl) ?_
  refine g0i (As := [.int (nI d)]) (rest := []) S (c_isGraded l E a σ d (by rw [h.n]; exact n4) (by rw [h.n]; exact hd) (by rw [h.ex hd, hf]; rfl)) (cwV 1 hts gX1_isSame_X0_isGraded rfl rfl rfl hdX0_isGraded ⟨Nat.le_of_ble_eq_true rfl, Nat.le_of_ble_eq_true rfl⟩) hK (hg0.up (nA_up hS)) rfl hl.1 rfl (Nat.le_of_ble_eq_true rfl) ⟨by show cells + 1 + 1 + 1 + 160 ≤ 7100; omega, by show slots + 40 + 40 + 40 + 6400 ≤ 290000; omega⟩ dX1_isSame_163 ?_
  rw [h.has hd, hg]
  refine lv_aload hx hb dX1_isSame_166 (lv_at hl 3 rfl) ?_
  refine lv_iconst (v := 3) hx hb dX1_isSame_168 (by decide) ?_
  refine s_ild hx hb hK (si_r (hP0.up (nA_up hS)) (p := d) hd) (k := 3) (by decide) (by decide) (v := md τ d) rfl dX1_isSame_169 ?_
  refine lv_if_lt (tgt := 177) hx hb dX1_isSame_170 (by decide) (fun q => absurd q hu) (fun _ => ?_)
  refine lv_iconst (v := 1) hx hb dX1_isSame_173 (by decide) ?_
  refine lv_goto (tgt := 178) hx hb dX1_isSame_174 (by decide) ?_
  refine lv_icmp_ne (tgt := 194) hx hb dX1_isSame_178 (by decide) (fun q => absurd rfl q) (fun _ => ?_)
  refine lv_aload_n hx hb dX1_isSame_181 rfl (lv_at hl 9 rfl) ?_
  refine lv_iload hx hb dX1_isSame_182 (lv_at hl 4 rfl) ?_
  refine g0i (As := [.int (nI d)]) (rest := []) S (c_gradeOf l E a σ d (by rw [h.n]; exact n4) (by rw [h.n]; exact hd) (by rw [h.ex hd, hf]; rfl)) (cwV 1 hts gX1_isSame_X0_gradeOf rfl rfl rfl hdX0_gradeOf ⟨Nat.le_of_ble_eq_true rfl, Nat.le_of_ble_eq_true rfl⟩) hK (hg0.up (nA_up hS)) rfl hl.1 rfl (Nat.le_of_ble_eq_true rfl) ⟨by show cells + 1 + 1 + 1 + 160 ≤ 7100; omega, by show slots + 40 + 40 + 40 + 6400 ≤ 290000; omega⟩ dX1_isSame_184 ?_
  refine lv_aload hx hb dX1_isSame_187 (lv_at hl 3 rfl) ?_
  refine lv_iconst (v := 3) hx hb dX1_isSame_189 (by decide) ?_
  refine s_ild hx hb hK (si_r (hP0.up (nA_up hS)) (p := d) hd) (k := 3) (by decide) (by decide) (v := md τ d) rfl dX1_isSame_190 ?_
  refine lv_icmp_eq (tgt := 196) hx hb dX1_isSame_191 (by decide) (fun _ => ?_) (fun q => absurd ((h.e hd hf).2.2.2.2.1) q)
  refine lv_iload hx hb dX1_isSame_196 (lv_at hl 2 rfl) ?_
  refine lv_if_ne (tgt := 204) hx hb dX1_isSame_198 (by decide) (fun q => absurd ((rfl : b2i false = 0)) q) (fun _ => ?_)
  refine lv_goto (tgt := 297) hx hb dX1_isSame_201 (by decide) ?_
  refine lv_iinc (v := nI d + -1) (lv' := [(8, .int (nI d + -1)), (3, .int (x3 + (md τ d))), (2, .int (x2 + 1)), (10, .int (b2i false)), (9, .ref (b (3 + 2 * d))), (7, .int x7), (6, .int x6), (5, .int 0), (4, .int 0), (1, .ref (a 0)), (0, .ref (b 0))]) hx hb dX1_isSame_297 hl (k := 4) rfl rfl (by decide) rfl (fun ls hl => ?_)
  refine lv_goto (tgt := 25) hx hb dX1_isSame_300 (by decide) ?_
  exact kk _ _ _ _ H locs _ _ ls rfl rfl (rkB_ex hrk hf) hS (by omega) (by omega) (lv_sub hl [0, 5, 6, 7, 8, 1, 2, 9, 10] rfl)
set_option maxHeartbeats 4000000 in
set_option maxRecDepth 100000 in
theorem same_u (hC : SC p s m meth c E a b σ τ) {d : Nat} (hd : d < mn τ) (hf : mf τ d = false) (hg : mGd τ d = false) (hu : md τ d < 0) {x2 x3 x6 x7 : Int32} {H : Heap} {locs : List Loc} {cells slots : Nat} {ls : Array Slot} (hS : va_S (nA s) s.heap H locs) (hcs : cells + 168 ≤ 6720) (hss : slots + 6720 ≤ 268800) (hrk : rkB σ τ (d + 1) (mn τ) (x6, x7)) (hl : lv_has ls 12 [(8, .int (nI d)), (7, .int x7), (6, .int x6), (5, .int 0), (4, .int 0), (3, .int x3), (2, .int x2), (1, .ref (a 0)), (0, .ref (b 0))]) (kk : ∀ (y2 y3 y6 y7 : Int32) (H : Heap) (locs : List Loc) (cl sl : Nat) (ls : Array Slot), y2 = x2 + 1 → y3 = x3 + 0 → rkB σ τ d (mn τ) (y6, y7) → va_S (nA s) s.heap H locs → cl ≤ cells + 168 → sl ≤ slots + 6720 → lv_has ls 12 [(8, .int (nI d + (-1))), (7, .int y7), (6, .int y6), (5, .int 0), (4, .int 0), (3, .int y3), (2, .int y2), (1, .ref (a 0)), (0, .ref (b 0))] → sW p l e s m below meth c a b H locs cl sl 25 ls []) : sW p l e s m below meth c a b H locs cells slots 25 ls [] := by
  obtain ⟨S, hr, hlocks, hK, hg0, hP0, h, q⟩ := id hC
  obtain ⟨hx, hb, hml, hown, hts⟩ := id S
  have hts1 := hinX1_isSame
  have n4 := h.1.1
  have k8 := h.1.2.1
  refine lv_iload hx hb dX1_isSame_25 (lv_at hl 0 rfl) ?_
  refine lv_if_lt (tgt := 303) hx hb dX1_isSame_27 (by decide) (fun q => absurd q ((nI_pos (by omega)))) (fun _ => ?_)
  refine lv_aload_n hx hb dX1_isSame_30 rfl (lv_at hl 8 rfl) ?_
  refine s_get hx hb hts hts1 hown hK (hP0.up (nA_up hS)) 0 (by decide) (by decide +kernel) rfl rfl dX1_isSame_31 ?_
  refine lv_iload hx hb dX1_isSame_34 (lv_at hl 0 rfl) ?_
  refine s_ald hx hb hK (si_p (hP0.up (nA_up hS))) (k := d) hd (by omega) rfl dX1_isSame_36 ?_
  refine lv_astore (lv' := [(9, .ref (b (3 + 2 * d))), (8, .int (nI d)), (7, .int x7), (6, .int x6), (5, .int 0), (4, .int 0), (3, .int x3), (2, .int x2), (1, .ref (a 0)), (0, .ref (b 0))]) hx hb dX1_isSame_37 hl (by decide) rfl (fun ls hl => ?_)
  refine lv_aload_n hx hb dX1_isSame_39 rfl (lv_at hl 9 rfl) ?_
  refine lv_iload hx hb dX1_isSame_40 (lv_at hl 1 rfl) ?_
  refine s0p (As := [.int (nI d)]) (rest := []) S (c_isFork l E b σ τ h d hd) (cwV 1 hts gX1_isSame_X1_isFork rfl rfl rfl hdX1_isFork ⟨Nat.le_of_ble_eq_true rfl, Nat.le_of_ble_eq_true rfl⟩) hK (hP0.up (nA_up hS)) rfl hl.1 rfl (Nat.le_of_ble_eq_true rfl) ⟨by show cells ≤ 7100; omega, by show slots ≤ 290000; omega⟩ dX1_isSame_42 ?_
  rw [hf]
  refine lv_istore (lv' := [(10, .int (b2i false)), (9, .ref (b (3 + 2 * d))), (8, .int (nI d)), (7, .int x7), (6, .int x6), (5, .int 0), (4, .int 0), (3, .int x3), (2, .int x2), (1, .ref (a 0)), (0, .ref (b 0))]) hx hb dX1_isSame_45 hl (by decide) rfl (fun ls hl => ?_)
  refine lv_iload_n hx hb dX1_isSame_47 rfl (lv_at hl 8 rfl) ?_
  refine lv_iload hx hb dX1_isSame_48 (lv_at hl 0 rfl) ?_
  refine lv_if_eq (tgt := 57) hx hb dX1_isSame_50 (by decide) (fun _ => ?_) (fun q => absurd ((rfl : b2i false = 0)) q)
  refine lv_iconst (v := 1) hx hb dX1_isSame_57 (by decide) ?_
  refine lv_iadd hx hb dX1_isSame_58 ?_
  refine lv_istore_n (lv' := [(2, .int (x2 + 1)), (10, .int (b2i false)), (9, .ref (b (3 + 2 * d))), (8, .int (nI d)), (7, .int x7), (6, .int x6), (5, .int 0), (4, .int 0), (3, .int x3), (1, .ref (a 0)), (0, .ref (b 0))]) hx hb dX1_isSame_59 rfl hl (by decide) rfl (fun ls hl => ?_)
  refine lv_iload_n hx hb dX1_isSame_60 rfl (lv_at hl 8 rfl) ?_
  refine lv_aload_n hx hb dX1_isSame_61 rfl (lv_at hl 10 rfl) ?_
  refine lv_iload hx hb dX1_isSame_62 (lv_at hl 3 rfl) ?_
  refine s0p (As := [.int (nI d)]) (rest := [.int x3]) S (c_isGradedS l E b σ τ h d hd) (cwV 1 hts gX1_isSame_X1_isGraded rfl rfl rfl hdX1_isGraded ⟨Nat.le_of_ble_eq_true rfl, Nat.le_of_ble_eq_true rfl⟩) hK (hP0.up (nA_up hS)) rfl hl.1 rfl (Nat.le_of_ble_eq_true rfl) ⟨by show cells ≤ 7100; omega, by show slots ≤ 290000; omega⟩ dX1_isSame_64 ?_
  rw [hg]
  refine lv_if_eq (tgt := 77) hx hb dX1_isSame_67 (by decide) (fun _ => ?_) (fun q => absurd ((rfl : b2i false = 0)) q)
  refine lv_iconst (v := 0) hx hb dX1_isSame_77 (by decide) ?_
  refine lv_iadd hx hb dX1_isSame_78 ?_
  refine lv_istore_n (lv' := [(3, .int (x3 + 0)), (2, .int (x2 + 1)), (10, .int (b2i false)), (9, .ref (b (3 + 2 * d))), (8, .int (nI d)), (7, .int x7), (6, .int x6), (5, .int 0), (4, .int 0), (1, .ref (a 0)), (0, .ref (b 0))]) hx hb dX1_isSame_79 rfl hl (by decide) rfl (fun ls hl => ?_)
  refine lv_aload_n hx hb dX1_isSame_80 rfl (lv_at hl 9 rfl) ?_
  refine lv_iload hx hb dX1_isSame_81 (lv_at hl 4 rfl) ?_
  refine g0i (As := [.int (nI d)]) (rest := []) S (c_isExam l E a σ d (by rw [h.n]; exact n4) (by rw [h.n]; exact hd)) (cwV 1 hts gX1_isSame_X0_isExam rfl rfl rfl hdX0_isExam ⟨Nat.le_of_ble_eq_true rfl, Nat.le_of_ble_eq_true rfl⟩) hK (hg0.up (nA_up hS)) rfl hl.1 rfl (Nat.le_of_ble_eq_true rfl) ⟨by show cells ≤ 7100; omega, by show slots ≤ 290000; omega⟩ dX1_isSame_83 ?_
  rw [h.ex hd, hf]
  refine lv_iload hx hb dX1_isSame_86 (lv_at hl 2 rfl) ?_
  refine lv_icmp_eq (tgt := 153) hx hb dX1_isSame_88 (by decide) (fun q => absurd q ((by decide))) (fun _ => ?_)
  refine lv_aload_n hx hb dX1_isSame_91 rfl (lv_at hl 9 rfl) ?_
  refine lv_iload hx hb dX1_isSame_92 (lv_at hl 4 rfl) ?_
  refine g0i (As := [.int (nI d)]) (rest := []) S (c_sureGrade l E a σ d (by rw [h.n]; exact n4) (by rw [h.n]; exact hd)) (cwV 1 hts gX1_isSame_X0_sureGrade rfl rfl rfl hdX0_sureGrade ⟨Nat.le_of_ble_eq_true rfl, Nat.le_of_ble_eq_true rfl⟩) hK (hg0.up (nA_up hS)) rfl hl.1 rfl (Nat.le_of_ble_eq_true rfl) ⟨by show cells ≤ 7100; omega, by show slots ≤ 290000; omega⟩ dX1_isSame_94 ?_
  refine lv_aload_n hx hb dX1_isSame_97 rfl (lv_at hl 10 rfl) ?_
  refine lv_iload hx hb dX1_isSame_98 (lv_at hl 4 rfl) ?_
  refine lv_iconst (v := 0) hx hb dX1_isSame_100 (by decide) ?_
  refine s0i (As := [.int (nI d), .int (b2i false)]) (rest := [.int (gsu σ d)]) S (c_best l E b σ τ h d hd false) (cwV 2 hts gX1_isSame_X1_best rfl rfl rfl hdX1_best ⟨Nat.le_of_ble_eq_true rfl, Nat.le_of_ble_eq_true rfl⟩) hK (hP0.up (nA_up hS)) hS rfl hl.1 rfl (Nat.le_of_ble_eq_true rfl) ⟨by show cells + 1 ≤ 7100; omega, by show slots + 40 ≤ 290000; omega⟩ dX1_isSame_101 (fun H locs _ hkp hS => ?_)
  refine lv_icmp_ne (tgt := 153) hx hb dX1_isSame_104 (by decide) (fun q => absurd rfl q) (fun _ => ?_)
  refine lv_aload_n hx hb dX1_isSame_107 rfl (lv_at hl 9 rfl) ?_
  refine lv_iload hx hb dX1_isSame_108 (lv_at hl 4 rfl) ?_
  refine g0i (As := [.int (nI d)]) (rest := []) S (c_hope l E a σ d (by rw [h.n]; exact n4) (by rw [h.n]; exact hd)) (cwV 1 hts gX1_isSame_X0_hope rfl rfl rfl hdX0_hope ⟨Nat.le_of_ble_eq_true rfl, Nat.le_of_ble_eq_true rfl⟩) hK (hg0.up (nA_up hS)) rfl hl.1 rfl (Nat.le_of_ble_eq_true rfl) ⟨by show cells + 1 ≤ 7100; omega, by show slots + 40 ≤ 290000; omega⟩ dX1_isSame_110 ?_
  refine lv_aload_n hx hb dX1_isSame_113 rfl (lv_at hl 10 rfl) ?_
  refine lv_iload hx hb dX1_isSame_114 (lv_at hl 4 rfl) ?_
  refine lv_iconst (v := 1) hx hb dX1_isSame_116 (by decide) ?_
  refine s0i (As := [.int (nI d), .int (b2i true)]) (rest := [.int (gho σ d)]) S (c_best l E b σ τ h d hd true) (cwV 2 hts gX1_isSame_X1_best rfl rfl rfl hdX1_best ⟨Nat.le_of_ble_eq_true rfl, Nat.le_of_ble_eq_true rfl⟩) hK (hP0.up (nA_up hS)) hS rfl hl.1 rfl (Nat.le_of_ble_eq_true rfl) ⟨by show cells + 1 + 1 ≤ 7100; omega, by show slots + 40 + 40 ≤ 290000; omega⟩ dX1_isSame_117 (fun H locs _ hkp hS => ?_)
  refine lv_icmp_ne (tgt := 153) hx hb dX1_isSame_120 (by decide) (fun q => absurd rfl q) (fun _ => ?_)
  refine lv_aload_n hx hb dX1_isSame_123 rfl (lv_at hl 9 rfl) ?_
  refine lv_iload hx hb dX1_isSame_124 (lv_at hl 4 rfl) ?_
  refine g0i (As := [.int (nI d)]) (rest := []) S (c_examsFrom l E a σ d (by rw [h.n]; exact n4) (by rw [h.n]; exact hd)) (cwV 1 hts gX1_isSame_X0_examsFrom rfl rfl rfl hdX0_examsFrom ⟨Nat.le_of_ble_eq_true rfl, Nat.le_of_ble_eq_true rfl⟩) hK (hg0.up (nA_up hS)) rfl hl.1 rfl (Nat.le_of_ble_eq_true rfl) ⟨by show cells + 1 + 1 ≤ 7100; omega, by show slots + 40 + 40 ≤ 290000; omega⟩ dX1_isSame_126 ?_
  refine lv_aload_n hx hb dX1_isSame_129 rfl (lv_at hl 10 rfl) ?_
  refine lv_iload hx hb dX1_isSame_130 (lv_at hl 4 rfl) ?_
  refine s0i (As := [.int (nI d)]) (rest := [.int (gEf σ d)]) S (c_examsS l E b σ τ h d hd) (cwV 1 hts gX1_isSame_X1_exams rfl rfl rfl hdX1_exams ⟨Nat.le_of_ble_eq_true rfl, Nat.le_of_ble_eq_true rfl⟩) hK (hP0.up (nA_up hS)) hS rfl hl.1 rfl (Nat.le_of_ble_eq_true rfl) ⟨by show cells + 1 + 1 + 1 ≤ 7100; omega, by show slots + 40 + 40 + 40 ≤ 290000; omega⟩ dX1_isSame_132 (fun H locs _ hkp hS => ?_)
  refine lv_icmp_ne (tgt := 153) hx hb dX1_isSame_135 (by decide) (fun q => absurd rfl q) (fun _ => ?_)
  refine lv_aload_n hx hb dX1_isSame_138 rfl (lv_at hl 9 rfl) ?_
  refine lv_iload hx hb dX1_isSame_139 (lv_at hl 4 rfl) ?_
  refine g0i (As := [.int (nI d)]) (rest := []) S (c_planLeadsTo l E a σ h.gok d (by rw [h.n]; exact hd)) (cwV 1 hts gX1_isSame_X0_planLeadsTo rfl rfl rfl hdX0_planLeadsTo ⟨Nat.le_of_ble_eq_true rfl, Nat.le_of_ble_eq_true rfl⟩) hK (hg0.up (nA_up hS)) rfl hl.1 rfl (Nat.le_of_ble_eq_true rfl) ⟨by show cells + 1 + 1 + 1 ≤ 7100; omega, by show slots + 40 + 40 + 40 ≤ 290000; omega⟩ dX1_isSame_141 ?_
  refine lv_aload_n hx hb dX1_isSame_144 rfl (lv_at hl 10 rfl) ?_
  refine lv_iload hx hb dX1_isSame_145 (lv_at hl 4 rfl) ?_
  refine s0i (As := [.int (nI d)]) (rest := [.int (nI (gLd σ 40 d))]) S (c_end l E b σ τ h d hd) (cwV 1 hts gX1_isSame_X1_end rfl rfl rfl hdX1_end ⟨Nat.le_of_ble_eq_true rfl, Nat.le_of_ble_eq_true rfl⟩) hK (hP0.up (nA_up hS)) hS rfl hl.1 rfl (Nat.le_of_ble_eq_true rfl) ⟨by show cells + 1 + 1 + 1 + 160 ≤ 7100; omega, by show slots + 40 + 40 + 40 + 6400 ≤ 290000; omega⟩ dX1_isSame_147 (fun H locs _ hkp hS => ?_)
  refine lv_icmp_eq (tgt := 155) hx hb dX1_isSame_150 (by decide) (fun _ => ?_) (fun q => absurd rfl q)
  refine lv_iload hx hb dX1_isSame_155 (lv_at hl 2 rfl) ?_
  refine lv_if_ne (tgt := 196) hx hb dX1_isSame_157 (by decide) (fun q => absurd ((rfl : b2i false = 0)) q) (fun _ => ?_)
  refine lv_aload_n hx hb dX1_isSame_160 rfl (lv_at hl 9 rfl) ?_
  refine lv_iload hx hb dX1_isSame_161 (lv_at hl 4 rfl) ?_
  refine g0i (As := [.int (nI d)]) (rest := []) S (c_isGraded l E a σ d (by rw [h.n]; exact n4) (by rw [h.n]; exact hd) (by rw [h.ex hd, hf]; rfl)) (cwV 1 hts gX1_isSame_X0_isGraded rfl rfl rfl hdX0_isGraded ⟨Nat.le_of_ble_eq_true rfl, Nat.le_of_ble_eq_true rfl⟩) hK (hg0.up (nA_up hS)) rfl hl.1 rfl (Nat.le_of_ble_eq_true rfl) ⟨by show cells + 1 + 1 + 1 + 160 ≤ 7100; omega, by show slots + 40 + 40 + 40 + 6400 ≤ 290000; omega⟩ dX1_isSame_163 ?_
  rw [h.has hd, hg]
  refine lv_aload hx hb dX1_isSame_166 (lv_at hl 3 rfl) ?_
  refine lv_iconst (v := 3) hx hb dX1_isSame_168 (by decide) ?_
  refine s_ild hx hb hK (si_r (hP0.up (nA_up hS)) (p := d) hd) (k := 3) (by decide) (by decide) (v := md τ d) rfl dX1_isSame_169 ?_
  refine lv_if_lt (tgt := 177) hx hb dX1_isSame_170 (by decide) (fun _ => ?_) (fun q => absurd hu q)
  refine lv_iconst (v := 0) hx hb dX1_isSame_177 (by decide) ?_
  refine lv_icmp_ne (tgt := 194) hx hb dX1_isSame_178 (by decide) (fun q => absurd rfl q) (fun _ => ?_)
  refine lv_aload_n hx hb dX1_isSame_181 rfl (lv_at hl 9 rfl) ?_
  refine lv_iload hx hb dX1_isSame_182 (lv_at hl 4 rfl) ?_
  refine g0i (As := [.int (nI d)]) (rest := []) S (c_gradeOf l E a σ d (by rw [h.n]; exact n4) (by rw [h.n]; exact hd) (by rw [h.ex hd, hf]; rfl)) (cwV 1 hts gX1_isSame_X0_gradeOf rfl rfl rfl hdX0_gradeOf ⟨Nat.le_of_ble_eq_true rfl, Nat.le_of_ble_eq_true rfl⟩) hK (hg0.up (nA_up hS)) rfl hl.1 rfl (Nat.le_of_ble_eq_true rfl) ⟨by show cells + 1 + 1 + 1 + 160 ≤ 7100; omega, by show slots + 40 + 40 + 40 + 6400 ≤ 290000; omega⟩ dX1_isSame_184 ?_
  refine lv_aload hx hb dX1_isSame_187 (lv_at hl 3 rfl) ?_
  refine lv_iconst (v := 3) hx hb dX1_isSame_189 (by decide) ?_
  refine s_ild hx hb hK (si_r (hP0.up (nA_up hS)) (p := d) hd) (k := 3) (by decide) (by decide) (v := md τ d) rfl dX1_isSame_190 ?_
  refine lv_icmp_eq (tgt := 196) hx hb dX1_isSame_191 (by decide) (fun _ => ?_) (fun q => absurd ((h.e hd hf).2.2.2.2.1) q)
  refine lv_iload hx hb dX1_isSame_196 (lv_at hl 2 rfl) ?_
  refine lv_if_ne (tgt := 204) hx hb dX1_isSame_198 (by decide) (fun q => absurd ((rfl : b2i false = 0)) q) (fun _ => ?_)
  refine lv_goto (tgt := 297) hx hb dX1_isSame_201 (by decide) ?_
  refine lv_iinc (v := nI d + -1) (lv' := [(8, .int (nI d + -1)), (3, .int (x3 + 0)), (2, .int (x2 + 1)), (10, .int (b2i false)), (9, .ref (b (3 + 2 * d))), (7, .int x7), (6, .int x6), (5, .int 0), (4, .int 0), (1, .ref (a 0)), (0, .ref (b 0))]) hx hb dX1_isSame_297 hl (k := 4) rfl rfl (by decide) rfl (fun ls hl => ?_)
  refine lv_goto (tgt := 25) hx hb dX1_isSame_300 (by decide) ?_
  exact kk _ _ _ _ H locs _ _ ls rfl rfl (rkB_ex hrk hf) hS (by omega) (by omega) (lv_sub hl [0, 5, 6, 7, 8, 1, 2, 9, 10] rfl)
set_option maxHeartbeats 4000000 in
set_option maxRecDepth 100000 in
theorem same_t (hC : SC p s m meth c E a b σ τ) {i : Nat} (hi : i < mk τ) {x2 x3 x4 x5 x6 x7 : Int32} {H : Heap} {locs : List Loc} {cells slots : Nat} {ls : Array Slot} (hS : va_S (nA s) s.heap H locs) (hcs : cells + 40 ≤ 7040) (hss : slots + 1600 ≤ 281600) (hl : lv_has ls 12 [(8, .int (nI i)), (7, .int x7), (6, .int x6), (5, .int x5), (4, .int x4), (3, .int x3), (2, .int x2), (1, .ref (a 0)), (0, .ref (b 0))]) (kk : ∀ (y4 y5 : Int32) (H : Heap) (locs : List Loc) (cl sl : Nat) (ls : Array Slot), y4 = x4 + b2i (!mf τ (ms τ i)) → y5 = x5 + (if mGd τ (ms τ i) then gRegs σ i else 0) → va_S (nA s) s.heap H locs → cl ≤ cells + 40 → sl ≤ slots + 1600 → lv_has ls 12 [(8, .int (nI (i + 1))), (7, .int x7), (6, .int x6), (5, .int y5), (4, .int y4), (3, .int x3), (2, .int x2), (1, .ref (a 0)), (0, .ref (b 0))] → sW p l e s m below meth c a b H locs cl sl 306 ls []) : sW p l e s m below meth c a b H locs cells slots 306 ls [] := by
  obtain ⟨S, hr, hlocks, hK, hg0, hP0, h, q⟩ := id hC
  obtain ⟨hx, hb, hml, hown, hts⟩ := id S
  have hts1 := hinX1_isSame
  have n4 := h.1.1
  have k8 := h.1.2.1
  have hms := h.mok.2.2.2.2.2.2.2.2 i hi
  have t7 := h.mok.2.2.2.2.2.2.1 i
  refine lv_iload hx hb dX1_isSame_306 (lv_at hl 0 rfl) ?_
  refine lv_aload_n hx hb dX1_isSame_308 rfl (lv_at hl 8 rfl) ?_
  refine s_get hx hb hts hts1 hown hK (hP0.up (nA_up hS)) 1 (by decide) (by decide +kernel) rfl rfl dX1_isSame_309 ?_
  refine s_alenR hx hb hK (si_s (hP0.up (nA_up hS))) dX1_isSame_312 ?_
  refine lv_icmp_ge (tgt := 409) hx hb dX1_isSame_313 (by decide) (fun q => absurd q ((nI_ge (by omega) (by omega)))) (fun _ => ?_)
  refine lv_iload hx hb dX1_isSame_316 (lv_at hl 4 rfl) ?_
  refine lv_aload_n hx hb dX1_isSame_318 rfl (lv_at hl 8 rfl) ?_
  refine lv_aload_n hx hb dX1_isSame_319 rfl (lv_at hl 8 rfl) ?_
  refine lv_iload hx hb dX1_isSame_320 (lv_at hl 0 rfl) ?_
  refine s0p (As := [.int (nI i)]) (rest := [.ref (b 0), .int x4]) S (c_atS l E b σ τ h i hi) (cwV 1 hts gX1_isSame_X1_at rfl rfl rfl hdX1_at ⟨Nat.le_of_ble_eq_true rfl, Nat.le_of_ble_eq_true rfl⟩) hK (hP0.up (nA_up hS)) rfl hl.1 rfl (Nat.le_of_ble_eq_true rfl) ⟨by show cells ≤ 7100; omega, by show slots ≤ 290000; omega⟩ dX1_isSame_322 ?_
  refine s0p (As := [.int (nI (ms τ i))]) (rest := [.int x4]) S (c_isFork l E b σ τ h (ms τ i) hms) (cwV 1 hts gX1_isSame_X1_isFork rfl rfl rfl hdX1_isFork ⟨Nat.le_of_ble_eq_true rfl, Nat.le_of_ble_eq_true rfl⟩) hK (hP0.up (nA_up hS)) rfl hl.1 rfl (Nat.le_of_ble_eq_true rfl) ⟨by show cells ≤ 7100; omega, by show slots ≤ 290000; omega⟩ dX1_isSame_325 ?_
  refine lv_if_eq (tgt := 335) hx hb dX1_isSame_328 (by decide) (fun c328 => ?_) (fun c328 => ?_)
  · have hf := b2i_eq0.mp c328
    refine lv_iconst (v := 1) hx hb dX1_isSame_335 (by decide) ?_
    refine lv_iadd hx hb dX1_isSame_336 ?_
    refine lv_istore (lv' := [(4, .int (x4 + 1)), (8, .int (nI i)), (7, .int x7), (6, .int x6), (5, .int x5), (3, .int x3), (2, .int x2), (1, .ref (a 0)), (0, .ref (b 0))]) hx hb dX1_isSame_337 hl (by decide) rfl (fun ls hl => ?_)
    refine lv_iload hx hb dX1_isSame_339 (lv_at hl 4 rfl) ?_
    refine lv_aload_n hx hb dX1_isSame_341 rfl (lv_at hl 8 rfl) ?_
    refine lv_aload_n hx hb dX1_isSame_342 rfl (lv_at hl 8 rfl) ?_
    refine lv_iload hx hb dX1_isSame_343 (lv_at hl 1 rfl) ?_
    refine s0p (As := [.int (nI i)]) (rest := [.ref (b 0), .int x5]) S (c_atS l E b σ τ h i hi) (cwV 1 hts gX1_isSame_X1_at rfl rfl rfl hdX1_at ⟨Nat.le_of_ble_eq_true rfl, Nat.le_of_ble_eq_true rfl⟩) hK (hP0.up (nA_up hS)) rfl hl.1 rfl (Nat.le_of_ble_eq_true rfl) ⟨by show cells ≤ 7100; omega, by show slots ≤ 290000; omega⟩ dX1_isSame_345 ?_
    refine s0p (As := [.int (nI (ms τ i))]) (rest := [.int x5]) S (c_isGradedS l E b σ τ h (ms τ i) hms) (cwV 1 hts gX1_isSame_X1_isGraded rfl rfl rfl hdX1_isGraded ⟨Nat.le_of_ble_eq_true rfl, Nat.le_of_ble_eq_true rfl⟩) hK (hP0.up (nA_up hS)) rfl hl.1 rfl (Nat.le_of_ble_eq_true rfl) ⟨by show cells ≤ 7100; omega, by show slots ≤ 290000; omega⟩ dX1_isSame_348 ?_
    refine lv_if_eq (tgt := 363) hx hb dX1_isSame_351 (by decide) (fun c351 => ?_) (fun c351 => ?_)
    · have hg := b2i_eq0.mp c351
      refine lv_iconst (v := 0) hx hb dX1_isSame_363 (by decide) ?_
      refine lv_iadd hx hb dX1_isSame_364 ?_
      refine lv_istore (lv' := [(5, .int (x5 + 0)), (4, .int (x4 + 1)), (8, .int (nI i)), (7, .int x7), (6, .int x6), (3, .int x3), (2, .int x2), (1, .ref (a 0)), (0, .ref (b 0))]) hx hb dX1_isSame_365 hl (by decide) rfl (fun ls hl => ?_)
      refine lv_aload_n hx hb dX1_isSame_367 rfl (lv_at hl 7 rfl) ?_
      refine lv_iload hx hb dX1_isSame_368 (lv_at hl 2 rfl) ?_
      refine g0i (As := [.int (nI i)]) (rest := []) S (c_placeOf l E a σ i (by rw [h.k]; exact k8) (by rw [h.k]; exact hi)) (cwV 1 hts gX1_isSame_X0_placeOf rfl rfl rfl hdX0_placeOf ⟨Nat.le_of_ble_eq_true rfl, Nat.le_of_ble_eq_true rfl⟩) hK (hg0.up (nA_up hS)) rfl hl.1 rfl (Nat.le_of_ble_eq_true rfl) ⟨by show cells ≤ 7100; omega, by show slots ≤ 290000; omega⟩ dX1_isSame_370 ?_
      refine lv_aload_n hx hb dX1_isSame_373 rfl (lv_at hl 8 rfl) ?_
      refine lv_iload hx hb dX1_isSame_374 (lv_at hl 2 rfl) ?_
      refine s0p (As := [.int (nI i)]) (rest := [.int (nI (gst σ i))]) S (c_atS l E b σ τ h i hi) (cwV 1 hts gX1_isSame_X1_at rfl rfl rfl hdX1_at ⟨Nat.le_of_ble_eq_true rfl, Nat.le_of_ble_eq_true rfl⟩) hK (hP0.up (nA_up hS)) rfl hl.1 rfl (Nat.le_of_ble_eq_true rfl) ⟨by show cells ≤ 7100; omega, by show slots ≤ 290000; omega⟩ dX1_isSame_376 ?_
      refine lv_icmp_ne (tgt := 401) hx hb dX1_isSame_379 (by decide) (fun q => absurd ((by rw [h.st])) q) (fun _ => ?_)
      refine lv_aload_n hx hb dX1_isSame_382 rfl (lv_at hl 7 rfl) ?_
      refine lv_iload hx hb dX1_isSame_383 (lv_at hl 2 rfl) ?_
      refine g0i (As := [.int (nI i)]) (rest := []) S (c_passedBy l E a σ i (by rw [h.k]; exact k8) (by rw [h.k]; exact hi)) (cwV 1 hts gX1_isSame_X0_passedBy rfl rfl rfl hdX0_passedBy ⟨Nat.le_of_ble_eq_true rfl, Nat.le_of_ble_eq_true rfl⟩) hK (hg0.up (nA_up hS)) rfl hl.1 rfl (Nat.le_of_ble_eq_true rfl) ⟨by show cells ≤ 7100; omega, by show slots ≤ 290000; omega⟩ dX1_isSame_385 ?_
      refine lv_aload_n hx hb dX1_isSame_388 rfl (lv_at hl 8 rfl) ?_
      refine s_get hx hb hts hts1 hown hK (hP0.up (nA_up hS)) 1 (by decide) (by decide +kernel) rfl rfl dX1_isSame_389 ?_
      refine lv_iload hx hb dX1_isSame_392 (lv_at hl 2 rfl) ?_
      refine s_ald hx hb hK (si_s (hP0.up (nA_up hS))) (k := i) hi (by omega) rfl dX1_isSame_394 ?_
      refine s_alenI hx hb hK (si_t (hP0.up (nA_up hS)) (t := i) hi) dX1_isSame_395 ?_
      refine lv_iconst (v := 1) hx hb dX1_isSame_396 (by decide) ?_
      refine lv_isub hx hb dX1_isSame_397 ?_
      refine lv_icmp_eq (tgt := 403) hx hb dX1_isSame_398 (by decide) (fun _ => ?_) (fun q => absurd ((by rw [h.pc, nI_pred])) q)
      refine lv_iinc (v := nI (i + 1)) (lv' := [(8, .int (nI (i + 1))), (5, .int (x5 + 0)), (4, .int (x4 + 1)), (7, .int x7), (6, .int x6), (3, .int x3), (2, .int x2), (1, .ref (a 0)), (0, .ref (b 0))]) hx hb dX1_isSame_403 hl (k := 2) rfl (nI_1 i) (by decide) rfl (fun ls hl => ?_)
      refine lv_goto (tgt := 306) hx hb dX1_isSame_406 (by decide) ?_
      exact kk _ _ H locs _ _ ls (by rw [hf]; rfl) (by rw [hg]; rfl) hS (by omega) (by omega) (lv_sub hl [0, 3, 4, 1, 2, 5, 6, 7, 8] rfl)
    · have hg := b2i_ne0.mp c351
      have hE : mf τ (ms τ i) = false := by rw [mGd] at hg; cases c : mf τ (ms τ i) <;> rw [c] at hg <;> first | rfl | cases hg
      refine lv_aload_n hx hb dX1_isSame_354 rfl (lv_at hl 8 rfl) ?_
      refine lv_iload hx hb dX1_isSame_355 (lv_at hl 1 rfl) ?_
      refine s0i (As := [.int (nI i)]) (rest := [.int x5]) S (c_regrets l E b σ τ h i hi hE) (cwV 1 hts gX1_isSame_X1_regrets rfl rfl rfl hdX1_regrets ⟨Nat.le_of_ble_eq_true rfl, Nat.le_of_ble_eq_true rfl⟩) hK (hP0.up (nA_up hS)) hS rfl hl.1 rfl (Nat.le_of_ble_eq_true rfl) ⟨by show cells + 40 ≤ 7100; omega, by show slots + 1600 ≤ 290000; omega⟩ dX1_isSame_357 (fun H locs _ hkp hS => ?_)
      refine lv_goto (tgt := 364) hx hb dX1_isSame_360 (by decide) ?_
      refine lv_iadd hx hb dX1_isSame_364 ?_
      refine lv_istore (lv' := [(5, .int (x5 + (gRegs σ i))), (4, .int (x4 + 1)), (8, .int (nI i)), (7, .int x7), (6, .int x6), (3, .int x3), (2, .int x2), (1, .ref (a 0)), (0, .ref (b 0))]) hx hb dX1_isSame_365 hl (by decide) rfl (fun ls hl => ?_)
      refine lv_aload_n hx hb dX1_isSame_367 rfl (lv_at hl 7 rfl) ?_
      refine lv_iload hx hb dX1_isSame_368 (lv_at hl 2 rfl) ?_
      refine g0i (As := [.int (nI i)]) (rest := []) S (c_placeOf l E a σ i (by rw [h.k]; exact k8) (by rw [h.k]; exact hi)) (cwV 1 hts gX1_isSame_X0_placeOf rfl rfl rfl hdX0_placeOf ⟨Nat.le_of_ble_eq_true rfl, Nat.le_of_ble_eq_true rfl⟩) hK (hg0.up (nA_up hS)) rfl hl.1 rfl (Nat.le_of_ble_eq_true rfl) ⟨by show cells + 40 ≤ 7100; omega, by show slots + 1600 ≤ 290000; omega⟩ dX1_isSame_370 ?_
      refine lv_aload_n hx hb dX1_isSame_373 rfl (lv_at hl 8 rfl) ?_
      refine lv_iload hx hb dX1_isSame_374 (lv_at hl 2 rfl) ?_
      refine s0p (As := [.int (nI i)]) (rest := [.int (nI (gst σ i))]) S (c_atS l E b σ τ h i hi) (cwV 1 hts gX1_isSame_X1_at rfl rfl rfl hdX1_at ⟨Nat.le_of_ble_eq_true rfl, Nat.le_of_ble_eq_true rfl⟩) hK (hP0.up (nA_up hS)) rfl hl.1 rfl (Nat.le_of_ble_eq_true rfl) ⟨by show cells + 40 ≤ 7100; omega, by show slots + 1600 ≤ 290000; omega⟩ dX1_isSame_376 ?_
      refine lv_icmp_ne (tgt := 401) hx hb dX1_isSame_379 (by decide) (fun q => absurd ((by rw [h.st])) q) (fun _ => ?_)
      refine lv_aload_n hx hb dX1_isSame_382 rfl (lv_at hl 7 rfl) ?_
      refine lv_iload hx hb dX1_isSame_383 (lv_at hl 2 rfl) ?_
      refine g0i (As := [.int (nI i)]) (rest := []) S (c_passedBy l E a σ i (by rw [h.k]; exact k8) (by rw [h.k]; exact hi)) (cwV 1 hts gX1_isSame_X0_passedBy rfl rfl rfl hdX0_passedBy ⟨Nat.le_of_ble_eq_true rfl, Nat.le_of_ble_eq_true rfl⟩) hK (hg0.up (nA_up hS)) rfl hl.1 rfl (Nat.le_of_ble_eq_true rfl) ⟨by show cells + 40 ≤ 7100; omega, by show slots + 1600 ≤ 290000; omega⟩ dX1_isSame_385 ?_
      refine lv_aload_n hx hb dX1_isSame_388 rfl (lv_at hl 8 rfl) ?_
      refine s_get hx hb hts hts1 hown hK (hP0.up (nA_up hS)) 1 (by decide) (by decide +kernel) rfl rfl dX1_isSame_389 ?_
      refine lv_iload hx hb dX1_isSame_392 (lv_at hl 2 rfl) ?_
      refine s_ald hx hb hK (si_s (hP0.up (nA_up hS))) (k := i) hi (by omega) rfl dX1_isSame_394 ?_
      refine s_alenI hx hb hK (si_t (hP0.up (nA_up hS)) (t := i) hi) dX1_isSame_395 ?_
      refine lv_iconst (v := 1) hx hb dX1_isSame_396 (by decide) ?_
      refine lv_isub hx hb dX1_isSame_397 ?_
      refine lv_icmp_eq (tgt := 403) hx hb dX1_isSame_398 (by decide) (fun _ => ?_) (fun q => absurd ((by rw [h.pc, nI_pred])) q)
      refine lv_iinc (v := nI (i + 1)) (lv' := [(8, .int (nI (i + 1))), (5, .int (x5 + (gRegs σ i))), (4, .int (x4 + 1)), (7, .int x7), (6, .int x6), (3, .int x3), (2, .int x2), (1, .ref (a 0)), (0, .ref (b 0))]) hx hb dX1_isSame_403 hl (k := 2) rfl (nI_1 i) (by decide) rfl (fun ls hl => ?_)
      refine lv_goto (tgt := 306) hx hb dX1_isSame_406 (by decide) ?_
      exact kk _ _ H locs _ _ ls (by rw [hf]; rfl) (by rw [hg]; rfl) hS (by omega) (by omega) (lv_sub hl [0, 3, 4, 1, 2, 5, 6, 7, 8] rfl)
  · have hf := b2i_ne0.mp c328
    refine lv_iconst (v := 0) hx hb dX1_isSame_331 (by decide) ?_
    refine lv_goto (tgt := 336) hx hb dX1_isSame_332 (by decide) ?_
    refine lv_iadd hx hb dX1_isSame_336 ?_
    refine lv_istore (lv' := [(4, .int (x4 + 0)), (8, .int (nI i)), (7, .int x7), (6, .int x6), (5, .int x5), (3, .int x3), (2, .int x2), (1, .ref (a 0)), (0, .ref (b 0))]) hx hb dX1_isSame_337 hl (by decide) rfl (fun ls hl => ?_)
    refine lv_iload hx hb dX1_isSame_339 (lv_at hl 4 rfl) ?_
    refine lv_aload_n hx hb dX1_isSame_341 rfl (lv_at hl 8 rfl) ?_
    refine lv_aload_n hx hb dX1_isSame_342 rfl (lv_at hl 8 rfl) ?_
    refine lv_iload hx hb dX1_isSame_343 (lv_at hl 1 rfl) ?_
    refine s0p (As := [.int (nI i)]) (rest := [.ref (b 0), .int x5]) S (c_atS l E b σ τ h i hi) (cwV 1 hts gX1_isSame_X1_at rfl rfl rfl hdX1_at ⟨Nat.le_of_ble_eq_true rfl, Nat.le_of_ble_eq_true rfl⟩) hK (hP0.up (nA_up hS)) rfl hl.1 rfl (Nat.le_of_ble_eq_true rfl) ⟨by show cells ≤ 7100; omega, by show slots ≤ 290000; omega⟩ dX1_isSame_345 ?_
    refine s0p (As := [.int (nI (ms τ i))]) (rest := [.int x5]) S (c_isGradedS l E b σ τ h (ms τ i) hms) (cwV 1 hts gX1_isSame_X1_isGraded rfl rfl rfl hdX1_isGraded ⟨Nat.le_of_ble_eq_true rfl, Nat.le_of_ble_eq_true rfl⟩) hK (hP0.up (nA_up hS)) rfl hl.1 rfl (Nat.le_of_ble_eq_true rfl) ⟨by show cells ≤ 7100; omega, by show slots ≤ 290000; omega⟩ dX1_isSame_348 ?_
    refine lv_if_eq (tgt := 363) hx hb dX1_isSame_351 (by decide) (fun c351 => ?_) (fun c351 => ?_)
    · have hg := b2i_eq0.mp c351
      refine lv_iconst (v := 0) hx hb dX1_isSame_363 (by decide) ?_
      refine lv_iadd hx hb dX1_isSame_364 ?_
      refine lv_istore (lv' := [(5, .int (x5 + 0)), (4, .int (x4 + 0)), (8, .int (nI i)), (7, .int x7), (6, .int x6), (3, .int x3), (2, .int x2), (1, .ref (a 0)), (0, .ref (b 0))]) hx hb dX1_isSame_365 hl (by decide) rfl (fun ls hl => ?_)
      refine lv_aload_n hx hb dX1_isSame_367 rfl (lv_at hl 7 rfl) ?_
      refine lv_iload hx hb dX1_isSame_368 (lv_at hl 2 rfl) ?_
      refine g0i (As := [.int (nI i)]) (rest := []) S (c_placeOf l E a σ i (by rw [h.k]; exact k8) (by rw [h.k]; exact hi)) (cwV 1 hts gX1_isSame_X0_placeOf rfl rfl rfl hdX0_placeOf ⟨Nat.le_of_ble_eq_true rfl, Nat.le_of_ble_eq_true rfl⟩) hK (hg0.up (nA_up hS)) rfl hl.1 rfl (Nat.le_of_ble_eq_true rfl) ⟨by show cells ≤ 7100; omega, by show slots ≤ 290000; omega⟩ dX1_isSame_370 ?_
      refine lv_aload_n hx hb dX1_isSame_373 rfl (lv_at hl 8 rfl) ?_
      refine lv_iload hx hb dX1_isSame_374 (lv_at hl 2 rfl) ?_
      refine s0p (As := [.int (nI i)]) (rest := [.int (nI (gst σ i))]) S (c_atS l E b σ τ h i hi) (cwV 1 hts gX1_isSame_X1_at rfl rfl rfl hdX1_at ⟨Nat.le_of_ble_eq_true rfl, Nat.le_of_ble_eq_true rfl⟩) hK (hP0.up (nA_up hS)) rfl hl.1 rfl (Nat.le_of_ble_eq_true rfl) ⟨by show cells ≤ 7100; omega, by show slots ≤ 290000; omega⟩ dX1_isSame_376 ?_
      refine lv_icmp_ne (tgt := 401) hx hb dX1_isSame_379 (by decide) (fun q => absurd ((by rw [h.st])) q) (fun _ => ?_)
      refine lv_aload_n hx hb dX1_isSame_382 rfl (lv_at hl 7 rfl) ?_
      refine lv_iload hx hb dX1_isSame_383 (lv_at hl 2 rfl) ?_
      refine g0i (As := [.int (nI i)]) (rest := []) S (c_passedBy l E a σ i (by rw [h.k]; exact k8) (by rw [h.k]; exact hi)) (cwV 1 hts gX1_isSame_X0_passedBy rfl rfl rfl hdX0_passedBy ⟨Nat.le_of_ble_eq_true rfl, Nat.le_of_ble_eq_true rfl⟩) hK (hg0.up (nA_up hS)) rfl hl.1 rfl (Nat.le_of_ble_eq_true rfl) ⟨by show cells ≤ 7100; omega, by show slots ≤ 290000; omega⟩ dX1_isSame_385 ?_
      refine lv_aload_n hx hb dX1_isSame_388 rfl (lv_at hl 8 rfl) ?_
      refine s_get hx hb hts hts1 hown hK (hP0.up (nA_up hS)) 1 (by decide) (by decide +kernel) rfl rfl dX1_isSame_389 ?_
      refine lv_iload hx hb dX1_isSame_392 (lv_at hl 2 rfl) ?_
      refine s_ald hx hb hK (si_s (hP0.up (nA_up hS))) (k := i) hi (by omega) rfl dX1_isSame_394 ?_
      refine s_alenI hx hb hK (si_t (hP0.up (nA_up hS)) (t := i) hi) dX1_isSame_395 ?_
      refine lv_iconst (v := 1) hx hb dX1_isSame_396 (by decide) ?_
      refine lv_isub hx hb dX1_isSame_397 ?_
      refine lv_icmp_eq (tgt := 403) hx hb dX1_isSame_398 (by decide) (fun _ => ?_) (fun q => absurd ((by rw [h.pc, nI_pred])) q)
      refine lv_iinc (v := nI (i + 1)) (lv' := [(8, .int (nI (i + 1))), (5, .int (x5 + 0)), (4, .int (x4 + 0)), (7, .int x7), (6, .int x6), (3, .int x3), (2, .int x2), (1, .ref (a 0)), (0, .ref (b 0))]) hx hb dX1_isSame_403 hl (k := 2) rfl (nI_1 i) (by decide) rfl (fun ls hl => ?_)
      refine lv_goto (tgt := 306) hx hb dX1_isSame_406 (by decide) ?_
      exact kk _ _ H locs _ _ ls (by rw [hf]; rfl) (by rw [hg]; rfl) hS (by omega) (by omega) (lv_sub hl [0, 3, 4, 1, 2, 5, 6, 7, 8] rfl)
    · have hg := b2i_ne0.mp c351
      have hE : mf τ (ms τ i) = false := by rw [mGd] at hg; cases c : mf τ (ms τ i) <;> rw [c] at hg <;> first | rfl | cases hg
      refine lv_aload_n hx hb dX1_isSame_354 rfl (lv_at hl 8 rfl) ?_
      refine lv_iload hx hb dX1_isSame_355 (lv_at hl 1 rfl) ?_
      refine s0i (As := [.int (nI i)]) (rest := [.int x5]) S (c_regrets l E b σ τ h i hi hE) (cwV 1 hts gX1_isSame_X1_regrets rfl rfl rfl hdX1_regrets ⟨Nat.le_of_ble_eq_true rfl, Nat.le_of_ble_eq_true rfl⟩) hK (hP0.up (nA_up hS)) hS rfl hl.1 rfl (Nat.le_of_ble_eq_true rfl) ⟨by show cells + 40 ≤ 7100; omega, by show slots + 1600 ≤ 290000; omega⟩ dX1_isSame_357 (fun H locs _ hkp hS => ?_)
      refine lv_goto (tgt := 364) hx hb dX1_isSame_360 (by decide) ?_
      refine lv_iadd hx hb dX1_isSame_364 ?_
      refine lv_istore (lv' := [(5, .int (x5 + (gRegs σ i))), (4, .int (x4 + 0)), (8, .int (nI i)), (7, .int x7), (6, .int x6), (3, .int x3), (2, .int x2), (1, .ref (a 0)), (0, .ref (b 0))]) hx hb dX1_isSame_365 hl (by decide) rfl (fun ls hl => ?_)
      refine lv_aload_n hx hb dX1_isSame_367 rfl (lv_at hl 7 rfl) ?_
      refine lv_iload hx hb dX1_isSame_368 (lv_at hl 2 rfl) ?_
      refine g0i (As := [.int (nI i)]) (rest := []) S (c_placeOf l E a σ i (by rw [h.k]; exact k8) (by rw [h.k]; exact hi)) (cwV 1 hts gX1_isSame_X0_placeOf rfl rfl rfl hdX0_placeOf ⟨Nat.le_of_ble_eq_true rfl, Nat.le_of_ble_eq_true rfl⟩) hK (hg0.up (nA_up hS)) rfl hl.1 rfl (Nat.le_of_ble_eq_true rfl) ⟨by show cells + 40 ≤ 7100; omega, by show slots + 1600 ≤ 290000; omega⟩ dX1_isSame_370 ?_
      refine lv_aload_n hx hb dX1_isSame_373 rfl (lv_at hl 8 rfl) ?_
      refine lv_iload hx hb dX1_isSame_374 (lv_at hl 2 rfl) ?_
      refine s0p (As := [.int (nI i)]) (rest := [.int (nI (gst σ i))]) S (c_atS l E b σ τ h i hi) (cwV 1 hts gX1_isSame_X1_at rfl rfl rfl hdX1_at ⟨Nat.le_of_ble_eq_true rfl, Nat.le_of_ble_eq_true rfl⟩) hK (hP0.up (nA_up hS)) rfl hl.1 rfl (Nat.le_of_ble_eq_true rfl) ⟨by show cells + 40 ≤ 7100; omega, by show slots + 1600 ≤ 290000; omega⟩ dX1_isSame_376 ?_
      refine lv_icmp_ne (tgt := 401) hx hb dX1_isSame_379 (by decide) (fun q => absurd ((by rw [h.st])) q) (fun _ => ?_)
      refine lv_aload_n hx hb dX1_isSame_382 rfl (lv_at hl 7 rfl) ?_
      refine lv_iload hx hb dX1_isSame_383 (lv_at hl 2 rfl) ?_
      refine g0i (As := [.int (nI i)]) (rest := []) S (c_passedBy l E a σ i (by rw [h.k]; exact k8) (by rw [h.k]; exact hi)) (cwV 1 hts gX1_isSame_X0_passedBy rfl rfl rfl hdX0_passedBy ⟨Nat.le_of_ble_eq_true rfl, Nat.le_of_ble_eq_true rfl⟩) hK (hg0.up (nA_up hS)) rfl hl.1 rfl (Nat.le_of_ble_eq_true rfl) ⟨by show cells + 40 ≤ 7100; omega, by show slots + 1600 ≤ 290000; omega⟩ dX1_isSame_385 ?_
      refine lv_aload_n hx hb dX1_isSame_388 rfl (lv_at hl 8 rfl) ?_
      refine s_get hx hb hts hts1 hown hK (hP0.up (nA_up hS)) 1 (by decide) (by decide +kernel) rfl rfl dX1_isSame_389 ?_
      refine lv_iload hx hb dX1_isSame_392 (lv_at hl 2 rfl) ?_
      refine s_ald hx hb hK (si_s (hP0.up (nA_up hS))) (k := i) hi (by omega) rfl dX1_isSame_394 ?_
      refine s_alenI hx hb hK (si_t (hP0.up (nA_up hS)) (t := i) hi) dX1_isSame_395 ?_
      refine lv_iconst (v := 1) hx hb dX1_isSame_396 (by decide) ?_
      refine lv_isub hx hb dX1_isSame_397 ?_
      refine lv_icmp_eq (tgt := 403) hx hb dX1_isSame_398 (by decide) (fun _ => ?_) (fun q => absurd ((by rw [h.pc, nI_pred])) q)
      refine lv_iinc (v := nI (i + 1)) (lv' := [(8, .int (nI (i + 1))), (5, .int (x5 + (gRegs σ i))), (4, .int (x4 + 0)), (7, .int x7), (6, .int x6), (3, .int x3), (2, .int x2), (1, .ref (a 0)), (0, .ref (b 0))]) hx hb dX1_isSame_403 hl (k := 2) rfl (nI_1 i) (by decide) rfl (fun ls hl => ?_)
      refine lv_goto (tgt := 306) hx hb dX1_isSame_406 (by decide) ?_
      exact kk _ _ H locs _ _ ls (by rw [hf]; rfl) (by rw [hg]; rfl) hS (by omega) (by omega) (lv_sub hl [0, 3, 4, 1, 2, 5, 6, 7, 8] rfl)
set_option maxHeartbeats 4000000 in
set_option maxRecDepth 100000 in
theorem same_e (hC : SC p s m meth c E a b σ τ) {H : Heap} {locs : List Loc} {cells slots : Nat} {ls : Array Slot} (hS : va_S (nA s) s.heap H locs) (hcs : cells ≤ 7040) (hss : slots ≤ 281600) (hl : lv_has ls 12 [(6, .int ((gRf σ).1)), (5, .int (gAll σ)), (4, .int (mAt τ)), (3, .int (mSum τ)), (2, .int (mXn τ)), (1, .ref (a 0)), (0, .ref (b 0))]) : sW p l e s m below meth c a b H locs cells slots 409 ls [] := by
  obtain ⟨S, hr, hlocks, hK, hg0, hP0, h, q⟩ := id hC
  obtain ⟨hx, hb, hml, hown, hts⟩ := id S
  have hts1 := hinX1_isSame
  have n4 := h.1.1
  have k8 := h.1.2.1
  refine lv_aload_n hx hb dX1_isSame_409 rfl (lv_at hl 5 rfl) ?_
  refine g0i (As := []) (rest := []) S (c_places l E a σ ) (cwV 0 hts gX1_isSame_X0_places rfl rfl rfl hdX0_places ⟨Nat.le_of_ble_eq_true rfl, Nat.le_of_ble_eq_true rfl⟩) hK (hg0.up (nA_up hS)) rfl hl.1 rfl (Nat.le_of_ble_eq_true rfl) ⟨by show cells ≤ 7100; omega, by show slots ≤ 290000; omega⟩ dX1_isSame_410 ?_
  refine lv_aload_n hx hb dX1_isSame_413 rfl (lv_at hl 6 rfl) ?_
  refine s_get hx hb hts hts1 hown hK (hP0.up (nA_up hS)) 0 (by decide) (by decide +kernel) rfl rfl dX1_isSame_414 ?_
  refine s_alenR hx hb hK (si_p (hP0.up (nA_up hS))) dX1_isSame_417 ?_
  refine lv_icmp_ne (tgt := 510) hx hb dX1_isSame_418 (by decide) (fun q => absurd ((congrArg nI h.n)) q) (fun _ => ?_)
  refine lv_aload_n hx hb dX1_isSame_421 rfl (lv_at hl 5 rfl) ?_
  refine g0i (As := []) (rest := []) S (c_exams l E a σ ) (cwV 0 hts gX1_isSame_X0_exams rfl rfl rfl hdX0_exams ⟨Nat.le_of_ble_eq_true rfl, Nat.le_of_ble_eq_true rfl⟩) hK (hg0.up (nA_up hS)) rfl hl.1 rfl (Nat.le_of_ble_eq_true rfl) ⟨by show cells ≤ 7100; omega, by show slots ≤ 290000; omega⟩ dX1_isSame_422 ?_
  refine lv_iload_n hx hb dX1_isSame_425 rfl (lv_at hl 4 rfl) ?_
  refine lv_icmp_ne (tgt := 510) hx hb dX1_isSame_426 (by decide) (fun q => absurd h.xn.symm q) (fun _ => ?_)
  refine lv_aload_n hx hb dX1_isSame_429 rfl (lv_at hl 5 rfl) ?_
  refine g0i (As := []) (rest := []) S (c_graded l E a σ ) (cwV 0 hts gX1_isSame_X0_graded rfl rfl rfl hdX0_graded ⟨Nat.le_of_ble_eq_true rfl, Nat.le_of_ble_eq_true rfl⟩) hK (hg0.up (nA_up hS)) rfl hl.1 rfl (Nat.le_of_ble_eq_true rfl) ⟨by show cells ≤ 7100; omega, by show slots ≤ 290000; omega⟩ dX1_isSame_430 ?_
  refine lv_aload_n hx hb dX1_isSame_433 rfl (lv_at hl 6 rfl) ?_
  refine s0p (As := []) (rest := [.int (gc σ)]) S (c_gradedS l E b σ τ h ) (cwV 0 hts gX1_isSame_X1_graded rfl rfl rfl hdX1_graded ⟨Nat.le_of_ble_eq_true rfl, Nat.le_of_ble_eq_true rfl⟩) hK (hP0.up (nA_up hS)) rfl hl.1 rfl (Nat.le_of_ble_eq_true rfl) ⟨by show cells ≤ 7100; omega, by show slots ≤ 290000; omega⟩ dX1_isSame_434 ?_
  refine lv_icmp_ne (tgt := 510) hx hb dX1_isSame_437 (by decide) (fun q => absurd h.2.2.2.2.2.2.1 q) (fun _ => ?_)
  refine lv_aload_n hx hb dX1_isSame_440 rfl (lv_at hl 5 rfl) ?_
  refine g0i (As := []) (rest := []) S (c_students l E a σ ) (cwV 0 hts gX1_isSame_X0_students rfl rfl rfl hdX0_students ⟨Nat.le_of_ble_eq_true rfl, Nat.le_of_ble_eq_true rfl⟩) hK (hg0.up (nA_up hS)) rfl hl.1 rfl (Nat.le_of_ble_eq_true rfl) ⟨by show cells ≤ 7100; omega, by show slots ≤ 290000; omega⟩ dX1_isSame_441 ?_
  refine lv_aload_n hx hb dX1_isSame_444 rfl (lv_at hl 6 rfl) ?_
  refine s_get hx hb hts hts1 hown hK (hP0.up (nA_up hS)) 1 (by decide) (by decide +kernel) rfl rfl dX1_isSame_445 ?_
  refine s_alenR hx hb hK (si_s (hP0.up (nA_up hS))) dX1_isSame_448 ?_
  refine lv_icmp_ne (tgt := 510) hx hb dX1_isSame_449 (by decide) (fun q => absurd ((congrArg nI h.k)) q) (fun _ => ?_)
  refine lv_aload_n hx hb dX1_isSame_452 rfl (lv_at hl 5 rfl) ?_
  refine g0i (As := []) (rest := []) S (c_atExams l E a σ h.gok) (cwV 0 hts gX1_isSame_X0_atExams rfl rfl rfl hdX0_atExams ⟨Nat.le_of_ble_eq_true rfl, Nat.le_of_ble_eq_true rfl⟩) hK (hg0.up (nA_up hS)) rfl hl.1 rfl (Nat.le_of_ble_eq_true rfl) ⟨by show cells ≤ 7100; omega, by show slots ≤ 290000; omega⟩ dX1_isSame_453 ?_
  refine lv_iload hx hb dX1_isSame_456 (lv_at hl 2 rfl) ?_
  refine lv_icmp_ne (tgt := 510) hx hb dX1_isSame_458 (by decide) (fun q => absurd h.at.symm q) (fun _ => ?_)
  refine lv_aload_n hx hb dX1_isSame_461 rfl (lv_at hl 5 rfl) ?_
  refine g0i (As := []) (rest := []) S (c_riskiestFork l E a σ h.gok) (cwV 0 hts gX1_isSame_X0_riskiestFork rfl rfl rfl hdX0_riskiestFork ⟨Nat.le_of_ble_eq_true rfl, Nat.le_of_ble_eq_true rfl⟩) hK (hg0.up (nA_up hS)) rfl hl.1 rfl (Nat.le_of_ble_eq_true rfl) ⟨by show cells ≤ 7100; omega, by show slots ≤ 290000; omega⟩ dX1_isSame_462 ?_
  refine lv_iload hx hb dX1_isSame_465 (lv_at hl 0 rfl) ?_
  refine lv_icmp_ne (tgt := 510) hx hb dX1_isSame_467 (by decide) (fun q => absurd rfl q) (fun _ => ?_)
  refine lv_aload_n hx hb dX1_isSame_470 rfl (lv_at hl 5 rfl) ?_
  refine g0i (As := []) (rest := []) S (c_allRegret l E a σ h.gok) (cwV 0 hts gX1_isSame_X0_allRegret rfl rfl rfl hdX0_allRegret ⟨Nat.le_of_ble_eq_true rfl, Nat.le_of_ble_eq_true rfl⟩) hK (hg0.up (nA_up hS)) rfl hl.1 rfl (Nat.le_of_ble_eq_true rfl) ⟨by show cells ≤ 7100; omega, by show slots ≤ 290000; omega⟩ dX1_isSame_471 ?_
  refine lv_iload hx hb dX1_isSame_474 (lv_at hl 1 rfl) ?_
  refine lv_icmp_ne (tgt := 510) hx hb dX1_isSame_476 (by decide) (fun q => absurd rfl q) (fun _ => ?_)
  refine lv_aload_n hx hb dX1_isSame_479 rfl (lv_at hl 5 rfl) ?_
  refine g0d (As := []) (rest := []) S (c_meanGrade l E a σ (fun z => by rw [h.2.2.2.2.2.2.1, h.2.2.2.2.2.2.2]; rw [h.2.2.2.2.2.2.1] at z; exact h.nne z)) (cwV 0 hts gX1_isSame_X0_meanGrade rfl rfl rfl hdX0_meanGrade ⟨Nat.le_of_ble_eq_true rfl, Nat.le_of_ble_eq_true rfl⟩) hK (hg0.up (nA_up hS)) rfl hl.1 rfl (Nat.le_of_ble_eq_true rfl) ⟨by show cells ≤ 7100; omega, by show slots ≤ 290000; omega⟩ dX1_isSame_480 ?_
  refine lv_aload_n hx hb dX1_isSame_483 rfl (lv_at hl 6 rfl) ?_
  refine s0p (As := []) (rest := [.double (dMean (gs σ) (gc σ))]) S (c_gradedS l E b σ τ h ) (cwV 0 hts gX1_isSame_X1_graded rfl rfl rfl hdX1_graded ⟨Nat.le_of_ble_eq_true rfl, Nat.le_of_ble_eq_true rfl⟩) hK (hP0.up (nA_up hS)) rfl hl.1 rfl (Nat.le_of_ble_eq_true rfl) ⟨by show cells ≤ 7100; omega, by show slots ≤ 290000; omega⟩ dX1_isSame_484 ?_
  refine lv_if_ne (tgt := 494) hx hb dX1_isSame_487 (by decide) (fun c487 => ?_) (fun c487 => ?_)
  · rw [h.2.2.2.2.2.2.1, h.2.2.2.2.2.2.2, dMean, if_neg c487]
    refine lv_iload_n hx hb dX1_isSame_494 rfl (lv_at hl 3 rfl) ?_
    refine lv_i2d hx hb dX1_isSame_495 ?_
    refine lv_aload_n hx hb dX1_isSame_496 rfl (lv_at hl 6 rfl) ?_
    refine s0p (As := []) (rest := [.double (FP.i2d (mSum τ)), .double (FP.ddiv (FP.i2d (mSum τ)) (FP.i2d (mGn τ)))]) S (c_gradedS l E b σ τ h ) (cwV 0 hts gX1_isSame_X1_graded rfl rfl rfl hdX1_graded ⟨Nat.le_of_ble_eq_true rfl, Nat.le_of_ble_eq_true rfl⟩) hK (hP0.up (nA_up hS)) rfl hl.1 rfl (Nat.le_of_ble_eq_true rfl) ⟨by show cells ≤ 7100; omega, by show slots ≤ 290000; omega⟩ dX1_isSame_497 ?_
    refine lv_i2d hx hb dX1_isSame_500 ?_
    refine lv_ddiv hx hb dX1_isSame_501 (h.nne c487) ?_
    refine lv_dcmp hx hb dX1_isSame_502 ?_
    refine lv_if_ne (tgt := 510) hx hb dX1_isSame_503 (by decide) (fun q => absurd ((h.mcmp c487)) q) (fun _ => ?_)
    refine lv_iconst (v := 1) hx hb dX1_isSame_506 (by decide) ?_
    refine lv_goto (tgt := 511) hx hb dX1_isSame_507 (by decide) ?_
    refine va_forget (fun q hq => hS.2.2 q hq) ?_
    refine W.widen (k := 7100) (n := 290000) (by omega) (by omega) ?_
    exact W.zret hx hb hr rfl (fun t ht hW => ⟨⟨_, (), rfl, rfl, trivial⟩, (oF hS ht)⟩) (fun _ h => nomatch h) dX1_isSame_511
  · rw [h.2.2.2.2.2.2.1, h.2.2.2.2.2.2.2, dMean, if_pos c487]
    refine lv_dconst0 hx hb dX1_isSame_490 ?_
    refine lv_goto (tgt := 502) hx hb dX1_isSame_491 (by decide) ?_
    refine lv_dcmp hx hb dX1_isSame_502 ?_
    refine lv_if_ne (tgt := 510) hx hb dX1_isSame_503 (by decide) (fun q => absurd mg_cmp0 q) (fun _ => ?_)
    refine lv_iconst (v := 1) hx hb dX1_isSame_506 (by decide) ?_
    refine lv_goto (tgt := 511) hx hb dX1_isSame_507 (by decide) ?_
    refine va_forget (fun q hq => hS.2.2 q hq) ?_
    refine W.widen (k := 7100) (n := 290000) (by omega) (by omega) ?_
    exact W.zret hx hb hr rfl (fun t ht hW => ⟨⟨_, (), rfl, rfl, trivial⟩, (oF hS ht)⟩) (fun _ h => nomatch h) dX1_isSame_511
set_option maxHeartbeats 4000000 in
set_option maxRecDepth 100000 in
theorem same_l2 (hC : SC p s m meth c E a b σ τ) {x7 : Int32} : ∀ (d i : Nat) (x4 x5 : Int32) (H : Heap) (locs : List Loc) (cells slots : Nat) (ls : Array Slot), i + d = mk τ → x4 = sumI (fun s => b2i (!mf τ (ms τ s))) i → x5 = sumI (fun s => if mGd τ (ms τ s) then gRegs σ s else 0) i → va_S (nA s) s.heap H locs → cells + 40 * d ≤ 7040 → slots + 1600 * d ≤ 281600 → lv_has ls 12 [(8, .int (nI i)), (7, .int x7), (6, .int ((gRf σ).1)), (5, .int x5), (4, .int x4), (3, .int (mSum τ)), (2, .int (mXn τ)), (1, .ref (a 0)), (0, .ref (b 0))] → sW p l e s m below meth c a b H locs cells slots 306 ls [] := by
  obtain ⟨S, hr, hlocks, hK, hg0, hP0, h, q⟩ := id hC
  obtain ⟨hx, hb, hml, hown, hts⟩ := id S
  have hts1 := hinX1_isSame
  have n4 := h.1.1
  have k8 := h.1.2.1
  intro d
  induction d with
  | zero =>
    intro i x4 x5 H locs cells slots ls hi h4 h5 hS hcs hss hl
    obtain rfl : i = mk τ := by omega
    have e4 : x4 = mAt τ := h4
    have e5 : x5 = gAll σ := by rw [h5, gAll, h.k]; exact sum_cong (fun s hs => by rw [h.st, h.has (h.mok.2.2.2.2.2.2.2.2 s hs)])
    rw [e4, e5] at hl
    refine lv_iload hx hb dX1_isSame_306 (lv_at hl 0 rfl) ?_
    refine lv_aload_n hx hb dX1_isSame_308 rfl (lv_at hl 8 rfl) ?_
    refine s_get hx hb hts hts1 hown hK (hP0.up (nA_up hS)) 1 (by decide) (by decide +kernel) rfl rfl dX1_isSame_309 ?_
    refine s_alenR hx hb hK (si_s (hP0.up (nA_up hS))) dX1_isSame_312 ?_
    refine lv_icmp_ge (tgt := 409) hx hb dX1_isSame_313 (by decide) (fun _ => ?_) (fun q => absurd ((nI_le (Nat.le_refl _) (by omega))) q)
    exact same_e hC hS (by omega) (by omega) (lv_sub hl [2, 3, 4, 5, 6, 7, 8] rfl)
  | succ d ih =>
    intro i x4 x5 H locs cells slots ls hi h4 h5 hS hcs hss hl
    exact same_t hC (by omega) hS (by omega) (by omega) hl (fun y4 y5 H locs cl sl ls e4 e5 hS h1 h2 hl => ih (i + 1) y4 y5 H locs cl sl ls (by omega) (by rw [e4, h4]; rfl) (by rw [e5, h5]; rfl) hS (by omega) (by omega) hl)
set_option maxHeartbeats 4000000 in
set_option maxRecDepth 100000 in
theorem same_l1 (hC : SC p s m meth c E a b σ τ) : ∀ (d : Nat) (x2 x3 x6 x7 : Int32) (H : Heap) (locs : List Loc) (cells slots : Nat) (ls : Array Slot), d ≤ mn τ → x2 + sumI (fun p => b2i (!mf τ p)) d = mXn τ → x3 + sumI (fun p => if mGd τ p then md τ p else 0) d = mSum τ → rkB σ τ d (mn τ) (x6, x7) → va_S (nA s) s.heap H locs → cells + 168 * d ≤ 6720 → slots + 6720 * d ≤ 268800 → lv_has ls 12 [(8, .int (nI d + (-1))), (7, .int x7), (6, .int x6), (5, .int 0), (4, .int 0), (3, .int x3), (2, .int x2), (1, .ref (a 0)), (0, .ref (b 0))] → sW p l e s m below meth c a b H locs cells slots 25 ls [] := by
  obtain ⟨S, hr, hlocks, hK, hg0, hP0, h, q⟩ := id hC
  obtain ⟨hx, hb, hml, hown, hts⟩ := id S
  have hts1 := hinX1_isSame
  have n4 := h.1.1
  have k8 := h.1.2.1
  intro d
  induction d with
  | zero =>
    intro x2 x3 x6 x7 H locs cells slots ls hd h2 h3 hrk hS hcs hss hl
    obtain rfl : x2 = mXn τ := (Int32.add_zero x2).symm.trans h2
    obtain rfl : x3 = mSum τ := (Int32.add_zero x3).symm.trans h3
    have e6 : x6 = (gRf σ).1 := congrArg Prod.fst (rkB_eq hrk (h.rkR q))
    rw [e6] at hl
    refine lv_iload hx hb dX1_isSame_25 (lv_at hl 0 rfl) ?_
    refine lv_if_lt (tgt := 303) hx hb dX1_isSame_27 (by decide) (fun _ => ?_) (fun q => absurd ((by decide)) q)
    refine lv_iconst (v := 0) hx hb dX1_isSame_303 (by decide) ?_
    refine lv_istore (lv' := [(8, .int 0), (7, .int x7), (6, .int ((gRf σ).1)), (5, .int 0), (4, .int 0), (3, .int (mSum τ)), (2, .int (mXn τ)), (1, .ref (a 0)), (0, .ref (b 0))]) hx hb dX1_isSame_304 hl (by decide) rfl (fun ls hl => ?_)
    exact same_l2 hC (mk τ) 0 0 0 H locs _ _ ls (by omega) rfl rfl hS (by omega) (by omega) (lv_sub hl [0, 1, 2, 3, 4, 5, 6, 7, 8] rfl)
  | succ d ih =>
    intro x2 x3 x6 x7 H locs cells slots ls hd h2 h3 hrk hS hcs hss hl
    rw [pk_m1 d] at hl
    have h2 := isum_dn h2
    have h3 := isum_dn h3
    by_cases hf : mf τ d = true
    · have hg : mGd τ d = false := by rw [mGd, hf]; rfl
      rw [hf] at h2
      rw [hg] at h3
      exact same_f hC (by omega) hf hg hS (by omega) (by omega) hrk hl (fun y2 y3 y6 y7 H locs cl sl ls e2 e3 hrk hS h1 h4 hl => ih y2 y3 y6 y7 H locs cl sl ls (by omega) (by rw [e2]; exact h2) (by rw [e3]; exact h3) hrk hS (by omega) (by omega) hl)
    · have hf := ts_nt hf
      rw [hf] at h2
      by_cases hu : md τ d < 0
      · have hg : mGd τ d = false := by
          rcases ((q d (by omega)).1 hf).2 with z | ⟨g, _, g2, z⟩
          · rw [mGd, z]; exact Bool.and_false _
          · rw [z] at hu; exact absurd hu (nI_pos (by have := (h.e (p := d) (by omega) hf).2.2.2.1; omega))
        rw [hg] at h3
        exact same_u hC (by omega) hf hg hu hS (by omega) (by omega) hrk hl (fun y2 y3 y6 y7 H locs cl sl ls e2 e3 hrk hS h1 h4 hl => ih y2 y3 y6 y7 H locs cl sl ls (by omega) (by rw [e2]; exact h2) (by rw [e3]; exact h3) hrk hS (by omega) (by omega) hl)
      · have hg : mGd τ d = true := by
          rw [mGd, hf, decide_eq_false (fun z => hu (by rw [z]; decide))]; rfl
        rw [hg] at h3
        exact same_g hC (by omega) hf hg hu hS (by omega) (by omega) hrk hl (fun y2 y3 y6 y7 H locs cl sl ls e2 e3 hrk hS h1 h4 hl => ih y2 y3 y6 y7 H locs cl sl ls (by omega) (by rw [e2]; exact h2) (by rw [e3]; exact h3) hrk hS (by omega) (by omega) hl)
end SAME
set_option maxHeartbeats 4000000 in
set_option maxRecDepth 100000 in
theorem c_isSame (l : Launch) (E : GE) (a b : Nat → Nat) (σ : GS) (τ : MS) (h : RR σ τ) (q : RQ τ) : Met l yX1_isSame wsX1_isSame sRm (va_Pc [.ref (b 0), .ref (a 0)] (gH E (sBoth E a b σ τ))) (gQN 1) 7100 290000 (fun _ => False) := by
  refine w_met (cc := cX1_isSame) (maxL := 12) (ret := some .boolean) (by decide) rfl (Nat.le_of_ble_eq_true rfl) ?_
  intro p e s m below meth c ls S hr hlocks hname hB hl
  obtain ⟨⟨hg0, hP0⟩, hK⟩ := hB
  have hC : SC p s m meth c E a b σ τ := ⟨S, hr, hlocks, hK, hg0, hP0, h, q⟩
  have hS : va_S (nA s) s.heap s.heap [] := va_S.rf
  obtain ⟨hx, hb, hml, hown, hts⟩ := id S
  have n4 := h.1.1
  have k8 := h.1.2.1
  have hts1 := hinX1_isSame
  have hl : lv_has ls 12 [(0, .ref (b 0)), (1, .ref (a 0))] := hl
  refine lv_iconst (v := 0) hx hb dX1_isSame_0 (by decide) ?_
  refine lv_istore_n (lv' := [(2, .int 0), (0, .ref (b 0)), (1, .ref (a 0))]) hx hb dX1_isSame_1 rfl hl (by decide) rfl (fun ls hl => ?_)
  refine lv_iconst (v := 0) hx hb dX1_isSame_2 (by decide) ?_
  refine lv_istore_n (lv' := [(3, .int 0), (2, .int 0), (0, .ref (b 0)), (1, .ref (a 0))]) hx hb dX1_isSame_3 rfl hl (by decide) rfl (fun ls hl => ?_)
  refine lv_iconst (v := 0) hx hb dX1_isSame_4 (by decide) ?_
  refine lv_istore (lv' := [(4, .int 0), (3, .int 0), (2, .int 0), (0, .ref (b 0)), (1, .ref (a 0))]) hx hb dX1_isSame_5 hl (by decide) rfl (fun ls hl => ?_)
  refine lv_iconst (v := 0) hx hb dX1_isSame_7 (by decide) ?_
  refine lv_istore (lv' := [(5, .int 0), (4, .int 0), (3, .int 0), (2, .int 0), (0, .ref (b 0)), (1, .ref (a 0))]) hx hb dX1_isSame_8 hl (by decide) rfl (fun ls hl => ?_)
  refine lv_iconst (v := -1) hx hb dX1_isSame_10 (by decide) ?_
  refine lv_istore (lv' := [(6, .int ((-1))), (5, .int 0), (4, .int 0), (3, .int 0), (2, .int 0), (0, .ref (b 0)), (1, .ref (a 0))]) hx hb dX1_isSame_11 hl (by decide) rfl (fun ls hl => ?_)
  refine lv_iconst (v := -1) hx hb dX1_isSame_13 (by decide) ?_
  refine lv_istore (lv' := [(7, .int ((-1))), (6, .int ((-1))), (5, .int 0), (4, .int 0), (3, .int 0), (2, .int 0), (0, .ref (b 0)), (1, .ref (a 0))]) hx hb dX1_isSame_14 hl (by decide) rfl (fun ls hl => ?_)
  refine lv_aload_n hx hb dX1_isSame_16 rfl (lv_at hl 6 rfl) ?_
  refine s_get hx hb hts hts1 hown hK (hP0.up (nA_up hS)) 0 (by decide) (by decide +kernel) rfl rfl dX1_isSame_17 ?_
  refine s_alenR hx hb hK (si_p (hP0.up (nA_up hS))) dX1_isSame_20 ?_
  refine lv_iconst (v := 1) hx hb dX1_isSame_21 (by decide) ?_
  refine lv_isub hx hb dX1_isSame_22 ?_
  refine lv_istore (lv' := [(8, .int ((nI (mn τ)) - 1)), (7, .int ((-1))), (6, .int ((-1))), (5, .int 0), (4, .int 0), (3, .int 0), (2, .int 0), (0, .ref (b 0)), (1, .ref (a 0))]) hx hb dX1_isSame_23 hl (by decide) rfl (fun ls hl => ?_)
  exact same_l1 hC (mn τ) 0 0 (-1) (-1) s.heap [] 0 0 ls (Nat.le_refl _) (Int32.zero_add _) (Int32.zero_add _) (Or.inl ⟨fun x h1 h2 => absurd h1 (by omega), rfl⟩) hS (by omega) (by omega) (by rw [← Int32.sub_eq_add_neg]; exact lv_sub hl [0, 1, 2, 3, 4, 5, 6, 8, 7] rfl)
