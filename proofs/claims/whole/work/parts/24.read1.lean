
/-! the reference's methods, told of its state -/
def iIn (v lo hi : Int32) : Bool := !(decide (v < lo) || decide (hi < v))
def mIsP (τ : MS) (p : Int32) : Bool := iIn p 0 (nI (mn τ) - 1)
def mIsS (τ : MS) (p : Int32) : Bool := iIn p 0 (nI (mk τ) - 1)
def bitL (x : Int64) (o : Nat) : Bool := x.toBitVec.getLsbD o
theorem bitL_shr (x : Int64) (o : Nat) (h : o < 63) : ((x >>> ((nI o).toInt64 &&& 63)) &&& 1 = 1) ↔ bitL x o = true := by
  have e1 : (x >>> ((nI o).toInt64 &&& 63)).toBitVec = x.toBitVec.sshiftRight o := by
    rw [Int64.toBitVec_shiftRight, wb_c o (by omega), lN_bv, wb_sm o (by omega), BitVec.sshiftRight_eq', BitVec.toNat_ofNat, Nat.mod_eq_of_lt (by omega)]
  have e2 : ((x >>> ((nI o).toInt64 &&& 63)) &&& 1).toBitVec = (x.toBitVec.sshiftRight o) &&& 1#64 := by
    rw [Int64.toBitVec_and, e1]; rfl
  have hb : (x.toBitVec.sshiftRight o).getLsbD 0 = bitL x o := by
    rw [BitVec.getLsbD_sshiftRight, bitL]
    simp [show o < 64 by omega]
  constructor
  · intro h1
    have h2 := congrArg (fun z : Int64 => z.toBitVec.getLsbD 0) h1
    simp only [e2, BitVec.getLsbD_and, hb] at h2
    cases hbo : bitL x o
    · rw [hbo] at h2; revert h2; decide
    · rfl
  · intro h1
    apply Int64.toBitVec_inj.mp
    rw [e2]
    apply BitVec.eq_of_getLsbD_eq
    intro i hi
    rw [BitVec.getLsbD_and]
    by_cases hz : i = 0
    · subst hz
      rw [hb, h1]; rfl
    · have : (1#64).getLsbD i = false := by
        rw [BitVec.getLsbD_one]; simp; omega
      rw [this, Bool.and_false]
      show false = (1#64).getLsbD i
      rw [this]
def mTo (τ : MS) (k : Nat) (b : Bool) : Nat := if b then mh τ k else mo τ k
def mRisk (τ : MS) (k : Nat) (b : Bool) : Int32 := imx 0 (mv τ (mTo τ k (!b)) - mu τ (mTo τ k b)) * md τ k
def mPl (τ : MS) (k : Nat) : Bool := decide (mRisk τ k true < mRisk τ k false)
def mLd (τ : MS) : Nat → Nat → Nat
  | 0, p => p
  | f + 1, p => if mf τ p then mLd τ f (mTo τ p (mPl τ p)) else p
def mEx (τ : MS) (p o : Nat) : Bool := bitL (mr τ p) o && !mf τ o
def mEf (τ : MS) (p : Nat) : Int32 := sumI (fun o => b2i (mEx τ p o)) (p + 1)
def mRf (τ : MS) : Int32 × Int32 := amx nI (fun p => if mf τ p then imn (mRisk τ p true) (mRisk τ p false) else -1) (-1, -1) (mn τ)
def mBf (h : Nat → Bool) (v : Nat → Int32) : Nat → Int32
  | 0 => 0
  | n + 1 => if h n then imx (mBf h v n) (v n) else mBf h v n
def mBh (τ : MS) (f : Nat) : Int32 := mBf (mEx τ f) (md τ) f
def mGd (τ : MS) (p : Nat) : Bool := !mf τ p && !decide (md τ p = -1)
def mReg (τ : MS) (s j : Nat) : Int32 := imx 0 (mBh τ (mw τ (40 * s + j)) - md τ (ms τ s)) * md τ (mw τ (40 * s + j))
def mRegs (τ : MS) (s : Nat) : Int32 := sumI (mReg τ s) (mp τ s)
def mAll (τ : MS) : Int32 := sumI (fun s => if mGd τ (ms τ s) then mRegs τ s else 0) (mk τ)
def mGn (τ : MS) : Int32 := sumI (fun p => b2i (mGd τ p)) (mn τ)
def mXn (τ : MS) : Int32 := sumI (fun p => b2i (!mf τ p)) (mn τ)
def mAt (τ : MS) : Int32 := sumI (fun s => b2i (!mf τ (ms τ s))) (mk τ)
def mWf (τ : MS) (s : Nat) : Int32 × Int32 := amx (fun j => nI (mw τ (40 * s + j))) (mReg τ s) (-1, 0) (mp τ s)
def MOK (τ : MS) : Prop := mn τ ≤ 40 ∧ mk τ ≤ 8 ∧ (∀ j, mo τ j < 40) ∧ (∀ j, mh τ j < 40) ∧ (∀ j, ms τ j < 40) ∧ (∀ j, mw τ j < 40) ∧ (∀ j, ms τ j + mp τ j ≤ 39) ∧ (∀ p, mf τ p = true → mo τ p < p ∧ mh τ p < p) ∧ (∀ s, s < mk τ → ms τ s < mn τ)
theorem mTo_lt {τ : MS} (h : MOK τ) (k : Nat) (b : Bool) : mTo τ k b < 40 := by
  unfold mTo
  split
  · exact h.2.2.2.1 k
  · exact h.2.2.1 k
theorem mTo_dn {τ : MS} (h : MOK τ) {k : Nat} (hk : mf τ k = true) (b : Bool) : mTo τ k b < k := by
  have q := h.2.2.2.2.2.2.2.1 k hk
  unfold mTo
  split
  · exact q.2
  · exact q.1
theorem hdX1_isIn : yX1_isIn.cls = RX1 ∧ yX1_isIn.cls ≠ "java/lang/invoke/MethodHandle" ∧ yX1_isIn.cls ≠ "java/lang/invoke/VarHandle" ∧ (parseMethodDescriptor yX1_isIn.desc).map (fun d => d.parameters.length) = some 3 := by decide +kernel
set_option maxHeartbeats 4000000 in
set_option maxRecDepth 100000 in
theorem m_isIn (l : Launch) (E : GE) (v lo hi : Int32) : Met l yX1_isIn wsX1_isIn rmZ (va_Pc [.int v, .int lo, .int hi] (gB E [])) (vp_Si (fun r => r = b2i (iIn v lo hi))) 0 0 (fun _ => False) := by
  refine w_met (cc := cX1_isIn) (maxL := 3) (ret := some .boolean) (by decide) rfl (Nat.le_of_ble_eq_true rfl) ?_
  intro p e s m below meth c ls S hr hlocks hname hB hl
  obtain ⟨hx, hb, hml, hown, hts⟩ := id S
  have hl : lv_has ls 3 [(0, .int v), (1, .int lo), (2, .int hi)] := hl
  refine lv_iload_n hx hb dX1_isIn_0 rfl (lv_at hl 0 rfl) ?_
  refine lv_iload_n hx hb dX1_isIn_1 rfl (lv_at hl 1 rfl) ?_
  refine lv_icmp_lt (tgt := 14) hx hb dX1_isIn_2 (by decide) (fun c2 => ?_) (fun c2 => ?_)
  · refine lv_iconst (v := 0) hx hb dX1_isIn_14 (by decide) ?_
    exact W.zret hx hb hr rfl (fun t ht hW => ⟨_, rfl, (by rw [iIn, decide_eq_true c2]; rfl), ht⟩) (fun _ h => nomatch h) dX1_isIn_15
  · refine lv_iload_n hx hb dX1_isIn_5 rfl (lv_at hl 0 rfl) ?_
    refine lv_iload_n hx hb dX1_isIn_6 rfl (lv_at hl 2 rfl) ?_
    refine lv_icmp_gt (tgt := 14) hx hb dX1_isIn_7 (by decide) (fun c7 => ?_) (fun c7 => ?_)
    · refine lv_iconst (v := 0) hx hb dX1_isIn_14 (by decide) ?_
      exact W.zret hx hb hr rfl (fun t ht hW => ⟨_, rfl, (by rw [iIn, decide_eq_false c2, decide_eq_true c7]; rfl), ht⟩) (fun _ h => nomatch h) dX1_isIn_15
    · refine lv_iconst (v := 1) hx hb dX1_isIn_10 (by decide) ?_
      refine lv_goto (tgt := 15) hx hb dX1_isIn_11 (by decide) ?_
      exact W.zret hx hb hr rfl (fun t ht hW => ⟨_, rfl, (by rw [iIn, decide_eq_false c2, decide_eq_false c7]; rfl), ht⟩) (fun _ h => nomatch h) dX1_isIn_15
theorem hinX1_isPlace : ∀ w ∈ wsX10, w ∈ wsX1_isPlace := fun w h => List.mem_cons_of_mem _ (List.mem_append_right _ h)
theorem hdX1_isPlace : yX1_isPlace.cls = RX1 ∧ yX1_isPlace.cls ≠ "java/lang/invoke/MethodHandle" ∧ yX1_isPlace.cls ≠ "java/lang/invoke/VarHandle" ∧ (parseMethodDescriptor yX1_isPlace.desc).map (fun d => d.parameters.length) = some 1 := by decide +kernel
set_option maxHeartbeats 4000000 in
set_option maxRecDepth 100000 in
theorem m_isPlace (l : Launch) (E : GE) (a : Nat → Nat) (τ : MS) (pp : Int32) : Met l yX1_isPlace wsX1_isPlace { frames := 1, cells := 0, slots := 0, locals := 22 } (va_Pc [.ref (a 0), .int pp] (gB E (mW E a τ))) (vp_Si (fun r => r = b2i (mIsP τ pp))) 0 0 (fun _ => False) := by
  refine w_met (cc := cX1_isPlace) (maxL := 2) (ret := (some .boolean)) (by decide) rfl (Nat.le_of_ble_eq_true rfl) ?_
  intro p e s m below meth c ls S hr hlocks hname hB hl
  obtain ⟨hP, hK⟩ := hB
  obtain ⟨hx, hb, hml, hown, hts⟩ := id S
  have hts0 := hinX1_isPlace
  have hl : lv_has ls 2 [(0, .ref (a 0)), (1, .int pp)] := hl
  refine lv_iload_n hx hb dX1_isPlace_0 rfl (lv_at hl 1 rfl) ?_
  refine lv_iconst (v := 0) hx hb dX1_isPlace_1 (by decide) ?_
  refine lv_aload_n hx hb dX1_isPlace_2 rfl (lv_at hl 0 rfl) ?_
  refine m_get (τ := τ) hx hb hts hts0 hown hK hP 1 (by decide) (by decide +kernel) rfl rfl dX1_isPlace_3 ?_
  refine lv_iconst (v := 1) hx hb dX1_isPlace_6 (by decide) ?_
  refine lv_isub hx hb dX1_isPlace_7 ?_
  refine g_si (As := [.int pp, .int 0, .int ((nI (mn τ)) - 1)]) (rest := []) S (m_isIn l E pp 0 ((nI (mn τ)) - 1)) (va_cwS 3 hts gX1_isPlace_X1_isIn rfl rfl rfl hdX1_isIn.2 ⟨Nat.le_of_ble_eq_true rfl, Nat.le_of_ble_eq_true rfl⟩) hK (fun _ _ h => nomatch h) rfl hl.1 rfl (Nat.le_of_ble_eq_true rfl) ⟨Nat.zero_le _, Nat.zero_le _⟩ dX1_isPlace_8 ?_
  exact W.zret hx hb hr (b2i_nar _) (fun t ht hW => ⟨_, rfl, rfl, ht⟩) (fun _ h => nomatch h) dX1_isPlace_11
theorem hinX1_isStudent : ∀ w ∈ wsX10, w ∈ wsX1_isStudent := fun w h => List.mem_cons_of_mem _ (List.mem_append_right _ h)
theorem hdX1_isStudent : yX1_isStudent.cls = RX1 ∧ yX1_isStudent.cls ≠ "java/lang/invoke/MethodHandle" ∧ yX1_isStudent.cls ≠ "java/lang/invoke/VarHandle" ∧ (parseMethodDescriptor yX1_isStudent.desc).map (fun d => d.parameters.length) = some 1 := by decide +kernel
set_option maxHeartbeats 4000000 in
set_option maxRecDepth 100000 in
theorem m_isStudent (l : Launch) (E : GE) (a : Nat → Nat) (τ : MS) (pp : Int32) : Met l yX1_isStudent wsX1_isStudent { frames := 1, cells := 0, slots := 0, locals := 22 } (va_Pc [.ref (a 0), .int pp] (gB E (mW E a τ))) (vp_Si (fun r => r = b2i (mIsS τ pp))) 0 0 (fun _ => False) := by
  refine w_met (cc := cX1_isStudent) (maxL := 2) (ret := (some .boolean)) (by decide) rfl (Nat.le_of_ble_eq_true rfl) ?_
  intro p e s m below meth c ls S hr hlocks hname hB hl
  obtain ⟨hP, hK⟩ := hB
  obtain ⟨hx, hb, hml, hown, hts⟩ := id S
  have hts0 := hinX1_isStudent
  have hl : lv_has ls 2 [(0, .ref (a 0)), (1, .int pp)] := hl
  refine lv_iload_n hx hb dX1_isStudent_0 rfl (lv_at hl 1 rfl) ?_
  refine lv_iconst (v := 0) hx hb dX1_isStudent_1 (by decide) ?_
  refine lv_aload_n hx hb dX1_isStudent_2 rfl (lv_at hl 0 rfl) ?_
  refine m_get (τ := τ) hx hb hts hts0 hown hK hP 2 (by decide) (by decide +kernel) rfl rfl dX1_isStudent_3 ?_
  refine lv_iconst (v := 1) hx hb dX1_isStudent_6 (by decide) ?_
  refine lv_isub hx hb dX1_isStudent_7 ?_
  refine g_si (As := [.int pp, .int 0, .int ((nI (mk τ)) - 1)]) (rest := []) S (m_isIn l E pp 0 ((nI (mk τ)) - 1)) (va_cwS 3 hts gX1_isStudent_X1_isIn rfl rfl rfl hdX1_isIn.2 ⟨Nat.le_of_ble_eq_true rfl, Nat.le_of_ble_eq_true rfl⟩) hK (fun _ _ h => nomatch h) rfl hl.1 rfl (Nat.le_of_ble_eq_true rfl) ⟨Nat.zero_le _, Nat.zero_le _⟩ dX1_isStudent_8 ?_
  exact W.zret hx hb hr (b2i_nar _) (fun t ht hW => ⟨_, rfl, rfl, ht⟩) (fun _ h => nomatch h) dX1_isStudent_11
theorem hinX1_isExamAt : ∀ w ∈ wsX10, w ∈ wsX1_isExamAt := fun w h => List.mem_cons_of_mem _ (List.mem_append_right _ h)
theorem hdX1_isExamAt : yX1_isExamAt.cls = RX1 ∧ yX1_isExamAt.cls ≠ "java/lang/invoke/MethodHandle" ∧ yX1_isExamAt.cls ≠ "java/lang/invoke/VarHandle" ∧ (parseMethodDescriptor yX1_isExamAt.desc).map (fun d => d.parameters.length) = some 1 := by decide +kernel
set_option maxHeartbeats 4000000 in
set_option maxRecDepth 100000 in
theorem m_isExamAt (l : Launch) (E : GE) (a : Nat → Nat) (τ : MS) (k : Nat) (hk : k < 40) (hp : mIsP τ (nI k) = true) : Met l yX1_isExamAt wsX1_isExamAt { frames := 2, cells := 0, slots := 0, locals := 43 } (va_Pc [.ref (a 0), .int (nI k)] (gB E (mW E a τ))) (vp_Si (fun r => r = b2i (!mf τ k))) 0 0 (fun _ => False) := by
  refine w_met (cc := cX1_isExamAt) (maxL := 2) (ret := (some .boolean)) (by decide) rfl (Nat.le_of_ble_eq_true rfl) ?_
  intro p e s m below meth c ls S hr hlocks hname hB hl
  obtain ⟨hP, hK⟩ := hB
  obtain ⟨hx, hb, hml, hown, hts⟩ := id S
  have hts0 := hinX1_isExamAt
  have hl : lv_has ls 2 [(0, .ref (a 0)), (1, .int (nI k))] := hl
  refine lv_aload_n hx hb dX1_isExamAt_0 rfl (lv_at hl 0 rfl) ?_
  refine lv_iload_n hx hb dX1_isExamAt_1 rfl (lv_at hl 1 rfl) ?_
  refine m0i (As := [.int (nI k)]) (rest := []) S (m_isPlace l E a τ (nI k)) (cwV 1 hts gX1_isExamAt_X1_isPlace rfl rfl rfl hdX1_isPlace ⟨Nat.le_of_ble_eq_true rfl, Nat.le_of_ble_eq_true rfl⟩) hK hP rfl hl.1 rfl (Nat.le_of_ble_eq_true rfl) ⟨Nat.zero_le _, Nat.zero_le _⟩ dX1_isExamAt_2 ?_
  refine lv_if_eq (tgt := 21) hx hb dX1_isExamAt_5 (by decide) (fun q => absurd q ((b2i_ne0.mpr hp))) (fun _ => ?_)
  refine lv_aload_n hx hb dX1_isExamAt_8 rfl (lv_at hl 0 rfl) ?_
  refine m_get (τ := τ) hx hb hts hts0 hown hK hP 3 (by decide) (by decide +kernel) rfl rfl dX1_isExamAt_9 ?_
  refine lv_iload_n hx hb dX1_isExamAt_12 rfl (lv_at hl 1 rfl) ?_
  refine g_zld hx hb hK hP 1 rfl (v := b2i (mf τ k)) (vp_in_nI (by omega) (by decide)) (by rw [nI_clamp (by omega)] <;> rfl) dX1_isExamAt_13 ?_
  refine lv_if_ne (tgt := 21) hx hb dX1_isExamAt_14 (by decide) (fun c14 => ?_) (fun c14 => ?_)
  · refine lv_iconst (v := 0) hx hb dX1_isExamAt_21 (by decide) ?_
    exact W.zret hx hb hr rfl (fun t ht hW => ⟨_, rfl, (by first | (rw [b2i_eq0.mp c14]; rfl) | (rw [b2i_ne0.mp c14]; rfl)), ht⟩) (fun _ h => nomatch h) dX1_isExamAt_22
  · refine lv_iconst (v := 1) hx hb dX1_isExamAt_17 (by decide) ?_
    refine lv_goto (tgt := 22) hx hb dX1_isExamAt_18 (by decide) ?_
    exact W.zret hx hb hr rfl (fun t ht hW => ⟨_, rfl, (by first | (rw [b2i_eq0.mp c14]; rfl) | (rw [b2i_ne0.mp c14]; rfl)), ht⟩) (fun _ h => nomatch h) dX1_isExamAt_22
set_option maxHeartbeats 4000000 in
set_option maxRecDepth 100000 in
theorem m_isExamAt_b (l : Launch) (E : GE) (a : Nat → Nat) (τ : MS) (pp : Int32) (hp : mIsP τ pp = false) : Met l yX1_isExamAt wsX1_isExamAt { frames := 2, cells := 0, slots := 0, locals := 43 } (va_Pc [.ref (a 0), .int pp] (gB E (mW E a τ))) (vp_Si (fun r => r = b2i false)) 0 0 (fun _ => False) := by
  refine w_met (cc := cX1_isExamAt) (maxL := 2) (ret := (some .boolean)) (by decide) rfl (Nat.le_of_ble_eq_true rfl) ?_
  intro p e s m below meth c ls S hr hlocks hname hB hl
  obtain ⟨hP, hK⟩ := hB
  obtain ⟨hx, hb, hml, hown, hts⟩ := id S
  have hts0 := hinX1_isExamAt
  have hl : lv_has ls 2 [(0, .ref (a 0)), (1, .int pp)] := hl
  refine lv_aload_n hx hb dX1_isExamAt_0 rfl (lv_at hl 0 rfl) ?_
  refine lv_iload_n hx hb dX1_isExamAt_1 rfl (lv_at hl 1 rfl) ?_
  refine m0i (As := [.int pp]) (rest := []) S (m_isPlace l E a τ pp) (cwV 1 hts gX1_isExamAt_X1_isPlace rfl rfl rfl hdX1_isPlace ⟨Nat.le_of_ble_eq_true rfl, Nat.le_of_ble_eq_true rfl⟩) hK hP rfl hl.1 rfl (Nat.le_of_ble_eq_true rfl) ⟨Nat.zero_le _, Nat.zero_le _⟩ dX1_isExamAt_2 ?_
  refine lv_if_eq (tgt := 21) hx hb dX1_isExamAt_5 (by decide) (fun _ => ?_) (fun q => absurd ((b2i_eq0.mpr hp)) q)
  refine lv_iconst (v := 0) hx hb dX1_isExamAt_21 (by decide) ?_
  exact W.zret hx hb hr rfl (fun t ht hW => ⟨_, rfl, rfl, ht⟩) (fun _ h => nomatch h) dX1_isExamAt_22
theorem hinX1_isForkAt : ∀ w ∈ wsX10, w ∈ wsX1_isForkAt := fun w h => List.mem_cons_of_mem _ (List.mem_append_right _ h)
theorem hdX1_isForkAt : yX1_isForkAt.cls = RX1 ∧ yX1_isForkAt.cls ≠ "java/lang/invoke/MethodHandle" ∧ yX1_isForkAt.cls ≠ "java/lang/invoke/VarHandle" ∧ (parseMethodDescriptor yX1_isForkAt.desc).map (fun d => d.parameters.length) = some 1 := by decide +kernel
set_option maxHeartbeats 4000000 in
set_option maxRecDepth 100000 in
theorem m_isForkAt (l : Launch) (E : GE) (a : Nat → Nat) (τ : MS) (k : Nat) (hk : k < 40) (hp : mIsP τ (nI k) = true) : Met l yX1_isForkAt wsX1_isForkAt { frames := 2, cells := 0, slots := 0, locals := 43 } (va_Pc [.ref (a 0), .int (nI k)] (gB E (mW E a τ))) (vp_Si (fun r => r = b2i (mf τ k))) 0 0 (fun _ => False) := by
  refine w_met (cc := cX1_isForkAt) (maxL := 2) (ret := (some .boolean)) (by decide) rfl (Nat.le_of_ble_eq_true rfl) ?_
  intro p e s m below meth c ls S hr hlocks hname hB hl
  obtain ⟨hP, hK⟩ := hB
  obtain ⟨hx, hb, hml, hown, hts⟩ := id S
  have hts0 := hinX1_isForkAt
  have hl : lv_has ls 2 [(0, .ref (a 0)), (1, .int (nI k))] := hl
  refine lv_aload_n hx hb dX1_isForkAt_0 rfl (lv_at hl 0 rfl) ?_
  refine lv_iload_n hx hb dX1_isForkAt_1 rfl (lv_at hl 1 rfl) ?_
  refine m0i (As := [.int (nI k)]) (rest := []) S (m_isPlace l E a τ (nI k)) (cwV 1 hts gX1_isForkAt_X1_isPlace rfl rfl rfl hdX1_isPlace ⟨Nat.le_of_ble_eq_true rfl, Nat.le_of_ble_eq_true rfl⟩) hK hP rfl hl.1 rfl (Nat.le_of_ble_eq_true rfl) ⟨Nat.zero_le _, Nat.zero_le _⟩ dX1_isForkAt_2 ?_
  refine lv_if_eq (tgt := 21) hx hb dX1_isForkAt_5 (by decide) (fun q => absurd q ((b2i_ne0.mpr hp))) (fun _ => ?_)
  refine lv_aload_n hx hb dX1_isForkAt_8 rfl (lv_at hl 0 rfl) ?_
  refine m_get (τ := τ) hx hb hts hts0 hown hK hP 3 (by decide) (by decide +kernel) rfl rfl dX1_isForkAt_9 ?_
  refine lv_iload_n hx hb dX1_isForkAt_12 rfl (lv_at hl 1 rfl) ?_
  refine g_zld hx hb hK hP 1 rfl (v := b2i (mf τ k)) (vp_in_nI (by omega) (by decide)) (by rw [nI_clamp (by omega)] <;> rfl) dX1_isForkAt_13 ?_
  refine lv_if_eq (tgt := 21) hx hb dX1_isForkAt_14 (by decide) (fun c14 => ?_) (fun c14 => ?_)
  · refine lv_iconst (v := 0) hx hb dX1_isForkAt_21 (by decide) ?_
    exact W.zret hx hb hr rfl (fun t ht hW => ⟨_, rfl, (by first | (rw [b2i_eq0.mp c14]; rfl) | (rw [b2i_ne0.mp c14]; rfl)), ht⟩) (fun _ h => nomatch h) dX1_isForkAt_22
  · refine lv_iconst (v := 1) hx hb dX1_isForkAt_17 (by decide) ?_
    refine lv_goto (tgt := 22) hx hb dX1_isForkAt_18 (by decide) ?_
    exact W.zret hx hb hr rfl (fun t ht hW => ⟨_, rfl, (by first | (rw [b2i_eq0.mp c14]; rfl) | (rw [b2i_ne0.mp c14]; rfl)), ht⟩) (fun _ h => nomatch h) dX1_isForkAt_22
set_option maxHeartbeats 4000000 in
set_option maxRecDepth 100000 in
theorem m_isForkAt_b (l : Launch) (E : GE) (a : Nat → Nat) (τ : MS) (pp : Int32) (hp : mIsP τ pp = false) : Met l yX1_isForkAt wsX1_isForkAt { frames := 2, cells := 0, slots := 0, locals := 43 } (va_Pc [.ref (a 0), .int pp] (gB E (mW E a τ))) (vp_Si (fun r => r = b2i false)) 0 0 (fun _ => False) := by
  refine w_met (cc := cX1_isForkAt) (maxL := 2) (ret := (some .boolean)) (by decide) rfl (Nat.le_of_ble_eq_true rfl) ?_
  intro p e s m below meth c ls S hr hlocks hname hB hl
  obtain ⟨hP, hK⟩ := hB
  obtain ⟨hx, hb, hml, hown, hts⟩ := id S
  have hts0 := hinX1_isForkAt
  have hl : lv_has ls 2 [(0, .ref (a 0)), (1, .int pp)] := hl
  refine lv_aload_n hx hb dX1_isForkAt_0 rfl (lv_at hl 0 rfl) ?_
  refine lv_iload_n hx hb dX1_isForkAt_1 rfl (lv_at hl 1 rfl) ?_
  refine m0i (As := [.int pp]) (rest := []) S (m_isPlace l E a τ pp) (cwV 1 hts gX1_isForkAt_X1_isPlace rfl rfl rfl hdX1_isPlace ⟨Nat.le_of_ble_eq_true rfl, Nat.le_of_ble_eq_true rfl⟩) hK hP rfl hl.1 rfl (Nat.le_of_ble_eq_true rfl) ⟨Nat.zero_le _, Nat.zero_le _⟩ dX1_isForkAt_2 ?_
  refine lv_if_eq (tgt := 21) hx hb dX1_isForkAt_5 (by decide) (fun _ => ?_) (fun q => absurd ((b2i_eq0.mpr hp)) q)
  refine lv_iconst (v := 0) hx hb dX1_isForkAt_21 (by decide) ?_
  exact W.zret hx hb hr rfl (fun t ht hW => ⟨_, rfl, rfl, ht⟩) (fun _ h => nomatch h) dX1_isForkAt_22
theorem hinX1_has : ∀ w ∈ wsX10, w ∈ wsX1_has := fun w h => List.mem_cons_of_mem _ (List.mem_append_right _ h)
theorem hdX1_has : yX1_has.cls = RX1 ∧ yX1_has.cls ≠ "java/lang/invoke/MethodHandle" ∧ yX1_has.cls ≠ "java/lang/invoke/VarHandle" ∧ (parseMethodDescriptor yX1_has.desc).map (fun d => d.parameters.length) = some 2 := by decide +kernel
set_option maxHeartbeats 4000000 in
set_option maxRecDepth 100000 in
theorem m_has (l : Launch) (E : GE) (a : Nat → Nat) (τ : MS) (k o : Nat) (hk : k < 40) (ho : o < 63) : Met l yX1_has wsX1_has { frames := 0, cells := 0, slots := 0, locals := 0 } (va_Pc [.ref (a 0), .int (nI k), .int (nI o)] (gB E (mW E a τ))) (vp_Si (fun r => r = b2i (bitL (mr τ k) o))) 0 0 (fun _ => False) := by
  refine w_met (cc := cX1_has) (maxL := 3) (ret := (some .boolean)) (by decide) rfl (Nat.le_of_ble_eq_true rfl) ?_
  intro p e s m below meth c ls S hr hlocks hname hB hl
  obtain ⟨hP, hK⟩ := hB
  obtain ⟨hx, hb, hml, hown, hts⟩ := id S
  have hts0 := hinX1_has
  have hl : lv_has ls 3 [(0, .ref (a 0)), (1, .int (nI k)), (2, .int (nI o))] := hl
  refine lv_aload_n hx hb dX1_has_0 rfl (lv_at hl 0 rfl) ?_
  refine m_get (τ := τ) hx hb hts hts0 hown hK hP 7 (by decide) (by decide +kernel) rfl rfl dX1_has_1 ?_
  refine lv_iload_n hx hb dX1_has_4 rfl (lv_at hl 1 rfl) ?_
  refine g_lld hx hb hK hP 5 rfl (v := mr τ k) (vp_in_nI (by omega) (by decide)) (by rw [nI_clamp (by omega)] <;> rfl) dX1_has_5 ?_
  refine lv_iload_n hx hb dX1_has_6 rfl (lv_at hl 2 rfl) ?_
  refine lv_lshr hx hb dX1_has_7 rfl ?_
  refine lv_lconst (v := 1) hx hb dX1_has_8 (by decide) ?_
  refine lv_land hx hb dX1_has_9 ?_
  refine lv_lconst (v := 1) hx hb dX1_has_10 (by decide) ?_
  refine W.lcmp hx hb dX1_has_11 ?_
  refine lv_if_ne (tgt := 19) hx hb dX1_has_12 (by decide) (fun c12 => ?_) (fun c12 => ?_)
  · refine lv_iconst (v := 0) hx hb dX1_has_19 (by decide) ?_
    exact W.zret hx hb hr rfl (fun t ht hW => ⟨_, rfl, (by first | (rw [(bitL_shr _ _ ho).mp ((lg_cmp_eq _ _).mp c12)]; rfl) | (rw [Bool.eq_false_iff.mpr (fun h => c12 ((lg_cmp_eq _ _).mpr ((bitL_shr _ _ ho).mpr h)))]; rfl)), ht⟩) (fun _ h => nomatch h) dX1_has_20
  · refine lv_iconst (v := 1) hx hb dX1_has_15 (by decide) ?_
    refine lv_goto (tgt := 20) hx hb dX1_has_16 (by decide) ?_
    exact W.zret hx hb hr rfl (fun t ht hW => ⟨_, rfl, (by first | (rw [(bitL_shr _ _ ho).mp ((lg_cmp_eq _ _).mp c12)]; rfl) | (rw [Bool.eq_false_iff.mpr (fun h => c12 ((lg_cmp_eq _ _).mpr ((bitL_shr _ _ ho).mpr h)))]; rfl)), ht⟩) (fun _ h => nomatch h) dX1_has_20
theorem hinX1_riskOf : ∀ w ∈ wsX10, w ∈ wsX1_riskOf := fun w h => List.mem_cons_of_mem _ (List.mem_append_right _ h)
theorem hdX1_riskOf : yX1_riskOf.cls = RX1 ∧ yX1_riskOf.cls ≠ "java/lang/invoke/MethodHandle" ∧ yX1_riskOf.cls ≠ "java/lang/invoke/VarHandle" ∧ (parseMethodDescriptor yX1_riskOf.desc).map (fun d => d.parameters.length) = some 2 := by decide +kernel
set_option maxHeartbeats 4000000 in
set_option maxRecDepth 100000 in
theorem m_riskOf (l : Launch) (E : GE) (a : Nat → Nat) (τ : MS) (hO : MOK τ) (k : Nat) (hk : k < 40) (b : Bool) : Met l yX1_riskOf wsX1_riskOf { frames := 1, cells := 0, slots := 0, locals := 21 } (va_Pc [.ref (a 0), .int (nI k), .int (b2i b)] (gB E (mW E a τ))) (vp_Si (fun r => r = mRisk τ k b)) 0 0 (fun _ => False) := by
  refine w_met (cc := cX1_riskOf) (maxL := 5) (ret := (some .int)) (by decide) rfl (Nat.le_of_ble_eq_true rfl) ?_
  intro p e s m below meth c ls S hr hlocks hname hB hl
  obtain ⟨hP, hK⟩ := hB
  obtain ⟨hx, hb, hml, hown, hts⟩ := id S
  have t1 := hO.2.2.1 k
  have t2 := hO.2.2.2.1 k
  have hts0 := hinX1_riskOf
  rcases b with _ | _
  · have hl : lv_has ls 5 [(0, .ref (a 0)), (1, .int (nI k)), (2, .int (b2i false))] := hl
    refine lv_iload_n hx hb dX1_riskOf_0 rfl (lv_at hl 2 rfl) ?_
    refine lv_if_eq (tgt := 13) hx hb dX1_riskOf_1 (by decide) (fun _ => ?_) (fun q => absurd ((rfl : b2i false = 0)) q)
    refine lv_aload_n hx hb dX1_riskOf_13 rfl (lv_at hl 0 rfl) ?_
    refine m_get (τ := τ) hx hb hts hts0 hown hK hP 4 (by decide) (by decide +kernel) rfl rfl dX1_riskOf_14 ?_
    refine lv_iload_n hx hb dX1_riskOf_17 rfl (lv_at hl 1 rfl) ?_
    refine g_ild hx hb hK hP 2 rfl (v := nI (mo τ k)) (vp_in_nI (by omega) (by decide)) (by rw [nI_clamp (by omega)] <;> rfl) dX1_riskOf_18 ?_
    refine lv_istore_n (lv' := [(3, .int (nI (mo τ k))), (0, .ref (a 0)), (1, .int (nI k)), (2, .int (b2i false))]) hx hb dX1_riskOf_19 rfl hl (by decide) rfl (fun ls hl => ?_)
    refine lv_iload_n hx hb dX1_riskOf_20 rfl (lv_at hl 3 rfl) ?_
    refine lv_if_eq (tgt := 33) hx hb dX1_riskOf_21 (by decide) (fun _ => ?_) (fun q => absurd ((rfl : b2i false = 0)) q)
    refine lv_aload_n hx hb dX1_riskOf_33 rfl (lv_at hl 1 rfl) ?_
    refine m_get (τ := τ) hx hb hts hts0 hown hK hP 5 (by decide) (by decide +kernel) rfl rfl dX1_riskOf_34 ?_
    refine lv_iload_n hx hb dX1_riskOf_37 rfl (lv_at hl 2 rfl) ?_
    refine g_ild hx hb hK hP 3 rfl (v := nI (mh τ k)) (vp_in_nI (by omega) (by decide)) (by rw [nI_clamp (by omega)] <;> rfl) dX1_riskOf_38 ?_
    refine lv_istore (lv' := [(4, .int (nI (mh τ k))), (3, .int (nI (mo τ k))), (0, .ref (a 0)), (1, .int (nI k)), (2, .int (b2i false))]) hx hb dX1_riskOf_39 hl (by decide) rfl (fun ls hl => ?_)
    refine lv_iconst (v := 0) hx hb dX1_riskOf_41 (by decide) ?_
    refine lv_aload_n hx hb dX1_riskOf_42 rfl (lv_at hl 2 rfl) ?_
    refine m_get (τ := τ) hx hb hts hts0 hown hK hP 9 (by decide) (by decide +kernel) rfl rfl dX1_riskOf_43 ?_
    refine lv_iload hx hb dX1_riskOf_46 (lv_at hl 0 rfl) ?_
    refine g_ild hx hb hK hP 7 rfl (v := mv τ (mh τ k)) (vp_in_nI (by omega) (by decide)) (by rw [nI_clamp (by omega)] <;> rfl) dX1_riskOf_48 ?_
    refine lv_aload_n hx hb dX1_riskOf_49 rfl (lv_at hl 2 rfl) ?_
    refine m_get (τ := τ) hx hb hts hts0 hown hK hP 8 (by decide) (by decide +kernel) rfl rfl dX1_riskOf_50 ?_
    refine lv_iload_n hx hb dX1_riskOf_53 rfl (lv_at hl 1 rfl) ?_
    refine g_ild hx hb hK hP 6 rfl (v := mu τ (mo τ k)) (vp_in_nI (by omega) (by decide)) (by rw [nI_clamp (by omega)] <;> rfl) dX1_riskOf_54 ?_
    refine lv_isub hx hb dX1_riskOf_55 ?_
    refine g_max hx hb (hml.trans hl.1.symm) hown (hts (.methodLink RX1 60 Lib.Math.max.name) (by decide +kernel)) (hts (.static Lib.Math.max.name) (by decide +kernel)) (hts (.initialized "java/lang/Math") (by decide +kernel)) (hts (.code Lib.Math.max.name Lib.Math.max.code 2 (some .int)) (by decide +kernel)) (Nat.le_of_ble_eq_true rfl) (Nat.le_of_ble_eq_true rfl) ⟨Nat.zero_le _, Nat.zero_le _⟩ dX1_riskOf_56 ?_
    refine lv_aload_n hx hb dX1_riskOf_59 rfl (lv_at hl 2 rfl) ?_
    refine m_get (τ := τ) hx hb hts hts0 hown hK hP 6 (by decide) (by decide +kernel) rfl rfl dX1_riskOf_60 ?_
    refine lv_iload_n hx hb dX1_riskOf_63 rfl (lv_at hl 3 rfl) ?_
    refine g_ild hx hb hK hP 4 rfl (v := md τ k) (vp_in_nI (by omega) (by decide)) (by rw [nI_clamp (by omega)] <;> rfl) dX1_riskOf_64 ?_
    refine lv_imul hx hb dX1_riskOf_65 ?_
    exact W.iret hx hb hr (fun t ht hW => ⟨_, rfl, rfl, ht⟩) (fun _ h => nomatch h) dX1_riskOf_66
  · have hl : lv_has ls 5 [(0, .ref (a 0)), (1, .int (nI k)), (2, .int (b2i true))] := hl
    refine lv_iload_n hx hb dX1_riskOf_0 rfl (lv_at hl 2 rfl) ?_
    refine lv_if_eq (tgt := 13) hx hb dX1_riskOf_1 (by decide) (fun q => absurd q ((b2i_ne0.mpr rfl))) (fun _ => ?_)
    refine lv_aload_n hx hb dX1_riskOf_4 rfl (lv_at hl 0 rfl) ?_
    refine m_get (τ := τ) hx hb hts hts0 hown hK hP 5 (by decide) (by decide +kernel) rfl rfl dX1_riskOf_5 ?_
    refine lv_iload_n hx hb dX1_riskOf_8 rfl (lv_at hl 1 rfl) ?_
    refine g_ild hx hb hK hP 3 rfl (v := nI (mh τ k)) (vp_in_nI (by omega) (by decide)) (by rw [nI_clamp (by omega)] <;> rfl) dX1_riskOf_9 ?_
    refine lv_goto (tgt := 19) hx hb dX1_riskOf_10 (by decide) ?_
    refine lv_istore_n (lv' := [(3, .int (nI (mh τ k))), (0, .ref (a 0)), (1, .int (nI k)), (2, .int (b2i true))]) hx hb dX1_riskOf_19 rfl hl (by decide) rfl (fun ls hl => ?_)
    refine lv_iload_n hx hb dX1_riskOf_20 rfl (lv_at hl 3 rfl) ?_
    refine lv_if_eq (tgt := 33) hx hb dX1_riskOf_21 (by decide) (fun q => absurd q ((b2i_ne0.mpr rfl))) (fun _ => ?_)
    refine lv_aload_n hx hb dX1_riskOf_24 rfl (lv_at hl 1 rfl) ?_
    refine m_get (τ := τ) hx hb hts hts0 hown hK hP 4 (by decide) (by decide +kernel) rfl rfl dX1_riskOf_25 ?_
    refine lv_iload_n hx hb dX1_riskOf_28 rfl (lv_at hl 2 rfl) ?_
    refine g_ild hx hb hK hP 2 rfl (v := nI (mo τ k)) (vp_in_nI (by omega) (by decide)) (by rw [nI_clamp (by omega)] <;> rfl) dX1_riskOf_29 ?_
    refine lv_goto (tgt := 39) hx hb dX1_riskOf_30 (by decide) ?_
    refine lv_istore (lv' := [(4, .int (nI (mo τ k))), (3, .int (nI (mh τ k))), (0, .ref (a 0)), (1, .int (nI k)), (2, .int (b2i true))]) hx hb dX1_riskOf_39 hl (by decide) rfl (fun ls hl => ?_)
    refine lv_iconst (v := 0) hx hb dX1_riskOf_41 (by decide) ?_
    refine lv_aload_n hx hb dX1_riskOf_42 rfl (lv_at hl 2 rfl) ?_
    refine m_get (τ := τ) hx hb hts hts0 hown hK hP 9 (by decide) (by decide +kernel) rfl rfl dX1_riskOf_43 ?_
    refine lv_iload hx hb dX1_riskOf_46 (lv_at hl 0 rfl) ?_
    refine g_ild hx hb hK hP 7 rfl (v := mv τ (mo τ k)) (vp_in_nI (by omega) (by decide)) (by rw [nI_clamp (by omega)] <;> rfl) dX1_riskOf_48 ?_
    refine lv_aload_n hx hb dX1_riskOf_49 rfl (lv_at hl 2 rfl) ?_
    refine m_get (τ := τ) hx hb hts hts0 hown hK hP 8 (by decide) (by decide +kernel) rfl rfl dX1_riskOf_50 ?_
    refine lv_iload_n hx hb dX1_riskOf_53 rfl (lv_at hl 1 rfl) ?_
    refine g_ild hx hb hK hP 6 rfl (v := mu τ (mh τ k)) (vp_in_nI (by omega) (by decide)) (by rw [nI_clamp (by omega)] <;> rfl) dX1_riskOf_54 ?_
    refine lv_isub hx hb dX1_riskOf_55 ?_
    refine g_max hx hb (hml.trans hl.1.symm) hown (hts (.methodLink RX1 60 Lib.Math.max.name) (by decide +kernel)) (hts (.static Lib.Math.max.name) (by decide +kernel)) (hts (.initialized "java/lang/Math") (by decide +kernel)) (hts (.code Lib.Math.max.name Lib.Math.max.code 2 (some .int)) (by decide +kernel)) (Nat.le_of_ble_eq_true rfl) (Nat.le_of_ble_eq_true rfl) ⟨Nat.zero_le _, Nat.zero_le _⟩ dX1_riskOf_56 ?_
    refine lv_aload_n hx hb dX1_riskOf_59 rfl (lv_at hl 2 rfl) ?_
    refine m_get (τ := τ) hx hb hts hts0 hown hK hP 6 (by decide) (by decide +kernel) rfl rfl dX1_riskOf_60 ?_
    refine lv_iload_n hx hb dX1_riskOf_63 rfl (lv_at hl 3 rfl) ?_
    refine g_ild hx hb hK hP 4 rfl (v := md τ k) (vp_in_nI (by omega) (by decide)) (by rw [nI_clamp (by omega)] <;> rfl) dX1_riskOf_64 ?_
    refine lv_imul hx hb dX1_riskOf_65 ?_
    exact W.iret hx hb hr (fun t ht hW => ⟨_, rfl, rfl, ht⟩) (fun _ h => nomatch h) dX1_riskOf_66
theorem hinX1_turnsRight : ∀ w ∈ wsX10, w ∈ wsX1_turnsRight := fun w h => List.mem_cons_of_mem _ (List.mem_append_right _ h)
theorem hdX1_turnsRight : yX1_turnsRight.cls = RX1 ∧ yX1_turnsRight.cls ≠ "java/lang/invoke/MethodHandle" ∧ yX1_turnsRight.cls ≠ "java/lang/invoke/VarHandle" ∧ (parseMethodDescriptor yX1_turnsRight.desc).map (fun d => d.parameters.length) = some 1 := by decide +kernel
set_option maxHeartbeats 4000000 in
set_option maxRecDepth 100000 in
theorem m_turnsRight (l : Launch) (E : GE) (a : Nat → Nat) (τ : MS) (hO : MOK τ) (k : Nat) (hk : k < 40) : Met l yX1_turnsRight wsX1_turnsRight { frames := 2, cells := 0, slots := 0, locals := 45 } (va_Pc [.ref (a 0), .int (nI k)] (gB E (mW E a τ))) (vp_Si (fun r => r = b2i (mPl τ k))) 0 0 (fun _ => False) := by
  refine w_met (cc := cX1_turnsRight) (maxL := 2) (ret := (some .boolean)) (by decide) rfl (Nat.le_of_ble_eq_true rfl) ?_
  intro p e s m below meth c ls S hr hlocks hname hB hl
  obtain ⟨hP, hK⟩ := hB
  obtain ⟨hx, hb, hml, hown, hts⟩ := id S
  have hts0 := hinX1_turnsRight
  have hl : lv_has ls 2 [(0, .ref (a 0)), (1, .int (nI k))] := hl
  refine lv_aload_n hx hb dX1_turnsRight_0 rfl (lv_at hl 0 rfl) ?_
  refine lv_iload_n hx hb dX1_turnsRight_1 rfl (lv_at hl 1 rfl) ?_
  refine lv_iconst (v := 1) hx hb dX1_turnsRight_2 (by decide) ?_
  refine m0i (As := [.int (nI k), .int (b2i true)]) (rest := []) S (m_riskOf l E a τ hO k (by omega) true) (cwV 2 hts gX1_turnsRight_X1_riskOf rfl rfl rfl hdX1_riskOf ⟨Nat.le_of_ble_eq_true rfl, Nat.le_of_ble_eq_true rfl⟩) hK hP rfl hl.1 rfl (Nat.le_of_ble_eq_true rfl) ⟨Nat.zero_le _, Nat.zero_le _⟩ dX1_turnsRight_3 ?_
  refine lv_aload_n hx hb dX1_turnsRight_6 rfl (lv_at hl 0 rfl) ?_
  refine lv_iload_n hx hb dX1_turnsRight_7 rfl (lv_at hl 1 rfl) ?_
  refine lv_iconst (v := 0) hx hb dX1_turnsRight_8 (by decide) ?_
  refine m0i (As := [.int (nI k), .int (b2i false)]) (rest := [.int (mRisk τ k true)]) S (m_riskOf l E a τ hO k (by omega) false) (cwV 2 hts gX1_turnsRight_X1_riskOf rfl rfl rfl hdX1_riskOf ⟨Nat.le_of_ble_eq_true rfl, Nat.le_of_ble_eq_true rfl⟩) hK hP rfl hl.1 rfl (Nat.le_of_ble_eq_true rfl) ⟨Nat.zero_le _, Nat.zero_le _⟩ dX1_turnsRight_9 ?_
  refine lv_icmp_ge (tgt := 19) hx hb dX1_turnsRight_12 (by decide) (fun c12 => ?_) (fun c12 => ?_)
  · refine lv_iconst (v := 0) hx hb dX1_turnsRight_19 (by decide) ?_
    exact W.zret hx hb hr rfl (fun t ht hW => ⟨_, rfl, (by first | (rw [mPl, decide_eq_false (fun h => Int32.not_lt.mpr c12 h)]; rfl) | (rw [mPl, decide_eq_true (Int32.not_le.mp c12)]; rfl)), ht⟩) (fun _ h => nomatch h) dX1_turnsRight_20
  · refine lv_iconst (v := 1) hx hb dX1_turnsRight_15 (by decide) ?_
    refine lv_goto (tgt := 20) hx hb dX1_turnsRight_16 (by decide) ?_
    exact W.zret hx hb hr rfl (fun t ht hW => ⟨_, rfl, (by first | (rw [mPl, decide_eq_false (fun h => Int32.not_lt.mpr c12 h)]; rfl) | (rw [mPl, decide_eq_true (Int32.not_le.mp c12)]; rfl)), ht⟩) (fun _ h => nomatch h) dX1_turnsRight_20
theorem hinX1_planned : ∀ w ∈ wsX10, w ∈ wsX1_planned := fun w h => List.mem_cons_of_mem _ (List.mem_append_right _ h)
theorem hdX1_planned : yX1_planned.cls = RX1 ∧ yX1_planned.cls ≠ "java/lang/invoke/MethodHandle" ∧ yX1_planned.cls ≠ "java/lang/invoke/VarHandle" ∧ (parseMethodDescriptor yX1_planned.desc).map (fun d => d.parameters.length) = some 1 := by decide +kernel
set_option maxHeartbeats 4000000 in
set_option maxRecDepth 100000 in
theorem m_planned (l : Launch) (E : GE) (a : Nat → Nat) (τ : MS) (hO : MOK τ) (k : Nat) (hk : k < 40) : Met l yX1_planned wsX1_planned { frames := 3, cells := 0, slots := 0, locals := 66 } (va_Pc [.ref (a 0), .int (nI k)] (gB E (mW E a τ))) (vp_Si (fun r => r = nI (mTo τ k (mPl τ k)))) 0 0 (fun _ => False) := by
  refine w_met (cc := cX1_planned) (maxL := 2) (ret := (some .int)) (by decide) rfl (Nat.le_of_ble_eq_true rfl) ?_
  intro p e s m below meth c ls S hr hlocks hname hB hl
  obtain ⟨hP, hK⟩ := hB
  obtain ⟨hx, hb, hml, hown, hts⟩ := id S
  have hts0 := hinX1_planned
  have hl : lv_has ls 2 [(0, .ref (a 0)), (1, .int (nI k))] := hl
  refine lv_aload_n hx hb dX1_planned_0 rfl (lv_at hl 0 rfl) ?_
  refine lv_iload_n hx hb dX1_planned_1 rfl (lv_at hl 1 rfl) ?_
  refine m0i (As := [.int (nI k)]) (rest := []) S (m_turnsRight l E a τ hO k (by omega)) (cwV 1 hts gX1_planned_X1_turnsRight rfl rfl rfl hdX1_turnsRight ⟨Nat.le_of_ble_eq_true rfl, Nat.le_of_ble_eq_true rfl⟩) hK hP rfl hl.1 rfl (Nat.le_of_ble_eq_true rfl) ⟨Nat.zero_le _, Nat.zero_le _⟩ dX1_planned_2 ?_
  refine lv_if_eq (tgt := 17) hx hb dX1_planned_5 (by decide) (fun c5 => ?_) (fun c5 => ?_)
  · refine lv_aload_n hx hb dX1_planned_17 rfl (lv_at hl 0 rfl) ?_
    refine m_get (τ := τ) hx hb hts hts0 hown hK hP 4 (by decide) (by decide +kernel) rfl rfl dX1_planned_18 ?_
    refine lv_iload_n hx hb dX1_planned_21 rfl (lv_at hl 1 rfl) ?_
    refine g_ild hx hb hK hP 2 rfl (v := nI (mo τ k)) (vp_in_nI (by omega) (by decide)) (by rw [nI_clamp (by omega)] <;> rfl) dX1_planned_22 ?_
    exact W.iret hx hb hr (fun t ht hW => ⟨_, rfl, (by first | (rw [b2i_eq0.mp c5]; rfl) | (rw [b2i_ne0.mp c5]; rfl)), ht⟩) (fun _ h => nomatch h) dX1_planned_23
  · refine lv_aload_n hx hb dX1_planned_8 rfl (lv_at hl 0 rfl) ?_
    refine m_get (τ := τ) hx hb hts hts0 hown hK hP 5 (by decide) (by decide +kernel) rfl rfl dX1_planned_9 ?_
    refine lv_iload_n hx hb dX1_planned_12 rfl (lv_at hl 1 rfl) ?_
    refine g_ild hx hb hK hP 3 rfl (v := nI (mh τ k)) (vp_in_nI (by omega) (by decide)) (by rw [nI_clamp (by omega)] <;> rfl) dX1_planned_13 ?_
    refine lv_goto (tgt := 23) hx hb dX1_planned_14 (by decide) ?_
    exact W.iret hx hb hr (fun t ht hW => ⟨_, rfl, (by first | (rw [b2i_eq0.mp c5]; rfl) | (rw [b2i_ne0.mp c5]; rfl)), ht⟩) (fun _ h => nomatch h) dX1_planned_23
theorem hinX1_leads : ∀ w ∈ wsX10, w ∈ wsX1_leads := fun w h => List.mem_cons_of_mem _ (List.mem_append_right _ h)
theorem hdX1_leads : yX1_leads.cls = RX1 ∧ yX1_leads.cls ≠ "java/lang/invoke/MethodHandle" ∧ yX1_leads.cls ≠ "java/lang/invoke/VarHandle" ∧ (parseMethodDescriptor yX1_leads.desc).map (fun d => d.parameters.length) = some 1 := by decide +kernel
set_option maxHeartbeats 4000000 in
set_option maxRecDepth 100000 in
theorem m_leads (l : Launch) (E : GE) (a : Nat → Nat) (τ : MS) (hO : MOK τ) (k : Nat) (hk : k < 40) : Met l yX1_leads wsX1_leads { frames := 4, cells := 0, slots := 0, locals := 87 } (va_Pc [.ref (a 0), .int (nI k)] (gB E (mW E a τ))) (vp_Si (fun r => r = nI (mLd τ 40 k))) 0 0 (fun _ => False) := by
  refine w_met (cc := cX1_leads) (maxL := 3) (ret := (some .int)) (by decide) rfl (Nat.le_of_ble_eq_true rfl) ?_
  intro p e s m below meth c ls S hr hlocks hname hB hl
  obtain ⟨hP, hK⟩ := hB
  obtain ⟨hx, hb, hml, hown, hts⟩ := id S
  have hts0 := hinX1_leads
  have hl : lv_has ls 3 [(0, .ref (a 0)), (1, .int (nI k))] := hl
  refine lv_iload_n hx hb dX1_leads_0 rfl (lv_at hl 1 rfl) ?_
  refine lv_istore_n (lv' := [(2, .int (nI k)), (0, .ref (a 0)), (1, .int (nI k))]) hx hb dX1_leads_1 rfl hl (by decide) rfl (fun ls hl => ?_)
  have key : ∀ (d q f : Nat) (ls : Array Slot), q ≤ d → q < f → q < 40 → mLd τ 40 k = mLd τ f q → lv_has ls 3 [(2, .int (nI q)), (0, .ref (a 0)), (1, .int (nI k))] → W p l e (headSpec wsX1_leads { frames := 4, cells := 0, slots := 0, locals := 87 }).room s m [.ref (a 0), .int (nI k)].toArray below meth c s.heap [] 0 0 (MQ below (vp_Si (fun r => r = nI (mLd τ 40 k))) [.ref (a 0), .int (nI k)].toArray s 0 0 (fun _ => False)) (F0 m 2 ls []) := by
    intro d
    induction d with
    | zero =>
      intro q f ls hq hf hq4 hv hl
      obtain ⟨f, rfl⟩ : ∃ g, f = g + 1 := ⟨f - 1, by omega⟩
      refine lv_aload_n hx hb dX1_leads_2 rfl (lv_at hl 1 rfl) ?_
      refine m_get (τ := τ) hx hb hts hts0 hown hK hP 3 (by decide) (by decide +kernel) rfl rfl dX1_leads_3 ?_
      refine lv_iload_n hx hb dX1_leads_6 rfl (lv_at hl 0 rfl) ?_
      refine g_zld hx hb hK hP 1 rfl (v := b2i (mf τ q)) (vp_in_nI (by omega) (by decide)) (by rw [nI_clamp (by omega)] <;> rfl) dX1_leads_7 ?_
      refine lv_if_eq (tgt := 20) hx hb dX1_leads_8 (by decide) (fun c8 => ?_) (fun c8 => ?_)
      · have hz := b2i_eq0.mp c8
        refine lv_iload_n hx hb dX1_leads_20 rfl (lv_at hl 0 rfl) ?_
        exact W.iret hx hb hr (fun t ht hW => ⟨_, rfl, (by rw [hv, mLd, hz]; rfl), ht⟩) (fun _ h => nomatch h) dX1_leads_21
      · have hz := b2i_ne0.mp c8
        have hd := mTo_dn hO hz (mPl τ q)
        refine lv_aload_n hx hb dX1_leads_11 rfl (lv_at hl 1 rfl) ?_
        refine lv_iload_n hx hb dX1_leads_12 rfl (lv_at hl 0 rfl) ?_
        refine m0i (As := [.int (nI q)]) (rest := []) S (m_planned l E a τ hO q (by omega)) (cwV 1 hts gX1_leads_X1_planned rfl rfl rfl hdX1_planned ⟨Nat.le_of_ble_eq_true rfl, Nat.le_of_ble_eq_true rfl⟩) hK hP rfl hl.1 rfl (Nat.le_of_ble_eq_true rfl) ⟨Nat.zero_le _, Nat.zero_le _⟩ dX1_leads_13 ?_
        refine lv_istore_n (lv' := [(2, .int (nI (mTo τ q (mPl τ q)))), (0, .ref (a 0)), (1, .int (nI k))]) hx hb dX1_leads_16 rfl hl (by decide) rfl (fun ls hl => ?_)
        refine lv_goto (tgt := 2) hx hb dX1_leads_17 (by decide) ?_
        exact absurd (mTo_dn hO hz (mPl τ q)) (by omega)
    | succ d ih =>
      intro q f ls hq hf hq4 hv hl
      obtain ⟨f, rfl⟩ : ∃ g, f = g + 1 := ⟨f - 1, by omega⟩
      refine lv_aload_n hx hb dX1_leads_2 rfl (lv_at hl 1 rfl) ?_
      refine m_get (τ := τ) hx hb hts hts0 hown hK hP 3 (by decide) (by decide +kernel) rfl rfl dX1_leads_3 ?_
      refine lv_iload_n hx hb dX1_leads_6 rfl (lv_at hl 0 rfl) ?_
      refine g_zld hx hb hK hP 1 rfl (v := b2i (mf τ q)) (vp_in_nI (by omega) (by decide)) (by rw [nI_clamp (by omega)] <;> rfl) dX1_leads_7 ?_
      refine lv_if_eq (tgt := 20) hx hb dX1_leads_8 (by decide) (fun c8 => ?_) (fun c8 => ?_)
      · have hz := b2i_eq0.mp c8
        refine lv_iload_n hx hb dX1_leads_20 rfl (lv_at hl 0 rfl) ?_
        exact W.iret hx hb hr (fun t ht hW => ⟨_, rfl, (by rw [hv, mLd, hz]; rfl), ht⟩) (fun _ h => nomatch h) dX1_leads_21
      · have hz := b2i_ne0.mp c8
        have hd := mTo_dn hO hz (mPl τ q)
        refine lv_aload_n hx hb dX1_leads_11 rfl (lv_at hl 1 rfl) ?_
        refine lv_iload_n hx hb dX1_leads_12 rfl (lv_at hl 0 rfl) ?_
        refine m0i (As := [.int (nI q)]) (rest := []) S (m_planned l E a τ hO q (by omega)) (cwV 1 hts gX1_leads_X1_planned rfl rfl rfl hdX1_planned ⟨Nat.le_of_ble_eq_true rfl, Nat.le_of_ble_eq_true rfl⟩) hK hP rfl hl.1 rfl (Nat.le_of_ble_eq_true rfl) ⟨Nat.zero_le _, Nat.zero_le _⟩ dX1_leads_13 ?_
        refine lv_istore_n (lv' := [(2, .int (nI (mTo τ q (mPl τ q)))), (0, .ref (a 0)), (1, .int (nI k))]) hx hb dX1_leads_16 rfl hl (by decide) rfl (fun ls hl => ?_)
        refine lv_goto (tgt := 2) hx hb dX1_leads_17 (by decide) ?_
        exact ih (mTo τ q (mPl τ q)) f ls (by omega) (by omega) (by omega) (by rw [hv, mLd, if_pos hz]) (lv_sub hl [0, 1, 2] rfl)
  exact key k k 40 ls (Nat.le_refl _) (by omega) (by omega) rfl (lv_sub hl [0, 1, 2] rfl)
theorem hinX1_examsNow : ∀ w ∈ wsX10, w ∈ wsX1_examsNow := fun w h => List.mem_cons_of_mem _ (List.mem_append_right _ h)
theorem hdX1_examsNow : yX1_examsNow.cls = RX1 ∧ yX1_examsNow.cls ≠ "java/lang/invoke/MethodHandle" ∧ yX1_examsNow.cls ≠ "java/lang/invoke/VarHandle" ∧ (parseMethodDescriptor yX1_examsNow.desc).map (fun d => d.parameters.length) = some 0 := by decide +kernel
set_option maxHeartbeats 4000000 in
set_option maxRecDepth 100000 in
theorem m_examsNow (l : Launch) (E : GE) (a : Nat → Nat) (τ : MS) (hO : MOK τ) : Met l yX1_examsNow wsX1_examsNow { frames := 0, cells := 0, slots := 0, locals := 0 } (va_Pc [.ref (a 0)] (gB E (mW E a τ))) (vp_Si (fun r => r = mXn τ)) 0 0 (fun _ => False) := by
  refine w_met (cc := cX1_examsNow) (maxL := 3) (ret := (some .int)) (by decide) rfl (Nat.le_of_ble_eq_true rfl) ?_
  intro p e s m below meth c ls S hr hlocks hname hB hl
  obtain ⟨hP, hK⟩ := hB
  obtain ⟨hx, hb, hml, hown, hts⟩ := id S
  have tn := hO.1
  have hts0 := hinX1_examsNow
  have hl : lv_has ls 3 [(0, .ref (a 0))] := hl
  refine lv_iconst (v := 0) hx hb dX1_examsNow_0 (by decide) ?_
  refine lv_istore_n (lv' := [(1, .int 0), (0, .ref (a 0))]) hx hb dX1_examsNow_1 rfl hl (by decide) rfl (fun ls hl => ?_)
  refine lv_iconst (v := 0) hx hb dX1_examsNow_2 (by decide) ?_
  refine lv_istore_n (lv' := [(2, .int 0), (1, .int 0), (0, .ref (a 0))]) hx hb dX1_examsNow_3 rfl hl (by decide) rfl (fun ls hl => ?_)
  have key : ∀ (d i : Nat) (x : Int32) (ls : Array Slot), i + d = mn τ → x = sumI (fun p => b2i (!mf τ p)) i → lv_has ls 3 [(2, .int (nI i)), (1, .int x), (0, .ref (a 0))] → W p l e (headSpec wsX1_examsNow { frames := 0, cells := 0, slots := 0, locals := 0 }).room s m [.ref (a 0)].toArray below meth c s.heap [] 0 0 (MQ below (vp_Si (fun r => r = mXn τ)) [.ref (a 0)].toArray s 0 0 (fun _ => False)) (F0 m 4 ls []) := by
    intro d
    induction d with
    | zero =>
      intro i x ls hi hinv hl
      obtain rfl : i = mn τ := by omega
      refine lv_iload_n hx hb dX1_examsNow_4 rfl (lv_at hl 0 rfl) ?_
      refine lv_aload_n hx hb dX1_examsNow_5 rfl (lv_at hl 2 rfl) ?_
      refine m_get (τ := τ) hx hb hts hts0 hown hK hP 1 (by decide) (by decide +kernel) rfl rfl dX1_examsNow_6 ?_
      refine lv_icmp_ge (tgt := 35) hx hb dX1_examsNow_9 (by decide) (fun _ => ?_) (fun q => absurd ((nI_le (Nat.le_refl _) (by omega))) q)
      refine lv_iload_n hx hb dX1_examsNow_35 rfl (lv_at hl 1 rfl) ?_
      exact W.iret hx hb hr (fun t ht hW => ⟨_, rfl, hinv, ht⟩) (fun _ h => nomatch h) dX1_examsNow_36
    | succ d ih =>
      intro i x ls hi hinv hl
      refine lv_iload_n hx hb dX1_examsNow_4 rfl (lv_at hl 0 rfl) ?_
      refine lv_aload_n hx hb dX1_examsNow_5 rfl (lv_at hl 2 rfl) ?_
      refine m_get (τ := τ) hx hb hts hts0 hown hK hP 1 (by decide) (by decide +kernel) rfl rfl dX1_examsNow_6 ?_
      refine lv_icmp_ge (tgt := 35) hx hb dX1_examsNow_9 (by decide) (fun q => absurd q ((nI_ge (by omega) (by omega)))) (fun _ => ?_)
      refine lv_iload_n hx hb dX1_examsNow_12 rfl (lv_at hl 1 rfl) ?_
      refine lv_aload_n hx hb dX1_examsNow_13 rfl (lv_at hl 2 rfl) ?_
      refine m_get (τ := τ) hx hb hts hts0 hown hK hP 3 (by decide) (by decide +kernel) rfl rfl dX1_examsNow_14 ?_
      refine lv_iload_n hx hb dX1_examsNow_17 rfl (lv_at hl 0 rfl) ?_
      refine g_zld hx hb hK hP 1 rfl (v := b2i (mf τ i)) (vp_in_nI (by omega) (by decide)) (by rw [nI_clamp (by omega)] <;> rfl) dX1_examsNow_18 ?_
      refine lv_if_eq (tgt := 26) hx hb dX1_examsNow_19 (by decide) (fun c19 => ?_) (fun c19 => ?_)
      · refine lv_iconst (v := 1) hx hb dX1_examsNow_26 (by decide) ?_
        refine lv_iadd hx hb dX1_examsNow_27 ?_
        refine lv_istore_n (lv' := [(1, .int (x + 1)), (2, .int (nI i)), (0, .ref (a 0))]) hx hb dX1_examsNow_28 rfl hl (by decide) rfl (fun ls hl => ?_)
        refine lv_iinc (v := nI (i + 1)) (lv' := [(2, .int (nI (i + 1))), (1, .int (x + 1)), (0, .ref (a 0))]) hx hb dX1_examsNow_29 hl (k := 1) rfl (nI_1 i) (by decide) rfl (fun ls hl => ?_)
        refine lv_goto (tgt := 4) hx hb dX1_examsNow_32 (by decide) ?_
        exact ih (i + 1) (x + 1) ls (by omega) (by first | (rw [hinv, sumI, b2i_eq0.mp c19]; rfl) | (rw [hinv, sumI, b2i_ne0.mp c19]; rfl)) (lv_sub hl [0, 1, 2] rfl)
      · refine lv_iconst (v := 0) hx hb dX1_examsNow_22 (by decide) ?_
        refine lv_goto (tgt := 27) hx hb dX1_examsNow_23 (by decide) ?_
        refine lv_iadd hx hb dX1_examsNow_27 ?_
        refine lv_istore_n (lv' := [(1, .int (x + 0)), (2, .int (nI i)), (0, .ref (a 0))]) hx hb dX1_examsNow_28 rfl hl (by decide) rfl (fun ls hl => ?_)
        refine lv_iinc (v := nI (i + 1)) (lv' := [(2, .int (nI (i + 1))), (1, .int (x + 0)), (0, .ref (a 0))]) hx hb dX1_examsNow_29 hl (k := 1) rfl (nI_1 i) (by decide) rfl (fun ls hl => ?_)
        refine lv_goto (tgt := 4) hx hb dX1_examsNow_32 (by decide) ?_
        exact ih (i + 1) (x + 0) ls (by omega) (by first | (rw [hinv, sumI, b2i_eq0.mp c19]; rfl) | (rw [hinv, sumI, b2i_ne0.mp c19]; rfl)) (lv_sub hl [0, 1, 2] rfl)
  exact key (mn τ) 0 0 ls (by omega) rfl (lv_sub hl [0, 1, 2] rfl)
theorem hinX1_atEnds : ∀ w ∈ wsX10, w ∈ wsX1_atEnds := fun w h => List.mem_cons_of_mem _ (List.mem_append_right _ h)
theorem hdX1_atEnds : yX1_atEnds.cls = RX1 ∧ yX1_atEnds.cls ≠ "java/lang/invoke/MethodHandle" ∧ yX1_atEnds.cls ≠ "java/lang/invoke/VarHandle" ∧ (parseMethodDescriptor yX1_atEnds.desc).map (fun d => d.parameters.length) = some 0 := by decide +kernel
set_option maxHeartbeats 4000000 in
set_option maxRecDepth 100000 in
theorem m_atEnds (l : Launch) (E : GE) (a : Nat → Nat) (τ : MS) (hO : MOK τ) : Met l yX1_atEnds wsX1_atEnds { frames := 0, cells := 0, slots := 0, locals := 0 } (va_Pc [.ref (a 0)] (gB E (mW E a τ))) (vp_Si (fun r => r = mAt τ)) 0 0 (fun _ => False) := by
  refine w_met (cc := cX1_atEnds) (maxL := 3) (ret := (some .int)) (by decide) rfl (Nat.le_of_ble_eq_true rfl) ?_
  intro p e s m below meth c ls S hr hlocks hname hB hl
  obtain ⟨hP, hK⟩ := hB
  obtain ⟨hx, hb, hml, hown, hts⟩ := id S
  have tk := hO.2.1
  have hts0 := hinX1_atEnds
  have hl : lv_has ls 3 [(0, .ref (a 0))] := hl
  refine lv_iconst (v := 0) hx hb dX1_atEnds_0 (by decide) ?_
  refine lv_istore_n (lv' := [(1, .int 0), (0, .ref (a 0))]) hx hb dX1_atEnds_1 rfl hl (by decide) rfl (fun ls hl => ?_)
  refine lv_iconst (v := 0) hx hb dX1_atEnds_2 (by decide) ?_
  refine lv_istore_n (lv' := [(2, .int 0), (1, .int 0), (0, .ref (a 0))]) hx hb dX1_atEnds_3 rfl hl (by decide) rfl (fun ls hl => ?_)
  have key : ∀ (d i : Nat) (x : Int32) (ls : Array Slot), i + d = mk τ → x = sumI (fun s => b2i (!mf τ (ms τ s))) i → lv_has ls 3 [(2, .int (nI i)), (1, .int x), (0, .ref (a 0))] → W p l e (headSpec wsX1_atEnds { frames := 0, cells := 0, slots := 0, locals := 0 }).room s m [.ref (a 0)].toArray below meth c s.heap [] 0 0 (MQ below (vp_Si (fun r => r = mAt τ)) [.ref (a 0)].toArray s 0 0 (fun _ => False)) (F0 m 4 ls []) := by
    intro d
    induction d with
    | zero =>
      intro i x ls hi hinv hl
      obtain rfl : i = mk τ := by omega
      refine lv_iload_n hx hb dX1_atEnds_4 rfl (lv_at hl 0 rfl) ?_
      refine lv_aload_n hx hb dX1_atEnds_5 rfl (lv_at hl 2 rfl) ?_
      refine m_get (τ := τ) hx hb hts hts0 hown hK hP 2 (by decide) (by decide +kernel) rfl rfl dX1_atEnds_6 ?_
      refine lv_icmp_ge (tgt := 40) hx hb dX1_atEnds_9 (by decide) (fun _ => ?_) (fun q => absurd ((nI_le (Nat.le_refl _) (by omega))) q)
      refine lv_iload_n hx hb dX1_atEnds_40 rfl (lv_at hl 1 rfl) ?_
      exact W.iret hx hb hr (fun t ht hW => ⟨_, rfl, hinv, ht⟩) (fun _ h => nomatch h) dX1_atEnds_41
    | succ d ih =>
      intro i x ls hi hinv hl
      have t2 := hO.2.2.2.2.1 i
      refine lv_iload_n hx hb dX1_atEnds_4 rfl (lv_at hl 0 rfl) ?_
      refine lv_aload_n hx hb dX1_atEnds_5 rfl (lv_at hl 2 rfl) ?_
      refine m_get (τ := τ) hx hb hts hts0 hown hK hP 2 (by decide) (by decide +kernel) rfl rfl dX1_atEnds_6 ?_
      refine lv_icmp_ge (tgt := 40) hx hb dX1_atEnds_9 (by decide) (fun q => absurd q ((nI_ge (by omega) (by omega)))) (fun _ => ?_)
      refine lv_iload_n hx hb dX1_atEnds_12 rfl (lv_at hl 1 rfl) ?_
      refine lv_aload_n hx hb dX1_atEnds_13 rfl (lv_at hl 2 rfl) ?_
      refine m_get (τ := τ) hx hb hts hts0 hown hK hP 3 (by decide) (by decide +kernel) rfl rfl dX1_atEnds_14 ?_
      refine lv_aload_n hx hb dX1_atEnds_17 rfl (lv_at hl 2 rfl) ?_
      refine m_get (τ := τ) hx hb hts hts0 hown hK hP 10 (by decide) (by decide +kernel) rfl rfl dX1_atEnds_18 ?_
      refine lv_iload_n hx hb dX1_atEnds_21 rfl (lv_at hl 0 rfl) ?_
      refine g_ild hx hb hK hP 8 rfl (v := nI (ms τ i)) (vp_in_nI (by omega) (by decide)) (by rw [nI_clamp (by omega)] <;> rfl) dX1_atEnds_22 ?_
      refine g_zld hx hb hK hP 1 rfl (v := b2i (mf τ (ms τ i))) (vp_in_nI (by omega) (by decide)) (by rw [nI_clamp (by omega)] <;> rfl) dX1_atEnds_23 ?_
      refine lv_if_eq (tgt := 31) hx hb dX1_atEnds_24 (by decide) (fun c24 => ?_) (fun c24 => ?_)
      · refine lv_iconst (v := 1) hx hb dX1_atEnds_31 (by decide) ?_
        refine lv_iadd hx hb dX1_atEnds_32 ?_
        refine lv_istore_n (lv' := [(1, .int (x + 1)), (2, .int (nI i)), (0, .ref (a 0))]) hx hb dX1_atEnds_33 rfl hl (by decide) rfl (fun ls hl => ?_)
        refine lv_iinc (v := nI (i + 1)) (lv' := [(2, .int (nI (i + 1))), (1, .int (x + 1)), (0, .ref (a 0))]) hx hb dX1_atEnds_34 hl (k := 1) rfl (nI_1 i) (by decide) rfl (fun ls hl => ?_)
        refine lv_goto (tgt := 4) hx hb dX1_atEnds_37 (by decide) ?_
        exact ih (i + 1) (x + 1) ls (by omega) (by first | (rw [hinv, sumI, b2i_eq0.mp c24]; rfl) | (rw [hinv, sumI, b2i_ne0.mp c24]; rfl)) (lv_sub hl [0, 1, 2] rfl)
      · refine lv_iconst (v := 0) hx hb dX1_atEnds_27 (by decide) ?_
        refine lv_goto (tgt := 32) hx hb dX1_atEnds_28 (by decide) ?_
        refine lv_iadd hx hb dX1_atEnds_32 ?_
        refine lv_istore_n (lv' := [(1, .int (x + 0)), (2, .int (nI i)), (0, .ref (a 0))]) hx hb dX1_atEnds_33 rfl hl (by decide) rfl (fun ls hl => ?_)
        refine lv_iinc (v := nI (i + 1)) (lv' := [(2, .int (nI (i + 1))), (1, .int (x + 0)), (0, .ref (a 0))]) hx hb dX1_atEnds_34 hl (k := 1) rfl (nI_1 i) (by decide) rfl (fun ls hl => ?_)
        refine lv_goto (tgt := 4) hx hb dX1_atEnds_37 (by decide) ?_
        exact ih (i + 1) (x + 0) ls (by omega) (by first | (rw [hinv, sumI, b2i_eq0.mp c24]; rfl) | (rw [hinv, sumI, b2i_ne0.mp c24]; rfl)) (lv_sub hl [0, 1, 2] rfl)
  exact key (mk τ) 0 0 ls (by omega) rfl (lv_sub hl [0, 1, 2] rfl)
theorem hinX1_gradedNow : ∀ w ∈ wsX10, w ∈ wsX1_gradedNow := fun w h => List.mem_cons_of_mem _ (List.mem_append_right _ h)
theorem hdX1_gradedNow : yX1_gradedNow.cls = RX1 ∧ yX1_gradedNow.cls ≠ "java/lang/invoke/MethodHandle" ∧ yX1_gradedNow.cls ≠ "java/lang/invoke/VarHandle" ∧ (parseMethodDescriptor yX1_gradedNow.desc).map (fun d => d.parameters.length) = some 0 := by decide +kernel
set_option maxHeartbeats 4000000 in
set_option maxRecDepth 100000 in
theorem m_gradedNow (l : Launch) (E : GE) (a : Nat → Nat) (τ : MS) (hO : MOK τ) : Met l yX1_gradedNow wsX1_gradedNow { frames := 0, cells := 0, slots := 0, locals := 0 } (va_Pc [.ref (a 0)] (gB E (mW E a τ))) (vp_Si (fun r => r = mGn τ)) 0 0 (fun _ => False) := by
  refine w_met (cc := cX1_gradedNow) (maxL := 3) (ret := (some .int)) (by decide) rfl (Nat.le_of_ble_eq_true rfl) ?_
  intro p e s m below meth c ls S hr hlocks hname hB hl
  obtain ⟨hP, hK⟩ := hB
  obtain ⟨hx, hb, hml, hown, hts⟩ := id S
  have tn := hO.1
  have hts0 := hinX1_gradedNow
  have hl : lv_has ls 3 [(0, .ref (a 0))] := hl
  refine lv_iconst (v := 0) hx hb dX1_gradedNow_0 (by decide) ?_
  refine lv_istore_n (lv' := [(1, .int 0), (0, .ref (a 0))]) hx hb dX1_gradedNow_1 rfl hl (by decide) rfl (fun ls hl => ?_)
  refine lv_iconst (v := 0) hx hb dX1_gradedNow_2 (by decide) ?_
  refine lv_istore_n (lv' := [(2, .int 0), (1, .int 0), (0, .ref (a 0))]) hx hb dX1_gradedNow_3 rfl hl (by decide) rfl (fun ls hl => ?_)
  have key : ∀ (d i : Nat) (x : Int32) (ls : Array Slot), i + d = mn τ → x = sumI (fun p => b2i (mGd τ p)) i → lv_has ls 3 [(2, .int (nI i)), (1, .int x), (0, .ref (a 0))] → W p l e (headSpec wsX1_gradedNow { frames := 0, cells := 0, slots := 0, locals := 0 }).room s m [.ref (a 0)].toArray below meth c s.heap [] 0 0 (MQ below (vp_Si (fun r => r = mGn τ)) [.ref (a 0)].toArray s 0 0 (fun _ => False)) (F0 m 4 ls []) := by
    intro d
    induction d with
    | zero =>
      intro i x ls hi hinv hl
      obtain rfl : i = mn τ := by omega
      refine lv_iload_n hx hb dX1_gradedNow_4 rfl (lv_at hl 0 rfl) ?_
      refine lv_aload_n hx hb dX1_gradedNow_5 rfl (lv_at hl 2 rfl) ?_
      refine m_get (τ := τ) hx hb hts hts0 hown hK hP 1 (by decide) (by decide +kernel) rfl rfl dX1_gradedNow_6 ?_
      refine lv_icmp_ge (tgt := 45) hx hb dX1_gradedNow_9 (by decide) (fun _ => ?_) (fun q => absurd ((nI_le (Nat.le_refl _) (by omega))) q)
      refine lv_iload_n hx hb dX1_gradedNow_45 rfl (lv_at hl 1 rfl) ?_
      exact W.iret hx hb hr (fun t ht hW => ⟨_, rfl, hinv, ht⟩) (fun _ h => nomatch h) dX1_gradedNow_46
    | succ d ih =>
      intro i x ls hi hinv hl
      refine lv_iload_n hx hb dX1_gradedNow_4 rfl (lv_at hl 0 rfl) ?_
      refine lv_aload_n hx hb dX1_gradedNow_5 rfl (lv_at hl 2 rfl) ?_
      refine m_get (τ := τ) hx hb hts hts0 hown hK hP 1 (by decide) (by decide +kernel) rfl rfl dX1_gradedNow_6 ?_
      refine lv_icmp_ge (tgt := 45) hx hb dX1_gradedNow_9 (by decide) (fun q => absurd q ((nI_ge (by omega) (by omega)))) (fun _ => ?_)
      refine lv_iload_n hx hb dX1_gradedNow_12 rfl (lv_at hl 1 rfl) ?_
      refine lv_aload_n hx hb dX1_gradedNow_13 rfl (lv_at hl 2 rfl) ?_
      refine m_get (τ := τ) hx hb hts hts0 hown hK hP 3 (by decide) (by decide +kernel) rfl rfl dX1_gradedNow_14 ?_
      refine lv_iload_n hx hb dX1_gradedNow_17 rfl (lv_at hl 0 rfl) ?_
      refine g_zld hx hb hK hP 1 rfl (v := b2i (mf τ i)) (vp_in_nI (by omega) (by decide)) (by rw [nI_clamp (by omega)] <;> rfl) dX1_gradedNow_18 ?_
      refine lv_if_ne (tgt := 36) hx hb dX1_gradedNow_19 (by decide) (fun c19 => ?_) (fun c19 => ?_)
      · refine lv_iconst (v := 0) hx hb dX1_gradedNow_36 (by decide) ?_
        refine lv_iadd hx hb dX1_gradedNow_37 ?_
        refine lv_istore_n (lv' := [(1, .int (x + 0)), (2, .int (nI i)), (0, .ref (a 0))]) hx hb dX1_gradedNow_38 rfl hl (by decide) rfl (fun ls hl => ?_)
        refine lv_iinc (v := nI (i + 1)) (lv' := [(2, .int (nI (i + 1))), (1, .int (x + 0)), (0, .ref (a 0))]) hx hb dX1_gradedNow_39 hl (k := 1) rfl (nI_1 i) (by decide) rfl (fun ls hl => ?_)
        refine lv_goto (tgt := 4) hx hb dX1_gradedNow_42 (by decide) ?_
        exact ih (i + 1) (x + 0) ls (by omega) (by first | (rw [hinv, sumI, mGd, b2i_ne0.mp c19]; rfl) | (rw [hinv, sumI, mGd, b2i_eq0.mp c19, decide_eq_true c29]; rfl) | (rw [hinv, sumI, mGd, b2i_eq0.mp c19, decide_eq_false c29]; rfl)) (lv_sub hl [0, 1, 2] rfl)
      · refine lv_aload_n hx hb dX1_gradedNow_22 rfl (lv_at hl 2 rfl) ?_
        refine m_get (τ := τ) hx hb hts hts0 hown hK hP 6 (by decide) (by decide +kernel) rfl rfl dX1_gradedNow_23 ?_
        refine lv_iload_n hx hb dX1_gradedNow_26 rfl (lv_at hl 0 rfl) ?_
        refine g_ild hx hb hK hP 4 rfl (v := md τ i) (vp_in_nI (by omega) (by decide)) (by rw [nI_clamp (by omega)] <;> rfl) dX1_gradedNow_27 ?_
        refine lv_iconst (v := -1) hx hb dX1_gradedNow_28 (by decide) ?_
        refine lv_icmp_eq (tgt := 36) hx hb dX1_gradedNow_29 (by decide) (fun c29 => ?_) (fun c29 => ?_)
        · refine lv_iconst (v := 0) hx hb dX1_gradedNow_36 (by decide) ?_
          refine lv_iadd hx hb dX1_gradedNow_37 ?_
          refine lv_istore_n (lv' := [(1, .int (x + 0)), (2, .int (nI i)), (0, .ref (a 0))]) hx hb dX1_gradedNow_38 rfl hl (by decide) rfl (fun ls hl => ?_)
          refine lv_iinc (v := nI (i + 1)) (lv' := [(2, .int (nI (i + 1))), (1, .int (x + 0)), (0, .ref (a 0))]) hx hb dX1_gradedNow_39 hl (k := 1) rfl (nI_1 i) (by decide) rfl (fun ls hl => ?_)
          refine lv_goto (tgt := 4) hx hb dX1_gradedNow_42 (by decide) ?_
          exact ih (i + 1) (x + 0) ls (by omega) (by first | (rw [hinv, sumI, mGd, b2i_ne0.mp c19]; rfl) | (rw [hinv, sumI, mGd, b2i_eq0.mp c19, decide_eq_true c29]; rfl) | (rw [hinv, sumI, mGd, b2i_eq0.mp c19, decide_eq_false c29]; rfl)) (lv_sub hl [0, 1, 2] rfl)
        · refine lv_iconst (v := 1) hx hb dX1_gradedNow_32 (by decide) ?_
          refine lv_goto (tgt := 37) hx hb dX1_gradedNow_33 (by decide) ?_
          refine lv_iadd hx hb dX1_gradedNow_37 ?_
          refine lv_istore_n (lv' := [(1, .int (x + 1)), (2, .int (nI i)), (0, .ref (a 0))]) hx hb dX1_gradedNow_38 rfl hl (by decide) rfl (fun ls hl => ?_)
          refine lv_iinc (v := nI (i + 1)) (lv' := [(2, .int (nI (i + 1))), (1, .int (x + 1)), (0, .ref (a 0))]) hx hb dX1_gradedNow_39 hl (k := 1) rfl (nI_1 i) (by decide) rfl (fun ls hl => ?_)
          refine lv_goto (tgt := 4) hx hb dX1_gradedNow_42 (by decide) ?_
          exact ih (i + 1) (x + 1) ls (by omega) (by first | (rw [hinv, sumI, mGd, b2i_ne0.mp c19]; rfl) | (rw [hinv, sumI, mGd, b2i_eq0.mp c19, decide_eq_true c29]; rfl) | (rw [hinv, sumI, mGd, b2i_eq0.mp c19, decide_eq_false c29]; rfl)) (lv_sub hl [0, 1, 2] rfl)
  exact key (mn τ) 0 0 ls (by omega) rfl (lv_sub hl [0, 1, 2] rfl)
theorem hinX1_examsOf : ∀ w ∈ wsX10, w ∈ wsX1_examsOf := fun w h => List.mem_cons_of_mem _ (List.mem_append_right _ h)
theorem hdX1_examsOf : yX1_examsOf.cls = RX1 ∧ yX1_examsOf.cls ≠ "java/lang/invoke/MethodHandle" ∧ yX1_examsOf.cls ≠ "java/lang/invoke/VarHandle" ∧ (parseMethodDescriptor yX1_examsOf.desc).map (fun d => d.parameters.length) = some 1 := by decide +kernel
set_option maxHeartbeats 4000000 in
set_option maxRecDepth 100000 in
theorem m_examsOf (l : Launch) (E : GE) (a : Nat → Nat) (τ : MS) (hO : MOK τ) (k : Nat) (hk : k < 40) : Met l yX1_examsOf wsX1_examsOf { frames := 1, cells := 0, slots := 0, locals := 22 } (va_Pc [.ref (a 0), .int (nI k)] (gB E (mW E a τ))) (vp_Si (fun r => r = mEf τ k)) 0 0 (fun _ => False) := by
  refine w_met (cc := cX1_examsOf) (maxL := 4) (ret := (some .int)) (by decide) rfl (Nat.le_of_ble_eq_true rfl) ?_
  intro p e s m below meth c ls S hr hlocks hname hB hl
  obtain ⟨hP, hK⟩ := hB
  obtain ⟨hx, hb, hml, hown, hts⟩ := id S
  have hts0 := hinX1_examsOf
  have hl : lv_has ls 4 [(0, .ref (a 0)), (1, .int (nI k))] := hl
  refine lv_iconst (v := 0) hx hb dX1_examsOf_0 (by decide) ?_
  refine lv_istore_n (lv' := [(2, .int 0), (0, .ref (a 0)), (1, .int (nI k))]) hx hb dX1_examsOf_1 rfl hl (by decide) rfl (fun ls hl => ?_)
  refine lv_iconst (v := 0) hx hb dX1_examsOf_2 (by decide) ?_
  refine lv_istore_n (lv' := [(3, .int 0), (2, .int 0), (0, .ref (a 0)), (1, .int (nI k))]) hx hb dX1_examsOf_3 rfl hl (by decide) rfl (fun ls hl => ?_)
  have key : ∀ (d i : Nat) (x : Int32) (ls : Array Slot), i + d = (k + 1) → x = sumI (fun o => b2i (mEx τ k o)) i → lv_has ls 4 [(3, .int (nI i)), (2, .int x), (0, .ref (a 0)), (1, .int (nI k))] → W p l e (headSpec wsX1_examsOf { frames := 1, cells := 0, slots := 0, locals := 22 }).room s m [.ref (a 0), .int (nI k)].toArray below meth c s.heap [] 0 0 (MQ below (vp_Si (fun r => r = mEf τ k)) [.ref (a 0), .int (nI k)].toArray s 0 0 (fun _ => False)) (F0 m 4 ls []) := by
    intro d
    induction d with
    | zero =>
      intro i x ls hi hinv hl
      obtain rfl : i = (k + 1) := by omega
      refine lv_iload_n hx hb dX1_examsOf_4 rfl (lv_at hl 0 rfl) ?_
      refine lv_iload_n hx hb dX1_examsOf_5 rfl (lv_at hl 3 rfl) ?_
      refine lv_icmp_gt (tgt := 41) hx hb dX1_examsOf_6 (by decide) (fun _ => ?_) (fun q => absurd ((nI_lt (by omega) (by omega))) q)
      refine lv_iload_n hx hb dX1_examsOf_41 rfl (lv_at hl 1 rfl) ?_
      exact W.iret hx hb hr (fun t ht hW => ⟨_, rfl, hinv, ht⟩) (fun _ h => nomatch h) dX1_examsOf_42
    | succ d ih =>
      intro i x ls hi hinv hl
      refine lv_iload_n hx hb dX1_examsOf_4 rfl (lv_at hl 0 rfl) ?_
      refine lv_iload_n hx hb dX1_examsOf_5 rfl (lv_at hl 3 rfl) ?_
      refine lv_icmp_gt (tgt := 41) hx hb dX1_examsOf_6 (by decide) (fun q => absurd q ((nI_nlt (by omega) (by omega)))) (fun _ => ?_)
      refine lv_iload_n hx hb dX1_examsOf_9 rfl (lv_at hl 1 rfl) ?_
      refine lv_aload_n hx hb dX1_examsOf_10 rfl (lv_at hl 2 rfl) ?_
      refine lv_iload_n hx hb dX1_examsOf_11 rfl (lv_at hl 3 rfl) ?_
      refine lv_iload_n hx hb dX1_examsOf_12 rfl (lv_at hl 0 rfl) ?_
      refine m0i (As := [.int (nI k), .int (nI i)]) (rest := [.int x]) S (m_has l E a τ k i (by omega) (by omega)) (cwV 2 hts gX1_examsOf_X1_has rfl rfl rfl hdX1_has ⟨Nat.le_of_ble_eq_true rfl, Nat.le_of_ble_eq_true rfl⟩) hK hP rfl hl.1 rfl (Nat.le_of_ble_eq_true rfl) ⟨Nat.zero_le _, Nat.zero_le _⟩ dX1_examsOf_13 ?_
      refine lv_if_eq (tgt := 32) hx hb dX1_examsOf_16 (by decide) (fun c16 => ?_) (fun c16 => ?_)
      · refine lv_iconst (v := 0) hx hb dX1_examsOf_32 (by decide) ?_
        refine lv_iadd hx hb dX1_examsOf_33 ?_
        refine lv_istore_n (lv' := [(2, .int (x + 0)), (3, .int (nI i)), (0, .ref (a 0)), (1, .int (nI k))]) hx hb dX1_examsOf_34 rfl hl (by decide) rfl (fun ls hl => ?_)
        refine lv_iinc (v := nI (i + 1)) (lv' := [(3, .int (nI (i + 1))), (2, .int (x + 0)), (0, .ref (a 0)), (1, .int (nI k))]) hx hb dX1_examsOf_35 hl (k := 1) rfl (nI_1 i) (by decide) rfl (fun ls hl => ?_)
        refine lv_goto (tgt := 4) hx hb dX1_examsOf_38 (by decide) ?_
        exact ih (i + 1) (x + 0) ls (by omega) (by first | (rw [hinv, sumI, mEx, b2i_eq0.mp c16]; rfl) | (rw [hinv, sumI, mEx, b2i_ne0.mp c16, b2i_ne0.mp c25]; rfl) | (rw [hinv, sumI, mEx, b2i_ne0.mp c16, b2i_eq0.mp c25]; rfl)) (lv_sub hl [0, 1, 2, 3] rfl)
      · refine lv_aload_n hx hb dX1_examsOf_19 rfl (lv_at hl 2 rfl) ?_
        refine m_get (τ := τ) hx hb hts hts0 hown hK hP 3 (by decide) (by decide +kernel) rfl rfl dX1_examsOf_20 ?_
        refine lv_iload_n hx hb dX1_examsOf_23 rfl (lv_at hl 0 rfl) ?_
        refine g_zld hx hb hK hP 1 rfl (v := b2i (mf τ i)) (vp_in_nI (by omega) (by decide)) (by rw [nI_clamp (by omega)] <;> rfl) dX1_examsOf_24 ?_
        refine lv_if_ne (tgt := 32) hx hb dX1_examsOf_25 (by decide) (fun c25 => ?_) (fun c25 => ?_)
        · refine lv_iconst (v := 0) hx hb dX1_examsOf_32 (by decide) ?_
          refine lv_iadd hx hb dX1_examsOf_33 ?_
          refine lv_istore_n (lv' := [(2, .int (x + 0)), (3, .int (nI i)), (0, .ref (a 0)), (1, .int (nI k))]) hx hb dX1_examsOf_34 rfl hl (by decide) rfl (fun ls hl => ?_)
          refine lv_iinc (v := nI (i + 1)) (lv' := [(3, .int (nI (i + 1))), (2, .int (x + 0)), (0, .ref (a 0)), (1, .int (nI k))]) hx hb dX1_examsOf_35 hl (k := 1) rfl (nI_1 i) (by decide) rfl (fun ls hl => ?_)
          refine lv_goto (tgt := 4) hx hb dX1_examsOf_38 (by decide) ?_
          exact ih (i + 1) (x + 0) ls (by omega) (by first | (rw [hinv, sumI, mEx, b2i_eq0.mp c16]; rfl) | (rw [hinv, sumI, mEx, b2i_ne0.mp c16, b2i_ne0.mp c25]; rfl) | (rw [hinv, sumI, mEx, b2i_ne0.mp c16, b2i_eq0.mp c25]; rfl)) (lv_sub hl [0, 1, 2, 3] rfl)
        · refine lv_iconst (v := 1) hx hb dX1_examsOf_28 (by decide) ?_
          refine lv_goto (tgt := 33) hx hb dX1_examsOf_29 (by decide) ?_
          refine lv_iadd hx hb dX1_examsOf_33 ?_
          refine lv_istore_n (lv' := [(2, .int (x + 1)), (3, .int (nI i)), (0, .ref (a 0)), (1, .int (nI k))]) hx hb dX1_examsOf_34 rfl hl (by decide) rfl (fun ls hl => ?_)
          refine lv_iinc (v := nI (i + 1)) (lv' := [(3, .int (nI (i + 1))), (2, .int (x + 1)), (0, .ref (a 0)), (1, .int (nI k))]) hx hb dX1_examsOf_35 hl (k := 1) rfl (nI_1 i) (by decide) rfl (fun ls hl => ?_)
          refine lv_goto (tgt := 4) hx hb dX1_examsOf_38 (by decide) ?_
          exact ih (i + 1) (x + 1) ls (by omega) (by first | (rw [hinv, sumI, mEx, b2i_eq0.mp c16]; rfl) | (rw [hinv, sumI, mEx, b2i_ne0.mp c16, b2i_ne0.mp c25]; rfl) | (rw [hinv, sumI, mEx, b2i_ne0.mp c16, b2i_eq0.mp c25]; rfl)) (lv_sub hl [0, 1, 2, 3] rfl)
  exact key ((k + 1)) 0 0 ls (by omega) rfl (lv_sub hl [0, 1, 2, 3] rfl)
theorem hinX1_behind : ∀ w ∈ wsX10, w ∈ wsX1_behind := fun w h => List.mem_cons_of_mem _ (List.mem_append_right _ h)
theorem hdX1_behind : yX1_behind.cls = RX1 ∧ yX1_behind.cls ≠ "java/lang/invoke/MethodHandle" ∧ yX1_behind.cls ≠ "java/lang/invoke/VarHandle" ∧ (parseMethodDescriptor yX1_behind.desc).map (fun d => d.parameters.length) = some 1 := by decide +kernel
set_option maxHeartbeats 4000000 in
set_option maxRecDepth 100000 in
theorem m_behind (l : Launch) (E : GE) (a : Nat → Nat) (τ : MS) (hO : MOK τ) (k : Nat) (hk : k < 40) : Met l yX1_behind wsX1_behind { frames := 1, cells := 0, slots := 0, locals := 22 } (va_Pc [.ref (a 0), .int (nI k)] (gB E (mW E a τ))) (vp_Si (fun r => r = mBh τ k)) 0 0 (fun _ => False) := by
  refine w_met (cc := cX1_behind) (maxL := 4) (ret := (some .int)) (by decide) rfl (Nat.le_of_ble_eq_true rfl) ?_
  intro p e s m below meth c ls S hr hlocks hname hB hl
  obtain ⟨hP, hK⟩ := hB
  obtain ⟨hx, hb, hml, hown, hts⟩ := id S
  have hts0 := hinX1_behind
  have hl : lv_has ls 4 [(0, .ref (a 0)), (1, .int (nI k))] := hl
  refine lv_iconst (v := 0) hx hb dX1_behind_0 (by decide) ?_
  refine lv_istore_n (lv' := [(2, .int 0), (0, .ref (a 0)), (1, .int (nI k))]) hx hb dX1_behind_1 rfl hl (by decide) rfl (fun ls hl => ?_)
  refine lv_iconst (v := 0) hx hb dX1_behind_2 (by decide) ?_
  refine lv_istore_n (lv' := [(3, .int 0), (2, .int 0), (0, .ref (a 0)), (1, .int (nI k))]) hx hb dX1_behind_3 rfl hl (by decide) rfl (fun ls hl => ?_)
  have key : ∀ (d i : Nat) (x : Int32) (ls : Array Slot), i + d = k → x = mBf (mEx τ k) (md τ) i → lv_has ls 4 [(3, .int (nI i)), (2, .int x), (0, .ref (a 0)), (1, .int (nI k))] → W p l e (headSpec wsX1_behind { frames := 1, cells := 0, slots := 0, locals := 22 }).room s m [.ref (a 0), .int (nI k)].toArray below meth c s.heap [] 0 0 (MQ below (vp_Si (fun r => r = mBh τ k)) [.ref (a 0), .int (nI k)].toArray s 0 0 (fun _ => False)) (F0 m 4 ls []) := by
    intro d
    induction d with
    | zero =>
      intro i x ls hi hinv hl
      obtain rfl : i = k := by omega
      refine lv_iload_n hx hb dX1_behind_4 rfl (lv_at hl 0 rfl) ?_
      refine lv_iload_n hx hb dX1_behind_5 rfl (lv_at hl 3 rfl) ?_
      refine lv_icmp_ge (tgt := 44) hx hb dX1_behind_6 (by decide) (fun _ => ?_) (fun q => absurd ((nI_le (Nat.le_refl _) (by omega))) q)
      refine lv_iload_n hx hb dX1_behind_44 rfl (lv_at hl 1 rfl) ?_
      exact W.iret hx hb hr (fun t ht hW => ⟨_, rfl, hinv, ht⟩) (fun _ h => nomatch h) dX1_behind_45
    | succ d ih =>
      intro i x ls hi hinv hl
      refine lv_iload_n hx hb dX1_behind_4 rfl (lv_at hl 0 rfl) ?_
      refine lv_iload_n hx hb dX1_behind_5 rfl (lv_at hl 3 rfl) ?_
      refine lv_icmp_ge (tgt := 44) hx hb dX1_behind_6 (by decide) (fun q => absurd q ((nI_ge (by omega) (by omega)))) (fun _ => ?_)
      refine lv_aload_n hx hb dX1_behind_9 rfl (lv_at hl 2 rfl) ?_
      refine lv_iload_n hx hb dX1_behind_10 rfl (lv_at hl 3 rfl) ?_
      refine lv_iload_n hx hb dX1_behind_11 rfl (lv_at hl 0 rfl) ?_
      refine m0i (As := [.int (nI k), .int (nI i)]) (rest := []) S (m_has l E a τ k i (by omega) (by omega)) (cwV 2 hts gX1_behind_X1_has rfl rfl rfl hdX1_has ⟨Nat.le_of_ble_eq_true rfl, Nat.le_of_ble_eq_true rfl⟩) hK hP rfl hl.1 rfl (Nat.le_of_ble_eq_true rfl) ⟨Nat.zero_le _, Nat.zero_le _⟩ dX1_behind_12 ?_
      refine lv_if_eq (tgt := 38) hx hb dX1_behind_15 (by decide) (fun c15 => ?_) (fun c15 => ?_)
      · refine lv_iinc (v := nI (i + 1)) (lv' := [(3, .int (nI (i + 1))), (2, .int x), (0, .ref (a 0)), (1, .int (nI k))]) hx hb dX1_behind_38 hl (k := 0) rfl (nI_1 i) (by decide) rfl (fun ls hl => ?_)
        refine lv_goto (tgt := 4) hx hb dX1_behind_41 (by decide) ?_
        exact ih (i + 1) x ls (by omega) (by first | (rw [hinv, mBf, mEx, b2i_eq0.mp c15]; rfl) | (rw [hinv, mBf, mEx, b2i_ne0.mp c15, b2i_ne0.mp c24]; rfl) | (rw [hinv, mBf, mEx, b2i_ne0.mp c15, b2i_eq0.mp c24]; rfl)) (lv_sub hl [0, 1, 2, 3] rfl)
      · refine lv_aload_n hx hb dX1_behind_18 rfl (lv_at hl 2 rfl) ?_
        refine m_get (τ := τ) hx hb hts hts0 hown hK hP 3 (by decide) (by decide +kernel) rfl rfl dX1_behind_19 ?_
        refine lv_iload_n hx hb dX1_behind_22 rfl (lv_at hl 0 rfl) ?_
        refine g_zld hx hb hK hP 1 rfl (v := b2i (mf τ i)) (vp_in_nI (by omega) (by decide)) (by rw [nI_clamp (by omega)] <;> rfl) dX1_behind_23 ?_
        refine lv_if_ne (tgt := 38) hx hb dX1_behind_24 (by decide) (fun c24 => ?_) (fun c24 => ?_)
        · refine lv_iinc (v := nI (i + 1)) (lv' := [(3, .int (nI (i + 1))), (2, .int x), (0, .ref (a 0)), (1, .int (nI k))]) hx hb dX1_behind_38 hl (k := 0) rfl (nI_1 i) (by decide) rfl (fun ls hl => ?_)
          refine lv_goto (tgt := 4) hx hb dX1_behind_41 (by decide) ?_
          exact ih (i + 1) x ls (by omega) (by first | (rw [hinv, mBf, mEx, b2i_eq0.mp c15]; rfl) | (rw [hinv, mBf, mEx, b2i_ne0.mp c15, b2i_ne0.mp c24]; rfl) | (rw [hinv, mBf, mEx, b2i_ne0.mp c15, b2i_eq0.mp c24]; rfl)) (lv_sub hl [0, 1, 2, 3] rfl)
        · refine lv_iload_n hx hb dX1_behind_27 rfl (lv_at hl 1 rfl) ?_
          refine lv_aload_n hx hb dX1_behind_28 rfl (lv_at hl 2 rfl) ?_
          refine m_get (τ := τ) hx hb hts hts0 hown hK hP 6 (by decide) (by decide +kernel) rfl rfl dX1_behind_29 ?_
          refine lv_iload_n hx hb dX1_behind_32 rfl (lv_at hl 0 rfl) ?_
          refine g_ild hx hb hK hP 4 rfl (v := md τ i) (vp_in_nI (by omega) (by decide)) (by rw [nI_clamp (by omega)] <;> rfl) dX1_behind_33 ?_
          refine g_max hx hb (hml.trans hl.1.symm) hown (hts (.methodLink RX1 60 Lib.Math.max.name) (by decide +kernel)) (hts (.static Lib.Math.max.name) (by decide +kernel)) (hts (.initialized "java/lang/Math") (by decide +kernel)) (hts (.code Lib.Math.max.name Lib.Math.max.code 2 (some .int)) (by decide +kernel)) (Nat.le_of_ble_eq_true rfl) (Nat.le_of_ble_eq_true rfl) ⟨Nat.zero_le _, Nat.zero_le _⟩ dX1_behind_34 ?_
          refine lv_istore_n (lv' := [(2, .int (imx x (md τ i))), (3, .int (nI i)), (0, .ref (a 0)), (1, .int (nI k))]) hx hb dX1_behind_37 rfl hl (by decide) rfl (fun ls hl => ?_)
          refine lv_iinc (v := nI (i + 1)) (lv' := [(3, .int (nI (i + 1))), (2, .int (imx x (md τ i))), (0, .ref (a 0)), (1, .int (nI k))]) hx hb dX1_behind_38 hl (k := 1) rfl (nI_1 i) (by decide) rfl (fun ls hl => ?_)
          refine lv_goto (tgt := 4) hx hb dX1_behind_41 (by decide) ?_
          exact ih (i + 1) (imx x (md τ i)) ls (by omega) (by first | (rw [hinv, mBf, mEx, b2i_eq0.mp c15]; rfl) | (rw [hinv, mBf, mEx, b2i_ne0.mp c15, b2i_ne0.mp c24]; rfl) | (rw [hinv, mBf, mEx, b2i_ne0.mp c15, b2i_eq0.mp c24]; rfl)) (lv_sub hl [0, 1, 2, 3] rfl)
  exact key k 0 0 ls (by omega) rfl (lv_sub hl [0, 1, 2, 3] rfl)
theorem hinX1_riskiest : ∀ w ∈ wsX10, w ∈ wsX1_riskiest := fun w h => List.mem_cons_of_mem _ (List.mem_append_right _ h)
theorem hdX1_riskiest : yX1_riskiest.cls = RX1 ∧ yX1_riskiest.cls ≠ "java/lang/invoke/MethodHandle" ∧ yX1_riskiest.cls ≠ "java/lang/invoke/VarHandle" ∧ (parseMethodDescriptor yX1_riskiest.desc).map (fun d => d.parameters.length) = some 0 := by decide +kernel
set_option maxHeartbeats 4000000 in
set_option maxRecDepth 100000 in
theorem m_riskiest (l : Launch) (E : GE) (a : Nat → Nat) (τ : MS) (hO : MOK τ) : Met l yX1_riskiest wsX1_riskiest { frames := 2, cells := 0, slots := 0, locals := 45 } (va_Pc [.ref (a 0)] (gB E (mW E a τ))) (vp_Si (fun r => r = (mRf τ).1)) 0 0 (fun _ => False) := by
  refine w_met (cc := cX1_riskiest) (maxL := 5) (ret := (some .int)) (by decide) rfl (Nat.le_of_ble_eq_true rfl) ?_
  intro p e s m below meth c ls S hr hlocks hname hB hl
  obtain ⟨hP, hK⟩ := hB
  obtain ⟨hx, hb, hml, hown, hts⟩ := id S
  have tn := hO.1
  have hts0 := hinX1_riskiest
  have hl : lv_has ls 5 [(0, .ref (a 0))] := hl
  refine lv_iconst (v := -1) hx hb dX1_riskiest_0 (by decide) ?_
  refine lv_istore_n (lv' := [(1, .int ((-1))), (0, .ref (a 0))]) hx hb dX1_riskiest_1 rfl hl (by decide) rfl (fun ls hl => ?_)
  refine lv_iconst (v := -1) hx hb dX1_riskiest_2 (by decide) ?_
  refine lv_istore_n (lv' := [(2, .int ((-1))), (1, .int ((-1))), (0, .ref (a 0))]) hx hb dX1_riskiest_3 rfl hl (by decide) rfl (fun ls hl => ?_)
  refine lv_iconst (v := 0) hx hb dX1_riskiest_4 (by decide) ?_
  refine lv_istore_n (lv' := [(3, .int 0), (2, .int ((-1))), (1, .int ((-1))), (0, .ref (a 0))]) hx hb dX1_riskiest_5 rfl hl (by decide) rfl (fun ls hl => ?_)
  have key : ∀ (d i : Nat) (x : Int32) (y : Int32) (ls : Array Slot), i + d = mn τ → (x, y) = amx nI (fun p => if mf τ p then imn (mRisk τ p true) (mRisk τ p false) else -1) (-1, -1) i → lv_has ls 5 [(3, .int (nI i)), (2, .int y), (1, .int x), (0, .ref (a 0))] → W p l e (headSpec wsX1_riskiest { frames := 2, cells := 0, slots := 0, locals := 45 }).room s m [.ref (a 0)].toArray below meth c s.heap [] 0 0 (MQ below (vp_Si (fun r => r = (mRf τ).1)) [.ref (a 0)].toArray s 0 0 (fun _ => False)) (F0 m 6 ls []) := by
    intro d
    induction d with
    | zero =>
      intro i x y ls hi hinv hl
      obtain rfl : i = mn τ := by omega
      refine lv_iload_n hx hb dX1_riskiest_6 rfl (lv_at hl 0 rfl) ?_
      refine lv_aload_n hx hb dX1_riskiest_7 rfl (lv_at hl 3 rfl) ?_
      refine m_get (τ := τ) hx hb hts hts0 hown hK hP 1 (by decide) (by decide +kernel) rfl rfl dX1_riskiest_8 ?_
      refine lv_icmp_ge (tgt := 64) hx hb dX1_riskiest_11 (by decide) (fun _ => ?_) (fun q => absurd ((nI_le (Nat.le_refl _) (by omega))) q)
      refine lv_iload_n hx hb dX1_riskiest_64 rfl (lv_at hl 2 rfl) ?_
      exact W.iret hx hb hr (fun t ht hW => ⟨_, rfl, (congrArg Prod.fst hinv), ht⟩) (fun _ h => nomatch h) dX1_riskiest_65
    | succ d ih =>
      intro i x y ls hi hinv hl
      refine lv_iload_n hx hb dX1_riskiest_6 rfl (lv_at hl 0 rfl) ?_
      refine lv_aload_n hx hb dX1_riskiest_7 rfl (lv_at hl 3 rfl) ?_
      refine m_get (τ := τ) hx hb hts hts0 hown hK hP 1 (by decide) (by decide +kernel) rfl rfl dX1_riskiest_8 ?_
      refine lv_icmp_ge (tgt := 64) hx hb dX1_riskiest_11 (by decide) (fun q => absurd q ((nI_ge (by omega) (by omega)))) (fun _ => ?_)
      refine lv_aload_n hx hb dX1_riskiest_14 rfl (lv_at hl 3 rfl) ?_
      refine m_get (τ := τ) hx hb hts hts0 hown hK hP 3 (by decide) (by decide +kernel) rfl rfl dX1_riskiest_15 ?_
      refine lv_iload_n hx hb dX1_riskiest_18 rfl (lv_at hl 0 rfl) ?_
      refine g_zld hx hb hK hP 1 rfl (v := b2i (mf τ i)) (vp_in_nI (by omega) (by decide)) (by rw [nI_clamp (by omega)] <;> rfl) dX1_riskiest_19 ?_
      refine lv_if_eq (tgt := 41) hx hb dX1_riskiest_20 (by decide) (fun c20 => ?_) (fun c20 => ?_)
      · refine lv_iconst (v := -1) hx hb dX1_riskiest_41 (by decide) ?_
        refine lv_istore (lv' := [(4, .int ((-1))), (3, .int (nI i)), (2, .int y), (1, .int x), (0, .ref (a 0))]) hx hb dX1_riskiest_42 hl (by decide) rfl (fun ls hl => ?_)
        refine lv_iload hx hb dX1_riskiest_44 (lv_at hl 0 rfl) ?_
        refine lv_iload_n hx hb dX1_riskiest_46 rfl (lv_at hl 2 rfl) ?_
        refine lv_icmp_gt (tgt := 53) hx hb dX1_riskiest_47 (by decide) (fun c47 => ?_) (fun c47 => ?_)
        · refine lv_iload_n hx hb dX1_riskiest_53 rfl (lv_at hl 1 rfl) ?_
          refine lv_istore_n (lv' := [(1, .int (nI i)), (4, .int ((-1))), (3, .int (nI i)), (2, .int y), (0, .ref (a 0))]) hx hb dX1_riskiest_54 rfl hl (by decide) rfl (fun ls hl => ?_)
          refine lv_iload hx hb dX1_riskiest_55 (lv_at hl 1 rfl) ?_
          refine lv_istore_n (lv' := [(2, .int ((-1))), (1, .int (nI i)), (4, .int ((-1))), (3, .int (nI i)), (0, .ref (a 0))]) hx hb dX1_riskiest_57 rfl hl (by decide) rfl (fun ls hl => ?_)
          refine lv_iinc (v := nI (i + 1)) (lv' := [(3, .int (nI (i + 1))), (2, .int ((-1))), (1, .int (nI i)), (4, .int ((-1))), (0, .ref (a 0))]) hx hb dX1_riskiest_58 hl (k := 3) rfl (nI_1 i) (by decide) rfl (fun ls hl => ?_)
          refine lv_goto (tgt := 6) hx hb dX1_riskiest_61 (by decide) ?_
          exact ih (i + 1) (nI i) ((-1)) ls (by omega) (by first | (rw [amx, ← hinv, b2i_eq0.mp c20]; exact (if_pos c47).symm) | (rw [amx, ← hinv, b2i_eq0.mp c20]; exact (if_neg c47).symm) | (rw [amx, ← hinv, b2i_ne0.mp c20]; exact (if_pos c47).symm) | (rw [amx, ← hinv, b2i_ne0.mp c20]; exact (if_neg c47).symm)) (lv_sub hl [0, 1, 2, 4] rfl)
        · refine lv_goto (tgt := 58) hx hb dX1_riskiest_50 (by decide) ?_
          refine lv_iinc (v := nI (i + 1)) (lv' := [(3, .int (nI (i + 1))), (4, .int ((-1))), (2, .int y), (1, .int x), (0, .ref (a 0))]) hx hb dX1_riskiest_58 hl (k := 1) rfl (nI_1 i) (by decide) rfl (fun ls hl => ?_)
          refine lv_goto (tgt := 6) hx hb dX1_riskiest_61 (by decide) ?_
          exact ih (i + 1) x y ls (by omega) (by first | (rw [amx, ← hinv, b2i_eq0.mp c20]; exact (if_pos c47).symm) | (rw [amx, ← hinv, b2i_eq0.mp c20]; exact (if_neg c47).symm) | (rw [amx, ← hinv, b2i_ne0.mp c20]; exact (if_pos c47).symm) | (rw [amx, ← hinv, b2i_ne0.mp c20]; exact (if_neg c47).symm)) (lv_sub hl [0, 2, 3, 4] rfl)
      · refine lv_aload_n hx hb dX1_riskiest_23 rfl (lv_at hl 3 rfl) ?_
        refine lv_iload_n hx hb dX1_riskiest_24 rfl (lv_at hl 0 rfl) ?_
        refine lv_iconst (v := 1) hx hb dX1_riskiest_25 (by decide) ?_
        refine m0i (As := [.int (nI i), .int (b2i true)]) (rest := []) S (m_riskOf l E a τ hO i (by omega) true) (cwV 2 hts gX1_riskiest_X1_riskOf rfl rfl rfl hdX1_riskOf ⟨Nat.le_of_ble_eq_true rfl, Nat.le_of_ble_eq_true rfl⟩) hK hP rfl hl.1 rfl (Nat.le_of_ble_eq_true rfl) ⟨Nat.zero_le _, Nat.zero_le _⟩ dX1_riskiest_26 ?_
        refine lv_aload_n hx hb dX1_riskiest_29 rfl (lv_at hl 3 rfl) ?_
        refine lv_iload_n hx hb dX1_riskiest_30 rfl (lv_at hl 0 rfl) ?_
        refine lv_iconst (v := 0) hx hb dX1_riskiest_31 (by decide) ?_
        refine m0i (As := [.int (nI i), .int (b2i false)]) (rest := [.int (mRisk τ i true)]) S (m_riskOf l E a τ hO i (by omega) false) (cwV 2 hts gX1_riskiest_X1_riskOf rfl rfl rfl hdX1_riskOf ⟨Nat.le_of_ble_eq_true rfl, Nat.le_of_ble_eq_true rfl⟩) hK hP rfl hl.1 rfl (Nat.le_of_ble_eq_true rfl) ⟨Nat.zero_le _, Nat.zero_le _⟩ dX1_riskiest_32 ?_
        refine g_min hx hb (hml.trans hl.1.symm) hown (hts (.methodLink RX1 81 Lib.Math.min.name) (by decide +kernel)) (hts (.static Lib.Math.min.name) (by decide +kernel)) (hts (.initialized "java/lang/Math") (by decide +kernel)) (hts (.code Lib.Math.min.name Lib.Math.min.code 2 (some .int)) (by decide +kernel)) (Nat.le_of_ble_eq_true rfl) (Nat.le_of_ble_eq_true rfl) ⟨Nat.zero_le _, Nat.zero_le _⟩ dX1_riskiest_35 ?_
        refine lv_goto (tgt := 42) hx hb dX1_riskiest_38 (by decide) ?_
        refine lv_istore (lv' := [(4, .int (imn (mRisk τ i true) (mRisk τ i false))), (3, .int (nI i)), (2, .int y), (1, .int x), (0, .ref (a 0))]) hx hb dX1_riskiest_42 hl (by decide) rfl (fun ls hl => ?_)
        refine lv_iload hx hb dX1_riskiest_44 (lv_at hl 0 rfl) ?_
        refine lv_iload_n hx hb dX1_riskiest_46 rfl (lv_at hl 2 rfl) ?_
        refine lv_icmp_gt (tgt := 53) hx hb dX1_riskiest_47 (by decide) (fun c47 => ?_) (fun c47 => ?_)
        · refine lv_iload_n hx hb dX1_riskiest_53 rfl (lv_at hl 1 rfl) ?_
          refine lv_istore_n (lv' := [(1, .int (nI i)), (4, .int (imn (mRisk τ i true) (mRisk τ i false))), (3, .int (nI i)), (2, .int y), (0, .ref (a 0))]) hx hb dX1_riskiest_54 rfl hl (by decide) rfl (fun ls hl => ?_)
          refine lv_iload hx hb dX1_riskiest_55 (lv_at hl 1 rfl) ?_
          refine lv_istore_n (lv' := [(2, .int (imn (mRisk τ i true) (mRisk τ i false))), (1, .int (nI i)), (4, .int (imn (mRisk τ i true) (mRisk τ i false))), (3, .int (nI i)), (0, .ref (a 0))]) hx hb dX1_riskiest_57 rfl hl (by decide) rfl (fun ls hl => ?_)
          refine lv_iinc (v := nI (i + 1)) (lv' := [(3, .int (nI (i + 1))), (2, .int (imn (mRisk τ i true) (mRisk τ i false))), (1, .int (nI i)), (4, .int (imn (mRisk τ i true) (mRisk τ i false))), (0, .ref (a 0))]) hx hb dX1_riskiest_58 hl (k := 3) rfl (nI_1 i) (by decide) rfl (fun ls hl => ?_)
          refine lv_goto (tgt := 6) hx hb dX1_riskiest_61 (by decide) ?_
          exact ih (i + 1) (nI i) (imn (mRisk τ i true) (mRisk τ i false)) ls (by omega) (by first | (rw [amx, ← hinv, b2i_eq0.mp c20]; exact (if_pos c47).symm) | (rw [amx, ← hinv, b2i_eq0.mp c20]; exact (if_neg c47).symm) | (rw [amx, ← hinv, b2i_ne0.mp c20]; exact (if_pos c47).symm) | (rw [amx, ← hinv, b2i_ne0.mp c20]; exact (if_neg c47).symm)) (lv_sub hl [0, 1, 2, 4] rfl)
        · refine lv_goto (tgt := 58) hx hb dX1_riskiest_50 (by decide) ?_
          refine lv_iinc (v := nI (i + 1)) (lv' := [(3, .int (nI (i + 1))), (4, .int (imn (mRisk τ i true) (mRisk τ i false))), (2, .int y), (1, .int x), (0, .ref (a 0))]) hx hb dX1_riskiest_58 hl (k := 1) rfl (nI_1 i) (by decide) rfl (fun ls hl => ?_)
          refine lv_goto (tgt := 6) hx hb dX1_riskiest_61 (by decide) ?_
          exact ih (i + 1) x y ls (by omega) (by first | (rw [amx, ← hinv, b2i_eq0.mp c20]; exact (if_pos c47).symm) | (rw [amx, ← hinv, b2i_eq0.mp c20]; exact (if_neg c47).symm) | (rw [amx, ← hinv, b2i_ne0.mp c20]; exact (if_pos c47).symm) | (rw [amx, ← hinv, b2i_ne0.mp c20]; exact (if_neg c47).symm)) (lv_sub hl [0, 2, 3, 4] rfl)
  exact key (mn τ) 0 ((-1)) ((-1)) ls (by omega) rfl (lv_sub hl [0, 1, 2, 3] rfl)
theorem hinX1_isKnown : ∀ w ∈ wsX10, w ∈ wsX1_isKnown := fun w h => List.mem_cons_of_mem _ (List.mem_append_right _ h)
theorem hdX1_isKnown : yX1_isKnown.cls = RX1 ∧ yX1_isKnown.cls ≠ "java/lang/invoke/MethodHandle" ∧ yX1_isKnown.cls ≠ "java/lang/invoke/VarHandle" ∧ (parseMethodDescriptor yX1_isKnown.desc).map (fun d => d.parameters.length) = some 1 := by decide +kernel
set_option maxHeartbeats 4000000 in
set_option maxRecDepth 100000 in
theorem m_isKnown (l : Launch) (E : GE) (a : Nat → Nat) (τ : MS) (hO : MOK τ) (k : Nat) (hk : k < 8) : Met l yX1_isKnown wsX1_isKnown { frames := 0, cells := 0, slots := 0, locals := 0 } (va_Pc [.ref (a 0), .int (nI k)] (gB E (mW E a τ))) (vp_Si (fun r => r = b2i (mGd τ (ms τ k)))) 0 0 (fun _ => False) := by
  refine w_met (cc := cX1_isKnown) (maxL := 2) (ret := (some .boolean)) (by decide) rfl (Nat.le_of_ble_eq_true rfl) ?_
  intro p e s m below meth c ls S hr hlocks hname hB hl
  obtain ⟨hP, hK⟩ := hB
  obtain ⟨hx, hb, hml, hown, hts⟩ := id S
  have t2 := hO.2.2.2.2.1 k
  have hts0 := hinX1_isKnown
  have hl : lv_has ls 2 [(0, .ref (a 0)), (1, .int (nI k))] := hl
  refine lv_aload_n hx hb dX1_isKnown_0 rfl (lv_at hl 0 rfl) ?_
  refine m_get (τ := τ) hx hb hts hts0 hown hK hP 3 (by decide) (by decide +kernel) rfl rfl dX1_isKnown_1 ?_
  refine lv_aload_n hx hb dX1_isKnown_4 rfl (lv_at hl 0 rfl) ?_
  refine m_get (τ := τ) hx hb hts hts0 hown hK hP 10 (by decide) (by decide +kernel) rfl rfl dX1_isKnown_5 ?_
  refine lv_iload_n hx hb dX1_isKnown_8 rfl (lv_at hl 1 rfl) ?_
  refine g_ild hx hb hK hP 8 rfl (v := nI (ms τ k)) (vp_in_nI (by omega) (by decide)) (by rw [nI_clamp (by omega)] <;> rfl) dX1_isKnown_9 ?_
  refine g_zld hx hb hK hP 1 rfl (v := b2i (mf τ (ms τ k))) (vp_in_nI (by omega) (by decide)) (by rw [nI_clamp (by omega)] <;> rfl) dX1_isKnown_10 ?_
  refine lv_if_ne (tgt := 33) hx hb dX1_isKnown_11 (by decide) (fun c11 => ?_) (fun c11 => ?_)
  · refine lv_iconst (v := 0) hx hb dX1_isKnown_33 (by decide) ?_
    exact W.zret hx hb hr rfl (fun t ht hW => ⟨_, rfl, (by first | (rw [mGd, b2i_ne0.mp c11]; rfl) | (rw [mGd, b2i_eq0.mp c11, decide_eq_true c26]; rfl) | (rw [mGd, b2i_eq0.mp c11, decide_eq_false c26]; rfl)), ht⟩) (fun _ h => nomatch h) dX1_isKnown_34
  · refine lv_aload_n hx hb dX1_isKnown_14 rfl (lv_at hl 0 rfl) ?_
    refine m_get (τ := τ) hx hb hts hts0 hown hK hP 6 (by decide) (by decide +kernel) rfl rfl dX1_isKnown_15 ?_
    refine lv_aload_n hx hb dX1_isKnown_18 rfl (lv_at hl 0 rfl) ?_
    refine m_get (τ := τ) hx hb hts hts0 hown hK hP 10 (by decide) (by decide +kernel) rfl rfl dX1_isKnown_19 ?_
    refine lv_iload_n hx hb dX1_isKnown_22 rfl (lv_at hl 1 rfl) ?_
    refine g_ild hx hb hK hP 8 rfl (v := nI (ms τ k)) (vp_in_nI (by omega) (by decide)) (by rw [nI_clamp (by omega)] <;> rfl) dX1_isKnown_23 ?_
    refine g_ild hx hb hK hP 4 rfl (v := md τ (ms τ k)) (vp_in_nI (by omega) (by decide)) (by rw [nI_clamp (by omega)] <;> rfl) dX1_isKnown_24 ?_
    refine lv_iconst (v := -1) hx hb dX1_isKnown_25 (by decide) ?_
    refine lv_icmp_eq (tgt := 33) hx hb dX1_isKnown_26 (by decide) (fun c26 => ?_) (fun c26 => ?_)
    · refine lv_iconst (v := 0) hx hb dX1_isKnown_33 (by decide) ?_
      exact W.zret hx hb hr rfl (fun t ht hW => ⟨_, rfl, (by first | (rw [mGd, b2i_ne0.mp c11]; rfl) | (rw [mGd, b2i_eq0.mp c11, decide_eq_true c26]; rfl) | (rw [mGd, b2i_eq0.mp c11, decide_eq_false c26]; rfl)), ht⟩) (fun _ h => nomatch h) dX1_isKnown_34
    · refine lv_iconst (v := 1) hx hb dX1_isKnown_29 (by decide) ?_
      refine lv_goto (tgt := 34) hx hb dX1_isKnown_30 (by decide) ?_
      exact W.zret hx hb hr rfl (fun t ht hW => ⟨_, rfl, (by first | (rw [mGd, b2i_ne0.mp c11]; rfl) | (rw [mGd, b2i_eq0.mp c11, decide_eq_true c26]; rfl) | (rw [mGd, b2i_eq0.mp c11, decide_eq_false c26]; rfl)), ht⟩) (fun _ h => nomatch h) dX1_isKnown_34
theorem hinX1_regret : ∀ w ∈ wsX10, w ∈ wsX1_regret := fun w h => List.mem_cons_of_mem _ (List.mem_append_right _ h)
theorem hdX1_regret : yX1_regret.cls = RX1 ∧ yX1_regret.cls ≠ "java/lang/invoke/MethodHandle" ∧ yX1_regret.cls ≠ "java/lang/invoke/VarHandle" ∧ (parseMethodDescriptor yX1_regret.desc).map (fun d => d.parameters.length) = some 2 := by decide +kernel
set_option maxHeartbeats 4000000 in
set_option maxRecDepth 100000 in
theorem m_regret (l : Launch) (E : GE) (a : Nat → Nat) (τ : MS) (hO : MOK τ) (s0 j : Nat) (hs : s0 < 8) (hj : j < 40) : Met l yX1_regret wsX1_regret { frames := 2, cells := 0, slots := 0, locals := 45 } (va_Pc [.ref (a 0), .int (nI s0), .int (nI j)] (gB E (mW E a τ))) (vp_Si (fun r => r = mReg τ s0 j)) 0 0 (fun _ => False) := by
  refine w_met (cc := cX1_regret) (maxL := 4) (ret := (some .int)) (by decide) rfl (Nat.le_of_ble_eq_true rfl) ?_
  intro p e s m below meth c ls S hr hlocks hname hB hl
  obtain ⟨hP, hK⟩ := hB
  obtain ⟨hx, hb, hml, hown, hts⟩ := id S
  have t1 := hO.2.2.2.2.2.1 (40 * s0 + j)
  have t2 := hO.2.2.2.2.1 s0
  have hts0 := hinX1_regret
  have hl : lv_has ls 4 [(0, .ref (a 0)), (1, .int (nI s0)), (2, .int (nI j))] := hl
  refine lv_aload_n hx hb dX1_regret_0 rfl (lv_at hl 0 rfl) ?_
  refine m_get (τ := τ) hx hb hts hts0 hown hK hP 12 (by decide) (by decide +kernel) rfl rfl dX1_regret_1 ?_
  refine lv_bipush (v := nI 40) hx hb dX1_regret_4 (by decide) ?_
  refine lv_iload_n hx hb dX1_regret_6 rfl (lv_at hl 1 rfl) ?_
  refine lv_imul hx hb dX1_regret_7 ?_
  rw [pk_mul 40 s0]
  refine lv_iload_n hx hb dX1_regret_8 rfl (lv_at hl 2 rfl) ?_
  refine lv_iadd hx hb dX1_regret_9 ?_
  rw [nI_add (40 * s0) j]
  refine g_ild hx hb hK hP 10 rfl (v := nI (mw τ ((40 * s0) + j))) (vp_in_nI (by omega) (by decide)) (by rw [nI_clamp (by omega)] <;> rfl) dX1_regret_10 ?_
  refine lv_istore_n (lv' := [(3, .int (nI (mw τ ((40 * s0) + j)))), (0, .ref (a 0)), (1, .int (nI s0)), (2, .int (nI j))]) hx hb dX1_regret_11 rfl hl (by decide) rfl (fun ls hl => ?_)
  refine lv_iconst (v := 0) hx hb dX1_regret_12 (by decide) ?_
  refine lv_aload_n hx hb dX1_regret_13 rfl (lv_at hl 1 rfl) ?_
  refine lv_iload_n hx hb dX1_regret_14 rfl (lv_at hl 0 rfl) ?_
  refine m0i (As := [.int (nI (mw τ ((40 * s0) + j)))]) (rest := [.int 0]) S (m_behind l E a τ hO (mw τ ((40 * s0) + j)) (by omega)) (cwV 1 hts gX1_regret_X1_behind rfl rfl rfl hdX1_behind ⟨Nat.le_of_ble_eq_true rfl, Nat.le_of_ble_eq_true rfl⟩) hK hP rfl hl.1 rfl (Nat.le_of_ble_eq_true rfl) ⟨Nat.zero_le _, Nat.zero_le _⟩ dX1_regret_15 ?_
  refine lv_aload_n hx hb dX1_regret_18 rfl (lv_at hl 1 rfl) ?_
  refine m_get (τ := τ) hx hb hts hts0 hown hK hP 6 (by decide) (by decide +kernel) rfl rfl dX1_regret_19 ?_
  refine lv_aload_n hx hb dX1_regret_22 rfl (lv_at hl 1 rfl) ?_
  refine m_get (τ := τ) hx hb hts hts0 hown hK hP 10 (by decide) (by decide +kernel) rfl rfl dX1_regret_23 ?_
  refine lv_iload_n hx hb dX1_regret_26 rfl (lv_at hl 2 rfl) ?_
  refine g_ild hx hb hK hP 8 rfl (v := nI (ms τ s0)) (vp_in_nI (by omega) (by decide)) (by rw [nI_clamp (by omega)] <;> rfl) dX1_regret_27 ?_
  refine g_ild hx hb hK hP 4 rfl (v := md τ (ms τ s0)) (vp_in_nI (by omega) (by decide)) (by rw [nI_clamp (by omega)] <;> rfl) dX1_regret_28 ?_
  refine lv_isub hx hb dX1_regret_29 ?_
  refine g_max hx hb (hml.trans hl.1.symm) hown (hts (.methodLink RX1 60 Lib.Math.max.name) (by decide +kernel)) (hts (.static Lib.Math.max.name) (by decide +kernel)) (hts (.initialized "java/lang/Math") (by decide +kernel)) (hts (.code Lib.Math.max.name Lib.Math.max.code 2 (some .int)) (by decide +kernel)) (Nat.le_of_ble_eq_true rfl) (Nat.le_of_ble_eq_true rfl) ⟨Nat.zero_le _, Nat.zero_le _⟩ dX1_regret_30 ?_
  refine lv_aload_n hx hb dX1_regret_33 rfl (lv_at hl 1 rfl) ?_
  refine m_get (τ := τ) hx hb hts hts0 hown hK hP 6 (by decide) (by decide +kernel) rfl rfl dX1_regret_34 ?_
  refine lv_iload_n hx hb dX1_regret_37 rfl (lv_at hl 0 rfl) ?_
  refine g_ild hx hb hK hP 4 rfl (v := md τ (mw τ ((40 * s0) + j))) (vp_in_nI (by omega) (by decide)) (by rw [nI_clamp (by omega)] <;> rfl) dX1_regret_38 ?_
  refine lv_imul hx hb dX1_regret_39 ?_
  exact W.iret hx hb hr (fun t ht hW => ⟨_, rfl, rfl, ht⟩) (fun _ h => nomatch h) dX1_regret_40
theorem hinX1_regrets : ∀ w ∈ wsX10, w ∈ wsX1_regrets := fun w h => List.mem_cons_of_mem _ (List.mem_append_right _ h)
theorem hdX1_regrets : yX1_regrets.cls = RX1 ∧ yX1_regrets.cls ≠ "java/lang/invoke/MethodHandle" ∧ yX1_regrets.cls ≠ "java/lang/invoke/VarHandle" ∧ (parseMethodDescriptor yX1_regrets.desc).map (fun d => d.parameters.length) = some 1 := by decide +kernel
set_option maxHeartbeats 4000000 in
set_option maxRecDepth 100000 in
theorem m_regrets (l : Launch) (E : GE) (a : Nat → Nat) (τ : MS) (hO : MOK τ) (s0 : Nat) (hs : s0 < 8) : Met l yX1_regrets wsX1_regrets { frames := 3, cells := 0, slots := 0, locals := 68 } (va_Pc [.ref (a 0), .int (nI s0)] (gB E (mW E a τ))) (vp_Si (fun r => r = mRegs τ s0)) 0 0 (fun _ => False) := by
  refine w_met (cc := cX1_regrets) (maxL := 4) (ret := (some .int)) (by decide) rfl (Nat.le_of_ble_eq_true rfl) ?_
  intro p e s m below meth c ls S hr hlocks hname hB hl
  obtain ⟨hP, hK⟩ := hB
  obtain ⟨hx, hb, hml, hown, hts⟩ := id S
  have t1 := hO.2.2.2.2.2.2.1 s0
  have hts0 := hinX1_regrets
  have hl : lv_has ls 4 [(0, .ref (a 0)), (1, .int (nI s0))] := hl
  refine lv_iconst (v := 0) hx hb dX1_regrets_0 (by decide) ?_
  refine lv_istore_n (lv' := [(2, .int 0), (0, .ref (a 0)), (1, .int (nI s0))]) hx hb dX1_regrets_1 rfl hl (by decide) rfl (fun ls hl => ?_)
  refine lv_iconst (v := 0) hx hb dX1_regrets_2 (by decide) ?_
  refine lv_istore_n (lv' := [(3, .int 0), (2, .int 0), (0, .ref (a 0)), (1, .int (nI s0))]) hx hb dX1_regrets_3 rfl hl (by decide) rfl (fun ls hl => ?_)
  have key : ∀ (d i : Nat) (x : Int32) (ls : Array Slot), i + d = mp τ s0 → x = sumI (mReg τ s0) i → lv_has ls 4 [(3, .int (nI i)), (2, .int x), (0, .ref (a 0)), (1, .int (nI s0))] → W p l e (headSpec wsX1_regrets { frames := 3, cells := 0, slots := 0, locals := 68 }).room s m [.ref (a 0), .int (nI s0)].toArray below meth c s.heap [] 0 0 (MQ below (vp_Si (fun r => r = mRegs τ s0)) [.ref (a 0), .int (nI s0)].toArray s 0 0 (fun _ => False)) (F0 m 4 ls []) := by
    intro d
    induction d with
    | zero =>
      intro i x ls hi hinv hl
      obtain rfl : i = mp τ s0 := by omega
      refine lv_iload_n hx hb dX1_regrets_4 rfl (lv_at hl 0 rfl) ?_
      refine lv_aload_n hx hb dX1_regrets_5 rfl (lv_at hl 2 rfl) ?_
      refine m_get (τ := τ) hx hb hts hts0 hown hK hP 11 (by decide) (by decide +kernel) rfl rfl dX1_regrets_6 ?_
      refine lv_iload_n hx hb dX1_regrets_9 rfl (lv_at hl 3 rfl) ?_
      refine g_ild hx hb hK hP 9 rfl (v := nI (mp τ s0)) (vp_in_nI (by omega) (by decide)) (by rw [nI_clamp (by omega)] <;> rfl) dX1_regrets_10 ?_
      refine lv_icmp_ge (tgt := 29) hx hb dX1_regrets_11 (by decide) (fun _ => ?_) (fun q => absurd ((nI_le (Nat.le_refl _) (by omega))) q)
      refine lv_iload_n hx hb dX1_regrets_29 rfl (lv_at hl 1 rfl) ?_
      exact W.iret hx hb hr (fun t ht hW => ⟨_, rfl, hinv, ht⟩) (fun _ h => nomatch h) dX1_regrets_30
    | succ d ih =>
      intro i x ls hi hinv hl
      refine lv_iload_n hx hb dX1_regrets_4 rfl (lv_at hl 0 rfl) ?_
      refine lv_aload_n hx hb dX1_regrets_5 rfl (lv_at hl 2 rfl) ?_
      refine m_get (τ := τ) hx hb hts hts0 hown hK hP 11 (by decide) (by decide +kernel) rfl rfl dX1_regrets_6 ?_
      refine lv_iload_n hx hb dX1_regrets_9 rfl (lv_at hl 3 rfl) ?_
      refine g_ild hx hb hK hP 9 rfl (v := nI (mp τ s0)) (vp_in_nI (by omega) (by decide)) (by rw [nI_clamp (by omega)] <;> rfl) dX1_regrets_10 ?_
      refine lv_icmp_ge (tgt := 29) hx hb dX1_regrets_11 (by decide) (fun q => absurd q ((nI_ge (by omega) (by omega)))) (fun _ => ?_)
      refine lv_iload_n hx hb dX1_regrets_14 rfl (lv_at hl 1 rfl) ?_
      refine lv_aload_n hx hb dX1_regrets_15 rfl (lv_at hl 2 rfl) ?_
      refine lv_iload_n hx hb dX1_regrets_16 rfl (lv_at hl 3 rfl) ?_
      refine lv_iload_n hx hb dX1_regrets_17 rfl (lv_at hl 0 rfl) ?_
      refine m0i (As := [.int (nI s0), .int (nI i)]) (rest := [.int x]) S (m_regret l E a τ hO s0 i (by omega) (by omega)) (cwV 2 hts gX1_regrets_X1_regret rfl rfl rfl hdX1_regret ⟨Nat.le_of_ble_eq_true rfl, Nat.le_of_ble_eq_true rfl⟩) hK hP rfl hl.1 rfl (Nat.le_of_ble_eq_true rfl) ⟨Nat.zero_le _, Nat.zero_le _⟩ dX1_regrets_18 ?_
      refine lv_iadd hx hb dX1_regrets_21 ?_
      refine lv_istore_n (lv' := [(2, .int (x + (mReg τ s0 i))), (3, .int (nI i)), (0, .ref (a 0)), (1, .int (nI s0))]) hx hb dX1_regrets_22 rfl hl (by decide) rfl (fun ls hl => ?_)
      refine lv_iinc (v := nI (i + 1)) (lv' := [(3, .int (nI (i + 1))), (2, .int (x + (mReg τ s0 i))), (0, .ref (a 0)), (1, .int (nI s0))]) hx hb dX1_regrets_23 hl (k := 1) rfl (nI_1 i) (by decide) rfl (fun ls hl => ?_)
      refine lv_goto (tgt := 4) hx hb dX1_regrets_26 (by decide) ?_
      exact ih (i + 1) (x + (mReg τ s0 i)) ls (by omega) (by rw [hinv]; rfl) (lv_sub hl [0, 1, 2, 3] rfl)
  exact key (mp τ s0) 0 0 ls (by omega) rfl (lv_sub hl [0, 1, 2, 3] rfl)
theorem hinX1_allRegrets : ∀ w ∈ wsX10, w ∈ wsX1_allRegrets := fun w h => List.mem_cons_of_mem _ (List.mem_append_right _ h)
theorem hdX1_allRegrets : yX1_allRegrets.cls = RX1 ∧ yX1_allRegrets.cls ≠ "java/lang/invoke/MethodHandle" ∧ yX1_allRegrets.cls ≠ "java/lang/invoke/VarHandle" ∧ (parseMethodDescriptor yX1_allRegrets.desc).map (fun d => d.parameters.length) = some 0 := by decide +kernel
set_option maxHeartbeats 4000000 in
set_option maxRecDepth 100000 in
theorem m_allRegrets (l : Launch) (E : GE) (a : Nat → Nat) (τ : MS) (hO : MOK τ) : Met l yX1_allRegrets wsX1_allRegrets { frames := 4, cells := 0, slots := 0, locals := 91 } (va_Pc [.ref (a 0)] (gB E (mW E a τ))) (vp_Si (fun r => r = mAll τ)) 0 0 (fun _ => False) := by
  refine w_met (cc := cX1_allRegrets) (maxL := 3) (ret := (some .int)) (by decide) rfl (Nat.le_of_ble_eq_true rfl) ?_
  intro p e s m below meth c ls S hr hlocks hname hB hl
  obtain ⟨hP, hK⟩ := hB
  obtain ⟨hx, hb, hml, hown, hts⟩ := id S
  have tk := hO.2.1
  have hts0 := hinX1_allRegrets
  have hl : lv_has ls 3 [(0, .ref (a 0))] := hl
  refine lv_iconst (v := 0) hx hb dX1_allRegrets_0 (by decide) ?_
  refine lv_istore_n (lv' := [(1, .int 0), (0, .ref (a 0))]) hx hb dX1_allRegrets_1 rfl hl (by decide) rfl (fun ls hl => ?_)
  refine lv_iconst (v := 0) hx hb dX1_allRegrets_2 (by decide) ?_
  refine lv_istore_n (lv' := [(2, .int 0), (1, .int 0), (0, .ref (a 0))]) hx hb dX1_allRegrets_3 rfl hl (by decide) rfl (fun ls hl => ?_)
  have key : ∀ (d i : Nat) (x : Int32) (ls : Array Slot), i + d = mk τ → x = sumI (fun s => if mGd τ (ms τ s) then mRegs τ s else 0) i → lv_has ls 3 [(2, .int (nI i)), (1, .int x), (0, .ref (a 0))] → W p l e (headSpec wsX1_allRegrets { frames := 4, cells := 0, slots := 0, locals := 91 }).room s m [.ref (a 0)].toArray below meth c s.heap [] 0 0 (MQ below (vp_Si (fun r => r = mAll τ)) [.ref (a 0)].toArray s 0 0 (fun _ => False)) (F0 m 4 ls []) := by
    intro d
    induction d with
    | zero =>
      intro i x ls hi hinv hl
      obtain rfl : i = mk τ := by omega
      refine lv_iload_n hx hb dX1_allRegrets_4 rfl (lv_at hl 0 rfl) ?_
      refine lv_aload_n hx hb dX1_allRegrets_5 rfl (lv_at hl 2 rfl) ?_
      refine m_get (τ := τ) hx hb hts hts0 hown hK hP 2 (by decide) (by decide +kernel) rfl rfl dX1_allRegrets_6 ?_
      refine lv_icmp_ge (tgt := 38) hx hb dX1_allRegrets_9 (by decide) (fun _ => ?_) (fun q => absurd ((nI_le (Nat.le_refl _) (by omega))) q)
      refine lv_iload_n hx hb dX1_allRegrets_38 rfl (lv_at hl 1 rfl) ?_
      exact W.iret hx hb hr (fun t ht hW => ⟨_, rfl, hinv, ht⟩) (fun _ h => nomatch h) dX1_allRegrets_39
    | succ d ih =>
      intro i x ls hi hinv hl
      refine lv_iload_n hx hb dX1_allRegrets_4 rfl (lv_at hl 0 rfl) ?_
      refine lv_aload_n hx hb dX1_allRegrets_5 rfl (lv_at hl 2 rfl) ?_
      refine m_get (τ := τ) hx hb hts hts0 hown hK hP 2 (by decide) (by decide +kernel) rfl rfl dX1_allRegrets_6 ?_
      refine lv_icmp_ge (tgt := 38) hx hb dX1_allRegrets_9 (by decide) (fun q => absurd q ((nI_ge (by omega) (by omega)))) (fun _ => ?_)
      refine lv_iload_n hx hb dX1_allRegrets_12 rfl (lv_at hl 1 rfl) ?_
      refine lv_aload_n hx hb dX1_allRegrets_13 rfl (lv_at hl 2 rfl) ?_
      refine lv_iload_n hx hb dX1_allRegrets_14 rfl (lv_at hl 0 rfl) ?_
      refine m0i (As := [.int (nI i)]) (rest := [.int x]) S (m_isKnown l E a τ hO i (by omega)) (cwV 1 hts gX1_allRegrets_X1_isKnown rfl rfl rfl hdX1_isKnown ⟨Nat.le_of_ble_eq_true rfl, Nat.le_of_ble_eq_true rfl⟩) hK hP rfl hl.1 rfl (Nat.le_of_ble_eq_true rfl) ⟨Nat.zero_le _, Nat.zero_le _⟩ dX1_allRegrets_15 ?_
      refine lv_if_eq (tgt := 29) hx hb dX1_allRegrets_18 (by decide) (fun c18 => ?_) (fun c18 => ?_)
      · refine lv_iconst (v := 0) hx hb dX1_allRegrets_29 (by decide) ?_
        refine lv_iadd hx hb dX1_allRegrets_30 ?_
        refine lv_istore_n (lv' := [(1, .int (x + 0)), (2, .int (nI i)), (0, .ref (a 0))]) hx hb dX1_allRegrets_31 rfl hl (by decide) rfl (fun ls hl => ?_)
        refine lv_iinc (v := nI (i + 1)) (lv' := [(2, .int (nI (i + 1))), (1, .int (x + 0)), (0, .ref (a 0))]) hx hb dX1_allRegrets_32 hl (k := 1) rfl (nI_1 i) (by decide) rfl (fun ls hl => ?_)
        refine lv_goto (tgt := 4) hx hb dX1_allRegrets_35 (by decide) ?_
        exact ih (i + 1) (x + 0) ls (by omega) (by first | (rw [hinv, sumI, b2i_eq0.mp c18]; rfl) | (rw [hinv, sumI, b2i_ne0.mp c18]; rfl)) (lv_sub hl [0, 1, 2] rfl)
      · refine lv_aload_n hx hb dX1_allRegrets_21 rfl (lv_at hl 2 rfl) ?_
        refine lv_iload_n hx hb dX1_allRegrets_22 rfl (lv_at hl 0 rfl) ?_
        refine m0i (As := [.int (nI i)]) (rest := [.int x]) S (m_regrets l E a τ hO i (by omega)) (cwV 1 hts gX1_allRegrets_X1_regrets rfl rfl rfl hdX1_regrets ⟨Nat.le_of_ble_eq_true rfl, Nat.le_of_ble_eq_true rfl⟩) hK hP rfl hl.1 rfl (Nat.le_of_ble_eq_true rfl) ⟨Nat.zero_le _, Nat.zero_le _⟩ dX1_allRegrets_23 ?_
        refine lv_goto (tgt := 30) hx hb dX1_allRegrets_26 (by decide) ?_
        refine lv_iadd hx hb dX1_allRegrets_30 ?_
        refine lv_istore_n (lv' := [(1, .int (x + (mRegs τ i))), (2, .int (nI i)), (0, .ref (a 0))]) hx hb dX1_allRegrets_31 rfl hl (by decide) rfl (fun ls hl => ?_)
        refine lv_iinc (v := nI (i + 1)) (lv' := [(2, .int (nI (i + 1))), (1, .int (x + (mRegs τ i))), (0, .ref (a 0))]) hx hb dX1_allRegrets_32 hl (k := 1) rfl (nI_1 i) (by decide) rfl (fun ls hl => ?_)
        refine lv_goto (tgt := 4) hx hb dX1_allRegrets_35 (by decide) ?_
        exact ih (i + 1) (x + (mRegs τ i)) ls (by omega) (by first | (rw [hinv, sumI, b2i_eq0.mp c18]; rfl) | (rw [hinv, sumI, b2i_ne0.mp c18]; rfl)) (lv_sub hl [0, 1, 2] rfl)
  exact key (mk τ) 0 0 ls (by omega) rfl (lv_sub hl [0, 1, 2] rfl)
theorem hinX1_worst : ∀ w ∈ wsX10, w ∈ wsX1_worst := fun w h => List.mem_cons_of_mem _ (List.mem_append_right _ h)
theorem hdX1_worst : yX1_worst.cls = RX1 ∧ yX1_worst.cls ≠ "java/lang/invoke/MethodHandle" ∧ yX1_worst.cls ≠ "java/lang/invoke/VarHandle" ∧ (parseMethodDescriptor yX1_worst.desc).map (fun d => d.parameters.length) = some 1 := by decide +kernel
set_option maxHeartbeats 4000000 in
set_option maxRecDepth 100000 in
theorem m_worst (l : Launch) (E : GE) (a : Nat → Nat) (τ : MS) (hO : MOK τ) (k : Nat) (hk : k < 8) : Met l yX1_worst wsX1_worst { frames := 3, cells := 0, slots := 0, locals := 68 } (va_Pc [.ref (a 0), .int (nI k)] (gB E (mW E a τ))) (vp_Si (fun r => r = (mWf τ k).1)) 0 0 (fun _ => False) := by
  refine w_met (cc := cX1_worst) (maxL := 5) (ret := (some .int)) (by decide) rfl (Nat.le_of_ble_eq_true rfl) ?_
  intro p e s m below meth c ls S hr hlocks hname hB hl
  obtain ⟨hP, hK⟩ := hB
  obtain ⟨hx, hb, hml, hown, hts⟩ := id S
  have t1 := hO.2.2.2.2.2.2.1 k
  have hts0 := hinX1_worst
  have hl : lv_has ls 5 [(0, .ref (a 0)), (1, .int (nI k))] := hl
  refine lv_iconst (v := -1) hx hb dX1_worst_0 (by decide) ?_
  refine lv_istore_n (lv' := [(2, .int ((-1))), (0, .ref (a 0)), (1, .int (nI k))]) hx hb dX1_worst_1 rfl hl (by decide) rfl (fun ls hl => ?_)
  refine lv_iconst (v := 0) hx hb dX1_worst_2 (by decide) ?_
  refine lv_istore_n (lv' := [(3, .int 0), (2, .int ((-1))), (0, .ref (a 0)), (1, .int (nI k))]) hx hb dX1_worst_3 rfl hl (by decide) rfl (fun ls hl => ?_)
  refine lv_iconst (v := 0) hx hb dX1_worst_4 (by decide) ?_
  refine lv_istore (lv' := [(4, .int 0), (3, .int 0), (2, .int ((-1))), (0, .ref (a 0)), (1, .int (nI k))]) hx hb dX1_worst_5 hl (by decide) rfl (fun ls hl => ?_)
  have key : ∀ (d i : Nat) (x : Int32) (y : Int32) (ls : Array Slot), i + d = mp τ k → (x, y) = amx (fun j => nI (mw τ (40 * k + j))) (mReg τ k) (-1, 0) i → lv_has ls 5 [(4, .int (nI i)), (3, .int y), (2, .int x), (0, .ref (a 0)), (1, .int (nI k))] → W p l e (headSpec wsX1_worst { frames := 3, cells := 0, slots := 0, locals := 68 }).room s m [.ref (a 0), .int (nI k)].toArray below meth c s.heap [] 0 0 (MQ below (vp_Si (fun r => r = (mWf τ k).1)) [.ref (a 0), .int (nI k)].toArray s 0 0 (fun _ => False)) (F0 m 7 ls []) := by
    intro d
    induction d with
    | zero =>
      intro i x y ls hi hinv hl
      obtain rfl : i = mp τ k := by omega
      refine lv_iload hx hb dX1_worst_7 (lv_at hl 0 rfl) ?_
      refine lv_aload_n hx hb dX1_worst_9 rfl (lv_at hl 3 rfl) ?_
      refine m_get (τ := τ) hx hb hts hts0 hown hK hP 11 (by decide) (by decide +kernel) rfl rfl dX1_worst_10 ?_
      refine lv_iload_n hx hb dX1_worst_13 rfl (lv_at hl 4 rfl) ?_
      refine g_ild hx hb hK hP 9 rfl (v := nI (mp τ k)) (vp_in_nI (by omega) (by decide)) (by rw [nI_clamp (by omega)] <;> rfl) dX1_worst_14 ?_
      refine lv_icmp_ge (tgt := 59) hx hb dX1_worst_15 (by decide) (fun _ => ?_) (fun q => absurd ((nI_le (Nat.le_refl _) (by omega))) q)
      refine lv_iload_n hx hb dX1_worst_59 rfl (lv_at hl 2 rfl) ?_
      exact W.iret hx hb hr (fun t ht hW => ⟨_, rfl, (congrArg Prod.fst hinv), ht⟩) (fun _ h => nomatch h) dX1_worst_60
    | succ d ih =>
      intro i x y ls hi hinv hl
      refine lv_iload hx hb dX1_worst_7 (lv_at hl 0 rfl) ?_
      refine lv_aload_n hx hb dX1_worst_9 rfl (lv_at hl 3 rfl) ?_
      refine m_get (τ := τ) hx hb hts hts0 hown hK hP 11 (by decide) (by decide +kernel) rfl rfl dX1_worst_10 ?_
      refine lv_iload_n hx hb dX1_worst_13 rfl (lv_at hl 4 rfl) ?_
      refine g_ild hx hb hK hP 9 rfl (v := nI (mp τ k)) (vp_in_nI (by omega) (by decide)) (by rw [nI_clamp (by omega)] <;> rfl) dX1_worst_14 ?_
      refine lv_icmp_ge (tgt := 59) hx hb dX1_worst_15 (by decide) (fun q => absurd q ((nI_ge (by omega) (by omega)))) (fun _ => ?_)
      refine lv_aload_n hx hb dX1_worst_18 rfl (lv_at hl 3 rfl) ?_
      refine lv_iload_n hx hb dX1_worst_19 rfl (lv_at hl 4 rfl) ?_
      refine lv_iload hx hb dX1_worst_20 (lv_at hl 0 rfl) ?_
      refine m0i (As := [.int (nI k), .int (nI i)]) (rest := []) S (m_regret l E a τ hO k i (by omega) (by omega)) (cwV 2 hts gX1_worst_X1_regret rfl rfl rfl hdX1_regret ⟨Nat.le_of_ble_eq_true rfl, Nat.le_of_ble_eq_true rfl⟩) hK hP rfl hl.1 rfl (Nat.le_of_ble_eq_true rfl) ⟨Nat.zero_le _, Nat.zero_le _⟩ dX1_worst_22 ?_
      refine lv_iload_n hx hb dX1_worst_25 rfl (lv_at hl 1 rfl) ?_
      refine lv_icmp_gt (tgt := 32) hx hb dX1_worst_26 (by decide) (fun c26 => ?_) (fun c26 => ?_)
      · refine lv_aload_n hx hb dX1_worst_32 rfl (lv_at hl 3 rfl) ?_
        refine m_get (τ := τ) hx hb hts hts0 hown hK hP 12 (by decide) (by decide +kernel) rfl rfl dX1_worst_33 ?_
        refine lv_bipush (v := nI 40) hx hb dX1_worst_36 (by decide) ?_
        refine lv_iload_n hx hb dX1_worst_38 rfl (lv_at hl 4 rfl) ?_
        refine lv_imul hx hb dX1_worst_39 ?_
        rw [pk_mul 40 k]
        refine lv_iload hx hb dX1_worst_40 (lv_at hl 0 rfl) ?_
        refine lv_iadd hx hb dX1_worst_42 ?_
        rw [nI_add (40 * k) i]
        refine g_ild hx hb hK hP 10 rfl (v := nI (mw τ ((40 * k) + i))) (vp_in_nI (by omega) (by decide)) (by rw [nI_clamp (by omega)] <;> rfl) dX1_worst_43 ?_
        refine lv_istore_n (lv' := [(2, .int (nI (mw τ ((40 * k) + i)))), (4, .int (nI i)), (3, .int y), (0, .ref (a 0)), (1, .int (nI k))]) hx hb dX1_worst_44 rfl hl (by decide) rfl (fun ls hl => ?_)
        refine lv_aload_n hx hb dX1_worst_45 rfl (lv_at hl 3 rfl) ?_
        refine lv_iload_n hx hb dX1_worst_46 rfl (lv_at hl 4 rfl) ?_
        refine lv_iload hx hb dX1_worst_47 (lv_at hl 1 rfl) ?_
        refine m0i (As := [.int (nI k), .int (nI i)]) (rest := []) S (m_regret l E a τ hO k i (by omega) (by omega)) (cwV 2 hts gX1_worst_X1_regret rfl rfl rfl hdX1_regret ⟨Nat.le_of_ble_eq_true rfl, Nat.le_of_ble_eq_true rfl⟩) hK hP rfl hl.1 rfl (Nat.le_of_ble_eq_true rfl) ⟨Nat.zero_le _, Nat.zero_le _⟩ dX1_worst_49 ?_
        refine lv_istore_n (lv' := [(3, .int (mReg τ k i)), (2, .int (nI (mw τ ((40 * k) + i)))), (4, .int (nI i)), (0, .ref (a 0)), (1, .int (nI k))]) hx hb dX1_worst_52 rfl hl (by decide) rfl (fun ls hl => ?_)
        refine lv_iinc (v := nI (i + 1)) (lv' := [(4, .int (nI (i + 1))), (3, .int (mReg τ k i)), (2, .int (nI (mw τ ((40 * k) + i)))), (0, .ref (a 0)), (1, .int (nI k))]) hx hb dX1_worst_53 hl (k := 2) rfl (nI_1 i) (by decide) rfl (fun ls hl => ?_)
        refine lv_goto (tgt := 7) hx hb dX1_worst_56 (by decide) ?_
        exact ih (i + 1) (nI (mw τ ((40 * k) + i))) (mReg τ k i) ls (by omega) (by first | (rw [amx, ← hinv]; exact (if_pos c26).symm) | (rw [amx, ← hinv]; exact (if_neg c26).symm)) (lv_sub hl [0, 1, 2, 3, 4] rfl)
      · refine lv_goto (tgt := 53) hx hb dX1_worst_29 (by decide) ?_
        refine lv_iinc (v := nI (i + 1)) (lv' := [(4, .int (nI (i + 1))), (3, .int y), (2, .int x), (0, .ref (a 0)), (1, .int (nI k))]) hx hb dX1_worst_53 hl (k := 0) rfl (nI_1 i) (by decide) rfl (fun ls hl => ?_)
        refine lv_goto (tgt := 7) hx hb dX1_worst_56 (by decide) ?_
        exact ih (i + 1) x y ls (by omega) (by first | (rw [amx, ← hinv]; exact (if_pos c26).symm) | (rw [amx, ← hinv]; exact (if_neg c26).symm)) (lv_sub hl [0, 1, 2, 3, 4] rfl)
  exact key (mp τ k) 0 ((-1)) 0 ls (by omega) rfl (lv_sub hl [0, 1, 2, 3, 4] rfl)
theorem hinX1_thrown : ∀ w ∈ wsX10, w ∈ wsX1_thrown := fun w h => List.mem_cons_of_mem _ (List.mem_append_right _ h)
theorem hdX1_thrown : yX1_thrown.cls = RX1 ∧ yX1_thrown.cls ≠ "java/lang/invoke/MethodHandle" ∧ yX1_thrown.cls ≠ "java/lang/invoke/VarHandle" ∧ (parseMethodDescriptor yX1_thrown.desc).map (fun d => d.parameters.length) = some 0 := by decide +kernel
set_option maxHeartbeats 4000000 in
set_option maxRecDepth 100000 in
theorem m_thrown (l : Launch) (E : GE) (a : Nat → Nat) (τ : MS)  : Met l yX1_thrown wsX1_thrown { frames := 0, cells := 0, slots := 0, locals := 0 } (va_Pc [.ref (a 0)] (gB E (mW E a τ))) (vp_Si (fun r => r = mt τ)) 0 0 (fun _ => False) := by
  refine w_met (cc := cX1_thrown) (maxL := 1) (ret := (some .int)) (by decide) rfl (Nat.le_of_ble_eq_true rfl) ?_
  intro p e s m below meth c ls S hr hlocks hname hB hl
  obtain ⟨hP, hK⟩ := hB
  obtain ⟨hx, hb, hml, hown, hts⟩ := id S
  have hts0 := hinX1_thrown
  have hl : lv_has ls 1 [(0, .ref (a 0))] := hl
  refine lv_aload_n hx hb dX1_thrown_0 rfl (lv_at hl 0 rfl) ?_
  refine m_get (τ := τ) hx hb hts hts0 hown hK hP 0 (by decide) (by decide +kernel) rfl rfl dX1_thrown_1 ?_
  exact W.iret hx hb hr (fun t ht hW => ⟨_, rfl, rfl, ht⟩) (fun _ h => nomatch h) dX1_thrown_4
