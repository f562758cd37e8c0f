
def mSum (τ : MS) : Int32 := sumI (fun p => if mGd τ p then md τ p else 0) (mn τ)
def mPd0 (τ : MS) (d : Int64) (p : Nat) : Int64 := hsh (hsh (hsh (hsh (hsh d (b2i (!mf τ p))) (mu τ p)) (mv τ p)) (mEf τ p)) (nI (mLd τ 40 p))
def mPd (τ : MS) (d : Int64) (p : Nat) : Int64 := if mf τ p then hsh (hsh (hsh (hsh (mPd0 τ d p) (nI (mo τ p))) (nI (mh τ p))) (md τ p)) (mBh τ p) else hsh (mPd0 τ d p) (md τ p)
def mDp (τ : MS) (d : Int64) : Nat → Int64
  | 0 => d
  | n + 1 => mPd τ (mDp τ d n) n
def mDs (τ : MS) (d : Int64) : Nat → Int64
  | 0 => d
  | n + 1 => hsh (hsh (mDs τ d n) (nI (ms τ n))) (nI (mp τ n))
def mD0 (τ : MS) : Int64 := hsh (hsh (hsh (hsh (hsh (hsh (hsh 1039 (nI (mn τ))) (mXn τ)) (mGn τ)) (nI (mk τ))) (mAt τ)) (mRf τ).1) (mAll τ)
def mDig (τ : MS) : Int64 := mDs τ (mDp τ (mD0 τ) (mn τ)) (mk τ)
def hfd (f : Nat → Int32) (d : Int64) : Nat → Int64
  | 0 => d
  | n + 1 => hsh (hfd f d n) (f n)
abbrev gQd (E : GE) (v : UInt64) (ws ws' : va_W) (sz : Nat) : Array Value → State → Outcome → State → Prop := va_Qd (fun r (_ : Unit) => r = v) (fun _ t => gP E ws' t.heap) (va_A ws sz)
abbrev gQl (E : GE) (v : Int64) (ws ws' : va_W) (sz : Nat) : Array Value → State → Outcome → State → Prop := va_Ql (fun r (_ : Unit) => r = v) (fun _ t => gP E ws' t.heap) (va_A ws sz)
set_option maxHeartbeats 4000000 in
set_option maxRecDepth 100000 in
theorem m_follow (l : Launch) (E : GE) (a : Nat → Nat) (τ : MS) (sz : Nat) (hO : MOK τ) (k : Nat) (hk : k < mk τ) (hp : mIsS τ (nI k) = true) : Met l yX1_follow wsX1_follow { frames := 4, cells := 0, slots := 0, locals := 87 } (va_Pc [.ref (a 0), .int (nI k)] (gBw E sz (mW E a τ))) (gQi E (nI (mp (mFo k 40 (mTab (mThr τ 0))) k) - nI (mp τ k)) (mW E a τ) (mW E a (mFo k 40 (mTab (mThr τ 0)))) sz) 0 0 (va_A (mW E a τ) sz) := by
  refine w_met (cc := cX1_follow) (maxL := 3) (ret := (some .int)) (by decide) rfl (Nat.le_of_ble_eq_true rfl) ?_
  intro p e s m below meth c ls S hr hlocks hname hB hl
  obtain ⟨hsz, hP, hK, hD0⟩ := hB
  subst hsz
  have hD := hD0.self (sz := s.heap.size)
  have hA : ∀ q : Nat, s.heap.size ≤ q → va_A (mW E a τ) s.heap.size q := fun q h => Or.inr h
  have hS : va_S (va_A (mW E a τ) s.heap.size) s.heap s.heap [] := va_S.rf
  obtain ⟨hx, hb, hml, hown, hts⟩ := id S
  have tk := hO.2.1
  have tst := hO.2.2.2.2.1 k
  have hts0 := hinX1_follow
  have hl : lv_has ls 3 [(0, .ref (a 0)), (1, .int (nI k))] := hl
  refine lv_aload_n hx hb dX1_follow_0 rfl (lv_at hl 0 rfl) ?_
  refine lv_iconst (v := 0) hx hb dX1_follow_1 (by decide) ?_
  refine va_put (D := E.1) (ci := 1) (v := .int 0) (ty := .int) (C := RX1) (T := TX1) (N := 13) hx hb hts hts0 tyX1 tyX1_ok nmX1 hown hK hP hD hS 0 rfl rfl 0 (by decide) (hts (.fieldLink RX1 42 "ExamGardenModel" "thrown" "I") (by decide +kernel)) (fun _ h9 => h9) rfl (by decide +kernel) rfl rfl (Nat.le_of_ble_eq_true rfl) dX1_follow_2 (fun H locs hP hD hS => ?_)
  have hP : gP E (mW E a (0, mn τ, mk τ, mf τ, mo τ, mh τ, md τ, mr τ, mu τ, mv τ, ms τ, mp τ, mw τ)) H := hP
  have hD : va_D (va_A (mW E a τ) s.heap.size) (mW E a (0, mn τ, mk τ, mf τ, mo τ, mh τ, md τ, mr τ, mu τ, mv τ, ms τ, mp τ, mw τ)) := hD
  refine lv_aload_n hx hb dX1_follow_5 rfl (lv_at hl 0 rfl) ?_
  refine lv_iload_n hx hb dX1_follow_6 rfl (lv_at hl 1 rfl) ?_
  refine m0i (As := [.int (nI k)]) (rest := []) S (m_isStudent l E a (0, mn τ, mk τ, mf τ, mo τ, mh τ, md τ, mr τ, mu τ, mv τ, ms τ, mp τ, mw τ) (nI k)) (cwV 1 hts gX1_follow_X1_isStudent rfl rfl rfl hdX1_isStudent ⟨Nat.le_of_ble_eq_true rfl, Nat.le_of_ble_eq_true rfl⟩) hK hP rfl hl.1 rfl (Nat.le_of_ble_eq_true rfl) ⟨Nat.zero_le _, Nat.zero_le _⟩ dX1_follow_7 ?_
  refine lv_if_ne (tgt := 19) hx hb dX1_follow_10 (by decide) (fun _ => ?_) (fun q => absurd q ((b2i_ne0.mpr hp)))
  refine lv_aload_n hx hb dX1_follow_19 rfl (lv_at hl 0 rfl) ?_
  refine m_get (τ := (0, mn τ, mk τ, mf τ, mo τ, mh τ, md τ, mr τ, mu τ, mv τ, ms τ, mp τ, mw τ)) (v := .ref (a 9)) hx hb hts hts0 hown hK hP 11 (by decide) (by decide +kernel) rfl rfl dX1_follow_20 ?_
  refine lv_iload_n hx hb dX1_follow_23 rfl (lv_at hl 1 rfl) ?_
  refine g_ild hx hb hK hP 9 rfl (v := nI ((mp τ) k)) (vp_in_nI (by omega) (by decide)) (by rw [nI_clamp (by omega)] <;> rfl) dX1_follow_24 ?_
  refine lv_istore_n (lv' := [(2, .int (nI ((mp τ) k))), (0, .ref (a 0)), (1, .int (nI k))]) hx hb dX1_follow_25 rfl hl (by decide) rfl (fun ls hl => ?_)
  refine lv_aload_n hx hb dX1_follow_26 rfl (lv_at hl 1 rfl) ?_
  refine m0wv (As := []) (rest := []) (τ' := mTab (0, mn τ, mk τ, mf τ, mo τ, mh τ, md τ, mr τ, mu τ, mv τ, ms τ, mp τ, mw τ)) S (m_table l E a (0, mn τ, mk τ, mf τ, mo τ, mh τ, md τ, mr τ, mu τ, mv τ, ms τ, mp τ, mw τ) _ hO) (cwV 0 hts gX1_follow_X1_table rfl rfl rfl hdX1_table ⟨Nat.le_of_ble_eq_true rfl, Nat.le_of_ble_eq_true rfl⟩) hK hP hD hS hA rfl hl.1 rfl (Nat.le_of_ble_eq_true rfl) ⟨Nat.zero_le _, Nat.zero_le _⟩ dX1_follow_27 (fun H locs hP hD hS => ?_)
  have key : ∀ (d f : Nat) (s1 : MS) (H : Heap) (locs : List Loc) (ls : Array Slot), ms s1 k ≤ d → ms s1 k < f → MOK s1 → k < mk s1 → mFo k 40 (mTab (mThr τ 0)) = mFo k f s1 → gP E (mW E a s1) H → va_S (va_A (mW E a τ) s.heap.size) s.heap H locs → lv_has ls 3 [(2, .int (nI (mp τ k))), (0, .ref (a 0)), (1, .int (nI k))] → W p l e (headSpec wsX1_follow { frames := 4, cells := 0, slots := 0, locals := 87 }).room s m [.ref (a 0), .int (nI k)].toArray below meth c H locs 0 0 (MQ below (gQi E (nI (mp (mFo k 40 (mTab (mThr τ 0))) k) - nI (mp τ k)) (mW E a τ) (mW E a (mFo k 40 (mTab (mThr τ 0)))) s.heap.size) [.ref (a 0), .int (nI k)].toArray s 0 0 (va_A (mW E a τ) s.heap.size)) (F0 m 30 ls []) := by
    intro d
    induction d with
    | zero =>
      intro f s1 H locs ls hq hf hO1 hk1 hv hP hS hl
      have hD : va_D (va_A (mW E a τ) s.heap.size) (mW E a s1) := mW_D hD
      obtain ⟨f, rfl⟩ : ∃ g, f = g + 1 := ⟨f - 1, by omega⟩
      have t0 := hO1.2.1
      have t1 := hO1.2.2.2.2.1 k
      have t2 := hO1.2.2.2.2.2.2.1 k
      refine lv_aload_n hx hb dX1_follow_30 rfl (lv_at hl 1 rfl) ?_
      refine m_get (τ := s1) (v := .ref (a 1)) hx hb hts hts0 hown hK hP 3 (by decide) (by decide +kernel) rfl rfl dX1_follow_31 ?_
      refine lv_aload_n hx hb dX1_follow_34 rfl (lv_at hl 1 rfl) ?_
      refine m_get (τ := s1) (v := .ref (a 8)) hx hb hts hts0 hown hK hP 10 (by decide) (by decide +kernel) rfl rfl dX1_follow_35 ?_
      refine lv_iload_n hx hb dX1_follow_38 rfl (lv_at hl 2 rfl) ?_
      refine g_ild hx hb hK hP 8 rfl (v := nI ((ms s1) k)) (vp_in_nI (by omega) (by decide)) (by rw [nI_clamp (by omega)] <;> rfl) dX1_follow_39 ?_
      refine g_zld hx hb hK hP 1 rfl (v := b2i ((mf s1) ((ms s1) k))) (vp_in_nI (by omega) (by decide)) (by rw [nI_clamp (by omega)] <;> rfl) dX1_follow_40 ?_
      refine lv_if_eq (tgt := 62) hx hb dX1_follow_41 (by decide) (fun c41 => ?_) (fun c41 => ?_)
      · have hz := b2i_eq0.mp c41
        refine lv_aload_n hx hb dX1_follow_62 rfl (lv_at hl 1 rfl) ?_
        refine m_get (τ := s1) (v := .ref (a 9)) hx hb hts hts0 hown hK hP 11 (by decide) (by decide +kernel) rfl rfl dX1_follow_63 ?_
        refine lv_iload_n hx hb dX1_follow_66 rfl (lv_at hl 2 rfl) ?_
        refine g_ild hx hb hK hP 9 rfl (v := nI ((mp s1) k)) (vp_in_nI (by omega) (by decide)) (by rw [nI_clamp (by omega)] <;> rfl) dX1_follow_67 ?_
        refine lv_iload_n hx hb dX1_follow_68 rfl (lv_at hl 0 rfl) ?_
        refine lv_isub hx hb dX1_follow_69 ?_
        exact W.iret hx hb hr (fun t ht hW => ⟨⟨_, (), rfl, (by rw [hv, mFo, hz]; rfl), by show gP E _ t.heap; rw [ht]; rw [hv, mFo, hz]; exact hP⟩, hS.F ht⟩) hS.2.2 dX1_follow_70
      · have hz := b2i_ne0.mp c41
        have hdn := mTo_dn hO1 hz (mPl s1 (ms s1 k))
        refine lv_aload_n hx hb dX1_follow_44 rfl (lv_at hl 1 rfl) ?_
        refine lv_iload_n hx hb dX1_follow_45 rfl (lv_at hl 2 rfl) ?_
        refine lv_aload_n hx hb dX1_follow_46 rfl (lv_at hl 1 rfl) ?_
        refine lv_aload_n hx hb dX1_follow_47 rfl (lv_at hl 1 rfl) ?_
        refine m_get (τ := s1) (v := .ref (a 8)) hx hb hts hts0 hown hK hP 10 (by decide) (by decide +kernel) rfl rfl dX1_follow_48 ?_
        refine lv_iload_n hx hb dX1_follow_51 rfl (lv_at hl 2 rfl) ?_
        refine g_ild hx hb hK hP 8 rfl (v := nI ((ms s1) k)) (vp_in_nI (by omega) (by decide)) (by rw [nI_clamp (by omega)] <;> rfl) dX1_follow_52 ?_
        refine m0i (As := [.int (nI ((ms s1) k))]) (rest := [.int (nI k), .ref (a 0)]) S (m_planned l E a s1 hO1 ((ms s1) k) (by omega)) (cwV 1 hts gX1_follow_X1_planned rfl rfl rfl hdX1_planned ⟨Nat.le_of_ble_eq_true rfl, Nat.le_of_ble_eq_true rfl⟩) hK hP rfl hl.1 rfl (Nat.le_of_ble_eq_true rfl) ⟨Nat.zero_le _, Nat.zero_le _⟩ dX1_follow_53 ?_
        refine m0wv (As := [.int (nI k), .int (nI (mTo s1 ((ms s1) k) (mPl s1 ((ms s1) k))))]) (rest := []) (τ' := mGo s1 k (mTo s1 ((ms s1) k) (mPl s1 ((ms s1) k)))) S (m_go l E a s1 _ (hO1).2.2.2.2.1 k (mTo s1 ((ms s1) k) (mPl s1 ((ms s1) k))) (by omega) (by show mp s1 k < 40; omega)) (cwV 2 hts gX1_follow_X1_go rfl rfl rfl hdX1_go ⟨Nat.le_of_ble_eq_true rfl, Nat.le_of_ble_eq_true rfl⟩) hK hP hD hS hA rfl hl.1 rfl (Nat.le_of_ble_eq_true rfl) ⟨Nat.zero_le _, Nat.zero_le _⟩ dX1_follow_56 (fun H locs hP hD hS => ?_)
        refine lv_goto (tgt := 30) hx hb dX1_follow_59 (by decide) ?_
        exact absurd (mTo_dn hO1 hz (mPl s1 (ms s1 k))) (by omega)
    | succ d ih =>
      intro f s1 H locs ls hq hf hO1 hk1 hv hP hS hl
      have hD : va_D (va_A (mW E a τ) s.heap.size) (mW E a s1) := mW_D hD
      obtain ⟨f, rfl⟩ : ∃ g, f = g + 1 := ⟨f - 1, by omega⟩
      have t0 := hO1.2.1
      have t1 := hO1.2.2.2.2.1 k
      have t2 := hO1.2.2.2.2.2.2.1 k
      refine lv_aload_n hx hb dX1_follow_30 rfl (lv_at hl 1 rfl) ?_
      refine m_get (τ := s1) (v := .ref (a 1)) hx hb hts hts0 hown hK hP 3 (by decide) (by decide +kernel) rfl rfl dX1_follow_31 ?_
      refine lv_aload_n hx hb dX1_follow_34 rfl (lv_at hl 1 rfl) ?_
      refine m_get (τ := s1) (v := .ref (a 8)) hx hb hts hts0 hown hK hP 10 (by decide) (by decide +kernel) rfl rfl dX1_follow_35 ?_
      refine lv_iload_n hx hb dX1_follow_38 rfl (lv_at hl 2 rfl) ?_
      refine g_ild hx hb hK hP 8 rfl (v := nI ((ms s1) k)) (vp_in_nI (by omega) (by decide)) (by rw [nI_clamp (by omega)] <;> rfl) dX1_follow_39 ?_
      refine g_zld hx hb hK hP 1 rfl (v := b2i ((mf s1) ((ms s1) k))) (vp_in_nI (by omega) (by decide)) (by rw [nI_clamp (by omega)] <;> rfl) dX1_follow_40 ?_
      refine lv_if_eq (tgt := 62) hx hb dX1_follow_41 (by decide) (fun c41 => ?_) (fun c41 => ?_)
      · have hz := b2i_eq0.mp c41
        refine lv_aload_n hx hb dX1_follow_62 rfl (lv_at hl 1 rfl) ?_
        refine m_get (τ := s1) (v := .ref (a 9)) hx hb hts hts0 hown hK hP 11 (by decide) (by decide +kernel) rfl rfl dX1_follow_63 ?_
        refine lv_iload_n hx hb dX1_follow_66 rfl (lv_at hl 2 rfl) ?_
        refine g_ild hx hb hK hP 9 rfl (v := nI ((mp s1) k)) (vp_in_nI (by omega) (by decide)) (by rw [nI_clamp (by omega)] <;> rfl) dX1_follow_67 ?_
        refine lv_iload_n hx hb dX1_follow_68 rfl (lv_at hl 0 rfl) ?_
        refine lv_isub hx hb dX1_follow_69 ?_
        exact W.iret hx hb hr (fun t ht hW => ⟨⟨_, (), rfl, (by rw [hv, mFo, hz]; rfl), by show gP E _ t.heap; rw [ht]; rw [hv, mFo, hz]; exact hP⟩, hS.F ht⟩) hS.2.2 dX1_follow_70
      · have hz := b2i_ne0.mp c41
        have hdn := mTo_dn hO1 hz (mPl s1 (ms s1 k))
        refine lv_aload_n hx hb dX1_follow_44 rfl (lv_at hl 1 rfl) ?_
        refine lv_iload_n hx hb dX1_follow_45 rfl (lv_at hl 2 rfl) ?_
        refine lv_aload_n hx hb dX1_follow_46 rfl (lv_at hl 1 rfl) ?_
        refine lv_aload_n hx hb dX1_follow_47 rfl (lv_at hl 1 rfl) ?_
        refine m_get (τ := s1) (v := .ref (a 8)) hx hb hts hts0 hown hK hP 10 (by decide) (by decide +kernel) rfl rfl dX1_follow_48 ?_
        refine lv_iload_n hx hb dX1_follow_51 rfl (lv_at hl 2 rfl) ?_
        refine g_ild hx hb hK hP 8 rfl (v := nI ((ms s1) k)) (vp_in_nI (by omega) (by decide)) (by rw [nI_clamp (by omega)] <;> rfl) dX1_follow_52 ?_
        refine m0i (As := [.int (nI ((ms s1) k))]) (rest := [.int (nI k), .ref (a 0)]) S (m_planned l E a s1 hO1 ((ms s1) k) (by omega)) (cwV 1 hts gX1_follow_X1_planned rfl rfl rfl hdX1_planned ⟨Nat.le_of_ble_eq_true rfl, Nat.le_of_ble_eq_true rfl⟩) hK hP rfl hl.1 rfl (Nat.le_of_ble_eq_true rfl) ⟨Nat.zero_le _, Nat.zero_le _⟩ dX1_follow_53 ?_
        refine m0wv (As := [.int (nI k), .int (nI (mTo s1 ((ms s1) k) (mPl s1 ((ms s1) k))))]) (rest := []) (τ' := mGo s1 k (mTo s1 ((ms s1) k) (mPl s1 ((ms s1) k)))) S (m_go l E a s1 _ (hO1).2.2.2.2.1 k (mTo s1 ((ms s1) k) (mPl s1 ((ms s1) k))) (by omega) (by show mp s1 k < 40; omega)) (cwV 2 hts gX1_follow_X1_go rfl rfl rfl hdX1_go ⟨Nat.le_of_ble_eq_true rfl, Nat.le_of_ble_eq_true rfl⟩) hK hP hD hS hA rfl hl.1 rfl (Nat.le_of_ble_eq_true rfl) ⟨Nat.zero_le _, Nat.zero_le _⟩ dX1_follow_56 (fun H locs hP hD hS => ?_)
        refine lv_goto (tgt := 30) hx hb dX1_follow_59 (by decide) ?_
        exact ih f _ H locs ls (by show va_up (ms s1) k _ k ≤ d; rw [va_up_self]; omega) (by show va_up (ms s1) k _ k < f; rw [va_up_self]; omega) (mGo_ok hO1 hk1 _ hdn) hk1 (by rw [hv, mFo, if_pos hz]) hP hS (lv_sub hl [0, 1, 2] rfl)
  exact key (ms τ k) 40 (mTab (mThr τ 0)) _ _ ls (by show ms τ k ≤ _; omega) (by show ms τ k < 40; omega) hO hk rfl hP hS (lv_sub hl [0, 1, 2] rfl)
theorem hinX1_meanGrade : ∀ w ∈ wsX10, w ∈ wsX1_meanGrade := fun w h => List.mem_cons_of_mem _ (List.mem_append_right _ h)
theorem hdX1_meanGrade : yX1_meanGrade.cls = RX1 ∧ yX1_meanGrade.cls ≠ "java/lang/invoke/MethodHandle" ∧ yX1_meanGrade.cls ≠ "java/lang/invoke/VarHandle" ∧ (parseMethodDescriptor yX1_meanGrade.desc).map (fun d => d.parameters.length) = some 0 := by decide +kernel
set_option maxHeartbeats 4000000 in
set_option maxRecDepth 100000 in
theorem m_meanGrade (l : Launch) (E : GE) (a : Nat → Nat) (τ : MS) (sz : Nat) (hO : MOK τ) (hne : ¬ mGn τ = 0 → vf_n64 (FP.ddiv (FP.i2d (mSum τ)) (FP.i2d (mGn τ)))) : Met l yX1_meanGrade wsX1_meanGrade { frames := 1, cells := 0, slots := 0, locals := 22 } (va_Pc [.ref (a 0)] (gBw E sz (mW E a τ))) (gQd E (dMean (mSum τ) (mGn τ)) (mW E a τ) (mW E a (mThr τ 0)) sz) 0 0 (va_A (mW E a τ) sz) := by
  refine w_met (cc := cX1_meanGrade) (maxL := 3) (ret := (some .double)) (by decide) rfl (Nat.le_of_ble_eq_true rfl) ?_
  intro p e s m below meth c ls S hr hlocks hname hB hl
  obtain ⟨hsz, hP, hK, hD0⟩ := hB
  subst hsz
  have hD := hD0.self (sz := s.heap.size)
  have hA : ∀ q : Nat, s.heap.size ≤ q → va_A (mW E a τ) s.heap.size q := fun q h => Or.inr h
  have hS : va_S (va_A (mW E a τ) s.heap.size) s.heap s.heap [] := va_S.rf
  obtain ⟨hx, hb, hml, hown, hts⟩ := id S
  have hts0 := hinX1_meanGrade
  have tn := hO.1
  have hl : lv_has ls 3 [(0, .ref (a 0))] := hl
  refine lv_aload_n hx hb dX1_meanGrade_0 rfl (lv_at hl 0 rfl) ?_
  refine lv_iconst (v := 0) hx hb dX1_meanGrade_1 (by decide) ?_
  refine va_put (D := E.1) (ci := 1) (v := .int 0) (ty := .int) (C := RX1) (T := TX1) (N := 13) hx hb hts hts0 tyX1 tyX1_ok nmX1 hown hK hP hD hS 0 rfl rfl 0 (by decide) (hts (.fieldLink RX1 42 "ExamGardenModel" "thrown" "I") (by decide +kernel)) (fun _ h9 => h9) rfl (by decide +kernel) rfl rfl (Nat.le_of_ble_eq_true rfl) dX1_meanGrade_2 (fun H locs hP hD hS => ?_)
  have hP : gP E (mW E a (0, mn τ, mk τ, mf τ, mo τ, mh τ, md τ, mr τ, mu τ, mv τ, ms τ, mp τ, mw τ)) H := hP
  have hD : va_D (va_A (mW E a τ) s.heap.size) (mW E a (0, mn τ, mk τ, mf τ, mo τ, mh τ, md τ, mr τ, mu τ, mv τ, ms τ, mp τ, mw τ)) := hD
  refine lv_iconst (v := 0) hx hb dX1_meanGrade_5 (by decide) ?_
  refine lv_istore_n (lv' := [(1, .int 0), (0, .ref (a 0))]) hx hb dX1_meanGrade_6 rfl hl (by decide) rfl (fun ls hl => ?_)
  refine lv_iconst (v := 0) hx hb dX1_meanGrade_7 (by decide) ?_
  refine lv_istore_n (lv' := [(2, .int 0), (1, .int 0), (0, .ref (a 0))]) hx hb dX1_meanGrade_8 rfl hl (by decide) rfl (fun ls hl => ?_)
  have key : ∀ (d i : Nat) (x : Int32) (ls : Array Slot), i + d = mn τ → x = sumI (fun p => if mGd τ p then md τ p else 0) i → lv_has ls 3 [(2, .int (nI i)), (1, .int x), (0, .ref (a 0))] → W p l e (headSpec wsX1_meanGrade { frames := 1, cells := 0, slots := 0, locals := 22 }).room s m [.ref (a 0)].toArray below meth c H locs 0 0 (MQ below (gQd E (dMean (mSum τ) (mGn τ)) (mW E a τ) (mW E a (mThr τ 0)) s.heap.size) [.ref (a 0)].toArray s 0 0 (va_A (mW E a τ) s.heap.size)) (F0 m 9 ls []) := by
    intro d
    induction d with
    | zero =>
      intro i x ls hi hinv hl
      obtain rfl : i = mn τ := by omega
      refine lv_iload_n hx hb dX1_meanGrade_9 rfl (lv_at hl 0 rfl) ?_
      refine lv_aload_n hx hb dX1_meanGrade_10 rfl (lv_at hl 2 rfl) ?_
      refine m_get (τ := (0, mn τ, mk τ, mf τ, mo τ, mh τ, md τ, mr τ, mu τ, mv τ, ms τ, mp τ, mw τ)) (v := .int (nI (mn τ))) hx hb hts hts0 hown hK hP 1 (by decide) (by decide +kernel) rfl rfl dX1_meanGrade_11 ?_
      refine lv_icmp_ge (tgt := 55) hx hb dX1_meanGrade_14 (by decide) (fun _ => ?_) (fun q => absurd ((nI_le (Nat.le_refl _) (by omega))) q)
      refine lv_aload_n hx hb dX1_meanGrade_55 rfl (lv_at hl 2 rfl) ?_
      refine m0i (As := []) (rest := []) S (m_gradedNow l E a (0, mn τ, mk τ, mf τ, mo τ, mh τ, md τ, mr τ, mu τ, mv τ, ms τ, mp τ, mw τ) hO) (cwV 0 hts gX1_meanGrade_X1_gradedNow rfl rfl rfl hdX1_gradedNow ⟨Nat.le_of_ble_eq_true rfl, Nat.le_of_ble_eq_true rfl⟩) hK hP rfl hl.1 rfl (Nat.le_of_ble_eq_true rfl) ⟨Nat.zero_le _, Nat.zero_le _⟩ dX1_meanGrade_56 ?_
      refine lv_if_ne (tgt := 66) hx hb dX1_meanGrade_59 (by decide) (fun c59 => ?_) (fun c59 => ?_)
      · refine lv_iload_n hx hb dX1_meanGrade_66 rfl (lv_at hl 1 rfl) ?_
        refine lv_i2d hx hb dX1_meanGrade_67 ?_
        refine lv_aload_n hx hb dX1_meanGrade_68 rfl (lv_at hl 2 rfl) ?_
        refine m0i (As := []) (rest := [.double (FP.i2d x)]) S (m_gradedNow l E a (0, mn τ, mk τ, mf τ, mo τ, mh τ, md τ, mr τ, mu τ, mv τ, ms τ, mp τ, mw τ) hO) (cwV 0 hts gX1_meanGrade_X1_gradedNow rfl rfl rfl hdX1_gradedNow ⟨Nat.le_of_ble_eq_true rfl, Nat.le_of_ble_eq_true rfl⟩) hK hP rfl hl.1 rfl (Nat.le_of_ble_eq_true rfl) ⟨Nat.zero_le _, Nat.zero_le _⟩ dX1_meanGrade_69 ?_
        refine lv_i2d hx hb dX1_meanGrade_72 ?_
        rw [hinv]
        refine lv_ddiv hx hb dX1_meanGrade_73 (hne c59) ?_
        exact W.dret hx hb hr (fun t ht hW => ⟨⟨_, (), rfl, (by show FP.ddiv (FP.i2d (mSum τ)) (FP.i2d (mGn τ)) = dMean (mSum τ) (mGn τ); rw [dMean, if_neg (show ¬ mGn τ = 0 from c59)]), by show gP E _ t.heap; rw [ht]; exact hP⟩, hS.F ht⟩) hS.2.2 dX1_meanGrade_74
      · refine lv_dconst0 hx hb dX1_meanGrade_62 ?_
        refine lv_goto (tgt := 74) hx hb dX1_meanGrade_63 (by decide) ?_
        exact W.dret hx hb hr (fun t ht hW => ⟨⟨_, (), rfl, (by show _ = dMean _ _; rw [dMean, if_pos (show mGn τ = 0 from c59)]), by show gP E _ t.heap; rw [ht]; exact hP⟩, hS.F ht⟩) hS.2.2 dX1_meanGrade_74
    | succ d ih =>
      intro i x ls hi hinv hl
      refine lv_iload_n hx hb dX1_meanGrade_9 rfl (lv_at hl 0 rfl) ?_
      refine lv_aload_n hx hb dX1_meanGrade_10 rfl (lv_at hl 2 rfl) ?_
      refine m_get (τ := (0, mn τ, mk τ, mf τ, mo τ, mh τ, md τ, mr τ, mu τ, mv τ, ms τ, mp τ, mw τ)) (v := .int (nI (mn τ))) hx hb hts hts0 hown hK hP 1 (by decide) (by decide +kernel) rfl rfl dX1_meanGrade_11 ?_
      refine lv_icmp_ge (tgt := 55) hx hb dX1_meanGrade_14 (by decide) (fun q => absurd q ((nI_ge (by omega) (by omega)))) (fun _ => ?_)
      refine lv_iload_n hx hb dX1_meanGrade_17 rfl (lv_at hl 1 rfl) ?_
      refine lv_aload_n hx hb dX1_meanGrade_18 rfl (lv_at hl 2 rfl) ?_
      refine m_get (τ := (0, mn τ, mk τ, mf τ, mo τ, mh τ, md τ, mr τ, mu τ, mv τ, ms τ, mp τ, mw τ)) (v := .ref (a 1)) hx hb hts hts0 hown hK hP 3 (by decide) (by decide +kernel) rfl rfl dX1_meanGrade_19 ?_
      refine lv_iload_n hx hb dX1_meanGrade_22 rfl (lv_at hl 0 rfl) ?_
      refine g_zld hx hb hK hP 1 rfl (v := b2i ((mf τ) i)) (vp_in_nI (by omega) (by decide)) (by rw [nI_clamp (by omega)] <;> rfl) dX1_meanGrade_23 ?_
      refine lv_if_ne (tgt := 46) hx hb dX1_meanGrade_24 (by decide) (fun c24 => ?_) (fun c24 => ?_)
      · refine lv_iconst (v := 0) hx hb dX1_meanGrade_46 (by decide) ?_
        refine lv_iadd hx hb dX1_meanGrade_47 ?_
        refine lv_istore_n (lv' := [(1, .int (x + 0)), (2, .int (nI i)), (0, .ref (a 0))]) hx hb dX1_meanGrade_48 rfl hl (by decide) rfl (fun ls hl => ?_)
        refine lv_iinc (v := nI (i + 1)) (lv' := [(2, .int (nI (i + 1))), (1, .int (x + 0)), (0, .ref (a 0))]) hx hb dX1_meanGrade_49 hl (k := 1) rfl (nI_1 i) (by decide) rfl (fun ls hl => ?_)
        refine lv_goto (tgt := 9) hx hb dX1_meanGrade_52 (by decide) ?_
        exact ih (i + 1) (x + 0) ls (by omega) (by first | (rw [hinv, sumI, mGd, b2i_ne0.mp c24]; rfl) | (rw [hinv, sumI, mGd, b2i_eq0.mp c24, decide_eq_true c34]; rfl) | (rw [hinv, sumI, mGd, b2i_eq0.mp c24, decide_eq_false c34]; rfl)) (lv_sub hl [0, 1, 2] rfl)
      · refine lv_aload_n hx hb dX1_meanGrade_27 rfl (lv_at hl 2 rfl) ?_
        refine m_get (τ := (0, mn τ, mk τ, mf τ, mo τ, mh τ, md τ, mr τ, mu τ, mv τ, ms τ, mp τ, mw τ)) (v := .ref (a 4)) hx hb hts hts0 hown hK hP 6 (by decide) (by decide +kernel) rfl rfl dX1_meanGrade_28 ?_
        refine lv_iload_n hx hb dX1_meanGrade_31 rfl (lv_at hl 0 rfl) ?_
        refine g_ild hx hb hK hP 4 rfl (v := (md τ) i) (vp_in_nI (by omega) (by decide)) (by rw [nI_clamp (by omega)] <;> rfl) dX1_meanGrade_32 ?_
        refine lv_iconst (v := -1) hx hb dX1_meanGrade_33 (by decide) ?_
        refine lv_icmp_eq (tgt := 46) hx hb dX1_meanGrade_34 (by decide) (fun c34 => ?_) (fun c34 => ?_)
        · refine lv_iconst (v := 0) hx hb dX1_meanGrade_46 (by decide) ?_
          refine lv_iadd hx hb dX1_meanGrade_47 ?_
          refine lv_istore_n (lv' := [(1, .int (x + 0)), (2, .int (nI i)), (0, .ref (a 0))]) hx hb dX1_meanGrade_48 rfl hl (by decide) rfl (fun ls hl => ?_)
          refine lv_iinc (v := nI (i + 1)) (lv' := [(2, .int (nI (i + 1))), (1, .int (x + 0)), (0, .ref (a 0))]) hx hb dX1_meanGrade_49 hl (k := 1) rfl (nI_1 i) (by decide) rfl (fun ls hl => ?_)
          refine lv_goto (tgt := 9) hx hb dX1_meanGrade_52 (by decide) ?_
          exact ih (i + 1) (x + 0) ls (by omega) (by first | (rw [hinv, sumI, mGd, b2i_ne0.mp c24]; rfl) | (rw [hinv, sumI, mGd, b2i_eq0.mp c24, decide_eq_true c34]; rfl) | (rw [hinv, sumI, mGd, b2i_eq0.mp c24, decide_eq_false c34]; rfl)) (lv_sub hl [0, 1, 2] rfl)
        · refine lv_aload_n hx hb dX1_meanGrade_37 rfl (lv_at hl 2 rfl) ?_
          refine m_get (τ := (0, mn τ, mk τ, mf τ, mo τ, mh τ, md τ, mr τ, mu τ, mv τ, ms τ, mp τ, mw τ)) (v := .ref (a 4)) hx hb hts hts0 hown hK hP 6 (by decide) (by decide +kernel) rfl rfl dX1_meanGrade_38 ?_
          refine lv_iload_n hx hb dX1_meanGrade_41 rfl (lv_at hl 0 rfl) ?_
          refine g_ild hx hb hK hP 4 rfl (v := (md τ) i) (vp_in_nI (by omega) (by decide)) (by rw [nI_clamp (by omega)] <;> rfl) dX1_meanGrade_42 ?_
          refine lv_goto (tgt := 47) hx hb dX1_meanGrade_43 (by decide) ?_
          refine lv_iadd hx hb dX1_meanGrade_47 ?_
          refine lv_istore_n (lv' := [(1, .int (x + ((md τ) i))), (2, .int (nI i)), (0, .ref (a 0))]) hx hb dX1_meanGrade_48 rfl hl (by decide) rfl (fun ls hl => ?_)
          refine lv_iinc (v := nI (i + 1)) (lv' := [(2, .int (nI (i + 1))), (1, .int (x + ((md τ) i))), (0, .ref (a 0))]) hx hb dX1_meanGrade_49 hl (k := 1) rfl (nI_1 i) (by decide) rfl (fun ls hl => ?_)
          refine lv_goto (tgt := 9) hx hb dX1_meanGrade_52 (by decide) ?_
          exact ih (i + 1) (x + ((md τ) i)) ls (by omega) (by first | (rw [hinv, sumI, mGd, b2i_ne0.mp c24]; rfl) | (rw [hinv, sumI, mGd, b2i_eq0.mp c24, decide_eq_true c34]; rfl) | (rw [hinv, sumI, mGd, b2i_eq0.mp c24, decide_eq_false c34]; rfl)) (lv_sub hl [0, 1, 2] rfl)
  exact key (mn τ) 0 0 ls (by omega) rfl (lv_sub hl [0, 1, 2] rfl)
theorem hinX1_digest : ∀ w ∈ wsX10, w ∈ wsX1_digest := fun w h => List.mem_cons_of_mem _ (List.mem_append_right _ h)
theorem hdX1_digest : yX1_digest.cls = RX1 ∧ yX1_digest.cls ≠ "java/lang/invoke/MethodHandle" ∧ yX1_digest.cls ≠ "java/lang/invoke/VarHandle" ∧ (parseMethodDescriptor yX1_digest.desc).map (fun d => d.parameters.length) = some 0 := by decide +kernel
set_option maxHeartbeats 4000000 in
set_option maxRecDepth 100000 in
theorem m_digest (l : Launch) (E : GE) (a : Nat → Nat) (τ : MS) (sz : Nat) (hO : MOK τ) : Met l yX1_digest wsX1_digest { frames := 5, cells := 41, slots := 207, locals := 113 } (va_Pc [.ref (a 0)] (gBw E sz (mW E a τ))) (gQl E (mDig (mTab (mThr τ 0))) (mW E a τ) (mW E a (mTab (mThr τ 0))) sz) 41 207 (va_A (mW E a τ) sz) := by
  refine w_met (cc := cX1_digest) (maxL := 10) (ret := (some .long)) (by decide) rfl (Nat.le_of_ble_eq_true rfl) ?_
  intro p e s m below meth c ls S hr hlocks hname hB hl
  obtain ⟨hsz, hP, hK, hD0⟩ := hB
  subst hsz
  have hD := hD0.self (sz := s.heap.size)
  have hA : ∀ q : Nat, s.heap.size ≤ q → va_A (mW E a τ) s.heap.size q := fun q h => Or.inr h
  have hS : va_S (va_A (mW E a τ) s.heap.size) s.heap s.heap [] := va_S.rf
  obtain ⟨hx, hb, hml, hown, hts⟩ := id S
  have hts0 := hinX1_digest
  have tn := hO.1
  have tk := hO.2.1
  have hD00 := hD
  have hl : lv_has ls 10 [(0, .ref (a 0))] := hl
  refine lv_aload_n hx hb dX1_digest_0 rfl (lv_at hl 0 rfl) ?_
  refine lv_iconst (v := 0) hx hb dX1_digest_1 (by decide) ?_
  refine va_put (D := E.1) (ci := 1) (v := .int 0) (ty := .int) (C := RX1) (T := TX1) (N := 13) hx hb hts hts0 tyX1 tyX1_ok nmX1 hown hK hP hD hS 0 rfl rfl 0 (by decide) (hts (.fieldLink RX1 42 "ExamGardenModel" "thrown" "I") (by decide +kernel)) (fun _ h9 => h9) rfl (by decide +kernel) rfl rfl (Nat.le_of_ble_eq_true rfl) dX1_digest_2 (fun H locs hP hD hS => ?_)
  have hP : gP E (mW E a (0, mn τ, mk τ, mf τ, mo τ, mh τ, md τ, mr τ, mu τ, mv τ, ms τ, mp τ, mw τ)) H := hP
  have hD : va_D (va_A (mW E a τ) s.heap.size) (mW E a (0, mn τ, mk τ, mf τ, mo τ, mh τ, md τ, mr τ, mu τ, mv τ, ms τ, mp τ, mw τ)) := hD
  refine lv_aload_n hx hb dX1_digest_5 rfl (lv_at hl 0 rfl) ?_
  refine m0wv (As := []) (rest := []) (τ' := mTab (0, mn τ, mk τ, mf τ, mo τ, mh τ, md τ, mr τ, mu τ, mv τ, ms τ, mp τ, mw τ)) S (m_table l E a (0, mn τ, mk τ, mf τ, mo τ, mh τ, md τ, mr τ, mu τ, mv τ, ms τ, mp τ, mw τ) _ hO) (cwV 0 hts gX1_digest_X1_table rfl rfl rfl hdX1_table ⟨Nat.le_of_ble_eq_true rfl, Nat.le_of_ble_eq_true rfl⟩) hK hP hD hS hA rfl hl.1 rfl (Nat.le_of_ble_eq_true rfl) ⟨Nat.zero_le _, Nat.zero_le _⟩ dX1_digest_6 (fun H locs hP hD hS => ?_)
  refine lv_bipush (v := nI 7) hx hb dX1_digest_9 (by decide) ?_
  refine va_newa (atype := .int) (ty := .int) (N' := 7) (a0 := (7, .inl (fun _ => 0))) hx hb (hts (.arrayClass .int) (by decide +kernel)) rfl hK hP hD hS hA (fun cA => rfl) (by decide) (by decide) (Nat.le_of_ble_eq_true rfl) (by show 0 + 1 ≤ 41; omega) (by show 0 + 7 ≤ 207; omega) dX1_digest_11 (fun q7 cA H hK2 hP hD hS => ?_)
  obtain rfl : cA = E.2.1 := va_K_same (i := 3) (j := 0) hK2 hK rfl rfl (fun _ h => by cases h)
  have hP : gP E (mW E a (mTab (mThr τ 0)) ++ [(q7, gI E 7 (fun _ => 0))]) H := hP
  have hD : va_D (va_A (mW E a τ) s.heap.size) (mW E a (mTab (mThr τ 0)) ++ [(q7, gI E 7 (fun _ => 0))]) := hD
  have hPm : gP E (mW E a (mTab (mThr τ 0))) H := hP.sub [0, 1, 2, 3, 4, 5, 6, 7, 8, 9, 10] rfl
  refine lv_dup hx hb dX1_digest_13 rfl ?_
  refine lv_iconst (v := 0) hx hb dX1_digest_14 (by decide) ?_
  refine lv_aload_n hx hb dX1_digest_15 rfl (lv_at hl 0 rfl) ?_
  refine m_get (τ := (mTab (0, mn τ, mk τ, mf τ, mo τ, mh τ, md τ, mr τ, mu τ, mv τ, ms τ, mp τ, mw τ))) (v := .int (nI (mn τ))) hx hb hts hts0 hown hK hPm 1 (by decide) (by decide +kernel) rfl rfl dX1_digest_16 ?_
  refine g_ist hx hb hK hP hD hS 11 rfl (f' := upd (fun _ => 0) 0 (nI (mn τ))) (i := nI 0) (vp_in_nI (by decide) (by decide)) (g_clu (k := 0) (by decide) rfl) dX1_digest_19 (fun H locs hP hD hS => ?_)
  have hP : gP E (mW E a (mTab (mThr τ 0)) ++ [(q7, gI E 7 (upd (fun _ => 0) 0 (nI (mn τ))))]) H := hP
  have hD : va_D (va_A (mW E a τ) s.heap.size) (mW E a (mTab (mThr τ 0)) ++ [(q7, gI E 7 (upd (fun _ => 0) 0 (nI (mn τ))))]) := hD
  have hPm : gP E (mW E a (mTab (mThr τ 0))) H := hP.sub [0, 1, 2, 3, 4, 5, 6, 7, 8, 9, 10] rfl
  refine lv_dup hx hb dX1_digest_20 rfl ?_
  refine lv_iconst (v := 1) hx hb dX1_digest_21 (by decide) ?_
  refine lv_aload_n hx hb dX1_digest_22 rfl (lv_at hl 0 rfl) ?_
  refine m0i (As := []) (rest := [.int 1, .ref q7, .ref q7]) S (m_examsNow l E a (mTab (0, mn τ, mk τ, mf τ, mo τ, mh τ, md τ, mr τ, mu τ, mv τ, ms τ, mp τ, mw τ)) hO) (cwV 0 hts gX1_digest_X1_examsNow rfl rfl rfl hdX1_examsNow ⟨Nat.le_of_ble_eq_true rfl, Nat.le_of_ble_eq_true rfl⟩) hK hPm rfl hl.1 rfl (Nat.le_of_ble_eq_true rfl) ⟨by show 0 + 1 ≤ 41; omega, by show 0 + 7 ≤ 207; omega⟩ dX1_digest_23 ?_
  refine g_ist hx hb hK hP hD hS 11 rfl (f' := upd (upd (fun _ => 0) 0 (nI (mn τ))) 1 (mXn (mTab (0, mn τ, mk τ, mf τ, mo τ, mh τ, md τ, mr τ, mu τ, mv τ, ms τ, mp τ, mw τ)))) (i := nI 1) (vp_in_nI (by decide) (by decide)) (g_clu (k := 1) (by decide) rfl) dX1_digest_26 (fun H locs hP hD hS => ?_)
  have hP : gP E (mW E a (mTab (mThr τ 0)) ++ [(q7, gI E 7 (upd (upd (fun _ => 0) 0 (nI (mn τ))) 1 (mXn (mTab (0, mn τ, mk τ, mf τ, mo τ, mh τ, md τ, mr τ, mu τ, mv τ, ms τ, mp τ, mw τ)))))]) H := hP
  have hD : va_D (va_A (mW E a τ) s.heap.size) (mW E a (mTab (mThr τ 0)) ++ [(q7, gI E 7 (upd (upd (fun _ => 0) 0 (nI (mn τ))) 1 (mXn (mTab (0, mn τ, mk τ, mf τ, mo τ, mh τ, md τ, mr τ, mu τ, mv τ, ms τ, mp τ, mw τ)))))]) := hD
  have hPm : gP E (mW E a (mTab (mThr τ 0))) H := hP.sub [0, 1, 2, 3, 4, 5, 6, 7, 8, 9, 10] rfl
  refine lv_dup hx hb dX1_digest_27 rfl ?_
  refine lv_iconst (v := 2) hx hb dX1_digest_28 (by decide) ?_
  refine lv_aload_n hx hb dX1_digest_29 rfl (lv_at hl 0 rfl) ?_
  refine m0i (As := []) (rest := [.int 2, .ref q7, .ref q7]) S (m_gradedNow l E a (mTab (0, mn τ, mk τ, mf τ, mo τ, mh τ, md τ, mr τ, mu τ, mv τ, ms τ, mp τ, mw τ)) hO) (cwV 0 hts gX1_digest_X1_gradedNow rfl rfl rfl hdX1_gradedNow ⟨Nat.le_of_ble_eq_true rfl, Nat.le_of_ble_eq_true rfl⟩) hK hPm rfl hl.1 rfl (Nat.le_of_ble_eq_true rfl) ⟨by show 0 + 1 ≤ 41; omega, by show 0 + 7 ≤ 207; omega⟩ dX1_digest_30 ?_
  refine g_ist hx hb hK hP hD hS 11 rfl (f' := upd (upd (upd (fun _ => 0) 0 (nI (mn τ))) 1 (mXn (mTab (0, mn τ, mk τ, mf τ, mo τ, mh τ, md τ, mr τ, mu τ, mv τ, ms τ, mp τ, mw τ)))) 2 (mGn (mTab (0, mn τ, mk τ, mf τ, mo τ, mh τ, md τ, mr τ, mu τ, mv τ, ms τ, mp τ, mw τ)))) (i := nI 2) (vp_in_nI (by decide) (by decide)) (g_clu (k := 2) (by decide) rfl) dX1_digest_33 (fun H locs hP hD hS => ?_)
  have hP : gP E (mW E a (mTab (mThr τ 0)) ++ [(q7, gI E 7 (upd (upd (upd (fun _ => 0) 0 (nI (mn τ))) 1 (mXn (mTab (0, mn τ, mk τ, mf τ, mo τ, mh τ, md τ, mr τ, mu τ, mv τ, ms τ, mp τ, mw τ)))) 2 (mGn (mTab (0, mn τ, mk τ, mf τ, mo τ, mh τ, md τ, mr τ, mu τ, mv τ, ms τ, mp τ, mw τ)))))]) H := hP
  have hD : va_D (va_A (mW E a τ) s.heap.size) (mW E a (mTab (mThr τ 0)) ++ [(q7, gI E 7 (upd (upd (upd (fun _ => 0) 0 (nI (mn τ))) 1 (mXn (mTab (0, mn τ, mk τ, mf τ, mo τ, mh τ, md τ, mr τ, mu τ, mv τ, ms τ, mp τ, mw τ)))) 2 (mGn (mTab (0, mn τ, mk τ, mf τ, mo τ, mh τ, md τ, mr τ, mu τ, mv τ, ms τ, mp τ, mw τ)))))]) := hD
  have hPm : gP E (mW E a (mTab (mThr τ 0))) H := hP.sub [0, 1, 2, 3, 4, 5, 6, 7, 8, 9, 10] rfl
  refine lv_dup hx hb dX1_digest_34 rfl ?_
  refine lv_iconst (v := 3) hx hb dX1_digest_35 (by decide) ?_
  refine lv_aload_n hx hb dX1_digest_36 rfl (lv_at hl 0 rfl) ?_
  refine m_get (τ := (mTab (0, mn τ, mk τ, mf τ, mo τ, mh τ, md τ, mr τ, mu τ, mv τ, ms τ, mp τ, mw τ))) (v := .int (nI (mk τ))) hx hb hts hts0 hown hK hPm 2 (by decide) (by decide +kernel) rfl rfl dX1_digest_37 ?_
  refine g_ist hx hb hK hP hD hS 11 rfl (f' := upd (upd (upd (upd (fun _ => 0) 0 (nI (mn τ))) 1 (mXn (mTab (0, mn τ, mk τ, mf τ, mo τ, mh τ, md τ, mr τ, mu τ, mv τ, ms τ, mp τ, mw τ)))) 2 (mGn (mTab (0, mn τ, mk τ, mf τ, mo τ, mh τ, md τ, mr τ, mu τ, mv τ, ms τ, mp τ, mw τ)))) 3 (nI (mk τ))) (i := nI 3) (vp_in_nI (by decide) (by decide)) (g_clu (k := 3) (by decide) rfl) dX1_digest_40 (fun H locs hP hD hS => ?_)
  have hP : gP E (mW E a (mTab (mThr τ 0)) ++ [(q7, gI E 7 (upd (upd (upd (upd (fun _ => 0) 0 (nI (mn τ))) 1 (mXn (mTab (0, mn τ, mk τ, mf τ, mo τ, mh τ, md τ, mr τ, mu τ, mv τ, ms τ, mp τ, mw τ)))) 2 (mGn (mTab (0, mn τ, mk τ, mf τ, mo τ, mh τ, md τ, mr τ, mu τ, mv τ, ms τ, mp τ, mw τ)))) 3 (nI (mk τ))))]) H := hP
  have hD : va_D (va_A (mW E a τ) s.heap.size) (mW E a (mTab (mThr τ 0)) ++ [(q7, gI E 7 (upd (upd (upd (upd (fun _ => 0) 0 (nI (mn τ))) 1 (mXn (mTab (0, mn τ, mk τ, mf τ, mo τ, mh τ, md τ, mr τ, mu τ, mv τ, ms τ, mp τ, mw τ)))) 2 (mGn (mTab (0, mn τ, mk τ, mf τ, mo τ, mh τ, md τ, mr τ, mu τ, mv τ, ms τ, mp τ, mw τ)))) 3 (nI (mk τ))))]) := hD
  have hPm : gP E (mW E a (mTab (mThr τ 0))) H := hP.sub [0, 1, 2, 3, 4, 5, 6, 7, 8, 9, 10] rfl
  refine lv_dup hx hb dX1_digest_41 rfl ?_
  refine lv_iconst (v := 4) hx hb dX1_digest_42 (by decide) ?_
  refine lv_aload_n hx hb dX1_digest_43 rfl (lv_at hl 0 rfl) ?_
  refine m0i (As := []) (rest := [.int 4, .ref q7, .ref q7]) S (m_atEnds l E a (mTab (0, mn τ, mk τ, mf τ, mo τ, mh τ, md τ, mr τ, mu τ, mv τ, ms τ, mp τ, mw τ)) hO) (cwV 0 hts gX1_digest_X1_atEnds rfl rfl rfl hdX1_atEnds ⟨Nat.le_of_ble_eq_true rfl, Nat.le_of_ble_eq_true rfl⟩) hK hPm rfl hl.1 rfl (Nat.le_of_ble_eq_true rfl) ⟨by show 0 + 1 ≤ 41; omega, by show 0 + 7 ≤ 207; omega⟩ dX1_digest_44 ?_
  refine g_ist hx hb hK hP hD hS 11 rfl (f' := upd (upd (upd (upd (upd (fun _ => 0) 0 (nI (mn τ))) 1 (mXn (mTab (0, mn τ, mk τ, mf τ, mo τ, mh τ, md τ, mr τ, mu τ, mv τ, ms τ, mp τ, mw τ)))) 2 (mGn (mTab (0, mn τ, mk τ, mf τ, mo τ, mh τ, md τ, mr τ, mu τ, mv τ, ms τ, mp τ, mw τ)))) 3 (nI (mk τ))) 4 (mAt (mTab (0, mn τ, mk τ, mf τ, mo τ, mh τ, md τ, mr τ, mu τ, mv τ, ms τ, mp τ, mw τ)))) (i := nI 4) (vp_in_nI (by decide) (by decide)) (g_clu (k := 4) (by decide) rfl) dX1_digest_47 (fun H locs hP hD hS => ?_)
  have hP : gP E (mW E a (mTab (mThr τ 0)) ++ [(q7, gI E 7 (upd (upd (upd (upd (upd (fun _ => 0) 0 (nI (mn τ))) 1 (mXn (mTab (0, mn τ, mk τ, mf τ, mo τ, mh τ, md τ, mr τ, mu τ, mv τ, ms τ, mp τ, mw τ)))) 2 (mGn (mTab (0, mn τ, mk τ, mf τ, mo τ, mh τ, md τ, mr τ, mu τ, mv τ, ms τ, mp τ, mw τ)))) 3 (nI (mk τ))) 4 (mAt (mTab (0, mn τ, mk τ, mf τ, mo τ, mh τ, md τ, mr τ, mu τ, mv τ, ms τ, mp τ, mw τ)))))]) H := hP
  have hD : va_D (va_A (mW E a τ) s.heap.size) (mW E a (mTab (mThr τ 0)) ++ [(q7, gI E 7 (upd (upd (upd (upd (upd (fun _ => 0) 0 (nI (mn τ))) 1 (mXn (mTab (0, mn τ, mk τ, mf τ, mo τ, mh τ, md τ, mr τ, mu τ, mv τ, ms τ, mp τ, mw τ)))) 2 (mGn (mTab (0, mn τ, mk τ, mf τ, mo τ, mh τ, md τ, mr τ, mu τ, mv τ, ms τ, mp τ, mw τ)))) 3 (nI (mk τ))) 4 (mAt (mTab (0, mn τ, mk τ, mf τ, mo τ, mh τ, md τ, mr τ, mu τ, mv τ, ms τ, mp τ, mw τ)))))]) := hD
  have hPm : gP E (mW E a (mTab (mThr τ 0))) H := hP.sub [0, 1, 2, 3, 4, 5, 6, 7, 8, 9, 10] rfl
  refine lv_dup hx hb dX1_digest_48 rfl ?_
  refine lv_iconst (v := 5) hx hb dX1_digest_49 (by decide) ?_
  refine lv_aload_n hx hb dX1_digest_50 rfl (lv_at hl 0 rfl) ?_
  refine m0i (As := []) (rest := [.int 5, .ref q7, .ref q7]) S (m_riskiest l E a (mTab (0, mn τ, mk τ, mf τ, mo τ, mh τ, md τ, mr τ, mu τ, mv τ, ms τ, mp τ, mw τ)) hO) (cwV 0 hts gX1_digest_X1_riskiest rfl rfl rfl hdX1_riskiest ⟨Nat.le_of_ble_eq_true rfl, Nat.le_of_ble_eq_true rfl⟩) hK hPm rfl hl.1 rfl (Nat.le_of_ble_eq_true rfl) ⟨by show 0 + 1 ≤ 41; omega, by show 0 + 7 ≤ 207; omega⟩ dX1_digest_51 ?_
  refine g_ist hx hb hK hP hD hS 11 rfl (f' := upd (upd (upd (upd (upd (upd (fun _ => 0) 0 (nI (mn τ))) 1 (mXn (mTab (0, mn τ, mk τ, mf τ, mo τ, mh τ, md τ, mr τ, mu τ, mv τ, ms τ, mp τ, mw τ)))) 2 (mGn (mTab (0, mn τ, mk τ, mf τ, mo τ, mh τ, md τ, mr τ, mu τ, mv τ, ms τ, mp τ, mw τ)))) 3 (nI (mk τ))) 4 (mAt (mTab (0, mn τ, mk τ, mf τ, mo τ, mh τ, md τ, mr τ, mu τ, mv τ, ms τ, mp τ, mw τ)))) 5 ((mRf (mTab (0, mn τ, mk τ, mf τ, mo τ, mh τ, md τ, mr τ, mu τ, mv τ, ms τ, mp τ, mw τ))).1)) (i := nI 5) (vp_in_nI (by decide) (by decide)) (g_clu (k := 5) (by decide) rfl) dX1_digest_54 (fun H locs hP hD hS => ?_)
  have hP : gP E (mW E a (mTab (mThr τ 0)) ++ [(q7, gI E 7 (upd (upd (upd (upd (upd (upd (fun _ => 0) 0 (nI (mn τ))) 1 (mXn (mTab (0, mn τ, mk τ, mf τ, mo τ, mh τ, md τ, mr τ, mu τ, mv τ, ms τ, mp τ, mw τ)))) 2 (mGn (mTab (0, mn τ, mk τ, mf τ, mo τ, mh τ, md τ, mr τ, mu τ, mv τ, ms τ, mp τ, mw τ)))) 3 (nI (mk τ))) 4 (mAt (mTab (0, mn τ, mk τ, mf τ, mo τ, mh τ, md τ, mr τ, mu τ, mv τ, ms τ, mp τ, mw τ)))) 5 ((mRf (mTab (0, mn τ, mk τ, mf τ, mo τ, mh τ, md τ, mr τ, mu τ, mv τ, ms τ, mp τ, mw τ))).1)))]) H := hP
  have hD : va_D (va_A (mW E a τ) s.heap.size) (mW E a (mTab (mThr τ 0)) ++ [(q7, gI E 7 (upd (upd (upd (upd (upd (upd (fun _ => 0) 0 (nI (mn τ))) 1 (mXn (mTab (0, mn τ, mk τ, mf τ, mo τ, mh τ, md τ, mr τ, mu τ, mv τ, ms τ, mp τ, mw τ)))) 2 (mGn (mTab (0, mn τ, mk τ, mf τ, mo τ, mh τ, md τ, mr τ, mu τ, mv τ, ms τ, mp τ, mw τ)))) 3 (nI (mk τ))) 4 (mAt (mTab (0, mn τ, mk τ, mf τ, mo τ, mh τ, md τ, mr τ, mu τ, mv τ, ms τ, mp τ, mw τ)))) 5 ((mRf (mTab (0, mn τ, mk τ, mf τ, mo τ, mh τ, md τ, mr τ, mu τ, mv τ, ms τ, mp τ, mw τ))).1)))]) := hD
  have hPm : gP E (mW E a (mTab (mThr τ 0))) H := hP.sub [0, 1, 2, 3, 4, 5, 6, 7, 8, 9, 10] rfl
  refine lv_dup hx hb dX1_digest_55 rfl ?_
  refine lv_bipush (v := nI 6) hx hb dX1_digest_56 (by decide) ?_
  refine lv_aload_n hx hb dX1_digest_58 rfl (lv_at hl 0 rfl) ?_
  refine m0i (As := []) (rest := [.int (nI 6), .ref q7, .ref q7]) S (m_allRegrets l E a (mTab (0, mn τ, mk τ, mf τ, mo τ, mh τ, md τ, mr τ, mu τ, mv τ, ms τ, mp τ, mw τ)) hO) (cwV 0 hts gX1_digest_X1_allRegrets rfl rfl rfl hdX1_allRegrets ⟨Nat.le_of_ble_eq_true rfl, Nat.le_of_ble_eq_true rfl⟩) hK hPm rfl hl.1 rfl (Nat.le_of_ble_eq_true rfl) ⟨by show 0 + 1 ≤ 41; omega, by show 0 + 7 ≤ 207; omega⟩ dX1_digest_59 ?_
  refine g_ist hx hb hK hP hD hS 11 rfl (f' := upd (upd (upd (upd (upd (upd (upd (fun _ => 0) 0 (nI (mn τ))) 1 (mXn (mTab (0, mn τ, mk τ, mf τ, mo τ, mh τ, md τ, mr τ, mu τ, mv τ, ms τ, mp τ, mw τ)))) 2 (mGn (mTab (0, mn τ, mk τ, mf τ, mo τ, mh τ, md τ, mr τ, mu τ, mv τ, ms τ, mp τ, mw τ)))) 3 (nI (mk τ))) 4 (mAt (mTab (0, mn τ, mk τ, mf τ, mo τ, mh τ, md τ, mr τ, mu τ, mv τ, ms τ, mp τ, mw τ)))) 5 ((mRf (mTab (0, mn τ, mk τ, mf τ, mo τ, mh τ, md τ, mr τ, mu τ, mv τ, ms τ, mp τ, mw τ))).1)) 6 (mAll (mTab (0, mn τ, mk τ, mf τ, mo τ, mh τ, md τ, mr τ, mu τ, mv τ, ms τ, mp τ, mw τ)))) (i := nI 6) (vp_in_nI (by decide) (by decide)) (g_clu (k := 6) (by decide) rfl) dX1_digest_62 (fun H locs hP hD hS => ?_)
  have hP : gP E (mW E a (mTab (mThr τ 0)) ++ [(q7, gI E 7 (upd (upd (upd (upd (upd (upd (upd (fun _ => 0) 0 (nI (mn τ))) 1 (mXn (mTab (0, mn τ, mk τ, mf τ, mo τ, mh τ, md τ, mr τ, mu τ, mv τ, ms τ, mp τ, mw τ)))) 2 (mGn (mTab (0, mn τ, mk τ, mf τ, mo τ, mh τ, md τ, mr τ, mu τ, mv τ, ms τ, mp τ, mw τ)))) 3 (nI (mk τ))) 4 (mAt (mTab (0, mn τ, mk τ, mf τ, mo τ, mh τ, md τ, mr τ, mu τ, mv τ, ms τ, mp τ, mw τ)))) 5 ((mRf (mTab (0, mn τ, mk τ, mf τ, mo τ, mh τ, md τ, mr τ, mu τ, mv τ, ms τ, mp τ, mw τ))).1)) 6 (mAll (mTab (0, mn τ, mk τ, mf τ, mo τ, mh τ, md τ, mr τ, mu τ, mv τ, ms τ, mp τ, mw τ)))))]) H := hP
  have hD : va_D (va_A (mW E a τ) s.heap.size) (mW E a (mTab (mThr τ 0)) ++ [(q7, gI E 7 (upd (upd (upd (upd (upd (upd (upd (fun _ => 0) 0 (nI (mn τ))) 1 (mXn (mTab (0, mn τ, mk τ, mf τ, mo τ, mh τ, md τ, mr τ, mu τ, mv τ, ms τ, mp τ, mw τ)))) 2 (mGn (mTab (0, mn τ, mk τ, mf τ, mo τ, mh τ, md τ, mr τ, mu τ, mv τ, ms τ, mp τ, mw τ)))) 3 (nI (mk τ))) 4 (mAt (mTab (0, mn τ, mk τ, mf τ, mo τ, mh τ, md τ, mr τ, mu τ, mv τ, ms τ, mp τ, mw τ)))) 5 ((mRf (mTab (0, mn τ, mk τ, mf τ, mo τ, mh τ, md τ, mr τ, mu τ, mv τ, ms τ, mp τ, mw τ))).1)) 6 (mAll (mTab (0, mn τ, mk τ, mf τ, mo τ, mh τ, md τ, mr τ, mu τ, mv τ, ms τ, mp τ, mw τ)))))]) := hD
  have hPm : gP E (mW E a (mTab (mThr τ 0))) H := hP.sub [0, 1, 2, 3, 4, 5, 6, 7, 8, 9, 10] rfl
  refine lv_astore_n (lv' := [(1, .ref q7), (0, .ref (a 0))]) hx hb dX1_digest_63 rfl hl (by decide) rfl (fun ls hl => ?_)
  refine lv_ldc2 (v := 1039) hx hb hown (hts (.constantLong RX1 156 (1039)) (by decide +kernel)) dX1_digest_64 ?_
  refine lv_lstore_n (lv' := [(2, .long 1039), (1, .ref q7), (0, .ref (a 0))]) hx hb dX1_digest_67 rfl hl (by decide) rfl (fun ls hl => ?_)
  refine lv_aload_n hx hb dX1_digest_68 rfl (lv_at hl 1 rfl) ?_
  refine lv_astore (lv' := [(4, .ref q7), (2, .long 1039), (1, .ref q7), (0, .ref (a 0))]) hx hb dX1_digest_69 hl (by decide) rfl (fun ls hl => ?_)
  refine lv_aload hx hb dX1_digest_71 (lv_at hl 0 rfl) ?_
  refine va_alen hx hb hK hP 11 0 rfl rfl (v := nI 7) rfl dX1_digest_73 ?_
  refine lv_istore (lv' := [(5, .int (nI 7)), (4, .ref q7), (2, .long 1039), (1, .ref q7), (0, .ref (a 0))]) hx hb dX1_digest_74 hl (by decide) rfl (fun ls hl => ?_)
  refine lv_iconst (v := 0) hx hb dX1_digest_76 (by decide) ?_
  refine lv_istore (lv' := [(6, .int 0), (5, .int (nI 7)), (4, .ref q7), (2, .long 1039), (1, .ref q7), (0, .ref (a 0))]) hx hb dX1_digest_77 hl (by decide) rfl (fun ls hl => ?_)
  have key : ∀ (d i : Nat) (x : Int64) (ls : Array Slot), i + d = 7 → x = hfd (upd (upd (upd (upd (upd (upd (upd (fun _ => 0) 0 (nI (mn τ))) 1 (mXn (mTab (0, mn τ, mk τ, mf τ, mo τ, mh τ, md τ, mr τ, mu τ, mv τ, ms τ, mp τ, mw τ)))) 2 (mGn (mTab (0, mn τ, mk τ, mf τ, mo τ, mh τ, md τ, mr τ, mu τ, mv τ, ms τ, mp τ, mw τ)))) 3 (nI (mk τ))) 4 (mAt (mTab (0, mn τ, mk τ, mf τ, mo τ, mh τ, md τ, mr τ, mu τ, mv τ, ms τ, mp τ, mw τ)))) 5 ((mRf (mTab (0, mn τ, mk τ, mf τ, mo τ, mh τ, md τ, mr τ, mu τ, mv τ, ms τ, mp τ, mw τ))).1)) 6 (mAll (mTab (0, mn τ, mk τ, mf τ, mo τ, mh τ, md τ, mr τ, mu τ, mv τ, ms τ, mp τ, mw τ)))) 1039 i → lv_has ls 10 [(6, .int (nI i)), (5, .int (nI 7)), (4, .ref q7), (2, .long x), (0, .ref (a 0))] → W p l e (headSpec wsX1_digest { frames := 5, cells := 41, slots := 207, locals := 113 }).room s m [.ref (a 0)].toArray below meth c H locs (0 + 1) (0 + 7) (MQ below (gQl E (mDig (mTab (mThr τ 0))) (mW E a τ) (mW E a (mTab (mThr τ 0))) s.heap.size) [.ref (a 0)].toArray s 41 207 (va_A (mW E a τ) s.heap.size)) (F0 m 79 ls []) := by
    intro d
    induction d with
    | zero =>
      intro i x ls hi hinv hl
      obtain rfl : i = 7 := by omega
      refine lv_iload hx hb dX1_digest_79 (lv_at hl 0 rfl) ?_
      refine lv_iload hx hb dX1_digest_81 (lv_at hl 1 rfl) ?_
      refine lv_icmp_ge (tgt := 109) hx hb dX1_digest_83 (by decide) (fun _ => ?_) (fun q => absurd ((nI_le (Nat.le_refl _) (by omega))) q)
      refine lv_iconst (v := 0) hx hb dX1_digest_109 (by decide) ?_
      refine lv_istore (lv' := [(4, .int 0), (6, .int (nI 7)), (5, .int (nI 7)), (2, .long x), (0, .ref (a 0))]) hx hb dX1_digest_110 hl (by decide) rfl (fun ls hl => ?_)
      have hx0 : x = mD0 (mTab (mThr τ 0)) := by rw [hinv]; rfl
      have hD : va_D (va_A (mW E a τ) s.heap.size) (mW E a (mTab (mThr τ 0))) := mW_D hD00
      have hP := hPm
      have key : ∀ (d i : Nat) (x : Int64) (H : Heap) (locs : List Loc) (ls : Array Slot), i + d = mn τ → x = mDp (mTab (mThr τ 0)) (mD0 (mTab (mThr τ 0))) i → gP E (mW E a (mTab (mThr τ 0))) H → va_S (va_A (mW E a τ) s.heap.size) s.heap H locs → lv_has ls 10 [(4, .int (nI i)), (2, .long x), (0, .ref (a 0))] → W p l e (headSpec wsX1_digest { frames := 5, cells := 41, slots := 207, locals := 113 }).room s m [.ref (a 0)].toArray below meth c H locs (1 + i) (7 + 5 * i) (MQ below (gQl E (mDig (mTab (mThr τ 0))) (mW E a τ) (mW E a (mTab (mThr τ 0))) s.heap.size) [.ref (a 0)].toArray s 41 207 (va_A (mW E a τ) s.heap.size)) (F0 m 112 ls []) := by
        clear hinv hx0
        intro d
        induction d with
        | zero =>
          intro i x H locs ls hi hinv hP hS hl
          obtain rfl : i = mn τ := by omega
          refine lv_iload hx hb dX1_digest_112 (lv_at hl 0 rfl) ?_
          refine lv_aload_n hx hb dX1_digest_114 rfl (lv_at hl 2 rfl) ?_
          refine m_get (τ := (mTab (mThr τ 0))) (v := .int (nI (mn τ))) hx hb hts hts0 hown hK hP 1 (by decide) (by decide +kernel) rfl rfl dX1_digest_115 ?_
          refine lv_icmp_ge (tgt := 311) hx hb dX1_digest_118 (by decide) (fun _ => ?_) (fun q => absurd ((nI_le (by show mn τ ≤ mn τ; omega) (by omega))) q)
          refine lv_iconst (v := 0) hx hb dX1_digest_311 (by decide) ?_
          refine lv_istore (lv' := [(4, .int 0), (2, .long x), (0, .ref (a 0))]) hx hb dX1_digest_312 hl (by decide) rfl (fun ls hl => ?_)
          obtain ⟨x0, hx0⟩ : ∃ z : Int64, z = x := ⟨_, rfl⟩
          rw [← hx0] at hl hinv
          clear hx0
          have key : ∀ (d i : Nat) (x : Int64) (ls : Array Slot), i + d = mk τ → x = mDs (mTab (mThr τ 0)) (mDp (mTab (mThr τ 0)) (mD0 (mTab (mThr τ 0))) (mn τ)) i → lv_has ls 10 [(4, .int (nI i)), (2, .long x), (0, .ref (a 0))] → W p l e (headSpec wsX1_digest { frames := 5, cells := 41, slots := 207, locals := 113 }).room s m [.ref (a 0)].toArray below meth c H locs (1 + mn τ) (7 + 5 * mn τ) (MQ below (gQl E (mDig (mTab (mThr τ 0))) (mW E a τ) (mW E a (mTab (mThr τ 0))) s.heap.size) [.ref (a 0)].toArray s 41 207 (va_A (mW E a τ) s.heap.size)) (F0 m 314 ls []) := by
            intro d
            induction d with
            | zero =>
              intro i x ls hi hinv hl
              obtain rfl : i = mk τ := by omega
              refine lv_iload hx hb dX1_digest_314 (lv_at hl 0 rfl) ?_
              refine lv_aload_n hx hb dX1_digest_316 rfl (lv_at hl 2 rfl) ?_
              refine m_get (τ := (mTab (mThr τ 0))) (v := .int (nI (mk τ))) hx hb hts hts0 hown hK hP 2 (by decide) (by decide +kernel) rfl rfl dX1_digest_317 ?_
              refine lv_icmp_ge (tgt := 357) hx hb dX1_digest_320 (by decide) (fun _ => ?_) (fun q => absurd ((nI_le (Nat.le_refl _) (by omega))) q)
              refine lv_lload_n hx hb dX1_digest_357 rfl (lv_at hl 1 rfl) ?_
              refine W.widen (k := 41) (n := 207) (by omega) (by omega) ?_
              exact W.lret hx hb hr (fun t ht hW => ⟨⟨_, (), rfl, hinv, by show gP E _ t.heap; rw [ht]; exact hP⟩, hS.F ht⟩) hS.2.2 dX1_digest_358
            | succ d ih =>
              intro i x ls hi hinv hl
              refine lv_iload hx hb dX1_digest_314 (lv_at hl 0 rfl) ?_
              refine lv_aload_n hx hb dX1_digest_316 rfl (lv_at hl 2 rfl) ?_
              refine m_get (τ := (mTab (mThr τ 0))) (v := .int (nI (mk τ))) hx hb hts hts0 hown hK hP 2 (by decide) (by decide +kernel) rfl rfl dX1_digest_317 ?_
              refine lv_icmp_ge (tgt := 357) hx hb dX1_digest_320 (by decide) (fun q => absurd q ((nI_ge (by omega) (by omega)))) (fun _ => ?_)
              refine lv_lload_n hx hb dX1_digest_323 rfl (lv_at hl 1 rfl) ?_
              refine lv_ldc2 (v := 31) hx hb hown (hts (.constantLong RX1 158 (31)) (by decide +kernel)) dX1_digest_324 ?_
              refine lv_lmul hx hb dX1_digest_327 ?_
              refine lv_aload_n hx hb dX1_digest_328 rfl (lv_at hl 2 rfl) ?_
              refine m_get (τ := (mTab (mThr τ 0))) (v := .ref (a 8)) hx hb hts hts0 hown hK hP 10 (by decide) (by decide +kernel) rfl rfl dX1_digest_329 ?_
              refine lv_iload hx hb dX1_digest_332 (lv_at hl 0 rfl) ?_
              refine g_ild hx hb hK hP 8 rfl (v := nI ((ms τ) i)) (vp_in_nI (by omega) (by decide)) (by rw [nI_clamp (by omega)] <;> rfl) dX1_digest_334 ?_
              refine lv_i2l hx hb dX1_digest_335 rfl ?_
              refine lv_ladd hx hb dX1_digest_336 ?_
              refine lv_ldc2 (v := 31) hx hb hown (hts (.constantLong RX1 158 (31)) (by decide +kernel)) dX1_digest_337 ?_
              refine lv_lmul hx hb dX1_digest_340 ?_
              refine lv_aload_n hx hb dX1_digest_341 rfl (lv_at hl 2 rfl) ?_
              refine m_get (τ := (mTab (mThr τ 0))) (v := .ref (a 9)) hx hb hts hts0 hown hK hP 11 (by decide) (by decide +kernel) rfl rfl dX1_digest_342 ?_
              refine lv_iload hx hb dX1_digest_345 (lv_at hl 0 rfl) ?_
              refine g_ild hx hb hK hP 9 rfl (v := nI ((mp τ) i)) (vp_in_nI (by omega) (by decide)) (by rw [nI_clamp (by omega)] <;> rfl) dX1_digest_347 ?_
              refine lv_i2l hx hb dX1_digest_348 rfl ?_
              refine lv_ladd hx hb dX1_digest_349 ?_
              refine lv_lstore_n (lv' := [(2, .long ((((x * 31) + ((nI ((ms τ) i)).toInt64)) * 31) + ((nI ((mp τ) i)).toInt64))), (4, .int (nI i)), (0, .ref (a 0))]) hx hb dX1_digest_350 rfl hl (by decide) rfl (fun ls hl => ?_)
              refine lv_iinc (v := nI (i + 1)) (lv' := [(4, .int (nI (i + 1))), (2, .long ((((x * 31) + ((nI ((ms τ) i)).toInt64)) * 31) + ((nI ((mp τ) i)).toInt64))), (0, .ref (a 0))]) hx hb dX1_digest_351 hl (k := 1) rfl (nI_1 i) (by decide) rfl (fun ls hl => ?_)
              refine lv_goto (tgt := 314) hx hb dX1_digest_354 (by decide) ?_
              exact ih (i + 1) ((((x * 31) + ((nI ((ms τ) i)).toInt64)) * 31) + ((nI ((mp τ) i)).toInt64)) ls (by omega) (by rw [hinv]; rfl) (lv_sub hl [0, 1, 2] rfl)
          exact key (mk τ) 0 x0 ls (by omega) hinv (lv_sub hl [0, 1, 2] rfl)
        | succ d ih =>
          intro i x H locs ls hi hinv hP hS hl
          refine lv_iload hx hb dX1_digest_112 (lv_at hl 0 rfl) ?_
          refine lv_aload_n hx hb dX1_digest_114 rfl (lv_at hl 2 rfl) ?_
          refine m_get (τ := (mTab (mThr τ 0))) (v := .int (nI (mn τ))) hx hb hts hts0 hown hK hP 1 (by decide) (by decide +kernel) rfl rfl dX1_digest_115 ?_
          refine lv_icmp_ge (tgt := 311) hx hb dX1_digest_118 (by decide) (fun q => absurd q ((nI_ge (by show i < mn τ; omega) (by show mn τ < _; omega)))) (fun _ => ?_)
          refine lv_iconst (v := 5) hx hb dX1_digest_121 (by decide) ?_
          refine va_newa (atype := .int) (ty := .int) (N' := 5) (a0 := (5, .inl (fun _ => 0))) hx hb (hts (.arrayClass .int) (by decide +kernel)) rfl hK hP hD hS hA (fun cA => rfl) (by decide) (by decide) (Nat.le_of_ble_eq_true rfl) (by show 1 + i + 1 ≤ 41; omega) (by show 7 + 5 * i + 5 ≤ 207; omega) dX1_digest_122 (fun q5 cA H hK2 hP hD hS => ?_)
          obtain rfl : cA = E.2.1 := va_K_same (i := 3) (j := 0) hK2 hK rfl rfl (fun _ h => by cases h)
          have hP : gP E (mW E a (mTab (mThr τ 0)) ++ [(q5, gI E 5 (fun _ => 0))]) H := hP
          have hD : va_D (va_A (mW E a τ) s.heap.size) (mW E a (mTab (mThr τ 0)) ++ [(q5, gI E 5 (fun _ => 0))]) := hD
          have hPm : gP E (mW E a (mTab (mThr τ 0))) H := hP.sub [0, 1, 2, 3, 4, 5, 6, 7, 8, 9, 10] rfl
          refine lv_dup hx hb dX1_digest_124 rfl ?_
          refine lv_iconst (v := 0) hx hb dX1_digest_125 (by decide) ?_
          refine lv_aload_n hx hb dX1_digest_126 rfl (lv_at hl 2 rfl) ?_
          refine m_get (τ := (mTab (mThr τ 0))) (v := .ref (a 1)) hx hb hts hts0 hown hK hPm 3 (by decide) (by decide +kernel) rfl rfl dX1_digest_127 ?_
          refine lv_iload hx hb dX1_digest_130 (lv_at hl 0 rfl) ?_
          refine g_zld hx hb hK hP 1 rfl (v := b2i ((mf τ) i)) (vp_in_nI (by omega) (by decide)) (by rw [nI_clamp (by omega)] <;> rfl) dX1_digest_132 ?_
          refine lv_if_eq (tgt := 140) hx hb dX1_digest_133 (by decide) (fun c133 => ?_) (fun c133 => ?_)
          · refine lv_iconst (v := 1) hx hb dX1_digest_140 (by decide) ?_
            refine g_ist hx hb hK hP hD hS 11 rfl (f' := upd (fun _ => 0) 0 1) (i := nI 0) (vp_in_nI (by decide) (by decide)) (g_clu (k := 0) (by decide) rfl) dX1_digest_141 (fun H locs hP hD hS => ?_)
            have hP : gP E (mW E a (mTab (mThr τ 0)) ++ [(q5, gI E 5 (upd (fun _ => 0) 0 1))]) H := hP
            have hD : va_D (va_A (mW E a τ) s.heap.size) (mW E a (mTab (mThr τ 0)) ++ [(q5, gI E 5 (upd (fun _ => 0) 0 1))]) := hD
            have hPm : gP E (mW E a (mTab (mThr τ 0))) H := hP.sub [0, 1, 2, 3, 4, 5, 6, 7, 8, 9, 10] rfl
            refine lv_dup hx hb dX1_digest_142 rfl ?_
            refine lv_iconst (v := 1) hx hb dX1_digest_143 (by decide) ?_
            refine lv_aload_n hx hb dX1_digest_144 rfl (lv_at hl 2 rfl) ?_
            refine m_get (τ := (mTab (mThr τ 0))) (v := .ref (a 6)) hx hb hts hts0 hown hK hPm 8 (by decide) (by decide +kernel) rfl rfl dX1_digest_145 ?_
            refine lv_iload hx hb dX1_digest_148 (lv_at hl 0 rfl) ?_
            refine g_ild hx hb hK hP 6 rfl (v := (mu (mTab (mThr τ 0))) i) (vp_in_nI (by omega) (by decide)) (by rw [nI_clamp (by omega)] <;> rfl) dX1_digest_150 ?_
            refine g_ist hx hb hK hP hD hS 11 rfl (f' := upd (upd (fun _ => 0) 0 1) 1 ((mu (mTab (mThr τ 0))) i)) (i := nI 1) (vp_in_nI (by decide) (by decide)) (g_clu (k := 1) (by decide) rfl) dX1_digest_151 (fun H locs hP hD hS => ?_)
            have hP : gP E (mW E a (mTab (mThr τ 0)) ++ [(q5, gI E 5 (upd (upd (fun _ => 0) 0 1) 1 ((mu (mTab (mThr τ 0))) i)))]) H := hP
            have hD : va_D (va_A (mW E a τ) s.heap.size) (mW E a (mTab (mThr τ 0)) ++ [(q5, gI E 5 (upd (upd (fun _ => 0) 0 1) 1 ((mu (mTab (mThr τ 0))) i)))]) := hD
            have hPm : gP E (mW E a (mTab (mThr τ 0))) H := hP.sub [0, 1, 2, 3, 4, 5, 6, 7, 8, 9, 10] rfl
            refine lv_dup hx hb dX1_digest_152 rfl ?_
            refine lv_iconst (v := 2) hx hb dX1_digest_153 (by decide) ?_
            refine lv_aload_n hx hb dX1_digest_154 rfl (lv_at hl 2 rfl) ?_
            refine m_get (τ := (mTab (mThr τ 0))) (v := .ref (a 7)) hx hb hts hts0 hown hK hPm 9 (by decide) (by decide +kernel) rfl rfl dX1_digest_155 ?_
            refine lv_iload hx hb dX1_digest_158 (lv_at hl 0 rfl) ?_
            refine g_ild hx hb hK hP 7 rfl (v := (mv (mTab (mThr τ 0))) i) (vp_in_nI (by omega) (by decide)) (by rw [nI_clamp (by omega)] <;> rfl) dX1_digest_160 ?_
            refine g_ist hx hb hK hP hD hS 11 rfl (f' := upd (upd (upd (fun _ => 0) 0 1) 1 ((mu (mTab (mThr τ 0))) i)) 2 ((mv (mTab (mThr τ 0))) i)) (i := nI 2) (vp_in_nI (by decide) (by decide)) (g_clu (k := 2) (by decide) rfl) dX1_digest_161 (fun H locs hP hD hS => ?_)
            have hP : gP E (mW E a (mTab (mThr τ 0)) ++ [(q5, gI E 5 (upd (upd (upd (fun _ => 0) 0 1) 1 ((mu (mTab (mThr τ 0))) i)) 2 ((mv (mTab (mThr τ 0))) i)))]) H := hP
            have hD : va_D (va_A (mW E a τ) s.heap.size) (mW E a (mTab (mThr τ 0)) ++ [(q5, gI E 5 (upd (upd (upd (fun _ => 0) 0 1) 1 ((mu (mTab (mThr τ 0))) i)) 2 ((mv (mTab (mThr τ 0))) i)))]) := hD
            have hPm : gP E (mW E a (mTab (mThr τ 0))) H := hP.sub [0, 1, 2, 3, 4, 5, 6, 7, 8, 9, 10] rfl
            refine lv_dup hx hb dX1_digest_162 rfl ?_
            refine lv_iconst (v := 3) hx hb dX1_digest_163 (by decide) ?_
            refine lv_aload_n hx hb dX1_digest_164 rfl (lv_at hl 2 rfl) ?_
            refine lv_iload hx hb dX1_digest_165 (lv_at hl 0 rfl) ?_
            refine m0i (As := [.int (nI i)]) (rest := [.int 3, .ref q5, .ref q5]) S (m_examsOf l E a (mTab (mThr τ 0)) hO i (by omega)) (cwV 1 hts gX1_digest_X1_examsOf rfl rfl rfl hdX1_examsOf ⟨Nat.le_of_ble_eq_true rfl, Nat.le_of_ble_eq_true rfl⟩) hK hPm rfl hl.1 rfl (Nat.le_of_ble_eq_true rfl) ⟨by show 1 + i + 1 ≤ 41; omega, by show 7 + 5 * i + 5 ≤ 207; omega⟩ dX1_digest_167 ?_
            refine g_ist hx hb hK hP hD hS 11 rfl (f' := upd (upd (upd (upd (fun _ => 0) 0 1) 1 ((mu (mTab (mThr τ 0))) i)) 2 ((mv (mTab (mThr τ 0))) i)) 3 (mEf (mTab (mThr τ 0)) i)) (i := nI 3) (vp_in_nI (by decide) (by decide)) (g_clu (k := 3) (by decide) rfl) dX1_digest_170 (fun H locs hP hD hS => ?_)
            have hP : gP E (mW E a (mTab (mThr τ 0)) ++ [(q5, gI E 5 (upd (upd (upd (upd (fun _ => 0) 0 1) 1 ((mu (mTab (mThr τ 0))) i)) 2 ((mv (mTab (mThr τ 0))) i)) 3 (mEf (mTab (mThr τ 0)) i)))]) H := hP
            have hD : va_D (va_A (mW E a τ) s.heap.size) (mW E a (mTab (mThr τ 0)) ++ [(q5, gI E 5 (upd (upd (upd (upd (fun _ => 0) 0 1) 1 ((mu (mTab (mThr τ 0))) i)) 2 ((mv (mTab (mThr τ 0))) i)) 3 (mEf (mTab (mThr τ 0)) i)))]) := hD
            have hPm : gP E (mW E a (mTab (mThr τ 0))) H := hP.sub [0, 1, 2, 3, 4, 5, 6, 7, 8, 9, 10] rfl
            refine lv_dup hx hb dX1_digest_171 rfl ?_
            refine lv_iconst (v := 4) hx hb dX1_digest_172 (by decide) ?_
            refine lv_aload_n hx hb dX1_digest_173 rfl (lv_at hl 2 rfl) ?_
            refine lv_iload hx hb dX1_digest_174 (lv_at hl 0 rfl) ?_
            refine m0i (As := [.int (nI i)]) (rest := [.int 4, .ref q5, .ref q5]) S (m_leads l E a (mTab (mThr τ 0)) hO i (by omega)) (cwV 1 hts gX1_digest_X1_leads rfl rfl rfl hdX1_leads ⟨Nat.le_of_ble_eq_true rfl, Nat.le_of_ble_eq_true rfl⟩) hK hPm rfl hl.1 rfl (Nat.le_of_ble_eq_true rfl) ⟨by show 1 + i + 1 ≤ 41; omega, by show 7 + 5 * i + 5 ≤ 207; omega⟩ dX1_digest_176 ?_
            refine g_ist hx hb hK hP hD hS 11 rfl (f' := upd (upd (upd (upd (upd (fun _ => 0) 0 1) 1 ((mu (mTab (mThr τ 0))) i)) 2 ((mv (mTab (mThr τ 0))) i)) 3 (mEf (mTab (mThr τ 0)) i)) 4 (nI (mLd (mTab (mThr τ 0)) 40 i))) (i := nI 4) (vp_in_nI (by decide) (by decide)) (g_clu (k := 4) (by decide) rfl) dX1_digest_179 (fun H locs hP hD hS => ?_)
            have hP : gP E (mW E a (mTab (mThr τ 0)) ++ [(q5, gI E 5 (upd (upd (upd (upd (upd (fun _ => 0) 0 1) 1 ((mu (mTab (mThr τ 0))) i)) 2 ((mv (mTab (mThr τ 0))) i)) 3 (mEf (mTab (mThr τ 0)) i)) 4 (nI (mLd (mTab (mThr τ 0)) 40 i))))]) H := hP
            have hD : va_D (va_A (mW E a τ) s.heap.size) (mW E a (mTab (mThr τ 0)) ++ [(q5, gI E 5 (upd (upd (upd (upd (upd (fun _ => 0) 0 1) 1 ((mu (mTab (mThr τ 0))) i)) 2 ((mv (mTab (mThr τ 0))) i)) 3 (mEf (mTab (mThr τ 0)) i)) 4 (nI (mLd (mTab (mThr τ 0)) 40 i))))]) := hD
            have hPm : gP E (mW E a (mTab (mThr τ 0))) H := hP.sub [0, 1, 2, 3, 4, 5, 6, 7, 8, 9, 10] rfl
            refine lv_astore (lv' := [(5, .ref q5), (4, .int (nI i)), (2, .long x), (0, .ref (a 0))]) hx hb dX1_digest_180 hl (by decide) rfl (fun ls hl => ?_)
            refine lv_aload hx hb dX1_digest_182 (lv_at hl 0 rfl) ?_
            refine lv_astore (lv' := [(6, .ref q5), (5, .ref q5), (4, .int (nI i)), (2, .long x), (0, .ref (a 0))]) hx hb dX1_digest_184 hl (by decide) rfl (fun ls hl => ?_)
            refine lv_aload hx hb dX1_digest_186 (lv_at hl 0 rfl) ?_
            refine va_alen hx hb hK hP 11 0 rfl rfl (v := nI 5) rfl dX1_digest_188 ?_
            refine lv_istore (lv' := [(7, .int (nI 5)), (6, .ref q5), (5, .ref q5), (4, .int (nI i)), (2, .long x), (0, .ref (a 0))]) hx hb dX1_digest_189 hl (by decide) rfl (fun ls hl => ?_)
            refine lv_iconst (v := 0) hx hb dX1_digest_191 (by decide) ?_
            refine lv_istore (lv' := [(8, .int 0), (7, .int (nI 5)), (6, .ref q5), (5, .ref q5), (4, .int (nI i)), (2, .long x), (0, .ref (a 0))]) hx hb dX1_digest_192 hl (by decide) rfl (fun ls hl => ?_)
            obtain ⟨x0, hx0⟩ : ∃ z : Int64, z = x := ⟨_, rfl⟩
            rw [← hx0] at hl
            have key2 : ∀ (d i2 : Nat) (x : Int64) (ls : Array Slot), i2 + d = 5 → x = hfd (upd (upd (upd (upd (upd (fun _ => 0) 0 1) 1 ((mu (mTab (mThr τ 0))) i)) 2 ((mv (mTab (mThr τ 0))) i)) 3 (mEf (mTab (mThr τ 0)) i)) 4 (nI (mLd (mTab (mThr τ 0)) 40 i))) x0 i2 → lv_has ls 10 [(8, .int (nI i2)), (7, .int (nI 5)), (6, .ref q5), (2, .long x), (4, .int (nI i)), (0, .ref (a 0))] → W p l e (headSpec wsX1_digest { frames := 5, cells := 41, slots := 207, locals := 113 }).room s m [.ref (a 0)].toArray below meth c H locs (1 + i + 1) (7 + 5 * i + 5) (MQ below (gQl E (mDig (mTab (mThr τ 0))) (mW E a τ) (mW E a (mTab (mThr τ 0))) s.heap.size) [.ref (a 0)].toArray s 41 207 (va_A (mW E a τ) s.heap.size)) (F0 m 194 ls []) := by
              intro d
              induction d with
              | zero =>
                intro i2 x ls hi hinv2 hl
                obtain rfl : i2 = 5 := by omega
                refine lv_iload hx hb dX1_digest_194 (lv_at hl 0 rfl) ?_
                refine lv_iload hx hb dX1_digest_196 (lv_at hl 1 rfl) ?_
                refine lv_icmp_ge (tgt := 224) hx hb dX1_digest_198 (by decide) (fun _ => ?_) (fun q => absurd ((nI_le (Nat.le_refl _) (by omega))) q)
                refine lv_aload_n hx hb dX1_digest_224 rfl (lv_at hl 5 rfl) ?_
                refine m_get (τ := (mTab (mThr τ 0))) (v := .ref (a 1)) hx hb hts hts0 hown hK hPm 3 (by decide) (by decide +kernel) rfl rfl dX1_digest_225 ?_
                refine lv_iload hx hb dX1_digest_228 (lv_at hl 4 rfl) ?_
                refine g_zld hx hb hK hP 1 rfl (v := b2i ((mf τ) i)) (vp_in_nI (by omega) (by decide)) (by rw [nI_clamp (by omega)] <;> rfl) dX1_digest_230 ?_
                refine lv_if_eq (tgt := 290) hx hb dX1_digest_231 (by decide) (fun _ => ?_) (fun q => absurd c133 q)
                refine lv_lload_n hx hb dX1_digest_290 rfl (lv_at hl 3 rfl) ?_
                refine lv_ldc2 (v := 31) hx hb hown (hts (.constantLong RX1 158 (31)) (by decide +kernel)) dX1_digest_291 ?_
                refine lv_lmul hx hb dX1_digest_294 ?_
                refine lv_aload_n hx hb dX1_digest_295 rfl (lv_at hl 5 rfl) ?_
                refine m_get (τ := (mTab (mThr τ 0))) (v := .ref (a 4)) hx hb hts hts0 hown hK hPm 6 (by decide) (by decide +kernel) rfl rfl dX1_digest_296 ?_
                refine lv_iload hx hb dX1_digest_299 (lv_at hl 4 rfl) ?_
                refine g_ild hx hb hK hP 4 rfl (v := (md τ) i) (vp_in_nI (by omega) (by decide)) (by rw [nI_clamp (by omega)] <;> rfl) dX1_digest_301 ?_
                refine lv_i2l hx hb dX1_digest_302 rfl ?_
                refine lv_ladd hx hb dX1_digest_303 ?_
                refine lv_lstore_n (lv' := [(2, .long ((x * 31) + (((md τ) i).toInt64))), (8, .int (nI 5)), (7, .int (nI 5)), (6, .ref q5), (4, .int (nI i)), (0, .ref (a 0))]) hx hb dX1_digest_304 rfl hl (by decide) rfl (fun ls hl => ?_)
                refine lv_iinc (v := nI (i + 1)) (lv' := [(4, .int (nI (i + 1))), (2, .long ((x * 31) + (((md τ) i).toInt64))), (8, .int (nI 5)), (7, .int (nI 5)), (6, .ref q5), (0, .ref (a 0))]) hx hb dX1_digest_305 hl (k := 4) rfl (nI_1 i) (by decide) rfl (fun ls hl => ?_)
                refine lv_goto (tgt := 112) hx hb dX1_digest_308 (by decide) ?_
                refine W.cs (cells' := 1 + (i + 1)) (slots' := 7 + 5 * (i + 1)) (by omega) (by omega) ?_
                exact ih (i + 1) _ H locs ls (by omega) (by rw [mDp, ← hinv, ← hx0, mPd, mPd0]; first | (rw [if_pos (show mf (mTab (mThr τ 0)) i = true from b2i_ne0.mp c133), hinv2, show mf (mTab (mThr τ 0)) i = true from b2i_ne0.mp c133]; rfl) | (rw [if_neg (by rw [show mf (mTab (mThr τ 0)) i = false from b2i_eq0.mp c133]; decide), hinv2, show mf (mTab (mThr τ 0)) i = false from b2i_eq0.mp c133]; rfl)) hPm hS (lv_sub hl [0, 1, 5] rfl)
              | succ d ih2 =>
                intro i2 x ls hi hinv2 hl
                refine lv_iload hx hb dX1_digest_194 (lv_at hl 0 rfl) ?_
                refine lv_iload hx hb dX1_digest_196 (lv_at hl 1 rfl) ?_
                refine lv_icmp_ge (tgt := 224) hx hb dX1_digest_198 (by decide) (fun q => absurd q ((nI_ge (by omega) (by omega)))) (fun _ => ?_)
                refine lv_aload hx hb dX1_digest_201 (lv_at hl 2 rfl) ?_
                refine lv_iload hx hb dX1_digest_203 (lv_at hl 0 rfl) ?_
                refine g_ild hx hb hK hP 11 rfl (v := (upd (upd (upd (upd (upd (fun _ => 0) 0 1) 1 ((mu (mTab (mThr τ 0))) i)) 2 ((mv (mTab (mThr τ 0))) i)) 3 (mEf (mTab (mThr τ 0)) i)) 4 (nI (mLd (mTab (mThr τ 0)) 40 i))) i2) (vp_in_nI (by omega) (by decide)) (by rw [nI_clamp (by omega)]) dX1_digest_205 ?_
                refine lv_topi (fun y ey => ?_)
                refine lv_istore (lv' := [(9, .int y), (8, .int (nI i2)), (7, .int (nI 5)), (6, .ref q5), (2, .long x), (4, .int (nI i)), (0, .ref (a 0))]) hx hb dX1_digest_206 hl (by decide) rfl (fun ls hl => ?_)
                refine lv_lload_n hx hb dX1_digest_208 rfl (lv_at hl 4 rfl) ?_
                refine lv_ldc2 (v := 31) hx hb hown (hts (.constantLong RX1 158 (31)) (by decide +kernel)) dX1_digest_209 ?_
                refine lv_lmul hx hb dX1_digest_212 ?_
                refine lv_iload hx hb dX1_digest_213 (lv_at hl 0 rfl) ?_
                refine lv_i2l hx hb dX1_digest_215 rfl ?_
                refine lv_ladd hx hb dX1_digest_216 ?_
                refine lv_lstore_n (lv' := [(2, .long ((x * 31) + y.toInt64)), (9, .int y), (8, .int (nI i2)), (7, .int (nI 5)), (6, .ref q5), (4, .int (nI i)), (0, .ref (a 0))]) hx hb dX1_digest_217 rfl hl (by decide) rfl (fun ls hl => ?_)
                refine lv_iinc (v := nI (i2 + 1)) (lv' := [(8, .int (nI (i2 + 1))), (2, .long ((x * 31) + y.toInt64)), (9, .int y), (7, .int (nI 5)), (6, .ref q5), (4, .int (nI i)), (0, .ref (a 0))]) hx hb dX1_digest_218 hl (k := 2) rfl (nI_1 i2) (by decide) rfl (fun ls hl => ?_)
                refine lv_goto (tgt := 194) hx hb dX1_digest_221 (by decide) ?_
                exact ih2 (i2 + 1) ((x * 31) + y.toInt64) ls (by omega) (by rw [ey, hinv2]; rfl) (lv_sub hl [0, 3, 4, 1, 5, 6] rfl)
            exact key2 5 0 x0 ls (by omega) rfl (lv_sub hl [0, 1, 2, 5, 4, 6] rfl)
          · refine lv_iconst (v := 0) hx hb dX1_digest_136 (by decide) ?_
            refine lv_goto (tgt := 141) hx hb dX1_digest_137 (by decide) ?_
            refine g_ist hx hb hK hP hD hS 11 rfl (f' := upd (fun _ => 0) 0 0) (i := nI 0) (vp_in_nI (by decide) (by decide)) (g_clu (k := 0) (by decide) rfl) dX1_digest_141 (fun H locs hP hD hS => ?_)
            have hP : gP E (mW E a (mTab (mThr τ 0)) ++ [(q5, gI E 5 (upd (fun _ => 0) 0 0))]) H := hP
            have hD : va_D (va_A (mW E a τ) s.heap.size) (mW E a (mTab (mThr τ 0)) ++ [(q5, gI E 5 (upd (fun _ => 0) 0 0))]) := hD
            have hPm : gP E (mW E a (mTab (mThr τ 0))) H := hP.sub [0, 1, 2, 3, 4, 5, 6, 7, 8, 9, 10] rfl
            refine lv_dup hx hb dX1_digest_142 rfl ?_
            refine lv_iconst (v := 1) hx hb dX1_digest_143 (by decide) ?_
            refine lv_aload_n hx hb dX1_digest_144 rfl (lv_at hl 2 rfl) ?_
            refine m_get (τ := (mTab (mThr τ 0))) (v := .ref (a 6)) hx hb hts hts0 hown hK hPm 8 (by decide) (by decide +kernel) rfl rfl dX1_digest_145 ?_
            refine lv_iload hx hb dX1_digest_148 (lv_at hl 0 rfl) ?_
            refine g_ild hx hb hK hP 6 rfl (v := (mu (mTab (mThr τ 0))) i) (vp_in_nI (by omega) (by decide)) (by rw [nI_clamp (by omega)] <;> rfl) dX1_digest_150 ?_
            refine g_ist hx hb hK hP hD hS 11 rfl (f' := upd (upd (fun _ => 0) 0 0) 1 ((mu (mTab (mThr τ 0))) i)) (i := nI 1) (vp_in_nI (by decide) (by decide)) (g_clu (k := 1) (by decide) rfl) dX1_digest_151 (fun H locs hP hD hS => ?_)
            have hP : gP E (mW E a (mTab (mThr τ 0)) ++ [(q5, gI E 5 (upd (upd (fun _ => 0) 0 0) 1 ((mu (mTab (mThr τ 0))) i)))]) H := hP
            have hD : va_D (va_A (mW E a τ) s.heap.size) (mW E a (mTab (mThr τ 0)) ++ [(q5, gI E 5 (upd (upd (fun _ => 0) 0 0) 1 ((mu (mTab (mThr τ 0))) i)))]) := hD
            have hPm : gP E (mW E a (mTab (mThr τ 0))) H := hP.sub [0, 1, 2, 3, 4, 5, 6, 7, 8, 9, 10] rfl
            refine lv_dup hx hb dX1_digest_152 rfl ?_
            refine lv_iconst (v := 2) hx hb dX1_digest_153 (by decide) ?_
            refine lv_aload_n hx hb dX1_digest_154 rfl (lv_at hl 2 rfl) ?_
            refine m_get (τ := (mTab (mThr τ 0))) (v := .ref (a 7)) hx hb hts hts0 hown hK hPm 9 (by decide) (by decide +kernel) rfl rfl dX1_digest_155 ?_
            refine lv_iload hx hb dX1_digest_158 (lv_at hl 0 rfl) ?_
            refine g_ild hx hb hK hP 7 rfl (v := (mv (mTab (mThr τ 0))) i) (vp_in_nI (by omega) (by decide)) (by rw [nI_clamp (by omega)] <;> rfl) dX1_digest_160 ?_
            refine g_ist hx hb hK hP hD hS 11 rfl (f' := upd (upd (upd (fun _ => 0) 0 0) 1 ((mu (mTab (mThr τ 0))) i)) 2 ((mv (mTab (mThr τ 0))) i)) (i := nI 2) (vp_in_nI (by decide) (by decide)) (g_clu (k := 2) (by decide) rfl) dX1_digest_161 (fun H locs hP hD hS => ?_)
            have hP : gP E (mW E a (mTab (mThr τ 0)) ++ [(q5, gI E 5 (upd (upd (upd (fun _ => 0) 0 0) 1 ((mu (mTab (mThr τ 0))) i)) 2 ((mv (mTab (mThr τ 0))) i)))]) H := hP
            have hD : va_D (va_A (mW E a τ) s.heap.size) (mW E a (mTab (mThr τ 0)) ++ [(q5, gI E 5 (upd (upd (upd (fun _ => 0) 0 0) 1 ((mu (mTab (mThr τ 0))) i)) 2 ((mv (mTab (mThr τ 0))) i)))]) := hD
            have hPm : gP E (mW E a (mTab (mThr τ 0))) H := hP.sub [0, 1, 2, 3, 4, 5, 6, 7, 8, 9, 10] rfl
            refine lv_dup hx hb dX1_digest_162 rfl ?_
            refine lv_iconst (v := 3) hx hb dX1_digest_163 (by decide) ?_
            refine lv_aload_n hx hb dX1_digest_164 rfl (lv_at hl 2 rfl) ?_
            refine lv_iload hx hb dX1_digest_165 (lv_at hl 0 rfl) ?_
            refine m0i (As := [.int (nI i)]) (rest := [.int 3, .ref q5, .ref q5]) S (m_examsOf l E a (mTab (mThr τ 0)) hO i (by omega)) (cwV 1 hts gX1_digest_X1_examsOf rfl rfl rfl hdX1_examsOf ⟨Nat.le_of_ble_eq_true rfl, Nat.le_of_ble_eq_true rfl⟩) hK hPm rfl hl.1 rfl (Nat.le_of_ble_eq_true rfl) ⟨by show 1 + i + 1 ≤ 41; omega, by show 7 + 5 * i + 5 ≤ 207; omega⟩ dX1_digest_167 ?_
            refine g_ist hx hb hK hP hD hS 11 rfl (f' := upd (upd (upd (upd (fun _ => 0) 0 0) 1 ((mu (mTab (mThr τ 0))) i)) 2 ((mv (mTab (mThr τ 0))) i)) 3 (mEf (mTab (mThr τ 0)) i)) (i := nI 3) (vp_in_nI (by decide) (by decide)) (g_clu (k := 3) (by decide) rfl) dX1_digest_170 (fun H locs hP hD hS => ?_)
            have hP : gP E (mW E a (mTab (mThr τ 0)) ++ [(q5, gI E 5 (upd (upd (upd (upd (fun _ => 0) 0 0) 1 ((mu (mTab (mThr τ 0))) i)) 2 ((mv (mTab (mThr τ 0))) i)) 3 (mEf (mTab (mThr τ 0)) i)))]) H := hP
            have hD : va_D (va_A (mW E a τ) s.heap.size) (mW E a (mTab (mThr τ 0)) ++ [(q5, gI E 5 (upd (upd (upd (upd (fun _ => 0) 0 0) 1 ((mu (mTab (mThr τ 0))) i)) 2 ((mv (mTab (mThr τ 0))) i)) 3 (mEf (mTab (mThr τ 0)) i)))]) := hD
            have hPm : gP E (mW E a (mTab (mThr τ 0))) H := hP.sub [0, 1, 2, 3, 4, 5, 6, 7, 8, 9, 10] rfl
            refine lv_dup hx hb dX1_digest_171 rfl ?_
            refine lv_iconst (v := 4) hx hb dX1_digest_172 (by decide) ?_
            refine lv_aload_n hx hb dX1_digest_173 rfl (lv_at hl 2 rfl) ?_
            refine lv_iload hx hb dX1_digest_174 (lv_at hl 0 rfl) ?_
            refine m0i (As := [.int (nI i)]) (rest := [.int 4, .ref q5, .ref q5]) S (m_leads l E a (mTab (mThr τ 0)) hO i (by omega)) (cwV 1 hts gX1_digest_X1_leads rfl rfl rfl hdX1_leads ⟨Nat.le_of_ble_eq_true rfl, Nat.le_of_ble_eq_true rfl⟩) hK hPm rfl hl.1 rfl (Nat.le_of_ble_eq_true rfl) ⟨by show 1 + i + 1 ≤ 41; omega, by show 7 + 5 * i + 5 ≤ 207; omega⟩ dX1_digest_176 ?_
            refine g_ist hx hb hK hP hD hS 11 rfl (f' := upd (upd (upd (upd (upd (fun _ => 0) 0 0) 1 ((mu (mTab (mThr τ 0))) i)) 2 ((mv (mTab (mThr τ 0))) i)) 3 (mEf (mTab (mThr τ 0)) i)) 4 (nI (mLd (mTab (mThr τ 0)) 40 i))) (i := nI 4) (vp_in_nI (by decide) (by decide)) (g_clu (k := 4) (by decide) rfl) dX1_digest_179 (fun H locs hP hD hS => ?_)
            have hP : gP E (mW E a (mTab (mThr τ 0)) ++ [(q5, gI E 5 (upd (upd (upd (upd (upd (fun _ => 0) 0 0) 1 ((mu (mTab (mThr τ 0))) i)) 2 ((mv (mTab (mThr τ 0))) i)) 3 (mEf (mTab (mThr τ 0)) i)) 4 (nI (mLd (mTab (mThr τ 0)) 40 i))))]) H := hP
            have hD : va_D (va_A (mW E a τ) s.heap.size) (mW E a (mTab (mThr τ 0)) ++ [(q5, gI E 5 (upd (upd (upd (upd (upd (fun _ => 0) 0 0) 1 ((mu (mTab (mThr τ 0))) i)) 2 ((mv (mTab (mThr τ 0))) i)) 3 (mEf (mTab (mThr τ 0)) i)) 4 (nI (mLd (mTab (mThr τ 0)) 40 i))))]) := hD
            have hPm : gP E (mW E a (mTab (mThr τ 0))) H := hP.sub [0, 1, 2, 3, 4, 5, 6, 7, 8, 9, 10] rfl
            refine lv_astore (lv' := [(5, .ref q5), (4, .int (nI i)), (2, .long x), (0, .ref (a 0))]) hx hb dX1_digest_180 hl (by decide) rfl (fun ls hl => ?_)
            refine lv_aload hx hb dX1_digest_182 (lv_at hl 0 rfl) ?_
            refine lv_astore (lv' := [(6, .ref q5), (5, .ref q5), (4, .int (nI i)), (2, .long x), (0, .ref (a 0))]) hx hb dX1_digest_184 hl (by decide) rfl (fun ls hl => ?_)
            refine lv_aload hx hb dX1_digest_186 (lv_at hl 0 rfl) ?_
            refine va_alen hx hb hK hP 11 0 rfl rfl (v := nI 5) rfl dX1_digest_188 ?_
            refine lv_istore (lv' := [(7, .int (nI 5)), (6, .ref q5), (5, .ref q5), (4, .int (nI i)), (2, .long x), (0, .ref (a 0))]) hx hb dX1_digest_189 hl (by decide) rfl (fun ls hl => ?_)
            refine lv_iconst (v := 0) hx hb dX1_digest_191 (by decide) ?_
            refine lv_istore (lv' := [(8, .int 0), (7, .int (nI 5)), (6, .ref q5), (5, .ref q5), (4, .int (nI i)), (2, .long x), (0, .ref (a 0))]) hx hb dX1_digest_192 hl (by decide) rfl (fun ls hl => ?_)
            obtain ⟨x0, hx0⟩ : ∃ z : Int64, z = x := ⟨_, rfl⟩
            rw [← hx0] at hl
            have key2 : ∀ (d i2 : Nat) (x : Int64) (ls : Array Slot), i2 + d = 5 → x = hfd (upd (upd (upd (upd (upd (fun _ => 0) 0 0) 1 ((mu (mTab (mThr τ 0))) i)) 2 ((mv (mTab (mThr τ 0))) i)) 3 (mEf (mTab (mThr τ 0)) i)) 4 (nI (mLd (mTab (mThr τ 0)) 40 i))) x0 i2 → lv_has ls 10 [(8, .int (nI i2)), (7, .int (nI 5)), (6, .ref q5), (2, .long x), (4, .int (nI i)), (0, .ref (a 0))] → W p l e (headSpec wsX1_digest { frames := 5, cells := 41, slots := 207, locals := 113 }).room s m [.ref (a 0)].toArray below meth c H locs (1 + i + 1) (7 + 5 * i + 5) (MQ below (gQl E (mDig (mTab (mThr τ 0))) (mW E a τ) (mW E a (mTab (mThr τ 0))) s.heap.size) [.ref (a 0)].toArray s 41 207 (va_A (mW E a τ) s.heap.size)) (F0 m 194 ls []) := by
              intro d
              induction d with
              | zero =>
                intro i2 x ls hi hinv2 hl
                obtain rfl : i2 = 5 := by omega
                refine lv_iload hx hb dX1_digest_194 (lv_at hl 0 rfl) ?_
                refine lv_iload hx hb dX1_digest_196 (lv_at hl 1 rfl) ?_
                refine lv_icmp_ge (tgt := 224) hx hb dX1_digest_198 (by decide) (fun _ => ?_) (fun q => absurd ((nI_le (Nat.le_refl _) (by omega))) q)
                refine lv_aload_n hx hb dX1_digest_224 rfl (lv_at hl 5 rfl) ?_
                refine m_get (τ := (mTab (mThr τ 0))) (v := .ref (a 1)) hx hb hts hts0 hown hK hPm 3 (by decide) (by decide +kernel) rfl rfl dX1_digest_225 ?_
                refine lv_iload hx hb dX1_digest_228 (lv_at hl 4 rfl) ?_
                refine g_zld hx hb hK hP 1 rfl (v := b2i ((mf τ) i)) (vp_in_nI (by omega) (by decide)) (by rw [nI_clamp (by omega)] <;> rfl) dX1_digest_230 ?_
                refine lv_if_eq (tgt := 290) hx hb dX1_digest_231 (by decide) (fun q => absurd q c133) (fun _ => ?_)
                refine lv_lload_n hx hb dX1_digest_234 rfl (lv_at hl 3 rfl) ?_
                refine lv_ldc2 (v := 31) hx hb hown (hts (.constantLong RX1 158 (31)) (by decide +kernel)) dX1_digest_235 ?_
                refine lv_lmul hx hb dX1_digest_238 ?_
                refine lv_aload_n hx hb dX1_digest_239 rfl (lv_at hl 5 rfl) ?_
                refine m_get (τ := (mTab (mThr τ 0))) (v := .ref (a 2)) hx hb hts hts0 hown hK hPm 4 (by decide) (by decide +kernel) rfl rfl dX1_digest_240 ?_
                refine lv_iload hx hb dX1_digest_243 (lv_at hl 4 rfl) ?_
                refine g_ild hx hb hK hP 2 rfl (v := nI ((mo τ) i)) (vp_in_nI (by omega) (by decide)) (by rw [nI_clamp (by omega)] <;> rfl) dX1_digest_245 ?_
                refine lv_i2l hx hb dX1_digest_246 rfl ?_
                refine lv_ladd hx hb dX1_digest_247 ?_
                refine lv_ldc2 (v := 31) hx hb hown (hts (.constantLong RX1 158 (31)) (by decide +kernel)) dX1_digest_248 ?_
                refine lv_lmul hx hb dX1_digest_251 ?_
                refine lv_aload_n hx hb dX1_digest_252 rfl (lv_at hl 5 rfl) ?_
                refine m_get (τ := (mTab (mThr τ 0))) (v := .ref (a 3)) hx hb hts hts0 hown hK hPm 5 (by decide) (by decide +kernel) rfl rfl dX1_digest_253 ?_
                refine lv_iload hx hb dX1_digest_256 (lv_at hl 4 rfl) ?_
                refine g_ild hx hb hK hP 3 rfl (v := nI ((mh τ) i)) (vp_in_nI (by omega) (by decide)) (by rw [nI_clamp (by omega)] <;> rfl) dX1_digest_258 ?_
                refine lv_i2l hx hb dX1_digest_259 rfl ?_
                refine lv_ladd hx hb dX1_digest_260 ?_
                refine lv_ldc2 (v := 31) hx hb hown (hts (.constantLong RX1 158 (31)) (by decide +kernel)) dX1_digest_261 ?_
                refine lv_lmul hx hb dX1_digest_264 ?_
                refine lv_aload_n hx hb dX1_digest_265 rfl (lv_at hl 5 rfl) ?_
                refine m_get (τ := (mTab (mThr τ 0))) (v := .ref (a 4)) hx hb hts hts0 hown hK hPm 6 (by decide) (by decide +kernel) rfl rfl dX1_digest_266 ?_
                refine lv_iload hx hb dX1_digest_269 (lv_at hl 4 rfl) ?_
                refine g_ild hx hb hK hP 4 rfl (v := (md τ) i) (vp_in_nI (by omega) (by decide)) (by rw [nI_clamp (by omega)] <;> rfl) dX1_digest_271 ?_
                refine lv_i2l hx hb dX1_digest_272 rfl ?_
                refine lv_ladd hx hb dX1_digest_273 ?_
                refine lv_ldc2 (v := 31) hx hb hown (hts (.constantLong RX1 158 (31)) (by decide +kernel)) dX1_digest_274 ?_
                refine lv_lmul hx hb dX1_digest_277 ?_
                refine lv_aload_n hx hb dX1_digest_278 rfl (lv_at hl 5 rfl) ?_
                refine lv_iload hx hb dX1_digest_279 (lv_at hl 4 rfl) ?_
                refine m0i (As := [.int (nI i)]) (rest := [.long (((((((x * 31) + ((nI ((mo τ) i)).toInt64)) * 31) + ((nI ((mh τ) i)).toInt64)) * 31) + (((md τ) i).toInt64)) * 31)]) S (m_behind l E a (mTab (mThr τ 0)) hO i (by omega)) (cwV 1 hts gX1_digest_X1_behind rfl rfl rfl hdX1_behind ⟨Nat.le_of_ble_eq_true rfl, Nat.le_of_ble_eq_true rfl⟩) hK hPm rfl hl.1 rfl (Nat.le_of_ble_eq_true rfl) ⟨by show 1 + i + 1 ≤ 41; omega, by show 7 + 5 * i + 5 ≤ 207; omega⟩ dX1_digest_281 ?_
                refine lv_i2l hx hb dX1_digest_284 rfl ?_
                refine lv_ladd hx hb dX1_digest_285 ?_
                refine lv_lstore_n (lv' := [(2, .long ((((((((x * 31) + ((nI ((mo τ) i)).toInt64)) * 31) + ((nI ((mh τ) i)).toInt64)) * 31) + (((md τ) i).toInt64)) * 31) + ((mBh (mTab (mThr τ 0)) i).toInt64))), (8, .int (nI 5)), (7, .int (nI 5)), (6, .ref q5), (4, .int (nI i)), (0, .ref (a 0))]) hx hb dX1_digest_286 rfl hl (by decide) rfl (fun ls hl => ?_)
                refine lv_goto (tgt := 305) hx hb dX1_digest_287 (by decide) ?_
                refine lv_iinc (v := nI (i + 1)) (lv' := [(4, .int (nI (i + 1))), (2, .long ((((((((x * 31) + ((nI ((mo τ) i)).toInt64)) * 31) + ((nI ((mh τ) i)).toInt64)) * 31) + (((md τ) i).toInt64)) * 31) + ((mBh (mTab (mThr τ 0)) i).toInt64))), (8, .int (nI 5)), (7, .int (nI 5)), (6, .ref q5), (0, .ref (a 0))]) hx hb dX1_digest_305 hl (k := 4) rfl (nI_1 i) (by decide) rfl (fun ls hl => ?_)
                refine lv_goto (tgt := 112) hx hb dX1_digest_308 (by decide) ?_
                refine W.cs (cells' := 1 + (i + 1)) (slots' := 7 + 5 * (i + 1)) (by omega) (by omega) ?_
                exact ih (i + 1) _ H locs ls (by omega) (by rw [mDp, ← hinv, ← hx0, mPd, mPd0]; first | (rw [if_pos (show mf (mTab (mThr τ 0)) i = true from b2i_ne0.mp c133), hinv2, show mf (mTab (mThr τ 0)) i = true from b2i_ne0.mp c133]; rfl) | (rw [if_neg (by rw [show mf (mTab (mThr τ 0)) i = false from b2i_eq0.mp c133]; decide), hinv2, show mf (mTab (mThr τ 0)) i = false from b2i_eq0.mp c133]; rfl)) hPm hS (lv_sub hl [0, 1, 5] rfl)
              | succ d ih2 =>
                intro i2 x ls hi hinv2 hl
                refine lv_iload hx hb dX1_digest_194 (lv_at hl 0 rfl) ?_
                refine lv_iload hx hb dX1_digest_196 (lv_at hl 1 rfl) ?_
                refine lv_icmp_ge (tgt := 224) hx hb dX1_digest_198 (by decide) (fun q => absurd q ((nI_ge (by omega) (by omega)))) (fun _ => ?_)
                refine lv_aload hx hb dX1_digest_201 (lv_at hl 2 rfl) ?_
                refine lv_iload hx hb dX1_digest_203 (lv_at hl 0 rfl) ?_
                refine g_ild hx hb hK hP 11 rfl (v := (upd (upd (upd (upd (upd (fun _ => 0) 0 0) 1 ((mu (mTab (mThr τ 0))) i)) 2 ((mv (mTab (mThr τ 0))) i)) 3 (mEf (mTab (mThr τ 0)) i)) 4 (nI (mLd (mTab (mThr τ 0)) 40 i))) i2) (vp_in_nI (by omega) (by decide)) (by rw [nI_clamp (by omega)]) dX1_digest_205 ?_
                refine lv_topi (fun y ey => ?_)
                refine lv_istore (lv' := [(9, .int y), (8, .int (nI i2)), (7, .int (nI 5)), (6, .ref q5), (2, .long x), (4, .int (nI i)), (0, .ref (a 0))]) hx hb dX1_digest_206 hl (by decide) rfl (fun ls hl => ?_)
                refine lv_lload_n hx hb dX1_digest_208 rfl (lv_at hl 4 rfl) ?_
                refine lv_ldc2 (v := 31) hx hb hown (hts (.constantLong RX1 158 (31)) (by decide +kernel)) dX1_digest_209 ?_
                refine lv_lmul hx hb dX1_digest_212 ?_
                refine lv_iload hx hb dX1_digest_213 (lv_at hl 0 rfl) ?_
                refine lv_i2l hx hb dX1_digest_215 rfl ?_
                refine lv_ladd hx hb dX1_digest_216 ?_
                refine lv_lstore_n (lv' := [(2, .long ((x * 31) + y.toInt64)), (9, .int y), (8, .int (nI i2)), (7, .int (nI 5)), (6, .ref q5), (4, .int (nI i)), (0, .ref (a 0))]) hx hb dX1_digest_217 rfl hl (by decide) rfl (fun ls hl => ?_)
                refine lv_iinc (v := nI (i2 + 1)) (lv' := [(8, .int (nI (i2 + 1))), (2, .long ((x * 31) + y.toInt64)), (9, .int y), (7, .int (nI 5)), (6, .ref q5), (4, .int (nI i)), (0, .ref (a 0))]) hx hb dX1_digest_218 hl (k := 2) rfl (nI_1 i2) (by decide) rfl (fun ls hl => ?_)
                refine lv_goto (tgt := 194) hx hb dX1_digest_221 (by decide) ?_
                exact ih2 (i2 + 1) ((x * 31) + y.toInt64) ls (by omega) (by rw [ey, hinv2]; rfl) (lv_sub hl [0, 3, 4, 1, 5, 6] rfl)
            exact key2 5 0 x0 ls (by omega) rfl (lv_sub hl [0, 1, 2, 5, 4, 6] rfl)
      exact key (mn τ) 0 x _ _ ls (by omega) hx0 hP hS (lv_sub hl [0, 3, 4] rfl)
    | succ d ih =>
      intro i x ls hi hinv hl
      refine lv_iload hx hb dX1_digest_79 (lv_at hl 0 rfl) ?_
      refine lv_iload hx hb dX1_digest_81 (lv_at hl 1 rfl) ?_
      refine lv_icmp_ge (tgt := 109) hx hb dX1_digest_83 (by decide) (fun q => absurd q ((nI_ge (by omega) (by omega)))) (fun _ => ?_)
      refine lv_aload hx hb dX1_digest_86 (lv_at hl 2 rfl) ?_
      refine lv_iload hx hb dX1_digest_88 (lv_at hl 0 rfl) ?_
      refine g_ild hx hb hK hP 11 rfl (v := (upd (upd (upd (upd (upd (upd (upd (fun _ => 0) 0 (nI (mn τ))) 1 (mXn (mTab (0, mn τ, mk τ, mf τ, mo τ, mh τ, md τ, mr τ, mu τ, mv τ, ms τ, mp τ, mw τ)))) 2 (mGn (mTab (0, mn τ, mk τ, mf τ, mo τ, mh τ, md τ, mr τ, mu τ, mv τ, ms τ, mp τ, mw τ)))) 3 (nI (mk τ))) 4 (mAt (mTab (0, mn τ, mk τ, mf τ, mo τ, mh τ, md τ, mr τ, mu τ, mv τ, ms τ, mp τ, mw τ)))) 5 ((mRf (mTab (0, mn τ, mk τ, mf τ, mo τ, mh τ, md τ, mr τ, mu τ, mv τ, ms τ, mp τ, mw τ))).1)) 6 (mAll (mTab (0, mn τ, mk τ, mf τ, mo τ, mh τ, md τ, mr τ, mu τ, mv τ, ms τ, mp τ, mw τ)))) i) (vp_in_nI (by omega) (by decide)) (by rw [nI_clamp (by omega)]) dX1_digest_90 ?_
      refine lv_topi (fun y ey => ?_)
      refine lv_istore (lv' := [(7, .int y), (6, .int (nI i)), (5, .int (nI 7)), (4, .ref q7), (2, .long x), (0, .ref (a 0))]) hx hb dX1_digest_91 hl (by decide) rfl (fun ls hl => ?_)
      refine lv_lload_n hx hb dX1_digest_93 rfl (lv_at hl 4 rfl) ?_
      refine lv_ldc2 (v := 31) hx hb hown (hts (.constantLong RX1 158 (31)) (by decide +kernel)) dX1_digest_94 ?_
      refine lv_lmul hx hb dX1_digest_97 ?_
      refine lv_iload hx hb dX1_digest_98 (lv_at hl 0 rfl) ?_
      refine lv_i2l hx hb dX1_digest_100 rfl ?_
      refine lv_ladd hx hb dX1_digest_101 ?_
      refine lv_lstore_n (lv' := [(2, .long ((x * 31) + y.toInt64)), (7, .int y), (6, .int (nI i)), (5, .int (nI 7)), (4, .ref q7), (0, .ref (a 0))]) hx hb dX1_digest_102 rfl hl (by decide) rfl (fun ls hl => ?_)
      refine lv_iinc (v := nI (i + 1)) (lv' := [(6, .int (nI (i + 1))), (2, .long ((x * 31) + y.toInt64)), (7, .int y), (5, .int (nI 7)), (4, .ref q7), (0, .ref (a 0))]) hx hb dX1_digest_103 hl (k := 2) rfl (nI_1 i) (by decide) rfl (fun ls hl => ?_)
      refine lv_goto (tgt := 79) hx hb dX1_digest_106 (by decide) ?_
      exact ih (i + 1) ((x * 31) + y.toInt64) ls (by omega) (by rw [ey, hinv]; rfl) (lv_sub hl [0, 3, 4, 1, 5] rfl)
  exact key 7 0 1039 ls (by omega) rfl (lv_sub hl [0, 1, 2, 3, 5] rfl)
