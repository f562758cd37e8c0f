section LAWL
variable {p : Program} {l : Launch} {e : Env} {s : State} {m : MethodId} {below : List Frame} {meth : Method} {c : Code} {sb L : Nat} {xs : Nat → Int32} {E : GE} {a b : Nat → Nat} {σ : GS} {τ : MS} {qs qh : Nat} {f g : Nat → Int32} {H : Heap} {locs : List Loc} {cells slots : Nat}
variable {x4 x8 x9 : Int32} {dg : Int64} {t i o : Nat} {ls : Array Slot}
set_option maxHeartbeats 4000000 in
set_option maxRecDepth 100000 in
theorem lp_115 (hC : LC p l s m meth c sb L xs E) (h : RR σ τ) (q : RQ τ) (hos : offL a b τ qs) (hoh : offL a b τ qh) (hne : qs ≠ qh) (hAs : LA s qs) (hAh : LA s qh) (hcs : cells ≤ 600000) (hss : slots ≤ 7300000) (kk : ∀ (f g : Nat → Int32) (H : Heap) (locs : List Loc) (ls : Array Slot), (∀ j, j < mn τ → f j = gsu σ j) → (∀ j, j < mn τ → g j = gho σ j) → LG (LA s) E a b σ τ H → va_S (LA s) s.heap H locs → gP E [(qs, gI E (mn τ) f)] H → gP E [(qh, gI E (mn τ) g)] H → lv_has ls 23 [(11, .ref qh), (10, .ref qs), (9, .int (mGn τ)), (8, .int (mXn τ)), (7, .int (nI (mn τ))), (5, .long dg), (4, .int x4), (3, .int (nI t)), (2, .ref (b 0)), (1, .ref (a 0)), (0, .ref sb)] → lW p l e s m below meth c sb H locs cells slots 869 ls []) : ∀ (d i : Nat) (f g : Nat → Int32) (x8 x9 : Int32) (H : Heap) (locs : List Loc) (ls : Array Slot), i + d = mn τ → (∀ j, j < i → f j = gsu σ j) → (∀ j, j < i → g j = gho σ j) → x8 = sumI (fun p => b2i (!mf τ p)) i → x9 = sumI (fun p => b2i (mGd τ p)) i → LG (LA s) E a b σ τ H → va_S (LA s) s.heap H locs → gP E [(qs, gI E (mn τ) f)] H → gP E [(qh, gI E (mn τ) g)] H → lv_has ls 23 [(12, .int (nI i)), (11, .ref qh), (10, .ref qs), (9, .int x9), (8, .int x8), (7, .int (nI (mn τ))), (5, .long dg), (4, .int x4), (3, .int (nI t)), (2, .ref (b 0)), (1, .ref (a 0)), (0, .ref sb)] → lW p l e s m below meth c sb H locs cells slots 115 ls [] := by
  obtain ⟨S, hK, hQ, hZ, hX, hbl, hL, hfl, hr, hlk⟩ := id hC
  obtain ⟨hx, hb, hml, hown, hts⟩ := id S
  have n4 := h.1.1
  have k8 := h.1.2.1
  intro d
  induction d with
  | zero =>
    intro i f g x8 x9 H locs ls hm hf hg h8 h9 hG hS hqs hqh hl
    obtain rfl : i = mn τ := by omega
    obtain rfl : x8 = mXn τ := h8
    obtain rfl : x9 = mGn τ := h9
    refine lv_iload hx hb dL_law_115 (lv_at hl 0 rfl) ?_
    refine lv_iload hx hb dL_law_117 (lv_at hl 5 rfl) ?_
    refine lv_icmp_ge (tgt := 869) hx hb dL_law_119 (by decide) (fun _ => ?_) (fun q => absurd ((nI_le (Nat.le_refl _) (by omega))) q)
    exact kk f g H locs ls hf hg hG hS hqs hqh (lv_sub hl [1, 2, 3, 4, 5, 6, 7, 8, 9, 10, 11] rfl)
  | succ d ih =>
    intro i f g x8 x9 H locs ls hm hf hg h8 h9 hG hS hqs hqh hl
    have hi : i < mn τ := by omega
    refine lv_iload hx hb dL_law_115 (lv_at hl 0 rfl) ?_
    refine lv_iload hx hb dL_law_117 (lv_at hl 5 rfl) ?_
    refine lv_icmp_ge (tgt := 869) hx hb dL_law_119 (by decide) (fun q => absurd q ((nI_ge hi (by omega)))) (fun _ => ?_)
    refine lv_aload hx hb dL_law_122 (lv_at hl 2 rfl) ?_
    refine lv_iload hx hb dL_law_124 (lv_at hl 0 rfl) ?_
    refine lv_aload_n hx hb dL_law_126 rfl (lv_at hl 10 rfl) ?_
    refine lv_iload hx hb dL_law_127 (lv_at hl 0 rfl) ?_
    refine g0i (As := [.int (nI i)]) (rest := [.int (nI i), .ref qs]) S (c_sureGrade l E a σ i (by rw [h.n]; exact n4) (by rw [h.n]; exact hi)) (cwV 1 hts gL_law_X0_sureGrade rfl rfl rfl hdX0_sureGrade ⟨Nat.le_of_ble_eq_true rfl, Nat.le_of_ble_eq_true rfl⟩) hK hG.1 rfl hl.1 rfl (Nat.le_of_ble_eq_true rfl) ⟨by show cells ≤ 600130; omega, by show slots ≤ 7301080; omega⟩ dL_law_129 ?_
    refine s_ist hx hb hK hqs hAs hS (k := i) hi (by omega) rfl dL_law_132 (fun H locs _ oq hqs hS => ?_)
    have hG := hG.off hos oq
    have hqh := gP1 ((gP1' hqh).kept (oq qh hne.symm))
    refine lv_aload hx hb dL_law_133 (lv_at hl 1 rfl) ?_
    refine lv_iload hx hb dL_law_135 (lv_at hl 0 rfl) ?_
    refine lv_aload_n hx hb dL_law_137 rfl (lv_at hl 10 rfl) ?_
    refine lv_iload hx hb dL_law_138 (lv_at hl 0 rfl) ?_
    refine g0i (As := [.int (nI i)]) (rest := [.int (nI i), .ref qh]) S (c_hope l E a σ i (by rw [h.n]; exact n4) (by rw [h.n]; exact hi)) (cwV 1 hts gL_law_X0_hope rfl rfl rfl hdX0_hope ⟨Nat.le_of_ble_eq_true rfl, Nat.le_of_ble_eq_true rfl⟩) hK hG.1 rfl hl.1 rfl (Nat.le_of_ble_eq_true rfl) ⟨by show cells ≤ 600130; omega, by show slots ≤ 7301080; omega⟩ dL_law_140 ?_
    refine s_ist hx hb hK hqh hAh hS (k := i) hi (by omega) rfl dL_law_143 (fun H locs _ oq hqh hS => ?_)
    have hG := hG.off hoh oq
    have hqs := gP1 ((gP1' hqs).kept (oq qs hne))
    have hf1 : ∀ j, j < i + 1 → upd f i (gsu σ i) j = gsu σ j := fun j hj => by
      by_cases c : j = i
      · subst c; exact pk_us
      · exact (pk_un c).trans (hf j (by omega))
    have hg1 : ∀ j, j < i + 1 → upd g i (gho σ i) j = gho σ j := fun j hj => by
      by_cases c : j = i
      · subst c; exact pk_us
      · exact (pk_un c).trans (hg j (by omega))
    refine lp_place ⟨hC, h, q, hG, hS, hqs, hqh, hcs, hss⟩ hi hf1 hg1 (lv_sub hl [0, 1, 2, 3, 4, 5, 6, 7, 8, 9, 10, 11] rfl) (fun y8 y9 ls hl e8 e9 => ?_)
    refine lv_iinc (v := nI (i + 1)) (lv' := [(12, .int (nI (i + 1))), (11, .ref qh), (10, .ref qs), (9, .int y9), (8, .int y8), (7, .int (nI (mn τ))), (5, .long dg), (4, .int x4), (3, .int (nI t)), (2, .ref (b 0)), (1, .ref (a 0)), (0, .ref sb)]) hx hb dL_law_863 hl (k := 0) rfl (nI_1 i) (by decide) rfl (fun ls hl => ?_)
    refine lv_goto (tgt := 115) hx hb dL_law_866 (by decide) ?_
    exact ih (i + 1) _ _ y8 y9 H locs ls (by omega) hf1 hg1 (by rw [e8, h8]; rfl) (by rw [e9, h9]; rfl) hG hS hqs hqh hl
set_option maxHeartbeats 4000000 in
set_option maxRecDepth 100000 in
theorem lp_82 (hC : LC p l s m meth c sb L xs E) (h : RR σ τ) (q : RQ τ) (h1n : 1 ≤ mn τ) (hG : LG (LA s) E a b σ τ H) (hS : va_S (LA s) s.heap H locs) (hcs : cells + 2 ≤ 600000) (hss : slots + 80 ≤ 7300000) (hl : lv_has ls 23 [(4, .int x4), (3, .int (nI t)), (2, .ref (b 0)), (1, .ref (a 0)), (0, .ref sb)]) (kk : ∀ (σ : GS) (τ : MS) (H : Heap) (locs : List Loc) (cl sl : Nat) (ls : Array Slot), RR σ τ → RQ τ → 1 ≤ mn τ → LG (LA s) E a b σ τ H → va_S (LA s) s.heap H locs → cl ≤ cells + 2 → sl ≤ slots + 80 → lv_has ls 23 [(3, .int (nI t)), (2, .ref (b 0)), (1, .ref (a 0)), (0, .ref sb)] → lW p l e s m below meth c sb H locs cl sl 1243 ls []) : lW p l e s m below meth c sb H locs cells slots 82 ls [] := by
  obtain ⟨S, hK, hQ, hZ, hX, hbl, hL, hfl, hr, hlk⟩ := id hC
  obtain ⟨hx, hb, hml, hown, hts⟩ := id S
  have n4 := h.1.1
  have k8 := h.1.2.1
  have hS0 := hS
  refine lv_aload_n hx hb dL_law_82 rfl (lv_at hl 3 rfl) ?_
  refine g0l (As := []) (rest := []) S (c_digest l E a σ h.gok) (cwV 0 hts gL_law_X0_digest rfl rfl rfl hdX0_digest ⟨Nat.le_of_ble_eq_true rfl, Nat.le_of_ble_eq_true rfl⟩) hK hG.1 rfl hl.1 rfl (Nat.le_of_ble_eq_true rfl) ⟨by show cells ≤ 600130; omega, by show slots ≤ 7301080; omega⟩ dL_law_83 ?_
  refine lv_lstore (lv' := [(5, .long (gDig σ)), (4, .int x4), (3, .int (nI t)), (2, .ref (b 0)), (1, .ref (a 0)), (0, .ref sb)]) hx hb dL_law_86 hl (by decide) rfl (fun ls hl => ?_)
  refine lv_aload_n hx hb dL_law_88 rfl (lv_at hl 4 rfl) ?_
  refine g0i (As := []) (rest := []) S (c_places l E a σ ) (cwV 0 hts gL_law_X0_places rfl rfl rfl hdX0_places ⟨Nat.le_of_ble_eq_true rfl, Nat.le_of_ble_eq_true rfl⟩) hK hG.1 rfl hl.1 rfl (Nat.le_of_ble_eq_true rfl) ⟨by show cells ≤ 600130; omega, by show slots ≤ 7301080; omega⟩ dL_law_89 ?_
  rw [h.n]
  refine lv_istore (lv' := [(7, .int (nI (mn τ))), (5, .long (gDig σ)), (4, .int x4), (3, .int (nI t)), (2, .ref (b 0)), (1, .ref (a 0)), (0, .ref sb)]) hx hb dL_law_92 hl (by decide) rfl (fun ls hl => ?_)
  refine lv_iconst (v := 0) hx hb dL_law_94 (by decide) ?_
  refine lv_istore (lv' := [(8, .int 0), (7, .int (nI (mn τ))), (5, .long (gDig σ)), (4, .int x4), (3, .int (nI t)), (2, .ref (b 0)), (1, .ref (a 0)), (0, .ref sb)]) hx hb dL_law_95 hl (by decide) rfl (fun ls hl => ?_)
  refine lv_iconst (v := 0) hx hb dL_law_97 (by decide) ?_
  refine lv_istore (lv' := [(9, .int 0), (8, .int 0), (7, .int (nI (mn τ))), (5, .long (gDig σ)), (4, .int x4), (3, .int (nI t)), (2, .ref (b 0)), (1, .ref (a 0)), (0, .ref sb)]) hx hb dL_law_98 hl (by decide) rfl (fun ls hl => ?_)
  refine lv_iload hx hb dL_law_100 (lv_at hl 2 rfl) ?_
  refine s_newI hx hb (hts (.arrayClass .int) (by decide +kernel)) hK hS (N := mn τ) (by omega) (by show cells + 1 ≤ 600130; omega) (by show slots + mn τ ≤ 7301080; omega) dL_law_102 (fun qs H hqsz hz oq hqs hS => ?_)
  have hos := hG.offL (q := qs) (by omega)
  have hAs : LA s qs := by show s.heap.size ≤ qs; have := hS0.1; omega
  have hG := hG.up oq
  refine lv_astore (lv' := [(10, .ref qs), (9, .int 0), (8, .int 0), (7, .int (nI (mn τ))), (5, .long (gDig σ)), (4, .int x4), (3, .int (nI t)), (2, .ref (b 0)), (1, .ref (a 0)), (0, .ref sb)]) hx hb dL_law_104 hl (by decide) rfl (fun ls hl => ?_)
  refine lv_iload hx hb dL_law_106 (lv_at hl 3 rfl) ?_
  refine s_newI hx hb (hts (.arrayClass .int) (by decide +kernel)) hK hS (N := mn τ) (by omega) (by show cells + 1 + 1 ≤ 600130; omega) (by show slots + mn τ + mn τ ≤ 7301080; omega) dL_law_108 (fun qh H hqhz hz oq hqh hS => ?_)
  have hoh := hG.offL (q := qh) (by omega)
  have hAh : LA s qh := by show s.heap.size ≤ qh; have := hS0.1; omega
  have hG := hG.up oq
  have hqs := hqs.up oq
  have hne : qs ≠ qh := by omega
  refine lv_astore (lv' := [(11, .ref qh), (10, .ref qs), (9, .int 0), (8, .int 0), (7, .int (nI (mn τ))), (5, .long (gDig σ)), (4, .int x4), (3, .int (nI t)), (2, .ref (b 0)), (1, .ref (a 0)), (0, .ref sb)]) hx hb dL_law_110 hl (by decide) rfl (fun ls hl => ?_)
  refine lv_iconst (v := 0) hx hb dL_law_112 (by decide) ?_
  refine lv_istore (lv' := [(12, .int 0), (11, .ref qh), (10, .ref qs), (9, .int 0), (8, .int 0), (7, .int (nI (mn τ))), (5, .long (gDig σ)), (4, .int x4), (3, .int (nI t)), (2, .ref (b 0)), (1, .ref (a 0)), (0, .ref sb)]) hx hb dL_law_113 hl (by decide) rfl (fun ls hl => ?_)
  refine lp_115 hC h q hos hoh hne hAs hAh (by omega) (by omega) (fun f g H locs ls hfs hgs hG hS hqs hqh hl => ?_) (mn τ) 0 _ _ 0 0 H _ ls (by omega) (fun j hj => absurd hj (Nat.not_lt_zero _)) (fun j hj => absurd hj (Nat.not_lt_zero _)) rfl rfl hG hS hqs hqh (lv_sub hl [0, 1, 2, 3, 4, 5, 6, 7, 8, 9, 10, 11] rfl)
  have hL2 : LPl p l s m meth c sb L xs E a b σ τ qs qh f g H locs (cells + 1 + 1) (slots + mn τ + mn τ) := ⟨hC, h, q, hG, hS, hqs, hqh, by omega, by omega⟩
  refine lv_iconst (v := 0) hx hb dL_law_869 (by decide) ?_
  refine lv_istore (lv' := [(12, .int 0), (11, .ref qh), (10, .ref qs), (9, .int (mGn τ)), (8, .int (mXn τ)), (7, .int (nI (mn τ))), (5, .long (gDig σ)), (4, .int x4), (3, .int (nI t)), (2, .ref (b 0)), (1, .ref (a 0)), (0, .ref sb)]) hx hb dL_law_870 hl (by decide) rfl (fun ls hl => ?_)
  refine lv_iconst (v := nI 0) hx hb dL_law_872 (by decide) ?_
  refine lv_istore (lv' := [(13, .int (nI 0)), (12, .int 0), (11, .ref qh), (10, .ref qs), (9, .int (mGn τ)), (8, .int (mXn τ)), (7, .int (nI (mn τ))), (5, .long (gDig σ)), (4, .int x4), (3, .int (nI t)), (2, .ref (b 0)), (1, .ref (a 0)), (0, .ref sb)]) hx hb dL_law_873 hl (by decide) rfl (fun ls hl => ?_)
  refine ls_loop hL2 (fun ls hl => ?_) (mk τ) 0 0 ls (by omega) rfl hl
  refine lp_1031 hL2 hl (fun ls hl => ?_)
  exact lp_1070 hL2 hfs hgs h1n hos hoh hl (fun σ τ H locs ls h q h1n hG hS hl => kk σ τ H locs _ _ ls h q h1n hG hS (by omega) (by omega) hl)
set_option maxHeartbeats 4000000 in
set_option maxRecDepth 100000 in
theorem lp_47 (hC : LC p l s m meth c sb L xs E) {C0 S0 : Nat} (hC0 : C0 ≤ 600000) (hS0 : S0 ≤ 7300000) (kk : ∀ (σ : GS) (τ : MS) (b : Nat → Nat) (H : Heap) (locs : List Loc) (cl sl : Nat) (ls : Array Slot), RR σ τ → RQ τ → 1 ≤ mn τ → LG (LA s) E a b σ τ H → va_S (LA s) s.heap H locs → cl ≤ C0 → sl ≤ S0 → lv_has ls 23 [(4, .int x4), (3, .int (nI t)), (2, .ref (b 0)), (1, .ref (a 0)), (0, .ref sb)] → lW p l e s m below meth c sb H locs cl sl 82 ls []) : ∀ (d k : Nat) (σ : GS) (τ : MS) (b : Nat → Nat) (H : Heap) (locs : List Loc) (cells slots : Nat) (ls : Array Slot), k + d = 4 → RR σ τ → RQ τ → 1 ≤ mn τ → LG (LA s) E a b σ τ H → va_S (LA s) s.heap H locs → cells + 210 * d ≤ C0 → slots + 8300 * d ≤ S0 → lv_has ls 23 [(5, .int (nI k)), (4, .int x4), (3, .int (nI t)), (2, .ref (b 0)), (1, .ref (a 0)), (0, .ref sb)] → lW p l e s m below meth c sb H locs cells slots 47 ls [] := by
  obtain ⟨S, hK, hQ, hZ, hX, hbl, hL, hfl, hr, hlk⟩ := id hC
  obtain ⟨hx, hb, hml, hown, hts⟩ := id S
  intro d
  induction d with
  | zero =>
    intro k σ τ b H locs cells slots ls hm h q h1n hG hS hcs hss hl
    obtain rfl : k = 4 := by omega
    refine lv_iload hx hb dL_law_47 (lv_at hl 0 rfl) ?_
    refine lv_iconst (v := 4) hx hb dL_law_49 (by decide) ?_
    refine lv_icmp_ge (tgt := 82) hx hb dL_law_50 (by decide) (fun _ => ?_) (fun q => absurd ((by decide)) q)
    exact kk σ τ b H locs cells slots ls h q h1n hG hS (by omega) (by omega) (lv_sub hl [1, 2, 3, 4, 5] rfl)
  | succ d ih =>
    intro k σ τ b H locs cells slots ls hm h q h1n hG hS hcs hss hl
    refine lv_iload hx hb dL_law_47 (lv_at hl 0 rfl) ?_
    refine lv_iconst (v := 4) hx hb dL_law_49 (by decide) ?_
    refine lv_icmp_ge (tgt := 82) hx hb dL_law_50 (by decide) (fun q => absurd q ((nI_ge (a := k) (b := 4) (by omega) (by decide)))) (fun _ => ?_)
    refine lv_aload_n hx hb dL_law_53 rfl (lv_at hl 4 rfl) ?_
    refine lv_aload_n hx hb dL_law_54 rfl (lv_at hl 3 rfl) ?_
    refine lv_iload hx hb dL_law_55 (lv_at hl 1 rfl) ?_
    refine lv_iconst (v := 3) hx hb dL_law_57 (by decide) ?_
    refine lv_iload hx hb dL_law_58 (lv_at hl 0 rfl) ?_
    refine lv_imul hx hb dL_law_60 ?_
    refine lv_ishr hx hb dL_law_61 ?_
    refine lv_bipush (v := nI 29) hx hb dL_law_62 (by decide) ?_
    refine lv_iload hx hb dL_law_64 (lv_at hl 0 rfl) ?_
    refine lv_imul hx hb dL_law_66 ?_
    rw [pk_mul 29 k]
    refine lv_iadd hx hb dL_law_67 ?_
    refine l_act S hfl h q (vx_cwSW 3 hts gL_law_L_act rfl rfl rfl hdL_act ⟨Nat.le_of_ble_eq_true rfl, Nat.le_of_ble_eq_true rfl⟩) hK hQ (hZ.kept hS.2.1).h hG hS LA_sz hl.1 (Nat.le_of_ble_eq_true rfl) ⟨by show cells + 210 ≤ 600130; omega, by show slots + 8300 ≤ 7301080; omega⟩ dL_law_68 (fun σ' τ' b' H locs h q h1n hb' hG hS => ?_)
    rw [← hb'] at hl
    refine lv_if_ne (tgt := 76) hx hb dL_law_71 (by decide) (fun _ => ?_) (fun q => absurd q ((by decide)))
    refine lv_iinc (v := nI (k + 1)) (lv' := [(5, .int (nI (k + 1))), (4, .int x4), (3, .int (nI t)), (2, .ref (b' 0)), (1, .ref (a 0)), (0, .ref sb)]) hx hb dL_law_76 hl (k := 0) rfl (nI_1 k) (by decide) rfl (fun ls hl => ?_)
    refine lv_goto (tgt := 47) hx hb dL_law_79 (by decide) ?_
    exact ih (k + 1) σ' τ' b' H locs _ _ ls (by omega) h q h1n hG hS (by omega) (by omega) (lv_sub hl [0, 1, 2, 3, 4, 5] rfl)
set_option maxHeartbeats 4000000 in
set_option maxRecDepth 100000 in
theorem lp_22 (hC : LC p l s m meth c sb L xs E) : ∀ (d t : Nat) (σ : GS) (τ : MS) (b : Nat → Nat) (H : Heap) (locs : List Loc) (cells slots : Nat) (ls : Array Slot), t + d = 8 → RR σ τ → RQ τ → 1 ≤ mn τ → LG (LA s) E a b σ τ H → va_S (LA s) s.heap H locs → cells + 842 * d ≤ 20000 → slots + 33280 * d ≤ 800000 → lv_has ls 23 [(3, .int (nI t)), (2, .ref (b 0)), (1, .ref (a 0)), (0, .ref sb)] → lW p l e s m below meth c sb H locs cells slots 22 ls [] := by
  obtain ⟨S, hK, hQ, hZ, hX, hbl, hL, hfl, hr, hlk⟩ := id hC
  obtain ⟨hx, hb, hml, hown, hts⟩ := id S
  intro d
  induction d with
  | zero =>
    intro t σ τ b H locs cells slots ls hm h q h1n hG hS hcs hss hl
    obtain rfl : t = 8 := by omega
    refine lv_iload_n hx hb dL_law_22 rfl (lv_at hl 0 rfl) ?_
    refine lv_bipush (v := nI 8) hx hb dL_law_23 (by decide) ?_
    refine lv_icmp_ge (tgt := 1249) hx hb dL_law_25 (by decide) (fun _ => ?_) (fun q => absurd ((by decide)) q)
    refine lv_aload_n hx hb dL_law_1249 rfl (lv_at hl 1 rfl) ?_
    refine lv_aload_n hx hb dL_law_1250 rfl (lv_at hl 2 rfl) ?_
    refine l_same S h q (cwV 1 hts gL_law_X1_isSame rfl rfl rfl hdX1_isSame ⟨Nat.le_of_ble_eq_true rfl, Nat.le_of_ble_eq_true rfl⟩) hK hG hS hl.1 (Nat.le_of_ble_eq_true rfl) ⟨by show cells + 7100 ≤ 600130; omega, by show slots + 290000 ≤ 7301080; omega⟩ dL_law_1251 (fun H locs hS => ?_)
    refine va_forget (fun q hq => hS.2.2 q hq) ?_
    refine W.widen (k := 600130) (n := 7301080) (by omega) (by omega) ?_
    exact lw_ret (Drawn.sameBut.refl s.drawn lw_cs) hx hb hr hlk dL_law_1254
  | succ d ih =>
    intro t σ τ b H locs cells slots ls hm h q h1n hG hS hcs hss hl
    refine lv_iload_n hx hb dL_law_22 rfl (lv_at hl 0 rfl) ?_
    refine lv_bipush (v := nI 8) hx hb dL_law_23 (by decide) ?_
    refine lv_icmp_ge (tgt := 1249) hx hb dL_law_25 (by decide) (fun q => absurd q ((nI_ge (a := t) (b := 8) (by omega) (by decide)))) (fun _ => ?_)
    refine lv_aload_n hx hb dL_law_28 rfl (lv_at hl 3 rfl) ?_
    refine lv_iload_n hx hb dL_law_29 rfl (lv_at hl 0 rfl) ?_
    refine lv_iconst (v := 1) hx hb dL_law_30 (by decide) ?_
    refine lv_iadd hx hb dL_law_31 ?_
    rw [nI_1 t]
    refine l_cell hL (by omega) S (va_cwS 2 hts gL_law_L_cell rfl rfl rfl hdL_cell ⟨Nat.le_of_ble_eq_true rfl, Nat.le_of_ble_eq_true rfl⟩) (hX.kept (hS.2.1 sb hbl (Nat.not_le.mpr hbl))) hl.1 (Nat.le_of_ble_eq_true rfl) ⟨by show cells ≤ 600130; omega, by show slots ≤ 7301080; omega⟩ dL_law_32 (fun r32 => ?_)
    refine lv_iconst (v := 2) hx hb dL_law_35 (by decide) ?_
    refine lv_ishr hx hb dL_law_36 ?_
    refine lv_bipush (v := nI 53) hx hb dL_law_37 (by decide) ?_
    refine lv_iload_n hx hb dL_law_39 rfl (lv_at hl 0 rfl) ?_
    refine lv_imul hx hb dL_law_40 ?_
    rw [pk_mul 53 t]
    refine lv_iadd hx hb dL_law_41 ?_
    refine lv_topi (fun x4 ex4 => ?_)
    refine lv_istore (lv' := [(4, .int x4), (3, .int (nI t)), (2, .ref (b 0)), (1, .ref (a 0)), (0, .ref sb)]) hx hb dL_law_42 hl (by decide) rfl (fun ls hl => ?_)
    refine lv_iconst (v := 0) hx hb dL_law_44 (by decide) ?_
    refine lv_istore (lv' := [(5, .int 0), (4, .int x4), (3, .int (nI t)), (2, .ref (b 0)), (1, .ref (a 0)), (0, .ref sb)]) hx hb dL_law_45 hl (by decide) rfl (fun ls hl => ?_)
    refine lp_47 hC (C0 := cells + 840) (S0 := slots + 33200) (by omega) (by omega) (fun σ τ b H locs cl sl ls h q h1n hG hS hc1 hs1 hl => ?_) 4 0 σ τ b H locs cells slots ls (by omega) h q h1n hG hS (by omega) (by omega) (lv_sub hl [0, 1, 2, 3, 4, 5] rfl)
    refine lp_82 hC h q h1n hG hS (by omega) (by omega) hl (fun σ τ H locs cl2 sl2 ls h q h1n hG hS hc2 hs2 hl => ?_)
    refine lv_iinc (v := nI (t + 1)) (lv' := [(3, .int (nI (t + 1))), (2, .ref (b 0)), (1, .ref (a 0)), (0, .ref sb)]) hx hb dL_law_1243 hl (k := 0) rfl (nI_1 t) (by decide) rfl (fun ls hl => ?_)
    refine lv_goto (tgt := 22) hx hb dL_law_1246 (by decide) ?_
    exact ih (t + 1) σ τ b H locs cl2 sl2 ls (by omega) h q h1n hG hS (by omega) (by omega) hl
end LAWL
