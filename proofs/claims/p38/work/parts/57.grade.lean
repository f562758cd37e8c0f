theorem lg_self (x : Int64) : lg_cmp x x = 0 := (lg_cmp_eq x x).mpr rfl
section LAWT
variable {p : Program} {l : Launch} {e : Env} {s : State} {m : MethodId} {below : List Frame} {meth : Method} {c : Code} {sb L : Nat} {xs : Nat → Int32} {E : GE} {a b : Nat → Nat} {σ : GS} {τ : MS} {qs qh : Nat} {f g : Nat → Int32} {H : Heap} {locs : List Loc} {cells slots : Nat}
variable {x4 x8 x9 : Int32} {dg : Int64} {t k o : Nat} {x12 : Int32} {ls : Array Slot}
set_option maxHeartbeats 4000000 in
set_option maxRecDepth 100000 in
theorem ls_f (hC : LPl p l s m meth c sb L xs E a b σ τ qs qh f g H locs cells slots) (hkk : k < mk τ) (hff : mf τ (ms τ k) = true) (hl : lv_has ls 23 [(13, .int (nI k)), (12, .int x12), (11, .ref qh), (10, .ref qs), (9, .int x9), (8, .int x8), (7, .int (nI (mn τ))), (5, .long dg), (4, .int x4), (3, .int (nI t)), (2, .ref (b 0)), (1, .ref (a 0)), (0, .ref sb)]) (kk : ∀ (y12 : Int32) (ls : Array Slot), lv_has ls 23 [(13, .int (nI (k + 1))), (12, .int y12), (11, .ref qh), (10, .ref qs), (9, .int x9), (8, .int x8), (7, .int (nI (mn τ))), (5, .long dg), (4, .int x4), (3, .int (nI t)), (2, .ref (b 0)), (1, .ref (a 0)), (0, .ref sb)] → y12 = x12 + 0 → lW p l e s m below meth c sb H locs cells slots 875 ls []) : lW p l e s m below meth c sb H locs cells slots 875 ls [] := by
  obtain ⟨⟨S, hK, hQ, hZ, hX, hbl, hL, hfl, hr, hlk⟩, h, q, hG, hS, hqs, hqh, hcs, hss⟩ := id hC
  obtain ⟨hx, hb, hml, hown, hts⟩ := id S
  have hts1 := inlX1
  have n4 := h.1.1
  have k8 := h.1.2.1
  have hms := h.mok.2.2.2.2.2.2.2.2 k hkk
  have t7 := h.mok.2.2.2.2.2.2.1 k
  refine lv_iload hx hb dL_law_875 (lv_at hl 0 rfl) ?_
  refine lv_aload_n hx hb dL_law_877 rfl (lv_at hl 11 rfl) ?_
  refine g0i (As := []) (rest := [.int (nI k)]) S (c_students l E a σ ) (cwV 0 hts gL_law_X0_students rfl rfl rfl hdX0_students ⟨Nat.le_of_ble_eq_true rfl, Nat.le_of_ble_eq_true rfl⟩) hK hG.1 rfl hl.1 rfl (Nat.le_of_ble_eq_true rfl) ⟨by show cells ≤ 600130; omega, by show slots ≤ 7301080; omega⟩ dL_law_878 ?_
  rw [h.k]
  refine lv_icmp_ge (tgt := 1031) hx hb dL_law_881 (by decide) (fun q => absurd q ((nI_ge hkk (by omega)))) (fun _ => ?_)
  refine lv_aload_n hx hb dL_law_884 rfl (lv_at hl 11 rfl) ?_
  refine lv_iload hx hb dL_law_885 (lv_at hl 0 rfl) ?_
  refine g0i (As := [.int (nI k)]) (rest := []) S (c_placeOf l E a σ k (by rw [h.k]; exact k8) (by rw [h.k]; exact hkk)) (cwV 1 hts gL_law_X0_placeOf rfl rfl rfl hdX0_placeOf ⟨Nat.le_of_ble_eq_true rfl, Nat.le_of_ble_eq_true rfl⟩) hK hG.1 rfl hl.1 rfl (Nat.le_of_ble_eq_true rfl) ⟨by show cells ≤ 600130; omega, by show slots ≤ 7301080; omega⟩ dL_law_887 ?_
  rw [h.st]
  refine lv_istore (lv' := [(14, .int (nI (ms τ k))), (13, .int (nI k)), (12, .int x12), (11, .ref qh), (10, .ref qs), (9, .int x9), (8, .int x8), (7, .int (nI (mn τ))), (5, .long dg), (4, .int x4), (3, .int (nI t)), (2, .ref (b 0)), (1, .ref (a 0)), (0, .ref sb)]) hx hb dL_law_890 hl (by decide) rfl (fun ls hl => ?_)
  refine lv_aload_n hx hb dL_law_892 rfl (lv_at hl 12 rfl) ?_
  refine lv_iload hx hb dL_law_893 (lv_at hl 0 rfl) ?_
  refine g0i (As := [.int (nI (ms τ k))]) (rest := []) S (c_isExam l E a σ (ms τ k) (by rw [h.n]; exact n4) (by rw [h.n]; exact hms)) (cwV 1 hts gL_law_X0_isExam rfl rfl rfl hdX0_isExam ⟨Nat.le_of_ble_eq_true rfl, Nat.le_of_ble_eq_true rfl⟩) hK hG.1 rfl hl.1 rfl (Nat.le_of_ble_eq_true rfl) ⟨by show cells ≤ 600130; omega, by show slots ≤ 7301080; omega⟩ dL_law_895 ?_
  rw [h.ex (p := ms τ k) hms]
  refine lv_if_eq (tgt := 1025) hx hb dL_law_898 (by decide) (fun _ => ?_) (fun q => absurd ((by rw [hff]; rfl)) q)
  refine lv_iinc (v := nI (k + 1)) (lv' := [(13, .int (nI (k + 1))), (14, .int (nI (ms τ k))), (12, .int x12), (11, .ref qh), (10, .ref qs), (9, .int x9), (8, .int x8), (7, .int (nI (mn τ))), (5, .long dg), (4, .int x4), (3, .int (nI t)), (2, .ref (b 0)), (1, .ref (a 0)), (0, .ref sb)]) hx hb dL_law_1025 hl (k := 1) rfl (nI_1 k) (by decide) rfl (fun ls hl => ?_)
  refine lv_goto (tgt := 875) hx hb dL_law_1028 (by decide) ?_
  exact kk _ ls (lv_sub hl [0, 2, 3, 4, 5, 6, 7, 8, 9, 10, 11, 12, 13] rfl) (Int32.add_zero _).symm
set_option maxHeartbeats 4000000 in
set_option maxRecDepth 100000 in
theorem ls_u (hC : LPl p l s m meth c sb L xs E a b σ τ qs qh f g H locs cells slots) (hkk : k < mk τ) (he : mf τ (ms τ k) = false) (hgd : mGd τ (ms τ k) = false) (hl : lv_has ls 23 [(13, .int (nI k)), (12, .int x12), (11, .ref qh), (10, .ref qs), (9, .int x9), (8, .int x8), (7, .int (nI (mn τ))), (5, .long dg), (4, .int x4), (3, .int (nI t)), (2, .ref (b 0)), (1, .ref (a 0)), (0, .ref sb)]) (kk : ∀ (y12 : Int32) (ls : Array Slot), lv_has ls 23 [(13, .int (nI (k + 1))), (12, .int y12), (11, .ref qh), (10, .ref qs), (9, .int x9), (8, .int x8), (7, .int (nI (mn τ))), (5, .long dg), (4, .int x4), (3, .int (nI t)), (2, .ref (b 0)), (1, .ref (a 0)), (0, .ref sb)] → y12 = x12 + 0 → lW p l e s m below meth c sb H locs cells slots 875 ls []) : lW p l e s m below meth c sb H locs cells slots 875 ls [] := by
  obtain ⟨⟨S, hK, hQ, hZ, hX, hbl, hL, hfl, hr, hlk⟩, h, q, hG, hS, hqs, hqh, hcs, hss⟩ := id hC
  obtain ⟨hx, hb, hml, hown, hts⟩ := id S
  have hts1 := inlX1
  have n4 := h.1.1
  have k8 := h.1.2.1
  have hms := h.mok.2.2.2.2.2.2.2.2 k hkk
  have t7 := h.mok.2.2.2.2.2.2.1 k
  refine lv_iload hx hb dL_law_875 (lv_at hl 0 rfl) ?_
  refine lv_aload_n hx hb dL_law_877 rfl (lv_at hl 11 rfl) ?_
  refine g0i (As := []) (rest := [.int (nI k)]) S (c_students l E a σ ) (cwV 0 hts gL_law_X0_students rfl rfl rfl hdX0_students ⟨Nat.le_of_ble_eq_true rfl, Nat.le_of_ble_eq_true rfl⟩) hK hG.1 rfl hl.1 rfl (Nat.le_of_ble_eq_true rfl) ⟨by show cells ≤ 600130; omega, by show slots ≤ 7301080; omega⟩ dL_law_878 ?_
  rw [h.k]
  refine lv_icmp_ge (tgt := 1031) hx hb dL_law_881 (by decide) (fun q => absurd q ((nI_ge hkk (by omega)))) (fun _ => ?_)
  refine lv_aload_n hx hb dL_law_884 rfl (lv_at hl 11 rfl) ?_
  refine lv_iload hx hb dL_law_885 (lv_at hl 0 rfl) ?_
  refine g0i (As := [.int (nI k)]) (rest := []) S (c_placeOf l E a σ k (by rw [h.k]; exact k8) (by rw [h.k]; exact hkk)) (cwV 1 hts gL_law_X0_placeOf rfl rfl rfl hdX0_placeOf ⟨Nat.le_of_ble_eq_true rfl, Nat.le_of_ble_eq_true rfl⟩) hK hG.1 rfl hl.1 rfl (Nat.le_of_ble_eq_true rfl) ⟨by show cells ≤ 600130; omega, by show slots ≤ 7301080; omega⟩ dL_law_887 ?_
  rw [h.st]
  refine lv_istore (lv' := [(14, .int (nI (ms τ k))), (13, .int (nI k)), (12, .int x12), (11, .ref qh), (10, .ref qs), (9, .int x9), (8, .int x8), (7, .int (nI (mn τ))), (5, .long dg), (4, .int x4), (3, .int (nI t)), (2, .ref (b 0)), (1, .ref (a 0)), (0, .ref sb)]) hx hb dL_law_890 hl (by decide) rfl (fun ls hl => ?_)
  refine lv_aload_n hx hb dL_law_892 rfl (lv_at hl 12 rfl) ?_
  refine lv_iload hx hb dL_law_893 (lv_at hl 0 rfl) ?_
  refine g0i (As := [.int (nI (ms τ k))]) (rest := []) S (c_isExam l E a σ (ms τ k) (by rw [h.n]; exact n4) (by rw [h.n]; exact hms)) (cwV 1 hts gL_law_X0_isExam rfl rfl rfl hdX0_isExam ⟨Nat.le_of_ble_eq_true rfl, Nat.le_of_ble_eq_true rfl⟩) hK hG.1 rfl hl.1 rfl (Nat.le_of_ble_eq_true rfl) ⟨by show cells ≤ 600130; omega, by show slots ≤ 7301080; omega⟩ dL_law_895 ?_
  rw [h.ex (p := ms τ k) hms]
  refine lv_if_eq (tgt := 1025) hx hb dL_law_898 (by decide) (fun q => absurd q ((by rw [he]; decide))) (fun _ => ?_)
  refine lv_aload_n hx hb dL_law_901 rfl (lv_at hl 12 rfl) ?_
  refine lv_iload hx hb dL_law_902 (lv_at hl 0 rfl) ?_
  refine g0i (As := [.int (nI (ms τ k))]) (rest := []) S (c_isGraded l E a σ (ms τ k) (by rw [h.n]; exact n4) (by rw [h.n]; exact hms) (by rw [h.ex hms, he]; rfl)) (cwV 1 hts gL_law_X0_isGraded rfl rfl rfl hdX0_isGraded ⟨Nat.le_of_ble_eq_true rfl, Nat.le_of_ble_eq_true rfl⟩) hK hG.1 rfl hl.1 rfl (Nat.le_of_ble_eq_true rfl) ⟨by show cells ≤ 600130; omega, by show slots ≤ 7301080; omega⟩ dL_law_904 ?_
  rw [h.has (p := ms τ k) hms]
  refine lv_if_ne (tgt := 913) hx hb dL_law_907 (by decide) (fun q => absurd ((by rw [hgd]; rfl)) q) (fun _ => ?_)
  refine lv_goto (tgt := 1025) hx hb dL_law_910 (by decide) ?_
  refine lv_iinc (v := nI (k + 1)) (lv' := [(13, .int (nI (k + 1))), (14, .int (nI (ms τ k))), (12, .int x12), (11, .ref qh), (10, .ref qs), (9, .int x9), (8, .int x8), (7, .int (nI (mn τ))), (5, .long dg), (4, .int x4), (3, .int (nI t)), (2, .ref (b 0)), (1, .ref (a 0)), (0, .ref sb)]) hx hb dL_law_1025 hl (k := 1) rfl (nI_1 k) (by decide) rfl (fun ls hl => ?_)
  refine lv_goto (tgt := 875) hx hb dL_law_1028 (by decide) ?_
  exact kk _ ls (lv_sub hl [0, 2, 3, 4, 5, 6, 7, 8, 9, 10, 11, 12, 13] rfl) (Int32.add_zero _).symm
set_option maxHeartbeats 4000000 in
set_option maxRecDepth 100000 in
theorem ls_a (hC : LPl p l s m meth c sb L xs E a b σ τ qs qh f g H locs cells slots) (hkk : k < mk τ) (he : mf τ (ms τ k) = false) (hgd : mGd τ (ms τ k) = true) (eW : (gWf σ k).1 = -1) (eR : gRegs σ k = 0) (hl : lv_has ls 23 [(13, .int (nI k)), (12, .int x12), (11, .ref qh), (10, .ref qs), (9, .int x9), (8, .int x8), (7, .int (nI (mn τ))), (5, .long dg), (4, .int x4), (3, .int (nI t)), (2, .ref (b 0)), (1, .ref (a 0)), (0, .ref sb)]) (kk : ∀ (y12 : Int32) (ls : Array Slot), lv_has ls 23 [(13, .int (nI (k + 1))), (12, .int y12), (11, .ref qh), (10, .ref qs), (9, .int x9), (8, .int x8), (7, .int (nI (mn τ))), (5, .long dg), (4, .int x4), (3, .int (nI t)), (2, .ref (b 0)), (1, .ref (a 0)), (0, .ref sb)] → y12 = x12 + 0 → lW p l e s m below meth c sb H locs cells slots 875 ls []) : lW p l e s m below meth c sb H locs cells slots 875 ls [] := by
  obtain ⟨⟨S, hK, hQ, hZ, hX, hbl, hL, hfl, hr, hlk⟩, h, q, hG, hS, hqs, hqh, hcs, hss⟩ := id hC
  obtain ⟨hx, hb, hml, hown, hts⟩ := id S
  have hts1 := inlX1
  have n4 := h.1.1
  have k8 := h.1.2.1
  have hms := h.mok.2.2.2.2.2.2.2.2 k hkk
  have t7 := h.mok.2.2.2.2.2.2.1 k
  refine lv_iload hx hb dL_law_875 (lv_at hl 0 rfl) ?_
  refine lv_aload_n hx hb dL_law_877 rfl (lv_at hl 11 rfl) ?_
  refine g0i (As := []) (rest := [.int (nI k)]) S (c_students l E a σ ) (cwV 0 hts gL_law_X0_students rfl rfl rfl hdX0_students ⟨Nat.le_of_ble_eq_true rfl, Nat.le_of_ble_eq_true rfl⟩) hK hG.1 rfl hl.1 rfl (Nat.le_of_ble_eq_true rfl) ⟨by show cells ≤ 600130; omega, by show slots ≤ 7301080; omega⟩ dL_law_878 ?_
  rw [h.k]
  refine lv_icmp_ge (tgt := 1031) hx hb dL_law_881 (by decide) (fun q => absurd q ((nI_ge hkk (by omega)))) (fun _ => ?_)
  refine lv_aload_n hx hb dL_law_884 rfl (lv_at hl 11 rfl) ?_
  refine lv_iload hx hb dL_law_885 (lv_at hl 0 rfl) ?_
  refine g0i (As := [.int (nI k)]) (rest := []) S (c_placeOf l E a σ k (by rw [h.k]; exact k8) (by rw [h.k]; exact hkk)) (cwV 1 hts gL_law_X0_placeOf rfl rfl rfl hdX0_placeOf ⟨Nat.le_of_ble_eq_true rfl, Nat.le_of_ble_eq_true rfl⟩) hK hG.1 rfl hl.1 rfl (Nat.le_of_ble_eq_true rfl) ⟨by show cells ≤ 600130; omega, by show slots ≤ 7301080; omega⟩ dL_law_887 ?_
  rw [h.st]
  refine lv_istore (lv' := [(14, .int (nI (ms τ k))), (13, .int (nI k)), (12, .int x12), (11, .ref qh), (10, .ref qs), (9, .int x9), (8, .int x8), (7, .int (nI (mn τ))), (5, .long dg), (4, .int x4), (3, .int (nI t)), (2, .ref (b 0)), (1, .ref (a 0)), (0, .ref sb)]) hx hb dL_law_890 hl (by decide) rfl (fun ls hl => ?_)
  refine lv_aload_n hx hb dL_law_892 rfl (lv_at hl 12 rfl) ?_
  refine lv_iload hx hb dL_law_893 (lv_at hl 0 rfl) ?_
  refine g0i (As := [.int (nI (ms τ k))]) (rest := []) S (c_isExam l E a σ (ms τ k) (by rw [h.n]; exact n4) (by rw [h.n]; exact hms)) (cwV 1 hts gL_law_X0_isExam rfl rfl rfl hdX0_isExam ⟨Nat.le_of_ble_eq_true rfl, Nat.le_of_ble_eq_true rfl⟩) hK hG.1 rfl hl.1 rfl (Nat.le_of_ble_eq_true rfl) ⟨by show cells ≤ 600130; omega, by show slots ≤ 7301080; omega⟩ dL_law_895 ?_
  rw [h.ex (p := ms τ k) hms]
  refine lv_if_eq (tgt := 1025) hx hb dL_law_898 (by decide) (fun q => absurd q ((by rw [he]; decide))) (fun _ => ?_)
  refine lv_aload_n hx hb dL_law_901 rfl (lv_at hl 12 rfl) ?_
  refine lv_iload hx hb dL_law_902 (lv_at hl 0 rfl) ?_
  refine g0i (As := [.int (nI (ms τ k))]) (rest := []) S (c_isGraded l E a σ (ms τ k) (by rw [h.n]; exact n4) (by rw [h.n]; exact hms) (by rw [h.ex hms, he]; rfl)) (cwV 1 hts gL_law_X0_isGraded rfl rfl rfl hdX0_isGraded ⟨Nat.le_of_ble_eq_true rfl, Nat.le_of_ble_eq_true rfl⟩) hK hG.1 rfl hl.1 rfl (Nat.le_of_ble_eq_true rfl) ⟨by show cells ≤ 600130; omega, by show slots ≤ 7301080; omega⟩ dL_law_904 ?_
  rw [h.has (p := ms τ k) hms]
  refine lv_if_ne (tgt := 913) hx hb dL_law_907 (by decide) (fun _ => ?_) (fun q => absurd q ((by rw [hgd]; decide)))
  refine lv_aload_n hx hb dL_law_913 rfl (lv_at hl 12 rfl) ?_
  refine lv_iload hx hb dL_law_914 (lv_at hl 1 rfl) ?_
  refine g0i (As := [.int (nI k)]) (rest := []) S (c_regretOf l E a σ h.gok k (by rw [h.k]; exact hkk) (by rw [h.st, h.has hms]; exact hgd)) (cwV 1 hts gL_law_X0_regretOf rfl rfl rfl hdX0_regretOf ⟨Nat.le_of_ble_eq_true rfl, Nat.le_of_ble_eq_true rfl⟩) hK hG.1 rfl hl.1 rfl (Nat.le_of_ble_eq_true rfl) ⟨by show cells ≤ 600130; omega, by show slots ≤ 7301080; omega⟩ dL_law_916 ?_
  rw [eR]
  refine lv_istore (lv' := [(15, .int 0), (14, .int (nI (ms τ k))), (13, .int (nI k)), (12, .int x12), (11, .ref qh), (10, .ref qs), (9, .int x9), (8, .int x8), (7, .int (nI (mn τ))), (5, .long dg), (4, .int x4), (3, .int (nI t)), (2, .ref (b 0)), (1, .ref (a 0)), (0, .ref sb)]) hx hb dL_law_919 hl (by decide) rfl (fun ls hl => ?_)
  refine lv_aload_n hx hb dL_law_921 rfl (lv_at hl 13 rfl) ?_
  refine lv_iload hx hb dL_law_922 (lv_at hl 2 rfl) ?_
  refine g0i (As := [.int (nI k)]) (rest := []) S (c_worstFork l E a σ h.gok k (by rw [h.k]; exact hkk) (by rw [h.st, h.has hms]; exact hgd)) (cwV 1 hts gL_law_X0_worstFork rfl rfl rfl hdX0_worstFork ⟨Nat.le_of_ble_eq_true rfl, Nat.le_of_ble_eq_true rfl⟩) hK hG.1 rfl hl.1 rfl (Nat.le_of_ble_eq_true rfl) ⟨by show cells ≤ 600130; omega, by show slots ≤ 7301080; omega⟩ dL_law_924 ?_
  rw [eW]
  refine lv_istore (lv' := [(16, .int ((-1))), (15, .int 0), (14, .int (nI (ms τ k))), (13, .int (nI k)), (12, .int x12), (11, .ref qh), (10, .ref qs), (9, .int x9), (8, .int x8), (7, .int (nI (mn τ))), (5, .long dg), (4, .int x4), (3, .int (nI t)), (2, .ref (b 0)), (1, .ref (a 0)), (0, .ref sb)]) hx hb dL_law_927 hl (by decide) rfl (fun ls hl => ?_)
  refine lv_iload hx hb dL_law_929 (lv_at hl 4 rfl) ?_
  refine lv_iload hx hb dL_law_931 (lv_at hl 1 rfl) ?_
  refine lv_iadd hx hb dL_law_933 ?_
  refine lv_istore (lv' := [(12, .int (x12 + 0)), (16, .int ((-1))), (15, .int 0), (14, .int (nI (ms τ k))), (13, .int (nI k)), (11, .ref qh), (10, .ref qs), (9, .int x9), (8, .int x8), (7, .int (nI (mn τ))), (5, .long dg), (4, .int x4), (3, .int (nI t)), (2, .ref (b 0)), (1, .ref (a 0)), (0, .ref sb)]) hx hb dL_law_934 hl (by decide) rfl (fun ls hl => ?_)
  refine lv_iload hx hb dL_law_936 (lv_at hl 2 rfl) ?_
  refine lv_if_lt (tgt := 1023) hx hb dL_law_938 (by decide) (fun q => absurd q ((by decide))) (fun _ => ?_)
  refine lv_iload hx hb dL_law_941 (lv_at hl 1 rfl) ?_
  refine lv_if_ge (tgt := 950) hx hb dL_law_943 (by decide) (fun q => absurd q ((by decide))) (fun _ => ?_)
  refine lv_iconst (v := 1) hx hb dL_law_946 (by decide) ?_
  refine lv_goto (tgt := 951) hx hb dL_law_947 (by decide) ?_
  refine lv_iload hx hb dL_law_951 (lv_at hl 2 rfl) ?_
  refine lv_if_ne (tgt := 960) hx hb dL_law_953 (by decide) (fun q => absurd rfl q) (fun _ => ?_)
  refine lv_iconst (v := 1) hx hb dL_law_956 (by decide) ?_
  refine lv_goto (tgt := 961) hx hb dL_law_957 (by decide) ?_
  refine lv_icmp_ne (tgt := 1023) hx hb dL_law_961 (by decide) (fun q => absurd rfl q) (fun _ => ?_)
  refine lv_iload hx hb dL_law_964 (lv_at hl 1 rfl) ?_
  refine lv_if_lt (tgt := 1009) hx hb dL_law_966 (by decide) (fun _ => ?_) (fun q => absurd ((by decide)) q)
  refine lv_aload_n hx hb dL_law_1009 rfl (lv_at hl 14 rfl) ?_
  refine lv_iload hx hb dL_law_1010 (lv_at hl 4 rfl) ?_
  refine g0i (As := [.int (nI k)]) (rest := []) S (c_passedBy l E a σ k (by rw [h.k]; exact k8) (by rw [h.k]; exact hkk)) (cwV 1 hts gL_law_X0_passedBy rfl rfl rfl hdX0_passedBy ⟨Nat.le_of_ble_eq_true rfl, Nat.le_of_ble_eq_true rfl⟩) hK hG.1 rfl hl.1 rfl (Nat.le_of_ble_eq_true rfl) ⟨by show cells ≤ 600130; omega, by show slots ≤ 7301080; omega⟩ dL_law_1012 ?_
  rw [h.pc]
  refine lv_if_ne (tgt := 1025) hx hb dL_law_1015 (by decide) (fun c1015 => ?_) (fun c1015 => ?_)
  · refine lv_iinc (v := nI (k + 1)) (lv' := [(13, .int (nI (k + 1))), (12, .int (x12 + 0)), (16, .int ((-1))), (15, .int 0), (14, .int (nI (ms τ k))), (11, .ref qh), (10, .ref qs), (9, .int x9), (8, .int x8), (7, .int (nI (mn τ))), (5, .long dg), (4, .int x4), (3, .int (nI t)), (2, .ref (b 0)), (1, .ref (a 0)), (0, .ref sb)]) hx hb dL_law_1025 hl (k := 4) rfl (nI_1 k) (by decide) rfl (fun ls hl => ?_)
    refine lv_goto (tgt := 875) hx hb dL_law_1028 (by decide) ?_
    exact kk _ ls (lv_sub hl [0, 1, 5, 6, 7, 8, 9, 10, 11, 12, 13, 14, 15] rfl) rfl
  · refine lv_iload hx hb dL_law_1018 (lv_at hl 2 rfl) ?_
    refine lv_if_le (tgt := 1025) hx hb dL_law_1020 (by decide) (fun _ => ?_) (fun q => absurd ((Int32.le_refl _)) q)
    refine lv_iinc (v := nI (k + 1)) (lv' := [(13, .int (nI (k + 1))), (12, .int (x12 + 0)), (16, .int ((-1))), (15, .int 0), (14, .int (nI (ms τ k))), (11, .ref qh), (10, .ref qs), (9, .int x9), (8, .int x8), (7, .int (nI (mn τ))), (5, .long dg), (4, .int x4), (3, .int (nI t)), (2, .ref (b 0)), (1, .ref (a 0)), (0, .ref sb)]) hx hb dL_law_1025 hl (k := 4) rfl (nI_1 k) (by decide) rfl (fun ls hl => ?_)
    refine lv_goto (tgt := 875) hx hb dL_law_1028 (by decide) ?_
    exact kk _ ls (lv_sub hl [0, 1, 5, 6, 7, 8, 9, 10, 11, 12, 13, 14, 15] rfl) rfl
set_option maxHeartbeats 4000000 in
set_option maxRecDepth 100000 in
theorem ls_b (hC : LPl p l s m meth c sb L xs E a b σ τ qs qh f g H locs cells slots) (hkk : k < mk τ) (he : mf τ (ms τ k) = false) (hgd : mGd τ (ms τ k) = true) {wf w gg vv R : Nat} (eW : (gWf σ k).1 = nI wf) (hwl : wf < mn τ) (hwf : mf τ wf = true) (ev : ghs σ wf = nI vv) (eg : md τ (ms τ k) = nI gg) (hgv : gg < vv) (hv20 : vv ≤ 20) (hw : md τ wf = nI w) (eR : gRegs σ k = nI R) (hle : (vv - gg) * w ≤ R) (hR : R ≤ 7200) (hR0 : 0 < R) (hmp : 0 < mp τ k) (hl : lv_has ls 23 [(13, .int (nI k)), (12, .int x12), (11, .ref qh), (10, .ref qs), (9, .int x9), (8, .int x8), (7, .int (nI (mn τ))), (5, .long dg), (4, .int x4), (3, .int (nI t)), (2, .ref (b 0)), (1, .ref (a 0)), (0, .ref sb)]) (kk : ∀ (y12 : Int32) (ls : Array Slot), lv_has ls 23 [(13, .int (nI (k + 1))), (12, .int y12), (11, .ref qh), (10, .ref qs), (9, .int x9), (8, .int x8), (7, .int (nI (mn τ))), (5, .long dg), (4, .int x4), (3, .int (nI t)), (2, .ref (b 0)), (1, .ref (a 0)), (0, .ref sb)] → y12 = x12 + nI R → lW p l e s m below meth c sb H locs cells slots 875 ls []) : lW p l e s m below meth c sb H locs cells slots 875 ls [] := by
  obtain ⟨⟨S, hK, hQ, hZ, hX, hbl, hL, hfl, hr, hlk⟩, h, q, hG, hS, hqs, hqh, hcs, hss⟩ := id hC
  obtain ⟨hx, hb, hml, hown, hts⟩ := id S
  have hts1 := inlX1
  have n4 := h.1.1
  have k8 := h.1.2.1
  have hms := h.mok.2.2.2.2.2.2.2.2 k hkk
  have t7 := h.mok.2.2.2.2.2.2.1 k
  refine lv_iload hx hb dL_law_875 (lv_at hl 0 rfl) ?_
  refine lv_aload_n hx hb dL_law_877 rfl (lv_at hl 11 rfl) ?_
  refine g0i (As := []) (rest := [.int (nI k)]) S (c_students l E a σ ) (cwV 0 hts gL_law_X0_students rfl rfl rfl hdX0_students ⟨Nat.le_of_ble_eq_true rfl, Nat.le_of_ble_eq_true rfl⟩) hK hG.1 rfl hl.1 rfl (Nat.le_of_ble_eq_true rfl) ⟨by show cells ≤ 600130; omega, by show slots ≤ 7301080; omega⟩ dL_law_878 ?_
  rw [h.k]
  refine lv_icmp_ge (tgt := 1031) hx hb dL_law_881 (by decide) (fun q => absurd q ((nI_ge hkk (by omega)))) (fun _ => ?_)
  refine lv_aload_n hx hb dL_law_884 rfl (lv_at hl 11 rfl) ?_
  refine lv_iload hx hb dL_law_885 (lv_at hl 0 rfl) ?_
  refine g0i (As := [.int (nI k)]) (rest := []) S (c_placeOf l E a σ k (by rw [h.k]; exact k8) (by rw [h.k]; exact hkk)) (cwV 1 hts gL_law_X0_placeOf rfl rfl rfl hdX0_placeOf ⟨Nat.le_of_ble_eq_true rfl, Nat.le_of_ble_eq_true rfl⟩) hK hG.1 rfl hl.1 rfl (Nat.le_of_ble_eq_true rfl) ⟨by show cells ≤ 600130; omega, by show slots ≤ 7301080; omega⟩ dL_law_887 ?_
  rw [h.st]
  refine lv_istore (lv' := [(14, .int (nI (ms τ k))), (13, .int (nI k)), (12, .int x12), (11, .ref qh), (10, .ref qs), (9, .int x9), (8, .int x8), (7, .int (nI (mn τ))), (5, .long dg), (4, .int x4), (3, .int (nI t)), (2, .ref (b 0)), (1, .ref (a 0)), (0, .ref sb)]) hx hb dL_law_890 hl (by decide) rfl (fun ls hl => ?_)
  refine lv_aload_n hx hb dL_law_892 rfl (lv_at hl 12 rfl) ?_
  refine lv_iload hx hb dL_law_893 (lv_at hl 0 rfl) ?_
  refine g0i (As := [.int (nI (ms τ k))]) (rest := []) S (c_isExam l E a σ (ms τ k) (by rw [h.n]; exact n4) (by rw [h.n]; exact hms)) (cwV 1 hts gL_law_X0_isExam rfl rfl rfl hdX0_isExam ⟨Nat.le_of_ble_eq_true rfl, Nat.le_of_ble_eq_true rfl⟩) hK hG.1 rfl hl.1 rfl (Nat.le_of_ble_eq_true rfl) ⟨by show cells ≤ 600130; omega, by show slots ≤ 7301080; omega⟩ dL_law_895 ?_
  rw [h.ex (p := ms τ k) hms]
  refine lv_if_eq (tgt := 1025) hx hb dL_law_898 (by decide) (fun q => absurd q ((by rw [he]; decide))) (fun _ => ?_)
  refine lv_aload_n hx hb dL_law_901 rfl (lv_at hl 12 rfl) ?_
  refine lv_iload hx hb dL_law_902 (lv_at hl 0 rfl) ?_
  refine g0i (As := [.int (nI (ms τ k))]) (rest := []) S (c_isGraded l E a σ (ms τ k) (by rw [h.n]; exact n4) (by rw [h.n]; exact hms) (by rw [h.ex hms, he]; rfl)) (cwV 1 hts gL_law_X0_isGraded rfl rfl rfl hdX0_isGraded ⟨Nat.le_of_ble_eq_true rfl, Nat.le_of_ble_eq_true rfl⟩) hK hG.1 rfl hl.1 rfl (Nat.le_of_ble_eq_true rfl) ⟨by show cells ≤ 600130; omega, by show slots ≤ 7301080; omega⟩ dL_law_904 ?_
  rw [h.has (p := ms τ k) hms]
  refine lv_if_ne (tgt := 913) hx hb dL_law_907 (by decide) (fun _ => ?_) (fun q => absurd q ((by rw [hgd]; decide)))
  refine lv_aload_n hx hb dL_law_913 rfl (lv_at hl 12 rfl) ?_
  refine lv_iload hx hb dL_law_914 (lv_at hl 1 rfl) ?_
  refine g0i (As := [.int (nI k)]) (rest := []) S (c_regretOf l E a σ h.gok k (by rw [h.k]; exact hkk) (by rw [h.st, h.has hms]; exact hgd)) (cwV 1 hts gL_law_X0_regretOf rfl rfl rfl hdX0_regretOf ⟨Nat.le_of_ble_eq_true rfl, Nat.le_of_ble_eq_true rfl⟩) hK hG.1 rfl hl.1 rfl (Nat.le_of_ble_eq_true rfl) ⟨by show cells ≤ 600130; omega, by show slots ≤ 7301080; omega⟩ dL_law_916 ?_
  rw [eR]
  refine lv_istore (lv' := [(15, .int (nI R)), (14, .int (nI (ms τ k))), (13, .int (nI k)), (12, .int x12), (11, .ref qh), (10, .ref qs), (9, .int x9), (8, .int x8), (7, .int (nI (mn τ))), (5, .long dg), (4, .int x4), (3, .int (nI t)), (2, .ref (b 0)), (1, .ref (a 0)), (0, .ref sb)]) hx hb dL_law_919 hl (by decide) rfl (fun ls hl => ?_)
  refine lv_aload_n hx hb dL_law_921 rfl (lv_at hl 13 rfl) ?_
  refine lv_iload hx hb dL_law_922 (lv_at hl 2 rfl) ?_
  refine g0i (As := [.int (nI k)]) (rest := []) S (c_worstFork l E a σ h.gok k (by rw [h.k]; exact hkk) (by rw [h.st, h.has hms]; exact hgd)) (cwV 1 hts gL_law_X0_worstFork rfl rfl rfl hdX0_worstFork ⟨Nat.le_of_ble_eq_true rfl, Nat.le_of_ble_eq_true rfl⟩) hK hG.1 rfl hl.1 rfl (Nat.le_of_ble_eq_true rfl) ⟨by show cells ≤ 600130; omega, by show slots ≤ 7301080; omega⟩ dL_law_924 ?_
  rw [eW]
  refine lv_istore (lv' := [(16, .int (nI wf)), (15, .int (nI R)), (14, .int (nI (ms τ k))), (13, .int (nI k)), (12, .int x12), (11, .ref qh), (10, .ref qs), (9, .int x9), (8, .int x8), (7, .int (nI (mn τ))), (5, .long dg), (4, .int x4), (3, .int (nI t)), (2, .ref (b 0)), (1, .ref (a 0)), (0, .ref sb)]) hx hb dL_law_927 hl (by decide) rfl (fun ls hl => ?_)
  refine lv_iload hx hb dL_law_929 (lv_at hl 4 rfl) ?_
  refine lv_iload hx hb dL_law_931 (lv_at hl 1 rfl) ?_
  refine lv_iadd hx hb dL_law_933 ?_
  refine lv_istore (lv' := [(12, .int (x12 + (nI R))), (16, .int (nI wf)), (15, .int (nI R)), (14, .int (nI (ms τ k))), (13, .int (nI k)), (11, .ref qh), (10, .ref qs), (9, .int x9), (8, .int x8), (7, .int (nI (mn τ))), (5, .long dg), (4, .int x4), (3, .int (nI t)), (2, .ref (b 0)), (1, .ref (a 0)), (0, .ref sb)]) hx hb dL_law_934 hl (by decide) rfl (fun ls hl => ?_)
  refine lv_iload hx hb dL_law_936 (lv_at hl 2 rfl) ?_
  refine lv_if_lt (tgt := 1023) hx hb dL_law_938 (by decide) (fun q => absurd q ((nI_pos (by omega)))) (fun _ => ?_)
  refine lv_iload hx hb dL_law_941 (lv_at hl 1 rfl) ?_
  refine lv_if_ge (tgt := 950) hx hb dL_law_943 (by decide) (fun _ => ?_) (fun q => absurd ((nI_pos' (by omega))) q)
  refine lv_iconst (v := 0) hx hb dL_law_950 (by decide) ?_
  refine lv_iload hx hb dL_law_951 (lv_at hl 2 rfl) ?_
  refine lv_if_ne (tgt := 960) hx hb dL_law_953 (by decide) (fun _ => ?_) (fun q => absurd q ((nI_ne0 hR0 (by omega))))
  refine lv_iconst (v := 0) hx hb dL_law_960 (by decide) ?_
  refine lv_icmp_ne (tgt := 1023) hx hb dL_law_961 (by decide) (fun q => absurd rfl q) (fun _ => ?_)
  refine lv_iload hx hb dL_law_964 (lv_at hl 1 rfl) ?_
  refine lv_if_lt (tgt := 1009) hx hb dL_law_966 (by decide) (fun q => absurd q ((nI_pos (by omega)))) (fun _ => ?_)
  refine lv_aload_n hx hb dL_law_969 rfl (lv_at hl 14 rfl) ?_
  refine lv_iload hx hb dL_law_970 (lv_at hl 1 rfl) ?_
  refine g0i (As := [.int (nI wf)]) (rest := []) S (c_hindsight l E a σ wf (by rw [h.n]; exact n4) (by rw [h.n]; exact hwl) (by rw [h.ex hwl, hwf]; rfl)) (cwV 1 hts gL_law_X0_hindsight rfl rfl rfl hdX0_hindsight ⟨Nat.le_of_ble_eq_true rfl, Nat.le_of_ble_eq_true rfl⟩) hK hG.1 rfl hl.1 rfl (Nat.le_of_ble_eq_true rfl) ⟨by show cells ≤ 600130; omega, by show slots ≤ 7301080; omega⟩ dL_law_972 ?_
  rw [ev]
  refine lv_aload_n hx hb dL_law_975 rfl (lv_at hl 14 rfl) ?_
  refine lv_iload hx hb dL_law_976 (lv_at hl 3 rfl) ?_
  refine g0i (As := [.int (nI (ms τ k))]) (rest := [.int (nI vv)]) S (c_gradeOf l E a σ (ms τ k) (by rw [h.n]; exact n4) (by rw [h.n]; exact hms) (by rw [h.ex hms, he]; rfl)) (cwV 1 hts gL_law_X0_gradeOf rfl rfl rfl hdX0_gradeOf ⟨Nat.le_of_ble_eq_true rfl, Nat.le_of_ble_eq_true rfl⟩) hK hG.1 rfl hl.1 rfl (Nat.le_of_ble_eq_true rfl) ⟨by show cells ≤ 600130; omega, by show slots ≤ 7301080; omega⟩ dL_law_978 ?_
  rw [(h.e (p := ms τ k) hms he).2.2.2.2.1]
  rw [eg]
  refine lv_icmp_le (tgt := 1023) hx hb dL_law_981 (by decide) (fun q => absurd q ((nI_ge hgv (by omega)))) (fun _ => ?_)
  refine lv_aload_n hx hb dL_law_984 rfl (lv_at hl 14 rfl) ?_
  refine lv_iload hx hb dL_law_985 (lv_at hl 1 rfl) ?_
  refine g0i (As := [.int (nI wf)]) (rest := []) S (c_hindsight l E a σ wf (by rw [h.n]; exact n4) (by rw [h.n]; exact hwl) (by rw [h.ex hwl, hwf]; rfl)) (cwV 1 hts gL_law_X0_hindsight rfl rfl rfl hdX0_hindsight ⟨Nat.le_of_ble_eq_true rfl, Nat.le_of_ble_eq_true rfl⟩) hK hG.1 rfl hl.1 rfl (Nat.le_of_ble_eq_true rfl) ⟨by show cells ≤ 600130; omega, by show slots ≤ 7301080; omega⟩ dL_law_987 ?_
  rw [ev]
  refine lv_aload_n hx hb dL_law_990 rfl (lv_at hl 14 rfl) ?_
  refine lv_iload hx hb dL_law_991 (lv_at hl 3 rfl) ?_
  refine g0i (As := [.int (nI (ms τ k))]) (rest := [.int (nI vv)]) S (c_gradeOf l E a σ (ms τ k) (by rw [h.n]; exact n4) (by rw [h.n]; exact hms) (by rw [h.ex hms, he]; rfl)) (cwV 1 hts gL_law_X0_gradeOf rfl rfl rfl hdX0_gradeOf ⟨Nat.le_of_ble_eq_true rfl, Nat.le_of_ble_eq_true rfl⟩) hK hG.1 rfl hl.1 rfl (Nat.le_of_ble_eq_true rfl) ⟨by show cells ≤ 600130; omega, by show slots ≤ 7301080; omega⟩ dL_law_993 ?_
  rw [(h.e (p := ms τ k) hms he).2.2.2.2.1]
  rw [eg]
  refine lv_isub hx hb dL_law_996 ?_
  refine lv_aload_n hx hb dL_law_997 rfl (lv_at hl 14 rfl) ?_
  refine lv_iload hx hb dL_law_998 (lv_at hl 1 rfl) ?_
  refine g0i (As := [.int (nI wf)]) (rest := [.int ((nI vv) - (nI gg))]) S (c_weightOf l E a σ wf (by rw [h.n]; exact n4) (by rw [h.n]; exact hwl) (by rw [h.ex hwl, hwf]; rfl)) (cwV 1 hts gL_law_X0_weightOf rfl rfl rfl hdX0_weightOf ⟨Nat.le_of_ble_eq_true rfl, Nat.le_of_ble_eq_true rfl⟩) hK hG.1 rfl hl.1 rfl (Nat.le_of_ble_eq_true rfl) ⟨by show cells ≤ 600130; omega, by show slots ≤ 7301080; omega⟩ dL_law_1000 ?_
  rw [(h.f hwf).2.2.2.2.1, hw]
  refine lv_imul hx hb dL_law_1003 ?_
  refine lv_iload hx hb dL_law_1004 (lv_at hl 2 rfl) ?_
  refine lv_icmp_gt (tgt := 1023) hx hb dL_law_1006 (by decide) (fun q => absurd q ((by rw [pk_sub (a := vv) (b := gg) (by omega), pk_mul]; exact Int32.not_lt.mpr (nI_le hle (by omega))))) (fun _ => ?_)
  refine lv_aload_n hx hb dL_law_1009 rfl (lv_at hl 14 rfl) ?_
  refine lv_iload hx hb dL_law_1010 (lv_at hl 4 rfl) ?_
  refine g0i (As := [.int (nI k)]) (rest := []) S (c_passedBy l E a σ k (by rw [h.k]; exact k8) (by rw [h.k]; exact hkk)) (cwV 1 hts gL_law_X0_passedBy rfl rfl rfl hdX0_passedBy ⟨Nat.le_of_ble_eq_true rfl, Nat.le_of_ble_eq_true rfl⟩) hK hG.1 rfl hl.1 rfl (Nat.le_of_ble_eq_true rfl) ⟨by show cells ≤ 600130; omega, by show slots ≤ 7301080; omega⟩ dL_law_1012 ?_
  rw [h.pc]
  refine lv_if_ne (tgt := 1025) hx hb dL_law_1015 (by decide) (fun _ => ?_) (fun q => absurd q ((nI_ne0 hmp (by omega))))
  refine lv_iinc (v := nI (k + 1)) (lv' := [(13, .int (nI (k + 1))), (12, .int (x12 + (nI R))), (16, .int (nI wf)), (15, .int (nI R)), (14, .int (nI (ms τ k))), (11, .ref qh), (10, .ref qs), (9, .int x9), (8, .int x8), (7, .int (nI (mn τ))), (5, .long dg), (4, .int x4), (3, .int (nI t)), (2, .ref (b 0)), (1, .ref (a 0)), (0, .ref sb)]) hx hb dL_law_1025 hl (k := 4) rfl (nI_1 k) (by decide) rfl (fun ls hl => ?_)
  refine lv_goto (tgt := 875) hx hb dL_law_1028 (by decide) ?_
  exact kk _ ls (lv_sub hl [0, 1, 5, 6, 7, 8, 9, 10, 11, 12, 13, 14, 15] rfl) rfl
set_option maxHeartbeats 4000000 in
set_option maxRecDepth 100000 in
theorem ls_loop (hC : LPl p l s m meth c sb L xs E a b σ τ qs qh f g H locs cells slots) (kk : ∀ (ls : Array Slot), lv_has ls 23 [(12, .int (gAll σ)), (11, .ref qh), (10, .ref qs), (9, .int x9), (8, .int x8), (7, .int (nI (mn τ))), (5, .long dg), (4, .int x4), (3, .int (nI t)), (2, .ref (b 0)), (1, .ref (a 0)), (0, .ref sb)] → lW p l e s m below meth c sb H locs cells slots 1031 ls []) : ∀ (d k : Nat) (x12 : Int32) (ls : Array Slot), k + d = mk τ → x12 = sumI (fun s => if mGd τ (ms τ s) then gRegs σ s else 0) k → lv_has ls 23 [(13, .int (nI k)), (12, .int x12), (11, .ref qh), (10, .ref qs), (9, .int x9), (8, .int x8), (7, .int (nI (mn τ))), (5, .long dg), (4, .int x4), (3, .int (nI t)), (2, .ref (b 0)), (1, .ref (a 0)), (0, .ref sb)] → lW p l e s m below meth c sb H locs cells slots 875 ls [] := by
  intro d
  obtain ⟨⟨S, hK, hQ, hZ, hX, hbl, hL, hfl, hr, hlk⟩, h, q, hG, hS, hqs, hqh, hcs, hss⟩ := id hC
  obtain ⟨hx, hb, hml, hown, hts⟩ := id S
  have n4 := h.1.1
  have k8 := h.1.2.1
  induction d with
  | zero =>
    intro k x12 ls hm hinv hl
    obtain rfl : k = mk τ := by omega
    have e5 : x12 = gAll σ := by rw [hinv, gAll, h.k]; exact sum_cong (fun s hs => by rw [h.st, h.has (h.mok.2.2.2.2.2.2.2.2 s hs)])
    rw [e5] at hl
    refine lv_iload hx hb dL_law_875 (lv_at hl 0 rfl) ?_
    refine lv_aload_n hx hb dL_law_877 rfl (lv_at hl 11 rfl) ?_
    refine g0i (As := []) (rest := [.int (nI (mk τ))]) S (c_students l E a σ ) (cwV 0 hts gL_law_X0_students rfl rfl rfl hdX0_students ⟨Nat.le_of_ble_eq_true rfl, Nat.le_of_ble_eq_true rfl⟩) hK hG.1 rfl hl.1 rfl (Nat.le_of_ble_eq_true rfl) ⟨by show cells ≤ 600130; omega, by show slots ≤ 7301080; omega⟩ dL_law_878 ?_
    rw [h.k]
    refine lv_icmp_ge (tgt := 1031) hx hb dL_law_881 (by decide) (fun _ => ?_) (fun q => absurd (nI_le (Nat.le_refl _) (by omega)) q)
    exact kk ls (lv_sub hl [1, 2, 3, 4, 5, 6, 7, 8, 9, 10, 11, 12] rfl)
  | succ d ih =>
    intro k x12 ls hm hinv hl
    have hkk : k < mk τ := by omega
    have hms := h.mok.2.2.2.2.2.2.2.2 k hkk
    by_cases hff : mf τ (ms τ k) = true
    · have hgd : mGd τ (ms τ k) = false := by rw [mGd, hff]; rfl
      exact ls_f hC hkk hff hl (fun y12 ls hl e => ih (k + 1) y12 ls (by omega) (by rw [e, hinv, sumI, hgd]; rfl) hl)
    · have he := ts_nt hff
      by_cases hgd : mGd τ (ms τ k) = true
      · rcases h.wrs q hkk hgd with ⟨eW, eR⟩ | ⟨wf, w, gg, vv, R, eW, hwl, hwf, ev, eg, hgv, hv20, hw, w1, w2, eR, hle, hR, hR0, hmp⟩
        · exact ls_a hC hkk he hgd eW eR hl (fun y12 ls hl e => ih (k + 1) y12 ls (by omega) (by rw [e, hinv, sumI, hgd, if_pos rfl, eR]) hl)
        · exact ls_b hC hkk he hgd eW hwl hwf ev eg hgv hv20 hw eR hle hR hR0 hmp hl (fun y12 ls hl e => ih (k + 1) y12 ls (by omega) (by rw [e, hinv, sumI, hgd, if_pos rfl, eR]) hl)
      · have hgd := ts_nt hgd
        exact ls_u hC hkk he hgd hl (fun y12 ls hl e => ih (k + 1) y12 ls (by omega) (by rw [e, hinv, sumI, hgd]; rfl) hl)
set_option maxHeartbeats 4000000 in
set_option maxRecDepth 100000 in
theorem lp_1031 (hC : LPl p l s m meth c sb L xs E a b σ τ qs qh f g H locs cells slots)  (hl : lv_has ls 23 [(12, .int (gAll σ)), (11, .ref qh), (10, .ref qs), (9, .int (mGn τ)), (8, .int (mXn τ)), (7, .int (nI (mn τ))), (5, .long (gDig σ)), (4, .int x4), (3, .int (nI t)), (2, .ref (b 0)), (1, .ref (a 0)), (0, .ref sb)]) (kk : ∀ (ls : Array Slot), lv_has ls 23 [(11, .ref qh), (10, .ref qs), (9, .int (mGn τ)), (7, .int (nI (mn τ))), (4, .int x4), (3, .int (nI t)), (2, .ref (b 0)), (1, .ref (a 0)), (0, .ref sb)] → lW p l e s m below meth c sb H locs cells slots 1070 ls []) : lW p l e s m below meth c sb H locs cells slots 1031 ls [] := by
  obtain ⟨⟨S, hK, hQ, hZ, hX, hbl, hL, hfl, hr, hlk⟩, h, q, hG, hS, hqs, hqh, hcs, hss⟩ := id hC
  obtain ⟨hx, hb, hml, hown, hts⟩ := id S
  have hts1 := inlX1
  have n4 := h.1.1
  have k8 := h.1.2.1
  refine lv_iload hx hb dL_law_1031 (lv_at hl 4 rfl) ?_
  refine lv_aload_n hx hb dL_law_1033 rfl (lv_at hl 10 rfl) ?_
  refine g0i (As := []) (rest := [.int (mXn τ)]) S (c_exams l E a σ ) (cwV 0 hts gL_law_X0_exams rfl rfl rfl hdX0_exams ⟨Nat.le_of_ble_eq_true rfl, Nat.le_of_ble_eq_true rfl⟩) hK hG.1 rfl hl.1 rfl (Nat.le_of_ble_eq_true rfl) ⟨by show cells ≤ 600130; omega, by show slots ≤ 7301080; omega⟩ dL_law_1034 ?_
  refine lv_icmp_ne (tgt := 1068) hx hb dL_law_1037 (by decide) (fun q => absurd h.xn q) (fun _ => ?_)
  refine lv_iload hx hb dL_law_1040 (lv_at hl 3 rfl) ?_
  refine lv_aload_n hx hb dL_law_1042 rfl (lv_at hl 10 rfl) ?_
  refine g0i (As := []) (rest := [.int (mGn τ)]) S (c_graded l E a σ ) (cwV 0 hts gL_law_X0_graded rfl rfl rfl hdX0_graded ⟨Nat.le_of_ble_eq_true rfl, Nat.le_of_ble_eq_true rfl⟩) hK hG.1 rfl hl.1 rfl (Nat.le_of_ble_eq_true rfl) ⟨by show cells ≤ 600130; omega, by show slots ≤ 7301080; omega⟩ dL_law_1043 ?_
  refine lv_icmp_ne (tgt := 1068) hx hb dL_law_1046 (by decide) (fun q => absurd h.2.2.2.2.2.2.1.symm q) (fun _ => ?_)
  refine lv_iload hx hb dL_law_1049 (lv_at hl 0 rfl) ?_
  refine lv_aload_n hx hb dL_law_1051 rfl (lv_at hl 10 rfl) ?_
  refine g0i (As := []) (rest := [.int (gAll σ)]) S (c_allRegret l E a σ h.gok) (cwV 0 hts gL_law_X0_allRegret rfl rfl rfl hdX0_allRegret ⟨Nat.le_of_ble_eq_true rfl, Nat.le_of_ble_eq_true rfl⟩) hK hG.1 rfl hl.1 rfl (Nat.le_of_ble_eq_true rfl) ⟨by show cells ≤ 600130; omega, by show slots ≤ 7301080; omega⟩ dL_law_1052 ?_
  refine lv_icmp_ne (tgt := 1068) hx hb dL_law_1055 (by decide) (fun q => absurd rfl q) (fun _ => ?_)
  refine lv_aload_n hx hb dL_law_1058 rfl (lv_at hl 10 rfl) ?_
  refine g0l (As := []) (rest := []) S (c_digest l E a σ h.gok) (cwV 0 hts gL_law_X0_digest rfl rfl rfl hdX0_digest ⟨Nat.le_of_ble_eq_true rfl, Nat.le_of_ble_eq_true rfl⟩) hK hG.1 rfl hl.1 rfl (Nat.le_of_ble_eq_true rfl) ⟨by show cells ≤ 600130; omega, by show slots ≤ 7301080; omega⟩ dL_law_1059 ?_
  refine lv_lload hx hb dL_law_1062 (lv_at hl 6 rfl) ?_
  refine W.lcmp hx hb dL_law_1064 ?_
  refine lv_if_eq (tgt := 1070) hx hb dL_law_1065 (by decide) (fun _ => ?_) (fun q => absurd ((lg_self _)) q)
  exact kk ls (lv_sub hl [1, 2, 3, 5, 7, 8, 9, 10, 11] rfl)
set_option maxHeartbeats 4000000 in
set_option maxRecDepth 100000 in
theorem lp_1161 (hC : LC p l s m meth c sb L xs E) (h : RR σ τ) (q : RQ τ) {σ' : GS} {ex gg : Nat} (h' : RR σ' (mMd τ ex (nI gg))) (q' : RQ (mMd τ ex (nI gg))) (hex : ex < mn τ) (hE : mf τ ex = false) (hu : md τ ex = -1) (g1 : mo τ ex ≤ gg) (g2 : gg ≤ mh τ ex) (hfs : ∀ j, j < mn τ → f j = gsu σ j) (hgs : ∀ j, j < mn τ → g j = gho σ j) (hP : gP E (gW E a σ') H) (hqs : gP E [(qs, gI E (mn τ) f)] H) (hqh : gP E [(qh, gI E (mn τ) g)] H) (hcs : cells ≤ 600000) (hss : slots ≤ 7300000) (kk : ∀ (ls : Array Slot), lv_has ls 23 [(3, .int (nI t)), (2, .ref (b 0)), (1, .ref (a 0)), (0, .ref sb)] → lW p l e s m below meth c sb H locs cells slots 1243 ls []) : ∀ (d o : Nat) (ls : Array Slot), o + d = mn τ → lv_has ls 23 [(15, .int (nI o)), (13, .int (nI ex)), (11, .ref qh), (10, .ref qs), (7, .int (nI (mn τ))), (3, .int (nI t)), (2, .ref (b 0)), (1, .ref (a 0)), (0, .ref sb)] → lW p l e s m below meth c sb H locs cells slots 1161 ls [] := by
  obtain ⟨S, hK, hQ, hZ, hX, hbl, hL, hfl, hr, hlk⟩ := id hC
  obtain ⟨hx, hb, hml, hown, hts⟩ := id S
  have n4 := h.1.1
  intro d
  induction d with
  | zero =>
    intro o ls hm hl
    obtain rfl : o = mn τ := by omega
    refine lv_iload hx hb dL_law_1161 (lv_at hl 0 rfl) ?_
    refine lv_iload hx hb dL_law_1163 (lv_at hl 4 rfl) ?_
    refine lv_icmp_ge (tgt := 1243) hx hb dL_law_1165 (by decide) (fun _ => ?_) (fun q => absurd ((nI_le (Nat.le_refl _) (by omega))) q)
    exact kk ls (lv_sub hl [5, 6, 7, 8] rfl)
  | succ d ih =>
    intro o ls hm hl
    have ho : o < mn τ := by omega
    have M := h.mono q h' q' hex hE hu g1 g2 (o + 1) o (by omega) ho
    refine lv_iload hx hb dL_law_1161 (lv_at hl 0 rfl) ?_
    refine lv_iload hx hb dL_law_1163 (lv_at hl 4 rfl) ?_
    refine lv_icmp_ge (tgt := 1243) hx hb dL_law_1165 (by decide) (fun q => absurd q ((nI_ge ho (by omega)))) (fun _ => ?_)
    refine lv_aload_n hx hb dL_law_1168 rfl (lv_at hl 7 rfl) ?_
    refine lv_iload hx hb dL_law_1169 (lv_at hl 0 rfl) ?_
    refine g0i (As := [.int (nI o)]) (rest := []) S (c_hope l E a σ' o (by rw [h'.n]; exact n4) (by rw [h'.n]; exact ho)) (cwV 1 hts gL_law_X0_hope rfl rfl rfl hdX0_hope ⟨Nat.le_of_ble_eq_true rfl, Nat.le_of_ble_eq_true rfl⟩) hK hP rfl hl.1 rfl (Nat.le_of_ble_eq_true rfl) ⟨by show cells ≤ 600130; omega, by show slots ≤ 7301080; omega⟩ dL_law_1171 ?_
    refine lv_aload hx hb dL_law_1174 (lv_at hl 2 rfl) ?_
    refine lv_iload hx hb dL_law_1176 (lv_at hl 0 rfl) ?_
    refine s_ild hx hb hK hqh (k := o) (by omega) (by omega) (v := gho σ o) (hgs o (by omega)) dL_law_1178 ?_
    refine lv_icmp_gt (tgt := 1235) hx hb dL_law_1179 (by decide) (fun q => absurd q ((Int32.not_lt.mpr M.1))) (fun _ => ?_)
    refine lv_aload_n hx hb dL_law_1182 rfl (lv_at hl 7 rfl) ?_
    refine lv_iload hx hb dL_law_1183 (lv_at hl 0 rfl) ?_
    refine g0i (As := [.int (nI o)]) (rest := []) S (c_sureGrade l E a σ' o (by rw [h'.n]; exact n4) (by rw [h'.n]; exact ho)) (cwV 1 hts gL_law_X0_sureGrade rfl rfl rfl hdX0_sureGrade ⟨Nat.le_of_ble_eq_true rfl, Nat.le_of_ble_eq_true rfl⟩) hK hP rfl hl.1 rfl (Nat.le_of_ble_eq_true rfl) ⟨by show cells ≤ 600130; omega, by show slots ≤ 7301080; omega⟩ dL_law_1185 ?_
    refine lv_aload hx hb dL_law_1188 (lv_at hl 3 rfl) ?_
    refine lv_iload hx hb dL_law_1190 (lv_at hl 0 rfl) ?_
    refine s_ild hx hb hK hqs (k := o) (by omega) (by omega) (v := gsu σ o) (hfs o (by omega)) dL_law_1192 ?_
    refine lv_icmp_lt (tgt := 1235) hx hb dL_law_1193 (by decide) (fun q => absurd q ((Int32.not_lt.mpr M.2.1))) (fun _ => ?_)
    refine lv_aload_n hx hb dL_law_1196 rfl (lv_at hl 7 rfl) ?_
    refine lv_iload hx hb dL_law_1197 (lv_at hl 0 rfl) ?_
    refine lv_iload hx hb dL_law_1199 (lv_at hl 1 rfl) ?_
    refine g0i (As := [.int (nI o), .int (nI ex)]) (rest := []) S (c_reaches l E a σ' o (by rw [h'.n]; exact n4) (by rw [h'.n]; exact ho) ex (by rw [h'.n]; exact hex)) (cwV 2 hts gL_law_X0_reaches rfl rfl rfl hdX0_reaches ⟨Nat.le_of_ble_eq_true rfl, Nat.le_of_ble_eq_true rfl⟩) hK hP rfl hl.1 rfl (Nat.le_of_ble_eq_true rfl) ⟨by show cells ≤ 600130; omega, by show slots ≤ 7301080; omega⟩ dL_law_1201 ?_
    rw [h'.rb (p := o) (q := ex) ho hex]
    refine lv_if_ne (tgt := 1237) hx hb dL_law_1204 (by decide) (fun c1204 => ?_) (fun c1204 => ?_)
    · refine lv_iinc (v := nI (o + 1)) (lv' := [(15, .int (nI (o + 1))), (13, .int (nI ex)), (11, .ref qh), (10, .ref qs), (7, .int (nI (mn τ))), (3, .int (nI t)), (2, .ref (b 0)), (1, .ref (a 0)), (0, .ref sb)]) hx hb dL_law_1237 hl (k := 0) rfl (nI_1 o) (by decide) rfl (fun ls hl => ?_)
      refine lv_goto (tgt := 1161) hx hb dL_law_1240 (by decide) ?_
      exact ih (o + 1) ls (by omega) (lv_sub hl [0, 1, 2, 3, 4, 5, 6, 7, 8] rfl)
    · have hb0 : bitL (mr τ o) ex = false := b2i_eq0.mp c1204
      refine lv_aload_n hx hb dL_law_1207 rfl (lv_at hl 7 rfl) ?_
      refine lv_iload hx hb dL_law_1208 (lv_at hl 0 rfl) ?_
      refine g0i (As := [.int (nI o)]) (rest := []) S (c_hope l E a σ' o (by rw [h'.n]; exact n4) (by rw [h'.n]; exact ho)) (cwV 1 hts gL_law_X0_hope rfl rfl rfl hdX0_hope ⟨Nat.le_of_ble_eq_true rfl, Nat.le_of_ble_eq_true rfl⟩) hK hP rfl hl.1 rfl (Nat.le_of_ble_eq_true rfl) ⟨by show cells ≤ 600130; omega, by show slots ≤ 7301080; omega⟩ dL_law_1210 ?_
      refine lv_aload hx hb dL_law_1213 (lv_at hl 2 rfl) ?_
      refine lv_iload hx hb dL_law_1215 (lv_at hl 0 rfl) ?_
      refine s_ild hx hb hK hqh (k := o) (by omega) (by omega) (v := gho σ o) (hgs o (by omega)) dL_law_1217 ?_
      refine lv_icmp_ne (tgt := 1235) hx hb dL_law_1218 (by decide) (fun q => absurd ((M.2.2 hb0).1) q) (fun _ => ?_)
      refine lv_aload_n hx hb dL_law_1221 rfl (lv_at hl 7 rfl) ?_
      refine lv_iload hx hb dL_law_1222 (lv_at hl 0 rfl) ?_
      refine g0i (As := [.int (nI o)]) (rest := []) S (c_sureGrade l E a σ' o (by rw [h'.n]; exact n4) (by rw [h'.n]; exact ho)) (cwV 1 hts gL_law_X0_sureGrade rfl rfl rfl hdX0_sureGrade ⟨Nat.le_of_ble_eq_true rfl, Nat.le_of_ble_eq_true rfl⟩) hK hP rfl hl.1 rfl (Nat.le_of_ble_eq_true rfl) ⟨by show cells ≤ 600130; omega, by show slots ≤ 7301080; omega⟩ dL_law_1224 ?_
      refine lv_aload hx hb dL_law_1227 (lv_at hl 3 rfl) ?_
      refine lv_iload hx hb dL_law_1229 (lv_at hl 0 rfl) ?_
      refine s_ild hx hb hK hqs (k := o) (by omega) (by omega) (v := gsu σ o) (hfs o (by omega)) dL_law_1231 ?_
      refine lv_icmp_eq (tgt := 1237) hx hb dL_law_1232 (by decide) (fun _ => ?_) (fun q => absurd ((M.2.2 hb0).2) q)
      refine lv_iinc (v := nI (o + 1)) (lv' := [(15, .int (nI (o + 1))), (13, .int (nI ex)), (11, .ref qh), (10, .ref qs), (7, .int (nI (mn τ))), (3, .int (nI t)), (2, .ref (b 0)), (1, .ref (a 0)), (0, .ref sb)]) hx hb dL_law_1237 hl (k := 0) rfl (nI_1 o) (by decide) rfl (fun ls hl => ?_)
      refine lv_goto (tgt := 1161) hx hb dL_law_1240 (by decide) ?_
      exact ih (o + 1) ls (by omega) (lv_sub hl [0, 1, 2, 3, 4, 5, 6, 7, 8] rfl)
set_option maxHeartbeats 4000000 in
set_option maxRecDepth 100000 in
theorem lp_1070 (hC : LPl p l s m meth c sb L xs E a b σ τ qs qh f g H locs cells slots) (hfs : ∀ j, j < mn τ → f j = gsu σ j) (hgs : ∀ j, j < mn τ → g j = gho σ j) (h1n : 1 ≤ mn τ) (hos : offL a b τ qs) (hoh : offL a b τ qh) (hl : lv_has ls 23 [(11, .ref qh), (10, .ref qs), (9, .int (mGn τ)), (7, .int (nI (mn τ))), (4, .int x4), (3, .int (nI t)), (2, .ref (b 0)), (1, .ref (a 0)), (0, .ref sb)]) (kk : ∀ (σ : GS) (τ : MS) (H : Heap) (locs : List Loc) (ls : Array Slot), RR σ τ → RQ τ → 1 ≤ mn τ → LG (LA s) E a b σ τ H → va_S (LA s) s.heap H locs → lv_has ls 23 [(3, .int (nI t)), (2, .ref (b 0)), (1, .ref (a 0)), (0, .ref sb)] → lW p l e s m below meth c sb H locs cells slots 1243 ls []) : lW p l e s m below meth c sb H locs cells slots 1070 ls [] := by
  obtain ⟨⟨S, hK, hQ, hZ, hX, hbl, hL, hfl, hr, hlk⟩, h, q, hG, hS, hqs, hqh, hcs, hss⟩ := id hC
  obtain ⟨hx, hb, hml, hown, hts⟩ := id S
  have hts1 := inlX1
  have n4 := h.1.1
  have k8 := h.1.2.1
  refine lv_iload hx hb dL_law_1070 (lv_at hl 4 rfl) ?_
  refine lv_iconst (v := 3) hx hb dL_law_1072 (by decide) ?_
  refine lv_ishr hx hb dL_law_1073 ?_
  refine lv_iload hx hb dL_law_1074 (lv_at hl 3 rfl) ?_
  refine l_below (N := mn τ) (by omega) (by omega) S (va_cwS 2 hts gL_law_L_below rfl rfl rfl hdL_below ⟨Nat.le_of_ble_eq_true rfl, Nat.le_of_ble_eq_true rfl⟩) hK hl.1 (Nat.le_of_ble_eq_true rfl) ⟨by show cells ≤ 600130; omega, by show slots ≤ 7301080; omega⟩ dL_law_1076 (fun j1076 hj1076 => ?_)
  refine lv_istore (lv' := [(13, .int (nI j1076)), (11, .ref qh), (10, .ref qs), (9, .int (mGn τ)), (7, .int (nI (mn τ))), (4, .int x4), (3, .int (nI t)), (2, .ref (b 0)), (1, .ref (a 0)), (0, .ref sb)]) hx hb dL_law_1079 hl (by decide) rfl (fun ls hl => ?_)
  refine lv_aload_n hx hb dL_law_1081 rfl (lv_at hl 8 rfl) ?_
  refine lv_iload hx hb dL_law_1082 (lv_at hl 0 rfl) ?_
  refine g0i (As := [.int (nI j1076)]) (rest := []) S (c_isExam l E a σ j1076 (by rw [h.n]; exact n4) (by rw [h.n]; exact hj1076)) (cwV 1 hts gL_law_X0_isExam rfl rfl rfl hdX0_isExam ⟨Nat.le_of_ble_eq_true rfl, Nat.le_of_ble_eq_true rfl⟩) hK hG.1 rfl hl.1 rfl (Nat.le_of_ble_eq_true rfl) ⟨by show cells ≤ 600130; omega, by show slots ≤ 7301080; omega⟩ dL_law_1084 ?_
  rw [h.ex (p := j1076) hj1076]
  refine lv_if_eq (tgt := 1243) hx hb dL_law_1087 (by decide) (fun c1087 => ?_) (fun c1087 => ?_)
  · exact kk σ τ H locs ls h q h1n hG hS (lv_sub hl [6, 7, 8, 9] rfl)
  · have he : mf τ j1076 = false := by have z := b2i_ne0.mp c1087; cases y : mf τ j1076 <;> rw [y] at z <;> first | rfl | cases z
    refine lv_aload_n hx hb dL_law_1090 rfl (lv_at hl 8 rfl) ?_
    refine lv_iload hx hb dL_law_1091 (lv_at hl 0 rfl) ?_
    refine g0i (As := [.int (nI j1076)]) (rest := []) S (c_isGraded l E a σ j1076 (by rw [h.n]; exact n4) (by rw [h.n]; exact hj1076) (by rw [h.ex hj1076, he]; rfl)) (cwV 1 hts gL_law_X0_isGraded rfl rfl rfl hdX0_isGraded ⟨Nat.le_of_ble_eq_true rfl, Nat.le_of_ble_eq_true rfl⟩) hK hG.1 rfl hl.1 rfl (Nat.le_of_ble_eq_true rfl) ⟨by show cells ≤ 600130; omega, by show slots ≤ 7301080; omega⟩ dL_law_1093 ?_
    rw [h.has (p := j1076) hj1076]
    refine lv_if_eq (tgt := 1102) hx hb dL_law_1096 (by decide) (fun c1096 => ?_) (fun c1096 => ?_)
    · have hgd : mGd τ j1076 = false := b2i_eq0.mp c1096
      have hu : md τ j1076 = -1 := (h.grd0 hj1076 he).2 hgd
      have hlh : mo τ j1076 ≤ mh τ j1076 := ((q j1076 hj1076).1 he).1
      obtain ⟨e1, e2, _, h20, e5, _, e7, e8, _⟩ := h.e hj1076 he
      have esu : gsu σ j1076 = nI (mo τ j1076) := by rw [e7, if_pos hu]
      have eho : gho σ j1076 = nI (mh τ j1076) := by rw [e8, if_pos hu]
      refine lv_aload hx hb dL_law_1102 (lv_at hl 2 rfl) ?_
      refine lv_iload hx hb dL_law_1104 (lv_at hl 0 rfl) ?_
      refine s_ild hx hb hK hqs (k := j1076) (by omega) (by omega) (v := gsu σ j1076) (hfs j1076 (by omega)) dL_law_1106 ?_
      rw [esu]
      refine lv_iload hx hb dL_law_1107 (lv_at hl 5 rfl) ?_
      refine lv_iconst (v := 5) hx hb dL_law_1109 (by decide) ?_
      refine lv_ishr hx hb dL_law_1110 ?_
      refine lv_aload hx hb dL_law_1111 (lv_at hl 1 rfl) ?_
      refine lv_iload hx hb dL_law_1113 (lv_at hl 0 rfl) ?_
      refine s_ild hx hb hK hqh (k := j1076) (by omega) (by omega) (v := gho σ j1076) (hgs j1076 (by omega)) dL_law_1115 ?_
      rw [eho]
      refine lv_aload hx hb dL_law_1116 (lv_at hl 2 rfl) ?_
      refine lv_iload hx hb dL_law_1118 (lv_at hl 0 rfl) ?_
      refine s_ild hx hb hK hqs (k := j1076) (by omega) (by omega) (v := gsu σ j1076) (hfs j1076 (by omega)) dL_law_1120 ?_
      rw [esu]
      refine lv_isub hx hb dL_law_1121 ?_
      rw [pk_sub (a := mh τ j1076) (b := mo τ j1076) hlh]
      refine lv_iconst (v := 1) hx hb dL_law_1122 (by decide) ?_
      refine lv_iadd hx hb dL_law_1123 ?_
      rw [nI_1 (mh τ j1076 - mo τ j1076)]
      refine l_below (N := (mh τ j1076 - mo τ j1076) + 1) (by omega) (by omega) S (va_cwS 2 hts gL_law_L_below rfl rfl rfl hdL_below ⟨Nat.le_of_ble_eq_true rfl, Nat.le_of_ble_eq_true rfl⟩) hK hl.1 (Nat.le_of_ble_eq_true rfl) ⟨by show cells ≤ 600130; omega, by show slots ≤ 7301080; omega⟩ dL_law_1124 (fun j1124 hj1124 => ?_)
      refine lv_iadd hx hb dL_law_1127 ?_
      rw [nI_add (mo τ j1076) j1124]
      refine lv_istore (lv' := [(14, .int (nI ((mo τ j1076) + j1124))), (13, .int (nI j1076)), (11, .ref qh), (10, .ref qs), (9, .int (mGn τ)), (7, .int (nI (mn τ))), (4, .int x4), (3, .int (nI t)), (2, .ref (b 0)), (1, .ref (a 0)), (0, .ref sb)]) hx hb dL_law_1128 hl (by decide) rfl (fun ls hl => ?_)
      refine lv_aload_n hx hb dL_law_1130 rfl (lv_at hl 8 rfl) ?_
      refine s_get hx hb hts hts1 hown hK hG.2.2.1 0 (by decide) (by decide +kernel) rfl rfl dL_law_1131 ?_
      refine lv_iload hx hb dL_law_1134 (lv_at hl 1 rfl) ?_
      refine s_ald hx hb hK (si_p hG.2.2.1) (k := j1076) hj1076 (by omega) rfl dL_law_1136 ?_
      refine lv_iconst (v := nI 3) hx hb dL_law_1137 (by decide) ?_
      refine lv_iload hx hb dL_law_1138 (lv_at hl 0 rfl) ?_
      refine s_ist hx hb hK (si_r hG.2.2.1 (p := j1076) hj1076) (hG.2.2.2.1.1 (3 + 2 * j1076) (Or.inr (Or.inl ⟨j1076, hj1076, rfl⟩))) hS (k := 3) (by decide) (by decide) rfl dL_law_1140 (fun H locs _ oq hW hS => ?_)
      have hG2 := LG.setP hG hj1076 oq hW
      have vj : si_V (mn τ) (mk τ) (3 + 2 * j1076) := Or.inr (Or.inl ⟨j1076, hj1076, rfl⟩)
      have hqs := gP1 ((gP1' hqs).kept (oq qs (hos.2 _ vj)))
      have hqh := gP1 ((gP1' hqh).kept (oq qh (hoh.2 _ vj)))
      refine lv_aload_n hx hb dL_law_1141 rfl (lv_at hl 9 rfl) ?_
      refine lv_iload hx hb dL_law_1142 (lv_at hl 1 rfl) ?_
      refine lv_iload hx hb dL_law_1144 (lv_at hl 0 rfl) ?_
      refine l0w (As := [.int (nI j1076), .int (nI (mo τ j1076 + j1124))]) (rest := []) (σ' := gGrd σ j1076 (nI (mo τ j1076 + j1124))) S (fun sz => c_grade l E a σ sz h.gok j1076 (mo τ j1076 + j1124) (by rw [h.n]; exact hj1076) (by rw [h.ex hj1076, he]; rfl) (by rw [e1]; omega) (by rw [e2]; omega) (by rw [e2]; exact h20) (by rw [gHas, e5, hu]; rfl)) (cwV 2 hts gL_law_X0_grade rfl rfl rfl hdX0_grade ⟨Nat.le_of_ble_eq_true rfl, Nat.le_of_ble_eq_true rfl⟩) hK hG2 hS LA_sz rfl hl.1 rfl (Nat.le_of_ble_eq_true rfl) ⟨by show cells ≤ 600130; omega, by show slots ≤ 7301080; omega⟩ dL_law_1146 (fun H locs _ hkq hG hS => ?_)
      have hqs := gP1 ((gP1' hqs).kept (hkq qs (gP1' hqs).lt hos.1))
      have hqh := gP1 ((gP1' hqh).kept (hkq qh (gP1' hqh).lt hoh.1))
      refine lv_iload hx hb dL_law_1149 (lv_at hl 4 rfl) ?_
      refine lv_iconst (v := 1) hx hb dL_law_1151 (by decide) ?_
      refine lv_iadd hx hb dL_law_1152 ?_
      refine lv_icmp_eq (tgt := 1158) hx hb dL_law_1153 (by decide) (fun _ => ?_) (fun q => absurd ((by rw [h.2.2.2.2.2.2.1])) q)
      refine lv_iconst (v := 0) hx hb dL_law_1158 (by decide) ?_
      refine lv_istore (lv' := [(15, .int 0), (14, .int (nI ((mo τ j1076) + j1124))), (13, .int (nI j1076)), (11, .ref qh), (10, .ref qs), (9, .int (mGn τ)), (7, .int (nI (mn τ))), (4, .int x4), (3, .int (nI t)), (2, .ref (b 0)), (1, .ref (a 0)), (0, .ref sb)]) hx hb dL_law_1159 hl (by decide) rfl (fun ls hl => ?_)
      have h2 := h.grd (g := mo τ j1076 + j1124) hj1076 he (by omega) hu
      have q2 := q.grd (g := mo τ j1076 + j1124) hj1076 he (by omega) (by omega)
      exact lp_1161 hC.1 h q h2 q2 hj1076 he hu (by omega) (by omega) hfs hgs hG.1 hqs hqh hcs hss (fun ls hl => kk _ _ H locs ls h2 q2 h1n hG hS hl) (mn τ) 0 ls (by omega) (lv_sub hl [0, 2, 3, 4, 6, 8, 9, 10, 11] rfl)
    · refine lv_goto (tgt := 1243) hx hb dL_law_1099 (by decide) ?_
      exact kk σ τ H locs ls h q h1n hG hS (lv_sub hl [6, 7, 8, 9] rfl)
end LAWT
