/-! how many bits of a long are set: Long.bitCount -/
theorem bc_and (x y m M : Nat) (hx : x < 256) (hm : m < 256) : (x + 256 * y) &&& (m + 256 * M) = (x &&& m) + 256 * (y &&& M) := by
  have h1 : ((x + 256 * y) &&& (m + 256 * M)) % 2 ^ 8 = x &&& m := by
    rw [Nat.and_mod_two_pow, show (x + 256 * y) % 2 ^ 8 = x by omega, show (m + 256 * M) % 2 ^ 8 = m by omega]
  have h2 : ((x + 256 * y) &&& (m + 256 * M)) / 2 ^ 8 = y &&& M := by
    rw [Nat.and_div_two_pow, show (x + 256 * y) / 2 ^ 8 = y by omega, show (m + 256 * M) / 2 ^ 8 = M by omega]
  have h3 := Nat.mod_add_div ((x + 256 * y) &&& (m + 256 * M)) (2 ^ 8)
  rw [h1, h2] at h3
  exact h3.symm
def bcR (m : Nat) : Nat → Nat
  | 0 => 0
  | k + 1 => m + 256 * bcR m k
def bc1 (k u : Nat) : Nat := u - (u / 2 &&& bcR 85 k)
def bc2 (k u : Nat) : Nat := (u &&& bcR 51 k) + (u / 4 &&& bcR 51 k)
def bc3 (k u : Nat) : Nat := (u + u / 16) &&& bcR 15 k
def bc8 (u : Nat) : Nat := (((u - (u / 2 &&& 85)) &&& 51) + ((u - (u / 2 &&& 85)) / 4 &&& 51) + (((u - (u / 2 &&& 85)) &&& 51) + ((u - (u / 2 &&& 85)) / 4 &&& 51)) / 16) &&& 15
theorem bc_d1 : ∀ x, x < 256 → ∀ t, t < 2 → (x / 2 + 128 * t) &&& 85 = x / 2 &&& 85 := by decide +kernel
theorem bc_d2 : ∀ x, x < 256 → ∀ t, t < 4 → (x / 4 + 64 * t) &&& 51 = x / 4 &&& 51 := by decide +kernel
theorem bc_d3 : ∀ x, x < 110 → ∀ t, t < 8 → (x + 16 * t) &&& 15 = x &&& 15 := by decide +kernel
theorem bc_d4 : ∀ x, x < 256 → bc8 x = fb_ct (fun i => x.testBit i) 8 ∧ bc8 x ≤ 8 := by decide +kernel
theorem bc_d5 : ∀ x, x < 256 → x - (x / 2 &&& 85) < 256 ∧ (x &&& 51) + (x / 4 &&& 51) ≤ 102 := by decide +kernel
theorem bc1_s (k x y : Nat) (h : x < 256) : bc1 (k + 1) (x + 256 * y) = (x - (x / 2 &&& 85)) + 256 * bc1 k y := by
  have e : (x + 256 * y) / 2 = (x / 2 + 128 * (y % 2)) + 256 * (y / 2) := by omega
  have l1 : x / 2 &&& 85 ≤ x / 2 := Nat.and_le_left
  have l2 : y / 2 &&& bcR 85 k ≤ y / 2 := Nat.and_le_left
  rw [bc1, bcR, e, bc_and _ _ _ _ (by omega) (by decide), bc_d1 x h (y % 2) (by omega), bc1]
  omega
theorem bc2_s (k x y : Nat) (h : x < 256) : bc2 (k + 1) (x + 256 * y) = ((x &&& 51) + (x / 4 &&& 51)) + 256 * bc2 k y := by
  have e : (x + 256 * y) / 4 = (x / 4 + 64 * (y % 4)) + 256 * (y / 4) := by omega
  rw [bc2, bcR, e, bc_and _ _ _ _ h (by decide), bc_and _ _ _ _ (by omega) (by decide), bc_d2 x h (y % 4) (by omega), bc2]
  omega
theorem bc2_n (k u : Nat) : bc2 k u % 16 ≤ 6 := by
  have h0 : bcR 51 k % 2 ^ 4 ≤ 3 := by
    cases k with
    | zero => decide
    | succ k => rw [bcR]; omega
  have h1 : (u &&& bcR 51 k) % 2 ^ 4 ≤ 3 := by
    rw [Nat.and_mod_two_pow]
    exact Nat.le_trans Nat.and_le_right h0
  have h2 : (u / 4 &&& bcR 51 k) % 2 ^ 4 ≤ 3 := by
    rw [Nat.and_mod_two_pow]
    exact Nat.le_trans Nat.and_le_right h0
  rw [bc2]
  omega
theorem bc3_s (k x y : Nat) (h : x ≤ 102) (hy : y % 16 ≤ 6) : bc3 (k + 1) (x + 256 * y) = ((x + x / 16) &&& 15) + 256 * bc3 k y := by
  have e : (x + 256 * y) + (x + 256 * y) / 16 = ((x + x / 16) + 16 * (y % 16)) + 256 * (y + y / 16) := by omega
  rw [bc3, bcR, e, bc_and _ _ _ _ (by omega) (by decide), bc_d3 _ (by omega) (y % 16) (by omega), bc3]
def bcF (k u : Nat) : Nat := bc3 k (bc2 k (bc1 k u))
theorem bcF_s (k u : Nat) : bcF (k + 1) u = bc8 (u % 256) + 256 * bcF k (u / 256) := by
  have h : u % 256 < 256 := Nat.mod_lt _ (by decide)
  have d := bc_d5 (u % 256) h
  have e : u = u % 256 + 256 * (u / 256) := by omega
  rw [bcF]
  conv => lhs; rw [e]
  rw [bc1_s k _ _ h, bc2_s k _ _ d.1, bc3_s k _ _ (bc_d5 _ d.1).2 (bc2_n _ _)]
  rfl
theorem bcF_0 (u : Nat) : bcF 0 u = 0 := by rw [bcF, bc3, bcR, Nat.and_zero]
/-- the bytes' counts, as digits -/
theorem bcF_ct : ∀ (k u : Nat), bcF k u % 256 ≤ 8
  | 0, u => by rw [bcF_0]; decide
  | k + 1, u => by
    have := (bc_d4 (u % 256) (Nat.mod_lt _ (by decide))).2
    rw [bcF_s]
    omega
theorem ct_byte (u n : Nat) : fb_ct (fun i => u.testBit i) (8 + n) = bc8 (u % 256) + fb_ct (fun i => (u / 256).testBit i) n := by
  rw [fb_ct_split, (bc_d4 (u % 256) (Nat.mod_lt _ (by decide))).1]
  congr 1
  · refine fb_ct_cong (fun k hk => ?_)
    show u.testBit k = (u % 2 ^ 8).testBit k
    rw [Nat.testBit_mod_two_pow, decide_eq_true hk, Bool.true_and]
  · refine fb_ct_cong (fun k hk => ?_)
    show u.testBit (8 + k) = (u / 2 ^ 8).testBit k
    rw [Nat.testBit_div_two_pow, Nat.add_comm]
theorem bc_q (n x y : Nat) (h0 : 0 < n) (h : x < n) : (x + n * y) / n = y := by
  rw [Nat.add_mul_div_left _ _ h0, Nat.div_eq_of_lt h, Nat.zero_add]
/-- two digits of a sum of a number and its shift -/
theorem bc_w (a b c z : Nat) : (a + 256 * (b + 256 * (c + 256 * z))) + (b + 256 * (c + 256 * z)) = ((a + b) + 256 * (b + c)) + 65536 * ((c + 256 * z) + z) := by omega
theorem bc_x (p q r t y : Nat) : (p + 256 * q + 65536 * (r + 256 * t + 65536 * y)) + (r + 256 * t + 65536 * y) = ((p + r) + 256 * (q + t) + 65536 * r + 16777216 * t) + 65536 * y + 4294967296 * y := by omega
theorem bc_x2 (p q r t p2 q2 y : Nat) : ((p + r) + 256 * (q + t) + 65536 * r + 16777216 * t) + 65536 * (p2 + 256 * q2 + 65536 * y) + 4294967296 * (p2 + 256 * q2 + 65536 * y) = ((p + r) + 256 * (q + t) + 65536 * (r + p2) + 16777216 * (t + q2)) + 4294967296 * (y + (p2 + 256 * q2 + 65536 * y)) := by omega
theorem bc_m (x y z : Nat) : (x + 256 * y + 65536 * z) % 128 = x % 128 := by omega
theorem bc_sum (c0 c1 c2 c3 c4 c5 c6 c7 : Nat) (h0 : c0 ≤ 8) (h1 : c1 ≤ 8) (h2 : c2 ≤ 8) (h3 : c3 ≤ 8) (h4 : c4 ≤ 8) (h5 : c5 ≤ 8) (h6 : c6 ≤ 8) (h7 : c7 ≤ 8) (V : Nat)
    (eV : V = c0 + 256 * (c1 + 256 * (c2 + 256 * (c3 + 256 * (c4 + 256 * (c5 + 256 * (c6 + 256 * (c7 + 256 * 0)))))))) :
    ((V + V / 256 + (V + V / 256) / 65536) + (V + V / 256 + (V + V / 256) / 65536) / 4294967296) % 128 = c0 + (c1 + (c2 + (c3 + (c4 + (c5 + (c6 + (c7 + 0))))))) := by
  have d1 : V / 256 = c1 + 256 * (c2 + 256 * (c3 + 256 * (c4 + 256 * (c5 + 256 * (c6 + 256 * (c7 + 256 * 0)))))) := by
    rw [eV]; exact bc_q 256 c0 _ (by decide) (by omega)
  have d2 : V + V / 256 = ((c0 + c1) + 256 * (c1 + c2)) + 65536 * (((c2 + c3) + 256 * (c3 + c4)) + 65536 * (((c4 + c5) + 256 * (c5 + c6)) + 65536 * ((c6 + 256 * (c7 + 256 * 0)) + (c7 + 256 * 0)))) := by
    rw [d1, eV, bc_w, bc_w, bc_w]
  have d3 : (V + V / 256) / 65536 = ((c2 + c3) + 256 * (c3 + c4)) + 65536 * (((c4 + c5) + 256 * (c5 + c6)) + 65536 * ((c6 + 256 * (c7 + 256 * 0)) + (c7 + 256 * 0))) := by
    rw [d2]; exact bc_q 65536 _ _ (by decide) (by omega)
  have d4 : V + V / 256 + (V + V / 256) / 65536 = ((c0 + c1 + (c2 + c3)) + 256 * (c1 + c2 + (c3 + c4)) + 65536 * ((c2 + c3) + (c4 + c5)) + 16777216 * ((c3 + c4) + (c5 + c6))) + 4294967296 * (((c6 + 256 * (c7 + 256 * 0)) + (c7 + 256 * 0)) + ((c4 + c5) + 256 * (c5 + c6) + 65536 * ((c6 + 256 * (c7 + 256 * 0)) + (c7 + 256 * 0)))) := by
    rw [d3, d2, bc_x, bc_x2]
  have d5 : (V + V / 256 + (V + V / 256) / 65536) / 4294967296 = ((c6 + 256 * (c7 + 256 * 0)) + (c7 + 256 * 0)) + ((c4 + c5) + 256 * (c5 + c6) + 65536 * ((c6 + 256 * (c7 + 256 * 0)) + (c7 + 256 * 0))) := by
    rw [d4]; exact bc_q 4294967296 _ _ (by decide) (by omega)
  rw [d5, d4]
  clear d1 d2 d3 d4 d5 eV
  omega
theorem bc_end (u : Nat) : ((bcF 8 u + bcF 8 u / 256 + (bcF 8 u + bcF 8 u / 256) / 65536) + (bcF 8 u + bcF 8 u / 256 + (bcF 8 u + bcF 8 u / 256) / 65536) / 4294967296) % 128 = fb_ct (fun i => u.testBit i) 64 := by
  have h (x : Nat) : bc8 (x % 256) ≤ 8 := (bc_d4 (x % 256) (Nat.mod_lt _ (by decide))).2
  rw [show 64 = 8 + (8 + (8 + (8 + (8 + (8 + (8 + (8 + 0))))))) from rfl]
  simp only [ct_byte]
  rw [show fb_ct (fun i => (u / 256 / 256 / 256 / 256 / 256 / 256 / 256 / 256).testBit i) 0 = 0 from rfl]
  exact bc_sum _ _ _ _ _ _ _ _ (h _) (h _) (h _) (h _) (h _) (h _) (h _) (h _) _
    (by rw [bcF_s 7, bcF_s 6, bcF_s 5, bcF_s 4, bcF_s 3, bcF_s 2, bcF_s 1, bcF_s 0, bcF_0])
/-- how many bits are set -/
def popc (x : Int64) : Int32 := nI (fb_ct (fun i => x.toBitVec.getLsbD i) 64)
theorem popc_lN (u : Nat) : popc (lN u) = nI (fb_ct (fun i => u.testBit i) 64) := by
  rw [popc]
  congr 1
  refine fb_ct_cong (fun i hi => ?_)
  rw [lN_bv, BitVec.getLsbD_ofNat, decide_eq_true hi, Bool.true_and]
theorem hdJ13_bitCount_95d88 : yJ13_bitCount_95d88.cls = RJ13 ∧ yJ13_bitCount_95d88.cls ≠ "java/lang/invoke/MethodHandle" ∧ yJ13_bitCount_95d88.cls ≠ "java/lang/invoke/VarHandle" ∧ (parseMethodDescriptor yJ13_bitCount_95d88.desc).map (fun d => d.parameters.length) = some 1 := by decide +kernel
set_option maxHeartbeats 4000000 in
set_option maxRecDepth 100000 in
theorem c_bitCount (l : Launch) (E : GE) (x : Int64) : Met l yJ13_bitCount_95d88 wsJ13_bitCount_95d88 rmZ (va_Pc [.long x] (gB E [])) (vp_Si (fun r => r = popc x)) 0 0 (fun _ => False) := by
  refine w_met (cc := cJ13_bitCount_95d88) (maxL := 2) (ret := some .int) (by decide) rfl (Nat.le_of_ble_eq_true rfl) ?_
  intro p e s m below meth c ls S hr hlocks hname hB hl
  obtain ⟨hx, hb, hml, hown, hts⟩ := id S
  have hl : lv_has ls 2 [(0, .long x)] := hl
  obtain ⟨u, hu, rfl⟩ := wb_of x
  have k5 : bcR 85 8 = 6148914691236517205 := by decide
  have k3 : bcR 51 8 = 3689348814741910323 := by decide
  have kf : bcR 15 8 = 1085102592571150095 := by decide
  have b1 : bc1 8 u ≤ u := Nat.sub_le _ _
  have b2 : bc2 8 (bc1 8 u) ≤ 2 * 3689348814741910323 := by
    have q1 : bc1 8 u &&& bcR 51 8 ≤ bcR 51 8 := Nat.and_le_right
    have q2 : bc1 8 u / 4 &&& bcR 51 8 ≤ bcR 51 8 := Nat.and_le_right
    rw [k3] at q1 q2
    rw [bc2, k3]
    omega
  have b3 : bcF 8 u ≤ 1085102592571150095 := by
    rw [bcF, bc3, kf]
    exact Nat.and_le_right
  refine lv_lload_n hx hb dJ13_bitCount_95d88_0 rfl (lv_at hl 0 rfl) ?_
  refine lv_lload_n hx hb dJ13_bitCount_95d88_1 rfl (lv_at hl 0 rfl) ?_
  refine lv_iconst (v := nI 1) hx hb dJ13_bitCount_95d88_2 (by decide) ?_
  refine lv_lushr (v := lN (u / 2)) hx hb dJ13_bitCount_95d88_3 (wb_shr hu (by decide)) ?_
  refine lv_ldc2 (v := 6148914691236517205) hx hb hown (hts (.constantLong RJ13 314 (6148914691236517205)) (by decide +kernel)) dJ13_bitCount_95d88_4 ?_
  refine lv_land hx hb dJ13_bitCount_95d88_7 ?_
  refine lv_lsub hx hb dJ13_bitCount_95d88_8 ?_
  have e1 : lN u - (lN (u / 2) &&& 6148914691236517205) = lN (bc1 8 u) := by
    rw [show (6148914691236517205 : Int64) = lN 6148914691236517205 from rfl, wb_and (by omega) (by decide), lN_sub (Nat.le_trans Nat.and_le_left (by omega)), bc1, k5]
  rw [e1]
  refine lv_lstore_n (lv' := [(0, .long (lN (bc1 8 u)))]) hx hb dJ13_bitCount_95d88_9 rfl hl (by decide) rfl (fun ls hl => ?_)
  refine lv_lload_n hx hb dJ13_bitCount_95d88_10 rfl (lv_at hl 0 rfl) ?_
  refine lv_ldc2 (v := 3689348814741910323) hx hb hown (hts (.constantLong RJ13 316 (3689348814741910323)) (by decide +kernel)) dJ13_bitCount_95d88_11 ?_
  refine lv_land hx hb dJ13_bitCount_95d88_14 ?_
  refine lv_lload_n hx hb dJ13_bitCount_95d88_15 rfl (lv_at hl 0 rfl) ?_
  refine lv_iconst (v := nI 2) hx hb dJ13_bitCount_95d88_16 (by decide) ?_
  refine lv_lushr (v := lN (bc1 8 u / 4)) hx hb dJ13_bitCount_95d88_17 (wb_shr (by omega) (by decide)) ?_
  refine lv_ldc2 (v := 3689348814741910323) hx hb hown (hts (.constantLong RJ13 316 (3689348814741910323)) (by decide +kernel)) dJ13_bitCount_95d88_18 ?_
  refine lv_land hx hb dJ13_bitCount_95d88_21 ?_
  refine lv_ladd hx hb dJ13_bitCount_95d88_22 ?_
  have e2 : (lN (bc1 8 u) &&& 3689348814741910323) + (lN (bc1 8 u / 4) &&& 3689348814741910323) = lN (bc2 8 (bc1 8 u)) := by
    rw [show (3689348814741910323 : Int64) = lN 3689348814741910323 from rfl, wb_and (by omega) (by decide), wb_and (by omega) (by decide), lN_add, bc2, k3]
  rw [e2]
  refine lv_lstore_n (lv' := [(0, .long (lN (bc2 8 (bc1 8 u))))]) hx hb dJ13_bitCount_95d88_23 rfl hl (by decide) rfl (fun ls hl => ?_)
  refine lv_lload_n hx hb dJ13_bitCount_95d88_24 rfl (lv_at hl 0 rfl) ?_
  refine lv_lload_n hx hb dJ13_bitCount_95d88_25 rfl (lv_at hl 0 rfl) ?_
  refine lv_iconst (v := nI 4) hx hb dJ13_bitCount_95d88_26 (by decide) ?_
  refine lv_lushr (v := lN (bc2 8 (bc1 8 u) / 16)) hx hb dJ13_bitCount_95d88_27 (wb_shr (by omega) (by decide)) ?_
  refine lv_ladd hx hb dJ13_bitCount_95d88_28 ?_
  refine lv_ldc2 (v := 1085102592571150095) hx hb hown (hts (.constantLong RJ13 318 (1085102592571150095)) (by decide +kernel)) dJ13_bitCount_95d88_29 ?_
  refine lv_land hx hb dJ13_bitCount_95d88_32 ?_
  have e3 : (lN (bc2 8 (bc1 8 u)) + lN (bc2 8 (bc1 8 u) / 16)) &&& 1085102592571150095 = lN (bcF 8 u) := by
    rw [show (1085102592571150095 : Int64) = lN 1085102592571150095 from rfl, lN_add, wb_and (by omega) (by decide), bcF, bc3, kf]
  rw [e3]
  generalize hf : bcF 8 u = f at b3 ⊢
  refine lv_lstore_n (lv' := [(0, .long (lN f))]) hx hb dJ13_bitCount_95d88_33 rfl hl (by decide) rfl (fun ls hl => ?_)
  refine lv_lload_n hx hb dJ13_bitCount_95d88_34 rfl (lv_at hl 0 rfl) ?_
  refine lv_lload_n hx hb dJ13_bitCount_95d88_35 rfl (lv_at hl 0 rfl) ?_
  refine lv_bipush (v := nI 8) hx hb dJ13_bitCount_95d88_36 (by decide) ?_
  refine lv_lushr (v := lN (f / 256)) hx hb dJ13_bitCount_95d88_38 (wb_shr (by omega) (by decide)) ?_
  refine lv_ladd hx hb dJ13_bitCount_95d88_39 ?_
  rw [lN_add]
  refine lv_lstore_n (lv' := [(0, .long (lN (f + f / 256)))]) hx hb dJ13_bitCount_95d88_40 rfl hl (by decide) rfl (fun ls hl => ?_)
  refine lv_lload_n hx hb dJ13_bitCount_95d88_41 rfl (lv_at hl 0 rfl) ?_
  refine lv_lload_n hx hb dJ13_bitCount_95d88_42 rfl (lv_at hl 0 rfl) ?_
  refine lv_bipush (v := nI 16) hx hb dJ13_bitCount_95d88_43 (by decide) ?_
  refine lv_lushr (v := lN ((f + f / 256) / 65536)) hx hb dJ13_bitCount_95d88_45 (wb_shr (by omega) (by decide)) ?_
  refine lv_ladd hx hb dJ13_bitCount_95d88_46 ?_
  rw [lN_add]
  refine lv_lstore_n (lv' := [(0, .long (lN (f + f / 256 + (f + f / 256) / 65536)))]) hx hb dJ13_bitCount_95d88_47 rfl hl (by decide) rfl (fun ls hl => ?_)
  refine lv_lload_n hx hb dJ13_bitCount_95d88_48 rfl (lv_at hl 0 rfl) ?_
  refine lv_lload_n hx hb dJ13_bitCount_95d88_49 rfl (lv_at hl 0 rfl) ?_
  refine lv_bipush (v := nI 32) hx hb dJ13_bitCount_95d88_50 (by decide) ?_
  refine lv_lushr (v := lN ((f + f / 256 + (f + f / 256) / 65536) / 4294967296)) hx hb dJ13_bitCount_95d88_52 (wb_shr (by omega) (by decide)) ?_
  refine lv_ladd hx hb dJ13_bitCount_95d88_53 ?_
  rw [lN_add]
  refine lv_lstore_n (lv' := [(0, .long (lN (f + f / 256 + (f + f / 256) / 65536 + (f + f / 256 + (f + f / 256) / 65536) / 4294967296)))]) hx hb dJ13_bitCount_95d88_54 rfl hl (by decide) rfl (fun ls hl => ?_)
  refine lv_lload_n hx hb dJ13_bitCount_95d88_55 rfl (lv_at hl 0 rfl) ?_
  refine lv_l2i hx hb dJ13_bitCount_95d88_56 (lN_i _) ?_
  refine lv_bipush (v := nI 127) hx hb dJ13_bitCount_95d88_57 (by decide) ?_
  refine lv_iand hx hb dJ13_bitCount_95d88_59 ?_
  refine W.iret hx hb hr (fun t ht hW => ⟨_, rfl, ?_, ht⟩) (fun _ h => nomatch h) dJ13_bitCount_95d88_60
  rw [nx_and, show (127 : Nat) = 2 ^ 7 - 1 from rfl, Nat.and_two_pow_sub_one_eq_mod, popc_lN, ← hf]
  exact congrArg nI (bc_end u)
