/-! the law's walk: what holds, and its calls -/
def LA (s : State) : Nat → Prop := fun q => s.heap.size ≤ q
theorem LA_sz {s : State} : ∀ q : Nat, s.heap.size ≤ q → LA s q := fun _ h => h
def LC (p : Program) (l : Launch) (s : State) (m : MethodId) (meth : Method) (c : Code) (sb L : Nat) (xs : Nat → Int32) (E : GE) : Prop := CallFix p m c cL_law 23 s #[Value.ref sb] wsL_law RL ∧ gK E s ∧ gQ s ∧ gZA (LA s) s s.heap ∧ va_X sb L xs s s.heap ∧ sb < s.heap.size ∧ L ≤ 260 ∧ l.stackTraces = false ∧ meth.sig.returnType = ret ∧ meth.locks = false
abbrev lW (p : Program) (l : Launch) (e : Env) (s : State) (m : MethodId) (below : List Frame) (meth : Method) (c : Code) (sb : Nat) (H : Heap) (locs : List Loc) (cells slots pc : Nat) (ls : Array Slot) (st : List Value) : Prop := W p l e room_1 s m #[Value.ref sb] below meth c H locs cells slots (lw_Z below #[Value.ref sb] s) (F0 m pc ls st)
/-- a cell that is no cell of either garden -/
def offL (a b : Nat → Nat) (τ : MS) (q : Nat) : Prop := (∀ j, j < 14 → q ≠ a j) ∧ ∀ i, si_V (mn τ) (mk τ) i → q ≠ b i
theorem LG.off {A : Nat → Prop} {E : GE} {a b : Nat → Nat} {σ : GS} {τ : MS} {H H1 : Heap} (h : LG A E a b σ τ H) {q : Nat} (ho : offL a b τ q) (hk : ∀ z, z ≠ q → H1[z]? = H[z]?) : LG A E a b σ τ H1 :=
  ⟨va_P.kept h.1 (fun k z hz => by
    obtain ⟨k1, k2⟩ := gW_ad (e := z.2) hz
    exact hk _ (fun e => ho.1 k k1 (by rw [← e]; exact k2))), h.2.1, h.2.2.1.kept (fun i hi => hk _ (fun e => ho.2 i hi e.symm)), h.2.2.2⟩
theorem LG.offL {A : Nat → Prop} {E : GE} {a b : Nat → Nat} {σ : GS} {τ : MS} {H : Heap} (h : LG A E a b σ τ H) {q : Nat} (hq : H.size ≤ q) : offL a b τ q :=
  ⟨fun j hj e => by have := (h.alt hj).1; omega, fun i hi e => by have := h.2.2.1.lt hi; omega⟩
/-- while the law looks: both gardens, and the rows of sure grades and of hopes -/
def LPl (p : Program) (l : Launch) (s : State) (m : MethodId) (meth : Method) (c : Code) (sb L : Nat) (xs : Nat → Int32) (E : GE) (a b : Nat → Nat) (σ : GS) (τ : MS) (qs qh : Nat) (f g : Nat → Int32) (H : Heap) (locs : List Loc) (cells slots : Nat) : Prop := LC p l s m meth c sb L xs E ∧ RR σ τ ∧ RQ τ ∧ LG (LA s) E a b σ τ H ∧ va_S (LA s) s.heap H locs ∧ gP E [(qs, gI E (mn τ) f)] H ∧ gP E [(qh, gI E (mn τ) g)] H ∧ cells ≤ 600000 ∧ slots ≤ 7300000
section LAWS
variable {p : Program} {l : Launch} {e : Env} {R : Room} {s : State} {m : MethodId} {args : Array Value} {below : List Frame} {meth : Method} {c : Code} {H H0 : Heap} {locs : List Loc} {cells slots : Nat} {Q : State → Prop} {A : Nat → Prop}
variable {cc : ByteArray} {pc nL index : Nat} {ls : Array Slot} {rest : List Value} {E : GE} {Ts : List Cond} {own : String} {a b : Nat → Nat} {σ : GS} {τ : MS}
/-- the law's comparison at its end -/
theorem l_same (S : CallFix p m c cc nL s args Ts own) (h : RR σ τ) (hq : RQ τ) (cw : CallW R s args own RX1 index yX1_isSame cX1_isSame 12 (some .boolean) wsX1_isSame sRm 7100 290000 1) (hK : gK E s) (hG : LG A E a b σ τ H) (hS : va_S A H0 H locs)
    (hsize : ls.size = nL) (hW : (rest.map fun v => v.category).sum ≤ 8) (hf : cells + 7100 ≤ R.cells ∧ slots + 290000 ≤ R.slots) (hdg : decode cc pc = .ok (.invokevirtual index, 3))
    (kk : ∀ (H1 : Heap) (locs1 : List Loc), va_S A H0 H1 locs1 → W p l e R s m args below meth c H1 locs1 (cells + 7100) (slots + 290000) Q (F0 m (pc + 3) ls (.int 1 :: rest))) : W p l e R s m args below meth c H locs cells slots Q (F0 m pc ls (.ref (a 0) :: .ref (b 0) :: rest)) :=
  va_calli (va_runV (As := [.ref (a 0)]) (rest := rest) S (c_isSame l E a b σ τ h hq) cw (gH_preV (ci := 1) (q := (RX1, TX1, 2)) (X := sBoth E a b σ τ) ⟨hG.1, hG.2.2.1⟩ (si_o hG.2.2.1) hK rfl [.ref (a 0)]) rfl rfl hsize rfl (lv_room hW) hdg hf) hS (fun _ _ h => h.elim) (fun _ h => h.elim) (fun r _ t H1 locs1 ht _ hr hB hz hq hS1 => by
    rw [hr]
    exact kk H1 locs1 hS1)
end LAWS
