/-! the two gardens side by side: when they hold the same -/
def RPe (σ : GS) (τ : MS) (p : Nat) : Prop := glo σ p = mo τ p ∧ ghi σ p = mh τ p ∧ mo τ p ≤ 20 ∧ mh τ p ≤ 20 ∧ ggr σ p = md τ p ∧ (md τ p = -1 ∨ ∃ g, g ≤ 20 ∧ md τ p = nI g) ∧ gsu σ p = (if md τ p = -1 then nI (mo τ p) else md τ p) ∧ gho σ p = (if md τ p = -1 then nI (mh τ p) else md τ p) ∧ ghs σ p = (if md τ p = -1 then 0 else md τ p) ∧ ∀ o, bitL (mr τ p) o = decide (o = p)
def RPf (σ : GS) (τ : MS) (p : Nat) : Prop := glf σ p = mo τ p ∧ grt σ p = mh τ p ∧ mo τ p < p ∧ mh τ p < p ∧ gwt σ p = md τ p ∧ ggr σ p = -1 ∧ gsu σ p = imx (gsu σ (mo τ p)) (gsu σ (mh τ p)) ∧ gho σ p = imx (gho σ (mo τ p)) (gho σ (mh τ p)) ∧ ghs σ p = imx (ghs σ (mo τ p)) (ghs σ (mh τ p)) ∧ ∀ o, bitL (mr τ p) o = (bitL (mr τ (mo τ p)) o || bitL (mr τ (mh τ p)) o || decide (o = p))
def RP (σ : GS) (τ : MS) (p : Nat) : Prop := grb σ p = mr τ p ∧ gEx (ge σ) p = !mf τ p ∧ (mf τ p = true → RPf σ τ p) ∧ (mf τ p = false → RPe σ τ p)
def RS (σ : GS) (τ : MS) : Prop := gst σ = ms τ ∧ gpc σ = mp τ ∧ gpf σ = mw τ ∧ (∀ s, mk τ ≤ s → mp τ s = 0) ∧ (∀ s, s < mk τ → ms τ s < mn τ) ∧ (∀ s j, j < mp τ s → mf τ (mw τ (40 * s + j)) = true ∧ mw τ (40 * s + j) + j ≤ 39) ∧ (∀ j, ms τ j < 40) ∧ (∀ j, mw τ j < 40) ∧ (∀ j, ms τ j + mp τ j ≤ 39)
def RA (σ : GS) (τ : MS) : Prop := (∀ j, glf σ j < 40) ∧ (∀ j, grt σ j < 40) ∧ (∀ j, mo τ j < 40) ∧ ∀ j, mh τ j < 40
def RR (σ : GS) (τ : MS) : Prop := (mn τ ≤ 40 ∧ mk τ ≤ 8 ∧ gn σ = mn τ ∧ gk σ = mk τ) ∧ (∀ p, p < mn τ → RP σ τ p) ∧ (∀ p, mn τ ≤ p → mf τ p = false) ∧ (∀ p, mn τ ≤ p → p < 64 → gEx (ge σ) p = false) ∧ RA σ τ ∧ RS σ τ ∧ gc σ = mGn τ ∧ gs σ = mSum τ
/-- the reference's table holds what the class keeps -/
def TT (σ : GS) (τ : MS) : Prop := ∀ p, p < mn τ → mu τ p = gsu σ p ∧ mv τ p = gho σ p
theorem RR.lt {σ : GS} {τ : MS} (h : RR σ τ) {p : Nat} (hp : mf τ p = true) : p < mn τ := by
  by_cases c : p < mn τ
  · exact c
  · rw [h.2.2.1 p (by omega)] at hp; cases hp
theorem RR.f {σ : GS} {τ : MS} (h : RR σ τ) {p : Nat} (hp : mf τ p = true) : RPf σ τ p := (h.2.1 p (h.lt hp)).2.2.1 hp
theorem RR.e {σ : GS} {τ : MS} (h : RR σ τ) {p : Nat} (hp : p < mn τ) (q : mf τ p = false) : RPe σ τ p := (h.2.1 p hp).2.2.2 q
theorem RR.mok {σ : GS} {τ : MS} (h : RR σ τ) : MOK τ := ⟨h.1.1, h.1.2.1, h.2.2.2.2.1.2.2.1, h.2.2.2.2.1.2.2.2, h.2.2.2.2.2.1.2.2.2.2.2.2.1, h.2.2.2.2.2.1.2.2.2.2.2.2.2.1, h.2.2.2.2.2.1.2.2.2.2.2.2.2.2, fun _ hp => ⟨(h.f hp).2.2.1, (h.f hp).2.2.2.1⟩, h.2.2.2.2.2.1.2.2.2.2.1⟩
theorem RR.st {σ : GS} {τ : MS} (h : RR σ τ) : gst σ = ms τ := h.2.2.2.2.2.1.1
theorem RR.pc {σ : GS} {τ : MS} (h : RR σ τ) : gpc σ = mp τ := h.2.2.2.2.2.1.2.1
theorem RR.pf {σ : GS} {τ : MS} (h : RR σ τ) : gpf σ = mw τ := h.2.2.2.2.2.1.2.2.1
theorem RR.n {σ : GS} {τ : MS} (h : RR σ τ) : gn σ = mn τ := h.1.2.2.1
theorem RR.k {σ : GS} {τ : MS} (h : RR σ τ) : gk σ = mk τ := h.1.2.2.2
theorem RR.ex {σ : GS} {τ : MS} (h : RR σ τ) {p : Nat} (hp : p < mn τ) : gEx (ge σ) p = !mf τ p := (h.2.1 p hp).2.1
theorem RR.gok {σ : GS} {τ : MS} (h : RR σ τ) : GOK σ := by
  refine ⟨by rw [h.n]; exact h.1.1, by rw [h.k]; exact h.1.2.1, h.2.2.2.2.1.1, h.2.2.2.2.1.2.1, ?_, ?_, ?_, fun p hp q => ?_, fun s hs => ?_⟩
  · intro j; rw [h.st]; exact h.mok.2.2.2.2.1 j
  · intro j; rw [h.pf]; exact h.mok.2.2.2.2.2.1 j
  · intro j; rw [h.st, h.pc]; exact h.mok.2.2.2.2.2.2.1 j
  · rw [h.n] at hp
    rw [h.ex hp] at q
    have hf : mf τ p = true := by cases e : mf τ p <;> rw [e] at q <;> first | rfl | cases q
    obtain ⟨a1, a2, a3, a4, _⟩ := h.f hf
    exact ⟨by rw [a1]; exact a3, by rw [a2]; exact a4⟩
  · rw [h.n, h.st]; rw [h.k] at hs; exact h.mok.2.2.2.2.2.2.2.2 s hs
theorem RR.thr {σ : GS} {τ : MS} (h : RR σ τ) (t : Int32) : RR σ (mThr τ t) := h
theorem RR.tab {σ : GS} {τ : MS} (h : RR σ τ) : RR σ (mTab τ) := h
theorem RR.tt {σ : GS} {τ : MS} (h : RR σ τ) : TT σ (mTab τ) := by
  refine fun p hp => ⟨tb_eq (U := gsu σ) (fun q hq => ⟨fun hf => ?_, fun hf => ?_⟩) (mn τ) (Nat.le_refl _) p hp, tb_eq (U := gho σ) (fun q hq => ⟨fun hf => ?_, fun hf => ?_⟩) (mn τ) (Nat.le_refl _) p hp⟩
  · obtain ⟨_, _, a3, a4, _, _, a7, a8, _⟩ := h.f hf; exact ⟨a3, a4, a7⟩
  · obtain ⟨_, _, _, _, _, _, a7, a8, _⟩ := h.e hq hf; exact a7
  · obtain ⟨_, _, a3, a4, _, _, a7, a8, _⟩ := h.f hf; exact ⟨a3, a4, a8⟩
  · obtain ⟨_, _, _, _, _, _, a7, a8, _⟩ := h.e hq hf; exact a8
theorem RR.to {σ : GS} {τ : MS} (h : RR σ τ) {p : Nat} (hp : mf τ p = true) (b : Bool) : gTo σ p b = mTo τ p b ∧ mTo τ p b < p := by
  obtain ⟨a1, a2, a3, a4, _⟩ := h.f hp
  cases b
  · exact ⟨a1, a3⟩
  · exact ⟨a2, a4⟩
theorem RR.risk {σ : GS} {τ : MS} (h : RR σ τ) (ht : TT σ τ) {p : Nat} (hp : mf τ p = true) (b : Bool) : mRisk τ p b = gRisk σ p b := by
  obtain ⟨a1, a2, a3, a4, a5, _⟩ := h.f hp
  have q := h.lt hp
  obtain ⟨b1, b2⟩ := h.to hp b
  obtain ⟨b3, b4⟩ := h.to hp (!b)
  rw [mRisk, gRisk, b1, b3, (ht _ (by omega : mTo τ p b < mn τ)).1, (ht _ (by omega : mTo τ p (!b) < mn τ)).2, a5]
theorem RR.pl {σ : GS} {τ : MS} (h : RR σ τ) (ht : TT σ τ) {p : Nat} (hp : mf τ p = true) : mPl τ p = gPl σ p := by
  rw [mPl, gPl, h.risk ht hp, h.risk ht hp]
theorem RR.ld {σ : GS} {τ : MS} (h : RR σ τ) (ht : TT σ τ) : ∀ f p, p < mn τ → mLd τ f p = gLd σ f p
  | 0, _, _ => rfl
  | f + 1, p, hp => by
    rw [mLd, gLd, h.ex hp]
    by_cases c : mf τ p = true
    · rw [if_pos c, c, if_neg (by decide), h.pl ht c, (h.to c _).1, h.ld ht f _ (Nat.lt_trans (h.to c _).2 hp)]
    · rw [if_neg c, ts_nt c]; exact (if_pos rfl).symm
theorem RR.has {σ : GS} {τ : MS} (h : RR σ τ) {p : Nat} (hp : p < mn τ) : gHas σ p = mGd τ p := by
  rw [gHas, mGd]
  by_cases c : mf τ p = true
  · rw [(h.f c).2.2.2.2.2.1, c]; rfl
  · rw [(h.e hp (ts_nt c)).2.2.2.2.1, ts_nt c]; rfl
theorem RR.rf {σ : GS} {τ : MS} (h : RR σ τ) (ht : TT σ τ) : mRf τ = gRf σ := by
  rw [mRf, gRf, h.n]
  refine amx_cong (fun p hp => ⟨rfl, ?_⟩)
  rw [h.ex hp]
  by_cases c : mf τ p = true
  · rw [if_pos c, c, if_neg (by decide), gSm, h.risk ht c, h.risk ht c, imn_comm]
  · rw [if_neg c, ts_nt c]; exact (if_pos rfl).symm
theorem RR.above {σ : GS} {τ : MS} (h : RR σ τ) : ∀ n p, p < n → p < mn τ → ∀ o, p < o → bitL (mr τ p) o = false
  | 0, _, h, _, _, _ => by omega
  | n + 1, p, hn, hp, o, ho => by
    by_cases c : mf τ p = true
    · obtain ⟨_, _, a3, a4, _, _, _, _, _, a9⟩ := h.f c
      rw [a9, h.above n _ (by omega) (by omega) o (by omega), h.above n _ (by omega) (by omega) o (by omega), decide_eq_false (by omega)]; rfl
    · rw [(h.e hp (ts_nt c)).2.2.2.2.2.2.2.2.2, decide_eq_false (by omega)]
theorem imx0_nI {g : Nat} (h : g < 2 ^ 31) : imx 0 (nI g) = nI g := i_ext (by rw [imx_I, nI_toInt h]; show max ((0 : Int32).toInt) _ = _; rw [show (0 : Int32).toInt = 0 from rfl]; omega)
theorem RR.hs {σ : GS} {τ : MS} (h : RR σ τ) : ∀ n p, p < n → p < mn τ → ∀ N, p < N → mBf (mEx τ p) (md τ) N = ghs σ p
  | 0, _, h, _, _, _ => by omega
  | n + 1, p, hn, hp, N, hN => by
    by_cases c : mf τ p = true
    · obtain ⟨_, _, a3, a4, _, _, _, _, a9, a10⟩ := h.f c
      rw [a9, ← h.hs n (mo τ p) (by omega) (by omega) N (by omega), ← h.hs n (mh τ p) (by omega) (by omega) N (by omega)]
      refine mBf_or _ N (fun o _ => ?_)
      rw [mEx, mEx, mEx, a10]
      by_cases e : o = p
      · subst e; rw [c]; simp
      · rw [decide_eq_false e]; cases mf τ o <;> simp
    · have c := ts_nt c
      obtain ⟨_, _, _, _, _, a6, _, _, a9, a10⟩ := h.e hp c
      have one : ∀ o, o < N → mEx τ p o = decide (o = p) := by
        intro o _
        rw [mEx, a10]
        by_cases e : o = p
        · subst e; rw [c]; simp
        · rw [decide_eq_false e]; rfl
      rw [a9, mBf_one _ p N one, if_pos hN]
      obtain q | ⟨g, q1, q2⟩ := a6
      · rw [q, if_pos rfl]; rfl
      · rw [q2, if_neg (fun e => by have := congrArg Int32.toInt e; rw [nI_toInt (by omega)] at this; have : ((g : Nat) : Int) = -1 := this; omega), imx0_nI (by omega)]
theorem RR.bh {σ : GS} {τ : MS} (h : RR σ τ) {p : Nat} (hp : mf τ p = true) : mBh τ p = ghs σ p := by
  rw [mBh, ← h.hs (p + 1) p (by omega) (h.lt hp) (p + 1) (by omega), mBf, if_neg]
  rw [mEx, hp]; simp
theorem popc_lo (x : Int64) {n : Nat} (hn : n ≤ 64) (h : ∀ o, n ≤ o → bitL x o = false) : popc x = nI (fb_ct (bitL x) n) := by
  show nI (fb_ct (bitL x) 64) = _
  obtain ⟨k, hk⟩ : ∃ k, n + k = 64 := ⟨64 - n, by omega⟩
  have z : fb_ct (fun j => bitL x (n + j)) k = 0 := fb_ct_zero.mpr (fun j _ => h _ (by omega))
  rw [← hk, fb_ct_split, z, Nat.add_zero]
theorem RR.ef {σ : GS} {τ : MS} (h : RR σ τ) {p : Nat} (hp : p < mn τ) : mEf τ p = gEf σ p := by
  have q := h.1.1
  rw [mEf, gEf, popc_lo _ (n := p + 1) (by omega) (fun o ho => by rw [bl_and, (h.2.1 p hp).1, h.above (p + 1) p (by omega) hp o (by omega)]; rfl), sum_ct, fb_ct_cong (fun k hk => ?_)]
  rw [bl_and, (h.2.1 p hp).1, mEx, ← gEx_bl (ge σ) (by omega), h.ex (by omega)]
theorem RR.xn {σ : GS} {τ : MS} (h : RR σ τ) : mXn τ = popc (ge σ) := by
  have q := h.1.1
  rw [mXn, popc_lo _ (n := mn τ) (by omega) (fun o ho => ?_), sum_ct, fb_ct_cong (fun k hk => ?_)]
  · rw [← gEx_bl (ge σ) (by omega), h.ex hk]
  · by_cases c : o < 64
    · rw [← gEx_bl (ge σ) c, h.2.2.2.1 _ ho c]
    · exact bl_ge (by omega)
theorem RR.rb {σ : GS} {τ : MS} (h : RR σ τ) {p q : Nat} (hp : p < mn τ) (hq : q < mn τ) : gEx (grb σ p) q = bitL (mr τ p) q := by
  have := h.1.1
  rw [(h.2.1 p hp).1, gEx_bl _ (by omega)]
theorem RR.at {σ : GS} {τ : MS} (h : RR σ τ) : mAt τ = gAtE σ := by
  rw [mAt, gAtE, h.k]
  exact sum_cong (fun s hs => by rw [h.st, h.ex (h.mok.2.2.2.2.2.2.2.2 s hs)])
theorem RR.reg {σ : GS} {τ : MS} (h : RR σ τ) {s : Nat} (hs : s < mk τ) (hg : mGd τ (ms τ s) = true) {j : Nat} (hj : j < mp τ s) : mReg τ s j = gReg σ s j := by
  obtain ⟨q1, q2⟩ := h.2.2.2.2.2.1.2.2.2.2.2.1 s j hj
  have e : mf τ (ms τ s) = false := by rw [mGd] at hg; cases c : mf τ (ms τ s) <;> rw [c] at hg <;> first | rfl | cases hg
  rw [mReg, gReg, h.pf, h.st, show s * 40 + j = 40 * s + j by omega, h.bh q1, (h.e (h.mok.2.2.2.2.2.2.2.2 s hs) e).2.2.2.2.1, (h.f q1).2.2.2.2.1]
theorem RR.regs {σ : GS} {τ : MS} (h : RR σ τ) {s : Nat} (hs : s < mk τ) (hg : mGd τ (ms τ s) = true) : mRegs τ s = gRegs σ s := by
  rw [mRegs, gRegs, h.pc]; exact sum_cong (fun j hj => h.reg hs hg hj)
theorem RR.wf {σ : GS} {τ : MS} (h : RR σ τ) {s : Nat} (hs : s < mk τ) (hg : mGd τ (ms τ s) = true) : mWf τ s = gWf σ s := by
  rw [mWf, gWf, h.pc]; exact amx_cong (fun j hj => ⟨by rw [h.pf, show s * 40 + j = 40 * s + j by omega], h.reg hs hg hj⟩)
theorem RR.all {σ : GS} {τ : MS} (h : RR σ τ) : mAll τ = gAll σ := by
  rw [mAll, gAll, h.k]
  refine sum_cong (fun s hs => ?_)
  rw [h.st, h.has (h.mok.2.2.2.2.2.2.2.2 s hs)]
  by_cases c : mGd τ (ms τ s) = true
  · rw [if_pos c, if_pos c, h.regs hs c]
  · rw [if_neg c, if_neg c]
theorem RR.pd {σ : GS} {τ : MS} (h : RR σ τ) (ht : TT σ τ) (d : Int64) {p : Nat} (hp : p < mn τ) : mPd τ d p = gPd σ d p := by
  rw [mPd, gPd, mPd0, gPd0, h.ex hp, (ht p hp).1, (ht p hp).2, h.ef hp, h.ld ht 40 p hp]
  by_cases c : mf τ p = true
  · obtain ⟨a1, a2, _, _, a5, _⟩ := h.f c
    rw [if_pos c, c, if_neg (by decide), a1, a2, a5, h.bh c]
  · have c := ts_nt c
    rw [if_neg (by rw [c]; decide), c, show (if (!false) = true then hsh (hsh (hsh (hsh (hsh (hsh d (b2i !false)) (gsu σ p)) (gho σ p)) (gEf σ p)) (nI (gLd σ 40 p))) (ggr σ p) else _) = _ from if_pos rfl, (h.e hp c).2.2.2.2.1]
theorem RR.dp {σ : GS} {τ : MS} (h : RR σ τ) (ht : TT σ τ) (d : Int64) : ∀ n, n ≤ mn τ → mDp τ d n = gDp σ d n
  | 0, _ => rfl
  | n + 1, hn => by rw [mDp, gDp, h.dp ht d n (by omega), h.pd ht _ (by omega)]
theorem RR.ds {σ : GS} {τ : MS} (h : RR σ τ) (d : Int64) : ∀ n, mDs τ d n = gDs σ d n
  | 0 => rfl
  | n + 1 => by rw [mDs, gDs, h.ds d n, h.st, h.pc]
theorem RR.dig {σ : GS} {τ : MS} (h : RR σ τ) (ht : TT σ τ) : mDig τ = gDig σ := by
  rw [mDig, gDig, mD0, gD0, h.ds, h.dp ht _ _ (Nat.le_refl _), h.n, h.k, h.xn, h.2.2.2.2.2.2.1, h.at, h.rf ht, h.all]
