def iIn (v lo hi : Int32) : Bool := !(decide (v < lo) || decide (hi < v))
def mIsP (τ : MS) (p : Int32) : Bool := iIn p 0 (nI (mn τ) - 1)
def mIsS (τ : MS) (p : Int32) : Bool := iIn p 0 (nI (mk τ) - 1)
def bitL (x : Int64) (o : Nat) : Bool := x.toBitVec.getLsbD o
theorem bitL_shr (x : Int64) (o : Nat) (h : o < 63) : ((x >>> ((nI o).toInt64 &&& 63)) &&& 1 = 1) ↔ bitL x o = true := by
  have e1 : (x >>> ((nI o).toInt64 &&& 63)).toBitVec = x.toBitVec.sshiftRight o := by
    rw [Int64.toBitVec_shiftRight, wb_c o (by omega), lN_bv, wb_sm o (by omega), BitVec.sshiftRight_eq', BitVec.toNat_ofNat, Nat.mod_eq_of_lt (by omega)]
  have e2 : ((x >>> ((nI o).toInt64 &&& 63)) &&& 1).toBitVec = (x.toBitVec.sshiftRight o) &&& 1#64 := by
    rw [Int64.toBitVec_and, e1]; rfl
  have hb : (x.toBitVec.sshiftRight o).getLsbD 0 = bitL x o := by
    rw [BitVec.getLsbD_sshiftRight, bitL]
    simp [show o < 64 by omega]
  constructor
  · intro h1
    have h2 := congrArg (fun z : Int64 => z.toBitVec.getLsbD 0) h1
    simp only [e2, BitVec.getLsbD_and, hb] at h2
    cases hbo : bitL x o
    · rw [hbo] at h2; revert h2; decide
    · rfl
  · intro h1
    apply Int64.toBitVec_inj.mp
    rw [e2]
    apply BitVec.eq_of_getLsbD_eq
    intro i hi
    rw [BitVec.getLsbD_and]
    by_cases hz : i = 0
    · subst hz
      rw [hb, h1]; rfl
    · have : (1#64).getLsbD i = false := by
        rw [BitVec.getLsbD_one]; simp; omega
      rw [this, Bool.and_false]
      show false = (1#64).getLsbD i
      rw [this]
def mTo (τ : MS) (k : Nat) (b : Bool) : Nat := if b then mh τ k else mo τ k
def mRisk (τ : MS) (k : Nat) (b : Bool) : Int32 := imx 0 (mv τ (mTo τ k (!b)) - mu τ (mTo τ k b)) * md τ k
def mPl (τ : MS) (k : Nat) : Bool := decide (mRisk τ k true < mRisk τ k false)
def mLd (τ : MS) : Nat → Nat → Nat
  | 0, p => p
  | f + 1, p => if mf τ p then mLd τ f (mTo τ p (mPl τ p)) else p
def mEx (τ : MS) (p o : Nat) : Bool := bitL (mr τ p) o && !mf τ o
def mEf (τ : MS) (p : Nat) : Int32 := sumI (fun o => b2i (mEx τ p o)) (p + 1)
def mRf (τ : MS) : Int32 × Int32 := amx nI (fun p => if mf τ p then imn (mRisk τ p true) (mRisk τ p false) else -1) (-1, -1) (mn τ)
def mBf (h : Nat → Bool) (v : Nat → Int32) : Nat → Int32
  | 0 => 0
  | n + 1 => if h n then imx (mBf h v n) (v n) else mBf h v n
def mBh (τ : MS) (f : Nat) : Int32 := mBf (mEx τ f) (md τ) f
def mGd (τ : MS) (p : Nat) : Bool := !mf τ p && !decide (md τ p = -1)
def mReg (τ : MS) (s j : Nat) : Int32 := imx 0 (mBh τ (mw τ (40 * s + j)) - md τ (ms τ s)) * md τ (mw τ (40 * s + j))
def mRegs (τ : MS) (s : Nat) : Int32 := sumI (mReg τ s) (mp τ s)
def mAll (τ : MS) : Int32 := sumI (fun s => if mGd τ (ms τ s) then mRegs τ s else 0) (mk τ)
def mGn (τ : MS) : Int32 := sumI (fun p => b2i (mGd τ p)) (mn τ)
def mXn (τ : MS) : Int32 := sumI (fun p => b2i (!mf τ p)) (mn τ)
def mAt (τ : MS) : Int32 := sumI (fun s => b2i (!mf τ (ms τ s))) (mk τ)
def mWf (τ : MS) (s : Nat) : Int32 × Int32 := amx (fun j => nI (mw τ (40 * s + j))) (mReg τ s) (-1, 0) (mp τ s)
def MOK (τ : MS) : Prop := mn τ ≤ 40 ∧ mk τ ≤ 8 ∧ (∀ j, mo τ j < 40) ∧ (∀ j, mh τ j < 40) ∧ (∀ j, ms τ j < 40) ∧ (∀ j, mw τ j < 40) ∧ (∀ j, ms τ j + mp τ j ≤ 39) ∧ (∀ p, mf τ p = true → mo τ p < p ∧ mh τ p < p) ∧ (∀ s, s < mk τ → ms τ s < mn τ)
theorem mTo_lt {τ : MS} (h : MOK τ) (k : Nat) (b : Bool) : mTo τ k b < 40 := by
  unfold mTo
  split
  · exact h.2.2.2.1 k
  · exact h.2.2.1 k
theorem mTo_dn {τ : MS} (h : MOK τ) {k : Nat} (hk : mf τ k = true) (b : Bool) : mTo τ k b < k := by
  have q := h.2.2.2.2.2.2.2.1 k hk
  unfold mTo
  split
  · exact q.2
  · exact q.1
def mThr (τ : MS) (t : Int32) : MS := (t, τ.2)
def mUV (τ : MS) (u v : Nat → Int32) : MS := (mt τ, mn τ, mk τ, mf τ, mo τ, mh τ, md τ, mr τ, u, v, ms τ, mp τ, mw τ)
def tbR (τ : MS) (ex f0 : Nat → Int32) : Nat → (Nat → Int32)
  | 0 => f0
  | i + 1 => upd (tbR τ ex f0 i) i (if mf τ i then imx (tbR τ ex f0 i (mo τ i)) (tbR τ ex f0 i (mh τ i)) else if md τ i = -1 then ex i else md τ i)
def mTb (τ : MS) (i : Nat) : MS := mUV τ (tbR τ (fun p => nI (mo τ p)) (mu τ) i) (tbR τ (fun p => nI (mh τ p)) (mv τ) i)
def mTab (τ : MS) : MS := mTb τ (mn τ)
theorem mTbF {τ : MS} {i : Nat} (h : mf τ i = true) : mTb τ (i + 1) = mUV (mTb τ i) (upd (mu (mTb τ i)) i (imx (mu (mTb τ i) (mo τ i)) (mu (mTb τ i) (mh τ i)))) (upd (mv (mTb τ i)) i (imx (mv (mTb τ i) (mo τ i)) (mv (mTb τ i) (mh τ i)))) := by
  rw [mTb, tbR, tbR, if_pos h, if_pos h]; rfl
theorem mTbG {τ : MS} {i : Nat} (h : mf τ i = false) (h2 : ¬ md τ i = -1) : mTb τ (i + 1) = mUV (mTb τ i) (upd (mu (mTb τ i)) i (md τ i)) (upd (mv (mTb τ i)) i (md τ i)) := by
  rw [mTb, tbR, tbR]; simp only [h, Bool.false_eq_true, if_false, if_neg h2]; rfl
theorem mTbU {τ : MS} {i : Nat} (h : mf τ i = false) (h2 : md τ i = -1) : mTb τ (i + 1) = mUV (mTb τ i) (upd (mu (mTb τ i)) i (nI (mo τ i))) (upd (mv (mTb τ i)) i (nI (mh τ i))) := by
  rw [mTb, tbR, tbR]; simp only [h, Bool.false_eq_true, if_false, if_pos h2]; rfl
def mGo (τ : MS) (s x : Nat) : MS := (mt τ, mn τ, mk τ, mf τ, mo τ, mh τ, md τ, mr τ, mu τ, mv τ, va_up (ms τ) s x, va_up (mp τ) s (mp τ s + 1), va_up (mw τ) (40 * s + mp τ s) (ms τ s))
theorem mGo_ok {τ : MS} (h : MOK τ) {s : Nat} (hs : s < mk τ) (x : Nat) (hx : x < ms τ s) : MOK (mGo τ s x) := by
  obtain ⟨h1, h2, h3, h4, h5, h6, h7, h8, h9⟩ := h
  have hst := h9 s hs
  have h5s := h5 s
  refine ⟨h1, h2, h3, h4, fun j => ?_, fun j => ?_, fun j => ?_, h8, fun j hj => ?_⟩
  · show va_up (ms τ) s _ j < 40
    unfold va_up
    split
    · omega
    · exact h5 j
  · show va_up (mw τ) _ _ j < 40
    unfold va_up
    split
    · exact h5 s
    · exact h6 j
  · show va_up (ms τ) s _ j + va_up (mp τ) s _ j ≤ 39
    unfold va_up
    have := h7 s
    have := h7 j
    split <;> omega
  · show va_up (ms τ) s _ j < mn τ
    unfold va_up
    split
    · omega
    · exact h9 j hj
def mFo (s : Nat) : Nat → MS → MS
  | 0, τ => τ
  | f + 1, τ => if mf τ (ms τ s) then mFo s f (mGo τ s (mTo τ (ms τ s) (mPl τ (ms τ s)))) else τ
def mAddE (τ : MS) (x y : Nat) : MS := (0, mn τ + 1, mk τ, mf τ, va_up (mo τ) (mn τ) x, va_up (mh τ) (mn τ) y, upd (md τ) (mn τ) (-1), vp_updL (mr τ) (mn τ) (gbit (mn τ)), mu τ, mv τ, ms τ, mp τ, mw τ)
def mAddF (τ : MS) (x y : Nat) (w : Int32) : MS := (0, mn τ + 1, mk τ, va_up (mf τ) (mn τ) true, va_up (mo τ) (mn τ) x, va_up (mh τ) (mn τ) y, upd (md τ) (mn τ) w, vp_updL (mr τ) (mn τ) ((mr τ x ||| mr τ y) ||| gbit (mn τ)), mu τ, mv τ, ms τ, mp τ, mw τ)
def mMd (τ : MS) (k : Nat) (g : Int32) : MS := (0, mn τ, mk τ, mf τ, mo τ, mh τ, upd (md τ) k g, mr τ, mu τ, mv τ, ms τ, mp τ, mw τ)
def mEnr (τ : MS) (k : Nat) : MS := (0, mn τ, mk τ + 1, mf τ, mo τ, mh τ, md τ, mr τ, mu τ, mv τ, va_up (ms τ) (mk τ) k, mp τ, mw τ)
def mBk (τ : MS) (s j : Nat) : MS := (0, mn τ, mk τ, mf τ, mo τ, mh τ, md τ, mr τ, mu τ, mv τ, va_up (ms τ) s (mw τ (40 * s + j)), va_up (mp τ) s j, mw τ)
def mSum (τ : MS) : Int32 := sumI (fun p => if mGd τ p then md τ p else 0) (mn τ)
def mPd0 (τ : MS) (d : Int64) (p : Nat) : Int64 := hsh (hsh (hsh (hsh (hsh d (b2i (!mf τ p))) (mu τ p)) (mv τ p)) (mEf τ p)) (nI (mLd τ 40 p))
def mPd (τ : MS) (d : Int64) (p : Nat) : Int64 := if mf τ p then hsh (hsh (hsh (hsh (mPd0 τ d p) (nI (mo τ p))) (nI (mh τ p))) (md τ p)) (mBh τ p) else hsh (mPd0 τ d p) (md τ p)
def mDp (τ : MS) (d : Int64) : Nat → Int64
  | 0 => d
  | n + 1 => mPd τ (mDp τ d n) n
def mDs (τ : MS) (d : Int64) : Nat → Int64
  | 0 => d
  | n + 1 => hsh (hsh (mDs τ d n) (nI (ms τ n))) (nI (mp τ n))
def mD0 (τ : MS) : Int64 := hsh (hsh (hsh (hsh (hsh (hsh (hsh 1039 (nI (mn τ))) (mXn τ)) (mGn τ)) (nI (mk τ))) (mAt τ)) (mRf τ).1) (mAll τ)
def mDig (τ : MS) : Int64 := mDs τ (mDp τ (mD0 τ) (mn τ)) (mk τ)
def hfd (f : Nat → Int32) (d : Int64) : Nat → Int64
  | 0 => d
  | n + 1 => hsh (hfd f d n) (f n)
abbrev gQd (E : GE) (v : UInt64) (ws ws' : va_W) (sz : Nat) : Array Value → State → Outcome → State → Prop := va_Qd (fun r (_ : Unit) => r = v) (fun _ t => gP E ws' t.heap) (va_A ws sz)
abbrev gQl (E : GE) (v : Int64) (ws ws' : va_W) (sz : Nat) : Array Value → State → Outcome → State → Prop := va_Ql (fun r (_ : Unit) => r = v) (fun _ t => gP E ws' t.heap) (va_A ws sz)
