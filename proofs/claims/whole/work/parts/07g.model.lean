/-! the reference: its other methods -/
def mEmN (U : MdS) (c : Nat) : Nat → Nat × MdS
  | 0 => (0, U)
  | k + 1 => if hasM (mEmN U c k).2 (64 * c + k) = true then ((mEmN U c k).1 + (if mSt (mEmN U c k).2 (64 * c + k) = UInt16.ofNat 109 then 1 else 0), mLeaves (mEmN U c k).2 c k (-2)) else mEmN U c k
theorem mSame_em (U : MdS) (c : Nat) : ∀ k, mSame U (mEmN U c k).2 := by
  intro k
  induction k with
  | zero => exact mSame_rf U
  | succ k ih =>
    rw [mEmN]
    split
    · exact ih.tr (mSame_leaves _ _ _ _)
    · exact ih
def mEmpty (M : MdS) (v : Int32) : Nat × MdS := match inR 4 v with
  | none => (0, sTh M 1)
  | some c => mEmN (sTh M 0) c 64
def mAheadAt (U : MdS) (c : Nat) (b : Bool) : Bool × MdS := (mAh U c, (mWd U, mPl U, mSt U, mUs U, mLb U, mNw U, va_up (mAh U) c b, upd (mMs U) c (nI 0), mLm U, upd (mLs U) c (nI 0), mFe U, mUf U, mWr U, mCo U, mNa U, mCr U, mCa U, mTh U, mNm U, mAc U, mCk U, mCp U))
def mAhead (M : MdS) (v : Int32) (b : Bool) : Bool × MdS := match inR 4 v with
  | none => (false, sTh M 1)
  | some c => mAheadAt (sTh M 0) c b
def mCost (M : MdS) (v : Int32) : Nat × MdS := match inR (mAc M) v with
  | none => (0, sTh M 1)
  | some c => (mCo M c, sTh M 0)
def mCausOf (M : MdS) (v : Int32) : UInt16 × MdS := match inR (mAc M) v with
  | none => (UInt16.ofNat 32, sTh M 1)
  | some c => (mCa M c, sTh M 0)
def mHold (M : MdS) (v : Int32) : Nat × MdS := match inR 64 v with
  | none => (0, sTh M 1)
  | some c => (mOthers M (-1) c, sTh M 0)
def sumN (f : Nat → Nat) : Nat → Nat
  | 0 => 0
  | n + 1 => sumN f n + f n
theorem sumN_le {f : Nat → Nat} {b : Nat} (h : ∀ i, f i ≤ b) : ∀ n, sumN f n ≤ n * b := by
  intro n
  induction n with
  | zero => exact Nat.zero_le _
  | succ n ih =>
    have h1 := h n
    rw [sumN, Nat.add_mul, Nat.one_mul]
    omega
def mLines (M : MdS) (v : Int32) : Nat × MdS := match inR 4 v with
  | none => (0, sTh M 1)
  | some c => (sumN (fun s => mMany (sTh M 0) c s) 4, sTh M 0)
def mFetc (M : MdS) (v : Int32) : Int32 × MdS := match inR 4 v with
  | none => (nI 0, sTh M 1)
  | some c => (mFe M c, sTh M 0)
def mUsef (M : MdS) (v : Int32) : Int32 × MdS := match inR 4 v with
  | none => (nI 0, sTh M 1)
  | some c => (mUf M c, sTh M 0)
def mWron (M : MdS) (v : Int32) : Int32 × MdS := match inR 4 v with
  | none => (nI 0, sTh M 1)
  | some c => (mWr M c, sTh M 0)
def sumL (p : Nat → Bool) (f : Nat → Nat) : Nat → Int64
  | 0 => 0
  | n + 1 => sumL p f n + (if p n = true then (nI (f n)).toInt64 else 0)
def mBillN (M : MdS) (v : Int32) (i : Nat) : Int64 := sumL (fun i => decide (nI (mNa M i) = v)) (mCo M) i
def mBillFor (M : MdS) (v : Int32) : Int64 := mBillN M v (mAc M)
def mCycN (M : MdS) (c i : Nat) : Int64 := sumL (fun i => decide (nI (mCr M i) = nI c)) (mCo M) i
def mBill (M : MdS) (v : Int32) : Int64 × MdS := match inR (mNm M) v with
  | none => (0, sTh M 1)
  | some c => (mBillFor (sTh M 0) (nI c), sTh M 0)
def mCycles (M : MdS) (v : Int32) : Int64 × MdS := match inR 4 v with
  | none => (0, sTh M 1)
  | some c => (mCycN (sTh M 0) c (mAc M), sTh M 0)
/-- the first of the worst names below i + 1 -/
def mWorN (M : MdS) : Nat → Nat
  | 0 => 0
  | i + 1 => if mBillFor M (nI (mWorN M i)) < mBillFor M (nI (i + 1)) then i + 1 else mWorN M i
theorem mWorN_le (M : MdS) : ∀ i, mWorN M i ≤ i := by
  intro i
  induction i with
  | zero => exact Nat.le_refl _
  | succ i ih => rw [mWorN]; split <;> omega
def mWorst (M : MdS) : Nat × MdS := if mNm M = 0 then (0, sTh M 1) else (mWorN (sTh M 0) (mNm M - 1), sTh M 0)
def mState (M : MdS) (v1 v2 : Int32) : UInt16 × MdS := match inR 4 v1 with
  | none => (UInt16.ofNat 32, sTh M 1)
  | some c => match inR 64 v2 with
    | none => (UInt16.ofNat 32, sTh M 2)
    | some k => (mSt M (64 * c + k), sTh M 0)
def mOwnr (M : MdS) (v : Int32) : Nat × MdS := match inR 64 v with
  | none => (0, sTh M 1)
  | some k => match mOwner M k with
    | none => (0, sTh M 2)
    | some q => (q, sTh M 0)
def mOldst (M : MdS) (v1 v2 : Int32) : Nat × MdS := match inR 4 v1 with
  | none => (0, sTh M 1)
  | some c => match inR 4 v2 with
    | none => (0, sTh M 2)
    | some s => match mOldest M c s with
      | none => (0, sTh M 3)
      | some k => (k, sTh M 0)
def mCntN (U : MdS) (n : Nat) (z : UInt16) (i : Nat) : Nat := cnt (fun i => decide (nI (mNa U i) = nI n) && decide (mCa U i = z)) i
def mCount (M : MdS) (v : Int32) (z : UInt16) : Nat × MdS := match inR (mNm M) v with
  | none => (0, sTh M 1)
  | some n => if isCz z = true then (mCntN (sTh M 0) n z (mAc M), sTh M 0) else (0, sTh M 2)
def missB (z : UInt16) : Bool := decide (¬ z = UInt16.ofNat 104) && decide (¬ z = UInt16.ofNat 117)
def mMissN (M : MdS) (i : Nat) : Nat := cnt (fun i => missB (mCa M i)) i
def mShareF (M : MdS) : UInt32 × MdS := if mAc M = 0 then (0, sTh M 1) else (FP.fdiv (FP.i2f (nI (mMissN M (mAc M)))) (FP.i2f (nI (mAc M))), sTh M 0)
def mSumN (M : MdS) (i : Nat) : Int64 := sumL (fun _ => true) (mCo M) i
def mMean (M : MdS) : UInt64 × MdS := if mAc M = 0 then (0, sTh M 1) else (FP.ddiv (FP.l2d (mSumN M (mAc M))) (FP.i2d (nI (mAc M))), sTh M 0)
def mAdd (M : MdS) (v : Int32) : Nat × MdS := match inP 32 v with
  | none => (0, sTh M 1)
  | some m => if mNm M = 12 then (0, sTh M 2) else (mNm M, (va_up (mWd M) (mNm M) m, mPl M, mSt M, mUs M, mLb M, mNw M, mAh M, mMs M, mLm M, mLs M, mFe M, mUf M, mWr M, mCo M, mNa M, mCr M, mCa M, 0, mNm M + 1, mAc M, mCk M, mCp M))
def mPlace (M : MdS) (v1 v2 : Int32) : Nat × MdS := match inR (mNm M) v1 with
  | none => (0, sTh M 1)
  | some n => match inR (512 - mWd M n + 1) v2 with
    | none => (0, sTh M 2)
    | some x => if (mPl M n).isSome = true then (0, sTh M 3) else if mFits M n x = false then (0, sTh M 3) else (x / 8, (mWd M, va_up (mPl M) n (some x), mSt M, mUs M, mLb M, mNw M, mAh M, mMs M, mLm M, mLs M, mFe M, mUf M, mWr M, mCo M, mNa M, mCr M, mCa M, 0, mNm M, mAc M, mCk M, mCp M))
def mTake (M : MdS) (v : Int32) : Nat × MdS := match inR (mNm M) v with
  | none => (0, sTh M 1)
  | some n => match mPl M n with
    | none => (0, sTh M 2)
    | some x => (x, (mWd M, va_up (mPl M) n none, mSt M, mUs M, mLb M, mNw M, mAh M, mMs M, mLm M, mLs M, mFe M, mUf M, mWr M, mCo M, mNa M, mCr M, mCa M, 0, mNm M, mAc M, mCk M, mCp M))
def mAddr (M : MdS) (v1 v2 : Int32) : Nat × MdS := match inR (mNm M) v1 with
  | none => (0, sTh M 1)
  | some n => match mPl M n with
    | none => (0, sTh M 2)
    | some x => match inR (mWd M n) v2 with
      | none => (0, sTh M 3)
      | some w => (x + w, sTh M 0)
def mNameAt (M : MdS) (v : Int32) : Nat × MdS := match inR 512 v with
  | none => (0, sTh M 1)
  | some x => match mNameOn M x with
    | none => (0, sTh M 2)
    | some n => (n, sTh M 0)
def mMeets (M : MdS) (n m : Nat) : Bool := match mPl M n, mPl M m with
  | some x, some y => decide (y / 8 ≤ (x + mWd M n - 1) / 8) && decide (x / 8 ≤ (y + mWd M m - 1) / 8)
  | _, _ => false
def mMeet (M : MdS) (v1 v2 : Int32) : Bool × MdS := match inR (mNm M) v1, inR (mNm M) v2 with
  | some n, some m => if n = m then (false, sTh M 2) else (mMeets M n m, sTh M 0)
  | _, _ => (false, sTh M 1)
