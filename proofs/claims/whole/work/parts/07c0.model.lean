/-! the reference: its accesses -/
def mTail (U : Bool × MdS) (c n k : Nat) (o : Bool) (z : UInt16) : Nat × MdS := ((if U.1 = true then 5 else 0) + (if o = true then 12 else 40), mNotes (mLearns U.2 c k) c n ((if U.1 = true then 5 else 0) + (if o = true then 12 else 40)) z)
def mShared (M : MdS) (c k : Nat) : Bool := decide (0 < mOthers M (nI c) k)
def mReadAt (M : MdS) (c n k : Nat) : Nat × MdS := if hasM M (64 * c + k) = true then (1, mNotes (mUses M c k) c n 1 (UInt16.ofNat 104))
  else mTail (mComes (mShare M k) c k (if mShared M c k = true then UInt16.ofNat 115 else UInt16.ofNat 101)) c n k (mShared M c k) (mCause M c k (nI n))
def mWriteAt (M : MdS) (c n k : Nat) : Nat × MdS := if mSt M (64 * c + k) = UInt16.ofNat 45 then
    mTail (mComes (mElse M c k (nI n)) c k (UInt16.ofNat 109)) c n k (mShared M c k) (mCause (mElse M c k (nI n)) c k (nI n))
  else if mSt M (64 * c + k) = UInt16.ofNat 115 then (8, mNotes (mSetM (mUses (mElse M c k (nI n)) c k) (64 * c + k)) c n 8 (UInt16.ofNat 117))
  else (1, mNotes (mSetM (mUses (mElse M c k (nI n)) c k) (64 * c + k)) c n 1 (UInt16.ofNat 104))
def mRead (M : MdS) (v1 v2 v3 : Int32) : Nat × MdS := match mSpot M v1 v2 v3 with
  | some (c, n, k) => mReadAt (sTh M 0) c n k
  | none => (0, sTh M (mWrong M v1 v2 v3))
def mWrite (M : MdS) (v1 v2 v3 : Int32) : Nat × MdS := match mSpot M v1 v2 v3 with
  | some (c, n, k) => mWriteAt (sTh M 0) c n k
  | none => (0, sTh M (mWrong M v1 v2 v3))
theorem mWrong_le (M : MdS) (v1 v2 v3 : Int32) : mWrong M v1 v2 v3 ≤ 4 := by
  unfold mWrong
  repeat (first | split | omega)
theorem mTail_1 {U : Bool × MdS} {V : MdS} {c n k : Nat} {o q : Bool} {z : UInt16} (h1 : U.1 = q) (h2 : U.2 = V) : mTail U c n k o z = ((if q = true then 5 else 0) + (if o = true then 12 else 40), mNotes (mLearns V c k) c n ((if q = true then 5 else 0) + (if o = true then 12 else 40)) z) := by
  subst h1 h2
  rfl
theorem mGrow_ok {M : MdS} (h : MOK M) (ha : mAc M < 512) : MOK (mGrow M) ∧ mAc (mGrow M) < mCp (mGrow M) := by
  obtain ⟨h1, h2, h3, h4, h5, h6, h7⟩ := h
  unfold mGrow
  by_cases e : mAc M = mCp M
  · rw [if_pos e]
    refine ⟨⟨h1, h2, h3, h4, ?_, ?_, ?_⟩, ?_⟩
    · show mAc M ≤ 2 * mCp M; omega
    · show 1 ≤ 2 * mCp M; omega
    · show 2 * mCp M ≤ 1024; omega
    · show mAc M < 2 * mCp M; omega
  · rw [if_neg e]
    exact ⟨⟨h1, h2, h3, h4, h5, h6, h7⟩, by omega⟩
theorem mNotes_ok {M : MdS} {c n k : Nat} {z : UInt16} (h : MOK M) (ha : mAc M < 512) : MOK (mNotes M c n k z) := by
  obtain ⟨⟨h1, h2, h3, h4, h5, h6, h7⟩, h8⟩ := mGrow_ok h ha
  exact ⟨h1, h2, h3, h4, h8, h6, h7⟩
theorem mSame_room (M : MdS) (c k : Nat) : mSame M (mRoom M c k).2 := by
  unfold mRoom
  split
  · split
    · exact mSame_rf M
    · exact mSame_leaves _ _ _ _
  · exact mSame_rf M
theorem mSame_comes (M : MdS) (c k : Nat) (z : UInt16) : mSame M (mComes M c k z).2 := (mSame_room M c k).tr ⟨rfl, rfl, rfl, rfl, rfl⟩
theorem mSame_uses (M : MdS) (c k : Nat) : mSame M (mUses M c k) := by
  unfold mUses
  split <;> exact ⟨rfl, rfl, rfl, rfl, rfl⟩
theorem mSame_learn1 (M : MdS) (c k : Nat) : mSame M (mLearn1 M c k) := ⟨rfl, rfl, rfl, rfl, rfl⟩
theorem mSame_fetched (M : MdS) (c k : Nat) : mSame M (mFetched M c k) := ⟨rfl, rfl, rfl, rfl, rfl⟩
theorem mSame_learns (M : MdS) (c k : Nat) : mSame M (mLearns M c k) := by
  unfold mLearns
  split
  · exact mSame_rf M
  · split
    · exact mSame_learn1 M c k
    · split
      · exact mSame_learn1 M c k
      · split
        · exact mSame_learn1 M c k
        · split
          · exact mSame_learn1 M c k
          · exact (mSame_learn1 M c k).tr ((mSame_comes (mLearn1 M c k) _ _ _).tr (mSame_fetched _ _ _))
theorem mSame_share (M : MdS) (k : Nat) : mSame M (mShare M k) := ⟨rfl, rfl, rfl, rfl, rfl⟩
theorem mSame_else (M : MdS) (c k : Nat) (v : Int32) : mSame M (mElse M c k v) := mSame_elseN M c k v 4
theorem mSame_setM (M : MdS) (i : Nat) : mSame M (mSetM M i) := ⟨rfl, rfl, rfl, rfl, rfl⟩
def mShareN (M : MdS) (k i : Nat) : MdS := (mWd M, mPl M, mShN (mSt M) k i, mUs M, mLb M, mNw M, mAh M, mMs M, mLm M, mLs M, mFe M, mUf M, mWr M, mCo M, mNa M, mCr M, mCa M, mTh M, mNm M, mAc M, mCk M, mCp M)
theorem mShareN_f {M U : MdS} {k i : Nat} (e : U = mShareN M k i) (h : hasM U (64 * i + k) = false) : U = mShareN M k (i + 1) := by
  subst e
  unfold hasM at h
  have h9 : mShN (mSt M) k i (64 * i + k) = UInt16.ofNat 45 := Decidable.not_not.mp (of_decide_eq_false h)
  unfold mShareN
  rw [mShN, if_pos h9]
theorem mShareN_t {M U : MdS} {k i : Nat} (e : U = mShareN M k i) (h : hasM U (64 * i + k) = true) : (mWd U, mPl U, va_up (mSt U) (64 * i + k) (UInt16.ofNat 115), mUs U, mLb U, mNw U, mAh U, mMs U, mLm U, mLs U, mFe U, mUf U, mWr U, mCo U, mNa U, mCr U, mCa U, mTh U, mNm U, mAc U, mCk U, mCp U) = mShareN M k (i + 1) := by
  subst e
  unfold hasM at h
  have h9 : ¬ mShN (mSt M) k i (64 * i + k) = UInt16.ofNat 45 := of_decide_eq_true h
  unfold mShareN
  rw [mShN, if_neg h9]
