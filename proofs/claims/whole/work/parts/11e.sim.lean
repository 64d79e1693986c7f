/-! Class and reference side by side: accesses, emptying, telling. -/
def mOth (M U : MdS) : Prop := mWd U = mWd M ∧ mPl U = mPl M ∧ mNm U = mNm M ∧ mAc U = mAc M ∧ mCp U = mCp M ∧ mCo U = mCo M ∧ mNa U = mNa M ∧ mCr U = mCr M ∧ mCa U = mCa M ∧ mTh U = mTh M
theorem mOth_rf (M : MdS) : mOth M M := ⟨rfl, rfl, rfl, rfl, rfl, rfl, rfl, rfl, rfl, rfl⟩
theorem mOth.tr {M U V : MdS} (a : mOth M U) (b : mOth U V) : mOth M V := by
  obtain ⟨a1, a2, a3, a4, a5, a6, a7, a8, a9, a10⟩ := a
  obtain ⟨b1, b2, b3, b4, b5, b6, b7, b8, b9, b10⟩ := b
  exact ⟨b1.trans a1, b2.trans a2, b3.trans a3, b4.trans a4, b5.trans a5, b6.trans a6, b7.trans a7, b8.trans a8, b9.trans a9, b10.trans a10⟩
theorem mOth_leaves (M : MdS) (c k : Nat) (v : Int32) : mOth M (mLeaves M c k v) := by
  rw [mLeaves_eq]; exact ⟨rfl, rfl, rfl, rfl, rfl, rfl, rfl, rfl, rfl, rfl⟩
theorem mOth_else (M : MdS) (c k : Nat) (v : Int32) : ∀ n, mOth M (mElseN M c k v n) := by
  intro n
  induction n with
  | zero => exact mOth_rf M
  | succ n ih =>
    rw [mElseN]
    split
    · exact ih
    · split
      · exact ih.tr (mOth_leaves _ _ _ _)
      · exact ih
theorem mOth_room (M : MdS) (c k : Nat) : mOth M (mRoom M c k).2 := by
  unfold mRoom
  split
  · split
    · exact mOth_rf M
    · exact mOth_leaves _ _ _ _
  · exact mOth_rf M
theorem mOth_put (M : MdS) (c k : Nat) (x : UInt16) : mOth M (mPut M c k x) := ⟨rfl, rfl, rfl, rfl, rfl, rfl, rfl, rfl, rfl, rfl⟩
theorem mOth_share (M : MdS) (k : Nat) : mOth M (mShare M k) := ⟨rfl, rfl, rfl, rfl, rfl, rfl, rfl, rfl, rfl, rfl⟩
theorem mOth_set (M : MdS) (i : Nat) : mOth M (mSetM M i) := ⟨rfl, rfl, rfl, rfl, rfl, rfl, rfl, rfl, rfl, rfl⟩
theorem mOth_uses (M : MdS) (c k : Nat) : mOth M (mUses M c k) := by
  rw [mUses_eq]; exact ⟨rfl, rfl, rfl, rfl, rfl, rfl, rfl, rfl, rfl, rfl⟩
theorem mOth_learn1 (M : MdS) (c k : Nat) : mOth M (mLearn1 M c k) := ⟨rfl, rfl, rfl, rfl, rfl, rfl, rfl, rfl, rfl, rfl⟩
theorem mOth_fetched (M : MdS) (c k : Nat) : mOth M (mFetched M c k) := ⟨rfl, rfl, rfl, rfl, rfl, rfl, rfl, rfl, rfl, rfl⟩
theorem mOth_learns (M : MdS) (c k : Nat) : mOth M (mLearns M c k) := by
  unfold mLearns
  split
  · exact mOth_rf M
  · split
    · exact mOth_learn1 M c k
    · split
      · exact mOth_learn1 M c k
      · split
        · exact mOth_learn1 M c k
        · split
          · exact mOth_learn1 M c k
          · exact (mOth_learn1 M c k).tr (((mOth_room _ _ _).tr (mOth_put _ _ _ _)).tr (mOth_fetched _ _ _))
section RCW
variable {S : CS} {M : MdS} {T c k n : Nat}
theorem cause_eq {v : Int32} {w : Bool} (h : RC0 S M T) (hc : c < 4) (hk : k < 64) (h0 : cSt S (c * 64 + k) = UInt16.ofNat 45) : mCause M c k v = pCause S c v k w := by
  unfold mCause pCause
  rw [if_pos h0, ixc, h.2.2.1 _ (by omega)]
  unfold sw
  by_cases e1 : cLv S (c * 64 + k) = (-2)
  · rw [if_pos e1, if_pos e1, if_pos rfl]
  · rw [if_neg e1, if_neg e1]
    by_cases e2 : cLv S (c * 64 + k) = (-1)
    · rw [if_pos e2, if_pos e2, if_neg (by decide), if_pos rfl]
    · rw [if_neg e2, if_neg e2, if_neg e2, if_neg e1]
theorem rc_read (h : RC0 S M T) (hT : T < 2 ^ 27) (hc : c < 4) (hk : k < 64) : ∃ U, mReadAt M c n k = ((pMA S c (nI n) k false).1, mNotes U c n (pMA S c (nI n) k false).1 (pCause S c (nI n) k false)) ∧ RC0 (pMA S c (nI n) k false).2 U (T + 4) ∧ mOth M U := by
  unfold mReadAt
  rw [ixc, h.hs (by omega)]
  by_cases e : hasB S (c * 64 + k) = true
  · have e' : ¬ cSt S (c * 64 + k) = UInt16.ofNat 45 := of_decide_eq_true e
    have h1 : pMA S c (nI n) k false = (1, pUse S c k) := by
      unfold pMA pMA1 pMA3 pMA2 pCost
      rw [if_neg e', if_neg e', e]
      rfl
    have h2 : pCause S c (nI n) k false = UInt16.ofNat 104 := by
      unfold pCause
      rw [if_neg e']
      rfl
    rw [if_pos e, h1, h2]
    exact ⟨mUses M c k, rfl, (rc_use h (by omega) hc hk).wd (by omega), mOth_uses M c k⟩
  · have e0 : hasB S (c * 64 + k) = false := by simpa using e
    have e' : cSt S (c * 64 + k) = UInt16.ofNat 45 := Decidable.not_not.mp (of_decide_eq_false e0)
    obtain ⟨r1, r2, r3, r4, r5⟩ := rc_room h hc hk
    have e00 : hasB (pShare (pMakeRoom S c k).2 k) (c * 64 + k) = false := by
      rw [hasB_share]
      cases e9 : hasB (pMakeRoom S c k).2 (c * 64 + k) with
      | false => rfl
      | true => rw [r4 _ e9] at e0; cases e0
    have hH : pHold (pShare (pMakeRoom S c k).2 k) k = pHold S k := by
      rw [show pHold (pShare (pMakeRoom S c k).2 k) k = pHold (pMakeRoom S c k).2 k from cnt_congr (fun d hd => hasB_share _)]
      exact hold_congr (r5 e0)
    have hMy : pMany (pShare (pMakeRoom S c k).2 k) c (k % 4) ≤ 1 := by
      rw [show pMany (pShare (pMakeRoom S c k).2 k) c (k % 4) = pMany (pMakeRoom S c k).2 c (k % 4) from cnt_congr (fun d hd => hasB_share _)]
      exact r3
    have h1 : pMA S c (nI n) k false = ((if 0 < pHold S k then 12 else 40) + (if (pMakeRoom S c k).1 = true then 5 else 0), pMA3 (pUse (brX (pShare (pMakeRoom S c k).2 k) c k (if 0 < pHold S k then UInt16.ofNat 115 else UInt16.ofNat 101)) c k) c k true) := by
      unfold pMA pMA1 pMA2 pCost
      rw [if_pos e', if_pos e', e0]
      rw [← hH]
      rfl
    obtain ⟨b1, b2⟩ := rc_bring (rc_share r2 hk) (by omega) hc hk e00 (x := if 0 < pHold S k then UInt16.ofNat 115 else UInt16.ofNat 101) x45 hMy
    have b3 := rc_use2 b1 (by omega) b2 (by
      show cUn (pMakeRoom S c k).2 (c * 64 + k) = false
      refine r2.2.2.2.2.2.2.1 _ (by omega) ?_
      rw [← hasB_share (k := k)]; exact e00)
    have b4 := rc_learns b3 (by omega) hc hk
    have hsh : mShared M c k = decide (0 < pHold S k) := by
      unfold mShared
      rw [← hold_eq h hc hk e0]
    refine ⟨_, ?_, by rw [h1]; exact b4.wd (by omega), ((((mOth_room M c k).tr (mOth_share _ _)).tr (mOth_put _ _ _ _)).tr (mOth_learns _ c k))⟩
    rw [if_neg e]
    unfold mTail mComes
    rw [room_share hk (by rw [ixc, h.hs (by omega)]; exact e0), h1, hsh, cause_eq (w := false) h hc hk e', ← r1]
    simp only [decide_eq_true_eq]
    rw [Nat.add_comm (if (pMakeRoom S c k).1 = true then 5 else 0)]
theorem rc_write (h : RC0 S M T) (hT : T < 2 ^ 27) (hc : c < 4) (hk : k < 64) (hn : n < 2 ^ 30) : ∃ U, mWriteAt M c n k = ((pMA S c (nI n) k true).1, mNotes U c n (pMA S c (nI n) k true).1 (pCause S c (nI n) k true)) ∧ RC0 (pMA S c (nI n) k true).2 U (T + 4) ∧ mOth M U := by
  have hv : nI n = sw (nI n) := (sw_nI hn).symm
  have hms : mSt M (64 * c + k) = cSt S (c * 64 + k) := by rw [ixc]; exact (h.1 _ (by omega)).symm
  have hat : ∀ d, d < 4 → d ≠ c → c * 64 + k ≠ d * 64 + k := fun d _ hd => by omega
  unfold mWriteAt
  rw [hms]
  by_cases e : hasB S (c * 64 + k) = true
  · have e' : ¬ cSt S (c * 64 + k) = UInt16.ofNat 45 := of_decide_eq_true e
    have h1 : pMA S c (nI n) k true = ((if cSt S (c * 64 + k) = UInt16.ofNat 115 then 8 else 1), stX (pUse (pElse S c (nI n) k) c k) (c * 64 + k) (UInt16.ofNat 109)) := by
      have h9 : pUse (stX (pElse S c (nI n) k) (c * 64 + k) (UInt16.ofNat 109)) c k = stX (pUse (pElse S c (nI n) k) c k) (c * 64 + k) (UInt16.ofNat 109) := by
        rw [pUse_eq, pUse_eq]; rfl
      rw [← h9]
      unfold pMA pMA1 pMA3 pCost
      rw [if_neg e', if_neg e', e]
      rfl
    have h2 : pCause S c (nI n) k true = if cSt S (c * 64 + k) = UInt16.ofNat 115 then UInt16.ofNat 117 else UInt16.ofNat 104 := by
      unfold pCause
      rw [if_neg e']
      rfl
    have hB : hasB (pUse (pElse S c (nI n) k) c k) (c * 64 + k) = true := by
      have h9 : cSt (pUse (pElse S c (nI n) k) c k) (c * 64 + k) = cSt S (c * 64 + k) := by
        rw [pUse_eq]
        exact (pElse_B S c hk (nI n) 4).2.2.1 _ hat
      unfold hasB
      rw [h9]; exact e
    have r1 := rc_set (rc_use (rc_elseN (c := c) h hk hv 4 (Nat.le_refl _)) (by omega) hc hk) hB
    refine ⟨mSetM (mUses (mElse M c k (nI n)) c k) (c * 64 + k), ?_, by rw [h1]; exact r1.wd (by omega), ((mOth_else M c k (nI n) 4).tr (mOth_uses _ _ _)).tr (mOth_set _ _)⟩
    rw [if_neg e', h1, h2, ixc]
    by_cases e3 : cSt S (c * 64 + k) = UInt16.ofNat 115
    · rw [if_pos e3, if_pos e3, if_pos e3]
    · rw [if_neg e3, if_neg e3, if_neg e3]
  · have e0 : hasB S (c * 64 + k) = false := by simpa using e
    have e' : cSt S (c * 64 + k) = UInt16.ofNat 45 := Decidable.not_not.mp (of_decide_eq_false e0)
    obtain ⟨r1, r2, r3, r4, r5⟩ := rc_room h hc hk
    have e00 : hasB (pMakeRoom S c k).2 (c * 64 + k) = false := by
      cases e9 : hasB (pMakeRoom S c k).2 (c * 64 + k) with
      | false => rfl
      | true => rw [r4 _ e9] at e0; cases e0
    have h1 : pMA S c (nI n) k true = ((if 0 < pHold S k then 12 else 40) + (if (pMakeRoom S c k).1 = true then 5 else 0), pMA3 (pUse (stX (pElse (brX (pMakeRoom S c k).2 c k (if 0 < pHold (pMakeRoom S c k).2 k then UInt16.ofNat 115 else UInt16.ofNat 101)) c (nI n) k) (c * 64 + k) (UInt16.ofNat 109)) c k) c k true) := by
      unfold pMA pMA1 pCost
      rw [if_pos e', if_pos e', e0]
      rfl
    obtain ⟨b1, b2⟩ := rc_bring r2 (by omega) hc hk e00 (x := if 0 < pHold (pMakeRoom S c k).2 k then UInt16.ofNat 115 else UInt16.ofNat 101) x45 r3
    obtain ⟨f1, f2, f3, f4⟩ := pElse_B (brX (pMakeRoom S c k).2 c k (if 0 < pHold (pMakeRoom S c k).2 k then UInt16.ofNat 115 else UInt16.ofNat 101)) c hk (nI n) 4
    have b3 : RC0 (pElse (brX (pMakeRoom S c k).2 c k (if 0 < pHold (pMakeRoom S c k).2 k then UInt16.ofNat 115 else UInt16.ofNat 101)) c (nI n) k) (mElse (mPut (mRoom M c k).2 c k (if 0 < pHold (pMakeRoom S c k).2 k then UInt16.ofNat 115 else UInt16.ofNat 101)) c k (nI n)) (T + 1) := rc_elseN (c := c) b1 hk hv 4 (Nat.le_refl _)
    have hB : hasB (pElse (brX (pMakeRoom S c k).2 c k (if 0 < pHold (pMakeRoom S c k).2 k then UInt16.ofNat 115 else UInt16.ofNat 101)) c (nI n) k) (c * 64 + k) = true := by
      have h9 := f3 _ hat
      unfold hasB
      rw [show cSt (pElse _ _ _ _) _ = _ from h9]
      have h8 := hasB_br (S := (pMakeRoom S c k).2) (c := c) (k := k) (x := if 0 < pHold (pMakeRoom S c k).2 k then UInt16.ofNat 115 else UInt16.ofNat 101) x45 (c * 64 + k)
      rw [if_pos rfl] at h8
      exact h8
    have b4 := rc_set b3 hB
    have hu : cUn (stX (pElse (brX (pMakeRoom S c k).2 c k (if 0 < pHold (pMakeRoom S c k).2 k then UInt16.ofNat 115 else UInt16.ofNat 101)) c (nI n) k) (c * 64 + k) (UInt16.ofNat 109)) (c * 64 + k) = false := f4 _ (r2.2.2.2.2.2.2.1 _ (by omega) e00)
    have b5 := rc_use2 b4 (by omega) (b2.sub (fun j hj => f2 j ((hasB_st (by decide) hB j).symm.trans hj)) (mElse_us _ c k (nI n) 4).1) hu
    have b6 := rc_learns b5 (by omega) hc hk
    have hsh : mShared M c k = decide (0 < pHold S k) := by
      unfold mShared
      rw [← hold_eq h hc hk e0]
    have hcom : mSetM (mElse (mPut (mRoom M c k).2 c k (if 0 < pHold (pMakeRoom S c k).2 k then UInt16.ofNat 115 else UInt16.ofNat 101)) c k (nI n)) (c * 64 + k) = (mComes (mElse M c k (nI n)) c k (UInt16.ofNat 109)).2 := by
      unfold mComes
      rw [room_else hk, ← ixc]
      show mSetM (mElseN _ _ _ _ 4) _ = mPut (mElseN _ _ _ _ 4) _ _ _
      rw [else_put, set_put]
    refine ⟨mLearns (mComes (mElse M c k (nI n)) c k (UInt16.ofNat 109)).2 c k, ?_, by rw [h1]; rw [hcom] at b6; exact b6.wd (by omega), ((((mOth_else M c k (nI n) 4).tr (mOth_room _ _ _)).tr (mOth_put _ _ _ _)).tr (mOth_learns _ c k))⟩
    have hca : mCause (mElse M c k (nI n)) c k (nI n) = pCause S c (nI n) k true := by
      rw [← cause_eq (v := nI n) (w := true) h hc hk e']
      unfold mCause
      rw [show mLb (mElse M c k (nI n)) (64 * c + k) = mLb M (64 * c + k) from (mElse_ne 4 (fun d hd hn => by omega)).2]
    rw [if_pos e', h1, hca, hsh]
    unfold mTail
    rw [show (mComes (mElse M c k (nI n)) c k (UInt16.ofNat 109)).1 = (pMakeRoom S c k).1 by unfold mComes; rw [room_else hk, r1]]
    simp only [decide_eq_true_eq]
    rw [Nat.add_comm (if (pMakeRoom S c k).1 = true then 5 else 0)]
theorem rc_emN (h : RC0 S M T) (hc : c < 4) : ∀ j, j ≤ 64 → (pDropAllN S c j).1 = (mEmN M c j).1 ∧ RC0 (pDropAllN S c j).2 (mEmN M c j).2 T ∧ mOth M (mEmN M c j).2 := by
  intro j
  induction j with
  | zero => intro _; exact ⟨rfl, h, mOth_rf M⟩
  | succ j ih =>
    intro hj
    obtain ⟨i1, i2, i3⟩ := ih (by omega)
    have e1 := i2.1 (c * 64 + j) (by omega)
    rw [pDropAllN, mEmN, ixc, i2.hs (by omega), ← e1]
    by_cases e : hasB (pDropAllN S c j).2 (c * 64 + j) = true
    · rw [if_pos e]
      exact ⟨by rw [i1], rc_drop i2 hc (by omega) e sw_m1.symm, i3.tr (mOth_leaves _ _ _ _)⟩
    · have e0 : hasB (pDropAllN S c j).2 (c * 64 + j) = false := by simpa using e
      have e' : cSt (pDropAllN S c j).2 (c * 64 + j) = UInt16.ofNat 45 := Decidable.not_not.mp (of_decide_eq_false e0)
      rw [if_neg e, pDrop_no e0, e', if_neg (by decide)]
      exact ⟨i1, i2, i3⟩
theorem rc_tell (h : RC0 S M T) (hc : c < 4) {b : Bool} : RC0 (pTell S c b) (mAheadAt M c b).2 T ∧ cAh S c = (mAheadAt M c b).1 := by
  obtain ⟨h1, h2, h3, h4, h5, h8, h9, h10⟩ := h
  refine ⟨⟨h1, h2, h3, h4, h5, fun d hd => ?_, h9, h10⟩, (h8 c hc).1⟩
  obtain ⟨e1, e2, e3, e4, e5⟩ := h8 d hd
  refine ⟨?_, ?_, e3, e4, e5⟩
  · show va_up _ _ _ _ = va_up _ _ _ _
    unfold va_up
    rw [e1]
  · show lrn (upd (cMl S) c (-1) d) (upd (cSp S) c (nI 0) d) (upd (mMs M) c (nI 0) d) (mLm M d) (upd (mLs M) c (nI 0) d) T
    by_cases e : d = c
    · subst e
      rw [pk_us, pk_us, pk_us, pk_us]
      exact ⟨0, Nat.zero_le _, rfl, fun _ => ⟨rfl, rfl⟩, fun z => absurd z (by decide), fun z => absurd z (by decide), fun z => absurd z (by decide)⟩
    · rw [pk_un e, pk_un e, pk_un e, pk_un e]
      exact e2
theorem rc_init : RC0 pInit mInit 0 := by
  have hB : ∀ i, hasB pInit i = false := fun i => by unfold hasB pInit; exact decide_eq_false (fun z => z rfl)
  refine ⟨fun i hi => ?_, fun i hi => rfl, fun i hi => ?_, fun i j hi hj a1 => ?_, ⟨0, 0, Nat.le_refl _, Nat.le_refl _, rfl, rfl, fun i hi a1 => ?_⟩, fun d hd => ⟨rfl, ⟨0, Nat.le_refl _, rfl, fun _ => ⟨rfl, rfl⟩, fun z => absurd z (by decide), fun z => absurd z (by decide), fun z => absurd z (by decide)⟩, rfl, rfl, rfl⟩, fun i hi _ => rfl, fun d s hd hs => ?_⟩
  · show UInt16.ofNat 45 = iniC 256 i
    unfold iniC
    rw [if_pos hi]
  · show iniL 256 i = sw (-2)
    unfold iniL
    rw [if_pos hi]
    decide
  · rw [hB] at a1; cases a1
  · rw [hB] at a1; cases a1
  · have h0 : pMany pInit d s = cnt (fun _ => false) 16 := cnt_congr (fun i hi => hB _)
    rw [h0]
    decide
end RCW
