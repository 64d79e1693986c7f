/-! Class and reference side by side: the questions. -/
theorem sumL_congr {p q : Nat → Bool} {f g : Nat → Nat} : ∀ {n : Nat}, (∀ i, i < n → p i = q i ∧ f i = g i) → sumL p f n = sumL q g n := by
  intro n
  induction n with
  | zero => intro _; rfl
  | succ n ih => intro h; rw [sumL, sumL, ih (fun i hi => h i (by omega)), (h n (by omega)).1, (h n (by omega)).2]
theorem sumN_congr {f g : Nat → Nat} : ∀ {n : Nat}, (∀ i, i < n → f i = g i) → sumN f n = sumN g n := by
  intro n
  induction n with
  | zero => intro _; rfl
  | succ n ih => intro h; rw [sumN, sumN, ih (fun i hi => h i (by omega)), h n (by omega)]
section REQ
variable {S : PX} {M : MdS}
theorem sim_addr (h : Rel S M) (v1 v2 : Int32) : mTh (mAddr M v1 v2).2 = (xAddr S v1 v2).1 ∧ ((xAddr S v1 v2).1 = 0 → (mAddr M v1 v2).1 = (xAddr S v1 v2).2) ∧ Rel S (mAddr M v1 v2).2 := by
  have h12 := h.1.1
  unfold mAddr xAddr
  rw [h.nm]
  cases hq : inR (mNm M) v1 with
  | none => exact ⟨rfl, fun z => absurd z (show ¬ (1 = 0) by decide), h.th 1⟩
  | some n =>
    have hn := (inR_some (by omega) hq).1
    obtain ⟨g1, g2⟩ := h.2.1.2 n hn
    dsimp only
    rw [g2, g1]
    cases hp : mPl M n with
    | none => exact ⟨rfl, fun z => absurd z (show ¬ (2 = 0) by decide), h.th 2⟩
    | some x =>
      dsimp only
      cases hw : inR (mWd M n) v2 with
      | none => exact ⟨rfl, fun z => absurd z (show ¬ (3 = 0) by decide), h.th 3⟩
      | some w => exact ⟨rfl, fun _ => rfl, h.th 0⟩
theorem sim_nameAt (h : Rel S M) (v : Int32) : mTh (mNameAt M v).2 = (xNameAt S v).1 ∧ ((xNameAt S v).1 = 0 → (mNameAt M v).1 = (xNameAt S v).2) ∧ Rel S (mNameAt M v).2 := by
  unfold mNameAt xNameAt
  cases hq : inR 512 v with
  | none => exact ⟨rfl, fun z => absurd z (show ¬ (1 = 0) by decide), h.th 1⟩
  | some x =>
    dsimp only
    rw [find_eq h.2.1]
    cases hp : mNameOn M x with
    | none => exact ⟨rfl, fun z => absurd z (show ¬ (2 = 0) by decide), h.th 2⟩
    | some n => exact ⟨rfl, fun _ => rfl, h.th 0⟩
theorem meets_eq (h : Rel S M) {n k : Nat} (hn : n < mNm M) (hk : k < mNm M) : mMeets M n k = pMeet (sL S) n k := by
  unfold mMeets pMeet
  rw [(h.2.1.2 n hn).2, (h.2.1.2 k hk).2, (h.2.1.2 n hn).1, (h.2.1.2 k hk).1]
  cases mPl M n with
  | none => rfl
  | some a =>
    cases mPl M k with
    | none => rfl
    | some b => exact Bool.and_comm _ _
theorem sim_meet (h : Rel S M) (v1 v2 : Int32) : mTh (mMeet M v1 v2).2 = (xMeet S v1 v2).1 ∧ ((xMeet S v1 v2).1 = 0 → (mMeet M v1 v2).1 = (xMeet S v1 v2).2) ∧ Rel S (mMeet M v1 v2).2 := by
  have h12 := h.1.1
  unfold mMeet xMeet
  rw [h.nm]
  cases hq : inR (mNm M) v1 with
  | none => exact ⟨rfl, fun z => absurd z (show ¬ (1 = 0) by decide), h.th 1⟩
  | some n =>
    have hn := (inR_some (by omega) hq).1
    dsimp only
    cases hp : inR (mNm M) v2 with
    | none => exact ⟨rfl, fun z => absurd z (show ¬ (1 = 0) by decide), h.th 1⟩
    | some k =>
      have hk := (inR_some (by omega) hp).1
      dsimp only
      by_cases e : n = k
      · rw [if_pos e, if_pos e]
        exact ⟨rfl, fun z => absurd z (show ¬ (2 = 0) by decide), h.th 2⟩
      · rw [if_neg e, if_neg e]
        exact ⟨rfl, fun _ => meets_eq h hn hk, h.th 0⟩
theorem sim_cost (h : Rel S M) (v : Int32) : mTh (mCost M v).2 = (xCost S v).1 ∧ ((xCost S v).1 = 0 → (mCost M v).1 = (xCost S v).2) ∧ Rel S (mCost M v).2 := by
  have h12 := h.1.2.2.2.2
  unfold mCost xCost
  rw [h.ac]
  cases hq : inR (mAc M) v with
  | none => exact ⟨rfl, fun z => absurd z (show ¬ (1 = 0) by decide), h.th 1⟩
  | some i =>
    have hi := (inR_some (by omega) hq).1
    exact ⟨rfl, fun _ => (h.2.2.2.2.1.2 i hi).1.symm, h.th 0⟩
theorem sim_caus (h : Rel S M) (v : Int32) : mTh (mCausOf M v).2 = (xCaus S v).1 ∧ ((xCaus S v).1 = 0 → (mCausOf M v).1 = (xCaus S v).2) ∧ Rel S (mCausOf M v).2 := by
  have h12 := h.1.2.2.2.2
  unfold mCausOf xCaus
  rw [h.ac]
  cases hq : inR (mAc M) v with
  | none => exact ⟨rfl, fun z => absurd z (show ¬ (1 = 0) by decide), h.th 1⟩
  | some i =>
    have hi := (inR_some (by omega) hq).1
    exact ⟨rfl, fun _ => (h.2.2.2.2.1.2 i hi).2.2.2.symm, h.th 0⟩
theorem filt_at {E : List Ev} {a i : Nat} {z : Ev} (h : E[a]? = some z) (hz : isA z = true) (hc : (E.take a).countP isA = i) : (E.filter isA)[i]? = some z := by
  obtain ⟨hlt, e⟩ := List.getElem?_eq_some_iff.mp h
  have e1 : E = E.take a ++ z :: E.drop (a + 1) := by
    conv => lhs; rw [← List.take_append_drop a E, List.drop_eq_getElem_cons hlt, e]
  rw [e1, List.filter_append, List.filter_cons_of_pos hz, List.getElem?_append_right (by rw [← List.countP_eq_length_filter, hc]; exact Nat.le_refl _), ← List.countP_eq_length_filter, hc, Nat.sub_self]
  rfl
theorem rep_eq (h : Rel S M) {i r : Nat} (hr : xRep S i r) : r = eCs (acAt S i) := by
  obtain ⟨a, z, h1, h2, h3, rfl⟩ := hr
  have h4 := h.2.2.2.2.2.2.1 a z h1
  unfold repSame at h4
  rw [Bool.and_eq_true] at h4
  have h5 := filt_at h1 h2 h3
  unfold acAt sA
  rw [List.getD_eq_getElem?_getD, h5]
  exact (of_decide_eq_true h4.2).symm
theorem sim_state (h : Rel S M) (v1 v2 : Int32) : mTh (mState M v1 v2).2 = (xState S v1 v2).1 ∧ ((xState S v1 v2).1 = 0 → (mState M v1 v2).1 = (xState S v1 v2).2) ∧ Rel S (mState M v1 v2).2 := by
  unfold mState xState
  cases hq : inR 4 v1 with
  | none => exact ⟨rfl, fun z => absurd z (show ¬ (1 = 0) by decide), h.th 1⟩
  | some c =>
    have hc := (inR_some (by decide) hq).1
    dsimp only
    cases hp : inR 64 v2 with
    | none => exact ⟨rfl, fun z => absurd z (show ¬ (2 = 0) by decide), h.th 2⟩
    | some k =>
      have hk := (inR_some (by decide) hp).1
      refine ⟨rfl, fun _ => ?_, h.th 0⟩
      show mSt M (64 * c + k) = cSt (sC S) (c * 64 + k)
      rw [ixc]
      exact (h.2.2.1.1 _ (by omega)).symm
theorem sim_owner (h : Rel S M) (v : Int32) : mTh (mOwnr M v).2 = (xOwner S v).1 ∧ ((xOwner S v).1 = 0 → (mOwnr M v).1 = (xOwner S v).2) ∧ Rel S (mOwnr M v).2 := by
  unfold mOwnr xOwner
  cases hq : inR 64 v with
  | none => exact ⟨rfl, fun z => absurd z (show ¬ (1 = 0) by decide), h.th 1⟩
  | some k =>
    have hk := (inR_some (by decide) hq).1
    dsimp only
    rw [owner_eq h.2.2.1 hk]
    cases hp : pOwner (sC S) k with
    | none => exact ⟨rfl, fun z => absurd z (show ¬ (2 = 0) by decide), h.th 2⟩
    | some q => exact ⟨rfl, fun _ => rfl, h.th 0⟩
theorem sim_hold (h : Rel S M) (v : Int32) : mTh (mHold M v).2 = (xHold S v).1 ∧ ((xHold S v).1 = 0 → (mHold M v).1 = (xHold S v).2) ∧ Rel S (mHold M v).2 := by
  unfold mHold xHold
  cases hq : inR 64 v with
  | none => exact ⟨rfl, fun z => absurd z (show ¬ (1 = 0) by decide), h.th 1⟩
  | some k =>
    have hk := (inR_some (by decide) hq).1
    refine ⟨rfl, fun _ => ?_, h.th 0⟩
    show mOthers M (-1) k = pHold (sC S) k
    unfold mOthers pHold
    refine cnt_congr (fun d hd => ?_)
    rw [decide_eq_true (p := ¬ nI d = -1) (nI_m1 (by omega)), Bool.true_and, ixc]
    exact h.2.2.1.hs (by omega)
theorem sim_lines (h : Rel S M) (v : Int32) : mTh (mLines M v).2 = (xLines S v).1 ∧ ((xLines S v).1 = 0 → (mLines M v).1 = (xLines S v).2) ∧ Rel S (mLines M v).2 := by
  unfold mLines xLines
  cases hq : inR 4 v with
  | none => exact ⟨rfl, fun z => absurd z (show ¬ (1 = 0) by decide), h.th 1⟩
  | some c =>
    have hc := (inR_some (by decide) hq).1
    exact ⟨rfl, fun _ => sumN_congr (fun s hs => (h.th 0).2.2.1.many hc hs), h.th 0⟩
theorem sim_oldst (h : Rel S M) (v1 v2 : Int32) : mTh (mOldst M v1 v2).2 = (xOldst S v1 v2).1 ∧ ((xOldst S v1 v2).1 = 0 → (mOldst M v1 v2).1 = (xOldst S v1 v2).2) ∧ Rel S (mOldst M v1 v2).2 := by
  unfold mOldst xOldst
  cases hq : inR 4 v1 with
  | none => exact ⟨rfl, fun z => absurd z (show ¬ (1 = 0) by decide), h.th 1⟩
  | some c =>
    have hc := (inR_some (by decide) hq).1
    dsimp only
    cases hp : inR 4 v2 with
    | none => exact ⟨rfl, fun z => absurd z (show ¬ (2 = 0) by decide), h.th 2⟩
    | some s =>
      have hs := (inR_some (by decide) hp).1
      dsimp only
      rw [h.2.2.1.old hc hs]
      cases ho : pOldest (sC S) c s with
      | none => exact ⟨rfl, fun z => absurd z (show ¬ (3 = 0) by decide), h.th 3⟩
      | some k => exact ⟨rfl, fun _ => rfl, h.th 0⟩
theorem na_eq (h : Rel S M) {i : Nat} (hi : i < mAc M) : oI (eNa (acAt S i)) = nI (mNa M i) := by
  rw [(h.2.2.2.2.1.2 i hi).2.1]
  rfl
theorem sim_count (h : Rel S M) (v : Int32) (z : UInt16) : mTh (mCount M v z).2 = (xCount S v z).1 ∧ ((xCount S v z).1 = 0 → (mCount M v z).1 = (xCount S v z).2) ∧ Rel S (mCount M v z).2 := by
  have h12 := h.1.1
  unfold mCount xCount
  rw [h.nm]
  cases hq : inR (mNm M) v with
  | none => exact ⟨rfl, fun z => absurd z (show ¬ (1 = 0) by decide), h.th 1⟩
  | some n =>
    have hv := (inR_some (by omega) hq).2
    dsimp only
    by_cases e : isCz z = true
    · rw [if_pos e, if_pos e]
      refine ⟨rfl, fun _ => ?_, h.th 0⟩
      show mCntN (sTh M 0) n z (mAc M) = xCntN S v z (sA S).length
      rw [h.ac]
      unfold mCntN xCntN
      refine cnt_congr (fun i hi => ?_)
      rw [na_eq h hi, (h.2.2.2.2.1.2 i hi).2.2.2, hv]
    · rw [if_neg e, if_neg e]
      exact ⟨rfl, fun z => absurd z (show ¬ (2 = 0) by decide), h.th 2⟩
theorem bill_eq (h : Rel S M) (v : Int32) : mBillFor (sTh M 0) v = xSum S v := by
  show sumL _ _ (mAc M) = sumL _ _ (sA S).length
  rw [h.ac]
  refine sumL_congr (fun i hi => ⟨?_, ((h.2.2.2.2.1.2 i hi).1).symm⟩)
  rw [na_eq h hi]
theorem sim_bill (h : Rel S M) (v : Int32) : mTh (mBill M v).2 = (xBill S v).1 ∧ ((xBill S v).1 = 0 → (mBill M v).1 = (xBill S v).2) ∧ Rel S (mBill M v).2 := by
  have h12 := h.1.1
  unfold mBill xBill
  rw [h.nm]
  cases hq : inR (mNm M) v with
  | none => exact ⟨rfl, fun z => absurd z (show ¬ (1 = 0) by decide), h.th 1⟩
  | some n =>
    have hv := (inR_some (by omega) hq).2
    refine ⟨rfl, fun _ => ?_, h.th 0⟩
    show mBillFor (sTh M 0) (nI n) = xSum S v
    rw [bill_eq h, hv]
theorem wor_eq (h : Rel S M) : ∀ i, mWorN (sTh M 0) i = xWorN S i := by
  intro i
  induction i with
  | zero => rfl
  | succ i ih => rw [mWorN, xWorN, ih, bill_eq h, bill_eq h]
theorem sim_worst (h : Rel S M) : mTh (mWorst M).2 = (xWorst S).1 ∧ ((xWorst S).1 = 0 → (mWorst M).1 = (xWorst S).2) ∧ Rel S (mWorst M).2 := by
  unfold mWorst xWorst
  rw [h.nm]
  by_cases e : mNm M = 0
  · rw [if_pos e, if_pos e]
    exact ⟨rfl, fun z => absurd z (show ¬ (1 = 0) by decide), h.th 1⟩
  · rw [if_neg e, if_neg e]
    exact ⟨rfl, fun _ => wor_eq h _, h.th 0⟩
theorem sim_cyc (h : Rel S M) (v : Int32) : mTh (mCycles M v).2 = (xCyc S v).1 ∧ ((xCyc S v).1 = 0 → (mCycles M v).1 = (xCyc S v).2) ∧ Rel S (mCycles M v).2 := by
  unfold mCycles xCyc
  cases hq : inR 4 v with
  | none => exact ⟨rfl, fun z => absurd z (show ¬ (1 = 0) by decide), h.th 1⟩
  | some c =>
    have hv := (inR_some (by decide) hq).2
    refine ⟨rfl, fun _ => ?_, h.th 0⟩
    show sumL _ _ (mAc M) = sumL _ _ (sA S).length
    rw [h.ac]
    refine sumL_congr (fun i hi => ⟨?_, ((h.2.2.2.2.1.2 i hi).1).symm⟩)
    rw [(h.2.2.2.2.1.2 i hi).2.2.1, hv]
theorem sim_fet (h : Rel S M) (v : Int32) : mTh (mFetc M v).2 = (xFet S v).1 ∧ ((xFet S v).1 = 0 → (mFetc M v).1 = (xFet S v).2) ∧ Rel S (mFetc M v).2 := by
  unfold mFetc xFet
  cases hq : inR 4 v with
  | none => exact ⟨rfl, fun z => absurd z (show ¬ (1 = 0) by decide), h.th 1⟩
  | some c =>
    have hc := (inR_some (by decide) hq).1
    exact ⟨rfl, fun _ => (h.2.2.1.2.2.2.2.2.1 c hc).2.2.1.symm, h.th 0⟩
theorem sim_usef (h : Rel S M) (v : Int32) : mTh (mUsef M v).2 = (xUsef S v).1 ∧ ((xUsef S v).1 = 0 → (mUsef M v).1 = (xUsef S v).2) ∧ Rel S (mUsef M v).2 := by
  unfold mUsef xUsef
  cases hq : inR 4 v with
  | none => exact ⟨rfl, fun z => absurd z (show ¬ (1 = 0) by decide), h.th 1⟩
  | some c =>
    have hc := (inR_some (by decide) hq).1
    exact ⟨rfl, fun _ => (h.2.2.1.2.2.2.2.2.1 c hc).2.2.2.1.symm, h.th 0⟩
theorem sim_wrg (h : Rel S M) (v : Int32) : mTh (mWron M v).2 = (xWrg S v).1 ∧ ((xWrg S v).1 = 0 → (mWron M v).1 = (xWrg S v).2) ∧ Rel S (mWron M v).2 := by
  unfold mWron xWrg
  cases hq : inR 4 v with
  | none => exact ⟨rfl, fun z => absurd z (show ¬ (1 = 0) by decide), h.th 1⟩
  | some c =>
    have hc := (inR_some (by decide) hq).1
    exact ⟨rfl, fun _ => (h.2.2.1.2.2.2.2.2.1 c hc).2.2.2.2.symm, h.th 0⟩
theorem sim_share (h : Rel S M) : mTh (mShareF M).2 = (xShareF S).1 ∧ ((xShareF S).1 = 0 → (mShareF M).1 = (xShareF S).2) ∧ Rel S (mShareF M).2 := by
  unfold mShareF xShareF
  rw [h.ac]
  by_cases e : mAc M = 0
  · rw [if_pos e, if_pos e]
    exact ⟨rfl, fun z => absurd z (show ¬ (1 = 0) by decide), h.th 1⟩
  · rw [if_neg e, if_neg e]
    have h9 : mMissN M (mAc M) = xMissN S (mAc M) := cnt_congr (fun i hi => by rw [(h.2.2.2.2.1.2 i hi).2.2.2])
    exact ⟨rfl, fun _ => by rw [h9], h.th 0⟩
theorem sim_mean (h : Rel S M) : mTh (mMean M).2 = (xMean S).1 ∧ ((xMean S).1 = 0 → (mMean M).1 = (xMean S).2) ∧ Rel S (mMean M).2 := by
  unfold mMean xMean
  rw [h.ac]
  by_cases e : mAc M = 0
  · rw [if_pos e, if_pos e]
    exact ⟨rfl, fun z => absurd z (show ¬ (1 = 0) by decide), h.th 1⟩
  · rw [if_neg e, if_neg e]
    have h9 : mSumN M (mAc M) = xTotN S (mAc M) := sumL_congr (fun i hi => ⟨rfl, (h.2.2.2.2.1.2 i hi).1.symm⟩)
    exact ⟨rfl, fun _ => by rw [h9], h.th 0⟩
theorem sim_coh (h : Rel S M) : (pLone (sC S) && repAll S) = true := by
  rw [lone_of h.2.2.2.1, Bool.true_and]
  rw [repAll_en (fun j hj => ?_)]
  · rw [← h.2.2.2.2.2.1]
    exact allB_t (fun i _ => decide_eq_true rfl)
  · have e := List.getElem?_eq_getElem hj
    rw [getD_of e]
    exact h.2.2.2.2.2.2.1 j _ e
theorem rel_init (z : Nat) : Rel (pX (xInit z)) mInit :=
  Rel.mk3 (L := lInit) (C := pInit) (E := []) mInit_ok ⟨rfl, fun i hi => absurd hi (Nat.not_lt_zero i)⟩ rc_init ex_init ⟨rfl, fun i hi => absurd hi (Nat.not_lt_zero i)⟩ ⟨rfl, fun i z (hi : ([] : List Ev)[i]? = some z) => (nomatch hi), Nat.zero_le _⟩
end REQ
