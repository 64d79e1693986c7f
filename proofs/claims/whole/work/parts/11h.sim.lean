/-! Class and reference side by side: the whole relation. -/
/-! the whole relation -/
def RA (S : PX) (M : MdS) : Prop := (sA S).length = mAc M ∧ ∀ i, i < mAc M → eCs (acAt S i) = mCo M i ∧ eNa (acAt S i) = some (mNa M i) ∧ eCo (acAt S i) = mCr M i ∧ eCa (acAt S i) = mCa M i
def RE (S : PX) : Prop := sC S = repN (sE S) (sE S).length ∧ (∀ i z, (sE S)[i]? = some z → repSame (repN (sE S) i) z = true) ∧ (sE S).length ≤ 512
def Rel (S : PX) (M : MdS) : Prop := MOK M ∧ RLy (sL S) M ∧ RC0 (sC S) M (4 * (sE S).length) ∧ exS (sC S) ∧ RA S M ∧ RE S
theorem RLy.th {L : LyS} {U : MdS} (h : RLy L U) (z : Nat) : RLy L (sTh U z) := ⟨h.1, h.2⟩
theorem RC0.cg {C : CS} {M U : MdS} {T : Nat} (h : RC0 C M T) (e : mLn M U) : RC0 C U T := by
  obtain ⟨e1, e2, e3, e4, e5, e6, e7, e8, e9, e10, e11, e12⟩ := e
  unfold RC0
  rw [e1, e2, e3, e4, e5, e6, e7, e8, e9, e10, e11, e12]
  exact h
theorem RA.cg {S : PX} {M U : MdS} (h : RA S M) (e : mAx M U) : RA S U := by
  obtain ⟨e1, e2, e3, e4, e5⟩ := e
  unfold RA
  rw [e1, e2, e3, e4, e5]
  exact h
theorem RA.ce {S V : PX} {M : MdS} (h : RA S M) (e : sE V = sE S) : RA V M := by
  unfold RA acAt sA at h ⊢
  rw [e]
  exact h
section REL
variable {S : PX} {M : MdS}
theorem Rel.th (h : Rel S M) (z : Nat) : Rel S (sTh M z) := ⟨h.1.th z, h.2.1.th z, h.2.2.1.cg (mLn_th M z), h.2.2.2.1, h.2.2.2.2.1.cg (mAx_th M z), h.2.2.2.2.2⟩
theorem Rel.nm (h : Rel S M) : lNm (sL S) = mNm M := h.2.1.1
theorem Rel.l3 (h : Rel S M) : LOK3 (sL S) := by
  intro i a hi e
  rw [h.nm] at hi
  obtain ⟨g1, g2⟩ := h.2.1.2 i hi
  have h12 := h.1.1
  rw [g1]
  rw [g2] at e
  exact h.1.sp (by omega) e
theorem Rel.ac (h : Rel S M) : (sA S).length = mAc M := h.2.2.2.2.1.1
theorem Rel.ac512 (h : Rel S M) : mAc M ≤ (sE S).length := by
  rw [← h.ac]
  exact List.length_filter_le _ _
theorem Rel.mk3 {L : LyS} {C : CS} {E : List Ev} {M : MdS} (a : MOK M) (b : RLy L M) (c : RC0 C M (4 * E.length)) (d : exS C) (e : RA (L, C, E) M) (f : RE (L, C, E)) : Rel (L, C, E) M := ⟨a, b, c, d, e, f⟩
theorem Rel.pl (h : Rel S M) {f : Nat → Option Nat} {L : LyS} (hM : MOK (mSetPl M f)) (hL : RLy L (mSetPl M f)) (z : Nat) : Rel (L, sC S, sE S) (sTh (mSetPl M f) z) :=
  Rel.mk3 (hM.th z) (hL.th z) ((h.2.2.1.cg (mLn_pl M f)).cg (mLn_th _ z)) h.2.2.2.1 (RA.ce (S := S) ((h.2.2.2.2.1.cg (mAx_pl M f)).cg (mAx_th _ z)) rfl) ⟨h.2.2.2.2.2.1, h.2.2.2.2.2.2⟩
theorem sim_add (h : Rel S M) (v : Int32) : mTh (mAdd M v).2 = (xAdd S v).1 ∧ ((xAdd S v).1 = 0 → (mAdd M v).1 = (xAdd S v).2.1) ∧ Rel (xAdd S v).2.2 (mAdd M v).2 := by
  unfold mAdd xAdd
  cases hq : inP 32 v with
  | none => exact ⟨rfl, fun z => absurd z (show ¬ (1 = 0) by decide), h.th 1⟩
  | some k =>
    obtain ⟨k1, k2, -⟩ := inP_some (by decide) hq
    dsimp only
    rw [h.nm]
    have hM := h.1
    obtain ⟨m1, m2, m3, m4, m5⟩ := hM
    by_cases e : mNm M = 12
    · rw [if_pos e, if_neg (by omega)]
      exact ⟨rfl, fun z => absurd z (show ¬ (2 = 0) by decide), h.th 2⟩
    · rw [if_neg e, if_pos (by omega)]
      have hno : mPl M (mNm M) = none := by
        cases h9 : mPl M (mNm M) with
        | none => rfl
        | some a => have := (m3 _ a (by omega) h9).1; omega
      refine ⟨rfl, fun _ => rfl, ⟨?_, fun i hi => ?_, fun i a hi ha => ?_, fun i hi => ?_, m5⟩, ⟨?_, fun i hi => ?_⟩, h.2.2.1.cg ⟨rfl, rfl, rfl, rfl, rfl, rfl, rfl, rfl, rfl, rfl, rfl, rfl⟩, h.2.2.2.1, RA.ce (S := S) (h.2.2.2.2.1.cg ⟨rfl, rfl, rfl, rfl, rfl⟩) rfl, h.2.2.2.2.2⟩
      · show mNm M + 1 ≤ 12; omega
      · show va_up (mWd M) (mNm M) k i ≤ 32
        unfold va_up
        split
        · exact k2
        · exact m2 i hi
      · obtain ⟨g1, g2⟩ := m3 i a hi ha
        show i < mNm M + 1 ∧ a + va_up (mWd M) (mNm M) k i ≤ 512
        rw [va_up_ne _ _ (by omega)]
        exact ⟨by omega, g2⟩
      · show 1 ≤ va_up (mWd M) (mNm M) k i
        have hi : i < mNm M + 1 := hi
        unfold va_up
        split
        · exact k1
        · exact m4 i (by omega)
      · show lNm (sL S) + 1 = mNm M + 1
        rw [h.nm]
      · have hi : i < mNm M + 1 := hi
        show va_up (lSz (sL S)) (lNm (sL S)) k i = va_up (mWd M) (mNm M) k i ∧ va_up (lSt (sL S)) (lNm (sL S)) none i = mPl M i
        rw [h.nm]
        by_cases e9 : i = mNm M
        · subst e9
          rw [va_up_self, va_up_self, va_up_self, hno]
          exact ⟨rfl, rfl⟩
        · rw [va_up_ne _ _ e9, va_up_ne _ _ e9, va_up_ne _ _ e9]
          exact h.2.1.2 i (by omega)
theorem sim_place (h : Rel S M) (v1 v2 : Int32) : mTh (mPlace M v1 v2).2 = (xPlace S v1 v2).1 ∧ ((xPlace S v1 v2).1 = 0 → (mPlace M v1 v2).1 = (xPlace S v1 v2).2.1) ∧ Rel (xPlace S v1 v2).2.2 (mPlace M v1 v2).2 := by
  unfold mPlace xPlace
  rw [h.nm]
  have h12 := h.1.1
  cases hq : inR (mNm M) v1 with
  | none => exact ⟨rfl, fun z => absurd z (show ¬ (1 = 0) by decide), h.th 1⟩
  | some n =>
    have hn := (inR_some (by omega) hq).1
    dsimp only
    obtain ⟨g1, g2⟩ := h.2.1.2 n hn
    have hz := h.1.sz (i := n) (by omega)
    rw [inMem_eq (by rw [g1]; exact hz), g1]
    cases hx : inR (512 - mWd M n + 1) v2 with
    | none => exact ⟨rfl, fun z => absurd z (show ¬ (2 = 0) by decide), h.th 2⟩
    | some x =>
      have hx1 := inR_some (by omega) hx
      have hcl : v2.toNatClampNeg = x := by rw [hx1.2, nI_clamp (by omega)]
      rw [hcl, g2]
      dsimp only
      rw [if_pos (show (some x).isSome = true from rfl)]
      cases hp : mPl M n with
      | some y =>
        rw [if_pos (show (some y).isSome = true from rfl), if_pos (show (some y).isSome = true from rfl)]
        exact ⟨rfl, fun z => absurd z (show ¬ (3 = 0) by decide), h.th 3⟩
      | none =>
        rw [if_neg (show ¬ (none : Option Nat).isSome = true by decide), if_neg (show ¬ (none : Option Nat).isSome = true by decide)]
        have hf := fits_eq h.2.1 h.1 hn (by rw [g2, hp]) x
        have hff : mFits M n x = pFree (sL S) n x := by
          rw [← hf]
          unfold pFits
          rw [g1, decide_eq_true (by omega), Bool.true_and]
        rw [hff]
        cases hpf : pFree (sL S) n x with
        | false =>
          rw [if_pos rfl, if_neg (by decide)]
          exact ⟨rfl, fun z => absurd z (show ¬ (3 = 0) by decide), h.th 3⟩
        | true =>
          rw [if_neg (by decide), if_pos rfl]
          exact ⟨rfl, fun _ => rfl, h.pl (h.1.up hn (fun a ha => by cases ha; omega)) (rl_up h.2.1) 0⟩
theorem sim_take (h : Rel S M) (v : Int32) : mTh (mTake M v).2 = (xTake S v).1 ∧ ((xTake S v).1 = 0 → (mTake M v).1 = (xTake S v).2.1) ∧ Rel (xTake S v).2.2 (mTake M v).2 := by
  unfold mTake xTake
  rw [h.nm]
  have h12 := h.1.1
  cases hq : inR (mNm M) v with
  | none => exact ⟨rfl, fun z => absurd z (show ¬ (1 = 0) by decide), h.th 1⟩
  | some n =>
    have hn := (inR_some (by omega) hq).1
    dsimp only
    obtain ⟨g1, g2⟩ := h.2.1.2 n hn
    rw [g2]
    cases hp : mPl M n with
    | none => exact ⟨rfl, fun z => absurd z (show ¬ (2 = 0) by decide), h.th 2⟩
    | some y => exact ⟨rfl, fun _ => rfl, h.pl (h.1.up hn (fun a ha => by cases ha)) (rl_up h.2.1) 0⟩
theorem sim_link (h : Rel S M) (v : Int32) : mTh (mLink M v).2 = (xLink S v).1 ∧ ((xLink S v).1 = 0 → (mLink M v).1 = (xLink S v).2.1) ∧ Rel (xLink S v).2.2 (mLink M v).2 := by
  unfold mLink xLink
  cases hq : inP 64 v with
  | none => exact ⟨rfl, fun z => absurd z (show ¬ (1 = 0) by decide), h.th 1⟩
  | some al =>
    dsimp only
    have h9 := lkN_sim (L := pCopy (sL S)) (U := sTh M 0) ⟨h.2.1.1, h.2.1.2⟩ (h.1.th 0) rfl al (mNm M) (Nat.le_refl _)
    obtain ⟨f1, f2⟩ := lkN_kept (sTh M 0) al (mNm M)
    obtain ⟨k1, k2, -, -, k5, -, -⟩ := mLkN_ok (U := sTh M 0) (h.1.th 0) rfl al (mNm M) (Nat.le_refl _)
    have g1 : mLn M (mLkN (sTh M 0) al (mNm M)).2 := (mLn_th M 0).tr f1
    have g2 : mAx M (mLkN (sTh M 0) al (mNm M)).2 := (mAx_th M 0).tr f2
    have k2 : mNm (mLkN (sTh M 0) al (mNm M)).2 = mNm M := k2
    have k5 : mWd (mLkN (sTh M 0) al (mNm M)).2 = mWd M := k5
    have hp : pAll (sL S) al = match plN (pCopy (sL S)) al (mNm M) with
      | none => (none, pCopy (sL S))
      | some (p, L') => (some p, L') := by
      unfold pAll
      rw [h.nm]
      cases plN (pCopy (sL S)) al (mNm M) <;> rfl
    rw [hp]
    unfold mLinkEnd
    have h12 := h.1.1
    generalize hP : mLkN (sTh M 0) al (mNm M) = P at *
    cases hpl : plN (pCopy (sL S)) al (mNm M) with
    | none =>
      rw [hpl] at h9
      dsimp only at h9 ⊢
      rw [if_neg (by rw [h9]; decide)]
      refine ⟨h9, fun z => absurd z (show ¬ (2 = 0) by decide), ?_⟩
      have hr : ∀ i, i < 12 → mRs (mPl P.2) (mPl M) 12 i = mPl M i := fun i hi => if_pos hi
      refine Rel.mk3 (k1.pl (fun i a hi ha => ?_)) ⟨?_, fun i hi => ?_⟩ (h.2.2.1.cg (g1.tr (mLn_pl _ _))) h.2.2.2.1 (RA.ce (S := S) (h.2.2.2.2.1.cg (g2.tr (mAx_pl _ _))) rfl) ⟨h.2.2.2.2.2.1, h.2.2.2.2.2.2⟩
      · have ha : mRs (mPl P.2) (mPl M) 12 i = some a := ha
        rw [hr i hi] at ha
        rw [k2, k5]
        exact h.1.2.2.1 i a hi ha
      · show lNm (sL S) = mNm P.2
        rw [k2]; exact h.nm
      · have hi : i < mNm P.2 := hi
        rw [k2] at hi
        show lSz (sL S) i = mWd P.2 i ∧ lSt (sL S) i = mRs (mPl P.2) (mPl M) 12 i
        rw [k5, hr i (by omega)]
        exact h.2.1.2 i hi
    | some q =>
      obtain ⟨p, L'⟩ := q
      rw [hpl] at h9
      dsimp only at h9 ⊢
      obtain ⟨a1, a2, a3⟩ := h9
      rw [if_pos a1]
      exact ⟨a1, fun _ => a2, Rel.mk3 k1 a3 (h.2.2.1.cg g1) h.2.2.2.1 (RA.ce (S := S) (h.2.2.2.2.1.cg g2) rfl) ⟨h.2.2.2.2.2.1, h.2.2.2.2.2.2⟩⟩
end REL
