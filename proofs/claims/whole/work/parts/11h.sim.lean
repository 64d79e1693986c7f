/-! Class and reference side by side: the whole relation. -/
/-! the whole relation -/
def RA (S : PX) (M : MdS) : Prop := (sA S).length = mAc M ∧ ∀ i, i < mAc M → eCs (acAt S i) = mCo M i ∧ eNa (acAt S i) = some (mNa M i) ∧ eCo (acAt S i) = mCr M i ∧ eCa (acAt S i) = mCa M i
def RE (S : PX) : Prop := sC S = repN (sE S) (sE S).length ∧ (∀ i z, (sE S)[i]? = some z → repSame (repN (sE S) i) z = true) ∧ (sE S).length ≤ 512
def Rel (S : PX) (M : MdS) : Prop := MOK M ∧ RLy (sL S) M ∧ RC0 (sC S) M (4 * (sE S).length) ∧ exS (sC S) ∧ RA S M ∧ RE S
theorem RLy.th {L : LyS} {U : MdS} (h : RLy L U) (z : Nat) : RLy L (sTh U z) := ⟨h.1, h.2⟩
theorem RC0.cg {C : CS} {M U : MdS} {T : Nat} (h : RC0 C M T) (e : mLn M U) : RC0 C U T := by
  obtain ⟨e1, e2, e3, e4, e5, e6, e7, e8, e9, e10, e11, e12⟩ := e
  unfold RC0
  rw [e1, e2, e3, e4, e5, e6, e7, e8, e9, e10, e11, e12]
  exact h
theorem RA.cg {S : PX} {M U : MdS} (h : RA S M) (e : mAx M U) : RA S U := by
  obtain ⟨e1, e2, e3, e4, e5⟩ := e
  unfold RA
  rw [e1, e2, e3, e4, e5]
  exact h
theorem RA.ce {S V : PX} {M : MdS} (h : RA S M) (e : sE V = sE S) : RA V M := by
  unfold RA acAt sA at h ⊢
  rw [e]
  exact h
section REL
variable {S : PX} {M : MdS}
theorem Rel.th (h : Rel S M) (z : Nat) : Rel S (sTh M z) := ⟨h.1.th z, h.2.1.th z, h.2.2.1.cg (mLn_th M z), h.2.2.2.1, h.2.2.2.2.1.cg (mAx_th M z), h.2.2.2.2.2⟩
theorem Rel.nm (h : Rel S M) : lNm (sL S) = mNm M := h.2.1.1
theorem Rel.l3 (h : Rel S M) : LOK3 (sL S) := by
  intro i a hi e
  rw [h.nm] at hi
  obtain ⟨g1, g2⟩ := h.2.1.2 i hi
  have h12 := h.1.1
  rw [g1]
  rw [g2] at e
  exact h.1.sp (by omega) e
theorem Rel.ac (h : Rel S M) : (sA S).length = mAc M := h.2.2.2.2.1.1
theorem Rel.ac512 (h : Rel S M) : mAc M ≤ (sE S).length := by
  rw [← h.ac]
  exact List.length_filter_le _ _
end REL
