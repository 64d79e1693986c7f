/-! Class and reference side by side: the layout of names. -/
/-! the parts of the reference's object -/
/-- the lines' part alike, the accesses' part alike -/
def mLn (M U : MdS) : Prop := mSt U = mSt M ∧ mUs U = mUs M ∧ mLb U = mLb M ∧ mNw U = mNw M ∧ mAh U = mAh M ∧ mMs U = mMs M ∧ mLm U = mLm M ∧ mLs U = mLs M ∧ mFe U = mFe M ∧ mUf U = mUf M ∧ mWr U = mWr M ∧ mCk U = mCk M
def mAx (M U : MdS) : Prop := mCo U = mCo M ∧ mNa U = mNa M ∧ mCr U = mCr M ∧ mCa U = mCa M ∧ mAc U = mAc M
theorem mLn_th (U : MdS) (z : Nat) : mLn U (sTh U z) := ⟨rfl, rfl, rfl, rfl, rfl, rfl, rfl, rfl, rfl, rfl, rfl, rfl⟩
theorem mLn_pl (U : MdS) (f : Nat → Option Nat) : mLn U (mSetPl U f) := ⟨rfl, rfl, rfl, rfl, rfl, rfl, rfl, rfl, rfl, rfl, rfl, rfl⟩
theorem mAx_th (U : MdS) (z : Nat) : mAx U (sTh U z) := ⟨rfl, rfl, rfl, rfl, rfl⟩
theorem mAx_pl (U : MdS) (f : Nat → Option Nat) : mAx U (mSetPl U f) := ⟨rfl, rfl, rfl, rfl, rfl⟩
theorem mLn_rf (U : MdS) : mLn U U := ⟨rfl, rfl, rfl, rfl, rfl, rfl, rfl, rfl, rfl, rfl, rfl, rfl⟩
theorem mAx_rf (U : MdS) : mAx U U := ⟨rfl, rfl, rfl, rfl, rfl⟩
theorem mLn.tr {M U V : MdS} (a : mLn M U) (b : mLn U V) : mLn M V := by
  obtain ⟨a1, a2, a3, a4, a5, a6, a7, a8, a9, a10, a11, a12⟩ := a
  obtain ⟨b1, b2, b3, b4, b5, b6, b7, b8, b9, b10, b11, b12⟩ := b
  exact ⟨b1.trans a1, b2.trans a2, b3.trans a3, b4.trans a4, b5.trans a5, b6.trans a6, b7.trans a7, b8.trans a8, b9.trans a9, b10.trans a10, b11.trans a11, b12.trans a12⟩
theorem mAx.tr {M U V : MdS} (a : mAx M U) (b : mAx U V) : mAx M V := by
  obtain ⟨a1, a2, a3, a4, a5⟩ := a
  obtain ⟨b1, b2, b3, b4, b5⟩ := b
  exact ⟨b1.trans a1, b2.trans a2, b3.trans a3, b4.trans a4, b5.trans a5⟩
def RLy (L : LyS) (M : MdS) : Prop := lNm L = mNm M ∧ ∀ i, i < mNm M → lSz L i = mWd M i ∧ lSt L i = mPl M i
section RLS
variable {L : LyS} {M : MdS} {n : Nat}
theorem srch_isNone {p : Nat → Bool} {n i : Nat} (h : (srch p n).isNone = true) (hi : i < n) : p i = false := by
  unfold srch at h
  rw [Option.isNone_iff_eq_none, List.find?_eq_none] at h
  have := h i (List.mem_range.mpr hi)
  simpa using this
theorem free_eq (h : RLy L M) (hM : MOK M) (hn : n < mNm M) (h0 : lSt L n = none) (a : Nat) : pFree L n a = allB (fun k => (mNameOn M (a + k)).isNone) (mWd M n) := by
  obtain ⟨e1, e2⟩ := h
  have h12 := hM.1
  rw [Bool.eq_iff_iff]
  unfold pFree
  rw [allB_iff, allB_iff, e1]
  constructor
  · intro hh k hk
    unfold mNameOn
    rw [srch_none (fun o ho => ?_)]
    · rfl
    · obtain ⟨g1, g2⟩ := e2 o ho
      cases hp : mPl M o with
      | none => exact mAt_0 hp
      | some s =>
        refine mAt_1 hp (fun z => ?_)
        have hon : ¬ o = n := fun z => by rw [← z, g2, hp] at h0; cases h0
        have h9 := hh o ho
        rw [clash_t (s := s) hon (by rw [g2, hp]) (by rw [(e2 n hn).1]; omega) (by rw [g1]; omega)] at h9
        cases h9
  · intro hh o ho
    rw [Bool.not_eq_true']
    obtain ⟨g1, g2⟩ := e2 o ho
    by_cases hon : o = n
    · exact clash_n hon
    · cases hp : mPl M o with
      | none => exact clash_0 (by rw [g2, hp])
      | some s =>
        by_cases c1 : a + lSz L n ≤ s
        · exact clash_1 (by rw [g2, hp]) c1
        · by_cases c2 : s + lSz L o ≤ a
          · exact clash_2 (by rw [g2, hp]) c2
          · have w1 := hM.2.2.2.1 o ho
            have w2 := hM.2.2.2.1 n hn
            have q1 := (e2 n hn).1
            have h9 := srch_isNone (hh (s - a) (by omega)) ho
            rw [mAt_t hp (by omega)] at h9
            cases h9
theorem fits_eq (h : RLy L M) (hM : MOK M) (hn : n < mNm M) (h0 : lSt L n = none) (a : Nat) : pFits L n a = mFits M n a := by
  have h12 := hM.1
  have hz := hM.sz (i := n) (by omega)
  unfold pFits mFits
  rw [free_eq h hM hn h0, (h.2 n hn).1]
  rw [show decide (a ≤ 512 - mWd M n) = decide (a + mWd M n ≤ 512) from decide_eq_decide.mpr ⟨fun z => by omega, fun z => by omega⟩]
theorem low_eq (h : RLy L M) (hM : MOK M) (hn : n < mNm M) (h0 : lSt L n = none) (al : Nat) : pLow L n al = mLow M n al := by
  unfold pLow mLow
  rw [srch_congr (p := fun i => decide (i * al < 512) && pFits L n (i * al)) (q := fun i => decide (i * al < 512) && mFits M n (i * al)) (fun i hi => by rw [fits_eq h hM hn h0])]
theorem find_eq (h : RLy L M) (x : Nat) : pFind L x = mNameOn M x := by
  unfold pFind mNameOn
  rw [h.1]
  refine srch_congr (fun i hi => ?_)
  obtain ⟨g1, g2⟩ := h.2 i hi
  unfold pAt mAt
  rw [g1, g2]
  rfl
theorem inMem_eq {v : Int32} (hz : lSz L n ≤ 32) : inMem L n v = (inR (512 - lSz L n + 1) v).isSome := by
  unfold inMem inR
  by_cases h0 : v < 0
  · rw [if_pos h0, if_pos h0]; rfl
  · rw [if_neg h0, if_neg h0]
    have e1 : (nI (512 - lSz L n)).toInt = ((512 - lSz L n : Nat) : Int) := nI_toInt (by omega)
    have e2 : (nI (512 - lSz L n + 1)).toInt = ((512 - lSz L n + 1 : Nat) : Int) := nI_toInt (by omega)
    by_cases h1 : nI (512 - lSz L n) < v
    · have h2 : nI (512 - lSz L n + 1) ≤ v := by
        rw [Int32.lt_iff_toInt_lt] at h1
        rw [Int32.le_iff_toInt_le]
        omega
      rw [if_pos h1, if_pos h2]; rfl
    · have h2 : ¬ nI (512 - lSz L n + 1) ≤ v := by
        rw [Int32.lt_iff_toInt_lt] at h1
        rw [Int32.le_iff_toInt_le]
        omega
      rw [if_neg h1, if_neg h2]; rfl
theorem rl_up (h : RLy L M) {o : Option Nat} : RLy (pSetSt L n o) (mSetPl M (va_up (mPl M) n o)) := by
  refine ⟨h.1, fun i hi => ⟨(h.2 i hi).1, ?_⟩⟩
  show va_up _ _ _ _ = va_up _ _ _ _
  unfold va_up
  rw [(h.2 i hi).2]
theorem lkN_kept (U : MdS) (al : Nat) : ∀ i, mLn U (mLkN U al i).2 ∧ mAx U (mLkN U al i).2 := by
  intro i
  induction i with
  | zero => exact ⟨mLn_rf U, mAx_rf U⟩
  | succ i ih =>
    obtain ⟨e1, e2⟩ := ih
    rw [mLkN]
    unfold mLkS
    split
    · split
      · exact ⟨e1, e2⟩
      · by_cases hl : (mLow (mLkN U al i).2 i al).isSome = true
        · dsimp only
          rw [if_pos hl]
          exact ⟨e1.tr (mLn_pl _ _), e2.tr (mAx_pl _ _)⟩
        · dsimp only
          rw [if_neg hl]
          exact ⟨(e1.tr (mLn_pl _ _)).tr (mLn_th _ _), (e2.tr (mAx_pl _ _)).tr (mAx_th _ _)⟩
    · exact ⟨e1, e2⟩
theorem lkN_sim {U : MdS} (h : RLy L U) (hM : MOK U) (h0 : mTh U = 0) (al : Nat) : ∀ i, i ≤ mNm U → match plN L al i with
    | some (p, L') => mTh (mLkN U al i).2 = 0 ∧ (mLkN U al i).1 = p ∧ RLy L' (mLkN U al i).2
    | none => mTh (mLkN U al i).2 = 2 := by
  intro i
  induction i with
  | zero => intro _; exact ⟨h0, rfl, h⟩
  | succ i ih =>
    intro hi
    have h9 := ih (by omega)
    obtain ⟨k1, k2, -⟩ := mLkN_ok hM h0 al i (by omega)
    rw [plN]
    cases hp : plN L al i with
    | none =>
      rw [hp] at h9
      dsimp only at h9 ⊢
      rw [mLkN]
      unfold mLkS
      rw [if_neg (by rw [h9]; decide)]
      exact h9
    | some q =>
      obtain ⟨p, L'⟩ := q
      rw [hp] at h9
      dsimp only at h9 ⊢
      obtain ⟨a1, a2, a3⟩ := h9
      have hs := (a3.2 i (by rw [k2]; omega)).2
      cases hq : lSt L' i with
      | some x =>
        dsimp only
        rw [mLkN_1 a1 (by rw [← hs, hq]; rfl)]
        exact ⟨a1, a2, a3⟩
      | none =>
        dsimp only
        have hl := low_eq a3 k1 (by rw [k2]; omega) hq al
        rw [hl]
        cases hw : mLow (mLkN U al i).2 i al with
        | none =>
          dsimp only
          rw [mLkN_3 a1 (by rw [← hs, hq]) hw]
        | some x =>
          dsimp only
          rw [mLkN_2 a1 (by rw [← hs, hq]) (by rw [hw]; rfl), hw]
          refine ⟨a1, ?_, rl_up a3⟩
          show (mLkN U al i).1 + 1 = p + 1
          rw [a2]
end RLS
