/-! the reference: the linker -/
def mSetPl (U : MdS) (f : Nat → Option Nat) : MdS := (mWd U, f, mSt U, mUs U, mLb U, mNw U, mAh U, mMs U, mLm U, mLs U, mFe U, mUf U, mWr U, mCo U, mNa U, mCr U, mCa U, mTh U, mNm U, mAc U, mCk U, mCp U)
def mLkS (P : Nat × MdS) (i al : Nat) : Nat × MdS := if mTh P.2 = 0 then (if (mPl P.2 i).isSome = true then P
    else (P.1 + 1, if (mLow P.2 i al).isSome = true then mSetPl P.2 (va_up (mPl P.2) i (mLow P.2 i al)) else sTh (mSetPl P.2 (va_up (mPl P.2) i (mLow P.2 i al))) 2)) else P
def mLkN (U : MdS) (al : Nat) : Nat → Nat × MdS
  | 0 => (0, U)
  | i + 1 => mLkS (mLkN U al i) i al
def mRs (f c : Nat → Option Nat) (i : Nat) : Nat → Option Nat := fun j => if j < i then c j else f j
def mLinkEnd (U : MdS) (P : Nat × MdS) : Nat × MdS := if mTh P.2 = 0 then P else (0, mSetPl P.2 (mRs (mPl P.2) (mPl U) 12))
def mLink (M : MdS) (v : Int32) : Nat × MdS := match inP 64 v with
  | none => (0, sTh M 1)
  | some al => mLinkEnd (sTh M 0) (mLkN (sTh M 0) al (mNm M))
theorem mRs_0 (f c : Nat → Option Nat) : mRs f c 0 = f := by
  funext j
  unfold mRs
  rw [if_neg (by omega)]
theorem mRs_s (f c : Nat → Option Nat) (i : Nat) : va_up (mRs f c i) i (c i) = mRs f c (i + 1) := by
  funext j
  unfold va_up mRs
  by_cases h : j = i
  · subst h; rw [if_pos rfl, if_pos (by omega)]
  · rw [if_neg h]
    by_cases h2 : j < i
    · rw [if_pos h2, if_pos (by omega)]
    · rw [if_neg h2, if_neg (by omega)]
def growO (f : Nat → Option Nat) (n : Nat) : Nat → Option Nat := fun j => if j < n then f j else some 0
theorem growO_0 (f : Nat → Option Nat) : (fun _ => some 0) = growO f 0 := by
  funext j
  unfold growO
  rw [if_neg (by omega)]
theorem growO_s (f : Nat → Option Nat) (i : Nat) : va_up (growO f i) i (f i) = growO f (i + 1) := by
  funext j
  unfold va_up growO
  by_cases h : j = i
  · subst h; rw [if_pos rfl, if_pos (by omega)]
  · rw [if_neg h]
    by_cases h2 : j < i
    · rw [if_pos h2, if_pos (by omega)]
    · rw [if_neg h2, if_neg (by omega)]
theorem growO_at (f : Nat → Option Nat) {n i : Nat} (h : i < n) : growO f n i = f i := if_pos h
theorem mLow_spec {M : MdS} {n al x : Nat} (h : mLow M n al = some x) : x < 512 ∧ mFits M n x = true := by
  unfold mLow at h
  obtain ⟨i, hi, rfl⟩ := Option.map_eq_some_iff.mp h
  have h1 := (srch_spec hi).2.1
  rw [Bool.and_eq_true] at h1
  exact ⟨of_decide_eq_true h1.1, h1.2⟩
theorem mFits_spec {M : MdS} {n x : Nat} (h : mFits M n x = true) : x + mWd M n ≤ 512 := by
  unfold mFits at h
  rw [Bool.and_eq_true] at h
  exact of_decide_eq_true h.1
theorem MOK.pl {U : MdS} (h : MOK U) {f : Nat → Option Nat} (hf : ∀ i a, i < 12 → f i = some a → i < mNm U ∧ a + mWd U i ≤ 512) : MOK (mSetPl U f) := ⟨h.1, h.2.1, hf, h.2.2.2⟩
theorem MOK.up {U : MdS} (h : MOK U) {n : Nat} (hn : n < mNm U) {o : Option Nat} (ho : ∀ a, o = some a → a + mWd U n ≤ 512) : MOK (mSetPl U (va_up (mPl U) n o)) := by
  refine h.pl (fun i a hi e => ?_)
  unfold va_up at e
  by_cases h9 : i = n
  · subst h9
    rw [if_pos rfl] at e
    exact ⟨hn, ho a e⟩
  · rw [if_neg h9] at e
    exact h.2.2.1 i a hi e
theorem MOK.th {U : MdS} (h : MOK U) (z : Nat) : MOK (sTh U z) := h
theorem mLkN_ok {U : MdS} (h : MOK U) (h0 : mTh U = 0) (al : Nat) : ∀ i, i ≤ mNm U → MOK (mLkN U al i).2 ∧ mNm (mLkN U al i).2 = mNm U ∧ mTh (mLkN U al i).2 ≤ 2 ∧ (mLkN U al i).1 ≤ i ∧ mWd (mLkN U al i).2 = mWd U ∧ mAc (mLkN U al i).2 = mAc U ∧ mCp (mLkN U al i).2 = mCp U := by
  intro i
  induction i with
  | zero => intro _; exact ⟨h, rfl, by show mTh U ≤ 2; omega, Nat.le_refl _, rfl, rfl, rfl⟩
  | succ i ih =>
    intro hi
    obtain ⟨i1, i2, i3, i4, i5, i6, i7⟩ := ih (by omega)
    have hu := i1.up (n := i) (o := mLow (mLkN U al i).2 i al) (by omega) (fun a e => mFits_spec (mLow_spec e).2)
    rw [mLkN]
    unfold mLkS
    by_cases h1 : mTh (mLkN U al i).2 = 0
    · rw [if_pos h1]
      by_cases h2 : (mPl (mLkN U al i).2 i).isSome = true
      · rw [if_pos h2]
        exact ⟨i1, i2, i3, by omega, i5, i6, i7⟩
      · rw [if_neg h2]
        dsimp only
        by_cases h3 : (mLow (mLkN U al i).2 i al).isSome = true
        · rw [if_pos h3]
          exact ⟨hu, i2, i3, by omega, i5, i6, i7⟩
        · rw [if_neg h3]
          exact ⟨hu.th 2, i2, Nat.le_refl _, by omega, i5, i6, i7⟩
    · rw [if_neg h1]
      exact ⟨i1, i2, i3, by omega, i5, i6, i7⟩
theorem mLkN_stay {U : MdS} {al i : Nat} (h : ¬ mTh (mLkN U al i).2 = 0) : ∀ k, mLkN U al (i + k) = mLkN U al i := by
  intro k
  induction k with
  | zero => rfl
  | succ k ih =>
    rw [show i + (k + 1) = (i + k) + 1 by omega, mLkN, ih]
    unfold mLkS
    rw [if_neg h]
theorem mLkN_end {U : MdS} {al i n : Nat} (h : ¬ mTh (mLkN U al i).2 = 0) (hi : i ≤ n) : mLkN U al n = mLkN U al i := by
  have h9 := mLkN_stay h (n - i)
  rw [show i + (n - i) = n by omega] at h9
  exact h9
theorem mLkN_1 {U : MdS} {al i : Nat} (h1 : mTh (mLkN U al i).2 = 0) (h2 : (mPl (mLkN U al i).2 i).isSome = true) : mLkN U al (i + 1) = mLkN U al i := by
  rw [mLkN]
  unfold mLkS
  rw [if_pos h1, if_pos h2]
theorem mLkN_2 {U : MdS} {al i : Nat} (h1 : mTh (mLkN U al i).2 = 0) (h2 : mPl (mLkN U al i).2 i = none) (h3 : (mLow (mLkN U al i).2 i al).isSome = true) : mLkN U al (i + 1) = ((mLkN U al i).1 + 1, mSetPl (mLkN U al i).2 (va_up (mPl (mLkN U al i).2) i (mLow (mLkN U al i).2 i al))) := by
  rw [mLkN]
  unfold mLkS
  rw [if_pos h1, if_neg (by rw [h2]; decide), if_pos h3]
theorem mLkN_3 {U : MdS} {al i : Nat} (h1 : mTh (mLkN U al i).2 = 0) (h2 : mPl (mLkN U al i).2 i = none) (h3 : mLow (mLkN U al i).2 i al = none) : mLkN U al (i + 1) = ((mLkN U al i).1 + 1, sTh (mSetPl (mLkN U al i).2 (va_up (mPl (mLkN U al i).2) i (mLow (mLkN U al i).2 i al))) 2) := by
  rw [mLkN]
  unfold mLkS
  rw [if_pos h1, if_neg (by rw [h2]; decide), if_neg (by rw [h3]; decide)]
theorem qW.left {D : va_G} {g : Nat → ClassId} {A : Nat → Prop} {H0 H : Heap} {s : State} {w w2 : va_W} {locs : List Loc} (h : qW D g A H0 s (w ++ w2) H locs) : qW D g A H0 s w H locs := by
  obtain ⟨h1, h2⟩ := q_Dmem.mp h.2.2.1
  rw [List.map_append, List.nodup_append] at h1
  exact ⟨q_Pmem.mpr fun q hq => q_Pmem.mp h.1 q (List.mem_append_left _ hq), h.2.1, q_Dmem.mpr ⟨h1.1, fun q hq => h2 q (List.mem_append_left _ hq)⟩, h.2.2.2⟩
