/-! the reference: what its object holds, and what its methods do -/
abbrev MdS : Type := (Nat → Nat) × (Nat → Option Nat) × (Nat → UInt16) × (Nat → Int32) × (Nat → Int32) × (Nat → Bool) × (Nat → Bool) × (Nat → Int32) × (Nat → Int32) × (Nat → Int32) × (Nat → Int32) × (Nat → Int32) × (Nat → Int32) × (Nat → Nat) × (Nat → Nat) × (Nat → Nat) × (Nat → UInt16) × Nat × Nat × Nat × Int32 × Nat
abbrev mWd (M : MdS) : Nat → Nat := M.1
abbrev mPl (M : MdS) : Nat → Option Nat := M.2.1
abbrev mSt (M : MdS) : Nat → UInt16 := M.2.2.1
abbrev mUs (M : MdS) : Nat → Int32 := M.2.2.2.1
abbrev mLb (M : MdS) : Nat → Int32 := M.2.2.2.2.1
abbrev mNw (M : MdS) : Nat → Bool := M.2.2.2.2.2.1
abbrev mAh (M : MdS) : Nat → Bool := M.2.2.2.2.2.2.1
abbrev mMs (M : MdS) : Nat → Int32 := M.2.2.2.2.2.2.2.1
abbrev mLm (M : MdS) : Nat → Int32 := M.2.2.2.2.2.2.2.2.1
abbrev mLs (M : MdS) : Nat → Int32 := M.2.2.2.2.2.2.2.2.2.1
abbrev mFe (M : MdS) : Nat → Int32 := M.2.2.2.2.2.2.2.2.2.2.1
abbrev mUf (M : MdS) : Nat → Int32 := M.2.2.2.2.2.2.2.2.2.2.2.1
abbrev mWr (M : MdS) : Nat → Int32 := M.2.2.2.2.2.2.2.2.2.2.2.2.1
abbrev mCo (M : MdS) : Nat → Nat := M.2.2.2.2.2.2.2.2.2.2.2.2.2.1
abbrev mNa (M : MdS) : Nat → Nat := M.2.2.2.2.2.2.2.2.2.2.2.2.2.2.1
abbrev mCr (M : MdS) : Nat → Nat := M.2.2.2.2.2.2.2.2.2.2.2.2.2.2.2.1
abbrev mCa (M : MdS) : Nat → UInt16 := M.2.2.2.2.2.2.2.2.2.2.2.2.2.2.2.2.1
abbrev mTh (M : MdS) : Nat := M.2.2.2.2.2.2.2.2.2.2.2.2.2.2.2.2.2.1
abbrev mNm (M : MdS) : Nat := M.2.2.2.2.2.2.2.2.2.2.2.2.2.2.2.2.2.2.1
abbrev mAc (M : MdS) : Nat := M.2.2.2.2.2.2.2.2.2.2.2.2.2.2.2.2.2.2.2.1
abbrev mCk (M : MdS) : Int32 := M.2.2.2.2.2.2.2.2.2.2.2.2.2.2.2.2.2.2.2.2.1
abbrev mCp (M : MdS) : Nat := M.2.2.2.2.2.2.2.2.2.2.2.2.2.2.2.2.2.2.2.2.2
def wMc (g : Nat → ClassId) (h : Nat) (a : Nat → Nat) (p0 : Nat → Nat) (p1 : Nat → Option Nat) (p2 : Nat → UInt16) (p3 : Nat → Int32) (p4 : Nat → Int32) (p5 : Nat → Bool) (p6 : Nat → Bool) (p7 : Nat → Int32) (p8 : Nat → Int32) (p9 : Nat → Int32) (p10 : Nat → Int32) (p11 : Nat → Int32) (p12 : Nat → Int32) (p13 : Nat → Nat) (p14 : Nat → Nat) (p15 : Nat → Nat) (p16 : Nat → UInt16) (p17 : Nat) (p18 : Nat) (p19 : Nat) (p20 : Int32) (p21 : Nat) : va_W := [(h, .inr (7, [.ref (a 0), .ref (a 1), .ref (a 2), .ref (a 3), .ref (a 4), .ref (a 5), .ref (a 6), .ref (a 7), .ref (a 8), .ref (a 9), .ref (a 10), .ref (a 11), .ref (a 12), .ref (a 13), .ref (a 14), .ref (a 15), .ref (a 16), .int (nI p17), .int (nI p18), .int (nI p19), .int p20])), (a 0, .inl (g 1, 12, .inl (aN p0))), (a 1, .inl (g 1, 12, .inl (aO p1))), (a 2, .inl (g 0, 256, .inl (aC p2))), (a 3, .inl (g 1, 256, .inl p3)), (a 4, .inl (g 1, 256, .inl p4)), (a 5, .inl (g 2, 256, .inl (aB p5))), (a 6, .inl (g 2, 4, .inl (aB p6))), (a 7, .inl (g 1, 4, .inl p7)), (a 8, .inl (g 1, 4, .inl p8)), (a 9, .inl (g 1, 4, .inl p9)), (a 10, .inl (g 1, 4, .inl p10)), (a 11, .inl (g 1, 4, .inl p11)), (a 12, .inl (g 1, 4, .inl p12)), (a 13, .inl (g 1, p21, .inl (aN p13))), (a 14, .inl (g 1, p21, .inl (aN p14))), (a 15, .inl (g 1, p21, .inl (aN p15))), (a 16, .inl (g 0, p21, .inl (aC p16)))]
def wM (g : Nat → ClassId) (h : Nat) (a : Nat → Nat) (M : MdS) : va_W := wMc g h a (mWd M) (mPl M) (mSt M) (mUs M) (mLb M) (mNw M) (mAh M) (mMs M) (mLm M) (mLs M) (mFe M) (mUf M) (mWr M) (mCo M) (mNa M) (mCr M) (mCa M) (mTh M) (mNm M) (mAc M) (mCk M) (mCp M)
abbrev sTh (M : MdS) (z : Nat) : MdS := (mWd M, mPl M, mSt M, mUs M, mLb M, mNw M, mAh M, mMs M, mLm M, mLs M, mFe M, mUf M, mWr M, mCo M, mNa M, mCr M, mCa M, z, mNm M, mAc M, mCk M, mCp M)

def MOK (M : MdS) : Prop := mNm M ≤ 12 ∧ (∀ i, i < 12 → mWd M i ≤ 32) ∧ (∀ i a, i < 12 → mPl M i = some a → i < mNm M ∧ a + mWd M i ≤ 512) ∧ (∀ i, i < mNm M → 1 ≤ mWd M i) ∧ mAc M ≤ mCp M ∧ 1 ≤ mCp M ∧ mCp M ≤ 1024
theorem MOK.sz {M : MdS} (h : MOK M) {i : Nat} (hi : i < 12) : mWd M i ≤ 32 := h.2.1 i hi
theorem MOK.sp {M : MdS} (h : MOK M) {i a : Nat} (hi : i < 12) (e : mPl M i = some a) : a + mWd M i ≤ 512 := (h.2.2.1 i a hi e).2
theorem MOK.st {M : MdS} (h : MOK M) {i a : Nat} (hi : i < 12) (e : mPl M i = some a) : a ≤ 511 := by
  obtain ⟨h1, h2⟩ := h.2.2.1 i a hi e
  have h3 := h.2.2.2.1 i h1
  omega
def inB (v lo hi : Int32) : Bool := if v < lo then false else if hi < v then false else true
theorem inB_inR {n : Nat} {v : Int32} (hn : n < 2 ^ 30) : inB v (nI 0) (nI n - nI 1) = (inR n v).isSome := by
  unfold inB inR
  by_cases h0 : v < nI 0
  · have h0' : v < 0 := by rw [nI_0] at h0; exact h0
    rw [if_pos h0, if_pos h0']; rfl
  · have h0' : ¬ v < 0 := fun z => h0 (by rw [nI_0]; exact z)
    rw [if_neg h0, if_neg h0']
    have hs := pk_sub_toInt (a := n) (b := 1) hn (by decide)
    by_cases h1 : nI n - nI 1 < v
    · have h2 : nI n ≤ v := by
        rw [Int32.le_iff_toInt_le, nI_toInt (by omega)]
        rw [Int32.lt_iff_toInt_lt, hs] at h1
        omega
      rw [if_pos h1, if_pos h2]; rfl
    · have h2 : ¬ nI n ≤ v := by
        rw [Int32.le_iff_toInt_le, nI_toInt (by omega)]
        rw [Int32.lt_iff_toInt_lt, hs] at h1
        omega
      rw [if_neg h1, if_neg h2]; rfl
theorem inB_lit {n : Nat} {v : Int32} (hn : n + 1 < 2 ^ 30) : inB v (nI 0) (nI n) = (inR (n + 1) v).isSome := by
  rw [← inB_inR hn, pk_sub (by omega), Nat.add_sub_cancel]
def inP (n : Nat) (v : Int32) : Option Nat := if v < nI 1 then none else if nI n < v then none else some v.toNatClampNeg
theorem inB_inP {n : Nat} {v : Int32} : inB v (nI 1) (nI n) = (inP n v).isSome := by
  unfold inB inP
  by_cases h0 : v < nI 1
  · rw [if_pos h0, if_pos h0]; rfl
  · rw [if_neg h0, if_neg h0]
    by_cases h1 : nI n < v
    · rw [if_pos h1, if_pos h1]; rfl
    · rw [if_neg h1, if_neg h1]; rfl
theorem inP_some {n m : Nat} {v : Int32} (hn : n < 2 ^ 30) (h : inP n v = some m) : 1 ≤ m ∧ m ≤ n ∧ v = nI m := by
  unfold inP at h
  by_cases h0 : v < nI 1
  · rw [if_pos h0] at h; cases h
  · rw [if_neg h0] at h
    by_cases h1 : nI n < v
    · rw [if_pos h1] at h; cases h
    · rw [if_neg h1] at h
      have h2 : ¬ v < 0 := by
        rw [Int32.lt_iff_toInt_lt] at h0 ⊢
        rw [nI_toInt (by decide)] at h0
        rw [Int32.toInt_zero]
        omega
      obtain ⟨j, hj, rfl⟩ := nI_of h2
      rw [nI_clamp hj] at h
      cases h
      rw [nI_ltI hj (by decide)] at h0
      rw [nI_ltI (by omega) hj] at h1
      exact ⟨by omega, by omega, rfl⟩
theorem inP_of {n : Nat} {v : Int32} (hn : n < 2 ^ 30) (h : (inP n v).isSome = true) : ∃ m, 1 ≤ m ∧ m ≤ n ∧ v = nI m ∧ inP n v = some m := by
  obtain ⟨m, hm⟩ := Option.isSome_iff_exists.mp h
  exact ⟨m, (inP_some hn hm).1, (inP_some hn hm).2.1, (inP_some hn hm).2.2, hm⟩
theorem inP_none_of {n : Nat} {v : Int32} (h : (inP n v).isSome = false) : inP n v = none := by
  cases h9 : inP n v with
  | none => rfl
  | some m => rw [h9] at h; cases h
def isCz (z : UInt16) : Bool := decide (z = UInt16.ofNat 104 ∨ z = UInt16.ofNat 117 ∨ z = UInt16.ofNat 99 ∨ z = UInt16.ofNat 101 ∨ z = UInt16.ofNat 116 ∨ z = UInt16.ofNat 102)
def hasM (M : MdS) (i : Nat) : Bool := decide (¬ mSt M i = UInt16.ofNat 45)
theorem hasM_t {M : MdS} {i : Nat} (h : ¬ mSt M i = UInt16.ofNat 45) : hasM M i = true := decide_eq_true h
theorem hasM_f {M : MdS} {i : Nat} (h : mSt M i = UInt16.ofNat 45) : hasM M i = false := decide_eq_false (fun z => z h)
def ownM (M : MdS) (i : Nat) : Bool := decide (mSt M i = UInt16.ofNat 109 ∨ mSt M i = UInt16.ofNat 101)
theorem ownM_1 {M : MdS} {i : Nat} (h : mSt M i = UInt16.ofNat 109) : ownM M i = true := decide_eq_true (Or.inl h)
theorem ownM_2 {M : MdS} {i : Nat} (h : mSt M i = UInt16.ofNat 101) : ownM M i = true := decide_eq_true (Or.inr h)
theorem ownM_f {M : MdS} {i : Nat} (h : ¬ mSt M i = UInt16.ofNat 109) (h2 : ¬ mSt M i = UInt16.ofNat 101) : ownM M i = false := decide_eq_false (fun z => z.elim h h2)
def mAt (M : MdS) (x i : Nat) : Bool := match mPl M i with | none => false | some s => decide (s ≤ x) && decide (x < s + mWd M i)
def mNameOn (M : MdS) (x : Nat) : Option Nat := srch (mAt M x) (mNm M)
def mFits (M : MdS) (n x : Nat) : Bool := decide (x + mWd M n ≤ 512) && allB (fun k => (mNameOn M (x + k)).isNone) (mWd M n)
def mLow (M : MdS) (n al : Nat) : Option Nat := (srch (fun i => decide (i * al < 512) && mFits M n (i * al)) 512).map (fun i => i * al)
def mMany (M : MdS) (c s : Nat) : Nat := cnt (fun i => hasM M (64 * c + (s + i * 4))) 16
theorem mMany_le (M : MdS) (c s : Nat) : mMany M c s ≤ 16 := by
  unfold mMany
  exact cnt_le _ 16
def mOldI (M : MdS) (c s n : Nat) : Option Nat := oldI (fun i => hasM M (64 * c + (s + i * 4))) (fun i => mUs M (64 * c + (s + i * 4))) n
def mOldest (M : MdS) (c s : Nat) : Option Nat := (mOldI M c s 16).map (fun i => s + i * 4)
theorem oldI_none {p : Nat → Bool} {u : Nat → Int32} : ∀ {n : Nat}, oldI p u n = none → cnt p n = 0 := by
  intro n
  induction n with
  | zero => intro _; rfl
  | succ n ih =>
    intro h
    unfold oldI at h
    split at h
    · rename_i h0
      split at h
      · cases h
      · rename_i h1
        rw [cnt, ih h0, if_neg h1]
    · split at h <;> cases h
theorem mOldest_spec {M : MdS} {c s m : Nat} (h : mOldest M c s = some m) (hs : s < 4) : m < 64 ∧ m % 4 = s ∧ hasM M (64 * c + m) = true := by
  unfold mOldest mOldI at h
  obtain ⟨i, hi, rfl⟩ := Option.map_eq_some_iff.mp h
  obtain ⟨a, b⟩ := oldI_spec hi
  exact ⟨by omega, by omega, b⟩
theorem mOldest_some {M : MdS} {c s : Nat} (h : 0 < mMany M c s) : ∃ m, mOldest M c s = some m := by
  unfold mOldest
  cases hq : mOldI M c s 16 with
  | none =>
    have h9 := oldI_none (show oldI (fun i => hasM M (64 * c + (s + i * 4))) (fun i => mUs M (64 * c + (s + i * 4))) 16 = none from hq)
    unfold mMany at h
    omega
  | some i => exact ⟨_, rfl⟩
def mOldU (M : MdS) (c sn : Nat) (o : Option Nat) : Int32 := match o with
  | some j => mUs M (64 * c + (sn + j * 4))
  | none => nI 0
theorem moldS_h {M : MdS} {c sn i : Nat} (h : hasM M (64 * c + (sn + i * 4)) = false) : mOldI M c sn (i + 1) = mOldI M c sn i := by
  unfold mOldI
  rw [oldI]
  cases hq : oldI (fun i => hasM M (64 * c + (sn + i * 4))) (fun i => mUs M (64 * c + (sn + i * 4))) i with
  | none => simp [h]
  | some m => simp [h]
theorem moldS_n {M : MdS} {c sn i : Nat} (ho : mOldI M c sn i = none) (h : hasM M (64 * c + (sn + i * 4)) = true) : mOldI M c sn (i + 1) = some i := by
  unfold mOldI at ho ⊢
  rw [oldI, ho]
  simp [h]
theorem moldS_k {M : MdS} {c sn i j : Nat} (ho : mOldI M c sn i = some j) (h : ¬ mUs M (64 * c + (sn + i * 4)) < mUs M (64 * c + (sn + j * 4))) : mOldI M c sn (i + 1) = some j := by
  unfold mOldI at ho ⊢
  rw [oldI, ho]
  simp only
  rw [if_neg (fun z => h z.2)]
theorem moldS_s {M : MdS} {c sn i j : Nat} (ho : mOldI M c sn i = some j) (hb : hasM M (64 * c + (sn + i * 4)) = true) (h : mUs M (64 * c + (sn + i * 4)) < mUs M (64 * c + (sn + j * 4))) : mOldI M c sn (i + 1) = some i := by
  unfold mOldI at ho ⊢
  rw [oldI, ho]
  simp only
  rw [if_pos ⟨hb, h⟩]
def mOthers (M : MdS) (v : Int32) (k : Nat) : Nat := cnt (fun q => decide (¬ nI q = v) && hasM M (64 * q + k)) 4
theorem mOthers_le (M : MdS) (v : Int32) (k : Nat) : mOthers M v k ≤ 4 := cnt_le _ 4
def mOwner (M : MdS) (k : Nat) : Option Nat := srch (fun q => ownM M (64 * q + k)) 4
def mCause (M : MdS) (c k : Nat) (v : Int32) : UInt16 := if mLb M (64 * c + k) = (-1) then UInt16.ofNat 99 else if mLb M (64 * c + k) = (-2) then UInt16.ofNat 101 else if mLb M (64 * c + k) = v then UInt16.ofNat 116 else UInt16.ofNat 102
def mLeaves (M : MdS) (c k : Nat) (v : Int32) : MdS := if mNw M (64 * c + k) = false then (mWd M, mPl M, va_up (mSt M) (64 * c + k) (UInt16.ofNat 45), mUs M, upd (mLb M) (64 * c + k) v, va_up (mNw M) (64 * c + k) false, mAh M, mMs M, mLm M, mLs M, mFe M, mUf M, mWr M, mCo M, mNa M, mCr M, mCa M, mTh M, mNm M, mAc M, mCk M, mCp M) else (mWd M, mPl M, va_up (mSt M) (64 * c + k) (UInt16.ofNat 45), mUs M, upd (mLb M) (64 * c + k) v, va_up (mNw M) (64 * c + k) false, mAh M, mMs M, mLm M, mLs M, mFe M, mUf M, upd (mWr M) c (mWr M c + nI 1), mCo M, mNa M, mCr M, mCa M, mTh M, mNm M, mAc M, mCk M, mCp M)
def mRoom (M : MdS) (c k : Nat) : Bool × MdS := if mMany M c (k % 4) = 2 then (match mOldest M c (k % 4) with
    | none => (false, M)
    | some m => (decide (mSt M (64 * c + m) = UInt16.ofNat 109), mLeaves M c m (-2))) else (false, M)
def mPut (M : MdS) (c k : Nat) (x : UInt16) : MdS := (mWd M, mPl M, va_up (mSt M) (64 * c + k) x, upd (mUs M) (64 * c + k) (mCk M + nI 1), mLb M, mNw M, mAh M, mMs M, mLm M, mLs M, mFe M, mUf M, mWr M, mCo M, mNa M, mCr M, mCa M, mTh M, mNm M, mAc M, mCk M + nI 1, mCp M)
def mComes (M : MdS) (c k : Nat) (x : UInt16) : Bool × MdS := ((mRoom M c k).1, mPut (mRoom M c k).2 c k x)
def mUses (M : MdS) (c k : Nat) : MdS := if mNw M (64 * c + k) = false then (mWd M, mPl M, mSt M, upd (mUs M) (64 * c + k) (mCk M + nI 1), mLb M, va_up (mNw M) (64 * c + k) false, mAh M, mMs M, mLm M, mLs M, mFe M, mUf M, mWr M, mCo M, mNa M, mCr M, mCa M, mTh M, mNm M, mAc M, mCk M + nI 1, mCp M) else (mWd M, mPl M, mSt M, upd (mUs M) (64 * c + k) (mCk M + nI 1), mLb M, va_up (mNw M) (64 * c + k) false, mAh M, mMs M, mLm M, mLs M, mFe M, upd (mUf M) c (mUf M c + nI 1), mWr M, mCo M, mNa M, mCr M, mCa M, mTh M, mNm M, mAc M, mCk M + nI 1, mCp M)
def mLearn1 (M : MdS) (c k : Nat) : MdS := (mWd M, mPl M, mSt M, mUs M, mLb M, mNw M, mAh M, upd (mMs M) c (mMs M c + nI 1), upd (mLm M) c (nI k), upd (mLs M) c (nI k - mLm M c), mFe M, mUf M, mWr M, mCo M, mNa M, mCr M, mCa M, mTh M, mNm M, mAc M, mCk M, mCp M)
def mFetched (M : MdS) (c k : Nat) : MdS := (mWd M, mPl M, mSt M, mUs M, mLb M, va_up (mNw M) (64 * c + k) true, mAh M, mMs M, mLm M, mLs M, upd (mFe M) c (mFe M c + nI 1), mUf M, mWr M, mCo M, mNa M, mCr M, mCa M, mTh M, mNm M, mAc M, mCk M, mCp M)
def mAlike (M : MdS) (c k : Nat) : Bool := if mMs M c < nI 2 then false else if nI k - mLm M c = 0 then false else if nI k - mLm M c = mLs M c then true else false
def mLearns (M : MdS) (c k : Nat) : MdS := if mAh M c = false then M else if mAlike M c k = false then mLearn1 M c k
  else match inR 64 (nI k + (nI k - mLm M c)) with
  | none => mLearn1 M c k
  | some m => if hasM (mLearn1 M c k) (64 * c + m) = true then mLearn1 M c k else if (mOwner (mLearn1 M c k) m).isSome = true then mLearn1 M c k
    else mFetched (mComes (mLearn1 M c k) c m (if 0 < mOthers (mLearn1 M c k) (nI c) m then UInt16.ofNat 115 else UInt16.ofNat 101)).2 c m
def growN (f : Nat → Nat) (n : Nat) : Nat → Nat := fun j => if j < n then f j else 0
def growC (f : Nat → UInt16) (n : Nat) : Nat → UInt16 := fun j => if j < n then f j else 0
def mGrow (M : MdS) : MdS := if mAc M = mCp M then (mWd M, mPl M, mSt M, mUs M, mLb M, mNw M, mAh M, mMs M, mLm M, mLs M, mFe M, mUf M, mWr M, growN (mCo M) (mCp M), growN (mNa M) (mCp M), growN (mCr M) (mCp M), growC (mCa M) (mCp M), mTh M, mNm M, mAc M, mCk M, 2 * mCp M) else M
def mNote (M : MdS) (c n k : Nat) (x : UInt16) : MdS := (mWd M, mPl M, mSt M, mUs M, mLb M, mNw M, mAh M, mMs M, mLm M, mLs M, mFe M, mUf M, mWr M, va_up (mCo M) (mAc M) k, va_up (mNa M) (mAc M) n, va_up (mCr M) (mAc M) c, va_up (mCa M) (mAc M) x, mTh M, mNm M, mAc M + 1, mCk M, mCp M)
def mNotes (M : MdS) (c n k : Nat) (x : UInt16) : MdS := mNote (mGrow M) c n k x
def mShN (f : Nat → UInt16) (k : Nat) : Nat → Nat → UInt16
  | 0 => f
  | n + 1 => if mShN f k n (64 * n + k) = UInt16.ofNat 45 then mShN f k n else va_up (mShN f k n) (64 * n + k) (UInt16.ofNat 115)
def mShare (M : MdS) (k : Nat) : MdS := (mWd M, mPl M, mShN (mSt M) k 4, mUs M, mLb M, mNw M, mAh M, mMs M, mLm M, mLs M, mFe M, mUf M, mWr M, mCo M, mNa M, mCr M, mCa M, mTh M, mNm M, mAc M, mCk M, mCp M)
def mWrong (M : MdS) (v1 v2 v3 : Int32) : Nat := match inR 4 v1 with
  | none => 1
  | some _ => match inR (mNm M) v2 with
    | none => 2
    | some n => match mPl M n with
      | none => 3
      | some _ => if (inR (mWd M n) v3).isSome = true then 0 else 4
def mElseN (M : MdS) (c k : Nat) (v : Int32) : Nat → MdS
  | 0 => M
  | q + 1 => if q = c then mElseN M c k v q else if hasM (mElseN M c k v q) (64 * q + k) = true then mLeaves (mElseN M c k v q) q k v else mElseN M c k v q
def mElse (M : MdS) (c k : Nat) (v : Int32) : MdS := mElseN M c k v 4
/-- what the machine's rows ask of the state, kept -/
def mSame (M U : MdS) : Prop := mWd U = mWd M ∧ mPl U = mPl M ∧ mNm U = mNm M ∧ mAc U = mAc M ∧ mCp U = mCp M
theorem MOK.same {M U : MdS} (h : MOK M) (e : mSame M U) : MOK U := by
  obtain ⟨e1, e2, e3, e4, e5⟩ := e
  unfold MOK
  rw [e1, e2, e3, e4, e5]
  exact h
theorem mSame_rf (M : MdS) : mSame M M := ⟨rfl, rfl, rfl, rfl, rfl⟩
theorem mSame.tr {M U V : MdS} (a : mSame M U) (b : mSame U V) : mSame M V := ⟨b.1.trans a.1, b.2.1.trans a.2.1, b.2.2.1.trans a.2.2.1, b.2.2.2.1.trans a.2.2.2.1, b.2.2.2.2.trans a.2.2.2.2⟩
theorem mSame_leaves (M : MdS) (c k : Nat) (v : Int32) : mSame M (mLeaves M c k v) := by
  unfold mLeaves
  split <;> exact ⟨rfl, rfl, rfl, rfl, rfl⟩
theorem mSame_elseN (M : MdS) (c k : Nat) (v : Int32) : ∀ i, mSame M (mElseN M c k v i) := by
  intro i
  induction i with
  | zero => exact mSame_rf M
  | succ i ih =>
    unfold mElseN
    split
    · exact ih
    · split
      · exact ih.tr (mSame_leaves _ _ _ _)
      · exact ih
theorem mElse_ok {M U : MdS} {c k i : Nat} {v : Int32} (h : MOK M) (e : U = mElseN M c k v i) : MOK U := by
  rw [e]
  exact h.same (mSame_elseN M c k v i)
def mSetM (M : MdS) (i : Nat) : MdS := (mWd M, mPl M, va_up (mSt M) i (UInt16.ofNat 109), mUs M, mLb M, mNw M, mAh M, mMs M, mLm M, mLs M, mFe M, mUf M, mWr M, mCo M, mNa M, mCr M, mCa M, mTh M, mNm M, mAc M, mCk M, mCp M)
/-- where the words of an access lie, if it is right -/
def mSpot (M : MdS) (v1 v2 v3 : Int32) : Option (Nat × Nat × Nat) := match inR 4 v1, inR (mNm M) v2 with
  | some c, some n => match mPl M n, inR (mWd M n) v3 with
    | some a, some x => some (c, n, (a + x) / 8)
    | _, _ => none
  | _, _ => none
theorem inR_cases (n : Nat) (v : Int32) (hn : n < 2 ^ 31) : inR n v = none ∨ ∃ m, m < n ∧ v = nI m ∧ inR n v = some m := by
  cases h : inR n v with
  | none => exact Or.inl rfl
  | some m => exact Or.inr ⟨m, (inR_some hn h).1, (inR_some hn h).2, rfl⟩
theorem inR_none_of {n : Nat} {v : Int32} (h : (inR n v).isSome = false) : inR n v = none := by
  cases h9 : inR n v with
  | none => rfl
  | some m => rw [h9] at h; cases h
theorem inR_of {n : Nat} {v : Int32} (hn : n < 2 ^ 31) (h : (inR n v).isSome = true) : ∃ m, m < n ∧ v = nI m := by
  obtain ⟨m, hm⟩ := Option.isSome_iff_exists.mp h
  exact ⟨m, inR_some hn hm⟩
theorem mWrong_0 {M : MdS} (hM : MOK M) {v1 v2 v3 : Int32} (h : mWrong M v1 v2 v3 = 0) : ∃ c n a x, c < 4 ∧ v1 = nI c ∧ n < mNm M ∧ v2 = nI n ∧ mPl M n = some a ∧ x < mWd M n ∧ v3 = nI x := by
  unfold mWrong at h
  have h12 := hM.1
  rcases inR_cases 4 v1 (by decide) with h1 | ⟨c, hc, rfl, h1⟩
  · rw [h1] at h; cases h
  · rw [h1] at h
    dsimp only at h
    rcases inR_cases (mNm M) v2 (by omega) with h2 | ⟨n, hn, rfl, h2⟩
    · rw [h2] at h; cases h
    · rw [h2] at h
      dsimp only at h
      cases h3 : mPl M n with
      | none => rw [h3] at h; cases h
      | some a =>
        rw [h3] at h
        dsimp only at h
        have hz := hM.sz (i := n) (by omega)
        rcases inR_cases (mWd M n) v3 (by omega) with h4 | ⟨x, hx, rfl, h4⟩
        · rw [h4] at h; cases h
        · exact ⟨c, n, a, x, hc, rfl, hn, rfl, h3, hx, rfl⟩
theorem mSpot_ok {M : MdS} (hM : MOK M) {c n a x : Nat} (hc : c < 4) (hn : n < mNm M) (ha : mPl M n = some a) (hx : x < mWd M n) : mSpot M (nI c) (nI n) (nI x) = some (c, n, (a + x) / 8) := by
  have h12 := hM.1
  have hz := hM.sz (i := n) (by omega)
  unfold mSpot
  rw [inR_nI hc (by decide), inR_nI hn (by omega)]
  dsimp only
  rw [ha, inR_nI hx (by omega)]
theorem mWrong_ok {M : MdS} (hM : MOK M) {c n a x : Nat} (hc : c < 4) (hn : n < mNm M) (ha : mPl M n = some a) (hx : x < mWd M n) : mWrong M (nI c) (nI n) (nI x) = 0 := by
  have h12 := hM.1
  have hz := hM.sz (i := n) (by omega)
  unfold mWrong
  rw [inR_nI hc (by decide)]
  dsimp only
  rw [inR_nI hn (by omega)]
  dsimp only
  rw [ha]
  dsimp only
  rw [inR_nI hx (by omega)]
  rfl
theorem mSpot_none {M : MdS} (hM : MOK M) {v1 v2 v3 : Int32} (h : ¬ mWrong M v1 v2 v3 = 0) : mSpot M v1 v2 v3 = none := by
  have h12 := hM.1
  unfold mWrong at h
  unfold mSpot
  rcases inR_cases 4 v1 (by decide) with h1 | ⟨c, hc, rfl, h1⟩
  · rw [h1]
  · rw [h1] at h ⊢
    dsimp only at h
    rcases inR_cases (mNm M) v2 (by omega) with h2 | ⟨n, hn, rfl, h2⟩
    · rw [h2]
    · rw [h2] at h ⊢
      dsimp only at h ⊢
      cases h3 : mPl M n with
      | none => rfl
      | some a =>
        rw [h3] at h
        dsimp only at h
        have hz := hM.sz (i := n) (by omega)
        rcases inR_cases (mWd M n) v3 (by omega) with h4 | ⟨x, hx, rfl, h4⟩
        · rw [h4]
        · rw [h4] at h
          exact absurd rfl h
theorem mAt_0 {M : MdS} {x i : Nat} (h : mPl M i = none) : mAt M x i = false := by
  unfold mAt
  rw [h]
theorem mAt_1 {M : MdS} {x i s : Nat} (h : mPl M i = some s) (h2 : ¬ (s ≤ x ∧ x < s + mWd M i)) : mAt M x i = false := by
  unfold mAt
  rw [h]
  dsimp only
  rw [← Bool.decide_and, decide_eq_false h2]
theorem mAt_t {M : MdS} {x i s : Nat} (h : mPl M i = some s) (h2 : s ≤ x ∧ x < s + mWd M i) : mAt M x i = true := by
  unfold mAt
  rw [h]
  dsimp only
  rw [← Bool.decide_and, decide_eq_true h2]
