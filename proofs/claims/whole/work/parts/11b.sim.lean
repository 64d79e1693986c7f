/-! Class and reference side by side: the steps of an access. -/
section RCT
variable {S : CS} {M : MdS} {T c k : Nat}
theorem room_cases (h : RC0 S M T) (hc : c < 4) : (pMakeRoom S c k = (false, S) ∧ mRoom M c k = (false, M) ∧ pMany S c (k % 4) ≤ 1) ∨ ∃ m, m < 64 ∧ m % 4 = k % 4 ∧ hasB S (c * 64 + m) = true ∧ pMany S c (k % 4) = 2 ∧ pMakeRoom S c k = (decide (cSt S (c * 64 + m) = UInt16.ofNat 109), pDrop S c m (-1)) ∧ mRoom M c k = (decide (mSt M (64 * c + m) = UInt16.ofNat 109), mLeaves M c m (-2)) := by
  have hs : k % 4 < 4 := Nat.mod_lt _ (by decide)
  have hm := h.many (s := k % 4) hc hs
  have ho := h.old (s := k % 4) hc hs
  have h2 := h.2.2.2.2.2.2.2 c (k % 4) hc hs
  cases hq : pOldest S c (k % 4) with
  | none =>
    left
    have h0 : pMany S c (k % 4) = 0 := by
      unfold pOldest at hq
      exact oldI_none (Option.map_eq_none_iff.mp hq)
    refine ⟨by unfold pMakeRoom; rw [hq], ?_, by omega⟩
    unfold mRoom
    rw [if_neg (by rw [hm, h0]; decide)]
  | some m =>
    obtain ⟨a1, a2, a3⟩ := pOldest_spec hq hs
    by_cases e : pMany S c (k % 4) < 2
    · left
      refine ⟨by unfold pMakeRoom; rw [hq]; exact if_pos e, ?_, by omega⟩
      unfold mRoom
      rw [if_neg (by rw [hm]; omega)]
    · right
      refine ⟨m, a1, a2, a3, by omega, by unfold pMakeRoom; rw [hq]; exact if_neg e, ?_⟩
      unfold mRoom
      rw [if_pos (by rw [hm]; omega), ho, hq]
theorem hasB_drop {m : Nat} {v : Int32} (hh : hasB S (c * 64 + m) = true) (j : Nat) : hasB (pDrop S c m v) j = if j = c * 64 + m then false else hasB S j := by
  rw [pDrop_eq hh, hasB_up (S := S) (i := c * 64 + m) (x := UInt16.ofNat 45) rfl]
  split <;> rfl
theorem many_drop {m : Nat} {v : Int32} (hm : m < 64) (hh : hasB S (c * 64 + m) = true) : pMany (pDrop S c m v) c (m % 4) + 1 = pMany S c (m % 4) := by
  refine cnt_off (j := m / 4) (by omega) (fun i hi hn => ?_) ?_ ?_
  · rw [hasB_drop hh, if_neg (by omega)]
  · show hasB S (c * 64 + (m % 4 + m / 4 * 4)) = true
    rw [show m % 4 + m / 4 * 4 = m by omega]; exact hh
  · show hasB _ (c * 64 + (m % 4 + m / 4 * 4)) = false
    rw [show m % 4 + m / 4 * 4 = m by omega, hasB_drop hh, if_pos rfl]
theorem rc_room (h : RC0 S M T) (hc : c < 4) (hk : k < 64) : (pMakeRoom S c k).1 = (mRoom M c k).1 ∧ RC0 (pMakeRoom S c k).2 (mRoom M c k).2 T ∧ pMany (pMakeRoom S c k).2 c (k % 4) ≤ 1 ∧
    (∀ j, hasB (pMakeRoom S c k).2 j = true → hasB S j = true) ∧ (hasB S (c * 64 + k) = false → ∀ d, d < 4 → cSt (pMakeRoom S c k).2 (d * 64 + k) = cSt S (d * 64 + k)) := by
  rcases room_cases (k := k) h hc with ⟨e1, e2, e3⟩ | ⟨m, a1, a2, a3, a4, e1, e2⟩
  · rw [e1, e2]
    exact ⟨rfl, h, e3, fun _ h => h, fun _ _ _ => rfl⟩
  · rw [e1, e2]
    refine ⟨?_, rc_drop h hc a1 a3 sw_m1.symm, ?_, fun j hj => ?_, fun h0 d hd => ?_⟩
    · show decide _ = decide _
      rw [h.1 _ (by omega), ixc]
    · have h9 := many_drop (v := (-1)) a1 a3
      rw [a2] at h9
      show pMany (pDrop S c m (-1)) c (k % 4) ≤ 1
      omega
    · have hj : hasB (pDrop S c m (-1)) j = true := hj
      rw [hasB_drop a3] at hj
      split at hj
      · cases hj
      · exact hj
    · show cSt (pDrop S c m (-1)) (d * 64 + k) = _
      rw [pDrop_eq a3]
      refine va_up_ne _ _ (fun e => ?_)
      have hdm : d = c ∧ k = m := by omega
      rw [hdm.2, a3] at h0
      cases h0
theorem ord_tick {p q : Nat → Bool} {u v : Nat → Int32} {i a b : Nat} (h4 : ∀ x y, x < 256 → y < 256 → p x = true → p y = true → (u x < u y ↔ v x < v y)) (h7 : ∀ x, x < 256 → p x = true → u x ≤ nI a ∧ v x ≤ nI b) (ha : a < 2 ^ 30) (hb : b < 2 ^ 30) (hh : ∀ j, j < 256 → j ≠ i → q j = true → p j = true) :
    (∀ x y, x < 256 → y < 256 → q x = true → q y = true → (upd u i (nI a + nI 1) x < upd u i (nI a + nI 1) y ↔ upd v i (nI b + nI 1) x < upd v i (nI b + nI 1) y)) ∧ (∀ x, x < 256 → q x = true → upd u i (nI a + nI 1) x ≤ nI (a + 1) ∧ upd v i (nI b + nI 1) x ≤ nI (b + 1)) ∧ (∀ x, x < 256 → q x = true → x ≠ i → upd v i (nI b + nI 1) x < upd v i (nI b + nI 1) i) := by
  rw [nI_add, nI_add]
  have key : ∀ x, x < 256 → q x = true → x ≠ i → (u x).toInt ≤ a ∧ (v x).toInt ≤ b := by
    intro x hx h1 h2
    obtain ⟨g1, g2⟩ := h7 x hx (hh x hx h2 h1)
    rw [Int32.le_iff_toInt_le, nI_toInt (by omega)] at g1 g2
    exact ⟨g1, g2⟩
  have ea : (nI (a + 1)).toInt = a + 1 := by rw [nI_toInt (by omega)]; rfl
  have eb : (nI (b + 1)).toInt = b + 1 := by rw [nI_toInt (by omega)]; rfl
  refine ⟨fun x y hx hy h1 h2 => ?_, fun x hx h1 => ?_, fun x hx h1 h2 => ?_⟩
  · by_cases ex : x = i
    · by_cases ey : y = i
      · subst ex; subst ey; exact ⟨fun z => (Int32.lt_irrefl z).elim, fun z => (Int32.lt_irrefl z).elim⟩
      · have := key y hy h2 ey
        subst ex
        rw [pk_us, pk_us, pk_un ey, pk_un ey, Int32.lt_iff_toInt_lt, Int32.lt_iff_toInt_lt, ea, eb]
        exact ⟨fun z => by omega, fun z => by omega⟩
    · by_cases ey : y = i
      · have := key x hx h1 ex
        subst ey
        rw [pk_us, pk_us, pk_un ex, pk_un ex, Int32.lt_iff_toInt_lt, Int32.lt_iff_toInt_lt, ea, eb]
        exact ⟨fun _ => by omega, fun _ => by omega⟩
      · rw [pk_un ex, pk_un ex, pk_un ey, pk_un ey]
        exact h4 x y hx hy (hh x hx ex h1) (hh y hy ey h2)
  · by_cases ex : x = i
    · subst ex; rw [pk_us, pk_us]; exact ⟨Int32.le_refl _, Int32.le_refl _⟩
    · have := key x hx h1 ex
      rw [pk_un ex, pk_un ex, Int32.le_iff_toInt_le, Int32.le_iff_toInt_le, ea, eb]
      omega
  · have := key x hx h1 h2
    rw [pk_us, pk_un h2, Int32.lt_iff_toInt_lt, eb]
    omega
theorem ord_tick1 {p : Nat → Bool} {u v : Nat → Int32} {i a : Nat} (h4 : ∀ x y, x < 256 → y < 256 → p x = true → p y = true → (u x < u y ↔ v x < v y)) (h7 : ∀ x, x < 256 → p x = true → u x ≤ nI a) (ha : a < 2 ^ 30) (hn : ∀ x, x < 256 → p x = true → x ≠ i → v x < v i) :
    (∀ x y, x < 256 → y < 256 → p x = true → p y = true → (upd u i (nI a + nI 1) x < upd u i (nI a + nI 1) y ↔ v x < v y)) ∧ (∀ x, x < 256 → p x = true → upd u i (nI a + nI 1) x ≤ nI (a + 1)) := by
  rw [nI_add]
  have key : ∀ x, x < 256 → p x = true → (u x).toInt ≤ a := by
    intro x hx h1
    have g1 := h7 x hx h1
    rw [Int32.le_iff_toInt_le, nI_toInt (by omega)] at g1
    exact g1
  have ea : (nI (a + 1)).toInt = a + 1 := by rw [nI_toInt (by omega)]; rfl
  refine ⟨fun x y hx hy h1 h2 => ?_, fun x hx h1 => ?_⟩
  · by_cases ex : x = i
    · by_cases ey : y = i
      · subst ex; subst ey; exact ⟨fun z => (Int32.lt_irrefl z).elim, fun z => (Int32.lt_irrefl z).elim⟩
      · have g1 := key y hy h2
        have g2 := hn y hy h2 ey
        subst ex
        rw [pk_us, pk_un ey]
        rw [Int32.lt_iff_toInt_lt] at g2
        rw [Int32.lt_iff_toInt_lt, Int32.lt_iff_toInt_lt, ea]
        exact ⟨fun z => by omega, fun z => by omega⟩
    · by_cases ey : y = i
      · have g1 := key x hx h1
        have g2 := hn x hx h1 ex
        subst ey
        rw [pk_us, pk_un ex, Int32.lt_iff_toInt_lt, ea]
        exact ⟨fun _ => g2, fun _ => by omega⟩
      · rw [pk_un ex, pk_un ey]
        exact h4 x y hx hy h1 h2
  · by_cases ex : x = i
    · subst ex; rw [pk_us]; exact Int32.le_refl _
    · have := key x hx h1
      rw [pk_un ex, Int32.le_iff_toInt_le, ea]
      omega
def brX (S : CS) (c k : Nat) (x : UInt16) : CS := (va_up (cSt S) (c * 64 + k) x, upd (cUs S) (c * 64 + k) (cNw S + nI 1), cLv S, cUn S, cAh S, cMl S, cSp S, cFe S, cUf S, cWr S, cNw S + nI 1)
theorem pBring_eq : pBring S c k = brX S c k (if 0 < pHold S k then UInt16.ofNat 115 else UInt16.ofNat 101) := rfl
/-- the line i is the last used, in the reference -/
def newest (S : CS) (M : MdS) (i : Nat) : Prop := ∀ j, j < 256 → hasB S j = true → j ≠ i → mUs M j < mUs M i
theorem lrn.wd {ml sp ms lm ls : Int32} {U : Nat} (h : lrn ml sp ms lm ls T) (hU : T ≤ U) : lrn ml sp ms lm ls U := by
  obtain ⟨m, e2, e3⟩ := h
  exact ⟨m, by omega, e3⟩
theorem rc_bring (h : RC0 S M T) (hT : T < 2 ^ 29) (hc : c < 4) (hk : k < 64) (h0 : hasB S (c * 64 + k) = false) {x : UInt16} (hx : ¬ x = UInt16.ofNat 45) (hm : pMany S c (k % 4) ≤ 1) : RC0 (brX S c k x) (mPut M c k x) (T + 1) ∧ newest (brX S c k x) (mPut M c k x) (c * 64 + k) := by
  obtain ⟨h1, h2, h3, h4, ⟨a, b, ha, hb, h5, h6, h7⟩, h8, h9, h10⟩ := h
  have hB : ∀ j, hasB (brX S c k x) j = if j = c * 64 + k then true else hasB S j := fun j => by
    rw [hasB_up (S := S) (i := c * 64 + k) (x := x) rfl, decide_eq_true hx]
  obtain ⟨t1, t2, t3⟩ := ord_tick (p := hasB S) (q := hasB (brX S c k x)) (i := c * 64 + k) h4 h7 (by omega) (by omega) (fun j hj hn hq => by rw [hB, if_neg hn] at hq; exact hq)
  have u1 : cUs (brX S c k x) = upd (cUs S) (c * 64 + k) (nI a + nI 1) := by rw [← h5]; rfl
  have u2 : mUs (mPut M c k x) = upd (mUs M) (c * 64 + k) (nI b + nI 1) := by rw [← h6, ← ixc]; rfl
  refine ⟨⟨fun i hi => ?_, h2, h3, ?_, ⟨a + 1, b + 1, by omega, by omega, ?_, ?_, ?_⟩, fun d hd => ?_, fun i hi a1 => ?_, fun d s hd hs => ?_⟩, ?_⟩
  · show va_up _ _ _ _ = va_up _ _ _ _
    unfold va_up
    rw [h1 i hi, ixc]
  · rw [u1, u2]; exact t1
  · show cNw S + nI 1 = _
    rw [h5, nI_add]
  · show mCk M + nI 1 = _
    rw [h6, nI_add]
  · rw [u1, u2]; exact t2
  · obtain ⟨e1, e2, e3, e4, e5⟩ := h8 d hd
    exact ⟨e1, e2.wd (by omega), e3, e4, e5⟩
  · rw [hB] at a1
    split at a1
    · cases a1
    · exact h9 i hi a1
  · by_cases e : d = c ∧ s = k % 4
    · obtain ⟨rfl, rfl⟩ := e
      refine Nat.le_trans (cnt_s (p := fun i => hasB S (d * 64 + (k % 4 + i * 4))) (j := k / 4) (fun i hi hn => ?_)) (Nat.succ_le_succ hm)
      show hasB _ _ = hasB _ _
      rw [hB, if_neg (by omega)]
    · have e9 : pMany (brX S c k x) d s = pMany S d s := by
        refine cnt_congr (fun i hi => ?_)
        show hasB _ _ = hasB _ _
        rw [hB, if_neg (by omega)]
      rw [e9]; exact h10 d s hd hs
  · unfold newest
    rw [u2]; exact t3
theorem pUse_eq : pUse S c k = (cSt S, upd (cUs S) (c * 64 + k) (cNw S + nI 1), cLv S, va_up (cUn S) (c * 64 + k) false, cAh S, cMl S, cSp S, cFe S, wrU (cUf S) c (cUn S (c * 64 + k)), cWr S, cNw S + nI 1) := by
  unfold pUse wrU
  by_cases e : cUn S (c * 64 + k) = false
  · rw [if_pos e, va_up_id e, e]; rfl
  · rw [if_neg e, if_pos (by simpa using e)]
theorem mUses_eq : mUses M c k = (mWd M, mPl M, mSt M, upd (mUs M) (64 * c + k) (mCk M + nI 1), mLb M, va_up (mNw M) (64 * c + k) false, mAh M, mMs M, mLm M, mLs M, mFe M, wrU (mUf M) c (mNw M (64 * c + k)), mWr M, mCo M, mNa M, mCr M, mCa M, mTh M, mNm M, mAc M, mCk M + nI 1, mCp M) := by
  unfold mUses wrU
  by_cases e : mNw M (64 * c + k) = false
  · rw [if_pos e, e]; rfl
  · rw [if_neg e, if_pos (by simpa using e)]
theorem rc_use (h : RC0 S M T) (hT : T < 2 ^ 29) (hc : c < 4) (hk : k < 64) : RC0 (pUse S c k) (mUses M c k) (T + 1) := by
  obtain ⟨h1, h2, h3, h4, ⟨a, b, ha, hb, h5, h6, h7⟩, h8, h9, h10⟩ := h
  obtain ⟨t1, t2, t3⟩ := ord_tick (p := hasB S) (q := hasB S) (i := c * 64 + k) h4 h7 (by omega) (by omega) (fun j hj hn hq => hq)
  rw [pUse_eq, mUses_eq, ixc]
  refine ⟨h1, fun i hi => ?_, h3, ?_, ⟨a + 1, b + 1, by omega, by omega, ?_, ?_, ?_⟩, fun d hd => ?_, fun i hi a1 => ?_, h10⟩
  · show va_up _ _ _ _ = va_up _ _ _ _
    unfold va_up
    rw [h2 i hi]
  · show ∀ i j, _ → _ → _ → _ → (upd (cUs S) _ (cNw S + nI 1) i < _ ↔ upd (mUs M) _ (mCk M + nI 1) i < _)
    rw [h5, h6]; exact t1
  · show cNw S + nI 1 = _
    rw [h5, nI_add]
  · show mCk M + nI 1 = _
    rw [h6, nI_add]
  · show ∀ i, _ → _ → (upd (cUs S) _ (cNw S + nI 1) i ≤ _ ∧ upd (mUs M) _ (mCk M + nI 1) i ≤ _)
    rw [h5, h6]; exact t2
  · obtain ⟨e1, e2, e3, e4, e5⟩ := h8 d hd
    exact ⟨e1, e2.wd (by omega), e3, wrU_eq (h2 _ (by omega)) (fun d hd => (h8 d hd).2.2.2.1) hc d hd, e5⟩
  · show va_up _ _ _ _ = false
    unfold va_up
    split
    · rfl
    · exact h9 i hi a1
theorem rc_use2 (h : RC0 S M T) (hT : T < 2 ^ 29) (hn : newest S M (c * 64 + k)) (hu : cUn S (c * 64 + k) = false) : RC0 (pUse S c k) M (T + 1) := by
  obtain ⟨h1, h2, h3, h4, ⟨a, b, ha, hb, h5, h6, h7⟩, h8, h9, h10⟩ := h
  obtain ⟨t1, t2⟩ := ord_tick1 (p := hasB S) (i := c * 64 + k) h4 (fun x hx hp => (h7 x hx hp).1) (by omega) hn
  rw [pUse_eq, hu, va_up_id hu]
  refine ⟨h1, h2, h3, ?_, ⟨a + 1, b, by omega, by omega, ?_, h6, fun i hi hp => ?_⟩, fun d hd => ?_, h9, h10⟩
  · show ∀ i j, _ → _ → _ → _ → (upd (cUs S) _ (cNw S + nI 1) i < _ ↔ _)
    rw [h5]; exact t1
  · show cNw S + nI 1 = _
    rw [h5, nI_add]
  · refine ⟨?_, (h7 i hi hp).2⟩
    show upd (cUs S) _ (cNw S + nI 1) i ≤ _
    rw [h5]; exact t2 i hi hp
  · obtain ⟨e1, e2, e3, e4, e5⟩ := h8 d hd
    exact ⟨e1, e2.wd (by omega), e3, e4, e5⟩
end RCT
