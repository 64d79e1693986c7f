/-! Class and reference side by side: other cores' lines, sharing, learning, fetching ahead. -/
section RCU
variable {S : CS} {M : MdS} {T c k : Nat}
theorem pElse_us (S : CS) (c k : Nat) (v : Int32) : ∀ n, cUs (pElseN S c v k n) = cUs S ∧ cNw (pElseN S c v k n) = cNw S := by
  intro n
  induction n with
  | zero => exact ⟨rfl, rfl⟩
  | succ n ih =>
    rw [pElseN]
    split
    · exact ih
    · by_cases e : hasB (pElseN S c v k n) (n * 64 + k) = true
      · rw [pDrop_eq e]; exact ih
      · rw [pDrop_no (by simpa using e)]; exact ih
theorem mElse_us (M : MdS) (c k : Nat) (v : Int32) : ∀ n, mUs (mElseN M c k v n) = mUs M ∧ mCk (mElseN M c k v n) = mCk M := by
  intro n
  induction n with
  | zero => exact ⟨rfl, rfl⟩
  | succ n ih =>
    rw [mElseN]
    split
    · exact ih
    · split
      · rw [mLeaves_eq]; exact ih
      · exact ih
theorem pElse_B (S : CS) (c : Nat) {k : Nat} (hk : k < 64) (v : Int32) : ∀ n, (∀ d, d < n → d ≠ c → hasB (pElseN S c v k n) (d * 64 + k) = false) ∧ (∀ j, hasB (pElseN S c v k n) j = true → hasB S j = true) ∧ (∀ j, (∀ d, d < n → d ≠ c → j ≠ d * 64 + k) → cSt (pElseN S c v k n) j = cSt S j) ∧ (∀ j, cUn S j = false → cUn (pElseN S c v k n) j = false) := by
  intro n
  induction n with
  | zero => exact ⟨fun d hd => absurd hd (Nat.not_lt_zero _), fun _ h => h, fun _ _ => rfl, fun _ h => h⟩
  | succ n ih =>
    obtain ⟨i1, i2, i3, i4⟩ := ih
    rw [pElseN]
    by_cases e : n = c
    · rw [if_pos e]
      exact ⟨fun d hd hn => i1 d (by omega) hn, i2, fun j hj => i3 j (fun d hd hn => hj d (by omega) hn), i4⟩
    · rw [if_neg e]
      by_cases e2 : hasB (pElseN S c v k n) (n * 64 + k) = true
      · have hB := hasB_drop (S := pElseN S c v k n) (v := v) e2
        refine ⟨fun d hd hn => ?_, fun j hj => ?_, fun j hj => ?_, fun j hj => ?_⟩
        · rw [hB]
          by_cases e3 : d = n
          · subst e3; rw [if_pos rfl]
          · rw [if_neg (by omega)]; exact i1 d (by omega) hn
        · rw [hB] at hj
          split at hj
          · cases hj
          · exact i2 j hj
        · rw [pDrop_eq e2]
          exact (va_up_ne _ _ (hj n (by omega) e)).trans (i3 j (fun d hd hn => hj d (by omega) hn))
        · rw [pDrop_eq e2]
          show va_up _ _ _ _ = false
          unfold va_up
          split
          · rfl
          · exact i4 j hj
      · rw [pDrop_no (by simpa using e2)]
        refine ⟨fun d hd hn => ?_, i2, fun j hj => i3 j (fun d hd hn => hj d (by omega) hn), i4⟩
        by_cases e3 : d = n
        · subst e3; simpa using e2
        · exact i1 d (by omega) hn
theorem rc_elseN (h : RC0 S M T) (hk : k < 64) {v : Int32} (hv : v = sw v) : ∀ n, n ≤ 4 → RC0 (pElseN S c v k n) (mElseN M c k v n) T := by
  intro n
  induction n with
  | zero => intro _; exact h
  | succ n ih =>
    intro hn
    have h9 := ih (by omega)
    rw [pElseN, mElseN]
    by_cases e : n = c
    · rw [if_pos e, if_pos e]; exact h9
    · rw [if_neg e, if_neg e, ixc, h9.hs (by omega)]
      by_cases e2 : hasB (pElseN S c v k n) (n * 64 + k) = true
      · rw [if_pos e2]; exact rc_drop h9 (by omega) hk e2 hv
      · rw [if_neg e2, pDrop_no (by simpa using e2)]; exact h9
theorem shrN_45 (f : Nat → UInt16) (k : Nat) : ∀ n j, (shrN f k n j = UInt16.ofNat 45 ↔ f j = UInt16.ofNat 45) := by
  intro n
  induction n with
  | zero => intro j; exact Iff.rfl
  | succ n ih =>
    intro j
    rw [shrN]
    split
    · exact ih j
    · rename_i e
      by_cases e2 : j = n * 64 + k
      · subst e2
        rw [va_up_self, ← ih]
        exact ⟨fun z => absurd z (by decide), fun z => absurd z e⟩
      · rw [va_up_ne _ _ e2]; exact ih j
theorem mShN_45 (f : Nat → UInt16) (k : Nat) : ∀ n j, (mShN f k n j = UInt16.ofNat 45 ↔ f j = UInt16.ofNat 45) := by
  intro n
  induction n with
  | zero => intro j; exact Iff.rfl
  | succ n ih =>
    intro j
    rw [mShN]
    split
    · exact ih j
    · rename_i e
      by_cases e2 : j = 64 * n + k
      · subst e2
        rw [va_up_self, ← ih]
        exact ⟨fun z => absurd z (by decide), fun z => absurd z e⟩
      · rw [va_up_ne _ _ e2]; exact ih j
theorem shr_eq {f g : Nat → UInt16} (hk : k < 64) (h : ∀ j, j < 256 → f j = g j) : ∀ n, n ≤ 4 → ∀ j, j < 256 → shrN f k n j = mShN g k n j := by
  intro n
  induction n with
  | zero => intro _; exact h
  | succ n ih =>
    intro hn j hj
    have h9 := ih (by omega)
    rw [shrN, mShN, ixc, ← h9 (n * 64 + k) (by omega)]
    split
    · exact h9 j hj
    · unfold va_up
      rw [h9 j hj]
theorem hasB_share (j : Nat) : hasB (pShare S k) j = hasB S j := by
  unfold hasB
  exact decide_eq_decide.mpr (not_congr (shrN_45 _ _ _ _))
theorem rc_share (h : RC0 S M T) (hk : k < 64) : RC0 (pShare S k) (mShare M k) T := by
  obtain ⟨h1, h2, h3, h4, ⟨a, b, ha, hb, h5, h6, h7⟩, h8, h9, h10⟩ := h
  refine ⟨shr_eq hk h1 4 (Nat.le_refl _), h2, h3, fun i j hi hj a1 a2 => h4 i j hi hj (by rw [← hasB_share (k := k)]; exact a1) (by rw [← hasB_share (k := k)]; exact a2), ⟨a, b, ha, hb, h5, h6, fun i hi a1 => h7 i hi (by rw [← hasB_share (k := k)]; exact a1)⟩, h8, fun i hi a1 => h9 i hi (by rw [← hasB_share (k := k)]; exact a1), fun d s hd hs => ?_⟩
  have e9 : pMany (pShare S k) d s = pMany S d s := cnt_congr (fun i hi => hasB_share _)
  rw [e9]; exact h10 d s hd hs
def stX (S : CS) (i : Nat) (x : UInt16) : CS := (va_up (cSt S) i x, cUs S, cLv S, cUn S, cAh S, cMl S, cSp S, cFe S, cUf S, cWr S, cNw S)
theorem hasB_st {i : Nat} {x : UInt16} (hx : ¬ x = UInt16.ofNat 45) (hh : hasB S i = true) (j : Nat) : hasB (stX S i x) j = hasB S j := by
  rw [hasB_up (S := S) (i := i) (x := x) rfl, decide_eq_true hx]
  split
  · rename_i e; rw [e, hh]
  · rfl
theorem rc_set (h : RC0 S M T) {i : Nat} (hh : hasB S i = true) : RC0 (stX S i (UInt16.ofNat 109)) (mSetM M i) T := by
  have hB := hasB_st (S := S) (i := i) (x := UInt16.ofNat 109) (by decide) hh
  obtain ⟨h1, h2, h3, h4, ⟨a, b, ha, hb, h5, h6, h7⟩, h8, h9, h10⟩ := h
  refine ⟨fun j hj => ?_, h2, h3, fun x y hx hy a1 a2 => h4 x y hx hy (by rw [← hB]; exact a1) (by rw [← hB]; exact a2), ⟨a, b, ha, hb, h5, h6, fun x hx a1 => h7 x hx (by rw [← hB]; exact a1)⟩, h8, fun x hx a1 => h9 x hx (by rw [← hB]; exact a1), fun d s hd hs => ?_⟩
  · show va_up _ _ _ _ = va_up _ _ _ _
    unfold va_up
    rw [h1 j hj]
  · have e9 : pMany (stX S i (UInt16.ofNat 109)) d s = pMany S d s := cnt_congr (fun i hi => hB _)
    rw [e9]; exact h10 d s hd hs
theorem newest.sub {S' : CS} {M' : MdS} {i : Nat} (h : newest S M i) (hb : ∀ j, hasB S' j = true → hasB S j = true) (hu : mUs M' = mUs M) : newest S' M' i := by
  intro j hj a1 a2
  rw [hu]
  exact h j hj (hb j a1) a2
theorem hold_eq (h : RC0 S M T) (hc : c < 4) (hk : k < 64) (h0 : hasB S (c * 64 + k) = false) : pHold S k = mOthers M (nI c) k := by
  unfold pHold mOthers
  refine cnt_congr (fun d hd => ?_)
  rw [ixc, h.hs (by omega)]
  by_cases e : d = c
  · subst e; rw [h0, Bool.and_false]
  · rw [decide_eq_true (p := ¬ nI d = nI c) (fun z => e ((nI_eq (by omega) (by omega)).mp z)), Bool.true_and]
theorem owner_eq (h : RC0 S M T) (hk : k < 64) : mOwner M k = pOwner S k := by
  unfold mOwner pOwner
  refine srch_congr (fun d hd => ?_)
  rw [ixc]
  unfold ownM ownB
  rw [h.1 _ (by omega)]
  exact decide_eq_decide.mpr Or.comm
theorem rc_learn (h : RC0 S M T) (hT : T < 2 ^ 29) (hc : c < 4) (hk : k < 64) : RC0 (pLearn S c k).2 (mLearn1 M c k) (T + 1) ∧ (if mAlike M c k = true then (pLearn S c k).1 = nI k + (nI k - mLm M c) else (pLearn S c k).1 = (-1)) := by
  obtain ⟨h1, h2, h3, h4, ⟨a, b, ha, hb, h5, h6, h7⟩, h8, h9, h10⟩ := h
  obtain ⟨e1, ⟨m, g1, g2, g3, g4, g5, g6⟩, e3, e4, e5⟩ := h8 c hc
  have hs : (m = 0 → pStep S c k = nI 0) ∧ (0 < m → pStep S c k = nI k - mLm M c) := by
    refine ⟨fun z => ?_, fun z => ?_⟩
    · unfold pStep
      rw [if_pos (g3 z).1]
    · obtain ⟨y1, k0, y2, y3⟩ := g4 z
      unfold pStep
      rw [y1, if_neg (by rw [y3]; exact nI_m1 (by omega))]
  refine ⟨⟨h1, h2, h3, h4, ⟨a, b, by omega, by omega, h5, h6, h7⟩, fun d hd => ?_, h9, h10⟩, ?_⟩
  · by_cases e : d = c
    · subst e
      refine ⟨e1, ⟨m + 1, by omega, ?_, fun z => by omega, fun _ => ⟨?_, k, hk, ?_⟩, fun z => ?_, fun z => ?_⟩, e3, e4, e5⟩
      · show upd (mMs M) d (mMs M d + nI 1) d = _
        rw [pk_us, g2, nI_add]
      · show upd (cMl S) d (nI k) d = upd (mLm M) d (nI k) d
        rw [pk_us, pk_us]
      · show upd (mLm M) d (nI k) d = _
        rw [pk_us]
      · show upd (cSp S) d (pStep S d k) d = _
        rw [pk_us]; exact hs.1 (by omega)
      · show upd (cSp S) d (pStep S d k) d = upd (mLs M) d (nI k - mLm M d) d
        rw [pk_us, pk_us]; exact hs.2 (by omega)
    · obtain ⟨f1, f2, f3, f4, f5⟩ := h8 d hd
      refine ⟨f1, ?_, f3, f4, f5⟩
      show lrn (upd (cMl S) c (nI k) d) (upd (cSp S) c (pStep S c k) d) (upd (mMs M) c (mMs M c + nI 1) d) (upd (mLm M) c (nI k) d) (upd (mLs M) c (nI k - mLm M c) d) (T + 1)
      rw [pk_un e, pk_un e, pk_un e, pk_un e, pk_un e]
      exact f2.wd (by omega)
  · show if mAlike M c k = true then (if pStep S c k = 0 then (-1 : Int32) else if pStep S c k = cSp S c then nI k + pStep S c k else (-1)) = _ else (if pStep S c k = 0 then (-1 : Int32) else if pStep S c k = cSp S c then nI k + pStep S c k else (-1)) = (-1)
    unfold mAlike
    rw [g2]
    by_cases hm : m < 2
    · rw [if_pos (nI_lt hm (by decide)), if_neg (by decide)]
      rcases Nat.eq_zero_or_pos m with z | z
      · rw [hs.1 z, if_pos nI_0]
      · rw [hs.2 z, g5 (by omega)]
        by_cases e : nI k - mLm M c = 0
        · rw [if_pos e]
        · rw [if_neg e, if_neg (by rw [nI_0]; exact e)]
    · rw [if_neg (nI_nlt (by omega) (by omega)), hs.2 (by omega), g6 (by omega)]
      by_cases e : nI k - mLm M c = 0
      · rw [if_pos e, if_pos e, if_neg (by decide)]
      · rw [if_neg e, if_neg e]
        by_cases e2 : nI k - mLm M c = mLs M c
        · rw [if_pos e2, if_pos e2, if_pos rfl]
        · rw [if_neg e2, if_neg e2, if_neg (by decide)]
end RCU
