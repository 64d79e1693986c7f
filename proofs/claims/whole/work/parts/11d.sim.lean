/-! Class and reference side by side: fetching ahead, the whole access. -/
section RCV
variable {S : CS} {M : MdS} {T c k : Nat}
def flX (U : CS) (c k : Nat) : CS := (cSt U, cUs U, cLv U, va_up (cUn U) (c * 64 + k) true, cAh U, cMl U, cSp U, upd (cFe U) c (cFe U c + nI 1), cUf U, cWr U, cNw U)
theorem rc_fl (h : RC0 S M T) (hc : c < 4) (hh : hasB S (c * 64 + k) = true) : RC0 (flX S c k) (mFetched M c k) T := by
  obtain ⟨h1, h2, h3, h4, h5, h8, h9, h10⟩ := h
  refine ⟨h1, fun i hi => ?_, h3, h4, h5, fun d hd => ?_, fun i hi a1 => ?_, h10⟩
  · show va_up _ _ _ _ = va_up _ _ _ _
    rw [ixc]
    unfold va_up
    rw [h2 i hi]
  · obtain ⟨e1, e2, e3, e4, e5⟩ := h8 d hd
    refine ⟨e1, e2, ?_, e4, e5⟩
    show upd (cFe S) c (cFe S c + nI 1) d = upd (mFe M) c (mFe M c + nI 1) d
    unfold upd
    rw [(h8 c hc).2.2.1, e3]
  · show va_up _ _ _ _ = false
    unfold va_up
    split
    · rename_i e
      have a1 : hasB S i = false := a1
      rw [e, hh] at a1; cases a1
    · exact h9 i hi a1
theorem hold_congr {U : CS} (h : ∀ d, d < 4 → cSt U (d * 64 + k) = cSt S (d * 64 + k)) : pHold U k = pHold S k := by
  unfold pHold
  refine cnt_congr (fun d hd => ?_)
  unfold hasB
  rw [h d hd]
theorem pFetch_eq : pFetch S c k = flX (brX (pMakeRoom S c k).2 c k (if 0 < pHold (pMakeRoom S c k).2 k then UInt16.ofNat 115 else UInt16.ofNat 101)) c k := rfl
theorem x45 {P : Prop} [Decidable P] : ¬ (if P then UInt16.ofNat 115 else UInt16.ofNat 101) = UInt16.ofNat 45 := by
  split <;> decide
theorem hasB_br {x : UInt16} (hx : ¬ x = UInt16.ofNat 45) (j : Nat) : hasB (brX S c k x) j = if j = c * 64 + k then true else hasB S j := by
  rw [hasB_up (S := S) (i := c * 64 + k) (x := x) rfl, decide_eq_true hx]
theorem rc_fetch (h : RC0 S M T) (hT : T < 2 ^ 29) (hc : c < 4) (hk : k < 64) (h0 : hasB S (c * 64 + k) = false) : RC0 (pFetch S c k) (mFetched (mComes M c k (if 0 < mOthers M (nI c) k then UInt16.ofNat 115 else UInt16.ofNat 101)).2 c k) (T + 1) := by
  obtain ⟨-, r2, r3, r4, r5⟩ := rc_room h hc hk
  have h00 : hasB (pMakeRoom S c k).2 (c * 64 + k) = false := by
    cases e : hasB (pMakeRoom S c k).2 (c * 64 + k) with
    | false => rfl
    | true => rw [r4 _ e] at h0; cases h0
  rw [pFetch_eq, hold_congr (r5 h0), hold_eq h hc hk h0]
  exact rc_fl (rc_bring r2 hT hc hk h00 x45 r3).1 hc (by rw [hasB_br x45, if_pos rfl])
theorem rc_learns (h : RC0 S M T) (hT : T < 2 ^ 28) (hc : c < 4) (hk : k < 64) : RC0 (pMA3 S c k true) (mLearns M c k) (T + 2) := by
  have ha := (h.2.2.2.2.2.1 c hc).1
  obtain ⟨r1, r2⟩ := rc_learn h (by omega) hc hk
  unfold pMA3 mLearns
  rw [if_neg (by decide), ← ha]
  by_cases e : cAh S c = false
  · rw [if_pos e, if_pos e]; exact h.wd (by omega)
  · rw [if_neg e, if_neg e]
    by_cases e2 : mAlike M c k = true
    · rw [if_neg (by rw [e2]; decide)]
      rw [if_pos e2] at r2
      rw [r2]
      show RC0 (match inR 64 (nI k + (nI k - mLm M c)) with
        | none => (pLearn S c k).2
        | some m => if pCan (pLearn S c k).2 c (nI k + (nI k - mLm M c)) = true then pFetch (pLearn S c k).2 c m else (pLearn S c k).2) _ _
      cases hq : inR 64 (nI k + (nI k - mLm M c)) with
      | none => exact r1.wd (by omega)
      | some m =>
        have hm := (inR_some (by decide) hq).1
        dsimp only
        have hp : pCan (pLearn S c k).2 c (nI k + (nI k - mLm M c)) = (!hasB (pLearn S c k).2 (c * 64 + m) && (pOwner (pLearn S c k).2 m).isNone) := by
          unfold pCan
          rw [show ln64 (nI k + (nI k - mLm M c)) = some m from hq]
          unfold hasB
          rw [decide_not, Bool.not_not]
        rw [hp, ixc, r1.hs (by omega), owner_eq r1 hm]
        by_cases e3 : hasB (pLearn S c k).2 (c * 64 + m) = true
        · rw [if_pos e3, e3, if_neg (by simp)]; exact r1.wd (by omega)
        · rw [if_neg e3]
          have e3' : hasB (pLearn S c k).2 (c * 64 + m) = false := by simpa using e3
          cases ho : pOwner (pLearn S c k).2 m with
          | some q =>
            rw [show (!hasB (pLearn S c k).2 (c * 64 + m) && (some q).isNone) = false from Bool.and_false _]
            exact r1.wd (by omega)
          | none =>
            rw [show (!hasB (pLearn S c k).2 (c * 64 + m) && (none : Option Nat).isNone) = true by rw [e3']; rfl]
            exact rc_fetch r1 (by omega) hc hm e3'
    · rw [if_pos (by simpa using e2)]
      rw [if_neg e2] at r2
      rw [r2]
      show RC0 (match ln64 (-1) with
        | none => (pLearn S c k).2
        | some m => if pCan (pLearn S c k).2 c (-1) = true then pFetch (pLearn S c k).2 c m else (pLearn S c k).2) _ _
      rw [show ln64 (-1) = none by decide]
      exact r1.wd (by omega)
theorem va_comm {α : Type} {f : Nat → α} {i j : Nat} {x y : α} (h : i ≠ j) : va_up (va_up f i x) j y = va_up (va_up f j y) i x := by
  funext q
  unfold va_up
  by_cases e : q = j
  · rw [if_pos e, if_neg (by omega), if_pos e]
  · rw [if_neg e]
    by_cases e2 : q = i
    · rw [if_pos e2, if_pos e2]
    · rw [if_neg e2, if_neg e2, if_neg e]
theorem upd_comm {f : Nat → Int32} {i j : Nat} {x y : Int32} (h : i ≠ j) : upd (upd f i x) j y = upd (upd f j y) i x := by
  funext q
  unfold upd
  by_cases e : q = j
  · rw [if_pos e, if_neg (by omega), if_pos e]
  · rw [if_neg e]
    by_cases e2 : q = i
    · rw [if_pos e2, if_pos e2]
    · rw [if_neg e2, if_neg e2, if_neg e]
theorem va_up_up {α : Type} {f : Nat → α} {i : Nat} {x y : α} : va_up (va_up f i x) i y = va_up f i y := by
  funext q
  unfold va_up
  split <;> rfl
theorem wrU_comm {f : Nat → Int32} {c d : Nat} {a b : Bool} (h : c ≠ d) : wrU (wrU f c a) d b = wrU (wrU f d b) c a := by
  unfold wrU
  cases a <;> cases b <;> simp only [if_true, if_false, Bool.false_eq_true]
  rw [pk_un (fun z => h z.symm), pk_un h, upd_comm h]
theorem mLeaves_comm {m j d : Nat} {v x : Int32} (hd : d ≠ c) (hm : m < 64) (hj : j < 64) : mLeaves (mLeaves M c m x) d j v = mLeaves (mLeaves M d j v) c m x := by
  have h1 : 64 * c + m ≠ 64 * d + j := by omega
  rw [mLeaves_eq, mLeaves_eq, mLeaves_eq (c := c), mLeaves_eq (c := d)]
  show (_, _, va_up (va_up _ _ _) _ _, _, upd (upd _ _ _) _ _, va_up (va_up _ _ _) _ _, _, _, _, _, _, _, wrU (wrU _ _ _) _ (va_up (mNw M) (64 * c + m) false (64 * d + j)), _, _, _, _, _, _, _, _, _) = (_, _, va_up (va_up _ _ _) _ _, _, upd (upd _ _ _) _ _, va_up (va_up _ _ _) _ _, _, _, _, _, _, _, wrU (wrU _ _ _) _ (va_up (mNw M) (64 * d + j) false (64 * c + m)), _, _, _, _, _, _, _, _, _)
  rw [va_up_ne _ _ (fun z => h1 z.symm), va_up_ne _ _ h1, va_comm h1, upd_comm h1, va_comm h1, wrU_comm (fun z => hd z.symm)]
theorem mElse_ne {v : Int32} {j : Nat} : ∀ n, (∀ d, d < n → d ≠ c → j ≠ 64 * d + k) → mSt (mElseN M c k v n) j = mSt M j ∧ mLb (mElseN M c k v n) j = mLb M j := by
  intro n
  induction n with
  | zero => intro _; exact ⟨rfl, rfl⟩
  | succ n ih =>
    intro h
    have h9 := ih (fun d hd => h d (by omega))
    rw [mElseN]
    by_cases e : n = c
    · rw [if_pos e]; exact h9
    · rw [if_neg e]
      split
      · rw [mLeaves_eq]
        exact ⟨(va_up_ne _ _ (h n (by omega) e)).trans h9.1, (pk_un (h n (by omega) e)).trans h9.2⟩
      · exact h9
theorem hasM_up {U V : MdS} {i j : Nat} {x : UInt16} (e : mSt U = va_up (mSt V) i x) (h : j ≠ i) : hasM U j = hasM V j := by
  unfold hasM
  rw [e, va_up_ne _ _ h]
theorem else_leaves {m : Nat} {v x : Int32} (hm : m < 64) (hk : k < 64) : ∀ n, mElseN (mLeaves M c m x) c k v n = mLeaves (mElseN M c k v n) c m x := by
  intro n
  induction n with
  | zero => rfl
  | succ n ih =>
    rw [mElseN, mElseN, ih]
    by_cases e : n = c
    · rw [if_pos e, if_pos e]
    · rw [if_neg e, if_neg e]
      have h1 : hasM (mLeaves (mElseN M c k v n) c m x) (64 * n + k) = hasM (mElseN M c k v n) (64 * n + k) := by
        rw [mLeaves_eq]
        exact hasM_up (V := mElseN M c k v n) (i := 64 * c + m) (x := UInt16.ofNat 45) rfl (by omega)
      rw [h1]
      split
      · exact mLeaves_comm e hm hk
      · rfl
theorem leaves_put {d : Nat} {v : Int32} {x : UInt16} (hd : d ≠ c) : mLeaves (mPut M c k x) d k v = mPut (mLeaves M d k v) c k x := by
  have h1 : 64 * c + k ≠ 64 * d + k := by omega
  rw [mLeaves_eq, mLeaves_eq]
  show (_, _, va_up (va_up _ _ _) _ _, _, _, _, _, _, _, _, _, _, _, _, _, _, _, _, _, _, _, _) = (_, _, va_up (va_up _ _ _) _ _, _, _, _, _, _, _, _, _, _, _, _, _, _, _, _, _, _, _, _)
  rw [va_comm h1]
  rfl
theorem else_put {v : Int32} {x : UInt16} : ∀ n, mElseN (mPut M c k x) c k v n = mPut (mElseN M c k v n) c k x := by
  intro n
  induction n with
  | zero => rfl
  | succ n ih =>
    rw [mElseN, mElseN, ih]
    by_cases e : n = c
    · rw [if_pos e, if_pos e]
    · rw [if_neg e, if_neg e]
      have h1 : hasM (mPut (mElseN M c k v n) c k x) (64 * n + k) = hasM (mElseN M c k v n) (64 * n + k) := hasM_up (V := mElseN M c k v n) (i := 64 * c + k) (x := x) rfl (by omega)
      rw [h1]
      split
      · exact leaves_put e
      · rfl
theorem set_put {x : UInt16} : mSetM (mPut M c k x) (64 * c + k) = mPut M c k (UInt16.ofNat 109) := by
  show (_, _, va_up (va_up _ _ _) _ _, _, _, _, _, _, _, _, _, _, _, _, _, _, _, _, _, _, _, _) = _
  rw [va_up_up]
  rfl
theorem room_else {v : Int32} (hk : k < 64) : mRoom (mElse M c k v) c k = ((mRoom M c k).1, mElse (mRoom M c k).2 c k v) := by
  have hst : ∀ j, j < 64 → mSt (mElse M c k v) (64 * c + j) = mSt M (64 * c + j) := fun j hj => (mElse_ne 4 (fun d hd hn => by omega)).1
  have hhs : ∀ j, j < 64 → hasM (mElse M c k v) (64 * c + j) = hasM M (64 * c + j) := fun j hj => by unfold hasM; rw [hst j hj]
  have hmany : mMany (mElse M c k v) c (k % 4) = mMany M c (k % 4) := cnt_congr (fun i hi => hhs _ (by omega))
  have hold : mOldest (mElse M c k v) c (k % 4) = mOldest M c (k % 4) := by
    unfold mOldest mOldI
    congr 1
    refine oldI_congr (fun i hi => hhs _ (by omega)) (fun i j hi hj _ _ => ?_)
    rw [show mUs (mElse M c k v) = mUs M from (mElse_us M c k v 4).1]
  unfold mRoom
  rw [hmany, hold]
  by_cases e : mMany M c (k % 4) = 2
  · rw [if_pos e, if_pos e]
    cases hq : mOldest M c (k % 4) with
    | none => rfl
    | some m =>
      have hm := (mOldest_spec hq (Nat.mod_lt _ (by decide))).1
      dsimp only
      rw [hst m hm]
      congr 1
      exact (else_leaves hm hk 4).symm
  · rw [if_neg e, if_neg e]
theorem mShN_ne {f : Nat → UInt16} {j : Nat} : ∀ n, (∀ d, d < n → j ≠ 64 * d + k) → mShN f k n j = f j := by
  intro n
  induction n with
  | zero => intro _; rfl
  | succ n ih =>
    intro h
    rw [mShN]
    split
    · exact ih (fun d hd => h d (by omega))
    · rw [va_up_ne _ _ (h n (by omega))]; exact ih (fun d hd => h d (by omega))
theorem mShN_up {f : Nat → UInt16} {i : Nat} {a : UInt16} : ∀ n, (∀ d, d < n → i ≠ 64 * d + k) → mShN (va_up f i a) k n = va_up (mShN f k n) i a := by
  intro n
  induction n with
  | zero => intro _; rfl
  | succ n ih =>
    intro h
    have hn := h n (by omega)
    rw [mShN, mShN, ih (fun d hd => h d (by omega)), va_up_ne _ _ (fun z => hn z.symm)]
    split
    · rfl
    · rw [va_comm hn]
theorem hasM_share (j : Nat) : hasM (mShare M k) j = hasM M j := by
  unfold hasM
  exact decide_eq_decide.mpr (not_congr (mShN_45 _ _ _ _))
theorem room_share (hk : k < 64) (h0 : hasM M (64 * c + k) = false) : mRoom (mShare M k) c k = ((mRoom M c k).1, mShare (mRoom M c k).2 k) := by
  have hhs : hasM (mShare M k) = hasM M := funext hasM_share
  have hmany : mMany (mShare M k) c (k % 4) = mMany M c (k % 4) := by unfold mMany; rw [hhs]
  have hold : mOldest (mShare M k) c (k % 4) = mOldest M c (k % 4) := by unfold mOldest mOldI; rw [hhs]; rfl
  unfold mRoom
  rw [hmany, hold]
  by_cases e : mMany M c (k % 4) = 2
  · rw [if_pos e, if_pos e]
    cases hq : mOldest M c (k % 4) with
    | none => rfl
    | some m =>
      obtain ⟨hm, -, hh⟩ := mOldest_spec hq (Nat.mod_lt _ (by decide))
      have hmk : m ≠ k := fun z => by rw [z, h0] at hh; cases hh
      dsimp only
      have hne : ∀ d, d < 4 → 64 * c + m ≠ 64 * d + k := fun d _ z => by omega
      rw [show mSt (mShare M k) (64 * c + m) = mSt M (64 * c + m) from mShN_ne 4 hne]
      congr 1
      rw [mLeaves_eq, mLeaves_eq]
      show (_, _, va_up (mShN (mSt M) k 4) _ _, _) = (_, _, mShN (va_up (mSt M) _ _) k 4, _)
      rw [mShN_up 4 hne]
      rfl
  · rw [if_neg e, if_neg e]
end RCV
