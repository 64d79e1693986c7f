/-! Class and reference side by side: accesses kept, replays. -/
theorem mLn_grow (U : MdS) : mLn U (mGrow U) := by
  unfold mGrow
  split
  · exact ⟨rfl, rfl, rfl, rfl, rfl, rfl, rfl, rfl, rfl, rfl, rfl, rfl⟩
  · exact mLn_rf U
theorem mLn_note (U : MdS) (c n k : Nat) (x : UInt16) : mLn U (mNote U c n k x) := ⟨rfl, rfl, rfl, rfl, rfl, rfl, rfl, rfl, rfl, rfl, rfl, rfl⟩
theorem mLn_notes (U : MdS) (c n k : Nat) (x : UInt16) : mLn U (mNotes U c n k x) := (mLn_grow U).tr (mLn_note _ c n k x)
theorem grow_wd (U : MdS) : mWd (mGrow U) = mWd U ∧ mPl (mGrow U) = mPl U ∧ mNm (mGrow U) = mNm U ∧ mAc (mGrow U) = mAc U ∧ mTh (mGrow U) = mTh U := by
  unfold mGrow
  split
  · exact ⟨rfl, rfl, rfl, rfl, rfl⟩
  · exact ⟨rfl, rfl, rfl, rfl, rfl⟩
theorem grow_at (U : MdS) {i : Nat} (hi : i < mCp U) : mCo (mGrow U) i = mCo U i ∧ mNa (mGrow U) i = mNa U i ∧ mCr (mGrow U) i = mCr U i ∧ mCa (mGrow U) i = mCa U i := by
  unfold mGrow
  split
  · exact ⟨if_pos hi, if_pos hi, if_pos hi, if_pos hi⟩
  · exact ⟨rfl, rfl, rfl, rfl⟩
theorem note_th (U : MdS) (c n k : Nat) (x : UInt16) : mTh (mNotes U c n k x) = mTh U := (grow_wd U).2.2.2.2
theorem note_ly {L : LyS} {U : MdS} (h : RLy L U) (c n k : Nat) (x : UInt16) : RLy L (mNotes U c n k x) := by
  obtain ⟨g1, g2, g3, -, -⟩ := grow_wd U
  unfold RLy
  rw [show mNm (mNotes U c n k x) = mNm U from g3, show mWd (mNotes U c n k x) = mWd U from g1, show mPl (mNotes U c n k x) = mPl U from g2]
  exact h
theorem acAt_app {L : LyS} {C : CS} {S : PX} {z : Ev} (hz : isA z = true) {i : Nat} : acAt (L, C, sE S ++ [z]) i = (sA S ++ [z]).getD i evD := by
  show ((sE S ++ [z]).filter isA).getD i evD = _
  rw [List.filter_append, List.filter_cons_of_pos hz, List.filter_nil]
  rfl
theorem sA_app {L : LyS} {C : CS} {S : PX} {z : Ev} (hz : isA z = true) : sA (L, C, sE S ++ [z]) = sA S ++ [z] := by
  show (sE S ++ [z]).filter isA = _
  rw [List.filter_append, List.filter_cons_of_pos hz, List.filter_nil]
  rfl
theorem sA_app0 {L : LyS} {C : CS} {S : PX} {z : Ev} (hz : isA z = false) : sA (L, C, sE S ++ [z]) = sA S := by
  show (sE S ++ [z]).filter isA = _
  rw [List.filter_append, List.filter_cons_of_neg (by rw [hz]; decide), List.filter_nil, List.append_nil]
  rfl
theorem ra_notes {S : PX} {U : MdS} (h : RA S U) (hcp : mAc U ≤ mCp U) {z : Ev} (hz : isA z = true) (L : LyS) (C : CS) {c n k : Nat} {x : UInt16} (h1 : eCs z = k) (h2 : eNa z = some n) (h3 : eCo z = c) (h4 : eCa z = x) : RA (L, C, sE S ++ [z]) (mNotes U c n k x) := by
  obtain ⟨ha, hb⟩ := h
  obtain ⟨-, -, -, g4, -⟩ := grow_wd U
  have hac : mAc (mNotes U c n k x) = mAc U + 1 := by
    show mAc (mGrow U) + 1 = _
    rw [g4]
  refine ⟨by rw [sA_app hz, hac, List.length_append, ha]; rfl, fun i hi => ?_⟩
  rw [hac] at hi
  rw [acAt_app hz]
  show eCs _ = va_up (mCo (mGrow U)) (mAc (mGrow U)) k i ∧ eNa _ = some (va_up (mNa (mGrow U)) (mAc (mGrow U)) n i) ∧ eCo _ = va_up (mCr (mGrow U)) (mAc (mGrow U)) c i ∧ eCa _ = va_up (mCa (mGrow U)) (mAc (mGrow U)) x i
  rw [g4]
  by_cases e : i = mAc U
  · subst e
    rw [va_up_self, va_up_self, va_up_self, va_up_self, List.getD_eq_getElem?_getD, List.getElem?_append_right (by omega), ha, Nat.sub_self]
    exact ⟨h1, h2, h3, h4⟩
  · rw [va_up_ne _ _ e, va_up_ne _ _ e, va_up_ne _ _ e, va_up_ne _ _ e]
    obtain ⟨q1, q2, q3, q4⟩ := grow_at U (i := i) (by omega)
    rw [q1, q2, q3, q4, List.getD_eq_getElem?_getD, List.getElem?_append_left (by omega), ← List.getD_eq_getElem?_getD]
    exact hb i (by omega)
theorem ra_none {S : PX} {U : MdS} (h : RA S U) {z : Ev} (hz : isA z = false) (L : LyS) (C : CS) : RA (L, C, sE S ++ [z]) U := by
  unfold RA acAt at h ⊢
  rw [sA_app0 hz]
  exact h
theorem repN_pre {E : List Ev} {z : Ev} : ∀ i, i ≤ E.length → repN (E ++ [z]) i = repN E i := by
  intro i
  induction i with
  | zero => intro _; rfl
  | succ i ih =>
    intro hi
    rw [repN, repN, ih (by omega), List.getD_eq_getElem?_getD, List.getD_eq_getElem?_getD, List.getElem?_append_left (by omega)]
theorem re_push {S : PX} (h : RE S) (hl : (sE S).length < 512) {z : Ev} {L : LyS} {C : CS} (hC : (rep1 (sC S) z).2 = C) (hs : repSame (sC S) z = true) : RE (L, C, sE S ++ [z]) := by
  obtain ⟨h1, h2, h3⟩ := h
  refine ⟨?_, fun i y hi => ?_, ?_⟩
  · show C = repN (sE S ++ [z]) (sE S ++ [z]).length
    rw [List.length_append]
    show C = repN (sE S ++ [z]) ((sE S).length + 1)
    rw [repN, repN_pre _ (Nat.le_refl _), ← h1, List.getD_eq_getElem?_getD, List.getElem?_append_right (Nat.le_refl _), Nat.sub_self]
    exact hC.symm
  · have hi : (sE S ++ [z])[i]? = some y := hi
    show repSame (repN (sE S ++ [z]) i) y = true
    have hb := (List.getElem?_eq_some_iff.mp hi).1
    rw [List.length_append] at hb
    have hb : i < (sE S).length + 1 := hb
    rw [repN_pre _ (by omega)]
    by_cases e : i = (sE S).length
    · subst e
      rw [List.getElem?_append_right (Nat.le_refl _), Nat.sub_self] at hi
      cases hi
      rw [← h1]; exact hs
    · rw [List.getElem?_append_left (by omega)] at hi
      exact h2 i y hi
  · show (sE S ++ [z]).length ≤ 512
    rw [List.length_append]
    exact hl
section REM
variable {S : PX} {M : MdS}
theorem acc_cases (h : Rel S M) (w : Bool) (v1 v2 v3 : Int32) : (xAcc S w v1 v2 v3 = (mWrong M v1 v2 v3, 0, S) ∧ ¬ mWrong M v1 v2 v3 = 0 ∧ mSpot M v1 v2 v3 = none) ∨ ∃ c n k, c < 4 ∧ n < mNm M ∧ k < 64 ∧ mSpot M v1 v2 v3 = some (c, n, k) ∧ xAcc S w v1 v2 v3 = xAccAt S w c n k := by
  have h12 := h.1.1
  unfold xAcc mWrong mSpot
  rw [h.nm]
  cases h1 : inR 4 v1 with
  | none => exact Or.inl ⟨rfl, show ¬ (1 = 0) by decide, rfl⟩
  | some c =>
    have hc := (inR_some (by decide) h1).1
    dsimp only
    cases h2 : inR (mNm M) v2 with
    | none => exact Or.inl ⟨rfl, show ¬ (2 = 0) by decide, rfl⟩
    | some n =>
      have hn := (inR_some (by omega) h2).1
      obtain ⟨g1, g2⟩ := h.2.1.2 n hn
      have hz := h.1.sz (i := n) (by omega)
      dsimp only
      rw [g2, g1]
      cases h3 : mPl M n with
      | none => exact Or.inl ⟨rfl, show ¬ (3 = 0) by decide, rfl⟩
      | some a =>
        have ha := h.1.sp (i := n) (by omega) h3
        dsimp only
        cases h4 : inR (mWd M n) v3 with
        | none => exact Or.inl ⟨rfl, show ¬ (4 = 0) by decide, rfl⟩
        | some x =>
          have hx := (inR_some (by omega) h4).1
          exact Or.inr ⟨c, n, (a + x) / 8, hc, hn, by omega, rfl, rfl⟩
theorem mOth.ok {U : MdS} (h : MOK M) (e : mOth M U) : MOK U := h.same ⟨e.1, e.2.1, e.2.2.1, e.2.2.2.1, e.2.2.2.2.1⟩
theorem mOth.ax {U : MdS} (e : mOth M U) : mAx M U := by
  obtain ⟨a1, a2, a3, a4, a5, a6, a7, a8, a9, a10⟩ := e
  exact ⟨a6, a7, a8, a9, a4⟩
theorem mOth.ly {U : MdS} {L : LyS} (h : RLy L M) (e : mOth M U) : RLy L U := by
  obtain ⟨a1, a2, a3, a4, a5, a6, a7, a8, a9, a10⟩ := e
  unfold RLy
  rw [a1, a2, a3]
  exact h
theorem sim_at (h : Rel S M) (hl : (sE S).length < 512) {w : Bool} {c n k : Nat} (hc : c < 4) (hk : k < 64) {U : MdS} (hU : mOth (sTh M 0) U) (hR : RC0 (pMA (sC S) c (nI n) k w).2 U (4 * (sE S).length + 4)) :
    mTh (mNotes U c n (pMA (sC S) c (nI n) k w).1 (pCause (sC S) c (nI n) k w)) = (xAccAt S w c n k).1 ∧ Rel (xAccAt S w c n k).2.2 (mNotes U c n (pMA (sC S) c (nI n) k w).1 (pCause (sC S) c (nI n) k w)) := by
  have h0 := h.th 0
  have hz : isA ((if w = true then 1 else 0, c, some n, some k, (pMA (sC S) c (nI n) k w).1, pCause (sC S) c (nI n) k w) : Ev) = true := by
    cases w <;> rfl
  have hw : isW ((if w = true then 1 else 0, c, some n, some k, (pMA (sC S) c (nI n) k w).1, pCause (sC S) c (nI n) k w) : Ev) = w := by
    cases w <;> rfl
  have hr : rep1 (sC S) ((if w = true then 1 else 0, c, some n, some k, (pMA (sC S) c (nI n) k w).1, pCause (sC S) c (nI n) k w) : Ev) = pMA (sC S) c (nI n) k w := by
    rw [rep1_A hz (k := k) rfl, hw]
    rfl
  have hMU : MOK U := mOth.ok h0.1 hU
  have hAc : mAc U < 512 := by
    rw [hU.2.2.2.1]
    exact Nat.lt_of_le_of_lt h.ac512 hl
  refine ⟨(note_th U _ _ _ _).trans hU.2.2.2.2.2.2.2.2.2, ?_⟩
  refine Rel.mk3 (mNotes_ok hMU hAc) (note_ly (mOth.ly h0.2.1 hU) _ _ _ _) (RC0.cg ?_ (mLn_notes U _ _ _ _)) (ex_pMA h.2.2.2.1 hc hk) (ra_notes (h0.2.2.2.2.1.cg hU.ax) (show mAc U ≤ mCp U from hMU.2.2.2.2.1) hz _ _ rfl rfl rfl rfl) (re_push h.2.2.2.2.2 hl (by rw [hr]) ?_)
  · rw [List.length_append]; exact hR
  · refine repSame_t (Or.inr ⟨k, rfl, ?_⟩) ?_
    · rw [hw]; rfl
    · rw [hr]
theorem sim_read (h : Rel S M) (hl : (sE S).length < 512) (v1 v2 v3 : Int32) : mTh (mRead M v1 v2 v3).2 = (xAcc S false v1 v2 v3).1 ∧ ((xAcc S false v1 v2 v3).1 = 0 → (mRead M v1 v2 v3).1 = (xAcc S false v1 v2 v3).2.1) ∧ Rel (xAcc S false v1 v2 v3).2.2 (mRead M v1 v2 v3).2 := by
  unfold mRead
  rcases acc_cases h false v1 v2 v3 with ⟨e1, e2, e3⟩ | ⟨c, n, k, hc, hn, hk, e1, e2⟩
  · rw [e1, e3]
    exact ⟨rfl, fun z => absurd z e2, h.th _⟩
  · rw [e1, e2]
    dsimp only
    obtain ⟨U, u1, u2, u3⟩ := rc_read (n := n) (h.th 0).2.2.1 (by omega) hc hk
    rw [u1]
    obtain ⟨q1, q2⟩ := sim_at (w := false) (n := n) h hl hc hk u3 u2
    exact ⟨q1, fun _ => rfl, q2⟩
theorem sim_write (h : Rel S M) (hl : (sE S).length < 512) (v1 v2 v3 : Int32) : mTh (mWrite M v1 v2 v3).2 = (xAcc S true v1 v2 v3).1 ∧ ((xAcc S true v1 v2 v3).1 = 0 → (mWrite M v1 v2 v3).1 = (xAcc S true v1 v2 v3).2.1) ∧ Rel (xAcc S true v1 v2 v3).2.2 (mWrite M v1 v2 v3).2 := by
  have h12 := h.1.1
  unfold mWrite
  rcases acc_cases h true v1 v2 v3 with ⟨e1, e2, e3⟩ | ⟨c, n, k, hc, hn, hk, e1, e2⟩
  · rw [e1, e3]
    exact ⟨rfl, fun z => absurd z e2, h.th _⟩
  · rw [e1, e2]
    dsimp only
    obtain ⟨U, u1, u2, u3⟩ := rc_write (n := n) (h.th 0).2.2.1 (by omega) hc hk (by omega)
    rw [u1]
    obtain ⟨q1, q2⟩ := sim_at (w := true) (n := n) h hl hc hk u3 u2
    exact ⟨q1, fun _ => rfl, q2⟩
theorem sim_empty (h : Rel S M) (hl : (sE S).length < 512) (v : Int32) : mTh (mEmpty M v).2 = (xEmpty S v).1 ∧ ((xEmpty S v).1 = 0 → (mEmpty M v).1 = (xEmpty S v).2.1) ∧ Rel (xEmpty S v).2.2 (mEmpty M v).2 := by
  unfold mEmpty xEmpty
  cases hq : inR 4 v with
  | none => exact ⟨rfl, fun z => absurd z (show ¬ (1 = 0) by decide), h.th 1⟩
  | some c =>
    have hc := (inR_some (by decide) hq).1
    dsimp only
    have h0 := h.th 0
    obtain ⟨q1, q2, q3⟩ := rc_emN h0.2.2.1 hc 64 (Nat.le_refl _)
    have hz : isA ((2, c, none, none, 0, UInt16.ofNat 45) : Ev) = false := rfl
    have hr : rep1 (sC S) ((2, c, none, none, 0, UInt16.ofNat 45) : Ev) = (0, (pDropAll (sC S) c).2) := rep1_D hz rfl
    refine ⟨q3.2.2.2.2.2.2.2.2.2, fun _ => q1.symm, ?_⟩
    refine Rel.mk3 (mOth.ok h0.1 q3) (mOth.ly h0.2.1 q3) ?_ (ex_dropAll h.2.2.2.1 64) (ra_none (h0.2.2.2.2.1.cg q3.ax) hz _ _) (re_push h.2.2.2.2.2 hl (by rw [hr]) (repSame_t (Or.inl hz) (by rw [hr])))
    rw [List.length_append]
    exact q2.wd (by omega)
theorem sim_ahead (h : Rel S M) (hl : (sE S).length < 512) (v : Int32) (b : Bool) : mTh (mAhead M v b).2 = (xAhead S v b).1 ∧ ((xAhead S v b).1 = 0 → (mAhead M v b).1 = (xAhead S v b).2.1) ∧ Rel (xAhead S v b).2.2 (mAhead M v b).2 := by
  unfold mAhead xAhead
  cases hq : inR 4 v with
  | none => exact ⟨rfl, fun z => absurd z (show ¬ (1 = 0) by decide), h.th 1⟩
  | some c =>
    have hc := (inR_some (by decide) hq).1
    dsimp only
    have h0 := h.th 0
    obtain ⟨q1, q2⟩ := rc_tell (b := b) h0.2.2.1 hc
    have hz : isA ((if b = true then 3 else 4, c, none, none, 0, UInt16.ofNat 45) : Ev) = false := by cases b <;> rfl
    have hk2 : ¬ eKd ((if b = true then 3 else 4, c, none, none, 0, UInt16.ofNat 45) : Ev) = 2 := by
      cases b
      · exact show ¬ (4 = 2) by decide
      · exact show ¬ (3 = 2) by decide
    have hb : decide (eKd ((if b = true then 3 else 4, c, none, none, 0, UInt16.ofNat 45) : Ev) = 3) = b := by cases b <;> rfl
    have hr : rep1 (sC S) ((if b = true then 3 else 4, c, none, none, 0, UInt16.ofNat 45) : Ev) = (0, pTell (sC S) c b) := by
      rw [rep1_T hz hk2, hb]
    have q3 : mOth (sTh M 0) (mAheadAt (sTh M 0) c b).2 := ⟨rfl, rfl, rfl, rfl, rfl, rfl, rfl, rfl, rfl, rfl⟩
    refine ⟨rfl, fun _ => q2.symm, ?_⟩
    refine Rel.mk3 (mOth.ok h0.1 q3) (mOth.ly h0.2.1 q3) ?_ (ex_st h.2.2.2.1 rfl) (ra_none (h0.2.2.2.2.1.cg q3.ax) hz _ _) (re_push h.2.2.2.2.2 hl (by rw [hr]) (repSame_t (Or.inl hz) (by rw [hr])))
    rw [List.length_append]
    exact q1.wd (by omega)
end REM
