/-! The class's caches: who owns a line holds it alone. -/
def exS (S : CS) : Prop := ∀ k c d, k < 64 → c < 4 → d < 4 → ownB S (c * 64 + k) = true → hasB S (d * 64 + k) = true → c = d
section EXS
variable {S U : CS} {c k : Nat}
theorem own_has {i : Nat} (h : ownB S i = true) : hasB S i = true := by
  have h1 : cSt S i = UInt16.ofNat 101 ∨ cSt S i = UInt16.ofNat 109 := of_decide_eq_true h
  refine decide_eq_true (fun z => ?_)
  rw [z] at h1
  revert h1
  decide
theorem ex_sub (h : exS S) (h1 : ∀ j, hasB U j = true → hasB S j = true) (h2 : ∀ j, ownB U j = true → ownB S j = true) : exS U := fun q a b hq ha hb z1 z2 => h q a b hq ha hb (h2 _ z1) (h1 _ z2)
theorem ex_st (h : exS S) (e : cSt U = cSt S) : exS U := ex_sub h (fun j hj => by unfold hasB at hj ⊢; rw [← e]; exact hj) (fun j hj => by unfold ownB at hj ⊢; rw [← e]; exact hj)
theorem drop_sub {v : Int32} : (∀ j, hasB (pDrop S c k v) j = true → hasB S j = true) ∧ (∀ j, ownB (pDrop S c k v) j = true → ownB S j = true) := by
  by_cases e : hasB S (c * 64 + k) = true
  · refine ⟨fun j hj => ?_, fun j hj => ?_⟩
    · rw [hasB_drop e] at hj
      split at hj
      · cases hj
      · exact hj
    · have h9 := own_has hj
      rw [hasB_drop e] at h9
      by_cases e2 : j = c * 64 + k
      · rw [if_pos e2] at h9; cases h9
      · unfold ownB at hj ⊢
        rw [pDrop_eq e] at hj
        rw [show cSt (va_up (cSt S) (c * 64 + k) (UInt16.ofNat 45), cUs S, upd (cLv S) (c * 64 + k) v, va_up (cUn S) (c * 64 + k) false, cAh S, cMl S, cSp S, cFe S, cUf S, wrU (cWr S) c (cUn S (c * 64 + k)), cNw S) j = cSt S j from va_up_ne _ _ e2] at hj
        exact hj
  · rw [pDrop_no (by simpa using e)]
    exact ⟨fun _ h => h, fun _ h => h⟩
theorem room_sub : (∀ j, hasB (pMakeRoom S c k).2 j = true → hasB S j = true) ∧ (∀ j, ownB (pMakeRoom S c k).2 j = true → ownB S j = true) := by
  unfold pMakeRoom
  split
  · exact ⟨fun _ h => h, fun _ h => h⟩
  · split
    · exact ⟨fun _ h => h, fun _ h => h⟩
    · exact drop_sub
theorem shrN_no (f : Nat → UInt16) (k : Nat) : ∀ n q, q < n → shrN f k n (q * 64 + k) = UInt16.ofNat 45 ∨ shrN f k n (q * 64 + k) = UInt16.ofNat 115 := by
  intro n
  induction n with
  | zero => intro q hq; exact absurd hq (Nat.not_lt_zero _)
  | succ n ih =>
    intro q hq
    rw [shrN]
    split
    · rename_i e
      by_cases e2 : q = n
      · subst e2; exact Or.inl e
      · exact ih q (by omega)
    · by_cases e2 : q = n
      · subst e2; right; exact va_up_self _ _ _
      · rw [va_up_ne _ _ (by omega)]; exact ih q (by omega)
theorem shrN_ne {f : Nat → UInt16} {j : Nat} : ∀ n, (∀ d, d < n → j ≠ d * 64 + k) → shrN f k n j = f j := by
  intro n
  induction n with
  | zero => intro _; rfl
  | succ n ih =>
    intro h
    rw [shrN]
    split
    · exact ih (fun d hd => h d (by omega))
    · rw [va_up_ne _ _ (h n (by omega))]; exact ih (fun d hd => h d (by omega))
theorem share_no {q : Nat} (hq : q < 4) : ownB (pShare S k) (q * 64 + k) = false := by
  refine decide_eq_false (fun z => ?_)
  have z : shrN (cSt S) k 4 (q * 64 + k) = UInt16.ofNat 101 ∨ shrN (cSt S) k 4 (q * 64 + k) = UInt16.ofNat 109 := z
  rcases shrN_no (cSt S) k 4 q hq with h | h <;> rw [h] at z <;> revert z <;> decide
theorem ex_share (h : exS S) (hk : k < 64) : exS (pShare S k) := by
  intro k' a b hk' ha hb z1 z2
  by_cases e : k' = k
  · subst e; rw [share_no ha] at z1; cases z1
  · have hne : ∀ q, q < 4 → cSt (pShare S k) (q * 64 + k') = cSt S (q * 64 + k') := fun q hq => shrN_ne 4 (fun d hd => by omega)
    unfold ownB at z1
    unfold hasB at z2
    rw [hne _ ha] at z1
    rw [hne _ hb] at z2
    exact h k' a b hk' ha hb z1 z2
theorem ex_bring (h : exS S) (hc : c < 4) (hk : k < 64) (hno : ∀ q, q < 4 → ownB S (q * 64 + k) = false) : exS (brX S c k (if 0 < pHold S k then UInt16.ofNat 115 else UInt16.ofNat 101)) := by
  intro k' a b hk' ha hb z1 z2
  have hS : ∀ j, j ≠ c * 64 + k → cSt (brX S c k (if 0 < pHold S k then UInt16.ofNat 115 else UInt16.ofNat 101)) j = cSt S j := fun j hj => va_up_ne _ _ hj
  by_cases e : k' = k
  · subst e
    by_cases e1 : a = c
    · subst e1
      by_cases e2 : b = a
      · exact e2.symm
      · unfold hasB at z2
        rw [hS _ (by omega)] at z2
        have h9 : 0 < pHold S k' := cnt_pos' (i := b) hb z2
        unfold ownB at z1
        rw [show cSt (brX S a k' (if 0 < pHold S k' then UInt16.ofNat 115 else UInt16.ofNat 101)) (a * 64 + k') = (if 0 < pHold S k' then UInt16.ofNat 115 else UInt16.ofNat 101) from va_up_self _ _ _, if_pos h9] at z1
        exact absurd z1 (by decide)
    · unfold ownB at z1
      rw [hS _ (by omega)] at z1
      have h9 := hno a ha
      unfold ownB at h9
      rw [h9] at z1; cases z1
  · unfold ownB at z1
    unfold hasB at z2
    rw [hS _ (by omega)] at z1 z2
    exact h k' a b hk' ha hb z1 z2
theorem ex_line (h : exS S) (hk : k < 64) (h1 : ∀ j, (∀ d, d < 4 → j ≠ d * 64 + k) → (hasB U j = true → hasB S j = true) ∧ (ownB U j = true → ownB S j = true)) (h2 : ∀ d, d < 4 → d ≠ c → hasB U (d * 64 + k) = false) : exS U := by
  intro k' a b hk' ha hb z1 z2
  by_cases e : k' = k
  · subst e
    have ea : a = c := Decidable.byContradiction (fun z => by have := own_has z1; rw [h2 a ha z] at this; cases this)
    have eb : b = c := Decidable.byContradiction (fun z => by rw [h2 b hb z] at z2; cases z2)
    rw [ea, eb]
  · exact h k' a b hk' ha hb ((h1 _ (fun d hd => by omega)).2 z1) ((h1 _ (fun d hd => by omega)).1 z2)
theorem ex_use (h : exS S) : exS (pUse S c k) := ex_st h (by rw [pUse_eq])
theorem else_sub {v : Int32} (hk : k < 64) : (∀ j, hasB (pElse S c v k) j = true → hasB S j = true) ∧ (∀ j, ownB (pElse S c v k) j = true → ownB S j = true) := by
  refine ⟨(pElse_B S c hk v 4).2.1, ?_⟩
  show ∀ j, ownB (pElseN S c v k 4) j = true → _
  generalize 4 = n
  induction n with
  | zero => exact fun _ h => h
  | succ n ih =>
    rw [pElseN]
    split
    · exact ih
    · exact fun j hj => ih j (drop_sub.2 j hj)
theorem ex_write (h : exS S) {V : CS} {v : Int32} (hc : c < 4) (hk : k < 64) (hV : ∀ j, j ≠ c * 64 + k → cSt V j = cSt S j) : exS (stX (pElse V c v k) (c * 64 + k) (UInt16.ofNat 109)) := by
  have hst : ∀ j, j ≠ c * 64 + k → cSt (stX (pElse V c v k) (c * 64 + k) (UInt16.ofNat 109)) j = cSt (pElse V c v k) j := fun j hj => va_up_ne _ _ hj
  refine ex_line (c := c) h hk (fun j hj => ?_) (fun d hd hn => ?_)
  · by_cases hj9 : j = c * 64 + k
    · exact absurd hj9 (hj c hc)
    · refine ⟨fun z => ?_, fun z => ?_⟩
      · unfold hasB at z
        rw [hst j hj9] at z
        have h9 := (else_sub (S := V) (c := c) (v := v) hk).1 j z
        unfold hasB at h9
        rw [hV j hj9] at h9
        exact h9
      · unfold ownB at z
        rw [hst j hj9] at z
        have h9 := (else_sub (S := V) (c := c) (v := v) hk).2 j z
        unfold ownB at h9
        rw [hV j hj9] at h9
        exact h9
  · unfold hasB
    rw [hst _ (by omega)]
    exact (pElse_B V c hk v 4).1 d hd hn
theorem owner_none {q : Nat} (h : pOwner S k = none) (hq : q < 4) : ownB S (q * 64 + k) = false := by
  unfold pOwner srch at h
  rw [List.find?_eq_none] at h
  have := h q (List.mem_range.mpr hq)
  simpa using this
theorem ex_fetch (h : exS S) (hc : c < 4) (hk : k < 64) (ho : pOwner S k = none) : exS (pFetch S c k) := by
  rw [pFetch_eq]
  refine ex_st (ex_bring (ex_sub h room_sub.1 room_sub.2) hc hk (fun q hq => ?_)) rfl
  cases e : ownB (pMakeRoom S c k).2 (q * 64 + k) with
  | false => rfl
  | true => have := room_sub.2 _ e; rw [owner_none ho hq] at this; cases this
theorem ex_pMA3 (h : exS S) (hc : c < 4) {b : Bool} : exS (pMA3 S c k b) := by
  have hl : exS (pLearn S c k).2 := ex_st h rfl
  unfold pMA3
  split
  · exact h
  · split
    · exact h
    · split
      · exact hl
      · rename_i m hm
        split
        · rename_i hp
          unfold pCan at hp
          rw [hm] at hp
          rw [Bool.and_eq_true] at hp
          exact ex_fetch hl hc (inR_some (by decide) hm).1 (Option.isNone_iff_eq_none.mp hp.2)
        · exact hl
theorem ex_pMA (h : exS S) (hc : c < 4) (hk : k < 64) {v : Int32} {w : Bool} : exS (pMA S c v k w).2 := by
  show exS (pMA3 (pUse (pMA2 (pMA1 S c k w).2 c v k w) c k) c k _)
  refine ex_pMA3 (ex_use ?_) hc
  have hR : exS (pMakeRoom S c k).2 := ex_sub h room_sub.1 room_sub.2
  cases w with
  | false =>
    show exS (pMA1 S c k false).2
    unfold pMA1
    split
    · exact ex_bring (ex_share hR hk) hc hk (fun q hq => share_no hq)
    · exact h
  | true =>
    show exS (stX (pElse (pMA1 S c k true).2 c v k) (c * 64 + k) (UInt16.ofNat 109))
    unfold pMA1
    split
    · exact ex_write hR hc hk (fun j hj => va_up_ne _ _ hj)
    · exact ex_write h hc hk (fun j hj => rfl)
theorem ex_dropAll (h : exS S) : ∀ n, exS (pDropAllN S c n).2 := by
  intro n
  induction n with
  | zero => exact h
  | succ n ih => exact ex_sub ih drop_sub.1 drop_sub.2
theorem ex_init : exS pInit := fun k a b _ _ _ z => by
  exact absurd (show decide (UInt16.ofNat 45 = UInt16.ofNat 101 ∨ UInt16.ofNat 45 = UInt16.ofNat 109) = true from z) (by decide)
theorem lone_of (h : exS S) : pLone S = true := by
  refine allB_t (fun k hk => ?_)
  rw [Bool.not_eq_true']
  cases ho : pOwner S k with
  | none => rfl
  | some q =>
    obtain ⟨q1, q2, -⟩ := srch_spec ho
    rw [Option.isSome_some, Bool.true_and]
    refine decide_eq_false (fun z => ?_)
    have h1 : pHold S k = cnt (fun d => decide (d = q)) 4 := by
      refine cnt_congr (fun d hd => ?_)
      cases e : hasB S (d * 64 + k) with
      | true => exact (decide_eq_true (h k q d hk q1 hd q2 e).symm).symm
      | false =>
        refine (decide_eq_false (fun e2 => ?_)).symm
        subst e2
        rw [own_has q2] at e; cases e
    have h2 : ∀ q, q < 4 → cnt (fun d => decide (d = q)) 4 = 1 := by decide
    rw [h1, h2 q q1] at z
    omega
end EXS
