/-! Class and reference side by side: the caches. -/
theorem ixc (c k : Nat) : 64 * c + k = c * 64 + k := by omega
theorem cnt_congr {p q : Nat → Bool} : ∀ {n : Nat}, (∀ i, i < n → p i = q i) → cnt p n = cnt q n := by
  intro n
  induction n with
  | zero => intro _; rfl
  | succ n ih => intro h; rw [cnt, cnt, ih (fun i hi => h i (by omega)), h n (by omega)]
theorem cnt_mono {p q : Nat → Bool} : ∀ {n : Nat}, (∀ i, i < n → q i = true → p i = true) → cnt q n ≤ cnt p n := by
  intro n
  induction n with
  | zero => intro _; exact Nat.le_refl _
  | succ n ih =>
    intro h
    have h1 := ih (fun i hi => h i (by omega))
    rw [cnt, cnt]
    by_cases e : q n = true
    · rw [if_pos e, if_pos (h n (by omega) e)]; omega
    · rw [if_neg e]; omega
theorem cnt_off {p q : Nat → Bool} {j : Nat} : ∀ {n : Nat}, j < n → (∀ i, i < n → i ≠ j → q i = p i) → p j = true → q j = false → cnt q n + 1 = cnt p n := by
  intro n
  induction n with
  | zero => intro h; exact absurd h (Nat.not_lt_zero _)
  | succ n ih =>
    intro hj h h0 h1
    rw [cnt, cnt]
    by_cases e : j = n
    · subst e
      rw [cnt_congr (p := q) (q := p) (fun i hi => h i (by omega) (by omega)), if_neg (by rw [h1]; decide), if_pos h0]
    · have h2 := ih (by omega) (fun i hi hn => h i (by omega) hn) h0 h1
      rw [h n (by omega) (fun z => e z.symm)]
      omega
theorem cnt_s {p q : Nat → Bool} {j : Nat} : ∀ {n : Nat}, (∀ i, i < n → i ≠ j → q i = p i) → cnt q n ≤ cnt p n + 1 := by
  intro n
  induction n with
  | zero => intro _; exact Nat.zero_le _
  | succ n ih =>
    intro h
    rw [cnt, cnt]
    by_cases e : n = j
    · subst e
      rw [cnt_congr (p := q) (q := p) (fun i hi => h i (by omega) (by omega))]
      split <;> split <;> omega
    · have h2 := ih (fun i hi hn => h i (by omega) hn)
      rw [h n (by omega) e]
      omega
theorem cnt_pos {p : Nat → Bool} : ∀ {n : Nat}, 0 < cnt p n → ∃ i, i < n ∧ p i = true := by
  intro n
  induction n with
  | zero => intro h; exact absurd h (Nat.not_lt_zero _)
  | succ n ih =>
    intro h
    by_cases e : p n = true
    · exact ⟨n, by omega, e⟩
    · rw [cnt, if_neg e] at h
      obtain ⟨i, h1, h2⟩ := ih (by omega)
      exact ⟨i, by omega, h2⟩
theorem cnt_pos' {p : Nat → Bool} {i : Nat} : ∀ {n : Nat}, i < n → p i = true → 0 < cnt p n := by
  intro n
  induction n with
  | zero => intro h; exact absurd h (Nat.not_lt_zero _)
  | succ n ih =>
    intro h hp
    rw [cnt]
    by_cases e : i = n
    · subst e; rw [if_pos hp]; omega
    · have := ih (by omega) hp; omega
theorem oldI_congr {p q : Nat → Bool} {u v : Nat → Int32} : ∀ {n : Nat}, (∀ i, i < n → p i = q i) → (∀ i j, i < n → j < n → p i = true → p j = true → (u i < u j ↔ v i < v j)) → oldI p u n = oldI q v n := by
  intro n
  induction n with
  | zero => intro _ _; rfl
  | succ n ih =>
    intro h1 h2
    rw [oldI, oldI, ← ih (fun i hi => h1 i (by omega)) (fun i j hi hj => h2 i j (by omega) (by omega)), ← h1 n (by omega)]
    cases ho : oldI p u n with
    | none => rfl
    | some m =>
      obtain ⟨a, b⟩ := oldI_spec ho
      dsimp only
      by_cases e : p n = true
      · have h3 := h2 n m (by omega) (by omega) e b
        by_cases h4 : u n < u m
        · rw [if_pos ⟨e, h4⟩, if_pos ⟨e, h3.mp h4⟩]
        · rw [if_neg (fun z => h4 z.2), if_neg (fun z => h4 (h3.mpr z.2))]
      · rw [if_neg (fun z => e z.1), if_neg (fun z => e z.1)]
theorem srch_congr {p q : Nat → Bool} {n : Nat} (h : ∀ i, i < n → p i = q i) : srch p n = srch q n := by
  cases hq : srch q n with
  | none =>
    refine srch_none (fun j hj => ?_)
    rw [h j hj]
    unfold srch at hq
    rw [List.find?_eq_none] at hq
    have := hq j (List.mem_range.mpr hj)
    simpa using this
  | some i =>
    obtain ⟨a, b, d⟩ := srch_spec hq
    exact srch_some (fun j hj => by rw [h j (by omega)]; exact d j hj) a (by rw [h i a]; exact b)
theorem allB_congr {p q : Nat → Bool} {n : Nat} (h : ∀ i, i < n → p i = q i) : allB p n = allB q n := by
  unfold allB
  rw [srch_congr (fun i hi => by rw [h i hi])]
def sw (x : Int32) : Int32 := if x = (-2) then (-1) else if x = (-1) then (-2) else x
theorem sw_m1 : sw (-1) = (-2) := by decide
theorem sw_nI {n : Nat} (h : n < 2 ^ 30) : sw (nI n) = nI n := by
  have h1 : ¬ nI n = (-1) := nI_m1 (by omega)
  have h2 : ¬ nI n = (-2) := by
    intro z
    have h9 := nI_pos (n := n) (by omega)
    rw [z] at h9
    exact h9 (by decide)
  unfold sw
  rw [if_neg h2, if_neg h1]
def lrn (ml sp ms lm ls : Int32) (T : Nat) : Prop := ∃ m, m ≤ T ∧ ms = nI m ∧ (m = 0 → ml = (-1) ∧ sp = nI 0) ∧ (0 < m → ml = lm ∧ ∃ k, k < 64 ∧ lm = nI k) ∧ (m = 1 → sp = nI 0) ∧ (2 ≤ m → sp = ls)
def RC0 (S : CS) (M : MdS) (T : Nat) : Prop :=
  (∀ i, i < 256 → cSt S i = mSt M i) ∧ (∀ i, i < 256 → cUn S i = mNw M i) ∧ (∀ i, i < 256 → mLb M i = sw (cLv S i)) ∧
  (∀ i j, i < 256 → j < 256 → hasB S i = true → hasB S j = true → (cUs S i < cUs S j ↔ mUs M i < mUs M j)) ∧
  (∃ a b, a ≤ T ∧ b ≤ T ∧ cNw S = nI a ∧ mCk M = nI b ∧ ∀ i, i < 256 → hasB S i = true → cUs S i ≤ nI a ∧ mUs M i ≤ nI b) ∧
  (∀ c, c < 4 → cAh S c = mAh M c ∧ lrn (cMl S c) (cSp S c) (mMs M c) (mLm M c) (mLs M c) T ∧ cFe S c = mFe M c ∧ cUf S c = mUf M c ∧ cWr S c = mWr M c) ∧
  (∀ i, i < 256 → hasB S i = false → cUn S i = false) ∧ (∀ c s, c < 4 → s < 4 → pMany S c s ≤ 2)
section RCS
variable {S : CS} {M : MdS} {T c k : Nat}
theorem RC0.hs (h : RC0 S M T) {i : Nat} (hi : i < 256) : hasM M i = hasB S i := by
  unfold hasM hasB
  rw [h.1 i hi]
theorem RC0.many (h : RC0 S M T) {s : Nat} (hc : c < 4) (hs : s < 4) : mMany M c s = pMany S c s := by
  unfold mMany pMany
  refine cnt_congr (fun i hi => ?_)
  rw [ixc]
  exact h.hs (by omega)
theorem RC0.old (h : RC0 S M T) {s : Nat} (hc : c < 4) (hs : s < 4) : mOldest M c s = pOldest S c s := by
  unfold mOldest pOldest mOldI pOldI
  congr 1
  refine (oldI_congr (fun i hi => ?_) (fun i j hi hj h1 h2 => ?_)).symm
  · rw [ixc]; exact (h.hs (by omega)).symm
  · rw [ixc, ixc]; exact h.2.2.2.1 _ _ (by omega) (by omega) h1 h2
theorem RC0.wd (h : RC0 S M T) {U : Nat} (hU : T ≤ U) : RC0 S M U := by
  obtain ⟨h1, h2, h3, h4, ⟨a, b, ha, hb, h5⟩, h6, h7, h8⟩ := h
  refine ⟨h1, h2, h3, h4, ⟨a, b, by omega, by omega, h5⟩, fun c hc => ?_, h7, h8⟩
  obtain ⟨e1, ⟨m, e2, e3⟩, e4⟩ := h6 c hc
  exact ⟨e1, ⟨m, by omega, e3⟩, e4⟩
def wrU (f : Nat → Int32) (c : Nat) (b : Bool) : Nat → Int32 := if b = true then upd f c (f c + nI 1) else f
theorem va_up_id {α : Type} {f : Nat → α} {i : Nat} {v : α} (h : f i = v) : va_up f i v = f := by
  funext j
  unfold va_up
  split
  · rename_i e; rw [e, h]
  · rfl
theorem pDrop_eq {v : Int32} (hh : hasB S (c * 64 + k) = true) : pDrop S c k v = (va_up (cSt S) (c * 64 + k) (UInt16.ofNat 45), cUs S, upd (cLv S) (c * 64 + k) v, va_up (cUn S) (c * 64 + k) false, cAh S, cMl S, cSp S, cFe S, cUf S, wrU (cWr S) c (cUn S (c * 64 + k)), cNw S) := by
  have h1 : ¬ cSt S (c * 64 + k) = UInt16.ofNat 45 := of_decide_eq_true hh
  unfold pDrop wrU
  rw [if_neg h1]
  by_cases e : cUn S (c * 64 + k) = false
  · rw [if_pos e, va_up_id e, e]; rfl
  · rw [if_neg e, if_pos (by simpa using e)]
theorem pDrop_no {v : Int32} (hh : hasB S (c * 64 + k) = false) : pDrop S c k v = S := by
  unfold pDrop
  rw [if_pos (Decidable.not_not.mp (of_decide_eq_false hh))]
theorem mLeaves_eq {v : Int32} : mLeaves M c k v = (mWd M, mPl M, va_up (mSt M) (64 * c + k) (UInt16.ofNat 45), mUs M, upd (mLb M) (64 * c + k) v, va_up (mNw M) (64 * c + k) false, mAh M, mMs M, mLm M, mLs M, mFe M, mUf M, wrU (mWr M) c (mNw M (64 * c + k)), mCo M, mNa M, mCr M, mCa M, mTh M, mNm M, mAc M, mCk M, mCp M) := by
  unfold mLeaves wrU
  by_cases e : mNw M (64 * c + k) = false
  · rw [if_pos e, e]; rfl
  · rw [if_neg e, if_pos (by simpa using e)]
theorem hasB_up {S U : CS} {i j : Nat} {x : UInt16} (e : cSt U = va_up (cSt S) i x) : hasB U j = if j = i then decide (¬ x = UInt16.ofNat 45) else hasB S j := by
  unfold hasB
  rw [e]
  unfold va_up
  split <;> rfl
theorem wrU_eq {f g : Nat → Int32} {b b' : Bool} (hb : b = b') (h : ∀ c, c < 4 → f c = g c) (hc : c < 4) : ∀ d, d < 4 → wrU f c b d = wrU g c b' d := by
  subst hb
  intro d hd
  unfold wrU
  cases b with
  | false => exact h d hd
  | true =>
    show upd f c (f c + nI 1) d = upd g c (g c + nI 1) d
    unfold upd
    rw [h c hc, h d hd]
theorem rc_drop (h : RC0 S M T) (hc : c < 4) (hk : k < 64) (hh : hasB S (c * 64 + k) = true) {v v' : Int32} (hv : v' = sw v) : RC0 (pDrop S c k v) (mLeaves M c k v') T := by
  subst hv
  obtain ⟨h1, h2, h3, h4, ⟨a, b, ha, hb, h5, h6, h7⟩, h8, h9, h10⟩ := h
  rw [pDrop_eq hh, mLeaves_eq, ixc]
  have hB : ∀ j, hasB (va_up (cSt S) (c * 64 + k) (UInt16.ofNat 45), cUs S, upd (cLv S) (c * 64 + k) v, va_up (cUn S) (c * 64 + k) false, cAh S, cMl S, cSp S, cFe S, cUf S, wrU (cWr S) c (cUn S (c * 64 + k)), cNw S) j = if j = c * 64 + k then false else hasB S j := fun j => by
    rw [hasB_up (S := S) (i := c * 64 + k) (x := UInt16.ofNat 45) rfl]
    split <;> rfl
  have hB' : ∀ j, hasB (va_up (cSt S) (c * 64 + k) (UInt16.ofNat 45), cUs S, upd (cLv S) (c * 64 + k) v, va_up (cUn S) (c * 64 + k) false, cAh S, cMl S, cSp S, cFe S, cUf S, wrU (cWr S) c (cUn S (c * 64 + k)), cNw S) j = true → hasB S j = true := fun j hj => by
    rw [hB] at hj
    split at hj
    · cases hj
    · exact hj
  refine ⟨fun i hi => ?_, fun i hi => ?_, fun i hi => ?_, fun i j hi hj a1 a2 => h4 i j hi hj (hB' i a1) (hB' j a2), ⟨a, b, ha, hb, h5, h6, fun i hi a1 => h7 i hi (hB' i a1)⟩, fun d hd => ?_, fun i hi a1 => ?_, fun d s hd hs => ?_⟩
  · show va_up _ _ _ _ = va_up _ _ _ _
    unfold va_up
    rw [h1 i hi]
  · show va_up _ _ _ _ = va_up _ _ _ _
    unfold va_up
    rw [h2 i hi]
  · show upd _ _ _ _ = sw (upd _ _ _ _)
    unfold upd
    split
    · rfl
    · exact h3 i hi
  · obtain ⟨e1, e2, e3, e4, e5⟩ := h8 d hd
    exact ⟨e1, e2, e3, e4, wrU_eq (h2 _ (by omega)) (fun d hd => (h8 d hd).2.2.2.2) hc d hd⟩
  · show va_up _ _ _ _ = false
    unfold va_up
    split
    · rfl
    · rename_i e
      rw [hB, if_neg e] at a1
      exact h9 i hi a1
  · refine Nat.le_trans (cnt_mono (fun i hi a1 => ?_)) (h10 d s hd hs)
    exact hB' _ a1
end RCS
