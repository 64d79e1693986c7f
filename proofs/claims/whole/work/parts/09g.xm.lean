/-! The class: accesses and replays, pure. -/
def xSetR (X : XS) (R : CS) : XS := (xL X, xC X, R, xl X, xa X, xE X)
theorem XOK.setR {z0 : Nat} {X : XS} (h : XOK z0 X) (R : CS) : XOK z0 (xSetR X R) := h
theorem pX_push (L : LyS) (C R : CS) (le la : ALs) (E : List (Nat × Ev)) (q : Nat) (z : Ev) : pX (L, C, R, le, la, E ++ [(q, z)]) = (L, C, E.map Prod.snd ++ [z]) := by
  show (L, C, (E ++ [(q, z)]).map Prod.snd) = _
  rw [List.map_append]
  rfl
theorem XOK.eo {z0 : Nat} {X : XS} (h : XOK z0 X) {p : Nat × Ev} (hp : p ∈ xE X) : evOK p.2 := h.2.2.2.2.2.1 p hp
theorem pCost_le (S : CS) (c k : Nat) (w : Bool) : pCost S c k w ≤ 40 := by
  unfold pCost
  repeat (first | split | omega)
theorem pMA_le (S : CS) (c : Nat) (v : Int32) (k : Nat) (w : Bool) : (pMA S c v k w).1 ≤ 45 := by
  have h := pCost_le S c k w
  show (pMA1 S c k w).1 ≤ 45
  unfold pMA1
  split
  · show pCost S c k w + _ ≤ 45
    split <;> omega
  · show pCost S c k w ≤ 45
    omega
theorem rep1_le (C : CS) (z : Ev) : (rep1 C z).1 ≤ 45 := by
  unfold rep1
  split
  · exact pMA_le _ _ _ _ _
  · split <;> exact Nat.zero_le _
theorem rep1_A {C : CS} {z : Ev} {k : Nat} (h : isA z = true) (hk : eLi z = some k) : rep1 C z = pMA C (eCo z) (oI (eNa z)) k (isW z) := by
  unfold rep1
  rw [if_pos h, hk]
  rfl
theorem rep1_D {C : CS} {z : Ev} (h : isA z = false) (hk : eKd z = 2) : rep1 C z = (0, (pDropAll C (eCo z)).2) := by
  unfold rep1
  rw [if_neg (by rw [h]; decide), if_pos hk]
theorem rep1_T {C : CS} {z : Ev} (h : isA z = false) (hk : ¬ eKd z = 2) : rep1 C z = (0, pTell C (eCo z) (decide (eKd z = 3))) := by
  unfold rep1
  rw [if_neg (by rw [h]; decide), if_neg hk]
theorem getD_of {E : List Ev} {i : Nat} {z : Ev} (h : E[i]? = some z) : E.getD i evD = z := by
  rw [List.getD_eq_getElem?_getD, h]
  rfl
theorem repN_s {E : List Ev} {i : Nat} {z : Ev} (h : E[i]? = some z) : repN E (i + 1) = (rep1 (repN E i) z).2 := by rw [repN, getD_of h]
def cntA (E : List Ev) (i : Nat) : Nat := (E.take i).countP isA
theorem cntA_0 (E : List Ev) : cntA E 0 = 0 := rfl
theorem cntA_s {E : List Ev} {i : Nat} {z : Ev} (h : E[i]? = some z) : cntA E (i + 1) = cntA E i + (if isA z = true then 1 else 0) := by
  unfold cntA
  rw [List.take_add_one, h, List.countP_append]
  show _ + [z].countP isA = _
  rw [List.countP_cons, List.countP_nil, Nat.zero_add]
theorem cntA_t {E : List Ev} {i : Nat} {z : Ev} (h : E[i]? = some z) (hz : isA z = true) : cntA E (i + 1) = cntA E i + 1 := by rw [cntA_s h, if_pos hz]
theorem cntA_f {E : List Ev} {i : Nat} {z : Ev} (h : E[i]? = some z) (hz : isA z = false) : cntA E (i + 1) = cntA E i := by rw [cntA_s h, if_neg (by rw [hz]; decide), Nat.add_zero]
theorem cntA_le (E : List Ev) (i : Nat) : cntA E i ≤ i := Nat.le_trans List.countP_le_length (by rw [List.length_take]; exact Nat.min_le_left _ _)
theorem cntA_all {S : PX} {i : Nat} (h : (sE S).length ≤ i) : cntA (sE S) i = (sA S).length := by
  unfold cntA sA
  rw [List.take_of_length_le h, List.countP_eq_length_filter]
theorem repAll_cs {S : PX} {i : Nat} {z : Ev} (h : (sE S)[i]? = some z) (h2 : repSame (repN (sE S) i) z = false) : repAll S = false := by
  unfold repAll
  have hi : i < (sE S).length := (List.getElem?_eq_some_iff.mp h).1
  rw [allB_f hi (by rw [getD_of h]; exact h2), Bool.false_and]
theorem repAll_en {S : PX} (h : ∀ j, j < (sE S).length → repSame (repN (sE S) j) ((sE S).getD j evD) = true) : repAll S = pSame (repN (sE S) (sE S).length) (sC S) := by
  unfold repAll
  rw [allB_t h, Bool.true_and]
theorem repSame_c {C : CS} {z : Ev} {k : Nat} (h : isA z = true) (hk : eLi z = some k) (h2 : ¬ eCa z = pCause C (eCo z) (oI (eNa z)) k (isW z)) : repSame C z = false := by
  unfold repSame
  rw [h, hk]
  rw [show (!true || decide (eCa z = pCause C (eCo z) (oI (eNa z)) ((some k).getD 0) (isW z))) = false from decide_eq_false h2, Bool.false_and]
theorem repSame_o {C : CS} {z : Ev} (h2 : ¬ eCs z = (rep1 C z).1) : repSame C z = false := by
  unfold repSame
  rw [decide_eq_false h2, Bool.and_false]
theorem repSame_t {C : CS} {z : Ev} (h : isA z = false ∨ ∃ k, eLi z = some k ∧ eCa z = pCause C (eCo z) (oI (eNa z)) k (isW z)) (h2 : eCs z = (rep1 C z).1) : repSame C z = true := by
  unfold repSame
  rw [decide_eq_true h2, Bool.and_true]
  rcases h with h | ⟨k, hk, h⟩
  · rw [h]; rfl
  · rw [hk]
    show (_ || decide (eCa z = pCause C (eCo z) (oI (eNa z)) k (isW z))) = true
    rw [decide_eq_true h, Bool.or_true]
def xInit (z : Nat) : XS := (lInit, pInit, pInit, (z, 0, fun _ => none, nI 0, 0), (z, 0, fun _ => none, nI 0, 0), [])
theorem xInit_ok (z : Nat) : XOK z (xInit z) := by
  have ha : ALOK z (z, 0, fun _ => none, nI 0, 0) := ⟨fun _ => ⟨rfl, rfl⟩, Nat.le_refl _, fun h => absurd rfl h, Nat.zero_le _⟩
  have hl : lst (z, 0, fun _ => none, nI 0, 0) [] := ⟨rfl, fun i p h => by cases h⟩
  exact ⟨lOK_init, ha, ha, hl, hl, fun p hp => (nomatch hp), Nat.zero_le _⟩
theorem kd_if {kd : Nat} (h : kd ≤ 1) : (if decide (kd = 1) = true then 1 else 0) = kd := by
  by_cases e : kd = 1
  · rw [if_pos (decide_eq_true e), e]
  · rw [if_neg (by rw [decide_eq_false e]; decide)]; omega
/-- every name's words are in the memory -/
def LOK3 (L : LyS) : Prop := ∀ i a, i < lNm L → lSt L i = some a → a + lSz L i ≤ 512
