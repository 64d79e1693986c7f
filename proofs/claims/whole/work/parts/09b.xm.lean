/-! The class: what its methods answer: 0 and the answer, or which exception of the method's list it throws. -/
abbrev iaN : String := "java/lang/IllegalArgumentException"
abbrev isN : String := "java/lang/IllegalStateException"
abbrev uoN : String := "java/lang/UnsupportedOperationException"
abbrev ioN : String := "java/lang/IndexOutOfBoundsException"
abbrev arN : String := "java/lang/ArithmeticException"
def rep1 (C : CS) (z : Ev) : Nat × CS := if isA z = true then pMA C (eCo z) (oI (eNa z)) ((eLi z).getD 0) (isW z) else if eKd z = 2 then (0, (pDropAll C (eCo z)).2) else (0, pTell C (eCo z) (decide (eKd z = 3)))
def repN (E : List Ev) : Nat → CS
  | 0 => pInit
  | n + 1 => (rep1 (repN E n) (E.getD n evD)).2
/-- the event's cause and cost are those of the replay -/
def repSame (C : CS) (z : Ev) : Bool := (!isA z || decide (eCa z = pCause C (eCo z) (oI (eNa z)) ((eLi z).getD 0) (isW z))) && decide (eCs z = (rep1 C z).1)
def repAll (S : PX) : Bool := allB (fun i => repSame (repN (sE S) i) ((sE S).getD i evD)) (sE S).length && pSame (repN (sE S) (sE S).length) (sC S)
def xAdd (S : PX) (v : Int32) : Nat × Nat × PX := match inP 32 v with
  | none => (1, 0, S)
  | some k => if lNm (sL S) < 12 then (0, lNm (sL S), (pAdd (sL S) k, sC S, sE S)) else (2, 0, S)
def xPlace (S : PX) (v1 v2 : Int32) : Nat × Nat × PX := match inR (lNm (sL S)) v1 with
  | none => (1, 0, S)
  | some n => if inMem (sL S) n v2 = true then (if (lSt (sL S) n).isSome = true then (3, 0, S) else if pFree (sL S) n v2.toNatClampNeg = true then (0, v2.toNatClampNeg / 8, (pSetSt (sL S) n (some v2.toNatClampNeg), sC S, sE S)) else (3, 0, S)) else (2, 0, S)
def xLink (S : PX) (v : Int32) : Nat × Nat × PX := match inP 64 v with
  | none => (1, 0, S)
  | some al => match (pAll (sL S) al).1 with
    | none => (2, 0, ((pAll (sL S) al).2, sC S, sE S))
    | some k => (0, k, ((pAll (sL S) al).2, sC S, sE S))
def xTake (S : PX) (v : Int32) : Nat × Nat × PX := match inR (lNm (sL S)) v with
  | none => (1, 0, S)
  | some n => match lSt (sL S) n with
    | none => (2, 0, S)
    | some x => (0, x, (pSetSt (sL S) n none, sC S, sE S))
def xAddr (S : PX) (v1 v2 : Int32) : Nat × Nat := match inR (lNm (sL S)) v1 with
  | none => (1, 0)
  | some n => match lSt (sL S) n with
    | none => (2, 0)
    | some x => match inR (lSz (sL S) n) v2 with
      | none => (3, 0)
      | some w => (0, x + w)
def xNameAt (S : PX) (v : Int32) : Nat × Nat := match inR 512 v with
  | none => (1, 0)
  | some x => match pFind (sL S) x with
    | none => (2, 0)
    | some n => (0, n)
def xMeet (S : PX) (v1 v2 : Int32) : Nat × Bool := match inR (lNm (sL S)) v1 with
  | none => (1, false)
  | some n => match inR (lNm (sL S)) v2 with
    | none => (1, false)
    | some k => if n = k then (2, false) else (0, pMeet (sL S) n k)
def xAccAt (S : PX) (w : Bool) (c n k : Nat) : Nat × Nat × PX := (0, (pMA (sC S) c (nI n) k w).1, (sL S, (pMA (sC S) c (nI n) k w).2, sE S ++ [((if w = true then 1 else 0), c, some n, some k, (pMA (sC S) c (nI n) k w).1, pCause (sC S) c (nI n) k w)]))
def xAcc (S : PX) (w : Bool) (v1 v2 v3 : Int32) : Nat × Nat × PX := match inR 4 v1 with
  | none => (1, 0, S)
  | some c => match inR (lNm (sL S)) v2 with
    | none => (2, 0, S)
    | some n => match lSt (sL S) n with
      | none => (3, 0, S)
      | some x => match inR (lSz (sL S) n) v3 with
        | none => (4, 0, S)
        | some d => xAccAt S w c n ((x + d) / 8)
def xEmpty (S : PX) (v : Int32) : Nat × Nat × PX := match inR 4 v with
  | none => (1, 0, S)
  | some c => (0, (pDropAll (sC S) c).1, (sL S, (pDropAll (sC S) c).2, sE S ++ [(2, c, none, none, 0, UInt16.ofNat 45)]))
def xAhead (S : PX) (v : Int32) (b : Bool) : Nat × Bool × PX := match inR 4 v with
  | none => (1, false, S)
  | some c => (0, cAh (sC S) c, (sL S, pTell (sC S) c b, sE S ++ [((if b = true then 3 else 4), c, none, none, 0, UInt16.ofNat 45)]))
def xCost (S : PX) (v : Int32) : Nat × Nat := match inR (sA S).length v with
  | none => (1, 0)
  | some i => (0, eCs (acAt S i))
def xCaus (S : PX) (v : Int32) : Nat × UInt16 := match inR (sA S).length v with
  | none => (1, 0)
  | some i => (0, eCa (acAt S i))
/-- the cost of the i-th access by replaying -/
def xRep (S : PX) (i r : Nat) : Prop := ∃ (a : Nat) (z : Ev), (sE S)[a]? = some z ∧ isA z = true ∧ ((sE S).take a).countP isA = i ∧ r = (rep1 (repN (sE S) a) z).1
def xState (S : PX) (v1 v2 : Int32) : Nat × UInt16 := match inR 4 v1 with
  | none => (1, 0)
  | some c => match inR 64 v2 with
    | none => (2, 0)
    | some k => (0, cSt (sC S) (c * 64 + k))
def xOwner (S : PX) (v : Int32) : Nat × Nat := match inR 64 v with
  | none => (1, 0)
  | some k => match pOwner (sC S) k with
    | none => (2, 0)
    | some q => (0, q)
def xHold (S : PX) (v : Int32) : Nat × Nat := match inR 64 v with
  | none => (1, 0)
  | some k => (0, pHold (sC S) k)
def xLines (S : PX) (v : Int32) : Nat × Nat := match inR 4 v with
  | none => (1, 0)
  | some c => (0, sumN (fun s => pMany (sC S) c s) 4)
def xOldst (S : PX) (v1 v2 : Int32) : Nat × Nat := match inR 4 v1 with
  | none => (1, 0)
  | some c => match inR 4 v2 with
    | none => (2, 0)
    | some s => match pOldest (sC S) c s with
      | none => (3, 0)
      | some k => (0, k)
def xCntN (S : PX) (v : Int32) (z : UInt16) (i : Nat) : Nat := cnt (fun j => decide (oI (eNa (acAt S j)) = v) && decide (eCa (acAt S j) = z)) i
def xCount (S : PX) (v : Int32) (z : UInt16) : Nat × Nat := match inR (lNm (sL S)) v with
  | none => (1, 0)
  | some _ => if isCz z = true then (0, xCntN S v z (sA S).length) else (2, 0)
def xSumN (S : PX) (v : Int32) (i : Nat) : Int64 := sumL (fun j => decide (oI (eNa (acAt S j)) = v)) (fun j => eCs (acAt S j)) i
def xSum (S : PX) (v : Int32) : Int64 := xSumN S v (sA S).length
def xBill (S : PX) (v : Int32) : Nat × Int64 := match inR (lNm (sL S)) v with
  | none => (1, 0)
  | some _ => (0, xSum S v)
def xWorN (S : PX) : Nat → Nat
  | 0 => 0
  | i + 1 => if xSum S (nI (xWorN S i)) < xSum S (nI (i + 1)) then i + 1 else xWorN S i
theorem xWorN_le (S : PX) : ∀ i, xWorN S i ≤ i := by
  intro i
  induction i with
  | zero => exact Nat.le_refl _
  | succ i ih => rw [xWorN]; split <;> omega
def xWorst (S : PX) : Nat × Nat := if lNm (sL S) = 0 then (1, 0) else (0, xWorN S (lNm (sL S) - 1))
def xCycN (S : PX) (v : Int32) (i : Nat) : Int64 := sumL (fun j => decide (nI (eCo (acAt S j)) = v)) (fun j => eCs (acAt S j)) i
def xCyc (S : PX) (v : Int32) : Nat × Int64 := match inR 4 v with
  | none => (1, 0)
  | some _ => (0, xCycN S v (sA S).length)
def xFet (S : PX) (v : Int32) : Nat × Int32 := match inR 4 v with
  | none => (1, 0)
  | some c => (0, cFe (sC S) c)
def xUsef (S : PX) (v : Int32) : Nat × Int32 := match inR 4 v with
  | none => (1, 0)
  | some c => (0, cUf (sC S) c)
def xWrg (S : PX) (v : Int32) : Nat × Int32 := match inR 4 v with
  | none => (1, 0)
  | some c => (0, cWr (sC S) c)
def xMissN (S : PX) (i : Nat) : Nat := cnt (fun j => missB (eCa (acAt S j))) i
def xShareF (S : PX) : Nat × UInt32 := if (sA S).length = 0 then (1, 0) else (0, FP.fdiv (FP.i2f (nI (xMissN S (sA S).length))) (FP.i2f (nI (sA S).length)))
def xTotN (S : PX) (i : Nat) : Int64 := sumL (fun _ => true) (fun j => eCs (acAt S j)) i
def xMean (S : PX) : Nat × UInt64 := if (sA S).length = 0 then (1, 0) else (0, FP.ddiv (FP.l2d (xTotN S (sA S).length)) (FP.i2d (nI (sA S).length)))
theorem XOK.alen {z0 : Nat} {X : XS} (h : XOK z0 X) : alC (xa X) = (sA (pX X)).length := by rw [h.2.2.2.2.1.1, sA_len]
theorem XOK.elen {z0 : Nat} {X : XS} (h : XOK z0 X) : alC (xl X) = (sE (pX X)).length := by
  rw [h.2.2.2.1.1]
  show _ = ((xE X).map Prod.snd).length
  rw [List.length_map]
theorem ex_0 {a : String} {P : Nat → Prop} (h : P 1) : ∃ k, [a][k]? = some a ∧ P (k + 1) := ⟨0, rfl, h⟩
