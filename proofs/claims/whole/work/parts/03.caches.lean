/-! The class's caches: what an object holds, and what its methods do, as pure functions. -/
abbrev CS : Type := (Nat → UInt16) × (Nat → Int32) × (Nat → Int32) × (Nat → Bool) × (Nat → Bool) × (Nat → Int32) × (Nat → Int32) × (Nat → Int32) × (Nat → Int32) × (Nat → Int32) × Int32
abbrev cSt (S : CS) : Nat → UInt16 := S.1
abbrev cUs (S : CS) : Nat → Int32 := S.2.1
abbrev cLv (S : CS) : Nat → Int32 := S.2.2.1
abbrev cUn (S : CS) : Nat → Bool := S.2.2.2.1
abbrev cAh (S : CS) : Nat → Bool := S.2.2.2.2.1
abbrev cMl (S : CS) : Nat → Int32 := S.2.2.2.2.2.1
abbrev cSp (S : CS) : Nat → Int32 := S.2.2.2.2.2.2.1
abbrev cFe (S : CS) : Nat → Int32 := S.2.2.2.2.2.2.2.1
abbrev cUf (S : CS) : Nat → Int32 := S.2.2.2.2.2.2.2.2.1
abbrev cWr (S : CS) : Nat → Int32 := S.2.2.2.2.2.2.2.2.2.1
abbrev cNw (S : CS) : Int32 := S.2.2.2.2.2.2.2.2.2.2
def wC (g : Nat → ClassId) (h : Nat) (a : Nat → Nat) (S : CS) : va_W := [(h, .inr (3, [.ref (a 0), .ref (a 1), .ref (a 2), .ref (a 3), .ref (a 4), .ref (a 5), .ref (a 6), .ref (a 7), .ref (a 8), .ref (a 9), .int (cNw S)])),
  (a 0, .inl (g 0, 256, .inl (aC (cSt S)))), (a 1, .inl (g 1, 256, .inl (cUs S))), (a 2, .inl (g 1, 256, .inl (cLv S))), (a 3, .inl (g 2, 256, .inl (aB (cUn S)))), (a 4, .inl (g 2, 4, .inl (aB (cAh S)))),
  (a 5, .inl (g 1, 4, .inl (cMl S))), (a 6, .inl (g 1, 4, .inl (cSp S))), (a 7, .inl (g 1, 4, .inl (cFe S))), (a 8, .inl (g 1, 4, .inl (cUf S))), (a 9, .inl (g 1, 4, .inl (cWr S)))]
/-- counting, searching -/
def cnt (p : Nat → Bool) : Nat → Nat
  | 0 => 0
  | n + 1 => cnt p n + (if p n = true then 1 else 0)
theorem cnt_le (p : Nat → Bool) (n : Nat) : cnt p n ≤ n := by
  induction n with
  | zero => exact Nat.le_refl _
  | succ n ih => unfold cnt; split <;> omega
def srch (p : Nat → Bool) (n : Nat) : Option Nat := (List.range n).find? p
theorem srch_none {p : Nat → Bool} {n : Nat} (h : ∀ j, j < n → p j = false) : srch p n = none := by
  unfold srch
  rw [List.find?_eq_none]
  intro x hx
  rw [h x (List.mem_range.mp hx)]
  decide
theorem srch_some {p : Nat → Bool} {n i : Nat} (h : ∀ j, j < i → p j = false) (hi : i < n) (hp : p i = true) : srch p n = some i := by
  unfold srch
  rw [List.find?_range_eq_some]
  exact ⟨hp, List.mem_range.mpr hi, fun j hj => by rw [h j hj]; rfl⟩
theorem srch_spec {p : Nat → Bool} {n i : Nat} (h : srch p n = some i) : i < n ∧ p i = true ∧ ∀ j, j < i → p j = false := by
  unfold srch at h
  rw [List.find?_range_eq_some] at h
  exact ⟨List.mem_range.mp h.2.1, h.1, fun j hj => by have := h.2.2 j hj; simpa using this⟩
def hasB (S : CS) (i : Nat) : Bool := decide (¬ cSt S i = UInt16.ofNat 45)
def ownB (S : CS) (i : Nat) : Bool := decide (cSt S i = UInt16.ofNat 101 ∨ cSt S i = UInt16.ofNat 109)
theorem hasB_t {S : CS} {i : Nat} (h : ¬ cSt S i = UInt16.ofNat 45) : hasB S i = true := decide_eq_true h
theorem hasB_f {S : CS} {i : Nat} (h : cSt S i = UInt16.ofNat 45) : hasB S i = false := decide_eq_false (fun z => z h)
theorem ownB_1 {S : CS} {i : Nat} (h : cSt S i = UInt16.ofNat 101) : ownB S i = true := decide_eq_true (Or.inl h)
theorem ownB_2 {S : CS} {i : Nat} (h : cSt S i = UInt16.ofNat 109) : ownB S i = true := decide_eq_true (Or.inr h)
theorem ownB_f {S : CS} {i : Nat} (h : ¬ cSt S i = UInt16.ofNat 101) (h2 : ¬ cSt S i = UInt16.ofNat 109) : ownB S i = false := decide_eq_false (fun z => z.elim h h2)
def pOwner (S : CS) (k : Nat) : Option Nat := srch (fun c => ownB S (c * 64 + k)) 4
def pHold (S : CS) (k : Nat) : Nat := cnt (fun c => hasB S (c * 64 + k)) 4
def pMany (S : CS) (c s : Nat) : Nat := cnt (fun i => hasB S (c * 64 + (s + i * 4))) 16
def oldI (p : Nat → Bool) (u : Nat → Int32) : Nat → Option Nat
  | 0 => none
  | n + 1 => match oldI p u n with
    | none => if p n = true then some n else none
    | some m => if p n = true ∧ u n < u m then some n else some m
def pOldI (S : CS) (c s n : Nat) : Option Nat := oldI (fun i => hasB S (c * 64 + (s + i * 4))) (fun i => cUs S (c * 64 + (s + i * 4))) n
def pOldest (S : CS) (c s : Nat) : Option Nat := (pOldI S c s 16).map (fun i => s + i * 4)
theorem oldI_spec {p : Nat → Bool} {u : Nat → Int32} : ∀ {n m : Nat}, oldI p u n = some m → m < n ∧ p m = true := by
  intro n
  induction n with
  | zero => intro m h; cases h
  | succ n ih =>
    intro m h
    unfold oldI at h
    split at h
    · split at h
      · rename_i h2; cases h; exact ⟨by omega, h2⟩
      · cases h
    · rename_i m' hm'
      obtain ⟨a, b⟩ := ih hm'
      split at h
      · rename_i h2; cases h; exact ⟨by omega, h2.1⟩
      · cases h; exact ⟨by omega, b⟩
theorem pOldest_spec {S : CS} {c s m : Nat} (h : pOldest S c s = some m) (hs : s < 4) : m < 64 ∧ m % 4 = s ∧ hasB S (c * 64 + m) = true := by
  unfold pOldest pOldI at h
  obtain ⟨i, hi, rfl⟩ := Option.map_eq_some_iff.mp h
  obtain ⟨a, b⟩ := oldI_spec hi
  exact ⟨by omega, by omega, b⟩
def allB (p : Nat → Bool) (n : Nat) : Bool := (srch (fun i => !p i) n).isNone
theorem allB_t {p : Nat → Bool} {n : Nat} (h : ∀ j, j < n → p j = true) : allB p n = true := by
  unfold allB
  rw [srch_none (fun j hj => by rw [h j hj]; rfl)]
  rfl
theorem allB_f {p : Nat → Bool} {n i : Nat} (hi : i < n) (h : p i = false) : allB p n = false := by
  unfold allB srch
  cases hq : (List.range n).find? (fun i => !p i) with
  | none =>
    rw [List.find?_eq_none] at hq
    exact absurd (by rw [h]; rfl) (hq i (List.mem_range.mpr hi))
  | some _ => rfl
theorem allB_iff {p : Nat → Bool} {n : Nat} : allB p n = true ↔ ∀ j, j < n → p j = true := by
  constructor
  · intro h j hj
    cases hp : p j with
    | true => rfl
    | false => rw [allB_f hj hp] at h; cases h
  · exact allB_t
def pLone (S : CS) : Bool := allB (fun k => !((pOwner S k).isSome && decide (1 < pHold S k))) 64
def pSame (S U : CS) : Bool := allB (fun i => decide (cSt S i = cSt U i)) 256
/-- the cause of the next access, as a sign -/
def pCause (S : CS) (c : Nat) (v : Int32) (k : Nat) (w : Bool) : UInt16 :=
  if cSt S (c * 64 + k) = UInt16.ofNat 45 then
    (if cLv S (c * 64 + k) = (-2) then UInt16.ofNat 99 else if cLv S (c * 64 + k) = (-1) then UInt16.ofNat 101 else if cLv S (c * 64 + k) = v then UInt16.ofNat 116 else UInt16.ofNat 102)
  else if w = true then (if cSt S (c * 64 + k) = UInt16.ofNat 115 then UInt16.ofNat 117 else UInt16.ofNat 104) else UInt16.ofNat 104
def pCost (S : CS) (c k : Nat) (w : Bool) : Nat :=
  if cSt S (c * 64 + k) = UInt16.ofNat 45 then (if 0 < pHold S k then 12 else 40)
  else if w = true then (if cSt S (c * 64 + k) = UInt16.ofNat 115 then 8 else 1) else 1
def pDrop (S : CS) (c k : Nat) (v : Int32) : CS :=
  if cSt S (c * 64 + k) = UInt16.ofNat 45 then S
  else if cUn S (c * 64 + k) = false then (va_up (cSt S) (c * 64 + k) (UInt16.ofNat 45), cUs S, upd (cLv S) (c * 64 + k) v, cUn S, cAh S, cMl S, cSp S, cFe S, cUf S, cWr S, cNw S)
  else (va_up (cSt S) (c * 64 + k) (UInt16.ofNat 45), cUs S, upd (cLv S) (c * 64 + k) v, va_up (cUn S) (c * 64 + k) false, cAh S, cMl S, cSp S, cFe S, cUf S, upd (cWr S) c (cWr S c + nI 1), cNw S)
def pTell (S : CS) (c : Nat) (b : Bool) : CS := (cSt S, cUs S, cLv S, cUn S, va_up (cAh S) c b, upd (cMl S) c (-1), upd (cSp S) c (nI 0), cFe S, cUf S, cWr S, cNw S)
def pMakeRoom (S : CS) (c k : Nat) : Bool × CS := match pOldest S c (k % 4) with
  | none => (false, S)
  | some m => if pMany S c (k % 4) < 2 then (false, S) else (decide (cSt S (c * 64 + m) = UInt16.ofNat 109), pDrop S c m (-1))
def shrN (f : Nat → UInt16) (k : Nat) : Nat → Nat → UInt16
  | 0 => f
  | n + 1 => if shrN f k n (n * 64 + k) = UInt16.ofNat 45 then shrN f k n else va_up (shrN f k n) (n * 64 + k) (UInt16.ofNat 115)
def pShare (S : CS) (k : Nat) : CS := (shrN (cSt S) k 4, cUs S, cLv S, cUn S, cAh S, cMl S, cSp S, cFe S, cUf S, cWr S, cNw S)
def pBring (S : CS) (c k : Nat) : CS := (va_up (cSt S) (c * 64 + k) (if 0 < pHold S k then UInt16.ofNat 115 else UInt16.ofNat 101), upd (cUs S) (c * 64 + k) (cNw S + nI 1), cLv S, cUn S, cAh S, cMl S, cSp S, cFe S, cUf S, cWr S, cNw S + nI 1)
def pUse (S : CS) (c k : Nat) : CS :=
  if cUn S (c * 64 + k) = false then (cSt S, upd (cUs S) (c * 64 + k) (cNw S + nI 1), cLv S, cUn S, cAh S, cMl S, cSp S, cFe S, cUf S, cWr S, cNw S + nI 1)
  else (cSt S, upd (cUs S) (c * 64 + k) (cNw S + nI 1), cLv S, va_up (cUn S) (c * 64 + k) false, cAh S, cMl S, cSp S, cFe S, upd (cUf S) c (cUf S c + nI 1), cWr S, cNw S + nI 1)
def pElseN (S : CS) (c : Nat) (v : Int32) (k : Nat) : Nat → CS
  | 0 => S
  | n + 1 => if n = c then pElseN S c v k n else pDrop (pElseN S c v k n) n k v
def pElse (S : CS) (c : Nat) (v : Int32) (k : Nat) : CS := pElseN S c v k 4
def pStep (S : CS) (c k : Nat) : Int32 := if cMl S c = (-1) then nI 0 else nI k - cMl S c
def pLearn (S : CS) (c k : Nat) : Int32 × CS :=
  (if pStep S c k = 0 then (-1) else if pStep S c k = cSp S c then nI k + pStep S c k else (-1),
   (cSt S, cUs S, cLv S, cUn S, cAh S, upd (cMl S) c (nI k), upd (cSp S) c (pStep S c k), cFe S, cUf S, cWr S, cNw S))
def ln64 (x : Int32) : Option Nat := if x < 0 then none else if nI 64 ≤ x then none else some x.toNatClampNeg
theorem ln64_nI {m : Nat} (h : m < 64) : ln64 (nI m) = some m := by
  unfold ln64
  rw [if_neg (nI_pos (by omega)), if_neg (nI_ge h (by decide)), nI_clamp (by omega)]
def pCan (S : CS) (c : Nat) (x : Int32) : Bool := match ln64 x with
  | none => false
  | some m => decide (cSt S (c * 64 + m) = UInt16.ofNat 45) && (pOwner S m).isNone
def pFetch (S : CS) (c k : Nat) : CS := match pBring (pMakeRoom S c k).2 c k with
  | U => (cSt U, cUs U, cLv U, va_up (cUn U) (c * 64 + k) true, cAh U, cMl U, cSp U, upd (cFe U) c (cFe U c + nI 1), cUf U, cWr U, cNw U)
def pDropAllN (S : CS) (c : Nat) : Nat → Nat × CS
  | 0 => (0, S)
  | n + 1 => ((pDropAllN S c n).1 + (if cSt (pDropAllN S c n).2 (c * 64 + n) = UInt16.ofNat 109 then 1 else 0), pDrop (pDropAllN S c n).2 c n (-1))
def pDropAll (S : CS) (c : Nat) : Nat × CS := pDropAllN S c 64
theorem pDropAll_le (S : CS) (c n : Nat) : (pDropAllN S c n).1 ≤ n := by
  induction n with
  | zero => exact Nat.le_refl _
  | succ n ih => unfold pDropAllN; dsimp only; split <;> omega
/-- an access: the miss's part, the write's, the use, the fetching ahead -/
def pMA1 (S : CS) (c k : Nat) (w : Bool) : Nat × CS :=
  if cSt S (c * 64 + k) = UInt16.ofNat 45 then
    (pCost S c k w + (if (pMakeRoom S c k).1 = true then 5 else 0), pBring (if w = true then (pMakeRoom S c k).2 else pShare (pMakeRoom S c k).2 k) c k)
  else (pCost S c k w, S)
def pMA2 (S : CS) (c : Nat) (v : Int32) (k : Nat) (w : Bool) : CS :=
  if w = true then (match pElse S c v k with | U => (va_up (cSt U) (c * 64 + k) (UInt16.ofNat 109), cUs U, cLv U, cUn U, cAh U, cMl U, cSp U, cFe U, cUf U, cWr U, cNw U)) else S
def pMA3 (S : CS) (c k : Nat) (miss : Bool) : CS :=
  if miss = false then S else if cAh S c = false then S
  else match ln64 (pLearn S c k).1 with
    | none => (pLearn S c k).2
    | some m => if pCan (pLearn S c k).2 c (pLearn S c k).1 = true then pFetch (pLearn S c k).2 c m else (pLearn S c k).2
def pMA (S : CS) (c : Nat) (v : Int32) (k : Nat) (w : Bool) : Nat × CS :=
  ((pMA1 S c k w).1, pMA3 (pUse (pMA2 (pMA1 S c k w).2 c v k w) c k) c k (!hasB S (c * 64 + k)))
def pInit : CS := (fun _ => UInt16.ofNat 45, fun _ => nI 0, fun _ => (-2), fun _ => false, fun _ => false, fun _ => (-1), fun _ => nI 0, fun _ => nI 0, fun _ => nI 0, fun _ => nI 0, nI 0)
section QO
variable {p : Program} {l : Launch} {e : Env} {R : Room} {s : State} {m : MethodId} {args : Array Value} {below : List Frame} {meth : Method} {c : Code} {H : Heap} {locs : List Loc} {cells slots : Nat} {Q : State → Prop} {pc : Nat} {ls : Array Slot} {rest : List Value}
theorem q_osplit {o : Option Nat} (kn : o = none → W p l e R s m args below meth c H locs cells slots Q (F0 m pc ls (.int (-1) :: rest))) (ks : ∀ i : Nat, o = some i → W p l e R s m args below meth c H locs cells slots Q (F0 m pc ls (.int (nI i) :: rest))) : W p l e R s m args below meth c H locs cells slots Q (F0 m pc ls (.int (oI o) :: rest)) := by
  cases o with
  | none => exact kn rfl
  | some i => exact ks i rfl
end QO
theorem i_in {x : Int32} {n : Nat} (hn : n < 2 ^ 31) (h0 : ¬ x < 0) (h1 : ¬ nI n ≤ x) : ∃ j : Nat, j < n ∧ x = nI j := by
  rcases pk_ix x hn with h | h | h
  · exact absurd h h0
  · exact absurd h h1
  · exact h
def oUse (S : CS) (c sn : Nat) (o : Option Nat) : Int32 := match o with
  | some j => cUs S (c * 64 + (sn + j * 4))
  | none => nI 0
theorem oldS_h {S : CS} {c sn i : Nat} (h : hasB S (c * 64 + (sn + i * 4)) = false) : pOldI S c sn (i + 1) = pOldI S c sn i := by
  unfold pOldI
  rw [oldI]
  cases hq : oldI (fun i => hasB S (c * 64 + (sn + i * 4))) (fun i => cUs S (c * 64 + (sn + i * 4))) i with
  | none => simp [h]
  | some m => simp [h]
theorem oldS_n {S : CS} {c sn i : Nat} (ho : pOldI S c sn i = none) (h : hasB S (c * 64 + (sn + i * 4)) = true) : pOldI S c sn (i + 1) = some i := by
  unfold pOldI at ho ⊢
  rw [oldI, ho]
  simp [h]
theorem oldS_k {S : CS} {c sn i j : Nat} (ho : pOldI S c sn i = some j) (h : ¬ cUs S (c * 64 + (sn + i * 4)) < cUs S (c * 64 + (sn + j * 4))) : pOldI S c sn (i + 1) = some j := by
  unfold pOldI at ho ⊢
  rw [oldI, ho]
  simp only
  rw [if_neg (fun z => h z.2)]
theorem oldS_s {S : CS} {c sn i j : Nat} (ho : pOldI S c sn i = some j) (hb : hasB S (c * 64 + (sn + i * 4)) = true) (h : cUs S (c * 64 + (sn + i * 4)) < cUs S (c * 64 + (sn + j * 4))) : pOldI S c sn (i + 1) = some i := by
  unfold pOldI at ho ⊢
  rw [oldI, ho]
  simp only
  rw [if_pos ⟨hb, h⟩]
theorem pHold_le (S : CS) (k : Nat) : pHold S k ≤ 4 := cnt_le _ 4
/-! two worlds that hold the same below the lengths of their arrays -/
def clr {α : Type} (f : Nat → α) (v : α) (n : Nat) : Nat → α := fun j => if j < n then v else f j
theorem clr_0 {α : Type} (f : Nat → α) (v : α) : clr f v 0 = f := by
  funext j
  unfold clr
  rw [if_neg (by omega)]
theorem clr_s {α : Type} (f : Nat → α) (v : α) (n : Nat) : clr f v (n + 1) = va_up (clr f v n) n v := by
  funext j
  show (if j < n + 1 then v else f j) = if j = n then v else (if j < n then v else f j)
  by_cases h : j = n
  · rw [if_pos (by omega), if_pos h]
  · rw [if_neg h]
    by_cases h2 : j < n
    · rw [if_pos (by omega), if_pos h2]
    · rw [if_neg (by omega), if_neg h2]
def Eqv (w w' : va_W) : Prop := w.map Prod.fst = w'.map Prod.fst ∧ ∀ (D : va_G) (H : Heap), va_P D vwCl w H → va_P D vwCl w' H
theorem eqv_rf (w : va_W) : Eqv w w := ⟨rfl, fun _ _ h => h⟩
theorem P_cons {D : va_G} {q : Nat × va_E} {w : va_W} {H : Heap} : va_P D vwCl (q :: w) H ↔ va_at D vwCl q H ∧ va_P D vwCl w H := by
  rw [q_Pmem, q_Pmem]
  exact List.forall_mem_cons
theorem P_app {D : va_G} {v w : va_W} {H : Heap} : va_P D vwCl (v ++ w) H ↔ va_P D vwCl v H ∧ va_P D vwCl w H := by
  rw [q_Pmem, q_Pmem, q_Pmem]
  exact List.forall_mem_append
theorem eqv_c {q : Nat × va_E} {w w' : va_W} (h : Eqv w w') : Eqv (q :: w) (q :: w') := ⟨by rw [List.map_cons, List.map_cons, h.1], fun D H hp => P_cons.mpr ⟨(P_cons.mp hp).1, h.2 D H (P_cons.mp hp).2⟩⟩
theorem eqv_a {a n : Nat} {cA : ClassId} {f f' : Nat → Int32} {w w' : va_W} (hf : ∀ j, j < n → f j = f' j) (h : Eqv w w') : Eqv ((a, .inl (cA, n, .inl f)) :: w) ((a, .inl (cA, n, .inl f')) :: w') := by
  refine ⟨by rw [List.map_cons, List.map_cons, h.1], fun D H hp => P_cons.mpr ⟨?_, h.2 D H (P_cons.mp hp).2⟩⟩
  have h1 : H[a]? = some (vp_cell cA (n, .inl f)) := (P_cons.mp hp).1
  have h2 : vp_cell cA (n, .inl f) = vp_cell cA (n, .inl f') := by
    rw [vp_cell_i, vp_cell_i]
    unfold arrV
    rw [show (fun j : Fin n => Value.int (f j.val)) = fun j : Fin n => Value.int (f' j.val) from funext fun j => by rw [hf j.val j.isLt]]
  rw [h2] at h1
  exact h1
theorem eqv_app {v v' w w' : va_W} (h1 : Eqv v v') (h2 : Eqv w w') : Eqv (v ++ w) (v' ++ w') := ⟨by rw [List.map_append, List.map_append, h1.1, h2.1], fun D H hp => P_app.mpr ⟨h1.2 D H (P_app.mp hp).1, h2.2 D H (P_app.mp hp).2⟩⟩
section QV
variable {D : va_G} {g : Nat → ClassId} {A : Nat → Prop} {H0 H : Heap} {s : State} {w w' : va_W} {locs : List Loc}
theorem qW.eqv (h : qW D g A H0 s w H locs) (he : Eqv w w') : qW D g A H0 s w' H locs := by
  refine ⟨he.2 D H h.1, h.2.1, ?_, h.2.2.2⟩
  obtain ⟨h1, h2⟩ := q_Dmem.mp h.2.2.1
  refine q_Dmem.mpr ⟨by rw [← he.1]; exact h1, fun q hq => ?_⟩
  have hm : q.1 ∈ w.map Prod.fst := by rw [he.1]; exact List.mem_map.mpr ⟨q, hq, rfl⟩
  obtain ⟨z, hz, e⟩ := List.mem_map.mp hm
  rw [← e]
  exact h2 z hz
end QV
theorem wC_eqv {g : Nat → ClassId} {h : Nat} {a : Nat → Nat} {S U : CS} (h0 : ∀ j, j < 256 → cSt S j = cSt U j) (h1 : ∀ j, j < 256 → cUs S j = cUs U j) (h2 : ∀ j, j < 256 → cLv S j = cLv U j) (h3 : ∀ j, j < 256 → cUn S j = cUn U j) (h4 : ∀ j, j < 4 → cAh S j = cAh U j)
    (h5 : ∀ j, j < 4 → cMl S j = cMl U j) (h6 : ∀ j, j < 4 → cSp S j = cSp U j) (h7 : ∀ j, j < 4 → cFe S j = cFe U j) (h8 : ∀ j, j < 4 → cUf S j = cUf U j) (h9 : ∀ j, j < 4 → cWr S j = cWr U j) (h10 : cNw S = cNw U) : Eqv (wC g h a S) (wC g h a U) := by
  unfold wC
  rw [h10]
  exact eqv_c (eqv_a (fun j hj => by unfold aC; rw [h0 j hj]) (eqv_a h1 (eqv_a h2 (eqv_a (fun j hj => by unfold aB; rw [h3 j hj]) (eqv_a (fun j hj => by unfold aB; rw [h4 j hj]) (eqv_a h5 (eqv_a h6 (eqv_a h7 (eqv_a h8 (eqv_a h9 (eqv_rf _)))))))))))
theorem pCan_in {S : CS} {c : Nat} {x : Int32} (h : pCan S c x = true) : ∃ j : Nat, j < 64 ∧ x = nI j := by
  unfold pCan ln64 at h
  by_cases h0 : x < 0
  · rw [if_pos h0] at h; cases h
  · rw [if_neg h0] at h
    by_cases h1 : nI 64 ≤ x
    · rw [if_pos h1] at h; cases h
    · exact i_in (by decide) h0 h1
theorem eqv_set {w : va_W} {q a n : Nat} {cA : ClassId} {f f' : Nat → Int32} (hf : ∀ j, j < n → f j = f' j) : Eqv (w.set q (a, .inl (cA, n, .inl f))) (w.set q (a, .inl (cA, n, .inl f'))) := by
  induction w generalizing q with
  | nil => exact eqv_rf _
  | cons x w ih =>
    cases q with
    | zero => exact eqv_a hf (eqv_rf _)
    | succ q => exact eqv_c ih
section QY
variable {p : Program} {l : Launch} {e : Env} {R : Room} {s : State} {m : MethodId} {args : Array Value} {below : List Frame} {meth : Method} {c : Code} {H : Heap} {locs : List Loc} {cells slots : Nat} {Q : State → Prop}
variable {cc : ByteArray} {nL : Nat} {Ts : List Cond} {own : String} {D : va_G} {g : Nat → ClassId} {A : Nat → Prop} {H0 : Heap} {w : va_W} {pc : Nat} {ls : Array Slot} {rest : List Value} {a : Nat}
/-- a whole row of ints copied into another of its length -/
theorem q_copyAll (C : CallFix p m c cc nL s args Ts own) (hW : qW D g A H0 s w H locs) {index : Nat} (hlink : (Cond.methodLink own index arraycopyName).before args s = true) (hnat : (Cond.native arraycopyName).before args s = true) (hstat : (Cond.static arraycopyName).before args s = true) (hini : (Cond.initialized "java/lang/System").before args s = true) (hls : ls.size = nL)
    (q0 q1 : Nat) {a0 n : Nat} {f f' : Nat → Int32} (ha0 : w[q0]? = some (a0, .inl (g 1, n, .inl f))) (ha1 : w[q1]? = some (a, .inl (g 1, n, .inl f'))) (hn : n < 2 ^ 31) (hframes : 1 ≤ R.frames) (hlocals : (rest.map fun v => v.category).sum + (nativeFrameWords "java/lang/System" "arraycopy" 5 + 11) ≤ R.locals)
    (w' : va_W) (hw : w.set q1 (a, .inl (g 1, n, .inl f)) = w') (hdg : decode cc pc = .ok (.invokestatic index, 3))
    (kk : ∀ (H1 : Heap) (locs1 : List Loc), qW D g A H0 s w' H1 locs1 → W p l e R s m args below meth c H1 locs1 cells slots Q (F0 m (pc + 3) ls rest)) : W p l e R s m args below meth c H locs cells slots Q (F0 m pc ls (.int (nI n) :: .int (nI 0) :: .ref a :: .int (nI 0) :: .ref a0 :: rest)) := by
  subst hw
  have e0 : (nI 0).toNatClampNeg = 0 := nI_clamp (by decide)
  have en : (nI n).toNatClampNeg = n := nI_clamp hn
  refine va_copyi (ty := .int) C.1 C.2.1 (by rw [C.2.2.1]; exact hls.symm) C.2.2.2.1 hlink hnat hstat hini hW.2.1 hW.1 hW.2.2.1 hW.2.2.2.1 q0 q1 1 1 ha0 ha1 rfl rfl rfl (nI_pos (by decide)) (nI_pos (by decide)) (nI_pos hn) (by rw [e0, en]; omega) (by rw [e0, en]; omega) (fun _ _ => rfl) hframes hlocals hdg (fun H1 locs1 h1 h2 h3 => ?_)
  refine kk H1 locs1 (qW.eqv (w := w.set q1 (a, .inl (g 1, n, .inl (va_cpy f f' (nI 0).toNatClampNeg (nI 0).toNatClampNeg (nI n).toNatClampNeg)))) ⟨h1, hW.2.1, h2, h3, hW.2.2.2.2⟩ (eqv_set fun j hj => ?_))
  rw [e0, en, pk_cpy_in (by omega) (by omega)]
  congr 1; omega
end QY
/-! the class's layout of names -/
abbrev LyS : Type := (Nat → Nat) × (Nat → Option Nat) × (Nat → Option Nat) × Nat
abbrev lSz (L : LyS) : Nat → Nat := L.1
abbrev lSt (L : LyS) : Nat → Option Nat := L.2.1
abbrev lBf (L : LyS) : Nat → Option Nat := L.2.2.1
abbrev lNm (L : LyS) : Nat := L.2.2.2
def wL (g : Nat → ClassId) (h : Nat) (a : Nat → Nat) (L : LyS) : va_W := [(h, .inr (5, [.ref (a 0), .ref (a 1), .ref (a 2), .int (nI (lNm L))])), (a 0, .inl (g 1, 12, .inl (aN (lSz L)))), (a 1, .inl (g 1, 12, .inl (aO (lSt L)))), (a 2, .inl (g 1, 12, .inl (aO (lBf L))))]
def lInit : LyS := (fun _ => 0, fun _ => some 0, fun _ => some 0, 0)
def LOK (L : LyS) : Prop := lNm L ≤ 12 ∧ (∀ i, i < 12 → lSz L i ≤ 32) ∧ (∀ i a, i < 12 → lSt L i = some a → a ≤ 511) ∧ ∀ i, i < lNm L → 1 ≤ lSz L i
theorem LOK.sz {L : LyS} (h : LOK L) {i : Nat} (hi : i < 12) : lSz L i ≤ 32 := h.2.1 i hi
theorem LOK.st {L : LyS} (h : LOK L) {i a : Nat} (hi : i < 12) (e : lSt L i = some a) : a ≤ 511 := h.2.2.1 i a hi e
theorem lOK_init : LOK lInit := ⟨by decide, fun _ _ => by show 0 ≤ 32; omega, fun _ a _ h => by cases h; omega, fun i h => absurd h (by show ¬ i < 0; omega)⟩
def inR (n : Nat) (x : Int32) : Option Nat := if x < 0 then none else if nI n ≤ x then none else some x.toNatClampNeg
theorem inR_nI {n m : Nat} (h : m < n) (hn : n < 2 ^ 31) : inR n (nI m) = some m := by
  unfold inR
  rw [if_neg (nI_pos (by omega)), if_neg (nI_ge h hn), nI_clamp (by omega)]
theorem inR_some {n m : Nat} {x : Int32} (hn : n < 2 ^ 31) (h : inR n x = some m) : m < n ∧ x = nI m := by
  unfold inR at h
  by_cases h0 : x < 0
  · rw [if_pos h0] at h; cases h
  · rw [if_neg h0] at h
    by_cases h1 : nI n ≤ x
    · rw [if_pos h1] at h; cases h
    · rw [if_neg h1] at h
      obtain ⟨j, hj, rfl⟩ := i_in hn h0 h1
      rw [nI_clamp (by omega)] at h
      cases h
      exact ⟨hj, rfl⟩
def inMem (L : LyS) (n : Nat) (x : Int32) : Bool := if x < 0 then false else if nI (512 - lSz L n) < x then false else true
def clash (L : LyS) (n a o : Nat) : Bool := decide (¬ o = n) && (match lSt L o with | none => false | some s => decide (s < a + lSz L n) && decide (a < s + lSz L o))
def pFree (L : LyS) (n a : Nat) : Bool := allB (fun o => !clash L n a o) (lNm L)
def pFits (L : LyS) (n a : Nat) : Bool := decide (a ≤ 512 - lSz L n) && pFree L n a
def pAt (L : LyS) (x : Nat) (i : Nat) : Bool := match lSt L i with | none => false | some s => decide (s ≤ x) && decide (x < s + lSz L i)
def pFind (L : LyS) (x : Nat) : Option Nat := srch (pAt L x) (lNm L)
def pLow (L : LyS) (n al : Nat) : Option Nat := (srch (fun i => decide (i * al < 512) && pFits L n (i * al)) 512).map (fun i => i * al)
def pLast (L : LyS) (n : Nat) : Option Nat := (lSt L n).map (fun a => (a + lSz L n - 1) / 8)
def pMeet (L : LyS) (n o : Nat) : Bool := match lSt L n, lSt L o with
  | some a, some b => decide (a / 8 ≤ (b + lSz L o - 1) / 8) && decide (b / 8 ≤ (a + lSz L n - 1) / 8)
  | _, _ => false
def pSetSt (L : LyS) (n : Nat) (o : Option Nat) : LyS := (lSz L, va_up (lSt L) n o, lBf L, lNm L)
def pAdd (L : LyS) (k : Nat) : LyS := (va_up (lSz L) (lNm L) k, va_up (lSt L) (lNm L) none, lBf L, lNm L + 1)
def plN (L : LyS) (al : Nat) : Nat → Option (Nat × LyS)
  | 0 => some (0, L)
  | n + 1 => match plN L al n with
    | none => none
    | some (p, M) => match lSt M n with
      | some _ => some (p, M)
      | none => match pLow M n al with
        | none => none
        | some a => some (p + 1, pSetSt M n (some a))
def pCopy (L : LyS) : LyS := (lSz L, lSt L, lSt L, lNm L)
def pAll (L : LyS) (al : Nat) : Option Nat × LyS := match plN (pCopy L) al (lNm L) with
  | none => (none, pCopy L)
  | some (p, M) => (some p, M)
theorem pLow_spec {L : LyS} {n al a : Nat} (h : pLow L n al = some a) : a < 512 ∧ a ≤ 512 - lSz L n := by
  unfold pLow at h
  obtain ⟨i, hi, rfl⟩ := Option.map_eq_some_iff.mp h
  obtain ⟨-, h2, -⟩ := srch_spec hi
  simp only [Bool.and_eq_true, decide_eq_true_eq, pFits] at h2
  exact ⟨h2.1, h2.2.1⟩
theorem plN_spec {L : LyS} {al : Nat} (hL : LOK L) : ∀ {i p : Nat} {M : LyS}, plN L al i = some (p, M) → LOK M ∧ lSz M = lSz L ∧ lNm M = lNm L ∧ lBf M = lBf L ∧ p ≤ i := by
  intro i
  induction i with
  | zero => intro p M h; cases h; exact ⟨hL, rfl, rfl, rfl, Nat.le_refl _⟩
  | succ i ih =>
    intro p M h
    unfold plN at h
    split at h
    · cases h
    · rename_i p0 M0 h0
      obtain ⟨a1, a2, a3, a4, a5⟩ := ih h0
      split at h
      · cases h; exact ⟨a1, a2, a3, a4, by omega⟩
      · split at h
        · cases h
        · rename_i a ha
          cases h
          refine ⟨⟨a1.1, a1.2.1, fun j b hj e => ?_, a1.2.2.2⟩, a2, a3, a4, by omega⟩
          have e' : va_up (lSt M0) i (some a) j = some b := e
          unfold va_up at e'
          by_cases h9 : j = i
          · rw [if_pos h9] at e'; cases e'; have := (pLow_spec ha).1; omega
          · rw [if_neg h9] at e'; exact a1.2.2.1 j b hj e'
theorem clash_n {L : LyS} {n a o : Nat} (h : o = n) : clash L n a o = false := by
  unfold clash
  rw [decide_eq_false (fun z => z h)]
  rfl
theorem clash_0 {L : LyS} {n a o : Nat} (h : lSt L o = none) : clash L n a o = false := by
  unfold clash
  rw [h]
  exact Bool.and_false _
theorem clash_1 {L : LyS} {n a o s : Nat} (h : lSt L o = some s) (h2 : a + lSz L n ≤ s) : clash L n a o = false := by
  unfold clash
  rw [h]
  dsimp only
  rw [decide_eq_false (p := s < a + lSz L n) (by omega), Bool.false_and, Bool.and_false]
theorem clash_2 {L : LyS} {n a o s : Nat} (h : lSt L o = some s) (h2 : s + lSz L o ≤ a) : clash L n a o = false := by
  unfold clash
  rw [h]
  dsimp only
  rw [decide_eq_false (p := a < s + lSz L o) (by omega), Bool.and_false, Bool.and_false]
theorem clash_t {L : LyS} {n a o s : Nat} (h0 : ¬ o = n) (h : lSt L o = some s) (h1 : s < a + lSz L n) (h2 : a < s + lSz L o) : clash L n a o = true := by
  unfold clash
  rw [h, decide_eq_true h0]
  dsimp only
  rw [decide_eq_true h1, decide_eq_true h2]
  rfl
theorem pAt_0 {L : LyS} {x i : Nat} (h : lSt L i = none) : pAt L x i = false := by
  unfold pAt
  rw [h]
theorem pAt_1 {L : LyS} {x i s : Nat} (h : lSt L i = some s) (h2 : x < s) : pAt L x i = false := by
  unfold pAt
  rw [h]
  dsimp only
  rw [decide_eq_false (p := s ≤ x) (by omega), Bool.false_and]
theorem pAt_2 {L : LyS} {x i s : Nat} (h : lSt L i = some s) (h2 : s + lSz L i ≤ x) : pAt L x i = false := by
  unfold pAt
  rw [h]
  dsimp only
  rw [decide_eq_false (p := x < s + lSz L i) (by omega), Bool.and_false]
theorem pAt_t {L : LyS} {x i s : Nat} (h : lSt L i = some s) (h1 : s ≤ x) (h2 : x < s + lSz L i) : pAt L x i = true := by
  unfold pAt
  rw [h]
  dsimp only
  rw [decide_eq_true h1, decide_eq_true h2]
  rfl
theorem pMeet_0 {L : LyS} {n o : Nat} (h : (lSt L n).isNone = true) : pMeet L n o = false := by
  unfold pMeet
  cases h1 : lSt L n with
  | none => rfl
  | some a => rw [h1] at h; cases h
theorem pMeet_1 {L : LyS} {n o : Nat} (h : (lSt L o).isNone = true) : pMeet L n o = false := by
  unfold pMeet
  cases h1 : lSt L o with
  | none => cases lSt L n <;> rfl
  | some a => rw [h1] at h; cases h
theorem pMeet_2 {L : LyS} {n o a b : Nat} (h : lSt L n = some a) (h2 : lSt L o = some b) : pMeet L n o = (decide (a / 8 ≤ (b + lSz L o - 1) / 8) && decide (b / 8 ≤ (a + lSz L n - 1) / 8)) := by
  unfold pMeet
  rw [h, h2]
theorem plN_stop {L M : LyS} {al i k n : Nat} (h : plN L al i = some (k, M)) (hi : i < n) (h1 : lSt M i = none) (h2 : pLow M i al = none) : plN L al n = none := by
  have hs : plN L al (i + 1) = none := by
    rw [plN, h]
    dsimp only
    rw [h1]
    dsimp only
    rw [h2]
  have hk : ∀ j, plN L al (i + 1 + j) = none := by
    intro j
    induction j with
    | zero => exact hs
    | succ j ih =>
      show plN L al (i + 1 + j + 1) = none
      rw [plN, ih]
  obtain ⟨j, rfl⟩ : ∃ j, n = i + 1 + j := ⟨n - (i + 1), by omega⟩
  exact hk j
/-! an event: kind, core, name, line, cost, cause -/
abbrev Ev : Type := Nat × Nat × Option Nat × Option Nat × Nat × UInt16
abbrev eKd (e : Ev) : Nat := e.1
abbrev eCo (e : Ev) : Nat := e.2.1
abbrev eNa (e : Ev) : Option Nat := e.2.2.1
abbrev eLi (e : Ev) : Option Nat := e.2.2.2.1
abbrev eCs (e : Ev) : Nat := e.2.2.2.2.1
abbrev eCa (e : Ev) : UInt16 := e.2.2.2.2.2
def evC (e : Ev) : va_E := .inr (4, [.int (nI (eKd e)), .int (nI (eCo e)), .int (oI (eNa e)), .int (oI (eLi e)), .int (nI (eCs e)), .int (cI (eCa e))])
def wE1 (h : Nat) (e : Ev) : va_W := [(h, evC e)]
