/-! the reference: a new object -/
def iniO (n : Nat) : Nat → Option Nat := fun j => if j < n then none else some 0
def iniC (n : Nat) : Nat → UInt16 := fun j => if j < n then UInt16.ofNat 45 else 0
def iniL (n : Nat) : Nat → Int32 := fun j => if j < n then (-1) else 0
theorem iniO_0 : (fun _ => some 0) = iniO 0 := by
  funext j
  unfold iniO
  rw [if_neg (by omega)]
theorem iniC_0 : (fun _ => 0) = iniC 0 := by
  funext j
  unfold iniC
  rw [if_neg (by omega)]
theorem iniL_0 : (fun _ => 0) = iniL 0 := by
  funext j
  unfold iniL
  rw [if_neg (by omega)]
theorem iniO_s (i : Nat) : va_up (iniO i) i none = iniO (i + 1) := by
  funext j
  unfold va_up iniO
  by_cases h : j = i
  · subst h; rw [if_pos rfl, if_pos (by omega)]
  · rw [if_neg h]
    by_cases h2 : j < i
    · rw [if_pos h2, if_pos (by omega)]
    · rw [if_neg h2, if_neg (by omega)]
theorem iniC_s (i : Nat) : va_up (iniC i) i (UInt16.ofNat 45) = iniC (i + 1) := by
  funext j
  unfold va_up iniC
  by_cases h : j = i
  · subst h; rw [if_pos rfl, if_pos (by omega)]
  · rw [if_neg h]
    by_cases h2 : j < i
    · rw [if_pos h2, if_pos (by omega)]
    · rw [if_neg h2, if_neg (by omega)]
theorem iniL_s (i : Nat) : upd (iniL i) i (-1) = iniL (i + 1) := by
  funext j
  unfold upd iniL
  by_cases h : j = i
  · subst h; rw [if_pos rfl, if_pos (by omega)]
  · rw [if_neg h]
    by_cases h2 : j < i
    · rw [if_pos h2, if_pos (by omega)]
    · rw [if_neg h2, if_neg (by omega)]
def mInit : MdS := (fun _ => 0, iniO 12, iniC 256, fun _ => 0, iniL 256, fun _ => false, fun _ => false, fun _ => 0, fun _ => 0, fun _ => 0, fun _ => 0, fun _ => 0, fun _ => 0, fun _ => 0, fun _ => 0, fun _ => 0, fun _ => 0, 0, 0, 0, nI 0, 64)
theorem mInit_ok : MOK mInit := by
  refine ⟨by decide, fun i _ => Nat.zero_le _, fun i a hi e => ?_, fun i hi => absurd hi (Nat.not_lt_zero i), by decide, by decide, by decide⟩
  have h9 : iniO 12 i = none := if_pos hi
  have e : iniO 12 i = some a := e
  rw [h9] at e
  cases e
